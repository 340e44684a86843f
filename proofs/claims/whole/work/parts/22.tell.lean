set_option maxHeartbeats 4000000 in
set_option maxRecDepth 100000 in
/-- append -/
theorem cl_append (l : Launch) (dC : Nat → ClassId) (dI : Nat → Nat → Nat) (cJ cI cZ : Nat) (sz : Nat) (h : Nat) (hweights : Nat) (hprices : Nat) (hones : Nat) (hparts : Nat) (hrests : Nat) (xsize : Nat) (xweightSum : Int64) (xpriceSum : Int64) (fweights : Nat → Int64) (fprices : Nat → Int64) (fones : Nat → Int64) (wt : Int64) (pr : Int64) (hn : xsize < 40) : Met l yn_L_append ws_L_append ({ frames := 0, cells := 0, slots := 0, locals := 0 }) (va_Pc [.ref h, .long wt, .long pr] (qv_pre (dC, dI) cls_t [(h, .inr (2, [.ref hweights, .ref hprices, .ref hones, .ref hparts, .ref hrests, .int (nI xsize), .long xweightSum, .long xpriceSum])), (hweights, .inl (cJ, 40, .inr (.inl fweights))), (hprices, .inl (cJ, 40, .inr (.inl fprices))), (hones, .inl (cJ, 40, .inr (.inl fones)))] [(cJ, .long), (cI, .int), (cZ, .boolean)] sz)) (va_Qi (fun (r : Int32) (_ : Unit) => r = nI xsize) (qv_post (dC, dI) cls_t (fun (_ : Unit) => [(h, .inr (2, [.ref hweights, .ref hprices, .ref hones, .ref hparts, .ref hrests, .int (nI (xsize + 1)), .long (xweightSum + wt), .long (xpriceSum + pr)])), (hweights, .inl (cJ, 40, .inr (.inl (vp_updL fweights xsize wt)))), (hprices, .inl (cJ, 40, .inr (.inl (vp_updL fprices xsize pr)))), (hones, .inl (cJ, 40, .inr (.inl (vp_updL fones xsize 1))))]) [(cJ, .long), (cI, .int), (cZ, .boolean)] (va_A [(h, .inr (2, [.ref hweights, .ref hprices, .ref hones, .ref hparts, .ref hrests, .int (nI xsize), .long xweightSum, .long xpriceSum])), (hweights, .inl (cJ, 40, .inr (.inl fweights))), (hprices, .inl (cJ, 40, .inr (.inl fprices))), (hones, .inl (cJ, 40, .inr (.inl fones)))] sz)) (va_A [(h, .inr (2, [.ref hweights, .ref hprices, .ref hones, .ref hparts, .ref hrests, .int (nI xsize), .long xweightSum, .long xpriceSum])), (hweights, .inl (cJ, 40, .inr (.inl fweights))), (hprices, .inl (cJ, 40, .inr (.inl fprices))), (hones, .inl (cJ, 40, .inr (.inl fones)))] sz)) 0 0 (va_A [(h, .inr (2, [.ref hweights, .ref hprices, .ref hones, .ref hparts, .ref hrests, .int (nI xsize), .long xweightSum, .long xpriceSum])), (hweights, .inl (cJ, 40, .inr (.inl fweights))), (hprices, .inl (cJ, 40, .inr (.inl fprices))), (hones, .inl (cJ, 40, .inr (.inl fones)))] sz) := by
  refine Met.ofW (cc := by_L_append) (maxL := 5) (ret := (some .int)) (by decide) rfl ?_
  intro p e s m args below meth c s₁ B hml hv
  obtain ⟨rfl, hsz, hP, hK, hD0⟩ := hv
  have hx := B.exec
  have hb := B.bytes
  have hr := B.returns
  have hts := fun (w : Cond) (h : w ∈ lw_gt) => atoms_spec (ws := ws_L_append) B.pre w (List.mem_cons_of_mem _ h)
  have hown : s.vm.findClass rn_L = some m.cls := findClass_of_methodNamed B.named
  have hlocks := B.notSynchronized
  subst hsz
  have hD := hD0.self (sz := s.heap.size)
  generalize hAe : va_A [(h, .inr (2, [.ref hweights, .ref hprices, .ref hones, .ref hparts, .ref hrests, .int (nI xsize), .long xweightSum, .long xpriceSum])), (hweights, .inl (cJ, 40, .inr (.inl fweights))), (hprices, .inl (cJ, 40, .inr (.inl fprices))), (hones, .inl (cJ, 40, .inr (.inl fones)))] s.heap.size = A at hD ⊢
  have hA : ∀ q : Nat, s.heap.size ≤ q → A q := fun q h => by rw [← hAe]; exact Or.inr h
  have hS : va_S A s.heap s.heap [] := va_S.rf
  have hP : va_P (dC, dI) cls_t [(h, .inr (2, [.ref hweights, .ref hprices, .ref hones, .ref hparts, .ref hrests, .int (nI xsize), .long xweightSum, .long xpriceSum])), (hweights, .inl (cJ, 40, .inr (.inl fweights))), (hprices, .inl (cJ, 40, .inr (.inl fprices))), (hones, .inl (cJ, 40, .inr (.inl fones)))] s.heap := hP
  have hl := lv_entry ([.ref h, .long wt, .long pr]) (n := 5) (Nat.le_of_ble_eq_true rfl)
  rw [lg_entry_eq]
  generalize (lg_sl ([.ref h, .long wt, .long pr]) ++ List.replicate (5 - (lg_sl ([.ref h, .long wt, .long pr])).length) Slot.unset).toArray = ls at hl ⊢
  have hl : lv_has ls 5 [(0, .ref h), (1, .long wt), (3, .long pr)] := hl
  refine lv_aload_n hx hb de_L_append_0 rfl (lv_at hl 0 rfl) ?_
  refine va_get (D := (dC, dI)) (ci := 2) (v := .ref hweights) (C := rn_L) (T := tf_L) (N := 8) hx hb hts in_L hown hK hP 0 rfl rfl 0 (by decide) (hts _ wd_71) (fun _ h9 => h9) rfl de_L_append_1 ?_
  refine lv_aload_n hx hb de_L_append_4 rfl (lv_at hl 0 rfl) ?_
  refine va_get (D := (dC, dI)) (ci := 2) (v := .int (nI xsize)) (C := rn_L) (T := tf_L) (N := 8) hx hb hts in_L hown hK hP 0 rfl rfl 5 (by decide) (hts _ wd_76) (fun _ h9 => h9) rfl de_L_append_5 ?_
  refine lv_lload_n hx hb de_L_append_8 rfl (lv_at hl 1 rfl) ?_
  refine qv_last (k := xsize) hx hb hK hP hD hS 1 0 rfl rfl (by omega) (by omega) de_L_append_9 (fun H locs hP hD hS => ?_)
  have hP : va_P (dC, dI) cls_t [(h, .inr (2, [.ref hweights, .ref hprices, .ref hones, .ref hparts, .ref hrests, .int (nI xsize), .long xweightSum, .long xpriceSum])), (hweights, .inl (cJ, 40, .inr (.inl (vp_updL fweights xsize wt)))), (hprices, .inl (cJ, 40, .inr (.inl fprices))), (hones, .inl (cJ, 40, .inr (.inl fones)))] H := hP
  have hD : va_D A [(h, .inr (2, [.ref hweights, .ref hprices, .ref hones, .ref hparts, .ref hrests, .int (nI xsize), .long xweightSum, .long xpriceSum])), (hweights, .inl (cJ, 40, .inr (.inl (vp_updL fweights xsize wt)))), (hprices, .inl (cJ, 40, .inr (.inl fprices))), (hones, .inl (cJ, 40, .inr (.inl fones)))] := hD
  refine lv_aload_n hx hb de_L_append_10 rfl (lv_at hl 0 rfl) ?_
  refine va_get (D := (dC, dI)) (ci := 2) (v := .ref hprices) (C := rn_L) (T := tf_L) (N := 8) hx hb hts in_L hown hK hP 0 rfl rfl 1 (by decide) (hts _ wd_72) (fun _ h9 => h9) rfl de_L_append_11 ?_
  refine lv_aload_n hx hb de_L_append_14 rfl (lv_at hl 0 rfl) ?_
  refine va_get (D := (dC, dI)) (ci := 2) (v := .int (nI xsize)) (C := rn_L) (T := tf_L) (N := 8) hx hb hts in_L hown hK hP 0 rfl rfl 5 (by decide) (hts _ wd_76) (fun _ h9 => h9) rfl de_L_append_15 ?_
  refine lv_lload_n hx hb de_L_append_18 rfl (lv_at hl 2 rfl) ?_
  refine qv_last (k := xsize) hx hb hK hP hD hS 2 0 rfl rfl (by omega) (by omega) de_L_append_19 (fun H locs hP hD hS => ?_)
  have hP : va_P (dC, dI) cls_t [(h, .inr (2, [.ref hweights, .ref hprices, .ref hones, .ref hparts, .ref hrests, .int (nI xsize), .long xweightSum, .long xpriceSum])), (hweights, .inl (cJ, 40, .inr (.inl (vp_updL fweights xsize wt)))), (hprices, .inl (cJ, 40, .inr (.inl (vp_updL fprices xsize pr)))), (hones, .inl (cJ, 40, .inr (.inl fones)))] H := hP
  have hD : va_D A [(h, .inr (2, [.ref hweights, .ref hprices, .ref hones, .ref hparts, .ref hrests, .int (nI xsize), .long xweightSum, .long xpriceSum])), (hweights, .inl (cJ, 40, .inr (.inl (vp_updL fweights xsize wt)))), (hprices, .inl (cJ, 40, .inr (.inl (vp_updL fprices xsize pr)))), (hones, .inl (cJ, 40, .inr (.inl fones)))] := hD
  refine lv_aload_n hx hb de_L_append_20 rfl (lv_at hl 0 rfl) ?_
  refine va_get (D := (dC, dI)) (ci := 2) (v := .ref hones) (C := rn_L) (T := tf_L) (N := 8) hx hb hts in_L hown hK hP 0 rfl rfl 2 (by decide) (hts _ wd_73) (fun _ h9 => h9) rfl de_L_append_21 ?_
  refine lv_aload_n hx hb de_L_append_24 rfl (lv_at hl 0 rfl) ?_
  refine va_get (D := (dC, dI)) (ci := 2) (v := .int (nI xsize)) (C := rn_L) (T := tf_L) (N := 8) hx hb hts in_L hown hK hP 0 rfl rfl 5 (by decide) (hts _ wd_76) (fun _ h9 => h9) rfl de_L_append_25 ?_
  refine lv_lconst (v := 1) hx hb de_L_append_28 (by decide) ?_
  refine qv_last (k := xsize) hx hb hK hP hD hS 3 0 rfl rfl (by omega) (by omega) de_L_append_29 (fun H locs hP hD hS => ?_)
  have hP : va_P (dC, dI) cls_t [(h, .inr (2, [.ref hweights, .ref hprices, .ref hones, .ref hparts, .ref hrests, .int (nI xsize), .long xweightSum, .long xpriceSum])), (hweights, .inl (cJ, 40, .inr (.inl (vp_updL fweights xsize wt)))), (hprices, .inl (cJ, 40, .inr (.inl (vp_updL fprices xsize pr)))), (hones, .inl (cJ, 40, .inr (.inl (vp_updL fones xsize 1))))] H := hP
  have hD : va_D A [(h, .inr (2, [.ref hweights, .ref hprices, .ref hones, .ref hparts, .ref hrests, .int (nI xsize), .long xweightSum, .long xpriceSum])), (hweights, .inl (cJ, 40, .inr (.inl (vp_updL fweights xsize wt)))), (hprices, .inl (cJ, 40, .inr (.inl (vp_updL fprices xsize pr)))), (hones, .inl (cJ, 40, .inr (.inl (vp_updL fones xsize 1))))] := hD
  refine lv_aload_n hx hb de_L_append_30 rfl (lv_at hl 0 rfl) ?_
  refine lv_dup hx hb de_L_append_31 rfl ?_
  refine va_get (D := (dC, dI)) (ci := 2) (v := .long xweightSum) (C := rn_L) (T := tf_L) (N := 8) hx hb hts in_L hown hK hP 0 rfl rfl 6 (by decide) (hts _ wd_77) (fun _ h9 => h9) rfl de_L_append_32 ?_
  refine lv_lload_n hx hb de_L_append_35 rfl (lv_at hl 1 rfl) ?_
  refine lv_ladd hx hb de_L_append_36 ?_
  refine va_put (D := (dC, dI)) (ci := 2) (v := .long (xweightSum + wt)) (ty := .long) (C := rn_L) (T := tf_L) (N := 8) hx hb hts in_L ty_L tk_L nm_L hown hK hP hD hS 0 rfl rfl 6 (by decide) (hts _ wd_77) (fun _ h9 => h9) rfl (by decide +kernel) rfl rfl (Nat.le_of_ble_eq_true rfl) de_L_append_37 (fun H locs hP hD hS => ?_)
  have hP : va_P (dC, dI) cls_t [(h, .inr (2, [.ref hweights, .ref hprices, .ref hones, .ref hparts, .ref hrests, .int (nI xsize), .long (xweightSum + wt), .long xpriceSum])), (hweights, .inl (cJ, 40, .inr (.inl (vp_updL fweights xsize wt)))), (hprices, .inl (cJ, 40, .inr (.inl (vp_updL fprices xsize pr)))), (hones, .inl (cJ, 40, .inr (.inl (vp_updL fones xsize 1))))] H := hP
  have hD : va_D A [(h, .inr (2, [.ref hweights, .ref hprices, .ref hones, .ref hparts, .ref hrests, .int (nI xsize), .long (xweightSum + wt), .long xpriceSum])), (hweights, .inl (cJ, 40, .inr (.inl (vp_updL fweights xsize wt)))), (hprices, .inl (cJ, 40, .inr (.inl (vp_updL fprices xsize pr)))), (hones, .inl (cJ, 40, .inr (.inl (vp_updL fones xsize 1))))] := hD
  refine lv_aload_n hx hb de_L_append_40 rfl (lv_at hl 0 rfl) ?_
  refine lv_dup hx hb de_L_append_41 rfl ?_
  refine va_get (D := (dC, dI)) (ci := 2) (v := .long xpriceSum) (C := rn_L) (T := tf_L) (N := 8) hx hb hts in_L hown hK hP 0 rfl rfl 7 (by decide) (hts _ wd_78) (fun _ h9 => h9) rfl de_L_append_42 ?_
  refine lv_lload_n hx hb de_L_append_45 rfl (lv_at hl 2 rfl) ?_
  refine lv_ladd hx hb de_L_append_46 ?_
  refine va_put (D := (dC, dI)) (ci := 2) (v := .long (xpriceSum + pr)) (ty := .long) (C := rn_L) (T := tf_L) (N := 8) hx hb hts in_L ty_L tk_L nm_L hown hK hP hD hS 0 rfl rfl 7 (by decide) (hts _ wd_78) (fun _ h9 => h9) rfl (by decide +kernel) rfl rfl (Nat.le_of_ble_eq_true rfl) de_L_append_47 (fun H locs hP hD hS => ?_)
  have hP : va_P (dC, dI) cls_t [(h, .inr (2, [.ref hweights, .ref hprices, .ref hones, .ref hparts, .ref hrests, .int (nI xsize), .long (xweightSum + wt), .long (xpriceSum + pr)])), (hweights, .inl (cJ, 40, .inr (.inl (vp_updL fweights xsize wt)))), (hprices, .inl (cJ, 40, .inr (.inl (vp_updL fprices xsize pr)))), (hones, .inl (cJ, 40, .inr (.inl (vp_updL fones xsize 1))))] H := hP
  have hD : va_D A [(h, .inr (2, [.ref hweights, .ref hprices, .ref hones, .ref hparts, .ref hrests, .int (nI xsize), .long (xweightSum + wt), .long (xpriceSum + pr)])), (hweights, .inl (cJ, 40, .inr (.inl (vp_updL fweights xsize wt)))), (hprices, .inl (cJ, 40, .inr (.inl (vp_updL fprices xsize pr)))), (hones, .inl (cJ, 40, .inr (.inl (vp_updL fones xsize 1))))] := hD
  refine lv_aload_n hx hb de_L_append_50 rfl (lv_at hl 0 rfl) ?_
  refine lv_dup hx hb de_L_append_51 rfl ?_
  refine va_get (D := (dC, dI)) (ci := 2) (v := .int (nI xsize)) (C := rn_L) (T := tf_L) (N := 8) hx hb hts in_L hown hK hP 0 rfl rfl 5 (by decide) (hts _ wd_76) (fun _ h9 => h9) rfl de_L_append_52 ?_
  refine lv_iconst (v := 1) hx hb de_L_append_55 (by decide) ?_
  refine lv_iadd hx hb de_L_append_56 ?_
  rw [nI_1]
  refine va_put (D := (dC, dI)) (ci := 2) (v := .int (nI (xsize + 1))) (ty := .int) (C := rn_L) (T := tf_L) (N := 8) hx hb hts in_L ty_L tk_L nm_L hown hK hP hD hS 0 rfl rfl 5 (by decide) (hts _ wd_76) (fun _ h9 => h9) rfl (by decide +kernel) rfl rfl (Nat.le_of_ble_eq_true rfl) de_L_append_57 (fun H locs hP hD hS => ?_)
  have hP : va_P (dC, dI) cls_t [(h, .inr (2, [.ref hweights, .ref hprices, .ref hones, .ref hparts, .ref hrests, .int (nI (xsize + 1)), .long (xweightSum + wt), .long (xpriceSum + pr)])), (hweights, .inl (cJ, 40, .inr (.inl (vp_updL fweights xsize wt)))), (hprices, .inl (cJ, 40, .inr (.inl (vp_updL fprices xsize pr)))), (hones, .inl (cJ, 40, .inr (.inl (vp_updL fones xsize 1))))] H := hP
  have hD : va_D A [(h, .inr (2, [.ref hweights, .ref hprices, .ref hones, .ref hparts, .ref hrests, .int (nI (xsize + 1)), .long (xweightSum + wt), .long (xpriceSum + pr)])), (hweights, .inl (cJ, 40, .inr (.inl (vp_updL fweights xsize wt)))), (hprices, .inl (cJ, 40, .inr (.inl (vp_updL fprices xsize pr)))), (hones, .inl (cJ, 40, .inr (.inl (vp_updL fones xsize 1))))] := hD
  refine lv_aload_n hx hb de_L_append_60 rfl (lv_at hl 0 rfl) ?_
  refine va_get (D := (dC, dI)) (ci := 2) (v := .int (nI (xsize + 1))) (C := rn_L) (T := tf_L) (N := 8) hx hb hts in_L hown hK hP 0 rfl rfl 5 (by decide) (hts _ wd_76) (fun _ h9 => h9) rfl de_L_append_61 ?_
  refine lv_iconst (v := 1) hx hb de_L_append_64 (by decide) ?_
  refine lv_isub hx hb de_L_append_65 ?_
  rw [nI_pred]
  exact W.iret (v := nI xsize) hx hb hr (fun t9 ht9 hW9 => ⟨⟨(nI xsize), (), rfl, rfl, by rw [ht9]; exact hP, va_K.moved hW9.alike hK, hD⟩, hS.F ht9⟩) hS.2.2 de_L_append_66
set_option maxHeartbeats 4000000 in
set_option maxRecDepth 100000 in
/-- tell of Charges -/
theorem cc_tell (l : Launch) (dC : Nat → ClassId) (dI : Nat → Nat → Nat) (cJ cI cZ : Nat) (sz : Nat) (h : Nat) (hcents : Nat) (hbyWeight : Nat) (htold : Nat) (xtoldKinds : Nat) (xtotal : Int64) (K : Nat) (fcents : Nat → Int64) (fbyWeight : Nat → Int32) (ftold : Nat → Int32) (k : Nat) (am : Int64) (bw : Int32) (hk : k < K) (hKn : K ≤ 5) (hb : bw = 0 ∨ bw = 1) : Met l yn_C_tell ws_C_tell ({ frames := 0, cells := 0, slots := 0, locals := 0 }) (va_Pc [.ref h, .int (nI k), .long am, .int bw] (qv_pre (dC, dI) cls_t [(h, .inr (0, [.ref hcents, .ref hbyWeight, .ref htold, .int (nI xtoldKinds), .long xtotal])), (hcents, .inl (cJ, K, .inr (.inl fcents))), (hbyWeight, .inl (cZ, K, .inl fbyWeight)), (htold, .inl (cZ, K, .inl ftold))] [(cJ, .long), (cI, .int), (cZ, .boolean)] sz)) (va_Qi (fun (r : Int32) (_ : Unit) => r = if ftold k = 0 then 1 else 0) (qv_post (dC, dI) cls_t (fun (_ : Unit) => [(h, .inr (0, [.ref hcents, .ref hbyWeight, .ref htold, .int (nI (if ftold k = 0 then xtoldKinds + 1 else xtoldKinds)), .long (if ftold k = 0 then xtotal + am else xtotal)])), (hcents, .inl (cJ, K, .inr (.inl (if ftold k = 0 then vp_updL fcents k am else fcents)))), (hbyWeight, .inl (cZ, K, .inl (if ftold k = 0 then upd fbyWeight k bw else fbyWeight))), (htold, .inl (cZ, K, .inl (if ftold k = 0 then upd ftold k 1 else ftold)))]) [(cJ, .long), (cI, .int), (cZ, .boolean)] (va_A [(h, .inr (0, [.ref hcents, .ref hbyWeight, .ref htold, .int (nI xtoldKinds), .long xtotal])), (hcents, .inl (cJ, K, .inr (.inl fcents))), (hbyWeight, .inl (cZ, K, .inl fbyWeight)), (htold, .inl (cZ, K, .inl ftold))] sz)) (va_A [(h, .inr (0, [.ref hcents, .ref hbyWeight, .ref htold, .int (nI xtoldKinds), .long xtotal])), (hcents, .inl (cJ, K, .inr (.inl fcents))), (hbyWeight, .inl (cZ, K, .inl fbyWeight)), (htold, .inl (cZ, K, .inl ftold))] sz)) 0 0 (va_A [(h, .inr (0, [.ref hcents, .ref hbyWeight, .ref htold, .int (nI xtoldKinds), .long xtotal])), (hcents, .inl (cJ, K, .inr (.inl fcents))), (hbyWeight, .inl (cZ, K, .inl fbyWeight)), (htold, .inl (cZ, K, .inl ftold))] sz) := by
  refine Met.ofW (cc := by_C_tell) (maxL := 5) (ret := (some .boolean)) (by decide) rfl ?_
  intro p e s m args below meth c s₁ B hml hv
  obtain ⟨rfl, hsz, hP, hK, hD0⟩ := hv
  have hx := B.exec
  have hb := B.bytes
  have hr := B.returns
  have hts := fun (w : Cond) (h : w ∈ lw_gt) => atoms_spec (ws := ws_C_tell) B.pre w (List.mem_cons_of_mem _ h)
  have hown : s.vm.findClass rn_C = some m.cls := findClass_of_methodNamed B.named
  have hlocks := B.notSynchronized
  subst hsz
  have hD := hD0.self (sz := s.heap.size)
  generalize hAe : va_A [(h, .inr (0, [.ref hcents, .ref hbyWeight, .ref htold, .int (nI xtoldKinds), .long xtotal])), (hcents, .inl (cJ, K, .inr (.inl fcents))), (hbyWeight, .inl (cZ, K, .inl fbyWeight)), (htold, .inl (cZ, K, .inl ftold))] s.heap.size = A at hD ⊢
  have hA : ∀ q : Nat, s.heap.size ≤ q → A q := fun q h => by rw [← hAe]; exact Or.inr h
  have hS : va_S A s.heap s.heap [] := va_S.rf
  have hP : va_P (dC, dI) cls_t [(h, .inr (0, [.ref hcents, .ref hbyWeight, .ref htold, .int (nI xtoldKinds), .long xtotal])), (hcents, .inl (cJ, K, .inr (.inl fcents))), (hbyWeight, .inl (cZ, K, .inl fbyWeight)), (htold, .inl (cZ, K, .inl ftold))] s.heap := hP
  have hl := lv_entry ([.ref h, .int (nI k), .long am, .int bw]) (n := 5) (Nat.le_of_ble_eq_true rfl)
  rw [lg_entry_eq]
  generalize (lg_sl ([.ref h, .int (nI k), .long am, .int bw]) ++ List.replicate (5 - (lg_sl ([.ref h, .int (nI k), .long am, .int bw])).length) Slot.unset).toArray = ls at hl ⊢
  have hl : lv_has ls 5 [(0, .ref h), (1, .int (nI k)), (2, .long am), (4, .int bw)] := hl
  refine lv_aload_n hx hb de_C_tell_0 rfl (lv_at hl 0 rfl) ?_
  refine va_get (D := (dC, dI)) (ci := 0) (v := .ref htold) (C := rn_C) (T := tf_C) (N := 5) hx hb hts in_C hown hK hP 0 rfl rfl 2 (by decide) (hts _ wd_105) (fun _ h9 => h9) rfl de_C_tell_1 ?_
  refine lv_iload_n hx hb de_C_tell_4 rfl (lv_at hl 1 rfl) ?_
  refine qv_zald (k := k) hx hb hK hP 3 2 rfl rfl (by omega) (by omega) de_C_tell_5 ?_
  refine lv_if_eq (tgt := 11) hx hb de_C_tell_6 (by decide) (fun c_1 => ?_) (fun c_1 => ?_)
  · refine lv_aload_n hx hb de_C_tell_11 rfl (lv_at hl 0 rfl) ?_
    refine va_get (D := (dC, dI)) (ci := 0) (v := .ref htold) (C := rn_C) (T := tf_C) (N := 5) hx hb hts in_C hown hK hP 0 rfl rfl 2 (by decide) (hts _ wd_105) (fun _ h9 => h9) rfl de_C_tell_12 ?_
    refine lv_iload_n hx hb de_C_tell_15 rfl (lv_at hl 1 rfl) ?_
    refine lv_iconst (v := 1) hx hb de_C_tell_16 (by decide) ?_
    refine qv_zast (k := k) hx hb hK hP hD hS 3 2 rfl rfl (by omega) (by omega) (lp_nb (Or.inr rfl)) de_C_tell_17 (fun H locs hP hD hS => ?_)
    have hP : va_P (dC, dI) cls_t [(h, .inr (0, [.ref hcents, .ref hbyWeight, .ref htold, .int (nI xtoldKinds), .long xtotal])), (hcents, .inl (cJ, K, .inr (.inl fcents))), (hbyWeight, .inl (cZ, K, .inl fbyWeight)), (htold, .inl (cZ, K, .inl (upd ftold k 1)))] H := hP
    have hD : va_D A [(h, .inr (0, [.ref hcents, .ref hbyWeight, .ref htold, .int (nI xtoldKinds), .long xtotal])), (hcents, .inl (cJ, K, .inr (.inl fcents))), (hbyWeight, .inl (cZ, K, .inl fbyWeight)), (htold, .inl (cZ, K, .inl (upd ftold k 1)))] := hD
    refine lv_aload_n hx hb de_C_tell_18 rfl (lv_at hl 0 rfl) ?_
    refine va_get (D := (dC, dI)) (ci := 0) (v := .ref hcents) (C := rn_C) (T := tf_C) (N := 5) hx hb hts in_C hown hK hP 0 rfl rfl 0 (by decide) (hts _ wd_103) (fun _ h9 => h9) rfl de_C_tell_19 ?_
    refine lv_iload_n hx hb de_C_tell_22 rfl (lv_at hl 1 rfl) ?_
    refine lv_lload_n hx hb de_C_tell_23 rfl (lv_at hl 2 rfl) ?_
    refine qv_last (k := k) hx hb hK hP hD hS 1 0 rfl rfl (by omega) (by omega) de_C_tell_24 (fun H locs hP hD hS => ?_)
    have hP : va_P (dC, dI) cls_t [(h, .inr (0, [.ref hcents, .ref hbyWeight, .ref htold, .int (nI xtoldKinds), .long xtotal])), (hcents, .inl (cJ, K, .inr (.inl (vp_updL fcents k am)))), (hbyWeight, .inl (cZ, K, .inl fbyWeight)), (htold, .inl (cZ, K, .inl (upd ftold k 1)))] H := hP
    have hD : va_D A [(h, .inr (0, [.ref hcents, .ref hbyWeight, .ref htold, .int (nI xtoldKinds), .long xtotal])), (hcents, .inl (cJ, K, .inr (.inl (vp_updL fcents k am)))), (hbyWeight, .inl (cZ, K, .inl fbyWeight)), (htold, .inl (cZ, K, .inl (upd ftold k 1)))] := hD
    refine lv_aload_n hx hb de_C_tell_25 rfl (lv_at hl 0 rfl) ?_
    refine va_get (D := (dC, dI)) (ci := 0) (v := .ref hbyWeight) (C := rn_C) (T := tf_C) (N := 5) hx hb hts in_C hown hK hP 0 rfl rfl 1 (by decide) (hts _ wd_104) (fun _ h9 => h9) rfl de_C_tell_26 ?_
    refine lv_iload_n hx hb de_C_tell_29 rfl (lv_at hl 1 rfl) ?_
    refine lv_iload hx hb de_C_tell_30 (lv_at hl 3 rfl) ?_
    refine qv_zast (k := k) hx hb hK hP hD hS 2 2 rfl rfl (by omega) (by omega) (lp_nb (by assumption)) de_C_tell_32 (fun H locs hP hD hS => ?_)
    have hP : va_P (dC, dI) cls_t [(h, .inr (0, [.ref hcents, .ref hbyWeight, .ref htold, .int (nI xtoldKinds), .long xtotal])), (hcents, .inl (cJ, K, .inr (.inl (vp_updL fcents k am)))), (hbyWeight, .inl (cZ, K, .inl (upd fbyWeight k bw))), (htold, .inl (cZ, K, .inl (upd ftold k 1)))] H := hP
    have hD : va_D A [(h, .inr (0, [.ref hcents, .ref hbyWeight, .ref htold, .int (nI xtoldKinds), .long xtotal])), (hcents, .inl (cJ, K, .inr (.inl (vp_updL fcents k am)))), (hbyWeight, .inl (cZ, K, .inl (upd fbyWeight k bw))), (htold, .inl (cZ, K, .inl (upd ftold k 1)))] := hD
    refine lv_aload_n hx hb de_C_tell_33 rfl (lv_at hl 0 rfl) ?_
    refine lv_dup hx hb de_C_tell_34 rfl ?_
    refine va_get (D := (dC, dI)) (ci := 0) (v := .int (nI xtoldKinds)) (C := rn_C) (T := tf_C) (N := 5) hx hb hts in_C hown hK hP 0 rfl rfl 3 (by decide) (hts _ wd_106) (fun _ h9 => h9) rfl de_C_tell_35 ?_
    refine lv_iconst (v := 1) hx hb de_C_tell_38 (by decide) ?_
    refine lv_iadd hx hb de_C_tell_39 ?_
    rw [nI_1]
    refine va_put (D := (dC, dI)) (ci := 0) (v := .int (nI (xtoldKinds + 1))) (ty := .int) (C := rn_C) (T := tf_C) (N := 5) hx hb hts in_C ty_C tk_C nm_C hown hK hP hD hS 0 rfl rfl 3 (by decide) (hts _ wd_106) (fun _ h9 => h9) rfl (by decide +kernel) rfl rfl (Nat.le_of_ble_eq_true rfl) de_C_tell_40 (fun H locs hP hD hS => ?_)
    have hP : va_P (dC, dI) cls_t [(h, .inr (0, [.ref hcents, .ref hbyWeight, .ref htold, .int (nI (xtoldKinds + 1)), .long xtotal])), (hcents, .inl (cJ, K, .inr (.inl (vp_updL fcents k am)))), (hbyWeight, .inl (cZ, K, .inl (upd fbyWeight k bw))), (htold, .inl (cZ, K, .inl (upd ftold k 1)))] H := hP
    have hD : va_D A [(h, .inr (0, [.ref hcents, .ref hbyWeight, .ref htold, .int (nI (xtoldKinds + 1)), .long xtotal])), (hcents, .inl (cJ, K, .inr (.inl (vp_updL fcents k am)))), (hbyWeight, .inl (cZ, K, .inl (upd fbyWeight k bw))), (htold, .inl (cZ, K, .inl (upd ftold k 1)))] := hD
    refine lv_aload_n hx hb de_C_tell_43 rfl (lv_at hl 0 rfl) ?_
    refine lv_dup hx hb de_C_tell_44 rfl ?_
    refine va_get (D := (dC, dI)) (ci := 0) (v := .long xtotal) (C := rn_C) (T := tf_C) (N := 5) hx hb hts in_C hown hK hP 0 rfl rfl 4 (by decide) (hts _ wd_107) (fun _ h9 => h9) rfl de_C_tell_45 ?_
    refine lv_lload_n hx hb de_C_tell_48 rfl (lv_at hl 2 rfl) ?_
    refine lv_ladd hx hb de_C_tell_49 ?_
    refine va_put (D := (dC, dI)) (ci := 0) (v := .long (xtotal + am)) (ty := .long) (C := rn_C) (T := tf_C) (N := 5) hx hb hts in_C ty_C tk_C nm_C hown hK hP hD hS 0 rfl rfl 4 (by decide) (hts _ wd_107) (fun _ h9 => h9) rfl (by decide +kernel) rfl rfl (Nat.le_of_ble_eq_true rfl) de_C_tell_50 (fun H locs hP hD hS => ?_)
    have hP : va_P (dC, dI) cls_t [(h, .inr (0, [.ref hcents, .ref hbyWeight, .ref htold, .int (nI (xtoldKinds + 1)), .long (xtotal + am)])), (hcents, .inl (cJ, K, .inr (.inl (vp_updL fcents k am)))), (hbyWeight, .inl (cZ, K, .inl (upd fbyWeight k bw))), (htold, .inl (cZ, K, .inl (upd ftold k 1)))] H := hP
    have hD : va_D A [(h, .inr (0, [.ref hcents, .ref hbyWeight, .ref htold, .int (nI (xtoldKinds + 1)), .long (xtotal + am)])), (hcents, .inl (cJ, K, .inr (.inl (vp_updL fcents k am)))), (hbyWeight, .inl (cZ, K, .inl (upd fbyWeight k bw))), (htold, .inl (cZ, K, .inl (upd ftold k 1)))] := hD
    refine lv_iconst (v := 1) hx hb de_C_tell_53 (by decide) ?_
    have e_2 : (nI (xtoldKinds + 1) : Int32) = (nI (if ftold k = 0 then xtoldKinds + 1 else xtoldKinds)) := by simp only [if_pos c_1]
    have e_3 : (xtotal + am : Int64) = (if ftold k = 0 then xtotal + am else xtotal) := by simp only [if_pos c_1]
    have e_4 : (vp_updL fcents k am) = (if ftold k = 0 then vp_updL fcents k am else fcents) := by simp only [if_pos c_1]
    have e_5 : (upd fbyWeight k bw) = (if ftold k = 0 then upd fbyWeight k bw else fbyWeight) := by simp only [if_pos c_1]
    have e_6 : (upd ftold k 1) = (if ftold k = 0 then upd ftold k 1 else ftold) := by simp only [if_pos c_1]
    have hP : va_P (dC, dI) cls_t [(h, .inr (0, [.ref hcents, .ref hbyWeight, .ref htold, .int (nI (if ftold k = 0 then xtoldKinds + 1 else xtoldKinds)), .long (if ftold k = 0 then xtotal + am else xtotal)])), (hcents, .inl (cJ, K, .inr (.inl (if ftold k = 0 then vp_updL fcents k am else fcents)))), (hbyWeight, .inl (cZ, K, .inl (if ftold k = 0 then upd fbyWeight k bw else fbyWeight))), (htold, .inl (cZ, K, .inl (if ftold k = 0 then upd ftold k 1 else ftold)))] H := by rw [← e_2, ← e_5, ← e_4, ← e_6, ← e_3]; exact hP
    have hD : va_D A [(h, .inr (0, [.ref hcents, .ref hbyWeight, .ref htold, .int (nI (if ftold k = 0 then xtoldKinds + 1 else xtoldKinds)), .long (if ftold k = 0 then xtotal + am else xtotal)])), (hcents, .inl (cJ, K, .inr (.inl (if ftold k = 0 then vp_updL fcents k am else fcents)))), (hbyWeight, .inl (cZ, K, .inl (if ftold k = 0 then upd fbyWeight k bw else fbyWeight))), (htold, .inl (cZ, K, .inl (if ftold k = 0 then upd ftold k 1 else ftold)))] := by rw [← e_2, ← e_5, ← e_4, ← e_6, ← e_3]; exact hD
    exact W.zret (v := 1) hx hb hr rfl (fun t9 ht9 hW9 => ⟨⟨1, (), rfl, (show 1 = (if ftold k = 0 then 1 else 0) from by simp only [if_pos c_1]), by rw [ht9]; exact hP, va_K.moved hW9.alike hK, hD⟩, hS.F ht9⟩) hS.2.2 de_C_tell_54
  · refine lv_iconst (v := 0) hx hb de_C_tell_9 (by decide) ?_
    have e_7 : (nI xtoldKinds : Int32) = (nI (if ftold k = 0 then xtoldKinds + 1 else xtoldKinds)) := by simp only [if_neg c_1]
    have e_8 : (xtotal : Int64) = (if ftold k = 0 then xtotal + am else xtotal) := by simp only [if_neg c_1]
    have e_9 : fcents = (if ftold k = 0 then vp_updL fcents k am else fcents) := by simp only [if_neg c_1]
    have e_10 : fbyWeight = (if ftold k = 0 then upd fbyWeight k bw else fbyWeight) := by simp only [if_neg c_1]
    have e_11 : ftold = (if ftold k = 0 then upd ftold k 1 else ftold) := by simp only [if_neg c_1]
    have hP : va_P (dC, dI) cls_t [(h, .inr (0, [.ref hcents, .ref hbyWeight, .ref htold, .int (nI (if ftold k = 0 then xtoldKinds + 1 else xtoldKinds)), .long (if ftold k = 0 then xtotal + am else xtotal)])), (hcents, .inl (cJ, K, .inr (.inl (if ftold k = 0 then vp_updL fcents k am else fcents)))), (hbyWeight, .inl (cZ, K, .inl (if ftold k = 0 then upd fbyWeight k bw else fbyWeight))), (htold, .inl (cZ, K, .inl (if ftold k = 0 then upd ftold k 1 else ftold)))] s.heap := by rw [← e_7, ← e_10, ← e_9, ← e_11, ← e_8]; exact hP
    have hD : va_D A [(h, .inr (0, [.ref hcents, .ref hbyWeight, .ref htold, .int (nI (if ftold k = 0 then xtoldKinds + 1 else xtoldKinds)), .long (if ftold k = 0 then xtotal + am else xtotal)])), (hcents, .inl (cJ, K, .inr (.inl (if ftold k = 0 then vp_updL fcents k am else fcents)))), (hbyWeight, .inl (cZ, K, .inl (if ftold k = 0 then upd fbyWeight k bw else fbyWeight))), (htold, .inl (cZ, K, .inl (if ftold k = 0 then upd ftold k 1 else ftold)))] := by rw [← e_7, ← e_10, ← e_9, ← e_11, ← e_8]; exact hD
    exact W.zret (v := 0) hx hb hr rfl (fun t9 ht9 hW9 => ⟨⟨0, (), rfl, (show 0 = (if ftold k = 0 then 1 else 0) from by simp only [if_neg c_1]), by rw [ht9]; exact hP, va_K.moved hW9.alike hK, hD⟩, hS.F ht9⟩) hS.2.2 de_C_tell_10
set_option maxHeartbeats 4000000 in
set_option maxRecDepth 100000 in
/-- tell of Discounts -/
theorem cd_tell (l : Launch) (dC : Nat → ClassId) (dI : Nat → Nat → Nat) (cJ cI cZ : Nat) (sz : Nat) (h : Nat) (hrowDays : Nat) (hrowThousandths : Nat) (xsize : Nat) (frowDays : Nat → Int32) (frowThousandths : Nat → Int32) (d : Int32) (t : Int32) (hn : xsize < 10) : Met l yn_D_tell ws_D_tell ({ frames := 0, cells := 0, slots := 0, locals := 0 }) (va_Pc [.ref h, .int d, .int t] (qv_pre (dC, dI) cls_t [(h, .inr (1, [.ref hrowDays, .ref hrowThousandths, .int (nI xsize)])), (hrowDays, .inl (cI, 10, .inl frowDays)), (hrowThousandths, .inl (cI, 10, .inl frowThousandths))] [(cJ, .long), (cI, .int), (cZ, .boolean)] sz)) (va_Qi (fun (r : Int32) (_ : Unit) => r = sp_dt frowDays xsize d) (qv_post (dC, dI) cls_t (fun (_ : Unit) => [(h, .inr (1, [.ref hrowDays, .ref hrowThousandths, .int (nI (if sp_dt frowDays xsize d = 0 then xsize else xsize + 1))])), (hrowDays, .inl (cI, 10, .inl (if sp_dt frowDays xsize d = 0 then frowDays else upd frowDays xsize d))), (hrowThousandths, .inl (cI, 10, .inl (if sp_dt frowDays xsize d = 0 then frowThousandths else upd frowThousandths xsize t)))]) [(cJ, .long), (cI, .int), (cZ, .boolean)] (va_A [(h, .inr (1, [.ref hrowDays, .ref hrowThousandths, .int (nI xsize)])), (hrowDays, .inl (cI, 10, .inl frowDays)), (hrowThousandths, .inl (cI, 10, .inl frowThousandths))] sz)) (va_A [(h, .inr (1, [.ref hrowDays, .ref hrowThousandths, .int (nI xsize)])), (hrowDays, .inl (cI, 10, .inl frowDays)), (hrowThousandths, .inl (cI, 10, .inl frowThousandths))] sz)) 0 0 (va_A [(h, .inr (1, [.ref hrowDays, .ref hrowThousandths, .int (nI xsize)])), (hrowDays, .inl (cI, 10, .inl frowDays)), (hrowThousandths, .inl (cI, 10, .inl frowThousandths))] sz) := by
  refine Met.ofW (cc := by_D_tell) (maxL := 3) (ret := (some .boolean)) (by decide) rfl ?_
  intro p e s m args below meth c s₁ B hml hv
  obtain ⟨rfl, hsz, hP, hK, hD0⟩ := hv
  have hx := B.exec
  have hb := B.bytes
  have hr := B.returns
  have hts := fun (w : Cond) (h : w ∈ lw_gt) => atoms_spec (ws := ws_D_tell) B.pre w (List.mem_cons_of_mem _ h)
  have hown : s.vm.findClass rn_D = some m.cls := findClass_of_methodNamed B.named
  have hlocks := B.notSynchronized
  subst hsz
  have hD := hD0.self (sz := s.heap.size)
  generalize hAe : va_A [(h, .inr (1, [.ref hrowDays, .ref hrowThousandths, .int (nI xsize)])), (hrowDays, .inl (cI, 10, .inl frowDays)), (hrowThousandths, .inl (cI, 10, .inl frowThousandths))] s.heap.size = A at hD ⊢
  have hA : ∀ q : Nat, s.heap.size ≤ q → A q := fun q h => by rw [← hAe]; exact Or.inr h
  have hS : va_S A s.heap s.heap [] := va_S.rf
  have hP : va_P (dC, dI) cls_t [(h, .inr (1, [.ref hrowDays, .ref hrowThousandths, .int (nI xsize)])), (hrowDays, .inl (cI, 10, .inl frowDays)), (hrowThousandths, .inl (cI, 10, .inl frowThousandths))] s.heap := hP
  have hl := lv_entry ([.ref h, .int d, .int t]) (n := 3) (Nat.le_of_ble_eq_true rfl)
  rw [lg_entry_eq]
  generalize (lg_sl ([.ref h, .int d, .int t]) ++ List.replicate (3 - (lg_sl ([.ref h, .int d, .int t])).length) Slot.unset).toArray = ls at hl ⊢
  have hl : lv_has ls 3 [(0, .ref h), (1, .int d), (2, .int t)] := hl
  obtain rfl | ⟨m9, rfl⟩ : xsize = 0 ∨ ∃ m9, xsize = m9 + 1 := by cases xsize with | zero => exact Or.inl rfl | succ m9 => exact Or.inr ⟨m9, rfl⟩
  · refine lv_aload_n hx hb de_D_tell_0 rfl (lv_at hl 0 rfl) ?_
    refine va_get (D := (dC, dI)) (ci := 1) (v := .int (nI 0)) (C := rn_D) (T := tf_D) (N := 3) hx hb hts in_D hown hK hP 0 rfl rfl 2 (by decide) (hts _ wd_128) (fun _ h9 => h9) rfl de_D_tell_1 ?_
    refine lv_if_le (tgt := 24) hx hb de_D_tell_4 (by decide) (fun _ => ?_) (fun c_1 => ((absurd c_1 (by decide) : False)).elim)
    refine lv_aload_n hx hb de_D_tell_24 rfl (lv_at hl 0 rfl) ?_
    refine va_get (D := (dC, dI)) (ci := 1) (v := .ref hrowDays) (C := rn_D) (T := tf_D) (N := 3) hx hb hts in_D hown hK hP 0 rfl rfl 0 (by decide) (hts _ wd_126) (fun _ h9 => h9) rfl de_D_tell_25 ?_
    refine lv_aload_n hx hb de_D_tell_28 rfl (lv_at hl 0 rfl) ?_
    refine va_get (D := (dC, dI)) (ci := 1) (v := .int (nI 0)) (C := rn_D) (T := tf_D) (N := 3) hx hb hts in_D hown hK hP 0 rfl rfl 2 (by decide) (hts _ wd_128) (fun _ h9 => h9) rfl de_D_tell_29 ?_
    refine lv_iload_n hx hb de_D_tell_32 rfl (lv_at hl 1 rfl) ?_
    refine qv_iast (k := 0) hx hb hK hP hD hS 1 1 rfl rfl (by omega) (by omega) de_D_tell_33 (fun H locs hP hD hS => ?_)
    have hP : va_P (dC, dI) cls_t [(h, .inr (1, [.ref hrowDays, .ref hrowThousandths, .int (nI 0)])), (hrowDays, .inl (cI, 10, .inl (upd frowDays 0 d))), (hrowThousandths, .inl (cI, 10, .inl frowThousandths))] H := hP
    have hD : va_D A [(h, .inr (1, [.ref hrowDays, .ref hrowThousandths, .int (nI 0)])), (hrowDays, .inl (cI, 10, .inl (upd frowDays 0 d))), (hrowThousandths, .inl (cI, 10, .inl frowThousandths))] := hD
    refine lv_aload_n hx hb de_D_tell_34 rfl (lv_at hl 0 rfl) ?_
    refine va_get (D := (dC, dI)) (ci := 1) (v := .ref hrowThousandths) (C := rn_D) (T := tf_D) (N := 3) hx hb hts in_D hown hK hP 0 rfl rfl 1 (by decide) (hts _ wd_127) (fun _ h9 => h9) rfl de_D_tell_35 ?_
    refine lv_aload_n hx hb de_D_tell_38 rfl (lv_at hl 0 rfl) ?_
    refine va_get (D := (dC, dI)) (ci := 1) (v := .int (nI 0)) (C := rn_D) (T := tf_D) (N := 3) hx hb hts in_D hown hK hP 0 rfl rfl 2 (by decide) (hts _ wd_128) (fun _ h9 => h9) rfl de_D_tell_39 ?_
    refine lv_iload_n hx hb de_D_tell_42 rfl (lv_at hl 2 rfl) ?_
    refine qv_iast (k := 0) hx hb hK hP hD hS 2 1 rfl rfl (by omega) (by omega) de_D_tell_43 (fun H locs hP hD hS => ?_)
    have hP : va_P (dC, dI) cls_t [(h, .inr (1, [.ref hrowDays, .ref hrowThousandths, .int (nI 0)])), (hrowDays, .inl (cI, 10, .inl (upd frowDays 0 d))), (hrowThousandths, .inl (cI, 10, .inl (upd frowThousandths 0 t)))] H := hP
    have hD : va_D A [(h, .inr (1, [.ref hrowDays, .ref hrowThousandths, .int (nI 0)])), (hrowDays, .inl (cI, 10, .inl (upd frowDays 0 d))), (hrowThousandths, .inl (cI, 10, .inl (upd frowThousandths 0 t)))] := hD
    refine lv_aload_n hx hb de_D_tell_44 rfl (lv_at hl 0 rfl) ?_
    refine lv_dup hx hb de_D_tell_45 rfl ?_
    refine va_get (D := (dC, dI)) (ci := 1) (v := .int (nI 0)) (C := rn_D) (T := tf_D) (N := 3) hx hb hts in_D hown hK hP 0 rfl rfl 2 (by decide) (hts _ wd_128) (fun _ h9 => h9) rfl de_D_tell_46 ?_
    refine lv_iconst (v := 1) hx hb de_D_tell_49 (by decide) ?_
    refine lv_iadd hx hb de_D_tell_50 ?_
    rw [nI_1]
    refine va_put (D := (dC, dI)) (ci := 1) (v := .int (nI (0 + 1))) (ty := .int) (C := rn_D) (T := tf_D) (N := 3) hx hb hts in_D ty_D tk_D nm_D hown hK hP hD hS 0 rfl rfl 2 (by decide) (hts _ wd_128) (fun _ h9 => h9) rfl (by decide +kernel) rfl rfl (Nat.le_of_ble_eq_true rfl) de_D_tell_51 (fun H locs hP hD hS => ?_)
    have hP : va_P (dC, dI) cls_t [(h, .inr (1, [.ref hrowDays, .ref hrowThousandths, .int (nI (0 + 1))])), (hrowDays, .inl (cI, 10, .inl (upd frowDays 0 d))), (hrowThousandths, .inl (cI, 10, .inl (upd frowThousandths 0 t)))] H := hP
    have hD : va_D A [(h, .inr (1, [.ref hrowDays, .ref hrowThousandths, .int (nI (0 + 1))])), (hrowDays, .inl (cI, 10, .inl (upd frowDays 0 d))), (hrowThousandths, .inl (cI, 10, .inl (upd frowThousandths 0 t)))] := hD
    refine lv_iconst (v := 1) hx hb de_D_tell_54 (by decide) ?_
    have e_2 : (nI (0 + 1) : Int32) = (nI (if sp_dt frowDays 0 d = 0 then 0 else 0 + 1)) := by simp only [sp_dt, sp_ne10, ↓reduceIte]
    have e_3 : (upd frowDays 0 d) = (if sp_dt frowDays 0 d = 0 then frowDays else upd frowDays 0 d) := by simp only [sp_dt, sp_ne10, ↓reduceIte]
    have e_4 : (upd frowThousandths 0 t) = (if sp_dt frowDays 0 d = 0 then frowThousandths else upd frowThousandths 0 t) := by simp only [sp_dt, sp_ne10, ↓reduceIte]
    have hP : va_P (dC, dI) cls_t [(h, .inr (1, [.ref hrowDays, .ref hrowThousandths, .int (nI (if sp_dt frowDays 0 d = 0 then 0 else 0 + 1))])), (hrowDays, .inl (cI, 10, .inl (if sp_dt frowDays 0 d = 0 then frowDays else upd frowDays 0 d))), (hrowThousandths, .inl (cI, 10, .inl (if sp_dt frowDays 0 d = 0 then frowThousandths else upd frowThousandths 0 t)))] H := by rw [← e_4, ← e_3, ← e_2]; exact hP
    have hD : va_D A [(h, .inr (1, [.ref hrowDays, .ref hrowThousandths, .int (nI (if sp_dt frowDays 0 d = 0 then 0 else 0 + 1))])), (hrowDays, .inl (cI, 10, .inl (if sp_dt frowDays 0 d = 0 then frowDays else upd frowDays 0 d))), (hrowThousandths, .inl (cI, 10, .inl (if sp_dt frowDays 0 d = 0 then frowThousandths else upd frowThousandths 0 t)))] := by rw [← e_4, ← e_3, ← e_2]; exact hD
    exact W.zret (v := 1) hx hb hr rfl (fun t9 ht9 hW9 => ⟨⟨1, (), rfl, (show 1 = (sp_dt frowDays 0 d) from by simp only [sp_dt, sp_ne10, ↓reduceIte]), by rw [ht9]; exact hP, va_K.moved hW9.alike hK, hD⟩, hS.F ht9⟩) hS.2.2 de_D_tell_55
  · refine lv_aload_n hx hb de_D_tell_0 rfl (lv_at hl 0 rfl) ?_
    refine va_get (D := (dC, dI)) (ci := 1) (v := .int (nI (m9 + 1))) (C := rn_D) (T := tf_D) (N := 3) hx hb hts in_D hown hK hP 0 rfl rfl 2 (by decide) (hts _ wd_128) (fun _ h9 => h9) rfl de_D_tell_1 ?_
    refine lv_if_le (tgt := 24) hx hb de_D_tell_4 (by decide) (fun c_5 => ((nI_nle (Nat.succ_pos _) (by omega) c_5)).elim) (fun _ => ?_)
    refine lv_iload_n hx hb de_D_tell_7 rfl (lv_at hl 1 rfl) ?_
    refine lv_aload_n hx hb de_D_tell_8 rfl (lv_at hl 0 rfl) ?_
    refine va_get (D := (dC, dI)) (ci := 1) (v := .ref hrowDays) (C := rn_D) (T := tf_D) (N := 3) hx hb hts in_D hown hK hP 0 rfl rfl 0 (by decide) (hts _ wd_126) (fun _ h9 => h9) rfl de_D_tell_9 ?_
    refine lv_aload_n hx hb de_D_tell_12 rfl (lv_at hl 0 rfl) ?_
    refine va_get (D := (dC, dI)) (ci := 1) (v := .int (nI (m9 + 1))) (C := rn_D) (T := tf_D) (N := 3) hx hb hts in_D hown hK hP 0 rfl rfl 2 (by decide) (hts _ wd_128) (fun _ h9 => h9) rfl de_D_tell_13 ?_
    refine lv_iconst (v := 1) hx hb de_D_tell_16 (by decide) ?_
    refine lv_isub hx hb de_D_tell_17 ?_
    rw [nI_pred]
    refine qv_iald (k := m9) hx hb hK hP 1 1 rfl rfl (by omega) (by omega) de_D_tell_18 ?_
    refine lv_icmp_gt (tgt := 24) hx hb de_D_tell_19 (by decide) (fun c_6 => ?_) (fun c_6 => ?_)
    · refine lv_aload_n hx hb de_D_tell_24 rfl (lv_at hl 0 rfl) ?_
      refine va_get (D := (dC, dI)) (ci := 1) (v := .ref hrowDays) (C := rn_D) (T := tf_D) (N := 3) hx hb hts in_D hown hK hP 0 rfl rfl 0 (by decide) (hts _ wd_126) (fun _ h9 => h9) rfl de_D_tell_25 ?_
      refine lv_aload_n hx hb de_D_tell_28 rfl (lv_at hl 0 rfl) ?_
      refine va_get (D := (dC, dI)) (ci := 1) (v := .int (nI (m9 + 1))) (C := rn_D) (T := tf_D) (N := 3) hx hb hts in_D hown hK hP 0 rfl rfl 2 (by decide) (hts _ wd_128) (fun _ h9 => h9) rfl de_D_tell_29 ?_
      refine lv_iload_n hx hb de_D_tell_32 rfl (lv_at hl 1 rfl) ?_
      refine qv_iast (k := (m9 + 1)) hx hb hK hP hD hS 1 1 rfl rfl (by omega) (by omega) de_D_tell_33 (fun H locs hP hD hS => ?_)
      have hP : va_P (dC, dI) cls_t [(h, .inr (1, [.ref hrowDays, .ref hrowThousandths, .int (nI (m9 + 1))])), (hrowDays, .inl (cI, 10, .inl (upd frowDays (m9 + 1) d))), (hrowThousandths, .inl (cI, 10, .inl frowThousandths))] H := hP
      have hD : va_D A [(h, .inr (1, [.ref hrowDays, .ref hrowThousandths, .int (nI (m9 + 1))])), (hrowDays, .inl (cI, 10, .inl (upd frowDays (m9 + 1) d))), (hrowThousandths, .inl (cI, 10, .inl frowThousandths))] := hD
      refine lv_aload_n hx hb de_D_tell_34 rfl (lv_at hl 0 rfl) ?_
      refine va_get (D := (dC, dI)) (ci := 1) (v := .ref hrowThousandths) (C := rn_D) (T := tf_D) (N := 3) hx hb hts in_D hown hK hP 0 rfl rfl 1 (by decide) (hts _ wd_127) (fun _ h9 => h9) rfl de_D_tell_35 ?_
      refine lv_aload_n hx hb de_D_tell_38 rfl (lv_at hl 0 rfl) ?_
      refine va_get (D := (dC, dI)) (ci := 1) (v := .int (nI (m9 + 1))) (C := rn_D) (T := tf_D) (N := 3) hx hb hts in_D hown hK hP 0 rfl rfl 2 (by decide) (hts _ wd_128) (fun _ h9 => h9) rfl de_D_tell_39 ?_
      refine lv_iload_n hx hb de_D_tell_42 rfl (lv_at hl 2 rfl) ?_
      refine qv_iast (k := (m9 + 1)) hx hb hK hP hD hS 2 1 rfl rfl (by omega) (by omega) de_D_tell_43 (fun H locs hP hD hS => ?_)
      have hP : va_P (dC, dI) cls_t [(h, .inr (1, [.ref hrowDays, .ref hrowThousandths, .int (nI (m9 + 1))])), (hrowDays, .inl (cI, 10, .inl (upd frowDays (m9 + 1) d))), (hrowThousandths, .inl (cI, 10, .inl (upd frowThousandths (m9 + 1) t)))] H := hP
      have hD : va_D A [(h, .inr (1, [.ref hrowDays, .ref hrowThousandths, .int (nI (m9 + 1))])), (hrowDays, .inl (cI, 10, .inl (upd frowDays (m9 + 1) d))), (hrowThousandths, .inl (cI, 10, .inl (upd frowThousandths (m9 + 1) t)))] := hD
      refine lv_aload_n hx hb de_D_tell_44 rfl (lv_at hl 0 rfl) ?_
      refine lv_dup hx hb de_D_tell_45 rfl ?_
      refine va_get (D := (dC, dI)) (ci := 1) (v := .int (nI (m9 + 1))) (C := rn_D) (T := tf_D) (N := 3) hx hb hts in_D hown hK hP 0 rfl rfl 2 (by decide) (hts _ wd_128) (fun _ h9 => h9) rfl de_D_tell_46 ?_
      refine lv_iconst (v := 1) hx hb de_D_tell_49 (by decide) ?_
      refine lv_iadd hx hb de_D_tell_50 ?_
      rw [nI_1]
      refine va_put (D := (dC, dI)) (ci := 1) (v := .int (nI ((m9 + 1) + 1))) (ty := .int) (C := rn_D) (T := tf_D) (N := 3) hx hb hts in_D ty_D tk_D nm_D hown hK hP hD hS 0 rfl rfl 2 (by decide) (hts _ wd_128) (fun _ h9 => h9) rfl (by decide +kernel) rfl rfl (Nat.le_of_ble_eq_true rfl) de_D_tell_51 (fun H locs hP hD hS => ?_)
      have hP : va_P (dC, dI) cls_t [(h, .inr (1, [.ref hrowDays, .ref hrowThousandths, .int (nI ((m9 + 1) + 1))])), (hrowDays, .inl (cI, 10, .inl (upd frowDays (m9 + 1) d))), (hrowThousandths, .inl (cI, 10, .inl (upd frowThousandths (m9 + 1) t)))] H := hP
      have hD : va_D A [(h, .inr (1, [.ref hrowDays, .ref hrowThousandths, .int (nI ((m9 + 1) + 1))])), (hrowDays, .inl (cI, 10, .inl (upd frowDays (m9 + 1) d))), (hrowThousandths, .inl (cI, 10, .inl (upd frowThousandths (m9 + 1) t)))] := hD
      refine lv_iconst (v := 1) hx hb de_D_tell_54 (by decide) ?_
      have e_7 : (nI ((m9 + 1) + 1) : Int32) = (nI (if sp_dt frowDays (m9 + 1) d = 0 then (m9 + 1) else (m9 + 1) + 1)) := by simp only [sp_dt, sp_ne10, ↓reduceIte, if_pos c_6]
      have e_8 : (upd frowDays (m9 + 1) d) = (if sp_dt frowDays (m9 + 1) d = 0 then frowDays else upd frowDays (m9 + 1) d) := by simp only [sp_dt, sp_ne10, ↓reduceIte, if_pos c_6]
      have e_9 : (upd frowThousandths (m9 + 1) t) = (if sp_dt frowDays (m9 + 1) d = 0 then frowThousandths else upd frowThousandths (m9 + 1) t) := by simp only [sp_dt, sp_ne10, ↓reduceIte, if_pos c_6]
      have hP : va_P (dC, dI) cls_t [(h, .inr (1, [.ref hrowDays, .ref hrowThousandths, .int (nI (if sp_dt frowDays (m9 + 1) d = 0 then (m9 + 1) else (m9 + 1) + 1))])), (hrowDays, .inl (cI, 10, .inl (if sp_dt frowDays (m9 + 1) d = 0 then frowDays else upd frowDays (m9 + 1) d))), (hrowThousandths, .inl (cI, 10, .inl (if sp_dt frowDays (m9 + 1) d = 0 then frowThousandths else upd frowThousandths (m9 + 1) t)))] H := by rw [← e_9, ← e_8, ← e_7]; exact hP
      have hD : va_D A [(h, .inr (1, [.ref hrowDays, .ref hrowThousandths, .int (nI (if sp_dt frowDays (m9 + 1) d = 0 then (m9 + 1) else (m9 + 1) + 1))])), (hrowDays, .inl (cI, 10, .inl (if sp_dt frowDays (m9 + 1) d = 0 then frowDays else upd frowDays (m9 + 1) d))), (hrowThousandths, .inl (cI, 10, .inl (if sp_dt frowDays (m9 + 1) d = 0 then frowThousandths else upd frowThousandths (m9 + 1) t)))] := by rw [← e_9, ← e_8, ← e_7]; exact hD
      exact W.zret (v := 1) hx hb hr rfl (fun t9 ht9 hW9 => ⟨⟨1, (), rfl, (show 1 = (sp_dt frowDays (m9 + 1) d) from by simp only [sp_dt, sp_ne10, ↓reduceIte, if_pos c_6]), by rw [ht9]; exact hP, va_K.moved hW9.alike hK, hD⟩, hS.F ht9⟩) hS.2.2 de_D_tell_55
    · refine lv_iconst (v := 0) hx hb de_D_tell_22 (by decide) ?_
      have e_10 : (nI (m9 + 1) : Int32) = (nI (if sp_dt frowDays (m9 + 1) d = 0 then (m9 + 1) else (m9 + 1) + 1)) := by simp only [sp_dt, sp_ne10, ↓reduceIte, if_neg c_6]
      have e_11 : frowDays = (if sp_dt frowDays (m9 + 1) d = 0 then frowDays else upd frowDays (m9 + 1) d) := by simp only [sp_dt, sp_ne10, ↓reduceIte, if_neg c_6]
      have e_12 : frowThousandths = (if sp_dt frowDays (m9 + 1) d = 0 then frowThousandths else upd frowThousandths (m9 + 1) t) := by simp only [sp_dt, sp_ne10, ↓reduceIte, if_neg c_6]
      have hP : va_P (dC, dI) cls_t [(h, .inr (1, [.ref hrowDays, .ref hrowThousandths, .int (nI (if sp_dt frowDays (m9 + 1) d = 0 then (m9 + 1) else (m9 + 1) + 1))])), (hrowDays, .inl (cI, 10, .inl (if sp_dt frowDays (m9 + 1) d = 0 then frowDays else upd frowDays (m9 + 1) d))), (hrowThousandths, .inl (cI, 10, .inl (if sp_dt frowDays (m9 + 1) d = 0 then frowThousandths else upd frowThousandths (m9 + 1) t)))] s.heap := by rw [← e_12, ← e_11, ← e_10]; exact hP
      have hD : va_D A [(h, .inr (1, [.ref hrowDays, .ref hrowThousandths, .int (nI (if sp_dt frowDays (m9 + 1) d = 0 then (m9 + 1) else (m9 + 1) + 1))])), (hrowDays, .inl (cI, 10, .inl (if sp_dt frowDays (m9 + 1) d = 0 then frowDays else upd frowDays (m9 + 1) d))), (hrowThousandths, .inl (cI, 10, .inl (if sp_dt frowDays (m9 + 1) d = 0 then frowThousandths else upd frowThousandths (m9 + 1) t)))] := by rw [← e_12, ← e_11, ← e_10]; exact hD
      exact W.zret (v := 0) hx hb hr rfl (fun t9 ht9 hW9 => ⟨⟨0, (), rfl, (show 0 = (sp_dt frowDays (m9 + 1) d) from by simp only [sp_dt, sp_ne10, ↓reduceIte, if_neg c_6]), by rw [ht9]; exact hP, va_K.moved hW9.alike hK, hD⟩, hS.F ht9⟩) hS.2.2 de_D_tell_23
set_option maxHeartbeats 4000000 in
set_option maxRecDepth 100000 in
/-- tell of Rates -/
theorem cr_tell (l : Launch) (dC : Nat → ClassId) (dI : Nat → Nat → Nat) (cJ cI cZ : Nat) (sz : Nat) (h : Nat) (hups : Nat) (hdowns : Nat) (fups : Nat → Int32) (fdowns : Nat → Int32) (q : Int32) (up : Int32) (dn : Int32) : Met l yn_R_tell ws_R_tell ({ frames := 0, cells := 0, slots := 0, locals := 0 }) (va_Pc [.ref h, .int q, .int up, .int dn] (qv_pre (dC, dI) cls_t [(h, .inr (3, [.ref hups, .ref hdowns])), (hups, .inl (cI, 12, .inl fups)), (hdowns, .inl (cI, 12, .inl fdowns))] [(cJ, .long), (cI, .int), (cZ, .boolean)] sz)) (va_Qi (fun (r : Int32) (_ : Unit) => r = sp_rt fups q up dn) (qv_post (dC, dI) cls_t (fun (_ : Unit) => [(h, .inr (3, [.ref hups, .ref hdowns])), (hups, .inl (cI, 12, .inl (if sp_rt fups q up dn = 0 then fups else upd fups q.toNatClampNeg up))), (hdowns, .inl (cI, 12, .inl (if sp_rt fups q up dn = 0 then fdowns else upd fdowns q.toNatClampNeg dn)))]) [(cJ, .long), (cI, .int), (cZ, .boolean)] (va_A [(h, .inr (3, [.ref hups, .ref hdowns])), (hups, .inl (cI, 12, .inl fups)), (hdowns, .inl (cI, 12, .inl fdowns))] sz)) (va_A [(h, .inr (3, [.ref hups, .ref hdowns])), (hups, .inl (cI, 12, .inl fups)), (hdowns, .inl (cI, 12, .inl fdowns))] sz)) 0 0 (va_A [(h, .inr (3, [.ref hups, .ref hdowns])), (hups, .inl (cI, 12, .inl fups)), (hdowns, .inl (cI, 12, .inl fdowns))] sz) := by
  refine Met.ofW (cc := by_R_tell) (maxL := 4) (ret := (some .boolean)) (by decide) rfl ?_
  intro p e s m args below meth c s₁ B hml hv
  obtain ⟨rfl, hsz, hP, hK, hD0⟩ := hv
  have hx := B.exec
  have hb := B.bytes
  have hr := B.returns
  have hts := fun (w : Cond) (h : w ∈ lw_gt) => atoms_spec (ws := ws_R_tell) B.pre w (List.mem_cons_of_mem _ h)
  have hown : s.vm.findClass rn_R = some m.cls := findClass_of_methodNamed B.named
  have hlocks := B.notSynchronized
  subst hsz
  have hD := hD0.self (sz := s.heap.size)
  generalize hAe : va_A [(h, .inr (3, [.ref hups, .ref hdowns])), (hups, .inl (cI, 12, .inl fups)), (hdowns, .inl (cI, 12, .inl fdowns))] s.heap.size = A at hD ⊢
  have hA : ∀ q : Nat, s.heap.size ≤ q → A q := fun q h => by rw [← hAe]; exact Or.inr h
  have hS : va_S A s.heap s.heap [] := va_S.rf
  have hP : va_P (dC, dI) cls_t [(h, .inr (3, [.ref hups, .ref hdowns])), (hups, .inl (cI, 12, .inl fups)), (hdowns, .inl (cI, 12, .inl fdowns))] s.heap := hP
  have hl := lv_entry ([.ref h, .int q, .int up, .int dn]) (n := 4) (Nat.le_of_ble_eq_true rfl)
  rw [lg_entry_eq]
  generalize (lg_sl ([.ref h, .int q, .int up, .int dn]) ++ List.replicate (4 - (lg_sl ([.ref h, .int q, .int up, .int dn])).length) Slot.unset).toArray = ls at hl ⊢
  have hl : lv_has ls 4 [(0, .ref h), (1, .int q), (2, .int up), (3, .int dn)] := hl
  obtain h9 | h9 | ⟨k, hk, rfl⟩ := pk_ix q (n := 12) (by decide)
  · refine lv_iload_n hx hb de_R_tell_0 rfl (lv_at hl 1 rfl) ?_
    refine lv_if_lt (tgt := 19) hx hb de_R_tell_1 (by decide) (fun _ => ?_) (fun c_1 => ((c_1 h9)).elim)
    refine lv_iconst (v := 0) hx hb de_R_tell_19 (by decide) ?_
    have e_2 : fups = (if sp_rt fups q up dn = 0 then fups else upd fups q.toNatClampNeg up) := by simp only [sp_rt, sp_ne10, ↓reduceIte, if_pos h9]
    have e_3 : fdowns = (if sp_rt fups q up dn = 0 then fdowns else upd fdowns q.toNatClampNeg dn) := by simp only [sp_rt, sp_ne10, ↓reduceIte, if_pos h9]
    have hP : va_P (dC, dI) cls_t [(h, .inr (3, [.ref hups, .ref hdowns])), (hups, .inl (cI, 12, .inl (if sp_rt fups q up dn = 0 then fups else upd fups q.toNatClampNeg up))), (hdowns, .inl (cI, 12, .inl (if sp_rt fups q up dn = 0 then fdowns else upd fdowns q.toNatClampNeg dn)))] s.heap := by rw [← e_3, ← e_2]; exact hP
    have hD : va_D A [(h, .inr (3, [.ref hups, .ref hdowns])), (hups, .inl (cI, 12, .inl (if sp_rt fups q up dn = 0 then fups else upd fups q.toNatClampNeg up))), (hdowns, .inl (cI, 12, .inl (if sp_rt fups q up dn = 0 then fdowns else upd fdowns q.toNatClampNeg dn)))] := by rw [← e_3, ← e_2]; exact hD
    exact W.zret (v := 0) hx hb hr rfl (fun t9 ht9 hW9 => ⟨⟨0, (), rfl, (show 0 = (sp_rt fups q up dn) from by simp only [sp_rt, sp_ne10, ↓reduceIte, if_pos h9]), by rw [ht9]; exact hP, va_K.moved hW9.alike hK, hD⟩, hS.F ht9⟩) hS.2.2 de_R_tell_20
  · refine lv_iload_n hx hb de_R_tell_0 rfl (lv_at hl 1 rfl) ?_
    refine lv_if_lt (tgt := 19) hx hb de_R_tell_1 (by decide) (fun c_4 => ?_) (fun c_4 => ?_)
    · refine lv_iconst (v := 0) hx hb de_R_tell_19 (by decide) ?_
      have e_5 : fups = (if sp_rt fups q up dn = 0 then fups else upd fups q.toNatClampNeg up) := by simp only [sp_rt, sp_ne10, ↓reduceIte, if_pos (show (12 : Int32) ≤ q from h9), if_pos c_4]
      have e_6 : fdowns = (if sp_rt fups q up dn = 0 then fdowns else upd fdowns q.toNatClampNeg dn) := by simp only [sp_rt, sp_ne10, ↓reduceIte, if_pos (show (12 : Int32) ≤ q from h9), if_pos c_4]
      have hP : va_P (dC, dI) cls_t [(h, .inr (3, [.ref hups, .ref hdowns])), (hups, .inl (cI, 12, .inl (if sp_rt fups q up dn = 0 then fups else upd fups q.toNatClampNeg up))), (hdowns, .inl (cI, 12, .inl (if sp_rt fups q up dn = 0 then fdowns else upd fdowns q.toNatClampNeg dn)))] s.heap := by rw [← e_6, ← e_5]; exact hP
      have hD : va_D A [(h, .inr (3, [.ref hups, .ref hdowns])), (hups, .inl (cI, 12, .inl (if sp_rt fups q up dn = 0 then fups else upd fups q.toNatClampNeg up))), (hdowns, .inl (cI, 12, .inl (if sp_rt fups q up dn = 0 then fdowns else upd fdowns q.toNatClampNeg dn)))] := by rw [← e_6, ← e_5]; exact hD
      exact W.zret (v := 0) hx hb hr rfl (fun t9 ht9 hW9 => ⟨⟨0, (), rfl, (show 0 = (sp_rt fups q up dn) from by simp only [sp_rt, sp_ne10, ↓reduceIte, if_pos (show (12 : Int32) ≤ q from h9), if_pos c_4]), by rw [ht9]; exact hP, va_K.moved hW9.alike hK, hD⟩, hS.F ht9⟩) hS.2.2 de_R_tell_20
    · refine lv_iload_n hx hb de_R_tell_4 rfl (lv_at hl 1 rfl) ?_
      refine lv_bipush (v := 12) hx hb de_R_tell_5 (by decide) ?_
      refine lv_icmp_ge (tgt := 19) hx hb de_R_tell_7 (by decide) (fun _ => ?_) (fun c_7 => ((c_7 h9)).elim)
      refine lv_iconst (v := 0) hx hb de_R_tell_19 (by decide) ?_
      have e_8 : fups = (if sp_rt fups q up dn = 0 then fups else upd fups q.toNatClampNeg up) := by simp only [sp_rt, sp_ne10, ↓reduceIte, if_pos (show (12 : Int32) ≤ q from h9), if_neg c_4]
      have e_9 : fdowns = (if sp_rt fups q up dn = 0 then fdowns else upd fdowns q.toNatClampNeg dn) := by simp only [sp_rt, sp_ne10, ↓reduceIte, if_pos (show (12 : Int32) ≤ q from h9), if_neg c_4]
      have hP : va_P (dC, dI) cls_t [(h, .inr (3, [.ref hups, .ref hdowns])), (hups, .inl (cI, 12, .inl (if sp_rt fups q up dn = 0 then fups else upd fups q.toNatClampNeg up))), (hdowns, .inl (cI, 12, .inl (if sp_rt fups q up dn = 0 then fdowns else upd fdowns q.toNatClampNeg dn)))] s.heap := by rw [← e_9, ← e_8]; exact hP
      have hD : va_D A [(h, .inr (3, [.ref hups, .ref hdowns])), (hups, .inl (cI, 12, .inl (if sp_rt fups q up dn = 0 then fups else upd fups q.toNatClampNeg up))), (hdowns, .inl (cI, 12, .inl (if sp_rt fups q up dn = 0 then fdowns else upd fdowns q.toNatClampNeg dn)))] := by rw [← e_9, ← e_8]; exact hD
      exact W.zret (v := 0) hx hb hr rfl (fun t9 ht9 hW9 => ⟨⟨0, (), rfl, (show 0 = (sp_rt fups q up dn) from by simp only [sp_rt, sp_ne10, ↓reduceIte, if_pos (show (12 : Int32) ≤ q from h9), if_neg c_4]), by rw [ht9]; exact hP, va_K.moved hW9.alike hK, hD⟩, hS.F ht9⟩) hS.2.2 de_R_tell_20
  · have h1 : ¬ nI k < 0 := nI_pos (by omega)
    have h2 : ¬ (12 : Int32) ≤ nI k := nI_ge hk (by decide)
    refine lv_iload_n hx hb de_R_tell_0 rfl (lv_at hl 1 rfl) ?_
    refine lv_if_lt (tgt := 19) hx hb de_R_tell_1 (by decide) (fun c_10 => ((nI_pos (by omega) c_10)).elim) (fun _ => ?_)
    refine lv_iload_n hx hb de_R_tell_4 rfl (lv_at hl 1 rfl) ?_
    refine lv_bipush (v := 12) hx hb de_R_tell_5 (by decide) ?_
    refine lv_icmp_ge (tgt := 19) hx hb de_R_tell_7 (by decide) (fun c_11 => ((nI_ge hk (by decide) c_11)).elim) (fun _ => ?_)
    refine lv_aload_n hx hb de_R_tell_10 rfl (lv_at hl 0 rfl) ?_
    refine va_get (D := (dC, dI)) (ci := 3) (v := .ref hups) (C := rn_R) (T := tf_R) (N := 2) hx hb hts in_R hown hK hP 0 rfl rfl 0 (by decide) (hts _ wd_143) (fun _ h9 => h9) rfl de_R_tell_11 ?_
    refine lv_iload_n hx hb de_R_tell_14 rfl (lv_at hl 1 rfl) ?_
    refine qv_iald (k := k) hx hb hK hP 1 1 rfl rfl (by omega) (by omega) de_R_tell_15 ?_
    refine lv_if_eq (tgt := 21) hx hb de_R_tell_16 (by decide) (fun c_12 => ?_) (fun c_12 => ?_)
    · refine lv_iload_n hx hb de_R_tell_21 rfl (lv_at hl 2 rfl) ?_
      refine lv_iconst (v := 1) hx hb de_R_tell_22 (by decide) ?_
      refine lv_icmp_lt (tgt := 45) hx hb de_R_tell_23 (by decide) (fun c_13 => ?_) (fun c_13 => ?_)
      · refine lv_iconst (v := 0) hx hb de_R_tell_45 (by decide) ?_
        have e_14 : fups = (if sp_rt fups (nI k) up dn = 0 then fups else upd fups (nI k).toNatClampNeg up) := by simp only [sp_rt, sp_ne10, ↓reduceIte, if_neg h1, if_neg h2, nI_clamp (show k < 2 ^ 31 by omega), if_pos c_12, if_pos c_13]
        have e_15 : fdowns = (if sp_rt fups (nI k) up dn = 0 then fdowns else upd fdowns (nI k).toNatClampNeg dn) := by simp only [sp_rt, sp_ne10, ↓reduceIte, if_neg h1, if_neg h2, nI_clamp (show k < 2 ^ 31 by omega), if_pos c_12, if_pos c_13]
        have hP : va_P (dC, dI) cls_t [(h, .inr (3, [.ref hups, .ref hdowns])), (hups, .inl (cI, 12, .inl (if sp_rt fups (nI k) up dn = 0 then fups else upd fups (nI k).toNatClampNeg up))), (hdowns, .inl (cI, 12, .inl (if sp_rt fups (nI k) up dn = 0 then fdowns else upd fdowns (nI k).toNatClampNeg dn)))] s.heap := by rw [← e_15, ← e_14]; exact hP
        have hD : va_D A [(h, .inr (3, [.ref hups, .ref hdowns])), (hups, .inl (cI, 12, .inl (if sp_rt fups (nI k) up dn = 0 then fups else upd fups (nI k).toNatClampNeg up))), (hdowns, .inl (cI, 12, .inl (if sp_rt fups (nI k) up dn = 0 then fdowns else upd fdowns (nI k).toNatClampNeg dn)))] := by rw [← e_15, ← e_14]; exact hD
        exact W.zret (v := 0) hx hb hr rfl (fun t9 ht9 hW9 => ⟨⟨0, (), rfl, (show 0 = (sp_rt fups (nI k) up dn) from by simp only [sp_rt, sp_ne10, ↓reduceIte, if_neg h1, if_neg h2, nI_clamp (show k < 2 ^ 31 by omega), if_pos c_12, if_pos c_13]), by rw [ht9]; exact hP, va_K.moved hW9.alike hK, hD⟩, hS.F ht9⟩) hS.2.2 de_R_tell_46
      · refine lv_iload_n hx hb de_R_tell_26 rfl (lv_at hl 2 rfl) ?_
        refine lv_sipush (v := 10000) hx hb de_R_tell_27 (by decide) ?_
        refine lv_icmp_gt (tgt := 45) hx hb de_R_tell_30 (by decide) (fun c_16 => ?_) (fun c_16 => ?_)
        · refine lv_iconst (v := 0) hx hb de_R_tell_45 (by decide) ?_
          have e_17 : fups = (if sp_rt fups (nI k) up dn = 0 then fups else upd fups (nI k).toNatClampNeg up) := by simp only [sp_rt, sp_ne10, ↓reduceIte, if_neg h1, if_neg h2, nI_clamp (show k < 2 ^ 31 by omega), if_pos c_12, if_neg c_13, if_pos c_16]
          have e_18 : fdowns = (if sp_rt fups (nI k) up dn = 0 then fdowns else upd fdowns (nI k).toNatClampNeg dn) := by simp only [sp_rt, sp_ne10, ↓reduceIte, if_neg h1, if_neg h2, nI_clamp (show k < 2 ^ 31 by omega), if_pos c_12, if_neg c_13, if_pos c_16]
          have hP : va_P (dC, dI) cls_t [(h, .inr (3, [.ref hups, .ref hdowns])), (hups, .inl (cI, 12, .inl (if sp_rt fups (nI k) up dn = 0 then fups else upd fups (nI k).toNatClampNeg up))), (hdowns, .inl (cI, 12, .inl (if sp_rt fups (nI k) up dn = 0 then fdowns else upd fdowns (nI k).toNatClampNeg dn)))] s.heap := by rw [← e_18, ← e_17]; exact hP
          have hD : va_D A [(h, .inr (3, [.ref hups, .ref hdowns])), (hups, .inl (cI, 12, .inl (if sp_rt fups (nI k) up dn = 0 then fups else upd fups (nI k).toNatClampNeg up))), (hdowns, .inl (cI, 12, .inl (if sp_rt fups (nI k) up dn = 0 then fdowns else upd fdowns (nI k).toNatClampNeg dn)))] := by rw [← e_18, ← e_17]; exact hD
          exact W.zret (v := 0) hx hb hr rfl (fun t9 ht9 hW9 => ⟨⟨0, (), rfl, (show 0 = (sp_rt fups (nI k) up dn) from by simp only [sp_rt, sp_ne10, ↓reduceIte, if_neg h1, if_neg h2, nI_clamp (show k < 2 ^ 31 by omega), if_pos c_12, if_neg c_13, if_pos c_16]), by rw [ht9]; exact hP, va_K.moved hW9.alike hK, hD⟩, hS.F ht9⟩) hS.2.2 de_R_tell_46
        · refine lv_iload_n hx hb de_R_tell_33 rfl (lv_at hl 3 rfl) ?_
          refine lv_iconst (v := 1) hx hb de_R_tell_34 (by decide) ?_
          refine lv_icmp_lt (tgt := 45) hx hb de_R_tell_35 (by decide) (fun c_19 => ?_) (fun c_19 => ?_)
          · refine lv_iconst (v := 0) hx hb de_R_tell_45 (by decide) ?_
            have e_20 : fups = (if sp_rt fups (nI k) up dn = 0 then fups else upd fups (nI k).toNatClampNeg up) := by simp only [sp_rt, sp_ne10, ↓reduceIte, if_neg h1, if_neg h2, nI_clamp (show k < 2 ^ 31 by omega), if_pos c_12, if_neg c_13, if_neg c_16, if_pos c_19]
            have e_21 : fdowns = (if sp_rt fups (nI k) up dn = 0 then fdowns else upd fdowns (nI k).toNatClampNeg dn) := by simp only [sp_rt, sp_ne10, ↓reduceIte, if_neg h1, if_neg h2, nI_clamp (show k < 2 ^ 31 by omega), if_pos c_12, if_neg c_13, if_neg c_16, if_pos c_19]
            have hP : va_P (dC, dI) cls_t [(h, .inr (3, [.ref hups, .ref hdowns])), (hups, .inl (cI, 12, .inl (if sp_rt fups (nI k) up dn = 0 then fups else upd fups (nI k).toNatClampNeg up))), (hdowns, .inl (cI, 12, .inl (if sp_rt fups (nI k) up dn = 0 then fdowns else upd fdowns (nI k).toNatClampNeg dn)))] s.heap := by rw [← e_21, ← e_20]; exact hP
            have hD : va_D A [(h, .inr (3, [.ref hups, .ref hdowns])), (hups, .inl (cI, 12, .inl (if sp_rt fups (nI k) up dn = 0 then fups else upd fups (nI k).toNatClampNeg up))), (hdowns, .inl (cI, 12, .inl (if sp_rt fups (nI k) up dn = 0 then fdowns else upd fdowns (nI k).toNatClampNeg dn)))] := by rw [← e_21, ← e_20]; exact hD
            exact W.zret (v := 0) hx hb hr rfl (fun t9 ht9 hW9 => ⟨⟨0, (), rfl, (show 0 = (sp_rt fups (nI k) up dn) from by simp only [sp_rt, sp_ne10, ↓reduceIte, if_neg h1, if_neg h2, nI_clamp (show k < 2 ^ 31 by omega), if_pos c_12, if_neg c_13, if_neg c_16, if_pos c_19]), by rw [ht9]; exact hP, va_K.moved hW9.alike hK, hD⟩, hS.F ht9⟩) hS.2.2 de_R_tell_46
          · refine lv_iload_n hx hb de_R_tell_38 rfl (lv_at hl 3 rfl) ?_
            refine lv_sipush (v := 10000) hx hb de_R_tell_39 (by decide) ?_
            refine lv_icmp_le (tgt := 47) hx hb de_R_tell_42 (by decide) (fun c_22 => ?_) (fun c_22 => ?_)
            · refine lv_aload_n hx hb de_R_tell_47 rfl (lv_at hl 0 rfl) ?_
              refine va_get (D := (dC, dI)) (ci := 3) (v := .ref hups) (C := rn_R) (T := tf_R) (N := 2) hx hb hts in_R hown hK hP 0 rfl rfl 0 (by decide) (hts _ wd_143) (fun _ h9 => h9) rfl de_R_tell_48 ?_
              refine lv_iload_n hx hb de_R_tell_51 rfl (lv_at hl 1 rfl) ?_
              refine lv_iload_n hx hb de_R_tell_52 rfl (lv_at hl 2 rfl) ?_
              refine qv_iast (k := k) hx hb hK hP hD hS 1 1 rfl rfl (by omega) (by omega) de_R_tell_53 (fun H locs hP hD hS => ?_)
              have hP : va_P (dC, dI) cls_t [(h, .inr (3, [.ref hups, .ref hdowns])), (hups, .inl (cI, 12, .inl (upd fups k up))), (hdowns, .inl (cI, 12, .inl fdowns))] H := hP
              have hD : va_D A [(h, .inr (3, [.ref hups, .ref hdowns])), (hups, .inl (cI, 12, .inl (upd fups k up))), (hdowns, .inl (cI, 12, .inl fdowns))] := hD
              refine lv_aload_n hx hb de_R_tell_54 rfl (lv_at hl 0 rfl) ?_
              refine va_get (D := (dC, dI)) (ci := 3) (v := .ref hdowns) (C := rn_R) (T := tf_R) (N := 2) hx hb hts in_R hown hK hP 0 rfl rfl 1 (by decide) (hts _ wd_144) (fun _ h9 => h9) rfl de_R_tell_55 ?_
              refine lv_iload_n hx hb de_R_tell_58 rfl (lv_at hl 1 rfl) ?_
              refine lv_iload_n hx hb de_R_tell_59 rfl (lv_at hl 3 rfl) ?_
              refine qv_iast (k := k) hx hb hK hP hD hS 2 1 rfl rfl (by omega) (by omega) de_R_tell_60 (fun H locs hP hD hS => ?_)
              have hP : va_P (dC, dI) cls_t [(h, .inr (3, [.ref hups, .ref hdowns])), (hups, .inl (cI, 12, .inl (upd fups k up))), (hdowns, .inl (cI, 12, .inl (upd fdowns k dn)))] H := hP
              have hD : va_D A [(h, .inr (3, [.ref hups, .ref hdowns])), (hups, .inl (cI, 12, .inl (upd fups k up))), (hdowns, .inl (cI, 12, .inl (upd fdowns k dn)))] := hD
              refine lv_iconst (v := 1) hx hb de_R_tell_61 (by decide) ?_
              have e_23 : (upd fups k up) = (if sp_rt fups (nI k) up dn = 0 then fups else upd fups (nI k).toNatClampNeg up) := by simp only [sp_rt, sp_ne10, ↓reduceIte, if_neg h1, if_neg h2, nI_clamp (show k < 2 ^ 31 by omega), if_pos c_12, if_neg c_13, if_neg c_16, if_neg c_19, if_pos c_22]
              have e_24 : (upd fdowns k dn) = (if sp_rt fups (nI k) up dn = 0 then fdowns else upd fdowns (nI k).toNatClampNeg dn) := by simp only [sp_rt, sp_ne10, ↓reduceIte, if_neg h1, if_neg h2, nI_clamp (show k < 2 ^ 31 by omega), if_pos c_12, if_neg c_13, if_neg c_16, if_neg c_19, if_pos c_22]
              have hP : va_P (dC, dI) cls_t [(h, .inr (3, [.ref hups, .ref hdowns])), (hups, .inl (cI, 12, .inl (if sp_rt fups (nI k) up dn = 0 then fups else upd fups (nI k).toNatClampNeg up))), (hdowns, .inl (cI, 12, .inl (if sp_rt fups (nI k) up dn = 0 then fdowns else upd fdowns (nI k).toNatClampNeg dn)))] H := by rw [← e_24, ← e_23]; exact hP
              have hD : va_D A [(h, .inr (3, [.ref hups, .ref hdowns])), (hups, .inl (cI, 12, .inl (if sp_rt fups (nI k) up dn = 0 then fups else upd fups (nI k).toNatClampNeg up))), (hdowns, .inl (cI, 12, .inl (if sp_rt fups (nI k) up dn = 0 then fdowns else upd fdowns (nI k).toNatClampNeg dn)))] := by rw [← e_24, ← e_23]; exact hD
              exact W.zret (v := 1) hx hb hr rfl (fun t9 ht9 hW9 => ⟨⟨1, (), rfl, (show 1 = (sp_rt fups (nI k) up dn) from by simp only [sp_rt, sp_ne10, ↓reduceIte, if_neg h1, if_neg h2, nI_clamp (show k < 2 ^ 31 by omega), if_pos c_12, if_neg c_13, if_neg c_16, if_neg c_19, if_pos c_22]), by rw [ht9]; exact hP, va_K.moved hW9.alike hK, hD⟩, hS.F ht9⟩) hS.2.2 de_R_tell_62
            · refine lv_iconst (v := 0) hx hb de_R_tell_45 (by decide) ?_
              have e_25 : fups = (if sp_rt fups (nI k) up dn = 0 then fups else upd fups (nI k).toNatClampNeg up) := by simp only [sp_rt, sp_ne10, ↓reduceIte, if_neg h1, if_neg h2, nI_clamp (show k < 2 ^ 31 by omega), if_pos c_12, if_neg c_13, if_neg c_16, if_neg c_19, if_neg c_22]
              have e_26 : fdowns = (if sp_rt fups (nI k) up dn = 0 then fdowns else upd fdowns (nI k).toNatClampNeg dn) := by simp only [sp_rt, sp_ne10, ↓reduceIte, if_neg h1, if_neg h2, nI_clamp (show k < 2 ^ 31 by omega), if_pos c_12, if_neg c_13, if_neg c_16, if_neg c_19, if_neg c_22]
              have hP : va_P (dC, dI) cls_t [(h, .inr (3, [.ref hups, .ref hdowns])), (hups, .inl (cI, 12, .inl (if sp_rt fups (nI k) up dn = 0 then fups else upd fups (nI k).toNatClampNeg up))), (hdowns, .inl (cI, 12, .inl (if sp_rt fups (nI k) up dn = 0 then fdowns else upd fdowns (nI k).toNatClampNeg dn)))] s.heap := by rw [← e_26, ← e_25]; exact hP
              have hD : va_D A [(h, .inr (3, [.ref hups, .ref hdowns])), (hups, .inl (cI, 12, .inl (if sp_rt fups (nI k) up dn = 0 then fups else upd fups (nI k).toNatClampNeg up))), (hdowns, .inl (cI, 12, .inl (if sp_rt fups (nI k) up dn = 0 then fdowns else upd fdowns (nI k).toNatClampNeg dn)))] := by rw [← e_26, ← e_25]; exact hD
              exact W.zret (v := 0) hx hb hr rfl (fun t9 ht9 hW9 => ⟨⟨0, (), rfl, (show 0 = (sp_rt fups (nI k) up dn) from by simp only [sp_rt, sp_ne10, ↓reduceIte, if_neg h1, if_neg h2, nI_clamp (show k < 2 ^ 31 by omega), if_pos c_12, if_neg c_13, if_neg c_16, if_neg c_19, if_neg c_22]), by rw [ht9]; exact hP, va_K.moved hW9.alike hK, hD⟩, hS.F ht9⟩) hS.2.2 de_R_tell_46
    · refine lv_iconst (v := 0) hx hb de_R_tell_19 (by decide) ?_
      have e_27 : fups = (if sp_rt fups (nI k) up dn = 0 then fups else upd fups (nI k).toNatClampNeg up) := by simp only [sp_rt, sp_ne10, ↓reduceIte, if_neg h1, if_neg h2, nI_clamp (show k < 2 ^ 31 by omega), if_neg c_12]
      have e_28 : fdowns = (if sp_rt fups (nI k) up dn = 0 then fdowns else upd fdowns (nI k).toNatClampNeg dn) := by simp only [sp_rt, sp_ne10, ↓reduceIte, if_neg h1, if_neg h2, nI_clamp (show k < 2 ^ 31 by omega), if_neg c_12]
      have hP : va_P (dC, dI) cls_t [(h, .inr (3, [.ref hups, .ref hdowns])), (hups, .inl (cI, 12, .inl (if sp_rt fups (nI k) up dn = 0 then fups else upd fups (nI k).toNatClampNeg up))), (hdowns, .inl (cI, 12, .inl (if sp_rt fups (nI k) up dn = 0 then fdowns else upd fdowns (nI k).toNatClampNeg dn)))] s.heap := by rw [← e_28, ← e_27]; exact hP
      have hD : va_D A [(h, .inr (3, [.ref hups, .ref hdowns])), (hups, .inl (cI, 12, .inl (if sp_rt fups (nI k) up dn = 0 then fups else upd fups (nI k).toNatClampNeg up))), (hdowns, .inl (cI, 12, .inl (if sp_rt fups (nI k) up dn = 0 then fdowns else upd fdowns (nI k).toNatClampNeg dn)))] := by rw [← e_28, ← e_27]; exact hD
      exact W.zret (v := 0) hx hb hr rfl (fun t9 ht9 hW9 => ⟨⟨0, (), rfl, (show 0 = (sp_rt fups (nI k) up dn) from by simp only [sp_rt, sp_ne10, ↓reduceIte, if_neg h1, if_neg h2, nI_clamp (show k < 2 ^ 31 by omega), if_neg c_12]), by rw [ht9]; exact hP, va_K.moved hW9.alike hK, hD⟩, hS.F ht9⟩) hS.2.2 de_R_tell_20
