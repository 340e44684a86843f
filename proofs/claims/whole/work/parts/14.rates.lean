set_option maxHeartbeats 4000000 in
set_option maxRecDepth 100000 in
/-- upIn -/
theorem cr_upIn (l : Launch) (dC : Nat → ClassId) (dI : Nat → Nat → Nat) (cJ cI cZ : Nat) (h : Nat) (hups : Nat) (hdowns : Nat) (fups : Nat → Int32) (k : Nat) (hk : k < 12) : Met l yn_R_upIn ws_R_upIn ({ frames := 0, cells := 0, slots := 0, locals := 0 }) (va_Pc [.ref h, .int (nI k)] (qv_ro (dC, dI) cls_t [(h, .inr (3, [.ref hups, .ref hdowns])), (hups, .inl (cI, 12, .inl fups))] [(cJ, .long), (cI, .int), (cZ, .boolean)])) (k2_QcV (.long (sp_rate (fups k)))) 0 0 (fun _ => False) := by
  refine Met.ofW (cc := by_R_upIn) (maxL := 2) (ret := (some .long)) (by decide) rfl ?_
  intro p e s m args below meth c s₁ B hml hv
  obtain ⟨rfl, hP, hK⟩ := hv
  have hx := B.exec
  have hb := B.bytes
  have hr := B.returns
  have hts := fun (w : Cond) (h : w ∈ lw_gt) => atoms_spec (ws := ws_R_upIn) B.pre w (List.mem_cons_of_mem _ h)
  have hown : s.vm.findClass rn_R = some m.cls := findClass_of_methodNamed B.named
  have hlocks := B.notSynchronized
  have hP : va_P (dC, dI) cls_t [(h, .inr (3, [.ref hups, .ref hdowns])), (hups, .inl (cI, 12, .inl fups))] s.heap := hP
  have hl := lv_entry ([.ref h, .int (nI k)]) (n := 2) (Nat.le_of_ble_eq_true rfl)
  rw [lg_entry_eq]
  generalize (lg_sl ([.ref h, .int (nI k)]) ++ List.replicate (2 - (lg_sl ([.ref h, .int (nI k)])).length) Slot.unset).toArray = ls at hl ⊢
  have hl : lv_has ls 2 [(0, .ref h), (1, .int (nI k))] := hl
  refine lv_aload_n hx hb de_R_upIn_0 rfl (lv_at hl 0 rfl) ?_
  refine va_get (D := (dC, dI)) (ci := 3) (v := .ref hups) (C := rn_R) (T := tf_R) (N := 2) hx hb hts in_R hown hK hP 0 rfl rfl 0 (by decide) (hts _ wd_143) (fun _ h9 => h9) rfl de_R_upIn_1 ?_
  refine lv_iload_n hx hb de_R_upIn_4 rfl (lv_at hl 1 rfl) ?_
  refine qv_iald (k := k) hx hb hK hP 1 1 rfl rfl (by omega) (by omega) de_R_upIn_5 ?_
  refine lv_if_ne (tgt := 13) hx hb de_R_upIn_6 (by decide) (fun c_1 => ?_) (fun c_1 => ?_)
  · refine lv_aload_n hx hb de_R_upIn_13 rfl (lv_at hl 0 rfl) ?_
    refine va_get (D := (dC, dI)) (ci := 3) (v := .ref hups) (C := rn_R) (T := tf_R) (N := 2) hx hb hts in_R hown hK hP 0 rfl rfl 0 (by decide) (hts _ wd_143) (fun _ h9 => h9) rfl de_R_upIn_14 ?_
    refine lv_iload_n hx hb de_R_upIn_17 rfl (lv_at hl 1 rfl) ?_
    refine qv_iald (k := k) hx hb hK hP 1 1 rfl rfl (by omega) (by omega) de_R_upIn_18 ?_
    refine lv_i2l (v := (fups k).toInt64) hx hb de_R_upIn_19 rfl ?_
    exact W.lret (v := (fups k).toInt64) hx hb hr (fun t9 ht9 hW9 => ⟨congrArg (fun z => Outcome.returned (some (Value.long z))) (show ((fups k).toInt64) = (sp_rate (fups k)) from by simp only [sp_rate, if_neg c_1]), ht9⟩) (fun _ h => nomatch h) de_R_upIn_20
  · refine lv_lconst (v := 1) hx hb de_R_upIn_9 (by decide) ?_
    refine lv_goto (tgt := 20) hx hb de_R_upIn_10 (by decide) ?_
    exact W.lret (v := 1) hx hb hr (fun t9 ht9 hW9 => ⟨congrArg (fun z => Outcome.returned (some (Value.long z))) (show 1 = (sp_rate (fups k)) from by simp only [sp_rate, if_pos c_1]), ht9⟩) (fun _ h => nomatch h) de_R_upIn_20
set_option maxHeartbeats 4000000 in
set_option maxRecDepth 100000 in
/-- downIn -/
theorem cr_downIn (l : Launch) (dC : Nat → ClassId) (dI : Nat → Nat → Nat) (cJ cI cZ : Nat) (h : Nat) (hups : Nat) (hdowns : Nat) (fdowns : Nat → Int32) (k : Nat) (hk : k < 12) : Met l yn_R_downIn ws_R_downIn ({ frames := 0, cells := 0, slots := 0, locals := 0 }) (va_Pc [.ref h, .int (nI k)] (qv_ro (dC, dI) cls_t [(h, .inr (3, [.ref hups, .ref hdowns])), (hdowns, .inl (cI, 12, .inl fdowns))] [(cJ, .long), (cI, .int), (cZ, .boolean)])) (k2_QcV (.long (sp_rate (fdowns k)))) 0 0 (fun _ => False) := by
  refine Met.ofW (cc := by_R_downIn) (maxL := 2) (ret := (some .long)) (by decide) rfl ?_
  intro p e s m args below meth c s₁ B hml hv
  obtain ⟨rfl, hP, hK⟩ := hv
  have hx := B.exec
  have hb := B.bytes
  have hr := B.returns
  have hts := fun (w : Cond) (h : w ∈ lw_gt) => atoms_spec (ws := ws_R_downIn) B.pre w (List.mem_cons_of_mem _ h)
  have hown : s.vm.findClass rn_R = some m.cls := findClass_of_methodNamed B.named
  have hlocks := B.notSynchronized
  have hP : va_P (dC, dI) cls_t [(h, .inr (3, [.ref hups, .ref hdowns])), (hdowns, .inl (cI, 12, .inl fdowns))] s.heap := hP
  have hl := lv_entry ([.ref h, .int (nI k)]) (n := 2) (Nat.le_of_ble_eq_true rfl)
  rw [lg_entry_eq]
  generalize (lg_sl ([.ref h, .int (nI k)]) ++ List.replicate (2 - (lg_sl ([.ref h, .int (nI k)])).length) Slot.unset).toArray = ls at hl ⊢
  have hl : lv_has ls 2 [(0, .ref h), (1, .int (nI k))] := hl
  refine lv_aload_n hx hb de_R_downIn_0 rfl (lv_at hl 0 rfl) ?_
  refine va_get (D := (dC, dI)) (ci := 3) (v := .ref hdowns) (C := rn_R) (T := tf_R) (N := 2) hx hb hts in_R hown hK hP 0 rfl rfl 1 (by decide) (hts _ wd_144) (fun _ h9 => h9) rfl de_R_downIn_1 ?_
  refine lv_iload_n hx hb de_R_downIn_4 rfl (lv_at hl 1 rfl) ?_
  refine qv_iald (k := k) hx hb hK hP 1 1 rfl rfl (by omega) (by omega) de_R_downIn_5 ?_
  refine lv_if_ne (tgt := 13) hx hb de_R_downIn_6 (by decide) (fun c_1 => ?_) (fun c_1 => ?_)
  · refine lv_aload_n hx hb de_R_downIn_13 rfl (lv_at hl 0 rfl) ?_
    refine va_get (D := (dC, dI)) (ci := 3) (v := .ref hdowns) (C := rn_R) (T := tf_R) (N := 2) hx hb hts in_R hown hK hP 0 rfl rfl 1 (by decide) (hts _ wd_144) (fun _ h9 => h9) rfl de_R_downIn_14 ?_
    refine lv_iload_n hx hb de_R_downIn_17 rfl (lv_at hl 1 rfl) ?_
    refine qv_iald (k := k) hx hb hK hP 1 1 rfl rfl (by omega) (by omega) de_R_downIn_18 ?_
    refine lv_i2l (v := (fdowns k).toInt64) hx hb de_R_downIn_19 rfl ?_
    exact W.lret (v := (fdowns k).toInt64) hx hb hr (fun t9 ht9 hW9 => ⟨congrArg (fun z => Outcome.returned (some (Value.long z))) (show ((fdowns k).toInt64) = (sp_rate (fdowns k)) from by simp only [sp_rate, if_neg c_1]), ht9⟩) (fun _ h => nomatch h) de_R_downIn_20
  · refine lv_lconst (v := 1) hx hb de_R_downIn_9 (by decide) ?_
    refine lv_goto (tgt := 20) hx hb de_R_downIn_10 (by decide) ?_
    exact W.lret (v := 1) hx hb hr (fun t9 ht9 hW9 => ⟨congrArg (fun z => Outcome.returned (some (Value.long z))) (show 1 = (sp_rate (fdowns k)) from by simp only [sp_rate, if_pos c_1]), ht9⟩) (fun _ h => nomatch h) de_R_downIn_20
