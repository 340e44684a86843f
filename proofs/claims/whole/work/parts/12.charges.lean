set_option maxHeartbeats 4000000 in
set_option maxRecDepth 100000 in
/-- kinds -/
theorem cc_kinds (l : Launch) (dC : Nat → ClassId) (dI : Nat → Nat → Nat) (cJ cI cZ : Nat) (h : Nat) (hcents : Nat) (hbyWeight : Nat) (htold : Nat) (xtoldKinds : Nat) (xtotal : Int64) (K : Nat) (fcents : Nat → Int64) : Met l yn_C_kinds ws_C_kinds ({ frames := 0, cells := 0, slots := 0, locals := 0 }) (va_Pc [.ref h] (qv_ro (dC, dI) cls_t [(h, .inr (0, [.ref hcents, .ref hbyWeight, .ref htold, .int (nI xtoldKinds), .long xtotal])), (hcents, .inl (cJ, K, .inr (.inl fcents)))] [(cJ, .long), (cI, .int), (cZ, .boolean)])) (k2_QcV (.int (nI K))) 0 0 (fun _ => False) := by
  refine Met.ofW (cc := by_C_kinds) (maxL := 1) (ret := (some .int)) (by decide) rfl ?_
  intro p e s m args below meth c s₁ B hml hv
  obtain ⟨rfl, hP, hK⟩ := hv
  have hx := B.exec
  have hb := B.bytes
  have hr := B.returns
  have hts := fun (w : Cond) (h : w ∈ lw_gt) => atoms_spec (ws := ws_C_kinds) B.pre w (List.mem_cons_of_mem _ h)
  have hown : s.vm.findClass rn_C = some m.cls := findClass_of_methodNamed B.named
  have hlocks := B.notSynchronized
  have hP : va_P (dC, dI) cls_t [(h, .inr (0, [.ref hcents, .ref hbyWeight, .ref htold, .int (nI xtoldKinds), .long xtotal])), (hcents, .inl (cJ, K, .inr (.inl fcents)))] s.heap := hP
  have hl := lv_entry ([.ref h]) (n := 1) (Nat.le_of_ble_eq_true rfl)
  rw [lg_entry_eq]
  generalize (lg_sl ([.ref h]) ++ List.replicate (1 - (lg_sl ([.ref h])).length) Slot.unset).toArray = ls at hl ⊢
  have hl : lv_has ls 1 [(0, .ref h)] := hl
  refine lv_aload_n hx hb de_C_kinds_0 rfl (lv_at hl 0 rfl) ?_
  refine va_get (D := (dC, dI)) (ci := 0) (v := .ref hcents) (C := rn_C) (T := tf_C) (N := 5) hx hb hts in_C hown hK hP 0 rfl rfl 0 (by decide) (hts _ wd_103) (fun _ h9 => h9) rfl de_C_kinds_1 ?_
  refine va_alen (v := nI K) hx hb hK hP 1 0 rfl rfl rfl de_C_kinds_4 ?_
  exact W.iret (v := nI K) hx hb hr (fun t9 ht9 hW9 => ⟨congrArg (fun z => Outcome.returned (some (Value.int z))) rfl, ht9⟩) (fun _ h => nomatch h) de_C_kinds_5
set_option maxHeartbeats 4000000 in
set_option maxRecDepth 100000 in
/-- hasKind -/
theorem cc_hasKind (l : Launch) (dC : Nat → ClassId) (dI : Nat → Nat → Nat) (cJ cI cZ : Nat) (h : Nat) (hcents : Nat) (hbyWeight : Nat) (htold : Nat) (xtoldKinds : Nat) (xtotal : Int64) (K : Nat) (fcents : Nat → Int64) (k : Int32) : Met l yn_C_hasKind ws_C_hasKind ({ frames := 0, cells := 0, slots := 0, locals := 0 }) (va_Pc [.ref h, .int k] (qv_ro (dC, dI) cls_t [(h, .inr (0, [.ref hcents, .ref hbyWeight, .ref htold, .int (nI xtoldKinds), .long xtotal])), (hcents, .inl (cJ, K, .inr (.inl fcents)))] [(cJ, .long), (cI, .int), (cZ, .boolean)])) (k2_QcV (.int (sp_has k (nI K)))) 0 0 (fun _ => False) := by
  refine Met.ofW (cc := by_C_hasKind) (maxL := 2) (ret := (some .boolean)) (by decide) rfl ?_
  intro p e s m args below meth c s₁ B hml hv
  obtain ⟨rfl, hP, hK⟩ := hv
  have hx := B.exec
  have hb := B.bytes
  have hr := B.returns
  have hts := fun (w : Cond) (h : w ∈ lw_gt) => atoms_spec (ws := ws_C_hasKind) B.pre w (List.mem_cons_of_mem _ h)
  have hown : s.vm.findClass rn_C = some m.cls := findClass_of_methodNamed B.named
  have hlocks := B.notSynchronized
  have hP : va_P (dC, dI) cls_t [(h, .inr (0, [.ref hcents, .ref hbyWeight, .ref htold, .int (nI xtoldKinds), .long xtotal])), (hcents, .inl (cJ, K, .inr (.inl fcents)))] s.heap := hP
  have hl := lv_entry ([.ref h, .int k]) (n := 2) (Nat.le_of_ble_eq_true rfl)
  rw [lg_entry_eq]
  generalize (lg_sl ([.ref h, .int k]) ++ List.replicate (2 - (lg_sl ([.ref h, .int k])).length) Slot.unset).toArray = ls at hl ⊢
  have hl : lv_has ls 2 [(0, .ref h), (1, .int k)] := hl
  refine lv_iload_n hx hb de_C_hasKind_0 rfl (lv_at hl 1 rfl) ?_
  refine lv_if_lt (tgt := 17) hx hb de_C_hasKind_1 (by decide) (fun c_1 => ?_) (fun c_1 => ?_)
  · refine lv_iconst (v := 0) hx hb de_C_hasKind_17 (by decide) ?_
    exact W.zret (v := 0) hx hb hr rfl (fun t9 ht9 hW9 => ⟨congrArg (fun z => Outcome.returned (some (Value.int z))) (show 0 = (sp_has k (nI K)) from by simp only [sp_has, if_pos c_1]), ht9⟩) (fun _ h => nomatch h) de_C_hasKind_18
  · refine lv_iload_n hx hb de_C_hasKind_4 rfl (lv_at hl 1 rfl) ?_
    refine lv_aload_n hx hb de_C_hasKind_5 rfl (lv_at hl 0 rfl) ?_
    refine va_get (D := (dC, dI)) (ci := 0) (v := .ref hcents) (C := rn_C) (T := tf_C) (N := 5) hx hb hts in_C hown hK hP 0 rfl rfl 0 (by decide) (hts _ wd_103) (fun _ h9 => h9) rfl de_C_hasKind_6 ?_
    refine va_alen (v := nI K) hx hb hK hP 1 0 rfl rfl rfl de_C_hasKind_9 ?_
    refine lv_icmp_ge (tgt := 17) hx hb de_C_hasKind_10 (by decide) (fun c_2 => ?_) (fun c_2 => ?_)
    · refine lv_iconst (v := 0) hx hb de_C_hasKind_17 (by decide) ?_
      exact W.zret (v := 0) hx hb hr rfl (fun t9 ht9 hW9 => ⟨congrArg (fun z => Outcome.returned (some (Value.int z))) (show 0 = (sp_has k (nI K)) from by simp only [sp_has, if_neg c_1, if_pos c_2]), ht9⟩) (fun _ h => nomatch h) de_C_hasKind_18
    · refine lv_iconst (v := 1) hx hb de_C_hasKind_13 (by decide) ?_
      refine lv_goto (tgt := 18) hx hb de_C_hasKind_14 (by decide) ?_
      exact W.zret (v := 1) hx hb hr rfl (fun t9 ht9 hW9 => ⟨congrArg (fun z => Outcome.returned (some (Value.int z))) (show 1 = (sp_has k (nI K)) from by simp only [sp_has, if_neg c_1, if_neg c_2]), ht9⟩) (fun _ h => nomatch h) de_C_hasKind_18
set_option maxHeartbeats 4000000 in
set_option maxRecDepth 100000 in
/-- centsOf -/
theorem cc_centsOf (l : Launch) (dC : Nat → ClassId) (dI : Nat → Nat → Nat) (cJ cI cZ : Nat) (h : Nat) (hcents : Nat) (hbyWeight : Nat) (htold : Nat) (xtoldKinds : Nat) (xtotal : Int64) (K : Nat) (fcents : Nat → Int64) (k : Nat) (hk : k < K) (hKn : K ≤ 5) : Met l yn_C_centsOf ws_C_centsOf ({ frames := 0, cells := 0, slots := 0, locals := 0 }) (va_Pc [.ref h, .int (nI k)] (qv_ro (dC, dI) cls_t [(h, .inr (0, [.ref hcents, .ref hbyWeight, .ref htold, .int (nI xtoldKinds), .long xtotal])), (hcents, .inl (cJ, K, .inr (.inl fcents)))] [(cJ, .long), (cI, .int), (cZ, .boolean)])) (k2_QcV (.long (fcents k))) 0 0 (fun _ => False) := by
  refine Met.ofW (cc := by_C_centsOf) (maxL := 2) (ret := (some .long)) (by decide) rfl ?_
  intro p e s m args below meth c s₁ B hml hv
  obtain ⟨rfl, hP, hK⟩ := hv
  have hx := B.exec
  have hb := B.bytes
  have hr := B.returns
  have hts := fun (w : Cond) (h : w ∈ lw_gt) => atoms_spec (ws := ws_C_centsOf) B.pre w (List.mem_cons_of_mem _ h)
  have hown : s.vm.findClass rn_C = some m.cls := findClass_of_methodNamed B.named
  have hlocks := B.notSynchronized
  have hP : va_P (dC, dI) cls_t [(h, .inr (0, [.ref hcents, .ref hbyWeight, .ref htold, .int (nI xtoldKinds), .long xtotal])), (hcents, .inl (cJ, K, .inr (.inl fcents)))] s.heap := hP
  have hl := lv_entry ([.ref h, .int (nI k)]) (n := 2) (Nat.le_of_ble_eq_true rfl)
  rw [lg_entry_eq]
  generalize (lg_sl ([.ref h, .int (nI k)]) ++ List.replicate (2 - (lg_sl ([.ref h, .int (nI k)])).length) Slot.unset).toArray = ls at hl ⊢
  have hl : lv_has ls 2 [(0, .ref h), (1, .int (nI k))] := hl
  refine lv_aload_n hx hb de_C_centsOf_0 rfl (lv_at hl 0 rfl) ?_
  refine va_get (D := (dC, dI)) (ci := 0) (v := .ref hcents) (C := rn_C) (T := tf_C) (N := 5) hx hb hts in_C hown hK hP 0 rfl rfl 0 (by decide) (hts _ wd_103) (fun _ h9 => h9) rfl de_C_centsOf_1 ?_
  refine lv_iload_n hx hb de_C_centsOf_4 rfl (lv_at hl 1 rfl) ?_
  refine qv_lald (k := k) hx hb hK hP 1 0 rfl rfl (by omega) (by omega) de_C_centsOf_5 ?_
  exact W.lret (v := fcents k) hx hb hr (fun t9 ht9 hW9 => ⟨congrArg (fun z => Outcome.returned (some (Value.long z))) rfl, ht9⟩) (fun _ h => nomatch h) de_C_centsOf_6
set_option maxHeartbeats 4000000 in
set_option maxRecDepth 100000 in
/-- goesByWeight -/
theorem cc_goesByWeight (l : Launch) (dC : Nat → ClassId) (dI : Nat → Nat → Nat) (cJ cI cZ : Nat) (h : Nat) (hcents : Nat) (hbyWeight : Nat) (htold : Nat) (xtoldKinds : Nat) (xtotal : Int64) (K : Nat) (fbyWeight : Nat → Int32) (k : Nat) (hk : k < K) (hKn : K ≤ 5) (hz : fbyWeight k = 0 ∨ fbyWeight k = 1) : Met l yn_C_goesByWeight ws_C_goesByWeight ({ frames := 0, cells := 0, slots := 0, locals := 0 }) (va_Pc [.ref h, .int (nI k)] (qv_ro (dC, dI) cls_t [(h, .inr (0, [.ref hcents, .ref hbyWeight, .ref htold, .int (nI xtoldKinds), .long xtotal])), (hbyWeight, .inl (cZ, K, .inl fbyWeight))] [(cJ, .long), (cI, .int), (cZ, .boolean)])) (k2_QcV (.int (fbyWeight k))) 0 0 (fun _ => False) := by
  refine Met.ofW (cc := by_C_goesByWeight) (maxL := 2) (ret := (some .boolean)) (by decide) rfl ?_
  intro p e s m args below meth c s₁ B hml hv
  obtain ⟨rfl, hP, hK⟩ := hv
  have hx := B.exec
  have hb := B.bytes
  have hr := B.returns
  have hts := fun (w : Cond) (h : w ∈ lw_gt) => atoms_spec (ws := ws_C_goesByWeight) B.pre w (List.mem_cons_of_mem _ h)
  have hown : s.vm.findClass rn_C = some m.cls := findClass_of_methodNamed B.named
  have hlocks := B.notSynchronized
  have hP : va_P (dC, dI) cls_t [(h, .inr (0, [.ref hcents, .ref hbyWeight, .ref htold, .int (nI xtoldKinds), .long xtotal])), (hbyWeight, .inl (cZ, K, .inl fbyWeight))] s.heap := hP
  have hl := lv_entry ([.ref h, .int (nI k)]) (n := 2) (Nat.le_of_ble_eq_true rfl)
  rw [lg_entry_eq]
  generalize (lg_sl ([.ref h, .int (nI k)]) ++ List.replicate (2 - (lg_sl ([.ref h, .int (nI k)])).length) Slot.unset).toArray = ls at hl ⊢
  have hl : lv_has ls 2 [(0, .ref h), (1, .int (nI k))] := hl
  refine lv_aload_n hx hb de_C_goesByWeight_0 rfl (lv_at hl 0 rfl) ?_
  refine va_get (D := (dC, dI)) (ci := 0) (v := .ref hbyWeight) (C := rn_C) (T := tf_C) (N := 5) hx hb hts in_C hown hK hP 0 rfl rfl 1 (by decide) (hts _ wd_104) (fun _ h9 => h9) rfl de_C_goesByWeight_1 ?_
  refine lv_iload_n hx hb de_C_goesByWeight_4 rfl (lv_at hl 1 rfl) ?_
  refine qv_zald (k := k) hx hb hK hP 1 2 rfl rfl (by omega) (by omega) de_C_goesByWeight_5 ?_
  exact W.zret (v := fbyWeight k) hx hb hr (lp_nz hz) (fun t9 ht9 hW9 => ⟨congrArg (fun z => Outcome.returned (some (Value.int z))) rfl, ht9⟩) (fun _ h => nomatch h) de_C_goesByWeight_6
set_option maxHeartbeats 4000000 in
set_option maxRecDepth 100000 in
/-- toldKinds -/
theorem cc_toldKinds (l : Launch) (dC : Nat → ClassId) (dI : Nat → Nat → Nat) (cJ cI cZ : Nat) (h : Nat) (hcents : Nat) (hbyWeight : Nat) (htold : Nat) (xtoldKinds : Nat) (xtotal : Int64) : Met l yn_C_toldKinds ws_C_toldKinds ({ frames := 0, cells := 0, slots := 0, locals := 0 }) (va_Pc [.ref h] (qv_ro (dC, dI) cls_t [(h, .inr (0, [.ref hcents, .ref hbyWeight, .ref htold, .int (nI xtoldKinds), .long xtotal]))] [(cJ, .long), (cI, .int), (cZ, .boolean)])) (k2_QcV (.int (nI xtoldKinds))) 0 0 (fun _ => False) := by
  refine Met.ofW (cc := by_C_toldKinds) (maxL := 1) (ret := (some .int)) (by decide) rfl ?_
  intro p e s m args below meth c s₁ B hml hv
  obtain ⟨rfl, hP, hK⟩ := hv
  have hx := B.exec
  have hb := B.bytes
  have hr := B.returns
  have hts := fun (w : Cond) (h : w ∈ lw_gt) => atoms_spec (ws := ws_C_toldKinds) B.pre w (List.mem_cons_of_mem _ h)
  have hown : s.vm.findClass rn_C = some m.cls := findClass_of_methodNamed B.named
  have hlocks := B.notSynchronized
  have hP : va_P (dC, dI) cls_t [(h, .inr (0, [.ref hcents, .ref hbyWeight, .ref htold, .int (nI xtoldKinds), .long xtotal]))] s.heap := hP
  have hl := lv_entry ([.ref h]) (n := 1) (Nat.le_of_ble_eq_true rfl)
  rw [lg_entry_eq]
  generalize (lg_sl ([.ref h]) ++ List.replicate (1 - (lg_sl ([.ref h])).length) Slot.unset).toArray = ls at hl ⊢
  have hl : lv_has ls 1 [(0, .ref h)] := hl
  refine lv_aload_n hx hb de_C_toldKinds_0 rfl (lv_at hl 0 rfl) ?_
  refine va_get (D := (dC, dI)) (ci := 0) (v := .int (nI xtoldKinds)) (C := rn_C) (T := tf_C) (N := 5) hx hb hts in_C hown hK hP 0 rfl rfl 3 (by decide) (hts _ wd_106) (fun _ h9 => h9) rfl de_C_toldKinds_1 ?_
  exact W.iret (v := nI xtoldKinds) hx hb hr (fun t9 ht9 hW9 => ⟨congrArg (fun z => Outcome.returned (some (Value.int z))) rfl, ht9⟩) (fun _ h => nomatch h) de_C_toldKinds_4
set_option maxHeartbeats 4000000 in
set_option maxRecDepth 100000 in
/-- total -/
theorem cc_total (l : Launch) (dC : Nat → ClassId) (dI : Nat → Nat → Nat) (cJ cI cZ : Nat) (h : Nat) (hcents : Nat) (hbyWeight : Nat) (htold : Nat) (xtoldKinds : Nat) (xtotal : Int64) : Met l yn_C_total ws_C_total ({ frames := 0, cells := 0, slots := 0, locals := 0 }) (va_Pc [.ref h] (qv_ro (dC, dI) cls_t [(h, .inr (0, [.ref hcents, .ref hbyWeight, .ref htold, .int (nI xtoldKinds), .long xtotal]))] [(cJ, .long), (cI, .int), (cZ, .boolean)])) (k2_QcV (.long xtotal)) 0 0 (fun _ => False) := by
  refine Met.ofW (cc := by_C_total) (maxL := 1) (ret := (some .long)) (by decide) rfl ?_
  intro p e s m args below meth c s₁ B hml hv
  obtain ⟨rfl, hP, hK⟩ := hv
  have hx := B.exec
  have hb := B.bytes
  have hr := B.returns
  have hts := fun (w : Cond) (h : w ∈ lw_gt) => atoms_spec (ws := ws_C_total) B.pre w (List.mem_cons_of_mem _ h)
  have hown : s.vm.findClass rn_C = some m.cls := findClass_of_methodNamed B.named
  have hlocks := B.notSynchronized
  have hP : va_P (dC, dI) cls_t [(h, .inr (0, [.ref hcents, .ref hbyWeight, .ref htold, .int (nI xtoldKinds), .long xtotal]))] s.heap := hP
  have hl := lv_entry ([.ref h]) (n := 1) (Nat.le_of_ble_eq_true rfl)
  rw [lg_entry_eq]
  generalize (lg_sl ([.ref h]) ++ List.replicate (1 - (lg_sl ([.ref h])).length) Slot.unset).toArray = ls at hl ⊢
  have hl : lv_has ls 1 [(0, .ref h)] := hl
  refine lv_aload_n hx hb de_C_total_0 rfl (lv_at hl 0 rfl) ?_
  refine va_get (D := (dC, dI)) (ci := 0) (v := .long xtotal) (C := rn_C) (T := tf_C) (N := 5) hx hb hts in_C hown hK hP 0 rfl rfl 4 (by decide) (hts _ wd_107) (fun _ h9 => h9) rfl de_C_total_1 ?_
  exact W.lret (v := xtotal) hx hb hr (fun t9 ht9 hW9 => ⟨congrArg (fun z => Outcome.returned (some (Value.long z))) rfl, ht9⟩) (fun _ h => nomatch h) de_C_total_4
