set_option maxHeartbeats 4000000 in
set_option maxRecDepth 100000 in
/-- size -/
theorem cd_size (l : Launch) (dC : Nat → ClassId) (dI : Nat → Nat → Nat) (cJ cI cZ : Nat) (h : Nat) (hrowDays : Nat) (hrowThousandths : Nat) (xsize : Nat) : Met l yn_D_size ws_D_size ({ frames := 0, cells := 0, slots := 0, locals := 0 }) (va_Pc [.ref h] (qv_ro (dC, dI) cls_t [(h, .inr (1, [.ref hrowDays, .ref hrowThousandths, .int (nI xsize)]))] [(cJ, .long), (cI, .int), (cZ, .boolean)])) (k2_QcV (.int (nI xsize))) 0 0 (fun _ => False) := by
  refine Met.ofW (cc := by_D_size) (maxL := 1) (ret := (some .int)) (by decide) rfl ?_
  intro p e s m args below meth c s₁ B hml hv
  obtain ⟨rfl, hP, hK⟩ := hv
  have hx := B.exec
  have hb := B.bytes
  have hr := B.returns
  have hts := fun (w : Cond) (h : w ∈ lw_gt) => atoms_spec (ws := ws_D_size) B.pre w (List.mem_cons_of_mem _ h)
  have hown : s.vm.findClass rn_D = some m.cls := findClass_of_methodNamed B.named
  have hlocks := B.notSynchronized
  have hP : va_P (dC, dI) cls_t [(h, .inr (1, [.ref hrowDays, .ref hrowThousandths, .int (nI xsize)]))] s.heap := hP
  have hl := lv_entry ([.ref h]) (n := 1) (Nat.le_of_ble_eq_true rfl)
  rw [lg_entry_eq]
  generalize (lg_sl ([.ref h]) ++ List.replicate (1 - (lg_sl ([.ref h])).length) Slot.unset).toArray = ls at hl ⊢
  have hl : lv_has ls 1 [(0, .ref h)] := hl
  refine lv_aload_n hx hb de_D_size_0 rfl (lv_at hl 0 rfl) ?_
  refine va_get (D := (dC, dI)) (ci := 1) (v := .int (nI xsize)) (C := rn_D) (T := tf_D) (N := 3) hx hb hts in_D hown hK hP 0 rfl rfl 2 (by decide) (hts _ wd_128) (fun _ h9 => h9) rfl de_D_size_1 ?_
  exact W.iret (v := nI xsize) hx hb hr (fun t9 ht9 hW9 => ⟨congrArg (fun z => Outcome.returned (some (Value.int z))) rfl, ht9⟩) (fun _ h => nomatch h) de_D_size_4
set_option maxHeartbeats 4000000 in
set_option maxRecDepth 100000 in
/-- isFull -/
theorem cd_isFull (l : Launch) (dC : Nat → ClassId) (dI : Nat → Nat → Nat) (cJ cI cZ : Nat) (h : Nat) (hrowDays : Nat) (hrowThousandths : Nat) (xsize : Nat) : Met l yn_D_isFull ws_D_isFull ({ frames := 0, cells := 0, slots := 0, locals := 0 }) (va_Pc [.ref h] (qv_ro (dC, dI) cls_t [(h, .inr (1, [.ref hrowDays, .ref hrowThousandths, .int (nI xsize)]))] [(cJ, .long), (cI, .int), (cZ, .boolean)])) (k2_QcV (.int (sp_full (nI xsize) 10))) 0 0 (fun _ => False) := by
  refine Met.ofW (cc := by_D_isFull) (maxL := 1) (ret := (some .boolean)) (by decide) rfl ?_
  intro p e s m args below meth c s₁ B hml hv
  obtain ⟨rfl, hP, hK⟩ := hv
  have hx := B.exec
  have hb := B.bytes
  have hr := B.returns
  have hts := fun (w : Cond) (h : w ∈ lw_gt) => atoms_spec (ws := ws_D_isFull) B.pre w (List.mem_cons_of_mem _ h)
  have hown : s.vm.findClass rn_D = some m.cls := findClass_of_methodNamed B.named
  have hlocks := B.notSynchronized
  have hP : va_P (dC, dI) cls_t [(h, .inr (1, [.ref hrowDays, .ref hrowThousandths, .int (nI xsize)]))] s.heap := hP
  have hl := lv_entry ([.ref h]) (n := 1) (Nat.le_of_ble_eq_true rfl)
  rw [lg_entry_eq]
  generalize (lg_sl ([.ref h]) ++ List.replicate (1 - (lg_sl ([.ref h])).length) Slot.unset).toArray = ls at hl ⊢
  have hl : lv_has ls 1 [(0, .ref h)] := hl
  refine lv_aload_n hx hb de_D_isFull_0 rfl (lv_at hl 0 rfl) ?_
  refine va_get (D := (dC, dI)) (ci := 1) (v := .int (nI xsize)) (C := rn_D) (T := tf_D) (N := 3) hx hb hts in_D hown hK hP 0 rfl rfl 2 (by decide) (hts _ wd_128) (fun _ h9 => h9) rfl de_D_isFull_1 ?_
  refine lv_bipush (v := 10) hx hb de_D_isFull_4 (by decide) ?_
  refine lv_icmp_lt (tgt := 13) hx hb de_D_isFull_6 (by decide) (fun c_1 => ?_) (fun c_1 => ?_)
  · refine lv_iconst (v := 0) hx hb de_D_isFull_13 (by decide) ?_
    exact W.zret (v := 0) hx hb hr rfl (fun t9 ht9 hW9 => ⟨congrArg (fun z => Outcome.returned (some (Value.int z))) (show 0 = (sp_full (nI xsize) 10) from by simp only [sp_full, if_pos c_1]), ht9⟩) (fun _ h => nomatch h) de_D_isFull_14
  · refine lv_iconst (v := 1) hx hb de_D_isFull_9 (by decide) ?_
    refine lv_goto (tgt := 14) hx hb de_D_isFull_10 (by decide) ?_
    exact W.zret (v := 1) hx hb hr rfl (fun t9 ht9 hW9 => ⟨congrArg (fun z => Outcome.returned (some (Value.int z))) (show 1 = (sp_full (nI xsize) 10) from by simp only [sp_full, if_neg c_1]), ht9⟩) (fun _ h => nomatch h) de_D_isFull_14
set_option maxHeartbeats 4000000 in
set_option maxRecDepth 100000 in
/-- thousandthsOn -/
theorem cd_thou (l : Launch) (dC : Nat → ClassId) (dI : Nat → Nat → Nat) (cJ cI cZ : Nat) (h : Nat) (hrowDays : Nat) (hrowThousandths : Nat) (xsize : Nat) (frowDays : Nat → Int32) (frowThousandths : Nat → Int32) (inv : Int32) (paid : Int32) (hn : xsize ≤ 10) : Met l yn_D_thousandthsOn ws_D_thousandthsOn ({ frames := 0, cells := 0, slots := 0, locals := 0 }) (va_Pc [.ref h, .int inv, .int paid] (qv_ro (dC, dI) cls_t [(h, .inr (1, [.ref hrowDays, .ref hrowThousandths, .int (nI xsize)])), (hrowDays, .inl (cI, 10, .inl frowDays)), (hrowThousandths, .inl (cI, 10, .inl frowThousandths))] [(cJ, .long), (cI, .int), (cZ, .boolean)])) (k2_QcV (.int (sp_thou frowDays frowThousandths inv paid xsize))) 0 0 (fun _ => False) := by
  refine Met.ofW (cc := by_D_thousandthsOn) (maxL := 5) (ret := (some .int)) (by decide) rfl ?_
  intro p e s m args below meth c s₁ B hml hv
  obtain ⟨rfl, hP, hK⟩ := hv
  have hx := B.exec
  have hb := B.bytes
  have hr := B.returns
  have hts := fun (w : Cond) (h : w ∈ lw_gt) => atoms_spec (ws := ws_D_thousandthsOn) B.pre w (List.mem_cons_of_mem _ h)
  have hown : s.vm.findClass rn_D = some m.cls := findClass_of_methodNamed B.named
  have hlocks := B.notSynchronized
  have hP : va_P (dC, dI) cls_t [(h, .inr (1, [.ref hrowDays, .ref hrowThousandths, .int (nI xsize)])), (hrowDays, .inl (cI, 10, .inl frowDays)), (hrowThousandths, .inl (cI, 10, .inl frowThousandths))] s.heap := hP
  have hl := lv_entry ([.ref h, .int inv, .int paid]) (n := 5) (Nat.le_of_ble_eq_true rfl)
  rw [lg_entry_eq]
  generalize (lg_sl ([.ref h, .int inv, .int paid]) ++ List.replicate (5 - (lg_sl ([.ref h, .int inv, .int paid])).length) Slot.unset).toArray = ls at hl ⊢
  have hl : lv_has ls 5 [(0, .ref h), (1, .int inv), (2, .int paid)] := hl
  refine lv_iconst (v := 0) hx hb de_D_thousandthsOn_0 (by decide) ?_
  refine lv_istore_n (lv' := [(3, .int 0), (0, .ref h), (1, .int inv), (2, .int paid)]) hx hb de_D_thousandthsOn_1 rfl hl (by decide) rfl (fun ls hl => ?_)
  refine lv_iconst (v := 0) hx hb de_D_thousandthsOn_2 (by decide) ?_
  refine lv_istore (lv' := [(4, .int 0), (3, .int 0), (0, .ref h), (1, .int inv), (2, .int paid)]) hx hb de_D_thousandthsOn_3 hl (by decide) rfl (fun ls hl => ?_)
  refine qv_loop (N := xsize) (i0 := 0) (fun i H locs ls => H = s.heap ∧ locs = [] ∧ lv_has ls 5 [(4, .int (nI i)), (3, .int (sp_thou frowDays frowThousandths inv paid i)), (0, .ref h), (1, .int inv), (2, .int paid)]) (Nat.zero_le _) ⟨rfl, rfl, lv_sub hl [0, 1, 2, 3, 4] rfl⟩ (fun i H locs ls hi_5 hI hk_5 => ?_) (fun H locs ls hI => ?_)
  · obtain ⟨rfl, rfl, hl⟩ := hI
    refine lv_iload hx hb de_D_thousandthsOn_5 (lv_at hl 0 rfl) ?_
    refine lv_aload_n hx hb de_D_thousandthsOn_7 rfl (lv_at hl 2 rfl) ?_
    refine va_get (D := (dC, dI)) (ci := 1) (v := .int (nI xsize)) (C := rn_D) (T := tf_D) (N := 3) hx hb hts in_D hown hK hP 0 rfl rfl 2 (by decide) (hts _ wd_128) (fun _ h9 => h9) rfl de_D_thousandthsOn_8 ?_
    refine lv_icmp_ge (tgt := 52) hx hb de_D_thousandthsOn_11 (by decide) (fun c_1 => ((nI_ge hi_5 (by omega) c_1)).elim) (fun _ => ?_)
    refine lv_iload_n hx hb de_D_thousandthsOn_14 rfl (lv_at hl 4 rfl) ?_
    refine lv_iload_n hx hb de_D_thousandthsOn_15 rfl (lv_at hl 3 rfl) ?_
    refine lv_aload_n hx hb de_D_thousandthsOn_16 rfl (lv_at hl 2 rfl) ?_
    refine va_get (D := (dC, dI)) (ci := 1) (v := .ref hrowDays) (C := rn_D) (T := tf_D) (N := 3) hx hb hts in_D hown hK hP 0 rfl rfl 0 (by decide) (hts _ wd_126) (fun _ h9 => h9) rfl de_D_thousandthsOn_17 ?_
    refine lv_iload hx hb de_D_thousandthsOn_20 (lv_at hl 0 rfl) ?_
    refine qv_iald (k := i) hx hb hK hP 1 1 rfl rfl (by omega) (by omega) de_D_thousandthsOn_22 ?_
    refine lv_iadd hx hb de_D_thousandthsOn_23 ?_
    refine lv_icmp_gt (tgt := 46) hx hb de_D_thousandthsOn_24 (by decide) (fun c_2 => ?_) (fun c_2 => ?_)
    · refine lv_iinc (v := nI (i + 1)) (lv' := [(4, .int (nI (i + 1))), (3, .int (sp_thou frowDays frowThousandths inv paid i)), (0, .ref h), (1, .int inv), (2, .int paid)]) hx hb de_D_thousandthsOn_46 hl (k := 0) rfl (nI_1 _) (by decide) rfl (fun ls hl => ?_)
      refine lv_goto (tgt := 5) hx hb de_D_thousandthsOn_49 (by decide) ?_
      have hl : lv_has ls 5 [(4, .int (nI (i + 1))), (3, .int (sp_thou frowDays frowThousandths inv paid (i + 1))), (0, .ref h), (1, .int inv), (2, .int paid)] := by rw [show sp_thou frowDays frowThousandths inv paid (i + 1) = sp_thou frowDays frowThousandths inv paid i from by rw [sp_thou, if_pos c_2]]; exact hl
      exact hk_5 _ _ _ ⟨rfl, rfl, lv_sub hl [0, 1, 2, 3, 4] rfl⟩
    · refine lv_aload_n hx hb de_D_thousandthsOn_27 rfl (lv_at hl 2 rfl) ?_
      refine va_get (D := (dC, dI)) (ci := 1) (v := .ref hrowThousandths) (C := rn_D) (T := tf_D) (N := 3) hx hb hts in_D hown hK hP 0 rfl rfl 1 (by decide) (hts _ wd_127) (fun _ h9 => h9) rfl de_D_thousandthsOn_28 ?_
      refine lv_iload hx hb de_D_thousandthsOn_31 (lv_at hl 0 rfl) ?_
      refine qv_iald (k := i) hx hb hK hP 2 1 rfl rfl (by omega) (by omega) de_D_thousandthsOn_33 ?_
      refine lv_iload_n hx hb de_D_thousandthsOn_34 rfl (lv_at hl 1 rfl) ?_
      refine lv_icmp_le (tgt := 46) hx hb de_D_thousandthsOn_35 (by decide) (fun c_3 => ?_) (fun c_3 => ?_)
      · refine lv_iinc (v := nI (i + 1)) (lv' := [(4, .int (nI (i + 1))), (3, .int (sp_thou frowDays frowThousandths inv paid i)), (0, .ref h), (1, .int inv), (2, .int paid)]) hx hb de_D_thousandthsOn_46 hl (k := 0) rfl (nI_1 _) (by decide) rfl (fun ls hl => ?_)
        refine lv_goto (tgt := 5) hx hb de_D_thousandthsOn_49 (by decide) ?_
        have hl : lv_has ls 5 [(4, .int (nI (i + 1))), (3, .int (sp_thou frowDays frowThousandths inv paid (i + 1))), (0, .ref h), (1, .int inv), (2, .int paid)] := by rw [show sp_thou frowDays frowThousandths inv paid (i + 1) = sp_thou frowDays frowThousandths inv paid i from by rw [sp_thou, if_neg c_2, if_pos c_3]]; exact hl
        exact hk_5 _ _ _ ⟨rfl, rfl, lv_sub hl [0, 1, 2, 3, 4] rfl⟩
      · refine lv_aload_n hx hb de_D_thousandthsOn_38 rfl (lv_at hl 2 rfl) ?_
        refine va_get (D := (dC, dI)) (ci := 1) (v := .ref hrowThousandths) (C := rn_D) (T := tf_D) (N := 3) hx hb hts in_D hown hK hP 0 rfl rfl 1 (by decide) (hts _ wd_127) (fun _ h9 => h9) rfl de_D_thousandthsOn_39 ?_
        refine lv_iload hx hb de_D_thousandthsOn_42 (lv_at hl 0 rfl) ?_
        refine qv_iald (k := i) hx hb hK hP 2 1 rfl rfl (by omega) (by omega) de_D_thousandthsOn_44 ?_
        refine lv_istore_n (lv' := [(3, .int (frowThousandths i)), (4, .int (nI i)), (0, .ref h), (1, .int inv), (2, .int paid)]) hx hb de_D_thousandthsOn_45 rfl hl (by decide) rfl (fun ls hl => ?_)
        refine lv_iinc (v := nI (i + 1)) (lv' := [(4, .int (nI (i + 1))), (3, .int (frowThousandths i)), (0, .ref h), (1, .int inv), (2, .int paid)]) hx hb de_D_thousandthsOn_46 hl (k := 1) rfl (nI_1 _) (by decide) rfl (fun ls hl => ?_)
        refine lv_goto (tgt := 5) hx hb de_D_thousandthsOn_49 (by decide) ?_
        have hl : lv_has ls 5 [(4, .int (nI (i + 1))), (3, .int (sp_thou frowDays frowThousandths inv paid (i + 1))), (0, .ref h), (1, .int inv), (2, .int paid)] := by rw [show sp_thou frowDays frowThousandths inv paid (i + 1) = frowThousandths i from by rw [sp_thou, if_neg c_2, if_neg c_3]]; exact hl
        exact hk_5 _ _ _ ⟨rfl, rfl, lv_sub hl [0, 1, 2, 3, 4] rfl⟩
  · obtain ⟨rfl, rfl, hl⟩ := hI
    refine lv_iload hx hb de_D_thousandthsOn_5 (lv_at hl 0 rfl) ?_
    refine lv_aload_n hx hb de_D_thousandthsOn_7 rfl (lv_at hl 2 rfl) ?_
    refine va_get (D := (dC, dI)) (ci := 1) (v := .int (nI xsize)) (C := rn_D) (T := tf_D) (N := 3) hx hb hts in_D hown hK hP 0 rfl rfl 2 (by decide) (hts _ wd_128) (fun _ h9 => h9) rfl de_D_thousandthsOn_8 ?_
    refine lv_icmp_ge (tgt := 52) hx hb de_D_thousandthsOn_11 (by decide) (fun _ => ?_) (fun c_4 => ((c_4 (nI_le (Nat.le_refl _) (by omega)))).elim)
    refine lv_iload_n hx hb de_D_thousandthsOn_52 rfl (lv_at hl 1 rfl) ?_
    exact W.iret (v := sp_thou frowDays frowThousandths inv paid xsize) hx hb hr (fun t9 ht9 hW9 => ⟨congrArg (fun z => Outcome.returned (some (Value.int z))) rfl, ht9⟩) (fun _ h => nomatch h) de_D_thousandthsOn_53
