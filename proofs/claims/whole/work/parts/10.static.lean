set_option maxHeartbeats 4000000 in
set_option maxRecDepth 100000 in
/-- within -/
theorem cs_within (l : Launch) (dC : Nat → ClassId) (dI : Nat → Nat → Nat) (cJ cI cZ : Nat) (x : Int64) (a : Int64) (b : Int64) : Met l yn_V_within ws_V_within ({ frames := 0, cells := 0, slots := 0, locals := 0 }) (va_Pc [.long x, .long a, .long b] (fun _ => True)) (k2_QcV (.int (sp_within x a b))) 0 0 (fun _ => False) := by
  refine Met.ofW (cc := by_V_within) (maxL := 6) (ret := (some .boolean)) (by decide) rfl ?_
  intro p e s m args below meth c s₁ B hml hv
  obtain ⟨rfl, -⟩ := hv
  have hx := B.exec
  have hb := B.bytes
  have hr := B.returns
  have hts := fun (w : Cond) (h : w ∈ lw_gt) => atoms_spec (ws := ws_V_within) B.pre w (List.mem_cons_of_mem _ h)
  have hown : s.vm.findClass rn_V = some m.cls := findClass_of_methodNamed B.named
  have hlocks := B.notSynchronized
  have hl := lv_entry ([.long x, .long a, .long b]) (n := 6) (Nat.le_of_ble_eq_true rfl)
  rw [lg_entry_eq]
  generalize (lg_sl ([.long x, .long a, .long b]) ++ List.replicate (6 - (lg_sl ([.long x, .long a, .long b])).length) Slot.unset).toArray = ls at hl ⊢
  have hl : lv_has ls 6 [(0, .long x), (2, .long a), (4, .long b)] := hl
  refine lv_lload_n hx hb de_V_within_0 rfl (lv_at hl 0 rfl) ?_
  refine lv_lload_n hx hb de_V_within_1 rfl (lv_at hl 1 rfl) ?_
  refine W.lcmp hx hb de_V_within_2 ?_
  refine lv_if_lt (tgt := 17) hx hb de_V_within_3 (by decide) (fun c_1 => ?_) (fun c_1 => ?_)
  · have c_1 := (lg_cmp_lt _ _).mp c_1
    refine lv_iconst (v := 0) hx hb de_V_within_17 (by decide) ?_
    exact W.zret (v := 0) hx hb hr rfl (fun t9 ht9 hW9 => ⟨congrArg (fun z => Outcome.returned (some (Value.int z))) (show 0 = (sp_within x a b) from by simp only [sp_within, if_pos c_1]), ht9⟩) (fun _ h => nomatch h) de_V_within_18
  · have c_1 := mt (lg_cmp_lt _ _).mpr c_1
    refine lv_lload_n hx hb de_V_within_6 rfl (lv_at hl 0 rfl) ?_
    refine lv_lload hx hb de_V_within_7 (lv_at hl 2 rfl) ?_
    refine W.lcmp hx hb de_V_within_9 ?_
    refine lv_if_gt (tgt := 17) hx hb de_V_within_10 (by decide) (fun c_2 => ?_) (fun c_2 => ?_)
    · have c_2 := (lg_cmp_gt _ _).mp c_2
      refine lv_iconst (v := 0) hx hb de_V_within_17 (by decide) ?_
      exact W.zret (v := 0) hx hb hr rfl (fun t9 ht9 hW9 => ⟨congrArg (fun z => Outcome.returned (some (Value.int z))) (show 0 = (sp_within x a b) from by simp only [sp_within, if_neg c_1, if_pos c_2]), ht9⟩) (fun _ h => nomatch h) de_V_within_18
    · have c_2 := mt (lg_cmp_gt _ _).mpr c_2
      refine lv_iconst (v := 1) hx hb de_V_within_13 (by decide) ?_
      refine lv_goto (tgt := 18) hx hb de_V_within_14 (by decide) ?_
      exact W.zret (v := 1) hx hb hr rfl (fun t9 ht9 hW9 => ⟨congrArg (fun z => Outcome.returned (some (Value.int z))) (show 1 = (sp_within x a b) from by simp only [sp_within, if_neg c_1, if_neg c_2]), ht9⟩) (fun _ h => nomatch h) de_V_within_18
set_option maxHeartbeats 4000000 in
set_option maxRecDepth 100000 in
/-- near -/
theorem cs_near (l : Launch) (dC : Nat → ClassId) (dI : Nat → Nat → Nat) (cJ cI cZ : Nat) (a : Int64) (b : Int64) : Met l yn_V_near ws_V_near ({ frames := 0, cells := 0, slots := 0, locals := 0 }) (va_Pc [.long a, .long b] (fun _ => True)) (k2_QcV (.long (sp_near a b))) 0 0 (fun _ => False) := by
  refine Met.ofW (cc := by_V_near) (maxL := 6) (ret := (some .long)) (by decide) rfl ?_
  intro p e s m args below meth c s₁ B hml hv
  obtain ⟨rfl, -⟩ := hv
  have hx := B.exec
  have hb := B.bytes
  have hr := B.returns
  have hts := fun (w : Cond) (h : w ∈ lw_gt) => atoms_spec (ws := ws_V_near) B.pre w (List.mem_cons_of_mem _ h)
  have hown : s.vm.findClass rn_V = some m.cls := findClass_of_methodNamed B.named
  have hlocks := B.notSynchronized
  have hl := lv_entry ([.long a, .long b]) (n := 6) (Nat.le_of_ble_eq_true rfl)
  rw [lg_entry_eq]
  generalize (lg_sl ([.long a, .long b]) ++ List.replicate (6 - (lg_sl ([.long a, .long b])).length) Slot.unset).toArray = ls at hl ⊢
  have hl : lv_has ls 6 [(0, .long a), (2, .long b)] := hl
  refine lv_lload_n hx hb de_V_near_0 rfl (lv_at hl 1 rfl) ?_
  refine lv_lconst (v := 0) hx hb de_V_near_1 (by decide) ?_
  refine W.lcmp hx hb de_V_near_2 ?_
  refine lv_if_gt (tgt := 8) hx hb de_V_near_3 (by decide) (fun c_1 => ?_) (fun c_1 => ?_)
  · have c_1 := (lg_cmp_gt _ _).mp c_1
    refine lv_lload_n hx hb de_V_near_8 rfl (lv_at hl 0 rfl) ?_
    refine lv_lload_n hx hb de_V_near_9 rfl (lv_at hl 1 rfl) ?_
    refine lv_lrem hx hb de_V_near_10 (lp_ne0 (by assumption)) ?_
    refine lv_lstore (lv' := [(4, .long (a - a / b * b)), (0, .long a), (2, .long b)]) hx hb de_V_near_11 hl (by decide) rfl (fun ls hl => ?_)
    refine lv_lload_n hx hb de_V_near_13 rfl (lv_at hl 1 rfl) ?_
    refine lv_lload_n hx hb de_V_near_14 rfl (lv_at hl 2 rfl) ?_
    refine lv_ldiv hx hb de_V_near_15 (lp_ne0 (by assumption)) ?_
    refine lv_lload hx hb de_V_near_16 (lv_at hl 0 rfl) ?_
    refine lv_lload_n hx hb de_V_near_18 rfl (lv_at hl 2 rfl) ?_
    refine lv_lload hx hb de_V_near_19 (lv_at hl 0 rfl) ?_
    refine lv_lsub hx hb de_V_near_21 ?_
    refine W.lcmp hx hb de_V_near_22 ?_
    refine lv_if_lt (tgt := 30) hx hb de_V_near_23 (by decide) (fun c_2 => ?_) (fun c_2 => ?_)
    · have c_2 := (lg_cmp_lt _ _).mp c_2
      refine lv_iconst (v := 0) hx hb de_V_near_30 (by decide) ?_
      refine lv_i2l (v := 0) hx hb de_V_near_31 (by decide) ?_
      refine lv_ladd hx hb de_V_near_32 ?_
      exact W.lret (v := (a / b) + 0) hx hb hr (fun t9 ht9 hW9 => ⟨congrArg (fun z => Outcome.returned (some (Value.long z))) (show ((a / b) + 0) = (sp_near a b) from by simp only [sp_near, if_pos c_1, if_pos c_2]), ht9⟩) (fun _ h => nomatch h) de_V_near_33
    · have c_2 := mt (lg_cmp_lt _ _).mpr c_2
      refine lv_iconst (v := 1) hx hb de_V_near_26 (by decide) ?_
      refine lv_goto (tgt := 31) hx hb de_V_near_27 (by decide) ?_
      refine lv_i2l (v := 1) hx hb de_V_near_31 (by decide) ?_
      refine lv_ladd hx hb de_V_near_32 ?_
      exact W.lret (v := (a / b) + 1) hx hb hr (fun t9 ht9 hW9 => ⟨congrArg (fun z => Outcome.returned (some (Value.long z))) (show ((a / b) + 1) = (sp_near a b) from by simp only [sp_near, if_pos c_1, if_neg c_2]), ht9⟩) (fun _ h => nomatch h) de_V_near_33
  · have c_1 := mt (lg_cmp_gt _ _).mpr c_1
    refine lv_lconst (v := 0) hx hb de_V_near_6 (by decide) ?_
    exact W.lret (v := 0) hx hb hr (fun t9 ht9 hW9 => ⟨congrArg (fun z => Outcome.returned (some (Value.long z))) (show 0 = (sp_near a b) from by simp only [sp_near, if_neg c_1]), ht9⟩) (fun _ h => nomatch h) de_V_near_7
set_option maxHeartbeats 4000000 in
set_option maxRecDepth 100000 in
/-- isInOwnCurrency -/
theorem cs_own (l : Launch) (dC : Nat → ClassId) (dI : Nat → Nat → Nat) (cJ cI cZ : Nat) (k : Int32) : Met l yn_V_isInOwnCurrency ws_V_isInOwnCurrency ({ frames := 0, cells := 0, slots := 0, locals := 0 }) (va_Pc [.int k] (fun _ => True)) (k2_QcV (.int (sp_own k))) 0 0 (fun _ => False) := by
  refine Met.ofW (cc := by_V_isInOwnCurrency) (maxL := 1) (ret := (some .boolean)) (by decide) rfl ?_
  intro p e s m args below meth c s₁ B hml hv
  obtain ⟨rfl, -⟩ := hv
  have hx := B.exec
  have hb := B.bytes
  have hr := B.returns
  have hts := fun (w : Cond) (h : w ∈ lw_gt) => atoms_spec (ws := ws_V_isInOwnCurrency) B.pre w (List.mem_cons_of_mem _ h)
  have hown : s.vm.findClass rn_V = some m.cls := findClass_of_methodNamed B.named
  have hlocks := B.notSynchronized
  have hl := lv_entry ([.int k]) (n := 1) (Nat.le_of_ble_eq_true rfl)
  rw [lg_entry_eq]
  generalize (lg_sl ([.int k]) ++ List.replicate (1 - (lg_sl ([.int k])).length) Slot.unset).toArray = ls at hl ⊢
  have hl : lv_has ls 1 [(0, .int k)] := hl
  refine lv_iload_n hx hb de_V_isInOwnCurrency_0 rfl (lv_at hl 0 rfl) ?_
  refine lv_iconst (v := 4) hx hb de_V_isInOwnCurrency_1 (by decide) ?_
  refine lv_icmp_eq (tgt := 10) hx hb de_V_isInOwnCurrency_2 (by decide) (fun c_1 => ?_) (fun c_1 => ?_)
  · refine lv_iconst (v := 1) hx hb de_V_isInOwnCurrency_10 (by decide) ?_
    refine lv_goto (tgt := 15) hx hb de_V_isInOwnCurrency_11 (by decide) ?_
    exact W.zret (v := 1) hx hb hr rfl (fun t9 ht9 hW9 => ⟨congrArg (fun z => Outcome.returned (some (Value.int z))) (show 1 = (sp_own k) from by simp only [sp_own, if_pos c_1]), ht9⟩) (fun _ h => nomatch h) de_V_isInOwnCurrency_15
  · refine lv_iload_n hx hb de_V_isInOwnCurrency_5 rfl (lv_at hl 0 rfl) ?_
    refine lv_iconst (v := 5) hx hb de_V_isInOwnCurrency_6 (by decide) ?_
    refine lv_icmp_ne (tgt := 14) hx hb de_V_isInOwnCurrency_7 (by decide) (fun c_2 => ?_) (fun c_2 => ?_)
    · refine lv_iconst (v := 0) hx hb de_V_isInOwnCurrency_14 (by decide) ?_
      exact W.zret (v := 0) hx hb hr rfl (fun t9 ht9 hW9 => ⟨congrArg (fun z => Outcome.returned (some (Value.int z))) (show 0 = (sp_own k) from by simp only [sp_own, if_neg c_1, if_neg c_2]), ht9⟩) (fun _ h => nomatch h) de_V_isInOwnCurrency_15
    · refine lv_iconst (v := 1) hx hb de_V_isInOwnCurrency_10 (by decide) ?_
      refine lv_goto (tgt := 15) hx hb de_V_isInOwnCurrency_11 (by decide) ?_
      exact W.zret (v := 1) hx hb hr rfl (fun t9 ht9 hW9 => ⟨congrArg (fun z => Outcome.returned (some (Value.int z))) (show 1 = (sp_own k) from by simp only [sp_own, if_neg c_1, if_pos c_2]), ht9⟩) (fun _ h => nomatch h) de_V_isInOwnCurrency_15
