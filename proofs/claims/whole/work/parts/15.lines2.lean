set_option maxHeartbeats 4000000 in
set_option maxRecDepth 100000 in
/-- floorParts -/
theorem cl_floorParts (l : Launch) (dC : Nat → ClassId) (dI : Nat → Nat → Nat) (cJ cI cZ : Nat) (sz : Nat) (h : Nat) (hweights : Nat) (hprices : Nat) (hones : Nat) (hparts : Nat) (hrests : Nat) (xsize : Nat) (xweightSum : Int64) (xpriceSum : Int64) (fparts : Nat → Int64) (frests : Nat → Int64) (hbases : Nat) (fbases : Nat → Int64) (f : Int64) (d : Int64) (hn : xsize ≤ 40) : Met l yn_L_floorParts ws_L_floorParts ({ frames := 0, cells := 0, slots := 0, locals := 0 }) (va_Pc [.ref h, .ref hbases, .long f, .long d] (qv_pre (dC, dI) cls_t [(h, .inr (2, [.ref hweights, .ref hprices, .ref hones, .ref hparts, .ref hrests, .int (nI xsize), .long xweightSum, .long xpriceSum])), (hparts, .inl (cJ, 40, .inr (.inl fparts))), (hrests, .inl (cJ, 40, .inr (.inl frests))), (hbases, .inl (cJ, 40, .inr (.inl fbases)))] [(cJ, .long), (cI, .int), (cZ, .boolean)] sz)) (va_Ql (fun (r : Int64) (_ : Unit) => r = sp_fpS fbases f d xsize) (qv_post (dC, dI) cls_t (fun (_ : Unit) => [(h, .inr (2, [.ref hweights, .ref hprices, .ref hones, .ref hparts, .ref hrests, .int (nI xsize), .long xweightSum, .long xpriceSum])), (hparts, .inl (cJ, 40, .inr (.inl (sp_fpP fbases f d xsize fparts)))), (hrests, .inl (cJ, 40, .inr (.inl (sp_fpR fbases f d xsize frests)))), (hbases, .inl (cJ, 40, .inr (.inl fbases)))]) [(cJ, .long), (cI, .int), (cZ, .boolean)] (va_A [(h, .inr (2, [.ref hweights, .ref hprices, .ref hones, .ref hparts, .ref hrests, .int (nI xsize), .long xweightSum, .long xpriceSum])), (hparts, .inl (cJ, 40, .inr (.inl fparts))), (hrests, .inl (cJ, 40, .inr (.inl frests))), (hbases, .inl (cJ, 40, .inr (.inl fbases)))] sz)) (va_A [(h, .inr (2, [.ref hweights, .ref hprices, .ref hones, .ref hparts, .ref hrests, .int (nI xsize), .long xweightSum, .long xpriceSum])), (hparts, .inl (cJ, 40, .inr (.inl fparts))), (hrests, .inl (cJ, 40, .inr (.inl frests))), (hbases, .inl (cJ, 40, .inr (.inl fbases)))] sz)) 0 0 (va_A [(h, .inr (2, [.ref hweights, .ref hprices, .ref hones, .ref hparts, .ref hrests, .int (nI xsize), .long xweightSum, .long xpriceSum])), (hparts, .inl (cJ, 40, .inr (.inl fparts))), (hrests, .inl (cJ, 40, .inr (.inl frests))), (hbases, .inl (cJ, 40, .inr (.inl fbases)))] sz) := by
  refine Met.ofW (cc := by_L_floorParts) (maxL := 11) (ret := (some .long)) (by decide) rfl ?_
  intro p e s m args below meth c s₁ B hml hv
  obtain ⟨rfl, hsz, hP, hK, hD0⟩ := hv
  have hx := B.exec
  have hb := B.bytes
  have hr := B.returns
  have hts := fun (w : Cond) (h : w ∈ lw_gt) => atoms_spec (ws := ws_L_floorParts) B.pre w (List.mem_cons_of_mem _ h)
  have hown : s.vm.findClass rn_L = some m.cls := findClass_of_methodNamed B.named
  have hlocks := B.notSynchronized
  subst hsz
  have hD := hD0.self (sz := s.heap.size)
  generalize hAe : va_A [(h, .inr (2, [.ref hweights, .ref hprices, .ref hones, .ref hparts, .ref hrests, .int (nI xsize), .long xweightSum, .long xpriceSum])), (hparts, .inl (cJ, 40, .inr (.inl fparts))), (hrests, .inl (cJ, 40, .inr (.inl frests))), (hbases, .inl (cJ, 40, .inr (.inl fbases)))] s.heap.size = A at hD ⊢
  have hA : ∀ q : Nat, s.heap.size ≤ q → A q := fun q h => by rw [← hAe]; exact Or.inr h
  have hS : va_S A s.heap s.heap [] := va_S.rf
  have hP : va_P (dC, dI) cls_t [(h, .inr (2, [.ref hweights, .ref hprices, .ref hones, .ref hparts, .ref hrests, .int (nI xsize), .long xweightSum, .long xpriceSum])), (hparts, .inl (cJ, 40, .inr (.inl fparts))), (hrests, .inl (cJ, 40, .inr (.inl frests))), (hbases, .inl (cJ, 40, .inr (.inl fbases)))] s.heap := hP
  have hl := lv_entry ([.ref h, .ref hbases, .long f, .long d]) (n := 11) (Nat.le_of_ble_eq_true rfl)
  rw [lg_entry_eq]
  generalize (lg_sl ([.ref h, .ref hbases, .long f, .long d]) ++ List.replicate (11 - (lg_sl ([.ref h, .ref hbases, .long f, .long d])).length) Slot.unset).toArray = ls at hl ⊢
  have hl : lv_has ls 11 [(0, .ref h), (1, .ref hbases), (2, .long f), (4, .long d)] := hl
  refine lv_lload hx hb de_L_floorParts_0 (lv_at hl 3 rfl) ?_
  refine lv_lconst (v := 0) hx hb de_L_floorParts_2 (by decide) ?_
  refine W.lcmp hx hb de_L_floorParts_3 ?_
  refine lv_if_gt (tgt := 9) hx hb de_L_floorParts_4 (by decide) (fun c_1 => ?_) (fun c_1 => ?_)
  · have c_1 := (lg_cmp_gt _ _).mp c_1
    refine lv_lconst (v := 0) hx hb de_L_floorParts_9 (by decide) ?_
    refine lv_lstore (lv' := [(6, .long 0), (0, .ref h), (1, .ref hbases), (2, .long f), (4, .long d)]) hx hb de_L_floorParts_10 hl (by decide) rfl (fun ls hl => ?_)
    refine lv_iconst (v := 0) hx hb de_L_floorParts_12 (by decide) ?_
    refine lv_istore (lv' := [(8, .int 0), (6, .long 0), (0, .ref h), (1, .ref hbases), (2, .long f), (4, .long d)]) hx hb de_L_floorParts_13 hl (by decide) rfl (fun ls hl => ?_)
    refine qv_loop (N := xsize) (i0 := 0) (fun i H locs ls => va_P (dC, dI) cls_t [(h, .inr (2, [.ref hweights, .ref hprices, .ref hones, .ref hparts, .ref hrests, .int (nI xsize), .long xweightSum, .long xpriceSum])), (hparts, .inl (cJ, 40, .inr (.inl (sp_fill (sp_q fbases f d) fparts i)))), (hrests, .inl (cJ, 40, .inr (.inl (sp_fill (sp_r fbases f d) frests i)))), (hbases, .inl (cJ, 40, .inr (.inl fbases)))] H ∧ va_D A [(h, .inr (2, [.ref hweights, .ref hprices, .ref hones, .ref hparts, .ref hrests, .int (nI xsize), .long xweightSum, .long xpriceSum])), (hparts, .inl (cJ, 40, .inr (.inl (sp_fill (sp_q fbases f d) fparts i)))), (hrests, .inl (cJ, 40, .inr (.inl (sp_fill (sp_r fbases f d) frests i)))), (hbases, .inl (cJ, 40, .inr (.inl fbases)))] ∧ va_S A s.heap H locs ∧ lv_has ls 11 [(8, .int (nI i)), (6, .long (sp_sum (sp_q fbases f d) i)), (0, .ref h), (1, .ref hbases), (2, .long f), (4, .long d)]) (Nat.zero_le _) ⟨hP, hD, hS, lv_sub hl [0, 1, 2, 3, 4, 5] rfl⟩ (fun i H locs ls hi_15 hI hk_15 => ?_) (fun H locs ls hI => ?_)
    · obtain ⟨hP, hD, hS, hl⟩ := hI
      refine lv_iload hx hb de_L_floorParts_15 (lv_at hl 0 rfl) ?_
      refine lv_aload_n hx hb de_L_floorParts_17 rfl (lv_at hl 2 rfl) ?_
      refine va_get (D := (dC, dI)) (ci := 2) (v := .int (nI xsize)) (C := rn_L) (T := tf_L) (N := 8) hx hb hts in_L hown hK hP 0 rfl rfl 5 (by decide) (hts _ wd_76) (fun _ h9 => h9) rfl de_L_floorParts_18 ?_
      refine lv_icmp_ge (tgt := 74) hx hb de_L_floorParts_21 (by decide) (fun c_2 => ((nI_ge hi_15 (by omega) c_2)).elim) (fun _ => ?_)
      refine lv_aload_n hx hb de_L_floorParts_24 rfl (lv_at hl 3 rfl) ?_
      refine lv_iload hx hb de_L_floorParts_25 (lv_at hl 0 rfl) ?_
      refine qv_lald (k := i) hx hb hK hP 3 0 rfl rfl (by omega) (by omega) de_L_floorParts_27 ?_
      refine lv_lload_n hx hb de_L_floorParts_28 rfl (lv_at hl 4 rfl) ?_
      refine lv_lmul hx hb de_L_floorParts_29 ?_
      refine lv_lstore (lv' := [(9, .long ((fbases i) * f)), (8, .int (nI i)), (6, .long (sp_sum (sp_q fbases f d) i)), (0, .ref h), (1, .ref hbases), (2, .long f), (4, .long d)]) hx hb de_L_floorParts_30 hl (by decide) rfl (fun ls hl => ?_)
      refine lv_aload_n hx hb de_L_floorParts_32 rfl (lv_at hl 3 rfl) ?_
      refine va_get (D := (dC, dI)) (ci := 2) (v := .ref hparts) (C := rn_L) (T := tf_L) (N := 8) hx hb hts in_L hown hK hP 0 rfl rfl 3 (by decide) (hts _ wd_74) (fun _ h9 => h9) rfl de_L_floorParts_33 ?_
      refine lv_iload hx hb de_L_floorParts_36 (lv_at hl 1 rfl) ?_
      refine lv_lload hx hb de_L_floorParts_38 (lv_at hl 0 rfl) ?_
      refine lv_lload hx hb de_L_floorParts_40 (lv_at hl 6 rfl) ?_
      refine lv_ldiv hx hb de_L_floorParts_42 (lp_ne0 (by assumption)) ?_
      refine qv_last (k := i) hx hb hK hP hD hS 1 0 rfl rfl (by omega) (by omega) de_L_floorParts_43 (fun H locs hP hD hS => ?_)
      have hP : va_P (dC, dI) cls_t [(h, .inr (2, [.ref hweights, .ref hprices, .ref hones, .ref hparts, .ref hrests, .int (nI xsize), .long xweightSum, .long xpriceSum])), (hparts, .inl (cJ, 40, .inr (.inl (vp_updL (sp_fill (sp_q fbases f d) fparts i) i (((fbases i) * f) / d))))), (hrests, .inl (cJ, 40, .inr (.inl (sp_fill (sp_r fbases f d) frests i)))), (hbases, .inl (cJ, 40, .inr (.inl fbases)))] H := hP
      have hD : va_D A [(h, .inr (2, [.ref hweights, .ref hprices, .ref hones, .ref hparts, .ref hrests, .int (nI xsize), .long xweightSum, .long xpriceSum])), (hparts, .inl (cJ, 40, .inr (.inl (vp_updL (sp_fill (sp_q fbases f d) fparts i) i (((fbases i) * f) / d))))), (hrests, .inl (cJ, 40, .inr (.inl (sp_fill (sp_r fbases f d) frests i)))), (hbases, .inl (cJ, 40, .inr (.inl fbases)))] := hD
      refine lv_aload_n hx hb de_L_floorParts_44 rfl (lv_at hl 3 rfl) ?_
      refine va_get (D := (dC, dI)) (ci := 2) (v := .ref hrests) (C := rn_L) (T := tf_L) (N := 8) hx hb hts in_L hown hK hP 0 rfl rfl 4 (by decide) (hts _ wd_75) (fun _ h9 => h9) rfl de_L_floorParts_45 ?_
      refine lv_iload hx hb de_L_floorParts_48 (lv_at hl 1 rfl) ?_
      refine lv_lload hx hb de_L_floorParts_50 (lv_at hl 0 rfl) ?_
      refine lv_lload hx hb de_L_floorParts_52 (lv_at hl 6 rfl) ?_
      refine lv_lrem hx hb de_L_floorParts_54 (lp_ne0 (by assumption)) ?_
      refine qv_last (k := i) hx hb hK hP hD hS 2 0 rfl rfl (by omega) (by omega) de_L_floorParts_55 (fun H locs hP hD hS => ?_)
      have hP : va_P (dC, dI) cls_t [(h, .inr (2, [.ref hweights, .ref hprices, .ref hones, .ref hparts, .ref hrests, .int (nI xsize), .long xweightSum, .long xpriceSum])), (hparts, .inl (cJ, 40, .inr (.inl (vp_updL (sp_fill (sp_q fbases f d) fparts i) i (((fbases i) * f) / d))))), (hrests, .inl (cJ, 40, .inr (.inl (vp_updL (sp_fill (sp_r fbases f d) frests i) i (((fbases i) * f) - ((fbases i) * f) / d * d))))), (hbases, .inl (cJ, 40, .inr (.inl fbases)))] H := hP
      have hD : va_D A [(h, .inr (2, [.ref hweights, .ref hprices, .ref hones, .ref hparts, .ref hrests, .int (nI xsize), .long xweightSum, .long xpriceSum])), (hparts, .inl (cJ, 40, .inr (.inl (vp_updL (sp_fill (sp_q fbases f d) fparts i) i (((fbases i) * f) / d))))), (hrests, .inl (cJ, 40, .inr (.inl (vp_updL (sp_fill (sp_r fbases f d) frests i) i (((fbases i) * f) - ((fbases i) * f) / d * d))))), (hbases, .inl (cJ, 40, .inr (.inl fbases)))] := hD
      refine lv_lload hx hb de_L_floorParts_56 (lv_at hl 2 rfl) ?_
      refine lv_aload_n hx hb de_L_floorParts_58 rfl (lv_at hl 3 rfl) ?_
      refine va_get (D := (dC, dI)) (ci := 2) (v := .ref hparts) (C := rn_L) (T := tf_L) (N := 8) hx hb hts in_L hown hK hP 0 rfl rfl 3 (by decide) (hts _ wd_74) (fun _ h9 => h9) rfl de_L_floorParts_59 ?_
      refine lv_iload hx hb de_L_floorParts_62 (lv_at hl 1 rfl) ?_
      refine qv_lald (k := i) hx hb hK hP 1 0 rfl rfl (by omega) (by omega) de_L_floorParts_64 ?_
      rw [pk_uLs]
      refine lv_ladd hx hb de_L_floorParts_65 ?_
      refine lv_lstore (lv' := [(6, .long ((sp_sum (sp_q fbases f d) i) + (((fbases i) * f) / d))), (9, .long ((fbases i) * f)), (8, .int (nI i)), (0, .ref h), (1, .ref hbases), (2, .long f), (4, .long d)]) hx hb de_L_floorParts_66 hl (by decide) rfl (fun ls hl => ?_)
      refine lv_iinc (v := nI (i + 1)) (lv' := [(8, .int (nI (i + 1))), (6, .long ((sp_sum (sp_q fbases f d) i) + (((fbases i) * f) / d))), (9, .long ((fbases i) * f)), (0, .ref h), (1, .ref hbases), (2, .long f), (4, .long d)]) hx hb de_L_floorParts_68 hl (k := 2) rfl (nI_1 _) (by decide) rfl (fun ls hl => ?_)
      refine lv_goto (tgt := 15) hx hb de_L_floorParts_71 (by decide) ?_
      rw [show vp_updL (sp_fill (sp_q fbases f d) fparts i) i (fbases i * f / d) = sp_fill (sp_q fbases f d) fparts (i + 1) from sp_fill_s (sp_q fbases f d) fparts i, show vp_updL (sp_fill (sp_r fbases f d) frests i) i (fbases i * f - fbases i * f / d * d) = sp_fill (sp_r fbases f d) frests (i + 1) from sp_fill_s (sp_r fbases f d) frests i] at hP hD
      exact hk_15 _ _ _ ⟨hP, hD, hS, lv_sub hl [0, 1, 3, 4, 5, 6] rfl⟩
    · obtain ⟨hP, hD, hS, hl⟩ := hI
      refine lv_iload hx hb de_L_floorParts_15 (lv_at hl 0 rfl) ?_
      refine lv_aload_n hx hb de_L_floorParts_17 rfl (lv_at hl 2 rfl) ?_
      refine va_get (D := (dC, dI)) (ci := 2) (v := .int (nI xsize)) (C := rn_L) (T := tf_L) (N := 8) hx hb hts in_L hown hK hP 0 rfl rfl 5 (by decide) (hts _ wd_76) (fun _ h9 => h9) rfl de_L_floorParts_18 ?_
      refine lv_icmp_ge (tgt := 74) hx hb de_L_floorParts_21 (by decide) (fun _ => ?_) (fun c_3 => ((c_3 (nI_le (Nat.le_refl _) (by omega)))).elim)
      refine lv_lload hx hb de_L_floorParts_74 (lv_at hl 1 rfl) ?_
      have e_4 : (sp_fill (sp_q fbases f d) fparts xsize) = (sp_fpP fbases f d xsize fparts) := by simp only [sp_fpS, sp_fpP, sp_fpR, if_pos c_1]
      have e_5 : (sp_fill (sp_r fbases f d) frests xsize) = (sp_fpR fbases f d xsize frests) := by simp only [sp_fpS, sp_fpP, sp_fpR, if_pos c_1]
      have hP : va_P (dC, dI) cls_t [(h, .inr (2, [.ref hweights, .ref hprices, .ref hones, .ref hparts, .ref hrests, .int (nI xsize), .long xweightSum, .long xpriceSum])), (hparts, .inl (cJ, 40, .inr (.inl (sp_fpP fbases f d xsize fparts)))), (hrests, .inl (cJ, 40, .inr (.inl (sp_fpR fbases f d xsize frests)))), (hbases, .inl (cJ, 40, .inr (.inl fbases)))] H := by rw [← e_4, ← e_5]; exact hP
      have hD : va_D A [(h, .inr (2, [.ref hweights, .ref hprices, .ref hones, .ref hparts, .ref hrests, .int (nI xsize), .long xweightSum, .long xpriceSum])), (hparts, .inl (cJ, 40, .inr (.inl (sp_fpP fbases f d xsize fparts)))), (hrests, .inl (cJ, 40, .inr (.inl (sp_fpR fbases f d xsize frests)))), (hbases, .inl (cJ, 40, .inr (.inl fbases)))] := by rw [← e_4, ← e_5]; exact hD
      exact W.lret (v := sp_sum (sp_q fbases f d) xsize) hx hb hr (fun t9 ht9 hW9 => ⟨⟨(sp_sum (sp_q fbases f d) xsize), (), rfl, (show (sp_sum (sp_q fbases f d) xsize) = (sp_fpS fbases f d xsize) from by simp only [sp_fpS, sp_fpP, sp_fpR, if_pos c_1]), by rw [ht9]; exact hP, va_K.moved hW9.alike hK, hD⟩, hS.F ht9⟩) hS.2.2 de_L_floorParts_76
  · have c_1 := mt (lg_cmp_gt _ _).mpr c_1
    refine lv_lconst (v := 0) hx hb de_L_floorParts_7 (by decide) ?_
    have e_6 : fparts = (sp_fpP fbases f d xsize fparts) := by simp only [sp_fpS, sp_fpP, sp_fpR, if_neg c_1]
    have e_7 : frests = (sp_fpR fbases f d xsize frests) := by simp only [sp_fpS, sp_fpP, sp_fpR, if_neg c_1]
    have hP : va_P (dC, dI) cls_t [(h, .inr (2, [.ref hweights, .ref hprices, .ref hones, .ref hparts, .ref hrests, .int (nI xsize), .long xweightSum, .long xpriceSum])), (hparts, .inl (cJ, 40, .inr (.inl (sp_fpP fbases f d xsize fparts)))), (hrests, .inl (cJ, 40, .inr (.inl (sp_fpR fbases f d xsize frests)))), (hbases, .inl (cJ, 40, .inr (.inl fbases)))] s.heap := by rw [← e_6, ← e_7]; exact hP
    have hD : va_D A [(h, .inr (2, [.ref hweights, .ref hprices, .ref hones, .ref hparts, .ref hrests, .int (nI xsize), .long xweightSum, .long xpriceSum])), (hparts, .inl (cJ, 40, .inr (.inl (sp_fpP fbases f d xsize fparts)))), (hrests, .inl (cJ, 40, .inr (.inl (sp_fpR fbases f d xsize frests)))), (hbases, .inl (cJ, 40, .inr (.inl fbases)))] := by rw [← e_6, ← e_7]; exact hD
    exact W.lret (v := 0) hx hb hr (fun t9 ht9 hW9 => ⟨⟨0, (), rfl, (show 0 = (sp_fpS fbases f d xsize) from by simp only [sp_fpS, sp_fpP, sp_fpR, if_neg c_1]), by rw [ht9]; exact hP, va_K.moved hW9.alike hK, hD⟩, hS.F ht9⟩) hS.2.2 de_L_floorParts_8
set_option maxHeartbeats 4000000 in
set_option maxRecDepth 100000 in
/-- handOut -/
theorem cl_handOut (l : Launch) (dC : Nat → ClassId) (dI : Nat → Nat → Nat) (cJ cI cZ : Nat) (sz : Nat) (h : Nat) (hweights : Nat) (hprices : Nat) (hones : Nat) (hparts : Nat) (hrests : Nat) (xsize : Nat) (xweightSum : Int64) (xpriceSum : Int64) (fparts : Nat → Int64) (frests : Nat → Int64) (left : Int64) (hn : xsize ≤ 40) : Met l yn_L_handOut ws_L_handOut ({ frames := 0, cells := 0, slots := 0, locals := 0 }) (va_Pc [.ref h, .long left] (qv_pre (dC, dI) cls_t [(h, .inr (2, [.ref hweights, .ref hprices, .ref hones, .ref hparts, .ref hrests, .int (nI xsize), .long xweightSum, .long xpriceSum])), (hparts, .inl (cJ, 40, .inr (.inl fparts))), (hrests, .inl (cJ, 40, .inr (.inl frests)))] [(cJ, .long), (cI, .int), (cZ, .boolean)] sz)) (va_Qv (fun (_ : Unit) => True) (qv_post (dC, dI) cls_t (fun (_ : Unit) => [(h, .inr (2, [.ref hweights, .ref hprices, .ref hones, .ref hparts, .ref hrests, .int (nI xsize), .long xweightSum, .long xpriceSum])), (hparts, .inl (cJ, 40, .inr (.inl ((sp_ho xsize fparts frests (sp_T left xsize)).1)))), (hrests, .inl (cJ, 40, .inr (.inl ((sp_ho xsize fparts frests (sp_T left xsize)).2))))]) [(cJ, .long), (cI, .int), (cZ, .boolean)] (va_A [(h, .inr (2, [.ref hweights, .ref hprices, .ref hones, .ref hparts, .ref hrests, .int (nI xsize), .long xweightSum, .long xpriceSum])), (hparts, .inl (cJ, 40, .inr (.inl fparts))), (hrests, .inl (cJ, 40, .inr (.inl frests)))] sz)) (va_A [(h, .inr (2, [.ref hweights, .ref hprices, .ref hones, .ref hparts, .ref hrests, .int (nI xsize), .long xweightSum, .long xpriceSum])), (hparts, .inl (cJ, 40, .inr (.inl fparts))), (hrests, .inl (cJ, 40, .inr (.inl frests)))] sz)) 0 0 (va_A [(h, .inr (2, [.ref hweights, .ref hprices, .ref hones, .ref hparts, .ref hrests, .int (nI xsize), .long xweightSum, .long xpriceSum])), (hparts, .inl (cJ, 40, .inr (.inl fparts))), (hrests, .inl (cJ, 40, .inr (.inl frests)))] sz) := by
  refine Met.ofW (cc := by_L_handOut) (maxL := 6) (ret := none) (by decide) rfl ?_
  intro p e s m args below meth c s₁ B hml hv
  obtain ⟨rfl, hsz, hP, hK, hD0⟩ := hv
  have hx := B.exec
  have hb := B.bytes
  have hr := B.returns
  have hts := fun (w : Cond) (h : w ∈ lw_gt) => atoms_spec (ws := ws_L_handOut) B.pre w (List.mem_cons_of_mem _ h)
  have hown : s.vm.findClass rn_L = some m.cls := findClass_of_methodNamed B.named
  have hlocks := B.notSynchronized
  subst hsz
  have hD := hD0.self (sz := s.heap.size)
  generalize hAe : va_A [(h, .inr (2, [.ref hweights, .ref hprices, .ref hones, .ref hparts, .ref hrests, .int (nI xsize), .long xweightSum, .long xpriceSum])), (hparts, .inl (cJ, 40, .inr (.inl fparts))), (hrests, .inl (cJ, 40, .inr (.inl frests)))] s.heap.size = A at hD ⊢
  have hA : ∀ q : Nat, s.heap.size ≤ q → A q := fun q h => by rw [← hAe]; exact Or.inr h
  have hS : va_S A s.heap s.heap [] := va_S.rf
  have hP : va_P (dC, dI) cls_t [(h, .inr (2, [.ref hweights, .ref hprices, .ref hones, .ref hparts, .ref hrests, .int (nI xsize), .long xweightSum, .long xpriceSum])), (hparts, .inl (cJ, 40, .inr (.inl fparts))), (hrests, .inl (cJ, 40, .inr (.inl frests)))] s.heap := hP
  have hl := lv_entry ([.ref h, .long left]) (n := 6) (Nat.le_of_ble_eq_true rfl)
  rw [lg_entry_eq]
  generalize (lg_sl ([.ref h, .long left]) ++ List.replicate (6 - (lg_sl ([.ref h, .long left])).length) Slot.unset).toArray = ls at hl ⊢
  have hl : lv_has ls 6 [(0, .ref h), (1, .long left)] := hl
  refine lv_iconst (v := 0) hx hb de_L_handOut_0 (by decide) ?_
  refine lv_istore_n (lv' := [(3, .int 0), (0, .ref h), (1, .long left)]) hx hb de_L_handOut_1 rfl hl (by decide) rfl (fun ls hl => ?_)
  refine qv_loop (N := sp_T left xsize) (i0 := 0) (fun t H locs ls => va_P (dC, dI) cls_t [(h, .inr (2, [.ref hweights, .ref hprices, .ref hones, .ref hparts, .ref hrests, .int (nI xsize), .long xweightSum, .long xpriceSum])), (hparts, .inl (cJ, 40, .inr (.inl ((sp_ho xsize fparts frests t).1)))), (hrests, .inl (cJ, 40, .inr (.inl ((sp_ho xsize fparts frests t).2))))] H ∧ va_D A [(h, .inr (2, [.ref hweights, .ref hprices, .ref hones, .ref hparts, .ref hrests, .int (nI xsize), .long xweightSum, .long xpriceSum])), (hparts, .inl (cJ, 40, .inr (.inl ((sp_ho xsize fparts frests t).1)))), (hrests, .inl (cJ, 40, .inr (.inl ((sp_ho xsize fparts frests t).2))))] ∧ va_S A s.heap H locs ∧ lv_has ls 6 [(3, .int (nI t)), (0, .ref h), (1, .long left)]) (Nat.zero_le _) ⟨hP, hD, hS, lv_sub hl [0, 1, 2] rfl⟩ (fun t H locs ls hi_2 hI hk_2 => ?_) (fun H locs ls hI => ?_)
  · obtain ⟨hP, hD, hS, hl⟩ := hI
    have ht := sp_T_le left xsize
    refine lv_iload_n hx hb de_L_handOut_2 rfl (lv_at hl 0 rfl) ?_
    refine lv_i2l (v := (nI t).toInt64) hx hb de_L_handOut_3 rfl ?_
    refine lv_lload_n hx hb de_L_handOut_4 rfl (lv_at hl 2 rfl) ?_
    refine W.lcmp hx hb de_L_handOut_5 ?_
    refine lv_if_ge (tgt := 87) hx hb de_L_handOut_6 (by decide) (fun c_1 => ((sp_T_in hn hi_2 ((lg_cmp_ge _ _).mp c_1))).elim) (fun _ => ?_)
    refine lv_iload_n hx hb de_L_handOut_9 rfl (lv_at hl 0 rfl) ?_
    refine lv_aload_n hx hb de_L_handOut_10 rfl (lv_at hl 1 rfl) ?_
    refine va_get (D := (dC, dI)) (ci := 2) (v := .int (nI xsize)) (C := rn_L) (T := tf_L) (N := 8) hx hb hts in_L hown hK hP 0 rfl rfl 5 (by decide) (hts _ wd_76) (fun _ h9 => h9) rfl de_L_handOut_11 ?_
    refine lv_icmp_ge (tgt := 87) hx hb de_L_handOut_14 (by decide) (fun c_2 => ((nI_ge (show t < xsize by omega) (by omega) c_2)).elim) (fun _ => ?_)
    refine lv_iconst (v := 0) hx hb de_L_handOut_17 (by decide) ?_
    refine lv_istore (lv' := [(4, .int 0), (3, .int (nI t)), (0, .ref h), (1, .long left)]) hx hb de_L_handOut_18 hl (by decide) rfl (fun ls hl => ?_)
    refine lv_iconst (v := 1) hx hb de_L_handOut_20 (by decide) ?_
    refine lv_istore (lv' := [(5, .int 1), (4, .int 0), (3, .int (nI t)), (0, .ref h), (1, .long left)]) hx hb de_L_handOut_21 hl (by decide) rfl (fun ls hl => ?_)
    refine qv_loop (N := xsize - 1) (i0 := 0) (fun j H locs ls => va_P (dC, dI) cls_t [(h, .inr (2, [.ref hweights, .ref hprices, .ref hones, .ref hparts, .ref hrests, .int (nI xsize), .long xweightSum, .long xpriceSum])), (hparts, .inl (cJ, 40, .inr (.inl ((sp_ho xsize fparts frests t).1)))), (hrests, .inl (cJ, 40, .inr (.inl ((sp_ho xsize fparts frests t).2))))] H ∧ va_D A [(h, .inr (2, [.ref hweights, .ref hprices, .ref hones, .ref hparts, .ref hrests, .int (nI xsize), .long xweightSum, .long xpriceSum])), (hparts, .inl (cJ, 40, .inr (.inl ((sp_ho xsize fparts frests t).1)))), (hrests, .inl (cJ, 40, .inr (.inl ((sp_ho xsize fparts frests t).2))))] ∧ va_S A s.heap H locs ∧ lv_has ls 6 [(5, .int (nI (j + 1))), (4, .int (nI (sp_arg (sp_ho xsize fparts frests t).2 j))), (3, .int (nI t)), (0, .ref h), (1, .long left)]) (Nat.zero_le _) ⟨hP, hD, hS, lv_sub hl [0, 1, 2, 3, 4] rfl⟩ (fun j H locs ls hi_23 hI hk_23 => ?_) (fun H locs ls hI => ?_)
    · obtain ⟨hP, hD, hS, hl⟩ := hI
      have ha := sp_arg_le (sp_ho xsize fparts frests t).2 j
      refine lv_iload hx hb de_L_handOut_23 (lv_at hl 0 rfl) ?_
      refine lv_aload_n hx hb de_L_handOut_25 rfl (lv_at hl 3 rfl) ?_
      refine va_get (D := (dC, dI)) (ci := 2) (v := .int (nI xsize)) (C := rn_L) (T := tf_L) (N := 8) hx hb hts in_L hown hK hP 0 rfl rfl 5 (by decide) (hts _ wd_76) (fun _ h9 => h9) rfl de_L_handOut_26 ?_
      refine lv_icmp_ge (tgt := 60) hx hb de_L_handOut_29 (by decide) (fun c_3 => ((nI_ge (show j + 1 < xsize by omega) (by omega) c_3)).elim) (fun _ => ?_)
      refine lv_aload_n hx hb de_L_handOut_32 rfl (lv_at hl 3 rfl) ?_
      refine va_get (D := (dC, dI)) (ci := 2) (v := .ref hrests) (C := rn_L) (T := tf_L) (N := 8) hx hb hts in_L hown hK hP 0 rfl rfl 4 (by decide) (hts _ wd_75) (fun _ h9 => h9) rfl de_L_handOut_33 ?_
      refine lv_iload hx hb de_L_handOut_36 (lv_at hl 0 rfl) ?_
      refine qv_lald (k := (j + 1)) hx hb hK hP 2 0 rfl rfl (by omega) (by omega) de_L_handOut_38 ?_
      refine lv_aload_n hx hb de_L_handOut_39 rfl (lv_at hl 3 rfl) ?_
      refine va_get (D := (dC, dI)) (ci := 2) (v := .ref hrests) (C := rn_L) (T := tf_L) (N := 8) hx hb hts in_L hown hK hP 0 rfl rfl 4 (by decide) (hts _ wd_75) (fun _ h9 => h9) rfl de_L_handOut_40 ?_
      refine lv_iload hx hb de_L_handOut_43 (lv_at hl 1 rfl) ?_
      refine qv_lald (k := (sp_arg (sp_ho xsize fparts frests t).2 j)) hx hb hK hP 2 0 rfl rfl (by omega) (by omega) de_L_handOut_45 ?_
      refine W.lcmp hx hb de_L_handOut_46 ?_
      refine lv_if_le (tgt := 54) hx hb de_L_handOut_47 (by decide) (fun c_4 => ?_) (fun c_4 => ?_)
      · have c_4 := (lg_cmp_le _ _).mp c_4
        refine lv_iinc (v := nI ((j + 1) + 1)) (lv' := [(5, .int (nI ((j + 1) + 1))), (4, .int (nI (sp_arg (sp_ho xsize fparts frests t).2 j))), (3, .int (nI t)), (0, .ref h), (1, .long left)]) hx hb de_L_handOut_54 hl (k := 0) rfl (nI_1 _) (by decide) rfl (fun ls hl => ?_)
        refine lv_goto (tgt := 23) hx hb de_L_handOut_57 (by decide) ?_
        have hl : lv_has ls 6 [(5, .int (nI ((j + 1) + 1))), (4, .int (nI (sp_arg (sp_ho xsize fparts frests t).2 (j + 1)))), (3, .int (nI t)), (0, .ref h), (1, .long left)] := by rw [show sp_arg (sp_ho xsize fparts frests t).2 (j + 1) = (sp_arg (sp_ho xsize fparts frests t).2 j) from by rw [sp_arg, if_pos c_4]]; exact hl
        exact hk_23 _ _ _ ⟨hP, hD, hS, lv_sub hl [0, 1, 2, 3, 4] rfl⟩
      · have c_4 := mt (lg_cmp_le _ _).mpr c_4
        refine lv_iload hx hb de_L_handOut_50 (lv_at hl 0 rfl) ?_
        refine lv_istore (lv' := [(4, .int (nI (j + 1))), (5, .int (nI (j + 1))), (3, .int (nI t)), (0, .ref h), (1, .long left)]) hx hb de_L_handOut_52 hl (by decide) rfl (fun ls hl => ?_)
        refine lv_iinc (v := nI ((j + 1) + 1)) (lv' := [(5, .int (nI ((j + 1) + 1))), (4, .int (nI (j + 1))), (3, .int (nI t)), (0, .ref h), (1, .long left)]) hx hb de_L_handOut_54 hl (k := 1) rfl (nI_1 _) (by decide) rfl (fun ls hl => ?_)
        refine lv_goto (tgt := 23) hx hb de_L_handOut_57 (by decide) ?_
        have hl : lv_has ls 6 [(5, .int (nI ((j + 1) + 1))), (4, .int (nI (sp_arg (sp_ho xsize fparts frests t).2 (j + 1)))), (3, .int (nI t)), (0, .ref h), (1, .long left)] := by rw [show sp_arg (sp_ho xsize fparts frests t).2 (j + 1) = (j + 1) from by rw [sp_arg, if_neg c_4]]; exact hl
        exact hk_23 _ _ _ ⟨hP, hD, hS, lv_sub hl [0, 1, 2, 3, 4] rfl⟩
    · obtain ⟨hP, hD, hS, hl⟩ := hI
      have ha := sp_arg_le (sp_ho xsize fparts frests t).2 (xsize - 1)
      refine lv_iload hx hb de_L_handOut_23 (lv_at hl 0 rfl) ?_
      refine lv_aload_n hx hb de_L_handOut_25 rfl (lv_at hl 3 rfl) ?_
      refine va_get (D := (dC, dI)) (ci := 2) (v := .int (nI xsize)) (C := rn_L) (T := tf_L) (N := 8) hx hb hts in_L hown hK hP 0 rfl rfl 5 (by decide) (hts _ wd_76) (fun _ h9 => h9) rfl de_L_handOut_26 ?_
      refine lv_icmp_ge (tgt := 60) hx hb de_L_handOut_29 (by decide) (fun _ => ?_) (fun c_5 => ((c_5 (nI_le (show xsize ≤ xsize - 1 + 1 by omega) (by omega)))).elim)
      refine lv_aload_n hx hb de_L_handOut_60 rfl (lv_at hl 3 rfl) ?_
      refine va_get (D := (dC, dI)) (ci := 2) (v := .ref hparts) (C := rn_L) (T := tf_L) (N := 8) hx hb hts in_L hown hK hP 0 rfl rfl 3 (by decide) (hts _ wd_74) (fun _ h9 => h9) rfl de_L_handOut_61 ?_
      refine lv_iload hx hb de_L_handOut_64 (lv_at hl 1 rfl) ?_
      refine lv_dup2_11 hx hb de_L_handOut_66 rfl rfl ?_
      refine qv_lald (k := (sp_arg (sp_ho xsize fparts frests t).2 (xsize - 1))) hx hb hK hP 1 0 rfl rfl (by omega) (by omega) de_L_handOut_67 ?_
      refine lv_lconst (v := 1) hx hb de_L_handOut_68 (by decide) ?_
      refine lv_ladd hx hb de_L_handOut_69 ?_
      refine qv_last (k := (sp_arg (sp_ho xsize fparts frests t).2 (xsize - 1))) hx hb hK hP hD hS 1 0 rfl rfl (by omega) (by omega) de_L_handOut_70 (fun H locs hP hD hS => ?_)
      have hP : va_P (dC, dI) cls_t [(h, .inr (2, [.ref hweights, .ref hprices, .ref hones, .ref hparts, .ref hrests, .int (nI xsize), .long xweightSum, .long xpriceSum])), (hparts, .inl (cJ, 40, .inr (.inl (vp_updL ((sp_ho xsize fparts frests t).1) (sp_arg (sp_ho xsize fparts frests t).2 (xsize - 1)) ((((sp_ho xsize fparts frests t).1) (sp_arg (sp_ho xsize fparts frests t).2 (xsize - 1))) + 1))))), (hrests, .inl (cJ, 40, .inr (.inl ((sp_ho xsize fparts frests t).2))))] H := hP
      have hD : va_D A [(h, .inr (2, [.ref hweights, .ref hprices, .ref hones, .ref hparts, .ref hrests, .int (nI xsize), .long xweightSum, .long xpriceSum])), (hparts, .inl (cJ, 40, .inr (.inl (vp_updL ((sp_ho xsize fparts frests t).1) (sp_arg (sp_ho xsize fparts frests t).2 (xsize - 1)) ((((sp_ho xsize fparts frests t).1) (sp_arg (sp_ho xsize fparts frests t).2 (xsize - 1))) + 1))))), (hrests, .inl (cJ, 40, .inr (.inl ((sp_ho xsize fparts frests t).2))))] := hD
      refine lv_aload_n hx hb de_L_handOut_71 rfl (lv_at hl 3 rfl) ?_
      refine va_get (D := (dC, dI)) (ci := 2) (v := .ref hrests) (C := rn_L) (T := tf_L) (N := 8) hx hb hts in_L hown hK hP 0 rfl rfl 4 (by decide) (hts _ wd_75) (fun _ h9 => h9) rfl de_L_handOut_72 ?_
      refine lv_iload hx hb de_L_handOut_75 (lv_at hl 1 rfl) ?_
      refine lv_ldc2 (v := (-1)) hx hb hown (hts _ wd_291) de_L_handOut_77 ?_
      refine qv_last (k := (sp_arg (sp_ho xsize fparts frests t).2 (xsize - 1))) hx hb hK hP hD hS 2 0 rfl rfl (by omega) (by omega) de_L_handOut_80 (fun H locs hP hD hS => ?_)
      have hP : va_P (dC, dI) cls_t [(h, .inr (2, [.ref hweights, .ref hprices, .ref hones, .ref hparts, .ref hrests, .int (nI xsize), .long xweightSum, .long xpriceSum])), (hparts, .inl (cJ, 40, .inr (.inl (vp_updL ((sp_ho xsize fparts frests t).1) (sp_arg (sp_ho xsize fparts frests t).2 (xsize - 1)) ((((sp_ho xsize fparts frests t).1) (sp_arg (sp_ho xsize fparts frests t).2 (xsize - 1))) + 1))))), (hrests, .inl (cJ, 40, .inr (.inl (vp_updL ((sp_ho xsize fparts frests t).2) (sp_arg (sp_ho xsize fparts frests t).2 (xsize - 1)) (-1)))))] H := hP
      have hD : va_D A [(h, .inr (2, [.ref hweights, .ref hprices, .ref hones, .ref hparts, .ref hrests, .int (nI xsize), .long xweightSum, .long xpriceSum])), (hparts, .inl (cJ, 40, .inr (.inl (vp_updL ((sp_ho xsize fparts frests t).1) (sp_arg (sp_ho xsize fparts frests t).2 (xsize - 1)) ((((sp_ho xsize fparts frests t).1) (sp_arg (sp_ho xsize fparts frests t).2 (xsize - 1))) + 1))))), (hrests, .inl (cJ, 40, .inr (.inl (vp_updL ((sp_ho xsize fparts frests t).2) (sp_arg (sp_ho xsize fparts frests t).2 (xsize - 1)) (-1)))))] := hD
      refine lv_iinc (v := nI (t + 1)) (lv' := [(3, .int (nI (t + 1))), (5, .int (nI (xsize - 1 + 1))), (4, .int (nI (sp_arg (sp_ho xsize fparts frests t).2 (xsize - 1)))), (0, .ref h), (1, .long left)]) hx hb de_L_handOut_81 hl (k := 2) rfl (nI_1 _) (by decide) rfl (fun ls hl => ?_)
      refine lv_goto (tgt := 2) hx hb de_L_handOut_84 (by decide) ?_
      exact hk_2 _ _ _ ⟨hP, hD, hS, lv_sub hl [0, 3, 4] rfl⟩
  · obtain ⟨hP, hD, hS, hl⟩ := hI
    refine lv_iload_n hx hb de_L_handOut_2 rfl (lv_at hl 0 rfl) ?_
    refine lv_i2l (v := (nI (sp_T left xsize)).toInt64) hx hb de_L_handOut_3 rfl ?_
    refine lv_lload_n hx hb de_L_handOut_4 rfl (lv_at hl 2 rfl) ?_
    refine W.lcmp hx hb de_L_handOut_5 ?_
    refine lv_if_ge (tgt := 87) hx hb de_L_handOut_6 (by decide) (fun c_6 => ?_) (fun c_6 => ?_)
    · have c_6 := (lg_cmp_ge _ _).mp c_6
      exact W.vret hx hb hr (fun t9 ht9 hW9 => ⟨⟨(), rfl, trivial, by rw [ht9]; exact hP, va_K.moved hW9.alike hK, hD⟩, hS.F ht9⟩) hS.2.2 de_L_handOut_87
    · have c_6 := mt (lg_cmp_ge _ _).mpr c_6
      refine lv_iload_n hx hb de_L_handOut_9 rfl (lv_at hl 0 rfl) ?_
      refine lv_aload_n hx hb de_L_handOut_10 rfl (lv_at hl 1 rfl) ?_
      refine va_get (D := (dC, dI)) (ci := 2) (v := .int (nI xsize)) (C := rn_L) (T := tf_L) (N := 8) hx hb hts in_L hown hK hP 0 rfl rfl 5 (by decide) (hts _ wd_76) (fun _ h9 => h9) rfl de_L_handOut_11 ?_
      refine lv_icmp_ge (tgt := 87) hx hb de_L_handOut_14 (by decide) (fun _ => ?_) (fun c_7 => ((sp_T_out hn (by assumption) c_7)).elim)
      exact W.vret hx hb hr (fun t9 ht9 hW9 => ⟨⟨(), rfl, trivial, by rw [ht9]; exact hP, va_K.moved hW9.alike hK, hD⟩, hS.F ht9⟩) hS.2.2 de_L_handOut_87
