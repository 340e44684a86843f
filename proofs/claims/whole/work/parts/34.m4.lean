set_option maxHeartbeats 4000000 in
set_option maxRecDepth 100000 in
/-- valueOf -/
theorem mo_val (l : Launch) (dC : Nat → ClassId) (dI : Nat → Nat → Nat) (cJ cI cZ : Nat) (h : Nat) (xthrown : Int32) (xlines : Nat) (xrows : Nat) (xweightSum : Int64) (xpriceSum : Int64) (hweight : Nat) (hprice : Nat) (hisTold : Nat) (hcents : Nat) (hbyWeights : Nat) (hrowDays : Nat) (hrowThousandths : Nat) (xday : Nat) (xpaid : Nat) (hup : Nat) (hdown : Nat) (hcondition : Nat) (hhasFigures : Nat) (hfigureA : Nat) (hfigureB : Nat) (xisRelated : Int32) (xisTurned : Int32) (xtest : Int64) (xband : Int32) (fweight : Nat → Int64) (fprice : Nat → Int64) (fisTold : Nat → Int32) (fcents : Nat → Int64) (fbyWeights : Nat → Int32) (frowDays : Nat → Int32) (frowThousandths : Nat → Int32) (fcondition : Nat → Int32) (fhasFigures : Nat → Int32) (ffigureA : Nat → Int64) (ffigureB : Nat → Int64) (j : Nat) (k : Nat) (h0 : 0 < xlines) (hn : xlines ≤ 40) (hr : xrows ≤ 10) (hj : j < 40) (hk1 : 1 ≤ k) (hk6 : k ≤ 6) (hfb : 2 ≤ k → k ≤ 3 → ¬ ffigureB k = 0) : Met l yn_M_valueOf ws_M_valueOf ({ frames := 4, cells := 0, slots := 0, locals := 102 }) (va_Pc [.ref h, .int (nI j), .int (nI k)] (qv_ro (dC, dI) cls_t [(h, .inr (5, [.int xthrown, .int (nI xlines), .int (nI xrows), .long xweightSum, .long xpriceSum, .ref hweight, .ref hprice, .ref hisTold, .ref hcents, .ref hbyWeights, .ref hrowDays, .ref hrowThousandths, .int (nI xday), .int (nI xpaid), .ref hup, .ref hdown, .ref hcondition, .ref hhasFigures, .ref hfigureA, .ref hfigureB, .int xisRelated, .int xisTurned, .long xtest, .int xband])), (hweight, .inl (cJ, 40, .inr (.inl fweight))), (hprice, .inl (cJ, 40, .inr (.inl fprice))), (hisTold, .inl (cZ, 9, .inl fisTold)), (hcents, .inl (cJ, 9, .inr (.inl fcents))), (hbyWeights, .inl (cZ, 9, .inl fbyWeights)), (hrowDays, .inl (cI, 10, .inl frowDays)), (hrowThousandths, .inl (cI, 10, .inl frowThousandths)), (hcondition, .inl (cZ, 7, .inl fcondition)), (hhasFigures, .inl (cZ, 7, .inl fhasFigures)), (hfigureA, .inl (cJ, 7, .inr (.inl ffigureA))), (hfigureB, .inl (cJ, 7, .inr (.inl ffigureB)))] [(cJ, .long), (cI, .int), (cZ, .boolean)])) (k2_QcV (.long (sm_val k (sm_trn fweight fprice xlines xweightSum xpriceSum (sm_disc xpriceSum frowDays frowThousandths xday xpaid xrows) fisTold fcents fbyWeights) fweight ffigureA ffigureB (sm_ded (ffigureA 4) (ffigureB 4) fcents) (sm_near (ffigureA 5 * (1000 + ffigureB 5)) 1000 + sm_tol fcents 0 (5 - 0)) (fun a9 j9 => sm_share fweight fprice xlines xweightSum xpriceSum a9 j9 0) j))) 0 0 (fun _ => False) := by
  refine Met.ofW (cc := by_M_valueOf) (maxL := 3) (ret := (some .long)) (by decide) rfl ?_
  intro p e s m args below meth c s₁ B hml hv
  obtain ⟨rfl, hP, hK⟩ := hv
  have hx := B.exec
  have hb := B.bytes
  have hr := B.returns
  have hts := fun (w : Cond) (h : w ∈ lw_gt) => atoms_spec (ws := ws_M_valueOf) B.pre w (List.mem_cons_of_mem _ h)
  have hown : s.vm.findClass rn_M = some m.cls := findClass_of_methodNamed B.named
  have hlocks := B.notSynchronized
  have hP : va_P (dC, dI) cls_t [(h, .inr (5, [.int xthrown, .int (nI xlines), .int (nI xrows), .long xweightSum, .long xpriceSum, .ref hweight, .ref hprice, .ref hisTold, .ref hcents, .ref hbyWeights, .ref hrowDays, .ref hrowThousandths, .int (nI xday), .int (nI xpaid), .ref hup, .ref hdown, .ref hcondition, .ref hhasFigures, .ref hfigureA, .ref hfigureB, .int xisRelated, .int xisTurned, .long xtest, .int xband])), (hweight, .inl (cJ, 40, .inr (.inl fweight))), (hprice, .inl (cJ, 40, .inr (.inl fprice))), (hisTold, .inl (cZ, 9, .inl fisTold)), (hcents, .inl (cJ, 9, .inr (.inl fcents))), (hbyWeights, .inl (cZ, 9, .inl fbyWeights)), (hrowDays, .inl (cI, 10, .inl frowDays)), (hrowThousandths, .inl (cI, 10, .inl frowThousandths)), (hcondition, .inl (cZ, 7, .inl fcondition)), (hhasFigures, .inl (cZ, 7, .inl fhasFigures)), (hfigureA, .inl (cJ, 7, .inr (.inl ffigureA))), (hfigureB, .inl (cJ, 7, .inr (.inl ffigureB)))] s.heap := hP
  have hl := lv_entry ([.ref h, .int (nI j), .int (nI k)]) (n := 3) (Nat.le_of_ble_eq_true rfl)
  rw [lg_entry_eq]
  generalize (lg_sl ([.ref h, .int (nI j), .int (nI k)]) ++ List.replicate (3 - (lg_sl ([.ref h, .int (nI j), .int (nI k)])).length) Slot.unset).toArray = ls at hl ⊢
  have hl : lv_has ls 3 [(0, .ref h), (1, .int (nI j)), (2, .int (nI k))] := hl
  obtain rfl | rfl | rfl | rfl | rfl | rfl : k = 1 ∨ k = 2 ∨ k = 3 ∨ k = 4 ∨ k = 5 ∨ k = 6 := by omega
  · refine lv_iload_n hx hb de_M_valueOf_0 rfl (lv_at hl 2 rfl) ?_
    refine lv_tableIn (off := 35) (tgt := 36) hx hb de_M_valueOf_1 (by decide) (by decide) (by decide) (by decide) ?_
    refine lv_aload_n hx hb de_M_valueOf_36 rfl (lv_at hl 0 rfl) ?_
    refine lv_iload_n hx hb de_M_valueOf_37 rfl (lv_at hl 1 rfl) ?_
    refine qv_callR (As := [.int (nI j)]) (rest := []) ⟨hx, hb, hml, hown, hts⟩ (mo_trn l dC dI cJ cI cZ h xthrown xlines xrows xweightSum xpriceSum hweight hprice hisTold hcents hbyWeights hrowDays hrowThousandths xday xpaid hup hdown hcondition hhasFigures hfigureA hfigureB xisRelated xisTurned xtest xband fweight fprice fisTold fcents fbyWeights frowDays frowThousandths j (by omega) (by omega) (by omega) (by omega)) (cwV 1 hts (gd_V wd_798 wd_800 wd_24 wd_47 wd_801) rfl rfl rfl (by decide +kernel) ⟨Nat.le_of_ble_eq_true rfl, Nat.le_of_ble_eq_true rfl⟩) hK hP [0, 1, 2, 3, 4, 5, 6, 7] rfl rfl rfl rfl hl.1 rfl (Nat.le_of_ble_eq_true rfl) de_M_valueOf_38 ⟨Nat.zero_le _, Nat.zero_le _⟩ ?_
    exact W.lret (v := sm_trn fweight fprice xlines xweightSum xpriceSum (sm_disc xpriceSum frowDays frowThousandths xday xpaid xrows) fisTold fcents fbyWeights j) hx hb hr (fun t9 ht9 hW9 => ⟨congrArg (fun z => Outcome.returned (some (Value.long z))) (show (sm_trn fweight fprice xlines xweightSum xpriceSum (sm_disc xpriceSum frowDays frowThousandths xday xpaid xrows) fisTold fcents fbyWeights j) = sm_val 1 (sm_trn fweight fprice xlines xweightSum xpriceSum (sm_disc xpriceSum frowDays frowThousandths xday xpaid xrows) fisTold fcents fbyWeights) fweight ffigureA ffigureB (sm_ded (ffigureA 4) (ffigureB 4) fcents) (sm_near (ffigureA 5 * (1000 + ffigureB 5)) 1000 + sm_tol fcents 0 (5 - 0)) (fun a9 j9 => sm_share fweight fprice xlines xweightSum xpriceSum a9 j9 0) j from rfl), ht9⟩) (fun _ h => nomatch h) de_M_valueOf_41
  · refine lv_iload_n hx hb de_M_valueOf_0 rfl (lv_at hl 2 rfl) ?_
    refine lv_tableIn (off := 41) (tgt := 42) hx hb de_M_valueOf_1 (by decide) (by decide) (by decide) (by decide) ?_
    refine lv_aload_n hx hb de_M_valueOf_42 rfl (lv_at hl 0 rfl) ?_
    refine va_get (D := (dC, dI)) (ci := 5) (v := .ref hweight) (C := rn_M) (T := tf_M) (N := 24) hx hb hts in_M hown hK hP 0 rfl rfl 5 (by decide) (hts _ wd_648) (fun _ h9 => h9) rfl de_M_valueOf_43 ?_
    refine lv_iload_n hx hb de_M_valueOf_46 rfl (lv_at hl 1 rfl) ?_
    refine qv_lald (k := j) hx hb hK hP 1 0 rfl rfl (by omega) (by omega) de_M_valueOf_47 ?_
    refine lv_aload_n hx hb de_M_valueOf_48 rfl (lv_at hl 0 rfl) ?_
    refine va_get (D := (dC, dI)) (ci := 5) (v := .ref hfigureA) (C := rn_M) (T := tf_M) (N := 24) hx hb hts in_M hown hK hP 0 rfl rfl 18 (by decide) (hts _ wd_661) (fun _ h9 => h9) rfl de_M_valueOf_49 ?_
    refine lv_iload_n hx hb de_M_valueOf_52 rfl (lv_at hl 2 rfl) ?_
    refine qv_lald (k := 2) hx hb hK hP 10 0 rfl rfl (by omega) (by omega) de_M_valueOf_53 ?_
    refine lv_lmul hx hb de_M_valueOf_54 ?_
    refine lv_aload_n hx hb de_M_valueOf_55 rfl (lv_at hl 0 rfl) ?_
    refine va_get (D := (dC, dI)) (ci := 5) (v := .ref hfigureB) (C := rn_M) (T := tf_M) (N := 24) hx hb hts in_M hown hK hP 0 rfl rfl 19 (by decide) (hts _ wd_662) (fun _ h9 => h9) rfl de_M_valueOf_56 ?_
    refine lv_iload_n hx hb de_M_valueOf_59 rfl (lv_at hl 2 rfl) ?_
    refine qv_lald (k := 2) hx hb hK hP 11 0 rfl rfl (by omega) (by omega) de_M_valueOf_60 ?_
    refine qv_callS (As := [.long ((fweight j) * (ffigureA 2)), .long (ffigureB 2)]) (rest := []) ⟨hx, hb, hml, hown, hts⟩ (ms_near l dC dI cJ cI cZ ((fweight j) * (ffigureA 2)) (ffigureB 2) (hfb (by decide) (by decide))) (cwS 2 hts (gd_S wd_814 wd_815 wd_47 wd_816) rfl rfl rfl (by decide +kernel) ⟨Nat.le_of_ble_eq_true rfl, Nat.le_of_ble_eq_true rfl⟩) rfl hl.1 rfl (Nat.le_of_ble_eq_true rfl) de_M_valueOf_61 ⟨Nat.zero_le _, Nat.zero_le _⟩ ?_
    exact W.lret (v := sm_near ((fweight j) * (ffigureA 2)) (ffigureB 2)) hx hb hr (fun t9 ht9 hW9 => ⟨congrArg (fun z => Outcome.returned (some (Value.long z))) (show (sm_near ((fweight j) * (ffigureA 2)) (ffigureB 2)) = sm_val 2 (sm_trn fweight fprice xlines xweightSum xpriceSum (sm_disc xpriceSum frowDays frowThousandths xday xpaid xrows) fisTold fcents fbyWeights) fweight ffigureA ffigureB (sm_ded (ffigureA 4) (ffigureB 4) fcents) (sm_near (ffigureA 5 * (1000 + ffigureB 5)) 1000 + sm_tol fcents 0 (5 - 0)) (fun a9 j9 => sm_share fweight fprice xlines xweightSum xpriceSum a9 j9 0) j from rfl), ht9⟩) (fun _ h => nomatch h) de_M_valueOf_64
  · refine lv_iload_n hx hb de_M_valueOf_0 rfl (lv_at hl 2 rfl) ?_
    refine lv_tableIn (off := 41) (tgt := 42) hx hb de_M_valueOf_1 (by decide) (by decide) (by decide) (by decide) ?_
    refine lv_aload_n hx hb de_M_valueOf_42 rfl (lv_at hl 0 rfl) ?_
    refine va_get (D := (dC, dI)) (ci := 5) (v := .ref hweight) (C := rn_M) (T := tf_M) (N := 24) hx hb hts in_M hown hK hP 0 rfl rfl 5 (by decide) (hts _ wd_648) (fun _ h9 => h9) rfl de_M_valueOf_43 ?_
    refine lv_iload_n hx hb de_M_valueOf_46 rfl (lv_at hl 1 rfl) ?_
    refine qv_lald (k := j) hx hb hK hP 1 0 rfl rfl (by omega) (by omega) de_M_valueOf_47 ?_
    refine lv_aload_n hx hb de_M_valueOf_48 rfl (lv_at hl 0 rfl) ?_
    refine va_get (D := (dC, dI)) (ci := 5) (v := .ref hfigureA) (C := rn_M) (T := tf_M) (N := 24) hx hb hts in_M hown hK hP 0 rfl rfl 18 (by decide) (hts _ wd_661) (fun _ h9 => h9) rfl de_M_valueOf_49 ?_
    refine lv_iload_n hx hb de_M_valueOf_52 rfl (lv_at hl 2 rfl) ?_
    refine qv_lald (k := 3) hx hb hK hP 10 0 rfl rfl (by omega) (by omega) de_M_valueOf_53 ?_
    refine lv_lmul hx hb de_M_valueOf_54 ?_
    refine lv_aload_n hx hb de_M_valueOf_55 rfl (lv_at hl 0 rfl) ?_
    refine va_get (D := (dC, dI)) (ci := 5) (v := .ref hfigureB) (C := rn_M) (T := tf_M) (N := 24) hx hb hts in_M hown hK hP 0 rfl rfl 19 (by decide) (hts _ wd_662) (fun _ h9 => h9) rfl de_M_valueOf_56 ?_
    refine lv_iload_n hx hb de_M_valueOf_59 rfl (lv_at hl 2 rfl) ?_
    refine qv_lald (k := 3) hx hb hK hP 11 0 rfl rfl (by omega) (by omega) de_M_valueOf_60 ?_
    refine qv_callS (As := [.long ((fweight j) * (ffigureA 3)), .long (ffigureB 3)]) (rest := []) ⟨hx, hb, hml, hown, hts⟩ (ms_near l dC dI cJ cI cZ ((fweight j) * (ffigureA 3)) (ffigureB 3) (hfb (by decide) (by decide))) (cwS 2 hts (gd_S wd_814 wd_815 wd_47 wd_816) rfl rfl rfl (by decide +kernel) ⟨Nat.le_of_ble_eq_true rfl, Nat.le_of_ble_eq_true rfl⟩) rfl hl.1 rfl (Nat.le_of_ble_eq_true rfl) de_M_valueOf_61 ⟨Nat.zero_le _, Nat.zero_le _⟩ ?_
    exact W.lret (v := sm_near ((fweight j) * (ffigureA 3)) (ffigureB 3)) hx hb hr (fun t9 ht9 hW9 => ⟨congrArg (fun z => Outcome.returned (some (Value.long z))) (show (sm_near ((fweight j) * (ffigureA 3)) (ffigureB 3)) = sm_val 3 (sm_trn fweight fprice xlines xweightSum xpriceSum (sm_disc xpriceSum frowDays frowThousandths xday xpaid xrows) fisTold fcents fbyWeights) fweight ffigureA ffigureB (sm_ded (ffigureA 4) (ffigureB 4) fcents) (sm_near (ffigureA 5 * (1000 + ffigureB 5)) 1000 + sm_tol fcents 0 (5 - 0)) (fun a9 j9 => sm_share fweight fprice xlines xweightSum xpriceSum a9 j9 0) j from rfl), ht9⟩) (fun _ h => nomatch h) de_M_valueOf_64
  · refine lv_iload_n hx hb de_M_valueOf_0 rfl (lv_at hl 2 rfl) ?_
    refine lv_tableIn (off := 64) (tgt := 65) hx hb de_M_valueOf_1 (by decide) (by decide) (by decide) (by decide) ?_
    refine lv_aload_n hx hb de_M_valueOf_65 rfl (lv_at hl 0 rfl) ?_
    refine lv_aload_n hx hb de_M_valueOf_66 rfl (lv_at hl 0 rfl) ?_
    refine qv_callR (As := []) (rest := [.ref h]) ⟨hx, hb, hml, hown, hts⟩ (mo_ded l dC dI cJ cI cZ h xthrown xlines xrows xweightSum xpriceSum hweight hprice hisTold hcents hbyWeights hrowDays hrowThousandths xday xpaid hup hdown hcondition hhasFigures hfigureA hfigureB xisRelated xisTurned xtest xband ffigureA ffigureB fcents) (cwV 0 hts (gd_V wd_790 wd_792 wd_22 wd_47 wd_793) rfl rfl rfl (by decide +kernel) ⟨Nat.le_of_ble_eq_true rfl, Nat.le_of_ble_eq_true rfl⟩) hK hP [0, 10, 11, 4] rfl rfl rfl rfl hl.1 rfl (Nat.le_of_ble_eq_true rfl) de_M_valueOf_67 ⟨Nat.zero_le _, Nat.zero_le _⟩ ?_
    refine lv_iload_n hx hb de_M_valueOf_70 rfl (lv_at hl 1 rfl) ?_
    refine lv_iconst (v := 0) hx hb de_M_valueOf_71 (by decide) ?_
    refine qv_callR (As := [.long (sm_ded (ffigureA 4) (ffigureB 4) fcents), .int (nI j), .int 0]) (rest := []) ⟨hx, hb, hml, hown, hts⟩ (mo_shareOf l dC dI cJ cI cZ h xthrown xlines xrows xweightSum xpriceSum hweight hprice hisTold hcents hbyWeights hrowDays hrowThousandths xday xpaid hup hdown hcondition hhasFigures hfigureA hfigureB xisRelated xisTurned xtest xband fweight fprice (sm_ded (ffigureA 4) (ffigureB 4) fcents) j 0 (by omega) (by omega) (by omega)) (cwV 3 hts (gd_V wd_817 wd_819 wd_28 wd_47 wd_820) rfl rfl rfl (by decide +kernel) ⟨Nat.le_of_ble_eq_true rfl, Nat.le_of_ble_eq_true rfl⟩) hK hP [0, 1, 2] rfl rfl rfl rfl hl.1 rfl (Nat.le_of_ble_eq_true rfl) de_M_valueOf_72 ⟨Nat.zero_le _, Nat.zero_le _⟩ ?_
    exact W.lret (v := sm_share fweight fprice xlines xweightSum xpriceSum (sm_ded (ffigureA 4) (ffigureB 4) fcents) j 0) hx hb hr (fun t9 ht9 hW9 => ⟨congrArg (fun z => Outcome.returned (some (Value.long z))) (show (sm_share fweight fprice xlines xweightSum xpriceSum (sm_ded (ffigureA 4) (ffigureB 4) fcents) j 0) = sm_val 4 (sm_trn fweight fprice xlines xweightSum xpriceSum (sm_disc xpriceSum frowDays frowThousandths xday xpaid xrows) fisTold fcents fbyWeights) fweight ffigureA ffigureB (sm_ded (ffigureA 4) (ffigureB 4) fcents) (sm_near (ffigureA 5 * (1000 + ffigureB 5)) 1000 + sm_tol fcents 0 (5 - 0)) (fun a9 j9 => sm_share fweight fprice xlines xweightSum xpriceSum a9 j9 0) j from rfl), ht9⟩) (fun _ h => nomatch h) de_M_valueOf_75
  · refine lv_iload_n hx hb de_M_valueOf_0 rfl (lv_at hl 2 rfl) ?_
    refine lv_tableIn (off := 75) (tgt := 76) hx hb de_M_valueOf_1 (by decide) (by decide) (by decide) (by decide) ?_
    refine lv_aload_n hx hb de_M_valueOf_76 rfl (lv_at hl 0 rfl) ?_
    refine lv_aload_n hx hb de_M_valueOf_77 rfl (lv_at hl 0 rfl) ?_
    refine va_get (D := (dC, dI)) (ci := 5) (v := .ref hfigureA) (C := rn_M) (T := tf_M) (N := 24) hx hb hts in_M hown hK hP 0 rfl rfl 18 (by decide) (hts _ wd_661) (fun _ h9 => h9) rfl de_M_valueOf_78 ?_
    refine lv_iconst (v := 5) hx hb de_M_valueOf_81 (by decide) ?_
    refine qv_lald (k := 5) hx hb hK hP 10 0 rfl rfl (by omega) (by omega) de_M_valueOf_82 ?_
    refine lv_ldc2 (v := 1000) hx hb hown (hts _ wd_748) de_M_valueOf_83 ?_
    refine lv_aload_n hx hb de_M_valueOf_86 rfl (lv_at hl 0 rfl) ?_
    refine va_get (D := (dC, dI)) (ci := 5) (v := .ref hfigureB) (C := rn_M) (T := tf_M) (N := 24) hx hb hts in_M hown hK hP 0 rfl rfl 19 (by decide) (hts _ wd_662) (fun _ h9 => h9) rfl de_M_valueOf_87 ?_
    refine lv_iconst (v := 5) hx hb de_M_valueOf_90 (by decide) ?_
    refine qv_lald (k := 5) hx hb hK hP 11 0 rfl rfl (by omega) (by omega) de_M_valueOf_91 ?_
    refine lv_ladd hx hb de_M_valueOf_92 ?_
    refine lv_lmul hx hb de_M_valueOf_93 ?_
    refine lv_ldc2 (v := 1000) hx hb hown (hts _ wd_748) de_M_valueOf_94 ?_
    refine qv_callS (As := [.long ((ffigureA 5) * (1000 + (ffigureB 5))), .long 1000]) (rest := [.ref h]) ⟨hx, hb, hml, hown, hts⟩ (ms_near l dC dI cJ cI cZ ((ffigureA 5) * (1000 + (ffigureB 5))) 1000 (by decide)) (cwS 2 hts (gd_S wd_814 wd_815 wd_47 wd_816) rfl rfl rfl (by decide +kernel) ⟨Nat.le_of_ble_eq_true rfl, Nat.le_of_ble_eq_true rfl⟩) rfl hl.1 rfl (Nat.le_of_ble_eq_true rfl) de_M_valueOf_97 ⟨Nat.zero_le _, Nat.zero_le _⟩ ?_
    refine lv_aload_n hx hb de_M_valueOf_100 rfl (lv_at hl 0 rfl) ?_
    refine lv_iconst (v := 0) hx hb de_M_valueOf_101 (by decide) ?_
    refine lv_iconst (v := 5) hx hb de_M_valueOf_102 (by decide) ?_
    refine qv_callR (As := [.int 0, .int 5]) (rest := [.long (sm_near ((ffigureA 5) * (1000 + (ffigureB 5))) 1000), .ref h]) ⟨hx, hb, hml, hown, hts⟩ (mo_told l dC dI cJ cI cZ h xthrown xlines xrows xweightSum xpriceSum hweight hprice hisTold hcents hbyWeights hrowDays hrowThousandths xday xpaid hup hdown hcondition hhasFigures hfigureA hfigureB xisRelated xisTurned xtest xband fcents 0 5 (by decide) (by decide)) (cwV 2 hts (gd_V wd_794 wd_796 wd_23 wd_47 wd_797) rfl rfl rfl (by decide +kernel) ⟨Nat.le_of_ble_eq_true rfl, Nat.le_of_ble_eq_true rfl⟩) hK hP [0, 4] rfl rfl rfl rfl hl.1 rfl (Nat.le_of_ble_eq_true rfl) de_M_valueOf_103 ⟨Nat.zero_le _, Nat.zero_le _⟩ ?_
    refine lv_ladd hx hb de_M_valueOf_106 ?_
    refine lv_iload_n hx hb de_M_valueOf_107 rfl (lv_at hl 1 rfl) ?_
    refine lv_iconst (v := 0) hx hb de_M_valueOf_108 (by decide) ?_
    refine qv_callR (As := [.long ((sm_near ((ffigureA 5) * (1000 + (ffigureB 5))) 1000) + (sm_tol fcents 0 (5 - 0))), .int (nI j), .int 0]) (rest := []) ⟨hx, hb, hml, hown, hts⟩ (mo_shareOf l dC dI cJ cI cZ h xthrown xlines xrows xweightSum xpriceSum hweight hprice hisTold hcents hbyWeights hrowDays hrowThousandths xday xpaid hup hdown hcondition hhasFigures hfigureA hfigureB xisRelated xisTurned xtest xband fweight fprice ((sm_near ((ffigureA 5) * (1000 + (ffigureB 5))) 1000) + (sm_tol fcents 0 (5 - 0))) j 0 (by omega) (by omega) (by omega)) (cwV 3 hts (gd_V wd_817 wd_819 wd_28 wd_47 wd_820) rfl rfl rfl (by decide +kernel) ⟨Nat.le_of_ble_eq_true rfl, Nat.le_of_ble_eq_true rfl⟩) hK hP [0, 1, 2] rfl rfl rfl rfl hl.1 rfl (Nat.le_of_ble_eq_true rfl) de_M_valueOf_109 ⟨Nat.zero_le _, Nat.zero_le _⟩ ?_
    exact W.lret (v := sm_share fweight fprice xlines xweightSum xpriceSum ((sm_near ((ffigureA 5) * (1000 + (ffigureB 5))) 1000) + (sm_tol fcents 0 (5 - 0))) j 0) hx hb hr (fun t9 ht9 hW9 => ⟨congrArg (fun z => Outcome.returned (some (Value.long z))) (show (sm_share fweight fprice xlines xweightSum xpriceSum ((sm_near ((ffigureA 5) * (1000 + (ffigureB 5))) 1000) + (sm_tol fcents 0 (5 - 0))) j 0) = sm_val 5 (sm_trn fweight fprice xlines xweightSum xpriceSum (sm_disc xpriceSum frowDays frowThousandths xday xpaid xrows) fisTold fcents fbyWeights) fweight ffigureA ffigureB (sm_ded (ffigureA 4) (ffigureB 4) fcents) (sm_near (ffigureA 5 * (1000 + ffigureB 5)) 1000 + sm_tol fcents 0 (5 - 0)) (fun a9 j9 => sm_share fweight fprice xlines xweightSum xpriceSum a9 j9 0) j from rfl), ht9⟩) (fun _ h => nomatch h) de_M_valueOf_112
  · refine lv_iload_n hx hb de_M_valueOf_0 rfl (lv_at hl 2 rfl) ?_
    refine lv_tableOut (tgt := 113) hx hb de_M_valueOf_1 (by decide) (by decide) ?_
    refine lv_aload_n hx hb de_M_valueOf_113 rfl (lv_at hl 0 rfl) ?_
    refine lv_aload_n hx hb de_M_valueOf_114 rfl (lv_at hl 0 rfl) ?_
    refine va_get (D := (dC, dI)) (ci := 5) (v := .ref hfigureA) (C := rn_M) (T := tf_M) (N := 24) hx hb hts in_M hown hK hP 0 rfl rfl 18 (by decide) (hts _ wd_661) (fun _ h9 => h9) rfl de_M_valueOf_115 ?_
    refine lv_bipush (v := 6) hx hb de_M_valueOf_118 (by decide) ?_
    refine qv_lald (k := 6) hx hb hK hP 10 0 rfl rfl (by omega) (by omega) de_M_valueOf_120 ?_
    refine lv_iload_n hx hb de_M_valueOf_121 rfl (lv_at hl 1 rfl) ?_
    refine lv_iconst (v := 0) hx hb de_M_valueOf_122 (by decide) ?_
    refine qv_callR (As := [.long (ffigureA 6), .int (nI j), .int 0]) (rest := []) ⟨hx, hb, hml, hown, hts⟩ (mo_shareOf l dC dI cJ cI cZ h xthrown xlines xrows xweightSum xpriceSum hweight hprice hisTold hcents hbyWeights hrowDays hrowThousandths xday xpaid hup hdown hcondition hhasFigures hfigureA hfigureB xisRelated xisTurned xtest xband fweight fprice (ffigureA 6) j 0 (by omega) (by omega) (by omega)) (cwV 3 hts (gd_V wd_817 wd_819 wd_28 wd_47 wd_820) rfl rfl rfl (by decide +kernel) ⟨Nat.le_of_ble_eq_true rfl, Nat.le_of_ble_eq_true rfl⟩) hK hP [0, 1, 2] rfl rfl rfl rfl hl.1 rfl (Nat.le_of_ble_eq_true rfl) de_M_valueOf_123 ⟨Nat.zero_le _, Nat.zero_le _⟩ ?_
    exact W.lret (v := sm_share fweight fprice xlines xweightSum xpriceSum (ffigureA 6) j 0) hx hb hr (fun t9 ht9 hW9 => ⟨congrArg (fun z => Outcome.returned (some (Value.long z))) (show (sm_share fweight fprice xlines xweightSum xpriceSum (ffigureA 6) j 0) = sm_val 6 (sm_trn fweight fprice xlines xweightSum xpriceSum (sm_disc xpriceSum frowDays frowThousandths xday xpaid xrows) fisTold fcents fbyWeights) fweight ffigureA ffigureB (sm_ded (ffigureA 4) (ffigureB 4) fcents) (sm_near (ffigureA 5 * (1000 + ffigureB 5)) 1000 + sm_tol fcents 0 (5 - 0)) (fun a9 j9 => sm_share fweight fprice xlines xweightSum xpriceSum a9 j9 0) j from rfl), ht9⟩) (fun _ h => nomatch h) de_M_valueOf_126
set_option maxHeartbeats 4000000 in
set_option maxRecDepth 100000 in
/-- isOwn -/
theorem mo_isOwn (l : Launch) (dC : Nat → ClassId) (dI : Nat → Nat → Nat) (cJ cI cZ : Nat) (h : Nat) (xthrown : Int32) (xlines : Nat) (xrows : Nat) (xweightSum : Int64) (xpriceSum : Int64) (hweight : Nat) (hprice : Nat) (hisTold : Nat) (hcents : Nat) (hbyWeights : Nat) (hrowDays : Nat) (hrowThousandths : Nat) (xday : Nat) (xpaid : Nat) (hup : Nat) (hdown : Nat) (hcondition : Nat) (hhasFigures : Nat) (hfigureA : Nat) (hfigureB : Nat) (xisRelated : Int32) (xisTurned : Int32) (xtest : Int64) (xband : Int32) (fup : Nat → Int32) (k : Int32) (hd : xday < 360) : Met l yn_M_isOwn ws_M_isOwn ({ frames := 0, cells := 0, slots := 0, locals := 0 }) (va_Pc [.ref h, .int k] (qv_ro (dC, dI) cls_t [(h, .inr (5, [.int xthrown, .int (nI xlines), .int (nI xrows), .long xweightSum, .long xpriceSum, .ref hweight, .ref hprice, .ref hisTold, .ref hcents, .ref hbyWeights, .ref hrowDays, .ref hrowThousandths, .int (nI xday), .int (nI xpaid), .ref hup, .ref hdown, .ref hcondition, .ref hhasFigures, .ref hfigureA, .ref hfigureB, .int xisRelated, .int xisTurned, .long xtest, .int xband])), (hup, .inl (cI, 12, .inl fup))] [(cJ, .long), (cI, .int), (cZ, .boolean)])) (k2_QcV (.int (sm_own k (fup (xday / 30))))) 0 0 (fun _ => False) := by
  refine Met.ofW (cc := by_M_isOwn) (maxL := 2) (ret := (some .boolean)) (by decide) rfl ?_
  intro p e s m args below meth c s₁ B hml hv
  obtain ⟨rfl, hP, hK⟩ := hv
  have hx := B.exec
  have hb := B.bytes
  have hr := B.returns
  have hts := fun (w : Cond) (h : w ∈ lw_gt) => atoms_spec (ws := ws_M_isOwn) B.pre w (List.mem_cons_of_mem _ h)
  have hown : s.vm.findClass rn_M = some m.cls := findClass_of_methodNamed B.named
  have hlocks := B.notSynchronized
  have hP : va_P (dC, dI) cls_t [(h, .inr (5, [.int xthrown, .int (nI xlines), .int (nI xrows), .long xweightSum, .long xpriceSum, .ref hweight, .ref hprice, .ref hisTold, .ref hcents, .ref hbyWeights, .ref hrowDays, .ref hrowThousandths, .int (nI xday), .int (nI xpaid), .ref hup, .ref hdown, .ref hcondition, .ref hhasFigures, .ref hfigureA, .ref hfigureB, .int xisRelated, .int xisTurned, .long xtest, .int xband])), (hup, .inl (cI, 12, .inl fup))] s.heap := hP
  have hl := lv_entry ([.ref h, .int k]) (n := 2) (Nat.le_of_ble_eq_true rfl)
  rw [lg_entry_eq]
  generalize (lg_sl ([.ref h, .int k]) ++ List.replicate (2 - (lg_sl ([.ref h, .int k])).length) Slot.unset).toArray = ls at hl ⊢
  have hl : lv_has ls 2 [(0, .ref h), (1, .int k)] := hl
  refine lv_iload_n hx hb de_M_isOwn_0 rfl (lv_at hl 1 rfl) ?_
  refine lv_iconst (v := 4) hx hb de_M_isOwn_1 (by decide) ?_
  refine lv_icmp_eq (tgt := 25) hx hb de_M_isOwn_2 (by decide) (fun c_1 => ?_) (fun c_1 => ?_)
  · refine lv_iconst (v := 1) hx hb de_M_isOwn_25 (by decide) ?_
    refine lv_goto (tgt := 30) hx hb de_M_isOwn_26 (by decide) ?_
    exact W.zret (v := 1) hx hb hr rfl (fun t9 ht9 hW9 => ⟨congrArg (fun z => Outcome.returned (some (Value.int z))) (show 1 = (sm_own k (fup (xday / 30))) from by simp only [sm_own, if_pos c_1]), ht9⟩) (fun _ h => nomatch h) de_M_isOwn_30
  · refine lv_iload_n hx hb de_M_isOwn_5 rfl (lv_at hl 1 rfl) ?_
    refine lv_iconst (v := 5) hx hb de_M_isOwn_6 (by decide) ?_
    refine lv_icmp_eq (tgt := 25) hx hb de_M_isOwn_7 (by decide) (fun c_2 => ?_) (fun c_2 => ?_)
    · refine lv_iconst (v := 1) hx hb de_M_isOwn_25 (by decide) ?_
      refine lv_goto (tgt := 30) hx hb de_M_isOwn_26 (by decide) ?_
      exact W.zret (v := 1) hx hb hr rfl (fun t9 ht9 hW9 => ⟨congrArg (fun z => Outcome.returned (some (Value.int z))) (show 1 = (sm_own k (fup (xday / 30))) from by simp only [sm_own, if_neg c_1, if_pos c_2]), ht9⟩) (fun _ h => nomatch h) de_M_isOwn_30
    · refine lv_aload_n hx hb de_M_isOwn_10 rfl (lv_at hl 0 rfl) ?_
      refine va_get (D := (dC, dI)) (ci := 5) (v := .ref hup) (C := rn_M) (T := tf_M) (N := 24) hx hb hts in_M hown hK hP 0 rfl rfl 14 (by decide) (hts _ wd_657) (fun _ h9 => h9) rfl de_M_isOwn_11 ?_
      refine lv_aload_n hx hb de_M_isOwn_14 rfl (lv_at hl 0 rfl) ?_
      refine va_get (D := (dC, dI)) (ci := 5) (v := .int (nI xday)) (C := rn_M) (T := tf_M) (N := 24) hx hb hts in_M hown hK hP 0 rfl rfl 12 (by decide) (hts _ wd_655) (fun _ h9 => h9) rfl de_M_isOwn_15 ?_
      refine lv_bipush (v := 30) hx hb de_M_isOwn_18 (by decide) ?_
      refine lv_idiv hx hb de_M_isOwn_20 (by decide) ?_
      rw [show nI xday / 30 = nI (xday / 30) from pk_div (d := 30) (by omega) (by decide) (by decide)]
      refine qv_iald (k := (xday / 30)) hx hb hK hP 1 1 rfl rfl (by omega) (by omega) de_M_isOwn_21 ?_
      refine lv_if_ne (tgt := 29) hx hb de_M_isOwn_22 (by decide) (fun c_3 => ?_) (fun c_3 => ?_)
      · refine lv_iconst (v := 0) hx hb de_M_isOwn_29 (by decide) ?_
        exact W.zret (v := 0) hx hb hr rfl (fun t9 ht9 hW9 => ⟨congrArg (fun z => Outcome.returned (some (Value.int z))) (show 0 = (sm_own k (fup (xday / 30))) from by simp only [sm_own, if_neg c_1, if_neg c_2, if_neg c_3]), ht9⟩) (fun _ h => nomatch h) de_M_isOwn_30
      · refine lv_iconst (v := 1) hx hb de_M_isOwn_25 (by decide) ?_
        refine lv_goto (tgt := 30) hx hb de_M_isOwn_26 (by decide) ?_
        exact W.zret (v := 1) hx hb hr rfl (fun t9 ht9 hW9 => ⟨congrArg (fun z => Outcome.returned (some (Value.int z))) (show 1 = (sm_own k (fup (xday / 30))) from by simp only [sm_own, if_neg c_1, if_neg c_2, if_pos c_3]), ht9⟩) (fun _ h => nomatch h) de_M_isOwn_30
set_option maxHeartbeats 4000000 in
set_option maxRecDepth 100000 in
/-- upOf -/
theorem mo_upOf (l : Launch) (dC : Nat → ClassId) (dI : Nat → Nat → Nat) (cJ cI cZ : Nat) (h : Nat) (xthrown : Int32) (xlines : Nat) (xrows : Nat) (xweightSum : Int64) (xpriceSum : Int64) (hweight : Nat) (hprice : Nat) (hisTold : Nat) (hcents : Nat) (hbyWeights : Nat) (hrowDays : Nat) (hrowThousandths : Nat) (xday : Nat) (xpaid : Nat) (hup : Nat) (hdown : Nat) (hcondition : Nat) (hhasFigures : Nat) (hfigureA : Nat) (hfigureB : Nat) (xisRelated : Int32) (xisTurned : Int32) (xtest : Int64) (xband : Int32) (fup : Nat → Int32) (k : Int32) (hd : xday < 360) : Met l yn_M_upOf ws_M_upOf ({ frames := 1, cells := 0, slots := 0, locals := 21 }) (va_Pc [.ref h, .int k] (qv_ro (dC, dI) cls_t [(h, .inr (5, [.int xthrown, .int (nI xlines), .int (nI xrows), .long xweightSum, .long xpriceSum, .ref hweight, .ref hprice, .ref hisTold, .ref hcents, .ref hbyWeights, .ref hrowDays, .ref hrowThousandths, .int (nI xday), .int (nI xpaid), .ref hup, .ref hdown, .ref hcondition, .ref hhasFigures, .ref hfigureA, .ref hfigureB, .int xisRelated, .int xisTurned, .long xtest, .int xband])), (hup, .inl (cI, 12, .inl fup))] [(cJ, .long), (cI, .int), (cZ, .boolean)])) (k2_QcV (.long (sm_upx k (fup (xday / 30)) (fup (xday / 30))))) 0 0 (fun _ => False) := by
  refine Met.ofW (cc := by_M_upOf) (maxL := 2) (ret := (some .long)) (by decide) rfl ?_
  intro p e s m args below meth c s₁ B hml hv
  obtain ⟨rfl, hP, hK⟩ := hv
  have hx := B.exec
  have hb := B.bytes
  have hr := B.returns
  have hts := fun (w : Cond) (h : w ∈ lw_gt) => atoms_spec (ws := ws_M_upOf) B.pre w (List.mem_cons_of_mem _ h)
  have hown : s.vm.findClass rn_M = some m.cls := findClass_of_methodNamed B.named
  have hlocks := B.notSynchronized
  have hP : va_P (dC, dI) cls_t [(h, .inr (5, [.int xthrown, .int (nI xlines), .int (nI xrows), .long xweightSum, .long xpriceSum, .ref hweight, .ref hprice, .ref hisTold, .ref hcents, .ref hbyWeights, .ref hrowDays, .ref hrowThousandths, .int (nI xday), .int (nI xpaid), .ref hup, .ref hdown, .ref hcondition, .ref hhasFigures, .ref hfigureA, .ref hfigureB, .int xisRelated, .int xisTurned, .long xtest, .int xband])), (hup, .inl (cI, 12, .inl fup))] s.heap := hP
  have hl := lv_entry ([.ref h, .int k]) (n := 2) (Nat.le_of_ble_eq_true rfl)
  rw [lg_entry_eq]
  generalize (lg_sl ([.ref h, .int k]) ++ List.replicate (2 - (lg_sl ([.ref h, .int k])).length) Slot.unset).toArray = ls at hl ⊢
  have hl : lv_has ls 2 [(0, .ref h), (1, .int k)] := hl
  refine lv_aload_n hx hb de_M_upOf_0 rfl (lv_at hl 0 rfl) ?_
  refine lv_iload_n hx hb de_M_upOf_1 rfl (lv_at hl 1 rfl) ?_
  refine qv_callR (As := [.int k]) (rest := []) ⟨hx, hb, hml, hown, hts⟩ (mo_isOwn l dC dI cJ cI cZ h xthrown xlines xrows xweightSum xpriceSum hweight hprice hisTold hcents hbyWeights hrowDays hrowThousandths xday xpaid hup hdown hcondition hhasFigures hfigureA hfigureB xisRelated xisTurned xtest xband fup k (by omega)) (cwV 1 hts (gd_V wd_865 wd_867 wd_39 wd_47 wd_868) rfl rfl rfl (by decide +kernel) ⟨Nat.le_of_ble_eq_true rfl, Nat.le_of_ble_eq_true rfl⟩) hK hP [0, 1] rfl rfl rfl rfl hl.1 rfl (Nat.le_of_ble_eq_true rfl) de_M_upOf_2 ⟨Nat.zero_le _, Nat.zero_le _⟩ ?_
  refine lv_if_eq (tgt := 12) hx hb de_M_upOf_5 (by decide) (fun c_1 => ?_) (fun c_1 => ?_)
  · refine lv_aload_n hx hb de_M_upOf_12 rfl (lv_at hl 0 rfl) ?_
    refine va_get (D := (dC, dI)) (ci := 5) (v := .ref hup) (C := rn_M) (T := tf_M) (N := 24) hx hb hts in_M hown hK hP 0 rfl rfl 14 (by decide) (hts _ wd_657) (fun _ h9 => h9) rfl de_M_upOf_13 ?_
    refine lv_aload_n hx hb de_M_upOf_16 rfl (lv_at hl 0 rfl) ?_
    refine va_get (D := (dC, dI)) (ci := 5) (v := .int (nI xday)) (C := rn_M) (T := tf_M) (N := 24) hx hb hts in_M hown hK hP 0 rfl rfl 12 (by decide) (hts _ wd_655) (fun _ h9 => h9) rfl de_M_upOf_17 ?_
    refine lv_bipush (v := 30) hx hb de_M_upOf_20 (by decide) ?_
    refine lv_idiv hx hb de_M_upOf_22 (by decide) ?_
    rw [show nI xday / 30 = nI (xday / 30) from pk_div (d := 30) (by omega) (by decide) (by decide)]
    refine qv_iald (k := (xday / 30)) hx hb hK hP 1 1 rfl rfl (by omega) (by omega) de_M_upOf_23 ?_
    refine lv_i2l (v := (fup (xday / 30)).toInt64) hx hb de_M_upOf_24 rfl ?_
    exact W.lret (v := (fup (xday / 30)).toInt64) hx hb hr (fun t9 ht9 hW9 => ⟨congrArg (fun z => Outcome.returned (some (Value.long z))) (show ((fup (xday / 30)).toInt64) = (sm_upx k (fup (xday / 30)) (fup (xday / 30))) from by simp only [sm_upx, if_pos c_1]), ht9⟩) (fun _ h => nomatch h) de_M_upOf_25
  · refine lv_lconst (v := 1) hx hb de_M_upOf_8 (by decide) ?_
    refine lv_goto (tgt := 25) hx hb de_M_upOf_9 (by decide) ?_
    exact W.lret (v := 1) hx hb hr (fun t9 ht9 hW9 => ⟨congrArg (fun z => Outcome.returned (some (Value.long z))) (show 1 = (sm_upx k (fup (xday / 30)) (fup (xday / 30))) from by simp only [sm_upx, if_neg c_1]), ht9⟩) (fun _ h => nomatch h) de_M_upOf_25
set_option maxHeartbeats 4000000 in
set_option maxRecDepth 100000 in
/-- downOf -/
theorem mo_downOf (l : Launch) (dC : Nat → ClassId) (dI : Nat → Nat → Nat) (cJ cI cZ : Nat) (h : Nat) (xthrown : Int32) (xlines : Nat) (xrows : Nat) (xweightSum : Int64) (xpriceSum : Int64) (hweight : Nat) (hprice : Nat) (hisTold : Nat) (hcents : Nat) (hbyWeights : Nat) (hrowDays : Nat) (hrowThousandths : Nat) (xday : Nat) (xpaid : Nat) (hup : Nat) (hdown : Nat) (hcondition : Nat) (hhasFigures : Nat) (hfigureA : Nat) (hfigureB : Nat) (xisRelated : Int32) (xisTurned : Int32) (xtest : Int64) (xband : Int32) (fup : Nat → Int32) (fdown : Nat → Int32) (k : Int32) (hd : xday < 360) : Met l yn_M_downOf ws_M_downOf ({ frames := 1, cells := 0, slots := 0, locals := 21 }) (va_Pc [.ref h, .int k] (qv_ro (dC, dI) cls_t [(h, .inr (5, [.int xthrown, .int (nI xlines), .int (nI xrows), .long xweightSum, .long xpriceSum, .ref hweight, .ref hprice, .ref hisTold, .ref hcents, .ref hbyWeights, .ref hrowDays, .ref hrowThousandths, .int (nI xday), .int (nI xpaid), .ref hup, .ref hdown, .ref hcondition, .ref hhasFigures, .ref hfigureA, .ref hfigureB, .int xisRelated, .int xisTurned, .long xtest, .int xband])), (hup, .inl (cI, 12, .inl fup)), (hdown, .inl (cI, 12, .inl fdown))] [(cJ, .long), (cI, .int), (cZ, .boolean)])) (k2_QcV (.long (sm_upx k (fup (xday / 30)) (fdown (xday / 30))))) 0 0 (fun _ => False) := by
  refine Met.ofW (cc := by_M_downOf) (maxL := 2) (ret := (some .long)) (by decide) rfl ?_
  intro p e s m args below meth c s₁ B hml hv
  obtain ⟨rfl, hP, hK⟩ := hv
  have hx := B.exec
  have hb := B.bytes
  have hr := B.returns
  have hts := fun (w : Cond) (h : w ∈ lw_gt) => atoms_spec (ws := ws_M_downOf) B.pre w (List.mem_cons_of_mem _ h)
  have hown : s.vm.findClass rn_M = some m.cls := findClass_of_methodNamed B.named
  have hlocks := B.notSynchronized
  have hP : va_P (dC, dI) cls_t [(h, .inr (5, [.int xthrown, .int (nI xlines), .int (nI xrows), .long xweightSum, .long xpriceSum, .ref hweight, .ref hprice, .ref hisTold, .ref hcents, .ref hbyWeights, .ref hrowDays, .ref hrowThousandths, .int (nI xday), .int (nI xpaid), .ref hup, .ref hdown, .ref hcondition, .ref hhasFigures, .ref hfigureA, .ref hfigureB, .int xisRelated, .int xisTurned, .long xtest, .int xband])), (hup, .inl (cI, 12, .inl fup)), (hdown, .inl (cI, 12, .inl fdown))] s.heap := hP
  have hl := lv_entry ([.ref h, .int k]) (n := 2) (Nat.le_of_ble_eq_true rfl)
  rw [lg_entry_eq]
  generalize (lg_sl ([.ref h, .int k]) ++ List.replicate (2 - (lg_sl ([.ref h, .int k])).length) Slot.unset).toArray = ls at hl ⊢
  have hl : lv_has ls 2 [(0, .ref h), (1, .int k)] := hl
  refine lv_aload_n hx hb de_M_downOf_0 rfl (lv_at hl 0 rfl) ?_
  refine lv_iload_n hx hb de_M_downOf_1 rfl (lv_at hl 1 rfl) ?_
  refine qv_callR (As := [.int k]) (rest := []) ⟨hx, hb, hml, hown, hts⟩ (mo_isOwn l dC dI cJ cI cZ h xthrown xlines xrows xweightSum xpriceSum hweight hprice hisTold hcents hbyWeights hrowDays hrowThousandths xday xpaid hup hdown hcondition hhasFigures hfigureA hfigureB xisRelated xisTurned xtest xband fup k (by omega)) (cwV 1 hts (gd_V wd_865 wd_867 wd_39 wd_47 wd_868) rfl rfl rfl (by decide +kernel) ⟨Nat.le_of_ble_eq_true rfl, Nat.le_of_ble_eq_true rfl⟩) hK hP [0, 1] rfl rfl rfl rfl hl.1 rfl (Nat.le_of_ble_eq_true rfl) de_M_downOf_2 ⟨Nat.zero_le _, Nat.zero_le _⟩ ?_
  refine lv_if_eq (tgt := 12) hx hb de_M_downOf_5 (by decide) (fun c_1 => ?_) (fun c_1 => ?_)
  · refine lv_aload_n hx hb de_M_downOf_12 rfl (lv_at hl 0 rfl) ?_
    refine va_get (D := (dC, dI)) (ci := 5) (v := .ref hdown) (C := rn_M) (T := tf_M) (N := 24) hx hb hts in_M hown hK hP 0 rfl rfl 15 (by decide) (hts _ wd_658) (fun _ h9 => h9) rfl de_M_downOf_13 ?_
    refine lv_aload_n hx hb de_M_downOf_16 rfl (lv_at hl 0 rfl) ?_
    refine va_get (D := (dC, dI)) (ci := 5) (v := .int (nI xday)) (C := rn_M) (T := tf_M) (N := 24) hx hb hts in_M hown hK hP 0 rfl rfl 12 (by decide) (hts _ wd_655) (fun _ h9 => h9) rfl de_M_downOf_17 ?_
    refine lv_bipush (v := 30) hx hb de_M_downOf_20 (by decide) ?_
    refine lv_idiv hx hb de_M_downOf_22 (by decide) ?_
    rw [show nI xday / 30 = nI (xday / 30) from pk_div (d := 30) (by omega) (by decide) (by decide)]
    refine qv_iald (k := (xday / 30)) hx hb hK hP 2 1 rfl rfl (by omega) (by omega) de_M_downOf_23 ?_
    refine lv_i2l (v := (fdown (xday / 30)).toInt64) hx hb de_M_downOf_24 rfl ?_
    exact W.lret (v := (fdown (xday / 30)).toInt64) hx hb hr (fun t9 ht9 hW9 => ⟨congrArg (fun z => Outcome.returned (some (Value.long z))) (show ((fdown (xday / 30)).toInt64) = (sm_upx k (fup (xday / 30)) (fdown (xday / 30))) from by simp only [sm_upx, if_pos c_1]), ht9⟩) (fun _ h => nomatch h) de_M_downOf_25
  · refine lv_lconst (v := 1) hx hb de_M_downOf_8 (by decide) ?_
    refine lv_goto (tgt := 25) hx hb de_M_downOf_9 (by decide) ?_
    exact W.lret (v := 1) hx hb hr (fun t9 ht9 hW9 => ⟨congrArg (fun z => Outcome.returned (some (Value.long z))) (show 1 = (sm_upx k (fup (xday / 30)) (fdown (xday / 30))) from by simp only [sm_upx, if_neg c_1]), ht9⟩) (fun _ h => nomatch h) de_M_downOf_25
set_option maxHeartbeats 4000000 in
set_option maxRecDepth 100000 in
/-- valueSum -/
theorem mo_vsum (l : Launch) (dC : Nat → ClassId) (dI : Nat → Nat → Nat) (cJ cI cZ : Nat) (h : Nat) (xthrown : Int32) (xlines : Nat) (xrows : Nat) (xweightSum : Int64) (xpriceSum : Int64) (hweight : Nat) (hprice : Nat) (hisTold : Nat) (hcents : Nat) (hbyWeights : Nat) (hrowDays : Nat) (hrowThousandths : Nat) (xday : Nat) (xpaid : Nat) (hup : Nat) (hdown : Nat) (hcondition : Nat) (hhasFigures : Nat) (hfigureA : Nat) (hfigureB : Nat) (xisRelated : Int32) (xisTurned : Int32) (xtest : Int64) (xband : Int32) (fweight : Nat → Int64) (fprice : Nat → Int64) (fisTold : Nat → Int32) (fcents : Nat → Int64) (fbyWeights : Nat → Int32) (frowDays : Nat → Int32) (frowThousandths : Nat → Int32) (fcondition : Nat → Int32) (fhasFigures : Nat → Int32) (ffigureA : Nat → Int64) (ffigureB : Nat → Int64) (k : Nat) (hn : xlines ≤ 40) (hrw : xrows ≤ 10) (hk1 : 1 ≤ k) (hk6 : k ≤ 6) (hfb : 2 ≤ k → k ≤ 3 → ¬ ffigureB k = 0) : Met l yn_M_valueSum ws_M_valueSum ({ frames := 5, cells := 0, slots := 0, locals := 124 }) (va_Pc [.ref h, .int (nI k)] (qv_ro (dC, dI) cls_t [(h, .inr (5, [.int xthrown, .int (nI xlines), .int (nI xrows), .long xweightSum, .long xpriceSum, .ref hweight, .ref hprice, .ref hisTold, .ref hcents, .ref hbyWeights, .ref hrowDays, .ref hrowThousandths, .int (nI xday), .int (nI xpaid), .ref hup, .ref hdown, .ref hcondition, .ref hhasFigures, .ref hfigureA, .ref hfigureB, .int xisRelated, .int xisTurned, .long xtest, .int xband])), (hweight, .inl (cJ, 40, .inr (.inl fweight))), (hprice, .inl (cJ, 40, .inr (.inl fprice))), (hisTold, .inl (cZ, 9, .inl fisTold)), (hcents, .inl (cJ, 9, .inr (.inl fcents))), (hbyWeights, .inl (cZ, 9, .inl fbyWeights)), (hrowDays, .inl (cI, 10, .inl frowDays)), (hrowThousandths, .inl (cI, 10, .inl frowThousandths)), (hcondition, .inl (cZ, 7, .inl fcondition)), (hhasFigures, .inl (cZ, 7, .inl fhasFigures)), (hfigureA, .inl (cJ, 7, .inr (.inl ffigureA))), (hfigureB, .inl (cJ, 7, .inr (.inl ffigureB)))] [(cJ, .long), (cI, .int), (cZ, .boolean)])) (k2_QcV (.long (sp_sum (sm_val k (sm_trn fweight fprice xlines xweightSum xpriceSum (sm_disc xpriceSum frowDays frowThousandths xday xpaid xrows) fisTold fcents fbyWeights) fweight ffigureA ffigureB (sm_ded (ffigureA 4) (ffigureB 4) fcents) (sm_near (ffigureA 5 * (1000 + ffigureB 5)) 1000 + sm_tol fcents 0 (5 - 0)) (fun a9 j9 => sm_share fweight fprice xlines xweightSum xpriceSum a9 j9 0)) xlines))) 0 0 (fun _ => False) := by
  refine Met.ofW (cc := by_M_valueSum) (maxL := 5) (ret := (some .long)) (by decide) rfl ?_
  intro p e s m args below meth c s₁ B hml hv
  obtain ⟨rfl, hP, hK⟩ := hv
  have hx := B.exec
  have hb := B.bytes
  have hr := B.returns
  have hts := fun (w : Cond) (h : w ∈ lw_gt) => atoms_spec (ws := ws_M_valueSum) B.pre w (List.mem_cons_of_mem _ h)
  have hown : s.vm.findClass rn_M = some m.cls := findClass_of_methodNamed B.named
  have hlocks := B.notSynchronized
  have hP : va_P (dC, dI) cls_t [(h, .inr (5, [.int xthrown, .int (nI xlines), .int (nI xrows), .long xweightSum, .long xpriceSum, .ref hweight, .ref hprice, .ref hisTold, .ref hcents, .ref hbyWeights, .ref hrowDays, .ref hrowThousandths, .int (nI xday), .int (nI xpaid), .ref hup, .ref hdown, .ref hcondition, .ref hhasFigures, .ref hfigureA, .ref hfigureB, .int xisRelated, .int xisTurned, .long xtest, .int xband])), (hweight, .inl (cJ, 40, .inr (.inl fweight))), (hprice, .inl (cJ, 40, .inr (.inl fprice))), (hisTold, .inl (cZ, 9, .inl fisTold)), (hcents, .inl (cJ, 9, .inr (.inl fcents))), (hbyWeights, .inl (cZ, 9, .inl fbyWeights)), (hrowDays, .inl (cI, 10, .inl frowDays)), (hrowThousandths, .inl (cI, 10, .inl frowThousandths)), (hcondition, .inl (cZ, 7, .inl fcondition)), (hhasFigures, .inl (cZ, 7, .inl fhasFigures)), (hfigureA, .inl (cJ, 7, .inr (.inl ffigureA))), (hfigureB, .inl (cJ, 7, .inr (.inl ffigureB)))] s.heap := hP
  have hl := lv_entry ([.ref h, .int (nI k)]) (n := 5) (Nat.le_of_ble_eq_true rfl)
  rw [lg_entry_eq]
  generalize (lg_sl ([.ref h, .int (nI k)]) ++ List.replicate (5 - (lg_sl ([.ref h, .int (nI k)])).length) Slot.unset).toArray = ls at hl ⊢
  have hl : lv_has ls 5 [(0, .ref h), (1, .int (nI k))] := hl
  refine lv_lconst (v := 0) hx hb de_M_valueSum_0 (by decide) ?_
  refine lv_lstore_n (lv' := [(2, .long 0), (0, .ref h), (1, .int (nI k))]) hx hb de_M_valueSum_1 rfl hl (by decide) rfl (fun ls hl => ?_)
  refine lv_iconst (v := 0) hx hb de_M_valueSum_2 (by decide) ?_
  refine lv_istore (lv' := [(4, .int 0), (2, .long 0), (0, .ref h), (1, .int (nI k))]) hx hb de_M_valueSum_3 hl (by decide) rfl (fun ls hl => ?_)
  refine qv_loop (N := xlines) (i0 := 0) (fun i H locs ls => H = s.heap ∧ locs = [] ∧ lv_has ls 5 [(4, .int (nI i)), (2, .long (sp_sum (sm_val k (sm_trn fweight fprice xlines xweightSum xpriceSum (sm_disc xpriceSum frowDays frowThousandths xday xpaid xrows) fisTold fcents fbyWeights) fweight ffigureA ffigureB (sm_ded (ffigureA 4) (ffigureB 4) fcents) (sm_near (ffigureA 5 * (1000 + ffigureB 5)) 1000 + sm_tol fcents 0 (5 - 0)) (fun a9 j9 => sm_share fweight fprice xlines xweightSum xpriceSum a9 j9 0)) i)), (0, .ref h), (1, .int (nI k))]) (Nat.zero_le _) ⟨rfl, rfl, lv_sub hl [0, 1, 2, 3] rfl⟩ (fun i H locs ls hi_5 hI hk_5 => ?_) (fun H locs ls hI => ?_)
  · obtain ⟨rfl, rfl, hl⟩ := hI
    refine lv_iload hx hb de_M_valueSum_5 (lv_at hl 0 rfl) ?_
    refine lv_aload_n hx hb de_M_valueSum_7 rfl (lv_at hl 2 rfl) ?_
    refine va_get (D := (dC, dI)) (ci := 5) (v := .int (nI xlines)) (C := rn_M) (T := tf_M) (N := 24) hx hb hts in_M hown hK hP 0 rfl rfl 1 (by decide) (hts _ wd_644) (fun _ h9 => h9) rfl de_M_valueSum_8 ?_
    refine lv_icmp_ge (tgt := 30) hx hb de_M_valueSum_11 (by decide) (fun c_1 => ((nI_ge hi_5 (by omega) c_1)).elim) (fun _ => ?_)
    refine lv_lload_n hx hb de_M_valueSum_14 rfl (lv_at hl 1 rfl) ?_
    refine lv_aload_n hx hb de_M_valueSum_15 rfl (lv_at hl 2 rfl) ?_
    refine lv_iload hx hb de_M_valueSum_16 (lv_at hl 0 rfl) ?_
    refine lv_iload_n hx hb de_M_valueSum_18 rfl (lv_at hl 3 rfl) ?_
    refine qv_callR (As := [.int (nI i), .int (nI k)]) (rest := [.long (sp_sum (sm_val k (sm_trn fweight fprice xlines xweightSum xpriceSum (sm_disc xpriceSum frowDays frowThousandths xday xpaid xrows) fisTold fcents fbyWeights) fweight ffigureA ffigureB (sm_ded (ffigureA 4) (ffigureB 4) fcents) (sm_near (ffigureA 5 * (1000 + ffigureB 5)) 1000 + sm_tol fcents 0 (5 - 0)) (fun a9 j9 => sm_share fweight fprice xlines xweightSum xpriceSum a9 j9 0)) i)]) ⟨hx, hb, hml, hown, hts⟩ (mo_val l dC dI cJ cI cZ h xthrown xlines xrows xweightSum xpriceSum hweight hprice hisTold hcents hbyWeights hrowDays hrowThousandths xday xpaid hup hdown hcondition hhasFigures hfigureA hfigureB xisRelated xisTurned xtest xband fweight fprice fisTold fcents fbyWeights frowDays frowThousandths fcondition fhasFigures ffigureA ffigureB i k (by omega) (by omega) (by omega) (by omega) (by omega) (by omega) hfb) (cwV 2 hts (gd_V wd_857 wd_859 wd_37 wd_47 wd_860) rfl rfl rfl (by decide +kernel) ⟨Nat.le_of_ble_eq_true rfl, Nat.le_of_ble_eq_true rfl⟩) hK hP [0, 1, 2, 3, 4, 5, 6, 7, 8, 9, 10, 11] rfl rfl rfl rfl hl.1 rfl (Nat.le_of_ble_eq_true rfl) de_M_valueSum_19 ⟨Nat.zero_le _, Nat.zero_le _⟩ ?_
    refine lv_ladd hx hb de_M_valueSum_22 ?_
    refine lv_lstore_n (lv' := [(2, .long ((sp_sum (sm_val k (sm_trn fweight fprice xlines xweightSum xpriceSum (sm_disc xpriceSum frowDays frowThousandths xday xpaid xrows) fisTold fcents fbyWeights) fweight ffigureA ffigureB (sm_ded (ffigureA 4) (ffigureB 4) fcents) (sm_near (ffigureA 5 * (1000 + ffigureB 5)) 1000 + sm_tol fcents 0 (5 - 0)) (fun a9 j9 => sm_share fweight fprice xlines xweightSum xpriceSum a9 j9 0)) i) + (sm_val k (sm_trn fweight fprice xlines xweightSum xpriceSum (sm_disc xpriceSum frowDays frowThousandths xday xpaid xrows) fisTold fcents fbyWeights) fweight ffigureA ffigureB (sm_ded (ffigureA 4) (ffigureB 4) fcents) (sm_near (ffigureA 5 * (1000 + ffigureB 5)) 1000 + sm_tol fcents 0 (5 - 0)) (fun a9 j9 => sm_share fweight fprice xlines xweightSum xpriceSum a9 j9 0) i))), (4, .int (nI i)), (0, .ref h), (1, .int (nI k))]) hx hb de_M_valueSum_23 rfl hl (by decide) rfl (fun ls hl => ?_)
    refine lv_iinc (v := nI (i + 1)) (lv' := [(4, .int (nI (i + 1))), (2, .long ((sp_sum (sm_val k (sm_trn fweight fprice xlines xweightSum xpriceSum (sm_disc xpriceSum frowDays frowThousandths xday xpaid xrows) fisTold fcents fbyWeights) fweight ffigureA ffigureB (sm_ded (ffigureA 4) (ffigureB 4) fcents) (sm_near (ffigureA 5 * (1000 + ffigureB 5)) 1000 + sm_tol fcents 0 (5 - 0)) (fun a9 j9 => sm_share fweight fprice xlines xweightSum xpriceSum a9 j9 0)) i) + (sm_val k (sm_trn fweight fprice xlines xweightSum xpriceSum (sm_disc xpriceSum frowDays frowThousandths xday xpaid xrows) fisTold fcents fbyWeights) fweight ffigureA ffigureB (sm_ded (ffigureA 4) (ffigureB 4) fcents) (sm_near (ffigureA 5 * (1000 + ffigureB 5)) 1000 + sm_tol fcents 0 (5 - 0)) (fun a9 j9 => sm_share fweight fprice xlines xweightSum xpriceSum a9 j9 0) i))), (0, .ref h), (1, .int (nI k))]) hx hb de_M_valueSum_24 hl (k := 1) rfl (nI_1 _) (by decide) rfl (fun ls hl => ?_)
    refine lv_goto (tgt := 5) hx hb de_M_valueSum_27 (by decide) ?_
    exact hk_5 _ _ _ ⟨rfl, rfl, lv_sub hl [0, 1, 2, 3] rfl⟩
  · obtain ⟨rfl, rfl, hl⟩ := hI
    refine lv_iload hx hb de_M_valueSum_5 (lv_at hl 0 rfl) ?_
    refine lv_aload_n hx hb de_M_valueSum_7 rfl (lv_at hl 2 rfl) ?_
    refine va_get (D := (dC, dI)) (ci := 5) (v := .int (nI xlines)) (C := rn_M) (T := tf_M) (N := 24) hx hb hts in_M hown hK hP 0 rfl rfl 1 (by decide) (hts _ wd_644) (fun _ h9 => h9) rfl de_M_valueSum_8 ?_
    refine lv_icmp_ge (tgt := 30) hx hb de_M_valueSum_11 (by decide) (fun _ => ?_) (fun c_2 => ((c_2 (nI_le (Nat.le_refl _) (by omega)))).elim)
    refine lv_lload_n hx hb de_M_valueSum_30 rfl (lv_at hl 1 rfl) ?_
    exact W.lret (v := sp_sum (sm_val k (sm_trn fweight fprice xlines xweightSum xpriceSum (sm_disc xpriceSum frowDays frowThousandths xday xpaid xrows) fisTold fcents fbyWeights) fweight ffigureA ffigureB (sm_ded (ffigureA 4) (ffigureB 4) fcents) (sm_near (ffigureA 5 * (1000 + ffigureB 5)) 1000 + sm_tol fcents 0 (5 - 0)) (fun a9 j9 => sm_share fweight fprice xlines xweightSum xpriceSum a9 j9 0)) xlines) hx hb hr (fun t9 ht9 hW9 => ⟨congrArg (fun z => Outcome.returned (some (Value.long z))) rfl, ht9⟩) (fun _ h => nomatch h) de_M_valueSum_31
set_option maxHeartbeats 4000000 in
set_option maxRecDepth 100000 in
/-- ownSum -/
theorem mo_osum (l : Launch) (dC : Nat → ClassId) (dI : Nat → Nat → Nat) (cJ cI cZ : Nat) (h : Nat) (xthrown : Int32) (xlines : Nat) (xrows : Nat) (xweightSum : Int64) (xpriceSum : Int64) (hweight : Nat) (hprice : Nat) (hisTold : Nat) (hcents : Nat) (hbyWeights : Nat) (hrowDays : Nat) (hrowThousandths : Nat) (xday : Nat) (xpaid : Nat) (hup : Nat) (hdown : Nat) (hcondition : Nat) (hhasFigures : Nat) (hfigureA : Nat) (hfigureB : Nat) (xisRelated : Int32) (xisTurned : Int32) (xtest : Int64) (xband : Int32) (fweight : Nat → Int64) (fprice : Nat → Int64) (fisTold : Nat → Int32) (fcents : Nat → Int64) (fbyWeights : Nat → Int32) (frowDays : Nat → Int32) (frowThousandths : Nat → Int32) (fcondition : Nat → Int32) (fhasFigures : Nat → Int32) (ffigureA : Nat → Int64) (ffigureB : Nat → Int64) (fup : Nat → Int32) (fdown : Nat → Int32) (k : Nat) (hn : xlines ≤ 40) (hrw : xrows ≤ 10) (hk1 : 1 ≤ k) (hk6 : k ≤ 6) (hfb : 2 ≤ k → k ≤ 3 → ¬ ffigureB k = 0) (hd : xday < 360) (hdn : ¬ sm_upx (nI k) (fup (xday / 30)) (fdown (xday / 30)) = 0) : Met l yn_M_ownSum ws_M_ownSum ({ frames := 6, cells := 0, slots := 0, locals := 148 }) (va_Pc [.ref h, .int (nI k)] (qv_ro (dC, dI) cls_t [(h, .inr (5, [.int xthrown, .int (nI xlines), .int (nI xrows), .long xweightSum, .long xpriceSum, .ref hweight, .ref hprice, .ref hisTold, .ref hcents, .ref hbyWeights, .ref hrowDays, .ref hrowThousandths, .int (nI xday), .int (nI xpaid), .ref hup, .ref hdown, .ref hcondition, .ref hhasFigures, .ref hfigureA, .ref hfigureB, .int xisRelated, .int xisTurned, .long xtest, .int xband])), (hweight, .inl (cJ, 40, .inr (.inl fweight))), (hprice, .inl (cJ, 40, .inr (.inl fprice))), (hisTold, .inl (cZ, 9, .inl fisTold)), (hcents, .inl (cJ, 9, .inr (.inl fcents))), (hbyWeights, .inl (cZ, 9, .inl fbyWeights)), (hrowDays, .inl (cI, 10, .inl frowDays)), (hrowThousandths, .inl (cI, 10, .inl frowThousandths)), (hcondition, .inl (cZ, 7, .inl fcondition)), (hhasFigures, .inl (cZ, 7, .inl fhasFigures)), (hfigureA, .inl (cJ, 7, .inr (.inl ffigureA))), (hfigureB, .inl (cJ, 7, .inr (.inl ffigureB))), (hup, .inl (cI, 12, .inl fup)), (hdown, .inl (cI, 12, .inl fdown))] [(cJ, .long), (cI, .int), (cZ, .boolean)])) (k2_QcV (.long (sm_near (sp_sum (sm_val k (sm_trn fweight fprice xlines xweightSum xpriceSum (sm_disc xpriceSum frowDays frowThousandths xday xpaid xrows) fisTold fcents fbyWeights) fweight ffigureA ffigureB (sm_ded (ffigureA 4) (ffigureB 4) fcents) (sm_near (ffigureA 5 * (1000 + ffigureB 5)) 1000 + sm_tol fcents 0 (5 - 0)) (fun a9 j9 => sm_share fweight fprice xlines xweightSum xpriceSum a9 j9 0)) xlines * (sm_upx (nI k) (fup (xday / 30)) (fup (xday / 30)))) (sm_upx (nI k) (fup (xday / 30)) (fdown (xday / 30)))))) 0 0 (fun _ => False) := by
  refine Met.ofW (cc := by_M_ownSum) (maxL := 2) (ret := (some .long)) (by decide) rfl ?_
  intro p e s m args below meth c s₁ B hml hv
  obtain ⟨rfl, hP, hK⟩ := hv
  have hx := B.exec
  have hb := B.bytes
  have hr := B.returns
  have hts := fun (w : Cond) (h : w ∈ lw_gt) => atoms_spec (ws := ws_M_ownSum) B.pre w (List.mem_cons_of_mem _ h)
  have hown : s.vm.findClass rn_M = some m.cls := findClass_of_methodNamed B.named
  have hlocks := B.notSynchronized
  have hP : va_P (dC, dI) cls_t [(h, .inr (5, [.int xthrown, .int (nI xlines), .int (nI xrows), .long xweightSum, .long xpriceSum, .ref hweight, .ref hprice, .ref hisTold, .ref hcents, .ref hbyWeights, .ref hrowDays, .ref hrowThousandths, .int (nI xday), .int (nI xpaid), .ref hup, .ref hdown, .ref hcondition, .ref hhasFigures, .ref hfigureA, .ref hfigureB, .int xisRelated, .int xisTurned, .long xtest, .int xband])), (hweight, .inl (cJ, 40, .inr (.inl fweight))), (hprice, .inl (cJ, 40, .inr (.inl fprice))), (hisTold, .inl (cZ, 9, .inl fisTold)), (hcents, .inl (cJ, 9, .inr (.inl fcents))), (hbyWeights, .inl (cZ, 9, .inl fbyWeights)), (hrowDays, .inl (cI, 10, .inl frowDays)), (hrowThousandths, .inl (cI, 10, .inl frowThousandths)), (hcondition, .inl (cZ, 7, .inl fcondition)), (hhasFigures, .inl (cZ, 7, .inl fhasFigures)), (hfigureA, .inl (cJ, 7, .inr (.inl ffigureA))), (hfigureB, .inl (cJ, 7, .inr (.inl ffigureB))), (hup, .inl (cI, 12, .inl fup)), (hdown, .inl (cI, 12, .inl fdown))] s.heap := hP
  have hl := lv_entry ([.ref h, .int (nI k)]) (n := 2) (Nat.le_of_ble_eq_true rfl)
  rw [lg_entry_eq]
  generalize (lg_sl ([.ref h, .int (nI k)]) ++ List.replicate (2 - (lg_sl ([.ref h, .int (nI k)])).length) Slot.unset).toArray = ls at hl ⊢
  have hl : lv_has ls 2 [(0, .ref h), (1, .int (nI k))] := hl
  refine lv_aload_n hx hb de_M_ownSum_0 rfl (lv_at hl 0 rfl) ?_
  refine lv_iload_n hx hb de_M_ownSum_1 rfl (lv_at hl 1 rfl) ?_
  refine qv_callR (As := [.int (nI k)]) (rest := []) ⟨hx, hb, hml, hown, hts⟩ (mo_vsum l dC dI cJ cI cZ h xthrown xlines xrows xweightSum xpriceSum hweight hprice hisTold hcents hbyWeights hrowDays hrowThousandths xday xpaid hup hdown hcondition hhasFigures hfigureA hfigureB xisRelated xisTurned xtest xband fweight fprice fisTold fcents fbyWeights frowDays frowThousandths fcondition fhasFigures ffigureA ffigureB k (by omega) (by omega) (by omega) (by omega) hfb) (cwV 1 hts (gd_V wd_853 wd_855 wd_36 wd_47 wd_856) rfl rfl rfl (by decide +kernel) ⟨Nat.le_of_ble_eq_true rfl, Nat.le_of_ble_eq_true rfl⟩) hK hP [0, 1, 2, 3, 4, 5, 6, 7, 8, 9, 10, 11] rfl rfl rfl rfl hl.1 rfl (Nat.le_of_ble_eq_true rfl) de_M_ownSum_2 ⟨Nat.zero_le _, Nat.zero_le _⟩ ?_
  refine lv_aload_n hx hb de_M_ownSum_5 rfl (lv_at hl 0 rfl) ?_
  refine lv_iload_n hx hb de_M_ownSum_6 rfl (lv_at hl 1 rfl) ?_
  refine qv_callR (As := [.int (nI k)]) (rest := [.long (sp_sum (sm_val k (sm_trn fweight fprice xlines xweightSum xpriceSum (sm_disc xpriceSum frowDays frowThousandths xday xpaid xrows) fisTold fcents fbyWeights) fweight ffigureA ffigureB (sm_ded (ffigureA 4) (ffigureB 4) fcents) (sm_near (ffigureA 5 * (1000 + ffigureB 5)) 1000 + sm_tol fcents 0 (5 - 0)) (fun a9 j9 => sm_share fweight fprice xlines xweightSum xpriceSum a9 j9 0)) xlines)]) ⟨hx, hb, hml, hown, hts⟩ (mo_upOf l dC dI cJ cI cZ h xthrown xlines xrows xweightSum xpriceSum hweight hprice hisTold hcents hbyWeights hrowDays hrowThousandths xday xpaid hup hdown hcondition hhasFigures hfigureA hfigureB xisRelated xisTurned xtest xband fup (nI k) (by omega)) (cwV 1 hts (gd_V wd_861 wd_863 wd_38 wd_47 wd_864) rfl rfl rfl (by decide +kernel) ⟨Nat.le_of_ble_eq_true rfl, Nat.le_of_ble_eq_true rfl⟩) hK hP [0, 12] rfl rfl rfl rfl hl.1 rfl (Nat.le_of_ble_eq_true rfl) de_M_ownSum_7 ⟨Nat.zero_le _, Nat.zero_le _⟩ ?_
  refine lv_lmul hx hb de_M_ownSum_10 ?_
  refine lv_aload_n hx hb de_M_ownSum_11 rfl (lv_at hl 0 rfl) ?_
  refine lv_iload_n hx hb de_M_ownSum_12 rfl (lv_at hl 1 rfl) ?_
  refine qv_callR (As := [.int (nI k)]) (rest := [.long ((sp_sum (sm_val k (sm_trn fweight fprice xlines xweightSum xpriceSum (sm_disc xpriceSum frowDays frowThousandths xday xpaid xrows) fisTold fcents fbyWeights) fweight ffigureA ffigureB (sm_ded (ffigureA 4) (ffigureB 4) fcents) (sm_near (ffigureA 5 * (1000 + ffigureB 5)) 1000 + sm_tol fcents 0 (5 - 0)) (fun a9 j9 => sm_share fweight fprice xlines xweightSum xpriceSum a9 j9 0)) xlines) * (sm_upx (nI k) (fup (xday / 30)) (fup (xday / 30))))]) ⟨hx, hb, hml, hown, hts⟩ (mo_downOf l dC dI cJ cI cZ h xthrown xlines xrows xweightSum xpriceSum hweight hprice hisTold hcents hbyWeights hrowDays hrowThousandths xday xpaid hup hdown hcondition hhasFigures hfigureA hfigureB xisRelated xisTurned xtest xband fup fdown (nI k) (by omega)) (cwV 1 hts (gd_V wd_869 wd_871 wd_40 wd_47 wd_872) rfl rfl rfl (by decide +kernel) ⟨Nat.le_of_ble_eq_true rfl, Nat.le_of_ble_eq_true rfl⟩) hK hP [0, 12, 13] rfl rfl rfl rfl hl.1 rfl (Nat.le_of_ble_eq_true rfl) de_M_ownSum_13 ⟨Nat.zero_le _, Nat.zero_le _⟩ ?_
  refine qv_callS (As := [.long ((sp_sum (sm_val k (sm_trn fweight fprice xlines xweightSum xpriceSum (sm_disc xpriceSum frowDays frowThousandths xday xpaid xrows) fisTold fcents fbyWeights) fweight ffigureA ffigureB (sm_ded (ffigureA 4) (ffigureB 4) fcents) (sm_near (ffigureA 5 * (1000 + ffigureB 5)) 1000 + sm_tol fcents 0 (5 - 0)) (fun a9 j9 => sm_share fweight fprice xlines xweightSum xpriceSum a9 j9 0)) xlines) * (sm_upx (nI k) (fup (xday / 30)) (fup (xday / 30)))), .long (sm_upx (nI k) (fup (xday / 30)) (fdown (xday / 30)))]) (rest := []) ⟨hx, hb, hml, hown, hts⟩ (ms_near l dC dI cJ cI cZ ((sp_sum (sm_val k (sm_trn fweight fprice xlines xweightSum xpriceSum (sm_disc xpriceSum frowDays frowThousandths xday xpaid xrows) fisTold fcents fbyWeights) fweight ffigureA ffigureB (sm_ded (ffigureA 4) (ffigureB 4) fcents) (sm_near (ffigureA 5 * (1000 + ffigureB 5)) 1000 + sm_tol fcents 0 (5 - 0)) (fun a9 j9 => sm_share fweight fprice xlines xweightSum xpriceSum a9 j9 0)) xlines) * (sm_upx (nI k) (fup (xday / 30)) (fup (xday / 30)))) (sm_upx (nI k) (fup (xday / 30)) (fdown (xday / 30))) hdn) (cwS 2 hts (gd_S wd_814 wd_815 wd_47 wd_816) rfl rfl rfl (by decide +kernel) ⟨Nat.le_of_ble_eq_true rfl, Nat.le_of_ble_eq_true rfl⟩) rfl hl.1 rfl (Nat.le_of_ble_eq_true rfl) de_M_ownSum_16 ⟨Nat.zero_le _, Nat.zero_le _⟩ ?_
  exact W.lret (v := sm_near ((sp_sum (sm_val k (sm_trn fweight fprice xlines xweightSum xpriceSum (sm_disc xpriceSum frowDays frowThousandths xday xpaid xrows) fisTold fcents fbyWeights) fweight ffigureA ffigureB (sm_ded (ffigureA 4) (ffigureB 4) fcents) (sm_near (ffigureA 5 * (1000 + ffigureB 5)) 1000 + sm_tol fcents 0 (5 - 0)) (fun a9 j9 => sm_share fweight fprice xlines xweightSum xpriceSum a9 j9 0)) xlines) * (sm_upx (nI k) (fup (xday / 30)) (fup (xday / 30)))) (sm_upx (nI k) (fup (xday / 30)) (fdown (xday / 30)))) hx hb hr (fun t9 ht9 hW9 => ⟨congrArg (fun z => Outcome.returned (some (Value.long z))) rfl, ht9⟩) (fun _ h => nomatch h) de_M_ownSum_19
