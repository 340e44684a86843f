set_option maxHeartbeats 4000000 in
set_option maxRecDepth 100000 in
/-- shareOf -/
theorem mo_shareOf (l : Launch) (dC : Nat → ClassId) (dI : Nat → Nat → Nat) (cJ cI cZ : Nat) (h : Nat) (xthrown : Int32) (xlines : Nat) (xrows : Nat) (xweightSum : Int64) (xpriceSum : Int64) (hweight : Nat) (hprice : Nat) (hisTold : Nat) (hcents : Nat) (hbyWeights : Nat) (hrowDays : Nat) (hrowThousandths : Nat) (xday : Nat) (xpaid : Nat) (hup : Nat) (hdown : Nat) (hcondition : Nat) (hhasFigures : Nat) (hfigureA : Nat) (hfigureB : Nat) (xisRelated : Int32) (xisTurned : Int32) (xtest : Int64) (xband : Int32) (fweight : Nat → Int64) (fprice : Nat → Int64) (am : Int64) (j : Nat) (bw : Int32) (h0 : 0 < xlines) (hn : xlines ≤ 40) (hj : j < 40) : Met l yn_M_shareOf ws_M_shareOf ({ frames := 2, cells := 0, slots := 0, locals := 42 }) (va_Pc [.ref h, .long am, .int (nI j), .int bw] (qv_ro (dC, dI) cls_t [(h, .inr (5, [.int xthrown, .int (nI xlines), .int (nI xrows), .long xweightSum, .long xpriceSum, .ref hweight, .ref hprice, .ref hisTold, .ref hcents, .ref hbyWeights, .ref hrowDays, .ref hrowThousandths, .int (nI xday), .int (nI xpaid), .ref hup, .ref hdown, .ref hcondition, .ref hhasFigures, .ref hfigureA, .ref hfigureB, .int xisRelated, .int xisTurned, .long xtest, .int xband])), (hweight, .inl (cJ, 40, .inr (.inl fweight))), (hprice, .inl (cJ, 40, .inr (.inl fprice)))] [(cJ, .long), (cI, .int), (cZ, .boolean)])) (k2_QcV (.long (sm_share fweight fprice xlines xweightSum xpriceSum am j bw))) 0 0 (fun _ => False) := by
  refine Met.ofW (cc := by_M_shareOf) (maxL := 15) (ret := (some .long)) (by decide) rfl ?_
  intro p e s m args below meth c s₁ B hml hv
  obtain ⟨rfl, hP, hK⟩ := hv
  have hx := B.exec
  have hb := B.bytes
  have hr := B.returns
  have hts := fun (w : Cond) (h : w ∈ lw_gt) => atoms_spec (ws := ws_M_shareOf) B.pre w (List.mem_cons_of_mem _ h)
  have hown : s.vm.findClass rn_M = some m.cls := findClass_of_methodNamed B.named
  have hlocks := B.notSynchronized
  have hP : va_P (dC, dI) cls_t [(h, .inr (5, [.int xthrown, .int (nI xlines), .int (nI xrows), .long xweightSum, .long xpriceSum, .ref hweight, .ref hprice, .ref hisTold, .ref hcents, .ref hbyWeights, .ref hrowDays, .ref hrowThousandths, .int (nI xday), .int (nI xpaid), .ref hup, .ref hdown, .ref hcondition, .ref hhasFigures, .ref hfigureA, .ref hfigureB, .int xisRelated, .int xisTurned, .long xtest, .int xband])), (hweight, .inl (cJ, 40, .inr (.inl fweight))), (hprice, .inl (cJ, 40, .inr (.inl fprice)))] s.heap := hP
  have hl := lv_entry ([.ref h, .long am, .int (nI j), .int bw]) (n := 15) (Nat.le_of_ble_eq_true rfl)
  rw [lg_entry_eq]
  generalize (lg_sl ([.ref h, .long am, .int (nI j), .int bw]) ++ List.replicate (15 - (lg_sl ([.ref h, .long am, .int (nI j), .int bw])).length) Slot.unset).toArray = ls at hl ⊢
  have hl : lv_has ls 15 [(0, .ref h), (1, .long am), (3, .int (nI j)), (4, .int bw)] := hl
  refine lv_aload_n hx hb de_M_shareOf_0 rfl (lv_at hl 0 rfl) ?_
  refine lv_iload hx hb de_M_shareOf_1 (lv_at hl 3 rfl) ?_
  refine qv_callR (As := [.int bw]) (rest := []) ⟨hx, hb, hml, hown, hts⟩ (mo_whole l dC dI cJ cI cZ h xthrown xlines xrows xweightSum xpriceSum hweight hprice hisTold hcents hbyWeights hrowDays hrowThousandths xday xpaid hup hdown hcondition hhasFigures hfigureA hfigureB xisRelated xisTurned xtest xband bw) (cwV 1 hts (gd_V wd_821 wd_823 wd_29 wd_47 wd_824) rfl rfl rfl (by decide +kernel) ⟨Nat.le_of_ble_eq_true rfl, Nat.le_of_ble_eq_true rfl⟩) hK hP [0] rfl rfl rfl rfl hl.1 rfl (Nat.le_of_ble_eq_true rfl) de_M_shareOf_3 ⟨Nat.zero_le _, Nat.zero_le _⟩ ?_
  refine lv_lstore (lv' := [(5, .long (sm_whole xweightSum xpriceSum xlines bw)), (0, .ref h), (1, .long am), (3, .int (nI j)), (4, .int bw)]) hx hb de_M_shareOf_6 hl (by decide) rfl (fun ls hl => ?_)
  refine lv_lload_n hx hb de_M_shareOf_8 rfl (lv_at hl 2 rfl) ?_
  refine lv_lstore (lv' := [(7, .long am), (5, .long (sm_whole xweightSum xpriceSum xlines bw)), (0, .ref h), (1, .long am), (3, .int (nI j)), (4, .int bw)]) hx hb de_M_shareOf_9 hl (by decide) rfl (fun ls hl => ?_)
  refine lv_lload_n hx hb de_M_shareOf_11 rfl (lv_at hl 3 rfl) ?_
  refine lv_aload_n hx hb de_M_shareOf_12 rfl (lv_at hl 2 rfl) ?_
  refine lv_iload_n hx hb de_M_shareOf_13 rfl (lv_at hl 4 rfl) ?_
  refine lv_iload hx hb de_M_shareOf_14 (lv_at hl 5 rfl) ?_
  refine qv_callR (As := [.int (nI j), .int bw]) (rest := [.long am]) ⟨hx, hb, hml, hown, hts⟩ (mo_partOf l dC dI cJ cI cZ h xthrown xlines xrows xweightSum xpriceSum hweight hprice hisTold hcents hbyWeights hrowDays hrowThousandths xday xpaid hup hdown hcondition hhasFigures hfigureA hfigureB xisRelated xisTurned xtest xband fweight fprice j bw (by omega)) (cwV 2 hts (gd_V wd_829 wd_831 wd_31 wd_47 wd_832) rfl rfl rfl (by decide +kernel) ⟨Nat.le_of_ble_eq_true rfl, Nat.le_of_ble_eq_true rfl⟩) hK hP [0, 1, 2] rfl rfl rfl rfl hl.1 rfl (Nat.le_of_ble_eq_true rfl) de_M_shareOf_16 ⟨Nat.zero_le _, Nat.zero_le _⟩ ?_
  refine lv_lmul hx hb de_M_shareOf_19 ?_
  refine lv_lload hx hb de_M_shareOf_20 (lv_at hl 1 rfl) ?_
  refine lv_lrem hx hb de_M_shareOf_22 (sm_whole_ne h0 hn) ?_
  refine lv_lstore (lv' := [(9, .long ((am * (sm_part fweight fprice xweightSum xpriceSum bw j)) - (am * (sm_part fweight fprice xweightSum xpriceSum bw j)) / (sm_whole xweightSum xpriceSum xlines bw) * (sm_whole xweightSum xpriceSum xlines bw))), (7, .long am), (5, .long (sm_whole xweightSum xpriceSum xlines bw)), (0, .ref h), (1, .long am), (3, .int (nI j)), (4, .int bw)]) hx hb de_M_shareOf_23 hl (by decide) rfl (fun ls hl => ?_)
  refine lv_iconst (v := 0) hx hb de_M_shareOf_25 (by decide) ?_
  refine lv_istore (lv' := [(11, .int 0), (9, .long ((am * (sm_part fweight fprice xweightSum xpriceSum bw j)) - (am * (sm_part fweight fprice xweightSum xpriceSum bw j)) / (sm_whole xweightSum xpriceSum xlines bw) * (sm_whole xweightSum xpriceSum xlines bw))), (7, .long am), (5, .long (sm_whole xweightSum xpriceSum xlines bw)), (0, .ref h), (1, .long am), (3, .int (nI j)), (4, .int bw)]) hx hb de_M_shareOf_26 hl (by decide) rfl (fun ls hl => ?_)
  refine lv_iconst (v := 0) hx hb de_M_shareOf_28 (by decide) ?_
  refine lv_istore (lv' := [(12, .int 0), (11, .int 0), (9, .long ((am * (sm_part fweight fprice xweightSum xpriceSum bw j)) - (am * (sm_part fweight fprice xweightSum xpriceSum bw j)) / (sm_whole xweightSum xpriceSum xlines bw) * (sm_whole xweightSum xpriceSum xlines bw))), (7, .long am), (5, .long (sm_whole xweightSum xpriceSum xlines bw)), (0, .ref h), (1, .long am), (3, .int (nI j)), (4, .int bw)]) hx hb de_M_shareOf_29 hl (by decide) rfl (fun ls hl => ?_)
  refine qv_loop (N := xlines) (i0 := 0) (fun k H locs ls => H = s.heap ∧ locs = [] ∧ lv_has ls 15 [(12, .int (nI k)), (11, .int (nI (sm_ahead (fun k => am * sm_part fweight fprice xweightSum xpriceSum bw k - am * sm_part fweight fprice xweightSum xpriceSum bw k / (sm_whole xweightSum xpriceSum xlines bw) * (sm_whole xweightSum xpriceSum xlines bw)) ((am * (sm_part fweight fprice xweightSum xpriceSum bw j)) - (am * (sm_part fweight fprice xweightSum xpriceSum bw j)) / (sm_whole xweightSum xpriceSum xlines bw) * (sm_whole xweightSum xpriceSum xlines bw)) j k))), (9, .long ((am * (sm_part fweight fprice xweightSum xpriceSum bw j)) - (am * (sm_part fweight fprice xweightSum xpriceSum bw j)) / (sm_whole xweightSum xpriceSum xlines bw) * (sm_whole xweightSum xpriceSum xlines bw))), (7, .long (sm_left (fun k => am * sm_part fweight fprice xweightSum xpriceSum bw k / sm_whole xweightSum xpriceSum xlines bw) am k)), (5, .long (sm_whole xweightSum xpriceSum xlines bw)), (0, .ref h), (1, .long am), (3, .int (nI j)), (4, .int bw)]) (Nat.zero_le _) ⟨rfl, rfl, lv_sub hl [0, 1, 2, 3, 4, 5, 6, 7, 8] rfl⟩ (fun k H locs ls hi_31 hI hk_31 => ?_) (fun H locs ls hI => ?_)
  · obtain ⟨rfl, rfl, hl⟩ := hI
    refine lv_iload hx hb de_M_shareOf_31 (lv_at hl 0 rfl) ?_
    refine lv_aload_n hx hb de_M_shareOf_33 rfl (lv_at hl 5 rfl) ?_
    refine va_get (D := (dC, dI)) (ci := 5) (v := .int (nI xlines)) (C := rn_M) (T := tf_M) (N := 24) hx hb hts in_M hown hK hP 0 rfl rfl 1 (by decide) (hts _ wd_644) (fun _ h9 => h9) rfl de_M_shareOf_34 ?_
    refine lv_icmp_ge (tgt := 106) hx hb de_M_shareOf_37 (by decide) (fun c_1 => ((nI_ge hi_31 (by omega) c_1)).elim) (fun _ => ?_)
    refine lv_lload_n hx hb de_M_shareOf_40 rfl (lv_at hl 6 rfl) ?_
    refine lv_aload_n hx hb de_M_shareOf_41 rfl (lv_at hl 5 rfl) ?_
    refine lv_iload hx hb de_M_shareOf_42 (lv_at hl 0 rfl) ?_
    refine lv_iload hx hb de_M_shareOf_44 (lv_at hl 8 rfl) ?_
    refine qv_callR (As := [.int (nI k), .int bw]) (rest := [.long am]) ⟨hx, hb, hml, hown, hts⟩ (mo_partOf l dC dI cJ cI cZ h xthrown xlines xrows xweightSum xpriceSum hweight hprice hisTold hcents hbyWeights hrowDays hrowThousandths xday xpaid hup hdown hcondition hhasFigures hfigureA hfigureB xisRelated xisTurned xtest xband fweight fprice k bw (by omega)) (cwV 2 hts (gd_V wd_829 wd_831 wd_31 wd_47 wd_832) rfl rfl rfl (by decide +kernel) ⟨Nat.le_of_ble_eq_true rfl, Nat.le_of_ble_eq_true rfl⟩) hK hP [0, 1, 2] rfl rfl rfl rfl hl.1 rfl (Nat.le_of_ble_eq_true rfl) de_M_shareOf_46 ⟨Nat.zero_le _, Nat.zero_le _⟩ ?_
    refine lv_lmul hx hb de_M_shareOf_49 ?_
    refine lv_lstore (lv' := [(13, .long (am * (sm_part fweight fprice xweightSum xpriceSum bw k))), (12, .int (nI k)), (11, .int (nI (sm_ahead (fun k => am * sm_part fweight fprice xweightSum xpriceSum bw k - am * sm_part fweight fprice xweightSum xpriceSum bw k / (sm_whole xweightSum xpriceSum xlines bw) * (sm_whole xweightSum xpriceSum xlines bw)) ((am * (sm_part fweight fprice xweightSum xpriceSum bw j)) - (am * (sm_part fweight fprice xweightSum xpriceSum bw j)) / (sm_whole xweightSum xpriceSum xlines bw) * (sm_whole xweightSum xpriceSum xlines bw)) j k))), (9, .long ((am * (sm_part fweight fprice xweightSum xpriceSum bw j)) - (am * (sm_part fweight fprice xweightSum xpriceSum bw j)) / (sm_whole xweightSum xpriceSum xlines bw) * (sm_whole xweightSum xpriceSum xlines bw))), (7, .long (sm_left (fun k => am * sm_part fweight fprice xweightSum xpriceSum bw k / sm_whole xweightSum xpriceSum xlines bw) am k)), (5, .long (sm_whole xweightSum xpriceSum xlines bw)), (0, .ref h), (1, .long am), (3, .int (nI j)), (4, .int bw)]) hx hb de_M_shareOf_50 hl (by decide) rfl (fun ls hl => ?_)
    refine lv_lload hx hb de_M_shareOf_52 (lv_at hl 4 rfl) ?_
    refine lv_lload hx hb de_M_shareOf_54 (lv_at hl 0 rfl) ?_
    refine lv_lload hx hb de_M_shareOf_56 (lv_at hl 5 rfl) ?_
    refine lv_ldiv hx hb de_M_shareOf_58 (sm_whole_ne h0 hn) ?_
    refine lv_lsub hx hb de_M_shareOf_59 ?_
    refine lv_lstore (lv' := [(7, .long ((sm_left (fun k => am * sm_part fweight fprice xweightSum xpriceSum bw k / sm_whole xweightSum xpriceSum xlines bw) am k) - ((am * (sm_part fweight fprice xweightSum xpriceSum bw k)) / (sm_whole xweightSum xpriceSum xlines bw)))), (13, .long (am * (sm_part fweight fprice xweightSum xpriceSum bw k))), (12, .int (nI k)), (11, .int (nI (sm_ahead (fun k => am * sm_part fweight fprice xweightSum xpriceSum bw k - am * sm_part fweight fprice xweightSum xpriceSum bw k / (sm_whole xweightSum xpriceSum xlines bw) * (sm_whole xweightSum xpriceSum xlines bw)) ((am * (sm_part fweight fprice xweightSum xpriceSum bw j)) - (am * (sm_part fweight fprice xweightSum xpriceSum bw j)) / (sm_whole xweightSum xpriceSum xlines bw) * (sm_whole xweightSum xpriceSum xlines bw)) j k))), (9, .long ((am * (sm_part fweight fprice xweightSum xpriceSum bw j)) - (am * (sm_part fweight fprice xweightSum xpriceSum bw j)) / (sm_whole xweightSum xpriceSum xlines bw) * (sm_whole xweightSum xpriceSum xlines bw))), (5, .long (sm_whole xweightSum xpriceSum xlines bw)), (0, .ref h), (1, .long am), (3, .int (nI j)), (4, .int bw)]) hx hb de_M_shareOf_60 hl (by decide) rfl (fun ls hl => ?_)
    refine lv_iload hx hb de_M_shareOf_62 (lv_at hl 3 rfl) ?_
    refine lv_lload hx hb de_M_shareOf_64 (lv_at hl 1 rfl) ?_
    refine lv_lload hx hb de_M_shareOf_66 (lv_at hl 5 rfl) ?_
    refine lv_lrem hx hb de_M_shareOf_68 (sm_whole_ne h0 hn) ?_
    refine lv_lload hx hb de_M_shareOf_69 (lv_at hl 4 rfl) ?_
    refine W.lcmp hx hb de_M_shareOf_71 ?_
    refine lv_if_gt (tgt := 92) hx hb de_M_shareOf_72 (by decide) (fun c_2 => ?_) (fun c_2 => ?_)
    · have c_2 := (lg_cmp_gt _ _).mp c_2
      refine lv_iconst (v := 1) hx hb de_M_shareOf_92 (by decide) ?_
      refine lv_goto (tgt := 97) hx hb de_M_shareOf_93 (by decide) ?_
      refine lv_iadd hx hb de_M_shareOf_97 ?_
      rw [nI_1]
      refine lv_istore (lv' := [(11, .int (nI ((sm_ahead (fun k => am * sm_part fweight fprice xweightSum xpriceSum bw k - am * sm_part fweight fprice xweightSum xpriceSum bw k / (sm_whole xweightSum xpriceSum xlines bw) * (sm_whole xweightSum xpriceSum xlines bw)) ((am * (sm_part fweight fprice xweightSum xpriceSum bw j)) - (am * (sm_part fweight fprice xweightSum xpriceSum bw j)) / (sm_whole xweightSum xpriceSum xlines bw) * (sm_whole xweightSum xpriceSum xlines bw)) j k) + 1))), (7, .long ((sm_left (fun k => am * sm_part fweight fprice xweightSum xpriceSum bw k / sm_whole xweightSum xpriceSum xlines bw) am k) - ((am * (sm_part fweight fprice xweightSum xpriceSum bw k)) / (sm_whole xweightSum xpriceSum xlines bw)))), (13, .long (am * (sm_part fweight fprice xweightSum xpriceSum bw k))), (12, .int (nI k)), (9, .long ((am * (sm_part fweight fprice xweightSum xpriceSum bw j)) - (am * (sm_part fweight fprice xweightSum xpriceSum bw j)) / (sm_whole xweightSum xpriceSum xlines bw) * (sm_whole xweightSum xpriceSum xlines bw))), (5, .long (sm_whole xweightSum xpriceSum xlines bw)), (0, .ref h), (1, .long am), (3, .int (nI j)), (4, .int bw)]) hx hb de_M_shareOf_98 hl (by decide) rfl (fun ls hl => ?_)
      refine lv_iinc (v := nI (k + 1)) (lv' := [(12, .int (nI (k + 1))), (11, .int (nI ((sm_ahead (fun k => am * sm_part fweight fprice xweightSum xpriceSum bw k - am * sm_part fweight fprice xweightSum xpriceSum bw k / (sm_whole xweightSum xpriceSum xlines bw) * (sm_whole xweightSum xpriceSum xlines bw)) ((am * (sm_part fweight fprice xweightSum xpriceSum bw j)) - (am * (sm_part fweight fprice xweightSum xpriceSum bw j)) / (sm_whole xweightSum xpriceSum xlines bw) * (sm_whole xweightSum xpriceSum xlines bw)) j k) + 1))), (7, .long ((sm_left (fun k => am * sm_part fweight fprice xweightSum xpriceSum bw k / sm_whole xweightSum xpriceSum xlines bw) am k) - ((am * (sm_part fweight fprice xweightSum xpriceSum bw k)) / (sm_whole xweightSum xpriceSum xlines bw)))), (13, .long (am * (sm_part fweight fprice xweightSum xpriceSum bw k))), (9, .long ((am * (sm_part fweight fprice xweightSum xpriceSum bw j)) - (am * (sm_part fweight fprice xweightSum xpriceSum bw j)) / (sm_whole xweightSum xpriceSum xlines bw) * (sm_whole xweightSum xpriceSum xlines bw))), (5, .long (sm_whole xweightSum xpriceSum xlines bw)), (0, .ref h), (1, .long am), (3, .int (nI j)), (4, .int bw)]) hx hb de_M_shareOf_100 hl (k := 3) rfl (nI_1 _) (by decide) rfl (fun ls hl => ?_)
      refine lv_goto (tgt := 31) hx hb de_M_shareOf_103 (by decide) ?_
      have hl : lv_has ls 15 [(12, .int (nI (k + 1))), (11, .int (nI (sm_ahead (fun k => am * sm_part fweight fprice xweightSum xpriceSum bw k - am * sm_part fweight fprice xweightSum xpriceSum bw k / (sm_whole xweightSum xpriceSum xlines bw) * (sm_whole xweightSum xpriceSum xlines bw)) ((am * (sm_part fweight fprice xweightSum xpriceSum bw j)) - (am * (sm_part fweight fprice xweightSum xpriceSum bw j)) / (sm_whole xweightSum xpriceSum xlines bw) * (sm_whole xweightSum xpriceSum xlines bw)) j (k + 1)))), (7, .long ((sm_left (fun k => am * sm_part fweight fprice xweightSum xpriceSum bw k / sm_whole xweightSum xpriceSum xlines bw) am k) - ((am * (sm_part fweight fprice xweightSum xpriceSum bw k)) / (sm_whole xweightSum xpriceSum xlines bw)))), (13, .long (am * (sm_part fweight fprice xweightSum xpriceSum bw k))), (9, .long ((am * (sm_part fweight fprice xweightSum xpriceSum bw j)) - (am * (sm_part fweight fprice xweightSum xpriceSum bw j)) / (sm_whole xweightSum xpriceSum xlines bw) * (sm_whole xweightSum xpriceSum xlines bw))), (5, .long (sm_whole xweightSum xpriceSum xlines bw)), (0, .ref h), (1, .long am), (3, .int (nI j)), (4, .int bw)] := by rw [show sm_ahead (fun k => am * sm_part fweight fprice xweightSum xpriceSum bw k - am * sm_part fweight fprice xweightSum xpriceSum bw k / (sm_whole xweightSum xpriceSum xlines bw) * (sm_whole xweightSum xpriceSum xlines bw)) ((am * (sm_part fweight fprice xweightSum xpriceSum bw j)) - (am * (sm_part fweight fprice xweightSum xpriceSum bw j)) / (sm_whole xweightSum xpriceSum xlines bw) * (sm_whole xweightSum xpriceSum xlines bw)) j (k + 1) = ((sm_ahead (fun k => am * sm_part fweight fprice xweightSum xpriceSum bw k - am * sm_part fweight fprice xweightSum xpriceSum bw k / (sm_whole xweightSum xpriceSum xlines bw) * (sm_whole xweightSum xpriceSum xlines bw)) ((am * (sm_part fweight fprice xweightSum xpriceSum bw j)) - (am * (sm_part fweight fprice xweightSum xpriceSum bw j)) / (sm_whole xweightSum xpriceSum xlines bw) * (sm_whole xweightSum xpriceSum xlines bw)) j k) + 1) from by rw [sm_ahead, if_pos c_2]]; exact hl
      exact hk_31 _ _ _ ⟨rfl, rfl, lv_sub hl [0, 1, 4, 2, 5, 6, 7, 8, 9] rfl⟩
    · have c_2 := mt (lg_cmp_gt _ _).mpr c_2
      refine lv_lload hx hb de_M_shareOf_75 (lv_at hl 1 rfl) ?_
      refine lv_lload hx hb de_M_shareOf_77 (lv_at hl 5 rfl) ?_
      refine lv_lrem hx hb de_M_shareOf_79 (sm_whole_ne h0 hn) ?_
      refine lv_lload hx hb de_M_shareOf_80 (lv_at hl 4 rfl) ?_
      refine W.lcmp hx hb de_M_shareOf_82 ?_
      refine lv_if_ne (tgt := 96) hx hb de_M_shareOf_83 (by decide) (fun c_3 => ?_) (fun c_3 => ?_)
      · have c_3 := mt (lg_cmp_eq _ _).mpr c_3
        refine lv_iconst (v := 0) hx hb de_M_shareOf_96 (by decide) ?_
        refine lv_iadd hx hb de_M_shareOf_97 ?_
        rw [Int32.add_zero]
        refine lv_istore (lv' := [(11, .int (nI (sm_ahead (fun k => am * sm_part fweight fprice xweightSum xpriceSum bw k - am * sm_part fweight fprice xweightSum xpriceSum bw k / (sm_whole xweightSum xpriceSum xlines bw) * (sm_whole xweightSum xpriceSum xlines bw)) ((am * (sm_part fweight fprice xweightSum xpriceSum bw j)) - (am * (sm_part fweight fprice xweightSum xpriceSum bw j)) / (sm_whole xweightSum xpriceSum xlines bw) * (sm_whole xweightSum xpriceSum xlines bw)) j k))), (7, .long ((sm_left (fun k => am * sm_part fweight fprice xweightSum xpriceSum bw k / sm_whole xweightSum xpriceSum xlines bw) am k) - ((am * (sm_part fweight fprice xweightSum xpriceSum bw k)) / (sm_whole xweightSum xpriceSum xlines bw)))), (13, .long (am * (sm_part fweight fprice xweightSum xpriceSum bw k))), (12, .int (nI k)), (9, .long ((am * (sm_part fweight fprice xweightSum xpriceSum bw j)) - (am * (sm_part fweight fprice xweightSum xpriceSum bw j)) / (sm_whole xweightSum xpriceSum xlines bw) * (sm_whole xweightSum xpriceSum xlines bw))), (5, .long (sm_whole xweightSum xpriceSum xlines bw)), (0, .ref h), (1, .long am), (3, .int (nI j)), (4, .int bw)]) hx hb de_M_shareOf_98 hl (by decide) rfl (fun ls hl => ?_)
        refine lv_iinc (v := nI (k + 1)) (lv' := [(12, .int (nI (k + 1))), (11, .int (nI (sm_ahead (fun k => am * sm_part fweight fprice xweightSum xpriceSum bw k - am * sm_part fweight fprice xweightSum xpriceSum bw k / (sm_whole xweightSum xpriceSum xlines bw) * (sm_whole xweightSum xpriceSum xlines bw)) ((am * (sm_part fweight fprice xweightSum xpriceSum bw j)) - (am * (sm_part fweight fprice xweightSum xpriceSum bw j)) / (sm_whole xweightSum xpriceSum xlines bw) * (sm_whole xweightSum xpriceSum xlines bw)) j k))), (7, .long ((sm_left (fun k => am * sm_part fweight fprice xweightSum xpriceSum bw k / sm_whole xweightSum xpriceSum xlines bw) am k) - ((am * (sm_part fweight fprice xweightSum xpriceSum bw k)) / (sm_whole xweightSum xpriceSum xlines bw)))), (13, .long (am * (sm_part fweight fprice xweightSum xpriceSum bw k))), (9, .long ((am * (sm_part fweight fprice xweightSum xpriceSum bw j)) - (am * (sm_part fweight fprice xweightSum xpriceSum bw j)) / (sm_whole xweightSum xpriceSum xlines bw) * (sm_whole xweightSum xpriceSum xlines bw))), (5, .long (sm_whole xweightSum xpriceSum xlines bw)), (0, .ref h), (1, .long am), (3, .int (nI j)), (4, .int bw)]) hx hb de_M_shareOf_100 hl (k := 3) rfl (nI_1 _) (by decide) rfl (fun ls hl => ?_)
        refine lv_goto (tgt := 31) hx hb de_M_shareOf_103 (by decide) ?_
        have hl : lv_has ls 15 [(12, .int (nI (k + 1))), (11, .int (nI (sm_ahead (fun k => am * sm_part fweight fprice xweightSum xpriceSum bw k - am * sm_part fweight fprice xweightSum xpriceSum bw k / (sm_whole xweightSum xpriceSum xlines bw) * (sm_whole xweightSum xpriceSum xlines bw)) ((am * (sm_part fweight fprice xweightSum xpriceSum bw j)) - (am * (sm_part fweight fprice xweightSum xpriceSum bw j)) / (sm_whole xweightSum xpriceSum xlines bw) * (sm_whole xweightSum xpriceSum xlines bw)) j (k + 1)))), (7, .long ((sm_left (fun k => am * sm_part fweight fprice xweightSum xpriceSum bw k / sm_whole xweightSum xpriceSum xlines bw) am k) - ((am * (sm_part fweight fprice xweightSum xpriceSum bw k)) / (sm_whole xweightSum xpriceSum xlines bw)))), (13, .long (am * (sm_part fweight fprice xweightSum xpriceSum bw k))), (9, .long ((am * (sm_part fweight fprice xweightSum xpriceSum bw j)) - (am * (sm_part fweight fprice xweightSum xpriceSum bw j)) / (sm_whole xweightSum xpriceSum xlines bw) * (sm_whole xweightSum xpriceSum xlines bw))), (5, .long (sm_whole xweightSum xpriceSum xlines bw)), (0, .ref h), (1, .long am), (3, .int (nI j)), (4, .int bw)] := by rw [show sm_ahead (fun k => am * sm_part fweight fprice xweightSum xpriceSum bw k - am * sm_part fweight fprice xweightSum xpriceSum bw k / (sm_whole xweightSum xpriceSum xlines bw) * (sm_whole xweightSum xpriceSum xlines bw)) ((am * (sm_part fweight fprice xweightSum xpriceSum bw j)) - (am * (sm_part fweight fprice xweightSum xpriceSum bw j)) / (sm_whole xweightSum xpriceSum xlines bw) * (sm_whole xweightSum xpriceSum xlines bw)) j (k + 1) = (sm_ahead (fun k => am * sm_part fweight fprice xweightSum xpriceSum bw k - am * sm_part fweight fprice xweightSum xpriceSum bw k / (sm_whole xweightSum xpriceSum xlines bw) * (sm_whole xweightSum xpriceSum xlines bw)) ((am * (sm_part fweight fprice xweightSum xpriceSum bw j)) - (am * (sm_part fweight fprice xweightSum xpriceSum bw j)) / (sm_whole xweightSum xpriceSum xlines bw) * (sm_whole xweightSum xpriceSum xlines bw)) j k) from by rw [sm_ahead, if_neg c_2, if_neg c_3]]; exact hl
        exact hk_31 _ _ _ ⟨rfl, rfl, lv_sub hl [0, 1, 4, 2, 5, 6, 7, 8, 9] rfl⟩
      · have c_3 := (lg_cmp_eq _ _).mp c_3
        refine lv_iload hx hb de_M_shareOf_86 (lv_at hl 2 rfl) ?_
        refine lv_iload_n hx hb de_M_shareOf_88 rfl (lv_at hl 8 rfl) ?_
        refine lv_icmp_ge (tgt := 96) hx hb de_M_shareOf_89 (by decide) (fun c_4 => ?_) (fun c_4 => ?_)
        · refine lv_iconst (v := 0) hx hb de_M_shareOf_96 (by decide) ?_
          refine lv_iadd hx hb de_M_shareOf_97 ?_
          rw [Int32.add_zero]
          refine lv_istore (lv' := [(11, .int (nI (sm_ahead (fun k => am * sm_part fweight fprice xweightSum xpriceSum bw k - am * sm_part fweight fprice xweightSum xpriceSum bw k / (sm_whole xweightSum xpriceSum xlines bw) * (sm_whole xweightSum xpriceSum xlines bw)) ((am * (sm_part fweight fprice xweightSum xpriceSum bw j)) - (am * (sm_part fweight fprice xweightSum xpriceSum bw j)) / (sm_whole xweightSum xpriceSum xlines bw) * (sm_whole xweightSum xpriceSum xlines bw)) j k))), (7, .long ((sm_left (fun k => am * sm_part fweight fprice xweightSum xpriceSum bw k / sm_whole xweightSum xpriceSum xlines bw) am k) - ((am * (sm_part fweight fprice xweightSum xpriceSum bw k)) / (sm_whole xweightSum xpriceSum xlines bw)))), (13, .long (am * (sm_part fweight fprice xweightSum xpriceSum bw k))), (12, .int (nI k)), (9, .long ((am * (sm_part fweight fprice xweightSum xpriceSum bw j)) - (am * (sm_part fweight fprice xweightSum xpriceSum bw j)) / (sm_whole xweightSum xpriceSum xlines bw) * (sm_whole xweightSum xpriceSum xlines bw))), (5, .long (sm_whole xweightSum xpriceSum xlines bw)), (0, .ref h), (1, .long am), (3, .int (nI j)), (4, .int bw)]) hx hb de_M_shareOf_98 hl (by decide) rfl (fun ls hl => ?_)
          refine lv_iinc (v := nI (k + 1)) (lv' := [(12, .int (nI (k + 1))), (11, .int (nI (sm_ahead (fun k => am * sm_part fweight fprice xweightSum xpriceSum bw k - am * sm_part fweight fprice xweightSum xpriceSum bw k / (sm_whole xweightSum xpriceSum xlines bw) * (sm_whole xweightSum xpriceSum xlines bw)) ((am * (sm_part fweight fprice xweightSum xpriceSum bw j)) - (am * (sm_part fweight fprice xweightSum xpriceSum bw j)) / (sm_whole xweightSum xpriceSum xlines bw) * (sm_whole xweightSum xpriceSum xlines bw)) j k))), (7, .long ((sm_left (fun k => am * sm_part fweight fprice xweightSum xpriceSum bw k / sm_whole xweightSum xpriceSum xlines bw) am k) - ((am * (sm_part fweight fprice xweightSum xpriceSum bw k)) / (sm_whole xweightSum xpriceSum xlines bw)))), (13, .long (am * (sm_part fweight fprice xweightSum xpriceSum bw k))), (9, .long ((am * (sm_part fweight fprice xweightSum xpriceSum bw j)) - (am * (sm_part fweight fprice xweightSum xpriceSum bw j)) / (sm_whole xweightSum xpriceSum xlines bw) * (sm_whole xweightSum xpriceSum xlines bw))), (5, .long (sm_whole xweightSum xpriceSum xlines bw)), (0, .ref h), (1, .long am), (3, .int (nI j)), (4, .int bw)]) hx hb de_M_shareOf_100 hl (k := 3) rfl (nI_1 _) (by decide) rfl (fun ls hl => ?_)
          refine lv_goto (tgt := 31) hx hb de_M_shareOf_103 (by decide) ?_
          have hl : lv_has ls 15 [(12, .int (nI (k + 1))), (11, .int (nI (sm_ahead (fun k => am * sm_part fweight fprice xweightSum xpriceSum bw k - am * sm_part fweight fprice xweightSum xpriceSum bw k / (sm_whole xweightSum xpriceSum xlines bw) * (sm_whole xweightSum xpriceSum xlines bw)) ((am * (sm_part fweight fprice xweightSum xpriceSum bw j)) - (am * (sm_part fweight fprice xweightSum xpriceSum bw j)) / (sm_whole xweightSum xpriceSum xlines bw) * (sm_whole xweightSum xpriceSum xlines bw)) j (k + 1)))), (7, .long ((sm_left (fun k => am * sm_part fweight fprice xweightSum xpriceSum bw k / sm_whole xweightSum xpriceSum xlines bw) am k) - ((am * (sm_part fweight fprice xweightSum xpriceSum bw k)) / (sm_whole xweightSum xpriceSum xlines bw)))), (13, .long (am * (sm_part fweight fprice xweightSum xpriceSum bw k))), (9, .long ((am * (sm_part fweight fprice xweightSum xpriceSum bw j)) - (am * (sm_part fweight fprice xweightSum xpriceSum bw j)) / (sm_whole xweightSum xpriceSum xlines bw) * (sm_whole xweightSum xpriceSum xlines bw))), (5, .long (sm_whole xweightSum xpriceSum xlines bw)), (0, .ref h), (1, .long am), (3, .int (nI j)), (4, .int bw)] := by rw [show sm_ahead (fun k => am * sm_part fweight fprice xweightSum xpriceSum bw k - am * sm_part fweight fprice xweightSum xpriceSum bw k / (sm_whole xweightSum xpriceSum xlines bw) * (sm_whole xweightSum xpriceSum xlines bw)) ((am * (sm_part fweight fprice xweightSum xpriceSum bw j)) - (am * (sm_part fweight fprice xweightSum xpriceSum bw j)) / (sm_whole xweightSum xpriceSum xlines bw) * (sm_whole xweightSum xpriceSum xlines bw)) j (k + 1) = (sm_ahead (fun k => am * sm_part fweight fprice xweightSum xpriceSum bw k - am * sm_part fweight fprice xweightSum xpriceSum bw k / (sm_whole xweightSum xpriceSum xlines bw) * (sm_whole xweightSum xpriceSum xlines bw)) ((am * (sm_part fweight fprice xweightSum xpriceSum bw j)) - (am * (sm_part fweight fprice xweightSum xpriceSum bw j)) / (sm_whole xweightSum xpriceSum xlines bw) * (sm_whole xweightSum xpriceSum xlines bw)) j k) from by rw [sm_ahead, if_neg c_2, if_pos c_3, if_pos c_4]]; exact hl
          exact hk_31 _ _ _ ⟨rfl, rfl, lv_sub hl [0, 1, 4, 2, 5, 6, 7, 8, 9] rfl⟩
        · refine lv_iconst (v := 1) hx hb de_M_shareOf_92 (by decide) ?_
          refine lv_goto (tgt := 97) hx hb de_M_shareOf_93 (by decide) ?_
          refine lv_iadd hx hb de_M_shareOf_97 ?_
          rw [nI_1]
          refine lv_istore (lv' := [(11, .int (nI ((sm_ahead (fun k => am * sm_part fweight fprice xweightSum xpriceSum bw k - am * sm_part fweight fprice xweightSum xpriceSum bw k / (sm_whole xweightSum xpriceSum xlines bw) * (sm_whole xweightSum xpriceSum xlines bw)) ((am * (sm_part fweight fprice xweightSum xpriceSum bw j)) - (am * (sm_part fweight fprice xweightSum xpriceSum bw j)) / (sm_whole xweightSum xpriceSum xlines bw) * (sm_whole xweightSum xpriceSum xlines bw)) j k) + 1))), (7, .long ((sm_left (fun k => am * sm_part fweight fprice xweightSum xpriceSum bw k / sm_whole xweightSum xpriceSum xlines bw) am k) - ((am * (sm_part fweight fprice xweightSum xpriceSum bw k)) / (sm_whole xweightSum xpriceSum xlines bw)))), (13, .long (am * (sm_part fweight fprice xweightSum xpriceSum bw k))), (12, .int (nI k)), (9, .long ((am * (sm_part fweight fprice xweightSum xpriceSum bw j)) - (am * (sm_part fweight fprice xweightSum xpriceSum bw j)) / (sm_whole xweightSum xpriceSum xlines bw) * (sm_whole xweightSum xpriceSum xlines bw))), (5, .long (sm_whole xweightSum xpriceSum xlines bw)), (0, .ref h), (1, .long am), (3, .int (nI j)), (4, .int bw)]) hx hb de_M_shareOf_98 hl (by decide) rfl (fun ls hl => ?_)
          refine lv_iinc (v := nI (k + 1)) (lv' := [(12, .int (nI (k + 1))), (11, .int (nI ((sm_ahead (fun k => am * sm_part fweight fprice xweightSum xpriceSum bw k - am * sm_part fweight fprice xweightSum xpriceSum bw k / (sm_whole xweightSum xpriceSum xlines bw) * (sm_whole xweightSum xpriceSum xlines bw)) ((am * (sm_part fweight fprice xweightSum xpriceSum bw j)) - (am * (sm_part fweight fprice xweightSum xpriceSum bw j)) / (sm_whole xweightSum xpriceSum xlines bw) * (sm_whole xweightSum xpriceSum xlines bw)) j k) + 1))), (7, .long ((sm_left (fun k => am * sm_part fweight fprice xweightSum xpriceSum bw k / sm_whole xweightSum xpriceSum xlines bw) am k) - ((am * (sm_part fweight fprice xweightSum xpriceSum bw k)) / (sm_whole xweightSum xpriceSum xlines bw)))), (13, .long (am * (sm_part fweight fprice xweightSum xpriceSum bw k))), (9, .long ((am * (sm_part fweight fprice xweightSum xpriceSum bw j)) - (am * (sm_part fweight fprice xweightSum xpriceSum bw j)) / (sm_whole xweightSum xpriceSum xlines bw) * (sm_whole xweightSum xpriceSum xlines bw))), (5, .long (sm_whole xweightSum xpriceSum xlines bw)), (0, .ref h), (1, .long am), (3, .int (nI j)), (4, .int bw)]) hx hb de_M_shareOf_100 hl (k := 3) rfl (nI_1 _) (by decide) rfl (fun ls hl => ?_)
          refine lv_goto (tgt := 31) hx hb de_M_shareOf_103 (by decide) ?_
          have hl : lv_has ls 15 [(12, .int (nI (k + 1))), (11, .int (nI (sm_ahead (fun k => am * sm_part fweight fprice xweightSum xpriceSum bw k - am * sm_part fweight fprice xweightSum xpriceSum bw k / (sm_whole xweightSum xpriceSum xlines bw) * (sm_whole xweightSum xpriceSum xlines bw)) ((am * (sm_part fweight fprice xweightSum xpriceSum bw j)) - (am * (sm_part fweight fprice xweightSum xpriceSum bw j)) / (sm_whole xweightSum xpriceSum xlines bw) * (sm_whole xweightSum xpriceSum xlines bw)) j (k + 1)))), (7, .long ((sm_left (fun k => am * sm_part fweight fprice xweightSum xpriceSum bw k / sm_whole xweightSum xpriceSum xlines bw) am k) - ((am * (sm_part fweight fprice xweightSum xpriceSum bw k)) / (sm_whole xweightSum xpriceSum xlines bw)))), (13, .long (am * (sm_part fweight fprice xweightSum xpriceSum bw k))), (9, .long ((am * (sm_part fweight fprice xweightSum xpriceSum bw j)) - (am * (sm_part fweight fprice xweightSum xpriceSum bw j)) / (sm_whole xweightSum xpriceSum xlines bw) * (sm_whole xweightSum xpriceSum xlines bw))), (5, .long (sm_whole xweightSum xpriceSum xlines bw)), (0, .ref h), (1, .long am), (3, .int (nI j)), (4, .int bw)] := by rw [show sm_ahead (fun k => am * sm_part fweight fprice xweightSum xpriceSum bw k - am * sm_part fweight fprice xweightSum xpriceSum bw k / (sm_whole xweightSum xpriceSum xlines bw) * (sm_whole xweightSum xpriceSum xlines bw)) ((am * (sm_part fweight fprice xweightSum xpriceSum bw j)) - (am * (sm_part fweight fprice xweightSum xpriceSum bw j)) / (sm_whole xweightSum xpriceSum xlines bw) * (sm_whole xweightSum xpriceSum xlines bw)) j (k + 1) = ((sm_ahead (fun k => am * sm_part fweight fprice xweightSum xpriceSum bw k - am * sm_part fweight fprice xweightSum xpriceSum bw k / (sm_whole xweightSum xpriceSum xlines bw) * (sm_whole xweightSum xpriceSum xlines bw)) ((am * (sm_part fweight fprice xweightSum xpriceSum bw j)) - (am * (sm_part fweight fprice xweightSum xpriceSum bw j)) / (sm_whole xweightSum xpriceSum xlines bw) * (sm_whole xweightSum xpriceSum xlines bw)) j k) + 1) from by rw [sm_ahead, if_neg c_2, if_pos c_3, if_neg c_4]]; exact hl
          exact hk_31 _ _ _ ⟨rfl, rfl, lv_sub hl [0, 1, 4, 2, 5, 6, 7, 8, 9] rfl⟩
  · obtain ⟨rfl, rfl, hl⟩ := hI
    refine lv_iload hx hb de_M_shareOf_31 (lv_at hl 0 rfl) ?_
    refine lv_aload_n hx hb de_M_shareOf_33 rfl (lv_at hl 5 rfl) ?_
    refine va_get (D := (dC, dI)) (ci := 5) (v := .int (nI xlines)) (C := rn_M) (T := tf_M) (N := 24) hx hb hts in_M hown hK hP 0 rfl rfl 1 (by decide) (hts _ wd_644) (fun _ h9 => h9) rfl de_M_shareOf_34 ?_
    refine lv_icmp_ge (tgt := 106) hx hb de_M_shareOf_37 (by decide) (fun _ => ?_) (fun c_5 => ((c_5 (nI_le (Nat.le_refl _) (by omega)))).elim)
    refine lv_lload_n hx hb de_M_shareOf_106 rfl (lv_at hl 6 rfl) ?_
    refine lv_aload_n hx hb de_M_shareOf_107 rfl (lv_at hl 5 rfl) ?_
    refine lv_iload_n hx hb de_M_shareOf_108 rfl (lv_at hl 7 rfl) ?_
    refine lv_iload hx hb de_M_shareOf_109 (lv_at hl 8 rfl) ?_
    refine qv_callR (As := [.int (nI j), .int bw]) (rest := [.long am]) ⟨hx, hb, hml, hown, hts⟩ (mo_partOf l dC dI cJ cI cZ h xthrown xlines xrows xweightSum xpriceSum hweight hprice hisTold hcents hbyWeights hrowDays hrowThousandths xday xpaid hup hdown hcondition hhasFigures hfigureA hfigureB xisRelated xisTurned xtest xband fweight fprice j bw (by omega)) (cwV 2 hts (gd_V wd_829 wd_831 wd_31 wd_47 wd_832) rfl rfl rfl (by decide +kernel) ⟨Nat.le_of_ble_eq_true rfl, Nat.le_of_ble_eq_true rfl⟩) hK hP [0, 1, 2] rfl rfl rfl rfl hl.1 rfl (Nat.le_of_ble_eq_true rfl) de_M_shareOf_111 ⟨Nat.zero_le _, Nat.zero_le _⟩ ?_
    refine lv_lmul hx hb de_M_shareOf_114 ?_
    refine lv_lload hx hb de_M_shareOf_115 (lv_at hl 4 rfl) ?_
    refine lv_ldiv hx hb de_M_shareOf_117 (sm_whole_ne h0 hn) ?_
    refine lv_iload hx hb de_M_shareOf_118 (lv_at hl 1 rfl) ?_
    refine lv_i2l (v := (nI (sm_ahead (fun k => am * sm_part fweight fprice xweightSum xpriceSum bw k - am * sm_part fweight fprice xweightSum xpriceSum bw k / (sm_whole xweightSum xpriceSum xlines bw) * (sm_whole xweightSum xpriceSum xlines bw)) ((am * (sm_part fweight fprice xweightSum xpriceSum bw j)) - (am * (sm_part fweight fprice xweightSum xpriceSum bw j)) / (sm_whole xweightSum xpriceSum xlines bw) * (sm_whole xweightSum xpriceSum xlines bw)) j xlines)).toInt64) hx hb de_M_shareOf_120 rfl ?_
    refine lv_lload hx hb de_M_shareOf_121 (lv_at hl 3 rfl) ?_
    refine W.lcmp hx hb de_M_shareOf_123 ?_
    refine lv_if_ge (tgt := 131) hx hb de_M_shareOf_124 (by decide) (fun c_6 => ?_) (fun c_6 => ?_)
    · have c_6 := (lg_cmp_ge _ _).mp c_6
      refine lv_lconst (v := 0) hx hb de_M_shareOf_131 (by decide) ?_
      refine lv_ladd hx hb de_M_shareOf_132 ?_
      exact W.lret (v := ((am * (sm_part fweight fprice xweightSum xpriceSum bw j)) / (sm_whole xweightSum xpriceSum xlines bw)) + 0) hx hb hr (fun t9 ht9 hW9 => ⟨congrArg (fun z => Outcome.returned (some (Value.long z))) (show (((am * (sm_part fweight fprice xweightSum xpriceSum bw j)) / (sm_whole xweightSum xpriceSum xlines bw)) + 0) = (sm_share fweight fprice xlines xweightSum xpriceSum am j bw) from by simp only [sm_share, sm_get, if_pos c_6]), ht9⟩) (fun _ h => nomatch h) de_M_shareOf_133
    · have c_6 := mt (lg_cmp_ge _ _).mpr c_6
      refine lv_lconst (v := 1) hx hb de_M_shareOf_127 (by decide) ?_
      refine lv_goto (tgt := 132) hx hb de_M_shareOf_128 (by decide) ?_
      refine lv_ladd hx hb de_M_shareOf_132 ?_
      exact W.lret (v := ((am * (sm_part fweight fprice xweightSum xpriceSum bw j)) / (sm_whole xweightSum xpriceSum xlines bw)) + 1) hx hb hr (fun t9 ht9 hW9 => ⟨congrArg (fun z => Outcome.returned (some (Value.long z))) (show (((am * (sm_part fweight fprice xweightSum xpriceSum bw j)) / (sm_whole xweightSum xpriceSum xlines bw)) + 1) = (sm_share fweight fprice xlines xweightSum xpriceSum am j bw) from by simp only [sm_share, sm_get, if_neg c_6]), ht9⟩) (fun _ h => nomatch h) de_M_shareOf_133
set_option maxHeartbeats 4000000 in
set_option maxRecDepth 100000 in
/-- thousandths -/
theorem mo_thou (l : Launch) (dC : Nat → ClassId) (dI : Nat → Nat → Nat) (cJ cI cZ : Nat) (h : Nat) (xthrown : Int32) (xlines : Nat) (xrows : Nat) (xweightSum : Int64) (xpriceSum : Int64) (hweight : Nat) (hprice : Nat) (hisTold : Nat) (hcents : Nat) (hbyWeights : Nat) (hrowDays : Nat) (hrowThousandths : Nat) (xday : Nat) (xpaid : Nat) (hup : Nat) (hdown : Nat) (hcondition : Nat) (hhasFigures : Nat) (hfigureA : Nat) (hfigureB : Nat) (xisRelated : Int32) (xisTurned : Int32) (xtest : Int64) (xband : Int32) (frowDays : Nat → Int32) (frowThousandths : Nat → Int32) (hr : xrows ≤ 10) : Met l yn_M_thousandths ws_M_thousandths ({ frames := 0, cells := 0, slots := 0, locals := 0 }) (va_Pc [.ref h] (qv_ro (dC, dI) cls_t [(h, .inr (5, [.int xthrown, .int (nI xlines), .int (nI xrows), .long xweightSum, .long xpriceSum, .ref hweight, .ref hprice, .ref hisTold, .ref hcents, .ref hbyWeights, .ref hrowDays, .ref hrowThousandths, .int (nI xday), .int (nI xpaid), .ref hup, .ref hdown, .ref hcondition, .ref hhasFigures, .ref hfigureA, .ref hfigureB, .int xisRelated, .int xisTurned, .long xtest, .int xband])), (hrowDays, .inl (cI, 10, .inl frowDays)), (hrowThousandths, .inl (cI, 10, .inl frowThousandths))] [(cJ, .long), (cI, .int), (cZ, .boolean)])) (k2_QcV (.int (sp_thou frowDays frowThousandths (nI xday) (nI xpaid) xrows))) 0 0 (fun _ => False) := by
  refine Met.ofW (cc := by_M_thousandths) (maxL := 3) (ret := (some .int)) (by decide) rfl ?_
  intro p e s m args below meth c s₁ B hml hv
  obtain ⟨rfl, hP, hK⟩ := hv
  have hx := B.exec
  have hb := B.bytes
  have hr := B.returns
  have hts := fun (w : Cond) (h : w ∈ lw_gt) => atoms_spec (ws := ws_M_thousandths) B.pre w (List.mem_cons_of_mem _ h)
  have hown : s.vm.findClass rn_M = some m.cls := findClass_of_methodNamed B.named
  have hlocks := B.notSynchronized
  have hP : va_P (dC, dI) cls_t [(h, .inr (5, [.int xthrown, .int (nI xlines), .int (nI xrows), .long xweightSum, .long xpriceSum, .ref hweight, .ref hprice, .ref hisTold, .ref hcents, .ref hbyWeights, .ref hrowDays, .ref hrowThousandths, .int (nI xday), .int (nI xpaid), .ref hup, .ref hdown, .ref hcondition, .ref hhasFigures, .ref hfigureA, .ref hfigureB, .int xisRelated, .int xisTurned, .long xtest, .int xband])), (hrowDays, .inl (cI, 10, .inl frowDays)), (hrowThousandths, .inl (cI, 10, .inl frowThousandths))] s.heap := hP
  have hl := lv_entry ([.ref h]) (n := 3) (Nat.le_of_ble_eq_true rfl)
  rw [lg_entry_eq]
  generalize (lg_sl ([.ref h]) ++ List.replicate (3 - (lg_sl ([.ref h])).length) Slot.unset).toArray = ls at hl ⊢
  have hl : lv_has ls 3 [(0, .ref h)] := hl
  refine lv_iconst (v := 0) hx hb de_M_thousandths_0 (by decide) ?_
  refine lv_istore_n (lv' := [(1, .int 0), (0, .ref h)]) hx hb de_M_thousandths_1 rfl hl (by decide) rfl (fun ls hl => ?_)
  refine lv_iconst (v := 0) hx hb de_M_thousandths_2 (by decide) ?_
  refine lv_istore_n (lv' := [(2, .int 0), (1, .int 0), (0, .ref h)]) hx hb de_M_thousandths_3 rfl hl (by decide) rfl (fun ls hl => ?_)
  refine qv_loop (N := xrows) (i0 := 0) (fun i H locs ls => H = s.heap ∧ locs = [] ∧ lv_has ls 3 [(2, .int (nI i)), (1, .int (sp_thou frowDays frowThousandths (nI xday) (nI xpaid) i)), (0, .ref h)]) (Nat.zero_le _) ⟨rfl, rfl, lv_sub hl [0, 1, 2] rfl⟩ (fun i H locs ls hi_4 hI hk_4 => ?_) (fun H locs ls hI => ?_)
  · obtain ⟨rfl, rfl, hl⟩ := hI
    refine lv_iload_n hx hb de_M_thousandths_4 rfl (lv_at hl 0 rfl) ?_
    refine lv_aload_n hx hb de_M_thousandths_5 rfl (lv_at hl 2 rfl) ?_
    refine va_get (D := (dC, dI)) (ci := 5) (v := .int (nI xrows)) (C := rn_M) (T := tf_M) (N := 24) hx hb hts in_M hown hK hP 0 rfl rfl 2 (by decide) (hts _ wd_645) (fun _ h9 => h9) rfl de_M_thousandths_6 ?_
    refine lv_icmp_ge (tgt := 57) hx hb de_M_thousandths_9 (by decide) (fun c_1 => ((nI_ge hi_4 (by omega) c_1)).elim) (fun _ => ?_)
    refine lv_aload_n hx hb de_M_thousandths_12 rfl (lv_at hl 2 rfl) ?_
    refine va_get (D := (dC, dI)) (ci := 5) (v := .int (nI xpaid)) (C := rn_M) (T := tf_M) (N := 24) hx hb hts in_M hown hK hP 0 rfl rfl 13 (by decide) (hts _ wd_656) (fun _ h9 => h9) rfl de_M_thousandths_13 ?_
    refine lv_aload_n hx hb de_M_thousandths_16 rfl (lv_at hl 2 rfl) ?_
    refine va_get (D := (dC, dI)) (ci := 5) (v := .int (nI xday)) (C := rn_M) (T := tf_M) (N := 24) hx hb hts in_M hown hK hP 0 rfl rfl 12 (by decide) (hts _ wd_655) (fun _ h9 => h9) rfl de_M_thousandths_17 ?_
    refine lv_aload_n hx hb de_M_thousandths_20 rfl (lv_at hl 2 rfl) ?_
    refine va_get (D := (dC, dI)) (ci := 5) (v := .ref hrowDays) (C := rn_M) (T := tf_M) (N := 24) hx hb hts in_M hown hK hP 0 rfl rfl 10 (by decide) (hts _ wd_653) (fun _ h9 => h9) rfl de_M_thousandths_21 ?_
    refine lv_iload_n hx hb de_M_thousandths_24 rfl (lv_at hl 0 rfl) ?_
    refine qv_iald (k := i) hx hb hK hP 1 1 rfl rfl (by omega) (by omega) de_M_thousandths_25 ?_
    refine lv_iadd hx hb de_M_thousandths_26 ?_
    refine lv_icmp_gt (tgt := 49) hx hb de_M_thousandths_27 (by decide) (fun c_2 => ?_) (fun c_2 => ?_)
    · refine lv_iload_n hx hb de_M_thousandths_49 rfl (lv_at hl 1 rfl) ?_
      refine lv_istore_n (lv' := [(1, .int (sp_thou frowDays frowThousandths (nI xday) (nI xpaid) i)), (2, .int (nI i)), (0, .ref h)]) hx hb de_M_thousandths_50 rfl hl (by decide) rfl (fun ls hl => ?_)
      refine lv_iinc (v := nI (i + 1)) (lv' := [(2, .int (nI (i + 1))), (1, .int (sp_thou frowDays frowThousandths (nI xday) (nI xpaid) i)), (0, .ref h)]) hx hb de_M_thousandths_51 hl (k := 1) rfl (nI_1 _) (by decide) rfl (fun ls hl => ?_)
      refine lv_goto (tgt := 4) hx hb de_M_thousandths_54 (by decide) ?_
      have hl : lv_has ls 3 [(2, .int (nI (i + 1))), (1, .int (sp_thou frowDays frowThousandths (nI xday) (nI xpaid) (i + 1))), (0, .ref h)] := by rw [show sp_thou frowDays frowThousandths (nI xday) (nI xpaid) (i + 1) = sp_thou frowDays frowThousandths (nI xday) (nI xpaid) i from by rw [sp_thou, if_pos c_2]]; exact hl
      exact hk_4 _ _ _ ⟨rfl, rfl, lv_sub hl [0, 1, 2] rfl⟩
    · refine lv_aload_n hx hb de_M_thousandths_30 rfl (lv_at hl 2 rfl) ?_
      refine va_get (D := (dC, dI)) (ci := 5) (v := .ref hrowThousandths) (C := rn_M) (T := tf_M) (N := 24) hx hb hts in_M hown hK hP 0 rfl rfl 11 (by decide) (hts _ wd_654) (fun _ h9 => h9) rfl de_M_thousandths_31 ?_
      refine lv_iload_n hx hb de_M_thousandths_34 rfl (lv_at hl 0 rfl) ?_
      refine qv_iald (k := i) hx hb hK hP 2 1 rfl rfl (by omega) (by omega) de_M_thousandths_35 ?_
      refine lv_iload_n hx hb de_M_thousandths_36 rfl (lv_at hl 1 rfl) ?_
      refine lv_icmp_le (tgt := 49) hx hb de_M_thousandths_37 (by decide) (fun c_3 => ?_) (fun c_3 => ?_)
      · refine lv_iload_n hx hb de_M_thousandths_49 rfl (lv_at hl 1 rfl) ?_
        refine lv_istore_n (lv' := [(1, .int (sp_thou frowDays frowThousandths (nI xday) (nI xpaid) i)), (2, .int (nI i)), (0, .ref h)]) hx hb de_M_thousandths_50 rfl hl (by decide) rfl (fun ls hl => ?_)
        refine lv_iinc (v := nI (i + 1)) (lv' := [(2, .int (nI (i + 1))), (1, .int (sp_thou frowDays frowThousandths (nI xday) (nI xpaid) i)), (0, .ref h)]) hx hb de_M_thousandths_51 hl (k := 1) rfl (nI_1 _) (by decide) rfl (fun ls hl => ?_)
        refine lv_goto (tgt := 4) hx hb de_M_thousandths_54 (by decide) ?_
        have hl : lv_has ls 3 [(2, .int (nI (i + 1))), (1, .int (sp_thou frowDays frowThousandths (nI xday) (nI xpaid) (i + 1))), (0, .ref h)] := by rw [show sp_thou frowDays frowThousandths (nI xday) (nI xpaid) (i + 1) = sp_thou frowDays frowThousandths (nI xday) (nI xpaid) i from by rw [sp_thou, if_neg c_2, if_pos c_3]]; exact hl
        exact hk_4 _ _ _ ⟨rfl, rfl, lv_sub hl [0, 1, 2] rfl⟩
      · refine lv_aload_n hx hb de_M_thousandths_40 rfl (lv_at hl 2 rfl) ?_
        refine va_get (D := (dC, dI)) (ci := 5) (v := .ref hrowThousandths) (C := rn_M) (T := tf_M) (N := 24) hx hb hts in_M hown hK hP 0 rfl rfl 11 (by decide) (hts _ wd_654) (fun _ h9 => h9) rfl de_M_thousandths_41 ?_
        refine lv_iload_n hx hb de_M_thousandths_44 rfl (lv_at hl 0 rfl) ?_
        refine qv_iald (k := i) hx hb hK hP 2 1 rfl rfl (by omega) (by omega) de_M_thousandths_45 ?_
        refine lv_goto (tgt := 50) hx hb de_M_thousandths_46 (by decide) ?_
        refine lv_istore_n (lv' := [(1, .int (frowThousandths i)), (2, .int (nI i)), (0, .ref h)]) hx hb de_M_thousandths_50 rfl hl (by decide) rfl (fun ls hl => ?_)
        refine lv_iinc (v := nI (i + 1)) (lv' := [(2, .int (nI (i + 1))), (1, .int (frowThousandths i)), (0, .ref h)]) hx hb de_M_thousandths_51 hl (k := 1) rfl (nI_1 _) (by decide) rfl (fun ls hl => ?_)
        refine lv_goto (tgt := 4) hx hb de_M_thousandths_54 (by decide) ?_
        have hl : lv_has ls 3 [(2, .int (nI (i + 1))), (1, .int (sp_thou frowDays frowThousandths (nI xday) (nI xpaid) (i + 1))), (0, .ref h)] := by rw [show sp_thou frowDays frowThousandths (nI xday) (nI xpaid) (i + 1) = frowThousandths i from by rw [sp_thou, if_neg c_2, if_neg c_3]]; exact hl
        exact hk_4 _ _ _ ⟨rfl, rfl, lv_sub hl [0, 1, 2] rfl⟩
  · obtain ⟨rfl, rfl, hl⟩ := hI
    refine lv_iload_n hx hb de_M_thousandths_4 rfl (lv_at hl 0 rfl) ?_
    refine lv_aload_n hx hb de_M_thousandths_5 rfl (lv_at hl 2 rfl) ?_
    refine va_get (D := (dC, dI)) (ci := 5) (v := .int (nI xrows)) (C := rn_M) (T := tf_M) (N := 24) hx hb hts in_M hown hK hP 0 rfl rfl 2 (by decide) (hts _ wd_645) (fun _ h9 => h9) rfl de_M_thousandths_6 ?_
    refine lv_icmp_ge (tgt := 57) hx hb de_M_thousandths_9 (by decide) (fun _ => ?_) (fun c_4 => ((c_4 (nI_le (Nat.le_refl _) (by omega)))).elim)
    refine lv_iload_n hx hb de_M_thousandths_57 rfl (lv_at hl 1 rfl) ?_
    exact W.iret (v := sp_thou frowDays frowThousandths (nI xday) (nI xpaid) xrows) hx hb hr (fun t9 ht9 hW9 => ⟨congrArg (fun z => Outcome.returned (some (Value.int z))) rfl, ht9⟩) (fun _ h => nomatch h) de_M_thousandths_58
set_option maxHeartbeats 4000000 in
set_option maxRecDepth 100000 in
/-- discount -/
theorem mo_disc (l : Launch) (dC : Nat → ClassId) (dI : Nat → Nat → Nat) (cJ cI cZ : Nat) (h : Nat) (xthrown : Int32) (xlines : Nat) (xrows : Nat) (xweightSum : Int64) (xpriceSum : Int64) (hweight : Nat) (hprice : Nat) (hisTold : Nat) (hcents : Nat) (hbyWeights : Nat) (hrowDays : Nat) (hrowThousandths : Nat) (xday : Nat) (xpaid : Nat) (hup : Nat) (hdown : Nat) (hcondition : Nat) (hhasFigures : Nat) (hfigureA : Nat) (hfigureB : Nat) (xisRelated : Int32) (xisTurned : Int32) (xtest : Int64) (xband : Int32) (frowDays : Nat → Int32) (frowThousandths : Nat → Int32) (hr : xrows ≤ 10) : Met l yn_M_discount ws_M_discount ({ frames := 1, cells := 0, slots := 0, locals := 23 }) (va_Pc [.ref h] (qv_ro (dC, dI) cls_t [(h, .inr (5, [.int xthrown, .int (nI xlines), .int (nI xrows), .long xweightSum, .long xpriceSum, .ref hweight, .ref hprice, .ref hisTold, .ref hcents, .ref hbyWeights, .ref hrowDays, .ref hrowThousandths, .int (nI xday), .int (nI xpaid), .ref hup, .ref hdown, .ref hcondition, .ref hhasFigures, .ref hfigureA, .ref hfigureB, .int xisRelated, .int xisTurned, .long xtest, .int xband])), (hrowDays, .inl (cI, 10, .inl frowDays)), (hrowThousandths, .inl (cI, 10, .inl frowThousandths))] [(cJ, .long), (cI, .int), (cZ, .boolean)])) (k2_QcV (.long (sm_disc xpriceSum frowDays frowThousandths xday xpaid xrows))) 0 0 (fun _ => False) := by
  refine Met.ofW (cc := by_M_discount) (maxL := 1) (ret := (some .long)) (by decide) rfl ?_
  intro p e s m args below meth c s₁ B hml hv
  obtain ⟨rfl, hP, hK⟩ := hv
  have hx := B.exec
  have hb := B.bytes
  have hr := B.returns
  have hts := fun (w : Cond) (h : w ∈ lw_gt) => atoms_spec (ws := ws_M_discount) B.pre w (List.mem_cons_of_mem _ h)
  have hown : s.vm.findClass rn_M = some m.cls := findClass_of_methodNamed B.named
  have hlocks := B.notSynchronized
  have hP : va_P (dC, dI) cls_t [(h, .inr (5, [.int xthrown, .int (nI xlines), .int (nI xrows), .long xweightSum, .long xpriceSum, .ref hweight, .ref hprice, .ref hisTold, .ref hcents, .ref hbyWeights, .ref hrowDays, .ref hrowThousandths, .int (nI xday), .int (nI xpaid), .ref hup, .ref hdown, .ref hcondition, .ref hhasFigures, .ref hfigureA, .ref hfigureB, .int xisRelated, .int xisTurned, .long xtest, .int xband])), (hrowDays, .inl (cI, 10, .inl frowDays)), (hrowThousandths, .inl (cI, 10, .inl frowThousandths))] s.heap := hP
  have hl := lv_entry ([.ref h]) (n := 1) (Nat.le_of_ble_eq_true rfl)
  rw [lg_entry_eq]
  generalize (lg_sl ([.ref h]) ++ List.replicate (1 - (lg_sl ([.ref h])).length) Slot.unset).toArray = ls at hl ⊢
  have hl : lv_has ls 1 [(0, .ref h)] := hl
  refine lv_aload_n hx hb de_M_discount_0 rfl (lv_at hl 0 rfl) ?_
  refine qv_callR (As := []) (rest := []) ⟨hx, hb, hml, hown, hts⟩ (mo_prices l dC dI cJ cI cZ h xthrown xlines xrows xweightSum xpriceSum hweight hprice hisTold hcents hbyWeights hrowDays hrowThousandths xday xpaid hup hdown hcondition hhasFigures hfigureA hfigureB xisRelated xisTurned xtest xband) (cwV 0 hts (gd_V wd_806 wd_808 wd_26 wd_47 wd_809) rfl rfl rfl (by decide +kernel) ⟨Nat.le_of_ble_eq_true rfl, Nat.le_of_ble_eq_true rfl⟩) hK hP [0] rfl rfl rfl rfl hl.1 rfl (Nat.le_of_ble_eq_true rfl) de_M_discount_1 ⟨Nat.zero_le _, Nat.zero_le _⟩ ?_
  refine lv_aload_n hx hb de_M_discount_4 rfl (lv_at hl 0 rfl) ?_
  refine qv_callR (As := []) (rest := [.long xpriceSum]) ⟨hx, hb, hml, hown, hts⟩ (mo_thou l dC dI cJ cI cZ h xthrown xlines xrows xweightSum xpriceSum hweight hprice hisTold hcents hbyWeights hrowDays hrowThousandths xday xpaid hup hdown hcondition hhasFigures hfigureA hfigureB xisRelated xisTurned xtest xband frowDays frowThousandths (by omega)) (cwV 0 hts (gd_V wd_810 wd_812 wd_27 wd_47 wd_813) rfl rfl rfl (by decide +kernel) ⟨Nat.le_of_ble_eq_true rfl, Nat.le_of_ble_eq_true rfl⟩) hK hP [0, 1, 2] rfl rfl rfl rfl hl.1 rfl (Nat.le_of_ble_eq_true rfl) de_M_discount_5 ⟨Nat.zero_le _, Nat.zero_le _⟩ ?_
  refine lv_i2l (v := (sp_thou frowDays frowThousandths (nI xday) (nI xpaid) xrows).toInt64) hx hb de_M_discount_8 rfl ?_
  refine lv_lmul hx hb de_M_discount_9 ?_
  refine lv_ldc2 (v := 1000) hx hb hown (hts _ wd_748) de_M_discount_10 ?_
  refine qv_callS (As := [.long (xpriceSum * ((sp_thou frowDays frowThousandths (nI xday) (nI xpaid) xrows).toInt64)), .long 1000]) (rest := []) ⟨hx, hb, hml, hown, hts⟩ (ms_near l dC dI cJ cI cZ (xpriceSum * ((sp_thou frowDays frowThousandths (nI xday) (nI xpaid) xrows).toInt64)) 1000 (by decide)) (cwS 2 hts (gd_S wd_814 wd_815 wd_47 wd_816) rfl rfl rfl (by decide +kernel) ⟨Nat.le_of_ble_eq_true rfl, Nat.le_of_ble_eq_true rfl⟩) rfl hl.1 rfl (Nat.le_of_ble_eq_true rfl) de_M_discount_13 ⟨Nat.zero_le _, Nat.zero_le _⟩ ?_
  exact W.lret (v := sm_near (xpriceSum * ((sp_thou frowDays frowThousandths (nI xday) (nI xpaid) xrows).toInt64)) 1000) hx hb hr (fun t9 ht9 hW9 => ⟨congrArg (fun z => Outcome.returned (some (Value.long z))) (show (sm_near (xpriceSum * ((sp_thou frowDays frowThousandths (nI xday) (nI xpaid) xrows).toInt64)) 1000) = (sm_disc xpriceSum frowDays frowThousandths xday xpaid xrows) from by simp only [sm_disc]), ht9⟩) (fun _ h => nomatch h) de_M_discount_16
set_option maxHeartbeats 4000000 in
set_option maxRecDepth 100000 in
/-- transactionOf -/
theorem mo_trn (l : Launch) (dC : Nat → ClassId) (dI : Nat → Nat → Nat) (cJ cI cZ : Nat) (h : Nat) (xthrown : Int32) (xlines : Nat) (xrows : Nat) (xweightSum : Int64) (xpriceSum : Int64) (hweight : Nat) (hprice : Nat) (hisTold : Nat) (hcents : Nat) (hbyWeights : Nat) (hrowDays : Nat) (hrowThousandths : Nat) (xday : Nat) (xpaid : Nat) (hup : Nat) (hdown : Nat) (hcondition : Nat) (hhasFigures : Nat) (hfigureA : Nat) (hfigureB : Nat) (xisRelated : Int32) (xisTurned : Int32) (xtest : Int64) (xband : Int32) (fweight : Nat → Int64) (fprice : Nat → Int64) (fisTold : Nat → Int32) (fcents : Nat → Int64) (fbyWeights : Nat → Int32) (frowDays : Nat → Int32) (frowThousandths : Nat → Int32) (j : Nat) (h0 : 0 < xlines) (hn : xlines ≤ 40) (hr : xrows ≤ 10) (hj : j < 40) : Met l yn_M_transactionOf ws_M_transactionOf ({ frames := 3, cells := 0, slots := 0, locals := 76 }) (va_Pc [.ref h, .int (nI j)] (qv_ro (dC, dI) cls_t [(h, .inr (5, [.int xthrown, .int (nI xlines), .int (nI xrows), .long xweightSum, .long xpriceSum, .ref hweight, .ref hprice, .ref hisTold, .ref hcents, .ref hbyWeights, .ref hrowDays, .ref hrowThousandths, .int (nI xday), .int (nI xpaid), .ref hup, .ref hdown, .ref hcondition, .ref hhasFigures, .ref hfigureA, .ref hfigureB, .int xisRelated, .int xisTurned, .long xtest, .int xband])), (hweight, .inl (cJ, 40, .inr (.inl fweight))), (hprice, .inl (cJ, 40, .inr (.inl fprice))), (hisTold, .inl (cZ, 9, .inl fisTold)), (hcents, .inl (cJ, 9, .inr (.inl fcents))), (hbyWeights, .inl (cZ, 9, .inl fbyWeights)), (hrowDays, .inl (cI, 10, .inl frowDays)), (hrowThousandths, .inl (cI, 10, .inl frowThousandths))] [(cJ, .long), (cI, .int), (cZ, .boolean)])) (k2_QcV (.long (sm_trn fweight fprice xlines xweightSum xpriceSum (sm_disc xpriceSum frowDays frowThousandths xday xpaid xrows) fisTold fcents fbyWeights j))) 0 0 (fun _ => False) := by
  refine Met.ofW (cc := by_M_transactionOf) (maxL := 7) (ret := (some .long)) (by decide) rfl ?_
  intro p e s m args below meth c s₁ B hml hv
  obtain ⟨rfl, hP, hK⟩ := hv
  have hx := B.exec
  have hb := B.bytes
  have hr := B.returns
  have hts := fun (w : Cond) (h : w ∈ lw_gt) => atoms_spec (ws := ws_M_transactionOf) B.pre w (List.mem_cons_of_mem _ h)
  have hown : s.vm.findClass rn_M = some m.cls := findClass_of_methodNamed B.named
  have hlocks := B.notSynchronized
  have hP : va_P (dC, dI) cls_t [(h, .inr (5, [.int xthrown, .int (nI xlines), .int (nI xrows), .long xweightSum, .long xpriceSum, .ref hweight, .ref hprice, .ref hisTold, .ref hcents, .ref hbyWeights, .ref hrowDays, .ref hrowThousandths, .int (nI xday), .int (nI xpaid), .ref hup, .ref hdown, .ref hcondition, .ref hhasFigures, .ref hfigureA, .ref hfigureB, .int xisRelated, .int xisTurned, .long xtest, .int xband])), (hweight, .inl (cJ, 40, .inr (.inl fweight))), (hprice, .inl (cJ, 40, .inr (.inl fprice))), (hisTold, .inl (cZ, 9, .inl fisTold)), (hcents, .inl (cJ, 9, .inr (.inl fcents))), (hbyWeights, .inl (cZ, 9, .inl fbyWeights)), (hrowDays, .inl (cI, 10, .inl frowDays)), (hrowThousandths, .inl (cI, 10, .inl frowThousandths))] s.heap := hP
  have hl := lv_entry ([.ref h, .int (nI j)]) (n := 7) (Nat.le_of_ble_eq_true rfl)
  rw [lg_entry_eq]
  generalize (lg_sl ([.ref h, .int (nI j)]) ++ List.replicate (7 - (lg_sl ([.ref h, .int (nI j)])).length) Slot.unset).toArray = ls at hl ⊢
  have hl : lv_has ls 7 [(0, .ref h), (1, .int (nI j))] := hl
  refine lv_aload_n hx hb de_M_transactionOf_0 rfl (lv_at hl 0 rfl) ?_
  refine va_get (D := (dC, dI)) (ci := 5) (v := .ref hprice) (C := rn_M) (T := tf_M) (N := 24) hx hb hts in_M hown hK hP 0 rfl rfl 6 (by decide) (hts _ wd_649) (fun _ h9 => h9) rfl de_M_transactionOf_1 ?_
  refine lv_iload_n hx hb de_M_transactionOf_4 rfl (lv_at hl 1 rfl) ?_
  refine qv_lald (k := j) hx hb hK hP 2 0 rfl rfl (by omega) (by omega) de_M_transactionOf_5 ?_
  refine lv_aload_n hx hb de_M_transactionOf_6 rfl (lv_at hl 0 rfl) ?_
  refine lv_aload_n hx hb de_M_transactionOf_7 rfl (lv_at hl 0 rfl) ?_
  refine qv_callR (As := []) (rest := [.ref h, .long (fprice j)]) ⟨hx, hb, hml, hown, hts⟩ (mo_disc l dC dI cJ cI cZ h xthrown xlines xrows xweightSum xpriceSum hweight hprice hisTold hcents hbyWeights hrowDays hrowThousandths xday xpaid hup hdown hcondition hhasFigures hfigureA hfigureB xisRelated xisTurned xtest xband frowDays frowThousandths (by omega)) (cwV 0 hts (gd_V wd_802 wd_804 wd_25 wd_47 wd_805) rfl rfl rfl (by decide +kernel) ⟨Nat.le_of_ble_eq_true rfl, Nat.le_of_ble_eq_true rfl⟩) hK hP [0, 6, 7] rfl rfl rfl rfl hl.1 rfl (Nat.le_of_ble_eq_true rfl) de_M_transactionOf_8 ⟨Nat.zero_le _, Nat.zero_le _⟩ ?_
  refine lv_iload_n hx hb de_M_transactionOf_11 rfl (lv_at hl 1 rfl) ?_
  refine lv_iconst (v := 0) hx hb de_M_transactionOf_12 (by decide) ?_
  refine qv_callR (As := [.long (sm_disc xpriceSum frowDays frowThousandths xday xpaid xrows), .int (nI j), .int 0]) (rest := [.long (fprice j)]) ⟨hx, hb, hml, hown, hts⟩ (mo_shareOf l dC dI cJ cI cZ h xthrown xlines xrows xweightSum xpriceSum hweight hprice hisTold hcents hbyWeights hrowDays hrowThousandths xday xpaid hup hdown hcondition hhasFigures hfigureA hfigureB xisRelated xisTurned xtest xband fweight fprice (sm_disc xpriceSum frowDays frowThousandths xday xpaid xrows) j 0 (by omega) (by omega) (by omega)) (cwV 3 hts (gd_V wd_817 wd_819 wd_28 wd_47 wd_820) rfl rfl rfl (by decide +kernel) ⟨Nat.le_of_ble_eq_true rfl, Nat.le_of_ble_eq_true rfl⟩) hK hP [0, 1, 2] rfl rfl rfl rfl hl.1 rfl (Nat.le_of_ble_eq_true rfl) de_M_transactionOf_13 ⟨Nat.zero_le _, Nat.zero_le _⟩ ?_
  refine lv_lsub hx hb de_M_transactionOf_16 ?_
  refine lv_lstore_n (lv' := [(2, .long ((fprice j) - (sm_share fweight fprice xlines xweightSum xpriceSum (sm_disc xpriceSum frowDays frowThousandths xday xpaid xrows) j 0))), (0, .ref h), (1, .int (nI j))]) hx hb de_M_transactionOf_17 rfl hl (by decide) rfl (fun ls hl => ?_)
  refine lv_iconst (v := 0) hx hb de_M_transactionOf_18 (by decide) ?_
  refine lv_istore (lv' := [(4, .int 0), (2, .long ((fprice j) - (sm_share fweight fprice xlines xweightSum xpriceSum (sm_disc xpriceSum frowDays frowThousandths xday xpaid xrows) j 0))), (0, .ref h), (1, .int (nI j))]) hx hb de_M_transactionOf_19 hl (by decide) rfl (fun ls hl => ?_)
  refine qv_loop (N := 9) (i0 := 0) (fun k H locs ls => H = s.heap ∧ locs = [] ∧ lv_has ls 7 [(4, .int (nI k)), (2, .long (sm_tr ((fprice j) - (sm_share fweight fprice xlines xweightSum xpriceSum (sm_disc xpriceSum frowDays frowThousandths xday xpaid xrows) j 0)) fisTold (fun k => sm_share fweight fprice xlines xweightSum xpriceSum (fcents k) j (fbyWeights k)) k)), (0, .ref h), (1, .int (nI j))]) (Nat.zero_le _) ⟨rfl, rfl, lv_sub hl [0, 1, 2, 3] rfl⟩ (fun k H locs ls hi_21 hI hk_21 => ?_) (fun H locs ls hI => ?_)
  · obtain ⟨rfl, rfl, hl⟩ := hI
    refine lv_iload hx hb de_M_transactionOf_21 (lv_at hl 0 rfl) ?_
    refine lv_bipush (v := 9) hx hb de_M_transactionOf_23 (by decide) ?_
    refine lv_icmp_ge (tgt := 86) hx hb de_M_transactionOf_25 (by decide) (fun c_1 => ((nI_ge hi_21 (by decide) c_1)).elim) (fun _ => ?_)
    refine lv_aload_n hx hb de_M_transactionOf_28 rfl (lv_at hl 2 rfl) ?_
    refine va_get (D := (dC, dI)) (ci := 5) (v := .ref hisTold) (C := rn_M) (T := tf_M) (N := 24) hx hb hts in_M hown hK hP 0 rfl rfl 7 (by decide) (hts _ wd_650) (fun _ h9 => h9) rfl de_M_transactionOf_29 ?_
    refine lv_iload hx hb de_M_transactionOf_32 (lv_at hl 0 rfl) ?_
    refine qv_zald (k := k) hx hb hK hP 3 2 rfl rfl (by omega) (by omega) de_M_transactionOf_34 ?_
    refine lv_if_eq (tgt := 60) hx hb de_M_transactionOf_35 (by decide) (fun c_2 => ?_) (fun c_2 => ?_)
    · refine lv_lconst (v := 0) hx hb de_M_transactionOf_60 (by decide) ?_
      refine lv_lstore (lv' := [(5, .long 0), (4, .int (nI k)), (2, .long (sm_tr ((fprice j) - (sm_share fweight fprice xlines xweightSum xpriceSum (sm_disc xpriceSum frowDays frowThousandths xday xpaid xrows) j 0)) fisTold (fun k => sm_share fweight fprice xlines xweightSum xpriceSum (fcents k) j (fbyWeights k)) k)), (0, .ref h), (1, .int (nI j))]) hx hb de_M_transactionOf_61 hl (by decide) rfl (fun ls hl => ?_)
      refine lv_lload_n hx hb de_M_transactionOf_63 rfl (lv_at hl 2 rfl) ?_
      refine lv_iload hx hb de_M_transactionOf_64 (lv_at hl 1 rfl) ?_
      refine lv_iconst (v := 5) hx hb de_M_transactionOf_66 (by decide) ?_
      refine lv_icmp_ge (tgt := 75) hx hb de_M_transactionOf_67 (by decide) (fun c_3 => ?_) (fun c_3 => ?_)
      · refine lv_lload hx hb de_M_transactionOf_75 (lv_at hl 0 rfl) ?_
        refine lv_lneg hx hb de_M_transactionOf_77 ?_
        refine lv_ladd hx hb de_M_transactionOf_78 ?_
        refine lv_lstore_n (lv' := [(2, .long ((sm_tr ((fprice j) - (sm_share fweight fprice xlines xweightSum xpriceSum (sm_disc xpriceSum frowDays frowThousandths xday xpaid xrows) j 0)) fisTold (fun k => sm_share fweight fprice xlines xweightSum xpriceSum (fcents k) j (fbyWeights k)) k) + (-0))), (5, .long 0), (4, .int (nI k)), (0, .ref h), (1, .int (nI j))]) hx hb de_M_transactionOf_79 rfl hl (by decide) rfl (fun ls hl => ?_)
        refine lv_iinc (v := nI (k + 1)) (lv' := [(4, .int (nI (k + 1))), (2, .long ((sm_tr ((fprice j) - (sm_share fweight fprice xlines xweightSum xpriceSum (sm_disc xpriceSum frowDays frowThousandths xday xpaid xrows) j 0)) fisTold (fun k => sm_share fweight fprice xlines xweightSum xpriceSum (fcents k) j (fbyWeights k)) k) + (-0))), (5, .long 0), (0, .ref h), (1, .int (nI j))]) hx hb de_M_transactionOf_80 hl (k := 2) rfl (nI_1 _) (by decide) rfl (fun ls hl => ?_)
        refine lv_goto (tgt := 21) hx hb de_M_transactionOf_83 (by decide) ?_
        have hl : lv_has ls 7 [(4, .int (nI (k + 1))), (2, .long (sm_tr ((fprice j) - (sm_share fweight fprice xlines xweightSum xpriceSum (sm_disc xpriceSum frowDays frowThousandths xday xpaid xrows) j 0)) fisTold (fun k => sm_share fweight fprice xlines xweightSum xpriceSum (fcents k) j (fbyWeights k)) (k + 1))), (5, .long 0), (0, .ref h), (1, .int (nI j))] := by rw [show sm_tr ((fprice j) - (sm_share fweight fprice xlines xweightSum xpriceSum (sm_disc xpriceSum frowDays frowThousandths xday xpaid xrows) j 0)) fisTold (fun k => sm_share fweight fprice xlines xweightSum xpriceSum (fcents k) j (fbyWeights k)) (k + 1) = (sm_tr ((fprice j) - (sm_share fweight fprice xlines xweightSum xpriceSum (sm_disc xpriceSum frowDays frowThousandths xday xpaid xrows) j 0)) fisTold (fun k => sm_share fweight fprice xlines xweightSum xpriceSum (fcents k) j (fbyWeights k)) k) + (-0) from by rw [sm_tr, if_pos c_2, if_pos c_3]]; exact hl
        exact hk_21 _ _ _ ⟨rfl, rfl, lv_sub hl [0, 1, 3, 4] rfl⟩
      · refine lv_lload hx hb de_M_transactionOf_70 (lv_at hl 0 rfl) ?_
        refine lv_goto (tgt := 78) hx hb de_M_transactionOf_72 (by decide) ?_
        refine lv_ladd hx hb de_M_transactionOf_78 ?_
        refine lv_lstore_n (lv' := [(2, .long ((sm_tr ((fprice j) - (sm_share fweight fprice xlines xweightSum xpriceSum (sm_disc xpriceSum frowDays frowThousandths xday xpaid xrows) j 0)) fisTold (fun k => sm_share fweight fprice xlines xweightSum xpriceSum (fcents k) j (fbyWeights k)) k) + 0)), (5, .long 0), (4, .int (nI k)), (0, .ref h), (1, .int (nI j))]) hx hb de_M_transactionOf_79 rfl hl (by decide) rfl (fun ls hl => ?_)
        refine lv_iinc (v := nI (k + 1)) (lv' := [(4, .int (nI (k + 1))), (2, .long ((sm_tr ((fprice j) - (sm_share fweight fprice xlines xweightSum xpriceSum (sm_disc xpriceSum frowDays frowThousandths xday xpaid xrows) j 0)) fisTold (fun k => sm_share fweight fprice xlines xweightSum xpriceSum (fcents k) j (fbyWeights k)) k) + 0)), (5, .long 0), (0, .ref h), (1, .int (nI j))]) hx hb de_M_transactionOf_80 hl (k := 2) rfl (nI_1 _) (by decide) rfl (fun ls hl => ?_)
        refine lv_goto (tgt := 21) hx hb de_M_transactionOf_83 (by decide) ?_
        have hl : lv_has ls 7 [(4, .int (nI (k + 1))), (2, .long (sm_tr ((fprice j) - (sm_share fweight fprice xlines xweightSum xpriceSum (sm_disc xpriceSum frowDays frowThousandths xday xpaid xrows) j 0)) fisTold (fun k => sm_share fweight fprice xlines xweightSum xpriceSum (fcents k) j (fbyWeights k)) (k + 1))), (5, .long 0), (0, .ref h), (1, .int (nI j))] := by rw [show sm_tr ((fprice j) - (sm_share fweight fprice xlines xweightSum xpriceSum (sm_disc xpriceSum frowDays frowThousandths xday xpaid xrows) j 0)) fisTold (fun k => sm_share fweight fprice xlines xweightSum xpriceSum (fcents k) j (fbyWeights k)) (k + 1) = (sm_tr ((fprice j) - (sm_share fweight fprice xlines xweightSum xpriceSum (sm_disc xpriceSum frowDays frowThousandths xday xpaid xrows) j 0)) fisTold (fun k => sm_share fweight fprice xlines xweightSum xpriceSum (fcents k) j (fbyWeights k)) k) + 0 from by rw [sm_tr, if_pos c_2, if_neg c_3]]; exact hl
        exact hk_21 _ _ _ ⟨rfl, rfl, lv_sub hl [0, 1, 3, 4] rfl⟩
    · refine lv_aload_n hx hb de_M_transactionOf_38 rfl (lv_at hl 2 rfl) ?_
      refine lv_aload_n hx hb de_M_transactionOf_39 rfl (lv_at hl 2 rfl) ?_
      refine va_get (D := (dC, dI)) (ci := 5) (v := .ref hcents) (C := rn_M) (T := tf_M) (N := 24) hx hb hts in_M hown hK hP 0 rfl rfl 8 (by decide) (hts _ wd_651) (fun _ h9 => h9) rfl de_M_transactionOf_40 ?_
      refine lv_iload hx hb de_M_transactionOf_43 (lv_at hl 0 rfl) ?_
      refine qv_lald (k := k) hx hb hK hP 4 0 rfl rfl (by omega) (by omega) de_M_transactionOf_45 ?_
      refine lv_iload_n hx hb de_M_transactionOf_46 rfl (lv_at hl 3 rfl) ?_
      refine lv_aload_n hx hb de_M_transactionOf_47 rfl (lv_at hl 2 rfl) ?_
      refine va_get (D := (dC, dI)) (ci := 5) (v := .ref hbyWeights) (C := rn_M) (T := tf_M) (N := 24) hx hb hts in_M hown hK hP 0 rfl rfl 9 (by decide) (hts _ wd_652) (fun _ h9 => h9) rfl de_M_transactionOf_48 ?_
      refine lv_iload hx hb de_M_transactionOf_51 (lv_at hl 0 rfl) ?_
      refine qv_zald (k := k) hx hb hK hP 5 2 rfl rfl (by omega) (by omega) de_M_transactionOf_53 ?_
      refine qv_callR (As := [.long (fcents k), .int (nI j), .int (fbyWeights k)]) (rest := []) ⟨hx, hb, hml, hown, hts⟩ (mo_shareOf l dC dI cJ cI cZ h xthrown xlines xrows xweightSum xpriceSum hweight hprice hisTold hcents hbyWeights hrowDays hrowThousandths xday xpaid hup hdown hcondition hhasFigures hfigureA hfigureB xisRelated xisTurned xtest xband fweight fprice (fcents k) j (fbyWeights k) (by omega) (by omega) (by omega)) (cwV 3 hts (gd_V wd_817 wd_819 wd_28 wd_47 wd_820) rfl rfl rfl (by decide +kernel) ⟨Nat.le_of_ble_eq_true rfl, Nat.le_of_ble_eq_true rfl⟩) hK hP [0, 1, 2] rfl rfl rfl rfl hl.1 rfl (Nat.le_of_ble_eq_true rfl) de_M_transactionOf_54 ⟨Nat.zero_le _, Nat.zero_le _⟩ ?_
      refine lv_goto (tgt := 61) hx hb de_M_transactionOf_57 (by decide) ?_
      refine lv_lstore (lv' := [(5, .long (sm_share fweight fprice xlines xweightSum xpriceSum (fcents k) j (fbyWeights k))), (4, .int (nI k)), (2, .long (sm_tr ((fprice j) - (sm_share fweight fprice xlines xweightSum xpriceSum (sm_disc xpriceSum frowDays frowThousandths xday xpaid xrows) j 0)) fisTold (fun k => sm_share fweight fprice xlines xweightSum xpriceSum (fcents k) j (fbyWeights k)) k)), (0, .ref h), (1, .int (nI j))]) hx hb de_M_transactionOf_61 hl (by decide) rfl (fun ls hl => ?_)
      refine lv_lload_n hx hb de_M_transactionOf_63 rfl (lv_at hl 2 rfl) ?_
      refine lv_iload hx hb de_M_transactionOf_64 (lv_at hl 1 rfl) ?_
      refine lv_iconst (v := 5) hx hb de_M_transactionOf_66 (by decide) ?_
      refine lv_icmp_ge (tgt := 75) hx hb de_M_transactionOf_67 (by decide) (fun c_4 => ?_) (fun c_4 => ?_)
      · refine lv_lload hx hb de_M_transactionOf_75 (lv_at hl 0 rfl) ?_
        refine lv_lneg hx hb de_M_transactionOf_77 ?_
        refine lv_ladd hx hb de_M_transactionOf_78 ?_
        refine lv_lstore_n (lv' := [(2, .long ((sm_tr ((fprice j) - (sm_share fweight fprice xlines xweightSum xpriceSum (sm_disc xpriceSum frowDays frowThousandths xday xpaid xrows) j 0)) fisTold (fun k => sm_share fweight fprice xlines xweightSum xpriceSum (fcents k) j (fbyWeights k)) k) + (-(sm_share fweight fprice xlines xweightSum xpriceSum (fcents k) j (fbyWeights k))))), (5, .long (sm_share fweight fprice xlines xweightSum xpriceSum (fcents k) j (fbyWeights k))), (4, .int (nI k)), (0, .ref h), (1, .int (nI j))]) hx hb de_M_transactionOf_79 rfl hl (by decide) rfl (fun ls hl => ?_)
        refine lv_iinc (v := nI (k + 1)) (lv' := [(4, .int (nI (k + 1))), (2, .long ((sm_tr ((fprice j) - (sm_share fweight fprice xlines xweightSum xpriceSum (sm_disc xpriceSum frowDays frowThousandths xday xpaid xrows) j 0)) fisTold (fun k => sm_share fweight fprice xlines xweightSum xpriceSum (fcents k) j (fbyWeights k)) k) + (-(sm_share fweight fprice xlines xweightSum xpriceSum (fcents k) j (fbyWeights k))))), (5, .long (sm_share fweight fprice xlines xweightSum xpriceSum (fcents k) j (fbyWeights k))), (0, .ref h), (1, .int (nI j))]) hx hb de_M_transactionOf_80 hl (k := 2) rfl (nI_1 _) (by decide) rfl (fun ls hl => ?_)
        refine lv_goto (tgt := 21) hx hb de_M_transactionOf_83 (by decide) ?_
        have hl : lv_has ls 7 [(4, .int (nI (k + 1))), (2, .long (sm_tr ((fprice j) - (sm_share fweight fprice xlines xweightSum xpriceSum (sm_disc xpriceSum frowDays frowThousandths xday xpaid xrows) j 0)) fisTold (fun k => sm_share fweight fprice xlines xweightSum xpriceSum (fcents k) j (fbyWeights k)) (k + 1))), (5, .long (sm_share fweight fprice xlines xweightSum xpriceSum (fcents k) j (fbyWeights k))), (0, .ref h), (1, .int (nI j))] := by rw [show sm_tr ((fprice j) - (sm_share fweight fprice xlines xweightSum xpriceSum (sm_disc xpriceSum frowDays frowThousandths xday xpaid xrows) j 0)) fisTold (fun k => sm_share fweight fprice xlines xweightSum xpriceSum (fcents k) j (fbyWeights k)) (k + 1) = (sm_tr ((fprice j) - (sm_share fweight fprice xlines xweightSum xpriceSum (sm_disc xpriceSum frowDays frowThousandths xday xpaid xrows) j 0)) fisTold (fun k => sm_share fweight fprice xlines xweightSum xpriceSum (fcents k) j (fbyWeights k)) k) + (-(sm_share fweight fprice xlines xweightSum xpriceSum (fcents k) j (fbyWeights k))) from by rw [sm_tr, if_neg c_2, if_pos c_4]]; exact hl
        exact hk_21 _ _ _ ⟨rfl, rfl, lv_sub hl [0, 1, 3, 4] rfl⟩
      · refine lv_lload hx hb de_M_transactionOf_70 (lv_at hl 0 rfl) ?_
        refine lv_goto (tgt := 78) hx hb de_M_transactionOf_72 (by decide) ?_
        refine lv_ladd hx hb de_M_transactionOf_78 ?_
        refine lv_lstore_n (lv' := [(2, .long ((sm_tr ((fprice j) - (sm_share fweight fprice xlines xweightSum xpriceSum (sm_disc xpriceSum frowDays frowThousandths xday xpaid xrows) j 0)) fisTold (fun k => sm_share fweight fprice xlines xweightSum xpriceSum (fcents k) j (fbyWeights k)) k) + (sm_share fweight fprice xlines xweightSum xpriceSum (fcents k) j (fbyWeights k)))), (5, .long (sm_share fweight fprice xlines xweightSum xpriceSum (fcents k) j (fbyWeights k))), (4, .int (nI k)), (0, .ref h), (1, .int (nI j))]) hx hb de_M_transactionOf_79 rfl hl (by decide) rfl (fun ls hl => ?_)
        refine lv_iinc (v := nI (k + 1)) (lv' := [(4, .int (nI (k + 1))), (2, .long ((sm_tr ((fprice j) - (sm_share fweight fprice xlines xweightSum xpriceSum (sm_disc xpriceSum frowDays frowThousandths xday xpaid xrows) j 0)) fisTold (fun k => sm_share fweight fprice xlines xweightSum xpriceSum (fcents k) j (fbyWeights k)) k) + (sm_share fweight fprice xlines xweightSum xpriceSum (fcents k) j (fbyWeights k)))), (5, .long (sm_share fweight fprice xlines xweightSum xpriceSum (fcents k) j (fbyWeights k))), (0, .ref h), (1, .int (nI j))]) hx hb de_M_transactionOf_80 hl (k := 2) rfl (nI_1 _) (by decide) rfl (fun ls hl => ?_)
        refine lv_goto (tgt := 21) hx hb de_M_transactionOf_83 (by decide) ?_
        have hl : lv_has ls 7 [(4, .int (nI (k + 1))), (2, .long (sm_tr ((fprice j) - (sm_share fweight fprice xlines xweightSum xpriceSum (sm_disc xpriceSum frowDays frowThousandths xday xpaid xrows) j 0)) fisTold (fun k => sm_share fweight fprice xlines xweightSum xpriceSum (fcents k) j (fbyWeights k)) (k + 1))), (5, .long (sm_share fweight fprice xlines xweightSum xpriceSum (fcents k) j (fbyWeights k))), (0, .ref h), (1, .int (nI j))] := by rw [show sm_tr ((fprice j) - (sm_share fweight fprice xlines xweightSum xpriceSum (sm_disc xpriceSum frowDays frowThousandths xday xpaid xrows) j 0)) fisTold (fun k => sm_share fweight fprice xlines xweightSum xpriceSum (fcents k) j (fbyWeights k)) (k + 1) = (sm_tr ((fprice j) - (sm_share fweight fprice xlines xweightSum xpriceSum (sm_disc xpriceSum frowDays frowThousandths xday xpaid xrows) j 0)) fisTold (fun k => sm_share fweight fprice xlines xweightSum xpriceSum (fcents k) j (fbyWeights k)) k) + (sm_share fweight fprice xlines xweightSum xpriceSum (fcents k) j (fbyWeights k)) from by rw [sm_tr, if_neg c_2, if_neg c_4]]; exact hl
        exact hk_21 _ _ _ ⟨rfl, rfl, lv_sub hl [0, 1, 3, 4] rfl⟩
  · obtain ⟨rfl, rfl, hl⟩ := hI
    refine lv_iload hx hb de_M_transactionOf_21 (lv_at hl 0 rfl) ?_
    refine lv_bipush (v := 9) hx hb de_M_transactionOf_23 (by decide) ?_
    refine lv_icmp_ge (tgt := 86) hx hb de_M_transactionOf_25 (by decide) (fun _ => ?_) (fun c_5 => ((absurd c_5 (by decide) : False)).elim)
    refine lv_lload_n hx hb de_M_transactionOf_86 rfl (lv_at hl 1 rfl) ?_
    exact W.lret (v := sm_tr ((fprice j) - (sm_share fweight fprice xlines xweightSum xpriceSum (sm_disc xpriceSum frowDays frowThousandths xday xpaid xrows) j 0)) fisTold (fun k => sm_share fweight fprice xlines xweightSum xpriceSum (fcents k) j (fbyWeights k)) 9) hx hb hr (fun t9 ht9 hW9 => ⟨congrArg (fun z => Outcome.returned (some (Value.long z))) rfl, ht9⟩) (fun _ h => nomatch h) de_M_transactionOf_87
set_option maxHeartbeats 4000000 in
set_option maxRecDepth 100000 in
/-- told -/
theorem mo_told (l : Launch) (dC : Nat → ClassId) (dI : Nat → Nat → Nat) (cJ cI cZ : Nat) (h : Nat) (xthrown : Int32) (xlines : Nat) (xrows : Nat) (xweightSum : Int64) (xpriceSum : Int64) (hweight : Nat) (hprice : Nat) (hisTold : Nat) (hcents : Nat) (hbyWeights : Nat) (hrowDays : Nat) (hrowThousandths : Nat) (xday : Nat) (xpaid : Nat) (hup : Nat) (hdown : Nat) (hcondition : Nat) (hhasFigures : Nat) (hfigureA : Nat) (hfigureB : Nat) (xisRelated : Int32) (xisTurned : Int32) (xtest : Int64) (xband : Int32) (fcents : Nat → Int64) (a : Nat) (b : Nat) (hab : a ≤ b) (hb9 : b ≤ 9) : Met l yn_M_told ws_M_told ({ frames := 0, cells := 0, slots := 0, locals := 0 }) (va_Pc [.ref h, .int (nI a), .int (nI b)] (qv_ro (dC, dI) cls_t [(h, .inr (5, [.int xthrown, .int (nI xlines), .int (nI xrows), .long xweightSum, .long xpriceSum, .ref hweight, .ref hprice, .ref hisTold, .ref hcents, .ref hbyWeights, .ref hrowDays, .ref hrowThousandths, .int (nI xday), .int (nI xpaid), .ref hup, .ref hdown, .ref hcondition, .ref hhasFigures, .ref hfigureA, .ref hfigureB, .int xisRelated, .int xisTurned, .long xtest, .int xband])), (hcents, .inl (cJ, 9, .inr (.inl fcents)))] [(cJ, .long), (cI, .int), (cZ, .boolean)])) (k2_QcV (.long (sm_tol fcents a (b - a)))) 0 0 (fun _ => False) := by
  refine Met.ofW (cc := by_M_told) (maxL := 6) (ret := (some .long)) (by decide) rfl ?_
  intro p e s m args below meth c s₁ B hml hv
  obtain ⟨rfl, hP, hK⟩ := hv
  have hx := B.exec
  have hb := B.bytes
  have hr := B.returns
  have hts := fun (w : Cond) (h : w ∈ lw_gt) => atoms_spec (ws := ws_M_told) B.pre w (List.mem_cons_of_mem _ h)
  have hown : s.vm.findClass rn_M = some m.cls := findClass_of_methodNamed B.named
  have hlocks := B.notSynchronized
  have hP : va_P (dC, dI) cls_t [(h, .inr (5, [.int xthrown, .int (nI xlines), .int (nI xrows), .long xweightSum, .long xpriceSum, .ref hweight, .ref hprice, .ref hisTold, .ref hcents, .ref hbyWeights, .ref hrowDays, .ref hrowThousandths, .int (nI xday), .int (nI xpaid), .ref hup, .ref hdown, .ref hcondition, .ref hhasFigures, .ref hfigureA, .ref hfigureB, .int xisRelated, .int xisTurned, .long xtest, .int xband])), (hcents, .inl (cJ, 9, .inr (.inl fcents)))] s.heap := hP
  have hl := lv_entry ([.ref h, .int (nI a), .int (nI b)]) (n := 6) (Nat.le_of_ble_eq_true rfl)
  rw [lg_entry_eq]
  generalize (lg_sl ([.ref h, .int (nI a), .int (nI b)]) ++ List.replicate (6 - (lg_sl ([.ref h, .int (nI a), .int (nI b)])).length) Slot.unset).toArray = ls at hl ⊢
  have hl : lv_has ls 6 [(0, .ref h), (1, .int (nI a)), (2, .int (nI b))] := hl
  refine lv_lconst (v := 0) hx hb de_M_told_0 (by decide) ?_
  refine lv_lstore_n (lv' := [(3, .long 0), (0, .ref h), (1, .int (nI a)), (2, .int (nI b))]) hx hb de_M_told_1 rfl hl (by decide) rfl (fun ls hl => ?_)
  refine lv_iload_n hx hb de_M_told_2 rfl (lv_at hl 2 rfl) ?_
  refine lv_istore (lv' := [(5, .int (nI a)), (3, .long 0), (0, .ref h), (1, .int (nI a)), (2, .int (nI b))]) hx hb de_M_told_3 hl (by decide) rfl (fun ls hl => ?_)
  refine qv_loop (N := b - a) (i0 := 0) (fun i H locs ls => H = s.heap ∧ locs = [] ∧ lv_has ls 6 [(5, .int (nI (a + i))), (3, .long (sm_tol fcents a i)), (0, .ref h), (1, .int (nI a)), (2, .int (nI b))]) (Nat.zero_le _) ⟨rfl, rfl, lv_sub hl [0, 1, 2, 3, 4] rfl⟩ (fun i H locs ls hi_5 hI hk_5 => ?_) (fun H locs ls hI => ?_)
  · obtain ⟨rfl, rfl, hl⟩ := hI
    refine lv_iload hx hb de_M_told_5 (lv_at hl 0 rfl) ?_
    refine lv_iload_n hx hb de_M_told_7 rfl (lv_at hl 4 rfl) ?_
    refine lv_icmp_ge (tgt := 27) hx hb de_M_told_8 (by decide) (fun c_1 => ((nI_ge (show a + i < b by omega) (by omega) c_1)).elim) (fun _ => ?_)
    refine lv_lload_n hx hb de_M_told_11 rfl (lv_at hl 1 rfl) ?_
    refine lv_aload_n hx hb de_M_told_12 rfl (lv_at hl 2 rfl) ?_
    refine va_get (D := (dC, dI)) (ci := 5) (v := .ref hcents) (C := rn_M) (T := tf_M) (N := 24) hx hb hts in_M hown hK hP 0 rfl rfl 8 (by decide) (hts _ wd_651) (fun _ h9 => h9) rfl de_M_told_13 ?_
    refine lv_iload hx hb de_M_told_16 (lv_at hl 0 rfl) ?_
    refine qv_lald (k := (a + i)) hx hb hK hP 1 0 rfl rfl (by omega) (by omega) de_M_told_18 ?_
    refine lv_ladd hx hb de_M_told_19 ?_
    refine lv_lstore_n (lv' := [(3, .long ((sm_tol fcents a i) + (fcents (a + i)))), (5, .int (nI (a + i))), (0, .ref h), (1, .int (nI a)), (2, .int (nI b))]) hx hb de_M_told_20 rfl hl (by decide) rfl (fun ls hl => ?_)
    refine lv_iinc (v := nI ((a + i) + 1)) (lv' := [(5, .int (nI ((a + i) + 1))), (3, .long ((sm_tol fcents a i) + (fcents (a + i)))), (0, .ref h), (1, .int (nI a)), (2, .int (nI b))]) hx hb de_M_told_21 hl (k := 1) rfl (nI_1 _) (by decide) rfl (fun ls hl => ?_)
    refine lv_goto (tgt := 5) hx hb de_M_told_24 (by decide) ?_
    exact hk_5 _ _ _ ⟨rfl, rfl, lv_sub hl [0, 1, 2, 3, 4] rfl⟩
  · obtain ⟨rfl, rfl, hl⟩ := hI
    refine lv_iload hx hb de_M_told_5 (lv_at hl 0 rfl) ?_
    refine lv_iload_n hx hb de_M_told_7 rfl (lv_at hl 4 rfl) ?_
    refine lv_icmp_ge (tgt := 27) hx hb de_M_told_8 (by decide) (fun _ => ?_) (fun c_2 => ((c_2 (nI_le (show b ≤ a + (b - a) by omega) (by omega)))).elim)
    refine lv_lload_n hx hb de_M_told_27 rfl (lv_at hl 1 rfl) ?_
    exact W.lret (v := sm_tol fcents a (b - a)) hx hb hr (fun t9 ht9 hW9 => ⟨congrArg (fun z => Outcome.returned (some (Value.long z))) rfl, ht9⟩) (fun _ h => nomatch h) de_M_told_28
set_option maxHeartbeats 4000000 in
set_option maxRecDepth 100000 in
/-- isTested -/
theorem mo_tested (l : Launch) (dC : Nat → ClassId) (dI : Nat → Nat → Nat) (cJ cI cZ : Nat) (h : Nat) (xthrown : Int32) (xlines : Nat) (xrows : Nat) (xweightSum : Int64) (xpriceSum : Int64) (hweight : Nat) (hprice : Nat) (hisTold : Nat) (hcents : Nat) (hbyWeights : Nat) (hrowDays : Nat) (hrowThousandths : Nat) (xday : Nat) (xpaid : Nat) (hup : Nat) (hdown : Nat) (hcondition : Nat) (hhasFigures : Nat) (hfigureA : Nat) (hfigureB : Nat) (xisRelated : Int32) (xisTurned : Int32) (xtest : Int64) (xband : Int32) (fweight : Nat → Int64) (fprice : Nat → Int64) (fisTold : Nat → Int32) (fcents : Nat → Int64) (fbyWeights : Nat → Int32) (frowDays : Nat → Int32) (frowThousandths : Nat → Int32) (hn : xlines ≤ 40) (hr : xrows ≤ 10) : Met l yn_M_isTested ws_M_isTested ({ frames := 4, cells := 0, slots := 0, locals := 102 }) (va_Pc [.ref h] (qv_ro (dC, dI) cls_t [(h, .inr (5, [.int xthrown, .int (nI xlines), .int (nI xrows), .long xweightSum, .long xpriceSum, .ref hweight, .ref hprice, .ref hisTold, .ref hcents, .ref hbyWeights, .ref hrowDays, .ref hrowThousandths, .int (nI xday), .int (nI xpaid), .ref hup, .ref hdown, .ref hcondition, .ref hhasFigures, .ref hfigureA, .ref hfigureB, .int xisRelated, .int xisTurned, .long xtest, .int xband])), (hweight, .inl (cJ, 40, .inr (.inl fweight))), (hprice, .inl (cJ, 40, .inr (.inl fprice))), (hisTold, .inl (cZ, 9, .inl fisTold)), (hcents, .inl (cJ, 9, .inr (.inl fcents))), (hbyWeights, .inl (cZ, 9, .inl fbyWeights)), (hrowDays, .inl (cI, 10, .inl frowDays)), (hrowThousandths, .inl (cI, 10, .inl frowThousandths))] [(cJ, .long), (cI, .int), (cZ, .boolean)])) (k2_QcV (.int (sm_test xisRelated xtest xband (sp_sum (sm_trn fweight fprice xlines xweightSum xpriceSum (sm_disc xpriceSum frowDays frowThousandths xday xpaid xrows) fisTold fcents fbyWeights) xlines)))) 0 0 (fun _ => False) := by
  refine Met.ofW (cc := by_M_isTested) (maxL := 5) (ret := (some .boolean)) (by decide) rfl ?_
  intro p e s m args below meth c s₁ B hml hv
  obtain ⟨rfl, hP, hK⟩ := hv
  have hx := B.exec
  have hb := B.bytes
  have hr := B.returns
  have hts := fun (w : Cond) (h : w ∈ lw_gt) => atoms_spec (ws := ws_M_isTested) B.pre w (List.mem_cons_of_mem _ h)
  have hown : s.vm.findClass rn_M = some m.cls := findClass_of_methodNamed B.named
  have hlocks := B.notSynchronized
  have hP : va_P (dC, dI) cls_t [(h, .inr (5, [.int xthrown, .int (nI xlines), .int (nI xrows), .long xweightSum, .long xpriceSum, .ref hweight, .ref hprice, .ref hisTold, .ref hcents, .ref hbyWeights, .ref hrowDays, .ref hrowThousandths, .int (nI xday), .int (nI xpaid), .ref hup, .ref hdown, .ref hcondition, .ref hhasFigures, .ref hfigureA, .ref hfigureB, .int xisRelated, .int xisTurned, .long xtest, .int xband])), (hweight, .inl (cJ, 40, .inr (.inl fweight))), (hprice, .inl (cJ, 40, .inr (.inl fprice))), (hisTold, .inl (cZ, 9, .inl fisTold)), (hcents, .inl (cJ, 9, .inr (.inl fcents))), (hbyWeights, .inl (cZ, 9, .inl fbyWeights)), (hrowDays, .inl (cI, 10, .inl frowDays)), (hrowThousandths, .inl (cI, 10, .inl frowThousandths))] s.heap := hP
  have hl := lv_entry ([.ref h]) (n := 5) (Nat.le_of_ble_eq_true rfl)
  rw [lg_entry_eq]
  generalize (lg_sl ([.ref h]) ++ List.replicate (5 - (lg_sl ([.ref h])).length) Slot.unset).toArray = ls at hl ⊢
  have hl : lv_has ls 5 [(0, .ref h)] := hl
  refine lv_aload_n hx hb de_M_isTested_0 rfl (lv_at hl 0 rfl) ?_
  refine va_get (D := (dC, dI)) (ci := 5) (v := .int xisRelated) (C := rn_M) (T := tf_M) (N := 24) hx hb hts in_M hown hK hP 0 rfl rfl 20 (by decide) (hts _ wd_663) (fun _ h9 => h9) rfl de_M_isTested_1 ?_
  refine lv_if_ne (tgt := 9) hx hb de_M_isTested_4 (by decide) (fun c_1 => ?_) (fun c_1 => ?_)
  · refine lv_aload_n hx hb de_M_isTested_9 rfl (lv_at hl 0 rfl) ?_
    refine va_get (D := (dC, dI)) (ci := 5) (v := .long xtest) (C := rn_M) (T := tf_M) (N := 24) hx hb hts in_M hown hK hP 0 rfl rfl 22 (by decide) (hts _ wd_665) (fun _ h9 => h9) rfl de_M_isTested_10 ?_
    refine lv_ldc2 (v := (-1)) hx hb hown (hts _ wd_642) de_M_isTested_13 ?_
    refine W.lcmp hx hb de_M_isTested_16 ?_
    refine lv_if_ne (tgt := 22) hx hb de_M_isTested_17 (by decide) (fun c_2 => ?_) (fun c_2 => ?_)
    · have c_2 := mt (lg_cmp_eq _ _).mpr c_2
      refine lv_lconst (v := 0) hx hb de_M_isTested_22 (by decide) ?_
      refine lv_lstore_n (lv' := [(1, .long 0), (0, .ref h)]) hx hb de_M_isTested_23 rfl hl (by decide) rfl (fun ls hl => ?_)
      refine lv_iconst (v := 0) hx hb de_M_isTested_24 (by decide) ?_
      refine lv_istore_n (lv' := [(3, .int 0), (1, .long 0), (0, .ref h)]) hx hb de_M_isTested_25 rfl hl (by decide) rfl (fun ls hl => ?_)
      refine qv_loop (N := xlines) (i0 := 0) (fun i H locs ls => H = s.heap ∧ locs = [] ∧ lv_has ls 5 [(3, .int (nI i)), (1, .long (sp_sum (sm_trn fweight fprice xlines xweightSum xpriceSum (sm_disc xpriceSum frowDays frowThousandths xday xpaid xrows) fisTold fcents fbyWeights) i)), (0, .ref h)]) (Nat.zero_le _) ⟨rfl, rfl, lv_sub hl [0, 1, 2] rfl⟩ (fun i H locs ls hi_26 hI hk_26 => ?_) (fun H locs ls hI => ?_)
      · obtain ⟨rfl, rfl, hl⟩ := hI
        refine lv_iload_n hx hb de_M_isTested_26 rfl (lv_at hl 0 rfl) ?_
        refine lv_aload_n hx hb de_M_isTested_27 rfl (lv_at hl 2 rfl) ?_
        refine va_get (D := (dC, dI)) (ci := 5) (v := .int (nI xlines)) (C := rn_M) (T := tf_M) (N := 24) hx hb hts in_M hown hK hP 0 rfl rfl 1 (by decide) (hts _ wd_644) (fun _ h9 => h9) rfl de_M_isTested_28 ?_
        refine lv_icmp_ge (tgt := 48) hx hb de_M_isTested_31 (by decide) (fun c_3 => ((nI_ge hi_26 (by omega) c_3)).elim) (fun _ => ?_)
        refine lv_lload_n hx hb de_M_isTested_34 rfl (lv_at hl 1 rfl) ?_
        refine lv_aload_n hx hb de_M_isTested_35 rfl (lv_at hl 2 rfl) ?_
        refine lv_iload_n hx hb de_M_isTested_36 rfl (lv_at hl 0 rfl) ?_
        refine qv_callR (As := [.int (nI i)]) (rest := [.long (sp_sum (sm_trn fweight fprice xlines xweightSum xpriceSum (sm_disc xpriceSum frowDays frowThousandths xday xpaid xrows) fisTold fcents fbyWeights) i)]) ⟨hx, hb, hml, hown, hts⟩ (mo_trn l dC dI cJ cI cZ h xthrown xlines xrows xweightSum xpriceSum hweight hprice hisTold hcents hbyWeights hrowDays hrowThousandths xday xpaid hup hdown hcondition hhasFigures hfigureA hfigureB xisRelated xisTurned xtest xband fweight fprice fisTold fcents fbyWeights frowDays frowThousandths i (by omega) (by omega) (by omega) (by omega)) (cwV 1 hts (gd_V wd_798 wd_800 wd_24 wd_47 wd_801) rfl rfl rfl (by decide +kernel) ⟨Nat.le_of_ble_eq_true rfl, Nat.le_of_ble_eq_true rfl⟩) hK hP [0, 1, 2, 3, 4, 5, 6, 7] rfl rfl rfl rfl hl.1 rfl (Nat.le_of_ble_eq_true rfl) de_M_isTested_37 ⟨Nat.zero_le _, Nat.zero_le _⟩ ?_
        refine lv_ladd hx hb de_M_isTested_40 ?_
        refine lv_lstore_n (lv' := [(1, .long ((sp_sum (sm_trn fweight fprice xlines xweightSum xpriceSum (sm_disc xpriceSum frowDays frowThousandths xday xpaid xrows) fisTold fcents fbyWeights) i) + (sm_trn fweight fprice xlines xweightSum xpriceSum (sm_disc xpriceSum frowDays frowThousandths xday xpaid xrows) fisTold fcents fbyWeights i))), (3, .int (nI i)), (0, .ref h)]) hx hb de_M_isTested_41 rfl hl (by decide) rfl (fun ls hl => ?_)
        refine lv_iinc (v := nI (i + 1)) (lv' := [(3, .int (nI (i + 1))), (1, .long ((sp_sum (sm_trn fweight fprice xlines xweightSum xpriceSum (sm_disc xpriceSum frowDays frowThousandths xday xpaid xrows) fisTold fcents fbyWeights) i) + (sm_trn fweight fprice xlines xweightSum xpriceSum (sm_disc xpriceSum frowDays frowThousandths xday xpaid xrows) fisTold fcents fbyWeights i))), (0, .ref h)]) hx hb de_M_isTested_42 hl (k := 1) rfl (nI_1 _) (by decide) rfl (fun ls hl => ?_)
        refine lv_goto (tgt := 26) hx hb de_M_isTested_45 (by decide) ?_
        exact hk_26 _ _ _ ⟨rfl, rfl, lv_sub hl [0, 1, 2] rfl⟩
      · obtain ⟨rfl, rfl, hl⟩ := hI
        refine lv_iload_n hx hb de_M_isTested_26 rfl (lv_at hl 0 rfl) ?_
        refine lv_aload_n hx hb de_M_isTested_27 rfl (lv_at hl 2 rfl) ?_
        refine va_get (D := (dC, dI)) (ci := 5) (v := .int (nI xlines)) (C := rn_M) (T := tf_M) (N := 24) hx hb hts in_M hown hK hP 0 rfl rfl 1 (by decide) (hts _ wd_644) (fun _ h9 => h9) rfl de_M_isTested_28 ?_
        refine lv_icmp_ge (tgt := 48) hx hb de_M_isTested_31 (by decide) (fun _ => ?_) (fun c_4 => ((c_4 (nI_le (Nat.le_refl _) (by omega)))).elim)
        refine lv_lload_n hx hb de_M_isTested_48 rfl (lv_at hl 1 rfl) ?_
        refine lv_aload_n hx hb de_M_isTested_49 rfl (lv_at hl 2 rfl) ?_
        refine va_get (D := (dC, dI)) (ci := 5) (v := .long xtest) (C := rn_M) (T := tf_M) (N := 24) hx hb hts in_M hown hK hP 0 rfl rfl 22 (by decide) (hts _ wd_665) (fun _ h9 => h9) rfl de_M_isTested_50 ?_
        refine W.lcmp hx hb de_M_isTested_53 ?_
        refine lv_if_le (tgt := 66) hx hb de_M_isTested_54 (by decide) (fun c_5 => ?_) (fun c_5 => ?_)
        · have c_5 := (lg_cmp_le _ _).mp c_5
          refine lv_aload_n hx hb de_M_isTested_66 rfl (lv_at hl 2 rfl) ?_
          refine va_get (D := (dC, dI)) (ci := 5) (v := .long xtest) (C := rn_M) (T := tf_M) (N := 24) hx hb hts in_M hown hK hP 0 rfl rfl 22 (by decide) (hts _ wd_665) (fun _ h9 => h9) rfl de_M_isTested_67 ?_
          refine lv_lload_n hx hb de_M_isTested_70 rfl (lv_at hl 1 rfl) ?_
          refine lv_lsub hx hb de_M_isTested_71 ?_
          refine lv_lstore_n (lv' := [(3, .long (xtest - (sp_sum (sm_trn fweight fprice xlines xweightSum xpriceSum (sm_disc xpriceSum frowDays frowThousandths xday xpaid xrows) fisTold fcents fbyWeights) xlines))), (1, .long (sp_sum (sm_trn fweight fprice xlines xweightSum xpriceSum (sm_disc xpriceSum frowDays frowThousandths xday xpaid xrows) fisTold fcents fbyWeights) xlines)), (0, .ref h)]) hx hb de_M_isTested_72 rfl hl (by decide) rfl (fun ls hl => ?_)
          refine lv_lload_n hx hb de_M_isTested_73 rfl (lv_at hl 0 rfl) ?_
          refine lv_ldc2 (v := 1000) hx hb hown (hts _ wd_748) de_M_isTested_74 ?_
          refine lv_lmul hx hb de_M_isTested_77 ?_
          refine lv_aload_n hx hb de_M_isTested_78 rfl (lv_at hl 2 rfl) ?_
          refine va_get (D := (dC, dI)) (ci := 5) (v := .long xtest) (C := rn_M) (T := tf_M) (N := 24) hx hb hts in_M hown hK hP 0 rfl rfl 22 (by decide) (hts _ wd_665) (fun _ h9 => h9) rfl de_M_isTested_79 ?_
          refine lv_aload_n hx hb de_M_isTested_82 rfl (lv_at hl 2 rfl) ?_
          refine va_get (D := (dC, dI)) (ci := 5) (v := .int xband) (C := rn_M) (T := tf_M) (N := 24) hx hb hts in_M hown hK hP 0 rfl rfl 23 (by decide) (hts _ wd_666) (fun _ h9 => h9) rfl de_M_isTested_83 ?_
          refine lv_i2l (v := xband.toInt64) hx hb de_M_isTested_86 rfl ?_
          refine lv_lmul hx hb de_M_isTested_87 ?_
          refine W.lcmp hx hb de_M_isTested_88 ?_
          refine lv_if_gt (tgt := 96) hx hb de_M_isTested_89 (by decide) (fun c_6 => ?_) (fun c_6 => ?_)
          · have c_6 := (lg_cmp_gt _ _).mp c_6
            refine lv_iconst (v := 0) hx hb de_M_isTested_96 (by decide) ?_
            exact W.zret (v := 0) hx hb hr rfl (fun t9 ht9 hW9 => ⟨congrArg (fun z => Outcome.returned (some (Value.int z))) (show 0 = (sm_test xisRelated xtest xband (sp_sum (sm_trn fweight fprice xlines xweightSum xpriceSum (sm_disc xpriceSum frowDays frowThousandths xday xpaid xrows) fisTold fcents fbyWeights) xlines)) from by simp only [sm_test, if_neg c_1, if_neg c_2, if_pos c_5, if_pos c_6]), ht9⟩) (fun _ h => nomatch h) de_M_isTested_97
          · have c_6 := mt (lg_cmp_gt _ _).mpr c_6
            refine lv_iconst (v := 1) hx hb de_M_isTested_92 (by decide) ?_
            refine lv_goto (tgt := 97) hx hb de_M_isTested_93 (by decide) ?_
            exact W.zret (v := 1) hx hb hr rfl (fun t9 ht9 hW9 => ⟨congrArg (fun z => Outcome.returned (some (Value.int z))) (show 1 = (sm_test xisRelated xtest xband (sp_sum (sm_trn fweight fprice xlines xweightSum xpriceSum (sm_disc xpriceSum frowDays frowThousandths xday xpaid xrows) fisTold fcents fbyWeights) xlines)) from by simp only [sm_test, if_neg c_1, if_neg c_2, if_pos c_5, if_neg c_6]), ht9⟩) (fun _ h => nomatch h) de_M_isTested_97
        · have c_5 := mt (lg_cmp_le _ _).mpr c_5
          refine lv_lload_n hx hb de_M_isTested_57 rfl (lv_at hl 1 rfl) ?_
          refine lv_aload_n hx hb de_M_isTested_58 rfl (lv_at hl 2 rfl) ?_
          refine va_get (D := (dC, dI)) (ci := 5) (v := .long xtest) (C := rn_M) (T := tf_M) (N := 24) hx hb hts in_M hown hK hP 0 rfl rfl 22 (by decide) (hts _ wd_665) (fun _ h9 => h9) rfl de_M_isTested_59 ?_
          refine lv_lsub hx hb de_M_isTested_62 ?_
          refine lv_goto (tgt := 72) hx hb de_M_isTested_63 (by decide) ?_
          refine lv_lstore_n (lv' := [(3, .long ((sp_sum (sm_trn fweight fprice xlines xweightSum xpriceSum (sm_disc xpriceSum frowDays frowThousandths xday xpaid xrows) fisTold fcents fbyWeights) xlines) - xtest)), (1, .long (sp_sum (sm_trn fweight fprice xlines xweightSum xpriceSum (sm_disc xpriceSum frowDays frowThousandths xday xpaid xrows) fisTold fcents fbyWeights) xlines)), (0, .ref h)]) hx hb de_M_isTested_72 rfl hl (by decide) rfl (fun ls hl => ?_)
          refine lv_lload_n hx hb de_M_isTested_73 rfl (lv_at hl 0 rfl) ?_
          refine lv_ldc2 (v := 1000) hx hb hown (hts _ wd_748) de_M_isTested_74 ?_
          refine lv_lmul hx hb de_M_isTested_77 ?_
          refine lv_aload_n hx hb de_M_isTested_78 rfl (lv_at hl 2 rfl) ?_
          refine va_get (D := (dC, dI)) (ci := 5) (v := .long xtest) (C := rn_M) (T := tf_M) (N := 24) hx hb hts in_M hown hK hP 0 rfl rfl 22 (by decide) (hts _ wd_665) (fun _ h9 => h9) rfl de_M_isTested_79 ?_
          refine lv_aload_n hx hb de_M_isTested_82 rfl (lv_at hl 2 rfl) ?_
          refine va_get (D := (dC, dI)) (ci := 5) (v := .int xband) (C := rn_M) (T := tf_M) (N := 24) hx hb hts in_M hown hK hP 0 rfl rfl 23 (by decide) (hts _ wd_666) (fun _ h9 => h9) rfl de_M_isTested_83 ?_
          refine lv_i2l (v := xband.toInt64) hx hb de_M_isTested_86 rfl ?_
          refine lv_lmul hx hb de_M_isTested_87 ?_
          refine W.lcmp hx hb de_M_isTested_88 ?_
          refine lv_if_gt (tgt := 96) hx hb de_M_isTested_89 (by decide) (fun c_7 => ?_) (fun c_7 => ?_)
          · have c_7 := (lg_cmp_gt _ _).mp c_7
            refine lv_iconst (v := 0) hx hb de_M_isTested_96 (by decide) ?_
            exact W.zret (v := 0) hx hb hr rfl (fun t9 ht9 hW9 => ⟨congrArg (fun z => Outcome.returned (some (Value.int z))) (show 0 = (sm_test xisRelated xtest xband (sp_sum (sm_trn fweight fprice xlines xweightSum xpriceSum (sm_disc xpriceSum frowDays frowThousandths xday xpaid xrows) fisTold fcents fbyWeights) xlines)) from by simp only [sm_test, if_neg c_1, if_neg c_2, if_neg c_5, if_pos c_7]), ht9⟩) (fun _ h => nomatch h) de_M_isTested_97
          · have c_7 := mt (lg_cmp_gt _ _).mpr c_7
            refine lv_iconst (v := 1) hx hb de_M_isTested_92 (by decide) ?_
            refine lv_goto (tgt := 97) hx hb de_M_isTested_93 (by decide) ?_
            exact W.zret (v := 1) hx hb hr rfl (fun t9 ht9 hW9 => ⟨congrArg (fun z => Outcome.returned (some (Value.int z))) (show 1 = (sm_test xisRelated xtest xband (sp_sum (sm_trn fweight fprice xlines xweightSum xpriceSum (sm_disc xpriceSum frowDays frowThousandths xday xpaid xrows) fisTold fcents fbyWeights) xlines)) from by simp only [sm_test, if_neg c_1, if_neg c_2, if_neg c_5, if_neg c_7]), ht9⟩) (fun _ h => nomatch h) de_M_isTested_97
    · have c_2 := (lg_cmp_eq _ _).mp c_2
      refine lv_iconst (v := 0) hx hb de_M_isTested_20 (by decide) ?_
      exact W.zret (v := 0) hx hb hr rfl (fun t9 ht9 hW9 => ⟨congrArg (fun z => Outcome.returned (some (Value.int z))) (show 0 = (sm_test xisRelated xtest xband (sp_sum (sm_trn fweight fprice xlines xweightSum xpriceSum (sm_disc xpriceSum frowDays frowThousandths xday xpaid xrows) fisTold fcents fbyWeights) xlines)) from by simp only [sm_test, if_neg c_1, if_pos c_2]), ht9⟩) (fun _ h => nomatch h) de_M_isTested_21
  · refine lv_iconst (v := 1) hx hb de_M_isTested_7 (by decide) ?_
    exact W.zret (v := 1) hx hb hr rfl (fun t9 ht9 hW9 => ⟨congrArg (fun z => Outcome.returned (some (Value.int z))) (show 1 = (sm_test xisRelated xtest xband (sp_sum (sm_trn fweight fprice xlines xweightSum xpriceSum (sm_disc xpriceSum frowDays frowThousandths xday xpaid xrows) fisTold fcents fbyWeights) xlines)) from by simp only [sm_test, if_pos c_1]), ht9⟩) (fun _ h => nomatch h) de_M_isTested_8
set_option maxHeartbeats 4000000 in
set_option maxRecDepth 100000 in
/-- deductive -/
theorem mo_ded (l : Launch) (dC : Nat → ClassId) (dI : Nat → Nat → Nat) (cJ cI cZ : Nat) (h : Nat) (xthrown : Int32) (xlines : Nat) (xrows : Nat) (xweightSum : Int64) (xpriceSum : Int64) (hweight : Nat) (hprice : Nat) (hisTold : Nat) (hcents : Nat) (hbyWeights : Nat) (hrowDays : Nat) (hrowThousandths : Nat) (xday : Nat) (xpaid : Nat) (hup : Nat) (hdown : Nat) (hcondition : Nat) (hhasFigures : Nat) (hfigureA : Nat) (hfigureB : Nat) (xisRelated : Int32) (xisTurned : Int32) (xtest : Int64) (xband : Int32) (ffigureA : Nat → Int64) (ffigureB : Nat → Int64) (fcents : Nat → Int64) : Met l yn_M_deductive ws_M_deductive ({ frames := 1, cells := 0, slots := 0, locals := 25 }) (va_Pc [.ref h] (qv_ro (dC, dI) cls_t [(h, .inr (5, [.int xthrown, .int (nI xlines), .int (nI xrows), .long xweightSum, .long xpriceSum, .ref hweight, .ref hprice, .ref hisTold, .ref hcents, .ref hbyWeights, .ref hrowDays, .ref hrowThousandths, .int (nI xday), .int (nI xpaid), .ref hup, .ref hdown, .ref hcondition, .ref hhasFigures, .ref hfigureA, .ref hfigureB, .int xisRelated, .int xisTurned, .long xtest, .int xband])), (hfigureA, .inl (cJ, 7, .inr (.inl ffigureA))), (hfigureB, .inl (cJ, 7, .inr (.inl ffigureB))), (hcents, .inl (cJ, 9, .inr (.inl fcents)))] [(cJ, .long), (cI, .int), (cZ, .boolean)])) (k2_QcV (.long (sm_ded (ffigureA 4) (ffigureB 4) fcents))) 0 0 (fun _ => False) := by
  refine Met.ofW (cc := by_M_deductive) (maxL := 1) (ret := (some .long)) (by decide) rfl ?_
  intro p e s m args below meth c s₁ B hml hv
  obtain ⟨rfl, hP, hK⟩ := hv
  have hx := B.exec
  have hb := B.bytes
  have hr := B.returns
  have hts := fun (w : Cond) (h : w ∈ lw_gt) => atoms_spec (ws := ws_M_deductive) B.pre w (List.mem_cons_of_mem _ h)
  have hown : s.vm.findClass rn_M = some m.cls := findClass_of_methodNamed B.named
  have hlocks := B.notSynchronized
  have hP : va_P (dC, dI) cls_t [(h, .inr (5, [.int xthrown, .int (nI xlines), .int (nI xrows), .long xweightSum, .long xpriceSum, .ref hweight, .ref hprice, .ref hisTold, .ref hcents, .ref hbyWeights, .ref hrowDays, .ref hrowThousandths, .int (nI xday), .int (nI xpaid), .ref hup, .ref hdown, .ref hcondition, .ref hhasFigures, .ref hfigureA, .ref hfigureB, .int xisRelated, .int xisTurned, .long xtest, .int xband])), (hfigureA, .inl (cJ, 7, .inr (.inl ffigureA))), (hfigureB, .inl (cJ, 7, .inr (.inl ffigureB))), (hcents, .inl (cJ, 9, .inr (.inl fcents)))] s.heap := hP
  have hl := lv_entry ([.ref h]) (n := 1) (Nat.le_of_ble_eq_true rfl)
  rw [lg_entry_eq]
  generalize (lg_sl ([.ref h]) ++ List.replicate (1 - (lg_sl ([.ref h])).length) Slot.unset).toArray = ls at hl ⊢
  have hl : lv_has ls 1 [(0, .ref h)] := hl
  refine lv_aload_n hx hb de_M_deductive_0 rfl (lv_at hl 0 rfl) ?_
  refine va_get (D := (dC, dI)) (ci := 5) (v := .ref hfigureA) (C := rn_M) (T := tf_M) (N := 24) hx hb hts in_M hown hK hP 0 rfl rfl 18 (by decide) (hts _ wd_661) (fun _ h9 => h9) rfl de_M_deductive_1 ?_
  refine lv_iconst (v := 4) hx hb de_M_deductive_4 (by decide) ?_
  refine qv_lald (k := 4) hx hb hK hP 1 0 rfl rfl (by omega) (by omega) de_M_deductive_5 ?_
  refine lv_ldc2 (v := 1000) hx hb hown (hts _ wd_748) de_M_deductive_6 ?_
  refine lv_aload_n hx hb de_M_deductive_9 rfl (lv_at hl 0 rfl) ?_
  refine va_get (D := (dC, dI)) (ci := 5) (v := .ref hfigureB) (C := rn_M) (T := tf_M) (N := 24) hx hb hts in_M hown hK hP 0 rfl rfl 19 (by decide) (hts _ wd_662) (fun _ h9 => h9) rfl de_M_deductive_10 ?_
  refine lv_iconst (v := 4) hx hb de_M_deductive_13 (by decide) ?_
  refine qv_lald (k := 4) hx hb hK hP 2 0 rfl rfl (by omega) (by omega) de_M_deductive_14 ?_
  refine lv_lsub hx hb de_M_deductive_15 ?_
  refine lv_lmul hx hb de_M_deductive_16 ?_
  refine lv_ldc2 (v := 1000) hx hb hown (hts _ wd_748) de_M_deductive_17 ?_
  refine lv_ldiv hx hb de_M_deductive_20 (by decide) ?_
  refine lv_aload_n hx hb de_M_deductive_21 rfl (lv_at hl 0 rfl) ?_
  refine lv_iconst (v := 5) hx hb de_M_deductive_22 (by decide) ?_
  refine lv_bipush (v := 9) hx hb de_M_deductive_23 (by decide) ?_
  refine qv_callR (As := [.int 5, .int 9]) (rest := [.long (((ffigureA 4) * (1000 - (ffigureB 4))) / 1000)]) ⟨hx, hb, hml, hown, hts⟩ (mo_told l dC dI cJ cI cZ h xthrown xlines xrows xweightSum xpriceSum hweight hprice hisTold hcents hbyWeights hrowDays hrowThousandths xday xpaid hup hdown hcondition hhasFigures hfigureA hfigureB xisRelated xisTurned xtest xband fcents 5 9 (by decide) (by decide)) (cwV 2 hts (gd_V wd_794 wd_796 wd_23 wd_47 wd_797) rfl rfl rfl (by decide +kernel) ⟨Nat.le_of_ble_eq_true rfl, Nat.le_of_ble_eq_true rfl⟩) hK hP [0, 3] rfl rfl rfl rfl hl.1 rfl (Nat.le_of_ble_eq_true rfl) de_M_deductive_25 ⟨Nat.zero_le _, Nat.zero_le _⟩ ?_
  refine lv_lsub hx hb de_M_deductive_28 ?_
  exact W.lret (v := (((ffigureA 4) * (1000 - (ffigureB 4))) / 1000) - (sm_tol fcents 5 (9 - 5))) hx hb hr (fun t9 ht9 hW9 => ⟨congrArg (fun z => Outcome.returned (some (Value.long z))) (show ((((ffigureA 4) * (1000 - (ffigureB 4))) / 1000) - (sm_tol fcents 5 (9 - 5))) = (sm_ded (ffigureA 4) (ffigureB 4) fcents) from by simp only [sm_ded]), ht9⟩) (fun _ h => nomatch h) de_M_deductive_29
