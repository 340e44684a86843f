/-! One turn, and all turns. -/
set_option maxRecDepth 100000 in
set_option maxHeartbeats 4000000 in
theorem lz_gt {L i : Nat} (hL : L ≤ 3072) (hi : i ≤ 512) : Int32.ofNat L - 6 < nI (6 * i) ↔ L < 6 * i + 6 := by
  have h1 : (Int32.ofNat L).toInt = (L : Int) := nI_toInt (n := L) (by omega)
  have h2 : (Int32.ofNat L - 6).toInt = (L : Int) - 6 := by
    rw [Int32.toInt_sub, h1, show (6 : Int32).toInt = 6 from rfl]
    simp only [Int.bmod]
    split <;> omega
  rw [Int32.lt_iff_toInt_lt, h2, nI_toInt (by omega)]
  omega
set_option maxRecDepth 100000 in
set_option maxHeartbeats 4000000 in
theorem lq_step {p : Program} {l : Launch} {e : Env} {s : State} {m : MethodId} {below : List Frame} {meth : Method} {c : Code} {b L : Nat} {xs : Nat → Int32} {dC : Nat → ClassId} {dI : Nat → Nat → Nat} {cJ cI cZ : Nat} {tU tT : Nat} {sa : Nat → Nat} {A : Nat → Prop} {ad : Nat → Nat} {i cells slots : Nat} {Q : State → Prop} {H : Heap} {locs : List Loc} {ls : Array Slot} (F : lq_F p l s m meth c b L xs dC dI cJ cI cZ tU tT sa A) (hi : 6 * i + 6 ≤ L) (hL : L ≤ 3072) (hz : cells + 1 ≤ room_1.cells ∧ slots + 6 ≤ room_1.slots) (hJ : lq_J s dC dI cJ cI cZ A b ad i H locs ls) (kk : ∀ (H : Heap) (locs : List Loc) (ls : Array Slot), lq_J s dC dI cJ cI cZ A b ad i H locs ls → W p l e room_1 s m #[Value.ref b] below meth c H locs (cells + 1) (slots + 6) Q (F0 m 1401 ls [])) : W p l e room_1 s m #[Value.ref b] below meth c H locs cells slots Q (F0 m 33 ls []) := by
  have F9 := F
  have J9 := hJ
  obtain ⟨hx, hb, hml, hown, hts, hK, hO, hE, hT, hN, hX, hbl, hA, hbA, hfl, hrt, hlocks⟩ := F9
  obtain ⟨zn, zd, zday, zpaid, znA, znD, zw, zp, zo, zv, zpa, zre, zcA, zcD, zC, zfA, zfB, zout, zbA, zoA, zbD, zoD, zB, zO, zrd, zrt, zcond, zfd, zups, zdns, zsw, zsp, ztA, ztD, ztst, zrel, zbnd, ztrn, zthr, hP, hD, hS, hl, -⟩ := J9
  refine lv_aload_n hx hb de_W_law_33 rfl (lv_at hl 1 rfl) ?_
  refine lv_iload hx hb de_W_law_34 (lv_at hl 0 rfl) ?_
  refine va_sld hx hb hX hbl hbA hS (vp_in_nI (by omega) (by omega)) de_W_law_36 ?_
  rw [nI_clamp (by omega)]
  refine lv_bipush (v := 31) hx hb de_W_law_37 (by decide) ?_
  refine lv_iand hx hb de_W_law_39 ?_
  rcases Decidable.em (xs (6 * i) &&& 31 = 0) with k0 | k0
  · exact lv_tableIn (off := 84) (tgt := 124) hx hb de_W_law_40 (by rw [k0]; decide) (by rw [k0]; decide) (by rw [k0]; decide) (by decide) (lq_0 F hi hL hz hJ kk)
  rcases Decidable.em (xs (6 * i) &&& 31 = 1) with k1 | k1
  · exact lv_tableIn (off := 216) (tgt := 256) hx hb de_W_law_40 (by rw [k1]; decide) (by rw [k1]; decide) (by rw [k1]; decide) (by decide) (lq_1 F hi hL hz hJ kk)
  rcases Decidable.em (xs (6 * i) &&& 31 = 2) with k2 | k2
  · exact lv_tableIn (off := 351) (tgt := 391) hx hb de_W_law_40 (by rw [k2]; decide) (by rw [k2]; decide) (by rw [k2]; decide) (by decide) (lq_2 F hi hL hz hJ kk)
  rcases Decidable.em (xs (6 * i) &&& 31 = 3) with k3 | k3
  · exact lv_tableIn (off := 486) (tgt := 526) hx hb de_W_law_40 (by rw [k3]; decide) (by rw [k3]; decide) (by rw [k3]; decide) (by decide) (lq_3 F hi hL hz hJ kk)
  rcases Decidable.em (xs (6 * i) &&& 31 = 4) with k4 | k4
  · exact lv_tableIn (off := 561) (tgt := 601) hx hb de_W_law_40 (by rw [k4]; decide) (by rw [k4]; decide) (by rw [k4]; decide) (by decide) (lq_4 F hi hL hz hJ kk)
  rcases Decidable.em (xs (6 * i) &&& 31 = 5) with k5 | k5
  · exact lv_tableIn (off := 598) (tgt := 638) hx hb de_W_law_40 (by rw [k5]; decide) (by rw [k5]; decide) (by rw [k5]; decide) (by decide) (lq_5 F hi hL hz hJ kk)
  rcases Decidable.em (xs (6 * i) &&& 31 = 6) with k6 | k6
  · exact lv_tableIn (off := 647) (tgt := 687) hx hb de_W_law_40 (by rw [k6]; decide) (by rw [k6]; decide) (by rw [k6]; decide) (by decide) (lq_6 F hi hL hz hJ kk)
  rcases Decidable.em (xs (6 * i) &&& 31 = 7) with k7 | k7
  · exact lv_tableIn (off := 700) (tgt := 740) hx hb de_W_law_40 (by rw [k7]; decide) (by rw [k7]; decide) (by rw [k7]; decide) (by decide) (lq_7 F hi hL hz hJ kk)
  rcases Decidable.em (xs (6 * i) &&& 31 = 8) with k8 | k8
  · exact lv_tableIn (off := 813) (tgt := 853) hx hb de_W_law_40 (by rw [k8]; decide) (by rw [k8]; decide) (by rw [k8]; decide) (by decide) (lq_8 F hi hL hz hJ kk)
  rcases Decidable.em (xs (6 * i) &&& 31 = 9) with k9 | k9
  · exact lv_tableIn (off := 910) (tgt := 950) hx hb de_W_law_40 (by rw [k9]; decide) (by rw [k9]; decide) (by rw [k9]; decide) (by decide) (lq_9 F hi hL hz hJ kk)
  rcases Decidable.em (xs (6 * i) &&& 31 = 10) with k10 | k10
  · exact lv_tableIn (off := 949) (tgt := 989) hx hb de_W_law_40 (by rw [k10]; decide) (by rw [k10]; decide) (by rw [k10]; decide) (by decide) (lq_10 F hi hL hz hJ kk)
  rcases Decidable.em (xs (6 * i) &&& 31 = 11) with k11 | k11
  · exact lv_tableIn (off := 962) (tgt := 1002) hx hb de_W_law_40 (by rw [k11]; decide) (by rw [k11]; decide) (by rw [k11]; decide) (by decide) (lq_11 F hi hL hz hJ kk)
  rcases Decidable.em (xs (6 * i) &&& 31 = 12) with k12 | k12
  · exact lv_tableIn (off := 1029) (tgt := 1069) hx hb de_W_law_40 (by rw [k12]; decide) (by rw [k12]; decide) (by rw [k12]; decide) (by decide) (lq_12 F hi hL hz hJ kk)
  rcases Decidable.em (xs (6 * i) &&& 31 = 13) with k13 | k13
  · exact lv_tableIn (off := 1084) (tgt := 1124) hx hb de_W_law_40 (by rw [k13]; decide) (by rw [k13]; decide) (by rw [k13]; decide) (by decide) (lq_13 F hi hL hz hJ kk)
  rcases Decidable.em (xs (6 * i) &&& 31 = 14) with k14 | k14
  · exact lv_tableIn (off := 1211) (tgt := 1251) hx hb de_W_law_40 (by rw [k14]; decide) (by rw [k14]; decide) (by rw [k14]; decide) (by decide) (lq_14 F hi hL hz hJ kk)
  rcases Decidable.em (xs (6 * i) &&& 31 = 15) with k15 | k15
  · exact lv_tableIn (off := 1310) (tgt := 1350) hx hb de_W_law_40 (by rw [k15]; decide) (by rw [k15]; decide) (by rw [k15]; decide) (by decide) (lq_15 F hi hL hz hJ kk)
  rcases Decidable.em (xs (6 * i) &&& 31 = 16) with k16 | k16
  · exact lv_tableIn (off := 1335) (tgt := 1375) hx hb de_W_law_40 (by rw [k16]; decide) (by rw [k16]; decide) (by rw [k16]; decide) (by decide) (lq_16 F hi hL hz hJ kk)
  refine lv_tableOut (tgt := 1401) hx hb de_W_law_40 (by have := lv_neT k0 (a := 0) (by decide); have := lv_neT k1 (a := 1) (by decide); have := lv_neT k2 (a := 2) (by decide); have := lv_neT k3 (a := 3) (by decide); have := lv_neT k4 (a := 4) (by decide); have := lv_neT k5 (a := 5) (by decide); have := lv_neT k6 (a := 6) (by decide); have := lv_neT k7 (a := 7) (by decide); have := lv_neT k8 (a := 8) (by decide); have := lv_neT k9 (a := 9) (by decide); have := lv_neT k10 (a := 10) (by decide); have := lv_neT k11 (a := 11) (by decide); have := lv_neT k12 (a := 12) (by decide); have := lv_neT k13 (a := 13) (by decide); have := lv_neT k14 (a := 14) (by decide); have := lv_neT k15 (a := 15) (by decide); have := lv_neT k16 (a := 16) (by decide); omega) (by decide) ?_
  exact tx_more (c2 := cells + 1) (n2 := slots + 6) (by omega) (by omega) (kk _ _ _ hJ)
set_option maxRecDepth 100000 in
set_option maxHeartbeats 4000000 in
theorem lq_loop {p : Program} {l : Launch} {e : Env} {s : State} {m : MethodId} {below : List Frame} {meth : Method} {c : Code} {b L : Nat} {xs : Nat → Int32} {dC : Nat → ClassId} {dI : Nat → Nat → Nat} {cJ cI cZ : Nat} {tU tT : Nat} {sa : Nat → Nat} {A : Nat → Prop} {ad : Nat → Nat} {c0 s0 : Nat} (F : lq_F p l s m meth c b L xs dC dI cJ cI cZ tU tT sa A) (hAs : ∀ q, A q → s.heap.size ≤ q) (hL : L ≤ 3072) (hc : c0 + 512 ≤ 623623) (hs : s0 + 3072 ≤ 7225236) : ∀ (n i : Nat) (H : Heap) (locs : List Loc) (ls : Array Slot), n + i = L / 6 → lq_J s dC dI cJ cI cZ A b ad i H locs ls → W p l e room_1 s m #[Value.ref b] below meth c H locs (c0 + i) (s0 + 6 * i) (lw_Z below #[Value.ref b] s) (F0 m 23 ls []) := by
  intro n
  induction n with
  | zero =>
    intro i H locs ls hn hJ
    have F9 := F
    obtain ⟨hx, hb, hml, hown, hts, hK, hO, hE, hT, hN, hX, hbl, hA, hbA, hfl, hrt, hlocks⟩ := F9
    obtain ⟨zn, zd, zday, zpaid, znA, znD, zw, zp, zo, zv, zpa, zre, zcA, zcD, zC, zfA, zfB, zout, zbA, zoA, zbD, zoD, zB, zO, zrd, zrt, zcond, zfd, zups, zdns, zsw, zsp, ztA, ztD, ztst, zrel, zbnd, ztrn, zthr, hP, hD, hS, hl, -⟩ := hJ
    refine lv_iload hx hb de_W_law_23 (lv_at hl 0 rfl) ?_
    refine lv_aload_n hx hb de_W_law_25 rfl (lv_at hl 1 rfl) ?_
    refine va_slen hx hb hX hbl hbA hS de_W_law_26 ?_
    refine lv_bipush (v := 6) hx hb de_W_law_27 (by decide) ?_
    refine lv_isub hx hb de_W_law_29 ?_
    refine lv_icmp_gt (tgt := 1407) hx hb de_W_law_30 (by decide) (fun _ => ?_) (fun h => (h ((lz_gt hL (by omega)).mpr (by omega))).elim)
    refine lv_iconst (v := 1) hx hb de_W_law_1407 (by decide) ?_
    refine va_forget (fun q hq => hAs _ (hS.2.2 q hq)) ?_
    exact tx_more (by omega) (by omega) (lw_ret hx hb hrt hlocks de_W_law_1408)
  | succ n ih =>
    intro i H locs ls hn hJ
    have F9 := F
    have J9 := hJ
    obtain ⟨hx, hb, hml, hown, hts, hK, hO, hE, hT, hN, hX, hbl, hA, hbA, hfl, hrt, hlocks⟩ := F9
    obtain ⟨zn, zd, zday, zpaid, znA, znD, zw, zp, zo, zv, zpa, zre, zcA, zcD, zC, zfA, zfB, zout, zbA, zoA, zbD, zoD, zB, zO, zrd, zrt, zcond, zfd, zups, zdns, zsw, zsp, ztA, ztD, ztst, zrel, zbnd, ztrn, zthr, hP, hD, hS, hl, -⟩ := J9
    refine lv_iload hx hb de_W_law_23 (lv_at hl 0 rfl) ?_
    refine lv_aload_n hx hb de_W_law_25 rfl (lv_at hl 1 rfl) ?_
    refine va_slen hx hb hX hbl hbA hS de_W_law_26 ?_
    refine lv_bipush (v := 6) hx hb de_W_law_27 (by decide) ?_
    refine lv_isub hx hb de_W_law_29 ?_
    refine lv_icmp_gt (tgt := 1407) hx hb de_W_law_30 (by decide) (fun h => absurd ((lz_gt hL (by omega)).mp h) (by omega)) (fun _ => ?_)
    refine lq_step F (by omega) hL ⟨show c0 + i + 1 ≤ 623623 by omega, show s0 + 6 * i + 6 ≤ 7225236 by omega⟩ hJ (fun H locs ls hJ => ?_)
    obtain ⟨zn, zd, zday, zpaid, znA, znD, zw, zp, zo, zv, zpa, zre, zcA, zcD, zC, zfA, zfB, zout, zbA, zoA, zbD, zoD, zB, zO, zrd, zrt, zcond, zfd, zups, zdns, zsw, zsp, ztA, ztD, ztst, zrel, zbnd, ztrn, zthr, hP, hD, hS, hl, hI⟩ := hJ
    refine lv_iinc (v := nI (6 * (i + 1))) (lv' := [(4, .int (nI (6 * (i + 1)))), (0, .ref b), (1, .ref (ad 0)), (2, .ref (ad 26)), (3, .ref (ad 40))]) hx hb de_W_law_1401 hl (k := 0) rfl (nI_add (6 * i) 6) (by decide) rfl (fun ls hl => ?_)
    refine lv_goto (tgt := 23) hx hb de_W_law_1404 (by decide) ?_
    exact ih (i + 1) H locs ls (by omega) ⟨zn, zd, zday, zpaid, znA, znD, zw, zp, zo, zv, zpa, zre, zcA, zcD, zC, zfA, zfB, zout, zbA, zoA, zbD, zoD, zB, zO, zrd, zrt, zcond, zfd, zups, zdns, zsw, zsp, ztA, ztD, ztst, zrel, zbnd, ztrn, zthr, hP, hD, hS, hl, hI⟩
