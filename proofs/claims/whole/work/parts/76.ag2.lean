/-! The law's comparisons, one by one. -/
section AH
variable {n nd day paid nA nD : Nat} {w p o v cA cD C9 fA fB : Nat → Int64} {bA oA bD oD B9 O9 rd rt cond fd ups dns : Nat → Int32} {sw sp9 tA tD tst : Int64} {rel bnd trn : Int32} {fo pa re u1 uo : Nat → Int64}
theorem ag_ans5 (hC : iv_C nA tA cA bA oA nD tD cD bD oD C9 B9 O9) {k : Int32} {am : Int64} (hk : sp_kadd 5 k am = 0) : (if sp_within k.toInt64 0 4 = 0 then 0 else sm_tk am (O9 k.toNatClampNeg)) = if oA k.toNatClampNeg = 0 then 1 else 0 := by
  rw [sp_has_win (K := 5) (by decide) (by decide) (by decide)]
  rcases sp_kadd_c (K := 5) (by decide) k am with ⟨-, ⟨j, hj, rfl, h1⟩, h2⟩ | q
  · rw [nI_clamp (show j < 2 ^ 31 by omega), if_neg h1, (hC.1 j hj).2.2]
    unfold sm_tk
    rw [if_neg h2]
  · rw [q] at hk; exact absurd hk (by decide)
theorem ag_ans4 (hC : iv_C nA tA cA bA oA nD tD cD bD oD C9 B9 O9) {k : Int32} {am : Int64} (hk : sp_kadd 4 k am = 0) : (if sp_within k.toInt64 0 3 = 0 then 0 else sm_tk am (O9 (5 + k.toNatClampNeg))) = if oD k.toNatClampNeg = 0 then 1 else 0 := by
  rw [sp_has_win (K := 4) (by decide) (by decide) (by decide)]
  rcases sp_kadd_c (K := 4) (by decide) k am with ⟨-, ⟨j, hj, rfl, h1⟩, h2⟩ | q
  · rw [nI_clamp (show j < 2 ^ 31 by omega), if_neg h1, (hC.2.1 j hj).2.2]
    unfold sm_tk
    rw [if_neg h2]
  · rw [q] at hk; exact absurd hk (by decide)
theorem ag_add0 (hC : iv_C nA tA cA bA oA nD tD cD bD oD C9 B9 O9) {k : Int32} {am : Int64} (hk : sp_kadd 5 k am = 0) (h : (if sp_within k.toInt64 0 4 = 0 then 0 else sm_tk am (O9 k.toNatClampNeg)) = 0) : (if sp_kadd 5 k am = 0 then (if oA k.toNatClampNeg = 0 then vp_updL fo 0 1 else vp_updL fo 0 0) else fo) 0 = 0 := by
  rw [ag_ans5 hC hk] at h
  by_cases q : oA k.toNatClampNeg = 0
  · rw [if_pos q] at h; exact absurd h (by decide)
  · rw [if_pos hk, if_neg q, pk_uLs]
theorem ag_add1 (hC : iv_C nA tA cA bA oA nD tD cD bD oD C9 B9 O9) {k : Int32} {am : Int64} (hk : sp_kadd 5 k am = 0) (h : ¬ (if sp_within k.toInt64 0 4 = 0 then 0 else sm_tk am (O9 k.toNatClampNeg)) = 0) : (if sp_kadd 5 k am = 0 then (if oA k.toNatClampNeg = 0 then vp_updL fo 0 1 else vp_updL fo 0 0) else fo) 0 = 1 := by
  rw [ag_ans5 hC hk] at h
  by_cases q : oA k.toNatClampNeg = 0
  · rw [if_pos hk, if_pos q, pk_uLs]
  · rw [if_neg q] at h; exact absurd rfl h
theorem ag_less0 (hC : iv_C nA tA cA bA oA nD tD cD bD oD C9 B9 O9) {k : Int32} {am : Int64} (hk : sp_kadd 4 k am = 0) (h : (if sp_within k.toInt64 0 3 = 0 then 0 else sm_tk am (O9 (5 + k.toNatClampNeg))) = 0) : (if sp_kadd 4 k am = 0 then (if oD k.toNatClampNeg = 0 then vp_updL fo 0 1 else vp_updL fo 0 0) else fo) 0 = 0 := by
  rw [ag_ans4 hC hk] at h
  by_cases q : oD k.toNatClampNeg = 0
  · rw [if_pos q] at h; exact absurd h (by decide)
  · rw [if_pos hk, if_neg q, pk_uLs]
theorem ag_less1 (hC : iv_C nA tA cA bA oA nD tD cD bD oD C9 B9 O9) {k : Int32} {am : Int64} (hk : sp_kadd 4 k am = 0) (h : ¬ (if sp_within k.toInt64 0 3 = 0 then 0 else sm_tk am (O9 (5 + k.toNatClampNeg))) = 0) : (if sp_kadd 4 k am = 0 then (if oD k.toNatClampNeg = 0 then vp_updL fo 0 1 else vp_updL fo 0 0) else fo) 0 = 1 := by
  rw [ag_ans4 hC hk] at h
  by_cases q : oD k.toNatClampNeg = 0
  · rw [if_pos hk, if_pos q, pk_uLs]
  · rw [if_neg q] at h; exact absurd rfl h
theorem ag_dis0 {d t : Int32} (hn : nd ≤ 10) (hk : sp_kdis d t nd = 0) (h : sm_dok rd nd d t = 0) : (if sp_kdis d t nd = 0 then (if sp_dt rd nd d = 0 then vp_updL fo 0 0 else vp_updL fo 0 1) else fo) 0 = 0 := by
  unfold sm_dok at h
  rw [sm_dthr_eq d t hn, if_pos hk] at h
  rw [if_pos hk, if_pos h, pk_uLs]
theorem ag_dis1 {d t : Int32} (hn : nd ≤ 10) (hk : sp_kdis d t nd = 0) (h : ¬ sm_dok rd nd d t = 0) : (if sp_kdis d t nd = 0 then (if sp_dt rd nd d = 0 then vp_updL fo 0 0 else vp_updL fo 0 1) else fo) 0 = 1 := by
  unfold sm_dok at h
  rw [sm_dthr_eq d t hn, if_pos hk] at h
  rw [if_pos hk, if_neg h, pk_uLs]
theorem ag_line {wt pr : Int64} (hn : n ≤ 40) (hk : sp_kline wt pr n = 0) : (if sp_kline wt pr n = 0 then vp_updL fo 0 (nI n).toInt64 else fo) 0 = (if sm_lt wt pr n = 0 then nI n else 0).toInt64 := by
  rw [sp_kline_eq wt pr hn, if_pos hk, if_pos hk, pk_uLs]
theorem win01 {q : Int32} : (sp_within q.toInt64 0 1 = 0 ∧ ¬ q = 0 ∧ ¬ q = 1) ∨ (¬ sp_within q.toInt64 0 1 = 0 ∧ (q = 0 ∨ q = 1)) := by
  by_cases h0 : q = 0
  · subst h0; exact Or.inr ⟨by decide, Or.inl rfl⟩
  · by_cases h1 : q = 1
    · subst h1; exact Or.inr ⟨by decide, Or.inr rfl⟩
    · refine Or.inl ⟨?_, h0, h1⟩
      rcases Decidable.em (sp_within q.toInt64 0 1 = 0) with h | h
      · exact h
      · obtain ⟨m, -, hm, rfl⟩ := sp_win 0 1 (by decide) (by decide) (by decide) h
        rcases (show m = 0 ∨ m = 1 by omega) with rfl | rfl
        · exact absurd rfl h0
        · exact absurd rfl h1
theorem ag_kv (k q : Int32) (n M : Nat) : sm_vthr (sp_has k (nI n)) q M = sp_kv (sp_kval k q n) (nI M) := by
  unfold sm_vthr sp_kv sp_kval
  by_cases h1 : sp_has k (nI n) = 0
  · rw [if_pos h1, if_pos h1, if_neg sp_ne10]
  · rw [if_neg h1, if_neg h1]
    rcases win01 (q := q) with ⟨h2, h3, h4⟩ | ⟨h2, h3⟩
    · rw [if_neg h3, if_neg h4, if_pos h2, if_neg sp_ne10]
    · rw [if_neg h2, if_pos rfl]
      rcases h3 with rfl | rfl
      · rw [if_pos rfl]
      · rw [if_neg sp_ne10, if_pos rfl]
theorem ag_value (hL : iv_L n w p o sw sp9) (hC : iv_C nA tA cA bA oA nD tD cD bD oD C9 B9 O9) (hD : iv_D nd rt) (hF : iv_F fd fA fB) (hR : iv_R ups dns) (hO : iv_O day tst) {k q : Int32} (h : sp_kv (sp_kval k q n) (nI (sp_find n (cond 1) (sp_nneg (sp_tran w p o n sw sp9 v (sp_near (sp9 * (sp_thou rd rt (nI day) (nI paid) nd).toInt64) 1000) cA bA cD bD) n) (sp_test rel tst bnd (sp_sum (sp_tran w p o n sw sp9 v (sp_near (sp9 * (sp_thou rd rt (nI day) (nI paid) nd).toInt64) 1000) cA bA cD bD) n)) (fun k9 => sp_ok (cond k9) (fd k9) (sp_hold k9 (fA k9) (fB k9) tA tD)) trn)) = 0) (hu : uo = vp_updL fo 0 (if q = 0 then sp_give u1 (sp_upx (nI (sp_find n (cond 1) (sp_nneg (sp_tran w p o n sw sp9 v (sp_near (sp9 * (sp_thou rd rt (nI day) (nI paid) nd).toInt64) 1000) cA bA cD bD) n) (sp_test rel tst bnd (sp_sum (sp_tran w p o n sw sp9 v (sp_near (sp9 * (sp_thou rd rt (nI day) (nI paid) nd).toInt64) 1000) cA bA cD bD) n)) (fun k9 => sp_ok (cond k9) (fd k9) (sp_hold k9 (fA k9) (fB k9) tA tD)) trn)) (ups (day / 30))) (sp_upx (nI (sp_find n (cond 1) (sp_nneg (sp_tran w p o n sw sp9 v (sp_near (sp9 * (sp_thou rd rt (nI day) (nI paid) nd).toInt64) 1000) cA bA cD bD) n) (sp_test rel tst bnd (sp_sum (sp_tran w p o n sw sp9 v (sp_near (sp9 * (sp_thou rd rt (nI day) (nI paid) nd).toInt64) 1000) cA bA cD bD) n)) (fun k9 => sp_ok (cond k9) (fd k9) (sp_hold k9 (fA k9) (fB k9) tA tD)) trn)) (dns (day / 30))) (sp_near (sp_sum u1 n * (sp_upx (nI (sp_find n (cond 1) (sp_nneg (sp_tran w p o n sw sp9 v (sp_near (sp9 * (sp_thou rd rt (nI day) (nI paid) nd).toInt64) 1000) cA bA cD bD) n) (sp_test rel tst bnd (sp_sum (sp_tran w p o n sw sp9 v (sp_near (sp9 * (sp_thou rd rt (nI day) (nI paid) nd).toInt64) 1000) cA bA cD bD) n)) (fun k9 => sp_ok (cond k9) (fd k9) (sp_hold k9 (fA k9) (fB k9) tA tD)) trn)) (ups (day / 30)))) (sp_upx (nI (sp_find n (cond 1) (sp_nneg (sp_tran w p o n sw sp9 v (sp_near (sp9 * (sp_thou rd rt (nI day) (nI paid) nd).toInt64) 1000) cA bA cD bD) n) (sp_test rel tst bnd (sp_sum (sp_tran w p o n sw sp9 v (sp_near (sp9 * (sp_thou rd rt (nI day) (nI paid) nd).toInt64) 1000) cA bA cD bD) n)) (fun k9 => sp_ok (cond k9) (fd k9) (sp_hold k9 (fA k9) (fB k9) tA tD)) trn)) (dns (day / 30)))) n pa re k.toNatClampNeg else u1 k.toNatClampNeg)) (hv1 : sp_find n (cond 1) (sp_nneg (sp_tran w p o n sw sp9 v (sp_near (sp9 * (sp_thou rd rt (nI day) (nI paid) nd).toInt64) 1000) cA bA cD bD) n) (sp_test rel tst bnd (sp_sum (sp_tran w p o n sw sp9 v (sp_near (sp9 * (sp_thou rd rt (nI day) (nI paid) nd).toInt64) 1000) cA bA cD bD) n)) (fun k9 => sp_ok (cond k9) (fd k9) (sp_hold k9 (fA k9) (fB k9) tA tD)) trn = 1 → u1 = sp_tran w p o n sw sp9 v (sp_near (sp9 * (sp_thou rd rt (nI day) (nI paid) nd).toInt64) 1000) cA bA cD bD) (hv2 : 2 ≤ sp_find n (cond 1) (sp_nneg (sp_tran w p o n sw sp9 v (sp_near (sp9 * (sp_thou rd rt (nI day) (nI paid) nd).toInt64) 1000) cA bA cD bD) n) (sp_test rel tst bnd (sp_sum (sp_tran w p o n sw sp9 v (sp_near (sp9 * (sp_thou rd rt (nI day) (nI paid) nd).toInt64) 1000) cA bA cD bD) n)) (fun k9 => sp_ok (cond k9) (fd k9) (sp_hold k9 (fA k9) (fB k9) tA tD)) trn → ∃ v9, u1 = sp_ffg w p o n sw sp9 tA tD (sp_find n (cond 1) (sp_nneg (sp_tran w p o n sw sp9 v (sp_near (sp9 * (sp_thou rd rt (nI day) (nI paid) nd).toInt64) 1000) cA bA cD bD) n) (sp_test rel tst bnd (sp_sum (sp_tran w p o n sw sp9 v (sp_near (sp9 * (sp_thou rd rt (nI day) (nI paid) nd).toInt64) 1000) cA bA cD bD) n)) (fun k9 => sp_ok (cond k9) (fd k9) (sp_hold k9 (fA k9) (fB k9) tA tD)) trn) (fA (sp_find n (cond 1) (sp_nneg (sp_tran w p o n sw sp9 v (sp_near (sp9 * (sp_thou rd rt (nI day) (nI paid) nd).toInt64) 1000) cA bA cD bD) n) (sp_test rel tst bnd (sp_sum (sp_tran w p o n sw sp9 v (sp_near (sp9 * (sp_thou rd rt (nI day) (nI paid) nd).toInt64) 1000) cA bA cD bD) n)) (fun k9 => sp_ok (cond k9) (fd k9) (sp_hold k9 (fA k9) (fB k9) tA tD)) trn)) (fB (sp_find n (cond 1) (sp_nneg (sp_tran w p o n sw sp9 v (sp_near (sp9 * (sp_thou rd rt (nI day) (nI paid) nd).toInt64) 1000) cA bA cD bD) n) (sp_test rel tst bnd (sp_sum (sp_tran w p o n sw sp9 v (sp_near (sp9 * (sp_thou rd rt (nI day) (nI paid) nd).toInt64) 1000) cA bA cD bD) n)) (fun k9 => sp_ok (cond k9) (fd k9) (sp_hold k9 (fA k9) (fB k9) tA tD)) trn)) v9) :
    uo 0 = sm_value (sp_has k (nI n)) q (sm_now n (fun q9 => sm_holds q9 cond fd (sm_good (sm_trn w p n sw sp9 (sm_disc sp9 rd rt day paid nd) O9 C9 B9) n) (sm_test rel tst bnd (sp_sum (sm_trn w p n sw sp9 (sm_disc sp9 rd rt day paid nd) O9 C9 B9) n)) (sm_ded (fA 4) (fB 4) C9)) trn) (sm_get (fun i => sm_val (sm_now n (fun q9 => sm_holds q9 cond fd (sm_good (sm_trn w p n sw sp9 (sm_disc sp9 rd rt day paid nd) O9 C9 B9) n) (sm_test rel tst bnd (sp_sum (sm_trn w p n sw sp9 (sm_disc sp9 rd rt day paid nd) O9 C9 B9) n)) (sm_ded (fA 4) (fB 4) C9)) trn) (sm_trn w p n sw sp9 (sm_disc sp9 rd rt day paid nd) O9 C9 B9) w fA fB (sm_ded (fA 4) (fB 4) C9) (sm_near (fA 5 * (1000 + fB 5)) 1000 + sm_tol C9 0 (5 - 0)) (fun a9 j9 => sm_share w p n sw sp9 a9 j9 0) i * (sm_upx (nI (sm_now n (fun q9 => sm_holds q9 cond fd (sm_good (sm_trn w p n sw sp9 (sm_disc sp9 rd rt day paid nd) O9 C9 B9) n) (sm_test rel tst bnd (sp_sum (sm_trn w p n sw sp9 (sm_disc sp9 rd rt day paid nd) O9 C9 B9) n)) (sm_ded (fA 4) (fB 4) C9)) trn)) (ups (day / 30)) (ups (day / 30)))) (sm_upx (nI (sm_now n (fun q9 => sm_holds q9 cond fd (sm_good (sm_trn w p n sw sp9 (sm_disc sp9 rd rt day paid nd) O9 C9 B9) n) (sm_test rel tst bnd (sp_sum (sm_trn w p n sw sp9 (sm_disc sp9 rd rt day paid nd) O9 C9 B9) n)) (sm_ded (fA 4) (fB 4) C9)) trn)) (ups (day / 30)) (dns (day / 30))) (sm_near (sp_sum (sm_val (sm_now n (fun q9 => sm_holds q9 cond fd (sm_good (sm_trn w p n sw sp9 (sm_disc sp9 rd rt day paid nd) O9 C9 B9) n) (sm_test rel tst bnd (sp_sum (sm_trn w p n sw sp9 (sm_disc sp9 rd rt day paid nd) O9 C9 B9) n)) (sm_ded (fA 4) (fB 4) C9)) trn) (sm_trn w p n sw sp9 (sm_disc sp9 rd rt day paid nd) O9 C9 B9) w fA fB (sm_ded (fA 4) (fB 4) C9) (sm_near (fA 5 * (1000 + fB 5)) 1000 + sm_tol C9 0 (5 - 0)) (fun a9 j9 => sm_share w p n sw sp9 a9 j9 0)) n * (sm_upx (nI (sm_now n (fun q9 => sm_holds q9 cond fd (sm_good (sm_trn w p n sw sp9 (sm_disc sp9 rd rt day paid nd) O9 C9 B9) n) (sm_test rel tst bnd (sp_sum (sm_trn w p n sw sp9 (sm_disc sp9 rd rt day paid nd) O9 C9 B9) n)) (sm_ded (fA 4) (fB 4) C9)) trn)) (ups (day / 30)) (ups (day / 30)))) (sm_upx (nI (sm_now n (fun q9 => sm_holds q9 cond fd (sm_good (sm_trn w p n sw sp9 (sm_disc sp9 rd rt day paid nd) O9 C9 B9) n) (sm_test rel tst bnd (sp_sum (sm_trn w p n sw sp9 (sm_disc sp9 rd rt day paid nd) O9 C9 B9) n)) (sm_ded (fA 4) (fB 4) C9)) trn)) (ups (day / 30)) (dns (day / 30)))) n k.toNatClampNeg) ((sm_val (sm_now n (fun q9 => sm_holds q9 cond fd (sm_good (sm_trn w p n sw sp9 (sm_disc sp9 rd rt day paid nd) O9 C9 B9) n) (sm_test rel tst bnd (sp_sum (sm_trn w p n sw sp9 (sm_disc sp9 rd rt day paid nd) O9 C9 B9) n)) (sm_ded (fA 4) (fB 4) C9)) trn) (sm_trn w p n sw sp9 (sm_disc sp9 rd rt day paid nd) O9 C9 B9) w fA fB (sm_ded (fA 4) (fB 4) C9) (sm_near (fA 5 * (1000 + fB 5)) 1000 + sm_tol C9 0 (5 - 0)) (fun a9 j9 => sm_share w p n sw sp9 a9 j9 0)) k.toNatClampNeg) := by
  have e := ag_find (v := v) (rd := rd) (cond := cond) (rel := rel) (bnd := bnd) (trn := trn) (day := day) (paid := paid) hL hC hD hF hO
  have hh := now_hold (n := n) (hold := fun q9 => sm_holds q9 cond fd (sm_good (sm_trn w p n sw sp9 (sm_disc sp9 rd rt day paid nd) O9 C9 B9) n) (sm_test rel tst bnd (sp_sum (sm_trn w p n sw sp9 (sm_disc sp9 rd rt day paid nd) O9 C9 B9) n)) (sm_ded (fA 4) (fB 4) C9)) (tu := trn)
  have h6 := sm_now_le n (fun q9 => sm_holds q9 cond fd (sm_good (sm_trn w p n sw sp9 (sm_disc sp9 rd rt day paid nd) O9 C9 B9) n) (sm_test rel tst bnd (sp_sum (sm_trn w p n sw sp9 (sm_disc sp9 rd rt day paid nd) O9 C9 B9) n)) (sm_ded (fA 4) (fB 4) C9)) trn
  obtain ⟨M, hM⟩ : ∃ M, sm_now n (fun q9 => sm_holds q9 cond fd (sm_good (sm_trn w p n sw sp9 (sm_disc sp9 rd rt day paid nd) O9 C9 B9) n) (sm_test rel tst bnd (sp_sum (sm_trn w p n sw sp9 (sm_disc sp9 rd rt day paid nd) O9 C9 B9) n)) (sm_ded (fA 4) (fB 4) C9)) trn = M := ⟨_, rfl⟩
  rw [hM] at e hh h6 ⊢
  rw [e] at h hu hv1 hv2
  unfold sp_kv at h
  by_cases hkv : sp_kval k q n = 0
  · rw [if_pos hkv] at h
    by_cases hm : nI M = 0
    · rw [if_pos hm] at h; exact absurd h (by decide)
    · have hM0 : ¬ M = 0 := fun z => hm (by rw [z]; rfl)
      rcases sp_kval_c hL.1 k q with ⟨-, ⟨j, hj, rfl, h1⟩, h2⟩ | z
      · have hk9 : (nI j).toNatClampNeg = j := nI_clamp (by have := hL.1; omega)
        rw [hu, pk_uLs]
        simp only [hk9]
        unfold sm_value
        rw [if_neg h1]
        rcases win01 (q := q) with ⟨h3, -, -⟩ | ⟨-, h3⟩
        · exact absurd h3 h2
        · rcases h3 with rfl | rfl
          · rw [if_pos rfl, if_pos rfl, if_neg hm]
            exact ag_own hL hC hD hF hR hO (by omega) h6 (hh hM0).1 hv1 hv2 hj pa re
          · rw [if_neg sp_ne10, if_neg sp_ne10, if_pos rfl, if_neg hm]
            exact (ag_val hL hC hD hF (by omega) h6 (hh hM0).1 hv1 hv2 hj).1
      · rw [z] at hkv; exact absurd hkv (by decide)
  · rw [if_neg hkv] at h; exact absurd h (by decide)
theorem ag_tran (hL : iv_L n w p o sw sp9) (hC : iv_C nA tA cA bA oA nD tD cD bD oD C9 B9 O9) (hD : iv_D nd rt) {k : Int32} (hk : sp_ktra k n = 0) : (if sp_ktra k n = 0 then vp_updL fo 0 ((sp_tran w p o n sw sp9 v (sp_near (sp9 * (sp_thou rd rt (nI day) (nI paid) nd).toInt64) 1000) cA bA cD bD) k.toNatClampNeg) else fo) 0 = if sp_has k (nI n) = 0 then 0 else (sm_trn w p n sw sp9 (sm_disc sp9 rd rt day paid nd) O9 C9 B9) k.toNatClampNeg := by
  rw [if_pos hk, pk_uLs]
  rcases sp_ktra_c hL.1 k with ⟨-, j, hj, rfl, h1⟩ | z
  · rw [if_neg h1, nI_clamp (by have := hL.1; omega)]
    exact ag_tr hL hC hD hj
  · rw [z] at hk; exact absurd hk (by decide)
theorem ag_shr (hL : iv_L n w p o sw sp9) {k : Int32} {am : Int64} {bw : Int32} (hk : sp_ksh am k n = 0) : (if sp_ksh am k n = 0 then vp_updL fo 0 (sp_share w p o pa re n sw sp9 am bw k.toNatClampNeg) else fo) 0 = if sp_has k (nI n) = 0 then 0 else if sp_within am 0 1000000000 = 0 then 0 else sm_share w p n sw sp9 am k.toNatClampNeg bw := by
  rw [if_pos hk, pk_uLs]
  rcases sp_ksh_c hL.1 am k with ⟨-, ⟨j, hj, rfl, h1⟩, h2⟩ | z | z
  · rw [if_neg h1, if_neg h2, nI_clamp (by have := hL.1; omega), sp_share_eq hL.1 hj]
    exact sp_shr_share hL.1 hj hL.2.2.2.1 hL.2.1 hL.2.2.1 (bd_mono (bd_within (M := 1000000000) (by decide) (by decide) h2) (by decide))
  · rw [z] at hk; exact absurd hk (by decide)
  · rw [z] at hk; exact absurd hk (by decide)
theorem ag_pl (hn : n ≤ 40) {k : Int32} {am : Int64} (hk : sp_kpl am k n sw = 0) : (if sp_kpl am k n sw = 0 then vp_updL fo 0 (am * w k.toNatClampNeg / sw) else fo) 0 = if sp_has k (nI n) = 0 then 0 else if sp_within am 0 1000000000 = 0 then 0 else if sw = 0 then 0 else am * w k.toNatClampNeg / sw := by
  rw [if_pos hk, pk_uLs]
  rcases sp_kpl_c hn am k sw with ⟨-, ⟨j, hj, rfl, h1⟩, h2, h3⟩ | z | z | z
  · rw [if_neg h1, if_neg h2, if_neg h3]
  · rw [z] at hk; exact absurd hk (by decide)
  · rw [z] at hk; exact absurd hk (by decide)
  · rw [z] at hk; exact absurd hk (by decide)
theorem ag_count (hL : iv_L n w p o sw sp9) (hC : iv_C nA tA cA bA oA nD tD cD bD oD C9 B9 O9) (hD : iv_D nd rt) (hO : iv_O day tst) {q : Int32} : sm_count q (nI n) (nI nA) (nI nD) (nI (day / 30)) (sp_thou rd rt (nI day) (nI paid) nd) (nI nd) (sp_test rel tst bnd (sp_sum (sp_tran w p o n sw sp9 v (sp_near (sp9 * (sp_thou rd rt (nI day) (nI paid) nd).toInt64) 1000) cA bA cD bD) n)) = sm_count q (nI n) (nI (sm_cnt O9 q 9)) (nI (sm_cnt O9 q 9)) (nI (day / 30)) (sp_thou rd rt (nI day) (nI paid) nd) (nI nd) (sm_test rel tst bnd (sp_sum (sm_trn w p n sw sp9 (sm_disc sp9 rd rt day paid nd) O9 C9 B9) n)) := by
  rw [ag_ts hL hC hD hO]
  obtain ⟨-, -, -, -, -, hA, hN⟩ := hC
  unfold sm_count
  by_cases h0 : q = 0
  · rw [if_pos h0, if_pos h0]
  · rw [if_neg h0, if_neg h0]
    by_cases h1 : q = 1
    · rw [if_pos h1, if_pos h1, hA, h1]
    · rw [if_neg h1, if_neg h1]
      by_cases h2 : q = 2
      · rw [if_pos h2, if_pos h2, hN, h2]
      · rw [if_neg h2, if_neg h2]
theorem ag_sum (hL : iv_L n w p o sw sp9) (hC : iv_C nA tA cA bA oA nD tD cD bD oD C9 B9 O9) (hD : iv_D nd rt) (hF : iv_F fd fA fB) (hR : iv_R ups dns) (hO : iv_O day tst) {q : Int32} (hv : (q = 5 ∨ q = 6) → (sp_find n (cond 1) (sp_nneg (sp_tran w p o n sw sp9 v (sp_near (sp9 * (sp_thou rd rt (nI day) (nI paid) nd).toInt64) 1000) cA bA cD bD) n) (sp_test rel tst bnd (sp_sum (sp_tran w p o n sw sp9 v (sp_near (sp9 * (sp_thou rd rt (nI day) (nI paid) nd).toInt64) 1000) cA bA cD bD) n)) (fun k9 => sp_ok (cond k9) (fd k9) (sp_hold k9 (fA k9) (fB k9) tA tD)) trn = 1 → u1 = sp_tran w p o n sw sp9 v (sp_near (sp9 * (sp_thou rd rt (nI day) (nI paid) nd).toInt64) 1000) cA bA cD bD) ∧ (2 ≤ sp_find n (cond 1) (sp_nneg (sp_tran w p o n sw sp9 v (sp_near (sp9 * (sp_thou rd rt (nI day) (nI paid) nd).toInt64) 1000) cA bA cD bD) n) (sp_test rel tst bnd (sp_sum (sp_tran w p o n sw sp9 v (sp_near (sp9 * (sp_thou rd rt (nI day) (nI paid) nd).toInt64) 1000) cA bA cD bD) n)) (fun k9 => sp_ok (cond k9) (fd k9) (sp_hold k9 (fA k9) (fB k9) tA tD)) trn → ∃ v9, u1 = sp_ffg w p o n sw sp9 tA tD (sp_find n (cond 1) (sp_nneg (sp_tran w p o n sw sp9 v (sp_near (sp9 * (sp_thou rd rt (nI day) (nI paid) nd).toInt64) 1000) cA bA cD bD) n) (sp_test rel tst bnd (sp_sum (sp_tran w p o n sw sp9 v (sp_near (sp9 * (sp_thou rd rt (nI day) (nI paid) nd).toInt64) 1000) cA bA cD bD) n)) (fun k9 => sp_ok (cond k9) (fd k9) (sp_hold k9 (fA k9) (fB k9) tA tD)) trn) (fA (sp_find n (cond 1) (sp_nneg (sp_tran w p o n sw sp9 v (sp_near (sp9 * (sp_thou rd rt (nI day) (nI paid) nd).toInt64) 1000) cA bA cD bD) n) (sp_test rel tst bnd (sp_sum (sp_tran w p o n sw sp9 v (sp_near (sp9 * (sp_thou rd rt (nI day) (nI paid) nd).toInt64) 1000) cA bA cD bD) n)) (fun k9 => sp_ok (cond k9) (fd k9) (sp_hold k9 (fA k9) (fB k9) tA tD)) trn)) (fB (sp_find n (cond 1) (sp_nneg (sp_tran w p o n sw sp9 v (sp_near (sp9 * (sp_thou rd rt (nI day) (nI paid) nd).toInt64) 1000) cA bA cD bD) n) (sp_test rel tst bnd (sp_sum (sp_tran w p o n sw sp9 v (sp_near (sp9 * (sp_thou rd rt (nI day) (nI paid) nd).toInt64) 1000) cA bA cD bD) n)) (fun k9 => sp_ok (cond k9) (fd k9) (sp_hold k9 (fA k9) (fB k9) tA tD)) trn)) v9)) :
    sm_sum q sw sp9 tA tD (sp_near (sp9 * (sp_thou rd rt (nI day) (nI paid) nd).toInt64) 1000) (nI (sp_find n (cond 1) (sp_nneg (sp_tran w p o n sw sp9 v (sp_near (sp9 * (sp_thou rd rt (nI day) (nI paid) nd).toInt64) 1000) cA bA cD bD) n) (sp_test rel tst bnd (sp_sum (sp_tran w p o n sw sp9 v (sp_near (sp9 * (sp_thou rd rt (nI day) (nI paid) nd).toInt64) 1000) cA bA cD bD) n)) (fun k9 => sp_ok (cond k9) (fd k9) (sp_hold k9 (fA k9) (fB k9) tA tD)) trn)) (sp_near (sp_sum u1 n * (sp_upx (nI (sp_find n (cond 1) (sp_nneg (sp_tran w p o n sw sp9 v (sp_near (sp9 * (sp_thou rd rt (nI day) (nI paid) nd).toInt64) 1000) cA bA cD bD) n) (sp_test rel tst bnd (sp_sum (sp_tran w p o n sw sp9 v (sp_near (sp9 * (sp_thou rd rt (nI day) (nI paid) nd).toInt64) 1000) cA bA cD bD) n)) (fun k9 => sp_ok (cond k9) (fd k9) (sp_hold k9 (fA k9) (fB k9) tA tD)) trn)) (ups (day / 30)))) (sp_upx (nI (sp_find n (cond 1) (sp_nneg (sp_tran w p o n sw sp9 v (sp_near (sp9 * (sp_thou rd rt (nI day) (nI paid) nd).toInt64) 1000) cA bA cD bD) n) (sp_test rel tst bnd (sp_sum (sp_tran w p o n sw sp9 v (sp_near (sp9 * (sp_thou rd rt (nI day) (nI paid) nd).toInt64) 1000) cA bA cD bD) n)) (fun k9 => sp_ok (cond k9) (fd k9) (sp_hold k9 (fA k9) (fB k9) tA tD)) trn)) (dns (day / 30)))) (sp_sum u1 n) = sm_sum q sw sp9 (sm_tol C9 0 (5 - 0)) (sm_tol C9 5 (9 - 5)) (sm_disc sp9 rd rt day paid nd) (nI (sm_now n (fun q9 => sm_holds q9 cond fd (sm_good (sm_trn w p n sw sp9 (sm_disc sp9 rd rt day paid nd) O9 C9 B9) n) (sm_test rel tst bnd (sp_sum (sm_trn w p n sw sp9 (sm_disc sp9 rd rt day paid nd) O9 C9 B9) n)) (sm_ded (fA 4) (fB 4) C9)) trn)) (sm_near (sp_sum (sm_val (sm_now n (fun q9 => sm_holds q9 cond fd (sm_good (sm_trn w p n sw sp9 (sm_disc sp9 rd rt day paid nd) O9 C9 B9) n) (sm_test rel tst bnd (sp_sum (sm_trn w p n sw sp9 (sm_disc sp9 rd rt day paid nd) O9 C9 B9) n)) (sm_ded (fA 4) (fB 4) C9)) trn) (sm_trn w p n sw sp9 (sm_disc sp9 rd rt day paid nd) O9 C9 B9) w fA fB (sm_ded (fA 4) (fB 4) C9) (sm_near (fA 5 * (1000 + fB 5)) 1000 + sm_tol C9 0 (5 - 0)) (fun a9 j9 => sm_share w p n sw sp9 a9 j9 0)) n * (sm_upx (nI (sm_now n (fun q9 => sm_holds q9 cond fd (sm_good (sm_trn w p n sw sp9 (sm_disc sp9 rd rt day paid nd) O9 C9 B9) n) (sm_test rel tst bnd (sp_sum (sm_trn w p n sw sp9 (sm_disc sp9 rd rt day paid nd) O9 C9 B9) n)) (sm_ded (fA 4) (fB 4) C9)) trn)) (ups (day / 30)) (ups (day / 30)))) (sm_upx (nI (sm_now n (fun q9 => sm_holds q9 cond fd (sm_good (sm_trn w p n sw sp9 (sm_disc sp9 rd rt day paid nd) O9 C9 B9) n) (sm_test rel tst bnd (sp_sum (sm_trn w p n sw sp9 (sm_disc sp9 rd rt day paid nd) O9 C9 B9) n)) (sm_ded (fA 4) (fB 4) C9)) trn)) (ups (day / 30)) (dns (day / 30)))) (sp_sum (sm_val (sm_now n (fun q9 => sm_holds q9 cond fd (sm_good (sm_trn w p n sw sp9 (sm_disc sp9 rd rt day paid nd) O9 C9 B9) n) (sm_test rel tst bnd (sp_sum (sm_trn w p n sw sp9 (sm_disc sp9 rd rt day paid nd) O9 C9 B9) n)) (sm_ded (fA 4) (fB 4) C9)) trn) (sm_trn w p n sw sp9 (sm_disc sp9 rd rt day paid nd) O9 C9 B9) w fA fB (sm_ded (fA 4) (fB 4) C9) (sm_near (fA 5 * (1000 + fB 5)) 1000 + sm_tol C9 0 (5 - 0)) (fun a9 j9 => sm_share w p n sw sp9 a9 j9 0)) n) := by
  have e := ag_find (v := v) (rd := rd) (cond := cond) (rel := rel) (bnd := bnd) (trn := trn) (day := day) (paid := paid) hL hC hD hF hO
  have hh := now_hold (n := n) (hold := fun q9 => sm_holds q9 cond fd (sm_good (sm_trn w p n sw sp9 (sm_disc sp9 rd rt day paid nd) O9 C9 B9) n) (sm_test rel tst bnd (sp_sum (sm_trn w p n sw sp9 (sm_disc sp9 rd rt day paid nd) O9 C9 B9) n)) (sm_ded (fA 4) (fB 4) C9)) (tu := trn)
  have h6 := sm_now_le n (fun q9 => sm_holds q9 cond fd (sm_good (sm_trn w p n sw sp9 (sm_disc sp9 rd rt day paid nd) O9 C9 B9) n) (sm_test rel tst bnd (sp_sum (sm_trn w p n sw sp9 (sm_disc sp9 rd rt day paid nd) O9 C9 B9) n)) (sm_ded (fA 4) (fB 4) C9)) trn
  have e1 : tA = sm_tol C9 0 (5 - 0) := hC.2.2.2.1
  have e2 : tD = sm_tol C9 5 (9 - 5) := hC.2.2.2.2.1
  have e3 := (ag_dc (day := day) (paid := paid) (rd := rd) hL hD).1
  have key : ∀ M : Nat, M = sm_now n (fun q9 => sm_holds q9 cond fd (sm_good (sm_trn w p n sw sp9 (sm_disc sp9 rd rt day paid nd) O9 C9 B9) n) (sm_test rel tst bnd (sp_sum (sm_trn w p n sw sp9 (sm_disc sp9 rd rt day paid nd) O9 C9 B9) n)) (sm_ded (fA 4) (fB 4) C9)) trn → (q = 5 ∨ q = 6) → ¬ nI M = 0 → sp_near (sp_sum u1 n * (sp_upx (nI M) (ups (day / 30)))) (sp_upx (nI M) (dns (day / 30))) = sm_near (sp_sum (sm_val M (sm_trn w p n sw sp9 (sm_disc sp9 rd rt day paid nd) O9 C9 B9) w fA fB (sm_ded (fA 4) (fB 4) C9) (sm_near (fA 5 * (1000 + fB 5)) 1000 + sm_tol C9 0 (5 - 0)) (fun a9 j9 => sm_share w p n sw sp9 a9 j9 0)) n * (sm_upx (nI M) (ups (day / 30)) (ups (day / 30)))) (sm_upx (nI M) (ups (day / 30)) (dns (day / 30))) ∧ sp_sum u1 n = sp_sum (sm_val M (sm_trn w p n sw sp9 (sm_disc sp9 rd rt day paid nd) O9 C9 B9) w fA fB (sm_ded (fA 4) (fB 4) C9) (sm_near (fA 5 * (1000 + fB 5)) 1000 + sm_tol C9 0 (5 - 0)) (fun a9 j9 => sm_share w p n sw sp9 a9 j9 0)) n := by
    intro M hM hq hm
    rw [← hM] at e hh h6
    have hv' := hv hq
    rw [e] at hv'
    have hM0 : ¬ M = 0 := fun z => hm (by rw [z]; rfl)
    obtain ⟨g1, g2⟩ := ag_osum hL hC hD hF hR hO (show 1 ≤ M by omega) h6 (hh hM0).1 hv'.1 hv'.2
    exact ⟨g2, g1⟩
  obtain ⟨M, hM⟩ : ∃ M, M = sm_now n (fun q9 => sm_holds q9 cond fd (sm_good (sm_trn w p n sw sp9 (sm_disc sp9 rd rt day paid nd) O9 C9 B9) n) (sm_test rel tst bnd (sp_sum (sm_trn w p n sw sp9 (sm_disc sp9 rd rt day paid nd) O9 C9 B9) n)) (sm_ded (fA 4) (fB 4) C9)) trn := ⟨_, rfl⟩
  have key' := key M hM
  rw [e, ← hM]
  unfold sm_sum
  by_cases h0 : q = 0
  · rw [if_pos h0, if_pos h0]
  · rw [if_neg h0, if_neg h0]
    by_cases h1 : q = 1
    · rw [if_pos h1, if_pos h1]
    · rw [if_neg h1, if_neg h1]
      by_cases h2 : q = 2
      · rw [if_pos h2, if_pos h2, e1]
      · rw [if_neg h2, if_neg h2]
        by_cases h3 : q = 3
        · rw [if_pos h3, if_pos h3, e2]
        · rw [if_neg h3, if_neg h3]
          by_cases h4 : q = 4
          · rw [if_pos h4, if_pos h4, e3]
          · rw [if_neg h4, if_neg h4]
            by_cases h5 : q = 5
            · rw [if_pos h5, if_pos h5]
              by_cases hm : nI M = 0
              · rw [if_pos hm, if_pos hm]
              · rw [if_neg hm, if_neg hm]
                exact (key' (Or.inl h5) hm).1
            · rw [if_neg h5, if_neg h5]
              by_cases h6 : q = 6
              · rw [if_pos h6, if_pos h6]
                by_cases hm : nI M = 0
                · rw [if_pos hm, if_pos hm]
                · rw [if_neg hm, if_neg hm]
                  exact (key' (Or.inr h6) hm).2
              · rw [if_neg h6, if_neg h6]
end AH
