/-! Class and reference answer alike where the invariant holds. -/
theorem bd_near2 {a : Int64} {M : Nat} (hM : M < 2 ^ 63) (ha : bd_d M a) : bd_d (M / 1000 + 1) (sp_near a 1000) := by
  obtain ⟨x, hx, rfl⟩ := ha
  have hd : x / 1000 ≤ M / 1000 := Nat.div_le_div_right hx
  unfold sp_near
  rw [if_pos (by decide), show (1000 : Int64) = lN 1000 from rfl, pk_lDiv (by omega) (by decide) (by decide)]
  split
  · rw [Int64.add_zero]; exact ⟨x / 1000, by omega, rfl⟩
  · rw [lN_1]; exact ⟨x / 1000 + 1, by omega, rfl⟩
theorem bd_add {x y : Int64} {M N : Nat} (hx : bd_d M x) (hy : bd_d N y) : bd_d (M + N) (x + y) := by
  obtain ⟨a, ha, rfl⟩ := hx
  obtain ⟨b, hb, rfl⟩ := hy
  exact ⟨a + b, by omega, lN_add a b⟩
theorem tol_bd {ce : Nat → Int64} {B a : Nat} : ∀ m, (∀ k, a ≤ k → k < a + m → bd_d B (ce k)) → bd_d (m * B) (sm_tol ce a m) := by
  intro m
  induction m with
  | zero => intro _; exact ⟨0, Nat.zero_le _, rfl⟩
  | succ m ih =>
    intro h
    rw [Nat.succ_mul]
    exact bd_add (ih (fun k h1 h2 => h k h1 (by omega))) (h (a + m) (by omega) (by omega))
theorem bd_ge {x : Int64} {M : Nat} (hM : M < 2 ^ 63) (h : bd_d M x) : 0 ≤ x := by
  rw [Int64.le_iff_toInt_le, Int64.toInt_zero]
  exact (bd_pos hM h).1
theorem iv_L.sp {n : Nat} {w p o : Nat → Int64} {sw sp9 : Int64} (hL : iv_L n w p o sw sp9) : bd_d 4000000000 sp9 := by
  obtain ⟨hn, -, hp, -, -, rfl⟩ := hL
  exact bd_mono (bd_sum n hp) (by omega)
theorem iv_L.sw {n : Nat} {w p o : Nat → Int64} {sw sp9 : Int64} (hL : iv_L n w p o sw sp9) : bd_d 4000000000 sw := by
  obtain ⟨hn, hw, -, -, rfl, -⟩ := hL
  exact bd_mono (bd_sum n hw) (by omega)
section AG
variable {n nd day paid nA nD : Nat} {w p o v cA cD C9 fA fB : Nat → Int64} {bA oA bD oD B9 O9 rd rt cond fd ups dns : Nat → Int32} {sw sp9 tA tD tst : Int64} {rel bnd trn : Int32}
theorem ag_dc (hL : iv_L n w p o sw sp9) (hD : iv_D nd rt) : sp_near (sp9 * (sp_thou rd rt (nI day) (nI paid) nd).toInt64) 1000 = sm_disc sp9 rd rt day paid nd ∧ bd_d 4000000001 (sm_disc sp9 rd rt day paid nd) := by
  have h1 : bd_d (4000000000 * 1000) (sp9 * (sp_thou rd rt (nI day) (nI paid) nd).toInt64) := bd_mul hL.sp (thou_bd hD nd (Nat.le_refl _))
  have h2 : sp_near (sp9 * (sp_thou rd rt (nI day) (nI paid) nd).toInt64) 1000 = sm_disc sp9 rd rt day paid nd := sp_near_eq (M := 4000000000 * 1000) (N := 1000) (by decide) (by decide) h1 ⟨1000, Nat.le_refl _, rfl⟩ (by decide)
  refine ⟨h2, ?_⟩
  rw [← h2]
  exact bd_near2 (by decide) h1
theorem ag_tr (hL : iv_L n w p o sw sp9) (hC : iv_C nA tA cA bA oA nD tD cD bD oD C9 B9 O9) (hD : iv_D nd rt) {j : Nat} (hj : j < n) : (sp_tran w p o n sw sp9 v (sp_near (sp9 * (sp_thou rd rt (nI day) (nI paid) nd).toInt64) 1000) cA bA cD bD) j = (sm_trn w p n sw sp9 (sm_disc sp9 rd rt day paid nd) O9 C9 B9) j := by
  obtain ⟨h1, h2⟩ := ag_dc (day := day) (paid := paid) (rd := rd) hL hD
  rw [h1]
  exact sp_tran_eq hL.1 hj hL.2.2.2.1 hL.2.1 hL.2.2.1 (bd_mono h2 (by decide)) (fun k hk => bd_mono (hC.2.2.1 k hk).1 (by decide)) (fun k hk => ⟨(hC.1 k hk).1, (hC.1 k hk).2.1⟩) (fun k hk => ⟨(hC.2.1 k hk).1, (hC.2.1 k hk).2.1⟩) (fun k hk => (hC.2.2.1 k hk).2.1)
theorem ag_share (hL : iv_L n w p o sw sp9) {j M : Nat} (hj : j < n) {am : Int64} {bw : Int32} (hM : M ≤ 10000000000) (ham : bd_d M am) : bd_d (M + 1) (sm_share w p n sw sp9 am j bw) := by
  have h1 := hL.sw
  have h2 := hL.sp
  obtain ⟨hn, hw, hp, -, rfl, rfl⟩ := hL
  exact sm_share_bd hn hj (hw j hj) (hp j hj) h1 h2 (sum_ge n (by omega) hw j hj) (sum_ge n (by omega) hp j hj) hM ham
theorem ag_trib (hL : iv_L n w p o sw sp9) (hC : iv_C nA tA cA bA oA nD tD cD bD oD C9 B9 O9) (hD : iv_D nd rt) {j : Nat} (hj : j < n) : ib_d 20000000000 ((sm_trn w p n sw sp9 (sm_disc sp9 rd rt day paid nd) O9 C9 B9) j) := by
  obtain ⟨-, h2⟩ := ag_dc (day := day) (paid := paid) (rd := rd) hL hD
  have h3 := ag_share (bw := 0) hL hj (by decide) h2
  have h4 := (ib_sub (ib_of (by decide) (hL.2.2.1 j hj)) (ib_of (by decide) h3) (by decide)).1
  have h5 := sm_tr_ib (told := O9) (S := fun k => sm_share w p n sw sp9 (C9 k) j (B9 k)) (M := 1000000001) h4 (fun k hk => ib_of (by decide) (ag_share hL hj (by decide) (hC.2.2.1 k hk).1)) (by decide) 9 (Nat.le_refl _)
  exact ib_mono h5 (by decide)
theorem ag_ts (hL : iv_L n w p o sw sp9) (hC : iv_C nA tA cA bA oA nD tD cD bD oD C9 B9 O9) (hD : iv_D nd rt) (hO : iv_O day tst) : sp_test rel tst bnd (sp_sum (sp_tran w p o n sw sp9 v (sp_near (sp9 * (sp_thou rd rt (nI day) (nI paid) nd).toInt64) 1000) cA bA cD bD) n) = sm_test rel tst bnd (sp_sum (sm_trn w p n sw sp9 (sm_disc sp9 rd rt day paid nd) O9 C9 B9) n) := by
  rw [sum_congr (f := sp_tran w p o n sw sp9 v (sp_near (sp9 * (sp_thou rd rt (nI day) (nI paid) nd).toInt64) 1000) cA bA cD bD) (g := sm_trn w p n sw sp9 (sm_disc sp9 rd rt day paid nd) O9 C9 B9) n (fun j hj => ag_tr hL hC hD hj)]
  have hn := hL.1
  exact sp_test_eq (M := n * 20000000000) (by omega) (ib_sum n (by omega) (fun j hj => ag_trib hL hC hD hj)) hO.2
theorem nneg_congr {f g : Nat → Int64} {n : Nat} (h : ∀ j, j < n → f j = g j) : sp_nneg f n = sp_nneg g n := by
  unfold sp_nneg
  have e : (∀ j, j < n → ¬ f j < 0) = (∀ j, j < n → ¬ g j < 0) := propext ⟨fun q j hj => by rw [← h j hj]; exact q j hj, fun q j hj => by rw [h j hj]; exact q j hj⟩
  simp only [e]
theorem ag_ng (hL : iv_L n w p o sw sp9) (hC : iv_C nA tA cA bA oA nD tD cD bD oD C9 B9 O9) (hD : iv_D nd rt) : sp_nneg (sp_tran w p o n sw sp9 v (sp_near (sp9 * (sp_thou rd rt (nI day) (nI paid) nd).toInt64) 1000) cA bA cD bD) n = sm_good (sm_trn w p n sw sp9 (sm_disc sp9 rd rt day paid nd) O9 C9 B9) n := by
  rw [sm_good_eq]
  exact nneg_congr (fun j hj => ag_tr hL hC hD hj)
theorem ag_tA (hC : iv_C nA tA cA bA oA nD tD cD bD oD C9 B9 O9) : bd_d 5000000000 tA := by
  rw [hC.2.2.2.1]
  exact tol_bd (B := 1000000000) 5 (fun k _ hk => (hC.2.2.1 k (by omega)).1)
theorem ag_5 (hf : (4 ≤ 5 ∧ bd_d 1000000000 (fA 5) ∧ bd_d 1000 (fB 5))) : sp_near (fA 5 * (1000 + fB 5)) 1000 = sm_near (fA 5 * (1000 + fB 5)) 1000 ∧ bd_d 2000000001 (sp_near (fA 5 * (1000 + fB 5)) 1000) := by
  have h1 : bd_d (1000000000 * (1000 + 1000)) (fA 5 * (1000 + fB 5)) := bd_mul hf.2.1 (bd_add ⟨1000, Nat.le_refl _, rfl⟩ hf.2.2)
  exact ⟨sp_near_eq (M := 1000000000 * (1000 + 1000)) (N := 1000) (by decide) (by decide) h1 ⟨1000, Nat.le_refl _, rfl⟩ (by decide), bd_near2 (by decide) h1⟩
theorem f_hi {k : Nat} (hF : iv_F fd fA fB) (h4 : 4 ≤ k) (h6 : k ≤ 6) (h0 : ¬ fd k = 0) : 4 ≤ k ∧ bd_d 1000000000 (fA k) ∧ bd_d 1000 (fB k) := by
  rcases hF k (by omega) h6 with q | q | q
  · exact absurd q h0
  · omega
  · exact q
theorem f_lo {k : Nat} (hF : iv_F fd fA fB) (h4 : 2 ≤ k) (h6 : k ≤ 3) (h0 : ¬ fd k = 0) : bd_d 100000 (fA k) ∧ bd_d 1000000000 (fB k) ∧ 0 < fB k := by
  rcases hF k h4 (by omega) with q | q | q
  · exact absurd q h0
  · exact q.2
  · omega
theorem ag_hold (hC : iv_C nA tA cA bA oA nD tD cD bD oD C9 B9 O9) (hF : iv_F fd fA fB) {k : Nat} (h2 : 2 ≤ k) (h6 : k ≤ 6) {G S : Int32} : sp_ok (cond k) (fd k) (sp_hold k (fA k) (fB k) tA tD) = sm_holds k cond fd G S (sm_ded (fA 4) (fB 4) C9) := by
  unfold sp_ok sm_holds
  rw [if_neg (show ¬ k = 1 by omega)]
  have lo : k ≤ 3 → sp_hold k (fA k) (fB k) tA tD = 1 := fun h => if_neg (by omega)
  rcases Decidable.em (k = 4) with rfl | q4
  · rw [if_pos rfl]
    unfold sm_h4 sp_hold
    rw [if_pos (show 4 ≤ 4 by decide)]
    have e : sp_amt 4 (fA 4) (fB 4) tA tD = sm_ded (fA 4) (fB 4) C9 := by
      unfold sp_amt sm_ded
      rw [if_pos rfl, hC.2.2.2.2.1]
    rw [e]
    have e2 : (if 0 ≤ (sm_ded (fA 4) (fB 4) C9) then (1 : Int32) else 0) = if (sm_ded (fA 4) (fB 4) C9) < 0 then 0 else 1 := by
      by_cases h : (sm_ded (fA 4) (fB 4) C9) < 0
      · rw [if_pos h, if_neg (fun q => sp_nge2 q h)]
      · rw [if_neg h, if_pos (by rw [Int64.lt_iff_toInt_lt] at h; rw [Int64.le_iff_toInt_le]; omega)]
    rw [e2]
  · rw [if_neg q4]
    unfold sm_hx
    by_cases hc : cond k = 0
    · rw [if_pos hc, if_pos hc]
    · rw [if_neg hc, if_neg hc]
      by_cases hf : fd k = 0
      · rw [if_pos hf, if_pos hf]
      · rw [if_neg hf, if_neg hf]
        rcases Nat.lt_or_ge k 4 with q | q
        · exact lo (by omega)
        · unfold sp_hold
          rw [if_pos q]
          have hb := f_hi hF q h6 hf
          rcases Decidable.em (k = 5) with rfl | q5
          · have e : sp_amt 5 (fA 5) (fB 5) tA tD = sp_near (fA 5 * (1000 + fB 5)) 1000 + tA := by
              unfold sp_amt
              rw [if_neg (by decide), if_pos rfl]
            rw [e, if_pos (bd_ge (by decide) (bd_add (ag_5 hb).2 (ag_tA hC)))]
          · obtain rfl : k = 6 := by omega
            have e : sp_amt 6 (fA 6) (fB 6) tA tD = fA 6 := by
              unfold sp_amt
              rw [if_neg (by decide), if_neg (by decide)]
            rw [e, if_pos (bd_ge (by decide) hb.2.1)]
theorem ag_find (hL : iv_L n w p o sw sp9) (hC : iv_C nA tA cA bA oA nD tD cD bD oD C9 B9 O9) (hD : iv_D nd rt) (hF : iv_F fd fA fB) (hO : iv_O day tst) : sp_find n (cond 1) (sp_nneg (sp_tran w p o n sw sp9 v (sp_near (sp9 * (sp_thou rd rt (nI day) (nI paid) nd).toInt64) 1000) cA bA cD bD) n) (sp_test rel tst bnd (sp_sum (sp_tran w p o n sw sp9 v (sp_near (sp9 * (sp_thou rd rt (nI day) (nI paid) nd).toInt64) 1000) cA bA cD bD) n)) (fun k9 => sp_ok (cond k9) (fd k9) (sp_hold k9 (fA k9) (fB k9) tA tD)) trn = sm_now n (fun q9 => sm_holds q9 cond fd (sm_good (sm_trn w p n sw sp9 (sm_disc sp9 rd rt day paid nd) O9 C9 B9) n) (sm_test rel tst bnd (sp_sum (sm_trn w p n sw sp9 (sm_disc sp9 rd rt day paid nd) O9 C9 B9) n)) (sm_ded (fA 4) (fB 4) C9)) trn := by
  rw [ag_ng hL hC hD, ag_ts hL hC hD hO]
  exact sp_find_eq (fun k h2 h6 => ag_hold hC hF h2 h6) rfl
theorem found_hold (hold : Nat → Int32) (tu : Int32) : ∀ i, i ≤ 6 → ¬ sm_found hold tu i = 0 → ¬ hold (sm_found hold tu i) = 0 := by
  intro i
  induction i with
  | zero => intro _ h; exact absurd rfl h
  | succ i ih =>
    intro hi h
    by_cases q : hold (sm_mm tu (6 - i)) = 0
    · rw [sm_found_0 rfl q] at h ⊢
      exact ih (by omega) h
    · rw [sm_found_1 rfl q]
      exact q
theorem now_hold {n : Nat} {hold : Nat → Int32} {tu : Int32} (h : ¬ sm_now n hold tu = 0) : ¬ hold (sm_now n hold tu) = 0 ∧ ¬ nI n = 0 := by
  unfold sm_now at *
  by_cases q : nI n = 0
  · rw [if_pos q] at h; exact absurd rfl h
  · rw [if_neg q] at h ⊢
    exact ⟨found_hold hold tu 6 (Nat.le_refl _) h, q⟩
theorem hold_fd {k : Nat} {G S : Int32} {d : Int64} (h2 : 2 ≤ k) (h : ¬ sm_holds k cond fd G S d = 0) : ¬ fd k = 0 := by
  unfold sm_holds at h
  rw [if_neg (by omega)] at h
  intro q
  rcases Decidable.em (k = 4) with rfl | q4
  · rw [if_pos rfl] at h
    unfold sm_h4 at h
    by_cases hc : cond 4 = 0
    · rw [if_pos hc] at h; exact h rfl
    · rw [if_neg hc, if_pos q] at h; exact h rfl
  · rw [if_neg q4] at h
    unfold sm_hx at h
    by_cases hc : cond k = 0
    · rw [if_pos hc] at h; exact h rfl
    · rw [if_neg hc, if_pos q] at h; exact h rfl
theorem hold_4 {G S : Int32} {d : Int64} (h : ¬ sm_holds 4 cond fd G S d = 0) : 0 ≤ d := by
  unfold sm_holds sm_h4 at h
  rw [if_neg (by decide), if_pos rfl] at h
  by_cases hc : cond 4 = 0
  · rw [if_pos hc] at h; exact absurd rfl h
  · rw [if_neg hc] at h
    by_cases hf : fd 4 = 0
    · rw [if_pos hf] at h; exact absurd rfl h
    · rw [if_neg hf] at h
      by_cases q : d < 0
      · rw [if_pos q] at h; exact absurd rfl h
      · rw [Int64.lt_iff_toInt_lt] at q; rw [Int64.le_iff_toInt_le]; omega
theorem hold_1 {G S : Int32} {d : Int64} (h : ¬ sm_holds 1 cond fd G S d = 0) : ¬ G = 0 := by
  unfold sm_holds sm_h1 at h
  rw [if_pos rfl] at h
  intro q
  by_cases hc : cond 1 = 0
  · rw [if_pos hc] at h; exact h rfl
  · rw [if_neg hc, if_pos q] at h; exact h rfl
/-- what the deductive method shares -/
theorem ag_dedbd (hC : iv_C nA tA cA bA oA nD tD cD bD oD C9 B9 O9) (hf : 4 ≤ 4 ∧ bd_d 1000000000 (fA 4) ∧ bd_d 1000 (fB 4)) (h0 : 0 ≤ sm_ded (fA 4) (fB 4) C9) : bd_d 1000000000 (sm_ded (fA 4) (fB 4) C9) := by
  have h1 : bd_d (4 * 1000000000) (sm_tol C9 5 4) := tol_bd (B := 1000000000) 4 (fun k _ hk => (hC.2.2.1 k (by omega)).1)
  obtain ⟨a, ha, ea⟩ := hf.2.1
  obtain ⟨b, hb, eb⟩ := hf.2.2
  have e : sm_ded (fA 4) (fB 4) C9 = lN (a * (1000 - b) / 1000) - sm_tol C9 5 4 := by
    unfold sm_ded
    rw [ea, eb, show (1000 : Int64) = lN 1000 from rfl, lN_sub hb, lN_mul, pk_lDiv (Nat.lt_of_le_of_lt (Nat.mul_le_mul ha (Nat.sub_le 1000 b)) (by decide)) (by decide) (by decide)]
  have hq : a * (1000 - b) / 1000 ≤ 1000000000 := by
    have h2 : a * (1000 - b) ≤ 1000000000 * 1000 := Nat.mul_le_mul ha (by omega)
    exact Nat.le_trans (Nat.div_le_div_right h2) (by decide)
  have h3 : bd_d 1000000000 (lN (a * (1000 - b) / 1000)) := ⟨_, hq, rfl⟩
  obtain ⟨h4, h5⟩ := ib_sub (ib_of (by decide) h3) (ib_of (by decide) h1) (by decide)
  rw [e] at h0 ⊢
  rw [Int64.le_iff_toInt_le, Int64.toInt_zero] at h0
  have p1 := bd_pos (by decide) h3
  have p2 := bd_pos (by decide) h1
  exact bd_of (by decide) h0 (by omega)
/-- the values by the method k, which holds: what the class left in its row; and how great they are -/
theorem ag_val (hL : iv_L n w p o sw sp9) (hC : iv_C nA tA cA bA oA nD tD cD bD oD C9 B9 O9) (hD : iv_D nd rt) (hF : iv_F fd fA fB) {k : Nat} (hk1 : 1 ≤ k) (hk6 : k ≤ 6) (hh : ¬ sm_holds k cond fd (sm_good (sm_trn w p n sw sp9 (sm_disc sp9 rd rt day paid nd) O9 C9 B9) n) (sm_test rel tst bnd (sp_sum (sm_trn w p n sw sp9 (sm_disc sp9 rd rt day paid nd) O9 C9 B9) n)) (sm_ded (fA 4) (fB 4) C9) = 0) {u1 : Nat → Int64} (r1 : k = 1 → u1 = sp_tran w p o n sw sp9 v (sp_near (sp9 * (sp_thou rd rt (nI day) (nI paid) nd).toInt64) 1000) cA bA cD bD) (r2 : 2 ≤ k → ∃ v, u1 = sp_ffg w p o n sw sp9 tA tD k (fA k) (fB k) v) {j : Nat} (hj : j < n) :
    u1 j = (sm_val k (sm_trn w p n sw sp9 (sm_disc sp9 rd rt day paid nd) O9 C9 B9) w fA fB (sm_ded (fA 4) (fB 4) C9) (sm_near (fA 5 * (1000 + fB 5)) 1000 + sm_tol C9 0 (5 - 0)) (fun a9 j9 => sm_share w p n sw sp9 a9 j9 0)) j ∧ bd_d 10000000000001 ((sm_val k (sm_trn w p n sw sp9 (sm_disc sp9 rd rt day paid nd) O9 C9 B9) w fA fB (sm_ded (fA 4) (fB 4) C9) (sm_near (fA 5 * (1000 + fB 5)) 1000 + sm_tol C9 0 (5 - 0)) (fun a9 j9 => sm_share w p n sw sp9 a9 j9 0)) j) := by
  have hsh : ∀ am : Int64, bd_d 10000000000 am → ∀ v' : Nat → Int64, sp_fsh w p o n sw sp9 am v' j = sm_share w p n sw sp9 am j 0 ∧ bd_d 10000000000001 (sm_share w p n sw sp9 am j 0) := by
    intro am ham v'
    refine ⟨?_, bd_mono (ag_share hL hj (Nat.le_refl _) ham) (by decide)⟩
    unfold sp_fsh
    rw [if_pos (bd_ge (by decide) ham), sp_fill_lt hj, sp_shr_share hL.1 hj hL.2.2.2.1 hL.2.1 hL.2.2.1 ham]
  have hwt : ∀ (a b : Int64) (v' : Nat → Int64), bd_d 100000 a → bd_d 1000000000 b → 0 < b → sp_fwt w n a b v' j = sm_near (w j * a) b ∧ bd_d 10000000000001 (sm_near (w j * a) b) := by
    intro a b v' ha hb h0
    have h1 : bd_d (100000000 * 100000) (w j * a) := bd_mul (hL.2.1 j hj) ha
    have h2 : sp_near (w j * a) b = sm_near (w j * a) b := sp_near_eq (M := 100000000 * 100000) (by decide) (by decide) h1 hb h0
    unfold sp_fwt
    rw [sp_fill_lt hj, ← h2]
    exact ⟨rfl, bd_near (M := 100000000 * 100000) (by decide) (by decide) h1 hb h0⟩
  unfold sm_val
  rcases Decidable.em (k = 1) with rfl | q1
  · rw [if_pos rfl, r1 rfl]
    refine ⟨ag_tr hL hC hD hj, ?_⟩
    have h1 := hold_1 hh
    rw [sm_good_eq] at h1
    have h2 : ∀ i, i < n → ¬ (sm_trn w p n sw sp9 (sm_disc sp9 rd rt day paid nd) O9 C9 B9) i < 0 := by
      unfold sp_nneg at h1
      by_cases q : ∀ i, i < n → ¬ (sm_trn w p n sw sp9 (sm_disc sp9 rd rt day paid nd) O9 C9 B9) i < 0
      · exact q
      · rw [if_neg q] at h1; exact absurd rfl h1
    have h3 := h2 j hj
    have h4 := ag_trib (day := day) (paid := paid) (rd := rd) hL hC hD hj
    rw [Int64.lt_iff_toInt_lt, Int64.toInt_zero] at h3
    exact bd_mono (bd_of (M := 20000000000) (by decide) (by omega) h4.2) (by decide)
  · obtain ⟨v', hv⟩ := r2 (by omega)
    have hfd := hold_fd (show 2 ≤ k by omega) hh
    rw [if_neg q1, hv]
    unfold sp_ffg
    rcases Decidable.em (k = 2) with rfl | q2
    · rw [if_pos rfl, if_neg (by decide)]
      obtain ⟨g1, g2, g3⟩ := f_lo hF (by decide) (by decide) hfd
      exact hwt _ _ _ g1 g2 g3
    · rw [if_neg q2]
      rcases Decidable.em (k = 3) with rfl | q3
      · rw [if_pos rfl, if_neg (by decide)]
        obtain ⟨g1, g2, g3⟩ := f_lo hF (by decide) (by decide) hfd
        exact hwt _ _ _ g1 g2 g3
      · have hb := f_hi hF (show 4 ≤ k by omega) hk6 hfd
        rw [if_neg q3, if_pos (by omega)]
        rcases Decidable.em (k = 4) with rfl | q4
        · rw [if_pos rfl]
          have e : sp_amt 4 (fA 4) (fB 4) tA tD = sm_ded (fA 4) (fB 4) C9 := by
            unfold sp_amt sm_ded
            rw [if_pos rfl, hC.2.2.2.2.1]
          rw [e]
          exact hsh _ (bd_mono (ag_dedbd hC hb (hold_4 hh)) (by decide)) _
        · rw [if_neg q4]
          rcases Decidable.em (k = 5) with rfl | q5
          · rw [if_pos rfl]
            have e : sp_amt 5 (fA 5) (fB 5) tA tD = sm_near (fA 5 * (1000 + fB 5)) 1000 + sm_tol C9 0 (5 - 0) := by
              unfold sp_amt
              rw [if_neg (by decide), if_pos rfl, (ag_5 hb).1, hC.2.2.2.1]
            have e2 : bd_d 10000000000 (sp_amt 5 (fA 5) (fB 5) tA tD) := by
              unfold sp_amt
              rw [if_neg (by decide), if_pos rfl]
              exact bd_mono (bd_add (ag_5 hb).2 (ag_tA hC)) (by decide)
            rw [e] at e2 ⊢
            exact hsh _ e2 _
          · obtain rfl : k = 6 := by omega
            rw [if_neg q5]
            have e : sp_amt 6 (fA 6) (fB 6) tA tD = fA 6 := by
              unfold sp_amt
              rw [if_neg (by decide), if_neg (by decide)]
            rw [e]
            exact hsh _ (bd_mono hb.2.1 (by decide)) _
/-- one's own currency -/
theorem upx_eq {k u x : Int32} (h : u = 0 ↔ x = 0) : sp_upx k x = sm_upx k u x := by
  unfold sp_upx sm_upx sp_own sm_own sp_rate
  by_cases h4 : k = 4
  · simp [h4]
  · by_cases h5 : k = 5
    · simp [h5]
    · by_cases h0 : u = 0
      · have := h.mp h0
        simp [h4, h5, h0, this]
      · have := mt h.mpr h0
        simp [h4, h5, h0, this]
theorem upx_bd {k x : Int32} (h : x = 0 ∨ (1 ≤ x.toInt ∧ x.toInt ≤ 10000)) : bd_d 10000 (sp_upx k x) ∧ 0 < sp_upx k x := by
  unfold sp_upx sp_rate
  have c1 : bd_d 10000 1 ∧ (0 : Int64) < 1 := ⟨⟨1, by decide, rfl⟩, by decide⟩
  split
  · split
    · exact c1
    · rename_i h2
      rcases h with h | ⟨h3, h4⟩
      · exact absurd h h2
      · have e := Int32.toInt_toInt64 x
        exact ⟨bd_of (by decide) (by omega) (by omega), by rw [Int64.lt_iff_toInt_lt, Int64.toInt_zero]; omega⟩
  · exact c1
theorem ag_up (hR : iv_R ups dns) (hO : iv_O day tst) (k : Int32) : sp_upx k (ups (day / 30)) = sm_upx k (ups (day / 30)) (ups (day / 30)) ∧ sp_upx k (dns (day / 30)) = sm_upx k (ups (day / 30)) (dns (day / 30)) ∧ bd_d 10000 (sp_upx k (ups (day / 30))) ∧ bd_d 10000 (sp_upx k (dns (day / 30))) ∧ 0 < sp_upx k (dns (day / 30)) := by
  have hd : day / 30 < 12 := by have := hO.1; omega
  have h1 : ups (day / 30) = 0 ∨ (1 ≤ (ups (day / 30)).toInt ∧ (ups (day / 30)).toInt ≤ 10000) := (hR _ hd).elim (fun q => Or.inl q.1) (fun q => Or.inr q.1)
  have h2 : dns (day / 30) = 0 ∨ (1 ≤ (dns (day / 30)).toInt ∧ (dns (day / 30)).toInt ≤ 10000) := (hR _ hd).elim (fun q => Or.inl q.2) (fun q => Or.inr q.2)
  have h3 : ups (day / 30) = 0 ↔ dns (day / 30) = 0 := by
    rcases hR _ hd with ⟨a, b⟩ | ⟨⟨a, -⟩, ⟨b, -⟩⟩
    · exact ⟨fun _ => b, fun _ => a⟩
    · exact ⟨fun q => absurd q (rt_pos a).1, fun q => absurd q (rt_pos b).1⟩
  exact ⟨upx_eq Iff.rfl, upx_eq h3, (upx_bd h1).1, (upx_bd h2).1, (upx_bd h2).2⟩
theorem ag_dn (hR : iv_R ups dns) (hO : iv_O day tst) (q : Int32) : ¬ sm_upx q (ups (day / 30)) (dns (day / 30)) = 0 := by
  obtain ⟨-, e, -, -, h⟩ := ag_up hR hO q
  rw [← e]
  exact lp_ne0 h
theorem ag_fb (hF : iv_F fd fA fB) {n : Nat} {G S : Int32} {d : Int64} (h2 : 2 ≤ sm_now n (fun q9 => sm_holds q9 cond fd G S d) trn) (h3 : sm_now n (fun q9 => sm_holds q9 cond fd G S d) trn ≤ 3) : ¬ fB (sm_now n (fun q9 => sm_holds q9 cond fd G S d) trn) = 0 := by
  have h := (now_hold (n := n) (hold := fun q9 => sm_holds q9 cond fd G S d) (tu := trn) (by omega)).1
  exact lp_ne0 (f_lo hF h2 h3 (hold_fd h2 h)).2.2
theorem ag_osum (hL : iv_L n w p o sw sp9) (hC : iv_C nA tA cA bA oA nD tD cD bD oD C9 B9 O9) (hD : iv_D nd rt) (hF : iv_F fd fA fB) (hR : iv_R ups dns) (hO : iv_O day tst) {k : Nat} (hk1 : 1 ≤ k) (hk6 : k ≤ 6) (hh : ¬ sm_holds k cond fd (sm_good (sm_trn w p n sw sp9 (sm_disc sp9 rd rt day paid nd) O9 C9 B9) n) (sm_test rel tst bnd (sp_sum (sm_trn w p n sw sp9 (sm_disc sp9 rd rt day paid nd) O9 C9 B9) n)) (sm_ded (fA 4) (fB 4) C9) = 0) {u1 : Nat → Int64} (r1 : k = 1 → u1 = sp_tran w p o n sw sp9 v (sp_near (sp9 * (sp_thou rd rt (nI day) (nI paid) nd).toInt64) 1000) cA bA cD bD) (r2 : 2 ≤ k → ∃ v, u1 = sp_ffg w p o n sw sp9 tA tD k (fA k) (fB k) v) :
    sp_sum u1 n = sp_sum (sm_val k (sm_trn w p n sw sp9 (sm_disc sp9 rd rt day paid nd) O9 C9 B9) w fA fB (sm_ded (fA 4) (fB 4) C9) (sm_near (fA 5 * (1000 + fB 5)) 1000 + sm_tol C9 0 (5 - 0)) (fun a9 j9 => sm_share w p n sw sp9 a9 j9 0)) n ∧ sp_near (sp_sum u1 n * (sp_upx (nI k) (ups (day / 30)))) (sp_upx (nI k) (dns (day / 30))) = sm_near (sp_sum (sm_val k (sm_trn w p n sw sp9 (sm_disc sp9 rd rt day paid nd) O9 C9 B9) w fA fB (sm_ded (fA 4) (fB 4) C9) (sm_near (fA 5 * (1000 + fB 5)) 1000 + sm_tol C9 0 (5 - 0)) (fun a9 j9 => sm_share w p n sw sp9 a9 j9 0)) n * (sm_upx (nI k) (ups (day / 30)) (ups (day / 30)))) (sm_upx (nI k) (ups (day / 30)) (dns (day / 30))) := by
  have hn := hL.1
  have e1 : sp_sum u1 n = sp_sum (sm_val k (sm_trn w p n sw sp9 (sm_disc sp9 rd rt day paid nd) O9 C9 B9) w fA fB (sm_ded (fA 4) (fB 4) C9) (sm_near (fA 5 * (1000 + fB 5)) 1000 + sm_tol C9 0 (5 - 0)) (fun a9 j9 => sm_share w p n sw sp9 a9 j9 0)) n := sum_congr n (fun j hj => (ag_val hL hC hD hF hk1 hk6 hh r1 r2 hj).1)
  have b1 : bd_d (n * 10000000000001) (sp_sum (sm_val k (sm_trn w p n sw sp9 (sm_disc sp9 rd rt day paid nd) O9 C9 B9) w fA fB (sm_ded (fA 4) (fB 4) C9) (sm_near (fA 5 * (1000 + fB 5)) 1000 + sm_tol C9 0 (5 - 0)) (fun a9 j9 => sm_share w p n sw sp9 a9 j9 0)) n) := bd_sum n (fun j hj => (ag_val hL hC hD hF hk1 hk6 hh r1 r2 hj).2)
  obtain ⟨u, d, bu, bd, d0⟩ := ag_up hR hO (nI k)
  refine ⟨e1, ?_⟩
  rw [e1, ← u, ← d]
  exact sp_near_eq (M := 40 * 10000000000001 * 10000) (N := 10000) (by decide) (by decide) (bd_mul (bd_mono b1 (Nat.mul_le_mul hn (Nat.le_refl _))) bu) bd d0
theorem ag_own (hL : iv_L n w p o sw sp9) (hC : iv_C nA tA cA bA oA nD tD cD bD oD C9 B9 O9) (hD : iv_D nd rt) (hF : iv_F fd fA fB) (hR : iv_R ups dns) (hO : iv_O day tst) {k : Nat} (hk1 : 1 ≤ k) (hk6 : k ≤ 6) (hh : ¬ sm_holds k cond fd (sm_good (sm_trn w p n sw sp9 (sm_disc sp9 rd rt day paid nd) O9 C9 B9) n) (sm_test rel tst bnd (sp_sum (sm_trn w p n sw sp9 (sm_disc sp9 rd rt day paid nd) O9 C9 B9) n)) (sm_ded (fA 4) (fB 4) C9) = 0) {u1 : Nat → Int64} (r1 : k = 1 → u1 = sp_tran w p o n sw sp9 v (sp_near (sp9 * (sp_thou rd rt (nI day) (nI paid) nd).toInt64) 1000) cA bA cD bD) (r2 : 2 ≤ k → ∃ v, u1 = sp_ffg w p o n sw sp9 tA tD k (fA k) (fB k) v) {j : Nat} (hj : j < n) (pa re : Nat → Int64) :
    sp_give u1 (sp_upx (nI k) (ups (day / 30))) (sp_upx (nI k) (dns (day / 30))) (sp_near (sp_sum u1 n * (sp_upx (nI k) (ups (day / 30)))) (sp_upx (nI k) (dns (day / 30)))) n pa re j = sm_get (fun i => sm_val k (sm_trn w p n sw sp9 (sm_disc sp9 rd rt day paid nd) O9 C9 B9) w fA fB (sm_ded (fA 4) (fB 4) C9) (sm_near (fA 5 * (1000 + fB 5)) 1000 + sm_tol C9 0 (5 - 0)) (fun a9 j9 => sm_share w p n sw sp9 a9 j9 0) i * (sm_upx (nI k) (ups (day / 30)) (ups (day / 30)))) (sm_upx (nI k) (ups (day / 30)) (dns (day / 30))) (sm_near (sp_sum (sm_val k (sm_trn w p n sw sp9 (sm_disc sp9 rd rt day paid nd) O9 C9 B9) w fA fB (sm_ded (fA 4) (fB 4) C9) (sm_near (fA 5 * (1000 + fB 5)) 1000 + sm_tol C9 0 (5 - 0)) (fun a9 j9 => sm_share w p n sw sp9 a9 j9 0)) n * (sm_upx (nI k) (ups (day / 30)) (ups (day / 30)))) (sm_upx (nI k) (ups (day / 30)) (dns (day / 30)))) n j := by
  obtain ⟨-, e2⟩ := ag_osum hL hC hD hF hR hO hk1 hk6 hh r1 r2
  obtain ⟨u, d, bu, bd, d0⟩ := ag_up hR hO (nI k)
  have hv := fun j hj => ag_val hL hC hD hF hk1 hk6 hh r1 r2 (j := j) hj
  rw [sp_give_get d0 hL.1 hj (fun i hi => bd_rest (M := 10000000000001 * 10000) (by decide) (bd_mul (by rw [(hv i hi).1]; exact (hv i hi).2) bu) d0) pa re, e2, u, d]
  exact sm_get_congr hj (fun i hi => by rw [(hv i hi).1])
end AG
