/-! The invariant between class and reference, in pieces, and what each call does to it. -/
theorem bd_within {x : Int64} {M : Nat} {b : Int64} (hM : M < 2 ^ 63) (hb : b.toInt = M) (h : ¬ sp_within x 0 b = 0) : bd_d M x := by
  unfold sp_within at h
  by_cases h1 : x < 0
  · rw [if_pos h1] at h; exact absurd rfl h
  · rw [if_neg h1] at h
    by_cases h2 : b < x
    · rw [if_pos h2] at h; exact absurd rfl h
    · rw [Int64.lt_iff_toInt_lt] at h1 h2
      have h3 := Int64.toInt_zero
      exact bd_of hM (by omega) (by omega)
theorem sum_congr {f g : Nat → Int64} : ∀ n, (∀ k, k < n → f k = g k) → sp_sum f n = sp_sum g n := by
  intro n
  induction n with
  | zero => intro _; rfl
  | succ n ih =>
    intro h
    show sp_sum f n + f n = sp_sum g n + g n
    rw [ih (fun k hk => h k (by omega)), h n (by omega)]
theorem sum_upd {f : Nat → Int64} {n : Nat} {x : Int64} : sp_sum (vp_updL f n x) (n + 1) = sp_sum f n + x := by
  show sp_sum (vp_updL f n x) n + vp_updL f n x n = _
  rw [pk_uLs, sum_congr n (fun k hk => pk_uLn (by omega))]
theorem sum_ge {g : Nat → Int64} {B : Nat} : ∀ n, n * B < 2 ^ 63 → (∀ k, k < n → bd_d B (g k)) → ∀ j, j < n → (g j).toInt ≤ (sp_sum g n).toInt := by
  intro n
  induction n with
  | zero => intro _ _ j hj; omega
  | succ n ih =>
    intro h hg j hj
    have e : (n + 1) * B = n * B + B := Nat.succ_mul n B
    have h1 := bd_sum n (fun k hk => hg k (by omega))
    have h2 := hg n (by omega)
    have hp1 := bd_pos (by omega) h1
    have hp2 := bd_pos (by omega) h2
    have e2 := (ib_add (ib_of (by omega) h1) (ib_of (by omega) h2) (by omega)).2
    show _ ≤ (sp_sum g n + g n).toInt
    rw [e2]
    rcases Nat.lt_or_ge j n with q | q
    · have := ih (by omega) (fun k hk => hg k (by omega)) j q
      omega
    · obtain rfl : j = n := by omega
      omega
/-- the lines -/
def iv_L (n : Nat) (w p o : Nat → Int64) (sw sp : Int64) : Prop := n ≤ 40 ∧ (∀ k, k < n → bd_d 100000000 (w k)) ∧ (∀ k, k < n → bd_d 100000000 (p k)) ∧ (∀ k, k < n → o k = 1) ∧ sw = sp_sum w n ∧ sp = sp_sum p n
theorem iv_L.line {n : Nat} {w p o : Nat → Int64} {sw sp wt pr : Int64} (h : iv_L n w p o sw sp) : iv_L (if sp_kline wt pr n = 0 then n + 1 else n) (if sp_kline wt pr n = 0 then vp_updL w n wt else w) (if sp_kline wt pr n = 0 then vp_updL p n pr else p) (if sp_kline wt pr n = 0 then vp_updL o n 1 else o) (if sp_kline wt pr n = 0 then sw + wt else sw) (if sp_kline wt pr n = 0 then sp + pr else sp) := by
  obtain ⟨hn, hw, hp, ho, rfl, rfl⟩ := h
  by_cases hk : sp_kline wt pr n = 0
  · simp only [if_pos hk]
    rcases sp_kline_c wt pr hn with ⟨-, h1, h2, h3, -⟩ | q | q
    · refine ⟨by omega, fun k hk => ?_, fun k hk => ?_, fun k hk => ?_, sum_upd.symm, sum_upd.symm⟩
      · rcases Nat.lt_or_ge k n with q | q
        · rw [pk_uLn (by omega)]; exact hw k q
        · obtain rfl : k = n := by omega
          rw [pk_uLs]; exact bd_within (by decide) (by decide) h1
      · rcases Nat.lt_or_ge k n with q | q
        · rw [pk_uLn (by omega)]; exact hp k q
        · obtain rfl : k = n := by omega
          rw [pk_uLs]; exact bd_within (by decide) (by decide) h2
      · rcases Nat.lt_or_ge k n with q | q
        · rw [pk_uLn (by omega)]; exact ho k q
        · obtain rfl : k = n := by omega
          rw [pk_uLs]
    · rw [q] at hk; exact absurd hk (by decide)
    · rw [q] at hk; exact absurd hk (by decide)
  · simp only [if_neg hk]
    exact ⟨hn, hw, hp, ho, rfl, rfl⟩
theorem sp_kline_eq (wt pr : Int64) {n : Nat} (hn : n ≤ 40) : sm_lt wt pr n = sp_kline wt pr n := by
  unfold sm_lt sp_kline
  by_cases h1 : sp_within wt 0 100000000 = 0
  · rw [if_pos h1, if_pos h1]
  · rw [if_neg h1, if_neg h1]
    by_cases h2 : sp_within pr 0 100000000 = 0
    · rw [if_pos h2, if_pos h2]
    · rw [if_neg h2, if_neg h2]
      unfold sp_full
      by_cases h3 : n < 40
      · have e1 : nI n < 40 := by
          rw [Int32.lt_iff_toInt_lt, nI_toInt (by omega)]
          show (n : Int) < 40
          omega
        have e2 : ¬ nI n = 40 := fun q => by rw [q] at e1; exact absurd e1 (by decide)
        rw [if_neg e2, if_pos e1, if_pos rfl]
      · obtain rfl : n = 40 := by omega
        rfl
/-- the charges -/
theorem tol_out {ce : Nat → Int64} {k a : Nat} {x : Int64} : ∀ m, k < a ∨ a + m ≤ k → sm_tol (vp_updL ce k x) a m = sm_tol ce a m := by
  intro m
  induction m with
  | zero => intro _; rfl
  | succ m ih =>
    intro h
    show sm_tol (vp_updL ce k x) a m + vp_updL ce k x (a + m) = sm_tol ce a m + ce (a + m)
    rw [ih (by omega), pk_uLn (by omega)]
theorem tol_in {ce : Nat → Int64} {k a : Nat} {x : Int64} (h0 : ce k = 0) (ha : a ≤ k) : ∀ m, k < a + m → sm_tol (vp_updL ce k x) a m = sm_tol ce a m + x := by
  intro m
  induction m with
  | zero => intro h; omega
  | succ m ih =>
    intro h
    show sm_tol (vp_updL ce k x) a m + vp_updL ce k x (a + m) = sm_tol ce a m + ce (a + m) + x
    rcases Nat.lt_or_ge k (a + m) with q | q
    · rw [ih q, pk_uLn (by omega), Int64.add_assoc, Int64.add_comm x, ← Int64.add_assoc]
    · obtain rfl : k = a + m := by omega
      rw [pk_uLs, tol_out m (by omega), h0, Int64.add_zero]
def cb_c (t what : Int32) (i : Nat) : Nat := if t = 0 then 0 else if what = 1 then (if 5 ≤ nI i then 0 else 1) else (if nI i ≤ 4 then 0 else 1)
theorem sm_cnt_s (told : Nat → Int32) (what : Int32) (i : Nat) : sm_cnt told what (i + 1) = sm_cnt told what i + cb_c (told i) what i := by
  show (if told i = 0 then sm_cnt told what i else if what = 1 then (if 5 ≤ nI i then sm_cnt told what i else sm_cnt told what i + 1) else (if nI i ≤ 4 then sm_cnt told what i else sm_cnt told what i + 1)) = _
  unfold cb_c
  by_cases h1 : told i = 0
  · rw [if_pos h1, if_pos h1, Nat.add_zero]
  · rw [if_neg h1, if_neg h1]
    by_cases h2 : what = 1
    · rw [if_pos h2, if_pos h2]
      by_cases h3 : 5 ≤ nI i
      · rw [if_pos h3, if_pos h3, Nat.add_zero]
      · rw [if_neg h3, if_neg h3]
    · rw [if_neg h2, if_neg h2]
      by_cases h3 : nI i ≤ 4
      · rw [if_pos h3, if_pos h3, Nat.add_zero]
      · rw [if_neg h3, if_neg h3]
theorem cnt_out {told : Nat → Int32} {what t : Int32} {k : Nat} : ∀ m, m ≤ k → sm_cnt (upd told k t) what m = sm_cnt told what m := by
  intro m
  induction m with
  | zero => intro _; rfl
  | succ m ih =>
    intro h
    rw [sm_cnt_s, sm_cnt_s, ih (by omega), pk_un (by omega)]
theorem cnt_in {told : Nat → Int32} {what t : Int32} {k : Nat} (h0 : told k = 0) : ∀ m, k < m → sm_cnt (upd told k t) what m = sm_cnt told what m + cb_c t what k := by
  intro m
  induction m with
  | zero => intro h; omega
  | succ m ih =>
    intro h
    rw [sm_cnt_s, sm_cnt_s]
    rcases Nat.lt_or_ge k m with q | q
    · rw [ih q, pk_un (by omega)]
      omega
    · obtain rfl : k = m := by omega
      rw [cnt_out _ (Nat.le_refl _), pk_us, h0, show cb_c 0 what k = 0 from if_pos rfl]
      omega
def iv_C (nA : Nat) (tA : Int64) (cA : Nat → Int64) (bA oA : Nat → Int32) (nD : Nat) (tD : Int64) (cD : Nat → Int64) (bD oD : Nat → Int32) (C9 : Nat → Int64) (B9 O9 : Nat → Int32) : Prop :=
  (∀ k, k < 5 → cA k = C9 k ∧ bA k = B9 k ∧ oA k = O9 k) ∧ (∀ k, k < 4 → cD k = C9 (5 + k) ∧ bD k = B9 (5 + k) ∧ oD k = O9 (5 + k)) ∧ (∀ k, k < 9 → bd_d 1000000000 (C9 k) ∧ (O9 k = 0 → C9 k = 0) ∧ (B9 k = 0 ∨ B9 k = 1)) ∧ tA = sm_tol C9 0 5 ∧ tD = sm_tol C9 5 4 ∧ nA = sm_cnt O9 1 9 ∧ nD = sm_cnt O9 2 9
theorem iv_C.putA {nA nD : Nat} {tA tD am : Int64} {cA cD C9 : Nat → Int64} {bA oA bD oD B9 O9 : Nat → Int32} {bw : Int32} {k : Nat} (h : iv_C nA tA cA bA oA nD tD cD bD oD C9 B9 O9) (hk : k < 5) (h0 : oA k = 0) (ha : bd_d 1000000000 am) (hb : bw = 0 ∨ bw = 1) : iv_C (nA + 1) (tA + am) (vp_updL cA k am) (upd bA k bw) (upd oA k 1) nD tD cD bD oD (vp_updL C9 k am) (upd B9 k bw) (upd O9 k 1) := by
  obtain ⟨h1, h2, h3, rfl, rfl, rfl, rfl⟩ := h
  have hO : O9 k = 0 := (h1 k hk).2.2.symm.trans h0
  have hC : C9 k = 0 := (h3 k (by omega)).2.1 hO
  refine ⟨fun j hj => ?_, fun j hj => ?_, fun j hj => ?_, ?_, ?_, ?_, ?_⟩
  · rcases Decidable.em (j = k) with rfl | q
    · rw [pk_uLs, pk_uLs, pk_us, pk_us, pk_us, pk_us]; exact ⟨rfl, rfl, rfl⟩
    · rw [pk_uLn q, pk_uLn q, pk_un q, pk_un q, pk_un q, pk_un q]; exact h1 j hj
  · rw [pk_uLn (show 5 + j ≠ k by omega), pk_un (show 5 + j ≠ k by omega), pk_un (show 5 + j ≠ k by omega)]; exact h2 j hj
  · rcases Decidable.em (j = k) with rfl | q
    · rw [pk_uLs, pk_us, pk_us]; exact ⟨ha, fun q => absurd q (by decide), hb⟩
    · rw [pk_uLn q, pk_un q, pk_un q]; exact h3 j hj
  · exact (tol_in hC (Nat.zero_le _) 5 (by omega)).symm
  · exact (tol_out 4 (Or.inl hk)).symm
  · rw [cnt_in hO 9 (by omega), show cb_c 1 1 k = 1 from (if_neg (by decide)).trans ((if_pos rfl).trans (if_neg (nI_ge hk (by decide))))]
  · rw [cnt_in hO 9 (by omega), show cb_c 1 2 k = 0 from (if_neg (by decide)).trans ((if_neg (by decide)).trans (if_pos (nI_le (a := k) (b := 4) (by omega) (by decide)))), Nat.add_zero]
theorem iv_C.putD {nA nD : Nat} {tA tD am : Int64} {cA cD C9 : Nat → Int64} {bA oA bD oD B9 O9 : Nat → Int32} {bw : Int32} {k : Nat} (h : iv_C nA tA cA bA oA nD tD cD bD oD C9 B9 O9) (hk : k < 4) (h0 : oD k = 0) (ha : bd_d 1000000000 am) (hb : bw = 0 ∨ bw = 1) : iv_C nA tA cA bA oA (nD + 1) (tD + am) (vp_updL cD k am) (upd bD k bw) (upd oD k 1) (vp_updL C9 (5 + k) am) (upd B9 (5 + k) bw) (upd O9 (5 + k) 1) := by
  obtain ⟨h1, h2, h3, rfl, rfl, rfl, rfl⟩ := h
  have hO : O9 (5 + k) = 0 := (h2 k hk).2.2.symm.trans h0
  have hC : C9 (5 + k) = 0 := (h3 (5 + k) (by omega)).2.1 hO
  refine ⟨fun j hj => ?_, fun j hj => ?_, fun j hj => ?_, ?_, ?_, ?_, ?_⟩
  · rw [pk_uLn (show j ≠ 5 + k by omega), pk_un (show j ≠ 5 + k by omega), pk_un (show j ≠ 5 + k by omega)]; exact h1 j hj
  · rcases Decidable.em (j = k) with rfl | q
    · rw [pk_uLs, pk_uLs, pk_us, pk_us, pk_us, pk_us]; exact ⟨rfl, rfl, rfl⟩
    · have q2 : 5 + j ≠ 5 + k := by omega
      rw [pk_uLn q, pk_uLn q2, pk_un q, pk_un q2, pk_un q, pk_un q2]; exact h2 j hj
  · rcases Decidable.em (j = 5 + k) with rfl | q
    · rw [pk_uLs, pk_us, pk_us]; exact ⟨ha, fun q => absurd q (by decide), hb⟩
    · rw [pk_uLn q, pk_un q, pk_un q]; exact h3 j hj
  · exact (tol_out 5 (Or.inr (by omega))).symm
  · exact (tol_in hC (by omega) 4 (by omega)).symm
  · rw [cnt_in hO 9 (by omega), show cb_c 1 1 (5 + k) = 0 from (if_neg (by decide)).trans ((if_pos rfl).trans (if_pos (nI_le (a := 5) (by omega) (by omega)))), Nat.add_zero]
  · rw [cnt_in hO 9 (by omega), show cb_c 1 2 (5 + k) = 1 from (if_neg (by decide)).trans ((if_neg (by decide)).trans (if_neg (nI_ge (a := 4) (show 4 < 5 + k by omega) (by omega))))]
/-- the ends of add and less agree -/
theorem sp_has_win {k : Int32} {K : Nat} {b : Int64} (hK : 0 < K) (hK2 : K < 2 ^ 31) (hb : b.toInt = (K : Int) - 1) : sp_within k.toInt64 0 b = sp_has k (nI K) := by
  unfold sp_within sp_has
  have e0 : (k.toInt64 < 0) = (k < 0) := by
    apply propext
    rw [Int64.lt_iff_toInt_lt, Int32.lt_iff_toInt_lt, Int32.toInt_toInt64]
    exact Iff.rfl
  have e1 : (b < k.toInt64) = (nI K ≤ k) := by
    apply propext
    rw [Int64.lt_iff_toInt_lt, Int32.le_iff_toInt_le, Int32.toInt_toInt64, nI_toInt hK2, hb]
    omega
  simp only [e0, e1]
def sm_aa (b am : Int64) (k : Int32) (o : Int32) : Int32 := if sp_within k.toInt64 0 b = 0 then 0 else sm_tk am o
theorem sp_kadd_eq {k : Int32} {am b : Int64} {K : Nat} (hK : 0 < K) (hK2 : K < 2 ^ 31) (hb : b.toInt = (K : Int) - 1) : (if sp_within k.toInt64 0 b = 0 then 1 else if sp_within am 0 1000000000 = 0 then 1 else 0) = sp_kadd K k am := by
  unfold sp_kadd
  rw [sp_has_win hK hK2 hb]
theorem iv_C.add {nA nD : Nat} {tA tD am : Int64} {cA cD C9 : Nat → Int64} {bA oA bD oD B9 O9 : Nat → Int32} {bw k : Int32} (h : iv_C nA tA cA bA oA nD tD cD bD oD C9 B9 O9) (hb : bw = 0 ∨ bw = 1) :
    iv_C (if sp_kadd 5 k am = 0 then (if oA k.toNatClampNeg = 0 then nA + 1 else nA) else nA) (if sp_kadd 5 k am = 0 then (if oA k.toNatClampNeg = 0 then tA + am else tA) else tA) (if sp_kadd 5 k am = 0 then (if oA k.toNatClampNeg = 0 then vp_updL cA k.toNatClampNeg am else cA) else cA) (if sp_kadd 5 k am = 0 then (if oA k.toNatClampNeg = 0 then upd bA k.toNatClampNeg bw else bA) else bA) (if sp_kadd 5 k am = 0 then (if oA k.toNatClampNeg = 0 then upd oA k.toNatClampNeg 1 else oA) else oA) nD tD cD bD oD
      (if (if sp_within k.toInt64 0 4 = 0 then 0 else sm_tk am (O9 k.toNatClampNeg)) = 0 then C9 else vp_updL C9 k.toNatClampNeg am) (if (if sp_within k.toInt64 0 4 = 0 then 0 else sm_tk am (O9 k.toNatClampNeg)) = 0 then B9 else upd B9 k.toNatClampNeg bw) (if (if sp_within k.toInt64 0 4 = 0 then 0 else sm_tk am (O9 k.toNatClampNeg)) = 0 then O9 else upd O9 k.toNatClampNeg 1) := by
  rw [sp_has_win (K := 5) (by decide) (by decide) (by decide)]
  rcases sp_kadd_c (K := 5) (by decide) k am with ⟨hk, ⟨j, hj, rfl, h1⟩, h2⟩ | hk
  · have ec : (nI j).toNatClampNeg = j := nI_clamp (by omega)
    have e1 := (h.1 j hj).2.2
    simp only [if_pos hk, ec, if_neg h1]
    unfold sm_tk
    simp only [if_neg h2]
    by_cases h3 : oA j = 0
    · have h4 : O9 j = 0 := e1.symm.trans h3
      simp only [if_pos h3, if_pos h4, if_neg sp_ne10]
      exact h.putA hj h3 (bd_within (by decide) (by decide) h2) hb
    · have h4 : ¬ O9 j = 0 := fun q => h3 (e1.trans q)
      simp only [if_neg h3, if_neg h4, ↓reduceIte]
      exact h
  · have hk8 : ¬ sp_kadd 5 k am = 0 := by rw [hk]; decide
    have h5 : (if sp_has k (nI 5) = 0 then 0 else sm_tk am (O9 k.toNatClampNeg)) = 0 := by
      unfold sp_kadd at hk
      by_cases h1 : sp_has k (nI 5) = 0
      · rw [if_pos h1]
      · rw [if_neg h1] at hk ⊢
        by_cases h2 : sp_within am 0 1000000000 = 0
        · unfold sm_tk; rw [if_pos h2]
        · rw [if_neg h2] at hk; exact absurd hk (by decide)
    simp only [if_neg hk8, if_pos h5]
    exact h
theorem iv_C.less {nA nD : Nat} {tA tD am : Int64} {cA cD C9 : Nat → Int64} {bA oA bD oD B9 O9 : Nat → Int32} {bw k : Int32} (h : iv_C nA tA cA bA oA nD tD cD bD oD C9 B9 O9) (hb : bw = 0 ∨ bw = 1) :
    iv_C nA tA cA bA oA (if sp_kadd 4 k am = 0 then (if oD k.toNatClampNeg = 0 then nD + 1 else nD) else nD) (if sp_kadd 4 k am = 0 then (if oD k.toNatClampNeg = 0 then tD + am else tD) else tD) (if sp_kadd 4 k am = 0 then (if oD k.toNatClampNeg = 0 then vp_updL cD k.toNatClampNeg am else cD) else cD) (if sp_kadd 4 k am = 0 then (if oD k.toNatClampNeg = 0 then upd bD k.toNatClampNeg bw else bD) else bD) (if sp_kadd 4 k am = 0 then (if oD k.toNatClampNeg = 0 then upd oD k.toNatClampNeg 1 else oD) else oD)
      (if (if sp_within k.toInt64 0 3 = 0 then 0 else sm_tk am (O9 (5 + k.toNatClampNeg))) = 0 then C9 else vp_updL C9 (5 + k.toNatClampNeg) am) (if (if sp_within k.toInt64 0 3 = 0 then 0 else sm_tk am (O9 (5 + k.toNatClampNeg))) = 0 then B9 else upd B9 (5 + k.toNatClampNeg) bw) (if (if sp_within k.toInt64 0 3 = 0 then 0 else sm_tk am (O9 (5 + k.toNatClampNeg))) = 0 then O9 else upd O9 (5 + k.toNatClampNeg) 1) := by
  rw [sp_has_win (K := 4) (by decide) (by decide) (by decide)]
  rcases sp_kadd_c (K := 4) (by decide) k am with ⟨hk, ⟨j, hj, rfl, h1⟩, h2⟩ | hk
  · have ec : (nI j).toNatClampNeg = j := nI_clamp (by omega)
    have e1 := (h.2.1 j hj).2.2
    simp only [if_pos hk, ec, if_neg h1]
    unfold sm_tk
    simp only [if_neg h2]
    by_cases h3 : oD j = 0
    · have h4 : O9 (5 + j) = 0 := e1.symm.trans h3
      simp only [if_pos h3, if_pos h4, if_neg sp_ne10]
      exact h.putD hj h3 (bd_within (by decide) (by decide) h2) hb
    · have h4 : ¬ O9 (5 + j) = 0 := fun q => h3 (e1.trans q)
      simp only [if_neg h3, if_neg h4, ↓reduceIte]
      exact h
  · have hk8 : ¬ sp_kadd 4 k am = 0 := by rw [hk]; decide
    have h5 : (if sp_has k (nI 4) = 0 then 0 else sm_tk am (O9 (5 + k.toNatClampNeg))) = 0 := by
      unfold sp_kadd at hk
      by_cases h1 : sp_has k (nI 4) = 0
      · rw [if_pos h1]
      · rw [if_neg h1] at hk ⊢
        by_cases h2 : sp_within am 0 1000000000 = 0
        · unfold sm_tk; rw [if_pos h2]
        · rw [if_neg h2] at hk; exact absurd hk (by decide)
    simp only [if_neg hk8, if_pos h5]
    exact h
