/-! NEAR, the transaction's values, the method: the class's and the reference's. -/
theorem bd_pos {x : Int64} {M : Nat} (hM : M < 2 ^ 63) (h : bd_d M x) : 0 ≤ x.toInt ∧ x.toInt ≤ M := by
  obtain ⟨a, ha, rfl⟩ := h
  rw [pk_lT (by omega)]
  omega
theorem bd_of {x : Int64} {M : Nat} (hM : M < 2 ^ 63) (h0 : 0 ≤ x.toInt) (h1 : x.toInt ≤ M) : bd_d M x := by
  refine ⟨x.toInt.toNat, by omega, ?_⟩
  apply Int64.toInt_inj.mp
  rw [pk_lT (by omega)]
  omega
theorem sp_near_eq {a b : Int64} {M N : Nat} (hM : M < 2 ^ 63) (hN : N < 2 ^ 62) (ha : bd_d M a) (hb : bd_d N b) (h0 : 0 < b) : sp_near a b = sm_near a b := by
  obtain ⟨x, hx, rfl⟩ := ha
  obtain ⟨y, hy, rfl⟩ := hb
  have hy0 : 0 < y := by
    rw [Int64.lt_iff_toInt_lt, pk_lT (by omega)] at h0
    have := Int64.toInt_zero
    omega
  have hm := Nat.mod_lt x hy0
  unfold sp_near sm_near
  rw [if_pos h0, pk_lRem (by omega) hy0 (by omega), lN_sub (Nat.le_of_lt hm), show (2 : Int64) = lN 2 from rfl, lN_mul]
  by_cases h : x % y < y - x % y
  · rw [if_pos ((pk_lLT (by omega) (by omega)).mpr h), if_pos ((pk_lLT (by omega) (by omega)).mpr (by omega))]
  · rw [if_neg (fun q => h ((pk_lLT (by omega) (by omega)).mp q)), if_neg (fun q => h (by have := (pk_lLT (by omega) (by omega)).mp q; omega))]
theorem bd_near {a b : Int64} {M N : Nat} (hM : M + 1 < 2 ^ 63) (hN : N < 2 ^ 62) (ha : bd_d M a) (hb : bd_d N b) (h0 : 0 < b) : bd_d (M + 1) (sp_near a b) := by
  obtain ⟨x, hx, rfl⟩ := ha
  obtain ⟨y, hy, rfl⟩ := hb
  have hy0 : 0 < y := by
    rw [Int64.lt_iff_toInt_lt, pk_lT (by omega)] at h0
    have := Int64.toInt_zero
    omega
  have hd := Nat.div_le_self x y
  unfold sp_near
  rw [if_pos h0, pk_lDiv (by omega) hy0 (by omega)]
  split
  · rw [Int64.add_zero]; exact ⟨x / y, by omega, rfl⟩
  · rw [lN_1]; exact ⟨x / y + 1, by omega, rfl⟩
theorem lp_m1m (x : Int64) : (-1 : Int32).toInt64 * x = -x := by
  have h : (-1 : Int32).toInt64 = -(1 : Int64) := by decide
  rw [h, Int64.neg_mul, Int64.one_mul]
theorem lp_1m (x : Int64) : (1 : Int32).toInt64 * x = x := by
  have h : (1 : Int32).toInt64 = 1 := by decide
  rw [h, Int64.one_mul]
/-- of nothing nobody gets anything -/
theorem sm_share_0 {w p : Nat → Int64} {n j : Nat} {sw sp : Int64} {bw : Int32} (hn : n ≤ 40) (hj : j < n) : sm_share w p n sw sp 0 j bw = 0 := by
  have hd := sm_whole_ne (sw := sw) (sp := sp) (bw := bw) (show 0 < n by omega) hn
  have e0 : ∀ k, (0 : Int64) * sm_part w p sw sp bw k / sm_whole sw sp n bw = 0 := fun k => by
    rw [Int64.zero_mul, Int64.zero_div]
  have hl : ∀ m, sm_left (fun k => (0 : Int64) * sm_part w p sw sp bw k / sm_whole sw sp n bw) 0 m = 0 := by
    intro m
    induction m with
    | zero => rfl
    | succ m ih => show sm_left _ _ m - _ = 0; rw [ih]; show (0 : Int64) - (0 * sm_part w p sw sp bw m / sm_whole sw sp n bw) = 0; rw [e0, Int64.sub_zero]
  have ha : ∀ (r : Nat → Int64) (o : Int64) (m : Nat), sm_ahead r o j m ≤ m := by
    intro r o m
    induction m with
    | zero => exact Nat.le_refl _
    | succ m ih =>
      unfold sm_ahead
      split
      · omega
      · split
        · split <;> omega
        · omega
  unfold sm_share sm_get
  dsimp only
  have h9 := ha (fun k => 0 * sm_part w p sw sp bw k - 0 * sm_part w p sw sp bw k / sm_whole sw sp n bw * sm_whole sw sp n bw) (0 * sm_part w p sw sp bw j - 0 * sm_part w p sw sp bw j / sm_whole sw sp n bw * sm_whole sw sp n bw) n
  rw [hl n, if_pos (by rw [Int64.le_iff_toInt_le, Int32.toInt_toInt64, nI_toInt (by omega), Int64.toInt_zero]; omega), e0, Int64.add_zero]
/-- one amount mixed in: a line's value -/
theorem sp_mix_at {w p o : Nat → Int64} {n j : Nat} {sw sp am : Int64} {sg bw : Int32} {v : Nat → Int64} (hn : n ≤ 40) (hj : j < n) (ho : ∀ k, k < n → o k = 1) (hw : ∀ k, k < n → bd_d 100000000 (w k)) (hp : ∀ k, k < n → bd_d 100000000 (p k)) (ham : bd_d 10000000000 am) :
    sp_mix w p o n sw sp sg v am bw j = v j + sg.toInt64 * sm_share w p n sw sp am j bw := by
  unfold sp_mix
  by_cases h : am = 0
  · rw [if_pos h, h, sm_share_0 hn hj, Int64.mul_zero, Int64.add_zero]
  · rw [if_neg h, sp_fill_lt hj, sp_shr_share hn hj ho hw hp ham]
theorem sm_tr_s (b : Int64) (told : Nat → Int32) (S : Nat → Int64) (k : Nat) : sm_tr b told S (k + 1) = if told k = 0 then (if 5 ≤ nI k then sm_tr b told S k + -0 else sm_tr b told S k + 0) else if 5 ≤ nI k then sm_tr b told S k + -(S k) else sm_tr b told S k + S k := rfl
/-- the transaction's values -/
theorem sp_tran_eq {w p o : Nat → Int64} {n j : Nat} {sw sp dc : Int64} {v ac ec ce : Nat → Int64} {ab eb told bw : Nat → Int32} (hn : n ≤ 40) (hj : j < n) (ho : ∀ k, k < n → o k = 1) (hw : ∀ k, k < n → bd_d 100000000 (w k)) (hp : ∀ k, k < n → bd_d 100000000 (p k)) (hdc : bd_d 10000000000 dc)
    (hce : ∀ k, k < 9 → bd_d 10000000000 (ce k)) (hA : ∀ k, k < 5 → ac k = ce k ∧ ab k = bw k) (hE : ∀ k, k < 4 → ec k = ce (5 + k) ∧ eb k = bw (5 + k)) (ht : ∀ k, k < 9 → told k = 0 → ce k = 0) :
    sp_tran w p o n sw sp v dc ac ab ec eb j = sm_trn w p n sw sp dc told ce bw j := by
  have h0 : sp_mix w p o n sw sp (-1) (sp_fill p v n) dc 0 j = p j - sm_share w p n sw sp dc j 0 := by
    rw [sp_mix_at hn hj ho hw hp hdc, sp_fill_lt hj, lp_m1m, Int64.sub_eq_add_neg]
  have hz : ∀ k, k < 9 → told k = 0 → sm_share w p n sw sp (ce k) j (bw k) = 0 := fun k hk q => by rw [ht k hk q, sm_share_0 hn hj]
  have n0 : (-0 : Int64) = 0 := by decide
  have hA' : ∀ m, m ≤ 5 → sp_mixes w p o n sw sp 1 (sp_mix w p o n sw sp (-1) (sp_fill p v n) dc 0) ac ab m j = sm_tr (p j - sm_share w p n sw sp dc j 0) told (fun k => sm_share w p n sw sp (ce k) j (bw k)) m := by
    intro m
    induction m with
    | zero => intro _; exact h0
    | succ m ih =>
      intro hm
      have h5 : ¬ 5 ≤ nI m := nI_ge (show m < 5 by omega) (by decide)
      show sp_mix w p o n sw sp 1 (sp_mixes _ _ _ _ _ _ _ _ _ _ m) (ac m) (ab m) j = _
      rw [(hA m (by omega)).1, (hA m (by omega)).2, sp_mix_at hn hj ho hw hp (hce m (by omega)), ih (by omega), lp_1m]
      rw [sm_tr_s]
      by_cases q : told m = 0
      · rw [if_pos q, if_neg h5, hz m (by omega) q]
      · rw [if_neg q, if_neg h5]
  have hE' : ∀ m, m ≤ 4 → sp_mixes w p o n sw sp (-1) (sp_mixes w p o n sw sp 1 (sp_mix w p o n sw sp (-1) (sp_fill p v n) dc 0) ac ab 5) ec eb m j = sm_tr (p j - sm_share w p n sw sp dc j 0) told (fun k => sm_share w p n sw sp (ce k) j (bw k)) (5 + m) := by
    intro m
    induction m with
    | zero => intro _; exact hA' 5 (Nat.le_refl _)
    | succ m ih =>
      intro hm
      have h5 : 5 ≤ nI (5 + m) := nI_le (show 5 ≤ 5 + m by omega) (by omega)
      show sp_mix w p o n sw sp (-1) (sp_mixes _ _ _ _ _ _ _ _ _ _ m) (ec m) (eb m) j = _
      rw [(hE m (by omega)).1, (hE m (by omega)).2, sp_mix_at hn hj ho hw hp (hce (5 + m) (by omega)), ih (by omega), lp_m1m]
      show _ = sm_tr _ told _ (5 + m + 1)
      rw [sm_tr_s]
      by_cases q : told (5 + m) = 0
      · rw [if_pos q, if_pos h5, hz (5 + m) (by omega) q]
      · rw [if_neg q, if_pos h5]
  exact hE' 4 (Nat.le_refl _)
/-- the first method that holds: the class's search and the reference's -/
theorem sp_found_eq (hold : Nat → Int32) (tu : Int32) : sm_found hold tu 6 = if hold 1 = 0 then sp_first hold (sp_ord tu) 5 0 else 1 := by
  by_cases q : tu = 0
  · have e : sp_ord tu = sp_u := if_pos q
    have m : ∀ k, sm_mm tu k = k := fun k => if_pos q
    rw [e]
    simp only [sm_found, m, sp_first, sp_u]
  · have e : sp_ord tu = sp_t := if_neg q
    have m : ∀ k, sm_mm tu k = if k = 4 then 5 else if k = 5 then 4 else k := fun k => if_neg q
    rw [e]
    simp only [sm_found, m, sp_first, sp_t]
    rfl
