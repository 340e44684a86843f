/-! What a line gets: the class's way and the reference's. -/
theorem sm_left_eq (g : Nat → Int64) (all : Int64) : ∀ n, sm_left g all n = all - sp_sum g n := by
  intro n
  induction n with
  | zero => show all = all - 0; rw [Int64.sub_zero]
  | succ n ih =>
    show sm_left g all n - g n = all - (sp_sum g n + g n)
    rw [ih]
    apply Int64.toBitVec_inj.mp
    simp only [Int64.toBitVec_sub, Int64.toBitVec_add]
    rw [BitVec.sub_sub]
theorem sm_ahead_eq (r : Nat → Int64) (j : Nat) (hj : j < 40) : ∀ n, n ≤ 40 → sm_ahead r (r j) j n = cn_c (rk_b (fun k => (r k).toInt) j) n := by
  intro n
  induction n with
  | zero => intro _; rfl
  | succ n ih =>
    intro hn
    have e := ih (by omega)
    unfold sm_ahead cn_c
    rw [e]
    have hb : rk_b (fun k => (r k).toInt) j n = true ↔ ((r j).toInt < (r n).toInt ∨ ((r n).toInt = (r j).toInt ∧ n < j)) := rk_bt
    by_cases h1 : r j < r n
    · rw [if_pos h1, if_pos (hb.mpr (Or.inl (Int64.lt_iff_toInt_lt.mp h1)))]
    · rw [if_neg h1]
      have h1' : ¬ (r j).toInt < (r n).toInt := fun q => h1 (Int64.lt_iff_toInt_lt.mpr q)
      by_cases h2 : r n = r j
      · rw [if_pos h2]
        by_cases h3 : nI j ≤ nI n
        · rw [if_pos h3, if_neg (fun q => by
            rcases hb.mp q with q | q
            · exact h1' q
            · have := (nI_leI (by omega) (by omega)).mp h3; omega)]
          rfl
        · rw [if_neg h3, if_pos (hb.mpr (Or.inr ⟨by rw [h2], by
            rcases Nat.lt_or_ge n j with q | q
            · exact q
            · exact absurd (nI_le q (by omega)) h3⟩))]
      · rw [if_neg h2, if_neg (fun q => by
          rcases hb.mp q with q | q
          · exact h1' q
          · exact h2 (Int64.toInt_inj.mp q.1))]
        rfl
theorem sm_get_congr {x y : Nat → Int64} {d all : Int64} {n j : Nat} (hj : j < n) (h : ∀ k, k < n → x k = y k) : sm_get x d all n j = sm_get y d all n j := by
  have h1 : ∀ m, m ≤ n → sm_left (fun k => x k / d) all m = sm_left (fun k => y k / d) all m := by
    intro m
    induction m with
    | zero => intro _; rfl
    | succ m ih =>
      intro hm
      show sm_left _ _ m - x m / d = sm_left _ _ m - y m / d
      rw [ih (by omega), h m (by omega)]
  have h2 : ∀ m, m ≤ n → sm_ahead (fun k => x k - x k / d * d) (y j - y j / d * d) j m = sm_ahead (fun k => y k - y k / d * d) (y j - y j / d * d) j m := by
    intro m
    induction m with
    | zero => intro _; rfl
    | succ m ih =>
      intro hm
      unfold sm_ahead
      rw [ih (by omega)]
      simp only [h m (by omega)]
  unfold sm_get
  rw [h j hj, h1 n (Nat.le_refl _), h2 n (Nat.le_refl _)]
/-- the class's giving is the reference's -/
theorem sp_give_get {b : Nat → Int64} {f d all : Int64} {n j : Nat} (hd : 0 < d) (hn : n ≤ 40) (hj : j < n) (hr : ∀ k, k < n → 0 ≤ (b k * f - b k * f / d * d).toInt) (pa re : Nat → Int64) : sp_give b f d all n pa re j = sm_get (fun k => b k * f) d all n j := by
  unfold sp_give sp_fpP sp_fpR sp_fpS
  rw [if_pos hd, if_pos hd, if_pos hd]
  have hR : ∀ k, k < n → 0 ≤ (sp_fill (sp_r b f d) re n k).toInt := fun k hk => by rw [sp_fill_lt hk]; exact hr k hk
  rw [((rk_ho (Q := sp_fill (sp_q b f d) pa n) hR _ (sp_T_le _ _)).2 j hj).1, sp_fill_lt hj]
  have hrank : rk_n (fun k => (sp_fill (sp_r b f d) re n k).toInt) n j = sm_ahead (fun k => b k * f - b k * f / d * d) (b j * f - b j * f / d * d) j n := by
    refine Eq.trans ?_ (sm_ahead_eq (fun k => b k * f - b k * f / d * d) j (by omega) n hn).symm
    refine cn_eq n (fun k hk => ?_)
    rw [rk_bt, rk_bt, sp_fill_lt hk, sp_fill_lt hj]
    exact Iff.rfl
  have hsm := rk_small (r := fun k => (sp_fill (sp_r b f d) re n k).toInt) hj
  rw [hrank] at hsm ⊢
  unfold sm_get
  rw [sm_left_eq]
  have e1 : sp_sum (fun k => b k * f / d) n = sp_sum (sp_q b f d) n := rfl
  rw [e1]
  generalize all - sp_sum (sp_q b f d) n = left
  generalize sm_ahead (fun k => b k * f - b k * f / d * d) (b j * f - b j * f / d * d) j n = q at hsm ⊢
  have e2 : left ≤ (nI q).toInt64 ↔ ¬ q < sp_T left n := by
    rw [Int64.le_iff_toInt_le, Int32.toInt_toInt64, nI_toInt (by omega)]
    unfold sp_T
    omega
  by_cases h : left ≤ (nI q).toInt64
  · rw [if_pos h, if_neg (e2.mp h), Int64.add_zero]; rfl
  · rw [if_neg h, if_pos (Decidable.not_not.mp (fun z => h (e2.mpr z)))]; rfl
/-- a number up to M -/
def bd_d (M : Nat) (x : Int64) : Prop := ∃ a : Nat, a ≤ M ∧ x = lN a
theorem bd_rest {x d : Int64} {M : Nat} (hM : M < 2 ^ 63) (hx : bd_d M x) (hd : 0 < d) : 0 ≤ (x - x / d * d).toInt := by
  obtain ⟨a, ha, rfl⟩ := hx
  obtain ⟨b, hb, rfl⟩ := pk_lOf (x := d) (fun h => by rw [Int64.lt_iff_toInt_lt] at h hd; have := Int64.toInt_zero; omega)
  have hb0 : 0 < b := by
    rw [Int64.lt_iff_toInt_lt, pk_lT hb] at hd
    have := Int64.toInt_zero
    omega
  rw [pk_lRem (by omega) hb0 hb, pk_lT (by have := Nat.mod_lt a hb0; omega)]
  omega
theorem bd_mul {x y : Int64} {M N : Nat} (hx : bd_d M x) (hy : bd_d N y) : bd_d (M * N) (x * y) := by
  obtain ⟨a, ha, rfl⟩ := hx
  obtain ⟨b, hb, rfl⟩ := hy
  exact ⟨a * b, Nat.mul_le_mul ha hb, lN_mul a b⟩
theorem bd_mono {x : Int64} {M N : Nat} (h : bd_d M x) (hMN : M ≤ N) : bd_d N x := by
  obtain ⟨a, ha, e⟩ := h
  exact ⟨a, Nat.le_trans ha hMN, e⟩
theorem bd_one : bd_d 1 1 := ⟨1, Nat.le_refl _, rfl⟩
theorem sp_shr_share {w p o : Nat → Int64} {n j : Nat} {sw sp am : Int64} {bw : Int32} (hn : n ≤ 40) (hj : j < n) (ho : ∀ k, k < n → o k = 1) (hw : ∀ k, k < n → bd_d 100000000 (w k)) (hp : ∀ k, k < n → bd_d 100000000 (p k)) (ham : bd_d 10000000000 am) : sp_shr w p o n sw sp am bw j = sm_share w p n sw sp am j bw := by
  have hq := sp_npos (show 0 < n by omega) hn
  have R : ∀ (b : Nat → Int64) (d : Int64), 0 < d → (∀ k, k < n → bd_d 100000000 (b k)) → ∀ k, k < n → 0 ≤ (b k * am - b k * am / d * d).toInt := fun b d hd hb k hk => bd_rest (M := 100000000 * 10000000000) (by decide) (bd_mul (hb k hk) ham) hd
  have ho' : ∀ k, k < n → bd_d 100000000 (o k) := fun k hk => by rw [ho k hk]; exact bd_mono bd_one (by decide)
  unfold sp_shr sp_share sm_share sm_whole
  by_cases h1 : bw = 0
  · rw [if_pos h1, if_pos h1]
    by_cases h2 : sp ≤ 0
    · rw [if_pos h2, if_pos h2, sp_give_get hq hn hj (R o _ hq ho')]
      exact sm_get_congr hj (fun k hk => by rw [ho k hk, Int64.mul_comm]; simp only [sm_part, if_pos h1, if_pos h2])
    · rw [if_neg h2, if_neg h2, sp_give_get (sp_nlt h2) hn hj (R p _ (sp_nlt h2) hp)]
      exact sm_get_congr hj (fun k hk => by rw [Int64.mul_comm]; simp only [sm_part, if_pos h1, if_neg h2])
  · rw [if_neg h1, if_neg h1]
    by_cases h3 : sw ≤ 0
    · rw [if_pos h3, if_pos h3]
      by_cases h2 : sp ≤ 0
      · rw [if_pos h2, if_pos h2, sp_give_get hq hn hj (R o _ hq ho')]
        exact sm_get_congr hj (fun k hk => by rw [ho k hk, Int64.mul_comm]; simp only [sm_part, if_neg h1, if_pos h3, if_pos h2])
      · rw [if_neg h2, if_neg h2, sp_give_get (sp_nlt h2) hn hj (R p _ (sp_nlt h2) hp)]
        exact sm_get_congr hj (fun k hk => by rw [Int64.mul_comm]; simp only [sm_part, if_neg h1, if_pos h3, if_neg h2])
    · rw [if_neg h3, if_neg h3, sp_give_get (sp_nlt h3) hn hj (R w _ (sp_nlt h3) hw)]
      exact sm_get_congr hj (fun k hk => by rw [Int64.mul_comm]; simp only [sm_part, if_neg h1, if_neg h3])
