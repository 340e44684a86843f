/-! What a line gets doesn't depend on what the rows held before. -/
theorem sp_arg_congr {re re' : Nat → Int64} : ∀ k, (∀ j, j ≤ k → re j = re' j) → sp_arg re k = sp_arg re' k := by
  intro k
  induction k with
  | zero => intro _; rfl
  | succ k ih =>
    intro h
    have e := ih (fun j hj => h j (by omega))
    have h1 := sp_arg_le re' k
    unfold sp_arg
    rw [e, h (k + 1) (Nat.le_refl _), h (sp_arg re' k) (by omega)]
theorem sp_upd_congr {n : Nat} {f g : Nat → Int64} {k : Nat} {x : Int64} (h : ∀ j, j < n → f j = g j) : ∀ j, j < n → vp_updL f k x j = vp_updL g k x j := by
  intro j hj
  unfold vp_updL
  split
  · rfl
  · exact h j hj
theorem sp_ho_congr {n : Nat} (hn : 0 < n) {pa pa' re re' : Nat → Int64} (h1 : ∀ j, j < n → pa j = pa' j) (h2 : ∀ j, j < n → re j = re' j) : ∀ t, (∀ j, j < n → (sp_ho n pa re t).1 j = (sp_ho n pa' re' t).1 j) ∧ (∀ j, j < n → (sp_ho n pa re t).2 j = (sp_ho n pa' re' t).2 j) := by
  intro t
  induction t with
  | zero => exact ⟨h1, h2⟩
  | succ t ih =>
    have ea : sp_arg (sp_ho n pa re t).2 (n - 1) = sp_arg (sp_ho n pa' re' t).2 (n - 1) := sp_arg_congr _ (fun j hj => ih.2 j (by omega))
    have hl := sp_arg_le (sp_ho n pa' re' t).2 (n - 1)
    constructor
    · intro j hj
      show vp_updL _ _ _ j = vp_updL _ _ _ j
      rw [ea, ih.1 _ (show sp_arg (sp_ho n pa' re' t).2 (n - 1) < n by omega)]
      exact sp_upd_congr ih.1 j hj
    · intro j hj
      show vp_updL _ _ _ j = vp_updL _ _ _ j
      rw [ea]
      exact sp_upd_congr ih.2 j hj
theorem sp_give_congr {b : Nat → Int64} {f d all : Int64} {n : Nat} (hd : 0 < d) (pa re pa' re' : Nat → Int64) {j : Nat} (hj : j < n) : sp_give b f d all n pa re j = sp_give b f d all n pa' re' j := by
  unfold sp_give sp_fpP sp_fpR
  rw [if_pos hd, if_pos hd, if_pos hd, if_pos hd]
  exact (sp_ho_congr (by omega) (fun j hj => by rw [sp_fill_lt hj, sp_fill_lt hj]) (fun j hj => by rw [sp_fill_lt hj, sp_fill_lt hj]) _).1 j hj
theorem sp_nlt {x : Int64} (h : ¬ x ≤ 0) : 0 < x := by
  rw [Int64.le_iff_toInt_le] at h
  rw [Int64.lt_iff_toInt_lt]
  omega
theorem sp_npos {n : Nat} (h : 0 < n) (hn : n ≤ 40) : 0 < (nI n).toInt64 := by
  rw [Int64.lt_iff_toInt_lt, Int32.toInt_toInt64, nI_toInt (by omega)]
  show (0 : Int) < _
  omega
/-- what line j gets of am that is shared -/
def sp_shr (w p o : Nat → Int64) (n : Nat) (sw sp am : Int64) (bw : Int32) : Nat → Int64 := sp_share w p o (fun _ => 0) (fun _ => 0) n sw sp am bw
theorem sp_share_eq {w p o pa re : Nat → Int64} {n : Nat} {sw sp am : Int64} {bw : Int32} (hn : n ≤ 40) {j : Nat} (hj : j < n) : sp_share w p o pa re n sw sp am bw j = sp_shr w p o n sw sp am bw j := by
  have hq := sp_npos (show 0 < n by omega) hn
  unfold sp_shr sp_share
  by_cases h1 : bw = 0
  · rw [if_pos h1, if_pos h1]
    by_cases h2 : sp ≤ 0
    · rw [if_pos h2, if_pos h2]; exact sp_give_congr hq _ _ _ _ hj
    · rw [if_neg h2, if_neg h2]; exact sp_give_congr (sp_nlt h2) _ _ _ _ hj
  · rw [if_neg h1, if_neg h1]
    by_cases h3 : sw ≤ 0
    · rw [if_pos h3, if_pos h3]
      by_cases h2 : sp ≤ 0
      · rw [if_pos h2, if_pos h2]; exact sp_give_congr hq _ _ _ _ hj
      · rw [if_neg h2, if_neg h2]; exact sp_give_congr (sp_nlt h2) _ _ _ _ hj
    · rw [if_neg h3, if_neg h3]; exact sp_give_congr (sp_nlt h3) _ _ _ _ hj
theorem sp_fill_congr {g g' f : Nat → Int64} {n : Nat} (h : ∀ j, j < n → g j = g' j) : sp_fill g f n = sp_fill g' f n := by
  funext j
  unfold sp_fill
  by_cases hj : j < n
  · rw [if_pos hj, if_pos hj]; exact h j hj
  · rw [if_neg hj, if_neg hj]
theorem sp_fill_i {g f : Nat → Int64} {i : Nat} : sp_fill g f i i = f i := if_neg (Nat.lt_irrefl i)
/-- the row of values, behind an amount that was mixed in -/
def sp_mix (w p o : Nat → Int64) (n : Nat) (sw sp : Int64) (sg : Int32) (v : Nat → Int64) (am : Int64) (bw : Int32) : Nat → Int64 := if am = 0 then v else sp_fill (fun j => v j + sg.toInt64 * sp_shr w p o n sw sp am bw j) v n
def sp_mixes (w p o : Nat → Int64) (n : Nat) (sw sp : Int64) (sg : Int32) (v : Nat → Int64) (ce : Nat → Int64) (bw : Nat → Int32) : Nat → Nat → Int64
  | 0 => v
  | k + 1 => sp_mix w p o n sw sp sg (sp_mixes w p o n sw sp sg v ce bw k) (ce k) (bw k)
def sp_nneg (f : Nat → Int64) (n : Nat) : Int32 := if ∀ j, j < n → ¬ f j < 0 then 1 else 0
def sp_test (rel : Int32) (tv : Int64) (tb : Int32) (sum : Int64) : Int32 := if rel = 0 then 1 else if tv = -1 then 0 else if tv * tb.toInt64 < (if 0 < sum - tv then sum - tv else -(sum - tv)) * 1000 then 0 else 1
def sp_can (k : Int32) (a b : Int64) : Int32 := if k = 2 then (if sp_within a 0 100000 = 0 then 0 else if sp_within b 1 1000000000 = 0 then 0 else 1) else if k = 3 then (if sp_within a 0 100000 = 0 then 0 else if sp_within b 1 1000000000 = 0 then 0 else 1) else if sp_within a 0 1000000000 = 0 then 0 else if sp_within b 0 1000 = 0 then 0 else 1
theorem sp_nge {x : Int64} (h : ¬ 0 ≤ x) : x < 0 := by
  rw [Int64.le_iff_toInt_le] at h
  rw [Int64.lt_iff_toInt_lt]
  omega
theorem sp_nge2 {x : Int64} (h : 0 ≤ x) : ¬ x < 0 := by
  rw [Int64.le_iff_toInt_le] at h
  rw [Int64.lt_iff_toInt_lt]
  omega
/-- the row of values by the transaction method -/
def sp_tran (w p o : Nat → Int64) (n : Nat) (sw sp : Int64) (v : Nat → Int64) (dc : Int64) (ac : Nat → Int64) (ab : Nat → Int32) (ec : Nat → Int64) (eb : Nat → Int32) : Nat → Int64 := sp_mixes w p o n sw sp (-1) (sp_mixes w p o n sw sp 1 (sp_mix w p o n sw sp (-1) (sp_fill p v n) dc 0) ac ab 5) ec eb 4
/-- what is shared by the methods 4 to 6 -/
def sp_amt (k : Nat) (a b ta td : Int64) : Int64 := if k = 4 then a * (1000 - b) / 1000 - td else if k = 5 then sp_near (a * (1000 + b)) 1000 + ta else a
def sp_hold (k : Nat) (a b ta td : Int64) : Int32 := if 4 ≤ k then (if 0 ≤ sp_amt k a b ta td then 1 else 0) else 1
def sp_fsh (w p o : Nat → Int64) (n : Nat) (sw sp am : Int64) (v : Nat → Int64) : Nat → Int64 := if 0 ≤ am then sp_fill (sp_shr w p o n sw sp am 0) v n else v
def sp_fwt (w : Nat → Int64) (n : Nat) (a b : Int64) (v : Nat → Int64) : Nat → Int64 := sp_fill (fun j => sp_near (w j * a) b) v n
def sp_ffg (w p o : Nat → Int64) (n : Nat) (sw sp ta td : Int64) (k : Nat) (a b : Int64) (v : Nat → Int64) : Nat → Int64 := if 4 ≤ k then sp_fsh w p o n sw sp (sp_amt k a b ta td) v else sp_fwt w n a b v
