/-! Which end a call takes, case by case. -/
theorem sp_kline_c (wt pr : Int64) {n : Nat} (hn : n ≤ 40) : (sp_kline wt pr n = 0 ∧ ¬ sp_within wt 0 100000000 = 0 ∧ ¬ sp_within pr 0 100000000 = 0 ∧ n < 40 ∧ sp_full (nI n) 40 = 0) ∨ sp_kline wt pr n = 1 ∨ sp_kline wt pr n = 2 := by
  unfold sp_kline
  by_cases h1 : sp_within wt 0 100000000 = 0
  · exact Or.inr (Or.inl (if_pos h1))
  · by_cases h2 : sp_within pr 0 100000000 = 0
    · exact Or.inr (Or.inl (by rw [if_neg h1, if_pos h2]))
    · by_cases h3 : sp_full (nI n) 40 = 0
      · exact Or.inl ⟨by rw [if_neg h1, if_neg h2, if_pos h3], h1, h2, sp_fulln (b := 40) (by omega) (by omega) h3, h3⟩
      · exact Or.inr (Or.inr (by rw [if_neg h1, if_neg h2, if_neg h3]))
theorem sp_kadd_c {K : Nat} (hK : K < 2 ^ 31) (k : Int32) (am : Int64) : (sp_kadd K k am = 0 ∧ (∃ j, j < K ∧ k = nI j ∧ ¬ sp_has (nI j) (nI K) = 0) ∧ ¬ sp_within am 0 1000000000 = 0) ∨ sp_kadd K k am = 1 := by
  unfold sp_kadd
  by_cases h1 : sp_has k (nI K) = 0
  · exact Or.inr (if_pos h1)
  · by_cases h2 : sp_within am 0 1000000000 = 0
    · exact Or.inr (by rw [if_neg h1, if_pos h2])
    · obtain ⟨j, hj, rfl⟩ := sp_hask hK h1
      exact Or.inl ⟨by rw [if_neg h1, if_neg h2], ⟨j, hj, rfl, h1⟩, h2⟩
theorem sp_kdis_c (d t : Int32) {n : Nat} (hn : n ≤ 10) : (sp_kdis d t n = 0 ∧ ¬ sp_within d.toInt64 0 359 = 0 ∧ ¬ sp_within t.toInt64 0 1000 = 0 ∧ n < 10 ∧ sp_full (nI n) 10 = 0) ∨ sp_kdis d t n = 1 ∨ sp_kdis d t n = 2 := by
  unfold sp_kdis
  by_cases h1 : sp_within d.toInt64 0 359 = 0
  · exact Or.inr (Or.inl (if_pos h1))
  · by_cases h2 : sp_within t.toInt64 0 1000 = 0
    · exact Or.inr (Or.inl (by rw [if_neg h1, if_pos h2]))
    · by_cases h3 : sp_full (nI n) 10 = 0
      · exact Or.inl ⟨by rw [if_neg h1, if_neg h2, if_pos h3], h1, h2, sp_fulln (b := 10) (by omega) (by omega) h3, h3⟩
      · exact Or.inr (Or.inr (by rw [if_neg h1, if_neg h2, if_neg h3]))
theorem sp_ktra_c {n : Nat} (hn : n ≤ 40) (k : Int32) : (sp_ktra k n = 0 ∧ ∃ j, j < n ∧ k = nI j ∧ ¬ sp_has (nI j) (nI n) = 0) ∨ sp_ktra k n = 1 := by
  unfold sp_ktra
  by_cases h1 : sp_has k (nI n) = 0
  · exact Or.inr (if_pos h1)
  · obtain ⟨j, hj, rfl⟩ := sp_hask (by omega) h1
    exact Or.inl ⟨if_neg h1, j, hj, rfl, h1⟩
theorem sp_ksh_c {n : Nat} (hn : n ≤ 40) (am : Int64) (k : Int32) : (sp_ksh am k n = 0 ∧ (∃ j, j < n ∧ k = nI j ∧ ¬ sp_has (nI j) (nI n) = 0) ∧ ¬ sp_within am 0 1000000000 = 0) ∨ sp_ksh am k n = 1 ∨ sp_ksh am k n = 2 := by
  unfold sp_ksh
  by_cases h1 : sp_has k (nI n) = 0
  · exact Or.inr (Or.inl (if_pos h1))
  · by_cases h2 : sp_within am 0 1000000000 = 0
    · exact Or.inr (Or.inr (by rw [if_neg h1, if_pos h2]))
    · obtain ⟨j, hj, rfl⟩ := sp_hask (by omega) h1
      exact Or.inl ⟨by rw [if_neg h1, if_neg h2], ⟨j, hj, rfl, h1⟩, h2⟩
theorem sp_kpl_c {n : Nat} (hn : n ≤ 40) (am : Int64) (k : Int32) (ws : Int64) : (sp_kpl am k n ws = 0 ∧ (∃ j, j < n ∧ k = nI j ∧ ¬ sp_has (nI j) (nI n) = 0) ∧ ¬ sp_within am 0 1000000000 = 0 ∧ ¬ ws = 0) ∨ sp_kpl am k n ws = 1 ∨ sp_kpl am k n ws = 2 ∨ sp_kpl am k n ws = 3 := by
  unfold sp_kpl
  by_cases h1 : sp_has k (nI n) = 0
  · exact Or.inr (Or.inl (if_pos h1))
  · by_cases h2 : sp_within am 0 1000000000 = 0
    · exact Or.inr (Or.inr (Or.inl (by rw [if_neg h1, if_pos h2])))
    · by_cases h3 : ws = 0
      · exact Or.inr (Or.inr (Or.inr (by rw [if_neg h1, if_neg h2, if_pos h3])))
      · obtain ⟨j, hj, rfl⟩ := sp_hask (by omega) h1
        exact Or.inl ⟨by rw [if_neg h1, if_neg h2, if_neg h3], ⟨j, hj, rfl, h1⟩, h2, h3⟩
/-- value's end: its own tests, then whether a method holds -/
def sp_kv (q f : Int32) : Int32 := if q = 0 then (if f = 0 then 2 else 0) else 1
theorem sp_kval_c {n : Nat} (hn : n ≤ 40) (k w : Int32) : (sp_kval k w n = 0 ∧ (∃ j, j < n ∧ k = nI j ∧ ¬ sp_has (nI j) (nI n) = 0) ∧ ¬ sp_within w.toInt64 0 1 = 0) ∨ sp_kval k w n = 1 := by
  unfold sp_kval
  by_cases h1 : sp_has k (nI n) = 0
  · exact Or.inr (if_pos h1)
  · by_cases h2 : sp_within w.toInt64 0 1 = 0
    · exact Or.inr (by rw [if_neg h1, if_pos h2])
    · obtain ⟨j, hj, rfl⟩ := sp_hask (by omega) h1
      exact Or.inl ⟨by rw [if_neg h1, if_neg h2], ⟨j, hj, rfl, h1⟩, h2⟩
