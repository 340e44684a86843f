def sm_lt (w p : Int64) (n : Nat) : Int32 := if sp_within w 0 100000000 = 0 then 1 else if sp_within p 0 100000000 = 0 then 1 else if nI n = 40 then 2 else 0
theorem sm_lt40 {n : Nat} (hn : n ≤ 40) (h : ¬ nI n = 40) : n < 40 := by
  rcases Nat.lt_or_ge n 40 with q | q
  · exact q
  · obtain rfl : n = 40 := by omega
    exact absurd rfl h
theorem sm_lt10 {n : Nat} (hn : n ≤ 10) (h : ¬ nI n = 10) : n < 10 := by
  rcases Nat.lt_or_ge n 10 with q | q
  · exact q
  · obtain rfl : n = 10 := by omega
    exact absurd rfl h
def sm_tk (c : Int64) (t : Int32) : Int32 := if sp_within c 0 1000000000 = 0 then 0 else if t = 0 then 1 else 0
theorem sm_tk01 (c : Int64) (t : Int32) : sm_tk c t = 0 ∨ sm_tk c t = 1 := by
  unfold sm_tk
  repeat (first | exact Or.inl rfl | exact Or.inr rfl | split)
def sm_dthr (d t : Int32) (n : Nat) : Int32 := if sp_within d.toInt64 0 359 = 0 then 1 else if sp_within t.toInt64 0 1000 = 0 then 1 else if nI n = 10 then 2 else 0
def sm_dok (xd : Nat → Int32) (n : Nat) (d t : Int32) : Int32 := if sm_dthr d t n = 0 then sp_dt xd n d else 0
def sm_rt (ups : Nat → Int32) (q u d : Int32) : Int32 := if sp_within q.toInt64 0 11 = 0 then 0 else if sp_within u.toInt64 1 10000 = 0 then 0 else if sp_within d.toInt64 1 10000 = 0 then 0 else if ups q.toNatClampNeg ≤ 0 then 1 else 0
def sm_fg (k : Int32) (a b : Int64) : Int32 := if sp_within k.toInt64 2 6 = 0 then 0 else if k = 2 then sp_two (sp_within a 0 100000) (sp_within b 1 1000000000) else if k = 3 then sp_two (sp_within a 0 100000) (sp_within b 1 1000000000) else sp_two (sp_within a 0 1000000000) (sp_within b 0 1000)
def sm_rel (t : Int64) (b : Int32) : Int32 := if sp_within t (-1) 1000000000 = 0 then 0 else if sp_within b.toInt64 0 1000 = 0 then 0 else 1
theorem sp_ne20 : ¬ (2 : Int32) = 0 := by decide
theorem sp_ne30 : ¬ (3 : Int32) = 0 := by decide
theorem sp_has_a {k n : Int32} (h : k < 0) : sp_has k n = 0 := if_pos h
theorem sp_has_b {k n : Int32} (h : n ≤ k) : sp_has k n = 0 := by
  unfold sp_has
  by_cases q : k < 0
  · rw [if_pos q]
  · rw [if_neg q, if_pos h]
theorem sp_has_c {j n : Nat} (h : j < n) (hn : n < 2 ^ 31) : sp_has (nI j) (nI n) = 1 := by
  unfold sp_has
  rw [if_neg (nI_pos (by omega)), if_neg (nI_ge h hn)]
theorem sm_found_le (hold : Nat → Int32) (tu : Int32) : ∀ i, i ≤ 6 → sm_found hold tu i ≤ 6 := by
  intro i
  induction i with
  | zero => intro _; exact Nat.zero_le _
  | succ i ih =>
    intro h
    unfold sm_found
    split
    · exact ih (by omega)
    · unfold sm_mm
      split
      · omega
      · split
        · omega
        · split <;> omega
theorem sm_now_le (n : Nat) (hold : Nat → Int32) (tu : Int32) : sm_now n hold tu ≤ 6 := by
  unfold sm_now
  split
  · omega
  · exact sm_found_le hold tu 6 (by omega)
theorem sm_now_1 {n : Nat} (h : ¬ nI n = 0) : 1 ≤ n := by
  rcases Nat.eq_zero_or_pos n with q | q
  · subst q; exact absurd rfl h
  · exact q
def sm_vthr (hs what : Int32) (M : Nat) : Int32 := if hs = 0 then 1 else if what = 0 then (if nI M = 0 then 2 else 0) else if what = 1 then (if nI M = 0 then 2 else 0) else 1
def sm_value (hs what : Int32) (M : Nat) (o v : Int64) : Int64 := if hs = 0 then 0 else if what = 0 then (if nI M = 0 then 0 else o) else if what = 1 then (if nI M = 0 then 0 else v) else 0
def sm_cnt (told : Nat → Int32) (what : Int32) : Nat → Nat
  | 0 => 0
  | k + 1 => if told k = 0 then sm_cnt told what k else if what = 1 then (if 5 ≤ nI k then sm_cnt told what k else sm_cnt told what k + 1) else (if nI k ≤ 4 then sm_cnt told what k else sm_cnt told what k + 1)
def sm_count (what a b c d e f g : Int32) : Int32 := if what = 0 then a else if what = 1 then b else if what = 2 then c else if what = 3 then d else if what = 4 then e else if what = 5 then f else if what = 6 then (if g = 0 then 0 else 1) else -1
def sm_sum (what : Int32) (a b c d e : Int64) (M : Int32) (o v : Int64) : Int64 := if what = 0 then a else if what = 1 then b else if what = 2 then c else if what = 3 then d else if what = 4 then e else if what = 5 then (if M = 0 then -1 else o) else if what = 6 then (if M = 0 then -1 else v) else -1
