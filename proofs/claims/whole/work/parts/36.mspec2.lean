def sm_lt (w p : Int64) (n : Nat) : Int32 := if sp_within w 0 100000000 = 0 then 1 else if sp_within p 0 100000000 = 0 then 1 else if nI n = 40 then 2 else 0
theorem sm_lt40 {n : Nat} (hn : n ≤ 40) (h : ¬ nI n = 40) : n < 40 := by
  rcases Nat.lt_or_ge n 40 with q | q
  · exact q
  · obtain rfl : n = 40 := by omega
    exact absurd rfl h
theorem sm_lt10 {n : Nat} (hn : n ≤ 10) (h : ¬ nI n = 10) : n < 10 := by
  rcases Nat.lt_or_ge n 10 with q | q
  · exact q
  · obtain rfl : n = 10 := by omega
    exact absurd rfl h
def sm_tk (c : Int64) (t : Int32) : Int32 := if sp_within c 0 1000000000 = 0 then 0 else if t = 0 then 1 else 0
theorem sm_tk01 (c : Int64) (t : Int32) : sm_tk c t = 0 ∨ sm_tk c t = 1 := by
  unfold sm_tk
  repeat (first | exact Or.inl rfl | exact Or.inr rfl | split)
def sm_dthr (d t : Int32) (n : Nat) : Int32 := if sp_within d.toInt64 0 359 = 0 then 1 else if sp_within t.toInt64 0 1000 = 0 then 1 else if nI n = 10 then 2 else 0
def sm_dok (xd : Nat → Int32) (n : Nat) (d t : Int32) : Int32 := if sm_dthr d t n = 0 then sp_dt xd n d else 0
def sm_rt (ups : Nat → Int32) (q u d : Int32) : Int32 := if sp_within q.toInt64 0 11 = 0 then 0 else if sp_within u.toInt64 1 10000 = 0 then 0 else if sp_within d.toInt64 1 10000 = 0 then 0 else if ups q.toNatClampNeg ≤ 0 then 1 else 0
def sm_fg (k : Int32) (a b : Int64) : Int32 := if sp_within k.toInt64 2 6 = 0 then 0 else if k = 2 then sp_two (sp_within a 0 100000) (sp_within b 1 1000000000) else if k = 3 then sp_two (sp_within a 0 100000) (sp_within b 1 1000000000) else sp_two (sp_within a 0 1000000000) (sp_within b 0 1000)
def sm_rel (t : Int64) (b : Int32) : Int32 := if sp_within t (-1) 1000000000 = 0 then 0 else if sp_within b.toInt64 0 1000 = 0 then 0 else 1
theorem sp_ne20 : ¬ (2 : Int32) = 0 := by decide
theorem sp_ne30 : ¬ (3 : Int32) = 0 := by decide
