/-! What the class's methods answer, as functions: the mirror of its code, over the machine's own numbers. -/
def sp_within (x a b : Int64) : Int32 := if x < a then 0 else if b < x then 0 else 1
def sp_near (a b : Int64) : Int64 := if 0 < b then (if a - a / b * b < b - (a - a / b * b) then a / b + 0 else a / b + 1) else 0
def sp_full (n m : Int32) : Int32 := if n < m then 0 else 1
def sp_has (k n : Int32) : Int32 := if k < 0 then 0 else if n ≤ k then 0 else 1
theorem lp_ne0 {b : Int64} (h : 0 < b) : ¬ b = 0 := fun e => by subst e; exact absurd h (by decide)
theorem lp_nz {x : Int32} (h : x = 0 ∨ x = 1) : narrow .boolean (.int x) = .int x := by rcases h with rfl | rfl <;> rfl
theorem lp_nb {x : Int32} (h : x = 0 ∨ x = 1) : vp_nar .boolean x = x := by rcases h with rfl | rfl <;> rfl
def sp_own (k : Int32) : Int32 := if k = 4 then 1 else if k = 5 then 1 else 0
/-- the sum of the first n of a row -/
def sp_sum (g : Nat → Int64) : Nat → Int64
  | 0 => 0
  | k + 1 => sp_sum g k + g k
/-- the first n places of a row by g, the others as they were -/
def sp_fill (g f : Nat → Int64) (n : Nat) : Nat → Int64 := fun j => if j < n then g j else f j
theorem sp_fill_0 (g f : Nat → Int64) : sp_fill g f 0 = f := rfl
theorem sp_fill_s (g f : Nat → Int64) (i : Nat) : vp_updL (sp_fill g f i) i (g i) = sp_fill g f (i + 1) := by
  funext j
  unfold vp_updL sp_fill
  by_cases h : j = i
  · subst h; simp
  · by_cases h2 : j < i
    · rw [if_neg h, if_pos h2, if_pos (by omega)]
    · rw [if_neg h, if_neg h2, if_neg (by omega)]
theorem sp_fill_ge {g f : Nat → Int64} {n j : Nat} (h : n ≤ j) : sp_fill g f n j = f j := if_neg (by omega)
theorem sp_fill_lt {g f : Nat → Int64} {n j : Nat} (h : j < n) : sp_fill g f n j = g j := if_pos h
/-- a base's product with the factor, its quotient and its rest -/
def sp_q (b : Nat → Int64) (f d : Int64) : Nat → Int64 := fun j => b j * f / d
def sp_r (b : Nat → Int64) (f d : Int64) : Nat → Int64 := fun j => b j * f - b j * f / d * d
/-- the place of the greatest among the places 0 .. k, of equal ones the least -/
def sp_arg (re : Nat → Int64) : Nat → Nat
  | 0 => 0
  | k + 1 => if re (k + 1) ≤ re (sp_arg re k) then sp_arg re k else k + 1
theorem sp_arg_le (re : Nat → Int64) (k : Nat) : sp_arg re k ≤ k := by
  induction k with
  | zero => exact Nat.le_refl _
  | succ k ih =>
    unfold sp_arg
    split
    · omega
    · exact Nat.le_refl _
/-- t cents handed out, one by one -/
def sp_ho (n : Nat) (pa re : Nat → Int64) : Nat → (Nat → Int64) × (Nat → Int64)
  | 0 => (pa, re)
  | t + 1 => (vp_updL (sp_ho n pa re t).1 (sp_arg (sp_ho n pa re t).2 (n - 1)) ((sp_ho n pa re t).1 (sp_arg (sp_ho n pa re t).2 (n - 1)) + 1), vp_updL (sp_ho n pa re t).2 (sp_arg (sp_ho n pa re t).2 (n - 1)) (-1))
/-- how many turns: as many as cents are left, at most one a line -/
def sp_T (left : Int64) (n : Nat) : Nat := min left.toInt.toNat n
theorem sp_T_le (left : Int64) (n : Nat) : sp_T left n ≤ n := Nat.min_le_right _ _
theorem sp_T_in {left : Int64} {n t : Nat} (hn : n ≤ 40) (h : t < sp_T left n) (h2 : left ≤ (nI t).toInt64) : False := by
  have h3 : t < left.toInt.toNat := Nat.lt_of_lt_of_le h (Nat.min_le_left _ _)
  have h4 : t < n := Nat.lt_of_lt_of_le h (Nat.min_le_right _ _)
  rw [Int64.le_iff_toInt_le, Int32.toInt_toInt64, nI_toInt (by omega)] at h2
  omega
theorem sp_T_out {left : Int64} {n : Nat} (hn : n ≤ 40) (h : ¬ left ≤ (nI (sp_T left n)).toInt64) (h2 : ¬ nI n ≤ nI (sp_T left n)) : False := by
  have h4 := sp_T_le left n
  rw [Int64.le_iff_toInt_le, Int32.toInt_toInt64, nI_toInt (by omega)] at h
  rw [nI_leI (by omega) (by omega)] at h2
  unfold sp_T at h h2
  omega
def sp_rate (x : Int32) : Int64 := if x = 0 then 1 else x.toInt64
/-- floorParts: the parts, the rests, the sum of the parts -/
def sp_fpP (b : Nat → Int64) (f d : Int64) (n : Nat) (pa : Nat → Int64) : Nat → Int64 := if 0 < d then sp_fill (sp_q b f d) pa n else pa
def sp_fpR (b : Nat → Int64) (f d : Int64) (n : Nat) (re : Nat → Int64) : Nat → Int64 := if 0 < d then sp_fill (sp_r b f d) re n else re
def sp_fpS (b : Nat → Int64) (f d : Int64) (n : Nat) : Int64 := if 0 < d then sp_sum (sp_q b f d) n else 0
/-- what each line gets of cents that are shared by the base b of the sum d, up to 'all' -/
def sp_give (b : Nat → Int64) (f d all : Int64) (n : Nat) (pa re : Nat → Int64) : Nat → Int64 := (sp_ho n (sp_fpP b f d n pa) (sp_fpR b f d n re) (sp_T (all - sp_fpS b f d n) n)).1
def sp_giveR (b : Nat → Int64) (f d all : Int64) (n : Nat) (pa re : Nat → Int64) : Nat → Int64 := (sp_ho n (sp_fpP b f d n pa) (sp_fpR b f d n re) (sp_T (all - sp_fpS b f d n) n)).2
def sp_share (w p o pa re : Nat → Int64) (n : Nat) (sw sp am : Int64) (bw : Int32) : Nat → Int64 := if bw = 0 then (if sp ≤ 0 then sp_give o am (nI n).toInt64 am n pa re else sp_give p am sp am n pa re) else if sw ≤ 0 then (if sp ≤ 0 then sp_give o am (nI n).toInt64 am n pa re else sp_give p am sp am n pa re) else sp_give w am sw am n pa re
/-- thousandths of the discount -/
def sp_thou (xd xt : Nat → Int32) (inv paid : Int32) : Nat → Int32
  | 0 => 0
  | k + 1 => if inv + xd k < paid then sp_thou xd xt inv paid k else if xt k ≤ sp_thou xd xt inv paid k then sp_thou xd xt inv paid k else xt k
