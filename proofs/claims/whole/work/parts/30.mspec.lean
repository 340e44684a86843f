/-! The reference's methods, as functions. -/
def sm_near (a b : Int64) : Int64 := if 2 * (a - a / b * b) < b then a / b + 0 else a / b + 1
def sm_part (w p : Nat → Int64) (sw sp : Int64) (bw : Int32) (k : Nat) : Int64 := if bw = 0 then (if sp ≤ 0 then 1 else p k) else if sw ≤ 0 then (if sp ≤ 0 then 1 else p k) else w k
def sm_whole (sw sp : Int64) (n : Nat) (bw : Int32) : Int64 := if bw = 0 then (if sp ≤ 0 then (nI n).toInt64 else sp) else if sw ≤ 0 then (if sp ≤ 0 then (nI n).toInt64 else sp) else sw
theorem sm_pos {x : Int64} (h : ¬ x ≤ 0) : ¬ x = 0 := lp_ne0 (sp_nlt h)
theorem sm_whole_ne {sw sp : Int64} {n : Nat} {bw : Int32} (h : 0 < n) (hn : n ≤ 40) : ¬ sm_whole sw sp n bw = 0 := by
  have hq := lp_ne0 (sp_npos h hn)
  unfold sm_whole
  split
  · split
    · exact hq
    · rename_i h2; exact sm_pos h2
  · split
    · split
      · exact hq
      · rename_i h2; exact sm_pos h2
    · rename_i h2; exact sm_pos h2
def sm_left (g : Nat → Int64) (am : Int64) : Nat → Int64
  | 0 => am
  | k + 1 => sm_left g am k - g k
def sm_ahead (r : Nat → Int64) (own : Int64) (j : Nat) : Nat → Nat
  | 0 => 0
  | k + 1 => if own < r k then sm_ahead r own j k + 1 else if r k = own then (if nI j ≤ nI k then sm_ahead r own j k else sm_ahead r own j k + 1) else sm_ahead r own j k
/-- what a line of the product g j gets: quotients, rests and the count of those ahead of it -/
def sm_get (x : Nat → Int64) (d all : Int64) (n j : Nat) : Int64 := if sm_left (fun k => x k / d) all n ≤ (nI (sm_ahead (fun k => x k - x k / d * d) (x j - x j / d * d) j n)).toInt64 then x j / d + 0 else x j / d + 1
def sm_share (w p : Nat → Int64) (n : Nat) (sw sp am : Int64) (j : Nat) (bw : Int32) : Int64 := sm_get (fun k => am * sm_part w p sw sp bw k) (sm_whole sw sp n bw) am n j
def sm_disc (sp : Int64) (rd rt : Nat → Int32) (day paid n : Nat) : Int64 := sm_near (sp * (sp_thou rd rt (nI day) (nI paid) n).toInt64) 1000
def sm_tr (b : Int64) (told : Nat → Int32) (S : Nat → Int64) : Nat → Int64
  | 0 => b
  | k + 1 => if told k = 0 then (if 5 ≤ nI k then sm_tr b told S k + -0 else sm_tr b told S k + 0) else if 5 ≤ nI k then sm_tr b told S k + -(S k) else sm_tr b told S k + S k
def sm_trn (w p : Nat → Int64) (n : Nat) (sw sp dc : Int64) (told : Nat → Int32) (ce : Nat → Int64) (bw : Nat → Int32) (j : Nat) : Int64 := sm_tr (p j - sm_share w p n sw sp dc j 0) told (fun k => sm_share w p n sw sp (ce k) j (bw k)) 9
def sm_tol (ce : Nat → Int64) (a : Nat) : Nat → Int64
  | 0 => 0
  | k + 1 => sm_tol ce a k + ce (a + k)
def sm_test (rel : Int32) (tv : Int64) (tb : Int32) (sum : Int64) : Int32 := if rel = 0 then 1 else if tv = -1 then 0 else if sum ≤ tv then (if tv * tb.toInt64 < (tv - sum) * 1000 then 0 else 1) else if tv * tb.toInt64 < (sum - tv) * 1000 then 0 else 1
def sm_ded (a b : Int64) (ce : Nat → Int64) : Int64 := a * (1000 - b) / 1000 - sm_tol ce 5 (9 - 5)
def sm_good (g : Nat → Int64) : Nat → Int32
  | 0 => 1
  | k + 1 => if sm_good g k = 0 then 0 else if g k < 0 then 0 else 1
def sm_h1 (c good test : Int32) : Int32 := if c = 0 then 0 else if good = 0 then 0 else if test = 0 then 0 else 1
def sm_h4 (c f : Int32) (d : Int64) : Int32 := if c = 0 then 0 else if f = 0 then 0 else if d < 0 then 0 else 1
def sm_hx (c f : Int32) : Int32 := if c = 0 then 0 else if f = 0 then 0 else 1
def sm_holds (k : Nat) (c f : Nat → Int32) (good test : Int32) (ded : Int64) : Int32 := if k = 1 then sm_h1 (c 1) good test else if k = 4 then sm_h4 (c 4) (f 4) ded else sm_hx (c k) (f k)
def sm_mm (tu : Int32) (k : Nat) : Nat := if tu = 0 then k else if k = 4 then 5 else if k = 5 then 4 else k
def sm_found (hold : Nat → Int32) (tu : Int32) : Nat → Nat
  | 0 => 0
  | i + 1 => if hold (sm_mm tu (6 - i)) = 0 then sm_found hold tu i else sm_mm tu (6 - i)
def sm_now (n : Nat) (hold : Nat → Int32) (tu : Int32) : Nat := if nI n = 0 then 0 else sm_found hold tu 6
/-- a line's value by the method k; tr: the transaction's, sh: what it gets of an amount -/
def sm_val (k : Nat) (tr : Nat → Int64) (w fa fb : Nat → Int64) (ded com : Int64) (sh : Int64 → Nat → Int64) (j : Nat) : Int64 := if k = 1 then tr j else if k = 2 then sm_near (w j * fa 2) (fb 2) else if k = 3 then sm_near (w j * fa 3) (fb 3) else if k = 4 then sh ded j else if k = 5 then sh com j else sh (fa 6) j
def sm_own (k u : Int32) : Int32 := if k = 4 then 1 else if k = 5 then 1 else if u = 0 then 1 else 0
def sm_upx (k u v : Int32) : Int64 := if sm_own k u = 0 then v.toInt64 else 1
theorem sm_found_0 {hold : Nat → Int32} {tu : Int32} {i mm : Nat} (hm : sm_mm tu (6 - i) = mm) (h : hold mm = 0) : sm_found hold tu (i + 1) = sm_found hold tu i := by
  show (if hold (sm_mm tu (6 - i)) = 0 then sm_found hold tu i else sm_mm tu (6 - i)) = _
  rw [hm, if_pos h]
theorem sm_found_1 {hold : Nat → Int32} {tu : Int32} {i mm : Nat} (hm : sm_mm tu (6 - i) = mm) (h : ¬ hold mm = 0) : sm_found hold tu (i + 1) = mm := by
  show (if hold (sm_mm tu (6 - i)) = 0 then sm_found hold tu i else sm_mm tu (6 - i)) = _
  rw [hm, if_neg h]
