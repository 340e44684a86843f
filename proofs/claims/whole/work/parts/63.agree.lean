/-! Bounds, and that the class's and the reference's answers agree. -/
theorem lp_bm {x : Int} (h1 : -9223372036854775808 ≤ x) (h2 : x < 9223372036854775808) : x.bmod (2 ^ 64) = x := Int.bmod_eq_of_le (by omega) (by omega)
def ib_d (M : Nat) (x : Int64) : Prop := -(M : Int) ≤ x.toInt ∧ x.toInt ≤ (M : Int)
theorem ib_of {x : Int64} {M : Nat} (hM : M < 2 ^ 63) (h : bd_d M x) : ib_d M x := by
  have := bd_pos hM h
  unfold ib_d
  omega
theorem ib_mono {x : Int64} {M N : Nat} (h : ib_d M x) (hMN : M ≤ N) : ib_d N x := by
  unfold ib_d at *
  omega
theorem ib_add {x y : Int64} {M N : Nat} (hx : ib_d M x) (hy : ib_d N y) (h : M + N < 2 ^ 63) : ib_d (M + N) (x + y) ∧ (x + y).toInt = x.toInt + y.toInt := by
  unfold ib_d at *
  have e : (x + y).toInt = x.toInt + y.toInt := by rw [Int64.toInt_add, lp_bm (by omega) (by omega)]
  rw [e]
  exact ⟨by omega, rfl⟩
theorem ib_sub {x y : Int64} {M N : Nat} (hx : ib_d M x) (hy : ib_d N y) (h : M + N < 2 ^ 63) : ib_d (M + N) (x - y) ∧ (x - y).toInt = x.toInt - y.toInt := by
  unfold ib_d at *
  have e : (x - y).toInt = x.toInt - y.toInt := by rw [Int64.toInt_sub, lp_bm (by omega) (by omega)]
  rw [e]
  exact ⟨by omega, rfl⟩
theorem ib_neg {x : Int64} {M : Nat} (hx : ib_d M x) (h : M < 2 ^ 63) : ib_d M (-x) := by
  unfold ib_d at *
  rw [Int64.toInt_neg, lp_bm (by omega) (by omega)]
  omega
theorem ib_sum {g : Nat → Int64} {B : Nat} : ∀ n, n * B < 2 ^ 63 → (∀ k, k < n → ib_d B (g k)) → ib_d (n * B) (sp_sum g n) := by
  intro n
  induction n with
  | zero => intro _ _; have e0 : (sp_sum g 0).toInt = 0 := Int64.toInt_zero; unfold ib_d; rw [e0]; omega
  | succ n ih =>
    intro h hg
    have e : (n + 1) * B = n * B + B := Nat.succ_mul n B
    have h1 := ih (by omega) (fun k hk => hg k (by omega))
    rw [e]
    exact (ib_add h1 (hg n (by omega)) (by omega)).1
theorem bd_sum {g : Nat → Int64} {B : Nat} : ∀ n, (∀ k, k < n → bd_d B (g k)) → bd_d (n * B) (sp_sum g n) := by
  intro n
  induction n with
  | zero => intro _; exact ⟨0, Nat.zero_le _, rfl⟩
  | succ n ih =>
    intro hg
    obtain ⟨a, ha, ea⟩ := ih (fun k hk => hg k (by omega))
    obtain ⟨b, hb, eb⟩ := hg n (by omega)
    refine ⟨a + b, by rw [Nat.succ_mul]; omega, ?_⟩
    show sp_sum g n + g n = _
    rw [ea, eb, lN_add]
/-- what a line gets is at most the amount and a cent -/
theorem sm_get_bd {x : Nat → Int64} {d all : Int64} {n j a b c : Nat} (hx : x j = lN (a * b)) (hd : d = lN c) (h : b ≤ c) (h0 : 0 < c) (hc : c < 2 ^ 63) (hab : a * b < 2 ^ 63) : bd_d (a + 1) (sm_get x d all n j) := by
  have hq : a * b / c ≤ a := by
    have h1 : a * b ≤ a * c := Nat.mul_le_mul (Nat.le_refl _) h
    have h2 : a * b / c ≤ a * c / c := Nat.div_le_div_right h1
    rw [Nat.mul_div_cancel _ h0] at h2
    exact h2
  unfold sm_get
  rw [hx, hd, pk_lDiv hab h0 hc]
  split
  · rw [Int64.add_zero]; exact ⟨_, by omega, rfl⟩
  · rw [lN_1]; exact ⟨_, by omega, rfl⟩
theorem sm_share_bd {w p : Nat → Int64} {n j M : Nat} {sw sp am : Int64} {bw : Int32} (hn : n ≤ 40) (hj : j < n) (hw : bd_d 100000000 (w j)) (hp : bd_d 100000000 (p j)) (hsw : bd_d 4000000000 sw) (hsp : bd_d 4000000000 sp) (hw2 : (w j).toInt ≤ sw.toInt) (hp2 : (p j).toInt ≤ sp.toInt) (hM : M ≤ 10000000000) (ham : bd_d M am) : bd_d (M + 1) (sm_share w p n sw sp am j bw) := by
  obtain ⟨a, ha, ea⟩ := ham
  have U : ∀ (b c : Nat) (y d : Int64), y = lN b → d = lN c → b ≤ 100000000 → b ≤ c → 0 < c → c < 2 ^ 63 → sm_part w p sw sp bw j = y → sm_whole sw sp n bw = d → bd_d (M + 1) (sm_share w p n sw sp am j bw) := by
    intro b c y d ey ed hb hbc hc0 hc ep ew
    unfold sm_share
    have hab : a * b ≤ 10000000000 * 100000000 := Nat.mul_le_mul (by omega) hb
    exact bd_mono (sm_get_bd (a := a) (b := b) (c := c) (by rw [ep, ea, ey, lN_mul]) (by rw [ew, ed]) hbc hc0 hc (by omega)) (by omega)
  have pos : ∀ {z : Int64} {N : Nat}, N < 2 ^ 63 → bd_d N z → ¬ z ≤ 0 → ∃ c, z = lN c ∧ 0 < c ∧ c ≤ N := by
    intro z N hN hz hl
    obtain ⟨c, hc, ec⟩ := hz
    refine ⟨c, ec, ?_, hc⟩
    rw [ec, Int64.le_iff_toInt_le, pk_lT (by omega), Int64.toInt_zero] at hl
    omega
  have ones : (sm_part w p sw sp bw j = 1 → sm_whole sw sp n bw = (nI n).toInt64 → bd_d (M + 1) (sm_share w p n sw sp am j bw)) := fun e1 e2 => U 1 n 1 _ rfl (nI_l (by omega)) (by decide) (by omega) (by omega) (by omega) e1 e2
  have byp : ¬ sp ≤ 0 → sm_part w p sw sp bw j = p j → sm_whole sw sp n bw = sp → bd_d (M + 1) (sm_share w p n sw sp am j bw) := by
    intro h e1 e2
    obtain ⟨c, ec, hc0, hc⟩ := pos (by decide) hsp h
    obtain ⟨b, hb, eb⟩ := hp
    rw [eb, ec, pk_lT (by omega), pk_lT (by omega)] at hp2
    exact U b c _ _ eb ec hb (by omega) hc0 (by omega) e1 e2
  unfold sm_part sm_whole at *
  by_cases h1 : bw = 0
  · by_cases h2 : sp ≤ 0
    · exact ones (by rw [if_pos h1, if_pos h2]) (by rw [if_pos h1, if_pos h2])
    · exact byp h2 (by rw [if_pos h1, if_neg h2]) (by rw [if_pos h1, if_neg h2])
  · by_cases h3 : sw ≤ 0
    · by_cases h2 : sp ≤ 0
      · exact ones (by rw [if_neg h1, if_pos h3, if_pos h2]) (by rw [if_neg h1, if_pos h3, if_pos h2])
      · exact byp h2 (by rw [if_neg h1, if_pos h3, if_neg h2]) (by rw [if_neg h1, if_pos h3, if_neg h2])
    · obtain ⟨c, ec, hc0, hc⟩ := pos (by decide) hsw h3
      obtain ⟨b, hb, eb⟩ := hw
      rw [eb, ec, pk_lT (by omega), pk_lT (by omega)] at hw2
      exact U b c _ _ eb ec hb (by omega) hc0 (by omega) (by rw [if_neg h1, if_neg h3]) (by rw [if_neg h1, if_neg h3])
theorem sm_tr_ib {b : Int64} {told : Nat → Int32} {S : Nat → Int64} {B M : Nat} (hb : ib_d B b) (hS : ∀ k, k < 9 → ib_d M (S k)) (h : B + 9 * M < 2 ^ 63) : ∀ m, m ≤ 9 → ib_d (B + m * M) (sm_tr b told S m) := by
  intro m
  induction m with
  | zero => intro _; exact ib_mono hb (by omega)
  | succ m ih =>
    intro hm
    have h1 := ih (by omega)
    have e : (m + 1) * M = m * M + M := Nat.succ_mul m M
    have hmM : m * M ≤ 8 * M := Nat.mul_le_mul (by omega) (Nat.le_refl _)
    have n0 : (-0 : Int64) = 0 := by decide
    have h2 := hS m (by omega)
    rw [sm_tr_s]
    by_cases q : told m = 0
    · rw [if_pos q, n0, Int64.add_zero]
      split <;> exact ib_mono h1 (by omega)
    · rw [if_neg q]
      split
      · exact ib_mono (ib_add h1 (ib_neg h2 (by omega)) (by omega)).1 (by omega)
      · exact ib_mono (ib_add h1 h2 (by omega)).1 (by omega)
/-- the TEST -/
theorem sp_test_eq {rel tb : Int32} {tv sum : Int64} {M : Nat} (hM : M < 4000000000000000000) (hs : ib_d M sum) (ht : ib_d 1000000000 tv) : sp_test rel tv tb sum = sm_test rel tv tb sum := by
  unfold sp_test sm_test
  by_cases h1 : rel = 0
  · rw [if_pos h1, if_pos h1]
  · rw [if_neg h1, if_neg h1]
    by_cases h2 : tv = -1
    · rw [if_pos h2, if_pos h2]
    · rw [if_neg h2, if_neg h2]
      obtain ⟨-, e⟩ := ib_sub hs ht (by omega)
      by_cases h3 : sum ≤ tv
      · rw [if_pos h3, if_neg (show ¬ 0 < sum - tv from fun q => by
          rw [Int64.lt_iff_toInt_lt, e, Int64.toInt_zero] at q
          rw [Int64.le_iff_toInt_le] at h3
          omega), Int64.neg_sub]
      · rw [if_neg h3, if_pos (show 0 < sum - tv from by
          rw [Int64.lt_iff_toInt_lt, e, Int64.toInt_zero]
          rw [Int64.le_iff_toInt_le] at h3
          omega)]
theorem sm_good_eq (g : Nat → Int64) : ∀ n, sm_good g n = sp_nneg g n := by
  intro n
  induction n with
  | zero => rfl
  | succ n ih =>
    show (if sm_good g n = 0 then 0 else if g n < 0 then 0 else 1) = sp_nneg g (n + 1)
    rw [ih]
    unfold sp_nneg
    by_cases h : ∀ j, j < n → ¬ g j < 0
    · rw [if_pos h, if_neg sp_ne10]
      by_cases q : g n < 0
      · rw [if_pos q, if_neg (fun z => z n (by omega) q)]
      · rw [if_neg q, if_pos (lt_s h q)]
    · rw [if_neg h, if_pos rfl, if_neg (fun z => h (fun j hj => z j (by omega)))]
theorem sp_first_congr {ok hold : Nat → Int32} {ord : Nat → Nat} (h : ∀ i, ok (ord i) = hold (ord i)) : ∀ d i, sp_first ok ord d i = sp_first hold ord d i := by
  intro d
  induction d with
  | zero => intro i; rfl
  | succ d ih =>
    intro i
    show (if ok (ord i) = 0 then sp_first ok ord d (i + 1) else ord i) = (if hold (ord i) = 0 then sp_first hold ord d (i + 1) else ord i)
    rw [h i, ih]
theorem sp_ord_in (tu : Int32) (i : Nat) : 2 ≤ sp_ord tu i ∧ sp_ord tu i ≤ 6 := by
  unfold sp_ord
  split
  · unfold sp_u; split <;> omega
  · unfold sp_t; split <;> omega
/-- THE METHOD -/
theorem sp_find_eq {n : Nat} {c1 ng ts : Int32} {ok hold : Nat → Int32} {tu : Int32} (h : ∀ k, 2 ≤ k → k ≤ 6 → ok k = hold k) (h1 : hold 1 = sm_h1 c1 ng ts) : sp_find n c1 ng ts ok tu = sm_now n hold tu := by
  unfold sp_find sm_now
  rw [sp_found_eq, h1, sp_first_congr (hold := hold) (fun i => h _ (sp_ord_in tu i).1 (sp_ord_in tu i).2) 5 0]
  unfold sm_h1
  by_cases q0 : nI n = 0
  · rw [if_pos q0, if_pos q0]
  · rw [if_neg q0, if_neg q0]
    by_cases q1 : c1 = 0
    · rw [if_pos q1, if_pos q1, if_pos rfl]
    · rw [if_neg q1, if_neg q1]
      by_cases q2 : ng = 0
      · rw [if_pos q2, if_pos q2, if_pos rfl]
      · rw [if_neg q2, if_neg q2]
        by_cases q3 : ts = 0
        · rw [if_pos q3, if_pos q3, if_pos rfl]
        · rw [if_neg q3, if_neg q3, if_neg sp_ne10]
