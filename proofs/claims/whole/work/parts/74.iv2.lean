/-! Discounts, rates, figures, days and the test: the invariant's other pieces. -/
def iv_D (nd : Nat) (rt : Nat → Int32) : Prop := nd ≤ 10 ∧ ∀ k, k < nd → bd_d 1000 (rt k).toInt64
theorem sm_dthr_eq (d t : Int32) {n : Nat} (hn : n ≤ 10) : sm_dthr d t n = sp_kdis d t n := by
  unfold sm_dthr sp_kdis
  by_cases h1 : sp_within d.toInt64 0 359 = 0
  · rw [if_pos h1, if_pos h1]
  · rw [if_neg h1, if_neg h1]
    by_cases h2 : sp_within t.toInt64 0 1000 = 0
    · rw [if_pos h2, if_pos h2]
    · rw [if_neg h2, if_neg h2]
      unfold sp_full
      by_cases h3 : n < 10
      · have e1 : nI n < 10 := by
          rw [Int32.lt_iff_toInt_lt, nI_toInt (by omega)]
          show (n : Int) < 10
          omega
        have e2 : ¬ nI n = 10 := fun q => by rw [q] at e1; exact absurd e1 (by decide)
        rw [if_neg e2, if_pos e1, if_pos rfl]
      · obtain rfl : n = 10 := by omega
        rfl
theorem sm_dok_ite {α : Type} {rd : Nat → Int32} {n : Nat} {d t : Int32} (hn : n ≤ 10) (a b : α) : (if sm_dok rd n d t = 0 then a else b) = (if sp_kdis d t n = 0 then (if sp_dt rd n d = 0 then a else b) else a) := by
  unfold sm_dok
  rw [sm_dthr_eq d t hn]
  by_cases h : sp_kdis d t n = 0
  · simp only [if_pos h]
  · simp only [if_neg h, ↓reduceIte]
theorem iv_D.dis {nd : Nat} {rd rt : Nat → Int32} {d t : Int32} (h : iv_D nd rt) : iv_D (if sp_kdis d t nd = 0 then (if sp_dt rd nd d = 0 then nd else nd + 1) else nd) (if sp_kdis d t nd = 0 then (if sp_dt rd nd d = 0 then rt else upd rt nd t) else rt) := by
  obtain ⟨hn, hr⟩ := h
  rcases sp_kdis_c d t hn with ⟨hk, h1, h2, h3, -⟩ | hk | hk
  · simp only [if_pos hk]
    by_cases h4 : sp_dt rd nd d = 0
    · simp only [if_pos h4]; exact ⟨hn, hr⟩
    · simp only [if_neg h4]
      refine ⟨by omega, fun k hk => ?_⟩
      rcases Nat.lt_or_ge k nd with q | q
      · rw [pk_un (by omega)]; exact hr k q
      · obtain rfl : k = nd := by omega
        rw [pk_us]; exact bd_within (by decide) (by decide) h2
  · have hk8 : ¬ sp_kdis d t nd = 0 := by rw [hk]; decide
    simp only [if_neg hk8]; exact ⟨hn, hr⟩
  · have hk8 : ¬ sp_kdis d t nd = 0 := by rw [hk]; decide
    simp only [if_neg hk8]; exact ⟨hn, hr⟩
theorem thou_bd {rd rt : Nat → Int32} {i p : Int32} {nd : Nat} (h : iv_D nd rt) : ∀ m, m ≤ nd → bd_d 1000 (sp_thou rd rt i p m).toInt64 := by
  intro m
  induction m with
  | zero => intro _; exact ⟨0, by decide, rfl⟩
  | succ m ih =>
    intro hm
    have h1 := ih (by omega)
    show bd_d 1000 (if i + rd m < p then sp_thou rd rt i p m else if rt m ≤ sp_thou rd rt i p m then sp_thou rd rt i p m else rt m).toInt64
    split
    · exact h1
    · split
      · exact h1
      · exact h.2 m (by omega)
def iv_R (ups dns : Nat → Int32) : Prop := ∀ q, q < 12 → (ups q = 0 ∧ dns q = 0) ∨ ((1 ≤ (ups q).toInt ∧ (ups q).toInt ≤ 10000) ∧ (1 ≤ (dns q).toInt ∧ (dns q).toInt ≤ 10000))
theorem win32 (x : Int32) : sp_within x.toInt64 1 10000 = if x < 1 then 0 else if 10000 < x then 0 else 1 := by
  have e0 : (x.toInt64 < 1) = (x < 1) := by
    apply propext
    rw [Int64.lt_iff_toInt_lt, Int32.lt_iff_toInt_lt, Int32.toInt_toInt64]
    exact Iff.rfl
  have e1 : ((10000 : Int64) < x.toInt64) = (10000 < x) := by
    apply propext
    rw [Int64.lt_iff_toInt_lt, Int32.lt_iff_toInt_lt, Int32.toInt_toInt64]
    exact Iff.rfl
  unfold sp_within
  simp only [e0, e1]
theorem rt_pos {x : Int32} (h : 1 ≤ x.toInt) : ¬ x = 0 ∧ ¬ x ≤ 0 := by
  constructor
  · intro q; rw [q] at h; exact absurd h (by decide)
  · rw [Int32.le_iff_toInt_le]
    have : (0 : Int32).toInt = 0 := rfl
    omega
theorem sm_rt_eq {ups dns : Nat → Int32} (h : iv_R ups dns) (q u d : Int32) : sm_rt ups q u d = sp_rt ups q u d := by
  unfold sm_rt sp_rt
  rw [sp_has_win (K := 12) (by decide) (by decide) (by decide), win32, win32]
  rcases pk_ix q (n := 12) (by decide) with h9 | h9 | ⟨k, hk, rfl⟩
  · rw [sp_has_a h9, if_pos rfl, if_pos h9]
  · rw [sp_has_b h9, if_pos rfl]
    by_cases h8 : q < 0
    · rw [if_pos h8]
    · rw [if_neg h8, if_pos (show (12 : Int32) ≤ q from h9)]
  · rw [sp_has_c hk (by decide), if_neg sp_ne10, if_neg (nI_pos (by omega)), if_neg (show ¬ (12 : Int32) ≤ nI k from nI_ge hk (by decide)), nI_clamp (by omega)]
    have hz : (ups k = 0 ∧ ups k ≤ 0) ∨ (¬ ups k = 0 ∧ ¬ ups k ≤ 0) := by
      rcases h k hk with ⟨e, -⟩ | ⟨⟨e, -⟩, -⟩
      · rw [e]; exact Or.inl ⟨rfl, by decide⟩
      · exact Or.inr (rt_pos e)
    rcases hz with ⟨e1, e2⟩ | ⟨e1, e2⟩
    · rw [if_pos e1, if_pos e2]
      by_cases a1 : u < 1
      · simp [a1]
      · by_cases a2 : 10000 < u
        · simp [a1, a2]
        · by_cases a3 : d < 1
          · simp [a1, a2, a3]
          · by_cases a4 : 10000 < d
            · have a5 : ¬ d ≤ 10000 := by
                rw [Int32.lt_iff_toInt_lt] at a4; rw [Int32.le_iff_toInt_le]; omega
              simp [a1, a2, a3, a4, a5]
            · have a5 : d ≤ 10000 := by
                rw [Int32.lt_iff_toInt_lt] at a4; rw [Int32.le_iff_toInt_le]; omega
              simp [a1, a2, a3, a4, a5]
    · rw [if_neg e1, if_neg e2]
      have hz9 : ∀ a b : Int32, (if a = 0 then (0 : Int32) else if b = 0 then 0 else 0) = 0 := fun a b => by
        by_cases qa : a = 0
        · rw [if_pos qa]
        · rw [if_neg qa]
          by_cases qb : b = 0
          · rw [if_pos qb]
          · rw [if_neg qb]
      exact hz9 _ _
theorem iv_R.rate {ups dns : Nat → Int32} {q u d : Int32} (h : iv_R ups dns) : iv_R (if sp_rt ups q u d = 0 then ups else upd ups q.toNatClampNeg u) (if sp_rt ups q u d = 0 then dns else upd dns q.toNatClampNeg d) := by
  by_cases hr : sp_rt ups q u d = 0
  · simp only [if_pos hr]; exact h
  · simp only [if_neg hr]
    unfold sp_rt at hr
    rcases pk_ix q (n := 12) (by decide) with h9 | h9 | ⟨k, hk, rfl⟩
    · rw [if_pos h9] at hr; exact absurd rfl hr
    · by_cases h8 : q < 0
      · rw [if_pos h8] at hr; exact absurd rfl hr
      · rw [if_neg h8, if_pos (show (12 : Int32) ≤ q from h9)] at hr; exact absurd rfl hr
    · rw [if_neg (nI_pos (by omega)), if_neg (show ¬ (12 : Int32) ≤ nI k from nI_ge hk (by decide)), nI_clamp (by omega)] at hr
      rw [nI_clamp (by omega)]
      by_cases a0 : ups k = 0
      · rw [if_pos a0] at hr
        by_cases a1 : u < 1
        · rw [if_pos a1] at hr; exact absurd rfl hr
        · rw [if_neg a1] at hr
          by_cases a2 : 10000 < u
          · rw [if_pos a2] at hr; exact absurd rfl hr
          · rw [if_neg a2] at hr
            by_cases a3 : d < 1
            · rw [if_pos a3] at hr; exact absurd rfl hr
            · rw [if_neg a3] at hr
              by_cases a4 : d ≤ 10000
              · rw [Int32.lt_iff_toInt_lt] at a1 a2 a3
                rw [Int32.le_iff_toInt_le] at a4
                have c1 : (1 : Int32).toInt = 1 := rfl
                have c2 : (10000 : Int32).toInt = 10000 := rfl
                intro j hj
                rcases Decidable.em (j = k) with rfl | q
                · rw [pk_us, pk_us]; exact Or.inr ⟨⟨by omega, by omega⟩, ⟨by omega, by omega⟩⟩
                · rw [pk_un q, pk_un q]; exact h j hj
              · rw [if_neg a4] at hr; exact absurd rfl hr
      · rw [if_neg a0] at hr; exact absurd rfl hr
def iv_F (fd : Nat → Int32) (fA fB : Nat → Int64) : Prop := ∀ k, 2 ≤ k → k ≤ 6 → fd k = 0 ∨ (k ≤ 3 ∧ bd_d 100000 (fA k) ∧ bd_d 1000000000 (fB k) ∧ 0 < fB k) ∨ (4 ≤ k ∧ bd_d 1000000000 (fA k) ∧ bd_d 1000 (fB k))
theorem sp_two01 (a b : Int32) : sp_two a b = 0 ∨ sp_two a b = 1 := by
  unfold sp_two
  split
  · exact Or.inl rfl
  · split
    · exact Or.inl rfl
    · exact Or.inr rfl
theorem sp_two_id {a b : Int32} (ha : ¬ a = 0) (hb : b = 0 ∨ b = 1) : sp_two a b = b := by
  unfold sp_two
  rw [if_neg ha]
  rcases hb with rfl | rfl <;> rfl
theorem sp_can_two (k : Int32) (a b : Int64) : sp_can k a b = if k = 2 then sp_two (sp_within a 0 100000) (sp_within b 1 1000000000) else if k = 3 then sp_two (sp_within a 0 100000) (sp_within b 1 1000000000) else sp_two (sp_within a 0 1000000000) (sp_within b 0 1000) := rfl
theorem sm_fg_eq (k : Int32) (a b : Int64) : sm_fg k a b = sp_two (sp_within k.toInt64 2 6) (sp_can k a b) := by
  unfold sm_fg
  by_cases h : sp_within k.toInt64 2 6 = 0
  · rw [if_pos h]; unfold sp_two; rw [if_pos h]
  · have h01 : sp_can k a b = 0 ∨ sp_can k a b = 1 := by
      rw [sp_can_two]
      split
      · exact sp_two01 _ _
      · split <;> exact sp_two01 _ _
    rw [if_neg h, sp_two_id h h01, sp_can_two]
theorem win1 {x : Int64} {M : Nat} {b : Int64} (hM : M < 2 ^ 63) (hb : b.toInt = M) (h : ¬ sp_within x 1 b = 0) : bd_d M x ∧ 0 < x := by
  unfold sp_within at h
  have c0 := Int64.toInt_zero
  have c1 : (1 : Int64).toInt = 1 := rfl
  by_cases h1 : x < 1
  · rw [if_pos h1] at h; exact absurd rfl h
  · rw [if_neg h1] at h
    by_cases h2 : b < x
    · rw [if_pos h2] at h; exact absurd rfl h
    · rw [Int64.lt_iff_toInt_lt] at h1 h2
      exact ⟨bd_of hM (by omega) (by omega), by rw [Int64.lt_iff_toInt_lt]; omega⟩
theorem two_ne {a b : Int32} (h : ¬ sp_two a b = 0) : ¬ a = 0 ∧ ¬ b = 0 := by
  unfold sp_two at h
  by_cases h1 : a = 0
  · rw [if_pos h1] at h; exact absurd rfl h
  · rw [if_neg h1] at h
    by_cases h2 : b = 0
    · rw [if_pos h2] at h; exact absurd rfl h
    · exact ⟨h1, h2⟩
theorem iv_F.fig {fd : Nat → Int32} {fA fB : Nat → Int64} {k : Int32} {a b : Int64} (h : iv_F fd fA fB) : iv_F (if sp_two (sp_within k.toInt64 2 6) (sp_can k a b) = 0 then fd else upd fd k.toNatClampNeg 1) (if sp_two (sp_within k.toInt64 2 6) (sp_can k a b) = 0 then fA else vp_updL fA k.toNatClampNeg a) (if sp_two (sp_within k.toInt64 2 6) (sp_can k a b) = 0 then fB else vp_updL fB k.toNatClampNeg b) := by
  by_cases hr : sp_two (sp_within k.toInt64 2 6) (sp_can k a b) = 0
  · simp only [if_pos hr]; exact h
  · simp only [if_neg hr]
    obtain ⟨h1, h2⟩ := two_ne hr
    obtain ⟨m, hm1, hm2, rfl⟩ := sp_win 2 6 (by decide) (by decide) (by decide) h1
    rw [nI_clamp (by omega)]
    intro j hj1 hj2
    rcases Decidable.em (j = m) with rfl | q
    · rw [pk_us, pk_uLs, pk_uLs]
      refine Or.inr ?_
      rw [sp_can_two] at h2
      by_cases e2 : nI j = 2
      · obtain rfl : j = 2 := by
          have := congrArg Int32.toInt e2
          rw [nI_toInt (by omega)] at this
          have c2 : (2 : Int32).toInt = 2 := rfl
          omega
        rw [if_pos e2] at h2
        obtain ⟨g1, g2⟩ := two_ne h2
        exact Or.inl ⟨by decide, bd_within (by decide) (by decide) g1, (win1 (by decide) (by decide) g2).1, (win1 (M := 1000000000) (by decide) (by decide) g2).2⟩
      · rw [if_neg e2] at h2
        by_cases e3 : nI j = 3
        · obtain rfl : j = 3 := by
            have := congrArg Int32.toInt e3
            rw [nI_toInt (by omega)] at this
            have c2 : (3 : Int32).toInt = 3 := rfl
            omega
          rw [if_pos e3] at h2
          obtain ⟨g1, g2⟩ := two_ne h2
          exact Or.inl ⟨by decide, bd_within (by decide) (by decide) g1, (win1 (by decide) (by decide) g2).1, (win1 (M := 1000000000) (by decide) (by decide) g2).2⟩
        · rw [if_neg e3] at h2
          obtain ⟨g1, g2⟩ := two_ne h2
          have q2 : j ≠ 2 := fun q => e2 (by rw [q]; rfl)
          have q3 : j ≠ 3 := fun q => e3 (by rw [q]; rfl)
          exact Or.inr ⟨by omega, bd_within (by decide) (by decide) g1, bd_within (by decide) (by decide) g2⟩
    · rw [pk_un q, pk_uLn q, pk_uLn q]; exact h j hj1 hj2
def iv_O (day : Nat) (tst : Int64) : Prop := day < 360 ∧ ib_d 1000000000 tst
theorem iv_O.days {day : Nat} {tst : Int64} {a b : Int32} (h : iv_O day tst) : iv_O (if sp_two (sp_within a.toInt64 0 359) (sp_within b.toInt64 0 359) = 0 then day else a.toNatClampNeg) tst := by
  by_cases hr : sp_two (sp_within a.toInt64 0 359) (sp_within b.toInt64 0 359) = 0
  · simp only [if_pos hr]; exact h
  · simp only [if_neg hr]
    obtain ⟨m, hm1, hm2, rfl⟩ := sp_win 0 359 (by decide) (by decide) (by decide) (two_ne hr).1
    rw [nI_clamp (by omega)]
    exact ⟨by omega, h.2⟩
theorem sm_rel_eq (t : Int64) (b : Int32) : sm_rel t b = sp_rel t b := by
  unfold sm_rel sp_rel
  by_cases h1 : t = -1
  · rw [if_pos h1, h1, if_neg (show ¬ sp_within (-1) (-1) 1000000000 = 0 by decide)]
  · rw [if_neg h1]
    have e : sp_within t (-1) 1000000000 = sp_within t 0 1000000000 := by
      unfold sp_within
      have c0 := Int64.toInt_zero
      by_cases h2 : t < 0
      · have h3 : t < -1 := by
          rw [Int64.lt_iff_toInt_lt] at h2 ⊢
          rw [lp_m1]
          have : t.toInt ≠ -1 := fun q => h1 (Int64.toInt_inj.mp (by rw [q, lp_m1]))
          omega
        rw [if_pos h2, if_pos h3]
      · have h3 : ¬ t < -1 := by
          rw [Int64.lt_iff_toInt_lt] at h2 ⊢
          rw [lp_m1]
          omega
        rw [if_neg h2, if_neg h3]
    rw [e]
theorem iv_O.rel {day : Nat} {tst t : Int64} {b : Int32} (h : iv_O day tst) : iv_O day (if sp_rel t b = 0 then tst else t) := by
  by_cases hr : sp_rel t b = 0
  · simp only [if_pos hr]; exact h
  · simp only [if_neg hr]
    refine ⟨h.1, ?_⟩
    unfold sp_rel at hr
    by_cases h1 : t = -1
    · rw [h1]; unfold ib_d; rw [lp_m1]; omega
    · rw [if_neg h1] at hr
      by_cases h2 : sp_within t 0 1000000000 = 0
      · rw [if_pos h2] at hr; exact absurd rfl hr
      · exact ib_of (by decide) (bd_within (by decide) (by decide) h2)
