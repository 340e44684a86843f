/-! Cents that go one by one to the greatest rests, by picking (the class) and by counting those ahead (the reference): the same. -/
def cn_c (P : Nat → Bool) : Nat → Nat
  | 0 => 0
  | k + 1 => cn_c P k + (if P k = true then 1 else 0)
theorem cn_le {P Q : Nat → Bool} : ∀ n, (∀ k, k < n → P k = true → Q k = true) → cn_c P n ≤ cn_c Q n := by
  intro n
  induction n with
  | zero => intro _; exact Nat.le_refl _
  | succ n ih =>
    intro h
    have h1 := ih (fun k hk => h k (by omega))
    have h2 := h n (by omega)
    unfold cn_c
    by_cases q : P n = true
    · rw [if_pos q, if_pos (h2 q)]; omega
    · rw [if_neg q]; omega
theorem cn_eq {P Q : Nat → Bool} (n : Nat) (h : ∀ k, k < n → (P k = true ↔ Q k = true)) : cn_c P n = cn_c Q n :=
  Nat.le_antisymm (cn_le n (fun k hk => (h k hk).mp)) (cn_le n (fun k hk => (h k hk).mpr))
theorem cn_one {P Q : Nat → Bool} {g : Nat} : ∀ n, g < n → (∀ k, k < n → (Q k = true ↔ (P k = true ∨ k = g))) → ¬ P g = true → cn_c Q n = cn_c P n + 1 := by
  intro n
  induction n with
  | zero => intro h; omega
  | succ n ih =>
    intro hg h hP
    by_cases q : g = n
    · subst q
      have e : cn_c Q g = cn_c P g := cn_eq g (fun k hk => by
        rw [h k (by omega)]
        constructor
        · rintro (a | a)
          · exact a
          · omega
        · exact Or.inl)
      unfold cn_c
      rw [if_pos ((h g (by omega)).mpr (Or.inr rfl)), if_neg hP, e]
    · have h1 := ih (by omega) (fun k hk => h k (by omega)) hP
      have h2 := h n (by omega)
      unfold cn_c
      by_cases z : P n = true
      · rw [if_pos z, if_pos (h2.mpr (Or.inl z)), h1]
      · rw [if_neg z, if_neg (fun c => (h2.mp c).elim z (fun a => q a.symm)), h1]
theorem cn_ex {P : Nat → Bool} : ∀ n, cn_c P n < n → ∃ k, k < n ∧ ¬ P k = true := by
  intro n
  induction n with
  | zero => intro h; omega
  | succ n ih =>
    intro h
    by_cases z : P n = true
    · unfold cn_c at h
      rw [if_pos z] at h
      obtain ⟨k, hk, hp⟩ := ih (by omega)
      exact ⟨k, by omega, hp⟩
    · exact ⟨n, by omega, z⟩
theorem cn_n {P : Nat → Bool} : ∀ n, cn_c P n ≤ n := by
  intro n
  induction n with
  | zero => exact Nat.le_refl _
  | succ n ih => unfold cn_c; split <;> omega
theorem cn_0 {P : Nat → Bool} : ∀ n, (∀ k, k < n → ¬ P k = true) → cn_c P n = 0 := by
  intro n
  induction n with
  | zero => intro _; rfl
  | succ n ih =>
    intro h
    unfold cn_c
    rw [if_neg (h n (by omega)), ih (fun k hk => h k (by omega))]
/-- k is ahead of j -/
def rk_b (r : Nat → Int) (j k : Nat) : Bool := decide (r j < r k ∨ (r k = r j ∧ k < j))
def rk_n (r : Nat → Int) (n j : Nat) : Nat := cn_c (rk_b r j) n
theorem rk_bt {r : Nat → Int} {j k : Nat} : rk_b r j k = true ↔ (r j < r k ∨ (r k = r j ∧ k < j)) := by simp [rk_b]
/-- who is ahead has a lesser rank -/
theorem rk_lt {r : Nat → Int} {n i j : Nat} (hi : i < n) (h : rk_b r j i = true) : rk_n r n i < rk_n r n j := by
  rw [rk_bt] at h
  have h1 : cn_c (fun k => rk_b r i k || decide (k = i)) n = cn_c (rk_b r i) n + 1 := cn_one n hi (fun k hk => by simp) (by rw [rk_bt]; omega)
  have h2 : cn_c (fun k => rk_b r i k || decide (k = i)) n ≤ cn_c (rk_b r j) n := cn_le n (fun k hk q => by
    simp only [Bool.or_eq_true, decide_eq_true_eq] at q
    rw [rk_bt]
    rcases q with q | q
    · rw [rk_bt] at q; omega
    · subst q; exact h)
  unfold rk_n
  omega
theorem rk_tot {r : Nat → Int} {i j : Nat} (h : i ≠ j) : rk_b r j i = true ∨ rk_b r i j = true := by
  rw [rk_bt, rk_bt]
  omega
theorem rk_inj {r : Nat → Int} {n i j : Nat} (hi : i < n) (hj : j < n) (h : rk_n r n i = rk_n r n j) : i = j := by
  by_cases q : i = j
  · exact q
  · rcases rk_tot (r := r) q with z | z
    · have := rk_lt hi z; omega
    · have := rk_lt hj z; omega
theorem rk_small {r : Nat → Int} {n j : Nat} (hj : j < n) : rk_n r n j < n := by
  have h1 : cn_c (fun k => rk_b r j k || decide (k = j)) n = cn_c (rk_b r j) n + 1 := cn_one n hj (fun k hk => by simp) (by rw [rk_bt]; omega)
  have h2 := cn_n (P := fun k => rk_b r j k || decide (k = j)) n
  unfold rk_n
  omega
/-- the place of the greatest: none is greater, and those ahead of it are less -/
theorem sp_arg_max (f : Nat → Int64) : ∀ m, (∀ k, k ≤ m → (f k).toInt ≤ (f (sp_arg f m)).toInt) ∧ (∀ k, k < sp_arg f m → (f k).toInt < (f (sp_arg f m)).toInt) := by
  intro m
  induction m with
  | zero =>
    refine ⟨fun k hk => ?_, fun k hk => absurd hk (Nat.not_lt_zero _)⟩
    obtain rfl : k = 0 := Nat.le_zero.mp hk
    exact Int.le_refl _
  | succ m ih =>
    unfold sp_arg
    by_cases h : f (m + 1) ≤ f (sp_arg f m)
    · rw [if_pos h]
      refine ⟨fun k hk => ?_, ih.2⟩
      rcases Nat.lt_or_ge m k with q | q
      · obtain rfl : k = m + 1 := by omega
        exact Int64.le_iff_toInt_le.mp h
      · exact ih.1 k q
    · rw [if_neg h]
      rw [Int64.le_iff_toInt_le] at h
      refine ⟨fun k hk => ?_, fun k hk => ?_⟩
      · rcases Nat.lt_or_ge m k with q | q
        · obtain rfl : k = m + 1 := by omega
          exact Int.le_refl _
        · have := ih.1 k q; omega
      · have := ih.1 k (by omega); omega
theorem lp_m1 : ((-1 : Int64)).toInt = -1 := by decide
/-- behind t turns those of a rank below t have got their cent -/
theorem rk_ho {n : Nat} {Q R : Nat → Int64} (hR : ∀ k, k < n → 0 ≤ (R k).toInt) : ∀ t, t ≤ n →
    cn_c (fun j => decide (rk_n (fun k => (R k).toInt) n j < t)) n = t ∧
    ∀ j, j < n → (sp_ho n Q R t).1 j = (if rk_n (fun k => (R k).toInt) n j < t then Q j + 1 else Q j) ∧ (sp_ho n Q R t).2 j = (if rk_n (fun k => (R k).toInt) n j < t then -1 else R j) := by
  intro t
  induction t with
  | zero =>
    intro _
    refine ⟨cn_0 n (fun k hk => by simp), fun j hj => ?_⟩
    rw [if_neg (Nat.not_lt_zero _), if_neg (Nat.not_lt_zero _)]
    exact ⟨rfl, rfl⟩
  | succ t ih =>
    intro ht
    obtain ⟨hc, hv⟩ := ih (by omega)
    have hg0 := sp_arg_le (sp_ho n Q R t).2 (n - 1)
    obtain ⟨hm1, hm2⟩ := sp_arg_max (sp_ho n Q R t).2 (n - 1)
    have es : sp_ho n Q R (t + 1) = (vp_updL (sp_ho n Q R t).1 (sp_arg (sp_ho n Q R t).2 (n - 1)) ((sp_ho n Q R t).1 (sp_arg (sp_ho n Q R t).2 (n - 1)) + 1), vp_updL (sp_ho n Q R t).2 (sp_arg (sp_ho n Q R t).2 (n - 1)) (-1)) := rfl
    generalize sp_arg (sp_ho n Q R t).2 (n - 1) = g at hg0 hm1 hm2 es
    have hgn : g < n := by omega
    obtain ⟨j0, hj0, hp0⟩ := cn_ex (P := fun j => decide (rk_n (fun k => (R k).toInt) n j < t)) n (by rw [hc]; omega)
    simp only [decide_eq_true_eq] at hp0
    have v0 := (hv j0 hj0).2
    rw [if_neg hp0] at v0
    have b0 := hm1 j0 (by omega)
    rw [v0] at b0
    have r0 := hR j0 hj0
    have hgu : ¬ rk_n (fun k => (R k).toInt) n g < t := by
      intro q
      have v1 := (hv g hgn).2
      rw [if_pos q] at v1
      rw [v1, lp_m1] at b0
      omega
    have vg := (hv g hgn).2
    rw [if_neg hgu] at vg
    have hrg : rk_n (fun k => (R k).toInt) n g = t := by
      refine Eq.trans ?_ hc
      refine cn_eq n (fun k hk => ?_)
      rw [rk_bt]
      simp only [decide_eq_true_eq]
      constructor
      · intro q
        by_cases z : rk_n (fun k => (R k).toInt) n k < t
        · exact z
        · exfalso
          have vk := (hv k hk).2
          rw [if_neg z] at vk
          have a1 := hm1 k (by omega)
          rw [vk, vg] at a1
          rcases q with q | ⟨q1, q2⟩
          · omega
          · have a2 := hm2 k q2
            rw [vk, vg] at a2
            omega
      · intro z
        have hne : k ≠ g := fun q => by subst q; exact hgu z
        rcases rk_tot (r := fun k => (R k).toInt) hne with q | q
        · rw [rk_bt] at q; exact q
        · have := rk_lt hgn q; omega
    have hone : ∀ j, j < n → (rk_n (fun k => (R k).toInt) n j < t + 1 ↔ (rk_n (fun k => (R k).toInt) n j < t ∨ j = g)) := by
      intro j hj
      constructor
      · intro q
        by_cases z : rk_n (fun k => (R k).toInt) n j < t
        · exact Or.inl z
        · exact Or.inr (rk_inj (r := fun k => (R k).toInt) hj hgn (by omega))
      · rintro (q | q)
        · omega
        · subst q; omega
    constructor
    · rw [cn_one (P := fun j => decide (rk_n (fun k => (R k).toInt) n j < t)) n hgn (fun k hk => by simp only [decide_eq_true_eq]; exact hone k hk) (by simp only [decide_eq_true_eq]; exact hgu), hc]
    · intro j hj
      rw [es]
      by_cases q : j = g
      · subst q
        rw [if_pos (by omega), if_pos (by omega)]
        have v1 := (hv j hj).1
        rw [if_neg hgu] at v1
        exact ⟨by show vp_updL _ _ _ _ = _; rw [pk_uLs, v1], by show vp_updL _ _ _ _ = _; rw [pk_uLs]⟩
      · have z : (rk_n (fun k => (R k).toInt) n j < t + 1) = (rk_n (fun k => (R k).toInt) n j < t) := propext ⟨fun a => ((hone j hj).mp a).elim id (fun b => absurd b q), fun a => (hone j hj).mpr (Or.inl a)⟩
        constructor
        · show vp_updL _ _ _ _ = _
          rw [pk_uLn q, (hv j hj).1]
          simp only [z]
        · show vp_updL _ _ _ _ = _
          rw [pk_uLn q, (hv j hj).2]
          simp only [z]
