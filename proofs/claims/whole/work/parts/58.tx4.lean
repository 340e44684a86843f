/-! What a method that may throw is told of the start; which of its ends a call of it takes (0: it returns). -/
def tx_txt : List (Nat × String) := [(80, "a line's weight or price can't be"), (91, "there are 40 lines"), (104, "an addition's kind or cents can't be"), (110, "a deduction's kind or cents can't be"), (116, "a discount's days or thousandths can't be"), (119, "there are 10 rows of discounts"), (154, "there is no such line or what"), (159, "no method holds"), (166, "there is no such line"), (171, "an amount can't be"), (187, "the sum of weights is 0")]
def tx_L (sa : Nat → Nat) (U : State) : Prop := ∀ q ∈ tx_txt, vk_R "ValueMethods" q.1 q.2 (sa q.1) U
def tx_pre (sa : Nat → Nat) (A : Nat → Prop) (D : va_G) (cl : List vw_C) (ws : va_W) (tys : List (ClassId × FieldType)) : State → Prop := fun U => (va_P D cl ws U.heap ∧ va_K D cl tys U) ∧ tx_E A U U.heap ∧ tx_L sa U
theorem tx_E.same {A : Nat → Prop} {u U : State} {H : Heap} (hv : u.vm = U.vm) (h : tx_E A u H) : tx_E A U H :=
  ⟨h.1.moved (by rw [hv]; exact Vm.Alike.refl _), h.2.1.moved (by rw [hv]; exact Vm.Alike.refl _), fun C hC => va_Nw.same rfl hv (h.2.2.1 C hC), fun x hx => va_Nw.same rfl hv (h.2.2.2 x hx)⟩
theorem tx_L.same {sa : Nat → Nat} {u U : State} (hv : U.vm = u.vm) (h : tx_L sa u) : tx_L sa U := fun q hq => vk_R.same hv (h q hq)
theorem tx_L.warm {sa : Nat → Nat} {s U : State} (hW : s.WarmedH U.vm) (h : tx_L sa s) : tx_L sa U := fun q hq => vk_R.warm hW (h q hq)
theorem tx_fb {sa : Nat → Nat} {A : Nat → Prop} {D : va_G} {cl : List vw_C} {ws : va_W} {tys : List (ClassId × FieldType)} {av : List Value} : FrameBlind (va_Pc av (tx_pre sa A D cl ws tys)) := fun a U g mk q => by
  obtain ⟨q0, ⟨qP, qK⟩, qE, qL⟩ := q
  exact ⟨q0, ⟨qP, va_K.moved (u := U) (U := U.calling g mk a) (Vm.Alike.refl U.vm) qK⟩, tx_E.same (u := U) rfl qE, tx_L.same (u := U) rfl qL⟩
def sp_kline (wt pr : Int64) (n : Nat) : Int32 := if sp_within wt 0 100000000 = 0 then 1 else if sp_within pr 0 100000000 = 0 then 1 else if sp_full (nI n) 40 = 0 then 0 else 2
def sp_kadd (K : Nat) (k : Int32) (am : Int64) : Int32 := if sp_has k (nI K) = 0 then 1 else if sp_within am 0 1000000000 = 0 then 1 else 0
def sp_kdis (d t : Int32) (n : Nat) : Int32 := if sp_within d.toInt64 0 359 = 0 then 1 else if sp_within t.toInt64 0 1000 = 0 then 1 else if sp_full (nI n) 10 = 0 then 0 else 2
def sp_kval (k w : Int32) (n : Nat) : Int32 := if sp_has k (nI n) = 0 then 1 else if sp_within w.toInt64 0 1 = 0 then 1 else 0
def sp_ktra (k : Int32) (n : Nat) : Int32 := if sp_has k (nI n) = 0 then 1 else 0
def sp_ksh (am : Int64) (k : Int32) (n : Nat) : Int32 := if sp_has k (nI n) = 0 then 1 else if sp_within am 0 1000000000 = 0 then 2 else 0
def sp_kpl (am : Int64) (k : Int32) (n : Nat) (ws : Int64) : Int32 := if sp_has k (nI n) = 0 then 1 else if sp_within am 0 1000000000 = 0 then 2 else if ws = 0 then 3 else 0
theorem sp_hask {k : Int32} {n : Nat} (hn : n < 2 ^ 31) (h : ¬ sp_has k (nI n) = 0) : ∃ j, j < n ∧ k = nI j := by
  unfold sp_has at h
  by_cases h1 : k < 0
  · simp [h1] at h
  · by_cases h2 : k < nI n
    · rw [Int32.lt_iff_toInt_lt] at h1 h2
      rw [nI_toInt (by omega)] at h2
      have h3 : (0 : Int32).toInt = 0 := rfl
      rw [h3] at h1
      refine ⟨k.toInt.toNat, by omega, ?_⟩
      apply Int32.toInt_inj.mp
      rw [nI_toInt (by omega)]
      omega
    · simp [h1, h2] at h
theorem sp_fulln {n b : Nat} (hn : n < 2 ^ 31) (hb : b < 2 ^ 31) (h : sp_full (nI n) (nI b) = 0) : n < b := by
  unfold sp_full at h
  by_cases h1 : nI n < nI b
  · rw [Int32.lt_iff_toInt_lt, nI_toInt (by omega), nI_toInt (by omega)] at h1
    omega
  · simp [h1] at h
theorem sp_dt01 (xd : Nat → Int32) (n : Nat) (d : Int32) : sp_dt xd n d = 0 ∨ sp_dt xd n d = 1 := by
  unfold sp_dt
  split
  · exact Or.inr rfl
  · split
    · exact Or.inr rfl
    · exact Or.inl rfl
