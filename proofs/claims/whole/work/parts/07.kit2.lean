section QVc
variable {p : Program} {l : Launch} {e : Env} {R : Room} {s : State} {m : MethodId} {args : Array Value} {below : List Frame} {meth : Method} {c : Code} {H H0 : Heap} {locs : List Loc} {cells slots : Nat} {Q : State → Prop}
variable {pc : Nat} {ls : Array Slot} {rest : List Value} {cc : ByteArray} {D : va_G} {cl : List vw_C} {ws : va_W} {tys : List (ClassId × FieldType)} {A : Nat → Prop}
theorem qv_zast {a cA n k : Nat} {f : Nat → Int32} {x : Int32} (hexec : p.tables.exec = Jvm.exec) (hb : c.code = cc) (hK : va_K D cl tys s) (hP : va_P D cl ws H) (hD : va_D A ws) (hS : va_S A H0 H locs) (q0 t0 : Nat) (ha : ws[q0]? = some (a, .inl (cA, n, .inl f))) (ht : tys[t0]? = some (cA, .boolean)) (hk : k < n) (hn : n < 2 ^ 31) (hx : vp_nar .boolean x = x) (hdg : decode cc pc = .ok (.bastore, 1))
    (kk : ∀ (H1 : Heap) (locs1 : List Loc), va_P D cl (ws.set q0 (a, .inl (cA, n, .inl (upd f k x)))) H1 → va_D A (ws.set q0 (a, .inl (cA, n, .inl (upd f k x)))) → va_S A H0 H1 locs1 → W p l e R s m args below meth c H1 locs1 cells slots Q (F0 m (pc + 1) ls rest)) : W p l e R s m args below meth c H locs cells slots Q (F0 m pc ls (.int x :: .int (nI k) :: .ref a :: rest)) := by
  refine va_zast hexec hb hK hP hD hS q0 t0 ha ht (vp_in_nI hk hn) hdg ?_
  rw [nI_clamp (by omega), hx]
  exact kk
end QVc
theorem lp_nzi {P : Prop} [Decidable P] : narrow .boolean (.int (if P then 1 else 0)) = .int (if P then 1 else 0) := by split <;> rfl
theorem sp_win {x : Int32} {A B : Int64} (a b : Nat) (hA : A.toInt = a) (hB : B.toInt = b) (hb : b < 2 ^ 31) (h : ¬ sp_within x.toInt64 A B = 0) : ∃ k, a ≤ k ∧ k ≤ b ∧ x = nI k := by
  unfold sp_within at h
  by_cases h1 : x.toInt64 < A
  · rw [if_pos h1] at h; exact absurd rfl h
  · rw [if_neg h1] at h
    by_cases h2 : B < x.toInt64
    · rw [if_pos h2] at h; exact absurd rfl h
    · rw [Int64.lt_iff_toInt_lt, Int32.toInt_toInt64] at h1 h2
      rw [hA] at h1
      rw [hB] at h2
      refine ⟨x.toInt.toNat, by omega, by omega, ?_⟩
      apply Int32.toInt_inj.mp
      rw [nI_toInt (by omega)]
      omega
theorem sp_w01 (x a b : Int64) : sp_within x a b = 0 ∨ sp_within x a b = 1 := by
  unfold sp_within
  split
  · exact Or.inl rfl
  · split
    · exact Or.inl rfl
    · exact Or.inr rfl
/-- a row of discounts: taken or not -/
def sp_dt (xd : Nat → Int32) (n : Nat) (d : Int32) : Int32 := match n with
  | 0 => 1
  | k + 1 => if xd k < d then 1 else 0
/-- a rate: taken or not -/
def sp_rt (ups : Nat → Int32) (q u d : Int32) : Int32 := if q < 0 then 0 else if 12 ≤ q then 0 else if ups q.toNatClampNeg = 0 then (if u < 1 then 0 else if 10000 < u then 0 else if d < 1 then 0 else if d ≤ 10000 then 1 else 0) else 0
def sp_two (a b : Int32) : Int32 := if a = 0 then 0 else if b = 0 then 0 else 1
def sp_rel (t : Int64) (b : Int32) : Int32 := if t = -1 then (if sp_within b.toInt64 0 1000 = 0 then 0 else 1) else if sp_within t 0 1000000000 = 0 then 0 else if sp_within b.toInt64 0 1000 = 0 then 0 else 1
theorem sp_ne10 : ¬ (1 : Int32) = 0 := by decide
theorem sp_eq00 : (0 : Int32) = 0 := rfl
theorem sp_rt01 (ups : Nat → Int32) (q u d : Int32) : sp_rt ups q u d = 0 ∨ sp_rt ups q u d = 1 := by
  unfold sp_rt
  repeat (first | exact Or.inl rfl | exact Or.inr rfl | split)
theorem lp_fz {x : Int32} (h : x = 0 ∨ x = 1) : fits .boolean (.int x) = true := by rcases h with rfl | rfl <;> rfl
/-- a rate's up or down, by the method -/
def sp_upx (k : Int32) (x : Int32) : Int64 := if sp_own k = 0 then sp_rate x else 1
