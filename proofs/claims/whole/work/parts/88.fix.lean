/-! The start: what the law stands on. -/
def R_law : String := "ValueMethodsLaw"
def lw_P (b : Addr) (xs : List Int32) (args : Array Value) (s : State) : Prop := args = #[.ref b] ∧ s.IntsAt b xs ∧ xs.length ≤ 3072 ∧ (Jvm.Cond.and given_1 narrow_1).before args s = true
def lw_Q (_ : Array Value) (s : State) (o : Outcome) (t : State) : Prop := o = .returned (some (.int 1)) ∧ Framed s o t [] 623623 7225236
def lw_Z (below : List Frame) (a : Array Value) (s : State) : State → Prop := fun t => ∃ o, t.status = .running ∧ Ended t below o ∧ lw_Q a s o t
/-- the law's own end, with 1 on the stack, nothing written that was there before, its room as the claim has it -/
theorem lw_ret {p : Program} {l : Launch} {e : Env} {s : State} {m : MethodId} {below : List Frame} {meth : Method} {c : Code} {b : Nat} (hx : p.tables.exec = Jvm.exec) (hb : c.code = code) (hr : meth.sig.returnType = ret) (hlocks : meth.locks = false) {pc : Nat} {H : Heap} {ls : Array Slot} (hdg : decode code pc = .ok (.ireturn, 1)) : W p l e room_1 s m #[Value.ref b] below meth c H [] 623623 7225236 (lw_Z below #[Value.ref b] s) (F0 m pc ls [.int 1]) := by
  intro T hT X
  obtain ⟨fs, hret, hrun, hended, hW, hframe⟩ := X.leave (v := some (.int 1)) (hlocks := hlocks) (fun h => by rw [hr] at h; cases h)
  have hmeth' : T.vm.method? m = some meth := X.method'
  refine ⟨T.setFrames fs, ?_, .returned (some (.int 1)), hrun, hended, rfl, ⟨_, rfl⟩, hW, hframe⟩
  jvm_step X.here [X.here.top, hx, hb, hdg, hmeth', hr, ret, narrow_b1]
  (try refine ⟨rfl, ?_⟩); (try refine ⟨rfl, ?_⟩)
  first | (intro acts; rw [hret _ acts rfl rfl rfl]) | rw [hret _ _ rfl rfl rfl]
  exact Steps.refl _
/-- what holds at the law's entry: the machine, the code, the tables' words (any of lw_tbl by 'hts w (by decide +kernel)'), the script of L ints xs at the cell b, what the Statement gives of the start (any of its parts by flat_of_before) -/
def lw_At (p : Program) (s : State) (m : MethodId) (meth : Method) (c : Code) (b L : Nat) (xs : Nat → Int32) : Prop :=
  p.tables.exec = Jvm.exec ∧ c.code = code ∧ meth.sig.returnType = ret ∧ c.maxLocals = 8 ∧ s.vm.findClass R_law = some m.cls ∧ (∀ w ∈ lw_tbl, w.before #[Value.ref b] s = true) ∧ va_X b L xs s s.heap ∧ b < s.heap.size ∧ meth.locks = false ∧ (Jvm.Cond.and given_1 narrow_1).before #[Value.ref b] s = true
set_option maxRecDepth 100000 in
set_option maxHeartbeats 4000000 in
theorem lz_cast : ∀ C ∈ tx_cs, Cond.castable C C ∈ lw_tbl := by decide +kernel
set_option maxRecDepth 100000 in
set_option maxHeartbeats 4000000 in
theorem lz_decl : ∀ x ∈ tx_ds, Cond.declares x ∈ lw_tbl := by decide +kernel
set_option maxRecDepth 100000 in
set_option maxHeartbeats 4000000 in
theorem lz_str : ∀ q ∈ tx_txt, Cond.stringRef "ValueMethods" q.1 q.2 ∈ lw_tbl := by decide +kernel
set_option maxRecDepth 100000 in
set_option maxHeartbeats 4000000 in
theorem lz_ls : ∀ q ∈ [(Bundle.tN, "UNASSIGNED_STACK", Bundle.steD), (Bundle.tN, "SUPPRESSED_SENTINEL", Bundle.listD), ("ValueMethods", "USUAL_ORDER", "[I"), ("ValueMethods", "TURNED_ORDER", "[I")], Cond.laysStatic q.1 q.2.1 q.2.2 ∈ lw_tbl := by decide +kernel
set_option maxRecDepth 100000 in
set_option maxHeartbeats 4000000 in
theorem lz_ini : Cond.initialized "ValueMethods" ∈ lw_tbl := by decide +kernel
def lz_s : List Cond := flatC (Jvm.Cond.and given_1 narrow_1)
set_option maxRecDepth 100000 in
set_option maxHeartbeats 4000000 in
theorem lz_isr : ∀ q ∈ [(Bundle.tN, "UNASSIGNED_STACK", Bundle.steD), (Bundle.tN, "SUPPRESSED_SENTINEL", Bundle.listD)], Cond.isRef (.static q.1 q.2.1 q.2.2) ∈ lz_s := by decide +kernel
set_option maxRecDepth 100000 in
set_option maxHeartbeats 4000000 in
theorem lz_not : ∀ q ∈ tx_pairs, Cond.not (.castable q.1 q.2) ∈ lz_s := by decide +kernel
set_option maxRecDepth 100000 in
set_option maxHeartbeats 4000000 in
theorem lz_ex : ∀ q ∈ tx_txt, Cond.exactly (.string "ValueMethods" q.1) "java/lang/String" ∈ lz_s := by decide +kernel
set_option maxRecDepth 100000 in
set_option maxHeartbeats 4000000 in
theorem lz_U : Cond.arrayOf (.static "ValueMethods" "USUAL_ORDER" "[I") .int ∈ lz_s ∧ Cond.eq (.length (.static "ValueMethods" "USUAL_ORDER" "[I")) (.int (Int32.ofNat 5)) ∈ lz_s ∧ ∀ j, j < 5 → Cond.eq (.elem (.static "ValueMethods" "USUAL_ORDER" "[I") (.int (Int32.ofNat j))) (.int (nI (sp_u j))) ∈ lz_s := by decide +kernel
set_option maxRecDepth 100000 in
set_option maxHeartbeats 4000000 in
theorem lz_T : Cond.arrayOf (.static "ValueMethods" "TURNED_ORDER" "[I") .int ∈ lz_s ∧ Cond.eq (.length (.static "ValueMethods" "TURNED_ORDER" "[I")) (.int (Int32.ofNat 5)) ∈ lz_s ∧ ∀ j, j < 5 → Cond.eq (.elem (.static "ValueMethods" "TURNED_ORDER" "[I") (.int (Int32.ofNat j))) (.int (nI (sp_t j))) ∈ lz_s := by decide +kernel
def lz_sa (args : Array Value) (s : State) (k : Nat) : Nat := match (Term.string "ValueMethods" k).eval args s none [] s with
  | some (.ref a) => a
  | _ => 0
set_option maxRecDepth 100000 in
set_option maxHeartbeats 4000000 in
theorem lz_L {args : Array Value} {s : State} (ht : ∀ w ∈ lw_tbl, w.before args s = true) (hs : ∀ w ∈ lz_s, w.before args s = true) : tx_L (lz_sa args s) s := by
  intro q hq
  obtain ⟨a, -, -, -, h, -⟩ := Cond.exactly_spec (hs _ (lz_ex q hq))
  refine vk_R.of (ht _ (lz_str q hq)) ?_
  rw [h]
  unfold lz_sa
  rw [h]
set_option maxRecDepth 100000 in
set_option maxHeartbeats 4000000 in
theorem lz_K {args : Array Value} {s : State} (htg : ∀ w ∈ lw_gt, w.before args s = true) : ∃ (dC : Nat → ClassId) (dI : Nat → Nat → Nat) (cJ cI cZ : Nat), va_K (dC, dI) cls_t [(cJ, .long), (cI, .int), (cZ, .boolean)] s := by
  obtain ⟨c0, i0, k0⟩ := u_known htg in_C (htg _ wd_98)
  obtain ⟨c1, i1, k1⟩ := u_known htg in_D (htg _ wd_121)
  obtain ⟨c2, i2, k2⟩ := u_known htg in_L (htg _ wd_66)
  obtain ⟨c3, i3, k3⟩ := u_known htg in_R (htg _ wd_138)
  obtain ⟨c4, i4, k4⟩ := u_known htg in_V (htg _ wd_58)
  obtain ⟨c5, i5, k5⟩ := u_known htg in_M (htg _ wd_637)
  obtain ⟨cJ, kJ, oJ, j1, j2, j3⟩ := Cond.arrayClass_spec (htg _ wd_96)
  obtain ⟨cI, kI, oI, l1, l2, l3⟩ := Cond.arrayClass_spec (htg _ wd_136)
  obtain ⟨cZ, kZ, oZ, z1, z2, z3⟩ := Cond.arrayClass_spec (htg _ wd_119)
  refine ⟨fun k => [c0, c1, c2, c3, c4, c5].getD k c0, fun k => [i0, i1, i2, i3, i4, i5].getD k i0, cJ, cI, cZ, ?_, ?_⟩
  · intro k q hq
    match k, hq with
    | 0, hq => cases hq; exact k0
    | 1, hq => cases hq; exact k1
    | 2, hq => cases hq; exact k2
    | 3, hq => cases hq; exact k3
    | 4, hq => cases hq; exact k4
    | 5, hq => cases hq; exact k5
    | n + 6, hq => exact absurd hq (by simp)
  · intro k q hq
    match k, hq with
    | 0, hq => cases hq; exact ⟨fun N z => ⟨(fun k h => by cases h), kJ, j2, oJ, j3⟩, j1⟩
    | 1, hq => cases hq; exact ⟨fun N z => ⟨(fun k h => by cases h), kI, l2, oI, l3⟩, l1⟩
    | 2, hq => cases hq; exact ⟨fun N z => ⟨(fun k h => by cases h), kZ, z2, oZ, z3⟩, z1⟩
    | n + 3, hq => exact absurd hq (by simp)
set_option maxRecDepth 100000 in
set_option maxHeartbeats 4000000 in
theorem lz_O {args : Array Value} {s : State} (ht : ∀ w ∈ lw_tbl, w.before args s = true) (hs : ∀ w ∈ lz_s, w.before args s = true) : ∃ tU tT : Nat, ev_O tU tT (fun q => s.heap.size ≤ q) s s.heap := by
  have hA : ∀ a : Nat, a < s.heap.size → ¬ (fun q => s.heap.size ≤ q) a := fun a h => Nat.not_le.mpr h
  obtain ⟨tU, u1, u2⟩ := va_Tof (f := fun j => .int (nI (sp_u j))) (A := fun q => s.heap.size ≤ q) (by decide) (hs _ lz_U.1) (va_eqt (hs _ lz_U.2.1)) (fun j hj => va_eqt (hs _ (lz_U.2.2 j hj))) hA
  obtain ⟨tT, t1, t2⟩ := va_Tof (f := fun j => .int (nI (sp_t j))) (A := fun q => s.heap.size ≤ q) (by decide) (hs _ lz_T.1) (va_eqt (hs _ lz_T.2.1)) (fun j hj => va_eqt (hs _ (lz_T.2.2 j hj))) hA
  exact ⟨tU, tT, va_Zof (ht _ (lz_ls ("ValueMethods", "USUAL_ORDER", "[I") (by simp))) (ht _ lz_ini) u1 hA, u2, va_Zof (ht _ (lz_ls ("ValueMethods", "TURNED_ORDER", "[I") (by simp))) (ht _ lz_ini) t1 hA, t2⟩
set_option maxRecDepth 100000 in
set_option maxHeartbeats 4000000 in
theorem lz_E {args : Array Value} {s : State} (ht : ∀ w ∈ lw_tbl, w.before args s = true) (hs : ∀ w ∈ lz_s, w.before args s = true) : tx_E (fun q => s.heap.size ≤ q) s s.heap := by
  have hA : ∀ a : Nat, a < s.heap.size → ¬ (fun q => s.heap.size ≤ q) a := fun a h => Nat.not_le.mpr h
  exact ⟨tx_Z.of (ht _ (lz_ls (Bundle.tN, "UNASSIGNED_STACK", Bundle.steD) (by simp))) (hs _ (lz_isr (Bundle.tN, "UNASSIGNED_STACK", Bundle.steD) (by simp))) hA, tx_Z.of (ht _ (lz_ls (Bundle.tN, "SUPPRESSED_SENTINEL", Bundle.listD) (by simp))) (hs _ (lz_isr (Bundle.tN, "SUPPRESSED_SENTINEL", Bundle.listD) (by simp))) hA, fun C hC => va_Nw.of rfl (ht _ (lz_cast C hC)), fun x hx => va_Nw.of rfl (ht _ (lz_decl x hx))⟩
set_option maxRecDepth 100000 in
set_option maxHeartbeats 4000000 in
theorem lq_fix {p : Program} (l : Launch) {s : State} {m : MethodId} {meth : Method} {c : Code} {b L : Nat} {xs : Nat → Int32} (hfl : l.stackTraces = false) (C0 : lw_At p s m meth c b L xs) : ∃ (dC : Nat → ClassId) (dI : Nat → Nat → Nat) (cJ cI cZ tU tT : Nat) (sa : Nat → Nat), lq_F p l s m meth c b L xs dC dI cJ cI cZ tU tT sa (fun q => s.heap.size ≤ q) := by
  obtain ⟨hx, hb, hr, hml, hown, hts, hX, hbl, hlocks, hgv⟩ := C0
  have htg : ∀ w ∈ lw_gt, w.before #[Value.ref b] s = true := fun w h => hts w (lw_gtl w h)
  have hs : ∀ w ∈ lz_s, w.before #[Value.ref b] s = true := flat_of_before _ hgv
  obtain ⟨dC, dI, cJ, cI, cZ, hK⟩ := lz_K htg
  obtain ⟨tU, tT, hO⟩ := lz_O hts hs
  exact ⟨dC, dI, cJ, cI, cZ, tU, tT, lz_sa #[Value.ref b] s, hx, hb, hml, hown, htg, hK, hO, lz_E hts hs, lz_L hts hs, fun q hq => va_Nc.of (hs _ (lz_not q hq)), hX, hbl, fun q h => h, Nat.not_le.mpr hbl, hfl, hr, hlocks⟩
