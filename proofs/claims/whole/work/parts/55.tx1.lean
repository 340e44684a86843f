/-! A method that throws: what it needs of the start (the two statics of Throwable, some words that aren't of the good ones), and the row 'throw new E("text")' of a method that has written nothing. My own rows over the library's ctorThrowS. -/
def tx_Z (n d : String) (A : Nat → Prop) (U : State) (H : Heap) : Prop := ∃ (c : ClassId) (k : Class) (i : Nat) (f : Field) (a : Nat) (cell : Cell) (v : Value), U.vm.findClass Bundle.tN = some c ∧ U.fieldFound? Bundle.tN n d = some (c, k, i, f) ∧ f.isStatic = true ∧ k.statics = some a ∧ H[a]? = some cell ∧ cell.vm.isStatics = true ∧ cell.cls = c ∧ f.slot < cell.slots.size ∧ k.staticTypes[f.slot]? = some f.type ∧ cell.slots[f.slot]? = some v ∧ v.isRef = true ∧ ¬ A a
theorem tx_Z.moved {n d : String} {A : Nat → Prop} {u U : State} {H : Heap} (hvm : u.vm.Alike U.vm) (h : tx_Z n d A u H) : tx_Z n d A U H := by
  obtain ⟨c, k, i, f, a, cell, v, h0, h1, h2, h3, h4, h5, h6, h7, h8, h9⟩ := h
  obtain ⟨k', hi', he⟩ := State.fieldFound?_setVm hvm h1
  exact ⟨c, k', i, f, a, cell, v, by rw [hvm.findClass]; exact h0, hi', h2, by rw [he]; exact h3, h4, h5, h6, h7, by rw [he]; exact h8, h9⟩
theorem tx_Z.kept {n d : String} {A : Nat → Prop} {U : State} {H H1 : Heap} (h : tx_Z n d A U H) (hq : ∀ a : Nat, a < H.size → ¬ A a → H1[a]? = H[a]?) : tx_Z n d A U H1 := by
  obtain ⟨c, k, i, f, a, cell, v, h0, h1, h2, h3, h4, h5, h6, h7, h8, h9, h10, h11⟩ := h
  exact ⟨c, k, i, f, a, cell, v, h0, h1, h2, h3, by rw [hq a (Array.getElem?_eq_some_iff.mp h4).1 h11]; exact h4, h5, h6, h7, h8, h9, h10, h11⟩
theorem tx_Z.narrow {n d : String} {A B : Nat → Prop} {U : State} {H : Heap} (h : tx_Z n d A U H) (hAB : ∀ q, B q → A q) : tx_Z n d B U H := by
  obtain ⟨c, k, i, f, a, cell, v, h0, h1, h2, h3, h4, h5, h6, h7, h8, h9, h10, h11⟩ := h
  exact ⟨c, k, i, f, a, cell, v, h0, h1, h2, h3, h4, h5, h6, h7, h8, h9, h10, fun q => h11 (hAB _ q)⟩
theorem tx_Z.lays {n d : String} {A : Nat → Prop} {s : State} {args : Array Value} (h : tx_Z n d A s s.heap) : (Cond.laysStatic Bundle.tN n d).before args s = true := by
  obtain ⟨c, k, i, f, a, cell, v, h0, h1, h2, h3, h4, h5, h6, h7, h8, h9, h10, h11⟩ := h
  simp [Cond.before, Cond.holds, Cond.value, h0, h1, h2, h3, h4, h5, h6, h7, h8]
theorem tx_Z.isr {n d : String} {A : Nat → Prop} {s : State} {args : Array Value} (h : tx_Z n d A s s.heap) : (Cond.isRef (.static Bundle.tN n d)).before args s = true := by
  obtain ⟨c, k, i, f, a, cell, v, h0, h1, h2, h3, h4, h5, h6, h7, h8, h9, h10, h11⟩ := h
  have hv : (Term.static Bundle.tN n d).eval args s none [] s = some v := by
    simp [Term.eval, State.fieldNamed?, h1, h2, h3, h4, h5, h9]
  have hm : (Cond.isRef (.static Bundle.tN n d)).before args s = v.isRef := by
    simp only [Cond.before, Cond.holds, Cond.value, hv]
    cases v <;> rfl
  rw [hm]; exact h10
theorem tx_Z.of {n d : String} {A : Nat → Prop} {s : State} {args : Array Value} (hl : (Cond.laysStatic Bundle.tN n d).before args s = true) (hr : (Cond.isRef (.static Bundle.tN n d)).before args s = true) (hA : ∀ a : Nat, a < s.heap.size → ¬ A a) : tx_Z n d A s s.heap := by
  obtain ⟨c, k, i, f, a, cell, hc, hi, hst, ha, hcell, hs, hcls, hlt, hty⟩ := Cond.laysStatic_spec hl
  cases hv : (Term.static Bundle.tN n d).eval args s none [] s with
  | none => simp [Cond.before, Cond.holds, Cond.value, hv] at hr
  | some w =>
    obtain ⟨hst', a', cell', ha', hcell', -, hslot⟩ := Term.static_spec hi hv
    cases ha.symm.trans ha'
    cases hcell.symm.trans hcell'
    refine ⟨c, k, i, f, a, cell, w, hc, hi, hst, ha, hcell, hs, hcls, hlt, hty, hslot, ?_, hA a (Array.getElem?_eq_some_iff.mp hcell).1⟩
    have hm : (Cond.isRef (.static Bundle.tN n d)).before args s = w.isRef := by
      simp only [Cond.before, Cond.holds, Cond.value, hv]
      cases w <;> rfl
    rw [← hm]; exact hr
/-- the words of the throws that aren't good ones -/
def tx_cs : List String := ["java/lang/IllegalArgumentException", "java/lang/IllegalStateException", "java/lang/IndexOutOfBoundsException", "java/util/NoSuchElementException", "java/lang/ArithmeticException"]
def tx_ds : List MethodName := [⟨"java/lang/RuntimeException", "<init>", "(Ljava/lang/String;)V"⟩, ⟨"java/lang/Exception", "<init>", "(Ljava/lang/String;)V"⟩, ⟨"java/lang/Throwable", "<init>", "(Ljava/lang/String;)V"⟩]
/-- what a throw needs of a state -/
def tx_E (A : Nat → Prop) (U : State) (H : Heap) : Prop := tx_Z "UNASSIGNED_STACK" Bundle.steD A U H ∧ tx_Z "SUPPRESSED_SENTINEL" Bundle.listD A U H ∧ (∀ C ∈ tx_cs, va_Nw (.castable C C) U) ∧ (∀ x ∈ tx_ds, va_Nw (.declares x) U)
theorem tx_E.at {A B : Nat → Prop} {s U : State} {H : Heap} {locs : List Loc} (h : tx_E A s s.heap) (hS : va_S A s.heap H locs) (hB : ∀ q, B q → A q) (hW : s.WarmedH U.vm) : tx_E B U H :=
  ⟨((h.1.kept hS.2.1).moved hW.alike).narrow hB, ((h.2.1.kept hS.2.1).moved hW.alike).narrow hB, fun C hC => va_Nw.warmC hW (h.2.2.1 C hC), fun x hx => va_Nw.warmD hW (h.2.2.2 x hx)⟩
/-- the chain above the five exceptions -/
def tx_up : List String := ["java/lang/RuntimeException", "java/lang/Exception"]
/-- every word of a throw of cls by the constructor at ic of ValueMethods -/
def tx_okw (ic : Nat) (cls : String) : Prop := ∀ w ∈ Bundle.ownAtoms "ValueMethods" ic cls tx_up, w ∈ lw_gt ∨ (∃ C ∈ tx_cs, w = .castable C C) ∨ (∃ x ∈ tx_ds, w = .declares x) ∨ w = .laysStatic Bundle.tN "UNASSIGNED_STACK" Bundle.steD ∨ w = .laysStatic Bundle.tN "SUPPRESSED_SENTINEL" Bundle.listD ∨ w = .isRef (.static Bundle.tN "UNASSIGNED_STACK" Bundle.steD) ∨ w = .isRef (.static Bundle.tN "SUPPRESSED_SENTINEL" Bundle.listD)
set_option maxRecDepth 100000 in
theorem tx_w82 : tx_okw 82 "java/lang/IllegalArgumentException" := by unfold tx_okw; decide +kernel
set_option maxRecDepth 100000 in
theorem tx_w93 : tx_okw 93 "java/lang/IllegalStateException" := by unfold tx_okw; decide +kernel
set_option maxRecDepth 100000 in
theorem tx_w156 : tx_okw 156 "java/lang/IndexOutOfBoundsException" := by unfold tx_okw; decide +kernel
set_option maxRecDepth 100000 in
theorem tx_w189 : tx_okw 189 "java/lang/ArithmeticException" := by unfold tx_okw; decide +kernel
theorem tx_okw.all {ic : Nat} {cls : String} {A : Nat → Prop} {s : State} {args : Array Value} (h : tx_okw ic cls) (hts : ∀ w ∈ lw_gt, w.before args s = true) (hE : tx_E A s s.heap) : ∀ w ∈ Bundle.ownAtoms "ValueMethods" ic cls tx_up, w.before args s = true := by
  intro w hw
  rcases h w hw with q | ⟨C, hC, rfl⟩ | ⟨x, hx, rfl⟩ | rfl | rfl | rfl | rfl
  · exact hts w q
  · exact va_Nw.use (by rfl) (hE.2.2.1 C hC)
  · exact va_Nw.use (by rfl) (hE.2.2.2 x hx)
  · exact hE.1.lays
  · exact hE.2.1.lays
  · exact hE.1.isr
  · exact hE.2.1.isr
