/-! The end 'thrown' of a method that has written: its contract, its end, its call. -/
theorem tx_nst {D : va_G} {cl : List vw_C} {ws : va_W} {H : Heap} (h : va_P D cl ws H) {q : Nat} (hq : va_A ws H.size q) {cell : Cell} (hc : H[q]? = some cell) : cell.vm.isStatics = false := by
  rcases hq with ⟨k, e, hk⟩ | hq
  · have h1 := h k _ hk
    cases e with
    | inl a =>
      have h2 : H[q]? = some (vp_cell a.1 a.2) := h1
      cases hc.symm.trans h2
      unfold vp_cell
      split <;> rfl
    | inr o =>
      obtain ⟨r, -, c9, h2, -, h3, -⟩ := h1
      cases hc.symm.trans h2
      rw [h3]; rfl
  · rw [Array.getElem?_eq_none hq] at hc
    cases hc
def tx_QW {Su : Type} (cls : String) (B : Su → State → Prop) (A : Nat → Prop) : Array Value → State → Outcome → State → Prop := fun _ st o t => ∃ (q : Addr) (ce : Cell) (u : Su) (L : List Loc), o = .threw q ∧ t.heap[q]? = some ce ∧ ce.vm = .none ∧ st.vm.findClass cls = some ce.cls ∧ st.WarmedH t.vm ∧ st.sameButNew ({ t with vm := st.vm } : State) L 1 6 ∧ (∀ x ∈ L, A x.base) ∧ va_F A st t ∧ B u t
def tx_MW {Su : Type} (l : Launch) (y : MethodName) (ws : List Cond) (rm : Room) (Pc : Array Value → State → Prop) (cls : String) (B : Su → State → Prop) (A : Nat → Prop) : Prop := MetFree l y (headSpec ws rm) Pc (fun _ _ _ _ _ => True) (tx_QW cls B A)
theorem tx_ofQ {l : Launch} {y : MethodName} {ws ws' : List Cond} {rm : Room} {Pc : Array Value → State → Prop} {Qt : Array Value → State → Outcome → State → Prop} {cc : ByteArray} {maxL : Nat} {ret : Option FieldType} (hy : plainName y.cls = true) (hw : ws = Cond.code y cc maxL ret :: ws')
    (body : ∀ p e s m args below meth c s₁, BodyLoose p l y (headSpec ws rm) cc maxL ret e s m args below meth c s₁ → c.maxLocals = maxL → c.exceptionTable.toList = [] → Pc args s → W p l e (headSpec ws rm).room s m args below meth c s.heap [] 0 0 (fun t => ∃ o, t.status = .running ∧ Ended t below o ∧ Qt args s o t) (entryFrame m args maxL)) : MetFree l y (headSpec ws rm) Pc (fun _ _ _ _ _ => True) Qt := by
  refine MetFree.of_bodyS (code := cc) (maxLocals := maxL) (ret := ret) hy ?_ ?_
  · intro args s m h hn
    obtain ⟨meth, c, h1, h2, h3, h4, h5, h6, -, -⟩ := Cond.code_spec hn (atoms_spec (ws := ws) h _ (by rw [hw]; exact List.mem_cons_self))
    exact ⟨meth, c, h1, h2, h3, h4, h5, h6⟩
  · intro p e s m args below meth c s₁ B hml hP _
    have hh0 : s₁.heap = s.heap := by rw [B.state]; rfl
    have ht : c.exceptionTable.toList = [] := by
      obtain ⟨meth', c', h1, h2, -, -, -, -, h7, -⟩ := Cond.code_spec B.named (atoms_spec (ws := ws) B.pre _ (by rw [hw]; exact List.mem_cons_self))
      cases B.method.symm.trans h1
      cases (Stand.of_body B).code.symm.trans h2
      simpa using h7
    obtain ⟨t, a1, o, b1, b2, b3⟩ := body p e s m args below meth c s₁ B hml ht hP s₁ hh0 (Stand.of_body B)
    exact ⟨t, o, a1, b1, b2, b3⟩
section TXv
variable {p : Program} {l : Launch} {e : Env} {R : Room} {s : State} {m : MethodId} {args : Array Value} {below : List Frame} {meth : Method} {c : Code} {H : Heap} {locs : List Loc} {D : va_G} {cl : List vw_C} {ws : va_W} {tys : List (ClassId × FieldType)} {A : Nat → Prop}
/-- the throw of NoSuchElementException behind writes -/
theorem tx_throwN {Su : Type} {w1 : Su → va_W} (u : Su) {cc : ByteArray} {pc : Nat} {ls : Array Slot} {text : String} {ik is sa : Nat} (hexec : p.tables.exec = Jvm.exec) (hb : c.code = cc) (hfl : l.stackTraces = false) (hown : s.vm.findClass "ValueMethods" = some m.cls) (hk : (Cond.classLink "ValueMethods" ik tx_nN).before args s = true) (hini : (Cond.initialized tx_nN).before args s = true) (hins : (Cond.instantiable tx_nN 6).before args s = true) (hstr : vk_R "ValueMethods" is text sa s) (hat : ∀ w ∈ tx_nat "ValueMethods" 161 tx_nN tx_rN 13 tx_n13 ["java/lang/Exception"], w.before args s = true)
    (hns : ∀ q, A q → ∀ cell, s.heap[q]? = some cell → cell.vm.isStatics = false) (hA : ∀ q, s.heap.size ≤ q → A q) (hK : va_K D cl tys s) (hP : va_P D cl (w1 u) H) (hD : va_D A (w1 u)) (hS : va_S A s.heap H locs)
    (hsize : ls.size = c.maxLocals) (d0 : decode cc pc = .ok (.new ik, 3)) (d3 : decode cc (pc + 3) = .ok (.dup, 1)) (d4 : decode cc (pc + 4) = .ok (.ldc is, 2)) (d6 : decode cc (pc + 6) = .ok (.invokespecial 161, 3)) (d9 : decode cc (pc + 9) = .ok (.athrow, 1)) (htab : c.exceptionTable.toList = [])
    (hRf : 6 < R.frames) (hRl : 100 ≤ R.locals) (hRc : 1 ≤ R.cells) (hRs : 6 ≤ R.slots) (hlocks : meth.locks = false) : W p l e R s m args below meth c H locs 0 0 (fun t => ∃ o, t.status = .running ∧ Ended t below o ∧ tx_QW tx_nN (qv_post D cl w1 tys A) A args s o t) (F0 m pc ls []) := by
  refine W.newc hexec hb hown hk hins hini rfl d0 (by omega) (by omega) (fun cC kC hcC hkC hord hsz => ?_)
  refine W.eq (g2 := F0 m (pc + 3) ls (.ref H.size :: [])) rfl ?_
  refine lv_dup hexec hb d3 rfl ?_
  refine va_ldcS hexec hb hown hstr d4 ?_
  intro T hT X
  have htr : e.platform.stackTraces = false := (show e.platform.stackTraces = l.stackTraces by rw [X.admits.platform]).trans hfl
  obtain ⟨U, hsteps, hrun, hend, hW, hsame, ⟨ce, hce, hcv, hcc⟩, hz, hq⟩ := tx_ctor X hexec htr hown (cls := tx_nN) (Y := tx_rN) (by decide) (by decide) (names := ["java/lang/Exception"]) (by decide) tx_n0 tx_n1 tx_n2 tx_n5 hat (fun x hx cell hcl => hns _ (hS.2.2 x hx) cell hcl) (a := H.size) hcC hkC (by rw [hT]; simp [freshCell]) hS.1 (msg := .ref sa) rfl (g := F0 m (pc + 4 + 2) ls (.ref sa :: .ref H.size :: .ref H.size :: [])) rfl hsize rfl rfl rfl (by rw [hb]; exact d6) (by rw [hb]; exact d9) (by rw [htab]; exact fun x hx => nomatch hx) (by show 1 + 4 < _; omega) (by show 2 * 0 + (1 + 0) + (13 * (1 + 2) + 42) ≤ _; omega) hlocks
  have hk9 : ∀ q : Nat, q < H.size → U.heap[q]? = H[q]? := fun q h9 => by
    rw [hq q (by omega), hT]
    exact Array.getElem?_push_lt h9 |>.trans (Array.getElem?_eq_getElem h9).symm
  have hz9 : H.size ≤ U.heap.size := by rw [hz, hT]; simp
  refine ⟨U, hsteps, .threw H.size, hrun, hend, H.size, ce, u, locs, rfl, hce, hcv, hcc, hW, hsame, hS.2.2, ⟨Nat.le_trans hS.1 hz9, fun q h1 h2 => ?_⟩, ?_, va_K.moved hW.alike hK, hD⟩
  · rw [hk9 q (Nat.lt_of_lt_of_le h1 hS.1)]
    exact hS.2.1 q h1 h2
  · exact hP.kept (fun k q hk => hk9 _ (hP k q hk).lt)
end TXv
section TXw
variable {p : Program} {l : Launch} {e : Env} {R : Room} {s : State} {m : MethodId} {args : Array Value} {below : List Frame} {meth : Method} {c : Code} {H : Heap} {locs : List Loc} {cells slots : Nat} {Q : State → Prop}
theorem tx_callW {Su : Type} {B : Su → State → Prop} {A2 : Nat → Prop} {pc : Nat} {ls : Array Slot} {rest st0 As : List Value} {cc bytes : ByteArray} {Ts w9 : List Cond} {own C cls : String} {y : MethodName} {rm : Room} {index maxL nL n b : Nat} {ret : Option FieldType} {Pc : Array Value → State → Prop} (S : CallFix p m c cc nL s args Ts own) (hM : tx_MW l y w9 rm Pc cls B A2) (cw : CallW R s args own C index y bytes maxL ret w9 rm 1 6 n) (hp : PreV s H C b Pc As)
    (hn : As.length = n) (hsize : ls.size = nL) (hst : st0 = As.reverse ++ .ref b :: rest) (hW : (rest.map fun v => v.category).sum ≤ 8) (hdg : decode cc pc = .ok (.invokevirtual index, 3)) (hf : cells + 1 ≤ R.cells ∧ slots + 6 ≤ R.slots)
    (pre : List ExceptionTableEntry) (x : ExceptionTableEntry) (suf : List ExceptionTableEntry) (hsplit : c.exceptionTable.toList = pre ++ x :: suf) (hpass : ∀ z ∈ pre, covers z pc = false ∨ (z.catchType ≠ 0 ∧ ∃ nm : String, (Cond.classLink own z.catchType nm).before args s = true ∧ va_Nc cls nm s)) (hcov : covers x pc = true) (h0 : x.catchType ≠ 0)
    (hlink : (Cond.classLink own x.catchType cls).before args s = true) (hcast : (Cond.castable cls cls).before args s = true)
    (kk : ∀ (q : Nat) (u : Su) (t : State) (L : List Loc), B u t → (∀ x ∈ L, A2 x.base) → H.size ≤ t.heap.size → (∀ a : Nat, a < H.size → ¬ A2 a → t.heap[a]? = H[a]?) → W p l e R s m args below meth c t.heap (locs ++ L) (cells + 1) (slots + 6) Q (F0 m x.handlerPc ls [.ref q])) : W p l e R s m args below meth c H locs cells slots Q (F0 m pc ls st0) := by
  obtain ⟨⟨hrc, hrs, hfr, hlo, hws, hcw, hcode, hini, hy, hlen, hl⟩, hin, hse⟩ := cw
  obtain ⟨hx, hb, hml, ho, -⟩ := S
  obtain ⟨hbl, ⟨cellB, hcB, hoB, hclB⟩, hPc⟩ := hp
  intro T hT X
  have hpl : e.platform.magicAccessors = ({} : Platform).magicAccessors := by rw [X.admits.platform]
  obtain ⟨mk, methM, hnamed, hmethM, hstM, habM⟩ := Cond.instanceMethod_spec hin
  obtain ⟨methM', cM, hmethM', -, -, -, -, -, -, hsigM⟩ := Cond.code_spec hnamed hcode
  cases hmethM.symm.trans hmethM'
  obtain ⟨c2, r2, m2, q1, q2, q3, q4, kP, hkP, hkPi⟩ := Cond.selects_spec hse
  cases hclB.symm.trans q1
  cases (State.methodFound?_of_named hnamed hy).symm.trans q2
  cases hnamed.symm.trans q3
  have hselP : selectMethod e.platform s.vm cellB.cls mk = .method mk := by rw [Launch.admits_selectMethod X.admits]; exact q4
  have hdg' : decode c.code pc = .ok (.invokevirtual index, 3) := by rw [hb]; exact hdg
  obtain ⟨vm₁, X₁, hstep₁⟩ := X.invokevirtual hx ho hl hnamed hmethM hstM hkP hkPi hy (a := b) (cell := cellB) (by rw [hT]; exact hcB)
    (fun z h => by rw [h] at hoB; cases hoB) hselP hmethM habM hkP hkPi (g := F0 m pc ls st0) rfl (argsL := As) (rest := rest) (hn.trans (hlen _ hsigM)) hst hdg'
  obtain ⟨U, hU⟩ : ∃ U, U = T.setVm vm₁ := ⟨_, rfl⟩
  rw [← hU] at X₁
  have hUh : U.heap = H := by rw [hU]; exact hT
  have hnU : U.methodNamed? y = some mk := X₁.named hnamed
  obtain ⟨kY, hkY, -⟩ := className_of_methodNamed hnU
  obtain ⟨methY, cY, hmY, hcY, -, hlY, -, -, -, -⟩ := Cond.code_spec hnU (hws _ hcw (Value.ref b :: As).toArray U X₁.warmed)
  have hiniU : (Cond.initialized y.cls).before (Value.ref b :: As).toArray U = true := word_at X₁.warmed (Or.inl (by first | rfl | simp [Cond.onTables, Cond.keeps, Cond.steady])) hini
  have hinitY : kY.init = .initialized := Cond.initialized_spec (findClass_of_methodNamed hnU) hkY hiniU
  have hA : At U (F0 m pc ls rest).method c below := X₁.here
  have happ : (headSpec w9 rm).appliesLoose y e.platform (U.calling (F0 m pc ls rest) mk (Value.ref b :: As).toArray) = true :=
    Spec.appliesLoose_calling (g := F0 m pc ls rest) hA hdg' hnU hkY hinitY
      (X₁.room_calling (g := F0 m pc ls rest) (R' := rm) (hsize.trans hml.symm) hmY hcY hfr (by rw [hlY]; show 2 * 0 + (rest.map fun v => v.category).sum + (maxL + 11) + rm.locals ≤ _; omega) (by rw [hrc]; exact hf.1) (by rw [hrs]; exact hf.2)) (atoms_intro fun w hw => hws w hw _ _ X₁.warmed)
  obtain ⟨mid, hmid⟩ := hA.above
  have hfrm : (U.setTop (F0 m pc ls rest)).frames = (.java (F0 m pc ls rest) :: mid) ++ below := by rw [State.frames_setTop' _ hA.top, hmid]; rfl
  obtain ⟨o, s₂, hsteps, -, hend, q, ce, u, L, rfl, hce, hcv, hcc, hWt, hsame, hLA, hF, hB⟩ := Steps.callFree hM p X.admits X.cas X.clock (acts := []) hfrm happ (hbl _ _ _ _ (hPc U hUh X₁.warmed)) trivial
  obtain ⟨g₀, hg0⟩ := Option.isSome_iff_exists.mp hA.top
  obtain ⟨r, hr⟩ := State.topJava?_eq_some.mp hg0
  have hfe : s₂.frames = .throwing q :: (U.setTop (F0 m pc ls rest)).frames := hend
  obtain ⟨e2, q2, q3, q4, q5, q6⟩ := id hsame
  have hWU : U.WarmedH s₂.vm := hWt
  have e3 : s₂ = ({ (U.calling (F0 m pc ls rest) mk (Value.ref b :: As).toArray).setFrames s₂.frames with heap := s₂.heap, slotsUsed := s₂.slotsUsed } : State).setVm s₂.vm := by
    have : s₂ = ({ s₂ with vm := (U.calling (F0 m pc ls rest) mk (Value.ref b :: As).toArray).vm } : State).setVm s₂.vm := rfl
    rw [show ({ s₂ with vm := (U.calling (F0 m pc ls rest) mk (Value.ref b :: As).toArray).vm } : State) = _ from e2] at this
    exact this
  have hs₂ : s₂ = ((({ U with heap := s₂.heap, slotsUsed := s₂.slotsUsed } : State).setVm s₂.vm).setTop (F0 m pc ls rest)).pushFrame (.throwing q) := by
    have hr' : (({ U with heap := s₂.heap, slotsUsed := s₂.slotsUsed } : State).setVm s₂.vm).frames = .java g₀ :: r := hr
    refine e3.trans ?_
    rw [hfe, State.frames_setTop' _ hA.top, State.calling_eq hA.top, State.setFrames_setFrames, State.setTop_of_frames _ hr', hr]
    have hz : (({ U with heap := s₂.heap, slotsUsed := s₂.slotsUsed } : State).setVm s₂.vm).setFrames (.java (F0 m pc ls rest) :: r) = (({ U with heap := s₂.heap, slotsUsed := s₂.slotsUsed } : State).setVm s₂.vm).setTop (F0 m pc ls rest) := (State.setTop_of_frames _ hr').symm
    rw [State.pushFrame, hz, State.frames_setTop _ hr', ← hz, State.setFrames_setFrames]
    rfl
  obtain ⟨T', hT'⟩ : ∃ T' : State, T' = ({ U with heap := s₂.heap, slotsUsed := s₂.slotsUsed } : State).setVm s₂.vm := ⟨_, rfl⟩
  rw [← hT'] at hs₂
  have hsU : U.sameButNew ({ U with heap := s₂.heap, slotsUsed := s₂.slotsUsed } : State) L 1 6 := by
    refine ⟨?_, q2, q3, q4, q5, q6⟩
    obtain ⟨t, ht, -⟩ := State.frames_cons hr
    show ({ U with heap := s₂.heap, slotsUsed := s₂.slotsUsed } : State) = { U.setFrames U.frames with heap := s₂.heap, slotsUsed := s₂.slotsUsed }
    rw [State.setFrames_self ht]
  have X' : Stand p l e R s m args below meth c T' (locs ++ L) (cells + 1) (slots + 6) := by
    rw [hT']
    exact ⟨X₁.admits, X₁.cas, X₁.clock, X₁.frames, X₁.room, X₁.hears, X₁.method, X₁.code, (X₁.here.setHeapUsed s₂.heap s₂.slotsUsed).setVm hWU.alike, X₁.tail, State.WarmedH.trans X₁.warmed hWU, X₁.limits, X₁.bytes, X₁.same.trans (hsU.setVm s.vm)⟩
  have hce' : T'.heap[q]? = some ce := by rw [hT']; exact hce
  obtain ⟨c3, cT, hc3, hcT, hasg⟩ := Cond.castable_spec hcast
  have hcc' : s.vm.findClass cls = some ce.cls := by
    have h1 : U.vm.findClass cls = some ce.cls := hcc
    rw [X₁.warmed.alike.findClass] at h1
    exact h1
  cases hc3.symm.trans hcc'
  obtain ⟨c', hc', hcl⟩ := Cond.classLink_spec ho hlink e.platform hpl
  cases hcT.symm.trans hc'
  obtain ⟨dk, _, _, kt, hd, _, _, _, _, hkt, _, hopen⟩ := hcl.here
  have hk0 := Vm.classAt_of_assignable hasg ⟨kt, hkt⟩
  have hps : ∀ z ∈ pre, tx_ps e.platform s m.cls pc ce.cls z := by
    intro z hz
    rcases hpass z hz with h | ⟨hz0, nm, hl1, hno⟩
    · exact Or.inl h
    · obtain ⟨cz, hcz, hclz⟩ := Cond.classLink_spec ho hl1 e.platform hpl
      obtain ⟨c5, t5, f1, f2, f3⟩ := hno
      cases hcc'.symm.trans f1
      cases hcz.symm.trans f2
      exact Or.inr ⟨hz0, cz, hclz, f3⟩
  have hHe : T'.heap = s₂.heap := by rw [hT']; rfl
  have hold2 : H.size ≤ s₂.heap.size ∧ ∀ a : Nat, a < H.size → ¬ A2 a → s₂.heap[a]? = H[a]? := by
    rw [← hUh]
    exact hF
  have hfin : ∃ vm' : Vm, Stand p l e R s m args below meth c (T'.setVm vm') (locs ++ L) (cells + 1) (slots + 6) ∧ ∀ target, Steps p.tables e below ((T'.setVm vm').setTop (F0 m x.handlerPc ls [.ref q])) target → Steps p.tables e below ((T'.setTop (F0 m pc ls rest)).pushFrame (.throwing q)) target := tx_caught X' q (g := F0 m pc ls rest) rfl hce' (fun k => by rw [hcv]; exact nofun) hk0 pre x suf hsplit hps hcov h0 hcl hasg
  obtain ⟨vm', X9, hst9⟩ := hfin
  obtain ⟨t, ht, hQt⟩ := kk q u s₂ L hB hLA hold2.1 hold2.2 (T'.setVm vm') hHe X9
  refine ⟨t, ?_, hQt⟩
  rw [hU] at hsteps
  refine hstep₁ _ (fun acts => ?_)
  rw [doInvoke_state]
  rw [doInvoke_state] at hsteps
  refine hsteps.trans ?_
  rw [hs₂]
  exact hst9 _ ht
end TXw
def tx_preO (tU tT : Nat) (sa : Nat → Nat) (D : va_G) (cl : List vw_C) (ws : va_W) (tys : List (ClassId × FieldType)) (sz : Nat) : State → Prop := fun U => qv_preO tU tT D cl ws tys sz U ∧ tx_E (va_A ws sz) U U.heap ∧ tx_L sa U
theorem tx_fbO {tU tT : Nat} {sa : Nat → Nat} {D : va_G} {cl : List vw_C} {ws : va_W} {tys : List (ClassId × FieldType)} {sz : Nat} {av : List Value} : FrameBlind (va_Pc av (tx_preO tU tT sa D cl ws tys sz)) := fun a U g mk q => by
  obtain ⟨q0, ⟨⟨q1, qP, qK, qD⟩, h1, h2, h3, h4⟩, qE, qL⟩ := q
  have hW : U.vm.Alike (U.calling g mk a).vm := Vm.Alike.refl U.vm
  exact ⟨q0, ⟨⟨q1, qP, va_K.moved (u := U) hW qK, qD⟩, h1.moved hW, h2.moved hW, h3.moved hW, h4.moved hW⟩, tx_E.same (u := U) rfl qE, tx_L.same (u := U) rfl qL⟩
