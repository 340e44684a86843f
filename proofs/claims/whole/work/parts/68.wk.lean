/-! The law's eight wrappers (a method with a table of handlers): their bodies, the calls in them, and the call of them. -/
def tx_pairs : List (String × String) := [("java/lang/IllegalStateException", "java/lang/IllegalArgumentException"), ("java/util/NoSuchElementException", "java/lang/IndexOutOfBoundsException"), ("java/lang/IllegalArgumentException", "java/lang/IndexOutOfBoundsException"), ("java/lang/ArithmeticException", "java/lang/IndexOutOfBoundsException"), ("java/lang/ArithmeticException", "java/lang/IllegalArgumentException")]
def tx_N (U : State) : Prop := ∀ q ∈ tx_pairs, va_Nc q.1 q.2 U
theorem tx_N.moved {u U : State} (hW : u.vm.Alike U.vm) (h : tx_N u) : tx_N U := fun q hq => va_Nc.moved hW (h q hq)
def tx_preW (tU tT : Nat) (sa : Nat → Nat) (D : va_G) (cl : List vw_C) (ws : va_W) (tys : List (ClassId × FieldType)) (sz : Nat) : State → Prop := fun U => tx_preO tU tT sa D cl ws tys sz U ∧ tx_N U
theorem tx_fbW {tU tT : Nat} {sa : Nat → Nat} {D : va_G} {cl : List vw_C} {ws : va_W} {tys : List (ClassId × FieldType)} {sz : Nat} {av : List Value} : FrameBlind (va_Pc av (tx_preW tU tT sa D cl ws tys sz)) := fun a U g mk q => by
  obtain ⟨q0, q1, q2⟩ := q
  obtain ⟨-, h⟩ := tx_fbO (av := av) a U g mk ⟨q0, q1⟩
  exact ⟨q0, h, tx_N.moved (Vm.Alike.refl U.vm) q2⟩
theorem tx_tab : ∀ (es : List ExceptionTableEntry) (hh : List (Nat × Nat × Nat × Nat)), es.map (fun h => (h.startPc, h.endPc, h.handlerPc, h.catchType)) = hh → es = hh.map (fun q => ⟨q.1, q.2.1, q.2.2.1, q.2.2.2⟩)
  | [], _, h => by subst h; rfl
  | x :: es, hh, h => by
    subst h
    have := tx_tab es _ rfl
    simp only [List.map_cons]
    rw [← this]
theorem tx_MetW {l : Launch} {y : MethodName} {ws ws' : List Cond} {rm : Room} {Pc : Array Value → State → Prop} {Qc : Array Value → State → Outcome → State → Prop} {mc ms : Nat} {free : Addr → Prop} {cc : ByteArray} {maxL : Nat} {ret : Option FieldType} {hh : List (Nat × Nat × Nat × Nat)}
    (hy : plainName y.cls = true) (hw : ws = Cond.codeWith y cc maxL ret hh :: ws')
    (body : ∀ p e s m args below meth c s₁, BodyLoose p l y (headSpec ws rm) cc maxL ret e s m args below meth c s₁ → c.maxLocals = maxL → c.exceptionTable.toList = hh.map (fun q => ⟨q.1, q.2.1, q.2.2.1, q.2.2.2⟩) → Pc args s →
      W p l e (headSpec ws rm).room s m args below meth c s.heap [] 0 0 (MQ below Qc args s mc ms free) (entryFrame m args maxL)) : Met l y ws rm Pc Qc mc ms free := by
  refine va_MetW (hh := hh) hy hw ?_
  intro p e s m args below meth c s₁ B hml hP
  refine body p e s m args below meth c s₁ B hml ?_ hP
  obtain ⟨m9, meth', c', hn9, h1, h2, -, -, h3, -⟩ := Cond.codeWith_spec (atoms_spec (ws := ws) B.pre _ (by rw [hw]; exact List.mem_cons_self))
  cases B.named.symm.trans hn9
  cases B.method.symm.trans h1
  cases (Stand.of_body B).code.symm.trans h2
  exact tx_tab _ _ h3
section TXk
variable {p : Program} {l : Launch} {e : Env} {R : Room} {s : State} {m : MethodId} {args : Array Value} {below : List Frame} {meth : Method} {c : Code} {H H0 : Heap} {locs : List Loc} {cells slots : Nat} {Q : State → Prop}
variable {pc : Nat} {ls : Array Slot} {rest st0 As : List Value} {cc bytes : ByteArray} {D : va_G} {cl : List vw_C} {ws wc wr : va_W} {tys : List (ClassId × FieldType)} {Ts w9 w8 : List Cond} {own C cls : String} {y : MethodName} {rm : Room} {index maxL nL n b ci N tU tT mc ms : Nat} {ret : Option FieldType} {T : u_T} {fs : List Value} {A : Nat → Prop} {sa : Nat → Nat} {hh : List (Nat × Nat × Nat × Nat)}
/-- more may have been made than was -/
theorem tx_more {c2 n2 : Nat} {g : JFrame} (hc : cells ≤ c2) (hn : slots ≤ n2) (k : W p l e R s m args below meth c H locs c2 n2 Q g) : W p l e R s m args below meth c H locs cells slots Q g := fun T hT X =>
  k T hT ⟨X.admits, X.cas, X.clock, X.frames, X.room, X.hears, X.method, X.code, X.here, X.tail, X.warmed, X.limits, X.bytes, X.same.mono hc hn⟩
/-- a call that throws, nothing written, caught here -/
theorem tx_callK (S : CallFix p m c cc nL s args Ts own) (hM : tx_Met l y w9 rm (va_Pc (.ref b :: As) (tx_pre sa A D cl wc tys)) cls) (cw : CallW R s args own C index y bytes maxL ret w9 rm 1 6 n) (hE : tx_E A s s.heap) (hL : tx_L sa s)
    (hK : va_K D cl tys s) (hP : va_P D cl ws H) (hS : va_S A s.heap H locs) (is : List Nat) (hs : is.map (fun i => ws[i]?) = wc.map some) (hc : cl[ci]? = some (C, T, N)) (he : wc[0]? = some (b, .inr (ci, fs))) (hn : As.length = n) (hsize : ls.size = nL) (hst : st0 = As.reverse ++ .ref b :: rest) (hW : (rest.map fun v => v.category).sum ≤ 8) (hdg : decode cc pc = .ok (.invokevirtual index, 3)) (hf : cells + 1 ≤ R.cells ∧ slots + 6 ≤ R.slots)
    (pre : List ExceptionTableEntry) (x : ExceptionTableEntry) (suf : List ExceptionTableEntry) (hsplit : c.exceptionTable.toList = pre ++ x :: suf) (hpass : ∀ z ∈ pre, covers z pc = false ∨ (z.catchType ≠ 0 ∧ ∃ nm : String, (Cond.classLink own z.catchType nm).before args s = true ∧ va_Nc cls nm s)) (hcov : covers x pc = true) (h0 : x.catchType ≠ 0)
    (hlink : (Cond.classLink own x.catchType cls).before args s = true) (hcast : (Cond.castable cls cls).before args s = true)
    (kk : ∀ (q : Nat) (H1 : Heap), va_P D cl ws H1 → va_S A s.heap H1 locs → W p l e R s m args below meth c H1 locs (cells + 1) (slots + 6) Q (F0 m x.handlerPc ls [.ref q])) : W p l e R s m args below meth c H locs cells slots Q (F0 m pc ls st0) := by
  refine tx_call S hM cw ⟨tx_fb, va_recv hK (hP.sub is (qv_fm _ _ _ hs)) hc he, fun U hU hW9 => ⟨rfl, ⟨by rw [hU]; exact hP.sub is (qv_fm _ _ _ hs), va_K.moved hW9.alike hK⟩, by rw [hU]; exact hE.at hS (fun _ h => h) hW9, hL.warm hW9⟩⟩ hn hsize hst hW hdg hf pre x suf hsplit hpass hcov h0 hlink hcast (fun q H1 hz hk => ?_)
  exact kk q H1 (hP.kept (fun k q hq => hk _ (hP k q hq).lt)) ⟨Nat.le_trans hS.1 hz, fun q h1 h2 => by rw [hk q (Nat.lt_of_lt_of_le h1 hS.1)]; exact hS.2.1 q h1 h2, hS.2.2⟩
/-- a call that throws behind writes, caught here -/
theorem tx_callKW {Su : Type} {w1 wn : Su → va_W} (S : CallFix p m c cc nL s args Ts own) (hM : tx_MW l y w9 rm (va_Pc (.ref b :: As) (tx_preO tU tT sa D cl wc tys H.size)) cls (qv_post D cl w1 tys (va_A wc H.size)) (va_A wc H.size)) (cw : CallW R s args own C index y bytes maxL ret w9 rm 1 6 n) (hO : ev_O tU tT A s s.heap) (hE : tx_E A s s.heap) (hL : tx_L sa s)
    (hK : va_K D cl tys s) (hP : va_P D cl ws H) (hD : va_D A ws) (hS : va_S A s.heap H locs) (hA : ∀ q, s.heap.size ≤ q → A q) (isC isR pm : List Nat) (hnc : va_nd isC = true) (hC : isC.map (fun i => ws[i]?) = wc.map some) (hR : isR.map (fun i => ws[i]?) = wr.map some) (hnd : va_nd isR = true) (hdis : ∀ i ∈ isR, i ∉ isC)
    (hpn : va_nd pm = true) (hpm : ∀ u, pm.map (fun i => (wr ++ w1 u)[i]?) = (wn u).map some) (hc : cl[ci]? = some (C, T, N)) (he : wc[0]? = some (b, .inr (ci, fs))) (hn : As.length = n) (hsize : ls.size = nL) (hst : st0 = As.reverse ++ .ref b :: rest) (hW : (rest.map fun v => v.category).sum ≤ 8) (hdg : decode cc pc = .ok (.invokevirtual index, 3)) (hf : cells + 1 ≤ R.cells ∧ slots + 6 ≤ R.slots)
    (pre : List ExceptionTableEntry) (x : ExceptionTableEntry) (suf : List ExceptionTableEntry) (hsplit : c.exceptionTable.toList = pre ++ x :: suf) (hpass : ∀ z ∈ pre, covers z pc = false ∨ (z.catchType ≠ 0 ∧ ∃ nm : String, (Cond.classLink own z.catchType nm).before args s = true ∧ va_Nc cls nm s)) (hcov : covers x pc = true) (h0 : x.catchType ≠ 0)
    (hlink : (Cond.classLink own x.catchType cls).before args s = true) (hcast : (Cond.castable cls cls).before args s = true)
    (kk : ∀ (q : Nat) (u : Su) (H1 : Heap) (locs1 : List Loc), va_P D cl (wn u) H1 → va_D A (wn u) → va_S A s.heap H1 locs1 → W p l e R s m args below meth c H1 locs1 (cells + 1) (slots + 6) Q (F0 m x.handlerPc ls [.ref q])) : W p l e R s m args below meth c H locs cells slots Q (F0 m pc ls st0) := by
  have hFc := va_free (wc := wc) hD hS hA isC hC
  refine tx_callW S hM cw ⟨tx_fbO, va_recv hK (hP.sub isC (qv_fm _ _ _ hC)) hc he, fun U hU hW9 => ⟨rfl, ⟨⟨by rw [hU], by rw [hU]; exact hP.sub isC (qv_fm _ _ _ hC), va_K.moved hW9.alike hK, (hD.sub isC hnc hC).weaken (fun _ _ _ _ => trivial)⟩, by rw [hU]; exact hO.at hS hFc hW9.alike⟩, by rw [hU]; exact hE.at hS hFc hW9, hL.warm hW9⟩⟩ hn hsize hst hW hdg hf pre x suf hsplit hpass hcov h0 hlink hcast (fun q u t L hB hLA hz hk => ?_)
  obtain ⟨hP1, hK1, hD1⟩ := hB
  obtain ⟨hP2, hD2⟩ := qv_frame hP hD isC isR pm hC hR hnd hdis hk hFc hP1 hD1 hpn (hpm u)
  refine kk q u t.heap (locs ++ L) hP2 hD2 ⟨Nat.le_trans hS.1 hz, fun q h1 h2 => ?_, fun x hx => ?_⟩
  · rw [hk q (Nat.lt_of_lt_of_le h1 hS.1) (fun z => h2 (hFc q z))]
    exact hS.2.1 q h1 h2
  · rcases List.mem_append.mp hx with h | h
    · exact hS.2.2 x h
    · exact hFc _ (hLA x h)
theorem qv_callOl {Su : Type} {post : Int64 → Su → Prop} {w1 wn : Su → va_W} (S : CallFix p m c cc nL s args Ts own) (hM : Met l y w9 rm (va_Pc (.ref b :: As) (qv_preO tU tT D cl wc tys H.size)) (va_Ql post (qv_post D cl w1 tys (va_A wc H.size)) (va_A wc H.size)) 0 0 (va_A wc H.size)) (cw : CallW R s args own C index y bytes maxL ret w9 rm 0 0 n) (hO : ev_O tU tT A s s.heap)
    (hK : va_K D cl tys s) (hP : va_P D cl ws H) (hD : va_D A ws) (hS : va_S A s.heap H locs) (hA : ∀ q, s.heap.size ≤ q → A q) (isC isR pm : List Nat) (hnc : va_nd isC = true) (hC : isC.map (fun i => ws[i]?) = wc.map some) (hR : isR.map (fun i => ws[i]?) = wr.map some) (hnd : va_nd isR = true) (hdis : ∀ i ∈ isR, i ∉ isC)
    (hpn : va_nd pm = true) (hpm : ∀ u, pm.map (fun i => (wr ++ w1 u)[i]?) = (wn u).map some) (hc : cl[ci]? = some (C, T, N)) (he : wc[0]? = some (b, .inr (ci, fs))) (hn : As.length = n) (hsize : ls.size = nL) (hst : st0 = As.reverse ++ .ref b :: rest) (hW : (rest.map fun v => v.category).sum ≤ 8) (hdg : decode cc pc = .ok (.invokevirtual index, 3)) (hf : cells ≤ R.cells ∧ slots ≤ R.slots)
    (kk : ∀ (r : Int64) (u : Su) (H1 : Heap) (locs1 : List Loc), post r u → va_P D cl (wn u) H1 → va_D A (wn u) → va_S A s.heap H1 locs1 → W p l e R s m args below meth c H1 locs1 cells slots Q (F0 m (pc + 3) ls (.long r :: rest))) : W p l e R s m args below meth c H locs cells slots Q (F0 m pc ls st0) := by
  have hFc := va_free (wc := wc) hD hS hA isC hC
  refine va_calll (va_runV S hM cw (qv_preVO (H0 := H) hO hS hA hK hP hD isC hnc hC hc he) rfl hn hsize hst (lv_room hW) hdg hf) hS (fun q _ h => hFc q h) hFc (fun r u t H1 locs ht hvm hw hB hz1 hk1 hS => ?_)
  obtain ⟨hP1, hK1, hD1⟩ := hB
  rw [ht] at hP1
  obtain ⟨hP2, hD2⟩ := qv_frame hP hD isC isR pm hC hR hnd hdis hk1 hFc hP1 hD1 hpn (hpm u)
  exact kk r u H1 locs hw hP2 hD2 hS
/-- the call of a static method with handlers -/
theorem tx_runSW {Pc : Array Value → State → Prop} {Qc : Array Value → State → Outcome → State → Prop} {free : Addr → Prop} {g : JFrame} (S : CallFix p m c cc nL s args Ts own) (hM : Met l y w9 rm Pc Qc mc ms free) (hts : ∀ w ∈ Ts, w.before args s = true) (hG : GoodIn Ts (wsS own index y w9)) (hw : w9 = Cond.codeWith y bytes maxL ret hh :: w8) (hrc : rm.cells = mc) (hrs : rm.slots = ms)
    (hd : y.cls = own ∧ y.cls ≠ "java/lang/invoke/MethodHandle" ∧ y.cls ≠ "java/lang/invoke/VarHandle" ∧ (parseMethodDescriptor y.desc).map (fun d => d.parameters.length) = some n) (hR : rm.frames + 1 ≤ R.frames ∧ 8 + (maxL + 11) + rm.locals ≤ R.locals) (hp : PreS s H Pc As)
    (hg : g.method = m) (hn : As.length = n) (hsize : g.locals.size = nL) (hstack : g.stack = As.reverse ++ rest) (hW : 2 * g.monitorRoom + (rest.map fun v => v.category).sum ≤ 8) (hdg : decode cc g.pc = .ok (.invokestatic index, 3)) (hf : cells + mc ≤ R.cells ∧ slots + ms ≤ R.slots) :
    va_Run p l e R s m args below meth c H locs cells slots mc ms g rest (Qc As.toArray) (free) := by
  obtain ⟨hC, hy1, hy2, hlen⟩ := hd
  subst hC
  have ok : ∀ w ∈ wsS y.cls index y w9, w.before args s = true := fun w h => hts w (hG w h).1
  have hpay : ∀ w ∈ w9, ∀ (a' : Array Value) (U : State), s.WarmedH U.vm → w.before a' U = true := pay_in hts (fun w h => hG w (by unfold wsS; exact List.mem_append_right _ h))
  have hcw : Cond.codeWith y bytes maxL ret hh ∈ w9 := by rw [hw]; exact List.mem_cons_self
  have hini : (Cond.initialized y.cls).before args s = true := ok _ (by simp [wsS])
  have hstt : (Cond.static y).before args s = true := ok _ (by simp [wsS])
  have hl : (Cond.methodLink y.cls index y).before args s = true := ok _ (by simp [wsS])
  have hcode : (Cond.codeWith y bytes maxL ret hh).before args s = true := ok _ (by unfold wsS; exact List.mem_append_right _ hcw)
  have hK : Back l R p e below s args y 3 8 (PreOf R mc ms Pc) (PostOf Qc mc ms free) := va_backW (bytes := bytes) (maxL := maxL) (ret := ret) (hh := hh) hM hp.1 hrc hrs hR.1 hR.2 hpay hcw (fun a' U hW => word_at hW (Or.inl (by first | rfl | simp [Cond.onTables, Cond.keeps, Cond.steady])) hini)
  obtain ⟨hx, hb, hml, ho, -⟩ := S
  intro T hT X
  obtain ⟨mk, methM, cM, hnamed, hmethM, -, -, -, -, -, -, hsigM⟩ := Cond.codeWith_spec hcode
  have hstatic : methM.isStatic = true := Cond.static_spec hnamed hmethM hstt
  obtain ⟨kP, hkP, -⟩ := className_of_methodNamed hnamed
  have hinitP : kP.init = .initialized := Cond.initialized_spec (findClass_of_methodNamed hnamed) hkP hini
  have hlenA : As.length = methM.sig.parameters.length := by
    rw [hsigM] at hlen
    exact hn.trans (Option.some.inj hlen).symm
  obtain ⟨vm₁, X₁, hstep₁⟩ := X.invokestatic hx ho hl hnamed hmethM hstatic hkP hinitP ⟨hy1, hy2⟩ (g := g) hg (argsL := As) (rest := rest) hlenA hstack (by rw [hb]; exact hdg)
  obtain ⟨v, ⟨U', l2, c2, s2⟩, X', ⟨g', mk', t, L, e1, e2, hq, h1, hL, h2, h3⟩, hsteps⟩ := hK m meth c ⟨T.setVm vm₁, locs, cells, slots⟩ { g with stack := rest } (.invokestatic index) mk As.toArray X₁ hg (hsize.trans hml.symm) (by rw [hb]; exact hdg) hW (X₁.named hnamed) ⟨hf.1, hf.2, hp.2 (T.setVm vm₁) hT X₁.warmed⟩
  dsimp only [Pt.U, Pt.locs, Pt.cells, Pt.slots] at X' e1 e2 h1 h2 h3 hsteps
  subst h1; subst h2; subst h3
  exact ⟨v, (T.setVm vm₁).calling g' mk' As.toArray, t, U', L, hT, X', hL, e1, e2, hq, fun target h => hstep₁ _ fun acts => by rw [doInvoke_state]; exact hsteps.trans h⟩
theorem tx_callSW {Su : Type} {post : Int32 → Su → Prop} {w1 wn : Su → va_W} (S : CallFix p m c cc nL s args Ts own) (hM : Met l y w9 rm (va_Pc As (tx_preW tU tT sa D cl wc tys H.size)) (va_Qi post (qv_post D cl w1 tys (va_A wc H.size)) (va_A wc H.size)) mc ms (va_A wc H.size)) (hts : ∀ w ∈ Ts, w.before args s = true) (hG : GoodIn Ts (wsS own index y w9)) (hw : w9 = Cond.codeWith y bytes maxL ret hh :: w8) (hrc : rm.cells = mc) (hrs : rm.slots = ms)
    (hd : y.cls = own ∧ y.cls ≠ "java/lang/invoke/MethodHandle" ∧ y.cls ≠ "java/lang/invoke/VarHandle" ∧ (parseMethodDescriptor y.desc).map (fun d => d.parameters.length) = some n) (hR9 : rm.frames + 1 ≤ R.frames ∧ 8 + (maxL + 11) + rm.locals ≤ R.locals) (hO : ev_O tU tT A s s.heap) (hE : tx_E A s s.heap) (hL : tx_L sa s) (hN : tx_N s)
    (hK : va_K D cl tys s) (hP : va_P D cl ws H) (hD : va_D A ws) (hS : va_S A s.heap H locs) (hA : ∀ q, s.heap.size ≤ q → A q) (isC isR pm : List Nat) (hnc : va_nd isC = true) (hC : isC.map (fun i => ws[i]?) = wc.map some) (hR : isR.map (fun i => ws[i]?) = wr.map some) (hnd : va_nd isR = true) (hdis : ∀ i ∈ isR, i ∉ isC)
    (hpn : va_nd pm = true) (hpm : ∀ u, pm.map (fun i => (wr ++ w1 u)[i]?) = (wn u).map some) (hn : As.length = n) (hsize : ls.size = nL) (hst : st0 = As.reverse ++ rest) (hW : (rest.map fun v => v.category).sum ≤ 8) (hdg : decode cc pc = .ok (.invokestatic index, 3)) (hf : cells + mc ≤ R.cells ∧ slots + ms ≤ R.slots)
    (kk : ∀ (r : Int32) (u : Su) (H1 : Heap) (locs1 : List Loc), post r u → va_P D cl (wn u) H1 → va_D A (wn u) → va_S A s.heap H1 locs1 → W p l e R s m args below meth c H1 locs1 (cells + mc) (slots + ms) Q (F0 m (pc + 3) ls (.int r :: rest))) : W p l e R s m args below meth c H locs cells slots Q (F0 m pc ls st0) := by
  have hFc := va_free (wc := wc) hD hS hA isC hC
  refine va_calli (tx_runSW S hM hts hG hw hrc hrs hd hR9 ⟨tx_fbW, fun U hU hW9 => ⟨rfl, ⟨⟨⟨by rw [hU], by rw [hU]; exact hP.sub isC (qv_fm _ _ _ hC), va_K.moved hW9.alike hK, (hD.sub isC hnc hC).weaken (fun _ _ _ _ => trivial)⟩, by rw [hU]; exact hO.at hS hFc hW9.alike⟩, by rw [hU]; exact hE.at hS hFc hW9, hL.warm hW9⟩, hN.moved hW9.alike⟩⟩ rfl hn hsize hst (lv_room hW) hdg hf) hS (fun q _ h => hFc q h) hFc (fun r u t H1 locs ht hvm hw hB hz1 hk1 hS => ?_)
  obtain ⟨hP1, hK1, hD1⟩ := hB
  rw [ht] at hP1
  obtain ⟨hP2, hD2⟩ := qv_frame hP hD isC isR pm hC hR hnd hdis hk1 hFc hP1 hD1 hpn (hpm u)
  exact kk r u H1 locs hw hP2 hD2 hS
end TXk
