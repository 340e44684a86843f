/-! The two orders of the methods 2 to 6, as the class's static rows hold them; a method that needs them; joining two roads. -/
def sp_u (j : Nat) : Nat := match j with | 0 => 2 | 1 => 3 | 2 => 4 | 3 => 5 | _ => 6
def sp_t (j : Nat) : Nat := match j with | 0 => 2 | 1 => 3 | 2 => 5 | 3 => 4 | _ => 6
def sp_ord (tu : Int32) : Nat → Nat := if tu = 0 then sp_u else sp_t
def sp_ok (c f h : Int32) : Int32 := if c = 0 then 0 else if f = 0 then 0 else h
def sp_first (ok : Nat → Int32) (ord : Nat → Nat) : Nat → Nat → Nat
  | 0, _ => 0
  | d + 1, i => if ok (ord i) = 0 then sp_first ok ord d (i + 1) else ord i
theorem sp_first_s {ok : Nat → Int32} {ord : Nat → Nat} {d i : Nat} (h : ok (ord i) = 0) : sp_first ok ord (d + 1) i = sp_first ok ord d (i + 1) := if_pos h
theorem sp_first_1 {ok : Nat → Int32} {ord : Nat → Nat} {d i : Nat} (h : ¬ ok (ord i) = 0) : sp_first ok ord (d + 1) i = ord i := if_neg h
def sp_find (n : Nat) (c ng ts : Int32) (ok : Nat → Int32) (tu : Int32) : Nat := if nI n = 0 then 0 else if c = 0 then sp_first ok (sp_ord tu) 5 0 else if ng = 0 then sp_first ok (sp_ord tu) 5 0 else if ts = 0 then sp_first ok (sp_ord tu) 5 0 else 1
def ev_O (tU tT : Nat) (A : Nat → Prop) (U : State) (H : Heap) : Prop := va_Z "ValueMethods" "USUAL_ORDER" "[I" (.ref tU) A U H ∧ va_T .int tU 5 (fun j => .int (nI (sp_u j))) A U H ∧ va_Z "ValueMethods" "TURNED_ORDER" "[I" (.ref tT) A U H ∧ va_T .int tT 5 (fun j => .int (nI (sp_t j))) A U H
theorem ev_O.at {tU tT : Nat} {A B : Nat → Prop} {s U : State} {H : Heap} {locs : List Loc} (h : ev_O tU tT A s s.heap) (hS : va_S A s.heap H locs) (hB : ∀ q, B q → A q) (hW : s.vm.Alike U.vm) : ev_O tU tT B U H :=
  ⟨((h.1.kept hS.2.1).moved hW).narrow hB, ((h.2.1.kept hS.2.1).moved hW).narrow hB, ((h.2.2.1.kept hS.2.1).moved hW).narrow hB, ((h.2.2.2.kept hS.2.1).moved hW).narrow hB⟩
def qv_preO (tU tT : Nat) (D : va_G) (cl : List vw_C) (ws : va_W) (tys : List (ClassId × FieldType)) (sz : Nat) : State → Prop := fun U => qv_pre D cl ws tys sz U ∧ ev_O tU tT (va_A ws sz) U U.heap
theorem qv_fbO {tU tT : Nat} {D : va_G} {cl : List vw_C} {ws : va_W} {tys : List (ClassId × FieldType)} {sz : Nat} {av : List Value} : FrameBlind (va_Pc av (qv_preO tU tT D cl ws tys sz)) := fun a U g mk q => by
  obtain ⟨q0, ⟨q1, qP, qK, qD⟩, h1, h2, h3, h4⟩ := q
  have hW : U.vm.Alike (U.calling g mk a).vm := Vm.Alike.refl U.vm
  exact ⟨q0, ⟨q1, qP, va_K.moved (u := U) hW qK, qD⟩, h1.moved hW, h2.moved hW, h3.moved hW, h4.moved hW⟩
section QVd
variable {p : Program} {l : Launch} {e : Env} {R : Room} {s : State} {m : MethodId} {args : Array Value} {below : List Frame} {meth : Method} {c : Code} {H : Heap} {locs : List Loc} {cells slots : Nat} {Q : State → Prop}
variable {pc : Nat} {ls : Array Slot} {rest st0 As : List Value} {cc bytes : ByteArray} {D : va_G} {cl : List vw_C} {ws wc wr : va_W} {tys : List (ClassId × FieldType)} {Ts w9 : List Cond} {own C : String} {y : MethodName} {rm : Room} {index maxL nL n b ci N tU tT : Nat} {ret : Option FieldType} {T : u_T} {fs : List Value} {A : Nat → Prop}
/-- two roads that meet at pc2 -/
theorem qv_join {g : JFrame} (pc2 : Nat) (I : Heap → List Loc → Array Slot → Prop) (k1 : ∀ (H : Heap) (locs : List Loc) (ls : Array Slot), I H locs ls → W p l e R s m args below meth c H locs cells slots Q (F0 m pc2 ls []))
    (k2 : (∀ (H : Heap) (locs : List Loc) (ls : Array Slot), I H locs ls → W p l e R s m args below meth c H locs cells slots Q (F0 m pc2 ls [])) → W p l e R s m args below meth c H locs cells slots Q g) : W p l e R s m args below meth c H locs cells slots Q g := k2 k1
theorem qv_preVO {H0 : Heap} {b : Nat} (hO : ev_O tU tT A s s.heap) (hS : va_S A s.heap H locs) (hA : ∀ q, s.heap.size ≤ q → A q) (hK : va_K D cl tys s) (hP : va_P D cl ws H) (hD : va_D A ws) (is : List Nat) (hnd : va_nd is = true) (hs : is.map (fun i => ws[i]?) = wc.map some) (hc : cl[ci]? = some (C, T, N)) (he : wc[0]? = some (b, .inr (ci, fs))) : PreV s H C b (va_Pc (.ref b :: As) (qv_preO tU tT D cl wc tys H.size)) As :=
  ⟨qv_fbO, va_recv hK (hP.sub is (qv_fm _ _ _ hs)) hc he, fun U hU hW => ⟨rfl, ⟨by rw [hU], by rw [hU]; exact hP.sub is (qv_fm _ _ _ hs), va_K.moved hW.alike hK, (hD.sub is hnd hs).weaken (fun _ _ _ _ => trivial)⟩, by rw [hU]; exact hO.at hS (va_free (wc := wc) hD hS hA is hs) hW.alike⟩⟩
theorem qv_callOi {Su : Type} {post : Int32 → Su → Prop} {w1 wn : Su → va_W} (S : CallFix p m c cc nL s args Ts own) (hM : Met l y w9 rm (va_Pc (.ref b :: As) (qv_preO tU tT D cl wc tys H.size)) (va_Qi post (qv_post D cl w1 tys (va_A wc H.size)) (va_A wc H.size)) 0 0 (va_A wc H.size)) (cw : CallW R s args own C index y bytes maxL ret w9 rm 0 0 n) (hO : ev_O tU tT A s s.heap)
    (hK : va_K D cl tys s) (hP : va_P D cl ws H) (hD : va_D A ws) (hS : va_S A s.heap H locs) (hA : ∀ q, s.heap.size ≤ q → A q) (isC isR pm : List Nat) (hnc : va_nd isC = true) (hC : isC.map (fun i => ws[i]?) = wc.map some) (hR : isR.map (fun i => ws[i]?) = wr.map some) (hnd : va_nd isR = true) (hdis : ∀ i ∈ isR, i ∉ isC)
    (hpn : va_nd pm = true) (hpm : ∀ u, pm.map (fun i => (wr ++ w1 u)[i]?) = (wn u).map some) (hc : cl[ci]? = some (C, T, N)) (he : wc[0]? = some (b, .inr (ci, fs))) (hn : As.length = n) (hsize : ls.size = nL) (hst : st0 = As.reverse ++ .ref b :: rest) (hW : (rest.map fun v => v.category).sum ≤ 8) (hdg : decode cc pc = .ok (.invokevirtual index, 3)) (hf : cells ≤ R.cells ∧ slots ≤ R.slots)
    (kk : ∀ (r : Int32) (u : Su) (H1 : Heap) (locs1 : List Loc), post r u → va_P D cl (wn u) H1 → va_D A (wn u) → va_S A s.heap H1 locs1 → W p l e R s m args below meth c H1 locs1 cells slots Q (F0 m (pc + 3) ls (.int r :: rest))) : W p l e R s m args below meth c H locs cells slots Q (F0 m pc ls st0) := by
  have hFc := va_free (wc := wc) hD hS hA isC hC
  refine va_calli (va_runV S hM cw (qv_preVO (H0 := H) hO hS hA hK hP hD isC hnc hC hc he) rfl hn hsize hst (lv_room hW) hdg hf) hS (fun q _ h => hFc q h) hFc (fun r u t H1 locs ht hvm hw hB hz1 hk1 hS => ?_)
  obtain ⟨hP1, hK1, hD1⟩ := hB
  rw [ht] at hP1
  obtain ⟨hP2, hD2⟩ := qv_frame hP hD isC isR pm hC hR hnd hdis hk1 hFc hP1 hD1 hpn (hpm u)
  exact kk r u H1 locs hw hP2 hD2 hS
end QVd
