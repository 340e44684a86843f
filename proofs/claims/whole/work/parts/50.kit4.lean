/-! Makers: new rows of a class id that is known, and the call of a constructor. -/
theorem gd_I {cw : Cond} (h5 : cw ∈ lw_gt) : GoodIn lw_gt (cw :: lw_gt) := fun w h => by
  rcases List.mem_cons.mp h with rfl | h
  · exact ⟨h5, good_of_word (lw_good _ h5)⟩
  · exact ⟨h, good_of_word (lw_good _ h)⟩
section QVe
variable {p : Program} {l : Launch} {e : Env} {R : Room} {s : State} {m : MethodId} {args : Array Value} {below : List Frame} {meth : Method} {c : Code} {H H0 : Heap} {locs : List Loc} {cells slots : Nat} {Q : State → Prop}
variable {pc : Nat} {ls : Array Slot} {rest st0 As : List Value} {cc bytes : ByteArray} {D : va_G} {cl : List vw_C} {ws wc wr : va_W} {tys : List (ClassId × FieldType)} {Ts w9 : List Cond} {own : String} {y : MethodName} {rm : Room} {index maxL nL n b mc ms : Nat} {A : Nat → Prop}
theorem qv_newa {atype : ArrayType} {ty : FieldType} {cT N' : Nat} {k : Int32} {a0 : vp_A} (hexec : p.tables.exec = Jvm.exec) (hb : c.code = cc) (harr : (Cond.arrayClass (newarray.typeOf atype)).before args s = true) (hty : newarray.typeOf atype = ty) (hra : ∀ d, va_RA s d ty → s.vm.findClass ("[" ++ ty.toString) = some d) (hK : va_K D cl tys s) (hP : va_P D cl ws H) (hD : va_D A ws) (hS : va_S A H0 H locs) (hA : ∀ q, H0.size ≤ q → A q) (t0 : Nat) (ht : tys[t0]? = some (cT, ty)) (ha : ∀ cA : ClassId, vp_cell cA a0 = arrV cA N' (fun _ => defaultValue ty))
    (hn : ¬ k < 0) (hN : k.toNatClampNeg = N') (hbytes : N' * componentBytes ty ≤ 536870912) (hcells : cells + 1 ≤ R.cells) (hslots : slots + N' ≤ R.slots) (hdg : decode cc pc = .ok (.newarray atype, 2))
    (kk : ∀ (q : Nat) (H1 : Heap), va_P D cl (ws ++ [(q, .inl (cT, a0))]) H1 → va_D A (ws ++ [(q, .inl (cT, a0))]) → va_S A H0 H1 locs → W p l e R s m args below meth c H1 locs (cells + 1) (slots + N') Q (F0 m (pc + 2) ls (.ref q :: rest))) : W p l e R s m args below meth c H locs cells slots Q (F0 m pc ls (.int k :: rest)) := by
  refine va_newa hexec hb harr hty hK hP hD hS hA ha hn hN hbytes hcells hslots hdg (fun q cA H1 hK1 hP1 hD1 hS1 => ?_)
  have h1 := hra _ (hK1.2 tys.length (cA, ty) (by simp)).2
  have h2 := hra _ (hK.2 t0 (cT, ty) ht).2
  have h3 : cA = cT := Option.some.inj (h1.symm.trans h2)
  subst h3
  exact kk q H1 hP1 hD1 hS1
theorem qv_callI {Su : Type} {post : Su → Prop} {w1 wn : Su → va_W} (S : CallFix p m c cc nL s args Ts own) (hM : Met l y w9 rm (va_Pc (.ref b :: As) (qv_pre D cl wc tys H.size)) (va_Qv post (qv_post D cl w1 tys (va_A wc H.size)) (va_A wc H.size)) mc ms (va_A wc H.size)) (cw : CallB R s args own index y bytes maxL none w9 rm mc ms n ∧ y.name = "<init>" ∧ (Cond.instanceMethod y).before args s = true)
    (hK : va_K D cl tys s) (hP : va_P D cl ws H) (hD : va_D A ws) (hS : va_S A H0 H locs) (hA : ∀ q, H0.size ≤ q → A q) (isC isR pm : List Nat) (hnc : va_nd isC = true) (hC : isC.map (fun i => ws[i]?) = wc.map some) (hR : isR.map (fun i => ws[i]?) = wr.map some) (hnd : va_nd isR = true) (hdis : ∀ i ∈ isR, i ∉ isC)
    (hpn : va_nd pm = true) (hpm : ∀ u, pm.map (fun i => (wr ++ w1 u)[i]?) = (wn u).map some) (hn : As.length = n) (hsize : ls.size = nL) (hst : st0 = As.reverse ++ .ref b :: rest) (hW : (rest.map fun v => v.category).sum ≤ 8) (hdg : decode cc pc = .ok (.invokespecial index, 3)) (hf : cells + mc ≤ R.cells ∧ slots + ms ≤ R.slots)
    (kk : ∀ (u : Su) (H1 : Heap) (locs1 : List Loc), post u → va_P D cl (wn u) H1 → va_D A (wn u) → va_S A H0 H1 locs1 → W p l e R s m args below meth c H1 locs1 (cells + mc) (slots + ms) Q (F0 m (pc + 3) ls rest)) : W p l e R s m args below meth c H locs cells slots Q (F0 m pc ls st0) := by
  have hFc := va_free (wc := wc) hD hS hA isC hC
  refine va_callv (va_runI S hM cw ⟨qv_fbW, fun U hU hW => ⟨rfl, by rw [hU], by rw [hU]; exact hP.sub isC (qv_fm _ _ _ hC), va_K.moved hW.alike hK, (hD.sub isC hnc hC).weaken (fun _ _ _ _ => trivial)⟩⟩ rfl hn hsize hst (lv_room hW) hdg hf) hS (fun q _ h => hFc q h) hFc (fun u t H1 locs ht hvm hw hB hz1 hk1 hS => ?_)
  obtain ⟨hP1, hK1, hD1⟩ := hB
  rw [ht] at hP1
  obtain ⟨hP2, hD2⟩ := qv_frame hP hD isC isR pm hC hR hnd hdis hk1 hFc hP1 hD1 hpn (hpm u)
  exact kk u H1 locs hw hP2 hD2 hS
end QVe
