-- ===== PART A: goes FIRST, ahead of the names: the tables' words, and 'selects' of the private methods out of them =====
/-- a private method of a class that the tables say can be made, by its rows of tables_1 -/
def lw_okq (q : MethodName × Nat) : Prop := (q.1.cls ≠ "java/lang/invoke/MethodHandle" ∧ q.1.cls ≠ "java/lang/invoke/VarHandle") ∧ Cond.instantiable q.1.cls q.2 ∈ tables_1 ∧ Cond.privateMethod q.1 ∈ tables_1 ∧ Cond.instanceMethod q.1 ∈ tables_1
theorem lw_p0 : lw_okq (⟨"ValueMethods", "findMethod", "()I"⟩, 16) := ⟨⟨by decide +kernel, by decide +kernel⟩, List.mem_of_getElem? (i := 17) (by decide +kernel), List.mem_of_getElem? (i := 204) (by decide +kernel), List.mem_of_getElem? (i := 205) (by decide +kernel)⟩
theorem lw_p1 : lw_okq (⟨"ValueMethods", "fillTransaction", "()V"⟩, 16) := ⟨⟨by decide +kernel, by decide +kernel⟩, List.mem_of_getElem? (i := 17) (by decide +kernel), List.mem_of_getElem? (i := 212) (by decide +kernel), List.mem_of_getElem? (i := 213) (by decide +kernel)⟩
theorem lw_p2 : lw_okq (⟨"ValueMethods", "discountCents", "()J"⟩, 16) := ⟨⟨by decide +kernel, by decide +kernel⟩, List.mem_of_getElem? (i := 17) (by decide +kernel), List.mem_of_getElem? (i := 220) (by decide +kernel), List.mem_of_getElem? (i := 221) (by decide +kernel)⟩
theorem lw_p3 : lw_okq (⟨"ValueMethods", "mixIn", "(JZI)V"⟩, 16) := ⟨⟨by decide +kernel, by decide +kernel⟩, List.mem_of_getElem? (i := 17) (by decide +kernel), List.mem_of_getElem? (i := 235) (by decide +kernel), List.mem_of_getElem? (i := 236) (by decide +kernel)⟩
theorem lw_p4 : lw_okq (⟨"ValueMethods$Lines", "floorParts", "([JJJ)J"⟩, 8) := ⟨⟨by decide +kernel, by decide +kernel⟩, List.mem_of_getElem? (i := 25) (by decide +kernel), List.mem_of_getElem? (i := 243) (by decide +kernel), List.mem_of_getElem? (i := 244) (by decide +kernel)⟩
theorem lw_p5 : lw_okq (⟨"ValueMethods$Lines", "handOut", "(J)V"⟩, 8) := ⟨⟨by decide +kernel, by decide +kernel⟩, List.mem_of_getElem? (i := 25) (by decide +kernel), List.mem_of_getElem? (i := 247) (by decide +kernel), List.mem_of_getElem? (i := 248) (by decide +kernel)⟩
theorem lw_p6 : lw_okq (⟨"ValueMethods", "mixInAll", "(LValueMethods$Charges;I)V"⟩, 16) := ⟨⟨by decide +kernel, by decide +kernel⟩, List.mem_of_getElem? (i := 17) (by decide +kernel), List.mem_of_getElem? (i := 256) (by decide +kernel), List.mem_of_getElem? (i := 257) (by decide +kernel)⟩
theorem lw_p7 : lw_okq (⟨"ValueMethods", "noValueBelowZero", "()Z"⟩, 16) := ⟨⟨by decide +kernel, by decide +kernel⟩, List.mem_of_getElem? (i := 17) (by decide +kernel), List.mem_of_getElem? (i := 272) (by decide +kernel), List.mem_of_getElem? (i := 273) (by decide +kernel)⟩
theorem lw_p8 : lw_okq (⟨"ValueMethods", "passesTest", "()Z"⟩, 16) := ⟨⟨by decide +kernel, by decide +kernel⟩, List.mem_of_getElem? (i := 17) (by decide +kernel), List.mem_of_getElem? (i := 276) (by decide +kernel), List.mem_of_getElem? (i := 277) (by decide +kernel)⟩
theorem lw_p9 : lw_okq (⟨"ValueMethods", "valueSum", "()J"⟩, 16) := ⟨⟨by decide +kernel, by decide +kernel⟩, List.mem_of_getElem? (i := 17) (by decide +kernel), List.mem_of_getElem? (i := 280) (by decide +kernel), List.mem_of_getElem? (i := 281) (by decide +kernel)⟩
theorem lw_p10 : lw_okq (⟨"ValueMethods", "fillByFigures", "(I)Z"⟩, 16) := ⟨⟨by decide +kernel, by decide +kernel⟩, List.mem_of_getElem? (i := 17) (by decide +kernel), List.mem_of_getElem? (i := 291) (by decide +kernel), List.mem_of_getElem? (i := 292) (by decide +kernel)⟩
theorem lw_p11 : lw_okq (⟨"ValueMethods", "fillShared", "(J)Z"⟩, 16) := ⟨⟨by decide +kernel, by decide +kernel⟩, List.mem_of_getElem? (i := 17) (by decide +kernel), List.mem_of_getElem? (i := 299) (by decide +kernel), List.mem_of_getElem? (i := 300) (by decide +kernel)⟩
theorem lw_p12 : lw_okq (⟨"ValueMethods", "fillByWeights", "(JJ)Z"⟩, 16) := ⟨⟨by decide +kernel, by decide +kernel⟩, List.mem_of_getElem? (i := 17) (by decide +kernel), List.mem_of_getElem? (i := 303) (by decide +kernel), List.mem_of_getElem? (i := 304) (by decide +kernel)⟩
theorem lw_p13 : lw_okq (⟨"ValueMethods", "period", "()I"⟩, 16) := ⟨⟨by decide +kernel, by decide +kernel⟩, List.mem_of_getElem? (i := 17) (by decide +kernel), List.mem_of_getElem? (i := 319) (by decide +kernel), List.mem_of_getElem? (i := 320) (by decide +kernel)⟩
theorem lw_p14 : lw_okq (⟨"ValueMethods", "ownSum", "(I)J"⟩, 16) := ⟨⟨by decide +kernel, by decide +kernel⟩, List.mem_of_getElem? (i := 17) (by decide +kernel), List.mem_of_getElem? (i := 335) (by decide +kernel), List.mem_of_getElem? (i := 336) (by decide +kernel)⟩
theorem lw_p15 : lw_okq (⟨"ValueMethods", "upOf", "(I)J"⟩, 16) := ⟨⟨by decide +kernel, by decide +kernel⟩, List.mem_of_getElem? (i := 17) (by decide +kernel), List.mem_of_getElem? (i := 339) (by decide +kernel), List.mem_of_getElem? (i := 340) (by decide +kernel)⟩
def lw_privs_1 : List (MethodName × Nat) := [(⟨"ValueMethods", "findMethod", "()I"⟩, 16), (⟨"ValueMethods", "fillTransaction", "()V"⟩, 16), (⟨"ValueMethods", "discountCents", "()J"⟩, 16), (⟨"ValueMethods", "mixIn", "(JZI)V"⟩, 16), (⟨"ValueMethods$Lines", "floorParts", "([JJJ)J"⟩, 8), (⟨"ValueMethods$Lines", "handOut", "(J)V"⟩, 8), (⟨"ValueMethods", "mixInAll", "(LValueMethods$Charges;I)V"⟩, 16), (⟨"ValueMethods", "noValueBelowZero", "()Z"⟩, 16), (⟨"ValueMethods", "passesTest", "()Z"⟩, 16), (⟨"ValueMethods", "valueSum", "()J"⟩, 16), (⟨"ValueMethods", "fillByFigures", "(I)Z"⟩, 16), (⟨"ValueMethods", "fillShared", "(J)Z"⟩, 16), (⟨"ValueMethods", "fillByWeights", "(JJ)Z"⟩, 16), (⟨"ValueMethods", "period", "()I"⟩, 16), (⟨"ValueMethods", "ownSum", "(I)J"⟩, 16), (⟨"ValueMethods", "upOf", "(I)J"⟩, 16)]
theorem lw_r1 : ∀ q ∈ lw_privs_1, lw_okq q := List.forall_mem_cons.mpr ⟨lw_p0, List.forall_mem_cons.mpr ⟨lw_p1, List.forall_mem_cons.mpr ⟨lw_p2, List.forall_mem_cons.mpr ⟨lw_p3, List.forall_mem_cons.mpr ⟨lw_p4, List.forall_mem_cons.mpr ⟨lw_p5, List.forall_mem_cons.mpr ⟨lw_p6, List.forall_mem_cons.mpr ⟨lw_p7, List.forall_mem_cons.mpr ⟨lw_p8, List.forall_mem_cons.mpr ⟨lw_p9, List.forall_mem_cons.mpr ⟨lw_p10, List.forall_mem_cons.mpr ⟨lw_p11, List.forall_mem_cons.mpr ⟨lw_p12, List.forall_mem_cons.mpr ⟨lw_p13, List.forall_mem_cons.mpr ⟨lw_p14, List.forall_mem_cons.mpr ⟨lw_p15, fun _ h => absurd h List.not_mem_nil⟩⟩⟩⟩⟩⟩⟩⟩⟩⟩⟩⟩⟩⟩⟩⟩
theorem lw_p16 : lw_okq (⟨"ValueMethods", "downOf", "(I)J"⟩, 16) := ⟨⟨by decide +kernel, by decide +kernel⟩, List.mem_of_getElem? (i := 17) (by decide +kernel), List.mem_of_getElem? (i := 350) (by decide +kernel), List.mem_of_getElem? (i := 351) (by decide +kernel)⟩
theorem lw_p17 : lw_okq (⟨"java/lang/Throwable", "fillInStackTrace", "(I)Ljava/lang/Throwable;"⟩, 6) := ⟨⟨by decide +kernel, by decide +kernel⟩, List.mem_of_getElem? (i := 408) (by decide +kernel), List.mem_of_getElem? (i := 406) (by decide +kernel), List.mem_of_getElem? (i := 407) (by decide +kernel)⟩
theorem lw_p18 : lw_okq (⟨"ValueMethods", "ownValue", "(II)J"⟩, 16) := ⟨⟨by decide +kernel, by decide +kernel⟩, List.mem_of_getElem? (i := 17) (by decide +kernel), List.mem_of_getElem? (i := 548) (by decide +kernel), List.mem_of_getElem? (i := 549) (by decide +kernel)⟩
theorem lw_p19 : lw_okq (⟨"ValueMethodsModel", "tell", "(IZJZ)Z"⟩, 24) := ⟨⟨by decide +kernel, by decide +kernel⟩, List.mem_of_getElem? (i := 596) (by decide +kernel), List.mem_of_getElem? (i := 693) (by decide +kernel), List.mem_of_getElem? (i := 694) (by decide +kernel)⟩
theorem lw_p20 : lw_okq (⟨"ValueMethodsModel", "methodNow", "()I"⟩, 24) := ⟨⟨by decide +kernel, by decide +kernel⟩, List.mem_of_getElem? (i := 596) (by decide +kernel), List.mem_of_getElem? (i := 742) (by decide +kernel), List.mem_of_getElem? (i := 743) (by decide +kernel)⟩
theorem lw_p21 : lw_okq (⟨"ValueMethodsModel", "holds", "(I)Z"⟩, 24) := ⟨⟨by decide +kernel, by decide +kernel⟩, List.mem_of_getElem? (i := 596) (by decide +kernel), List.mem_of_getElem? (i := 746) (by decide +kernel), List.mem_of_getElem? (i := 747) (by decide +kernel)⟩
theorem lw_p22 : lw_okq (⟨"ValueMethodsModel", "deductive", "()J"⟩, 24) := ⟨⟨by decide +kernel, by decide +kernel⟩, List.mem_of_getElem? (i := 596) (by decide +kernel), List.mem_of_getElem? (i := 750) (by decide +kernel), List.mem_of_getElem? (i := 751) (by decide +kernel)⟩
theorem lw_p23 : lw_okq (⟨"ValueMethodsModel", "told", "(II)J"⟩, 24) := ⟨⟨by decide +kernel, by decide +kernel⟩, List.mem_of_getElem? (i := 596) (by decide +kernel), List.mem_of_getElem? (i := 754) (by decide +kernel), List.mem_of_getElem? (i := 755) (by decide +kernel)⟩
theorem lw_p24 : lw_okq (⟨"ValueMethodsModel", "transactionOf", "(I)J"⟩, 24) := ⟨⟨by decide +kernel, by decide +kernel⟩, List.mem_of_getElem? (i := 596) (by decide +kernel), List.mem_of_getElem? (i := 758) (by decide +kernel), List.mem_of_getElem? (i := 759) (by decide +kernel)⟩
theorem lw_p25 : lw_okq (⟨"ValueMethodsModel", "discount", "()J"⟩, 24) := ⟨⟨by decide +kernel, by decide +kernel⟩, List.mem_of_getElem? (i := 596) (by decide +kernel), List.mem_of_getElem? (i := 762) (by decide +kernel), List.mem_of_getElem? (i := 763) (by decide +kernel)⟩
theorem lw_p26 : lw_okq (⟨"ValueMethodsModel", "prices", "()J"⟩, 24) := ⟨⟨by decide +kernel, by decide +kernel⟩, List.mem_of_getElem? (i := 596) (by decide +kernel), List.mem_of_getElem? (i := 766) (by decide +kernel), List.mem_of_getElem? (i := 767) (by decide +kernel)⟩
theorem lw_p27 : lw_okq (⟨"ValueMethodsModel", "thousandths", "()I"⟩, 24) := ⟨⟨by decide +kernel, by decide +kernel⟩, List.mem_of_getElem? (i := 596) (by decide +kernel), List.mem_of_getElem? (i := 770) (by decide +kernel), List.mem_of_getElem? (i := 771) (by decide +kernel)⟩
theorem lw_p28 : lw_okq (⟨"ValueMethodsModel", "shareOf", "(JIZ)J"⟩, 24) := ⟨⟨by decide +kernel, by decide +kernel⟩, List.mem_of_getElem? (i := 596) (by decide +kernel), List.mem_of_getElem? (i := 777) (by decide +kernel), List.mem_of_getElem? (i := 778) (by decide +kernel)⟩
theorem lw_p29 : lw_okq (⟨"ValueMethodsModel", "whole", "(Z)J"⟩, 24) := ⟨⟨by decide +kernel, by decide +kernel⟩, List.mem_of_getElem? (i := 596) (by decide +kernel), List.mem_of_getElem? (i := 781) (by decide +kernel), List.mem_of_getElem? (i := 782) (by decide +kernel)⟩
theorem lw_p30 : lw_okq (⟨"ValueMethodsModel", "weights", "()J"⟩, 24) := ⟨⟨by decide +kernel, by decide +kernel⟩, List.mem_of_getElem? (i := 596) (by decide +kernel), List.mem_of_getElem? (i := 785) (by decide +kernel), List.mem_of_getElem? (i := 786) (by decide +kernel)⟩
theorem lw_p31 : lw_okq (⟨"ValueMethodsModel", "partOf", "(IZ)J"⟩, 24) := ⟨⟨by decide +kernel, by decide +kernel⟩, List.mem_of_getElem? (i := 596) (by decide +kernel), List.mem_of_getElem? (i := 789) (by decide +kernel), List.mem_of_getElem? (i := 790) (by decide +kernel)⟩
def lw_privs_2 : List (MethodName × Nat) := [(⟨"ValueMethods", "downOf", "(I)J"⟩, 16), (⟨"java/lang/Throwable", "fillInStackTrace", "(I)Ljava/lang/Throwable;"⟩, 6), (⟨"ValueMethods", "ownValue", "(II)J"⟩, 16), (⟨"ValueMethodsModel", "tell", "(IZJZ)Z"⟩, 24), (⟨"ValueMethodsModel", "methodNow", "()I"⟩, 24), (⟨"ValueMethodsModel", "holds", "(I)Z"⟩, 24), (⟨"ValueMethodsModel", "deductive", "()J"⟩, 24), (⟨"ValueMethodsModel", "told", "(II)J"⟩, 24), (⟨"ValueMethodsModel", "transactionOf", "(I)J"⟩, 24), (⟨"ValueMethodsModel", "discount", "()J"⟩, 24), (⟨"ValueMethodsModel", "prices", "()J"⟩, 24), (⟨"ValueMethodsModel", "thousandths", "()I"⟩, 24), (⟨"ValueMethodsModel", "shareOf", "(JIZ)J"⟩, 24), (⟨"ValueMethodsModel", "whole", "(Z)J"⟩, 24), (⟨"ValueMethodsModel", "weights", "()J"⟩, 24), (⟨"ValueMethodsModel", "partOf", "(IZ)J"⟩, 24)]
theorem lw_r2 : ∀ q ∈ lw_privs_2, lw_okq q := List.forall_mem_cons.mpr ⟨lw_p16, List.forall_mem_cons.mpr ⟨lw_p17, List.forall_mem_cons.mpr ⟨lw_p18, List.forall_mem_cons.mpr ⟨lw_p19, List.forall_mem_cons.mpr ⟨lw_p20, List.forall_mem_cons.mpr ⟨lw_p21, List.forall_mem_cons.mpr ⟨lw_p22, List.forall_mem_cons.mpr ⟨lw_p23, List.forall_mem_cons.mpr ⟨lw_p24, List.forall_mem_cons.mpr ⟨lw_p25, List.forall_mem_cons.mpr ⟨lw_p26, List.forall_mem_cons.mpr ⟨lw_p27, List.forall_mem_cons.mpr ⟨lw_p28, List.forall_mem_cons.mpr ⟨lw_p29, List.forall_mem_cons.mpr ⟨lw_p30, List.forall_mem_cons.mpr ⟨lw_p31, fun _ h => absurd h List.not_mem_nil⟩⟩⟩⟩⟩⟩⟩⟩⟩⟩⟩⟩⟩⟩⟩⟩
theorem lw_p32 : lw_okq (⟨"ValueMethodsModel", "isTested", "()Z"⟩, 24) := ⟨⟨by decide +kernel, by decide +kernel⟩, List.mem_of_getElem? (i := 596) (by decide +kernel), List.mem_of_getElem? (i := 793) (by decide +kernel), List.mem_of_getElem? (i := 794) (by decide +kernel)⟩
theorem lw_p33 : lw_okq (⟨"ValueMethodsModel", "isLine", "(I)Z"⟩, 24) := ⟨⟨by decide +kernel, by decide +kernel⟩, List.mem_of_getElem? (i := 596) (by decide +kernel), List.mem_of_getElem? (i := 801) (by decide +kernel), List.mem_of_getElem? (i := 802) (by decide +kernel)⟩
theorem lw_p34 : lw_okq (⟨"ValueMethodsModel", "ownOf", "(II)J"⟩, 24) := ⟨⟨by decide +kernel, by decide +kernel⟩, List.mem_of_getElem? (i := 596) (by decide +kernel), List.mem_of_getElem? (i := 805) (by decide +kernel), List.mem_of_getElem? (i := 806) (by decide +kernel)⟩
theorem lw_p35 : lw_okq (⟨"ValueMethodsModel", "ownSum", "(I)J"⟩, 24) := ⟨⟨by decide +kernel, by decide +kernel⟩, List.mem_of_getElem? (i := 596) (by decide +kernel), List.mem_of_getElem? (i := 809) (by decide +kernel), List.mem_of_getElem? (i := 810) (by decide +kernel)⟩
theorem lw_p36 : lw_okq (⟨"ValueMethodsModel", "valueSum", "(I)J"⟩, 24) := ⟨⟨by decide +kernel, by decide +kernel⟩, List.mem_of_getElem? (i := 596) (by decide +kernel), List.mem_of_getElem? (i := 813) (by decide +kernel), List.mem_of_getElem? (i := 814) (by decide +kernel)⟩
theorem lw_p37 : lw_okq (⟨"ValueMethodsModel", "valueOf", "(II)J"⟩, 24) := ⟨⟨by decide +kernel, by decide +kernel⟩, List.mem_of_getElem? (i := 596) (by decide +kernel), List.mem_of_getElem? (i := 817) (by decide +kernel), List.mem_of_getElem? (i := 818) (by decide +kernel)⟩
theorem lw_p38 : lw_okq (⟨"ValueMethodsModel", "upOf", "(I)J"⟩, 24) := ⟨⟨by decide +kernel, by decide +kernel⟩, List.mem_of_getElem? (i := 596) (by decide +kernel), List.mem_of_getElem? (i := 821) (by decide +kernel), List.mem_of_getElem? (i := 822) (by decide +kernel)⟩
theorem lw_p39 : lw_okq (⟨"ValueMethodsModel", "isOwn", "(I)Z"⟩, 24) := ⟨⟨by decide +kernel, by decide +kernel⟩, List.mem_of_getElem? (i := 596) (by decide +kernel), List.mem_of_getElem? (i := 825) (by decide +kernel), List.mem_of_getElem? (i := 826) (by decide +kernel)⟩
theorem lw_p40 : lw_okq (⟨"ValueMethodsModel", "downOf", "(I)J"⟩, 24) := ⟨⟨by decide +kernel, by decide +kernel⟩, List.mem_of_getElem? (i := 596) (by decide +kernel), List.mem_of_getElem? (i := 829) (by decide +kernel), List.mem_of_getElem? (i := 830) (by decide +kernel)⟩
def lw_privs_3 : List (MethodName × Nat) := [(⟨"ValueMethodsModel", "isTested", "()Z"⟩, 24), (⟨"ValueMethodsModel", "isLine", "(I)Z"⟩, 24), (⟨"ValueMethodsModel", "ownOf", "(II)J"⟩, 24), (⟨"ValueMethodsModel", "ownSum", "(I)J"⟩, 24), (⟨"ValueMethodsModel", "valueSum", "(I)J"⟩, 24), (⟨"ValueMethodsModel", "valueOf", "(II)J"⟩, 24), (⟨"ValueMethodsModel", "upOf", "(I)J"⟩, 24), (⟨"ValueMethodsModel", "isOwn", "(I)Z"⟩, 24), (⟨"ValueMethodsModel", "downOf", "(I)J"⟩, 24)]
theorem lw_r3 : ∀ q ∈ lw_privs_3, lw_okq q := List.forall_mem_cons.mpr ⟨lw_p32, List.forall_mem_cons.mpr ⟨lw_p33, List.forall_mem_cons.mpr ⟨lw_p34, List.forall_mem_cons.mpr ⟨lw_p35, List.forall_mem_cons.mpr ⟨lw_p36, List.forall_mem_cons.mpr ⟨lw_p37, List.forall_mem_cons.mpr ⟨lw_p38, List.forall_mem_cons.mpr ⟨lw_p39, List.forall_mem_cons.mpr ⟨lw_p40, fun _ h => absurd h List.not_mem_nil⟩⟩⟩⟩⟩⟩⟩⟩⟩
def lw_privs : List (MethodName × Nat) := lw_privs_1 ++ (lw_privs_2 ++ (lw_privs_3))
def lw_tbl : List Cond := k2_sels lw_privs ++ tables_1
theorem lw_privs_ok : ∀ q ∈ lw_privs, lw_okq q := by
  show ∀ q ∈ lw_privs_1 ++ (lw_privs_2 ++ (lw_privs_3)), lw_okq q
  exact List.forall_mem_append.mpr ⟨lw_r1, List.forall_mem_append.mpr ⟨lw_r2, lw_r3⟩⟩
def lw_gt : List Cond := lw_tbl.filter goodWord
def rn_V : String := "ValueMethods"
def tf_V : u_T := fun k => match k with
  | 0 => ("ValueMethods", "lines", "LValueMethods$Lines;", true)
  | 1 => ("ValueMethods", "additions", "LValueMethods$Charges;", true)
  | 2 => ("ValueMethods", "deductions", "LValueMethods$Charges;", true)
  | 3 => ("ValueMethods", "discounts", "LValueMethods$Discounts;", true)
  | 4 => ("ValueMethods", "rates", "LValueMethods$Rates;", true)
  | 5 => ("ValueMethods", "conditions", "[Z", true)
  | 6 => ("ValueMethods", "figured", "[Z", true)
  | 7 => ("ValueMethods", "figuresA", "[J", true)
  | 8 => ("ValueMethods", "figuresB", "[J", true)
  | 9 => ("ValueMethods", "values", "[J", true)
  | 10 => ("ValueMethods", "invoiceDay", "I", false)
  | 11 => ("ValueMethods", "paidDay", "I", false)
  | 12 => ("ValueMethods", "areRelated", "Z", false)
  | 13 => ("ValueMethods", "testValue", "J", false)
  | 14 => ("ValueMethods", "testBand", "I", false)
  | _ => ("ValueMethods", "isTurned", "Z", false)
def ty_V : Nat → FieldType := fun k => match k with
  | 0 => .object "ValueMethods$Lines"
  | 1 => .object "ValueMethods$Charges"
  | 2 => .object "ValueMethods$Charges"
  | 3 => .object "ValueMethods$Discounts"
  | 4 => .object "ValueMethods$Rates"
  | 5 => .array .boolean
  | 6 => .array .boolean
  | 7 => .array .long
  | 8 => .array .long
  | 9 => .array .long
  | 10 => .int
  | 11 => .int
  | 12 => .boolean
  | 13 => .long
  | 14 => .int
  | _ => .boolean
theorem nm_V : ∀ a, a < 16 → ∀ b, b < 16 → a ≠ b → (tf_V a).2.1 ≠ (tf_V b).2.1 := by decide +kernel
theorem tk_V : ∀ k, k < 16 → parseFieldDescriptor (tf_V k).2.2.1 = some (ty_V k) := by decide +kernel
def rn_L : String := "ValueMethods$Lines"
def tf_L : u_T := fun k => match k with
  | 0 => ("ValueMethods$Lines", "weights", "[J", true)
  | 1 => ("ValueMethods$Lines", "prices", "[J", true)
  | 2 => ("ValueMethods$Lines", "ones", "[J", true)
  | 3 => ("ValueMethods$Lines", "parts", "[J", true)
  | 4 => ("ValueMethods$Lines", "rests", "[J", true)
  | 5 => ("ValueMethods$Lines", "size", "I", false)
  | 6 => ("ValueMethods$Lines", "weightSum", "J", false)
  | _ => ("ValueMethods$Lines", "priceSum", "J", false)
def ty_L : Nat → FieldType := fun k => match k with
  | 0 => .array .long
  | 1 => .array .long
  | 2 => .array .long
  | 3 => .array .long
  | 4 => .array .long
  | 5 => .int
  | 6 => .long
  | _ => .long
theorem nm_L : ∀ a, a < 8 → ∀ b, b < 8 → a ≠ b → (tf_L a).2.1 ≠ (tf_L b).2.1 := by decide +kernel
theorem tk_L : ∀ k, k < 8 → parseFieldDescriptor (tf_L k).2.2.1 = some (ty_L k) := by decide +kernel
def rn_C : String := "ValueMethods$Charges"
def tf_C : u_T := fun k => match k with
  | 0 => ("ValueMethods$Charges", "cents", "[J", true)
  | 1 => ("ValueMethods$Charges", "byWeight", "[Z", true)
  | 2 => ("ValueMethods$Charges", "told", "[Z", true)
  | 3 => ("ValueMethods$Charges", "toldKinds", "I", false)
  | _ => ("ValueMethods$Charges", "total", "J", false)
def ty_C : Nat → FieldType := fun k => match k with
  | 0 => .array .long
  | 1 => .array .boolean
  | 2 => .array .boolean
  | 3 => .int
  | _ => .long
theorem nm_C : ∀ a, a < 5 → ∀ b, b < 5 → a ≠ b → (tf_C a).2.1 ≠ (tf_C b).2.1 := by decide +kernel
theorem tk_C : ∀ k, k < 5 → parseFieldDescriptor (tf_C k).2.2.1 = some (ty_C k) := by decide +kernel
def rn_D : String := "ValueMethods$Discounts"
def tf_D : u_T := fun k => match k with
  | 0 => ("ValueMethods$Discounts", "rowDays", "[I", true)
  | 1 => ("ValueMethods$Discounts", "rowThousandths", "[I", true)
  | _ => ("ValueMethods$Discounts", "size", "I", false)
def ty_D : Nat → FieldType := fun k => match k with
  | 0 => .array .int
  | 1 => .array .int
  | _ => .int
theorem nm_D : ∀ a, a < 3 → ∀ b, b < 3 → a ≠ b → (tf_D a).2.1 ≠ (tf_D b).2.1 := by decide +kernel
theorem tk_D : ∀ k, k < 3 → parseFieldDescriptor (tf_D k).2.2.1 = some (ty_D k) := by decide +kernel
def rn_R : String := "ValueMethods$Rates"
def tf_R : u_T := fun k => match k with
  | 0 => ("ValueMethods$Rates", "ups", "[I", true)
  | _ => ("ValueMethods$Rates", "downs", "[I", true)
def ty_R : Nat → FieldType := fun k => match k with
  | 0 => .array .int
  | _ => .array .int
theorem nm_R : ∀ a, a < 2 → ∀ b, b < 2 → a ≠ b → (tf_R a).2.1 ≠ (tf_R b).2.1 := by decide +kernel
theorem tk_R : ∀ k, k < 2 → parseFieldDescriptor (tf_R k).2.2.1 = some (ty_R k) := by decide +kernel
def rn_M : String := "ValueMethodsModel"
def tf_M : u_T := fun k => match k with
  | 0 => ("ValueMethodsModel", "thrown", "I", false)
  | 1 => ("ValueMethodsModel", "lines", "I", false)
  | 2 => ("ValueMethodsModel", "rows", "I", false)
  | 3 => ("ValueMethodsModel", "weightSum", "J", false)
  | 4 => ("ValueMethodsModel", "priceSum", "J", false)
  | 5 => ("ValueMethodsModel", "weight", "[J", true)
  | 6 => ("ValueMethodsModel", "price", "[J", true)
  | 7 => ("ValueMethodsModel", "isTold", "[Z", true)
  | 8 => ("ValueMethodsModel", "cents", "[J", true)
  | 9 => ("ValueMethodsModel", "byWeights", "[Z", true)
  | 10 => ("ValueMethodsModel", "rowDays", "[I", true)
  | 11 => ("ValueMethodsModel", "rowThousandths", "[I", true)
  | 12 => ("ValueMethodsModel", "day", "I", false)
  | 13 => ("ValueMethodsModel", "paid", "I", false)
  | 14 => ("ValueMethodsModel", "up", "[I", true)
  | 15 => ("ValueMethodsModel", "down", "[I", true)
  | 16 => ("ValueMethodsModel", "condition", "[Z", true)
  | 17 => ("ValueMethodsModel", "hasFigures", "[Z", true)
  | 18 => ("ValueMethodsModel", "figureA", "[J", true)
  | 19 => ("ValueMethodsModel", "figureB", "[J", true)
  | 20 => ("ValueMethodsModel", "isRelated", "Z", false)
  | 21 => ("ValueMethodsModel", "isTurned", "Z", false)
  | 22 => ("ValueMethodsModel", "test", "J", false)
  | _ => ("ValueMethodsModel", "band", "I", false)
def ty_M : Nat → FieldType := fun k => match k with
  | 0 => .int
  | 1 => .int
  | 2 => .int
  | 3 => .long
  | 4 => .long
  | 5 => .array .long
  | 6 => .array .long
  | 7 => .array .boolean
  | 8 => .array .long
  | 9 => .array .boolean
  | 10 => .array .int
  | 11 => .array .int
  | 12 => .int
  | 13 => .int
  | 14 => .array .int
  | 15 => .array .int
  | 16 => .array .boolean
  | 17 => .array .boolean
  | 18 => .array .long
  | 19 => .array .long
  | 20 => .boolean
  | 21 => .boolean
  | 22 => .long
  | _ => .int
theorem nm_M : ∀ a, a < 24 → ∀ b, b < 24 → a ≠ b → (tf_M a).2.1 ≠ (tf_M b).2.1 := by decide +kernel
theorem tk_M : ∀ k, k < 24 → parseFieldDescriptor (tf_M k).2.2.1 = some (ty_M k) := by decide +kernel
def rn_W : String := "ValueMethodsLaw"
abbrev cls_t : List vw_C := [(rn_C, tf_C, 5), (rn_D, tf_D, 3), (rn_L, tf_L, 8), (rn_R, tf_R, 2), (rn_V, tf_V, 16), (rn_M, tf_M, 24)]
abbrev by_V_init : ByteArray := prog_1_method_1_code
def yn_V_init : MethodName := ⟨rn_V, "<init>", "()V"⟩
def ws_V_init : List Cond := .code yn_V_init by_V_init 1 none :: lw_gt
abbrev by_V_line : ByteArray := prog_1_method_2_code
def yn_V_line : MethodName := ⟨rn_V, "line", "(JJ)I"⟩
def ws_V_line : List Cond := .code yn_V_line by_V_line 5 (some .int) :: lw_gt
abbrev by_V_add : ByteArray := prog_1_method_3_code
def yn_V_add : MethodName := ⟨rn_V, "add", "(IJZ)Z"⟩
def ws_V_add : List Cond := .code yn_V_add by_V_add 5 (some .boolean) :: lw_gt
abbrev by_V_less : ByteArray := prog_1_method_4_code
def yn_V_less : MethodName := ⟨rn_V, "less", "(IJZ)Z"⟩
def ws_V_less : List Cond := .code yn_V_less by_V_less 5 (some .boolean) :: lw_gt
abbrev by_V_discount : ByteArray := prog_1_method_5_code
def yn_V_discount : MethodName := ⟨rn_V, "discount", "(II)Z"⟩
def ws_V_discount : List Cond := .code yn_V_discount by_V_discount 3 (some .boolean) :: lw_gt
abbrev by_V_days : ByteArray := prog_1_method_6_code
def yn_V_days : MethodName := ⟨rn_V, "days", "(II)Z"⟩
def ws_V_days : List Cond := .code yn_V_days by_V_days 3 (some .boolean) :: lw_gt
abbrev by_V_rate : ByteArray := prog_1_method_7_code
def yn_V_rate : MethodName := ⟨rn_V, "rate", "(III)Z"⟩
def ws_V_rate : List Cond := .code yn_V_rate by_V_rate 4 (some .boolean) :: lw_gt
abbrev by_V_condition : ByteArray := prog_1_method_8_code
def yn_V_condition : MethodName := ⟨rn_V, "condition", "(IZ)Z"⟩
def ws_V_condition : List Cond := .code yn_V_condition by_V_condition 3 (some .boolean) :: lw_gt
abbrev by_V_figures : ByteArray := prog_1_method_9_code
def yn_V_figures : MethodName := ⟨rn_V, "figures", "(IJJ)Z"⟩
def ws_V_figures : List Cond := .code yn_V_figures by_V_figures 6 (some .boolean) :: lw_gt
abbrev by_V_related : ByteArray := prog_1_method_10_code
def yn_V_related : MethodName := ⟨rn_V, "related", "(ZJI)Z"⟩
def ws_V_related : List Cond := .code yn_V_related by_V_related 6 (some .boolean) :: lw_gt
abbrev by_V_turned : ByteArray := prog_1_method_11_code
def yn_V_turned : MethodName := ⟨rn_V, "turned", "(Z)V"⟩
def ws_V_turned : List Cond := .code yn_V_turned by_V_turned 2 none :: lw_gt
abbrev by_V_method : ByteArray := prog_1_method_12_code
def yn_V_method : MethodName := ⟨rn_V, "method", "()I"⟩
def ws_V_method : List Cond := .code yn_V_method by_V_method 1 (some .int) :: lw_gt
abbrev by_V_value : ByteArray := prog_1_method_13_code
def yn_V_value : MethodName := ⟨rn_V, "value", "(II)J"⟩
def ws_V_value : List Cond := .code yn_V_value by_V_value 4 (some .long) :: lw_gt
abbrev by_V_transaction : ByteArray := prog_1_method_14_code
def yn_V_transaction : MethodName := ⟨rn_V, "transaction", "(I)J"⟩
def ws_V_transaction : List Cond := .code yn_V_transaction by_V_transaction 2 (some .long) :: lw_gt
abbrev by_V_share : ByteArray := prog_1_method_15_code
def yn_V_share : MethodName := ⟨rn_V, "share", "(JIZ)J"⟩
def ws_V_share : List Cond := .code yn_V_share by_V_share 5 (some .long) :: lw_gt
abbrev by_V_plain : ByteArray := prog_1_method_16_code
def yn_V_plain : MethodName := ⟨rn_V, "plain", "(JI)J"⟩
def ws_V_plain : List Cond := .code yn_V_plain by_V_plain 6 (some .long) :: lw_gt
abbrev by_V_count : ByteArray := prog_1_method_17_code
def yn_V_count : MethodName := ⟨rn_V, "count", "(I)I"⟩
def ws_V_count : List Cond := .code yn_V_count by_V_count 2 (some .int) :: lw_gt
abbrev by_V_sum : ByteArray := prog_1_method_18_code
def yn_V_sum : MethodName := ⟨rn_V, "sum", "(I)J"⟩
def ws_V_sum : List Cond := .code yn_V_sum by_V_sum 3 (some .long) :: lw_gt
abbrev by_V_findMethod : ByteArray := prog_1_method_19_code
def yn_V_findMethod : MethodName := ⟨rn_V, "findMethod", "()I"⟩
def ws_V_findMethod : List Cond := .code yn_V_findMethod by_V_findMethod 6 (some .int) :: lw_gt
abbrev by_V_fillTransaction : ByteArray := prog_1_method_20_code
def yn_V_fillTransaction : MethodName := ⟨rn_V, "fillTransaction", "()V"⟩
def ws_V_fillTransaction : List Cond := .code yn_V_fillTransaction by_V_fillTransaction 2 none :: lw_gt
abbrev by_V_mixInAll : ByteArray := prog_1_method_21_code
def yn_V_mixInAll : MethodName := ⟨rn_V, "mixInAll", "(LValueMethods$Charges;I)V"⟩
def ws_V_mixInAll : List Cond := .code yn_V_mixInAll by_V_mixInAll 4 none :: lw_gt
abbrev by_V_mixIn : ByteArray := prog_1_method_22_code
def yn_V_mixIn : MethodName := ⟨rn_V, "mixIn", "(JZI)V"⟩
def ws_V_mixIn : List Cond := .code yn_V_mixIn by_V_mixIn 6 none :: lw_gt
abbrev by_V_noValueBelowZero : ByteArray := prog_1_method_23_code
def yn_V_noValueBelowZero : MethodName := ⟨rn_V, "noValueBelowZero", "()Z"⟩
def ws_V_noValueBelowZero : List Cond := .code yn_V_noValueBelowZero by_V_noValueBelowZero 2 (some .boolean) :: lw_gt
abbrev by_V_passesTest : ByteArray := prog_1_method_24_code
def yn_V_passesTest : MethodName := ⟨rn_V, "passesTest", "()Z"⟩
def ws_V_passesTest : List Cond := .code yn_V_passesTest by_V_passesTest 1 (some .boolean) :: lw_gt
abbrev by_V_fillByFigures : ByteArray := prog_1_method_25_code
def yn_V_fillByFigures : MethodName := ⟨rn_V, "fillByFigures", "(I)Z"⟩
def ws_V_fillByFigures : List Cond := .code yn_V_fillByFigures by_V_fillByFigures 6 (some .boolean) :: lw_gt
abbrev by_V_fillByWeights : ByteArray := prog_1_method_26_code
def yn_V_fillByWeights : MethodName := ⟨rn_V, "fillByWeights", "(JJ)Z"⟩
def ws_V_fillByWeights : List Cond := .code yn_V_fillByWeights by_V_fillByWeights 6 (some .boolean) :: lw_gt
abbrev by_V_fillShared : ByteArray := prog_1_method_27_code
def yn_V_fillShared : MethodName := ⟨rn_V, "fillShared", "(J)Z"⟩
def ws_V_fillShared : List Cond := .code yn_V_fillShared by_V_fillShared 4 (some .boolean) :: lw_gt
abbrev by_V_figuresCanBe : ByteArray := prog_1_method_28_code
def yn_V_figuresCanBe : MethodName := ⟨rn_V, "figuresCanBe", "(IJJ)Z"⟩
def ws_V_figuresCanBe : List Cond := .code yn_V_figuresCanBe by_V_figuresCanBe 5 (some .boolean) :: lw_gt
abbrev by_V_valueSum : ByteArray := prog_1_method_29_code
def yn_V_valueSum : MethodName := ⟨rn_V, "valueSum", "()J"⟩
def ws_V_valueSum : List Cond := .code yn_V_valueSum by_V_valueSum 4 (some .long) :: lw_gt
abbrev by_V_discountCents : ByteArray := prog_1_method_30_code
def yn_V_discountCents : MethodName := ⟨rn_V, "discountCents", "()J"⟩
def ws_V_discountCents : List Cond := .code yn_V_discountCents by_V_discountCents 1 (some .long) :: lw_gt
abbrev by_V_period : ByteArray := prog_1_method_31_code
def yn_V_period : MethodName := ⟨rn_V, "period", "()I"⟩
def ws_V_period : List Cond := .code yn_V_period by_V_period 1 (some .int) :: lw_gt
abbrev by_V_ownSum : ByteArray := prog_1_method_32_code
def yn_V_ownSum : MethodName := ⟨rn_V, "ownSum", "(I)J"⟩
def ws_V_ownSum : List Cond := .code yn_V_ownSum by_V_ownSum 2 (some .long) :: lw_gt
abbrev by_V_ownValue : ByteArray := prog_1_method_33_code
def yn_V_ownValue : MethodName := ⟨rn_V, "ownValue", "(II)J"⟩
def ws_V_ownValue : List Cond := .code yn_V_ownValue by_V_ownValue 3 (some .long) :: lw_gt
abbrev by_V_upOf : ByteArray := prog_1_method_34_code
def yn_V_upOf : MethodName := ⟨rn_V, "upOf", "(I)J"⟩
def ws_V_upOf : List Cond := .code yn_V_upOf by_V_upOf 2 (some .long) :: lw_gt
abbrev by_V_downOf : ByteArray := prog_1_method_35_code
def yn_V_downOf : MethodName := ⟨rn_V, "downOf", "(I)J"⟩
def ws_V_downOf : List Cond := .code yn_V_downOf by_V_downOf 2 (some .long) :: lw_gt
abbrev by_V_isInOwnCurrency : ByteArray := prog_1_method_36_code
def yn_V_isInOwnCurrency : MethodName := ⟨rn_V, "isInOwnCurrency", "(I)Z"⟩
def ws_V_isInOwnCurrency : List Cond := .code yn_V_isInOwnCurrency by_V_isInOwnCurrency 1 (some .boolean) :: lw_gt
abbrev by_V_within : ByteArray := prog_1_method_37_code
def yn_V_within : MethodName := ⟨rn_V, "within", "(JJJ)Z"⟩
def ws_V_within : List Cond := .code yn_V_within by_V_within 6 (some .boolean) :: lw_gt
abbrev by_V_near : ByteArray := prog_1_method_38_code
def yn_V_near : MethodName := ⟨rn_V, "near", "(JJ)J"⟩
def ws_V_near : List Cond := .code yn_V_near by_V_near 6 (some .long) :: lw_gt
abbrev by_M_init : ByteArray := prog_7_method_1_code
def yn_M_init : MethodName := ⟨rn_M, "<init>", "()V"⟩
def ws_M_init : List Cond := .code yn_M_init by_M_init 1 none :: lw_gt
abbrev by_M_thrown : ByteArray := prog_7_method_2_code
def yn_M_thrown : MethodName := ⟨rn_M, "thrown", "()I"⟩
def ws_M_thrown : List Cond := .code yn_M_thrown by_M_thrown 1 (some .int) :: lw_gt
abbrev by_M_in : ByteArray := prog_7_method_3_code
def yn_M_in : MethodName := ⟨rn_M, "in", "(JJJ)Z"⟩
def ws_M_in : List Cond := .code yn_M_in by_M_in 6 (some .boolean) :: lw_gt
abbrev by_M_near : ByteArray := prog_7_method_4_code
def yn_M_near : MethodName := ⟨rn_M, "near", "(JJ)J"⟩
def ws_M_near : List Cond := .code yn_M_near by_M_near 4 (some .long) :: lw_gt
abbrev by_M_weights : ByteArray := prog_7_method_5_code
def yn_M_weights : MethodName := ⟨rn_M, "weights", "()J"⟩
def ws_M_weights : List Cond := .code yn_M_weights by_M_weights 1 (some .long) :: lw_gt
abbrev by_M_prices : ByteArray := prog_7_method_6_code
def yn_M_prices : MethodName := ⟨rn_M, "prices", "()J"⟩
def ws_M_prices : List Cond := .code yn_M_prices by_M_prices 1 (some .long) :: lw_gt
abbrev by_M_partOf : ByteArray := prog_7_method_7_code
def yn_M_partOf : MethodName := ⟨rn_M, "partOf", "(IZ)J"⟩
def ws_M_partOf : List Cond := .code yn_M_partOf by_M_partOf 3 (some .long) :: lw_gt
abbrev by_M_whole : ByteArray := prog_7_method_8_code
def yn_M_whole : MethodName := ⟨rn_M, "whole", "(Z)J"⟩
def ws_M_whole : List Cond := .code yn_M_whole by_M_whole 2 (some .long) :: lw_gt
abbrev by_M_shareOf : ByteArray := prog_7_method_9_code
def yn_M_shareOf : MethodName := ⟨rn_M, "shareOf", "(JIZ)J"⟩
def ws_M_shareOf : List Cond := .code yn_M_shareOf by_M_shareOf 15 (some .long) :: lw_gt
abbrev by_M_thousandths : ByteArray := prog_7_method_10_code
def yn_M_thousandths : MethodName := ⟨rn_M, "thousandths", "()I"⟩
def ws_M_thousandths : List Cond := .code yn_M_thousandths by_M_thousandths 3 (some .int) :: lw_gt
abbrev by_M_discount : ByteArray := prog_7_method_11_code
def yn_M_discount : MethodName := ⟨rn_M, "discount", "()J"⟩
def ws_M_discount : List Cond := .code yn_M_discount by_M_discount 1 (some .long) :: lw_gt
abbrev by_M_transactionOf : ByteArray := prog_7_method_12_code
def yn_M_transactionOf : MethodName := ⟨rn_M, "transactionOf", "(I)J"⟩
def ws_M_transactionOf : List Cond := .code yn_M_transactionOf by_M_transactionOf 7 (some .long) :: lw_gt
abbrev by_M_told : ByteArray := prog_7_method_13_code
def yn_M_told : MethodName := ⟨rn_M, "told", "(II)J"⟩
def ws_M_told : List Cond := .code yn_M_told by_M_told 6 (some .long) :: lw_gt
abbrev by_M_isTested : ByteArray := prog_7_method_14_code
def yn_M_isTested : MethodName := ⟨rn_M, "isTested", "()Z"⟩
def ws_M_isTested : List Cond := .code yn_M_isTested by_M_isTested 5 (some .boolean) :: lw_gt
abbrev by_M_deductive : ByteArray := prog_7_method_15_code
def yn_M_deductive : MethodName := ⟨rn_M, "deductive", "()J"⟩
def ws_M_deductive : List Cond := .code yn_M_deductive by_M_deductive 1 (some .long) :: lw_gt
abbrev by_M_holds : ByteArray := prog_7_method_16_code
def yn_M_holds : MethodName := ⟨rn_M, "holds", "(I)Z"⟩
def ws_M_holds : List Cond := .code yn_M_holds by_M_holds 4 (some .boolean) :: lw_gt
abbrev by_M_methodNow : ByteArray := prog_7_method_17_code
def yn_M_methodNow : MethodName := ⟨rn_M, "methodNow", "()I"⟩
def ws_M_methodNow : List Cond := .code yn_M_methodNow by_M_methodNow 4 (some .int) :: lw_gt
abbrev by_M_valueOf : ByteArray := prog_7_method_18_code
def yn_M_valueOf : MethodName := ⟨rn_M, "valueOf", "(II)J"⟩
def ws_M_valueOf : List Cond := .code yn_M_valueOf by_M_valueOf 3 (some .long) :: lw_gt
abbrev by_M_isOwn : ByteArray := prog_7_method_19_code
def yn_M_isOwn : MethodName := ⟨rn_M, "isOwn", "(I)Z"⟩
def ws_M_isOwn : List Cond := .code yn_M_isOwn by_M_isOwn 2 (some .boolean) :: lw_gt
abbrev by_M_upOf : ByteArray := prog_7_method_20_code
def yn_M_upOf : MethodName := ⟨rn_M, "upOf", "(I)J"⟩
def ws_M_upOf : List Cond := .code yn_M_upOf by_M_upOf 2 (some .long) :: lw_gt
abbrev by_M_downOf : ByteArray := prog_7_method_21_code
def yn_M_downOf : MethodName := ⟨rn_M, "downOf", "(I)J"⟩
def ws_M_downOf : List Cond := .code yn_M_downOf by_M_downOf 2 (some .long) :: lw_gt
abbrev by_M_valueSum : ByteArray := prog_7_method_22_code
def yn_M_valueSum : MethodName := ⟨rn_M, "valueSum", "(I)J"⟩
def ws_M_valueSum : List Cond := .code yn_M_valueSum by_M_valueSum 5 (some .long) :: lw_gt
abbrev by_M_ownSum : ByteArray := prog_7_method_23_code
def yn_M_ownSum : MethodName := ⟨rn_M, "ownSum", "(I)J"⟩
def ws_M_ownSum : List Cond := .code yn_M_ownSum by_M_ownSum 2 (some .long) :: lw_gt
abbrev by_M_ownOf : ByteArray := prog_7_method_24_code
def yn_M_ownOf : MethodName := ⟨rn_M, "ownOf", "(II)J"⟩
def ws_M_ownOf : List Cond := .code yn_M_ownOf by_M_ownOf 11 (some .long) :: lw_gt
abbrev by_M_line : ByteArray := prog_7_method_25_code
def yn_M_line : MethodName := ⟨rn_M, "line", "(JJ)I"⟩
def ws_M_line : List Cond := .code yn_M_line by_M_line 5 (some .int) :: lw_gt
abbrev by_M_tell : ByteArray := prog_7_method_26_code
def yn_M_tell : MethodName := ⟨rn_M, "tell", "(IZJZ)Z"⟩
def ws_M_tell : List Cond := .code yn_M_tell by_M_tell 6 (some .boolean) :: lw_gt
abbrev by_M_add : ByteArray := prog_7_method_27_code
def yn_M_add : MethodName := ⟨rn_M, "add", "(IJZ)Z"⟩
def ws_M_add : List Cond := .code yn_M_add by_M_add 5 (some .boolean) :: lw_gt
abbrev by_M_less : ByteArray := prog_7_method_28_code
def yn_M_less : MethodName := ⟨rn_M, "less", "(IJZ)Z"⟩
def ws_M_less : List Cond := .code yn_M_less by_M_less 5 (some .boolean) :: lw_gt
abbrev by_M_discount2 : ByteArray := prog_7_method_29_code
def yn_M_discount2 : MethodName := ⟨rn_M, "discount", "(II)Z"⟩
def ws_M_discount2 : List Cond := .code yn_M_discount2 by_M_discount2 3 (some .boolean) :: lw_gt
abbrev by_M_days : ByteArray := prog_7_method_30_code
def yn_M_days : MethodName := ⟨rn_M, "days", "(II)Z"⟩
def ws_M_days : List Cond := .code yn_M_days by_M_days 3 (some .boolean) :: lw_gt
abbrev by_M_rate : ByteArray := prog_7_method_31_code
def yn_M_rate : MethodName := ⟨rn_M, "rate", "(III)Z"⟩
def ws_M_rate : List Cond := .code yn_M_rate by_M_rate 4 (some .boolean) :: lw_gt
abbrev by_M_condition : ByteArray := prog_7_method_32_code
def yn_M_condition : MethodName := ⟨rn_M, "condition", "(IZ)Z"⟩
def ws_M_condition : List Cond := .code yn_M_condition by_M_condition 3 (some .boolean) :: lw_gt
abbrev by_M_figures : ByteArray := prog_7_method_33_code
def yn_M_figures : MethodName := ⟨rn_M, "figures", "(IJJ)Z"⟩
def ws_M_figures : List Cond := .code yn_M_figures by_M_figures 7 (some .boolean) :: lw_gt
abbrev by_M_related : ByteArray := prog_7_method_34_code
def yn_M_related : MethodName := ⟨rn_M, "related", "(ZJI)Z"⟩
def ws_M_related : List Cond := .code yn_M_related by_M_related 5 (some .boolean) :: lw_gt
abbrev by_M_turned : ByteArray := prog_7_method_35_code
def yn_M_turned : MethodName := ⟨rn_M, "turned", "(Z)V"⟩
def ws_M_turned : List Cond := .code yn_M_turned by_M_turned 2 none :: lw_gt
abbrev by_M_method : ByteArray := prog_7_method_36_code
def yn_M_method : MethodName := ⟨rn_M, "method", "()I"⟩
def ws_M_method : List Cond := .code yn_M_method by_M_method 1 (some .int) :: lw_gt
abbrev by_M_isLine : ByteArray := prog_7_method_37_code
def yn_M_isLine : MethodName := ⟨rn_M, "isLine", "(I)Z"⟩
def ws_M_isLine : List Cond := .code yn_M_isLine by_M_isLine 2 (some .boolean) :: lw_gt
abbrev by_M_value : ByteArray := prog_7_method_38_code
def yn_M_value : MethodName := ⟨rn_M, "value", "(II)J"⟩
def ws_M_value : List Cond := .code yn_M_value by_M_value 5 (some .long) :: lw_gt
abbrev by_M_transaction : ByteArray := prog_7_method_39_code
def yn_M_transaction : MethodName := ⟨rn_M, "transaction", "(I)J"⟩
def ws_M_transaction : List Cond := .code yn_M_transaction by_M_transaction 2 (some .long) :: lw_gt
abbrev by_M_share : ByteArray := prog_7_method_40_code
def yn_M_share : MethodName := ⟨rn_M, "share", "(JIZ)J"⟩
def ws_M_share : List Cond := .code yn_M_share by_M_share 5 (some .long) :: lw_gt
abbrev by_M_plain : ByteArray := prog_7_method_41_code
def yn_M_plain : MethodName := ⟨rn_M, "plain", "(JI)J"⟩
def ws_M_plain : List Cond := .code yn_M_plain by_M_plain 4 (some .long) :: lw_gt
abbrev by_M_count : ByteArray := prog_7_method_42_code
def yn_M_count : MethodName := ⟨rn_M, "count", "(I)I"⟩
def ws_M_count : List Cond := .code yn_M_count by_M_count 4 (some .int) :: lw_gt
abbrev by_M_sum : ByteArray := prog_7_method_43_code
def yn_M_sum : MethodName := ⟨rn_M, "sum", "(I)J"⟩
def ws_M_sum : List Cond := .code yn_M_sum by_M_sum 3 (some .long) :: lw_gt
abbrev by_C_init : ByteArray := prog_2_method_1_code
def yn_C_init : MethodName := ⟨rn_C, "<init>", "(I)V"⟩
def ws_C_init : List Cond := .code yn_C_init by_C_init 2 none :: lw_gt
abbrev by_C_kinds : ByteArray := prog_2_method_2_code
def yn_C_kinds : MethodName := ⟨rn_C, "kinds", "()I"⟩
def ws_C_kinds : List Cond := .code yn_C_kinds by_C_kinds 1 (some .int) :: lw_gt
abbrev by_C_hasKind : ByteArray := prog_2_method_3_code
def yn_C_hasKind : MethodName := ⟨rn_C, "hasKind", "(I)Z"⟩
def ws_C_hasKind : List Cond := .code yn_C_hasKind by_C_hasKind 2 (some .boolean) :: lw_gt
abbrev by_C_tell : ByteArray := prog_2_method_4_code
def yn_C_tell : MethodName := ⟨rn_C, "tell", "(IJZ)Z"⟩
def ws_C_tell : List Cond := .code yn_C_tell by_C_tell 5 (some .boolean) :: lw_gt
abbrev by_C_centsOf : ByteArray := prog_2_method_5_code
def yn_C_centsOf : MethodName := ⟨rn_C, "centsOf", "(I)J"⟩
def ws_C_centsOf : List Cond := .code yn_C_centsOf by_C_centsOf 2 (some .long) :: lw_gt
abbrev by_C_goesByWeight : ByteArray := prog_2_method_6_code
def yn_C_goesByWeight : MethodName := ⟨rn_C, "goesByWeight", "(I)Z"⟩
def ws_C_goesByWeight : List Cond := .code yn_C_goesByWeight by_C_goesByWeight 2 (some .boolean) :: lw_gt
abbrev by_C_toldKinds : ByteArray := prog_2_method_7_code
def yn_C_toldKinds : MethodName := ⟨rn_C, "toldKinds", "()I"⟩
def ws_C_toldKinds : List Cond := .code yn_C_toldKinds by_C_toldKinds 1 (some .int) :: lw_gt
abbrev by_C_total : ByteArray := prog_2_method_8_code
def yn_C_total : MethodName := ⟨rn_C, "total", "()J"⟩
def ws_C_total : List Cond := .code yn_C_total by_C_total 1 (some .long) :: lw_gt
abbrev by_D_init : ByteArray := prog_3_method_1_code
def yn_D_init : MethodName := ⟨rn_D, "<init>", "()V"⟩
def ws_D_init : List Cond := .code yn_D_init by_D_init 1 none :: lw_gt
abbrev by_D_isFull : ByteArray := prog_3_method_2_code
def yn_D_isFull : MethodName := ⟨rn_D, "isFull", "()Z"⟩
def ws_D_isFull : List Cond := .code yn_D_isFull by_D_isFull 1 (some .boolean) :: lw_gt
abbrev by_D_size : ByteArray := prog_3_method_3_code
def yn_D_size : MethodName := ⟨rn_D, "size", "()I"⟩
def ws_D_size : List Cond := .code yn_D_size by_D_size 1 (some .int) :: lw_gt
abbrev by_D_tell : ByteArray := prog_3_method_4_code
def yn_D_tell : MethodName := ⟨rn_D, "tell", "(II)Z"⟩
def ws_D_tell : List Cond := .code yn_D_tell by_D_tell 3 (some .boolean) :: lw_gt
abbrev by_D_thousandthsOn : ByteArray := prog_3_method_5_code
def yn_D_thousandthsOn : MethodName := ⟨rn_D, "thousandthsOn", "(II)I"⟩
def ws_D_thousandthsOn : List Cond := .code yn_D_thousandthsOn by_D_thousandthsOn 5 (some .int) :: lw_gt
abbrev by_L_init : ByteArray := prog_4_method_1_code
def yn_L_init : MethodName := ⟨rn_L, "<init>", "()V"⟩
def ws_L_init : List Cond := .code yn_L_init by_L_init 1 none :: lw_gt
abbrev by_L_isFull : ByteArray := prog_4_method_2_code
def yn_L_isFull : MethodName := ⟨rn_L, "isFull", "()Z"⟩
def ws_L_isFull : List Cond := .code yn_L_isFull by_L_isFull 1 (some .boolean) :: lw_gt
abbrev by_L_append : ByteArray := prog_4_method_3_code
def yn_L_append : MethodName := ⟨rn_L, "append", "(JJ)I"⟩
def ws_L_append : List Cond := .code yn_L_append by_L_append 5 (some .int) :: lw_gt
abbrev by_L_has : ByteArray := prog_4_method_4_code
def yn_L_has : MethodName := ⟨rn_L, "has", "(I)Z"⟩
def ws_L_has : List Cond := .code yn_L_has by_L_has 2 (some .boolean) :: lw_gt
abbrev by_L_size : ByteArray := prog_4_method_5_code
def yn_L_size : MethodName := ⟨rn_L, "size", "()I"⟩
def ws_L_size : List Cond := .code yn_L_size by_L_size 1 (some .int) :: lw_gt
abbrev by_L_weightOf : ByteArray := prog_4_method_6_code
def yn_L_weightOf : MethodName := ⟨rn_L, "weightOf", "(I)J"⟩
def ws_L_weightOf : List Cond := .code yn_L_weightOf by_L_weightOf 2 (some .long) :: lw_gt
abbrev by_L_priceOf : ByteArray := prog_4_method_7_code
def yn_L_priceOf : MethodName := ⟨rn_L, "priceOf", "(I)J"⟩
def ws_L_priceOf : List Cond := .code yn_L_priceOf by_L_priceOf 2 (some .long) :: lw_gt
abbrev by_L_weightSum : ByteArray := prog_4_method_8_code
def yn_L_weightSum : MethodName := ⟨rn_L, "weightSum", "()J"⟩
def ws_L_weightSum : List Cond := .code yn_L_weightSum by_L_weightSum 1 (some .long) :: lw_gt
abbrev by_L_priceSum : ByteArray := prog_4_method_9_code
def yn_L_priceSum : MethodName := ⟨rn_L, "priceSum", "()J"⟩
def ws_L_priceSum : List Cond := .code yn_L_priceSum by_L_priceSum 1 (some .long) :: lw_gt
abbrev by_L_partOf : ByteArray := prog_4_method_10_code
def yn_L_partOf : MethodName := ⟨rn_L, "partOf", "(I)J"⟩
def ws_L_partOf : List Cond := .code yn_L_partOf by_L_partOf 2 (some .long) :: lw_gt
abbrev by_L_shareOut : ByteArray := prog_4_method_11_code
def yn_L_shareOut : MethodName := ⟨rn_L, "shareOut", "(JZ)V"⟩
def ws_L_shareOut : List Cond := .code yn_L_shareOut by_L_shareOut 6 none :: lw_gt
abbrev by_L_convert : ByteArray := prog_4_method_12_code
def yn_L_convert : MethodName := ⟨rn_L, "convert", "([JJJJ)V"⟩
def ws_L_convert : List Cond := .code yn_L_convert by_L_convert 10 none :: lw_gt
abbrev by_L_floorParts : ByteArray := prog_4_method_13_code
def yn_L_floorParts : MethodName := ⟨rn_L, "floorParts", "([JJJ)J"⟩
def ws_L_floorParts : List Cond := .code yn_L_floorParts by_L_floorParts 11 (some .long) :: lw_gt
abbrev by_L_handOut : ByteArray := prog_4_method_14_code
def yn_L_handOut : MethodName := ⟨rn_L, "handOut", "(J)V"⟩
def ws_L_handOut : List Cond := .code yn_L_handOut by_L_handOut 6 none :: lw_gt
abbrev by_R_init : ByteArray := prog_5_method_1_code
def yn_R_init : MethodName := ⟨rn_R, "<init>", "()V"⟩
def ws_R_init : List Cond := .code yn_R_init by_R_init 1 none :: lw_gt
abbrev by_R_tell : ByteArray := prog_5_method_2_code
def yn_R_tell : MethodName := ⟨rn_R, "tell", "(III)Z"⟩
def ws_R_tell : List Cond := .code yn_R_tell by_R_tell 4 (some .boolean) :: lw_gt
abbrev by_R_upIn : ByteArray := prog_5_method_3_code
def yn_R_upIn : MethodName := ⟨rn_R, "upIn", "(I)J"⟩
def ws_R_upIn : List Cond := .code yn_R_upIn by_R_upIn 2 (some .long) :: lw_gt
abbrev by_R_downIn : ByteArray := prog_5_method_4_code
def yn_R_downIn : MethodName := ⟨rn_R, "downIn", "(I)J"⟩
def ws_R_downIn : List Cond := .code yn_R_downIn by_R_downIn 2 (some .long) :: lw_gt
abbrev by_W_line : ByteArray := method_3_code
def yn_W_line : MethodName := ⟨rn_W, "line", "(LValueMethods;JJ[J)I"⟩
def ws_W_line : List Cond := .codeWith yn_W_line by_W_line 7 (some .int) [(0, 11, 14, 13), (0, 11, 18, 15)] :: lw_gt
abbrev by_W_add : ByteArray := method_4_code
def yn_W_add : MethodName := ⟨rn_W, "add", "(LValueMethods;IJZ[J)I"⟩
def ws_W_add : List Cond := .codeWith yn_W_add by_W_add 7 (some .int) [(0, 20, 23, 13)] :: lw_gt
abbrev by_W_less : ByteArray := method_5_code
def yn_W_less : MethodName := ⟨rn_W, "less", "(LValueMethods;IJZ[J)I"⟩
def ws_W_less : List Cond := .codeWith yn_W_less by_W_less 7 (some .int) [(0, 20, 23, 13)] :: lw_gt
abbrev by_W_discount : ByteArray := method_6_code
def yn_W_discount : MethodName := ⟨rn_W, "discount", "(LValueMethods;II[J)I"⟩
def ws_W_discount : List Cond := .codeWith yn_W_discount by_W_discount 5 (some .int) [(0, 17, 20, 13), (0, 17, 24, 15)] :: lw_gt
abbrev by_W_value : ByteArray := method_7_code
def yn_W_value : MethodName := ⟨rn_W, "value", "(LValueMethods;II[J)I"⟩
def ws_W_value : List Cond := .codeWith yn_W_value by_W_value 5 (some .int) [(0, 9, 12, 32), (0, 9, 16, 34)] :: lw_gt
abbrev by_W_transaction : ByteArray := method_8_code
def yn_W_transaction : MethodName := ⟨rn_W, "transaction", "(LValueMethods;I[J)I"⟩
def ws_W_transaction : List Cond := .codeWith yn_W_transaction by_W_transaction 4 (some .int) [(0, 8, 11, 32)] :: lw_gt
abbrev by_W_share : ByteArray := method_9_code
def yn_W_share : MethodName := ⟨rn_W, "share", "(LValueMethods;JIZ[J)I"⟩
def ws_W_share : List Cond := .codeWith yn_W_share by_W_share 7 (some .int) [(0, 12, 15, 32), (0, 12, 19, 13)] :: lw_gt
abbrev by_W_plain : ByteArray := method_10_code
def yn_W_plain : MethodName := ⟨rn_W, "plain", "(LValueMethods;JI[J)I"⟩
def ws_W_plain : List Cond := .codeWith yn_W_plain by_W_plain 6 (some .int) [(0, 10, 13, 32), (0, 10, 17, 13), (0, 10, 21, 48)] :: lw_gt
theorem in_C : ∀ w ∈ u_ws rn_C tf_C 5, w ∈ lw_gt := by decide +kernel
theorem in_D : ∀ w ∈ u_ws rn_D tf_D 3, w ∈ lw_gt := by decide +kernel
theorem in_L : ∀ w ∈ u_ws rn_L tf_L 8, w ∈ lw_gt := by decide +kernel
theorem in_R : ∀ w ∈ u_ws rn_R tf_R 2, w ∈ lw_gt := by decide +kernel
theorem in_V : ∀ w ∈ u_ws rn_V tf_V 16, w ∈ lw_gt := by decide +kernel
theorem in_M : ∀ w ∈ u_ws rn_M tf_M 24, w ∈ lw_gt := by decide +kernel
theorem lw_good : ∀ w ∈ lw_gt, goodWord w = true := fun w h => (List.mem_filter.mp h).2
theorem lw_gtl : ∀ w ∈ lw_gt, w ∈ lw_tbl := fun w h => (List.mem_filter.mp h).1
theorem wd_of {w : Cond} (i : Nat) (h : lw_tbl[i]? = some w) (hg : goodWord w = true) : w ∈ lw_gt := List.mem_filter.mpr ⟨List.mem_of_getElem? h, hg⟩
theorem gd_V {own C : String} {idx : Nat} {y : MethodName} {cw : Cond} (h1 : Cond.methodLink own idx y ∈ lw_gt) (h2 : Cond.instanceMethod y ∈ lw_gt) (h3 : Cond.selects C y y ∈ lw_gt) (h4 : Cond.initialized C ∈ lw_gt) (h5 : cw ∈ lw_gt) : GoodIn lw_gt (wsV own idx C y (cw :: lw_gt)) := by
  have hg : ∀ w ∈ lw_gt, w ∈ lw_gt ∧ ((w.onTables && w.keeps) = true ∨ ∃ ty, w = .arrayClass ty) := fun w h => ⟨h, good_of_word (lw_good w h)⟩
  intro w h
  unfold wsV at h
  simp only [List.cons_append, List.nil_append, List.mem_cons] at h
  rcases h with rfl | rfl | rfl | rfl | rfl | h
  · exact hg _ h1
  · exact hg _ h2
  · exact hg _ h3
  · exact hg _ h4
  · exact hg _ h5
  · exact hg _ h
theorem gd_S {own : String} {idx : Nat} {y : MethodName} {cw : Cond} (h1 : Cond.methodLink own idx y ∈ lw_gt) (h2 : Cond.static y ∈ lw_gt) (h3 : Cond.initialized own ∈ lw_gt) (h5 : cw ∈ lw_gt) : GoodIn lw_gt (wsS own idx y (cw :: lw_gt)) := by
  have hg : ∀ w ∈ lw_gt, w ∈ lw_gt ∧ ((w.onTables && w.keeps) = true ∨ ∃ ty, w = .arrayClass ty) := fun w h => ⟨h, good_of_word (lw_good w h)⟩
  intro w h
  unfold wsS at h
  simp only [List.cons_append, List.nil_append, List.mem_cons] at h
  rcases h with rfl | rfl | rfl | rfl | h
  · exact hg _ h1
  · exact hg _ h2
  · exact hg _ h3
  · exact hg _ h5
  · exact hg _ h
