theorem wd_0 : Cond.selects "ValueMethods" ⟨"ValueMethods", "findMethod", "()I"⟩ ⟨"ValueMethods", "findMethod", "()I"⟩ ∈ lw_gt := wd_of 0 (by decide +kernel) rfl
theorem wd_1 : Cond.selects "ValueMethods" ⟨"ValueMethods", "fillTransaction", "()V"⟩ ⟨"ValueMethods", "fillTransaction", "()V"⟩ ∈ lw_gt := wd_of 1 (by decide +kernel) rfl
theorem wd_2 : Cond.selects "ValueMethods" ⟨"ValueMethods", "discountCents", "()J"⟩ ⟨"ValueMethods", "discountCents", "()J"⟩ ∈ lw_gt := wd_of 2 (by decide +kernel) rfl
theorem wd_3 : Cond.selects "ValueMethods" ⟨"ValueMethods", "mixIn", "(JZI)V"⟩ ⟨"ValueMethods", "mixIn", "(JZI)V"⟩ ∈ lw_gt := wd_of 3 (by decide +kernel) rfl
theorem wd_4 : Cond.selects "ValueMethods$Lines" ⟨"ValueMethods$Lines", "floorParts", "([JJJ)J"⟩ ⟨"ValueMethods$Lines", "floorParts", "([JJJ)J"⟩ ∈ lw_gt := wd_of 4 (by decide +kernel) rfl
theorem wd_5 : Cond.selects "ValueMethods$Lines" ⟨"ValueMethods$Lines", "handOut", "(J)V"⟩ ⟨"ValueMethods$Lines", "handOut", "(J)V"⟩ ∈ lw_gt := wd_of 5 (by decide +kernel) rfl
theorem wd_6 : Cond.selects "ValueMethods" ⟨"ValueMethods", "mixInAll", "(LValueMethods$Charges;I)V"⟩ ⟨"ValueMethods", "mixInAll", "(LValueMethods$Charges;I)V"⟩ ∈ lw_gt := wd_of 6 (by decide +kernel) rfl
theorem wd_7 : Cond.selects "ValueMethods" ⟨"ValueMethods", "noValueBelowZero", "()Z"⟩ ⟨"ValueMethods", "noValueBelowZero", "()Z"⟩ ∈ lw_gt := wd_of 7 (by decide +kernel) rfl
theorem wd_8 : Cond.selects "ValueMethods" ⟨"ValueMethods", "passesTest", "()Z"⟩ ⟨"ValueMethods", "passesTest", "()Z"⟩ ∈ lw_gt := wd_of 8 (by decide +kernel) rfl
theorem wd_9 : Cond.selects "ValueMethods" ⟨"ValueMethods", "valueSum", "()J"⟩ ⟨"ValueMethods", "valueSum", "()J"⟩ ∈ lw_gt := wd_of 9 (by decide +kernel) rfl
theorem wd_10 : Cond.selects "ValueMethods" ⟨"ValueMethods", "fillByFigures", "(I)Z"⟩ ⟨"ValueMethods", "fillByFigures", "(I)Z"⟩ ∈ lw_gt := wd_of 10 (by decide +kernel) rfl
theorem wd_11 : Cond.selects "ValueMethods" ⟨"ValueMethods", "fillShared", "(J)Z"⟩ ⟨"ValueMethods", "fillShared", "(J)Z"⟩ ∈ lw_gt := wd_of 11 (by decide +kernel) rfl
theorem wd_12 : Cond.selects "ValueMethods" ⟨"ValueMethods", "fillByWeights", "(JJ)Z"⟩ ⟨"ValueMethods", "fillByWeights", "(JJ)Z"⟩ ∈ lw_gt := wd_of 12 (by decide +kernel) rfl
theorem wd_13 : Cond.selects "ValueMethods" ⟨"ValueMethods", "period", "()I"⟩ ⟨"ValueMethods", "period", "()I"⟩ ∈ lw_gt := wd_of 13 (by decide +kernel) rfl
theorem wd_14 : Cond.selects "ValueMethods" ⟨"ValueMethods", "ownSum", "(I)J"⟩ ⟨"ValueMethods", "ownSum", "(I)J"⟩ ∈ lw_gt := wd_of 14 (by decide +kernel) rfl
theorem wd_15 : Cond.selects "ValueMethods" ⟨"ValueMethods", "upOf", "(I)J"⟩ ⟨"ValueMethods", "upOf", "(I)J"⟩ ∈ lw_gt := wd_of 15 (by decide +kernel) rfl
theorem wd_16 : Cond.selects "ValueMethods" ⟨"ValueMethods", "downOf", "(I)J"⟩ ⟨"ValueMethods", "downOf", "(I)J"⟩ ∈ lw_gt := wd_of 16 (by decide +kernel) rfl
theorem wd_17 : Cond.selects "java/lang/Throwable" ⟨"java/lang/Throwable", "fillInStackTrace", "(I)Ljava/lang/Throwable;"⟩ ⟨"java/lang/Throwable", "fillInStackTrace", "(I)Ljava/lang/Throwable;"⟩ ∈ lw_gt := wd_of 17 (by decide +kernel) rfl
theorem wd_18 : Cond.selects "ValueMethods" ⟨"ValueMethods", "ownValue", "(II)J"⟩ ⟨"ValueMethods", "ownValue", "(II)J"⟩ ∈ lw_gt := wd_of 18 (by decide +kernel) rfl
theorem wd_19 : Cond.selects "ValueMethodsModel" ⟨"ValueMethodsModel", "tell", "(IZJZ)Z"⟩ ⟨"ValueMethodsModel", "tell", "(IZJZ)Z"⟩ ∈ lw_gt := wd_of 19 (by decide +kernel) rfl
theorem wd_20 : Cond.selects "ValueMethodsModel" ⟨"ValueMethodsModel", "methodNow", "()I"⟩ ⟨"ValueMethodsModel", "methodNow", "()I"⟩ ∈ lw_gt := wd_of 20 (by decide +kernel) rfl
theorem wd_21 : Cond.selects "ValueMethodsModel" ⟨"ValueMethodsModel", "holds", "(I)Z"⟩ ⟨"ValueMethodsModel", "holds", "(I)Z"⟩ ∈ lw_gt := wd_of 21 (by decide +kernel) rfl
theorem wd_22 : Cond.selects "ValueMethodsModel" ⟨"ValueMethodsModel", "deductive", "()J"⟩ ⟨"ValueMethodsModel", "deductive", "()J"⟩ ∈ lw_gt := wd_of 22 (by decide +kernel) rfl
theorem wd_23 : Cond.selects "ValueMethodsModel" ⟨"ValueMethodsModel", "told", "(II)J"⟩ ⟨"ValueMethodsModel", "told", "(II)J"⟩ ∈ lw_gt := wd_of 23 (by decide +kernel) rfl
theorem wd_24 : Cond.selects "ValueMethodsModel" ⟨"ValueMethodsModel", "transactionOf", "(I)J"⟩ ⟨"ValueMethodsModel", "transactionOf", "(I)J"⟩ ∈ lw_gt := wd_of 24 (by decide +kernel) rfl
theorem wd_25 : Cond.selects "ValueMethodsModel" ⟨"ValueMethodsModel", "discount", "()J"⟩ ⟨"ValueMethodsModel", "discount", "()J"⟩ ∈ lw_gt := wd_of 25 (by decide +kernel) rfl
theorem wd_26 : Cond.selects "ValueMethodsModel" ⟨"ValueMethodsModel", "prices", "()J"⟩ ⟨"ValueMethodsModel", "prices", "()J"⟩ ∈ lw_gt := wd_of 26 (by decide +kernel) rfl
theorem wd_27 : Cond.selects "ValueMethodsModel" ⟨"ValueMethodsModel", "thousandths", "()I"⟩ ⟨"ValueMethodsModel", "thousandths", "()I"⟩ ∈ lw_gt := wd_of 27 (by decide +kernel) rfl
theorem wd_28 : Cond.selects "ValueMethodsModel" ⟨"ValueMethodsModel", "shareOf", "(JIZ)J"⟩ ⟨"ValueMethodsModel", "shareOf", "(JIZ)J"⟩ ∈ lw_gt := wd_of 28 (by decide +kernel) rfl
theorem wd_29 : Cond.selects "ValueMethodsModel" ⟨"ValueMethodsModel", "whole", "(Z)J"⟩ ⟨"ValueMethodsModel", "whole", "(Z)J"⟩ ∈ lw_gt := wd_of 29 (by decide +kernel) rfl
theorem wd_30 : Cond.selects "ValueMethodsModel" ⟨"ValueMethodsModel", "weights", "()J"⟩ ⟨"ValueMethodsModel", "weights", "()J"⟩ ∈ lw_gt := wd_of 30 (by decide +kernel) rfl
theorem wd_31 : Cond.selects "ValueMethodsModel" ⟨"ValueMethodsModel", "partOf", "(IZ)J"⟩ ⟨"ValueMethodsModel", "partOf", "(IZ)J"⟩ ∈ lw_gt := wd_of 31 (by decide +kernel) rfl
theorem wd_32 : Cond.selects "ValueMethodsModel" ⟨"ValueMethodsModel", "isTested", "()Z"⟩ ⟨"ValueMethodsModel", "isTested", "()Z"⟩ ∈ lw_gt := wd_of 32 (by decide +kernel) rfl
theorem wd_33 : Cond.selects "ValueMethodsModel" ⟨"ValueMethodsModel", "isLine", "(I)Z"⟩ ⟨"ValueMethodsModel", "isLine", "(I)Z"⟩ ∈ lw_gt := wd_of 33 (by decide +kernel) rfl
theorem wd_34 : Cond.selects "ValueMethodsModel" ⟨"ValueMethodsModel", "ownOf", "(II)J"⟩ ⟨"ValueMethodsModel", "ownOf", "(II)J"⟩ ∈ lw_gt := wd_of 34 (by decide +kernel) rfl
theorem wd_35 : Cond.selects "ValueMethodsModel" ⟨"ValueMethodsModel", "ownSum", "(I)J"⟩ ⟨"ValueMethodsModel", "ownSum", "(I)J"⟩ ∈ lw_gt := wd_of 35 (by decide +kernel) rfl
theorem wd_36 : Cond.selects "ValueMethodsModel" ⟨"ValueMethodsModel", "valueSum", "(I)J"⟩ ⟨"ValueMethodsModel", "valueSum", "(I)J"⟩ ∈ lw_gt := wd_of 36 (by decide +kernel) rfl
theorem wd_37 : Cond.selects "ValueMethodsModel" ⟨"ValueMethodsModel", "valueOf", "(II)J"⟩ ⟨"ValueMethodsModel", "valueOf", "(II)J"⟩ ∈ lw_gt := wd_of 37 (by decide +kernel) rfl
theorem wd_38 : Cond.selects "ValueMethodsModel" ⟨"ValueMethodsModel", "upOf", "(I)J"⟩ ⟨"ValueMethodsModel", "upOf", "(I)J"⟩ ∈ lw_gt := wd_of 38 (by decide +kernel) rfl
theorem wd_39 : Cond.selects "ValueMethodsModel" ⟨"ValueMethodsModel", "isOwn", "(I)Z"⟩ ⟨"ValueMethodsModel", "isOwn", "(I)Z"⟩ ∈ lw_gt := wd_of 39 (by decide +kernel) rfl
theorem wd_40 : Cond.selects "ValueMethodsModel" ⟨"ValueMethodsModel", "downOf", "(I)J"⟩ ⟨"ValueMethodsModel", "downOf", "(I)J"⟩ ∈ lw_gt := wd_of 40 (by decide +kernel) rfl
theorem wd_41 : (Jvm.Cond.initialized "ValueMethodsLaw") ∈ lw_gt := wd_of 41 (by decide +kernel) rfl
theorem wd_42 : (Jvm.Cond.initialized "ValueMethods") ∈ lw_gt := wd_of 42 (by decide +kernel) rfl
theorem wd_43 : (Jvm.Cond.initialized "ValueMethods$Lines") ∈ lw_gt := wd_of 43 (by decide +kernel) rfl
theorem wd_44 : (Jvm.Cond.initialized "ValueMethods$Charges") ∈ lw_gt := wd_of 44 (by decide +kernel) rfl
theorem wd_45 : (Jvm.Cond.initialized "ValueMethods$Discounts") ∈ lw_gt := wd_of 45 (by decide +kernel) rfl
theorem wd_46 : (Jvm.Cond.initialized "ValueMethods$Rates") ∈ lw_gt := wd_of 46 (by decide +kernel) rfl
theorem wd_47 : (Jvm.Cond.initialized "ValueMethodsModel") ∈ lw_gt := wd_of 47 (by decide +kernel) rfl
theorem wd_48 : (Jvm.Cond.initialized "java/lang/Throwable") ∈ lw_gt := wd_of 48 (by decide +kernel) rfl
theorem wd_49 : (Jvm.Cond.initialized "java/lang/Exception") ∈ lw_gt := wd_of 49 (by decide +kernel) rfl
theorem wd_50 : (Jvm.Cond.initialized "java/lang/RuntimeException") ∈ lw_gt := wd_of 50 (by decide +kernel) rfl
theorem wd_51 : (Jvm.Cond.initialized "java/lang/IllegalArgumentException") ∈ lw_gt := wd_of 51 (by decide +kernel) rfl
theorem wd_52 : (Jvm.Cond.initialized "java/lang/IllegalStateException") ∈ lw_gt := wd_of 52 (by decide +kernel) rfl
theorem wd_53 : (Jvm.Cond.initialized "java/lang/Math") ∈ lw_gt := wd_of 53 (by decide +kernel) rfl
theorem wd_54 : (Jvm.Cond.initialized "java/lang/IndexOutOfBoundsException") ∈ lw_gt := wd_of 54 (by decide +kernel) rfl
theorem wd_55 : (Jvm.Cond.initialized "java/util/NoSuchElementException") ∈ lw_gt := wd_of 55 (by decide +kernel) rfl
theorem wd_56 : (Jvm.Cond.initialized "java/lang/ArithmeticException") ∈ lw_gt := wd_of 56 (by decide +kernel) rfl
theorem wd_57 : (Jvm.Cond.classLink "ValueMethodsLaw" (8 : Nat) "ValueMethods") ∈ lw_gt := wd_of 57 (by decide +kernel) rfl
theorem wd_58 : (Jvm.Cond.instantiable "ValueMethods" (16 : Nat)) ∈ lw_gt := wd_of 58 (by decide +kernel) rfl
theorem wd_59 : (Jvm.Cond.methodLink "ValueMethodsLaw" (50 : Nat) ({ cls := "ValueMethods", name := "<init>", desc := "()V" } : Jvm.MethodName)) ∈ lw_gt := wd_of 59 (by decide +kernel) rfl
theorem wd_60 : (Jvm.Cond.instanceMethod ({ cls := "ValueMethods", name := "<init>", desc := "()V" } : Jvm.MethodName)) ∈ lw_gt := wd_of 60 (by decide +kernel) rfl
theorem wd_61 : (Jvm.Cond.code ({ cls := "ValueMethods", name := "<init>", desc := "()V" } : Jvm.MethodName) prog_1_method_1_code (1 : Nat) (Option.none : Option Jvm.ClassFile.FieldType)) ∈ lw_gt := wd_of 61 (by decide +kernel) rfl
theorem wd_62 : (Jvm.Cond.methodLink "ValueMethods" (1 : Nat) ({ cls := "java/lang/Object", name := "<init>", desc := "()V" } : Jvm.MethodName)) ∈ lw_gt := wd_of 62 (by decide +kernel) rfl
theorem wd_63 : (Jvm.Cond.instanceMethod ({ cls := "java/lang/Object", name := "<init>", desc := "()V" } : Jvm.MethodName)) ∈ lw_gt := wd_of 63 (by decide +kernel) rfl
theorem wd_64 : (Jvm.Cond.code ({ cls := "java/lang/Object", name := "<init>", desc := "()V" } : Jvm.MethodName) object_method_1_code (1 : Nat) (Option.none : Option Jvm.ClassFile.FieldType)) ∈ lw_gt := wd_of 64 (by decide +kernel) rfl
theorem wd_65 : (Jvm.Cond.classLink "ValueMethods" (7 : Nat) "ValueMethods$Lines") ∈ lw_gt := wd_of 65 (by decide +kernel) rfl
theorem wd_66 : (Jvm.Cond.instantiable "ValueMethods$Lines" (8 : Nat)) ∈ lw_gt := wd_of 66 (by decide +kernel) rfl
theorem wd_67 : (Jvm.Cond.methodLink "ValueMethods" (9 : Nat) ({ cls := "ValueMethods$Lines", name := "<init>", desc := "()V" } : Jvm.MethodName)) ∈ lw_gt := wd_of 67 (by decide +kernel) rfl
theorem wd_68 : (Jvm.Cond.instanceMethod ({ cls := "ValueMethods$Lines", name := "<init>", desc := "()V" } : Jvm.MethodName)) ∈ lw_gt := wd_of 68 (by decide +kernel) rfl
theorem wd_69 : (Jvm.Cond.code ({ cls := "ValueMethods$Lines", name := "<init>", desc := "()V" } : Jvm.MethodName) prog_4_method_1_code (1 : Nat) (Option.none : Option Jvm.ClassFile.FieldType)) ∈ lw_gt := wd_of 69 (by decide +kernel) rfl
theorem wd_70 : (Jvm.Cond.methodLink "ValueMethods$Lines" (3 : Nat) ({ cls := "java/lang/Object", name := "<init>", desc := "()V" } : Jvm.MethodName)) ∈ lw_gt := wd_of 70 (by decide +kernel) rfl
theorem wd_71 : (Jvm.Cond.fieldLink "ValueMethods$Lines" (9 : Nat) "ValueMethods$Lines" "weights" "[J") ∈ lw_gt := wd_of 71 (by decide +kernel) rfl
theorem wd_72 : (Jvm.Cond.fieldLink "ValueMethods$Lines" (15 : Nat) "ValueMethods$Lines" "prices" "[J") ∈ lw_gt := wd_of 72 (by decide +kernel) rfl
theorem wd_73 : (Jvm.Cond.fieldLink "ValueMethods$Lines" (18 : Nat) "ValueMethods$Lines" "ones" "[J") ∈ lw_gt := wd_of 73 (by decide +kernel) rfl
theorem wd_74 : (Jvm.Cond.fieldLink "ValueMethods$Lines" (21 : Nat) "ValueMethods$Lines" "parts" "[J") ∈ lw_gt := wd_of 74 (by decide +kernel) rfl
theorem wd_75 : (Jvm.Cond.fieldLink "ValueMethods$Lines" (24 : Nat) "ValueMethods$Lines" "rests" "[J") ∈ lw_gt := wd_of 75 (by decide +kernel) rfl
theorem wd_76 : (Jvm.Cond.fieldLink "ValueMethods$Lines" (27 : Nat) "ValueMethods$Lines" "size" "I") ∈ lw_gt := wd_of 76 (by decide +kernel) rfl
theorem wd_77 : (Jvm.Cond.fieldLink "ValueMethods$Lines" (31 : Nat) "ValueMethods$Lines" "weightSum" "J") ∈ lw_gt := wd_of 77 (by decide +kernel) rfl
theorem wd_78 : (Jvm.Cond.fieldLink "ValueMethods$Lines" (35 : Nat) "ValueMethods$Lines" "priceSum" "J") ∈ lw_gt := wd_of 78 (by decide +kernel) rfl
theorem wd_79 : (Jvm.Cond.laysFinal "ValueMethods$Lines" "ValueMethods$Lines" "weights" "[J") ∈ lw_gt := wd_of 79 (by decide +kernel) rfl
theorem wd_81 : (Jvm.Cond.laysFinal "ValueMethods$Lines" "ValueMethods$Lines" "prices" "[J") ∈ lw_gt := wd_of 81 (by decide +kernel) rfl
theorem wd_83 : (Jvm.Cond.laysFinal "ValueMethods$Lines" "ValueMethods$Lines" "ones" "[J") ∈ lw_gt := wd_of 83 (by decide +kernel) rfl
theorem wd_85 : (Jvm.Cond.laysFinal "ValueMethods$Lines" "ValueMethods$Lines" "parts" "[J") ∈ lw_gt := wd_of 85 (by decide +kernel) rfl
theorem wd_87 : (Jvm.Cond.laysFinal "ValueMethods$Lines" "ValueMethods$Lines" "rests" "[J") ∈ lw_gt := wd_of 87 (by decide +kernel) rfl
theorem wd_89 : (Jvm.Cond.lays "ValueMethods$Lines" "ValueMethods$Lines" "size" "I") ∈ lw_gt := wd_of 89 (by decide +kernel) rfl
theorem wd_91 : (Jvm.Cond.lays "ValueMethods$Lines" "ValueMethods$Lines" "weightSum" "J") ∈ lw_gt := wd_of 91 (by decide +kernel) rfl
theorem wd_93 : (Jvm.Cond.lays "ValueMethods$Lines" "ValueMethods$Lines" "priceSum" "J") ∈ lw_gt := wd_of 93 (by decide +kernel) rfl
theorem wd_96 : (Jvm.Cond.arrayClass Jvm.ClassFile.FieldType.long) ∈ lw_gt := wd_of 96 (by decide +kernel) rfl
theorem wd_97 : (Jvm.Cond.classLink "ValueMethods" (16 : Nat) "ValueMethods$Charges") ∈ lw_gt := wd_of 97 (by decide +kernel) rfl
theorem wd_98 : (Jvm.Cond.instantiable "ValueMethods$Charges" (5 : Nat)) ∈ lw_gt := wd_of 98 (by decide +kernel) rfl
theorem wd_99 : (Jvm.Cond.methodLink "ValueMethods" (18 : Nat) ({ cls := "ValueMethods$Charges", name := "<init>", desc := "(I)V" } : Jvm.MethodName)) ∈ lw_gt := wd_of 99 (by decide +kernel) rfl
theorem wd_100 : (Jvm.Cond.instanceMethod ({ cls := "ValueMethods$Charges", name := "<init>", desc := "(I)V" } : Jvm.MethodName)) ∈ lw_gt := wd_of 100 (by decide +kernel) rfl
theorem wd_101 : (Jvm.Cond.code ({ cls := "ValueMethods$Charges", name := "<init>", desc := "(I)V" } : Jvm.MethodName) prog_2_method_1_code (2 : Nat) (Option.none : Option Jvm.ClassFile.FieldType)) ∈ lw_gt := wd_of 101 (by decide +kernel) rfl
theorem wd_102 : (Jvm.Cond.methodLink "ValueMethods$Charges" (1 : Nat) ({ cls := "java/lang/Object", name := "<init>", desc := "()V" } : Jvm.MethodName)) ∈ lw_gt := wd_of 102 (by decide +kernel) rfl
theorem wd_103 : (Jvm.Cond.fieldLink "ValueMethods$Charges" (7 : Nat) "ValueMethods$Charges" "cents" "[J") ∈ lw_gt := wd_of 103 (by decide +kernel) rfl
theorem wd_104 : (Jvm.Cond.fieldLink "ValueMethods$Charges" (13 : Nat) "ValueMethods$Charges" "byWeight" "[Z") ∈ lw_gt := wd_of 104 (by decide +kernel) rfl
theorem wd_105 : (Jvm.Cond.fieldLink "ValueMethods$Charges" (17 : Nat) "ValueMethods$Charges" "told" "[Z") ∈ lw_gt := wd_of 105 (by decide +kernel) rfl
theorem wd_106 : (Jvm.Cond.fieldLink "ValueMethods$Charges" (20 : Nat) "ValueMethods$Charges" "toldKinds" "I") ∈ lw_gt := wd_of 106 (by decide +kernel) rfl
theorem wd_107 : (Jvm.Cond.fieldLink "ValueMethods$Charges" (24 : Nat) "ValueMethods$Charges" "total" "J") ∈ lw_gt := wd_of 107 (by decide +kernel) rfl
theorem wd_108 : (Jvm.Cond.laysFinal "ValueMethods$Charges" "ValueMethods$Charges" "cents" "[J") ∈ lw_gt := wd_of 108 (by decide +kernel) rfl
theorem wd_110 : (Jvm.Cond.laysFinal "ValueMethods$Charges" "ValueMethods$Charges" "byWeight" "[Z") ∈ lw_gt := wd_of 110 (by decide +kernel) rfl
theorem wd_112 : (Jvm.Cond.laysFinal "ValueMethods$Charges" "ValueMethods$Charges" "told" "[Z") ∈ lw_gt := wd_of 112 (by decide +kernel) rfl
theorem wd_114 : (Jvm.Cond.lays "ValueMethods$Charges" "ValueMethods$Charges" "toldKinds" "I") ∈ lw_gt := wd_of 114 (by decide +kernel) rfl
theorem wd_116 : (Jvm.Cond.lays "ValueMethods$Charges" "ValueMethods$Charges" "total" "J") ∈ lw_gt := wd_of 116 (by decide +kernel) rfl
theorem wd_119 : (Jvm.Cond.arrayClass Jvm.ClassFile.FieldType.boolean) ∈ lw_gt := wd_of 119 (by decide +kernel) rfl
theorem wd_120 : (Jvm.Cond.classLink "ValueMethods" (28 : Nat) "ValueMethods$Discounts") ∈ lw_gt := wd_of 120 (by decide +kernel) rfl
theorem wd_121 : (Jvm.Cond.instantiable "ValueMethods$Discounts" (3 : Nat)) ∈ lw_gt := wd_of 121 (by decide +kernel) rfl
theorem wd_122 : (Jvm.Cond.methodLink "ValueMethods" (30 : Nat) ({ cls := "ValueMethods$Discounts", name := "<init>", desc := "()V" } : Jvm.MethodName)) ∈ lw_gt := wd_of 122 (by decide +kernel) rfl
theorem wd_123 : (Jvm.Cond.instanceMethod ({ cls := "ValueMethods$Discounts", name := "<init>", desc := "()V" } : Jvm.MethodName)) ∈ lw_gt := wd_of 123 (by decide +kernel) rfl
theorem wd_124 : (Jvm.Cond.code ({ cls := "ValueMethods$Discounts", name := "<init>", desc := "()V" } : Jvm.MethodName) prog_3_method_1_code (1 : Nat) (Option.none : Option Jvm.ClassFile.FieldType)) ∈ lw_gt := wd_of 124 (by decide +kernel) rfl
theorem wd_125 : (Jvm.Cond.methodLink "ValueMethods$Discounts" (1 : Nat) ({ cls := "java/lang/Object", name := "<init>", desc := "()V" } : Jvm.MethodName)) ∈ lw_gt := wd_of 125 (by decide +kernel) rfl
theorem wd_126 : (Jvm.Cond.fieldLink "ValueMethods$Discounts" (9 : Nat) "ValueMethods$Discounts" "rowDays" "[I") ∈ lw_gt := wd_of 126 (by decide +kernel) rfl
theorem wd_127 : (Jvm.Cond.fieldLink "ValueMethods$Discounts" (13 : Nat) "ValueMethods$Discounts" "rowThousandths" "[I") ∈ lw_gt := wd_of 127 (by decide +kernel) rfl
theorem wd_128 : (Jvm.Cond.fieldLink "ValueMethods$Discounts" (16 : Nat) "ValueMethods$Discounts" "size" "I") ∈ lw_gt := wd_of 128 (by decide +kernel) rfl
theorem wd_129 : (Jvm.Cond.laysFinal "ValueMethods$Discounts" "ValueMethods$Discounts" "rowDays" "[I") ∈ lw_gt := wd_of 129 (by decide +kernel) rfl
theorem wd_131 : (Jvm.Cond.laysFinal "ValueMethods$Discounts" "ValueMethods$Discounts" "rowThousandths" "[I") ∈ lw_gt := wd_of 131 (by decide +kernel) rfl
theorem wd_133 : (Jvm.Cond.lays "ValueMethods$Discounts" "ValueMethods$Discounts" "size" "I") ∈ lw_gt := wd_of 133 (by decide +kernel) rfl
theorem wd_136 : (Jvm.Cond.arrayClass Jvm.ClassFile.FieldType.int) ∈ lw_gt := wd_of 136 (by decide +kernel) rfl
theorem wd_137 : (Jvm.Cond.classLink "ValueMethods" (35 : Nat) "ValueMethods$Rates") ∈ lw_gt := wd_of 137 (by decide +kernel) rfl
theorem wd_138 : (Jvm.Cond.instantiable "ValueMethods$Rates" (2 : Nat)) ∈ lw_gt := wd_of 138 (by decide +kernel) rfl
theorem wd_139 : (Jvm.Cond.methodLink "ValueMethods" (37 : Nat) ({ cls := "ValueMethods$Rates", name := "<init>", desc := "()V" } : Jvm.MethodName)) ∈ lw_gt := wd_of 139 (by decide +kernel) rfl
theorem wd_140 : (Jvm.Cond.instanceMethod ({ cls := "ValueMethods$Rates", name := "<init>", desc := "()V" } : Jvm.MethodName)) ∈ lw_gt := wd_of 140 (by decide +kernel) rfl
theorem wd_141 : (Jvm.Cond.code ({ cls := "ValueMethods$Rates", name := "<init>", desc := "()V" } : Jvm.MethodName) prog_5_method_1_code (1 : Nat) (Option.none : Option Jvm.ClassFile.FieldType)) ∈ lw_gt := wd_of 141 (by decide +kernel) rfl
theorem wd_142 : (Jvm.Cond.methodLink "ValueMethods$Rates" (1 : Nat) ({ cls := "java/lang/Object", name := "<init>", desc := "()V" } : Jvm.MethodName)) ∈ lw_gt := wd_of 142 (by decide +kernel) rfl
theorem wd_143 : (Jvm.Cond.fieldLink "ValueMethods$Rates" (9 : Nat) "ValueMethods$Rates" "ups" "[I") ∈ lw_gt := wd_of 143 (by decide +kernel) rfl
theorem wd_144 : (Jvm.Cond.fieldLink "ValueMethods$Rates" (13 : Nat) "ValueMethods$Rates" "downs" "[I") ∈ lw_gt := wd_of 144 (by decide +kernel) rfl
theorem wd_145 : (Jvm.Cond.laysFinal "ValueMethods$Rates" "ValueMethods$Rates" "ups" "[I") ∈ lw_gt := wd_of 145 (by decide +kernel) rfl
theorem wd_147 : (Jvm.Cond.laysFinal "ValueMethods$Rates" "ValueMethods$Rates" "downs" "[I") ∈ lw_gt := wd_of 147 (by decide +kernel) rfl
theorem wd_150 : (Jvm.Cond.constantLong "ValueMethods" (66 : Nat) (-1 : Int64)) ∈ lw_gt := wd_of 150 (by decide +kernel) rfl
theorem wd_151 : (Jvm.Cond.fieldLink "ValueMethods" (10 : Nat) "ValueMethods" "lines" "LValueMethods$Lines;") ∈ lw_gt := wd_of 151 (by decide +kernel) rfl
theorem wd_152 : (Jvm.Cond.fieldLink "ValueMethods" (21 : Nat) "ValueMethods" "additions" "LValueMethods$Charges;") ∈ lw_gt := wd_of 152 (by decide +kernel) rfl
theorem wd_153 : (Jvm.Cond.fieldLink "ValueMethods" (25 : Nat) "ValueMethods" "deductions" "LValueMethods$Charges;") ∈ lw_gt := wd_of 153 (by decide +kernel) rfl
theorem wd_154 : (Jvm.Cond.fieldLink "ValueMethods" (31 : Nat) "ValueMethods" "discounts" "LValueMethods$Discounts;") ∈ lw_gt := wd_of 154 (by decide +kernel) rfl
theorem wd_155 : (Jvm.Cond.fieldLink "ValueMethods" (38 : Nat) "ValueMethods" "rates" "LValueMethods$Rates;") ∈ lw_gt := wd_of 155 (by decide +kernel) rfl
theorem wd_156 : (Jvm.Cond.fieldLink "ValueMethods" (42 : Nat) "ValueMethods" "conditions" "[Z") ∈ lw_gt := wd_of 156 (by decide +kernel) rfl
theorem wd_157 : (Jvm.Cond.fieldLink "ValueMethods" (46 : Nat) "ValueMethods" "figured" "[Z") ∈ lw_gt := wd_of 157 (by decide +kernel) rfl
theorem wd_158 : (Jvm.Cond.fieldLink "ValueMethods" (49 : Nat) "ValueMethods" "figuresA" "[J") ∈ lw_gt := wd_of 158 (by decide +kernel) rfl
theorem wd_159 : (Jvm.Cond.fieldLink "ValueMethods" (53 : Nat) "ValueMethods" "figuresB" "[J") ∈ lw_gt := wd_of 159 (by decide +kernel) rfl
theorem wd_160 : (Jvm.Cond.fieldLink "ValueMethods" (56 : Nat) "ValueMethods" "values" "[J") ∈ lw_gt := wd_of 160 (by decide +kernel) rfl
theorem wd_161 : (Jvm.Cond.fieldLink "ValueMethods" (59 : Nat) "ValueMethods" "invoiceDay" "I") ∈ lw_gt := wd_of 161 (by decide +kernel) rfl
theorem wd_162 : (Jvm.Cond.fieldLink "ValueMethods" (63 : Nat) "ValueMethods" "paidDay" "I") ∈ lw_gt := wd_of 162 (by decide +kernel) rfl
theorem wd_163 : (Jvm.Cond.fieldLink "ValueMethods" (135 : Nat) "ValueMethods" "areRelated" "Z") ∈ lw_gt := wd_of 163 (by decide +kernel) rfl
theorem wd_164 : (Jvm.Cond.fieldLink "ValueMethods" (68 : Nat) "ValueMethods" "testValue" "J") ∈ lw_gt := wd_of 164 (by decide +kernel) rfl
theorem wd_165 : (Jvm.Cond.fieldLink "ValueMethods" (139 : Nat) "ValueMethods" "testBand" "I") ∈ lw_gt := wd_of 165 (by decide +kernel) rfl
theorem wd_166 : (Jvm.Cond.fieldLink "ValueMethods" (142 : Nat) "ValueMethods" "isTurned" "Z") ∈ lw_gt := wd_of 166 (by decide +kernel) rfl
theorem wd_167 : (Jvm.Cond.laysFinal "ValueMethods" "ValueMethods" "lines" "LValueMethods$Lines;") ∈ lw_gt := wd_of 167 (by decide +kernel) rfl
theorem wd_169 : (Jvm.Cond.laysFinal "ValueMethods" "ValueMethods" "additions" "LValueMethods$Charges;") ∈ lw_gt := wd_of 169 (by decide +kernel) rfl
theorem wd_171 : (Jvm.Cond.laysFinal "ValueMethods" "ValueMethods" "deductions" "LValueMethods$Charges;") ∈ lw_gt := wd_of 171 (by decide +kernel) rfl
theorem wd_173 : (Jvm.Cond.laysFinal "ValueMethods" "ValueMethods" "discounts" "LValueMethods$Discounts;") ∈ lw_gt := wd_of 173 (by decide +kernel) rfl
theorem wd_175 : (Jvm.Cond.laysFinal "ValueMethods" "ValueMethods" "rates" "LValueMethods$Rates;") ∈ lw_gt := wd_of 175 (by decide +kernel) rfl
theorem wd_177 : (Jvm.Cond.laysFinal "ValueMethods" "ValueMethods" "conditions" "[Z") ∈ lw_gt := wd_of 177 (by decide +kernel) rfl
theorem wd_179 : (Jvm.Cond.laysFinal "ValueMethods" "ValueMethods" "figured" "[Z") ∈ lw_gt := wd_of 179 (by decide +kernel) rfl
theorem wd_181 : (Jvm.Cond.laysFinal "ValueMethods" "ValueMethods" "figuresA" "[J") ∈ lw_gt := wd_of 181 (by decide +kernel) rfl
theorem wd_183 : (Jvm.Cond.laysFinal "ValueMethods" "ValueMethods" "figuresB" "[J") ∈ lw_gt := wd_of 183 (by decide +kernel) rfl
theorem wd_185 : (Jvm.Cond.laysFinal "ValueMethods" "ValueMethods" "values" "[J") ∈ lw_gt := wd_of 185 (by decide +kernel) rfl
theorem wd_187 : (Jvm.Cond.lays "ValueMethods" "ValueMethods" "invoiceDay" "I") ∈ lw_gt := wd_of 187 (by decide +kernel) rfl
theorem wd_189 : (Jvm.Cond.lays "ValueMethods" "ValueMethods" "paidDay" "I") ∈ lw_gt := wd_of 189 (by decide +kernel) rfl
theorem wd_191 : (Jvm.Cond.lays "ValueMethods" "ValueMethods" "areRelated" "Z") ∈ lw_gt := wd_of 191 (by decide +kernel) rfl
theorem wd_193 : (Jvm.Cond.lays "ValueMethods" "ValueMethods" "testValue" "J") ∈ lw_gt := wd_of 193 (by decide +kernel) rfl
theorem wd_195 : (Jvm.Cond.lays "ValueMethods" "ValueMethods" "testBand" "I") ∈ lw_gt := wd_of 195 (by decide +kernel) rfl
theorem wd_197 : (Jvm.Cond.lays "ValueMethods" "ValueMethods" "isTurned" "Z") ∈ lw_gt := wd_of 197 (by decide +kernel) rfl
theorem wd_200 : (Jvm.Cond.methodLink "ValueMethodsLaw" (77 : Nat) ({ cls := "ValueMethods", name := "days", desc := "(II)Z" } : Jvm.MethodName)) ∈ lw_gt := wd_of 200 (by decide +kernel) rfl
theorem wd_201 : (Jvm.Cond.instanceMethod ({ cls := "ValueMethods", name := "days", desc := "(II)Z" } : Jvm.MethodName)) ∈ lw_gt := wd_of 201 (by decide +kernel) rfl
theorem wd_202 : (Jvm.Cond.selects "ValueMethods" ({ cls := "ValueMethods", name := "days", desc := "(II)Z" } : Jvm.MethodName) ({ cls := "ValueMethods", name := "days", desc := "(II)Z" } : Jvm.MethodName)) ∈ lw_gt := wd_of 202 (by decide +kernel) rfl
theorem wd_203 : (Jvm.Cond.code ({ cls := "ValueMethods", name := "days", desc := "(II)Z" } : Jvm.MethodName) prog_1_method_6_code (3 : Nat) (Option.some Jvm.ClassFile.FieldType.boolean)) ∈ lw_gt := wd_of 203 (by decide +kernel) rfl
theorem wd_204 : (Jvm.Cond.constantLong "ValueMethods" (112 : Nat) (359 : Int64)) ∈ lw_gt := wd_of 204 (by decide +kernel) rfl
theorem wd_205 : (Jvm.Cond.methodLink "ValueMethods" (74 : Nat) ({ cls := "ValueMethods", name := "within", desc := "(JJJ)Z" } : Jvm.MethodName)) ∈ lw_gt := wd_of 205 (by decide +kernel) rfl
theorem wd_206 : (Jvm.Cond.static ({ cls := "ValueMethods", name := "within", desc := "(JJJ)Z" } : Jvm.MethodName)) ∈ lw_gt := wd_of 206 (by decide +kernel) rfl
theorem wd_207 : (Jvm.Cond.code ({ cls := "ValueMethods", name := "within", desc := "(JJJ)Z" } : Jvm.MethodName) prog_1_method_37_code (6 : Nat) (Option.some Jvm.ClassFile.FieldType.boolean)) ∈ lw_gt := wd_of 207 (by decide +kernel) rfl
theorem wd_208 : (Jvm.Cond.methodLink "ValueMethodsLaw" (81 : Nat) ({ cls := "ValueMethods", name := "rate", desc := "(III)Z" } : Jvm.MethodName)) ∈ lw_gt := wd_of 208 (by decide +kernel) rfl
theorem wd_209 : (Jvm.Cond.instanceMethod ({ cls := "ValueMethods", name := "rate", desc := "(III)Z" } : Jvm.MethodName)) ∈ lw_gt := wd_of 209 (by decide +kernel) rfl
theorem wd_210 : (Jvm.Cond.selects "ValueMethods" ({ cls := "ValueMethods", name := "rate", desc := "(III)Z" } : Jvm.MethodName) ({ cls := "ValueMethods", name := "rate", desc := "(III)Z" } : Jvm.MethodName)) ∈ lw_gt := wd_of 210 (by decide +kernel) rfl
theorem wd_211 : (Jvm.Cond.code ({ cls := "ValueMethods", name := "rate", desc := "(III)Z" } : Jvm.MethodName) prog_1_method_7_code (4 : Nat) (Option.some Jvm.ClassFile.FieldType.boolean)) ∈ lw_gt := wd_of 211 (by decide +kernel) rfl
theorem wd_212 : (Jvm.Cond.methodLink "ValueMethods" (124 : Nat) ({ cls := "ValueMethods$Rates", name := "tell", desc := "(III)Z" } : Jvm.MethodName)) ∈ lw_gt := wd_of 212 (by decide +kernel) rfl
theorem wd_213 : (Jvm.Cond.instanceMethod ({ cls := "ValueMethods$Rates", name := "tell", desc := "(III)Z" } : Jvm.MethodName)) ∈ lw_gt := wd_of 213 (by decide +kernel) rfl
theorem wd_214 : (Jvm.Cond.selects "ValueMethods$Rates" ({ cls := "ValueMethods$Rates", name := "tell", desc := "(III)Z" } : Jvm.MethodName) ({ cls := "ValueMethods$Rates", name := "tell", desc := "(III)Z" } : Jvm.MethodName)) ∈ lw_gt := wd_of 214 (by decide +kernel) rfl
theorem wd_215 : (Jvm.Cond.code ({ cls := "ValueMethods$Rates", name := "tell", desc := "(III)Z" } : Jvm.MethodName) prog_5_method_2_code (4 : Nat) (Option.some Jvm.ClassFile.FieldType.boolean)) ∈ lw_gt := wd_of 215 (by decide +kernel) rfl
theorem wd_216 : (Jvm.Cond.methodLink "ValueMethodsLaw" (86 : Nat) ({ cls := "ValueMethods", name := "condition", desc := "(IZ)Z" } : Jvm.MethodName)) ∈ lw_gt := wd_of 216 (by decide +kernel) rfl
theorem wd_217 : (Jvm.Cond.instanceMethod ({ cls := "ValueMethods", name := "condition", desc := "(IZ)Z" } : Jvm.MethodName)) ∈ lw_gt := wd_of 217 (by decide +kernel) rfl
theorem wd_218 : (Jvm.Cond.selects "ValueMethods" ({ cls := "ValueMethods", name := "condition", desc := "(IZ)Z" } : Jvm.MethodName) ({ cls := "ValueMethods", name := "condition", desc := "(IZ)Z" } : Jvm.MethodName)) ∈ lw_gt := wd_of 218 (by decide +kernel) rfl
theorem wd_219 : (Jvm.Cond.code ({ cls := "ValueMethods", name := "condition", desc := "(IZ)Z" } : Jvm.MethodName) prog_1_method_8_code (3 : Nat) (Option.some Jvm.ClassFile.FieldType.boolean)) ∈ lw_gt := wd_of 219 (by decide +kernel) rfl
theorem wd_220 : (Jvm.Cond.constantLong "ValueMethods" (127 : Nat) (6 : Int64)) ∈ lw_gt := wd_of 220 (by decide +kernel) rfl
theorem wd_221 : (Jvm.Cond.methodLink "ValueMethodsLaw" (91 : Nat) ({ cls := "ValueMethods", name := "figures", desc := "(IJJ)Z" } : Jvm.MethodName)) ∈ lw_gt := wd_of 221 (by decide +kernel) rfl
theorem wd_222 : (Jvm.Cond.instanceMethod ({ cls := "ValueMethods", name := "figures", desc := "(IJJ)Z" } : Jvm.MethodName)) ∈ lw_gt := wd_of 222 (by decide +kernel) rfl
theorem wd_223 : (Jvm.Cond.selects "ValueMethods" ({ cls := "ValueMethods", name := "figures", desc := "(IJJ)Z" } : Jvm.MethodName) ({ cls := "ValueMethods", name := "figures", desc := "(IJJ)Z" } : Jvm.MethodName)) ∈ lw_gt := wd_of 223 (by decide +kernel) rfl
theorem wd_224 : (Jvm.Cond.code ({ cls := "ValueMethods", name := "figures", desc := "(IJJ)Z" } : Jvm.MethodName) prog_1_method_9_code (6 : Nat) (Option.some Jvm.ClassFile.FieldType.boolean)) ∈ lw_gt := wd_of 224 (by decide +kernel) rfl
theorem wd_225 : (Jvm.Cond.constantLong "ValueMethods" (129 : Nat) (2 : Int64)) ∈ lw_gt := wd_of 225 (by decide +kernel) rfl
theorem wd_226 : (Jvm.Cond.methodLink "ValueMethods" (131 : Nat) ({ cls := "ValueMethods", name := "figuresCanBe", desc := "(IJJ)Z" } : Jvm.MethodName)) ∈ lw_gt := wd_of 226 (by decide +kernel) rfl
theorem wd_227 : (Jvm.Cond.static ({ cls := "ValueMethods", name := "figuresCanBe", desc := "(IJJ)Z" } : Jvm.MethodName)) ∈ lw_gt := wd_of 227 (by decide +kernel) rfl
theorem wd_228 : (Jvm.Cond.code ({ cls := "ValueMethods", name := "figuresCanBe", desc := "(IJJ)Z" } : Jvm.MethodName) prog_1_method_28_code (5 : Nat) (Option.some Jvm.ClassFile.FieldType.boolean)) ∈ lw_gt := wd_of 228 (by decide +kernel) rfl
theorem wd_229 : (Jvm.Cond.constantLong "ValueMethods" (276 : Nat) (100000 : Int64)) ∈ lw_gt := wd_of 229 (by decide +kernel) rfl
theorem wd_230 : (Jvm.Cond.constantLong "ValueMethods" (102 : Nat) (1000000000 : Int64)) ∈ lw_gt := wd_of 230 (by decide +kernel) rfl
theorem wd_231 : (Jvm.Cond.constantLong "ValueMethods" (114 : Nat) (1000 : Int64)) ∈ lw_gt := wd_of 231 (by decide +kernel) rfl
theorem wd_232 : (Jvm.Cond.methodLink "ValueMethodsLaw" (96 : Nat) ({ cls := "ValueMethods", name := "related", desc := "(ZJI)Z" } : Jvm.MethodName)) ∈ lw_gt := wd_of 232 (by decide +kernel) rfl
theorem wd_233 : (Jvm.Cond.instanceMethod ({ cls := "ValueMethods", name := "related", desc := "(ZJI)Z" } : Jvm.MethodName)) ∈ lw_gt := wd_of 233 (by decide +kernel) rfl
theorem wd_234 : (Jvm.Cond.selects "ValueMethods" ({ cls := "ValueMethods", name := "related", desc := "(ZJI)Z" } : Jvm.MethodName) ({ cls := "ValueMethods", name := "related", desc := "(ZJI)Z" } : Jvm.MethodName)) ∈ lw_gt := wd_of 234 (by decide +kernel) rfl
theorem wd_235 : (Jvm.Cond.code ({ cls := "ValueMethods", name := "related", desc := "(ZJI)Z" } : Jvm.MethodName) prog_1_method_10_code (6 : Nat) (Option.some Jvm.ClassFile.FieldType.boolean)) ∈ lw_gt := wd_of 235 (by decide +kernel) rfl
theorem wd_236 : (Jvm.Cond.methodLink "ValueMethodsLaw" (101 : Nat) ({ cls := "ValueMethods", name := "turned", desc := "(Z)V" } : Jvm.MethodName)) ∈ lw_gt := wd_of 236 (by decide +kernel) rfl
theorem wd_237 : (Jvm.Cond.instanceMethod ({ cls := "ValueMethods", name := "turned", desc := "(Z)V" } : Jvm.MethodName)) ∈ lw_gt := wd_of 237 (by decide +kernel) rfl
theorem wd_238 : (Jvm.Cond.selects "ValueMethods" ({ cls := "ValueMethods", name := "turned", desc := "(Z)V" } : Jvm.MethodName) ({ cls := "ValueMethods", name := "turned", desc := "(Z)V" } : Jvm.MethodName)) ∈ lw_gt := wd_of 238 (by decide +kernel) rfl
theorem wd_239 : (Jvm.Cond.code ({ cls := "ValueMethods", name := "turned", desc := "(Z)V" } : Jvm.MethodName) prog_1_method_11_code (2 : Nat) (Option.none : Option Jvm.ClassFile.FieldType)) ∈ lw_gt := wd_of 239 (by decide +kernel) rfl
theorem wd_240 : (Jvm.Cond.methodLink "ValueMethodsLaw" (106 : Nat) ({ cls := "ValueMethods", name := "method", desc := "()I" } : Jvm.MethodName)) ∈ lw_gt := wd_of 240 (by decide +kernel) rfl
theorem wd_241 : (Jvm.Cond.instanceMethod ({ cls := "ValueMethods", name := "method", desc := "()I" } : Jvm.MethodName)) ∈ lw_gt := wd_of 241 (by decide +kernel) rfl
theorem wd_242 : (Jvm.Cond.selects "ValueMethods" ({ cls := "ValueMethods", name := "method", desc := "()I" } : Jvm.MethodName) ({ cls := "ValueMethods", name := "method", desc := "()I" } : Jvm.MethodName)) ∈ lw_gt := wd_of 242 (by decide +kernel) rfl
theorem wd_243 : (Jvm.Cond.code ({ cls := "ValueMethods", name := "method", desc := "()I" } : Jvm.MethodName) prog_1_method_12_code (1 : Nat) (Option.some Jvm.ClassFile.FieldType.int)) ∈ lw_gt := wd_of 243 (by decide +kernel) rfl
theorem wd_244 : (Jvm.Cond.methodLink "ValueMethods" (145 : Nat) ({ cls := "ValueMethods", name := "findMethod", desc := "()I" } : Jvm.MethodName)) ∈ lw_gt := wd_of 244 (by decide +kernel) rfl
theorem wd_246 : (Jvm.Cond.instanceMethod ({ cls := "ValueMethods", name := "findMethod", desc := "()I" } : Jvm.MethodName)) ∈ lw_gt := wd_of 246 (by decide +kernel) rfl
theorem wd_247 : (Jvm.Cond.code ({ cls := "ValueMethods", name := "findMethod", desc := "()I" } : Jvm.MethodName) prog_1_method_19_code (6 : Nat) (Option.some Jvm.ClassFile.FieldType.int)) ∈ lw_gt := wd_of 247 (by decide +kernel) rfl
theorem wd_248 : (Jvm.Cond.methodLink "ValueMethods" (193 : Nat) ({ cls := "ValueMethods$Lines", name := "size", desc := "()I" } : Jvm.MethodName)) ∈ lw_gt := wd_of 248 (by decide +kernel) rfl
theorem wd_249 : (Jvm.Cond.instanceMethod ({ cls := "ValueMethods$Lines", name := "size", desc := "()I" } : Jvm.MethodName)) ∈ lw_gt := wd_of 249 (by decide +kernel) rfl
theorem wd_250 : (Jvm.Cond.selects "ValueMethods$Lines" ({ cls := "ValueMethods$Lines", name := "size", desc := "()I" } : Jvm.MethodName) ({ cls := "ValueMethods$Lines", name := "size", desc := "()I" } : Jvm.MethodName)) ∈ lw_gt := wd_of 250 (by decide +kernel) rfl
theorem wd_251 : (Jvm.Cond.code ({ cls := "ValueMethods$Lines", name := "size", desc := "()I" } : Jvm.MethodName) prog_4_method_5_code (1 : Nat) (Option.some Jvm.ClassFile.FieldType.int)) ∈ lw_gt := wd_of 251 (by decide +kernel) rfl
theorem wd_252 : (Jvm.Cond.methodLink "ValueMethods" (168 : Nat) ({ cls := "ValueMethods", name := "fillTransaction", desc := "()V" } : Jvm.MethodName)) ∈ lw_gt := wd_of 252 (by decide +kernel) rfl
theorem wd_254 : (Jvm.Cond.instanceMethod ({ cls := "ValueMethods", name := "fillTransaction", desc := "()V" } : Jvm.MethodName)) ∈ lw_gt := wd_of 254 (by decide +kernel) rfl
theorem wd_255 : (Jvm.Cond.code ({ cls := "ValueMethods", name := "fillTransaction", desc := "()V" } : Jvm.MethodName) prog_1_method_20_code (2 : Nat) (Option.none : Option Jvm.ClassFile.FieldType)) ∈ lw_gt := wd_of 255 (by decide +kernel) rfl
theorem wd_256 : (Jvm.Cond.methodLink "ValueMethods" (238 : Nat) ({ cls := "ValueMethods$Lines", name := "priceOf", desc := "(I)J" } : Jvm.MethodName)) ∈ lw_gt := wd_of 256 (by decide +kernel) rfl
theorem wd_257 : (Jvm.Cond.instanceMethod ({ cls := "ValueMethods$Lines", name := "priceOf", desc := "(I)J" } : Jvm.MethodName)) ∈ lw_gt := wd_of 257 (by decide +kernel) rfl
theorem wd_258 : (Jvm.Cond.selects "ValueMethods$Lines" ({ cls := "ValueMethods$Lines", name := "priceOf", desc := "(I)J" } : Jvm.MethodName) ({ cls := "ValueMethods$Lines", name := "priceOf", desc := "(I)J" } : Jvm.MethodName)) ∈ lw_gt := wd_of 258 (by decide +kernel) rfl
theorem wd_259 : (Jvm.Cond.code ({ cls := "ValueMethods$Lines", name := "priceOf", desc := "(I)J" } : Jvm.MethodName) prog_4_method_7_code (2 : Nat) (Option.some Jvm.ClassFile.FieldType.long)) ∈ lw_gt := wd_of 259 (by decide +kernel) rfl
theorem wd_260 : (Jvm.Cond.methodLink "ValueMethods" (216 : Nat) ({ cls := "ValueMethods", name := "discountCents", desc := "()J" } : Jvm.MethodName)) ∈ lw_gt := wd_of 260 (by decide +kernel) rfl
theorem wd_262 : (Jvm.Cond.instanceMethod ({ cls := "ValueMethods", name := "discountCents", desc := "()J" } : Jvm.MethodName)) ∈ lw_gt := wd_of 262 (by decide +kernel) rfl
theorem wd_263 : (Jvm.Cond.code ({ cls := "ValueMethods", name := "discountCents", desc := "()J" } : Jvm.MethodName) prog_1_method_30_code (1 : Nat) (Option.some Jvm.ClassFile.FieldType.long)) ∈ lw_gt := wd_of 263 (by decide +kernel) rfl
theorem wd_264 : (Jvm.Cond.methodLink "ValueMethods" (210 : Nat) ({ cls := "ValueMethods$Lines", name := "priceSum", desc := "()J" } : Jvm.MethodName)) ∈ lw_gt := wd_of 264 (by decide +kernel) rfl
theorem wd_265 : (Jvm.Cond.instanceMethod ({ cls := "ValueMethods$Lines", name := "priceSum", desc := "()J" } : Jvm.MethodName)) ∈ lw_gt := wd_of 265 (by decide +kernel) rfl
theorem wd_266 : (Jvm.Cond.selects "ValueMethods$Lines" ({ cls := "ValueMethods$Lines", name := "priceSum", desc := "()J" } : Jvm.MethodName) ({ cls := "ValueMethods$Lines", name := "priceSum", desc := "()J" } : Jvm.MethodName)) ∈ lw_gt := wd_of 266 (by decide +kernel) rfl
theorem wd_267 : (Jvm.Cond.code ({ cls := "ValueMethods$Lines", name := "priceSum", desc := "()J" } : Jvm.MethodName) prog_4_method_9_code (1 : Nat) (Option.some Jvm.ClassFile.FieldType.long)) ∈ lw_gt := wd_of 267 (by decide +kernel) rfl
theorem wd_268 : (Jvm.Cond.methodLink "ValueMethods" (202 : Nat) ({ cls := "ValueMethods$Discounts", name := "thousandthsOn", desc := "(II)I" } : Jvm.MethodName)) ∈ lw_gt := wd_of 268 (by decide +kernel) rfl
theorem wd_269 : (Jvm.Cond.instanceMethod ({ cls := "ValueMethods$Discounts", name := "thousandthsOn", desc := "(II)I" } : Jvm.MethodName)) ∈ lw_gt := wd_of 269 (by decide +kernel) rfl
theorem wd_270 : (Jvm.Cond.selects "ValueMethods$Discounts" ({ cls := "ValueMethods$Discounts", name := "thousandthsOn", desc := "(II)I" } : Jvm.MethodName) ({ cls := "ValueMethods$Discounts", name := "thousandthsOn", desc := "(II)I" } : Jvm.MethodName)) ∈ lw_gt := wd_of 270 (by decide +kernel) rfl
theorem wd_271 : (Jvm.Cond.code ({ cls := "ValueMethods$Discounts", name := "thousandthsOn", desc := "(II)I" } : Jvm.MethodName) prog_3_method_5_code (5 : Nat) (Option.some Jvm.ClassFile.FieldType.int)) ∈ lw_gt := wd_of 271 (by decide +kernel) rfl
theorem wd_272 : (Jvm.Cond.methodLink "ValueMethods" (268 : Nat) ({ cls := "ValueMethods", name := "near", desc := "(JJ)J" } : Jvm.MethodName)) ∈ lw_gt := wd_of 272 (by decide +kernel) rfl
theorem wd_273 : (Jvm.Cond.static ({ cls := "ValueMethods", name := "near", desc := "(JJ)J" } : Jvm.MethodName)) ∈ lw_gt := wd_of 273 (by decide +kernel) rfl
theorem wd_274 : (Jvm.Cond.code ({ cls := "ValueMethods", name := "near", desc := "(JJ)J" } : Jvm.MethodName) prog_1_method_38_code (6 : Nat) (Option.some Jvm.ClassFile.FieldType.long)) ∈ lw_gt := wd_of 274 (by decide +kernel) rfl
theorem wd_275 : (Jvm.Cond.methodLink "ValueMethods" (241 : Nat) ({ cls := "ValueMethods", name := "mixIn", desc := "(JZI)V" } : Jvm.MethodName)) ∈ lw_gt := wd_of 275 (by decide +kernel) rfl
theorem wd_277 : (Jvm.Cond.instanceMethod ({ cls := "ValueMethods", name := "mixIn", desc := "(JZI)V" } : Jvm.MethodName)) ∈ lw_gt := wd_of 277 (by decide +kernel) rfl
theorem wd_278 : (Jvm.Cond.code ({ cls := "ValueMethods", name := "mixIn", desc := "(JZI)V" } : Jvm.MethodName) prog_1_method_22_code (6 : Nat) (Option.none : Option Jvm.ClassFile.FieldType)) ∈ lw_gt := wd_of 278 (by decide +kernel) rfl
theorem wd_279 : (Jvm.Cond.methodLink "ValueMethods" (173 : Nat) ({ cls := "ValueMethods$Lines", name := "shareOut", desc := "(JZ)V" } : Jvm.MethodName)) ∈ lw_gt := wd_of 279 (by decide +kernel) rfl
theorem wd_280 : (Jvm.Cond.instanceMethod ({ cls := "ValueMethods$Lines", name := "shareOut", desc := "(JZ)V" } : Jvm.MethodName)) ∈ lw_gt := wd_of 280 (by decide +kernel) rfl
theorem wd_281 : (Jvm.Cond.selects "ValueMethods$Lines" ({ cls := "ValueMethods$Lines", name := "shareOut", desc := "(JZ)V" } : Jvm.MethodName) ({ cls := "ValueMethods$Lines", name := "shareOut", desc := "(JZ)V" } : Jvm.MethodName)) ∈ lw_gt := wd_of 281 (by decide +kernel) rfl
theorem wd_282 : (Jvm.Cond.code ({ cls := "ValueMethods$Lines", name := "shareOut", desc := "(JZ)V" } : Jvm.MethodName) prog_4_method_11_code (6 : Nat) (Option.none : Option Jvm.ClassFile.FieldType)) ∈ lw_gt := wd_of 282 (by decide +kernel) rfl
theorem wd_283 : (Jvm.Cond.methodLink "ValueMethods$Lines" (38 : Nat) ({ cls := "ValueMethods$Lines", name := "floorParts", desc := "([JJJ)J" } : Jvm.MethodName)) ∈ lw_gt := wd_of 283 (by decide +kernel) rfl
theorem wd_285 : (Jvm.Cond.instanceMethod ({ cls := "ValueMethods$Lines", name := "floorParts", desc := "([JJJ)J" } : Jvm.MethodName)) ∈ lw_gt := wd_of 285 (by decide +kernel) rfl
theorem wd_286 : (Jvm.Cond.code ({ cls := "ValueMethods$Lines", name := "floorParts", desc := "([JJJ)J" } : Jvm.MethodName) prog_4_method_13_code (11 : Nat) (Option.some Jvm.ClassFile.FieldType.long)) ∈ lw_gt := wd_of 286 (by decide +kernel) rfl
theorem wd_287 : (Jvm.Cond.methodLink "ValueMethods$Lines" (42 : Nat) ({ cls := "ValueMethods$Lines", name := "handOut", desc := "(J)V" } : Jvm.MethodName)) ∈ lw_gt := wd_of 287 (by decide +kernel) rfl
theorem wd_289 : (Jvm.Cond.instanceMethod ({ cls := "ValueMethods$Lines", name := "handOut", desc := "(J)V" } : Jvm.MethodName)) ∈ lw_gt := wd_of 289 (by decide +kernel) rfl
theorem wd_290 : (Jvm.Cond.code ({ cls := "ValueMethods$Lines", name := "handOut", desc := "(J)V" } : Jvm.MethodName) prog_4_method_14_code (6 : Nat) (Option.none : Option Jvm.ClassFile.FieldType)) ∈ lw_gt := wd_of 290 (by decide +kernel) rfl
theorem wd_291 : (Jvm.Cond.constantLong "ValueMethods$Lines" (46 : Nat) (-1 : Int64)) ∈ lw_gt := wd_of 291 (by decide +kernel) rfl
theorem wd_292 : (Jvm.Cond.methodLink "ValueMethods" (177 : Nat) ({ cls := "ValueMethods$Lines", name := "partOf", desc := "(I)J" } : Jvm.MethodName)) ∈ lw_gt := wd_of 292 (by decide +kernel) rfl
theorem wd_293 : (Jvm.Cond.instanceMethod ({ cls := "ValueMethods$Lines", name := "partOf", desc := "(I)J" } : Jvm.MethodName)) ∈ lw_gt := wd_of 293 (by decide +kernel) rfl
theorem wd_294 : (Jvm.Cond.selects "ValueMethods$Lines" ({ cls := "ValueMethods$Lines", name := "partOf", desc := "(I)J" } : Jvm.MethodName) ({ cls := "ValueMethods$Lines", name := "partOf", desc := "(I)J" } : Jvm.MethodName)) ∈ lw_gt := wd_of 294 (by decide +kernel) rfl
theorem wd_295 : (Jvm.Cond.code ({ cls := "ValueMethods$Lines", name := "partOf", desc := "(I)J" } : Jvm.MethodName) prog_4_method_10_code (2 : Nat) (Option.some Jvm.ClassFile.FieldType.long)) ∈ lw_gt := wd_of 295 (by decide +kernel) rfl
theorem wd_296 : (Jvm.Cond.methodLink "ValueMethods" (245 : Nat) ({ cls := "ValueMethods", name := "mixInAll", desc := "(LValueMethods$Charges;I)V" } : Jvm.MethodName)) ∈ lw_gt := wd_of 296 (by decide +kernel) rfl
theorem wd_298 : (Jvm.Cond.instanceMethod ({ cls := "ValueMethods", name := "mixInAll", desc := "(LValueMethods$Charges;I)V" } : Jvm.MethodName)) ∈ lw_gt := wd_of 298 (by decide +kernel) rfl
theorem wd_299 : (Jvm.Cond.code ({ cls := "ValueMethods", name := "mixInAll", desc := "(LValueMethods$Charges;I)V" } : Jvm.MethodName) prog_1_method_21_code (4 : Nat) (Option.none : Option Jvm.ClassFile.FieldType)) ∈ lw_gt := wd_of 299 (by decide +kernel) rfl
theorem wd_300 : (Jvm.Cond.methodLink "ValueMethods" (249 : Nat) ({ cls := "ValueMethods$Charges", name := "kinds", desc := "()I" } : Jvm.MethodName)) ∈ lw_gt := wd_of 300 (by decide +kernel) rfl
theorem wd_301 : (Jvm.Cond.instanceMethod ({ cls := "ValueMethods$Charges", name := "kinds", desc := "()I" } : Jvm.MethodName)) ∈ lw_gt := wd_of 301 (by decide +kernel) rfl
theorem wd_302 : (Jvm.Cond.selects "ValueMethods$Charges" ({ cls := "ValueMethods$Charges", name := "kinds", desc := "()I" } : Jvm.MethodName) ({ cls := "ValueMethods$Charges", name := "kinds", desc := "()I" } : Jvm.MethodName)) ∈ lw_gt := wd_of 302 (by decide +kernel) rfl
theorem wd_303 : (Jvm.Cond.code ({ cls := "ValueMethods$Charges", name := "kinds", desc := "()I" } : Jvm.MethodName) prog_2_method_2_code (1 : Nat) (Option.some Jvm.ClassFile.FieldType.int)) ∈ lw_gt := wd_of 303 (by decide +kernel) rfl
theorem wd_304 : (Jvm.Cond.methodLink "ValueMethods" (252 : Nat) ({ cls := "ValueMethods$Charges", name := "centsOf", desc := "(I)J" } : Jvm.MethodName)) ∈ lw_gt := wd_of 304 (by decide +kernel) rfl
theorem wd_305 : (Jvm.Cond.instanceMethod ({ cls := "ValueMethods$Charges", name := "centsOf", desc := "(I)J" } : Jvm.MethodName)) ∈ lw_gt := wd_of 305 (by decide +kernel) rfl
theorem wd_306 : (Jvm.Cond.selects "ValueMethods$Charges" ({ cls := "ValueMethods$Charges", name := "centsOf", desc := "(I)J" } : Jvm.MethodName) ({ cls := "ValueMethods$Charges", name := "centsOf", desc := "(I)J" } : Jvm.MethodName)) ∈ lw_gt := wd_of 306 (by decide +kernel) rfl
theorem wd_307 : (Jvm.Cond.code ({ cls := "ValueMethods$Charges", name := "centsOf", desc := "(I)J" } : Jvm.MethodName) prog_2_method_5_code (2 : Nat) (Option.some Jvm.ClassFile.FieldType.long)) ∈ lw_gt := wd_of 307 (by decide +kernel) rfl
theorem wd_308 : (Jvm.Cond.methodLink "ValueMethods" (255 : Nat) ({ cls := "ValueMethods$Charges", name := "goesByWeight", desc := "(I)Z" } : Jvm.MethodName)) ∈ lw_gt := wd_of 308 (by decide +kernel) rfl
theorem wd_309 : (Jvm.Cond.instanceMethod ({ cls := "ValueMethods$Charges", name := "goesByWeight", desc := "(I)Z" } : Jvm.MethodName)) ∈ lw_gt := wd_of 309 (by decide +kernel) rfl
theorem wd_310 : (Jvm.Cond.selects "ValueMethods$Charges" ({ cls := "ValueMethods$Charges", name := "goesByWeight", desc := "(I)Z" } : Jvm.MethodName) ({ cls := "ValueMethods$Charges", name := "goesByWeight", desc := "(I)Z" } : Jvm.MethodName)) ∈ lw_gt := wd_of 310 (by decide +kernel) rfl
theorem wd_311 : (Jvm.Cond.code ({ cls := "ValueMethods$Charges", name := "goesByWeight", desc := "(I)Z" } : Jvm.MethodName) prog_2_method_6_code (2 : Nat) (Option.some Jvm.ClassFile.FieldType.boolean)) ∈ lw_gt := wd_of 311 (by decide +kernel) rfl
theorem wd_312 : (Jvm.Cond.methodLink "ValueMethods" (225 : Nat) ({ cls := "ValueMethods", name := "noValueBelowZero", desc := "()Z" } : Jvm.MethodName)) ∈ lw_gt := wd_of 312 (by decide +kernel) rfl
theorem wd_314 : (Jvm.Cond.instanceMethod ({ cls := "ValueMethods", name := "noValueBelowZero", desc := "()Z" } : Jvm.MethodName)) ∈ lw_gt := wd_of 314 (by decide +kernel) rfl
theorem wd_315 : (Jvm.Cond.code ({ cls := "ValueMethods", name := "noValueBelowZero", desc := "()Z" } : Jvm.MethodName) prog_1_method_23_code (2 : Nat) (Option.some Jvm.ClassFile.FieldType.boolean)) ∈ lw_gt := wd_of 315 (by decide +kernel) rfl
theorem wd_316 : (Jvm.Cond.methodLink "ValueMethods" (207 : Nat) ({ cls := "ValueMethods", name := "passesTest", desc := "()Z" } : Jvm.MethodName)) ∈ lw_gt := wd_of 316 (by decide +kernel) rfl
theorem wd_318 : (Jvm.Cond.instanceMethod ({ cls := "ValueMethods", name := "passesTest", desc := "()Z" } : Jvm.MethodName)) ∈ lw_gt := wd_of 318 (by decide +kernel) rfl
theorem wd_319 : (Jvm.Cond.code ({ cls := "ValueMethods", name := "passesTest", desc := "()Z" } : Jvm.MethodName) prog_1_method_24_code (1 : Nat) (Option.some Jvm.ClassFile.FieldType.boolean)) ∈ lw_gt := wd_of 319 (by decide +kernel) rfl
theorem wd_320 : (Jvm.Cond.methodLink "ValueMethods" (222 : Nat) ({ cls := "ValueMethods", name := "valueSum", desc := "()J" } : Jvm.MethodName)) ∈ lw_gt := wd_of 320 (by decide +kernel) rfl
theorem wd_322 : (Jvm.Cond.instanceMethod ({ cls := "ValueMethods", name := "valueSum", desc := "()J" } : Jvm.MethodName)) ∈ lw_gt := wd_of 322 (by decide +kernel) rfl
theorem wd_323 : (Jvm.Cond.code ({ cls := "ValueMethods", name := "valueSum", desc := "()J" } : Jvm.MethodName) prog_1_method_29_code (4 : Nat) (Option.some Jvm.ClassFile.FieldType.long)) ∈ lw_gt := wd_of 323 (by decide +kernel) rfl
theorem wd_324 : (Jvm.Cond.methodLink "ValueMethods" (258 : Nat) ({ cls := "java/lang/Math", name := "abs", desc := "(J)J" } : Jvm.MethodName)) ∈ lw_gt := wd_of 324 (by decide +kernel) rfl
theorem wd_325 : (Jvm.Cond.static ({ cls := "java/lang/Math", name := "abs", desc := "(J)J" } : Jvm.MethodName)) ∈ lw_gt := wd_of 325 (by decide +kernel) rfl
theorem wd_326 : (Jvm.Cond.code ({ cls := "java/lang/Math", name := "abs", desc := "(J)J" } : Jvm.MethodName) prog_13_method_61_code (2 : Nat) (Option.some Jvm.ClassFile.FieldType.long)) ∈ lw_gt := wd_of 326 (by decide +kernel) rfl
theorem wd_327 : (Jvm.Cond.fieldLink "ValueMethods" (228 : Nat) "ValueMethods" "TURNED_ORDER" "[I") ∈ lw_gt := wd_of 327 (by decide +kernel) rfl
theorem wd_329 : (Jvm.Cond.fieldLink "ValueMethods" (232 : Nat) "ValueMethods" "USUAL_ORDER" "[I") ∈ lw_gt := wd_of 329 (by decide +kernel) rfl
theorem wd_331 : (Jvm.Cond.methodLink "ValueMethods" (235 : Nat) ({ cls := "ValueMethods", name := "fillByFigures", desc := "(I)Z" } : Jvm.MethodName)) ∈ lw_gt := wd_of 331 (by decide +kernel) rfl
theorem wd_333 : (Jvm.Cond.instanceMethod ({ cls := "ValueMethods", name := "fillByFigures", desc := "(I)Z" } : Jvm.MethodName)) ∈ lw_gt := wd_of 333 (by decide +kernel) rfl
theorem wd_334 : (Jvm.Cond.code ({ cls := "ValueMethods", name := "fillByFigures", desc := "(I)Z" } : Jvm.MethodName) prog_1_method_25_code (6 : Nat) (Option.some Jvm.ClassFile.FieldType.boolean)) ∈ lw_gt := wd_of 334 (by decide +kernel) rfl
theorem wd_335 : (Jvm.Cond.methodLink "ValueMethods" (213 : Nat) ({ cls := "ValueMethods$Charges", name := "total", desc := "()J" } : Jvm.MethodName)) ∈ lw_gt := wd_of 335 (by decide +kernel) rfl
theorem wd_336 : (Jvm.Cond.instanceMethod ({ cls := "ValueMethods$Charges", name := "total", desc := "()J" } : Jvm.MethodName)) ∈ lw_gt := wd_of 336 (by decide +kernel) rfl
theorem wd_337 : (Jvm.Cond.selects "ValueMethods$Charges" ({ cls := "ValueMethods$Charges", name := "total", desc := "()J" } : Jvm.MethodName) ({ cls := "ValueMethods$Charges", name := "total", desc := "()J" } : Jvm.MethodName)) ∈ lw_gt := wd_of 337 (by decide +kernel) rfl
theorem wd_338 : (Jvm.Cond.code ({ cls := "ValueMethods$Charges", name := "total", desc := "()J" } : Jvm.MethodName) prog_2_method_8_code (1 : Nat) (Option.some Jvm.ClassFile.FieldType.long)) ∈ lw_gt := wd_of 338 (by decide +kernel) rfl
theorem wd_339 : (Jvm.Cond.methodLink "ValueMethods" (264 : Nat) ({ cls := "ValueMethods", name := "fillShared", desc := "(J)Z" } : Jvm.MethodName)) ∈ lw_gt := wd_of 339 (by decide +kernel) rfl
theorem wd_341 : (Jvm.Cond.instanceMethod ({ cls := "ValueMethods", name := "fillShared", desc := "(J)Z" } : Jvm.MethodName)) ∈ lw_gt := wd_of 341 (by decide +kernel) rfl
theorem wd_342 : (Jvm.Cond.code ({ cls := "ValueMethods", name := "fillShared", desc := "(J)Z" } : Jvm.MethodName) prog_1_method_27_code (4 : Nat) (Option.some Jvm.ClassFile.FieldType.boolean)) ∈ lw_gt := wd_of 342 (by decide +kernel) rfl
theorem wd_343 : (Jvm.Cond.methodLink "ValueMethods" (272 : Nat) ({ cls := "ValueMethods", name := "fillByWeights", desc := "(JJ)Z" } : Jvm.MethodName)) ∈ lw_gt := wd_of 343 (by decide +kernel) rfl
theorem wd_345 : (Jvm.Cond.instanceMethod ({ cls := "ValueMethods", name := "fillByWeights", desc := "(JJ)Z" } : Jvm.MethodName)) ∈ lw_gt := wd_of 345 (by decide +kernel) rfl
theorem wd_346 : (Jvm.Cond.code ({ cls := "ValueMethods", name := "fillByWeights", desc := "(JJ)Z" } : Jvm.MethodName) prog_1_method_26_code (6 : Nat) (Option.some Jvm.ClassFile.FieldType.boolean)) ∈ lw_gt := wd_of 346 (by decide +kernel) rfl
theorem wd_347 : (Jvm.Cond.methodLink "ValueMethods" (190 : Nat) ({ cls := "ValueMethods$Lines", name := "weightOf", desc := "(I)J" } : Jvm.MethodName)) ∈ lw_gt := wd_of 347 (by decide +kernel) rfl
theorem wd_348 : (Jvm.Cond.instanceMethod ({ cls := "ValueMethods$Lines", name := "weightOf", desc := "(I)J" } : Jvm.MethodName)) ∈ lw_gt := wd_of 348 (by decide +kernel) rfl
theorem wd_349 : (Jvm.Cond.selects "ValueMethods$Lines" ({ cls := "ValueMethods$Lines", name := "weightOf", desc := "(I)J" } : Jvm.MethodName) ({ cls := "ValueMethods$Lines", name := "weightOf", desc := "(I)J" } : Jvm.MethodName)) ∈ lw_gt := wd_of 349 (by decide +kernel) rfl
theorem wd_350 : (Jvm.Cond.code ({ cls := "ValueMethods$Lines", name := "weightOf", desc := "(I)J" } : Jvm.MethodName) prog_4_method_6_code (2 : Nat) (Option.some Jvm.ClassFile.FieldType.long)) ∈ lw_gt := wd_of 350 (by decide +kernel) rfl
theorem wd_351 : (Jvm.Cond.methodLink "ValueMethodsLaw" (125 : Nat) ({ cls := "ValueMethods", name := "count", desc := "(I)I" } : Jvm.MethodName)) ∈ lw_gt := wd_of 351 (by decide +kernel) rfl
theorem wd_352 : (Jvm.Cond.instanceMethod ({ cls := "ValueMethods", name := "count", desc := "(I)I" } : Jvm.MethodName)) ∈ lw_gt := wd_of 352 (by decide +kernel) rfl
theorem wd_353 : (Jvm.Cond.selects "ValueMethods" ({ cls := "ValueMethods", name := "count", desc := "(I)I" } : Jvm.MethodName) ({ cls := "ValueMethods", name := "count", desc := "(I)I" } : Jvm.MethodName)) ∈ lw_gt := wd_of 353 (by decide +kernel) rfl
theorem wd_354 : (Jvm.Cond.code ({ cls := "ValueMethods", name := "count", desc := "(I)I" } : Jvm.MethodName) prog_1_method_17_code (2 : Nat) (Option.some Jvm.ClassFile.FieldType.int)) ∈ lw_gt := wd_of 354 (by decide +kernel) rfl
theorem wd_355 : (Jvm.Cond.methodLink "ValueMethods" (196 : Nat) ({ cls := "ValueMethods$Charges", name := "toldKinds", desc := "()I" } : Jvm.MethodName)) ∈ lw_gt := wd_of 355 (by decide +kernel) rfl
theorem wd_356 : (Jvm.Cond.instanceMethod ({ cls := "ValueMethods$Charges", name := "toldKinds", desc := "()I" } : Jvm.MethodName)) ∈ lw_gt := wd_of 356 (by decide +kernel) rfl
theorem wd_357 : (Jvm.Cond.selects "ValueMethods$Charges" ({ cls := "ValueMethods$Charges", name := "toldKinds", desc := "()I" } : Jvm.MethodName) ({ cls := "ValueMethods$Charges", name := "toldKinds", desc := "()I" } : Jvm.MethodName)) ∈ lw_gt := wd_of 357 (by decide +kernel) rfl
theorem wd_358 : (Jvm.Cond.code ({ cls := "ValueMethods$Charges", name := "toldKinds", desc := "()I" } : Jvm.MethodName) prog_2_method_7_code (1 : Nat) (Option.some Jvm.ClassFile.FieldType.int)) ∈ lw_gt := wd_of 358 (by decide +kernel) rfl
theorem wd_359 : (Jvm.Cond.methodLink "ValueMethods" (199 : Nat) ({ cls := "ValueMethods", name := "period", desc := "()I" } : Jvm.MethodName)) ∈ lw_gt := wd_of 359 (by decide +kernel) rfl
theorem wd_361 : (Jvm.Cond.instanceMethod ({ cls := "ValueMethods", name := "period", desc := "()I" } : Jvm.MethodName)) ∈ lw_gt := wd_of 361 (by decide +kernel) rfl
theorem wd_362 : (Jvm.Cond.code ({ cls := "ValueMethods", name := "period", desc := "()I" } : Jvm.MethodName) prog_1_method_31_code (1 : Nat) (Option.some Jvm.ClassFile.FieldType.int)) ∈ lw_gt := wd_of 362 (by decide +kernel) rfl
theorem wd_363 : (Jvm.Cond.methodLink "ValueMethods" (206 : Nat) ({ cls := "ValueMethods$Discounts", name := "size", desc := "()I" } : Jvm.MethodName)) ∈ lw_gt := wd_of 363 (by decide +kernel) rfl
theorem wd_364 : (Jvm.Cond.instanceMethod ({ cls := "ValueMethods$Discounts", name := "size", desc := "()I" } : Jvm.MethodName)) ∈ lw_gt := wd_of 364 (by decide +kernel) rfl
theorem wd_365 : (Jvm.Cond.selects "ValueMethods$Discounts" ({ cls := "ValueMethods$Discounts", name := "size", desc := "()I" } : Jvm.MethodName) ({ cls := "ValueMethods$Discounts", name := "size", desc := "()I" } : Jvm.MethodName)) ∈ lw_gt := wd_of 365 (by decide +kernel) rfl
theorem wd_366 : (Jvm.Cond.code ({ cls := "ValueMethods$Discounts", name := "size", desc := "()I" } : Jvm.MethodName) prog_3_method_3_code (1 : Nat) (Option.some Jvm.ClassFile.FieldType.int)) ∈ lw_gt := wd_of 366 (by decide +kernel) rfl
theorem wd_367 : (Jvm.Cond.methodLink "ValueMethodsLaw" (130 : Nat) ({ cls := "ValueMethods", name := "sum", desc := "(I)J" } : Jvm.MethodName)) ∈ lw_gt := wd_of 367 (by decide +kernel) rfl
theorem wd_368 : (Jvm.Cond.instanceMethod ({ cls := "ValueMethods", name := "sum", desc := "(I)J" } : Jvm.MethodName)) ∈ lw_gt := wd_of 368 (by decide +kernel) rfl
theorem wd_369 : (Jvm.Cond.selects "ValueMethods" ({ cls := "ValueMethods", name := "sum", desc := "(I)J" } : Jvm.MethodName) ({ cls := "ValueMethods", name := "sum", desc := "(I)J" } : Jvm.MethodName)) ∈ lw_gt := wd_of 369 (by decide +kernel) rfl
theorem wd_370 : (Jvm.Cond.code ({ cls := "ValueMethods", name := "sum", desc := "(I)J" } : Jvm.MethodName) prog_1_method_18_code (3 : Nat) (Option.some Jvm.ClassFile.FieldType.long)) ∈ lw_gt := wd_of 370 (by decide +kernel) rfl
theorem wd_371 : (Jvm.Cond.methodLink "ValueMethods" (181 : Nat) ({ cls := "ValueMethods$Lines", name := "weightSum", desc := "()J" } : Jvm.MethodName)) ∈ lw_gt := wd_of 371 (by decide +kernel) rfl
theorem wd_372 : (Jvm.Cond.instanceMethod ({ cls := "ValueMethods$Lines", name := "weightSum", desc := "()J" } : Jvm.MethodName)) ∈ lw_gt := wd_of 372 (by decide +kernel) rfl
theorem wd_373 : (Jvm.Cond.selects "ValueMethods$Lines" ({ cls := "ValueMethods$Lines", name := "weightSum", desc := "()J" } : Jvm.MethodName) ({ cls := "ValueMethods$Lines", name := "weightSum", desc := "()J" } : Jvm.MethodName)) ∈ lw_gt := wd_of 373 (by decide +kernel) rfl
theorem wd_374 : (Jvm.Cond.code ({ cls := "ValueMethods$Lines", name := "weightSum", desc := "()J" } : Jvm.MethodName) prog_4_method_8_code (1 : Nat) (Option.some Jvm.ClassFile.FieldType.long)) ∈ lw_gt := wd_of 374 (by decide +kernel) rfl
theorem wd_375 : (Jvm.Cond.methodLink "ValueMethods" (219 : Nat) ({ cls := "ValueMethods", name := "ownSum", desc := "(I)J" } : Jvm.MethodName)) ∈ lw_gt := wd_of 375 (by decide +kernel) rfl
theorem wd_377 : (Jvm.Cond.instanceMethod ({ cls := "ValueMethods", name := "ownSum", desc := "(I)J" } : Jvm.MethodName)) ∈ lw_gt := wd_of 377 (by decide +kernel) rfl
theorem wd_378 : (Jvm.Cond.code ({ cls := "ValueMethods", name := "ownSum", desc := "(I)J" } : Jvm.MethodName) prog_1_method_32_code (2 : Nat) (Option.some Jvm.ClassFile.FieldType.long)) ∈ lw_gt := wd_of 378 (by decide +kernel) rfl
theorem wd_379 : (Jvm.Cond.methodLink "ValueMethods" (278 : Nat) ({ cls := "ValueMethods", name := "upOf", desc := "(I)J" } : Jvm.MethodName)) ∈ lw_gt := wd_of 379 (by decide +kernel) rfl
theorem wd_381 : (Jvm.Cond.instanceMethod ({ cls := "ValueMethods", name := "upOf", desc := "(I)J" } : Jvm.MethodName)) ∈ lw_gt := wd_of 381 (by decide +kernel) rfl
theorem wd_382 : (Jvm.Cond.code ({ cls := "ValueMethods", name := "upOf", desc := "(I)J" } : Jvm.MethodName) prog_1_method_34_code (2 : Nat) (Option.some Jvm.ClassFile.FieldType.long)) ∈ lw_gt := wd_of 382 (by decide +kernel) rfl
theorem wd_383 : (Jvm.Cond.methodLink "ValueMethods" (288 : Nat) ({ cls := "ValueMethods", name := "isInOwnCurrency", desc := "(I)Z" } : Jvm.MethodName)) ∈ lw_gt := wd_of 383 (by decide +kernel) rfl
theorem wd_384 : (Jvm.Cond.static ({ cls := "ValueMethods", name := "isInOwnCurrency", desc := "(I)Z" } : Jvm.MethodName)) ∈ lw_gt := wd_of 384 (by decide +kernel) rfl
theorem wd_385 : (Jvm.Cond.code ({ cls := "ValueMethods", name := "isInOwnCurrency", desc := "(I)Z" } : Jvm.MethodName) prog_1_method_36_code (1 : Nat) (Option.some Jvm.ClassFile.FieldType.boolean)) ∈ lw_gt := wd_of 385 (by decide +kernel) rfl
theorem wd_386 : (Jvm.Cond.methodLink "ValueMethods" (291 : Nat) ({ cls := "ValueMethods$Rates", name := "upIn", desc := "(I)J" } : Jvm.MethodName)) ∈ lw_gt := wd_of 386 (by decide +kernel) rfl
theorem wd_387 : (Jvm.Cond.instanceMethod ({ cls := "ValueMethods$Rates", name := "upIn", desc := "(I)J" } : Jvm.MethodName)) ∈ lw_gt := wd_of 387 (by decide +kernel) rfl
theorem wd_388 : (Jvm.Cond.selects "ValueMethods$Rates" ({ cls := "ValueMethods$Rates", name := "upIn", desc := "(I)J" } : Jvm.MethodName) ({ cls := "ValueMethods$Rates", name := "upIn", desc := "(I)J" } : Jvm.MethodName)) ∈ lw_gt := wd_of 388 (by decide +kernel) rfl
theorem wd_389 : (Jvm.Cond.code ({ cls := "ValueMethods$Rates", name := "upIn", desc := "(I)J" } : Jvm.MethodName) prog_5_method_3_code (2 : Nat) (Option.some Jvm.ClassFile.FieldType.long)) ∈ lw_gt := wd_of 389 (by decide +kernel) rfl
theorem wd_390 : (Jvm.Cond.methodLink "ValueMethods" (281 : Nat) ({ cls := "ValueMethods", name := "downOf", desc := "(I)J" } : Jvm.MethodName)) ∈ lw_gt := wd_of 390 (by decide +kernel) rfl
theorem wd_392 : (Jvm.Cond.instanceMethod ({ cls := "ValueMethods", name := "downOf", desc := "(I)J" } : Jvm.MethodName)) ∈ lw_gt := wd_of 392 (by decide +kernel) rfl
theorem wd_393 : (Jvm.Cond.code ({ cls := "ValueMethods", name := "downOf", desc := "(I)J" } : Jvm.MethodName) prog_1_method_35_code (2 : Nat) (Option.some Jvm.ClassFile.FieldType.long)) ∈ lw_gt := wd_of 393 (by decide +kernel) rfl
theorem wd_394 : (Jvm.Cond.methodLink "ValueMethods" (294 : Nat) ({ cls := "ValueMethods$Rates", name := "downIn", desc := "(I)J" } : Jvm.MethodName)) ∈ lw_gt := wd_of 394 (by decide +kernel) rfl
theorem wd_395 : (Jvm.Cond.instanceMethod ({ cls := "ValueMethods$Rates", name := "downIn", desc := "(I)J" } : Jvm.MethodName)) ∈ lw_gt := wd_of 395 (by decide +kernel) rfl
theorem wd_396 : (Jvm.Cond.selects "ValueMethods$Rates" ({ cls := "ValueMethods$Rates", name := "downIn", desc := "(I)J" } : Jvm.MethodName) ({ cls := "ValueMethods$Rates", name := "downIn", desc := "(I)J" } : Jvm.MethodName)) ∈ lw_gt := wd_of 396 (by decide +kernel) rfl
theorem wd_397 : (Jvm.Cond.code ({ cls := "ValueMethods$Rates", name := "downIn", desc := "(I)J" } : Jvm.MethodName) prog_5_method_4_code (2 : Nat) (Option.some Jvm.ClassFile.FieldType.long)) ∈ lw_gt := wd_of 397 (by decide +kernel) rfl
theorem wd_398 : (Jvm.Cond.methodLink "ValueMethodsLaw" (56 : Nat) ({ cls := "ValueMethodsLaw", name := "line", desc := "(LValueMethods;JJ[J)I" } : Jvm.MethodName)) ∈ lw_gt := wd_of 398 (by decide +kernel) rfl
theorem wd_399 : (Jvm.Cond.static ({ cls := "ValueMethodsLaw", name := "line", desc := "(LValueMethods;JJ[J)I" } : Jvm.MethodName)) ∈ lw_gt := wd_of 399 (by decide +kernel) rfl
theorem wd_400 : (Jvm.Cond.codeWith ({ cls := "ValueMethodsLaw", name := "line", desc := "(LValueMethods;JJ[J)I" } : Jvm.MethodName) method_3_code (7 : Nat) (Option.some Jvm.ClassFile.FieldType.int) [((0 : Nat), (11 : Nat), (14 : Nat), (13 : Nat)), ((0 : Nat), (11 : Nat), (18 : Nat), (15 : Nat))]) ∈ lw_gt := wd_of 400 (by decide +kernel) rfl
theorem wd_401 : (Jvm.Cond.classLink "ValueMethodsLaw" (13 : Nat) "java/lang/IllegalArgumentException") ∈ lw_gt := wd_of 401 (by decide +kernel) rfl
theorem wd_402 : (Jvm.Cond.classLink "ValueMethodsLaw" (15 : Nat) "java/lang/IllegalStateException") ∈ lw_gt := wd_of 402 (by decide +kernel) rfl
theorem wd_403 : (Jvm.Cond.methodLink "ValueMethodsLaw" (7 : Nat) ({ cls := "ValueMethods", name := "line", desc := "(JJ)I" } : Jvm.MethodName)) ∈ lw_gt := wd_of 403 (by decide +kernel) rfl
theorem wd_404 : (Jvm.Cond.instanceMethod ({ cls := "ValueMethods", name := "line", desc := "(JJ)I" } : Jvm.MethodName)) ∈ lw_gt := wd_of 404 (by decide +kernel) rfl
theorem wd_405 : (Jvm.Cond.selects "ValueMethods" ({ cls := "ValueMethods", name := "line", desc := "(JJ)I" } : Jvm.MethodName) ({ cls := "ValueMethods", name := "line", desc := "(JJ)I" } : Jvm.MethodName)) ∈ lw_gt := wd_of 405 (by decide +kernel) rfl
theorem wd_406 : (Jvm.Cond.code ({ cls := "ValueMethods", name := "line", desc := "(JJ)I" } : Jvm.MethodName) prog_1_method_2_code (5 : Nat) (Option.some Jvm.ClassFile.FieldType.int)) ∈ lw_gt := wd_of 406 (by decide +kernel) rfl
theorem wd_407 : (Jvm.Cond.constantLong "ValueMethods" (72 : Nat) (100000000 : Int64)) ∈ lw_gt := wd_of 407 (by decide +kernel) rfl
theorem wd_408 : (Jvm.Cond.classLink "ValueMethods" (78 : Nat) "java/lang/IllegalArgumentException") ∈ lw_gt := wd_of 408 (by decide +kernel) rfl
theorem wd_409 : (Jvm.Cond.instantiable "java/lang/IllegalArgumentException" (6 : Nat)) ∈ lw_gt := wd_of 409 (by decide +kernel) rfl
theorem wd_417 : (Jvm.Cond.selects "java/lang/IllegalArgumentException" ({ cls := "java/lang/Throwable", name := "fillInStackTrace", desc := "(I)Ljava/lang/Throwable;" } : Jvm.MethodName) ({ cls := "java/lang/Throwable", name := "fillInStackTrace", desc := "(I)Ljava/lang/Throwable;" } : Jvm.MethodName)) ∈ lw_gt := wd_of 417 (by decide +kernel) rfl
theorem wd_418 : (Jvm.Cond.selects "java/lang/IllegalArgumentException" ({ cls := "java/lang/Throwable", name := "fillInStackTrace", desc := "()Ljava/lang/Throwable;" } : Jvm.MethodName) ({ cls := "java/lang/Throwable", name := "fillInStackTrace", desc := "()Ljava/lang/Throwable;" } : Jvm.MethodName)) ∈ lw_gt := wd_of 418 (by decide +kernel) rfl
theorem wd_419 : (Jvm.Cond.lays "java/lang/IllegalArgumentException" "java/lang/Throwable" "cause" "Ljava/lang/Throwable;") ∈ lw_gt := wd_of 419 (by decide +kernel) rfl
theorem wd_420 : (Jvm.Cond.lays "java/lang/Throwable" "java/lang/Throwable" "cause" "Ljava/lang/Throwable;") ∈ lw_gt := wd_of 420 (by decide +kernel) rfl
theorem wd_421 : (Jvm.Cond.lays "java/lang/IllegalArgumentException" "java/lang/Throwable" "stackTrace" "[Ljava/lang/StackTraceElement;") ∈ lw_gt := wd_of 421 (by decide +kernel) rfl
theorem wd_422 : (Jvm.Cond.lays "java/lang/Throwable" "java/lang/Throwable" "stackTrace" "[Ljava/lang/StackTraceElement;") ∈ lw_gt := wd_of 422 (by decide +kernel) rfl
theorem wd_423 : (Jvm.Cond.lays "java/lang/IllegalArgumentException" "java/lang/Throwable" "suppressedExceptions" "Ljava/util/List;") ∈ lw_gt := wd_of 423 (by decide +kernel) rfl
theorem wd_424 : (Jvm.Cond.lays "java/lang/Throwable" "java/lang/Throwable" "suppressedExceptions" "Ljava/util/List;") ∈ lw_gt := wd_of 424 (by decide +kernel) rfl
theorem wd_425 : (Jvm.Cond.lays "java/lang/IllegalArgumentException" "java/lang/Throwable" "detailMessage" "Ljava/lang/String;") ∈ lw_gt := wd_of 425 (by decide +kernel) rfl
theorem wd_426 : (Jvm.Cond.lays "java/lang/Throwable" "java/lang/Throwable" "detailMessage" "Ljava/lang/String;") ∈ lw_gt := wd_of 426 (by decide +kernel) rfl
theorem wd_427 : (Jvm.Cond.lays "java/lang/IllegalArgumentException" "java/lang/Throwable" "backtrace" "Ljava/lang/Object;") ∈ lw_gt := wd_of 427 (by decide +kernel) rfl
theorem wd_428 : (Jvm.Cond.lays "java/lang/Throwable" "java/lang/Throwable" "backtrace" "Ljava/lang/Object;") ∈ lw_gt := wd_of 428 (by decide +kernel) rfl
theorem wd_429 : (Jvm.Cond.fieldLink "java/lang/Throwable" (198 : Nat) "java/lang/Throwable" "backtrace" "Ljava/lang/Object;") ∈ lw_gt := wd_of 429 (by decide +kernel) rfl
theorem wd_431 : (Jvm.Cond.instanceMethod ({ cls := "java/lang/Throwable", name := "<init>", desc := "()V" } : Jvm.MethodName)) ∈ lw_gt := wd_of 431 (by decide +kernel) rfl
theorem wd_432 : (Jvm.Cond.code ({ cls := "java/lang/Throwable", name := "<init>", desc := "()V" } : Jvm.MethodName) prog_16_method_1_code (1 : Nat) (Option.none : Option Jvm.ClassFile.FieldType)) ∈ lw_gt := wd_of 432 (by decide +kernel) rfl
theorem wd_433 : (Jvm.Cond.methodLink "java/lang/Throwable" (1 : Nat) ({ cls := "java/lang/Object", name := "<init>", desc := "()V" } : Jvm.MethodName)) ∈ lw_gt := wd_of 433 (by decide +kernel) rfl
theorem wd_434 : (Jvm.Cond.fieldLink "java/lang/Throwable" (13 : Nat) "java/lang/Throwable" "UNASSIGNED_STACK" "[Ljava/lang/StackTraceElement;") ∈ lw_gt := wd_of 434 (by decide +kernel) rfl
theorem wd_436 : (Jvm.Cond.fieldLink "java/lang/Throwable" (20 : Nat) "java/lang/Throwable" "SUPPRESSED_SENTINEL" "Ljava/util/List;") ∈ lw_gt := wd_of 436 (by decide +kernel) rfl
theorem wd_438 : (Jvm.Cond.methodLink "java/lang/Throwable" (27 : Nat) ({ cls := "java/lang/Throwable", name := "fillInStackTrace", desc := "()Ljava/lang/Throwable;" } : Jvm.MethodName)) ∈ lw_gt := wd_of 438 (by decide +kernel) rfl
theorem wd_439 : (Jvm.Cond.instanceMethod ({ cls := "java/lang/Throwable", name := "fillInStackTrace", desc := "()Ljava/lang/Throwable;" } : Jvm.MethodName)) ∈ lw_gt := wd_of 439 (by decide +kernel) rfl
theorem wd_441 : (Jvm.Cond.selects "java/lang/ArithmeticException" ({ cls := "java/lang/Throwable", name := "fillInStackTrace", desc := "()Ljava/lang/Throwable;" } : Jvm.MethodName) ({ cls := "java/lang/Throwable", name := "fillInStackTrace", desc := "()Ljava/lang/Throwable;" } : Jvm.MethodName)) ∈ lw_gt := wd_of 441 (by decide +kernel) rfl
theorem wd_442 : (Jvm.Cond.selects "java/lang/IllegalStateException" ({ cls := "java/lang/Throwable", name := "fillInStackTrace", desc := "()Ljava/lang/Throwable;" } : Jvm.MethodName) ({ cls := "java/lang/Throwable", name := "fillInStackTrace", desc := "()Ljava/lang/Throwable;" } : Jvm.MethodName)) ∈ lw_gt := wd_of 442 (by decide +kernel) rfl
theorem wd_443 : (Jvm.Cond.selects "java/lang/IndexOutOfBoundsException" ({ cls := "java/lang/Throwable", name := "fillInStackTrace", desc := "()Ljava/lang/Throwable;" } : Jvm.MethodName) ({ cls := "java/lang/Throwable", name := "fillInStackTrace", desc := "()Ljava/lang/Throwable;" } : Jvm.MethodName)) ∈ lw_gt := wd_of 443 (by decide +kernel) rfl
theorem wd_444 : (Jvm.Cond.selects "java/util/NoSuchElementException" ({ cls := "java/lang/Throwable", name := "fillInStackTrace", desc := "()Ljava/lang/Throwable;" } : Jvm.MethodName) ({ cls := "java/lang/Throwable", name := "fillInStackTrace", desc := "()Ljava/lang/Throwable;" } : Jvm.MethodName)) ∈ lw_gt := wd_of 444 (by decide +kernel) rfl
theorem wd_446 : (Jvm.Cond.methodLink "java/lang/Throwable" (202 : Nat) ({ cls := "java/lang/Throwable", name := "fillInStackTrace", desc := "(I)Ljava/lang/Throwable;" } : Jvm.MethodName)) ∈ lw_gt := wd_of 446 (by decide +kernel) rfl
theorem wd_448 : (Jvm.Cond.instanceMethod ({ cls := "java/lang/Throwable", name := "fillInStackTrace", desc := "(I)Ljava/lang/Throwable;" } : Jvm.MethodName)) ∈ lw_gt := wd_of 448 (by decide +kernel) rfl
theorem wd_449 : (Jvm.Cond.instantiable "java/lang/Throwable" (6 : Nat)) ∈ lw_gt := wd_of 449 (by decide +kernel) rfl
theorem wd_452 : (Jvm.Cond.methodLink "ValueMethods" (82 : Nat) ({ cls := "java/lang/IllegalArgumentException", name := "<init>", desc := "(Ljava/lang/String;)V" } : Jvm.MethodName)) ∈ lw_gt := wd_of 452 (by decide +kernel) rfl
theorem wd_453 : (Jvm.Cond.instanceMethod ({ cls := "java/lang/IllegalArgumentException", name := "<init>", desc := "(Ljava/lang/String;)V" } : Jvm.MethodName)) ∈ lw_gt := wd_of 453 (by decide +kernel) rfl
theorem wd_454 : (Jvm.Cond.code ({ cls := "java/lang/IllegalArgumentException", name := "<init>", desc := "(Ljava/lang/String;)V" } : Jvm.MethodName) prog_10_method_2_code (2 : Nat) (Option.none : Option Jvm.ClassFile.FieldType)) ∈ lw_gt := wd_of 454 (by decide +kernel) rfl
theorem wd_455 : (Jvm.Cond.methodLink "java/lang/IllegalArgumentException" (7 : Nat) ({ cls := "java/lang/RuntimeException", name := "<init>", desc := "(Ljava/lang/String;)V" } : Jvm.MethodName)) ∈ lw_gt := wd_of 455 (by decide +kernel) rfl
theorem wd_456 : (Jvm.Cond.instanceMethod ({ cls := "java/lang/RuntimeException", name := "<init>", desc := "(Ljava/lang/String;)V" } : Jvm.MethodName)) ∈ lw_gt := wd_of 456 (by decide +kernel) rfl
theorem wd_457 : (Jvm.Cond.code ({ cls := "java/lang/RuntimeException", name := "<init>", desc := "(Ljava/lang/String;)V" } : Jvm.MethodName) prog_14_method_2_code (2 : Nat) (Option.none : Option Jvm.ClassFile.FieldType)) ∈ lw_gt := wd_of 457 (by decide +kernel) rfl
theorem wd_458 : (Jvm.Cond.methodLink "java/lang/RuntimeException" (7 : Nat) ({ cls := "java/lang/Exception", name := "<init>", desc := "(Ljava/lang/String;)V" } : Jvm.MethodName)) ∈ lw_gt := wd_of 458 (by decide +kernel) rfl
theorem wd_459 : (Jvm.Cond.instanceMethod ({ cls := "java/lang/Exception", name := "<init>", desc := "(Ljava/lang/String;)V" } : Jvm.MethodName)) ∈ lw_gt := wd_of 459 (by decide +kernel) rfl
theorem wd_460 : (Jvm.Cond.code ({ cls := "java/lang/Exception", name := "<init>", desc := "(Ljava/lang/String;)V" } : Jvm.MethodName) prog_9_method_2_code (2 : Nat) (Option.none : Option Jvm.ClassFile.FieldType)) ∈ lw_gt := wd_of 460 (by decide +kernel) rfl
theorem wd_461 : (Jvm.Cond.methodLink "java/lang/Exception" (7 : Nat) ({ cls := "java/lang/Throwable", name := "<init>", desc := "(Ljava/lang/String;)V" } : Jvm.MethodName)) ∈ lw_gt := wd_of 461 (by decide +kernel) rfl
theorem wd_462 : (Jvm.Cond.instanceMethod ({ cls := "java/lang/Throwable", name := "<init>", desc := "(Ljava/lang/String;)V" } : Jvm.MethodName)) ∈ lw_gt := wd_of 462 (by decide +kernel) rfl
theorem wd_463 : (Jvm.Cond.code ({ cls := "java/lang/Throwable", name := "<init>", desc := "(Ljava/lang/String;)V" } : Jvm.MethodName) prog_16_method_2_code (2 : Nat) (Option.none : Option Jvm.ClassFile.FieldType)) ∈ lw_gt := wd_of 463 (by decide +kernel) rfl
theorem wd_464 : (Jvm.Cond.fieldLink "java/lang/Throwable" (198 : Nat) "java/lang/Throwable" "backtrace" "Ljava/lang/Object;") ∈ lw_gt := wd_of 464 (by decide +kernel) rfl
theorem wd_465 : (Jvm.Cond.fieldLink "java/lang/Throwable" (31 : Nat) "java/lang/Throwable" "detailMessage" "Ljava/lang/String;") ∈ lw_gt := wd_of 465 (by decide +kernel) rfl
theorem wd_466 : (Jvm.Cond.fieldLink "java/lang/Throwable" (7 : Nat) "java/lang/Throwable" "cause" "Ljava/lang/Throwable;") ∈ lw_gt := wd_of 466 (by decide +kernel) rfl
theorem wd_467 : (Jvm.Cond.fieldLink "java/lang/Throwable" (17 : Nat) "java/lang/Throwable" "stackTrace" "[Ljava/lang/StackTraceElement;") ∈ lw_gt := wd_of 467 (by decide +kernel) rfl
theorem wd_468 : (Jvm.Cond.fieldLink "java/lang/Throwable" (24 : Nat) "java/lang/Throwable" "suppressedExceptions" "Ljava/util/List;") ∈ lw_gt := wd_of 468 (by decide +kernel) rfl
theorem wd_473 : (Jvm.Cond.lays "java/lang/IllegalArgumentException" "java/lang/Throwable" "depth" "I") ∈ lw_gt := wd_of 473 (by decide +kernel) rfl
theorem wd_477 : (Jvm.Cond.arrayClass Jvm.ClassFile.FieldType.byte) ∈ lw_gt := wd_of 477 (by decide +kernel) rfl
theorem wd_478 : (Jvm.Cond.methodLink "ValueMethods" (85 : Nat) ({ cls := "ValueMethods$Lines", name := "isFull", desc := "()Z" } : Jvm.MethodName)) ∈ lw_gt := wd_of 478 (by decide +kernel) rfl
theorem wd_479 : (Jvm.Cond.instanceMethod ({ cls := "ValueMethods$Lines", name := "isFull", desc := "()Z" } : Jvm.MethodName)) ∈ lw_gt := wd_of 479 (by decide +kernel) rfl
theorem wd_480 : (Jvm.Cond.selects "ValueMethods$Lines" ({ cls := "ValueMethods$Lines", name := "isFull", desc := "()Z" } : Jvm.MethodName) ({ cls := "ValueMethods$Lines", name := "isFull", desc := "()Z" } : Jvm.MethodName)) ∈ lw_gt := wd_of 480 (by decide +kernel) rfl
theorem wd_481 : (Jvm.Cond.code ({ cls := "ValueMethods$Lines", name := "isFull", desc := "()Z" } : Jvm.MethodName) prog_4_method_2_code (1 : Nat) (Option.some Jvm.ClassFile.FieldType.boolean)) ∈ lw_gt := wd_of 481 (by decide +kernel) rfl
theorem wd_482 : (Jvm.Cond.classLink "ValueMethods" (89 : Nat) "java/lang/IllegalStateException") ∈ lw_gt := wd_of 482 (by decide +kernel) rfl
theorem wd_483 : (Jvm.Cond.instantiable "java/lang/IllegalStateException" (6 : Nat)) ∈ lw_gt := wd_of 483 (by decide +kernel) rfl
theorem wd_485 : (Jvm.Cond.selects "java/lang/IllegalStateException" ({ cls := "java/lang/Throwable", name := "fillInStackTrace", desc := "(I)Ljava/lang/Throwable;" } : Jvm.MethodName) ({ cls := "java/lang/Throwable", name := "fillInStackTrace", desc := "(I)Ljava/lang/Throwable;" } : Jvm.MethodName)) ∈ lw_gt := wd_of 485 (by decide +kernel) rfl
theorem wd_486 : (Jvm.Cond.lays "java/lang/IllegalStateException" "java/lang/Throwable" "cause" "Ljava/lang/Throwable;") ∈ lw_gt := wd_of 486 (by decide +kernel) rfl
theorem wd_487 : (Jvm.Cond.lays "java/lang/IllegalStateException" "java/lang/Throwable" "stackTrace" "[Ljava/lang/StackTraceElement;") ∈ lw_gt := wd_of 487 (by decide +kernel) rfl
theorem wd_488 : (Jvm.Cond.lays "java/lang/IllegalStateException" "java/lang/Throwable" "suppressedExceptions" "Ljava/util/List;") ∈ lw_gt := wd_of 488 (by decide +kernel) rfl
theorem wd_489 : (Jvm.Cond.lays "java/lang/IllegalStateException" "java/lang/Throwable" "detailMessage" "Ljava/lang/String;") ∈ lw_gt := wd_of 489 (by decide +kernel) rfl
theorem wd_490 : (Jvm.Cond.lays "java/lang/IllegalStateException" "java/lang/Throwable" "backtrace" "Ljava/lang/Object;") ∈ lw_gt := wd_of 490 (by decide +kernel) rfl
theorem wd_492 : (Jvm.Cond.methodLink "ValueMethods" (93 : Nat) ({ cls := "java/lang/IllegalStateException", name := "<init>", desc := "(Ljava/lang/String;)V" } : Jvm.MethodName)) ∈ lw_gt := wd_of 492 (by decide +kernel) rfl
theorem wd_493 : (Jvm.Cond.instanceMethod ({ cls := "java/lang/IllegalStateException", name := "<init>", desc := "(Ljava/lang/String;)V" } : Jvm.MethodName)) ∈ lw_gt := wd_of 493 (by decide +kernel) rfl
theorem wd_494 : (Jvm.Cond.code ({ cls := "java/lang/IllegalStateException", name := "<init>", desc := "(Ljava/lang/String;)V" } : Jvm.MethodName) prog_11_method_2_code (2 : Nat) (Option.none : Option Jvm.ClassFile.FieldType)) ∈ lw_gt := wd_of 494 (by decide +kernel) rfl
theorem wd_495 : (Jvm.Cond.methodLink "java/lang/IllegalStateException" (7 : Nat) ({ cls := "java/lang/RuntimeException", name := "<init>", desc := "(Ljava/lang/String;)V" } : Jvm.MethodName)) ∈ lw_gt := wd_of 495 (by decide +kernel) rfl
theorem wd_496 : (Jvm.Cond.lays "java/lang/IllegalStateException" "java/lang/Throwable" "depth" "I") ∈ lw_gt := wd_of 496 (by decide +kernel) rfl
theorem wd_498 : (Jvm.Cond.methodLink "ValueMethods" (94 : Nat) ({ cls := "ValueMethods$Lines", name := "append", desc := "(JJ)I" } : Jvm.MethodName)) ∈ lw_gt := wd_of 498 (by decide +kernel) rfl
theorem wd_499 : (Jvm.Cond.instanceMethod ({ cls := "ValueMethods$Lines", name := "append", desc := "(JJ)I" } : Jvm.MethodName)) ∈ lw_gt := wd_of 499 (by decide +kernel) rfl
theorem wd_500 : (Jvm.Cond.selects "ValueMethods$Lines" ({ cls := "ValueMethods$Lines", name := "append", desc := "(JJ)I" } : Jvm.MethodName) ({ cls := "ValueMethods$Lines", name := "append", desc := "(JJ)I" } : Jvm.MethodName)) ∈ lw_gt := wd_of 500 (by decide +kernel) rfl
theorem wd_501 : (Jvm.Cond.code ({ cls := "ValueMethods$Lines", name := "append", desc := "(JJ)I" } : Jvm.MethodName) prog_4_method_3_code (5 : Nat) (Option.some Jvm.ClassFile.FieldType.int)) ∈ lw_gt := wd_of 501 (by decide +kernel) rfl
theorem wd_502 : (Jvm.Cond.methodLink "ValueMethodsLaw" (66 : Nat) ({ cls := "ValueMethodsLaw", name := "add", desc := "(LValueMethods;IJZ[J)I" } : Jvm.MethodName)) ∈ lw_gt := wd_of 502 (by decide +kernel) rfl
theorem wd_503 : (Jvm.Cond.static ({ cls := "ValueMethodsLaw", name := "add", desc := "(LValueMethods;IJZ[J)I" } : Jvm.MethodName)) ∈ lw_gt := wd_of 503 (by decide +kernel) rfl
theorem wd_504 : (Jvm.Cond.codeWith ({ cls := "ValueMethodsLaw", name := "add", desc := "(LValueMethods;IJZ[J)I" } : Jvm.MethodName) method_4_code (7 : Nat) (Option.some Jvm.ClassFile.FieldType.int) [((0 : Nat), (20 : Nat), (23 : Nat), (13 : Nat))]) ∈ lw_gt := wd_of 504 (by decide +kernel) rfl
theorem wd_505 : (Jvm.Cond.methodLink "ValueMethodsLaw" (17 : Nat) ({ cls := "ValueMethods", name := "add", desc := "(IJZ)Z" } : Jvm.MethodName)) ∈ lw_gt := wd_of 505 (by decide +kernel) rfl
theorem wd_506 : (Jvm.Cond.instanceMethod ({ cls := "ValueMethods", name := "add", desc := "(IJZ)Z" } : Jvm.MethodName)) ∈ lw_gt := wd_of 506 (by decide +kernel) rfl
theorem wd_507 : (Jvm.Cond.selects "ValueMethods" ({ cls := "ValueMethods", name := "add", desc := "(IJZ)Z" } : Jvm.MethodName) ({ cls := "ValueMethods", name := "add", desc := "(IJZ)Z" } : Jvm.MethodName)) ∈ lw_gt := wd_of 507 (by decide +kernel) rfl
theorem wd_508 : (Jvm.Cond.code ({ cls := "ValueMethods", name := "add", desc := "(IJZ)Z" } : Jvm.MethodName) prog_1_method_3_code (5 : Nat) (Option.some Jvm.ClassFile.FieldType.boolean)) ∈ lw_gt := wd_of 508 (by decide +kernel) rfl
theorem wd_509 : (Jvm.Cond.methodLink "ValueMethods" (98 : Nat) ({ cls := "ValueMethods$Charges", name := "hasKind", desc := "(I)Z" } : Jvm.MethodName)) ∈ lw_gt := wd_of 509 (by decide +kernel) rfl
theorem wd_510 : (Jvm.Cond.instanceMethod ({ cls := "ValueMethods$Charges", name := "hasKind", desc := "(I)Z" } : Jvm.MethodName)) ∈ lw_gt := wd_of 510 (by decide +kernel) rfl
theorem wd_511 : (Jvm.Cond.selects "ValueMethods$Charges" ({ cls := "ValueMethods$Charges", name := "hasKind", desc := "(I)Z" } : Jvm.MethodName) ({ cls := "ValueMethods$Charges", name := "hasKind", desc := "(I)Z" } : Jvm.MethodName)) ∈ lw_gt := wd_of 511 (by decide +kernel) rfl
theorem wd_512 : (Jvm.Cond.code ({ cls := "ValueMethods$Charges", name := "hasKind", desc := "(I)Z" } : Jvm.MethodName) prog_2_method_3_code (2 : Nat) (Option.some Jvm.ClassFile.FieldType.boolean)) ∈ lw_gt := wd_of 512 (by decide +kernel) rfl
theorem wd_514 : (Jvm.Cond.methodLink "ValueMethods" (106 : Nat) ({ cls := "ValueMethods$Charges", name := "tell", desc := "(IJZ)Z" } : Jvm.MethodName)) ∈ lw_gt := wd_of 514 (by decide +kernel) rfl
theorem wd_515 : (Jvm.Cond.instanceMethod ({ cls := "ValueMethods$Charges", name := "tell", desc := "(IJZ)Z" } : Jvm.MethodName)) ∈ lw_gt := wd_of 515 (by decide +kernel) rfl
theorem wd_516 : (Jvm.Cond.selects "ValueMethods$Charges" ({ cls := "ValueMethods$Charges", name := "tell", desc := "(IJZ)Z" } : Jvm.MethodName) ({ cls := "ValueMethods$Charges", name := "tell", desc := "(IJZ)Z" } : Jvm.MethodName)) ∈ lw_gt := wd_of 516 (by decide +kernel) rfl
theorem wd_517 : (Jvm.Cond.code ({ cls := "ValueMethods$Charges", name := "tell", desc := "(IJZ)Z" } : Jvm.MethodName) prog_2_method_4_code (5 : Nat) (Option.some Jvm.ClassFile.FieldType.boolean)) ∈ lw_gt := wd_of 517 (by decide +kernel) rfl
theorem wd_518 : (Jvm.Cond.methodLink "ValueMethodsLaw" (70 : Nat) ({ cls := "ValueMethodsLaw", name := "less", desc := "(LValueMethods;IJZ[J)I" } : Jvm.MethodName)) ∈ lw_gt := wd_of 518 (by decide +kernel) rfl
theorem wd_519 : (Jvm.Cond.static ({ cls := "ValueMethodsLaw", name := "less", desc := "(LValueMethods;IJZ[J)I" } : Jvm.MethodName)) ∈ lw_gt := wd_of 519 (by decide +kernel) rfl
theorem wd_520 : (Jvm.Cond.codeWith ({ cls := "ValueMethodsLaw", name := "less", desc := "(LValueMethods;IJZ[J)I" } : Jvm.MethodName) method_5_code (7 : Nat) (Option.some Jvm.ClassFile.FieldType.int) [((0 : Nat), (20 : Nat), (23 : Nat), (13 : Nat))]) ∈ lw_gt := wd_of 520 (by decide +kernel) rfl
theorem wd_521 : (Jvm.Cond.methodLink "ValueMethodsLaw" (21 : Nat) ({ cls := "ValueMethods", name := "less", desc := "(IJZ)Z" } : Jvm.MethodName)) ∈ lw_gt := wd_of 521 (by decide +kernel) rfl
theorem wd_522 : (Jvm.Cond.instanceMethod ({ cls := "ValueMethods", name := "less", desc := "(IJZ)Z" } : Jvm.MethodName)) ∈ lw_gt := wd_of 522 (by decide +kernel) rfl
theorem wd_523 : (Jvm.Cond.selects "ValueMethods" ({ cls := "ValueMethods", name := "less", desc := "(IJZ)Z" } : Jvm.MethodName) ({ cls := "ValueMethods", name := "less", desc := "(IJZ)Z" } : Jvm.MethodName)) ∈ lw_gt := wd_of 523 (by decide +kernel) rfl
theorem wd_524 : (Jvm.Cond.code ({ cls := "ValueMethods", name := "less", desc := "(IJZ)Z" } : Jvm.MethodName) prog_1_method_4_code (5 : Nat) (Option.some Jvm.ClassFile.FieldType.boolean)) ∈ lw_gt := wd_of 524 (by decide +kernel) rfl
theorem wd_526 : (Jvm.Cond.methodLink "ValueMethodsLaw" (73 : Nat) ({ cls := "ValueMethodsLaw", name := "discount", desc := "(LValueMethods;II[J)I" } : Jvm.MethodName)) ∈ lw_gt := wd_of 526 (by decide +kernel) rfl
theorem wd_527 : (Jvm.Cond.static ({ cls := "ValueMethodsLaw", name := "discount", desc := "(LValueMethods;II[J)I" } : Jvm.MethodName)) ∈ lw_gt := wd_of 527 (by decide +kernel) rfl
theorem wd_528 : (Jvm.Cond.codeWith ({ cls := "ValueMethodsLaw", name := "discount", desc := "(LValueMethods;II[J)I" } : Jvm.MethodName) method_6_code (5 : Nat) (Option.some Jvm.ClassFile.FieldType.int) [((0 : Nat), (17 : Nat), (20 : Nat), (13 : Nat)), ((0 : Nat), (17 : Nat), (24 : Nat), (15 : Nat))]) ∈ lw_gt := wd_of 528 (by decide +kernel) rfl
theorem wd_529 : (Jvm.Cond.methodLink "ValueMethodsLaw" (24 : Nat) ({ cls := "ValueMethods", name := "discount", desc := "(II)Z" } : Jvm.MethodName)) ∈ lw_gt := wd_of 529 (by decide +kernel) rfl
theorem wd_530 : (Jvm.Cond.instanceMethod ({ cls := "ValueMethods", name := "discount", desc := "(II)Z" } : Jvm.MethodName)) ∈ lw_gt := wd_of 530 (by decide +kernel) rfl
theorem wd_531 : (Jvm.Cond.selects "ValueMethods" ({ cls := "ValueMethods", name := "discount", desc := "(II)Z" } : Jvm.MethodName) ({ cls := "ValueMethods", name := "discount", desc := "(II)Z" } : Jvm.MethodName)) ∈ lw_gt := wd_of 531 (by decide +kernel) rfl
theorem wd_532 : (Jvm.Cond.code ({ cls := "ValueMethods", name := "discount", desc := "(II)Z" } : Jvm.MethodName) prog_1_method_5_code (3 : Nat) (Option.some Jvm.ClassFile.FieldType.boolean)) ∈ lw_gt := wd_of 532 (by decide +kernel) rfl
theorem wd_534 : (Jvm.Cond.methodLink "ValueMethods" (118 : Nat) ({ cls := "ValueMethods$Discounts", name := "isFull", desc := "()Z" } : Jvm.MethodName)) ∈ lw_gt := wd_of 534 (by decide +kernel) rfl
theorem wd_535 : (Jvm.Cond.instanceMethod ({ cls := "ValueMethods$Discounts", name := "isFull", desc := "()Z" } : Jvm.MethodName)) ∈ lw_gt := wd_of 535 (by decide +kernel) rfl
theorem wd_536 : (Jvm.Cond.selects "ValueMethods$Discounts" ({ cls := "ValueMethods$Discounts", name := "isFull", desc := "()Z" } : Jvm.MethodName) ({ cls := "ValueMethods$Discounts", name := "isFull", desc := "()Z" } : Jvm.MethodName)) ∈ lw_gt := wd_of 536 (by decide +kernel) rfl
theorem wd_537 : (Jvm.Cond.code ({ cls := "ValueMethods$Discounts", name := "isFull", desc := "()Z" } : Jvm.MethodName) prog_3_method_2_code (1 : Nat) (Option.some Jvm.ClassFile.FieldType.boolean)) ∈ lw_gt := wd_of 537 (by decide +kernel) rfl
theorem wd_539 : (Jvm.Cond.methodLink "ValueMethods" (121 : Nat) ({ cls := "ValueMethods$Discounts", name := "tell", desc := "(II)Z" } : Jvm.MethodName)) ∈ lw_gt := wd_of 539 (by decide +kernel) rfl
theorem wd_540 : (Jvm.Cond.instanceMethod ({ cls := "ValueMethods$Discounts", name := "tell", desc := "(II)Z" } : Jvm.MethodName)) ∈ lw_gt := wd_of 540 (by decide +kernel) rfl
theorem wd_541 : (Jvm.Cond.selects "ValueMethods$Discounts" ({ cls := "ValueMethods$Discounts", name := "tell", desc := "(II)Z" } : Jvm.MethodName) ({ cls := "ValueMethods$Discounts", name := "tell", desc := "(II)Z" } : Jvm.MethodName)) ∈ lw_gt := wd_of 541 (by decide +kernel) rfl
theorem wd_542 : (Jvm.Cond.code ({ cls := "ValueMethods$Discounts", name := "tell", desc := "(II)Z" } : Jvm.MethodName) prog_3_method_4_code (3 : Nat) (Option.some Jvm.ClassFile.FieldType.boolean)) ∈ lw_gt := wd_of 542 (by decide +kernel) rfl
theorem wd_543 : (Jvm.Cond.methodLink "ValueMethodsLaw" (110 : Nat) ({ cls := "ValueMethodsLaw", name := "value", desc := "(LValueMethods;II[J)I" } : Jvm.MethodName)) ∈ lw_gt := wd_of 543 (by decide +kernel) rfl
theorem wd_544 : (Jvm.Cond.static ({ cls := "ValueMethodsLaw", name := "value", desc := "(LValueMethods;II[J)I" } : Jvm.MethodName)) ∈ lw_gt := wd_of 544 (by decide +kernel) rfl
theorem wd_545 : (Jvm.Cond.codeWith ({ cls := "ValueMethodsLaw", name := "value", desc := "(LValueMethods;II[J)I" } : Jvm.MethodName) method_7_code (5 : Nat) (Option.some Jvm.ClassFile.FieldType.int) [((0 : Nat), (9 : Nat), (12 : Nat), (32 : Nat)), ((0 : Nat), (9 : Nat), (16 : Nat), (34 : Nat))]) ∈ lw_gt := wd_of 545 (by decide +kernel) rfl
theorem wd_546 : (Jvm.Cond.classLink "ValueMethodsLaw" (32 : Nat) "java/lang/IndexOutOfBoundsException") ∈ lw_gt := wd_of 546 (by decide +kernel) rfl
theorem wd_547 : (Jvm.Cond.classLink "ValueMethodsLaw" (34 : Nat) "java/util/NoSuchElementException") ∈ lw_gt := wd_of 547 (by decide +kernel) rfl
theorem wd_548 : (Jvm.Cond.methodLink "ValueMethodsLaw" (28 : Nat) ({ cls := "ValueMethods", name := "value", desc := "(II)J" } : Jvm.MethodName)) ∈ lw_gt := wd_of 548 (by decide +kernel) rfl
theorem wd_549 : (Jvm.Cond.instanceMethod ({ cls := "ValueMethods", name := "value", desc := "(II)J" } : Jvm.MethodName)) ∈ lw_gt := wd_of 549 (by decide +kernel) rfl
theorem wd_550 : (Jvm.Cond.selects "ValueMethods" ({ cls := "ValueMethods", name := "value", desc := "(II)J" } : Jvm.MethodName) ({ cls := "ValueMethods", name := "value", desc := "(II)J" } : Jvm.MethodName)) ∈ lw_gt := wd_of 550 (by decide +kernel) rfl
theorem wd_551 : (Jvm.Cond.code ({ cls := "ValueMethods", name := "value", desc := "(II)J" } : Jvm.MethodName) prog_1_method_13_code (4 : Nat) (Option.some Jvm.ClassFile.FieldType.long)) ∈ lw_gt := wd_of 551 (by decide +kernel) rfl
theorem wd_552 : (Jvm.Cond.methodLink "ValueMethods" (149 : Nat) ({ cls := "ValueMethods$Lines", name := "has", desc := "(I)Z" } : Jvm.MethodName)) ∈ lw_gt := wd_of 552 (by decide +kernel) rfl
theorem wd_553 : (Jvm.Cond.instanceMethod ({ cls := "ValueMethods$Lines", name := "has", desc := "(I)Z" } : Jvm.MethodName)) ∈ lw_gt := wd_of 553 (by decide +kernel) rfl
theorem wd_554 : (Jvm.Cond.selects "ValueMethods$Lines" ({ cls := "ValueMethods$Lines", name := "has", desc := "(I)Z" } : Jvm.MethodName) ({ cls := "ValueMethods$Lines", name := "has", desc := "(I)Z" } : Jvm.MethodName)) ∈ lw_gt := wd_of 554 (by decide +kernel) rfl
theorem wd_555 : (Jvm.Cond.code ({ cls := "ValueMethods$Lines", name := "has", desc := "(I)Z" } : Jvm.MethodName) prog_4_method_4_code (2 : Nat) (Option.some Jvm.ClassFile.FieldType.boolean)) ∈ lw_gt := wd_of 555 (by decide +kernel) rfl
theorem wd_556 : (Jvm.Cond.classLink "ValueMethods" (152 : Nat) "java/lang/IndexOutOfBoundsException") ∈ lw_gt := wd_of 556 (by decide +kernel) rfl
theorem wd_557 : (Jvm.Cond.instantiable "java/lang/IndexOutOfBoundsException" (6 : Nat)) ∈ lw_gt := wd_of 557 (by decide +kernel) rfl
theorem wd_559 : (Jvm.Cond.selects "java/lang/IndexOutOfBoundsException" ({ cls := "java/lang/Throwable", name := "fillInStackTrace", desc := "(I)Ljava/lang/Throwable;" } : Jvm.MethodName) ({ cls := "java/lang/Throwable", name := "fillInStackTrace", desc := "(I)Ljava/lang/Throwable;" } : Jvm.MethodName)) ∈ lw_gt := wd_of 559 (by decide +kernel) rfl
theorem wd_560 : (Jvm.Cond.lays "java/lang/IndexOutOfBoundsException" "java/lang/Throwable" "cause" "Ljava/lang/Throwable;") ∈ lw_gt := wd_of 560 (by decide +kernel) rfl
theorem wd_561 : (Jvm.Cond.lays "java/lang/IndexOutOfBoundsException" "java/lang/Throwable" "stackTrace" "[Ljava/lang/StackTraceElement;") ∈ lw_gt := wd_of 561 (by decide +kernel) rfl
theorem wd_562 : (Jvm.Cond.lays "java/lang/IndexOutOfBoundsException" "java/lang/Throwable" "suppressedExceptions" "Ljava/util/List;") ∈ lw_gt := wd_of 562 (by decide +kernel) rfl
theorem wd_563 : (Jvm.Cond.lays "java/lang/IndexOutOfBoundsException" "java/lang/Throwable" "detailMessage" "Ljava/lang/String;") ∈ lw_gt := wd_of 563 (by decide +kernel) rfl
theorem wd_564 : (Jvm.Cond.lays "java/lang/IndexOutOfBoundsException" "java/lang/Throwable" "backtrace" "Ljava/lang/Object;") ∈ lw_gt := wd_of 564 (by decide +kernel) rfl
theorem wd_566 : (Jvm.Cond.methodLink "ValueMethods" (156 : Nat) ({ cls := "java/lang/IndexOutOfBoundsException", name := "<init>", desc := "(Ljava/lang/String;)V" } : Jvm.MethodName)) ∈ lw_gt := wd_of 566 (by decide +kernel) rfl
theorem wd_567 : (Jvm.Cond.instanceMethod ({ cls := "java/lang/IndexOutOfBoundsException", name := "<init>", desc := "(Ljava/lang/String;)V" } : Jvm.MethodName)) ∈ lw_gt := wd_of 567 (by decide +kernel) rfl
theorem wd_568 : (Jvm.Cond.code ({ cls := "java/lang/IndexOutOfBoundsException", name := "<init>", desc := "(Ljava/lang/String;)V" } : Jvm.MethodName) prog_12_method_2_code (2 : Nat) (Option.none : Option Jvm.ClassFile.FieldType)) ∈ lw_gt := wd_of 568 (by decide +kernel) rfl
theorem wd_569 : (Jvm.Cond.methodLink "java/lang/IndexOutOfBoundsException" (7 : Nat) ({ cls := "java/lang/RuntimeException", name := "<init>", desc := "(Ljava/lang/String;)V" } : Jvm.MethodName)) ∈ lw_gt := wd_of 569 (by decide +kernel) rfl
theorem wd_570 : (Jvm.Cond.lays "java/lang/IndexOutOfBoundsException" "java/lang/Throwable" "depth" "I") ∈ lw_gt := wd_of 570 (by decide +kernel) rfl
theorem wd_572 : (Jvm.Cond.classLink "ValueMethods" (157 : Nat) "java/util/NoSuchElementException") ∈ lw_gt := wd_of 572 (by decide +kernel) rfl
theorem wd_573 : (Jvm.Cond.instantiable "java/util/NoSuchElementException" (6 : Nat)) ∈ lw_gt := wd_of 573 (by decide +kernel) rfl
theorem wd_575 : (Jvm.Cond.selects "java/util/NoSuchElementException" ({ cls := "java/lang/Throwable", name := "fillInStackTrace", desc := "(I)Ljava/lang/Throwable;" } : Jvm.MethodName) ({ cls := "java/lang/Throwable", name := "fillInStackTrace", desc := "(I)Ljava/lang/Throwable;" } : Jvm.MethodName)) ∈ lw_gt := wd_of 575 (by decide +kernel) rfl
theorem wd_576 : (Jvm.Cond.lays "java/util/NoSuchElementException" "java/lang/Throwable" "cause" "Ljava/lang/Throwable;") ∈ lw_gt := wd_of 576 (by decide +kernel) rfl
theorem wd_577 : (Jvm.Cond.lays "java/util/NoSuchElementException" "java/lang/Throwable" "stackTrace" "[Ljava/lang/StackTraceElement;") ∈ lw_gt := wd_of 577 (by decide +kernel) rfl
theorem wd_578 : (Jvm.Cond.lays "java/util/NoSuchElementException" "java/lang/Throwable" "suppressedExceptions" "Ljava/util/List;") ∈ lw_gt := wd_of 578 (by decide +kernel) rfl
theorem wd_579 : (Jvm.Cond.lays "java/util/NoSuchElementException" "java/lang/Throwable" "detailMessage" "Ljava/lang/String;") ∈ lw_gt := wd_of 579 (by decide +kernel) rfl
theorem wd_580 : (Jvm.Cond.lays "java/util/NoSuchElementException" "java/lang/Throwable" "backtrace" "Ljava/lang/Object;") ∈ lw_gt := wd_of 580 (by decide +kernel) rfl
theorem wd_582 : (Jvm.Cond.methodLink "ValueMethods" (161 : Nat) ({ cls := "java/util/NoSuchElementException", name := "<init>", desc := "(Ljava/lang/String;)V" } : Jvm.MethodName)) ∈ lw_gt := wd_of 582 (by decide +kernel) rfl
theorem wd_583 : (Jvm.Cond.instanceMethod ({ cls := "java/util/NoSuchElementException", name := "<init>", desc := "(Ljava/lang/String;)V" } : Jvm.MethodName)) ∈ lw_gt := wd_of 583 (by decide +kernel) rfl
theorem wd_584 : (Jvm.Cond.code ({ cls := "java/util/NoSuchElementException", name := "<init>", desc := "(Ljava/lang/String;)V" } : Jvm.MethodName) prog_17_method_4_code (2 : Nat) (Option.none : Option Jvm.ClassFile.FieldType)) ∈ lw_gt := wd_of 584 (by decide +kernel) rfl
theorem wd_585 : (Jvm.Cond.methodLink "java/util/NoSuchElementException" (13 : Nat) ({ cls := "java/lang/RuntimeException", name := "<init>", desc := "(Ljava/lang/String;)V" } : Jvm.MethodName)) ∈ lw_gt := wd_of 585 (by decide +kernel) rfl
theorem wd_586 : (Jvm.Cond.lays "java/util/NoSuchElementException" "java/lang/Throwable" "depth" "I") ∈ lw_gt := wd_of 586 (by decide +kernel) rfl
theorem wd_588 : (Jvm.Cond.methodLink "ValueMethods" (162 : Nat) ({ cls := "ValueMethods", name := "ownValue", desc := "(II)J" } : Jvm.MethodName)) ∈ lw_gt := wd_of 588 (by decide +kernel) rfl
theorem wd_590 : (Jvm.Cond.instanceMethod ({ cls := "ValueMethods", name := "ownValue", desc := "(II)J" } : Jvm.MethodName)) ∈ lw_gt := wd_of 590 (by decide +kernel) rfl
theorem wd_591 : (Jvm.Cond.code ({ cls := "ValueMethods", name := "ownValue", desc := "(II)J" } : Jvm.MethodName) prog_1_method_33_code (3 : Nat) (Option.some Jvm.ClassFile.FieldType.long)) ∈ lw_gt := wd_of 591 (by decide +kernel) rfl
theorem wd_592 : (Jvm.Cond.methodLink "ValueMethods" (284 : Nat) ({ cls := "ValueMethods$Lines", name := "convert", desc := "([JJJJ)V" } : Jvm.MethodName)) ∈ lw_gt := wd_of 592 (by decide +kernel) rfl
theorem wd_593 : (Jvm.Cond.instanceMethod ({ cls := "ValueMethods$Lines", name := "convert", desc := "([JJJJ)V" } : Jvm.MethodName)) ∈ lw_gt := wd_of 593 (by decide +kernel) rfl
theorem wd_594 : (Jvm.Cond.selects "ValueMethods$Lines" ({ cls := "ValueMethods$Lines", name := "convert", desc := "([JJJJ)V" } : Jvm.MethodName) ({ cls := "ValueMethods$Lines", name := "convert", desc := "([JJJJ)V" } : Jvm.MethodName)) ∈ lw_gt := wd_of 594 (by decide +kernel) rfl
theorem wd_595 : (Jvm.Cond.code ({ cls := "ValueMethods$Lines", name := "convert", desc := "([JJJJ)V" } : Jvm.MethodName) prog_4_method_12_code (10 : Nat) (Option.none : Option Jvm.ClassFile.FieldType)) ∈ lw_gt := wd_of 595 (by decide +kernel) rfl
theorem wd_596 : (Jvm.Cond.methodLink "ValueMethodsLaw" (113 : Nat) ({ cls := "ValueMethodsLaw", name := "transaction", desc := "(LValueMethods;I[J)I" } : Jvm.MethodName)) ∈ lw_gt := wd_of 596 (by decide +kernel) rfl
theorem wd_597 : (Jvm.Cond.static ({ cls := "ValueMethodsLaw", name := "transaction", desc := "(LValueMethods;I[J)I" } : Jvm.MethodName)) ∈ lw_gt := wd_of 597 (by decide +kernel) rfl
theorem wd_598 : (Jvm.Cond.codeWith ({ cls := "ValueMethodsLaw", name := "transaction", desc := "(LValueMethods;I[J)I" } : Jvm.MethodName) method_8_code (4 : Nat) (Option.some Jvm.ClassFile.FieldType.int) [((0 : Nat), (8 : Nat), (11 : Nat), (32 : Nat))]) ∈ lw_gt := wd_of 598 (by decide +kernel) rfl
theorem wd_599 : (Jvm.Cond.methodLink "ValueMethodsLaw" (36 : Nat) ({ cls := "ValueMethods", name := "transaction", desc := "(I)J" } : Jvm.MethodName)) ∈ lw_gt := wd_of 599 (by decide +kernel) rfl
theorem wd_600 : (Jvm.Cond.instanceMethod ({ cls := "ValueMethods", name := "transaction", desc := "(I)J" } : Jvm.MethodName)) ∈ lw_gt := wd_of 600 (by decide +kernel) rfl
theorem wd_601 : (Jvm.Cond.selects "ValueMethods" ({ cls := "ValueMethods", name := "transaction", desc := "(I)J" } : Jvm.MethodName) ({ cls := "ValueMethods", name := "transaction", desc := "(I)J" } : Jvm.MethodName)) ∈ lw_gt := wd_of 601 (by decide +kernel) rfl
theorem wd_602 : (Jvm.Cond.code ({ cls := "ValueMethods", name := "transaction", desc := "(I)J" } : Jvm.MethodName) prog_1_method_14_code (2 : Nat) (Option.some Jvm.ClassFile.FieldType.long)) ∈ lw_gt := wd_of 602 (by decide +kernel) rfl
theorem wd_604 : (Jvm.Cond.methodLink "ValueMethodsLaw" (117 : Nat) ({ cls := "ValueMethodsLaw", name := "share", desc := "(LValueMethods;JIZ[J)I" } : Jvm.MethodName)) ∈ lw_gt := wd_of 604 (by decide +kernel) rfl
theorem wd_605 : (Jvm.Cond.static ({ cls := "ValueMethodsLaw", name := "share", desc := "(LValueMethods;JIZ[J)I" } : Jvm.MethodName)) ∈ lw_gt := wd_of 605 (by decide +kernel) rfl
theorem wd_606 : (Jvm.Cond.codeWith ({ cls := "ValueMethodsLaw", name := "share", desc := "(LValueMethods;JIZ[J)I" } : Jvm.MethodName) method_9_code (7 : Nat) (Option.some Jvm.ClassFile.FieldType.int) [((0 : Nat), (12 : Nat), (15 : Nat), (32 : Nat)), ((0 : Nat), (12 : Nat), (19 : Nat), (13 : Nat))]) ∈ lw_gt := wd_of 606 (by decide +kernel) rfl
theorem wd_607 : (Jvm.Cond.methodLink "ValueMethodsLaw" (40 : Nat) ({ cls := "ValueMethods", name := "share", desc := "(JIZ)J" } : Jvm.MethodName)) ∈ lw_gt := wd_of 607 (by decide +kernel) rfl
theorem wd_608 : (Jvm.Cond.instanceMethod ({ cls := "ValueMethods", name := "share", desc := "(JIZ)J" } : Jvm.MethodName)) ∈ lw_gt := wd_of 608 (by decide +kernel) rfl
theorem wd_609 : (Jvm.Cond.selects "ValueMethods" ({ cls := "ValueMethods", name := "share", desc := "(JIZ)J" } : Jvm.MethodName) ({ cls := "ValueMethods", name := "share", desc := "(JIZ)J" } : Jvm.MethodName)) ∈ lw_gt := wd_of 609 (by decide +kernel) rfl
theorem wd_610 : (Jvm.Cond.code ({ cls := "ValueMethods", name := "share", desc := "(JIZ)J" } : Jvm.MethodName) prog_1_method_15_code (5 : Nat) (Option.some Jvm.ClassFile.FieldType.long)) ∈ lw_gt := wd_of 610 (by decide +kernel) rfl
theorem wd_612 : (Jvm.Cond.methodLink "ValueMethodsLaw" (121 : Nat) ({ cls := "ValueMethodsLaw", name := "plain", desc := "(LValueMethods;JI[J)I" } : Jvm.MethodName)) ∈ lw_gt := wd_of 612 (by decide +kernel) rfl
theorem wd_613 : (Jvm.Cond.static ({ cls := "ValueMethodsLaw", name := "plain", desc := "(LValueMethods;JI[J)I" } : Jvm.MethodName)) ∈ lw_gt := wd_of 613 (by decide +kernel) rfl
theorem wd_614 : (Jvm.Cond.codeWith ({ cls := "ValueMethodsLaw", name := "plain", desc := "(LValueMethods;JI[J)I" } : Jvm.MethodName) method_10_code (6 : Nat) (Option.some Jvm.ClassFile.FieldType.int) [((0 : Nat), (10 : Nat), (13 : Nat), (32 : Nat)), ((0 : Nat), (10 : Nat), (17 : Nat), (13 : Nat)), ((0 : Nat), (10 : Nat), (21 : Nat), (48 : Nat))]) ∈ lw_gt := wd_of 614 (by decide +kernel) rfl
theorem wd_615 : (Jvm.Cond.classLink "ValueMethodsLaw" (48 : Nat) "java/lang/ArithmeticException") ∈ lw_gt := wd_of 615 (by decide +kernel) rfl
theorem wd_616 : (Jvm.Cond.methodLink "ValueMethodsLaw" (44 : Nat) ({ cls := "ValueMethods", name := "plain", desc := "(JI)J" } : Jvm.MethodName)) ∈ lw_gt := wd_of 616 (by decide +kernel) rfl
theorem wd_617 : (Jvm.Cond.instanceMethod ({ cls := "ValueMethods", name := "plain", desc := "(JI)J" } : Jvm.MethodName)) ∈ lw_gt := wd_of 617 (by decide +kernel) rfl
theorem wd_618 : (Jvm.Cond.selects "ValueMethods" ({ cls := "ValueMethods", name := "plain", desc := "(JI)J" } : Jvm.MethodName) ({ cls := "ValueMethods", name := "plain", desc := "(JI)J" } : Jvm.MethodName)) ∈ lw_gt := wd_of 618 (by decide +kernel) rfl
theorem wd_619 : (Jvm.Cond.code ({ cls := "ValueMethods", name := "plain", desc := "(JI)J" } : Jvm.MethodName) prog_1_method_16_code (6 : Nat) (Option.some Jvm.ClassFile.FieldType.long)) ∈ lw_gt := wd_of 619 (by decide +kernel) rfl
theorem wd_620 : (Jvm.Cond.classLink "ValueMethods" (185 : Nat) "java/lang/ArithmeticException") ∈ lw_gt := wd_of 620 (by decide +kernel) rfl
theorem wd_621 : (Jvm.Cond.instantiable "java/lang/ArithmeticException" (6 : Nat)) ∈ lw_gt := wd_of 621 (by decide +kernel) rfl
theorem wd_623 : (Jvm.Cond.selects "java/lang/ArithmeticException" ({ cls := "java/lang/Throwable", name := "fillInStackTrace", desc := "(I)Ljava/lang/Throwable;" } : Jvm.MethodName) ({ cls := "java/lang/Throwable", name := "fillInStackTrace", desc := "(I)Ljava/lang/Throwable;" } : Jvm.MethodName)) ∈ lw_gt := wd_of 623 (by decide +kernel) rfl
theorem wd_624 : (Jvm.Cond.lays "java/lang/ArithmeticException" "java/lang/Throwable" "cause" "Ljava/lang/Throwable;") ∈ lw_gt := wd_of 624 (by decide +kernel) rfl
theorem wd_625 : (Jvm.Cond.lays "java/lang/ArithmeticException" "java/lang/Throwable" "stackTrace" "[Ljava/lang/StackTraceElement;") ∈ lw_gt := wd_of 625 (by decide +kernel) rfl
theorem wd_626 : (Jvm.Cond.lays "java/lang/ArithmeticException" "java/lang/Throwable" "suppressedExceptions" "Ljava/util/List;") ∈ lw_gt := wd_of 626 (by decide +kernel) rfl
theorem wd_627 : (Jvm.Cond.lays "java/lang/ArithmeticException" "java/lang/Throwable" "detailMessage" "Ljava/lang/String;") ∈ lw_gt := wd_of 627 (by decide +kernel) rfl
theorem wd_628 : (Jvm.Cond.lays "java/lang/ArithmeticException" "java/lang/Throwable" "backtrace" "Ljava/lang/Object;") ∈ lw_gt := wd_of 628 (by decide +kernel) rfl
theorem wd_630 : (Jvm.Cond.methodLink "ValueMethods" (189 : Nat) ({ cls := "java/lang/ArithmeticException", name := "<init>", desc := "(Ljava/lang/String;)V" } : Jvm.MethodName)) ∈ lw_gt := wd_of 630 (by decide +kernel) rfl
theorem wd_631 : (Jvm.Cond.instanceMethod ({ cls := "java/lang/ArithmeticException", name := "<init>", desc := "(Ljava/lang/String;)V" } : Jvm.MethodName)) ∈ lw_gt := wd_of 631 (by decide +kernel) rfl
theorem wd_632 : (Jvm.Cond.code ({ cls := "java/lang/ArithmeticException", name := "<init>", desc := "(Ljava/lang/String;)V" } : Jvm.MethodName) prog_8_method_2_code (2 : Nat) (Option.none : Option Jvm.ClassFile.FieldType)) ∈ lw_gt := wd_of 632 (by decide +kernel) rfl
theorem wd_633 : (Jvm.Cond.methodLink "java/lang/ArithmeticException" (7 : Nat) ({ cls := "java/lang/RuntimeException", name := "<init>", desc := "(Ljava/lang/String;)V" } : Jvm.MethodName)) ∈ lw_gt := wd_of 633 (by decide +kernel) rfl
theorem wd_634 : (Jvm.Cond.lays "java/lang/ArithmeticException" "java/lang/Throwable" "depth" "I") ∈ lw_gt := wd_of 634 (by decide +kernel) rfl
theorem wd_636 : (Jvm.Cond.classLink "ValueMethodsLaw" (51 : Nat) "ValueMethodsModel") ∈ lw_gt := wd_of 636 (by decide +kernel) rfl
theorem wd_637 : (Jvm.Cond.instantiable "ValueMethodsModel" (24 : Nat)) ∈ lw_gt := wd_of 637 (by decide +kernel) rfl
theorem wd_638 : (Jvm.Cond.methodLink "ValueMethodsLaw" (53 : Nat) ({ cls := "ValueMethodsModel", name := "<init>", desc := "()V" } : Jvm.MethodName)) ∈ lw_gt := wd_of 638 (by decide +kernel) rfl
theorem wd_639 : (Jvm.Cond.instanceMethod ({ cls := "ValueMethodsModel", name := "<init>", desc := "()V" } : Jvm.MethodName)) ∈ lw_gt := wd_of 639 (by decide +kernel) rfl
theorem wd_640 : (Jvm.Cond.code ({ cls := "ValueMethodsModel", name := "<init>", desc := "()V" } : Jvm.MethodName) prog_7_method_1_code (1 : Nat) (Option.none : Option Jvm.ClassFile.FieldType)) ∈ lw_gt := wd_of 640 (by decide +kernel) rfl
theorem wd_641 : (Jvm.Cond.methodLink "ValueMethodsModel" (1 : Nat) ({ cls := "java/lang/Object", name := "<init>", desc := "()V" } : Jvm.MethodName)) ∈ lw_gt := wd_of 641 (by decide +kernel) rfl
theorem wd_642 : (Jvm.Cond.constantLong "ValueMethodsModel" (55 : Nat) (-1 : Int64)) ∈ lw_gt := wd_of 642 (by decide +kernel) rfl
theorem wd_643 : (Jvm.Cond.fieldLink "ValueMethodsModel" (61 : Nat) "ValueMethodsModel" "thrown" "I") ∈ lw_gt := wd_of 643 (by decide +kernel) rfl
theorem wd_644 : (Jvm.Cond.fieldLink "ValueMethodsModel" (79 : Nat) "ValueMethodsModel" "lines" "I") ∈ lw_gt := wd_of 644 (by decide +kernel) rfl
theorem wd_645 : (Jvm.Cond.fieldLink "ValueMethodsModel" (90 : Nat) "ValueMethodsModel" "rows" "I") ∈ lw_gt := wd_of 645 (by decide +kernel) rfl
theorem wd_646 : (Jvm.Cond.fieldLink "ValueMethodsModel" (66 : Nat) "ValueMethodsModel" "weightSum" "J") ∈ lw_gt := wd_of 646 (by decide +kernel) rfl
theorem wd_647 : (Jvm.Cond.fieldLink "ValueMethodsModel" (69 : Nat) "ValueMethodsModel" "priceSum" "J") ∈ lw_gt := wd_of 647 (by decide +kernel) rfl
theorem wd_648 : (Jvm.Cond.fieldLink "ValueMethodsModel" (7 : Nat) "ValueMethodsModel" "weight" "[J") ∈ lw_gt := wd_of 648 (by decide +kernel) rfl
theorem wd_649 : (Jvm.Cond.fieldLink "ValueMethodsModel" (13 : Nat) "ValueMethodsModel" "price" "[J") ∈ lw_gt := wd_of 649 (by decide +kernel) rfl
theorem wd_650 : (Jvm.Cond.fieldLink "ValueMethodsModel" (16 : Nat) "ValueMethodsModel" "isTold" "[Z") ∈ lw_gt := wd_of 650 (by decide +kernel) rfl
theorem wd_651 : (Jvm.Cond.fieldLink "ValueMethodsModel" (20 : Nat) "ValueMethodsModel" "cents" "[J") ∈ lw_gt := wd_of 651 (by decide +kernel) rfl
theorem wd_652 : (Jvm.Cond.fieldLink "ValueMethodsModel" (23 : Nat) "ValueMethodsModel" "byWeights" "[Z") ∈ lw_gt := wd_of 652 (by decide +kernel) rfl
theorem wd_653 : (Jvm.Cond.fieldLink "ValueMethodsModel" (26 : Nat) "ValueMethodsModel" "rowDays" "[I") ∈ lw_gt := wd_of 653 (by decide +kernel) rfl
theorem wd_654 : (Jvm.Cond.fieldLink "ValueMethodsModel" (30 : Nat) "ValueMethodsModel" "rowThousandths" "[I") ∈ lw_gt := wd_of 654 (by decide +kernel) rfl
theorem wd_655 : (Jvm.Cond.fieldLink "ValueMethodsModel" (93 : Nat) "ValueMethodsModel" "day" "I") ∈ lw_gt := wd_of 655 (by decide +kernel) rfl
theorem wd_656 : (Jvm.Cond.fieldLink "ValueMethodsModel" (33 : Nat) "ValueMethodsModel" "paid" "I") ∈ lw_gt := wd_of 656 (by decide +kernel) rfl
theorem wd_657 : (Jvm.Cond.fieldLink "ValueMethodsModel" (37 : Nat) "ValueMethodsModel" "up" "[I") ∈ lw_gt := wd_of 657 (by decide +kernel) rfl
theorem wd_658 : (Jvm.Cond.fieldLink "ValueMethodsModel" (40 : Nat) "ValueMethodsModel" "down" "[I") ∈ lw_gt := wd_of 658 (by decide +kernel) rfl
theorem wd_659 : (Jvm.Cond.fieldLink "ValueMethodsModel" (43 : Nat) "ValueMethodsModel" "condition" "[Z") ∈ lw_gt := wd_of 659 (by decide +kernel) rfl
theorem wd_660 : (Jvm.Cond.fieldLink "ValueMethodsModel" (46 : Nat) "ValueMethodsModel" "hasFigures" "[Z") ∈ lw_gt := wd_of 660 (by decide +kernel) rfl
theorem wd_661 : (Jvm.Cond.fieldLink "ValueMethodsModel" (49 : Nat) "ValueMethodsModel" "figureA" "[J") ∈ lw_gt := wd_of 661 (by decide +kernel) rfl
theorem wd_662 : (Jvm.Cond.fieldLink "ValueMethodsModel" (52 : Nat) "ValueMethodsModel" "figureB" "[J") ∈ lw_gt := wd_of 662 (by decide +kernel) rfl
theorem wd_663 : (Jvm.Cond.fieldLink "ValueMethodsModel" (113 : Nat) "ValueMethodsModel" "isRelated" "Z") ∈ lw_gt := wd_of 663 (by decide +kernel) rfl
theorem wd_664 : (Jvm.Cond.fieldLink "ValueMethodsModel" (135 : Nat) "ValueMethodsModel" "isTurned" "Z") ∈ lw_gt := wd_of 664 (by decide +kernel) rfl
theorem wd_665 : (Jvm.Cond.fieldLink "ValueMethodsModel" (57 : Nat) "ValueMethodsModel" "test" "J") ∈ lw_gt := wd_of 665 (by decide +kernel) rfl
theorem wd_666 : (Jvm.Cond.fieldLink "ValueMethodsModel" (121 : Nat) "ValueMethodsModel" "band" "I") ∈ lw_gt := wd_of 666 (by decide +kernel) rfl
theorem wd_667 : (Jvm.Cond.lays "ValueMethodsModel" "ValueMethodsModel" "thrown" "I") ∈ lw_gt := wd_of 667 (by decide +kernel) rfl
theorem wd_669 : (Jvm.Cond.lays "ValueMethodsModel" "ValueMethodsModel" "lines" "I") ∈ lw_gt := wd_of 669 (by decide +kernel) rfl
theorem wd_671 : (Jvm.Cond.lays "ValueMethodsModel" "ValueMethodsModel" "rows" "I") ∈ lw_gt := wd_of 671 (by decide +kernel) rfl
theorem wd_673 : (Jvm.Cond.lays "ValueMethodsModel" "ValueMethodsModel" "weightSum" "J") ∈ lw_gt := wd_of 673 (by decide +kernel) rfl
theorem wd_675 : (Jvm.Cond.lays "ValueMethodsModel" "ValueMethodsModel" "priceSum" "J") ∈ lw_gt := wd_of 675 (by decide +kernel) rfl
theorem wd_677 : (Jvm.Cond.laysFinal "ValueMethodsModel" "ValueMethodsModel" "weight" "[J") ∈ lw_gt := wd_of 677 (by decide +kernel) rfl
theorem wd_679 : (Jvm.Cond.laysFinal "ValueMethodsModel" "ValueMethodsModel" "price" "[J") ∈ lw_gt := wd_of 679 (by decide +kernel) rfl
theorem wd_681 : (Jvm.Cond.laysFinal "ValueMethodsModel" "ValueMethodsModel" "isTold" "[Z") ∈ lw_gt := wd_of 681 (by decide +kernel) rfl
theorem wd_683 : (Jvm.Cond.laysFinal "ValueMethodsModel" "ValueMethodsModel" "cents" "[J") ∈ lw_gt := wd_of 683 (by decide +kernel) rfl
theorem wd_685 : (Jvm.Cond.laysFinal "ValueMethodsModel" "ValueMethodsModel" "byWeights" "[Z") ∈ lw_gt := wd_of 685 (by decide +kernel) rfl
theorem wd_687 : (Jvm.Cond.laysFinal "ValueMethodsModel" "ValueMethodsModel" "rowDays" "[I") ∈ lw_gt := wd_of 687 (by decide +kernel) rfl
theorem wd_689 : (Jvm.Cond.laysFinal "ValueMethodsModel" "ValueMethodsModel" "rowThousandths" "[I") ∈ lw_gt := wd_of 689 (by decide +kernel) rfl
theorem wd_691 : (Jvm.Cond.lays "ValueMethodsModel" "ValueMethodsModel" "day" "I") ∈ lw_gt := wd_of 691 (by decide +kernel) rfl
theorem wd_693 : (Jvm.Cond.lays "ValueMethodsModel" "ValueMethodsModel" "paid" "I") ∈ lw_gt := wd_of 693 (by decide +kernel) rfl
theorem wd_695 : (Jvm.Cond.laysFinal "ValueMethodsModel" "ValueMethodsModel" "up" "[I") ∈ lw_gt := wd_of 695 (by decide +kernel) rfl
theorem wd_697 : (Jvm.Cond.laysFinal "ValueMethodsModel" "ValueMethodsModel" "down" "[I") ∈ lw_gt := wd_of 697 (by decide +kernel) rfl
theorem wd_699 : (Jvm.Cond.laysFinal "ValueMethodsModel" "ValueMethodsModel" "condition" "[Z") ∈ lw_gt := wd_of 699 (by decide +kernel) rfl
theorem wd_701 : (Jvm.Cond.laysFinal "ValueMethodsModel" "ValueMethodsModel" "hasFigures" "[Z") ∈ lw_gt := wd_of 701 (by decide +kernel) rfl
theorem wd_703 : (Jvm.Cond.laysFinal "ValueMethodsModel" "ValueMethodsModel" "figureA" "[J") ∈ lw_gt := wd_of 703 (by decide +kernel) rfl
theorem wd_705 : (Jvm.Cond.laysFinal "ValueMethodsModel" "ValueMethodsModel" "figureB" "[J") ∈ lw_gt := wd_of 705 (by decide +kernel) rfl
theorem wd_707 : (Jvm.Cond.lays "ValueMethodsModel" "ValueMethodsModel" "isRelated" "Z") ∈ lw_gt := wd_of 707 (by decide +kernel) rfl
theorem wd_709 : (Jvm.Cond.lays "ValueMethodsModel" "ValueMethodsModel" "isTurned" "Z") ∈ lw_gt := wd_of 709 (by decide +kernel) rfl
theorem wd_711 : (Jvm.Cond.lays "ValueMethodsModel" "ValueMethodsModel" "test" "J") ∈ lw_gt := wd_of 711 (by decide +kernel) rfl
theorem wd_713 : (Jvm.Cond.lays "ValueMethodsModel" "ValueMethodsModel" "band" "I") ∈ lw_gt := wd_of 713 (by decide +kernel) rfl
theorem wd_716 : (Jvm.Cond.methodLink "ValueMethodsLaw" (62 : Nat) ({ cls := "ValueMethodsModel", name := "thrown", desc := "()I" } : Jvm.MethodName)) ∈ lw_gt := wd_of 716 (by decide +kernel) rfl
theorem wd_717 : (Jvm.Cond.instanceMethod ({ cls := "ValueMethodsModel", name := "thrown", desc := "()I" } : Jvm.MethodName)) ∈ lw_gt := wd_of 717 (by decide +kernel) rfl
theorem wd_718 : (Jvm.Cond.selects "ValueMethodsModel" ({ cls := "ValueMethodsModel", name := "thrown", desc := "()I" } : Jvm.MethodName) ({ cls := "ValueMethodsModel", name := "thrown", desc := "()I" } : Jvm.MethodName)) ∈ lw_gt := wd_of 718 (by decide +kernel) rfl
theorem wd_719 : (Jvm.Cond.code ({ cls := "ValueMethodsModel", name := "thrown", desc := "()I" } : Jvm.MethodName) prog_7_method_2_code (1 : Nat) (Option.some Jvm.ClassFile.FieldType.int)) ∈ lw_gt := wd_of 719 (by decide +kernel) rfl
theorem wd_720 : (Jvm.Cond.methodLink "ValueMethodsLaw" (61 : Nat) ({ cls := "ValueMethodsModel", name := "line", desc := "(JJ)I" } : Jvm.MethodName)) ∈ lw_gt := wd_of 720 (by decide +kernel) rfl
theorem wd_721 : (Jvm.Cond.instanceMethod ({ cls := "ValueMethodsModel", name := "line", desc := "(JJ)I" } : Jvm.MethodName)) ∈ lw_gt := wd_of 721 (by decide +kernel) rfl
theorem wd_722 : (Jvm.Cond.selects "ValueMethodsModel" ({ cls := "ValueMethodsModel", name := "line", desc := "(JJ)I" } : Jvm.MethodName) ({ cls := "ValueMethodsModel", name := "line", desc := "(JJ)I" } : Jvm.MethodName)) ∈ lw_gt := wd_of 722 (by decide +kernel) rfl
theorem wd_723 : (Jvm.Cond.code ({ cls := "ValueMethodsModel", name := "line", desc := "(JJ)I" } : Jvm.MethodName) prog_7_method_25_code (5 : Nat) (Option.some Jvm.ClassFile.FieldType.int)) ∈ lw_gt := wd_of 723 (by decide +kernel) rfl
theorem wd_724 : (Jvm.Cond.constantLong "ValueMethodsModel" (160 : Nat) (100000000 : Int64)) ∈ lw_gt := wd_of 724 (by decide +kernel) rfl
theorem wd_725 : (Jvm.Cond.methodLink "ValueMethodsModel" (162 : Nat) ({ cls := "ValueMethodsModel", name := "in", desc := "(JJJ)Z" } : Jvm.MethodName)) ∈ lw_gt := wd_of 725 (by decide +kernel) rfl
theorem wd_726 : (Jvm.Cond.static ({ cls := "ValueMethodsModel", name := "in", desc := "(JJJ)Z" } : Jvm.MethodName)) ∈ lw_gt := wd_of 726 (by decide +kernel) rfl
theorem wd_727 : (Jvm.Cond.code ({ cls := "ValueMethodsModel", name := "in", desc := "(JJJ)Z" } : Jvm.MethodName) prog_7_method_3_code (6 : Nat) (Option.some Jvm.ClassFile.FieldType.boolean)) ∈ lw_gt := wd_of 727 (by decide +kernel) rfl
theorem wd_728 : (Jvm.Cond.methodLink "ValueMethodsLaw" (69 : Nat) ({ cls := "ValueMethodsModel", name := "add", desc := "(IJZ)Z" } : Jvm.MethodName)) ∈ lw_gt := wd_of 728 (by decide +kernel) rfl
theorem wd_729 : (Jvm.Cond.instanceMethod ({ cls := "ValueMethodsModel", name := "add", desc := "(IJZ)Z" } : Jvm.MethodName)) ∈ lw_gt := wd_of 729 (by decide +kernel) rfl
theorem wd_730 : (Jvm.Cond.selects "ValueMethodsModel" ({ cls := "ValueMethodsModel", name := "add", desc := "(IJZ)Z" } : Jvm.MethodName) ({ cls := "ValueMethodsModel", name := "add", desc := "(IJZ)Z" } : Jvm.MethodName)) ∈ lw_gt := wd_of 730 (by decide +kernel) rfl
theorem wd_731 : (Jvm.Cond.code ({ cls := "ValueMethodsModel", name := "add", desc := "(IJZ)Z" } : Jvm.MethodName) prog_7_method_27_code (5 : Nat) (Option.some Jvm.ClassFile.FieldType.boolean)) ∈ lw_gt := wd_of 731 (by decide +kernel) rfl
theorem wd_732 : (Jvm.Cond.constantLong "ValueMethodsModel" (168 : Nat) (4 : Int64)) ∈ lw_gt := wd_of 732 (by decide +kernel) rfl
theorem wd_733 : (Jvm.Cond.methodLink "ValueMethodsModel" (170 : Nat) ({ cls := "ValueMethodsModel", name := "tell", desc := "(IZJZ)Z" } : Jvm.MethodName)) ∈ lw_gt := wd_of 733 (by decide +kernel) rfl
theorem wd_735 : (Jvm.Cond.instanceMethod ({ cls := "ValueMethodsModel", name := "tell", desc := "(IZJZ)Z" } : Jvm.MethodName)) ∈ lw_gt := wd_of 735 (by decide +kernel) rfl
theorem wd_736 : (Jvm.Cond.code ({ cls := "ValueMethodsModel", name := "tell", desc := "(IZJZ)Z" } : Jvm.MethodName) prog_7_method_26_code (6 : Nat) (Option.some Jvm.ClassFile.FieldType.boolean)) ∈ lw_gt := wd_of 736 (by decide +kernel) rfl
theorem wd_737 : (Jvm.Cond.constantLong "ValueMethodsModel" (166 : Nat) (1000000000 : Int64)) ∈ lw_gt := wd_of 737 (by decide +kernel) rfl
theorem wd_738 : (Jvm.Cond.methodLink "ValueMethodsLaw" (72 : Nat) ({ cls := "ValueMethodsModel", name := "less", desc := "(IJZ)Z" } : Jvm.MethodName)) ∈ lw_gt := wd_of 738 (by decide +kernel) rfl
theorem wd_739 : (Jvm.Cond.instanceMethod ({ cls := "ValueMethodsModel", name := "less", desc := "(IJZ)Z" } : Jvm.MethodName)) ∈ lw_gt := wd_of 739 (by decide +kernel) rfl
theorem wd_740 : (Jvm.Cond.selects "ValueMethodsModel" ({ cls := "ValueMethodsModel", name := "less", desc := "(IJZ)Z" } : Jvm.MethodName) ({ cls := "ValueMethodsModel", name := "less", desc := "(IJZ)Z" } : Jvm.MethodName)) ∈ lw_gt := wd_of 740 (by decide +kernel) rfl
theorem wd_741 : (Jvm.Cond.code ({ cls := "ValueMethodsModel", name := "less", desc := "(IJZ)Z" } : Jvm.MethodName) prog_7_method_28_code (5 : Nat) (Option.some Jvm.ClassFile.FieldType.boolean)) ∈ lw_gt := wd_of 741 (by decide +kernel) rfl
theorem wd_742 : (Jvm.Cond.constantLong "ValueMethodsModel" (174 : Nat) (3 : Int64)) ∈ lw_gt := wd_of 742 (by decide +kernel) rfl
theorem wd_743 : (Jvm.Cond.methodLink "ValueMethodsLaw" (76 : Nat) ({ cls := "ValueMethodsModel", name := "discount", desc := "(II)Z" } : Jvm.MethodName)) ∈ lw_gt := wd_of 743 (by decide +kernel) rfl
theorem wd_744 : (Jvm.Cond.instanceMethod ({ cls := "ValueMethodsModel", name := "discount", desc := "(II)Z" } : Jvm.MethodName)) ∈ lw_gt := wd_of 744 (by decide +kernel) rfl
theorem wd_745 : (Jvm.Cond.selects "ValueMethodsModel" ({ cls := "ValueMethodsModel", name := "discount", desc := "(II)Z" } : Jvm.MethodName) ({ cls := "ValueMethodsModel", name := "discount", desc := "(II)Z" } : Jvm.MethodName)) ∈ lw_gt := wd_of 745 (by decide +kernel) rfl
theorem wd_746 : (Jvm.Cond.code ({ cls := "ValueMethodsModel", name := "discount", desc := "(II)Z" } : Jvm.MethodName) prog_7_method_29_code (3 : Nat) (Option.some Jvm.ClassFile.FieldType.boolean)) ∈ lw_gt := wd_of 746 (by decide +kernel) rfl
theorem wd_747 : (Jvm.Cond.constantLong "ValueMethodsModel" (176 : Nat) (359 : Int64)) ∈ lw_gt := wd_of 747 (by decide +kernel) rfl
theorem wd_748 : (Jvm.Cond.constantLong "ValueMethodsModel" (100 : Nat) (1000 : Int64)) ∈ lw_gt := wd_of 748 (by decide +kernel) rfl
theorem wd_749 : (Jvm.Cond.methodLink "ValueMethodsLaw" (80 : Nat) ({ cls := "ValueMethodsModel", name := "days", desc := "(II)Z" } : Jvm.MethodName)) ∈ lw_gt := wd_of 749 (by decide +kernel) rfl
theorem wd_750 : (Jvm.Cond.instanceMethod ({ cls := "ValueMethodsModel", name := "days", desc := "(II)Z" } : Jvm.MethodName)) ∈ lw_gt := wd_of 750 (by decide +kernel) rfl
theorem wd_751 : (Jvm.Cond.selects "ValueMethodsModel" ({ cls := "ValueMethodsModel", name := "days", desc := "(II)Z" } : Jvm.MethodName) ({ cls := "ValueMethodsModel", name := "days", desc := "(II)Z" } : Jvm.MethodName)) ∈ lw_gt := wd_of 751 (by decide +kernel) rfl
theorem wd_752 : (Jvm.Cond.code ({ cls := "ValueMethodsModel", name := "days", desc := "(II)Z" } : Jvm.MethodName) prog_7_method_30_code (3 : Nat) (Option.some Jvm.ClassFile.FieldType.boolean)) ∈ lw_gt := wd_of 752 (by decide +kernel) rfl
theorem wd_753 : (Jvm.Cond.methodLink "ValueMethodsLaw" (85 : Nat) ({ cls := "ValueMethodsModel", name := "rate", desc := "(III)Z" } : Jvm.MethodName)) ∈ lw_gt := wd_of 753 (by decide +kernel) rfl
theorem wd_754 : (Jvm.Cond.instanceMethod ({ cls := "ValueMethodsModel", name := "rate", desc := "(III)Z" } : Jvm.MethodName)) ∈ lw_gt := wd_of 754 (by decide +kernel) rfl
theorem wd_755 : (Jvm.Cond.selects "ValueMethodsModel" ({ cls := "ValueMethodsModel", name := "rate", desc := "(III)Z" } : Jvm.MethodName) ({ cls := "ValueMethodsModel", name := "rate", desc := "(III)Z" } : Jvm.MethodName)) ∈ lw_gt := wd_of 755 (by decide +kernel) rfl
theorem wd_756 : (Jvm.Cond.code ({ cls := "ValueMethodsModel", name := "rate", desc := "(III)Z" } : Jvm.MethodName) prog_7_method_31_code (4 : Nat) (Option.some Jvm.ClassFile.FieldType.boolean)) ∈ lw_gt := wd_of 756 (by decide +kernel) rfl
theorem wd_757 : (Jvm.Cond.constantLong "ValueMethodsModel" (178 : Nat) (11 : Int64)) ∈ lw_gt := wd_of 757 (by decide +kernel) rfl
theorem wd_758 : (Jvm.Cond.constantLong "ValueMethodsModel" (180 : Nat) (10000 : Int64)) ∈ lw_gt := wd_of 758 (by decide +kernel) rfl
theorem wd_759 : (Jvm.Cond.methodLink "ValueMethodsLaw" (90 : Nat) ({ cls := "ValueMethodsModel", name := "condition", desc := "(IZ)Z" } : Jvm.MethodName)) ∈ lw_gt := wd_of 759 (by decide +kernel) rfl
theorem wd_760 : (Jvm.Cond.instanceMethod ({ cls := "ValueMethodsModel", name := "condition", desc := "(IZ)Z" } : Jvm.MethodName)) ∈ lw_gt := wd_of 760 (by decide +kernel) rfl
theorem wd_761 : (Jvm.Cond.selects "ValueMethodsModel" ({ cls := "ValueMethodsModel", name := "condition", desc := "(IZ)Z" } : Jvm.MethodName) ({ cls := "ValueMethodsModel", name := "condition", desc := "(IZ)Z" } : Jvm.MethodName)) ∈ lw_gt := wd_of 761 (by decide +kernel) rfl
theorem wd_762 : (Jvm.Cond.code ({ cls := "ValueMethodsModel", name := "condition", desc := "(IZ)Z" } : Jvm.MethodName) prog_7_method_32_code (3 : Nat) (Option.some Jvm.ClassFile.FieldType.boolean)) ∈ lw_gt := wd_of 762 (by decide +kernel) rfl
theorem wd_763 : (Jvm.Cond.constantLong "ValueMethodsModel" (182 : Nat) (6 : Int64)) ∈ lw_gt := wd_of 763 (by decide +kernel) rfl
theorem wd_764 : (Jvm.Cond.methodLink "ValueMethodsLaw" (95 : Nat) ({ cls := "ValueMethodsModel", name := "figures", desc := "(IJJ)Z" } : Jvm.MethodName)) ∈ lw_gt := wd_of 764 (by decide +kernel) rfl
theorem wd_765 : (Jvm.Cond.instanceMethod ({ cls := "ValueMethodsModel", name := "figures", desc := "(IJJ)Z" } : Jvm.MethodName)) ∈ lw_gt := wd_of 765 (by decide +kernel) rfl
theorem wd_766 : (Jvm.Cond.selects "ValueMethodsModel" ({ cls := "ValueMethodsModel", name := "figures", desc := "(IJJ)Z" } : Jvm.MethodName) ({ cls := "ValueMethodsModel", name := "figures", desc := "(IJJ)Z" } : Jvm.MethodName)) ∈ lw_gt := wd_of 766 (by decide +kernel) rfl
theorem wd_767 : (Jvm.Cond.code ({ cls := "ValueMethodsModel", name := "figures", desc := "(IJJ)Z" } : Jvm.MethodName) prog_7_method_33_code (7 : Nat) (Option.some Jvm.ClassFile.FieldType.boolean)) ∈ lw_gt := wd_of 767 (by decide +kernel) rfl
theorem wd_768 : (Jvm.Cond.constantLong "ValueMethodsModel" (64 : Nat) (2 : Int64)) ∈ lw_gt := wd_of 768 (by decide +kernel) rfl
theorem wd_769 : (Jvm.Cond.constantLong "ValueMethodsModel" (184 : Nat) (100000 : Int64)) ∈ lw_gt := wd_of 769 (by decide +kernel) rfl
theorem wd_770 : (Jvm.Cond.methodLink "ValueMethodsLaw" (100 : Nat) ({ cls := "ValueMethodsModel", name := "related", desc := "(ZJI)Z" } : Jvm.MethodName)) ∈ lw_gt := wd_of 770 (by decide +kernel) rfl
theorem wd_771 : (Jvm.Cond.instanceMethod ({ cls := "ValueMethodsModel", name := "related", desc := "(ZJI)Z" } : Jvm.MethodName)) ∈ lw_gt := wd_of 771 (by decide +kernel) rfl
theorem wd_772 : (Jvm.Cond.selects "ValueMethodsModel" ({ cls := "ValueMethodsModel", name := "related", desc := "(ZJI)Z" } : Jvm.MethodName) ({ cls := "ValueMethodsModel", name := "related", desc := "(ZJI)Z" } : Jvm.MethodName)) ∈ lw_gt := wd_of 772 (by decide +kernel) rfl
theorem wd_773 : (Jvm.Cond.code ({ cls := "ValueMethodsModel", name := "related", desc := "(ZJI)Z" } : Jvm.MethodName) prog_7_method_34_code (5 : Nat) (Option.some Jvm.ClassFile.FieldType.boolean)) ∈ lw_gt := wd_of 773 (by decide +kernel) rfl
theorem wd_774 : (Jvm.Cond.methodLink "ValueMethodsLaw" (105 : Nat) ({ cls := "ValueMethodsModel", name := "turned", desc := "(Z)V" } : Jvm.MethodName)) ∈ lw_gt := wd_of 774 (by decide +kernel) rfl
theorem wd_775 : (Jvm.Cond.instanceMethod ({ cls := "ValueMethodsModel", name := "turned", desc := "(Z)V" } : Jvm.MethodName)) ∈ lw_gt := wd_of 775 (by decide +kernel) rfl
theorem wd_776 : (Jvm.Cond.selects "ValueMethodsModel" ({ cls := "ValueMethodsModel", name := "turned", desc := "(Z)V" } : Jvm.MethodName) ({ cls := "ValueMethodsModel", name := "turned", desc := "(Z)V" } : Jvm.MethodName)) ∈ lw_gt := wd_of 776 (by decide +kernel) rfl
theorem wd_777 : (Jvm.Cond.code ({ cls := "ValueMethodsModel", name := "turned", desc := "(Z)V" } : Jvm.MethodName) prog_7_method_35_code (2 : Nat) (Option.none : Option Jvm.ClassFile.FieldType)) ∈ lw_gt := wd_of 777 (by decide +kernel) rfl
theorem wd_778 : (Jvm.Cond.methodLink "ValueMethodsLaw" (109 : Nat) ({ cls := "ValueMethodsModel", name := "method", desc := "()I" } : Jvm.MethodName)) ∈ lw_gt := wd_of 778 (by decide +kernel) rfl
theorem wd_779 : (Jvm.Cond.instanceMethod ({ cls := "ValueMethodsModel", name := "method", desc := "()I" } : Jvm.MethodName)) ∈ lw_gt := wd_of 779 (by decide +kernel) rfl
theorem wd_780 : (Jvm.Cond.selects "ValueMethodsModel" ({ cls := "ValueMethodsModel", name := "method", desc := "()I" } : Jvm.MethodName) ({ cls := "ValueMethodsModel", name := "method", desc := "()I" } : Jvm.MethodName)) ∈ lw_gt := wd_of 780 (by decide +kernel) rfl
theorem wd_781 : (Jvm.Cond.code ({ cls := "ValueMethodsModel", name := "method", desc := "()I" } : Jvm.MethodName) prog_7_method_36_code (1 : Nat) (Option.some Jvm.ClassFile.FieldType.int)) ∈ lw_gt := wd_of 781 (by decide +kernel) rfl
theorem wd_782 : (Jvm.Cond.methodLink "ValueMethodsModel" (186 : Nat) ({ cls := "ValueMethodsModel", name := "methodNow", desc := "()I" } : Jvm.MethodName)) ∈ lw_gt := wd_of 782 (by decide +kernel) rfl
theorem wd_784 : (Jvm.Cond.instanceMethod ({ cls := "ValueMethodsModel", name := "methodNow", desc := "()I" } : Jvm.MethodName)) ∈ lw_gt := wd_of 784 (by decide +kernel) rfl
theorem wd_785 : (Jvm.Cond.code ({ cls := "ValueMethodsModel", name := "methodNow", desc := "()I" } : Jvm.MethodName) prog_7_method_17_code (4 : Nat) (Option.some Jvm.ClassFile.FieldType.int)) ∈ lw_gt := wd_of 785 (by decide +kernel) rfl
theorem wd_786 : (Jvm.Cond.methodLink "ValueMethodsModel" (138 : Nat) ({ cls := "ValueMethodsModel", name := "holds", desc := "(I)Z" } : Jvm.MethodName)) ∈ lw_gt := wd_of 786 (by decide +kernel) rfl
theorem wd_788 : (Jvm.Cond.instanceMethod ({ cls := "ValueMethodsModel", name := "holds", desc := "(I)Z" } : Jvm.MethodName)) ∈ lw_gt := wd_of 788 (by decide +kernel) rfl
theorem wd_789 : (Jvm.Cond.code ({ cls := "ValueMethodsModel", name := "holds", desc := "(I)Z" } : Jvm.MethodName) prog_7_method_16_code (4 : Nat) (Option.some Jvm.ClassFile.FieldType.boolean)) ∈ lw_gt := wd_of 789 (by decide +kernel) rfl
theorem wd_790 : (Jvm.Cond.methodLink "ValueMethodsModel" (128 : Nat) ({ cls := "ValueMethodsModel", name := "deductive", desc := "()J" } : Jvm.MethodName)) ∈ lw_gt := wd_of 790 (by decide +kernel) rfl
theorem wd_792 : (Jvm.Cond.instanceMethod ({ cls := "ValueMethodsModel", name := "deductive", desc := "()J" } : Jvm.MethodName)) ∈ lw_gt := wd_of 792 (by decide +kernel) rfl
theorem wd_793 : (Jvm.Cond.code ({ cls := "ValueMethodsModel", name := "deductive", desc := "()J" } : Jvm.MethodName) prog_7_method_15_code (1 : Nat) (Option.some Jvm.ClassFile.FieldType.long)) ∈ lw_gt := wd_of 793 (by decide +kernel) rfl
theorem wd_794 : (Jvm.Cond.methodLink "ValueMethodsModel" (124 : Nat) ({ cls := "ValueMethodsModel", name := "told", desc := "(II)J" } : Jvm.MethodName)) ∈ lw_gt := wd_of 794 (by decide +kernel) rfl
theorem wd_796 : (Jvm.Cond.instanceMethod ({ cls := "ValueMethodsModel", name := "told", desc := "(II)J" } : Jvm.MethodName)) ∈ lw_gt := wd_of 796 (by decide +kernel) rfl
theorem wd_797 : (Jvm.Cond.code ({ cls := "ValueMethodsModel", name := "told", desc := "(II)J" } : Jvm.MethodName) prog_7_method_13_code (6 : Nat) (Option.some Jvm.ClassFile.FieldType.long)) ∈ lw_gt := wd_of 797 (by decide +kernel) rfl
theorem wd_798 : (Jvm.Cond.methodLink "ValueMethodsModel" (117 : Nat) ({ cls := "ValueMethodsModel", name := "transactionOf", desc := "(I)J" } : Jvm.MethodName)) ∈ lw_gt := wd_of 798 (by decide +kernel) rfl
theorem wd_800 : (Jvm.Cond.instanceMethod ({ cls := "ValueMethodsModel", name := "transactionOf", desc := "(I)J" } : Jvm.MethodName)) ∈ lw_gt := wd_of 800 (by decide +kernel) rfl
theorem wd_801 : (Jvm.Cond.code ({ cls := "ValueMethodsModel", name := "transactionOf", desc := "(I)J" } : Jvm.MethodName) prog_7_method_12_code (7 : Nat) (Option.some Jvm.ClassFile.FieldType.long)) ∈ lw_gt := wd_of 801 (by decide +kernel) rfl
theorem wd_802 : (Jvm.Cond.methodLink "ValueMethodsModel" (106 : Nat) ({ cls := "ValueMethodsModel", name := "discount", desc := "()J" } : Jvm.MethodName)) ∈ lw_gt := wd_of 802 (by decide +kernel) rfl
theorem wd_804 : (Jvm.Cond.instanceMethod ({ cls := "ValueMethodsModel", name := "discount", desc := "()J" } : Jvm.MethodName)) ∈ lw_gt := wd_of 804 (by decide +kernel) rfl
theorem wd_805 : (Jvm.Cond.code ({ cls := "ValueMethodsModel", name := "discount", desc := "()J" } : Jvm.MethodName) prog_7_method_11_code (1 : Nat) (Option.some Jvm.ClassFile.FieldType.long)) ∈ lw_gt := wd_of 805 (by decide +kernel) rfl
theorem wd_806 : (Jvm.Cond.methodLink "ValueMethodsModel" (76 : Nat) ({ cls := "ValueMethodsModel", name := "prices", desc := "()J" } : Jvm.MethodName)) ∈ lw_gt := wd_of 806 (by decide +kernel) rfl
theorem wd_808 : (Jvm.Cond.instanceMethod ({ cls := "ValueMethodsModel", name := "prices", desc := "()J" } : Jvm.MethodName)) ∈ lw_gt := wd_of 808 (by decide +kernel) rfl
theorem wd_809 : (Jvm.Cond.code ({ cls := "ValueMethodsModel", name := "prices", desc := "()J" } : Jvm.MethodName) prog_7_method_6_code (1 : Nat) (Option.some Jvm.ClassFile.FieldType.long)) ∈ lw_gt := wd_of 809 (by decide +kernel) rfl
theorem wd_810 : (Jvm.Cond.methodLink "ValueMethodsModel" (96 : Nat) ({ cls := "ValueMethodsModel", name := "thousandths", desc := "()I" } : Jvm.MethodName)) ∈ lw_gt := wd_of 810 (by decide +kernel) rfl
theorem wd_812 : (Jvm.Cond.instanceMethod ({ cls := "ValueMethodsModel", name := "thousandths", desc := "()I" } : Jvm.MethodName)) ∈ lw_gt := wd_of 812 (by decide +kernel) rfl
theorem wd_813 : (Jvm.Cond.code ({ cls := "ValueMethodsModel", name := "thousandths", desc := "()I" } : Jvm.MethodName) prog_7_method_10_code (3 : Nat) (Option.some Jvm.ClassFile.FieldType.int)) ∈ lw_gt := wd_of 813 (by decide +kernel) rfl
theorem wd_814 : (Jvm.Cond.methodLink "ValueMethodsModel" (102 : Nat) ({ cls := "ValueMethodsModel", name := "near", desc := "(JJ)J" } : Jvm.MethodName)) ∈ lw_gt := wd_of 814 (by decide +kernel) rfl
theorem wd_815 : (Jvm.Cond.static ({ cls := "ValueMethodsModel", name := "near", desc := "(JJ)J" } : Jvm.MethodName)) ∈ lw_gt := wd_of 815 (by decide +kernel) rfl
theorem wd_816 : (Jvm.Cond.code ({ cls := "ValueMethodsModel", name := "near", desc := "(JJ)J" } : Jvm.MethodName) prog_7_method_4_code (4 : Nat) (Option.some Jvm.ClassFile.FieldType.long)) ∈ lw_gt := wd_of 816 (by decide +kernel) rfl
theorem wd_817 : (Jvm.Cond.methodLink "ValueMethodsModel" (109 : Nat) ({ cls := "ValueMethodsModel", name := "shareOf", desc := "(JIZ)J" } : Jvm.MethodName)) ∈ lw_gt := wd_of 817 (by decide +kernel) rfl
theorem wd_819 : (Jvm.Cond.instanceMethod ({ cls := "ValueMethodsModel", name := "shareOf", desc := "(JIZ)J" } : Jvm.MethodName)) ∈ lw_gt := wd_of 819 (by decide +kernel) rfl
theorem wd_820 : (Jvm.Cond.code ({ cls := "ValueMethodsModel", name := "shareOf", desc := "(JIZ)J" } : Jvm.MethodName) prog_7_method_9_code (15 : Nat) (Option.some Jvm.ClassFile.FieldType.long)) ∈ lw_gt := wd_of 820 (by decide +kernel) rfl
theorem wd_821 : (Jvm.Cond.methodLink "ValueMethodsModel" (82 : Nat) ({ cls := "ValueMethodsModel", name := "whole", desc := "(Z)J" } : Jvm.MethodName)) ∈ lw_gt := wd_of 821 (by decide +kernel) rfl
theorem wd_823 : (Jvm.Cond.instanceMethod ({ cls := "ValueMethodsModel", name := "whole", desc := "(Z)J" } : Jvm.MethodName)) ∈ lw_gt := wd_of 823 (by decide +kernel) rfl
theorem wd_824 : (Jvm.Cond.code ({ cls := "ValueMethodsModel", name := "whole", desc := "(Z)J" } : Jvm.MethodName) prog_7_method_8_code (2 : Nat) (Option.some Jvm.ClassFile.FieldType.long)) ∈ lw_gt := wd_of 824 (by decide +kernel) rfl
theorem wd_825 : (Jvm.Cond.methodLink "ValueMethodsModel" (72 : Nat) ({ cls := "ValueMethodsModel", name := "weights", desc := "()J" } : Jvm.MethodName)) ∈ lw_gt := wd_of 825 (by decide +kernel) rfl
theorem wd_827 : (Jvm.Cond.instanceMethod ({ cls := "ValueMethodsModel", name := "weights", desc := "()J" } : Jvm.MethodName)) ∈ lw_gt := wd_of 827 (by decide +kernel) rfl
theorem wd_828 : (Jvm.Cond.code ({ cls := "ValueMethodsModel", name := "weights", desc := "()J" } : Jvm.MethodName) prog_7_method_5_code (1 : Nat) (Option.some Jvm.ClassFile.FieldType.long)) ∈ lw_gt := wd_of 828 (by decide +kernel) rfl
theorem wd_829 : (Jvm.Cond.methodLink "ValueMethodsModel" (86 : Nat) ({ cls := "ValueMethodsModel", name := "partOf", desc := "(IZ)J" } : Jvm.MethodName)) ∈ lw_gt := wd_of 829 (by decide +kernel) rfl
theorem wd_831 : (Jvm.Cond.instanceMethod ({ cls := "ValueMethodsModel", name := "partOf", desc := "(IZ)J" } : Jvm.MethodName)) ∈ lw_gt := wd_of 831 (by decide +kernel) rfl
theorem wd_832 : (Jvm.Cond.code ({ cls := "ValueMethodsModel", name := "partOf", desc := "(IZ)J" } : Jvm.MethodName) prog_7_method_7_code (3 : Nat) (Option.some Jvm.ClassFile.FieldType.long)) ∈ lw_gt := wd_of 832 (by decide +kernel) rfl
theorem wd_833 : (Jvm.Cond.methodLink "ValueMethodsModel" (131 : Nat) ({ cls := "ValueMethodsModel", name := "isTested", desc := "()Z" } : Jvm.MethodName)) ∈ lw_gt := wd_of 833 (by decide +kernel) rfl
theorem wd_835 : (Jvm.Cond.instanceMethod ({ cls := "ValueMethodsModel", name := "isTested", desc := "()Z" } : Jvm.MethodName)) ∈ lw_gt := wd_of 835 (by decide +kernel) rfl
theorem wd_836 : (Jvm.Cond.code ({ cls := "ValueMethodsModel", name := "isTested", desc := "()Z" } : Jvm.MethodName) prog_7_method_14_code (5 : Nat) (Option.some Jvm.ClassFile.FieldType.boolean)) ∈ lw_gt := wd_of 836 (by decide +kernel) rfl
theorem wd_837 : (Jvm.Cond.methodLink "ValueMethodsLaw" (112 : Nat) ({ cls := "ValueMethodsModel", name := "value", desc := "(II)J" } : Jvm.MethodName)) ∈ lw_gt := wd_of 837 (by decide +kernel) rfl
theorem wd_838 : (Jvm.Cond.instanceMethod ({ cls := "ValueMethodsModel", name := "value", desc := "(II)J" } : Jvm.MethodName)) ∈ lw_gt := wd_of 838 (by decide +kernel) rfl
theorem wd_839 : (Jvm.Cond.selects "ValueMethodsModel" ({ cls := "ValueMethodsModel", name := "value", desc := "(II)J" } : Jvm.MethodName) ({ cls := "ValueMethodsModel", name := "value", desc := "(II)J" } : Jvm.MethodName)) ∈ lw_gt := wd_of 839 (by decide +kernel) rfl
theorem wd_840 : (Jvm.Cond.code ({ cls := "ValueMethodsModel", name := "value", desc := "(II)J" } : Jvm.MethodName) prog_7_method_38_code (5 : Nat) (Option.some Jvm.ClassFile.FieldType.long)) ∈ lw_gt := wd_of 840 (by decide +kernel) rfl
theorem wd_841 : (Jvm.Cond.methodLink "ValueMethodsModel" (189 : Nat) ({ cls := "ValueMethodsModel", name := "isLine", desc := "(I)Z" } : Jvm.MethodName)) ∈ lw_gt := wd_of 841 (by decide +kernel) rfl
theorem wd_843 : (Jvm.Cond.instanceMethod ({ cls := "ValueMethodsModel", name := "isLine", desc := "(I)Z" } : Jvm.MethodName)) ∈ lw_gt := wd_of 843 (by decide +kernel) rfl
theorem wd_844 : (Jvm.Cond.code ({ cls := "ValueMethodsModel", name := "isLine", desc := "(I)Z" } : Jvm.MethodName) prog_7_method_37_code (2 : Nat) (Option.some Jvm.ClassFile.FieldType.boolean)) ∈ lw_gt := wd_of 844 (by decide +kernel) rfl
theorem wd_845 : (Jvm.Cond.methodLink "ValueMethodsModel" (192 : Nat) ({ cls := "ValueMethodsModel", name := "ownOf", desc := "(II)J" } : Jvm.MethodName)) ∈ lw_gt := wd_of 845 (by decide +kernel) rfl
theorem wd_847 : (Jvm.Cond.instanceMethod ({ cls := "ValueMethodsModel", name := "ownOf", desc := "(II)J" } : Jvm.MethodName)) ∈ lw_gt := wd_of 847 (by decide +kernel) rfl
theorem wd_848 : (Jvm.Cond.code ({ cls := "ValueMethodsModel", name := "ownOf", desc := "(II)J" } : Jvm.MethodName) prog_7_method_24_code (11 : Nat) (Option.some Jvm.ClassFile.FieldType.long)) ∈ lw_gt := wd_of 848 (by decide +kernel) rfl
theorem wd_849 : (Jvm.Cond.methodLink "ValueMethodsModel" (157 : Nat) ({ cls := "ValueMethodsModel", name := "ownSum", desc := "(I)J" } : Jvm.MethodName)) ∈ lw_gt := wd_of 849 (by decide +kernel) rfl
theorem wd_851 : (Jvm.Cond.instanceMethod ({ cls := "ValueMethodsModel", name := "ownSum", desc := "(I)J" } : Jvm.MethodName)) ∈ lw_gt := wd_of 851 (by decide +kernel) rfl
theorem wd_852 : (Jvm.Cond.code ({ cls := "ValueMethodsModel", name := "ownSum", desc := "(I)J" } : Jvm.MethodName) prog_7_method_23_code (2 : Nat) (Option.some Jvm.ClassFile.FieldType.long)) ∈ lw_gt := wd_of 852 (by decide +kernel) rfl
theorem wd_853 : (Jvm.Cond.methodLink "ValueMethodsModel" (148 : Nat) ({ cls := "ValueMethodsModel", name := "valueSum", desc := "(I)J" } : Jvm.MethodName)) ∈ lw_gt := wd_of 853 (by decide +kernel) rfl
theorem wd_855 : (Jvm.Cond.instanceMethod ({ cls := "ValueMethodsModel", name := "valueSum", desc := "(I)J" } : Jvm.MethodName)) ∈ lw_gt := wd_of 855 (by decide +kernel) rfl
theorem wd_856 : (Jvm.Cond.code ({ cls := "ValueMethodsModel", name := "valueSum", desc := "(I)J" } : Jvm.MethodName) prog_7_method_22_code (5 : Nat) (Option.some Jvm.ClassFile.FieldType.long)) ∈ lw_gt := wd_of 856 (by decide +kernel) rfl
theorem wd_857 : (Jvm.Cond.methodLink "ValueMethodsModel" (145 : Nat) ({ cls := "ValueMethodsModel", name := "valueOf", desc := "(II)J" } : Jvm.MethodName)) ∈ lw_gt := wd_of 857 (by decide +kernel) rfl
theorem wd_859 : (Jvm.Cond.instanceMethod ({ cls := "ValueMethodsModel", name := "valueOf", desc := "(II)J" } : Jvm.MethodName)) ∈ lw_gt := wd_of 859 (by decide +kernel) rfl
theorem wd_860 : (Jvm.Cond.code ({ cls := "ValueMethodsModel", name := "valueOf", desc := "(II)J" } : Jvm.MethodName) prog_7_method_18_code (3 : Nat) (Option.some Jvm.ClassFile.FieldType.long)) ∈ lw_gt := wd_of 860 (by decide +kernel) rfl
theorem wd_861 : (Jvm.Cond.methodLink "ValueMethodsModel" (151 : Nat) ({ cls := "ValueMethodsModel", name := "upOf", desc := "(I)J" } : Jvm.MethodName)) ∈ lw_gt := wd_of 861 (by decide +kernel) rfl
theorem wd_863 : (Jvm.Cond.instanceMethod ({ cls := "ValueMethodsModel", name := "upOf", desc := "(I)J" } : Jvm.MethodName)) ∈ lw_gt := wd_of 863 (by decide +kernel) rfl
theorem wd_864 : (Jvm.Cond.code ({ cls := "ValueMethodsModel", name := "upOf", desc := "(I)J" } : Jvm.MethodName) prog_7_method_20_code (2 : Nat) (Option.some Jvm.ClassFile.FieldType.long)) ∈ lw_gt := wd_of 864 (by decide +kernel) rfl
theorem wd_865 : (Jvm.Cond.methodLink "ValueMethodsModel" (142 : Nat) ({ cls := "ValueMethodsModel", name := "isOwn", desc := "(I)Z" } : Jvm.MethodName)) ∈ lw_gt := wd_of 865 (by decide +kernel) rfl
theorem wd_867 : (Jvm.Cond.instanceMethod ({ cls := "ValueMethodsModel", name := "isOwn", desc := "(I)Z" } : Jvm.MethodName)) ∈ lw_gt := wd_of 867 (by decide +kernel) rfl
theorem wd_868 : (Jvm.Cond.code ({ cls := "ValueMethodsModel", name := "isOwn", desc := "(I)Z" } : Jvm.MethodName) prog_7_method_19_code (2 : Nat) (Option.some Jvm.ClassFile.FieldType.boolean)) ∈ lw_gt := wd_of 868 (by decide +kernel) rfl
theorem wd_869 : (Jvm.Cond.methodLink "ValueMethodsModel" (154 : Nat) ({ cls := "ValueMethodsModel", name := "downOf", desc := "(I)J" } : Jvm.MethodName)) ∈ lw_gt := wd_of 869 (by decide +kernel) rfl
theorem wd_871 : (Jvm.Cond.instanceMethod ({ cls := "ValueMethodsModel", name := "downOf", desc := "(I)J" } : Jvm.MethodName)) ∈ lw_gt := wd_of 871 (by decide +kernel) rfl
theorem wd_872 : (Jvm.Cond.code ({ cls := "ValueMethodsModel", name := "downOf", desc := "(I)J" } : Jvm.MethodName) prog_7_method_21_code (2 : Nat) (Option.some Jvm.ClassFile.FieldType.long)) ∈ lw_gt := wd_of 872 (by decide +kernel) rfl
theorem wd_873 : (Jvm.Cond.methodLink "ValueMethodsLaw" (116 : Nat) ({ cls := "ValueMethodsModel", name := "transaction", desc := "(I)J" } : Jvm.MethodName)) ∈ lw_gt := wd_of 873 (by decide +kernel) rfl
theorem wd_874 : (Jvm.Cond.instanceMethod ({ cls := "ValueMethodsModel", name := "transaction", desc := "(I)J" } : Jvm.MethodName)) ∈ lw_gt := wd_of 874 (by decide +kernel) rfl
theorem wd_875 : (Jvm.Cond.selects "ValueMethodsModel" ({ cls := "ValueMethodsModel", name := "transaction", desc := "(I)J" } : Jvm.MethodName) ({ cls := "ValueMethodsModel", name := "transaction", desc := "(I)J" } : Jvm.MethodName)) ∈ lw_gt := wd_of 875 (by decide +kernel) rfl
theorem wd_876 : (Jvm.Cond.code ({ cls := "ValueMethodsModel", name := "transaction", desc := "(I)J" } : Jvm.MethodName) prog_7_method_39_code (2 : Nat) (Option.some Jvm.ClassFile.FieldType.long)) ∈ lw_gt := wd_of 876 (by decide +kernel) rfl
theorem wd_877 : (Jvm.Cond.methodLink "ValueMethodsLaw" (120 : Nat) ({ cls := "ValueMethodsModel", name := "share", desc := "(JIZ)J" } : Jvm.MethodName)) ∈ lw_gt := wd_of 877 (by decide +kernel) rfl
theorem wd_878 : (Jvm.Cond.instanceMethod ({ cls := "ValueMethodsModel", name := "share", desc := "(JIZ)J" } : Jvm.MethodName)) ∈ lw_gt := wd_of 878 (by decide +kernel) rfl
theorem wd_879 : (Jvm.Cond.selects "ValueMethodsModel" ({ cls := "ValueMethodsModel", name := "share", desc := "(JIZ)J" } : Jvm.MethodName) ({ cls := "ValueMethodsModel", name := "share", desc := "(JIZ)J" } : Jvm.MethodName)) ∈ lw_gt := wd_of 879 (by decide +kernel) rfl
theorem wd_880 : (Jvm.Cond.code ({ cls := "ValueMethodsModel", name := "share", desc := "(JIZ)J" } : Jvm.MethodName) prog_7_method_40_code (5 : Nat) (Option.some Jvm.ClassFile.FieldType.long)) ∈ lw_gt := wd_of 880 (by decide +kernel) rfl
theorem wd_881 : (Jvm.Cond.methodLink "ValueMethodsLaw" (124 : Nat) ({ cls := "ValueMethodsModel", name := "plain", desc := "(JI)J" } : Jvm.MethodName)) ∈ lw_gt := wd_of 881 (by decide +kernel) rfl
theorem wd_882 : (Jvm.Cond.instanceMethod ({ cls := "ValueMethodsModel", name := "plain", desc := "(JI)J" } : Jvm.MethodName)) ∈ lw_gt := wd_of 882 (by decide +kernel) rfl
theorem wd_883 : (Jvm.Cond.selects "ValueMethodsModel" ({ cls := "ValueMethodsModel", name := "plain", desc := "(JI)J" } : Jvm.MethodName) ({ cls := "ValueMethodsModel", name := "plain", desc := "(JI)J" } : Jvm.MethodName)) ∈ lw_gt := wd_of 883 (by decide +kernel) rfl
theorem wd_884 : (Jvm.Cond.code ({ cls := "ValueMethodsModel", name := "plain", desc := "(JI)J" } : Jvm.MethodName) prog_7_method_41_code (4 : Nat) (Option.some Jvm.ClassFile.FieldType.long)) ∈ lw_gt := wd_of 884 (by decide +kernel) rfl
theorem wd_885 : (Jvm.Cond.methodLink "ValueMethodsLaw" (129 : Nat) ({ cls := "ValueMethodsModel", name := "count", desc := "(I)I" } : Jvm.MethodName)) ∈ lw_gt := wd_of 885 (by decide +kernel) rfl
theorem wd_886 : (Jvm.Cond.instanceMethod ({ cls := "ValueMethodsModel", name := "count", desc := "(I)I" } : Jvm.MethodName)) ∈ lw_gt := wd_of 886 (by decide +kernel) rfl
theorem wd_887 : (Jvm.Cond.selects "ValueMethodsModel" ({ cls := "ValueMethodsModel", name := "count", desc := "(I)I" } : Jvm.MethodName) ({ cls := "ValueMethodsModel", name := "count", desc := "(I)I" } : Jvm.MethodName)) ∈ lw_gt := wd_of 887 (by decide +kernel) rfl
theorem wd_888 : (Jvm.Cond.code ({ cls := "ValueMethodsModel", name := "count", desc := "(I)I" } : Jvm.MethodName) prog_7_method_42_code (4 : Nat) (Option.some Jvm.ClassFile.FieldType.int)) ∈ lw_gt := wd_of 888 (by decide +kernel) rfl
theorem wd_889 : (Jvm.Cond.methodLink "ValueMethodsLaw" (133 : Nat) ({ cls := "ValueMethodsModel", name := "sum", desc := "(I)J" } : Jvm.MethodName)) ∈ lw_gt := wd_of 889 (by decide +kernel) rfl
theorem wd_890 : (Jvm.Cond.instanceMethod ({ cls := "ValueMethodsModel", name := "sum", desc := "(I)J" } : Jvm.MethodName)) ∈ lw_gt := wd_of 890 (by decide +kernel) rfl
theorem wd_891 : (Jvm.Cond.selects "ValueMethodsModel" ({ cls := "ValueMethodsModel", name := "sum", desc := "(I)J" } : Jvm.MethodName) ({ cls := "ValueMethodsModel", name := "sum", desc := "(I)J" } : Jvm.MethodName)) ∈ lw_gt := wd_of 891 (by decide +kernel) rfl
theorem wd_892 : (Jvm.Cond.code ({ cls := "ValueMethodsModel", name := "sum", desc := "(I)J" } : Jvm.MethodName) prog_7_method_43_code (3 : Nat) (Option.some Jvm.ClassFile.FieldType.long)) ∈ lw_gt := wd_of 892 (by decide +kernel) rfl
theorem wd_893 : (Jvm.Cond.constantLong "ValueMethodsLaw" (54 : Nat) (4294967295 : Int64)) ∈ lw_gt := wd_of 893 (by decide +kernel) rfl
