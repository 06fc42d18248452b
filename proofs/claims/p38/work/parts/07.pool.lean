theorem tw_14 : tw (Jvm.Cond.classLink "TallyWaxLaw" (26 : Nat) "TallyWax") := ⟨List.mem_of_getElem? (i := 38) (by decide +kernel), by decide +kernel⟩
theorem tw_15 : tw (Jvm.Cond.instantiable "TallyWax" (9 : Nat)) := ⟨List.mem_of_getElem? (i := 39) (by decide +kernel), by decide +kernel⟩
theorem tw_1 : tw (Jvm.Cond.initialized "TallyWax") := ⟨List.mem_of_getElem? (i := 25) (by decide +kernel), by decide +kernel⟩
theorem k_RL_26 : lkC RL 26 3 9 [.null, .null, .null, .null, .null, .int 0, .int 0, .int 0, .int 0] := by
  refine ⟨RX3, TX3, rfl, tw_14.1, tw_15.1, tw_1.1, fun ty0 h j hj => ?_⟩
  have hj2 := h j hj
  rcases (show j = 0 ∨ j = 1 ∨ j = 2 ∨ j = 3 ∨ j = 4 ∨ j = 5 ∨ j = 6 ∨ j = 7 ∨ j = 8 by omega) with rfl | rfl | rfl | rfl | rfl | rfl | rfl | rfl | rfl <;>
    (rw [Option.some.inj (hj2.symm.trans (tyX3_ok _ hj))]; rfl)
theorem tw_16 : tw (Jvm.Cond.methodLink "TallyWaxLaw" (96 : Nat) ({ cls := "TallyWax", name := "<init>", desc := "()V" } : Jvm.MethodName)) := ⟨List.mem_of_getElem? (i := 40) (by decide +kernel), by decide +kernel⟩
theorem tw_17 : tw (Jvm.Cond.instanceMethod ({ cls := "TallyWax", name := "<init>", desc := "()V" } : Jvm.MethodName)) := ⟨List.mem_of_getElem? (i := 41) (by decide +kernel), by decide +kernel⟩
theorem gw_18 : ((Jvm.Cond.code ({ cls := "TallyWax", name := "<init>", desc := "()V" } : Jvm.MethodName) prog_1_method_1_code (2 : Nat) (Option.none : Option Jvm.ClassFile.FieldType)) : Cond) ∈ lw_tbl ∧ goodWord (Jvm.Cond.code ({ cls := "TallyWax", name := "<init>", desc := "()V" } : Jvm.MethodName) prog_1_method_1_code (2 : Nat) (Option.none : Option Jvm.ClassFile.FieldType)) = true := ⟨List.mem_of_getElem? (i := 42) (by decide +kernel), by decide +kernel⟩
theorem k_RL_96 : lkI RL 96 yX3_init cX3_init 2 0 := ⟨Or.inl tw_16, tw_17, tw_1, gw_18, ⟨⟨by decide +kernel, by decide +kernel⟩, by decide +kernel⟩, rfl⟩
theorem tw_19 : tw (Jvm.Cond.methodLink "TallyWax" (1 : Nat) ({ cls := "java/lang/Object", name := "<init>", desc := "()V" } : Jvm.MethodName)) := ⟨List.mem_of_getElem? (i := 43) (by decide +kernel), by decide +kernel⟩
theorem tw_22 : tw (Jvm.Cond.classLink "TallyWax" (13 : Nat) "TallyWax$Tablet") := ⟨List.mem_of_getElem? (i := 46) (by decide +kernel), by decide +kernel⟩
theorem tw_185 : tw (Jvm.Cond.instantiable "TallyWax$Tablet" (3 : Nat)) := ⟨List.mem_of_getElem? (i := 209) (by decide +kernel), by decide +kernel⟩
theorem tw_10 : tw (Jvm.Cond.initialized "TallyWax$Tablet") := ⟨List.mem_of_getElem? (i := 34) (by decide +kernel), by decide +kernel⟩
theorem k_RX3_13 : lkC RX3 13 2 3 [.int 0, .int 0, .null] := by
  refine ⟨RX2, TX2, rfl, tw_22.1, tw_185.1, tw_10.1, fun ty0 h j hj => ?_⟩
  have hj2 := h j hj
  rcases (show j = 0 ∨ j = 1 ∨ j = 2 by omega) with rfl | rfl | rfl <;>
    (rw [Option.some.inj (hj2.symm.trans (tyX2_ok _ hj))]; rfl)
theorem tw_24 : tw (Jvm.Cond.classLink "TallyWax" (23 : Nat) "TallyWax$Smoothing") := ⟨List.mem_of_getElem? (i := 48) (by decide +kernel), by decide +kernel⟩
theorem tw_25 : tw (Jvm.Cond.instantiable "TallyWax$Smoothing" (2 : Nat)) := ⟨List.mem_of_getElem? (i := 49) (by decide +kernel), by decide +kernel⟩
theorem tw_2 : tw (Jvm.Cond.initialized "TallyWax$Smoothing") := ⟨List.mem_of_getElem? (i := 26) (by decide +kernel), by decide +kernel⟩
theorem k_RX3_23 : lkC RX3 23 1 2 [.null, .null] := by
  refine ⟨RX1, TX1, rfl, tw_24.1, tw_25.1, tw_2.1, fun ty0 h j hj => ?_⟩
  have hj2 := h j hj
  rcases (show j = 0 ∨ j = 1 by omega) with rfl | rfl <;>
    (rw [Option.some.inj (hj2.symm.trans (tyX1_ok _ hj))]; rfl)
theorem tw_26 : tw (Jvm.Cond.methodLinkNest "TallyWax" (25 : Nat) ({ cls := "TallyWax$Smoothing", name := "<init>", desc := "()V" } : Jvm.MethodName) "TallyWax") := ⟨List.mem_of_getElem? (i := 50) (by decide +kernel), by decide +kernel⟩
theorem tw_27 : tw (Jvm.Cond.instanceMethod ({ cls := "TallyWax$Smoothing", name := "<init>", desc := "()V" } : Jvm.MethodName)) := ⟨List.mem_of_getElem? (i := 51) (by decide +kernel), by decide +kernel⟩
theorem gw_28 : ((Jvm.Cond.code ({ cls := "TallyWax$Smoothing", name := "<init>", desc := "()V" } : Jvm.MethodName) prog_3_method_1_code (1 : Nat) (Option.none : Option Jvm.ClassFile.FieldType)) : Cond) ∈ lw_tbl ∧ goodWord (Jvm.Cond.code ({ cls := "TallyWax$Smoothing", name := "<init>", desc := "()V" } : Jvm.MethodName) prog_3_method_1_code (1 : Nat) (Option.none : Option Jvm.ClassFile.FieldType)) = true := ⟨List.mem_of_getElem? (i := 52) (by decide +kernel), by decide +kernel⟩
theorem k_RX3_25 : lkI RX3 25 yX1_init cX1_init 1 0 := ⟨Or.inr ⟨_, tw_26⟩, tw_27, tw_2, gw_28, ⟨⟨by decide +kernel, by decide +kernel⟩, by decide +kernel⟩, rfl⟩
theorem tw_29 : tw (Jvm.Cond.methodLink "TallyWax$Smoothing" (3 : Nat) ({ cls := "java/lang/Object", name := "<init>", desc := "()V" } : Jvm.MethodName)) := ⟨List.mem_of_getElem? (i := 53) (by decide +kernel), by decide +kernel⟩
theorem tw_30 : tw (Jvm.Cond.classLink "TallyWax$Smoothing" (15 : Nat) "TallyWax$LineList") := ⟨List.mem_of_getElem? (i := 54) (by decide +kernel), by decide +kernel⟩
theorem tw_31 : tw (Jvm.Cond.instantiable "TallyWax$LineList" (5 : Nat)) := ⟨List.mem_of_getElem? (i := 55) (by decide +kernel), by decide +kernel⟩
theorem tw_3 : tw (Jvm.Cond.initialized "TallyWax$LineList") := ⟨List.mem_of_getElem? (i := 27) (by decide +kernel), by decide +kernel⟩
theorem k_RX1_15 : lkC RX1 15 0 5 [.null, .null, .null, .null, .int 0] := by
  refine ⟨RX0, TX0, rfl, tw_30.1, tw_31.1, tw_3.1, fun ty0 h j hj => ?_⟩
  have hj2 := h j hj
  rcases (show j = 0 ∨ j = 1 ∨ j = 2 ∨ j = 3 ∨ j = 4 by omega) with rfl | rfl | rfl | rfl | rfl <;>
    (rw [Option.some.inj (hj2.symm.trans (tyX0_ok _ hj))]; rfl)
theorem tw_32 : tw (Jvm.Cond.methodLinkNest "TallyWax$Smoothing" (17 : Nat) ({ cls := "TallyWax$LineList", name := "<init>", desc := "()V" } : Jvm.MethodName) "TallyWax") := ⟨List.mem_of_getElem? (i := 56) (by decide +kernel), by decide +kernel⟩
theorem tw_33 : tw (Jvm.Cond.instanceMethod ({ cls := "TallyWax$LineList", name := "<init>", desc := "()V" } : Jvm.MethodName)) := ⟨List.mem_of_getElem? (i := 57) (by decide +kernel), by decide +kernel⟩
theorem gw_34 : ((Jvm.Cond.code ({ cls := "TallyWax$LineList", name := "<init>", desc := "()V" } : Jvm.MethodName) prog_2_method_1_code (1 : Nat) (Option.none : Option Jvm.ClassFile.FieldType)) : Cond) ∈ lw_tbl ∧ goodWord (Jvm.Cond.code ({ cls := "TallyWax$LineList", name := "<init>", desc := "()V" } : Jvm.MethodName) prog_2_method_1_code (1 : Nat) (Option.none : Option Jvm.ClassFile.FieldType)) = true := ⟨List.mem_of_getElem? (i := 58) (by decide +kernel), by decide +kernel⟩
theorem k_RX1_17 : lkI RX1 17 yX0_init cX0_init 1 0 := ⟨Or.inr ⟨_, tw_32⟩, tw_33, tw_3, gw_34, ⟨⟨by decide +kernel, by decide +kernel⟩, by decide +kernel⟩, rfl⟩
theorem tw_35 : tw (Jvm.Cond.methodLink "TallyWax$LineList" (3 : Nat) ({ cls := "java/lang/Object", name := "<init>", desc := "()V" } : Jvm.MethodName)) := ⟨List.mem_of_getElem? (i := 59) (by decide +kernel), by decide +kernel⟩
theorem tw_36 : tw (Jvm.Cond.fieldLink "TallyWax$LineList" (9 : Nat) "TallyWax$LineList" "debtor" "[I") := ⟨List.mem_of_getElem? (i := 60) (by decide +kernel), by decide +kernel⟩
theorem k_RX0_9 : lkF RX0 9 0 0 := ⟨RX0, TX0, 5, rfl, by decide, Or.inl tw_36.1⟩
theorem ko_RX0_9 : lkFo RX0 9 0 0 := ⟨RX0, TX0, 5, rfl, by decide, tw_36.1⟩
theorem tw_37 : tw (Jvm.Cond.fieldLinkNest "TallyWax" (101 : Nat) "TallyWax$LineList" "debtor" "[I" "TallyWax") := ⟨List.mem_of_getElem? (i := 61) (by decide +kernel), by decide +kernel⟩
theorem k_RX3_101 : lkF RX3 101 0 0 := ⟨RX0, TX0, 5, rfl, by decide, Or.inr ⟨_, tw_37.1⟩⟩
theorem tw_38 : tw (Jvm.Cond.fieldLink "TallyWax$LineList" (15 : Nat) "TallyWax$LineList" "creditor" "[I") := ⟨List.mem_of_getElem? (i := 62) (by decide +kernel), by decide +kernel⟩
theorem k_RX0_15 : lkF RX0 15 0 1 := ⟨RX0, TX0, 5, rfl, by decide, Or.inl tw_38.1⟩
theorem ko_RX0_15 : lkFo RX0 15 0 1 := ⟨RX0, TX0, 5, rfl, by decide, tw_38.1⟩
theorem tw_39 : tw (Jvm.Cond.fieldLinkNest "TallyWax" (146 : Nat) "TallyWax$LineList" "creditor" "[I" "TallyWax") := ⟨List.mem_of_getElem? (i := 63) (by decide +kernel), by decide +kernel⟩
theorem k_RX3_146 : lkF RX3 146 0 1 := ⟨RX0, TX0, 5, rfl, by decide, Or.inr ⟨_, tw_39.1⟩⟩
theorem tw_40 : tw (Jvm.Cond.fieldLink "TallyWax$LineList" (18 : Nat) "TallyWax$LineList" "amount" "[I") := ⟨List.mem_of_getElem? (i := 64) (by decide +kernel), by decide +kernel⟩
theorem k_RX0_18 : lkF RX0 18 0 2 := ⟨RX0, TX0, 5, rfl, by decide, Or.inl tw_40.1⟩
theorem ko_RX0_18 : lkFo RX0 18 0 2 := ⟨RX0, TX0, 5, rfl, by decide, tw_40.1⟩
theorem tw_41 : tw (Jvm.Cond.fieldLinkNest "TallyWax" (88 : Nat) "TallyWax$LineList" "amount" "[I" "TallyWax") := ⟨List.mem_of_getElem? (i := 65) (by decide +kernel), by decide +kernel⟩
theorem k_RX3_88 : lkF RX3 88 0 2 := ⟨RX0, TX0, 5, rfl, by decide, Or.inr ⟨_, tw_41.1⟩⟩
theorem tw_42 : tw (Jvm.Cond.fieldLink "TallyWax$LineList" (21 : Nat) "TallyWax$LineList" "witness" "[I") := ⟨List.mem_of_getElem? (i := 66) (by decide +kernel), by decide +kernel⟩
theorem k_RX0_21 : lkF RX0 21 0 3 := ⟨RX0, TX0, 5, rfl, by decide, Or.inl tw_42.1⟩
theorem ko_RX0_21 : lkFo RX0 21 0 3 := ⟨RX0, TX0, 5, rfl, by decide, tw_42.1⟩
theorem tw_43 : tw (Jvm.Cond.fieldLinkNest "TallyWax" (96 : Nat) "TallyWax$LineList" "witness" "[I" "TallyWax") := ⟨List.mem_of_getElem? (i := 67) (by decide +kernel), by decide +kernel⟩
theorem k_RX3_96 : lkF RX3 96 0 3 := ⟨RX0, TX0, 5, rfl, by decide, Or.inr ⟨_, tw_43.1⟩⟩
theorem tw_44 : tw (Jvm.Cond.fieldLink "TallyWax$LineList" (24 : Nat) "TallyWax$LineList" "count" "I") := ⟨List.mem_of_getElem? (i := 68) (by decide +kernel), by decide +kernel⟩
theorem k_RX0_24 : lkF RX0 24 0 4 := ⟨RX0, TX0, 5, rfl, by decide, Or.inl tw_44.1⟩
theorem tw_45 : tw (Jvm.Cond.fieldLinkNest "TallyWax$Smoothing" (22 : Nat) "TallyWax$LineList" "count" "I" "TallyWax") := ⟨List.mem_of_getElem? (i := 69) (by decide +kernel), by decide +kernel⟩
theorem k_RX1_22 : lkF RX1 22 0 4 := ⟨RX0, TX0, 5, rfl, by decide, Or.inr ⟨_, tw_45.1⟩⟩
theorem tw_46 : tw (Jvm.Cond.fieldLinkNest "TallyWax" (67 : Nat) "TallyWax$LineList" "count" "I" "TallyWax") := ⟨List.mem_of_getElem? (i := 70) (by decide +kernel), by decide +kernel⟩
theorem k_RX3_67 : lkF RX3 67 0 4 := ⟨RX0, TX0, 5, rfl, by decide, Or.inr ⟨_, tw_46.1⟩⟩
theorem tw_60 : tw (Jvm.Cond.fieldLink "TallyWax$Smoothing" (9 : Nat) "TallyWax$Smoothing" "balance" "[I") := ⟨List.mem_of_getElem? (i := 84) (by decide +kernel), by decide +kernel⟩
theorem k_RX1_9 : lkF RX1 9 1 0 := ⟨RX1, TX1, 2, rfl, by decide, Or.inl tw_60.1⟩
theorem ko_RX1_9 : lkFo RX1 9 1 0 := ⟨RX1, TX1, 2, rfl, by decide, tw_60.1⟩
theorem tw_61 : tw (Jvm.Cond.fieldLink "TallyWax$Smoothing" (18 : Nat) "TallyWax$Smoothing" "newLines" "LTallyWax$LineList;") := ⟨List.mem_of_getElem? (i := 85) (by decide +kernel), by decide +kernel⟩
theorem k_RX1_18 : lkF RX1 18 1 1 := ⟨RX1, TX1, 2, rfl, by decide, Or.inl tw_61.1⟩
theorem ko_RX1_18 : lkFo RX1 18 1 1 := ⟨RX1, TX1, 2, rfl, by decide, tw_61.1⟩
theorem tw_62 : tw (Jvm.Cond.fieldLinkNest "TallyWax" (115 : Nat) "TallyWax$Smoothing" "newLines" "LTallyWax$LineList;" "TallyWax") := ⟨List.mem_of_getElem? (i := 86) (by decide +kernel), by decide +kernel⟩
theorem k_RX3_115 : lkF RX3 115 1 1 := ⟨RX1, TX1, 2, rfl, by decide, Or.inr ⟨_, tw_62.1⟩⟩
theorem tw_68 : tw (Jvm.Cond.fieldLink "TallyWax" (9 : Nat) "TallyWax" "there" "[Z") := ⟨List.mem_of_getElem? (i := 92) (by decide +kernel), by decide +kernel⟩
theorem k_RX3_9 : lkF RX3 9 3 0 := ⟨RX3, TX3, 9, rfl, by decide, Or.inl tw_68.1⟩
theorem ko_RX3_9 : lkFo RX3 9 3 0 := ⟨RX3, TX3, 9, rfl, by decide, tw_68.1⟩
theorem tw_69 : tw (Jvm.Cond.fieldLink "TallyWax" (15 : Nat) "TallyWax" "shelf" "[LTallyWax$Tablet;") := ⟨List.mem_of_getElem? (i := 93) (by decide +kernel), by decide +kernel⟩
theorem k_RX3_15 : lkF RX3 15 3 1 := ⟨RX3, TX3, 9, rfl, by decide, Or.inl tw_69.1⟩
theorem ko_RX3_15 : lkFo RX3 15 3 1 := ⟨RX3, TX3, 9, rfl, by decide, tw_69.1⟩
theorem tw_70 : tw (Jvm.Cond.fieldLink "TallyWax" (19 : Nat) "TallyWax" "heats" "[I") := ⟨List.mem_of_getElem? (i := 94) (by decide +kernel), by decide +kernel⟩
theorem k_RX3_19 : lkF RX3 19 3 2 := ⟨RX3, TX3, 9, rfl, by decide, Or.inl tw_70.1⟩
theorem ko_RX3_19 : lkFo RX3 19 3 2 := ⟨RX3, TX3, 9, rfl, by decide, tw_70.1⟩
theorem tw_71 : tw (Jvm.Cond.fieldLink "TallyWax" (26 : Nat) "TallyWax" "smoothing" "LTallyWax$Smoothing;") := ⟨List.mem_of_getElem? (i := 95) (by decide +kernel), by decide +kernel⟩
theorem k_RX3_26 : lkF RX3 26 3 3 := ⟨RX3, TX3, 9, rfl, by decide, Or.inl tw_71.1⟩
theorem ko_RX3_26 : lkFo RX3 26 3 3 := ⟨RX3, TX3, 9, rfl, by decide, tw_71.1⟩
theorem tw_72 : tw (Jvm.Cond.fieldLink "TallyWax" (30 : Nat) "TallyWax" "reached" "[I") := ⟨List.mem_of_getElem? (i := 96) (by decide +kernel), by decide +kernel⟩
theorem k_RX3_30 : lkF RX3 30 3 4 := ⟨RX3, TX3, 9, rfl, by decide, Or.inl tw_72.1⟩
theorem ko_RX3_30 : lkFo RX3 30 3 4 := ⟨RX3, TX3, 9, rfl, by decide, tw_72.1⟩
theorem tw_73 : tw (Jvm.Cond.fieldLink "TallyWax" (40 : Nat) "TallyWax" "tabletCount" "I") := ⟨List.mem_of_getElem? (i := 97) (by decide +kernel), by decide +kernel⟩
theorem k_RX3_40 : lkF RX3 40 3 5 := ⟨RX3, TX3, 9, rfl, by decide, Or.inl tw_73.1⟩
theorem tw_74 : tw (Jvm.Cond.fieldLink "TallyWax" (143 : Nat) "TallyWax" "yearNow" "I") := ⟨List.mem_of_getElem? (i := 98) (by decide +kernel), by decide +kernel⟩
theorem k_RX3_143 : lkF RX3 143 3 6 := ⟨RX3, TX3, 9, rfl, by decide, Or.inl tw_74.1⟩
theorem tw_75 : tw (Jvm.Cond.fieldLink "TallyWax" (140 : Nat) "TallyWax" "meltedLines" "I") := ⟨List.mem_of_getElem? (i := 99) (by decide +kernel), by decide +kernel⟩
theorem k_RX3_140 : lkF RX3 140 3 7 := ⟨RX3, TX3, 9, rfl, by decide, Or.inl tw_75.1⟩
theorem tw_76 : tw (Jvm.Cond.fieldLink "TallyWax" (106 : Nat) "TallyWax" "deniedAmount" "I") := ⟨List.mem_of_getElem? (i := 100) (by decide +kernel), by decide +kernel⟩
theorem k_RX3_106 : lkF RX3 106 3 8 := ⟨RX3, TX3, 9, rfl, by decide, Or.inl tw_76.1⟩
theorem tw_98 : tw (Jvm.Cond.selects "TallyWax" ({ cls := "TallyWax", name := "pass", desc := "(I)I" } : Jvm.MethodName) ({ cls := "TallyWax", name := "pass", desc := "(I)I" } : Jvm.MethodName)) := ⟨List.mem_of_getElem? (i := 122) (by decide +kernel), by decide +kernel⟩
theorem tw_96 : tw (Jvm.Cond.methodLink "TallyWaxLaw" (79 : Nat) ({ cls := "TallyWax", name := "pass", desc := "(I)I" } : Jvm.MethodName)) := ⟨List.mem_of_getElem? (i := 120) (by decide +kernel), by decide +kernel⟩
theorem tw_97 : tw (Jvm.Cond.instanceMethod ({ cls := "TallyWax", name := "pass", desc := "(I)I" } : Jvm.MethodName)) := ⟨List.mem_of_getElem? (i := 121) (by decide +kernel), by decide +kernel⟩
theorem gw_99 : ((Jvm.Cond.code ({ cls := "TallyWax", name := "pass", desc := "(I)I" } : Jvm.MethodName) prog_1_method_10_code (4 : Nat) (Option.some Jvm.ClassFile.FieldType.int)) : Cond) ∈ lw_tbl ∧ goodWord (Jvm.Cond.code ({ cls := "TallyWax", name := "pass", desc := "(I)I" } : Jvm.MethodName) prog_1_method_10_code (4 : Nat) (Option.some Jvm.ClassFile.FieldType.int)) = true := ⟨List.mem_of_getElem? (i := 123) (by decide +kernel), by decide +kernel⟩
theorem k_RL_79 : lkV RL 79 yX3_pass cX3_pass 4 (Option.some FieldType.int) 1 := ⟨tw_96, tw_97, tw_98, tw_1, gw_99, ⟨⟨by decide +kernel, by decide +kernel⟩, by decide +kernel⟩⟩
theorem tw_100 : tw (Jvm.Cond.methodLink "TallyWax" (133 : Nat) ({ cls := "TallyWax", name := "checkYears", desc := "(I)V" } : Jvm.MethodName)) := ⟨List.mem_of_getElem? (i := 124) (by decide +kernel), by decide +kernel⟩
theorem tw_101 : tw (Jvm.Cond.static ({ cls := "TallyWax", name := "checkYears", desc := "(I)V" } : Jvm.MethodName)) := ⟨List.mem_of_getElem? (i := 125) (by decide +kernel), by decide +kernel⟩
theorem gw_102 : ((Jvm.Cond.code ({ cls := "TallyWax", name := "checkYears", desc := "(I)V" } : Jvm.MethodName) prog_1_method_41_code (1 : Nat) (Option.none : Option Jvm.ClassFile.FieldType)) : Cond) ∈ lw_tbl ∧ goodWord (Jvm.Cond.code ({ cls := "TallyWax", name := "checkYears", desc := "(I)V" } : Jvm.MethodName) prog_1_method_41_code (1 : Nat) (Option.none : Option Jvm.ClassFile.FieldType)) = true := ⟨List.mem_of_getElem? (i := 126) (by decide +kernel), by decide +kernel⟩
theorem k_RX3_133 : lkS RX3 133 yX3_checkYears cX3_checkYears 1 (Option.none : Option FieldType) 1 := ⟨tw_100, tw_101, tw_1, gw_102, ⟨⟨by decide +kernel, by decide +kernel⟩, by decide +kernel⟩⟩
theorem tw_103 : tw (Jvm.Cond.classLink "TallyWax" (33 : Nat) "java/lang/IllegalArgumentException") := ⟨List.mem_of_getElem? (i := 127) (by decide +kernel), by decide +kernel⟩
theorem sw_144 : ((Jvm.Cond.stringRef "TallyWax" (231 : Nat) "years is not 1 to 40") : Cond) ∈ lw_tbl := List.mem_of_getElem? (i := 168) (by decide +kernel)
theorem tw_145 : tw (Jvm.Cond.methodLink "TallyWax" (37 : Nat) ({ cls := "java/lang/IllegalArgumentException", name := "<init>", desc := "(Ljava/lang/String;)V" } : Jvm.MethodName)) := ⟨List.mem_of_getElem? (i := 169) (by decide +kernel), by decide +kernel⟩
theorem twp_1 : tw (.selects "TallyWax" ({ cls := "TallyWax", name := "passOneYear", desc := "()I" } : Jvm.MethodName) ({ cls := "TallyWax", name := "passOneYear", desc := "()I" } : Jvm.MethodName)) := ⟨List.mem_of_getElem? (i := 1) (by decide +kernel), by decide +kernel⟩
theorem tw_171 : tw (Jvm.Cond.methodLink "TallyWax" (136 : Nat) ({ cls := "TallyWax", name := "passOneYear", desc := "()I" } : Jvm.MethodName)) := ⟨List.mem_of_getElem? (i := 195) (by decide +kernel), by decide +kernel⟩
theorem tw_173 : tw (Jvm.Cond.instanceMethod ({ cls := "TallyWax", name := "passOneYear", desc := "()I" } : Jvm.MethodName)) := ⟨List.mem_of_getElem? (i := 197) (by decide +kernel), by decide +kernel⟩
theorem gw_174 : ((Jvm.Cond.code ({ cls := "TallyWax", name := "passOneYear", desc := "()I" } : Jvm.MethodName) prog_1_method_43_code (7 : Nat) (Option.some Jvm.ClassFile.FieldType.int)) : Cond) ∈ lw_tbl ∧ goodWord (Jvm.Cond.code ({ cls := "TallyWax", name := "passOneYear", desc := "()I" } : Jvm.MethodName) prog_1_method_43_code (7 : Nat) (Option.some Jvm.ClassFile.FieldType.int)) = true := ⟨List.mem_of_getElem? (i := 198) (by decide +kernel), by decide +kernel⟩
theorem k_RX3_136 : lkV RX3 136 yX3_passOneYear cX3_passOneYear 7 (Option.some FieldType.int) 0 := ⟨tw_171, tw_173, twp_1, tw_1, gw_174, ⟨⟨by decide +kernel, by decide +kernel⟩, by decide +kernel⟩⟩
theorem twp_2 : tw (.selects "TallyWax" ({ cls := "TallyWax", name := "heatAfter", desc := "(I)I" } : Jvm.MethodName) ({ cls := "TallyWax", name := "heatAfter", desc := "(I)I" } : Jvm.MethodName)) := ⟨List.mem_of_getElem? (i := 2) (by decide +kernel), by decide +kernel⟩
theorem tw_175 : tw (Jvm.Cond.methodLink "TallyWax" (233 : Nat) ({ cls := "TallyWax", name := "heatAfter", desc := "(I)I" } : Jvm.MethodName)) := ⟨List.mem_of_getElem? (i := 199) (by decide +kernel), by decide +kernel⟩
theorem tw_177 : tw (Jvm.Cond.instanceMethod ({ cls := "TallyWax", name := "heatAfter", desc := "(I)I" } : Jvm.MethodName)) := ⟨List.mem_of_getElem? (i := 201) (by decide +kernel), by decide +kernel⟩
theorem gw_178 : ((Jvm.Cond.code ({ cls := "TallyWax", name := "heatAfter", desc := "(I)I" } : Jvm.MethodName) prog_1_method_44_code (2 : Nat) (Option.some Jvm.ClassFile.FieldType.int)) : Cond) ∈ lw_tbl ∧ goodWord (Jvm.Cond.code ({ cls := "TallyWax", name := "heatAfter", desc := "(I)I" } : Jvm.MethodName) prog_1_method_44_code (2 : Nat) (Option.some Jvm.ClassFile.FieldType.int)) = true := ⟨List.mem_of_getElem? (i := 202) (by decide +kernel), by decide +kernel⟩
theorem k_RX3_233 : lkV RX3 233 yX3_heatAfter cX3_heatAfter 2 (Option.some FieldType.int) 1 := ⟨tw_175, tw_177, twp_2, tw_1, gw_178, ⟨⟨by decide +kernel, by decide +kernel⟩, by decide +kernel⟩⟩
theorem tw_11 : tw (Jvm.Cond.initialized "java/lang/Math") := ⟨List.mem_of_getElem? (i := 35) (by decide +kernel), by decide +kernel⟩
theorem tw_179 : tw (Jvm.Cond.methodLink "TallyWax" (239 : Nat) ({ cls := "java/lang/Math", name := "floorMod", desc := "(II)I" } : Jvm.MethodName)) := ⟨List.mem_of_getElem? (i := 203) (by decide +kernel), by decide +kernel⟩
theorem tw_180 : tw (Jvm.Cond.static ({ cls := "java/lang/Math", name := "floorMod", desc := "(II)I" } : Jvm.MethodName)) := ⟨List.mem_of_getElem? (i := 204) (by decide +kernel), by decide +kernel⟩
theorem gw_181 : ((Jvm.Cond.code ({ cls := "java/lang/Math", name := "floorMod", desc := "(II)I" } : Jvm.MethodName) prog_13_method_50_code (3 : Nat) (Option.some Jvm.ClassFile.FieldType.int)) : Cond) ∈ lw_tbl ∧ goodWord (Jvm.Cond.code ({ cls := "java/lang/Math", name := "floorMod", desc := "(II)I" } : Jvm.MethodName) prog_13_method_50_code (3 : Nat) (Option.some Jvm.ClassFile.FieldType.int)) = true := ⟨List.mem_of_getElem? (i := 205) (by decide +kernel), by decide +kernel⟩
theorem k_RX3_239 : lkS RX3 239 yJ9_floorMod_7cf53 cJ9_floorMod_7cf53 3 (Option.some FieldType.int) 2 := ⟨tw_179, tw_180, tw_11, gw_181, ⟨⟨by decide +kernel, by decide +kernel⟩, by decide +kernel⟩⟩
theorem twp_3 : tw (.selects "TallyWax$Tablet" ({ cls := "TallyWax$Tablet", name := "meltsAt", desc := "(I)Z" } : Jvm.MethodName) ({ cls := "TallyWax$Tablet", name := "meltsAt", desc := "(I)Z" } : Jvm.MethodName)) := ⟨List.mem_of_getElem? (i := 3) (by decide +kernel), by decide +kernel⟩
theorem tw_182 : tw (Jvm.Cond.methodLinkNest "TallyWax" (236 : Nat) ({ cls := "TallyWax$Tablet", name := "meltsAt", desc := "(I)Z" } : Jvm.MethodName) "TallyWax") := ⟨List.mem_of_getElem? (i := 206) (by decide +kernel), by decide +kernel⟩
theorem tw_184 : tw (Jvm.Cond.instanceMethod ({ cls := "TallyWax$Tablet", name := "meltsAt", desc := "(I)Z" } : Jvm.MethodName)) := ⟨List.mem_of_getElem? (i := 208) (by decide +kernel), by decide +kernel⟩
theorem gw_186 : ((Jvm.Cond.code ({ cls := "TallyWax$Tablet", name := "meltsAt", desc := "(I)Z" } : Jvm.MethodName) prog_4_method_2_code (2 : Nat) (Option.some Jvm.ClassFile.FieldType.boolean)) : Cond) ∈ lw_tbl ∧ goodWord (Jvm.Cond.code ({ cls := "TallyWax$Tablet", name := "meltsAt", desc := "(I)Z" } : Jvm.MethodName) prog_4_method_2_code (2 : Nat) (Option.some Jvm.ClassFile.FieldType.boolean)) = true := ⟨List.mem_of_getElem? (i := 210) (by decide +kernel), by decide +kernel⟩
theorem k_RX3_236 : lkVN RX3 236 yX2_meltsAt cX2_meltsAt 2 (Option.some FieldType.boolean) 1 := ⟨⟨_, tw_182⟩, tw_184, twp_3, tw_10, gw_186, ⟨⟨by decide +kernel, by decide +kernel⟩, by decide +kernel⟩⟩
theorem tw_189 : tw (Jvm.Cond.selects "TallyWax" ({ cls := "TallyWax", name := "year", desc := "()I" } : Jvm.MethodName) ({ cls := "TallyWax", name := "year", desc := "()I" } : Jvm.MethodName)) := ⟨List.mem_of_getElem? (i := 213) (by decide +kernel), by decide +kernel⟩
theorem tw_187 : tw (Jvm.Cond.methodLink "TallyWaxLaw" (164 : Nat) ({ cls := "TallyWax", name := "year", desc := "()I" } : Jvm.MethodName)) := ⟨List.mem_of_getElem? (i := 211) (by decide +kernel), by decide +kernel⟩
theorem tw_188 : tw (Jvm.Cond.instanceMethod ({ cls := "TallyWax", name := "year", desc := "()I" } : Jvm.MethodName)) := ⟨List.mem_of_getElem? (i := 212) (by decide +kernel), by decide +kernel⟩
theorem gw_190 : ((Jvm.Cond.code ({ cls := "TallyWax", name := "year", desc := "()I" } : Jvm.MethodName) prog_1_method_11_code (1 : Nat) (Option.some Jvm.ClassFile.FieldType.int)) : Cond) ∈ lw_tbl ∧ goodWord (Jvm.Cond.code ({ cls := "TallyWax", name := "year", desc := "()I" } : Jvm.MethodName) prog_1_method_11_code (1 : Nat) (Option.some Jvm.ClassFile.FieldType.int)) = true := ⟨List.mem_of_getElem? (i := 214) (by decide +kernel), by decide +kernel⟩
theorem k_RL_164 : lkV RL 164 yX3_year cX3_year 1 (Option.some FieldType.int) 0 := ⟨tw_187, tw_188, tw_189, tw_1, gw_190, ⟨⟨by decide +kernel, by decide +kernel⟩, by decide +kernel⟩⟩
theorem tw_193 : tw (Jvm.Cond.selects "TallyWax" ({ cls := "TallyWax", name := "tablets", desc := "()I" } : Jvm.MethodName) ({ cls := "TallyWax", name := "tablets", desc := "()I" } : Jvm.MethodName)) := ⟨List.mem_of_getElem? (i := 217) (by decide +kernel), by decide +kernel⟩
theorem tw_191 : tw (Jvm.Cond.methodLink "TallyWaxLaw" (101 : Nat) ({ cls := "TallyWax", name := "tablets", desc := "()I" } : Jvm.MethodName)) := ⟨List.mem_of_getElem? (i := 215) (by decide +kernel), by decide +kernel⟩
theorem tw_192 : tw (Jvm.Cond.instanceMethod ({ cls := "TallyWax", name := "tablets", desc := "()I" } : Jvm.MethodName)) := ⟨List.mem_of_getElem? (i := 216) (by decide +kernel), by decide +kernel⟩
theorem gw_194 : ((Jvm.Cond.code ({ cls := "TallyWax", name := "tablets", desc := "()I" } : Jvm.MethodName) prog_1_method_12_code (1 : Nat) (Option.some Jvm.ClassFile.FieldType.int)) : Cond) ∈ lw_tbl ∧ goodWord (Jvm.Cond.code ({ cls := "TallyWax", name := "tablets", desc := "()I" } : Jvm.MethodName) prog_1_method_12_code (1 : Nat) (Option.some Jvm.ClassFile.FieldType.int)) = true := ⟨List.mem_of_getElem? (i := 218) (by decide +kernel), by decide +kernel⟩
theorem k_RL_101 : lkV RL 101 yX3_tablets cX3_tablets 1 (Option.some FieldType.int) 0 := ⟨tw_191, tw_192, tw_193, tw_1, gw_194, ⟨⟨by decide +kernel, by decide +kernel⟩, by decide +kernel⟩⟩
theorem tw_197 : tw (Jvm.Cond.selects "TallyWax" ({ cls := "TallyWax", name := "lines", desc := "()I" } : Jvm.MethodName) ({ cls := "TallyWax", name := "lines", desc := "()I" } : Jvm.MethodName)) := ⟨List.mem_of_getElem? (i := 221) (by decide +kernel), by decide +kernel⟩
theorem tw_195 : tw (Jvm.Cond.methodLink "TallyWaxLaw" (151 : Nat) ({ cls := "TallyWax", name := "lines", desc := "()I" } : Jvm.MethodName)) := ⟨List.mem_of_getElem? (i := 219) (by decide +kernel), by decide +kernel⟩
theorem tw_196 : tw (Jvm.Cond.instanceMethod ({ cls := "TallyWax", name := "lines", desc := "()I" } : Jvm.MethodName)) := ⟨List.mem_of_getElem? (i := 220) (by decide +kernel), by decide +kernel⟩
theorem gw_198 : ((Jvm.Cond.code ({ cls := "TallyWax", name := "lines", desc := "()I" } : Jvm.MethodName) prog_1_method_13_code (6 : Nat) (Option.some Jvm.ClassFile.FieldType.int)) : Cond) ∈ lw_tbl ∧ goodWord (Jvm.Cond.code ({ cls := "TallyWax", name := "lines", desc := "()I" } : Jvm.MethodName) prog_1_method_13_code (6 : Nat) (Option.some Jvm.ClassFile.FieldType.int)) = true := ⟨List.mem_of_getElem? (i := 222) (by decide +kernel), by decide +kernel⟩
theorem k_RL_151 : lkV RL 151 yX3_lines cX3_lines 6 (Option.some FieldType.int) 0 := ⟨tw_195, tw_196, tw_197, tw_1, gw_198, ⟨⟨by decide +kernel, by decide +kernel⟩, by decide +kernel⟩⟩
theorem tw_201 : tw (Jvm.Cond.selects "TallyWax" ({ cls := "TallyWax", name := "melted", desc := "()I" } : Jvm.MethodName) ({ cls := "TallyWax", name := "melted", desc := "()I" } : Jvm.MethodName)) := ⟨List.mem_of_getElem? (i := 225) (by decide +kernel), by decide +kernel⟩
theorem tw_199 : tw (Jvm.Cond.methodLink "TallyWaxLaw" (167 : Nat) ({ cls := "TallyWax", name := "melted", desc := "()I" } : Jvm.MethodName)) := ⟨List.mem_of_getElem? (i := 223) (by decide +kernel), by decide +kernel⟩
theorem tw_200 : tw (Jvm.Cond.instanceMethod ({ cls := "TallyWax", name := "melted", desc := "()I" } : Jvm.MethodName)) := ⟨List.mem_of_getElem? (i := 224) (by decide +kernel), by decide +kernel⟩
theorem gw_202 : ((Jvm.Cond.code ({ cls := "TallyWax", name := "melted", desc := "()I" } : Jvm.MethodName) prog_1_method_14_code (1 : Nat) (Option.some Jvm.ClassFile.FieldType.int)) : Cond) ∈ lw_tbl ∧ goodWord (Jvm.Cond.code ({ cls := "TallyWax", name := "melted", desc := "()I" } : Jvm.MethodName) prog_1_method_14_code (1 : Nat) (Option.some Jvm.ClassFile.FieldType.int)) = true := ⟨List.mem_of_getElem? (i := 226) (by decide +kernel), by decide +kernel⟩
theorem k_RL_167 : lkV RL 167 yX3_melted cX3_melted 1 (Option.some FieldType.int) 0 := ⟨tw_199, tw_200, tw_201, tw_1, gw_202, ⟨⟨by decide +kernel, by decide +kernel⟩, by decide +kernel⟩⟩
theorem tw_205 : tw (Jvm.Cond.selects "TallyWax" ({ cls := "TallyWax", name := "denied", desc := "()I" } : Jvm.MethodName) ({ cls := "TallyWax", name := "denied", desc := "()I" } : Jvm.MethodName)) := ⟨List.mem_of_getElem? (i := 229) (by decide +kernel), by decide +kernel⟩
theorem tw_203 : tw (Jvm.Cond.methodLink "TallyWaxLaw" (173 : Nat) ({ cls := "TallyWax", name := "denied", desc := "()I" } : Jvm.MethodName)) := ⟨List.mem_of_getElem? (i := 227) (by decide +kernel), by decide +kernel⟩
theorem tw_204 : tw (Jvm.Cond.instanceMethod ({ cls := "TallyWax", name := "denied", desc := "()I" } : Jvm.MethodName)) := ⟨List.mem_of_getElem? (i := 228) (by decide +kernel), by decide +kernel⟩
theorem gw_206 : ((Jvm.Cond.code ({ cls := "TallyWax", name := "denied", desc := "()I" } : Jvm.MethodName) prog_1_method_15_code (1 : Nat) (Option.some Jvm.ClassFile.FieldType.int)) : Cond) ∈ lw_tbl ∧ goodWord (Jvm.Cond.code ({ cls := "TallyWax", name := "denied", desc := "()I" } : Jvm.MethodName) prog_1_method_15_code (1 : Nat) (Option.some Jvm.ClassFile.FieldType.int)) = true := ⟨List.mem_of_getElem? (i := 230) (by decide +kernel), by decide +kernel⟩
theorem k_RL_173 : lkV RL 173 yX3_denied cX3_denied 1 (Option.some FieldType.int) 0 := ⟨tw_203, tw_204, tw_205, tw_1, gw_206, ⟨⟨by decide +kernel, by decide +kernel⟩, by decide +kernel⟩⟩
theorem tw_209 : tw (Jvm.Cond.selects "TallyWax" ({ cls := "TallyWax", name := "isThere", desc := "(I)Z" } : Jvm.MethodName) ({ cls := "TallyWax", name := "isThere", desc := "(I)Z" } : Jvm.MethodName)) := ⟨List.mem_of_getElem? (i := 233) (by decide +kernel), by decide +kernel⟩
theorem tw_207 : tw (Jvm.Cond.methodLink "TallyWaxLaw" (148 : Nat) ({ cls := "TallyWax", name := "isThere", desc := "(I)Z" } : Jvm.MethodName)) := ⟨List.mem_of_getElem? (i := 231) (by decide +kernel), by decide +kernel⟩
theorem tw_208 : tw (Jvm.Cond.instanceMethod ({ cls := "TallyWax", name := "isThere", desc := "(I)Z" } : Jvm.MethodName)) := ⟨List.mem_of_getElem? (i := 232) (by decide +kernel), by decide +kernel⟩
theorem gw_210 : ((Jvm.Cond.code ({ cls := "TallyWax", name := "isThere", desc := "(I)Z" } : Jvm.MethodName) prog_1_method_16_code (2 : Nat) (Option.some Jvm.ClassFile.FieldType.boolean)) : Cond) ∈ lw_tbl ∧ goodWord (Jvm.Cond.code ({ cls := "TallyWax", name := "isThere", desc := "(I)Z" } : Jvm.MethodName) prog_1_method_16_code (2 : Nat) (Option.some Jvm.ClassFile.FieldType.boolean)) = true := ⟨List.mem_of_getElem? (i := 234) (by decide +kernel), by decide +kernel⟩
theorem k_RL_148 : lkV RL 148 yX3_isThere cX3_isThere 2 (Option.some FieldType.boolean) 1 := ⟨tw_207, tw_208, tw_209, tw_1, gw_210, ⟨⟨by decide +kernel, by decide +kernel⟩, by decide +kernel⟩⟩
theorem tw_211 : tw (Jvm.Cond.methodLink "TallyWax" (60 : Nat) ({ cls := "TallyWax", name := "checkPerson", desc := "(I)V" } : Jvm.MethodName)) := ⟨List.mem_of_getElem? (i := 235) (by decide +kernel), by decide +kernel⟩
theorem tw_212 : tw (Jvm.Cond.static ({ cls := "TallyWax", name := "checkPerson", desc := "(I)V" } : Jvm.MethodName)) := ⟨List.mem_of_getElem? (i := 236) (by decide +kernel), by decide +kernel⟩
theorem gw_213 : ((Jvm.Cond.code ({ cls := "TallyWax", name := "checkPerson", desc := "(I)V" } : Jvm.MethodName) prog_1_method_40_code (1 : Nat) (Option.none : Option Jvm.ClassFile.FieldType)) : Cond) ∈ lw_tbl ∧ goodWord (Jvm.Cond.code ({ cls := "TallyWax", name := "checkPerson", desc := "(I)V" } : Jvm.MethodName) prog_1_method_40_code (1 : Nat) (Option.none : Option Jvm.ClassFile.FieldType)) = true := ⟨List.mem_of_getElem? (i := 237) (by decide +kernel), by decide +kernel⟩
theorem k_RX3_60 : lkS RX3 60 yX3_checkPerson cX3_checkPerson 1 (Option.none : Option FieldType) 1 := ⟨tw_211, tw_212, tw_1, gw_213, ⟨⟨by decide +kernel, by decide +kernel⟩, by decide +kernel⟩⟩
theorem tw_214 : tw (Jvm.Cond.methodLink "TallyWax" (226 : Nat) ({ cls := "TallyWax", name := "isPerson", desc := "(I)Z" } : Jvm.MethodName)) := ⟨List.mem_of_getElem? (i := 238) (by decide +kernel), by decide +kernel⟩
theorem tw_215 : tw (Jvm.Cond.static ({ cls := "TallyWax", name := "isPerson", desc := "(I)Z" } : Jvm.MethodName)) := ⟨List.mem_of_getElem? (i := 239) (by decide +kernel), by decide +kernel⟩
theorem gw_216 : ((Jvm.Cond.code ({ cls := "TallyWax", name := "isPerson", desc := "(I)Z" } : Jvm.MethodName) prog_1_method_39_code (1 : Nat) (Option.some Jvm.ClassFile.FieldType.boolean)) : Cond) ∈ lw_tbl ∧ goodWord (Jvm.Cond.code ({ cls := "TallyWax", name := "isPerson", desc := "(I)Z" } : Jvm.MethodName) prog_1_method_39_code (1 : Nat) (Option.some Jvm.ClassFile.FieldType.boolean)) = true := ⟨List.mem_of_getElem? (i := 240) (by decide +kernel), by decide +kernel⟩
theorem k_RX3_226 : lkS RX3 226 yX3_isPerson cX3_isPerson 1 (Option.some FieldType.boolean) 1 := ⟨tw_214, tw_215, tw_1, gw_216, ⟨⟨by decide +kernel, by decide +kernel⟩, by decide +kernel⟩⟩
theorem tw_217 : tw (Jvm.Cond.classLink "TallyWax" (126 : Nat) "java/lang/IndexOutOfBoundsException") := ⟨List.mem_of_getElem? (i := 241) (by decide +kernel), by decide +kernel⟩
theorem sw_226 : ((Jvm.Cond.stringRef "TallyWax" (229 : Nat) "a person is not 0 to 7") : Cond) ∈ lw_tbl := List.mem_of_getElem? (i := 250) (by decide +kernel)
theorem tw_227 : tw (Jvm.Cond.methodLink "TallyWax" (130 : Nat) ({ cls := "java/lang/IndexOutOfBoundsException", name := "<init>", desc := "(Ljava/lang/String;)V" } : Jvm.MethodName)) := ⟨List.mem_of_getElem? (i := 251) (by decide +kernel), by decide +kernel⟩
theorem tw_235 : tw (Jvm.Cond.selects "TallyWax" ({ cls := "TallyWax", name := "linesOf", desc := "(I)I" } : Jvm.MethodName) ({ cls := "TallyWax", name := "linesOf", desc := "(I)I" } : Jvm.MethodName)) := ⟨List.mem_of_getElem? (i := 259) (by decide +kernel), by decide +kernel⟩
theorem tw_233 : tw (Jvm.Cond.methodLink "TallyWaxLaw" (105 : Nat) ({ cls := "TallyWax", name := "linesOf", desc := "(I)I" } : Jvm.MethodName)) := ⟨List.mem_of_getElem? (i := 257) (by decide +kernel), by decide +kernel⟩
theorem tw_234 : tw (Jvm.Cond.instanceMethod ({ cls := "TallyWax", name := "linesOf", desc := "(I)I" } : Jvm.MethodName)) := ⟨List.mem_of_getElem? (i := 258) (by decide +kernel), by decide +kernel⟩
theorem gw_236 : ((Jvm.Cond.code ({ cls := "TallyWax", name := "linesOf", desc := "(I)I" } : Jvm.MethodName) prog_1_method_17_code (2 : Nat) (Option.some Jvm.ClassFile.FieldType.int)) : Cond) ∈ lw_tbl ∧ goodWord (Jvm.Cond.code ({ cls := "TallyWax", name := "linesOf", desc := "(I)I" } : Jvm.MethodName) prog_1_method_17_code (2 : Nat) (Option.some Jvm.ClassFile.FieldType.int)) = true := ⟨List.mem_of_getElem? (i := 260) (by decide +kernel), by decide +kernel⟩
theorem k_RL_105 : lkV RL 105 yX3_linesOf cX3_linesOf 2 (Option.some FieldType.int) 1 := ⟨tw_233, tw_234, tw_235, tw_1, gw_236, ⟨⟨by decide +kernel, by decide +kernel⟩, by decide +kernel⟩⟩
theorem twp_4 : tw (.selects "TallyWax" ({ cls := "TallyWax", name := "tabletAt", desc := "(I)LTallyWax$Tablet;" } : Jvm.MethodName) ({ cls := "TallyWax", name := "tabletAt", desc := "(I)LTallyWax$Tablet;" } : Jvm.MethodName)) := ⟨List.mem_of_getElem? (i := 4) (by decide +kernel), by decide +kernel⟩
theorem tw_237 : tw (Jvm.Cond.methodLink "TallyWax" (52 : Nat) ({ cls := "TallyWax", name := "tabletAt", desc := "(I)LTallyWax$Tablet;" } : Jvm.MethodName)) := ⟨List.mem_of_getElem? (i := 261) (by decide +kernel), by decide +kernel⟩
theorem tw_239 : tw (Jvm.Cond.instanceMethod ({ cls := "TallyWax", name := "tabletAt", desc := "(I)LTallyWax$Tablet;" } : Jvm.MethodName)) := ⟨List.mem_of_getElem? (i := 263) (by decide +kernel), by decide +kernel⟩
theorem gw_240 : ((Jvm.Cond.code ({ cls := "TallyWax", name := "tabletAt", desc := "(I)LTallyWax$Tablet;" } : Jvm.MethodName) prog_1_method_37_code (3 : Nat) (Option.some (Jvm.ClassFile.FieldType.object "TallyWax$Tablet"))) : Cond) ∈ lw_tbl ∧ goodWord (Jvm.Cond.code ({ cls := "TallyWax", name := "tabletAt", desc := "(I)LTallyWax$Tablet;" } : Jvm.MethodName) prog_1_method_37_code (3 : Nat) (Option.some (Jvm.ClassFile.FieldType.object "TallyWax$Tablet"))) = true := ⟨List.mem_of_getElem? (i := 264) (by decide +kernel), by decide +kernel⟩
theorem k_RX3_52 : lkV RX3 52 yX3_tabletAt cX3_tabletAt 3 (Option.some (FieldType.object "TallyWax$Tablet")) 1 := ⟨tw_237, tw_239, twp_4, tw_1, gw_240, ⟨⟨by decide +kernel, by decide +kernel⟩, by decide +kernel⟩⟩
theorem sw_241 : ((Jvm.Cond.stringRef "TallyWax" (222 : Nat) "there is no such tablet") : Cond) ∈ lw_tbl := List.mem_of_getElem? (i := 265) (by decide +kernel)
theorem tw_244 : tw (Jvm.Cond.selects "TallyWax" ({ cls := "TallyWax", name := "isInCellar", desc := "(I)Z" } : Jvm.MethodName) ({ cls := "TallyWax", name := "isInCellar", desc := "(I)Z" } : Jvm.MethodName)) := ⟨List.mem_of_getElem? (i := 268) (by decide +kernel), by decide +kernel⟩
theorem tw_242 : tw (Jvm.Cond.methodLink "TallyWaxLaw" (117 : Nat) ({ cls := "TallyWax", name := "isInCellar", desc := "(I)Z" } : Jvm.MethodName)) := ⟨List.mem_of_getElem? (i := 266) (by decide +kernel), by decide +kernel⟩
theorem tw_243 : tw (Jvm.Cond.instanceMethod ({ cls := "TallyWax", name := "isInCellar", desc := "(I)Z" } : Jvm.MethodName)) := ⟨List.mem_of_getElem? (i := 267) (by decide +kernel), by decide +kernel⟩
theorem gw_245 : ((Jvm.Cond.code ({ cls := "TallyWax", name := "isInCellar", desc := "(I)Z" } : Jvm.MethodName) prog_1_method_18_code (2 : Nat) (Option.some Jvm.ClassFile.FieldType.boolean)) : Cond) ∈ lw_tbl ∧ goodWord (Jvm.Cond.code ({ cls := "TallyWax", name := "isInCellar", desc := "(I)Z" } : Jvm.MethodName) prog_1_method_18_code (2 : Nat) (Option.some Jvm.ClassFile.FieldType.boolean)) = true := ⟨List.mem_of_getElem? (i := 269) (by decide +kernel), by decide +kernel⟩
theorem k_RL_117 : lkV RL 117 yX3_isInCellar cX3_isInCellar 2 (Option.some FieldType.boolean) 1 := ⟨tw_242, tw_243, tw_244, tw_1, gw_245, ⟨⟨by decide +kernel, by decide +kernel⟩, by decide +kernel⟩⟩
theorem tw_248 : tw (Jvm.Cond.selects "TallyWax" ({ cls := "TallyWax", name := "debtorOf", desc := "(II)I" } : Jvm.MethodName) ({ cls := "TallyWax", name := "debtorOf", desc := "(II)I" } : Jvm.MethodName)) := ⟨List.mem_of_getElem? (i := 272) (by decide +kernel), by decide +kernel⟩
theorem tw_246 : tw (Jvm.Cond.methodLink "TallyWaxLaw" (120 : Nat) ({ cls := "TallyWax", name := "debtorOf", desc := "(II)I" } : Jvm.MethodName)) := ⟨List.mem_of_getElem? (i := 270) (by decide +kernel), by decide +kernel⟩
theorem tw_247 : tw (Jvm.Cond.instanceMethod ({ cls := "TallyWax", name := "debtorOf", desc := "(II)I" } : Jvm.MethodName)) := ⟨List.mem_of_getElem? (i := 271) (by decide +kernel), by decide +kernel⟩
theorem gw_249 : ((Jvm.Cond.code ({ cls := "TallyWax", name := "debtorOf", desc := "(II)I" } : Jvm.MethodName) prog_1_method_19_code (3 : Nat) (Option.some Jvm.ClassFile.FieldType.int)) : Cond) ∈ lw_tbl ∧ goodWord (Jvm.Cond.code ({ cls := "TallyWax", name := "debtorOf", desc := "(II)I" } : Jvm.MethodName) prog_1_method_19_code (3 : Nat) (Option.some Jvm.ClassFile.FieldType.int)) = true := ⟨List.mem_of_getElem? (i := 273) (by decide +kernel), by decide +kernel⟩
theorem k_RL_120 : lkV RL 120 yX3_debtorOf cX3_debtorOf 3 (Option.some FieldType.int) 2 := ⟨tw_246, tw_247, tw_248, tw_1, gw_249, ⟨⟨by decide +kernel, by decide +kernel⟩, by decide +kernel⟩⟩
theorem twp_5 : tw (.selects "TallyWax" ({ cls := "TallyWax", name := "linesWith", desc := "(II)LTallyWax$LineList;" } : Jvm.MethodName) ({ cls := "TallyWax", name := "linesWith", desc := "(II)LTallyWax$LineList;" } : Jvm.MethodName)) := ⟨List.mem_of_getElem? (i := 5) (by decide +kernel), by decide +kernel⟩
theorem tw_250 : tw (Jvm.Cond.methodLink "TallyWax" (84 : Nat) ({ cls := "TallyWax", name := "linesWith", desc := "(II)LTallyWax$LineList;" } : Jvm.MethodName)) := ⟨List.mem_of_getElem? (i := 274) (by decide +kernel), by decide +kernel⟩
theorem tw_252 : tw (Jvm.Cond.instanceMethod ({ cls := "TallyWax", name := "linesWith", desc := "(II)LTallyWax$LineList;" } : Jvm.MethodName)) := ⟨List.mem_of_getElem? (i := 276) (by decide +kernel), by decide +kernel⟩
theorem gw_253 : ((Jvm.Cond.code ({ cls := "TallyWax", name := "linesWith", desc := "(II)LTallyWax$LineList;" } : Jvm.MethodName) prog_1_method_38_code (4 : Nat) (Option.some (Jvm.ClassFile.FieldType.object "TallyWax$LineList"))) : Cond) ∈ lw_tbl ∧ goodWord (Jvm.Cond.code ({ cls := "TallyWax", name := "linesWith", desc := "(II)LTallyWax$LineList;" } : Jvm.MethodName) prog_1_method_38_code (4 : Nat) (Option.some (Jvm.ClassFile.FieldType.object "TallyWax$LineList"))) = true := ⟨List.mem_of_getElem? (i := 277) (by decide +kernel), by decide +kernel⟩
theorem k_RX3_84 : lkV RX3 84 yX3_linesWith cX3_linesWith 4 (Option.some (FieldType.object "TallyWax$LineList")) 2 := ⟨tw_250, tw_252, twp_5, tw_1, gw_253, ⟨⟨by decide +kernel, by decide +kernel⟩, by decide +kernel⟩⟩
theorem sw_254 : ((Jvm.Cond.stringRef "TallyWax" (224 : Nat) "the tablet has no such line") : Cond) ∈ lw_tbl := List.mem_of_getElem? (i := 278) (by decide +kernel)
theorem tw_257 : tw (Jvm.Cond.selects "TallyWax" ({ cls := "TallyWax", name := "creditorOf", desc := "(II)I" } : Jvm.MethodName) ({ cls := "TallyWax", name := "creditorOf", desc := "(II)I" } : Jvm.MethodName)) := ⟨List.mem_of_getElem? (i := 281) (by decide +kernel), by decide +kernel⟩
theorem tw_255 : tw (Jvm.Cond.methodLink "TallyWaxLaw" (123 : Nat) ({ cls := "TallyWax", name := "creditorOf", desc := "(II)I" } : Jvm.MethodName)) := ⟨List.mem_of_getElem? (i := 279) (by decide +kernel), by decide +kernel⟩
theorem tw_256 : tw (Jvm.Cond.instanceMethod ({ cls := "TallyWax", name := "creditorOf", desc := "(II)I" } : Jvm.MethodName)) := ⟨List.mem_of_getElem? (i := 280) (by decide +kernel), by decide +kernel⟩
theorem gw_258 : ((Jvm.Cond.code ({ cls := "TallyWax", name := "creditorOf", desc := "(II)I" } : Jvm.MethodName) prog_1_method_20_code (3 : Nat) (Option.some Jvm.ClassFile.FieldType.int)) : Cond) ∈ lw_tbl ∧ goodWord (Jvm.Cond.code ({ cls := "TallyWax", name := "creditorOf", desc := "(II)I" } : Jvm.MethodName) prog_1_method_20_code (3 : Nat) (Option.some Jvm.ClassFile.FieldType.int)) = true := ⟨List.mem_of_getElem? (i := 282) (by decide +kernel), by decide +kernel⟩
theorem k_RL_123 : lkV RL 123 yX3_creditorOf cX3_creditorOf 3 (Option.some FieldType.int) 2 := ⟨tw_255, tw_256, tw_257, tw_1, gw_258, ⟨⟨by decide +kernel, by decide +kernel⟩, by decide +kernel⟩⟩
theorem tw_261 : tw (Jvm.Cond.selects "TallyWax" ({ cls := "TallyWax", name := "amountOf", desc := "(II)I" } : Jvm.MethodName) ({ cls := "TallyWax", name := "amountOf", desc := "(II)I" } : Jvm.MethodName)) := ⟨List.mem_of_getElem? (i := 285) (by decide +kernel), by decide +kernel⟩
theorem tw_259 : tw (Jvm.Cond.methodLink "TallyWaxLaw" (126 : Nat) ({ cls := "TallyWax", name := "amountOf", desc := "(II)I" } : Jvm.MethodName)) := ⟨List.mem_of_getElem? (i := 283) (by decide +kernel), by decide +kernel⟩
theorem tw_260 : tw (Jvm.Cond.instanceMethod ({ cls := "TallyWax", name := "amountOf", desc := "(II)I" } : Jvm.MethodName)) := ⟨List.mem_of_getElem? (i := 284) (by decide +kernel), by decide +kernel⟩
theorem gw_262 : ((Jvm.Cond.code ({ cls := "TallyWax", name := "amountOf", desc := "(II)I" } : Jvm.MethodName) prog_1_method_21_code (3 : Nat) (Option.some Jvm.ClassFile.FieldType.int)) : Cond) ∈ lw_tbl ∧ goodWord (Jvm.Cond.code ({ cls := "TallyWax", name := "amountOf", desc := "(II)I" } : Jvm.MethodName) prog_1_method_21_code (3 : Nat) (Option.some Jvm.ClassFile.FieldType.int)) = true := ⟨List.mem_of_getElem? (i := 286) (by decide +kernel), by decide +kernel⟩
theorem k_RL_126 : lkV RL 126 yX3_amountOf cX3_amountOf 3 (Option.some FieldType.int) 2 := ⟨tw_259, tw_260, tw_261, tw_1, gw_262, ⟨⟨by decide +kernel, by decide +kernel⟩, by decide +kernel⟩⟩
theorem tw_265 : tw (Jvm.Cond.selects "TallyWax" ({ cls := "TallyWax", name := "isWitnessed", desc := "(II)Z" } : Jvm.MethodName) ({ cls := "TallyWax", name := "isWitnessed", desc := "(II)Z" } : Jvm.MethodName)) := ⟨List.mem_of_getElem? (i := 289) (by decide +kernel), by decide +kernel⟩
theorem tw_263 : tw (Jvm.Cond.methodLink "TallyWaxLaw" (129 : Nat) ({ cls := "TallyWax", name := "isWitnessed", desc := "(II)Z" } : Jvm.MethodName)) := ⟨List.mem_of_getElem? (i := 287) (by decide +kernel), by decide +kernel⟩
theorem tw_264 : tw (Jvm.Cond.instanceMethod ({ cls := "TallyWax", name := "isWitnessed", desc := "(II)Z" } : Jvm.MethodName)) := ⟨List.mem_of_getElem? (i := 288) (by decide +kernel), by decide +kernel⟩
theorem gw_266 : ((Jvm.Cond.code ({ cls := "TallyWax", name := "isWitnessed", desc := "(II)Z" } : Jvm.MethodName) prog_1_method_22_code (3 : Nat) (Option.some Jvm.ClassFile.FieldType.boolean)) : Cond) ∈ lw_tbl ∧ goodWord (Jvm.Cond.code ({ cls := "TallyWax", name := "isWitnessed", desc := "(II)Z" } : Jvm.MethodName) prog_1_method_22_code (3 : Nat) (Option.some Jvm.ClassFile.FieldType.boolean)) = true := ⟨List.mem_of_getElem? (i := 290) (by decide +kernel), by decide +kernel⟩
theorem k_RL_129 : lkV RL 129 yX3_isWitnessed cX3_isWitnessed 3 (Option.some FieldType.boolean) 2 := ⟨tw_263, tw_264, tw_265, tw_1, gw_266, ⟨⟨by decide +kernel, by decide +kernel⟩, by decide +kernel⟩⟩
theorem twp_6 : tw (.selects "TallyWax" ({ cls := "TallyWax", name := "isPresent", desc := "(I)Z" } : Jvm.MethodName) ({ cls := "TallyWax", name := "isPresent", desc := "(I)Z" } : Jvm.MethodName)) := ⟨List.mem_of_getElem? (i := 6) (by decide +kernel), by decide +kernel⟩
theorem tw_267 : tw (Jvm.Cond.methodLink "TallyWax" (74 : Nat) ({ cls := "TallyWax", name := "isPresent", desc := "(I)Z" } : Jvm.MethodName)) := ⟨List.mem_of_getElem? (i := 291) (by decide +kernel), by decide +kernel⟩
theorem tw_269 : tw (Jvm.Cond.instanceMethod ({ cls := "TallyWax", name := "isPresent", desc := "(I)Z" } : Jvm.MethodName)) := ⟨List.mem_of_getElem? (i := 293) (by decide +kernel), by decide +kernel⟩
theorem gw_270 : ((Jvm.Cond.code ({ cls := "TallyWax", name := "isPresent", desc := "(I)Z" } : Jvm.MethodName) prog_1_method_42_code (2 : Nat) (Option.some Jvm.ClassFile.FieldType.boolean)) : Cond) ∈ lw_tbl ∧ goodWord (Jvm.Cond.code ({ cls := "TallyWax", name := "isPresent", desc := "(I)Z" } : Jvm.MethodName) prog_1_method_42_code (2 : Nat) (Option.some Jvm.ClassFile.FieldType.boolean)) = true := ⟨List.mem_of_getElem? (i := 294) (by decide +kernel), by decide +kernel⟩
theorem k_RX3_74 : lkV RX3 74 yX3_isPresent cX3_isPresent 2 (Option.some FieldType.boolean) 1 := ⟨tw_267, tw_269, twp_6, tw_1, gw_270, ⟨⟨by decide +kernel, by decide +kernel⟩, by decide +kernel⟩⟩
theorem tw_273 : tw (Jvm.Cond.selects "TallyWax" ({ cls := "TallyWax", name := "has", desc := "(I)I" } : Jvm.MethodName) ({ cls := "TallyWax", name := "has", desc := "(I)I" } : Jvm.MethodName)) := ⟨List.mem_of_getElem? (i := 297) (by decide +kernel), by decide +kernel⟩
theorem tw_271 : tw (Jvm.Cond.methodLink "TallyWaxLaw" (142 : Nat) ({ cls := "TallyWax", name := "has", desc := "(I)I" } : Jvm.MethodName)) := ⟨List.mem_of_getElem? (i := 295) (by decide +kernel), by decide +kernel⟩
theorem tw_272 : tw (Jvm.Cond.instanceMethod ({ cls := "TallyWax", name := "has", desc := "(I)I" } : Jvm.MethodName)) := ⟨List.mem_of_getElem? (i := 296) (by decide +kernel), by decide +kernel⟩
theorem gw_274 : ((Jvm.Cond.code ({ cls := "TallyWax", name := "has", desc := "(I)I" } : Jvm.MethodName) prog_1_method_23_code (2 : Nat) (Option.some Jvm.ClassFile.FieldType.int)) : Cond) ∈ lw_tbl ∧ goodWord (Jvm.Cond.code ({ cls := "TallyWax", name := "has", desc := "(I)I" } : Jvm.MethodName) prog_1_method_23_code (2 : Nat) (Option.some Jvm.ClassFile.FieldType.int)) = true := ⟨List.mem_of_getElem? (i := 298) (by decide +kernel), by decide +kernel⟩
theorem k_RL_142 : lkV RL 142 yX3_has cX3_has 2 (Option.some FieldType.int) 1 := ⟨tw_271, tw_272, tw_273, tw_1, gw_274, ⟨⟨by decide +kernel, by decide +kernel⟩, by decide +kernel⟩⟩
theorem twp_7 : tw (.selects "TallyWax" ({ cls := "TallyWax", name := "balanceOf", desc := "(I)I" } : Jvm.MethodName) ({ cls := "TallyWax", name := "balanceOf", desc := "(I)I" } : Jvm.MethodName)) := ⟨List.mem_of_getElem? (i := 7) (by decide +kernel), by decide +kernel⟩
theorem tw_275 : tw (Jvm.Cond.methodLink "TallyWax" (149 : Nat) ({ cls := "TallyWax", name := "balanceOf", desc := "(I)I" } : Jvm.MethodName)) := ⟨List.mem_of_getElem? (i := 299) (by decide +kernel), by decide +kernel⟩
theorem tw_277 : tw (Jvm.Cond.instanceMethod ({ cls := "TallyWax", name := "balanceOf", desc := "(I)I" } : Jvm.MethodName)) := ⟨List.mem_of_getElem? (i := 301) (by decide +kernel), by decide +kernel⟩
theorem gw_278 : ((Jvm.Cond.code ({ cls := "TallyWax", name := "balanceOf", desc := "(I)I" } : Jvm.MethodName) prog_1_method_46_code (7 : Nat) (Option.some Jvm.ClassFile.FieldType.int)) : Cond) ∈ lw_tbl ∧ goodWord (Jvm.Cond.code ({ cls := "TallyWax", name := "balanceOf", desc := "(I)I" } : Jvm.MethodName) prog_1_method_46_code (7 : Nat) (Option.some Jvm.ClassFile.FieldType.int)) = true := ⟨List.mem_of_getElem? (i := 302) (by decide +kernel), by decide +kernel⟩
theorem k_RX3_149 : lkV RX3 149 yX3_balanceOf cX3_balanceOf 7 (Option.some FieldType.int) 1 := ⟨tw_275, tw_277, twp_7, tw_1, gw_278, ⟨⟨by decide +kernel, by decide +kernel⟩, by decide +kernel⟩⟩
theorem twp_8 : tw (.selects "TallyWax$LineList" ({ cls := "TallyWax$LineList", name := "balanceOf", desc := "(I)I" } : Jvm.MethodName) ({ cls := "TallyWax$LineList", name := "balanceOf", desc := "(I)I" } : Jvm.MethodName)) := ⟨List.mem_of_getElem? (i := 8) (by decide +kernel), by decide +kernel⟩
theorem tw_279 : tw (Jvm.Cond.methodLinkNest "TallyWax" (153 : Nat) ({ cls := "TallyWax$LineList", name := "balanceOf", desc := "(I)I" } : Jvm.MethodName) "TallyWax") := ⟨List.mem_of_getElem? (i := 303) (by decide +kernel), by decide +kernel⟩
theorem tw_281 : tw (Jvm.Cond.instanceMethod ({ cls := "TallyWax$LineList", name := "balanceOf", desc := "(I)I" } : Jvm.MethodName)) := ⟨List.mem_of_getElem? (i := 305) (by decide +kernel), by decide +kernel⟩
theorem gw_282 : ((Jvm.Cond.code ({ cls := "TallyWax$LineList", name := "balanceOf", desc := "(I)I" } : Jvm.MethodName) prog_2_method_6_code (4 : Nat) (Option.some Jvm.ClassFile.FieldType.int)) : Cond) ∈ lw_tbl ∧ goodWord (Jvm.Cond.code ({ cls := "TallyWax$LineList", name := "balanceOf", desc := "(I)I" } : Jvm.MethodName) prog_2_method_6_code (4 : Nat) (Option.some Jvm.ClassFile.FieldType.int)) = true := ⟨List.mem_of_getElem? (i := 306) (by decide +kernel), by decide +kernel⟩
theorem k_RX3_153 : lkVN RX3 153 yX0_balanceOf cX0_balanceOf 4 (Option.some FieldType.int) 1 := ⟨⟨_, tw_279⟩, tw_281, twp_8, tw_3, gw_282, ⟨⟨by decide +kernel, by decide +kernel⟩, by decide +kernel⟩⟩
theorem tw_285 : tw (Jvm.Cond.selects "TallyWax" ({ cls := "TallyWax", name := "hasOn", desc := "(II)I" } : Jvm.MethodName) ({ cls := "TallyWax", name := "hasOn", desc := "(II)I" } : Jvm.MethodName)) := ⟨List.mem_of_getElem? (i := 309) (by decide +kernel), by decide +kernel⟩
theorem tw_283 : tw (Jvm.Cond.methodLink "TallyWaxLaw" (108 : Nat) ({ cls := "TallyWax", name := "hasOn", desc := "(II)I" } : Jvm.MethodName)) := ⟨List.mem_of_getElem? (i := 307) (by decide +kernel), by decide +kernel⟩
theorem tw_284 : tw (Jvm.Cond.instanceMethod ({ cls := "TallyWax", name := "hasOn", desc := "(II)I" } : Jvm.MethodName)) := ⟨List.mem_of_getElem? (i := 308) (by decide +kernel), by decide +kernel⟩
theorem gw_286 : ((Jvm.Cond.code ({ cls := "TallyWax", name := "hasOn", desc := "(II)I" } : Jvm.MethodName) prog_1_method_24_code (4 : Nat) (Option.some Jvm.ClassFile.FieldType.int)) : Cond) ∈ lw_tbl ∧ goodWord (Jvm.Cond.code ({ cls := "TallyWax", name := "hasOn", desc := "(II)I" } : Jvm.MethodName) prog_1_method_24_code (4 : Nat) (Option.some Jvm.ClassFile.FieldType.int)) = true := ⟨List.mem_of_getElem? (i := 310) (by decide +kernel), by decide +kernel⟩
theorem k_RL_108 : lkV RL 108 yX3_hasOn cX3_hasOn 4 (Option.some FieldType.int) 2 := ⟨tw_283, tw_284, tw_285, tw_1, gw_286, ⟨⟨by decide +kernel, by decide +kernel⟩, by decide +kernel⟩⟩
theorem tw_289 : tw (Jvm.Cond.selects "TallyWax" ({ cls := "TallyWax", name := "owes", desc := "(II)I" } : Jvm.MethodName) ({ cls := "TallyWax", name := "owes", desc := "(II)I" } : Jvm.MethodName)) := ⟨List.mem_of_getElem? (i := 313) (by decide +kernel), by decide +kernel⟩
theorem tw_287 : tw (Jvm.Cond.methodLink "TallyWaxLaw" (136 : Nat) ({ cls := "TallyWax", name := "owes", desc := "(II)I" } : Jvm.MethodName)) := ⟨List.mem_of_getElem? (i := 311) (by decide +kernel), by decide +kernel⟩
theorem tw_288 : tw (Jvm.Cond.instanceMethod ({ cls := "TallyWax", name := "owes", desc := "(II)I" } : Jvm.MethodName)) := ⟨List.mem_of_getElem? (i := 312) (by decide +kernel), by decide +kernel⟩
theorem gw_290 : ((Jvm.Cond.code ({ cls := "TallyWax", name := "owes", desc := "(II)I" } : Jvm.MethodName) prog_1_method_25_code (8 : Nat) (Option.some Jvm.ClassFile.FieldType.int)) : Cond) ∈ lw_tbl ∧ goodWord (Jvm.Cond.code ({ cls := "TallyWax", name := "owes", desc := "(II)I" } : Jvm.MethodName) prog_1_method_25_code (8 : Nat) (Option.some Jvm.ClassFile.FieldType.int)) = true := ⟨List.mem_of_getElem? (i := 314) (by decide +kernel), by decide +kernel⟩
theorem k_RL_136 : lkV RL 136 yX3_owes cX3_owes 8 (Option.some FieldType.int) 2 := ⟨tw_287, tw_288, tw_289, tw_1, gw_290, ⟨⟨by decide +kernel, by decide +kernel⟩, by decide +kernel⟩⟩
theorem twp_9 : tw (.selects "TallyWax$LineList" ({ cls := "TallyWax$LineList", name := "owedBetween", desc := "(II)I" } : Jvm.MethodName) ({ cls := "TallyWax$LineList", name := "owedBetween", desc := "(II)I" } : Jvm.MethodName)) := ⟨List.mem_of_getElem? (i := 9) (by decide +kernel), by decide +kernel⟩
theorem tw_291 : tw (Jvm.Cond.methodLinkNest "TallyWax" (154 : Nat) ({ cls := "TallyWax$LineList", name := "owedBetween", desc := "(II)I" } : Jvm.MethodName) "TallyWax") := ⟨List.mem_of_getElem? (i := 315) (by decide +kernel), by decide +kernel⟩
theorem tw_293 : tw (Jvm.Cond.instanceMethod ({ cls := "TallyWax$LineList", name := "owedBetween", desc := "(II)I" } : Jvm.MethodName)) := ⟨List.mem_of_getElem? (i := 317) (by decide +kernel), by decide +kernel⟩
theorem gw_294 : ((Jvm.Cond.code ({ cls := "TallyWax$LineList", name := "owedBetween", desc := "(II)I" } : Jvm.MethodName) prog_2_method_7_code (5 : Nat) (Option.some Jvm.ClassFile.FieldType.int)) : Cond) ∈ lw_tbl ∧ goodWord (Jvm.Cond.code ({ cls := "TallyWax$LineList", name := "owedBetween", desc := "(II)I" } : Jvm.MethodName) prog_2_method_7_code (5 : Nat) (Option.some Jvm.ClassFile.FieldType.int)) = true := ⟨List.mem_of_getElem? (i := 318) (by decide +kernel), by decide +kernel⟩
theorem k_RX3_154 : lkVN RX3 154 yX0_owedBetween cX0_owedBetween 5 (Option.some FieldType.int) 2 := ⟨⟨_, tw_291⟩, tw_293, twp_9, tw_3, gw_294, ⟨⟨by decide +kernel, by decide +kernel⟩, by decide +kernel⟩⟩
theorem tw_297 : tw (Jvm.Cond.selects "TallyWax" ({ cls := "TallyWax", name := "total", desc := "()I" } : Jvm.MethodName) ({ cls := "TallyWax", name := "total", desc := "()I" } : Jvm.MethodName)) := ⟨List.mem_of_getElem? (i := 321) (by decide +kernel), by decide +kernel⟩
theorem tw_295 : tw (Jvm.Cond.methodLink "TallyWaxLaw" (153 : Nat) ({ cls := "TallyWax", name := "total", desc := "()I" } : Jvm.MethodName)) := ⟨List.mem_of_getElem? (i := 319) (by decide +kernel), by decide +kernel⟩
theorem tw_296 : tw (Jvm.Cond.instanceMethod ({ cls := "TallyWax", name := "total", desc := "()I" } : Jvm.MethodName)) := ⟨List.mem_of_getElem? (i := 320) (by decide +kernel), by decide +kernel⟩
theorem gw_298 : ((Jvm.Cond.code ({ cls := "TallyWax", name := "total", desc := "()I" } : Jvm.MethodName) prog_1_method_26_code (6 : Nat) (Option.some Jvm.ClassFile.FieldType.int)) : Cond) ∈ lw_tbl ∧ goodWord (Jvm.Cond.code ({ cls := "TallyWax", name := "total", desc := "()I" } : Jvm.MethodName) prog_1_method_26_code (6 : Nat) (Option.some Jvm.ClassFile.FieldType.int)) = true := ⟨List.mem_of_getElem? (i := 322) (by decide +kernel), by decide +kernel⟩
theorem k_RL_153 : lkV RL 153 yX3_total cX3_total 6 (Option.some FieldType.int) 0 := ⟨tw_295, tw_296, tw_297, tw_1, gw_298, ⟨⟨by decide +kernel, by decide +kernel⟩, by decide +kernel⟩⟩
theorem twp_10 : tw (.selects "TallyWax$LineList" ({ cls := "TallyWax$LineList", name := "sum", desc := "()I" } : Jvm.MethodName) ({ cls := "TallyWax$LineList", name := "sum", desc := "()I" } : Jvm.MethodName)) := ⟨List.mem_of_getElem? (i := 10) (by decide +kernel), by decide +kernel⟩
theorem tw_299 : tw (Jvm.Cond.methodLinkNest "TallyWax" (158 : Nat) ({ cls := "TallyWax$LineList", name := "sum", desc := "()I" } : Jvm.MethodName) "TallyWax") := ⟨List.mem_of_getElem? (i := 323) (by decide +kernel), by decide +kernel⟩
theorem tw_301 : tw (Jvm.Cond.instanceMethod ({ cls := "TallyWax$LineList", name := "sum", desc := "()I" } : Jvm.MethodName)) := ⟨List.mem_of_getElem? (i := 325) (by decide +kernel), by decide +kernel⟩
theorem gw_302 : ((Jvm.Cond.code ({ cls := "TallyWax$LineList", name := "sum", desc := "()I" } : Jvm.MethodName) prog_2_method_5_code (3 : Nat) (Option.some Jvm.ClassFile.FieldType.int)) : Cond) ∈ lw_tbl ∧ goodWord (Jvm.Cond.code ({ cls := "TallyWax$LineList", name := "sum", desc := "()I" } : Jvm.MethodName) prog_2_method_5_code (3 : Nat) (Option.some Jvm.ClassFile.FieldType.int)) = true := ⟨List.mem_of_getElem? (i := 326) (by decide +kernel), by decide +kernel⟩
theorem k_RX3_158 : lkVN RX3 158 yX0_sum cX0_sum 3 (Option.some FieldType.int) 0 := ⟨⟨_, tw_299⟩, tw_301, twp_10, tw_3, gw_302, ⟨⟨by decide +kernel, by decide +kernel⟩, by decide +kernel⟩⟩
theorem tw_305 : tw (Jvm.Cond.selects "TallyWax" ({ cls := "TallyWax", name := "richest", desc := "()I" } : Jvm.MethodName) ({ cls := "TallyWax", name := "richest", desc := "()I" } : Jvm.MethodName)) := ⟨List.mem_of_getElem? (i := 329) (by decide +kernel), by decide +kernel⟩
theorem tw_303 : tw (Jvm.Cond.methodLink "TallyWaxLaw" (145 : Nat) ({ cls := "TallyWax", name := "richest", desc := "()I" } : Jvm.MethodName)) := ⟨List.mem_of_getElem? (i := 327) (by decide +kernel), by decide +kernel⟩
theorem tw_304 : tw (Jvm.Cond.instanceMethod ({ cls := "TallyWax", name := "richest", desc := "()I" } : Jvm.MethodName)) := ⟨List.mem_of_getElem? (i := 328) (by decide +kernel), by decide +kernel⟩
theorem gw_306 : ((Jvm.Cond.code ({ cls := "TallyWax", name := "richest", desc := "()I" } : Jvm.MethodName) prog_1_method_27_code (5 : Nat) (Option.some Jvm.ClassFile.FieldType.int)) : Cond) ∈ lw_tbl ∧ goodWord (Jvm.Cond.code ({ cls := "TallyWax", name := "richest", desc := "()I" } : Jvm.MethodName) prog_1_method_27_code (5 : Nat) (Option.some Jvm.ClassFile.FieldType.int)) = true := ⟨List.mem_of_getElem? (i := 330) (by decide +kernel), by decide +kernel⟩
theorem k_RL_145 : lkV RL 145 yX3_richest cX3_richest 5 (Option.some FieldType.int) 0 := ⟨tw_303, tw_304, tw_305, tw_1, gw_306, ⟨⟨by decide +kernel, by decide +kernel⟩, by decide +kernel⟩⟩
theorem tw_309 : tw (Jvm.Cond.selects "TallyWax" ({ cls := "TallyWax", name := "owesAlong", desc := "(I)I" } : Jvm.MethodName) ({ cls := "TallyWax", name := "owesAlong", desc := "(I)I" } : Jvm.MethodName)) := ⟨List.mem_of_getElem? (i := 333) (by decide +kernel), by decide +kernel⟩
theorem tw_307 : tw (Jvm.Cond.methodLink "TallyWaxLaw" (133 : Nat) ({ cls := "TallyWax", name := "owesAlong", desc := "(I)I" } : Jvm.MethodName)) := ⟨List.mem_of_getElem? (i := 331) (by decide +kernel), by decide +kernel⟩
theorem tw_308 : tw (Jvm.Cond.instanceMethod ({ cls := "TallyWax", name := "owesAlong", desc := "(I)I" } : Jvm.MethodName)) := ⟨List.mem_of_getElem? (i := 332) (by decide +kernel), by decide +kernel⟩
theorem gw_310 : ((Jvm.Cond.code ({ cls := "TallyWax", name := "owesAlong", desc := "(I)I" } : Jvm.MethodName) prog_1_method_28_code (2 : Nat) (Option.some Jvm.ClassFile.FieldType.int)) : Cond) ∈ lw_tbl ∧ goodWord (Jvm.Cond.code ({ cls := "TallyWax", name := "owesAlong", desc := "(I)I" } : Jvm.MethodName) prog_1_method_28_code (2 : Nat) (Option.some Jvm.ClassFile.FieldType.int)) = true := ⟨List.mem_of_getElem? (i := 334) (by decide +kernel), by decide +kernel⟩
theorem k_RL_133 : lkV RL 133 yX3_owesAlong cX3_owesAlong 2 (Option.some FieldType.int) 1 := ⟨tw_307, tw_308, tw_309, tw_1, gw_310, ⟨⟨by decide +kernel, by decide +kernel⟩, by decide +kernel⟩⟩
theorem twp_11 : tw (.selects "TallyWax" ({ cls := "TallyWax", name := "followLines", desc := "()V" } : Jvm.MethodName) ({ cls := "TallyWax", name := "followLines", desc := "()V" } : Jvm.MethodName)) := ⟨List.mem_of_getElem? (i := 11) (by decide +kernel), by decide +kernel⟩
theorem tw_311 : tw (Jvm.Cond.methodLink "TallyWax" (161 : Nat) ({ cls := "TallyWax", name := "followLines", desc := "()V" } : Jvm.MethodName)) := ⟨List.mem_of_getElem? (i := 335) (by decide +kernel), by decide +kernel⟩
theorem tw_313 : tw (Jvm.Cond.instanceMethod ({ cls := "TallyWax", name := "followLines", desc := "()V" } : Jvm.MethodName)) := ⟨List.mem_of_getElem? (i := 337) (by decide +kernel), by decide +kernel⟩
theorem gw_314 : ((Jvm.Cond.code ({ cls := "TallyWax", name := "followLines", desc := "()V" } : Jvm.MethodName) prog_1_method_47_code (3 : Nat) (Option.none : Option Jvm.ClassFile.FieldType)) : Cond) ∈ lw_tbl ∧ goodWord (Jvm.Cond.code ({ cls := "TallyWax", name := "followLines", desc := "()V" } : Jvm.MethodName) prog_1_method_47_code (3 : Nat) (Option.none : Option Jvm.ClassFile.FieldType)) = true := ⟨List.mem_of_getElem? (i := 338) (by decide +kernel), by decide +kernel⟩
theorem k_RX3_161 : lkV RX3 161 yX3_followLines cX3_followLines 3 (Option.none : Option FieldType) 0 := ⟨tw_311, tw_313, twp_11, tw_1, gw_314, ⟨⟨by decide +kernel, by decide +kernel⟩, by decide +kernel⟩⟩
theorem twp_12 : tw (.selects "TallyWax" ({ cls := "TallyWax", name := "creditorBits", desc := "(I)I" } : Jvm.MethodName) ({ cls := "TallyWax", name := "creditorBits", desc := "(I)I" } : Jvm.MethodName)) := ⟨List.mem_of_getElem? (i := 12) (by decide +kernel), by decide +kernel⟩
theorem tw_315 : tw (Jvm.Cond.methodLink "TallyWax" (244 : Nat) ({ cls := "TallyWax", name := "creditorBits", desc := "(I)I" } : Jvm.MethodName)) := ⟨List.mem_of_getElem? (i := 339) (by decide +kernel), by decide +kernel⟩
theorem tw_317 : tw (Jvm.Cond.instanceMethod ({ cls := "TallyWax", name := "creditorBits", desc := "(I)I" } : Jvm.MethodName)) := ⟨List.mem_of_getElem? (i := 341) (by decide +kernel), by decide +kernel⟩
theorem gw_318 : ((Jvm.Cond.code ({ cls := "TallyWax", name := "creditorBits", desc := "(I)I" } : Jvm.MethodName) prog_1_method_48_code (7 : Nat) (Option.some Jvm.ClassFile.FieldType.int)) : Cond) ∈ lw_tbl ∧ goodWord (Jvm.Cond.code ({ cls := "TallyWax", name := "creditorBits", desc := "(I)I" } : Jvm.MethodName) prog_1_method_48_code (7 : Nat) (Option.some Jvm.ClassFile.FieldType.int)) = true := ⟨List.mem_of_getElem? (i := 342) (by decide +kernel), by decide +kernel⟩
theorem k_RX3_244 : lkV RX3 244 yX3_creditorBits cX3_creditorBits 7 (Option.some FieldType.int) 1 := ⟨tw_315, tw_317, twp_12, tw_1, gw_318, ⟨⟨by decide +kernel, by decide +kernel⟩, by decide +kernel⟩⟩
theorem twp_13 : tw (.selects "TallyWax$LineList" ({ cls := "TallyWax$LineList", name := "creditorBits", desc := "(I)I" } : Jvm.MethodName) ({ cls := "TallyWax$LineList", name := "creditorBits", desc := "(I)I" } : Jvm.MethodName)) := ⟨List.mem_of_getElem? (i := 13) (by decide +kernel), by decide +kernel⟩
theorem tw_319 : tw (Jvm.Cond.methodLinkNest "TallyWax" (247 : Nat) ({ cls := "TallyWax$LineList", name := "creditorBits", desc := "(I)I" } : Jvm.MethodName) "TallyWax") := ⟨List.mem_of_getElem? (i := 343) (by decide +kernel), by decide +kernel⟩
theorem tw_321 : tw (Jvm.Cond.instanceMethod ({ cls := "TallyWax$LineList", name := "creditorBits", desc := "(I)I" } : Jvm.MethodName)) := ⟨List.mem_of_getElem? (i := 345) (by decide +kernel), by decide +kernel⟩
theorem gw_322 : ((Jvm.Cond.code ({ cls := "TallyWax$LineList", name := "creditorBits", desc := "(I)I" } : Jvm.MethodName) prog_2_method_9_code (4 : Nat) (Option.some Jvm.ClassFile.FieldType.int)) : Cond) ∈ lw_tbl ∧ goodWord (Jvm.Cond.code ({ cls := "TallyWax$LineList", name := "creditorBits", desc := "(I)I" } : Jvm.MethodName) prog_2_method_9_code (4 : Nat) (Option.some Jvm.ClassFile.FieldType.int)) = true := ⟨List.mem_of_getElem? (i := 346) (by decide +kernel), by decide +kernel⟩
theorem k_RX3_247 : lkVN RX3 247 yX0_creditorBits cX0_creditorBits 4 (Option.some FieldType.int) 1 := ⟨⟨_, tw_319⟩, tw_321, twp_13, tw_3, gw_322, ⟨⟨by decide +kernel, by decide +kernel⟩, by decide +kernel⟩⟩
theorem tw_323 : tw (Jvm.Cond.methodLink "TallyWax" (169 : Nat) ({ cls := "TallyWax", name := "holds", desc := "(II)Z" } : Jvm.MethodName)) := ⟨List.mem_of_getElem? (i := 347) (by decide +kernel), by decide +kernel⟩
theorem tw_324 : tw (Jvm.Cond.static ({ cls := "TallyWax", name := "holds", desc := "(II)Z" } : Jvm.MethodName)) := ⟨List.mem_of_getElem? (i := 348) (by decide +kernel), by decide +kernel⟩
theorem gw_325 : ((Jvm.Cond.code ({ cls := "TallyWax", name := "holds", desc := "(II)Z" } : Jvm.MethodName) prog_1_method_49_code (2 : Nat) (Option.some Jvm.ClassFile.FieldType.boolean)) : Cond) ∈ lw_tbl ∧ goodWord (Jvm.Cond.code ({ cls := "TallyWax", name := "holds", desc := "(II)Z" } : Jvm.MethodName) prog_1_method_49_code (2 : Nat) (Option.some Jvm.ClassFile.FieldType.boolean)) = true := ⟨List.mem_of_getElem? (i := 349) (by decide +kernel), by decide +kernel⟩
theorem k_RX3_169 : lkS RX3 169 yX3_holds cX3_holds 2 (Option.some FieldType.boolean) 2 := ⟨tw_323, tw_324, tw_1, gw_325, ⟨⟨by decide +kernel, by decide +kernel⟩, by decide +kernel⟩⟩
theorem tw_13 : tw (Jvm.Cond.initialized "java/lang/Integer") := ⟨List.mem_of_getElem? (i := 37) (by decide +kernel), by decide +kernel⟩
theorem tw_326 : tw (Jvm.Cond.methodLink "TallyWax" (164 : Nat) ({ cls := "java/lang/Integer", name := "bitCount", desc := "(I)I" } : Jvm.MethodName)) := ⟨List.mem_of_getElem? (i := 350) (by decide +kernel), by decide +kernel⟩
theorem tw_327 : tw (Jvm.Cond.static ({ cls := "java/lang/Integer", name := "bitCount", desc := "(I)I" } : Jvm.MethodName)) := ⟨List.mem_of_getElem? (i := 351) (by decide +kernel), by decide +kernel⟩
theorem gw_328 : ((Jvm.Cond.code ({ cls := "java/lang/Integer", name := "bitCount", desc := "(I)I" } : Jvm.MethodName) prog_12_method_49_code (1 : Nat) (Option.some Jvm.ClassFile.FieldType.int)) : Cond) ∈ lw_tbl ∧ goodWord (Jvm.Cond.code ({ cls := "java/lang/Integer", name := "bitCount", desc := "(I)I" } : Jvm.MethodName) prog_12_method_49_code (1 : Nat) (Option.some Jvm.ClassFile.FieldType.int)) = true := ⟨List.mem_of_getElem? (i := 352) (by decide +kernel), by decide +kernel⟩
theorem k_RX3_164 : lkS RX3 164 yJ6_bitCount_0f7a4 cJ6_bitCount_0f7a4 1 (Option.some FieldType.int) 1 := ⟨tw_326, tw_327, tw_13, gw_328, ⟨⟨by decide +kernel, by decide +kernel⟩, by decide +kernel⟩⟩
theorem tw_329 : tw (Jvm.Cond.constant "java/lang/Integer" (265 : Nat) (1431655765 : Int32)) := ⟨List.mem_of_getElem? (i := 353) (by decide +kernel), by decide +kernel⟩
theorem tw_330 : tw (Jvm.Cond.constant "java/lang/Integer" (266 : Nat) (858993459 : Int32)) := ⟨List.mem_of_getElem? (i := 354) (by decide +kernel), by decide +kernel⟩
theorem tw_331 : tw (Jvm.Cond.constant "java/lang/Integer" (267 : Nat) (252645135 : Int32)) := ⟨List.mem_of_getElem? (i := 355) (by decide +kernel), by decide +kernel⟩
theorem tw_334 : tw (Jvm.Cond.selects "TallyWax" ({ cls := "TallyWax", name := "isRound", desc := "()Z" } : Jvm.MethodName) ({ cls := "TallyWax", name := "isRound", desc := "()Z" } : Jvm.MethodName)) := ⟨List.mem_of_getElem? (i := 358) (by decide +kernel), by decide +kernel⟩
theorem tw_332 : tw (Jvm.Cond.methodLink "TallyWaxLaw" (156 : Nat) ({ cls := "TallyWax", name := "isRound", desc := "()Z" } : Jvm.MethodName)) := ⟨List.mem_of_getElem? (i := 356) (by decide +kernel), by decide +kernel⟩
theorem tw_333 : tw (Jvm.Cond.instanceMethod ({ cls := "TallyWax", name := "isRound", desc := "()Z" } : Jvm.MethodName)) := ⟨List.mem_of_getElem? (i := 357) (by decide +kernel), by decide +kernel⟩
theorem gw_335 : ((Jvm.Cond.code ({ cls := "TallyWax", name := "isRound", desc := "()Z" } : Jvm.MethodName) prog_1_method_29_code (2 : Nat) (Option.some Jvm.ClassFile.FieldType.boolean)) : Cond) ∈ lw_tbl ∧ goodWord (Jvm.Cond.code ({ cls := "TallyWax", name := "isRound", desc := "()Z" } : Jvm.MethodName) prog_1_method_29_code (2 : Nat) (Option.some Jvm.ClassFile.FieldType.boolean)) = true := ⟨List.mem_of_getElem? (i := 359) (by decide +kernel), by decide +kernel⟩
theorem k_RL_156 : lkV RL 156 yX3_isRound cX3_isRound 2 (Option.some FieldType.boolean) 0 := ⟨tw_332, tw_333, tw_334, tw_1, gw_335, ⟨⟨by decide +kernel, by decide +kernel⟩, by decide +kernel⟩⟩
theorem tw_338 : tw (Jvm.Cond.selects "TallyWax" ({ cls := "TallyWax", name := "linesSmoothed", desc := "(I)I" } : Jvm.MethodName) ({ cls := "TallyWax", name := "linesSmoothed", desc := "(I)I" } : Jvm.MethodName)) := ⟨List.mem_of_getElem? (i := 362) (by decide +kernel), by decide +kernel⟩
theorem tw_336 : tw (Jvm.Cond.methodLink "TallyWaxLaw" (111 : Nat) ({ cls := "TallyWax", name := "linesSmoothed", desc := "(I)I" } : Jvm.MethodName)) := ⟨List.mem_of_getElem? (i := 360) (by decide +kernel), by decide +kernel⟩
theorem tw_337 : tw (Jvm.Cond.instanceMethod ({ cls := "TallyWax", name := "linesSmoothed", desc := "(I)I" } : Jvm.MethodName)) := ⟨List.mem_of_getElem? (i := 361) (by decide +kernel), by decide +kernel⟩
theorem gw_339 : ((Jvm.Cond.code ({ cls := "TallyWax", name := "linesSmoothed", desc := "(I)I" } : Jvm.MethodName) prog_1_method_30_code (2 : Nat) (Option.some Jvm.ClassFile.FieldType.int)) : Cond) ∈ lw_tbl ∧ goodWord (Jvm.Cond.code ({ cls := "TallyWax", name := "linesSmoothed", desc := "(I)I" } : Jvm.MethodName) prog_1_method_30_code (2 : Nat) (Option.some Jvm.ClassFile.FieldType.int)) = true := ⟨List.mem_of_getElem? (i := 363) (by decide +kernel), by decide +kernel⟩
theorem k_RL_111 : lkV RL 111 yX3_linesSmoothed cX3_linesSmoothed 2 (Option.some FieldType.int) 1 := ⟨tw_336, tw_337, tw_338, tw_1, gw_339, ⟨⟨by decide +kernel, by decide +kernel⟩, by decide +kernel⟩⟩
theorem twp_14 : tw (.selects "TallyWax" ({ cls := "TallyWax", name := "linesLeftOn", desc := "(LTallyWax$Tablet;)I" } : Jvm.MethodName) ({ cls := "TallyWax", name := "linesLeftOn", desc := "(LTallyWax$Tablet;)I" } : Jvm.MethodName)) := ⟨List.mem_of_getElem? (i := 14) (by decide +kernel), by decide +kernel⟩
theorem tw_340 : tw (Jvm.Cond.methodLink "TallyWax" (173 : Nat) ({ cls := "TallyWax", name := "linesLeftOn", desc := "(LTallyWax$Tablet;)I" } : Jvm.MethodName)) := ⟨List.mem_of_getElem? (i := 364) (by decide +kernel), by decide +kernel⟩
theorem tw_342 : tw (Jvm.Cond.instanceMethod ({ cls := "TallyWax", name := "linesLeftOn", desc := "(LTallyWax$Tablet;)I" } : Jvm.MethodName)) := ⟨List.mem_of_getElem? (i := 366) (by decide +kernel), by decide +kernel⟩
theorem gw_343 : ((Jvm.Cond.code ({ cls := "TallyWax", name := "linesLeftOn", desc := "(LTallyWax$Tablet;)I" } : Jvm.MethodName) prog_1_method_50_code (2 : Nat) (Option.some Jvm.ClassFile.FieldType.int)) : Cond) ∈ lw_tbl ∧ goodWord (Jvm.Cond.code ({ cls := "TallyWax", name := "linesLeftOn", desc := "(LTallyWax$Tablet;)I" } : Jvm.MethodName) prog_1_method_50_code (2 : Nat) (Option.some Jvm.ClassFile.FieldType.int)) = true := ⟨List.mem_of_getElem? (i := 367) (by decide +kernel), by decide +kernel⟩
theorem k_RX3_173 : lkV RX3 173 yX3_linesLeftOn cX3_linesLeftOn 2 (Option.some FieldType.int) 1 := ⟨tw_340, tw_342, twp_14, tw_1, gw_343, ⟨⟨by decide +kernel, by decide +kernel⟩, by decide +kernel⟩⟩
theorem twp_15 : tw (.selects "TallyWax$Smoothing" ({ cls := "TallyWax$Smoothing", name := "plan", desc := "(LTallyWax$LineList;[Z)Z" } : Jvm.MethodName) ({ cls := "TallyWax$Smoothing", name := "plan", desc := "(LTallyWax$LineList;[Z)Z" } : Jvm.MethodName)) := ⟨List.mem_of_getElem? (i := 15) (by decide +kernel), by decide +kernel⟩
theorem tw_344 : tw (Jvm.Cond.methodLinkNest "TallyWax" (109 : Nat) ({ cls := "TallyWax$Smoothing", name := "plan", desc := "(LTallyWax$LineList;[Z)Z" } : Jvm.MethodName) "TallyWax") := ⟨List.mem_of_getElem? (i := 368) (by decide +kernel), by decide +kernel⟩
theorem tw_346 : tw (Jvm.Cond.instanceMethod ({ cls := "TallyWax$Smoothing", name := "plan", desc := "(LTallyWax$LineList;[Z)Z" } : Jvm.MethodName)) := ⟨List.mem_of_getElem? (i := 370) (by decide +kernel), by decide +kernel⟩
theorem gw_347 : ((Jvm.Cond.code ({ cls := "TallyWax$Smoothing", name := "plan", desc := "(LTallyWax$LineList;[Z)Z" } : Jvm.MethodName) prog_3_method_2_code (5 : Nat) (Option.some Jvm.ClassFile.FieldType.boolean)) : Cond) ∈ lw_tbl ∧ goodWord (Jvm.Cond.code ({ cls := "TallyWax$Smoothing", name := "plan", desc := "(LTallyWax$LineList;[Z)Z" } : Jvm.MethodName) prog_3_method_2_code (5 : Nat) (Option.some Jvm.ClassFile.FieldType.boolean)) = true := ⟨List.mem_of_getElem? (i := 371) (by decide +kernel), by decide +kernel⟩
theorem k_RX3_109 : lkVN RX3 109 yX1_plan cX1_plan 5 (Option.some FieldType.boolean) 2 := ⟨⟨_, tw_344⟩, tw_346, twp_15, tw_2, gw_347, ⟨⟨by decide +kernel, by decide +kernel⟩, by decide +kernel⟩⟩
theorem tw_348 : tw (Jvm.Cond.methodLinkNest "TallyWax$Smoothing" (26 : Nat) ({ cls := "TallyWax$LineList", name := "balanceOf", desc := "(I)I" } : Jvm.MethodName) "TallyWax") := ⟨List.mem_of_getElem? (i := 372) (by decide +kernel), by decide +kernel⟩
theorem k_RX1_26 : lkVN RX1 26 yX0_balanceOf cX0_balanceOf 4 (Option.some FieldType.int) 1 := ⟨⟨_, tw_348⟩, tw_281, twp_8, tw_3, gw_282, ⟨⟨by decide +kernel, by decide +kernel⟩, by decide +kernel⟩⟩
theorem twp_16 : tw (.selects "TallyWax$Smoothing" ({ cls := "TallyWax$Smoothing", name := "poorest", desc := "()I" } : Jvm.MethodName) ({ cls := "TallyWax$Smoothing", name := "poorest", desc := "()I" } : Jvm.MethodName)) := ⟨List.mem_of_getElem? (i := 16) (by decide +kernel), by decide +kernel⟩
theorem tw_349 : tw (Jvm.Cond.methodLink "TallyWax$Smoothing" (30 : Nat) ({ cls := "TallyWax$Smoothing", name := "poorest", desc := "()I" } : Jvm.MethodName)) := ⟨List.mem_of_getElem? (i := 373) (by decide +kernel), by decide +kernel⟩
theorem tw_351 : tw (Jvm.Cond.instanceMethod ({ cls := "TallyWax$Smoothing", name := "poorest", desc := "()I" } : Jvm.MethodName)) := ⟨List.mem_of_getElem? (i := 375) (by decide +kernel), by decide +kernel⟩
theorem gw_352 : ((Jvm.Cond.code ({ cls := "TallyWax$Smoothing", name := "poorest", desc := "()I" } : Jvm.MethodName) prog_3_method_4_code (3 : Nat) (Option.some Jvm.ClassFile.FieldType.int)) : Cond) ∈ lw_tbl ∧ goodWord (Jvm.Cond.code ({ cls := "TallyWax$Smoothing", name := "poorest", desc := "()I" } : Jvm.MethodName) prog_3_method_4_code (3 : Nat) (Option.some Jvm.ClassFile.FieldType.int)) = true := ⟨List.mem_of_getElem? (i := 376) (by decide +kernel), by decide +kernel⟩
theorem k_RX1_30 : lkV RX1 30 yX1_poorest cX1_poorest 3 (Option.some FieldType.int) 0 := ⟨tw_349, tw_351, twp_16, tw_2, gw_352, ⟨⟨by decide +kernel, by decide +kernel⟩, by decide +kernel⟩⟩
theorem twp_17 : tw (.selects "TallyWax$Smoothing" ({ cls := "TallyWax$Smoothing", name := "wealthiest", desc := "()I" } : Jvm.MethodName) ({ cls := "TallyWax$Smoothing", name := "wealthiest", desc := "()I" } : Jvm.MethodName)) := ⟨List.mem_of_getElem? (i := 17) (by decide +kernel), by decide +kernel⟩
theorem tw_353 : tw (Jvm.Cond.methodLink "TallyWax$Smoothing" (34 : Nat) ({ cls := "TallyWax$Smoothing", name := "wealthiest", desc := "()I" } : Jvm.MethodName)) := ⟨List.mem_of_getElem? (i := 377) (by decide +kernel), by decide +kernel⟩
theorem tw_355 : tw (Jvm.Cond.instanceMethod ({ cls := "TallyWax$Smoothing", name := "wealthiest", desc := "()I" } : Jvm.MethodName)) := ⟨List.mem_of_getElem? (i := 379) (by decide +kernel), by decide +kernel⟩
theorem gw_356 : ((Jvm.Cond.code ({ cls := "TallyWax$Smoothing", name := "wealthiest", desc := "()I" } : Jvm.MethodName) prog_3_method_5_code (3 : Nat) (Option.some Jvm.ClassFile.FieldType.int)) : Cond) ∈ lw_tbl ∧ goodWord (Jvm.Cond.code ({ cls := "TallyWax$Smoothing", name := "wealthiest", desc := "()I" } : Jvm.MethodName) prog_3_method_5_code (3 : Nat) (Option.some Jvm.ClassFile.FieldType.int)) = true := ⟨List.mem_of_getElem? (i := 380) (by decide +kernel), by decide +kernel⟩
theorem k_RX1_34 : lkV RX1 34 yX1_wealthiest cX1_wealthiest 3 (Option.some FieldType.int) 0 := ⟨tw_353, tw_355, twp_17, tw_2, gw_356, ⟨⟨by decide +kernel, by decide +kernel⟩, by decide +kernel⟩⟩
theorem twp_18 : tw (.selects "TallyWax$Smoothing" ({ cls := "TallyWax$Smoothing", name := "planLine", desc := "(II[Z)Z" } : Jvm.MethodName) ({ cls := "TallyWax$Smoothing", name := "planLine", desc := "(II[Z)Z" } : Jvm.MethodName)) := ⟨List.mem_of_getElem? (i := 18) (by decide +kernel), by decide +kernel⟩
theorem tw_357 : tw (Jvm.Cond.methodLink "TallyWax$Smoothing" (37 : Nat) ({ cls := "TallyWax$Smoothing", name := "planLine", desc := "(II[Z)Z" } : Jvm.MethodName)) := ⟨List.mem_of_getElem? (i := 381) (by decide +kernel), by decide +kernel⟩
theorem tw_359 : tw (Jvm.Cond.instanceMethod ({ cls := "TallyWax$Smoothing", name := "planLine", desc := "(II[Z)Z" } : Jvm.MethodName)) := ⟨List.mem_of_getElem? (i := 383) (by decide +kernel), by decide +kernel⟩
theorem gw_360 : ((Jvm.Cond.code ({ cls := "TallyWax$Smoothing", name := "planLine", desc := "(II[Z)Z" } : Jvm.MethodName) prog_3_method_3_code (6 : Nat) (Option.some Jvm.ClassFile.FieldType.boolean)) : Cond) ∈ lw_tbl ∧ goodWord (Jvm.Cond.code ({ cls := "TallyWax$Smoothing", name := "planLine", desc := "(II[Z)Z" } : Jvm.MethodName) prog_3_method_3_code (6 : Nat) (Option.some Jvm.ClassFile.FieldType.boolean)) = true := ⟨List.mem_of_getElem? (i := 384) (by decide +kernel), by decide +kernel⟩
theorem k_RX1_37 : lkV RX1 37 yX1_planLine cX1_planLine 6 (Option.some FieldType.boolean) 3 := ⟨tw_357, tw_359, twp_18, tw_2, gw_360, ⟨⟨by decide +kernel, by decide +kernel⟩, by decide +kernel⟩⟩
theorem tw_361 : tw (Jvm.Cond.methodLink "TallyWax$Smoothing" (41 : Nat) ({ cls := "TallyWax$Smoothing", name := "witnessFor", desc := "(II[Z)I" } : Jvm.MethodName)) := ⟨List.mem_of_getElem? (i := 385) (by decide +kernel), by decide +kernel⟩
theorem tw_362 : tw (Jvm.Cond.static ({ cls := "TallyWax$Smoothing", name := "witnessFor", desc := "(II[Z)I" } : Jvm.MethodName)) := ⟨List.mem_of_getElem? (i := 386) (by decide +kernel), by decide +kernel⟩
theorem gw_363 : ((Jvm.Cond.code ({ cls := "TallyWax$Smoothing", name := "witnessFor", desc := "(II[Z)I" } : Jvm.MethodName) prog_3_method_6_code (4 : Nat) (Option.some Jvm.ClassFile.FieldType.int)) : Cond) ∈ lw_tbl ∧ goodWord (Jvm.Cond.code ({ cls := "TallyWax$Smoothing", name := "witnessFor", desc := "(II[Z)I" } : Jvm.MethodName) prog_3_method_6_code (4 : Nat) (Option.some Jvm.ClassFile.FieldType.int)) = true := ⟨List.mem_of_getElem? (i := 387) (by decide +kernel), by decide +kernel⟩
theorem k_RX1_41 : lkS RX1 41 yX1_witnessFor cX1_witnessFor 4 (Option.some FieldType.int) 3 := ⟨tw_361, tw_362, tw_2, gw_363, ⟨⟨by decide +kernel, by decide +kernel⟩, by decide +kernel⟩⟩
theorem tw_364 : tw (Jvm.Cond.methodLink "TallyWax$Smoothing" (45 : Nat) ({ cls := "java/lang/Math", name := "min", desc := "(II)I" } : Jvm.MethodName)) := ⟨List.mem_of_getElem? (i := 388) (by decide +kernel), by decide +kernel⟩
theorem twp_19 : tw (.selects "TallyWax$LineList" ({ cls := "TallyWax$LineList", name := "append", desc := "(IIII)V" } : Jvm.MethodName) ({ cls := "TallyWax$LineList", name := "append", desc := "(IIII)V" } : Jvm.MethodName)) := ⟨List.mem_of_getElem? (i := 19) (by decide +kernel), by decide +kernel⟩
theorem tw_367 : tw (Jvm.Cond.methodLinkNest "TallyWax$Smoothing" (51 : Nat) ({ cls := "TallyWax$LineList", name := "append", desc := "(IIII)V" } : Jvm.MethodName) "TallyWax") := ⟨List.mem_of_getElem? (i := 391) (by decide +kernel), by decide +kernel⟩
theorem tw_369 : tw (Jvm.Cond.instanceMethod ({ cls := "TallyWax$LineList", name := "append", desc := "(IIII)V" } : Jvm.MethodName)) := ⟨List.mem_of_getElem? (i := 393) (by decide +kernel), by decide +kernel⟩
theorem gw_370 : ((Jvm.Cond.code ({ cls := "TallyWax$LineList", name := "append", desc := "(IIII)V" } : Jvm.MethodName) prog_2_method_2_code (6 : Nat) (Option.none : Option Jvm.ClassFile.FieldType)) : Cond) ∈ lw_tbl ∧ goodWord (Jvm.Cond.code ({ cls := "TallyWax$LineList", name := "append", desc := "(IIII)V" } : Jvm.MethodName) prog_2_method_2_code (6 : Nat) (Option.none : Option Jvm.ClassFile.FieldType)) = true := ⟨List.mem_of_getElem? (i := 394) (by decide +kernel), by decide +kernel⟩
theorem k_RX1_51 : lkVN RX1 51 yX0_append cX0_append 6 (Option.none : Option FieldType) 4 := ⟨⟨_, tw_367⟩, tw_369, twp_19, tw_3, gw_370, ⟨⟨by decide +kernel, by decide +kernel⟩, by decide +kernel⟩⟩
theorem tw_373 : tw (Jvm.Cond.selects "TallyWax" ({ cls := "TallyWax", name := "atRisk", desc := "(I)I" } : Jvm.MethodName) ({ cls := "TallyWax", name := "atRisk", desc := "(I)I" } : Jvm.MethodName)) := ⟨List.mem_of_getElem? (i := 397) (by decide +kernel), by decide +kernel⟩
theorem tw_371 : tw (Jvm.Cond.methodLink "TallyWaxLaw" (139 : Nat) ({ cls := "TallyWax", name := "atRisk", desc := "(I)I" } : Jvm.MethodName)) := ⟨List.mem_of_getElem? (i := 395) (by decide +kernel), by decide +kernel⟩
theorem tw_372 : tw (Jvm.Cond.instanceMethod ({ cls := "TallyWax", name := "atRisk", desc := "(I)I" } : Jvm.MethodName)) := ⟨List.mem_of_getElem? (i := 396) (by decide +kernel), by decide +kernel⟩
theorem gw_374 : ((Jvm.Cond.code ({ cls := "TallyWax", name := "atRisk", desc := "(I)I" } : Jvm.MethodName) prog_1_method_32_code (7 : Nat) (Option.some Jvm.ClassFile.FieldType.int)) : Cond) ∈ lw_tbl ∧ goodWord (Jvm.Cond.code ({ cls := "TallyWax", name := "atRisk", desc := "(I)I" } : Jvm.MethodName) prog_1_method_32_code (7 : Nat) (Option.some Jvm.ClassFile.FieldType.int)) = true := ⟨List.mem_of_getElem? (i := 398) (by decide +kernel), by decide +kernel⟩
theorem k_RL_139 : lkV RL 139 yX3_atRisk cX3_atRisk 7 (Option.some FieldType.int) 1 := ⟨tw_371, tw_372, tw_373, tw_1, gw_374, ⟨⟨by decide +kernel, by decide +kernel⟩, by decide +kernel⟩⟩
theorem twp_20 : tw (.selects "TallyWax$LineList" ({ cls := "TallyWax$LineList", name := "sumWitnessedBy", desc := "(I)I" } : Jvm.MethodName) ({ cls := "TallyWax$LineList", name := "sumWitnessedBy", desc := "(I)I" } : Jvm.MethodName)) := ⟨List.mem_of_getElem? (i := 20) (by decide +kernel), by decide +kernel⟩
theorem tw_375 : tw (Jvm.Cond.methodLinkNest "TallyWax" (180 : Nat) ({ cls := "TallyWax$LineList", name := "sumWitnessedBy", desc := "(I)I" } : Jvm.MethodName) "TallyWax") := ⟨List.mem_of_getElem? (i := 399) (by decide +kernel), by decide +kernel⟩
theorem tw_377 : tw (Jvm.Cond.instanceMethod ({ cls := "TallyWax$LineList", name := "sumWitnessedBy", desc := "(I)I" } : Jvm.MethodName)) := ⟨List.mem_of_getElem? (i := 401) (by decide +kernel), by decide +kernel⟩
theorem gw_378 : ((Jvm.Cond.code ({ cls := "TallyWax$LineList", name := "sumWitnessedBy", desc := "(I)I" } : Jvm.MethodName) prog_2_method_8_code (4 : Nat) (Option.some Jvm.ClassFile.FieldType.int)) : Cond) ∈ lw_tbl ∧ goodWord (Jvm.Cond.code ({ cls := "TallyWax$LineList", name := "sumWitnessedBy", desc := "(I)I" } : Jvm.MethodName) prog_2_method_8_code (4 : Nat) (Option.some Jvm.ClassFile.FieldType.int)) = true := ⟨List.mem_of_getElem? (i := 402) (by decide +kernel), by decide +kernel⟩
theorem k_RX3_180 : lkVN RX3 180 yX0_sumWitnessedBy cX0_sumWitnessedBy 4 (Option.some FieldType.int) 1 := ⟨⟨_, tw_375⟩, tw_377, twp_20, tw_3, gw_378, ⟨⟨by decide +kernel, by decide +kernel⟩, by decide +kernel⟩⟩
theorem tw_381 : tw (Jvm.Cond.selects "TallyWax" ({ cls := "TallyWax", name := "yearsUntilMelted", desc := "(I)I" } : Jvm.MethodName) ({ cls := "TallyWax", name := "yearsUntilMelted", desc := "(I)I" } : Jvm.MethodName)) := ⟨List.mem_of_getElem? (i := 405) (by decide +kernel), by decide +kernel⟩
theorem tw_379 : tw (Jvm.Cond.methodLink "TallyWaxLaw" (114 : Nat) ({ cls := "TallyWax", name := "yearsUntilMelted", desc := "(I)I" } : Jvm.MethodName)) := ⟨List.mem_of_getElem? (i := 403) (by decide +kernel), by decide +kernel⟩
theorem tw_380 : tw (Jvm.Cond.instanceMethod ({ cls := "TallyWax", name := "yearsUntilMelted", desc := "(I)I" } : Jvm.MethodName)) := ⟨List.mem_of_getElem? (i := 404) (by decide +kernel), by decide +kernel⟩
theorem gw_382 : ((Jvm.Cond.code ({ cls := "TallyWax", name := "yearsUntilMelted", desc := "(I)I" } : Jvm.MethodName) prog_1_method_33_code (2 : Nat) (Option.some Jvm.ClassFile.FieldType.int)) : Cond) ∈ lw_tbl ∧ goodWord (Jvm.Cond.code ({ cls := "TallyWax", name := "yearsUntilMelted", desc := "(I)I" } : Jvm.MethodName) prog_1_method_33_code (2 : Nat) (Option.some Jvm.ClassFile.FieldType.int)) = true := ⟨List.mem_of_getElem? (i := 406) (by decide +kernel), by decide +kernel⟩
theorem k_RL_114 : lkV RL 114 yX3_yearsUntilMelted cX3_yearsUntilMelted 2 (Option.some FieldType.int) 1 := ⟨tw_379, tw_380, tw_381, tw_1, gw_382, ⟨⟨by decide +kernel, by decide +kernel⟩, by decide +kernel⟩⟩
theorem twp_21 : tw (.selects "TallyWax" ({ cls := "TallyWax", name := "yearsLeftOf", desc := "(LTallyWax$Tablet;)I" } : Jvm.MethodName) ({ cls := "TallyWax", name := "yearsLeftOf", desc := "(LTallyWax$Tablet;)I" } : Jvm.MethodName)) := ⟨List.mem_of_getElem? (i := 21) (by decide +kernel), by decide +kernel⟩
theorem tw_383 : tw (Jvm.Cond.methodLink "TallyWax" (183 : Nat) ({ cls := "TallyWax", name := "yearsLeftOf", desc := "(LTallyWax$Tablet;)I" } : Jvm.MethodName)) := ⟨List.mem_of_getElem? (i := 407) (by decide +kernel), by decide +kernel⟩
theorem tw_385 : tw (Jvm.Cond.instanceMethod ({ cls := "TallyWax", name := "yearsLeftOf", desc := "(LTallyWax$Tablet;)I" } : Jvm.MethodName)) := ⟨List.mem_of_getElem? (i := 409) (by decide +kernel), by decide +kernel⟩
theorem gw_386 : ((Jvm.Cond.code ({ cls := "TallyWax", name := "yearsLeftOf", desc := "(LTallyWax$Tablet;)I" } : Jvm.MethodName) prog_1_method_45_code (3 : Nat) (Option.some Jvm.ClassFile.FieldType.int)) : Cond) ∈ lw_tbl ∧ goodWord (Jvm.Cond.code ({ cls := "TallyWax", name := "yearsLeftOf", desc := "(LTallyWax$Tablet;)I" } : Jvm.MethodName) prog_1_method_45_code (3 : Nat) (Option.some Jvm.ClassFile.FieldType.int)) = true := ⟨List.mem_of_getElem? (i := 410) (by decide +kernel), by decide +kernel⟩
theorem k_RX3_183 : lkV RX3 183 yX3_yearsLeftOf cX3_yearsLeftOf 3 (Option.some FieldType.int) 1 := ⟨tw_383, tw_385, twp_21, tw_1, gw_386, ⟨⟨by decide +kernel, by decide +kernel⟩, by decide +kernel⟩⟩
theorem tw_389 : tw (Jvm.Cond.selects "TallyWax" ({ cls := "TallyWax", name := "meltsIn", desc := "(I)I" } : Jvm.MethodName) ({ cls := "TallyWax", name := "meltsIn", desc := "(I)I" } : Jvm.MethodName)) := ⟨List.mem_of_getElem? (i := 413) (by decide +kernel), by decide +kernel⟩
theorem tw_387 : tw (Jvm.Cond.methodLink "TallyWaxLaw" (170 : Nat) ({ cls := "TallyWax", name := "meltsIn", desc := "(I)I" } : Jvm.MethodName)) := ⟨List.mem_of_getElem? (i := 411) (by decide +kernel), by decide +kernel⟩
theorem tw_388 : tw (Jvm.Cond.instanceMethod ({ cls := "TallyWax", name := "meltsIn", desc := "(I)I" } : Jvm.MethodName)) := ⟨List.mem_of_getElem? (i := 412) (by decide +kernel), by decide +kernel⟩
theorem gw_390 : ((Jvm.Cond.code ({ cls := "TallyWax", name := "meltsIn", desc := "(I)I" } : Jvm.MethodName) prog_1_method_34_code (8 : Nat) (Option.some Jvm.ClassFile.FieldType.int)) : Cond) ∈ lw_tbl ∧ goodWord (Jvm.Cond.code ({ cls := "TallyWax", name := "meltsIn", desc := "(I)I" } : Jvm.MethodName) prog_1_method_34_code (8 : Nat) (Option.some Jvm.ClassFile.FieldType.int)) = true := ⟨List.mem_of_getElem? (i := 414) (by decide +kernel), by decide +kernel⟩
theorem k_RL_170 : lkV RL 170 yX3_meltsIn cX3_meltsIn 8 (Option.some FieldType.int) 1 := ⟨tw_387, tw_388, tw_389, tw_1, gw_390, ⟨⟨by decide +kernel, by decide +kernel⟩, by decide +kernel⟩⟩
theorem tw_393 : tw (Jvm.Cond.selects "TallyWax" ({ cls := "TallyWax", name := "meanAmount", desc := "()D" } : Jvm.MethodName) ({ cls := "TallyWax", name := "meanAmount", desc := "()D" } : Jvm.MethodName)) := ⟨List.mem_of_getElem? (i := 417) (by decide +kernel), by decide +kernel⟩
theorem tw_391 : tw (Jvm.Cond.methodLink "TallyWaxLaw" (160 : Nat) ({ cls := "TallyWax", name := "meanAmount", desc := "()D" } : Jvm.MethodName)) := ⟨List.mem_of_getElem? (i := 415) (by decide +kernel), by decide +kernel⟩
theorem tw_392 : tw (Jvm.Cond.instanceMethod ({ cls := "TallyWax", name := "meanAmount", desc := "()D" } : Jvm.MethodName)) := ⟨List.mem_of_getElem? (i := 416) (by decide +kernel), by decide +kernel⟩
theorem gw_394 : ((Jvm.Cond.code ({ cls := "TallyWax", name := "meanAmount", desc := "()D" } : Jvm.MethodName) prog_1_method_35_code (2 : Nat) (Option.some Jvm.ClassFile.FieldType.double)) : Cond) ∈ lw_tbl ∧ goodWord (Jvm.Cond.code ({ cls := "TallyWax", name := "meanAmount", desc := "()D" } : Jvm.MethodName) prog_1_method_35_code (2 : Nat) (Option.some Jvm.ClassFile.FieldType.double)) = true := ⟨List.mem_of_getElem? (i := 418) (by decide +kernel), by decide +kernel⟩
theorem k_RL_160 : lkV RL 160 yX3_meanAmount cX3_meanAmount 2 (Option.some FieldType.double) 0 := ⟨tw_391, tw_392, tw_393, tw_1, gw_394, ⟨⟨by decide +kernel, by decide +kernel⟩, by decide +kernel⟩⟩
theorem tw_395 : tw (Jvm.Cond.methodLink "TallyWax" (186 : Nat) ({ cls := "TallyWax", name := "lines", desc := "()I" } : Jvm.MethodName)) := ⟨List.mem_of_getElem? (i := 419) (by decide +kernel), by decide +kernel⟩
theorem k_RX3_186 : lkV RX3 186 yX3_lines cX3_lines 6 (Option.some FieldType.int) 0 := ⟨tw_395, tw_196, tw_197, tw_1, gw_198, ⟨⟨by decide +kernel, by decide +kernel⟩, by decide +kernel⟩⟩
theorem tw_396 : tw (Jvm.Cond.methodLink "TallyWax" (188 : Nat) ({ cls := "TallyWax", name := "total", desc := "()I" } : Jvm.MethodName)) := ⟨List.mem_of_getElem? (i := 420) (by decide +kernel), by decide +kernel⟩
theorem k_RX3_188 : lkV RX3 188 yX3_total cX3_total 6 (Option.some FieldType.int) 0 := ⟨tw_396, tw_296, tw_297, tw_1, gw_298, ⟨⟨by decide +kernel, by decide +kernel⟩, by decide +kernel⟩⟩
theorem tw_4 : tw (Jvm.Cond.initialized "TallyWaxLaw$Sim") := ⟨List.mem_of_getElem? (i := 28) (by decide +kernel), by decide +kernel⟩
theorem tw_399 : tw (Jvm.Cond.selects "TallyWaxLaw$Sim" ({ cls := "TallyWaxLaw$Sim", name := "pass", desc := "(I)I" } : Jvm.MethodName) ({ cls := "TallyWaxLaw$Sim", name := "pass", desc := "(I)I" } : Jvm.MethodName)) := ⟨List.mem_of_getElem? (i := 423) (by decide +kernel), by decide +kernel⟩
theorem tw_397 : tw (Jvm.Cond.methodLink "TallyWaxLaw" (82 : Nat) ({ cls := "TallyWaxLaw$Sim", name := "pass", desc := "(I)I" } : Jvm.MethodName)) := ⟨List.mem_of_getElem? (i := 421) (by decide +kernel), by decide +kernel⟩
theorem tw_398 : tw (Jvm.Cond.instanceMethod ({ cls := "TallyWaxLaw$Sim", name := "pass", desc := "(I)I" } : Jvm.MethodName)) := ⟨List.mem_of_getElem? (i := 422) (by decide +kernel), by decide +kernel⟩
theorem gw_400 : ((Jvm.Cond.code ({ cls := "TallyWaxLaw$Sim", name := "pass", desc := "(I)I" } : Jvm.MethodName) prog_6_method_7_code (5 : Nat) (Option.some Jvm.ClassFile.FieldType.int)) : Cond) ∈ lw_tbl ∧ goodWord (Jvm.Cond.code ({ cls := "TallyWaxLaw$Sim", name := "pass", desc := "(I)I" } : Jvm.MethodName) prog_6_method_7_code (5 : Nat) (Option.some Jvm.ClassFile.FieldType.int)) = true := ⟨List.mem_of_getElem? (i := 424) (by decide +kernel), by decide +kernel⟩
theorem k_RL_82 : lkV RL 82 yX4_pass cX4_pass 5 (Option.some FieldType.int) 1 := ⟨tw_397, tw_398, tw_399, tw_4, gw_400, ⟨⟨by decide +kernel, by decide +kernel⟩, by decide +kernel⟩⟩
theorem tw_403 : tw (Jvm.Cond.selects "TallyWaxLaw$Sim" ({ cls := "TallyWaxLaw$Sim", name := "melts", desc := "(II)Z" } : Jvm.MethodName) ({ cls := "TallyWaxLaw$Sim", name := "melts", desc := "(II)Z" } : Jvm.MethodName)) := ⟨List.mem_of_getElem? (i := 427) (by decide +kernel), by decide +kernel⟩
theorem tw_401 : tw (Jvm.Cond.methodLink "TallyWaxLaw$Sim" (42 : Nat) ({ cls := "TallyWaxLaw$Sim", name := "melts", desc := "(II)Z" } : Jvm.MethodName)) := ⟨List.mem_of_getElem? (i := 425) (by decide +kernel), by decide +kernel⟩
theorem tw_402 : tw (Jvm.Cond.instanceMethod ({ cls := "TallyWaxLaw$Sim", name := "melts", desc := "(II)Z" } : Jvm.MethodName)) := ⟨List.mem_of_getElem? (i := 426) (by decide +kernel), by decide +kernel⟩
theorem gw_404 : ((Jvm.Cond.code ({ cls := "TallyWaxLaw$Sim", name := "melts", desc := "(II)Z" } : Jvm.MethodName) prog_6_method_6_code (3 : Nat) (Option.some Jvm.ClassFile.FieldType.boolean)) : Cond) ∈ lw_tbl ∧ goodWord (Jvm.Cond.code ({ cls := "TallyWaxLaw$Sim", name := "melts", desc := "(II)Z" } : Jvm.MethodName) prog_6_method_6_code (3 : Nat) (Option.some Jvm.ClassFile.FieldType.boolean)) = true := ⟨List.mem_of_getElem? (i := 428) (by decide +kernel), by decide +kernel⟩
theorem k_RX4_42 : lkV RX4 42 yX4_melts cX4_melts 3 (Option.some FieldType.boolean) 2 := ⟨tw_401, tw_402, tw_403, tw_4, gw_404, ⟨⟨by decide +kernel, by decide +kernel⟩, by decide +kernel⟩⟩
theorem tw_405 : tw (Jvm.Cond.classLink "TallyWaxLaw$Sim" (17 : Nat) "[I") := ⟨List.mem_of_getElem? (i := 429) (by decide +kernel), by decide +kernel⟩
theorem tw_409 : tw (Jvm.Cond.selects "TallyWaxLaw$Sim" ({ cls := "TallyWaxLaw$Sim", name := "isSame", desc := "(LTallyWax;)Z" } : Jvm.MethodName) ({ cls := "TallyWaxLaw$Sim", name := "isSame", desc := "(LTallyWax;)Z" } : Jvm.MethodName)) := ⟨List.mem_of_getElem? (i := 433) (by decide +kernel), by decide +kernel⟩
theorem tw_407 : tw (Jvm.Cond.methodLink "TallyWaxLaw" (175 : Nat) ({ cls := "TallyWaxLaw$Sim", name := "isSame", desc := "(LTallyWax;)Z" } : Jvm.MethodName)) := ⟨List.mem_of_getElem? (i := 431) (by decide +kernel), by decide +kernel⟩
theorem tw_408 : tw (Jvm.Cond.instanceMethod ({ cls := "TallyWaxLaw$Sim", name := "isSame", desc := "(LTallyWax;)Z" } : Jvm.MethodName)) := ⟨List.mem_of_getElem? (i := 432) (by decide +kernel), by decide +kernel⟩
theorem gw_410 : ((Jvm.Cond.code ({ cls := "TallyWaxLaw$Sim", name := "isSame", desc := "(LTallyWax;)Z" } : Jvm.MethodName) prog_6_method_9_code (10 : Nat) (Option.some Jvm.ClassFile.FieldType.boolean)) : Cond) ∈ lw_tbl ∧ goodWord (Jvm.Cond.code ({ cls := "TallyWaxLaw$Sim", name := "isSame", desc := "(LTallyWax;)Z" } : Jvm.MethodName) prog_6_method_9_code (10 : Nat) (Option.some Jvm.ClassFile.FieldType.boolean)) = true := ⟨List.mem_of_getElem? (i := 434) (by decide +kernel), by decide +kernel⟩
theorem k_RL_175 : lkV RL 175 yX4_isSame cX4_isSame 10 (Option.some FieldType.boolean) 1 := ⟨tw_407, tw_408, tw_409, tw_4, gw_410, ⟨⟨by decide +kernel, by decide +kernel⟩, by decide +kernel⟩⟩
theorem tw_411 : tw (Jvm.Cond.classLink "TallyWaxLaw$Sim" (46 : Nat) "[[I") := ⟨List.mem_of_getElem? (i := 435) (by decide +kernel), by decide +kernel⟩
theorem tw_412 : tw (Jvm.Cond.methodLink "TallyWaxLaw$Sim" (27 : Nat) ({ cls := "TallyWaxLaw$Sim", name := "has", desc := "([[I)[I" } : Jvm.MethodName)) := ⟨List.mem_of_getElem? (i := 436) (by decide +kernel), by decide +kernel⟩
theorem tw_413 : tw (Jvm.Cond.static ({ cls := "TallyWaxLaw$Sim", name := "has", desc := "([[I)[I" } : Jvm.MethodName)) := ⟨List.mem_of_getElem? (i := 437) (by decide +kernel), by decide +kernel⟩
theorem gw_414 : ((Jvm.Cond.code ({ cls := "TallyWaxLaw$Sim", name := "has", desc := "([[I)[I" } : Jvm.MethodName) prog_6_method_4_code (6 : Nat) (Option.some (Jvm.ClassFile.FieldType.array Jvm.ClassFile.FieldType.int))) : Cond) ∈ lw_tbl ∧ goodWord (Jvm.Cond.code ({ cls := "TallyWaxLaw$Sim", name := "has", desc := "([[I)[I" } : Jvm.MethodName) prog_6_method_4_code (6 : Nat) (Option.some (Jvm.ClassFile.FieldType.array Jvm.ClassFile.FieldType.int))) = true := ⟨List.mem_of_getElem? (i := 438) (by decide +kernel), by decide +kernel⟩
theorem k_RX4_27 : lkS RX4 27 yX4_has cX4_has 6 (Option.some (FieldType.array FieldType.int)) 1 := ⟨tw_412, tw_413, tw_4, gw_414, ⟨⟨by decide +kernel, by decide +kernel⟩, by decide +kernel⟩⟩
theorem tw_415 : tw (Jvm.Cond.methodLink "TallyWaxLaw$Sim" (47 : Nat) ({ cls := "TallyWax", name := "linesOf", desc := "(I)I" } : Jvm.MethodName)) := ⟨List.mem_of_getElem? (i := 439) (by decide +kernel), by decide +kernel⟩
theorem k_RX4_47 : lkV RX4 47 yX3_linesOf cX3_linesOf 2 (Option.some FieldType.int) 1 := ⟨tw_415, tw_234, tw_235, tw_1, gw_236, ⟨⟨by decide +kernel, by decide +kernel⟩, by decide +kernel⟩⟩
theorem tw_416 : tw (Jvm.Cond.methodLink "TallyWaxLaw$Sim" (53 : Nat) ({ cls := "TallyWax", name := "isInCellar", desc := "(I)Z" } : Jvm.MethodName)) := ⟨List.mem_of_getElem? (i := 440) (by decide +kernel), by decide +kernel⟩
theorem k_RX4_53 : lkV RX4 53 yX3_isInCellar cX3_isInCellar 2 (Option.some FieldType.boolean) 1 := ⟨tw_416, tw_243, tw_244, tw_1, gw_245, ⟨⟨by decide +kernel, by decide +kernel⟩, by decide +kernel⟩⟩
theorem tw_417 : tw (Jvm.Cond.methodLink "TallyWaxLaw$Sim" (57 : Nat) ({ cls := "TallyWax", name := "hasOn", desc := "(II)I" } : Jvm.MethodName)) := ⟨List.mem_of_getElem? (i := 441) (by decide +kernel), by decide +kernel⟩
theorem k_RX4_57 : lkV RX4 57 yX3_hasOn cX3_hasOn 4 (Option.some FieldType.int) 2 := ⟨tw_417, tw_284, tw_285, tw_1, gw_286, ⟨⟨by decide +kernel, by decide +kernel⟩, by decide +kernel⟩⟩
theorem tw_418 : tw (Jvm.Cond.methodLink "TallyWaxLaw$Sim" (61 : Nat) ({ cls := "TallyWax", name := "debtorOf", desc := "(II)I" } : Jvm.MethodName)) := ⟨List.mem_of_getElem? (i := 442) (by decide +kernel), by decide +kernel⟩
theorem k_RX4_61 : lkV RX4 61 yX3_debtorOf cX3_debtorOf 3 (Option.some FieldType.int) 2 := ⟨tw_418, tw_247, tw_248, tw_1, gw_249, ⟨⟨by decide +kernel, by decide +kernel⟩, by decide +kernel⟩⟩
theorem tw_419 : tw (Jvm.Cond.methodLink "TallyWaxLaw$Sim" (64 : Nat) ({ cls := "TallyWax", name := "creditorOf", desc := "(II)I" } : Jvm.MethodName)) := ⟨List.mem_of_getElem? (i := 443) (by decide +kernel), by decide +kernel⟩
theorem k_RX4_64 : lkV RX4 64 yX3_creditorOf cX3_creditorOf 3 (Option.some FieldType.int) 2 := ⟨tw_419, tw_256, tw_257, tw_1, gw_258, ⟨⟨by decide +kernel, by decide +kernel⟩, by decide +kernel⟩⟩
theorem tw_420 : tw (Jvm.Cond.methodLink "TallyWaxLaw$Sim" (67 : Nat) ({ cls := "TallyWax", name := "amountOf", desc := "(II)I" } : Jvm.MethodName)) := ⟨List.mem_of_getElem? (i := 444) (by decide +kernel), by decide +kernel⟩
theorem k_RX4_67 : lkV RX4 67 yX3_amountOf cX3_amountOf 3 (Option.some FieldType.int) 2 := ⟨tw_420, tw_260, tw_261, tw_1, gw_262, ⟨⟨by decide +kernel, by decide +kernel⟩, by decide +kernel⟩⟩
theorem tw_421 : tw (Jvm.Cond.methodLink "TallyWaxLaw$Sim" (70 : Nat) ({ cls := "TallyWax", name := "isWitnessed", desc := "(II)Z" } : Jvm.MethodName)) := ⟨List.mem_of_getElem? (i := 445) (by decide +kernel), by decide +kernel⟩
theorem k_RX4_70 : lkV RX4 70 yX3_isWitnessed cX3_isWitnessed 3 (Option.some FieldType.boolean) 2 := ⟨tw_421, tw_264, tw_265, tw_1, gw_266, ⟨⟨by decide +kernel, by decide +kernel⟩, by decide +kernel⟩⟩
theorem tw_422 : tw (Jvm.Cond.methodLink "TallyWaxLaw$Sim" (73 : Nat) ({ cls := "TallyWax", name := "isThere", desc := "(I)Z" } : Jvm.MethodName)) := ⟨List.mem_of_getElem? (i := 446) (by decide +kernel), by decide +kernel⟩
theorem k_RX4_73 : lkV RX4 73 yX3_isThere cX3_isThere 2 (Option.some FieldType.boolean) 1 := ⟨tw_422, tw_208, tw_209, tw_1, gw_210, ⟨⟨by decide +kernel, by decide +kernel⟩, by decide +kernel⟩⟩
theorem tw_423 : tw (Jvm.Cond.methodLink "TallyWaxLaw$Sim" (76 : Nat) ({ cls := "TallyWax", name := "has", desc := "(I)I" } : Jvm.MethodName)) := ⟨List.mem_of_getElem? (i := 447) (by decide +kernel), by decide +kernel⟩
theorem k_RX4_76 : lkV RX4 76 yX3_has cX3_has 2 (Option.some FieldType.int) 1 := ⟨tw_423, tw_272, tw_273, tw_1, gw_274, ⟨⟨by decide +kernel, by decide +kernel⟩, by decide +kernel⟩⟩
theorem tw_424 : tw (Jvm.Cond.methodLink "TallyWaxLaw$Sim" (78 : Nat) ({ cls := "TallyWax", name := "owes", desc := "(II)I" } : Jvm.MethodName)) := ⟨List.mem_of_getElem? (i := 448) (by decide +kernel), by decide +kernel⟩
theorem k_RX4_78 : lkV RX4 78 yX3_owes cX3_owes 8 (Option.some FieldType.int) 2 := ⟨tw_424, tw_288, tw_289, tw_1, gw_290, ⟨⟨by decide +kernel, by decide +kernel⟩, by decide +kernel⟩⟩
theorem tw_425 : tw (Jvm.Cond.methodLink "TallyWaxLaw$Sim" (81 : Nat) ({ cls := "TallyWax", name := "year", desc := "()I" } : Jvm.MethodName)) := ⟨List.mem_of_getElem? (i := 449) (by decide +kernel), by decide +kernel⟩
theorem k_RX4_81 : lkV RX4 81 yX3_year cX3_year 1 (Option.some FieldType.int) 0 := ⟨tw_425, tw_188, tw_189, tw_1, gw_190, ⟨⟨by decide +kernel, by decide +kernel⟩, by decide +kernel⟩⟩
theorem tw_426 : tw (Jvm.Cond.methodLink "TallyWaxLaw$Sim" (84 : Nat) ({ cls := "TallyWax", name := "tablets", desc := "()I" } : Jvm.MethodName)) := ⟨List.mem_of_getElem? (i := 450) (by decide +kernel), by decide +kernel⟩
theorem k_RX4_84 : lkV RX4 84 yX3_tablets cX3_tablets 1 (Option.some FieldType.int) 0 := ⟨tw_426, tw_192, tw_193, tw_1, gw_194, ⟨⟨by decide +kernel, by decide +kernel⟩, by decide +kernel⟩⟩
theorem tw_427 : tw (Jvm.Cond.methodLink "TallyWaxLaw$Sim" (86 : Nat) ({ cls := "TallyWax", name := "lines", desc := "()I" } : Jvm.MethodName)) := ⟨List.mem_of_getElem? (i := 451) (by decide +kernel), by decide +kernel⟩
theorem k_RX4_86 : lkV RX4 86 yX3_lines cX3_lines 6 (Option.some FieldType.int) 0 := ⟨tw_427, tw_196, tw_197, tw_1, gw_198, ⟨⟨by decide +kernel, by decide +kernel⟩, by decide +kernel⟩⟩
theorem tw_428 : tw (Jvm.Cond.methodLink "TallyWaxLaw$Sim" (88 : Nat) ({ cls := "TallyWax", name := "melted", desc := "()I" } : Jvm.MethodName)) := ⟨List.mem_of_getElem? (i := 452) (by decide +kernel), by decide +kernel⟩
theorem k_RX4_88 : lkV RX4 88 yX3_melted cX3_melted 1 (Option.some FieldType.int) 0 := ⟨tw_428, tw_200, tw_201, tw_1, gw_202, ⟨⟨by decide +kernel, by decide +kernel⟩, by decide +kernel⟩⟩
theorem tw_429 : tw (Jvm.Cond.methodLink "TallyWaxLaw$Sim" (90 : Nat) ({ cls := "TallyWax", name := "denied", desc := "()I" } : Jvm.MethodName)) := ⟨List.mem_of_getElem? (i := 453) (by decide +kernel), by decide +kernel⟩
theorem k_RX4_90 : lkV RX4 90 yX3_denied cX3_denied 1 (Option.some FieldType.int) 0 := ⟨tw_429, tw_204, tw_205, tw_1, gw_206, ⟨⟨by decide +kernel, by decide +kernel⟩, by decide +kernel⟩⟩
theorem tw_430 : tw (Jvm.Cond.methodLink "TallyWaxLaw$Sim" (95 : Nat) ({ cls := "TallyWax", name := "total", desc := "()I" } : Jvm.MethodName)) := ⟨List.mem_of_getElem? (i := 454) (by decide +kernel), by decide +kernel⟩
theorem k_RX4_95 : lkV RX4 95 yX3_total cX3_total 6 (Option.some FieldType.int) 0 := ⟨tw_430, tw_296, tw_297, tw_1, gw_298, ⟨⟨by decide +kernel, by decide +kernel⟩, by decide +kernel⟩⟩
theorem tw_433 : tw (Jvm.Cond.selects "TallyWaxLaw$Sim" ({ cls := "TallyWaxLaw$Sim", name := "total", desc := "()I" } : Jvm.MethodName) ({ cls := "TallyWaxLaw$Sim", name := "total", desc := "()I" } : Jvm.MethodName)) := ⟨List.mem_of_getElem? (i := 457) (by decide +kernel), by decide +kernel⟩
theorem tw_431 : tw (Jvm.Cond.methodLink "TallyWaxLaw$Sim" (98 : Nat) ({ cls := "TallyWaxLaw$Sim", name := "total", desc := "()I" } : Jvm.MethodName)) := ⟨List.mem_of_getElem? (i := 455) (by decide +kernel), by decide +kernel⟩
theorem tw_432 : tw (Jvm.Cond.instanceMethod ({ cls := "TallyWaxLaw$Sim", name := "total", desc := "()I" } : Jvm.MethodName)) := ⟨List.mem_of_getElem? (i := 456) (by decide +kernel), by decide +kernel⟩
theorem gw_434 : ((Jvm.Cond.code ({ cls := "TallyWaxLaw$Sim", name := "total", desc := "()I" } : Jvm.MethodName) prog_6_method_8_code (10 : Nat) (Option.some Jvm.ClassFile.FieldType.int)) : Cond) ∈ lw_tbl ∧ goodWord (Jvm.Cond.code ({ cls := "TallyWaxLaw$Sim", name := "total", desc := "()I" } : Jvm.MethodName) prog_6_method_8_code (10 : Nat) (Option.some Jvm.ClassFile.FieldType.int)) = true := ⟨List.mem_of_getElem? (i := 458) (by decide +kernel), by decide +kernel⟩
theorem k_RX4_98 : lkV RX4 98 yX4_total cX4_total 10 (Option.some FieldType.int) 0 := ⟨tw_431, tw_432, tw_433, tw_4, gw_434, ⟨⟨by decide +kernel, by decide +kernel⟩, by decide +kernel⟩⟩
theorem tw_435 : tw (Jvm.Cond.methodLink "TallyWaxLaw$Sim" (99 : Nat) ({ cls := "TallyWax", name := "richest", desc := "()I" } : Jvm.MethodName)) := ⟨List.mem_of_getElem? (i := 459) (by decide +kernel), by decide +kernel⟩
theorem k_RX4_99 : lkV RX4 99 yX3_richest cX3_richest 5 (Option.some FieldType.int) 0 := ⟨tw_435, tw_304, tw_305, tw_1, gw_306, ⟨⟨by decide +kernel, by decide +kernel⟩, by decide +kernel⟩⟩
theorem tw_436 : tw (Jvm.Cond.methodLink "TallyWaxLaw$Sim" (102 : Nat) ({ cls := "TallyWax", name := "meanAmount", desc := "()D" } : Jvm.MethodName)) := ⟨List.mem_of_getElem? (i := 460) (by decide +kernel), by decide +kernel⟩
theorem k_RX4_102 : lkV RX4 102 yX3_meanAmount cX3_meanAmount 2 (Option.some FieldType.double) 0 := ⟨tw_436, tw_392, tw_393, tw_1, gw_394, ⟨⟨by decide +kernel, by decide +kernel⟩, by decide +kernel⟩⟩
theorem tw_0 : tw (Jvm.Cond.initialized "TallyWaxLaw") := ⟨List.mem_of_getElem? (i := 24) (by decide +kernel), by decide +kernel⟩
theorem tw_437 : tw (Jvm.Cond.methodLink "TallyWaxLaw" (88 : Nat) ({ cls := "TallyWaxLaw", name := "cell", desc := "([II)I" } : Jvm.MethodName)) := ⟨List.mem_of_getElem? (i := 461) (by decide +kernel), by decide +kernel⟩
theorem tw_438 : tw (Jvm.Cond.static ({ cls := "TallyWaxLaw", name := "cell", desc := "([II)I" } : Jvm.MethodName)) := ⟨List.mem_of_getElem? (i := 462) (by decide +kernel), by decide +kernel⟩
theorem gw_439 : ((Jvm.Cond.code ({ cls := "TallyWaxLaw", name := "cell", desc := "([II)I" } : Jvm.MethodName) method_3_code (2 : Nat) (Option.some Jvm.ClassFile.FieldType.int)) : Cond) ∈ lw_tbl ∧ goodWord (Jvm.Cond.code ({ cls := "TallyWaxLaw", name := "cell", desc := "([II)I" } : Jvm.MethodName) method_3_code (2 : Nat) (Option.some Jvm.ClassFile.FieldType.int)) = true := ⟨List.mem_of_getElem? (i := 463) (by decide +kernel), by decide +kernel⟩
theorem k_RL_88 : lkS RL 88 yL_cell cL_cell 2 (Option.some FieldType.int) 2 := ⟨tw_437, tw_438, tw_0, gw_439, ⟨⟨by decide +kernel, by decide +kernel⟩, by decide +kernel⟩⟩
theorem tw_440 : tw (Jvm.Cond.constant "TallyWaxLaw" (8 : Nat) (790386105 : Int32)) := ⟨List.mem_of_getElem? (i := 464) (by decide +kernel), by decide +kernel⟩
theorem tw_441 : tw (Jvm.Cond.methodLink "TallyWaxLaw" (92 : Nat) ({ cls := "TallyWaxLaw", name := "act", desc := "(LTallyWax;LTallyWaxLaw$Sim;I)Z" } : Jvm.MethodName)) := ⟨List.mem_of_getElem? (i := 465) (by decide +kernel), by decide +kernel⟩
theorem tw_442 : tw (Jvm.Cond.static ({ cls := "TallyWaxLaw", name := "act", desc := "(LTallyWax;LTallyWaxLaw$Sim;I)Z" } : Jvm.MethodName)) := ⟨List.mem_of_getElem? (i := 466) (by decide +kernel), by decide +kernel⟩
theorem gw_443 : ((Jvm.Cond.code ({ cls := "TallyWaxLaw", name := "act", desc := "(LTallyWax;LTallyWaxLaw$Sim;I)Z" } : Jvm.MethodName) method_4_code (19 : Nat) (Option.some Jvm.ClassFile.FieldType.boolean)) : Cond) ∈ lw_tbl ∧ goodWord (Jvm.Cond.code ({ cls := "TallyWaxLaw", name := "act", desc := "(LTallyWax;LTallyWaxLaw$Sim;I)Z" } : Jvm.MethodName) method_4_code (19 : Nat) (Option.some Jvm.ClassFile.FieldType.boolean)) = true := ⟨List.mem_of_getElem? (i := 467) rfl, rfl⟩
theorem k_RL_92 : lkS RL 92 yL_act cL_act 19 (Option.some FieldType.boolean) 3 := ⟨tw_441, tw_442, tw_0, gw_443, ⟨⟨by decide +kernel, by decide +kernel⟩, by decide +kernel⟩⟩
theorem tw_444 : tw (Jvm.Cond.methodLink "TallyWaxLaw" (15 : Nat) ({ cls := "TallyWaxLaw", name := "below", desc := "(II)I" } : Jvm.MethodName)) := ⟨List.mem_of_getElem? (i := 468) (by decide +kernel), by decide +kernel⟩
theorem tw_445 : tw (Jvm.Cond.static ({ cls := "TallyWaxLaw", name := "below", desc := "(II)I" } : Jvm.MethodName)) := ⟨List.mem_of_getElem? (i := 469) (by decide +kernel), by decide +kernel⟩
theorem gw_446 : ((Jvm.Cond.code ({ cls := "TallyWaxLaw", name := "below", desc := "(II)I" } : Jvm.MethodName) method_2_code (2 : Nat) (Option.some Jvm.ClassFile.FieldType.int)) : Cond) ∈ lw_tbl ∧ goodWord (Jvm.Cond.code ({ cls := "TallyWaxLaw", name := "below", desc := "(II)I" } : Jvm.MethodName) method_2_code (2 : Nat) (Option.some Jvm.ClassFile.FieldType.int)) = true := ⟨List.mem_of_getElem? (i := 470) (by decide +kernel), by decide +kernel⟩
theorem k_RL_15 : lkS RL 15 yL_below cL_below 2 (Option.some FieldType.int) 2 := ⟨tw_444, tw_445, tw_0, gw_446, ⟨⟨by decide +kernel, by decide +kernel⟩, by decide +kernel⟩⟩
theorem tw_447 : tw (Jvm.Cond.constant "TallyWaxLaw" (7 : Nat) (2147483647 : Int32)) := ⟨List.mem_of_getElem? (i := 471) (by decide +kernel), by decide +kernel⟩
theorem tw_448 : tw (Jvm.Cond.methodLink "TallyWaxLaw" (21 : Nat) ({ cls := "TallyWaxLaw$Sim", name := "with", desc := "([[I[I)[[I" } : Jvm.MethodName)) := ⟨List.mem_of_getElem? (i := 472) (by decide +kernel), by decide +kernel⟩
theorem tw_449 : tw (Jvm.Cond.static ({ cls := "TallyWaxLaw$Sim", name := "with", desc := "([[I[I)[[I" } : Jvm.MethodName)) := ⟨List.mem_of_getElem? (i := 473) (by decide +kernel), by decide +kernel⟩
theorem gw_450 : ((Jvm.Cond.code ({ cls := "TallyWaxLaw$Sim", name := "with", desc := "([[I[I)[[I" } : Jvm.MethodName) prog_6_method_2_code (4 : Nat) (Option.some (Jvm.ClassFile.FieldType.array (Jvm.ClassFile.FieldType.array Jvm.ClassFile.FieldType.int)))) : Cond) ∈ lw_tbl ∧ goodWord (Jvm.Cond.code ({ cls := "TallyWaxLaw$Sim", name := "with", desc := "([[I[I)[[I" } : Jvm.MethodName) prog_6_method_2_code (4 : Nat) (Option.some (Jvm.ClassFile.FieldType.array (Jvm.ClassFile.FieldType.array Jvm.ClassFile.FieldType.int)))) = true := ⟨List.mem_of_getElem? (i := 474) (by decide +kernel), by decide +kernel⟩
theorem k_RL_21 : lkS RL 21 yX4_with cX4_with 4 (Option.some (FieldType.array (FieldType.array FieldType.int))) 2 := ⟨tw_448, tw_449, tw_4, gw_450, ⟨⟨by decide +kernel, by decide +kernel⟩, by decide +kernel⟩⟩
theorem tw_453 : tw (Jvm.Cond.selects "TallyWax" ({ cls := "TallyWax", name := "addTablet", desc := "(I)I" } : Jvm.MethodName) ({ cls := "TallyWax", name := "addTablet", desc := "(I)I" } : Jvm.MethodName)) := ⟨List.mem_of_getElem? (i := 477) (by decide +kernel), by decide +kernel⟩
theorem tw_451 : tw (Jvm.Cond.methodLink "TallyWaxLaw" (25 : Nat) ({ cls := "TallyWax", name := "addTablet", desc := "(I)I" } : Jvm.MethodName)) := ⟨List.mem_of_getElem? (i := 475) (by decide +kernel), by decide +kernel⟩
theorem tw_452 : tw (Jvm.Cond.instanceMethod ({ cls := "TallyWax", name := "addTablet", desc := "(I)I" } : Jvm.MethodName)) := ⟨List.mem_of_getElem? (i := 476) (by decide +kernel), by decide +kernel⟩
theorem gw_454 : ((Jvm.Cond.code ({ cls := "TallyWax", name := "addTablet", desc := "(I)I" } : Jvm.MethodName) prog_1_method_2_code (3 : Nat) (Option.some Jvm.ClassFile.FieldType.int)) : Cond) ∈ lw_tbl ∧ goodWord (Jvm.Cond.code ({ cls := "TallyWax", name := "addTablet", desc := "(I)I" } : Jvm.MethodName) prog_1_method_2_code (3 : Nat) (Option.some Jvm.ClassFile.FieldType.int)) = true := ⟨List.mem_of_getElem? (i := 478) (by decide +kernel), by decide +kernel⟩
theorem k_RL_25 : lkV RL 25 yX3_addTablet cX3_addTablet 3 (Option.some FieldType.int) 1 := ⟨tw_451, tw_452, tw_453, tw_1, gw_454, ⟨⟨by decide +kernel, by decide +kernel⟩, by decide +kernel⟩⟩
theorem sw_455 : ((Jvm.Cond.stringRef "TallyWax" (35 : Nat) "hardness is not 1 to 9") : Cond) ∈ lw_tbl := List.mem_of_getElem? (i := 479) (by decide +kernel)
theorem tw_456 : tw (Jvm.Cond.classLink "TallyWax" (44 : Nat) "java/lang/IllegalStateException") := ⟨List.mem_of_getElem? (i := 480) (by decide +kernel), by decide +kernel⟩
theorem sw_465 : ((Jvm.Cond.stringRef "TallyWax" (46 : Nat) "there are 8 tablets") : Cond) ∈ lw_tbl := List.mem_of_getElem? (i := 489) (by decide +kernel)
theorem tw_466 : tw (Jvm.Cond.methodLink "TallyWax" (48 : Nat) ({ cls := "java/lang/IllegalStateException", name := "<init>", desc := "(Ljava/lang/String;)V" } : Jvm.MethodName)) := ⟨List.mem_of_getElem? (i := 490) (by decide +kernel), by decide +kernel⟩
theorem tw_472 : tw (Jvm.Cond.methodLinkNest "TallyWax" (49 : Nat) ({ cls := "TallyWax$Tablet", name := "<init>", desc := "(I)V" } : Jvm.MethodName) "TallyWax") := ⟨List.mem_of_getElem? (i := 496) (by decide +kernel), by decide +kernel⟩
theorem tw_473 : tw (Jvm.Cond.instanceMethod ({ cls := "TallyWax$Tablet", name := "<init>", desc := "(I)V" } : Jvm.MethodName)) := ⟨List.mem_of_getElem? (i := 497) (by decide +kernel), by decide +kernel⟩
theorem gw_474 : ((Jvm.Cond.code ({ cls := "TallyWax$Tablet", name := "<init>", desc := "(I)V" } : Jvm.MethodName) prog_4_method_1_code (2 : Nat) (Option.none : Option Jvm.ClassFile.FieldType)) : Cond) ∈ lw_tbl ∧ goodWord (Jvm.Cond.code ({ cls := "TallyWax$Tablet", name := "<init>", desc := "(I)V" } : Jvm.MethodName) prog_4_method_1_code (2 : Nat) (Option.none : Option Jvm.ClassFile.FieldType)) = true := ⟨List.mem_of_getElem? (i := 498) (by decide +kernel), by decide +kernel⟩
theorem k_RX3_49 : lkI RX3 49 yX2_init cX2_init 2 1 := ⟨Or.inr ⟨_, tw_472⟩, tw_473, tw_10, gw_474, ⟨⟨by decide +kernel, by decide +kernel⟩, by decide +kernel⟩, rfl⟩
theorem tw_475 : tw (Jvm.Cond.methodLink "TallyWax$Tablet" (1 : Nat) ({ cls := "java/lang/Object", name := "<init>", desc := "()V" } : Jvm.MethodName)) := ⟨List.mem_of_getElem? (i := 499) (by decide +kernel), by decide +kernel⟩
theorem tw_476 : tw (Jvm.Cond.classLink "TallyWax$Tablet" (7 : Nat) "TallyWax$LineList") := ⟨List.mem_of_getElem? (i := 500) (by decide +kernel), by decide +kernel⟩
theorem k_RX2_7 : lkC RX2 7 0 5 [.null, .null, .null, .null, .int 0] := by
  refine ⟨RX0, TX0, rfl, tw_476.1, tw_31.1, tw_3.1, fun ty0 h j hj => ?_⟩
  have hj2 := h j hj
  rcases (show j = 0 ∨ j = 1 ∨ j = 2 ∨ j = 3 ∨ j = 4 by omega) with rfl | rfl | rfl | rfl | rfl <;>
    (rw [Option.some.inj (hj2.symm.trans (tyX0_ok _ hj))]; rfl)
theorem tw_477 : tw (Jvm.Cond.methodLinkNest "TallyWax$Tablet" (9 : Nat) ({ cls := "TallyWax$LineList", name := "<init>", desc := "()V" } : Jvm.MethodName) "TallyWax") := ⟨List.mem_of_getElem? (i := 501) (by decide +kernel), by decide +kernel⟩
theorem k_RX2_9 : lkI RX2 9 yX0_init cX0_init 1 0 := ⟨Or.inr ⟨_, tw_477⟩, tw_33, tw_3, gw_34, ⟨⟨by decide +kernel, by decide +kernel⟩, by decide +kernel⟩, rfl⟩
theorem tw_478 : tw (Jvm.Cond.fieldLink "TallyWax$Tablet" (16 : Nat) "TallyWax$Tablet" "hardness" "I") := ⟨List.mem_of_getElem? (i := 502) (by decide +kernel), by decide +kernel⟩
theorem k_RX2_16 : lkF RX2 16 2 0 := ⟨RX2, TX2, 3, rfl, by decide, Or.inl tw_478.1⟩
theorem ko_RX2_16 : lkFo RX2 16 2 0 := ⟨RX2, TX2, 3, rfl, by decide, tw_478.1⟩
theorem tw_479 : tw (Jvm.Cond.fieldLink "TallyWax$Tablet" (20 : Nat) "TallyWax$Tablet" "inCellar" "Z") := ⟨List.mem_of_getElem? (i := 503) (by decide +kernel), by decide +kernel⟩
theorem k_RX2_20 : lkF RX2 20 2 1 := ⟨RX2, TX2, 3, rfl, by decide, Or.inl tw_479.1⟩
theorem tw_480 : tw (Jvm.Cond.fieldLinkNest "TallyWax" (122 : Nat) "TallyWax$Tablet" "inCellar" "Z" "TallyWax") := ⟨List.mem_of_getElem? (i := 504) (by decide +kernel), by decide +kernel⟩
theorem k_RX3_122 : lkF RX3 122 2 1 := ⟨RX2, TX2, 3, rfl, by decide, Or.inr ⟨_, tw_480.1⟩⟩
theorem tw_481 : tw (Jvm.Cond.fieldLink "TallyWax$Tablet" (10 : Nat) "TallyWax$Tablet" "lines" "LTallyWax$LineList;") := ⟨List.mem_of_getElem? (i := 505) (by decide +kernel), by decide +kernel⟩
theorem k_RX2_10 : lkF RX2 10 2 2 := ⟨RX2, TX2, 3, rfl, by decide, Or.inl tw_481.1⟩
theorem ko_RX2_10 : lkFo RX2 10 2 2 := ⟨RX2, TX2, 3, rfl, by decide, tw_481.1⟩
theorem tw_482 : tw (Jvm.Cond.fieldLinkNest "TallyWax" (56 : Nat) "TallyWax$Tablet" "lines" "LTallyWax$LineList;" "TallyWax") := ⟨List.mem_of_getElem? (i := 506) (by decide +kernel), by decide +kernel⟩
theorem k_RX3_56 : lkF RX3 56 2 2 := ⟨RX2, TX2, 3, rfl, by decide, Or.inr ⟨_, tw_482.1⟩⟩
theorem tw_490 : tw (Jvm.Cond.methodLink "TallyWaxLaw" (35 : Nat) ({ cls := "java/lang/Math", name := "min", desc := "(II)I" } : Jvm.MethodName)) := ⟨List.mem_of_getElem? (i := 514) (by decide +kernel), by decide +kernel⟩
theorem tw_491 : tw (Jvm.Cond.methodLink "TallyWaxLaw" (40 : Nat) ({ cls := "TallyWaxLaw$Sim", name := "without", desc := "([[II)[[I" } : Jvm.MethodName)) := ⟨List.mem_of_getElem? (i := 515) (by decide +kernel), by decide +kernel⟩
theorem tw_492 : tw (Jvm.Cond.static ({ cls := "TallyWaxLaw$Sim", name := "without", desc := "([[II)[[I" } : Jvm.MethodName)) := ⟨List.mem_of_getElem? (i := 516) (by decide +kernel), by decide +kernel⟩
theorem gw_493 : ((Jvm.Cond.code ({ cls := "TallyWaxLaw$Sim", name := "without", desc := "([[II)[[I" } : Jvm.MethodName) prog_6_method_3_code (4 : Nat) (Option.some (Jvm.ClassFile.FieldType.array (Jvm.ClassFile.FieldType.array Jvm.ClassFile.FieldType.int)))) : Cond) ∈ lw_tbl ∧ goodWord (Jvm.Cond.code ({ cls := "TallyWaxLaw$Sim", name := "without", desc := "([[II)[[I" } : Jvm.MethodName) prog_6_method_3_code (4 : Nat) (Option.some (Jvm.ClassFile.FieldType.array (Jvm.ClassFile.FieldType.array Jvm.ClassFile.FieldType.int)))) = true := ⟨List.mem_of_getElem? (i := 517) (by decide +kernel), by decide +kernel⟩
theorem k_RL_40 : lkS RL 40 yX4_without cX4_without 4 (Option.some (FieldType.array (FieldType.array FieldType.int))) 2 := ⟨tw_491, tw_492, tw_4, gw_493, ⟨⟨by decide +kernel, by decide +kernel⟩, by decide +kernel⟩⟩
theorem tw_496 : tw (Jvm.Cond.selects "TallyWax" ({ cls := "TallyWax", name := "pay", desc := "(III)I" } : Jvm.MethodName) ({ cls := "TallyWax", name := "pay", desc := "(III)I" } : Jvm.MethodName)) := ⟨List.mem_of_getElem? (i := 520) (by decide +kernel), by decide +kernel⟩
theorem tw_494 : tw (Jvm.Cond.methodLink "TallyWaxLaw" (44 : Nat) ({ cls := "TallyWax", name := "pay", desc := "(III)I" } : Jvm.MethodName)) := ⟨List.mem_of_getElem? (i := 518) (by decide +kernel), by decide +kernel⟩
theorem tw_495 : tw (Jvm.Cond.instanceMethod ({ cls := "TallyWax", name := "pay", desc := "(III)I" } : Jvm.MethodName)) := ⟨List.mem_of_getElem? (i := 519) (by decide +kernel), by decide +kernel⟩
theorem gw_497 : ((Jvm.Cond.code ({ cls := "TallyWax", name := "pay", desc := "(III)I" } : Jvm.MethodName) prog_1_method_4_code (6 : Nat) (Option.some Jvm.ClassFile.FieldType.int)) : Cond) ∈ lw_tbl ∧ goodWord (Jvm.Cond.code ({ cls := "TallyWax", name := "pay", desc := "(III)I" } : Jvm.MethodName) prog_1_method_4_code (6 : Nat) (Option.some Jvm.ClassFile.FieldType.int)) = true := ⟨List.mem_of_getElem? (i := 521) (by decide +kernel), by decide +kernel⟩
theorem k_RL_44 : lkV RL 44 yX3_pay cX3_pay 6 (Option.some FieldType.int) 3 := ⟨tw_494, tw_495, tw_496, tw_1, gw_497, ⟨⟨by decide +kernel, by decide +kernel⟩, by decide +kernel⟩⟩
theorem sw_498 : ((Jvm.Cond.stringRef "TallyWax" (91 : Nat) "amount is not 1 to the amount of the line") : Cond) ∈ lw_tbl := List.mem_of_getElem? (i := 522) (by decide +kernel)
theorem twp_22 : tw (.selects "TallyWax$LineList" ({ cls := "TallyWax$LineList", name := "takeOut", desc := "(I)V" } : Jvm.MethodName) ({ cls := "TallyWax$LineList", name := "takeOut", desc := "(I)V" } : Jvm.MethodName)) := ⟨List.mem_of_getElem? (i := 22) (by decide +kernel), by decide +kernel⟩
theorem tw_499 : tw (Jvm.Cond.methodLinkNest "TallyWax" (93 : Nat) ({ cls := "TallyWax$LineList", name := "takeOut", desc := "(I)V" } : Jvm.MethodName) "TallyWax") := ⟨List.mem_of_getElem? (i := 523) (by decide +kernel), by decide +kernel⟩
theorem tw_501 : tw (Jvm.Cond.instanceMethod ({ cls := "TallyWax$LineList", name := "takeOut", desc := "(I)V" } : Jvm.MethodName)) := ⟨List.mem_of_getElem? (i := 525) (by decide +kernel), by decide +kernel⟩
theorem gw_502 : ((Jvm.Cond.code ({ cls := "TallyWax$LineList", name := "takeOut", desc := "(I)V" } : Jvm.MethodName) prog_2_method_3_code (4 : Nat) (Option.none : Option Jvm.ClassFile.FieldType)) : Cond) ∈ lw_tbl ∧ goodWord (Jvm.Cond.code ({ cls := "TallyWax$LineList", name := "takeOut", desc := "(I)V" } : Jvm.MethodName) prog_2_method_3_code (4 : Nat) (Option.none : Option Jvm.ClassFile.FieldType)) = true := ⟨List.mem_of_getElem? (i := 526) (by decide +kernel), by decide +kernel⟩
theorem k_RX3_93 : lkVN RX3 93 yX0_takeOut cX0_takeOut 4 (Option.none : Option FieldType) 1 := ⟨⟨_, tw_499⟩, tw_501, twp_22, tw_3, gw_502, ⟨⟨by decide +kernel, by decide +kernel⟩, by decide +kernel⟩⟩
theorem tw_503 : tw (Jvm.Cond.methodLink "TallyWax$LineList" (28 : Nat) ({ cls := "TallyWax$LineList", name := "append", desc := "(IIII)V" } : Jvm.MethodName)) := ⟨List.mem_of_getElem? (i := 527) (by decide +kernel), by decide +kernel⟩
theorem k_RX0_28 : lkV RX0 28 yX0_append cX0_append 6 (Option.none : Option FieldType) 4 := ⟨tw_503, tw_369, twp_19, tw_3, gw_370, ⟨⟨by decide +kernel, by decide +kernel⟩, by decide +kernel⟩⟩
theorem tw_506 : tw (Jvm.Cond.selects "TallyWax" ({ cls := "TallyWax", name := "deny", desc := "(II)I" } : Jvm.MethodName) ({ cls := "TallyWax", name := "deny", desc := "(II)I" } : Jvm.MethodName)) := ⟨List.mem_of_getElem? (i := 530) (by decide +kernel), by decide +kernel⟩
theorem tw_504 : tw (Jvm.Cond.methodLink "TallyWaxLaw" (56 : Nat) ({ cls := "TallyWax", name := "deny", desc := "(II)I" } : Jvm.MethodName)) := ⟨List.mem_of_getElem? (i := 528) (by decide +kernel), by decide +kernel⟩
theorem tw_505 : tw (Jvm.Cond.instanceMethod ({ cls := "TallyWax", name := "deny", desc := "(II)I" } : Jvm.MethodName)) := ⟨List.mem_of_getElem? (i := 529) (by decide +kernel), by decide +kernel⟩
theorem gw_507 : ((Jvm.Cond.code ({ cls := "TallyWax", name := "deny", desc := "(II)I" } : Jvm.MethodName) prog_1_method_5_code (5 : Nat) (Option.some Jvm.ClassFile.FieldType.int)) : Cond) ∈ lw_tbl ∧ goodWord (Jvm.Cond.code ({ cls := "TallyWax", name := "deny", desc := "(II)I" } : Jvm.MethodName) prog_1_method_5_code (5 : Nat) (Option.some Jvm.ClassFile.FieldType.int)) = true := ⟨List.mem_of_getElem? (i := 531) (by decide +kernel), by decide +kernel⟩
theorem k_RL_56 : lkV RL 56 yX3_deny cX3_deny 5 (Option.some FieldType.int) 2 := ⟨tw_504, tw_505, tw_506, tw_1, gw_507, ⟨⟨by decide +kernel, by decide +kernel⟩, by decide +kernel⟩⟩
theorem sw_508 : ((Jvm.Cond.stringRef "TallyWax" (99 : Nat) "the line is witnessed") : Cond) ∈ lw_tbl := List.mem_of_getElem? (i := 532) (by decide +kernel)
theorem sw_509 : ((Jvm.Cond.stringRef "TallyWax" (104 : Nat) "the debtor is gone") : Cond) ∈ lw_tbl := List.mem_of_getElem? (i := 533) (by decide +kernel)
theorem tw_512 : tw (Jvm.Cond.selects "TallyWaxLaw$Sim" ({ cls := "TallyWaxLaw$Sim", name := "smooth", desc := "(I)[[I" } : Jvm.MethodName) ({ cls := "TallyWaxLaw$Sim", name := "smooth", desc := "(I)[[I" } : Jvm.MethodName)) := ⟨List.mem_of_getElem? (i := 536) (by decide +kernel), by decide +kernel⟩
theorem tw_510 : tw (Jvm.Cond.methodLink "TallyWaxLaw" (59 : Nat) ({ cls := "TallyWaxLaw$Sim", name := "smooth", desc := "(I)[[I" } : Jvm.MethodName)) := ⟨List.mem_of_getElem? (i := 534) (by decide +kernel), by decide +kernel⟩
theorem tw_511 : tw (Jvm.Cond.instanceMethod ({ cls := "TallyWaxLaw$Sim", name := "smooth", desc := "(I)[[I" } : Jvm.MethodName)) := ⟨List.mem_of_getElem? (i := 535) (by decide +kernel), by decide +kernel⟩
theorem gw_513 : ((Jvm.Cond.code ({ cls := "TallyWaxLaw$Sim", name := "smooth", desc := "(I)[[I" } : Jvm.MethodName) prog_6_method_5_code (8 : Nat) (Option.some (Jvm.ClassFile.FieldType.array (Jvm.ClassFile.FieldType.array Jvm.ClassFile.FieldType.int)))) : Cond) ∈ lw_tbl ∧ goodWord (Jvm.Cond.code ({ cls := "TallyWaxLaw$Sim", name := "smooth", desc := "(I)[[I" } : Jvm.MethodName) prog_6_method_5_code (8 : Nat) (Option.some (Jvm.ClassFile.FieldType.array (Jvm.ClassFile.FieldType.array Jvm.ClassFile.FieldType.int)))) = true := ⟨List.mem_of_getElem? (i := 537) (by decide +kernel), by decide +kernel⟩
theorem k_RL_59 : lkV RL 59 yX4_smooth cX4_smooth 8 (Option.some (FieldType.array (FieldType.array FieldType.int))) 1 := ⟨tw_510, tw_511, tw_512, tw_4, gw_513, ⟨⟨by decide +kernel, by decide +kernel⟩, by decide +kernel⟩⟩
theorem tw_514 : tw (Jvm.Cond.methodLink "TallyWaxLaw$Sim" (31 : Nat) ({ cls := "TallyWaxLaw$Sim", name := "with", desc := "([[I[I)[[I" } : Jvm.MethodName)) := ⟨List.mem_of_getElem? (i := 538) (by decide +kernel), by decide +kernel⟩
theorem k_RX4_31 : lkS RX4 31 yX4_with cX4_with 4 (Option.some (FieldType.array (FieldType.array FieldType.int))) 2 := ⟨tw_514, tw_449, tw_4, gw_450, ⟨⟨by decide +kernel, by decide +kernel⟩, by decide +kernel⟩⟩
theorem tw_517 : tw (Jvm.Cond.selects "TallyWax" ({ cls := "TallyWax", name := "smooth", desc := "(I)I" } : Jvm.MethodName) ({ cls := "TallyWax", name := "smooth", desc := "(I)I" } : Jvm.MethodName)) := ⟨List.mem_of_getElem? (i := 541) (by decide +kernel), by decide +kernel⟩
theorem tw_515 : tw (Jvm.Cond.methodLink "TallyWaxLaw" (63 : Nat) ({ cls := "TallyWax", name := "smooth", desc := "(I)I" } : Jvm.MethodName)) := ⟨List.mem_of_getElem? (i := 539) (by decide +kernel), by decide +kernel⟩
theorem tw_516 : tw (Jvm.Cond.instanceMethod ({ cls := "TallyWax", name := "smooth", desc := "(I)I" } : Jvm.MethodName)) := ⟨List.mem_of_getElem? (i := 540) (by decide +kernel), by decide +kernel⟩
theorem gw_518 : ((Jvm.Cond.code ({ cls := "TallyWax", name := "smooth", desc := "(I)I" } : Jvm.MethodName) prog_1_method_6_code (3 : Nat) (Option.some Jvm.ClassFile.FieldType.int)) : Cond) ∈ lw_tbl ∧ goodWord (Jvm.Cond.code ({ cls := "TallyWax", name := "smooth", desc := "(I)I" } : Jvm.MethodName) prog_1_method_6_code (3 : Nat) (Option.some Jvm.ClassFile.FieldType.int)) = true := ⟨List.mem_of_getElem? (i := 542) (by decide +kernel), by decide +kernel⟩
theorem k_RL_63 : lkV RL 63 yX3_smooth cX3_smooth 3 (Option.some FieldType.int) 1 := ⟨tw_515, tw_516, tw_517, tw_1, gw_518, ⟨⟨by decide +kernel, by decide +kernel⟩, by decide +kernel⟩⟩
theorem sw_519 : ((Jvm.Cond.stringRef "TallyWax" (113 : Nat) "the smoothing is refused") : Cond) ∈ lw_tbl := List.mem_of_getElem? (i := 543) (by decide +kernel)
theorem twp_23 : tw (.selects "TallyWax$LineList" ({ cls := "TallyWax$LineList", name := "become", desc := "(LTallyWax$LineList;)V" } : Jvm.MethodName) ({ cls := "TallyWax$LineList", name := "become", desc := "(LTallyWax$LineList;)V" } : Jvm.MethodName)) := ⟨List.mem_of_getElem? (i := 23) (by decide +kernel), by decide +kernel⟩
theorem tw_520 : tw (Jvm.Cond.methodLinkNest "TallyWax" (118 : Nat) ({ cls := "TallyWax$LineList", name := "become", desc := "(LTallyWax$LineList;)V" } : Jvm.MethodName) "TallyWax") := ⟨List.mem_of_getElem? (i := 544) (by decide +kernel), by decide +kernel⟩
theorem tw_522 : tw (Jvm.Cond.instanceMethod ({ cls := "TallyWax$LineList", name := "become", desc := "(LTallyWax$LineList;)V" } : Jvm.MethodName)) := ⟨List.mem_of_getElem? (i := 546) (by decide +kernel), by decide +kernel⟩
theorem gw_523 : ((Jvm.Cond.code ({ cls := "TallyWax$LineList", name := "become", desc := "(LTallyWax$LineList;)V" } : Jvm.MethodName) prog_2_method_4_code (3 : Nat) (Option.none : Option Jvm.ClassFile.FieldType)) : Cond) ∈ lw_tbl ∧ goodWord (Jvm.Cond.code ({ cls := "TallyWax$LineList", name := "become", desc := "(LTallyWax$LineList;)V" } : Jvm.MethodName) prog_2_method_4_code (3 : Nat) (Option.none : Option Jvm.ClassFile.FieldType)) = true := ⟨List.mem_of_getElem? (i := 547) (by decide +kernel), by decide +kernel⟩
theorem k_RX3_118 : lkVN RX3 118 yX0_become cX0_become 3 (Option.none : Option FieldType) 1 := ⟨⟨_, tw_520⟩, tw_522, twp_23, tw_3, gw_523, ⟨⟨by decide +kernel, by decide +kernel⟩, by decide +kernel⟩⟩
theorem tw_526 : tw (Jvm.Cond.selects "TallyWax" ({ cls := "TallyWax", name := "turn", desc := "(I)Z" } : Jvm.MethodName) ({ cls := "TallyWax", name := "turn", desc := "(I)Z" } : Jvm.MethodName)) := ⟨List.mem_of_getElem? (i := 550) (by decide +kernel), by decide +kernel⟩
theorem tw_524 : tw (Jvm.Cond.methodLink "TallyWaxLaw" (65 : Nat) ({ cls := "TallyWax", name := "turn", desc := "(I)Z" } : Jvm.MethodName)) := ⟨List.mem_of_getElem? (i := 548) (by decide +kernel), by decide +kernel⟩
theorem tw_525 : tw (Jvm.Cond.instanceMethod ({ cls := "TallyWax", name := "turn", desc := "(I)Z" } : Jvm.MethodName)) := ⟨List.mem_of_getElem? (i := 549) (by decide +kernel), by decide +kernel⟩
theorem gw_527 : ((Jvm.Cond.code ({ cls := "TallyWax", name := "turn", desc := "(I)Z" } : Jvm.MethodName) prog_1_method_7_code (2 : Nat) (Option.some Jvm.ClassFile.FieldType.boolean)) : Cond) ∈ lw_tbl ∧ goodWord (Jvm.Cond.code ({ cls := "TallyWax", name := "turn", desc := "(I)Z" } : Jvm.MethodName) prog_1_method_7_code (2 : Nat) (Option.some Jvm.ClassFile.FieldType.boolean)) = true := ⟨List.mem_of_getElem? (i := 551) (by decide +kernel), by decide +kernel⟩
theorem k_RL_65 : lkV RL 65 yX3_turn cX3_turn 2 (Option.some FieldType.boolean) 1 := ⟨tw_524, tw_525, tw_526, tw_1, gw_527, ⟨⟨by decide +kernel, by decide +kernel⟩, by decide +kernel⟩⟩
theorem tw_530 : tw (Jvm.Cond.selects "TallyWax" ({ cls := "TallyWax", name := "carry", desc := "(I)Z" } : Jvm.MethodName) ({ cls := "TallyWax", name := "carry", desc := "(I)Z" } : Jvm.MethodName)) := ⟨List.mem_of_getElem? (i := 554) (by decide +kernel), by decide +kernel⟩
theorem tw_528 : tw (Jvm.Cond.methodLink "TallyWaxLaw" (69 : Nat) ({ cls := "TallyWax", name := "carry", desc := "(I)Z" } : Jvm.MethodName)) := ⟨List.mem_of_getElem? (i := 552) (by decide +kernel), by decide +kernel⟩
theorem tw_529 : tw (Jvm.Cond.instanceMethod ({ cls := "TallyWax", name := "carry", desc := "(I)Z" } : Jvm.MethodName)) := ⟨List.mem_of_getElem? (i := 553) (by decide +kernel), by decide +kernel⟩
theorem gw_531 : ((Jvm.Cond.code ({ cls := "TallyWax", name := "carry", desc := "(I)Z" } : Jvm.MethodName) prog_1_method_8_code (3 : Nat) (Option.some Jvm.ClassFile.FieldType.boolean)) : Cond) ∈ lw_tbl ∧ goodWord (Jvm.Cond.code ({ cls := "TallyWax", name := "carry", desc := "(I)Z" } : Jvm.MethodName) prog_1_method_8_code (3 : Nat) (Option.some Jvm.ClassFile.FieldType.boolean)) = true := ⟨List.mem_of_getElem? (i := 555) (by decide +kernel), by decide +kernel⟩
theorem k_RL_69 : lkV RL 69 yX3_carry cX3_carry 3 (Option.some FieldType.boolean) 1 := ⟨tw_528, tw_529, tw_530, tw_1, gw_531, ⟨⟨by decide +kernel, by decide +kernel⟩, by decide +kernel⟩⟩
theorem tw_534 : tw (Jvm.Cond.selects "TallyWax" ({ cls := "TallyWax", name := "setHeat", desc := "(II)I" } : Jvm.MethodName) ({ cls := "TallyWax", name := "setHeat", desc := "(II)I" } : Jvm.MethodName)) := ⟨List.mem_of_getElem? (i := 558) (by decide +kernel), by decide +kernel⟩
theorem tw_532 : tw (Jvm.Cond.methodLink "TallyWaxLaw" (76 : Nat) ({ cls := "TallyWax", name := "setHeat", desc := "(II)I" } : Jvm.MethodName)) := ⟨List.mem_of_getElem? (i := 556) (by decide +kernel), by decide +kernel⟩
theorem tw_533 : tw (Jvm.Cond.instanceMethod ({ cls := "TallyWax", name := "setHeat", desc := "(II)I" } : Jvm.MethodName)) := ⟨List.mem_of_getElem? (i := 557) (by decide +kernel), by decide +kernel⟩
theorem gw_535 : ((Jvm.Cond.code ({ cls := "TallyWax", name := "setHeat", desc := "(II)I" } : Jvm.MethodName) prog_1_method_9_code (4 : Nat) (Option.some Jvm.ClassFile.FieldType.int)) : Cond) ∈ lw_tbl ∧ goodWord (Jvm.Cond.code ({ cls := "TallyWax", name := "setHeat", desc := "(II)I" } : Jvm.MethodName) prog_1_method_9_code (4 : Nat) (Option.some Jvm.ClassFile.FieldType.int)) = true := ⟨List.mem_of_getElem? (i := 559) (by decide +kernel), by decide +kernel⟩
theorem k_RL_76 : lkV RL 76 yX3_setHeat cX3_setHeat 4 (Option.some FieldType.int) 2 := ⟨tw_532, tw_533, tw_534, tw_1, gw_535, ⟨⟨by decide +kernel, by decide +kernel⟩, by decide +kernel⟩⟩
theorem sw_536 : ((Jvm.Cond.stringRef "TallyWax" (128 : Nat) "number is not 0 to 9") : Cond) ∈ lw_tbl := List.mem_of_getElem? (i := 560) (by decide +kernel)
theorem sw_537 : ((Jvm.Cond.stringRef "TallyWax" (131 : Nat) "heat is not 0 to 9") : Cond) ∈ lw_tbl := List.mem_of_getElem? (i := 561) (by decide +kernel)
theorem tw_540 : tw (Jvm.Cond.selects "TallyWax" ({ cls := "TallyWax", name := "write", desc := "(IIIII)I" } : Jvm.MethodName) ({ cls := "TallyWax", name := "write", desc := "(IIIII)I" } : Jvm.MethodName)) := ⟨List.mem_of_getElem? (i := 564) (by decide +kernel), by decide +kernel⟩
theorem tw_538 : tw (Jvm.Cond.methodLink "TallyWaxLaw" (83 : Nat) ({ cls := "TallyWax", name := "write", desc := "(IIIII)I" } : Jvm.MethodName)) := ⟨List.mem_of_getElem? (i := 562) (by decide +kernel), by decide +kernel⟩
theorem tw_539 : tw (Jvm.Cond.instanceMethod ({ cls := "TallyWax", name := "write", desc := "(IIIII)I" } : Jvm.MethodName)) := ⟨List.mem_of_getElem? (i := 563) (by decide +kernel), by decide +kernel⟩
theorem gw_541 : ((Jvm.Cond.code ({ cls := "TallyWax", name := "write", desc := "(IIIII)I" } : Jvm.MethodName) prog_1_method_3_code (8 : Nat) (Option.some Jvm.ClassFile.FieldType.int)) : Cond) ∈ lw_tbl ∧ goodWord (Jvm.Cond.code ({ cls := "TallyWax", name := "write", desc := "(IIIII)I" } : Jvm.MethodName) prog_1_method_3_code (8 : Nat) (Option.some Jvm.ClassFile.FieldType.int)) = true := ⟨List.mem_of_getElem? (i := 565) (by decide +kernel), by decide +kernel⟩
theorem k_RL_83 : lkV RL 83 yX3_write cX3_write 8 (Option.some FieldType.int) 5 := ⟨tw_538, tw_539, tw_540, tw_1, gw_541, ⟨⟨by decide +kernel, by decide +kernel⟩, by decide +kernel⟩⟩
theorem sw_542 : ((Jvm.Cond.stringRef "TallyWax" (63 : Nat) "two of the three are the same") : Cond) ∈ lw_tbl := List.mem_of_getElem? (i := 566) (by decide +kernel)
theorem sw_543 : ((Jvm.Cond.stringRef "TallyWax" (65 : Nat) "amount is not 1 to 999") : Cond) ∈ lw_tbl := List.mem_of_getElem? (i := 567) (by decide +kernel)
theorem sw_544 : ((Jvm.Cond.stringRef "TallyWax" (72 : Nat) "the tablet has 12 lines") : Cond) ∈ lw_tbl := List.mem_of_getElem? (i := 568) (by decide +kernel)
theorem sw_545 : ((Jvm.Cond.stringRef "TallyWax" (78 : Nat) "one of the three is gone") : Cond) ∈ lw_tbl := List.mem_of_getElem? (i := 569) (by decide +kernel)
theorem tw_546 : tw (Jvm.Cond.methodLinkNest "TallyWax" (80 : Nat) ({ cls := "TallyWax$LineList", name := "append", desc := "(IIII)V" } : Jvm.MethodName) "TallyWax") := ⟨List.mem_of_getElem? (i := 570) (by decide +kernel), by decide +kernel⟩
theorem k_RX3_80 : lkVN RX3 80 yX0_append cX0_append 6 (Option.none : Option FieldType) 4 := ⟨⟨_, tw_546⟩, tw_369, twp_19, tw_3, gw_370, ⟨⟨by decide +kernel, by decide +kernel⟩, by decide +kernel⟩⟩
theorem tw_547 : tw (Jvm.Cond.methodLink "TallyWaxLaw" (97 : Nat) ({ cls := "TallyWaxLaw", name := "build", desc := "(LTallyWax;[I)LTallyWaxLaw$Sim;" } : Jvm.MethodName)) := ⟨List.mem_of_getElem? (i := 571) (by decide +kernel), by decide +kernel⟩
theorem tw_548 : tw (Jvm.Cond.static ({ cls := "TallyWaxLaw", name := "build", desc := "(LTallyWax;[I)LTallyWaxLaw$Sim;" } : Jvm.MethodName)) := ⟨List.mem_of_getElem? (i := 572) (by decide +kernel), by decide +kernel⟩
theorem gw_549 : ((Jvm.Cond.code ({ cls := "TallyWaxLaw", name := "build", desc := "(LTallyWax;[I)LTallyWaxLaw$Sim;" } : Jvm.MethodName) method_5_code (5 : Nat) (Option.some (Jvm.ClassFile.FieldType.object "TallyWaxLaw$Sim"))) : Cond) ∈ lw_tbl ∧ goodWord (Jvm.Cond.code ({ cls := "TallyWaxLaw", name := "build", desc := "(LTallyWax;[I)LTallyWaxLaw$Sim;" } : Jvm.MethodName) method_5_code (5 : Nat) (Option.some (Jvm.ClassFile.FieldType.object "TallyWaxLaw$Sim"))) = true := ⟨List.mem_of_getElem? (i := 573) (by decide +kernel), by decide +kernel⟩
theorem k_RL_97 : lkS RL 97 yL_build cL_build 5 (Option.some (FieldType.object "TallyWaxLaw$Sim")) 2 := ⟨tw_547, tw_548, tw_0, gw_549, ⟨⟨by decide +kernel, by decide +kernel⟩, by decide +kernel⟩⟩
theorem tw_550 : tw (Jvm.Cond.classLink "TallyWaxLaw" (10 : Nat) "TallyWaxLaw$Sim") := ⟨List.mem_of_getElem? (i := 574) (by decide +kernel), by decide +kernel⟩
theorem tw_551 : tw (Jvm.Cond.instantiable "TallyWaxLaw$Sim" (7 : Nat)) := ⟨List.mem_of_getElem? (i := 575) (by decide +kernel), by decide +kernel⟩
theorem k_RL_10 : lkC RL 10 4 7 [.null, .null, .null, .null, .int 0, .int 0, .int 0] := by
  refine ⟨RX4, TX4, rfl, tw_550.1, tw_551.1, tw_4.1, fun ty0 h j hj => ?_⟩
  have hj2 := h j hj
  rcases (show j = 0 ∨ j = 1 ∨ j = 2 ∨ j = 3 ∨ j = 4 ∨ j = 5 ∨ j = 6 by omega) with rfl | rfl | rfl | rfl | rfl | rfl | rfl <;>
    (rw [Option.some.inj (hj2.symm.trans (tyX4_ok _ hj))]; rfl)
theorem tw_552 : tw (Jvm.Cond.methodLinkNest "TallyWaxLaw" (87 : Nat) ({ cls := "TallyWaxLaw$Sim", name := "<init>", desc := "()V" } : Jvm.MethodName) "TallyWaxLaw") := ⟨List.mem_of_getElem? (i := 576) (by decide +kernel), by decide +kernel⟩
theorem tw_553 : tw (Jvm.Cond.instanceMethod ({ cls := "TallyWaxLaw$Sim", name := "<init>", desc := "()V" } : Jvm.MethodName)) := ⟨List.mem_of_getElem? (i := 577) (by decide +kernel), by decide +kernel⟩
theorem gw_554 : ((Jvm.Cond.code ({ cls := "TallyWaxLaw$Sim", name := "<init>", desc := "()V" } : Jvm.MethodName) prog_6_method_1_code (1 : Nat) (Option.none : Option Jvm.ClassFile.FieldType)) : Cond) ∈ lw_tbl ∧ goodWord (Jvm.Cond.code ({ cls := "TallyWaxLaw$Sim", name := "<init>", desc := "()V" } : Jvm.MethodName) prog_6_method_1_code (1 : Nat) (Option.none : Option Jvm.ClassFile.FieldType)) = true := ⟨List.mem_of_getElem? (i := 578) (by decide +kernel), by decide +kernel⟩
theorem k_RL_87 : lkI RL 87 yX4_init cX4_init 1 0 := ⟨Or.inr ⟨_, tw_552⟩, tw_553, tw_4, gw_554, ⟨⟨by decide +kernel, by decide +kernel⟩, by decide +kernel⟩, rfl⟩
theorem tw_555 : tw (Jvm.Cond.methodLink "TallyWaxLaw$Sim" (1 : Nat) ({ cls := "java/lang/Object", name := "<init>", desc := "()V" } : Jvm.MethodName)) := ⟨List.mem_of_getElem? (i := 579) (by decide +kernel), by decide +kernel⟩
theorem tw_556 : tw (Jvm.Cond.classLink "TallyWaxLaw$Sim" (22 : Nat) "[[[I") := ⟨List.mem_of_getElem? (i := 580) (by decide +kernel), by decide +kernel⟩
theorem tw_558 : tw (Jvm.Cond.fieldLink "TallyWaxLaw$Sim" (7 : Nat) "TallyWaxLaw$Sim" "there" "[Z") := ⟨List.mem_of_getElem? (i := 582) (by decide +kernel), by decide +kernel⟩
theorem k_RX4_7 : lkF RX4 7 4 0 := ⟨RX4, TX4, 7, rfl, by decide, Or.inl tw_558.1⟩
theorem tw_559 : tw (Jvm.Cond.fieldLink "TallyWaxLaw" (48 : Nat) "TallyWaxLaw$Sim" "there" "[Z") := ⟨List.mem_of_getElem? (i := 583) (by decide +kernel), by decide +kernel⟩
theorem k_RL_48 : lkF RL 48 4 0 := ⟨RX4, TX4, 7, rfl, by decide, Or.inl tw_559.1⟩
theorem tw_560 : tw (Jvm.Cond.fieldLink "TallyWaxLaw$Sim" (13 : Nat) "TallyWaxLaw$Sim" "heat" "[I") := ⟨List.mem_of_getElem? (i := 584) (by decide +kernel), by decide +kernel⟩
theorem k_RX4_13 : lkF RX4 13 4 1 := ⟨RX4, TX4, 7, rfl, by decide, Or.inl tw_560.1⟩
theorem tw_561 : tw (Jvm.Cond.fieldLink "TallyWaxLaw" (72 : Nat) "TallyWaxLaw$Sim" "heat" "[I") := ⟨List.mem_of_getElem? (i := 585) (by decide +kernel), by decide +kernel⟩
theorem k_RL_72 : lkF RL 72 4 1 := ⟨RX4, TX4, 7, rfl, by decide, Or.inl tw_561.1⟩
theorem tw_562 : tw (Jvm.Cond.fieldLink "TallyWaxLaw$Sim" (18 : Nat) "TallyWaxLaw$Sim" "tablets" "[[I") := ⟨List.mem_of_getElem? (i := 586) (by decide +kernel), by decide +kernel⟩
theorem k_RX4_18 : lkF RX4 18 4 2 := ⟨RX4, TX4, 7, rfl, by decide, Or.inl tw_562.1⟩
theorem tw_563 : tw (Jvm.Cond.fieldLink "TallyWaxLaw" (9 : Nat) "TallyWaxLaw$Sim" "tablets" "[[I") := ⟨List.mem_of_getElem? (i := 587) (by decide +kernel), by decide +kernel⟩
theorem k_RL_9 : lkF RL 9 4 2 := ⟨RX4, TX4, 7, rfl, by decide, Or.inl tw_563.1⟩
theorem tw_564 : tw (Jvm.Cond.fieldLink "TallyWaxLaw$Sim" (24 : Nat) "TallyWaxLaw$Sim" "lines" "[[[I") := ⟨List.mem_of_getElem? (i := 588) (by decide +kernel), by decide +kernel⟩
theorem k_RX4_24 : lkF RX4 24 4 3 := ⟨RX4, TX4, 7, rfl, by decide, Or.inl tw_564.1⟩
theorem tw_565 : tw (Jvm.Cond.fieldLink "TallyWaxLaw" (31 : Nat) "TallyWaxLaw$Sim" "lines" "[[[I") := ⟨List.mem_of_getElem? (i := 589) (by decide +kernel), by decide +kernel⟩
theorem k_RL_31 : lkF RL 31 4 3 := ⟨RX4, TX4, 7, rfl, by decide, Or.inl tw_565.1⟩
theorem tw_566 : tw (Jvm.Cond.fieldLink "TallyWaxLaw$Sim" (39 : Nat) "TallyWaxLaw$Sim" "year" "I") := ⟨List.mem_of_getElem? (i := 590) (by decide +kernel), by decide +kernel⟩
theorem k_RX4_39 : lkF RX4 39 4 4 := ⟨RX4, TX4, 7, rfl, by decide, Or.inl tw_566.1⟩
theorem tw_567 : tw (Jvm.Cond.fieldLink "TallyWaxLaw$Sim" (35 : Nat) "TallyWaxLaw$Sim" "melted" "I") := ⟨List.mem_of_getElem? (i := 591) (by decide +kernel), by decide +kernel⟩
theorem k_RX4_35 : lkF RX4 35 4 5 := ⟨RX4, TX4, 7, rfl, by decide, Or.inl tw_567.1⟩
theorem tw_568 : tw (Jvm.Cond.fieldLink "TallyWaxLaw" (52 : Nat) "TallyWaxLaw$Sim" "denied" "I") := ⟨List.mem_of_getElem? (i := 592) (by decide +kernel), by decide +kernel⟩
theorem k_RL_52 : lkF RL 52 4 6 := ⟨RX4, TX4, 7, rfl, by decide, Or.inl tw_568.1⟩
theorem tw_569 : tw (Jvm.Cond.fieldLink "TallyWaxLaw$Sim" (93 : Nat) "TallyWaxLaw$Sim" "denied" "I") := ⟨List.mem_of_getElem? (i := 593) (by decide +kernel), by decide +kernel⟩
theorem k_RX4_93 : lkF RX4 93 4 6 := ⟨RX4, TX4, 7, rfl, by decide, Or.inl tw_569.1⟩
theorem tw_585 : tw (Jvm.Cond.classLink "TallyWaxLaw" (104 : Nat) "[[I") := ⟨List.mem_of_getElem? (i := 609) (by decide +kernel), by decide +kernel⟩
theorem vxw_RX3_37 : (vx_atS RX3 37 "java/lang/IllegalArgumentException" ["java/lang/RuntimeException", "java/lang/Exception"]).all (fun w => decide (w ∈ lw_tbl) && (kw w && vx_ot w)) = true := by decide +kernel
theorem tw_8 : tw (Jvm.Cond.initialized "java/lang/IllegalArgumentException") := ⟨List.mem_of_getElem? (i := 32) (by decide +kernel), by decide +kernel⟩
theorem kt_RX3_35 : lkT RX3 33 35 37 "java/lang/IllegalArgumentException" "hardness is not 1 to 9" := by
  have h : ∀ w ∈ _, _ := List.all_eq_true.mp vxw_RX3_37
  refine ⟨tw_103, tw_8, sw_455, by decide +kernel, fun w hw => ?_, fun w hw => ?_⟩
  · have := h w hw
    simp only [Bool.and_eq_true, decide_eq_true_eq] at this
    exact ⟨this.1, this.2.1⟩
  · rcases List.mem_cons.mp hw with rfl | hw
    · rfl
    · rcases List.mem_cons.mp hw with rfl | hw
      · rfl
      · have := h w hw
        simp only [Bool.and_eq_true, decide_eq_true_eq] at this
        exact this.2.2
theorem vxw_RX3_48 : (vx_atS RX3 48 "java/lang/IllegalStateException" ["java/lang/RuntimeException", "java/lang/Exception"]).all (fun w => decide (w ∈ lw_tbl) && (kw w && vx_ot w)) = true := by decide +kernel
theorem tw_9 : tw (Jvm.Cond.initialized "java/lang/IllegalStateException") := ⟨List.mem_of_getElem? (i := 33) (by decide +kernel), by decide +kernel⟩
theorem kt_RX3_46 : lkT RX3 44 46 48 "java/lang/IllegalStateException" "there are 8 tablets" := by
  have h : ∀ w ∈ _, _ := List.all_eq_true.mp vxw_RX3_48
  refine ⟨tw_456, tw_9, sw_465, by decide +kernel, fun w hw => ?_, fun w hw => ?_⟩
  · have := h w hw
    simp only [Bool.and_eq_true, decide_eq_true_eq] at this
    exact ⟨this.1, this.2.1⟩
  · rcases List.mem_cons.mp hw with rfl | hw
    · rfl
    · rcases List.mem_cons.mp hw with rfl | hw
      · rfl
      · have := h w hw
        simp only [Bool.and_eq_true, decide_eq_true_eq] at this
        exact this.2.2
theorem kt_RX3_63 : lkT RX3 33 63 37 "java/lang/IllegalArgumentException" "two of the three are the same" := by
  have h : ∀ w ∈ _, _ := List.all_eq_true.mp vxw_RX3_37
  refine ⟨tw_103, tw_8, sw_542, by decide +kernel, fun w hw => ?_, fun w hw => ?_⟩
  · have := h w hw
    simp only [Bool.and_eq_true, decide_eq_true_eq] at this
    exact ⟨this.1, this.2.1⟩
  · rcases List.mem_cons.mp hw with rfl | hw
    · rfl
    · rcases List.mem_cons.mp hw with rfl | hw
      · rfl
      · have := h w hw
        simp only [Bool.and_eq_true, decide_eq_true_eq] at this
        exact this.2.2
theorem kt_RX3_65 : lkT RX3 33 65 37 "java/lang/IllegalArgumentException" "amount is not 1 to 999" := by
  have h : ∀ w ∈ _, _ := List.all_eq_true.mp vxw_RX3_37
  refine ⟨tw_103, tw_8, sw_543, by decide +kernel, fun w hw => ?_, fun w hw => ?_⟩
  · have := h w hw
    simp only [Bool.and_eq_true, decide_eq_true_eq] at this
    exact ⟨this.1, this.2.1⟩
  · rcases List.mem_cons.mp hw with rfl | hw
    · rfl
    · rcases List.mem_cons.mp hw with rfl | hw
      · rfl
      · have := h w hw
        simp only [Bool.and_eq_true, decide_eq_true_eq] at this
        exact this.2.2
theorem kt_RX3_72 : lkT RX3 44 72 48 "java/lang/IllegalStateException" "the tablet has 12 lines" := by
  have h : ∀ w ∈ _, _ := List.all_eq_true.mp vxw_RX3_48
  refine ⟨tw_456, tw_9, sw_544, by decide +kernel, fun w hw => ?_, fun w hw => ?_⟩
  · have := h w hw
    simp only [Bool.and_eq_true, decide_eq_true_eq] at this
    exact ⟨this.1, this.2.1⟩
  · rcases List.mem_cons.mp hw with rfl | hw
    · rfl
    · rcases List.mem_cons.mp hw with rfl | hw
      · rfl
      · have := h w hw
        simp only [Bool.and_eq_true, decide_eq_true_eq] at this
        exact this.2.2
theorem kt_RX3_78 : lkT RX3 44 78 48 "java/lang/IllegalStateException" "one of the three is gone" := by
  have h : ∀ w ∈ _, _ := List.all_eq_true.mp vxw_RX3_48
  refine ⟨tw_456, tw_9, sw_545, by decide +kernel, fun w hw => ?_, fun w hw => ?_⟩
  · have := h w hw
    simp only [Bool.and_eq_true, decide_eq_true_eq] at this
    exact ⟨this.1, this.2.1⟩
  · rcases List.mem_cons.mp hw with rfl | hw
    · rfl
    · rcases List.mem_cons.mp hw with rfl | hw
      · rfl
      · have := h w hw
        simp only [Bool.and_eq_true, decide_eq_true_eq] at this
        exact this.2.2
theorem kt_RX3_91 : lkT RX3 33 91 37 "java/lang/IllegalArgumentException" "amount is not 1 to the amount of the line" := by
  have h : ∀ w ∈ _, _ := List.all_eq_true.mp vxw_RX3_37
  refine ⟨tw_103, tw_8, sw_498, by decide +kernel, fun w hw => ?_, fun w hw => ?_⟩
  · have := h w hw
    simp only [Bool.and_eq_true, decide_eq_true_eq] at this
    exact ⟨this.1, this.2.1⟩
  · rcases List.mem_cons.mp hw with rfl | hw
    · rfl
    · rcases List.mem_cons.mp hw with rfl | hw
      · rfl
      · have := h w hw
        simp only [Bool.and_eq_true, decide_eq_true_eq] at this
        exact this.2.2
theorem kt_RX3_99 : lkT RX3 44 99 48 "java/lang/IllegalStateException" "the line is witnessed" := by
  have h : ∀ w ∈ _, _ := List.all_eq_true.mp vxw_RX3_48
  refine ⟨tw_456, tw_9, sw_508, by decide +kernel, fun w hw => ?_, fun w hw => ?_⟩
  · have := h w hw
    simp only [Bool.and_eq_true, decide_eq_true_eq] at this
    exact ⟨this.1, this.2.1⟩
  · rcases List.mem_cons.mp hw with rfl | hw
    · rfl
    · rcases List.mem_cons.mp hw with rfl | hw
      · rfl
      · have := h w hw
        simp only [Bool.and_eq_true, decide_eq_true_eq] at this
        exact this.2.2
theorem kt_RX3_104 : lkT RX3 44 104 48 "java/lang/IllegalStateException" "the debtor is gone" := by
  have h : ∀ w ∈ _, _ := List.all_eq_true.mp vxw_RX3_48
  refine ⟨tw_456, tw_9, sw_509, by decide +kernel, fun w hw => ?_, fun w hw => ?_⟩
  · have := h w hw
    simp only [Bool.and_eq_true, decide_eq_true_eq] at this
    exact ⟨this.1, this.2.1⟩
  · rcases List.mem_cons.mp hw with rfl | hw
    · rfl
    · rcases List.mem_cons.mp hw with rfl | hw
      · rfl
      · have := h w hw
        simp only [Bool.and_eq_true, decide_eq_true_eq] at this
        exact this.2.2
theorem kt_RX3_113 : lkT RX3 44 113 48 "java/lang/IllegalStateException" "the smoothing is refused" := by
  have h : ∀ w ∈ _, _ := List.all_eq_true.mp vxw_RX3_48
  refine ⟨tw_456, tw_9, sw_519, by decide +kernel, fun w hw => ?_, fun w hw => ?_⟩
  · have := h w hw
    simp only [Bool.and_eq_true, decide_eq_true_eq] at this
    exact ⟨this.1, this.2.1⟩
  · rcases List.mem_cons.mp hw with rfl | hw
    · rfl
    · rcases List.mem_cons.mp hw with rfl | hw
      · rfl
      · have := h w hw
        simp only [Bool.and_eq_true, decide_eq_true_eq] at this
        exact this.2.2
theorem vxw_RX3_130 : (vx_atS RX3 130 "java/lang/IndexOutOfBoundsException" ["java/lang/RuntimeException", "java/lang/Exception"]).all (fun w => decide (w ∈ lw_tbl) && (kw w && vx_ot w)) = true := by decide +kernel
theorem tw_12 : tw (Jvm.Cond.initialized "java/lang/IndexOutOfBoundsException") := ⟨List.mem_of_getElem? (i := 36) (by decide +kernel), by decide +kernel⟩
theorem kt_RX3_128 : lkT RX3 126 128 130 "java/lang/IndexOutOfBoundsException" "number is not 0 to 9" := by
  have h : ∀ w ∈ _, _ := List.all_eq_true.mp vxw_RX3_130
  refine ⟨tw_217, tw_12, sw_536, by decide +kernel, fun w hw => ?_, fun w hw => ?_⟩
  · have := h w hw
    simp only [Bool.and_eq_true, decide_eq_true_eq] at this
    exact ⟨this.1, this.2.1⟩
  · rcases List.mem_cons.mp hw with rfl | hw
    · rfl
    · rcases List.mem_cons.mp hw with rfl | hw
      · rfl
      · have := h w hw
        simp only [Bool.and_eq_true, decide_eq_true_eq] at this
        exact this.2.2
theorem kt_RX3_131 : lkT RX3 33 131 37 "java/lang/IllegalArgumentException" "heat is not 0 to 9" := by
  have h : ∀ w ∈ _, _ := List.all_eq_true.mp vxw_RX3_37
  refine ⟨tw_103, tw_8, sw_537, by decide +kernel, fun w hw => ?_, fun w hw => ?_⟩
  · have := h w hw
    simp only [Bool.and_eq_true, decide_eq_true_eq] at this
    exact ⟨this.1, this.2.1⟩
  · rcases List.mem_cons.mp hw with rfl | hw
    · rfl
    · rcases List.mem_cons.mp hw with rfl | hw
      · rfl
      · have := h w hw
        simp only [Bool.and_eq_true, decide_eq_true_eq] at this
        exact this.2.2
theorem kt_RX3_222 : lkT RX3 126 222 130 "java/lang/IndexOutOfBoundsException" "there is no such tablet" := by
  have h : ∀ w ∈ _, _ := List.all_eq_true.mp vxw_RX3_130
  refine ⟨tw_217, tw_12, sw_241, by decide +kernel, fun w hw => ?_, fun w hw => ?_⟩
  · have := h w hw
    simp only [Bool.and_eq_true, decide_eq_true_eq] at this
    exact ⟨this.1, this.2.1⟩
  · rcases List.mem_cons.mp hw with rfl | hw
    · rfl
    · rcases List.mem_cons.mp hw with rfl | hw
      · rfl
      · have := h w hw
        simp only [Bool.and_eq_true, decide_eq_true_eq] at this
        exact this.2.2
theorem kt_RX3_224 : lkT RX3 126 224 130 "java/lang/IndexOutOfBoundsException" "the tablet has no such line" := by
  have h : ∀ w ∈ _, _ := List.all_eq_true.mp vxw_RX3_130
  refine ⟨tw_217, tw_12, sw_254, by decide +kernel, fun w hw => ?_, fun w hw => ?_⟩
  · have := h w hw
    simp only [Bool.and_eq_true, decide_eq_true_eq] at this
    exact ⟨this.1, this.2.1⟩
  · rcases List.mem_cons.mp hw with rfl | hw
    · rfl
    · rcases List.mem_cons.mp hw with rfl | hw
      · rfl
      · have := h w hw
        simp only [Bool.and_eq_true, decide_eq_true_eq] at this
        exact this.2.2
theorem kt_RX3_229 : lkT RX3 126 229 130 "java/lang/IndexOutOfBoundsException" "a person is not 0 to 7" := by
  have h : ∀ w ∈ _, _ := List.all_eq_true.mp vxw_RX3_130
  refine ⟨tw_217, tw_12, sw_226, by decide +kernel, fun w hw => ?_, fun w hw => ?_⟩
  · have := h w hw
    simp only [Bool.and_eq_true, decide_eq_true_eq] at this
    exact ⟨this.1, this.2.1⟩
  · rcases List.mem_cons.mp hw with rfl | hw
    · rfl
    · rcases List.mem_cons.mp hw with rfl | hw
      · rfl
      · have := h w hw
        simp only [Bool.and_eq_true, decide_eq_true_eq] at this
        exact this.2.2
theorem kt_RX3_231 : lkT RX3 33 231 37 "java/lang/IllegalArgumentException" "years is not 1 to 40" := by
  have h : ∀ w ∈ _, _ := List.all_eq_true.mp vxw_RX3_37
  refine ⟨tw_103, tw_8, sw_144, by decide +kernel, fun w hw => ?_, fun w hw => ?_⟩
  · have := h w hw
    simp only [Bool.and_eq_true, decide_eq_true_eq] at this
    exact ⟨this.1, this.2.1⟩
  · rcases List.mem_cons.mp hw with rfl | hw
    · rfl
    · rcases List.mem_cons.mp hw with rfl | hw
      · rfl
      · have := h w hw
        simp only [Bool.and_eq_true, decide_eq_true_eq] at this
        exact this.2.2
