section
-- ===== PART A: goes FIRST, ahead of the names: the tables' words, and 'selects' of the private methods out of them =====
/-- a private method of a class that the tables say can be made, by its rows of tables_1 -/
def lw_okq (q : MethodName × Nat) : Prop := (q.1.cls ≠ "java/lang/invoke/MethodHandle" ∧ q.1.cls ≠ "java/lang/invoke/VarHandle") ∧ Cond.instantiable q.1.cls q.2 ∈ tables_1 ∧ Cond.privateMethod q.1 ∈ tables_1 ∧ Cond.instanceMethod q.1 ∈ tables_1
theorem lw_p0 : lw_okq (⟨"GladGlasses$Reader", "nextSign", "()I"⟩, 5) := ⟨⟨by decide +kernel, by decide +kernel⟩, List.mem_of_getElem? (i := 25) (by decide +kernel), List.mem_of_getElem? (i := 405) (by decide +kernel), List.mem_of_getElem? (i := 406) (by decide +kernel)⟩
theorem lw_p1 : lw_okq (⟨"GladGlasses$Reader", "readClause", "(LGladGlasses$Coast;)V"⟩, 5) := ⟨⟨by decide +kernel, by decide +kernel⟩, List.mem_of_getElem? (i := 25) (by decide +kernel), List.mem_of_getElem? (i := 409) (by decide +kernel), List.mem_of_getElem? (i := 410) (by decide +kernel)⟩
theorem lw_p2 : lw_okq (⟨"GladGlasses$Reader", "wordFault", "(LGladGlasses$Coast;I)I"⟩, 5) := ⟨⟨by decide +kernel, by decide +kernel⟩, List.mem_of_getElem? (i := 25) (by decide +kernel), List.mem_of_getElem? (i := 413) (by decide +kernel), List.mem_of_getElem? (i := 414) (by decide +kernel)⟩
theorem lw_p3 : lw_okq (⟨"GladGlasses$Reader", "fail", "(II)V"⟩, 5) := ⟨⟨by decide +kernel, by decide +kernel⟩, List.mem_of_getElem? (i := 25) (by decide +kernel), List.mem_of_getElem? (i := 417) (by decide +kernel), List.mem_of_getElem? (i := 418) (by decide +kernel)⟩
theorem lw_p4 : lw_okq (⟨"GladGlasses$Reader", "readWeathers", "(LGladGlasses$Coast;)V"⟩, 5) := ⟨⟨by decide +kernel, by decide +kernel⟩, List.mem_of_getElem? (i := 25) (by decide +kernel), List.mem_of_getElem? (i := 421) (by decide +kernel), List.mem_of_getElem? (i := 422) (by decide +kernel)⟩
theorem lw_p5 : lw_okq (⟨"GladGlasses$Reader", "readNumber", "(I)I"⟩, 5) := ⟨⟨by decide +kernel, by decide +kernel⟩, List.mem_of_getElem? (i := 25) (by decide +kernel), List.mem_of_getElem? (i := 425) (by decide +kernel), List.mem_of_getElem? (i := 426) (by decide +kernel)⟩
theorem lw_p6 : lw_okq (⟨"GladGlasses$Reader", "readEnd", "()V"⟩, 5) := ⟨⟨by decide +kernel, by decide +kernel⟩, List.mem_of_getElem? (i := 25) (by decide +kernel), List.mem_of_getElem? (i := 440) (by decide +kernel), List.mem_of_getElem? (i := 441) (by decide +kernel)⟩
theorem lw_p7 : lw_okq (⟨"GladGlasses$Reader", "readGlass", "(LGladGlasses$Coast;)V"⟩, 5) := ⟨⟨by decide +kernel, by decide +kernel⟩, List.mem_of_getElem? (i := 25) (by decide +kernel), List.mem_of_getElem? (i := 444) (by decide +kernel), List.mem_of_getElem? (i := 445) (by decide +kernel)⟩
theorem lw_p8 : lw_okq (⟨"GladGlasses$Reader", "readBoat", "(LGladGlasses$Coast;)V"⟩, 5) := ⟨⟨by decide +kernel, by decide +kernel⟩, List.mem_of_getElem? (i := 25) (by decide +kernel), List.mem_of_getElem? (i := 452) (by decide +kernel), List.mem_of_getElem? (i := 453) (by decide +kernel)⟩
theorem lw_p9 : lw_okq (⟨"GladGlasses$Reader", "readDrinks", "(LGladGlasses$Coast;)V"⟩, 5) := ⟨⟨by decide +kernel, by decide +kernel⟩, List.mem_of_getElem? (i := 25) (by decide +kernel), List.mem_of_getElem? (i := 460) (by decide +kernel), List.mem_of_getElem? (i := 461) (by decide +kernel)⟩
theorem lw_p10 : lw_okq (⟨"GladGlasses", "noCoast", "()Z"⟩, 11) := ⟨⟨by decide +kernel, by decide +kernel⟩, List.mem_of_getElem? (i := 17) (by decide +kernel), List.mem_of_getElem? (i := 503) (by decide +kernel), List.mem_of_getElem? (i := 504) (by decide +kernel)⟩
theorem lw_p11 : lw_okq (⟨"GladGlasses", "refuseAhead", "(I)I"⟩, 11) := ⟨⟨by decide +kernel, by decide +kernel⟩, List.mem_of_getElem? (i := 17) (by decide +kernel), List.mem_of_getElem? (i := 553) (by decide +kernel), List.mem_of_getElem? (i := 554) (by decide +kernel)⟩
theorem lw_p12 : lw_okq (⟨"GladGlasses", "noGlass", "(I)Z"⟩, 11) := ⟨⟨by decide +kernel, by decide +kernel⟩, List.mem_of_getElem? (i := 17) (by decide +kernel), List.mem_of_getElem? (i := 563) (by decide +kernel), List.mem_of_getElem? (i := 564) (by decide +kernel)⟩
theorem lw_p13 : lw_okq (⟨"GladGlasses", "noBoat", "(I)Z"⟩, 11) := ⟨⟨by decide +kernel, by decide +kernel⟩, List.mem_of_getElem? (i := 17) (by decide +kernel), List.mem_of_getElem? (i := 573) (by decide +kernel), List.mem_of_getElem? (i := 574) (by decide +kernel)⟩
theorem lw_p14 : lw_okq (⟨"GladGlasses", "refuseDays", "(I)I"⟩, 11) := ⟨⟨by decide +kernel, by decide +kernel⟩, List.mem_of_getElem? (i := 17) (by decide +kernel), List.mem_of_getElem? (i := 590) (by decide +kernel), List.mem_of_getElem? (i := 591) (by decide +kernel)⟩
theorem lw_p15 : lw_okq (⟨"GladGlasses$Fleet", "sail", "(II)V"⟩, 7) := ⟨⟨by decide +kernel, by decide +kernel⟩, List.mem_of_getElem? (i := 194) (by decide +kernel), List.mem_of_getElem? (i := 609) (by decide +kernel), List.mem_of_getElem? (i := 610) (by decide +kernel)⟩
def lw_privs_1 : List (MethodName × Nat) := [(⟨"GladGlasses$Reader", "nextSign", "()I"⟩, 5), (⟨"GladGlasses$Reader", "readClause", "(LGladGlasses$Coast;)V"⟩, 5), (⟨"GladGlasses$Reader", "wordFault", "(LGladGlasses$Coast;I)I"⟩, 5), (⟨"GladGlasses$Reader", "fail", "(II)V"⟩, 5), (⟨"GladGlasses$Reader", "readWeathers", "(LGladGlasses$Coast;)V"⟩, 5), (⟨"GladGlasses$Reader", "readNumber", "(I)I"⟩, 5), (⟨"GladGlasses$Reader", "readEnd", "()V"⟩, 5), (⟨"GladGlasses$Reader", "readGlass", "(LGladGlasses$Coast;)V"⟩, 5), (⟨"GladGlasses$Reader", "readBoat", "(LGladGlasses$Coast;)V"⟩, 5), (⟨"GladGlasses$Reader", "readDrinks", "(LGladGlasses$Coast;)V"⟩, 5), (⟨"GladGlasses", "noCoast", "()Z"⟩, 11), (⟨"GladGlasses", "refuseAhead", "(I)I"⟩, 11), (⟨"GladGlasses", "noGlass", "(I)Z"⟩, 11), (⟨"GladGlasses", "noBoat", "(I)Z"⟩, 11), (⟨"GladGlasses", "refuseDays", "(I)I"⟩, 11), (⟨"GladGlasses$Fleet", "sail", "(II)V"⟩, 7)]
theorem lw_r1 : ∀ q ∈ lw_privs_1, lw_okq q := List.forall_mem_cons.mpr ⟨lw_p0, List.forall_mem_cons.mpr ⟨lw_p1, List.forall_mem_cons.mpr ⟨lw_p2, List.forall_mem_cons.mpr ⟨lw_p3, List.forall_mem_cons.mpr ⟨lw_p4, List.forall_mem_cons.mpr ⟨lw_p5, List.forall_mem_cons.mpr ⟨lw_p6, List.forall_mem_cons.mpr ⟨lw_p7, List.forall_mem_cons.mpr ⟨lw_p8, List.forall_mem_cons.mpr ⟨lw_p9, List.forall_mem_cons.mpr ⟨lw_p10, List.forall_mem_cons.mpr ⟨lw_p11, List.forall_mem_cons.mpr ⟨lw_p12, List.forall_mem_cons.mpr ⟨lw_p13, List.forall_mem_cons.mpr ⟨lw_p14, List.forall_mem_cons.mpr ⟨lw_p15, fun _ h => absurd h List.not_mem_nil⟩⟩⟩⟩⟩⟩⟩⟩⟩⟩⟩⟩⟩⟩⟩⟩
theorem lw_p16 : lw_okq (⟨"GladGlasses", "moveByDraw", "()V"⟩, 11) := ⟨⟨by decide +kernel, by decide +kernel⟩, List.mem_of_getElem? (i := 17) (by decide +kernel), List.mem_of_getElem? (i := 660) (by decide +kernel), List.mem_of_getElem? (i := 661) (by decide +kernel)⟩
theorem lw_p17 : lw_okq (⟨"GladGlasses", "draw", "(I)I"⟩, 11) := ⟨⟨by decide +kernel, by decide +kernel⟩, List.mem_of_getElem? (i := 17) (by decide +kernel), List.mem_of_getElem? (i := 664) (by decide +kernel), List.mem_of_getElem? (i := 665) (by decide +kernel)⟩
theorem lw_p18 : lw_okq (⟨"GladGlasses$Fleet", "lookAhead", "(I)V"⟩, 7) := ⟨⟨by decide +kernel, by decide +kernel⟩, List.mem_of_getElem? (i := 194) (by decide +kernel), List.mem_of_getElem? (i := 693) (by decide +kernel), List.mem_of_getElem? (i := 694) (by decide +kernel)⟩
theorem lw_p19 : lw_okq (⟨"GladGlasses$Fleet", "safeDays", "(III)I"⟩, 7) := ⟨⟨by decide +kernel, by decide +kernel⟩, List.mem_of_getElem? (i := 194) (by decide +kernel), List.mem_of_getElem? (i := 697) (by decide +kernel), List.mem_of_getElem? (i := 698) (by decide +kernel)⟩
theorem lw_p20 : lw_okq (⟨"GladGlasses$Fleet", "haul", "(III)I"⟩, 7) := ⟨⟨by decide +kernel, by decide +kernel⟩, List.mem_of_getElem? (i := 194) (by decide +kernel), List.mem_of_getElem? (i := 701) (by decide +kernel), List.mem_of_getElem? (i := 702) (by decide +kernel)⟩
theorem lw_p21 : lw_okq (⟨"GladGlasses", "refuseGlassOrRow", "(I)I"⟩, 11) := ⟨⟨by decide +kernel, by decide +kernel⟩, List.mem_of_getElem? (i := 17) (by decide +kernel), List.mem_of_getElem? (i := 725) (by decide +kernel), List.mem_of_getElem? (i := 726) (by decide +kernel)⟩
theorem lw_p22 : lw_okq (⟨"GladGlasses$Tuning", "startWeighing", "()V"⟩, 12) := ⟨⟨by decide +kernel, by decide +kernel⟩, List.mem_of_getElem? (i := 224) (by decide +kernel), List.mem_of_getElem? (i := 761) (by decide +kernel), List.mem_of_getElem? (i := 762) (by decide +kernel)⟩
theorem lw_p23 : lw_okq (⟨"GladGlasses$Tuning", "triedError", "(I)I"⟩, 12) := ⟨⟨by decide +kernel, by decide +kernel⟩, List.mem_of_getElem? (i := 224) (by decide +kernel), List.mem_of_getElem? (i := 766) (by decide +kernel), List.mem_of_getElem? (i := 767) (by decide +kernel)⟩
theorem lw_p24 : lw_okq (⟨"GladGlasses$Tuning", "nextWeighing", "()Z"⟩, 12) := ⟨⟨by decide +kernel, by decide +kernel⟩, List.mem_of_getElem? (i := 224) (by decide +kernel), List.mem_of_getElem? (i := 772) (by decide +kernel), List.mem_of_getElem? (i := 773) (by decide +kernel)⟩
theorem lw_p25 : lw_okq (⟨"GladGlasses$Tuning", "addWeight", "(II)V"⟩, 12) := ⟨⟨by decide +kernel, by decide +kernel⟩, List.mem_of_getElem? (i := 224) (by decide +kernel), List.mem_of_getElem? (i := 776) (by decide +kernel), List.mem_of_getElem? (i := 777) (by decide +kernel)⟩
theorem lw_p26 : lw_okq (⟨"GladGlasses$Tuning", "countStepsToReads", "(I)V"⟩, 12) := ⟨⟨by decide +kernel, by decide +kernel⟩, List.mem_of_getElem? (i := 224) (by decide +kernel), List.mem_of_getElem? (i := 788) (by decide +kernel), List.mem_of_getElem? (i := 789) (by decide +kernel)⟩
theorem lw_p27 : lw_okq (⟨"GladGlasses$Tuning", "addToSums", "(II)V"⟩, 12) := ⟨⟨by decide +kernel, by decide +kernel⟩, List.mem_of_getElem? (i := 224) (by decide +kernel), List.mem_of_getElem? (i := 794) (by decide +kernel), List.mem_of_getElem? (i := 795) (by decide +kernel)⟩
theorem lw_p28 : lw_okq (⟨"GladGlasses$Notebook", "greatestPart", "(II)I"⟩, 10) := ⟨⟨by decide +kernel, by decide +kernel⟩, List.mem_of_getElem? (i := 268) (by decide +kernel), List.mem_of_getElem? (i := 891) (by decide +kernel), List.mem_of_getElem? (i := 892) (by decide +kernel)⟩
theorem lw_p29 : lw_okq (⟨"GladGlassesModel", "here", "()I"⟩, 34) := ⟨⟨by decide +kernel, by decide +kernel⟩, List.mem_of_getElem? (i := 944) (by decide +kernel), List.mem_of_getElem? (i := 1068) (by decide +kernel), List.mem_of_getElem? (i := 1069) (by decide +kernel)⟩
theorem lw_p30 : lw_okq (⟨"GladGlassesModel", "takeClause", "()V"⟩, 34) := ⟨⟨by decide +kernel, by decide +kernel⟩, List.mem_of_getElem? (i := 944) (by decide +kernel), List.mem_of_getElem? (i := 1072) (by decide +kernel), List.mem_of_getElem? (i := 1073) (by decide +kernel)⟩
theorem lw_p31 : lw_okq (⟨"GladGlassesModel", "want", "(ZII)Z"⟩, 34) := ⟨⟨by decide +kernel, by decide +kernel⟩, List.mem_of_getElem? (i := 944) (by decide +kernel), List.mem_of_getElem? (i := 1076) (by decide +kernel), List.mem_of_getElem? (i := 1077) (by decide +kernel)⟩
def lw_privs_2 : List (MethodName × Nat) := [(⟨"GladGlasses", "moveByDraw", "()V"⟩, 11), (⟨"GladGlasses", "draw", "(I)I"⟩, 11), (⟨"GladGlasses$Fleet", "lookAhead", "(I)V"⟩, 7), (⟨"GladGlasses$Fleet", "safeDays", "(III)I"⟩, 7), (⟨"GladGlasses$Fleet", "haul", "(III)I"⟩, 7), (⟨"GladGlasses", "refuseGlassOrRow", "(I)I"⟩, 11), (⟨"GladGlasses$Tuning", "startWeighing", "()V"⟩, 12), (⟨"GladGlasses$Tuning", "triedError", "(I)I"⟩, 12), (⟨"GladGlasses$Tuning", "nextWeighing", "()Z"⟩, 12), (⟨"GladGlasses$Tuning", "addWeight", "(II)V"⟩, 12), (⟨"GladGlasses$Tuning", "countStepsToReads", "(I)V"⟩, 12), (⟨"GladGlasses$Tuning", "addToSums", "(II)V"⟩, 12), (⟨"GladGlasses$Notebook", "greatestPart", "(II)I"⟩, 10), (⟨"GladGlassesModel", "here", "()I"⟩, 34), (⟨"GladGlassesModel", "takeClause", "()V"⟩, 34), (⟨"GladGlassesModel", "want", "(ZII)Z"⟩, 34)]
theorem lw_r2 : ∀ q ∈ lw_privs_2, lw_okq q := List.forall_mem_cons.mpr ⟨lw_p16, List.forall_mem_cons.mpr ⟨lw_p17, List.forall_mem_cons.mpr ⟨lw_p18, List.forall_mem_cons.mpr ⟨lw_p19, List.forall_mem_cons.mpr ⟨lw_p20, List.forall_mem_cons.mpr ⟨lw_p21, List.forall_mem_cons.mpr ⟨lw_p22, List.forall_mem_cons.mpr ⟨lw_p23, List.forall_mem_cons.mpr ⟨lw_p24, List.forall_mem_cons.mpr ⟨lw_p25, List.forall_mem_cons.mpr ⟨lw_p26, List.forall_mem_cons.mpr ⟨lw_p27, List.forall_mem_cons.mpr ⟨lw_p28, List.forall_mem_cons.mpr ⟨lw_p29, List.forall_mem_cons.mpr ⟨lw_p30, List.forall_mem_cons.mpr ⟨lw_p31, fun _ h => absurd h List.not_mem_nil⟩⟩⟩⟩⟩⟩⟩⟩⟩⟩⟩⟩⟩⟩⟩⟩
theorem lw_p32 : lw_okq (⟨"GladGlassesModel", "takeWeather", "(I)V"⟩, 34) := ⟨⟨by decide +kernel, by decide +kernel⟩, List.mem_of_getElem? (i := 944) (by decide +kernel), List.mem_of_getElem? (i := 1080) (by decide +kernel), List.mem_of_getElem? (i := 1081) (by decide +kernel)⟩
theorem lw_p33 : lw_okq (⟨"GladGlassesModel", "takeIn", "(II)I"⟩, 34) := ⟨⟨by decide +kernel, by decide +kernel⟩, List.mem_of_getElem? (i := 944) (by decide +kernel), List.mem_of_getElem? (i := 1084) (by decide +kernel), List.mem_of_getElem? (i := 1085) (by decide +kernel)⟩
theorem lw_p34 : lw_okq (⟨"GladGlassesModel", "takeNumber", "()I"⟩, 34) := ⟨⟨by decide +kernel, by decide +kernel⟩, List.mem_of_getElem? (i := 944) (by decide +kernel), List.mem_of_getElem? (i := 1088) (by decide +kernel), List.mem_of_getElem? (i := 1089) (by decide +kernel)⟩
theorem lw_p35 : lw_okq (⟨"GladGlassesModel", "takeGlass", "(I)V"⟩, 34) := ⟨⟨by decide +kernel, by decide +kernel⟩, List.mem_of_getElem? (i := 944) (by decide +kernel), List.mem_of_getElem? (i := 1095) (by decide +kernel), List.mem_of_getElem? (i := 1096) (by decide +kernel)⟩
theorem lw_p36 : lw_okq (⟨"GladGlassesModel", "takeBoat", "(I)V"⟩, 34) := ⟨⟨by decide +kernel, by decide +kernel⟩, List.mem_of_getElem? (i := 944) (by decide +kernel), List.mem_of_getElem? (i := 1099) (by decide +kernel), List.mem_of_getElem? (i := 1100) (by decide +kernel)⟩
theorem lw_p37 : lw_okq (⟨"GladGlassesModel", "takeDrinks", "(I)V"⟩, 34) := ⟨⟨by decide +kernel, by decide +kernel⟩, List.mem_of_getElem? (i := 944) (by decide +kernel), List.mem_of_getElem? (i := 1103) (by decide +kernel), List.mem_of_getElem? (i := 1104) (by decide +kernel)⟩
theorem lw_p38 : lw_okq (⟨"GladGlassesModel", "take", "()V"⟩, 34) := ⟨⟨by decide +kernel, by decide +kernel⟩, List.mem_of_getElem? (i := 944) (by decide +kernel), List.mem_of_getElem? (i := 1107) (by decide +kernel), List.mem_of_getElem? (i := 1108) (by decide +kernel)⟩
theorem lw_p39 : lw_okq (⟨"GladGlassesModel", "rowTells", "(I)I"⟩, 34) := ⟨⟨by decide +kernel, by decide +kernel⟩, List.mem_of_getElem? (i := 944) (by decide +kernel), List.mem_of_getElem? (i := 1119) (by decide +kernel), List.mem_of_getElem? (i := 1120) (by decide +kernel)⟩
theorem lw_p40 : lw_okq (⟨"GladGlassesModel", "reads", "(II)I"⟩, 34) := ⟨⟨by decide +kernel, by decide +kernel⟩, List.mem_of_getElem? (i := 944) (by decide +kernel), List.mem_of_getElem? (i := 1123) (by decide +kernel), List.mem_of_getElem? (i := 1124) (by decide +kernel)⟩
theorem lw_p41 : lw_okq (⟨"GladGlassesModel", "tomorrow", "(I)I"⟩, 34) := ⟨⟨by decide +kernel, by decide +kernel⟩, List.mem_of_getElem? (i := 944) (by decide +kernel), List.mem_of_getElem? (i := 1127) (by decide +kernel), List.mem_of_getElem? (i := 1128) (by decide +kernel)⟩
theorem lw_p42 : lw_okq (⟨"GladGlassesModel", "weatherOf", "(I)I"⟩, 34) := ⟨⟨by decide +kernel, by decide +kernel⟩, List.mem_of_getElem? (i := 944) (by decide +kernel), List.mem_of_getElem? (i := 1131) (by decide +kernel), List.mem_of_getElem? (i := 1132) (by decide +kernel)⟩
theorem lw_p43 : lw_okq (⟨"GladGlassesModel", "sailing", "()I"⟩, 34) := ⟨⟨by decide +kernel, by decide +kernel⟩, List.mem_of_getElem? (i := 944) (by decide +kernel), List.mem_of_getElem? (i := 1147) (by decide +kernel), List.mem_of_getElem? (i := 1148) (by decide +kernel)⟩
theorem lw_p44 : lw_okq (⟨"GladGlassesModel", "sails", "(III)Z"⟩, 34) := ⟨⟨by decide +kernel, by decide +kernel⟩, List.mem_of_getElem? (i := 944) (by decide +kernel), List.mem_of_getElem? (i := 1151) (by decide +kernel), List.mem_of_getElem? (i := 1152) (by decide +kernel)⟩
theorem lw_p45 : lw_okq (⟨"GladGlassesModel", "gladOnes", "()I"⟩, 34) := ⟨⟨by decide +kernel, by decide +kernel⟩, List.mem_of_getElem? (i := 944) (by decide +kernel), List.mem_of_getElem? (i := 1161) (by decide +kernel), List.mem_of_getElem? (i := 1162) (by decide +kernel)⟩
theorem lw_p46 : lw_okq (⟨"GladGlassesModel", "caught", "()I"⟩, 34) := ⟨⟨by decide +kernel, by decide +kernel⟩, List.mem_of_getElem? (i := 944) (by decide +kernel), List.mem_of_getElem? (i := 1165) (by decide +kernel), List.mem_of_getElem? (i := 1166) (by decide +kernel)⟩
theorem lw_p47 : lw_okq (⟨"GladGlassesModel", "isGlass", "(I)Z"⟩, 34) := ⟨⟨by decide +kernel, by decide +kernel⟩, List.mem_of_getElem? (i := 944) (by decide +kernel), List.mem_of_getElem? (i := 1179) (by decide +kernel), List.mem_of_getElem? (i := 1180) (by decide +kernel)⟩
def lw_privs_3 : List (MethodName × Nat) := [(⟨"GladGlassesModel", "takeWeather", "(I)V"⟩, 34), (⟨"GladGlassesModel", "takeIn", "(II)I"⟩, 34), (⟨"GladGlassesModel", "takeNumber", "()I"⟩, 34), (⟨"GladGlassesModel", "takeGlass", "(I)V"⟩, 34), (⟨"GladGlassesModel", "takeBoat", "(I)V"⟩, 34), (⟨"GladGlassesModel", "takeDrinks", "(I)V"⟩, 34), (⟨"GladGlassesModel", "take", "()V"⟩, 34), (⟨"GladGlassesModel", "rowTells", "(I)I"⟩, 34), (⟨"GladGlassesModel", "reads", "(II)I"⟩, 34), (⟨"GladGlassesModel", "tomorrow", "(I)I"⟩, 34), (⟨"GladGlassesModel", "weatherOf", "(I)I"⟩, 34), (⟨"GladGlassesModel", "sailing", "()I"⟩, 34), (⟨"GladGlassesModel", "sails", "(III)Z"⟩, 34), (⟨"GladGlassesModel", "gladOnes", "()I"⟩, 34), (⟨"GladGlassesModel", "caught", "()I"⟩, 34), (⟨"GladGlassesModel", "isGlass", "(I)Z"⟩, 34)]
theorem lw_r3 : ∀ q ∈ lw_privs_3, lw_okq q := List.forall_mem_cons.mpr ⟨lw_p32, List.forall_mem_cons.mpr ⟨lw_p33, List.forall_mem_cons.mpr ⟨lw_p34, List.forall_mem_cons.mpr ⟨lw_p35, List.forall_mem_cons.mpr ⟨lw_p36, List.forall_mem_cons.mpr ⟨lw_p37, List.forall_mem_cons.mpr ⟨lw_p38, List.forall_mem_cons.mpr ⟨lw_p39, List.forall_mem_cons.mpr ⟨lw_p40, List.forall_mem_cons.mpr ⟨lw_p41, List.forall_mem_cons.mpr ⟨lw_p42, List.forall_mem_cons.mpr ⟨lw_p43, List.forall_mem_cons.mpr ⟨lw_p44, List.forall_mem_cons.mpr ⟨lw_p45, List.forall_mem_cons.mpr ⟨lw_p46, List.forall_mem_cons.mpr ⟨lw_p47, fun _ h => absurd h List.not_mem_nil⟩⟩⟩⟩⟩⟩⟩⟩⟩⟩⟩⟩⟩⟩⟩⟩
theorem lw_p48 : lw_okq (⟨"GladGlassesModel", "isBoat", "(I)Z"⟩, 34) := ⟨⟨by decide +kernel, by decide +kernel⟩, List.mem_of_getElem? (i := 944) (by decide +kernel), List.mem_of_getElem? (i := 1188) (by decide +kernel), List.mem_of_getElem? (i := 1189) (by decide +kernel)⟩
theorem lw_p49 : lw_okq (⟨"GladGlassesModel", "refusedDays", "(I)I"⟩, 34) := ⟨⟨by decide +kernel, by decide +kernel⟩, List.mem_of_getElem? (i := 944) (by decide +kernel), List.mem_of_getElem? (i := 1201) (by decide +kernel), List.mem_of_getElem? (i := 1202) (by decide +kernel)⟩
theorem lw_p50 : lw_okq (⟨"GladGlassesModel", "remember", "()V"⟩, 34) := ⟨⟨by decide +kernel, by decide +kernel⟩, List.mem_of_getElem? (i := 944) (by decide +kernel), List.mem_of_getElem? (i := 1206) (by decide +kernel), List.mem_of_getElem? (i := 1207) (by decide +kernel)⟩
theorem lw_p51 : lw_okq (⟨"GladGlassesModel", "copy", "(II)V"⟩, 34) := ⟨⟨by decide +kernel, by decide +kernel⟩, List.mem_of_getElem? (i := 944) (by decide +kernel), List.mem_of_getElem? (i := 1210) (by decide +kernel), List.mem_of_getElem? (i := 1211) (by decide +kernel)⟩
theorem lw_p52 : lw_okq (⟨"GladGlassesModel", "dayIn", "(I)V"⟩, 34) := ⟨⟨by decide +kernel, by decide +kernel⟩, List.mem_of_getElem? (i := 944) (by decide +kernel), List.mem_of_getElem? (i := 1214) (by decide +kernel), List.mem_of_getElem? (i := 1215) (by decide +kernel)⟩
theorem lw_p53 : lw_okq (⟨"GladGlassesModel", "log", "(IIII)V"⟩, 34) := ⟨⟨by decide +kernel, by decide +kernel⟩, List.mem_of_getElem? (i := 944) (by decide +kernel), List.mem_of_getElem? (i := 1219) (by decide +kernel), List.mem_of_getElem? (i := 1220) (by decide +kernel)⟩
theorem lw_p54 : lw_okq (⟨"GladGlassesModel", "homes", "()I"⟩, 34) := ⟨⟨by decide +kernel, by decide +kernel⟩, List.mem_of_getElem? (i := 944) (by decide +kernel), List.mem_of_getElem? (i := 1223) (by decide +kernel), List.mem_of_getElem? (i := 1224) (by decide +kernel)⟩
theorem lw_p55 : lw_okq (⟨"GladGlassesModel", "changed", "(II)I"⟩, 34) := ⟨⟨by decide +kernel, by decide +kernel⟩, List.mem_of_getElem? (i := 944) (by decide +kernel), List.mem_of_getElem? (i := 1239) (by decide +kernel), List.mem_of_getElem? (i := 1240) (by decide +kernel)⟩
theorem lw_p56 : lw_okq (⟨"GladGlassesModel", "dayByDraws", "()V"⟩, 34) := ⟨⟨by decide +kernel, by decide +kernel⟩, List.mem_of_getElem? (i := 944) (by decide +kernel), List.mem_of_getElem? (i := 1260) (by decide +kernel), List.mem_of_getElem? (i := 1261) (by decide +kernel)⟩
theorem lw_p57 : lw_okq (⟨"GladGlassesModel", "draw", "(I)I"⟩, 34) := ⟨⟨by decide +kernel, by decide +kernel⟩, List.mem_of_getElem? (i := 944) (by decide +kernel), List.mem_of_getElem? (i := 1264) (by decide +kernel), List.mem_of_getElem? (i := 1265) (by decide +kernel)⟩
theorem lw_p58 : lw_okq (⟨"GladGlassesModel", "goOn", "(I)V"⟩, 34) := ⟨⟨by decide +kernel, by decide +kernel⟩, List.mem_of_getElem? (i := 944) (by decide +kernel), List.mem_of_getElem? (i := 1280) (by decide +kernel), List.mem_of_getElem? (i := 1281) (by decide +kernel)⟩
theorem lw_p59 : lw_okq (⟨"GladGlassesModel", "layDays", "(I)V"⟩, 34) := ⟨⟨by decide +kernel, by decide +kernel⟩, List.mem_of_getElem? (i := 944) (by decide +kernel), List.mem_of_getElem? (i := 1296) (by decide +kernel), List.mem_of_getElem? (i := 1297) (by decide +kernel)⟩
theorem lw_p60 : lw_okq (⟨"GladGlassesModel", "caughtBy", "(II)I"⟩, 34) := ⟨⟨by decide +kernel, by decide +kernel⟩, List.mem_of_getElem? (i := 944) (by decide +kernel), List.mem_of_getElem? (i := 1300) (by decide +kernel), List.mem_of_getElem? (i := 1301) (by decide +kernel)⟩
theorem lw_p61 : lw_okq (⟨"GladGlassesModel", "errorOf", "(I)I"⟩, 34) := ⟨⟨by decide +kernel, by decide +kernel⟩, List.mem_of_getElem? (i := 944) (by decide +kernel), List.mem_of_getElem? (i := 1308) (by decide +kernel), List.mem_of_getElem? (i := 1309) (by decide +kernel)⟩
theorem lw_p62 : lw_okq (⟨"GladGlassesModel", "layReadings", "()V"⟩, 34) := ⟨⟨by decide +kernel, by decide +kernel⟩, List.mem_of_getElem? (i := 944) (by decide +kernel), List.mem_of_getElem? (i := 1324) (by decide +kernel), List.mem_of_getElem? (i := 1325) (by decide +kernel)⟩
theorem lw_p63 : lw_okq (⟨"GladGlassesModel", "errorBy", "(I)I"⟩, 34) := ⟨⟨by decide +kernel, by decide +kernel⟩, List.mem_of_getElem? (i := 944) (by decide +kernel), List.mem_of_getElem? (i := 1328) (by decide +kernel), List.mem_of_getElem? (i := 1329) (by decide +kernel)⟩
def lw_privs_4 : List (MethodName × Nat) := [(⟨"GladGlassesModel", "isBoat", "(I)Z"⟩, 34), (⟨"GladGlassesModel", "refusedDays", "(I)I"⟩, 34), (⟨"GladGlassesModel", "remember", "()V"⟩, 34), (⟨"GladGlassesModel", "copy", "(II)V"⟩, 34), (⟨"GladGlassesModel", "dayIn", "(I)V"⟩, 34), (⟨"GladGlassesModel", "log", "(IIII)V"⟩, 34), (⟨"GladGlassesModel", "homes", "()I"⟩, 34), (⟨"GladGlassesModel", "changed", "(II)I"⟩, 34), (⟨"GladGlassesModel", "dayByDraws", "()V"⟩, 34), (⟨"GladGlassesModel", "draw", "(I)I"⟩, 34), (⟨"GladGlassesModel", "goOn", "(I)V"⟩, 34), (⟨"GladGlassesModel", "layDays", "(I)V"⟩, 34), (⟨"GladGlassesModel", "caughtBy", "(II)I"⟩, 34), (⟨"GladGlassesModel", "errorOf", "(I)I"⟩, 34), (⟨"GladGlassesModel", "layReadings", "()V"⟩, 34), (⟨"GladGlassesModel", "errorBy", "(I)I"⟩, 34)]
theorem lw_r4 : ∀ q ∈ lw_privs_4, lw_okq q := List.forall_mem_cons.mpr ⟨lw_p48, List.forall_mem_cons.mpr ⟨lw_p49, List.forall_mem_cons.mpr ⟨lw_p50, List.forall_mem_cons.mpr ⟨lw_p51, List.forall_mem_cons.mpr ⟨lw_p52, List.forall_mem_cons.mpr ⟨lw_p53, List.forall_mem_cons.mpr ⟨lw_p54, List.forall_mem_cons.mpr ⟨lw_p55, List.forall_mem_cons.mpr ⟨lw_p56, List.forall_mem_cons.mpr ⟨lw_p57, List.forall_mem_cons.mpr ⟨lw_p58, List.forall_mem_cons.mpr ⟨lw_p59, List.forall_mem_cons.mpr ⟨lw_p60, List.forall_mem_cons.mpr ⟨lw_p61, List.forall_mem_cons.mpr ⟨lw_p62, List.forall_mem_cons.mpr ⟨lw_p63, fun _ h => absurd h List.not_mem_nil⟩⟩⟩⟩⟩⟩⟩⟩⟩⟩⟩⟩⟩⟩⟩⟩
theorem lw_p64 : lw_okq (⟨"GladGlassesModel", "layGlass", "(I)V"⟩, 34) := ⟨⟨by decide +kernel, by decide +kernel⟩, List.mem_of_getElem? (i := 944) (by decide +kernel), List.mem_of_getElem? (i := 1339) (by decide +kernel), List.mem_of_getElem? (i := 1340) (by decide +kernel)⟩
theorem lw_p65 : lw_okq (⟨"GladGlassesModel", "isAll", "(I)Z"⟩, 34) := ⟨⟨by decide +kernel, by decide +kernel⟩, List.mem_of_getElem? (i := 944) (by decide +kernel), List.mem_of_getElem? (i := 1347) (by decide +kernel), List.mem_of_getElem? (i := 1348) (by decide +kernel)⟩
theorem lw_p66 : lw_okq (⟨"GladGlassesModel", "isFair", "(III)Z"⟩, 34) := ⟨⟨by decide +kernel, by decide +kernel⟩, List.mem_of_getElem? (i := 944) (by decide +kernel), List.mem_of_getElem? (i := 1360) (by decide +kernel), List.mem_of_getElem? (i := 1361) (by decide +kernel)⟩
theorem lw_p67 : lw_okq (⟨"GladGlassesModel", "wouldRead", "(II)I"⟩, 34) := ⟨⟨by decide +kernel, by decide +kernel⟩, List.mem_of_getElem? (i := 944) (by decide +kernel), List.mem_of_getElem? (i := 1386) (by decide +kernel), List.mem_of_getElem? (i := 1387) (by decide +kernel)⟩
theorem lw_p68 : lw_okq (⟨"GladGlassesModel", "greatestPart", "(II)I"⟩, 34) := ⟨⟨by decide +kernel, by decide +kernel⟩, List.mem_of_getElem? (i := 944) (by decide +kernel), List.mem_of_getElem? (i := 1395) (by decide +kernel), List.mem_of_getElem? (i := 1396) (by decide +kernel)⟩
def lw_privs_5 : List (MethodName × Nat) := [(⟨"GladGlassesModel", "layGlass", "(I)V"⟩, 34), (⟨"GladGlassesModel", "isAll", "(I)Z"⟩, 34), (⟨"GladGlassesModel", "isFair", "(III)Z"⟩, 34), (⟨"GladGlassesModel", "wouldRead", "(II)I"⟩, 34), (⟨"GladGlassesModel", "greatestPart", "(II)I"⟩, 34)]
theorem lw_r5 : ∀ q ∈ lw_privs_5, lw_okq q := List.forall_mem_cons.mpr ⟨lw_p64, List.forall_mem_cons.mpr ⟨lw_p65, List.forall_mem_cons.mpr ⟨lw_p66, List.forall_mem_cons.mpr ⟨lw_p67, List.forall_mem_cons.mpr ⟨lw_p68, fun _ h => absurd h List.not_mem_nil⟩⟩⟩⟩⟩
def lw_privs : List (MethodName × Nat) := lw_privs_1 ++ (lw_privs_2 ++ (lw_privs_3 ++ (lw_privs_4 ++ (lw_privs_5))))
def lw_tbl : List Cond := k2_sels lw_privs ++ tables_1
theorem lw_privs_ok : ∀ q ∈ lw_privs, lw_okq q := by
  show ∀ q ∈ lw_privs_1 ++ (lw_privs_2 ++ (lw_privs_3 ++ (lw_privs_4 ++ (lw_privs_5)))), lw_okq q
  exact List.forall_mem_append.mpr ⟨lw_r1, List.forall_mem_append.mpr ⟨lw_r2, List.forall_mem_append.mpr ⟨lw_r3, List.forall_mem_append.mpr ⟨lw_r4, lw_r5⟩⟩⟩⟩
end
section
/-! ===== BEGIN printed: names, fields, word lists, decode rows ===== -/
def RX0 : String := "GladGlasses$Coast"
def TX0 : u_T := fun k => match k with
  | 0 => ("GladGlasses$Coast", "days", "I", false)
  | 1 => ("GladGlasses$Coast", "glasses", "I", false)
  | 2 => ("GladGlasses$Coast", "boats", "I", false)
  | 3 => ("GladGlasses$Coast", "drinksADay", "I", false)
  | 4 => ("GladGlasses$Coast", "drinksTold", "Z", false)
  | 5 => ("GladGlasses$Coast", "weathers", "[I", true)
  | 6 => ("GladGlasses$Coast", "temper", "[I", true)
  | 7 => ("GladGlasses$Coast", "weight", "[I", true)
  | 8 => ("GladGlasses$Coast", "limit", "[I", true)
  | _ => ("GladGlasses$Coast", "bears", "[I", true)
def tyX0 : Nat → FieldType := fun k => match k with
  | 0 => .int
  | 1 => .int
  | 2 => .int
  | 3 => .int
  | 4 => .boolean
  | 5 => .array .int
  | 6 => .array .int
  | 7 => .array .int
  | 8 => .array .int
  | _ => .array .int
abbrev wsX00 : List Cond := u_ws RX0 TX0 10
theorem nmX0 : ∀ a, a < 10 → ∀ b, b < 10 → a ≠ b → (TX0 a).2.1 ≠ (TX0 b).2.1 := by decide +kernel
theorem tyX0_ok : ∀ k, k < 10 → parseFieldDescriptor (TX0 k).2.2.1 = some (tyX0 k) := by decide +kernel
abbrev cX0_init : ByteArray := prog_2_method_1_code
def yX0_init : MethodName := ⟨RX0, "<init>", "()V"⟩
abbrev cX0_clear : ByteArray := prog_2_method_2_code
def yX0_clear : MethodName := ⟨RX0, "clear", "()V"⟩
abbrev cX0_copyFrom : ByteArray := prog_2_method_3_code
def yX0_copyFrom : MethodName := ⟨RX0, "copyFrom", "(LGladGlasses$Coast;)V"⟩
abbrev cX0_addWeather : ByteArray := prog_2_method_4_code
def yX0_addWeather : MethodName := ⟨RX0, "addWeather", "(I)V"⟩
abbrev cX0_addGlass : ByteArray := prog_2_method_5_code
def yX0_addGlass : MethodName := ⟨RX0, "addGlass", "(II)V"⟩
abbrev cX0_addBoat : ByteArray := prog_2_method_6_code
def yX0_addBoat : MethodName := ⟨RX0, "addBoat", "(II)V"⟩
abbrev cX0_tellDrinks : ByteArray := prog_2_method_7_code
def yX0_tellDrinks : MethodName := ⟨RX0, "tellDrinks", "(I)V"⟩
def RX1 : String := "GladGlasses$Deeds"
def TX1 : u_T := fun k => match k with
  | 0 => ("GladGlasses$Deeds", "before", "[LGladGlasses$State;", true)
  | 1 => ("GladGlasses$Deeds", "count", "I", false)
  | _ => ("GladGlasses$Deeds", "next", "I", false)
def tyX1 : Nat → FieldType := fun k => match k with
  | 0 => .array (.object "GladGlasses$State")
  | 1 => .int
  | _ => .int
abbrev wsX10 : List Cond := u_ws RX1 TX1 3
theorem nmX1 : ∀ a, a < 3 → ∀ b, b < 3 → a ≠ b → (TX1 a).2.1 ≠ (TX1 b).2.1 := by decide +kernel
theorem tyX1_ok : ∀ k, k < 3 → parseFieldDescriptor (TX1 k).2.2.1 = some (tyX1 k) := by decide +kernel
abbrev cX1_init : ByteArray := prog_3_method_1_code
def yX1_init : MethodName := ⟨RX1, "<init>", "()V"⟩
abbrev cX1_remember : ByteArray := prog_3_method_2_code
def yX1_remember : MethodName := ⟨RX1, "remember", "(LGladGlasses$State;)V"⟩
abbrev cX1_takeBack : ByteArray := prog_3_method_3_code
def yX1_takeBack : MethodName := ⟨RX1, "takeBack", "(ILGladGlasses$State;)Z"⟩
abbrev cX1_forget : ByteArray := prog_3_method_4_code
def yX1_forget : MethodName := ⟨RX1, "forget", "()V"⟩
def RX2 : String := "GladGlasses$Fleet"
def TX2 : u_T := fun k => match k with
  | 0 => ("GladGlasses$Fleet", "coast", "LGladGlasses$Coast;", true)
  | 1 => ("GladGlasses$Fleet", "now", "LGladGlasses$State;", true)
  | 2 => ("GladGlasses$Fleet", "row", "LGladGlasses$Row;", true)
  | 3 => ("GladGlasses$Fleet", "rowAhead", "[I", true)
  | 4 => ("GladGlasses$Fleet", "weatherThen", "[I", true)
  | 5 => ("GladGlasses$Fleet", "limitOfMost", "I", false)
  | _ => ("GladGlasses$Fleet", "worthOfMost", "I", false)
def tyX2 : Nat → FieldType := fun k => match k with
  | 0 => .object "GladGlasses$Coast"
  | 1 => .object "GladGlasses$State"
  | 2 => .object "GladGlasses$Row"
  | 3 => .array .int
  | 4 => .array .int
  | 5 => .int
  | _ => .int
abbrev wsX20 : List Cond := u_ws RX2 TX2 7
theorem nmX2 : ∀ a, a < 7 → ∀ b, b < 7 → a ≠ b → (TX2 a).2.1 ≠ (TX2 b).2.1 := by decide +kernel
theorem tyX2_ok : ∀ k, k < 7 → parseFieldDescriptor (TX2 k).2.2.1 = some (tyX2 k) := by decide +kernel
abbrev cX2_init : ByteArray := prog_4_method_1_code
def yX2_init : MethodName := ⟨RX2, "<init>", "(LGladGlasses$Coast;LGladGlasses$State;LGladGlasses$Row;)V"⟩
abbrev cX2_homeCount : ByteArray := prog_4_method_2_code
def yX2_homeCount : MethodName := ⟨RX2, "homeCount", "()I"⟩
abbrev cX2_caughtInAll : ByteArray := prog_4_method_3_code
def yX2_caughtInAll : MethodName := ⟨RX2, "caughtInAll", "()I"⟩
abbrev cX2_isReady : ByteArray := prog_4_method_4_code
def yX2_isReady : MethodName := ⟨RX2, "isReady", "(I)Z"⟩
abbrev cX2_sailing : ByteArray := prog_4_method_5_code
def yX2_sailing : MethodName := ⟨RX2, "sailing", "()I"⟩
abbrev cX2_passDay : ByteArray := prog_4_method_6_code
def yX2_passDay : MethodName := ⟨RX2, "passDay", "()V"⟩
abbrev cX2_sail : ByteArray := prog_4_method_7_code
def yX2_sail : MethodName := ⟨RX2, "sail", "(II)V"⟩
abbrev cX2_lookAhead : ByteArray := prog_4_method_8_code
def yX2_lookAhead : MethodName := ⟨RX2, "lookAhead", "(I)V"⟩
abbrev cX2_safeDays : ByteArray := prog_4_method_9_code
def yX2_safeDays : MethodName := ⟨RX2, "safeDays", "(III)I"⟩
abbrev cX2_haul : ByteArray := prog_4_method_10_code
def yX2_haul : MethodName := ⟨RX2, "haul", "(III)I"⟩
abbrev cX2_catchWithin : ByteArray := prog_4_method_11_code
def yX2_catchWithin : MethodName := ⟨RX2, "catchWithin", "(II)I"⟩
abbrev cX2_lostWithin : ByteArray := prog_4_method_12_code
def yX2_lostWithin : MethodName := ⟨RX2, "lostWithin", "(I)I"⟩
abbrev cX2_tryLimits : ByteArray := prog_4_method_13_code
def yX2_tryLimits : MethodName := ⟨RX2, "tryLimits", "(I)V"⟩
def RX3 : String := "GladGlasses$Images"
def TX3 : u_T := fun k => match k with
  | 0 => ("GladGlasses$Images", "states", "[LGladGlasses$State;", true)
  | 1 => ("GladGlasses$Images", "seeds", "[I", true)
  | _ => ("GladGlasses$Images", "kept", "I", false)
def tyX3 : Nat → FieldType := fun k => match k with
  | 0 => .array (.object "GladGlasses$State")
  | 1 => .array .int
  | _ => .int
abbrev wsX30 : List Cond := u_ws RX3 TX3 3
theorem nmX3 : ∀ a, a < 3 → ∀ b, b < 3 → a ≠ b → (TX3 a).2.1 ≠ (TX3 b).2.1 := by decide +kernel
theorem tyX3_ok : ∀ k, k < 3 → parseFieldDescriptor (TX3 k).2.2.1 = some (tyX3 k) := by decide +kernel
abbrev cX3_init : ByteArray := prog_5_method_1_code
def yX3_init : MethodName := ⟨RX3, "<init>", "()V"⟩
abbrev cX3_has : ByteArray := prog_5_method_2_code
def yX3_has : MethodName := ⟨RX3, "has", "(I)Z"⟩
abbrev cX3_take : ByteArray := prog_5_method_3_code
def yX3_take : MethodName := ⟨RX3, "take", "(ILGladGlasses$State;I)V"⟩
abbrev cX3_give : ByteArray := prog_5_method_4_code
def yX3_give : MethodName := ⟨RX3, "give", "(ILGladGlasses$State;)V"⟩
abbrev cX3_forget : ByteArray := prog_5_method_5_code
def yX3_forget : MethodName := ⟨RX3, "forget", "()V"⟩
def RX4 : String := "GladGlasses$Notebook"
def TX4 : u_T := fun k => match k with
  | 0 => ("GladGlasses$Notebook", "coast", "LGladGlasses$Coast;", true)
  | 1 => ("GladGlasses$Notebook", "now", "LGladGlasses$State;", true)
  | 2 => ("GladGlasses$Notebook", "row", "LGladGlasses$Row;", true)
  | 3 => ("GladGlasses$Notebook", "tapGlass", "[I", true)
  | 4 => ("GladGlasses$Notebook", "tapRead", "[I", true)
  | 5 => ("GladGlasses$Notebook", "taps", "I", false)
  | 6 => ("GladGlasses$Notebook", "entryGlass", "[I", true)
  | 7 => ("GladGlasses$Notebook", "entryTemper", "[I", true)
  | 8 => ("GladGlasses$Notebook", "entries", "I", false)
  | _ => ("GladGlasses$Notebook", "parts", "[I", true)
def tyX4 : Nat → FieldType := fun k => match k with
  | 0 => .object "GladGlasses$Coast"
  | 1 => .object "GladGlasses$State"
  | 2 => .object "GladGlasses$Row"
  | 3 => .array .int
  | 4 => .array .int
  | 5 => .int
  | 6 => .array .int
  | 7 => .array .int
  | 8 => .int
  | _ => .array .int
abbrev wsX40 : List Cond := u_ws RX4 TX4 10
theorem nmX4 : ∀ a, a < 10 → ∀ b, b < 10 → a ≠ b → (TX4 a).2.1 ≠ (TX4 b).2.1 := by decide +kernel
theorem tyX4_ok : ∀ k, k < 10 → parseFieldDescriptor (TX4 k).2.2.1 = some (tyX4 k) := by decide +kernel
abbrev cX4_init : ByteArray := prog_6_method_1_code
def yX4_init : MethodName := ⟨RX4, "<init>", "(LGladGlasses$Coast;LGladGlasses$State;LGladGlasses$Row;)V"⟩
abbrev cX4_clear : ByteArray := prog_6_method_2_code
def yX4_clear : MethodName := ⟨RX4, "clear", "()V"⟩
abbrev cX4_addTap : ByteArray := prog_6_method_3_code
def yX4_addTap : MethodName := ⟨RX4, "addTap", "(II)Z"⟩
abbrev cX4_addEntry : ByteArray := prog_6_method_4_code
def yX4_addEntry : MethodName := ⟨RX4, "addEntry", "(II)Z"⟩
abbrev cX4_firstWrong : ByteArray := prog_6_method_5_code
def yX4_firstWrong : MethodName := ⟨RX4, "firstWrong", "()I"⟩
abbrev cX4_fitting : ByteArray := prog_6_method_6_code
def yX4_fitting : MethodName := ⟨RX4, "fitting", "()I"⟩
abbrev cX4_bestToTap : ByteArray := prog_6_method_7_code
def yX4_bestToTap : MethodName := ⟨RX4, "bestToTap", "()I"⟩
abbrev cX4_greatestPart : ByteArray := prog_6_method_8_code
def yX4_greatestPart : MethodName := ⟨RX4, "greatestPart", "(II)I"⟩
def RX5 : String := "GladGlasses$Reader"
def TX5 : u_T := fun k => match k with
  | 0 => ("GladGlasses$Reader", "letters", "[I", true)
  | 1 => ("GladGlasses$Reader", "size", "I", false)
  | 2 => ("GladGlasses$Reader", "at", "I", false)
  | 3 => ("GladGlasses$Reader", "faultKind", "I", false)
  | _ => ("GladGlasses$Reader", "faultAt", "I", false)
def tyX5 : Nat → FieldType := fun k => match k with
  | 0 => .array .int
  | 1 => .int
  | 2 => .int
  | 3 => .int
  | _ => .int
abbrev wsX50 : List Cond := u_ws RX5 TX5 5
theorem nmX5 : ∀ a, a < 5 → ∀ b, b < 5 → a ≠ b → (TX5 a).2.1 ≠ (TX5 b).2.1 := by decide +kernel
theorem tyX5_ok : ∀ k, k < 5 → parseFieldDescriptor (TX5 k).2.2.1 = some (tyX5 k) := by decide +kernel
abbrev cX5_init : ByteArray := prog_7_method_1_code
def yX5_init : MethodName := ⟨RX5, "<init>", "()V"⟩
abbrev cX5_add : ByteArray := prog_7_method_2_code
def yX5_add : MethodName := ⟨RX5, "add", "(I)Z"⟩
abbrev cX5_read : ByteArray := prog_7_method_3_code
def yX5_read : MethodName := ⟨RX5, "read", "(LGladGlasses$Coast;)I"⟩
abbrev cX5_readClause : ByteArray := prog_7_method_4_code
def yX5_readClause : MethodName := ⟨RX5, "readClause", "(LGladGlasses$Coast;)V"⟩
abbrev cX5_wordFault : ByteArray := prog_7_method_5_code
def yX5_wordFault : MethodName := ⟨RX5, "wordFault", "(LGladGlasses$Coast;I)I"⟩
abbrev cX5_readWeathers : ByteArray := prog_7_method_6_code
def yX5_readWeathers : MethodName := ⟨RX5, "readWeathers", "(LGladGlasses$Coast;)V"⟩
abbrev cX5_readGlass : ByteArray := prog_7_method_7_code
def yX5_readGlass : MethodName := ⟨RX5, "readGlass", "(LGladGlasses$Coast;)V"⟩
abbrev cX5_readBoat : ByteArray := prog_7_method_8_code
def yX5_readBoat : MethodName := ⟨RX5, "readBoat", "(LGladGlasses$Coast;)V"⟩
abbrev cX5_readDrinks : ByteArray := prog_7_method_9_code
def yX5_readDrinks : MethodName := ⟨RX5, "readDrinks", "(LGladGlasses$Coast;)V"⟩
abbrev cX5_readNumber : ByteArray := prog_7_method_10_code
def yX5_readNumber : MethodName := ⟨RX5, "readNumber", "(I)I"⟩
abbrev cX5_readEnd : ByteArray := prog_7_method_11_code
def yX5_readEnd : MethodName := ⟨RX5, "readEnd", "()V"⟩
abbrev cX5_fail : ByteArray := prog_7_method_12_code
def yX5_fail : MethodName := ⟨RX5, "fail", "(II)V"⟩
abbrev cX5_nextSign : ByteArray := prog_7_method_13_code
def yX5_nextSign : MethodName := ⟨RX5, "nextSign", "()I"⟩
abbrev cX5_isFigure : ByteArray := prog_7_method_14_code
def yX5_isFigure : MethodName := ⟨RX5, "isFigure", "(I)Z"⟩
def RX6 : String := "GladGlasses$Row"
def TX6 : u_T := fun k => match k with
  | 0 => ("GladGlasses$Row", "coast", "LGladGlasses$Coast;", true)
  | _ => ("GladGlasses$Row", "now", "LGladGlasses$State;", true)
def tyX6 : Nat → FieldType := fun k => match k with
  | 0 => .object "GladGlasses$Coast"
  | _ => .object "GladGlasses$State"
abbrev wsX60 : List Cond := u_ws RX6 TX6 2
theorem nmX6 : ∀ a, a < 2 → ∀ b, b < 2 → a ≠ b → (TX6 a).2.1 ≠ (TX6 b).2.1 := by decide +kernel
theorem tyX6_ok : ∀ k, k < 2 → parseFieldDescriptor (TX6 k).2.2.1 = some (tyX6 k) := by decide +kernel
abbrev cX6_init : ByteArray := prog_8_method_1_code
def yX6_init : MethodName := ⟨RX6, "<init>", "(LGladGlasses$Coast;LGladGlasses$State;)V"⟩
abbrev cX6_weatherAhead : ByteArray := prog_8_method_2_code
def yX6_weatherAhead : MethodName := ⟨RX6, "weatherAhead", "(I)I"⟩
abbrev cX6_reading : ByteArray := prog_8_method_3_code
def yX6_reading : MethodName := ⟨RX6, "reading", "(II)I"⟩
abbrev cX6_readingBy : ByteArray := prog_8_method_4_code
def yX6_readingBy : MethodName := ⟨RX6, "readingBy", "(II)I"⟩
abbrev cX6_clearReading : ByteArray := prog_8_method_5_code
def yX6_clearReading : MethodName := ⟨RX6, "clearReading", "(IZ)I"⟩
abbrev cX6_telling : ByteArray := prog_8_method_6_code
def yX6_telling : MethodName := ⟨RX6, "telling", "(I)I"⟩
abbrev cX6_tellingOf : ByteArray := prog_8_method_7_code
def yX6_tellingOf : MethodName := ⟨RX6, "tellingOf", "(II)I"⟩
abbrev cX6_gladSet : ByteArray := prog_8_method_8_code
def yX6_gladSet : MethodName := ⟨RX6, "gladSet", "()I"⟩
abbrev cX6_falseSet : ByteArray := prog_8_method_9_code
def yX6_falseSet : MethodName := ⟨RX6, "falseSet", "()I"⟩
abbrev cX6_apart : ByteArray := prog_8_method_10_code
def yX6_apart : MethodName := ⟨RX6, "apart", "(II)I"⟩
abbrev cX6_mostUnlike : ByteArray := prog_8_method_11_code
def yX6_mostUnlike : MethodName := ⟨RX6, "mostUnlike", "()I"⟩
abbrev cX6_firstFair : ByteArray := prog_8_method_12_code
def yX6_firstFair : MethodName := ⟨RX6, "firstFair", "(II)I"⟩
def RX7 : String := "GladGlasses$State"
def TX7 : u_T := fun k => match k with
  | 0 => ("GladGlasses$State", "dayNumber", "I", false)
  | 1 => ("GladGlasses$State", "drinks", "I", false)
  | 2 => ("GladGlasses$State", "lost", "I", false)
  | 3 => ("GladGlasses$State", "held", "I", false)
  | 4 => ("GladGlasses$State", "temper", "[I", true)
  | 5 => ("GladGlasses$State", "weight", "[I", true)
  | 6 => ("GladGlasses$State", "gladDays", "[I", true)
  | 7 => ("GladGlasses$State", "caught", "[I", true)
  | 8 => ("GladGlasses$State", "logSize", "I", false)
  | 9 => ("GladGlasses$State", "logNext", "I", false)
  | 10 => ("GladGlasses$State", "logTold", "[I", true)
  | 11 => ("GladGlasses$State", "logWeather", "[I", true)
  | _ => ("GladGlasses$State", "logSailed", "[I", true)
def tyX7 : Nat → FieldType := fun k => match k with
  | 0 => .int
  | 1 => .int
  | 2 => .int
  | 3 => .int
  | 4 => .array .int
  | 5 => .array .int
  | 6 => .array .int
  | 7 => .array .int
  | 8 => .int
  | 9 => .int
  | 10 => .array .int
  | 11 => .array .int
  | _ => .array .int
abbrev wsX70 : List Cond := u_ws RX7 TX7 13
theorem nmX7 : ∀ a, a < 13 → ∀ b, b < 13 → a ≠ b → (TX7 a).2.1 ≠ (TX7 b).2.1 := by decide +kernel
theorem tyX7_ok : ∀ k, k < 13 → parseFieldDescriptor (TX7 k).2.2.1 = some (tyX7 k) := by decide +kernel
abbrev cX7_init : ByteArray := prog_9_method_1_code
def yX7_init : MethodName := ⟨RX7, "<init>", "()V"⟩
abbrev cX7_begin : ByteArray := prog_9_method_2_code
def yX7_begin : MethodName := ⟨RX7, "begin", "(LGladGlasses$Coast;)V"⟩
abbrev cX7_copyFrom : ByteArray := prog_9_method_3_code
def yX7_copyFrom : MethodName := ⟨RX7, "copyFrom", "(LGladGlasses$State;)V"⟩
abbrev cX7_addToLog : ByteArray := prog_9_method_4_code
def yX7_addToLog : MethodName := ⟨RX7, "addToLog", "(III)V"⟩
abbrev cX7_logEntry : ByteArray := prog_9_method_5_code
def yX7_logEntry : MethodName := ⟨RX7, "logEntry", "(II)I"⟩
abbrev cX7_rulesThatHold : ByteArray := prog_9_method_6_code
def yX7_rulesThatHold : MethodName := ⟨RX7, "rulesThatHold", "(I)I"⟩
def RX8 : String := "GladGlasses$Tuning"
def TX8 : u_T := fun k => match k with
  | 0 => ("GladGlasses$Tuning", "coast", "LGladGlasses$Coast;", true)
  | 1 => ("GladGlasses$Tuning", "now", "LGladGlasses$State;", true)
  | 2 => ("GladGlasses$Tuning", "row", "LGladGlasses$Row;", true)
  | 3 => ("GladGlasses$Tuning", "reads", "[I", true)
  | 4 => ("GladGlasses$Tuning", "weatherThen", "[I", true)
  | 5 => ("GladGlasses$Tuning", "sums", "[I", true)
  | 6 => ("GladGlasses$Tuning", "triedWeight", "[I", true)
  | 7 => ("GladGlasses$Tuning", "bestWeight", "[I", true)
  | 8 => ("GladGlasses$Tuning", "triedTotal", "I", false)
  | 9 => ("GladGlasses$Tuning", "stepsToRead", "[I", true)
  | 10 => ("GladGlasses$Tuning", "stepsToSum", "[I", false)
  | _ => ("GladGlasses$Tuning", "stepsToNext", "[I", false)
def tyX8 : Nat → FieldType := fun k => match k with
  | 0 => .object "GladGlasses$Coast"
  | 1 => .object "GladGlasses$State"
  | 2 => .object "GladGlasses$Row"
  | 3 => .array .int
  | 4 => .array .int
  | 5 => .array .int
  | 6 => .array .int
  | 7 => .array .int
  | 8 => .int
  | 9 => .array .int
  | 10 => .array .int
  | _ => .array .int
abbrev wsX80 : List Cond := u_ws RX8 TX8 12
theorem nmX8 : ∀ a, a < 12 → ∀ b, b < 12 → a ≠ b → (TX8 a).2.1 ≠ (TX8 b).2.1 := by decide +kernel
theorem tyX8_ok : ∀ k, k < 12 → parseFieldDescriptor (TX8 k).2.2.1 = some (tyX8 k) := by decide +kernel
abbrev cX8_init : ByteArray := prog_10_method_1_code
def yX8_init : MethodName := ⟨RX8, "<init>", "(LGladGlasses$Coast;LGladGlasses$State;LGladGlasses$Row;)V"⟩
abbrev cX8_glassError : ByteArray := prog_10_method_2_code
def yX8_glassError : MethodName := ⟨RX8, "glassError", "(I)I"⟩
abbrev cX8_rowError : ByteArray := prog_10_method_3_code
def yX8_rowError : MethodName := ⟨RX8, "rowError", "()I"⟩
abbrev cX8_glassOfLeastError : ByteArray := prog_10_method_4_code
def yX8_glassOfLeastError : MethodName := ⟨RX8, "glassOfLeastError", "()I"⟩
abbrev cX8_weighBest : ByteArray := prog_10_method_5_code
def yX8_weighBest : MethodName := ⟨RX8, "weighBest", "()I"⟩
abbrev cX8_startWeighing : ByteArray := prog_10_method_6_code
def yX8_startWeighing : MethodName := ⟨RX8, "startWeighing", "()V"⟩
abbrev cX8_triedError : ByteArray := prog_10_method_7_code
def yX8_triedError : MethodName := ⟨RX8, "triedError", "(I)I"⟩
abbrev cX8_nextWeighing : ByteArray := prog_10_method_8_code
def yX8_nextWeighing : MethodName := ⟨RX8, "nextWeighing", "()Z"⟩
abbrev cX8_addWeight : ByteArray := prog_10_method_9_code
def yX8_addWeight : MethodName := ⟨RX8, "addWeight", "(II)V"⟩
abbrev cX8_fewestSteps : ByteArray := prog_10_method_10_code
def yX8_fewestSteps : MethodName := ⟨RX8, "fewestSteps", "(I)I"⟩
abbrev cX8_countStepsToReads : ByteArray := prog_10_method_11_code
def yX8_countStepsToReads : MethodName := ⟨RX8, "countStepsToReads", "(I)V"⟩
abbrev cX8_addToSums : ByteArray := prog_10_method_12_code
def yX8_addToSums : MethodName := ⟨RX8, "addToSums", "(II)V"⟩
abbrev cX8_drinksShort : ByteArray := prog_10_method_13_code
def yX8_drinksShort : MethodName := ⟨RX8, "drinksShort", "(I)I"⟩
abbrev cX8_drinksOver : ByteArray := prog_10_method_14_code
def yX8_drinksOver : MethodName := ⟨RX8, "drinksOver", "(I)I"⟩
abbrev cX8_daysToGive : ByteArray := prog_10_method_15_code
def yX8_daysToGive : MethodName := ⟨RX8, "daysToGive", "(I)I"⟩
def RX9 : String := "GladGlasses"
def TX9 : u_T := fun k => match k with
  | 0 => ("GladGlasses", "reader", "LGladGlasses$Reader;", true)
  | 1 => ("GladGlasses", "draft", "LGladGlasses$Coast;", true)
  | 2 => ("GladGlasses", "shore", "LGladGlasses$Coast;", true)
  | 3 => ("GladGlasses", "now", "LGladGlasses$State;", true)
  | 4 => ("GladGlasses", "row", "LGladGlasses$Row;", true)
  | 5 => ("GladGlasses", "fleet", "LGladGlasses$Fleet;", true)
  | 6 => ("GladGlasses", "tuning", "LGladGlasses$Tuning;", true)
  | 7 => ("GladGlasses", "notebook", "LGladGlasses$Notebook;", true)
  | 8 => ("GladGlasses", "deeds", "LGladGlasses$Deeds;", true)
  | 9 => ("GladGlasses", "images", "LGladGlasses$Images;", true)
  | _ => ("GladGlasses", "drawSeed", "I", false)
def tyX9 : Nat → FieldType := fun k => match k with
  | 0 => .object "GladGlasses$Reader"
  | 1 => .object "GladGlasses$Coast"
  | 2 => .object "GladGlasses$Coast"
  | 3 => .object "GladGlasses$State"
  | 4 => .object "GladGlasses$Row"
  | 5 => .object "GladGlasses$Fleet"
  | 6 => .object "GladGlasses$Tuning"
  | 7 => .object "GladGlasses$Notebook"
  | 8 => .object "GladGlasses$Deeds"
  | 9 => .object "GladGlasses$Images"
  | _ => .int
abbrev wsX90 : List Cond := u_ws RX9 TX9 11
theorem nmX9 : ∀ a, a < 11 → ∀ b, b < 11 → a ≠ b → (TX9 a).2.1 ≠ (TX9 b).2.1 := by decide +kernel
theorem tyX9_ok : ∀ k, k < 11 → parseFieldDescriptor (TX9 k).2.2.1 = some (tyX9 k) := by decide +kernel
abbrev cX9_init : ByteArray := prog_1_method_1_code
def yX9_init : MethodName := ⟨RX9, "<init>", "()V"⟩
abbrev cX9_feed : ByteArray := prog_1_method_2_code
def yX9_feed : MethodName := ⟨RX9, "feed", "(I)I"⟩
abbrev cX9_coast : ByteArray := prog_1_method_3_code
def yX9_coast : MethodName := ⟨RX9, "coast", "()I"⟩
abbrev cX9_fault : ByteArray := prog_1_method_4_code
def yX9_fault : MethodName := ⟨RX9, "fault", "()I"⟩
abbrev cX9_told : ByteArray := prog_1_method_5_code
def yX9_told : MethodName := ⟨RX9, "told", "(I)I"⟩
abbrev cX9_weather : ByteArray := prog_1_method_6_code
def yX9_weather : MethodName := ⟨RX9, "weather", "(I)I"⟩
abbrev cX9_glass : ByteArray := prog_1_method_7_code
def yX9_glass : MethodName := ⟨RX9, "glass", "(II)I"⟩
abbrev cX9_boat : ByteArray := prog_1_method_8_code
def yX9_boat : MethodName := ⟨RX9, "boat", "(II)I"⟩
abbrev cX9_logged : ByteArray := prog_1_method_9_code
def yX9_logged : MethodName := ⟨RX9, "logged", "(II)I"⟩
abbrev cX9_day : ByteArray := prog_1_method_10_code
def yX9_day : MethodName := ⟨RX9, "day", "(I)I"⟩
abbrev cX9_drink : ByteArray := prog_1_method_11_code
def yX9_drink : MethodName := ⟨RX9, "drink", "(I)I"⟩
abbrev cX9_keepFrom : ByteArray := prog_1_method_12_code
def yX9_keepFrom : MethodName := ⟨RX9, "keepFrom", "(I)I"⟩
abbrev cX9_glad : ByteArray := prog_1_method_13_code
def yX9_glad : MethodName := ⟨RX9, "glad", "(II)I"⟩
abbrev cX9_weigh : ByteArray := prog_1_method_14_code
def yX9_weigh : MethodName := ⟨RX9, "weigh", "(II)I"⟩
abbrev cX9_hold : ByteArray := prog_1_method_15_code
def yX9_hold : MethodName := ⟨RX9, "hold", "(IZ)I"⟩
abbrev cX9_find : ByteArray := prog_1_method_16_code
def yX9_find : MethodName := ⟨RX9, "find", "(I)I"⟩
abbrev cX9_drift : ByteArray := prog_1_method_17_code
def yX9_drift : MethodName := ⟨RX9, "drift", "(I)I"⟩
abbrev cX9_undo : ByteArray := prog_1_method_18_code
def yX9_undo : MethodName := ⟨RX9, "undo", "(I)I"⟩
abbrev cX9_tells : ByteArray := prog_1_method_19_code
def yX9_tells : MethodName := ⟨RX9, "tells", "(I)I"⟩
abbrev cX9_catches : ByteArray := prog_1_method_20_code
def yX9_catches : MethodName := ⟨RX9, "catches", "(II)I"⟩
abbrev cX9_loses : ByteArray := prog_1_method_21_code
def yX9_loses : MethodName := ⟨RX9, "loses", "(I)I"⟩
abbrev cX9_bestLimit : ByteArray := prog_1_method_22_code
def yX9_bestLimit : MethodName := ⟨RX9, "bestLimit", "(II)I"⟩
abbrev cX9_error : ByteArray := prog_1_method_23_code
def yX9_error : MethodName := ⟨RX9, "error", "(I)I"⟩
abbrev cX9_truest : ByteArray := prog_1_method_24_code
def yX9_truest : MethodName := ⟨RX9, "truest", "(I)I"⟩
abbrev cX9_bestWeights : ByteArray := prog_1_method_25_code
def yX9_bestWeights : MethodName := ⟨RX9, "bestWeights", "(I)I"⟩
abbrev cX9_steps : ByteArray := prog_1_method_26_code
def yX9_steps : MethodName := ⟨RX9, "steps", "(I)I"⟩
abbrev cX9_allTrue : ByteArray := prog_1_method_27_code
def yX9_allTrue : MethodName := ⟨RX9, "allTrue", "(II)I"⟩
abbrev cX9_differ : ByteArray := prog_1_method_28_code
def yX9_differ : MethodName := ⟨RX9, "differ", "(I)I"⟩
abbrev cX9_fair : ByteArray := prog_1_method_29_code
def yX9_fair : MethodName := ⟨RX9, "fair", "(II)I"⟩
abbrev cX9_falseOnes : ByteArray := prog_1_method_30_code
def yX9_falseOnes : MethodName := ⟨RX9, "falseOnes", "()I"⟩
abbrev cX9_holds : ByteArray := prog_1_method_31_code
def yX9_holds : MethodName := ⟨RX9, "holds", "(I)I"⟩
abbrev cX9_homeBy : ByteArray := prog_1_method_32_code
def yX9_homeBy : MethodName := ⟨RX9, "homeBy", "(II)I"⟩
abbrev cX9_tap : ByteArray := prog_1_method_33_code
def yX9_tap : MethodName := ⟨RX9, "tap", "(II)I"⟩
abbrev cX9_could : ByteArray := prog_1_method_34_code
def yX9_could : MethodName := ⟨RX9, "could", "()I"⟩
abbrev cX9_tapNext : ByteArray := prog_1_method_35_code
def yX9_tapNext : MethodName := ⟨RX9, "tapNext", "()I"⟩
abbrev cX9_write : ByteArray := prog_1_method_36_code
def yX9_write : MethodName := ⟨RX9, "write", "(II)I"⟩
abbrev cX9_judge : ByteArray := prog_1_method_37_code
def yX9_judge : MethodName := ⟨RX9, "judge", "()I"⟩
abbrev cX9_tear : ByteArray := prog_1_method_38_code
def yX9_tear : MethodName := ⟨RX9, "tear", "()I"⟩
abbrev cX9_seed : ByteArray := prog_1_method_39_code
def yX9_seed : MethodName := ⟨RX9, "seed", "(I)I"⟩
abbrev cX9_keep : ByteArray := prog_1_method_40_code
def yX9_keep : MethodName := ⟨RX9, "keep", "(I)I"⟩
abbrev cX9_goBack : ByteArray := prog_1_method_41_code
def yX9_goBack : MethodName := ⟨RX9, "goBack", "(I)I"⟩
abbrev cX9_noCoast : ByteArray := prog_1_method_42_code
def yX9_noCoast : MethodName := ⟨RX9, "noCoast", "()Z"⟩
abbrev cX9_noGlass : ByteArray := prog_1_method_43_code
def yX9_noGlass : MethodName := ⟨RX9, "noGlass", "(I)Z"⟩
abbrev cX9_noBoat : ByteArray := prog_1_method_44_code
def yX9_noBoat : MethodName := ⟨RX9, "noBoat", "(I)Z"⟩
abbrev cX9_refuseAhead : ByteArray := prog_1_method_45_code
def yX9_refuseAhead : MethodName := ⟨RX9, "refuseAhead", "(I)I"⟩
abbrev cX9_refuseDays : ByteArray := prog_1_method_46_code
def yX9_refuseDays : MethodName := ⟨RX9, "refuseDays", "(I)I"⟩
abbrev cX9_refuseGlassOrRow : ByteArray := prog_1_method_47_code
def yX9_refuseGlassOrRow : MethodName := ⟨RX9, "refuseGlassOrRow", "(I)I"⟩
abbrev cX9_moveByDraw : ByteArray := prog_1_method_48_code
def yX9_moveByDraw : MethodName := ⟨RX9, "moveByDraw", "()V"⟩
abbrev cX9_draw : ByteArray := prog_1_method_49_code
def yX9_draw : MethodName := ⟨RX9, "draw", "(I)I"⟩
abbrev cX9_isOut : ByteArray := prog_1_method_50_code
def yX9_isOut : MethodName := ⟨RX9, "isOut", "(III)Z"⟩
abbrev cX9_hasBit : ByteArray := prog_1_method_51_code
def yX9_hasBit : MethodName := ⟨RX9, "hasBit", "(II)Z"⟩
def RX10 : String := "GladGlassesModel"
def TX10 : u_T := fun k => match k with
  | 0 => ("GladGlassesModel", "w", "[I", true)
  | 1 => ("GladGlassesModel", "isKept", "[Z", true)
  | 2 => ("GladGlassesModel", "fair", "[I", true)
  | 3 => ("GladGlassesModel", "temper", "[I", true)
  | 4 => ("GladGlassesModel", "weights", "[I", true)
  | 5 => ("GladGlassesModel", "limit", "[I", true)
  | 6 => ("GladGlassesModel", "seaworthy", "[I", true)
  | 7 => ("GladGlassesModel", "days", "I", false)
  | 8 => ("GladGlassesModel", "newDays", "I", false)
  | 9 => ("GladGlassesModel", "glasses", "I", false)
  | 10 => ("GladGlassesModel", "newGlasses", "I", false)
  | 11 => ("GladGlassesModel", "boats", "I", false)
  | 12 => ("GladGlassesModel", "newBoats", "I", false)
  | 13 => ("GladGlassesModel", "drinks", "I", false)
  | 14 => ("GladGlassesModel", "newDrinks", "I", false)
  | 15 => ("GladGlassesModel", "toldDrinks", "Z", false)
  | 16 => ("GladGlassesModel", "text", "[I", true)
  | 17 => ("GladGlassesModel", "textSize", "I", false)
  | 18 => ("GladGlassesModel", "at", "I", false)
  | 19 => ("GladGlassesModel", "first", "I", false)
  | 20 => ("GladGlassesModel", "faultOf", "I", false)
  | 21 => ("GladGlassesModel", "fault", "I", false)
  | 22 => ("GladGlassesModel", "undoMany", "I", false)
  | 23 => ("GladGlassesModel", "willTell", "[I", true)
  | 24 => ("GladGlassesModel", "willBe", "[I", true)
  | 25 => ("GladGlassesModel", "willRead", "[I", true)
  | 26 => ("GladGlassesModel", "stepsTo", "[I", true)
  | 27 => ("GladGlassesModel", "stepsThen", "[I", true)
  | 28 => ("GladGlassesModel", "tapGlass", "[I", true)
  | 29 => ("GladGlassesModel", "tapRead", "[I", true)
  | 30 => ("GladGlassesModel", "tapped", "I", false)
  | 31 => ("GladGlassesModel", "bookOf", "[I", true)
  | 32 => ("GladGlassesModel", "bookTemper", "[I", true)
  | _ => ("GladGlassesModel", "written", "I", false)
def tyX10 : Nat → FieldType := fun k => match k with
  | 0 => .array .int
  | 1 => .array .boolean
  | 2 => .array .int
  | 3 => .array .int
  | 4 => .array .int
  | 5 => .array .int
  | 6 => .array .int
  | 7 => .int
  | 8 => .int
  | 9 => .int
  | 10 => .int
  | 11 => .int
  | 12 => .int
  | 13 => .int
  | 14 => .int
  | 15 => .boolean
  | 16 => .array .int
  | 17 => .int
  | 18 => .int
  | 19 => .int
  | 20 => .int
  | 21 => .int
  | 22 => .int
  | 23 => .array .int
  | 24 => .array .int
  | 25 => .array .int
  | 26 => .array .int
  | 27 => .array .int
  | 28 => .array .int
  | 29 => .array .int
  | 30 => .int
  | 31 => .array .int
  | 32 => .array .int
  | _ => .int
abbrev wsX100 : List Cond := u_ws RX10 TX10 34
theorem nmX10 : ∀ a, a < 34 → ∀ b, b < 34 → a ≠ b → (TX10 a).2.1 ≠ (TX10 b).2.1 := by decide +kernel
theorem tyX10_ok : ∀ k, k < 34 → parseFieldDescriptor (TX10 k).2.2.1 = some (tyX10 k) := by decide +kernel
abbrev cX10_init : ByteArray := prog_12_method_1_code
def yX10_init : MethodName := ⟨RX10, "<init>", "()V"⟩
abbrev cX10_in : ByteArray := prog_12_method_3_code
def yX10_in : MethodName := ⟨RX10, "in", "(JJJ)Z"⟩
abbrev cX10_least : ByteArray := prog_12_method_4_code
def yX10_least : MethodName := ⟨RX10, "least", "(II)I"⟩
abbrev cX10_most : ByteArray := prog_12_method_5_code
def yX10_most : MethodName := ⟨RX10, "most", "(II)I"⟩
abbrev cX10_apart : ByteArray := prog_12_method_6_code
def yX10_apart : MethodName := ⟨RX10, "apart", "(II)I"⟩
abbrev cX10_one : ByteArray := prog_12_method_7_code
def yX10_one : MethodName := ⟨RX10, "one", "(Z)I"⟩
abbrev cX10_has : ByteArray := prog_12_method_8_code
def yX10_has : MethodName := ⟨RX10, "has", "(II)Z"⟩
abbrev cX10_feed : ByteArray := prog_12_method_9_code
def yX10_feed : MethodName := ⟨RX10, "feed", "(I)I"⟩
abbrev cX10_here : ByteArray := prog_12_method_10_code
def yX10_here : MethodName := ⟨RX10, "here", "()I"⟩
abbrev cX10_want : ByteArray := prog_12_method_11_code
def yX10_want : MethodName := ⟨RX10, "want", "(ZII)Z"⟩
abbrev cX10_takeNumber : ByteArray := prog_12_method_12_code
def yX10_takeNumber : MethodName := ⟨RX10, "takeNumber", "()I"⟩
abbrev cX10_takeIn : ByteArray := prog_12_method_13_code
def yX10_takeIn : MethodName := ⟨RX10, "takeIn", "(II)I"⟩
abbrev cX10_takeWeather : ByteArray := prog_12_method_14_code
def yX10_takeWeather : MethodName := ⟨RX10, "takeWeather", "(I)V"⟩
abbrev cX10_takeGlass : ByteArray := prog_12_method_15_code
def yX10_takeGlass : MethodName := ⟨RX10, "takeGlass", "(I)V"⟩
abbrev cX10_takeBoat : ByteArray := prog_12_method_16_code
def yX10_takeBoat : MethodName := ⟨RX10, "takeBoat", "(I)V"⟩
abbrev cX10_takeDrinks : ByteArray := prog_12_method_17_code
def yX10_takeDrinks : MethodName := ⟨RX10, "takeDrinks", "(I)V"⟩
abbrev cX10_takeClause : ByteArray := prog_12_method_18_code
def yX10_takeClause : MethodName := ⟨RX10, "takeClause", "()V"⟩
abbrev cX10_coast : ByteArray := prog_12_method_19_code
def yX10_coast : MethodName := ⟨RX10, "coast", "()I"⟩
abbrev cX10_take : ByteArray := prog_12_method_20_code
def yX10_take : MethodName := ⟨RX10, "take", "()V"⟩
abbrev cX10_fault : ByteArray := prog_12_method_21_code
def yX10_fault : MethodName := ⟨RX10, "fault", "()I"⟩
abbrev cX10_isGlass : ByteArray := prog_12_method_22_code
def yX10_isGlass : MethodName := ⟨RX10, "isGlass", "(I)Z"⟩
abbrev cX10_isBoat : ByteArray := prog_12_method_23_code
def yX10_isBoat : MethodName := ⟨RX10, "isBoat", "(I)Z"⟩
abbrev cX10_isAll : ByteArray := prog_12_method_24_code
def yX10_isAll : MethodName := ⟨RX10, "isAll", "(I)Z"⟩
abbrev cX10_weatherOf : ByteArray := prog_12_method_25_code
def yX10_weatherOf : MethodName := ⟨RX10, "weatherOf", "(I)I"⟩
abbrev cX10_tomorrow : ByteArray := prog_12_method_26_code
def yX10_tomorrow : MethodName := ⟨RX10, "tomorrow", "(I)I"⟩
abbrev cX10_held : ByteArray := prog_12_method_27_code
def yX10_held : MethodName := ⟨RX10, "held", "(I)I"⟩
abbrev cX10_reading : ByteArray := prog_12_method_28_code
def yX10_reading : MethodName := ⟨RX10, "reading", "(IIZ)I"⟩
abbrev cX10_reads : ByteArray := prog_12_method_29_code
def yX10_reads : MethodName := ⟨RX10, "reads", "(II)I"⟩
abbrev cX10_rowTells : ByteArray := prog_12_method_30_code
def yX10_rowTells : MethodName := ⟨RX10, "rowTells", "(I)I"⟩
abbrev cX10_sails : ByteArray := prog_12_method_31_code
def yX10_sails : MethodName := ⟨RX10, "sails", "(III)Z"⟩
abbrev cX10_sailing : ByteArray := prog_12_method_32_code
def yX10_sailing : MethodName := ⟨RX10, "sailing", "()I"⟩
abbrev cX10_gladOnes : ByteArray := prog_12_method_33_code
def yX10_gladOnes : MethodName := ⟨RX10, "gladOnes", "()I"⟩
abbrev cX10_caught : ByteArray := prog_12_method_34_code
def yX10_caught : MethodName := ⟨RX10, "caught", "()I"⟩
abbrev cX10_told : ByteArray := prog_12_method_35_code
def yX10_told : MethodName := ⟨RX10, "told", "(I)I"⟩
abbrev cX10_weather : ByteArray := prog_12_method_36_code
def yX10_weather : MethodName := ⟨RX10, "weather", "(I)I"⟩
abbrev cX10_glass : ByteArray := prog_12_method_37_code
def yX10_glass : MethodName := ⟨RX10, "glass", "(II)I"⟩
abbrev cX10_boat : ByteArray := prog_12_method_38_code
def yX10_boat : MethodName := ⟨RX10, "boat", "(II)I"⟩
abbrev cX10_logged : ByteArray := prog_12_method_39_code
def yX10_logged : MethodName := ⟨RX10, "logged", "(II)I"⟩
abbrev cX10_copy : ByteArray := prog_12_method_40_code
def yX10_copy : MethodName := ⟨RX10, "copy", "(II)V"⟩
abbrev cX10_remember : ByteArray := prog_12_method_41_code
def yX10_remember : MethodName := ⟨RX10, "remember", "()V"⟩
abbrev cX10_log : ByteArray := prog_12_method_42_code
def yX10_log : MethodName := ⟨RX10, "log", "(IIII)V"⟩
abbrev cX10_dayIn : ByteArray := prog_12_method_43_code
def yX10_dayIn : MethodName := ⟨RX10, "dayIn", "(I)V"⟩
abbrev cX10_refusedDays : ByteArray := prog_12_method_44_code
def yX10_refusedDays : MethodName := ⟨RX10, "refusedDays", "(I)I"⟩
abbrev cX10_homes : ByteArray := prog_12_method_45_code
def yX10_homes : MethodName := ⟨RX10, "homes", "()I"⟩
abbrev cX10_day : ByteArray := prog_12_method_46_code
def yX10_day : MethodName := ⟨RX10, "day", "(I)I"⟩
abbrev cX10_drink : ByteArray := prog_12_method_47_code
def yX10_drink : MethodName := ⟨RX10, "drink", "(I)I"⟩
abbrev cX10_keepFrom : ByteArray := prog_12_method_48_code
def yX10_keepFrom : MethodName := ⟨RX10, "keepFrom", "(I)I"⟩
abbrev cX10_changed : ByteArray := prog_12_method_49_code
def yX10_changed : MethodName := ⟨RX10, "changed", "(II)I"⟩
abbrev cX10_glad : ByteArray := prog_12_method_50_code
def yX10_glad : MethodName := ⟨RX10, "glad", "(II)I"⟩
abbrev cX10_weigh : ByteArray := prog_12_method_51_code
def yX10_weigh : MethodName := ⟨RX10, "weigh", "(II)I"⟩
abbrev cX10_hold : ByteArray := prog_12_method_52_code
def yX10_hold : MethodName := ⟨RX10, "hold", "(IZ)I"⟩
abbrev cX10_find : ByteArray := prog_12_method_53_code
def yX10_find : MethodName := ⟨RX10, "find", "(I)I"⟩
abbrev cX10_draw : ByteArray := prog_12_method_54_code
def yX10_draw : MethodName := ⟨RX10, "draw", "(I)I"⟩
abbrev cX10_dayByDraws : ByteArray := prog_12_method_55_code
def yX10_dayByDraws : MethodName := ⟨RX10, "dayByDraws", "()V"⟩
abbrev cX10_drift : ByteArray := prog_12_method_56_code
def yX10_drift : MethodName := ⟨RX10, "drift", "(I)I"⟩
abbrev cX10_undo : ByteArray := prog_12_method_57_code
def yX10_undo : MethodName := ⟨RX10, "undo", "(I)I"⟩
abbrev cX10_goOn : ByteArray := prog_12_method_58_code
def yX10_goOn : MethodName := ⟨RX10, "goOn", "(I)V"⟩
abbrev cX10_tells : ByteArray := prog_12_method_59_code
def yX10_tells : MethodName := ⟨RX10, "tells", "(I)I"⟩
abbrev cX10_catches : ByteArray := prog_12_method_60_code
def yX10_catches : MethodName := ⟨RX10, "catches", "(II)I"⟩
abbrev cX10_loses : ByteArray := prog_12_method_61_code
def yX10_loses : MethodName := ⟨RX10, "loses", "(I)I"⟩
abbrev cX10_layDays : ByteArray := prog_12_method_62_code
def yX10_layDays : MethodName := ⟨RX10, "layDays", "(I)V"⟩
abbrev cX10_caughtBy : ByteArray := prog_12_method_63_code
def yX10_caughtBy : MethodName := ⟨RX10, "caughtBy", "(II)I"⟩
abbrev cX10_bestLimit : ByteArray := prog_12_method_64_code
def yX10_bestLimit : MethodName := ⟨RX10, "bestLimit", "(II)I"⟩
abbrev cX10_errorOf : ByteArray := prog_12_method_65_code
def yX10_errorOf : MethodName := ⟨RX10, "errorOf", "(I)I"⟩
abbrev cX10_error : ByteArray := prog_12_method_66_code
def yX10_error : MethodName := ⟨RX10, "error", "(I)I"⟩
abbrev cX10_truest : ByteArray := prog_12_method_67_code
def yX10_truest : MethodName := ⟨RX10, "truest", "(I)I"⟩
abbrev cX10_layReadings : ByteArray := prog_12_method_68_code
def yX10_layReadings : MethodName := ⟨RX10, "layReadings", "()V"⟩
abbrev cX10_weightOf : ByteArray := prog_12_method_69_code
def yX10_weightOf : MethodName := ⟨RX10, "weightOf", "(III)I"⟩
abbrev cX10_errorBy : ByteArray := prog_12_method_70_code
def yX10_errorBy : MethodName := ⟨RX10, "errorBy", "(I)I"⟩
abbrev cX10_bestWeights : ByteArray := prog_12_method_71_code
def yX10_bestWeights : MethodName := ⟨RX10, "bestWeights", "(I)I"⟩
abbrev cX10_layGlass : ByteArray := prog_12_method_72_code
def yX10_layGlass : MethodName := ⟨RX10, "layGlass", "(I)V"⟩
abbrev cX10_steps : ByteArray := prog_12_method_73_code
def yX10_steps : MethodName := ⟨RX10, "steps", "(I)I"⟩
abbrev cX10_allTrue : ByteArray := prog_12_method_74_code
def yX10_allTrue : MethodName := ⟨RX10, "allTrue", "(II)I"⟩
abbrev cX10_differ : ByteArray := prog_12_method_75_code
def yX10_differ : MethodName := ⟨RX10, "differ", "(I)I"⟩
abbrev cX10_isFair : ByteArray := prog_12_method_76_code
def yX10_isFair : MethodName := ⟨RX10, "isFair", "(III)Z"⟩
abbrev cX10_fair : ByteArray := prog_12_method_77_code
def yX10_fair : MethodName := ⟨RX10, "fair", "(II)I"⟩
abbrev cX10_falseOnes : ByteArray := prog_12_method_78_code
def yX10_falseOnes : MethodName := ⟨RX10, "falseOnes", "()I"⟩
abbrev cX10_holds : ByteArray := prog_12_method_79_code
def yX10_holds : MethodName := ⟨RX10, "holds", "(I)I"⟩
abbrev cX10_homeBy : ByteArray := prog_12_method_80_code
def yX10_homeBy : MethodName := ⟨RX10, "homeBy", "(II)I"⟩
abbrev cX10_tap : ByteArray := prog_12_method_81_code
def yX10_tap : MethodName := ⟨RX10, "tap", "(II)I"⟩
abbrev cX10_wouldRead : ByteArray := prog_12_method_82_code
def yX10_wouldRead : MethodName := ⟨RX10, "wouldRead", "(II)I"⟩
abbrev cX10_could : ByteArray := prog_12_method_83_code
def yX10_could : MethodName := ⟨RX10, "could", "()I"⟩
abbrev cX10_greatestPart : ByteArray := prog_12_method_84_code
def yX10_greatestPart : MethodName := ⟨RX10, "greatestPart", "(II)I"⟩
abbrev cX10_tapNext : ByteArray := prog_12_method_85_code
def yX10_tapNext : MethodName := ⟨RX10, "tapNext", "()I"⟩
abbrev cX10_write : ByteArray := prog_12_method_86_code
def yX10_write : MethodName := ⟨RX10, "write", "(II)I"⟩
abbrev cX10_judge : ByteArray := prog_12_method_87_code
def yX10_judge : MethodName := ⟨RX10, "judge", "()I"⟩
abbrev cX10_tear : ByteArray := prog_12_method_88_code
def yX10_tear : MethodName := ⟨RX10, "tear", "()I"⟩
abbrev cX10_seed : ByteArray := prog_12_method_89_code
def yX10_seed : MethodName := ⟨RX10, "seed", "(I)I"⟩
abbrev cX10_keep : ByteArray := prog_12_method_90_code
def yX10_keep : MethodName := ⟨RX10, "keep", "(I)I"⟩
abbrev cX10_goBack : ByteArray := prog_12_method_91_code
def yX10_goBack : MethodName := ⟨RX10, "goBack", "(I)I"⟩
def RJ6 : String := "java/lang/Integer"
def TJ6 : u_T := fun k => match k with
  | _ => ("", "", "", false)
def tyJ6 : Nat → FieldType := fun k => match k with
  | _ => .int
abbrev wsJ60 : List Cond := u_ws RJ6 TJ6 0
theorem nmJ6 : ∀ a, a < 0 → ∀ b, b < 0 → a ≠ b → (TJ6 a).2.1 ≠ (TJ6 b).2.1 := by decide +kernel
theorem tyJ6_ok : ∀ k, k < 0 → parseFieldDescriptor (TJ6 k).2.2.1 = some (tyJ6 k) := by decide +kernel
abbrev cJ6_bitCount_0f7a4 : ByteArray := prog_13_method_49_code
def yJ6_bitCount_0f7a4 : MethodName := ⟨RJ6, "bitCount", "(I)I"⟩
def RJ9 : String := "java/lang/Math"
def TJ9 : u_T := fun k => match k with
  | _ => ("", "", "", false)
def tyJ9 : Nat → FieldType := fun k => match k with
  | _ => .int
abbrev wsJ90 : List Cond := u_ws RJ9 TJ9 0
theorem nmJ9 : ∀ a, a < 0 → ∀ b, b < 0 → a ≠ b → (TJ9 a).2.1 ≠ (TJ9 b).2.1 := by decide +kernel
theorem tyJ9_ok : ∀ k, k < 0 → parseFieldDescriptor (TJ9 k).2.2.1 = some (tyJ9 k) := by decide +kernel
abbrev cJ9_abs_0f7a4 : ByteArray := prog_14_method_59_code
def yJ9_abs_0f7a4 : MethodName := ⟨RJ9, "abs", "(I)I"⟩
abbrev cJ9_max_7cf53 : ByteArray := prog_14_method_65_code
def yJ9_max_7cf53 : MethodName := ⟨RJ9, "max", "(II)I"⟩
abbrev cJ9_min_7cf53 : ByteArray := prog_14_method_69_code
def yJ9_min_7cf53 : MethodName := ⟨RJ9, "min", "(II)I"⟩
def RJ10 : String := "java/lang/System"
def TJ10 : u_T := fun k => match k with
  | _ => ("", "", "", false)
def tyJ10 : Nat → FieldType := fun k => match k with
  | _ => .int
abbrev wsJ100 : List Cond := u_ws RJ10 TJ10 0
theorem nmJ10 : ∀ a, a < 0 → ∀ b, b < 0 → a ≠ b → (TJ10 a).2.1 ≠ (TJ10 b).2.1 := by decide +kernel
theorem tyJ10_ok : ∀ k, k < 0 → parseFieldDescriptor (TJ10 k).2.2.1 = some (tyJ10 k) := by decide +kernel
def RJ7 : String := "java/util/Arrays"
def TJ7 : u_T := fun k => match k with
  | _ => ("", "", "", false)
def tyJ7 : Nat → FieldType := fun k => match k with
  | _ => .int
abbrev wsJ70 : List Cond := u_ws RJ7 TJ7 0
theorem nmJ7 : ∀ a, a < 0 → ∀ b, b < 0 → a ≠ b → (TJ7 a).2.1 ≠ (TJ7 b).2.1 := by decide +kernel
theorem tyJ7_ok : ∀ k, k < 0 → parseFieldDescriptor (TJ7 k).2.2.1 = some (tyJ7 k) := by decide +kernel
abbrev cJ7_fill_53178 : ByteArray := prog_16_method_103_code
def yJ7_fill_53178 : MethodName := ⟨RJ7, "fill", "([II)V"⟩
def RL : String := "GladGlassesLaw"
abbrev cL_law : ByteArray := code
def yL_law : MethodName := ⟨RL, "law", "([I)Z"⟩
abbrev vwCl : List vw_C := [(RX0, TX0, 10), (RX1, TX1, 3), (RX2, TX2, 7), (RX3, TX3, 3), (RX4, TX4, 10), (RX5, TX5, 5), (RX6, TX6, 2), (RX7, TX7, 13), (RX8, TX8, 12), (RX9, TX9, 11), (RX10, TX10, 34)]
end
section
/-! the program as data: method numbers, code with links resolved; written by wip/gen/gen1.py -/
abbrev zM : Type := Nat → Nat → Int32
abbrev zE : Type := Nat × Instr × Nat × Nat × Nat × Value
abbrev zR : Type := Option Value × zM
def zU : Value := .retAddr 0

/-- Coast.clear()V -/
def zc0 : List zE := [(0, .aload_n 0, 1, 0, 0, zU), (1, .iconst 0, 1, 0, 0, .int (nI 0)), (2, .putfield 27, 3, 0, 0, zU), (5, .aload_n 0, 1, 0, 0, zU), (6, .iconst 0, 1, 0, 0, .int (nI 0)), (7, .putfield 31, 3, 0, 1, zU), (10, .aload_n 0, 1, 0, 0, zU), (11, .iconst 0, 1, 0, 0, .int (nI 0)), (12, .putfield 34, 3, 0, 2, zU), (15, .aload_n 0, 1, 0, 0, zU), (16, .iconst 0, 1, 0, 0, .int (nI 0)), (17, .putfield 37, 3, 0, 3, zU), (20, .aload_n 0, 1, 0, 0, zU), (21, .iconst 0, 1, 0, 0, .int (nI 0)), (22, .putfield 40, 3, 0, 4, zU), (25, .return_, 1, 0, 0, zU)]
/-- Coast.copyFrom(LGladGlasses$Coast;)V -/
def zc1 : List zE := [(0, .aload_n 0, 1, 0, 0, zU), (1, .aload_n 1, 1, 1, 0, zU), (2, .getfield 27, 3, 0, 0, zU), (5, .putfield 27, 3, 0, 0, zU), (8, .aload_n 0, 1, 0, 0, zU), (9, .aload_n 1, 1, 1, 0, zU), (10, .getfield 31, 3, 0, 1, zU), (13, .putfield 31, 3, 0, 1, zU), (16, .aload_n 0, 1, 0, 0, zU), (17, .aload_n 1, 1, 1, 0, zU), (18, .getfield 34, 3, 0, 2, zU), (21, .putfield 34, 3, 0, 2, zU), (24, .aload_n 0, 1, 0, 0, zU), (25, .aload_n 1, 1, 1, 0, zU), (26, .getfield 37, 3, 0, 3, zU), (29, .putfield 37, 3, 0, 3, zU), (32, .aload_n 0, 1, 0, 0, zU), (33, .aload_n 1, 1, 1, 0, zU), (34, .getfield 40, 3, 0, 4, zU), (37, .putfield 40, 3, 0, 4, zU), (40, .aload_n 1, 1, 1, 0, zU), (41, .getfield 9, 3, 0, 5, zU), (44, .iconst 0, 1, 0, 0, .int (nI 0)), (45, .aload_n 0, 1, 0, 0, zU), (46, .getfield 9, 3, 0, 5, zU), (49, .iconst 0, 1, 0, 0, .int (nI 0)), (50, .bipush 12, 2, 0, 0, .int (nI 12)), (52, .invokestatic 44, 3, 9999, 5, zU), (55, .aload_n 1, 1, 1, 0, zU), (56, .getfield 15, 3, 0, 6, zU), (59, .iconst 0, 1, 0, 0, .int (nI 0)), (60, .aload_n 0, 1, 0, 0, zU), (61, .getfield 15, 3, 0, 6, zU), (64, .iconst 0, 1, 0, 0, .int (nI 0)), (65, .bipush 7, 2, 0, 0, .int (nI 7)), (67, .invokestatic 44, 3, 9999, 5, zU), (70, .aload_n 1, 1, 1, 0, zU), (71, .getfield 18, 3, 0, 7, zU), (74, .iconst 0, 1, 0, 0, .int (nI 0)), (75, .aload_n 0, 1, 0, 0, zU), (76, .getfield 18, 3, 0, 7, zU), (79, .iconst 0, 1, 0, 0, .int (nI 0)), (80, .bipush 7, 2, 0, 0, .int (nI 7)), (82, .invokestatic 44, 3, 9999, 5, zU), (85, .aload_n 1, 1, 1, 0, zU), (86, .getfield 21, 3, 0, 8, zU), (89, .iconst 0, 1, 0, 0, .int (nI 0)), (90, .aload_n 0, 1, 0, 0, zU), (91, .getfield 21, 3, 0, 8, zU), (94, .iconst 0, 1, 0, 0, .int (nI 0)), (95, .iconst 5, 1, 0, 0, .int (nI 5)), (96, .invokestatic 44, 3, 9999, 5, zU), (99, .aload_n 1, 1, 1, 0, zU), (100, .getfield 24, 3, 0, 9, zU), (103, .iconst 0, 1, 0, 0, .int (nI 0)), (104, .aload_n 0, 1, 0, 0, zU), (105, .getfield 24, 3, 0, 9, zU), (108, .iconst 0, 1, 0, 0, .int (nI 0)), (109, .iconst 5, 1, 0, 0, .int (nI 5)), (110, .invokestatic 44, 3, 9999, 5, zU), (113, .return_, 1, 0, 0, zU)]
/-- Coast.addWeather(I)V -/
def zc2 : List zE := [(0, .aload_n 0, 1, 0, 0, zU), (1, .getfield 27, 3, 0, 0, zU), (4, .bipush 12, 2, 0, 0, .int (nI 12)), (6, .if_icmp .ge 23, 3, 29, 0, zU), (9, .aload_n 0, 1, 0, 0, zU), (10, .getfield 9, 3, 0, 5, zU), (13, .aload_n 0, 1, 0, 0, zU), (14, .getfield 27, 3, 0, 0, zU), (17, .iload_n 1, 1, 1, 0, zU), (18, .iastore, 1, 0, 0, zU), (19, .aload_n 0, 1, 0, 0, zU), (20, .dup, 1, 0, 0, zU), (21, .getfield 27, 3, 0, 0, zU), (24, .iconst 1, 1, 0, 0, .int (nI 1)), (25, .iadd, 1, 0, 0, zU), (26, .putfield 27, 3, 0, 0, zU), (29, .return_, 1, 0, 0, zU)]
/-- Coast.addGlass(II)V -/
def zc3 : List zE := [(0, .aload_n 0, 1, 0, 0, zU), (1, .getfield 31, 3, 0, 1, zU), (4, .bipush 7, 2, 0, 0, .int (nI 7)), (6, .if_icmp .ge 33, 3, 39, 0, zU), (9, .aload_n 0, 1, 0, 0, zU), (10, .getfield 15, 3, 0, 6, zU), (13, .aload_n 0, 1, 0, 0, zU), (14, .getfield 31, 3, 0, 1, zU), (17, .iload_n 1, 1, 1, 0, zU), (18, .iastore, 1, 0, 0, zU), (19, .aload_n 0, 1, 0, 0, zU), (20, .getfield 18, 3, 0, 7, zU), (23, .aload_n 0, 1, 0, 0, zU), (24, .getfield 31, 3, 0, 1, zU), (27, .iload_n 2, 1, 2, 0, zU), (28, .iastore, 1, 0, 0, zU), (29, .aload_n 0, 1, 0, 0, zU), (30, .dup, 1, 0, 0, zU), (31, .getfield 31, 3, 0, 1, zU), (34, .iconst 1, 1, 0, 0, .int (nI 1)), (35, .iadd, 1, 0, 0, zU), (36, .putfield 31, 3, 0, 1, zU), (39, .return_, 1, 0, 0, zU)]
/-- Coast.addBoat(II)V -/
def zc4 : List zE := [(0, .aload_n 0, 1, 0, 0, zU), (1, .getfield 34, 3, 0, 2, zU), (4, .iconst 5, 1, 0, 0, .int (nI 5)), (5, .if_icmp .ge 33, 3, 38, 0, zU), (8, .aload_n 0, 1, 0, 0, zU), (9, .getfield 21, 3, 0, 8, zU), (12, .aload_n 0, 1, 0, 0, zU), (13, .getfield 34, 3, 0, 2, zU), (16, .iload_n 1, 1, 1, 0, zU), (17, .iastore, 1, 0, 0, zU), (18, .aload_n 0, 1, 0, 0, zU), (19, .getfield 24, 3, 0, 9, zU), (22, .aload_n 0, 1, 0, 0, zU), (23, .getfield 34, 3, 0, 2, zU), (26, .iload_n 2, 1, 2, 0, zU), (27, .iastore, 1, 0, 0, zU), (28, .aload_n 0, 1, 0, 0, zU), (29, .dup, 1, 0, 0, zU), (30, .getfield 34, 3, 0, 2, zU), (33, .iconst 1, 1, 0, 0, .int (nI 1)), (34, .iadd, 1, 0, 0, zU), (35, .putfield 34, 3, 0, 2, zU), (38, .return_, 1, 0, 0, zU)]
/-- Coast.tellDrinks(I)V -/
def zc5 : List zE := [(0, .aload_n 0, 1, 0, 0, zU), (1, .iload_n 1, 1, 1, 0, zU), (2, .putfield 37, 3, 0, 3, zU), (5, .aload_n 0, 1, 0, 0, zU), (6, .iconst 1, 1, 0, 0, .int (nI 1)), (7, .putfield 40, 3, 0, 4, zU), (10, .return_, 1, 0, 0, zU)]
/-- Deeds.forget()V -/
def zc6 : List zE := [(0, .aload_n 0, 1, 0, 0, zU), (1, .iconst 0, 1, 0, 0, .int (nI 0)), (2, .putfield 17, 3, 1, 1, zU), (5, .return_, 1, 0, 0, zU)]
/-- Fleet.caughtInAll()I -/
def zc7 : List zE := [(0, .iconst 0, 1, 0, 0, .int (nI 0)), (1, .istore_n 1, 1, 1, 0, zU), (2, .iconst 0, 1, 0, 0, .int (nI 0)), (3, .istore_n 2, 1, 2, 0, zU), (4, .iload_n 2, 1, 2, 0, zU), (5, .aload_n 0, 1, 0, 0, zU), (6, .getfield 25, 3, 2, 0, zU), (9, .getfield 37, 3, 0, 2, zU), (12, .if_icmp .ge 21, 3, 33, 0, zU), (15, .iload_n 1, 1, 1, 0, zU), (16, .aload_n 0, 1, 0, 0, zU), (17, .getfield 29, 3, 2, 1, zU), (20, .getfield 53, 3, 7, 7, zU), (23, .iload_n 2, 1, 2, 0, zU), (24, .iaload, 1, 0, 0, zU), (25, .iadd, 1, 0, 0, zU), (26, .istore_n 1, 1, 1, 0, zU), (27, .iinc 2 1, 3, 2, 0, .int (nI 1)), (30, .goto (-26), 3, 4, 0, zU), (33, .iload_n 1, 1, 1, 0, zU), (34, .ireturn, 1, 0, 0, zU)]
/-- Fleet.sail(II)V -/
def zc8 : List zE := [(0, .iload_n 2, 1, 2, 0, zU), (1, .aload_n 0, 1, 0, 0, zU), (2, .getfield 25, 3, 2, 0, zU), (5, .getfield 111, 3, 0, 9, zU), (8, .iload_n 1, 1, 1, 0, zU), (9, .iaload, 1, 0, 0, zU), (10, .if_icmp .ge 21, 3, 31, 0, zU), (13, .aload_n 0, 1, 0, 0, zU), (14, .getfield 29, 3, 2, 1, zU), (17, .dup, 1, 0, 0, zU), (18, .getfield 42, 3, 7, 2, zU), (21, .iconst 1, 1, 0, 0, .int (nI 1)), (22, .iload_n 1, 1, 1, 0, zU), (23, .ishl, 1, 0, 0, zU), (24, .ior, 1, 0, 0, zU), (25, .putfield 42, 3, 7, 2, zU), (28, .goto 28, 3, 56, 0, zU), (31, .aload_n 0, 1, 0, 0, zU), (32, .getfield 29, 3, 2, 1, zU), (35, .getfield 53, 3, 7, 7, zU), (38, .iload_n 1, 1, 1, 0, zU), (39, .aload_n 0, 1, 0, 0, zU), (40, .getfield 29, 3, 2, 1, zU), (43, .getfield 53, 3, 7, 7, zU), (46, .iload_n 1, 1, 1, 0, zU), (47, .iaload, 1, 0, 0, zU), (48, .iload_n 2, 1, 2, 0, zU), (49, .iadd, 1, 0, 0, zU), (50, .ldc 114, 2, 0, 0, .int (nI 999999)), (52, .invokestatic 115, 3, 9002, 2, zU), (55, .iastore, 1, 0, 0, zU), (56, .return_, 1, 0, 0, zU)]
/-- Fleet.safeDays(III)I -/
def zc9 : List zE := [(0, .iconst 0, 1, 0, 0, .int (nI 0)), (1, .istore 4, 2, 4, 0, zU), (3, .iload 4, 2, 4, 0, zU), (5, .iload_n 3, 1, 3, 0, zU), (6, .if_icmp .ge 49, 3, 55, 0, zU), (9, .iload 4, 2, 4, 0, zU), (11, .bipush 60, 2, 0, 0, .int (nI 60)), (13, .if_icmp .ge 42, 3, 55, 0, zU), (16, .aload_n 0, 1, 0, 0, zU), (17, .getfield 9, 3, 2, 3, zU), (20, .iload 4, 2, 4, 0, zU), (22, .iaload, 1, 0, 0, zU), (23, .iload_n 2, 1, 2, 0, zU), (24, .if_icmp .lt 25, 3, 49, 0, zU), (27, .aload_n 0, 1, 0, 0, zU), (28, .getfield 15, 3, 2, 4, zU), (31, .iload 4, 2, 4, 0, zU), (33, .iaload, 1, 0, 0, zU), (34, .aload_n 0, 1, 0, 0, zU), (35, .getfield 25, 3, 2, 0, zU), (38, .getfield 111, 3, 0, 9, zU), (41, .iload_n 1, 1, 1, 0, zU), (42, .iaload, 1, 0, 0, zU), (43, .if_icmp .ge 6, 3, 49, 0, zU), (46, .iload 4, 2, 4, 0, zU), (48, .ireturn, 1, 0, 0, zU), (49, .iinc 4 1, 3, 4, 0, .int (nI 1)), (52, .goto (-49), 3, 3, 0, zU), (55, .iload_n 3, 1, 3, 0, zU), (56, .ireturn, 1, 0, 0, zU)]
/-- Fleet.haul(III)I -/
def zc10 : List zE := [(0, .aload_n 0, 1, 0, 0, zU), (1, .getfield 29, 3, 2, 1, zU), (4, .getfield 53, 3, 7, 7, zU), (7, .iload_n 1, 1, 1, 0, zU), (8, .iaload, 1, 0, 0, zU), (9, .istore 4, 2, 4, 0, zU), (11, .iconst 0, 1, 0, 0, .int (nI 0)), (12, .istore 5, 2, 5, 0, zU), (14, .iload 5, 2, 5, 0, zU), (16, .iload_n 3, 1, 3, 0, zU), (17, .if_icmp .ge 44, 3, 61, 0, zU), (20, .iload 5, 2, 5, 0, zU), (22, .bipush 60, 2, 0, 0, .int (nI 60)), (24, .if_icmp .ge 37, 3, 61, 0, zU), (27, .aload_n 0, 1, 0, 0, zU), (28, .getfield 9, 3, 2, 3, zU), (31, .iload 5, 2, 5, 0, zU), (33, .iaload, 1, 0, 0, zU), (34, .iload_n 2, 1, 2, 0, zU), (35, .if_icmp .lt 20, 3, 55, 0, zU), (38, .iload 4, 2, 4, 0, zU), (40, .aload_n 0, 1, 0, 0, zU), (41, .getfield 15, 3, 2, 4, zU), (44, .iload 5, 2, 5, 0, zU), (46, .iaload, 1, 0, 0, zU), (47, .iadd, 1, 0, 0, zU), (48, .ldc 114, 2, 0, 0, .int (nI 999999)), (50, .invokestatic 115, 3, 9002, 2, zU), (53, .istore 4, 2, 4, 0, zU), (55, .iinc 5 1, 3, 5, 0, .int (nI 1)), (58, .goto (-44), 3, 14, 0, zU), (61, .iload 4, 2, 4, 0, zU), (63, .aload_n 0, 1, 0, 0, zU), (64, .getfield 29, 3, 2, 1, zU), (67, .getfield 53, 3, 7, 7, zU), (70, .iload_n 1, 1, 1, 0, zU), (71, .iaload, 1, 0, 0, zU), (72, .isub, 1, 0, 0, zU), (73, .ireturn, 1, 0, 0, zU)]
/-- Images.forget()V -/
def zc11 : List zE := [(0, .aload_n 0, 1, 0, 0, zU), (1, .iconst 0, 1, 0, 0, .int (nI 0)), (2, .putfield 21, 3, 3, 2, zU), (5, .return_, 1, 0, 0, zU)]
/-- Notebook.clear()V -/
def zc12 : List zE := [(0, .aload_n 0, 1, 0, 0, zU), (1, .iconst 0, 1, 0, 0, .int (nI 0)), (2, .putfield 18, 3, 4, 5, zU), (5, .aload_n 0, 1, 0, 0, zU), (6, .iconst 0, 1, 0, 0, .int (nI 0)), (7, .putfield 28, 3, 4, 8, zU), (10, .return_, 1, 0, 0, zU)]
/-- Notebook.addTap(II)Z -/
def zc13 : List zE := [(0, .aload_n 0, 1, 0, 0, zU), (1, .getfield 18, 3, 4, 5, zU), (4, .bipush 6, 2, 0, 0, .int (nI 6)), (6, .if_icmp .lt 5, 3, 11, 0, zU), (9, .iconst 0, 1, 0, 0, .int (nI 0)), (10, .ireturn, 1, 1, 0, zU), (11, .aload_n 0, 1, 0, 0, zU), (12, .getfield 9, 3, 4, 3, zU), (15, .aload_n 0, 1, 0, 0, zU), (16, .getfield 18, 3, 4, 5, zU), (19, .iload_n 1, 1, 1, 0, zU), (20, .iastore, 1, 0, 0, zU), (21, .aload_n 0, 1, 0, 0, zU), (22, .getfield 15, 3, 4, 4, zU), (25, .aload_n 0, 1, 0, 0, zU), (26, .getfield 18, 3, 4, 5, zU), (29, .iload_n 2, 1, 2, 0, zU), (30, .iastore, 1, 0, 0, zU), (31, .aload_n 0, 1, 0, 0, zU), (32, .dup, 1, 0, 0, zU), (33, .getfield 18, 3, 4, 5, zU), (36, .iconst 1, 1, 0, 0, .int (nI 1)), (37, .iadd, 1, 0, 0, zU), (38, .putfield 18, 3, 4, 5, zU), (41, .iconst 1, 1, 0, 0, .int (nI 1)), (42, .ireturn, 1, 1, 0, zU)]
/-- Notebook.addEntry(II)Z -/
def zc14 : List zE := [(0, .aload_n 0, 1, 0, 0, zU), (1, .getfield 28, 3, 4, 8, zU), (4, .bipush 20, 2, 0, 0, .int (nI 20)), (6, .if_icmp .lt 5, 3, 11, 0, zU), (9, .iconst 0, 1, 0, 0, .int (nI 0)), (10, .ireturn, 1, 1, 0, zU), (11, .aload_n 0, 1, 0, 0, zU), (12, .getfield 22, 3, 4, 6, zU), (15, .aload_n 0, 1, 0, 0, zU), (16, .getfield 28, 3, 4, 8, zU), (19, .iload_n 1, 1, 1, 0, zU), (20, .iastore, 1, 0, 0, zU), (21, .aload_n 0, 1, 0, 0, zU), (22, .getfield 25, 3, 4, 7, zU), (25, .aload_n 0, 1, 0, 0, zU), (26, .getfield 28, 3, 4, 8, zU), (29, .iload_n 2, 1, 2, 0, zU), (30, .iastore, 1, 0, 0, zU), (31, .aload_n 0, 1, 0, 0, zU), (32, .dup, 1, 0, 0, zU), (33, .getfield 28, 3, 4, 8, zU), (36, .iconst 1, 1, 0, 0, .int (nI 1)), (37, .iadd, 1, 0, 0, zU), (38, .putfield 28, 3, 4, 8, zU), (41, .iconst 1, 1, 0, 0, .int (nI 1)), (42, .ireturn, 1, 1, 0, zU)]
/-- Notebook.firstWrong()I -/
def zc15 : List zE := [(0, .iconst 0, 1, 0, 0, .int (nI 0)), (1, .istore_n 1, 1, 1, 0, zU), (2, .iload_n 1, 1, 1, 0, zU), (3, .aload_n 0, 1, 0, 0, zU), (4, .getfield 28, 3, 4, 8, zU), (7, .if_icmp .ge 34, 3, 41, 0, zU), (10, .aload_n 0, 1, 0, 0, zU), (11, .getfield 38, 3, 4, 1, zU), (14, .getfield 46, 3, 7, 4, zU), (17, .aload_n 0, 1, 0, 0, zU), (18, .getfield 22, 3, 4, 6, zU), (21, .iload_n 1, 1, 1, 0, zU), (22, .iaload, 1, 0, 0, zU), (23, .iaload, 1, 0, 0, zU), (24, .aload_n 0, 1, 0, 0, zU), (25, .getfield 25, 3, 4, 7, zU), (28, .iload_n 1, 1, 1, 0, zU), (29, .iaload, 1, 0, 0, zU), (30, .if_icmp .eq 5, 3, 35, 0, zU), (33, .iload_n 1, 1, 1, 0, zU), (34, .ireturn, 1, 0, 0, zU), (35, .iinc 1 1, 3, 1, 0, .int (nI 1)), (38, .goto (-36), 3, 2, 0, zU), (41, .iconst (-1), 1, 0, 0, .int ((-1))), (42, .ireturn, 1, 0, 0, zU)]
/-- Reader.add(I)Z -/
def zc16 : List zE := [(0, .aload_n 0, 1, 0, 0, zU), (1, .getfield 15, 3, 5, 1, zU), (4, .sipush 240, 3, 0, 0, .int (nI 240)), (7, .if_icmp .lt 5, 3, 12, 0, zU), (10, .iconst 0, 1, 0, 0, .int (nI 0)), (11, .ireturn, 1, 1, 0, zU), (12, .aload_n 0, 1, 0, 0, zU), (13, .getfield 9, 3, 5, 0, zU), (16, .aload_n 0, 1, 0, 0, zU), (17, .getfield 15, 3, 5, 1, zU), (20, .iload_n 1, 1, 1, 0, zU), (21, .iastore, 1, 0, 0, zU), (22, .aload_n 0, 1, 0, 0, zU), (23, .dup, 1, 0, 0, zU), (24, .getfield 15, 3, 5, 1, zU), (27, .iconst 1, 1, 0, 0, .int (nI 1)), (28, .iadd, 1, 0, 0, zU), (29, .putfield 15, 3, 5, 1, zU), (32, .iconst 1, 1, 0, 0, .int (nI 1)), (33, .ireturn, 1, 1, 0, zU)]
/-- Reader.wordFault(LGladGlasses$Coast;I)I -/
def zc17 : List zE := [(0, .iload_n 2, 1, 2, 0, zU), (1, .bipush 119, 2, 0, 0, .int (nI 119)), (3, .if_icmp .eq 12, 3, 15, 0, zU), (6, .aload_n 1, 1, 1, 0, zU), (7, .getfield 41, 3, 0, 0, zU), (10, .ifCond .ne 5, 3, 15, 0, zU), (13, .iconst 1, 1, 0, 0, .int (nI 1)), (14, .ireturn, 1, 0, 0, zU), (15, .iload_n 2, 1, 2, 0, zU), (16, .lookupswitch 99 #[(98, 72), (100, 86), (103, 57), (119, 44)], 44, 0, 0, zU), (60, .aload_n 1, 1, 1, 0, zU), (61, .getfield 41, 3, 0, 0, zU), (64, .ifCond .le 7, 3, 71, 0, zU), (67, .iconst 3, 1, 0, 0, .int (nI 3)), (68, .goto 4, 3, 72, 0, zU), (71, .iconst 0, 1, 0, 0, .int (nI 0)), (72, .ireturn, 1, 0, 0, zU), (73, .aload_n 1, 1, 1, 0, zU), (74, .getfield 71, 3, 0, 1, zU), (77, .bipush 7, 2, 0, 0, .int (nI 7)), (79, .if_icmp .lt 7, 3, 86, 0, zU), (82, .iconst 3, 1, 0, 0, .int (nI 3)), (83, .goto 4, 3, 87, 0, zU), (86, .iconst 0, 1, 0, 0, .int (nI 0)), (87, .ireturn, 1, 0, 0, zU), (88, .aload_n 1, 1, 1, 0, zU), (89, .getfield 74, 3, 0, 2, zU), (92, .iconst 5, 1, 0, 0, .int (nI 5)), (93, .if_icmp .lt 7, 3, 100, 0, zU), (96, .iconst 3, 1, 0, 0, .int (nI 3)), (97, .goto 4, 3, 101, 0, zU), (100, .iconst 0, 1, 0, 0, .int (nI 0)), (101, .ireturn, 1, 0, 0, zU), (102, .aload_n 1, 1, 1, 0, zU), (103, .getfield 44, 3, 0, 4, zU), (106, .ifCond .eq 7, 3, 113, 0, zU), (109, .iconst 3, 1, 0, 0, .int (nI 3)), (110, .goto 4, 3, 114, 0, zU), (113, .iconst 0, 1, 0, 0, .int (nI 0)), (114, .ireturn, 1, 0, 0, zU), (115, .iconst 1, 1, 0, 0, .int (nI 1)), (116, .ireturn, 1, 0, 0, zU)]
/-- Reader.fail(II)V -/
def zc18 : List zE := [(0, .aload_n 0, 1, 0, 0, zU), (1, .getfield 22, 3, 5, 3, zU), (4, .ifCond .ne 13, 3, 17, 0, zU), (7, .aload_n 0, 1, 0, 0, zU), (8, .iload_n 1, 1, 1, 0, zU), (9, .putfield 22, 3, 5, 3, zU), (12, .aload_n 0, 1, 0, 0, zU), (13, .iload_n 2, 1, 2, 0, zU), (14, .putfield 25, 3, 5, 4, zU), (17, .return_, 1, 0, 0, zU)]
/-- Reader.nextSign()I -/
def zc19 : List zE := [(0, .aload_n 0, 1, 0, 0, zU), (1, .getfield 19, 3, 5, 2, zU), (4, .aload_n 0, 1, 0, 0, zU), (5, .getfield 15, 3, 5, 1, zU), (8, .if_icmp .ge 30, 3, 38, 0, zU), (11, .aload_n 0, 1, 0, 0, zU), (12, .getfield 9, 3, 5, 0, zU), (15, .aload_n 0, 1, 0, 0, zU), (16, .getfield 19, 3, 5, 2, zU), (19, .iaload, 1, 0, 0, zU), (20, .bipush 32, 2, 0, 0, .int (nI 32)), (22, .if_icmp .ne 16, 3, 38, 0, zU), (25, .aload_n 0, 1, 0, 0, zU), (26, .dup, 1, 0, 0, zU), (27, .getfield 19, 3, 5, 2, zU), (30, .iconst 1, 1, 0, 0, .int (nI 1)), (31, .iadd, 1, 0, 0, zU), (32, .putfield 19, 3, 5, 2, zU), (35, .goto (-35), 3, 0, 0, zU), (38, .aload_n 0, 1, 0, 0, zU), (39, .getfield 19, 3, 5, 2, zU), (42, .aload_n 0, 1, 0, 0, zU), (43, .getfield 15, 3, 5, 1, zU), (46, .if_icmp .ge 15, 3, 61, 0, zU), (49, .aload_n 0, 1, 0, 0, zU), (50, .getfield 9, 3, 5, 0, zU), (53, .aload_n 0, 1, 0, 0, zU), (54, .getfield 19, 3, 5, 2, zU), (57, .iaload, 1, 0, 0, zU), (58, .goto 4, 3, 62, 0, zU), (61, .iconst (-1), 1, 0, 0, .int ((-1))), (62, .ireturn, 1, 0, 0, zU)]
/-- Reader.isFigure(I)Z -/
def zc20 : List zE := [(0, .iload_n 0, 1, 0, 0, zU), (1, .bipush 48, 2, 0, 0, .int (nI 48)), (3, .if_icmp .lt 13, 3, 16, 0, zU), (6, .iload_n 0, 1, 0, 0, zU), (7, .bipush 57, 2, 0, 0, .int (nI 57)), (9, .if_icmp .gt 7, 3, 16, 0, zU), (12, .iconst 1, 1, 0, 0, .int (nI 1)), (13, .goto 4, 3, 17, 0, zU), (16, .iconst 0, 1, 0, 0, .int (nI 0)), (17, .ireturn, 1, 1, 0, zU)]
/-- Row.weatherAhead(I)I -/
def zc21 : List zE := [(0, .aload_n 0, 1, 0, 0, zU), (1, .getfield 15, 3, 6, 1, zU), (4, .getfield 19, 3, 7, 0, zU), (7, .iload_n 1, 1, 1, 0, zU), (8, .iadd, 1, 0, 0, zU), (9, .istore_n 2, 1, 2, 0, zU), (10, .aload_n 0, 1, 0, 0, zU), (11, .getfield 9, 3, 6, 0, zU), (14, .getfield 25, 3, 0, 0, zU), (17, .ifCond .le 7, 3, 24, 0, zU), (20, .iload_n 2, 1, 2, 0, zU), (21, .ifCond .ge 7, 3, 28, 0, zU), (24, .iconst 0, 1, 0, 0, .int (nI 0)), (25, .goto 20, 3, 45, 0, zU), (28, .aload_n 0, 1, 0, 0, zU), (29, .getfield 9, 3, 6, 0, zU), (32, .getfield 30, 3, 0, 5, zU), (35, .iload_n 2, 1, 2, 0, zU), (36, .aload_n 0, 1, 0, 0, zU), (37, .getfield 9, 3, 6, 0, zU), (40, .getfield 25, 3, 0, 0, zU), (43, .irem, 1, 0, 0, zU), (44, .iaload, 1, 0, 0, zU), (45, .ireturn, 1, 0, 0, zU)]
/-- Row.clearReading(IZ)I -/
def zc22 : List zE := [(0, .iload_n 0, 1, 0, 0, zU), (1, .iconst 5, 1, 0, 0, .int (nI 5)), (2, .isub, 1, 0, 0, zU), (3, .iload_n 1, 1, 1, 0, zU), (4, .ifCond .eq 7, 3, 11, 0, zU), (7, .iconst 2, 1, 0, 0, .int (nI 2)), (8, .goto 4, 3, 12, 0, zU), (11, .iconst 0, 1, 0, 0, .int (nI 0)), (12, .iadd, 1, 0, 0, zU), (13, .istore_n 2, 1, 2, 0, zU), (14, .iconst 0, 1, 0, 0, .int (nI 0)), (15, .iload_n 2, 1, 2, 0, zU), (16, .bipush 9, 2, 0, 0, .int (nI 9)), (18, .invokestatic 48, 3, 9002, 2, zU), (21, .invokestatic 54, 3, 9001, 2, zU), (24, .ireturn, 1, 0, 0, zU)]
/-- Row.tellingOf(II)I -/
def zc23 : List zE := [(0, .iload_n 1, 1, 1, 0, zU), (1, .ifCond .gt 7, 3, 8, 0, zU), (4, .iconst 5, 1, 0, 0, .int (nI 5)), (5, .goto 6, 3, 11, 0, zU), (8, .iload_n 0, 1, 0, 0, zU), (9, .iload_n 1, 1, 1, 0, zU), (10, .idiv, 1, 0, 0, zU), (11, .ireturn, 1, 0, 0, zU)]
/-- Row.gladSet()I -/
def zc24 : List zE := [(0, .iconst 0, 1, 0, 0, .int (nI 0)), (1, .istore_n 1, 1, 1, 0, zU), (2, .iconst 0, 1, 0, 0, .int (nI 0)), (3, .istore_n 2, 1, 2, 0, zU), (4, .iload_n 2, 1, 2, 0, zU), (5, .aload_n 0, 1, 0, 0, zU), (6, .getfield 9, 3, 6, 0, zU), (9, .getfield 57, 3, 0, 1, zU), (12, .if_icmp .ge 27, 3, 39, 0, zU), (15, .aload_n 0, 1, 0, 0, zU), (16, .getfield 15, 3, 6, 1, zU), (19, .getfield 41, 3, 7, 6, zU), (22, .iload_n 2, 1, 2, 0, zU), (23, .iaload, 1, 0, 0, zU), (24, .ifCond .le 9, 3, 33, 0, zU), (27, .iload_n 1, 1, 1, 0, zU), (28, .iconst 1, 1, 0, 0, .int (nI 1)), (29, .iload_n 2, 1, 2, 0, zU), (30, .ishl, 1, 0, 0, zU), (31, .ior, 1, 0, 0, zU), (32, .istore_n 1, 1, 1, 0, zU), (33, .iinc 2 1, 3, 2, 0, .int (nI 1)), (36, .goto (-32), 3, 4, 0, zU), (39, .iload_n 1, 1, 1, 0, zU), (40, .ireturn, 1, 0, 0, zU)]
/-- State.copyFrom(LGladGlasses$State;)V -/
def zc25 : List zE := [(0, .aload_n 0, 1, 0, 0, zU), (1, .aload_n 1, 1, 1, 0, zU), (2, .getfield 33, 3, 7, 0, zU), (5, .putfield 33, 3, 7, 0, zU), (8, .aload_n 0, 1, 0, 0, zU), (9, .aload_n 1, 1, 1, 0, zU), (10, .getfield 42, 3, 7, 1, zU), (13, .putfield 42, 3, 7, 1, zU), (16, .aload_n 0, 1, 0, 0, zU), (17, .aload_n 1, 1, 1, 0, zU), (18, .getfield 45, 3, 7, 2, zU), (21, .putfield 45, 3, 7, 2, zU), (24, .aload_n 0, 1, 0, 0, zU), (25, .aload_n 1, 1, 1, 0, zU), (26, .getfield 48, 3, 7, 3, zU), (29, .putfield 48, 3, 7, 3, zU), (32, .aload_n 1, 1, 1, 0, zU), (33, .getfield 9, 3, 7, 4, zU), (36, .iconst 0, 1, 0, 0, .int (nI 0)), (37, .aload_n 0, 1, 0, 0, zU), (38, .getfield 9, 3, 7, 4, zU), (41, .iconst 0, 1, 0, 0, .int (nI 0)), (42, .bipush 7, 2, 0, 0, .int (nI 7)), (44, .invokestatic 52, 3, 9999, 5, zU), (47, .aload_n 1, 1, 1, 0, zU), (48, .getfield 15, 3, 7, 5, zU), (51, .iconst 0, 1, 0, 0, .int (nI 0)), (52, .aload_n 0, 1, 0, 0, zU), (53, .getfield 15, 3, 7, 5, zU), (56, .iconst 0, 1, 0, 0, .int (nI 0)), (57, .bipush 7, 2, 0, 0, .int (nI 7)), (59, .invokestatic 52, 3, 9999, 5, zU), (62, .aload_n 1, 1, 1, 0, zU), (63, .getfield 18, 3, 7, 6, zU), (66, .iconst 0, 1, 0, 0, .int (nI 0)), (67, .aload_n 0, 1, 0, 0, zU), (68, .getfield 18, 3, 7, 6, zU), (71, .iconst 0, 1, 0, 0, .int (nI 0)), (72, .bipush 7, 2, 0, 0, .int (nI 7)), (74, .invokestatic 52, 3, 9999, 5, zU), (77, .aload_n 1, 1, 1, 0, zU), (78, .getfield 21, 3, 7, 7, zU), (81, .iconst 0, 1, 0, 0, .int (nI 0)), (82, .aload_n 0, 1, 0, 0, zU), (83, .getfield 21, 3, 7, 7, zU), (86, .iconst 0, 1, 0, 0, .int (nI 0)), (87, .iconst 5, 1, 0, 0, .int (nI 5)), (88, .invokestatic 52, 3, 9999, 5, zU), (91, .aload_n 0, 1, 0, 0, zU), (92, .aload_n 1, 1, 1, 0, zU), (93, .getfield 65, 3, 7, 8, zU), (96, .putfield 65, 3, 7, 8, zU), (99, .aload_n 0, 1, 0, 0, zU), (100, .aload_n 1, 1, 1, 0, zU), (101, .getfield 68, 3, 7, 9, zU), (104, .putfield 68, 3, 7, 9, zU), (107, .aload_n 1, 1, 1, 0, zU), (108, .getfield 24, 3, 7, 10, zU), (111, .iconst 0, 1, 0, 0, .int (nI 0)), (112, .aload_n 0, 1, 0, 0, zU), (113, .getfield 24, 3, 7, 10, zU), (116, .iconst 0, 1, 0, 0, .int (nI 0)), (117, .bipush 20, 2, 0, 0, .int (nI 20)), (119, .invokestatic 52, 3, 9999, 5, zU), (122, .aload_n 1, 1, 1, 0, zU), (123, .getfield 27, 3, 7, 11, zU), (126, .iconst 0, 1, 0, 0, .int (nI 0)), (127, .aload_n 0, 1, 0, 0, zU), (128, .getfield 27, 3, 7, 11, zU), (131, .iconst 0, 1, 0, 0, .int (nI 0)), (132, .bipush 20, 2, 0, 0, .int (nI 20)), (134, .invokestatic 52, 3, 9999, 5, zU), (137, .aload_n 1, 1, 1, 0, zU), (138, .getfield 30, 3, 7, 12, zU), (141, .iconst 0, 1, 0, 0, .int (nI 0)), (142, .aload_n 0, 1, 0, 0, zU), (143, .getfield 30, 3, 7, 12, zU), (146, .iconst 0, 1, 0, 0, .int (nI 0)), (147, .bipush 20, 2, 0, 0, .int (nI 20)), (149, .invokestatic 52, 3, 9999, 5, zU), (152, .return_, 1, 0, 0, zU)]
/-- State.addToLog(III)V -/
def zc26 : List zE := [(0, .aload_n 0, 1, 0, 0, zU), (1, .getfield 24, 3, 7, 10, zU), (4, .aload_n 0, 1, 0, 0, zU), (5, .getfield 68, 3, 7, 9, zU), (8, .iload_n 1, 1, 1, 0, zU), (9, .iastore, 1, 0, 0, zU), (10, .aload_n 0, 1, 0, 0, zU), (11, .getfield 27, 3, 7, 11, zU), (14, .aload_n 0, 1, 0, 0, zU), (15, .getfield 68, 3, 7, 9, zU), (18, .iload_n 2, 1, 2, 0, zU), (19, .iastore, 1, 0, 0, zU), (20, .aload_n 0, 1, 0, 0, zU), (21, .getfield 30, 3, 7, 12, zU), (24, .aload_n 0, 1, 0, 0, zU), (25, .getfield 68, 3, 7, 9, zU), (28, .iload_n 3, 1, 3, 0, zU), (29, .iastore, 1, 0, 0, zU), (30, .aload_n 0, 1, 0, 0, zU), (31, .aload_n 0, 1, 0, 0, zU), (32, .getfield 68, 3, 7, 9, zU), (35, .iconst 1, 1, 0, 0, .int (nI 1)), (36, .iadd, 1, 0, 0, zU), (37, .bipush 20, 2, 0, 0, .int (nI 20)), (39, .irem, 1, 0, 0, zU), (40, .putfield 68, 3, 7, 9, zU), (43, .aload_n 0, 1, 0, 0, zU), (44, .aload_n 0, 1, 0, 0, zU), (45, .getfield 65, 3, 7, 8, zU), (48, .iconst 1, 1, 0, 0, .int (nI 1)), (49, .iadd, 1, 0, 0, zU), (50, .bipush 20, 2, 0, 0, .int (nI 20)), (52, .invokestatic 71, 3, 9002, 2, zU), (55, .putfield 65, 3, 7, 8, zU), (58, .return_, 1, 0, 0, zU)]
/-- State.logEntry(II)I -/
def zc27 : List zE := [(0, .iload_n 1, 1, 1, 0, zU), (1, .ifCond .lt 11, 3, 12, 0, zU), (4, .iload_n 1, 1, 1, 0, zU), (5, .aload_n 0, 1, 0, 0, zU), (6, .getfield 65, 3, 7, 8, zU), (9, .if_icmp .lt 5, 3, 14, 0, zU), (12, .iconst (-1), 1, 0, 0, .int ((-1))), (13, .ireturn, 1, 0, 0, zU), (14, .aload_n 0, 1, 0, 0, zU), (15, .getfield 68, 3, 7, 9, zU), (18, .iconst 1, 1, 0, 0, .int (nI 1)), (19, .isub, 1, 0, 0, zU), (20, .iload_n 1, 1, 1, 0, zU), (21, .isub, 1, 0, 0, zU), (22, .bipush 40, 2, 0, 0, .int (nI 40)), (24, .iadd, 1, 0, 0, zU), (25, .bipush 20, 2, 0, 0, .int (nI 20)), (27, .irem, 1, 0, 0, zU), (28, .istore_n 3, 1, 3, 0, zU), (29, .iload_n 2, 1, 2, 0, zU), (30, .lookupswitch 40 #[(0, 26), (1, 33)], 26, 0, 0, zU), (56, .aload_n 0, 1, 0, 0, zU), (57, .getfield 24, 3, 7, 10, zU), (60, .iload_n 3, 1, 3, 0, zU), (61, .iaload, 1, 0, 0, zU), (62, .ireturn, 1, 0, 0, zU), (63, .aload_n 0, 1, 0, 0, zU), (64, .getfield 27, 3, 7, 11, zU), (67, .iload_n 3, 1, 3, 0, zU), (68, .iaload, 1, 0, 0, zU), (69, .ireturn, 1, 0, 0, zU), (70, .aload_n 0, 1, 0, 0, zU), (71, .getfield 30, 3, 7, 12, zU), (74, .iload_n 3, 1, 3, 0, zU), (75, .iaload, 1, 0, 0, zU), (76, .ireturn, 1, 0, 0, zU)]
/-- State.rulesThatHold(I)I -/
def zc28 : List zE := [(0, .iconst (-1), 1, 0, 0, .int ((-1))), (1, .istore_n 2, 1, 2, 0, zU), (2, .iconst 0, 1, 0, 0, .int (nI 0)), (3, .istore_n 3, 1, 3, 0, zU), (4, .iload_n 3, 1, 3, 0, zU), (5, .aload_n 0, 1, 0, 0, zU), (6, .getfield 65, 3, 7, 8, zU), (9, .if_icmp .ge 30, 3, 39, 0, zU), (12, .aload_n 0, 1, 0, 0, zU), (13, .getfield 27, 3, 7, 11, zU), (16, .iload_n 3, 1, 3, 0, zU), (17, .iaload, 1, 0, 0, zU), (18, .iload_n 1, 1, 1, 0, zU), (19, .if_icmp .ge 14, 3, 33, 0, zU), (22, .iload_n 2, 1, 2, 0, zU), (23, .aload_n 0, 1, 0, 0, zU), (24, .getfield 24, 3, 7, 10, zU), (27, .iload_n 3, 1, 3, 0, zU), (28, .iaload, 1, 0, 0, zU), (29, .invokestatic 77, 3, 9001, 2, zU), (32, .istore_n 2, 1, 2, 0, zU), (33, .iinc 3 1, 3, 3, 0, .int (nI 1)), (36, .goto (-32), 3, 4, 0, zU), (39, .iconst 0, 1, 0, 0, .int (nI 0)), (40, .istore_n 3, 1, 3, 0, zU), (41, .iload_n 2, 1, 2, 0, zU), (42, .iconst 1, 1, 0, 0, .int (nI 1)), (43, .iadd, 1, 0, 0, zU), (44, .istore 4, 2, 4, 0, zU), (46, .iload 4, 2, 4, 0, zU), (48, .bipush 9, 2, 0, 0, .int (nI 9)), (50, .if_icmp .gt 16, 3, 66, 0, zU), (53, .iload_n 3, 1, 3, 0, zU), (54, .iconst 1, 1, 0, 0, .int (nI 1)), (55, .iload 4, 2, 4, 0, zU), (57, .ishl, 1, 0, 0, zU), (58, .ior, 1, 0, 0, zU), (59, .istore_n 3, 1, 3, 0, zU), (60, .iinc 4 1, 3, 4, 0, .int (nI 1)), (63, .goto (-17), 3, 46, 0, zU), (66, .iload_n 3, 1, 3, 0, zU), (67, .ireturn, 1, 0, 0, zU)]
/-- Tuning.addWeight(II)V -/
def zc29 : List zE := [(0, .aload_n 0, 1, 0, 0, zU), (1, .getfield 21, 3, 8, 6, zU), (4, .iload_n 1, 1, 1, 0, zU), (5, .dup2, 1, 0, 0, zU), (6, .iaload, 1, 0, 0, zU), (7, .iload_n 2, 1, 2, 0, zU), (8, .iadd, 1, 0, 0, zU), (9, .iastore, 1, 0, 0, zU), (10, .aload_n 0, 1, 0, 0, zU), (11, .dup, 1, 0, 0, zU), (12, .getfield 27, 3, 8, 8, zU), (15, .iload_n 2, 1, 2, 0, zU), (16, .iadd, 1, 0, 0, zU), (17, .putfield 27, 3, 8, 8, zU), (20, .iconst 0, 1, 0, 0, .int (nI 0)), (21, .istore_n 3, 1, 3, 0, zU), (22, .iload_n 3, 1, 3, 0, zU), (23, .bipush 12, 2, 0, 0, .int (nI 12)), (25, .if_icmp .ge 31, 3, 56, 0, zU), (28, .aload_n 0, 1, 0, 0, zU), (29, .getfield 18, 3, 8, 5, zU), (32, .iload_n 3, 1, 3, 0, zU), (33, .dup2, 1, 0, 0, zU), (34, .iaload, 1, 0, 0, zU), (35, .iload_n 2, 1, 2, 0, zU), (36, .aload_n 0, 1, 0, 0, zU), (37, .getfield 9, 3, 8, 3, zU), (40, .iload_n 1, 1, 1, 0, zU), (41, .bipush 12, 2, 0, 0, .int (nI 12)), (43, .imul, 1, 0, 0, zU), (44, .iload_n 3, 1, 3, 0, zU), (45, .iadd, 1, 0, 0, zU), (46, .iaload, 1, 0, 0, zU), (47, .imul, 1, 0, 0, zU), (48, .iadd, 1, 0, 0, zU), (49, .iastore, 1, 0, 0, zU), (50, .iinc 3 1, 3, 3, 0, .int (nI 1)), (53, .goto (-31), 3, 22, 0, zU), (56, .return_, 1, 0, 0, zU)]
/-- Tuning.daysToGive(I)I -/
def zc30 : List zE := [(0, .iload_n 1, 1, 1, 0, zU), (1, .ifCond .ne 5, 3, 6, 0, zU), (4, .iconst 0, 1, 0, 0, .int (nI 0)), (5, .ireturn, 1, 0, 0, zU), (6, .iload_n 1, 1, 1, 0, zU), (7, .aload_n 0, 1, 0, 0, zU), (8, .getfield 44, 3, 8, 1, zU), (11, .getfield 140, 3, 7, 1, zU), (14, .isub, 1, 0, 0, zU), (15, .iconst 0, 1, 0, 0, .int (nI 0)), (16, .invokestatic 137, 3, 9001, 2, zU), (19, .istore_n 2, 1, 2, 0, zU), (20, .iload_n 2, 1, 2, 0, zU), (21, .ifCond .ne 5, 3, 26, 0, zU), (24, .iconst 1, 1, 0, 0, .int (nI 1)), (25, .ireturn, 1, 0, 0, zU), (26, .aload_n 0, 1, 0, 0, zU), (27, .getfield 40, 3, 8, 0, zU), (30, .getfield 143, 3, 0, 3, zU), (33, .istore_n 3, 1, 3, 0, zU), (34, .iload_n 3, 1, 3, 0, zU), (35, .ifCond .gt 7, 3, 42, 0, zU), (38, .iconst (-1), 1, 0, 0, .int ((-1))), (39, .goto 12, 3, 51, 0, zU), (42, .iconst 1, 1, 0, 0, .int (nI 1)), (43, .iload_n 2, 1, 2, 0, zU), (44, .iload_n 3, 1, 3, 0, zU), (45, .iadd, 1, 0, 0, zU), (46, .iconst 1, 1, 0, 0, .int (nI 1)), (47, .isub, 1, 0, 0, zU), (48, .iload_n 3, 1, 3, 0, zU), (49, .idiv, 1, 0, 0, zU), (50, .iadd, 1, 0, 0, zU), (51, .ireturn, 1, 0, 0, zU)]
/-- GG.fault()I -/
def zc31 : List zE := [(0, .aload_n 0, 1, 0, 0, zU), (1, .getfield 12, 3, 9, 0, zU), (4, .getfield 117, 3, 5, 4, zU), (7, .ireturn, 1, 0, 0, zU)]
/-- GG.seed(I)I -/
def zc32 : List zE := [(0, .iload_n 1, 1, 1, 0, zU), (1, .ifCond .ge 6, 3, 7, 0, zU), (4, .ldc 87, 2, 0, 0, .int ((-1000000002))), (6, .ireturn, 1, 0, 0, zU), (7, .aload_n 0, 1, 0, 0, zU), (8, .getfield 79, 3, 9, 10, zU), (11, .istore_n 2, 1, 2, 0, zU), (12, .aload_n 0, 1, 0, 0, zU), (13, .iload_n 1, 1, 1, 0, zU), (14, .putfield 79, 3, 9, 10, zU), (17, .iload_n 2, 1, 2, 0, zU), (18, .ireturn, 1, 0, 0, zU)]
/-- GG.noCoast()Z -/
def zc33 : List zE := [(0, .aload_n 0, 1, 0, 0, zU), (1, .getfield 23, 3, 9, 2, zU), (4, .getfield 120, 3, 0, 0, zU), (7, .ifCond .ne 7, 3, 14, 0, zU), (10, .iconst 1, 1, 0, 0, .int (nI 1)), (11, .goto 4, 3, 15, 0, zU), (14, .iconst 0, 1, 0, 0, .int (nI 0)), (15, .ireturn, 1, 1, 0, zU)]
/-- GG.draw(I)I -/
def zc34 : List zE := [(0, .aload_n 0, 1, 0, 0, zU), (1, .aload_n 0, 1, 0, 0, zU), (2, .getfield 79, 3, 9, 10, zU), (5, .ldc_w 342, 3, 0, 0, .int (nI 1103515245)), (8, .imul, 1, 0, 0, zU), (9, .sipush 12345, 3, 0, 0, .int (nI 12345)), (12, .iadd, 1, 0, 0, zU), (13, .ldc_w 343, 3, 0, 0, .int (nI 2147483647)), (16, .iand, 1, 0, 0, zU), (17, .putfield 79, 3, 9, 10, zU), (20, .iload_n 1, 1, 1, 0, zU), (21, .ifCond .gt 7, 3, 28, 0, zU), (24, .iconst 0, 1, 0, 0, .int (nI 0)), (25, .goto 13, 3, 38, 0, zU), (28, .aload_n 0, 1, 0, 0, zU), (29, .getfield 79, 3, 9, 10, zU), (32, .ldc_w 344, 3, 0, 0, .int (nI 65536)), (35, .idiv, 1, 0, 0, zU), (36, .iload_n 1, 1, 1, 0, zU), (37, .irem, 1, 0, 0, zU), (38, .ireturn, 1, 0, 0, zU)]
/-- GG.isOut(III)Z -/
def zc35 : List zE := [(0, .iload_n 0, 1, 0, 0, zU), (1, .iload_n 1, 1, 1, 0, zU), (2, .if_icmp .lt 8, 3, 10, 0, zU), (5, .iload_n 0, 1, 0, 0, zU), (6, .iload_n 2, 1, 2, 0, zU), (7, .if_icmp .le 7, 3, 14, 0, zU), (10, .iconst 1, 1, 0, 0, .int (nI 1)), (11, .goto 4, 3, 15, 0, zU), (14, .iconst 0, 1, 0, 0, .int (nI 0)), (15, .ireturn, 1, 1, 0, zU)]
/-- GG.hasBit(II)Z -/
def zc36 : List zE := [(0, .iload_n 0, 1, 0, 0, zU), (1, .iload_n 1, 1, 1, 0, zU), (2, .ishr, 1, 0, 0, zU), (3, .iconst 1, 1, 0, 0, .int (nI 1)), (4, .iand, 1, 0, 0, zU), (5, .ifCond .eq 7, 3, 12, 0, zU), (8, .iconst 1, 1, 0, 0, .int (nI 1)), (9, .goto 4, 3, 13, 0, zU), (12, .iconst 0, 1, 0, 0, .int (nI 0)), (13, .ireturn, 1, 1, 0, zU)]
/-- Model.in(JJJ)Z -/
def zc37 : List zE := [(0, .lload_n 0, 1, 0, 0, zU), (1, .lload_n 2, 1, 2, 0, zU), (2, .lcmp, 1, 0, 0, zU), (3, .ifCond .lt 14, 3, 17, 0, zU), (6, .lload_n 0, 1, 0, 0, zU), (7, .lload 4, 2, 4, 0, zU), (9, .lcmp, 1, 0, 0, zU), (10, .ifCond .gt 7, 3, 17, 0, zU), (13, .iconst 1, 1, 0, 0, .int (nI 1)), (14, .goto 4, 3, 18, 0, zU), (17, .iconst 0, 1, 0, 0, .int (nI 0)), (18, .ireturn, 1, 1, 0, zU)]
/-- Model.least(II)I -/
def zc38 : List zE := [(0, .iload_n 0, 1, 0, 0, zU), (1, .iload_n 1, 1, 1, 0, zU), (2, .if_icmp .ge 7, 3, 9, 0, zU), (5, .iload_n 0, 1, 0, 0, zU), (6, .goto 4, 3, 10, 0, zU), (9, .iload_n 1, 1, 1, 0, zU), (10, .ireturn, 1, 0, 0, zU)]
/-- Model.most(II)I -/
def zc39 : List zE := [(0, .iload_n 0, 1, 0, 0, zU), (1, .iload_n 1, 1, 1, 0, zU), (2, .if_icmp .le 7, 3, 9, 0, zU), (5, .iload_n 0, 1, 0, 0, zU), (6, .goto 4, 3, 10, 0, zU), (9, .iload_n 1, 1, 1, 0, zU), (10, .ireturn, 1, 0, 0, zU)]
/-- Model.apart(II)I -/
def zc40 : List zE := [(0, .iload_n 0, 1, 0, 0, zU), (1, .iload_n 1, 1, 1, 0, zU), (2, .if_icmp .le 9, 3, 11, 0, zU), (5, .iload_n 0, 1, 0, 0, zU), (6, .iload_n 1, 1, 1, 0, zU), (7, .isub, 1, 0, 0, zU), (8, .goto 6, 3, 14, 0, zU), (11, .iload_n 1, 1, 1, 0, zU), (12, .iload_n 0, 1, 0, 0, zU), (13, .isub, 1, 0, 0, zU), (14, .ireturn, 1, 0, 0, zU)]
/-- Model.one(Z)I -/
def zc41 : List zE := [(0, .iload_n 0, 1, 0, 0, zU), (1, .ifCond .eq 7, 3, 8, 0, zU), (4, .iconst 1, 1, 0, 0, .int (nI 1)), (5, .goto 4, 3, 9, 0, zU), (8, .iconst 0, 1, 0, 0, .int (nI 0)), (9, .ireturn, 1, 0, 0, zU)]
/-- Model.has(II)Z -/
def zc42 : List zE := [(0, .iload_n 0, 1, 0, 0, zU), (1, .iload_n 1, 1, 1, 0, zU), (2, .ishr, 1, 0, 0, zU), (3, .iconst 1, 1, 0, 0, .int (nI 1)), (4, .iand, 1, 0, 0, zU), (5, .iconst 1, 1, 0, 0, .int (nI 1)), (6, .if_icmp .ne 7, 3, 13, 0, zU), (9, .iconst 1, 1, 0, 0, .int (nI 1)), (10, .goto 4, 3, 14, 0, zU), (13, .iconst 0, 1, 0, 0, .int (nI 0)), (14, .ireturn, 1, 1, 0, zU)]
/-- Model.here()I -/
def zc43 : List zE := [(0, .aload_n 0, 1, 0, 0, zU), (1, .getfield 77, 3, 10, 18, zU), (4, .aload_n 0, 1, 0, 0, zU), (5, .getfield 73, 3, 10, 17, zU), (8, .if_icmp .ge 30, 3, 38, 0, zU), (11, .aload_n 0, 1, 0, 0, zU), (12, .getfield 32, 3, 10, 16, zU), (15, .aload_n 0, 1, 0, 0, zU), (16, .getfield 77, 3, 10, 18, zU), (19, .iaload, 1, 0, 0, zU), (20, .bipush 32, 2, 0, 0, .int (nI 32)), (22, .if_icmp .ne 16, 3, 38, 0, zU), (25, .aload_n 0, 1, 0, 0, zU), (26, .dup, 1, 0, 0, zU), (27, .getfield 77, 3, 10, 18, zU), (30, .iconst 1, 1, 0, 0, .int (nI 1)), (31, .iadd, 1, 0, 0, zU), (32, .putfield 77, 3, 10, 18, zU), (35, .goto (-35), 3, 0, 0, zU), (38, .aload_n 0, 1, 0, 0, zU), (39, .getfield 77, 3, 10, 18, zU), (42, .aload_n 0, 1, 0, 0, zU), (43, .getfield 73, 3, 10, 17, zU), (46, .if_icmp .ge 15, 3, 61, 0, zU), (49, .aload_n 0, 1, 0, 0, zU), (50, .getfield 32, 3, 10, 16, zU), (53, .aload_n 0, 1, 0, 0, zU), (54, .getfield 77, 3, 10, 18, zU), (57, .iaload, 1, 0, 0, zU), (58, .goto 4, 3, 62, 0, zU), (61, .iconst (-1), 1, 0, 0, .int ((-1))), (62, .ireturn, 1, 0, 0, zU)]
/-- Model.want(ZII)Z -/
def zc44 : List zE := [(0, .iload_n 1, 1, 1, 0, zU), (1, .ifCond .ne 20, 3, 21, 0, zU), (4, .aload_n 0, 1, 0, 0, zU), (5, .getfield 80, 3, 10, 20, zU), (8, .ifCond .ne 13, 3, 21, 0, zU), (11, .aload_n 0, 1, 0, 0, zU), (12, .iload_n 2, 1, 2, 0, zU), (13, .putfield 80, 3, 10, 20, zU), (16, .aload_n 0, 1, 0, 0, zU), (17, .iload_n 3, 1, 3, 0, zU), (18, .putfield 35, 3, 10, 21, zU), (21, .aload_n 0, 1, 0, 0, zU), (22, .getfield 80, 3, 10, 20, zU), (25, .ifCond .ne 7, 3, 32, 0, zU), (28, .iconst 1, 1, 0, 0, .int (nI 1)), (29, .goto 4, 3, 33, 0, zU), (32, .iconst 0, 1, 0, 0, .int (nI 0)), (33, .ireturn, 1, 1, 0, zU)]
/-- Model.take()V -/
def zc45 : List zE := [(0, .aload_n 0, 1, 0, 0, zU), (1, .aload_n 0, 1, 0, 0, zU), (2, .getfield 102, 3, 10, 8, zU), (5, .putfield 144, 3, 10, 7, zU), (8, .aload_n 0, 1, 0, 0, zU), (9, .aload_n 0, 1, 0, 0, zU), (10, .getfield 109, 3, 10, 10, zU), (13, .putfield 141, 3, 10, 9, zU), (16, .aload_n 0, 1, 0, 0, zU), (17, .aload_n 0, 1, 0, 0, zU), (18, .getfield 112, 3, 10, 12, zU), (21, .putfield 147, 3, 10, 11, zU), (24, .aload_n 0, 1, 0, 0, zU), (25, .aload_n 0, 1, 0, 0, zU), (26, .getfield 144, 3, 10, 7, zU), (29, .ifCond .le 10, 3, 39, 0, zU), (32, .aload_n 0, 1, 0, 0, zU), (33, .getfield 119, 3, 10, 14, zU), (36, .goto 4, 3, 40, 0, zU), (39, .iconst 0, 1, 0, 0, .int (nI 0)), (40, .putfield 150, 3, 10, 13, zU), (43, .aload_n 0, 1, 0, 0, zU), (44, .getfield 7, 3, 10, 0, zU), (47, .bipush 91, 2, 0, 0, .int (nI 91)), (49, .iaload, 1, 0, 0, zU), (50, .istore_n 1, 1, 1, 0, zU), (51, .iconst 0, 1, 0, 0, .int (nI 0)), (52, .istore_n 2, 1, 2, 0, zU), (53, .iload_n 2, 1, 2, 0, zU), (54, .bipush 92, 2, 0, 0, .int (nI 92)), (56, .if_icmp .ge 16, 3, 72, 0, zU), (59, .aload_n 0, 1, 0, 0, zU), (60, .getfield 7, 3, 10, 0, zU), (63, .iload_n 2, 1, 2, 0, zU), (64, .iconst 0, 1, 0, 0, .int (nI 0)), (65, .iastore, 1, 0, 0, zU), (66, .iinc 2 1, 3, 2, 0, .int (nI 1)), (69, .goto (-16), 3, 53, 0, zU), (72, .aload_n 0, 1, 0, 0, zU), (73, .getfield 7, 3, 10, 0, zU), (76, .bipush 91, 2, 0, 0, .int (nI 91)), (78, .iload_n 1, 1, 1, 0, zU), (79, .iastore, 1, 0, 0, zU), (80, .aload_n 0, 1, 0, 0, zU), (81, .getfield 7, 3, 10, 0, zU), (84, .bipush 28, 2, 0, 0, .int (nI 28)), (86, .aload_n 0, 1, 0, 0, zU), (87, .getfield 150, 3, 10, 13, zU), (90, .iastore, 1, 0, 0, zU), (91, .iconst 0, 1, 0, 0, .int (nI 0)), (92, .istore_n 2, 1, 2, 0, zU), (93, .iload_n 2, 1, 2, 0, zU), (94, .bipush 12, 2, 0, 0, .int (nI 12)), (96, .if_icmp .ge 24, 3, 120, 0, zU), (99, .aload_n 0, 1, 0, 0, zU), (100, .getfield 17, 3, 10, 2, zU), (103, .iload_n 2, 1, 2, 0, zU), (104, .aload_n 0, 1, 0, 0, zU), (105, .getfield 17, 3, 10, 2, zU), (108, .bipush 12, 2, 0, 0, .int (nI 12)), (110, .iload_n 2, 1, 2, 0, zU), (111, .iadd, 1, 0, 0, zU), (112, .iaload, 1, 0, 0, zU), (113, .iastore, 1, 0, 0, zU), (114, .iinc 2 1, 3, 2, 0, .int (nI 1)), (117, .goto (-24), 3, 93, 0, zU), (120, .iconst 0, 1, 0, 0, .int (nI 0)), (121, .istore_n 2, 1, 2, 0, zU), (122, .iload_n 2, 1, 2, 0, zU), (123, .bipush 7, 2, 0, 0, .int (nI 7)), (125, .if_icmp .ge 66, 3, 191, 0, zU), (128, .aload_n 0, 1, 0, 0, zU), (129, .getfield 7, 3, 10, 0, zU), (132, .iload_n 2, 1, 2, 0, zU), (133, .iload_n 2, 1, 2, 0, zU), (134, .aload_n 0, 1, 0, 0, zU), (135, .getfield 141, 3, 10, 9, zU), (138, .if_icmp .ge 15, 3, 153, 0, zU), (141, .aload_n 0, 1, 0, 0, zU), (142, .getfield 20, 3, 10, 3, zU), (145, .bipush 7, 2, 0, 0, .int (nI 7)), (147, .iload_n 2, 1, 2, 0, zU), (148, .iadd, 1, 0, 0, zU), (149, .iaload, 1, 0, 0, zU), (150, .goto 4, 3, 154, 0, zU), (153, .iconst 0, 1, 0, 0, .int (nI 0)), (154, .iastore, 1, 0, 0, zU), (155, .aload_n 0, 1, 0, 0, zU), (156, .getfield 7, 3, 10, 0, zU), (159, .bipush 7, 2, 0, 0, .int (nI 7)), (161, .iload_n 2, 1, 2, 0, zU), (162, .iadd, 1, 0, 0, zU), (163, .iload_n 2, 1, 2, 0, zU), (164, .aload_n 0, 1, 0, 0, zU), (165, .getfield 141, 3, 10, 9, zU), (168, .if_icmp .ge 15, 3, 183, 0, zU), (171, .aload_n 0, 1, 0, 0, zU), (172, .getfield 23, 3, 10, 4, zU), (175, .bipush 7, 2, 0, 0, .int (nI 7)), (177, .iload_n 2, 1, 2, 0, zU), (178, .iadd, 1, 0, 0, zU), (179, .iaload, 1, 0, 0, zU), (180, .goto 4, 3, 184, 0, zU), (183, .iconst 0, 1, 0, 0, .int (nI 0)), (184, .iastore, 1, 0, 0, zU), (185, .iinc 2 1, 3, 2, 0, .int (nI 1)), (188, .goto (-66), 3, 122, 0, zU), (191, .iconst 0, 1, 0, 0, .int (nI 0)), (192, .istore_n 2, 1, 2, 0, zU), (193, .iload_n 2, 1, 2, 0, zU), (194, .iconst 5, 1, 0, 0, .int (nI 5)), (195, .if_icmp .ge 37, 3, 232, 0, zU), (198, .aload_n 0, 1, 0, 0, zU), (199, .getfield 26, 3, 10, 5, zU), (202, .iload_n 2, 1, 2, 0, zU), (203, .aload_n 0, 1, 0, 0, zU), (204, .getfield 26, 3, 10, 5, zU), (207, .iconst 5, 1, 0, 0, .int (nI 5)), (208, .iload_n 2, 1, 2, 0, zU), (209, .iadd, 1, 0, 0, zU), (210, .iaload, 1, 0, 0, zU), (211, .iastore, 1, 0, 0, zU), (212, .aload_n 0, 1, 0, 0, zU), (213, .getfield 29, 3, 10, 6, zU), (216, .iload_n 2, 1, 2, 0, zU), (217, .aload_n 0, 1, 0, 0, zU), (218, .getfield 29, 3, 10, 6, zU), (221, .iconst 5, 1, 0, 0, .int (nI 5)), (222, .iload_n 2, 1, 2, 0, zU), (223, .iadd, 1, 0, 0, zU), (224, .iaload, 1, 0, 0, zU), (225, .iastore, 1, 0, 0, zU), (226, .iinc 2 1, 3, 2, 0, .int (nI 1)), (229, .goto (-36), 3, 193, 0, zU), (232, .aload_n 0, 1, 0, 0, zU), (233, .iconst 0, 1, 0, 0, .int (nI 0)), (234, .putfield 153, 3, 10, 30, zU), (237, .aload_n 0, 1, 0, 0, zU), (238, .iconst 0, 1, 0, 0, .int (nI 0)), (239, .putfield 156, 3, 10, 33, zU), (242, .aload_n 0, 1, 0, 0, zU), (243, .iconst 0, 1, 0, 0, .int (nI 0)), (244, .putfield 159, 3, 10, 22, zU), (247, .aload_n 0, 1, 0, 0, zU), (248, .getfield 13, 3, 10, 1, zU), (251, .iconst 0, 1, 0, 0, .int (nI 0)), (252, .iconst 0, 1, 0, 0, .int (nI 0)), (253, .bastore, 1, 0, 0, zU), (254, .aload_n 0, 1, 0, 0, zU), (255, .getfield 13, 3, 10, 1, zU), (258, .iconst 1, 1, 0, 0, .int (nI 1)), (259, .iconst 0, 1, 0, 0, .int (nI 0)), (260, .bastore, 1, 0, 0, zU), (261, .return_, 1, 0, 0, zU)]
/-- Model.fault()I -/
def zc46 : List zE := [(0, .aload_n 0, 1, 0, 0, zU), (1, .getfield 35, 3, 10, 21, zU), (4, .ireturn, 1, 0, 0, zU)]
/-- Model.weatherOf(I)I -/
def zc47 : List zE := [(0, .aload_n 0, 1, 0, 0, zU), (1, .getfield 17, 3, 10, 2, zU), (4, .iload_n 1, 1, 1, 0, zU), (5, .aload_n 0, 1, 0, 0, zU), (6, .getfield 144, 3, 10, 7, zU), (9, .irem, 1, 0, 0, zU), (10, .iaload, 1, 0, 0, zU), (11, .ireturn, 1, 0, 0, zU)]
/-- Model.caught()I -/
def zc48 : List zE := [(0, .iconst 0, 1, 0, 0, .int (nI 0)), (1, .istore_n 1, 1, 1, 0, zU), (2, .iconst 0, 1, 0, 0, .int (nI 0)), (3, .istore_n 2, 1, 2, 0, zU), (4, .iload_n 2, 1, 2, 0, zU), (5, .aload_n 0, 1, 0, 0, zU), (6, .getfield 147, 3, 10, 11, zU), (9, .if_icmp .ge 21, 3, 30, 0, zU), (12, .iload_n 1, 1, 1, 0, zU), (13, .aload_n 0, 1, 0, 0, zU), (14, .getfield 7, 3, 10, 0, zU), (17, .bipush 23, 2, 0, 0, .int (nI 23)), (19, .iload_n 2, 1, 2, 0, zU), (20, .iadd, 1, 0, 0, zU), (21, .iaload, 1, 0, 0, zU), (22, .iadd, 1, 0, 0, zU), (23, .istore_n 1, 1, 1, 0, zU), (24, .iinc 2 1, 3, 2, 0, .int (nI 1)), (27, .goto (-23), 3, 4, 0, zU), (30, .iload_n 1, 1, 1, 0, zU), (31, .ireturn, 1, 0, 0, zU)]
/-- Model.copy(II)V -/
def zc49 : List zE := [(0, .iconst 0, 1, 0, 0, .int (nI 0)), (1, .istore_n 3, 1, 3, 0, zU), (2, .iload_n 3, 1, 3, 0, zU), (3, .bipush 92, 2, 0, 0, .int (nI 92)), (5, .if_icmp .ge 25, 3, 30, 0, zU), (8, .aload_n 0, 1, 0, 0, zU), (9, .getfield 7, 3, 10, 0, zU), (12, .iload_n 2, 1, 2, 0, zU), (13, .iload_n 3, 1, 3, 0, zU), (14, .iadd, 1, 0, 0, zU), (15, .aload_n 0, 1, 0, 0, zU), (16, .getfield 7, 3, 10, 0, zU), (19, .iload_n 1, 1, 1, 0, zU), (20, .iload_n 3, 1, 3, 0, zU), (21, .iadd, 1, 0, 0, zU), (22, .iaload, 1, 0, 0, zU), (23, .iastore, 1, 0, 0, zU), (24, .iinc 3 1, 3, 3, 0, .int (nI 1)), (27, .goto (-25), 3, 2, 0, zU), (30, .return_, 1, 0, 0, zU)]
/-- Model.log(IIII)V -/
def zc50 : List zE := [(0, .aload_n 0, 1, 0, 0, zU), (1, .getfield 7, 3, 10, 0, zU), (4, .iload_n 1, 1, 1, 0, zU), (5, .bipush 30, 2, 0, 0, .int (nI 30)), (7, .iadd, 1, 0, 0, zU), (8, .iaload, 1, 0, 0, zU), (9, .bipush 20, 2, 0, 0, .int (nI 20)), (11, .if_icmp .ne 58, 3, 69, 0, zU), (14, .iconst 3, 1, 0, 0, .int (nI 3)), (15, .istore 5, 2, 5, 0, zU), (17, .iload 5, 2, 5, 0, zU), (19, .bipush 60, 2, 0, 0, .int (nI 60)), (21, .if_icmp .ge 35, 3, 56, 0, zU), (24, .aload_n 0, 1, 0, 0, zU), (25, .getfield 7, 3, 10, 0, zU), (28, .iload_n 1, 1, 1, 0, zU), (29, .bipush 31, 2, 0, 0, .int (nI 31)), (31, .iadd, 1, 0, 0, zU), (32, .iload 5, 2, 5, 0, zU), (34, .iadd, 1, 0, 0, zU), (35, .iconst 3, 1, 0, 0, .int (nI 3)), (36, .isub, 1, 0, 0, zU), (37, .aload_n 0, 1, 0, 0, zU), (38, .getfield 7, 3, 10, 0, zU), (41, .iload_n 1, 1, 1, 0, zU), (42, .bipush 31, 2, 0, 0, .int (nI 31)), (44, .iadd, 1, 0, 0, zU), (45, .iload 5, 2, 5, 0, zU), (47, .iadd, 1, 0, 0, zU), (48, .iaload, 1, 0, 0, zU), (49, .iastore, 1, 0, 0, zU), (50, .iinc 5 1, 3, 5, 0, .int (nI 1)), (53, .goto (-36), 3, 17, 0, zU), (56, .aload_n 0, 1, 0, 0, zU), (57, .getfield 7, 3, 10, 0, zU), (60, .iload_n 1, 1, 1, 0, zU), (61, .bipush 30, 2, 0, 0, .int (nI 30)), (63, .iadd, 1, 0, 0, zU), (64, .dup2, 1, 0, 0, zU), (65, .iaload, 1, 0, 0, zU), (66, .iconst 1, 1, 0, 0, .int (nI 1)), (67, .isub, 1, 0, 0, zU), (68, .iastore, 1, 0, 0, zU), (69, .iload_n 1, 1, 1, 0, zU), (70, .bipush 31, 2, 0, 0, .int (nI 31)), (72, .iadd, 1, 0, 0, zU), (73, .iconst 3, 1, 0, 0, .int (nI 3)), (74, .aload_n 0, 1, 0, 0, zU), (75, .getfield 7, 3, 10, 0, zU), (78, .iload_n 1, 1, 1, 0, zU), (79, .bipush 30, 2, 0, 0, .int (nI 30)), (81, .iadd, 1, 0, 0, zU), (82, .iaload, 1, 0, 0, zU), (83, .imul, 1, 0, 0, zU), (84, .iadd, 1, 0, 0, zU), (85, .istore 5, 2, 5, 0, zU), (87, .aload_n 0, 1, 0, 0, zU), (88, .getfield 7, 3, 10, 0, zU), (91, .iload 5, 2, 5, 0, zU), (93, .iload_n 2, 1, 2, 0, zU), (94, .iastore, 1, 0, 0, zU), (95, .aload_n 0, 1, 0, 0, zU), (96, .getfield 7, 3, 10, 0, zU), (99, .iload 5, 2, 5, 0, zU), (101, .iconst 1, 1, 0, 0, .int (nI 1)), (102, .iadd, 1, 0, 0, zU), (103, .iload_n 3, 1, 3, 0, zU), (104, .iastore, 1, 0, 0, zU), (105, .aload_n 0, 1, 0, 0, zU), (106, .getfield 7, 3, 10, 0, zU), (109, .iload 5, 2, 5, 0, zU), (111, .iconst 2, 1, 0, 0, .int (nI 2)), (112, .iadd, 1, 0, 0, zU), (113, .iload 4, 2, 4, 0, zU), (115, .iastore, 1, 0, 0, zU), (116, .aload_n 0, 1, 0, 0, zU), (117, .getfield 7, 3, 10, 0, zU), (120, .iload_n 1, 1, 1, 0, zU), (121, .bipush 30, 2, 0, 0, .int (nI 30)), (123, .iadd, 1, 0, 0, zU), (124, .dup2, 1, 0, 0, zU), (125, .iaload, 1, 0, 0, zU), (126, .iconst 1, 1, 0, 0, .int (nI 1)), (127, .iadd, 1, 0, 0, zU), (128, .iastore, 1, 0, 0, zU), (129, .return_, 1, 0, 0, zU)]
/-- Model.draw(I)I -/
def zc51 : List zE := [(0, .aload_n 0, 1, 0, 0, zU), (1, .getfield 7, 3, 10, 0, zU), (4, .bipush 91, 2, 0, 0, .int (nI 91)), (6, .aload_n 0, 1, 0, 0, zU), (7, .getfield 7, 3, 10, 0, zU), (10, .bipush 91, 2, 0, 0, .int (nI 91)), (12, .iaload, 1, 0, 0, zU), (13, .i2l, 1, 0, 0, zU), (14, .ldc2_w 250, 3, 0, 0, .long (lN 1103515245)), (17, .lmul, 1, 0, 0, zU), (18, .ldc2_w 252, 3, 0, 0, .long (lN 12345)), (21, .ladd, 1, 0, 0, zU), (22, .ldc2_w 254, 3, 0, 0, .long (lN 2147483648)), (25, .lrem, 1, 0, 0, zU), (26, .l2i, 1, 0, 0, zU), (27, .iastore, 1, 0, 0, zU), (28, .aload_n 0, 1, 0, 0, zU), (29, .getfield 7, 3, 10, 0, zU), (32, .bipush 91, 2, 0, 0, .int (nI 91)), (34, .iaload, 1, 0, 0, zU), (35, .ldc_w 256, 3, 0, 0, .int (nI 65536)), (38, .idiv, 1, 0, 0, zU), (39, .iload_n 1, 1, 1, 0, zU), (40, .irem, 1, 0, 0, zU), (41, .ireturn, 1, 0, 0, zU)]
/-- Model.caughtBy(II)I -/
def zc52 : List zE := [(0, .iconst 0, 1, 0, 0, .int (nI 0)), (1, .istore_n 3, 1, 3, 0, zU), (2, .iconst 0, 1, 0, 0, .int (nI 0)), (3, .istore 4, 2, 4, 0, zU), (5, .iload 4, 2, 4, 0, zU), (7, .bipush 14, 2, 0, 0, .int (nI 14)), (9, .if_icmp .ge 51, 3, 60, 0, zU), (12, .aload_n 0, 1, 0, 0, zU), (13, .getfield 39, 3, 10, 23, zU), (16, .iload 4, 2, 4, 0, zU), (18, .iaload, 1, 0, 0, zU), (19, .iload_n 2, 1, 2, 0, zU), (20, .if_icmp .lt 34, 3, 54, 0, zU), (23, .aload_n 0, 1, 0, 0, zU), (24, .getfield 42, 3, 10, 24, zU), (27, .iload 4, 2, 4, 0, zU), (29, .iaload, 1, 0, 0, zU), (30, .aload_n 0, 1, 0, 0, zU), (31, .getfield 29, 3, 10, 6, zU), (34, .iload_n 1, 1, 1, 0, zU), (35, .iaload, 1, 0, 0, zU), (36, .if_icmp .ge 8, 3, 44, 0, zU), (39, .iload_n 3, 1, 3, 0, zU), (40, .bipush 20, 2, 0, 0, .int (nI 20)), (42, .isub, 1, 0, 0, zU), (43, .ireturn, 1, 0, 0, zU), (44, .iload_n 3, 1, 3, 0, zU), (45, .aload_n 0, 1, 0, 0, zU), (46, .getfield 42, 3, 10, 24, zU), (49, .iload 4, 2, 4, 0, zU), (51, .iaload, 1, 0, 0, zU), (52, .iadd, 1, 0, 0, zU), (53, .istore_n 3, 1, 3, 0, zU), (54, .iinc 4 1, 3, 4, 0, .int (nI 1)), (57, .goto (-52), 3, 5, 0, zU), (60, .iload_n 3, 1, 3, 0, zU), (61, .ireturn, 1, 0, 0, zU)]
/-- Model.weightOf(III)I -/
def zc53 : List zE := [(0, .iload_n 0, 1, 0, 0, zU), (1, .istore_n 3, 1, 3, 0, zU), (2, .iload_n 2, 1, 2, 0, zU), (3, .iconst 1, 1, 0, 0, .int (nI 1)), (4, .isub, 1, 0, 0, zU), (5, .istore 4, 2, 4, 0, zU), (7, .iload 4, 2, 4, 0, zU), (9, .iload_n 1, 1, 1, 0, zU), (10, .if_icmp .le 13, 3, 23, 0, zU), (13, .iload_n 3, 1, 3, 0, zU), (14, .iconst 3, 1, 0, 0, .int (nI 3)), (15, .idiv, 1, 0, 0, zU), (16, .istore_n 3, 1, 3, 0, zU), (17, .iinc 4 (-1), 3, 4, 0, .int ((-1))), (20, .goto (-13), 3, 7, 0, zU), (23, .iload_n 3, 1, 3, 0, zU), (24, .iconst 3, 1, 0, 0, .int (nI 3)), (25, .irem, 1, 0, 0, zU), (26, .ireturn, 1, 0, 0, zU)]
/-- Model.judge()I -/
def zc54 : List zE := [(0, .iconst 0, 1, 0, 0, .int (nI 0)), (1, .istore_n 1, 1, 1, 0, zU), (2, .iload_n 1, 1, 1, 0, zU), (3, .aload_n 0, 1, 0, 0, zU), (4, .getfield 156, 3, 10, 33, zU), (7, .if_icmp .ge 31, 3, 38, 0, zU), (10, .aload_n 0, 1, 0, 0, zU), (11, .getfield 7, 3, 10, 0, zU), (14, .aload_n 0, 1, 0, 0, zU), (15, .getfield 60, 3, 10, 31, zU), (18, .iload_n 1, 1, 1, 0, zU), (19, .iaload, 1, 0, 0, zU), (20, .iaload, 1, 0, 0, zU), (21, .aload_n 0, 1, 0, 0, zU), (22, .getfield 63, 3, 10, 32, zU), (25, .iload_n 1, 1, 1, 0, zU), (26, .iaload, 1, 0, 0, zU), (27, .if_icmp .eq 5, 3, 32, 0, zU), (30, .iload_n 1, 1, 1, 0, zU), (31, .ireturn, 1, 0, 0, zU), (32, .iinc 1 1, 3, 1, 0, .int (nI 1)), (35, .goto (-33), 3, 2, 0, zU), (38, .iconst (-1), 1, 0, 0, .int ((-1))), (39, .ireturn, 1, 0, 0, zU)]
/-- Model.tear()I -/
def zc55 : List zE := [(0, .aload_n 0, 1, 0, 0, zU), (1, .getfield 153, 3, 10, 30, zU), (4, .aload_n 0, 1, 0, 0, zU), (5, .getfield 156, 3, 10, 33, zU), (8, .iadd, 1, 0, 0, zU), (9, .istore_n 1, 1, 1, 0, zU), (10, .aload_n 0, 1, 0, 0, zU), (11, .iconst 0, 1, 0, 0, .int (nI 0)), (12, .putfield 153, 3, 10, 30, zU), (15, .aload_n 0, 1, 0, 0, zU), (16, .iconst 0, 1, 0, 0, .int (nI 0)), (17, .putfield 156, 3, 10, 33, zU), (20, .iload_n 1, 1, 1, 0, zU), (21, .ireturn, 1, 0, 0, zU)]
/-- Model.seed(I)I -/
def zc56 : List zE := [(0, .iload_n 1, 1, 1, 0, zU), (1, .ifCond .ge 6, 3, 7, 0, zU), (4, .ldc 72, 2, 0, 0, .int ((-1000000002))), (6, .ireturn, 1, 0, 0, zU), (7, .aload_n 0, 1, 0, 0, zU), (8, .getfield 7, 3, 10, 0, zU), (11, .bipush 91, 2, 0, 0, .int (nI 91)), (13, .iaload, 1, 0, 0, zU), (14, .istore_n 2, 1, 2, 0, zU), (15, .aload_n 0, 1, 0, 0, zU), (16, .getfield 7, 3, 10, 0, zU), (19, .bipush 91, 2, 0, 0, .int (nI 91)), (21, .iload_n 1, 1, 1, 0, zU), (22, .iastore, 1, 0, 0, zU), (23, .iload_n 2, 1, 2, 0, zU), (24, .ireturn, 1, 0, 0, zU)]
/-- Integer.bitCount(I)I -/
def zc57 : List zE := [(0, .iload_n 0, 1, 0, 0, zU), (1, .iload_n 0, 1, 0, 0, zU), (2, .iconst 1, 1, 0, 0, .int (nI 1)), (3, .iushr, 1, 0, 0, zU), (4, .ldc_w 265, 3, 0, 0, .int (nI 1431655765)), (7, .iand, 1, 0, 0, zU), (8, .isub, 1, 0, 0, zU), (9, .istore_n 0, 1, 0, 0, zU), (10, .iload_n 0, 1, 0, 0, zU), (11, .ldc_w 266, 3, 0, 0, .int (nI 858993459)), (14, .iand, 1, 0, 0, zU), (15, .iload_n 0, 1, 0, 0, zU), (16, .iconst 2, 1, 0, 0, .int (nI 2)), (17, .iushr, 1, 0, 0, zU), (18, .ldc_w 266, 3, 0, 0, .int (nI 858993459)), (21, .iand, 1, 0, 0, zU), (22, .iadd, 1, 0, 0, zU), (23, .istore_n 0, 1, 0, 0, zU), (24, .iload_n 0, 1, 0, 0, zU), (25, .iload_n 0, 1, 0, 0, zU), (26, .iconst 4, 1, 0, 0, .int (nI 4)), (27, .iushr, 1, 0, 0, zU), (28, .iadd, 1, 0, 0, zU), (29, .ldc_w 267, 3, 0, 0, .int (nI 252645135)), (32, .iand, 1, 0, 0, zU), (33, .istore_n 0, 1, 0, 0, zU), (34, .iload_n 0, 1, 0, 0, zU), (35, .iload_n 0, 1, 0, 0, zU), (36, .bipush 8, 2, 0, 0, .int (nI 8)), (38, .iushr, 1, 0, 0, zU), (39, .iadd, 1, 0, 0, zU), (40, .istore_n 0, 1, 0, 0, zU), (41, .iload_n 0, 1, 0, 0, zU), (42, .iload_n 0, 1, 0, 0, zU), (43, .bipush 16, 2, 0, 0, .int (nI 16)), (45, .iushr, 1, 0, 0, zU), (46, .iadd, 1, 0, 0, zU), (47, .istore_n 0, 1, 0, 0, zU), (48, .iload_n 0, 1, 0, 0, zU), (49, .bipush 63, 2, 0, 0, .int (nI 63)), (51, .iand, 1, 0, 0, zU), (52, .ireturn, 1, 0, 0, zU)]
/-- Arrays.fill([II)V -/
def zc58 : List zE := [(0, .iconst 0, 1, 0, 0, .int (nI 0)), (1, .istore_n 2, 1, 2, 0, zU), (2, .aload_n 0, 1, 0, 0, zU), (3, .arraylength, 1, 0, 0, zU), (4, .istore_n 3, 1, 3, 0, zU), (5, .iload_n 2, 1, 2, 0, zU), (6, .iload_n 3, 1, 3, 0, zU), (7, .if_icmp .ge 13, 3, 20, 0, zU), (10, .aload_n 0, 1, 0, 0, zU), (11, .iload_n 2, 1, 2, 0, zU), (12, .iload_n 1, 1, 1, 0, zU), (13, .iastore, 1, 0, 0, zU), (14, .iinc 2 1, 3, 2, 0, .int (nI 1)), (17, .goto (-12), 3, 5, 0, zU), (20, .return_, 1, 0, 0, zU)]
/-- Deeds.remember(LGladGlasses$State;)V -/
def zc59 : List zE := [(0, .aload_n 0, 1, 0, 0, zU), (1, .getfield 11, 3, 1, 0, zU), (4, .aload_n 0, 1, 0, 0, zU), (5, .getfield 21, 3, 1, 2, zU), (8, .aaload, 1, 0, 0, zU), (9, .aload_n 1, 1, 1, 0, zU), (10, .invokevirtual 25, 3, 25, 1, .retAddr 7), (13, .aload_n 0, 1, 0, 0, zU), (14, .aload_n 0, 1, 0, 0, zU), (15, .getfield 21, 3, 1, 2, zU), (18, .iconst 1, 1, 0, 0, .int (nI 1)), (19, .iadd, 1, 0, 0, zU), (20, .bipush 30, 2, 0, 0, .int (nI 30)), (22, .irem, 1, 0, 0, zU), (23, .putfield 21, 3, 1, 2, zU), (26, .aload_n 0, 1, 0, 0, zU), (27, .aload_n 0, 1, 0, 0, zU), (28, .getfield 17, 3, 1, 1, zU), (31, .iconst 1, 1, 0, 0, .int (nI 1)), (32, .iadd, 1, 0, 0, zU), (33, .bipush 30, 2, 0, 0, .int (nI 30)), (35, .invokestatic 29, 3, 9002, 2, zU), (38, .putfield 17, 3, 1, 1, zU), (41, .return_, 1, 0, 0, zU)]
/-- Deeds.takeBack(ILGladGlasses$State;)Z -/
def zc60 : List zE := [(0, .iload_n 1, 1, 1, 0, zU), (1, .iconst 1, 1, 0, 0, .int (nI 1)), (2, .if_icmp .lt 11, 3, 13, 0, zU), (5, .iload_n 1, 1, 1, 0, zU), (6, .aload_n 0, 1, 0, 0, zU), (7, .getfield 17, 3, 1, 1, zU), (10, .if_icmp .le 5, 3, 15, 0, zU), (13, .iconst 0, 1, 0, 0, .int (nI 0)), (14, .ireturn, 1, 1, 0, zU), (15, .aload_n 0, 1, 0, 0, zU), (16, .aload_n 0, 1, 0, 0, zU), (17, .getfield 21, 3, 1, 2, zU), (20, .iload_n 1, 1, 1, 0, zU), (21, .isub, 1, 0, 0, zU), (22, .bipush 30, 2, 0, 0, .int (nI 30)), (24, .iadd, 1, 0, 0, zU), (25, .bipush 30, 2, 0, 0, .int (nI 30)), (27, .irem, 1, 0, 0, zU), (28, .putfield 21, 3, 1, 2, zU), (31, .aload_n 0, 1, 0, 0, zU), (32, .dup, 1, 0, 0, zU), (33, .getfield 17, 3, 1, 1, zU), (36, .iload_n 1, 1, 1, 0, zU), (37, .isub, 1, 0, 0, zU), (38, .putfield 17, 3, 1, 1, zU), (41, .aload_n 2, 1, 2, 0, zU), (42, .aload_n 0, 1, 0, 0, zU), (43, .getfield 11, 3, 1, 0, zU), (46, .aload_n 0, 1, 0, 0, zU), (47, .getfield 21, 3, 1, 2, zU), (50, .aaload, 1, 0, 0, zU), (51, .invokevirtual 25, 3, 25, 1, .retAddr 7), (54, .iconst 1, 1, 0, 0, .int (nI 1)), (55, .ireturn, 1, 1, 0, zU)]
/-- Fleet.homeCount()I -/
def zc61 : List zE := [(0, .aload_n 0, 1, 0, 0, zU), (1, .getfield 25, 3, 2, 0, zU), (4, .getfield 37, 3, 0, 2, zU), (7, .aload_n 0, 1, 0, 0, zU), (8, .getfield 29, 3, 2, 1, zU), (11, .getfield 42, 3, 7, 2, zU), (14, .invokestatic 47, 3, 57, 1, zU), (17, .isub, 1, 0, 0, zU), (18, .ireturn, 1, 0, 0, zU)]
/-- Fleet.isReady(I)Z -/
def zc62 : List zE := [(0, .aload_n 0, 1, 0, 0, zU), (1, .getfield 29, 3, 2, 1, zU), (4, .getfield 42, 3, 7, 2, zU), (7, .aload_n 0, 1, 0, 0, zU), (8, .getfield 29, 3, 2, 1, zU), (11, .getfield 56, 3, 7, 3, zU), (14, .ior, 1, 0, 0, zU), (15, .iload_n 1, 1, 1, 0, zU), (16, .invokestatic 59, 3, 36, 2, zU), (19, .ifCond .ne 7, 3, 26, 0, zU), (22, .iconst 1, 1, 0, 0, .int (nI 1)), (23, .goto 4, 3, 27, 0, zU), (26, .iconst 0, 1, 0, 0, .int (nI 0)), (27, .ireturn, 1, 1, 0, zU)]
/-- Images.has(I)Z -/
def zc63 : List zE := [(0, .aload_n 0, 1, 0, 0, zU), (1, .getfield 21, 3, 3, 2, zU), (4, .iload_n 1, 1, 1, 0, zU), (5, .invokestatic 26, 3, 36, 2, zU), (8, .ireturn, 1, 1, 0, zU)]
/-- Images.take(ILGladGlasses$State;I)V -/
def zc64 : List zE := [(0, .aload_n 0, 1, 0, 0, zU), (1, .getfield 11, 3, 3, 0, zU), (4, .iload_n 1, 1, 1, 0, zU), (5, .aaload, 1, 0, 0, zU), (6, .aload_n 2, 1, 2, 0, zU), (7, .invokevirtual 30, 3, 25, 1, .retAddr 7), (10, .aload_n 0, 1, 0, 0, zU), (11, .getfield 17, 3, 3, 1, zU), (14, .iload_n 1, 1, 1, 0, zU), (15, .iload_n 3, 1, 3, 0, zU), (16, .iastore, 1, 0, 0, zU), (17, .aload_n 0, 1, 0, 0, zU), (18, .dup, 1, 0, 0, zU), (19, .getfield 21, 3, 3, 2, zU), (22, .iconst 1, 1, 0, 0, .int (nI 1)), (23, .iload_n 1, 1, 1, 0, zU), (24, .ishl, 1, 0, 0, zU), (25, .ior, 1, 0, 0, zU), (26, .putfield 21, 3, 3, 2, zU), (29, .return_, 1, 0, 0, zU)]
/-- Images.give(ILGladGlasses$State;)V -/
def zc65 : List zE := [(0, .aload_n 2, 1, 2, 0, zU), (1, .aload_n 0, 1, 0, 0, zU), (2, .getfield 11, 3, 3, 0, zU), (5, .iload_n 1, 1, 1, 0, zU), (6, .aaload, 1, 0, 0, zU), (7, .invokevirtual 30, 3, 25, 1, .retAddr 7), (10, .return_, 1, 0, 0, zU)]
/-- Reader.readNumber(I)I -/
def zc66 : List zE := [(0, .aload_n 0, 1, 0, 0, zU), (1, .invokevirtual 33, 3, 19, 0, .retAddr 5), (4, .istore_n 2, 1, 2, 0, zU), (5, .iload_n 2, 1, 2, 0, zU), (6, .invokestatic 97, 3, 20, 1, zU), (9, .ifCond .ne 14, 3, 23, 0, zU), (12, .aload_n 0, 1, 0, 0, zU), (13, .iconst 1, 1, 0, 0, .int (nI 1)), (14, .aload_n 0, 1, 0, 0, zU), (15, .getfield 19, 3, 5, 2, zU), (18, .invokevirtual 55, 3, 18, 2, .retAddr 5), (21, .iconst 0, 1, 0, 0, .int (nI 0)), (22, .ireturn, 1, 0, 0, zU), (23, .aload_n 0, 1, 0, 0, zU), (24, .getfield 19, 3, 5, 2, zU), (27, .istore_n 3, 1, 3, 0, zU), (28, .iconst 0, 1, 0, 0, .int (nI 0)), (29, .istore 4, 2, 4, 0, zU), (31, .aload_n 0, 1, 0, 0, zU), (32, .getfield 19, 3, 5, 2, zU), (35, .aload_n 0, 1, 0, 0, zU), (36, .getfield 15, 3, 5, 1, zU), (39, .if_icmp .ge 56, 3, 95, 0, zU), (42, .aload_n 0, 1, 0, 0, zU), (43, .getfield 9, 3, 5, 0, zU), (46, .aload_n 0, 1, 0, 0, zU), (47, .getfield 19, 3, 5, 2, zU), (50, .iaload, 1, 0, 0, zU), (51, .invokestatic 97, 3, 20, 1, zU), (54, .ifCond .eq 41, 3, 95, 0, zU), (57, .iload 4, 2, 4, 0, zU), (59, .bipush 10, 2, 0, 0, .int (nI 10)), (61, .imul, 1, 0, 0, zU), (62, .aload_n 0, 1, 0, 0, zU), (63, .getfield 9, 3, 5, 0, zU), (66, .aload_n 0, 1, 0, 0, zU), (67, .getfield 19, 3, 5, 2, zU), (70, .iaload, 1, 0, 0, zU), (71, .iadd, 1, 0, 0, zU), (72, .bipush 48, 2, 0, 0, .int (nI 48)), (74, .isub, 1, 0, 0, zU), (75, .ldc 101, 2, 0, 0, .int (nI 1000000)), (77, .invokestatic 102, 3, 9002, 2, zU), (80, .istore 4, 2, 4, 0, zU), (82, .aload_n 0, 1, 0, 0, zU), (83, .dup, 1, 0, 0, zU), (84, .getfield 19, 3, 5, 2, zU), (87, .iconst 1, 1, 0, 0, .int (nI 1)), (88, .iadd, 1, 0, 0, zU), (89, .putfield 19, 3, 5, 2, zU), (92, .goto (-61), 3, 31, 0, zU), (95, .aload_n 0, 1, 0, 0, zU), (96, .getfield 19, 3, 5, 2, zU), (99, .iload_n 3, 1, 3, 0, zU), (100, .isub, 1, 0, 0, zU), (101, .iconst 3, 1, 0, 0, .int (nI 3)), (102, .if_icmp .gt 9, 3, 111, 0, zU), (105, .iload 4, 2, 4, 0, zU), (107, .iload_n 1, 1, 1, 0, zU), (108, .if_icmp .le 9, 3, 117, 0, zU), (111, .aload_n 0, 1, 0, 0, zU), (112, .iconst 2, 1, 0, 0, .int (nI 2)), (113, .iload_n 3, 1, 3, 0, zU), (114, .invokevirtual 55, 3, 18, 2, .retAddr 5), (117, .iload 4, 2, 4, 0, zU), (119, .ireturn, 1, 0, 0, zU)]
/-- Reader.readEnd()V -/
def zc67 : List zE := [(0, .aload_n 0, 1, 0, 0, zU), (1, .invokevirtual 33, 3, 19, 0, .retAddr 5), (4, .bipush 59, 2, 0, 0, .int (nI 59)), (6, .if_icmp .ne 16, 3, 22, 0, zU), (9, .aload_n 0, 1, 0, 0, zU), (10, .dup, 1, 0, 0, zU), (11, .getfield 19, 3, 5, 2, zU), (14, .iconst 1, 1, 0, 0, .int (nI 1)), (15, .iadd, 1, 0, 0, zU), (16, .putfield 19, 3, 5, 2, zU), (19, .goto 12, 3, 31, 0, zU), (22, .aload_n 0, 1, 0, 0, zU), (23, .iconst 1, 1, 0, 0, .int (nI 1)), (24, .aload_n 0, 1, 0, 0, zU), (25, .getfield 19, 3, 5, 2, zU), (28, .invokevirtual 55, 3, 18, 2, .retAddr 5), (31, .return_, 1, 0, 0, zU)]
/-- Row.reading(II)I -/
def zc68 : List zE := [(0, .aload_n 0, 1, 0, 0, zU), (1, .iload_n 2, 1, 2, 0, zU), (2, .iconst 1, 1, 0, 0, .int (nI 1)), (3, .iadd, 1, 0, 0, zU), (4, .invokevirtual 34, 3, 21, 1, .retAddr 6), (7, .aload_n 0, 1, 0, 0, zU), (8, .getfield 15, 3, 6, 1, zU), (11, .getfield 38, 3, 7, 4, zU), (14, .iload_n 1, 1, 1, 0, zU), (15, .iaload, 1, 0, 0, zU), (16, .iadd, 1, 0, 0, zU), (17, .aload_n 0, 1, 0, 0, zU), (18, .getfield 15, 3, 6, 1, zU), (21, .getfield 41, 3, 7, 6, zU), (24, .iload_n 1, 1, 1, 0, zU), (25, .iaload, 1, 0, 0, zU), (26, .iload_n 2, 1, 2, 0, zU), (27, .if_icmp .le 7, 3, 34, 0, zU), (30, .iconst 1, 1, 0, 0, .int (nI 1)), (31, .goto 4, 3, 35, 0, zU), (34, .iconst 0, 1, 0, 0, .int (nI 0)), (35, .invokestatic 44, 3, 22, 2, zU), (38, .ireturn, 1, 0, 0, zU)]
/-- Row.readingBy(II)I -/
def zc69 : List zE := [(0, .iload_n 2, 1, 2, 0, zU), (1, .aload_n 0, 1, 0, 0, zU), (2, .getfield 15, 3, 6, 1, zU), (5, .getfield 38, 3, 7, 4, zU), (8, .iload_n 1, 1, 1, 0, zU), (9, .iaload, 1, 0, 0, zU), (10, .iadd, 1, 0, 0, zU), (11, .aload_n 0, 1, 0, 0, zU), (12, .getfield 15, 3, 6, 1, zU), (15, .getfield 41, 3, 7, 6, zU), (18, .iload_n 1, 1, 1, 0, zU), (19, .iaload, 1, 0, 0, zU), (20, .ifCond .le 7, 3, 27, 0, zU), (23, .iconst 1, 1, 0, 0, .int (nI 1)), (24, .goto 4, 3, 28, 0, zU), (27, .iconst 0, 1, 0, 0, .int (nI 0)), (28, .invokestatic 44, 3, 22, 2, zU), (31, .ireturn, 1, 0, 0, zU)]
/-- Row.firstFair(II)I -/
def zc70 : List zE := [(0, .iconst 0, 1, 0, 0, .int (nI 0)), (1, .istore_n 3, 1, 3, 0, zU), (2, .iconst 0, 1, 0, 0, .int (nI 0)), (3, .istore 4, 2, 4, 0, zU), (5, .iload 4, 2, 4, 0, zU), (7, .bipush 60, 2, 0, 0, .int (nI 60)), (9, .iload_n 2, 1, 2, 0, zU), (10, .iadd, 1, 0, 0, zU), (11, .if_icmp .ge 39, 3, 50, 0, zU), (14, .aload_n 0, 1, 0, 0, zU), (15, .iload 4, 2, 4, 0, zU), (17, .invokevirtual 34, 3, 21, 1, .retAddr 6), (20, .iload_n 1, 1, 1, 0, zU), (21, .if_icmp .lt 9, 3, 30, 0, zU), (24, .iload_n 3, 1, 3, 0, zU), (25, .iconst 1, 1, 0, 0, .int (nI 1)), (26, .iadd, 1, 0, 0, zU), (27, .goto 4, 3, 31, 0, zU), (30, .iconst 0, 1, 0, 0, .int (nI 0)), (31, .istore_n 3, 1, 3, 0, zU), (32, .iload_n 3, 1, 3, 0, zU), (33, .iload_n 2, 1, 2, 0, zU), (34, .if_icmp .ne 10, 3, 44, 0, zU), (37, .iload 4, 2, 4, 0, zU), (39, .iload_n 2, 1, 2, 0, zU), (40, .isub, 1, 0, 0, zU), (41, .iconst 1, 1, 0, 0, .int (nI 1)), (42, .iadd, 1, 0, 0, zU), (43, .ireturn, 1, 0, 0, zU), (44, .iinc 4 1, 3, 4, 0, .int (nI 1)), (47, .goto (-42), 3, 5, 0, zU), (50, .iconst (-1), 1, 0, 0, .int ((-1))), (51, .ireturn, 1, 0, 0, zU)]
/-- State.begin(LGladGlasses$Coast;)V -/
def zc71 : List zE := [(0, .aload_n 0, 1, 0, 0, zU), (1, .iconst 0, 1, 0, 0, .int (nI 0)), (2, .putfield 33, 3, 7, 0, zU), (5, .aload_n 0, 1, 0, 0, zU), (6, .aload_n 1, 1, 1, 0, zU), (7, .getfield 37, 3, 0, 3, zU), (10, .putfield 42, 3, 7, 1, zU), (13, .aload_n 0, 1, 0, 0, zU), (14, .iconst 0, 1, 0, 0, .int (nI 0)), (15, .putfield 45, 3, 7, 2, zU), (18, .aload_n 0, 1, 0, 0, zU), (19, .iconst 0, 1, 0, 0, .int (nI 0)), (20, .putfield 48, 3, 7, 3, zU), (23, .aload_n 1, 1, 1, 0, zU), (24, .getfield 51, 3, 0, 6, zU), (27, .iconst 0, 1, 0, 0, .int (nI 0)), (28, .aload_n 0, 1, 0, 0, zU), (29, .getfield 9, 3, 7, 4, zU), (32, .iconst 0, 1, 0, 0, .int (nI 0)), (33, .bipush 7, 2, 0, 0, .int (nI 7)), (35, .invokestatic 52, 3, 9999, 5, zU), (38, .aload_n 1, 1, 1, 0, zU), (39, .getfield 58, 3, 0, 7, zU), (42, .iconst 0, 1, 0, 0, .int (nI 0)), (43, .aload_n 0, 1, 0, 0, zU), (44, .getfield 15, 3, 7, 5, zU), (47, .iconst 0, 1, 0, 0, .int (nI 0)), (48, .bipush 7, 2, 0, 0, .int (nI 7)), (50, .invokestatic 52, 3, 9999, 5, zU), (53, .aload_n 0, 1, 0, 0, zU), (54, .getfield 18, 3, 7, 6, zU), (57, .iconst 0, 1, 0, 0, .int (nI 0)), (58, .invokestatic 59, 3, 58, 2, zU), (61, .aload_n 0, 1, 0, 0, zU), (62, .getfield 21, 3, 7, 7, zU), (65, .iconst 0, 1, 0, 0, .int (nI 0)), (66, .invokestatic 59, 3, 58, 2, zU), (69, .aload_n 0, 1, 0, 0, zU), (70, .iconst 0, 1, 0, 0, .int (nI 0)), (71, .putfield 65, 3, 7, 8, zU), (74, .aload_n 0, 1, 0, 0, zU), (75, .iconst 0, 1, 0, 0, .int (nI 0)), (76, .putfield 68, 3, 7, 9, zU), (79, .return_, 1, 0, 0, zU)]
/-- Tuning.triedError(I)I -/
def zc72 : List zE := [(0, .iconst 0, 1, 0, 0, .int (nI 0)), (1, .istore_n 2, 1, 2, 0, zU), (2, .iconst 0, 1, 0, 0, .int (nI 0)), (3, .istore_n 3, 1, 3, 0, zU), (4, .iload_n 3, 1, 3, 0, zU), (5, .bipush 12, 2, 0, 0, .int (nI 12)), (7, .if_icmp .ge 40, 3, 47, 0, zU), (10, .iload_n 2, 1, 2, 0, zU), (11, .iload_n 1, 1, 1, 0, zU), (12, .if_icmp .ge 35, 3, 47, 0, zU), (15, .iload_n 2, 1, 2, 0, zU), (16, .aload_n 0, 1, 0, 0, zU), (17, .getfield 18, 3, 8, 5, zU), (20, .iload_n 3, 1, 3, 0, zU), (21, .iaload, 1, 0, 0, zU), (22, .aload_n 0, 1, 0, 0, zU), (23, .getfield 27, 3, 8, 8, zU), (26, .invokestatic 101, 3, 23, 2, zU), (29, .aload_n 0, 1, 0, 0, zU), (30, .getfield 15, 3, 8, 4, zU), (33, .iload_n 3, 1, 3, 0, zU), (34, .iaload, 1, 0, 0, zU), (35, .isub, 1, 0, 0, zU), (36, .invokestatic 62, 3, 9003, 1, zU), (39, .iadd, 1, 0, 0, zU), (40, .istore_n 2, 1, 2, 0, zU), (41, .iinc 3 1, 3, 3, 0, .int (nI 1)), (44, .goto (-40), 3, 4, 0, zU), (47, .iload_n 2, 1, 2, 0, zU), (48, .ireturn, 1, 0, 0, zU)]
/-- Tuning.nextWeighing()Z -/
def zc73 : List zE := [(0, .aload_n 0, 1, 0, 0, zU), (1, .getfield 40, 3, 8, 0, zU), (4, .getfield 71, 3, 0, 1, zU), (7, .iconst 1, 1, 0, 0, .int (nI 1)), (8, .isub, 1, 0, 0, zU), (9, .istore_n 1, 1, 1, 0, zU), (10, .iload_n 1, 1, 1, 0, zU), (11, .ifCond .lt 34, 3, 45, 0, zU), (14, .aload_n 0, 1, 0, 0, zU), (15, .getfield 21, 3, 8, 6, zU), (18, .iload_n 1, 1, 1, 0, zU), (19, .iaload, 1, 0, 0, zU), (20, .iconst 2, 1, 0, 0, .int (nI 2)), (21, .if_icmp .ge 11, 3, 32, 0, zU), (24, .aload_n 0, 1, 0, 0, zU), (25, .iload_n 1, 1, 1, 0, zU), (26, .iconst 1, 1, 0, 0, .int (nI 1)), (27, .invokevirtual 104, 3, 29, 2, .retAddr 8), (30, .iconst 1, 1, 0, 0, .int (nI 1)), (31, .ireturn, 1, 1, 0, zU), (32, .aload_n 0, 1, 0, 0, zU), (33, .iload_n 1, 1, 1, 0, zU), (34, .bipush (-2), 2, 0, 0, .int ((-2))), (36, .invokevirtual 104, 3, 29, 2, .retAddr 8), (39, .iinc 1 (-1), 3, 1, 0, .int ((-1))), (42, .goto (-32), 3, 10, 0, zU), (45, .iconst 0, 1, 0, 0, .int (nI 0)), (46, .ireturn, 1, 1, 0, zU)]
/-- Tuning.countStepsToReads(I)V -/
def zc74 : List zE := [(0, .aload_n 0, 1, 0, 0, zU), (1, .getfield 48, 3, 8, 2, zU), (4, .iconst 1, 1, 0, 0, .int (nI 1)), (5, .invokevirtual 58, 3, 21, 1, .retAddr 6), (8, .istore_n 2, 1, 2, 0, zU), (9, .aload_n 0, 1, 0, 0, zU), (10, .getfield 31, 3, 8, 9, zU), (13, .ldc 70, 2, 0, 0, .int (nI 1000000)), (15, .invokestatic 95, 3, 58, 2, zU), (18, .iconst 0, 1, 0, 0, .int (nI 0)), (19, .istore_n 3, 1, 3, 0, zU), (20, .iload_n 3, 1, 3, 0, zU), (21, .bipush 10, 2, 0, 0, .int (nI 10)), (23, .if_icmp .gt 65, 3, 88, 0, zU), (26, .iload_n 2, 1, 2, 0, zU), (27, .iload_n 3, 1, 3, 0, zU), (28, .iadd, 1, 0, 0, zU), (29, .aload_n 0, 1, 0, 0, zU), (30, .getfield 44, 3, 8, 1, zU), (33, .getfield 123, 3, 7, 6, zU), (36, .iload_n 1, 1, 1, 0, zU), (37, .iaload, 1, 0, 0, zU), (38, .ifCond .le 7, 3, 45, 0, zU), (41, .iconst 1, 1, 0, 0, .int (nI 1)), (42, .goto 4, 3, 46, 0, zU), (45, .iconst 0, 1, 0, 0, .int (nI 0)), (46, .invokestatic 126, 3, 22, 2, zU), (49, .istore 4, 2, 4, 0, zU), (51, .aload_n 0, 1, 0, 0, zU), (52, .getfield 31, 3, 8, 9, zU), (55, .iload 4, 2, 4, 0, zU), (57, .aload_n 0, 1, 0, 0, zU), (58, .getfield 31, 3, 8, 9, zU), (61, .iload 4, 2, 4, 0, zU), (63, .iaload, 1, 0, 0, zU), (64, .iload_n 3, 1, 3, 0, zU), (65, .aload_n 0, 1, 0, 0, zU), (66, .getfield 44, 3, 8, 1, zU), (69, .getfield 130, 3, 7, 4, zU), (72, .iload_n 1, 1, 1, 0, zU), (73, .iaload, 1, 0, 0, zU), (74, .isub, 1, 0, 0, zU), (75, .invokestatic 62, 3, 9003, 1, zU), (78, .invokestatic 120, 3, 9002, 2, zU), (81, .iastore, 1, 0, 0, zU), (82, .iinc 3 1, 3, 3, 0, .int (nI 1)), (85, .goto (-65), 3, 20, 0, zU), (88, .return_, 1, 0, 0, zU)]
/-- Tuning.addToSums(II)V -/
def zc75 : List zE := [(0, .aload_n 0, 1, 0, 0, zU), (1, .getfield 37, 3, 8, 11, zU), (4, .ldc 70, 2, 0, 0, .int (nI 1000000)), (6, .invokestatic 95, 3, 58, 2, zU), (9, .iconst 0, 1, 0, 0, .int (nI 0)), (10, .istore_n 3, 1, 3, 0, zU), (11, .iload_n 3, 1, 3, 0, zU), (12, .bipush 9, 2, 0, 0, .int (nI 9)), (14, .if_icmp .gt 92, 3, 106, 0, zU), (17, .iload_n 2, 1, 2, 0, zU), (18, .iload_n 3, 1, 3, 0, zU), (19, .imul, 1, 0, 0, zU), (20, .istore 4, 2, 4, 0, zU), (22, .iconst 0, 1, 0, 0, .int (nI 0)), (23, .istore 5, 2, 5, 0, zU), (25, .iload 5, 2, 5, 0, zU), (27, .iload_n 1, 1, 1, 0, zU), (28, .if_icmp .gt 72, 3, 100, 0, zU), (31, .iload 5, 2, 5, 0, zU), (33, .iload 4, 2, 4, 0, zU), (35, .iadd, 1, 0, 0, zU), (36, .sipush 567, 3, 0, 0, .int (nI 567)), (39, .if_icmp .gt 61, 3, 100, 0, zU), (42, .aload_n 0, 1, 0, 0, zU), (43, .getfield 31, 3, 8, 9, zU), (46, .iload_n 3, 1, 3, 0, zU), (47, .iaload, 1, 0, 0, zU), (48, .ldc 70, 2, 0, 0, .int (nI 1000000)), (50, .if_icmp .ge 50, 3, 100, 0, zU), (53, .aload_n 0, 1, 0, 0, zU), (54, .getfield 34, 3, 8, 10, zU), (57, .iload 5, 2, 5, 0, zU), (59, .iaload, 1, 0, 0, zU), (60, .aload_n 0, 1, 0, 0, zU), (61, .getfield 31, 3, 8, 9, zU), (64, .iload_n 3, 1, 3, 0, zU), (65, .iaload, 1, 0, 0, zU), (66, .iadd, 1, 0, 0, zU), (67, .istore 6, 2, 6, 0, zU), (69, .aload_n 0, 1, 0, 0, zU), (70, .getfield 37, 3, 8, 11, zU), (73, .iload 5, 2, 5, 0, zU), (75, .iload 4, 2, 4, 0, zU), (77, .iadd, 1, 0, 0, zU), (78, .aload_n 0, 1, 0, 0, zU), (79, .getfield 37, 3, 8, 11, zU), (82, .iload 5, 2, 5, 0, zU), (84, .iload 4, 2, 4, 0, zU), (86, .iadd, 1, 0, 0, zU), (87, .iaload, 1, 0, 0, zU), (88, .iload 6, 2, 6, 0, zU), (90, .invokestatic 120, 3, 9002, 2, zU), (93, .iastore, 1, 0, 0, zU), (94, .iinc 5 1, 3, 5, 0, .int (nI 1)), (97, .goto (-72), 3, 25, 0, zU), (100, .iinc 3 1, 3, 3, 0, .int (nI 1)), (103, .goto (-92), 3, 11, 0, zU), (106, .aload_n 0, 1, 0, 0, zU), (107, .getfield 34, 3, 8, 10, zU), (110, .astore_n 3, 1, 3, 0, zU), (111, .aload_n 0, 1, 0, 0, zU), (112, .aload_n 0, 1, 0, 0, zU), (113, .getfield 37, 3, 8, 11, zU), (116, .putfield 34, 3, 8, 10, zU), (119, .aload_n 0, 1, 0, 0, zU), (120, .aload_n 3, 1, 3, 0, zU), (121, .putfield 37, 3, 8, 11, zU), (124, .return_, 1, 0, 0, zU)]
/-- Tuning.drinksShort(I)I -/
def zc76 : List zE := [(0, .iconst 0, 1, 0, 0, .int (nI 0)), (1, .istore_n 2, 1, 2, 0, zU), (2, .iconst 0, 1, 0, 0, .int (nI 0)), (3, .istore_n 3, 1, 3, 0, zU), (4, .iload_n 3, 1, 3, 0, zU), (5, .aload_n 0, 1, 0, 0, zU), (6, .getfield 40, 3, 8, 0, zU), (9, .getfield 71, 3, 0, 1, zU), (12, .if_icmp .ge 35, 3, 47, 0, zU), (15, .iload_n 1, 1, 1, 0, zU), (16, .iload_n 3, 1, 3, 0, zU), (17, .invokestatic 133, 3, 36, 2, zU), (20, .ifCond .eq 21, 3, 41, 0, zU), (23, .iload_n 2, 1, 2, 0, zU), (24, .iconst 5, 1, 0, 0, .int (nI 5)), (25, .aload_n 0, 1, 0, 0, zU), (26, .getfield 44, 3, 8, 1, zU), (29, .getfield 130, 3, 7, 4, zU), (32, .iload_n 3, 1, 3, 0, zU), (33, .iaload, 1, 0, 0, zU), (34, .isub, 1, 0, 0, zU), (35, .iconst 0, 1, 0, 0, .int (nI 0)), (36, .invokestatic 137, 3, 9001, 2, zU), (39, .iadd, 1, 0, 0, zU), (40, .istore_n 2, 1, 2, 0, zU), (41, .iinc 3 1, 3, 3, 0, .int (nI 1)), (44, .goto (-40), 3, 4, 0, zU), (47, .iload_n 2, 1, 2, 0, zU), (48, .ireturn, 1, 0, 0, zU)]
/-- Tuning.drinksOver(I)I -/
def zc77 : List zE := [(0, .iconst 0, 1, 0, 0, .int (nI 0)), (1, .istore_n 2, 1, 2, 0, zU), (2, .iconst 0, 1, 0, 0, .int (nI 0)), (3, .istore_n 3, 1, 3, 0, zU), (4, .iload_n 3, 1, 3, 0, zU), (5, .aload_n 0, 1, 0, 0, zU), (6, .getfield 40, 3, 8, 0, zU), (9, .getfield 71, 3, 0, 1, zU), (12, .if_icmp .ge 35, 3, 47, 0, zU), (15, .iload_n 1, 1, 1, 0, zU), (16, .iload_n 3, 1, 3, 0, zU), (17, .invokestatic 133, 3, 36, 2, zU), (20, .ifCond .eq 21, 3, 41, 0, zU), (23, .iload_n 2, 1, 2, 0, zU), (24, .aload_n 0, 1, 0, 0, zU), (25, .getfield 44, 3, 8, 1, zU), (28, .getfield 130, 3, 7, 4, zU), (31, .iload_n 3, 1, 3, 0, zU), (32, .iaload, 1, 0, 0, zU), (33, .iconst 5, 1, 0, 0, .int (nI 5)), (34, .isub, 1, 0, 0, zU), (35, .iconst 0, 1, 0, 0, .int (nI 0)), (36, .invokestatic 137, 3, 9001, 2, zU), (39, .iadd, 1, 0, 0, zU), (40, .istore_n 2, 1, 2, 0, zU), (41, .iinc 3 1, 3, 3, 0, .int (nI 1)), (44, .goto (-40), 3, 4, 0, zU), (47, .iload_n 2, 1, 2, 0, zU), (48, .ireturn, 1, 0, 0, zU)]
/-- GG.feed(I)I -/
def zc78 : List zE := [(0, .iload_n 1, 1, 1, 0, zU), (1, .iconst 0, 1, 0, 0, .int (nI 0)), (2, .sipush 255, 3, 0, 0, .int (nI 255)), (5, .invokestatic 83, 3, 35, 3, zU), (8, .ifCond .eq 6, 3, 14, 0, zU), (11, .ldc 87, 2, 0, 0, .int ((-1000000002))), (13, .ireturn, 1, 0, 0, zU), (14, .aload_n 0, 1, 0, 0, zU), (15, .getfield 12, 3, 9, 0, zU), (18, .iload_n 1, 1, 1, 0, zU), (19, .invokevirtual 88, 3, 16, 1, .retAddr 5), (22, .ifCond .eq 13, 3, 35, 0, zU), (25, .aload_n 0, 1, 0, 0, zU), (26, .getfield 12, 3, 9, 0, zU), (29, .getfield 92, 3, 5, 1, zU), (32, .goto 5, 3, 37, 0, zU), (35, .ldc 95, 2, 0, 0, .int ((-1000000004))), (37, .ireturn, 1, 0, 0, zU)]
/-- GG.logged(II)I -/
def zc79 : List zE := [(0, .iload_n 2, 1, 2, 0, zU), (1, .iconst 0, 1, 0, 0, .int (nI 0)), (2, .iconst 2, 1, 0, 0, .int (nI 2)), (3, .invokestatic 83, 3, 35, 3, zU), (6, .ifCond .eq 6, 3, 12, 0, zU), (9, .ldc 87, 2, 0, 0, .int ((-1000000002))), (11, .ireturn, 1, 0, 0, zU), (12, .aload_n 0, 1, 0, 0, zU), (13, .getfield 29, 3, 9, 3, zU), (16, .iload_n 1, 1, 1, 0, zU), (17, .iload_n 2, 1, 2, 0, zU), (18, .invokevirtual 208, 3, 27, 2, .retAddr 7), (21, .ireturn, 1, 0, 0, zU)]
/-- GG.holds(I)I -/
def zc80 : List zE := [(0, .iload_n 1, 1, 1, 0, zU), (1, .iconst 0, 1, 0, 0, .int (nI 0)), (2, .bipush 9, 2, 0, 0, .int (nI 9)), (4, .invokestatic 83, 3, 35, 3, zU), (7, .ifCond .eq 6, 3, 13, 0, zU), (10, .ldc 87, 2, 0, 0, .int ((-1000000002))), (12, .ireturn, 1, 0, 0, zU), (13, .aload_n 0, 1, 0, 0, zU), (14, .getfield 29, 3, 9, 3, zU), (17, .iload_n 1, 1, 1, 0, zU), (18, .invokevirtual 295, 3, 28, 1, .retAddr 7), (21, .ireturn, 1, 0, 0, zU)]
/-- GG.homeBy(II)I -/
def zc81 : List zE := [(0, .iload_n 1, 1, 1, 0, zU), (1, .iconst 0, 1, 0, 0, .int (nI 0)), (2, .bipush 60, 2, 0, 0, .int (nI 60)), (4, .invokestatic 83, 3, 35, 3, zU), (7, .ifCond .ne 13, 3, 20, 0, zU), (10, .iload_n 2, 1, 2, 0, zU), (11, .iconst 0, 1, 0, 0, .int (nI 0)), (12, .bipush 100, 2, 0, 0, .int (nI 100)), (14, .invokestatic 83, 3, 35, 3, zU), (17, .ifCond .eq 6, 3, 23, 0, zU), (20, .ldc 87, 2, 0, 0, .int ((-1000000002))), (22, .ireturn, 1, 0, 0, zU), (23, .ldc2_w 298, 3, 0, 0, .long (lN 1000000000)), (26, .lstore_n 3, 1, 3, 0, zU), (27, .iconst 0, 1, 0, 0, .int (nI 0)), (28, .istore 5, 2, 5, 0, zU), (30, .iload 5, 2, 5, 0, zU), (32, .iload_n 1, 1, 1, 0, zU), (33, .if_icmp .ge 21, 3, 54, 0, zU), (36, .lload_n 3, 1, 3, 0, zU), (37, .bipush 100, 2, 0, 0, .int (nI 100)), (39, .iload_n 2, 1, 2, 0, zU), (40, .isub, 1, 0, 0, zU), (41, .i2l, 1, 0, 0, zU), (42, .lmul, 1, 0, 0, zU), (43, .ldc2_w 300, 3, 0, 0, .long (lN 100)), (46, .ldiv, 1, 0, 0, zU), (47, .lstore_n 3, 1, 3, 0, zU), (48, .iinc 5 1, 3, 5, 0, .int (nI 1)), (51, .goto (-21), 3, 30, 0, zU), (54, .lload_n 3, 1, 3, 0, zU), (55, .l2i, 1, 0, 0, zU), (56, .ireturn, 1, 0, 0, zU)]
/-- GG.judge()I -/
def zc82 : List zE := [(0, .aload_n 0, 1, 0, 0, zU), (1, .getfield 61, 3, 9, 7, zU), (4, .invokevirtual 314, 3, 15, 0, .retAddr 4), (7, .ireturn, 1, 0, 0, zU)]
/-- GG.tear()I -/
def zc83 : List zE := [(0, .aload_n 0, 1, 0, 0, zU), (1, .getfield 61, 3, 9, 7, zU), (4, .getfield 159, 3, 4, 5, zU), (7, .aload_n 0, 1, 0, 0, zU), (8, .getfield 61, 3, 9, 7, zU), (11, .getfield 162, 3, 4, 8, zU), (14, .iadd, 1, 0, 0, zU), (15, .istore_n 1, 1, 1, 0, zU), (16, .aload_n 0, 1, 0, 0, zU), (17, .getfield 61, 3, 9, 7, zU), (20, .invokevirtual 107, 3, 12, 0, .retAddr 4), (23, .iload_n 1, 1, 1, 0, zU), (24, .ireturn, 1, 0, 0, zU)]
/-- GG.noGlass(I)Z -/
def zc84 : List zE := [(0, .iload_n 1, 1, 1, 0, zU), (1, .iconst 0, 1, 0, 0, .int (nI 0)), (2, .aload_n 0, 1, 0, 0, zU), (3, .getfield 23, 3, 9, 2, zU), (6, .getfield 114, 3, 0, 1, zU), (9, .iconst 1, 1, 0, 0, .int (nI 1)), (10, .isub, 1, 0, 0, zU), (11, .invokestatic 83, 3, 35, 3, zU), (14, .ireturn, 1, 1, 0, zU)]
/-- GG.noBoat(I)Z -/
def zc85 : List zE := [(0, .iload_n 1, 1, 1, 0, zU), (1, .iconst 0, 1, 0, 0, .int (nI 0)), (2, .aload_n 0, 1, 0, 0, zU), (3, .getfield 23, 3, 9, 2, zU), (6, .getfield 123, 3, 0, 2, zU), (9, .iconst 1, 1, 0, 0, .int (nI 1)), (10, .isub, 1, 0, 0, zU), (11, .invokestatic 83, 3, 35, 3, zU), (14, .ireturn, 1, 1, 0, zU)]
/-- GG.refuseAhead(I)I -/
def zc86 : List zE := [(0, .iload_n 1, 1, 1, 0, zU), (1, .iconst 0, 1, 0, 0, .int (nI 0)), (2, .bipush 60, 2, 0, 0, .int (nI 60)), (4, .invokestatic 83, 3, 35, 3, zU), (7, .ifCond .eq 6, 3, 13, 0, zU), (10, .ldc 87, 2, 0, 0, .int ((-1000000002))), (12, .ireturn, 1, 0, 0, zU), (13, .aload_n 0, 1, 0, 0, zU), (14, .invokevirtual 129, 3, 33, 0, .retAddr 9), (17, .ifCond .eq 8, 3, 25, 0, zU), (20, .ldc 224, 2, 0, 0, .int ((-1000000003))), (22, .goto 4, 3, 26, 0, zU), (25, .iconst 0, 1, 0, 0, .int (nI 0)), (26, .ireturn, 1, 0, 0, zU)]
/-- GG.refuseDays(I)I -/
def zc87 : List zE := [(0, .iload_n 1, 1, 1, 0, zU), (1, .iconst 1, 1, 0, 0, .int (nI 1)), (2, .bipush 30, 2, 0, 0, .int (nI 30)), (4, .invokestatic 83, 3, 35, 3, zU), (7, .ifCond .eq 6, 3, 13, 0, zU), (10, .ldc 87, 2, 0, 0, .int ((-1000000002))), (12, .ireturn, 1, 0, 0, zU), (13, .aload_n 0, 1, 0, 0, zU), (14, .invokevirtual 129, 3, 33, 0, .retAddr 9), (17, .ifCond .eq 6, 3, 23, 0, zU), (20, .ldc 224, 2, 0, 0, .int ((-1000000003))), (22, .ireturn, 1, 0, 0, zU), (23, .aload_n 0, 1, 0, 0, zU), (24, .getfield 29, 3, 9, 3, zU), (27, .getfield 126, 3, 7, 0, zU), (30, .sipush 9000, 3, 0, 0, .int (nI 9000)), (33, .if_icmp .le 8, 3, 41, 0, zU), (36, .ldc 95, 2, 0, 0, .int ((-1000000004))), (38, .goto 4, 3, 42, 0, zU), (41, .iconst 0, 1, 0, 0, .int (nI 0)), (42, .ireturn, 1, 0, 0, zU)]
/-- GG.moveByDraw()V -/
def zc88 : List zE := [(0, .aload_n 0, 1, 0, 0, zU), (1, .getfield 23, 3, 9, 2, zU), (4, .getfield 114, 3, 0, 1, zU), (7, .ifCond .ne 4, 3, 11, 0, zU), (10, .return_, 1, 0, 0, zU), (11, .aload_n 0, 1, 0, 0, zU), (12, .aload_n 0, 1, 0, 0, zU), (13, .getfield 23, 3, 9, 2, zU), (16, .getfield 114, 3, 0, 1, zU), (19, .invokevirtual 331, 3, 34, 1, .retAddr 9), (22, .istore_n 1, 1, 1, 0, zU), (23, .aload_n 0, 1, 0, 0, zU), (24, .iconst 4, 1, 0, 0, .int (nI 4)), (25, .invokevirtual 331, 3, 34, 1, .retAddr 9), (28, .tableswitch 100 0 2 #[28, 56, 83], 28, 0, 0, zU), (56, .aload_n 0, 1, 0, 0, zU), (57, .getfield 29, 3, 9, 3, zU), (60, .getfield 178, 3, 7, 4, zU), (63, .iload_n 1, 1, 1, 0, zU), (64, .aload_n 0, 1, 0, 0, zU), (65, .getfield 29, 3, 9, 3, zU), (68, .getfield 178, 3, 7, 4, zU), (71, .iload_n 1, 1, 1, 0, zU), (72, .iaload, 1, 0, 0, zU), (73, .iconst 1, 1, 0, 0, .int (nI 1)), (74, .iadd, 1, 0, 0, zU), (75, .bipush 10, 2, 0, 0, .int (nI 10)), (77, .invokestatic 334, 3, 9002, 2, zU), (80, .iastore, 1, 0, 0, zU), (81, .goto 47, 3, 128, 0, zU), (84, .aload_n 0, 1, 0, 0, zU), (85, .getfield 29, 3, 9, 3, zU), (88, .getfield 178, 3, 7, 4, zU), (91, .iload_n 1, 1, 1, 0, zU), (92, .aload_n 0, 1, 0, 0, zU), (93, .getfield 29, 3, 9, 3, zU), (96, .getfield 178, 3, 7, 4, zU), (99, .iload_n 1, 1, 1, 0, zU), (100, .iaload, 1, 0, 0, zU), (101, .iconst 1, 1, 0, 0, .int (nI 1)), (102, .isub, 1, 0, 0, zU), (103, .iconst 0, 1, 0, 0, .int (nI 0)), (104, .invokestatic 339, 3, 9001, 2, zU), (107, .iastore, 1, 0, 0, zU), (108, .goto 20, 3, 128, 0, zU), (111, .aload_n 0, 1, 0, 0, zU), (112, .getfield 29, 3, 9, 3, zU), (115, .getfield 189, 3, 7, 6, zU), (118, .iload_n 1, 1, 1, 0, zU), (119, .aload_n 0, 1, 0, 0, zU), (120, .iconst 4, 1, 0, 0, .int (nI 4)), (121, .invokevirtual 331, 3, 34, 1, .retAddr 9), (124, .iastore, 1, 0, 0, zU), (125, .goto 3, 3, 128, 0, zU), (128, .return_, 1, 0, 0, zU)]
/-- Model.feed(I)I -/
def zc89 : List zE := [(0, .iload_n 1, 1, 1, 0, zU), (1, .i2l, 1, 0, 0, zU), (2, .lconst 0, 1, 0, 0, .long (lN 0)), (3, .ldc2_w 66, 3, 0, 0, .long (lN 255)), (6, .invokestatic 68, 3, 37, 3, zU), (9, .ifCond .ne 6, 3, 15, 0, zU), (12, .ldc 72, 2, 0, 0, .int ((-1000000002))), (14, .ireturn, 1, 0, 0, zU), (15, .aload_n 0, 1, 0, 0, zU), (16, .getfield 73, 3, 10, 17, zU), (19, .sipush 240, 3, 0, 0, .int (nI 240)), (22, .if_icmp .ne 6, 3, 28, 0, zU), (25, .ldc 76, 2, 0, 0, .int ((-1000000004))), (27, .ireturn, 1, 0, 0, zU), (28, .aload_n 0, 1, 0, 0, zU), (29, .getfield 32, 3, 10, 16, zU), (32, .aload_n 0, 1, 0, 0, zU), (33, .getfield 73, 3, 10, 17, zU), (36, .iload_n 1, 1, 1, 0, zU), (37, .iastore, 1, 0, 0, zU), (38, .aload_n 0, 1, 0, 0, zU), (39, .dup, 1, 0, 0, zU), (40, .getfield 73, 3, 10, 17, zU), (43, .iconst 1, 1, 0, 0, .int (nI 1)), (44, .iadd, 1, 0, 0, zU), (45, .putfield 73, 3, 10, 17, zU), (48, .aload_n 0, 1, 0, 0, zU), (49, .getfield 73, 3, 10, 17, zU), (52, .ireturn, 1, 0, 0, zU)]
/-- Model.takeNumber()I -/
def zc90 : List zE := [(0, .aload_n 0, 1, 0, 0, zU), (1, .getfield 80, 3, 10, 20, zU), (4, .ifCond .le 5, 3, 9, 0, zU), (7, .iconst 0, 1, 0, 0, .int (nI 0)), (8, .ireturn, 1, 0, 0, zU), (9, .aload_n 0, 1, 0, 0, zU), (10, .invokevirtual 83, 3, 43, 0, .retAddr 10), (13, .istore_n 1, 1, 1, 0, zU), (14, .aload_n 0, 1, 0, 0, zU), (15, .aload_n 0, 1, 0, 0, zU), (16, .getfield 77, 3, 10, 18, zU), (19, .putfield 87, 3, 10, 19, zU), (22, .aload_n 0, 1, 0, 0, zU), (23, .iload_n 1, 1, 1, 0, zU), (24, .i2l, 1, 0, 0, zU), (25, .ldc2_w 90, 3, 0, 0, .long (lN 48)), (28, .ldc2_w 92, 3, 0, 0, .long (lN 57)), (31, .invokestatic 68, 3, 37, 3, zU), (34, .iconst 1, 1, 0, 0, .int (nI 1)), (35, .aload_n 0, 1, 0, 0, zU), (36, .getfield 77, 3, 10, 18, zU), (39, .invokevirtual 94, 3, 44, 3, .retAddr 10), (42, .ifCond .ne 5, 3, 47, 0, zU), (45, .iconst 0, 1, 0, 0, .int (nI 0)), (46, .ireturn, 1, 0, 0, zU), (47, .iconst 0, 1, 0, 0, .int (nI 0)), (48, .istore_n 2, 1, 2, 0, zU), (49, .aload_n 0, 1, 0, 0, zU), (50, .getfield 77, 3, 10, 18, zU), (53, .aload_n 0, 1, 0, 0, zU), (54, .getfield 73, 3, 10, 17, zU), (57, .if_icmp .ge 66, 3, 123, 0, zU), (60, .aload_n 0, 1, 0, 0, zU), (61, .getfield 32, 3, 10, 16, zU), (64, .aload_n 0, 1, 0, 0, zU), (65, .getfield 77, 3, 10, 18, zU), (68, .iaload, 1, 0, 0, zU), (69, .i2l, 1, 0, 0, zU), (70, .ldc2_w 90, 3, 0, 0, .long (lN 48)), (73, .ldc2_w 92, 3, 0, 0, .long (lN 57)), (76, .invokestatic 68, 3, 37, 3, zU), (79, .ifCond .eq 44, 3, 123, 0, zU), (82, .iload_n 2, 1, 2, 0, zU), (83, .ldc 98, 2, 0, 0, .int (nI 99999)), (85, .if_icmp .le 7, 3, 92, 0, zU), (88, .iload_n 2, 1, 2, 0, zU), (89, .goto 20, 3, 109, 0, zU), (92, .bipush 10, 2, 0, 0, .int (nI 10)), (94, .iload_n 2, 1, 2, 0, zU), (95, .imul, 1, 0, 0, zU), (96, .aload_n 0, 1, 0, 0, zU), (97, .getfield 32, 3, 10, 16, zU), (100, .aload_n 0, 1, 0, 0, zU), (101, .getfield 77, 3, 10, 18, zU), (104, .iaload, 1, 0, 0, zU), (105, .iadd, 1, 0, 0, zU), (106, .bipush 48, 2, 0, 0, .int (nI 48)), (108, .isub, 1, 0, 0, zU), (109, .istore_n 2, 1, 2, 0, zU), (110, .aload_n 0, 1, 0, 0, zU), (111, .dup, 1, 0, 0, zU), (112, .getfield 77, 3, 10, 18, zU), (115, .iconst 1, 1, 0, 0, .int (nI 1)), (116, .iadd, 1, 0, 0, zU), (117, .putfield 77, 3, 10, 18, zU), (120, .goto (-71), 3, 49, 0, zU), (123, .aload_n 0, 1, 0, 0, zU), (124, .aload_n 0, 1, 0, 0, zU), (125, .getfield 77, 3, 10, 18, zU), (128, .aload_n 0, 1, 0, 0, zU), (129, .getfield 87, 3, 10, 19, zU), (132, .isub, 1, 0, 0, zU), (133, .iconst 4, 1, 0, 0, .int (nI 4)), (134, .if_icmp .ge 7, 3, 141, 0, zU), (137, .iconst 1, 1, 0, 0, .int (nI 1)), (138, .goto 4, 3, 142, 0, zU), (141, .iconst 0, 1, 0, 0, .int (nI 0)), (142, .iconst 2, 1, 0, 0, .int (nI 2)), (143, .aload_n 0, 1, 0, 0, zU), (144, .getfield 87, 3, 10, 19, zU), (147, .invokevirtual 94, 3, 44, 3, .retAddr 10), (150, .istore_n 3, 1, 3, 0, zU), (151, .iload_n 2, 1, 2, 0, zU), (152, .ireturn, 1, 0, 0, zU)]
/-- Model.isGlass(I)Z -/
def zc91 : List zE := [(0, .iload_n 1, 1, 1, 0, zU), (1, .i2l, 1, 0, 0, zU), (2, .lconst 0, 1, 0, 0, .long (lN 0)), (3, .aload_n 0, 1, 0, 0, zU), (4, .getfield 141, 3, 10, 9, zU), (7, .iconst 1, 1, 0, 0, .int (nI 1)), (8, .isub, 1, 0, 0, zU), (9, .i2l, 1, 0, 0, zU), (10, .invokestatic 68, 3, 37, 3, zU), (13, .ireturn, 1, 1, 0, zU)]
/-- Model.isBoat(I)Z -/
def zc92 : List zE := [(0, .iload_n 1, 1, 1, 0, zU), (1, .i2l, 1, 0, 0, zU), (2, .lconst 0, 1, 0, 0, .long (lN 0)), (3, .aload_n 0, 1, 0, 0, zU), (4, .getfield 147, 3, 10, 11, zU), (7, .iconst 1, 1, 0, 0, .int (nI 1)), (8, .isub, 1, 0, 0, zU), (9, .i2l, 1, 0, 0, zU), (10, .invokestatic 68, 3, 37, 3, zU), (13, .ireturn, 1, 1, 0, zU)]
/-- Model.isAll(I)Z -/
def zc93 : List zE := [(0, .iload_n 1, 1, 1, 0, zU), (1, .i2l, 1, 0, 0, zU), (2, .lconst 0, 1, 0, 0, .long (lN 0)), (3, .iconst 1, 1, 0, 0, .int (nI 1)), (4, .aload_n 0, 1, 0, 0, zU), (5, .getfield 141, 3, 10, 9, zU), (8, .ishl, 1, 0, 0, zU), (9, .iconst 1, 1, 0, 0, .int (nI 1)), (10, .isub, 1, 0, 0, zU), (11, .i2l, 1, 0, 0, zU), (12, .invokestatic 68, 3, 37, 3, zU), (15, .ireturn, 1, 1, 0, zU)]
/-- Model.tomorrow(I)I -/
def zc94 : List zE := [(0, .aload_n 0, 1, 0, 0, zU), (1, .aload_n 0, 1, 0, 0, zU), (2, .getfield 7, 3, 10, 0, zU), (5, .iload_n 1, 1, 1, 0, zU), (6, .bipush 29, 2, 0, 0, .int (nI 29)), (8, .iadd, 1, 0, 0, zU), (9, .iaload, 1, 0, 0, zU), (10, .iconst 1, 1, 0, 0, .int (nI 1)), (11, .iadd, 1, 0, 0, zU), (12, .invokevirtual 162, 3, 47, 1, .retAddr 10), (15, .ireturn, 1, 0, 0, zU)]
/-- Model.held(I)I -/
def zc95 : List zE := [(0, .iconst 0, 1, 0, 0, .int (nI 0)), (1, .bipush 9, 2, 0, 0, .int (nI 9)), (3, .iload_n 0, 1, 0, 0, zU), (4, .invokestatic 166, 3, 38, 2, zU), (7, .invokestatic 169, 3, 39, 2, zU), (10, .ireturn, 1, 0, 0, zU)]
/-- Model.sails(III)Z -/
def zc96 : List zE := [(0, .aload_n 0, 1, 0, 0, zU), (1, .getfield 7, 3, 10, 0, zU), (4, .iload_n 1, 1, 1, 0, zU), (5, .bipush 21, 2, 0, 0, .int (nI 21)), (7, .iadd, 1, 0, 0, zU), (8, .iaload, 1, 0, 0, zU), (9, .iload_n 2, 1, 2, 0, zU), (10, .invokestatic 185, 3, 42, 2, zU), (13, .ifCond .ne 33, 3, 46, 0, zU), (16, .aload_n 0, 1, 0, 0, zU), (17, .getfield 7, 3, 10, 0, zU), (20, .iload_n 1, 1, 1, 0, zU), (21, .bipush 22, 2, 0, 0, .int (nI 22)), (23, .iadd, 1, 0, 0, zU), (24, .iaload, 1, 0, 0, zU), (25, .iload_n 2, 1, 2, 0, zU), (26, .invokestatic 185, 3, 42, 2, zU), (29, .ifCond .ne 17, 3, 46, 0, zU), (32, .iload_n 3, 1, 3, 0, zU), (33, .aload_n 0, 1, 0, 0, zU), (34, .getfield 26, 3, 10, 5, zU), (37, .iload_n 2, 1, 2, 0, zU), (38, .iaload, 1, 0, 0, zU), (39, .if_icmp .lt 7, 3, 46, 0, zU), (42, .iconst 1, 1, 0, 0, .int (nI 1)), (43, .goto 4, 3, 47, 0, zU), (46, .iconst 0, 1, 0, 0, .int (nI 0)), (47, .ireturn, 1, 1, 0, zU)]
/-- Model.gladOnes()I -/
def zc97 : List zE := [(0, .iconst 0, 1, 0, 0, .int (nI 0)), (1, .istore_n 1, 1, 1, 0, zU), (2, .iconst 0, 1, 0, 0, .int (nI 0)), (3, .istore_n 2, 1, 2, 0, zU), (4, .iload_n 2, 1, 2, 0, zU), (5, .aload_n 0, 1, 0, 0, zU), (6, .getfield 141, 3, 10, 9, zU), (9, .if_icmp .ge 34, 3, 43, 0, zU), (12, .iload_n 1, 1, 1, 0, zU), (13, .aload_n 0, 1, 0, 0, zU), (14, .getfield 7, 3, 10, 0, zU), (17, .bipush 14, 2, 0, 0, .int (nI 14)), (19, .iload_n 2, 1, 2, 0, zU), (20, .iadd, 1, 0, 0, zU), (21, .iaload, 1, 0, 0, zU), (22, .ifCond .le 7, 3, 29, 0, zU), (25, .iconst 1, 1, 0, 0, .int (nI 1)), (26, .goto 4, 3, 30, 0, zU), (29, .iconst 0, 1, 0, 0, .int (nI 0)), (30, .invokestatic 196, 3, 41, 1, zU), (33, .iload_n 2, 1, 2, 0, zU), (34, .ishl, 1, 0, 0, zU), (35, .ior, 1, 0, 0, zU), (36, .istore_n 1, 1, 1, 0, zU), (37, .iinc 2 1, 3, 2, 0, .int (nI 1)), (40, .goto (-36), 3, 4, 0, zU), (43, .iload_n 1, 1, 1, 0, zU), (44, .ireturn, 1, 0, 0, zU)]
/-- Model.weather(I)I -/
def zc98 : List zE := [(0, .iload_n 1, 1, 1, 0, zU), (1, .i2l, 1, 0, 0, zU), (2, .lconst 0, 1, 0, 0, .long (lN 0)), (3, .ldc2_w 209, 3, 0, 0, .long (lN 60)), (6, .invokestatic 68, 3, 37, 3, zU), (9, .ifCond .ne 6, 3, 15, 0, zU), (12, .ldc 72, 2, 0, 0, .int ((-1000000002))), (14, .ireturn, 1, 0, 0, zU), (15, .aload_n 0, 1, 0, 0, zU), (16, .getfield 144, 3, 10, 7, zU), (19, .ifCond .ne 8, 3, 27, 0, zU), (22, .ldc 211, 2, 0, 0, .int ((-1000000003))), (24, .goto 16, 3, 40, 0, zU), (27, .aload_n 0, 1, 0, 0, zU), (28, .aload_n 0, 1, 0, 0, zU), (29, .getfield 7, 3, 10, 0, zU), (32, .bipush 29, 2, 0, 0, .int (nI 29)), (34, .iaload, 1, 0, 0, zU), (35, .iload_n 1, 1, 1, 0, zU), (36, .iadd, 1, 0, 0, zU), (37, .invokevirtual 162, 3, 47, 1, .retAddr 10), (40, .ireturn, 1, 0, 0, zU)]
/-- Model.logged(II)I -/
def zc99 : List zE := [(0, .iload_n 2, 1, 2, 0, zU), (1, .i2l, 1, 0, 0, zU), (2, .lconst 0, 1, 0, 0, .long (lN 0)), (3, .ldc2_w 220, 3, 0, 0, .long (lN 2)), (6, .invokestatic 68, 3, 37, 3, zU), (9, .ifCond .ne 6, 3, 15, 0, zU), (12, .ldc 72, 2, 0, 0, .int ((-1000000002))), (14, .ireturn, 1, 0, 0, zU), (15, .iload_n 1, 1, 1, 0, zU), (16, .i2l, 1, 0, 0, zU), (17, .lconst 0, 1, 0, 0, .long (lN 0)), (18, .aload_n 0, 1, 0, 0, zU), (19, .getfield 7, 3, 10, 0, zU), (22, .bipush 30, 2, 0, 0, .int (nI 30)), (24, .iaload, 1, 0, 0, zU), (25, .iconst 1, 1, 0, 0, .int (nI 1)), (26, .isub, 1, 0, 0, zU), (27, .i2l, 1, 0, 0, zU), (28, .invokestatic 68, 3, 37, 3, zU), (31, .ifCond .eq 29, 3, 60, 0, zU), (34, .aload_n 0, 1, 0, 0, zU), (35, .getfield 7, 3, 10, 0, zU), (38, .bipush 31, 2, 0, 0, .int (nI 31)), (40, .iconst 3, 1, 0, 0, .int (nI 3)), (41, .aload_n 0, 1, 0, 0, zU), (42, .getfield 7, 3, 10, 0, zU), (45, .bipush 30, 2, 0, 0, .int (nI 30)), (47, .iaload, 1, 0, 0, zU), (48, .iconst 1, 1, 0, 0, .int (nI 1)), (49, .isub, 1, 0, 0, zU), (50, .iload_n 1, 1, 1, 0, zU), (51, .isub, 1, 0, 0, zU), (52, .imul, 1, 0, 0, zU), (53, .iadd, 1, 0, 0, zU), (54, .iload_n 2, 1, 2, 0, zU), (55, .iadd, 1, 0, 0, zU), (56, .iaload, 1, 0, 0, zU), (57, .goto 4, 3, 61, 0, zU), (60, .iconst (-1), 1, 0, 0, .int ((-1))), (61, .ireturn, 1, 0, 0, zU)]
/-- Model.remember()V -/
def zc100 : List zE := [(0, .aload_n 0, 1, 0, 0, zU), (1, .getfield 159, 3, 10, 22, zU), (4, .bipush 30, 2, 0, 0, .int (nI 30)), (6, .if_icmp .ne 49, 3, 55, 0, zU), (9, .iconst 1, 1, 0, 0, .int (nI 1)), (10, .istore_n 1, 1, 1, 0, zU), (11, .iload_n 1, 1, 1, 0, zU), (12, .bipush 30, 2, 0, 0, .int (nI 30)), (14, .if_icmp .ge 31, 3, 45, 0, zU), (17, .aload_n 0, 1, 0, 0, zU), (18, .sipush 368, 3, 0, 0, .int (nI 368)), (21, .bipush 92, 2, 0, 0, .int (nI 92)), (23, .iload_n 1, 1, 1, 0, zU), (24, .imul, 1, 0, 0, zU), (25, .iadd, 1, 0, 0, zU), (26, .sipush 368, 3, 0, 0, .int (nI 368)), (29, .bipush 92, 2, 0, 0, .int (nI 92)), (31, .iload_n 1, 1, 1, 0, zU), (32, .iconst 1, 1, 0, 0, .int (nI 1)), (33, .isub, 1, 0, 0, zU), (34, .imul, 1, 0, 0, zU), (35, .iadd, 1, 0, 0, zU), (36, .invokevirtual 222, 3, 49, 2, .retAddr 10), (39, .iinc 1 1, 3, 1, 0, .int (nI 1)), (42, .goto (-31), 3, 11, 0, zU), (45, .aload_n 0, 1, 0, 0, zU), (46, .dup, 1, 0, 0, zU), (47, .getfield 159, 3, 10, 22, zU), (50, .iconst 1, 1, 0, 0, .int (nI 1)), (51, .isub, 1, 0, 0, zU), (52, .putfield 159, 3, 10, 22, zU), (55, .aload_n 0, 1, 0, 0, zU), (56, .iconst 0, 1, 0, 0, .int (nI 0)), (57, .sipush 368, 3, 0, 0, .int (nI 368)), (60, .bipush 92, 2, 0, 0, .int (nI 92)), (62, .aload_n 0, 1, 0, 0, zU), (63, .getfield 159, 3, 10, 22, zU), (66, .imul, 1, 0, 0, zU), (67, .iadd, 1, 0, 0, zU), (68, .invokevirtual 222, 3, 49, 2, .retAddr 10), (71, .aload_n 0, 1, 0, 0, zU), (72, .dup, 1, 0, 0, zU), (73, .getfield 159, 3, 10, 22, zU), (76, .iconst 1, 1, 0, 0, .int (nI 1)), (77, .iadd, 1, 0, 0, zU), (78, .putfield 159, 3, 10, 22, zU), (81, .return_, 1, 0, 0, zU)]
/-- Model.refusedDays(I)I -/
def zc101 : List zE := [(0, .iload_n 1, 1, 1, 0, zU), (1, .i2l, 1, 0, 0, zU), (2, .lconst 1, 1, 0, 0, .long (lN 1)), (3, .ldc2_w 231, 3, 0, 0, .long (lN 30)), (6, .invokestatic 68, 3, 37, 3, zU), (9, .ifCond .ne 6, 3, 15, 0, zU), (12, .ldc 72, 2, 0, 0, .int ((-1000000002))), (14, .ireturn, 1, 0, 0, zU), (15, .aload_n 0, 1, 0, 0, zU), (16, .getfield 144, 3, 10, 7, zU), (19, .ifCond .ne 8, 3, 27, 0, zU), (22, .ldc 211, 2, 0, 0, .int ((-1000000003))), (24, .goto 22, 3, 46, 0, zU), (27, .aload_n 0, 1, 0, 0, zU), (28, .getfield 7, 3, 10, 0, zU), (31, .bipush 29, 2, 0, 0, .int (nI 29)), (33, .iaload, 1, 0, 0, zU), (34, .sipush 9000, 3, 0, 0, .int (nI 9000)), (37, .if_icmp .le 8, 3, 45, 0, zU), (40, .ldc 76, 2, 0, 0, .int ((-1000000004))), (42, .goto 4, 3, 46, 0, zU), (45, .iconst 0, 1, 0, 0, .int (nI 0)), (46, .ireturn, 1, 0, 0, zU)]
/-- Model.homes()I -/
def zc102 : List zE := [(0, .iconst 0, 1, 0, 0, .int (nI 0)), (1, .istore_n 1, 1, 1, 0, zU), (2, .iconst 0, 1, 0, 0, .int (nI 0)), (3, .istore_n 2, 1, 2, 0, zU), (4, .iload_n 2, 1, 2, 0, zU), (5, .aload_n 0, 1, 0, 0, zU), (6, .getfield 147, 3, 10, 11, zU), (9, .if_icmp .ge 34, 3, 43, 0, zU), (12, .iload_n 1, 1, 1, 0, zU), (13, .aload_n 0, 1, 0, 0, zU), (14, .getfield 7, 3, 10, 0, zU), (17, .bipush 21, 2, 0, 0, .int (nI 21)), (19, .iaload, 1, 0, 0, zU), (20, .iload_n 2, 1, 2, 0, zU), (21, .invokestatic 185, 3, 42, 2, zU), (24, .ifCond .ne 7, 3, 31, 0, zU), (27, .iconst 1, 1, 0, 0, .int (nI 1)), (28, .goto 4, 3, 32, 0, zU), (31, .iconst 0, 1, 0, 0, .int (nI 0)), (32, .invokestatic 196, 3, 41, 1, zU), (35, .iadd, 1, 0, 0, zU), (36, .istore_n 1, 1, 1, 0, zU), (37, .iinc 2 1, 3, 2, 0, .int (nI 1)), (40, .goto (-36), 3, 4, 0, zU), (43, .iload_n 1, 1, 1, 0, zU), (44, .ireturn, 1, 0, 0, zU)]
/-- Model.undo(I)I -/
def zc103 : List zE := [(0, .iload_n 1, 1, 1, 0, zU), (1, .i2l, 1, 0, 0, zU), (2, .lconst 1, 1, 0, 0, .long (lN 1)), (3, .ldc2_w 231, 3, 0, 0, .long (lN 30)), (6, .invokestatic 68, 3, 37, 3, zU), (9, .ifCond .ne 6, 3, 15, 0, zU), (12, .ldc 72, 2, 0, 0, .int ((-1000000002))), (14, .ireturn, 1, 0, 0, zU), (15, .iload_n 1, 1, 1, 0, zU), (16, .aload_n 0, 1, 0, 0, zU), (17, .getfield 159, 3, 10, 22, zU), (20, .if_icmp .le 6, 3, 26, 0, zU), (23, .ldc 211, 2, 0, 0, .int ((-1000000003))), (25, .ireturn, 1, 0, 0, zU), (26, .aload_n 0, 1, 0, 0, zU), (27, .dup, 1, 0, 0, zU), (28, .getfield 159, 3, 10, 22, zU), (31, .iload_n 1, 1, 1, 0, zU), (32, .isub, 1, 0, 0, zU), (33, .putfield 159, 3, 10, 22, zU), (36, .aload_n 0, 1, 0, 0, zU), (37, .getfield 7, 3, 10, 0, zU), (40, .bipush 91, 2, 0, 0, .int (nI 91)), (42, .iaload, 1, 0, 0, zU), (43, .istore_n 2, 1, 2, 0, zU), (44, .aload_n 0, 1, 0, 0, zU), (45, .sipush 368, 3, 0, 0, .int (nI 368)), (48, .bipush 92, 2, 0, 0, .int (nI 92)), (50, .aload_n 0, 1, 0, 0, zU), (51, .getfield 159, 3, 10, 22, zU), (54, .imul, 1, 0, 0, zU), (55, .iadd, 1, 0, 0, zU), (56, .iconst 0, 1, 0, 0, .int (nI 0)), (57, .invokevirtual 222, 3, 49, 2, .retAddr 10), (60, .aload_n 0, 1, 0, 0, zU), (61, .getfield 7, 3, 10, 0, zU), (64, .bipush 91, 2, 0, 0, .int (nI 91)), (66, .iload_n 2, 1, 2, 0, zU), (67, .iastore, 1, 0, 0, zU), (68, .aload_n 0, 1, 0, 0, zU), (69, .getfield 7, 3, 10, 0, zU), (72, .bipush 29, 2, 0, 0, .int (nI 29)), (74, .iaload, 1, 0, 0, zU), (75, .ireturn, 1, 0, 0, zU)]
/-- Model.errorBy(I)I -/
def zc104 : List zE := [(0, .iconst 0, 1, 0, 0, .int (nI 0)), (1, .istore_n 2, 1, 2, 0, zU), (2, .iconst 0, 1, 0, 0, .int (nI 0)), (3, .istore_n 3, 1, 3, 0, zU), (4, .iload_n 3, 1, 3, 0, zU), (5, .bipush 12, 2, 0, 0, .int (nI 12)), (7, .if_icmp .ge 98, 3, 105, 0, zU), (10, .iconst 0, 1, 0, 0, .int (nI 0)), (11, .istore 4, 2, 4, 0, zU), (13, .iconst 0, 1, 0, 0, .int (nI 0)), (14, .istore 5, 2, 5, 0, zU), (16, .iconst 0, 1, 0, 0, .int (nI 0)), (17, .istore 6, 2, 6, 0, zU), (19, .iload 6, 2, 6, 0, zU), (21, .aload_n 0, 1, 0, 0, zU), (22, .getfield 141, 3, 10, 9, zU), (25, .if_icmp .ge 48, 3, 73, 0, zU), (28, .iload_n 1, 1, 1, 0, zU), (29, .iload 6, 2, 6, 0, zU), (31, .aload_n 0, 1, 0, 0, zU), (32, .getfield 141, 3, 10, 9, zU), (35, .invokestatic 279, 3, 53, 3, zU), (38, .istore 7, 2, 7, 0, zU), (40, .iload 4, 2, 4, 0, zU), (42, .iload 7, 2, 7, 0, zU), (44, .aload_n 0, 1, 0, 0, zU), (45, .getfield 45, 3, 10, 25, zU), (48, .bipush 7, 2, 0, 0, .int (nI 7)), (50, .iload_n 3, 1, 3, 0, zU), (51, .imul, 1, 0, 0, zU), (52, .iload 6, 2, 6, 0, zU), (54, .iadd, 1, 0, 0, zU), (55, .iaload, 1, 0, 0, zU), (56, .imul, 1, 0, 0, zU), (57, .iadd, 1, 0, 0, zU), (58, .istore 4, 2, 4, 0, zU), (60, .iload 5, 2, 5, 0, zU), (62, .iload 7, 2, 7, 0, zU), (64, .iadd, 1, 0, 0, zU), (65, .istore 5, 2, 5, 0, zU), (67, .iinc 6 1, 3, 6, 0, .int (nI 1)), (70, .goto (-51), 3, 19, 0, zU), (73, .iload_n 2, 1, 2, 0, zU), (74, .iload 5, 2, 5, 0, zU), (76, .ifCond .ne 7, 3, 83, 0, zU), (79, .iconst 5, 1, 0, 0, .int (nI 5)), (80, .goto 8, 3, 88, 0, zU), (83, .iload 4, 2, 4, 0, zU), (85, .iload 5, 2, 5, 0, zU), (87, .idiv, 1, 0, 0, zU), (88, .aload_n 0, 1, 0, 0, zU), (89, .getfield 42, 3, 10, 24, zU), (92, .iload_n 3, 1, 3, 0, zU), (93, .iaload, 1, 0, 0, zU), (94, .invokestatic 272, 3, 40, 2, zU), (97, .iadd, 1, 0, 0, zU), (98, .istore_n 2, 1, 2, 0, zU), (99, .iinc 3 1, 3, 3, 0, .int (nI 1)), (102, .goto (-98), 3, 4, 0, zU), (105, .iload_n 2, 1, 2, 0, zU), (106, .ireturn, 1, 0, 0, zU)]
/-- Model.isFair(III)Z -/
def zc105 : List zE := [(0, .iconst 1, 1, 0, 0, .int (nI 1)), (1, .istore 4, 2, 4, 0, zU), (3, .iconst 0, 1, 0, 0, .int (nI 0)), (4, .istore 5, 2, 5, 0, zU), (6, .iload 5, 2, 5, 0, zU), (8, .iload_n 3, 1, 3, 0, zU), (9, .if_icmp .ge 33, 3, 42, 0, zU), (12, .iload 4, 2, 4, 0, zU), (14, .ifCond .eq 19, 3, 33, 0, zU), (17, .aload_n 0, 1, 0, 0, zU), (18, .iload_n 1, 1, 1, 0, zU), (19, .iload 5, 2, 5, 0, zU), (21, .iadd, 1, 0, 0, zU), (22, .invokevirtual 162, 3, 47, 1, .retAddr 10), (25, .iload_n 2, 1, 2, 0, zU), (26, .if_icmp .lt 7, 3, 33, 0, zU), (29, .iconst 1, 1, 0, 0, .int (nI 1)), (30, .goto 4, 3, 34, 0, zU), (33, .iconst 0, 1, 0, 0, .int (nI 0)), (34, .istore 4, 2, 4, 0, zU), (36, .iinc 5 1, 3, 5, 0, .int (nI 1)), (39, .goto (-33), 3, 6, 0, zU), (42, .iload 4, 2, 4, 0, zU), (44, .ireturn, 1, 1, 0, zU)]
/-- Model.holds(I)I -/
def zc106 : List zE := [(0, .iload_n 1, 1, 1, 0, zU), (1, .i2l, 1, 0, 0, zU), (2, .lconst 0, 1, 0, 0, .long (lN 0)), (3, .ldc2_w 248, 3, 0, 0, .long (lN 9)), (6, .invokestatic 68, 3, 37, 3, zU), (9, .ifCond .ne 6, 3, 15, 0, zU), (12, .ldc 72, 2, 0, 0, .int ((-1000000002))), (14, .ireturn, 1, 0, 0, zU), (15, .iconst 0, 1, 0, 0, .int (nI 0)), (16, .istore_n 2, 1, 2, 0, zU), (17, .iconst 0, 1, 0, 0, .int (nI 0)), (18, .istore_n 3, 1, 3, 0, zU), (19, .iload_n 3, 1, 3, 0, zU), (20, .bipush 10, 2, 0, 0, .int (nI 10)), (22, .if_icmp .ge 89, 3, 111, 0, zU), (25, .iconst 1, 1, 0, 0, .int (nI 1)), (26, .istore 4, 2, 4, 0, zU), (28, .iconst 0, 1, 0, 0, .int (nI 0)), (29, .istore 5, 2, 5, 0, zU), (31, .iload 5, 2, 5, 0, zU), (33, .aload_n 0, 1, 0, 0, zU), (34, .getfield 7, 3, 10, 0, zU), (37, .bipush 30, 2, 0, 0, .int (nI 30)), (39, .iaload, 1, 0, 0, zU), (40, .if_icmp .ge 55, 3, 95, 0, zU), (43, .iload 4, 2, 4, 0, zU), (45, .ifCond .eq 41, 3, 86, 0, zU), (48, .aload_n 0, 1, 0, 0, zU), (49, .getfield 7, 3, 10, 0, zU), (52, .bipush 31, 2, 0, 0, .int (nI 31)), (54, .iconst 3, 1, 0, 0, .int (nI 3)), (55, .iload 5, 2, 5, 0, zU), (57, .imul, 1, 0, 0, zU), (58, .iadd, 1, 0, 0, zU), (59, .iaload, 1, 0, 0, zU), (60, .iload_n 3, 1, 3, 0, zU), (61, .if_icmp .lt 21, 3, 82, 0, zU), (64, .aload_n 0, 1, 0, 0, zU), (65, .getfield 7, 3, 10, 0, zU), (68, .bipush 31, 2, 0, 0, .int (nI 31)), (70, .iconst 3, 1, 0, 0, .int (nI 3)), (71, .iload 5, 2, 5, 0, zU), (73, .imul, 1, 0, 0, zU), (74, .iadd, 1, 0, 0, zU), (75, .iconst 1, 1, 0, 0, .int (nI 1)), (76, .iadd, 1, 0, 0, zU), (77, .iaload, 1, 0, 0, zU), (78, .iload_n 1, 1, 1, 0, zU), (79, .if_icmp .lt 7, 3, 86, 0, zU), (82, .iconst 1, 1, 0, 0, .int (nI 1)), (83, .goto 4, 3, 87, 0, zU), (86, .iconst 0, 1, 0, 0, .int (nI 0)), (87, .istore 4, 2, 4, 0, zU), (89, .iinc 5 1, 3, 5, 0, .int (nI 1)), (92, .goto (-61), 3, 31, 0, zU), (95, .iload_n 2, 1, 2, 0, zU), (96, .iload 4, 2, 4, 0, zU), (98, .invokestatic 196, 3, 41, 1, zU), (101, .iload_n 3, 1, 3, 0, zU), (102, .ishl, 1, 0, 0, zU), (103, .ior, 1, 0, 0, zU), (104, .istore_n 2, 1, 2, 0, zU), (105, .iinc 3 1, 3, 3, 0, .int (nI 1)), (108, .goto (-89), 3, 19, 0, zU), (111, .iload_n 2, 1, 2, 0, zU), (112, .ireturn, 1, 0, 0, zU)]
/-- Model.homeBy(II)I -/
def zc107 : List zE := [(0, .iload_n 1, 1, 1, 0, zU), (1, .i2l, 1, 0, 0, zU), (2, .lconst 0, 1, 0, 0, .long (lN 0)), (3, .ldc2_w 209, 3, 0, 0, .long (lN 60)), (6, .invokestatic 68, 3, 37, 3, zU), (9, .ifCond .eq 15, 3, 24, 0, zU), (12, .iload_n 2, 1, 2, 0, zU), (13, .i2l, 1, 0, 0, zU), (14, .lconst 0, 1, 0, 0, .long (lN 0)), (15, .ldc2_w 300, 3, 0, 0, .long (lN 100)), (18, .invokestatic 68, 3, 37, 3, zU), (21, .ifCond .ne 6, 3, 27, 0, zU), (24, .ldc 72, 2, 0, 0, .int ((-1000000002))), (26, .ireturn, 1, 0, 0, zU), (27, .ldc2_w 302, 3, 0, 0, .long (lN 1000000000)), (30, .lstore_n 3, 1, 3, 0, zU), (31, .iconst 0, 1, 0, 0, .int (nI 0)), (32, .istore 5, 2, 5, 0, zU), (34, .iload 5, 2, 5, 0, zU), (36, .iload_n 1, 1, 1, 0, zU), (37, .if_icmp .ge 21, 3, 58, 0, zU), (40, .lload_n 3, 1, 3, 0, zU), (41, .bipush 100, 2, 0, 0, .int (nI 100)), (43, .iload_n 2, 1, 2, 0, zU), (44, .isub, 1, 0, 0, zU), (45, .i2l, 1, 0, 0, zU), (46, .lmul, 1, 0, 0, zU), (47, .ldc2_w 300, 3, 0, 0, .long (lN 100)), (50, .ldiv, 1, 0, 0, zU), (51, .lstore_n 3, 1, 3, 0, zU), (52, .iinc 5 1, 3, 5, 0, .int (nI 1)), (55, .goto (-21), 3, 34, 0, zU), (58, .lload_n 3, 1, 3, 0, zU), (59, .l2i, 1, 0, 0, zU), (60, .ireturn, 1, 0, 0, zU)]
/-- Model.keep(I)I -/
def zc108 : List zE := [(0, .iload_n 1, 1, 1, 0, zU), (1, .i2l, 1, 0, 0, zU), (2, .lconst 0, 1, 0, 0, .long (lN 0)), (3, .lconst 1, 1, 0, 0, .long (lN 1)), (4, .invokestatic 68, 3, 37, 3, zU), (7, .ifCond .ne 6, 3, 13, 0, zU), (10, .ldc 216, 2, 0, 0, .int ((-1000000001))), (12, .ireturn, 1, 0, 0, zU), (13, .aload_n 0, 1, 0, 0, zU), (14, .iconst 0, 1, 0, 0, .int (nI 0)), (15, .sipush 184, 3, 0, 0, .int (nI 184)), (18, .bipush 92, 2, 0, 0, .int (nI 92)), (20, .iload_n 1, 1, 1, 0, zU), (21, .imul, 1, 0, 0, zU), (22, .iadd, 1, 0, 0, zU), (23, .invokevirtual 222, 3, 49, 2, .retAddr 10), (26, .aload_n 0, 1, 0, 0, zU), (27, .getfield 13, 3, 10, 1, zU), (30, .iload_n 1, 1, 1, 0, zU), (31, .iconst 1, 1, 0, 0, .int (nI 1)), (32, .bastore, 1, 0, 0, zU), (33, .aload_n 0, 1, 0, 0, zU), (34, .iconst 0, 1, 0, 0, .int (nI 0)), (35, .putfield 159, 3, 10, 22, zU), (38, .iconst 1, 1, 0, 0, .int (nI 1)), (39, .ireturn, 1, 0, 0, zU)]
/-- Model.goBack(I)I -/
def zc109 : List zE := [(0, .iload_n 1, 1, 1, 0, zU), (1, .i2l, 1, 0, 0, zU), (2, .lconst 0, 1, 0, 0, .long (lN 0)), (3, .lconst 1, 1, 0, 0, .long (lN 1)), (4, .invokestatic 68, 3, 37, 3, zU), (7, .ifCond .ne 6, 3, 13, 0, zU), (10, .ldc 216, 2, 0, 0, .int ((-1000000001))), (12, .ireturn, 1, 0, 0, zU), (13, .aload_n 0, 1, 0, 0, zU), (14, .getfield 13, 3, 10, 1, zU), (17, .iload_n 1, 1, 1, 0, zU), (18, .baload, 1, 0, 0, zU), (19, .ifCond .ne 6, 3, 25, 0, zU), (22, .ldc 211, 2, 0, 0, .int ((-1000000003))), (24, .ireturn, 1, 0, 0, zU), (25, .aload_n 0, 1, 0, 0, zU), (26, .sipush 184, 3, 0, 0, .int (nI 184)), (29, .bipush 92, 2, 0, 0, .int (nI 92)), (31, .iload_n 1, 1, 1, 0, zU), (32, .imul, 1, 0, 0, zU), (33, .iadd, 1, 0, 0, zU), (34, .iconst 0, 1, 0, 0, .int (nI 0)), (35, .invokevirtual 222, 3, 49, 2, .retAddr 10), (38, .aload_n 0, 1, 0, 0, zU), (39, .iconst 0, 1, 0, 0, .int (nI 0)), (40, .putfield 159, 3, 10, 22, zU), (43, .iconst 1, 1, 0, 0, .int (nI 1)), (44, .ireturn, 1, 0, 0, zU)]
/-- Notebook.fitting()I -/
def zc110 : List zE := [(0, .sipush 1023, 3, 0, 0, .int (nI 1023)), (3, .istore_n 1, 1, 1, 0, zU), (4, .iconst 0, 1, 0, 0, .int (nI 0)), (5, .istore_n 2, 1, 2, 0, zU), (6, .iload_n 2, 1, 2, 0, zU), (7, .bipush 9, 2, 0, 0, .int (nI 9)), (9, .if_icmp .gt 56, 3, 65, 0, zU), (12, .iconst 0, 1, 0, 0, .int (nI 0)), (13, .istore_n 3, 1, 3, 0, zU), (14, .iload_n 3, 1, 3, 0, zU), (15, .aload_n 0, 1, 0, 0, zU), (16, .getfield 18, 3, 4, 5, zU), (19, .if_icmp .ge 40, 3, 59, 0, zU), (22, .aload_n 0, 1, 0, 0, zU), (23, .getfield 42, 3, 4, 2, zU), (26, .aload_n 0, 1, 0, 0, zU), (27, .getfield 9, 3, 4, 3, zU), (30, .iload_n 3, 1, 3, 0, zU), (31, .iaload, 1, 0, 0, zU), (32, .iload_n 2, 1, 2, 0, zU), (33, .invokevirtual 51, 3, 69, 2, .retAddr 6), (36, .aload_n 0, 1, 0, 0, zU), (37, .getfield 15, 3, 4, 4, zU), (40, .iload_n 3, 1, 3, 0, zU), (41, .iaload, 1, 0, 0, zU), (42, .if_icmp .eq 11, 3, 53, 0, zU), (45, .iload_n 1, 1, 1, 0, zU), (46, .iconst 1, 1, 0, 0, .int (nI 1)), (47, .iload_n 2, 1, 2, 0, zU), (48, .ishl, 1, 0, 0, zU), (49, .iconst (-1), 1, 0, 0, .int ((-1))), (50, .ixor, 1, 0, 0, zU), (51, .iand, 1, 0, 0, zU), (52, .istore_n 1, 1, 1, 0, zU), (53, .iinc 3 1, 3, 3, 0, .int (nI 1)), (56, .goto (-42), 3, 14, 0, zU), (59, .iinc 2 1, 3, 2, 0, .int (nI 1)), (62, .goto (-56), 3, 6, 0, zU), (65, .iload_n 1, 1, 1, 0, zU), (66, .ireturn, 1, 0, 0, zU)]
/-- Notebook.greatestPart(II)I -/
def zc111 : List zE := [(0, .aload_n 0, 1, 0, 0, zU), (1, .getfield 31, 3, 4, 9, zU), (4, .iconst 0, 1, 0, 0, .int (nI 0)), (5, .invokestatic 75, 3, 58, 2, zU), (8, .iconst 0, 1, 0, 0, .int (nI 0)), (9, .istore_n 3, 1, 3, 0, zU), (10, .iconst 0, 1, 0, 0, .int (nI 0)), (11, .istore 4, 2, 4, 0, zU), (13, .iload 4, 2, 4, 0, zU), (15, .bipush 9, 2, 0, 0, .int (nI 9)), (17, .if_icmp .gt 53, 3, 70, 0, zU), (20, .iload_n 2, 1, 2, 0, zU), (21, .iload 4, 2, 4, 0, zU), (23, .invokestatic 81, 3, 36, 2, zU), (26, .ifCond .eq 38, 3, 64, 0, zU), (29, .aload_n 0, 1, 0, 0, zU), (30, .getfield 42, 3, 4, 2, zU), (33, .iload_n 1, 1, 1, 0, zU), (34, .iload 4, 2, 4, 0, zU), (36, .invokevirtual 51, 3, 69, 2, .retAddr 6), (39, .istore 5, 2, 5, 0, zU), (41, .aload_n 0, 1, 0, 0, zU), (42, .getfield 31, 3, 4, 9, zU), (45, .iload 5, 2, 5, 0, zU), (47, .dup2, 1, 0, 0, zU), (48, .iaload, 1, 0, 0, zU), (49, .iconst 1, 1, 0, 0, .int (nI 1)), (50, .iadd, 1, 0, 0, zU), (51, .iastore, 1, 0, 0, zU), (52, .iload_n 3, 1, 3, 0, zU), (53, .aload_n 0, 1, 0, 0, zU), (54, .getfield 31, 3, 4, 9, zU), (57, .iload 5, 2, 5, 0, zU), (59, .iaload, 1, 0, 0, zU), (60, .invokestatic 85, 3, 9001, 2, zU), (63, .istore_n 3, 1, 3, 0, zU), (64, .iinc 4 1, 3, 4, 0, .int (nI 1)), (67, .goto (-54), 3, 13, 0, zU), (70, .iload_n 3, 1, 3, 0, zU), (71, .ireturn, 1, 0, 0, zU)]
/-- Reader.readWeathers(LGladGlasses$Coast;)V -/
def zc112 : List zE := [(0, .iconst 0, 1, 0, 0, .int (nI 0)), (1, .istore_n 2, 1, 2, 0, zU), (2, .iload_n 2, 1, 2, 0, zU), (3, .bipush 12, 2, 0, 0, .int (nI 12)), (5, .if_icmp .ge 62, 3, 67, 0, zU), (8, .aload_n 0, 1, 0, 0, zU), (9, .bipush 9, 2, 0, 0, .int (nI 9)), (11, .invokevirtual 77, 3, 66, 1, .retAddr 5), (14, .istore_n 3, 1, 3, 0, zU), (15, .aload_n 0, 1, 0, 0, zU), (16, .getfield 22, 3, 5, 3, zU), (19, .ifCond .eq 4, 3, 23, 0, zU), (22, .return_, 1, 0, 0, zU), (23, .aload_n 1, 1, 1, 0, zU), (24, .iload_n 3, 1, 3, 0, zU), (25, .invokevirtual 81, 3, 2, 1, .retAddr 0), (28, .aload_n 0, 1, 0, 0, zU), (29, .invokevirtual 33, 3, 19, 0, .retAddr 5), (32, .bipush 44, 2, 0, 0, .int (nI 44)), (34, .if_icmp .ne 12, 3, 46, 0, zU), (37, .aload_n 1, 1, 1, 0, zU), (38, .getfield 41, 3, 0, 0, zU), (41, .bipush 12, 2, 0, 0, .int (nI 12)), (43, .if_icmp .lt 8, 3, 51, 0, zU), (46, .aload_n 0, 1, 0, 0, zU), (47, .invokevirtual 85, 3, 67, 0, .retAddr 5), (50, .return_, 1, 0, 0, zU), (51, .aload_n 0, 1, 0, 0, zU), (52, .dup, 1, 0, 0, zU), (53, .getfield 19, 3, 5, 2, zU), (56, .iconst 1, 1, 0, 0, .int (nI 1)), (57, .iadd, 1, 0, 0, zU), (58, .putfield 19, 3, 5, 2, zU), (61, .iinc 2 1, 3, 2, 0, .int (nI 1)), (64, .goto (-62), 3, 2, 0, zU), (67, .return_, 1, 0, 0, zU)]
/-- Reader.readGlass(LGladGlasses$Coast;)V -/
def zc113 : List zE := [(0, .aload_n 0, 1, 0, 0, zU), (1, .bipush 10, 2, 0, 0, .int (nI 10)), (3, .invokevirtual 77, 3, 66, 1, .retAddr 5), (6, .istore_n 2, 1, 2, 0, zU), (7, .aload_n 0, 1, 0, 0, zU), (8, .bipush 9, 2, 0, 0, .int (nI 9)), (10, .invokevirtual 77, 3, 66, 1, .retAddr 5), (13, .istore_n 3, 1, 3, 0, zU), (14, .aload_n 0, 1, 0, 0, zU), (15, .invokevirtual 85, 3, 67, 0, .retAddr 5), (18, .aload_n 0, 1, 0, 0, zU), (19, .getfield 22, 3, 5, 3, zU), (22, .ifCond .ne 9, 3, 31, 0, zU), (25, .aload_n 1, 1, 1, 0, zU), (26, .iload_n 2, 1, 2, 0, zU), (27, .iload_n 3, 1, 3, 0, zU), (28, .invokevirtual 88, 3, 3, 2, .retAddr 0), (31, .return_, 1, 0, 0, zU)]
/-- Reader.readBoat(LGladGlasses$Coast;)V -/
def zc114 : List zE := [(0, .aload_n 0, 1, 0, 0, zU), (1, .bipush 9, 2, 0, 0, .int (nI 9)), (3, .invokevirtual 77, 3, 66, 1, .retAddr 5), (6, .istore_n 2, 1, 2, 0, zU), (7, .aload_n 0, 1, 0, 0, zU), (8, .bipush 9, 2, 0, 0, .int (nI 9)), (10, .invokevirtual 77, 3, 66, 1, .retAddr 5), (13, .istore_n 3, 1, 3, 0, zU), (14, .aload_n 0, 1, 0, 0, zU), (15, .invokevirtual 85, 3, 67, 0, .retAddr 5), (18, .aload_n 0, 1, 0, 0, zU), (19, .getfield 22, 3, 5, 3, zU), (22, .ifCond .ne 9, 3, 31, 0, zU), (25, .aload_n 1, 1, 1, 0, zU), (26, .iload_n 2, 1, 2, 0, zU), (27, .iload_n 3, 1, 3, 0, zU), (28, .invokevirtual 91, 3, 4, 2, .retAddr 0), (31, .return_, 1, 0, 0, zU)]
/-- Reader.readDrinks(LGladGlasses$Coast;)V -/
def zc115 : List zE := [(0, .aload_n 0, 1, 0, 0, zU), (1, .bipush 20, 2, 0, 0, .int (nI 20)), (3, .invokevirtual 77, 3, 66, 1, .retAddr 5), (6, .istore_n 2, 1, 2, 0, zU), (7, .aload_n 0, 1, 0, 0, zU), (8, .invokevirtual 85, 3, 67, 0, .retAddr 5), (11, .aload_n 0, 1, 0, 0, zU), (12, .getfield 22, 3, 5, 3, zU), (15, .ifCond .ne 8, 3, 23, 0, zU), (18, .aload_n 1, 1, 1, 0, zU), (19, .iload_n 2, 1, 2, 0, zU), (20, .invokevirtual 94, 3, 5, 1, .retAddr 0), (23, .return_, 1, 0, 0, zU)]
/-- Row.telling(I)I -/
def zc116 : List zE := [(0, .iconst 0, 1, 0, 0, .int (nI 0)), (1, .istore_n 2, 1, 2, 0, zU), (2, .iconst 0, 1, 0, 0, .int (nI 0)), (3, .istore_n 3, 1, 3, 0, zU), (4, .iconst 0, 1, 0, 0, .int (nI 0)), (5, .istore 4, 2, 4, 0, zU), (7, .iload 4, 2, 4, 0, zU), (9, .aload_n 0, 1, 0, 0, zU), (10, .getfield 9, 3, 6, 0, zU), (13, .getfield 57, 3, 0, 1, zU), (16, .if_icmp .ge 43, 3, 59, 0, zU), (19, .iload_n 2, 1, 2, 0, zU), (20, .aload_n 0, 1, 0, 0, zU), (21, .getfield 15, 3, 6, 1, zU), (24, .getfield 60, 3, 7, 5, zU), (27, .iload 4, 2, 4, 0, zU), (29, .iaload, 1, 0, 0, zU), (30, .aload_n 0, 1, 0, 0, zU), (31, .iload 4, 2, 4, 0, zU), (33, .iload_n 1, 1, 1, 0, zU), (34, .invokevirtual 63, 3, 68, 2, .retAddr 6), (37, .imul, 1, 0, 0, zU), (38, .iadd, 1, 0, 0, zU), (39, .istore_n 2, 1, 2, 0, zU), (40, .iload_n 3, 1, 3, 0, zU), (41, .aload_n 0, 1, 0, 0, zU), (42, .getfield 15, 3, 6, 1, zU), (45, .getfield 60, 3, 7, 5, zU), (48, .iload 4, 2, 4, 0, zU), (50, .iaload, 1, 0, 0, zU), (51, .iadd, 1, 0, 0, zU), (52, .istore_n 3, 1, 3, 0, zU), (53, .iinc 4 1, 3, 4, 0, .int (nI 1)), (56, .goto (-49), 3, 7, 0, zU), (59, .iload_n 2, 1, 2, 0, zU), (60, .iload_n 3, 1, 3, 0, zU), (61, .invokestatic 66, 3, 23, 2, zU), (64, .ireturn, 1, 0, 0, zU)]
/-- Row.falseSet()I -/
def zc117 : List zE := [(0, .aload_n 0, 1, 0, 0, zU), (1, .iconst 1, 1, 0, 0, .int (nI 1)), (2, .invokevirtual 34, 3, 21, 1, .retAddr 6), (5, .istore_n 1, 1, 1, 0, zU), (6, .iconst 0, 1, 0, 0, .int (nI 0)), (7, .istore_n 2, 1, 2, 0, zU), (8, .iconst 0, 1, 0, 0, .int (nI 0)), (9, .istore_n 3, 1, 3, 0, zU), (10, .iload_n 3, 1, 3, 0, zU), (11, .aload_n 0, 1, 0, 0, zU), (12, .getfield 9, 3, 6, 0, zU), (15, .getfield 57, 3, 0, 1, zU), (18, .if_icmp .ge 39, 3, 57, 0, zU), (21, .aload_n 0, 1, 0, 0, zU), (22, .iload_n 3, 1, 3, 0, zU), (23, .iconst 0, 1, 0, 0, .int (nI 0)), (24, .invokevirtual 63, 3, 68, 2, .retAddr 6), (27, .iload_n 1, 1, 1, 0, zU), (28, .aload_n 0, 1, 0, 0, zU), (29, .getfield 15, 3, 6, 1, zU), (32, .getfield 38, 3, 7, 4, zU), (35, .iload_n 3, 1, 3, 0, zU), (36, .iaload, 1, 0, 0, zU), (37, .iadd, 1, 0, 0, zU), (38, .iconst 0, 1, 0, 0, .int (nI 0)), (39, .invokestatic 44, 3, 22, 2, zU), (42, .if_icmp .eq 9, 3, 51, 0, zU), (45, .iload_n 2, 1, 2, 0, zU), (46, .iconst 1, 1, 0, 0, .int (nI 1)), (47, .iload_n 3, 1, 3, 0, zU), (48, .ishl, 1, 0, 0, zU), (49, .ior, 1, 0, 0, zU), (50, .istore_n 2, 1, 2, 0, zU), (51, .iinc 3 1, 3, 3, 0, .int (nI 1)), (54, .goto (-44), 3, 10, 0, zU), (57, .iload_n 2, 1, 2, 0, zU), (58, .ireturn, 1, 0, 0, zU)]
/-- Row.apart(II)I -/
def zc118 : List zE := [(0, .aload_n 0, 1, 0, 0, zU), (1, .iload_n 1, 1, 1, 0, zU), (2, .iconst 0, 1, 0, 0, .int (nI 0)), (3, .invokevirtual 63, 3, 68, 2, .retAddr 6), (6, .aload_n 0, 1, 0, 0, zU), (7, .iload_n 2, 1, 2, 0, zU), (8, .iconst 0, 1, 0, 0, .int (nI 0)), (9, .invokevirtual 63, 3, 68, 2, .retAddr 6), (12, .isub, 1, 0, 0, zU), (13, .invokestatic 69, 3, 9003, 1, zU), (16, .ireturn, 1, 0, 0, zU)]
/-- Tuning.glassError(I)I -/
def zc119 : List zE := [(0, .iconst 0, 1, 0, 0, .int (nI 0)), (1, .istore_n 2, 1, 2, 0, zU), (2, .iconst 0, 1, 0, 0, .int (nI 0)), (3, .istore_n 3, 1, 3, 0, zU), (4, .iload_n 3, 1, 3, 0, zU), (5, .bipush 12, 2, 0, 0, .int (nI 12)), (7, .if_icmp .ge 35, 3, 42, 0, zU), (10, .iload_n 2, 1, 2, 0, zU), (11, .aload_n 0, 1, 0, 0, zU), (12, .getfield 48, 3, 8, 2, zU), (15, .iload_n 1, 1, 1, 0, zU), (16, .iload_n 3, 1, 3, 0, zU), (17, .invokevirtual 52, 3, 68, 2, .retAddr 6), (20, .aload_n 0, 1, 0, 0, zU), (21, .getfield 48, 3, 8, 2, zU), (24, .iload_n 3, 1, 3, 0, zU), (25, .iconst 1, 1, 0, 0, .int (nI 1)), (26, .iadd, 1, 0, 0, zU), (27, .invokevirtual 58, 3, 21, 1, .retAddr 6), (30, .isub, 1, 0, 0, zU), (31, .invokestatic 62, 3, 9003, 1, zU), (34, .iadd, 1, 0, 0, zU), (35, .istore_n 2, 1, 2, 0, zU), (36, .iinc 3 1, 3, 3, 0, .int (nI 1)), (39, .goto (-35), 3, 4, 0, zU), (42, .iload_n 2, 1, 2, 0, zU), (43, .ireturn, 1, 0, 0, zU)]
/-- Tuning.startWeighing()V -/
def zc120 : List zE := [(0, .aload_n 0, 1, 0, 0, zU), (1, .getfield 21, 3, 8, 6, zU), (4, .iconst 0, 1, 0, 0, .int (nI 0)), (5, .invokestatic 95, 3, 58, 2, zU), (8, .aload_n 0, 1, 0, 0, zU), (9, .getfield 18, 3, 8, 5, zU), (12, .iconst 0, 1, 0, 0, .int (nI 0)), (13, .invokestatic 95, 3, 58, 2, zU), (16, .aload_n 0, 1, 0, 0, zU), (17, .iconst 0, 1, 0, 0, .int (nI 0)), (18, .putfield 27, 3, 8, 8, zU), (21, .iconst 0, 1, 0, 0, .int (nI 0)), (22, .istore_n 1, 1, 1, 0, zU), (23, .iload_n 1, 1, 1, 0, zU), (24, .bipush 12, 2, 0, 0, .int (nI 12)), (26, .if_icmp .ge 64, 3, 90, 0, zU), (29, .aload_n 0, 1, 0, 0, zU), (30, .getfield 15, 3, 8, 4, zU), (33, .iload_n 1, 1, 1, 0, zU), (34, .aload_n 0, 1, 0, 0, zU), (35, .getfield 48, 3, 8, 2, zU), (38, .iload_n 1, 1, 1, 0, zU), (39, .iconst 1, 1, 0, 0, .int (nI 1)), (40, .iadd, 1, 0, 0, zU), (41, .invokevirtual 58, 3, 21, 1, .retAddr 6), (44, .iastore, 1, 0, 0, zU), (45, .iconst 0, 1, 0, 0, .int (nI 0)), (46, .istore_n 2, 1, 2, 0, zU), (47, .iload_n 2, 1, 2, 0, zU), (48, .aload_n 0, 1, 0, 0, zU), (49, .getfield 40, 3, 8, 0, zU), (52, .getfield 71, 3, 0, 1, zU), (55, .if_icmp .ge 29, 3, 84, 0, zU), (58, .aload_n 0, 1, 0, 0, zU), (59, .getfield 9, 3, 8, 3, zU), (62, .iload_n 2, 1, 2, 0, zU), (63, .bipush 12, 2, 0, 0, .int (nI 12)), (65, .imul, 1, 0, 0, zU), (66, .iload_n 1, 1, 1, 0, zU), (67, .iadd, 1, 0, 0, zU), (68, .aload_n 0, 1, 0, 0, zU), (69, .getfield 48, 3, 8, 2, zU), (72, .iload_n 2, 1, 2, 0, zU), (73, .iload_n 1, 1, 1, 0, zU), (74, .invokevirtual 52, 3, 68, 2, .retAddr 6), (77, .iastore, 1, 0, 0, zU), (78, .iinc 2 1, 3, 2, 0, .int (nI 1)), (81, .goto (-34), 3, 47, 0, zU), (84, .iinc 1 1, 3, 1, 0, .int (nI 1)), (87, .goto (-64), 3, 23, 0, zU), (90, .return_, 1, 0, 0, zU)]
/-- Tuning.fewestSteps(I)I -/
def zc121 : List zE := [(0, .aload_n 0, 1, 0, 0, zU), (1, .getfield 34, 3, 8, 10, zU), (4, .ldc 70, 2, 0, 0, .int (nI 1000000)), (6, .invokestatic 95, 3, 58, 2, zU), (9, .aload_n 0, 1, 0, 0, zU), (10, .getfield 34, 3, 8, 10, zU), (13, .iconst 0, 1, 0, 0, .int (nI 0)), (14, .iconst 0, 1, 0, 0, .int (nI 0)), (15, .iastore, 1, 0, 0, zU), (16, .iconst 0, 1, 0, 0, .int (nI 0)), (17, .istore_n 2, 1, 2, 0, zU), (18, .iconst 0, 1, 0, 0, .int (nI 0)), (19, .istore_n 3, 1, 3, 0, zU), (20, .iload_n 3, 1, 3, 0, zU), (21, .aload_n 0, 1, 0, 0, zU), (22, .getfield 40, 3, 8, 0, zU), (25, .getfield 71, 3, 0, 1, zU), (28, .if_icmp .ge 55, 3, 83, 0, zU), (31, .aload_n 0, 1, 0, 0, zU), (32, .getfield 44, 3, 8, 1, zU), (35, .getfield 108, 3, 7, 5, zU), (38, .iload_n 3, 1, 3, 0, zU), (39, .iaload, 1, 0, 0, zU), (40, .ifCond .le 37, 3, 77, 0, zU), (43, .aload_n 0, 1, 0, 0, zU), (44, .iload_n 3, 1, 3, 0, zU), (45, .invokevirtual 113, 3, 74, 1, .retAddr 8), (48, .aload_n 0, 1, 0, 0, zU), (49, .iload_n 2, 1, 2, 0, zU), (50, .bipush 9, 2, 0, 0, .int (nI 9)), (52, .imul, 1, 0, 0, zU), (53, .aload_n 0, 1, 0, 0, zU), (54, .getfield 44, 3, 8, 1, zU), (57, .getfield 108, 3, 7, 5, zU), (60, .iload_n 3, 1, 3, 0, zU), (61, .iaload, 1, 0, 0, zU), (62, .invokevirtual 117, 3, 75, 2, .retAddr 8), (65, .iload_n 2, 1, 2, 0, zU), (66, .aload_n 0, 1, 0, 0, zU), (67, .getfield 44, 3, 8, 1, zU), (70, .getfield 108, 3, 7, 5, zU), (73, .iload_n 3, 1, 3, 0, zU), (74, .iaload, 1, 0, 0, zU), (75, .iadd, 1, 0, 0, zU), (76, .istore_n 2, 1, 2, 0, zU), (77, .iinc 3 1, 3, 3, 0, .int (nI 1)), (80, .goto (-60), 3, 20, 0, zU), (83, .iload_n 2, 1, 2, 0, zU), (84, .ifCond .ne 14, 3, 98, 0, zU), (87, .iload_n 1, 1, 1, 0, zU), (88, .iconst 5, 1, 0, 0, .int (nI 5)), (89, .if_icmp .ne 7, 3, 96, 0, zU), (92, .iconst 0, 1, 0, 0, .int (nI 0)), (93, .goto 4, 3, 97, 0, zU), (96, .iconst (-1), 1, 0, 0, .int ((-1))), (97, .ireturn, 1, 0, 0, zU), (98, .ldc 70, 2, 0, 0, .int (nI 1000000)), (100, .istore_n 3, 1, 3, 0, zU), (101, .iload_n 1, 1, 1, 0, zU), (102, .iload_n 2, 1, 2, 0, zU), (103, .imul, 1, 0, 0, zU), (104, .istore 4, 2, 4, 0, zU), (106, .iload 4, 2, 4, 0, zU), (108, .iload_n 1, 1, 1, 0, zU), (109, .iconst 1, 1, 0, 0, .int (nI 1)), (110, .iadd, 1, 0, 0, zU), (111, .iload_n 2, 1, 2, 0, zU), (112, .imul, 1, 0, 0, zU), (113, .if_icmp .ge 29, 3, 142, 0, zU), (116, .iload 4, 2, 4, 0, zU), (118, .sipush 567, 3, 0, 0, .int (nI 567)), (121, .if_icmp .gt 21, 3, 142, 0, zU), (124, .iload_n 3, 1, 3, 0, zU), (125, .aload_n 0, 1, 0, 0, zU), (126, .getfield 34, 3, 8, 10, zU), (129, .iload 4, 2, 4, 0, zU), (131, .iaload, 1, 0, 0, zU), (132, .invokestatic 120, 3, 9002, 2, zU), (135, .istore_n 3, 1, 3, 0, zU), (136, .iinc 4 1, 3, 4, 0, .int (nI 1)), (139, .goto (-33), 3, 106, 0, zU), (142, .iload_n 3, 1, 3, 0, zU), (143, .ldc 70, 2, 0, 0, .int (nI 1000000)), (145, .if_icmp .ge 7, 3, 152, 0, zU), (148, .iload_n 3, 1, 3, 0, zU), (149, .goto 4, 3, 153, 0, zU), (152, .iconst (-1), 1, 0, 0, .int ((-1))), (153, .ireturn, 1, 0, 0, zU)]
/-- GG.weather(I)I -/
def zc122 : List zE := [(0, .aload_n 0, 1, 0, 0, zU), (1, .iload_n 1, 1, 1, 0, zU), (2, .invokevirtual 168, 3, 86, 1, .retAddr 9), (5, .istore_n 2, 1, 2, 0, zU), (6, .iload_n 2, 1, 2, 0, zU), (7, .ifCond .eq 7, 3, 14, 0, zU), (10, .iload_n 2, 1, 2, 0, zU), (11, .goto 11, 3, 22, 0, zU), (14, .aload_n 0, 1, 0, 0, zU), (15, .getfield 38, 3, 9, 4, zU), (18, .iload_n 1, 1, 1, 0, zU), (19, .invokevirtual 171, 3, 21, 1, .retAddr 6), (22, .ireturn, 1, 0, 0, zU)]
/-- GG.glass(II)I -/
def zc123 : List zE := [(0, .aload_n 0, 1, 0, 0, zU), (1, .iload_n 1, 1, 1, 0, zU), (2, .invokevirtual 174, 3, 84, 1, .retAddr 9), (5, .ifCond .eq 6, 3, 11, 0, zU), (8, .ldc 177, 2, 0, 0, .int ((-1000000001))), (10, .ireturn, 1, 0, 0, zU), (11, .iload_n 2, 1, 2, 0, zU), (12, .tableswitch 72 0 3 #[32, 42, 52, 62], 32, 0, 0, zU), (44, .aload_n 0, 1, 0, 0, zU), (45, .getfield 29, 3, 9, 3, zU), (48, .getfield 178, 3, 7, 4, zU), (51, .iload_n 1, 1, 1, 0, zU), (52, .iaload, 1, 0, 0, zU), (53, .ireturn, 1, 0, 0, zU), (54, .aload_n 0, 1, 0, 0, zU), (55, .getfield 29, 3, 9, 3, zU), (58, .getfield 182, 3, 7, 5, zU), (61, .iload_n 1, 1, 1, 0, zU), (62, .iaload, 1, 0, 0, zU), (63, .ireturn, 1, 0, 0, zU), (64, .aload_n 0, 1, 0, 0, zU), (65, .getfield 38, 3, 9, 4, zU), (68, .iload_n 1, 1, 1, 0, zU), (69, .iconst 0, 1, 0, 0, .int (nI 0)), (70, .invokevirtual 185, 3, 68, 2, .retAddr 6), (73, .ireturn, 1, 0, 0, zU), (74, .aload_n 0, 1, 0, 0, zU), (75, .getfield 29, 3, 9, 3, zU), (78, .getfield 189, 3, 7, 6, zU), (81, .iload_n 1, 1, 1, 0, zU), (82, .iaload, 1, 0, 0, zU), (83, .ireturn, 1, 0, 0, zU), (84, .ldc 87, 2, 0, 0, .int ((-1000000002))), (86, .ireturn, 1, 0, 0, zU)]
/-- GG.boat(II)I -/
def zc124 : List zE := [(0, .aload_n 0, 1, 0, 0, zU), (1, .iload_n 1, 1, 1, 0, zU), (2, .invokevirtual 192, 3, 85, 1, .retAddr 9), (5, .ifCond .eq 6, 3, 11, 0, zU), (8, .ldc 177, 2, 0, 0, .int ((-1000000001))), (10, .ireturn, 1, 0, 0, zU), (11, .iload_n 2, 1, 2, 0, zU), (12, .tableswitch 106 0 4 #[36, 46, 56, 76, 96], 36, 0, 0, zU), (48, .aload_n 0, 1, 0, 0, zU), (49, .getfield 23, 3, 9, 2, zU), (52, .getfield 195, 3, 0, 8, zU), (55, .iload_n 1, 1, 1, 0, zU), (56, .iaload, 1, 0, 0, zU), (57, .ireturn, 1, 0, 0, zU), (58, .aload_n 0, 1, 0, 0, zU), (59, .getfield 23, 3, 9, 2, zU), (62, .getfield 198, 3, 0, 9, zU), (65, .iload_n 1, 1, 1, 0, zU), (66, .iaload, 1, 0, 0, zU), (67, .ireturn, 1, 0, 0, zU), (68, .aload_n 0, 1, 0, 0, zU), (69, .getfield 29, 3, 9, 3, zU), (72, .getfield 144, 3, 7, 2, zU), (75, .iload_n 1, 1, 1, 0, zU), (76, .invokestatic 201, 3, 36, 2, zU), (79, .ifCond .eq 7, 3, 86, 0, zU), (82, .iconst 0, 1, 0, 0, .int (nI 0)), (83, .goto 4, 3, 87, 0, zU), (86, .iconst 1, 1, 0, 0, .int (nI 1)), (87, .ireturn, 1, 0, 0, zU), (88, .aload_n 0, 1, 0, 0, zU), (89, .getfield 29, 3, 9, 3, zU), (92, .getfield 147, 3, 7, 3, zU), (95, .iload_n 1, 1, 1, 0, zU), (96, .invokestatic 201, 3, 36, 2, zU), (99, .ifCond .eq 7, 3, 106, 0, zU), (102, .iconst 1, 1, 0, 0, .int (nI 1)), (103, .goto 4, 3, 107, 0, zU), (106, .iconst 0, 1, 0, 0, .int (nI 0)), (107, .ireturn, 1, 0, 0, zU), (108, .aload_n 0, 1, 0, 0, zU), (109, .getfield 29, 3, 9, 3, zU), (112, .getfield 205, 3, 7, 7, zU), (115, .iload_n 1, 1, 1, 0, zU), (116, .iaload, 1, 0, 0, zU), (117, .ireturn, 1, 0, 0, zU), (118, .ldc 87, 2, 0, 0, .int ((-1000000002))), (120, .ireturn, 1, 0, 0, zU)]
/-- GG.drink(I)I -/
def zc125 : List zE := [(0, .aload_n 0, 1, 0, 0, zU), (1, .iload_n 1, 1, 1, 0, zU), (2, .invokevirtual 174, 3, 84, 1, .retAddr 9), (5, .ifCond .eq 6, 3, 11, 0, zU), (8, .ldc 177, 2, 0, 0, .int ((-1000000001))), (10, .ireturn, 1, 0, 0, zU), (11, .aload_n 0, 1, 0, 0, zU), (12, .getfield 29, 3, 9, 3, zU), (15, .getfield 137, 3, 7, 1, zU), (18, .ifCond .le 17, 3, 35, 0, zU), (21, .aload_n 0, 1, 0, 0, zU), (22, .getfield 29, 3, 9, 3, zU), (25, .getfield 178, 3, 7, 4, zU), (28, .iload_n 1, 1, 1, 0, zU), (29, .iaload, 1, 0, 0, zU), (30, .bipush 10, 2, 0, 0, .int (nI 10)), (32, .if_icmp .lt 6, 3, 38, 0, zU), (35, .ldc 224, 2, 0, 0, .int ((-1000000003))), (37, .ireturn, 1, 0, 0, zU), (38, .aload_n 0, 1, 0, 0, zU), (39, .getfield 68, 3, 9, 8, zU), (42, .aload_n 0, 1, 0, 0, zU), (43, .getfield 29, 3, 9, 3, zU), (46, .invokevirtual 214, 3, 59, 1, .retAddr 1), (49, .aload_n 0, 1, 0, 0, zU), (50, .getfield 29, 3, 9, 3, zU), (53, .dup, 1, 0, 0, zU), (54, .getfield 137, 3, 7, 1, zU), (57, .iconst 1, 1, 0, 0, .int (nI 1)), (58, .isub, 1, 0, 0, zU), (59, .putfield 137, 3, 7, 1, zU), (62, .aload_n 0, 1, 0, 0, zU), (63, .getfield 29, 3, 9, 3, zU), (66, .getfield 178, 3, 7, 4, zU), (69, .iload_n 1, 1, 1, 0, zU), (70, .dup2, 1, 0, 0, zU), (71, .iaload, 1, 0, 0, zU), (72, .iconst 1, 1, 0, 0, .int (nI 1)), (73, .iadd, 1, 0, 0, zU), (74, .iastore, 1, 0, 0, zU), (75, .aload_n 0, 1, 0, 0, zU), (76, .getfield 29, 3, 9, 3, zU), (79, .getfield 178, 3, 7, 4, zU), (82, .iload_n 1, 1, 1, 0, zU), (83, .iaload, 1, 0, 0, zU), (84, .ireturn, 1, 0, 0, zU)]
/-- GG.keepFrom(I)I -/
def zc126 : List zE := [(0, .aload_n 0, 1, 0, 0, zU), (1, .iload_n 1, 1, 1, 0, zU), (2, .invokevirtual 174, 3, 84, 1, .retAddr 9), (5, .ifCond .eq 6, 3, 11, 0, zU), (8, .ldc 177, 2, 0, 0, .int ((-1000000001))), (10, .ireturn, 1, 0, 0, zU), (11, .aload_n 0, 1, 0, 0, zU), (12, .getfield 29, 3, 9, 3, zU), (15, .getfield 178, 3, 7, 4, zU), (18, .iload_n 1, 1, 1, 0, zU), (19, .iaload, 1, 0, 0, zU), (20, .ifCond .gt 6, 3, 26, 0, zU), (23, .ldc 224, 2, 0, 0, .int ((-1000000003))), (25, .ireturn, 1, 0, 0, zU), (26, .aload_n 0, 1, 0, 0, zU), (27, .getfield 68, 3, 9, 8, zU), (30, .aload_n 0, 1, 0, 0, zU), (31, .getfield 29, 3, 9, 3, zU), (34, .invokevirtual 214, 3, 59, 1, .retAddr 1), (37, .aload_n 0, 1, 0, 0, zU), (38, .getfield 29, 3, 9, 3, zU), (41, .getfield 178, 3, 7, 4, zU), (44, .iload_n 1, 1, 1, 0, zU), (45, .dup2, 1, 0, 0, zU), (46, .iaload, 1, 0, 0, zU), (47, .iconst 1, 1, 0, 0, .int (nI 1)), (48, .isub, 1, 0, 0, zU), (49, .iastore, 1, 0, 0, zU), (50, .aload_n 0, 1, 0, 0, zU), (51, .getfield 29, 3, 9, 3, zU), (54, .getfield 178, 3, 7, 4, zU), (57, .iload_n 1, 1, 1, 0, zU), (58, .iaload, 1, 0, 0, zU), (59, .ireturn, 1, 0, 0, zU)]
/-- GG.glad(II)I -/
def zc127 : List zE := [(0, .aload_n 0, 1, 0, 0, zU), (1, .iload_n 1, 1, 1, 0, zU), (2, .invokevirtual 174, 3, 84, 1, .retAddr 9), (5, .ifCond .eq 6, 3, 11, 0, zU), (8, .ldc 177, 2, 0, 0, .int ((-1000000001))), (10, .ireturn, 1, 0, 0, zU), (11, .iload_n 2, 1, 2, 0, zU), (12, .iconst 0, 1, 0, 0, .int (nI 0)), (13, .bipush 60, 2, 0, 0, .int (nI 60)), (15, .invokestatic 83, 3, 35, 3, zU), (18, .ifCond .eq 6, 3, 24, 0, zU), (21, .ldc 87, 2, 0, 0, .int ((-1000000002))), (23, .ireturn, 1, 0, 0, zU), (24, .aload_n 0, 1, 0, 0, zU), (25, .getfield 68, 3, 9, 8, zU), (28, .aload_n 0, 1, 0, 0, zU), (29, .getfield 29, 3, 9, 3, zU), (32, .invokevirtual 214, 3, 59, 1, .retAddr 1), (35, .aload_n 0, 1, 0, 0, zU), (36, .getfield 29, 3, 9, 3, zU), (39, .getfield 189, 3, 7, 6, zU), (42, .iload_n 1, 1, 1, 0, zU), (43, .iaload, 1, 0, 0, zU), (44, .istore_n 3, 1, 3, 0, zU), (45, .aload_n 0, 1, 0, 0, zU), (46, .getfield 29, 3, 9, 3, zU), (49, .getfield 189, 3, 7, 6, zU), (52, .iload_n 1, 1, 1, 0, zU), (53, .iload_n 2, 1, 2, 0, zU), (54, .iastore, 1, 0, 0, zU), (55, .iload_n 3, 1, 3, 0, zU), (56, .ireturn, 1, 0, 0, zU)]
/-- GG.weigh(II)I -/
def zc128 : List zE := [(0, .aload_n 0, 1, 0, 0, zU), (1, .iload_n 1, 1, 1, 0, zU), (2, .invokevirtual 174, 3, 84, 1, .retAddr 9), (5, .ifCond .eq 6, 3, 11, 0, zU), (8, .ldc 177, 2, 0, 0, .int ((-1000000001))), (10, .ireturn, 1, 0, 0, zU), (11, .iload_n 2, 1, 2, 0, zU), (12, .iconst 0, 1, 0, 0, .int (nI 0)), (13, .bipush 9, 2, 0, 0, .int (nI 9)), (15, .invokestatic 83, 3, 35, 3, zU), (18, .ifCond .eq 6, 3, 24, 0, zU), (21, .ldc 87, 2, 0, 0, .int ((-1000000002))), (23, .ireturn, 1, 0, 0, zU), (24, .aload_n 0, 1, 0, 0, zU), (25, .getfield 68, 3, 9, 8, zU), (28, .aload_n 0, 1, 0, 0, zU), (29, .getfield 29, 3, 9, 3, zU), (32, .invokevirtual 214, 3, 59, 1, .retAddr 1), (35, .aload_n 0, 1, 0, 0, zU), (36, .getfield 29, 3, 9, 3, zU), (39, .getfield 182, 3, 7, 5, zU), (42, .iload_n 1, 1, 1, 0, zU), (43, .iaload, 1, 0, 0, zU), (44, .istore_n 3, 1, 3, 0, zU), (45, .aload_n 0, 1, 0, 0, zU), (46, .getfield 29, 3, 9, 3, zU), (49, .getfield 182, 3, 7, 5, zU), (52, .iload_n 1, 1, 1, 0, zU), (53, .iload_n 2, 1, 2, 0, zU), (54, .iastore, 1, 0, 0, zU), (55, .iload_n 3, 1, 3, 0, zU), (56, .ireturn, 1, 0, 0, zU)]
/-- GG.hold(IZ)I -/
def zc129 : List zE := [(0, .aload_n 0, 1, 0, 0, zU), (1, .iload_n 1, 1, 1, 0, zU), (2, .invokevirtual 192, 3, 85, 1, .retAddr 9), (5, .ifCond .eq 6, 3, 11, 0, zU), (8, .ldc 177, 2, 0, 0, .int ((-1000000001))), (10, .ireturn, 1, 0, 0, zU), (11, .aload_n 0, 1, 0, 0, zU), (12, .getfield 68, 3, 9, 8, zU), (15, .aload_n 0, 1, 0, 0, zU), (16, .getfield 29, 3, 9, 3, zU), (19, .invokevirtual 214, 3, 59, 1, .retAddr 1), (22, .aload_n 0, 1, 0, 0, zU), (23, .getfield 29, 3, 9, 3, zU), (26, .getfield 147, 3, 7, 3, zU), (29, .iload_n 1, 1, 1, 0, zU), (30, .invokestatic 201, 3, 36, 2, zU), (33, .ifCond .eq 7, 3, 40, 0, zU), (36, .iconst 1, 1, 0, 0, .int (nI 1)), (37, .goto 4, 3, 41, 0, zU), (40, .iconst 0, 1, 0, 0, .int (nI 0)), (41, .istore_n 3, 1, 3, 0, zU), (42, .aload_n 0, 1, 0, 0, zU), (43, .getfield 29, 3, 9, 3, zU), (46, .iload_n 2, 1, 2, 0, zU), (47, .ifCond .eq 17, 3, 64, 0, zU), (50, .aload_n 0, 1, 0, 0, zU), (51, .getfield 29, 3, 9, 3, zU), (54, .getfield 147, 3, 7, 3, zU), (57, .iconst 1, 1, 0, 0, .int (nI 1)), (58, .iload_n 1, 1, 1, 0, zU), (59, .ishl, 1, 0, 0, zU), (60, .ior, 1, 0, 0, zU), (61, .goto 16, 3, 77, 0, zU), (64, .aload_n 0, 1, 0, 0, zU), (65, .getfield 29, 3, 9, 3, zU), (68, .getfield 147, 3, 7, 3, zU), (71, .iconst 1, 1, 0, 0, .int (nI 1)), (72, .iload_n 1, 1, 1, 0, zU), (73, .ishl, 1, 0, 0, zU), (74, .iconst (-1), 1, 0, 0, .int ((-1))), (75, .ixor, 1, 0, 0, zU), (76, .iand, 1, 0, 0, zU), (77, .putfield 147, 3, 7, 3, zU), (80, .iload_n 3, 1, 3, 0, zU), (81, .ireturn, 1, 0, 0, zU)]
/-- GG.find(I)I -/
def zc130 : List zE := [(0, .aload_n 0, 1, 0, 0, zU), (1, .iload_n 1, 1, 1, 0, zU), (2, .invokevirtual 192, 3, 85, 1, .retAddr 9), (5, .ifCond .eq 6, 3, 11, 0, zU), (8, .ldc 177, 2, 0, 0, .int ((-1000000001))), (10, .ireturn, 1, 0, 0, zU), (11, .aload_n 0, 1, 0, 0, zU), (12, .getfield 29, 3, 9, 3, zU), (15, .getfield 144, 3, 7, 2, zU), (18, .iload_n 1, 1, 1, 0, zU), (19, .invokestatic 201, 3, 36, 2, zU), (22, .ifCond .ne 6, 3, 28, 0, zU), (25, .ldc 224, 2, 0, 0, .int ((-1000000003))), (27, .ireturn, 1, 0, 0, zU), (28, .aload_n 0, 1, 0, 0, zU), (29, .getfield 68, 3, 9, 8, zU), (32, .aload_n 0, 1, 0, 0, zU), (33, .getfield 29, 3, 9, 3, zU), (36, .invokevirtual 214, 3, 59, 1, .retAddr 1), (39, .aload_n 0, 1, 0, 0, zU), (40, .getfield 29, 3, 9, 3, zU), (43, .aload_n 0, 1, 0, 0, zU), (44, .getfield 29, 3, 9, 3, zU), (47, .getfield 144, 3, 7, 2, zU), (50, .iconst 1, 1, 0, 0, .int (nI 1)), (51, .iload_n 1, 1, 1, 0, zU), (52, .ishl, 1, 0, 0, zU), (53, .iconst (-1), 1, 0, 0, .int ((-1))), (54, .ixor, 1, 0, 0, zU), (55, .iand, 1, 0, 0, zU), (56, .putfield 144, 3, 7, 2, zU), (59, .aload_n 0, 1, 0, 0, zU), (60, .getfield 29, 3, 9, 3, zU), (63, .getfield 144, 3, 7, 2, zU), (66, .invokestatic 225, 3, 57, 1, zU), (69, .ireturn, 1, 0, 0, zU)]
/-- GG.undo(I)I -/
def zc131 : List zE := [(0, .iload_n 1, 1, 1, 0, zU), (1, .iconst 1, 1, 0, 0, .int (nI 1)), (2, .bipush 30, 2, 0, 0, .int (nI 30)), (4, .invokestatic 83, 3, 35, 3, zU), (7, .ifCond .eq 6, 3, 13, 0, zU), (10, .ldc 87, 2, 0, 0, .int ((-1000000002))), (12, .ireturn, 1, 0, 0, zU), (13, .aload_n 0, 1, 0, 0, zU), (14, .getfield 68, 3, 9, 8, zU), (17, .iload_n 1, 1, 1, 0, zU), (18, .aload_n 0, 1, 0, 0, zU), (19, .getfield 29, 3, 9, 3, zU), (22, .invokevirtual 233, 3, 60, 2, .retAddr 1), (25, .ifCond .eq 13, 3, 38, 0, zU), (28, .aload_n 0, 1, 0, 0, zU), (29, .getfield 29, 3, 9, 3, zU), (32, .getfield 126, 3, 7, 0, zU), (35, .goto 5, 3, 40, 0, zU), (38, .ldc 224, 2, 0, 0, .int ((-1000000003))), (40, .ireturn, 1, 0, 0, zU)]
/-- GG.allTrue(II)I -/
def zc132 : List zE := [(0, .iload_n 1, 1, 1, 0, zU), (1, .iconst 1, 1, 0, 0, .int (nI 1)), (2, .aload_n 0, 1, 0, 0, zU), (3, .getfield 23, 3, 9, 2, zU), (6, .getfield 114, 3, 0, 1, zU), (9, .ishl, 1, 0, 0, zU), (10, .iconst 1, 1, 0, 0, .int (nI 1)), (11, .isub, 1, 0, 0, zU), (12, .iconst (-1), 1, 0, 0, .int ((-1))), (13, .ixor, 1, 0, 0, zU), (14, .iand, 1, 0, 0, zU), (15, .ifCond .eq 6, 3, 21, 0, zU), (18, .ldc 177, 2, 0, 0, .int ((-1000000001))), (20, .ireturn, 1, 0, 0, zU), (21, .iload_n 2, 1, 2, 0, zU), (22, .tableswitch 60 0 2 #[26, 35, 44], 26, 0, 0, zU), (48, .aload_n 0, 1, 0, 0, zU), (49, .getfield 54, 3, 9, 6, zU), (52, .iload_n 1, 1, 1, 0, zU), (53, .invokevirtual 274, 3, 76, 1, .retAddr 8), (56, .ireturn, 1, 0, 0, zU), (57, .aload_n 0, 1, 0, 0, zU), (58, .getfield 54, 3, 9, 6, zU), (61, .iload_n 1, 1, 1, 0, zU), (62, .invokevirtual 277, 3, 77, 1, .retAddr 8), (65, .ireturn, 1, 0, 0, zU), (66, .aload_n 0, 1, 0, 0, zU), (67, .getfield 54, 3, 9, 6, zU), (70, .aload_n 0, 1, 0, 0, zU), (71, .getfield 54, 3, 9, 6, zU), (74, .iload_n 1, 1, 1, 0, zU), (75, .invokevirtual 274, 3, 76, 1, .retAddr 8), (78, .invokevirtual 280, 3, 30, 1, .retAddr 8), (81, .ireturn, 1, 0, 0, zU), (82, .ldc 87, 2, 0, 0, .int ((-1000000002))), (84, .ireturn, 1, 0, 0, zU)]
/-- GG.fair(II)I -/
def zc133 : List zE := [(0, .iload_n 1, 1, 1, 0, zU), (1, .iconst 0, 1, 0, 0, .int (nI 0)), (2, .bipush 9, 2, 0, 0, .int (nI 9)), (4, .invokestatic 83, 3, 35, 3, zU), (7, .ifCond .ne 13, 3, 20, 0, zU), (10, .iload_n 2, 1, 2, 0, zU), (11, .iconst 1, 1, 0, 0, .int (nI 1)), (12, .bipush 12, 2, 0, 0, .int (nI 12)), (14, .invokestatic 83, 3, 35, 3, zU), (17, .ifCond .eq 6, 3, 23, 0, zU), (20, .ldc 87, 2, 0, 0, .int ((-1000000002))), (22, .ireturn, 1, 0, 0, zU), (23, .aload_n 0, 1, 0, 0, zU), (24, .invokevirtual 129, 3, 33, 0, .retAddr 9), (27, .ifCond .eq 8, 3, 35, 0, zU), (30, .ldc 224, 2, 0, 0, .int ((-1000000003))), (32, .goto 12, 3, 44, 0, zU), (35, .aload_n 0, 1, 0, 0, zU), (36, .getfield 38, 3, 9, 4, zU), (39, .iload_n 1, 1, 1, 0, zU), (40, .iload_n 2, 1, 2, 0, zU), (41, .invokevirtual 289, 3, 70, 2, .retAddr 6), (44, .ireturn, 1, 0, 0, zU)]
/-- GG.tap(II)I -/
def zc134 : List zE := [(0, .aload_n 0, 1, 0, 0, zU), (1, .iload_n 1, 1, 1, 0, zU), (2, .invokevirtual 174, 3, 84, 1, .retAddr 9), (5, .ifCond .eq 6, 3, 11, 0, zU), (8, .ldc 177, 2, 0, 0, .int ((-1000000001))), (10, .ireturn, 1, 0, 0, zU), (11, .iload_n 2, 1, 2, 0, zU), (12, .iconst 0, 1, 0, 0, .int (nI 0)), (13, .bipush 9, 2, 0, 0, .int (nI 9)), (15, .invokestatic 83, 3, 35, 3, zU), (18, .ifCond .eq 6, 3, 24, 0, zU), (21, .ldc 87, 2, 0, 0, .int ((-1000000002))), (23, .ireturn, 1, 0, 0, zU), (24, .aload_n 0, 1, 0, 0, zU), (25, .getfield 61, 3, 9, 7, zU), (28, .iload_n 1, 1, 1, 0, zU), (29, .iload_n 2, 1, 2, 0, zU), (30, .invokevirtual 302, 3, 13, 2, .retAddr 4), (33, .ifCond .eq 13, 3, 46, 0, zU), (36, .aload_n 0, 1, 0, 0, zU), (37, .getfield 61, 3, 9, 7, zU), (40, .getfield 159, 3, 4, 5, zU), (43, .goto 5, 3, 48, 0, zU), (46, .ldc 95, 2, 0, 0, .int ((-1000000004))), (48, .ireturn, 1, 0, 0, zU)]
/-- GG.write(II)I -/
def zc135 : List zE := [(0, .aload_n 0, 1, 0, 0, zU), (1, .iload_n 1, 1, 1, 0, zU), (2, .invokevirtual 174, 3, 84, 1, .retAddr 9), (5, .ifCond .eq 6, 3, 11, 0, zU), (8, .ldc 177, 2, 0, 0, .int ((-1000000001))), (10, .ireturn, 1, 0, 0, zU), (11, .iload_n 2, 1, 2, 0, zU), (12, .iconst 0, 1, 0, 0, .int (nI 0)), (13, .bipush 10, 2, 0, 0, .int (nI 10)), (15, .invokestatic 83, 3, 35, 3, zU), (18, .ifCond .eq 6, 3, 24, 0, zU), (21, .ldc 87, 2, 0, 0, .int ((-1000000002))), (23, .ireturn, 1, 0, 0, zU), (24, .aload_n 0, 1, 0, 0, zU), (25, .getfield 61, 3, 9, 7, zU), (28, .iload_n 1, 1, 1, 0, zU), (29, .iload_n 2, 1, 2, 0, zU), (30, .invokevirtual 311, 3, 14, 2, .retAddr 4), (33, .ifCond .eq 13, 3, 46, 0, zU), (36, .aload_n 0, 1, 0, 0, zU), (37, .getfield 61, 3, 9, 7, zU), (40, .getfield 162, 3, 4, 8, zU), (43, .goto 5, 3, 48, 0, zU), (46, .ldc 95, 2, 0, 0, .int ((-1000000004))), (48, .ireturn, 1, 0, 0, zU)]
/-- GG.keep(I)I -/
def zc136 : List zE := [(0, .iload_n 1, 1, 1, 0, zU), (1, .iconst 0, 1, 0, 0, .int (nI 0)), (2, .iconst 1, 1, 0, 0, .int (nI 1)), (3, .invokestatic 83, 3, 35, 3, zU), (6, .ifCond .eq 6, 3, 12, 0, zU), (9, .ldc 177, 2, 0, 0, .int ((-1000000001))), (11, .ireturn, 1, 0, 0, zU), (12, .aload_n 0, 1, 0, 0, zU), (13, .getfield 75, 3, 9, 9, zU), (16, .iload_n 1, 1, 1, 0, zU), (17, .aload_n 0, 1, 0, 0, zU), (18, .getfield 29, 3, 9, 3, zU), (21, .aload_n 0, 1, 0, 0, zU), (22, .getfield 79, 3, 9, 10, zU), (25, .invokevirtual 317, 3, 64, 3, .retAddr 3), (28, .aload_n 0, 1, 0, 0, zU), (29, .getfield 68, 3, 9, 8, zU), (32, .invokevirtual 110, 3, 6, 0, .retAddr 1), (35, .iconst 1, 1, 0, 0, .int (nI 1)), (36, .ireturn, 1, 0, 0, zU)]
/-- GG.goBack(I)I -/
def zc137 : List zE := [(0, .iload_n 1, 1, 1, 0, zU), (1, .iconst 0, 1, 0, 0, .int (nI 0)), (2, .iconst 1, 1, 0, 0, .int (nI 1)), (3, .invokestatic 83, 3, 35, 3, zU), (6, .ifCond .eq 6, 3, 12, 0, zU), (9, .ldc 177, 2, 0, 0, .int ((-1000000001))), (11, .ireturn, 1, 0, 0, zU), (12, .aload_n 0, 1, 0, 0, zU), (13, .getfield 75, 3, 9, 9, zU), (16, .iload_n 1, 1, 1, 0, zU), (17, .invokevirtual 321, 3, 63, 1, .retAddr 3), (20, .ifCond .ne 6, 3, 26, 0, zU), (23, .ldc 224, 2, 0, 0, .int ((-1000000003))), (25, .ireturn, 1, 0, 0, zU), (26, .aload_n 0, 1, 0, 0, zU), (27, .getfield 75, 3, 9, 9, zU), (30, .iload_n 1, 1, 1, 0, zU), (31, .aload_n 0, 1, 0, 0, zU), (32, .getfield 29, 3, 9, 3, zU), (35, .invokevirtual 324, 3, 65, 2, .retAddr 3), (38, .aload_n 0, 1, 0, 0, zU), (39, .aload_n 0, 1, 0, 0, zU), (40, .getfield 75, 3, 9, 9, zU), (43, .getfield 328, 3, 3, 1, zU), (46, .iload_n 1, 1, 1, 0, zU), (47, .iaload, 1, 0, 0, zU), (48, .putfield 79, 3, 9, 10, zU), (51, .aload_n 0, 1, 0, 0, zU), (52, .getfield 68, 3, 9, 8, zU), (55, .invokevirtual 110, 3, 6, 0, .retAddr 1), (58, .iconst 1, 1, 0, 0, .int (nI 1)), (59, .ireturn, 1, 0, 0, zU)]
/-- GG.refuseGlassOrRow(I)I -/
def zc138 : List zE := [(0, .iload_n 1, 1, 1, 0, zU), (1, .iconst (-1), 1, 0, 0, .int ((-1))), (2, .if_icmp .eq 14, 3, 16, 0, zU), (5, .aload_n 0, 1, 0, 0, zU), (6, .iload_n 1, 1, 1, 0, zU), (7, .invokevirtual 174, 3, 84, 1, .retAddr 9), (10, .ifCond .eq 6, 3, 16, 0, zU), (13, .ldc 177, 2, 0, 0, .int ((-1000000001))), (15, .ireturn, 1, 0, 0, zU), (16, .aload_n 0, 1, 0, 0, zU), (17, .invokevirtual 129, 3, 33, 0, .retAddr 9), (20, .ifCond .eq 8, 3, 28, 0, zU), (23, .ldc 224, 2, 0, 0, .int ((-1000000003))), (25, .goto 4, 3, 29, 0, zU), (28, .iconst 0, 1, 0, 0, .int (nI 0)), (29, .ireturn, 1, 0, 0, zU)]
/-- Model.takeIn(II)I -/
def zc139 : List zE := [(0, .aload_n 0, 1, 0, 0, zU), (1, .invokevirtual 99, 3, 90, 0, .retAddr 10), (4, .istore_n 3, 1, 3, 0, zU), (5, .aload_n 0, 1, 0, 0, zU), (6, .aload_n 0, 1, 0, 0, zU), (7, .getfield 80, 3, 10, 20, zU), (10, .ifCond .gt 15, 3, 25, 0, zU), (13, .iload_n 3, 1, 3, 0, zU), (14, .i2l, 1, 0, 0, zU), (15, .iload_n 1, 1, 1, 0, zU), (16, .i2l, 1, 0, 0, zU), (17, .iload_n 2, 1, 2, 0, zU), (18, .i2l, 1, 0, 0, zU), (19, .invokestatic 68, 3, 37, 3, zU), (22, .ifCond .eq 7, 3, 29, 0, zU), (25, .iconst 1, 1, 0, 0, .int (nI 1)), (26, .goto 4, 3, 30, 0, zU), (29, .iconst 0, 1, 0, 0, .int (nI 0)), (30, .iconst 2, 1, 0, 0, .int (nI 2)), (31, .aload_n 0, 1, 0, 0, zU), (32, .getfield 87, 3, 10, 19, zU), (35, .invokevirtual 94, 3, 44, 3, .retAddr 10), (38, .istore 4, 2, 4, 0, zU), (40, .aload_n 0, 1, 0, 0, zU), (41, .getfield 80, 3, 10, 20, zU), (44, .ifCond .le 7, 3, 51, 0, zU), (47, .iconst 0, 1, 0, 0, .int (nI 0)), (48, .goto 4, 3, 52, 0, zU), (51, .iload_n 3, 1, 3, 0, zU), (52, .ireturn, 1, 0, 0, zU)]
/-- Model.reading(IIZ)I -/
def zc140 : List zE := [(0, .iload_n 0, 1, 0, 0, zU), (1, .iload_n 1, 1, 1, 0, zU), (2, .iadd, 1, 0, 0, zU), (3, .iconst 5, 1, 0, 0, .int (nI 5)), (4, .isub, 1, 0, 0, zU), (5, .iload_n 2, 1, 2, 0, zU), (6, .ifCond .eq 7, 3, 13, 0, zU), (9, .iconst 2, 1, 0, 0, .int (nI 2)), (10, .goto 4, 3, 14, 0, zU), (13, .iconst 0, 1, 0, 0, .int (nI 0)), (14, .iadd, 1, 0, 0, zU), (15, .invokestatic 172, 3, 95, 1, zU), (18, .ireturn, 1, 0, 0, zU)]
/-- Model.boat(II)I -/
def zc141 : List zE := [(0, .aload_n 0, 1, 0, 0, zU), (1, .iload_n 1, 1, 1, 0, zU), (2, .invokevirtual 217, 3, 92, 1, .retAddr 10), (5, .ifCond .ne 6, 3, 11, 0, zU), (8, .ldc 216, 2, 0, 0, .int ((-1000000001))), (10, .ireturn, 1, 0, 0, zU), (11, .iload_n 2, 1, 2, 0, zU), (12, .tableswitch 98 0 4 #[36, 43, 50, 73, 88], 36, 0, 0, zU), (48, .aload_n 0, 1, 0, 0, zU), (49, .getfield 26, 3, 10, 5, zU), (52, .iload_n 1, 1, 1, 0, zU), (53, .iaload, 1, 0, 0, zU), (54, .ireturn, 1, 0, 0, zU), (55, .aload_n 0, 1, 0, 0, zU), (56, .getfield 29, 3, 10, 6, zU), (59, .iload_n 1, 1, 1, 0, zU), (60, .iaload, 1, 0, 0, zU), (61, .ireturn, 1, 0, 0, zU), (62, .aload_n 0, 1, 0, 0, zU), (63, .getfield 7, 3, 10, 0, zU), (66, .bipush 21, 2, 0, 0, .int (nI 21)), (68, .iaload, 1, 0, 0, zU), (69, .iload_n 1, 1, 1, 0, zU), (70, .invokestatic 185, 3, 42, 2, zU), (73, .ifCond .ne 7, 3, 80, 0, zU), (76, .iconst 1, 1, 0, 0, .int (nI 1)), (77, .goto 4, 3, 81, 0, zU), (80, .iconst 0, 1, 0, 0, .int (nI 0)), (81, .invokestatic 196, 3, 41, 1, zU), (84, .ireturn, 1, 0, 0, zU), (85, .aload_n 0, 1, 0, 0, zU), (86, .getfield 7, 3, 10, 0, zU), (89, .bipush 22, 2, 0, 0, .int (nI 22)), (91, .iaload, 1, 0, 0, zU), (92, .iload_n 1, 1, 1, 0, zU), (93, .invokestatic 185, 3, 42, 2, zU), (96, .invokestatic 196, 3, 41, 1, zU), (99, .ireturn, 1, 0, 0, zU), (100, .aload_n 0, 1, 0, 0, zU), (101, .getfield 7, 3, 10, 0, zU), (104, .bipush 23, 2, 0, 0, .int (nI 23)), (106, .iload_n 1, 1, 1, 0, zU), (107, .iadd, 1, 0, 0, zU), (108, .iaload, 1, 0, 0, zU), (109, .ireturn, 1, 0, 0, zU), (110, .ldc 72, 2, 0, 0, .int ((-1000000002))), (112, .ireturn, 1, 0, 0, zU)]
/-- Model.drink(I)I -/
def zc142 : List zE := [(0, .aload_n 0, 1, 0, 0, zU), (1, .iload_n 1, 1, 1, 0, zU), (2, .invokevirtual 212, 3, 91, 1, .retAddr 10), (5, .ifCond .ne 6, 3, 11, 0, zU), (8, .ldc 216, 2, 0, 0, .int ((-1000000001))), (10, .ireturn, 1, 0, 0, zU), (11, .aload_n 0, 1, 0, 0, zU), (12, .getfield 7, 3, 10, 0, zU), (15, .bipush 28, 2, 0, 0, .int (nI 28)), (17, .iaload, 1, 0, 0, zU), (18, .ifCond .eq 14, 3, 32, 0, zU), (21, .aload_n 0, 1, 0, 0, zU), (22, .getfield 7, 3, 10, 0, zU), (25, .iload_n 1, 1, 1, 0, zU), (26, .iaload, 1, 0, 0, zU), (27, .bipush 10, 2, 0, 0, .int (nI 10)), (29, .if_icmp .ne 6, 3, 35, 0, zU), (32, .ldc 211, 2, 0, 0, .int ((-1000000003))), (34, .ireturn, 1, 0, 0, zU), (35, .aload_n 0, 1, 0, 0, zU), (36, .invokevirtual 236, 3, 100, 0, .retAddr 10), (39, .aload_n 0, 1, 0, 0, zU), (40, .getfield 7, 3, 10, 0, zU), (43, .bipush 28, 2, 0, 0, .int (nI 28)), (45, .dup2, 1, 0, 0, zU), (46, .iaload, 1, 0, 0, zU), (47, .iconst 1, 1, 0, 0, .int (nI 1)), (48, .isub, 1, 0, 0, zU), (49, .iastore, 1, 0, 0, zU), (50, .aload_n 0, 1, 0, 0, zU), (51, .getfield 7, 3, 10, 0, zU), (54, .iload_n 1, 1, 1, 0, zU), (55, .dup2, 1, 0, 0, zU), (56, .iaload, 1, 0, 0, zU), (57, .iconst 1, 1, 0, 0, .int (nI 1)), (58, .iadd, 1, 0, 0, zU), (59, .iastore, 1, 0, 0, zU), (60, .aload_n 0, 1, 0, 0, zU), (61, .getfield 7, 3, 10, 0, zU), (64, .iload_n 1, 1, 1, 0, zU), (65, .iaload, 1, 0, 0, zU), (66, .ireturn, 1, 0, 0, zU)]
/-- Model.keepFrom(I)I -/
def zc143 : List zE := [(0, .aload_n 0, 1, 0, 0, zU), (1, .iload_n 1, 1, 1, 0, zU), (2, .invokevirtual 212, 3, 91, 1, .retAddr 10), (5, .ifCond .ne 6, 3, 11, 0, zU), (8, .ldc 216, 2, 0, 0, .int ((-1000000001))), (10, .ireturn, 1, 0, 0, zU), (11, .aload_n 0, 1, 0, 0, zU), (12, .getfield 7, 3, 10, 0, zU), (15, .iload_n 1, 1, 1, 0, zU), (16, .iaload, 1, 0, 0, zU), (17, .ifCond .ne 6, 3, 23, 0, zU), (20, .ldc 211, 2, 0, 0, .int ((-1000000003))), (22, .ireturn, 1, 0, 0, zU), (23, .aload_n 0, 1, 0, 0, zU), (24, .invokevirtual 236, 3, 100, 0, .retAddr 10), (27, .aload_n 0, 1, 0, 0, zU), (28, .getfield 7, 3, 10, 0, zU), (31, .iload_n 1, 1, 1, 0, zU), (32, .dup2, 1, 0, 0, zU), (33, .iaload, 1, 0, 0, zU), (34, .iconst 1, 1, 0, 0, .int (nI 1)), (35, .isub, 1, 0, 0, zU), (36, .iastore, 1, 0, 0, zU), (37, .aload_n 0, 1, 0, 0, zU), (38, .getfield 7, 3, 10, 0, zU), (41, .iload_n 1, 1, 1, 0, zU), (42, .iaload, 1, 0, 0, zU), (43, .ireturn, 1, 0, 0, zU)]
/-- Model.changed(II)I -/
def zc144 : List zE := [(0, .aload_n 0, 1, 0, 0, zU), (1, .invokevirtual 236, 3, 100, 0, .retAddr 10), (4, .aload_n 0, 1, 0, 0, zU), (5, .getfield 7, 3, 10, 0, zU), (8, .iload_n 1, 1, 1, 0, zU), (9, .iaload, 1, 0, 0, zU), (10, .istore_n 3, 1, 3, 0, zU), (11, .aload_n 0, 1, 0, 0, zU), (12, .getfield 7, 3, 10, 0, zU), (15, .iload_n 1, 1, 1, 0, zU), (16, .iload_n 2, 1, 2, 0, zU), (17, .iastore, 1, 0, 0, zU), (18, .iload_n 3, 1, 3, 0, zU), (19, .ireturn, 1, 0, 0, zU)]
/-- Model.find(I)I -/
def zc145 : List zE := [(0, .aload_n 0, 1, 0, 0, zU), (1, .iload_n 1, 1, 1, 0, zU), (2, .invokevirtual 217, 3, 92, 1, .retAddr 10), (5, .ifCond .ne 6, 3, 11, 0, zU), (8, .ldc 216, 2, 0, 0, .int ((-1000000001))), (10, .ireturn, 1, 0, 0, zU), (11, .aload_n 0, 1, 0, 0, zU), (12, .getfield 7, 3, 10, 0, zU), (15, .bipush 21, 2, 0, 0, .int (nI 21)), (17, .iaload, 1, 0, 0, zU), (18, .iload_n 1, 1, 1, 0, zU), (19, .invokestatic 185, 3, 42, 2, zU), (22, .ifCond .ne 6, 3, 28, 0, zU), (25, .ldc 211, 2, 0, 0, .int ((-1000000003))), (27, .ireturn, 1, 0, 0, zU), (28, .aload_n 0, 1, 0, 0, zU), (29, .invokevirtual 236, 3, 100, 0, .retAddr 10), (32, .aload_n 0, 1, 0, 0, zU), (33, .getfield 7, 3, 10, 0, zU), (36, .bipush 21, 2, 0, 0, .int (nI 21)), (38, .dup2, 1, 0, 0, zU), (39, .iaload, 1, 0, 0, zU), (40, .iconst 1, 1, 0, 0, .int (nI 1)), (41, .iload_n 1, 1, 1, 0, zU), (42, .ishl, 1, 0, 0, zU), (43, .iconst (-1), 1, 0, 0, .int ((-1))), (44, .ixor, 1, 0, 0, zU), (45, .iand, 1, 0, 0, zU), (46, .iastore, 1, 0, 0, zU), (47, .aload_n 0, 1, 0, 0, zU), (48, .getfield 147, 3, 10, 11, zU), (51, .aload_n 0, 1, 0, 0, zU), (52, .invokevirtual 242, 3, 102, 0, .retAddr 10), (55, .isub, 1, 0, 0, zU), (56, .ireturn, 1, 0, 0, zU)]
/-- Model.allTrue(II)I -/
def zc146 : List zE := [(0, .aload_n 0, 1, 0, 0, zU), (1, .iload_n 1, 1, 1, 0, zU), (2, .invokevirtual 292, 3, 93, 1, .retAddr 10), (5, .ifCond .ne 6, 3, 11, 0, zU), (8, .ldc 216, 2, 0, 0, .int ((-1000000001))), (10, .ireturn, 1, 0, 0, zU), (11, .iload_n 2, 1, 2, 0, zU), (12, .i2l, 1, 0, 0, zU), (13, .lconst 0, 1, 0, 0, .long (lN 0)), (14, .ldc2_w 220, 3, 0, 0, .long (lN 2)), (17, .invokestatic 68, 3, 37, 3, zU), (20, .ifCond .ne 6, 3, 26, 0, zU), (23, .ldc 72, 2, 0, 0, .int ((-1000000002))), (25, .ireturn, 1, 0, 0, zU), (26, .iconst 0, 1, 0, 0, .int (nI 0)), (27, .istore_n 3, 1, 3, 0, zU), (28, .iconst 0, 1, 0, 0, .int (nI 0)), (29, .istore 4, 2, 4, 0, zU), (31, .iconst 0, 1, 0, 0, .int (nI 0)), (32, .istore 5, 2, 5, 0, zU), (34, .iload 5, 2, 5, 0, zU), (36, .aload_n 0, 1, 0, 0, zU), (37, .getfield 141, 3, 10, 9, zU), (40, .if_icmp .ge 69, 3, 109, 0, zU), (43, .iload_n 3, 1, 3, 0, zU), (44, .iload_n 1, 1, 1, 0, zU), (45, .iload 5, 2, 5, 0, zU), (47, .invokestatic 185, 3, 42, 2, zU), (50, .ifCond .eq 19, 3, 69, 0, zU), (53, .iconst 0, 1, 0, 0, .int (nI 0)), (54, .iconst 5, 1, 0, 0, .int (nI 5)), (55, .aload_n 0, 1, 0, 0, zU), (56, .getfield 7, 3, 10, 0, zU), (59, .iload 5, 2, 5, 0, zU), (61, .iaload, 1, 0, 0, zU), (62, .isub, 1, 0, 0, zU), (63, .invokestatic 169, 3, 39, 2, zU), (66, .goto 4, 3, 70, 0, zU), (69, .iconst 0, 1, 0, 0, .int (nI 0)), (70, .iadd, 1, 0, 0, zU), (71, .istore_n 3, 1, 3, 0, zU), (72, .iload 4, 2, 4, 0, zU), (74, .iload_n 1, 1, 1, 0, zU), (75, .iload 5, 2, 5, 0, zU), (77, .invokestatic 185, 3, 42, 2, zU), (80, .ifCond .eq 19, 3, 99, 0, zU), (83, .iconst 0, 1, 0, 0, .int (nI 0)), (84, .aload_n 0, 1, 0, 0, zU), (85, .getfield 7, 3, 10, 0, zU), (88, .iload 5, 2, 5, 0, zU), (90, .iaload, 1, 0, 0, zU), (91, .iconst 5, 1, 0, 0, .int (nI 5)), (92, .isub, 1, 0, 0, zU), (93, .invokestatic 169, 3, 39, 2, zU), (96, .goto 4, 3, 100, 0, zU), (99, .iconst 0, 1, 0, 0, .int (nI 0)), (100, .iadd, 1, 0, 0, zU), (101, .istore 4, 2, 4, 0, zU), (103, .iinc 5 1, 3, 5, 0, .int (nI 1)), (106, .goto (-72), 3, 34, 0, zU), (109, .iload_n 2, 1, 2, 0, zU), (110, .iconst 2, 1, 0, 0, .int (nI 2)), (111, .if_icmp .ge 14, 3, 125, 0, zU), (114, .iload_n 2, 1, 2, 0, zU), (115, .ifCond .ne 7, 3, 122, 0, zU), (118, .iload_n 3, 1, 3, 0, zU), (119, .goto 5, 3, 124, 0, zU), (122, .iload 4, 2, 4, 0, zU), (124, .ireturn, 1, 0, 0, zU), (125, .iload_n 3, 1, 3, 0, zU), (126, .aload_n 0, 1, 0, 0, zU), (127, .getfield 7, 3, 10, 0, zU), (130, .bipush 28, 2, 0, 0, .int (nI 28)), (132, .iaload, 1, 0, 0, zU), (133, .isub, 1, 0, 0, zU), (134, .istore 5, 2, 5, 0, zU), (136, .iload_n 3, 1, 3, 0, zU), (137, .ifCond .eq 8, 3, 145, 0, zU), (140, .iload 5, 2, 5, 0, zU), (142, .ifCond .gt 13, 3, 155, 0, zU), (145, .iload_n 3, 1, 3, 0, zU), (146, .ifCond .ne 7, 3, 153, 0, zU), (149, .iconst 0, 1, 0, 0, .int (nI 0)), (150, .goto 4, 3, 154, 0, zU), (153, .iconst 1, 1, 0, 0, .int (nI 1)), (154, .ireturn, 1, 0, 0, zU), (155, .aload_n 0, 1, 0, 0, zU), (156, .getfield 150, 3, 10, 13, zU), (159, .ifCond .ne 7, 3, 166, 0, zU), (162, .iconst (-1), 1, 0, 0, .int ((-1))), (163, .goto 19, 3, 182, 0, zU), (166, .iconst 1, 1, 0, 0, .int (nI 1)), (167, .iload 5, 2, 5, 0, zU), (169, .aload_n 0, 1, 0, 0, zU), (170, .getfield 150, 3, 10, 13, zU), (173, .iadd, 1, 0, 0, zU), (174, .iconst 1, 1, 0, 0, .int (nI 1)), (175, .isub, 1, 0, 0, zU), (176, .aload_n 0, 1, 0, 0, zU), (177, .getfield 150, 3, 10, 13, zU), (180, .idiv, 1, 0, 0, zU), (181, .iadd, 1, 0, 0, zU), (182, .ireturn, 1, 0, 0, zU)]
/-- Model.fair(II)I -/
def zc147 : List zE := [(0, .iload_n 1, 1, 1, 0, zU), (1, .i2l, 1, 0, 0, zU), (2, .lconst 0, 1, 0, 0, .long (lN 0)), (3, .ldc2_w 248, 3, 0, 0, .long (lN 9)), (6, .invokestatic 68, 3, 37, 3, zU), (9, .ifCond .eq 15, 3, 24, 0, zU), (12, .iload_n 2, 1, 2, 0, zU), (13, .i2l, 1, 0, 0, zU), (14, .lconst 1, 1, 0, 0, .long (lN 1)), (15, .ldc2_w 295, 3, 0, 0, .long (lN 12)), (18, .invokestatic 68, 3, 37, 3, zU), (21, .ifCond .ne 6, 3, 27, 0, zU), (24, .ldc 72, 2, 0, 0, .int ((-1000000002))), (26, .ireturn, 1, 0, 0, zU), (27, .aload_n 0, 1, 0, 0, zU), (28, .getfield 144, 3, 10, 7, zU), (31, .ifCond .ne 6, 3, 37, 0, zU), (34, .ldc 211, 2, 0, 0, .int ((-1000000003))), (36, .ireturn, 1, 0, 0, zU), (37, .iconst 0, 1, 0, 0, .int (nI 0)), (38, .istore_n 3, 1, 3, 0, zU), (39, .iload_n 3, 1, 3, 0, zU), (40, .bipush 60, 2, 0, 0, .int (nI 60)), (42, .if_icmp .gt 29, 3, 71, 0, zU), (45, .aload_n 0, 1, 0, 0, zU), (46, .aload_n 0, 1, 0, 0, zU), (47, .getfield 7, 3, 10, 0, zU), (50, .bipush 29, 2, 0, 0, .int (nI 29)), (52, .iaload, 1, 0, 0, zU), (53, .iload_n 3, 1, 3, 0, zU), (54, .iadd, 1, 0, 0, zU), (55, .iload_n 1, 1, 1, 0, zU), (56, .iload_n 2, 1, 2, 0, zU), (57, .invokevirtual 297, 3, 105, 3, .retAddr 10), (60, .ifCond .eq 5, 3, 65, 0, zU), (63, .iload_n 3, 1, 3, 0, zU), (64, .ireturn, 1, 0, 0, zU), (65, .iinc 3 1, 3, 3, 0, .int (nI 1)), (68, .goto (-29), 3, 39, 0, zU), (71, .iconst (-1), 1, 0, 0, .int ((-1))), (72, .ireturn, 1, 0, 0, zU)]
/-- Model.tap(II)I -/
def zc148 : List zE := [(0, .aload_n 0, 1, 0, 0, zU), (1, .iload_n 1, 1, 1, 0, zU), (2, .invokevirtual 212, 3, 91, 1, .retAddr 10), (5, .ifCond .ne 6, 3, 11, 0, zU), (8, .ldc 216, 2, 0, 0, .int ((-1000000001))), (10, .ireturn, 1, 0, 0, zU), (11, .iload_n 2, 1, 2, 0, zU), (12, .i2l, 1, 0, 0, zU), (13, .lconst 0, 1, 0, 0, .long (lN 0)), (14, .ldc2_w 248, 3, 0, 0, .long (lN 9)), (17, .invokestatic 68, 3, 37, 3, zU), (20, .ifCond .ne 6, 3, 26, 0, zU), (23, .ldc 72, 2, 0, 0, .int ((-1000000002))), (25, .ireturn, 1, 0, 0, zU), (26, .aload_n 0, 1, 0, 0, zU), (27, .getfield 153, 3, 10, 30, zU), (30, .bipush 6, 2, 0, 0, .int (nI 6)), (32, .if_icmp .ne 6, 3, 38, 0, zU), (35, .ldc 76, 2, 0, 0, .int ((-1000000004))), (37, .ireturn, 1, 0, 0, zU), (38, .aload_n 0, 1, 0, 0, zU), (39, .getfield 54, 3, 10, 28, zU), (42, .aload_n 0, 1, 0, 0, zU), (43, .getfield 153, 3, 10, 30, zU), (46, .iload_n 1, 1, 1, 0, zU), (47, .iastore, 1, 0, 0, zU), (48, .aload_n 0, 1, 0, 0, zU), (49, .getfield 57, 3, 10, 29, zU), (52, .aload_n 0, 1, 0, 0, zU), (53, .getfield 153, 3, 10, 30, zU), (56, .iload_n 2, 1, 2, 0, zU), (57, .iastore, 1, 0, 0, zU), (58, .aload_n 0, 1, 0, 0, zU), (59, .dup, 1, 0, 0, zU), (60, .getfield 153, 3, 10, 30, zU), (63, .iconst 1, 1, 0, 0, .int (nI 1)), (64, .iadd, 1, 0, 0, zU), (65, .putfield 153, 3, 10, 30, zU), (68, .aload_n 0, 1, 0, 0, zU), (69, .getfield 153, 3, 10, 30, zU), (72, .ireturn, 1, 0, 0, zU)]
/-- Model.write(II)I -/
def zc149 : List zE := [(0, .aload_n 0, 1, 0, 0, zU), (1, .iload_n 1, 1, 1, 0, zU), (2, .invokevirtual 212, 3, 91, 1, .retAddr 10), (5, .ifCond .ne 6, 3, 11, 0, zU), (8, .ldc 216, 2, 0, 0, .int ((-1000000001))), (10, .ireturn, 1, 0, 0, zU), (11, .iload_n 2, 1, 2, 0, zU), (12, .i2l, 1, 0, 0, zU), (13, .lconst 0, 1, 0, 0, .long (lN 0)), (14, .ldc2_w 313, 3, 0, 0, .long (lN 10)), (17, .invokestatic 68, 3, 37, 3, zU), (20, .ifCond .ne 6, 3, 26, 0, zU), (23, .ldc 72, 2, 0, 0, .int ((-1000000002))), (25, .ireturn, 1, 0, 0, zU), (26, .aload_n 0, 1, 0, 0, zU), (27, .getfield 156, 3, 10, 33, zU), (30, .bipush 20, 2, 0, 0, .int (nI 20)), (32, .if_icmp .ne 6, 3, 38, 0, zU), (35, .ldc 76, 2, 0, 0, .int ((-1000000004))), (37, .ireturn, 1, 0, 0, zU), (38, .aload_n 0, 1, 0, 0, zU), (39, .getfield 60, 3, 10, 31, zU), (42, .aload_n 0, 1, 0, 0, zU), (43, .getfield 156, 3, 10, 33, zU), (46, .iload_n 1, 1, 1, 0, zU), (47, .iastore, 1, 0, 0, zU), (48, .aload_n 0, 1, 0, 0, zU), (49, .getfield 63, 3, 10, 32, zU), (52, .aload_n 0, 1, 0, 0, zU), (53, .getfield 156, 3, 10, 33, zU), (56, .iload_n 2, 1, 2, 0, zU), (57, .iastore, 1, 0, 0, zU), (58, .aload_n 0, 1, 0, 0, zU), (59, .dup, 1, 0, 0, zU), (60, .getfield 156, 3, 10, 33, zU), (63, .iconst 1, 1, 0, 0, .int (nI 1)), (64, .iadd, 1, 0, 0, zU), (65, .putfield 156, 3, 10, 33, zU), (68, .aload_n 0, 1, 0, 0, zU), (69, .getfield 156, 3, 10, 33, zU), (72, .ireturn, 1, 0, 0, zU)]
/-- Fleet.sailing()I -/
def zc150 : List zE := [(0, .aload_n 0, 1, 0, 0, zU), (1, .getfield 33, 3, 2, 2, zU), (4, .iconst 0, 1, 0, 0, .int (nI 0)), (5, .invokevirtual 63, 3, 116, 1, .retAddr 6), (8, .istore_n 1, 1, 1, 0, zU), (9, .iconst 0, 1, 0, 0, .int (nI 0)), (10, .istore_n 2, 1, 2, 0, zU), (11, .iconst 0, 1, 0, 0, .int (nI 0)), (12, .istore_n 3, 1, 3, 0, zU), (13, .iload_n 3, 1, 3, 0, zU), (14, .aload_n 0, 1, 0, 0, zU), (15, .getfield 25, 3, 2, 0, zU), (18, .getfield 37, 3, 0, 2, zU), (21, .if_icmp .ge 36, 3, 57, 0, zU), (24, .aload_n 0, 1, 0, 0, zU), (25, .iload_n 3, 1, 3, 0, zU), (26, .invokevirtual 68, 3, 62, 1, .retAddr 2), (29, .ifCond .eq 22, 3, 51, 0, zU), (32, .iload_n 1, 1, 1, 0, zU), (33, .aload_n 0, 1, 0, 0, zU), (34, .getfield 25, 3, 2, 0, zU), (37, .getfield 72, 3, 0, 8, zU), (40, .iload_n 3, 1, 3, 0, zU), (41, .iaload, 1, 0, 0, zU), (42, .if_icmp .lt 9, 3, 51, 0, zU), (45, .iload_n 2, 1, 2, 0, zU), (46, .iconst 1, 1, 0, 0, .int (nI 1)), (47, .iload_n 3, 1, 3, 0, zU), (48, .ishl, 1, 0, 0, zU), (49, .ior, 1, 0, 0, zU), (50, .istore_n 2, 1, 2, 0, zU), (51, .iinc 3 1, 3, 3, 0, .int (nI 1)), (54, .goto (-41), 3, 13, 0, zU), (57, .iload_n 2, 1, 2, 0, zU), (58, .ireturn, 1, 0, 0, zU)]
/-- Fleet.lookAhead(I)V -/
def zc151 : List zE := [(0, .iconst 0, 1, 0, 0, .int (nI 0)), (1, .istore_n 2, 1, 2, 0, zU), (2, .iload_n 2, 1, 2, 0, zU), (3, .iload_n 1, 1, 1, 0, zU), (4, .if_icmp .ge 45, 3, 49, 0, zU), (7, .iload_n 2, 1, 2, 0, zU), (8, .bipush 60, 2, 0, 0, .int (nI 60)), (10, .if_icmp .ge 39, 3, 49, 0, zU), (13, .aload_n 0, 1, 0, 0, zU), (14, .getfield 9, 3, 2, 3, zU), (17, .iload_n 2, 1, 2, 0, zU), (18, .aload_n 0, 1, 0, 0, zU), (19, .getfield 33, 3, 2, 2, zU), (22, .iload_n 2, 1, 2, 0, zU), (23, .invokevirtual 63, 3, 116, 1, .retAddr 6), (26, .iastore, 1, 0, 0, zU), (27, .aload_n 0, 1, 0, 0, zU), (28, .getfield 15, 3, 2, 4, zU), (31, .iload_n 2, 1, 2, 0, zU), (32, .aload_n 0, 1, 0, 0, zU), (33, .getfield 33, 3, 2, 2, zU), (36, .iload_n 2, 1, 2, 0, zU), (37, .iconst 1, 1, 0, 0, .int (nI 1)), (38, .iadd, 1, 0, 0, zU), (39, .invokevirtual 75, 3, 21, 1, .retAddr 6), (42, .iastore, 1, 0, 0, zU), (43, .iinc 2 1, 3, 2, 0, .int (nI 1)), (46, .goto (-44), 3, 2, 0, zU), (49, .return_, 1, 0, 0, zU)]
/-- Notebook.bestToTap()I -/
def zc152 : List zE := [(0, .aload_n 0, 1, 0, 0, zU), (1, .invokevirtual 57, 3, 110, 0, .retAddr 4), (4, .istore_n 1, 1, 1, 0, zU), (5, .iconst (-1), 1, 0, 0, .int ((-1))), (6, .istore_n 2, 1, 2, 0, zU), (7, .iload_n 1, 1, 1, 0, zU), (8, .invokestatic 61, 3, 57, 1, zU), (11, .istore_n 3, 1, 3, 0, zU), (12, .iconst 0, 1, 0, 0, .int (nI 0)), (13, .istore 4, 2, 4, 0, zU), (15, .iload 4, 2, 4, 0, zU), (17, .aload_n 0, 1, 0, 0, zU), (18, .getfield 34, 3, 4, 0, zU), (21, .getfield 67, 3, 0, 1, zU), (24, .if_icmp .ge 30, 3, 54, 0, zU), (27, .aload_n 0, 1, 0, 0, zU), (28, .iload 4, 2, 4, 0, zU), (30, .iload_n 1, 1, 1, 0, zU), (31, .invokevirtual 72, 3, 111, 2, .retAddr 4), (34, .istore 5, 2, 5, 0, zU), (36, .iload 5, 2, 5, 0, zU), (38, .iload_n 3, 1, 3, 0, zU), (39, .if_icmp .ge 9, 3, 48, 0, zU), (42, .iload 5, 2, 5, 0, zU), (44, .istore_n 3, 1, 3, 0, zU), (45, .iload 4, 2, 4, 0, zU), (47, .istore_n 2, 1, 2, 0, zU), (48, .iinc 4 1, 3, 4, 0, .int (nI 1)), (51, .goto (-36), 3, 15, 0, zU), (54, .iload_n 2, 1, 2, 0, zU), (55, .ireturn, 1, 0, 0, zU)]
/-- Reader.readClause(LGladGlasses$Coast;)V -/
def zc153 : List zE := [(0, .aload_n 0, 1, 0, 0, zU), (1, .invokevirtual 33, 3, 19, 0, .retAddr 5), (4, .istore_n 2, 1, 2, 0, zU), (5, .aload_n 0, 1, 0, 0, zU), (6, .aload_n 1, 1, 1, 0, zU), (7, .iload_n 2, 1, 2, 0, zU), (8, .invokevirtual 51, 3, 17, 2, .retAddr 5), (11, .istore_n 3, 1, 3, 0, zU), (12, .iload_n 3, 1, 3, 0, zU), (13, .ifCond .eq 13, 3, 26, 0, zU), (16, .aload_n 0, 1, 0, 0, zU), (17, .iload_n 3, 1, 3, 0, zU), (18, .aload_n 0, 1, 0, 0, zU), (19, .getfield 19, 3, 5, 2, zU), (22, .invokevirtual 55, 3, 18, 2, .retAddr 5), (25, .return_, 1, 0, 0, zU), (26, .aload_n 0, 1, 0, 0, zU), (27, .dup, 1, 0, 0, zU), (28, .getfield 19, 3, 5, 2, zU), (31, .iconst 1, 1, 0, 0, .int (nI 1)), (32, .iadd, 1, 0, 0, zU), (33, .putfield 19, 3, 5, 2, zU), (36, .iload_n 2, 1, 2, 0, zU), (37, .lookupswitch 59 #[(98, 51), (103, 43), (119, 35)], 35, 0, 0, zU), (72, .aload_n 0, 1, 0, 0, zU), (73, .aload_n 1, 1, 1, 0, zU), (74, .invokevirtual 59, 3, 112, 1, .retAddr 5), (77, .goto 24, 3, 101, 0, zU), (80, .aload_n 0, 1, 0, 0, zU), (81, .aload_n 1, 1, 1, 0, zU), (82, .invokevirtual 62, 3, 113, 1, .retAddr 5), (85, .goto 16, 3, 101, 0, zU), (88, .aload_n 0, 1, 0, 0, zU), (89, .aload_n 1, 1, 1, 0, zU), (90, .invokevirtual 65, 3, 114, 1, .retAddr 5), (93, .goto 8, 3, 101, 0, zU), (96, .aload_n 0, 1, 0, 0, zU), (97, .aload_n 1, 1, 1, 0, zU), (98, .invokevirtual 68, 3, 115, 1, .retAddr 5), (101, .return_, 1, 0, 0, zU)]
/-- Row.mostUnlike()I -/
def zc154 : List zE := [(0, .iconst (-1), 1, 0, 0, .int ((-1))), (1, .istore_n 1, 1, 1, 0, zU), (2, .iconst (-1), 1, 0, 0, .int ((-1))), (3, .istore_n 2, 1, 2, 0, zU), (4, .iconst 0, 1, 0, 0, .int (nI 0)), (5, .istore_n 3, 1, 3, 0, zU), (6, .iload_n 3, 1, 3, 0, zU), (7, .aload_n 0, 1, 0, 0, zU), (8, .getfield 9, 3, 6, 0, zU), (11, .getfield 57, 3, 0, 1, zU), (14, .if_icmp .ge 58, 3, 72, 0, zU), (17, .iload_n 3, 1, 3, 0, zU), (18, .iconst 1, 1, 0, 0, .int (nI 1)), (19, .iadd, 1, 0, 0, zU), (20, .istore 4, 2, 4, 0, zU), (22, .iload 4, 2, 4, 0, zU), (24, .aload_n 0, 1, 0, 0, zU), (25, .getfield 9, 3, 6, 0, zU), (28, .getfield 57, 3, 0, 1, zU), (31, .if_icmp .ge 35, 3, 66, 0, zU), (34, .aload_n 0, 1, 0, 0, zU), (35, .iload_n 3, 1, 3, 0, zU), (36, .iload 4, 2, 4, 0, zU), (38, .invokevirtual 72, 3, 118, 2, .retAddr 6), (41, .istore 5, 2, 5, 0, zU), (43, .iload 5, 2, 5, 0, zU), (45, .iload_n 2, 1, 2, 0, zU), (46, .if_icmp .le 14, 3, 60, 0, zU), (49, .iload 5, 2, 5, 0, zU), (51, .istore_n 2, 1, 2, 0, zU), (52, .bipush 100, 2, 0, 0, .int (nI 100)), (54, .iload_n 3, 1, 3, 0, zU), (55, .imul, 1, 0, 0, zU), (56, .iload 4, 2, 4, 0, zU), (58, .iadd, 1, 0, 0, zU), (59, .istore_n 1, 1, 1, 0, zU), (60, .iinc 4 1, 3, 4, 0, .int (nI 1)), (63, .goto (-41), 3, 22, 0, zU), (66, .iinc 3 1, 3, 3, 0, .int (nI 1)), (69, .goto (-63), 3, 6, 0, zU), (72, .iload_n 1, 1, 1, 0, zU), (73, .ireturn, 1, 0, 0, zU)]
/-- Tuning.rowError()I -/
def zc155 : List zE := [(0, .iconst 0, 1, 0, 0, .int (nI 0)), (1, .istore_n 1, 1, 1, 0, zU), (2, .iconst 0, 1, 0, 0, .int (nI 0)), (3, .istore_n 2, 1, 2, 0, zU), (4, .iload_n 2, 1, 2, 0, zU), (5, .bipush 12, 2, 0, 0, .int (nI 12)), (7, .if_icmp .ge 34, 3, 41, 0, zU), (10, .iload_n 1, 1, 1, 0, zU), (11, .aload_n 0, 1, 0, 0, zU), (12, .getfield 48, 3, 8, 2, zU), (15, .iload_n 2, 1, 2, 0, zU), (16, .invokevirtual 67, 3, 116, 1, .retAddr 6), (19, .aload_n 0, 1, 0, 0, zU), (20, .getfield 48, 3, 8, 2, zU), (23, .iload_n 2, 1, 2, 0, zU), (24, .iconst 1, 1, 0, 0, .int (nI 1)), (25, .iadd, 1, 0, 0, zU), (26, .invokevirtual 58, 3, 21, 1, .retAddr 6), (29, .isub, 1, 0, 0, zU), (30, .invokestatic 62, 3, 9003, 1, zU), (33, .iadd, 1, 0, 0, zU), (34, .istore_n 1, 1, 1, 0, zU), (35, .iinc 2 1, 3, 2, 0, .int (nI 1)), (38, .goto (-34), 3, 4, 0, zU), (41, .iload_n 1, 1, 1, 0, zU), (42, .ireturn, 1, 0, 0, zU)]
/-- Tuning.glassOfLeastError()I -/
def zc156 : List zE := [(0, .iconst (-1), 1, 0, 0, .int ((-1))), (1, .istore_n 1, 1, 1, 0, zU), (2, .ldc 70, 2, 0, 0, .int (nI 1000000)), (4, .istore_n 2, 1, 2, 0, zU), (5, .iconst 0, 1, 0, 0, .int (nI 0)), (6, .istore_n 3, 1, 3, 0, zU), (7, .iload_n 3, 1, 3, 0, zU), (8, .aload_n 0, 1, 0, 0, zU), (9, .getfield 40, 3, 8, 0, zU), (12, .getfield 71, 3, 0, 1, zU), (15, .if_icmp .ge 27, 3, 42, 0, zU), (18, .aload_n 0, 1, 0, 0, zU), (19, .iload_n 3, 1, 3, 0, zU), (20, .invokevirtual 76, 3, 119, 1, .retAddr 8), (23, .istore 4, 2, 4, 0, zU), (25, .iload 4, 2, 4, 0, zU), (27, .iload_n 2, 1, 2, 0, zU), (28, .if_icmp .ge 8, 3, 36, 0, zU), (31, .iload 4, 2, 4, 0, zU), (33, .istore_n 2, 1, 2, 0, zU), (34, .iload_n 3, 1, 3, 0, zU), (35, .istore_n 1, 1, 1, 0, zU), (36, .iinc 3 1, 3, 3, 0, .int (nI 1)), (39, .goto (-32), 3, 7, 0, zU), (42, .iload_n 1, 1, 1, 0, zU), (43, .ireturn, 1, 0, 0, zU)]
/-- Tuning.weighBest()I -/
def zc157 : List zE := [(0, .aload_n 0, 1, 0, 0, zU), (1, .invokevirtual 79, 3, 120, 0, .retAddr 8), (4, .ldc 70, 2, 0, 0, .int (nI 1000000)), (6, .istore_n 1, 1, 1, 0, zU), (7, .iconst 1, 1, 0, 0, .int (nI 1)), (8, .istore_n 2, 1, 2, 0, zU), (9, .iconst 0, 1, 0, 0, .int (nI 0)), (10, .istore_n 3, 1, 3, 0, zU), (11, .iload_n 3, 1, 3, 0, zU), (12, .sipush 2187, 3, 0, 0, .int (nI 2187)), (15, .if_icmp .ge 53, 3, 68, 0, zU), (18, .iload_n 2, 1, 2, 0, zU), (19, .ifCond .eq 49, 3, 68, 0, zU), (22, .iload_n 1, 1, 1, 0, zU), (23, .ifCond .le 45, 3, 68, 0, zU), (26, .aload_n 0, 1, 0, 0, zU), (27, .iload_n 1, 1, 1, 0, zU), (28, .invokevirtual 82, 3, 72, 1, .retAddr 8), (31, .istore 4, 2, 4, 0, zU), (33, .iload 4, 2, 4, 0, zU), (35, .iload_n 1, 1, 1, 0, zU), (36, .if_icmp .ge 21, 3, 57, 0, zU), (39, .iload 4, 2, 4, 0, zU), (41, .istore_n 1, 1, 1, 0, zU), (42, .aload_n 0, 1, 0, 0, zU), (43, .getfield 21, 3, 8, 6, zU), (46, .iconst 0, 1, 0, 0, .int (nI 0)), (47, .aload_n 0, 1, 0, 0, zU), (48, .getfield 24, 3, 8, 7, zU), (51, .iconst 0, 1, 0, 0, .int (nI 0)), (52, .bipush 7, 2, 0, 0, .int (nI 7)), (54, .invokestatic 85, 3, 9999, 5, zU), (57, .aload_n 0, 1, 0, 0, zU), (58, .invokevirtual 91, 3, 73, 0, .retAddr 8), (61, .istore_n 2, 1, 2, 0, zU), (62, .iinc 3 1, 3, 3, 0, .int (nI 1)), (65, .goto (-54), 3, 11, 0, zU), (68, .iload_n 1, 1, 1, 0, zU), (69, .ireturn, 1, 0, 0, zU)]
/-- GG.tells(I)I -/
def zc158 : List zE := [(0, .aload_n 0, 1, 0, 0, zU), (1, .iload_n 1, 1, 1, 0, zU), (2, .invokevirtual 168, 3, 86, 1, .retAddr 9), (5, .istore_n 2, 1, 2, 0, zU), (6, .iload_n 2, 1, 2, 0, zU), (7, .ifCond .eq 7, 3, 14, 0, zU), (10, .iload_n 2, 1, 2, 0, zU), (11, .goto 11, 3, 22, 0, zU), (14, .aload_n 0, 1, 0, 0, zU), (15, .getfield 38, 3, 9, 4, zU), (18, .iload_n 1, 1, 1, 0, zU), (19, .invokevirtual 133, 3, 116, 1, .retAddr 6), (22, .ireturn, 1, 0, 0, zU)]
/-- GG.steps(I)I -/
def zc159 : List zE := [(0, .iload_n 1, 1, 1, 0, zU), (1, .iconst 0, 1, 0, 0, .int (nI 0)), (2, .bipush 9, 2, 0, 0, .int (nI 9)), (4, .invokestatic 83, 3, 35, 3, zU), (7, .ifCond .eq 6, 3, 13, 0, zU), (10, .ldc 87, 2, 0, 0, .int ((-1000000002))), (12, .ireturn, 1, 0, 0, zU), (13, .aload_n 0, 1, 0, 0, zU), (14, .invokevirtual 129, 3, 33, 0, .retAddr 9), (17, .ifCond .eq 8, 3, 25, 0, zU), (20, .ldc 224, 2, 0, 0, .int ((-1000000003))), (22, .goto 11, 3, 33, 0, zU), (25, .aload_n 0, 1, 0, 0, zU), (26, .getfield 54, 3, 9, 6, zU), (29, .iload_n 1, 1, 1, 0, zU), (30, .invokevirtual 271, 3, 121, 1, .retAddr 8), (33, .ireturn, 1, 0, 0, zU)]
/-- GG.falseOnes()I -/
def zc160 : List zE := [(0, .aload_n 0, 1, 0, 0, zU), (1, .getfield 38, 3, 9, 4, zU), (4, .invokevirtual 292, 3, 117, 0, .retAddr 6), (7, .ireturn, 1, 0, 0, zU)]
/-- GG.could()I -/
def zc161 : List zE := [(0, .aload_n 0, 1, 0, 0, zU), (1, .getfield 61, 3, 9, 7, zU), (4, .invokevirtual 305, 3, 110, 0, .retAddr 4), (7, .ireturn, 1, 0, 0, zU)]
/-- Model.takeWeather(I)V -/
def zc162 : List zE := [(0, .aload_n 0, 1, 0, 0, zU), (1, .aload_n 0, 1, 0, 0, zU), (2, .getfield 102, 3, 10, 8, zU), (5, .ifCond .ne 7, 3, 12, 0, zU), (8, .iconst 1, 1, 0, 0, .int (nI 1)), (9, .goto 4, 3, 13, 0, zU), (12, .iconst 0, 1, 0, 0, .int (nI 0)), (13, .iconst 3, 1, 0, 0, .int (nI 3)), (14, .iload_n 1, 1, 1, 0, zU), (15, .invokevirtual 94, 3, 44, 3, .retAddr 10), (18, .istore_n 2, 1, 2, 0, zU), (19, .iload_n 2, 1, 2, 0, zU), (20, .ifCond .eq 114, 3, 134, 0, zU), (23, .aload_n 0, 1, 0, 0, zU), (24, .getfield 17, 3, 10, 2, zU), (27, .bipush 12, 2, 0, 0, .int (nI 12)), (29, .aload_n 0, 1, 0, 0, zU), (30, .getfield 102, 3, 10, 8, zU), (33, .iadd, 1, 0, 0, zU), (34, .aload_n 0, 1, 0, 0, zU), (35, .iconst 0, 1, 0, 0, .int (nI 0)), (36, .bipush 9, 2, 0, 0, .int (nI 9)), (38, .invokevirtual 105, 3, 139, 2, .retAddr 10), (41, .iastore, 1, 0, 0, zU), (42, .aload_n 0, 1, 0, 0, zU), (43, .dup, 1, 0, 0, zU), (44, .getfield 102, 3, 10, 8, zU), (47, .iconst 1, 1, 0, 0, .int (nI 1)), (48, .iadd, 1, 0, 0, zU), (49, .putfield 102, 3, 10, 8, zU), (52, .aload_n 0, 1, 0, 0, zU), (53, .getfield 80, 3, 10, 20, zU), (56, .ifCond .ne 16, 3, 72, 0, zU), (59, .aload_n 0, 1, 0, 0, zU), (60, .invokevirtual 83, 3, 43, 0, .retAddr 10), (63, .bipush 44, 2, 0, 0, .int (nI 44)), (65, .if_icmp .ne 7, 3, 72, 0, zU), (68, .iconst 1, 1, 0, 0, .int (nI 1)), (69, .goto 4, 3, 73, 0, zU), (72, .iconst 0, 1, 0, 0, .int (nI 0)), (73, .istore_n 2, 1, 2, 0, zU), (74, .iload_n 2, 1, 2, 0, zU), (75, .ifCond .eq 39, 3, 114, 0, zU), (78, .aload_n 0, 1, 0, 0, zU), (79, .aload_n 0, 1, 0, 0, zU), (80, .getfield 102, 3, 10, 8, zU), (83, .bipush 12, 2, 0, 0, .int (nI 12)), (85, .if_icmp .ge 7, 3, 92, 0, zU), (88, .iconst 1, 1, 0, 0, .int (nI 1)), (89, .goto 4, 3, 93, 0, zU), (92, .iconst 0, 1, 0, 0, .int (nI 0)), (93, .iconst 1, 1, 0, 0, .int (nI 1)), (94, .aload_n 0, 1, 0, 0, zU), (95, .getfield 77, 3, 10, 18, zU), (98, .invokevirtual 94, 3, 44, 3, .retAddr 10), (101, .ifCond .eq 13, 3, 114, 0, zU), (104, .aload_n 0, 1, 0, 0, zU), (105, .dup, 1, 0, 0, zU), (106, .getfield 77, 3, 10, 18, zU), (109, .iconst 1, 1, 0, 0, .int (nI 1)), (110, .iadd, 1, 0, 0, zU), (111, .putfield 77, 3, 10, 18, zU), (114, .iload_n 2, 1, 2, 0, zU), (115, .ifCond .eq 14, 3, 129, 0, zU), (118, .aload_n 0, 1, 0, 0, zU), (119, .getfield 80, 3, 10, 20, zU), (122, .ifCond .ne 7, 3, 129, 0, zU), (125, .iconst 1, 1, 0, 0, .int (nI 1)), (126, .goto 4, 3, 130, 0, zU), (129, .iconst 0, 1, 0, 0, .int (nI 0)), (130, .istore_n 2, 1, 2, 0, zU), (131, .goto (-112), 3, 19, 0, zU), (134, .return_, 1, 0, 0, zU)]
/-- Model.takeGlass(I)V -/
def zc163 : List zE := [(0, .aload_n 0, 1, 0, 0, zU), (1, .aload_n 0, 1, 0, 0, zU), (2, .getfield 109, 3, 10, 10, zU), (5, .bipush 7, 2, 0, 0, .int (nI 7)), (7, .if_icmp .ge 7, 3, 14, 0, zU), (10, .iconst 1, 1, 0, 0, .int (nI 1)), (11, .goto 4, 3, 15, 0, zU), (14, .iconst 0, 1, 0, 0, .int (nI 0)), (15, .iconst 3, 1, 0, 0, .int (nI 3)), (16, .iload_n 1, 1, 1, 0, zU), (17, .invokevirtual 94, 3, 44, 3, .retAddr 10), (20, .ifCond .eq 51, 3, 71, 0, zU), (23, .aload_n 0, 1, 0, 0, zU), (24, .getfield 20, 3, 10, 3, zU), (27, .bipush 7, 2, 0, 0, .int (nI 7)), (29, .aload_n 0, 1, 0, 0, zU), (30, .getfield 109, 3, 10, 10, zU), (33, .iadd, 1, 0, 0, zU), (34, .aload_n 0, 1, 0, 0, zU), (35, .iconst 0, 1, 0, 0, .int (nI 0)), (36, .bipush 10, 2, 0, 0, .int (nI 10)), (38, .invokevirtual 105, 3, 139, 2, .retAddr 10), (41, .iastore, 1, 0, 0, zU), (42, .aload_n 0, 1, 0, 0, zU), (43, .getfield 23, 3, 10, 4, zU), (46, .bipush 7, 2, 0, 0, .int (nI 7)), (48, .aload_n 0, 1, 0, 0, zU), (49, .getfield 109, 3, 10, 10, zU), (52, .iadd, 1, 0, 0, zU), (53, .aload_n 0, 1, 0, 0, zU), (54, .iconst 0, 1, 0, 0, .int (nI 0)), (55, .bipush 9, 2, 0, 0, .int (nI 9)), (57, .invokevirtual 105, 3, 139, 2, .retAddr 10), (60, .iastore, 1, 0, 0, zU), (61, .aload_n 0, 1, 0, 0, zU), (62, .dup, 1, 0, 0, zU), (63, .getfield 109, 3, 10, 10, zU), (66, .iconst 1, 1, 0, 0, .int (nI 1)), (67, .iadd, 1, 0, 0, zU), (68, .putfield 109, 3, 10, 10, zU), (71, .return_, 1, 0, 0, zU)]
/-- Model.takeBoat(I)V -/
def zc164 : List zE := [(0, .aload_n 0, 1, 0, 0, zU), (1, .aload_n 0, 1, 0, 0, zU), (2, .getfield 112, 3, 10, 12, zU), (5, .iconst 5, 1, 0, 0, .int (nI 5)), (6, .if_icmp .ge 7, 3, 13, 0, zU), (9, .iconst 1, 1, 0, 0, .int (nI 1)), (10, .goto 4, 3, 14, 0, zU), (13, .iconst 0, 1, 0, 0, .int (nI 0)), (14, .iconst 3, 1, 0, 0, .int (nI 3)), (15, .iload_n 1, 1, 1, 0, zU), (16, .invokevirtual 94, 3, 44, 3, .retAddr 10), (19, .ifCond .eq 49, 3, 68, 0, zU), (22, .aload_n 0, 1, 0, 0, zU), (23, .getfield 26, 3, 10, 5, zU), (26, .iconst 5, 1, 0, 0, .int (nI 5)), (27, .aload_n 0, 1, 0, 0, zU), (28, .getfield 112, 3, 10, 12, zU), (31, .iadd, 1, 0, 0, zU), (32, .aload_n 0, 1, 0, 0, zU), (33, .iconst 0, 1, 0, 0, .int (nI 0)), (34, .bipush 9, 2, 0, 0, .int (nI 9)), (36, .invokevirtual 105, 3, 139, 2, .retAddr 10), (39, .iastore, 1, 0, 0, zU), (40, .aload_n 0, 1, 0, 0, zU), (41, .getfield 29, 3, 10, 6, zU), (44, .iconst 5, 1, 0, 0, .int (nI 5)), (45, .aload_n 0, 1, 0, 0, zU), (46, .getfield 112, 3, 10, 12, zU), (49, .iadd, 1, 0, 0, zU), (50, .aload_n 0, 1, 0, 0, zU), (51, .iconst 0, 1, 0, 0, .int (nI 0)), (52, .bipush 9, 2, 0, 0, .int (nI 9)), (54, .invokevirtual 105, 3, 139, 2, .retAddr 10), (57, .iastore, 1, 0, 0, zU), (58, .aload_n 0, 1, 0, 0, zU), (59, .dup, 1, 0, 0, zU), (60, .getfield 112, 3, 10, 12, zU), (63, .iconst 1, 1, 0, 0, .int (nI 1)), (64, .iadd, 1, 0, 0, zU), (65, .putfield 112, 3, 10, 12, zU), (68, .return_, 1, 0, 0, zU)]
/-- Model.takeDrinks(I)V -/
def zc165 : List zE := [(0, .aload_n 0, 1, 0, 0, zU), (1, .aload_n 0, 1, 0, 0, zU), (2, .getfield 115, 3, 10, 15, zU), (5, .ifCond .ne 7, 3, 12, 0, zU), (8, .iconst 1, 1, 0, 0, .int (nI 1)), (9, .goto 4, 3, 13, 0, zU), (12, .iconst 0, 1, 0, 0, .int (nI 0)), (13, .iconst 3, 1, 0, 0, .int (nI 3)), (14, .iload_n 1, 1, 1, 0, zU), (15, .invokevirtual 94, 3, 44, 3, .retAddr 10), (18, .ifCond .eq 19, 3, 37, 0, zU), (21, .aload_n 0, 1, 0, 0, zU), (22, .aload_n 0, 1, 0, 0, zU), (23, .iconst 0, 1, 0, 0, .int (nI 0)), (24, .bipush 20, 2, 0, 0, .int (nI 20)), (26, .invokevirtual 105, 3, 139, 2, .retAddr 10), (29, .putfield 119, 3, 10, 14, zU), (32, .aload_n 0, 1, 0, 0, zU), (33, .iconst 1, 1, 0, 0, .int (nI 1)), (34, .putfield 115, 3, 10, 15, zU), (37, .return_, 1, 0, 0, zU)]
/-- Model.reads(II)I -/
def zc166 : List zE := [(0, .aload_n 0, 1, 0, 0, zU), (1, .iload_n 1, 1, 1, 0, zU), (2, .invokevirtual 175, 3, 94, 1, .retAddr 10), (5, .aload_n 0, 1, 0, 0, zU), (6, .getfield 7, 3, 10, 0, zU), (9, .iload_n 1, 1, 1, 0, zU), (10, .iload_n 2, 1, 2, 0, zU), (11, .iadd, 1, 0, 0, zU), (12, .iaload, 1, 0, 0, zU), (13, .aload_n 0, 1, 0, 0, zU), (14, .getfield 7, 3, 10, 0, zU), (17, .iload_n 1, 1, 1, 0, zU), (18, .bipush 14, 2, 0, 0, .int (nI 14)), (20, .iadd, 1, 0, 0, zU), (21, .iload_n 2, 1, 2, 0, zU), (22, .iadd, 1, 0, 0, zU), (23, .iaload, 1, 0, 0, zU), (24, .ifCond .le 7, 3, 31, 0, zU), (27, .iconst 1, 1, 0, 0, .int (nI 1)), (28, .goto 4, 3, 32, 0, zU), (31, .iconst 0, 1, 0, 0, .int (nI 0)), (32, .invokestatic 178, 3, 140, 3, zU), (35, .ireturn, 1, 0, 0, zU)]
/-- Model.glad(II)I -/
def zc167 : List zE := [(0, .aload_n 0, 1, 0, 0, zU), (1, .iload_n 1, 1, 1, 0, zU), (2, .invokevirtual 212, 3, 91, 1, .retAddr 10), (5, .ifCond .ne 6, 3, 11, 0, zU), (8, .ldc 216, 2, 0, 0, .int ((-1000000001))), (10, .ireturn, 1, 0, 0, zU), (11, .iload_n 2, 1, 2, 0, zU), (12, .i2l, 1, 0, 0, zU), (13, .lconst 0, 1, 0, 0, .long (lN 0)), (14, .ldc2_w 209, 3, 0, 0, .long (lN 60)), (17, .invokestatic 68, 3, 37, 3, zU), (20, .ifCond .eq 15, 3, 35, 0, zU), (23, .aload_n 0, 1, 0, 0, zU), (24, .bipush 14, 2, 0, 0, .int (nI 14)), (26, .iload_n 1, 1, 1, 0, zU), (27, .iadd, 1, 0, 0, zU), (28, .iload_n 2, 1, 2, 0, zU), (29, .invokevirtual 245, 3, 144, 2, .retAddr 10), (32, .goto 5, 3, 37, 0, zU), (35, .ldc 72, 2, 0, 0, .int ((-1000000002))), (37, .ireturn, 1, 0, 0, zU)]
/-- Model.weigh(II)I -/
def zc168 : List zE := [(0, .aload_n 0, 1, 0, 0, zU), (1, .iload_n 1, 1, 1, 0, zU), (2, .invokevirtual 212, 3, 91, 1, .retAddr 10), (5, .ifCond .ne 6, 3, 11, 0, zU), (8, .ldc 216, 2, 0, 0, .int ((-1000000001))), (10, .ireturn, 1, 0, 0, zU), (11, .iload_n 2, 1, 2, 0, zU), (12, .i2l, 1, 0, 0, zU), (13, .lconst 0, 1, 0, 0, .long (lN 0)), (14, .ldc2_w 248, 3, 0, 0, .long (lN 9)), (17, .invokestatic 68, 3, 37, 3, zU), (20, .ifCond .eq 15, 3, 35, 0, zU), (23, .aload_n 0, 1, 0, 0, zU), (24, .bipush 7, 2, 0, 0, .int (nI 7)), (26, .iload_n 1, 1, 1, 0, zU), (27, .iadd, 1, 0, 0, zU), (28, .iload_n 2, 1, 2, 0, zU), (29, .invokevirtual 245, 3, 144, 2, .retAddr 10), (32, .goto 5, 3, 37, 0, zU), (35, .ldc 72, 2, 0, 0, .int ((-1000000002))), (37, .ireturn, 1, 0, 0, zU)]
/-- Model.hold(IZ)I -/
def zc169 : List zE := [(0, .aload_n 0, 1, 0, 0, zU), (1, .iload_n 1, 1, 1, 0, zU), (2, .invokevirtual 217, 3, 92, 1, .retAddr 10), (5, .ifCond .ne 6, 3, 11, 0, zU), (8, .ldc 216, 2, 0, 0, .int ((-1000000001))), (10, .ireturn, 1, 0, 0, zU), (11, .aload_n 0, 1, 0, 0, zU), (12, .getfield 7, 3, 10, 0, zU), (15, .bipush 22, 2, 0, 0, .int (nI 22)), (17, .iaload, 1, 0, 0, zU), (18, .istore_n 3, 1, 3, 0, zU), (19, .aload_n 0, 1, 0, 0, zU), (20, .bipush 22, 2, 0, 0, .int (nI 22)), (22, .iload_n 2, 1, 2, 0, zU), (23, .ifCond .eq 11, 3, 34, 0, zU), (26, .iload_n 3, 1, 3, 0, zU), (27, .iconst 1, 1, 0, 0, .int (nI 1)), (28, .iload_n 1, 1, 1, 0, zU), (29, .ishl, 1, 0, 0, zU), (30, .ior, 1, 0, 0, zU), (31, .goto 10, 3, 41, 0, zU), (34, .iload_n 3, 1, 3, 0, zU), (35, .iconst 1, 1, 0, 0, .int (nI 1)), (36, .iload_n 1, 1, 1, 0, zU), (37, .ishl, 1, 0, 0, zU), (38, .iconst (-1), 1, 0, 0, .int ((-1))), (39, .ixor, 1, 0, 0, zU), (40, .iand, 1, 0, 0, zU), (41, .invokevirtual 245, 3, 144, 2, .retAddr 10), (44, .istore 4, 2, 4, 0, zU), (46, .iload 4, 2, 4, 0, zU), (48, .iload_n 1, 1, 1, 0, zU), (49, .invokestatic 185, 3, 42, 2, zU), (52, .invokestatic 196, 3, 41, 1, zU), (55, .ireturn, 1, 0, 0, zU)]
/-- Model.layGlass(I)V -/
def zc170 : List zE := [(0, .iconst 0, 1, 0, 0, .int (nI 0)), (1, .istore_n 2, 1, 2, 0, zU), (2, .iload_n 2, 1, 2, 0, zU), (3, .sipush 568, 3, 0, 0, .int (nI 568)), (6, .if_icmp .ge 18, 3, 24, 0, zU), (9, .aload_n 0, 1, 0, 0, zU), (10, .getfield 51, 3, 10, 27, zU), (13, .iload_n 2, 1, 2, 0, zU), (14, .ldc_w 278, 3, 0, 0, .int (nI 99999999)), (17, .iastore, 1, 0, 0, zU), (18, .iinc 2 1, 3, 2, 0, .int (nI 1)), (21, .goto (-19), 3, 2, 0, zU), (24, .iconst 0, 1, 0, 0, .int (nI 0)), (25, .istore_n 2, 1, 2, 0, zU), (26, .iload_n 2, 1, 2, 0, zU), (27, .bipush 11, 2, 0, 0, .int (nI 11)), (29, .if_icmp .ge 104, 3, 133, 0, zU), (32, .aload_n 0, 1, 0, 0, zU), (33, .getfield 7, 3, 10, 0, zU), (36, .bipush 7, 2, 0, 0, .int (nI 7)), (38, .iload_n 1, 1, 1, 0, zU), (39, .iadd, 1, 0, 0, zU), (40, .iaload, 1, 0, 0, zU), (41, .aload_n 0, 1, 0, 0, zU), (42, .iconst 0, 1, 0, 0, .int (nI 0)), (43, .invokevirtual 175, 3, 94, 1, .retAddr 10), (46, .iload_n 2, 1, 2, 0, zU), (47, .aload_n 0, 1, 0, 0, zU), (48, .getfield 7, 3, 10, 0, zU), (51, .bipush 14, 2, 0, 0, .int (nI 14)), (53, .iload_n 1, 1, 1, 0, zU), (54, .iadd, 1, 0, 0, zU), (55, .iaload, 1, 0, 0, zU), (56, .ifCond .le 7, 3, 63, 0, zU), (59, .iconst 1, 1, 0, 0, .int (nI 1)), (60, .goto 4, 3, 64, 0, zU), (63, .iconst 0, 1, 0, 0, .int (nI 0)), (64, .invokestatic 178, 3, 140, 3, zU), (67, .imul, 1, 0, 0, zU), (68, .istore_n 3, 1, 3, 0, zU), (69, .iconst 0, 1, 0, 0, .int (nI 0)), (70, .istore 4, 2, 4, 0, zU), (72, .iload 4, 2, 4, 0, zU), (74, .iload_n 3, 1, 3, 0, zU), (75, .iadd, 1, 0, 0, zU), (76, .sipush 568, 3, 0, 0, .int (nI 568)), (79, .if_icmp .ge 48, 3, 127, 0, zU), (82, .aload_n 0, 1, 0, 0, zU), (83, .getfield 51, 3, 10, 27, zU), (86, .iload 4, 2, 4, 0, zU), (88, .iload_n 3, 1, 3, 0, zU), (89, .iadd, 1, 0, 0, zU), (90, .aload_n 0, 1, 0, 0, zU), (91, .getfield 51, 3, 10, 27, zU), (94, .iload 4, 2, 4, 0, zU), (96, .iload_n 3, 1, 3, 0, zU), (97, .iadd, 1, 0, 0, zU), (98, .iaload, 1, 0, 0, zU), (99, .aload_n 0, 1, 0, 0, zU), (100, .getfield 48, 3, 10, 26, zU), (103, .iload 4, 2, 4, 0, zU), (105, .iaload, 1, 0, 0, zU), (106, .iload_n 2, 1, 2, 0, zU), (107, .aload_n 0, 1, 0, 0, zU), (108, .getfield 7, 3, 10, 0, zU), (111, .iload_n 1, 1, 1, 0, zU), (112, .iaload, 1, 0, 0, zU), (113, .invokestatic 272, 3, 40, 2, zU), (116, .iadd, 1, 0, 0, zU), (117, .invokestatic 166, 3, 38, 2, zU), (120, .iastore, 1, 0, 0, zU), (121, .iinc 4 1, 3, 4, 0, .int (nI 1)), (124, .goto (-52), 3, 72, 0, zU), (127, .iinc 2 1, 3, 2, 0, .int (nI 1)), (130, .goto (-104), 3, 26, 0, zU), (133, .iconst 0, 1, 0, 0, .int (nI 0)), (134, .istore_n 2, 1, 2, 0, zU), (135, .iload_n 2, 1, 2, 0, zU), (136, .sipush 568, 3, 0, 0, .int (nI 568)), (139, .if_icmp .ge 21, 3, 160, 0, zU), (142, .aload_n 0, 1, 0, 0, zU), (143, .getfield 48, 3, 10, 26, zU), (146, .iload_n 2, 1, 2, 0, zU), (147, .aload_n 0, 1, 0, 0, zU), (148, .getfield 51, 3, 10, 27, zU), (151, .iload_n 2, 1, 2, 0, zU), (152, .iaload, 1, 0, 0, zU), (153, .iastore, 1, 0, 0, zU), (154, .iinc 2 1, 3, 2, 0, .int (nI 1)), (157, .goto (-22), 3, 135, 0, zU), (160, .return_, 1, 0, 0, zU)]
/-- Model.wouldRead(II)I -/
def zc171 : List zE := [(0, .iload_n 2, 1, 2, 0, zU), (1, .aload_n 0, 1, 0, 0, zU), (2, .getfield 7, 3, 10, 0, zU), (5, .iload_n 1, 1, 1, 0, zU), (6, .iaload, 1, 0, 0, zU), (7, .aload_n 0, 1, 0, 0, zU), (8, .getfield 7, 3, 10, 0, zU), (11, .bipush 14, 2, 0, 0, .int (nI 14)), (13, .iload_n 1, 1, 1, 0, zU), (14, .iadd, 1, 0, 0, zU), (15, .iaload, 1, 0, 0, zU), (16, .ifCond .le 7, 3, 23, 0, zU), (19, .iconst 1, 1, 0, 0, .int (nI 1)), (20, .goto 4, 3, 24, 0, zU), (23, .iconst 0, 1, 0, 0, .int (nI 0)), (24, .invokestatic 178, 3, 140, 3, zU), (27, .ireturn, 1, 0, 0, zU)]
/-- Fleet.passDay()V -/
def zc172 : List zE := [(0, .aload_n 0, 1, 0, 0, zU), (1, .getfield 33, 3, 2, 2, zU), (4, .iconst 0, 1, 0, 0, .int (nI 0)), (5, .invokevirtual 63, 3, 116, 1, .retAddr 6), (8, .istore_n 1, 1, 1, 0, zU), (9, .aload_n 0, 1, 0, 0, zU), (10, .getfield 33, 3, 2, 2, zU), (13, .iconst 1, 1, 0, 0, .int (nI 1)), (14, .invokevirtual 75, 3, 21, 1, .retAddr 6), (17, .istore_n 2, 1, 2, 0, zU), (18, .aload_n 0, 1, 0, 0, zU), (19, .invokevirtual 78, 3, 150, 0, .retAddr 2), (22, .istore_n 3, 1, 3, 0, zU), (23, .iconst 0, 1, 0, 0, .int (nI 0)), (24, .istore 4, 2, 4, 0, zU), (26, .iload 4, 2, 4, 0, zU), (28, .aload_n 0, 1, 0, 0, zU), (29, .getfield 25, 3, 2, 0, zU), (32, .getfield 37, 3, 0, 2, zU), (35, .if_icmp .ge 25, 3, 60, 0, zU), (38, .iload_n 3, 1, 3, 0, zU), (39, .iload 4, 2, 4, 0, zU), (41, .invokestatic 59, 3, 36, 2, zU), (44, .ifCond .eq 10, 3, 54, 0, zU), (47, .aload_n 0, 1, 0, 0, zU), (48, .iload 4, 2, 4, 0, zU), (50, .iload_n 2, 1, 2, 0, zU), (51, .invokevirtual 82, 3, 8, 2, .retAddr 2), (54, .iinc 4 1, 3, 4, 0, .int (nI 1)), (57, .goto (-31), 3, 26, 0, zU), (60, .aload_n 0, 1, 0, 0, zU), (61, .getfield 29, 3, 2, 1, zU), (64, .iload_n 1, 1, 1, 0, zU), (65, .iload_n 2, 1, 2, 0, zU), (66, .iload_n 3, 1, 3, 0, zU), (67, .invokestatic 47, 3, 57, 1, zU), (70, .invokevirtual 86, 3, 26, 3, .retAddr 7), (73, .iconst 0, 1, 0, 0, .int (nI 0)), (74, .istore 4, 2, 4, 0, zU), (76, .iload 4, 2, 4, 0, zU), (78, .aload_n 0, 1, 0, 0, zU), (79, .getfield 25, 3, 2, 0, zU), (82, .getfield 90, 3, 0, 1, zU), (85, .if_icmp .ge 35, 3, 120, 0, zU), (88, .aload_n 0, 1, 0, 0, zU), (89, .getfield 29, 3, 2, 1, zU), (92, .getfield 93, 3, 7, 6, zU), (95, .iload 4, 2, 4, 0, zU), (97, .aload_n 0, 1, 0, 0, zU), (98, .getfield 29, 3, 2, 1, zU), (101, .getfield 93, 3, 7, 6, zU), (104, .iload 4, 2, 4, 0, zU), (106, .iaload, 1, 0, 0, zU), (107, .iconst 1, 1, 0, 0, .int (nI 1)), (108, .isub, 1, 0, 0, zU), (109, .iconst 0, 1, 0, 0, .int (nI 0)), (110, .invokestatic 96, 3, 9001, 2, zU), (113, .iastore, 1, 0, 0, zU), (114, .iinc 4 1, 3, 4, 0, .int (nI 1)), (117, .goto (-41), 3, 76, 0, zU), (120, .aload_n 0, 1, 0, 0, zU), (121, .getfield 29, 3, 2, 1, zU), (124, .aload_n 0, 1, 0, 0, zU), (125, .getfield 25, 3, 2, 0, zU), (128, .getfield 102, 3, 0, 3, zU), (131, .putfield 105, 3, 7, 1, zU), (134, .aload_n 0, 1, 0, 0, zU), (135, .getfield 29, 3, 2, 1, zU), (138, .dup, 1, 0, 0, zU), (139, .getfield 108, 3, 7, 0, zU), (142, .iconst 1, 1, 0, 0, .int (nI 1)), (143, .iadd, 1, 0, 0, zU), (144, .putfield 108, 3, 7, 0, zU), (147, .return_, 1, 0, 0, zU)]
/-- Fleet.catchWithin(II)I -/
def zc173 : List zE := [(0, .aload_n 0, 1, 0, 0, zU), (1, .iload_n 1, 1, 1, 0, zU), (2, .invokevirtual 68, 3, 62, 1, .retAddr 2), (5, .ifCond .ne 5, 3, 10, 0, zU), (8, .iconst 0, 1, 0, 0, .int (nI 0)), (9, .ireturn, 1, 0, 0, zU), (10, .aload_n 0, 1, 0, 0, zU), (11, .iload_n 2, 1, 2, 0, zU), (12, .invokevirtual 118, 3, 151, 1, .retAddr 2), (15, .aload_n 0, 1, 0, 0, zU), (16, .getfield 25, 3, 2, 0, zU), (19, .getfield 72, 3, 0, 8, zU), (22, .iload_n 1, 1, 1, 0, zU), (23, .iaload, 1, 0, 0, zU), (24, .istore_n 3, 1, 3, 0, zU), (25, .aload_n 0, 1, 0, 0, zU), (26, .iload_n 1, 1, 1, 0, zU), (27, .iload_n 3, 1, 3, 0, zU), (28, .aload_n 0, 1, 0, 0, zU), (29, .iload_n 1, 1, 1, 0, zU), (30, .iload_n 3, 1, 3, 0, zU), (31, .iload_n 2, 1, 2, 0, zU), (32, .invokevirtual 122, 3, 9, 3, .retAddr 2), (35, .invokevirtual 126, 3, 10, 3, .retAddr 2), (38, .ireturn, 1, 0, 0, zU)]
/-- Fleet.lostWithin(I)I -/
def zc174 : List zE := [(0, .aload_n 0, 1, 0, 0, zU), (1, .iload_n 1, 1, 1, 0, zU), (2, .invokevirtual 118, 3, 151, 1, .retAddr 2), (5, .iconst 0, 1, 0, 0, .int (nI 0)), (6, .istore_n 2, 1, 2, 0, zU), (7, .iconst 0, 1, 0, 0, .int (nI 0)), (8, .istore_n 3, 1, 3, 0, zU), (9, .iload_n 3, 1, 3, 0, zU), (10, .aload_n 0, 1, 0, 0, zU), (11, .getfield 25, 3, 2, 0, zU), (14, .getfield 37, 3, 0, 2, zU), (17, .if_icmp .ge 42, 3, 59, 0, zU), (20, .aload_n 0, 1, 0, 0, zU), (21, .iload_n 3, 1, 3, 0, zU), (22, .invokevirtual 68, 3, 62, 1, .retAddr 2), (25, .ifCond .eq 28, 3, 53, 0, zU), (28, .aload_n 0, 1, 0, 0, zU), (29, .iload_n 3, 1, 3, 0, zU), (30, .aload_n 0, 1, 0, 0, zU), (31, .getfield 25, 3, 2, 0, zU), (34, .getfield 72, 3, 0, 8, zU), (37, .iload_n 3, 1, 3, 0, zU), (38, .iaload, 1, 0, 0, zU), (39, .iload_n 1, 1, 1, 0, zU), (40, .invokevirtual 122, 3, 9, 3, .retAddr 2), (43, .iload_n 1, 1, 1, 0, zU), (44, .if_icmp .ge 9, 3, 53, 0, zU), (47, .iload_n 2, 1, 2, 0, zU), (48, .iconst 1, 1, 0, 0, .int (nI 1)), (49, .iload_n 3, 1, 3, 0, zU), (50, .ishl, 1, 0, 0, zU), (51, .ior, 1, 0, 0, zU), (52, .istore_n 2, 1, 2, 0, zU), (53, .iinc 3 1, 3, 3, 0, .int (nI 1)), (56, .goto (-47), 3, 9, 0, zU), (59, .iload_n 2, 1, 2, 0, zU), (60, .ireturn, 1, 0, 0, zU)]
/-- Fleet.tryLimits(I)V -/
def zc175 : List zE := [(0, .aload_n 0, 1, 0, 0, zU), (1, .bipush 14, 2, 0, 0, .int (nI 14)), (3, .invokevirtual 118, 3, 151, 1, .retAddr 2), (6, .iconst 0, 1, 0, 0, .int (nI 0)), (7, .istore_n 2, 1, 2, 0, zU), (8, .iload_n 2, 1, 2, 0, zU), (9, .bipush 9, 2, 0, 0, .int (nI 9)), (11, .if_icmp .gt 64, 3, 75, 0, zU), (14, .aload_n 0, 1, 0, 0, zU), (15, .iload_n 1, 1, 1, 0, zU), (16, .iload_n 2, 1, 2, 0, zU), (17, .bipush 14, 2, 0, 0, .int (nI 14)), (19, .invokevirtual 122, 3, 9, 3, .retAddr 2), (22, .istore_n 3, 1, 3, 0, zU), (23, .aload_n 0, 1, 0, 0, zU), (24, .iload_n 1, 1, 1, 0, zU), (25, .iload_n 2, 1, 2, 0, zU), (26, .iload_n 3, 1, 3, 0, zU), (27, .invokevirtual 126, 3, 10, 3, .retAddr 2), (30, .iload_n 3, 1, 3, 0, zU), (31, .bipush 14, 2, 0, 0, .int (nI 14)), (33, .if_icmp .ge 8, 3, 41, 0, zU), (36, .bipush 20, 2, 0, 0, .int (nI 20)), (38, .goto 4, 3, 42, 0, zU), (41, .iconst 0, 1, 0, 0, .int (nI 0)), (42, .isub, 1, 0, 0, zU), (43, .istore 4, 2, 4, 0, zU), (45, .iload_n 2, 1, 2, 0, zU), (46, .ifCond .eq 12, 3, 58, 0, zU), (49, .iload 4, 2, 4, 0, zU), (51, .aload_n 0, 1, 0, 0, zU), (52, .getfield 22, 3, 2, 6, zU), (55, .if_icmp .le 14, 3, 69, 0, zU), (58, .aload_n 0, 1, 0, 0, zU), (59, .iload_n 2, 1, 2, 0, zU), (60, .putfield 18, 3, 2, 5, zU), (63, .aload_n 0, 1, 0, 0, zU), (64, .iload 4, 2, 4, 0, zU), (66, .putfield 22, 3, 2, 6, zU), (69, .iinc 2 1, 3, 2, 0, .int (nI 1)), (72, .goto (-64), 3, 8, 0, zU), (75, .return_, 1, 0, 0, zU)]
/-- Reader.read(LGladGlasses$Coast;)I -/
def zc176 : List zE := [(0, .aload_n 1, 1, 1, 0, zU), (1, .invokevirtual 28, 3, 0, 0, .retAddr 0), (4, .aload_n 0, 1, 0, 0, zU), (5, .iconst 0, 1, 0, 0, .int (nI 0)), (6, .putfield 19, 3, 5, 2, zU), (9, .aload_n 0, 1, 0, 0, zU), (10, .iconst 0, 1, 0, 0, .int (nI 0)), (11, .putfield 22, 3, 5, 3, zU), (14, .aload_n 0, 1, 0, 0, zU), (15, .iconst (-1), 1, 0, 0, .int ((-1))), (16, .putfield 25, 3, 5, 4, zU), (19, .iconst 0, 1, 0, 0, .int (nI 0)), (20, .istore_n 2, 1, 2, 0, zU), (21, .iload_n 2, 1, 2, 0, zU), (22, .sipush 240, 3, 0, 0, .int (nI 240)), (25, .if_icmp .ge 29, 3, 54, 0, zU), (28, .aload_n 0, 1, 0, 0, zU), (29, .getfield 22, 3, 5, 3, zU), (32, .ifCond .ne 22, 3, 54, 0, zU), (35, .aload_n 0, 1, 0, 0, zU), (36, .invokevirtual 33, 3, 19, 0, .retAddr 5), (39, .iconst (-1), 1, 0, 0, .int ((-1))), (40, .if_icmp .eq 14, 3, 54, 0, zU), (43, .aload_n 0, 1, 0, 0, zU), (44, .aload_n 1, 1, 1, 0, zU), (45, .invokevirtual 37, 3, 153, 1, .retAddr 5), (48, .iinc 2 1, 3, 2, 0, .int (nI 1)), (51, .goto (-30), 3, 21, 0, zU), (54, .aload_n 1, 1, 1, 0, zU), (55, .getfield 41, 3, 0, 0, zU), (58, .ifCond .le 15, 3, 73, 0, zU), (61, .aload_n 1, 1, 1, 0, zU), (62, .getfield 44, 3, 0, 4, zU), (65, .ifCond .ne 8, 3, 73, 0, zU), (68, .aload_n 1, 1, 1, 0, zU), (69, .iconst 3, 1, 0, 0, .int (nI 3)), (70, .putfield 48, 3, 0, 3, zU), (73, .aload_n 0, 1, 0, 0, zU), (74, .iconst 0, 1, 0, 0, .int (nI 0)), (75, .putfield 15, 3, 5, 1, zU), (78, .aload_n 0, 1, 0, 0, zU), (79, .getfield 22, 3, 5, 3, zU), (82, .ireturn, 1, 0, 0, zU)]
/-- GG.told(I)I -/
def zc177 : List zE := [(0, .iload_n 1, 1, 1, 0, zU), (1, .tableswitch 219 0 15 #[79, 87, 95, 103, 111, 119, 139, 147, 155, 163, 171, 179, 187, 195, 203, 211], 79, 0, 0, zU), (80, .aload_n 0, 1, 0, 0, zU), (81, .getfield 23, 3, 9, 2, zU), (84, .getfield 120, 3, 0, 0, zU), (87, .ireturn, 1, 0, 0, zU), (88, .aload_n 0, 1, 0, 0, zU), (89, .getfield 23, 3, 9, 2, zU), (92, .getfield 114, 3, 0, 1, zU), (95, .ireturn, 1, 0, 0, zU), (96, .aload_n 0, 1, 0, 0, zU), (97, .getfield 23, 3, 9, 2, zU), (100, .getfield 123, 3, 0, 2, zU), (103, .ireturn, 1, 0, 0, zU), (104, .aload_n 0, 1, 0, 0, zU), (105, .getfield 12, 3, 9, 0, zU), (108, .getfield 92, 3, 5, 1, zU), (111, .ireturn, 1, 0, 0, zU), (112, .aload_n 0, 1, 0, 0, zU), (113, .getfield 29, 3, 9, 3, zU), (116, .getfield 126, 3, 7, 0, zU), (119, .ireturn, 1, 0, 0, zU), (120, .aload_n 0, 1, 0, 0, zU), (121, .invokevirtual 129, 3, 33, 0, .retAddr 9), (124, .ifCond .eq 7, 3, 131, 0, zU), (127, .iconst (-1), 1, 0, 0, .int ((-1))), (128, .goto 11, 3, 139, 0, zU), (131, .aload_n 0, 1, 0, 0, zU), (132, .getfield 38, 3, 9, 4, zU), (135, .iconst 0, 1, 0, 0, .int (nI 0)), (136, .invokevirtual 133, 3, 116, 1, .retAddr 6), (139, .ireturn, 1, 0, 0, zU), (140, .aload_n 0, 1, 0, 0, zU), (141, .getfield 29, 3, 9, 3, zU), (144, .getfield 137, 3, 7, 1, zU), (147, .ireturn, 1, 0, 0, zU), (148, .aload_n 0, 1, 0, 0, zU), (149, .getfield 47, 3, 9, 5, zU), (152, .invokevirtual 140, 3, 150, 0, .retAddr 2), (155, .ireturn, 1, 0, 0, zU), (156, .aload_n 0, 1, 0, 0, zU), (157, .getfield 29, 3, 9, 3, zU), (160, .getfield 144, 3, 7, 2, zU), (163, .ireturn, 1, 0, 0, zU), (164, .aload_n 0, 1, 0, 0, zU), (165, .getfield 29, 3, 9, 3, zU), (168, .getfield 147, 3, 7, 3, zU), (171, .ireturn, 1, 0, 0, zU), (172, .aload_n 0, 1, 0, 0, zU), (173, .getfield 38, 3, 9, 4, zU), (176, .invokevirtual 150, 3, 24, 0, .retAddr 6), (179, .ireturn, 1, 0, 0, zU), (180, .aload_n 0, 1, 0, 0, zU), (181, .getfield 47, 3, 9, 5, zU), (184, .invokevirtual 153, 3, 7, 0, .retAddr 2), (187, .ireturn, 1, 0, 0, zU), (188, .aload_n 0, 1, 0, 0, zU), (189, .getfield 29, 3, 9, 3, zU), (192, .getfield 156, 3, 7, 8, zU), (195, .ireturn, 1, 0, 0, zU), (196, .aload_n 0, 1, 0, 0, zU), (197, .getfield 61, 3, 9, 7, zU), (200, .getfield 159, 3, 4, 5, zU), (203, .ireturn, 1, 0, 0, zU), (204, .aload_n 0, 1, 0, 0, zU), (205, .getfield 61, 3, 9, 7, zU), (208, .getfield 162, 3, 4, 8, zU), (211, .ireturn, 1, 0, 0, zU), (212, .aload_n 0, 1, 0, 0, zU), (213, .getfield 68, 3, 9, 8, zU), (216, .getfield 165, 3, 1, 1, zU), (219, .ireturn, 1, 0, 0, zU), (220, .ldc 87, 2, 0, 0, .int ((-1000000002))), (222, .ireturn, 1, 0, 0, zU)]
/-- GG.error(I)I -/
def zc178 : List zE := [(0, .aload_n 0, 1, 0, 0, zU), (1, .iload_n 1, 1, 1, 0, zU), (2, .invokevirtual 253, 3, 138, 1, .retAddr 9), (5, .istore_n 2, 1, 2, 0, zU), (6, .iload_n 2, 1, 2, 0, zU), (7, .ifCond .eq 5, 3, 12, 0, zU), (10, .iload_n 2, 1, 2, 0, zU), (11, .ireturn, 1, 0, 0, zU), (12, .iload_n 1, 1, 1, 0, zU), (13, .iconst (-1), 1, 0, 0, .int ((-1))), (14, .if_icmp .ne 13, 3, 27, 0, zU), (17, .aload_n 0, 1, 0, 0, zU), (18, .getfield 54, 3, 9, 6, zU), (21, .invokevirtual 256, 3, 155, 0, .retAddr 8), (24, .goto 11, 3, 35, 0, zU), (27, .aload_n 0, 1, 0, 0, zU), (28, .getfield 54, 3, 9, 6, zU), (31, .iload_n 1, 1, 1, 0, zU), (32, .invokevirtual 259, 3, 119, 1, .retAddr 8), (35, .ireturn, 1, 0, 0, zU)]
/-- GG.truest(I)I -/
def zc179 : List zE := [(0, .iload_n 1, 1, 1, 0, zU), (1, .iconst 0, 1, 0, 0, .int (nI 0)), (2, .iconst 1, 1, 0, 0, .int (nI 1)), (3, .invokestatic 83, 3, 35, 3, zU), (6, .ifCond .eq 6, 3, 12, 0, zU), (9, .ldc 87, 2, 0, 0, .int ((-1000000002))), (11, .ireturn, 1, 0, 0, zU), (12, .aload_n 0, 1, 0, 0, zU), (13, .getfield 54, 3, 9, 6, zU), (16, .invokevirtual 262, 3, 156, 0, .retAddr 8), (19, .istore_n 2, 1, 2, 0, zU), (20, .iload_n 2, 1, 2, 0, zU), (21, .iconst (-1), 1, 0, 0, .int ((-1))), (22, .if_icmp .eq 7, 3, 29, 0, zU), (25, .iload_n 1, 1, 1, 0, zU), (26, .ifCond .ne 7, 3, 33, 0, zU), (29, .iload_n 2, 1, 2, 0, zU), (30, .goto 11, 3, 41, 0, zU), (33, .aload_n 0, 1, 0, 0, zU), (34, .getfield 54, 3, 9, 6, zU), (37, .iload_n 2, 1, 2, 0, zU), (38, .invokevirtual 259, 3, 119, 1, .retAddr 8), (41, .ireturn, 1, 0, 0, zU)]
/-- GG.bestWeights(I)I -/
def zc180 : List zE := [(0, .aload_n 0, 1, 0, 0, zU), (1, .iload_n 1, 1, 1, 0, zU), (2, .invokevirtual 253, 3, 138, 1, .retAddr 9), (5, .istore_n 2, 1, 2, 0, zU), (6, .iload_n 2, 1, 2, 0, zU), (7, .ifCond .eq 5, 3, 12, 0, zU), (10, .iload_n 2, 1, 2, 0, zU), (11, .ireturn, 1, 0, 0, zU), (12, .aload_n 0, 1, 0, 0, zU), (13, .getfield 54, 3, 9, 6, zU), (16, .invokevirtual 265, 3, 157, 0, .retAddr 8), (19, .istore_n 3, 1, 3, 0, zU), (20, .iload_n 1, 1, 1, 0, zU), (21, .iconst (-1), 1, 0, 0, .int ((-1))), (22, .if_icmp .ne 7, 3, 29, 0, zU), (25, .iload_n 3, 1, 3, 0, zU), (26, .goto 12, 3, 38, 0, zU), (29, .aload_n 0, 1, 0, 0, zU), (30, .getfield 54, 3, 9, 6, zU), (33, .getfield 268, 3, 8, 7, zU), (36, .iload_n 1, 1, 1, 0, zU), (37, .iaload, 1, 0, 0, zU), (38, .ireturn, 1, 0, 0, zU)]
/-- GG.differ(I)I -/
def zc181 : List zE := [(0, .iload_n 1, 1, 1, 0, zU), (1, .iconst 0, 1, 0, 0, .int (nI 0)), (2, .iconst 1, 1, 0, 0, .int (nI 1)), (3, .invokestatic 83, 3, 35, 3, zU), (6, .ifCond .eq 6, 3, 12, 0, zU), (9, .ldc 87, 2, 0, 0, .int ((-1000000002))), (11, .ireturn, 1, 0, 0, zU), (12, .aload_n 0, 1, 0, 0, zU), (13, .getfield 38, 3, 9, 4, zU), (16, .invokevirtual 283, 3, 154, 0, .retAddr 6), (19, .istore_n 2, 1, 2, 0, zU), (20, .iload_n 2, 1, 2, 0, zU), (21, .iconst (-1), 1, 0, 0, .int ((-1))), (22, .if_icmp .eq 7, 3, 29, 0, zU), (25, .iload_n 1, 1, 1, 0, zU), (26, .ifCond .ne 7, 3, 33, 0, zU), (29, .iload_n 2, 1, 2, 0, zU), (30, .goto 18, 3, 48, 0, zU), (33, .aload_n 0, 1, 0, 0, zU), (34, .getfield 38, 3, 9, 4, zU), (37, .iload_n 2, 1, 2, 0, zU), (38, .bipush 100, 2, 0, 0, .int (nI 100)), (40, .idiv, 1, 0, 0, zU), (41, .iload_n 2, 1, 2, 0, zU), (42, .bipush 100, 2, 0, 0, .int (nI 100)), (44, .irem, 1, 0, 0, zU), (45, .invokevirtual 286, 3, 118, 2, .retAddr 6), (48, .ireturn, 1, 0, 0, zU)]
/-- GG.tapNext()I -/
def zc182 : List zE := [(0, .aload_n 0, 1, 0, 0, zU), (1, .getfield 61, 3, 9, 7, zU), (4, .invokevirtual 308, 3, 152, 0, .retAddr 4), (7, .ireturn, 1, 0, 0, zU)]
/-- Model.takeClause()V -/
def zc183 : List zE := [(0, .aload_n 0, 1, 0, 0, zU), (1, .invokevirtual 83, 3, 43, 0, .retAddr 10), (4, .istore_n 1, 1, 1, 0, zU), (5, .aload_n 0, 1, 0, 0, zU), (6, .getfield 77, 3, 10, 18, zU), (9, .istore_n 2, 1, 2, 0, zU), (10, .aload_n 0, 1, 0, 0, zU), (11, .dup, 1, 0, 0, zU), (12, .getfield 77, 3, 10, 18, zU), (15, .iconst 1, 1, 0, 0, .int (nI 1)), (16, .iadd, 1, 0, 0, zU), (17, .putfield 77, 3, 10, 18, zU), (20, .aload_n 0, 1, 0, 0, zU), (21, .iload_n 1, 1, 1, 0, zU), (22, .bipush 119, 2, 0, 0, .int (nI 119)), (24, .if_icmp .eq 10, 3, 34, 0, zU), (27, .aload_n 0, 1, 0, 0, zU), (28, .getfield 102, 3, 10, 8, zU), (31, .ifCond .le 7, 3, 38, 0, zU), (34, .iconst 1, 1, 0, 0, .int (nI 1)), (35, .goto 4, 3, 39, 0, zU), (38, .iconst 0, 1, 0, 0, .int (nI 0)), (39, .iconst 1, 1, 0, 0, .int (nI 1)), (40, .iload_n 2, 1, 2, 0, zU), (41, .invokevirtual 94, 3, 44, 3, .retAddr 10), (44, .ifCond .ne 4, 3, 48, 0, zU), (47, .return_, 1, 0, 0, zU), (48, .iload_n 1, 1, 1, 0, zU), (49, .lookupswitch 75 #[(98, 59), (100, 67), (103, 51), (119, 43)], 43, 0, 0, zU), (92, .aload_n 0, 1, 0, 0, zU), (93, .iload_n 2, 1, 2, 0, zU), (94, .invokevirtual 122, 3, 162, 1, .retAddr 10), (97, .goto 35, 3, 132, 0, zU), (100, .aload_n 0, 1, 0, 0, zU), (101, .iload_n 2, 1, 2, 0, zU), (102, .invokevirtual 126, 3, 163, 1, .retAddr 10), (105, .goto 27, 3, 132, 0, zU), (108, .aload_n 0, 1, 0, 0, zU), (109, .iload_n 2, 1, 2, 0, zU), (110, .invokevirtual 129, 3, 164, 1, .retAddr 10), (113, .goto 19, 3, 132, 0, zU), (116, .aload_n 0, 1, 0, 0, zU), (117, .iload_n 2, 1, 2, 0, zU), (118, .invokevirtual 132, 3, 165, 1, .retAddr 10), (121, .goto 11, 3, 132, 0, zU), (124, .aload_n 0, 1, 0, 0, zU), (125, .iconst 0, 1, 0, 0, .int (nI 0)), (126, .iconst 1, 1, 0, 0, .int (nI 1)), (127, .iload_n 2, 1, 2, 0, zU), (128, .invokevirtual 94, 3, 44, 3, .retAddr 10), (131, .istore_n 3, 1, 3, 0, zU), (132, .return_, 1, 0, 0, zU)]
/-- Model.rowTells(I)I -/
def zc184 : List zE := [(0, .iconst 0, 1, 0, 0, .int (nI 0)), (1, .istore_n 2, 1, 2, 0, zU), (2, .iconst 0, 1, 0, 0, .int (nI 0)), (3, .istore_n 3, 1, 3, 0, zU), (4, .iconst 0, 1, 0, 0, .int (nI 0)), (5, .istore 4, 2, 4, 0, zU), (7, .iload 4, 2, 4, 0, zU), (9, .aload_n 0, 1, 0, 0, zU), (10, .getfield 141, 3, 10, 9, zU), (13, .if_icmp .ge 47, 3, 60, 0, zU), (16, .iload_n 2, 1, 2, 0, zU), (17, .aload_n 0, 1, 0, 0, zU), (18, .getfield 7, 3, 10, 0, zU), (21, .iload_n 1, 1, 1, 0, zU), (22, .bipush 7, 2, 0, 0, .int (nI 7)), (24, .iadd, 1, 0, 0, zU), (25, .iload 4, 2, 4, 0, zU), (27, .iadd, 1, 0, 0, zU), (28, .iaload, 1, 0, 0, zU), (29, .aload_n 0, 1, 0, 0, zU), (30, .iload_n 1, 1, 1, 0, zU), (31, .iload 4, 2, 4, 0, zU), (33, .invokevirtual 182, 3, 166, 2, .retAddr 10), (36, .imul, 1, 0, 0, zU), (37, .iadd, 1, 0, 0, zU), (38, .istore_n 2, 1, 2, 0, zU), (39, .iload_n 3, 1, 3, 0, zU), (40, .aload_n 0, 1, 0, 0, zU), (41, .getfield 7, 3, 10, 0, zU), (44, .iload_n 1, 1, 1, 0, zU), (45, .bipush 7, 2, 0, 0, .int (nI 7)), (47, .iadd, 1, 0, 0, zU), (48, .iload 4, 2, 4, 0, zU), (50, .iadd, 1, 0, 0, zU), (51, .iaload, 1, 0, 0, zU), (52, .iadd, 1, 0, 0, zU), (53, .istore_n 3, 1, 3, 0, zU), (54, .iinc 4 1, 3, 4, 0, .int (nI 1)), (57, .goto (-50), 3, 7, 0, zU), (60, .iload_n 3, 1, 3, 0, zU), (61, .ifCond .ne 7, 3, 68, 0, zU), (64, .iconst 5, 1, 0, 0, .int (nI 5)), (65, .goto 6, 3, 71, 0, zU), (68, .iload_n 2, 1, 2, 0, zU), (69, .iload_n 3, 1, 3, 0, zU), (70, .idiv, 1, 0, 0, zU), (71, .ireturn, 1, 0, 0, zU)]
/-- Model.glass(II)I -/
def zc185 : List zE := [(0, .aload_n 0, 1, 0, 0, zU), (1, .iload_n 1, 1, 1, 0, zU), (2, .invokevirtual 212, 3, 91, 1, .retAddr 10), (5, .ifCond .ne 6, 3, 11, 0, zU), (8, .ldc 216, 2, 0, 0, .int ((-1000000001))), (10, .ireturn, 1, 0, 0, zU), (11, .iload_n 2, 1, 2, 0, zU), (12, .tableswitch 66 0 3 #[32, 39, 49, 56], 32, 0, 0, zU), (44, .aload_n 0, 1, 0, 0, zU), (45, .getfield 7, 3, 10, 0, zU), (48, .iload_n 1, 1, 1, 0, zU), (49, .iaload, 1, 0, 0, zU), (50, .ireturn, 1, 0, 0, zU), (51, .aload_n 0, 1, 0, 0, zU), (52, .getfield 7, 3, 10, 0, zU), (55, .bipush 7, 2, 0, 0, .int (nI 7)), (57, .iload_n 1, 1, 1, 0, zU), (58, .iadd, 1, 0, 0, zU), (59, .iaload, 1, 0, 0, zU), (60, .ireturn, 1, 0, 0, zU), (61, .aload_n 0, 1, 0, 0, zU), (62, .iconst 0, 1, 0, 0, .int (nI 0)), (63, .iload_n 1, 1, 1, 0, zU), (64, .invokevirtual 182, 3, 166, 2, .retAddr 10), (67, .ireturn, 1, 0, 0, zU), (68, .aload_n 0, 1, 0, 0, zU), (69, .getfield 7, 3, 10, 0, zU), (72, .bipush 14, 2, 0, 0, .int (nI 14)), (74, .iload_n 1, 1, 1, 0, zU), (75, .iadd, 1, 0, 0, zU), (76, .iaload, 1, 0, 0, zU), (77, .ireturn, 1, 0, 0, zU), (78, .ldc 72, 2, 0, 0, .int ((-1000000002))), (80, .ireturn, 1, 0, 0, zU)]
/-- Model.steps(I)I -/
def zc186 : List zE := [(0, .iload_n 1, 1, 1, 0, zU), (1, .i2l, 1, 0, 0, zU), (2, .lconst 0, 1, 0, 0, .long (lN 0)), (3, .ldc2_w 248, 3, 0, 0, .long (lN 9)), (6, .invokestatic 68, 3, 37, 3, zU), (9, .ifCond .ne 6, 3, 15, 0, zU), (12, .ldc 72, 2, 0, 0, .int ((-1000000002))), (14, .ireturn, 1, 0, 0, zU), (15, .aload_n 0, 1, 0, 0, zU), (16, .getfield 144, 3, 10, 7, zU), (19, .ifCond .ne 6, 3, 25, 0, zU), (22, .ldc 211, 2, 0, 0, .int ((-1000000003))), (24, .ireturn, 1, 0, 0, zU), (25, .iconst 0, 1, 0, 0, .int (nI 0)), (26, .istore_n 2, 1, 2, 0, zU), (27, .iconst 0, 1, 0, 0, .int (nI 0)), (28, .istore_n 3, 1, 3, 0, zU), (29, .iload_n 3, 1, 3, 0, zU), (30, .sipush 568, 3, 0, 0, .int (nI 568)), (33, .if_icmp .ge 26, 3, 59, 0, zU), (36, .aload_n 0, 1, 0, 0, zU), (37, .getfield 48, 3, 10, 26, zU), (40, .iload_n 3, 1, 3, 0, zU), (41, .iload_n 3, 1, 3, 0, zU), (42, .ifCond .ne 7, 3, 49, 0, zU), (45, .iconst 0, 1, 0, 0, .int (nI 0)), (46, .goto 6, 3, 52, 0, zU), (49, .ldc_w 278, 3, 0, 0, .int (nI 99999999)), (52, .iastore, 1, 0, 0, zU), (53, .iinc 3 1, 3, 3, 0, .int (nI 1)), (56, .goto (-27), 3, 29, 0, zU), (59, .iconst 0, 1, 0, 0, .int (nI 0)), (60, .istore_n 3, 1, 3, 0, zU), (61, .iload_n 3, 1, 3, 0, zU), (62, .aload_n 0, 1, 0, 0, zU), (63, .getfield 141, 3, 10, 9, zU), (66, .if_icmp .ge 26, 3, 92, 0, zU), (69, .aload_n 0, 1, 0, 0, zU), (70, .iload_n 3, 1, 3, 0, zU), (71, .invokevirtual 289, 3, 170, 1, .retAddr 10), (74, .iload_n 2, 1, 2, 0, zU), (75, .aload_n 0, 1, 0, 0, zU), (76, .getfield 7, 3, 10, 0, zU), (79, .bipush 7, 2, 0, 0, .int (nI 7)), (81, .iload_n 3, 1, 3, 0, zU), (82, .iadd, 1, 0, 0, zU), (83, .iaload, 1, 0, 0, zU), (84, .iadd, 1, 0, 0, zU), (85, .istore_n 2, 1, 2, 0, zU), (86, .iinc 3 1, 3, 3, 0, .int (nI 1)), (89, .goto (-28), 3, 61, 0, zU), (92, .iload_n 2, 1, 2, 0, zU), (93, .ifCond .ne 14, 3, 107, 0, zU), (96, .iload_n 1, 1, 1, 0, zU), (97, .iconst 5, 1, 0, 0, .int (nI 5)), (98, .if_icmp .ne 7, 3, 105, 0, zU), (101, .iconst 0, 1, 0, 0, .int (nI 0)), (102, .goto 4, 3, 106, 0, zU), (105, .iconst (-1), 1, 0, 0, .int ((-1))), (106, .ireturn, 1, 0, 0, zU), (107, .ldc_w 278, 3, 0, 0, .int (nI 99999999)), (110, .istore_n 3, 1, 3, 0, zU), (111, .iconst 0, 1, 0, 0, .int (nI 0)), (112, .istore 4, 2, 4, 0, zU), (114, .iload 4, 2, 4, 0, zU), (116, .sipush 568, 3, 0, 0, .int (nI 568)), (119, .if_icmp .ge 33, 3, 152, 0, zU), (122, .iload 4, 2, 4, 0, zU), (124, .iload_n 2, 1, 2, 0, zU), (125, .idiv, 1, 0, 0, zU), (126, .iload_n 1, 1, 1, 0, zU), (127, .if_icmp .ne 17, 3, 144, 0, zU), (130, .iload_n 3, 1, 3, 0, zU), (131, .aload_n 0, 1, 0, 0, zU), (132, .getfield 48, 3, 10, 26, zU), (135, .iload 4, 2, 4, 0, zU), (137, .iaload, 1, 0, 0, zU), (138, .invokestatic 166, 3, 38, 2, zU), (141, .goto 4, 3, 145, 0, zU), (144, .iload_n 3, 1, 3, 0, zU), (145, .istore_n 3, 1, 3, 0, zU), (146, .iinc 4 1, 3, 4, 0, .int (nI 1)), (149, .goto (-35), 3, 114, 0, zU), (152, .iload_n 3, 1, 3, 0, zU), (153, .ldc_w 278, 3, 0, 0, .int (nI 99999999)), (156, .if_icmp .lt 7, 3, 163, 0, zU), (159, .iconst (-1), 1, 0, 0, .int ((-1))), (160, .goto 4, 3, 164, 0, zU), (163, .iload_n 3, 1, 3, 0, zU), (164, .ireturn, 1, 0, 0, zU)]
/-- Model.differ(I)I -/
def zc187 : List zE := [(0, .iload_n 1, 1, 1, 0, zU), (1, .i2l, 1, 0, 0, zU), (2, .lconst 0, 1, 0, 0, .long (lN 0)), (3, .lconst 1, 1, 0, 0, .long (lN 1)), (4, .invokestatic 68, 3, 37, 3, zU), (7, .ifCond .ne 6, 3, 13, 0, zU), (10, .ldc 72, 2, 0, 0, .int ((-1000000002))), (12, .ireturn, 1, 0, 0, zU), (13, .iconst (-1), 1, 0, 0, .int ((-1))), (14, .istore_n 2, 1, 2, 0, zU), (15, .iconst (-1), 1, 0, 0, .int ((-1))), (16, .istore_n 3, 1, 3, 0, zU), (17, .iconst 0, 1, 0, 0, .int (nI 0)), (18, .istore 4, 2, 4, 0, zU), (20, .iload 4, 2, 4, 0, zU), (22, .aload_n 0, 1, 0, 0, zU), (23, .getfield 141, 3, 10, 9, zU), (26, .if_icmp .ge 75, 3, 101, 0, zU), (29, .iload 4, 2, 4, 0, zU), (31, .iconst 1, 1, 0, 0, .int (nI 1)), (32, .iadd, 1, 0, 0, zU), (33, .istore 5, 2, 5, 0, zU), (35, .iload 5, 2, 5, 0, zU), (37, .aload_n 0, 1, 0, 0, zU), (38, .getfield 141, 3, 10, 9, zU), (41, .if_icmp .ge 54, 3, 95, 0, zU), (44, .aload_n 0, 1, 0, 0, zU), (45, .iconst 0, 1, 0, 0, .int (nI 0)), (46, .iload 4, 2, 4, 0, zU), (48, .invokevirtual 182, 3, 166, 2, .retAddr 10), (51, .aload_n 0, 1, 0, 0, zU), (52, .iconst 0, 1, 0, 0, .int (nI 0)), (53, .iload 5, 2, 5, 0, zU), (55, .invokevirtual 182, 3, 166, 2, .retAddr 10), (58, .invokestatic 272, 3, 40, 2, zU), (61, .istore 6, 2, 6, 0, zU), (63, .iload 6, 2, 6, 0, zU), (65, .iload_n 3, 1, 3, 0, zU), (66, .if_icmp .le 14, 3, 80, 0, zU), (69, .bipush 100, 2, 0, 0, .int (nI 100)), (71, .iload 4, 2, 4, 0, zU), (73, .imul, 1, 0, 0, zU), (74, .iload 5, 2, 5, 0, zU), (76, .iadd, 1, 0, 0, zU), (77, .goto 4, 3, 81, 0, zU), (80, .iload_n 2, 1, 2, 0, zU), (81, .istore_n 2, 1, 2, 0, zU), (82, .iload 6, 2, 6, 0, zU), (84, .iload_n 3, 1, 3, 0, zU), (85, .invokestatic 169, 3, 39, 2, zU), (88, .istore_n 3, 1, 3, 0, zU), (89, .iinc 5 1, 3, 5, 0, .int (nI 1)), (92, .goto (-57), 3, 35, 0, zU), (95, .iinc 4 1, 3, 4, 0, .int (nI 1)), (98, .goto (-78), 3, 20, 0, zU), (101, .iload_n 1, 1, 1, 0, zU), (102, .ifCond .ne 7, 3, 109, 0, zU), (105, .iload_n 2, 1, 2, 0, zU), (106, .goto 4, 3, 110, 0, zU), (109, .iload_n 3, 1, 3, 0, zU), (110, .ireturn, 1, 0, 0, zU)]
/-- Model.falseOnes()I -/
def zc188 : List zE := [(0, .iconst 0, 1, 0, 0, .int (nI 0)), (1, .istore_n 1, 1, 1, 0, zU), (2, .iconst 0, 1, 0, 0, .int (nI 0)), (3, .istore_n 2, 1, 2, 0, zU), (4, .iload_n 2, 1, 2, 0, zU), (5, .aload_n 0, 1, 0, 0, zU), (6, .getfield 141, 3, 10, 9, zU), (9, .if_icmp .ge 46, 3, 55, 0, zU), (12, .iload_n 1, 1, 1, 0, zU), (13, .aload_n 0, 1, 0, 0, zU), (14, .iconst 0, 1, 0, 0, .int (nI 0)), (15, .iload_n 2, 1, 2, 0, zU), (16, .invokevirtual 182, 3, 166, 2, .retAddr 10), (19, .aload_n 0, 1, 0, 0, zU), (20, .iconst 0, 1, 0, 0, .int (nI 0)), (21, .invokevirtual 175, 3, 94, 1, .retAddr 10), (24, .aload_n 0, 1, 0, 0, zU), (25, .getfield 7, 3, 10, 0, zU), (28, .iload_n 2, 1, 2, 0, zU), (29, .iaload, 1, 0, 0, zU), (30, .iconst 0, 1, 0, 0, .int (nI 0)), (31, .invokestatic 178, 3, 140, 3, zU), (34, .if_icmp .eq 7, 3, 41, 0, zU), (37, .iconst 1, 1, 0, 0, .int (nI 1)), (38, .goto 4, 3, 42, 0, zU), (41, .iconst 0, 1, 0, 0, .int (nI 0)), (42, .invokestatic 196, 3, 41, 1, zU), (45, .iload_n 2, 1, 2, 0, zU), (46, .ishl, 1, 0, 0, zU), (47, .ior, 1, 0, 0, zU), (48, .istore_n 1, 1, 1, 0, zU), (49, .iinc 2 1, 3, 2, 0, .int (nI 1)), (52, .goto (-48), 3, 4, 0, zU), (55, .iload_n 1, 1, 1, 0, zU), (56, .ireturn, 1, 0, 0, zU)]
/-- Model.could()I -/
def zc189 : List zE := [(0, .iconst 0, 1, 0, 0, .int (nI 0)), (1, .istore_n 1, 1, 1, 0, zU), (2, .iconst 0, 1, 0, 0, .int (nI 0)), (3, .istore_n 2, 1, 2, 0, zU), (4, .iload_n 2, 1, 2, 0, zU), (5, .bipush 10, 2, 0, 0, .int (nI 10)), (7, .if_icmp .ge 70, 3, 77, 0, zU), (10, .iconst 1, 1, 0, 0, .int (nI 1)), (11, .istore_n 3, 1, 3, 0, zU), (12, .iconst 0, 1, 0, 0, .int (nI 0)), (13, .istore 4, 2, 4, 0, zU), (15, .iload 4, 2, 4, 0, zU), (17, .aload_n 0, 1, 0, 0, zU), (18, .getfield 153, 3, 10, 30, zU), (21, .if_icmp .ge 41, 3, 62, 0, zU), (24, .iload_n 3, 1, 3, 0, zU), (25, .ifCond .eq 29, 3, 54, 0, zU), (28, .aload_n 0, 1, 0, 0, zU), (29, .aload_n 0, 1, 0, 0, zU), (30, .getfield 54, 3, 10, 28, zU), (33, .iload 4, 2, 4, 0, zU), (35, .iaload, 1, 0, 0, zU), (36, .iload_n 2, 1, 2, 0, zU), (37, .invokevirtual 304, 3, 171, 2, .retAddr 10), (40, .aload_n 0, 1, 0, 0, zU), (41, .getfield 57, 3, 10, 29, zU), (44, .iload 4, 2, 4, 0, zU), (46, .iaload, 1, 0, 0, zU), (47, .if_icmp .ne 7, 3, 54, 0, zU), (50, .iconst 1, 1, 0, 0, .int (nI 1)), (51, .goto 4, 3, 55, 0, zU), (54, .iconst 0, 1, 0, 0, .int (nI 0)), (55, .istore_n 3, 1, 3, 0, zU), (56, .iinc 4 1, 3, 4, 0, .int (nI 1)), (59, .goto (-44), 3, 15, 0, zU), (62, .iload_n 1, 1, 1, 0, zU), (63, .iload_n 3, 1, 3, 0, zU), (64, .invokestatic 196, 3, 41, 1, zU), (67, .iload_n 2, 1, 2, 0, zU), (68, .ishl, 1, 0, 0, zU), (69, .ior, 1, 0, 0, zU), (70, .istore_n 1, 1, 1, 0, zU), (71, .iinc 2 1, 3, 2, 0, .int (nI 1)), (74, .goto (-70), 3, 4, 0, zU), (77, .iload_n 1, 1, 1, 0, zU), (78, .ireturn, 1, 0, 0, zU)]
/-- Model.greatestPart(II)I -/
def zc190 : List zE := [(0, .iconst 0, 1, 0, 0, .int (nI 0)), (1, .istore_n 3, 1, 3, 0, zU), (2, .iconst 0, 1, 0, 0, .int (nI 0)), (3, .istore 4, 2, 4, 0, zU), (5, .iload 4, 2, 4, 0, zU), (7, .bipush 10, 2, 0, 0, .int (nI 10)), (9, .if_icmp .ge 69, 3, 78, 0, zU), (12, .iconst 0, 1, 0, 0, .int (nI 0)), (13, .istore 5, 2, 5, 0, zU), (15, .iconst 0, 1, 0, 0, .int (nI 0)), (16, .istore 6, 2, 6, 0, zU), (18, .iload 6, 2, 6, 0, zU), (20, .bipush 10, 2, 0, 0, .int (nI 10)), (22, .if_icmp .ge 43, 3, 65, 0, zU), (25, .iload 5, 2, 5, 0, zU), (27, .iload_n 2, 1, 2, 0, zU), (28, .iload 6, 2, 6, 0, zU), (30, .invokestatic 185, 3, 42, 2, zU), (33, .ifCond .eq 19, 3, 52, 0, zU), (36, .aload_n 0, 1, 0, 0, zU), (37, .iload_n 1, 1, 1, 0, zU), (38, .iload 6, 2, 6, 0, zU), (40, .invokevirtual 304, 3, 171, 2, .retAddr 10), (43, .iload 4, 2, 4, 0, zU), (45, .if_icmp .ne 7, 3, 52, 0, zU), (48, .iconst 1, 1, 0, 0, .int (nI 1)), (49, .goto 4, 3, 53, 0, zU), (52, .iconst 0, 1, 0, 0, .int (nI 0)), (53, .invokestatic 196, 3, 41, 1, zU), (56, .iadd, 1, 0, 0, zU), (57, .istore 5, 2, 5, 0, zU), (59, .iinc 6 1, 3, 6, 0, .int (nI 1)), (62, .goto (-44), 3, 18, 0, zU), (65, .iload 5, 2, 5, 0, zU), (67, .iload_n 3, 1, 3, 0, zU), (68, .invokestatic 169, 3, 39, 2, zU), (71, .istore_n 3, 1, 3, 0, zU), (72, .iinc 4 1, 3, 4, 0, .int (nI 1)), (75, .goto (-70), 3, 5, 0, zU), (78, .iload_n 3, 1, 3, 0, zU), (79, .ireturn, 1, 0, 0, zU)]
/-- GG.coast()I -/
def zc191 : List zE := [(0, .aload_n 0, 1, 0, 0, zU), (1, .getfield 12, 3, 9, 0, zU), (4, .aload_n 0, 1, 0, 0, zU), (5, .getfield 19, 3, 9, 1, zU), (8, .invokevirtual 96, 3, 176, 1, .retAddr 5), (11, .istore_n 1, 1, 1, 0, zU), (12, .iload_n 1, 1, 1, 0, zU), (13, .ifCond .eq 8, 3, 21, 0, zU), (16, .bipush (-10), 2, 0, 0, .int ((-10))), (18, .iload_n 1, 1, 1, 0, zU), (19, .isub, 1, 0, 0, zU), (20, .ireturn, 1, 0, 0, zU), (21, .aload_n 0, 1, 0, 0, zU), (22, .getfield 23, 3, 9, 2, zU), (25, .aload_n 0, 1, 0, 0, zU), (26, .getfield 19, 3, 9, 1, zU), (29, .invokevirtual 100, 3, 1, 1, .retAddr 0), (32, .aload_n 0, 1, 0, 0, zU), (33, .getfield 29, 3, 9, 3, zU), (36, .aload_n 0, 1, 0, 0, zU), (37, .getfield 23, 3, 9, 2, zU), (40, .invokevirtual 104, 3, 71, 1, .retAddr 7), (43, .aload_n 0, 1, 0, 0, zU), (44, .getfield 61, 3, 9, 7, zU), (47, .invokevirtual 107, 3, 12, 0, .retAddr 4), (50, .aload_n 0, 1, 0, 0, zU), (51, .getfield 68, 3, 9, 8, zU), (54, .invokevirtual 110, 3, 6, 0, .retAddr 1), (57, .aload_n 0, 1, 0, 0, zU), (58, .getfield 75, 3, 9, 9, zU), (61, .invokevirtual 113, 3, 11, 0, .retAddr 3), (64, .aload_n 0, 1, 0, 0, zU), (65, .getfield 23, 3, 9, 2, zU), (68, .getfield 114, 3, 0, 1, zU), (71, .ireturn, 1, 0, 0, zU)]
/-- GG.day(I)I -/
def zc192 : List zE := [(0, .aload_n 0, 1, 0, 0, zU), (1, .iload_n 1, 1, 1, 0, zU), (2, .invokevirtual 211, 3, 87, 1, .retAddr 9), (5, .istore_n 2, 1, 2, 0, zU), (6, .iload_n 2, 1, 2, 0, zU), (7, .ifCond .eq 5, 3, 12, 0, zU), (10, .iload_n 2, 1, 2, 0, zU), (11, .ireturn, 1, 0, 0, zU), (12, .iconst 0, 1, 0, 0, .int (nI 0)), (13, .istore_n 3, 1, 3, 0, zU), (14, .iload_n 3, 1, 3, 0, zU), (15, .iload_n 1, 1, 1, 0, zU), (16, .if_icmp .ge 27, 3, 43, 0, zU), (19, .aload_n 0, 1, 0, 0, zU), (20, .getfield 68, 3, 9, 8, zU), (23, .aload_n 0, 1, 0, 0, zU), (24, .getfield 29, 3, 9, 3, zU), (27, .invokevirtual 214, 3, 59, 1, .retAddr 1), (30, .aload_n 0, 1, 0, 0, zU), (31, .getfield 47, 3, 9, 5, zU), (34, .invokevirtual 218, 3, 172, 0, .retAddr 2), (37, .iinc 3 1, 3, 3, 0, .int (nI 1)), (40, .goto (-26), 3, 14, 0, zU), (43, .aload_n 0, 1, 0, 0, zU), (44, .getfield 47, 3, 9, 5, zU), (47, .invokevirtual 221, 3, 61, 0, .retAddr 2), (50, .ireturn, 1, 0, 0, zU)]
/-- GG.drift(I)I -/
def zc193 : List zE := [(0, .aload_n 0, 1, 0, 0, zU), (1, .iload_n 1, 1, 1, 0, zU), (2, .invokevirtual 211, 3, 87, 1, .retAddr 9), (5, .istore_n 2, 1, 2, 0, zU), (6, .iload_n 2, 1, 2, 0, zU), (7, .ifCond .eq 5, 3, 12, 0, zU), (10, .iload_n 2, 1, 2, 0, zU), (11, .ireturn, 1, 0, 0, zU), (12, .iconst 0, 1, 0, 0, .int (nI 0)), (13, .istore_n 3, 1, 3, 0, zU), (14, .iload_n 3, 1, 3, 0, zU), (15, .iload_n 1, 1, 1, 0, zU), (16, .if_icmp .ge 31, 3, 47, 0, zU), (19, .aload_n 0, 1, 0, 0, zU), (20, .getfield 68, 3, 9, 8, zU), (23, .aload_n 0, 1, 0, 0, zU), (24, .getfield 29, 3, 9, 3, zU), (27, .invokevirtual 214, 3, 59, 1, .retAddr 1), (30, .aload_n 0, 1, 0, 0, zU), (31, .invokevirtual 230, 3, 88, 0, .retAddr 9), (34, .aload_n 0, 1, 0, 0, zU), (35, .getfield 47, 3, 9, 5, zU), (38, .invokevirtual 218, 3, 172, 0, .retAddr 2), (41, .iinc 3 1, 3, 3, 0, .int (nI 1)), (44, .goto (-30), 3, 14, 0, zU), (47, .aload_n 0, 1, 0, 0, zU), (48, .getfield 47, 3, 9, 5, zU), (51, .invokevirtual 221, 3, 61, 0, .retAddr 2), (54, .ireturn, 1, 0, 0, zU)]
/-- GG.catches(II)I -/
def zc194 : List zE := [(0, .aload_n 0, 1, 0, 0, zU), (1, .iload_n 1, 1, 1, 0, zU), (2, .invokevirtual 192, 3, 85, 1, .retAddr 9), (5, .ifCond .eq 6, 3, 11, 0, zU), (8, .ldc 177, 2, 0, 0, .int ((-1000000001))), (10, .ireturn, 1, 0, 0, zU), (11, .iload_n 2, 1, 2, 0, zU), (12, .iconst 0, 1, 0, 0, .int (nI 0)), (13, .bipush 60, 2, 0, 0, .int (nI 60)), (15, .invokestatic 83, 3, 35, 3, zU), (18, .ifCond .eq 6, 3, 24, 0, zU), (21, .ldc 87, 2, 0, 0, .int ((-1000000002))), (23, .ireturn, 1, 0, 0, zU), (24, .aload_n 0, 1, 0, 0, zU), (25, .getfield 47, 3, 9, 5, zU), (28, .iload_n 1, 1, 1, 0, zU), (29, .iload_n 2, 1, 2, 0, zU), (30, .invokevirtual 237, 3, 173, 2, .retAddr 2), (33, .ireturn, 1, 0, 0, zU)]
/-- GG.loses(I)I -/
def zc195 : List zE := [(0, .iload_n 1, 1, 1, 0, zU), (1, .iconst 0, 1, 0, 0, .int (nI 0)), (2, .bipush 60, 2, 0, 0, .int (nI 60)), (4, .invokestatic 83, 3, 35, 3, zU), (7, .ifCond .eq 6, 3, 13, 0, zU), (10, .ldc 87, 2, 0, 0, .int ((-1000000002))), (12, .ireturn, 1, 0, 0, zU), (13, .aload_n 0, 1, 0, 0, zU), (14, .getfield 47, 3, 9, 5, zU), (17, .iload_n 1, 1, 1, 0, zU), (18, .invokevirtual 240, 3, 174, 1, .retAddr 2), (21, .ireturn, 1, 0, 0, zU)]
/-- GG.bestLimit(II)I -/
def zc196 : List zE := [(0, .aload_n 0, 1, 0, 0, zU), (1, .iload_n 1, 1, 1, 0, zU), (2, .invokevirtual 192, 3, 85, 1, .retAddr 9), (5, .ifCond .eq 6, 3, 11, 0, zU), (8, .ldc 177, 2, 0, 0, .int ((-1000000001))), (10, .ireturn, 1, 0, 0, zU), (11, .iload_n 2, 1, 2, 0, zU), (12, .iconst 0, 1, 0, 0, .int (nI 0)), (13, .iconst 1, 1, 0, 0, .int (nI 1)), (14, .invokestatic 83, 3, 35, 3, zU), (17, .ifCond .eq 6, 3, 23, 0, zU), (20, .ldc 87, 2, 0, 0, .int ((-1000000002))), (22, .ireturn, 1, 0, 0, zU), (23, .aload_n 0, 1, 0, 0, zU), (24, .getfield 47, 3, 9, 5, zU), (27, .iload_n 1, 1, 1, 0, zU), (28, .invokevirtual 243, 3, 175, 1, .retAddr 2), (31, .iload_n 2, 1, 2, 0, zU), (32, .ifCond .ne 13, 3, 45, 0, zU), (35, .aload_n 0, 1, 0, 0, zU), (36, .getfield 47, 3, 9, 5, zU), (39, .getfield 247, 3, 2, 5, zU), (42, .goto 10, 3, 52, 0, zU), (45, .aload_n 0, 1, 0, 0, zU), (46, .getfield 47, 3, 9, 5, zU), (49, .getfield 250, 3, 2, 6, zU), (52, .ireturn, 1, 0, 0, zU)]
/-- Model.coast()I -/
def zc197 : List zE := [(0, .aload_n 0, 1, 0, 0, zU), (1, .iconst 0, 1, 0, 0, .int (nI 0)), (2, .putfield 77, 3, 10, 18, zU), (5, .aload_n 0, 1, 0, 0, zU), (6, .iconst 0, 1, 0, 0, .int (nI 0)), (7, .putfield 80, 3, 10, 20, zU), (10, .aload_n 0, 1, 0, 0, zU), (11, .iconst (-1), 1, 0, 0, .int ((-1))), (12, .putfield 35, 3, 10, 21, zU), (15, .aload_n 0, 1, 0, 0, zU), (16, .iconst 0, 1, 0, 0, .int (nI 0)), (17, .putfield 102, 3, 10, 8, zU), (20, .aload_n 0, 1, 0, 0, zU), (21, .iconst 0, 1, 0, 0, .int (nI 0)), (22, .putfield 109, 3, 10, 10, zU), (25, .aload_n 0, 1, 0, 0, zU), (26, .iconst 0, 1, 0, 0, .int (nI 0)), (27, .putfield 112, 3, 10, 12, zU), (30, .aload_n 0, 1, 0, 0, zU), (31, .iconst 3, 1, 0, 0, .int (nI 3)), (32, .putfield 119, 3, 10, 14, zU), (35, .aload_n 0, 1, 0, 0, zU), (36, .iconst 0, 1, 0, 0, .int (nI 0)), (37, .putfield 115, 3, 10, 15, zU), (40, .aload_n 0, 1, 0, 0, zU), (41, .getfield 80, 3, 10, 20, zU), (44, .ifCond .ne 60, 3, 104, 0, zU), (47, .aload_n 0, 1, 0, 0, zU), (48, .invokevirtual 83, 3, 43, 0, .retAddr 10), (51, .ifCond .lt 53, 3, 104, 0, zU), (54, .aload_n 0, 1, 0, 0, zU), (55, .invokevirtual 135, 3, 183, 0, .retAddr 10), (58, .aload_n 0, 1, 0, 0, zU), (59, .getfield 80, 3, 10, 20, zU), (62, .ifCond .ne (-22), 3, 40, 0, zU), (65, .aload_n 0, 1, 0, 0, zU), (66, .aload_n 0, 1, 0, 0, zU), (67, .invokevirtual 83, 3, 43, 0, .retAddr 10), (70, .bipush 59, 2, 0, 0, .int (nI 59)), (72, .if_icmp .ne 7, 3, 79, 0, zU), (75, .iconst 1, 1, 0, 0, .int (nI 1)), (76, .goto 4, 3, 80, 0, zU), (79, .iconst 0, 1, 0, 0, .int (nI 0)), (80, .iconst 1, 1, 0, 0, .int (nI 1)), (81, .aload_n 0, 1, 0, 0, zU), (82, .getfield 77, 3, 10, 18, zU), (85, .invokevirtual 94, 3, 44, 3, .retAddr 10), (88, .ifCond .eq (-48), 3, 40, 0, zU), (91, .aload_n 0, 1, 0, 0, zU), (92, .dup, 1, 0, 0, zU), (93, .getfield 77, 3, 10, 18, zU), (96, .iconst 1, 1, 0, 0, .int (nI 1)), (97, .iadd, 1, 0, 0, zU), (98, .putfield 77, 3, 10, 18, zU), (101, .goto (-61), 3, 40, 0, zU), (104, .aload_n 0, 1, 0, 0, zU), (105, .iconst 0, 1, 0, 0, .int (nI 0)), (106, .putfield 73, 3, 10, 17, zU), (109, .aload_n 0, 1, 0, 0, zU), (110, .getfield 80, 3, 10, 20, zU), (113, .ifCond .le 11, 3, 124, 0, zU), (116, .bipush (-10), 2, 0, 0, .int ((-10))), (118, .aload_n 0, 1, 0, 0, zU), (119, .getfield 80, 3, 10, 20, zU), (122, .isub, 1, 0, 0, zU), (123, .ireturn, 1, 0, 0, zU), (124, .aload_n 0, 1, 0, 0, zU), (125, .invokevirtual 138, 3, 45, 0, .retAddr 10), (128, .aload_n 0, 1, 0, 0, zU), (129, .getfield 141, 3, 10, 9, zU), (132, .ireturn, 1, 0, 0, zU)]
/-- Model.sailing()I -/
def zc198 : List zE := [(0, .iconst 0, 1, 0, 0, .int (nI 0)), (1, .istore_n 1, 1, 1, 0, zU), (2, .aload_n 0, 1, 0, 0, zU), (3, .getfield 144, 3, 10, 7, zU), (6, .ifCond .ne 7, 3, 13, 0, zU), (9, .iconst (-1), 1, 0, 0, .int ((-1))), (10, .goto 8, 3, 18, 0, zU), (13, .aload_n 0, 1, 0, 0, zU), (14, .iconst 0, 1, 0, 0, .int (nI 0)), (15, .invokevirtual 189, 3, 184, 1, .retAddr 10), (18, .istore_n 2, 1, 2, 0, zU), (19, .iconst 0, 1, 0, 0, .int (nI 0)), (20, .istore_n 3, 1, 3, 0, zU), (21, .iload_n 3, 1, 3, 0, zU), (22, .aload_n 0, 1, 0, 0, zU), (23, .getfield 147, 3, 10, 11, zU), (26, .if_icmp .ge 24, 3, 50, 0, zU), (29, .iload_n 1, 1, 1, 0, zU), (30, .aload_n 0, 1, 0, 0, zU), (31, .iconst 0, 1, 0, 0, .int (nI 0)), (32, .iload_n 3, 1, 3, 0, zU), (33, .iload_n 2, 1, 2, 0, zU), (34, .invokevirtual 192, 3, 96, 3, .retAddr 10), (37, .invokestatic 196, 3, 41, 1, zU), (40, .iload_n 3, 1, 3, 0, zU), (41, .ishl, 1, 0, 0, zU), (42, .ior, 1, 0, 0, zU), (43, .istore_n 1, 1, 1, 0, zU), (44, .iinc 3 1, 3, 3, 0, .int (nI 1)), (47, .goto (-26), 3, 21, 0, zU), (50, .iload_n 1, 1, 1, 0, zU), (51, .ireturn, 1, 0, 0, zU)]
/-- Model.dayIn(I)V -/
def zc199 : List zE := [(0, .aload_n 0, 1, 0, 0, zU), (1, .iload_n 1, 1, 1, 0, zU), (2, .invokevirtual 189, 3, 184, 1, .retAddr 10), (5, .istore_n 2, 1, 2, 0, zU), (6, .aload_n 0, 1, 0, 0, zU), (7, .iload_n 1, 1, 1, 0, zU), (8, .invokevirtual 175, 3, 94, 1, .retAddr 10), (11, .istore_n 3, 1, 3, 0, zU), (12, .iconst 0, 1, 0, 0, .int (nI 0)), (13, .istore 4, 2, 4, 0, zU), (15, .iconst 0, 1, 0, 0, .int (nI 0)), (16, .istore 5, 2, 5, 0, zU), (18, .iload 5, 2, 5, 0, zU), (20, .aload_n 0, 1, 0, 0, zU), (21, .getfield 147, 3, 10, 11, zU), (24, .if_icmp .ge 112, 3, 136, 0, zU), (27, .aload_n 0, 1, 0, 0, zU), (28, .iload_n 1, 1, 1, 0, zU), (29, .iload 5, 2, 5, 0, zU), (31, .iload_n 2, 1, 2, 0, zU), (32, .invokevirtual 192, 3, 96, 3, .retAddr 10), (35, .ifCond .eq 95, 3, 130, 0, zU), (38, .iinc 4 1, 3, 4, 0, .int (nI 1)), (41, .iload_n 3, 1, 3, 0, zU), (42, .aload_n 0, 1, 0, 0, zU), (43, .getfield 29, 3, 10, 6, zU), (46, .iload 5, 2, 5, 0, zU), (48, .iaload, 1, 0, 0, zU), (49, .if_icmp .ge 7, 3, 56, 0, zU), (52, .iconst 1, 1, 0, 0, .int (nI 1)), (53, .goto 4, 3, 57, 0, zU), (56, .iconst 0, 1, 0, 0, .int (nI 0)), (57, .istore 6, 2, 6, 0, zU), (59, .aload_n 0, 1, 0, 0, zU), (60, .getfield 7, 3, 10, 0, zU), (63, .iload_n 1, 1, 1, 0, zU), (64, .bipush 21, 2, 0, 0, .int (nI 21)), (66, .iadd, 1, 0, 0, zU), (67, .dup2, 1, 0, 0, zU), (68, .iaload, 1, 0, 0, zU), (69, .iload 6, 2, 6, 0, zU), (71, .invokestatic 196, 3, 41, 1, zU), (74, .iload 5, 2, 5, 0, zU), (76, .ishl, 1, 0, 0, zU), (77, .ior, 1, 0, 0, zU), (78, .iastore, 1, 0, 0, zU), (79, .aload_n 0, 1, 0, 0, zU), (80, .getfield 7, 3, 10, 0, zU), (83, .iload_n 1, 1, 1, 0, zU), (84, .bipush 23, 2, 0, 0, .int (nI 23)), (86, .iadd, 1, 0, 0, zU), (87, .iload 5, 2, 5, 0, zU), (89, .iadd, 1, 0, 0, zU), (90, .iload 6, 2, 6, 0, zU), (92, .ifCond .eq 18, 3, 110, 0, zU), (95, .aload_n 0, 1, 0, 0, zU), (96, .getfield 7, 3, 10, 0, zU), (99, .iload_n 1, 1, 1, 0, zU), (100, .bipush 23, 2, 0, 0, .int (nI 23)), (102, .iadd, 1, 0, 0, zU), (103, .iload 5, 2, 5, 0, zU), (105, .iadd, 1, 0, 0, zU), (106, .iaload, 1, 0, 0, zU), (107, .goto 22, 3, 129, 0, zU), (110, .ldc 226, 2, 0, 0, .int (nI 999999)), (112, .aload_n 0, 1, 0, 0, zU), (113, .getfield 7, 3, 10, 0, zU), (116, .iload_n 1, 1, 1, 0, zU), (117, .bipush 23, 2, 0, 0, .int (nI 23)), (119, .iadd, 1, 0, 0, zU), (120, .iload 5, 2, 5, 0, zU), (122, .iadd, 1, 0, 0, zU), (123, .iaload, 1, 0, 0, zU), (124, .iload_n 3, 1, 3, 0, zU), (125, .iadd, 1, 0, 0, zU), (126, .invokestatic 166, 3, 38, 2, zU), (129, .iastore, 1, 0, 0, zU), (130, .iinc 5 1, 3, 5, 0, .int (nI 1)), (133, .goto (-115), 3, 18, 0, zU), (136, .aload_n 0, 1, 0, 0, zU), (137, .iload_n 1, 1, 1, 0, zU), (138, .iload_n 2, 1, 2, 0, zU), (139, .iload_n 3, 1, 3, 0, zU), (140, .iload 4, 2, 4, 0, zU), (142, .invokevirtual 227, 3, 50, 4, .retAddr 10), (145, .iconst 0, 1, 0, 0, .int (nI 0)), (146, .istore 5, 2, 5, 0, zU), (148, .iload 5, 2, 5, 0, zU), (150, .aload_n 0, 1, 0, 0, zU), (151, .getfield 141, 3, 10, 9, zU), (154, .if_icmp .ge 39, 3, 193, 0, zU), (157, .aload_n 0, 1, 0, 0, zU), (158, .getfield 7, 3, 10, 0, zU), (161, .iload_n 1, 1, 1, 0, zU), (162, .bipush 14, 2, 0, 0, .int (nI 14)), (164, .iadd, 1, 0, 0, zU), (165, .iload 5, 2, 5, 0, zU), (167, .iadd, 1, 0, 0, zU), (168, .iconst 0, 1, 0, 0, .int (nI 0)), (169, .aload_n 0, 1, 0, 0, zU), (170, .getfield 7, 3, 10, 0, zU), (173, .iload_n 1, 1, 1, 0, zU), (174, .bipush 14, 2, 0, 0, .int (nI 14)), (176, .iadd, 1, 0, 0, zU), (177, .iload 5, 2, 5, 0, zU), (179, .iadd, 1, 0, 0, zU), (180, .iaload, 1, 0, 0, zU), (181, .iconst 1, 1, 0, 0, .int (nI 1)), (182, .isub, 1, 0, 0, zU), (183, .invokestatic 169, 3, 39, 2, zU), (186, .iastore, 1, 0, 0, zU), (187, .iinc 5 1, 3, 5, 0, .int (nI 1)), (190, .goto (-42), 3, 148, 0, zU), (193, .aload_n 0, 1, 0, 0, zU), (194, .getfield 7, 3, 10, 0, zU), (197, .iload_n 1, 1, 1, 0, zU), (198, .bipush 28, 2, 0, 0, .int (nI 28)), (200, .iadd, 1, 0, 0, zU), (201, .aload_n 0, 1, 0, 0, zU), (202, .getfield 150, 3, 10, 13, zU), (205, .iastore, 1, 0, 0, zU), (206, .aload_n 0, 1, 0, 0, zU), (207, .getfield 7, 3, 10, 0, zU), (210, .iload_n 1, 1, 1, 0, zU), (211, .bipush 29, 2, 0, 0, .int (nI 29)), (213, .iadd, 1, 0, 0, zU), (214, .dup2, 1, 0, 0, zU), (215, .iaload, 1, 0, 0, zU), (216, .iconst 1, 1, 0, 0, .int (nI 1)), (217, .iadd, 1, 0, 0, zU), (218, .iastore, 1, 0, 0, zU), (219, .return_, 1, 0, 0, zU)]
/-- Model.tapNext()I -/
def zc200 : List zE := [(0, .aload_n 0, 1, 0, 0, zU), (1, .invokevirtual 307, 3, 189, 0, .retAddr 10), (4, .istore_n 1, 1, 1, 0, zU), (5, .iconst 0, 1, 0, 0, .int (nI 0)), (6, .istore_n 2, 1, 2, 0, zU), (7, .iconst 0, 1, 0, 0, .int (nI 0)), (8, .istore_n 3, 1, 3, 0, zU), (9, .iload_n 3, 1, 3, 0, zU), (10, .bipush 10, 2, 0, 0, .int (nI 10)), (12, .if_icmp .ge 17, 3, 29, 0, zU), (15, .iload_n 2, 1, 2, 0, zU), (16, .iload_n 1, 1, 1, 0, zU), (17, .iload_n 3, 1, 3, 0, zU), (18, .ishr, 1, 0, 0, zU), (19, .iconst 1, 1, 0, 0, .int (nI 1)), (20, .iand, 1, 0, 0, zU), (21, .iadd, 1, 0, 0, zU), (22, .istore_n 2, 1, 2, 0, zU), (23, .iinc 3 1, 3, 3, 0, .int (nI 1)), (26, .goto (-17), 3, 9, 0, zU), (29, .iconst (-1), 1, 0, 0, .int ((-1))), (30, .istore_n 3, 1, 3, 0, zU), (31, .iconst 0, 1, 0, 0, .int (nI 0)), (32, .istore 4, 2, 4, 0, zU), (34, .iload 4, 2, 4, 0, zU), (36, .aload_n 0, 1, 0, 0, zU), (37, .getfield 141, 3, 10, 9, zU), (40, .if_icmp .ge 38, 3, 78, 0, zU), (43, .aload_n 0, 1, 0, 0, zU), (44, .iload 4, 2, 4, 0, zU), (46, .iload_n 1, 1, 1, 0, zU), (47, .invokevirtual 310, 3, 190, 2, .retAddr 10), (50, .istore 5, 2, 5, 0, zU), (52, .iload 5, 2, 5, 0, zU), (54, .iload_n 2, 1, 2, 0, zU), (55, .if_icmp .ge 8, 3, 63, 0, zU), (58, .iload 4, 2, 4, 0, zU), (60, .goto 4, 3, 64, 0, zU), (63, .iload_n 3, 1, 3, 0, zU), (64, .istore_n 3, 1, 3, 0, zU), (65, .iload 5, 2, 5, 0, zU), (67, .iload_n 2, 1, 2, 0, zU), (68, .invokestatic 166, 3, 38, 2, zU), (71, .istore_n 2, 1, 2, 0, zU), (72, .iinc 4 1, 3, 4, 0, .int (nI 1)), (75, .goto (-41), 3, 34, 0, zU), (78, .iload_n 3, 1, 3, 0, zU), (79, .ireturn, 1, 0, 0, zU)]
/-- Model.told(I)I -/
def zc201 : List zE := [(0, .iload_n 1, 1, 1, 0, zU), (1, .tableswitch 186 0 15 #[79, 84, 89, 94, 99, 107, 124, 132, 137, 145, 153, 158, 163, 171, 176, 181], 79, 0, 0, zU), (80, .aload_n 0, 1, 0, 0, zU), (81, .getfield 144, 3, 10, 7, zU), (84, .ireturn, 1, 0, 0, zU), (85, .aload_n 0, 1, 0, 0, zU), (86, .getfield 141, 3, 10, 9, zU), (89, .ireturn, 1, 0, 0, zU), (90, .aload_n 0, 1, 0, 0, zU), (91, .getfield 147, 3, 10, 11, zU), (94, .ireturn, 1, 0, 0, zU), (95, .aload_n 0, 1, 0, 0, zU), (96, .getfield 73, 3, 10, 17, zU), (99, .ireturn, 1, 0, 0, zU), (100, .aload_n 0, 1, 0, 0, zU), (101, .getfield 7, 3, 10, 0, zU), (104, .bipush 29, 2, 0, 0, .int (nI 29)), (106, .iaload, 1, 0, 0, zU), (107, .ireturn, 1, 0, 0, zU), (108, .aload_n 0, 1, 0, 0, zU), (109, .getfield 144, 3, 10, 7, zU), (112, .ifCond .ne 7, 3, 119, 0, zU), (115, .iconst (-1), 1, 0, 0, .int ((-1))), (116, .goto 8, 3, 124, 0, zU), (119, .aload_n 0, 1, 0, 0, zU), (120, .iconst 0, 1, 0, 0, .int (nI 0)), (121, .invokevirtual 189, 3, 184, 1, .retAddr 10), (124, .ireturn, 1, 0, 0, zU), (125, .aload_n 0, 1, 0, 0, zU), (126, .getfield 7, 3, 10, 0, zU), (129, .bipush 28, 2, 0, 0, .int (nI 28)), (131, .iaload, 1, 0, 0, zU), (132, .ireturn, 1, 0, 0, zU), (133, .aload_n 0, 1, 0, 0, zU), (134, .invokevirtual 200, 3, 198, 0, .retAddr 10), (137, .ireturn, 1, 0, 0, zU), (138, .aload_n 0, 1, 0, 0, zU), (139, .getfield 7, 3, 10, 0, zU), (142, .bipush 21, 2, 0, 0, .int (nI 21)), (144, .iaload, 1, 0, 0, zU), (145, .ireturn, 1, 0, 0, zU), (146, .aload_n 0, 1, 0, 0, zU), (147, .getfield 7, 3, 10, 0, zU), (150, .bipush 22, 2, 0, 0, .int (nI 22)), (152, .iaload, 1, 0, 0, zU), (153, .ireturn, 1, 0, 0, zU), (154, .aload_n 0, 1, 0, 0, zU), (155, .invokevirtual 203, 3, 97, 0, .retAddr 10), (158, .ireturn, 1, 0, 0, zU), (159, .aload_n 0, 1, 0, 0, zU), (160, .invokevirtual 206, 3, 48, 0, .retAddr 10), (163, .ireturn, 1, 0, 0, zU), (164, .aload_n 0, 1, 0, 0, zU), (165, .getfield 7, 3, 10, 0, zU), (168, .bipush 30, 2, 0, 0, .int (nI 30)), (170, .iaload, 1, 0, 0, zU), (171, .ireturn, 1, 0, 0, zU), (172, .aload_n 0, 1, 0, 0, zU), (173, .getfield 153, 3, 10, 30, zU), (176, .ireturn, 1, 0, 0, zU), (177, .aload_n 0, 1, 0, 0, zU), (178, .getfield 156, 3, 10, 33, zU), (181, .ireturn, 1, 0, 0, zU), (182, .aload_n 0, 1, 0, 0, zU), (183, .getfield 159, 3, 10, 22, zU), (186, .ireturn, 1, 0, 0, zU), (187, .ldc 72, 2, 0, 0, .int ((-1000000002))), (189, .ireturn, 1, 0, 0, zU)]
/-- Model.day(I)I -/
def zc202 : List zE := [(0, .aload_n 0, 1, 0, 0, zU), (1, .iload_n 1, 1, 1, 0, zU), (2, .invokevirtual 233, 3, 101, 1, .retAddr 10), (5, .istore_n 2, 1, 2, 0, zU), (6, .iload_n 2, 1, 2, 0, zU), (7, .ifCond .ge 5, 3, 12, 0, zU), (10, .iload_n 2, 1, 2, 0, zU), (11, .ireturn, 1, 0, 0, zU), (12, .iconst 0, 1, 0, 0, .int (nI 0)), (13, .istore_n 3, 1, 3, 0, zU), (14, .iload_n 3, 1, 3, 0, zU), (15, .iload_n 1, 1, 1, 0, zU), (16, .if_icmp .ge 18, 3, 34, 0, zU), (19, .aload_n 0, 1, 0, 0, zU), (20, .invokevirtual 236, 3, 100, 0, .retAddr 10), (23, .aload_n 0, 1, 0, 0, zU), (24, .iconst 0, 1, 0, 0, .int (nI 0)), (25, .invokevirtual 239, 3, 199, 1, .retAddr 10), (28, .iinc 3 1, 3, 3, 0, .int (nI 1)), (31, .goto (-17), 3, 14, 0, zU), (34, .aload_n 0, 1, 0, 0, zU), (35, .invokevirtual 242, 3, 102, 0, .retAddr 10), (38, .ireturn, 1, 0, 0, zU)]
/-- Model.dayByDraws()V -/
def zc203 : List zE := [(0, .aload_n 0, 1, 0, 0, zU), (1, .getfield 141, 3, 10, 9, zU), (4, .ifCond .le 89, 3, 93, 0, zU), (7, .aload_n 0, 1, 0, 0, zU), (8, .aload_n 0, 1, 0, 0, zU), (9, .getfield 141, 3, 10, 9, zU), (12, .invokevirtual 257, 3, 51, 1, .retAddr 10), (15, .istore_n 1, 1, 1, 0, zU), (16, .aload_n 0, 1, 0, 0, zU), (17, .iconst 4, 1, 0, 0, .int (nI 4)), (18, .invokevirtual 257, 3, 51, 1, .retAddr 10), (21, .istore_n 2, 1, 2, 0, zU), (22, .iload_n 2, 1, 2, 0, zU), (23, .ifCond .ne 25, 3, 48, 0, zU), (26, .aload_n 0, 1, 0, 0, zU), (27, .getfield 7, 3, 10, 0, zU), (30, .iload_n 1, 1, 1, 0, zU), (31, .bipush 10, 2, 0, 0, .int (nI 10)), (33, .aload_n 0, 1, 0, 0, zU), (34, .getfield 7, 3, 10, 0, zU), (37, .iload_n 1, 1, 1, 0, zU), (38, .iaload, 1, 0, 0, zU), (39, .iconst 1, 1, 0, 0, .int (nI 1)), (40, .iadd, 1, 0, 0, zU), (41, .invokestatic 166, 3, 38, 2, zU), (44, .iastore, 1, 0, 0, zU), (45, .goto 48, 3, 93, 0, zU), (48, .iload_n 2, 1, 2, 0, zU), (49, .iconst 1, 1, 0, 0, .int (nI 1)), (50, .if_icmp .ne 24, 3, 74, 0, zU), (53, .aload_n 0, 1, 0, 0, zU), (54, .getfield 7, 3, 10, 0, zU), (57, .iload_n 1, 1, 1, 0, zU), (58, .iconst 0, 1, 0, 0, .int (nI 0)), (59, .aload_n 0, 1, 0, 0, zU), (60, .getfield 7, 3, 10, 0, zU), (63, .iload_n 1, 1, 1, 0, zU), (64, .iaload, 1, 0, 0, zU), (65, .iconst 1, 1, 0, 0, .int (nI 1)), (66, .isub, 1, 0, 0, zU), (67, .invokestatic 169, 3, 39, 2, zU), (70, .iastore, 1, 0, 0, zU), (71, .goto 22, 3, 93, 0, zU), (74, .iload_n 2, 1, 2, 0, zU), (75, .iconst 2, 1, 0, 0, .int (nI 2)), (76, .if_icmp .ne 17, 3, 93, 0, zU), (79, .aload_n 0, 1, 0, 0, zU), (80, .getfield 7, 3, 10, 0, zU), (83, .bipush 14, 2, 0, 0, .int (nI 14)), (85, .iload_n 1, 1, 1, 0, zU), (86, .iadd, 1, 0, 0, zU), (87, .aload_n 0, 1, 0, 0, zU), (88, .iconst 4, 1, 0, 0, .int (nI 4)), (89, .invokevirtual 257, 3, 51, 1, .retAddr 10), (92, .iastore, 1, 0, 0, zU), (93, .aload_n 0, 1, 0, 0, zU), (94, .iconst 0, 1, 0, 0, .int (nI 0)), (95, .invokevirtual 239, 3, 199, 1, .retAddr 10), (98, .return_, 1, 0, 0, zU)]
/-- Model.goOn(I)V -/
def zc204 : List zE := [(0, .aload_n 0, 1, 0, 0, zU), (1, .iconst 0, 1, 0, 0, .int (nI 0)), (2, .bipush 92, 2, 0, 0, .int (nI 92)), (4, .invokevirtual 222, 3, 49, 2, .retAddr 10), (7, .iconst 0, 1, 0, 0, .int (nI 0)), (8, .istore_n 2, 1, 2, 0, zU), (9, .iload_n 2, 1, 2, 0, zU), (10, .iload_n 1, 1, 1, 0, zU), (11, .if_icmp .ge 15, 3, 26, 0, zU), (14, .aload_n 0, 1, 0, 0, zU), (15, .bipush 92, 2, 0, 0, .int (nI 92)), (17, .invokevirtual 239, 3, 199, 1, .retAddr 10), (20, .iinc 2 1, 3, 2, 0, .int (nI 1)), (23, .goto (-14), 3, 9, 0, zU), (26, .return_, 1, 0, 0, zU)]
/-- Model.layDays(I)V -/
def zc205 : List zE := [(0, .aload_n 0, 1, 0, 0, zU), (1, .iconst 0, 1, 0, 0, .int (nI 0)), (2, .bipush 92, 2, 0, 0, .int (nI 92)), (4, .invokevirtual 222, 3, 49, 2, .retAddr 10), (7, .iconst 0, 1, 0, 0, .int (nI 0)), (8, .istore_n 2, 1, 2, 0, zU), (9, .iload_n 2, 1, 2, 0, zU), (10, .iload_n 1, 1, 1, 0, zU), (11, .if_icmp .ge 39, 3, 50, 0, zU), (14, .aload_n 0, 1, 0, 0, zU), (15, .getfield 39, 3, 10, 23, zU), (18, .iload_n 2, 1, 2, 0, zU), (19, .aload_n 0, 1, 0, 0, zU), (20, .bipush 92, 2, 0, 0, .int (nI 92)), (22, .invokevirtual 189, 3, 184, 1, .retAddr 10), (25, .iastore, 1, 0, 0, zU), (26, .aload_n 0, 1, 0, 0, zU), (27, .getfield 42, 3, 10, 24, zU), (30, .iload_n 2, 1, 2, 0, zU), (31, .aload_n 0, 1, 0, 0, zU), (32, .bipush 92, 2, 0, 0, .int (nI 92)), (34, .invokevirtual 175, 3, 94, 1, .retAddr 10), (37, .iastore, 1, 0, 0, zU), (38, .aload_n 0, 1, 0, 0, zU), (39, .bipush 92, 2, 0, 0, .int (nI 92)), (41, .invokevirtual 239, 3, 199, 1, .retAddr 10), (44, .iinc 2 1, 3, 2, 0, .int (nI 1)), (47, .goto (-38), 3, 9, 0, zU), (50, .return_, 1, 0, 0, zU)]
/-- Model.errorOf(I)I -/
def zc206 : List zE := [(0, .aload_n 0, 1, 0, 0, zU), (1, .iconst 0, 1, 0, 0, .int (nI 0)), (2, .bipush 92, 2, 0, 0, .int (nI 92)), (4, .invokevirtual 222, 3, 49, 2, .retAddr 10), (7, .iconst 0, 1, 0, 0, .int (nI 0)), (8, .istore_n 2, 1, 2, 0, zU), (9, .iconst 0, 1, 0, 0, .int (nI 0)), (10, .istore_n 3, 1, 3, 0, zU), (11, .iload_n 3, 1, 3, 0, zU), (12, .bipush 12, 2, 0, 0, .int (nI 12)), (14, .if_icmp .ge 52, 3, 66, 0, zU), (17, .iload_n 1, 1, 1, 0, zU), (18, .iconst (-1), 1, 0, 0, .int ((-1))), (19, .if_icmp .ne 12, 3, 31, 0, zU), (22, .aload_n 0, 1, 0, 0, zU), (23, .bipush 92, 2, 0, 0, .int (nI 92)), (25, .invokevirtual 189, 3, 184, 1, .retAddr 10), (28, .goto 10, 3, 38, 0, zU), (31, .aload_n 0, 1, 0, 0, zU), (32, .bipush 92, 2, 0, 0, .int (nI 92)), (34, .iload_n 1, 1, 1, 0, zU), (35, .invokevirtual 182, 3, 166, 2, .retAddr 10), (38, .istore 4, 2, 4, 0, zU), (40, .iload_n 2, 1, 2, 0, zU), (41, .iload 4, 2, 4, 0, zU), (43, .aload_n 0, 1, 0, 0, zU), (44, .bipush 92, 2, 0, 0, .int (nI 92)), (46, .invokevirtual 175, 3, 94, 1, .retAddr 10), (49, .invokestatic 272, 3, 40, 2, zU), (52, .iadd, 1, 0, 0, zU), (53, .istore_n 2, 1, 2, 0, zU), (54, .aload_n 0, 1, 0, 0, zU), (55, .bipush 92, 2, 0, 0, .int (nI 92)), (57, .invokevirtual 239, 3, 199, 1, .retAddr 10), (60, .iinc 3 1, 3, 3, 0, .int (nI 1)), (63, .goto (-52), 3, 11, 0, zU), (66, .iload_n 2, 1, 2, 0, zU), (67, .ireturn, 1, 0, 0, zU)]
/-- Model.layReadings()V -/
def zc207 : List zE := [(0, .aload_n 0, 1, 0, 0, zU), (1, .iconst 0, 1, 0, 0, .int (nI 0)), (2, .bipush 92, 2, 0, 0, .int (nI 92)), (4, .invokevirtual 222, 3, 49, 2, .retAddr 10), (7, .iconst 0, 1, 0, 0, .int (nI 0)), (8, .istore_n 1, 1, 1, 0, zU), (9, .iload_n 1, 1, 1, 0, zU), (10, .bipush 12, 2, 0, 0, .int (nI 12)), (12, .if_icmp .ge 61, 3, 73, 0, zU), (15, .iconst 0, 1, 0, 0, .int (nI 0)), (16, .istore_n 2, 1, 2, 0, zU), (17, .iload_n 2, 1, 2, 0, zU), (18, .aload_n 0, 1, 0, 0, zU), (19, .getfield 141, 3, 10, 9, zU), (22, .if_icmp .ge 27, 3, 49, 0, zU), (25, .aload_n 0, 1, 0, 0, zU), (26, .getfield 45, 3, 10, 25, zU), (29, .bipush 7, 2, 0, 0, .int (nI 7)), (31, .iload_n 1, 1, 1, 0, zU), (32, .imul, 1, 0, 0, zU), (33, .iload_n 2, 1, 2, 0, zU), (34, .iadd, 1, 0, 0, zU), (35, .aload_n 0, 1, 0, 0, zU), (36, .bipush 92, 2, 0, 0, .int (nI 92)), (38, .iload_n 2, 1, 2, 0, zU), (39, .invokevirtual 182, 3, 166, 2, .retAddr 10), (42, .iastore, 1, 0, 0, zU), (43, .iinc 2 1, 3, 2, 0, .int (nI 1)), (46, .goto (-29), 3, 17, 0, zU), (49, .aload_n 0, 1, 0, 0, zU), (50, .getfield 42, 3, 10, 24, zU), (53, .iload_n 1, 1, 1, 0, zU), (54, .aload_n 0, 1, 0, 0, zU), (55, .bipush 92, 2, 0, 0, .int (nI 92)), (57, .invokevirtual 175, 3, 94, 1, .retAddr 10), (60, .iastore, 1, 0, 0, zU), (61, .aload_n 0, 1, 0, 0, zU), (62, .bipush 92, 2, 0, 0, .int (nI 92)), (64, .invokevirtual 239, 3, 199, 1, .retAddr 10), (67, .iinc 1 1, 3, 1, 0, .int (nI 1)), (70, .goto (-61), 3, 9, 0, zU), (73, .return_, 1, 0, 0, zU)]
/-- Model.drift(I)I -/
def zc208 : List zE := [(0, .aload_n 0, 1, 0, 0, zU), (1, .iload_n 1, 1, 1, 0, zU), (2, .invokevirtual 233, 3, 101, 1, .retAddr 10), (5, .istore_n 2, 1, 2, 0, zU), (6, .iload_n 2, 1, 2, 0, zU), (7, .ifCond .ge 5, 3, 12, 0, zU), (10, .iload_n 2, 1, 2, 0, zU), (11, .ireturn, 1, 0, 0, zU), (12, .iconst 0, 1, 0, 0, .int (nI 0)), (13, .istore_n 3, 1, 3, 0, zU), (14, .iload_n 3, 1, 3, 0, zU), (15, .iload_n 1, 1, 1, 0, zU), (16, .if_icmp .ge 17, 3, 33, 0, zU), (19, .aload_n 0, 1, 0, 0, zU), (20, .invokevirtual 236, 3, 100, 0, .retAddr 10), (23, .aload_n 0, 1, 0, 0, zU), (24, .invokevirtual 260, 3, 203, 0, .retAddr 10), (27, .iinc 3 1, 3, 3, 0, .int (nI 1)), (30, .goto (-16), 3, 14, 0, zU), (33, .aload_n 0, 1, 0, 0, zU), (34, .invokevirtual 242, 3, 102, 0, .retAddr 10), (37, .ireturn, 1, 0, 0, zU)]
/-- Model.tells(I)I -/
def zc209 : List zE := [(0, .iload_n 1, 1, 1, 0, zU), (1, .i2l, 1, 0, 0, zU), (2, .lconst 0, 1, 0, 0, .long (lN 0)), (3, .ldc2_w 209, 3, 0, 0, .long (lN 60)), (6, .invokestatic 68, 3, 37, 3, zU), (9, .ifCond .ne 6, 3, 15, 0, zU), (12, .ldc 72, 2, 0, 0, .int ((-1000000002))), (14, .ireturn, 1, 0, 0, zU), (15, .aload_n 0, 1, 0, 0, zU), (16, .getfield 144, 3, 10, 7, zU), (19, .ifCond .ne 6, 3, 25, 0, zU), (22, .ldc 211, 2, 0, 0, .int ((-1000000003))), (24, .ireturn, 1, 0, 0, zU), (25, .aload_n 0, 1, 0, 0, zU), (26, .iload_n 1, 1, 1, 0, zU), (27, .invokevirtual 263, 3, 204, 1, .retAddr 10), (30, .aload_n 0, 1, 0, 0, zU), (31, .bipush 92, 2, 0, 0, .int (nI 92)), (33, .invokevirtual 189, 3, 184, 1, .retAddr 10), (36, .ireturn, 1, 0, 0, zU)]
/-- Model.catches(II)I -/
def zc210 : List zE := [(0, .aload_n 0, 1, 0, 0, zU), (1, .iload_n 1, 1, 1, 0, zU), (2, .invokevirtual 217, 3, 92, 1, .retAddr 10), (5, .ifCond .ne 6, 3, 11, 0, zU), (8, .ldc 216, 2, 0, 0, .int ((-1000000001))), (10, .ireturn, 1, 0, 0, zU), (11, .iload_n 2, 1, 2, 0, zU), (12, .i2l, 1, 0, 0, zU), (13, .lconst 0, 1, 0, 0, .long (lN 0)), (14, .ldc2_w 209, 3, 0, 0, .long (lN 60)), (17, .invokestatic 68, 3, 37, 3, zU), (20, .ifCond .ne 6, 3, 26, 0, zU), (23, .ldc 72, 2, 0, 0, .int ((-1000000002))), (25, .ireturn, 1, 0, 0, zU), (26, .aload_n 0, 1, 0, 0, zU), (27, .iload_n 2, 1, 2, 0, zU), (28, .invokevirtual 263, 3, 204, 1, .retAddr 10), (31, .aload_n 0, 1, 0, 0, zU), (32, .getfield 7, 3, 10, 0, zU), (35, .bipush 115, 2, 0, 0, .int (nI 115)), (37, .iload_n 1, 1, 1, 0, zU), (38, .iadd, 1, 0, 0, zU), (39, .iaload, 1, 0, 0, zU), (40, .aload_n 0, 1, 0, 0, zU), (41, .getfield 7, 3, 10, 0, zU), (44, .bipush 23, 2, 0, 0, .int (nI 23)), (46, .iload_n 1, 1, 1, 0, zU), (47, .iadd, 1, 0, 0, zU), (48, .iaload, 1, 0, 0, zU), (49, .isub, 1, 0, 0, zU), (50, .ireturn, 1, 0, 0, zU)]
/-- Model.loses(I)I -/
def zc211 : List zE := [(0, .iload_n 1, 1, 1, 0, zU), (1, .i2l, 1, 0, 0, zU), (2, .lconst 0, 1, 0, 0, .long (lN 0)), (3, .ldc2_w 209, 3, 0, 0, .long (lN 60)), (6, .invokestatic 68, 3, 37, 3, zU), (9, .ifCond .ne 6, 3, 15, 0, zU), (12, .ldc 72, 2, 0, 0, .int ((-1000000002))), (14, .ireturn, 1, 0, 0, zU), (15, .aload_n 0, 1, 0, 0, zU), (16, .getfield 144, 3, 10, 7, zU), (19, .ifCond .ne 5, 3, 24, 0, zU), (22, .iconst 0, 1, 0, 0, .int (nI 0)), (23, .ireturn, 1, 0, 0, zU), (24, .aload_n 0, 1, 0, 0, zU), (25, .iload_n 1, 1, 1, 0, zU), (26, .invokevirtual 263, 3, 204, 1, .retAddr 10), (29, .aload_n 0, 1, 0, 0, zU), (30, .getfield 7, 3, 10, 0, zU), (33, .bipush 113, 2, 0, 0, .int (nI 113)), (35, .iaload, 1, 0, 0, zU), (36, .aload_n 0, 1, 0, 0, zU), (37, .getfield 7, 3, 10, 0, zU), (40, .bipush 21, 2, 0, 0, .int (nI 21)), (42, .iaload, 1, 0, 0, zU), (43, .iconst (-1), 1, 0, 0, .int ((-1))), (44, .ixor, 1, 0, 0, zU), (45, .iand, 1, 0, 0, zU), (46, .ireturn, 1, 0, 0, zU)]
/-- Model.bestLimit(II)I -/
def zc212 : List zE := [(0, .aload_n 0, 1, 0, 0, zU), (1, .iload_n 1, 1, 1, 0, zU), (2, .invokevirtual 217, 3, 92, 1, .retAddr 10), (5, .ifCond .ne 6, 3, 11, 0, zU), (8, .ldc 216, 2, 0, 0, .int ((-1000000001))), (10, .ireturn, 1, 0, 0, zU), (11, .iload_n 2, 1, 2, 0, zU), (12, .i2l, 1, 0, 0, zU), (13, .lconst 0, 1, 0, 0, .long (lN 0)), (14, .lconst 1, 1, 0, 0, .long (lN 1)), (15, .invokestatic 68, 3, 37, 3, zU), (18, .ifCond .ne 6, 3, 24, 0, zU), (21, .ldc 72, 2, 0, 0, .int ((-1000000002))), (23, .ireturn, 1, 0, 0, zU), (24, .aload_n 0, 1, 0, 0, zU), (25, .bipush 14, 2, 0, 0, .int (nI 14)), (27, .invokevirtual 266, 3, 205, 1, .retAddr 10), (30, .iconst 0, 1, 0, 0, .int (nI 0)), (31, .istore_n 3, 1, 3, 0, zU), (32, .aload_n 0, 1, 0, 0, zU), (33, .iload_n 1, 1, 1, 0, zU), (34, .iconst 0, 1, 0, 0, .int (nI 0)), (35, .invokevirtual 269, 3, 52, 2, .retAddr 10), (38, .istore 4, 2, 4, 0, zU), (40, .iconst 1, 1, 0, 0, .int (nI 1)), (41, .istore 5, 2, 5, 0, zU), (43, .iload 5, 2, 5, 0, zU), (45, .bipush 10, 2, 0, 0, .int (nI 10)), (47, .if_icmp .ge 41, 3, 88, 0, zU), (50, .aload_n 0, 1, 0, 0, zU), (51, .iload_n 1, 1, 1, 0, zU), (52, .iload 5, 2, 5, 0, zU), (54, .invokevirtual 269, 3, 52, 2, .retAddr 10), (57, .istore 6, 2, 6, 0, zU), (59, .iload 6, 2, 6, 0, zU), (61, .iload 4, 2, 4, 0, zU), (63, .if_icmp .le 8, 3, 71, 0, zU), (66, .iload 5, 2, 5, 0, zU), (68, .goto 4, 3, 72, 0, zU), (71, .iload_n 3, 1, 3, 0, zU), (72, .istore_n 3, 1, 3, 0, zU), (73, .iload 6, 2, 6, 0, zU), (75, .iload 4, 2, 4, 0, zU), (77, .invokestatic 169, 3, 39, 2, zU), (80, .istore 4, 2, 4, 0, zU), (82, .iinc 5 1, 3, 5, 0, .int (nI 1)), (85, .goto (-42), 3, 43, 0, zU), (88, .iload_n 2, 1, 2, 0, zU), (89, .ifCond .ne 7, 3, 96, 0, zU), (92, .iload_n 3, 1, 3, 0, zU), (93, .goto 5, 3, 98, 0, zU), (96, .iload 4, 2, 4, 0, zU), (98, .ireturn, 1, 0, 0, zU)]
/-- Model.error(I)I -/
def zc213 : List zE := [(0, .iload_n 1, 1, 1, 0, zU), (1, .iconst (-1), 1, 0, 0, .int ((-1))), (2, .if_icmp .eq 14, 3, 16, 0, zU), (5, .aload_n 0, 1, 0, 0, zU), (6, .iload_n 1, 1, 1, 0, zU), (7, .invokevirtual 212, 3, 91, 1, .retAddr 10), (10, .ifCond .ne 6, 3, 16, 0, zU), (13, .ldc 216, 2, 0, 0, .int ((-1000000001))), (15, .ireturn, 1, 0, 0, zU), (16, .aload_n 0, 1, 0, 0, zU), (17, .getfield 144, 3, 10, 7, zU), (20, .ifCond .ne 8, 3, 28, 0, zU), (23, .ldc 211, 2, 0, 0, .int ((-1000000003))), (25, .goto 8, 3, 33, 0, zU), (28, .aload_n 0, 1, 0, 0, zU), (29, .iload_n 1, 1, 1, 0, zU), (30, .invokevirtual 275, 3, 206, 1, .retAddr 10), (33, .ireturn, 1, 0, 0, zU)]
/-- Model.truest(I)I -/
def zc214 : List zE := [(0, .iload_n 1, 1, 1, 0, zU), (1, .i2l, 1, 0, 0, zU), (2, .lconst 0, 1, 0, 0, .long (lN 0)), (3, .lconst 1, 1, 0, 0, .long (lN 1)), (4, .invokestatic 68, 3, 37, 3, zU), (7, .ifCond .ne 6, 3, 13, 0, zU), (10, .ldc 72, 2, 0, 0, .int ((-1000000002))), (12, .ireturn, 1, 0, 0, zU), (13, .iconst (-1), 1, 0, 0, .int ((-1))), (14, .istore_n 2, 1, 2, 0, zU), (15, .ldc_w 278, 3, 0, 0, .int (nI 99999999)), (18, .istore_n 3, 1, 3, 0, zU), (19, .iconst 0, 1, 0, 0, .int (nI 0)), (20, .istore 4, 2, 4, 0, zU), (22, .iload 4, 2, 4, 0, zU), (24, .aload_n 0, 1, 0, 0, zU), (25, .getfield 141, 3, 10, 9, zU), (28, .if_icmp .ge 37, 3, 65, 0, zU), (31, .aload_n 0, 1, 0, 0, zU), (32, .iload 4, 2, 4, 0, zU), (34, .invokevirtual 275, 3, 206, 1, .retAddr 10), (37, .istore 5, 2, 5, 0, zU), (39, .iload 5, 2, 5, 0, zU), (41, .iload_n 3, 1, 3, 0, zU), (42, .if_icmp .ge 8, 3, 50, 0, zU), (45, .iload 4, 2, 4, 0, zU), (47, .goto 4, 3, 51, 0, zU), (50, .iload_n 2, 1, 2, 0, zU), (51, .istore_n 2, 1, 2, 0, zU), (52, .iload 5, 2, 5, 0, zU), (54, .iload_n 3, 1, 3, 0, zU), (55, .invokestatic 166, 3, 38, 2, zU), (58, .istore_n 3, 1, 3, 0, zU), (59, .iinc 4 1, 3, 4, 0, .int (nI 1)), (62, .goto (-40), 3, 22, 0, zU), (65, .iload_n 1, 1, 1, 0, zU), (66, .ifCond .eq 8, 3, 74, 0, zU), (69, .iload_n 2, 1, 2, 0, zU), (70, .iconst (-1), 1, 0, 0, .int ((-1))), (71, .if_icmp .ne 7, 3, 78, 0, zU), (74, .iload_n 2, 1, 2, 0, zU), (75, .goto 4, 3, 79, 0, zU), (78, .iload_n 3, 1, 3, 0, zU), (79, .ireturn, 1, 0, 0, zU)]
/-- Model.bestWeights(I)I -/
def zc215 : List zE := [(0, .iload_n 1, 1, 1, 0, zU), (1, .iconst (-1), 1, 0, 0, .int ((-1))), (2, .if_icmp .eq 14, 3, 16, 0, zU), (5, .aload_n 0, 1, 0, 0, zU), (6, .iload_n 1, 1, 1, 0, zU), (7, .invokevirtual 212, 3, 91, 1, .retAddr 10), (10, .ifCond .ne 6, 3, 16, 0, zU), (13, .ldc 216, 2, 0, 0, .int ((-1000000001))), (15, .ireturn, 1, 0, 0, zU), (16, .aload_n 0, 1, 0, 0, zU), (17, .getfield 144, 3, 10, 7, zU), (20, .ifCond .ne 6, 3, 26, 0, zU), (23, .ldc 211, 2, 0, 0, .int ((-1000000003))), (25, .ireturn, 1, 0, 0, zU), (26, .aload_n 0, 1, 0, 0, zU), (27, .invokevirtual 283, 3, 207, 0, .retAddr 10), (30, .iconst 1, 1, 0, 0, .int (nI 1)), (31, .istore_n 2, 1, 2, 0, zU), (32, .iconst 0, 1, 0, 0, .int (nI 0)), (33, .istore_n 3, 1, 3, 0, zU), (34, .iload_n 3, 1, 3, 0, zU), (35, .aload_n 0, 1, 0, 0, zU), (36, .getfield 141, 3, 10, 9, zU), (39, .if_icmp .ge 13, 3, 52, 0, zU), (42, .iload_n 2, 1, 2, 0, zU), (43, .iconst 3, 1, 0, 0, .int (nI 3)), (44, .imul, 1, 0, 0, zU), (45, .istore_n 2, 1, 2, 0, zU), (46, .iinc 3 1, 3, 3, 0, .int (nI 1)), (49, .goto (-15), 3, 34, 0, zU), (52, .iconst 0, 1, 0, 0, .int (nI 0)), (53, .istore_n 3, 1, 3, 0, zU), (54, .ldc_w 278, 3, 0, 0, .int (nI 99999999)), (57, .istore 4, 2, 4, 0, zU), (59, .iconst 0, 1, 0, 0, .int (nI 0)), (60, .istore 5, 2, 5, 0, zU), (62, .iload 5, 2, 5, 0, zU), (64, .iload_n 2, 1, 2, 0, zU), (65, .if_icmp .ge 40, 3, 105, 0, zU), (68, .aload_n 0, 1, 0, 0, zU), (69, .iload 5, 2, 5, 0, zU), (71, .invokevirtual 286, 3, 104, 1, .retAddr 10), (74, .istore 6, 2, 6, 0, zU), (76, .iload 6, 2, 6, 0, zU), (78, .iload 4, 2, 4, 0, zU), (80, .if_icmp .ge 8, 3, 88, 0, zU), (83, .iload 5, 2, 5, 0, zU), (85, .goto 4, 3, 89, 0, zU), (88, .iload_n 3, 1, 3, 0, zU), (89, .istore_n 3, 1, 3, 0, zU), (90, .iload 6, 2, 6, 0, zU), (92, .iload 4, 2, 4, 0, zU), (94, .invokestatic 166, 3, 38, 2, zU), (97, .istore 4, 2, 4, 0, zU), (99, .iinc 5 1, 3, 5, 0, .int (nI 1)), (102, .goto (-40), 3, 62, 0, zU), (105, .iload_n 1, 1, 1, 0, zU), (106, .iconst (-1), 1, 0, 0, .int ((-1))), (107, .if_icmp .ne 8, 3, 115, 0, zU), (110, .iload 4, 2, 4, 0, zU), (112, .goto 12, 3, 124, 0, zU), (115, .iload_n 3, 1, 3, 0, zU), (116, .iload_n 1, 1, 1, 0, zU), (117, .aload_n 0, 1, 0, 0, zU), (118, .getfield 141, 3, 10, 9, zU), (121, .invokestatic 279, 3, 53, 3, zU), (124, .ireturn, 1, 0, 0, zU)]
def zct : List (List zE) := [zc0, zc1, zc2, zc3, zc4, zc5, zc6, zc7, zc8, zc9, zc10, zc11, zc12, zc13, zc14, zc15, zc16, zc17, zc18, zc19, zc20, zc21, zc22, zc23, zc24, zc25, zc26, zc27, zc28, zc29, zc30, zc31, zc32, zc33, zc34, zc35, zc36, zc37, zc38, zc39, zc40, zc41, zc42, zc43, zc44, zc45, zc46, zc47, zc48, zc49, zc50, zc51, zc52, zc53, zc54, zc55, zc56, zc57, zc58, zc59, zc60, zc61, zc62, zc63, zc64, zc65, zc66, zc67, zc68, zc69, zc70, zc71, zc72, zc73, zc74, zc75, zc76, zc77, zc78, zc79, zc80, zc81, zc82, zc83, zc84, zc85, zc86, zc87, zc88, zc89, zc90, zc91, zc92, zc93, zc94, zc95, zc96, zc97, zc98, zc99, zc100, zc101, zc102, zc103, zc104, zc105, zc106, zc107, zc108, zc109, zc110, zc111, zc112, zc113, zc114, zc115, zc116, zc117, zc118, zc119, zc120, zc121, zc122, zc123, zc124, zc125, zc126, zc127, zc128, zc129, zc130, zc131, zc132, zc133, zc134, zc135, zc136, zc137, zc138, zc139, zc140, zc141, zc142, zc143, zc144, zc145, zc146, zc147, zc148, zc149, zc150, zc151, zc152, zc153, zc154, zc155, zc156, zc157, zc158, zc159, zc160, zc161, zc162, zc163, zc164, zc165, zc166, zc167, zc168, zc169, zc170, zc171, zc172, zc173, zc174, zc175, zc176, zc177, zc178, zc179, zc180, zc181, zc182, zc183, zc184, zc185, zc186, zc187, zc188, zc189, zc190, zc191, zc192, zc193, zc194, zc195, zc196, zc197, zc198, zc199, zc200, zc201, zc202, zc203, zc204, zc205, zc206, zc207, zc208, zc209, zc210, zc211, zc212, zc213, zc214, zc215]
abbrev zI : Type := MethodName × ByteArray × Nat × Option FieldType × Nat × Nat × Nat
/-- name, bytes, locals, what it returns, its receiver's class (99: static), depth of its calls, how many parameters -/
def zmi : List zI := [
  (yX0_clear, cX0_clear, 1, none, 0, 1, 0),
  (yX0_copyFrom, cX0_copyFrom, 2, none, 0, 1, 1),
  (yX0_addWeather, cX0_addWeather, 2, none, 0, 1, 1),
  (yX0_addGlass, cX0_addGlass, 3, none, 0, 1, 2),
  (yX0_addBoat, cX0_addBoat, 3, none, 0, 1, 2),
  (yX0_tellDrinks, cX0_tellDrinks, 2, none, 0, 1, 1),
  (yX1_forget, cX1_forget, 1, none, 1, 1, 0),
  (yX2_caughtInAll, cX2_caughtInAll, 3, (some .int), 2, 1, 0),
  (yX2_sail, cX2_sail, 3, none, 2, 1, 2),
  (yX2_safeDays, cX2_safeDays, 5, (some .int), 2, 1, 3),
  (yX2_haul, cX2_haul, 6, (some .int), 2, 1, 3),
  (yX3_forget, cX3_forget, 1, none, 3, 1, 0),
  (yX4_clear, cX4_clear, 1, none, 4, 1, 0),
  (yX4_addTap, cX4_addTap, 3, (some .boolean), 4, 1, 2),
  (yX4_addEntry, cX4_addEntry, 3, (some .boolean), 4, 1, 2),
  (yX4_firstWrong, cX4_firstWrong, 2, (some .int), 4, 1, 0),
  (yX5_add, cX5_add, 2, (some .boolean), 5, 1, 1),
  (yX5_wordFault, cX5_wordFault, 3, (some .int), 5, 1, 2),
  (yX5_fail, cX5_fail, 3, none, 5, 1, 2),
  (yX5_nextSign, cX5_nextSign, 1, (some .int), 5, 1, 0),
  (yX5_isFigure, cX5_isFigure, 1, (some .boolean), 99, 1, 1),
  (yX6_weatherAhead, cX6_weatherAhead, 3, (some .int), 6, 1, 1),
  (yX6_clearReading, cX6_clearReading, 3, (some .int), 99, 1, 2),
  (yX6_tellingOf, cX6_tellingOf, 2, (some .int), 99, 1, 2),
  (yX6_gladSet, cX6_gladSet, 3, (some .int), 6, 1, 0),
  (yX7_copyFrom, cX7_copyFrom, 2, none, 7, 1, 1),
  (yX7_addToLog, cX7_addToLog, 4, none, 7, 1, 3),
  (yX7_logEntry, cX7_logEntry, 4, (some .int), 7, 1, 2),
  (yX7_rulesThatHold, cX7_rulesThatHold, 5, (some .int), 7, 1, 1),
  (yX8_addWeight, cX8_addWeight, 4, none, 8, 1, 2),
  (yX8_daysToGive, cX8_daysToGive, 4, (some .int), 8, 1, 1),
  (yX9_fault, cX9_fault, 1, (some .int), 9, 1, 0),
  (yX9_seed, cX9_seed, 3, (some .int), 9, 1, 1),
  (yX9_noCoast, cX9_noCoast, 1, (some .boolean), 9, 1, 0),
  (yX9_draw, cX9_draw, 2, (some .int), 9, 1, 1),
  (yX9_isOut, cX9_isOut, 3, (some .boolean), 99, 1, 3),
  (yX9_hasBit, cX9_hasBit, 2, (some .boolean), 99, 1, 2),
  (yX10_in, cX10_in, 6, (some .boolean), 99, 1, 3),
  (yX10_least, cX10_least, 2, (some .int), 99, 1, 2),
  (yX10_most, cX10_most, 2, (some .int), 99, 1, 2),
  (yX10_apart, cX10_apart, 2, (some .int), 99, 1, 2),
  (yX10_one, cX10_one, 1, (some .int), 99, 1, 1),
  (yX10_has, cX10_has, 2, (some .boolean), 99, 1, 2),
  (yX10_here, cX10_here, 1, (some .int), 10, 1, 0),
  (yX10_want, cX10_want, 4, (some .boolean), 10, 1, 3),
  (yX10_take, cX10_take, 3, none, 10, 1, 0),
  (yX10_fault, cX10_fault, 1, (some .int), 10, 1, 0),
  (yX10_weatherOf, cX10_weatherOf, 2, (some .int), 10, 1, 1),
  (yX10_caught, cX10_caught, 3, (some .int), 10, 1, 0),
  (yX10_copy, cX10_copy, 4, none, 10, 1, 2),
  (yX10_log, cX10_log, 6, none, 10, 1, 4),
  (yX10_draw, cX10_draw, 2, (some .int), 10, 1, 1),
  (yX10_caughtBy, cX10_caughtBy, 5, (some .int), 10, 1, 2),
  (yX10_weightOf, cX10_weightOf, 5, (some .int), 99, 1, 3),
  (yX10_judge, cX10_judge, 2, (some .int), 10, 1, 0),
  (yX10_tear, cX10_tear, 2, (some .int), 10, 1, 0),
  (yX10_seed, cX10_seed, 3, (some .int), 10, 1, 1),
  (yJ6_bitCount_0f7a4, cJ6_bitCount_0f7a4, 1, (some .int), 99, 1, 1),
  (yJ7_fill_53178, cJ7_fill_53178, 4, none, 99, 1, 2),
  (yX1_remember, cX1_remember, 2, none, 1, 2, 1),
  (yX1_takeBack, cX1_takeBack, 3, (some .boolean), 1, 2, 2),
  (yX2_homeCount, cX2_homeCount, 1, (some .int), 2, 2, 0),
  (yX2_isReady, cX2_isReady, 2, (some .boolean), 2, 2, 1),
  (yX3_has, cX3_has, 2, (some .boolean), 3, 2, 1),
  (yX3_take, cX3_take, 4, none, 3, 2, 3),
  (yX3_give, cX3_give, 3, none, 3, 2, 2),
  (yX5_readNumber, cX5_readNumber, 5, (some .int), 5, 2, 1),
  (yX5_readEnd, cX5_readEnd, 1, none, 5, 2, 0),
  (yX6_reading, cX6_reading, 3, (some .int), 6, 2, 2),
  (yX6_readingBy, cX6_readingBy, 3, (some .int), 6, 2, 2),
  (yX6_firstFair, cX6_firstFair, 5, (some .int), 6, 2, 2),
  (yX7_begin, cX7_begin, 2, none, 7, 2, 1),
  (yX8_triedError, cX8_triedError, 4, (some .int), 8, 2, 1),
  (yX8_nextWeighing, cX8_nextWeighing, 2, (some .boolean), 8, 2, 0),
  (yX8_countStepsToReads, cX8_countStepsToReads, 5, none, 8, 2, 1),
  (yX8_addToSums, cX8_addToSums, 7, none, 8, 2, 2),
  (yX8_drinksShort, cX8_drinksShort, 4, (some .int), 8, 2, 1),
  (yX8_drinksOver, cX8_drinksOver, 4, (some .int), 8, 2, 1),
  (yX9_feed, cX9_feed, 2, (some .int), 9, 2, 1),
  (yX9_logged, cX9_logged, 3, (some .int), 9, 2, 2),
  (yX9_holds, cX9_holds, 2, (some .int), 9, 2, 1),
  (yX9_homeBy, cX9_homeBy, 6, (some .int), 9, 2, 2),
  (yX9_judge, cX9_judge, 1, (some .int), 9, 2, 0),
  (yX9_tear, cX9_tear, 2, (some .int), 9, 2, 0),
  (yX9_noGlass, cX9_noGlass, 2, (some .boolean), 9, 2, 1),
  (yX9_noBoat, cX9_noBoat, 2, (some .boolean), 9, 2, 1),
  (yX9_refuseAhead, cX9_refuseAhead, 2, (some .int), 9, 2, 1),
  (yX9_refuseDays, cX9_refuseDays, 2, (some .int), 9, 2, 1),
  (yX9_moveByDraw, cX9_moveByDraw, 2, none, 9, 2, 0),
  (yX10_feed, cX10_feed, 2, (some .int), 10, 2, 1),
  (yX10_takeNumber, cX10_takeNumber, 4, (some .int), 10, 2, 0),
  (yX10_isGlass, cX10_isGlass, 2, (some .boolean), 10, 2, 1),
  (yX10_isBoat, cX10_isBoat, 2, (some .boolean), 10, 2, 1),
  (yX10_isAll, cX10_isAll, 2, (some .boolean), 10, 2, 1),
  (yX10_tomorrow, cX10_tomorrow, 2, (some .int), 10, 2, 1),
  (yX10_held, cX10_held, 1, (some .int), 99, 2, 1),
  (yX10_sails, cX10_sails, 4, (some .boolean), 10, 2, 3),
  (yX10_gladOnes, cX10_gladOnes, 3, (some .int), 10, 2, 0),
  (yX10_weather, cX10_weather, 2, (some .int), 10, 2, 1),
  (yX10_logged, cX10_logged, 3, (some .int), 10, 2, 2),
  (yX10_remember, cX10_remember, 2, none, 10, 2, 0),
  (yX10_refusedDays, cX10_refusedDays, 2, (some .int), 10, 2, 1),
  (yX10_homes, cX10_homes, 3, (some .int), 10, 2, 0),
  (yX10_undo, cX10_undo, 3, (some .int), 10, 2, 1),
  (yX10_errorBy, cX10_errorBy, 8, (some .int), 10, 2, 1),
  (yX10_isFair, cX10_isFair, 6, (some .boolean), 10, 2, 3),
  (yX10_holds, cX10_holds, 6, (some .int), 10, 2, 1),
  (yX10_homeBy, cX10_homeBy, 6, (some .int), 10, 2, 2),
  (yX10_keep, cX10_keep, 2, (some .int), 10, 2, 1),
  (yX10_goBack, cX10_goBack, 2, (some .int), 10, 2, 1),
  (yX4_fitting, cX4_fitting, 4, (some .int), 4, 3, 0),
  (yX4_greatestPart, cX4_greatestPart, 6, (some .int), 4, 3, 2),
  (yX5_readWeathers, cX5_readWeathers, 4, none, 5, 3, 1),
  (yX5_readGlass, cX5_readGlass, 4, none, 5, 3, 1),
  (yX5_readBoat, cX5_readBoat, 4, none, 5, 3, 1),
  (yX5_readDrinks, cX5_readDrinks, 3, none, 5, 3, 1),
  (yX6_telling, cX6_telling, 5, (some .int), 6, 3, 1),
  (yX6_falseSet, cX6_falseSet, 4, (some .int), 6, 3, 0),
  (yX6_apart, cX6_apart, 3, (some .int), 6, 3, 2),
  (yX8_glassError, cX8_glassError, 4, (some .int), 8, 3, 1),
  (yX8_startWeighing, cX8_startWeighing, 3, none, 8, 3, 0),
  (yX8_fewestSteps, cX8_fewestSteps, 5, (some .int), 8, 3, 1),
  (yX9_weather, cX9_weather, 3, (some .int), 9, 3, 1),
  (yX9_glass, cX9_glass, 3, (some .int), 9, 3, 2),
  (yX9_boat, cX9_boat, 3, (some .int), 9, 3, 2),
  (yX9_drink, cX9_drink, 2, (some .int), 9, 3, 1),
  (yX9_keepFrom, cX9_keepFrom, 2, (some .int), 9, 3, 1),
  (yX9_glad, cX9_glad, 4, (some .int), 9, 3, 2),
  (yX9_weigh, cX9_weigh, 4, (some .int), 9, 3, 2),
  (yX9_hold, cX9_hold, 4, (some .int), 9, 3, 2),
  (yX9_find, cX9_find, 2, (some .int), 9, 3, 1),
  (yX9_undo, cX9_undo, 2, (some .int), 9, 3, 1),
  (yX9_allTrue, cX9_allTrue, 3, (some .int), 9, 3, 2),
  (yX9_fair, cX9_fair, 3, (some .int), 9, 3, 2),
  (yX9_tap, cX9_tap, 3, (some .int), 9, 3, 2),
  (yX9_write, cX9_write, 3, (some .int), 9, 3, 2),
  (yX9_keep, cX9_keep, 2, (some .int), 9, 3, 1),
  (yX9_goBack, cX9_goBack, 2, (some .int), 9, 3, 1),
  (yX9_refuseGlassOrRow, cX9_refuseGlassOrRow, 2, (some .int), 9, 3, 1),
  (yX10_takeIn, cX10_takeIn, 5, (some .int), 10, 3, 2),
  (yX10_reading, cX10_reading, 3, (some .int), 99, 3, 3),
  (yX10_boat, cX10_boat, 3, (some .int), 10, 3, 2),
  (yX10_drink, cX10_drink, 2, (some .int), 10, 3, 1),
  (yX10_keepFrom, cX10_keepFrom, 2, (some .int), 10, 3, 1),
  (yX10_changed, cX10_changed, 4, (some .int), 10, 3, 2),
  (yX10_find, cX10_find, 2, (some .int), 10, 3, 1),
  (yX10_allTrue, cX10_allTrue, 6, (some .int), 10, 3, 2),
  (yX10_fair, cX10_fair, 4, (some .int), 10, 3, 2),
  (yX10_tap, cX10_tap, 3, (some .int), 10, 3, 2),
  (yX10_write, cX10_write, 3, (some .int), 10, 3, 2),
  (yX2_sailing, cX2_sailing, 4, (some .int), 2, 4, 0),
  (yX2_lookAhead, cX2_lookAhead, 3, none, 2, 4, 1),
  (yX4_bestToTap, cX4_bestToTap, 6, (some .int), 4, 4, 0),
  (yX5_readClause, cX5_readClause, 4, none, 5, 4, 1),
  (yX6_mostUnlike, cX6_mostUnlike, 6, (some .int), 6, 4, 0),
  (yX8_rowError, cX8_rowError, 3, (some .int), 8, 4, 0),
  (yX8_glassOfLeastError, cX8_glassOfLeastError, 5, (some .int), 8, 4, 0),
  (yX8_weighBest, cX8_weighBest, 5, (some .int), 8, 4, 0),
  (yX9_tells, cX9_tells, 3, (some .int), 9, 4, 1),
  (yX9_steps, cX9_steps, 2, (some .int), 9, 4, 1),
  (yX9_falseOnes, cX9_falseOnes, 1, (some .int), 9, 4, 0),
  (yX9_could, cX9_could, 1, (some .int), 9, 4, 0),
  (yX10_takeWeather, cX10_takeWeather, 3, none, 10, 4, 1),
  (yX10_takeGlass, cX10_takeGlass, 2, none, 10, 4, 1),
  (yX10_takeBoat, cX10_takeBoat, 2, none, 10, 4, 1),
  (yX10_takeDrinks, cX10_takeDrinks, 2, none, 10, 4, 1),
  (yX10_reads, cX10_reads, 3, (some .int), 10, 4, 2),
  (yX10_glad, cX10_glad, 3, (some .int), 10, 4, 2),
  (yX10_weigh, cX10_weigh, 3, (some .int), 10, 4, 2),
  (yX10_hold, cX10_hold, 5, (some .int), 10, 4, 2),
  (yX10_layGlass, cX10_layGlass, 5, none, 10, 4, 1),
  (yX10_wouldRead, cX10_wouldRead, 3, (some .int), 10, 4, 2),
  (yX2_passDay, cX2_passDay, 5, none, 2, 5, 0),
  (yX2_catchWithin, cX2_catchWithin, 4, (some .int), 2, 5, 2),
  (yX2_lostWithin, cX2_lostWithin, 4, (some .int), 2, 5, 1),
  (yX2_tryLimits, cX2_tryLimits, 5, none, 2, 5, 1),
  (yX5_read, cX5_read, 3, (some .int), 5, 5, 1),
  (yX9_told, cX9_told, 2, (some .int), 9, 5, 1),
  (yX9_error, cX9_error, 3, (some .int), 9, 5, 1),
  (yX9_truest, cX9_truest, 3, (some .int), 9, 5, 1),
  (yX9_bestWeights, cX9_bestWeights, 4, (some .int), 9, 5, 1),
  (yX9_differ, cX9_differ, 3, (some .int), 9, 5, 1),
  (yX9_tapNext, cX9_tapNext, 1, (some .int), 9, 5, 0),
  (yX10_takeClause, cX10_takeClause, 4, none, 10, 5, 0),
  (yX10_rowTells, cX10_rowTells, 5, (some .int), 10, 5, 1),
  (yX10_glass, cX10_glass, 3, (some .int), 10, 5, 2),
  (yX10_steps, cX10_steps, 5, (some .int), 10, 5, 1),
  (yX10_differ, cX10_differ, 7, (some .int), 10, 5, 1),
  (yX10_falseOnes, cX10_falseOnes, 3, (some .int), 10, 5, 0),
  (yX10_could, cX10_could, 5, (some .int), 10, 5, 0),
  (yX10_greatestPart, cX10_greatestPart, 7, (some .int), 10, 5, 2),
  (yX9_coast, cX9_coast, 2, (some .int), 9, 6, 0),
  (yX9_day, cX9_day, 4, (some .int), 9, 6, 1),
  (yX9_drift, cX9_drift, 4, (some .int), 9, 6, 1),
  (yX9_catches, cX9_catches, 3, (some .int), 9, 6, 2),
  (yX9_loses, cX9_loses, 2, (some .int), 9, 6, 1),
  (yX9_bestLimit, cX9_bestLimit, 3, (some .int), 9, 6, 2),
  (yX10_coast, cX10_coast, 1, (some .int), 10, 6, 0),
  (yX10_sailing, cX10_sailing, 4, (some .int), 10, 6, 0),
  (yX10_dayIn, cX10_dayIn, 7, none, 10, 6, 1),
  (yX10_tapNext, cX10_tapNext, 6, (some .int), 10, 6, 0),
  (yX10_told, cX10_told, 2, (some .int), 10, 7, 1),
  (yX10_day, cX10_day, 4, (some .int), 10, 7, 1),
  (yX10_dayByDraws, cX10_dayByDraws, 3, none, 10, 7, 0),
  (yX10_goOn, cX10_goOn, 3, none, 10, 7, 1),
  (yX10_layDays, cX10_layDays, 3, none, 10, 7, 1),
  (yX10_errorOf, cX10_errorOf, 5, (some .int), 10, 7, 1),
  (yX10_layReadings, cX10_layReadings, 3, none, 10, 7, 0),
  (yX10_drift, cX10_drift, 4, (some .int), 10, 8, 1),
  (yX10_tells, cX10_tells, 2, (some .int), 10, 8, 1),
  (yX10_catches, cX10_catches, 3, (some .int), 10, 8, 2),
  (yX10_loses, cX10_loses, 2, (some .int), 10, 8, 1),
  (yX10_bestLimit, cX10_bestLimit, 7, (some .int), 10, 8, 2),
  (yX10_error, cX10_error, 2, (some .int), 10, 8, 1),
  (yX10_truest, cX10_truest, 6, (some .int), 10, 8, 1),
  (yX10_bestWeights, cX10_bestWeights, 7, (some .int), 10, 8, 1)]
end
section
/-! THE SMALL MACHINE: cells by number, ints by cell and place; one instruction, a run with fuel -/
def zN : Nat := 321
def zkdL : List (Nat × Nat) := [(0,9),(0,5),(1,240),(0,0),(1,12),(1,7),(1,7),(1,5),(1,5),(0,0),(1,12),(1,7),(1,7),(1,5),(1,5),(0,6),(0,2),(1,60),(1,60),(0,8),(1,84),(1,12),(1,12),(1,7),(1,7),(1,10),(1,568),(1,568),(0,4),(1,6),(1,6),(1,20),(1,20),(1,10),(0,1),(3,30),(0,3),(3,2),(1,2),(0,10),(1,3128),(2,2),(1,24),(1,14),(1,14),(1,10),(1,10),(1,240),(1,14),(1,14),(1,84),(1,568),(1,568),(1,6),(1,6),(1,20),(1,20)]
def zstL : List (Nat × Nat) := [(0,7),(1,7),(1,7),(1,7),(1,5),(1,20),(1,20),(1,20)]
/-- what a cell is: (0, class), (1, length) ints, (2, length) booleans, (3, length) States; from 57 on the States, eight cells each -/
def zkd (i : Nat) : Nat × Nat := if i < 57 then zkdL.getD i (9,0) else if i < 321 then zstL.getD ((i - 57) % 8) (9,0) else (9,0)
def zrfL : List (List Nat) := [[1,3,9,57,15,16,19,28,34,36],[2],[],[0,0,0,0,0,4,5,6,7,8],[],[],[],[],[],[0,0,0,0,0,10,11,12,13,14],[],[],[],[],[],[9,57],[9,57,15,17,18],[],[],[9,57,15,20,21,22,23,24,0,25],[],[],[],[],[],[],[],[],[9,57,15,29,30,0,31,32,0,33],[],[],[],[],[],[35],[],[37,38],[],[],[40,41,42,43,44,45,46,0,0,0,0,0,0,0,0,0,47,0,0,0,0,0,0,48,49,50,51,52,53,54,0,55,56]]
/-- the cell that a place refers to, for good -/
def zrf (i k : Nat) : Nat := if i < 57 then (if i = 35 then 65 + 8 * k else if i = 37 then 305 + 8 * k else (zrfL.getD i []).getD k 0) else if k < 8 then i + (k - 3) else i + (k - 5)
/-- fields: 0 int, 1 a cell for good, 2 a cell that changes, 3 boolean -/
def zftL : List (List Nat) := [[0,0,0,0,3,1,1,1,1,1],[1,0,0],[1,1,1,1,1,0,0],[1,1,0],[1,1,1,1,1,0,1,1,0,1],[1,0,0,0,0],[1,1],[0,0,0,0,1,1,1,1,0,0,1,1,1],[1,1,1,1,1,1,1,1,0,1,2,2],[1,1,1,1,1,1,1,1,1,1,0],[1,1,1,1,1,1,1,0,0,0,0,0,0,0,0,3,1,0,0,0,0,0,0,1,1,1,1,1,1,1,0,1,1,0]]
def zft (c k : Nat) : Nat := (zftL.getD c []).getD k 9
def zst (X : zM) (a : Nat) (f : Nat → Int32) : zM := fun i => if i = a then f else X i
def zgf (i c k : Nat) (X : zM) : Value := match zft c k with
  | 1 => .ref (zrf i k)
  | 2 => .ref (X i k).toNatClampNeg
  | _ => .int (X i k)
def zcb (c : Jvm.ClassFile.Cond) (x y : Int32) : Bool := match c with
  | .eq => decide (x = y)
  | .ne => decide (¬ x = y)
  | .lt => decide (x < y)
  | .ge => decide (y ≤ x)
  | .gt => decide (y < x)
  | .le => decide (x ≤ y)
def zent (n : Nat) (as : List Value) : List Value :=
  (as.flatMap fun v => if v.category = 2 then [v, zU] else [v]) ++ List.replicate (n - (as.flatMap fun v => if v.category = 2 then [v, zU] else [v]).length) zU
def zsw : List (Int32 × Nat) → Nat → Int32 → Nat
  | [], d, _ => d
  | q :: r, d, x => if x = q.1 then q.2 else zsw r d x
def ztb (pc : Nat) (lo : Int) : List Int → List (Int32 × Nat)
  | [] => []
  | o :: r => (Int32.ofInt lo, ((pc : Int) + o).toNat) :: ztb pc (lo + 1) r
def zlk (pc : Nat) : List (Int × Int) → List (Int32 × Nat)
  | [] => []
  | o :: r => (Int32.ofInt o.1, ((pc : Int) + o.2).toNat) :: zlk pc r
/-- what an instruction comes to: on at a place; an end; a call (method, arguments, place behind, stack behind) -/
abbrev zO : Type := (Nat × List Value × List Value × zM) ⊕ (zR ⊕ (Nat × List Value × Nat × List Value))
def zstp (e : zE) (L S : List Value) (X : zM) : Option zO :=
  match e.2.1 with
  | .iconst _ => some (.inl (e.1 + e.2.2.1, L, e.2.2.2.2.2 :: S, X))
  | .bipush _ => some (.inl (e.1 + e.2.2.1, L, e.2.2.2.2.2 :: S, X))
  | .sipush _ => some (.inl (e.1 + e.2.2.1, L, e.2.2.2.2.2 :: S, X))
  | .ldc _ => some (.inl (e.1 + e.2.2.1, L, e.2.2.2.2.2 :: S, X))
  | .ldc_w _ => some (.inl (e.1 + e.2.2.1, L, e.2.2.2.2.2 :: S, X))
  | .lconst _ => some (.inl (e.1 + e.2.2.1, L, e.2.2.2.2.2 :: S, X))
  | .ldc2_w _ => some (.inl (e.1 + e.2.2.1, L, e.2.2.2.2.2 :: S, X))
  | .iload_n _ => (match L[e.2.2.2.1]? with | some (.int x) => some (.inl (e.1 + e.2.2.1, L, .int x :: S, X)) | _ => none)
  | .iload _ => (match L[e.2.2.2.1]? with | some (.int x) => some (.inl (e.1 + e.2.2.1, L, .int x :: S, X)) | _ => none)
  | .aload_n _ => (match L[e.2.2.2.1]? with | some (.ref x) => some (.inl (e.1 + e.2.2.1, L, .ref x :: S, X)) | _ => none)
  | .lload_n _ => (match L[e.2.2.2.1]? with | some (.long x) => (match L[e.2.2.2.1 + 1]? with | some (.retAddr 0) => some (.inl (e.1 + e.2.2.1, L, .long x :: S, X)) | _ => none) | _ => none)
  | .lload _ => (match L[e.2.2.2.1]? with | some (.long x) => (match L[e.2.2.2.1 + 1]? with | some (.retAddr 0) => some (.inl (e.1 + e.2.2.1, L, .long x :: S, X)) | _ => none) | _ => none)
  | .istore_n _ => (match S with | .int x :: S => if e.2.2.2.1 < L.length then some (.inl (e.1 + e.2.2.1, (L.set e.2.2.2.1 (.int x)), S, X)) else none | _ => none)
  | .istore _ => (match S with | .int x :: S => if e.2.2.2.1 < L.length then some (.inl (e.1 + e.2.2.1, (L.set e.2.2.2.1 (.int x)), S, X)) else none | _ => none)
  | .astore_n _ => (match S with | .ref x :: S => if e.2.2.2.1 < L.length then some (.inl (e.1 + e.2.2.1, (L.set e.2.2.2.1 (.ref x)), S, X)) else none | _ => none)
  | .lstore_n _ => (match S with | .long x :: S => if e.2.2.2.1 + 1 < L.length then some (.inl (e.1 + e.2.2.1, ((L.set e.2.2.2.1 (.long x)).set (e.2.2.2.1 + 1) zU), S, X)) else none | _ => none)
  | .iinc _ _ => (match L[e.2.2.2.1]? with | some (.int x) => (match e.2.2.2.2.2 with | .int w => some (.inl (e.1 + e.2.2.1, (L.set e.2.2.2.1 (.int (x + w))), S, X)) | _ => none) | _ => none)
  | .iadd => (match S with | .int y :: .int x :: S => some (.inl (e.1 + e.2.2.1, L, (.int (x + y) :: S), X)) | _ => none)
  | .isub => (match S with | .int y :: .int x :: S => some (.inl (e.1 + e.2.2.1, L, (.int (x - y) :: S), X)) | _ => none)
  | .imul => (match S with | .int y :: .int x :: S => some (.inl (e.1 + e.2.2.1, L, (.int (x * y) :: S), X)) | _ => none)
  | .iand => (match S with | .int y :: .int x :: S => some (.inl (e.1 + e.2.2.1, L, (.int (x &&& y) :: S), X)) | _ => none)
  | .ior => (match S with | .int y :: .int x :: S => some (.inl (e.1 + e.2.2.1, L, (.int (x ||| y) :: S), X)) | _ => none)
  | .ixor => (match S with | .int y :: .int x :: S => some (.inl (e.1 + e.2.2.1, L, (.int (x ^^^ y) :: S), X)) | _ => none)
  | .idiv => (match S with | .int y :: .int x :: S => if y = 0 then none else some (.inl (e.1 + e.2.2.1, L, (.int (x / y) :: S), X)) | _ => none)
  | .irem => (match S with | .int y :: .int x :: S => if y = 0 then none else some (.inl (e.1 + e.2.2.1, L, (.int (x - x / y * y) :: S), X)) | _ => none)
  | .ineg => (match S with | .int x :: S => some (.inl (e.1 + e.2.2.1, L, (.int (-x) :: S), X)) | _ => none)
  | .ishl => (match S with | .int y :: .int x :: S => some (.inl (e.1 + e.2.2.1, L, (.int (x <<< (y &&& 31)) :: S), X)) | _ => none)
  | .ishr => (match S with | .int y :: .int x :: S => some (.inl (e.1 + e.2.2.1, L, (.int (x >>> (y &&& 31)) :: S), X)) | _ => none)
  | .iushr => (match S with | .int y :: .int x :: S => some (.inl (e.1 + e.2.2.1, L, (.int ((x.toUInt32 >>> (y.toUInt32 &&& Int32.toUInt32 31)).toInt32) :: S), X)) | _ => none)
  | .ladd => (match S with | .long y :: .long x :: S => some (.inl (e.1 + e.2.2.1, L, (.long (x + y) :: S), X)) | _ => none)
  | .lmul => (match S with | .long y :: .long x :: S => some (.inl (e.1 + e.2.2.1, L, (.long (x * y) :: S), X)) | _ => none)
  | .ldiv => (match S with | .long y :: .long x :: S => if y = 0 then none else some (.inl (e.1 + e.2.2.1, L, (.long (x / y) :: S), X)) | _ => none)
  | .lrem => (match S with | .long y :: .long x :: S => if y = 0 then none else some (.inl (e.1 + e.2.2.1, L, (.long (x - x / y * y) :: S), X)) | _ => none)
  | .lcmp => (match S with | .long y :: .long x :: S => some (.inl (e.1 + e.2.2.1, L, (.int (lg_cmp x y) :: S), X)) | _ => none)
  | .i2l => (match S with | .int x :: S => some (.inl (e.1 + e.2.2.1, L, .long x.toInt64 :: S, X)) | _ => none)
  | .l2i => (match S with | .long x :: S => some (.inl (e.1 + e.2.2.1, L, .int x.toInt32 :: S, X)) | _ => none)
  | .dup => (match S with | .int x :: S => some (.inl (e.1 + e.2.2.1, L, .int x :: .int x :: S, X)) | .ref x :: S => some (.inl (e.1 + e.2.2.1, L, .ref x :: .ref x :: S, X)) | _ => none)
  | .dup2 => (match S with | .int y :: .ref x :: S => some (.inl (e.1 + e.2.2.1, L, .int y :: .ref x :: .int y :: .ref x :: S, X)) | _ => none)
  | .goto _ => some (.inl (e.2.2.2.1, L, S, X))
  | .if_icmp c _ => (match S with | .int y :: .int x :: S => if zcb c x y = true then some (.inl (e.2.2.2.1, L, S, X)) else some (.inl (e.1 + e.2.2.1, L, S, X)) | _ => none)
  | .ifCond c _ => (match S with | .int x :: S => if zcb c x 0 = true then some (.inl (e.2.2.2.1, L, S, X)) else some (.inl (e.1 + e.2.2.1, L, S, X)) | _ => none)
  | .tableswitch d lo _ os => (match S with | .int x :: S => some (.inl ((zsw (ztb e.1 lo os.toList) (((e.1 : Int) + d).toNat) x), L, S, X)) | _ => none)
  | .lookupswitch d ps => (match S with | .int x :: S => some (.inl ((zsw (zlk e.1 ps.toList) (((e.1 : Int) + d).toNat) x), L, S, X)) | _ => none)
  | .getfield _ => (match S with | .ref i :: S => if zkd i = (0, e.2.2.2.1) then some (.inl (e.1 + e.2.2.1, L, zgf i e.2.2.2.1 e.2.2.2.2.1 X :: S, X)) else none | _ => none)
  | .putfield _ => (match S with
    | .int x :: .ref i :: S => if zkd i = (0, e.2.2.2.1) then (if zft e.2.2.2.1 e.2.2.2.2.1 = 0 ∨ (zft e.2.2.2.1 e.2.2.2.2.1 = 3 ∧ (x = 0 ∨ x = 1)) then some (.inl (e.1 + e.2.2.1, L, S, (zst X i (upd (X i) e.2.2.2.2.1 x)))) else none) else none
    | .ref j :: .ref i :: S => if zkd i = (0, e.2.2.2.1) then (if zft e.2.2.2.1 e.2.2.2.2.1 = 2 ∧ j < zN then some (.inl (e.1 + e.2.2.1, L, S, (zst X i (upd (X i) e.2.2.2.2.1 (nI j))))) else none) else none
    | _ => none)
  | .iaload => (match S with | .int j :: .ref i :: S => if (zkd i).1 = 1 ∧ ¬ (j < 0 ∨ (zkd i).2 ≤ j.toNatClampNeg) then some (.inl (e.1 + e.2.2.1, L, (.int (X i j.toNatClampNeg) :: S), X)) else none | _ => none)
  | .baload => (match S with | .int j :: .ref i :: S => if (zkd i).1 = 2 ∧ ¬ (j < 0 ∨ (zkd i).2 ≤ j.toNatClampNeg) then some (.inl (e.1 + e.2.2.1, L, (.int (X i j.toNatClampNeg) :: S), X)) else none | _ => none)
  | .iastore => (match S with | .int x :: .int j :: .ref i :: S => if (zkd i).1 = 1 ∧ ¬ (j < 0 ∨ (zkd i).2 ≤ j.toNatClampNeg) then some (.inl (e.1 + e.2.2.1, L, S, (zst X i (upd (X i) j.toNatClampNeg x)))) else none | _ => none)
  | .bastore => (match S with | .int x :: .int j :: .ref i :: S => if (zkd i).1 = 2 ∧ ¬ (j < 0 ∨ (zkd i).2 ≤ j.toNatClampNeg) ∧ (x = 0 ∨ x = 1) then some (.inl (e.1 + e.2.2.1, L, S, (zst X i (upd (X i) j.toNatClampNeg x)))) else none | _ => none)
  | .aaload => (match S with | .int j :: .ref i :: S => if (zkd i).1 = 3 ∧ ¬ (j < 0 ∨ (zkd i).2 ≤ j.toNatClampNeg) then some (.inl (e.1 + e.2.2.1, L, (.ref (zrf i j.toNatClampNeg) :: S), X)) else none | _ => none)
  | .arraylength => (match S with | .ref i :: S => if (zkd i).1 = 1 then some (.inl (e.1 + e.2.2.1, L, (.int (nI (zkd i).2) :: S), X)) else none | _ => none)
  | .invokestatic _ => if e.2.2.2.1 = 9999 then (match S with
      | .int n :: .int dp :: .ref i :: .int sp :: .ref j :: S => if (zkd i).1 = 1 ∧ (zkd j).1 = 1 ∧ ¬ sp < 0 ∧ ¬ dp < 0 ∧ ¬ n < 0 ∧ sp.toNatClampNeg + n.toNatClampNeg ≤ (zkd j).2 ∧ dp.toNatClampNeg + n.toNatClampNeg ≤ (zkd i).2 ∧ S.length ≤ 4 then some (.inl (e.1 + e.2.2.1, L, S, (zst X i (va_cpy (X j) (X i) sp.toNatClampNeg dp.toNatClampNeg n.toNatClampNeg)))) else none
      | _ => none)
    else if e.2.2.2.1 = 9001 then (match S with | .int y :: .int x :: S => if S.length ≤ 4 then some (.inl (e.1 + e.2.2.1, L, .int (if x < y then y else x) :: S, X)) else none | _ => none)
    else if e.2.2.2.1 = 9002 then (match S with | .int y :: .int x :: S => if S.length ≤ 4 then some (.inl (e.1 + e.2.2.1, L, .int (if y < x then y else x) :: S, X)) else none | _ => none)
    else if e.2.2.2.1 = 9003 then (match S with | .int x :: S => if S.length ≤ 4 then some (.inl (e.1 + e.2.2.1, L, .int (if 0 ≤ x then x else 0 - x) :: S, X)) else none | _ => none)
    else if e.2.2.2.2.1 ≤ S.length ∧ (S.drop e.2.2.2.2.1).length ≤ 4 then some (.inr (.inr (e.2.2.2.1, (S.take e.2.2.2.2.1).reverse, e.1 + e.2.2.1, S.drop e.2.2.2.2.1))) else none
  | .invokevirtual _ => (match S.drop e.2.2.2.2.1 with
      | .ref i :: S1 => if e.2.2.2.2.2 = .retAddr (zkd i).2 ∧ (zkd i).1 = 0 ∧ S1.length ≤ 4 then some (.inr (.inr (e.2.2.2.1, (.ref i :: (S.take e.2.2.2.2.1).reverse), e.1 + e.2.2.1, S1))) else none
      | _ => none)
  | .ireturn => (match S with | [.int x] => if e.2.2.2.1 = 0 ∨ x = 0 ∨ x = 1 then some (.inr (.inl (some (.int x), X))) else none | _ => none)
  | .return_ => (match S with | [] => some (.inr (.inl (none, X))) | _ => none)
  | _ => none
def zsem (k : Nat → List Value → List Value → zM → Option zR) (cl : Nat → List Value → zM → Option zR) (e : zE) (L S : List Value) (X : zM) : Option zR :=
  match zstp e L S X with
  | none => none
  | some (.inl q) => k q.1 q.2.1 q.2.2.1 q.2.2.2
  | some (.inr (.inl r)) => some r
  | some (.inr (.inr q)) => (cl q.1 q.2.1 X).bind (fun r => k q.2.2.1 L (r.1.toList ++ q.2.2.2) r.2)
def zfetch (y pc : Nat) : Option zE := (zct.getD y []).find? (fun e => Nat.beq e.1 pc)
def zmx (y : Nat) : Nat := match zmi[y]? with | some q => q.2.2.1 | none => 0
def zrun : Nat → Nat → Nat → List Value → List Value → zM → Option zR
  | 0, _, _, _, _, _ => none
  | n + 1, y, pc, L, S, X => match zfetch y pc with
    | none => none
    | some e => zsem (zrun n y) (fun y1 as X1 => if (zent (zmx y1) as).length = zmx y1 then zrun n y1 0 (zent (zmx y1) as) [] X1 else none) e L S X
def zev (y pc : Nat) (L S : List Value) (X : zM) (Q : Option Value → zM → Prop) : Prop := ∃ (n : Nat) (r : zR), zrun n y pc L S X = some r ∧ Q r.1 r.2
def zcl (y : Nat) (as : List Value) (X : zM) (Q : Option Value → zM → Prop) : Prop := (zent (zmx y) as).length = zmx y ∧ zev y 0 (zent (zmx y) as) [] X Q
end
section
/-! runs: more fuel does no harm; an instruction as an equation -/
theorem zsem_mono {k1 k2 : Nat → List Value → List Value → zM → Option zR} {c1 c2 : Nat → List Value → zM → Option zR} {e : zE} {L S : List Value} {X : zM} {r : zR} (hk : ∀ p L S X r, k1 p L S X = some r → k2 p L S X = some r) (hc : ∀ y as X r, c1 y as X = some r → c2 y as X = some r) (h : zsem k1 c1 e L S X = some r) : zsem k2 c2 e L S X = some r := by
  unfold zsem at h ⊢
  cases hq : zstp e L S X with
  | none => rw [hq] at h; cases h
  | some o =>
    rw [hq] at h
    match o with
    | .inl q => exact hk _ _ _ _ _ h
    | .inr (.inl r1) => exact h
    | .inr (.inr q) =>
      simp only at h ⊢
      cases h1 : c1 q.1 q.2.1 X with
      | none => rw [h1] at h; cases h
      | some r1 =>
        rw [h1] at h
        rw [hc _ _ _ _ h1]
        exact hk _ _ _ _ _ h
theorem zrun_succ {y pc : Nat} {e : zE} (hf : zfetch y pc = some e) (n : Nat) (L S : List Value) (X : zM) : zrun (n + 1) y pc L S X = zsem (zrun n y) (fun y1 as X1 => if (zent (zmx y1) as).length = zmx y1 then zrun n y1 0 (zent (zmx y1) as) [] X1 else none) e L S X := by
  show (match zfetch y pc with | none => none | some e => zsem (zrun n y) (fun y1 as X1 => if (zent (zmx y1) as).length = zmx y1 then zrun n y1 0 (zent (zmx y1) as) [] X1 else none) e L S X) = _
  rw [hf]
theorem zrun_mono1 : ∀ (n y pc : Nat) (L S : List Value) (X : zM) (r : zR), zrun n y pc L S X = some r → zrun (n + 1) y pc L S X = some r := by
  intro n
  induction n with
  | zero => intro y pc L S X r h; cases h
  | succ n ih =>
    intro y pc L S X r h
    cases hf : zfetch y pc with
    | none => rw [zrun, hf] at h; cases h
    | some e =>
      rw [zrun_succ hf] at h ⊢
      exact zsem_mono (fun p L S X r h => ih y p L S X r h) (fun y1 as X r h => by
        by_cases hc : (zent (zmx y1) as).length = zmx y1
        · simp only [if_pos hc] at h ⊢
          exact ih y1 0 _ [] X r h
        · simp only [if_neg hc] at h
          cases h) h
theorem zrun_mono {n m : Nat} (hm : n ≤ m) {y pc : Nat} {L S : List Value} {X : zM} {r : zR} (h : zrun n y pc L S X = some r) : zrun m y pc L S X = some r := by
  induction hm with
  | refl => exact h
  | step _ ih => exact zrun_mono1 _ _ _ _ _ _ _ ih
theorem zev_unf {y pc : Nat} {e : zE} (hf : zfetch y pc = some e) {L S : List Value} {X : zM} {Q : Option Value → zM → Prop} : zev y pc L S X Q ↔ ∃ (n : Nat) (r : zR), zsem (zrun n y) (fun y1 as X1 => if (zent (zmx y1) as).length = zmx y1 then zrun n y1 0 (zent (zmx y1) as) [] X1 else none) e L S X = some r ∧ Q r.1 r.2 := by
  constructor
  · rintro ⟨n, r, h, hQ⟩
    cases n with
    | zero => cases h
    | succ n => rw [zrun_succ hf] at h; exact ⟨n, r, h, hQ⟩
  · rintro ⟨n, r, h, hQ⟩
    exact ⟨n + 1, r, by rw [zrun_succ hf]; exact h, hQ⟩
theorem zev_go {y pc : Nat} {e : zE} (hf : zfetch y pc = some e) {L S L1 S1 : List Value} {X X1 : zM} {p1 : Nat} (h : zstp e L S X = some (.inl (p1, L1, S1, X1))) (Q : Option Value → zM → Prop) : zev y pc L S X Q = zev y p1 L1 S1 X1 Q := by
  apply propext
  rw [zev_unf hf]
  unfold zsem zev
  rw [h]
theorem zev_if {y pc : Nat} {e : zE} (hf : zfetch y pc = some e) {L S L1 S1 L2 S2 : List Value} {X X1 X2 : zM} {p1 p2 : Nat} {c : Prop} [Decidable c] (h : zstp e L S X = if c then some (.inl (p1, L1, S1, X1)) else some (.inl (p2, L2, S2, X2))) (Q : Option Value → zM → Prop) : zev y pc L S X Q = if c then zev y p1 L1 S1 X1 Q else zev y p2 L2 S2 X2 Q := by
  by_cases hc : c
  · rw [if_pos hc] at h ⊢; exact zev_go hf h Q
  · rw [if_neg hc] at h ⊢; exact zev_go hf h Q
theorem zev_ret {y pc : Nat} {e : zE} (hf : zfetch y pc = some e) {L S : List Value} {X : zM} {r : Option Value} {X1 : zM} (h : zstp e L S X = some (.inr (.inl (r, X1)))) (Q : Option Value → zM → Prop) : zev y pc L S X Q = Q r X1 := by
  apply propext
  rw [zev_unf hf]
  unfold zsem
  rw [h]
  constructor
  · rintro ⟨n, r1, h1, hQ⟩
    cases h1
    exact hQ
  · intro hQ
    exact ⟨0, _, rfl, hQ⟩
theorem zev_call {y pc : Nat} {e : zE} (hf : zfetch y pc = some e) {L S S1 as : List Value} {X : zM} {y1 p1 : Nat} (h : zstp e L S X = some (.inr (.inr (y1, as, p1, S1)))) (Q : Option Value → zM → Prop) : zev y pc L S X Q = zcl y1 as X (fun r X1 => zev y p1 L (r.toList ++ S1) X1 Q) := by
  apply propext
  rw [zev_unf hf]
  unfold zsem
  rw [h]
  constructor
  · rintro ⟨n, r, h1, hQ⟩
    simp only at h1
    by_cases hc : (zent (zmx y1) as).length = zmx y1
    · rw [if_pos hc] at h1
      cases h2 : zrun n y1 0 (zent (zmx y1) as) [] X with
      | none => rw [h2] at h1; cases h1
      | some r1 =>
        rw [h2] at h1
        exact ⟨hc, n, r1, h2, n, r, h1, hQ⟩
    · rw [if_neg hc] at h1
      cases h1
  · rintro ⟨hc, n, r1, h2, m, r, h1, hQ⟩
    refine ⟨n + m, r, ?_, hQ⟩
    simp only
    rw [if_pos hc, zrun_mono (Nat.le_add_right n m) h2]
    exact zrun_mono (Nat.le_add_left m n) h1
theorem zev_cl (y : Nat) (as : List Value) (X : zM) (Q : Option Value → zM → Prop) {L : List Value} (h : zent (zmx y) as = L) (hl : L.length = zmx y) : zcl y as X Q = zev y 0 L [] X Q := by
  unfold zcl; rw [h]; exact propext ⟨fun q => q.2, fun q => ⟨hl, q⟩⟩
theorem zev_imp {y pc : Nat} {L S : List Value} {X : zM} {Q Q2 : Option Value → zM → Prop} (h : zev y pc L S X Q) (hi : ∀ r X, Q r X → Q2 r X) : zev y pc L S X Q2 := by
  obtain ⟨n, r, h1, h2⟩ := h
  exact ⟨n, r, h1, hi _ _ h2⟩
theorem zcl_imp {y : Nat} {as : List Value} {X : zM} {Q Q2 : Option Value → zM → Prop} (h : zcl y as X Q) (hi : ∀ r X, Q r X → Q2 r X) : zcl y as X Q2 := ⟨h.1, zev_imp h.2 hi⟩
theorem zev_sw0 (y : Nat) (d : Nat) (x : Int32) (L S : List Value) (X : zM) (Q : Option Value → zM → Prop) : zev y (zsw [] d x) L S X Q = zev y d L S X Q := rfl
theorem zev_sw1 (y : Nat) (c : Int32) (t : Nat) (r : List (Int32 × Nat)) (d : Nat) (x : Int32) (L S : List Value) (X : zM) (Q : Option Value → zM → Prop) : zev y (zsw ((c, t) :: r) d x) L S X Q = if x = c then zev y t L S X Q else zev y (zsw r d x) L S X Q := by
  show zev y (if x = c then t else zsw r d x) L S X Q = _
  split <;> rfl
end
section
/-! the words of the tables by their places, and the check of every instruction; written by wip/gen/gen2.py -/
def zcn : List String := [RX0, RX1, RX2, RX3, RX4, RX5, RX6, RX7, RX8, RX9, RX10, RJ6, RJ9, RJ7]
def gT : List Cond := lw_tbl.filter goodWord
theorem gT_at {i : Nat} {w : Cond} (h : lw_tbl[i]? = some w ∧ goodWord w = true) : w ∈ gT := List.mem_filter.mpr ⟨List.mem_of_getElem? h.1, h.2⟩
def znm (y : Nat) : MethodName := match zmi[y]? with | some q => q.1 | none => ⟨"", "", ""⟩
def zby (y : Nat) : ByteArray := match zmi[y]? with | some q => q.2.1 | none => ⟨#[]⟩
def zret (y : Nat) : Option FieldType := match zmi[y]? with | some q => q.2.2.2.1 | none => none
def zrc (y : Nat) : Nat := match zmi[y]? with | some q => q.2.2.2.2.1 | none => 99
def zdp (y : Nat) : Nat := match zmi[y]? with | some q => q.2.2.2.2.2.1 | none => 0
def znp (y : Nat) : Nat := match zmi[y]? with | some q => q.2.2.2.2.2.2 | none => 0
def zowL : List Nat := [0, 0, 0, 0, 0, 0, 1, 2, 2, 2, 2, 3, 4, 4, 4, 4, 5, 5, 5, 5, 5, 6, 6, 6, 6, 7, 7, 7, 7, 8, 8, 9, 9, 9, 9, 9, 9, 10, 10, 10, 10, 10, 10, 10, 10, 10, 10, 10, 10, 10, 10, 10, 10, 10, 10, 10, 10, 11, 13, 1, 1, 2, 2, 3, 3, 3, 5, 5, 6, 6, 6, 7, 8, 8, 8, 8, 8, 8, 9, 9, 9, 9, 9, 9, 9, 9, 9, 9, 9, 10, 10, 10, 10, 10, 10, 10, 10, 10, 10, 10, 10, 10, 10, 10, 10, 10, 10, 10, 10, 10, 4, 4, 5, 5, 5, 5, 6, 6, 6, 8, 8, 8, 9, 9, 9, 9, 9, 9, 9, 9, 9, 9, 9, 9, 9, 9, 9, 9, 9, 10, 10, 10, 10, 10, 10, 10, 10, 10, 10, 10, 2, 2, 4, 5, 6, 8, 8, 8, 9, 9, 9, 9, 10, 10, 10, 10, 10, 10, 10, 10, 10, 10, 2, 2, 2, 2, 5, 9, 9, 9, 9, 9, 9, 10, 10, 10, 10, 10, 10, 10, 10, 9, 9, 9, 9, 9, 9, 10, 10, 10, 10, 10, 10, 10, 10, 10, 10, 10, 10, 10, 10, 10, 10, 10, 10, 10]
def zow (y : Nat) : Nat := zowL.getD y 99
def zcs (c : Nat) : vw_C := vwCl.getD c ("", fun _ => ("", "", "", false), 0)
def zFL : List (((Nat × Nat) × (Nat × Nat)) × Nat) := [(((5, 9), (5, 0)), 99), (((5, 15), (5, 1)), 100), (((9, 92), (5, 1)), 101), (((5, 19), (5, 2)), 102), (((5, 22), (5, 3)), 103), (((5, 25), (5, 4)), 104), (((9, 117), (5, 4)), 105), (((0, 27), (0, 0)), 124), (((6, 25), (0, 0)), 125), (((5, 41), (0, 0)), 126), (((9, 120), (0, 0)), 127), (((0, 31), (0, 1)), 128), (((9, 114), (0, 1)), 129), (((8, 71), (0, 1)), 130), (((5, 71), (0, 1)), 131), (((6, 57), (0, 1)), 132), (((2, 90), (0, 1)), 133), (((4, 67), (0, 1)), 134), (((2, 37), (0, 2)), 135), (((0, 34), (0, 2)), 136), (((5, 74), (0, 2)), 137), (((9, 123), (0, 2)), 138), (((7, 37), (0, 3)), 139), (((0, 37), (0, 3)), 140), (((5, 48), (0, 3)), 141), (((2, 102), (0, 3)), 142), (((8, 143), (0, 3)), 143), (((0, 40), (0, 4)), 144), (((5, 44), (0, 4)), 145), (((0, 9), (0, 5)), 146), (((6, 30), (0, 5)), 147), (((0, 15), (0, 6)), 148), (((7, 51), (0, 6)), 149), (((0, 18), (0, 7)), 150), (((7, 58), (0, 7)), 151), (((0, 21), (0, 8)), 152), (((2, 72), (0, 8)), 153), (((9, 195), (0, 8)), 154), (((0, 24), (0, 9)), 155), (((2, 111), (0, 9)), 156), (((9, 198), (0, 9)), 157), (((7, 33), (7, 0)), 185), (((6, 19), (7, 0)), 186), (((9, 126), (7, 0)), 187), (((2, 108), (7, 0)), 188), (((7, 42), (7, 1)), 189), (((9, 137), (7, 1)), 190), (((2, 105), (7, 1)), 191), (((8, 140), (7, 1)), 192), (((2, 42), (7, 2)), 193), (((7, 45), (7, 2)), 194), (((9, 144), (7, 2)), 195), (((7, 48), (7, 3)), 196), (((2, 56), (7, 3)), 197), (((9, 147), (7, 3)), 198), (((7, 9), (7, 4)), 199), (((6, 38), (7, 4)), 200), (((4, 46), (7, 4)), 201), (((9, 178), (7, 4)), 202), (((8, 130), (7, 4)), 203), (((7, 15), (7, 5)), 204), (((6, 60), (7, 5)), 205), (((9, 182), (7, 5)), 206), (((8, 108), (7, 5)), 207), (((7, 18), (7, 6)), 208), (((6, 41), (7, 6)), 209), (((2, 93), (7, 6)), 210), (((9, 189), (7, 6)), 211), (((8, 123), (7, 6)), 212), (((7, 21), (7, 7)), 213), (((2, 53), (7, 7)), 214), (((9, 205), (7, 7)), 215), (((7, 65), (7, 8)), 216), (((9, 156), (7, 8)), 217), (((7, 68), (7, 9)), 218), (((7, 24), (7, 10)), 219), (((7, 27), (7, 11)), 220), (((7, 30), (7, 12)), 221), (((6, 9), (6, 0)), 255), (((6, 15), (6, 1)), 256), (((2, 25), (2, 0)), 268), (((2, 29), (2, 1)), 269), (((2, 33), (2, 2)), 270), (((2, 9), (2, 3)), 271), (((2, 15), (2, 4)), 272), (((2, 18), (2, 5)), 273), (((9, 247), (2, 5)), 274), (((2, 22), (2, 6)), 275), (((9, 250), (2, 6)), 276), (((8, 40), (8, 0)), 298), (((8, 44), (8, 1)), 299), (((8, 48), (8, 2)), 300), (((8, 9), (8, 3)), 301), (((8, 15), (8, 4)), 302), (((8, 18), (8, 5)), 303), (((8, 21), (8, 6)), 304), (((8, 24), (8, 7)), 305), (((9, 268), (8, 7)), 306), (((8, 27), (8, 8)), 307), (((8, 31), (8, 9)), 308), (((8, 34), (8, 10)), 309), (((8, 37), (8, 11)), 310), (((4, 34), (4, 0)), 342), (((4, 38), (4, 1)), 343), (((4, 42), (4, 2)), 344), (((4, 9), (4, 3)), 345), (((4, 15), (4, 4)), 346), (((4, 18), (4, 5)), 347), (((9, 159), (4, 5)), 348), (((4, 22), (4, 6)), 349), (((4, 25), (4, 7)), 350), (((4, 28), (4, 8)), 351), (((9, 162), (4, 8)), 352), (((4, 31), (4, 9)), 353), (((1, 11), (1, 0)), 384), (((1, 17), (1, 1)), 385), (((9, 165), (1, 1)), 386), (((1, 21), (1, 2)), 387), (((3, 11), (3, 0)), 403), (((3, 17), (3, 1)), 404), (((9, 328), (3, 1)), 405), (((3, 21), (3, 2)), 406), (((9, 12), (9, 0)), 414), (((9, 19), (9, 1)), 415), (((9, 23), (9, 2)), 416), (((9, 29), (9, 3)), 417), (((9, 38), (9, 4)), 418), (((9, 47), (9, 5)), 419), (((9, 54), (9, 6)), 420), (((9, 61), (9, 7)), 421), (((9, 68), (9, 8)), 422), (((9, 75), (9, 9)), 423), (((9, 79), (9, 10)), 424), (((10, 7), (10, 0)), 1018), (((10, 13), (10, 1)), 1019), (((10, 17), (10, 2)), 1020), (((10, 20), (10, 3)), 1021), (((10, 23), (10, 4)), 1022), (((10, 26), (10, 5)), 1023), (((10, 29), (10, 6)), 1024), (((10, 144), (10, 7)), 1025), (((10, 102), (10, 8)), 1026), (((10, 141), (10, 9)), 1027), (((10, 109), (10, 10)), 1028), (((10, 147), (10, 11)), 1029), (((10, 112), (10, 12)), 1030), (((10, 150), (10, 13)), 1031), (((10, 119), (10, 14)), 1032), (((10, 115), (10, 15)), 1033), (((10, 32), (10, 16)), 1034), (((10, 73), (10, 17)), 1035), (((10, 77), (10, 18)), 1036), (((10, 87), (10, 19)), 1037), (((10, 80), (10, 20)), 1038), (((10, 35), (10, 21)), 1039), (((10, 159), (10, 22)), 1040), (((10, 39), (10, 23)), 1041), (((10, 42), (10, 24)), 1042), (((10, 45), (10, 25)), 1043), (((10, 48), (10, 26)), 1044), (((10, 51), (10, 27)), 1045), (((10, 54), (10, 28)), 1046), (((10, 57), (10, 29)), 1047), (((10, 153), (10, 30)), 1048), (((10, 60), (10, 31)), 1049), (((10, 63), (10, 32)), 1050), (((10, 156), (10, 33)), 1051)]
def zFw (q : (Nat × Nat) × (Nat × Nat)) : Cond := .fieldLink (zcn.getD q.1.1 "") q.1.2 (zcs q.2.1).1 ((zcs q.2.1).2.1 q.2.2).2.1 ((zcs q.2.1).2.1 q.2.2).2.2.1
theorem zFL_ok : ∀ q ∈ zFL, (lw_tbl[q.2]? = some (zFw q.1) ∧ goodWord (zFw q.1) = true) ∧ ((zcs q.1.2.1).2.1 q.1.2.2).1 = (zcs q.1.2.1).1 ∧ q.1.2.2 < (zcs q.1.2.1).2.2 := by decide +kernel
def zML : List (((Nat × Nat) × (Nat × Nat)) × Nat) := [(((9, 83), (35, 0)), 452), (((9, 88), (16, 2)), 456), (((9, 96), (176, 2)), 465), (((5, 28), (0, 2)), 469), (((5, 33), (19, 2)), 473), (((5, 37), (153, 2)), 477), (((5, 51), (17, 2)), 481), (((5, 55), (18, 2)), 485), (((5, 59), (112, 2)), 489), (((5, 77), (66, 2)), 493), (((5, 97), (20, 0)), 497), (((5, 81), (2, 2)), 504), (((5, 85), (67, 2)), 508), (((5, 62), (113, 2)), 512), (((5, 88), (3, 2)), 516), (((5, 65), (114, 2)), 520), (((5, 91), (4, 2)), 524), (((5, 68), (115, 2)), 528), (((5, 94), (5, 2)), 532), (((9, 100), (1, 2)), 536), (((9, 104), (71, 2)), 543), (((7, 59), (58, 0)), 548), (((9, 107), (12, 2)), 551), (((9, 110), (6, 2)), 555), (((9, 113), (11, 2)), 559), (((9, 129), (33, 2)), 571), (((9, 133), (116, 2)), 575), (((6, 63), (68, 2)), 579), (((6, 34), (21, 2)), 583), (((6, 44), (22, 0)), 587), (((6, 66), (23, 0)), 594), (((9, 140), (150, 2)), 597), (((2, 63), (116, 2)), 601), (((2, 68), (62, 2)), 602), (((2, 59), (36, 1)), 606), (((9, 150), (24, 2)), 609), (((9, 153), (7, 2)), 613), (((9, 168), (86, 2)), 621), (((9, 171), (21, 2)), 626), (((9, 174), (84, 2)), 631), (((9, 185), (68, 2)), 636), (((9, 192), (85, 2)), 641), (((9, 201), (36, 0)), 645), (((9, 208), (27, 2)), 650), (((9, 211), (87, 2)), 658), (((9, 214), (59, 2)), 662), (((1, 25), (25, 2)), 666), (((9, 218), (172, 2)), 671), (((2, 75), (21, 2)), 675), (((2, 78), (150, 2)), 676), (((2, 82), (8, 2)), 677), (((2, 47), (57, 0)), 683), (((2, 86), (26, 2)), 689), (((9, 221), (61, 2)), 695), (((9, 225), (57, 0)), 723), (((9, 230), (88, 2)), 728), (((9, 331), (34, 2)), 732), (((9, 233), (60, 2)), 745), (((9, 237), (173, 2)), 757), (((2, 118), (151, 2)), 761), (((2, 122), (9, 2)), 765), (((2, 126), (10, 2)), 769), (((9, 240), (174, 2)), 777), (((9, 243), (175, 2)), 785), (((9, 253), (138, 2)), 793), (((9, 256), (155, 2)), 797), (((8, 67), (116, 2)), 801), (((8, 58), (21, 2)), 802), (((9, 259), (119, 2)), 806), (((8, 52), (68, 2)), 810), (((9, 262), (156, 2)), 815), (((8, 76), (119, 2)), 820), (((9, 265), (157, 2)), 825), (((8, 79), (120, 2)), 829), (((8, 95), (58, 0)), 833), (((8, 82), (72, 2)), 834), (((8, 101), (23, 0)), 838), (((8, 91), (73, 2)), 840), (((8, 104), (29, 2)), 844), (((9, 271), (121, 2)), 852), (((8, 113), (74, 2)), 856), (((8, 126), (22, 0)), 860), (((8, 117), (75, 2)), 862), (((9, 274), (76, 2)), 870), (((8, 133), (36, 1)), 874), (((9, 277), (77, 2)), 876), (((9, 280), (30, 2)), 880), (((9, 283), (154, 2)), 888), (((6, 72), (118, 2)), 892), (((9, 286), (118, 2)), 897), (((9, 289), (70, 2)), 902), (((9, 292), (117, 2)), 910), (((9, 295), (28, 2)), 918), (((9, 302), (13, 2)), 933), (((9, 305), (110, 2)), 941), (((4, 51), (69, 2)), 945), (((9, 308), (152, 2)), 953), (((4, 57), (110, 2)), 957), (((4, 61), (57, 0)), 958), (((4, 72), (111, 2)), 959), (((4, 75), (58, 0)), 963), (((4, 81), (36, 1)), 964), (((9, 311), (14, 2)), 970), (((9, 314), (15, 2)), 978), (((9, 317), (64, 2)), 994), (((3, 30), (25, 2)), 998), (((9, 321), (63, 2)), 1003), (((3, 26), (36, 1)), 1007), (((9, 324), (65, 2)), 1008), (((10, 68), (37, 0)), 1127), (((10, 83), (43, 2)), 1136), (((10, 135), (183, 2)), 1140), (((10, 94), (44, 2)), 1144), (((10, 122), (162, 2)), 1148), (((10, 105), (139, 2)), 1152), (((10, 99), (90, 2)), 1156), (((10, 126), (163, 2)), 1163), (((10, 129), (164, 2)), 1167), (((10, 132), (165, 2)), 1171), (((10, 138), (45, 2)), 1175), (((10, 189), (184, 2)), 1187), (((10, 182), (166, 2)), 1191), (((10, 175), (94, 2)), 1195), (((10, 162), (47, 2)), 1199), (((10, 178), (140, 0)), 1203), (((10, 172), (95, 0)), 1206), (((10, 166), (38, 0)), 1209), (((10, 169), (39, 0)), 1212), (((10, 200), (198, 2)), 1215), (((10, 192), (96, 2)), 1219), (((10, 185), (42, 0)), 1223), (((10, 196), (41, 0)), 1226), (((10, 203), (97, 2)), 1229), (((10, 206), (48, 2)), 1233), (((10, 212), (91, 2)), 1247), (((10, 217), (92, 2)), 1256), (((10, 233), (101, 2)), 1269), (((10, 236), (100, 2)), 1274), (((10, 222), (49, 2)), 1278), (((10, 239), (199, 2)), 1282), (((10, 227), (50, 2)), 1287), (((10, 242), (102, 2)), 1291), (((10, 245), (144, 2)), 1307), (((10, 260), (203, 2)), 1328), (((10, 257), (51, 2)), 1332), (((10, 263), (204, 2)), 1348), (((10, 266), (205, 2)), 1364), (((10, 269), (52, 2)), 1368), (((10, 275), (206, 2)), 1376), (((10, 272), (40, 0)), 1380), (((10, 283), (207, 2)), 1392), (((10, 286), (104, 2)), 1396), (((10, 279), (53, 0)), 1400), (((10, 289), (170, 2)), 1407), (((10, 292), (93, 2)), 1415), (((10, 297), (105, 2)), 1428), (((10, 304), (171, 2)), 1454), (((10, 307), (189, 2)), 1462), (((10, 310), (190, 2)), 1463)]
def zMw (q : (Nat × Nat) × (Nat × Nat)) : Cond := if q.2.2 = 1 then .methodLinkNest (zcn.getD q.1.1 "") q.1.2 (znm q.2.1) RX9 else .methodLink (zcn.getD q.1.1 "") q.1.2 (znm q.2.1)
theorem zML_ok : ∀ q ∈ zML, lw_tbl[q.2]? = some (zMw q.1) ∧ (q.1.2.2 = 1 ∨ goodWord (zMw q.1) = true) := by decide +kernel
def zAL : List ((Nat × Nat) × Nat) := [((0, 44), 540), ((7, 52), 547), ((8, 85), 839)]
theorem zAL_ok : ∀ q ∈ zAL, lw_tbl[q.2]? = some (.methodLink (zcn.getD q.1.1 "") q.1.2 arraycopyName) ∧ goodWord (.methodLink (zcn.getD q.1.1 "") q.1.2 arraycopyName) = true := by decide +kernel
theorem zac1 : Cond.native arraycopyName ∈ gT := gT_at (i := 542) (by decide +kernel)
theorem zac2 : Cond.static arraycopyName ∈ gT := gT_at (i := 541) (by decide +kernel)
theorem zac3 : Cond.initialized "java/lang/System" ∈ gT := gT_at (i := 82) (by decide +kernel)
def zCL : List (((Nat × Nat) × Int32) × Nat) := [(((9, 87), (-1000000002)), 455), (((9, 95), (-1000000004)), 460), (((5, 101), nI 1000000), 500), (((9, 224), (-1000000003)), 625), (((9, 177), (-1000000001)), 635), (((2, 114), nI 999999), 681), (((11, 265), nI 1431655765), 686), (((11, 266), nI 858993459), 687), (((11, 267), nI 252645135), 688), (((9, 342), nI 1103515245), 736), (((9, 343), nI 2147483647), 737), (((9, 344), nI 65536), 738), (((8, 70), nI 1000000), 819), (((10, 72), (-1000000002)), 1130), (((10, 76), (-1000000004)), 1131), (((10, 98), nI 99999), 1162), (((10, 211), (-1000000003)), 1242), (((10, 216), (-1000000001)), 1251), (((10, 226), nI 999999), 1286), (((10, 256), nI 65536), 1339), (((10, 278), nI 99999999), 1387)]
theorem zCL_ok : ∀ q ∈ zCL, lw_tbl[q.2]? = some (.constant (zcn.getD q.1.1.1 "") q.1.1.2 q.1.2) ∧ goodWord (.constant (zcn.getD q.1.1.1 "") q.1.1.2 q.1.2) = true := by decide +kernel
def zDL : List (((Nat × Nat) × Int64) × Nat) := [(((9, 298), lN 1000000000), 927), (((9, 300), lN 100), 928), (((10, 66), lN 255), 1126), (((10, 90), lN 48), 1160), (((10, 92), lN 57), 1161), (((10, 209), lN 60), 1241), (((10, 220), lN 2), 1264), (((10, 231), lN 30), 1273), (((10, 248), lN 9), 1315), (((10, 250), lN 1103515245), 1336), (((10, 252), lN 12345), 1337), (((10, 254), lN 2147483648), 1338), (((10, 295), lN 12), 1427), (((10, 300), lN 100), 1444), (((10, 302), lN 1000000000), 1445), (((10, 313), lN 10), 1471)]
theorem zDL_ok : ∀ q ∈ zDL, lw_tbl[q.2]? = some (.constantLong (zcn.getD q.1.1.1 "") q.1.1.2 q.1.2) ∧ goodWord (.constantLong (zcn.getD q.1.1.1 "") q.1.1.2 q.1.2) = true := by decide +kernel
set_option maxRecDepth 20000 in
theorem zk0 : lw_tbl[472]? = some (.code yX0_clear cX0_clear 1 none) := rfl
set_option maxRecDepth 20000 in
theorem zk1 : lw_tbl[539]? = some (.code yX0_copyFrom cX0_copyFrom 2 none) := rfl
set_option maxRecDepth 20000 in
theorem zk2 : lw_tbl[507]? = some (.code yX0_addWeather cX0_addWeather 2 none) := rfl
set_option maxRecDepth 20000 in
theorem zk3 : lw_tbl[519]? = some (.code yX0_addGlass cX0_addGlass 3 none) := rfl
set_option maxRecDepth 20000 in
theorem zk4 : lw_tbl[527]? = some (.code yX0_addBoat cX0_addBoat 3 none) := rfl
set_option maxRecDepth 20000 in
theorem zk5 : lw_tbl[535]? = some (.code yX0_tellDrinks cX0_tellDrinks 2 none) := rfl
set_option maxRecDepth 20000 in
theorem zk6 : lw_tbl[558]? = some (.code yX1_forget cX1_forget 1 none) := rfl
set_option maxRecDepth 20000 in
theorem zk7 : lw_tbl[616]? = some (.code yX2_caughtInAll cX2_caughtInAll 3 (some .int)) := rfl
set_option maxRecDepth 20000 in
theorem zk8 : lw_tbl[680]? = some (.code yX2_sail cX2_sail 3 none) := rfl
set_option maxRecDepth 20000 in
theorem zk9 : lw_tbl[768]? = some (.code yX2_safeDays cX2_safeDays 5 (some .int)) := rfl
set_option maxRecDepth 20000 in
theorem zk10 : lw_tbl[772]? = some (.code yX2_haul cX2_haul 6 (some .int)) := rfl
set_option maxRecDepth 20000 in
theorem zk11 : lw_tbl[562]? = some (.code yX3_forget cX3_forget 1 none) := rfl
set_option maxRecDepth 20000 in
theorem zk12 : lw_tbl[554]? = some (.code yX4_clear cX4_clear 1 none) := rfl
set_option maxRecDepth 20000 in
theorem zk13 : lw_tbl[936]? = some (.code yX4_addTap cX4_addTap 3 (some .boolean)) := rfl
set_option maxRecDepth 20000 in
theorem zk14 : lw_tbl[973]? = some (.code yX4_addEntry cX4_addEntry 3 (some .boolean)) := rfl
set_option maxRecDepth 20000 in
theorem zk15 : lw_tbl[981]? = some (.code yX4_firstWrong cX4_firstWrong 2 (some .int)) := rfl
set_option maxRecDepth 20000 in
theorem zk16 : lw_tbl[459]? = some (.code yX5_add cX5_add 2 (some .boolean)) := rfl
set_option maxRecDepth 20000 in
theorem zk17 : lw_tbl[484]? = some (.code yX5_wordFault cX5_wordFault 3 (some .int)) := rfl
set_option maxRecDepth 20000 in
theorem zk18 : lw_tbl[488]? = some (.code yX5_fail cX5_fail 3 none) := rfl
set_option maxRecDepth 20000 in
theorem zk19 : lw_tbl[476]? = some (.code yX5_nextSign cX5_nextSign 1 (some .int)) := rfl
set_option maxRecDepth 20000 in
theorem zk20 : lw_tbl[499]? = some (.code yX5_isFigure cX5_isFigure 1 (some .boolean)) := rfl
set_option maxRecDepth 20000 in
theorem zk21 : lw_tbl[586]? = some (.code yX6_weatherAhead cX6_weatherAhead 3 (some .int)) := rfl
set_option maxRecDepth 20000 in
theorem zk22 : lw_tbl[589]? = some (.code yX6_clearReading cX6_clearReading 3 (some .int)) := rfl
set_option maxRecDepth 20000 in
theorem zk23 : lw_tbl[596]? = some (.code yX6_tellingOf cX6_tellingOf 2 (some .int)) := rfl
set_option maxRecDepth 20000 in
theorem zk24 : lw_tbl[612]? = some (.code yX6_gladSet cX6_gladSet 3 (some .int)) := rfl
set_option maxRecDepth 20000 in
theorem zk25 : lw_tbl[669]? = some (.code yX7_copyFrom cX7_copyFrom 2 none) := rfl
set_option maxRecDepth 20000 in
theorem zk26 : lw_tbl[692]? = some (.code yX7_addToLog cX7_addToLog 4 none) := rfl
set_option maxRecDepth 20000 in
theorem zk27 : lw_tbl[653]? = some (.code yX7_logEntry cX7_logEntry 4 (some .int)) := rfl
set_option maxRecDepth 20000 in
theorem zk28 : lw_tbl[921]? = some (.code yX7_rulesThatHold cX7_rulesThatHold 5 (some .int)) := rfl
set_option maxRecDepth 20000 in
theorem zk29 : lw_tbl[847]? = some (.code yX8_addWeight cX8_addWeight 4 none) := rfl
set_option maxRecDepth 20000 in
theorem zk30 : lw_tbl[883]? = some (.code yX8_daysToGive cX8_daysToGive 4 (some .int)) := rfl
set_option maxRecDepth 20000 in
theorem zk31 : lw_tbl[566]? = some (.code yX9_fault cX9_fault 1 (some .int)) := rfl
set_option maxRecDepth 20000 in
theorem zk32 : lw_tbl[989]? = some (.code yX9_seed cX9_seed 3 (some .int)) := rfl
set_option maxRecDepth 20000 in
theorem zk33 : lw_tbl[574]? = some (.code yX9_noCoast cX9_noCoast 1 (some .boolean)) := rfl
set_option maxRecDepth 20000 in
theorem zk34 : lw_tbl[735]? = some (.code yX9_draw cX9_draw 2 (some .int)) := rfl
set_option maxRecDepth 20000 in
theorem zk35 : lw_tbl[454]? = some (.code yX9_isOut cX9_isOut 3 (some .boolean)) := rfl
set_option maxRecDepth 20000 in
theorem zk36 : lw_tbl[608]? = some (.code yX9_hasBit cX9_hasBit 2 (some .boolean)) := rfl
set_option maxRecDepth 20000 in
theorem zk37 : lw_tbl[1129]? = some (.code yX10_in cX10_in 6 (some .boolean)) := rfl
set_option maxRecDepth 20000 in
theorem zk38 : lw_tbl[1211]? = some (.code yX10_least cX10_least 2 (some .int)) := rfl
set_option maxRecDepth 20000 in
theorem zk39 : lw_tbl[1214]? = some (.code yX10_most cX10_most 2 (some .int)) := rfl
set_option maxRecDepth 20000 in
theorem zk40 : lw_tbl[1382]? = some (.code yX10_apart cX10_apart 2 (some .int)) := rfl
set_option maxRecDepth 20000 in
theorem zk41 : lw_tbl[1228]? = some (.code yX10_one cX10_one 1 (some .int)) := rfl
set_option maxRecDepth 20000 in
theorem zk42 : lw_tbl[1225]? = some (.code yX10_has cX10_has 2 (some .boolean)) := rfl
set_option maxRecDepth 20000 in
theorem zk43 : lw_tbl[1139]? = some (.code yX10_here cX10_here 1 (some .int)) := rfl
set_option maxRecDepth 20000 in
theorem zk44 : lw_tbl[1147]? = some (.code yX10_want cX10_want 4 (some .boolean)) := rfl
set_option maxRecDepth 20000 in
theorem zk45 : lw_tbl[1178]? = some (.code yX10_take cX10_take 3 none) := rfl
set_option maxRecDepth 20000 in
theorem zk46 : lw_tbl[1182]? = some (.code yX10_fault cX10_fault 1 (some .int)) := rfl
set_option maxRecDepth 20000 in
theorem zk47 : lw_tbl[1202]? = some (.code yX10_weatherOf cX10_weatherOf 2 (some .int)) := rfl
set_option maxRecDepth 20000 in
theorem zk48 : lw_tbl[1236]? = some (.code yX10_caught cX10_caught 3 (some .int)) := rfl
set_option maxRecDepth 20000 in
theorem zk49 : lw_tbl[1281]? = some (.code yX10_copy cX10_copy 4 none) := rfl
set_option maxRecDepth 20000 in
theorem zk50 : lw_tbl[1290]? = some (.code yX10_log cX10_log 6 none) := rfl
set_option maxRecDepth 20000 in
theorem zk51 : lw_tbl[1335]? = some (.code yX10_draw cX10_draw 2 (some .int)) := rfl
set_option maxRecDepth 20000 in
theorem zk52 : lw_tbl[1371]? = some (.code yX10_caughtBy cX10_caughtBy 5 (some .int)) := rfl
set_option maxRecDepth 20000 in
theorem zk53 : lw_tbl[1402]? = some (.code yX10_weightOf cX10_weightOf 5 (some .int)) := rfl
set_option maxRecDepth 20000 in
theorem zk54 : lw_tbl[1475]? = some (.code yX10_judge cX10_judge 2 (some .int)) := rfl
set_option maxRecDepth 20000 in
theorem zk55 : lw_tbl[1479]? = some (.code yX10_tear cX10_tear 2 (some .int)) := rfl
set_option maxRecDepth 20000 in
theorem zk56 : lw_tbl[1483]? = some (.code yX10_seed cX10_seed 3 (some .int)) := rfl
set_option maxRecDepth 20000 in
theorem zk57 : lw_tbl[685]? = some (.code yJ6_bitCount_0f7a4 cJ6_bitCount_0f7a4 1 (some .int)) := rfl
set_option maxRecDepth 20000 in
theorem zk58 : lw_tbl[550]? = some (.code yJ7_fill_53178 cJ7_fill_53178 4 none) := rfl
set_option maxRecDepth 20000 in
theorem zk59 : lw_tbl[665]? = some (.code yX1_remember cX1_remember 2 none) := rfl
set_option maxRecDepth 20000 in
theorem zk60 : lw_tbl[748]? = some (.code yX1_takeBack cX1_takeBack 3 (some .boolean)) := rfl
set_option maxRecDepth 20000 in
theorem zk61 : lw_tbl[698]? = some (.code yX2_homeCount cX2_homeCount 1 (some .int)) := rfl
set_option maxRecDepth 20000 in
theorem zk62 : lw_tbl[605]? = some (.code yX2_isReady cX2_isReady 2 (some .boolean)) := rfl
set_option maxRecDepth 20000 in
theorem zk63 : lw_tbl[1006]? = some (.code yX3_has cX3_has 2 (some .boolean)) := rfl
set_option maxRecDepth 20000 in
theorem zk64 : lw_tbl[997]? = some (.code yX3_take cX3_take 4 none) := rfl
set_option maxRecDepth 20000 in
theorem zk65 : lw_tbl[1011]? = some (.code yX3_give cX3_give 3 none) := rfl
set_option maxRecDepth 20000 in
theorem zk66 : lw_tbl[496]? = some (.code yX5_readNumber cX5_readNumber 5 (some .int)) := rfl
set_option maxRecDepth 20000 in
theorem zk67 : lw_tbl[511]? = some (.code yX5_readEnd cX5_readEnd 1 none) := rfl
set_option maxRecDepth 20000 in
theorem zk68 : lw_tbl[582]? = some (.code yX6_reading cX6_reading 3 (some .int)) := rfl
set_option maxRecDepth 20000 in
theorem zk69 : lw_tbl[948]? = some (.code yX6_readingBy cX6_readingBy 3 (some .int)) := rfl
set_option maxRecDepth 20000 in
theorem zk70 : lw_tbl[905]? = some (.code yX6_firstFair cX6_firstFair 5 (some .int)) := rfl
set_option maxRecDepth 20000 in
theorem zk71 : lw_tbl[546]? = some (.code yX7_begin cX7_begin 2 none) := rfl
set_option maxRecDepth 20000 in
theorem zk72 : lw_tbl[837]? = some (.code yX8_triedError cX8_triedError 4 (some .int)) := rfl
set_option maxRecDepth 20000 in
theorem zk73 : lw_tbl[843]? = some (.code yX8_nextWeighing cX8_nextWeighing 2 (some .boolean)) := rfl
set_option maxRecDepth 20000 in
theorem zk74 : lw_tbl[859]? = some (.code yX8_countStepsToReads cX8_countStepsToReads 5 none) := rfl
set_option maxRecDepth 20000 in
theorem zk75 : lw_tbl[865]? = some (.code yX8_addToSums cX8_addToSums 7 none) := rfl
set_option maxRecDepth 20000 in
theorem zk76 : lw_tbl[873]? = some (.code yX8_drinksShort cX8_drinksShort 4 (some .int)) := rfl
set_option maxRecDepth 20000 in
theorem zk77 : lw_tbl[879]? = some (.code yX8_drinksOver cX8_drinksOver 4 (some .int)) := rfl
set_option maxRecDepth 20000 in
theorem zk78 : lw_tbl[451]? = some (.code yX9_feed cX9_feed 2 (some .int)) := rfl
set_option maxRecDepth 20000 in
theorem zk79 : lw_tbl[649]? = some (.code yX9_logged cX9_logged 3 (some .int)) := rfl
set_option maxRecDepth 20000 in
theorem zk80 : lw_tbl[917]? = some (.code yX9_holds cX9_holds 2 (some .int)) := rfl
set_option maxRecDepth 20000 in
theorem zk81 : lw_tbl[926]? = some (.code yX9_homeBy cX9_homeBy 6 (some .int)) := rfl
set_option maxRecDepth 20000 in
theorem zk82 : lw_tbl[977]? = some (.code yX9_judge cX9_judge 1 (some .int)) := rfl
set_option maxRecDepth 20000 in
theorem zk83 : lw_tbl[985]? = some (.code yX9_tear cX9_tear 2 (some .int)) := rfl
set_option maxRecDepth 20000 in
theorem zk84 : lw_tbl[634]? = some (.code yX9_noGlass cX9_noGlass 2 (some .boolean)) := rfl
set_option maxRecDepth 20000 in
theorem zk85 : lw_tbl[644]? = some (.code yX9_noBoat cX9_noBoat 2 (some .boolean)) := rfl
set_option maxRecDepth 20000 in
theorem zk86 : lw_tbl[624]? = some (.code yX9_refuseAhead cX9_refuseAhead 2 (some .int)) := rfl
set_option maxRecDepth 20000 in
theorem zk87 : lw_tbl[661]? = some (.code yX9_refuseDays cX9_refuseDays 2 (some .int)) := rfl
set_option maxRecDepth 20000 in
theorem zk88 : lw_tbl[731]? = some (.code yX9_moveByDraw cX9_moveByDraw 2 none) := rfl
set_option maxRecDepth 20000 in
theorem zk89 : lw_tbl[1125]? = some (.code yX10_feed cX10_feed 2 (some .int)) := rfl
set_option maxRecDepth 20000 in
theorem zk90 : lw_tbl[1159]? = some (.code yX10_takeNumber cX10_takeNumber 4 (some .int)) := rfl
set_option maxRecDepth 20000 in
theorem zk91 : lw_tbl[1250]? = some (.code yX10_isGlass cX10_isGlass 2 (some .boolean)) := rfl
set_option maxRecDepth 20000 in
theorem zk92 : lw_tbl[1259]? = some (.code yX10_isBoat cX10_isBoat 2 (some .boolean)) := rfl
set_option maxRecDepth 20000 in
theorem zk93 : lw_tbl[1418]? = some (.code yX10_isAll cX10_isAll 2 (some .boolean)) := rfl
set_option maxRecDepth 20000 in
theorem zk94 : lw_tbl[1198]? = some (.code yX10_tomorrow cX10_tomorrow 2 (some .int)) := rfl
set_option maxRecDepth 20000 in
theorem zk95 : lw_tbl[1208]? = some (.code yX10_held cX10_held 1 (some .int)) := rfl
set_option maxRecDepth 20000 in
theorem zk96 : lw_tbl[1222]? = some (.code yX10_sails cX10_sails 4 (some .boolean)) := rfl
set_option maxRecDepth 20000 in
theorem zk97 : lw_tbl[1232]? = some (.code yX10_gladOnes cX10_gladOnes 3 (some .int)) := rfl
set_option maxRecDepth 20000 in
theorem zk98 : lw_tbl[1240]? = some (.code yX10_weather cX10_weather 2 (some .int)) := rfl
set_option maxRecDepth 20000 in
theorem zk99 : lw_tbl[1263]? = some (.code yX10_logged cX10_logged 3 (some .int)) := rfl
set_option maxRecDepth 20000 in
theorem zk100 : lw_tbl[1277]? = some (.code yX10_remember cX10_remember 2 none) := rfl
set_option maxRecDepth 20000 in
theorem zk101 : lw_tbl[1272]? = some (.code yX10_refusedDays cX10_refusedDays 2 (some .int)) := rfl
set_option maxRecDepth 20000 in
theorem zk102 : lw_tbl[1294]? = some (.code yX10_homes cX10_homes 3 (some .int)) := rfl
set_option maxRecDepth 20000 in
theorem zk103 : lw_tbl[1343]? = some (.code yX10_undo cX10_undo 3 (some .int)) := rfl
set_option maxRecDepth 20000 in
theorem zk104 : lw_tbl[1399]? = some (.code yX10_errorBy cX10_errorBy 8 (some .int)) := rfl
set_option maxRecDepth 20000 in
theorem zk105 : lw_tbl[1431]? = some (.code yX10_isFair cX10_isFair 6 (some .boolean)) := rfl
set_option maxRecDepth 20000 in
theorem zk106 : lw_tbl[1439]? = some (.code yX10_holds cX10_holds 6 (some .int)) := rfl
set_option maxRecDepth 20000 in
theorem zk107 : lw_tbl[1443]? = some (.code yX10_homeBy cX10_homeBy 6 (some .int)) := rfl
set_option maxRecDepth 20000 in
theorem zk108 : lw_tbl[1487]? = some (.code yX10_keep cX10_keep 2 (some .int)) := rfl
set_option maxRecDepth 20000 in
theorem zk109 : lw_tbl[1491]? = some (.code yX10_goBack cX10_goBack 2 (some .int)) := rfl
set_option maxRecDepth 20000 in
theorem zk110 : lw_tbl[944]? = some (.code yX4_fitting cX4_fitting 4 (some .int)) := rfl
set_option maxRecDepth 20000 in
theorem zk111 : lw_tbl[962]? = some (.code yX4_greatestPart cX4_greatestPart 6 (some .int)) := rfl
set_option maxRecDepth 20000 in
theorem zk112 : lw_tbl[492]? = some (.code yX5_readWeathers cX5_readWeathers 4 none) := rfl
set_option maxRecDepth 20000 in
theorem zk113 : lw_tbl[515]? = some (.code yX5_readGlass cX5_readGlass 4 none) := rfl
set_option maxRecDepth 20000 in
theorem zk114 : lw_tbl[523]? = some (.code yX5_readBoat cX5_readBoat 4 none) := rfl
set_option maxRecDepth 20000 in
theorem zk115 : lw_tbl[531]? = some (.code yX5_readDrinks cX5_readDrinks 3 none) := rfl
set_option maxRecDepth 20000 in
theorem zk116 : lw_tbl[578]? = some (.code yX6_telling cX6_telling 5 (some .int)) := rfl
set_option maxRecDepth 20000 in
theorem zk117 : lw_tbl[913]? = some (.code yX6_falseSet cX6_falseSet 4 (some .int)) := rfl
set_option maxRecDepth 20000 in
theorem zk118 : lw_tbl[895]? = some (.code yX6_apart cX6_apart 3 (some .int)) := rfl
set_option maxRecDepth 20000 in
theorem zk119 : lw_tbl[809]? = some (.code yX8_glassError cX8_glassError 4 (some .int)) := rfl
set_option maxRecDepth 20000 in
theorem zk120 : lw_tbl[832]? = some (.code yX8_startWeighing cX8_startWeighing 3 none) := rfl
set_option maxRecDepth 20000 in
theorem zk121 : lw_tbl[855]? = some (.code yX8_fewestSteps cX8_fewestSteps 5 (some .int)) := rfl
set_option maxRecDepth 20000 in
theorem zk122 : lw_tbl[620]? = some (.code yX9_weather cX9_weather 3 (some .int)) := rfl
set_option maxRecDepth 20000 in
theorem zk123 : lw_tbl[630]? = some (.code yX9_glass cX9_glass 3 (some .int)) := rfl
set_option maxRecDepth 20000 in
theorem zk124 : lw_tbl[640]? = some (.code yX9_boat cX9_boat 3 (some .int)) := rfl
set_option maxRecDepth 20000 in
theorem zk125 : lw_tbl[702]? = some (.code yX9_drink cX9_drink 2 (some .int)) := rfl
set_option maxRecDepth 20000 in
theorem zk126 : lw_tbl[706]? = some (.code yX9_keepFrom cX9_keepFrom 2 (some .int)) := rfl
set_option maxRecDepth 20000 in
theorem zk127 : lw_tbl[710]? = some (.code yX9_glad cX9_glad 4 (some .int)) := rfl
set_option maxRecDepth 20000 in
theorem zk128 : lw_tbl[714]? = some (.code yX9_weigh cX9_weigh 4 (some .int)) := rfl
set_option maxRecDepth 20000 in
theorem zk129 : lw_tbl[718]? = some (.code yX9_hold cX9_hold 4 (some .int)) := rfl
set_option maxRecDepth 20000 in
theorem zk130 : lw_tbl[722]? = some (.code yX9_find cX9_find 2 (some .int)) := rfl
set_option maxRecDepth 20000 in
theorem zk131 : lw_tbl[744]? = some (.code yX9_undo cX9_undo 2 (some .int)) := rfl
set_option maxRecDepth 20000 in
theorem zk132 : lw_tbl[869]? = some (.code yX9_allTrue cX9_allTrue 3 (some .int)) := rfl
set_option maxRecDepth 20000 in
theorem zk133 : lw_tbl[901]? = some (.code yX9_fair cX9_fair 3 (some .int)) := rfl
set_option maxRecDepth 20000 in
theorem zk134 : lw_tbl[932]? = some (.code yX9_tap cX9_tap 3 (some .int)) := rfl
set_option maxRecDepth 20000 in
theorem zk135 : lw_tbl[969]? = some (.code yX9_write cX9_write 3 (some .int)) := rfl
set_option maxRecDepth 20000 in
theorem zk136 : lw_tbl[993]? = some (.code yX9_keep cX9_keep 2 (some .int)) := rfl
set_option maxRecDepth 20000 in
theorem zk137 : lw_tbl[1002]? = some (.code yX9_goBack cX9_goBack 2 (some .int)) := rfl
set_option maxRecDepth 20000 in
theorem zk138 : lw_tbl[796]? = some (.code yX9_refuseGlassOrRow cX9_refuseGlassOrRow 2 (some .int)) := rfl
set_option maxRecDepth 20000 in
theorem zk139 : lw_tbl[1155]? = some (.code yX10_takeIn cX10_takeIn 5 (some .int)) := rfl
set_option maxRecDepth 20000 in
theorem zk140 : lw_tbl[1205]? = some (.code yX10_reading cX10_reading 3 (some .int)) := rfl
set_option maxRecDepth 20000 in
theorem zk141 : lw_tbl[1255]? = some (.code yX10_boat cX10_boat 3 (some .int)) := rfl
set_option maxRecDepth 20000 in
theorem zk142 : lw_tbl[1298]? = some (.code yX10_drink cX10_drink 2 (some .int)) := rfl
set_option maxRecDepth 20000 in
theorem zk143 : lw_tbl[1302]? = some (.code yX10_keepFrom cX10_keepFrom 2 (some .int)) := rfl
set_option maxRecDepth 20000 in
theorem zk144 : lw_tbl[1310]? = some (.code yX10_changed cX10_changed 4 (some .int)) := rfl
set_option maxRecDepth 20000 in
theorem zk145 : lw_tbl[1323]? = some (.code yX10_find cX10_find 2 (some .int)) := rfl
set_option maxRecDepth 20000 in
theorem zk146 : lw_tbl[1414]? = some (.code yX10_allTrue cX10_allTrue 6 (some .int)) := rfl
set_option maxRecDepth 20000 in
theorem zk147 : lw_tbl[1426]? = some (.code yX10_fair cX10_fair 4 (some .int)) := rfl
set_option maxRecDepth 20000 in
theorem zk148 : lw_tbl[1449]? = some (.code yX10_tap cX10_tap 3 (some .int)) := rfl
set_option maxRecDepth 20000 in
theorem zk149 : lw_tbl[1470]? = some (.code yX10_write cX10_write 3 (some .int)) := rfl
set_option maxRecDepth 20000 in
theorem zk150 : lw_tbl[600]? = some (.code yX2_sailing cX2_sailing 4 (some .int)) := rfl
set_option maxRecDepth 20000 in
theorem zk151 : lw_tbl[764]? = some (.code yX2_lookAhead cX2_lookAhead 3 none) := rfl
set_option maxRecDepth 20000 in
theorem zk152 : lw_tbl[956]? = some (.code yX4_bestToTap cX4_bestToTap 6 (some .int)) := rfl
set_option maxRecDepth 20000 in
theorem zk153 : lw_tbl[480]? = some (.code yX5_readClause cX5_readClause 4 none) := rfl
set_option maxRecDepth 20000 in
theorem zk154 : lw_tbl[891]? = some (.code yX6_mostUnlike cX6_mostUnlike 6 (some .int)) := rfl
set_option maxRecDepth 20000 in
theorem zk155 : lw_tbl[800]? = some (.code yX8_rowError cX8_rowError 3 (some .int)) := rfl
set_option maxRecDepth 20000 in
theorem zk156 : lw_tbl[818]? = some (.code yX8_glassOfLeastError cX8_glassOfLeastError 5 (some .int)) := rfl
set_option maxRecDepth 20000 in
theorem zk157 : lw_tbl[828]? = some (.code yX8_weighBest cX8_weighBest 5 (some .int)) := rfl
set_option maxRecDepth 20000 in
theorem zk158 : lw_tbl[752]? = some (.code yX9_tells cX9_tells 3 (some .int)) := rfl
set_option maxRecDepth 20000 in
theorem zk159 : lw_tbl[851]? = some (.code yX9_steps cX9_steps 2 (some .int)) := rfl
set_option maxRecDepth 20000 in
theorem zk160 : lw_tbl[909]? = some (.code yX9_falseOnes cX9_falseOnes 1 (some .int)) := rfl
set_option maxRecDepth 20000 in
theorem zk161 : lw_tbl[940]? = some (.code yX9_could cX9_could 1 (some .int)) := rfl
set_option maxRecDepth 20000 in
theorem zk162 : lw_tbl[1151]? = some (.code yX10_takeWeather cX10_takeWeather 3 none) := rfl
set_option maxRecDepth 20000 in
theorem zk163 : lw_tbl[1166]? = some (.code yX10_takeGlass cX10_takeGlass 2 none) := rfl
set_option maxRecDepth 20000 in
theorem zk164 : lw_tbl[1170]? = some (.code yX10_takeBoat cX10_takeBoat 2 none) := rfl
set_option maxRecDepth 20000 in
theorem zk165 : lw_tbl[1174]? = some (.code yX10_takeDrinks cX10_takeDrinks 2 none) := rfl
set_option maxRecDepth 20000 in
theorem zk166 : lw_tbl[1194]? = some (.code yX10_reads cX10_reads 3 (some .int)) := rfl
set_option maxRecDepth 20000 in
theorem zk167 : lw_tbl[1306]? = some (.code yX10_glad cX10_glad 3 (some .int)) := rfl
set_option maxRecDepth 20000 in
theorem zk168 : lw_tbl[1314]? = some (.code yX10_weigh cX10_weigh 3 (some .int)) := rfl
set_option maxRecDepth 20000 in
theorem zk169 : lw_tbl[1319]? = some (.code yX10_hold cX10_hold 5 (some .int)) := rfl
set_option maxRecDepth 20000 in
theorem zk170 : lw_tbl[1410]? = some (.code yX10_layGlass cX10_layGlass 5 none) := rfl
set_option maxRecDepth 20000 in
theorem zk171 : lw_tbl[1457]? = some (.code yX10_wouldRead cX10_wouldRead 3 (some .int)) := rfl
set_option maxRecDepth 20000 in
theorem zk172 : lw_tbl[674]? = some (.code yX2_passDay cX2_passDay 5 none) := rfl
set_option maxRecDepth 20000 in
theorem zk173 : lw_tbl[760]? = some (.code yX2_catchWithin cX2_catchWithin 4 (some .int)) := rfl
set_option maxRecDepth 20000 in
theorem zk174 : lw_tbl[780]? = some (.code yX2_lostWithin cX2_lostWithin 4 (some .int)) := rfl
set_option maxRecDepth 20000 in
theorem zk175 : lw_tbl[788]? = some (.code yX2_tryLimits cX2_tryLimits 5 none) := rfl
set_option maxRecDepth 20000 in
theorem zk176 : lw_tbl[468]? = some (.code yX5_read cX5_read 3 (some .int)) := rfl
set_option maxRecDepth 20000 in
theorem zk177 : lw_tbl[570]? = some (.code yX9_told cX9_told 2 (some .int)) := rfl
set_option maxRecDepth 20000 in
theorem zk178 : lw_tbl[792]? = some (.code yX9_error cX9_error 3 (some .int)) := rfl
set_option maxRecDepth 20000 in
theorem zk179 : lw_tbl[814]? = some (.code yX9_truest cX9_truest 3 (some .int)) := rfl
set_option maxRecDepth 20000 in
theorem zk180 : lw_tbl[824]? = some (.code yX9_bestWeights cX9_bestWeights 4 (some .int)) := rfl
set_option maxRecDepth 20000 in
theorem zk181 : lw_tbl[887]? = some (.code yX9_differ cX9_differ 3 (some .int)) := rfl
set_option maxRecDepth 20000 in
theorem zk182 : lw_tbl[952]? = some (.code yX9_tapNext cX9_tapNext 1 (some .int)) := rfl
set_option maxRecDepth 20000 in
theorem zk183 : lw_tbl[1143]? = some (.code yX10_takeClause cX10_takeClause 4 none) := rfl
set_option maxRecDepth 20000 in
theorem zk184 : lw_tbl[1190]? = some (.code yX10_rowTells cX10_rowTells 5 (some .int)) := rfl
set_option maxRecDepth 20000 in
theorem zk185 : lw_tbl[1246]? = some (.code yX10_glass cX10_glass 3 (some .int)) := rfl
set_option maxRecDepth 20000 in
theorem zk186 : lw_tbl[1406]? = some (.code yX10_steps cX10_steps 5 (some .int)) := rfl
set_option maxRecDepth 20000 in
theorem zk187 : lw_tbl[1422]? = some (.code yX10_differ cX10_differ 7 (some .int)) := rfl
set_option maxRecDepth 20000 in
theorem zk188 : lw_tbl[1435]? = some (.code yX10_falseOnes cX10_falseOnes 3 (some .int)) := rfl
set_option maxRecDepth 20000 in
theorem zk189 : lw_tbl[1453]? = some (.code yX10_could cX10_could 5 (some .int)) := rfl
set_option maxRecDepth 20000 in
theorem zk190 : lw_tbl[1466]? = some (.code yX10_greatestPart cX10_greatestPart 7 (some .int)) := rfl
set_option maxRecDepth 20000 in
theorem zk191 : lw_tbl[464]? = some (.code yX9_coast cX9_coast 2 (some .int)) := rfl
set_option maxRecDepth 20000 in
theorem zk192 : lw_tbl[657]? = some (.code yX9_day cX9_day 4 (some .int)) := rfl
set_option maxRecDepth 20000 in
theorem zk193 : lw_tbl[727]? = some (.code yX9_drift cX9_drift 4 (some .int)) := rfl
set_option maxRecDepth 20000 in
theorem zk194 : lw_tbl[756]? = some (.code yX9_catches cX9_catches 3 (some .int)) := rfl
set_option maxRecDepth 20000 in
theorem zk195 : lw_tbl[776]? = some (.code yX9_loses cX9_loses 2 (some .int)) := rfl
set_option maxRecDepth 20000 in
theorem zk196 : lw_tbl[784]? = some (.code yX9_bestLimit cX9_bestLimit 3 (some .int)) := rfl
set_option maxRecDepth 20000 in
theorem zk197 : lw_tbl[1135]? = some (.code yX10_coast cX10_coast 1 (some .int)) := rfl
set_option maxRecDepth 20000 in
theorem zk198 : lw_tbl[1218]? = some (.code yX10_sailing cX10_sailing 4 (some .int)) := rfl
set_option maxRecDepth 20000 in
theorem zk199 : lw_tbl[1285]? = some (.code yX10_dayIn cX10_dayIn 7 none) := rfl
set_option maxRecDepth 20000 in
theorem zk200 : lw_tbl[1461]? = some (.code yX10_tapNext cX10_tapNext 6 (some .int)) := rfl
set_option maxRecDepth 20000 in
theorem zk201 : lw_tbl[1186]? = some (.code yX10_told cX10_told 2 (some .int)) := rfl
set_option maxRecDepth 20000 in
theorem zk202 : lw_tbl[1268]? = some (.code yX10_day cX10_day 4 (some .int)) := rfl
set_option maxRecDepth 20000 in
theorem zk203 : lw_tbl[1331]? = some (.code yX10_dayByDraws cX10_dayByDraws 3 none) := rfl
set_option maxRecDepth 20000 in
theorem zk204 : lw_tbl[1351]? = some (.code yX10_goOn cX10_goOn 3 none) := rfl
set_option maxRecDepth 20000 in
theorem zk205 : lw_tbl[1367]? = some (.code yX10_layDays cX10_layDays 3 none) := rfl
set_option maxRecDepth 20000 in
theorem zk206 : lw_tbl[1379]? = some (.code yX10_errorOf cX10_errorOf 5 (some .int)) := rfl
set_option maxRecDepth 20000 in
theorem zk207 : lw_tbl[1395]? = some (.code yX10_layReadings cX10_layReadings 3 none) := rfl
set_option maxRecDepth 20000 in
theorem zk208 : lw_tbl[1327]? = some (.code yX10_drift cX10_drift 4 (some .int)) := rfl
set_option maxRecDepth 20000 in
theorem zk209 : lw_tbl[1347]? = some (.code yX10_tells cX10_tells 2 (some .int)) := rfl
set_option maxRecDepth 20000 in
theorem zk210 : lw_tbl[1355]? = some (.code yX10_catches cX10_catches 3 (some .int)) := rfl
set_option maxRecDepth 20000 in
theorem zk211 : lw_tbl[1359]? = some (.code yX10_loses cX10_loses 2 (some .int)) := rfl
set_option maxRecDepth 20000 in
theorem zk212 : lw_tbl[1363]? = some (.code yX10_bestLimit cX10_bestLimit 7 (some .int)) := rfl
set_option maxRecDepth 20000 in
theorem zk213 : lw_tbl[1375]? = some (.code yX10_error cX10_error 2 (some .int)) := rfl
set_option maxRecDepth 20000 in
theorem zk214 : lw_tbl[1386]? = some (.code yX10_truest cX10_truest 6 (some .int)) := rfl
set_option maxRecDepth 20000 in
theorem zk215 : lw_tbl[1391]? = some (.code yX10_bestWeights cX10_bestWeights 7 (some .int)) := rfl
def zmi0 : List zI := [(yX0_clear, cX0_clear, 1, none, 0, 1, 0), (yX0_copyFrom, cX0_copyFrom, 2, none, 0, 1, 1), (yX0_addWeather, cX0_addWeather, 2, none, 0, 1, 1), (yX0_addGlass, cX0_addGlass, 3, none, 0, 1, 2), (yX0_addBoat, cX0_addBoat, 3, none, 0, 1, 2), (yX0_tellDrinks, cX0_tellDrinks, 2, none, 0, 1, 1), (yX1_forget, cX1_forget, 1, none, 1, 1, 0), (yX2_caughtInAll, cX2_caughtInAll, 3, (some .int), 2, 1, 0), (yX2_sail, cX2_sail, 3, none, 2, 1, 2), (yX2_safeDays, cX2_safeDays, 5, (some .int), 2, 1, 3), (yX2_haul, cX2_haul, 6, (some .int), 2, 1, 3), (yX3_forget, cX3_forget, 1, none, 3, 1, 0), (yX4_clear, cX4_clear, 1, none, 4, 1, 0), (yX4_addTap, cX4_addTap, 3, (some .boolean), 4, 1, 2), (yX4_addEntry, cX4_addEntry, 3, (some .boolean), 4, 1, 2), (yX4_firstWrong, cX4_firstWrong, 2, (some .int), 4, 1, 0), (yX5_add, cX5_add, 2, (some .boolean), 5, 1, 1), (yX5_wordFault, cX5_wordFault, 3, (some .int), 5, 1, 2), (yX5_fail, cX5_fail, 3, none, 5, 1, 2), (yX5_nextSign, cX5_nextSign, 1, (some .int), 5, 1, 0), (yX5_isFigure, cX5_isFigure, 1, (some .boolean), 99, 1, 1), (yX6_weatherAhead, cX6_weatherAhead, 3, (some .int), 6, 1, 1), (yX6_clearReading, cX6_clearReading, 3, (some .int), 99, 1, 2), (yX6_tellingOf, cX6_tellingOf, 2, (some .int), 99, 1, 2)]
theorem zmi0_ok : ∀ q ∈ zmi0, Cond.code q.1 q.2.1 q.2.2.1 q.2.2.2.1 ∈ gT := List.forall_mem_cons.mpr ⟨gT_at ⟨zk0, rfl⟩, List.forall_mem_cons.mpr ⟨gT_at ⟨zk1, rfl⟩, List.forall_mem_cons.mpr ⟨gT_at ⟨zk2, rfl⟩, List.forall_mem_cons.mpr ⟨gT_at ⟨zk3, rfl⟩, List.forall_mem_cons.mpr ⟨gT_at ⟨zk4, rfl⟩, List.forall_mem_cons.mpr ⟨gT_at ⟨zk5, rfl⟩, List.forall_mem_cons.mpr ⟨gT_at ⟨zk6, rfl⟩, List.forall_mem_cons.mpr ⟨gT_at ⟨zk7, rfl⟩, List.forall_mem_cons.mpr ⟨gT_at ⟨zk8, rfl⟩, List.forall_mem_cons.mpr ⟨gT_at ⟨zk9, rfl⟩, List.forall_mem_cons.mpr ⟨gT_at ⟨zk10, rfl⟩, List.forall_mem_cons.mpr ⟨gT_at ⟨zk11, rfl⟩, List.forall_mem_cons.mpr ⟨gT_at ⟨zk12, rfl⟩, List.forall_mem_cons.mpr ⟨gT_at ⟨zk13, rfl⟩, List.forall_mem_cons.mpr ⟨gT_at ⟨zk14, rfl⟩, List.forall_mem_cons.mpr ⟨gT_at ⟨zk15, rfl⟩, List.forall_mem_cons.mpr ⟨gT_at ⟨zk16, rfl⟩, List.forall_mem_cons.mpr ⟨gT_at ⟨zk17, rfl⟩, List.forall_mem_cons.mpr ⟨gT_at ⟨zk18, rfl⟩, List.forall_mem_cons.mpr ⟨gT_at ⟨zk19, rfl⟩, List.forall_mem_cons.mpr ⟨gT_at ⟨zk20, rfl⟩, List.forall_mem_cons.mpr ⟨gT_at ⟨zk21, rfl⟩, List.forall_mem_cons.mpr ⟨gT_at ⟨zk22, rfl⟩, List.forall_mem_cons.mpr ⟨gT_at ⟨zk23, rfl⟩, fun _ h => absurd h List.not_mem_nil⟩⟩⟩⟩⟩⟩⟩⟩⟩⟩⟩⟩⟩⟩⟩⟩⟩⟩⟩⟩⟩⟩⟩⟩
def zmi1 : List zI := [(yX6_gladSet, cX6_gladSet, 3, (some .int), 6, 1, 0), (yX7_copyFrom, cX7_copyFrom, 2, none, 7, 1, 1), (yX7_addToLog, cX7_addToLog, 4, none, 7, 1, 3), (yX7_logEntry, cX7_logEntry, 4, (some .int), 7, 1, 2), (yX7_rulesThatHold, cX7_rulesThatHold, 5, (some .int), 7, 1, 1), (yX8_addWeight, cX8_addWeight, 4, none, 8, 1, 2), (yX8_daysToGive, cX8_daysToGive, 4, (some .int), 8, 1, 1), (yX9_fault, cX9_fault, 1, (some .int), 9, 1, 0), (yX9_seed, cX9_seed, 3, (some .int), 9, 1, 1), (yX9_noCoast, cX9_noCoast, 1, (some .boolean), 9, 1, 0), (yX9_draw, cX9_draw, 2, (some .int), 9, 1, 1), (yX9_isOut, cX9_isOut, 3, (some .boolean), 99, 1, 3), (yX9_hasBit, cX9_hasBit, 2, (some .boolean), 99, 1, 2), (yX10_in, cX10_in, 6, (some .boolean), 99, 1, 3), (yX10_least, cX10_least, 2, (some .int), 99, 1, 2), (yX10_most, cX10_most, 2, (some .int), 99, 1, 2), (yX10_apart, cX10_apart, 2, (some .int), 99, 1, 2), (yX10_one, cX10_one, 1, (some .int), 99, 1, 1), (yX10_has, cX10_has, 2, (some .boolean), 99, 1, 2), (yX10_here, cX10_here, 1, (some .int), 10, 1, 0), (yX10_want, cX10_want, 4, (some .boolean), 10, 1, 3), (yX10_take, cX10_take, 3, none, 10, 1, 0), (yX10_fault, cX10_fault, 1, (some .int), 10, 1, 0), (yX10_weatherOf, cX10_weatherOf, 2, (some .int), 10, 1, 1)]
theorem zmi1_ok : ∀ q ∈ zmi1, Cond.code q.1 q.2.1 q.2.2.1 q.2.2.2.1 ∈ gT := List.forall_mem_cons.mpr ⟨gT_at ⟨zk24, rfl⟩, List.forall_mem_cons.mpr ⟨gT_at ⟨zk25, rfl⟩, List.forall_mem_cons.mpr ⟨gT_at ⟨zk26, rfl⟩, List.forall_mem_cons.mpr ⟨gT_at ⟨zk27, rfl⟩, List.forall_mem_cons.mpr ⟨gT_at ⟨zk28, rfl⟩, List.forall_mem_cons.mpr ⟨gT_at ⟨zk29, rfl⟩, List.forall_mem_cons.mpr ⟨gT_at ⟨zk30, rfl⟩, List.forall_mem_cons.mpr ⟨gT_at ⟨zk31, rfl⟩, List.forall_mem_cons.mpr ⟨gT_at ⟨zk32, rfl⟩, List.forall_mem_cons.mpr ⟨gT_at ⟨zk33, rfl⟩, List.forall_mem_cons.mpr ⟨gT_at ⟨zk34, rfl⟩, List.forall_mem_cons.mpr ⟨gT_at ⟨zk35, rfl⟩, List.forall_mem_cons.mpr ⟨gT_at ⟨zk36, rfl⟩, List.forall_mem_cons.mpr ⟨gT_at ⟨zk37, rfl⟩, List.forall_mem_cons.mpr ⟨gT_at ⟨zk38, rfl⟩, List.forall_mem_cons.mpr ⟨gT_at ⟨zk39, rfl⟩, List.forall_mem_cons.mpr ⟨gT_at ⟨zk40, rfl⟩, List.forall_mem_cons.mpr ⟨gT_at ⟨zk41, rfl⟩, List.forall_mem_cons.mpr ⟨gT_at ⟨zk42, rfl⟩, List.forall_mem_cons.mpr ⟨gT_at ⟨zk43, rfl⟩, List.forall_mem_cons.mpr ⟨gT_at ⟨zk44, rfl⟩, List.forall_mem_cons.mpr ⟨gT_at ⟨zk45, rfl⟩, List.forall_mem_cons.mpr ⟨gT_at ⟨zk46, rfl⟩, List.forall_mem_cons.mpr ⟨gT_at ⟨zk47, rfl⟩, fun _ h => absurd h List.not_mem_nil⟩⟩⟩⟩⟩⟩⟩⟩⟩⟩⟩⟩⟩⟩⟩⟩⟩⟩⟩⟩⟩⟩⟩⟩
def zmi2 : List zI := [(yX10_caught, cX10_caught, 3, (some .int), 10, 1, 0), (yX10_copy, cX10_copy, 4, none, 10, 1, 2), (yX10_log, cX10_log, 6, none, 10, 1, 4), (yX10_draw, cX10_draw, 2, (some .int), 10, 1, 1), (yX10_caughtBy, cX10_caughtBy, 5, (some .int), 10, 1, 2), (yX10_weightOf, cX10_weightOf, 5, (some .int), 99, 1, 3), (yX10_judge, cX10_judge, 2, (some .int), 10, 1, 0), (yX10_tear, cX10_tear, 2, (some .int), 10, 1, 0), (yX10_seed, cX10_seed, 3, (some .int), 10, 1, 1), (yJ6_bitCount_0f7a4, cJ6_bitCount_0f7a4, 1, (some .int), 99, 1, 1), (yJ7_fill_53178, cJ7_fill_53178, 4, none, 99, 1, 2), (yX1_remember, cX1_remember, 2, none, 1, 2, 1), (yX1_takeBack, cX1_takeBack, 3, (some .boolean), 1, 2, 2), (yX2_homeCount, cX2_homeCount, 1, (some .int), 2, 2, 0), (yX2_isReady, cX2_isReady, 2, (some .boolean), 2, 2, 1), (yX3_has, cX3_has, 2, (some .boolean), 3, 2, 1), (yX3_take, cX3_take, 4, none, 3, 2, 3), (yX3_give, cX3_give, 3, none, 3, 2, 2), (yX5_readNumber, cX5_readNumber, 5, (some .int), 5, 2, 1), (yX5_readEnd, cX5_readEnd, 1, none, 5, 2, 0), (yX6_reading, cX6_reading, 3, (some .int), 6, 2, 2), (yX6_readingBy, cX6_readingBy, 3, (some .int), 6, 2, 2), (yX6_firstFair, cX6_firstFair, 5, (some .int), 6, 2, 2), (yX7_begin, cX7_begin, 2, none, 7, 2, 1)]
theorem zmi2_ok : ∀ q ∈ zmi2, Cond.code q.1 q.2.1 q.2.2.1 q.2.2.2.1 ∈ gT := List.forall_mem_cons.mpr ⟨gT_at ⟨zk48, rfl⟩, List.forall_mem_cons.mpr ⟨gT_at ⟨zk49, rfl⟩, List.forall_mem_cons.mpr ⟨gT_at ⟨zk50, rfl⟩, List.forall_mem_cons.mpr ⟨gT_at ⟨zk51, rfl⟩, List.forall_mem_cons.mpr ⟨gT_at ⟨zk52, rfl⟩, List.forall_mem_cons.mpr ⟨gT_at ⟨zk53, rfl⟩, List.forall_mem_cons.mpr ⟨gT_at ⟨zk54, rfl⟩, List.forall_mem_cons.mpr ⟨gT_at ⟨zk55, rfl⟩, List.forall_mem_cons.mpr ⟨gT_at ⟨zk56, rfl⟩, List.forall_mem_cons.mpr ⟨gT_at ⟨zk57, rfl⟩, List.forall_mem_cons.mpr ⟨gT_at ⟨zk58, rfl⟩, List.forall_mem_cons.mpr ⟨gT_at ⟨zk59, rfl⟩, List.forall_mem_cons.mpr ⟨gT_at ⟨zk60, rfl⟩, List.forall_mem_cons.mpr ⟨gT_at ⟨zk61, rfl⟩, List.forall_mem_cons.mpr ⟨gT_at ⟨zk62, rfl⟩, List.forall_mem_cons.mpr ⟨gT_at ⟨zk63, rfl⟩, List.forall_mem_cons.mpr ⟨gT_at ⟨zk64, rfl⟩, List.forall_mem_cons.mpr ⟨gT_at ⟨zk65, rfl⟩, List.forall_mem_cons.mpr ⟨gT_at ⟨zk66, rfl⟩, List.forall_mem_cons.mpr ⟨gT_at ⟨zk67, rfl⟩, List.forall_mem_cons.mpr ⟨gT_at ⟨zk68, rfl⟩, List.forall_mem_cons.mpr ⟨gT_at ⟨zk69, rfl⟩, List.forall_mem_cons.mpr ⟨gT_at ⟨zk70, rfl⟩, List.forall_mem_cons.mpr ⟨gT_at ⟨zk71, rfl⟩, fun _ h => absurd h List.not_mem_nil⟩⟩⟩⟩⟩⟩⟩⟩⟩⟩⟩⟩⟩⟩⟩⟩⟩⟩⟩⟩⟩⟩⟩⟩
def zmi3 : List zI := [(yX8_triedError, cX8_triedError, 4, (some .int), 8, 2, 1), (yX8_nextWeighing, cX8_nextWeighing, 2, (some .boolean), 8, 2, 0), (yX8_countStepsToReads, cX8_countStepsToReads, 5, none, 8, 2, 1), (yX8_addToSums, cX8_addToSums, 7, none, 8, 2, 2), (yX8_drinksShort, cX8_drinksShort, 4, (some .int), 8, 2, 1), (yX8_drinksOver, cX8_drinksOver, 4, (some .int), 8, 2, 1), (yX9_feed, cX9_feed, 2, (some .int), 9, 2, 1), (yX9_logged, cX9_logged, 3, (some .int), 9, 2, 2), (yX9_holds, cX9_holds, 2, (some .int), 9, 2, 1), (yX9_homeBy, cX9_homeBy, 6, (some .int), 9, 2, 2), (yX9_judge, cX9_judge, 1, (some .int), 9, 2, 0), (yX9_tear, cX9_tear, 2, (some .int), 9, 2, 0), (yX9_noGlass, cX9_noGlass, 2, (some .boolean), 9, 2, 1), (yX9_noBoat, cX9_noBoat, 2, (some .boolean), 9, 2, 1), (yX9_refuseAhead, cX9_refuseAhead, 2, (some .int), 9, 2, 1), (yX9_refuseDays, cX9_refuseDays, 2, (some .int), 9, 2, 1), (yX9_moveByDraw, cX9_moveByDraw, 2, none, 9, 2, 0), (yX10_feed, cX10_feed, 2, (some .int), 10, 2, 1), (yX10_takeNumber, cX10_takeNumber, 4, (some .int), 10, 2, 0), (yX10_isGlass, cX10_isGlass, 2, (some .boolean), 10, 2, 1), (yX10_isBoat, cX10_isBoat, 2, (some .boolean), 10, 2, 1), (yX10_isAll, cX10_isAll, 2, (some .boolean), 10, 2, 1), (yX10_tomorrow, cX10_tomorrow, 2, (some .int), 10, 2, 1), (yX10_held, cX10_held, 1, (some .int), 99, 2, 1)]
theorem zmi3_ok : ∀ q ∈ zmi3, Cond.code q.1 q.2.1 q.2.2.1 q.2.2.2.1 ∈ gT := List.forall_mem_cons.mpr ⟨gT_at ⟨zk72, rfl⟩, List.forall_mem_cons.mpr ⟨gT_at ⟨zk73, rfl⟩, List.forall_mem_cons.mpr ⟨gT_at ⟨zk74, rfl⟩, List.forall_mem_cons.mpr ⟨gT_at ⟨zk75, rfl⟩, List.forall_mem_cons.mpr ⟨gT_at ⟨zk76, rfl⟩, List.forall_mem_cons.mpr ⟨gT_at ⟨zk77, rfl⟩, List.forall_mem_cons.mpr ⟨gT_at ⟨zk78, rfl⟩, List.forall_mem_cons.mpr ⟨gT_at ⟨zk79, rfl⟩, List.forall_mem_cons.mpr ⟨gT_at ⟨zk80, rfl⟩, List.forall_mem_cons.mpr ⟨gT_at ⟨zk81, rfl⟩, List.forall_mem_cons.mpr ⟨gT_at ⟨zk82, rfl⟩, List.forall_mem_cons.mpr ⟨gT_at ⟨zk83, rfl⟩, List.forall_mem_cons.mpr ⟨gT_at ⟨zk84, rfl⟩, List.forall_mem_cons.mpr ⟨gT_at ⟨zk85, rfl⟩, List.forall_mem_cons.mpr ⟨gT_at ⟨zk86, rfl⟩, List.forall_mem_cons.mpr ⟨gT_at ⟨zk87, rfl⟩, List.forall_mem_cons.mpr ⟨gT_at ⟨zk88, rfl⟩, List.forall_mem_cons.mpr ⟨gT_at ⟨zk89, rfl⟩, List.forall_mem_cons.mpr ⟨gT_at ⟨zk90, rfl⟩, List.forall_mem_cons.mpr ⟨gT_at ⟨zk91, rfl⟩, List.forall_mem_cons.mpr ⟨gT_at ⟨zk92, rfl⟩, List.forall_mem_cons.mpr ⟨gT_at ⟨zk93, rfl⟩, List.forall_mem_cons.mpr ⟨gT_at ⟨zk94, rfl⟩, List.forall_mem_cons.mpr ⟨gT_at ⟨zk95, rfl⟩, fun _ h => absurd h List.not_mem_nil⟩⟩⟩⟩⟩⟩⟩⟩⟩⟩⟩⟩⟩⟩⟩⟩⟩⟩⟩⟩⟩⟩⟩⟩
def zmi4 : List zI := [(yX10_sails, cX10_sails, 4, (some .boolean), 10, 2, 3), (yX10_gladOnes, cX10_gladOnes, 3, (some .int), 10, 2, 0), (yX10_weather, cX10_weather, 2, (some .int), 10, 2, 1), (yX10_logged, cX10_logged, 3, (some .int), 10, 2, 2), (yX10_remember, cX10_remember, 2, none, 10, 2, 0), (yX10_refusedDays, cX10_refusedDays, 2, (some .int), 10, 2, 1), (yX10_homes, cX10_homes, 3, (some .int), 10, 2, 0), (yX10_undo, cX10_undo, 3, (some .int), 10, 2, 1), (yX10_errorBy, cX10_errorBy, 8, (some .int), 10, 2, 1), (yX10_isFair, cX10_isFair, 6, (some .boolean), 10, 2, 3), (yX10_holds, cX10_holds, 6, (some .int), 10, 2, 1), (yX10_homeBy, cX10_homeBy, 6, (some .int), 10, 2, 2), (yX10_keep, cX10_keep, 2, (some .int), 10, 2, 1), (yX10_goBack, cX10_goBack, 2, (some .int), 10, 2, 1), (yX4_fitting, cX4_fitting, 4, (some .int), 4, 3, 0), (yX4_greatestPart, cX4_greatestPart, 6, (some .int), 4, 3, 2), (yX5_readWeathers, cX5_readWeathers, 4, none, 5, 3, 1), (yX5_readGlass, cX5_readGlass, 4, none, 5, 3, 1), (yX5_readBoat, cX5_readBoat, 4, none, 5, 3, 1), (yX5_readDrinks, cX5_readDrinks, 3, none, 5, 3, 1), (yX6_telling, cX6_telling, 5, (some .int), 6, 3, 1), (yX6_falseSet, cX6_falseSet, 4, (some .int), 6, 3, 0), (yX6_apart, cX6_apart, 3, (some .int), 6, 3, 2), (yX8_glassError, cX8_glassError, 4, (some .int), 8, 3, 1)]
theorem zmi4_ok : ∀ q ∈ zmi4, Cond.code q.1 q.2.1 q.2.2.1 q.2.2.2.1 ∈ gT := List.forall_mem_cons.mpr ⟨gT_at ⟨zk96, rfl⟩, List.forall_mem_cons.mpr ⟨gT_at ⟨zk97, rfl⟩, List.forall_mem_cons.mpr ⟨gT_at ⟨zk98, rfl⟩, List.forall_mem_cons.mpr ⟨gT_at ⟨zk99, rfl⟩, List.forall_mem_cons.mpr ⟨gT_at ⟨zk100, rfl⟩, List.forall_mem_cons.mpr ⟨gT_at ⟨zk101, rfl⟩, List.forall_mem_cons.mpr ⟨gT_at ⟨zk102, rfl⟩, List.forall_mem_cons.mpr ⟨gT_at ⟨zk103, rfl⟩, List.forall_mem_cons.mpr ⟨gT_at ⟨zk104, rfl⟩, List.forall_mem_cons.mpr ⟨gT_at ⟨zk105, rfl⟩, List.forall_mem_cons.mpr ⟨gT_at ⟨zk106, rfl⟩, List.forall_mem_cons.mpr ⟨gT_at ⟨zk107, rfl⟩, List.forall_mem_cons.mpr ⟨gT_at ⟨zk108, rfl⟩, List.forall_mem_cons.mpr ⟨gT_at ⟨zk109, rfl⟩, List.forall_mem_cons.mpr ⟨gT_at ⟨zk110, rfl⟩, List.forall_mem_cons.mpr ⟨gT_at ⟨zk111, rfl⟩, List.forall_mem_cons.mpr ⟨gT_at ⟨zk112, rfl⟩, List.forall_mem_cons.mpr ⟨gT_at ⟨zk113, rfl⟩, List.forall_mem_cons.mpr ⟨gT_at ⟨zk114, rfl⟩, List.forall_mem_cons.mpr ⟨gT_at ⟨zk115, rfl⟩, List.forall_mem_cons.mpr ⟨gT_at ⟨zk116, rfl⟩, List.forall_mem_cons.mpr ⟨gT_at ⟨zk117, rfl⟩, List.forall_mem_cons.mpr ⟨gT_at ⟨zk118, rfl⟩, List.forall_mem_cons.mpr ⟨gT_at ⟨zk119, rfl⟩, fun _ h => absurd h List.not_mem_nil⟩⟩⟩⟩⟩⟩⟩⟩⟩⟩⟩⟩⟩⟩⟩⟩⟩⟩⟩⟩⟩⟩⟩⟩
def zmi5 : List zI := [(yX8_startWeighing, cX8_startWeighing, 3, none, 8, 3, 0), (yX8_fewestSteps, cX8_fewestSteps, 5, (some .int), 8, 3, 1), (yX9_weather, cX9_weather, 3, (some .int), 9, 3, 1), (yX9_glass, cX9_glass, 3, (some .int), 9, 3, 2), (yX9_boat, cX9_boat, 3, (some .int), 9, 3, 2), (yX9_drink, cX9_drink, 2, (some .int), 9, 3, 1), (yX9_keepFrom, cX9_keepFrom, 2, (some .int), 9, 3, 1), (yX9_glad, cX9_glad, 4, (some .int), 9, 3, 2), (yX9_weigh, cX9_weigh, 4, (some .int), 9, 3, 2), (yX9_hold, cX9_hold, 4, (some .int), 9, 3, 2), (yX9_find, cX9_find, 2, (some .int), 9, 3, 1), (yX9_undo, cX9_undo, 2, (some .int), 9, 3, 1), (yX9_allTrue, cX9_allTrue, 3, (some .int), 9, 3, 2), (yX9_fair, cX9_fair, 3, (some .int), 9, 3, 2), (yX9_tap, cX9_tap, 3, (some .int), 9, 3, 2), (yX9_write, cX9_write, 3, (some .int), 9, 3, 2), (yX9_keep, cX9_keep, 2, (some .int), 9, 3, 1), (yX9_goBack, cX9_goBack, 2, (some .int), 9, 3, 1), (yX9_refuseGlassOrRow, cX9_refuseGlassOrRow, 2, (some .int), 9, 3, 1), (yX10_takeIn, cX10_takeIn, 5, (some .int), 10, 3, 2), (yX10_reading, cX10_reading, 3, (some .int), 99, 3, 3), (yX10_boat, cX10_boat, 3, (some .int), 10, 3, 2), (yX10_drink, cX10_drink, 2, (some .int), 10, 3, 1), (yX10_keepFrom, cX10_keepFrom, 2, (some .int), 10, 3, 1)]
theorem zmi5_ok : ∀ q ∈ zmi5, Cond.code q.1 q.2.1 q.2.2.1 q.2.2.2.1 ∈ gT := List.forall_mem_cons.mpr ⟨gT_at ⟨zk120, rfl⟩, List.forall_mem_cons.mpr ⟨gT_at ⟨zk121, rfl⟩, List.forall_mem_cons.mpr ⟨gT_at ⟨zk122, rfl⟩, List.forall_mem_cons.mpr ⟨gT_at ⟨zk123, rfl⟩, List.forall_mem_cons.mpr ⟨gT_at ⟨zk124, rfl⟩, List.forall_mem_cons.mpr ⟨gT_at ⟨zk125, rfl⟩, List.forall_mem_cons.mpr ⟨gT_at ⟨zk126, rfl⟩, List.forall_mem_cons.mpr ⟨gT_at ⟨zk127, rfl⟩, List.forall_mem_cons.mpr ⟨gT_at ⟨zk128, rfl⟩, List.forall_mem_cons.mpr ⟨gT_at ⟨zk129, rfl⟩, List.forall_mem_cons.mpr ⟨gT_at ⟨zk130, rfl⟩, List.forall_mem_cons.mpr ⟨gT_at ⟨zk131, rfl⟩, List.forall_mem_cons.mpr ⟨gT_at ⟨zk132, rfl⟩, List.forall_mem_cons.mpr ⟨gT_at ⟨zk133, rfl⟩, List.forall_mem_cons.mpr ⟨gT_at ⟨zk134, rfl⟩, List.forall_mem_cons.mpr ⟨gT_at ⟨zk135, rfl⟩, List.forall_mem_cons.mpr ⟨gT_at ⟨zk136, rfl⟩, List.forall_mem_cons.mpr ⟨gT_at ⟨zk137, rfl⟩, List.forall_mem_cons.mpr ⟨gT_at ⟨zk138, rfl⟩, List.forall_mem_cons.mpr ⟨gT_at ⟨zk139, rfl⟩, List.forall_mem_cons.mpr ⟨gT_at ⟨zk140, rfl⟩, List.forall_mem_cons.mpr ⟨gT_at ⟨zk141, rfl⟩, List.forall_mem_cons.mpr ⟨gT_at ⟨zk142, rfl⟩, List.forall_mem_cons.mpr ⟨gT_at ⟨zk143, rfl⟩, fun _ h => absurd h List.not_mem_nil⟩⟩⟩⟩⟩⟩⟩⟩⟩⟩⟩⟩⟩⟩⟩⟩⟩⟩⟩⟩⟩⟩⟩⟩
def zmi6 : List zI := [(yX10_changed, cX10_changed, 4, (some .int), 10, 3, 2), (yX10_find, cX10_find, 2, (some .int), 10, 3, 1), (yX10_allTrue, cX10_allTrue, 6, (some .int), 10, 3, 2), (yX10_fair, cX10_fair, 4, (some .int), 10, 3, 2), (yX10_tap, cX10_tap, 3, (some .int), 10, 3, 2), (yX10_write, cX10_write, 3, (some .int), 10, 3, 2), (yX2_sailing, cX2_sailing, 4, (some .int), 2, 4, 0), (yX2_lookAhead, cX2_lookAhead, 3, none, 2, 4, 1), (yX4_bestToTap, cX4_bestToTap, 6, (some .int), 4, 4, 0), (yX5_readClause, cX5_readClause, 4, none, 5, 4, 1), (yX6_mostUnlike, cX6_mostUnlike, 6, (some .int), 6, 4, 0), (yX8_rowError, cX8_rowError, 3, (some .int), 8, 4, 0), (yX8_glassOfLeastError, cX8_glassOfLeastError, 5, (some .int), 8, 4, 0), (yX8_weighBest, cX8_weighBest, 5, (some .int), 8, 4, 0), (yX9_tells, cX9_tells, 3, (some .int), 9, 4, 1), (yX9_steps, cX9_steps, 2, (some .int), 9, 4, 1), (yX9_falseOnes, cX9_falseOnes, 1, (some .int), 9, 4, 0), (yX9_could, cX9_could, 1, (some .int), 9, 4, 0), (yX10_takeWeather, cX10_takeWeather, 3, none, 10, 4, 1), (yX10_takeGlass, cX10_takeGlass, 2, none, 10, 4, 1), (yX10_takeBoat, cX10_takeBoat, 2, none, 10, 4, 1), (yX10_takeDrinks, cX10_takeDrinks, 2, none, 10, 4, 1), (yX10_reads, cX10_reads, 3, (some .int), 10, 4, 2), (yX10_glad, cX10_glad, 3, (some .int), 10, 4, 2)]
theorem zmi6_ok : ∀ q ∈ zmi6, Cond.code q.1 q.2.1 q.2.2.1 q.2.2.2.1 ∈ gT := List.forall_mem_cons.mpr ⟨gT_at ⟨zk144, rfl⟩, List.forall_mem_cons.mpr ⟨gT_at ⟨zk145, rfl⟩, List.forall_mem_cons.mpr ⟨gT_at ⟨zk146, rfl⟩, List.forall_mem_cons.mpr ⟨gT_at ⟨zk147, rfl⟩, List.forall_mem_cons.mpr ⟨gT_at ⟨zk148, rfl⟩, List.forall_mem_cons.mpr ⟨gT_at ⟨zk149, rfl⟩, List.forall_mem_cons.mpr ⟨gT_at ⟨zk150, rfl⟩, List.forall_mem_cons.mpr ⟨gT_at ⟨zk151, rfl⟩, List.forall_mem_cons.mpr ⟨gT_at ⟨zk152, rfl⟩, List.forall_mem_cons.mpr ⟨gT_at ⟨zk153, rfl⟩, List.forall_mem_cons.mpr ⟨gT_at ⟨zk154, rfl⟩, List.forall_mem_cons.mpr ⟨gT_at ⟨zk155, rfl⟩, List.forall_mem_cons.mpr ⟨gT_at ⟨zk156, rfl⟩, List.forall_mem_cons.mpr ⟨gT_at ⟨zk157, rfl⟩, List.forall_mem_cons.mpr ⟨gT_at ⟨zk158, rfl⟩, List.forall_mem_cons.mpr ⟨gT_at ⟨zk159, rfl⟩, List.forall_mem_cons.mpr ⟨gT_at ⟨zk160, rfl⟩, List.forall_mem_cons.mpr ⟨gT_at ⟨zk161, rfl⟩, List.forall_mem_cons.mpr ⟨gT_at ⟨zk162, rfl⟩, List.forall_mem_cons.mpr ⟨gT_at ⟨zk163, rfl⟩, List.forall_mem_cons.mpr ⟨gT_at ⟨zk164, rfl⟩, List.forall_mem_cons.mpr ⟨gT_at ⟨zk165, rfl⟩, List.forall_mem_cons.mpr ⟨gT_at ⟨zk166, rfl⟩, List.forall_mem_cons.mpr ⟨gT_at ⟨zk167, rfl⟩, fun _ h => absurd h List.not_mem_nil⟩⟩⟩⟩⟩⟩⟩⟩⟩⟩⟩⟩⟩⟩⟩⟩⟩⟩⟩⟩⟩⟩⟩⟩
def zmi7 : List zI := [(yX10_weigh, cX10_weigh, 3, (some .int), 10, 4, 2), (yX10_hold, cX10_hold, 5, (some .int), 10, 4, 2), (yX10_layGlass, cX10_layGlass, 5, none, 10, 4, 1), (yX10_wouldRead, cX10_wouldRead, 3, (some .int), 10, 4, 2), (yX2_passDay, cX2_passDay, 5, none, 2, 5, 0), (yX2_catchWithin, cX2_catchWithin, 4, (some .int), 2, 5, 2), (yX2_lostWithin, cX2_lostWithin, 4, (some .int), 2, 5, 1), (yX2_tryLimits, cX2_tryLimits, 5, none, 2, 5, 1), (yX5_read, cX5_read, 3, (some .int), 5, 5, 1), (yX9_told, cX9_told, 2, (some .int), 9, 5, 1), (yX9_error, cX9_error, 3, (some .int), 9, 5, 1), (yX9_truest, cX9_truest, 3, (some .int), 9, 5, 1), (yX9_bestWeights, cX9_bestWeights, 4, (some .int), 9, 5, 1), (yX9_differ, cX9_differ, 3, (some .int), 9, 5, 1), (yX9_tapNext, cX9_tapNext, 1, (some .int), 9, 5, 0), (yX10_takeClause, cX10_takeClause, 4, none, 10, 5, 0), (yX10_rowTells, cX10_rowTells, 5, (some .int), 10, 5, 1), (yX10_glass, cX10_glass, 3, (some .int), 10, 5, 2), (yX10_steps, cX10_steps, 5, (some .int), 10, 5, 1), (yX10_differ, cX10_differ, 7, (some .int), 10, 5, 1), (yX10_falseOnes, cX10_falseOnes, 3, (some .int), 10, 5, 0), (yX10_could, cX10_could, 5, (some .int), 10, 5, 0), (yX10_greatestPart, cX10_greatestPart, 7, (some .int), 10, 5, 2), (yX9_coast, cX9_coast, 2, (some .int), 9, 6, 0)]
theorem zmi7_ok : ∀ q ∈ zmi7, Cond.code q.1 q.2.1 q.2.2.1 q.2.2.2.1 ∈ gT := List.forall_mem_cons.mpr ⟨gT_at ⟨zk168, rfl⟩, List.forall_mem_cons.mpr ⟨gT_at ⟨zk169, rfl⟩, List.forall_mem_cons.mpr ⟨gT_at ⟨zk170, rfl⟩, List.forall_mem_cons.mpr ⟨gT_at ⟨zk171, rfl⟩, List.forall_mem_cons.mpr ⟨gT_at ⟨zk172, rfl⟩, List.forall_mem_cons.mpr ⟨gT_at ⟨zk173, rfl⟩, List.forall_mem_cons.mpr ⟨gT_at ⟨zk174, rfl⟩, List.forall_mem_cons.mpr ⟨gT_at ⟨zk175, rfl⟩, List.forall_mem_cons.mpr ⟨gT_at ⟨zk176, rfl⟩, List.forall_mem_cons.mpr ⟨gT_at ⟨zk177, rfl⟩, List.forall_mem_cons.mpr ⟨gT_at ⟨zk178, rfl⟩, List.forall_mem_cons.mpr ⟨gT_at ⟨zk179, rfl⟩, List.forall_mem_cons.mpr ⟨gT_at ⟨zk180, rfl⟩, List.forall_mem_cons.mpr ⟨gT_at ⟨zk181, rfl⟩, List.forall_mem_cons.mpr ⟨gT_at ⟨zk182, rfl⟩, List.forall_mem_cons.mpr ⟨gT_at ⟨zk183, rfl⟩, List.forall_mem_cons.mpr ⟨gT_at ⟨zk184, rfl⟩, List.forall_mem_cons.mpr ⟨gT_at ⟨zk185, rfl⟩, List.forall_mem_cons.mpr ⟨gT_at ⟨zk186, rfl⟩, List.forall_mem_cons.mpr ⟨gT_at ⟨zk187, rfl⟩, List.forall_mem_cons.mpr ⟨gT_at ⟨zk188, rfl⟩, List.forall_mem_cons.mpr ⟨gT_at ⟨zk189, rfl⟩, List.forall_mem_cons.mpr ⟨gT_at ⟨zk190, rfl⟩, List.forall_mem_cons.mpr ⟨gT_at ⟨zk191, rfl⟩, fun _ h => absurd h List.not_mem_nil⟩⟩⟩⟩⟩⟩⟩⟩⟩⟩⟩⟩⟩⟩⟩⟩⟩⟩⟩⟩⟩⟩⟩⟩
def zmi8 : List zI := [(yX9_day, cX9_day, 4, (some .int), 9, 6, 1), (yX9_drift, cX9_drift, 4, (some .int), 9, 6, 1), (yX9_catches, cX9_catches, 3, (some .int), 9, 6, 2), (yX9_loses, cX9_loses, 2, (some .int), 9, 6, 1), (yX9_bestLimit, cX9_bestLimit, 3, (some .int), 9, 6, 2), (yX10_coast, cX10_coast, 1, (some .int), 10, 6, 0), (yX10_sailing, cX10_sailing, 4, (some .int), 10, 6, 0), (yX10_dayIn, cX10_dayIn, 7, none, 10, 6, 1), (yX10_tapNext, cX10_tapNext, 6, (some .int), 10, 6, 0), (yX10_told, cX10_told, 2, (some .int), 10, 7, 1), (yX10_day, cX10_day, 4, (some .int), 10, 7, 1), (yX10_dayByDraws, cX10_dayByDraws, 3, none, 10, 7, 0), (yX10_goOn, cX10_goOn, 3, none, 10, 7, 1), (yX10_layDays, cX10_layDays, 3, none, 10, 7, 1), (yX10_errorOf, cX10_errorOf, 5, (some .int), 10, 7, 1), (yX10_layReadings, cX10_layReadings, 3, none, 10, 7, 0), (yX10_drift, cX10_drift, 4, (some .int), 10, 8, 1), (yX10_tells, cX10_tells, 2, (some .int), 10, 8, 1), (yX10_catches, cX10_catches, 3, (some .int), 10, 8, 2), (yX10_loses, cX10_loses, 2, (some .int), 10, 8, 1), (yX10_bestLimit, cX10_bestLimit, 7, (some .int), 10, 8, 2), (yX10_error, cX10_error, 2, (some .int), 10, 8, 1), (yX10_truest, cX10_truest, 6, (some .int), 10, 8, 1), (yX10_bestWeights, cX10_bestWeights, 7, (some .int), 10, 8, 1)]
theorem zmi8_ok : ∀ q ∈ zmi8, Cond.code q.1 q.2.1 q.2.2.1 q.2.2.2.1 ∈ gT := List.forall_mem_cons.mpr ⟨gT_at ⟨zk192, rfl⟩, List.forall_mem_cons.mpr ⟨gT_at ⟨zk193, rfl⟩, List.forall_mem_cons.mpr ⟨gT_at ⟨zk194, rfl⟩, List.forall_mem_cons.mpr ⟨gT_at ⟨zk195, rfl⟩, List.forall_mem_cons.mpr ⟨gT_at ⟨zk196, rfl⟩, List.forall_mem_cons.mpr ⟨gT_at ⟨zk197, rfl⟩, List.forall_mem_cons.mpr ⟨gT_at ⟨zk198, rfl⟩, List.forall_mem_cons.mpr ⟨gT_at ⟨zk199, rfl⟩, List.forall_mem_cons.mpr ⟨gT_at ⟨zk200, rfl⟩, List.forall_mem_cons.mpr ⟨gT_at ⟨zk201, rfl⟩, List.forall_mem_cons.mpr ⟨gT_at ⟨zk202, rfl⟩, List.forall_mem_cons.mpr ⟨gT_at ⟨zk203, rfl⟩, List.forall_mem_cons.mpr ⟨gT_at ⟨zk204, rfl⟩, List.forall_mem_cons.mpr ⟨gT_at ⟨zk205, rfl⟩, List.forall_mem_cons.mpr ⟨gT_at ⟨zk206, rfl⟩, List.forall_mem_cons.mpr ⟨gT_at ⟨zk207, rfl⟩, List.forall_mem_cons.mpr ⟨gT_at ⟨zk208, rfl⟩, List.forall_mem_cons.mpr ⟨gT_at ⟨zk209, rfl⟩, List.forall_mem_cons.mpr ⟨gT_at ⟨zk210, rfl⟩, List.forall_mem_cons.mpr ⟨gT_at ⟨zk211, rfl⟩, List.forall_mem_cons.mpr ⟨gT_at ⟨zk212, rfl⟩, List.forall_mem_cons.mpr ⟨gT_at ⟨zk213, rfl⟩, List.forall_mem_cons.mpr ⟨gT_at ⟨zk214, rfl⟩, List.forall_mem_cons.mpr ⟨gT_at ⟨zk215, rfl⟩, fun _ h => absurd h List.not_mem_nil⟩⟩⟩⟩⟩⟩⟩⟩⟩⟩⟩⟩⟩⟩⟩⟩⟩⟩⟩⟩⟩⟩⟩⟩
set_option maxRecDepth 20000 in
theorem zmi_eq : zmi = zmi0 ++ (zmi1 ++ (zmi2 ++ (zmi3 ++ (zmi4 ++ (zmi5 ++ (zmi6 ++ (zmi7 ++ (zmi8)))))))) := rfl
theorem zmi_code : ∀ q ∈ zmi, Cond.code q.1 q.2.1 q.2.2.1 q.2.2.2.1 ∈ gT := by
  intro q h
  rw [zmi_eq] at h
  rcases List.mem_append.mp h with h | h
  · exact zmi0_ok q h
  rcases List.mem_append.mp h with h | h
  · exact zmi1_ok q h
  rcases List.mem_append.mp h with h | h
  · exact zmi2_ok q h
  rcases List.mem_append.mp h with h | h
  · exact zmi3_ok q h
  rcases List.mem_append.mp h with h | h
  · exact zmi4_ok q h
  rcases List.mem_append.mp h with h | h
  · exact zmi5_ok q h
  rcases List.mem_append.mp h with h | h
  · exact zmi6_ok q h
  rcases List.mem_append.mp h with h | h
  · exact zmi7_ok q h
  exact zmi8_ok q h
def zYL : List (Nat × Nat × Nat × Nat) := [(0, 72, 470, 471), (1, 72, 537, 538), (2, 72, 505, 506), (3, 72, 517, 518), (4, 72, 525, 526), (5, 72, 533, 534), (6, 78, 556, 557), (7, 75, 614, 615), (8, 75, 679, 15), (9, 75, 767, 19), (10, 75, 771, 20), (11, 79, 560, 561), (12, 77, 552, 553), (13, 77, 934, 935), (14, 77, 971, 972), (15, 77, 979, 980), (16, 71, 457, 458), (17, 71, 483, 2), (18, 71, 487, 3), (19, 71, 475, 0), (20, 71, 498, 498), (21, 74, 584, 585), (22, 74, 588, 588), (23, 74, 595, 595), (24, 74, 610, 611), (25, 73, 667, 668), (26, 73, 690, 691), (27, 73, 651, 652), (28, 73, 919, 920), (29, 76, 846, 25), (30, 76, 881, 882), (31, 70, 564, 565), (32, 70, 987, 988), (33, 70, 573, 10), (34, 70, 734, 17), (35, 70, 453, 453), (36, 70, 607, 607), (37, 80, 1128, 1128), (38, 80, 1210, 1210), (39, 80, 1213, 1213), (40, 80, 1381, 1381), (41, 80, 1227, 1227), (42, 80, 1224, 1224), (43, 80, 1138, 29), (44, 80, 1146, 31), (45, 80, 1177, 38), (46, 80, 1180, 1181), (47, 80, 1201, 42), (48, 80, 1235, 46), (49, 80, 1280, 51), (50, 80, 1289, 53), (51, 80, 1334, 57), (52, 80, 1370, 60), (53, 80, 1401, 1401), (54, 80, 1473, 1474), (55, 80, 1477, 1478), (56, 80, 1481, 1482), (57, 84, 684, 684), (58, 83, 549, 549), (59, 78, 663, 664), (60, 78, 746, 747), (61, 75, 696, 697), (62, 75, 603, 604), (63, 79, 1004, 1005), (64, 79, 995, 996), (65, 79, 1009, 1010), (66, 71, 495, 5), (67, 71, 510, 6), (68, 74, 580, 581), (69, 74, 946, 947), (70, 74, 903, 904), (71, 73, 544, 545), (72, 76, 836, 23), (73, 76, 842, 24), (74, 76, 858, 26), (75, 76, 864, 27), (76, 76, 871, 872), (77, 76, 877, 878), (78, 70, 449, 450), (79, 70, 647, 648), (80, 70, 915, 916), (81, 70, 924, 925), (82, 70, 975, 976), (83, 70, 983, 984), (84, 70, 633, 12), (85, 70, 643, 13), (86, 70, 623, 11), (87, 70, 660, 14), (88, 70, 730, 16), (89, 80, 1123, 1124), (90, 80, 1158, 34), (91, 80, 1249, 47), (92, 80, 1258, 48), (93, 80, 1417, 65), (94, 80, 1197, 41), (95, 80, 1207, 1207), (96, 80, 1221, 44), (97, 80, 1231, 45), (98, 80, 1238, 1239), (99, 80, 1261, 1262), (100, 80, 1276, 50), (101, 80, 1271, 49), (102, 80, 1293, 54), (103, 80, 1341, 1342), (104, 80, 1398, 63), (105, 80, 1430, 66), (106, 80, 1437, 1438), (107, 80, 1441, 1442), (108, 80, 1485, 1486), (109, 80, 1489, 1490), (110, 77, 942, 943), (111, 77, 961, 28), (112, 71, 491, 4), (113, 71, 514, 7), (114, 71, 522, 8), (115, 71, 530, 9), (116, 74, 576, 577), (117, 74, 911, 912), (118, 74, 893, 894), (119, 76, 807, 808), (120, 76, 831, 22), (121, 76, 853, 854), (122, 70, 618, 619), (123, 70, 628, 629), (124, 70, 638, 639), (125, 70, 700, 701), (126, 70, 704, 705), (127, 70, 708, 709), (128, 70, 712, 713), (129, 70, 716, 717), (130, 70, 720, 721), (131, 70, 742, 743), (132, 70, 867, 868), (133, 70, 899, 900), (134, 70, 930, 931), (135, 70, 967, 968), (136, 70, 991, 992), (137, 70, 1000, 1001), (138, 70, 795, 21), (139, 80, 1154, 33), (140, 80, 1204, 1204), (141, 80, 1253, 1254), (142, 80, 1296, 1297), (143, 80, 1300, 1301), (144, 80, 1309, 55), (145, 80, 1321, 1322), (146, 80, 1412, 1413), (147, 80, 1424, 1425), (148, 80, 1447, 1448), (149, 80, 1468, 1469), (150, 75, 598, 599), (151, 75, 763, 18), (152, 77, 954, 955), (153, 71, 479, 1), (154, 74, 889, 890), (155, 76, 798, 799), (156, 76, 816, 817), (157, 76, 826, 827), (158, 70, 750, 751), (159, 70, 849, 850), (160, 70, 907, 908), (161, 70, 938, 939), (162, 80, 1150, 32), (163, 80, 1165, 35), (164, 80, 1169, 36), (165, 80, 1173, 37), (166, 80, 1193, 40), (167, 80, 1304, 1305), (168, 80, 1312, 1313), (169, 80, 1317, 1318), (170, 80, 1409, 64), (171, 80, 1456, 67), (172, 75, 672, 673), (173, 75, 758, 759), (174, 75, 778, 779), (175, 75, 786, 787), (176, 71, 466, 467), (177, 70, 568, 569), (178, 70, 790, 791), (179, 70, 812, 813), (180, 70, 822, 823), (181, 70, 885, 886), (182, 70, 950, 951), (183, 80, 1142, 30), (184, 80, 1189, 39), (185, 80, 1244, 1245), (186, 80, 1404, 1405), (187, 80, 1420, 1421), (188, 80, 1433, 1434), (189, 80, 1451, 1452), (190, 80, 1465, 68), (191, 70, 462, 463), (192, 70, 655, 656), (193, 70, 725, 726), (194, 70, 754, 755), (195, 70, 774, 775), (196, 70, 782, 783), (197, 80, 1133, 1134), (198, 80, 1217, 43), (199, 80, 1284, 52), (200, 80, 1459, 1460), (201, 80, 1184, 1185), (202, 80, 1266, 1267), (203, 80, 1330, 56), (204, 80, 1350, 58), (205, 80, 1366, 59), (206, 80, 1378, 61), (207, 80, 1394, 62), (208, 80, 1325, 1326), (209, 80, 1345, 1346), (210, 80, 1353, 1354), (211, 80, 1357, 1358), (212, 80, 1361, 1362), (213, 80, 1373, 1374), (214, 80, 1384, 1385), (215, 80, 1389, 1390)]
def zYw (q : Nat × Nat × Nat × Nat) : Prop := (lw_tbl[q.2.1]? = some (.initialized (znm q.1).cls) ∧ goodWord (.initialized (znm q.1).cls) = true) ∧
  ((zrc q.1 = 99 ∧ lw_tbl[q.2.2.1]? = some (.static (znm q.1)) ∧ goodWord (.static (znm q.1)) = true) ∨ (zrc q.1 ≠ 99 ∧ (lw_tbl[q.2.2.1]? = some (.instanceMethod (znm q.1)) ∧ goodWord (.instanceMethod (znm q.1)) = true) ∧ (lw_tbl[q.2.2.2]? = some (.selects (zcs (zrc q.1)).1 (znm q.1) (znm q.1)) ∧ goodWord (.selects (zcs (zrc q.1)).1 (znm q.1) (znm q.1)) = true))) ∧
  ((znm q.1).cls ≠ "java/lang/invoke/MethodHandle" ∧ (znm q.1).cls ≠ "java/lang/invoke/VarHandle" ∧ (parseMethodDescriptor (znm q.1).desc).map (fun d => d.parameters.length) = some (znp q.1)) ∧ plainName (znm q.1).cls = true ∧ (znm q.1).cls = zcn.getD (zow q.1) "" ∧ zmx q.1 ≤ 8
theorem zYL_ok : ∀ q ∈ zYL, zYw q := by unfold zYw; decide +kernel
theorem zYL_all : zYL.map (fun q => q.1) = List.range zmi.length := by decide +kernel
theorem zmi_len : zmi.length = 216 := by decide +kernel
theorem zma_max1 : Cond.static Lib.Math.max.name ∈ gT := gT_at (i := 592) (by decide +kernel)
theorem zma_max2 : Cond.code Lib.Math.max.name Lib.Math.max.code 2 (some .int) ∈ gT := gT_at (i := 593) (by decide +kernel)
theorem zma_min1 : Cond.static Lib.Math.min.name ∈ gT := gT_at (i := 502) (by decide +kernel)
theorem zma_min2 : Cond.code Lib.Math.min.name Lib.Math.min.code 2 (some .int) ∈ gT := gT_at (i := 503) (by decide +kernel)
theorem zma_abs1 : Cond.static Lib.Math.abs.name ∈ gT := gT_at (i := 804) (by decide +kernel)
theorem zma_abs2 : Cond.code Lib.Math.abs.name Lib.Math.abs.code 1 (some .int) ∈ gT := gT_at (i := 805) (by decide +kernel)
theorem zma_ini : Cond.initialized "java/lang/Math" ∈ gT := gT_at (i := 81) (by decide +kernel)
def zHL : List ((Nat × Nat) × (Nat × Nat)) := [((5, 102), (9002, 501)), ((6, 48), (9002, 590)), ((6, 54), (9001, 591)), ((1, 29), (9002, 670)), ((2, 115), (9002, 682)), ((7, 71), (9002, 693)), ((2, 96), (9001, 694)), ((9, 334), (9002, 739)), ((9, 339), (9001, 740)), ((8, 62), (9003, 803)), ((8, 120), (9002, 861)), ((8, 137), (9001, 875)), ((6, 69), (9003, 896)), ((7, 77), (9001, 922)), ((4, 85), (9001, 965))]
def zHn (a : Nat) : MethodName := if a = 9001 then Lib.Math.max.name else if a = 9002 then Lib.Math.min.name else Lib.Math.abs.name
theorem zHL_ok : ∀ q ∈ zHL, lw_tbl[q.2.2]? = some (.methodLink (zcn.getD q.1.1 "") q.1.2 (zHn q.2.1)) ∧ goodWord (.methodLink (zcn.getD q.1.1 "") q.1.2 (zHn q.2.1)) = true := by decide +kernel
def zFi (c : Nat) : Bool := ((zcs c).2.2 == (zftL.getD c []).length) && (List.range (zcs c).2.2).all (fun k => decide (parseFieldDescriptor ((zcs c).2.1 k).2.2.1 = some (match zft c k with | 0 => .int | 3 => .boolean | _ => (match ((zcs c).2.1 k).2.2.1 with | "[I" => .array .int | d => (parseFieldDescriptor d).getD .int))))
theorem zFi_ok : (List.range 11).all zFi = true := by decide +kernel
end
section
/-! every instruction of every method is checked: its bytes, its links -/
def zhasF (o ix a b : Nat) : Bool := zFL.any (fun q => decide (q.1 = ((o, ix), (a, b))))
def zhasM (o ix a b : Nat) : Bool := zML.any (fun q => decide (q.1 = ((o, ix), (a, b))))
def zhasA (o ix : Nat) : Bool := zAL.any (fun q => decide (q.1 = (o, ix)))
def zhasH (o ix a : Nat) : Bool := zHL.any (fun q => decide (q.1 = (o, ix)) && decide (q.2.1 = a))
def zhasC (o ix : Nat) (x : Int32) : Bool := zCL.any (fun q => decide (q.1 = ((o, ix), x)))
def zhasD (o ix : Nat) (x : Int64) : Bool := zDL.any (fun q => decide (q.1 = ((o, ix), x)))
def zokB (y : Nat) (e : zE) : Bool := decide (decode (zby y) e.1 = .ok (e.2.1, e.2.2.1)) && (match e.2.1 with
  | .iconst n => decide (e.2.2.1 = 1) && decide (e.2.2.2.2.2 = .int (Int32.ofInt n))
  | .bipush n => decide (e.2.2.1 = 2) && decide (e.2.2.2.2.2 = .int (Int8.ofInt n).toInt32)
  | .sipush n => decide (e.2.2.1 = 3) && decide (e.2.2.2.2.2 = .int (Int16.ofInt n).toInt32)
  | .ldc ix => decide (e.2.2.1 = 2) && (match e.2.2.2.2.2 with | .int x => zhasC (zow y) ix x | _ => false)
  | .ldc_w ix => decide (e.2.2.1 = 3) && (match e.2.2.2.2.2 with | .int x => zhasC (zow y) ix x | _ => false)
  | .lconst n => decide (e.2.2.1 = 1) && decide (e.2.2.2.2.2 = .long (Int64.ofNat n.val))
  | .ldc2_w ix => decide (e.2.2.1 = 3) && (match e.2.2.2.2.2 with | .long x => zhasD (zow y) ix x | _ => false)
  | .iload_n i => decide (e.2.2.1 = 1) && decide (i.val = e.2.2.2.1)
  | .iload i => decide (e.2.2.1 = 2) && decide (i = e.2.2.2.1)
  | .aload_n i => decide (e.2.2.1 = 1) && decide (i.val = e.2.2.2.1)
  | .lload_n i => decide (e.2.2.1 = 1) && decide (i.val = e.2.2.2.1)
  | .lload i => decide (e.2.2.1 = 2) && decide (i = e.2.2.2.1)
  | .istore_n i => decide (e.2.2.1 = 1) && decide (i.val = e.2.2.2.1)
  | .istore i => decide (e.2.2.1 = 2) && decide (i = e.2.2.2.1)
  | .astore_n i => decide (e.2.2.1 = 1) && decide (i.val = e.2.2.2.1)
  | .lstore_n i => decide (e.2.2.1 = 1) && decide (i.val = e.2.2.2.1)
  | .iinc i n => decide (e.2.2.1 = 3) && (decide (i = e.2.2.2.1) && decide (e.2.2.2.2.2 = .int (Int32.ofInt n)))
  | .goto o => decide (e.2.2.1 = 3) && decide ((e.1 : Int) + o = (e.2.2.2.1 : Int))
  | .if_icmp _ o => decide (e.2.2.1 = 3) && decide ((e.1 : Int) + o = (e.2.2.2.1 : Int))
  | .ifCond _ o => decide (e.2.2.1 = 3) && decide ((e.1 : Int) + o = (e.2.2.2.1 : Int))
  | .tableswitch d lo hi os => decide (0 ≤ (e.1 : Int) + d) && (os.toList.all (fun o => decide (0 ≤ (e.1 : Int) + o)) && (decide ((os.toList.length : Int) = hi - lo + 1) && (decide (-2147483648 ≤ lo) && decide (hi < 2147483648))))
  | .lookupswitch d ps => decide (0 ≤ (e.1 : Int) + d) && (ps.toList.all (fun o => decide (0 ≤ (e.1 : Int) + o.2) && (decide (-2147483648 ≤ o.1) && decide (o.1 < 2147483648))) && (ps.toList.zip (ps.toList.drop 1)).all (fun (a, next) => a.1 < next.1))
  | .getfield ix => decide (e.2.2.1 = 3) && zhasF (zow y) ix e.2.2.2.1 e.2.2.2.2.1
  | .putfield ix => decide (e.2.2.1 = 3) && (zhasF (zow y) ix e.2.2.2.1 e.2.2.2.2.1 && decide (((zcs e.2.2.2.1).2.1 e.2.2.2.2.1).2.2.2 = false))
  | .invokestatic ix => decide (e.2.2.1 = 3) && (if e.2.2.2.1 = 9999 then zhasA (zow y) ix else if e.2.2.2.1 = 9001 ∨ e.2.2.2.1 = 9002 ∨ e.2.2.2.1 = 9003 then zhasH (zow y) ix e.2.2.2.1 else ((zhasM (zow y) ix e.2.2.2.1 0 || zhasM (zow y) ix e.2.2.2.1 1) && (decide (e.2.2.2.2.1 = znp e.2.2.2.1) && (decide (zdp e.2.2.2.1 < zdp y) && decide (zrc e.2.2.2.1 = 99)))))
  | .invokevirtual ix => decide (e.2.2.1 = 3) && (zhasM (zow y) ix e.2.2.2.1 2 && (decide (e.2.2.2.2.1 = znp e.2.2.2.1) && (decide (zdp e.2.2.2.1 < zdp y) && (decide (e.2.2.2.2.2 = .retAddr (zrc e.2.2.2.1)) && decide (zrc e.2.2.2.1 ≠ 99)))))
  | .ireturn => decide (e.2.2.1 = 1) && (decide (zret y = some .int ∧ e.2.2.2.1 = 0) || decide (zret y = some .boolean ∧ e.2.2.2.1 = 1))
  | .return_ => decide (e.2.2.1 = 1) && decide (zret y = none)
  | _ => decide (e.2.2.1 = 1))
end
section
theorem zo0 : zc0.all (zokB 0) = true := by decide +kernel
theorem zo1 : zc1.all (zokB 1) = true := by decide +kernel
theorem zo2 : zc2.all (zokB 2) = true := by decide +kernel
theorem zo3 : zc3.all (zokB 3) = true := by decide +kernel
theorem zo4 : zc4.all (zokB 4) = true := by decide +kernel
theorem zo5 : zc5.all (zokB 5) = true := by decide +kernel
theorem zo6 : zc6.all (zokB 6) = true := by decide +kernel
theorem zo7 : zc7.all (zokB 7) = true := by decide +kernel
theorem zo8 : zc8.all (zokB 8) = true := by decide +kernel
theorem zo9 : zc9.all (zokB 9) = true := by decide +kernel
theorem zo10 : zc10.all (zokB 10) = true := by decide +kernel
theorem zo11 : zc11.all (zokB 11) = true := by decide +kernel
theorem zo12 : zc12.all (zokB 12) = true := by decide +kernel
theorem zo13 : zc13.all (zokB 13) = true := by decide +kernel
theorem zo14 : zc14.all (zokB 14) = true := by decide +kernel
theorem zo15 : zc15.all (zokB 15) = true := by decide +kernel
theorem zo16 : zc16.all (zokB 16) = true := by decide +kernel
theorem zo17 : zc17.all (zokB 17) = true := by decide +kernel
theorem zo18 : zc18.all (zokB 18) = true := by decide +kernel
theorem zo19 : zc19.all (zokB 19) = true := by decide +kernel
theorem zo20 : zc20.all (zokB 20) = true := by decide +kernel
theorem zo21 : zc21.all (zokB 21) = true := by decide +kernel
theorem zo22 : zc22.all (zokB 22) = true := by decide +kernel
theorem zo23 : zc23.all (zokB 23) = true := by decide +kernel
theorem zo24 : zc24.all (zokB 24) = true := by decide +kernel
theorem zo25 : zc25.all (zokB 25) = true := by decide +kernel
theorem zo26 : zc26.all (zokB 26) = true := by decide +kernel
theorem zo27 : zc27.all (zokB 27) = true := by decide +kernel
theorem zo28 : zc28.all (zokB 28) = true := by decide +kernel
theorem zo29 : zc29.all (zokB 29) = true := by decide +kernel
theorem zo30 : zc30.all (zokB 30) = true := by decide +kernel
theorem zo31 : zc31.all (zokB 31) = true := by decide +kernel
theorem zo32 : zc32.all (zokB 32) = true := by decide +kernel
theorem zo33 : zc33.all (zokB 33) = true := by decide +kernel
theorem zo34 : zc34.all (zokB 34) = true := by decide +kernel
theorem zo35 : zc35.all (zokB 35) = true := by decide +kernel
theorem zo36 : zc36.all (zokB 36) = true := by decide +kernel
theorem zo37 : zc37.all (zokB 37) = true := by decide +kernel
theorem zo38 : zc38.all (zokB 38) = true := by decide +kernel
theorem zo39 : zc39.all (zokB 39) = true := by decide +kernel
theorem zo40 : zc40.all (zokB 40) = true := by decide +kernel
theorem zo41 : zc41.all (zokB 41) = true := by decide +kernel
theorem zo42 : zc42.all (zokB 42) = true := by decide +kernel
theorem zo43 : zc43.all (zokB 43) = true := by decide +kernel
theorem zo44 : zc44.all (zokB 44) = true := by decide +kernel
theorem zo45 : zc45.all (zokB 45) = true := by decide +kernel
theorem zo46 : zc46.all (zokB 46) = true := by decide +kernel
theorem zo47 : zc47.all (zokB 47) = true := by decide +kernel
theorem zo48 : zc48.all (zokB 48) = true := by decide +kernel
theorem zo49 : zc49.all (zokB 49) = true := by decide +kernel
theorem zo50 : zc50.all (zokB 50) = true := by decide +kernel
theorem zo51 : zc51.all (zokB 51) = true := by decide +kernel
theorem zo52 : zc52.all (zokB 52) = true := by decide +kernel
theorem zo53 : zc53.all (zokB 53) = true := by decide +kernel
theorem zo54 : zc54.all (zokB 54) = true := by decide +kernel
theorem zo55 : zc55.all (zokB 55) = true := by decide +kernel
theorem zo56 : zc56.all (zokB 56) = true := by decide +kernel
theorem zo57 : zc57.all (zokB 57) = true := by decide +kernel
theorem zo58 : zc58.all (zokB 58) = true := by decide +kernel
theorem zo59 : zc59.all (zokB 59) = true := by decide +kernel
theorem zo60 : zc60.all (zokB 60) = true := by decide +kernel
theorem zo61 : zc61.all (zokB 61) = true := by decide +kernel
theorem zo62 : zc62.all (zokB 62) = true := by decide +kernel
theorem zo63 : zc63.all (zokB 63) = true := by decide +kernel
theorem zo64 : zc64.all (zokB 64) = true := by decide +kernel
theorem zo65 : zc65.all (zokB 65) = true := by decide +kernel
theorem zo66 : zc66.all (zokB 66) = true := by decide +kernel
theorem zo67 : zc67.all (zokB 67) = true := by decide +kernel
theorem zo68 : zc68.all (zokB 68) = true := by decide +kernel
theorem zo69 : zc69.all (zokB 69) = true := by decide +kernel
theorem zo70 : zc70.all (zokB 70) = true := by decide +kernel
theorem zo71 : zc71.all (zokB 71) = true := by decide +kernel
theorem zo72 : zc72.all (zokB 72) = true := by decide +kernel
theorem zo73 : zc73.all (zokB 73) = true := by decide +kernel
theorem zo74 : zc74.all (zokB 74) = true := by decide +kernel
theorem zo75 : zc75.all (zokB 75) = true := by decide +kernel
theorem zo76 : zc76.all (zokB 76) = true := by decide +kernel
theorem zo77 : zc77.all (zokB 77) = true := by decide +kernel
theorem zo78 : zc78.all (zokB 78) = true := by decide +kernel
theorem zo79 : zc79.all (zokB 79) = true := by decide +kernel
theorem zo80 : zc80.all (zokB 80) = true := by decide +kernel
theorem zo81 : zc81.all (zokB 81) = true := by decide +kernel
theorem zo82 : zc82.all (zokB 82) = true := by decide +kernel
theorem zo83 : zc83.all (zokB 83) = true := by decide +kernel
theorem zo84 : zc84.all (zokB 84) = true := by decide +kernel
theorem zo85 : zc85.all (zokB 85) = true := by decide +kernel
theorem zo86 : zc86.all (zokB 86) = true := by decide +kernel
theorem zo87 : zc87.all (zokB 87) = true := by decide +kernel
theorem zo88 : zc88.all (zokB 88) = true := by decide +kernel
theorem zo89 : zc89.all (zokB 89) = true := by decide +kernel
theorem zo90 : zc90.all (zokB 90) = true := by decide +kernel
theorem zo91 : zc91.all (zokB 91) = true := by decide +kernel
theorem zo92 : zc92.all (zokB 92) = true := by decide +kernel
theorem zo93 : zc93.all (zokB 93) = true := by decide +kernel
theorem zo94 : zc94.all (zokB 94) = true := by decide +kernel
theorem zo95 : zc95.all (zokB 95) = true := by decide +kernel
theorem zo96 : zc96.all (zokB 96) = true := by decide +kernel
theorem zo97 : zc97.all (zokB 97) = true := by decide +kernel
theorem zo98 : zc98.all (zokB 98) = true := by decide +kernel
theorem zo99 : zc99.all (zokB 99) = true := by decide +kernel
theorem zo100 : zc100.all (zokB 100) = true := by decide +kernel
theorem zo101 : zc101.all (zokB 101) = true := by decide +kernel
theorem zo102 : zc102.all (zokB 102) = true := by decide +kernel
theorem zo103 : zc103.all (zokB 103) = true := by decide +kernel
theorem zo104 : zc104.all (zokB 104) = true := by decide +kernel
theorem zo105 : zc105.all (zokB 105) = true := by decide +kernel
theorem zo106 : zc106.all (zokB 106) = true := by decide +kernel
theorem zo107 : zc107.all (zokB 107) = true := by decide +kernel
theorem zo108 : zc108.all (zokB 108) = true := by decide +kernel
theorem zo109 : zc109.all (zokB 109) = true := by decide +kernel
theorem zo110 : zc110.all (zokB 110) = true := by decide +kernel
theorem zo111 : zc111.all (zokB 111) = true := by decide +kernel
theorem zo112 : zc112.all (zokB 112) = true := by decide +kernel
theorem zo113 : zc113.all (zokB 113) = true := by decide +kernel
theorem zo114 : zc114.all (zokB 114) = true := by decide +kernel
theorem zo115 : zc115.all (zokB 115) = true := by decide +kernel
theorem zo116 : zc116.all (zokB 116) = true := by decide +kernel
theorem zo117 : zc117.all (zokB 117) = true := by decide +kernel
theorem zo118 : zc118.all (zokB 118) = true := by decide +kernel
theorem zo119 : zc119.all (zokB 119) = true := by decide +kernel
theorem zo120 : zc120.all (zokB 120) = true := by decide +kernel
theorem zo121 : zc121.all (zokB 121) = true := by decide +kernel
theorem zo122 : zc122.all (zokB 122) = true := by decide +kernel
theorem zo123 : zc123.all (zokB 123) = true := by decide +kernel
theorem zo124 : zc124.all (zokB 124) = true := by decide +kernel
theorem zo125 : zc125.all (zokB 125) = true := by decide +kernel
theorem zo126 : zc126.all (zokB 126) = true := by decide +kernel
theorem zo127 : zc127.all (zokB 127) = true := by decide +kernel
theorem zo128 : zc128.all (zokB 128) = true := by decide +kernel
theorem zo129 : zc129.all (zokB 129) = true := by decide +kernel
theorem zo130 : zc130.all (zokB 130) = true := by decide +kernel
theorem zo131 : zc131.all (zokB 131) = true := by decide +kernel
theorem zo132 : zc132.all (zokB 132) = true := by decide +kernel
theorem zo133 : zc133.all (zokB 133) = true := by decide +kernel
theorem zo134 : zc134.all (zokB 134) = true := by decide +kernel
theorem zo135 : zc135.all (zokB 135) = true := by decide +kernel
theorem zo136 : zc136.all (zokB 136) = true := by decide +kernel
theorem zo137 : zc137.all (zokB 137) = true := by decide +kernel
theorem zo138 : zc138.all (zokB 138) = true := by decide +kernel
theorem zo139 : zc139.all (zokB 139) = true := by decide +kernel
theorem zo140 : zc140.all (zokB 140) = true := by decide +kernel
theorem zo141 : zc141.all (zokB 141) = true := by decide +kernel
theorem zo142 : zc142.all (zokB 142) = true := by decide +kernel
theorem zo143 : zc143.all (zokB 143) = true := by decide +kernel
theorem zo144 : zc144.all (zokB 144) = true := by decide +kernel
theorem zo145 : zc145.all (zokB 145) = true := by decide +kernel
theorem zo146 : zc146.all (zokB 146) = true := by decide +kernel
theorem zo147 : zc147.all (zokB 147) = true := by decide +kernel
theorem zo148 : zc148.all (zokB 148) = true := by decide +kernel
theorem zo149 : zc149.all (zokB 149) = true := by decide +kernel
theorem zo150 : zc150.all (zokB 150) = true := by decide +kernel
theorem zo151 : zc151.all (zokB 151) = true := by decide +kernel
theorem zo152 : zc152.all (zokB 152) = true := by decide +kernel
theorem zo153 : zc153.all (zokB 153) = true := by decide +kernel
theorem zo154 : zc154.all (zokB 154) = true := by decide +kernel
theorem zo155 : zc155.all (zokB 155) = true := by decide +kernel
theorem zo156 : zc156.all (zokB 156) = true := by decide +kernel
theorem zo157 : zc157.all (zokB 157) = true := by decide +kernel
theorem zo158 : zc158.all (zokB 158) = true := by decide +kernel
theorem zo159 : zc159.all (zokB 159) = true := by decide +kernel
theorem zo160 : zc160.all (zokB 160) = true := by decide +kernel
theorem zo161 : zc161.all (zokB 161) = true := by decide +kernel
theorem zo162 : zc162.all (zokB 162) = true := by decide +kernel
theorem zo163 : zc163.all (zokB 163) = true := by decide +kernel
theorem zo164 : zc164.all (zokB 164) = true := by decide +kernel
theorem zo165 : zc165.all (zokB 165) = true := by decide +kernel
theorem zo166 : zc166.all (zokB 166) = true := by decide +kernel
theorem zo167 : zc167.all (zokB 167) = true := by decide +kernel
theorem zo168 : zc168.all (zokB 168) = true := by decide +kernel
theorem zo169 : zc169.all (zokB 169) = true := by decide +kernel
theorem zo170 : zc170.all (zokB 170) = true := by decide +kernel
theorem zo171 : zc171.all (zokB 171) = true := by decide +kernel
theorem zo172 : zc172.all (zokB 172) = true := by decide +kernel
theorem zo173 : zc173.all (zokB 173) = true := by decide +kernel
theorem zo174 : zc174.all (zokB 174) = true := by decide +kernel
theorem zo175 : zc175.all (zokB 175) = true := by decide +kernel
theorem zo176 : zc176.all (zokB 176) = true := by decide +kernel
theorem zo177 : zc177.all (zokB 177) = true := by decide +kernel
theorem zo178 : zc178.all (zokB 178) = true := by decide +kernel
theorem zo179 : zc179.all (zokB 179) = true := by decide +kernel
theorem zo180 : zc180.all (zokB 180) = true := by decide +kernel
theorem zo181 : zc181.all (zokB 181) = true := by decide +kernel
theorem zo182 : zc182.all (zokB 182) = true := by decide +kernel
theorem zo183 : zc183.all (zokB 183) = true := by decide +kernel
theorem zo184 : zc184.all (zokB 184) = true := by decide +kernel
theorem zo185 : zc185.all (zokB 185) = true := by decide +kernel
theorem zo186 : zc186.all (zokB 186) = true := by decide +kernel
theorem zo187 : zc187.all (zokB 187) = true := by decide +kernel
theorem zo188 : zc188.all (zokB 188) = true := by decide +kernel
theorem zo189 : zc189.all (zokB 189) = true := by decide +kernel
theorem zo190 : zc190.all (zokB 190) = true := by decide +kernel
theorem zo191 : zc191.all (zokB 191) = true := by decide +kernel
theorem zo192 : zc192.all (zokB 192) = true := by decide +kernel
theorem zo193 : zc193.all (zokB 193) = true := by decide +kernel
theorem zo194 : zc194.all (zokB 194) = true := by decide +kernel
theorem zo195 : zc195.all (zokB 195) = true := by decide +kernel
theorem zo196 : zc196.all (zokB 196) = true := by decide +kernel
theorem zo197 : zc197.all (zokB 197) = true := by decide +kernel
theorem zo198 : zc198.all (zokB 198) = true := by decide +kernel
theorem zo199 : zc199.all (zokB 199) = true := by decide +kernel
theorem zo200 : zc200.all (zokB 200) = true := by decide +kernel
theorem zo201 : zc201.all (zokB 201) = true := by decide +kernel
theorem zo202 : zc202.all (zokB 202) = true := by decide +kernel
theorem zo203 : zc203.all (zokB 203) = true := by decide +kernel
theorem zo204 : zc204.all (zokB 204) = true := by decide +kernel
theorem zo205 : zc205.all (zokB 205) = true := by decide +kernel
theorem zo206 : zc206.all (zokB 206) = true := by decide +kernel
theorem zo207 : zc207.all (zokB 207) = true := by decide +kernel
theorem zo208 : zc208.all (zokB 208) = true := by decide +kernel
theorem zo209 : zc209.all (zokB 209) = true := by decide +kernel
theorem zo210 : zc210.all (zokB 210) = true := by decide +kernel
theorem zo211 : zc211.all (zokB 211) = true := by decide +kernel
theorem zo212 : zc212.all (zokB 212) = true := by decide +kernel
theorem zo213 : zc213.all (zokB 213) = true := by decide +kernel
theorem zo214 : zc214.all (zokB 214) = true := by decide +kernel
theorem zo215 : zc215.all (zokB 215) = true := by decide +kernel
end
section
def zcz0 : List (List zE × Nat) := [(zc0, 0), (zc1, 1), (zc2, 2), (zc3, 3), (zc4, 4), (zc5, 5), (zc6, 6), (zc7, 7), (zc8, 8), (zc9, 9), (zc10, 10), (zc11, 11), (zc12, 12), (zc13, 13), (zc14, 14), (zc15, 15), (zc16, 16), (zc17, 17), (zc18, 18), (zc19, 19), (zc20, 20), (zc21, 21), (zc22, 22), (zc23, 23)]
theorem zcz0_ok : ∀ q ∈ zcz0, q.1.all (zokB q.2) = true := List.forall_mem_cons.mpr ⟨zo0, List.forall_mem_cons.mpr ⟨zo1, List.forall_mem_cons.mpr ⟨zo2, List.forall_mem_cons.mpr ⟨zo3, List.forall_mem_cons.mpr ⟨zo4, List.forall_mem_cons.mpr ⟨zo5, List.forall_mem_cons.mpr ⟨zo6, List.forall_mem_cons.mpr ⟨zo7, List.forall_mem_cons.mpr ⟨zo8, List.forall_mem_cons.mpr ⟨zo9, List.forall_mem_cons.mpr ⟨zo10, List.forall_mem_cons.mpr ⟨zo11, List.forall_mem_cons.mpr ⟨zo12, List.forall_mem_cons.mpr ⟨zo13, List.forall_mem_cons.mpr ⟨zo14, List.forall_mem_cons.mpr ⟨zo15, List.forall_mem_cons.mpr ⟨zo16, List.forall_mem_cons.mpr ⟨zo17, List.forall_mem_cons.mpr ⟨zo18, List.forall_mem_cons.mpr ⟨zo19, List.forall_mem_cons.mpr ⟨zo20, List.forall_mem_cons.mpr ⟨zo21, List.forall_mem_cons.mpr ⟨zo22, List.forall_mem_cons.mpr ⟨zo23, fun _ h => absurd h List.not_mem_nil⟩⟩⟩⟩⟩⟩⟩⟩⟩⟩⟩⟩⟩⟩⟩⟩⟩⟩⟩⟩⟩⟩⟩⟩
def zcz1 : List (List zE × Nat) := [(zc24, 24), (zc25, 25), (zc26, 26), (zc27, 27), (zc28, 28), (zc29, 29), (zc30, 30), (zc31, 31), (zc32, 32), (zc33, 33), (zc34, 34), (zc35, 35), (zc36, 36), (zc37, 37), (zc38, 38), (zc39, 39), (zc40, 40), (zc41, 41), (zc42, 42), (zc43, 43), (zc44, 44), (zc45, 45), (zc46, 46), (zc47, 47)]
theorem zcz1_ok : ∀ q ∈ zcz1, q.1.all (zokB q.2) = true := List.forall_mem_cons.mpr ⟨zo24, List.forall_mem_cons.mpr ⟨zo25, List.forall_mem_cons.mpr ⟨zo26, List.forall_mem_cons.mpr ⟨zo27, List.forall_mem_cons.mpr ⟨zo28, List.forall_mem_cons.mpr ⟨zo29, List.forall_mem_cons.mpr ⟨zo30, List.forall_mem_cons.mpr ⟨zo31, List.forall_mem_cons.mpr ⟨zo32, List.forall_mem_cons.mpr ⟨zo33, List.forall_mem_cons.mpr ⟨zo34, List.forall_mem_cons.mpr ⟨zo35, List.forall_mem_cons.mpr ⟨zo36, List.forall_mem_cons.mpr ⟨zo37, List.forall_mem_cons.mpr ⟨zo38, List.forall_mem_cons.mpr ⟨zo39, List.forall_mem_cons.mpr ⟨zo40, List.forall_mem_cons.mpr ⟨zo41, List.forall_mem_cons.mpr ⟨zo42, List.forall_mem_cons.mpr ⟨zo43, List.forall_mem_cons.mpr ⟨zo44, List.forall_mem_cons.mpr ⟨zo45, List.forall_mem_cons.mpr ⟨zo46, List.forall_mem_cons.mpr ⟨zo47, fun _ h => absurd h List.not_mem_nil⟩⟩⟩⟩⟩⟩⟩⟩⟩⟩⟩⟩⟩⟩⟩⟩⟩⟩⟩⟩⟩⟩⟩⟩
def zcz2 : List (List zE × Nat) := [(zc48, 48), (zc49, 49), (zc50, 50), (zc51, 51), (zc52, 52), (zc53, 53), (zc54, 54), (zc55, 55), (zc56, 56), (zc57, 57), (zc58, 58), (zc59, 59), (zc60, 60), (zc61, 61), (zc62, 62), (zc63, 63), (zc64, 64), (zc65, 65), (zc66, 66), (zc67, 67), (zc68, 68), (zc69, 69), (zc70, 70), (zc71, 71)]
theorem zcz2_ok : ∀ q ∈ zcz2, q.1.all (zokB q.2) = true := List.forall_mem_cons.mpr ⟨zo48, List.forall_mem_cons.mpr ⟨zo49, List.forall_mem_cons.mpr ⟨zo50, List.forall_mem_cons.mpr ⟨zo51, List.forall_mem_cons.mpr ⟨zo52, List.forall_mem_cons.mpr ⟨zo53, List.forall_mem_cons.mpr ⟨zo54, List.forall_mem_cons.mpr ⟨zo55, List.forall_mem_cons.mpr ⟨zo56, List.forall_mem_cons.mpr ⟨zo57, List.forall_mem_cons.mpr ⟨zo58, List.forall_mem_cons.mpr ⟨zo59, List.forall_mem_cons.mpr ⟨zo60, List.forall_mem_cons.mpr ⟨zo61, List.forall_mem_cons.mpr ⟨zo62, List.forall_mem_cons.mpr ⟨zo63, List.forall_mem_cons.mpr ⟨zo64, List.forall_mem_cons.mpr ⟨zo65, List.forall_mem_cons.mpr ⟨zo66, List.forall_mem_cons.mpr ⟨zo67, List.forall_mem_cons.mpr ⟨zo68, List.forall_mem_cons.mpr ⟨zo69, List.forall_mem_cons.mpr ⟨zo70, List.forall_mem_cons.mpr ⟨zo71, fun _ h => absurd h List.not_mem_nil⟩⟩⟩⟩⟩⟩⟩⟩⟩⟩⟩⟩⟩⟩⟩⟩⟩⟩⟩⟩⟩⟩⟩⟩
def zcz3 : List (List zE × Nat) := [(zc72, 72), (zc73, 73), (zc74, 74), (zc75, 75), (zc76, 76), (zc77, 77), (zc78, 78), (zc79, 79), (zc80, 80), (zc81, 81), (zc82, 82), (zc83, 83), (zc84, 84), (zc85, 85), (zc86, 86), (zc87, 87), (zc88, 88), (zc89, 89), (zc90, 90), (zc91, 91), (zc92, 92), (zc93, 93), (zc94, 94), (zc95, 95)]
theorem zcz3_ok : ∀ q ∈ zcz3, q.1.all (zokB q.2) = true := List.forall_mem_cons.mpr ⟨zo72, List.forall_mem_cons.mpr ⟨zo73, List.forall_mem_cons.mpr ⟨zo74, List.forall_mem_cons.mpr ⟨zo75, List.forall_mem_cons.mpr ⟨zo76, List.forall_mem_cons.mpr ⟨zo77, List.forall_mem_cons.mpr ⟨zo78, List.forall_mem_cons.mpr ⟨zo79, List.forall_mem_cons.mpr ⟨zo80, List.forall_mem_cons.mpr ⟨zo81, List.forall_mem_cons.mpr ⟨zo82, List.forall_mem_cons.mpr ⟨zo83, List.forall_mem_cons.mpr ⟨zo84, List.forall_mem_cons.mpr ⟨zo85, List.forall_mem_cons.mpr ⟨zo86, List.forall_mem_cons.mpr ⟨zo87, List.forall_mem_cons.mpr ⟨zo88, List.forall_mem_cons.mpr ⟨zo89, List.forall_mem_cons.mpr ⟨zo90, List.forall_mem_cons.mpr ⟨zo91, List.forall_mem_cons.mpr ⟨zo92, List.forall_mem_cons.mpr ⟨zo93, List.forall_mem_cons.mpr ⟨zo94, List.forall_mem_cons.mpr ⟨zo95, fun _ h => absurd h List.not_mem_nil⟩⟩⟩⟩⟩⟩⟩⟩⟩⟩⟩⟩⟩⟩⟩⟩⟩⟩⟩⟩⟩⟩⟩⟩
def zcz4 : List (List zE × Nat) := [(zc96, 96), (zc97, 97), (zc98, 98), (zc99, 99), (zc100, 100), (zc101, 101), (zc102, 102), (zc103, 103), (zc104, 104), (zc105, 105), (zc106, 106), (zc107, 107), (zc108, 108), (zc109, 109), (zc110, 110), (zc111, 111), (zc112, 112), (zc113, 113), (zc114, 114), (zc115, 115), (zc116, 116), (zc117, 117), (zc118, 118), (zc119, 119)]
theorem zcz4_ok : ∀ q ∈ zcz4, q.1.all (zokB q.2) = true := List.forall_mem_cons.mpr ⟨zo96, List.forall_mem_cons.mpr ⟨zo97, List.forall_mem_cons.mpr ⟨zo98, List.forall_mem_cons.mpr ⟨zo99, List.forall_mem_cons.mpr ⟨zo100, List.forall_mem_cons.mpr ⟨zo101, List.forall_mem_cons.mpr ⟨zo102, List.forall_mem_cons.mpr ⟨zo103, List.forall_mem_cons.mpr ⟨zo104, List.forall_mem_cons.mpr ⟨zo105, List.forall_mem_cons.mpr ⟨zo106, List.forall_mem_cons.mpr ⟨zo107, List.forall_mem_cons.mpr ⟨zo108, List.forall_mem_cons.mpr ⟨zo109, List.forall_mem_cons.mpr ⟨zo110, List.forall_mem_cons.mpr ⟨zo111, List.forall_mem_cons.mpr ⟨zo112, List.forall_mem_cons.mpr ⟨zo113, List.forall_mem_cons.mpr ⟨zo114, List.forall_mem_cons.mpr ⟨zo115, List.forall_mem_cons.mpr ⟨zo116, List.forall_mem_cons.mpr ⟨zo117, List.forall_mem_cons.mpr ⟨zo118, List.forall_mem_cons.mpr ⟨zo119, fun _ h => absurd h List.not_mem_nil⟩⟩⟩⟩⟩⟩⟩⟩⟩⟩⟩⟩⟩⟩⟩⟩⟩⟩⟩⟩⟩⟩⟩⟩
def zcz5 : List (List zE × Nat) := [(zc120, 120), (zc121, 121), (zc122, 122), (zc123, 123), (zc124, 124), (zc125, 125), (zc126, 126), (zc127, 127), (zc128, 128), (zc129, 129), (zc130, 130), (zc131, 131), (zc132, 132), (zc133, 133), (zc134, 134), (zc135, 135), (zc136, 136), (zc137, 137), (zc138, 138), (zc139, 139), (zc140, 140), (zc141, 141), (zc142, 142), (zc143, 143)]
theorem zcz5_ok : ∀ q ∈ zcz5, q.1.all (zokB q.2) = true := List.forall_mem_cons.mpr ⟨zo120, List.forall_mem_cons.mpr ⟨zo121, List.forall_mem_cons.mpr ⟨zo122, List.forall_mem_cons.mpr ⟨zo123, List.forall_mem_cons.mpr ⟨zo124, List.forall_mem_cons.mpr ⟨zo125, List.forall_mem_cons.mpr ⟨zo126, List.forall_mem_cons.mpr ⟨zo127, List.forall_mem_cons.mpr ⟨zo128, List.forall_mem_cons.mpr ⟨zo129, List.forall_mem_cons.mpr ⟨zo130, List.forall_mem_cons.mpr ⟨zo131, List.forall_mem_cons.mpr ⟨zo132, List.forall_mem_cons.mpr ⟨zo133, List.forall_mem_cons.mpr ⟨zo134, List.forall_mem_cons.mpr ⟨zo135, List.forall_mem_cons.mpr ⟨zo136, List.forall_mem_cons.mpr ⟨zo137, List.forall_mem_cons.mpr ⟨zo138, List.forall_mem_cons.mpr ⟨zo139, List.forall_mem_cons.mpr ⟨zo140, List.forall_mem_cons.mpr ⟨zo141, List.forall_mem_cons.mpr ⟨zo142, List.forall_mem_cons.mpr ⟨zo143, fun _ h => absurd h List.not_mem_nil⟩⟩⟩⟩⟩⟩⟩⟩⟩⟩⟩⟩⟩⟩⟩⟩⟩⟩⟩⟩⟩⟩⟩⟩
def zcz6 : List (List zE × Nat) := [(zc144, 144), (zc145, 145), (zc146, 146), (zc147, 147), (zc148, 148), (zc149, 149), (zc150, 150), (zc151, 151), (zc152, 152), (zc153, 153), (zc154, 154), (zc155, 155), (zc156, 156), (zc157, 157), (zc158, 158), (zc159, 159), (zc160, 160), (zc161, 161), (zc162, 162), (zc163, 163), (zc164, 164), (zc165, 165), (zc166, 166), (zc167, 167)]
theorem zcz6_ok : ∀ q ∈ zcz6, q.1.all (zokB q.2) = true := List.forall_mem_cons.mpr ⟨zo144, List.forall_mem_cons.mpr ⟨zo145, List.forall_mem_cons.mpr ⟨zo146, List.forall_mem_cons.mpr ⟨zo147, List.forall_mem_cons.mpr ⟨zo148, List.forall_mem_cons.mpr ⟨zo149, List.forall_mem_cons.mpr ⟨zo150, List.forall_mem_cons.mpr ⟨zo151, List.forall_mem_cons.mpr ⟨zo152, List.forall_mem_cons.mpr ⟨zo153, List.forall_mem_cons.mpr ⟨zo154, List.forall_mem_cons.mpr ⟨zo155, List.forall_mem_cons.mpr ⟨zo156, List.forall_mem_cons.mpr ⟨zo157, List.forall_mem_cons.mpr ⟨zo158, List.forall_mem_cons.mpr ⟨zo159, List.forall_mem_cons.mpr ⟨zo160, List.forall_mem_cons.mpr ⟨zo161, List.forall_mem_cons.mpr ⟨zo162, List.forall_mem_cons.mpr ⟨zo163, List.forall_mem_cons.mpr ⟨zo164, List.forall_mem_cons.mpr ⟨zo165, List.forall_mem_cons.mpr ⟨zo166, List.forall_mem_cons.mpr ⟨zo167, fun _ h => absurd h List.not_mem_nil⟩⟩⟩⟩⟩⟩⟩⟩⟩⟩⟩⟩⟩⟩⟩⟩⟩⟩⟩⟩⟩⟩⟩⟩
def zcz7 : List (List zE × Nat) := [(zc168, 168), (zc169, 169), (zc170, 170), (zc171, 171), (zc172, 172), (zc173, 173), (zc174, 174), (zc175, 175), (zc176, 176), (zc177, 177), (zc178, 178), (zc179, 179), (zc180, 180), (zc181, 181), (zc182, 182), (zc183, 183), (zc184, 184), (zc185, 185), (zc186, 186), (zc187, 187), (zc188, 188), (zc189, 189), (zc190, 190), (zc191, 191)]
theorem zcz7_ok : ∀ q ∈ zcz7, q.1.all (zokB q.2) = true := List.forall_mem_cons.mpr ⟨zo168, List.forall_mem_cons.mpr ⟨zo169, List.forall_mem_cons.mpr ⟨zo170, List.forall_mem_cons.mpr ⟨zo171, List.forall_mem_cons.mpr ⟨zo172, List.forall_mem_cons.mpr ⟨zo173, List.forall_mem_cons.mpr ⟨zo174, List.forall_mem_cons.mpr ⟨zo175, List.forall_mem_cons.mpr ⟨zo176, List.forall_mem_cons.mpr ⟨zo177, List.forall_mem_cons.mpr ⟨zo178, List.forall_mem_cons.mpr ⟨zo179, List.forall_mem_cons.mpr ⟨zo180, List.forall_mem_cons.mpr ⟨zo181, List.forall_mem_cons.mpr ⟨zo182, List.forall_mem_cons.mpr ⟨zo183, List.forall_mem_cons.mpr ⟨zo184, List.forall_mem_cons.mpr ⟨zo185, List.forall_mem_cons.mpr ⟨zo186, List.forall_mem_cons.mpr ⟨zo187, List.forall_mem_cons.mpr ⟨zo188, List.forall_mem_cons.mpr ⟨zo189, List.forall_mem_cons.mpr ⟨zo190, List.forall_mem_cons.mpr ⟨zo191, fun _ h => absurd h List.not_mem_nil⟩⟩⟩⟩⟩⟩⟩⟩⟩⟩⟩⟩⟩⟩⟩⟩⟩⟩⟩⟩⟩⟩⟩⟩
def zcz8 : List (List zE × Nat) := [(zc192, 192), (zc193, 193), (zc194, 194), (zc195, 195), (zc196, 196), (zc197, 197), (zc198, 198), (zc199, 199), (zc200, 200), (zc201, 201), (zc202, 202), (zc203, 203), (zc204, 204), (zc205, 205), (zc206, 206), (zc207, 207), (zc208, 208), (zc209, 209), (zc210, 210), (zc211, 211), (zc212, 212), (zc213, 213), (zc214, 214), (zc215, 215)]
theorem zcz8_ok : ∀ q ∈ zcz8, q.1.all (zokB q.2) = true := List.forall_mem_cons.mpr ⟨zo192, List.forall_mem_cons.mpr ⟨zo193, List.forall_mem_cons.mpr ⟨zo194, List.forall_mem_cons.mpr ⟨zo195, List.forall_mem_cons.mpr ⟨zo196, List.forall_mem_cons.mpr ⟨zo197, List.forall_mem_cons.mpr ⟨zo198, List.forall_mem_cons.mpr ⟨zo199, List.forall_mem_cons.mpr ⟨zo200, List.forall_mem_cons.mpr ⟨zo201, List.forall_mem_cons.mpr ⟨zo202, List.forall_mem_cons.mpr ⟨zo203, List.forall_mem_cons.mpr ⟨zo204, List.forall_mem_cons.mpr ⟨zo205, List.forall_mem_cons.mpr ⟨zo206, List.forall_mem_cons.mpr ⟨zo207, List.forall_mem_cons.mpr ⟨zo208, List.forall_mem_cons.mpr ⟨zo209, List.forall_mem_cons.mpr ⟨zo210, List.forall_mem_cons.mpr ⟨zo211, List.forall_mem_cons.mpr ⟨zo212, List.forall_mem_cons.mpr ⟨zo213, List.forall_mem_cons.mpr ⟨zo214, List.forall_mem_cons.mpr ⟨zo215, fun _ h => absurd h List.not_mem_nil⟩⟩⟩⟩⟩⟩⟩⟩⟩⟩⟩⟩⟩⟩⟩⟩⟩⟩⟩⟩⟩⟩⟩⟩
set_option maxRecDepth 20000 in
theorem zcz_eq : zct.zipIdx = zcz0 ++ (zcz1 ++ (zcz2 ++ (zcz3 ++ (zcz4 ++ (zcz5 ++ (zcz6 ++ (zcz7 ++ (zcz8)))))))) := rfl
theorem zok_all : ∀ q ∈ zct.zipIdx, q.1.all (zokB q.2) = true := by
  intro q h
  rw [zcz_eq] at h
  rcases List.mem_append.mp h with h | h
  · exact zcz0_ok q h
  rcases List.mem_append.mp h with h | h
  · exact zcz1_ok q h
  rcases List.mem_append.mp h with h | h
  · exact zcz2_ok q h
  rcases List.mem_append.mp h with h | h
  · exact zcz3_ok q h
  rcases List.mem_append.mp h with h | h
  · exact zcz4_ok q h
  rcases List.mem_append.mp h with h | h
  · exact zcz5_ok q h
  rcases List.mem_append.mp h with h | h
  · exact zcz6_ok q h
  rcases List.mem_append.mp h with h | h
  · exact zcz7_ok q h
  exact zcz8_ok q h
theorem zok_of {y pc : Nat} {e : zE} (h : zfetch y pc = some e) : zokB y e = true ∧ e.1 = pc ∧ y < zct.length := by
  unfold zfetch at h
  have h1 := List.mem_of_find?_eq_some h
  have h2 := List.find?_some h
  have hy : y < zct.length := by
    rcases Nat.lt_or_ge y zct.length with q | q
    · exact q
    · rw [List.getD_eq_getElem?_getD, List.getElem?_eq_none q] at h1
      cases h1
  rw [List.getD_eq_getElem?_getD, List.getElem?_eq_getElem hy] at h1
  refine ⟨?_, Nat.eq_of_beq_eq_true h2, hy⟩
  have h3 := zok_all (zct[y], y) (List.mem_zipIdx_iff_getElem?.mpr (List.getElem?_eq_getElem hy))
  exact List.all_eq_true.mp h3 e h1
theorem zdp_pos : ∀ y, y < zct.length → 1 ≤ zdp y := by
  have h : (List.range zct.length).all (fun y => decide (1 ≤ zdp y)) = true := by decide +kernel
  intro y hy
  exact of_decide_eq_true (List.all_eq_true.mp h y (List.mem_range.mpr hy))
theorem zct_len : zct.length = zmi.length := by decide +kernel
theorem zYw_of {y : Nat} (hy : y < zmi.length) : ∃ q ∈ zYL, q.1 = y := by
  have h : y ∈ zYL.map (fun q => q.1) := by rw [zYL_all]; exact List.mem_range.mpr hy
  obtain ⟨q, h1, h2⟩ := List.mem_map.mp h
  exact ⟨q, h1, h2⟩
end
section
/-! how the small machine's state stands in the machine's heap -/
def zmv (as : Nat → Nat) (v : Value) : Value := match v with
  | .ref i => .ref (as i)
  | v => v
def zcell (as : Nat → Nat) (ca : Nat → ClassId) (X : zM) (i : Nat) : va_E := match (zkd i).1 with
  | 0 => .inr ((zkd i).2, (List.range (zftL.getD (zkd i).2 []).length).map fun k => zmv as (zgf i (zkd i).2 k X))
  | 3 => .inl (ca i, (zkd i).2, .inr (.inr (.inr (.inr fun j => some (as (zrf i j))))))
  | _ => .inl (ca i, (zkd i).2, .inl (X i))
def zws (as : Nat → Nat) (ca : Nat → ClassId) (X : zM) : va_W := (List.range zN).map fun i => (as i, zcell as ca X i)
def zet (i : Nat) : FieldType := match (zkd i).1 with
  | 2 => .boolean
  | 3 => .object RX7
  | _ => .int
def ztys (ca : Nat → ClassId) : List (ClassId × FieldType) := (List.range zN).map fun i => (ca i, zet i)
def zA (as : Nat → Nat) (sz : Nat) : Nat → Prop := fun q => (∃ i, i < zN ∧ q = as i) ∨ sz ≤ q
theorem zkd_lt {i : Nat} (h : (zkd i).1 ≤ 3) : i < zN := by
  unfold zkd at h
  unfold zN
  split at h
  · omega
  · split at h
    · omega
    · exact absurd h (by decide)
theorem zws_at {as : Nat → Nat} {ca : Nat → ClassId} {X : zM} {i : Nat} (h : i < zN) : (zws as ca X)[i]? = some (as i, zcell as ca X i) := by
  simp [zws, h]
theorem ztys_at {ca : Nat → ClassId} {i : Nat} (h : i < zN) : (ztys ca)[i]? = some (ca i, zet i) := by
  simp [ztys, h]
theorem zws_get {as : Nat → Nat} {ca : Nat → ClassId} {X : zM} {k : Nat} {q : Nat × va_E} (h : (zws as ca X)[k]? = some q) : k < zN ∧ q = (as k, zcell as ca X k) := by
  unfold zws at h
  rw [List.getElem?_map] at h
  by_cases hk : k < zN
  · rw [List.getElem?_range hk] at h
    cases h
    exact ⟨hk, rfl⟩
  · rw [List.getElem?_eq_none (by simp; omega)] at h
    cases h
theorem zgf_congr {X X1 : zM} {i c k : Nat} (h : X1 i k = X i k) : zgf i c k X1 = zgf i c k X := by
  unfold zgf; rw [h]
theorem zcell_congr {as : Nat → Nat} {ca : Nat → ClassId} {X X1 : zM} {i : Nat} (h : X1 i = X i) : zcell as ca X1 i = zcell as ca X i := by
  unfold zcell
  rw [h]
  have : ∀ k, zgf i (zkd i).2 k X1 = zgf i (zkd i).2 k X := fun k => zgf_congr (by rw [h])
  simp only [this]
theorem zst_at (X : zM) (a : Nat) (f : Nat → Int32) : zst X a f a = f := by unfold zst; rw [if_pos rfl]
theorem zst_ne (X : zM) {a i : Nat} (f : Nat → Int32) (h : i ≠ a) : zst X a f i = X i := by unfold zst; rw [if_neg h]
theorem zws_set {as : Nat → Nat} {ca : Nat → ClassId} {X : zM} {i : Nat} (f : Nat → Int32) (hi : i < zN) : (zws as ca X).set i (as i, zcell as ca (zst X i f) i) = zws as ca (zst X i f) := by
  apply List.ext_getElem?
  intro j
  by_cases hj : j < zN
  · rw [zws_at hj]
    by_cases hji : i = j
    · subst hji
      rw [List.getElem?_set_self (by simp [zws]; exact hi)]
    · rw [List.getElem?_set_ne hji, zws_at hj, zcell_congr (zst_ne X f (fun q => hji q.symm))]
  · rw [List.getElem?_eq_none (by simp [zws]; omega), List.getElem?_eq_none (by simp [zws]; omega)]
theorem zcell_0 {as : Nat → Nat} {ca : Nat → ClassId} {X : zM} {i c : Nat} (h : zkd i = (0, c)) : zcell as ca X i = .inr (c, (List.range (zftL.getD c []).length).map fun k => zmv as (zgf i c k X)) := by
  unfold zcell; simp only [h]
theorem zcell_1 {as : Nat → Nat} {ca : Nat → ClassId} {X : zM} {i : Nat} (h : (zkd i).1 = 1) : zcell as ca X i = .inl (ca i, (zkd i).2, .inl (X i)) := by
  unfold zcell; simp only [h]
theorem zcell_2 {as : Nat → Nat} {ca : Nat → ClassId} {X : zM} {i : Nat} (h : (zkd i).1 = 2) : zcell as ca X i = .inl (ca i, (zkd i).2, .inl (X i)) := by
  unfold zcell; simp only [h]
theorem zcell_3 {as : Nat → Nat} {ca : Nat → ClassId} {X : zM} {i : Nat} (h : (zkd i).1 = 3) : zcell as ca X i = .inl (ca i, (zkd i).2, .inr (.inr (.inr (.inr fun j => some (as (zrf i j)))))) := by
  unfold zcell; simp only [h]
theorem zet_1 {i : Nat} (h : (zkd i).1 = 1) : zet i = .int := by unfold zet; simp only [h]
theorem zet_2 {i : Nat} (h : (zkd i).1 = 2) : zet i = .boolean := by unfold zet; simp only [h]
theorem zet_3 {i : Nat} (h : (zkd i).1 = 3) : zet i = .object RX7 := by unfold zet; simp only [h]
/-- locals -/
def zlv (as : Nat → Nat) (ls : Array Slot) (n : Nat) (L : List Value) : Prop := ls.size = n ∧ L.length = n ∧ lv_wf ls ∧ ∀ (j : Nat) (w : Value), L[j]? = some w → w = zU ∨ (w.category = 2 ∧ L[j + 1]? ≠ some zU) ∨ ls[j]? = some (.val (zmv as w))
theorem zlv_i {as : Nat → Nat} {ls : Array Slot} {n a : Nat} {L : List Value} {x : Int32} (h : zlv as ls n L) (ha : L[a]? = some (.int x)) : ls[a]? = some (.val (.int x)) := by
  rcases h.2.2.2 a _ ha with h | h | h
  · cases h
  · exact absurd h.1 (by simp [Value.category])
  · exact h
theorem zlv_r {as : Nat → Nat} {ls : Array Slot} {n a : Nat} {L : List Value} {x : Nat} (h : zlv as ls n L) (ha : L[a]? = some (.ref x)) : ls[a]? = some (.val (.ref (as x))) := by
  rcases h.2.2.2 a _ ha with h | h | h
  · cases h
  · exact absurd h.1 (by simp [Value.category])
  · exact h
theorem zlv_l {as : Nat → Nat} {ls : Array Slot} {n a : Nat} {L : List Value} {x : Int64} (h : zlv as ls n L) (ha : L[a]? = some (.long x)) (hb : L[a + 1]? = some zU) : ls[a]? = some (.val (.long x)) := by
  rcases h.2.2.2 a _ ha with h | h | h
  · cases h
  · exact absurd hb h.2
  · exact h
theorem zlv_list {as : Nat → Nat} {ls : Array Slot} {n : Nat} {L : List Value} (h : zlv as ls n L) : ∃ lv : List (Nat × Value), lv_has ls n lv ∧ ∀ (j : Nat) (w : Value), L[j]? = some w → w = zU ∨ (w.category = 2 ∧ L[j + 1]? ≠ some zU) ∨ (j, zmv as w) ∈ lv := by
  classical
  refine ⟨(List.range n).filterMap (fun j => match L[j]? with | some w => if ls[j]? = some (.val (zmv as w)) then some (j, zmv as w) else none | none => none), ⟨h.1, h.2.2.1, fun q hq => ?_⟩, fun j w hj => ?_⟩
  · obtain ⟨j, -, hj⟩ := List.mem_filterMap.mp hq
    cases hL : L[j]? with
    | none => rw [hL] at hj; cases hj
    | some w =>
      rw [hL] at hj
      simp only at hj
      split at hj
      · cases hj; assumption
      · cases hj
  · rcases h.2.2.2 j w hj with h1 | h1 | h1
    · exact Or.inl h1
    · exact Or.inr (Or.inl h1)
    · refine Or.inr (Or.inr (List.mem_filterMap.mpr ⟨j, List.mem_range.mpr ?_, ?_⟩))
      · have := (List.getElem?_eq_some_iff.mp hj).1
        have := h.2.1
        omega
      · rw [hj]
        simp only
        rw [if_pos h1]
theorem zmv_cat (as : Nat → Nat) (v : Value) : (zmv as v).category = v.category := by cases v <;> rfl
theorem zlv_set1 {as : Nat → Nat} {ls ls1 : Array Slot} {n i : Nat} {L : List Value} {v : Value} {lv : List (Nat × Value)} (h : zlv as ls n L) (hlv : ∀ (j : Nat) (w : Value), L[j]? = some w → w = zU ∨ (w.category = 2 ∧ L[j + 1]? ≠ some zU) ∨ (j, zmv as w) ∈ lv) (hv : v ≠ zU)
    (h1 : lv_has ls1 n ((i, zmv as v) :: lv.filter (fun q => !(q.1 == i) && !(q.1 + 1 == i && q.2.category == 2)))) : zlv as ls1 n (L.set i v) := by
  refine ⟨h1.1, by rw [List.length_set]; exact h.2.1, h1.2.1, fun j w hj => ?_⟩
  by_cases hji : i = j
  · subst hji
    by_cases hlt : i < L.length
    · rw [List.getElem?_set_self hlt] at hj
      cases hj
      exact Or.inr (Or.inr (h1.2.2 (i, zmv as v) List.mem_cons_self))
    · rw [List.getElem?_eq_none (by rw [List.length_set]; omega)] at hj
      cases hj
  · rw [List.getElem?_set_ne hji] at hj
    have hne : ∀ k : Nat, L[k]? ≠ some zU → (L.set i v)[k]? ≠ some zU := by
      intro k hk
      by_cases hki : i = k
      · subst hki
        by_cases hlt : i < L.length
        · rw [List.getElem?_set_self hlt]
          intro q
          exact hv (Option.some.inj q)
        · rw [List.getElem?_eq_none (by rw [List.length_set]; omega)]
          intro q
          cases q
      · rw [List.getElem?_set_ne hki]
        exact hk
    rcases hlv j w hj with q | q | q
    · exact Or.inl q
    · exact Or.inr (Or.inl ⟨q.1, hne _ q.2⟩)
    · by_cases hc : j + 1 = i ∧ w.category = 2
      · refine Or.inr (Or.inl ⟨hc.2, ?_⟩)
        rw [hc.1]
        by_cases hlt : i < L.length
        · rw [List.getElem?_set_self hlt]
          intro q
          exact hv (Option.some.inj q)
        · rw [List.getElem?_eq_none (by rw [List.length_set]; omega)]
          intro q
          cases q
      · refine Or.inr (Or.inr (h1.2.2 (j, zmv as w) (List.mem_cons_of_mem _ (List.mem_filter.mpr ⟨q, ?_⟩))))
        have e1 : (j == i) = false := by simp; omega
        rw [zmv_cat]
        simp only [e1, Bool.not_false, Bool.true_and]
        simp only [Bool.not_eq_true', Bool.and_eq_false_iff, beq_eq_false_iff_ne, ne_eq]
        by_cases h2 : j + 1 = i
        · exact Or.inr (fun q => hc ⟨h2, q⟩)
        · exact Or.inl h2
theorem zlv_set2 {as : Nat → Nat} {ls ls1 : Array Slot} {n i : Nat} {L : List Value} {x : Int64} {lv : List (Nat × Value)} (h : zlv as ls n L) (hi : i + 1 < L.length) (hlv : ∀ (j : Nat) (w : Value), L[j]? = some w → w = zU ∨ (w.category = 2 ∧ L[j + 1]? ≠ some zU) ∨ (j, zmv as w) ∈ lv)
    (h1 : lv_has ls1 n ((i, .long x) :: lv.filter (fun q => !(q.1 == i) && (!(q.1 == i + 1) && !(q.1 + 1 == i && q.2.category == 2))))) : zlv as ls1 n ((L.set i (.long x)).set (i + 1) zU) := by
  refine ⟨h1.1, by rw [List.length_set, List.length_set]; exact h.2.1, h1.2.1, fun j w hj => ?_⟩
  by_cases hj1 : i + 1 = j
  · subst hj1
    rw [List.getElem?_set_self (by rw [List.length_set]; exact hi)] at hj
    cases hj
    exact Or.inl rfl
  · rw [List.getElem?_set_ne hj1] at hj
    by_cases hji : i = j
    · subst hji
      rw [List.getElem?_set_self (by omega)] at hj
      cases hj
      exact Or.inr (Or.inr (h1.2.2 (i, .long x) List.mem_cons_self))
    · rw [List.getElem?_set_ne hji] at hj
      rcases hlv j w hj with q | q | q
      · exact Or.inl q
      · refine Or.inr (Or.inl ⟨q.1, ?_⟩)
        rw [List.getElem?_set_ne (by omega)]
        by_cases hki : i = j + 1
        · rw [← hki, List.getElem?_set_self (by omega)]
          intro z
          cases z
        · rw [List.getElem?_set_ne hki]
          exact q.2
      · by_cases hc : j + 1 = i ∧ w.category = 2
        · refine Or.inr (Or.inl ⟨hc.2, ?_⟩)
          rw [hc.1, List.getElem?_set_ne (by omega), List.getElem?_set_self (by omega)]
          intro z
          cases z
        · refine Or.inr (Or.inr (h1.2.2 (j, zmv as w) (List.mem_cons_of_mem _ (List.mem_filter.mpr ⟨q, ?_⟩))))
          have e1 : (j == i) = false := by simp; omega
          have e2 : (j == i + 1) = false := by simp; omega
          rw [zmv_cat]
          simp only [e1, e2, Bool.not_false, Bool.true_and]
          simp only [Bool.not_eq_true', Bool.and_eq_false_iff, beq_eq_false_iff_ne, ne_eq]
          by_cases h2 : j + 1 = i
          · exact Or.inr (fun q => hc ⟨h2, q⟩)
          · exact Or.inl h2
/-- a field is written -/
theorem zfs_set {as : Nat → Nat} {X : zM} {i c k : Nat} {v : Value} (x : Int32) (hv : zmv as (zgf i c k (zst X i (upd (X i) k x))) = v) : ((List.range (zftL.getD c []).length).map fun k => zmv as (zgf i c k X)).set k v = (List.range (zftL.getD c []).length).map fun k1 => zmv as (zgf i c k1 (zst X i (upd (X i) k x))) := by
  apply List.ext_getElem?
  intro j
  by_cases hj : j < (zftL.getD c []).length
  · by_cases hkj : k = j
    · subst hkj
      rw [List.getElem?_set_self (by simp; simpa using hj), List.getElem?_map, List.getElem?_range hj]
      simp only [Option.map_some]
      rw [hv]
    · rw [List.getElem?_set_ne hkj, List.getElem?_map, List.getElem?_map, List.getElem?_range hj]
      simp only [Option.map_some]
      rw [zgf_congr (X1 := zst X i (upd (X i) k x)) (X := X)]
      rw [zst_at]
      exact if_neg (fun q => hkj q.symm)
  · rw [List.getElem?_eq_none (by simp; simpa using hj), List.getElem?_eq_none (by simp; simpa using hj)]
end
section
def zLw : List ((Nat × Nat) × Nat) := [((0, 0), 158), ((0, 1), 160), ((0, 2), 162), ((0, 3), 164), ((0, 4), 166), ((0, 5), 168), ((0, 6), 170), ((0, 7), 172), ((0, 8), 174), ((0, 9), 176), ((1, 0), 388), ((1, 1), 390), ((1, 2), 392), ((2, 0), 277), ((2, 1), 279), ((2, 2), 281), ((2, 3), 283), ((2, 4), 285), ((2, 5), 287), ((2, 6), 289), ((3, 0), 407), ((3, 1), 409), ((3, 2), 411), ((4, 0), 354), ((4, 1), 356), ((4, 2), 358), ((4, 3), 360), ((4, 4), 362), ((4, 5), 364), ((4, 6), 366), ((4, 7), 368), ((4, 8), 370), ((4, 9), 372), ((5, 0), 106), ((5, 1), 108), ((5, 2), 110), ((5, 3), 112), ((5, 4), 114), ((6, 0), 257), ((6, 1), 259), ((7, 0), 222), ((7, 1), 224), ((7, 2), 226), ((7, 3), 228), ((7, 4), 230), ((7, 5), 232), ((7, 6), 234), ((7, 7), 236), ((7, 8), 238), ((7, 9), 240), ((7, 10), 242), ((7, 11), 244), ((7, 12), 246), ((8, 0), 311), ((8, 1), 313), ((8, 2), 315), ((8, 3), 317), ((8, 4), 319), ((8, 5), 321), ((8, 6), 323), ((8, 7), 325), ((8, 8), 327), ((8, 9), 329), ((8, 10), 331), ((8, 11), 333), ((9, 0), 425), ((9, 1), 427), ((9, 2), 429), ((9, 3), 431), ((9, 4), 433), ((9, 5), 435), ((9, 6), 437), ((9, 7), 439), ((9, 8), 441), ((9, 9), 443), ((9, 10), 445), ((10, 0), 1052), ((10, 1), 1054), ((10, 2), 1056), ((10, 3), 1058), ((10, 4), 1060), ((10, 5), 1062), ((10, 6), 1064), ((10, 7), 1066), ((10, 8), 1068), ((10, 9), 1070), ((10, 10), 1072), ((10, 11), 1074), ((10, 12), 1076), ((10, 13), 1078), ((10, 14), 1080), ((10, 15), 1082), ((10, 16), 1084), ((10, 17), 1086), ((10, 18), 1088), ((10, 19), 1090), ((10, 20), 1092), ((10, 21), 1094), ((10, 22), 1096), ((10, 23), 1098), ((10, 24), 1100), ((10, 25), 1102), ((10, 26), 1104), ((10, 27), 1106), ((10, 28), 1108), ((10, 29), 1110), ((10, 30), 1112), ((10, 31), 1114), ((10, 32), 1116), ((10, 33), 1118)]
theorem zLw_ok : ∀ q ∈ zLw, lw_tbl[q.2]? = some (u_lay (zcs q.1.1).1 (zcs q.1.1).2.1 q.1.2) ∧ goodWord (u_lay (zcs q.1.1).1 (zcs q.1.1).2.1 q.1.2) = true := by decide +kernel
/-! one instruction that is no call and no end -/
def zNw (U : State) : Prop := ∀ q ∈ zML, q.1.2.2 = 1 → va_Nw (zMw q.1) U
def zCx (p : Program) (s : State) (m : MethodId) (args : Array Value) (meth : Method) (c : Code) (y : Nat) : Prop := p.tables.exec = Jvm.exec ∧ c.code = zby y ∧ meth.sig.returnType = zret y ∧ c.maxLocals = zmx y ∧ s.vm.findClass (zcn.getD (zow y) "") = some m.cls ∧ (∀ w ∈ gT, w.before args s = true) ∧ meth.locks = false ∧ zNw s
def zGo (p : Program) (l : Launch) (ev : Env) (R : Room) (s : State) (m : MethodId) (args : Array Value) (below : List Frame) (meth : Method) (c : Code) (D : va_G) (as : Nat → Nat) (ca : Nat → ClassId) (A : Nat → Prop) (QQ : State → Prop) (y pc : Nat) (L S : List Value) (X : zM) : Prop :=
  ∀ (H : Heap) (locs : List Loc) (ls : Array Slot), zlv as ls (zmx y) L → va_P D vwCl (zws as ca X) H → va_D A (zws as ca X) → va_S A s.heap H locs → W p l ev R s m args below meth c H locs 0 0 QQ (F0 m pc ls (S.map (zmv as)))
theorem zhasF_ok {o ix a b : Nat} (h : zhasF o ix a b = true) : (.fieldLink (zcn.getD o "") ix (zcs a).1 ((zcs a).2.1 b).2.1 ((zcs a).2.1 b).2.2.1 : Cond) ∈ gT ∧ ((zcs a).2.1 b).1 = (zcs a).1 ∧ b < (zcs a).2.2 := by
  unfold zhasF at h
  obtain ⟨q, hq, hd⟩ := List.any_eq_true.mp h
  have e := of_decide_eq_true hd
  obtain ⟨h1, h2, h3⟩ := zFL_ok q hq
  rw [e] at h1 h2 h3
  exact ⟨gT_at h1, h2, h3⟩
theorem zhasC_ok {o ix : Nat} {x : Int32} (h : zhasC o ix x = true) : (.constant (zcn.getD o "") ix x : Cond) ∈ gT := by
  unfold zhasC at h
  obtain ⟨q, hq, hd⟩ := List.any_eq_true.mp h
  have e := of_decide_eq_true hd
  have h1 := zCL_ok q hq
  rw [e] at h1
  exact gT_at h1
theorem zhasD_ok {o ix : Nat} {x : Int64} (h : zhasD o ix x = true) : (.constantLong (zcn.getD o "") ix x : Cond) ∈ gT := by
  unfold zhasD at h
  obtain ⟨q, hq, hd⟩ := List.any_eq_true.mp h
  have e := of_decide_eq_true hd
  have h1 := zDL_ok q hq
  rw [e] at h1
  exact gT_at h1
theorem zhasA_ok {o ix : Nat} (h : zhasA o ix = true) : (.methodLink (zcn.getD o "") ix arraycopyName : Cond) ∈ gT := by
  unfold zhasA at h
  obtain ⟨q, hq, hd⟩ := List.any_eq_true.mp h
  have e := of_decide_eq_true hd
  have h1 := zAL_ok q hq
  rw [e] at h1
  exact gT_at h1
theorem zhasH_ok {o ix a : Nat} (h : zhasH o ix a = true) : (.methodLink (zcn.getD o "") ix (zHn a) : Cond) ∈ gT := by
  unfold zhasH at h
  obtain ⟨q, hq, hd⟩ := List.any_eq_true.mp h
  obtain ⟨h2, h3⟩ := Bool.and_eq_true_iff.mp hd
  have e := of_decide_eq_true h2
  have e3 := of_decide_eq_true h3
  have h1 := zHL_ok q hq
  rw [e, e3] at h1
  exact gT_at h1
theorem zcs_ok {a b : Nat} (h : b < (zcs a).2.2) : vwCl[a]? = some ((zcs a).1, (zcs a).2.1, (zcs a).2.2) ∧ a < 11 := by
  unfold zcs at h ⊢
  by_cases ha : a < vwCl.length
  · rw [List.getD_eq_getElem?_getD, List.getElem?_eq_getElem ha]
    exact ⟨rfl, ha⟩
  · rw [List.getD_eq_getElem?_getD, List.getElem?_eq_none (by omega)] at h
    exact absurd h (Nat.not_lt_zero _)
theorem zuin : ∀ a, a < 11 → ∀ w ∈ u_ws (zcs a).1 (zcs a).2.1 (zcs a).2.2, w ∈ gT := by
  intro a ha w hw
  have hq : ∀ a, a < 11 → ∀ w ∈ u_ws (zcs a).1 (zcs a).2.1 (zcs a).2.2, w ∈ lw_tbl ∧ goodWord w = true := (by
    have hx : (List.range 11).all (fun a => (List.range (zcs a).2.2).all (fun k => (zLw.any (fun q => decide (q.1 = (a, k)))))) = true := by decide +kernel
    intro a ha w hw
    obtain ⟨k, hk, rfl⟩ := List.mem_map.mp hw
    have h1 := List.all_eq_true.mp hx a (List.mem_range.mpr ha)
    have h2 := List.all_eq_true.mp h1 k hk
    obtain ⟨q, hq, hd⟩ := List.any_eq_true.mp h2
    have e := of_decide_eq_true hd
    have h3 := zLw_ok q hq
    rw [e] at h3
    exact ⟨List.mem_of_getElem? h3.1, h3.2⟩)
  obtain ⟨h1, h2⟩ := hq a ha w hw
  exact List.mem_filter.mpr ⟨h1, h2⟩
theorem zft_len {c k : Nat} (h : k < (zcs c).2.2) : k < (zftL.getD c []).length ∧ (zcs c).2.2 = (zftL.getD c []).length := by
  have hc := (zcs_ok h).2
  have h1 := List.all_eq_true.mp zFi_ok c (List.mem_range.mpr hc)
  unfold zFi at h1
  have h2 := beq_iff_eq.mp (Bool.and_eq_true_iff.mp h1).1
  exact ⟨by rw [← h2]; exact h, h2⟩
theorem zft_ty {c k : Nat} (h : k < (zcs c).2.2) : parseFieldDescriptor ((zcs c).2.1 k).2.2.1 = some (match zft c k with | 0 => .int | 3 => .boolean | _ => (match ((zcs c).2.1 k).2.2.1 with | "[I" => .array .int | d => (parseFieldDescriptor d).getD .int)) := by
  have hc := (zcs_ok h).2
  have h1 := List.all_eq_true.mp zFi_ok c (List.mem_range.mpr hc)
  unfold zFi at h1
  have h2 := (Bool.and_eq_true_iff.mp h1).2
  exact of_decide_eq_true (List.all_eq_true.mp h2 k (List.mem_range.mpr h))
theorem zty : ∀ a, a < 11 → ∃ ty : Nat → FieldType, ∀ k, k < (zcs a).2.2 → parseFieldDescriptor ((zcs a).2.1 k).2.2.1 = some (ty k) := by
  intro a ha
  exact ⟨fun k => (match zft a k with | 0 => .int | 3 => .boolean | _ => (match ((zcs a).2.1 k).2.2.1 with | "[I" => .array .int | d => (parseFieldDescriptor d).getD .int)), fun k hk => zft_ty hk⟩
theorem znmn : ∀ a, a < 11 → ∀ i, i < (zcs a).2.2 → ∀ j, j < (zcs a).2.2 → i ≠ j → ((zcs a).2.1 i).2.1 ≠ ((zcs a).2.1 j).2.1 := by
  intro a ha
  match a, ha with
  | 0, _ => exact nmX0
  | 1, _ => exact nmX1
  | 2, _ => exact nmX2
  | 3, _ => exact nmX3
  | 4, _ => exact nmX4
  | 5, _ => exact nmX5
  | 6, _ => exact nmX6
  | 7, _ => exact nmX7
  | 8, _ => exact nmX8
  | 9, _ => exact nmX9
  | 10, _ => exact nmX10
  | n + 11, h => exact absurd h (by omega)
theorem zgf_i {i c k : Nat} {X : zM} (h : zft c k = 0 ∨ zft c k = 3) : zgf i c k X = .int (X i k) := by
  unfold zgf
  rcases h with h | h <;> simp only [h]
theorem zgf_d {i c k : Nat} {X : zM} (h : zft c k = 2) : zgf i c k X = .ref (X i k).toNatClampNeg := by
  unfold zgf
  simp only [h]
theorem zsw_tb (pc : Nat) : ∀ (os : List Int) (lo : Int) (d : Nat) (x : Int32), -2147483648 ≤ lo → lo + os.length ≤ 2147483648 →
    zsw (ztb pc lo os) d x = if x.toInt < lo ∨ lo + os.length ≤ x.toInt then d else ((pc : Int) + (os[(x.toInt - lo).toNat]?).getD 0).toNat
  | [], lo, d, x, h1, h2 => by
    show d = _
    rw [if_pos]
    simp
    omega
  | o :: r, lo, d, x, h1, h2 => by
    show (if x = Int32.ofInt lo then ((pc : Int) + o).toNat else zsw (ztb pc (lo + 1) r) d x) = _
    have hlen : ((o :: r).length : Int) = r.length + 1 := by simp
    rw [hlen] at h2 ⊢
    have hlo : (Int32.ofInt lo).toInt = lo := Int32.toInt_ofInt_of_le (by omega) (by omega)
    by_cases hx : x = Int32.ofInt lo
    · have hxi : x.toInt = lo := by rw [hx, hlo]
      rw [if_pos hx, if_neg (by omega), hxi]
      simp
    · have hne : x.toInt ≠ lo := fun q => hx (Int32.toInt_inj.mp (by rw [hlo]; exact q))
      rw [if_neg hx, zsw_tb pc r (lo + 1) d x (by omega) (by omega)]
      by_cases hc : x.toInt < lo ∨ lo + (r.length + 1 : Int) ≤ x.toInt
      · rw [if_pos hc, if_pos (by omega)]
      · rw [if_neg hc, if_neg (by omega)]
        have : (x.toInt - lo).toNat = (x.toInt - (lo + 1)).toNat + 1 := by omega
        rw [this, List.getElem?_cons_succ]
theorem zsw_lk (pc : Nat) : ∀ (os : List (Int × Int)) (d : Int) (x : Int32), (∀ q ∈ os, -2147483648 ≤ q.1 ∧ q.1 < 2147483648) →
    zsw (zlk pc os) (((pc : Int) + d).toNat) x = ((pc : Int) + Op.lookupswitch.offset os d x.toInt).toNat
  | [], d, x, _ => rfl
  | o :: r, d, x, h => by
    have ih := zsw_lk pc r d x (fun q hq => h q (List.mem_cons_of_mem _ hq))
    have ho := h o List.mem_cons_self
    have hlo : (Int32.ofInt o.1).toInt = o.1 := Int32.toInt_ofInt_of_le (by omega) (by omega)
    show (if x = Int32.ofInt o.1 then ((pc : Int) + o.2).toNat else zsw (zlk pc r) (((pc : Int) + d).toNat) x) = _
    by_cases hx : x = Int32.ofInt o.1
    · rw [if_pos hx]
      have hxi : x.toInt = o.1 := by rw [hx, hlo]
      simp [Op.lookupswitch.offset, hxi]
    · have hne : ¬ x.toInt = o.1 := fun q => hx (Int32.toInt_inj.mp (by rw [hlo]; exact q))
      rw [if_neg hx, ih]
      have hne2 : ¬ o.1 = x.toInt := fun q => hne q.symm
      simp [Op.lookupswitch.offset, hne, hne2]
end
section
theorem zlk_pos {pc : Nat} {x : Int} : ∀ {os : List (Int × Int)} {d : Int}, (∀ q ∈ os, 0 ≤ (pc : Int) + q.2) → 0 ≤ (pc : Int) + d → 0 ≤ (pc : Int) + Op.lookupswitch.offset os d x
  | [], d, _, hd => hd
  | o :: r, d, h, hd => by
    have ih := zlk_pos (x := x) (os := r) (d := d) (fun q hq => h q (List.mem_cons_of_mem _ hq)) hd
    have ho := h o List.mem_cons_self
    by_cases hx : x = o.1
    · simp [Op.lookupswitch.offset, hx]; exact ho
    · have hx2 : ¬ o.1 = x := fun q => hx q.symm
      simp [Op.lookupswitch.offset, hx, hx2]; exact ih
theorem zdyn : ∀ a, a < 11 → ∀ b, b < (zcs a).2.2 → zft a b = 2 → ((zcs a).2.1 b).2.2.1 = "[I" := by
  have h : (List.range 11).all (fun a => (List.range (zcs a).2.2).all (fun b => decide (zft a b = 2 → ((zcs a).2.1 b).2.2.1 = "[I"))) = true := by decide +kernel
  intro a ha b hb
  exact of_decide_eq_true (List.all_eq_true.mp (List.all_eq_true.mp h a (List.mem_range.mpr ha)) b (List.mem_range.mpr hb))
theorem zsum_le (as : Nat → Nat) : ∀ (S : List Value), S.length ≤ 4 → ((S.map (zmv as)).map fun v => v.category).sum ≤ 8 := by
  have h : ∀ (S : List Value), ((S.map (zmv as)).map fun v => v.category).sum ≤ 2 * S.length := by
    intro S
    induction S with
    | nil => simp
    | cons v r ih =>
      simp only [List.map_cons, List.sum_cons, List.length_cons]
      have : (zmv as v).category ≤ 2 := by rcases lv_cat (zmv as v) with q | q <;> omega
      omega
  intro S hS
  have := h S
  omega
/-! one instruction that is no call and no end: the machine does it -/
set_option maxHeartbeats 4000000 in
set_option maxRecDepth 100000 in
theorem zgo1 {p : Program} {l : Launch} {ev : Env} {R : Room} {s : State} {m : MethodId} {args : Array Value} {below : List Frame} {meth : Method} {c : Code} {D : va_G} {as : Nat → Nat} {ca : Nat → ClassId} {A : Nat → Prop} {QQ : State → Prop} {y p1 : Nat} {e : zE} {L S L1 S1 : List Value} {X X1 : zM}
    (C : zCx p s m args meth c y) (hK : va_K D vwCl (ztys ca) s) (hRf : 1 ≤ R.frames) (hRl : 30 ≤ R.locals) (hok : zokB y e = true) (hs : zstp e L S X = some (.inl (p1, L1, S1, X1)))
    (hk : zGo p l ev R s m args below meth c D as ca A QQ y p1 L1 S1 X1) : zGo p l ev R s m args below meth c D as ca A QQ y e.1 L S X := by
  intro H locs ls hl hP hD hS
  obtain ⟨hx, hb, hr, hml, hown, hts, hlocks, hnw⟩ := C
  obtain ⟨pc, ins, len, a, b, v⟩ := e
  unfold zokB at hok
  obtain ⟨hdg0, hok2⟩ := Bool.and_eq_true_iff.mp hok
  have hdg : decode (zby y) pc = .ok (ins, len) := of_decide_eq_true hdg0
  clear hdg0 hok
  have hmls : c.maxLocals = ls.size := hml.trans hl.1.symm
  cases ins with
  | iconst n =>
    obtain ⟨g1, g2⟩ := Bool.and_eq_true_iff.mp hok2
    have h1 : len = 1 := of_decide_eq_true g1
    clear g1 hok2
    subst h1
    have h2 : v = .int (Int32.ofInt n) := of_decide_eq_true g2
    clear g2
    subst h2
    simp only [zstp] at hs
    simp only [Option.some.injEq, Sum.inl.injEq, Prod.mk.injEq] at hs
    obtain ⟨rfl, rfl, rfl, rfl⟩ := hs
    exact lv_iconst hx hb hdg rfl (hk H locs ls hl hP hD hS)
  | bipush n =>
    obtain ⟨g1, g2⟩ := Bool.and_eq_true_iff.mp hok2
    have h1 : len = 2 := of_decide_eq_true g1
    clear g1 hok2
    subst h1
    have h2 : v = .int (Int8.ofInt n).toInt32 := of_decide_eq_true g2
    clear g2
    subst h2
    simp only [zstp] at hs
    simp only [Option.some.injEq, Sum.inl.injEq, Prod.mk.injEq] at hs
    obtain ⟨rfl, rfl, rfl, rfl⟩ := hs
    exact lv_bipush hx hb hdg rfl (hk H locs ls hl hP hD hS)
  | sipush n =>
    obtain ⟨g1, g2⟩ := Bool.and_eq_true_iff.mp hok2
    have h1 : len = 3 := of_decide_eq_true g1
    clear g1 hok2
    subst h1
    have h2 : v = .int (Int16.ofInt n).toInt32 := of_decide_eq_true g2
    clear g2
    subst h2
    simp only [zstp] at hs
    simp only [Option.some.injEq, Sum.inl.injEq, Prod.mk.injEq] at hs
    obtain ⟨rfl, rfl, rfl, rfl⟩ := hs
    exact lv_sipush hx hb hdg rfl (hk H locs ls hl hP hD hS)
  | lconst n =>
    obtain ⟨g1, g2⟩ := Bool.and_eq_true_iff.mp hok2
    have h1 : len = 1 := of_decide_eq_true g1
    clear g1 hok2
    subst h1
    have h2 : v = .long (Int64.ofNat n.val) := of_decide_eq_true g2
    clear g2
    subst h2
    simp only [zstp] at hs
    simp only [Option.some.injEq, Sum.inl.injEq, Prod.mk.injEq] at hs
    obtain ⟨rfl, rfl, rfl, rfl⟩ := hs
    exact lv_lconst hx hb hdg rfl (hk H locs ls hl hP hD hS)
  | ldc ix =>
    obtain ⟨g1, g2⟩ := Bool.and_eq_true_iff.mp hok2
    have h1 : len = 2 := of_decide_eq_true g1
    clear g1 hok2
    subst h1
    cases v with
    | int x =>
      have h3 : zhasC (zow y) ix x = true := g2
      simp only [zstp] at hs
      simp only [Option.some.injEq, Sum.inl.injEq, Prod.mk.injEq] at hs
      obtain ⟨rfl, rfl, rfl, rfl⟩ := hs
      exact lv_ldc hx hb hown (hts _ (zhasC_ok h3)) hdg (hk H locs ls hl hP hD hS)
    | _ => exact absurd g2 Bool.false_ne_true
  | ldc_w ix =>
    obtain ⟨g1, g2⟩ := Bool.and_eq_true_iff.mp hok2
    have h1 : len = 3 := of_decide_eq_true g1
    clear g1 hok2
    subst h1
    cases v with
    | int x =>
      have h3 : zhasC (zow y) ix x = true := g2
      simp only [zstp] at hs
      simp only [Option.some.injEq, Sum.inl.injEq, Prod.mk.injEq] at hs
      obtain ⟨rfl, rfl, rfl, rfl⟩ := hs
      exact lv_ldcw hx hb hown (hts _ (zhasC_ok h3)) hdg (hk H locs ls hl hP hD hS)
    | _ => exact absurd g2 Bool.false_ne_true
  | ldc2_w ix =>
    obtain ⟨g1, g2⟩ := Bool.and_eq_true_iff.mp hok2
    have h1 : len = 3 := of_decide_eq_true g1
    clear g1 hok2
    subst h1
    cases v with
    | long x =>
      have h3 : zhasD (zow y) ix x = true := g2
      simp only [zstp] at hs
      simp only [Option.some.injEq, Sum.inl.injEq, Prod.mk.injEq] at hs
      obtain ⟨rfl, rfl, rfl, rfl⟩ := hs
      exact lv_ldc2 hx hb hown (hts _ (zhasD_ok h3)) hdg (hk H locs ls hl hP hD hS)
    | _ => exact absurd g2 Bool.false_ne_true
  | iload_n i =>
    obtain ⟨g1, g2⟩ := Bool.and_eq_true_iff.mp hok2
    have h1 : len = 1 := of_decide_eq_true g1
    clear g1 hok2
    subst h1
    have h2 : i.val = a := of_decide_eq_true g2
    clear g2
    simp only [zstp] at hs
    split at hs
    · rename_i x hL
      simp only [Option.some.injEq, Sum.inl.injEq, Prod.mk.injEq] at hs
      obtain ⟨rfl, rfl, rfl, rfl⟩ := hs
      exact lv_iload_n hx hb hdg h2 (zlv_i hl hL) (hk H locs ls hl hP hD hS)
    · cases hs
  | iload i =>
    obtain ⟨g1, g2⟩ := Bool.and_eq_true_iff.mp hok2
    have h1 : len = 2 := of_decide_eq_true g1
    clear g1 hok2
    subst h1
    have h2 : i = a := of_decide_eq_true g2
    clear g2
    subst h2
    simp only [zstp] at hs
    split at hs
    · rename_i x hL
      simp only [Option.some.injEq, Sum.inl.injEq, Prod.mk.injEq] at hs
      obtain ⟨rfl, rfl, rfl, rfl⟩ := hs
      exact lv_iload hx hb hdg (zlv_i hl hL) (hk H locs ls hl hP hD hS)
    · cases hs
  | aload_n i =>
    obtain ⟨g1, g2⟩ := Bool.and_eq_true_iff.mp hok2
    have h1 : len = 1 := of_decide_eq_true g1
    clear g1 hok2
    subst h1
    have h2 : i.val = a := of_decide_eq_true g2
    clear g2
    simp only [zstp] at hs
    split at hs
    · rename_i x hL
      simp only [Option.some.injEq, Sum.inl.injEq, Prod.mk.injEq] at hs
      obtain ⟨rfl, rfl, rfl, rfl⟩ := hs
      exact lv_aload_n hx hb hdg h2 (zlv_r hl hL) (hk H locs ls hl hP hD hS)
    · cases hs
  | lload_n i =>
    obtain ⟨g1, g2⟩ := Bool.and_eq_true_iff.mp hok2
    have h1 : len = 1 := of_decide_eq_true g1
    clear g1 hok2
    subst h1
    have h2 : i.val = a := of_decide_eq_true g2
    clear g2
    simp only [zstp] at hs
    split at hs
    · rename_i x hL
      split at hs
      · rename_i hL2
        simp only [Option.some.injEq, Sum.inl.injEq, Prod.mk.injEq] at hs
        obtain ⟨rfl, rfl, rfl, rfl⟩ := hs
        exact lv_lload_n hx hb hdg h2 (zlv_l hl hL hL2) (hk H locs ls hl hP hD hS)
      · cases hs
    · cases hs
  | lload i =>
    obtain ⟨g1, g2⟩ := Bool.and_eq_true_iff.mp hok2
    have h1 : len = 2 := of_decide_eq_true g1
    clear g1 hok2
    subst h1
    have h2 : i = a := of_decide_eq_true g2
    clear g2
    subst h2
    simp only [zstp] at hs
    split at hs
    · rename_i x hL
      split at hs
      · rename_i hL2
        simp only [Option.some.injEq, Sum.inl.injEq, Prod.mk.injEq] at hs
        obtain ⟨rfl, rfl, rfl, rfl⟩ := hs
        exact lv_lload hx hb hdg (zlv_l hl hL hL2) (hk H locs ls hl hP hD hS)
      · cases hs
    · cases hs
  | istore_n i =>
    obtain ⟨g1, g2⟩ := Bool.and_eq_true_iff.mp hok2
    have h1 : len = 1 := of_decide_eq_true g1
    clear g1 hok2
    subst h1
    have h2 : i.val = a := of_decide_eq_true g2
    clear g2
    simp only [zstp] at hs
    split at hs
    · rename_i x S2
      split at hs
      · rename_i hlt
        simp only [Option.some.injEq, Sum.inl.injEq, Prod.mk.injEq] at hs
        obtain ⟨rfl, rfl, rfl, rfl⟩ := hs
        obtain ⟨lv, hlv1, hlv2⟩ := zlv_list hl
        exact lv_istore_n hx hb hdg h2 hlv1 (by rw [← hl.2.1]; exact hlt) rfl (fun ls1 h1 => hk H locs ls1 (zlv_set1 (v := .int x) hl hlv2 (by intro q; cases q) h1) hP hD hS)
      · cases hs
    · cases hs
  | istore i =>
    obtain ⟨g1, g2⟩ := Bool.and_eq_true_iff.mp hok2
    have h1 : len = 2 := of_decide_eq_true g1
    clear g1 hok2
    subst h1
    have h2 : i = a := of_decide_eq_true g2
    clear g2
    subst h2
    simp only [zstp] at hs
    split at hs
    · rename_i x S2
      split at hs
      · rename_i hlt
        simp only [Option.some.injEq, Sum.inl.injEq, Prod.mk.injEq] at hs
        obtain ⟨rfl, rfl, rfl, rfl⟩ := hs
        obtain ⟨lv, hlv1, hlv2⟩ := zlv_list hl
        exact lv_istore hx hb hdg hlv1 (by rw [← hl.2.1]; exact hlt) rfl (fun ls1 h1 => hk H locs ls1 (zlv_set1 (v := .int x) hl hlv2 (by intro q; cases q) h1) hP hD hS)
      · cases hs
    · cases hs
  | astore_n i =>
    obtain ⟨g1, g2⟩ := Bool.and_eq_true_iff.mp hok2
    have h1 : len = 1 := of_decide_eq_true g1
    clear g1 hok2
    subst h1
    have h2 : i.val = a := of_decide_eq_true g2
    clear g2
    simp only [zstp] at hs
    split at hs
    · rename_i x S2
      split at hs
      · rename_i hlt
        simp only [Option.some.injEq, Sum.inl.injEq, Prod.mk.injEq] at hs
        obtain ⟨rfl, rfl, rfl, rfl⟩ := hs
        obtain ⟨lv, hlv1, hlv2⟩ := zlv_list hl
        exact lv_astore_n hx hb hdg h2 hlv1 (by rw [← hl.2.1]; exact hlt) rfl (fun ls1 h1 => hk H locs ls1 (zlv_set1 (v := .ref x) hl hlv2 (by intro q; cases q) h1) hP hD hS)
      · cases hs
    · cases hs
  | lstore_n i =>
    obtain ⟨g1, g2⟩ := Bool.and_eq_true_iff.mp hok2
    have h1 : len = 1 := of_decide_eq_true g1
    clear g1 hok2
    subst h1
    have h2 : i.val = a := of_decide_eq_true g2
    clear g2
    simp only [zstp] at hs
    split at hs
    · rename_i x S2
      split at hs
      · rename_i hlt
        simp only [Option.some.injEq, Sum.inl.injEq, Prod.mk.injEq] at hs
        obtain ⟨rfl, rfl, rfl, rfl⟩ := hs
        obtain ⟨lv, hlv1, hlv2⟩ := zlv_list hl
        exact lv_lstore_n hx hb hdg h2 hlv1 (by rw [← hl.2.1]; exact hlt) rfl (fun ls1 h1 => hk H locs ls1 (zlv_set2 hl hlt hlv2 h1) hP hD hS)
      · cases hs
    · cases hs
  | iinc i n =>
    obtain ⟨g1, g2⟩ := Bool.and_eq_true_iff.mp hok2
    have h1 : len = 3 := of_decide_eq_true g1
    clear g1 hok2
    subst h1
    obtain ⟨g3, g4⟩ := Bool.and_eq_true_iff.mp g2
    have h2 : i = a := of_decide_eq_true g3
    have h3 : v = .int (Int32.ofInt n) := of_decide_eq_true g4
    clear g2 g3 g4
    subst h2
    subst h3
    simp only [zstp] at hs
    split at hs
    · rename_i x hL
      simp only [Option.some.injEq, Sum.inl.injEq, Prod.mk.injEq] at hs
      obtain ⟨rfl, rfl, rfl, rfl⟩ := hs
      obtain ⟨lv, hlv1, hlv2⟩ := zlv_list hl
      have hm : (i, Value.int x) ∈ lv := by
        rcases hlv2 i _ hL with q | q | q
        · cases q
        · exact absurd q.1 (by simp [Value.category])
        · exact q
      obtain ⟨kx, hkx⟩ := List.getElem?_of_mem hm
      have hlt : i < L.length := (List.getElem?_eq_some_iff.mp hL).1
      exact lv_iinc hx hb hdg hlv1 hkx rfl (by rw [← hl.2.1]; exact hlt) rfl (fun ls1 h1 => hk H locs ls1 (zlv_set1 (v := .int (x + Int32.ofInt n)) hl hlv2 (by intro q; cases q) h1) hP hD hS)
    · cases hs
  | iadd =>
    have h1 : len = 1 := of_decide_eq_true hok2
    subst h1
    simp only [zstp] at hs
    split at hs
    · rename_i y1 x1 S2
      simp only [Option.some.injEq, Sum.inl.injEq, Prod.mk.injEq] at hs
      obtain ⟨rfl, rfl, rfl, rfl⟩ := hs
      exact lv_iadd hx hb hdg (hk H locs ls hl hP hD hS)
    · cases hs
  | isub =>
    have h1 : len = 1 := of_decide_eq_true hok2
    subst h1
    simp only [zstp] at hs
    split at hs
    · rename_i y1 x1 S2
      simp only [Option.some.injEq, Sum.inl.injEq, Prod.mk.injEq] at hs
      obtain ⟨rfl, rfl, rfl, rfl⟩ := hs
      exact lv_isub hx hb hdg (hk H locs ls hl hP hD hS)
    · cases hs
  | imul =>
    have h1 : len = 1 := of_decide_eq_true hok2
    subst h1
    simp only [zstp] at hs
    split at hs
    · rename_i y1 x1 S2
      simp only [Option.some.injEq, Sum.inl.injEq, Prod.mk.injEq] at hs
      obtain ⟨rfl, rfl, rfl, rfl⟩ := hs
      exact lv_imul hx hb hdg (hk H locs ls hl hP hD hS)
    · cases hs
  | iand =>
    have h1 : len = 1 := of_decide_eq_true hok2
    subst h1
    simp only [zstp] at hs
    split at hs
    · rename_i y1 x1 S2
      simp only [Option.some.injEq, Sum.inl.injEq, Prod.mk.injEq] at hs
      obtain ⟨rfl, rfl, rfl, rfl⟩ := hs
      exact lv_iand hx hb hdg (hk H locs ls hl hP hD hS)
    · cases hs
  | ior =>
    have h1 : len = 1 := of_decide_eq_true hok2
    subst h1
    simp only [zstp] at hs
    split at hs
    · rename_i y1 x1 S2
      simp only [Option.some.injEq, Sum.inl.injEq, Prod.mk.injEq] at hs
      obtain ⟨rfl, rfl, rfl, rfl⟩ := hs
      exact lv_ior hx hb hdg (hk H locs ls hl hP hD hS)
    · cases hs
  | ixor =>
    have h1 : len = 1 := of_decide_eq_true hok2
    subst h1
    simp only [zstp] at hs
    split at hs
    · rename_i y1 x1 S2
      simp only [Option.some.injEq, Sum.inl.injEq, Prod.mk.injEq] at hs
      obtain ⟨rfl, rfl, rfl, rfl⟩ := hs
      exact lv_ixor hx hb hdg (hk H locs ls hl hP hD hS)
    · cases hs
  | ishl =>
    have h1 : len = 1 := of_decide_eq_true hok2
    subst h1
    simp only [zstp] at hs
    split at hs
    · rename_i y1 x1 S2
      simp only [Option.some.injEq, Sum.inl.injEq, Prod.mk.injEq] at hs
      obtain ⟨rfl, rfl, rfl, rfl⟩ := hs
      exact lv_ishl hx hb hdg (hk H locs ls hl hP hD hS)
    · cases hs
  | ishr =>
    have h1 : len = 1 := of_decide_eq_true hok2
    subst h1
    simp only [zstp] at hs
    split at hs
    · rename_i y1 x1 S2
      simp only [Option.some.injEq, Sum.inl.injEq, Prod.mk.injEq] at hs
      obtain ⟨rfl, rfl, rfl, rfl⟩ := hs
      exact lv_ishr hx hb hdg (hk H locs ls hl hP hD hS)
    · cases hs
  | ladd =>
    have h1 : len = 1 := of_decide_eq_true hok2
    subst h1
    simp only [zstp] at hs
    split at hs
    · rename_i y1 x1 S2
      simp only [Option.some.injEq, Sum.inl.injEq, Prod.mk.injEq] at hs
      obtain ⟨rfl, rfl, rfl, rfl⟩ := hs
      exact lv_ladd hx hb hdg (hk H locs ls hl hP hD hS)
    · cases hs
  | lmul =>
    have h1 : len = 1 := of_decide_eq_true hok2
    subst h1
    simp only [zstp] at hs
    split at hs
    · rename_i y1 x1 S2
      simp only [Option.some.injEq, Sum.inl.injEq, Prod.mk.injEq] at hs
      obtain ⟨rfl, rfl, rfl, rfl⟩ := hs
      exact lv_lmul hx hb hdg (hk H locs ls hl hP hD hS)
    · cases hs
  | iushr =>
    have h1 : len = 1 := of_decide_eq_true hok2
    subst h1
    simp only [zstp] at hs
    split at hs
    · rename_i y1 x1 S2
      simp only [Option.some.injEq, Sum.inl.injEq, Prod.mk.injEq] at hs
      obtain ⟨rfl, rfl, rfl, rfl⟩ := hs
      exact lv_iushr hx hb hdg rfl (hk H locs ls hl hP hD hS)
    · cases hs
  | lcmp =>
    have h1 : len = 1 := of_decide_eq_true hok2
    subst h1
    simp only [zstp] at hs
    split at hs
    · rename_i y1 x1 S2
      simp only [Option.some.injEq, Sum.inl.injEq, Prod.mk.injEq] at hs
      obtain ⟨rfl, rfl, rfl, rfl⟩ := hs
      exact W.lcmp hx hb hdg (hk H locs ls hl hP hD hS)
    · cases hs
  | idiv =>
    have h1 : len = 1 := of_decide_eq_true hok2
    subst h1
    simp only [zstp] at hs
    split at hs
    · rename_i y1 x1 S2
      split at hs
      · cases hs
      · rename_i hne
        simp only [Option.some.injEq, Sum.inl.injEq, Prod.mk.injEq] at hs
        obtain ⟨rfl, rfl, rfl, rfl⟩ := hs
        exact lv_idiv hx hb hdg hne (hk H locs ls hl hP hD hS)
    · cases hs
  | irem =>
    have h1 : len = 1 := of_decide_eq_true hok2
    subst h1
    simp only [zstp] at hs
    split at hs
    · rename_i y1 x1 S2
      split at hs
      · cases hs
      · rename_i hne
        simp only [Option.some.injEq, Sum.inl.injEq, Prod.mk.injEq] at hs
        obtain ⟨rfl, rfl, rfl, rfl⟩ := hs
        exact lv_irem hx hb hdg hne (hk H locs ls hl hP hD hS)
    · cases hs
  | ldiv =>
    have h1 : len = 1 := of_decide_eq_true hok2
    subst h1
    simp only [zstp] at hs
    split at hs
    · rename_i y1 x1 S2
      split at hs
      · cases hs
      · rename_i hne
        simp only [Option.some.injEq, Sum.inl.injEq, Prod.mk.injEq] at hs
        obtain ⟨rfl, rfl, rfl, rfl⟩ := hs
        exact lv_ldiv hx hb hdg hne (hk H locs ls hl hP hD hS)
    · cases hs
  | lrem =>
    have h1 : len = 1 := of_decide_eq_true hok2
    subst h1
    simp only [zstp] at hs
    split at hs
    · rename_i y1 x1 S2
      split at hs
      · cases hs
      · rename_i hne
        simp only [Option.some.injEq, Sum.inl.injEq, Prod.mk.injEq] at hs
        obtain ⟨rfl, rfl, rfl, rfl⟩ := hs
        exact lv_lrem hx hb hdg hne (hk H locs ls hl hP hD hS)
    · cases hs
  | ineg =>
    have h1 : len = 1 := of_decide_eq_true hok2
    subst h1
    simp only [zstp] at hs
    split at hs
    · rename_i x1 S2
      simp only [Option.some.injEq, Sum.inl.injEq, Prod.mk.injEq] at hs
      obtain ⟨rfl, rfl, rfl, rfl⟩ := hs
      exact lv_ineg hx hb hdg (hk H locs ls hl hP hD hS)
    · cases hs
  | i2l =>
    have h1 : len = 1 := of_decide_eq_true hok2
    subst h1
    simp only [zstp] at hs
    split at hs
    · rename_i x1 S2
      simp only [Option.some.injEq, Sum.inl.injEq, Prod.mk.injEq] at hs
      obtain ⟨rfl, rfl, rfl, rfl⟩ := hs
      exact lv_i2l hx hb hdg rfl (hk H locs ls hl hP hD hS)
    · cases hs
  | l2i =>
    have h1 : len = 1 := of_decide_eq_true hok2
    subst h1
    simp only [zstp] at hs
    split at hs
    · rename_i x1 S2
      simp only [Option.some.injEq, Sum.inl.injEq, Prod.mk.injEq] at hs
      obtain ⟨rfl, rfl, rfl, rfl⟩ := hs
      exact lv_l2i hx hb hdg rfl (hk H locs ls hl hP hD hS)
    · cases hs
  | dup =>
    have h1 : len = 1 := of_decide_eq_true hok2
    subst h1
    simp only [zstp] at hs
    split at hs
    · rename_i x1 S2
      simp only [Option.some.injEq, Sum.inl.injEq, Prod.mk.injEq] at hs
      obtain ⟨rfl, rfl, rfl, rfl⟩ := hs
      exact lv_dup hx hb hdg rfl (hk H locs ls hl hP hD hS)
    · rename_i x1 S2
      simp only [Option.some.injEq, Sum.inl.injEq, Prod.mk.injEq] at hs
      obtain ⟨rfl, rfl, rfl, rfl⟩ := hs
      exact lv_dup hx hb hdg rfl (hk H locs ls hl hP hD hS)
    · cases hs
  | dup2 =>
    have h1 : len = 1 := of_decide_eq_true hok2
    subst h1
    simp only [zstp] at hs
    split at hs
    · rename_i y1 x1 S2
      simp only [Option.some.injEq, Sum.inl.injEq, Prod.mk.injEq] at hs
      obtain ⟨rfl, rfl, rfl, rfl⟩ := hs
      exact lv_dup2_11 hx hb hdg rfl rfl (hk H locs ls hl hP hD hS)
    · cases hs
  | goto o =>
    obtain ⟨g1, g2⟩ := Bool.and_eq_true_iff.mp hok2
    have h1 : len = 3 := of_decide_eq_true g1
    clear g1 hok2
    subst h1
    have h2 : (pc : Int) + o = (a : Int) := of_decide_eq_true g2
    clear g2
    simp only [zstp] at hs
    simp only [Option.some.injEq, Sum.inl.injEq, Prod.mk.injEq] at hs
    obtain ⟨rfl, rfl, rfl, rfl⟩ := hs
    exact lv_goto hx hb hdg h2 (hk H locs ls hl hP hD hS)
  | if_icmp cd o =>
    obtain ⟨g1, g2⟩ := Bool.and_eq_true_iff.mp hok2
    have h1 : len = 3 := of_decide_eq_true g1
    clear g1 hok2
    subst h1
    have h2 : (pc : Int) + o = (a : Int) := of_decide_eq_true g2
    clear g2
    simp only [zstp] at hs
    split at hs
    · rename_i y1 x1 S2
      cases cd with
      | eq =>
        simp only [zcb, decide_eq_true_eq] at hs
        refine lv_icmp_eq hx hb hdg h2 (fun hc => ?_) (fun hc => ?_)
        · rw [if_pos hc] at hs
          simp only [Option.some.injEq, Sum.inl.injEq, Prod.mk.injEq] at hs
          obtain ⟨rfl, rfl, rfl, rfl⟩ := hs
          exact hk H locs ls hl hP hD hS
        · rw [if_neg hc] at hs
          simp only [Option.some.injEq, Sum.inl.injEq, Prod.mk.injEq] at hs
          obtain ⟨rfl, rfl, rfl, rfl⟩ := hs
          exact hk H locs ls hl hP hD hS
      | ne =>
        simp only [zcb, decide_eq_true_eq] at hs
        refine lv_icmp_ne hx hb hdg h2 (fun hc => ?_) (fun hc => ?_)
        · rw [if_pos hc] at hs
          simp only [Option.some.injEq, Sum.inl.injEq, Prod.mk.injEq] at hs
          obtain ⟨rfl, rfl, rfl, rfl⟩ := hs
          exact hk H locs ls hl hP hD hS
        · rw [if_neg (fun q => q hc)] at hs
          simp only [Option.some.injEq, Sum.inl.injEq, Prod.mk.injEq] at hs
          obtain ⟨rfl, rfl, rfl, rfl⟩ := hs
          exact hk H locs ls hl hP hD hS
      | lt =>
        simp only [zcb, decide_eq_true_eq] at hs
        refine lv_icmp_lt hx hb hdg h2 (fun hc => ?_) (fun hc => ?_)
        · rw [if_pos hc] at hs
          simp only [Option.some.injEq, Sum.inl.injEq, Prod.mk.injEq] at hs
          obtain ⟨rfl, rfl, rfl, rfl⟩ := hs
          exact hk H locs ls hl hP hD hS
        · rw [if_neg hc] at hs
          simp only [Option.some.injEq, Sum.inl.injEq, Prod.mk.injEq] at hs
          obtain ⟨rfl, rfl, rfl, rfl⟩ := hs
          exact hk H locs ls hl hP hD hS
      | ge =>
        simp only [zcb, decide_eq_true_eq] at hs
        refine lv_icmp_ge hx hb hdg h2 (fun hc => ?_) (fun hc => ?_)
        · rw [if_pos hc] at hs
          simp only [Option.some.injEq, Sum.inl.injEq, Prod.mk.injEq] at hs
          obtain ⟨rfl, rfl, rfl, rfl⟩ := hs
          exact hk H locs ls hl hP hD hS
        · rw [if_neg hc] at hs
          simp only [Option.some.injEq, Sum.inl.injEq, Prod.mk.injEq] at hs
          obtain ⟨rfl, rfl, rfl, rfl⟩ := hs
          exact hk H locs ls hl hP hD hS
      | gt =>
        simp only [zcb, decide_eq_true_eq] at hs
        refine lv_icmp_gt hx hb hdg h2 (fun hc => ?_) (fun hc => ?_)
        · rw [if_pos hc] at hs
          simp only [Option.some.injEq, Sum.inl.injEq, Prod.mk.injEq] at hs
          obtain ⟨rfl, rfl, rfl, rfl⟩ := hs
          exact hk H locs ls hl hP hD hS
        · rw [if_neg hc] at hs
          simp only [Option.some.injEq, Sum.inl.injEq, Prod.mk.injEq] at hs
          obtain ⟨rfl, rfl, rfl, rfl⟩ := hs
          exact hk H locs ls hl hP hD hS
      | le =>
        simp only [zcb, decide_eq_true_eq] at hs
        refine lv_icmp_le hx hb hdg h2 (fun hc => ?_) (fun hc => ?_)
        · rw [if_pos hc] at hs
          simp only [Option.some.injEq, Sum.inl.injEq, Prod.mk.injEq] at hs
          obtain ⟨rfl, rfl, rfl, rfl⟩ := hs
          exact hk H locs ls hl hP hD hS
        · rw [if_neg hc] at hs
          simp only [Option.some.injEq, Sum.inl.injEq, Prod.mk.injEq] at hs
          obtain ⟨rfl, rfl, rfl, rfl⟩ := hs
          exact hk H locs ls hl hP hD hS
    · cases hs
  | ifCond cd o =>
    obtain ⟨g1, g2⟩ := Bool.and_eq_true_iff.mp hok2
    have h1 : len = 3 := of_decide_eq_true g1
    clear g1 hok2
    subst h1
    have h2 : (pc : Int) + o = (a : Int) := of_decide_eq_true g2
    clear g2
    simp only [zstp] at hs
    split at hs
    · rename_i x1 S2
      cases cd with
      | eq =>
        simp only [zcb, decide_eq_true_eq] at hs
        refine lv_if_eq hx hb hdg h2 (fun hc => ?_) (fun hc => ?_)
        · rw [if_pos hc] at hs
          simp only [Option.some.injEq, Sum.inl.injEq, Prod.mk.injEq] at hs
          obtain ⟨rfl, rfl, rfl, rfl⟩ := hs
          exact hk H locs ls hl hP hD hS
        · rw [if_neg hc] at hs
          simp only [Option.some.injEq, Sum.inl.injEq, Prod.mk.injEq] at hs
          obtain ⟨rfl, rfl, rfl, rfl⟩ := hs
          exact hk H locs ls hl hP hD hS
      | ne =>
        simp only [zcb, decide_eq_true_eq] at hs
        refine lv_if_ne hx hb hdg h2 (fun hc => ?_) (fun hc => ?_)
        · rw [if_pos hc] at hs
          simp only [Option.some.injEq, Sum.inl.injEq, Prod.mk.injEq] at hs
          obtain ⟨rfl, rfl, rfl, rfl⟩ := hs
          exact hk H locs ls hl hP hD hS
        · rw [if_neg (fun q => q hc)] at hs
          simp only [Option.some.injEq, Sum.inl.injEq, Prod.mk.injEq] at hs
          obtain ⟨rfl, rfl, rfl, rfl⟩ := hs
          exact hk H locs ls hl hP hD hS
      | lt =>
        simp only [zcb, decide_eq_true_eq] at hs
        refine lv_if_lt hx hb hdg h2 (fun hc => ?_) (fun hc => ?_)
        · rw [if_pos hc] at hs
          simp only [Option.some.injEq, Sum.inl.injEq, Prod.mk.injEq] at hs
          obtain ⟨rfl, rfl, rfl, rfl⟩ := hs
          exact hk H locs ls hl hP hD hS
        · rw [if_neg hc] at hs
          simp only [Option.some.injEq, Sum.inl.injEq, Prod.mk.injEq] at hs
          obtain ⟨rfl, rfl, rfl, rfl⟩ := hs
          exact hk H locs ls hl hP hD hS
      | ge =>
        simp only [zcb, decide_eq_true_eq] at hs
        refine lv_if_ge hx hb hdg h2 (fun hc => ?_) (fun hc => ?_)
        · rw [if_pos hc] at hs
          simp only [Option.some.injEq, Sum.inl.injEq, Prod.mk.injEq] at hs
          obtain ⟨rfl, rfl, rfl, rfl⟩ := hs
          exact hk H locs ls hl hP hD hS
        · rw [if_neg hc] at hs
          simp only [Option.some.injEq, Sum.inl.injEq, Prod.mk.injEq] at hs
          obtain ⟨rfl, rfl, rfl, rfl⟩ := hs
          exact hk H locs ls hl hP hD hS
      | gt =>
        simp only [zcb, decide_eq_true_eq] at hs
        refine lv_if_gt hx hb hdg h2 (fun hc => ?_) (fun hc => ?_)
        · rw [if_pos hc] at hs
          simp only [Option.some.injEq, Sum.inl.injEq, Prod.mk.injEq] at hs
          obtain ⟨rfl, rfl, rfl, rfl⟩ := hs
          exact hk H locs ls hl hP hD hS
        · rw [if_neg hc] at hs
          simp only [Option.some.injEq, Sum.inl.injEq, Prod.mk.injEq] at hs
          obtain ⟨rfl, rfl, rfl, rfl⟩ := hs
          exact hk H locs ls hl hP hD hS
      | le =>
        simp only [zcb, decide_eq_true_eq] at hs
        refine lv_if_le hx hb hdg h2 (fun hc => ?_) (fun hc => ?_)
        · rw [if_pos hc] at hs
          simp only [Option.some.injEq, Sum.inl.injEq, Prod.mk.injEq] at hs
          obtain ⟨rfl, rfl, rfl, rfl⟩ := hs
          exact hk H locs ls hl hP hD hS
        · rw [if_neg hc] at hs
          simp only [Option.some.injEq, Sum.inl.injEq, Prod.mk.injEq] at hs
          obtain ⟨rfl, rfl, rfl, rfl⟩ := hs
          exact hk H locs ls hl hP hD hS
    · cases hs
  | tableswitch d lo hi os =>
    obtain ⟨g1, g2⟩ := Bool.and_eq_true_iff.mp hok2
    obtain ⟨h2, g3⟩ := Bool.and_eq_true_iff.mp g2
    obtain ⟨g4, g5⟩ := Bool.and_eq_true_iff.mp g3
    obtain ⟨g6, g7⟩ := Bool.and_eq_true_iff.mp g5
    have h1 : 0 ≤ (pc : Int) + d := of_decide_eq_true g1
    have h3 : (os.toList.length : Int) = hi - lo + 1 := of_decide_eq_true g4
    have h4 : -2147483648 ≤ lo := of_decide_eq_true g6
    have h5 : hi < 2147483648 := of_decide_eq_true g7
    clear g1 g2 g3 g4 g5 g6 g7 hok2
    simp only [zstp] at hs
    split at hs
    · rename_i x1 S2
      rw [zsw_tb pc os.toList lo _ x1 h4 (by omega)] at hs
      simp only [Option.some.injEq, Sum.inl.injEq, Prod.mk.injEq] at hs
      obtain ⟨rfl, rfl, rfl, rfl⟩ := hs
      by_cases hc : x1.toInt < lo ∨ lo + os.toList.length ≤ x1.toInt
      · rw [if_pos hc] at hk
        exact lv_tableOut hx hb hdg (by omega) (by omega) (hk H locs ls hl hP hD hS)
      · rw [if_neg hc] at hk
        have hlt : (x1.toInt - lo).toNat < os.toList.length := by omega
        have hge : os[(x1.toInt - lo).toNat]? = some (os.toList[(x1.toInt - lo).toNat]) := by
          rw [← Array.getElem?_toList]
          exact List.getElem?_eq_getElem hlt
        rw [List.getElem?_eq_getElem hlt] at hk
        have hp := of_decide_eq_true (List.all_eq_true.mp h2 _ (List.getElem_mem hlt))
        have hp : 0 ≤ (pc : Int) + os.toList[(x1.toInt - lo).toNat] := hp
        exact lv_tableIn hx hb hdg (by omega) (by omega) hge (by rw [Option.getD_some, Int.toNat_of_nonneg hp]) (hk H locs ls hl hP hD hS)
    · cases hs
  | lookupswitch d ps =>
    obtain ⟨g1, g2⟩ := Bool.and_eq_true_iff.mp hok2
    obtain ⟨h2, h3⟩ := Bool.and_eq_true_iff.mp g2
    have h1 : 0 ≤ (pc : Int) + d := of_decide_eq_true g1
    clear g1 g2 hok2
    have h4 : ∀ q ∈ ps.toList, 0 ≤ (pc : Int) + q.2 ∧ -2147483648 ≤ q.1 ∧ q.1 < 2147483648 := by
      intro q hq
      have h := List.all_eq_true.mp h2 q hq
      obtain ⟨a1, a2⟩ := Bool.and_eq_true_iff.mp h
      obtain ⟨a2, a3⟩ := Bool.and_eq_true_iff.mp a2
      exact ⟨of_decide_eq_true a1, of_decide_eq_true a2, of_decide_eq_true a3⟩
    simp only [zstp] at hs
    split at hs
    · rename_i x1 S2
      rw [zsw_lk pc ps.toList d x1 (fun q hq => (h4 q hq).2)] at hs
      simp only [Option.some.injEq, Sum.inl.injEq, Prod.mk.injEq] at hs
      obtain ⟨rfl, rfl, rfl, rfl⟩ := hs
      have hp : 0 ≤ (pc : Int) + Op.lookupswitch.offset ps.toList d x1.toInt := zlk_pos (fun q hq => (h4 q hq).1) h1
      exact lv_lookup hx hb hdg h3 rfl (by rw [Int.toNat_of_nonneg hp]) (hk H locs ls hl hP hD hS)
    · cases hs
  | getfield ix =>
    obtain ⟨g1, g2⟩ := Bool.and_eq_true_iff.mp hok2
    have h1 : len = 3 := of_decide_eq_true g1
    clear g1 hok2
    subst h1
    obtain ⟨h3, h4, h5⟩ := zhasF_ok g2
    simp only [zstp] at hs
    split at hs
    · rename_i i S2
      split at hs
      · rename_i hkd
        simp only [Option.some.injEq, Sum.inl.injEq, Prod.mk.injEq] at hs
        obtain ⟨rfl, rfl, rfl, rfl⟩ := hs
        have hlt : i < zN := zkd_lt (by rw [hkd]; exact Nat.zero_le 3)
        obtain ⟨hcl, ha⟩ := zcs_ok h5
        exact va_get (D := D) (ci := a) (C := (zcs a).1) (T := (zcs a).2.1) (N := (zcs a).2.2) hx hb hts (zuin a ha) hown hK hP i (by rw [zws_at hlt, zcell_0 hkd]) hcl b h5 (hts _ h3) (fun q hq => by rw [← h4]; exact hq) (by rw [List.getElem?_map, List.getElem?_range (zft_len h5).1]; rfl) hdg (hk H locs ls hl hP hD hS)
      · cases hs
    · cases hs
  | putfield ix =>
    obtain ⟨g1, g2⟩ := Bool.and_eq_true_iff.mp hok2
    have h1 : len = 3 := of_decide_eq_true g1
    clear g1 hok2
    subst h1
    obtain ⟨g3, g4⟩ := Bool.and_eq_true_iff.mp g2
    have h6 : ((zcs a).2.1 b).2.2.2 = false := of_decide_eq_true g4
    obtain ⟨h3, h4, h5⟩ := zhasF_ok g3
    obtain ⟨hcl, ha⟩ := zcs_ok h5
    obtain ⟨ty0, hty0⟩ := zty a ha
    simp only [zstp] at hs
    split at hs
    · rename_i x i S2
      split at hs
      · rename_i hkd
        have hlt : i < zN := zkd_lt (by rw [hkd]; exact Nat.zero_le 3)
        split at hs
        · rename_i hft
          simp only [Option.some.injEq, Sum.inl.injEq, Prod.mk.injEq] at hs
          obtain ⟨rfl, rfl, rfl, rfl⟩ := hs
          have hft0 : zft a b = 0 ∨ zft a b = 3 := by
            rcases hft with q | q
            · exact Or.inl q
            · exact Or.inr q.1
          have hval : zmv as (zgf i a b (zst X i (upd (X i) b x))) = .int x := by
            rw [zgf_i hft0, zst_at]
            show Value.int (upd (X i) b x b) = _
            rw [pk_us]
          have hd := zft_ty h5
          have hnf : narrow (match zft a b with | 0 => .int | 3 => .boolean | _ => (match ((zcs a).2.1 b).2.2.1 with | "[I" => .array .int | d => (parseFieldDescriptor d).getD .int)) (.int x) = .int x ∧ fits (match zft a b with | 0 => .int | 3 => .boolean | _ => (match ((zcs a).2.1 b).2.2.1 with | "[I" => .array .int | d => (parseFieldDescriptor d).getD .int)) (.int x) = true := by
            rcases hft with q | ⟨q, hx01⟩
            · simp only [q]
              exact ⟨rfl, rfl⟩
            · simp only [q]
              rcases hx01 with rfl | rfl <;> exact ⟨by decide, by decide⟩
          refine va_put (D := D) (ci := a) (C := (zcs a).1) (T := (zcs a).2.1) (N := (zcs a).2.2) hx hb hts (zuin a ha) ty0 hty0 (znmn a ha) hown hK hP hD hS i (by rw [zws_at hlt, zcell_0 hkd]) hcl b h5 (hts _ h3) (fun q hq => by rw [← h4]; exact hq) h6 hd hnf.1 hnf.2 (by simp; simpa using (zft_len h5).1) hdg (fun H1 locs1 hP1 hD1 hS1 => ?_)
          rw [show zmv as (Value.int x) = .int x from rfl, zfs_set x hval, ← zcell_0 (as := as) (ca := ca) (X := zst X i (upd (X i) b x)) hkd, zws_set _ hlt] at hP1 hD1
          exact hk H1 locs1 ls hl hP1 hD1 hS1
        · cases hs
      · cases hs
    · rename_i j i S2
      split at hs
      · rename_i hkd
        have hlt : i < zN := zkd_lt (by rw [hkd]; exact Nat.zero_le 3)
        split at hs
        · rename_i hft
          simp only [Option.some.injEq, Sum.inl.injEq, Prod.mk.injEq] at hs
          obtain ⟨rfl, rfl, rfl, rfl⟩ := hs
          have hjs : j < 2 ^ 31 := Nat.lt_trans hft.2 (by decide)
          have hval : zmv as (zgf i a b (zst X i (upd (X i) b (nI j)))) = .ref (as j) := by
            rw [zgf_d hft.1, zst_at]
            show Value.ref (as (upd (X i) b (nI j) b).toNatClampNeg) = _
            rw [pk_us, nI_clamp hjs]
          have hd := zft_ty h5
          have hnf : narrow (match zft a b with | 0 => .int | 3 => .boolean | _ => (match ((zcs a).2.1 b).2.2.1 with | "[I" => .array .int | d => (parseFieldDescriptor d).getD .int)) (.ref (as j)) = .ref (as j) ∧ fits (match zft a b with | 0 => .int | 3 => .boolean | _ => (match ((zcs a).2.1 b).2.2.1 with | "[I" => .array .int | d => (parseFieldDescriptor d).getD .int)) (.ref (as j)) = true := by
            have hai : ((zcs a).2.1 b).2.2.1 = "[I" := zdyn a ha b h5 hft.1
            simp only [hft.1, hai]
            exact ⟨rfl, rfl⟩
          refine va_put (D := D) (ci := a) (C := (zcs a).1) (T := (zcs a).2.1) (N := (zcs a).2.2) hx hb hts (zuin a ha) ty0 hty0 (znmn a ha) hown hK hP hD hS i (by rw [zws_at hlt, zcell_0 hkd]) hcl b h5 (hts _ h3) (fun q hq => by rw [← h4]; exact hq) h6 hd hnf.1 hnf.2 (by simp; simpa using (zft_len h5).1) hdg (fun H1 locs1 hP1 hD1 hS1 => ?_)
          rw [show zmv as (Value.ref j) = .ref (as j) from rfl, zfs_set (nI j) hval, ← zcell_0 (as := as) (ca := ca) (X := zst X i (upd (X i) b (nI j))) hkd, zws_set _ hlt] at hP1 hD1
          exact hk H1 locs1 ls hl hP1 hD1 hS1
        · cases hs
      · cases hs
    · cases hs
  | iaload =>
    have h1 : len = 1 := of_decide_eq_true hok2
    subst h1
    simp only [zstp] at hs
    split at hs
    · rename_i j i S2
      split at hs
      · rename_i hc
        simp only [Option.some.injEq, Sum.inl.injEq, Prod.mk.injEq] at hs
        obtain ⟨rfl, rfl, rfl, rfl⟩ := hs
        have hlt : i < zN := zkd_lt (by rw [hc.1]; decide)
        exact va_iald  hx hb hK hP i i (by rw [zws_at hlt, zcell_1 hc.1]) (by rw [ztys_at hlt, zet_1 hc.1]) hc.2 hdg (hk H locs ls hl hP hD hS)
      · cases hs
    · cases hs
  | baload =>
    have h1 : len = 1 := of_decide_eq_true hok2
    subst h1
    simp only [zstp] at hs
    split at hs
    · rename_i j i S2
      split at hs
      · rename_i hc
        simp only [Option.some.injEq, Sum.inl.injEq, Prod.mk.injEq] at hs
        obtain ⟨rfl, rfl, rfl, rfl⟩ := hs
        have hlt : i < zN := zkd_lt (by rw [hc.1]; decide)
        exact va_zald  hx hb hK hP i i (by rw [zws_at hlt, zcell_2 hc.1]) (by rw [ztys_at hlt, zet_2 hc.1]) hc.2 hdg (hk H locs ls hl hP hD hS)
      · cases hs
    · cases hs
  | aaload =>
    have h1 : len = 1 := of_decide_eq_true hok2
    subst h1
    simp only [zstp] at hs
    split at hs
    · rename_i j i S2
      split at hs
      · rename_i hc
        simp only [Option.some.injEq, Sum.inl.injEq, Prod.mk.injEq] at hs
        obtain ⟨rfl, rfl, rfl, rfl⟩ := hs
        have hlt : i < zN := zkd_lt (by rw [hc.1]; decide)
        exact va_aldq (f := fun j => some (as (zrf i j))) hx hb hK hP i i (by rw [zws_at hlt, zcell_3 hc.1]) (by rw [ztys_at hlt, zet_3 hc.1]) hc.2 hdg (hk H locs ls hl hP hD hS)
      · cases hs
    · cases hs
  | iastore =>
    have h1 : len = 1 := of_decide_eq_true hok2
    subst h1
    simp only [zstp] at hs
    split at hs
    · rename_i x j i S2
      split at hs
      · rename_i hc
        simp only [Option.some.injEq, Sum.inl.injEq, Prod.mk.injEq] at hs
        obtain ⟨rfl, rfl, rfl, rfl⟩ := hs
        have hlt : i < zN := zkd_lt (by rw [hc.1]; decide)
        refine va_iast hx hb hK hP hD hS i i (by rw [zws_at hlt, zcell_1 hc.1]) (by rw [ztys_at hlt, zet_1 hc.1]) hc.2 hdg (fun H1 locs1 hP1 hD1 hS1 => ?_)
        have hce : zcell as ca (zst X i (upd (X i) j.toNatClampNeg x)) i = .inl (ca i, (zkd i).2, .inl (upd (X i) j.toNatClampNeg x)) := by rw [zcell_1 hc.1, zst_at]
        rw [← hce, zws_set _ hlt] at hP1 hD1
        exact hk H1 locs1 ls hl hP1 hD1 hS1
      · cases hs
    · cases hs
  | bastore =>
    have h1 : len = 1 := of_decide_eq_true hok2
    subst h1
    simp only [zstp] at hs
    split at hs
    · rename_i x j i S2
      split at hs
      · rename_i hc
        simp only [Option.some.injEq, Sum.inl.injEq, Prod.mk.injEq] at hs
        obtain ⟨rfl, rfl, rfl, rfl⟩ := hs
        have hlt : i < zN := zkd_lt (by rw [hc.1]; decide)
        have hnx : vp_nar .boolean x = x := by
          rcases hc.2.2 with rfl | rfl <;> decide
        refine va_zast hx hb hK hP hD hS i i (by rw [zws_at hlt, zcell_2 hc.1]) (by rw [ztys_at hlt, zet_2 hc.1]) hc.2.1 hdg (fun H1 locs1 hP1 hD1 hS1 => ?_)
        rw [hnx] at hP1 hD1
        have hce : zcell as ca (zst X i (upd (X i) j.toNatClampNeg x)) i = .inl (ca i, (zkd i).2, .inl (upd (X i) j.toNatClampNeg x)) := by rw [zcell_2 hc.1, zst_at]
        rw [← hce, zws_set _ hlt] at hP1 hD1
        exact hk H1 locs1 ls hl hP1 hD1 hS1
      · cases hs
    · cases hs
  | arraylength =>
    have h1 : len = 1 := of_decide_eq_true hok2
    subst h1
    simp only [zstp] at hs
    split at hs
    · rename_i i S2
      split at hs
      · rename_i hc
        simp only [Option.some.injEq, Sum.inl.injEq, Prod.mk.injEq] at hs
        obtain ⟨rfl, rfl, rfl, rfl⟩ := hs
        have hlt : i < zN := zkd_lt (by rw [hc]; decide)
        exact va_alen (x := ((zkd i).2, .inl (X i))) (v := nI (zkd i).2) hx hb hK hP i i (by rw [zws_at hlt, zcell_1 hc]) (ztys_at hlt) rfl hdg (hk H locs ls hl hP hD hS)
      · cases hs
    · cases hs
  | invokestatic ix =>
    obtain ⟨g1, g2⟩ := Bool.and_eq_true_iff.mp hok2
    have h1 : len = 3 := of_decide_eq_true g1
    clear g1 hok2
    subst h1
    have h2 := g2
    clear g2
    simp only [zstp] at hs
    split at hs
    · rename_i ha
      rw [if_pos ha] at h2
      split at hs
      · rename_i n dp i sp j S2
        split at hs
        · rename_i hc
          simp only [Option.some.injEq, Sum.inl.injEq, Prod.mk.injEq] at hs
          obtain ⟨rfl, rfl, rfl, rfl⟩ := hs
          obtain ⟨c1, c2, c3, c4, c5, c6, c7, c8⟩ := hc
          have hlt : i < zN := zkd_lt (by rw [c1]; decide)
          have hlt2 : j < zN := zkd_lt (by rw [c2]; decide)
          refine va_copyi hx hb hmls hown (hts _ (zhasA_ok h2)) (hts _ zac1) (hts _ zac2) (hts _ zac3) hK hP hD hS j i j i (by rw [zws_at hlt2, zcell_1 c2]) (by rw [zws_at hlt, zcell_1 c1]) (by rw [ztys_at hlt2, zet_1 c2]) (by rw [ztys_at hlt, zet_1 c1]) rfl c3 c4 c5 c6 c7 (fun _ _ => rfl) hRf (Nat.le_trans (Nat.add_le_add (zsum_le as S2 c8) (show nativeFrameWords "java/lang/System" "arraycopy" 5 + 11 ≤ 18 by decide)) (Nat.le_trans (by decide) hRl)) hdg (fun H1 locs1 hP1 hD1 hS1 => ?_)
          have hce : zcell as ca (zst X i (va_cpy (X j) (X i) sp.toNatClampNeg dp.toNatClampNeg n.toNatClampNeg)) i = .inl (ca i, (zkd i).2, .inl (va_cpy (X j) (X i) sp.toNatClampNeg dp.toNatClampNeg n.toNatClampNeg)) := by rw [zcell_1 c1, zst_at]
          rw [← hce, zws_set _ hlt] at hP1 hD1
          exact hk H1 locs1 ls hl hP1 hD1 hS1
        · cases hs
      · cases hs
    · rename_i ha
      rw [if_neg ha] at h2
      split at hs
      · rename_i hb1
        rw [if_pos (Or.inl hb1)] at h2
        have h3 := zhasH_ok h2
        rw [hb1] at h3
        split at hs
        · rename_i y1 x1 S2
          split at hs
          · rename_i hc
            simp only [Option.some.injEq, Sum.inl.injEq, Prod.mk.injEq] at hs
            obtain ⟨rfl, rfl, rfl, rfl⟩ := hs
            exact va_mmax hx hb hmls hown (hts _ h3) (hts _ zma_max1) (hts _ zma_ini) (hts _ zma_max2) hRf (Nat.le_trans (Nat.add_le_add_right (zsum_le as S2 hc) 13) (Nat.le_trans (by decide) hRl)) (Nat.zero_le _) (Nat.zero_le _) hdg (hk H locs ls hl hP hD hS)
          · cases hs
        · cases hs
      split at hs
      · rename_i hb1
        rw [if_pos (Or.inr (Or.inl hb1))] at h2
        have h3 := zhasH_ok h2
        rw [hb1] at h3
        split at hs
        · rename_i y1 x1 S2
          split at hs
          · rename_i hc
            simp only [Option.some.injEq, Sum.inl.injEq, Prod.mk.injEq] at hs
            obtain ⟨rfl, rfl, rfl, rfl⟩ := hs
            exact va_mmin hx hb hmls hown (hts _ h3) (hts _ zma_min1) (hts _ zma_ini) (hts _ zma_min2) hRf (Nat.le_trans (Nat.add_le_add_right (zsum_le as S2 hc) 13) (Nat.le_trans (by decide) hRl)) (Nat.zero_le _) (Nat.zero_le _) hdg (hk H locs ls hl hP hD hS)
          · cases hs
        · cases hs
      split at hs
      · rename_i hb1
        rw [if_pos (Or.inr (Or.inr hb1))] at h2
        have h3 := zhasH_ok h2
        rw [hb1] at h3
        split at hs
        · rename_i x1 S2
          split at hs
          · rename_i hc
            simp only [Option.some.injEq, Sum.inl.injEq, Prod.mk.injEq] at hs
            obtain ⟨rfl, rfl, rfl, rfl⟩ := hs
            exact va_mabs hx hb hmls hown (hts _ h3) (hts _ zma_abs1) (hts _ zma_ini) (hts _ zma_abs2) hRf (Nat.le_trans (Nat.add_le_add_right (zsum_le as S2 hc) 13) (Nat.le_trans (by decide) hRl)) (Nat.zero_le _) (Nat.zero_le _) hdg (hk H locs ls hl hP hD hS)
          · cases hs
        · cases hs
      split at hs
      · cases hs
      · cases hs
  | invokevirtual ix =>
    simp only [zstp] at hs
    split at hs
    · split at hs
      · cases hs
      · cases hs
    · cases hs
  | ireturn =>
    simp only [zstp] at hs
    split at hs
    · split at hs
      · cases hs
      · cases hs
    · cases hs
  | return_ =>
    simp only [zstp] at hs
    split at hs
    · cases hs
    · cases hs
  | _ => cases hs
end
section
/-! a run of the small machine is a run of the machine -/
def zrm (y : Nat) : Room := { frames := zdp y, cells := 0, slots := 0, locals := 30 * zdp y }
def zwl (y : Nat) : List Cond := .code (znm y) (zby y) (zmx y) (zret y) :: gT
def zB (D : va_G) (as : Nat → Nat) (ca : Nat → ClassId) (A : Nat → Prop) (X : zM) (t : State) : Prop := va_P D vwCl (zws as ca X) t.heap ∧ va_K D vwCl (ztys ca) t ∧ va_D A (zws as ca X)
def zPc (D : va_G) (as : Nat → Nat) (ca : Nat → ClassId) (sz : Nat) (X : zM) (av : List Value) : Array Value → State → Prop := va_Pc av (fun U => U.heap.size = sz ∧ va_P D vwCl (zws as ca X) U.heap ∧ va_K D vwCl (ztys ca) U ∧ va_D (zA as sz) (zws as ca X) ∧ zNw U)
def zQc (D : va_G) (as : Nat → Nat) (ca : Nat → ClassId) (A : Nat → Prop) (r : zR) : Array Value → State → Outcome → State → Prop := fun _ st oc t => (oc = .returned (r.1.map (zmv as)) ∧ zB D as ca A r.2 t) ∧ va_F A st t
theorem zent_pos (as : Nat → Nat) : ∀ av : List Value, (av.flatMap fun v => if v.category = 2 then [v, zU] else [v]).length = (lg_sl (av.map (zmv as))).length ∧ ∀ (j : Nat) (w : Value), (av.flatMap fun v => if v.category = 2 then [v, zU] else [v])[j]? = some w → w = zU ∨ (lg_sl (av.map (zmv as)))[j]? = some (.val (zmv as w))
  | [] => ⟨rfl, fun j w h => by simp at h⟩
  | v :: r => by
    obtain ⟨h1, h2⟩ := zent_pos as r
    unfold lg_sl at h1 h2 ⊢
    simp only [List.map_cons, List.flatMap_cons, zmv_cat]
    by_cases hc : v.category = 2
    · simp only [if_pos hc]
      refine ⟨by simp only [List.length_append]; rw [h1]; rfl, fun j w hj => ?_⟩
      match j, hj with
      | 0, hj => exact Or.inr (by cases hj; rfl)
      | 1, hj => exact Or.inl (by cases hj; rfl)
      | j + 2, hj => exact h2 j w hj
    · simp only [if_neg hc]
      refine ⟨by simp only [List.length_append]; rw [h1]; rfl, fun j w hj => ?_⟩
      match j, hj with
      | 0, hj => exact Or.inr (by cases hj; rfl)
      | j + 1, hj => exact h2 j w hj
theorem zent_lv (as : Nat → Nat) (n : Nat) (av : List Value) (h : (zent n av).length = n) : zlv as ((lg_sl (av.map (zmv as)) ++ List.replicate (n - (lg_sl (av.map (zmv as))).length) Slot.unset).toArray) n (zent n av) := by
  obtain ⟨h1, h2⟩ := zent_pos as av
  have hle : (lg_sl (av.map (zmv as))).length ≤ n := by
    rw [← h1]
    unfold zent at h
    rw [List.length_append] at h
    omega
  have hl := lv_entry (av.map (zmv as)) hle
  refine ⟨hl.1, h, hl.2.1, fun j w hj => ?_⟩
  unfold zent at hj
  by_cases hjl : j < (av.flatMap fun v => if v.category = 2 then [v, zU] else [v]).length
  · rw [List.getElem?_append_left hjl] at hj
    rcases h2 j w hj with q | q
    · exact Or.inl q
    · refine Or.inr (Or.inr ?_)
      rw [List.getElem?_toArray, List.getElem?_append_left (by rw [← h1]; exact hjl)]
      exact q
  · rw [List.getElem?_append_right (by omega)] at hj
    have := List.getElem?_eq_some_iff.mp hj
    obtain ⟨q1, q2⟩ := this
    rw [List.getElem_replicate] at q2
    exact Or.inl q2.symm
theorem zNw_blind {U : State} {g : JFrame} {mk : MethodId} {a : Array Value} (h : zNw U) : zNw (U.calling g mk a) := by
  intro q hq h1
  have h2 := h q hq h1
  unfold zMw at h2 ⊢
  rw [if_pos h1] at h2 ⊢
  exact va_Nw.same rfl rfl h2
theorem zNw_warm {s U : State} (hW : s.WarmedH U.vm) (h : zNw s) : zNw U := by
  intro q hq h1
  have h2 := h q hq h1
  unfold zMw at h2 ⊢
  rw [if_pos h1] at h2 ⊢
  exact va_Nw.warmM hW h2
theorem zPc_blind (D : va_G) (as : Nat → Nat) (ca : Nat → ClassId) (sz : Nat) (X : zM) (av : List Value) : FrameBlind (zPc D as ca sz X av) := by
  intro a U g mk q
  obtain ⟨q0, q1, qP, qK, qD, qN⟩ := q
  exact ⟨q0, q1, qP, va_K.moved (u := U) (U := U.calling g mk a) (Vm.Alike.refl U.vm) qK, qD, zNw_blind qN⟩
theorem zcode_in {y : Nat} (hy : y < zmi.length) : Cond.code (znm y) (zby y) (zmx y) (zret y) ∈ gT := by
  have h := zmi_code zmi[y] (List.getElem_mem hy)
  unfold znm zby zmx zret
  rw [List.getElem?_eq_getElem hy]
  exact h
theorem zwl_words {s U : State} {args a1 : Array Value} {y : Nat} (hy : y < zmi.length) (hts : ∀ w ∈ gT, w.before args s = true) (hW : s.WarmedH U.vm) : ∀ w ∈ zwl y, w.before a1 U = true := by
  intro w hw
  have hw : w ∈ gT := by
    rcases List.mem_cons.mp hw with rfl | h
    · exact zcode_in hy
    · exact h
  exact word_at hW (good_of_word (List.mem_filter.mp hw).2) (hts w hw)
section ZR
variable {p : Program} {l : Launch} {ev : Env} {R : Room} {s : State} {m : MethodId} {args : Array Value} {below : List Frame} {meth : Method} {c : Code} {H : Heap} {locs : List Loc} {Q : State → Prop} {pc : Nat} {ls : Array Slot} {rest st0 : List Value} {a : Array Value} {A0 A1 : Nat → Prop} {H0 : Heap} {free : Addr → Prop} {D : va_G} {as : Nat → Nat} {ca : Nat → ClassId}
theorem zcallK {r : zR} (hr : va_Run p l ev R s m args below meth c H locs 0 0 0 0 (F0 m pc ls st0) rest (zQc D as ca A1 r a) free) (hS : va_S A0 H0 H locs) (hA : ∀ q, q < H.size → A1 q → A0 q) (hf : ∀ q, free q → A0 q)
    (kk : ∀ (t : State) (H1 : Heap) (locs1 : List Loc), t.heap = H1 → s.vm.Alike t.vm → zB D as ca A1 r.2 t → va_S A0 H0 H1 locs1 → W p l ev R s m args below meth c H1 locs1 0 0 Q (F0 m (pc + 3) ls ((r.1.map (zmv as)).toList ++ rest))) : W p l ev R s m args below meth c H locs 0 0 Q (F0 m pc ls st0) := by
  intro T hT X
  obtain ⟨v, st₀, t, T', L, h0, X', hL, e1, e2, ⟨⟨hv, hb⟩, hz, hk⟩, st⟩ := hr T hT X
  cases hv
  rw [h0] at hz hk
  obtain ⟨t2, a1, b1⟩ := kk t T'.heap (locs ++ L) e1.symm (by rw [← e2]; exact X'.warmed.alike) hb
    ⟨Nat.le_trans hS.1 (by rw [e1]; exact hz), fun q h1 h2 => by rw [e1, hk q (Nat.lt_of_lt_of_le h1 hS.1) (fun z => h2 (hA q (Nat.lt_of_lt_of_le h1 hS.1) z))]; exact hS.2.1 q h1 h2, fun q hq => by
      rcases List.mem_append.mp hq with h | h
      · exact hS.2.2 q h
      · exact hf _ (hL q h)⟩ T' rfl X'
  exact ⟨t2, st t2 a1, b1⟩
end ZR
/-- what is to be shown of n steps of fuel -/
def zSnd (n : Nat) : Prop := ∀ (y pc : Nat) (L S : List Value) (X : zM) (r : zR), zrun n y pc L S X = some r → ∀ (p : Program) (l : Launch) (ev : Env) (s : State) (m : MethodId) (args : Array Value) (below : List Frame) (meth : Method) (c : Code) (D : va_G) (as : Nat → Nat) (ca : Nat → ClassId), zCx p s m args meth c y → va_K D vwCl (ztys ca) s →
  zGo p l ev (zrm y) s m args below meth c D as ca (zA as s.heap.size) (MQ below (zQc D as ca (zA as s.heap.size) r) args s 0 0 (zA as s.heap.size)) y pc L S X
theorem zrun_y {n y pc : Nat} {L S : List Value} {X : zM} {r : zR} (h : zrun n y pc L S X = some r) : y < zmi.length := by
  cases n with
  | zero => cases h
  | succ n =>
    cases hf : zfetch y pc with
    | none => rw [zrun, hf] at h; cases h
    | some e => rw [← zct_len]; exact (zok_of hf).2.2
theorem zYw_y {y : Nat} (hy : y < zmi.length) : Cond.initialized (znm y).cls ∈ gT ∧ ((zrc y = 99 ∧ Cond.static (znm y) ∈ gT) ∨ (zrc y ≠ 99 ∧ Cond.instanceMethod (znm y) ∈ gT ∧ Cond.selects (zcs (zrc y)).1 (znm y) (znm y) ∈ gT)) ∧ ((znm y).cls ≠ "java/lang/invoke/MethodHandle" ∧ (znm y).cls ≠ "java/lang/invoke/VarHandle" ∧ (parseMethodDescriptor (znm y).desc).map (fun d => d.parameters.length) = some (znp y)) ∧ plainName (znm y).cls = true ∧ (znm y).cls = zcn.getD (zow y) "" ∧ zmx y ≤ 8 := by
  obtain ⟨q, hq, rfl⟩ := zYw_of hy
  obtain ⟨h1, h2, h3, h4, h5, h6⟩ := zYL_ok q hq
  refine ⟨gT_at h1, ?_, h3, h4, h5, h6⟩
  rcases h2 with ⟨a, b⟩ | ⟨a, b, c⟩
  · exact Or.inl ⟨a, gT_at b⟩
  · exact Or.inr ⟨a, gT_at b, gT_at c⟩
theorem zmet_of {n : Nat} (ih : zSnd n) {y : Nat} {av : List Value} {X : zM} {r : zR} (hl : (zent (zmx y) av).length = zmx y) (h : zrun n y 0 (zent (zmx y) av) [] X = some r) (l : Launch) (D : va_G) (as : Nat → Nat) (ca : Nat → ClassId) (sz : Nat) : Met l (znm y) (zwl y) (zrm y) (zPc D as ca sz X (av.map (zmv as))) (zQc D as ca (zA as sz) r) 0 0 (zA as sz) := by
  have hy := zrun_y h
  obtain ⟨-, -, -, w4, w5, -⟩ := zYw_y hy
  refine Met.ofW (cc := zby y) (maxL := zmx y) (ret := zret y) w4 rfl ?_
  intro p e s m args below meth c s₁ B hml hv
  obtain ⟨rfl, hsz, hP, hK, hD, hN⟩ := hv
  subst hsz
  rw [lg_entry_eq]
  have hts := atoms_spec (ws := zwl y) B.pre
  have hown : s.vm.findClass (znm y).cls = some m.cls := findClass_of_methodNamed B.named
  rw [w5] at hown
  exact ih y 0 _ [] X r h p l e s m _ below meth c D as ca ⟨B.exec, B.bytes, B.returns, hml, hown, fun w hw => hts w (List.mem_cons_of_mem _ hw), B.notSynchronized, hN⟩ hK s.heap [] _ (zent_lv as (zmx y) av hl) hP hD va_S.rf
end
section
set_option maxHeartbeats 4000000 in
theorem zstp_noret {pc : Nat} {ins : Instr} {len a b : Nat} {v : Value} {L S : List Value} {X : zM} {r : zR} (h1 : ins ≠ .ireturn) (h2 : ins ≠ .return_) : zstp (pc, ins, len, a, b, v) L S X ≠ some (.inr (.inl r)) := by
  intro hs
  cases ins with
  | ireturn => exact h1 rfl
  | return_ => exact h2 rfl
  | _ => first | (cases hs; done) | (simp only [zstp] at hs; repeat' (first | (cases hs; done) | split at hs))
set_option maxHeartbeats 4000000 in
theorem zstp_nocall {pc : Nat} {ins : Instr} {len a b : Nat} {v : Value} {L S : List Value} {X : zM} {q : Nat × List Value × Nat × List Value} (h1 : ∀ ix, ins ≠ .invokestatic ix) (h2 : ∀ ix, ins ≠ .invokevirtual ix) : zstp (pc, ins, len, a, b, v) L S X ≠ some (.inr (.inr q)) := by
  intro hs
  cases ins with
  | invokestatic ix => exact h1 ix rfl
  | invokevirtual ix => exact h2 ix rfl
  | _ => first | (cases hs; done) | (simp only [zstp] at hs; repeat' (first | (cases hs; done) | split at hs))
theorem zcls_of {i c : Nat} (h : zkd i = (0, c)) : vwCl[c]? = some (zcs c) := by
  have hc : c < 11 := by
    have hx : (List.range 321).all (fun i => decide ((zkd i).1 = 0 → (zkd i).2 < 11)) = true := by decide +kernel
    have hlt : i < 321 := zkd_lt (by rw [h]; exact Nat.zero_le 3)
    have := of_decide_eq_true (List.all_eq_true.mp hx i (List.mem_range.mpr hlt)) (by rw [h])
    rw [h] at this
    exact this
  match c, hc with
  | 0, _ => rfl
  | 1, _ => rfl
  | 2, _ => rfl
  | 3, _ => rfl
  | 4, _ => rfl
  | 5, _ => rfl
  | 6, _ => rfl
  | 7, _ => rfl
  | 8, _ => rfl
  | 9, _ => rfl
  | 10, _ => rfl
  | n + 11, h => exact absurd h (by omega)
end
section
/-! the induction over the fuel -/
theorem zhasM_ok {o ix a b : Nat} (h : zhasM o ix a b = true) : ∃ q ∈ zML, q.1 = ((o, ix), (a, b)) ∧ (b ≠ 1 → zMw q.1 ∈ gT) := by
  unfold zhasM at h
  obtain ⟨q, hq, hd⟩ := List.any_eq_true.mp h
  have e := of_decide_eq_true hd
  obtain ⟨h1, h2⟩ := zML_ok q hq
  refine ⟨q, hq, e, fun hb => ?_⟩
  rcases h2 with h2 | h2
  · rw [e] at h2
    exact absurd h2 hb
  · exact gT_at ⟨h1, h2⟩
theorem zA_sub {as : Nat → Nat} {s : State} {H : Heap} {locs : List Loc} (hS : va_S (zA as s.heap.size) s.heap H locs) : ∀ q, zA as H.size q → zA as s.heap.size q := by
  intro q h
  rcases h with h | h
  · exact Or.inl h
  · exact Or.inr (Nat.le_trans hS.1 h)
theorem zD_any {A : Nat → Prop} {D : va_G} {as : Nat → Nat} {ca : Nat → ClassId} {X : zM} {sz : Nat} (h : va_D A (zws as ca X)) : va_D (zA as sz) (zws as ca X) := by
  refine ⟨h.1, fun k q hk => ?_⟩
  obtain ⟨h1, rfl⟩ := zws_get hk
  exact Or.inl ⟨k, h1, rfl⟩
theorem zlist_app {as : Nat → Nat} (r : Option Value) (S : List Value) : (r.map (zmv as)).toList ++ S.map (zmv as) = (r.toList ++ S).map (zmv as) := by
  cases r <;> rfl
set_option maxHeartbeats 4000000 in
set_option maxRecDepth 100000 in
theorem zsnd_succ (n : Nat) (ih : zSnd n) : zSnd (n + 1) := by
  intro y pc L S X r h p l ev s m args below meth c D as ca C hK
  cases hf : zfetch y pc with
  | none => rw [zrun, hf] at h; cases h
  | some e =>
    rw [zrun_succ hf] at h
    obtain ⟨hok, hpc, hy⟩ := zok_of hf
    subst hpc
    have hd1 : 1 ≤ zdp y := zdp_pos y hy
    unfold zsem at h
    cases hs : zstp e L S X with
    | none => rw [hs] at h; cases h
    | some o =>
      rw [hs] at h
      match o, hs, h with
      | .inl (p1, L1, S1, X1), hs, h =>
        exact zgo1 C hK hd1 (show 30 ≤ 30 * zdp y by omega) hok hs (ih y p1 L1 S1 X1 r h p l ev s m args below meth c D as ca C hK)
      | .inr (.inl r1), hs, h =>
        cases h
        intro H locs ls hl hP hD hS
        obtain ⟨hx, hb, hr, hml, hown, hts, hlocks, hnw⟩ := C
        obtain ⟨pc, ins, len, a, b, v⟩ := e
        unfold zokB at hok
        obtain ⟨hdg0, hok2⟩ := Bool.and_eq_true_iff.mp hok
        have hdg : decode (zby y) pc = .ok (ins, len) := of_decide_eq_true hdg0
        clear hdg0 hok
        have hq : ∀ t : State, t.heap = H → s.WarmedH t.vm → zQc D as ca (zA as s.heap.size) (r.1, X) args s (.returned (r.1.map (zmv as))) t := fun t ht hW => ⟨⟨rfl, by rw [ht]; exact hP, va_K.moved hW.alike hK, hD⟩, hS.F ht⟩
        cases ins with
        | ireturn =>
          obtain ⟨g1, g2⟩ := Bool.and_eq_true_iff.mp hok2
          have h1 : len = 1 := of_decide_eq_true g1
          clear g1 hok2
          subst h1
          simp only [zstp] at hs
          split at hs
          · rename_i x hs0
            split at hs
            · rename_i hc
              simp only [Option.some.injEq, Sum.inr.injEq, Sum.inl.injEq] at hs
              subst hs
              rcases Bool.or_eq_true_iff.mp g2 with g3 | g3
              · have h3 : zret y = some .int ∧ a = 0 := of_decide_eq_true g3
                exact W.zret hx hb (by rw [hr]; exact h3.1) (vp_nar_int x) hq hS.2.2 hdg hlocks
              · have h3 : zret y = some .boolean ∧ a = 1 := of_decide_eq_true g3
                have hx01 : x = 0 ∨ x = 1 := by
                  rcases hc with q | q
                  · rw [h3.2] at q; cases q
                  · exact q
                exact W.zret hx hb (by rw [hr]; exact h3.1) (by rcases hx01 with rfl | rfl <;> decide) hq hS.2.2 hdg hlocks
            · cases hs
          · cases hs
        | return_ =>
          obtain ⟨g1, g2⟩ := Bool.and_eq_true_iff.mp hok2
          have h1 : len = 1 := of_decide_eq_true g1
          have h2 : zret y = none := of_decide_eq_true g2
          clear g1 g2 hok2
          subst h1
          simp only [zstp] at hs
          split at hs
          · simp only [Option.some.injEq, Sum.inr.injEq, Sum.inl.injEq] at hs
            subst hs
            exact W.vret hx hb (by rw [hr]; exact h2) hq hS.2.2 hdg hlocks
          · cases hs
        | _ => exact absurd hs (zstp_noret (by intro q; cases q) (by intro q; cases q))
      | .inr (.inr (y1, av, p1, S1)), hs, h =>
        simp only at h
        by_cases hcl : (zent (zmx y1) av).length = zmx y1
        · rw [if_pos hcl] at h
          cases h2 : zrun n y1 0 (zent (zmx y1) av) [] X with
          | none => rw [h2] at h; cases h
          | some r1 =>
            rw [h2] at h
            have h3 : zrun n y p1 L (r1.1.toList ++ S1) r1.2 = some r := h
            have hgo := ih y p1 L (r1.1.toList ++ S1) r1.2 r h3 p l ev s m args below meth c D as ca C hK
            have hy1 := zrun_y h2
            obtain ⟨w1, w2, w3, w4, w5, w6⟩ := zYw_y hy1
            intro H locs ls hl hP hD hS
            have hM := zmet_of ih hcl h2 l D as ca H.size
            obtain ⟨hx, hb, hr, hml, hown, hts, hlocks, hnw⟩ := C
            obtain ⟨pc, ins, len, a, b, v⟩ := e
            unfold zokB at hok
            obtain ⟨hdg0, hok2⟩ := Bool.and_eq_true_iff.mp hok
            have hdg : decode (zby y) pc = .ok (ins, len) := of_decide_eq_true hdg0
            clear hdg0 hok
            have hpar : ∀ sig, parseMethodDescriptor (znm y1).desc = some sig → znp y1 = sig.parameters.length := by
              intro sig hsig
              have := w3.2.2
              rw [hsig] at this
              exact (Option.some.inj this).symm
            have hpre : ∀ U : State, U.heap = H → s.WarmedH U.vm → zPc D as ca H.size X (av.map (zmv as)) (av.map (zmv as)).toArray U := fun U hU hW => ⟨rfl, by rw [hU], by rw [hU]; exact hP, va_K.moved hW.alike hK, zD_any (D := D) hD, zNw_warm hW hnw⟩
            have hgo2 : ∀ (t : State) (H1 : Heap) (locs1 : List Loc), t.heap = H1 → s.vm.Alike t.vm → zB D as ca (zA as H.size) r1.2 t → va_S (zA as s.heap.size) s.heap H1 locs1 → W p l ev (zrm y) s m args below meth c H1 locs1 0 0 (MQ below (zQc D as ca (zA as s.heap.size) r) args s 0 0 (zA as s.heap.size)) (F0 m p1 ls ((r1.1.map (zmv as)).toList ++ S1.map (zmv as))) := by
              intro t H1 locs1 ht hvm hB hS1
              obtain ⟨b1, b2, b3⟩ := hB
              rw [ht] at b1
              rw [zlist_app]
              exact hgo H1 locs1 ls hl b1 (zD_any (D := D) b3) hS1
            cases ins with
            | invokestatic ix =>
              obtain ⟨g1, g2⟩ := Bool.and_eq_true_iff.mp hok2
              have h1 : len = 3 := of_decide_eq_true g1
              clear g1 hok2
              subst h1
              simp only [zstp] at hs
              split at hs
              · split at hs
                · split at hs <;> cases hs
                · cases hs
              · rename_i n1
                split at hs
                · split at hs
                  · split at hs <;> cases hs
                  · cases hs
                · rename_i n2
                  split at hs
                  · split at hs
                    · split at hs <;> cases hs
                    · cases hs
                  · rename_i n3
                    split at hs
                    · split at hs
                      · split at hs <;> cases hs
                      · cases hs
                    · rename_i n4
                      split at hs
                      · rename_i hc
                        simp only [Option.some.injEq, Sum.inr.injEq, Prod.mk.injEq] at hs
                        obtain ⟨rfl, rfl, rfl, rfl⟩ := hs
                        rw [if_neg n1, if_neg (fun q => q.elim n2 (fun q => q.elim n3 n4))] at g2
                        obtain ⟨g3, g4⟩ := Bool.and_eq_true_iff.mp g2
                        obtain ⟨g4, g5⟩ := Bool.and_eq_true_iff.mp g4
                        obtain ⟨g5, g6⟩ := Bool.and_eq_true_iff.mp g5
                        have e1 : b = znp a := of_decide_eq_true g4
                        have e2 : zdp a < zdp y := of_decide_eq_true g5
                        have e3 : zrc a = 99 := of_decide_eq_true g6
                        have hst : Cond.static (znm a) ∈ gT := by
                          rcases w2 with q | q
                          · exact q.2
                          · exact absurd e3 q.1
                        have hlen : ((List.take b S).reverse.map (zmv as)).length = znp a := by simp; rw [e1] at hc ⊢; omega
                        have hstk : S.map (zmv as) = ((List.take b S).reverse.map (zmv as)).reverse ++ (List.drop b S).map (zmv as) := by
                          rw [← List.map_reverse, List.reverse_reverse, ← List.map_append, List.take_append_drop]
                        have hloc : 8 + (zmx a + 11) + (zrm a).locals ≤ (zrm y).locals := by
                          show 8 + (zmx a + 11) + 30 * zdp a ≤ 30 * zdp y
                          omega
                        rcases Bool.or_eq_true_iff.mp g3 with g7 | g7
                        · obtain ⟨q, hq, he, hw⟩ := zhasM_ok g7
                          have hlink := hw (by decide)
                          rw [he] at hlink
                          have hrun := va_runS (R := zrm y) (locs := locs) (cells := 0) (slots := 0) (As := (List.take b S).reverse.map (zmv as)) (rest := (List.drop b S).map (zmv as)) (g := F0 m pc ls (S.map (zmv as))) (n := znp a) (index := ix) (below := below) (meth := meth) (e := ev) ⟨hx, hb, hml, hown, hts⟩ hM ⟨⟨rfl, rfl, e2, hloc, fun w hw a1 U hW => zwl_words hy1 hts hW w hw, List.mem_cons_self, hts _ (zcode_in hy1), hts _ w1, ⟨w3.1, w3.2.1⟩, hpar, hts _ hlink⟩, hts _ hst⟩ ⟨zPc_blind D as ca H.size X _, hpre⟩ rfl hlen hl.1 hstk (lv_room (zsum_le as _ hc.2)) hdg ⟨Nat.zero_le _, Nat.zero_le _⟩
                          exact zcallK hrun hS (fun q _ hq => zA_sub hS q hq) (zA_sub hS) hgo2
                        · obtain ⟨q, hq, he, -⟩ := zhasM_ok g7
                          have hlink := hnw q hq (by rw [he])
                          rw [he] at hlink
                          have hrun := va_runSN (R := zrm y) (locs := locs) (cells := 0) (slots := 0) (As := (List.take b S).reverse.map (zmv as)) (rest := (List.drop b S).map (zmv as)) (g := F0 m pc ls (S.map (zmv as))) (n := znp a) (index := ix) (below := below) (meth := meth) (e := ev) (host := RX9) ⟨hx, hb, hml, hown, hts⟩ hM ⟨⟨⟨rfl, rfl, e2, hloc, fun w hw a1 U hW => zwl_words hy1 hts hW w hw, List.mem_cons_self⟩, hts _ (zcode_in hy1), hts _ w1, ⟨w3.1, w3.2.1⟩, hpar, va_Nw.use rfl hlink⟩, hts _ hst, trivial⟩ ⟨zPc_blind D as ca H.size X _, hpre⟩ rfl hlen hl.1 hstk (lv_room (zsum_le as _ hc.2)) hdg ⟨Nat.zero_le _, Nat.zero_le _⟩
                          exact zcallK hrun hS (fun q _ hq => zA_sub hS q hq) (zA_sub hS) hgo2
                      · cases hs
            | invokevirtual ix =>
              obtain ⟨g1, g2⟩ := Bool.and_eq_true_iff.mp hok2
              have h1 : len = 3 := of_decide_eq_true g1
              clear g1 hok2
              subst h1
              simp only [zstp] at hs
              split at hs
              · rename_i i S2 hS2
                split at hs
                · rename_i hc
                  simp only [Option.some.injEq, Sum.inr.injEq, Prod.mk.injEq] at hs
                  obtain ⟨rfl, rfl, rfl, rfl⟩ := hs
                  obtain ⟨g3, g4⟩ := Bool.and_eq_true_iff.mp g2
                  obtain ⟨g4, g5⟩ := Bool.and_eq_true_iff.mp g4
                  obtain ⟨g5, g6⟩ := Bool.and_eq_true_iff.mp g5
                  obtain ⟨g6, g7⟩ := Bool.and_eq_true_iff.mp g6
                  have e1 : b = znp a := of_decide_eq_true g4
                  have e2 : zdp a < zdp y := of_decide_eq_true g5
                  have e3 : v = .retAddr (zrc a) := of_decide_eq_true g6
                  have e4 : zrc a ≠ 99 := of_decide_eq_true g7
                  have hkd : zkd i = (0, zrc a) := by
                    have q : v = .retAddr (zkd i).2 := hc.1
                    rw [e3] at q
                    exact Prod.ext hc.2.1 (Value.retAddr.inj q).symm
                  have hlt : i < zN := zkd_lt (by rw [hkd]; exact Nat.zero_le 3)
                  obtain ⟨ws1, ws2⟩ : Cond.instanceMethod (znm a) ∈ gT ∧ Cond.selects (zcs (zrc a)).1 (znm a) (znm a) ∈ gT := by
                    rcases w2 with q | q
                    · exact absurd q.1 e4
                    · exact q.2
                  have hbl : b ≤ S.length := by
                    have := congrArg List.length hS2
                    rw [List.length_drop, List.length_cons] at this
                    omega
                  have hlen : ((List.take b S).reverse.map (zmv as)).length = znp a := by simp; rw [e1] at hbl ⊢; omega
                  have hstk : S.map (zmv as) = ((List.take b S).reverse.map (zmv as)).reverse ++ .ref (as i) :: S2.map (zmv as) := by
                    rw [← List.map_reverse, List.reverse_reverse]
                    rw [show (Value.ref (as i) :: S2.map (zmv as)) = (Value.ref i :: S2).map (zmv as) from rfl, ← hS2, ← List.map_append, List.take_append_drop]
                  have hloc : 8 + (zmx a + 11) + (zrm a).locals ≤ (zrm y).locals := by
                    show 8 + (zmx a + 11) + 30 * zdp a ≤ 30 * zdp y
                    omega
                  obtain ⟨q, hq, he, hw⟩ := zhasM_ok g3
                  have hlink := hw (by decide)
                  rw [he] at hlink
                  have hcls : vwCl[zrc a]? = some (zcs (zrc a)) := zcls_of hkd
                  have hrun := va_runV (R := zrm y) (locs := locs) (cells := 0) (slots := 0) (As := (List.take b S).reverse.map (zmv as)) (rest := S2.map (zmv as)) (g := F0 m pc ls (S.map (zmv as))) (n := znp a) (index := ix) (below := below) (meth := meth) (e := ev) (C := (zcs (zrc a)).1) (b := as i) ⟨hx, hb, hml, hown, hts⟩ hM ⟨⟨rfl, rfl, e2, hloc, fun w hw a1 U hW => zwl_words hy1 hts hW w hw, List.mem_cons_self, hts _ (zcode_in hy1), hts _ w1, ⟨w3.1, w3.2.1⟩, hpar, hts _ hlink⟩, hts _ ws1, hts _ ws2⟩ ⟨zPc_blind D as ca H.size X _, va_recv hK hP hcls (q0 := i) (by rw [zws_at hlt, zcell_0 hkd]), hpre⟩ rfl hlen hl.1 hstk (lv_room (zsum_le as _ hc.2.2)) hdg ⟨Nat.zero_le _, Nat.zero_le _⟩
                  exact zcallK hrun hS (fun q _ hq => zA_sub hS q hq) (zA_sub hS) hgo2
                · cases hs
              · cases hs
            | _ => exact absurd hs (zstp_nocall (by intro ix q; cases q) (by intro ix q; cases q))
        · rw [if_neg hcl] at h
          cases h
theorem zsnd : ∀ n, zSnd n := by
  intro n
  induction n with
  | zero => intro y pc L S X r h; cases h
  | succ n ih => exact zsnd_succ n ih
/-- A CALL OF THE SMALL MACHINE IS A CONTRACT OF THE MACHINE -/
theorem zmet {y : Nat} {av : List Value} {X : zM} {Q : Option Value → zM → Prop} (h : zcl y av X Q) : ∃ r : zR, Q r.1 r.2 ∧ ∀ (l : Launch) (D : va_G) (as : Nat → Nat) (ca : Nat → ClassId) (sz : Nat), Met l (znm y) (zwl y) (zrm y) (zPc D as ca sz X (av.map (zmv as))) (zQc D as ca (zA as sz) r) 0 0 (zA as sz) := by
  obtain ⟨hl, n, r, h1, hQ⟩ := h
  exact ⟨r, hQ, fun l D as ca sz => zmet_of (zsnd n) hl h1 l D as ca sz⟩
end
