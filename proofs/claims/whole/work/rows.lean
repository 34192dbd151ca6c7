section
-- ===== PART A: goes FIRST, ahead of the names: the tables' words, and 'selects' of the private methods out of them =====
/-- a private method of a class that the tables say can be made, by its rows of tables_1 -/
def lw_okq (q : MethodName × Nat) : Prop := (q.1.cls ≠ "java/lang/invoke/MethodHandle" ∧ q.1.cls ≠ "java/lang/invoke/VarHandle") ∧ Cond.instantiable q.1.cls q.2 ∈ tables_1 ∧ Cond.privateMethod q.1 ∈ tables_1 ∧ Cond.instanceMethod q.1 ∈ tables_1
theorem lw_p0 : lw_okq (⟨"HoopYard", "isRingSet", "(I)Z"⟩, 10) := ⟨⟨by decide +kernel, by decide +kernel⟩, List.mem_of_getElem? (i := 19) (by decide +kernel), List.mem_of_getElem? (i := 441) (by decide +kernel), List.mem_of_getElem? (i := 442) (by decide +kernel)⟩
theorem lw_p1 : lw_okq (⟨"HoopYard$RingBench", "choose", "(LHoopYard$Stock;II)V"⟩, 6) := ⟨⟨by decide +kernel, by decide +kernel⟩, List.mem_of_getElem? (i := 130) (by decide +kernel), List.mem_of_getElem? (i := 453) (by decide +kernel), List.mem_of_getElem? (i := 454) (by decide +kernel)⟩
theorem lw_p2 : lw_okq (⟨"HoopYard$RingBench", "weigh", "(Z)V"⟩, 6) := ⟨⟨by decide +kernel, by decide +kernel⟩, List.mem_of_getElem? (i := 130) (by decide +kernel), List.mem_of_getElem? (i := 470) (by decide +kernel), List.mem_of_getElem? (i := 471) (by decide +kernel)⟩
theorem lw_p3 : lw_okq (⟨"HoopYard$RingBench", "allButFirst", "()I"⟩, 6) := ⟨⟨by decide +kernel, by decide +kernel⟩, List.mem_of_getElem? (i := 130) (by decide +kernel), List.mem_of_getElem? (i := 474) (by decide +kernel), List.mem_of_getElem? (i := 475) (by decide +kernel)⟩
theorem lw_p4 : lw_okq (⟨"HoopYard$RingBench", "leastOnward", "(IIZ)I"⟩, 6) := ⟨⟨by decide +kernel, by decide +kernel⟩, List.mem_of_getElem? (i := 130) (by decide +kernel), List.mem_of_getElem? (i := 481) (by decide +kernel), List.mem_of_getElem? (i := 482) (by decide +kernel)⟩
theorem lw_p5 : lw_okq (⟨"HoopYard$RingBench", "firstOfLeast", "(II)I"⟩, 6) := ⟨⟨by decide +kernel, by decide +kernel⟩, List.mem_of_getElem? (i := 130) (by decide +kernel), List.mem_of_getElem? (i := 492) (by decide +kernel), List.mem_of_getElem? (i := 493) (by decide +kernel)⟩
theorem lw_p6 : lw_okq (⟨"HoopYard$RingBench", "measureGaps", "(LHoopYard$Stock;)V"⟩, 6) := ⟨⟨by decide +kernel, by decide +kernel⟩, List.mem_of_getElem? (i := 130) (by decide +kernel), List.mem_of_getElem? (i := 496) (by decide +kernel), List.mem_of_getElem? (i := 497) (by decide +kernel)⟩
theorem lw_p7 : lw_okq (⟨"HoopYard", "ofResting", "(LHoopYard$Hoop;II)I"⟩, 10) := ⟨⟨by decide +kernel, by decide +kernel⟩, List.mem_of_getElem? (i := 19) (by decide +kernel), List.mem_of_getElem? (i := 566) (by decide +kernel), List.mem_of_getElem? (i := 567) (by decide +kernel)⟩
theorem lw_p8 : lw_okq (⟨"HoopYard$Cask", "addPress", "(LHoopYard$Hoop;II)V"⟩, 2) := ⟨⟨by decide +kernel, by decide +kernel⟩, List.mem_of_getElem? (i := 158) (by decide +kernel), List.mem_of_getElem? (i := 587) (by decide +kernel), List.mem_of_getElem? (i := 588) (by decide +kernel)⟩
theorem lw_p9 : lw_okq (⟨"HoopYard$Cask", "howManyWetWith", "(III)I"⟩, 2) := ⟨⟨by decide +kernel, by decide +kernel⟩, List.mem_of_getElem? (i := 158) (by decide +kernel), List.mem_of_getElem? (i := 633) (by decide +kernel), List.mem_of_getElem? (i := 634) (by decide +kernel)⟩
theorem lw_p10 : lw_okq (⟨"HoopYard$HeadBench", "leastOnward", "(I)I"⟩, 6) := ⟨⟨by decide +kernel, by decide +kernel⟩, List.mem_of_getElem? (i := 173) (by decide +kernel), List.mem_of_getElem? (i := 660) (by decide +kernel), List.mem_of_getElem? (i := 661) (by decide +kernel)⟩
theorem lw_p11 : lw_okq (⟨"HoopYard$HeadBench", "spentFrom", "(II)I"⟩, 6) := ⟨⟨by decide +kernel, by decide +kernel⟩, List.mem_of_getElem? (i := 173) (by decide +kernel), List.mem_of_getElem? (i := 665) (by decide +kernel), List.mem_of_getElem? (i := 666) (by decide +kernel)⟩
theorem lw_p12 : lw_okq (⟨"HoopYard$HeadBench", "firstOfLeast", "(I)I"⟩, 6) := ⟨⟨by decide +kernel, by decide +kernel⟩, List.mem_of_getElem? (i := 173) (by decide +kernel), List.mem_of_getElem? (i := 679) (by decide +kernel), List.mem_of_getElem? (i := 680) (by decide +kernel)⟩
theorem lw_p13 : lw_okq (⟨"HoopYard$HeadBench", "howManyOnward", "(I)I"⟩, 6) := ⟨⟨by decide +kernel, by decide +kernel⟩, List.mem_of_getElem? (i := 173) (by decide +kernel), List.mem_of_getElem? (i := 700) (by decide +kernel), List.mem_of_getElem? (i := 701) (by decide +kernel)⟩
theorem lw_p14 : lw_okq (⟨"HoopYard$Tape", "parseStatement", "(I)Z"⟩, 7) := ⟨⟨by decide +kernel, by decide +kernel⟩, List.mem_of_getElem? (i := 78) (by decide +kernel), List.mem_of_getElem? (i := 720) (by decide +kernel), List.mem_of_getElem? (i := 721) (by decide +kernel)⟩
theorem lw_p15 : lw_okq (⟨"HoopYard$Tape", "peek", "()I"⟩, 7) := ⟨⟨by decide +kernel, by decide +kernel⟩, List.mem_of_getElem? (i := 78) (by decide +kernel), List.mem_of_getElem? (i := 724) (by decide +kernel), List.mem_of_getElem? (i := 725) (by decide +kernel)⟩
def lw_privs_1 : List (MethodName × Nat) := [(⟨"HoopYard", "isRingSet", "(I)Z"⟩, 10), (⟨"HoopYard$RingBench", "choose", "(LHoopYard$Stock;II)V"⟩, 6), (⟨"HoopYard$RingBench", "weigh", "(Z)V"⟩, 6), (⟨"HoopYard$RingBench", "allButFirst", "()I"⟩, 6), (⟨"HoopYard$RingBench", "leastOnward", "(IIZ)I"⟩, 6), (⟨"HoopYard$RingBench", "firstOfLeast", "(II)I"⟩, 6), (⟨"HoopYard$RingBench", "measureGaps", "(LHoopYard$Stock;)V"⟩, 6), (⟨"HoopYard", "ofResting", "(LHoopYard$Hoop;II)I"⟩, 10), (⟨"HoopYard$Cask", "addPress", "(LHoopYard$Hoop;II)V"⟩, 2), (⟨"HoopYard$Cask", "howManyWetWith", "(III)I"⟩, 2), (⟨"HoopYard$HeadBench", "leastOnward", "(I)I"⟩, 6), (⟨"HoopYard$HeadBench", "spentFrom", "(II)I"⟩, 6), (⟨"HoopYard$HeadBench", "firstOfLeast", "(I)I"⟩, 6), (⟨"HoopYard$HeadBench", "howManyOnward", "(I)I"⟩, 6), (⟨"HoopYard$Tape", "parseStatement", "(I)Z"⟩, 7), (⟨"HoopYard$Tape", "peek", "()I"⟩, 7)]
theorem lw_r1 : ∀ q ∈ lw_privs_1, lw_okq q := List.forall_mem_cons.mpr ⟨lw_p0, List.forall_mem_cons.mpr ⟨lw_p1, List.forall_mem_cons.mpr ⟨lw_p2, List.forall_mem_cons.mpr ⟨lw_p3, List.forall_mem_cons.mpr ⟨lw_p4, List.forall_mem_cons.mpr ⟨lw_p5, List.forall_mem_cons.mpr ⟨lw_p6, List.forall_mem_cons.mpr ⟨lw_p7, List.forall_mem_cons.mpr ⟨lw_p8, List.forall_mem_cons.mpr ⟨lw_p9, List.forall_mem_cons.mpr ⟨lw_p10, List.forall_mem_cons.mpr ⟨lw_p11, List.forall_mem_cons.mpr ⟨lw_p12, List.forall_mem_cons.mpr ⟨lw_p13, List.forall_mem_cons.mpr ⟨lw_p14, List.forall_mem_cons.mpr ⟨lw_p15, fun _ h => absurd h List.not_mem_nil⟩⟩⟩⟩⟩⟩⟩⟩⟩⟩⟩⟩⟩⟩⟩⟩
theorem lw_p16 : lw_okq (⟨"HoopYard$Tape", "pass", "(I)Z"⟩, 7) := ⟨⟨by decide +kernel, by decide +kernel⟩, List.mem_of_getElem? (i := 78) (by decide +kernel), List.mem_of_getElem? (i := 731) (by decide +kernel), List.mem_of_getElem? (i := 732) (by decide +kernel)⟩
theorem lw_p17 : lw_okq (⟨"HoopYard$Tape", "parseNumber", "(II)Z"⟩, 7) := ⟨⟨by decide +kernel, by decide +kernel⟩, List.mem_of_getElem? (i := 78) (by decide +kernel), List.mem_of_getElem? (i := 735) (by decide +kernel), List.mem_of_getElem? (i := 736) (by decide +kernel)⟩
theorem lw_p18 : lw_okq (⟨"HoopYard", "trayOn", "(I)LHoopYard$Tray;"⟩, 10) := ⟨⟨by decide +kernel, by decide +kernel⟩, List.mem_of_getElem? (i := 19) (by decide +kernel), List.mem_of_getElem? (i := 837) (by decide +kernel), List.mem_of_getElem? (i := 838) (by decide +kernel)⟩
theorem lw_p19 : lw_okq (⟨"HoopYard", "lackOfTray", "(I)I"⟩, 10) := ⟨⟨by decide +kernel, by decide +kernel⟩, List.mem_of_getElem? (i := 19) (by decide +kernel), List.mem_of_getElem? (i := 841) (by decide +kernel), List.mem_of_getElem? (i := 842) (by decide +kernel)⟩
theorem lw_p20 : lw_okq (⟨"HoopYard", "lackForRing", "(III)I"⟩, 10) := ⟨⟨by decide +kernel, by decide +kernel⟩, List.mem_of_getElem? (i := 19) (by decide +kernel), List.mem_of_getElem? (i := 863) (by decide +kernel), List.mem_of_getElem? (i := 864) (by decide +kernel)⟩
theorem lw_p21 : lw_okq (⟨"HoopYardModel", "hasStave", "(I)Z"⟩, 30) := ⟨⟨by decide +kernel, by decide +kernel⟩, List.mem_of_getElem? (i := 901) (by decide +kernel), List.mem_of_getElem? (i := 1034) (by decide +kernel), List.mem_of_getElem? (i := 1035) (by decide +kernel)⟩
theorem lw_p22 : lw_okq (⟨"HoopYardModel", "countsOf", "(I)I"⟩, 30) := ⟨⟨by decide +kernel, by decide +kernel⟩, List.mem_of_getElem? (i := 901) (by decide +kernel), List.mem_of_getElem? (i := 1038) (by decide +kernel), List.mem_of_getElem? (i := 1039) (by decide +kernel)⟩
theorem lw_p23 : lw_okq (⟨"HoopYardModel", "edgeOf", "(I)I"⟩, 30) := ⟨⟨by decide +kernel, by decide +kernel⟩, List.mem_of_getElem? (i := 901) (by decide +kernel), List.mem_of_getElem? (i := 1043) (by decide +kernel), List.mem_of_getElem? (i := 1044) (by decide +kernel)⟩
theorem lw_p24 : lw_okq (⟨"HoopYardModel", "priceOf", "(I)I"⟩, 30) := ⟨⟨by decide +kernel, by decide +kernel⟩, List.mem_of_getElem? (i := 901) (by decide +kernel), List.mem_of_getElem? (i := 1047) (by decide +kernel), List.mem_of_getElem? (i := 1048) (by decide +kernel)⟩
theorem lw_p25 : lw_okq (⟨"HoopYardModel", "sagOf", "(I)I"⟩, 30) := ⟨⟨by decide +kernel, by decide +kernel⟩, List.mem_of_getElem? (i := 901) (by decide +kernel), List.mem_of_getElem? (i := 1051) (by decide +kernel), List.mem_of_getElem? (i := 1052) (by decide +kernel)⟩
theorem lw_p26 : lw_okq (⟨"HoopYardModel", "countsOfSet", "(I)I"⟩, 30) := ⟨⟨by decide +kernel, by decide +kernel⟩, List.mem_of_getElem? (i := 901) (by decide +kernel), List.mem_of_getElem? (i := 1070) (by decide +kernel), List.mem_of_getElem? (i := 1071) (by decide +kernel)⟩
theorem lw_p27 : lw_okq (⟨"HoopYardModel", "priceOfSet", "(I)I"⟩, 30) := ⟨⟨by decide +kernel, by decide +kernel⟩, List.mem_of_getElem? (i := 901) (by decide +kernel), List.mem_of_getElem? (i := 1074) (by decide +kernel), List.mem_of_getElem? (i := 1075) (by decide +kernel)⟩
theorem lw_p28 : lw_okq (⟨"HoopYardModel", "isSet", "(I)Z"⟩, 30) := ⟨⟨by decide +kernel, by decide +kernel⟩, List.mem_of_getElem? (i := 901) (by decide +kernel), List.mem_of_getElem? (i := 1093) (by decide +kernel), List.mem_of_getElem? (i := 1094) (by decide +kernel)⟩
theorem lw_p29 : lw_okq (⟨"HoopYardModel", "rounds", "(III)V"⟩, 30) := ⟨⟨by decide +kernel, by decide +kernel⟩, List.mem_of_getElem? (i := 901) (by decide +kernel), List.mem_of_getElem? (i := 1100) (by decide +kernel), List.mem_of_getElem? (i := 1101) (by decide +kernel)⟩
theorem lw_p30 : lw_okq (⟨"HoopYardModel", "goesRound", "(IIII)V"⟩, 30) := ⟨⟨by decide +kernel, by decide +kernel⟩, List.mem_of_getElem? (i := 901) (by decide +kernel), List.mem_of_getElem? (i := 1104) (by decide +kernel), List.mem_of_getElem? (i := 1105) (by decide +kernel)⟩
theorem lw_p31 : lw_okq (⟨"HoopYardModel", "leakOf", "([II)I"⟩, 30) := ⟨⟨by decide +kernel, by decide +kernel⟩, List.mem_of_getElem? (i := 901) (by decide +kernel), List.mem_of_getElem? (i := 1108) (by decide +kernel), List.mem_of_getElem? (i := 1109) (by decide +kernel)⟩
def lw_privs_2 : List (MethodName × Nat) := [(⟨"HoopYard$Tape", "pass", "(I)Z"⟩, 7), (⟨"HoopYard$Tape", "parseNumber", "(II)Z"⟩, 7), (⟨"HoopYard", "trayOn", "(I)LHoopYard$Tray;"⟩, 10), (⟨"HoopYard", "lackOfTray", "(I)I"⟩, 10), (⟨"HoopYard", "lackForRing", "(III)I"⟩, 10), (⟨"HoopYardModel", "hasStave", "(I)Z"⟩, 30), (⟨"HoopYardModel", "countsOf", "(I)I"⟩, 30), (⟨"HoopYardModel", "edgeOf", "(I)I"⟩, 30), (⟨"HoopYardModel", "priceOf", "(I)I"⟩, 30), (⟨"HoopYardModel", "sagOf", "(I)I"⟩, 30), (⟨"HoopYardModel", "countsOfSet", "(I)I"⟩, 30), (⟨"HoopYardModel", "priceOfSet", "(I)I"⟩, 30), (⟨"HoopYardModel", "isSet", "(I)Z"⟩, 30), (⟨"HoopYardModel", "rounds", "(III)V"⟩, 30), (⟨"HoopYardModel", "goesRound", "(IIII)V"⟩, 30), (⟨"HoopYardModel", "leakOf", "([II)I"⟩, 30)]
theorem lw_r2 : ∀ q ∈ lw_privs_2, lw_okq q := List.forall_mem_cons.mpr ⟨lw_p16, List.forall_mem_cons.mpr ⟨lw_p17, List.forall_mem_cons.mpr ⟨lw_p18, List.forall_mem_cons.mpr ⟨lw_p19, List.forall_mem_cons.mpr ⟨lw_p20, List.forall_mem_cons.mpr ⟨lw_p21, List.forall_mem_cons.mpr ⟨lw_p22, List.forall_mem_cons.mpr ⟨lw_p23, List.forall_mem_cons.mpr ⟨lw_p24, List.forall_mem_cons.mpr ⟨lw_p25, List.forall_mem_cons.mpr ⟨lw_p26, List.forall_mem_cons.mpr ⟨lw_p27, List.forall_mem_cons.mpr ⟨lw_p28, List.forall_mem_cons.mpr ⟨lw_p29, List.forall_mem_cons.mpr ⟨lw_p30, List.forall_mem_cons.mpr ⟨lw_p31, fun _ h => absurd h List.not_mem_nil⟩⟩⟩⟩⟩⟩⟩⟩⟩⟩⟩⟩⟩⟩⟩⟩
theorem lw_p32 : lw_okq (⟨"HoopYardModel", "gap", "([II)I"⟩, 30) := ⟨⟨by decide +kernel, by decide +kernel⟩, List.mem_of_getElem? (i := 901) (by decide +kernel), List.mem_of_getElem? (i := 1112) (by decide +kernel), List.mem_of_getElem? (i := 1113) (by decide +kernel)⟩
theorem lw_p33 : lw_okq (⟨"HoopYardModel", "isRing", "(I)Z"⟩, 30) := ⟨⟨by decide +kernel, by decide +kernel⟩, List.mem_of_getElem? (i := 901) (by decide +kernel), List.mem_of_getElem? (i := 1121) (by decide +kernel), List.mem_of_getElem? (i := 1122) (by decide +kernel)⟩
theorem lw_p34 : lw_okq (⟨"HoopYardModel", "girthAt", "(I)I"⟩, 30) := ⟨⟨by decide +kernel, by decide +kernel⟩, List.mem_of_getElem? (i := 901) (by decide +kernel), List.mem_of_getElem? (i := 1137) (by decide +kernel), List.mem_of_getElem? (i := 1138) (by decide +kernel)⟩
theorem lw_p35 : lw_okq (⟨"HoopYardModel", "hasHoop", "(I)Z"⟩, 30) := ⟨⟨by decide +kernel, by decide +kernel⟩, List.mem_of_getElem? (i := 901) (by decide +kernel), List.mem_of_getElem? (i := 1145) (by decide +kernel), List.mem_of_getElem? (i := 1146) (by decide +kernel)⟩
theorem lw_p36 : lw_okq (⟨"HoopYardModel", "settles", "()V"⟩, 30) := ⟨⟨by decide +kernel, by decide +kernel⟩, List.mem_of_getElem? (i := 901) (by decide +kernel), List.mem_of_getElem? (i := 1149) (by decide +kernel), List.mem_of_getElem? (i := 1150) (by decide +kernel)⟩
theorem lw_p37 : lw_okq (⟨"HoopYardModel", "gripOf", "(I)I"⟩, 30) := ⟨⟨by decide +kernel, by decide +kernel⟩, List.mem_of_getElem? (i := 901) (by decide +kernel), List.mem_of_getElem? (i := 1153) (by decide +kernel), List.mem_of_getElem? (i := 1154) (by decide +kernel)⟩
theorem lw_p38 : lw_okq (⟨"HoopYardModel", "pressOf", "(I)I"⟩, 30) := ⟨⟨by decide +kernel, by decide +kernel⟩, List.mem_of_getElem? (i := 901) (by decide +kernel), List.mem_of_getElem? (i := 1157) (by decide +kernel), List.mem_of_getElem? (i := 1158) (by decide +kernel)⟩
theorem lw_p39 : lw_okq (⟨"HoopYardModel", "pressAt", "(I)I"⟩, 30) := ⟨⟨by decide +kernel, by decide +kernel⟩, List.mem_of_getElem? (i := 901) (by decide +kernel), List.mem_of_getElem? (i := 1165) (by decide +kernel), List.mem_of_getElem? (i := 1166) (by decide +kernel)⟩
theorem lw_p40 : lw_okq (⟨"HoopYardModel", "wetNow", "()I"⟩, 30) := ⟨⟨by decide +kernel, by decide +kernel⟩, List.mem_of_getElem? (i := 901) (by decide +kernel), List.mem_of_getElem? (i := 1173) (by decide +kernel), List.mem_of_getElem? (i := 1174) (by decide +kernel)⟩
theorem lw_p41 : lw_okq (⟨"HoopYardModel", "saws", "(I)V"⟩, 30) := ⟨⟨by decide +kernel, by decide +kernel⟩, List.mem_of_getElem? (i := 901) (by decide +kernel), List.mem_of_getElem? (i := 1185) (by decide +kernel), List.mem_of_getElem? (i := 1186) (by decide +kernel)⟩
theorem lw_p42 : lw_okq (⟨"HoopYardModel", "goesOn", "(IIIII)V"⟩, 30) := ⟨⟨by decide +kernel, by decide +kernel⟩, List.mem_of_getElem? (i := 901) (by decide +kernel), List.mem_of_getElem? (i := 1189) (by decide +kernel), List.mem_of_getElem? (i := 1190) (by decide +kernel)⟩
theorem lw_p43 : lw_okq (⟨"HoopYardModel", "usedBy", "(III)I"⟩, 30) := ⟨⟨by decide +kernel, by decide +kernel⟩, List.mem_of_getElem? (i := 901) (by decide +kernel), List.mem_of_getElem? (i := 1193) (by decide +kernel), List.mem_of_getElem? (i := 1194) (by decide +kernel)⟩
theorem lw_p44 : lw_okq (⟨"HoopYardModel", "reads", "()V"⟩, 30) := ⟨⟨by decide +kernel, by decide +kernel⟩, List.mem_of_getElem? (i := 901) (by decide +kernel), List.mem_of_getElem? (i := 1213) (by decide +kernel), List.mem_of_getElem? (i := 1214) (by decide +kernel)⟩
theorem lw_p45 : lw_okq (⟨"HoopYardModel", "wrong", "()V"⟩, 30) := ⟨⟨by decide +kernel, by decide +kernel⟩, List.mem_of_getElem? (i := 901) (by decide +kernel), List.mem_of_getElem? (i := 1220) (by decide +kernel), List.mem_of_getElem? (i := 1221) (by decide +kernel)⟩
theorem lw_p46 : lw_okq (⟨"HoopYardModel", "isFrom", "(II)Z"⟩, 30) := ⟨⟨by decide +kernel, by decide +kernel⟩, List.mem_of_getElem? (i := 901) (by decide +kernel), List.mem_of_getElem? (i := 1224) (by decide +kernel), List.mem_of_getElem? (i := 1225) (by decide +kernel)⟩
theorem lw_p47 : lw_okq (⟨"HoopYardModel", "number", "()I"⟩, 30) := ⟨⟨by decide +kernel, by decide +kernel⟩, List.mem_of_getElem? (i := 901) (by decide +kernel), List.mem_of_getElem? (i := 1228) (by decide +kernel), List.mem_of_getElem? (i := 1229) (by decide +kernel)⟩
def lw_privs_3 : List (MethodName × Nat) := [(⟨"HoopYardModel", "gap", "([II)I"⟩, 30), (⟨"HoopYardModel", "isRing", "(I)Z"⟩, 30), (⟨"HoopYardModel", "girthAt", "(I)I"⟩, 30), (⟨"HoopYardModel", "hasHoop", "(I)Z"⟩, 30), (⟨"HoopYardModel", "settles", "()V"⟩, 30), (⟨"HoopYardModel", "gripOf", "(I)I"⟩, 30), (⟨"HoopYardModel", "pressOf", "(I)I"⟩, 30), (⟨"HoopYardModel", "pressAt", "(I)I"⟩, 30), (⟨"HoopYardModel", "wetNow", "()I"⟩, 30), (⟨"HoopYardModel", "saws", "(I)V"⟩, 30), (⟨"HoopYardModel", "goesOn", "(IIIII)V"⟩, 30), (⟨"HoopYardModel", "usedBy", "(III)I"⟩, 30), (⟨"HoopYardModel", "reads", "()V"⟩, 30), (⟨"HoopYardModel", "wrong", "()V"⟩, 30), (⟨"HoopYardModel", "isFrom", "(II)Z"⟩, 30), (⟨"HoopYardModel", "number", "()I"⟩, 30)]
theorem lw_r3 : ∀ q ∈ lw_privs_3, lw_okq q := List.forall_mem_cons.mpr ⟨lw_p32, List.forall_mem_cons.mpr ⟨lw_p33, List.forall_mem_cons.mpr ⟨lw_p34, List.forall_mem_cons.mpr ⟨lw_p35, List.forall_mem_cons.mpr ⟨lw_p36, List.forall_mem_cons.mpr ⟨lw_p37, List.forall_mem_cons.mpr ⟨lw_p38, List.forall_mem_cons.mpr ⟨lw_p39, List.forall_mem_cons.mpr ⟨lw_p40, List.forall_mem_cons.mpr ⟨lw_p41, List.forall_mem_cons.mpr ⟨lw_p42, List.forall_mem_cons.mpr ⟨lw_p43, List.forall_mem_cons.mpr ⟨lw_p44, List.forall_mem_cons.mpr ⟨lw_p45, List.forall_mem_cons.mpr ⟨lw_p46, List.forall_mem_cons.mpr ⟨lw_p47, fun _ h => absurd h List.not_mem_nil⟩⟩⟩⟩⟩⟩⟩⟩⟩⟩⟩⟩⟩⟩⟩⟩
theorem lw_p48 : lw_okq (⟨"HoopYardModel", "does", "(I)Z"⟩, 30) := ⟨⟨by decide +kernel, by decide +kernel⟩, List.mem_of_getElem? (i := 901) (by decide +kernel), List.mem_of_getElem? (i := 1235) (by decide +kernel), List.mem_of_getElem? (i := 1236) (by decide +kernel)⟩
theorem lw_p49 : lw_okq (⟨"HoopYardModel", "isNoTray", "(I)I"⟩, 30) := ⟨⟨by decide +kernel, by decide +kernel⟩, List.mem_of_getElem? (i := 901) (by decide +kernel), List.mem_of_getElem? (i := 1269) (by decide +kernel), List.mem_of_getElem? (i := 1270) (by decide +kernel)⟩
theorem lw_p50 : lw_okq (⟨"HoopYardModel", "lays", "(IIJ)V"⟩, 30) := ⟨⟨by decide +kernel, by decide +kernel⟩, List.mem_of_getElem? (i := 901) (by decide +kernel), List.mem_of_getElem? (i := 1273) (by decide +kernel), List.mem_of_getElem? (i := 1274) (by decide +kernel)⟩
def lw_privs_4 : List (MethodName × Nat) := [(⟨"HoopYardModel", "does", "(I)Z"⟩, 30), (⟨"HoopYardModel", "isNoTray", "(I)I"⟩, 30), (⟨"HoopYardModel", "lays", "(IIJ)V"⟩, 30)]
theorem lw_r4 : ∀ q ∈ lw_privs_4, lw_okq q := List.forall_mem_cons.mpr ⟨lw_p48, List.forall_mem_cons.mpr ⟨lw_p49, List.forall_mem_cons.mpr ⟨lw_p50, fun _ h => absurd h List.not_mem_nil⟩⟩⟩
def lw_privs : List (MethodName × Nat) := lw_privs_1 ++ (lw_privs_2 ++ (lw_privs_3 ++ (lw_privs_4)))
def lw_tbl : List Cond := k2_sels lw_privs ++ tables_1
theorem lw_privs_ok : ∀ q ∈ lw_privs, lw_okq q := by
  show ∀ q ∈ lw_privs_1 ++ (lw_privs_2 ++ (lw_privs_3 ++ (lw_privs_4))), lw_okq q
  exact List.forall_mem_append.mpr ⟨lw_r1, List.forall_mem_append.mpr ⟨lw_r2, List.forall_mem_append.mpr ⟨lw_r3, lw_r4⟩⟩⟩
def RX0 : String := "HoopYard$Board"
def TX0 : u_T := fun k => match k with
  | _ => ("HoopYard$Board", "width", "I", true)
def tyX0 : Nat → FieldType := fun k => match k with
  | _ => .int
abbrev wsX00 : List Cond := u_ws RX0 TX0 1
theorem nmX0 : ∀ a, a < 1 → ∀ b, b < 1 → a ≠ b → (TX0 a).2.1 ≠ (TX0 b).2.1 := by decide +kernel
theorem tyX0_ok : ∀ k, k < 1 → parseFieldDescriptor (TX0 k).2.2.1 = some (tyX0 k) := by decide +kernel
abbrev cX0_init : ByteArray := prog_2_method_1_code
def yX0_init : MethodName := ⟨RX0, "<init>", "(I)V"⟩
abbrev cX0_canBe : ByteArray := prog_2_method_2_code
def yX0_canBe : MethodName := ⟨RX0, "canBe", "(I)Z"⟩
abbrev cX0_toldAs : ByteArray := prog_2_method_3_code
def yX0_toldAs : MethodName := ⟨RX0, "toldAs", "()I"⟩
def RX1 : String := "HoopYard$Cask"
def TX1 : u_T := fun k => match k with
  | 0 => ("HoopYard$Cask", "depths", "[I", true)
  | _ => ("HoopYard$Cask", "pressing", "[I", true)
def tyX1 : Nat → FieldType := fun k => match k with
  | 0 => .array .int
  | _ => .array .int
abbrev wsX10 : List Cond := u_ws RX1 TX1 2
theorem nmX1 : ∀ a, a < 2 → ∀ b, b < 2 → a ≠ b → (TX1 a).2.1 ≠ (TX1 b).2.1 := by decide +kernel
theorem tyX1_ok : ∀ k, k < 2 → parseFieldDescriptor (TX1 k).2.2.1 = some (tyX1 k) := by decide +kernel
abbrev cX1_init : ByteArray := prog_3_method_1_code
def yX1_init : MethodName := ⟨RX1, "<init>", "()V"⟩
abbrev cX1_girthAt : ByteArray := prog_3_method_2_code
def yX1_girthAt : MethodName := ⟨RX1, "girthAt", "(LHoopYard$Stock;I)I"⟩
abbrev cX1_heightOf : ByteArray := prog_3_method_3_code
def yX1_heightOf : MethodName := ⟨RX1, "heightOf", "(II)I"⟩
abbrev cX1_drive : ByteArray := prog_3_method_4_code
def yX1_drive : MethodName := ⟨RX1, "drive", "(LHoopYard$Stock;)V"⟩
abbrev cX1_addPress : ByteArray := prog_3_method_5_code
def yX1_addPress : MethodName := ⟨RX1, "addPress", "(LHoopYard$Hoop;II)V"⟩
abbrev cX1_restDepth : ByteArray := prog_3_method_6_code
def yX1_restDepth : MethodName := ⟨RX1, "restDepth", "(LHoopYard$Stock;III)I"⟩
abbrev cX1_gripAt : ByteArray := prog_3_method_7_code
def yX1_gripAt : MethodName := ⟨RX1, "gripAt", "(LHoopYard$Stock;II)I"⟩
abbrev cX1_pressFrom : ByteArray := prog_3_method_8_code
def yX1_pressFrom : MethodName := ⟨RX1, "pressFrom", "(III)I"⟩
abbrev cX1_capped : ByteArray := prog_3_method_9_code
def yX1_capped : MethodName := ⟨RX1, "capped", "(I)I"⟩
abbrev cX1_wetBelow : ByteArray := prog_3_method_10_code
def yX1_wetBelow : MethodName := ⟨RX1, "wetBelow", "(I)I"⟩
abbrev cX1_driestSize : ByteArray := prog_3_method_11_code
def yX1_driestSize : MethodName := ⟨RX1, "driestSize", "(LHoopYard$Stock;II)I"⟩
abbrev cX1_howManyWetWith : ByteArray := prog_3_method_12_code
def yX1_howManyWetWith : MethodName := ⟨RX1, "howManyWetWith", "(III)I"⟩
def RX2 : String := "HoopYard$HeadBench"
def TX2 : u_T := fun k => match k with
  | 0 => ("HoopYard$HeadBench", "widths", "[I", true)
  | 1 => ("HoopYard$HeadBench", "row", "[I", true)
  | 2 => ("HoopYard$HeadBench", "ends", "[I", true)
  | 3 => ("HoopYard$HeadBench", "rest", "[I", true)
  | 4 => ("HoopYard$HeadBench", "boards", "I", false)
  | _ => ("HoopYard$HeadBench", "radius", "I", false)
def tyX2 : Nat → FieldType := fun k => match k with
  | 0 => .array .int
  | 1 => .array .int
  | 2 => .array .int
  | 3 => .array .int
  | 4 => .int
  | _ => .int
abbrev wsX20 : List Cond := u_ws RX2 TX2 6
theorem nmX2 : ∀ a, a < 6 → ∀ b, b < 6 → a ≠ b → (TX2 a).2.1 ≠ (TX2 b).2.1 := by decide +kernel
theorem tyX2_ok : ∀ k, k < 6 → parseFieldDescriptor (TX2 k).2.2.1 = some (tyX2 k) := by decide +kernel
abbrev cX2_init : ByteArray := prog_4_method_1_code
def yX2_init : MethodName := ⟨RX2, "<init>", "()V"⟩
abbrev cX2_measure : ByteArray := prog_4_method_2_code
def yX2_measure : MethodName := ⟨RX2, "measure", "(LHoopYard$Stock;I)V"⟩
abbrev cX2_isDone : ByteArray := prog_4_method_3_code
def yX2_isDone : MethodName := ⟨RX2, "isDone", "(I)Z"⟩
abbrev cX2_spentOn : ByteArray := prog_4_method_4_code
def yX2_spentOn : MethodName := ⟨RX2, "spentOn", "(II)I"⟩
abbrev cX2_leastSpent : ByteArray := prog_4_method_5_code
def yX2_leastSpent : MethodName := ⟨RX2, "leastSpent", "()I"⟩
abbrev cX2_leastOnward : ByteArray := prog_4_method_6_code
def yX2_leastOnward : MethodName := ⟨RX2, "leastOnward", "(I)I"⟩
abbrev cX2_spentFrom : ByteArray := prog_4_method_7_code
def yX2_spentFrom : MethodName := ⟨RX2, "spentFrom", "(II)I"⟩
abbrev cX2_leastDigits : ByteArray := prog_4_method_8_code
def yX2_leastDigits : MethodName := ⟨RX2, "leastDigits", "()I"⟩
abbrev cX2_firstOfLeast : ByteArray := prog_4_method_9_code
def yX2_firstOfLeast : MethodName := ⟨RX2, "firstOfLeast", "(I)I"⟩
abbrev cX2_spentBy : ByteArray := prog_4_method_10_code
def yX2_spentBy : MethodName := ⟨RX2, "spentBy", "(I)I"⟩
abbrev cX2_howMany : ByteArray := prog_4_method_11_code
def yX2_howMany : MethodName := ⟨RX2, "howMany", "()I"⟩
abbrev cX2_howManyOnward : ByteArray := prog_4_method_12_code
def yX2_howManyOnward : MethodName := ⟨RX2, "howManyOnward", "(I)I"⟩
def RX3 : String := "HoopYard$Hoop"
def TX3 : u_T := fun k => match k with
  | 0 => ("HoopYard$Hoop", "kind", "I", true)
  | 1 => ("HoopYard$Hoop", "size", "I", true)
  | _ => ("HoopYard$Hoop", "side", "I", true)
def tyX3 : Nat → FieldType := fun k => match k with
  | 0 => .int
  | 1 => .int
  | _ => .int
abbrev wsX30 : List Cond := u_ws RX3 TX3 3
theorem nmX3 : ∀ a, a < 3 → ∀ b, b < 3 → a ≠ b → (TX3 a).2.1 ≠ (TX3 b).2.1 := by decide +kernel
theorem tyX3_ok : ∀ k, k < 3 → parseFieldDescriptor (TX3 k).2.2.1 = some (tyX3 k) := by decide +kernel
abbrev cX3_init : ByteArray := prog_5_method_1_code
def yX3_init : MethodName := ⟨RX3, "<init>", "(III)V"⟩
abbrev cX3_canBe : ByteArray := prog_5_method_2_code
def yX3_canBe : MethodName := ⟨RX3, "canBe", "(III)Z"⟩
abbrev cX3_presses : ByteArray := prog_5_method_3_code
def yX3_presses : MethodName := ⟨RX3, "presses", "(II)I"⟩
abbrev cX3_toldAs : ByteArray := prog_5_method_4_code
def yX3_toldAs : MethodName := ⟨RX3, "toldAs", "()I"⟩
def RX4 : String := "HoopYard$RingBench"
def TX4 : u_T := fun k => match k with
  | 0 => ("HoopYard$RingBench", "chosen", "[I", true)
  | 1 => ("HoopYard$RingBench", "order", "[I", true)
  | 2 => ("HoopYard$RingBench", "gaps", "[I", true)
  | 3 => ("HoopYard$RingBench", "costs", "[[I", true)
  | 4 => ("HoopYard$RingBench", "onward", "[I", true)
  | _ => ("HoopYard$RingBench", "size", "I", false)
def tyX4 : Nat → FieldType := fun k => match k with
  | 0 => .array .int
  | 1 => .array .int
  | 2 => .array .int
  | 3 => .array (.array .int)
  | 4 => .array .int
  | _ => .int
abbrev wsX40 : List Cond := u_ws RX4 TX4 6
theorem nmX4 : ∀ a, a < 6 → ∀ b, b < 6 → a ≠ b → (TX4 a).2.1 ≠ (TX4 b).2.1 := by decide +kernel
theorem tyX4_ok : ∀ k, k < 6 → parseFieldDescriptor (TX4 k).2.2.1 = some (tyX4 k) := by decide +kernel
abbrev cX4_init : ByteArray := prog_6_method_1_code
def yX4_init : MethodName := ⟨RX4, "<init>", "()V"⟩
abbrev cX4_layTold : ByteArray := prog_6_method_2_code
def yX4_layTold : MethodName := ⟨RX4, "layTold", "(LHoopYard$Stock;I)Z"⟩
abbrev cX4_layLeast : ByteArray := prog_6_method_3_code
def yX4_layLeast : MethodName := ⟨RX4, "layLeast", "(LHoopYard$Stock;II)V"⟩
abbrev cX4_leakUnder : ByteArray := prog_6_method_4_code
def yX4_leakUnder : MethodName := ⟨RX4, "leakUnder", "(I)I"⟩
abbrev cX4_digits : ByteArray := prog_6_method_5_code
def yX4_digits : MethodName := ⟨RX4, "digits", "()I"⟩
abbrev cX4_jointOfRank : ByteArray := prog_6_method_6_code
def yX4_jointOfRank : MethodName := ⟨RX4, "jointOfRank", "(I)I"⟩
abbrev cX4_rankOf : ByteArray := prog_6_method_7_code
def yX4_rankOf : MethodName := ⟨RX4, "rankOf", "(I)I"⟩
abbrev cX4_howManyWithin : ByteArray := prog_6_method_8_code
def yX4_howManyWithin : MethodName := ⟨RX4, "howManyWithin", "(LHoopYard$Stock;III)I"⟩
abbrev cX4_tightPress : ByteArray := prog_6_method_9_code
def yX4_tightPress : MethodName := ⟨RX4, "tightPress", "(LHoopYard$Stock;I)I"⟩
abbrev cX4_measureGaps : ByteArray := prog_6_method_10_code
def yX4_measureGaps : MethodName := ⟨RX4, "measureGaps", "(LHoopYard$Stock;)V"⟩
abbrev cX4_gapOf : ByteArray := prog_6_method_11_code
def yX4_gapOf : MethodName := ⟨RX4, "gapOf", "(LHoopYard$Stock;II)I"⟩
abbrev cX4_edgeOf : ByteArray := prog_6_method_12_code
def yX4_edgeOf : MethodName := ⟨RX4, "edgeOf", "(LHoopYard$Stock;I)I"⟩
abbrev cX4_choose : ByteArray := prog_6_method_13_code
def yX4_choose : MethodName := ⟨RX4, "choose", "(LHoopYard$Stock;II)V"⟩
abbrev cX4_allButFirst : ByteArray := prog_6_method_14_code
def yX4_allButFirst : MethodName := ⟨RX4, "allButFirst", "()I"⟩
abbrev cX4_cellOf : ByteArray := prog_6_method_15_code
def yX4_cellOf : MethodName := ⟨RX4, "cellOf", "(II)I"⟩
abbrev cX4_weigh : ByteArray := prog_6_method_16_code
def yX4_weigh : MethodName := ⟨RX4, "weigh", "(Z)V"⟩
abbrev cX4_leastOnward : ByteArray := prog_6_method_17_code
def yX4_leastOnward : MethodName := ⟨RX4, "leastOnward", "(IIZ)I"⟩
abbrev cX4_firstOfLeast : ByteArray := prog_6_method_18_code
def yX4_firstOfLeast : MethodName := ⟨RX4, "firstOfLeast", "(II)I"⟩
abbrev cX4_countOnward : ByteArray := prog_6_method_19_code
def yX4_countOnward : MethodName := ⟨RX4, "countOnward", "([[IIIIII)I"⟩
def RX5 : String := "HoopYard$Rounds"
def TX5 : u_T := fun k => match k with
  | 0 => ("HoopYard$Rounds", "counts", "[I", true)
  | 1 => ("HoopYard$Rounds", "prices", "[I", true)
  | _ => ("HoopYard$Rounds", "sets", "I", false)
def tyX5 : Nat → FieldType := fun k => match k with
  | 0 => .array .int
  | 1 => .array .int
  | _ => .int
abbrev wsX50 : List Cond := u_ws RX5 TX5 3
theorem nmX5 : ∀ a, a < 3 → ∀ b, b < 3 → a ≠ b → (TX5 a).2.1 ≠ (TX5 b).2.1 := by decide +kernel
theorem tyX5_ok : ∀ k, k < 3 → parseFieldDescriptor (TX5 k).2.2.1 = some (tyX5 k) := by decide +kernel
abbrev cX5_init : ByteArray := prog_7_method_1_code
def yX5_init : MethodName := ⟨RX5, "<init>", "()V"⟩
abbrev cX5_addUp : ByteArray := prog_7_method_2_code
def yX5_addUp : MethodName := ⟨RX5, "addUp", "(LHoopYard$Stock;)V"⟩
abbrev cX5_howMany : ByteArray := prog_7_method_3_code
def yX5_howMany : MethodName := ⟨RX5, "howMany", "(II)I"⟩
abbrev cX5_bestBetween : ByteArray := prog_7_method_4_code
def yX5_bestBetween : MethodName := ⟨RX5, "bestBetween", "(II)I"⟩
abbrev cX5_isBetter : ByteArray := prog_7_method_5_code
def yX5_isBetter : MethodName := ⟨RX5, "isBetter", "(II)Z"⟩
abbrev cX5_closestTo : ByteArray := prog_7_method_6_code
def yX5_closestTo : MethodName := ⟨RX5, "closestTo", "(I)I"⟩
def RX6 : String := "HoopYard$Stave"
def TX6 : u_T := fun k => match k with
  | 0 => ("HoopYard$Stave", "kind", "I", true)
  | 1 => ("HoopYard$Stave", "width", "I", false)
  | 2 => ("HoopYard$Stave", "thick", "I", true)
  | _ => ("HoopYard$Stave", "bevel", "I", true)
def tyX6 : Nat → FieldType := fun k => match k with
  | 0 => .int
  | 1 => .int
  | 2 => .int
  | _ => .int
abbrev wsX60 : List Cond := u_ws RX6 TX6 4
theorem nmX6 : ∀ a, a < 4 → ∀ b, b < 4 → a ≠ b → (TX6 a).2.1 ≠ (TX6 b).2.1 := by decide +kernel
theorem tyX6_ok : ∀ k, k < 4 → parseFieldDescriptor (TX6 k).2.2.1 = some (tyX6 k) := by decide +kernel
abbrev cX6_init : ByteArray := prog_8_method_1_code
def yX6_init : MethodName := ⟨RX6, "<init>", "(IIII)V"⟩
abbrev cX6_canBe : ByteArray := prog_8_method_2_code
def yX6_canBe : MethodName := ⟨RX6, "canBe", "(IIII)Z"⟩
abbrev cX6_toldAs : ByteArray := prog_8_method_3_code
def yX6_toldAs : MethodName := ⟨RX6, "toldAs", "()I"⟩
abbrev cX6_twin : ByteArray := prog_8_method_4_code
def yX6_twin : MethodName := ⟨RX6, "twin", "()LHoopYard$Stave;"⟩
abbrev cX6_counts : ByteArray := prog_8_method_5_code
def yX6_counts : MethodName := ⟨RX6, "counts", "()I"⟩
abbrev cX6_edge : ByteArray := prog_8_method_6_code
def yX6_edge : MethodName := ⟨RX6, "edge", "()I"⟩
abbrev cX6_price : ByteArray := prog_8_method_7_code
def yX6_price : MethodName := ⟨RX6, "price", "()I"⟩
def RX7 : String := "HoopYard$Stock"
def TX7 : u_T := fun k => match k with
  | 0 => ("HoopYard$Stock", "staves", "[LHoopYard$Stave;", true)
  | 1 => ("HoopYard$Stock", "hoops", "[LHoopYard$Hoop;", true)
  | 2 => ("HoopYard$Stock", "boards", "[LHoopYard$Board;", true)
  | 3 => ("HoopYard$Stock", "rules", "[I", true)
  | 4 => ("HoopYard$Stock", "staveCount", "I", false)
  | 5 => ("HoopYard$Stock", "hoopCount", "I", false)
  | _ => ("HoopYard$Stock", "boardCount", "I", false)
def tyX7 : Nat → FieldType := fun k => match k with
  | 0 => .array (.object "HoopYard$Stave")
  | 1 => .array (.object "HoopYard$Hoop")
  | 2 => .array (.object "HoopYard$Board")
  | 3 => .array .int
  | 4 => .int
  | 5 => .int
  | _ => .int
abbrev wsX70 : List Cond := u_ws RX7 TX7 7
theorem nmX7 : ∀ a, a < 7 → ∀ b, b < 7 → a ≠ b → (TX7 a).2.1 ≠ (TX7 b).2.1 := by decide +kernel
theorem tyX7_ok : ∀ k, k < 7 → parseFieldDescriptor (TX7 k).2.2.1 = some (tyX7 k) := by decide +kernel
abbrev cX7_init : ByteArray := prog_9_method_1_code
def yX7_init : MethodName := ⟨RX7, "<init>", "()V"⟩
abbrev cX7_staveAt : ByteArray := prog_9_method_2_code
def yX7_staveAt : MethodName := ⟨RX7, "staveAt", "(I)LHoopYard$Stave;"⟩
abbrev cX7_hoopAt : ByteArray := prog_9_method_3_code
def yX7_hoopAt : MethodName := ⟨RX7, "hoopAt", "(I)LHoopYard$Hoop;"⟩
abbrev cX7_boardAt : ByteArray := prog_9_method_4_code
def yX7_boardAt : MethodName := ⟨RX7, "boardAt", "(I)LHoopYard$Board;"⟩
abbrev cX7_thingAt : ByteArray := prog_9_method_5_code
def yX7_thingAt : MethodName := ⟨RX7, "thingAt", "(II)LHoopYard$Thing;"⟩
abbrev cX7_addStave : ByteArray := prog_9_method_6_code
def yX7_addStave : MethodName := ⟨RX7, "addStave", "(LHoopYard$Stave;)I"⟩
abbrev cX7_addHoop : ByteArray := prog_9_method_7_code
def yX7_addHoop : MethodName := ⟨RX7, "addHoop", "(LHoopYard$Hoop;)I"⟩
abbrev cX7_addBoard : ByteArray := prog_9_method_8_code
def yX7_addBoard : MethodName := ⟨RX7, "addBoard", "(LHoopYard$Board;)I"⟩
abbrev cX7_dropStave : ByteArray := prog_9_method_9_code
def yX7_dropStave : MethodName := ⟨RX7, "dropStave", "()I"⟩
abbrev cX7_dropHoop : ByteArray := prog_9_method_10_code
def yX7_dropHoop : MethodName := ⟨RX7, "dropHoop", "()I"⟩
abbrev cX7_dropBoard : ByteArray := prog_9_method_11_code
def yX7_dropBoard : MethodName := ⟨RX7, "dropBoard", "()I"⟩
abbrev cX7_becomeLike : ByteArray := prog_9_method_12_code
def yX7_becomeLike : MethodName := ⟨RX7, "becomeLike", "(LHoopYard$Stock;)V"⟩
def RX8 : String := "HoopYard$Tape"
def TX8 : u_T := fun k => match k with
  | 0 => ("HoopYard$Tape", "bytes", "[B", true)
  | 1 => ("HoopYard$Tape", "letters", "[I", true)
  | 2 => ("HoopYard$Tape", "places", "[I", true)
  | 3 => ("HoopYard$Tape", "numbers", "[[I", true)
  | 4 => ("HoopYard$Tape", "size", "I", false)
  | 5 => ("HoopYard$Tape", "statements", "I", false)
  | _ => ("HoopYard$Tape", "cursor", "I", false)
def tyX8 : Nat → FieldType := fun k => match k with
  | 0 => .array .byte
  | 1 => .array .int
  | 2 => .array .int
  | 3 => .array (.array .int)
  | 4 => .int
  | 5 => .int
  | _ => .int
abbrev wsX80 : List Cond := u_ws RX8 TX8 7
theorem nmX8 : ∀ a, a < 7 → ∀ b, b < 7 → a ≠ b → (TX8 a).2.1 ≠ (TX8 b).2.1 := by decide +kernel
theorem tyX8_ok : ∀ k, k < 7 → parseFieldDescriptor (TX8 k).2.2.1 = some (tyX8 k) := by decide +kernel
abbrev cX8_init : ByteArray := prog_10_method_1_code
def yX8_init : MethodName := ⟨RX8, "<init>", "()V"⟩
abbrev cX8_append : ByteArray := prog_10_method_2_code
def yX8_append : MethodName := ⟨RX8, "append", "(B)I"⟩
abbrev cX8_parse : ByteArray := prog_10_method_3_code
def yX8_parse : MethodName := ⟨RX8, "parse", "()Z"⟩
abbrev cX8_parseStatement : ByteArray := prog_10_method_4_code
def yX8_parseStatement : MethodName := ⟨RX8, "parseStatement", "(I)Z"⟩
abbrev cX8_parseNumber : ByteArray := prog_10_method_5_code
def yX8_parseNumber : MethodName := ⟨RX8, "parseNumber", "(II)Z"⟩
abbrev cX8_peek : ByteArray := prog_10_method_6_code
def yX8_peek : MethodName := ⟨RX8, "peek", "()I"⟩
abbrev cX8_pass : ByteArray := prog_10_method_7_code
def yX8_pass : MethodName := ⟨RX8, "pass", "(I)Z"⟩
abbrev cX8_howManyNumbers : ByteArray := prog_10_method_8_code
def yX8_howManyNumbers : MethodName := ⟨RX8, "howManyNumbers", "(I)I"⟩
abbrev cX8_firstUndoable : ByteArray := prog_10_method_9_code
def yX8_firstUndoable : MethodName := ⟨RX8, "firstUndoable", "(LHoopYard$Stock;)I"⟩
abbrev cX8_isInBounds : ByteArray := prog_10_method_10_code
def yX8_isInBounds : MethodName := ⟨RX8, "isInBounds", "(I[I)Z"⟩
abbrev cX8_carryOut : ByteArray := prog_10_method_11_code
def yX8_carryOut : MethodName := ⟨RX8, "carryOut", "(LHoopYard$Stock;)V"⟩
def RX9 : String := "HoopYard$Thing"
def TX9 : u_T := fun k => match k with
  | _ => ("", "", "", false)
def tyX9 : Nat → FieldType := fun k => match k with
  | _ => .int
abbrev wsX90 : List Cond := u_ws RX9 TX9 0
theorem nmX9 : ∀ a, a < 0 → ∀ b, b < 0 → a ≠ b → (TX9 a).2.1 ≠ (TX9 b).2.1 := by decide +kernel
theorem tyX9_ok : ∀ k, k < 0 → parseFieldDescriptor (TX9 k).2.2.1 = some (tyX9 k) := by decide +kernel
abbrev cX9_init : ByteArray := prog_11_method_1_code
def yX9_init : MethodName := ⟨RX9, "<init>", "()V"⟩
def RX10 : String := "HoopYard$Tray"
def TX10 : u_T := fun k => match k with
  | 0 => ("HoopYard$Tray", "sort", "I", true)
  | _ => ("HoopYard$Tray", "items", "[J", true)
def tyX10 : Nat → FieldType := fun k => match k with
  | 0 => .int
  | _ => .array .long
abbrev wsX100 : List Cond := u_ws RX10 TX10 2
theorem nmX10 : ∀ a, a < 2 → ∀ b, b < 2 → a ≠ b → (TX10 a).2.1 ≠ (TX10 b).2.1 := by decide +kernel
theorem tyX10_ok : ∀ k, k < 2 → parseFieldDescriptor (TX10 k).2.2.1 = some (tyX10 k) := by decide +kernel
abbrev cX10_init : ByteArray := prog_12_method_1_code
def yX10_init : MethodName := ⟨RX10, "<init>", "(II)V"⟩
abbrev cX10_toldAs : ByteArray := prog_12_method_2_code
def yX10_toldAs : MethodName := ⟨RX10, "toldAs", "()I"⟩
abbrev cX10_hasItem : ByteArray := prog_12_method_3_code
def yX10_hasItem : MethodName := ⟨RX10, "hasItem", "(I)Z"⟩
abbrev cX10_hasRun : ByteArray := prog_12_method_4_code
def yX10_hasRun : MethodName := ⟨RX10, "hasRun", "(II)Z"⟩
abbrev cX10_lay : ByteArray := prog_12_method_5_code
def yX10_lay : MethodName := ⟨RX10, "lay", "(IJ)V"⟩
def RX11 : String := "HoopYard"
def TX11 : u_T := fun k => match k with
  | 0 => ("HoopYard", "stock", "LHoopYard$Stock;", true)
  | 1 => ("HoopYard", "kept", "LHoopYard$Stock;", true)
  | 2 => ("HoopYard", "isKept", "Z", false)
  | 3 => ("HoopYard", "pegs", "[LHoopYard$Thing;", true)
  | 4 => ("HoopYard", "tape", "LHoopYard$Tape;", true)
  | 5 => ("HoopYard", "textsDone", "I", false)
  | 6 => ("HoopYard", "rounds", "LHoopYard$Rounds;", true)
  | 7 => ("HoopYard", "bench", "LHoopYard$RingBench;", true)
  | 8 => ("HoopYard", "cask", "LHoopYard$Cask;", true)
  | _ => ("HoopYard", "saw", "LHoopYard$HeadBench;", true)
def tyX11 : Nat → FieldType := fun k => match k with
  | 0 => .object "HoopYard$Stock"
  | 1 => .object "HoopYard$Stock"
  | 2 => .boolean
  | 3 => .array (.object "HoopYard$Thing")
  | 4 => .object "HoopYard$Tape"
  | 5 => .int
  | 6 => .object "HoopYard$Rounds"
  | 7 => .object "HoopYard$RingBench"
  | 8 => .object "HoopYard$Cask"
  | _ => .object "HoopYard$HeadBench"
abbrev wsX110 : List Cond := u_ws RX11 TX11 10
theorem nmX11 : ∀ a, a < 10 → ∀ b, b < 10 → a ≠ b → (TX11 a).2.1 ≠ (TX11 b).2.1 := by decide +kernel
theorem tyX11_ok : ∀ k, k < 10 → parseFieldDescriptor (TX11 k).2.2.1 = some (tyX11 k) := by decide +kernel
abbrev cX11_init : ByteArray := prog_1_method_1_code
def yX11_init : MethodName := ⟨RX11, "<init>", "()V"⟩
abbrev cX11_stave : ByteArray := prog_1_method_2_code
def yX11_stave : MethodName := ⟨RX11, "stave", "(IIII)I"⟩
abbrev cX11_hoop : ByteArray := prog_1_method_3_code
def yX11_hoop : MethodName := ⟨RX11, "hoop", "(III)I"⟩
abbrev cX11_board : ByteArray := prog_1_method_4_code
def yX11_board : MethodName := ⟨RX11, "board", "(I)I"⟩
abbrev cX11_rule : ByteArray := prog_1_method_5_code
def yX11_rule : MethodName := ⟨RX11, "rule", "(II)I"⟩
abbrev cX11_told : ByteArray := prog_1_method_6_code
def yX11_told : MethodName := ⟨RX11, "told", "(I)I"⟩
abbrev cX11_ofStave : ByteArray := prog_1_method_7_code
def yX11_ofStave : MethodName := ⟨RX11, "ofStave", "(II)I"⟩
abbrev cX11_takes : ByteArray := prog_1_method_8_code
def yX11_takes : MethodName := ⟨RX11, "takes", "(I)I"⟩
abbrev cX11_shave : ByteArray := prog_1_method_9_code
def yX11_shave : MethodName := ⟨RX11, "shave", "(II)I"⟩
abbrev cX11_fits : ByteArray := prog_1_method_10_code
def yX11_fits : MethodName := ⟨RX11, "fits", "(I)I"⟩
abbrev cX11_sums : ByteArray := prog_1_method_11_code
def yX11_sums : MethodName := ⟨RX11, "sums", "(I)I"⟩
abbrev cX11_nearest : ByteArray := prog_1_method_12_code
def yX11_nearest : MethodName := ⟨RX11, "nearest", "(I)I"⟩
abbrev cX11_least : ByteArray := prog_1_method_13_code
def yX11_least : MethodName := ⟨RX11, "least", "(III)I"⟩
abbrev cX11_leak : ByteArray := prog_1_method_14_code
def yX11_leak : MethodName := ⟨RX11, "leak", "(II)I"⟩
abbrev cX11_worst : ByteArray := prog_1_method_15_code
def yX11_worst : MethodName := ⟨RX11, "worst", "(III)I"⟩
abbrev cX11_rings : ByteArray := prog_1_method_16_code
def yX11_rings : MethodName := ⟨RX11, "rings", "(III)I"⟩
abbrev cX11_girth : ByteArray := prog_1_method_17_code
def yX11_girth : MethodName := ⟨RX11, "girth", "(I)I"⟩
abbrev cX11_ofHoop : ByteArray := prog_1_method_18_code
def yX11_ofHoop : MethodName := ⟨RX11, "ofHoop", "(II)I"⟩
abbrev cX11_press : ByteArray := prog_1_method_19_code
def yX11_press : MethodName := ⟨RX11, "press", "(I)I"⟩
abbrev cX11_wet : ByteArray := prog_1_method_20_code
def yX11_wet : MethodName := ⟨RX11, "wet", "(I)I"⟩
abbrev cX11_driest : ByteArray := prog_1_method_21_code
def yX11_driest : MethodName := ⟨RX11, "driest", "(II)I"⟩
abbrev cX11_head : ByteArray := prog_1_method_22_code
def yX11_head : MethodName := ⟨RX11, "head", "(II)I"⟩
abbrev cX11_used : ByteArray := prog_1_method_23_code
def yX11_used : MethodName := ⟨RX11, "used", "(II)I"⟩
abbrev cX11_heads : ByteArray := prog_1_method_24_code
def yX11_heads : MethodName := ⟨RX11, "heads", "(I)I"⟩
abbrev cX11_feed : ByteArray := prog_1_method_25_code
def yX11_feed : MethodName := ⟨RX11, "feed", "(I)I"⟩
abbrev cX11_read : ByteArray := prog_1_method_26_code
def yX11_read : MethodName := ⟨RX11, "read", "()I"⟩
abbrev cX11_hang : ByteArray := prog_1_method_27_code
def yX11_hang : MethodName := ⟨RX11, "hang", "(III)I"⟩
abbrev cX11_tray : ByteArray := prog_1_method_28_code
def yX11_tray : MethodName := ⟨RX11, "tray", "(III)I"⟩
abbrev cX11_held : ByteArray := prog_1_method_29_code
def yX11_held : MethodName := ⟨RX11, "held", "(I)I"⟩
abbrev cX11_as : ByteArray := prog_1_method_30_code
def yX11_as : MethodName := ⟨RX11, "as", "(III)I"⟩
abbrev cX11_put : ByteArray := prog_1_method_31_code
def yX11_put : MethodName := ⟨RX11, "put", "(IIJ)I"⟩
abbrev cX11_get : ByteArray := prog_1_method_32_code
def yX11_get : MethodName := ⟨RX11, "get", "(II)J"⟩
abbrev cX11_fill : ByteArray := prog_1_method_33_code
def yX11_fill : MethodName := ⟨RX11, "fill", "(III)I"⟩
abbrev cX11_judge : ByteArray := prog_1_method_34_code
def yX11_judge : MethodName := ⟨RX11, "judge", "(III)I"⟩
abbrev cX11_move : ByteArray := prog_1_method_35_code
def yX11_move : MethodName := ⟨RX11, "move", "(IIIII)I"⟩
abbrev cX11_image : ByteArray := prog_1_method_36_code
def yX11_image : MethodName := ⟨RX11, "image", "()I"⟩
abbrev cX11_undo : ByteArray := prog_1_method_37_code
def yX11_undo : MethodName := ⟨RX11, "undo", "()I"⟩
abbrev cX11_isIn : ByteArray := prog_1_method_38_code
def yX11_isIn : MethodName := ⟨RX11, "isIn", "(III)Z"⟩
abbrev cX11_isPress : ByteArray := prog_1_method_39_code
def yX11_isPress : MethodName := ⟨RX11, "isPress", "(I)Z"⟩
abbrev cX11_isHeight : ByteArray := prog_1_method_40_code
def yX11_isHeight : MethodName := ⟨RX11, "isHeight", "(I)Z"⟩
abbrev cX11_isRadius : ByteArray := prog_1_method_41_code
def yX11_isRadius : MethodName := ⟨RX11, "isRadius", "(I)Z"⟩
abbrev cX11_isPeg : ByteArray := prog_1_method_42_code
def yX11_isPeg : MethodName := ⟨RX11, "isPeg", "(I)Z"⟩
abbrev cX11_canRule : ByteArray := prog_1_method_43_code
def yX11_canRule : MethodName := ⟨RX11, "canRule", "(II)Z"⟩
abbrev cX11_isRingSet : ByteArray := prog_1_method_44_code
def yX11_isRingSet : MethodName := ⟨RX11, "isRingSet", "(I)Z"⟩
abbrev cX11_holds : ByteArray := prog_1_method_45_code
def yX11_holds : MethodName := ⟨RX11, "holds", "(II)Z"⟩
abbrev cX11_without : ByteArray := prog_1_method_46_code
def yX11_without : MethodName := ⟨RX11, "without", "(II)I"⟩
abbrev cX11_kindsOf : ByteArray := prog_1_method_47_code
def yX11_kindsOf : MethodName := ⟨RX11, "kindsOf", "(I)I"⟩
abbrev cX11_isUnder : ByteArray := prog_1_method_48_code
def yX11_isUnder : MethodName := ⟨RX11, "isUnder", "(II[I)Z"⟩
abbrev cX11_rootOf : ByteArray := prog_1_method_49_code
def yX11_rootOf : MethodName := ⟨RX11, "rootOf", "(I)I"⟩
abbrev cX11_sagOf : ByteArray := prog_1_method_50_code
def yX11_sagOf : MethodName := ⟨RX11, "sagOf", "(II)I"⟩
abbrev cX11_howManyDigits : ByteArray := prog_1_method_51_code
def yX11_howManyDigits : MethodName := ⟨RX11, "howManyDigits", "(I)I"⟩
abbrev cX11_spellRow : ByteArray := prog_1_method_52_code
def yX11_spellRow : MethodName := ⟨RX11, "spellRow", "(II[I)I"⟩
abbrev cX11_ofResting : ByteArray := prog_1_method_53_code
def yX11_ofResting : MethodName := ⟨RX11, "ofResting", "(LHoopYard$Hoop;II)I"⟩
abbrev cX11_trayOn : ByteArray := prog_1_method_54_code
def yX11_trayOn : MethodName := ⟨RX11, "trayOn", "(I)LHoopYard$Tray;"⟩
abbrev cX11_lackOfTray : ByteArray := prog_1_method_55_code
def yX11_lackOfTray : MethodName := ⟨RX11, "lackOfTray", "(I)I"⟩
abbrev cX11_lackForRing : ByteArray := prog_1_method_56_code
def yX11_lackForRing : MethodName := ⟨RX11, "lackForRing", "(III)I"⟩
def RX12 : String := "HoopYardModel"
def TX12 : u_T := fun k => match k with
  | 0 => ("HoopYardModel", "now", "[I", true)
  | 1 => ("HoopYardModel", "old", "[I", true)
  | 2 => ("HoopYardModel", "ahead", "[I", true)
  | 3 => ("HoopYardModel", "imaged", "Z", false)
  | 4 => ("HoopYardModel", "things", "I", false)
  | 5 => ("HoopYardModel", "texts", "I", false)
  | 6 => ("HoopYardModel", "taped", "I", false)
  | 7 => ("HoopYardModel", "tape", "[I", true)
  | 8 => ("HoopYardModel", "at", "I", false)
  | 9 => ("HoopYardModel", "fault", "I", false)
  | 10 => ("HoopYardModel", "many", "I", false)
  | 11 => ("HoopYardModel", "read", "[I", true)
  | 12 => ("HoopYardModel", "joints", "I", false)
  | 13 => ("HoopYardModel", "ring", "[I", true)
  | 14 => ("HoopYardModel", "best", "[I", true)
  | 15 => ("HoopYardModel", "leak", "I", false)
  | 16 => ("HoopYardModel", "soMany", "I", false)
  | 17 => ("HoopYardModel", "tight", "I", false)
  | 18 => ("HoopYardModel", "rests", "[I", true)
  | 19 => ("HoopYardModel", "row", "[I", true)
  | 20 => ("HoopYardModel", "heads", "I", false)
  | 21 => ("HoopYardModel", "used", "I", false)
  | 22 => ("HoopYardModel", "digits", "I", false)
  | 23 => ("HoopYardModel", "boards", "I", false)
  | 24 => ("HoopYardModel", "peg", "[I", true)
  | 25 => ("HoopYardModel", "pegKind", "[I", true)
  | 26 => ("HoopYardModel", "pegSize", "[I", true)
  | 27 => ("HoopYardModel", "pegWhich", "[I", true)
  | 28 => ("HoopYardModel", "items", "[J", true)
  | _ => ("HoopYardModel", "moved", "[J", true)
def tyX12 : Nat → FieldType := fun k => match k with
  | 0 => .array .int
  | 1 => .array .int
  | 2 => .array .int
  | 3 => .boolean
  | 4 => .int
  | 5 => .int
  | 6 => .int
  | 7 => .array .int
  | 8 => .int
  | 9 => .int
  | 10 => .int
  | 11 => .array .int
  | 12 => .int
  | 13 => .array .int
  | 14 => .array .int
  | 15 => .int
  | 16 => .int
  | 17 => .int
  | 18 => .array .int
  | 19 => .array .int
  | 20 => .int
  | 21 => .int
  | 22 => .int
  | 23 => .int
  | 24 => .array .int
  | 25 => .array .int
  | 26 => .array .int
  | 27 => .array .int
  | 28 => .array .long
  | _ => .array .long
abbrev wsX120 : List Cond := u_ws RX12 TX12 30
theorem nmX12 : ∀ a, a < 30 → ∀ b, b < 30 → a ≠ b → (TX12 a).2.1 ≠ (TX12 b).2.1 := by decide +kernel
theorem tyX12_ok : ∀ k, k < 30 → parseFieldDescriptor (TX12 k).2.2.1 = some (tyX12 k) := by decide +kernel
abbrev cX12_init : ByteArray := prog_14_method_1_code
def yX12_init : MethodName := ⟨RX12, "<init>", "()V"⟩
abbrev cX12_within : ByteArray := prog_14_method_2_code
def yX12_within : MethodName := ⟨RX12, "within", "(III)Z"⟩
abbrev cX12_pours : ByteArray := prog_14_method_3_code
def yX12_pours : MethodName := ⟨RX12, "pours", "([I[I)V"⟩
abbrev cX12_isStave : ByteArray := prog_14_method_4_code
def yX12_isStave : MethodName := ⟨RX12, "isStave", "(IIII)Z"⟩
abbrev cX12_isHoop : ByteArray := prog_14_method_5_code
def yX12_isHoop : MethodName := ⟨RX12, "isHoop", "(III)Z"⟩
abbrev cX12_stave : ByteArray := prog_14_method_6_code
def yX12_stave : MethodName := ⟨RX12, "stave", "(IIII)I"⟩
abbrev cX12_hoop : ByteArray := prog_14_method_7_code
def yX12_hoop : MethodName := ⟨RX12, "hoop", "(III)I"⟩
abbrev cX12_board : ByteArray := prog_14_method_8_code
def yX12_board : MethodName := ⟨RX12, "board", "(I)I"⟩
abbrev cX12_isRule : ByteArray := prog_14_method_9_code
def yX12_isRule : MethodName := ⟨RX12, "isRule", "(II)Z"⟩
abbrev cX12_rule : ByteArray := prog_14_method_10_code
def yX12_rule : MethodName := ⟨RX12, "rule", "(II)I"⟩
abbrev cX12_told : ByteArray := prog_14_method_11_code
def yX12_told : MethodName := ⟨RX12, "told", "(I)I"⟩
abbrev cX12_countsOf : ByteArray := prog_14_method_12_code
def yX12_countsOf : MethodName := ⟨RX12, "countsOf", "(I)I"⟩
abbrev cX12_edgeOf : ByteArray := prog_14_method_13_code
def yX12_edgeOf : MethodName := ⟨RX12, "edgeOf", "(I)I"⟩
abbrev cX12_priceOf : ByteArray := prog_14_method_14_code
def yX12_priceOf : MethodName := ⟨RX12, "priceOf", "(I)I"⟩
abbrev cX12_root : ByteArray := prog_14_method_15_code
def yX12_root : MethodName := ⟨RX12, "root", "(I)I"⟩
abbrev cX12_sagOf : ByteArray := prog_14_method_16_code
def yX12_sagOf : MethodName := ⟨RX12, "sagOf", "(I)I"⟩
abbrev cX12_hasStave : ByteArray := prog_14_method_17_code
def yX12_hasStave : MethodName := ⟨RX12, "hasStave", "(I)Z"⟩
abbrev cX12_ofStave : ByteArray := prog_14_method_18_code
def yX12_ofStave : MethodName := ⟨RX12, "ofStave", "(II)I"⟩
abbrev cX12_takes : ByteArray := prog_14_method_19_code
def yX12_takes : MethodName := ⟨RX12, "takes", "(I)I"⟩
abbrev cX12_shave : ByteArray := prog_14_method_20_code
def yX12_shave : MethodName := ⟨RX12, "shave", "(II)I"⟩
abbrev cX12_countsOfSet : ByteArray := prog_14_method_21_code
def yX12_countsOfSet : MethodName := ⟨RX12, "countsOfSet", "(I)I"⟩
abbrev cX12_priceOfSet : ByteArray := prog_14_method_22_code
def yX12_priceOfSet : MethodName := ⟨RX12, "priceOfSet", "(I)I"⟩
abbrev cX12_fits : ByteArray := prog_14_method_23_code
def yX12_fits : MethodName := ⟨RX12, "fits", "(I)I"⟩
abbrev cX12_sums : ByteArray := prog_14_method_24_code
def yX12_sums : MethodName := ⟨RX12, "sums", "(I)I"⟩
abbrev cX12_nearest : ByteArray := prog_14_method_25_code
def yX12_nearest : MethodName := ⟨RX12, "nearest", "(I)I"⟩
abbrev cX12_isSet : ByteArray := prog_14_method_26_code
def yX12_isSet : MethodName := ⟨RX12, "isSet", "(I)Z"⟩
abbrev cX12_isPress : ByteArray := prog_14_method_27_code
def yX12_isPress : MethodName := ⟨RX12, "isPress", "(I)Z"⟩
abbrev cX12_gap : ByteArray := prog_14_method_28_code
def yX12_gap : MethodName := ⟨RX12, "gap", "([II)I"⟩
abbrev cX12_leakOf : ByteArray := prog_14_method_29_code
def yX12_leakOf : MethodName := ⟨RX12, "leakOf", "([II)I"⟩
abbrev cX12_goesRound : ByteArray := prog_14_method_30_code
def yX12_goesRound : MethodName := ⟨RX12, "goesRound", "(IIII)V"⟩
abbrev cX12_rounds : ByteArray := prog_14_method_31_code
def yX12_rounds : MethodName := ⟨RX12, "rounds", "(III)V"⟩
abbrev cX12_least : ByteArray := prog_14_method_32_code
def yX12_least : MethodName := ⟨RX12, "least", "(III)I"⟩
abbrev cX12_isRing : ByteArray := prog_14_method_33_code
def yX12_isRing : MethodName := ⟨RX12, "isRing", "(I)Z"⟩
abbrev cX12_leak : ByteArray := prog_14_method_34_code
def yX12_leak : MethodName := ⟨RX12, "leak", "(II)I"⟩
abbrev cX12_worst : ByteArray := prog_14_method_35_code
def yX12_worst : MethodName := ⟨RX12, "worst", "(III)I"⟩
abbrev cX12_rings : ByteArray := prog_14_method_36_code
def yX12_rings : MethodName := ⟨RX12, "rings", "(III)I"⟩
abbrev cX12_girthAt : ByteArray := prog_14_method_37_code
def yX12_girthAt : MethodName := ⟨RX12, "girthAt", "(I)I"⟩
abbrev cX12_girth : ByteArray := prog_14_method_38_code
def yX12_girth : MethodName := ⟨RX12, "girth", "(I)I"⟩
abbrev cX12_hasHoop : ByteArray := prog_14_method_39_code
def yX12_hasHoop : MethodName := ⟨RX12, "hasHoop", "(I)Z"⟩
abbrev cX12_settles : ByteArray := prog_14_method_40_code
def yX12_settles : MethodName := ⟨RX12, "settles", "()V"⟩
abbrev cX12_gripOf : ByteArray := prog_14_method_41_code
def yX12_gripOf : MethodName := ⟨RX12, "gripOf", "(I)I"⟩
abbrev cX12_pressOf : ByteArray := prog_14_method_42_code
def yX12_pressOf : MethodName := ⟨RX12, "pressOf", "(I)I"⟩
abbrev cX12_ofHoop : ByteArray := prog_14_method_43_code
def yX12_ofHoop : MethodName := ⟨RX12, "ofHoop", "(II)I"⟩
abbrev cX12_pressAt : ByteArray := prog_14_method_44_code
def yX12_pressAt : MethodName := ⟨RX12, "pressAt", "(I)I"⟩
abbrev cX12_press : ByteArray := prog_14_method_45_code
def yX12_press : MethodName := ⟨RX12, "press", "(I)I"⟩
abbrev cX12_wetNow : ByteArray := prog_14_method_46_code
def yX12_wetNow : MethodName := ⟨RX12, "wetNow", "()I"⟩
abbrev cX12_wet : ByteArray := prog_14_method_47_code
def yX12_wet : MethodName := ⟨RX12, "wet", "(I)I"⟩
abbrev cX12_driest : ByteArray := prog_14_method_48_code
def yX12_driest : MethodName := ⟨RX12, "driest", "(II)I"⟩
abbrev cX12_usedBy : ByteArray := prog_14_method_49_code
def yX12_usedBy : MethodName := ⟨RX12, "usedBy", "(III)I"⟩
abbrev cX12_goesOn : ByteArray := prog_14_method_50_code
def yX12_goesOn : MethodName := ⟨RX12, "goesOn", "(IIIII)V"⟩
abbrev cX12_saws : ByteArray := prog_14_method_51_code
def yX12_saws : MethodName := ⟨RX12, "saws", "(I)V"⟩
abbrev cX12_head : ByteArray := prog_14_method_52_code
def yX12_head : MethodName := ⟨RX12, "head", "(II)I"⟩
abbrev cX12_used : ByteArray := prog_14_method_53_code
def yX12_used : MethodName := ⟨RX12, "used", "(II)I"⟩
abbrev cX12_heads : ByteArray := prog_14_method_54_code
def yX12_heads : MethodName := ⟨RX12, "heads", "(I)I"⟩
abbrev cX12_feed : ByteArray := prog_14_method_55_code
def yX12_feed : MethodName := ⟨RX12, "feed", "(I)I"⟩
abbrev cX12_isFrom : ByteArray := prog_14_method_56_code
def yX12_isFrom : MethodName := ⟨RX12, "isFrom", "(II)Z"⟩
abbrev cX12_wrong : ByteArray := prog_14_method_57_code
def yX12_wrong : MethodName := ⟨RX12, "wrong", "()V"⟩
abbrev cX12_number : ByteArray := prog_14_method_58_code
def yX12_number : MethodName := ⟨RX12, "number", "()I"⟩
abbrev cX12_numbers : ByteArray := prog_14_method_59_code
def yX12_numbers : MethodName := ⟨RX12, "numbers", "(I)I"⟩
abbrev cX12_reads : ByteArray := prog_14_method_60_code
def yX12_reads : MethodName := ⟨RX12, "reads", "()V"⟩
abbrev cX12_does : ByteArray := prog_14_method_61_code
def yX12_does : MethodName := ⟨RX12, "does", "(I)Z"⟩
abbrev cX12_read : ByteArray := prog_14_method_62_code
def yX12_read : MethodName := ⟨RX12, "read", "()I"⟩
abbrev cX12_isPeg : ByteArray := prog_14_method_63_code
def yX12_isPeg : MethodName := ⟨RX12, "isPeg", "(I)Z"⟩
abbrev cX12_hang : ByteArray := prog_14_method_64_code
def yX12_hang : MethodName := ⟨RX12, "hang", "(III)I"⟩
abbrev cX12_tray : ByteArray := prog_14_method_65_code
def yX12_tray : MethodName := ⟨RX12, "tray", "(III)I"⟩
abbrev cX12_held : ByteArray := prog_14_method_66_code
def yX12_held : MethodName := ⟨RX12, "held", "(I)I"⟩
abbrev cX12_isUnder : ByteArray := prog_14_method_67_code
def yX12_isUnder : MethodName := ⟨RX12, "isUnder", "(III)Z"⟩
abbrev cX12_as : ByteArray := prog_14_method_68_code
def yX12_as : MethodName := ⟨RX12, "as", "(III)I"⟩
abbrev cX12_isNoTray : ByteArray := prog_14_method_69_code
def yX12_isNoTray : MethodName := ⟨RX12, "isNoTray", "(I)I"⟩
abbrev cX12_lays : ByteArray := prog_14_method_70_code
def yX12_lays : MethodName := ⟨RX12, "lays", "(IIJ)V"⟩
abbrev cX12_put : ByteArray := prog_14_method_71_code
def yX12_put : MethodName := ⟨RX12, "put", "(IIJ)I"⟩
abbrev cX12_get : ByteArray := prog_14_method_72_code
def yX12_get : MethodName := ⟨RX12, "get", "(II)J"⟩
abbrev cX12_fill : ByteArray := prog_14_method_73_code
def yX12_fill : MethodName := ⟨RX12, "fill", "(III)I"⟩
abbrev cX12_judge : ByteArray := prog_14_method_74_code
def yX12_judge : MethodName := ⟨RX12, "judge", "(III)I"⟩
abbrev cX12_move : ByteArray := prog_14_method_75_code
def yX12_move : MethodName := ⟨RX12, "move", "(IIIII)I"⟩
abbrev cX12_image : ByteArray := prog_14_method_76_code
def yX12_image : MethodName := ⟨RX12, "image", "()I"⟩
abbrev cX12_undo : ByteArray := prog_14_method_77_code
def yX12_undo : MethodName := ⟨RX12, "undo", "()I"⟩
def RJ6 : String := "java/lang/Integer"
abbrev cJ6_bitCount_0f7a4 : ByteArray := prog_15_method_49_code
def yJ6_bitCount_0f7a4 : MethodName := ⟨RJ6, "bitCount", "(I)I"⟩
def RJ9 : String := "java/lang/Math"
abbrev cJ9_abs_0f7a4 : ByteArray := prog_16_method_59_code
def yJ9_abs_0f7a4 : MethodName := ⟨RJ9, "abs", "(I)I"⟩
abbrev cJ9_max_7cf53 : ByteArray := prog_16_method_65_code
def yJ9_max_7cf53 : MethodName := ⟨RJ9, "max", "(II)I"⟩
abbrev cJ9_min_7cf53 : ByteArray := prog_16_method_69_code
def yJ9_min_7cf53 : MethodName := ⟨RJ9, "min", "(II)I"⟩
def RJ10 : String := "java/lang/System"
def RJ7 : String := "java/util/Arrays"
abbrev cJ7_fill_53178 : ByteArray := prog_18_method_103_code
def yJ7_fill_53178 : MethodName := ⟨RJ7, "fill", "([II)V"⟩
def RL : String := "HoopYardLaw"
abbrev cL_law : ByteArray := code
def yL_law : MethodName := ⟨RL, "law", "([I)Z"⟩
abbrev vwCl : List vw_C := [(RX0, TX0, 1), (RX1, TX1, 2), (RX2, TX2, 6), (RX3, TX3, 3), (RX4, TX4, 6), (RX5, TX5, 3), (RX6, TX6, 4), (RX7, TX7, 7), (RX8, TX8, 7), (RX10, TX10, 2), (RX11, TX11, 10), (RX12, TX12, 30)]
end
section
/-! whole numbers for the machine's ints: iI z is the int that z tells -/
def iI (z : Int) : Int32 := Int32.ofInt z
abbrev inR (z : Int) : Prop := -2147483648 ≤ z ∧ z < 2147483648
theorem iI_add (a b : Int) : iI (a + b) = iI a + iI b := Int32.ofInt_add a b
theorem iI_sub (a b : Int) : iI (a - b) = iI a - iI b := Int32.ofInt_sub a b
theorem iI_mul (a b : Int) : iI (a * b) = iI a * iI b := Int32.ofInt_mul a b
theorem iI_neg (a : Int) : iI (-a) = -iI a := Int32.ofInt_neg a
theorem iI_toInt {a : Int} (h : inR a) : (iI a).toInt = a := Int32.toInt_ofInt_of_le h.1 h.2
theorem iI_of (x : Int32) : iI x.toInt = x := by
  apply Int32.toInt_inj.mp
  rw [iI_toInt ⟨x.le_toInt, x.toInt_lt⟩]
theorem inR_of (x : Int32) : inR x.toInt := ⟨x.le_toInt, x.toInt_lt⟩
theorem iI_eq {a b : Int} (ha : inR a) (hb : inR b) : iI a = iI b ↔ a = b := by
  refine ⟨fun h => ?_, fun h => by rw [h]⟩
  have := congrArg Int32.toInt h
  rwa [iI_toInt ha, iI_toInt hb] at this
theorem iI_lt {a b : Int} (ha : inR a) (hb : inR b) : iI a < iI b ↔ a < b := by
  rw [Int32.lt_iff_toInt_lt, iI_toInt ha, iI_toInt hb]
theorem iI_le {a b : Int} (ha : inR a) (hb : inR b) : iI a ≤ iI b ↔ a ≤ b := by
  rw [Int32.le_iff_toInt_le, iI_toInt ha, iI_toInt hb]
theorem iI_0 : iI 0 = 0 := rfl
theorem inR_0 : inR 0 := by decide
theorem iI_eq0 {a : Int} (ha : inR a) : iI a = 0 ↔ a = 0 := iI_eq ha inR_0
theorem iI_lt0 {a : Int} (ha : inR a) : iI a < 0 ↔ a < 0 := iI_lt ha inR_0
theorem iI_ge0 {a : Int} (ha : inR a) : 0 ≤ iI a ↔ 0 ≤ a := iI_le inR_0 ha
theorem iI_le0 {a : Int} (ha : inR a) : iI a ≤ 0 ↔ a ≤ 0 := iI_le ha inR_0
theorem iI_gt0 {a : Int} (ha : inR a) : 0 < iI a ↔ 0 < a := iI_lt inR_0 ha
theorem iI_clamp {a : Int} (h0 : 0 ≤ a) (h1 : a < 2147483648) : (iI a).toNatClampNeg = a.toNat := by
  have h := iI_toInt (a := a) ⟨by omega, h1⟩
  show (iI a).toInt.toNat = a.toNat
  rw [h]
theorem iI_in {a : Int} {n : Nat} (h0 : 0 ≤ a) (h1 : a < n) (hn : n < 2147483648) : vp_in (iI a) n := by
  rw [vp_in_iff, iI_toInt ⟨by omega, by omega⟩]
  exact ⟨h0, h1⟩
theorem iI_div {a b : Int} (ha : 0 ≤ a) (ha2 : a < 2147483648) (hb : 0 < b) (hb2 : b < 2147483648) : iI a / iI b = iI (a / b) := by
  apply Int32.toInt_inj.mp
  have h1 := iI_toInt (a := a) ⟨by omega, ha2⟩
  have h2 := iI_toInt (a := b) ⟨by omega, hb2⟩
  have h3 : 0 ≤ a / b := Int.ediv_nonneg ha (by omega)
  have h4 : a / b ≤ a := Int.ediv_le_self b ha
  rw [Int32.toInt_div_of_ne_right _ _ (fun h => by rw [h] at h2; have : (-1 : Int32).toInt = -1 := rfl; omega), h1, h2, iI_toInt ⟨by omega, by omega⟩, Int.tdiv_eq_ediv_of_nonneg ha]
theorem iI_rem {a b : Int} (ha : 0 ≤ a) (ha2 : a < 2147483648) (hb : 0 < b) (hb2 : b < 2147483648) : iI a - iI a / iI b * iI b = iI (a % b) := by
  rw [iI_div ha ha2 hb hb2, ← iI_mul, ← iI_sub]
  congr 1
  have := Int.emod_def a b
  rw [this, Int.mul_comm]
theorem iI_bmod (z : Int) : (iI z).toInt = z.bmod (2 ^ 32) := by
  show (Int32.ofInt z).toInt = _
  rw [Int32.toInt_ofInt]
theorem iI_eqm {a b : Int} (h : a.bmod (2 ^ 32) = b.bmod (2 ^ 32)) : iI a = iI b := by
  apply Int32.toInt_inj.mp
  rw [iI_bmod, iI_bmod, h]
theorem iI_nat (n : Nat) : iI (n : Int) = nI n := rfl
theorem iI_amt : ∀ n : Nat, n < 32 → ((iI (n : Int) &&& 31).toBitVec.smod 32).toNat = n := by decide
theorem iI_amt' {b : Int} (h0 : 0 ≤ b) (h1 : b < 32) : ((iI b &&& 31).toBitVec.smod 32).toNat = b.toNat := by
  have h := iI_amt b.toNat (by omega)
  rw [Int.toNat_of_nonneg h0] at h
  exact h
theorem iI_bvn (a : Int) : (iI a).toBitVec.toNat = (a % 2 ^ 32).toNat := by
  show (BitVec.ofInt 32 a).toNat = _
  rw [BitVec.toNat_ofInt]; rfl
theorem iI_shl {a b : Int} (h0 : 0 ≤ b) (h1 : b < 32) : iI a <<< (iI b &&& 31) = iI (a * 2 ^ b.toNat) := by
  have h := pk_shl (iI a) (iI b &&& 31) b.toNat (iI_amt' h0 h1)
  apply Int32.toBitVec_inj.mp
  apply BitVec.eq_of_toNat_eq
  rw [h, iI_bvn, iI_bvn]
  have e : (((a % 2 ^ 32).toNat * 2 ^ b.toNat : Nat) : Int) = (a % 2 ^ 32) * 2 ^ b.toNat := by
    rw [Int.natCast_mul, Int.toNat_of_nonneg (Int.emod_nonneg _ (by decide)), Int.natCast_pow]; rfl
  apply Int.ofNat_inj.mp
  rw [Int.natCast_emod, e, Int.toNat_of_nonneg (Int.emod_nonneg _ (by decide))]
  show a % 2 ^ 32 * 2 ^ b.toNat % 2 ^ 32 = _
  rw [Int.mul_emod, Int.emod_emod_of_dvd _ (Int.dvd_refl _), ← Int.mul_emod]
theorem iI_shr {a b : Int} (ha : inR a) (h0 : 0 ≤ b) (h1 : b < 32) : iI a >>> (iI b &&& 31) = iI (a / 2 ^ b.toNat) := by
  have h := pk_shr (iI a) (iI b &&& 31) b.toNat (iI_amt' h0 h1)
  apply Int32.toInt_inj.mp
  rw [h, iI_toInt ha, Int.shiftRight_eq_div_pow]
  have hp : (0 : Int) < 2 ^ b.toNat := Int.pow_pos (by decide)
  have e : (((2 ^ b.toNat : Nat)) : Int) = 2 ^ b.toNat := by rw [Int.natCast_pow]; rfl
  rw [e, iI_toInt]
  have h1' : (1 : Int) ≤ 2 ^ b.toNat := hp
  refine ⟨?_, ?_⟩
  · rcases Int.lt_or_le a 0 with q | q
    · have : a ≤ a / 2 ^ b.toNat := by
        rw [Int.le_ediv_iff_mul_le hp]
        have := Int.mul_le_mul_of_nonpos_left (show a ≤ 0 by omega) h1'
        rw [Int.mul_one] at this
        exact this
      omega
    · have := Int.ediv_nonneg q (Int.le_of_lt hp)
      omega
  · rcases Int.lt_or_le a 0 with q | q
    · have := Int.ediv_neg_of_neg_of_pos q hp
      omega
    · have := Int.ediv_le_self (2 ^ b.toNat) q
      omega
theorem iI_and1 (a : Int) : iI a &&& 1 = iI (a % 2) := by
  rw [pk_and (iI a) 1 rfl, iI_bvn, ← iI_nat]
  congr 1
  omega
theorem iI_and {a b : Nat} : iI a &&& iI b = iI ((a &&& b : Nat) : Int) := by
  rw [iI_nat, iI_nat, iI_nat]
  apply Int32.toBitVec_inj.mp
  show BitVec.ofNat 32 a &&& BitVec.ofNat 32 b = BitVec.ofNat 32 (a &&& b)
  rw [BitVec.ofNat_and]
theorem iI_or {a b : Nat} : iI a ||| iI b = iI ((a ||| b : Nat) : Int) := by
  rw [iI_nat, iI_nat, iI_nat]
  apply Int32.toBitVec_inj.mp
  show BitVec.ofNat 32 a ||| BitVec.ofNat 32 b = BitVec.ofNat 32 (a ||| b)
  rw [BitVec.ofNat_or]
theorem iI_not (a : Int) : iI a ^^^ iI (-1) = iI (-1 - a) := by
  apply Int32.toBitVec_inj.mp
  show BitVec.ofInt 32 a ^^^ BitVec.ofInt 32 (-1) = BitVec.ofInt 32 (-1 - a)
  have e : BitVec.ofInt 32 (-1) = BitVec.allOnes 32 := rfl
  rw [e, BitVec.xor_allOnes]
  apply BitVec.eq_of_toInt_eq
  rw [BitVec.toInt_not, BitVec.toInt_ofInt]
  simp [BitVec.toNat_ofInt, Int.bmod_def]
  omega
end
section
/-! THE PLAIN MACHINE: values over whole numbers, a heap whose places are numbered from 8 on as they come; a judgement V over it, out of the kit's W -/
abbrev MV : Type := Int ⊕ (Int64 ⊕ Option Nat)
abbrev vi (z : Int) : MV := .inl z
abbrev vl (x : Int64) : MV := .inr (.inl x)
abbrev vq (r : Option Nat) : MV := .inr (.inr r)
abbrev Sh : Type := Nat ⊕ (Nat × Nat)
/-- shapes, next place, whole numbers, longs, references -/
abbrev St : Type := (Nat → Option Sh) × Nat × (Nat → Nat → Int) × (Nat → Nat → Int64) × (Nat → Nat → Option Nat)
def gl (σ : St) : Nat → Option Sh := σ.1
def gn (σ : St) : Nat := σ.2.1
def gG (σ : St) : Nat → Nat → Int := σ.2.2.1
def gL (σ : St) : Nat → Nat → Int64 := σ.2.2.2.1
def gP (σ : St) : Nat → Nat → Option Nat := σ.2.2.2.2
def up1 {α : Type} (f : Nat → α) (k : Nat) (v : α) : Nat → α := fun j => if j = k then v else f j
def setA (σ : St) (a : Nat) (f : Nat → Int) : St := (gl σ, gn σ, up1 (gG σ) a f, gL σ, gP σ)
def setL (σ : St) (a : Nat) (f : Nat → Int64) : St := (gl σ, gn σ, gG σ, up1 (gL σ) a f, gP σ)
def setP (σ : St) (a : Nat) (f : Nat → Option Nat) : St := (gl σ, gn σ, gG σ, gL σ, up1 (gP σ) a f)
/-- a new place of a shape, all blank -/
def addC (σ : St) (sh : Sh) : St := (up1 (gl σ) (gn σ) (some sh), gn σ + 1, up1 (gG σ) (gn σ) (fun _ => 0), up1 (gL σ) (gn σ) (fun _ => 0), up1 (gP σ) (gn σ) (fun _ => none))
def setG (σ : St) (a k : Nat) (v : Int) : St := setA σ a (up1 (gG σ a) k v)
/-- the launch, the classes' numbers, the arrays' classes, the places, the first new place, the script's length and ints -/
abbrev Gl : Type := Launch × va_G × (Nat → ClassId) × (Nat → Nat) × Nat × Nat × (Nat → Int32)
def gD (g : Gl) : va_G := g.2.1
def gcA (g : Gl) : Nat → ClassId := g.2.2.1
def gad (g : Gl) : Nat → Nat := g.2.2.2.1
def gbs (g : Gl) : Nat := g.2.2.2.2.1
def gL0 (g : Gl) : Nat := g.2.2.2.2.2.1
def gxs (g : Gl) : Nat → Int32 := g.2.2.2.2.2.2
def rv (g : Gl) : MV → Value
  | .inl z => .int (iI z)
  | .inr (.inl x) => .long x
  | .inr (.inr r) => va_rf (r.map (gad g))
def fkT : List (List Nat) := [[0], [2, 2], [2, 2, 2, 2, 0, 0], [0, 0, 0], [2, 2, 2, 2, 2, 0], [2, 2, 0], [0, 0, 0, 0], [2, 2, 2, 2, 0, 0, 0], [2, 2, 2, 2, 0, 0, 0], [0, 2], [2, 2, 0, 2, 2, 0, 2, 2, 2, 2], [2, 2, 2, 0, 0, 0, 0, 2, 0, 0, 0, 2, 0, 2, 2, 0, 0, 0, 2, 2, 0, 0, 0, 0, 2, 2, 2, 2, 2, 2]]
def fk (ci k : Nat) : Nat := (fkT.getD ci []).getD k 0
def fvr (ci k : Nat) (G : Nat → Int) (P : Nat → Option Nat) : MV := if fk ci k = 0 then vi (G k) else vq (P k)
def evr (t : Nat) (G : Nat → Int) (L : Nat → Int64) (P : Nat → Option Nat) (j : Nat) : MV := if t = 1 then vl (L j) else if t < 3 then vi (G j) else vq (P j)
/-- the arrays' types: int, long, byte, Stave, Hoop, Board, Thing, int[] -/
def tyL : List FieldType := [.int, .long, .byte, .object RX6, .object RX3, .object RX0, .object RX9, .array .int]
def tysG (g : Gl) : List (ClassId × FieldType) := [(gcA g 0, .int), (gcA g 1, .long), (gcA g 2, .byte), (gcA g 3, .object RX6), (gcA g 4, .object RX3), (gcA g 5, .object RX0), (gcA g 6, .object RX9), (gcA g 7, .array .int)]
def cellR (g : Gl) (G : Nat → Int) (L : Nat → Int64) (P : Nat → Option Nat) (H : Heap) (a : Nat) : Sh → Prop
  | .inl ci => ∃ r : vw_C, vwCl[ci]? = some r ∧ t_OB (gad g a) ((gD g).1 ci) r.2.2 ((gD g).2 ci) H (fun k => rv g (fvr ci k G P))
  | .inr (t, n) => t < 8 ∧ n < 2147483648 ∧ H[gad g a]? = some (arrV (gcA g t) n (fun j => rv g (evr t G L P j)))
def HR (g : Gl) (σ : St) (H : Heap) : Prop := H.size = gad g (gn σ) ∧ 8 ≤ gn σ ∧ ∀ (a : Nat) (sh : Sh), gl σ a = some sh → (8 ≤ a ∧ a < gn σ) ∧ cellR g (gG σ a) (gL σ a) (gP σ a) H a sh
/-- the arrays that nobody writes: LEAST_RULE, MOST_RULE, STAVE_UNDER, HOOP_UNDER, the script -/
def roN (g : Gl) (a : Nat) : Nat := match a with | 0 => 4 | 1 => 4 | 2 => 5 | 3 => 4 | _ => gL0 g
def roL (l : List Int) : Nat → Int := fun j => l.getD j 0
def roC (g : Gl) (a : Nat) : Nat → Int := match a with
  | 0 => roL [10, 0, 0, -20] | 1 => roL [500, 50, 20, 20] | 2 => roL [-1, 0, 0, 2, 1] | 3 => roL [-1, 0, 0, 1] | _ => fun j => (gxs g j).toInt
def roF (a : Nat) : String := match a with | 0 => "LEAST_RULE" | 1 => "MOST_RULE" | 2 => "STAVE_UNDER" | _ => "HOOP_UNDER"
def gTbl : List Cond := lw_tbl.filter goodWord
def mnTbl : List (String × Nat × MethodName) := [(RX11, 11, yX7_init), (RX11, 33, yX8_init), (RX11, 44, yX5_init), (RX11, 51, yX4_init), (RX11, 58, yX1_init), (RX11, 65, yX2_init), (RX6, 22, yX11_isIn), (RX6, 1, yX9_init), (RX3, 21, yX11_isIn), (RX3, 3, yX9_init), (RX0, 13, yX11_isIn), (RX0, 1, yX9_init), (RX5, 39, yX11_isIn), (RX4, 101, yX11_holds), (RX4, 112, yX11_without), (RX4, 35, yX11_spellRow), (RX2, 62, yX11_holds), (RX2, 51, yX11_rootOf), (RX2, 75, yX11_spellRow), (RX8, 56, yX11_isIn), (RX8, 89, yX11_canRule), (RX10, 3, yX9_init)]
/-- who can be cast to what; who can't -/
def caTbl : List (String × String) := [(RX6, RX9), (RX3, RX9), (RX0, RX9), (RX10, RX9)]
def ncTbl : List (String × String) := [(RX3, RX6), (RX0, RX6), (RX10, RX6), (RX6, RX3), (RX0, RX3), (RX10, RX3), (RX6, RX0), (RX3, RX0), (RX10, RX0), (RX6, RX10), (RX3, RX10), (RX0, RX10)]
def aoTbl : List String := [RX6, RX3, RX0, RX9]
def GOK (g : Gl) : Prop := (∀ a, 8 ≤ a → gad g a = gbs g + (a - 8)) ∧ ∀ a, a < 8 → gad g a < gbs g
/-- what holds of the tables and of the arrays that nobody writes, in every state of the run -/
def KS (g : Gl) (U : State) : Prop :=
  GOK g ∧ gL0 g ≤ 3072 ∧ gbs g ≤ U.heap.size ∧ va_K (gD g) vwCl (tysG g) U ∧ (∀ a, a < 4 → va_Z RX11 (roF a) "[I" (.ref (gad g a)) (fun q => gbs g ≤ q) U U.heap) ∧
  (∀ a, a < 5 → va_T .int (gad g a) (roN g a) (fun j => .int (iI (roC g a j))) (fun q => gbs g ≤ q) U U.heap) ∧
  (∀ q ∈ mnTbl, va_Nw (.methodLinkNest q.1 q.2.1 q.2.2 RX11) U) ∧ (∀ q ∈ caTbl, va_Nw (.castable q.1 q.2) U) ∧ (∀ q ∈ ncTbl, va_Nc q.1 q.2 U) ∧ (∀ q ∈ aoTbl, va_AO q U) ∧ va_Nw (.arrayOver (.array .int)) U ∧ va_Nw (.declares ⟨RX9, "toldAs", "()I"⟩) U
def RelU (g : Gl) (σ : St) (U : State) : Prop := KS g U ∧ HR g σ U.heap
/-- a method: its code, its name, its locals, its answer's type -/
abbrev MI : Type := ByteArray × MethodName × Nat × Option FieldType
def Cx (g : Gl) (mi : MI) (p : Program) (s : State) (m : MethodId) (args : Array Value) (meth : Method) (c : Code) : Prop :=
  p.tables.exec = Jvm.exec ∧ c.code = mi.1 ∧ c.maxLocals = mi.2.2.1 ∧ meth.sig.returnType = mi.2.2.2 ∧ s.vm.findClass mi.2.1.cls = some m.cls ∧ meth.name = mi.2.1.name ∧ (∀ w ∈ gTbl, w.before args s = true) ∧ meth.locks = false ∧ KS g s
/-- the locals by their places -/
def lvl (g : Gl) : Nat → List (Option MV) → List (Nat × Value)
  | _, [] => []
  | i, none :: t => lvl g (i + 1) t
  | i, some v :: t => (i, rv g v) :: lvl g (i + 1) t
abbrev QFT : Type := State → Array Value → List Frame → State → Prop
def V (g : Gl) (mi : MI) (R : Room) (QF : QFT) (pc : Nat) (ls : List (Option MV)) (st : List MV) (k n : Nat) (σ : St) : Prop :=
  ∀ (p : Program) (e : Env) (s : State) (m : MethodId) (args : Array Value) (below : List Frame) (meth : Method) (c : Code) (H : Heap) (locs : List Loc) (la : Array Slot),
    Cx g mi p s m args meth c → HR g σ H → va_S (fun q => gbs g ≤ q) s.heap H locs → lv_has la mi.2.2.1 (lvl g 0 ls) →
    W p g.1 e R s m args below meth c H locs k n (QF s args below) (F0 m pc la (st.map (rv g)))
def QcP (g : Gl) (post : Option MV → St → Prop) : Array Value → State → Outcome → State → Prop := fun _ st o t =>
  (∃ (r : Option MV) (σ' : St), o = .returned (r.map (rv g)) ∧ post r σ' ∧ HR g σ' t.heap) ∧ va_F (fun q => gbs g ≤ q) st t
def QM (g : Gl) (mc ms : Nat) (post : Option MV → St → Prop) : QFT := fun s args below => MQ below (QcP g post) args s mc ms (fun q => gbs g ≤ q)
def rmD (d mc ms : Nat) : Room := { frames := d, cells := mc, slots := ms, locals := 41 * d }
/-- a method's contract: from this state, with these values, within this depth and this many new cells, it returns, and post holds -/
def Ct (g : Gl) (mi : MI) (d mc ms : Nat) (As : List MV) (σ : St) (post : Option MV → St → Prop) : Prop :=
  Met g.1 mi.2.1 (Cond.code mi.2.1 mi.1 mi.2.2.1 mi.2.2.2 :: gTbl) (rmD d mc ms) (va_Pc (As.map (rv g)) (RelU g σ)) (QcP g post) mc ms (fun q => gbs g ≤ q)
/-- the locals with which a method begins -/
def entL : List MV → List (Option MV)
  | [] => []
  | .inr (.inl x) :: t => some (vl x) :: none :: entL t
  | v :: t => some v :: entL t
def padL (n : Nat) (l : List (Option MV)) : List (Option MV) := l ++ List.replicate (n - l.length) none
theorem rv_cat1 (g : Gl) (z : Int) : (rv g (vi z)).category = 1 := rfl
theorem rv_cat2 (g : Gl) (x : Int64) : (rv g (vl x)).category = 2 := rfl
theorem rv_catq (g : Gl) (r : Option Nat) : (rv g (vq r)).category = 1 := by cases r <;> rfl
theorem lvl_ent (g : Gl) : ∀ (As : List MV) (i : Nat), lvl g i (entL As) = lv_args i (As.map (rv g))
  | [], _ => rfl
  | .inl z :: t, i => by
    show (i, rv g (vi z)) :: lvl g (i + 1) (entL t) = _
    rw [lvl_ent g t (i + 1)]; rfl
  | .inr (.inl x) :: t, i => by
    show (i, rv g (vl x)) :: lvl g (i + 1 + 1) (entL t) = _
    rw [lvl_ent g t (i + 1 + 1)]; rfl
  | .inr (.inr r) :: t, i => by
    show (i, rv g (vq r)) :: lvl g (i + 1) (entL t) = _
    rw [lvl_ent g t (i + 1)]
    show _ = (i, rv g (vq r)) :: lv_args (if (rv g (vq r)).category = 2 then i + 2 else i + 1) (t.map (rv g))
    rw [rv_catq]; rfl
theorem lvl_none (g : Gl) : ∀ (n i : Nat), lvl g i (List.replicate n none) = []
  | 0, _ => rfl
  | n + 1, i => lvl_none g n (i + 1)
theorem lvl_app_none (g : Gl) (n : Nat) : ∀ (l : List (Option MV)) (i : Nat), lvl g i (l ++ List.replicate n none) = lvl g i l
  | [], i => lvl_none g n i
  | none :: t, i => lvl_app_none g n t (i + 1)
  | some v :: t, i => by
    exact congrArg (fun q => (i, rv g v) :: q) (lvl_app_none g n t (i + 1))
theorem entL_len (g : Gl) : ∀ (As : List MV), (lg_sl (As.map (rv g))).length = (entL As).length
  | [] => rfl
  | .inl z :: t => by
    show (lg_sl (rv g (vi z) :: t.map (rv g))).length = (entL t).length + 1
    rw [← entL_len g t]; rfl
  | .inr (.inl x) :: t => by
    show (lg_sl (rv g (vl x) :: t.map (rv g))).length = (entL t).length + 1 + 1
    rw [← entL_len g t]; rfl
  | .inr (.inr r) :: t => by
    show (lg_sl (rv g (vq r) :: t.map (rv g))).length = (entL t).length + 1
    rw [← entL_len g t]
    show ((if (rv g (vq r)).category = 2 then [Slot.val (rv g (vq r)), .second] else [Slot.val (rv g (vq r))]) ++ lg_sl (t.map (rv g))).length = _
    rw [rv_catq]; simp
end
section
/-! THE PLAIN MACHINE'S ROWS, one an instruction -/
theorem ks_ok {g : Gl} {U : State} (h : KS g U) : GOK g := h.1
theorem ks_K {g : Gl} {U : State} (h : KS g U) : va_K (gD g) vwCl (tysG g) U := h.2.2.2.1
theorem lvl_mem (g : Gl) : ∀ (ls : List (Option MV)) (i j : Nat) (v : MV), ls[j]? = some (some v) → (i + j, rv g v) ∈ lvl g i ls
  | [], i, j, v, h => by simp at h
  | none :: t, i, 0, v, h => by simp at h
  | none :: t, i, j + 1, v, h => by
    have := lvl_mem g t (i + 1) j v (by simpa using h)
    rw [show i + (j + 1) = i + 1 + j by omega]
    exact this
  | some w :: t, i, 0, v, h => by
    have e : w = v := by simpa using h
    subst e
    exact List.mem_cons_self
  | some w :: t, i, j + 1, v, h => by
    have := lvl_mem g t (i + 1) j v (by simpa using h)
    rw [show i + (j + 1) = i + 1 + j by omega]
    exact List.mem_cons_of_mem _ this
theorem lvl_of (g : Gl) : ∀ (ls : List (Option MV)) (i : Nat) (q : Nat × Value), q ∈ lvl g i ls → ∃ (j : Nat) (v : MV), ls[j]? = some (some v) ∧ q = (i + j, rv g v)
  | [], i, q, h => by cases h
  | none :: t, i, q, h => by
    obtain ⟨j, v, h1, h2⟩ := lvl_of g t (i + 1) q h
    exact ⟨j + 1, v, by simpa using h1, by rw [h2]; congr 1; omega⟩
  | some w :: t, i, q, h => by
    rcases List.mem_cons.mp h with h | h
    · exact ⟨0, w, rfl, h⟩
    · obtain ⟨j, v, h1, h2⟩ := lvl_of g t (i + 1) q h
      exact ⟨j + 1, v, by simpa using h1, by rw [h2]; congr 1; omega⟩
theorem lvl_at {g : Gl} {la : Array Slot} {nL : Nat} {ls : List (Option MV)} (h : lv_has la nL (lvl g 0 ls)) {i : Nat} {v : MV} (hi : ls[i]? = some (some v)) : la[i]? = some (.val (rv g v)) := by
  have := h.2.2 _ (lvl_mem g ls 0 i v hi)
  rwa [Nat.zero_add] at this
/-- no long stands right ahead of place i -/
def noL (ls : List (Option MV)) : Nat → Bool
  | 0 => true
  | j + 1 => match ls[j]? with
    | some (some (.inr (.inl _))) => false
    | _ => true
theorem lvl_set {g : Gl} {la : Array Slot} {nL : Nat} {ls : List (Option MV)} {i : Nat} {v : MV} (hn : noL ls i = true) (h : lv_has la nL ((i, rv g v) :: (lvl g 0 ls).filter (fun q => !(q.1 == i) && !(q.1 + 1 == i && q.2.category == 2)))) : lv_has la nL (lvl g 0 (ls.set i (some v))) := by
  refine ⟨h.1, h.2.1, fun q hq => h.2.2 q ?_⟩
  obtain ⟨j, w, h1, rfl⟩ := lvl_of g _ _ _ hq
  rw [Nat.zero_add]
  rw [List.getElem?_set] at h1
  by_cases e : i = j
  · subst e
    rw [if_pos rfl] at h1
    by_cases hl : i < ls.length
    · rw [if_pos hl] at h1
      cases h1
      exact List.mem_cons_self
    · rw [if_neg hl] at h1
      cases h1
  · rw [if_neg e] at h1
    refine List.mem_cons_of_mem _ (List.mem_filter.mpr ⟨?_, ?_⟩)
    · have := lvl_mem g ls 0 j w h1
      rwa [Nat.zero_add] at this
    · have e2 : (j == i) = false := by simp; omega
      have e3 : (j + 1 == i && (rv g w).category == 2) = false := by
        by_cases h3 : j + 1 = i
        · subst h3
          simp only [noL] at hn
          rw [h1] at hn
          match w, hn with
          | .inl z, _ => simp [rv, Value.category]
          | .inr (.inr r), _ => have := rv_catq g r; simp [this]
        · simp [h3]
      simp [e2, e3]
theorem V_iconst {g : Gl} {mi : MI} {R : Room} {QF : QFT} {pc : Nat} {ls : List (Option MV)} {st : List MV} {k n : Nat} {σ : St} {z : Int} (hd : decode mi.1 pc = .ok (.iconst z, 1)) (kk : V g mi R QF (pc + 1) ls (vi z :: st) k n σ) : V g mi R QF pc ls (st) k n σ := by
  intro p e s m args below meth c H locs la C hH hS hl
  exact lv_iconst C.1 C.2.1 hd rfl (kk p e s m args below meth c H locs la C hH hS hl)
theorem V_bipush {g : Gl} {mi : MI} {R : Room} {QF : QFT} {pc : Nat} {ls : List (Option MV)} {st : List MV} {k n : Nat} {σ : St} {z : Int} (hd : decode mi.1 pc = .ok (.bipush z, 2)) (hv : (Int8.ofInt z).toInt32 = iI z) (kk : V g mi R QF (pc + 2) ls (vi z :: st) k n σ) : V g mi R QF pc ls (st) k n σ := by
  intro p e s m args below meth c H locs la C hH hS hl
  exact lv_bipush C.1 C.2.1 hd hv (kk p e s m args below meth c H locs la C hH hS hl)
theorem V_sipush {g : Gl} {mi : MI} {R : Room} {QF : QFT} {pc : Nat} {ls : List (Option MV)} {st : List MV} {k n : Nat} {σ : St} {z : Int} (hd : decode mi.1 pc = .ok (.sipush z, 3)) (hv : (Int16.ofInt z).toInt32 = iI z) (kk : V g mi R QF (pc + 3) ls (vi z :: st) k n σ) : V g mi R QF pc ls (st) k n σ := by
  intro p e s m args below meth c H locs la C hH hS hl
  exact lv_sipush C.1 C.2.1 hd hv (kk p e s m args below meth c H locs la C hH hS hl)
theorem V_lconst {g : Gl} {mi : MI} {R : Room} {QF : QFT} {pc : Nat} {ls : List (Option MV)} {st : List MV} {k n : Nat} {σ : St} {z : Fin 2} {x : Int64} (hd : decode mi.1 pc = .ok (.lconst z, 1)) (hv : Int64.ofNat (z : Nat) = x) (kk : V g mi R QF (pc + 1) ls (vl x :: st) k n σ) : V g mi R QF pc ls (st) k n σ := by
  intro p e s m args below meth c H locs la C hH hS hl
  exact lv_lconst C.1 C.2.1 hd hv (kk p e s m args below meth c H locs la C hH hS hl)
theorem V_null {g : Gl} {mi : MI} {R : Room} {QF : QFT} {pc : Nat} {ls : List (Option MV)} {st : List MV} {k n : Nat} {σ : St}  (hd : decode mi.1 pc = .ok (.aconst_null, 1)) (kk : V g mi R QF (pc + 1) ls (vq none :: st) k n σ) : V g mi R QF pc ls (st) k n σ := by
  intro p e s m args below meth c H locs la C hH hS hl
  exact lv_null C.1 C.2.1 hd (kk p e s m args below meth c H locs la C hH hS hl)
theorem V_iload_n {g : Gl} {mi : MI} {R : Room} {QF : QFT} {pc : Nat} {ls : List (Option MV)} {st : List MV} {k n : Nat} {σ : St} {i : Fin 4} {x : Int} (hd : decode mi.1 pc = .ok (.iload_n i, 1)) (hi : ls[(i : Nat)]? = some (some (vi x))) (kk : V g mi R QF (pc + 1) ls (vi x :: st) k n σ) : V g mi R QF pc ls (st) k n σ := by
  intro p e s m args below meth c H locs la C hH hS hl
  exact lv_iload_n C.1 C.2.1 hd rfl (lvl_at hl hi) (kk p e s m args below meth c H locs la C hH hS hl)
theorem V_iload {g : Gl} {mi : MI} {R : Room} {QF : QFT} {pc : Nat} {ls : List (Option MV)} {st : List MV} {k n : Nat} {σ : St} {i : Nat} {x : Int} (hd : decode mi.1 pc = .ok (.iload i, 2)) (hi : ls[i]? = some (some (vi x))) (kk : V g mi R QF (pc + 2) ls (vi x :: st) k n σ) : V g mi R QF pc ls (st) k n σ := by
  intro p e s m args below meth c H locs la C hH hS hl
  exact lv_iload C.1 C.2.1 hd (lvl_at hl hi) (kk p e s m args below meth c H locs la C hH hS hl)
theorem V_lload_n {g : Gl} {mi : MI} {R : Room} {QF : QFT} {pc : Nat} {ls : List (Option MV)} {st : List MV} {k n : Nat} {σ : St} {i : Fin 4} {x : Int64} (hd : decode mi.1 pc = .ok (.lload_n i, 1)) (hi : ls[(i : Nat)]? = some (some (vl x))) (kk : V g mi R QF (pc + 1) ls (vl x :: st) k n σ) : V g mi R QF pc ls (st) k n σ := by
  intro p e s m args below meth c H locs la C hH hS hl
  exact lv_lload_n C.1 C.2.1 hd rfl (lvl_at hl hi) (kk p e s m args below meth c H locs la C hH hS hl)
theorem V_aload_n {g : Gl} {mi : MI} {R : Room} {QF : QFT} {pc : Nat} {ls : List (Option MV)} {st : List MV} {k n : Nat} {σ : St} {i : Fin 4} {r : Option Nat} (hd : decode mi.1 pc = .ok (.aload_n i, 1)) (hi : ls[(i : Nat)]? = some (some (vq r))) (kk : V g mi R QF (pc + 1) ls (vq r :: st) k n σ) : V g mi R QF pc ls (st) k n σ := by
  intro p e s m args below meth c H locs la C hH hS hl
  have h1 := lvl_at hl hi
  have h2 := kk p e s m args below meth c H locs la C hH hS hl
  cases r with
  | none => exact lv_aload_nN C.1 C.2.1 hd rfl h1 h2
  | some a => exact lv_aload_n C.1 C.2.1 hd rfl h1 h2
theorem V_aload {g : Gl} {mi : MI} {R : Room} {QF : QFT} {pc : Nat} {ls : List (Option MV)} {st : List MV} {k n : Nat} {σ : St} {i : Nat} {r : Option Nat} (hd : decode mi.1 pc = .ok (.aload i, 2)) (hi : ls[i]? = some (some (vq r))) (kk : V g mi R QF (pc + 2) ls (vq r :: st) k n σ) : V g mi R QF pc ls (st) k n σ := by
  intro p e s m args below meth c H locs la C hH hS hl
  have h1 := lvl_at hl hi
  have h2 := kk p e s m args below meth c H locs la C hH hS hl
  cases r with
  | none => exact lv_aloadN C.1 C.2.1 hd h1 h2
  | some a => exact lv_aload C.1 C.2.1 hd h1 h2
theorem V_istore_n {g : Gl} {mi : MI} {R : Room} {QF : QFT} {pc : Nat} {ls : List (Option MV)} {st : List MV} {k n : Nat} {σ : St} {i : Fin 4} {x : Int} (hd : decode mi.1 pc = .ok (.istore_n i, 1)) (hi : (i : Nat) < mi.2.2.1) (hn : noL ls i = true) (kk : V g mi R QF (pc + 1) (ls.set i (some (vi x))) st k n σ) : V g mi R QF pc ls (vi x :: st) k n σ := by
  intro p e s m args below meth c H locs la C hH hS hl
  exact lv_istore_n C.1 C.2.1 hd rfl hl hi rfl (fun la' hl' => kk p e s m args below meth c H locs la' C hH hS (lvl_set hn hl'))
theorem V_istore {g : Gl} {mi : MI} {R : Room} {QF : QFT} {pc : Nat} {ls : List (Option MV)} {st : List MV} {k n : Nat} {σ : St} {i : Nat} {x : Int} (hd : decode mi.1 pc = .ok (.istore i, 2)) (hi : i < mi.2.2.1) (hn : noL ls i = true) (kk : V g mi R QF (pc + 2) (ls.set i (some (vi x))) st k n σ) : V g mi R QF pc ls (vi x :: st) k n σ := by
  intro p e s m args below meth c H locs la C hH hS hl
  exact lv_istore C.1 C.2.1 hd hl hi rfl (fun la' hl' => kk p e s m args below meth c H locs la' C hH hS (lvl_set hn hl'))
theorem V_astore_n {g : Gl} {mi : MI} {R : Room} {QF : QFT} {pc : Nat} {ls : List (Option MV)} {st : List MV} {k n : Nat} {σ : St} {i : Fin 4} {r : Option Nat} (hd : decode mi.1 pc = .ok (.astore_n i, 1)) (hi : (i : Nat) < mi.2.2.1) (hn : noL ls i = true) (kk : V g mi R QF (pc + 1) (ls.set i (some (vq r))) st k n σ) : V g mi R QF pc ls (vq r :: st) k n σ := by
  intro p e s m args below meth c H locs la C hH hS hl
  cases r with
  | none => exact lv_astore_nN C.1 C.2.1 hd rfl hl hi rfl (fun la' hl' => kk p e s m args below meth c H locs la' C hH hS (lvl_set hn hl'))
  | some a => exact lv_astore_n C.1 C.2.1 hd rfl hl hi rfl (fun la' hl' => kk p e s m args below meth c H locs la' C hH hS (lvl_set hn hl'))
theorem V_astore {g : Gl} {mi : MI} {R : Room} {QF : QFT} {pc : Nat} {ls : List (Option MV)} {st : List MV} {k n : Nat} {σ : St} {i : Nat} {r : Option Nat} (hd : decode mi.1 pc = .ok (.astore i, 2)) (hi : i < mi.2.2.1) (hn : noL ls i = true) (kk : V g mi R QF (pc + 2) (ls.set i (some (vq r))) st k n σ) : V g mi R QF pc ls (vq r :: st) k n σ := by
  intro p e s m args below meth c H locs la C hH hS hl
  cases r with
  | none => exact lv_astoreN C.1 C.2.1 hd hl hi rfl (fun la' hl' => kk p e s m args below meth c H locs la' C hH hS (lvl_set hn hl'))
  | some a => exact lv_astore C.1 C.2.1 hd hl hi rfl (fun la' hl' => kk p e s m args below meth c H locs la' C hH hS (lvl_set hn hl'))
theorem V_iinc {g : Gl} {mi : MI} {R : Room} {QF : QFT} {pc : Nat} {ls : List (Option MV)} {st : List MV} {k n : Nat} {σ : St} {i : Nat} {x z : Int} (hd : decode mi.1 pc = .ok (.iinc i z, 3)) (hx : ls[i]? = some (some (vi x))) (hi : i < mi.2.2.1) (hn : noL ls i = true) (kk : V g mi R QF (pc + 3) (ls.set i (some (vi (x + z)))) st k n σ) : V g mi R QF pc ls st k n σ := by
  intro p e s m args below meth c H locs la C hH hS hl
  obtain ⟨j, hj⟩ := List.getElem?_of_mem (lvl_mem g ls 0 i (vi x) hx)
  rw [Nat.zero_add] at hj
  refine lv_iinc (v := iI (x + z)) C.1 C.2.1 hd hl hj (by rw [iI_add]; rfl) hi rfl (fun la' hl' => kk p e s m args below meth c H locs la' C hH hS (lvl_set (v := vi (x + z)) hn hl'))
theorem V_iadd {g : Gl} {mi : MI} {R : Room} {QF : QFT} {pc : Nat} {ls : List (Option MV)} {st : List MV} {k n : Nat} {σ : St} {x y : Int} (hd : decode mi.1 pc = .ok (.iadd, 1)) (kk : V g mi R QF (pc + 1) ls (vi (x + y) :: st) k n σ) : V g mi R QF pc ls (vi y :: vi x :: st) k n σ := by
  intro p e s m args below meth c H locs la C hH hS hl
  refine lv_iadd C.1 C.2.1 hd ?_
  rw [← iI_add]
  exact kk p e s m args below meth c H locs la C hH hS hl
theorem V_isub {g : Gl} {mi : MI} {R : Room} {QF : QFT} {pc : Nat} {ls : List (Option MV)} {st : List MV} {k n : Nat} {σ : St} {x y : Int} (hd : decode mi.1 pc = .ok (.isub, 1)) (kk : V g mi R QF (pc + 1) ls (vi (x - y) :: st) k n σ) : V g mi R QF pc ls (vi y :: vi x :: st) k n σ := by
  intro p e s m args below meth c H locs la C hH hS hl
  refine lv_isub C.1 C.2.1 hd ?_
  rw [← iI_sub]
  exact kk p e s m args below meth c H locs la C hH hS hl
theorem V_imul {g : Gl} {mi : MI} {R : Room} {QF : QFT} {pc : Nat} {ls : List (Option MV)} {st : List MV} {k n : Nat} {σ : St} {x y : Int} (hd : decode mi.1 pc = .ok (.imul, 1)) (kk : V g mi R QF (pc + 1) ls (vi (x * y) :: st) k n σ) : V g mi R QF pc ls (vi y :: vi x :: st) k n σ := by
  intro p e s m args below meth c H locs la C hH hS hl
  refine lv_imul C.1 C.2.1 hd ?_
  rw [← iI_mul]
  exact kk p e s m args below meth c H locs la C hH hS hl
theorem V_ineg {g : Gl} {mi : MI} {R : Room} {QF : QFT} {pc : Nat} {ls : List (Option MV)} {st : List MV} {k n : Nat} {σ : St} {x : Int} (hd : decode mi.1 pc = .ok (.ineg, 1)) (kk : V g mi R QF (pc + 1) ls (vi (-x) :: st) k n σ) : V g mi R QF pc ls (vi x :: st) k n σ := by
  intro p e s m args below meth c H locs la C hH hS hl
  refine lv_ineg C.1 C.2.1 hd ?_
  rw [← iI_neg]
  exact kk p e s m args below meth c H locs la C hH hS hl
theorem V_idiv {g : Gl} {mi : MI} {R : Room} {QF : QFT} {pc : Nat} {ls : List (Option MV)} {st : List MV} {k n : Nat} {σ : St} {x y : Int} (hd : decode mi.1 pc = .ok (.idiv, 1)) (h : (0 ≤ x ∧ x < 2147483648) ∧ (0 < y ∧ y < 2147483648)) (kk : V g mi R QF (pc + 1) ls (vi (x / y) :: st) k n σ) : V g mi R QF pc ls (vi y :: vi x :: st) k n σ := by
  intro p e s m args below meth c H locs la C hH hS hl
  refine lv_idiv C.1 C.2.1 hd (fun q => absurd ((iI_eq0 ⟨by omega, by omega⟩).mp q) (by omega)) ?_
  rw [iI_div h.1.1 h.1.2 h.2.1 h.2.2]
  exact kk p e s m args below meth c H locs la C hH hS hl
theorem V_irem {g : Gl} {mi : MI} {R : Room} {QF : QFT} {pc : Nat} {ls : List (Option MV)} {st : List MV} {k n : Nat} {σ : St} {x y : Int} (hd : decode mi.1 pc = .ok (.irem, 1)) (h : (0 ≤ x ∧ x < 2147483648) ∧ (0 < y ∧ y < 2147483648)) (kk : V g mi R QF (pc + 1) ls (vi (x % y) :: st) k n σ) : V g mi R QF pc ls (vi y :: vi x :: st) k n σ := by
  intro p e s m args below meth c H locs la C hH hS hl
  refine lv_irem C.1 C.2.1 hd (fun q => absurd ((iI_eq0 ⟨by omega, by omega⟩).mp q) (by omega)) ?_
  rw [iI_rem h.1.1 h.1.2 h.2.1 h.2.2]
  exact kk p e s m args below meth c H locs la C hH hS hl
theorem V_ishl {g : Gl} {mi : MI} {R : Room} {QF : QFT} {pc : Nat} {ls : List (Option MV)} {st : List MV} {k n : Nat} {σ : St} {x y : Int} (hd : decode mi.1 pc = .ok (.ishl, 1)) (h : 0 ≤ y ∧ y < 32) (kk : V g mi R QF (pc + 1) ls (vi (x * 2 ^ y.toNat) :: st) k n σ) : V g mi R QF pc ls (vi y :: vi x :: st) k n σ := by
  intro p e s m args below meth c H locs la C hH hS hl
  refine lv_ishl C.1 C.2.1 hd ?_
  rw [iI_shl h.1 h.2]
  exact kk p e s m args below meth c H locs la C hH hS hl
theorem V_ishr {g : Gl} {mi : MI} {R : Room} {QF : QFT} {pc : Nat} {ls : List (Option MV)} {st : List MV} {k n : Nat} {σ : St} {x y : Int} (hd : decode mi.1 pc = .ok (.ishr, 1)) (h : inR x ∧ (0 ≤ y ∧ y < 32)) (kk : V g mi R QF (pc + 1) ls (vi (x / 2 ^ y.toNat) :: st) k n σ) : V g mi R QF pc ls (vi y :: vi x :: st) k n σ := by
  intro p e s m args below meth c H locs la C hH hS hl
  refine lv_ishr C.1 C.2.1 hd ?_
  rw [iI_shr h.1 h.2.1 h.2.2]
  exact kk p e s m args below meth c H locs la C hH hS hl
/-- and, or of two ints -/
def iAnd (x y : Int) : Int := (iI x &&& iI y).toInt
def iOr (x y : Int) : Int := (iI x ||| iI y).toInt
theorem V_iand1 {g : Gl} {mi : MI} {R : Room} {QF : QFT} {pc : Nat} {ls : List (Option MV)} {st : List MV} {k n : Nat} {σ : St} {x : Int} (hd : decode mi.1 pc = .ok (.iand, 1)) (kk : V g mi R QF (pc + 1) ls (vi (x % 2) :: st) k n σ) : V g mi R QF pc ls (vi 1 :: vi x :: st) k n σ := by
  intro p e s m args below meth c H locs la C hH hS hl
  refine lv_iand C.1 C.2.1 hd ?_
  rw [show iI x &&& iI 1 = iI (x % 2) from iI_and1 x]
  exact kk p e s m args below meth c H locs la C hH hS hl
theorem V_iand {g : Gl} {mi : MI} {R : Room} {QF : QFT} {pc : Nat} {ls : List (Option MV)} {st : List MV} {k n : Nat} {σ : St} {x y : Int} (hd : decode mi.1 pc = .ok (.iand, 1)) (kk : V g mi R QF (pc + 1) ls (vi (iAnd x y) :: st) k n σ) : V g mi R QF pc ls (vi y :: vi x :: st) k n σ := by
  intro p e s m args below meth c H locs la C hH hS hl
  refine lv_iand C.1 C.2.1 hd ?_
  rw [← iI_of (iI x &&& iI y)]
  exact kk p e s m args below meth c H locs la C hH hS hl
theorem V_ior {g : Gl} {mi : MI} {R : Room} {QF : QFT} {pc : Nat} {ls : List (Option MV)} {st : List MV} {k n : Nat} {σ : St} {x y : Int} (hd : decode mi.1 pc = .ok (.ior, 1)) (kk : V g mi R QF (pc + 1) ls (vi (iOr x y) :: st) k n σ) : V g mi R QF pc ls (vi y :: vi x :: st) k n σ := by
  intro p e s m args below meth c H locs la C hH hS hl
  refine lv_ior C.1 C.2.1 hd ?_
  rw [← iI_of (iI x ||| iI y)]
  exact kk p e s m args below meth c H locs la C hH hS hl
theorem V_inot {g : Gl} {mi : MI} {R : Room} {QF : QFT} {pc : Nat} {ls : List (Option MV)} {st : List MV} {k n : Nat} {σ : St} {x : Int} (hd : decode mi.1 pc = .ok (.ixor, 1)) (kk : V g mi R QF (pc + 1) ls (vi (-1 - x) :: st) k n σ) : V g mi R QF pc ls (vi (-1) :: vi x :: st) k n σ := by
  intro p e s m args below meth c H locs la C hH hS hl
  refine lv_ixor C.1 C.2.1 hd ?_
  rw [iI_not]
  exact kk p e s m args below meth c H locs la C hH hS hl
theorem V_i2l {g : Gl} {mi : MI} {R : Room} {QF : QFT} {pc : Nat} {ls : List (Option MV)} {st : List MV} {k n : Nat} {σ : St} {x : Int} (hd : decode mi.1 pc = .ok (.i2l, 1)) (kk : V g mi R QF (pc + 1) ls (vl (iI x).toInt64 :: st) k n σ) : V g mi R QF pc ls (vi x :: st) k n σ := by
  intro p e s m args below meth c H locs la C hH hS hl
  exact lv_i2l C.1 C.2.1 hd rfl (kk p e s m args below meth c H locs la C hH hS hl)
theorem V_l2i {g : Gl} {mi : MI} {R : Room} {QF : QFT} {pc : Nat} {ls : List (Option MV)} {st : List MV} {k n : Nat} {σ : St} {x : Int64} (hd : decode mi.1 pc = .ok (.l2i, 1)) (kk : V g mi R QF (pc + 1) ls (vi x.toInt32.toInt :: st) k n σ) : V g mi R QF pc ls (vl x :: st) k n σ := by
  intro p e s m args below meth c H locs la C hH hS hl
  exact lv_l2i C.1 C.2.1 hd (iI_of _).symm (kk p e s m args below meth c H locs la C hH hS hl)
theorem V_i2b {g : Gl} {mi : MI} {R : Room} {QF : QFT} {pc : Nat} {ls : List (Option MV)} {st : List MV} {k n : Nat} {σ : St} {x : Int} (hd : decode mi.1 pc = .ok (.i2b, 1)) (kk : V g mi R QF (pc + 1) ls (vi (iI x).toInt8.toInt32.toInt :: st) k n σ) : V g mi R QF pc ls (vi x :: st) k n σ := by
  intro p e s m args below meth c H locs la C hH hS hl
  exact lv_i2b C.1 C.2.1 hd (iI_of _).symm (kk p e s m args below meth c H locs la C hH hS hl)
theorem V_ladd {g : Gl} {mi : MI} {R : Room} {QF : QFT} {pc : Nat} {ls : List (Option MV)} {st : List MV} {k n : Nat} {σ : St} {x y : Int64} (hd : decode mi.1 pc = .ok (.ladd, 1)) (kk : V g mi R QF (pc + 1) ls (vl (x + y) :: st) k n σ) : V g mi R QF pc ls (vl y :: vl x :: st) k n σ := by
  intro p e s m args below meth c H locs la C hH hS hl
  exact lv_ladd C.1 C.2.1 hd (kk p e s m args below meth c H locs la C hH hS hl)
theorem V_land {g : Gl} {mi : MI} {R : Room} {QF : QFT} {pc : Nat} {ls : List (Option MV)} {st : List MV} {k n : Nat} {σ : St} {x y : Int64} (hd : decode mi.1 pc = .ok (.land, 1)) (kk : V g mi R QF (pc + 1) ls (vl (x &&& y) :: st) k n σ) : V g mi R QF pc ls (vl y :: vl x :: st) k n σ := by
  intro p e s m args below meth c H locs la C hH hS hl
  exact lv_land C.1 C.2.1 hd (kk p e s m args below meth c H locs la C hH hS hl)
theorem V_lor {g : Gl} {mi : MI} {R : Room} {QF : QFT} {pc : Nat} {ls : List (Option MV)} {st : List MV} {k n : Nat} {σ : St} {x y : Int64} (hd : decode mi.1 pc = .ok (.lor, 1)) (kk : V g mi R QF (pc + 1) ls (vl (x ||| y) :: st) k n σ) : V g mi R QF pc ls (vl y :: vl x :: st) k n σ := by
  intro p e s m args below meth c H locs la C hH hS hl
  exact lv_lor C.1 C.2.1 hd (kk p e s m args below meth c H locs la C hH hS hl)
theorem V_lshl {g : Gl} {mi : MI} {R : Room} {QF : QFT} {pc : Nat} {ls : List (Option MV)} {st : List MV} {k n : Nat} {σ : St} {x : Int64} {y : Int} (hd : decode mi.1 pc = .ok (.lshl, 1)) (kk : V g mi R QF (pc + 1) ls (vl (x <<< ((iI y).toInt64 &&& 63)) :: st) k n σ) : V g mi R QF pc ls (vi y :: vl x :: st) k n σ := by
  intro p e s m args below meth c H locs la C hH hS hl
  exact lv_lshl C.1 C.2.1 hd rfl (kk p e s m args below meth c H locs la C hH hS hl)
theorem V_lcmp {g : Gl} {mi : MI} {R : Room} {QF : QFT} {pc : Nat} {ls : List (Option MV)} {st : List MV} {k n : Nat} {σ : St} {x y : Int64} (hd : decode mi.1 pc = .ok (.lcmp, 1)) (kk : V g mi R QF (pc + 1) ls (vi (lg_cmp x y).toInt :: st) k n σ) : V g mi R QF pc ls (vl y :: vl x :: st) k n σ := by
  intro p e s m args below meth c H locs la C hH hS hl
  refine W.lcmp C.1 C.2.1 hd ?_
  rw [← iI_of (lg_cmp x y)]
  exact kk p e s m args below meth c H locs la C hH hS hl
theorem rv_c1i (g : Gl) (z : Int) : (rv g (vi z)).category = 1 := rfl
/-- of one word -/
def c1 : MV → Bool
  | .inr (.inl _) => false
  | _ => true
theorem rv_c1 {g : Gl} {v : MV} (h : c1 v = true) : (rv g v).category = 1 := by
  match v, h with
  | .inl z, _ => rfl
  | .inr (.inr r), _ => exact rv_catq g r
theorem V_dup {g : Gl} {mi : MI} {R : Room} {QF : QFT} {pc : Nat} {ls : List (Option MV)} {st : List MV} {k n : Nat} {σ : St} {a : MV} (hd : decode mi.1 pc = .ok (.dup, 1)) (h : c1 a = true) (kk : V g mi R QF (pc + 1) ls (a :: a :: st) k n σ) : V g mi R QF pc ls (a :: st) k n σ := by
  intro p e s m args below meth c H locs la C hH hS hl
  exact lv_dup C.1 C.2.1 hd (rv_c1 h) (kk p e s m args below meth c H locs la C hH hS hl)
theorem V_pop {g : Gl} {mi : MI} {R : Room} {QF : QFT} {pc : Nat} {ls : List (Option MV)} {st : List MV} {k n : Nat} {σ : St} {a : MV} (hd : decode mi.1 pc = .ok (.pop, 1)) (h : c1 a = true) (kk : V g mi R QF (pc + 1) ls st k n σ) : V g mi R QF pc ls (a :: st) k n σ := by
  intro p e s m args below meth c H locs la C hH hS hl
  exact lv_pop C.1 C.2.1 hd (rv_c1 h) (kk p e s m args below meth c H locs la C hH hS hl)
theorem V_dup_x1 {g : Gl} {mi : MI} {R : Room} {QF : QFT} {pc : Nat} {ls : List (Option MV)} {st : List MV} {k n : Nat} {σ : St} {a b : MV} (hd : decode mi.1 pc = .ok (.dup_x1, 1)) (h : (c1 a && c1 b) = true) (kk : V g mi R QF (pc + 1) ls (a :: b :: a :: st) k n σ) : V g mi R QF pc ls (a :: b :: st) k n σ := by
  intro p e s m args below meth c H locs la C hH hS hl
  rw [Bool.and_eq_true] at h
  exact lv_dup_x1 C.1 C.2.1 hd (rv_c1 h.1) (rv_c1 h.2) (kk p e s m args below meth c H locs la C hH hS hl)
theorem V_dup_x2 {g : Gl} {mi : MI} {R : Room} {QF : QFT} {pc : Nat} {ls : List (Option MV)} {st : List MV} {k n : Nat} {σ : St} {a b d : MV} (hd : decode mi.1 pc = .ok (.dup_x2, 1)) (h : (c1 a && (c1 b && c1 d)) = true) (kk : V g mi R QF (pc + 1) ls (a :: b :: d :: a :: st) k n σ) : V g mi R QF pc ls (a :: b :: d :: st) k n σ := by
  intro p e s m args below meth c H locs la C hH hS hl
  rw [Bool.and_eq_true, Bool.and_eq_true] at h
  exact lv_dup_x2 C.1 C.2.1 hd (rv_c1 h.1) (rv_c1 h.2.1) (rv_c1 h.2.2) (kk p e s m args below meth c H locs la C hH hS hl)
theorem V_dup2 {g : Gl} {mi : MI} {R : Room} {QF : QFT} {pc : Nat} {ls : List (Option MV)} {st : List MV} {k n : Nat} {σ : St} {a b : MV} (hd : decode mi.1 pc = .ok (.dup2, 1)) (h : (c1 a && c1 b) = true) (kk : V g mi R QF (pc + 1) ls (a :: b :: a :: b :: st) k n σ) : V g mi R QF pc ls (a :: b :: st) k n σ := by
  intro p e s m args below meth c H locs la C hH hS hl
  rw [Bool.and_eq_true] at h
  exact lv_dup2_11 C.1 C.2.1 hd (rv_c1 h.1) (rv_c1 h.2) (kk p e s m args below meth c H locs la C hH hS hl)
theorem V_goto {g : Gl} {mi : MI} {R : Room} {QF : QFT} {pc : Nat} {ls : List (Option MV)} {st : List MV} {k n : Nat} {σ : St} {off : Int} {tgt : Nat} (hd : decode mi.1 pc = .ok (.goto off, 3)) (ht : (pc : Int) + off = (tgt : Int)) (kk : V g mi R QF tgt ls st k n σ) : V g mi R QF pc ls (st) k n σ := by
  intro p e s m args below meth c H locs la C hH hS hl
  exact lv_goto C.1 C.2.1 hd ht (kk p e s m args below meth c H locs la C hH hS hl)
theorem V_ifeq {g : Gl} {mi : MI} {R : Room} {QF : QFT} {pc : Nat} {ls : List (Option MV)} {st : List MV} {k n : Nat} {σ : St} {x : Int} {off : Int} {tgt : Nat} (hd : decode mi.1 pc = .ok (.ifCond .eq off, 3)) (ht : (pc : Int) + off = (tgt : Int)) (hx : inR x) (kt : x = 0 → V g mi R QF tgt ls st k n σ) (kf : ¬ x = 0 → V g mi R QF (pc + 3) ls st k n σ) : V g mi R QF pc ls (vi x :: st) k n σ := by
  intro p e s m args below meth c H locs la C hH hS hl
  exact lv_if_eq C.1 C.2.1 hd ht (fun q => kt ((iI_eq0 hx).mp q) p e s m args below meth c H locs la C hH hS hl) (fun q => kf (fun z => q ((iI_eq0 hx).mpr z)) p e s m args below meth c H locs la C hH hS hl)
theorem V_ifne {g : Gl} {mi : MI} {R : Room} {QF : QFT} {pc : Nat} {ls : List (Option MV)} {st : List MV} {k n : Nat} {σ : St} {x : Int} {off : Int} {tgt : Nat} (hd : decode mi.1 pc = .ok (.ifCond .ne off, 3)) (ht : (pc : Int) + off = (tgt : Int)) (hx : inR x) (kt : x ≠ 0 → V g mi R QF tgt ls st k n σ) (kf : x = 0 → V g mi R QF (pc + 3) ls st k n σ) : V g mi R QF pc ls (vi x :: st) k n σ := by
  intro p e s m args below meth c H locs la C hH hS hl
  exact lv_if_ne C.1 C.2.1 hd ht (fun q => kt (fun z => q ((iI_eq0 hx).mpr z)) p e s m args below meth c H locs la C hH hS hl) (fun q => kf ((iI_eq0 hx).mp q) p e s m args below meth c H locs la C hH hS hl)
theorem V_iflt {g : Gl} {mi : MI} {R : Room} {QF : QFT} {pc : Nat} {ls : List (Option MV)} {st : List MV} {k n : Nat} {σ : St} {x : Int} {off : Int} {tgt : Nat} (hd : decode mi.1 pc = .ok (.ifCond .lt off, 3)) (ht : (pc : Int) + off = (tgt : Int)) (hx : inR x) (kt : x < 0 → V g mi R QF tgt ls st k n σ) (kf : ¬ x < 0 → V g mi R QF (pc + 3) ls st k n σ) : V g mi R QF pc ls (vi x :: st) k n σ := by
  intro p e s m args below meth c H locs la C hH hS hl
  exact lv_if_lt C.1 C.2.1 hd ht (fun q => kt ((iI_lt0 hx).mp q) p e s m args below meth c H locs la C hH hS hl) (fun q => kf (fun z => q ((iI_lt0 hx).mpr z)) p e s m args below meth c H locs la C hH hS hl)
theorem V_ifge {g : Gl} {mi : MI} {R : Room} {QF : QFT} {pc : Nat} {ls : List (Option MV)} {st : List MV} {k n : Nat} {σ : St} {x : Int} {off : Int} {tgt : Nat} (hd : decode mi.1 pc = .ok (.ifCond .ge off, 3)) (ht : (pc : Int) + off = (tgt : Int)) (hx : inR x) (kt : 0 ≤ x → V g mi R QF tgt ls st k n σ) (kf : ¬ 0 ≤ x → V g mi R QF (pc + 3) ls st k n σ) : V g mi R QF pc ls (vi x :: st) k n σ := by
  intro p e s m args below meth c H locs la C hH hS hl
  exact lv_if_ge C.1 C.2.1 hd ht (fun q => kt ((iI_ge0 hx).mp q) p e s m args below meth c H locs la C hH hS hl) (fun q => kf (fun z => q ((iI_ge0 hx).mpr z)) p e s m args below meth c H locs la C hH hS hl)
theorem V_ifgt {g : Gl} {mi : MI} {R : Room} {QF : QFT} {pc : Nat} {ls : List (Option MV)} {st : List MV} {k n : Nat} {σ : St} {x : Int} {off : Int} {tgt : Nat} (hd : decode mi.1 pc = .ok (.ifCond .gt off, 3)) (ht : (pc : Int) + off = (tgt : Int)) (hx : inR x) (kt : 0 < x → V g mi R QF tgt ls st k n σ) (kf : ¬ 0 < x → V g mi R QF (pc + 3) ls st k n σ) : V g mi R QF pc ls (vi x :: st) k n σ := by
  intro p e s m args below meth c H locs la C hH hS hl
  exact lv_if_gt C.1 C.2.1 hd ht (fun q => kt ((iI_gt0 hx).mp q) p e s m args below meth c H locs la C hH hS hl) (fun q => kf (fun z => q ((iI_gt0 hx).mpr z)) p e s m args below meth c H locs la C hH hS hl)
theorem V_ifle {g : Gl} {mi : MI} {R : Room} {QF : QFT} {pc : Nat} {ls : List (Option MV)} {st : List MV} {k n : Nat} {σ : St} {x : Int} {off : Int} {tgt : Nat} (hd : decode mi.1 pc = .ok (.ifCond .le off, 3)) (ht : (pc : Int) + off = (tgt : Int)) (hx : inR x) (kt : x ≤ 0 → V g mi R QF tgt ls st k n σ) (kf : ¬ x ≤ 0 → V g mi R QF (pc + 3) ls st k n σ) : V g mi R QF pc ls (vi x :: st) k n σ := by
  intro p e s m args below meth c H locs la C hH hS hl
  exact lv_if_le C.1 C.2.1 hd ht (fun q => kt ((iI_le0 hx).mp q) p e s m args below meth c H locs la C hH hS hl) (fun q => kf (fun z => q ((iI_le0 hx).mpr z)) p e s m args below meth c H locs la C hH hS hl)
theorem V_icmpeq {g : Gl} {mi : MI} {R : Room} {QF : QFT} {pc : Nat} {ls : List (Option MV)} {st : List MV} {k n : Nat} {σ : St} {x y : Int} {off : Int} {tgt : Nat} (hd : decode mi.1 pc = .ok (.if_icmp .eq off, 3)) (ht : (pc : Int) + off = (tgt : Int)) (hx : inR x) (hy : inR y) (kt : x = y → V g mi R QF tgt ls st k n σ) (kf : ¬ x = y → V g mi R QF (pc + 3) ls st k n σ) : V g mi R QF pc ls (vi y :: vi x :: st) k n σ := by
  intro p e s m args below meth c H locs la C hH hS hl
  exact lv_icmp_eq C.1 C.2.1 hd ht (fun q => kt ((iI_eq hx hy).mp q) p e s m args below meth c H locs la C hH hS hl) (fun q => kf (fun z => q ((iI_eq hx hy).mpr z)) p e s m args below meth c H locs la C hH hS hl)
theorem V_icmpne {g : Gl} {mi : MI} {R : Room} {QF : QFT} {pc : Nat} {ls : List (Option MV)} {st : List MV} {k n : Nat} {σ : St} {x y : Int} {off : Int} {tgt : Nat} (hd : decode mi.1 pc = .ok (.if_icmp .ne off, 3)) (ht : (pc : Int) + off = (tgt : Int)) (hx : inR x) (hy : inR y) (kt : x ≠ y → V g mi R QF tgt ls st k n σ) (kf : x = y → V g mi R QF (pc + 3) ls st k n σ) : V g mi R QF pc ls (vi y :: vi x :: st) k n σ := by
  intro p e s m args below meth c H locs la C hH hS hl
  exact lv_icmp_ne C.1 C.2.1 hd ht (fun q => kt (fun z => q ((iI_eq hx hy).mpr z)) p e s m args below meth c H locs la C hH hS hl) (fun q => kf ((iI_eq hx hy).mp q) p e s m args below meth c H locs la C hH hS hl)
theorem V_icmplt {g : Gl} {mi : MI} {R : Room} {QF : QFT} {pc : Nat} {ls : List (Option MV)} {st : List MV} {k n : Nat} {σ : St} {x y : Int} {off : Int} {tgt : Nat} (hd : decode mi.1 pc = .ok (.if_icmp .lt off, 3)) (ht : (pc : Int) + off = (tgt : Int)) (hx : inR x) (hy : inR y) (kt : x < y → V g mi R QF tgt ls st k n σ) (kf : ¬ x < y → V g mi R QF (pc + 3) ls st k n σ) : V g mi R QF pc ls (vi y :: vi x :: st) k n σ := by
  intro p e s m args below meth c H locs la C hH hS hl
  exact lv_icmp_lt C.1 C.2.1 hd ht (fun q => kt ((iI_lt hx hy).mp q) p e s m args below meth c H locs la C hH hS hl) (fun q => kf (fun z => q ((iI_lt hx hy).mpr z)) p e s m args below meth c H locs la C hH hS hl)
theorem V_icmpge {g : Gl} {mi : MI} {R : Room} {QF : QFT} {pc : Nat} {ls : List (Option MV)} {st : List MV} {k n : Nat} {σ : St} {x y : Int} {off : Int} {tgt : Nat} (hd : decode mi.1 pc = .ok (.if_icmp .ge off, 3)) (ht : (pc : Int) + off = (tgt : Int)) (hx : inR x) (hy : inR y) (kt : y ≤ x → V g mi R QF tgt ls st k n σ) (kf : ¬ y ≤ x → V g mi R QF (pc + 3) ls st k n σ) : V g mi R QF pc ls (vi y :: vi x :: st) k n σ := by
  intro p e s m args below meth c H locs la C hH hS hl
  exact lv_icmp_ge C.1 C.2.1 hd ht (fun q => kt ((iI_le hy hx).mp q) p e s m args below meth c H locs la C hH hS hl) (fun q => kf (fun z => q ((iI_le hy hx).mpr z)) p e s m args below meth c H locs la C hH hS hl)
theorem V_icmpgt {g : Gl} {mi : MI} {R : Room} {QF : QFT} {pc : Nat} {ls : List (Option MV)} {st : List MV} {k n : Nat} {σ : St} {x y : Int} {off : Int} {tgt : Nat} (hd : decode mi.1 pc = .ok (.if_icmp .gt off, 3)) (ht : (pc : Int) + off = (tgt : Int)) (hx : inR x) (hy : inR y) (kt : y < x → V g mi R QF tgt ls st k n σ) (kf : ¬ y < x → V g mi R QF (pc + 3) ls st k n σ) : V g mi R QF pc ls (vi y :: vi x :: st) k n σ := by
  intro p e s m args below meth c H locs la C hH hS hl
  exact lv_icmp_gt C.1 C.2.1 hd ht (fun q => kt ((iI_lt hy hx).mp q) p e s m args below meth c H locs la C hH hS hl) (fun q => kf (fun z => q ((iI_lt hy hx).mpr z)) p e s m args below meth c H locs la C hH hS hl)
theorem V_icmple {g : Gl} {mi : MI} {R : Room} {QF : QFT} {pc : Nat} {ls : List (Option MV)} {st : List MV} {k n : Nat} {σ : St} {x y : Int} {off : Int} {tgt : Nat} (hd : decode mi.1 pc = .ok (.if_icmp .le off, 3)) (ht : (pc : Int) + off = (tgt : Int)) (hx : inR x) (hy : inR y) (kt : x ≤ y → V g mi R QF tgt ls st k n σ) (kf : ¬ x ≤ y → V g mi R QF (pc + 3) ls st k n σ) : V g mi R QF pc ls (vi y :: vi x :: st) k n σ := by
  intro p e s m args below meth c H locs la C hH hS hl
  exact lv_icmp_le C.1 C.2.1 hd ht (fun q => kt ((iI_le hx hy).mp q) p e s m args below meth c H locs la C hH hS hl) (fun q => kf (fun z => q ((iI_le hx hy).mpr z)) p e s m args below meth c H locs la C hH hS hl)
theorem V_ifnull {g : Gl} {mi : MI} {R : Room} {QF : QFT} {pc : Nat} {ls : List (Option MV)} {st : List MV} {k n : Nat} {σ : St} {r : Option Nat} {off : Int} {tgt : Nat} (hd : decode mi.1 pc = .ok (.ifnull off, 3)) (ht : (pc : Int) + off = (tgt : Int)) (kt : r = none → V g mi R QF tgt ls st k n σ) (kf : ∀ a, r = some a → V g mi R QF (pc + 3) ls st k n σ) : V g mi R QF pc ls (vq r :: st) k n σ := by
  intro p e s m args below meth c H locs la C hH hS hl
  cases r with
  | none => exact lv_ifnullN C.1 C.2.1 hd ht (kt rfl p e s m args below meth c H locs la C hH hS hl)
  | some a => exact lv_ifnull C.1 C.2.1 hd (kf a rfl p e s m args below meth c H locs la C hH hS hl)
theorem V_ifnonnull {g : Gl} {mi : MI} {R : Room} {QF : QFT} {pc : Nat} {ls : List (Option MV)} {st : List MV} {k n : Nat} {σ : St} {r : Option Nat} {off : Int} {tgt : Nat} (hd : decode mi.1 pc = .ok (.ifnonnull off, 3)) (ht : (pc : Int) + off = (tgt : Int)) (kt : ∀ a, r = some a → V g mi R QF tgt ls st k n σ) (kf : r = none → V g mi R QF (pc + 3) ls st k n σ) : V g mi R QF pc ls (vq r :: st) k n σ := by
  intro p e s m args below meth c H locs la C hH hS hl
  cases r with
  | none => exact lv_ifnonnullN C.1 C.2.1 hd (kf rfl p e s m args below meth c H locs la C hH hS hl)
  | some a => exact lv_ifnonnull C.1 C.2.1 hd ht (kt a rfl p e s m args below meth c H locs la C hH hS hl)
theorem V_tableOut {g : Gl} {mi : MI} {R : Room} {QF : QFT} {pc : Nat} {ls : List (Option MV)} {st : List MV} {k n : Nat} {σ : St} {dflt lo hi : Int} {offs : Array Int} {len : Nat} {x : Int} {tgt : Nat} (hd : decode mi.1 pc = .ok (.tableswitch dflt lo hi offs, len)) (hx : inR x) (h : x < lo ∨ hi < x) (ht : (pc : Int) + dflt = (tgt : Int)) (kk : V g mi R QF tgt ls st k n σ) : V g mi R QF pc ls (vi x :: st) k n σ := by
  intro p e s m args below meth c H locs la C hH hS hl
  exact lv_tableOut C.1 C.2.1 hd (by rw [iI_toInt hx]; exact h) ht (kk p e s m args below meth c H locs la C hH hS hl)
theorem V_tableIn {g : Gl} {mi : MI} {R : Room} {QF : QFT} {pc : Nat} {ls : List (Option MV)} {st : List MV} {k n : Nat} {σ : St} {dflt lo hi : Int} {offs : Array Int} {len : Nat} {x : Int} {off : Int} {tgt : Nat} (hd : decode mi.1 pc = .ok (.tableswitch dflt lo hi offs, len)) (hx : inR x) (h : lo ≤ x ∧ x ≤ hi) (ho : offs[(x - lo).toNat]? = some off) (ht : (pc : Int) + off = (tgt : Int)) (kk : V g mi R QF tgt ls st k n σ) : V g mi R QF pc ls (vi x :: st) k n σ := by
  intro p e s m args below meth c H locs la C hH hS hl
  exact lv_tableIn C.1 C.2.1 hd (by rw [iI_toInt hx]; omega) (by rw [iI_toInt hx]; omega) (by rw [iI_toInt hx]; exact ho) ht (kk p e s m args below meth c H locs la C hH hS hl)
theorem V_lookup {g : Gl} {mi : MI} {R : Room} {QF : QFT} {pc : Nat} {ls : List (Option MV)} {st : List MV} {k n : Nat} {σ : St} {dflt : Int} {ps : Array (Int × Int)} {len : Nat} {x : Int} {off : Int} {tgt : Nat} (hd : decode mi.1 pc = .ok (.lookupswitch dflt ps, len)) (hx : inR x) (hp : (ps.toList.zip (ps.toList.drop 1)).all (fun (a, next) => a.1 < next.1) = true) (ho : Op.lookupswitch.offset ps.toList dflt x = off) (ht : (pc : Int) + off = (tgt : Int)) (kk : V g mi R QF tgt ls st k n σ) : V g mi R QF pc ls (vi x :: st) k n σ := by
  intro p e s m args below meth c H locs la C hH hS hl
  exact lv_lookup C.1 C.2.1 hd hp (by rw [iI_toInt hx]; exact ho) ht (kk p e s m args below meth c H locs la C hH hS hl)
/-- other locals: a part of what is held -/
theorem V_locs {g : Gl} {mi : MI} {R : Room} {QF : QFT} {pc : Nat} {ls ls' : List (Option MV)} {st : List MV} {k n : Nat} {σ : St} (h : ∀ (j : Nat) (v : MV), ls'[j]? = some (some v) → ls[j]? = some (some v)) (kk : V g mi R QF pc ls' st k n σ) : V g mi R QF pc ls st k n σ := by
  intro p e s m args below meth c H locs la C hH hS hl
  refine kk p e s m args below meth c H locs la C hH hS ⟨hl.1, hl.2.1, fun q hq => ?_⟩
  obtain ⟨j, v, h1, rfl⟩ := lvl_of g _ _ _ hq
  exact hl.2.2 _ (lvl_mem g ls 0 j v (h j v h1))
theorem V_more {g : Gl} {mi : MI} {R : Room} {QF : QFT} {pc : Nat} {ls : List (Option MV)} {st : List MV} {k n k' n' : Nat} {σ : St} (h1 : k ≤ k') (h2 : n ≤ n') (kk : V g mi R QF pc ls st k' n' σ) : V g mi R QF pc ls st k n σ :=
  fun p e s m args below meth c H locs la C hH hS hl => W.widen h1 h2 (kk p e s m args below meth c H locs la C hH hS hl)
end
section
/-! the heap's rows -/
theorem gad_inj {g : Gl} (h : GOK g) {a b : Nat} (ha : 8 ≤ a) (hb : 8 ≤ b) (e : gad g a = gad g b) : a = b := by
  have h1 := h.1 a ha
  have h2 := h.1 b hb
  omega
theorem gad_bs {g : Gl} (h : GOK g) {a : Nat} (ha : 8 ≤ a) : gbs g ≤ gad g a := by
  have h1 := h.1 a ha
  omega
theorem cellR.kept {g : Gl} {G : Nat → Int} {L : Nat → Int64} {P : Nat → Option Nat} {H H1 : Heap} {a : Nat} {sh : Sh} (h : cellR g G L P H a sh) (hq : H1[gad g a]? = H[gad g a]?) : cellR g G L P H1 a sh := by
  match sh, h with
  | .inl ci, h =>
    obtain ⟨r, h1, h2⟩ := h
    exact ⟨r, h1, h2.kept hq⟩
  | .inr (t, n), h => exact ⟨h.1, h.2.1, by rw [hq]; exact h.2.2⟩
/-- one place written: the rest stays -/
theorem HR.set {g : Gl} {σ σ' : St} {H H1 : Heap} {a : Nat} {sh : Sh} (hg : GOK g) (h : HR g σ H) (ha : gl σ a = some sh) (hz : H1.size = H.size) (hq : ∀ q : Nat, q ≠ gad g a → H1[q]? = H[q]?)
    (e1 : gl σ' = gl σ) (e2 : gn σ' = gn σ) (e3 : ∀ b, b ≠ a → gG σ' b = gG σ b ∧ gL σ' b = gL σ b ∧ gP σ' b = gP σ b) (hc : cellR g (gG σ' a) (gL σ' a) (gP σ' a) H1 a sh) : HR g σ' H1 := by
  refine ⟨by rw [hz, e2]; exact h.1, by rw [e2]; exact h.2.1, fun b shb hb => ?_⟩
  rw [e1] at hb
  obtain ⟨h1, h2⟩ := h.2.2 b shb hb
  rw [e2]
  refine ⟨h1, ?_⟩
  by_cases e : b = a
  · subst e
    cases ha.symm.trans hb
    exact hc
  · obtain ⟨x1, x2, x3⟩ := e3 b e
    rw [x1, x2, x3]
    refine h2.kept (hq _ fun q => e ?_)
    exact gad_inj hg h1.1 (h.2.2 a sh ha).1.1 q
theorem vaS_put {g : Gl} {H0 H H1 : Heap} {locs : List Loc} {a k : Nat} (hg : GOK g) (ha : 8 ≤ a) (h : va_S (fun q => gbs g ≤ q) H0 H locs) (z : H1.size = H.size) (oq : ∀ q : Nat, q ≠ gad g a → H1[q]? = H[q]?) : va_S (fun q => gbs g ≤ q) H0 H1 (locs ++ [⟨gad g a, k⟩]) :=
  h.put z oq (gad_bs hg ha)
theorem gG_setA (σ : St) (a : Nat) (f : Nat → Int) (b : Nat) : gG (setA σ a f) b = if b = a then f else gG σ b := rfl
theorem gL_setA (σ : St) (a : Nat) (f : Nat → Int) : gL (setA σ a f) = gL σ := rfl
theorem gP_setA (σ : St) (a : Nat) (f : Nat → Int) : gP (setA σ a f) = gP σ := rfl
theorem gl_setA (σ : St) (a : Nat) (f : Nat → Int) : gl (setA σ a f) = gl σ := rfl
theorem gn_setA (σ : St) (a : Nat) (f : Nat → Int) : gn (setA σ a f) = gn σ := rfl
theorem gG_setL (σ : St) (a : Nat) (f : Nat → Int64) : gG (setL σ a f) = gG σ := rfl
theorem gL_setL (σ : St) (a : Nat) (f : Nat → Int64) (b : Nat) : gL (setL σ a f) b = if b = a then f else gL σ b := rfl
theorem gP_setL (σ : St) (a : Nat) (f : Nat → Int64) : gP (setL σ a f) = gP σ := rfl
theorem gl_setL (σ : St) (a : Nat) (f : Nat → Int64) : gl (setL σ a f) = gl σ := rfl
theorem gn_setL (σ : St) (a : Nat) (f : Nat → Int64) : gn (setL σ a f) = gn σ := rfl
theorem gG_setP (σ : St) (a : Nat) (f : Nat → Option Nat) : gG (setP σ a f) = gG σ := rfl
theorem gL_setP (σ : St) (a : Nat) (f : Nat → Option Nat) : gL (setP σ a f) = gL σ := rfl
theorem gP_setP (σ : St) (a : Nat) (f : Nat → Option Nat) (b : Nat) : gP (setP σ a f) b = if b = a then f else gP σ b := rfl
theorem gl_setP (σ : St) (a : Nat) (f : Nat → Option Nat) : gl (setP σ a f) = gl σ := rfl
theorem gn_setP (σ : St) (a : Nat) (f : Nat → Option Nat) : gn (setP σ a f) = gn σ := rfl
theorem HR.setA {g : Gl} {σ : St} {H H1 : Heap} {a : Nat} {sh : Sh} {f : Nat → Int} (hg : GOK g) (h : HR g σ H) (ha : gl σ a = some sh) (hz : H1.size = H.size) (hq : ∀ q : Nat, q ≠ gad g a → H1[q]? = H[q]?) (hc : cellR g f (gL σ a) (gP σ a) H1 a sh) : HR g (setA σ a f) H1 :=
  h.set hg ha hz hq rfl rfl (fun b hb => ⟨by rw [gG_setA, if_neg hb], rfl, rfl⟩) (by rw [gG_setA, if_pos rfl]; exact hc)
theorem HR.setL {g : Gl} {σ : St} {H H1 : Heap} {a : Nat} {sh : Sh} {f : Nat → Int64} (hg : GOK g) (h : HR g σ H) (ha : gl σ a = some sh) (hz : H1.size = H.size) (hq : ∀ q : Nat, q ≠ gad g a → H1[q]? = H[q]?) (hc : cellR g (gG σ a) f (gP σ a) H1 a sh) : HR g (setL σ a f) H1 :=
  h.set hg ha hz hq rfl rfl (fun b hb => ⟨rfl, by rw [gL_setL, if_neg hb], rfl⟩) (by rw [gL_setL, if_pos rfl]; exact hc)
theorem HR.setP {g : Gl} {σ : St} {H H1 : Heap} {a : Nat} {sh : Sh} {f : Nat → Option Nat} (hg : GOK g) (h : HR g σ H) (ha : gl σ a = some sh) (hz : H1.size = H.size) (hq : ∀ q : Nat, q ≠ gad g a → H1[q]? = H[q]?) (hc : cellR g (gG σ a) (gL σ a) f H1 a sh) : HR g (setP σ a f) H1 :=
  h.set hg ha hz hq rfl rfl (fun b hb => ⟨rfl, rfl, by rw [gP_setP, if_neg hb]⟩) (by rw [gP_setP, if_pos rfl]; exact hc)
/-- a field's link: class number ci, its field k -/
def FL (own : String) (idx ci k : Nat) : Prop := ∃ r : vw_C, vwCl[ci]? = some r ∧ k < r.2.2 ∧ Cond.fieldLink own idx (r.2.1 k).1 (r.2.1 k).2.1 (r.2.1 k).2.2.1 ∈ gTbl ∧ (∀ w ∈ u_ws r.1 r.2.1 r.2.2, w ∈ gTbl)
theorem V_getfV {g : Gl} {mi : MI} {R : Room} {QF : QFT} {pc : Nat} {ls : List (Option MV)} {st : List MV} {k n : Nat} {σ : St} {idx ci f a : Nat} (hd : decode mi.1 pc = .ok (.getfield idx, 3)) (hF : FL mi.2.1.cls idx ci f) (ha : gl σ a = some (.inl ci))
    (kk : V g mi R QF (pc + 3) ls (fvr ci f (gG σ a) (gP σ a) :: st) k n σ) : V g mi R QF pc ls (vq (some a) :: st) k n σ := by
  intro p e s m args below meth c H locs la C hH hS hl
  obtain ⟨r, h1, h2, h3, h4⟩ := hF
  obtain ⟨-, r', h5, cell, q1, q2, q3, q4⟩ := hH.2.2 a _ ha
  cases h1.symm.trans h5
  obtain ⟨hSl, hfc, kC, hkC, hkind⟩ := (ks_K C.2.2.2.2.2.2.2.2).1 ci _ h1
  obtain ⟨cf, kf, fi, fd, hi, hsl⟩ := hSl f h2
  have hts := C.2.2.2.2.2.2.1
  refine W.getf C.1 C.2.1 C.2.2.2.2.1 (hts _ h3) hi (u_facts hfc hkC (u_lays hts h4 h2) hi).1 q1 (by rw [q3]; exact fun h => by cases h) (v := rv g (fvr ci f (gG σ a) (gP σ a))) ?_ rfl rfl hd (kk p e s m args below meth c H locs la C hH hS hl)
  rw [hsl, q4 f h2]
theorem V_getfi {g : Gl} {mi : MI} {R : Room} {QF : QFT} {pc : Nat} {ls : List (Option MV)} {st : List MV} {k n : Nat} {σ : St} {idx ci f a : Nat} (hd : decode mi.1 pc = .ok (.getfield idx, 3)) (hF : FL mi.2.1.cls idx ci f) (hk : fk ci f = 0) (ha : gl σ a = some (.inl ci))
    (kk : V g mi R QF (pc + 3) ls (vi (gG σ a f) :: st) k n σ) : V g mi R QF pc ls (vq (some a) :: st) k n σ :=
  V_getfV hd hF ha (by rw [show fvr ci f (gG σ a) (gP σ a) = vi (gG σ a f) from if_pos hk]; exact kk)
theorem V_getfr {g : Gl} {mi : MI} {R : Room} {QF : QFT} {pc : Nat} {ls : List (Option MV)} {st : List MV} {k n : Nat} {σ : St} {idx ci f a : Nat} {b : Option Nat} (hd : decode mi.1 pc = .ok (.getfield idx, 3)) (hF : FL mi.2.1.cls idx ci f) (hk : ¬ fk ci f = 0) (ha : gl σ a = some (.inl ci)) (hb : gP σ a f = b)
    (kk : V g mi R QF (pc + 3) ls (vq b :: st) k n σ) : V g mi R QF pc ls (vq (some a) :: st) k n σ :=
  V_getfV hd hF ha (by rw [show fvr ci f (gG σ a) (gP σ a) = vq (gP σ a f) from if_neg hk, hb]; exact kk)
/-- arrays -/
theorem arr_in {z : Int} {N : Nat} (h : 0 ≤ z ∧ z < N) (hN : N < 2147483648) : vp_in (iI z) N ∧ (iI z).toNatClampNeg = z.toNat ∧ z.toNat < N := ⟨iI_in h.1 h.2 hN, iI_clamp h.1 (by omega), by omega⟩
theorem V_iald {g : Gl} {mi : MI} {R : Room} {QF : QFT} {pc : Nat} {ls : List (Option MV)} {st : List MV} {k n : Nat} {σ : St} {a N : Nat} {i : Int} (hd : decode mi.1 pc = .ok (.iaload, 1)) (ha : gl σ a = some (.inr (0, N))) (hi : 0 ≤ i ∧ i < N)
    (kk : V g mi R QF (pc + 1) ls (vi (gG σ a i.toNat) :: st) k n σ) : V g mi R QF pc ls (vi i :: vq (some a) :: st) k n σ := by
  intro p e s m args below meth c H locs la C hH hS hl
  obtain ⟨-, -, hN, hc⟩ := hH.2.2 a _ ha
  obtain ⟨z1, z2, z3⟩ := arr_in hi hN
  refine W.iald (v := .int (iI (gG σ a i.toNat))) C.1 C.2.1 hc (((ks_K C.2.2.2.2.2.2.2.2).2 0 _ rfl).1 _ _) (fun q => by cases q) (by rw [arrV_size]; exact z1) (by rw [z2, arrV_read _ _ z3]; rfl) rfl rfl hd (kk p e s m args below meth c H locs la C hH hS hl)
theorem V_bald {g : Gl} {mi : MI} {R : Room} {QF : QFT} {pc : Nat} {ls : List (Option MV)} {st : List MV} {k n : Nat} {σ : St} {a N : Nat} {i : Int} (hd : decode mi.1 pc = .ok (.baload, 1)) (ha : gl σ a = some (.inr (2, N))) (hi : 0 ≤ i ∧ i < N)
    (kk : V g mi R QF (pc + 1) ls (vi (gG σ a i.toNat) :: st) k n σ) : V g mi R QF pc ls (vi i :: vq (some a) :: st) k n σ := by
  intro p e s m args below meth c H locs la C hH hS hl
  obtain ⟨-, -, hN, hc⟩ := hH.2.2 a _ ha
  obtain ⟨z1, z2, z3⟩ := arr_in hi hN
  refine W.bald (v := .int (iI (gG σ a i.toNat))) C.1 C.2.1 hc (((ks_K C.2.2.2.2.2.2.2.2).2 2 _ rfl).1 _ _) (fun q => by cases q) (by rw [arrV_size]; exact z1) (by rw [z2, arrV_read _ _ z3]; rfl) rfl rfl hd (kk p e s m args below meth c H locs la C hH hS hl)
theorem V_lald {g : Gl} {mi : MI} {R : Room} {QF : QFT} {pc : Nat} {ls : List (Option MV)} {st : List MV} {k n : Nat} {σ : St} {a N : Nat} {i : Int} (hd : decode mi.1 pc = .ok (.laload, 1)) (ha : gl σ a = some (.inr (1, N))) (hi : 0 ≤ i ∧ i < N)
    (kk : V g mi R QF (pc + 1) ls (vl (gL σ a i.toNat) :: st) k n σ) : V g mi R QF pc ls (vi i :: vq (some a) :: st) k n σ := by
  intro p e s m args below meth c H locs la C hH hS hl
  obtain ⟨-, -, hN, hc⟩ := hH.2.2 a _ ha
  obtain ⟨z1, z2, z3⟩ := arr_in hi hN
  refine W.lald (v := .long (gL σ a i.toNat)) C.1 C.2.1 hc (((ks_K C.2.2.2.2.2.2.2.2).2 1 _ rfl).1 _ _) (fun q => by cases q) (by rw [arrV_size]; exact z1) (by rw [z2, arrV_read _ _ z3]; rfl) rfl rfl hd (kk p e s m args below meth c H locs la C hH hS hl)
theorem ty_ref {t : Nat} (h3 : 3 ≤ t) (h8 : t < 8) (g : Gl) : ∃ ty, (tysG g)[t]? = some (gcA g t, ty) ∧ ty.isReference = true := by
  match t, h3, h8 with
  | 3, _, _ => exact ⟨_, rfl, rfl⟩
  | 4, _, _ => exact ⟨_, rfl, rfl⟩
  | 5, _, _ => exact ⟨_, rfl, rfl⟩
  | 6, _, _ => exact ⟨_, rfl, rfl⟩
  | 7, _, _ => exact ⟨_, rfl, rfl⟩
theorem evr_ref {t : Nat} (h3 : 3 ≤ t) (G : Nat → Int) (L : Nat → Int64) (P : Nat → Option Nat) (j : Nat) : evr t G L P j = vq (P j) := by
  unfold evr
  rw [if_neg (by omega), if_neg (by omega)]
theorem V_aald {g : Gl} {mi : MI} {R : Room} {QF : QFT} {pc : Nat} {ls : List (Option MV)} {st : List MV} {k n : Nat} {σ : St} {a t N : Nat} {i : Int} {b : Option Nat} (hd : decode mi.1 pc = .ok (.aaload, 1)) (ha : gl σ a = some (.inr (t, N))) (h3 : 3 ≤ t) (hi : 0 ≤ i ∧ i < N) (hb : gP σ a i.toNat = b)
    (kk : V g mi R QF (pc + 1) ls (vq b :: st) k n σ) : V g mi R QF pc ls (vi i :: vq (some a) :: st) k n σ := by
  intro p e s m args below meth c H locs la C hH hS hl
  subst hb
  obtain ⟨-, h8, hN, hc⟩ := hH.2.2 a _ ha
  obtain ⟨z1, z2, z3⟩ := arr_in hi hN
  obtain ⟨ty, t1, t2⟩ := ty_ref h3 h8 g
  refine W.aald (v := rv g (vq (gP σ a i.toNat))) C.1 C.2.1 hc (((ks_K C.2.2.2.2.2.2.2.2).2 t _ t1).1 _ _) t2 (fun q => by cases q) (by rw [arrV_size]; exact z1) (by rw [z2, arrV_read _ _ z3, evr_ref h3]) rfl rfl hd (kk p e s m args below meth c H locs la C hH hS hl)
theorem V_alen {g : Gl} {mi : MI} {R : Room} {QF : QFT} {pc : Nat} {ls : List (Option MV)} {st : List MV} {k n : Nat} {σ : St} {a t N : Nat} (hd : decode mi.1 pc = .ok (.arraylength, 1)) (ha : gl σ a = some (.inr (t, N)))
    (kk : V g mi R QF (pc + 1) ls (vi (N : Int) :: st) k n σ) : V g mi R QF pc ls (vq (some a) :: st) k n σ := by
  intro p e s m args below meth c H locs la C hH hS hl
  obtain ⟨-, h8, hN, hc⟩ := hH.2.2 a _ ha
  obtain ⟨ty, ht⟩ : ∃ ty, (tysG g)[t]? = some (gcA g t, ty) := by
    match t, h8 with
    | 0, _ => exact ⟨_, rfl⟩
    | 1, _ => exact ⟨_, rfl⟩
    | 2, _ => exact ⟨_, rfl⟩
    | 3, _ => exact ⟨_, rfl⟩
    | 4, _ => exact ⟨_, rfl⟩
    | 5, _ => exact ⟨_, rfl⟩
    | 6, _ => exact ⟨_, rfl⟩
    | 7, _ => exact ⟨_, rfl⟩
  exact W.alen C.1 C.2.1 hc (((ks_K C.2.2.2.2.2.2.2.2).2 t _ ht).1 _ _) (by rw [arrV_size]; rfl) rfl rfl hd (kk p e s m args below meth c H locs la C hH hS hl)
/-- stores into arrays -/
theorem V_iast {g : Gl} {mi : MI} {R : Room} {QF : QFT} {pc : Nat} {ls : List (Option MV)} {st : List MV} {k n : Nat} {σ : St} {a N : Nat} {i x : Int} (hd : decode mi.1 pc = .ok (.iastore, 1)) (ha : gl σ a = some (.inr (0, N))) (hi : 0 ≤ i ∧ i < N)
    (kk : V g mi R QF (pc + 1) ls st k n (setG σ a i.toNat x)) : V g mi R QF pc ls (vi x :: vi i :: vq (some a) :: st) k n σ := by
  intro p e s m args below meth c H locs la C hH hS hl
  obtain ⟨ha8, -, hN, hc⟩ := hH.2.2 a _ ha
  obtain ⟨z1, z2, z3⟩ := arr_in hi hN
  have hg := ks_ok C.2.2.2.2.2.2.2.2
  refine W.iast C.1 C.2.1 hc (((ks_K C.2.2.2.2.2.2.2.2).2 0 _ rfl).1 _ _) (fun q => by cases q) (by rw [arrV_size]; exact z1) rfl rfl hd (fun H1 e1 z oq => ?_)
  refine kk p e s m args below meth c H1 _ la C (hH.setA hg ha z oq ⟨by decide, hN, ?_⟩) (vaS_put hg ha8.1 hS z oq) hl
  rw [e1, z2, arrV_store]
  congr 2
  funext q
  by_cases hq : q = i.toNat
  · subst hq
    simp [updV, up1, evr, rv]
  · simp [updV, up1, evr, rv, hq]
theorem V_bast {g : Gl} {mi : MI} {R : Room} {QF : QFT} {pc : Nat} {ls : List (Option MV)} {st : List MV} {k n : Nat} {σ : St} {a N : Nat} {i x : Int} (hd : decode mi.1 pc = .ok (.bastore, 1)) (ha : gl σ a = some (.inr (2, N))) (hi : 0 ≤ i ∧ i < N) (hx : narrow .byte (.int (iI x)) = .int (iI x))
    (kk : V g mi R QF (pc + 1) ls st k n (setG σ a i.toNat x)) : V g mi R QF pc ls (vi x :: vi i :: vq (some a) :: st) k n σ := by
  intro p e s m args below meth c H locs la C hH hS hl
  obtain ⟨ha8, -, hN, hc⟩ := hH.2.2 a _ ha
  obtain ⟨z1, z2, z3⟩ := arr_in hi hN
  have hg := ks_ok C.2.2.2.2.2.2.2.2
  refine W.bast C.1 C.2.1 hc (((ks_K C.2.2.2.2.2.2.2.2).2 2 _ rfl).1 _ _) (fun q => by cases q) (by rw [arrV_size]; exact z1) rfl rfl hd (fun H1 e1 z oq => ?_)
  refine kk p e s m args below meth c H1 _ la C (hH.setA hg ha z oq ⟨by decide, hN, ?_⟩) (vaS_put hg ha8.1 hS z oq) hl
  rw [e1, z2, hx, arrV_store]
  congr 2
  funext q
  by_cases hq : q = i.toNat
  · subst hq
    simp [updV, up1, evr, rv]
  · simp [updV, up1, evr, rv, hq]
theorem V_last {g : Gl} {mi : MI} {R : Room} {QF : QFT} {pc : Nat} {ls : List (Option MV)} {st : List MV} {k n : Nat} {σ : St} {a N : Nat} {i : Int} {x : Int64} (hd : decode mi.1 pc = .ok (.lastore, 1)) (ha : gl σ a = some (.inr (1, N))) (hi : 0 ≤ i ∧ i < N)
    (kk : V g mi R QF (pc + 1) ls st k n (setL σ a (up1 (gL σ a) i.toNat x))) : V g mi R QF pc ls (vl x :: vi i :: vq (some a) :: st) k n σ := by
  intro p e s m args below meth c H locs la C hH hS hl
  obtain ⟨ha8, -, hN, hc⟩ := hH.2.2 a _ ha
  obtain ⟨z1, z2, z3⟩ := arr_in hi hN
  have hg := ks_ok C.2.2.2.2.2.2.2.2
  refine W.last C.1 C.2.1 hc (((ks_K C.2.2.2.2.2.2.2.2).2 1 _ rfl).1 _ _) (fun q => by cases q) (by rw [arrV_size]; exact z1) rfl rfl hd (fun H1 e1 z oq => ?_)
  refine kk p e s m args below meth c H1 _ la C (hH.setL hg ha z oq ⟨by decide, hN, ?_⟩) (vaS_put hg ha8.1 hS z oq) hl
  rw [e1, z2, arrV_store]
  congr 2
  funext q
  by_cases hq : q = i.toNat
  · subst hq
    simp [updV, up1, evr, rv]
  · simp [updV, up1, evr, rv, hq]
end
section
/-! writes of fields, references in arrays, new things, arrays that nobody writes -/
/-- a field that may be written by a method of this name: an int -/
def PF (own nm : String) (idx ci k : Nat) (ds : String) : Prop := FL own idx ci k ∧ ∃ r : vw_C, vwCl[ci]? = some r ∧ (r.2.1 k).2.2.1 = ds ∧ ((r.2.1 k).2.2.2 = false ∨ ((r.2.1 k).2.2.2 = true ∧ nm = "<init>" ∧ (r.2.1 k).1 = own))
def clsTy (ci k : Nat) : FieldType := match ci with
  | 0 => tyX0 k | 1 => tyX1 k | 2 => tyX2 k | 3 => tyX3 k | 4 => tyX4 k | 5 => tyX5 k | 6 => tyX6 k | 7 => tyX7 k | 8 => tyX8 k | 9 => tyX10 k | 10 => tyX11 k | _ => tyX12 k
theorem cls_ok : ∀ (ci : Nat) (r : vw_C), vwCl[ci]? = some r → (∀ k, k < r.2.2 → parseFieldDescriptor (r.2.1 k).2.2.1 = some (clsTy ci k)) ∧ (∀ a, a < r.2.2 → ∀ b, b < r.2.2 → a ≠ b → (r.2.1 a).2.1 ≠ (r.2.1 b).2.1)
  | 0, r, h => by cases h; exact ⟨tyX0_ok, nmX0⟩
  | 1, r, h => by cases h; exact ⟨tyX1_ok, nmX1⟩
  | 2, r, h => by cases h; exact ⟨tyX2_ok, nmX2⟩
  | 3, r, h => by cases h; exact ⟨tyX3_ok, nmX3⟩
  | 4, r, h => by cases h; exact ⟨tyX4_ok, nmX4⟩
  | 5, r, h => by cases h; exact ⟨tyX5_ok, nmX5⟩
  | 6, r, h => by cases h; exact ⟨tyX6_ok, nmX6⟩
  | 7, r, h => by cases h; exact ⟨tyX7_ok, nmX7⟩
  | 8, r, h => by cases h; exact ⟨tyX8_ok, nmX8⟩
  | 9, r, h => by cases h; exact ⟨tyX10_ok, nmX10⟩
  | 10, r, h => by cases h; exact ⟨tyX11_ok, nmX11⟩
  | 11, r, h => by cases h; exact ⟨tyX12_ok, nmX12⟩
  | n + 12, r, h => by simp [vwCl] at h
theorem V_putV {g : Gl} {mi : MI} {R : Room} {QF : QFT} {pc : Nat} {ls : List (Option MV)} {st : List MV} {k n : Nat} {σ σ' : St} {idx ci f a : Nat} {v : MV} {ds : String} {ty : FieldType} (hd : decode mi.1 pc = .ok (.putfield idx, 3)) (hF : PF mi.2.1.cls mi.2.1.name idx ci f ds) (ha : gl σ a = some (.inl ci))
    (hty : parseFieldDescriptor ds = some ty) (hn : narrow ty (rv g v) = rv g v) (hfit : fits ty (rv g v) = true)
    (e1 : gl σ' = gl σ) (e2 : gn σ' = gn σ) (e3 : ∀ b, b ≠ a → gG σ' b = gG σ b ∧ gL σ' b = gL σ b ∧ gP σ' b = gP σ b) (e4 : ∀ j, fvr ci j (gG σ' a) (gP σ' a) = if j = f then v else fvr ci j (gG σ a) (gP σ a))
    (kk : V g mi R QF (pc + 3) ls st k n σ') : V g mi R QF pc ls (v :: vq (some a) :: st) k n σ := by
  intro p e s m args below meth c H locs la C hH hS hl
  obtain ⟨⟨r, h1, h2, h3, h4⟩, r0, h5, hds, hfin⟩ := hF
  cases h1.symm.trans h5
  obtain ⟨ha8, r', h5, cell, q1, q2, q3, q4⟩ := hH.2.2 a _ ha
  cases h1.symm.trans h5
  have hK := ks_K C.2.2.2.2.2.2.2.2
  have hg := ks_ok C.2.2.2.2.2.2.2.2
  obtain ⟨hSl, hfc, kC, hkC, hkind⟩ := hK.1 ci _ h1
  obtain ⟨cf, kf, fi, fd, hi, hsl⟩ := hSl f h2
  have hts := C.2.2.2.2.2.2.1
  obtain ⟨hc1, hc2⟩ := cls_ok ci _ h1
  have hap := va_apart (own := r.1) (C := r.1) (T := r.2.1) (N := r.2.2) hts h4 (clsTy ci) hc1 hc2 hK h1
  have hst := (u_facts hfc hkC (u_lays hts h4 h2) hi).1
  have hlay := hts _ (h4 _ (u_in_lay h2))
  have fin : ∀ H1 : Heap, H1[gad g a]? = some (cell.setSlot fd.slot (rv g v)) → H1.size = H.size → (∀ q, q ≠ gad g a → H1[q]? = H[q]?) → HR g σ' H1 := by
    intro H1 x1 x2 x3
    refine hH.set hg ha x2 x3 e1 e2 e3 ⟨r, h1, ?_⟩
    rw [hsl] at x1
    refine t_OB.to (V := updV (fun j => rv g (fvr ci j (gG σ a) (gP σ a))) f (rv g v)) ⟨_, x1, q2, q3, t_set q4 hap h2 _⟩ (fun j _ => ?_)
    rw [e4 j]
    by_cases hj : j = f
    · subst hj; simp [updV]
    · simp [updV, hj]
  rcases hfin with hfin | ⟨hfin, hnm, hdecl⟩
  · unfold u_lay at hlay
    rw [if_neg (by rw [hfin]; decide)] at hlay
    have h6 := u_store hfc hkC hkind hlay hi (by rw [hds]; exact hty) hn hfit
    refine W.putK C.1 C.2.1 (f := fd) ⟨C.2.2.2.2.1, hts _ h3, ⟨_, _, _, hi⟩, hst⟩ (by rw [q2]; exact h6) q1 q3 (by rw [hsl]; exact k2_hasslot (q4 f h2)) rfl rfl hd fun H1 x1 x2 x3 => ?_
    exact kk p e s m args below meth c H1 _ la C (fin H1 x1 x2 x3) (vaS_put hg ha8.1 hS x2 x3) hl
  · unfold u_lay at hlay
    rw [if_pos hfin] at hlay
    have hcf : m.cls = cf := by
      obtain ⟨_, _, c', _, _, _, -, -, hf', -, -, -, hown2, -⟩ := Cond.laysFinal_spec hlay
      have x1 : c' = cf := by have := hi.symm.trans hf'; simp at this; exact this.1.symm
      have hown := C.2.2.2.2.1
      rw [hdecl] at hown2
      rw [← x1]; exact Option.some.inj (hown.symm.trans hown2)
    have h6 := u_fits hfc hkC hkind (Or.inr hlay) hi (by rw [hds]; exact hty) hn hfit
    refine W.putFinK C.1 C.2.1 C.2.2.2.2.1 (hts _ h3) hi hst hcf (by rw [C.2.2.2.2.2.1]; exact hnm) (by rw [q2]; exact h6) q1 q3 (by rw [hsl]; exact k2_hasslot (q4 f h2)) rfl rfl hd fun H1 x1 x2 x3 => ?_
    exact kk p e s m args below meth c H1 _ la C (fin H1 x1 x2 x3) (vaS_put hg ha8.1 hS x2 x3) hl
theorem V_puti {g : Gl} {mi : MI} {R : Room} {QF : QFT} {pc : Nat} {ls : List (Option MV)} {st : List MV} {k n : Nat} {σ : St} {idx ci f a : Nat} {x : Int} (hd : decode mi.1 pc = .ok (.putfield idx, 3)) (hF : PF mi.2.1.cls mi.2.1.name idx ci f "I") (hk : fk ci f = 0) (ha : gl σ a = some (.inl ci))
    (kk : V g mi R QF (pc + 3) ls st k n (setG σ a f x)) : V g mi R QF pc ls (vi x :: vq (some a) :: st) k n σ := by
  refine V_putV (σ' := setG σ a f x) (ty := .int) hd hF ha (by decide +kernel) rfl rfl rfl rfl (fun b hb => ⟨by unfold setG; rw [gG_setA, if_neg hb], rfl, rfl⟩) (fun j => ?_) kk
  unfold setG
  rw [gG_setA, if_pos rfl, gP_setA]
  by_cases hj : j = f
  · subst hj
    simp [fvr, hk, up1]
  · simp [fvr, up1, hj]
theorem V_putz {g : Gl} {mi : MI} {R : Room} {QF : QFT} {pc : Nat} {ls : List (Option MV)} {st : List MV} {k n : Nat} {σ : St} {idx ci f a : Nat} {x : Int} (hd : decode mi.1 pc = .ok (.putfield idx, 3)) (hF : PF mi.2.1.cls mi.2.1.name idx ci f "Z") (hk : fk ci f = 0) (ha : gl σ a = some (.inl ci)) (hx : x = 0 ∨ x = 1)
    (kk : V g mi R QF (pc + 3) ls st k n (setG σ a f x)) : V g mi R QF pc ls (vi x :: vq (some a) :: st) k n σ := by
  refine V_putV (σ' := setG σ a f x) (ty := .boolean) hd hF ha (by decide +kernel) (by rcases hx with rfl | rfl <;> rfl) (by rcases hx with rfl | rfl <;> rfl) rfl rfl (fun b hb => ⟨by unfold setG; rw [gG_setA, if_neg hb], rfl, rfl⟩) (fun j => ?_) kk
  unfold setG
  rw [gG_setA, if_pos rfl, gP_setA]
  by_cases hj : j = f
  · subst hj
    simp [fvr, hk, up1]
  · simp [fvr, up1, hj]
theorem V_putr {g : Gl} {mi : MI} {R : Room} {QF : QFT} {pc : Nat} {ls : List (Option MV)} {st : List MV} {k n : Nat} {σ : St} {idx ci f a b : Nat} {ds : String} {ty : FieldType} (hd : decode mi.1 pc = .ok (.putfield idx, 3)) (hF : PF mi.2.1.cls mi.2.1.name idx ci f ds) (hty : parseFieldDescriptor ds = some ty) (hr : ty.isReference = true) (hk : ¬ fk ci f = 0) (ha : gl σ a = some (.inl ci))
    (kk : V g mi R QF (pc + 3) ls st k n (setP σ a (up1 (gP σ a) f (some b)))) : V g mi R QF pc ls (vq (some b) :: vq (some a) :: st) k n σ := by
  refine V_putV (σ' := setP σ a (up1 (gP σ a) f (some b))) (ty := ty) hd hF ha hty ?_ ?_ rfl rfl (fun b hb => ⟨rfl, rfl, by rw [gP_setP, if_neg hb]⟩) (fun j => ?_) kk
  · cases ty <;> first | rfl | (cases hr)
  · cases ty <;> first | rfl | (cases hr)
  · rw [gP_setP, if_pos rfl, gG_setP]
    by_cases hj : j = f
    · subst hj
      simp [fvr, hk, up1]
    · simp [fvr, up1, hj]
/-- a reference into an array of its own class, or of things -/
def elTy (g : Gl) (t : Nat) : String := match t with | 3 => RX6 | 4 => RX3 | 5 => RX0 | _ => RX9
theorem V_aastN {g : Gl} {mi : MI} {R : Room} {QF : QFT} {pc : Nat} {ls : List (Option MV)} {st : List MV} {k n : Nat} {σ : St} {a t N : Nat} {i : Int} (hd : decode mi.1 pc = .ok (.aastore, 1)) (ha : gl σ a = some (.inr (t, N))) (h3 : 3 ≤ t) (h7 : t < 7) (hi : 0 ≤ i ∧ i < N)
    (kk : V g mi R QF (pc + 1) ls st k n (setP σ a (up1 (gP σ a) i.toNat none))) : V g mi R QF pc ls (vq none :: vi i :: vq (some a) :: st) k n σ := by
  intro p e s m args below meth c H locs la C hH hS hl
  obtain ⟨ha8, h8, hN, hc⟩ := hH.2.2 a _ ha
  obtain ⟨z1, z2, z3⟩ := arr_in hi hN
  have hg := ks_ok C.2.2.2.2.2.2.2.2
  obtain ⟨ty, t1⟩ : ∃ C, (tysG g)[t]? = some (gcA g t, .object C) := by
    match t, h3, h7 with
    | 3, _, _ => exact ⟨_, rfl⟩
    | 4, _, _ => exact ⟨_, rfl⟩
    | 5, _, _ => exact ⟨_, rfl⟩
    | 6, _, _ => exact ⟨_, rfl⟩
  refine va_WaastN (C := ty) C.1 C.2.1 hc (((ks_K C.2.2.2.2.2.2.2.2).2 t _ t1).1 _ _) (fun q => by cases q) (by rw [arrV_size]; exact z1) rfl rfl hd (fun H1 e1 z oq => ?_)
  refine kk p e s m args below meth c H1 _ la C (hH.setP hg ha z oq ⟨h8, hN, ?_⟩) (vaS_put hg ha8.1 hS z oq) hl
  rw [e1, z2, arrV_store]
  congr 2
  funext q
  rw [evr_ref h3]
  by_cases hq : q = i.toNat
  · subst hq
    simp [updV, up1, rv, va_rf]
  · simp [updV, up1, hq, evr_ref h3]
theorem V_aast {g : Gl} {mi : MI} {R : Room} {QF : QFT} {pc : Nat} {ls : List (Option MV)} {st : List MV} {k n : Nat} {σ : St} {a t N b ci : Nat} {i : Int} (hd : decode mi.1 pc = .ok (.aastore, 1)) (ha : gl σ a = some (.inr (t, N))) (hi : 0 ≤ i ∧ i < N) (hb : gl σ b = some (.inl ci)) (ht : (t, ci) ∈ [(3, 6), (4, 3), (5, 0), (6, 6), (6, 3), (6, 0), (6, 9)])
    (kk : V g mi R QF (pc + 1) ls st k n (setP σ a (up1 (gP σ a) i.toNat (some b)))) : V g mi R QF pc ls (vq (some b) :: vi i :: vq (some a) :: st) k n σ := by
  intro p e s m args below meth c H locs la C hH hS hl
  obtain ⟨ha8, h8, hN, hc⟩ := hH.2.2 a _ ha
  obtain ⟨z1, z2, z3⟩ := arr_in hi hN
  have hKS := C.2.2.2.2.2.2.2.2
  have hg := ks_ok hKS
  have hK := ks_K hKS
  have hca : ∀ q ∈ caTbl, va_Nw (.castable q.1 q.2) s := hKS.2.2.2.2.2.2.2.1
  obtain ⟨-, r, h1, cell, q1, q2, q3, q4⟩ := hH.2.2 b _ hb
  have hcls := (hK.1 ci r h1).2
  obtain ⟨hfc, kC, hkC, hkind⟩ := id hcls
  obtain ⟨E, t1, h3, hasg⟩ : ∃ E, (tysG g)[t]? = some (gcA g t, .object E) ∧ 3 ≤ t ∧ ∀ comp : ClassId, s.vm.findClass E = some comp → s.vm.assignable ((gD g).1 ci) comp = true := by
    have self : ∀ comp : ClassId, s.vm.findClass r.1 = some comp → s.vm.assignable ((gD g).1 ci) comp = true := fun comp hcomp => by
      cases hfc.symm.trans hcomp
      exact va_assign hcls
    have up : ∀ comp : ClassId, (r.1, RX9) ∈ caTbl → s.vm.findClass RX9 = some comp → s.vm.assignable ((gD g).1 ci) comp = true := fun comp hm hcomp => by
      obtain ⟨c0, t0, f1, f2, f3⟩ := Cond.castable_spec (va_Nw.use (A := args) rfl (hca _ hm))
      cases hfc.symm.trans f1
      cases hcomp.symm.trans f2
      exact f3
    simp only [List.mem_cons, Prod.mk.injEq, List.not_mem_nil, or_false] at ht
    rcases ht with ⟨rfl, rfl⟩ | ⟨rfl, rfl⟩ | ⟨rfl, rfl⟩ | ⟨rfl, rfl⟩ | ⟨rfl, rfl⟩ | ⟨rfl, rfl⟩ | ⟨rfl, rfl⟩
    · cases h1; exact ⟨_, rfl, by decide, self⟩
    · cases h1; exact ⟨_, rfl, by decide, self⟩
    · cases h1; exact ⟨_, rfl, by decide, self⟩
    · cases h1; exact ⟨_, rfl, by decide, fun comp => up comp (by decide +kernel)⟩
    · cases h1; exact ⟨_, rfl, by decide, fun comp => up comp (by decide +kernel)⟩
    · cases h1; exact ⟨_, rfl, by decide, fun comp => up comp (by decide +kernel)⟩
    · cases h1; exact ⟨_, rfl, by decide, fun comp => up comp (by decide +kernel)⟩
  obtain ⟨kA, comp, k1, k2, k3, -⟩ := (hK.2 t _ t1).2
  obtain ⟨kcomp, hkcomp, -⟩ := Vm.findClass_spec k3
  refine W.aast C.1 C.2.1 hc (fun q h => by cases h) (fun h => by cases h) k1 k2 rfl hkcomp ⟨fun q => z1 (Or.inl q), by rw [arrV_size, z2]; exact z3⟩ q1 (fun q h => by rw [q3] at h; cases h) (by rw [q2]; exact hkC) (by rw [q2]; exact hasg comp k3) rfl rfl hd (fun H1 e1 z oq => ?_)
  refine kk p e s m args below meth c H1 _ la C (hH.setP hg ha z oq ⟨h8, hN, ?_⟩) (vaS_put hg ha8.1 hS z oq) hl
  rw [e1, z2, arrV_store]
  congr 2
  funext q
  rw [evr_ref h3]
  by_cases hq : q = i.toNat
  · subst hq
    simp [updV, up1, rv, va_rf]
  · simp [updV, up1, hq, evr_ref h3]
/-- arrays that nobody writes -/
theorem V_rold {g : Gl} {mi : MI} {R : Room} {QF : QFT} {pc : Nat} {ls : List (Option MV)} {st : List MV} {k n : Nat} {σ : St} {a : Nat} {i : Int} (hd : decode mi.1 pc = .ok (.iaload, 1)) (ha : a < 5) (hi : 0 ≤ i ∧ i < roN g a)
    (kk : V g mi R QF (pc + 1) ls (vi (roC g a i.toNat) :: st) k n σ) : V g mi R QF pc ls (vi i :: vq (some a) :: st) k n σ := by
  intro p e s m args below meth c H locs la C hH hS hl
  have hKS := C.2.2.2.2.2.2.2.2
  obtain ⟨cell, c1, c2, c3, c4, c5, c6, c7⟩ := hKS.2.2.2.2.2.1 a ha
  have hN : roN g a < 2147483648 := by
    have := hKS.2.1
    match a, ha with
    | 0, _ => exact (by decide : 4 < 2147483648)
    | 1, _ => exact (by decide : 4 < 2147483648)
    | 2, _ => exact (by decide : 5 < 2147483648)
    | 3, _ => exact (by decide : 4 < 2147483648)
    | 4, _ => show gL0 g < _; omega
  obtain ⟨z1, z2, z3⟩ := arr_in hi hN
  have hlt : gad g a < s.heap.size := (Array.getElem?_eq_some_iff.mp c1).1
  refine W.iald (v := .int (iI (roC g a i.toNat))) C.1 C.2.1 (by rw [hS.2.1 _ hlt c7]; exact c1) c2 c3 (fun q => z1 (q.imp id (fun h => Nat.le_trans c4 h))) (by rw [z2]; exact c6 _ z3) rfl rfl hd (kk p e s m args below meth c H locs la C hH hS hl)
theorem V_rolen {g : Gl} {mi : MI} {R : Room} {QF : QFT} {pc : Nat} {ls : List (Option MV)} {st : List MV} {k n : Nat} {σ : St} {a : Nat} (hd : decode mi.1 pc = .ok (.arraylength, 1)) (ha : a < 5)
    (kk : V g mi R QF (pc + 1) ls (vi (roN g a : Int) :: st) k n σ) : V g mi R QF pc ls (vq (some a) :: st) k n σ := by
  intro p e s m args below meth c H locs la C hH hS hl
  have hKS := C.2.2.2.2.2.2.2.2
  obtain ⟨cell, c1, c2, c3, c4, c5, c6, c7⟩ := hKS.2.2.2.2.2.1 a ha
  have hlt : gad g a < s.heap.size := (Array.getElem?_eq_some_iff.mp c1).1
  exact W.alen C.1 C.2.1 (by rw [hS.2.1 _ hlt c7]; exact c1) c2 c5 rfl rfl hd (kk p e s m args below meth c H locs la C hH hS hl)
theorem V_gets {g : Gl} {mi : MI} {R : Room} {QF : QFT} {pc : Nat} {ls : List (Option MV)} {st : List MV} {k n : Nat} {σ : St} {idx a : Nat} (hd : decode mi.1 pc = .ok (.getstatic idx, 3)) (ha : a < 4) (hlink : Cond.fieldLink mi.2.1.cls idx RX11 (roF a) "[I" ∈ gTbl)
    (kk : V g mi R QF (pc + 3) ls (vq (some a) :: st) k n σ) : V g mi R QF pc ls st k n σ := by
  intro p e s m args below meth c H locs la C hH hS hl
  have hKS := C.2.2.2.2.2.2.2.2
  exact va_gets C.1 C.2.1 (hKS.2.2.2.2.1 a ha) hS C.2.2.2.2.1 (C.2.2.2.2.2.2.1 _ hlink) (fun x h => h) hd (kk p e s m args below meth c H locs la C hH hS hl)
/-- a new place -/
theorem HR.add {g : Gl} {σ : St} {H H1 : Heap} {sh : Sh} (hg : GOK g) (h : HR g σ H) (hz : H1.size = H.size + 1) (hq : ∀ q : Nat, q < H.size → H1[q]? = H[q]?) (hc : cellR g (fun _ => 0) (fun _ => 0) (fun _ => none) H1 (gn σ) sh) : HR g (addC σ sh) H1 := by
  have h1 := hg.1 (gn σ) h.2.1
  have h2 := hg.1 (gn σ + 1) (by have := h.2.1; omega)
  have h8 := h.2.1
  refine ⟨?_, Nat.le_succ_of_le h.2.1, fun b shb hb => ?_⟩
  · show H1.size = gad g (gn σ + 1)
    rw [hz, h.1]; omega
  · by_cases e : b = gn σ
    · subst e
      have e0 : shb = sh := by
        have : gl (addC σ sh) (gn σ) = some sh := if_pos rfl
        exact (Option.some.inj (this.symm.trans hb)).symm
      subst e0
      refine ⟨⟨h8, Nat.lt_succ_self _⟩, ?_⟩
      have x1 : gG (addC σ shb) (gn σ) = fun _ => 0 := if_pos rfl
      have x2 : gL (addC σ shb) (gn σ) = fun _ => 0 := if_pos rfl
      have x3 : gP (addC σ shb) (gn σ) = fun _ => none := if_pos rfl
      rw [x1, x2, x3]
      exact hc
    · have hb' : gl σ b = some shb := by
        have : gl (addC σ sh) b = gl σ b := if_neg e
        exact this.symm.trans hb
      obtain ⟨y1, y2⟩ := h.2.2 b shb hb'
      refine ⟨⟨y1.1, Nat.lt_succ_of_lt y1.2⟩, ?_⟩
      have x1 : gG (addC σ sh) b = gG σ b := if_neg e
      have x2 : gL (addC σ sh) b = gL σ b := if_neg e
      have x3 : gP (addC σ sh) b = gP σ b := if_neg e
      rw [x1, x2, x3]
      have h3 := hg.1 b y1.1
      exact y2.kept (hq _ (by rw [h.1]; omega))
theorem vaS_add {g : Gl} {H0 H H1 : Heap} {locs : List Loc} (h : va_S (fun q => gbs g ≤ q) H0 H locs) (hz : H.size ≤ H1.size) (hq : ∀ q : Nat, q < H.size → H1[q]? = H[q]?) : va_S (fun q => gbs g ≤ q) H0 H1 locs :=
  ⟨Nat.le_trans h.1 hz, fun x h1 h2 => (hq x (Nat.lt_of_lt_of_le h1 h.1)).trans (h.2.1 x h1 h2), h.2.2⟩
/-- class number ci can be made, by this link -/
def NC (own : String) (idx ci N : Nat) : Prop := ∃ r : vw_C, vwCl[ci]? = some r ∧ r.2.2 = N ∧ Cond.classLink own idx r.1 ∈ gTbl ∧ Cond.instantiable r.1 r.2.2 ∈ gTbl ∧ Cond.initialized r.1 ∈ gTbl ∧ (∀ w ∈ u_ws r.1 r.2.1 r.2.2, w ∈ gTbl) ∧ ∀ j, j < r.2.2 → (fk ci j = 0 → defaultValue (clsTy ci j) = .int 0) ∧ (¬ fk ci j = 0 → defaultValue (clsTy ci j) = .null)
theorem V_new {g : Gl} {mi : MI} {R : Room} {QF : QFT} {pc : Nat} {ls : List (Option MV)} {st : List MV} {k n : Nat} {σ : St} {idx ci N : Nat} (hd : decode mi.1 pc = .ok (.new idx, 3)) (hF : NC mi.2.1.cls idx ci N) (hk : k + 1 ≤ R.cells) (hn : n + N ≤ R.slots)
    (kk : V g mi R QF (pc + 3) ls (vq (some (gn σ)) :: st) (k + 1) (n + N) (addC σ (.inl ci))) : V g mi R QF pc ls st k n σ := by
  intro p e s m args below meth c H locs la C hH hS hl
  obtain ⟨r, h1, rfl, h3, h4, h5, h6, h7⟩ := hF
  have hKS := C.2.2.2.2.2.2.2.2
  have hK := ks_K hKS
  have hg := ks_ok hKS
  have hts := C.2.2.2.2.2.2.1
  have hKn := hK.1 ci _ h1
  obtain ⟨hc1, hc2⟩ := cls_ok ci _ h1
  refine W.newcK C.1 C.2.1 C.2.2.2.2.1 (hts _ h3) (hts _ h4) (hts _ h5) rfl hd hk hn hKn.2.1 hH.1 fun H1 kC hkC e1 z1 o1 => ?_
  rw [← hH.1] at z1 o1
  refine kk p e s m args below meth c H1 locs la C (hH.add hg z1 o1 ⟨r, h1, ?_⟩) (vaS_add hS (by omega) o1) hl
  refine (u_born (clsTy ci) hts h6 hKn hkC e1 hc1).to (fun j hj => ?_)
  obtain ⟨y1, y2⟩ := h7 j hj
  by_cases hf : fk ci j = 0
  · rw [y1 hf]; simp [fvr, hf, rv]; rfl
  · rw [y2 hf]; simp [fvr, hf, rv, va_rf]
theorem V_newa {g : Gl} {mi : MI} {R : Room} {QF : QFT} {pc : Nat} {ls : List (Option MV)} {st : List MV} {k n : Nat} {σ : St} {at' : ArrayType} {t N : Nat} (hd : decode mi.1 pc = .ok (.newarray at', 2)) (ht : (at', t) ∈ [(ArrayType.int, 0), (.long, 1), (.byte, 2)]) (hN : N < 100000) (hk : k + 1 ≤ R.cells) (hn : n + N ≤ R.slots)
    (kk : V g mi R QF (pc + 2) ls (vq (some (gn σ)) :: st) (k + 1) (n + N) (addC σ (.inr (t, N)))) : V g mi R QF pc ls (vi (N : Int) :: st) k n σ := by
  intro p e s m args below meth c H locs la C hH hS hl
  have hKS := C.2.2.2.2.2.2.2.2
  have hK := ks_K hKS
  have hg := ks_ok hKS
  have hts := C.2.2.2.2.2.2.1
  have hc : (iI (N : Int)).toNatClampNeg = N := by rw [iI_clamp (by omega) (by omega)]; omega
  have h0 : ¬ iI (N : Int) < 0 := fun q => by have := (iI_lt0 ⟨by omega, by omega⟩).mp q; omega
  have hw : Cond.arrayClass (newarray.typeOf at') ∈ gTbl := by
    simp only [List.mem_cons, Prod.mk.injEq, List.not_mem_nil, or_false] at ht
    rcases ht with ⟨rfl, -⟩ | ⟨rfl, -⟩ | ⟨rfl, -⟩ <;> decide +kernel
  have hb : N * componentBytes (newarray.typeOf at') ≤ 536870912 := by
    simp only [List.mem_cons, Prod.mk.injEq, List.not_mem_nil, or_false] at ht
    rcases ht with ⟨rfl, -⟩ | ⟨rfl, -⟩ | ⟨rfl, -⟩ <;> simp [newarray.typeOf, componentBytes] <;> omega
  refine va_newaK C.1 C.2.1 (hts _ hw) rfl hd rfl h0 hc hb hk hn hH.1 fun H1 cA e1 z1 o1 hAr hNm => ?_
  rw [← hH.1] at z1 o1
  refine kk p e s m args below meth c H1 locs la C (hH.add hg z1 o1 ?_) (vaS_add hS (by omega) o1) hl
  have key : t < 8 ∧ cA = gcA g t ∧ (fun (_ : Nat) => defaultValue (newarray.typeOf at')) = fun j => rv g (evr t (fun _ => 0) (fun _ => 0) (fun _ => none) j) := by
    simp only [List.mem_cons, Prod.mk.injEq, List.not_mem_nil, or_false] at ht
    rcases ht with ⟨rfl, rfl⟩ | ⟨rfl, rfl⟩ | ⟨rfl, rfl⟩
    · exact ⟨by decide, Option.some.inj (hNm.symm.trans (hK.2 0 _ rfl).2), rfl⟩
    · exact ⟨by decide, Option.some.inj (hNm.symm.trans (hK.2 1 _ rfl).2), rfl⟩
    · exact ⟨by decide, Option.some.inj (hNm.symm.trans (hK.2 2 _ rfl).2), rfl⟩
  refine ⟨key.1, by omega, ?_⟩
  rw [e1, key.2.1, key.2.2]
theorem V_anew {g : Gl} {mi : MI} {R : Room} {QF : QFT} {pc : Nat} {ls : List (Option MV)} {st : List MV} {k n : Nat} {σ : St} {idx : Nat} {E : String} {t N : Nat} (hd : decode mi.1 pc = .ok (.anewarray idx, 3)) (ht : (E, t) ∈ [(RX6, 3), (RX3, 4), (RX0, 5), (RX9, 6)]) (hlink : Cond.classLink mi.2.1.cls idx E ∈ gTbl) (hN : N < 100000) (hk : k + 1 ≤ R.cells) (hn : n + N ≤ R.slots)
    (kk : V g mi R QF (pc + 3) ls (vq (some (gn σ)) :: st) (k + 1) (n + N) (addC σ (.inr (t, N)))) : V g mi R QF pc ls (vi (N : Int) :: st) k n σ := by
  intro p e s m args below meth c H locs la C hH hS hl
  have hKS := C.2.2.2.2.2.2.2.2
  have hK := ks_K hKS
  have hg := ks_ok hKS
  have hts := C.2.2.2.2.2.2.1
  have hc : (iI (N : Int)).toNatClampNeg = N := by rw [iI_clamp (by omega) (by omega)]; omega
  have h0 : ¬ iI (N : Int) < 0 := fun q => by have := (iI_lt0 ⟨by omega, by omega⟩).mp q; omega
  have hao : va_AO E s := hKS.2.2.2.2.2.2.2.2.2.1 E (by
    simp only [List.mem_cons, Prod.mk.injEq, List.not_mem_nil, or_false] at ht
    rcases ht with ⟨rfl, -⟩ | ⟨rfl, -⟩ | ⟨rfl, -⟩ | ⟨rfl, -⟩ <;> simp [aoTbl])
  refine W.anew C.1 C.2.1 C.2.2.2.2.1 (hts _ hlink) (va_AO.use hao) rfl hd rfl h0 (by rw [hc]; omega) hk (by rw [hc]; exact hn) fun cA kA comp f1 f2 f3 f4 => ?_
  rw [hc]
  generalize hH1 : H.push ({ cls := cA, slots := Array.replicate N .null, vm := .none } : Cell) = H1
  have z1 : H1.size = H.size + 1 := by rw [← hH1, Array.size_push]
  have e1 : H1[H.size]? = some (arrV cA N (fun _ => .null)) := by rw [← hH1, Array.getElem?_push_size, ← arrV_new]
  have o1 : ∀ q : Nat, q < H.size → H1[q]? = H[q]? := fun q hq => by rw [← hH1, Array.getElem?_push, if_neg (Nat.ne_of_lt hq)]
  have hsz := hH.1
  rw [hsz]
  refine kk p e s m args below meth c H1 locs la C (hH.add hg z1 o1 ?_) (vaS_add hS (by omega) o1) hl
  have key : t < 8 ∧ cA = gcA g t ∧ (fun (_ : Nat) => Value.null) = fun j => rv g (evr t (fun _ => 0) (fun _ => 0) (fun _ => none) j) := by
    simp only [List.mem_cons, Prod.mk.injEq, List.not_mem_nil, or_false] at ht
    rcases ht with ⟨rfl, rfl⟩ | ⟨rfl, rfl⟩ | ⟨rfl, rfl⟩ | ⟨rfl, rfl⟩
    · obtain ⟨_, _, _, _, _, x⟩ := (hK.2 3 _ rfl).2
      exact ⟨by decide, Option.some.inj (f1.symm.trans x), rfl⟩
    · obtain ⟨_, _, _, _, _, x⟩ := (hK.2 4 _ rfl).2
      exact ⟨by decide, Option.some.inj (f1.symm.trans x), rfl⟩
    · obtain ⟨_, _, _, _, _, x⟩ := (hK.2 5 _ rfl).2
      exact ⟨by decide, Option.some.inj (f1.symm.trans x), rfl⟩
    · obtain ⟨_, _, _, _, _, x⟩ := (hK.2 6 _ rfl).2
      exact ⟨by decide, Option.some.inj (f1.symm.trans x), rfl⟩
  refine ⟨key.1, by omega, ?_⟩
  rw [← hsz, e1, key.2.1, key.2.2]
end
section
/-! returns, contracts, calls -/
theorem aoA_moved {u U : State} (hvm : u.vm.Alike U.vm) (h : va_Nw (.arrayOver (.array .int)) u) : va_Nw (.arrayOver (.array .int)) U := by
  have h1 : (Cond.arrayOver (.array .int)).before #[] (u.setVm U.vm) = true := by rw [Cond.arrayOver_setVmC hvm]; exact h
  simp only [Cond.before, Cond.holds, Cond.value] at h1
  simp only [va_Nw, Cond.before, Cond.holds, Cond.value]
  exact h1
theorem KS.same {g : Gl} {u U : State} (hv : u.vm = U.vm) (hh : U.heap = u.heap) (h : KS g u) : KS g U := by
  obtain ⟨h1, h2, h3, h4, h5, h6, h7, h8, h9, h10, h11, h12⟩ := h
  have hvm : u.vm.Alike U.vm := by rw [hv]; exact Vm.Alike.refl _
  refine ⟨h1, h2, by rw [hh]; exact h3, h4.moved hvm, fun a ha => ?_, fun a ha => ?_, fun q hq => (h7 q hq).same rfl hv, fun q hq => (h8 q hq).same rfl hv, fun q hq => (h9 q hq).moved hvm, fun q hq => (h10 q hq).moved hvm, aoA_moved hvm h11, h12.same rfl hv⟩
  · rw [hh]; exact (h5 a ha).moved hvm
  · rw [hh]; exact (h6 a ha).moved hvm
theorem KS.warm {g : Gl} {s U : State} (hW : s.WarmedH U.vm) (hz : s.heap.size ≤ U.heap.size) (hq : ∀ q : Nat, q < s.heap.size → ¬ gbs g ≤ q → U.heap[q]? = s.heap[q]?) (h : KS g s) : KS g U := by
  obtain ⟨h1, h2, h3, h4, h5, h6, h7, h8, h9, h10, h11, h12⟩ := h
  have hvm : s.vm.Alike U.vm := hW.alike
  refine ⟨h1, h2, Nat.le_trans h3 hz, h4.moved hvm, fun a ha => ?_, fun a ha => ?_, fun q hq => (h7 q hq).warmM hW, fun q hq => (h8 q hq).warmC hW, fun q hq => (h9 q hq).moved hvm, fun q hq => (h10 q hq).moved hvm, ?_, h12.warmD hW⟩
  · exact va_Z.moved hvm ((h5 a ha).kept hq)
  · exact va_T.moved hvm ((h6 a ha).kept hq)
  · exact aoA_moved hvm h11
theorem RelU.blind {g : Gl} {σ : St} {As : List Value} : FrameBlind (va_Pc As (RelU g σ)) := fun a U gf mk q => ⟨q.1, q.2.1.same rfl rfl, q.2.2⟩
theorem RelU.of {g : Gl} {σ : St} {s : State} {H : Heap} {locs : List Loc} (hK : KS g s) (hH : HR g σ H) (hS : va_S (fun q => gbs g ≤ q) s.heap H locs) (U : State) (hU : U.heap = H) (hW : s.WarmedH U.vm) : RelU g σ U :=
  ⟨hK.warm hW (by rw [hU]; exact hS.1) (by rw [hU]; exact hS.2.1), by rw [hU]; exact hH⟩
theorem V_iret {g : Gl} {mi : MI} {R : Room} {mc ms pc k n : Nat} {ls : List (Option MV)} {σ : St} {post : Option MV → St → Prop} {z : Int} (hd : decode mi.1 pc = .ok (.ireturn, 1)) (hr : mi.2.2.2 = some .int) (hk : k ≤ mc) (hn : n ≤ ms) (hp : post (some (vi z)) σ) : V g mi R (QM g mc ms post) pc ls [vi z] k n σ := by
  intro p e s m args below meth c H locs la C hH hS hl
  refine W.widen hk hn ?_
  exact W.iret (v := iI z) C.1 C.2.1 (C.2.2.2.1.trans hr) (fun t ht hW => ⟨⟨some (vi z), σ, rfl, hp, by rw [ht]; exact hH⟩, hS.F ht⟩) hS.2.2 hd C.2.2.2.2.2.2.2.1
theorem V_zret {g : Gl} {mi : MI} {R : Room} {mc ms pc k n : Nat} {ls : List (Option MV)} {σ : St} {post : Option MV → St → Prop} {z : Int} (hd : decode mi.1 pc = .ok (.ireturn, 1)) (hr : mi.2.2.2 = some .boolean) (hk : k ≤ mc) (hn : n ≤ ms) (hz : z = 0 ∨ z = 1) (hp : post (some (vi z)) σ) : V g mi R (QM g mc ms post) pc ls [vi z] k n σ := by
  intro p e s m args below meth c H locs la C hH hS hl
  refine W.widen hk hn ?_
  exact W.zret (v := iI z) C.1 C.2.1 (C.2.2.2.1.trans hr) (by rcases hz with rfl | rfl <;> rfl) (fun t ht hW => ⟨⟨some (vi z), σ, rfl, hp, by rw [ht]; exact hH⟩, hS.F ht⟩) hS.2.2 hd C.2.2.2.2.2.2.2.1
theorem V_lret {g : Gl} {mi : MI} {R : Room} {mc ms pc k n : Nat} {ls : List (Option MV)} {σ : St} {post : Option MV → St → Prop} {z : Int64} (hd : decode mi.1 pc = .ok (.lreturn, 1)) (hr : mi.2.2.2 = some .long) (hk : k ≤ mc) (hn : n ≤ ms) (hp : post (some (vl z)) σ) : V g mi R (QM g mc ms post) pc ls [vl z] k n σ := by
  intro p e s m args below meth c H locs la C hH hS hl
  refine W.widen hk hn ?_
  exact W.lret (v := z) C.1 C.2.1 (C.2.2.2.1.trans hr) (fun t ht hW => ⟨⟨some (vl z), σ, rfl, hp, by rw [ht]; exact hH⟩, hS.F ht⟩) hS.2.2 hd C.2.2.2.2.2.2.2.1
theorem V_vret {g : Gl} {mi : MI} {R : Room} {mc ms pc k n : Nat} {ls : List (Option MV)} {σ : St} {post : Option MV → St → Prop} (hd : decode mi.1 pc = .ok (.return_, 1)) (hr : mi.2.2.2 = none) (hk : k ≤ mc) (hn : n ≤ ms) (hp : post none σ) : V g mi R (QM g mc ms post) pc ls [] k n σ := by
  intro p e s m args below meth c H locs la C hH hS hl
  refine W.widen hk hn ?_
  exact W.vret C.1 C.2.1 (C.2.2.2.1.trans hr) (fun t ht hW => ⟨⟨none, σ, rfl, hp, by rw [ht]; exact hH⟩, hS.F ht⟩) hS.2.2 hd C.2.2.2.2.2.2.2.1
theorem V_aret {g : Gl} {mi : MI} {R : Room} {mc ms pc k n : Nat} {ls : List (Option MV)} {σ : St} {post : Option MV → St → Prop} {r : Option Nat} {C0 : String} (hd : decode mi.1 pc = .ok (.areturn, 1)) (hr : mi.2.2.2 = some (.object C0)) (hk : k ≤ mc) (hn : n ≤ ms) (hp : post (some (vq r)) σ) : V g mi R (QM g mc ms post) pc ls [vq r] k n σ := by
  intro p e s m args below meth c H locs la C hH hS hl
  refine W.widen hk hn ?_
  exact W.aret (v := rv g (vq r)) C.1 C.2.1 (C.2.2.2.1.trans hr) (Or.inl ⟨_, rfl⟩) (by cases r; exact Or.inl rfl; exact Or.inr ⟨_, rfl⟩) (fun t ht hW => ⟨⟨some (vq r), σ, rfl, hp, by rw [ht]; exact hH⟩, hS.F ht⟩) hS.2.2 hd C.2.2.2.2.2.2.2.1
/-- a contract out of the walk of the body -/
theorem Ct.of {g : Gl} {mi : MI} {d mc ms : Nat} {As : List MV} {σ : St} {post : Option MV → St → Prop} (hy : plainName mi.2.1.cls = true) (hlen : (entL As).length ≤ mi.2.2.1) (h : V g mi (rmD d mc ms) (QM g mc ms post) 0 (padL mi.2.2.1 (entL As)) [] 0 0 σ) : Ct g mi d mc ms As σ post := by
  refine Met.ofW (cc := mi.1) (maxL := mi.2.2.1) (ret := mi.2.2.2) hy rfl ?_
  intro p e s m args below meth c s₁ B hml hv
  obtain ⟨rfl, hKS, hHR⟩ := hv
  have hts0 := atoms_spec (ws := Cond.code mi.2.1 mi.1 mi.2.2.1 mi.2.2.2 :: gTbl) B.pre
  have hl := lv_entry (As.map (rv g)) (n := mi.2.2.1) (by rw [entL_len]; exact hlen)
  rw [lg_entry_eq]
  generalize (lg_sl (As.map (rv g)) ++ List.replicate (mi.2.2.1 - (lg_sl (As.map (rv g))).length) Slot.unset).toArray = la at hl ⊢
  refine h p e s m _ below meth c s.heap [] la ⟨B.exec, B.bytes, hml, B.returns, findClass_of_methodNamed B.named, (name_of_methodNamed B.named B.method).1, fun w hw => hts0 w (List.mem_cons_of_mem _ hw), B.notSynchronized, hKS⟩ hHR va_S.rf ?_
  unfold padL
  rw [lvl_app_none, lvl_ent]
  exact hl
/-- what the tables say of a method -/
def CS (my : MI) (np : Nat) : Prop := Cond.code my.2.1 my.1 my.2.2.1 my.2.2.2 ∈ gTbl ∧ Cond.initialized my.2.1.cls ∈ gTbl ∧ (my.2.1.cls ≠ "java/lang/invoke/MethodHandle" ∧ my.2.1.cls ≠ "java/lang/invoke/VarHandle") ∧ (parseMethodDescriptor my.2.1.desc).map (fun d => d.parameters.length) = some np ∧ my.2.2.1 ≤ 22
theorem gTbl_good {my : MI} (h : Cond.code my.2.1 my.1 my.2.2.1 my.2.2.2 ∈ gTbl) : GoodIn gTbl (Cond.code my.2.1 my.1 my.2.2.1 my.2.2.2 :: gTbl) := by
  intro w hw
  have hm : w ∈ gTbl := by
    rcases List.mem_cons.mp hw with e | e
    · rw [e]; exact h
    · exact e
  exact ⟨hm, good_of_word (List.mem_filter.mp hm).2⟩
theorem np_of {my : MI} {np : Nat} (h : CS my np) : ∀ sig, parseMethodDescriptor my.2.1.desc = some sig → np = sig.parameters.length := by
  intro sig hs
  have h2 := h.2.2.2.1
  rw [hs] at h2
  exact (Option.some.inj h2).symm
/-- behind a call -/
theorem V_back {g : Gl} {mi : MI} {R : Room} {QF : QFT} {pc : Nat} {ls : List (Option MV)} {st : List MV} {k n mc ms : Nat} {post : Option MV → St → Prop} {p : Program} {e : Env} {s : State} {m : MethodId} {args : Array Value} {below : List Frame} {meth : Method} {c : Code} {H : Heap} {locs : List Loc} {la : Array Slot} {stk : List Value} {av : Array Value}
    (C : Cx g mi p s m args meth c) (hS : va_S (fun q => gbs g ≤ q) s.heap H locs) (hl : lv_has la mi.2.2.1 (lvl g 0 ls))
    (hr : va_Run p g.1 e R s m args below meth c H locs k n mc ms (F0 m pc la stk) (st.map (rv g)) (QcP g post av) (fun q => gbs g ≤ q))
    (kk : ∀ (r : Option MV) (σ' : St), post r σ' → V g mi R QF (pc + 3) ls (r.toList ++ st) (k + mc) (n + ms) σ') : W p g.1 e R s m args below meth c H locs k n (QF s args below) (F0 m pc la stk) := by
  intro T hT X
  obtain ⟨v, st₀, t, T', L, h0, X', hL, e1, e2, ⟨⟨r, σ', hv, hp, hHR⟩, hz, hkp⟩, stp⟩ := hr T hT X
  cases hv
  rw [h0] at hz hkp
  have hS1 : va_S (fun q => gbs g ≤ q) s.heap T'.heap (locs ++ L) := ⟨Nat.le_trans hS.1 (by rw [e1]; exact hz), fun q h1 h2 => by rw [e1, hkp q (Nat.lt_of_lt_of_le h1 hS.1) h2]; exact hS.2.1 q h1 h2, fun q hq => by
      rcases List.mem_append.mp hq with h | h
      · exact hS.2.2 q h
      · exact hL q h⟩
  obtain ⟨t2, a1, b1⟩ := kk r σ' hp p e s m args below meth c T'.heap (locs ++ L) la C (by rw [e1]; exact hHR) hS1 hl T' rfl X'
  refine ⟨t2, stp t2 ?_, b1⟩
  have e3 : (r.toList ++ st).map (rv g) = (r.map (rv g)).toList ++ st.map (rv g) := by cases r <;> rfl
  rw [e3] at a1
  exact a1
/-- the room of a call -/
def CR (R : Room) (d k n mc ms : Nat) : Prop := (d + 1 ≤ R.frames ∧ 41 * (d + 1) ≤ R.locals) ∧ (k + mc ≤ R.cells ∧ n + ms ≤ R.slots)
def wds : List MV → Nat
  | [] => 0
  | .inr (.inl _) :: t => 2 + wds t
  | _ :: t => 1 + wds t
theorem wds_cat (g : Gl) : ∀ st : List MV, ((st.map (rv g)).map fun v => v.category).sum = wds st
  | [] => rfl
  | .inl z :: t => by
    show 1 + ((t.map (rv g)).map fun v => v.category).sum = 1 + wds t
    rw [wds_cat g t]
  | .inr (.inl x) :: t => by
    show 2 + ((t.map (rv g)).map fun v => v.category).sum = 2 + wds t
    rw [wds_cat g t]
  | .inr (.inr r) :: t => by
    show (rv g (vq r)).category + ((t.map (rv g)).map fun v => v.category).sum = 1 + wds t
    rw [wds_cat g t, rv_catq]
theorem map_rev (g : Gl) (As st : List MV) : (As.reverse ++ st).map (rv g) = (As.map (rv g)).reverse ++ st.map (rv g) := by
  rw [List.map_append, List.map_reverse]
theorem V_callS {g : Gl} {mi my : MI} {R : Room} {QF : QFT} {pc : Nat} {ls : List (Option MV)} {st stk : List MV} {k n d mc ms idx : Nat} {σ : St} {As : List MV} {post : Option MV → St → Prop} (hd : decode mi.1 pc = .ok (.invokestatic idx, 3)) (hM : Ct g my d mc ms As σ post)
    (hc : CS my As.length ∧ Cond.static my.2.1 ∈ gTbl ∧ (Cond.methodLink mi.2.1.cls idx my.2.1 ∈ gTbl ∨ (mi.2.1.cls, idx, my.2.1) ∈ mnTbl)) (hst : stk = As.reverse ++ st) (hR : CR R d k n mc ms) (hw : wds st ≤ 8)
    (kk : ∀ (r : Option MV) (σ' : St), post r σ' → V g mi R QF (pc + 3) ls (r.toList ++ st) (k + mc) (n + ms) σ') : V g mi R QF pc ls stk k n σ := by
  intro p e s m args below meth c H locs la C hH hS hl
  subst hst
  have hKS := C.2.2.2.2.2.2.2.2
  have hts := C.2.2.2.2.2.2.1
  have h5 := hc.1.2.2.2.2
  have hlo : 8 + (my.2.2.1 + 11) + (rmD d mc ms).locals ≤ R.locals := by
    have := hR.1.2
    show 8 + (my.2.2.1 + 11) + 41 * d ≤ R.locals
    omega
  refine V_back (av := (As.map (rv g)).toArray) C hS hl ?_ kk
  rw [map_rev]
  rcases hc.2.2 with hlk | hlk
  · refine va_runS (As := As.map (rv g)) (rest := st.map (rv g)) ⟨C.1, C.2.1, C.2.2.1, C.2.2.2.2.1, hts⟩ hM (n := As.length) ⟨⟨rfl, rfl, hR.1.1, hlo, pay_in hts (gTbl_good hc.1.1), List.mem_cons_self, hts _ hc.1.1, hts _ hc.1.2.1, hc.1.2.2.1, np_of hc.1, hts _ hlk⟩, hts _ hc.2.1⟩ ⟨RelU.blind, fun U hU hW => ⟨rfl, RelU.of hKS hH hS U hU hW⟩⟩ rfl (by simp) hl.1 rfl ?_ hd hR.2
    show 2 * 0 + _ ≤ 8
    rw [wds_cat]; omega
  · refine va_runSN (host := RX11) (As := As.map (rv g)) (rest := st.map (rv g)) ⟨C.1, C.2.1, C.2.2.1, C.2.2.2.2.1, hts⟩ hM (n := As.length) ⟨⟨⟨rfl, rfl, hR.1.1, hlo, pay_in hts (gTbl_good hc.1.1), List.mem_cons_self⟩, hts _ hc.1.1, hts _ hc.1.2.1, hc.1.2.2.1, np_of hc.1, va_Nw.use rfl (hKS.2.2.2.2.2.2.1 _ hlk)⟩, hts _ hc.2.1, trivial⟩ ⟨RelU.blind, fun U hU hW => ⟨rfl, RelU.of hKS hH hS U hU hW⟩⟩ rfl (by simp) hl.1 rfl ?_ hd hR.2
    show 2 * 0 + _ ≤ 8
    rw [wds_cat]; omega
theorem V_callV {g : Gl} {mi my : MI} {R : Room} {QF : QFT} {pc : Nat} {ls : List (Option MV)} {st stk : List MV} {k n d mc ms idx a ci : Nat} {σ : St} {As : List MV} {post : Option MV → St → Prop} (hd : decode mi.1 pc = .ok (.invokevirtual idx, 3)) (hM : Ct g my d mc ms (vq (some a) :: As) σ post)
    (hc : CS my As.length ∧ Cond.instanceMethod my.2.1 ∈ gTbl ∧ Cond.methodLink mi.2.1.cls idx my.2.1 ∈ gTbl ∧ Cond.selects my.2.1.cls my.2.1 my.2.1 ∈ gTbl ∧ ∃ r, vwCl[ci]? = some r ∧ r.1 = my.2.1.cls) (ha : gl σ a = some (.inl ci)) (hst : stk = As.reverse ++ vq (some a) :: st) (hR : CR R d k n mc ms) (hw : wds st ≤ 8)
    (kk : ∀ (r : Option MV) (σ' : St), post r σ' → V g mi R QF (pc + 3) ls (r.toList ++ st) (k + mc) (n + ms) σ') : V g mi R QF pc ls stk k n σ := by
  intro p e s m args below meth c H locs la C hH hS hl
  subst hst
  have hKS := C.2.2.2.2.2.2.2.2
  have hts := C.2.2.2.2.2.2.1
  have h5 := hc.1.2.2.2.2
  have hlo : 8 + (my.2.2.1 + 11) + (rmD d mc ms).locals ≤ R.locals := by
    have := hR.1.2
    show 8 + (my.2.2.1 + 11) + 41 * d ≤ R.locals
    omega
  obtain ⟨r, hr1, hr2⟩ := hc.2.2.2.2
  obtain ⟨-, r', hr3, cell, q1, q2, q3, -⟩ := hH.2.2 a _ ha
  cases hr1.symm.trans hr3
  have hcl := (ks_K hKS).1 ci r hr1
  refine V_back (av := (Value.ref (gad g a) :: As.map (rv g)).toArray) C hS hl ?_ kk
  rw [map_rev]
  refine va_runV (C := my.2.1.cls) (b := gad g a) (As := As.map (rv g)) (rest := st.map (rv g)) ⟨C.1, C.2.1, C.2.2.1, C.2.2.2.2.1, hts⟩ hM (n := As.length) ⟨⟨rfl, rfl, hR.1.1, hlo, pay_in hts (gTbl_good hc.1.1), List.mem_cons_self, hts _ hc.1.1, hts _ hc.1.2.1, hc.1.2.2.1, np_of hc.1, hts _ hc.2.2.1⟩, hts _ hc.2.1, hts _ hc.2.2.2.1⟩ ⟨RelU.blind, ⟨cell, q1, by rw [q3]; rfl, by rw [q2, ← hr2]; exact hcl.2.1⟩, fun U hU hW => ⟨rfl, RelU.of hKS hH hS U hU hW⟩⟩ rfl (by simp) hl.1 rfl ?_ hd hR.2
  show 2 * 0 + _ ≤ 8
  rw [wds_cat]; omega
/-- a constructor -/
theorem V_callI {g : Gl} {mi my : MI} {R : Room} {QF : QFT} {pc : Nat} {ls : List (Option MV)} {st stk : List MV} {k n d mc ms idx a : Nat} {σ : St} {As : List MV} {post : Option MV → St → Prop} (hd : decode mi.1 pc = .ok (.invokespecial idx, 3)) (hM : Ct g my d mc ms (vq (some a) :: As) σ post)
    (hc : CS my As.length ∧ my.2.2.2 = none ∧ my.2.1.name = "<init>" ∧ Cond.instanceMethod my.2.1 ∈ gTbl ∧ (Cond.methodLink mi.2.1.cls idx my.2.1 ∈ gTbl ∨ (mi.2.1.cls, idx, my.2.1) ∈ mnTbl)) (hst : stk = As.reverse ++ vq (some a) :: st) (hR : CR R d k n mc ms) (hw : wds st ≤ 8)
    (kk : ∀ (r : Option MV) (σ' : St), post r σ' → V g mi R QF (pc + 3) ls (r.toList ++ st) (k + mc) (n + ms) σ') : V g mi R QF pc ls stk k n σ := by
  intro p e s m args below meth c H locs la C hH hS hl
  subst hst
  have hKS := C.2.2.2.2.2.2.2.2
  have hts := C.2.2.2.2.2.2.1
  have h5 := hc.1.2.2.2.2
  have hlo : 8 + (my.2.2.1 + 11) + (rmD d mc ms).locals ≤ R.locals := by
    have := hR.1.2
    show 8 + (my.2.2.1 + 11) + 41 * d ≤ R.locals
    omega
  have hret := hc.2.1
  refine V_back (av := (Value.ref (gad g a) :: As.map (rv g)).toArray) C hS hl ?_ kk
  rw [map_rev]
  rcases hc.2.2.2.2 with hlk | hlk
  · refine va_runI (b := gad g a) (As := As.map (rv g)) (rest := st.map (rv g)) ⟨C.1, C.2.1, C.2.2.1, C.2.2.2.2.1, hts⟩ hM (n := As.length) (bytes := my.1) (maxL := my.2.2.1) ⟨⟨rfl, rfl, hR.1.1, hlo, pay_in hts (gTbl_good hc.1.1), by rw [← hret]; exact List.mem_cons_self, by rw [← hret]; exact hts _ hc.1.1, hts _ hc.1.2.1, hc.1.2.2.1, np_of hc.1, hts _ hlk⟩, hc.2.2.1, hts _ hc.2.2.2.1⟩ ⟨RelU.blind, fun U hU hW => ⟨rfl, RelU.of hKS hH hS U hU hW⟩⟩ rfl (by simp) hl.1 rfl ?_ hd hR.2
    show 2 * 0 + _ ≤ 8
    rw [wds_cat]; omega
  · refine va_runIN (host := RX11) (b := gad g a) (As := As.map (rv g)) (rest := st.map (rv g)) ⟨C.1, C.2.1, C.2.2.1, C.2.2.2.2.1, hts⟩ hM (n := As.length) (bytes := my.1) (maxL := my.2.2.1) ⟨⟨⟨rfl, rfl, hR.1.1, hlo, pay_in hts (gTbl_good hc.1.1), by rw [← hret]; exact List.mem_cons_self⟩, by rw [← hret]; exact hts _ hc.1.1, hts _ hc.1.2.1, hc.1.2.2.1, np_of hc.1, va_Nw.use rfl (hKS.2.2.2.2.2.2.1 _ hlk)⟩, hc.2.2.1, hts _ hc.2.2.2.1⟩ ⟨RelU.blind, fun U hU hW => ⟨rfl, RelU.of hKS hH hS U hU hW⟩⟩ rfl (by simp) hl.1 rfl ?_ hd hR.2
    show 2 * 0 + _ ≤ 8
    rw [wds_cat]; omega
theorem V_objInit {g : Gl} {mi : MI} {R : Room} {QF : QFT} {pc : Nat} {ls : List (Option MV)} {st : List MV} {k n idx a : Nat} {σ : St} (hd : decode mi.1 pc = .ok (.invokespecial idx, 3)) (hl0 : Cond.methodLink mi.2.1.cls idx objectInit ∈ gTbl) (hR : 1 ≤ R.frames ∧ 41 ≤ R.locals) (hw : wds st ≤ 8)
    (kk : V g mi R QF (pc + 3) ls st k n σ) : V g mi R QF pc ls (vq (some a) :: st) k n σ := by
  intro p e s m args below meth c H locs la C hH hS hl
  have hts := C.2.2.2.2.2.2.1
  refine W.objInit C.1 C.2.1 C.2.2.2.2.1 (hts _ hl0) (hts (.instanceMethod objectInit) (by decide +kernel)) (hts (.code objectInit ⟨#[0xb1]⟩ 1 none) (by decide +kernel)) rfl (by rw [C.2.2.1]; exact hl.1) rfl hd hR.1 ?_ (kk p e s m args below meth c H locs la C hH hS hl)
  show 2 * 0 + _ + 12 ≤ _
  rw [wds_cat]; omega
end
