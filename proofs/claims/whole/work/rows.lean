section
-- ===== PART A: goes FIRST, ahead of the names: the tables' words, and 'selects' of the private methods out of them =====
/-- a private method of a class that the tables say can be made, by its rows of tables_1 -/
def lw_okq (q : MethodName × Nat) : Prop := (q.1.cls ≠ "java/lang/invoke/MethodHandle" ∧ q.1.cls ≠ "java/lang/invoke/VarHandle") ∧ Cond.instantiable q.1.cls q.2 ∈ tables_1 ∧ Cond.privateMethod q.1 ∈ tables_1 ∧ Cond.instanceMethod q.1 ∈ tables_1
theorem lw_p0 : lw_okq (⟨"HoopYard", "isRingSet", "(I)Z"⟩, 10) := ⟨⟨by decide +kernel, by decide +kernel⟩, List.mem_of_getElem? (i := 19) (by decide +kernel), List.mem_of_getElem? (i := 441) (by decide +kernel), List.mem_of_getElem? (i := 442) (by decide +kernel)⟩
theorem lw_p1 : lw_okq (⟨"HoopYard$RingBench", "choose", "(LHoopYard$Stock;II)V"⟩, 6) := ⟨⟨by decide +kernel, by decide +kernel⟩, List.mem_of_getElem? (i := 130) (by decide +kernel), List.mem_of_getElem? (i := 453) (by decide +kernel), List.mem_of_getElem? (i := 454) (by decide +kernel)⟩
theorem lw_p2 : lw_okq (⟨"HoopYard$RingBench", "weigh", "(Z)V"⟩, 6) := ⟨⟨by decide +kernel, by decide +kernel⟩, List.mem_of_getElem? (i := 130) (by decide +kernel), List.mem_of_getElem? (i := 470) (by decide +kernel), List.mem_of_getElem? (i := 471) (by decide +kernel)⟩
theorem lw_p3 : lw_okq (⟨"HoopYard$RingBench", "allButFirst", "()I"⟩, 6) := ⟨⟨by decide +kernel, by decide +kernel⟩, List.mem_of_getElem? (i := 130) (by decide +kernel), List.mem_of_getElem? (i := 474) (by decide +kernel), List.mem_of_getElem? (i := 475) (by decide +kernel)⟩
theorem lw_p4 : lw_okq (⟨"HoopYard$RingBench", "leastOnward", "(IIZ)I"⟩, 6) := ⟨⟨by decide +kernel, by decide +kernel⟩, List.mem_of_getElem? (i := 130) (by decide +kernel), List.mem_of_getElem? (i := 481) (by decide +kernel), List.mem_of_getElem? (i := 482) (by decide +kernel)⟩
theorem lw_p5 : lw_okq (⟨"HoopYard$RingBench", "firstOfLeast", "(II)I"⟩, 6) := ⟨⟨by decide +kernel, by decide +kernel⟩, List.mem_of_getElem? (i := 130) (by decide +kernel), List.mem_of_getElem? (i := 492) (by decide +kernel), List.mem_of_getElem? (i := 493) (by decide +kernel)⟩
theorem lw_p6 : lw_okq (⟨"HoopYard$RingBench", "measureGaps", "(LHoopYard$Stock;)V"⟩, 6) := ⟨⟨by decide +kernel, by decide +kernel⟩, List.mem_of_getElem? (i := 130) (by decide +kernel), List.mem_of_getElem? (i := 496) (by decide +kernel), List.mem_of_getElem? (i := 497) (by decide +kernel)⟩
theorem lw_p7 : lw_okq (⟨"HoopYard", "ofResting", "(LHoopYard$Hoop;II)I"⟩, 10) := ⟨⟨by decide +kernel, by decide +kernel⟩, List.mem_of_getElem? (i := 19) (by decide +kernel), List.mem_of_getElem? (i := 566) (by decide +kernel), List.mem_of_getElem? (i := 567) (by decide +kernel)⟩
theorem lw_p8 : lw_okq (⟨"HoopYard$Cask", "addPress", "(LHoopYard$Hoop;II)V"⟩, 2) := ⟨⟨by decide +kernel, by decide +kernel⟩, List.mem_of_getElem? (i := 158) (by decide +kernel), List.mem_of_getElem? (i := 587) (by decide +kernel), List.mem_of_getElem? (i := 588) (by decide +kernel)⟩
theorem lw_p9 : lw_okq (⟨"HoopYard$Cask", "howManyWetWith", "(III)I"⟩, 2) := ⟨⟨by decide +kernel, by decide +kernel⟩, List.mem_of_getElem? (i := 158) (by decide +kernel), List.mem_of_getElem? (i := 633) (by decide +kernel), List.mem_of_getElem? (i := 634) (by decide +kernel)⟩
theorem lw_p10 : lw_okq (⟨"HoopYard$HeadBench", "leastOnward", "(I)I"⟩, 6) := ⟨⟨by decide +kernel, by decide +kernel⟩, List.mem_of_getElem? (i := 173) (by decide +kernel), List.mem_of_getElem? (i := 660) (by decide +kernel), List.mem_of_getElem? (i := 661) (by decide +kernel)⟩
theorem lw_p11 : lw_okq (⟨"HoopYard$HeadBench", "spentFrom", "(II)I"⟩, 6) := ⟨⟨by decide +kernel, by decide +kernel⟩, List.mem_of_getElem? (i := 173) (by decide +kernel), List.mem_of_getElem? (i := 665) (by decide +kernel), List.mem_of_getElem? (i := 666) (by decide +kernel)⟩
theorem lw_p12 : lw_okq (⟨"HoopYard$HeadBench", "firstOfLeast", "(I)I"⟩, 6) := ⟨⟨by decide +kernel, by decide +kernel⟩, List.mem_of_getElem? (i := 173) (by decide +kernel), List.mem_of_getElem? (i := 679) (by decide +kernel), List.mem_of_getElem? (i := 680) (by decide +kernel)⟩
theorem lw_p13 : lw_okq (⟨"HoopYard$HeadBench", "howManyOnward", "(I)I"⟩, 6) := ⟨⟨by decide +kernel, by decide +kernel⟩, List.mem_of_getElem? (i := 173) (by decide +kernel), List.mem_of_getElem? (i := 700) (by decide +kernel), List.mem_of_getElem? (i := 701) (by decide +kernel)⟩
theorem lw_p14 : lw_okq (⟨"HoopYard$Tape", "parseStatement", "(I)Z"⟩, 7) := ⟨⟨by decide +kernel, by decide +kernel⟩, List.mem_of_getElem? (i := 78) (by decide +kernel), List.mem_of_getElem? (i := 720) (by decide +kernel), List.mem_of_getElem? (i := 721) (by decide +kernel)⟩
theorem lw_p15 : lw_okq (⟨"HoopYard$Tape", "peek", "()I"⟩, 7) := ⟨⟨by decide +kernel, by decide +kernel⟩, List.mem_of_getElem? (i := 78) (by decide +kernel), List.mem_of_getElem? (i := 724) (by decide +kernel), List.mem_of_getElem? (i := 725) (by decide +kernel)⟩
def lw_privs_1 : List (MethodName × Nat) := [(⟨"HoopYard", "isRingSet", "(I)Z"⟩, 10), (⟨"HoopYard$RingBench", "choose", "(LHoopYard$Stock;II)V"⟩, 6), (⟨"HoopYard$RingBench", "weigh", "(Z)V"⟩, 6), (⟨"HoopYard$RingBench", "allButFirst", "()I"⟩, 6), (⟨"HoopYard$RingBench", "leastOnward", "(IIZ)I"⟩, 6), (⟨"HoopYard$RingBench", "firstOfLeast", "(II)I"⟩, 6), (⟨"HoopYard$RingBench", "measureGaps", "(LHoopYard$Stock;)V"⟩, 6), (⟨"HoopYard", "ofResting", "(LHoopYard$Hoop;II)I"⟩, 10), (⟨"HoopYard$Cask", "addPress", "(LHoopYard$Hoop;II)V"⟩, 2), (⟨"HoopYard$Cask", "howManyWetWith", "(III)I"⟩, 2), (⟨"HoopYard$HeadBench", "leastOnward", "(I)I"⟩, 6), (⟨"HoopYard$HeadBench", "spentFrom", "(II)I"⟩, 6), (⟨"HoopYard$HeadBench", "firstOfLeast", "(I)I"⟩, 6), (⟨"HoopYard$HeadBench", "howManyOnward", "(I)I"⟩, 6), (⟨"HoopYard$Tape", "parseStatement", "(I)Z"⟩, 7), (⟨"HoopYard$Tape", "peek", "()I"⟩, 7)]
theorem lw_r1 : ∀ q ∈ lw_privs_1, lw_okq q := List.forall_mem_cons.mpr ⟨lw_p0, List.forall_mem_cons.mpr ⟨lw_p1, List.forall_mem_cons.mpr ⟨lw_p2, List.forall_mem_cons.mpr ⟨lw_p3, List.forall_mem_cons.mpr ⟨lw_p4, List.forall_mem_cons.mpr ⟨lw_p5, List.forall_mem_cons.mpr ⟨lw_p6, List.forall_mem_cons.mpr ⟨lw_p7, List.forall_mem_cons.mpr ⟨lw_p8, List.forall_mem_cons.mpr ⟨lw_p9, List.forall_mem_cons.mpr ⟨lw_p10, List.forall_mem_cons.mpr ⟨lw_p11, List.forall_mem_cons.mpr ⟨lw_p12, List.forall_mem_cons.mpr ⟨lw_p13, List.forall_mem_cons.mpr ⟨lw_p14, List.forall_mem_cons.mpr ⟨lw_p15, fun _ h => absurd h List.not_mem_nil⟩⟩⟩⟩⟩⟩⟩⟩⟩⟩⟩⟩⟩⟩⟩⟩
theorem lw_p16 : lw_okq (⟨"HoopYard$Tape", "pass", "(I)Z"⟩, 7) := ⟨⟨by decide +kernel, by decide +kernel⟩, List.mem_of_getElem? (i := 78) (by decide +kernel), List.mem_of_getElem? (i := 731) (by decide +kernel), List.mem_of_getElem? (i := 732) (by decide +kernel)⟩
theorem lw_p17 : lw_okq (⟨"HoopYard$Tape", "parseNumber", "(II)Z"⟩, 7) := ⟨⟨by decide +kernel, by decide +kernel⟩, List.mem_of_getElem? (i := 78) (by decide +kernel), List.mem_of_getElem? (i := 735) (by decide +kernel), List.mem_of_getElem? (i := 736) (by decide +kernel)⟩
theorem lw_p18 : lw_okq (⟨"HoopYard", "trayOn", "(I)LHoopYard$Tray;"⟩, 10) := ⟨⟨by decide +kernel, by decide +kernel⟩, List.mem_of_getElem? (i := 19) (by decide +kernel), List.mem_of_getElem? (i := 837) (by decide +kernel), List.mem_of_getElem? (i := 838) (by decide +kernel)⟩
theorem lw_p19 : lw_okq (⟨"HoopYard", "lackOfTray", "(I)I"⟩, 10) := ⟨⟨by decide +kernel, by decide +kernel⟩, List.mem_of_getElem? (i := 19) (by decide +kernel), List.mem_of_getElem? (i := 841) (by decide +kernel), List.mem_of_getElem? (i := 842) (by decide +kernel)⟩
theorem lw_p20 : lw_okq (⟨"HoopYard", "lackForRing", "(III)I"⟩, 10) := ⟨⟨by decide +kernel, by decide +kernel⟩, List.mem_of_getElem? (i := 19) (by decide +kernel), List.mem_of_getElem? (i := 863) (by decide +kernel), List.mem_of_getElem? (i := 864) (by decide +kernel)⟩
theorem lw_p21 : lw_okq (⟨"HoopYardModel", "hasStave", "(I)Z"⟩, 30) := ⟨⟨by decide +kernel, by decide +kernel⟩, List.mem_of_getElem? (i := 901) (by decide +kernel), List.mem_of_getElem? (i := 1034) (by decide +kernel), List.mem_of_getElem? (i := 1035) (by decide +kernel)⟩
theorem lw_p22 : lw_okq (⟨"HoopYardModel", "countsOf", "(I)I"⟩, 30) := ⟨⟨by decide +kernel, by decide +kernel⟩, List.mem_of_getElem? (i := 901) (by decide +kernel), List.mem_of_getElem? (i := 1038) (by decide +kernel), List.mem_of_getElem? (i := 1039) (by decide +kernel)⟩
theorem lw_p23 : lw_okq (⟨"HoopYardModel", "edgeOf", "(I)I"⟩, 30) := ⟨⟨by decide +kernel, by decide +kernel⟩, List.mem_of_getElem? (i := 901) (by decide +kernel), List.mem_of_getElem? (i := 1043) (by decide +kernel), List.mem_of_getElem? (i := 1044) (by decide +kernel)⟩
theorem lw_p24 : lw_okq (⟨"HoopYardModel", "priceOf", "(I)I"⟩, 30) := ⟨⟨by decide +kernel, by decide +kernel⟩, List.mem_of_getElem? (i := 901) (by decide +kernel), List.mem_of_getElem? (i := 1047) (by decide +kernel), List.mem_of_getElem? (i := 1048) (by decide +kernel)⟩
theorem lw_p25 : lw_okq (⟨"HoopYardModel", "sagOf", "(I)I"⟩, 30) := ⟨⟨by decide +kernel, by decide +kernel⟩, List.mem_of_getElem? (i := 901) (by decide +kernel), List.mem_of_getElem? (i := 1051) (by decide +kernel), List.mem_of_getElem? (i := 1052) (by decide +kernel)⟩
theorem lw_p26 : lw_okq (⟨"HoopYardModel", "countsOfSet", "(I)I"⟩, 30) := ⟨⟨by decide +kernel, by decide +kernel⟩, List.mem_of_getElem? (i := 901) (by decide +kernel), List.mem_of_getElem? (i := 1070) (by decide +kernel), List.mem_of_getElem? (i := 1071) (by decide +kernel)⟩
theorem lw_p27 : lw_okq (⟨"HoopYardModel", "priceOfSet", "(I)I"⟩, 30) := ⟨⟨by decide +kernel, by decide +kernel⟩, List.mem_of_getElem? (i := 901) (by decide +kernel), List.mem_of_getElem? (i := 1074) (by decide +kernel), List.mem_of_getElem? (i := 1075) (by decide +kernel)⟩
theorem lw_p28 : lw_okq (⟨"HoopYardModel", "isSet", "(I)Z"⟩, 30) := ⟨⟨by decide +kernel, by decide +kernel⟩, List.mem_of_getElem? (i := 901) (by decide +kernel), List.mem_of_getElem? (i := 1093) (by decide +kernel), List.mem_of_getElem? (i := 1094) (by decide +kernel)⟩
theorem lw_p29 : lw_okq (⟨"HoopYardModel", "rounds", "(III)V"⟩, 30) := ⟨⟨by decide +kernel, by decide +kernel⟩, List.mem_of_getElem? (i := 901) (by decide +kernel), List.mem_of_getElem? (i := 1100) (by decide +kernel), List.mem_of_getElem? (i := 1101) (by decide +kernel)⟩
theorem lw_p30 : lw_okq (⟨"HoopYardModel", "goesRound", "(IIII)V"⟩, 30) := ⟨⟨by decide +kernel, by decide +kernel⟩, List.mem_of_getElem? (i := 901) (by decide +kernel), List.mem_of_getElem? (i := 1104) (by decide +kernel), List.mem_of_getElem? (i := 1105) (by decide +kernel)⟩
theorem lw_p31 : lw_okq (⟨"HoopYardModel", "leakOf", "([II)I"⟩, 30) := ⟨⟨by decide +kernel, by decide +kernel⟩, List.mem_of_getElem? (i := 901) (by decide +kernel), List.mem_of_getElem? (i := 1108) (by decide +kernel), List.mem_of_getElem? (i := 1109) (by decide +kernel)⟩
def lw_privs_2 : List (MethodName × Nat) := [(⟨"HoopYard$Tape", "pass", "(I)Z"⟩, 7), (⟨"HoopYard$Tape", "parseNumber", "(II)Z"⟩, 7), (⟨"HoopYard", "trayOn", "(I)LHoopYard$Tray;"⟩, 10), (⟨"HoopYard", "lackOfTray", "(I)I"⟩, 10), (⟨"HoopYard", "lackForRing", "(III)I"⟩, 10), (⟨"HoopYardModel", "hasStave", "(I)Z"⟩, 30), (⟨"HoopYardModel", "countsOf", "(I)I"⟩, 30), (⟨"HoopYardModel", "edgeOf", "(I)I"⟩, 30), (⟨"HoopYardModel", "priceOf", "(I)I"⟩, 30), (⟨"HoopYardModel", "sagOf", "(I)I"⟩, 30), (⟨"HoopYardModel", "countsOfSet", "(I)I"⟩, 30), (⟨"HoopYardModel", "priceOfSet", "(I)I"⟩, 30), (⟨"HoopYardModel", "isSet", "(I)Z"⟩, 30), (⟨"HoopYardModel", "rounds", "(III)V"⟩, 30), (⟨"HoopYardModel", "goesRound", "(IIII)V"⟩, 30), (⟨"HoopYardModel", "leakOf", "([II)I"⟩, 30)]
theorem lw_r2 : ∀ q ∈ lw_privs_2, lw_okq q := List.forall_mem_cons.mpr ⟨lw_p16, List.forall_mem_cons.mpr ⟨lw_p17, List.forall_mem_cons.mpr ⟨lw_p18, List.forall_mem_cons.mpr ⟨lw_p19, List.forall_mem_cons.mpr ⟨lw_p20, List.forall_mem_cons.mpr ⟨lw_p21, List.forall_mem_cons.mpr ⟨lw_p22, List.forall_mem_cons.mpr ⟨lw_p23, List.forall_mem_cons.mpr ⟨lw_p24, List.forall_mem_cons.mpr ⟨lw_p25, List.forall_mem_cons.mpr ⟨lw_p26, List.forall_mem_cons.mpr ⟨lw_p27, List.forall_mem_cons.mpr ⟨lw_p28, List.forall_mem_cons.mpr ⟨lw_p29, List.forall_mem_cons.mpr ⟨lw_p30, List.forall_mem_cons.mpr ⟨lw_p31, fun _ h => absurd h List.not_mem_nil⟩⟩⟩⟩⟩⟩⟩⟩⟩⟩⟩⟩⟩⟩⟩⟩
theorem lw_p32 : lw_okq (⟨"HoopYardModel", "gap", "([II)I"⟩, 30) := ⟨⟨by decide +kernel, by decide +kernel⟩, List.mem_of_getElem? (i := 901) (by decide +kernel), List.mem_of_getElem? (i := 1112) (by decide +kernel), List.mem_of_getElem? (i := 1113) (by decide +kernel)⟩
theorem lw_p33 : lw_okq (⟨"HoopYardModel", "isRing", "(I)Z"⟩, 30) := ⟨⟨by decide +kernel, by decide +kernel⟩, List.mem_of_getElem? (i := 901) (by decide +kernel), List.mem_of_getElem? (i := 1121) (by decide +kernel), List.mem_of_getElem? (i := 1122) (by decide +kernel)⟩
theorem lw_p34 : lw_okq (⟨"HoopYardModel", "girthAt", "(I)I"⟩, 30) := ⟨⟨by decide +kernel, by decide +kernel⟩, List.mem_of_getElem? (i := 901) (by decide +kernel), List.mem_of_getElem? (i := 1137) (by decide +kernel), List.mem_of_getElem? (i := 1138) (by decide +kernel)⟩
theorem lw_p35 : lw_okq (⟨"HoopYardModel", "hasHoop", "(I)Z"⟩, 30) := ⟨⟨by decide +kernel, by decide +kernel⟩, List.mem_of_getElem? (i := 901) (by decide +kernel), List.mem_of_getElem? (i := 1145) (by decide +kernel), List.mem_of_getElem? (i := 1146) (by decide +kernel)⟩
theorem lw_p36 : lw_okq (⟨"HoopYardModel", "settles", "()V"⟩, 30) := ⟨⟨by decide +kernel, by decide +kernel⟩, List.mem_of_getElem? (i := 901) (by decide +kernel), List.mem_of_getElem? (i := 1149) (by decide +kernel), List.mem_of_getElem? (i := 1150) (by decide +kernel)⟩
theorem lw_p37 : lw_okq (⟨"HoopYardModel", "gripOf", "(I)I"⟩, 30) := ⟨⟨by decide +kernel, by decide +kernel⟩, List.mem_of_getElem? (i := 901) (by decide +kernel), List.mem_of_getElem? (i := 1153) (by decide +kernel), List.mem_of_getElem? (i := 1154) (by decide +kernel)⟩
theorem lw_p38 : lw_okq (⟨"HoopYardModel", "pressOf", "(I)I"⟩, 30) := ⟨⟨by decide +kernel, by decide +kernel⟩, List.mem_of_getElem? (i := 901) (by decide +kernel), List.mem_of_getElem? (i := 1157) (by decide +kernel), List.mem_of_getElem? (i := 1158) (by decide +kernel)⟩
theorem lw_p39 : lw_okq (⟨"HoopYardModel", "pressAt", "(I)I"⟩, 30) := ⟨⟨by decide +kernel, by decide +kernel⟩, List.mem_of_getElem? (i := 901) (by decide +kernel), List.mem_of_getElem? (i := 1165) (by decide +kernel), List.mem_of_getElem? (i := 1166) (by decide +kernel)⟩
theorem lw_p40 : lw_okq (⟨"HoopYardModel", "wetNow", "()I"⟩, 30) := ⟨⟨by decide +kernel, by decide +kernel⟩, List.mem_of_getElem? (i := 901) (by decide +kernel), List.mem_of_getElem? (i := 1173) (by decide +kernel), List.mem_of_getElem? (i := 1174) (by decide +kernel)⟩
theorem lw_p41 : lw_okq (⟨"HoopYardModel", "saws", "(I)V"⟩, 30) := ⟨⟨by decide +kernel, by decide +kernel⟩, List.mem_of_getElem? (i := 901) (by decide +kernel), List.mem_of_getElem? (i := 1185) (by decide +kernel), List.mem_of_getElem? (i := 1186) (by decide +kernel)⟩
theorem lw_p42 : lw_okq (⟨"HoopYardModel", "goesOn", "(IIIII)V"⟩, 30) := ⟨⟨by decide +kernel, by decide +kernel⟩, List.mem_of_getElem? (i := 901) (by decide +kernel), List.mem_of_getElem? (i := 1189) (by decide +kernel), List.mem_of_getElem? (i := 1190) (by decide +kernel)⟩
theorem lw_p43 : lw_okq (⟨"HoopYardModel", "usedBy", "(III)I"⟩, 30) := ⟨⟨by decide +kernel, by decide +kernel⟩, List.mem_of_getElem? (i := 901) (by decide +kernel), List.mem_of_getElem? (i := 1193) (by decide +kernel), List.mem_of_getElem? (i := 1194) (by decide +kernel)⟩
theorem lw_p44 : lw_okq (⟨"HoopYardModel", "reads", "()V"⟩, 30) := ⟨⟨by decide +kernel, by decide +kernel⟩, List.mem_of_getElem? (i := 901) (by decide +kernel), List.mem_of_getElem? (i := 1213) (by decide +kernel), List.mem_of_getElem? (i := 1214) (by decide +kernel)⟩
theorem lw_p45 : lw_okq (⟨"HoopYardModel", "wrong", "()V"⟩, 30) := ⟨⟨by decide +kernel, by decide +kernel⟩, List.mem_of_getElem? (i := 901) (by decide +kernel), List.mem_of_getElem? (i := 1220) (by decide +kernel), List.mem_of_getElem? (i := 1221) (by decide +kernel)⟩
theorem lw_p46 : lw_okq (⟨"HoopYardModel", "isFrom", "(II)Z"⟩, 30) := ⟨⟨by decide +kernel, by decide +kernel⟩, List.mem_of_getElem? (i := 901) (by decide +kernel), List.mem_of_getElem? (i := 1224) (by decide +kernel), List.mem_of_getElem? (i := 1225) (by decide +kernel)⟩
theorem lw_p47 : lw_okq (⟨"HoopYardModel", "number", "()I"⟩, 30) := ⟨⟨by decide +kernel, by decide +kernel⟩, List.mem_of_getElem? (i := 901) (by decide +kernel), List.mem_of_getElem? (i := 1228) (by decide +kernel), List.mem_of_getElem? (i := 1229) (by decide +kernel)⟩
def lw_privs_3 : List (MethodName × Nat) := [(⟨"HoopYardModel", "gap", "([II)I"⟩, 30), (⟨"HoopYardModel", "isRing", "(I)Z"⟩, 30), (⟨"HoopYardModel", "girthAt", "(I)I"⟩, 30), (⟨"HoopYardModel", "hasHoop", "(I)Z"⟩, 30), (⟨"HoopYardModel", "settles", "()V"⟩, 30), (⟨"HoopYardModel", "gripOf", "(I)I"⟩, 30), (⟨"HoopYardModel", "pressOf", "(I)I"⟩, 30), (⟨"HoopYardModel", "pressAt", "(I)I"⟩, 30), (⟨"HoopYardModel", "wetNow", "()I"⟩, 30), (⟨"HoopYardModel", "saws", "(I)V"⟩, 30), (⟨"HoopYardModel", "goesOn", "(IIIII)V"⟩, 30), (⟨"HoopYardModel", "usedBy", "(III)I"⟩, 30), (⟨"HoopYardModel", "reads", "()V"⟩, 30), (⟨"HoopYardModel", "wrong", "()V"⟩, 30), (⟨"HoopYardModel", "isFrom", "(II)Z"⟩, 30), (⟨"HoopYardModel", "number", "()I"⟩, 30)]
theorem lw_r3 : ∀ q ∈ lw_privs_3, lw_okq q := List.forall_mem_cons.mpr ⟨lw_p32, List.forall_mem_cons.mpr ⟨lw_p33, List.forall_mem_cons.mpr ⟨lw_p34, List.forall_mem_cons.mpr ⟨lw_p35, List.forall_mem_cons.mpr ⟨lw_p36, List.forall_mem_cons.mpr ⟨lw_p37, List.forall_mem_cons.mpr ⟨lw_p38, List.forall_mem_cons.mpr ⟨lw_p39, List.forall_mem_cons.mpr ⟨lw_p40, List.forall_mem_cons.mpr ⟨lw_p41, List.forall_mem_cons.mpr ⟨lw_p42, List.forall_mem_cons.mpr ⟨lw_p43, List.forall_mem_cons.mpr ⟨lw_p44, List.forall_mem_cons.mpr ⟨lw_p45, List.forall_mem_cons.mpr ⟨lw_p46, List.forall_mem_cons.mpr ⟨lw_p47, fun _ h => absurd h List.not_mem_nil⟩⟩⟩⟩⟩⟩⟩⟩⟩⟩⟩⟩⟩⟩⟩⟩
theorem lw_p48 : lw_okq (⟨"HoopYardModel", "does", "(I)Z"⟩, 30) := ⟨⟨by decide +kernel, by decide +kernel⟩, List.mem_of_getElem? (i := 901) (by decide +kernel), List.mem_of_getElem? (i := 1235) (by decide +kernel), List.mem_of_getElem? (i := 1236) (by decide +kernel)⟩
theorem lw_p49 : lw_okq (⟨"HoopYardModel", "isNoTray", "(I)I"⟩, 30) := ⟨⟨by decide +kernel, by decide +kernel⟩, List.mem_of_getElem? (i := 901) (by decide +kernel), List.mem_of_getElem? (i := 1269) (by decide +kernel), List.mem_of_getElem? (i := 1270) (by decide +kernel)⟩
theorem lw_p50 : lw_okq (⟨"HoopYardModel", "lays", "(IIJ)V"⟩, 30) := ⟨⟨by decide +kernel, by decide +kernel⟩, List.mem_of_getElem? (i := 901) (by decide +kernel), List.mem_of_getElem? (i := 1273) (by decide +kernel), List.mem_of_getElem? (i := 1274) (by decide +kernel)⟩
def lw_privs_4 : List (MethodName × Nat) := [(⟨"HoopYardModel", "does", "(I)Z"⟩, 30), (⟨"HoopYardModel", "isNoTray", "(I)I"⟩, 30), (⟨"HoopYardModel", "lays", "(IIJ)V"⟩, 30)]
theorem lw_r4 : ∀ q ∈ lw_privs_4, lw_okq q := List.forall_mem_cons.mpr ⟨lw_p48, List.forall_mem_cons.mpr ⟨lw_p49, List.forall_mem_cons.mpr ⟨lw_p50, fun _ h => absurd h List.not_mem_nil⟩⟩⟩
def lw_privs : List (MethodName × Nat) := lw_privs_1 ++ (lw_privs_2 ++ (lw_privs_3 ++ (lw_privs_4)))
def lw_tbl : List Cond := k2_sels lw_privs ++ tables_1
theorem lw_privs_ok : ∀ q ∈ lw_privs, lw_okq q := by
  show ∀ q ∈ lw_privs_1 ++ (lw_privs_2 ++ (lw_privs_3 ++ (lw_privs_4))), lw_okq q
  exact List.forall_mem_append.mpr ⟨lw_r1, List.forall_mem_append.mpr ⟨lw_r2, List.forall_mem_append.mpr ⟨lw_r3, lw_r4⟩⟩⟩
def RX0 : String := "HoopYard$Board"
def TX0 : u_T := fun k => match k with
  | _ => ("HoopYard$Board", "width", "I", true)
def tyX0 : Nat → FieldType := fun k => match k with
  | _ => .int
abbrev wsX00 : List Cond := u_ws RX0 TX0 1
theorem nmX0 : ∀ a, a < 1 → ∀ b, b < 1 → a ≠ b → (TX0 a).2.1 ≠ (TX0 b).2.1 := by decide +kernel
theorem tyX0_ok : ∀ k, k < 1 → parseFieldDescriptor (TX0 k).2.2.1 = some (tyX0 k) := by decide +kernel
abbrev cX0_init : ByteArray := prog_2_method_1_code
def yX0_init : MethodName := ⟨RX0, "<init>", "(I)V"⟩
abbrev cX0_canBe : ByteArray := prog_2_method_2_code
def yX0_canBe : MethodName := ⟨RX0, "canBe", "(I)Z"⟩
abbrev cX0_toldAs : ByteArray := prog_2_method_3_code
def yX0_toldAs : MethodName := ⟨RX0, "toldAs", "()I"⟩
def RX1 : String := "HoopYard$Cask"
def TX1 : u_T := fun k => match k with
  | 0 => ("HoopYard$Cask", "depths", "[I", true)
  | _ => ("HoopYard$Cask", "pressing", "[I", true)
def tyX1 : Nat → FieldType := fun k => match k with
  | 0 => .array .int
  | _ => .array .int
abbrev wsX10 : List Cond := u_ws RX1 TX1 2
theorem nmX1 : ∀ a, a < 2 → ∀ b, b < 2 → a ≠ b → (TX1 a).2.1 ≠ (TX1 b).2.1 := by decide +kernel
theorem tyX1_ok : ∀ k, k < 2 → parseFieldDescriptor (TX1 k).2.2.1 = some (tyX1 k) := by decide +kernel
abbrev cX1_init : ByteArray := prog_3_method_1_code
def yX1_init : MethodName := ⟨RX1, "<init>", "()V"⟩
abbrev cX1_girthAt : ByteArray := prog_3_method_2_code
def yX1_girthAt : MethodName := ⟨RX1, "girthAt", "(LHoopYard$Stock;I)I"⟩
abbrev cX1_heightOf : ByteArray := prog_3_method_3_code
def yX1_heightOf : MethodName := ⟨RX1, "heightOf", "(II)I"⟩
abbrev cX1_drive : ByteArray := prog_3_method_4_code
def yX1_drive : MethodName := ⟨RX1, "drive", "(LHoopYard$Stock;)V"⟩
abbrev cX1_addPress : ByteArray := prog_3_method_5_code
def yX1_addPress : MethodName := ⟨RX1, "addPress", "(LHoopYard$Hoop;II)V"⟩
abbrev cX1_restDepth : ByteArray := prog_3_method_6_code
def yX1_restDepth : MethodName := ⟨RX1, "restDepth", "(LHoopYard$Stock;III)I"⟩
abbrev cX1_gripAt : ByteArray := prog_3_method_7_code
def yX1_gripAt : MethodName := ⟨RX1, "gripAt", "(LHoopYard$Stock;II)I"⟩
abbrev cX1_pressFrom : ByteArray := prog_3_method_8_code
def yX1_pressFrom : MethodName := ⟨RX1, "pressFrom", "(III)I"⟩
abbrev cX1_capped : ByteArray := prog_3_method_9_code
def yX1_capped : MethodName := ⟨RX1, "capped", "(I)I"⟩
abbrev cX1_wetBelow : ByteArray := prog_3_method_10_code
def yX1_wetBelow : MethodName := ⟨RX1, "wetBelow", "(I)I"⟩
abbrev cX1_driestSize : ByteArray := prog_3_method_11_code
def yX1_driestSize : MethodName := ⟨RX1, "driestSize", "(LHoopYard$Stock;II)I"⟩
abbrev cX1_howManyWetWith : ByteArray := prog_3_method_12_code
def yX1_howManyWetWith : MethodName := ⟨RX1, "howManyWetWith", "(III)I"⟩
def RX2 : String := "HoopYard$HeadBench"
def TX2 : u_T := fun k => match k with
  | 0 => ("HoopYard$HeadBench", "widths", "[I", true)
  | 1 => ("HoopYard$HeadBench", "row", "[I", true)
  | 2 => ("HoopYard$HeadBench", "ends", "[I", true)
  | 3 => ("HoopYard$HeadBench", "rest", "[I", true)
  | 4 => ("HoopYard$HeadBench", "boards", "I", false)
  | _ => ("HoopYard$HeadBench", "radius", "I", false)
def tyX2 : Nat → FieldType := fun k => match k with
  | 0 => .array .int
  | 1 => .array .int
  | 2 => .array .int
  | 3 => .array .int
  | 4 => .int
  | _ => .int
abbrev wsX20 : List Cond := u_ws RX2 TX2 6
theorem nmX2 : ∀ a, a < 6 → ∀ b, b < 6 → a ≠ b → (TX2 a).2.1 ≠ (TX2 b).2.1 := by decide +kernel
theorem tyX2_ok : ∀ k, k < 6 → parseFieldDescriptor (TX2 k).2.2.1 = some (tyX2 k) := by decide +kernel
abbrev cX2_init : ByteArray := prog_4_method_1_code
def yX2_init : MethodName := ⟨RX2, "<init>", "()V"⟩
abbrev cX2_measure : ByteArray := prog_4_method_2_code
def yX2_measure : MethodName := ⟨RX2, "measure", "(LHoopYard$Stock;I)V"⟩
abbrev cX2_isDone : ByteArray := prog_4_method_3_code
def yX2_isDone : MethodName := ⟨RX2, "isDone", "(I)Z"⟩
abbrev cX2_spentOn : ByteArray := prog_4_method_4_code
def yX2_spentOn : MethodName := ⟨RX2, "spentOn", "(II)I"⟩
abbrev cX2_leastSpent : ByteArray := prog_4_method_5_code
def yX2_leastSpent : MethodName := ⟨RX2, "leastSpent", "()I"⟩
abbrev cX2_leastOnward : ByteArray := prog_4_method_6_code
def yX2_leastOnward : MethodName := ⟨RX2, "leastOnward", "(I)I"⟩
abbrev cX2_spentFrom : ByteArray := prog_4_method_7_code
def yX2_spentFrom : MethodName := ⟨RX2, "spentFrom", "(II)I"⟩
abbrev cX2_leastDigits : ByteArray := prog_4_method_8_code
def yX2_leastDigits : MethodName := ⟨RX2, "leastDigits", "()I"⟩
abbrev cX2_firstOfLeast : ByteArray := prog_4_method_9_code
def yX2_firstOfLeast : MethodName := ⟨RX2, "firstOfLeast", "(I)I"⟩
abbrev cX2_spentBy : ByteArray := prog_4_method_10_code
def yX2_spentBy : MethodName := ⟨RX2, "spentBy", "(I)I"⟩
abbrev cX2_howMany : ByteArray := prog_4_method_11_code
def yX2_howMany : MethodName := ⟨RX2, "howMany", "()I"⟩
abbrev cX2_howManyOnward : ByteArray := prog_4_method_12_code
def yX2_howManyOnward : MethodName := ⟨RX2, "howManyOnward", "(I)I"⟩
def RX3 : String := "HoopYard$Hoop"
def TX3 : u_T := fun k => match k with
  | 0 => ("HoopYard$Hoop", "kind", "I", true)
  | 1 => ("HoopYard$Hoop", "size", "I", true)
  | _ => ("HoopYard$Hoop", "side", "I", true)
def tyX3 : Nat → FieldType := fun k => match k with
  | 0 => .int
  | 1 => .int
  | _ => .int
abbrev wsX30 : List Cond := u_ws RX3 TX3 3
theorem nmX3 : ∀ a, a < 3 → ∀ b, b < 3 → a ≠ b → (TX3 a).2.1 ≠ (TX3 b).2.1 := by decide +kernel
theorem tyX3_ok : ∀ k, k < 3 → parseFieldDescriptor (TX3 k).2.2.1 = some (tyX3 k) := by decide +kernel
abbrev cX3_init : ByteArray := prog_5_method_1_code
def yX3_init : MethodName := ⟨RX3, "<init>", "(III)V"⟩
abbrev cX3_canBe : ByteArray := prog_5_method_2_code
def yX3_canBe : MethodName := ⟨RX3, "canBe", "(III)Z"⟩
abbrev cX3_presses : ByteArray := prog_5_method_3_code
def yX3_presses : MethodName := ⟨RX3, "presses", "(II)I"⟩
abbrev cX3_toldAs : ByteArray := prog_5_method_4_code
def yX3_toldAs : MethodName := ⟨RX3, "toldAs", "()I"⟩
def RX4 : String := "HoopYard$RingBench"
def TX4 : u_T := fun k => match k with
  | 0 => ("HoopYard$RingBench", "chosen", "[I", true)
  | 1 => ("HoopYard$RingBench", "order", "[I", true)
  | 2 => ("HoopYard$RingBench", "gaps", "[I", true)
  | 3 => ("HoopYard$RingBench", "costs", "[[I", true)
  | 4 => ("HoopYard$RingBench", "onward", "[I", true)
  | _ => ("HoopYard$RingBench", "size", "I", false)
def tyX4 : Nat → FieldType := fun k => match k with
  | 0 => .array .int
  | 1 => .array .int
  | 2 => .array .int
  | 3 => .array (.array .int)
  | 4 => .array .int
  | _ => .int
abbrev wsX40 : List Cond := u_ws RX4 TX4 6
theorem nmX4 : ∀ a, a < 6 → ∀ b, b < 6 → a ≠ b → (TX4 a).2.1 ≠ (TX4 b).2.1 := by decide +kernel
theorem tyX4_ok : ∀ k, k < 6 → parseFieldDescriptor (TX4 k).2.2.1 = some (tyX4 k) := by decide +kernel
abbrev cX4_init : ByteArray := prog_6_method_1_code
def yX4_init : MethodName := ⟨RX4, "<init>", "()V"⟩
abbrev cX4_layTold : ByteArray := prog_6_method_2_code
def yX4_layTold : MethodName := ⟨RX4, "layTold", "(LHoopYard$Stock;I)Z"⟩
abbrev cX4_layLeast : ByteArray := prog_6_method_3_code
def yX4_layLeast : MethodName := ⟨RX4, "layLeast", "(LHoopYard$Stock;II)V"⟩
abbrev cX4_leakUnder : ByteArray := prog_6_method_4_code
def yX4_leakUnder : MethodName := ⟨RX4, "leakUnder", "(I)I"⟩
abbrev cX4_digits : ByteArray := prog_6_method_5_code
def yX4_digits : MethodName := ⟨RX4, "digits", "()I"⟩
abbrev cX4_jointOfRank : ByteArray := prog_6_method_6_code
def yX4_jointOfRank : MethodName := ⟨RX4, "jointOfRank", "(I)I"⟩
abbrev cX4_rankOf : ByteArray := prog_6_method_7_code
def yX4_rankOf : MethodName := ⟨RX4, "rankOf", "(I)I"⟩
abbrev cX4_howManyWithin : ByteArray := prog_6_method_8_code
def yX4_howManyWithin : MethodName := ⟨RX4, "howManyWithin", "(LHoopYard$Stock;III)I"⟩
abbrev cX4_tightPress : ByteArray := prog_6_method_9_code
def yX4_tightPress : MethodName := ⟨RX4, "tightPress", "(LHoopYard$Stock;I)I"⟩
abbrev cX4_measureGaps : ByteArray := prog_6_method_10_code
def yX4_measureGaps : MethodName := ⟨RX4, "measureGaps", "(LHoopYard$Stock;)V"⟩
abbrev cX4_gapOf : ByteArray := prog_6_method_11_code
def yX4_gapOf : MethodName := ⟨RX4, "gapOf", "(LHoopYard$Stock;II)I"⟩
abbrev cX4_edgeOf : ByteArray := prog_6_method_12_code
def yX4_edgeOf : MethodName := ⟨RX4, "edgeOf", "(LHoopYard$Stock;I)I"⟩
abbrev cX4_choose : ByteArray := prog_6_method_13_code
def yX4_choose : MethodName := ⟨RX4, "choose", "(LHoopYard$Stock;II)V"⟩
abbrev cX4_allButFirst : ByteArray := prog_6_method_14_code
def yX4_allButFirst : MethodName := ⟨RX4, "allButFirst", "()I"⟩
abbrev cX4_cellOf : ByteArray := prog_6_method_15_code
def yX4_cellOf : MethodName := ⟨RX4, "cellOf", "(II)I"⟩
abbrev cX4_weigh : ByteArray := prog_6_method_16_code
def yX4_weigh : MethodName := ⟨RX4, "weigh", "(Z)V"⟩
abbrev cX4_leastOnward : ByteArray := prog_6_method_17_code
def yX4_leastOnward : MethodName := ⟨RX4, "leastOnward", "(IIZ)I"⟩
abbrev cX4_firstOfLeast : ByteArray := prog_6_method_18_code
def yX4_firstOfLeast : MethodName := ⟨RX4, "firstOfLeast", "(II)I"⟩
abbrev cX4_countOnward : ByteArray := prog_6_method_19_code
def yX4_countOnward : MethodName := ⟨RX4, "countOnward", "([[IIIIII)I"⟩
def RX5 : String := "HoopYard$Rounds"
def TX5 : u_T := fun k => match k with
  | 0 => ("HoopYard$Rounds", "counts", "[I", true)
  | 1 => ("HoopYard$Rounds", "prices", "[I", true)
  | _ => ("HoopYard$Rounds", "sets", "I", false)
def tyX5 : Nat → FieldType := fun k => match k with
  | 0 => .array .int
  | 1 => .array .int
  | _ => .int
abbrev wsX50 : List Cond := u_ws RX5 TX5 3
theorem nmX5 : ∀ a, a < 3 → ∀ b, b < 3 → a ≠ b → (TX5 a).2.1 ≠ (TX5 b).2.1 := by decide +kernel
theorem tyX5_ok : ∀ k, k < 3 → parseFieldDescriptor (TX5 k).2.2.1 = some (tyX5 k) := by decide +kernel
abbrev cX5_init : ByteArray := prog_7_method_1_code
def yX5_init : MethodName := ⟨RX5, "<init>", "()V"⟩
abbrev cX5_addUp : ByteArray := prog_7_method_2_code
def yX5_addUp : MethodName := ⟨RX5, "addUp", "(LHoopYard$Stock;)V"⟩
abbrev cX5_howMany : ByteArray := prog_7_method_3_code
def yX5_howMany : MethodName := ⟨RX5, "howMany", "(II)I"⟩
abbrev cX5_bestBetween : ByteArray := prog_7_method_4_code
def yX5_bestBetween : MethodName := ⟨RX5, "bestBetween", "(II)I"⟩
abbrev cX5_isBetter : ByteArray := prog_7_method_5_code
def yX5_isBetter : MethodName := ⟨RX5, "isBetter", "(II)Z"⟩
abbrev cX5_closestTo : ByteArray := prog_7_method_6_code
def yX5_closestTo : MethodName := ⟨RX5, "closestTo", "(I)I"⟩
def RX6 : String := "HoopYard$Stave"
def TX6 : u_T := fun k => match k with
  | 0 => ("HoopYard$Stave", "kind", "I", true)
  | 1 => ("HoopYard$Stave", "width", "I", false)
  | 2 => ("HoopYard$Stave", "thick", "I", true)
  | _ => ("HoopYard$Stave", "bevel", "I", true)
def tyX6 : Nat → FieldType := fun k => match k with
  | 0 => .int
  | 1 => .int
  | 2 => .int
  | _ => .int
abbrev wsX60 : List Cond := u_ws RX6 TX6 4
theorem nmX6 : ∀ a, a < 4 → ∀ b, b < 4 → a ≠ b → (TX6 a).2.1 ≠ (TX6 b).2.1 := by decide +kernel
theorem tyX6_ok : ∀ k, k < 4 → parseFieldDescriptor (TX6 k).2.2.1 = some (tyX6 k) := by decide +kernel
abbrev cX6_init : ByteArray := prog_8_method_1_code
def yX6_init : MethodName := ⟨RX6, "<init>", "(IIII)V"⟩
abbrev cX6_canBe : ByteArray := prog_8_method_2_code
def yX6_canBe : MethodName := ⟨RX6, "canBe", "(IIII)Z"⟩
abbrev cX6_toldAs : ByteArray := prog_8_method_3_code
def yX6_toldAs : MethodName := ⟨RX6, "toldAs", "()I"⟩
abbrev cX6_twin : ByteArray := prog_8_method_4_code
def yX6_twin : MethodName := ⟨RX6, "twin", "()LHoopYard$Stave;"⟩
abbrev cX6_counts : ByteArray := prog_8_method_5_code
def yX6_counts : MethodName := ⟨RX6, "counts", "()I"⟩
abbrev cX6_edge : ByteArray := prog_8_method_6_code
def yX6_edge : MethodName := ⟨RX6, "edge", "()I"⟩
abbrev cX6_price : ByteArray := prog_8_method_7_code
def yX6_price : MethodName := ⟨RX6, "price", "()I"⟩
def RX7 : String := "HoopYard$Stock"
def TX7 : u_T := fun k => match k with
  | 0 => ("HoopYard$Stock", "staves", "[LHoopYard$Stave;", true)
  | 1 => ("HoopYard$Stock", "hoops", "[LHoopYard$Hoop;", true)
  | 2 => ("HoopYard$Stock", "boards", "[LHoopYard$Board;", true)
  | 3 => ("HoopYard$Stock", "rules", "[I", true)
  | 4 => ("HoopYard$Stock", "staveCount", "I", false)
  | 5 => ("HoopYard$Stock", "hoopCount", "I", false)
  | _ => ("HoopYard$Stock", "boardCount", "I", false)
def tyX7 : Nat → FieldType := fun k => match k with
  | 0 => .array (.object "HoopYard$Stave")
  | 1 => .array (.object "HoopYard$Hoop")
  | 2 => .array (.object "HoopYard$Board")
  | 3 => .array .int
  | 4 => .int
  | 5 => .int
  | _ => .int
abbrev wsX70 : List Cond := u_ws RX7 TX7 7
theorem nmX7 : ∀ a, a < 7 → ∀ b, b < 7 → a ≠ b → (TX7 a).2.1 ≠ (TX7 b).2.1 := by decide +kernel
theorem tyX7_ok : ∀ k, k < 7 → parseFieldDescriptor (TX7 k).2.2.1 = some (tyX7 k) := by decide +kernel
abbrev cX7_init : ByteArray := prog_9_method_1_code
def yX7_init : MethodName := ⟨RX7, "<init>", "()V"⟩
abbrev cX7_staveAt : ByteArray := prog_9_method_2_code
def yX7_staveAt : MethodName := ⟨RX7, "staveAt", "(I)LHoopYard$Stave;"⟩
abbrev cX7_hoopAt : ByteArray := prog_9_method_3_code
def yX7_hoopAt : MethodName := ⟨RX7, "hoopAt", "(I)LHoopYard$Hoop;"⟩
abbrev cX7_boardAt : ByteArray := prog_9_method_4_code
def yX7_boardAt : MethodName := ⟨RX7, "boardAt", "(I)LHoopYard$Board;"⟩
abbrev cX7_thingAt : ByteArray := prog_9_method_5_code
def yX7_thingAt : MethodName := ⟨RX7, "thingAt", "(II)LHoopYard$Thing;"⟩
abbrev cX7_addStave : ByteArray := prog_9_method_6_code
def yX7_addStave : MethodName := ⟨RX7, "addStave", "(LHoopYard$Stave;)I"⟩
abbrev cX7_addHoop : ByteArray := prog_9_method_7_code
def yX7_addHoop : MethodName := ⟨RX7, "addHoop", "(LHoopYard$Hoop;)I"⟩
abbrev cX7_addBoard : ByteArray := prog_9_method_8_code
def yX7_addBoard : MethodName := ⟨RX7, "addBoard", "(LHoopYard$Board;)I"⟩
abbrev cX7_dropStave : ByteArray := prog_9_method_9_code
def yX7_dropStave : MethodName := ⟨RX7, "dropStave", "()I"⟩
abbrev cX7_dropHoop : ByteArray := prog_9_method_10_code
def yX7_dropHoop : MethodName := ⟨RX7, "dropHoop", "()I"⟩
abbrev cX7_dropBoard : ByteArray := prog_9_method_11_code
def yX7_dropBoard : MethodName := ⟨RX7, "dropBoard", "()I"⟩
abbrev cX7_becomeLike : ByteArray := prog_9_method_12_code
def yX7_becomeLike : MethodName := ⟨RX7, "becomeLike", "(LHoopYard$Stock;)V"⟩
def RX8 : String := "HoopYard$Tape"
def TX8 : u_T := fun k => match k with
  | 0 => ("HoopYard$Tape", "bytes", "[B", true)
  | 1 => ("HoopYard$Tape", "letters", "[I", true)
  | 2 => ("HoopYard$Tape", "places", "[I", true)
  | 3 => ("HoopYard$Tape", "numbers", "[[I", true)
  | 4 => ("HoopYard$Tape", "size", "I", false)
  | 5 => ("HoopYard$Tape", "statements", "I", false)
  | _ => ("HoopYard$Tape", "cursor", "I", false)
def tyX8 : Nat → FieldType := fun k => match k with
  | 0 => .array .byte
  | 1 => .array .int
  | 2 => .array .int
  | 3 => .array (.array .int)
  | 4 => .int
  | 5 => .int
  | _ => .int
abbrev wsX80 : List Cond := u_ws RX8 TX8 7
theorem nmX8 : ∀ a, a < 7 → ∀ b, b < 7 → a ≠ b → (TX8 a).2.1 ≠ (TX8 b).2.1 := by decide +kernel
theorem tyX8_ok : ∀ k, k < 7 → parseFieldDescriptor (TX8 k).2.2.1 = some (tyX8 k) := by decide +kernel
abbrev cX8_init : ByteArray := prog_10_method_1_code
def yX8_init : MethodName := ⟨RX8, "<init>", "()V"⟩
abbrev cX8_append : ByteArray := prog_10_method_2_code
def yX8_append : MethodName := ⟨RX8, "append", "(B)I"⟩
abbrev cX8_parse : ByteArray := prog_10_method_3_code
def yX8_parse : MethodName := ⟨RX8, "parse", "()Z"⟩
abbrev cX8_parseStatement : ByteArray := prog_10_method_4_code
def yX8_parseStatement : MethodName := ⟨RX8, "parseStatement", "(I)Z"⟩
abbrev cX8_parseNumber : ByteArray := prog_10_method_5_code
def yX8_parseNumber : MethodName := ⟨RX8, "parseNumber", "(II)Z"⟩
abbrev cX8_peek : ByteArray := prog_10_method_6_code
def yX8_peek : MethodName := ⟨RX8, "peek", "()I"⟩
abbrev cX8_pass : ByteArray := prog_10_method_7_code
def yX8_pass : MethodName := ⟨RX8, "pass", "(I)Z"⟩
abbrev cX8_howManyNumbers : ByteArray := prog_10_method_8_code
def yX8_howManyNumbers : MethodName := ⟨RX8, "howManyNumbers", "(I)I"⟩
abbrev cX8_firstUndoable : ByteArray := prog_10_method_9_code
def yX8_firstUndoable : MethodName := ⟨RX8, "firstUndoable", "(LHoopYard$Stock;)I"⟩
abbrev cX8_isInBounds : ByteArray := prog_10_method_10_code
def yX8_isInBounds : MethodName := ⟨RX8, "isInBounds", "(I[I)Z"⟩
abbrev cX8_carryOut : ByteArray := prog_10_method_11_code
def yX8_carryOut : MethodName := ⟨RX8, "carryOut", "(LHoopYard$Stock;)V"⟩
def RX9 : String := "HoopYard$Thing"
def TX9 : u_T := fun k => match k with
  | _ => ("", "", "", false)
def tyX9 : Nat → FieldType := fun k => match k with
  | _ => .int
abbrev wsX90 : List Cond := u_ws RX9 TX9 0
theorem nmX9 : ∀ a, a < 0 → ∀ b, b < 0 → a ≠ b → (TX9 a).2.1 ≠ (TX9 b).2.1 := by decide +kernel
theorem tyX9_ok : ∀ k, k < 0 → parseFieldDescriptor (TX9 k).2.2.1 = some (tyX9 k) := by decide +kernel
abbrev cX9_init : ByteArray := prog_11_method_1_code
def yX9_init : MethodName := ⟨RX9, "<init>", "()V"⟩
def RX10 : String := "HoopYard$Tray"
def TX10 : u_T := fun k => match k with
  | 0 => ("HoopYard$Tray", "sort", "I", true)
  | _ => ("HoopYard$Tray", "items", "[J", true)
def tyX10 : Nat → FieldType := fun k => match k with
  | 0 => .int
  | _ => .array .long
abbrev wsX100 : List Cond := u_ws RX10 TX10 2
theorem nmX10 : ∀ a, a < 2 → ∀ b, b < 2 → a ≠ b → (TX10 a).2.1 ≠ (TX10 b).2.1 := by decide +kernel
theorem tyX10_ok : ∀ k, k < 2 → parseFieldDescriptor (TX10 k).2.2.1 = some (tyX10 k) := by decide +kernel
abbrev cX10_init : ByteArray := prog_12_method_1_code
def yX10_init : MethodName := ⟨RX10, "<init>", "(II)V"⟩
abbrev cX10_toldAs : ByteArray := prog_12_method_2_code
def yX10_toldAs : MethodName := ⟨RX10, "toldAs", "()I"⟩
abbrev cX10_hasItem : ByteArray := prog_12_method_3_code
def yX10_hasItem : MethodName := ⟨RX10, "hasItem", "(I)Z"⟩
abbrev cX10_hasRun : ByteArray := prog_12_method_4_code
def yX10_hasRun : MethodName := ⟨RX10, "hasRun", "(II)Z"⟩
abbrev cX10_lay : ByteArray := prog_12_method_5_code
def yX10_lay : MethodName := ⟨RX10, "lay", "(IJ)V"⟩
def RX11 : String := "HoopYard"
def TX11 : u_T := fun k => match k with
  | 0 => ("HoopYard", "stock", "LHoopYard$Stock;", true)
  | 1 => ("HoopYard", "kept", "LHoopYard$Stock;", true)
  | 2 => ("HoopYard", "isKept", "Z", false)
  | 3 => ("HoopYard", "pegs", "[LHoopYard$Thing;", true)
  | 4 => ("HoopYard", "tape", "LHoopYard$Tape;", true)
  | 5 => ("HoopYard", "textsDone", "I", false)
  | 6 => ("HoopYard", "rounds", "LHoopYard$Rounds;", true)
  | 7 => ("HoopYard", "bench", "LHoopYard$RingBench;", true)
  | 8 => ("HoopYard", "cask", "LHoopYard$Cask;", true)
  | _ => ("HoopYard", "saw", "LHoopYard$HeadBench;", true)
def tyX11 : Nat → FieldType := fun k => match k with
  | 0 => .object "HoopYard$Stock"
  | 1 => .object "HoopYard$Stock"
  | 2 => .boolean
  | 3 => .array (.object "HoopYard$Thing")
  | 4 => .object "HoopYard$Tape"
  | 5 => .int
  | 6 => .object "HoopYard$Rounds"
  | 7 => .object "HoopYard$RingBench"
  | 8 => .object "HoopYard$Cask"
  | _ => .object "HoopYard$HeadBench"
abbrev wsX110 : List Cond := u_ws RX11 TX11 10
theorem nmX11 : ∀ a, a < 10 → ∀ b, b < 10 → a ≠ b → (TX11 a).2.1 ≠ (TX11 b).2.1 := by decide +kernel
theorem tyX11_ok : ∀ k, k < 10 → parseFieldDescriptor (TX11 k).2.2.1 = some (tyX11 k) := by decide +kernel
abbrev cX11_init : ByteArray := prog_1_method_1_code
def yX11_init : MethodName := ⟨RX11, "<init>", "()V"⟩
abbrev cX11_stave : ByteArray := prog_1_method_2_code
def yX11_stave : MethodName := ⟨RX11, "stave", "(IIII)I"⟩
abbrev cX11_hoop : ByteArray := prog_1_method_3_code
def yX11_hoop : MethodName := ⟨RX11, "hoop", "(III)I"⟩
abbrev cX11_board : ByteArray := prog_1_method_4_code
def yX11_board : MethodName := ⟨RX11, "board", "(I)I"⟩
abbrev cX11_rule : ByteArray := prog_1_method_5_code
def yX11_rule : MethodName := ⟨RX11, "rule", "(II)I"⟩
abbrev cX11_told : ByteArray := prog_1_method_6_code
def yX11_told : MethodName := ⟨RX11, "told", "(I)I"⟩
abbrev cX11_ofStave : ByteArray := prog_1_method_7_code
def yX11_ofStave : MethodName := ⟨RX11, "ofStave", "(II)I"⟩
abbrev cX11_takes : ByteArray := prog_1_method_8_code
def yX11_takes : MethodName := ⟨RX11, "takes", "(I)I"⟩
abbrev cX11_shave : ByteArray := prog_1_method_9_code
def yX11_shave : MethodName := ⟨RX11, "shave", "(II)I"⟩
abbrev cX11_fits : ByteArray := prog_1_method_10_code
def yX11_fits : MethodName := ⟨RX11, "fits", "(I)I"⟩
abbrev cX11_sums : ByteArray := prog_1_method_11_code
def yX11_sums : MethodName := ⟨RX11, "sums", "(I)I"⟩
abbrev cX11_nearest : ByteArray := prog_1_method_12_code
def yX11_nearest : MethodName := ⟨RX11, "nearest", "(I)I"⟩
abbrev cX11_least : ByteArray := prog_1_method_13_code
def yX11_least : MethodName := ⟨RX11, "least", "(III)I"⟩
abbrev cX11_leak : ByteArray := prog_1_method_14_code
def yX11_leak : MethodName := ⟨RX11, "leak", "(II)I"⟩
abbrev cX11_worst : ByteArray := prog_1_method_15_code
def yX11_worst : MethodName := ⟨RX11, "worst", "(III)I"⟩
abbrev cX11_rings : ByteArray := prog_1_method_16_code
def yX11_rings : MethodName := ⟨RX11, "rings", "(III)I"⟩
abbrev cX11_girth : ByteArray := prog_1_method_17_code
def yX11_girth : MethodName := ⟨RX11, "girth", "(I)I"⟩
abbrev cX11_ofHoop : ByteArray := prog_1_method_18_code
def yX11_ofHoop : MethodName := ⟨RX11, "ofHoop", "(II)I"⟩
abbrev cX11_press : ByteArray := prog_1_method_19_code
def yX11_press : MethodName := ⟨RX11, "press", "(I)I"⟩
abbrev cX11_wet : ByteArray := prog_1_method_20_code
def yX11_wet : MethodName := ⟨RX11, "wet", "(I)I"⟩
abbrev cX11_driest : ByteArray := prog_1_method_21_code
def yX11_driest : MethodName := ⟨RX11, "driest", "(II)I"⟩
abbrev cX11_head : ByteArray := prog_1_method_22_code
def yX11_head : MethodName := ⟨RX11, "head", "(II)I"⟩
abbrev cX11_used : ByteArray := prog_1_method_23_code
def yX11_used : MethodName := ⟨RX11, "used", "(II)I"⟩
abbrev cX11_heads : ByteArray := prog_1_method_24_code
def yX11_heads : MethodName := ⟨RX11, "heads", "(I)I"⟩
abbrev cX11_feed : ByteArray := prog_1_method_25_code
def yX11_feed : MethodName := ⟨RX11, "feed", "(I)I"⟩
abbrev cX11_read : ByteArray := prog_1_method_26_code
def yX11_read : MethodName := ⟨RX11, "read", "()I"⟩
abbrev cX11_hang : ByteArray := prog_1_method_27_code
def yX11_hang : MethodName := ⟨RX11, "hang", "(III)I"⟩
abbrev cX11_tray : ByteArray := prog_1_method_28_code
def yX11_tray : MethodName := ⟨RX11, "tray", "(III)I"⟩
abbrev cX11_held : ByteArray := prog_1_method_29_code
def yX11_held : MethodName := ⟨RX11, "held", "(I)I"⟩
abbrev cX11_as : ByteArray := prog_1_method_30_code
def yX11_as : MethodName := ⟨RX11, "as", "(III)I"⟩
abbrev cX11_put : ByteArray := prog_1_method_31_code
def yX11_put : MethodName := ⟨RX11, "put", "(IIJ)I"⟩
abbrev cX11_get : ByteArray := prog_1_method_32_code
def yX11_get : MethodName := ⟨RX11, "get", "(II)J"⟩
abbrev cX11_fill : ByteArray := prog_1_method_33_code
def yX11_fill : MethodName := ⟨RX11, "fill", "(III)I"⟩
abbrev cX11_judge : ByteArray := prog_1_method_34_code
def yX11_judge : MethodName := ⟨RX11, "judge", "(III)I"⟩
abbrev cX11_move : ByteArray := prog_1_method_35_code
def yX11_move : MethodName := ⟨RX11, "move", "(IIIII)I"⟩
abbrev cX11_image : ByteArray := prog_1_method_36_code
def yX11_image : MethodName := ⟨RX11, "image", "()I"⟩
abbrev cX11_undo : ByteArray := prog_1_method_37_code
def yX11_undo : MethodName := ⟨RX11, "undo", "()I"⟩
abbrev cX11_isIn : ByteArray := prog_1_method_38_code
def yX11_isIn : MethodName := ⟨RX11, "isIn", "(III)Z"⟩
abbrev cX11_isPress : ByteArray := prog_1_method_39_code
def yX11_isPress : MethodName := ⟨RX11, "isPress", "(I)Z"⟩
abbrev cX11_isHeight : ByteArray := prog_1_method_40_code
def yX11_isHeight : MethodName := ⟨RX11, "isHeight", "(I)Z"⟩
abbrev cX11_isRadius : ByteArray := prog_1_method_41_code
def yX11_isRadius : MethodName := ⟨RX11, "isRadius", "(I)Z"⟩
abbrev cX11_isPeg : ByteArray := prog_1_method_42_code
def yX11_isPeg : MethodName := ⟨RX11, "isPeg", "(I)Z"⟩
abbrev cX11_canRule : ByteArray := prog_1_method_43_code
def yX11_canRule : MethodName := ⟨RX11, "canRule", "(II)Z"⟩
abbrev cX11_isRingSet : ByteArray := prog_1_method_44_code
def yX11_isRingSet : MethodName := ⟨RX11, "isRingSet", "(I)Z"⟩
abbrev cX11_holds : ByteArray := prog_1_method_45_code
def yX11_holds : MethodName := ⟨RX11, "holds", "(II)Z"⟩
abbrev cX11_without : ByteArray := prog_1_method_46_code
def yX11_without : MethodName := ⟨RX11, "without", "(II)I"⟩
abbrev cX11_kindsOf : ByteArray := prog_1_method_47_code
def yX11_kindsOf : MethodName := ⟨RX11, "kindsOf", "(I)I"⟩
abbrev cX11_isUnder : ByteArray := prog_1_method_48_code
def yX11_isUnder : MethodName := ⟨RX11, "isUnder", "(II[I)Z"⟩
abbrev cX11_rootOf : ByteArray := prog_1_method_49_code
def yX11_rootOf : MethodName := ⟨RX11, "rootOf", "(I)I"⟩
abbrev cX11_sagOf : ByteArray := prog_1_method_50_code
def yX11_sagOf : MethodName := ⟨RX11, "sagOf", "(II)I"⟩
abbrev cX11_howManyDigits : ByteArray := prog_1_method_51_code
def yX11_howManyDigits : MethodName := ⟨RX11, "howManyDigits", "(I)I"⟩
abbrev cX11_spellRow : ByteArray := prog_1_method_52_code
def yX11_spellRow : MethodName := ⟨RX11, "spellRow", "(II[I)I"⟩
abbrev cX11_ofResting : ByteArray := prog_1_method_53_code
def yX11_ofResting : MethodName := ⟨RX11, "ofResting", "(LHoopYard$Hoop;II)I"⟩
abbrev cX11_trayOn : ByteArray := prog_1_method_54_code
def yX11_trayOn : MethodName := ⟨RX11, "trayOn", "(I)LHoopYard$Tray;"⟩
abbrev cX11_lackOfTray : ByteArray := prog_1_method_55_code
def yX11_lackOfTray : MethodName := ⟨RX11, "lackOfTray", "(I)I"⟩
abbrev cX11_lackForRing : ByteArray := prog_1_method_56_code
def yX11_lackForRing : MethodName := ⟨RX11, "lackForRing", "(III)I"⟩
def RX12 : String := "HoopYardModel"
def TX12 : u_T := fun k => match k with
  | 0 => ("HoopYardModel", "now", "[I", true)
  | 1 => ("HoopYardModel", "old", "[I", true)
  | 2 => ("HoopYardModel", "ahead", "[I", true)
  | 3 => ("HoopYardModel", "imaged", "Z", false)
  | 4 => ("HoopYardModel", "things", "I", false)
  | 5 => ("HoopYardModel", "texts", "I", false)
  | 6 => ("HoopYardModel", "taped", "I", false)
  | 7 => ("HoopYardModel", "tape", "[I", true)
  | 8 => ("HoopYardModel", "at", "I", false)
  | 9 => ("HoopYardModel", "fault", "I", false)
  | 10 => ("HoopYardModel", "many", "I", false)
  | 11 => ("HoopYardModel", "read", "[I", true)
  | 12 => ("HoopYardModel", "joints", "I", false)
  | 13 => ("HoopYardModel", "ring", "[I", true)
  | 14 => ("HoopYardModel", "best", "[I", true)
  | 15 => ("HoopYardModel", "leak", "I", false)
  | 16 => ("HoopYardModel", "soMany", "I", false)
  | 17 => ("HoopYardModel", "tight", "I", false)
  | 18 => ("HoopYardModel", "rests", "[I", true)
  | 19 => ("HoopYardModel", "row", "[I", true)
  | 20 => ("HoopYardModel", "heads", "I", false)
  | 21 => ("HoopYardModel", "used", "I", false)
  | 22 => ("HoopYardModel", "digits", "I", false)
  | 23 => ("HoopYardModel", "boards", "I", false)
  | 24 => ("HoopYardModel", "peg", "[I", true)
  | 25 => ("HoopYardModel", "pegKind", "[I", true)
  | 26 => ("HoopYardModel", "pegSize", "[I", true)
  | 27 => ("HoopYardModel", "pegWhich", "[I", true)
  | 28 => ("HoopYardModel", "items", "[J", true)
  | _ => ("HoopYardModel", "moved", "[J", true)
def tyX12 : Nat → FieldType := fun k => match k with
  | 0 => .array .int
  | 1 => .array .int
  | 2 => .array .int
  | 3 => .boolean
  | 4 => .int
  | 5 => .int
  | 6 => .int
  | 7 => .array .int
  | 8 => .int
  | 9 => .int
  | 10 => .int
  | 11 => .array .int
  | 12 => .int
  | 13 => .array .int
  | 14 => .array .int
  | 15 => .int
  | 16 => .int
  | 17 => .int
  | 18 => .array .int
  | 19 => .array .int
  | 20 => .int
  | 21 => .int
  | 22 => .int
  | 23 => .int
  | 24 => .array .int
  | 25 => .array .int
  | 26 => .array .int
  | 27 => .array .int
  | 28 => .array .long
  | _ => .array .long
abbrev wsX120 : List Cond := u_ws RX12 TX12 30
theorem nmX12 : ∀ a, a < 30 → ∀ b, b < 30 → a ≠ b → (TX12 a).2.1 ≠ (TX12 b).2.1 := by decide +kernel
theorem tyX12_ok : ∀ k, k < 30 → parseFieldDescriptor (TX12 k).2.2.1 = some (tyX12 k) := by decide +kernel
abbrev cX12_init : ByteArray := prog_14_method_1_code
def yX12_init : MethodName := ⟨RX12, "<init>", "()V"⟩
abbrev cX12_within : ByteArray := prog_14_method_2_code
def yX12_within : MethodName := ⟨RX12, "within", "(III)Z"⟩
abbrev cX12_pours : ByteArray := prog_14_method_3_code
def yX12_pours : MethodName := ⟨RX12, "pours", "([I[I)V"⟩
abbrev cX12_isStave : ByteArray := prog_14_method_4_code
def yX12_isStave : MethodName := ⟨RX12, "isStave", "(IIII)Z"⟩
abbrev cX12_isHoop : ByteArray := prog_14_method_5_code
def yX12_isHoop : MethodName := ⟨RX12, "isHoop", "(III)Z"⟩
abbrev cX12_stave : ByteArray := prog_14_method_6_code
def yX12_stave : MethodName := ⟨RX12, "stave", "(IIII)I"⟩
abbrev cX12_hoop : ByteArray := prog_14_method_7_code
def yX12_hoop : MethodName := ⟨RX12, "hoop", "(III)I"⟩
abbrev cX12_board : ByteArray := prog_14_method_8_code
def yX12_board : MethodName := ⟨RX12, "board", "(I)I"⟩
abbrev cX12_isRule : ByteArray := prog_14_method_9_code
def yX12_isRule : MethodName := ⟨RX12, "isRule", "(II)Z"⟩
abbrev cX12_rule : ByteArray := prog_14_method_10_code
def yX12_rule : MethodName := ⟨RX12, "rule", "(II)I"⟩
abbrev cX12_told : ByteArray := prog_14_method_11_code
def yX12_told : MethodName := ⟨RX12, "told", "(I)I"⟩
abbrev cX12_countsOf : ByteArray := prog_14_method_12_code
def yX12_countsOf : MethodName := ⟨RX12, "countsOf", "(I)I"⟩
abbrev cX12_edgeOf : ByteArray := prog_14_method_13_code
def yX12_edgeOf : MethodName := ⟨RX12, "edgeOf", "(I)I"⟩
abbrev cX12_priceOf : ByteArray := prog_14_method_14_code
def yX12_priceOf : MethodName := ⟨RX12, "priceOf", "(I)I"⟩
abbrev cX12_root : ByteArray := prog_14_method_15_code
def yX12_root : MethodName := ⟨RX12, "root", "(I)I"⟩
abbrev cX12_sagOf : ByteArray := prog_14_method_16_code
def yX12_sagOf : MethodName := ⟨RX12, "sagOf", "(I)I"⟩
abbrev cX12_hasStave : ByteArray := prog_14_method_17_code
def yX12_hasStave : MethodName := ⟨RX12, "hasStave", "(I)Z"⟩
abbrev cX12_ofStave : ByteArray := prog_14_method_18_code
def yX12_ofStave : MethodName := ⟨RX12, "ofStave", "(II)I"⟩
abbrev cX12_takes : ByteArray := prog_14_method_19_code
def yX12_takes : MethodName := ⟨RX12, "takes", "(I)I"⟩
abbrev cX12_shave : ByteArray := prog_14_method_20_code
def yX12_shave : MethodName := ⟨RX12, "shave", "(II)I"⟩
abbrev cX12_countsOfSet : ByteArray := prog_14_method_21_code
def yX12_countsOfSet : MethodName := ⟨RX12, "countsOfSet", "(I)I"⟩
abbrev cX12_priceOfSet : ByteArray := prog_14_method_22_code
def yX12_priceOfSet : MethodName := ⟨RX12, "priceOfSet", "(I)I"⟩
abbrev cX12_fits : ByteArray := prog_14_method_23_code
def yX12_fits : MethodName := ⟨RX12, "fits", "(I)I"⟩
abbrev cX12_sums : ByteArray := prog_14_method_24_code
def yX12_sums : MethodName := ⟨RX12, "sums", "(I)I"⟩
abbrev cX12_nearest : ByteArray := prog_14_method_25_code
def yX12_nearest : MethodName := ⟨RX12, "nearest", "(I)I"⟩
abbrev cX12_isSet : ByteArray := prog_14_method_26_code
def yX12_isSet : MethodName := ⟨RX12, "isSet", "(I)Z"⟩
abbrev cX12_isPress : ByteArray := prog_14_method_27_code
def yX12_isPress : MethodName := ⟨RX12, "isPress", "(I)Z"⟩
abbrev cX12_gap : ByteArray := prog_14_method_28_code
def yX12_gap : MethodName := ⟨RX12, "gap", "([II)I"⟩
abbrev cX12_leakOf : ByteArray := prog_14_method_29_code
def yX12_leakOf : MethodName := ⟨RX12, "leakOf", "([II)I"⟩
abbrev cX12_goesRound : ByteArray := prog_14_method_30_code
def yX12_goesRound : MethodName := ⟨RX12, "goesRound", "(IIII)V"⟩
abbrev cX12_rounds : ByteArray := prog_14_method_31_code
def yX12_rounds : MethodName := ⟨RX12, "rounds", "(III)V"⟩
abbrev cX12_least : ByteArray := prog_14_method_32_code
def yX12_least : MethodName := ⟨RX12, "least", "(III)I"⟩
abbrev cX12_isRing : ByteArray := prog_14_method_33_code
def yX12_isRing : MethodName := ⟨RX12, "isRing", "(I)Z"⟩
abbrev cX12_leak : ByteArray := prog_14_method_34_code
def yX12_leak : MethodName := ⟨RX12, "leak", "(II)I"⟩
abbrev cX12_worst : ByteArray := prog_14_method_35_code
def yX12_worst : MethodName := ⟨RX12, "worst", "(III)I"⟩
abbrev cX12_rings : ByteArray := prog_14_method_36_code
def yX12_rings : MethodName := ⟨RX12, "rings", "(III)I"⟩
abbrev cX12_girthAt : ByteArray := prog_14_method_37_code
def yX12_girthAt : MethodName := ⟨RX12, "girthAt", "(I)I"⟩
abbrev cX12_girth : ByteArray := prog_14_method_38_code
def yX12_girth : MethodName := ⟨RX12, "girth", "(I)I"⟩
abbrev cX12_hasHoop : ByteArray := prog_14_method_39_code
def yX12_hasHoop : MethodName := ⟨RX12, "hasHoop", "(I)Z"⟩
abbrev cX12_settles : ByteArray := prog_14_method_40_code
def yX12_settles : MethodName := ⟨RX12, "settles", "()V"⟩
abbrev cX12_gripOf : ByteArray := prog_14_method_41_code
def yX12_gripOf : MethodName := ⟨RX12, "gripOf", "(I)I"⟩
abbrev cX12_pressOf : ByteArray := prog_14_method_42_code
def yX12_pressOf : MethodName := ⟨RX12, "pressOf", "(I)I"⟩
abbrev cX12_ofHoop : ByteArray := prog_14_method_43_code
def yX12_ofHoop : MethodName := ⟨RX12, "ofHoop", "(II)I"⟩
abbrev cX12_pressAt : ByteArray := prog_14_method_44_code
def yX12_pressAt : MethodName := ⟨RX12, "pressAt", "(I)I"⟩
abbrev cX12_press : ByteArray := prog_14_method_45_code
def yX12_press : MethodName := ⟨RX12, "press", "(I)I"⟩
abbrev cX12_wetNow : ByteArray := prog_14_method_46_code
def yX12_wetNow : MethodName := ⟨RX12, "wetNow", "()I"⟩
abbrev cX12_wet : ByteArray := prog_14_method_47_code
def yX12_wet : MethodName := ⟨RX12, "wet", "(I)I"⟩
abbrev cX12_driest : ByteArray := prog_14_method_48_code
def yX12_driest : MethodName := ⟨RX12, "driest", "(II)I"⟩
abbrev cX12_usedBy : ByteArray := prog_14_method_49_code
def yX12_usedBy : MethodName := ⟨RX12, "usedBy", "(III)I"⟩
abbrev cX12_goesOn : ByteArray := prog_14_method_50_code
def yX12_goesOn : MethodName := ⟨RX12, "goesOn", "(IIIII)V"⟩
abbrev cX12_saws : ByteArray := prog_14_method_51_code
def yX12_saws : MethodName := ⟨RX12, "saws", "(I)V"⟩
abbrev cX12_head : ByteArray := prog_14_method_52_code
def yX12_head : MethodName := ⟨RX12, "head", "(II)I"⟩
abbrev cX12_used : ByteArray := prog_14_method_53_code
def yX12_used : MethodName := ⟨RX12, "used", "(II)I"⟩
abbrev cX12_heads : ByteArray := prog_14_method_54_code
def yX12_heads : MethodName := ⟨RX12, "heads", "(I)I"⟩
abbrev cX12_feed : ByteArray := prog_14_method_55_code
def yX12_feed : MethodName := ⟨RX12, "feed", "(I)I"⟩
abbrev cX12_isFrom : ByteArray := prog_14_method_56_code
def yX12_isFrom : MethodName := ⟨RX12, "isFrom", "(II)Z"⟩
abbrev cX12_wrong : ByteArray := prog_14_method_57_code
def yX12_wrong : MethodName := ⟨RX12, "wrong", "()V"⟩
abbrev cX12_number : ByteArray := prog_14_method_58_code
def yX12_number : MethodName := ⟨RX12, "number", "()I"⟩
abbrev cX12_numbers : ByteArray := prog_14_method_59_code
def yX12_numbers : MethodName := ⟨RX12, "numbers", "(I)I"⟩
abbrev cX12_reads : ByteArray := prog_14_method_60_code
def yX12_reads : MethodName := ⟨RX12, "reads", "()V"⟩
abbrev cX12_does : ByteArray := prog_14_method_61_code
def yX12_does : MethodName := ⟨RX12, "does", "(I)Z"⟩
abbrev cX12_read : ByteArray := prog_14_method_62_code
def yX12_read : MethodName := ⟨RX12, "read", "()I"⟩
abbrev cX12_isPeg : ByteArray := prog_14_method_63_code
def yX12_isPeg : MethodName := ⟨RX12, "isPeg", "(I)Z"⟩
abbrev cX12_hang : ByteArray := prog_14_method_64_code
def yX12_hang : MethodName := ⟨RX12, "hang", "(III)I"⟩
abbrev cX12_tray : ByteArray := prog_14_method_65_code
def yX12_tray : MethodName := ⟨RX12, "tray", "(III)I"⟩
abbrev cX12_held : ByteArray := prog_14_method_66_code
def yX12_held : MethodName := ⟨RX12, "held", "(I)I"⟩
abbrev cX12_isUnder : ByteArray := prog_14_method_67_code
def yX12_isUnder : MethodName := ⟨RX12, "isUnder", "(III)Z"⟩
abbrev cX12_as : ByteArray := prog_14_method_68_code
def yX12_as : MethodName := ⟨RX12, "as", "(III)I"⟩
abbrev cX12_isNoTray : ByteArray := prog_14_method_69_code
def yX12_isNoTray : MethodName := ⟨RX12, "isNoTray", "(I)I"⟩
abbrev cX12_lays : ByteArray := prog_14_method_70_code
def yX12_lays : MethodName := ⟨RX12, "lays", "(IIJ)V"⟩
abbrev cX12_put : ByteArray := prog_14_method_71_code
def yX12_put : MethodName := ⟨RX12, "put", "(IIJ)I"⟩
abbrev cX12_get : ByteArray := prog_14_method_72_code
def yX12_get : MethodName := ⟨RX12, "get", "(II)J"⟩
abbrev cX12_fill : ByteArray := prog_14_method_73_code
def yX12_fill : MethodName := ⟨RX12, "fill", "(III)I"⟩
abbrev cX12_judge : ByteArray := prog_14_method_74_code
def yX12_judge : MethodName := ⟨RX12, "judge", "(III)I"⟩
abbrev cX12_move : ByteArray := prog_14_method_75_code
def yX12_move : MethodName := ⟨RX12, "move", "(IIIII)I"⟩
abbrev cX12_image : ByteArray := prog_14_method_76_code
def yX12_image : MethodName := ⟨RX12, "image", "()I"⟩
abbrev cX12_undo : ByteArray := prog_14_method_77_code
def yX12_undo : MethodName := ⟨RX12, "undo", "()I"⟩
def RJ6 : String := "java/lang/Integer"
abbrev cJ6_bitCount_0f7a4 : ByteArray := prog_15_method_49_code
def yJ6_bitCount_0f7a4 : MethodName := ⟨RJ6, "bitCount", "(I)I"⟩
def RJ9 : String := "java/lang/Math"
abbrev cJ9_abs_0f7a4 : ByteArray := prog_16_method_59_code
def yJ9_abs_0f7a4 : MethodName := ⟨RJ9, "abs", "(I)I"⟩
abbrev cJ9_max_7cf53 : ByteArray := prog_16_method_65_code
def yJ9_max_7cf53 : MethodName := ⟨RJ9, "max", "(II)I"⟩
abbrev cJ9_min_7cf53 : ByteArray := prog_16_method_69_code
def yJ9_min_7cf53 : MethodName := ⟨RJ9, "min", "(II)I"⟩
def RJ10 : String := "java/lang/System"
def RJ7 : String := "java/util/Arrays"
abbrev cJ7_fill_53178 : ByteArray := prog_18_method_103_code
def yJ7_fill_53178 : MethodName := ⟨RJ7, "fill", "([II)V"⟩
def RL : String := "HoopYardLaw"
abbrev cL_law : ByteArray := code
def yL_law : MethodName := ⟨RL, "law", "([I)Z"⟩
abbrev vwCl : List vw_C := [(RX0, TX0, 1), (RX1, TX1, 2), (RX2, TX2, 6), (RX3, TX3, 3), (RX4, TX4, 6), (RX5, TX5, 3), (RX6, TX6, 4), (RX7, TX7, 7), (RX8, TX8, 7), (RX10, TX10, 2), (RX11, TX11, 10), (RX12, TX12, 30)]
end
section
/-! whole numbers for the machine's ints: iI z is the int that z tells -/
def iI (z : Int) : Int32 := Int32.ofInt z
abbrev inR (z : Int) : Prop := -2147483648 ≤ z ∧ z < 2147483648
theorem iI_add (a b : Int) : iI (a + b) = iI a + iI b := Int32.ofInt_add a b
theorem iI_sub (a b : Int) : iI (a - b) = iI a - iI b := Int32.ofInt_sub a b
theorem iI_mul (a b : Int) : iI (a * b) = iI a * iI b := Int32.ofInt_mul a b
theorem iI_neg (a : Int) : iI (-a) = -iI a := Int32.ofInt_neg a
theorem iI_toInt {a : Int} (h : inR a) : (iI a).toInt = a := Int32.toInt_ofInt_of_le h.1 h.2
theorem iI_of (x : Int32) : iI x.toInt = x := by
  apply Int32.toInt_inj.mp
  rw [iI_toInt ⟨x.le_toInt, x.toInt_lt⟩]
theorem inR_of (x : Int32) : inR x.toInt := ⟨x.le_toInt, x.toInt_lt⟩
theorem iI_eq {a b : Int} (ha : inR a) (hb : inR b) : iI a = iI b ↔ a = b := by
  refine ⟨fun h => ?_, fun h => by rw [h]⟩
  have := congrArg Int32.toInt h
  rwa [iI_toInt ha, iI_toInt hb] at this
theorem iI_lt {a b : Int} (ha : inR a) (hb : inR b) : iI a < iI b ↔ a < b := by
  rw [Int32.lt_iff_toInt_lt, iI_toInt ha, iI_toInt hb]
theorem iI_le {a b : Int} (ha : inR a) (hb : inR b) : iI a ≤ iI b ↔ a ≤ b := by
  rw [Int32.le_iff_toInt_le, iI_toInt ha, iI_toInt hb]
theorem iI_0 : iI 0 = 0 := rfl
theorem inR_0 : inR 0 := by decide
theorem iI_eq0 {a : Int} (ha : inR a) : iI a = 0 ↔ a = 0 := iI_eq ha inR_0
theorem iI_lt0 {a : Int} (ha : inR a) : iI a < 0 ↔ a < 0 := iI_lt ha inR_0
theorem iI_ge0 {a : Int} (ha : inR a) : 0 ≤ iI a ↔ 0 ≤ a := iI_le inR_0 ha
theorem iI_le0 {a : Int} (ha : inR a) : iI a ≤ 0 ↔ a ≤ 0 := iI_le ha inR_0
theorem iI_gt0 {a : Int} (ha : inR a) : 0 < iI a ↔ 0 < a := iI_lt inR_0 ha
theorem iI_clamp {a : Int} (h0 : 0 ≤ a) (h1 : a < 2147483648) : (iI a).toNatClampNeg = a.toNat := by
  have h := iI_toInt (a := a) ⟨by omega, h1⟩
  show (iI a).toInt.toNat = a.toNat
  rw [h]
theorem iI_in {a : Int} {n : Nat} (h0 : 0 ≤ a) (h1 : a < n) (hn : n < 2147483648) : vp_in (iI a) n := by
  rw [vp_in_iff, iI_toInt ⟨by omega, by omega⟩]
  exact ⟨h0, h1⟩
theorem iI_div {a b : Int} (ha : 0 ≤ a) (ha2 : a < 2147483648) (hb : 0 < b) (hb2 : b < 2147483648) : iI a / iI b = iI (a / b) := by
  apply Int32.toInt_inj.mp
  have h1 := iI_toInt (a := a) ⟨by omega, ha2⟩
  have h2 := iI_toInt (a := b) ⟨by omega, hb2⟩
  have h3 : 0 ≤ a / b := Int.ediv_nonneg ha (by omega)
  have h4 : a / b ≤ a := Int.ediv_le_self b ha
  rw [Int32.toInt_div_of_ne_right _ _ (fun h => by rw [h] at h2; have : (-1 : Int32).toInt = -1 := rfl; omega), h1, h2, iI_toInt ⟨by omega, by omega⟩, Int.tdiv_eq_ediv_of_nonneg ha]
theorem iI_rem {a b : Int} (ha : 0 ≤ a) (ha2 : a < 2147483648) (hb : 0 < b) (hb2 : b < 2147483648) : iI a - iI a / iI b * iI b = iI (a % b) := by
  rw [iI_div ha ha2 hb hb2, ← iI_mul, ← iI_sub]
  congr 1
  have := Int.emod_def a b
  rw [this, Int.mul_comm]
theorem iI_bmod (z : Int) : (iI z).toInt = z.bmod (2 ^ 32) := by
  show (Int32.ofInt z).toInt = _
  rw [Int32.toInt_ofInt]
theorem iI_eqm {a b : Int} (h : a.bmod (2 ^ 32) = b.bmod (2 ^ 32)) : iI a = iI b := by
  apply Int32.toInt_inj.mp
  rw [iI_bmod, iI_bmod, h]
theorem iI_nat (n : Nat) : iI (n : Int) = nI n := rfl
theorem iI_amt : ∀ n : Nat, n < 32 → ((iI (n : Int) &&& 31).toBitVec.smod 32).toNat = n := by decide
theorem iI_amt' {b : Int} (h0 : 0 ≤ b) (h1 : b < 32) : ((iI b &&& 31).toBitVec.smod 32).toNat = b.toNat := by
  have h := iI_amt b.toNat (by omega)
  rw [Int.toNat_of_nonneg h0] at h
  exact h
theorem iI_bvn (a : Int) : (iI a).toBitVec.toNat = (a % 2 ^ 32).toNat := by
  show (BitVec.ofInt 32 a).toNat = _
  rw [BitVec.toNat_ofInt]; rfl
theorem iI_shl {a b : Int} (h0 : 0 ≤ b) (h1 : b < 32) : iI a <<< (iI b &&& 31) = iI (a * 2 ^ b.toNat) := by
  have h := pk_shl (iI a) (iI b &&& 31) b.toNat (iI_amt' h0 h1)
  apply Int32.toBitVec_inj.mp
  apply BitVec.eq_of_toNat_eq
  rw [h, iI_bvn, iI_bvn]
  have e : (((a % 2 ^ 32).toNat * 2 ^ b.toNat : Nat) : Int) = (a % 2 ^ 32) * 2 ^ b.toNat := by
    rw [Int.natCast_mul, Int.toNat_of_nonneg (Int.emod_nonneg _ (by decide)), Int.natCast_pow]; rfl
  apply Int.ofNat_inj.mp
  rw [Int.natCast_emod, e, Int.toNat_of_nonneg (Int.emod_nonneg _ (by decide))]
  show a % 2 ^ 32 * 2 ^ b.toNat % 2 ^ 32 = _
  rw [Int.mul_emod, Int.emod_emod_of_dvd _ (Int.dvd_refl _), ← Int.mul_emod]
theorem iI_shr {a b : Int} (ha : inR a) (h0 : 0 ≤ b) (h1 : b < 32) : iI a >>> (iI b &&& 31) = iI (a / 2 ^ b.toNat) := by
  have h := pk_shr (iI a) (iI b &&& 31) b.toNat (iI_amt' h0 h1)
  apply Int32.toInt_inj.mp
  rw [h, iI_toInt ha, Int.shiftRight_eq_div_pow]
  have hp : (0 : Int) < 2 ^ b.toNat := Int.pow_pos (by decide)
  have e : (((2 ^ b.toNat : Nat)) : Int) = 2 ^ b.toNat := by rw [Int.natCast_pow]; rfl
  rw [e, iI_toInt]
  have h1' : (1 : Int) ≤ 2 ^ b.toNat := hp
  refine ⟨?_, ?_⟩
  · rcases Int.lt_or_le a 0 with q | q
    · have : a ≤ a / 2 ^ b.toNat := by
        rw [Int.le_ediv_iff_mul_le hp]
        have := Int.mul_le_mul_of_nonpos_left (show a ≤ 0 by omega) h1'
        rw [Int.mul_one] at this
        exact this
      omega
    · have := Int.ediv_nonneg q (Int.le_of_lt hp)
      omega
  · rcases Int.lt_or_le a 0 with q | q
    · have := Int.ediv_neg_of_neg_of_pos q hp
      omega
    · have := Int.ediv_le_self (2 ^ b.toNat) q
      omega
theorem iI_and1 (a : Int) : iI a &&& 1 = iI (a % 2) := by
  rw [pk_and (iI a) 1 rfl, iI_bvn, ← iI_nat]
  congr 1
  omega
theorem iI_and {a b : Nat} : iI a &&& iI b = iI ((a &&& b : Nat) : Int) := by
  rw [iI_nat, iI_nat, iI_nat]
  apply Int32.toBitVec_inj.mp
  show BitVec.ofNat 32 a &&& BitVec.ofNat 32 b = BitVec.ofNat 32 (a &&& b)
  rw [BitVec.ofNat_and]
theorem iI_or {a b : Nat} : iI a ||| iI b = iI ((a ||| b : Nat) : Int) := by
  rw [iI_nat, iI_nat, iI_nat]
  apply Int32.toBitVec_inj.mp
  show BitVec.ofNat 32 a ||| BitVec.ofNat 32 b = BitVec.ofNat 32 (a ||| b)
  rw [BitVec.ofNat_or]
theorem iI_not (a : Int) : iI a ^^^ iI (-1) = iI (-1 - a) := by
  apply Int32.toBitVec_inj.mp
  show BitVec.ofInt 32 a ^^^ BitVec.ofInt 32 (-1) = BitVec.ofInt 32 (-1 - a)
  have e : BitVec.ofInt 32 (-1) = BitVec.allOnes 32 := rfl
  rw [e, BitVec.xor_allOnes]
  apply BitVec.eq_of_toInt_eq
  rw [BitVec.toInt_not, BitVec.toInt_ofInt]
  simp [BitVec.toNat_ofInt, Int.bmod_def]
  omega
end
section
/-! THE PLAIN MACHINE: values over whole numbers, a heap whose places are numbered from 8 on as they come; a judgement V over it, out of the kit's W -/
abbrev MV : Type := Int ⊕ (Int64 ⊕ Option Nat)
abbrev vi (z : Int) : MV := .inl z
abbrev vl (x : Int64) : MV := .inr (.inl x)
abbrev vq (r : Option Nat) : MV := .inr (.inr r)
abbrev Sh : Type := Nat ⊕ (Nat × Nat)
/-- shapes, next place, whole numbers, longs, references -/
abbrev St : Type := (Nat → Option Sh) × Nat × (Nat → Nat → Int) × (Nat → Nat → Int64) × (Nat → Nat → Option Nat)
def gl (σ : St) : Nat → Option Sh := σ.1
def gn (σ : St) : Nat := σ.2.1
def gG (σ : St) : Nat → Nat → Int := σ.2.2.1
def gL (σ : St) : Nat → Nat → Int64 := σ.2.2.2.1
def gP (σ : St) : Nat → Nat → Option Nat := σ.2.2.2.2
def up1 {α : Type} (f : Nat → α) (k : Nat) (v : α) : Nat → α := fun j => if j = k then v else f j
def setA (σ : St) (a : Nat) (f : Nat → Int) : St := (gl σ, gn σ, up1 (gG σ) a f, gL σ, gP σ)
def setL (σ : St) (a : Nat) (f : Nat → Int64) : St := (gl σ, gn σ, gG σ, up1 (gL σ) a f, gP σ)
def setP (σ : St) (a : Nat) (f : Nat → Option Nat) : St := (gl σ, gn σ, gG σ, gL σ, up1 (gP σ) a f)
/-- a new place of a shape, all blank -/
def addC (σ : St) (sh : Sh) : St := (up1 (gl σ) (gn σ) (some sh), gn σ + 1, up1 (gG σ) (gn σ) (fun _ => 0), up1 (gL σ) (gn σ) (fun _ => 0), up1 (gP σ) (gn σ) (fun _ => none))
def setG (σ : St) (a k : Nat) (v : Int) : St := setA σ a (up1 (gG σ a) k v)
/-- the launch, the classes' numbers, the arrays' classes, the places, the first new place, the script's length and ints -/
abbrev Gl : Type := Launch × va_G × (Nat → ClassId) × (Nat → Nat) × Nat × Nat × (Nat → Int32)
def gD (g : Gl) : va_G := g.2.1
def gcA (g : Gl) : Nat → ClassId := g.2.2.1
def gad (g : Gl) : Nat → Nat := g.2.2.2.1
def gbs (g : Gl) : Nat := g.2.2.2.2.1
def gL0 (g : Gl) : Nat := g.2.2.2.2.2.1
def gxs (g : Gl) : Nat → Int32 := g.2.2.2.2.2.2
def rv (g : Gl) : MV → Value
  | .inl z => .int (iI z)
  | .inr (.inl x) => .long x
  | .inr (.inr r) => va_rf (r.map (gad g))
def fkT : List (List Nat) := [[0], [2, 2], [2, 2, 2, 2, 0, 0], [0, 0, 0], [2, 2, 2, 2, 2, 0], [2, 2, 0], [0, 0, 0, 0], [2, 2, 2, 2, 0, 0, 0], [2, 2, 2, 2, 0, 0, 0], [0, 2], [2, 2, 0, 2, 2, 0, 2, 2, 2, 2], [2, 2, 2, 0, 0, 0, 0, 2, 0, 0, 0, 2, 0, 2, 2, 0, 0, 0, 2, 2, 0, 0, 0, 0, 2, 2, 2, 2, 2, 2]]
def fk (ci k : Nat) : Nat := (fkT.getD ci []).getD k 0
def fvr (ci k : Nat) (G : Nat → Int) (P : Nat → Option Nat) : MV := if fk ci k = 0 then vi (G k) else vq (P k)
def evr (t : Nat) (G : Nat → Int) (L : Nat → Int64) (P : Nat → Option Nat) (j : Nat) : MV := if t = 1 then vl (L j) else if t < 3 then vi (G j) else vq (P j)
/-- the arrays' types: int, long, byte, Stave, Hoop, Board, Thing, int[] -/
def tyL : List FieldType := [.int, .long, .byte, .object RX6, .object RX3, .object RX0, .object RX9, .array .int]
def tysG (g : Gl) : List (ClassId × FieldType) := [(gcA g 0, .int), (gcA g 1, .long), (gcA g 2, .byte), (gcA g 3, .object RX6), (gcA g 4, .object RX3), (gcA g 5, .object RX0), (gcA g 6, .object RX9), (gcA g 7, .array .int)]
def cellR (g : Gl) (G : Nat → Int) (L : Nat → Int64) (P : Nat → Option Nat) (H : Heap) (a : Nat) : Sh → Prop
  | .inl ci => ∃ r : vw_C, vwCl[ci]? = some r ∧ t_OB (gad g a) ((gD g).1 ci) r.2.2 ((gD g).2 ci) H (fun k => rv g (fvr ci k G P))
  | .inr (t, n) => t < 8 ∧ n < 2147483648 ∧ H[gad g a]? = some (arrV (gcA g t) n (fun j => rv g (evr t G L P j)))
def HR (g : Gl) (σ : St) (H : Heap) : Prop := H.size = gad g (gn σ) ∧ 8 ≤ gn σ ∧ ∀ (a : Nat) (sh : Sh), gl σ a = some sh → (8 ≤ a ∧ a < gn σ) ∧ cellR g (gG σ a) (gL σ a) (gP σ a) H a sh
/-- the arrays that nobody writes: LEAST_RULE, MOST_RULE, STAVE_UNDER, HOOP_UNDER, the script -/
def roN (g : Gl) (a : Nat) : Nat := match a with | 0 => 4 | 1 => 4 | 2 => 5 | 3 => 4 | _ => gL0 g
def roL (l : List Int) : Nat → Int := fun j => l.getD j 0
def roC (g : Gl) (a : Nat) : Nat → Int := match a with
  | 0 => roL [10, 0, 0, -20] | 1 => roL [500, 50, 20, 20] | 2 => roL [-1, 0, 0, 2, 1] | 3 => roL [-1, 0, 0, 1] | _ => fun j => (gxs g j).toInt
def roF (a : Nat) : String := match a with | 0 => "LEAST_RULE" | 1 => "MOST_RULE" | 2 => "STAVE_UNDER" | _ => "HOOP_UNDER"
def gTbl : List Cond := lw_tbl.filter goodWord
def mnTbl : List (String × Nat × MethodName) := [(RX11, 11, yX7_init), (RX11, 33, yX8_init), (RX11, 44, yX5_init), (RX11, 51, yX4_init), (RX11, 58, yX1_init), (RX11, 65, yX2_init), (RX6, 22, yX11_isIn), (RX6, 1, yX9_init), (RX3, 21, yX11_isIn), (RX3, 3, yX9_init), (RX0, 13, yX11_isIn), (RX0, 1, yX9_init), (RX5, 39, yX11_isIn), (RX4, 101, yX11_holds), (RX4, 112, yX11_without), (RX4, 35, yX11_spellRow), (RX2, 62, yX11_holds), (RX2, 51, yX11_rootOf), (RX2, 75, yX11_spellRow), (RX8, 56, yX11_isIn), (RX8, 89, yX11_canRule), (RX10, 3, yX9_init)]
/-- who can be cast to what; who can't -/
def caTbl : List (String × String) := [(RX6, RX9), (RX3, RX9), (RX0, RX9), (RX10, RX9)]
def ncTbl : List (String × String) := [(RX3, RX6), (RX0, RX6), (RX10, RX6), (RX6, RX3), (RX0, RX3), (RX10, RX3), (RX6, RX0), (RX3, RX0), (RX10, RX0), (RX6, RX10), (RX3, RX10), (RX0, RX10)]
def aoTbl : List String := [RX6, RX3, RX0, RX9]
def GOK (g : Gl) : Prop := (∀ a, 8 ≤ a → gad g a = gbs g + (a - 8)) ∧ ∀ a, a < 8 → gad g a < gbs g
/-- what holds of the tables and of the arrays that nobody writes, in every state of the run -/
def KS (g : Gl) (U : State) : Prop :=
  GOK g ∧ gL0 g ≤ 3072 ∧ gbs g ≤ U.heap.size ∧ va_K (gD g) vwCl (tysG g) U ∧ (∀ a, a < 4 → va_Z RX11 (roF a) "[I" (.ref (gad g a)) (fun q => gbs g ≤ q) U U.heap) ∧
  (∀ a, a < 5 → va_T .int (gad g a) (roN g a) (fun j => .int (iI (roC g a j))) (fun q => gbs g ≤ q) U U.heap) ∧
  (∀ q ∈ mnTbl, va_Nw (.methodLinkNest q.1 q.2.1 q.2.2 RX11) U) ∧ (∀ q ∈ caTbl, va_Nw (.castable q.1 q.2) U) ∧ (∀ q ∈ ncTbl, va_Nc q.1 q.2 U) ∧ (∀ q ∈ aoTbl, va_AO q U) ∧ va_Nw (.arrayOver (.array .int)) U ∧ va_Nw (.declares ⟨RX9, "toldAs", "()I"⟩) U
def RelU (g : Gl) (σ : St) (U : State) : Prop := KS g U ∧ HR g σ U.heap
/-- a method: its code, its name, its locals, its answer's type -/
abbrev MI : Type := ByteArray × MethodName × Nat × Option FieldType
def Cx (g : Gl) (mi : MI) (p : Program) (s : State) (m : MethodId) (args : Array Value) (meth : Method) (c : Code) : Prop :=
  p.tables.exec = Jvm.exec ∧ c.code = mi.1 ∧ c.maxLocals = mi.2.2.1 ∧ meth.sig.returnType = mi.2.2.2 ∧ s.vm.findClass mi.2.1.cls = some m.cls ∧ meth.name = mi.2.1.name ∧ (∀ w ∈ gTbl, w.before args s = true) ∧ meth.locks = false ∧ KS g s
/-- the locals by their places -/
def lvl (g : Gl) : Nat → List (Option MV) → List (Nat × Value)
  | _, [] => []
  | i, none :: t => lvl g (i + 1) t
  | i, some v :: t => (i, rv g v) :: lvl g (i + 1) t
abbrev QFT : Type := State → Array Value → List Frame → State → Prop
def V (g : Gl) (mi : MI) (R : Room) (QF : QFT) (pc : Nat) (ls : List (Option MV)) (st : List MV) (k n : Nat) (σ : St) : Prop :=
  ∀ (p : Program) (e : Env) (s : State) (m : MethodId) (args : Array Value) (below : List Frame) (meth : Method) (c : Code) (H : Heap) (locs : List Loc) (la : Array Slot),
    Cx g mi p s m args meth c → HR g σ H → va_S (fun q => gbs g ≤ q) s.heap H locs → lv_has la mi.2.2.1 (lvl g 0 ls) →
    W p g.1 e R s m args below meth c H locs k n (QF s args below) (F0 m pc la (st.map (rv g)))
def QcP (g : Gl) (post : Option MV → St → Prop) : Array Value → State → Outcome → State → Prop := fun _ st o t =>
  (∃ (r : Option MV) (σ' : St), o = .returned (r.map (rv g)) ∧ post r σ' ∧ HR g σ' t.heap) ∧ va_F (fun q => gbs g ≤ q) st t
def QM (g : Gl) (mc ms : Nat) (post : Option MV → St → Prop) : QFT := fun s args below => MQ below (QcP g post) args s mc ms (fun q => gbs g ≤ q)
def rmD (d mc ms : Nat) : Room := { frames := d, cells := mc, slots := ms, locals := 41 * d }
/-- a method's contract: from this state, with these values, within this depth and this many new cells, it returns, and post holds -/
def Ct (g : Gl) (mi : MI) (d mc ms : Nat) (As : List MV) (σ : St) (post : Option MV → St → Prop) : Prop :=
  Met g.1 mi.2.1 (Cond.code mi.2.1 mi.1 mi.2.2.1 mi.2.2.2 :: gTbl) (rmD d mc ms) (va_Pc (As.map (rv g)) (RelU g σ)) (QcP g post) mc ms (fun q => gbs g ≤ q)
/-- the locals with which a method begins -/
def entL : List MV → List (Option MV)
  | [] => []
  | .inr (.inl x) :: t => some (vl x) :: none :: entL t
  | v :: t => some v :: entL t
def padL (n : Nat) (l : List (Option MV)) : List (Option MV) := l ++ List.replicate (n - l.length) none
theorem rv_cat1 (g : Gl) (z : Int) : (rv g (vi z)).category = 1 := rfl
theorem rv_cat2 (g : Gl) (x : Int64) : (rv g (vl x)).category = 2 := rfl
theorem rv_catq (g : Gl) (r : Option Nat) : (rv g (vq r)).category = 1 := by cases r <;> rfl
theorem lvl_ent (g : Gl) : ∀ (As : List MV) (i : Nat), lvl g i (entL As) = lv_args i (As.map (rv g))
  | [], _ => rfl
  | .inl z :: t, i => by
    show (i, rv g (vi z)) :: lvl g (i + 1) (entL t) = _
    rw [lvl_ent g t (i + 1)]; rfl
  | .inr (.inl x) :: t, i => by
    show (i, rv g (vl x)) :: lvl g (i + 1 + 1) (entL t) = _
    rw [lvl_ent g t (i + 1 + 1)]; rfl
  | .inr (.inr r) :: t, i => by
    show (i, rv g (vq r)) :: lvl g (i + 1) (entL t) = _
    rw [lvl_ent g t (i + 1)]
    show _ = (i, rv g (vq r)) :: lv_args (if (rv g (vq r)).category = 2 then i + 2 else i + 1) (t.map (rv g))
    rw [rv_catq]; rfl
theorem lvl_none (g : Gl) : ∀ (n i : Nat), lvl g i (List.replicate n none) = []
  | 0, _ => rfl
  | n + 1, i => lvl_none g n (i + 1)
theorem lvl_app_none (g : Gl) (n : Nat) : ∀ (l : List (Option MV)) (i : Nat), lvl g i (l ++ List.replicate n none) = lvl g i l
  | [], i => lvl_none g n i
  | none :: t, i => lvl_app_none g n t (i + 1)
  | some v :: t, i => by
    exact congrArg (fun q => (i, rv g v) :: q) (lvl_app_none g n t (i + 1))
theorem entL_len (g : Gl) : ∀ (As : List MV), (lg_sl (As.map (rv g))).length = (entL As).length
  | [] => rfl
  | .inl z :: t => by
    show (lg_sl (rv g (vi z) :: t.map (rv g))).length = (entL t).length + 1
    rw [← entL_len g t]; rfl
  | .inr (.inl x) :: t => by
    show (lg_sl (rv g (vl x) :: t.map (rv g))).length = (entL t).length + 1 + 1
    rw [← entL_len g t]; rfl
  | .inr (.inr r) :: t => by
    show (lg_sl (rv g (vq r) :: t.map (rv g))).length = (entL t).length + 1
    rw [← entL_len g t]
    show ((if (rv g (vq r)).category = 2 then [Slot.val (rv g (vq r)), .second] else [Slot.val (rv g (vq r))]) ++ lg_sl (t.map (rv g))).length = _
    rw [rv_catq]; simp
end
section
/-! THE PLAIN MACHINE'S ROWS, one an instruction -/
theorem ks_ok {g : Gl} {U : State} (h : KS g U) : GOK g := h.1
theorem ks_K {g : Gl} {U : State} (h : KS g U) : va_K (gD g) vwCl (tysG g) U := h.2.2.2.1
theorem lvl_mem (g : Gl) : ∀ (ls : List (Option MV)) (i j : Nat) (v : MV), ls[j]? = some (some v) → (i + j, rv g v) ∈ lvl g i ls
  | [], i, j, v, h => by simp at h
  | none :: t, i, 0, v, h => by simp at h
  | none :: t, i, j + 1, v, h => by
    have := lvl_mem g t (i + 1) j v (by simpa using h)
    rw [show i + (j + 1) = i + 1 + j by omega]
    exact this
  | some w :: t, i, 0, v, h => by
    have e : w = v := by simpa using h
    subst e
    exact List.mem_cons_self
  | some w :: t, i, j + 1, v, h => by
    have := lvl_mem g t (i + 1) j v (by simpa using h)
    rw [show i + (j + 1) = i + 1 + j by omega]
    exact List.mem_cons_of_mem _ this
theorem lvl_of (g : Gl) : ∀ (ls : List (Option MV)) (i : Nat) (q : Nat × Value), q ∈ lvl g i ls → ∃ (j : Nat) (v : MV), ls[j]? = some (some v) ∧ q = (i + j, rv g v)
  | [], i, q, h => by cases h
  | none :: t, i, q, h => by
    obtain ⟨j, v, h1, h2⟩ := lvl_of g t (i + 1) q h
    exact ⟨j + 1, v, by simpa using h1, by rw [h2]; congr 1; omega⟩
  | some w :: t, i, q, h => by
    rcases List.mem_cons.mp h with h | h
    · exact ⟨0, w, rfl, h⟩
    · obtain ⟨j, v, h1, h2⟩ := lvl_of g t (i + 1) q h
      exact ⟨j + 1, v, by simpa using h1, by rw [h2]; congr 1; omega⟩
theorem lvl_at {g : Gl} {la : Array Slot} {nL : Nat} {ls : List (Option MV)} (h : lv_has la nL (lvl g 0 ls)) {i : Nat} {v : MV} (hi : ls[i]? = some (some v)) : la[i]? = some (.val (rv g v)) := by
  have := h.2.2 _ (lvl_mem g ls 0 i v hi)
  rwa [Nat.zero_add] at this
/-- no long stands right ahead of place i -/
def noL (ls : List (Option MV)) : Nat → Bool
  | 0 => true
  | j + 1 => match ls[j]? with
    | some (some (.inr (.inl _))) => false
    | _ => true
theorem lvl_set {g : Gl} {la : Array Slot} {nL : Nat} {ls : List (Option MV)} {i : Nat} {v : MV} (hn : noL ls i = true) (h : lv_has la nL ((i, rv g v) :: (lvl g 0 ls).filter (fun q => !(q.1 == i) && !(q.1 + 1 == i && q.2.category == 2)))) : lv_has la nL (lvl g 0 (ls.set i (some v))) := by
  refine ⟨h.1, h.2.1, fun q hq => h.2.2 q ?_⟩
  obtain ⟨j, w, h1, rfl⟩ := lvl_of g _ _ _ hq
  rw [Nat.zero_add]
  rw [List.getElem?_set] at h1
  by_cases e : i = j
  · subst e
    rw [if_pos rfl] at h1
    by_cases hl : i < ls.length
    · rw [if_pos hl] at h1
      cases h1
      exact List.mem_cons_self
    · rw [if_neg hl] at h1
      cases h1
  · rw [if_neg e] at h1
    refine List.mem_cons_of_mem _ (List.mem_filter.mpr ⟨?_, ?_⟩)
    · have := lvl_mem g ls 0 j w h1
      rwa [Nat.zero_add] at this
    · have e2 : (j == i) = false := by simp; omega
      have e3 : (j + 1 == i && (rv g w).category == 2) = false := by
        by_cases h3 : j + 1 = i
        · subst h3
          simp only [noL] at hn
          rw [h1] at hn
          match w, hn with
          | .inl z, _ => simp [rv, Value.category]
          | .inr (.inr r), _ => have := rv_catq g r; simp [this]
        · simp [h3]
      simp [e2, e3]
theorem V_iconst {g : Gl} {mi : MI} {R : Room} {QF : QFT} {pc : Nat} {ls : List (Option MV)} {st : List MV} {k n : Nat} {σ : St} {z : Int} (hd : decode mi.1 pc = .ok (.iconst z, 1)) (kk : V g mi R QF (pc + 1) ls (vi z :: st) k n σ) : V g mi R QF pc ls (st) k n σ := by
  intro p e s m args below meth c H locs la C hH hS hl
  exact lv_iconst C.1 C.2.1 hd rfl (kk p e s m args below meth c H locs la C hH hS hl)
theorem V_bipush {g : Gl} {mi : MI} {R : Room} {QF : QFT} {pc : Nat} {ls : List (Option MV)} {st : List MV} {k n : Nat} {σ : St} {z : Int} (hd : decode mi.1 pc = .ok (.bipush z, 2)) (hv : (Int8.ofInt z).toInt32 = iI z) (kk : V g mi R QF (pc + 2) ls (vi z :: st) k n σ) : V g mi R QF pc ls (st) k n σ := by
  intro p e s m args below meth c H locs la C hH hS hl
  exact lv_bipush C.1 C.2.1 hd hv (kk p e s m args below meth c H locs la C hH hS hl)
theorem V_sipush {g : Gl} {mi : MI} {R : Room} {QF : QFT} {pc : Nat} {ls : List (Option MV)} {st : List MV} {k n : Nat} {σ : St} {z : Int} (hd : decode mi.1 pc = .ok (.sipush z, 3)) (hv : (Int16.ofInt z).toInt32 = iI z) (kk : V g mi R QF (pc + 3) ls (vi z :: st) k n σ) : V g mi R QF pc ls (st) k n σ := by
  intro p e s m args below meth c H locs la C hH hS hl
  exact lv_sipush C.1 C.2.1 hd hv (kk p e s m args below meth c H locs la C hH hS hl)
theorem V_lconst {g : Gl} {mi : MI} {R : Room} {QF : QFT} {pc : Nat} {ls : List (Option MV)} {st : List MV} {k n : Nat} {σ : St} {z : Fin 2} {x : Int64} (hd : decode mi.1 pc = .ok (.lconst z, 1)) (hv : Int64.ofNat (z : Nat) = x) (kk : V g mi R QF (pc + 1) ls (vl x :: st) k n σ) : V g mi R QF pc ls (st) k n σ := by
  intro p e s m args below meth c H locs la C hH hS hl
  exact lv_lconst C.1 C.2.1 hd hv (kk p e s m args below meth c H locs la C hH hS hl)
theorem V_null {g : Gl} {mi : MI} {R : Room} {QF : QFT} {pc : Nat} {ls : List (Option MV)} {st : List MV} {k n : Nat} {σ : St}  (hd : decode mi.1 pc = .ok (.aconst_null, 1)) (kk : V g mi R QF (pc + 1) ls (vq none :: st) k n σ) : V g mi R QF pc ls (st) k n σ := by
  intro p e s m args below meth c H locs la C hH hS hl
  exact lv_null C.1 C.2.1 hd (kk p e s m args below meth c H locs la C hH hS hl)
theorem V_iload_n {g : Gl} {mi : MI} {R : Room} {QF : QFT} {pc : Nat} {ls : List (Option MV)} {st : List MV} {k n : Nat} {σ : St} {i : Fin 4} {x : Int} (hd : decode mi.1 pc = .ok (.iload_n i, 1)) (hi : ls[(i : Nat)]? = some (some (vi x))) (kk : V g mi R QF (pc + 1) ls (vi x :: st) k n σ) : V g mi R QF pc ls (st) k n σ := by
  intro p e s m args below meth c H locs la C hH hS hl
  exact lv_iload_n C.1 C.2.1 hd rfl (lvl_at hl hi) (kk p e s m args below meth c H locs la C hH hS hl)
theorem V_iload {g : Gl} {mi : MI} {R : Room} {QF : QFT} {pc : Nat} {ls : List (Option MV)} {st : List MV} {k n : Nat} {σ : St} {i : Nat} {x : Int} (hd : decode mi.1 pc = .ok (.iload i, 2)) (hi : ls[i]? = some (some (vi x))) (kk : V g mi R QF (pc + 2) ls (vi x :: st) k n σ) : V g mi R QF pc ls (st) k n σ := by
  intro p e s m args below meth c H locs la C hH hS hl
  exact lv_iload C.1 C.2.1 hd (lvl_at hl hi) (kk p e s m args below meth c H locs la C hH hS hl)
theorem V_lload_n {g : Gl} {mi : MI} {R : Room} {QF : QFT} {pc : Nat} {ls : List (Option MV)} {st : List MV} {k n : Nat} {σ : St} {i : Fin 4} {x : Int64} (hd : decode mi.1 pc = .ok (.lload_n i, 1)) (hi : ls[(i : Nat)]? = some (some (vl x))) (kk : V g mi R QF (pc + 1) ls (vl x :: st) k n σ) : V g mi R QF pc ls (st) k n σ := by
  intro p e s m args below meth c H locs la C hH hS hl
  exact lv_lload_n C.1 C.2.1 hd rfl (lvl_at hl hi) (kk p e s m args below meth c H locs la C hH hS hl)
theorem V_aload_n {g : Gl} {mi : MI} {R : Room} {QF : QFT} {pc : Nat} {ls : List (Option MV)} {st : List MV} {k n : Nat} {σ : St} {i : Fin 4} {r : Option Nat} (hd : decode mi.1 pc = .ok (.aload_n i, 1)) (hi : ls[(i : Nat)]? = some (some (vq r))) (kk : V g mi R QF (pc + 1) ls (vq r :: st) k n σ) : V g mi R QF pc ls (st) k n σ := by
  intro p e s m args below meth c H locs la C hH hS hl
  have h1 := lvl_at hl hi
  have h2 := kk p e s m args below meth c H locs la C hH hS hl
  cases r with
  | none => exact lv_aload_nN C.1 C.2.1 hd rfl h1 h2
  | some a => exact lv_aload_n C.1 C.2.1 hd rfl h1 h2
theorem V_aload {g : Gl} {mi : MI} {R : Room} {QF : QFT} {pc : Nat} {ls : List (Option MV)} {st : List MV} {k n : Nat} {σ : St} {i : Nat} {r : Option Nat} (hd : decode mi.1 pc = .ok (.aload i, 2)) (hi : ls[i]? = some (some (vq r))) (kk : V g mi R QF (pc + 2) ls (vq r :: st) k n σ) : V g mi R QF pc ls (st) k n σ := by
  intro p e s m args below meth c H locs la C hH hS hl
  have h1 := lvl_at hl hi
  have h2 := kk p e s m args below meth c H locs la C hH hS hl
  cases r with
  | none => exact lv_aloadN C.1 C.2.1 hd h1 h2
  | some a => exact lv_aload C.1 C.2.1 hd h1 h2
theorem V_istore_n {g : Gl} {mi : MI} {R : Room} {QF : QFT} {pc : Nat} {ls : List (Option MV)} {st : List MV} {k n : Nat} {σ : St} {i : Fin 4} {x : Int} (hd : decode mi.1 pc = .ok (.istore_n i, 1)) (hi : (i : Nat) < mi.2.2.1) (hn : noL ls i = true) (kk : V g mi R QF (pc + 1) (ls.set i (some (vi x))) st k n σ) : V g mi R QF pc ls (vi x :: st) k n σ := by
  intro p e s m args below meth c H locs la C hH hS hl
  exact lv_istore_n C.1 C.2.1 hd rfl hl hi rfl (fun la' hl' => kk p e s m args below meth c H locs la' C hH hS (lvl_set hn hl'))
theorem V_istore {g : Gl} {mi : MI} {R : Room} {QF : QFT} {pc : Nat} {ls : List (Option MV)} {st : List MV} {k n : Nat} {σ : St} {i : Nat} {x : Int} (hd : decode mi.1 pc = .ok (.istore i, 2)) (hi : i < mi.2.2.1) (hn : noL ls i = true) (kk : V g mi R QF (pc + 2) (ls.set i (some (vi x))) st k n σ) : V g mi R QF pc ls (vi x :: st) k n σ := by
  intro p e s m args below meth c H locs la C hH hS hl
  exact lv_istore C.1 C.2.1 hd hl hi rfl (fun la' hl' => kk p e s m args below meth c H locs la' C hH hS (lvl_set hn hl'))
theorem V_astore_n {g : Gl} {mi : MI} {R : Room} {QF : QFT} {pc : Nat} {ls : List (Option MV)} {st : List MV} {k n : Nat} {σ : St} {i : Fin 4} {r : Option Nat} (hd : decode mi.1 pc = .ok (.astore_n i, 1)) (hi : (i : Nat) < mi.2.2.1) (hn : noL ls i = true) (kk : V g mi R QF (pc + 1) (ls.set i (some (vq r))) st k n σ) : V g mi R QF pc ls (vq r :: st) k n σ := by
  intro p e s m args below meth c H locs la C hH hS hl
  cases r with
  | none => exact lv_astore_nN C.1 C.2.1 hd rfl hl hi rfl (fun la' hl' => kk p e s m args below meth c H locs la' C hH hS (lvl_set hn hl'))
  | some a => exact lv_astore_n C.1 C.2.1 hd rfl hl hi rfl (fun la' hl' => kk p e s m args below meth c H locs la' C hH hS (lvl_set hn hl'))
theorem V_astore {g : Gl} {mi : MI} {R : Room} {QF : QFT} {pc : Nat} {ls : List (Option MV)} {st : List MV} {k n : Nat} {σ : St} {i : Nat} {r : Option Nat} (hd : decode mi.1 pc = .ok (.astore i, 2)) (hi : i < mi.2.2.1) (hn : noL ls i = true) (kk : V g mi R QF (pc + 2) (ls.set i (some (vq r))) st k n σ) : V g mi R QF pc ls (vq r :: st) k n σ := by
  intro p e s m args below meth c H locs la C hH hS hl
  cases r with
  | none => exact lv_astoreN C.1 C.2.1 hd hl hi rfl (fun la' hl' => kk p e s m args below meth c H locs la' C hH hS (lvl_set hn hl'))
  | some a => exact lv_astore C.1 C.2.1 hd hl hi rfl (fun la' hl' => kk p e s m args below meth c H locs la' C hH hS (lvl_set hn hl'))
theorem V_iinc {g : Gl} {mi : MI} {R : Room} {QF : QFT} {pc : Nat} {ls : List (Option MV)} {st : List MV} {k n : Nat} {σ : St} {i : Nat} {x z : Int} (hd : decode mi.1 pc = .ok (.iinc i z, 3)) (hx : ls[i]? = some (some (vi x))) (hi : i < mi.2.2.1) (hn : noL ls i = true) (kk : V g mi R QF (pc + 3) (ls.set i (some (vi (x + z)))) st k n σ) : V g mi R QF pc ls st k n σ := by
  intro p e s m args below meth c H locs la C hH hS hl
  obtain ⟨j, hj⟩ := List.getElem?_of_mem (lvl_mem g ls 0 i (vi x) hx)
  rw [Nat.zero_add] at hj
  refine lv_iinc (v := iI (x + z)) C.1 C.2.1 hd hl hj (by rw [iI_add]; rfl) hi rfl (fun la' hl' => kk p e s m args below meth c H locs la' C hH hS (lvl_set (v := vi (x + z)) hn hl'))
theorem V_iadd {g : Gl} {mi : MI} {R : Room} {QF : QFT} {pc : Nat} {ls : List (Option MV)} {st : List MV} {k n : Nat} {σ : St} {x y : Int} (hd : decode mi.1 pc = .ok (.iadd, 1)) (kk : V g mi R QF (pc + 1) ls (vi (x + y) :: st) k n σ) : V g mi R QF pc ls (vi y :: vi x :: st) k n σ := by
  intro p e s m args below meth c H locs la C hH hS hl
  refine lv_iadd C.1 C.2.1 hd ?_
  rw [← iI_add]
  exact kk p e s m args below meth c H locs la C hH hS hl
theorem V_isub {g : Gl} {mi : MI} {R : Room} {QF : QFT} {pc : Nat} {ls : List (Option MV)} {st : List MV} {k n : Nat} {σ : St} {x y : Int} (hd : decode mi.1 pc = .ok (.isub, 1)) (kk : V g mi R QF (pc + 1) ls (vi (x - y) :: st) k n σ) : V g mi R QF pc ls (vi y :: vi x :: st) k n σ := by
  intro p e s m args below meth c H locs la C hH hS hl
  refine lv_isub C.1 C.2.1 hd ?_
  rw [← iI_sub]
  exact kk p e s m args below meth c H locs la C hH hS hl
theorem V_imul {g : Gl} {mi : MI} {R : Room} {QF : QFT} {pc : Nat} {ls : List (Option MV)} {st : List MV} {k n : Nat} {σ : St} {x y : Int} (hd : decode mi.1 pc = .ok (.imul, 1)) (kk : V g mi R QF (pc + 1) ls (vi (x * y) :: st) k n σ) : V g mi R QF pc ls (vi y :: vi x :: st) k n σ := by
  intro p e s m args below meth c H locs la C hH hS hl
  refine lv_imul C.1 C.2.1 hd ?_
  rw [← iI_mul]
  exact kk p e s m args below meth c H locs la C hH hS hl
theorem V_ineg {g : Gl} {mi : MI} {R : Room} {QF : QFT} {pc : Nat} {ls : List (Option MV)} {st : List MV} {k n : Nat} {σ : St} {x : Int} (hd : decode mi.1 pc = .ok (.ineg, 1)) (kk : V g mi R QF (pc + 1) ls (vi (-x) :: st) k n σ) : V g mi R QF pc ls (vi x :: st) k n σ := by
  intro p e s m args below meth c H locs la C hH hS hl
  refine lv_ineg C.1 C.2.1 hd ?_
  rw [← iI_neg]
  exact kk p e s m args below meth c H locs la C hH hS hl
theorem V_idiv {g : Gl} {mi : MI} {R : Room} {QF : QFT} {pc : Nat} {ls : List (Option MV)} {st : List MV} {k n : Nat} {σ : St} {x y : Int} (hd : decode mi.1 pc = .ok (.idiv, 1)) (h : (0 ≤ x ∧ x < 2147483648) ∧ (0 < y ∧ y < 2147483648)) (kk : V g mi R QF (pc + 1) ls (vi (x / y) :: st) k n σ) : V g mi R QF pc ls (vi y :: vi x :: st) k n σ := by
  intro p e s m args below meth c H locs la C hH hS hl
  refine lv_idiv C.1 C.2.1 hd (fun q => absurd ((iI_eq0 ⟨by omega, by omega⟩).mp q) (by omega)) ?_
  rw [iI_div h.1.1 h.1.2 h.2.1 h.2.2]
  exact kk p e s m args below meth c H locs la C hH hS hl
theorem V_irem {g : Gl} {mi : MI} {R : Room} {QF : QFT} {pc : Nat} {ls : List (Option MV)} {st : List MV} {k n : Nat} {σ : St} {x y : Int} (hd : decode mi.1 pc = .ok (.irem, 1)) (h : (0 ≤ x ∧ x < 2147483648) ∧ (0 < y ∧ y < 2147483648)) (kk : V g mi R QF (pc + 1) ls (vi (x % y) :: st) k n σ) : V g mi R QF pc ls (vi y :: vi x :: st) k n σ := by
  intro p e s m args below meth c H locs la C hH hS hl
  refine lv_irem C.1 C.2.1 hd (fun q => absurd ((iI_eq0 ⟨by omega, by omega⟩).mp q) (by omega)) ?_
  rw [iI_rem h.1.1 h.1.2 h.2.1 h.2.2]
  exact kk p e s m args below meth c H locs la C hH hS hl
theorem V_ishl {g : Gl} {mi : MI} {R : Room} {QF : QFT} {pc : Nat} {ls : List (Option MV)} {st : List MV} {k n : Nat} {σ : St} {x y : Int} (hd : decode mi.1 pc = .ok (.ishl, 1)) (h : 0 ≤ y ∧ y < 32) (kk : V g mi R QF (pc + 1) ls (vi (x * 2 ^ y.toNat) :: st) k n σ) : V g mi R QF pc ls (vi y :: vi x :: st) k n σ := by
  intro p e s m args below meth c H locs la C hH hS hl
  refine lv_ishl C.1 C.2.1 hd ?_
  rw [iI_shl h.1 h.2]
  exact kk p e s m args below meth c H locs la C hH hS hl
theorem V_ishr {g : Gl} {mi : MI} {R : Room} {QF : QFT} {pc : Nat} {ls : List (Option MV)} {st : List MV} {k n : Nat} {σ : St} {x y : Int} (hd : decode mi.1 pc = .ok (.ishr, 1)) (h : inR x ∧ (0 ≤ y ∧ y < 32)) (kk : V g mi R QF (pc + 1) ls (vi (x / 2 ^ y.toNat) :: st) k n σ) : V g mi R QF pc ls (vi y :: vi x :: st) k n σ := by
  intro p e s m args below meth c H locs la C hH hS hl
  refine lv_ishr C.1 C.2.1 hd ?_
  rw [iI_shr h.1 h.2.1 h.2.2]
  exact kk p e s m args below meth c H locs la C hH hS hl
/-- and, or of two ints -/
def iAnd (x y : Int) : Int := (iI x &&& iI y).toInt
def iOr (x y : Int) : Int := (iI x ||| iI y).toInt
theorem V_iand1 {g : Gl} {mi : MI} {R : Room} {QF : QFT} {pc : Nat} {ls : List (Option MV)} {st : List MV} {k n : Nat} {σ : St} {x : Int} (hd : decode mi.1 pc = .ok (.iand, 1)) (kk : V g mi R QF (pc + 1) ls (vi (x % 2) :: st) k n σ) : V g mi R QF pc ls (vi 1 :: vi x :: st) k n σ := by
  intro p e s m args below meth c H locs la C hH hS hl
  refine lv_iand C.1 C.2.1 hd ?_
  rw [show iI x &&& iI 1 = iI (x % 2) from iI_and1 x]
  exact kk p e s m args below meth c H locs la C hH hS hl
theorem V_iand {g : Gl} {mi : MI} {R : Room} {QF : QFT} {pc : Nat} {ls : List (Option MV)} {st : List MV} {k n : Nat} {σ : St} {x y : Int} (hd : decode mi.1 pc = .ok (.iand, 1)) (kk : V g mi R QF (pc + 1) ls (vi (iAnd x y) :: st) k n σ) : V g mi R QF pc ls (vi y :: vi x :: st) k n σ := by
  intro p e s m args below meth c H locs la C hH hS hl
  refine lv_iand C.1 C.2.1 hd ?_
  rw [← iI_of (iI x &&& iI y)]
  exact kk p e s m args below meth c H locs la C hH hS hl
theorem V_ior {g : Gl} {mi : MI} {R : Room} {QF : QFT} {pc : Nat} {ls : List (Option MV)} {st : List MV} {k n : Nat} {σ : St} {x y : Int} (hd : decode mi.1 pc = .ok (.ior, 1)) (kk : V g mi R QF (pc + 1) ls (vi (iOr x y) :: st) k n σ) : V g mi R QF pc ls (vi y :: vi x :: st) k n σ := by
  intro p e s m args below meth c H locs la C hH hS hl
  refine lv_ior C.1 C.2.1 hd ?_
  rw [← iI_of (iI x ||| iI y)]
  exact kk p e s m args below meth c H locs la C hH hS hl
theorem V_inot {g : Gl} {mi : MI} {R : Room} {QF : QFT} {pc : Nat} {ls : List (Option MV)} {st : List MV} {k n : Nat} {σ : St} {x : Int} (hd : decode mi.1 pc = .ok (.ixor, 1)) (kk : V g mi R QF (pc + 1) ls (vi (-1 - x) :: st) k n σ) : V g mi R QF pc ls (vi (-1) :: vi x :: st) k n σ := by
  intro p e s m args below meth c H locs la C hH hS hl
  refine lv_ixor C.1 C.2.1 hd ?_
  rw [iI_not]
  exact kk p e s m args below meth c H locs la C hH hS hl
theorem V_i2l {g : Gl} {mi : MI} {R : Room} {QF : QFT} {pc : Nat} {ls : List (Option MV)} {st : List MV} {k n : Nat} {σ : St} {x : Int} (hd : decode mi.1 pc = .ok (.i2l, 1)) (kk : V g mi R QF (pc + 1) ls (vl (iI x).toInt64 :: st) k n σ) : V g mi R QF pc ls (vi x :: st) k n σ := by
  intro p e s m args below meth c H locs la C hH hS hl
  exact lv_i2l C.1 C.2.1 hd rfl (kk p e s m args below meth c H locs la C hH hS hl)
theorem V_l2i {g : Gl} {mi : MI} {R : Room} {QF : QFT} {pc : Nat} {ls : List (Option MV)} {st : List MV} {k n : Nat} {σ : St} {x : Int64} (hd : decode mi.1 pc = .ok (.l2i, 1)) (kk : V g mi R QF (pc + 1) ls (vi x.toInt32.toInt :: st) k n σ) : V g mi R QF pc ls (vl x :: st) k n σ := by
  intro p e s m args below meth c H locs la C hH hS hl
  exact lv_l2i C.1 C.2.1 hd (iI_of _).symm (kk p e s m args below meth c H locs la C hH hS hl)
theorem V_i2b {g : Gl} {mi : MI} {R : Room} {QF : QFT} {pc : Nat} {ls : List (Option MV)} {st : List MV} {k n : Nat} {σ : St} {x : Int} (hd : decode mi.1 pc = .ok (.i2b, 1)) (kk : V g mi R QF (pc + 1) ls (vi (iI x).toInt8.toInt32.toInt :: st) k n σ) : V g mi R QF pc ls (vi x :: st) k n σ := by
  intro p e s m args below meth c H locs la C hH hS hl
  exact lv_i2b C.1 C.2.1 hd (iI_of _).symm (kk p e s m args below meth c H locs la C hH hS hl)
theorem V_ladd {g : Gl} {mi : MI} {R : Room} {QF : QFT} {pc : Nat} {ls : List (Option MV)} {st : List MV} {k n : Nat} {σ : St} {x y : Int64} (hd : decode mi.1 pc = .ok (.ladd, 1)) (kk : V g mi R QF (pc + 1) ls (vl (x + y) :: st) k n σ) : V g mi R QF pc ls (vl y :: vl x :: st) k n σ := by
  intro p e s m args below meth c H locs la C hH hS hl
  exact lv_ladd C.1 C.2.1 hd (kk p e s m args below meth c H locs la C hH hS hl)
theorem V_land {g : Gl} {mi : MI} {R : Room} {QF : QFT} {pc : Nat} {ls : List (Option MV)} {st : List MV} {k n : Nat} {σ : St} {x y : Int64} (hd : decode mi.1 pc = .ok (.land, 1)) (kk : V g mi R QF (pc + 1) ls (vl (x &&& y) :: st) k n σ) : V g mi R QF pc ls (vl y :: vl x :: st) k n σ := by
  intro p e s m args below meth c H locs la C hH hS hl
  exact lv_land C.1 C.2.1 hd (kk p e s m args below meth c H locs la C hH hS hl)
theorem V_lor {g : Gl} {mi : MI} {R : Room} {QF : QFT} {pc : Nat} {ls : List (Option MV)} {st : List MV} {k n : Nat} {σ : St} {x y : Int64} (hd : decode mi.1 pc = .ok (.lor, 1)) (kk : V g mi R QF (pc + 1) ls (vl (x ||| y) :: st) k n σ) : V g mi R QF pc ls (vl y :: vl x :: st) k n σ := by
  intro p e s m args below meth c H locs la C hH hS hl
  exact lv_lor C.1 C.2.1 hd (kk p e s m args below meth c H locs la C hH hS hl)
theorem V_lshl {g : Gl} {mi : MI} {R : Room} {QF : QFT} {pc : Nat} {ls : List (Option MV)} {st : List MV} {k n : Nat} {σ : St} {x : Int64} {y : Int} (hd : decode mi.1 pc = .ok (.lshl, 1)) (kk : V g mi R QF (pc + 1) ls (vl (x <<< ((iI y).toInt64 &&& 63)) :: st) k n σ) : V g mi R QF pc ls (vi y :: vl x :: st) k n σ := by
  intro p e s m args below meth c H locs la C hH hS hl
  exact lv_lshl C.1 C.2.1 hd rfl (kk p e s m args below meth c H locs la C hH hS hl)
theorem V_lcmp {g : Gl} {mi : MI} {R : Room} {QF : QFT} {pc : Nat} {ls : List (Option MV)} {st : List MV} {k n : Nat} {σ : St} {x y : Int64} (hd : decode mi.1 pc = .ok (.lcmp, 1)) (kk : V g mi R QF (pc + 1) ls (vi (lg_cmp x y).toInt :: st) k n σ) : V g mi R QF pc ls (vl y :: vl x :: st) k n σ := by
  intro p e s m args below meth c H locs la C hH hS hl
  refine W.lcmp C.1 C.2.1 hd ?_
  rw [← iI_of (lg_cmp x y)]
  exact kk p e s m args below meth c H locs la C hH hS hl
theorem rv_c1i (g : Gl) (z : Int) : (rv g (vi z)).category = 1 := rfl
/-- of one word -/
def c1 : MV → Bool
  | .inr (.inl _) => false
  | _ => true
theorem rv_c1 {g : Gl} {v : MV} (h : c1 v = true) : (rv g v).category = 1 := by
  match v, h with
  | .inl z, _ => rfl
  | .inr (.inr r), _ => exact rv_catq g r
theorem V_dup {g : Gl} {mi : MI} {R : Room} {QF : QFT} {pc : Nat} {ls : List (Option MV)} {st : List MV} {k n : Nat} {σ : St} {a : MV} (hd : decode mi.1 pc = .ok (.dup, 1)) (h : c1 a = true) (kk : V g mi R QF (pc + 1) ls (a :: a :: st) k n σ) : V g mi R QF pc ls (a :: st) k n σ := by
  intro p e s m args below meth c H locs la C hH hS hl
  exact lv_dup C.1 C.2.1 hd (rv_c1 h) (kk p e s m args below meth c H locs la C hH hS hl)
theorem V_pop {g : Gl} {mi : MI} {R : Room} {QF : QFT} {pc : Nat} {ls : List (Option MV)} {st : List MV} {k n : Nat} {σ : St} {a : MV} (hd : decode mi.1 pc = .ok (.pop, 1)) (h : c1 a = true) (kk : V g mi R QF (pc + 1) ls st k n σ) : V g mi R QF pc ls (a :: st) k n σ := by
  intro p e s m args below meth c H locs la C hH hS hl
  exact lv_pop C.1 C.2.1 hd (rv_c1 h) (kk p e s m args below meth c H locs la C hH hS hl)
theorem V_dup_x1 {g : Gl} {mi : MI} {R : Room} {QF : QFT} {pc : Nat} {ls : List (Option MV)} {st : List MV} {k n : Nat} {σ : St} {a b : MV} (hd : decode mi.1 pc = .ok (.dup_x1, 1)) (h : (c1 a && c1 b) = true) (kk : V g mi R QF (pc + 1) ls (a :: b :: a :: st) k n σ) : V g mi R QF pc ls (a :: b :: st) k n σ := by
  intro p e s m args below meth c H locs la C hH hS hl
  rw [Bool.and_eq_true] at h
  exact lv_dup_x1 C.1 C.2.1 hd (rv_c1 h.1) (rv_c1 h.2) (kk p e s m args below meth c H locs la C hH hS hl)
theorem V_dup_x2 {g : Gl} {mi : MI} {R : Room} {QF : QFT} {pc : Nat} {ls : List (Option MV)} {st : List MV} {k n : Nat} {σ : St} {a b d : MV} (hd : decode mi.1 pc = .ok (.dup_x2, 1)) (h : (c1 a && (c1 b && c1 d)) = true) (kk : V g mi R QF (pc + 1) ls (a :: b :: d :: a :: st) k n σ) : V g mi R QF pc ls (a :: b :: d :: st) k n σ := by
  intro p e s m args below meth c H locs la C hH hS hl
  rw [Bool.and_eq_true, Bool.and_eq_true] at h
  exact lv_dup_x2 C.1 C.2.1 hd (rv_c1 h.1) (rv_c1 h.2.1) (rv_c1 h.2.2) (kk p e s m args below meth c H locs la C hH hS hl)
theorem V_dup2 {g : Gl} {mi : MI} {R : Room} {QF : QFT} {pc : Nat} {ls : List (Option MV)} {st : List MV} {k n : Nat} {σ : St} {a b : MV} (hd : decode mi.1 pc = .ok (.dup2, 1)) (h : (c1 a && c1 b) = true) (kk : V g mi R QF (pc + 1) ls (a :: b :: a :: b :: st) k n σ) : V g mi R QF pc ls (a :: b :: st) k n σ := by
  intro p e s m args below meth c H locs la C hH hS hl
  rw [Bool.and_eq_true] at h
  exact lv_dup2_11 C.1 C.2.1 hd (rv_c1 h.1) (rv_c1 h.2) (kk p e s m args below meth c H locs la C hH hS hl)
theorem V_goto {g : Gl} {mi : MI} {R : Room} {QF : QFT} {pc : Nat} {ls : List (Option MV)} {st : List MV} {k n : Nat} {σ : St} {off : Int} {tgt : Nat} (hd : decode mi.1 pc = .ok (.goto off, 3)) (ht : (pc : Int) + off = (tgt : Int)) (kk : V g mi R QF tgt ls st k n σ) : V g mi R QF pc ls (st) k n σ := by
  intro p e s m args below meth c H locs la C hH hS hl
  exact lv_goto C.1 C.2.1 hd ht (kk p e s m args below meth c H locs la C hH hS hl)
theorem V_ifeq {g : Gl} {mi : MI} {R : Room} {QF : QFT} {pc : Nat} {ls : List (Option MV)} {st : List MV} {k n : Nat} {σ : St} {x : Int} {off : Int} {tgt : Nat} (hd : decode mi.1 pc = .ok (.ifCond .eq off, 3)) (ht : (pc : Int) + off = (tgt : Int)) (hx : inR x) (kt : x = 0 → V g mi R QF tgt ls st k n σ) (kf : ¬ x = 0 → V g mi R QF (pc + 3) ls st k n σ) : V g mi R QF pc ls (vi x :: st) k n σ := by
  intro p e s m args below meth c H locs la C hH hS hl
  exact lv_if_eq C.1 C.2.1 hd ht (fun q => kt ((iI_eq0 hx).mp q) p e s m args below meth c H locs la C hH hS hl) (fun q => kf (fun z => q ((iI_eq0 hx).mpr z)) p e s m args below meth c H locs la C hH hS hl)
theorem V_ifne {g : Gl} {mi : MI} {R : Room} {QF : QFT} {pc : Nat} {ls : List (Option MV)} {st : List MV} {k n : Nat} {σ : St} {x : Int} {off : Int} {tgt : Nat} (hd : decode mi.1 pc = .ok (.ifCond .ne off, 3)) (ht : (pc : Int) + off = (tgt : Int)) (hx : inR x) (kt : x ≠ 0 → V g mi R QF tgt ls st k n σ) (kf : x = 0 → V g mi R QF (pc + 3) ls st k n σ) : V g mi R QF pc ls (vi x :: st) k n σ := by
  intro p e s m args below meth c H locs la C hH hS hl
  exact lv_if_ne C.1 C.2.1 hd ht (fun q => kt (fun z => q ((iI_eq0 hx).mpr z)) p e s m args below meth c H locs la C hH hS hl) (fun q => kf ((iI_eq0 hx).mp q) p e s m args below meth c H locs la C hH hS hl)
theorem V_iflt {g : Gl} {mi : MI} {R : Room} {QF : QFT} {pc : Nat} {ls : List (Option MV)} {st : List MV} {k n : Nat} {σ : St} {x : Int} {off : Int} {tgt : Nat} (hd : decode mi.1 pc = .ok (.ifCond .lt off, 3)) (ht : (pc : Int) + off = (tgt : Int)) (hx : inR x) (kt : x < 0 → V g mi R QF tgt ls st k n σ) (kf : ¬ x < 0 → V g mi R QF (pc + 3) ls st k n σ) : V g mi R QF pc ls (vi x :: st) k n σ := by
  intro p e s m args below meth c H locs la C hH hS hl
  exact lv_if_lt C.1 C.2.1 hd ht (fun q => kt ((iI_lt0 hx).mp q) p e s m args below meth c H locs la C hH hS hl) (fun q => kf (fun z => q ((iI_lt0 hx).mpr z)) p e s m args below meth c H locs la C hH hS hl)
theorem V_ifge {g : Gl} {mi : MI} {R : Room} {QF : QFT} {pc : Nat} {ls : List (Option MV)} {st : List MV} {k n : Nat} {σ : St} {x : Int} {off : Int} {tgt : Nat} (hd : decode mi.1 pc = .ok (.ifCond .ge off, 3)) (ht : (pc : Int) + off = (tgt : Int)) (hx : inR x) (kt : 0 ≤ x → V g mi R QF tgt ls st k n σ) (kf : ¬ 0 ≤ x → V g mi R QF (pc + 3) ls st k n σ) : V g mi R QF pc ls (vi x :: st) k n σ := by
  intro p e s m args below meth c H locs la C hH hS hl
  exact lv_if_ge C.1 C.2.1 hd ht (fun q => kt ((iI_ge0 hx).mp q) p e s m args below meth c H locs la C hH hS hl) (fun q => kf (fun z => q ((iI_ge0 hx).mpr z)) p e s m args below meth c H locs la C hH hS hl)
theorem V_ifgt {g : Gl} {mi : MI} {R : Room} {QF : QFT} {pc : Nat} {ls : List (Option MV)} {st : List MV} {k n : Nat} {σ : St} {x : Int} {off : Int} {tgt : Nat} (hd : decode mi.1 pc = .ok (.ifCond .gt off, 3)) (ht : (pc : Int) + off = (tgt : Int)) (hx : inR x) (kt : 0 < x → V g mi R QF tgt ls st k n σ) (kf : ¬ 0 < x → V g mi R QF (pc + 3) ls st k n σ) : V g mi R QF pc ls (vi x :: st) k n σ := by
  intro p e s m args below meth c H locs la C hH hS hl
  exact lv_if_gt C.1 C.2.1 hd ht (fun q => kt ((iI_gt0 hx).mp q) p e s m args below meth c H locs la C hH hS hl) (fun q => kf (fun z => q ((iI_gt0 hx).mpr z)) p e s m args below meth c H locs la C hH hS hl)
theorem V_ifle {g : Gl} {mi : MI} {R : Room} {QF : QFT} {pc : Nat} {ls : List (Option MV)} {st : List MV} {k n : Nat} {σ : St} {x : Int} {off : Int} {tgt : Nat} (hd : decode mi.1 pc = .ok (.ifCond .le off, 3)) (ht : (pc : Int) + off = (tgt : Int)) (hx : inR x) (kt : x ≤ 0 → V g mi R QF tgt ls st k n σ) (kf : ¬ x ≤ 0 → V g mi R QF (pc + 3) ls st k n σ) : V g mi R QF pc ls (vi x :: st) k n σ := by
  intro p e s m args below meth c H locs la C hH hS hl
  exact lv_if_le C.1 C.2.1 hd ht (fun q => kt ((iI_le0 hx).mp q) p e s m args below meth c H locs la C hH hS hl) (fun q => kf (fun z => q ((iI_le0 hx).mpr z)) p e s m args below meth c H locs la C hH hS hl)
theorem V_icmpeq {g : Gl} {mi : MI} {R : Room} {QF : QFT} {pc : Nat} {ls : List (Option MV)} {st : List MV} {k n : Nat} {σ : St} {x y : Int} {off : Int} {tgt : Nat} (hd : decode mi.1 pc = .ok (.if_icmp .eq off, 3)) (ht : (pc : Int) + off = (tgt : Int)) (hx : inR x) (hy : inR y) (kt : x = y → V g mi R QF tgt ls st k n σ) (kf : ¬ x = y → V g mi R QF (pc + 3) ls st k n σ) : V g mi R QF pc ls (vi y :: vi x :: st) k n σ := by
  intro p e s m args below meth c H locs la C hH hS hl
  exact lv_icmp_eq C.1 C.2.1 hd ht (fun q => kt ((iI_eq hx hy).mp q) p e s m args below meth c H locs la C hH hS hl) (fun q => kf (fun z => q ((iI_eq hx hy).mpr z)) p e s m args below meth c H locs la C hH hS hl)
theorem V_icmpne {g : Gl} {mi : MI} {R : Room} {QF : QFT} {pc : Nat} {ls : List (Option MV)} {st : List MV} {k n : Nat} {σ : St} {x y : Int} {off : Int} {tgt : Nat} (hd : decode mi.1 pc = .ok (.if_icmp .ne off, 3)) (ht : (pc : Int) + off = (tgt : Int)) (hx : inR x) (hy : inR y) (kt : x ≠ y → V g mi R QF tgt ls st k n σ) (kf : x = y → V g mi R QF (pc + 3) ls st k n σ) : V g mi R QF pc ls (vi y :: vi x :: st) k n σ := by
  intro p e s m args below meth c H locs la C hH hS hl
  exact lv_icmp_ne C.1 C.2.1 hd ht (fun q => kt (fun z => q ((iI_eq hx hy).mpr z)) p e s m args below meth c H locs la C hH hS hl) (fun q => kf ((iI_eq hx hy).mp q) p e s m args below meth c H locs la C hH hS hl)
theorem V_icmplt {g : Gl} {mi : MI} {R : Room} {QF : QFT} {pc : Nat} {ls : List (Option MV)} {st : List MV} {k n : Nat} {σ : St} {x y : Int} {off : Int} {tgt : Nat} (hd : decode mi.1 pc = .ok (.if_icmp .lt off, 3)) (ht : (pc : Int) + off = (tgt : Int)) (hx : inR x) (hy : inR y) (kt : x < y → V g mi R QF tgt ls st k n σ) (kf : ¬ x < y → V g mi R QF (pc + 3) ls st k n σ) : V g mi R QF pc ls (vi y :: vi x :: st) k n σ := by
  intro p e s m args below meth c H locs la C hH hS hl
  exact lv_icmp_lt C.1 C.2.1 hd ht (fun q => kt ((iI_lt hx hy).mp q) p e s m args below meth c H locs la C hH hS hl) (fun q => kf (fun z => q ((iI_lt hx hy).mpr z)) p e s m args below meth c H locs la C hH hS hl)
theorem V_icmpge {g : Gl} {mi : MI} {R : Room} {QF : QFT} {pc : Nat} {ls : List (Option MV)} {st : List MV} {k n : Nat} {σ : St} {x y : Int} {off : Int} {tgt : Nat} (hd : decode mi.1 pc = .ok (.if_icmp .ge off, 3)) (ht : (pc : Int) + off = (tgt : Int)) (hx : inR x) (hy : inR y) (kt : y ≤ x → V g mi R QF tgt ls st k n σ) (kf : ¬ y ≤ x → V g mi R QF (pc + 3) ls st k n σ) : V g mi R QF pc ls (vi y :: vi x :: st) k n σ := by
  intro p e s m args below meth c H locs la C hH hS hl
  exact lv_icmp_ge C.1 C.2.1 hd ht (fun q => kt ((iI_le hy hx).mp q) p e s m args below meth c H locs la C hH hS hl) (fun q => kf (fun z => q ((iI_le hy hx).mpr z)) p e s m args below meth c H locs la C hH hS hl)
theorem V_icmpgt {g : Gl} {mi : MI} {R : Room} {QF : QFT} {pc : Nat} {ls : List (Option MV)} {st : List MV} {k n : Nat} {σ : St} {x y : Int} {off : Int} {tgt : Nat} (hd : decode mi.1 pc = .ok (.if_icmp .gt off, 3)) (ht : (pc : Int) + off = (tgt : Int)) (hx : inR x) (hy : inR y) (kt : y < x → V g mi R QF tgt ls st k n σ) (kf : ¬ y < x → V g mi R QF (pc + 3) ls st k n σ) : V g mi R QF pc ls (vi y :: vi x :: st) k n σ := by
  intro p e s m args below meth c H locs la C hH hS hl
  exact lv_icmp_gt C.1 C.2.1 hd ht (fun q => kt ((iI_lt hy hx).mp q) p e s m args below meth c H locs la C hH hS hl) (fun q => kf (fun z => q ((iI_lt hy hx).mpr z)) p e s m args below meth c H locs la C hH hS hl)
theorem V_icmple {g : Gl} {mi : MI} {R : Room} {QF : QFT} {pc : Nat} {ls : List (Option MV)} {st : List MV} {k n : Nat} {σ : St} {x y : Int} {off : Int} {tgt : Nat} (hd : decode mi.1 pc = .ok (.if_icmp .le off, 3)) (ht : (pc : Int) + off = (tgt : Int)) (hx : inR x) (hy : inR y) (kt : x ≤ y → V g mi R QF tgt ls st k n σ) (kf : ¬ x ≤ y → V g mi R QF (pc + 3) ls st k n σ) : V g mi R QF pc ls (vi y :: vi x :: st) k n σ := by
  intro p e s m args below meth c H locs la C hH hS hl
  exact lv_icmp_le C.1 C.2.1 hd ht (fun q => kt ((iI_le hx hy).mp q) p e s m args below meth c H locs la C hH hS hl) (fun q => kf (fun z => q ((iI_le hx hy).mpr z)) p e s m args below meth c H locs la C hH hS hl)
theorem V_ifnull {g : Gl} {mi : MI} {R : Room} {QF : QFT} {pc : Nat} {ls : List (Option MV)} {st : List MV} {k n : Nat} {σ : St} {r : Option Nat} {off : Int} {tgt : Nat} (hd : decode mi.1 pc = .ok (.ifnull off, 3)) (ht : (pc : Int) + off = (tgt : Int)) (kt : r = none → V g mi R QF tgt ls st k n σ) (kf : ∀ a, r = some a → V g mi R QF (pc + 3) ls st k n σ) : V g mi R QF pc ls (vq r :: st) k n σ := by
  intro p e s m args below meth c H locs la C hH hS hl
  cases r with
  | none => exact lv_ifnullN C.1 C.2.1 hd ht (kt rfl p e s m args below meth c H locs la C hH hS hl)
  | some a => exact lv_ifnull C.1 C.2.1 hd (kf a rfl p e s m args below meth c H locs la C hH hS hl)
theorem V_ifnonnull {g : Gl} {mi : MI} {R : Room} {QF : QFT} {pc : Nat} {ls : List (Option MV)} {st : List MV} {k n : Nat} {σ : St} {r : Option Nat} {off : Int} {tgt : Nat} (hd : decode mi.1 pc = .ok (.ifnonnull off, 3)) (ht : (pc : Int) + off = (tgt : Int)) (kt : ∀ a, r = some a → V g mi R QF tgt ls st k n σ) (kf : r = none → V g mi R QF (pc + 3) ls st k n σ) : V g mi R QF pc ls (vq r :: st) k n σ := by
  intro p e s m args below meth c H locs la C hH hS hl
  cases r with
  | none => exact lv_ifnonnullN C.1 C.2.1 hd (kf rfl p e s m args below meth c H locs la C hH hS hl)
  | some a => exact lv_ifnonnull C.1 C.2.1 hd ht (kt a rfl p e s m args below meth c H locs la C hH hS hl)
theorem V_tableOut {g : Gl} {mi : MI} {R : Room} {QF : QFT} {pc : Nat} {ls : List (Option MV)} {st : List MV} {k n : Nat} {σ : St} {dflt lo hi : Int} {offs : Array Int} {len : Nat} {x : Int} {tgt : Nat} (hd : decode mi.1 pc = .ok (.tableswitch dflt lo hi offs, len)) (hx : inR x) (h : x < lo ∨ hi < x) (ht : (pc : Int) + dflt = (tgt : Int)) (kk : V g mi R QF tgt ls st k n σ) : V g mi R QF pc ls (vi x :: st) k n σ := by
  intro p e s m args below meth c H locs la C hH hS hl
  exact lv_tableOut C.1 C.2.1 hd (by rw [iI_toInt hx]; exact h) ht (kk p e s m args below meth c H locs la C hH hS hl)
theorem V_tableIn {g : Gl} {mi : MI} {R : Room} {QF : QFT} {pc : Nat} {ls : List (Option MV)} {st : List MV} {k n : Nat} {σ : St} {dflt lo hi : Int} {offs : Array Int} {len : Nat} {x : Int} {off : Int} {tgt : Nat} (hd : decode mi.1 pc = .ok (.tableswitch dflt lo hi offs, len)) (hx : inR x) (h : lo ≤ x ∧ x ≤ hi) (ho : offs[(x - lo).toNat]? = some off) (ht : (pc : Int) + off = (tgt : Int)) (kk : V g mi R QF tgt ls st k n σ) : V g mi R QF pc ls (vi x :: st) k n σ := by
  intro p e s m args below meth c H locs la C hH hS hl
  exact lv_tableIn C.1 C.2.1 hd (by rw [iI_toInt hx]; omega) (by rw [iI_toInt hx]; omega) (by rw [iI_toInt hx]; exact ho) ht (kk p e s m args below meth c H locs la C hH hS hl)
theorem V_lookup {g : Gl} {mi : MI} {R : Room} {QF : QFT} {pc : Nat} {ls : List (Option MV)} {st : List MV} {k n : Nat} {σ : St} {dflt : Int} {ps : Array (Int × Int)} {len : Nat} {x : Int} {off : Int} {tgt : Nat} (hd : decode mi.1 pc = .ok (.lookupswitch dflt ps, len)) (hx : inR x) (hp : (ps.toList.zip (ps.toList.drop 1)).all (fun (a, next) => a.1 < next.1) = true) (ho : Op.lookupswitch.offset ps.toList dflt x = off) (ht : (pc : Int) + off = (tgt : Int)) (kk : V g mi R QF tgt ls st k n σ) : V g mi R QF pc ls (vi x :: st) k n σ := by
  intro p e s m args below meth c H locs la C hH hS hl
  exact lv_lookup C.1 C.2.1 hd hp (by rw [iI_toInt hx]; exact ho) ht (kk p e s m args below meth c H locs la C hH hS hl)
/-- other locals: a part of what is held -/
theorem V_locs {g : Gl} {mi : MI} {R : Room} {QF : QFT} {pc : Nat} {ls ls' : List (Option MV)} {st : List MV} {k n : Nat} {σ : St} (h : ∀ (j : Nat) (v : MV), ls'[j]? = some (some v) → ls[j]? = some (some v)) (kk : V g mi R QF pc ls' st k n σ) : V g mi R QF pc ls st k n σ := by
  intro p e s m args below meth c H locs la C hH hS hl
  refine kk p e s m args below meth c H locs la C hH hS ⟨hl.1, hl.2.1, fun q hq => ?_⟩
  obtain ⟨j, v, h1, rfl⟩ := lvl_of g _ _ _ hq
  exact hl.2.2 _ (lvl_mem g ls 0 j v (h j v h1))
theorem V_more {g : Gl} {mi : MI} {R : Room} {QF : QFT} {pc : Nat} {ls : List (Option MV)} {st : List MV} {k n k' n' : Nat} {σ : St} (h1 : k ≤ k') (h2 : n ≤ n') (kk : V g mi R QF pc ls st k' n' σ) : V g mi R QF pc ls st k n σ :=
  fun p e s m args below meth c H locs la C hH hS hl => W.widen h1 h2 (kk p e s m args below meth c H locs la C hH hS hl)
end
section
/-! the heap's rows -/
theorem gad_inj {g : Gl} (h : GOK g) {a b : Nat} (ha : 8 ≤ a) (hb : 8 ≤ b) (e : gad g a = gad g b) : a = b := by
  have h1 := h.1 a ha
  have h2 := h.1 b hb
  omega
theorem gad_bs {g : Gl} (h : GOK g) {a : Nat} (ha : 8 ≤ a) : gbs g ≤ gad g a := by
  have h1 := h.1 a ha
  omega
theorem cellR.kept {g : Gl} {G : Nat → Int} {L : Nat → Int64} {P : Nat → Option Nat} {H H1 : Heap} {a : Nat} {sh : Sh} (h : cellR g G L P H a sh) (hq : H1[gad g a]? = H[gad g a]?) : cellR g G L P H1 a sh := by
  match sh, h with
  | .inl ci, h =>
    obtain ⟨r, h1, h2⟩ := h
    exact ⟨r, h1, h2.kept hq⟩
  | .inr (t, n), h => exact ⟨h.1, h.2.1, by rw [hq]; exact h.2.2⟩
/-- one place written: the rest stays -/
theorem HR.set {g : Gl} {σ σ' : St} {H H1 : Heap} {a : Nat} {sh : Sh} (hg : GOK g) (h : HR g σ H) (ha : gl σ a = some sh) (hz : H1.size = H.size) (hq : ∀ q : Nat, q ≠ gad g a → H1[q]? = H[q]?)
    (e1 : gl σ' = gl σ) (e2 : gn σ' = gn σ) (e3 : ∀ b, b ≠ a → gG σ' b = gG σ b ∧ gL σ' b = gL σ b ∧ gP σ' b = gP σ b) (hc : cellR g (gG σ' a) (gL σ' a) (gP σ' a) H1 a sh) : HR g σ' H1 := by
  refine ⟨by rw [hz, e2]; exact h.1, by rw [e2]; exact h.2.1, fun b shb hb => ?_⟩
  rw [e1] at hb
  obtain ⟨h1, h2⟩ := h.2.2 b shb hb
  rw [e2]
  refine ⟨h1, ?_⟩
  by_cases e : b = a
  · subst e
    cases ha.symm.trans hb
    exact hc
  · obtain ⟨x1, x2, x3⟩ := e3 b e
    rw [x1, x2, x3]
    refine h2.kept (hq _ fun q => e ?_)
    exact gad_inj hg h1.1 (h.2.2 a sh ha).1.1 q
theorem vaS_put {g : Gl} {H0 H H1 : Heap} {locs : List Loc} {a k : Nat} (hg : GOK g) (ha : 8 ≤ a) (h : va_S (fun q => gbs g ≤ q) H0 H locs) (z : H1.size = H.size) (oq : ∀ q : Nat, q ≠ gad g a → H1[q]? = H[q]?) : va_S (fun q => gbs g ≤ q) H0 H1 (locs ++ [⟨gad g a, k⟩]) :=
  h.put z oq (gad_bs hg ha)
theorem gG_setA (σ : St) (a : Nat) (f : Nat → Int) (b : Nat) : gG (setA σ a f) b = if b = a then f else gG σ b := rfl
theorem gL_setA (σ : St) (a : Nat) (f : Nat → Int) : gL (setA σ a f) = gL σ := rfl
theorem gP_setA (σ : St) (a : Nat) (f : Nat → Int) : gP (setA σ a f) = gP σ := rfl
theorem gl_setA (σ : St) (a : Nat) (f : Nat → Int) : gl (setA σ a f) = gl σ := rfl
theorem gn_setA (σ : St) (a : Nat) (f : Nat → Int) : gn (setA σ a f) = gn σ := rfl
theorem gG_setL (σ : St) (a : Nat) (f : Nat → Int64) : gG (setL σ a f) = gG σ := rfl
theorem gL_setL (σ : St) (a : Nat) (f : Nat → Int64) (b : Nat) : gL (setL σ a f) b = if b = a then f else gL σ b := rfl
theorem gP_setL (σ : St) (a : Nat) (f : Nat → Int64) : gP (setL σ a f) = gP σ := rfl
theorem gl_setL (σ : St) (a : Nat) (f : Nat → Int64) : gl (setL σ a f) = gl σ := rfl
theorem gn_setL (σ : St) (a : Nat) (f : Nat → Int64) : gn (setL σ a f) = gn σ := rfl
theorem gG_setP (σ : St) (a : Nat) (f : Nat → Option Nat) : gG (setP σ a f) = gG σ := rfl
theorem gL_setP (σ : St) (a : Nat) (f : Nat → Option Nat) : gL (setP σ a f) = gL σ := rfl
theorem gP_setP (σ : St) (a : Nat) (f : Nat → Option Nat) (b : Nat) : gP (setP σ a f) b = if b = a then f else gP σ b := rfl
theorem gl_setP (σ : St) (a : Nat) (f : Nat → Option Nat) : gl (setP σ a f) = gl σ := rfl
theorem gn_setP (σ : St) (a : Nat) (f : Nat → Option Nat) : gn (setP σ a f) = gn σ := rfl
theorem HR.setA {g : Gl} {σ : St} {H H1 : Heap} {a : Nat} {sh : Sh} {f : Nat → Int} (hg : GOK g) (h : HR g σ H) (ha : gl σ a = some sh) (hz : H1.size = H.size) (hq : ∀ q : Nat, q ≠ gad g a → H1[q]? = H[q]?) (hc : cellR g f (gL σ a) (gP σ a) H1 a sh) : HR g (setA σ a f) H1 :=
  h.set hg ha hz hq rfl rfl (fun b hb => ⟨by rw [gG_setA, if_neg hb], rfl, rfl⟩) (by rw [gG_setA, if_pos rfl]; exact hc)
theorem HR.setL {g : Gl} {σ : St} {H H1 : Heap} {a : Nat} {sh : Sh} {f : Nat → Int64} (hg : GOK g) (h : HR g σ H) (ha : gl σ a = some sh) (hz : H1.size = H.size) (hq : ∀ q : Nat, q ≠ gad g a → H1[q]? = H[q]?) (hc : cellR g (gG σ a) f (gP σ a) H1 a sh) : HR g (setL σ a f) H1 :=
  h.set hg ha hz hq rfl rfl (fun b hb => ⟨rfl, by rw [gL_setL, if_neg hb], rfl⟩) (by rw [gL_setL, if_pos rfl]; exact hc)
theorem HR.setP {g : Gl} {σ : St} {H H1 : Heap} {a : Nat} {sh : Sh} {f : Nat → Option Nat} (hg : GOK g) (h : HR g σ H) (ha : gl σ a = some sh) (hz : H1.size = H.size) (hq : ∀ q : Nat, q ≠ gad g a → H1[q]? = H[q]?) (hc : cellR g (gG σ a) (gL σ a) f H1 a sh) : HR g (setP σ a f) H1 :=
  h.set hg ha hz hq rfl rfl (fun b hb => ⟨rfl, rfl, by rw [gP_setP, if_neg hb]⟩) (by rw [gP_setP, if_pos rfl]; exact hc)
/-- a field's link: class number ci, its field k -/
def FL (own : String) (idx ci k : Nat) : Prop := ∃ r : vw_C, vwCl[ci]? = some r ∧ k < r.2.2 ∧ Cond.fieldLink own idx (r.2.1 k).1 (r.2.1 k).2.1 (r.2.1 k).2.2.1 ∈ gTbl ∧ (∀ w ∈ u_ws r.1 r.2.1 r.2.2, w ∈ gTbl)
theorem V_getfV {g : Gl} {mi : MI} {R : Room} {QF : QFT} {pc : Nat} {ls : List (Option MV)} {st : List MV} {k n : Nat} {σ : St} {idx ci f a : Nat} (hd : decode mi.1 pc = .ok (.getfield idx, 3)) (hF : FL mi.2.1.cls idx ci f) (ha : gl σ a = some (.inl ci))
    (kk : V g mi R QF (pc + 3) ls (fvr ci f (gG σ a) (gP σ a) :: st) k n σ) : V g mi R QF pc ls (vq (some a) :: st) k n σ := by
  intro p e s m args below meth c H locs la C hH hS hl
  obtain ⟨r, h1, h2, h3, h4⟩ := hF
  obtain ⟨-, r', h5, cell, q1, q2, q3, q4⟩ := hH.2.2 a _ ha
  cases h1.symm.trans h5
  obtain ⟨hSl, hfc, kC, hkC, hkind⟩ := (ks_K C.2.2.2.2.2.2.2.2).1 ci _ h1
  obtain ⟨cf, kf, fi, fd, hi, hsl⟩ := hSl f h2
  have hts := C.2.2.2.2.2.2.1
  refine W.getf C.1 C.2.1 C.2.2.2.2.1 (hts _ h3) hi (u_facts hfc hkC (u_lays hts h4 h2) hi).1 q1 (by rw [q3]; exact fun h => by cases h) (v := rv g (fvr ci f (gG σ a) (gP σ a))) ?_ rfl rfl hd (kk p e s m args below meth c H locs la C hH hS hl)
  rw [hsl, q4 f h2]
theorem V_getfi {g : Gl} {mi : MI} {R : Room} {QF : QFT} {pc : Nat} {ls : List (Option MV)} {st : List MV} {k n : Nat} {σ : St} {idx ci f a : Nat} (hd : decode mi.1 pc = .ok (.getfield idx, 3)) (hF : FL mi.2.1.cls idx ci f) (hk : fk ci f = 0) (ha : gl σ a = some (.inl ci))
    (kk : V g mi R QF (pc + 3) ls (vi (gG σ a f) :: st) k n σ) : V g mi R QF pc ls (vq (some a) :: st) k n σ :=
  V_getfV hd hF ha (by rw [show fvr ci f (gG σ a) (gP σ a) = vi (gG σ a f) from if_pos hk]; exact kk)
theorem V_getfr {g : Gl} {mi : MI} {R : Room} {QF : QFT} {pc : Nat} {ls : List (Option MV)} {st : List MV} {k n : Nat} {σ : St} {idx ci f a : Nat} {b : Option Nat} (hd : decode mi.1 pc = .ok (.getfield idx, 3)) (hF : FL mi.2.1.cls idx ci f) (hk : ¬ fk ci f = 0) (ha : gl σ a = some (.inl ci)) (hb : gP σ a f = b)
    (kk : V g mi R QF (pc + 3) ls (vq b :: st) k n σ) : V g mi R QF pc ls (vq (some a) :: st) k n σ :=
  V_getfV hd hF ha (by rw [show fvr ci f (gG σ a) (gP σ a) = vq (gP σ a f) from if_neg hk, hb]; exact kk)
/-- arrays -/
theorem arr_in {z : Int} {N : Nat} (h : 0 ≤ z ∧ z < N) (hN : N < 2147483648) : vp_in (iI z) N ∧ (iI z).toNatClampNeg = z.toNat ∧ z.toNat < N := ⟨iI_in h.1 h.2 hN, iI_clamp h.1 (by omega), by omega⟩
theorem V_iald {g : Gl} {mi : MI} {R : Room} {QF : QFT} {pc : Nat} {ls : List (Option MV)} {st : List MV} {k n : Nat} {σ : St} {a N : Nat} {i : Int} (hd : decode mi.1 pc = .ok (.iaload, 1)) (ha : gl σ a = some (.inr (0, N))) (hi : 0 ≤ i ∧ i < N)
    (kk : V g mi R QF (pc + 1) ls (vi (gG σ a i.toNat) :: st) k n σ) : V g mi R QF pc ls (vi i :: vq (some a) :: st) k n σ := by
  intro p e s m args below meth c H locs la C hH hS hl
  obtain ⟨-, -, hN, hc⟩ := hH.2.2 a _ ha
  obtain ⟨z1, z2, z3⟩ := arr_in hi hN
  refine W.iald (v := .int (iI (gG σ a i.toNat))) C.1 C.2.1 hc (((ks_K C.2.2.2.2.2.2.2.2).2 0 _ rfl).1 _ _) (fun q => by cases q) (by rw [arrV_size]; exact z1) (by rw [z2, arrV_read _ _ z3]; rfl) rfl rfl hd (kk p e s m args below meth c H locs la C hH hS hl)
theorem V_bald {g : Gl} {mi : MI} {R : Room} {QF : QFT} {pc : Nat} {ls : List (Option MV)} {st : List MV} {k n : Nat} {σ : St} {a N : Nat} {i : Int} (hd : decode mi.1 pc = .ok (.baload, 1)) (ha : gl σ a = some (.inr (2, N))) (hi : 0 ≤ i ∧ i < N)
    (kk : V g mi R QF (pc + 1) ls (vi (gG σ a i.toNat) :: st) k n σ) : V g mi R QF pc ls (vi i :: vq (some a) :: st) k n σ := by
  intro p e s m args below meth c H locs la C hH hS hl
  obtain ⟨-, -, hN, hc⟩ := hH.2.2 a _ ha
  obtain ⟨z1, z2, z3⟩ := arr_in hi hN
  refine W.bald (v := .int (iI (gG σ a i.toNat))) C.1 C.2.1 hc (((ks_K C.2.2.2.2.2.2.2.2).2 2 _ rfl).1 _ _) (fun q => by cases q) (by rw [arrV_size]; exact z1) (by rw [z2, arrV_read _ _ z3]; rfl) rfl rfl hd (kk p e s m args below meth c H locs la C hH hS hl)
theorem V_lald {g : Gl} {mi : MI} {R : Room} {QF : QFT} {pc : Nat} {ls : List (Option MV)} {st : List MV} {k n : Nat} {σ : St} {a N : Nat} {i : Int} (hd : decode mi.1 pc = .ok (.laload, 1)) (ha : gl σ a = some (.inr (1, N))) (hi : 0 ≤ i ∧ i < N)
    (kk : V g mi R QF (pc + 1) ls (vl (gL σ a i.toNat) :: st) k n σ) : V g mi R QF pc ls (vi i :: vq (some a) :: st) k n σ := by
  intro p e s m args below meth c H locs la C hH hS hl
  obtain ⟨-, -, hN, hc⟩ := hH.2.2 a _ ha
  obtain ⟨z1, z2, z3⟩ := arr_in hi hN
  refine W.lald (v := .long (gL σ a i.toNat)) C.1 C.2.1 hc (((ks_K C.2.2.2.2.2.2.2.2).2 1 _ rfl).1 _ _) (fun q => by cases q) (by rw [arrV_size]; exact z1) (by rw [z2, arrV_read _ _ z3]; rfl) rfl rfl hd (kk p e s m args below meth c H locs la C hH hS hl)
theorem ty_ref {t : Nat} (h3 : 3 ≤ t) (h8 : t < 8) (g : Gl) : ∃ ty, (tysG g)[t]? = some (gcA g t, ty) ∧ ty.isReference = true := by
  match t, h3, h8 with
  | 3, _, _ => exact ⟨_, rfl, rfl⟩
  | 4, _, _ => exact ⟨_, rfl, rfl⟩
  | 5, _, _ => exact ⟨_, rfl, rfl⟩
  | 6, _, _ => exact ⟨_, rfl, rfl⟩
  | 7, _, _ => exact ⟨_, rfl, rfl⟩
theorem evr_ref {t : Nat} (h3 : 3 ≤ t) (G : Nat → Int) (L : Nat → Int64) (P : Nat → Option Nat) (j : Nat) : evr t G L P j = vq (P j) := by
  unfold evr
  rw [if_neg (by omega), if_neg (by omega)]
theorem V_aald {g : Gl} {mi : MI} {R : Room} {QF : QFT} {pc : Nat} {ls : List (Option MV)} {st : List MV} {k n : Nat} {σ : St} {a t N : Nat} {i : Int} {b : Option Nat} (hd : decode mi.1 pc = .ok (.aaload, 1)) (ha : gl σ a = some (.inr (t, N))) (h3 : 3 ≤ t) (hi : 0 ≤ i ∧ i < N) (hb : gP σ a i.toNat = b)
    (kk : V g mi R QF (pc + 1) ls (vq b :: st) k n σ) : V g mi R QF pc ls (vi i :: vq (some a) :: st) k n σ := by
  intro p e s m args below meth c H locs la C hH hS hl
  subst hb
  obtain ⟨-, h8, hN, hc⟩ := hH.2.2 a _ ha
  obtain ⟨z1, z2, z3⟩ := arr_in hi hN
  obtain ⟨ty, t1, t2⟩ := ty_ref h3 h8 g
  refine W.aald (v := rv g (vq (gP σ a i.toNat))) C.1 C.2.1 hc (((ks_K C.2.2.2.2.2.2.2.2).2 t _ t1).1 _ _) t2 (fun q => by cases q) (by rw [arrV_size]; exact z1) (by rw [z2, arrV_read _ _ z3, evr_ref h3]) rfl rfl hd (kk p e s m args below meth c H locs la C hH hS hl)
theorem V_alen {g : Gl} {mi : MI} {R : Room} {QF : QFT} {pc : Nat} {ls : List (Option MV)} {st : List MV} {k n : Nat} {σ : St} {a t N : Nat} (hd : decode mi.1 pc = .ok (.arraylength, 1)) (ha : gl σ a = some (.inr (t, N)))
    (kk : V g mi R QF (pc + 1) ls (vi (N : Int) :: st) k n σ) : V g mi R QF pc ls (vq (some a) :: st) k n σ := by
  intro p e s m args below meth c H locs la C hH hS hl
  obtain ⟨-, h8, hN, hc⟩ := hH.2.2 a _ ha
  obtain ⟨ty, ht⟩ : ∃ ty, (tysG g)[t]? = some (gcA g t, ty) := by
    match t, h8 with
    | 0, _ => exact ⟨_, rfl⟩
    | 1, _ => exact ⟨_, rfl⟩
    | 2, _ => exact ⟨_, rfl⟩
    | 3, _ => exact ⟨_, rfl⟩
    | 4, _ => exact ⟨_, rfl⟩
    | 5, _ => exact ⟨_, rfl⟩
    | 6, _ => exact ⟨_, rfl⟩
    | 7, _ => exact ⟨_, rfl⟩
  exact W.alen C.1 C.2.1 hc (((ks_K C.2.2.2.2.2.2.2.2).2 t _ ht).1 _ _) (by rw [arrV_size]; rfl) rfl rfl hd (kk p e s m args below meth c H locs la C hH hS hl)
/-- stores into arrays -/
theorem V_iast {g : Gl} {mi : MI} {R : Room} {QF : QFT} {pc : Nat} {ls : List (Option MV)} {st : List MV} {k n : Nat} {σ : St} {a N : Nat} {i x : Int} (hd : decode mi.1 pc = .ok (.iastore, 1)) (ha : gl σ a = some (.inr (0, N))) (hi : 0 ≤ i ∧ i < N)
    (kk : V g mi R QF (pc + 1) ls st k n (setG σ a i.toNat x)) : V g mi R QF pc ls (vi x :: vi i :: vq (some a) :: st) k n σ := by
  intro p e s m args below meth c H locs la C hH hS hl
  obtain ⟨ha8, -, hN, hc⟩ := hH.2.2 a _ ha
  obtain ⟨z1, z2, z3⟩ := arr_in hi hN
  have hg := ks_ok C.2.2.2.2.2.2.2.2
  refine W.iast C.1 C.2.1 hc (((ks_K C.2.2.2.2.2.2.2.2).2 0 _ rfl).1 _ _) (fun q => by cases q) (by rw [arrV_size]; exact z1) rfl rfl hd (fun H1 e1 z oq => ?_)
  refine kk p e s m args below meth c H1 _ la C (hH.setA hg ha z oq ⟨by decide, hN, ?_⟩) (vaS_put hg ha8.1 hS z oq) hl
  rw [e1, z2, arrV_store]
  congr 2
  funext q
  by_cases hq : q = i.toNat
  · subst hq
    simp [updV, up1, evr, rv]
  · simp [updV, up1, evr, rv, hq]
theorem V_bast {g : Gl} {mi : MI} {R : Room} {QF : QFT} {pc : Nat} {ls : List (Option MV)} {st : List MV} {k n : Nat} {σ : St} {a N : Nat} {i x : Int} (hd : decode mi.1 pc = .ok (.bastore, 1)) (ha : gl σ a = some (.inr (2, N))) (hi : 0 ≤ i ∧ i < N) (hx : narrow .byte (.int (iI x)) = .int (iI x))
    (kk : V g mi R QF (pc + 1) ls st k n (setG σ a i.toNat x)) : V g mi R QF pc ls (vi x :: vi i :: vq (some a) :: st) k n σ := by
  intro p e s m args below meth c H locs la C hH hS hl
  obtain ⟨ha8, -, hN, hc⟩ := hH.2.2 a _ ha
  obtain ⟨z1, z2, z3⟩ := arr_in hi hN
  have hg := ks_ok C.2.2.2.2.2.2.2.2
  refine W.bast C.1 C.2.1 hc (((ks_K C.2.2.2.2.2.2.2.2).2 2 _ rfl).1 _ _) (fun q => by cases q) (by rw [arrV_size]; exact z1) rfl rfl hd (fun H1 e1 z oq => ?_)
  refine kk p e s m args below meth c H1 _ la C (hH.setA hg ha z oq ⟨by decide, hN, ?_⟩) (vaS_put hg ha8.1 hS z oq) hl
  rw [e1, z2, hx, arrV_store]
  congr 2
  funext q
  by_cases hq : q = i.toNat
  · subst hq
    simp [updV, up1, evr, rv]
  · simp [updV, up1, evr, rv, hq]
theorem V_last {g : Gl} {mi : MI} {R : Room} {QF : QFT} {pc : Nat} {ls : List (Option MV)} {st : List MV} {k n : Nat} {σ : St} {a N : Nat} {i : Int} {x : Int64} (hd : decode mi.1 pc = .ok (.lastore, 1)) (ha : gl σ a = some (.inr (1, N))) (hi : 0 ≤ i ∧ i < N)
    (kk : V g mi R QF (pc + 1) ls st k n (setL σ a (up1 (gL σ a) i.toNat x))) : V g mi R QF pc ls (vl x :: vi i :: vq (some a) :: st) k n σ := by
  intro p e s m args below meth c H locs la C hH hS hl
  obtain ⟨ha8, -, hN, hc⟩ := hH.2.2 a _ ha
  obtain ⟨z1, z2, z3⟩ := arr_in hi hN
  have hg := ks_ok C.2.2.2.2.2.2.2.2
  refine W.last C.1 C.2.1 hc (((ks_K C.2.2.2.2.2.2.2.2).2 1 _ rfl).1 _ _) (fun q => by cases q) (by rw [arrV_size]; exact z1) rfl rfl hd (fun H1 e1 z oq => ?_)
  refine kk p e s m args below meth c H1 _ la C (hH.setL hg ha z oq ⟨by decide, hN, ?_⟩) (vaS_put hg ha8.1 hS z oq) hl
  rw [e1, z2, arrV_store]
  congr 2
  funext q
  by_cases hq : q = i.toNat
  · subst hq
    simp [updV, up1, evr, rv]
  · simp [updV, up1, evr, rv, hq]
end
section
/-! writes of fields, references in arrays, new things, arrays that nobody writes -/
/-- a field that may be written by a method of this name: an int -/
def PF (own nm : String) (idx ci k : Nat) (ds : String) : Prop := FL own idx ci k ∧ ∃ r : vw_C, vwCl[ci]? = some r ∧ (r.2.1 k).2.2.1 = ds ∧ ((r.2.1 k).2.2.2 = false ∨ ((r.2.1 k).2.2.2 = true ∧ nm = "<init>" ∧ (r.2.1 k).1 = own))
def clsTy (ci k : Nat) : FieldType := match ci with
  | 0 => tyX0 k | 1 => tyX1 k | 2 => tyX2 k | 3 => tyX3 k | 4 => tyX4 k | 5 => tyX5 k | 6 => tyX6 k | 7 => tyX7 k | 8 => tyX8 k | 9 => tyX10 k | 10 => tyX11 k | _ => tyX12 k
theorem cls_ok : ∀ (ci : Nat) (r : vw_C), vwCl[ci]? = some r → (∀ k, k < r.2.2 → parseFieldDescriptor (r.2.1 k).2.2.1 = some (clsTy ci k)) ∧ (∀ a, a < r.2.2 → ∀ b, b < r.2.2 → a ≠ b → (r.2.1 a).2.1 ≠ (r.2.1 b).2.1)
  | 0, r, h => by cases h; exact ⟨tyX0_ok, nmX0⟩
  | 1, r, h => by cases h; exact ⟨tyX1_ok, nmX1⟩
  | 2, r, h => by cases h; exact ⟨tyX2_ok, nmX2⟩
  | 3, r, h => by cases h; exact ⟨tyX3_ok, nmX3⟩
  | 4, r, h => by cases h; exact ⟨tyX4_ok, nmX4⟩
  | 5, r, h => by cases h; exact ⟨tyX5_ok, nmX5⟩
  | 6, r, h => by cases h; exact ⟨tyX6_ok, nmX6⟩
  | 7, r, h => by cases h; exact ⟨tyX7_ok, nmX7⟩
  | 8, r, h => by cases h; exact ⟨tyX8_ok, nmX8⟩
  | 9, r, h => by cases h; exact ⟨tyX10_ok, nmX10⟩
  | 10, r, h => by cases h; exact ⟨tyX11_ok, nmX11⟩
  | 11, r, h => by cases h; exact ⟨tyX12_ok, nmX12⟩
  | n + 12, r, h => by simp [vwCl] at h
theorem V_putV {g : Gl} {mi : MI} {R : Room} {QF : QFT} {pc : Nat} {ls : List (Option MV)} {st : List MV} {k n : Nat} {σ σ' : St} {idx ci f a : Nat} {v : MV} {ds : String} {ty : FieldType} (hd : decode mi.1 pc = .ok (.putfield idx, 3)) (hF : PF mi.2.1.cls mi.2.1.name idx ci f ds) (ha : gl σ a = some (.inl ci))
    (hty : parseFieldDescriptor ds = some ty) (hn : narrow ty (rv g v) = rv g v) (hfit : fits ty (rv g v) = true)
    (e1 : gl σ' = gl σ) (e2 : gn σ' = gn σ) (e3 : ∀ b, b ≠ a → gG σ' b = gG σ b ∧ gL σ' b = gL σ b ∧ gP σ' b = gP σ b) (e4 : ∀ j, fvr ci j (gG σ' a) (gP σ' a) = if j = f then v else fvr ci j (gG σ a) (gP σ a))
    (kk : V g mi R QF (pc + 3) ls st k n σ') : V g mi R QF pc ls (v :: vq (some a) :: st) k n σ := by
  intro p e s m args below meth c H locs la C hH hS hl
  obtain ⟨⟨r, h1, h2, h3, h4⟩, r0, h5, hds, hfin⟩ := hF
  cases h1.symm.trans h5
  obtain ⟨ha8, r', h5, cell, q1, q2, q3, q4⟩ := hH.2.2 a _ ha
  cases h1.symm.trans h5
  have hK := ks_K C.2.2.2.2.2.2.2.2
  have hg := ks_ok C.2.2.2.2.2.2.2.2
  obtain ⟨hSl, hfc, kC, hkC, hkind⟩ := hK.1 ci _ h1
  obtain ⟨cf, kf, fi, fd, hi, hsl⟩ := hSl f h2
  have hts := C.2.2.2.2.2.2.1
  obtain ⟨hc1, hc2⟩ := cls_ok ci _ h1
  have hap := va_apart (own := r.1) (C := r.1) (T := r.2.1) (N := r.2.2) hts h4 (clsTy ci) hc1 hc2 hK h1
  have hst := (u_facts hfc hkC (u_lays hts h4 h2) hi).1
  have hlay := hts _ (h4 _ (u_in_lay h2))
  have fin : ∀ H1 : Heap, H1[gad g a]? = some (cell.setSlot fd.slot (rv g v)) → H1.size = H.size → (∀ q, q ≠ gad g a → H1[q]? = H[q]?) → HR g σ' H1 := by
    intro H1 x1 x2 x3
    refine hH.set hg ha x2 x3 e1 e2 e3 ⟨r, h1, ?_⟩
    rw [hsl] at x1
    refine t_OB.to (V := updV (fun j => rv g (fvr ci j (gG σ a) (gP σ a))) f (rv g v)) ⟨_, x1, q2, q3, t_set q4 hap h2 _⟩ (fun j _ => ?_)
    rw [e4 j]
    by_cases hj : j = f
    · subst hj; simp [updV]
    · simp [updV, hj]
  rcases hfin with hfin | ⟨hfin, hnm, hdecl⟩
  · unfold u_lay at hlay
    rw [if_neg (by rw [hfin]; decide)] at hlay
    have h6 := u_store hfc hkC hkind hlay hi (by rw [hds]; exact hty) hn hfit
    refine W.putK C.1 C.2.1 (f := fd) ⟨C.2.2.2.2.1, hts _ h3, ⟨_, _, _, hi⟩, hst⟩ (by rw [q2]; exact h6) q1 q3 (by rw [hsl]; exact k2_hasslot (q4 f h2)) rfl rfl hd fun H1 x1 x2 x3 => ?_
    exact kk p e s m args below meth c H1 _ la C (fin H1 x1 x2 x3) (vaS_put hg ha8.1 hS x2 x3) hl
  · unfold u_lay at hlay
    rw [if_pos hfin] at hlay
    have hcf : m.cls = cf := by
      obtain ⟨_, _, c', _, _, _, -, -, hf', -, -, -, hown2, -⟩ := Cond.laysFinal_spec hlay
      have x1 : c' = cf := by have := hi.symm.trans hf'; simp at this; exact this.1.symm
      have hown := C.2.2.2.2.1
      rw [hdecl] at hown2
      rw [← x1]; exact Option.some.inj (hown.symm.trans hown2)
    have h6 := u_fits hfc hkC hkind (Or.inr hlay) hi (by rw [hds]; exact hty) hn hfit
    refine W.putFinK C.1 C.2.1 C.2.2.2.2.1 (hts _ h3) hi hst hcf (by rw [C.2.2.2.2.2.1]; exact hnm) (by rw [q2]; exact h6) q1 q3 (by rw [hsl]; exact k2_hasslot (q4 f h2)) rfl rfl hd fun H1 x1 x2 x3 => ?_
    exact kk p e s m args below meth c H1 _ la C (fin H1 x1 x2 x3) (vaS_put hg ha8.1 hS x2 x3) hl
theorem V_puti {g : Gl} {mi : MI} {R : Room} {QF : QFT} {pc : Nat} {ls : List (Option MV)} {st : List MV} {k n : Nat} {σ : St} {idx ci f a : Nat} {x : Int} (hd : decode mi.1 pc = .ok (.putfield idx, 3)) (hF : PF mi.2.1.cls mi.2.1.name idx ci f "I") (hk : fk ci f = 0) (ha : gl σ a = some (.inl ci))
    (kk : V g mi R QF (pc + 3) ls st k n (setG σ a f x)) : V g mi R QF pc ls (vi x :: vq (some a) :: st) k n σ := by
  refine V_putV (σ' := setG σ a f x) (ty := .int) hd hF ha (by decide +kernel) rfl rfl rfl rfl (fun b hb => ⟨by unfold setG; rw [gG_setA, if_neg hb], rfl, rfl⟩) (fun j => ?_) kk
  unfold setG
  rw [gG_setA, if_pos rfl, gP_setA]
  by_cases hj : j = f
  · subst hj
    simp [fvr, hk, up1]
  · simp [fvr, up1, hj]
theorem V_putz {g : Gl} {mi : MI} {R : Room} {QF : QFT} {pc : Nat} {ls : List (Option MV)} {st : List MV} {k n : Nat} {σ : St} {idx ci f a : Nat} {x : Int} (hd : decode mi.1 pc = .ok (.putfield idx, 3)) (hF : PF mi.2.1.cls mi.2.1.name idx ci f "Z") (hk : fk ci f = 0) (ha : gl σ a = some (.inl ci)) (hx : x = 0 ∨ x = 1)
    (kk : V g mi R QF (pc + 3) ls st k n (setG σ a f x)) : V g mi R QF pc ls (vi x :: vq (some a) :: st) k n σ := by
  refine V_putV (σ' := setG σ a f x) (ty := .boolean) hd hF ha (by decide +kernel) (by rcases hx with rfl | rfl <;> rfl) (by rcases hx with rfl | rfl <;> rfl) rfl rfl (fun b hb => ⟨by unfold setG; rw [gG_setA, if_neg hb], rfl, rfl⟩) (fun j => ?_) kk
  unfold setG
  rw [gG_setA, if_pos rfl, gP_setA]
  by_cases hj : j = f
  · subst hj
    simp [fvr, hk, up1]
  · simp [fvr, up1, hj]
theorem V_putr {g : Gl} {mi : MI} {R : Room} {QF : QFT} {pc : Nat} {ls : List (Option MV)} {st : List MV} {k n : Nat} {σ : St} {idx ci f a b : Nat} {ds : String} {ty : FieldType} (hd : decode mi.1 pc = .ok (.putfield idx, 3)) (hF : PF mi.2.1.cls mi.2.1.name idx ci f ds) (hty : parseFieldDescriptor ds = some ty) (hr : ty.isReference = true) (hk : ¬ fk ci f = 0) (ha : gl σ a = some (.inl ci))
    (kk : V g mi R QF (pc + 3) ls st k n (setP σ a (up1 (gP σ a) f (some b)))) : V g mi R QF pc ls (vq (some b) :: vq (some a) :: st) k n σ := by
  refine V_putV (σ' := setP σ a (up1 (gP σ a) f (some b))) (ty := ty) hd hF ha hty ?_ ?_ rfl rfl (fun b hb => ⟨rfl, rfl, by rw [gP_setP, if_neg hb]⟩) (fun j => ?_) kk
  · cases ty <;> first | rfl | (cases hr)
  · cases ty <;> first | rfl | (cases hr)
  · rw [gP_setP, if_pos rfl, gG_setP]
    by_cases hj : j = f
    · subst hj
      simp [fvr, hk, up1]
    · simp [fvr, up1, hj]
/-- a reference into an array of its own class, or of things -/
def elTy (g : Gl) (t : Nat) : String := match t with | 3 => RX6 | 4 => RX3 | 5 => RX0 | _ => RX9
theorem V_aastN {g : Gl} {mi : MI} {R : Room} {QF : QFT} {pc : Nat} {ls : List (Option MV)} {st : List MV} {k n : Nat} {σ : St} {a t N : Nat} {i : Int} (hd : decode mi.1 pc = .ok (.aastore, 1)) (ha : gl σ a = some (.inr (t, N))) (h3 : 3 ≤ t) (h7 : t < 7) (hi : 0 ≤ i ∧ i < N)
    (kk : V g mi R QF (pc + 1) ls st k n (setP σ a (up1 (gP σ a) i.toNat none))) : V g mi R QF pc ls (vq none :: vi i :: vq (some a) :: st) k n σ := by
  intro p e s m args below meth c H locs la C hH hS hl
  obtain ⟨ha8, h8, hN, hc⟩ := hH.2.2 a _ ha
  obtain ⟨z1, z2, z3⟩ := arr_in hi hN
  have hg := ks_ok C.2.2.2.2.2.2.2.2
  obtain ⟨ty, t1⟩ : ∃ C, (tysG g)[t]? = some (gcA g t, .object C) := by
    match t, h3, h7 with
    | 3, _, _ => exact ⟨_, rfl⟩
    | 4, _, _ => exact ⟨_, rfl⟩
    | 5, _, _ => exact ⟨_, rfl⟩
    | 6, _, _ => exact ⟨_, rfl⟩
  refine va_WaastN (C := ty) C.1 C.2.1 hc (((ks_K C.2.2.2.2.2.2.2.2).2 t _ t1).1 _ _) (fun q => by cases q) (by rw [arrV_size]; exact z1) rfl rfl hd (fun H1 e1 z oq => ?_)
  refine kk p e s m args below meth c H1 _ la C (hH.setP hg ha z oq ⟨h8, hN, ?_⟩) (vaS_put hg ha8.1 hS z oq) hl
  rw [e1, z2, arrV_store]
  congr 2
  funext q
  rw [evr_ref h3]
  by_cases hq : q = i.toNat
  · subst hq
    simp [updV, up1, rv, va_rf]
  · simp [updV, up1, hq, evr_ref h3]
theorem V_aast {g : Gl} {mi : MI} {R : Room} {QF : QFT} {pc : Nat} {ls : List (Option MV)} {st : List MV} {k n : Nat} {σ : St} {a t N b ci : Nat} {i : Int} (hd : decode mi.1 pc = .ok (.aastore, 1)) (ha : gl σ a = some (.inr (t, N))) (hi : 0 ≤ i ∧ i < N) (hb : gl σ b = some (.inl ci)) (ht : (t, ci) ∈ [(3, 6), (4, 3), (5, 0), (6, 6), (6, 3), (6, 0), (6, 9)])
    (kk : V g mi R QF (pc + 1) ls st k n (setP σ a (up1 (gP σ a) i.toNat (some b)))) : V g mi R QF pc ls (vq (some b) :: vi i :: vq (some a) :: st) k n σ := by
  intro p e s m args below meth c H locs la C hH hS hl
  obtain ⟨ha8, h8, hN, hc⟩ := hH.2.2 a _ ha
  obtain ⟨z1, z2, z3⟩ := arr_in hi hN
  have hKS := C.2.2.2.2.2.2.2.2
  have hg := ks_ok hKS
  have hK := ks_K hKS
  have hca : ∀ q ∈ caTbl, va_Nw (.castable q.1 q.2) s := hKS.2.2.2.2.2.2.2.1
  obtain ⟨-, r, h1, cell, q1, q2, q3, q4⟩ := hH.2.2 b _ hb
  have hcls := (hK.1 ci r h1).2
  obtain ⟨hfc, kC, hkC, hkind⟩ := id hcls
  obtain ⟨E, t1, h3, hasg⟩ : ∃ E, (tysG g)[t]? = some (gcA g t, .object E) ∧ 3 ≤ t ∧ ∀ comp : ClassId, s.vm.findClass E = some comp → s.vm.assignable ((gD g).1 ci) comp = true := by
    have self : ∀ comp : ClassId, s.vm.findClass r.1 = some comp → s.vm.assignable ((gD g).1 ci) comp = true := fun comp hcomp => by
      cases hfc.symm.trans hcomp
      exact va_assign hcls
    have up : ∀ comp : ClassId, (r.1, RX9) ∈ caTbl → s.vm.findClass RX9 = some comp → s.vm.assignable ((gD g).1 ci) comp = true := fun comp hm hcomp => by
      obtain ⟨c0, t0, f1, f2, f3⟩ := Cond.castable_spec (va_Nw.use (A := args) rfl (hca _ hm))
      cases hfc.symm.trans f1
      cases hcomp.symm.trans f2
      exact f3
    simp only [List.mem_cons, Prod.mk.injEq, List.not_mem_nil, or_false] at ht
    rcases ht with ⟨rfl, rfl⟩ | ⟨rfl, rfl⟩ | ⟨rfl, rfl⟩ | ⟨rfl, rfl⟩ | ⟨rfl, rfl⟩ | ⟨rfl, rfl⟩ | ⟨rfl, rfl⟩
    · cases h1; exact ⟨_, rfl, by decide, self⟩
    · cases h1; exact ⟨_, rfl, by decide, self⟩
    · cases h1; exact ⟨_, rfl, by decide, self⟩
    · cases h1; exact ⟨_, rfl, by decide, fun comp => up comp (by decide +kernel)⟩
    · cases h1; exact ⟨_, rfl, by decide, fun comp => up comp (by decide +kernel)⟩
    · cases h1; exact ⟨_, rfl, by decide, fun comp => up comp (by decide +kernel)⟩
    · cases h1; exact ⟨_, rfl, by decide, fun comp => up comp (by decide +kernel)⟩
  obtain ⟨kA, comp, k1, k2, k3, -⟩ := (hK.2 t _ t1).2
  obtain ⟨kcomp, hkcomp, -⟩ := Vm.findClass_spec k3
  refine W.aast C.1 C.2.1 hc (fun q h => by cases h) (fun h => by cases h) k1 k2 rfl hkcomp ⟨fun q => z1 (Or.inl q), by rw [arrV_size, z2]; exact z3⟩ q1 (fun q h => by rw [q3] at h; cases h) (by rw [q2]; exact hkC) (by rw [q2]; exact hasg comp k3) rfl rfl hd (fun H1 e1 z oq => ?_)
  refine kk p e s m args below meth c H1 _ la C (hH.setP hg ha z oq ⟨h8, hN, ?_⟩) (vaS_put hg ha8.1 hS z oq) hl
  rw [e1, z2, arrV_store]
  congr 2
  funext q
  rw [evr_ref h3]
  by_cases hq : q = i.toNat
  · subst hq
    simp [updV, up1, rv, va_rf]
  · simp [updV, up1, hq, evr_ref h3]
/-- arrays that nobody writes -/
theorem V_rold {g : Gl} {mi : MI} {R : Room} {QF : QFT} {pc : Nat} {ls : List (Option MV)} {st : List MV} {k n : Nat} {σ : St} {a : Nat} {i : Int} (hd : decode mi.1 pc = .ok (.iaload, 1)) (ha : a < 5) (hi : 0 ≤ i ∧ i < roN g a)
    (kk : V g mi R QF (pc + 1) ls (vi (roC g a i.toNat) :: st) k n σ) : V g mi R QF pc ls (vi i :: vq (some a) :: st) k n σ := by
  intro p e s m args below meth c H locs la C hH hS hl
  have hKS := C.2.2.2.2.2.2.2.2
  obtain ⟨cell, c1, c2, c3, c4, c5, c6, c7⟩ := hKS.2.2.2.2.2.1 a ha
  have hN : roN g a < 2147483648 := by
    have := hKS.2.1
    match a, ha with
    | 0, _ => exact (by decide : 4 < 2147483648)
    | 1, _ => exact (by decide : 4 < 2147483648)
    | 2, _ => exact (by decide : 5 < 2147483648)
    | 3, _ => exact (by decide : 4 < 2147483648)
    | 4, _ => show gL0 g < _; omega
  obtain ⟨z1, z2, z3⟩ := arr_in hi hN
  have hlt : gad g a < s.heap.size := (Array.getElem?_eq_some_iff.mp c1).1
  refine W.iald (v := .int (iI (roC g a i.toNat))) C.1 C.2.1 (by rw [hS.2.1 _ hlt c7]; exact c1) c2 c3 (fun q => z1 (q.imp id (fun h => Nat.le_trans c4 h))) (by rw [z2]; exact c6 _ z3) rfl rfl hd (kk p e s m args below meth c H locs la C hH hS hl)
theorem V_rolen {g : Gl} {mi : MI} {R : Room} {QF : QFT} {pc : Nat} {ls : List (Option MV)} {st : List MV} {k n : Nat} {σ : St} {a : Nat} (hd : decode mi.1 pc = .ok (.arraylength, 1)) (ha : a < 5)
    (kk : V g mi R QF (pc + 1) ls (vi (roN g a : Int) :: st) k n σ) : V g mi R QF pc ls (vq (some a) :: st) k n σ := by
  intro p e s m args below meth c H locs la C hH hS hl
  have hKS := C.2.2.2.2.2.2.2.2
  obtain ⟨cell, c1, c2, c3, c4, c5, c6, c7⟩ := hKS.2.2.2.2.2.1 a ha
  have hlt : gad g a < s.heap.size := (Array.getElem?_eq_some_iff.mp c1).1
  exact W.alen C.1 C.2.1 (by rw [hS.2.1 _ hlt c7]; exact c1) c2 c5 rfl rfl hd (kk p e s m args below meth c H locs la C hH hS hl)
theorem V_gets {g : Gl} {mi : MI} {R : Room} {QF : QFT} {pc : Nat} {ls : List (Option MV)} {st : List MV} {k n : Nat} {σ : St} {idx a : Nat} (hd : decode mi.1 pc = .ok (.getstatic idx, 3)) (ha : a < 4) (hlink : Cond.fieldLink mi.2.1.cls idx RX11 (roF a) "[I" ∈ gTbl)
    (kk : V g mi R QF (pc + 3) ls (vq (some a) :: st) k n σ) : V g mi R QF pc ls st k n σ := by
  intro p e s m args below meth c H locs la C hH hS hl
  have hKS := C.2.2.2.2.2.2.2.2
  exact va_gets C.1 C.2.1 (hKS.2.2.2.2.1 a ha) hS C.2.2.2.2.1 (C.2.2.2.2.2.2.1 _ hlink) (fun x h => h) hd (kk p e s m args below meth c H locs la C hH hS hl)
/-- a new place -/
theorem HR.add {g : Gl} {σ : St} {H H1 : Heap} {sh : Sh} (hg : GOK g) (h : HR g σ H) (hz : H1.size = H.size + 1) (hq : ∀ q : Nat, q < H.size → H1[q]? = H[q]?) (hc : cellR g (fun _ => 0) (fun _ => 0) (fun _ => none) H1 (gn σ) sh) : HR g (addC σ sh) H1 := by
  have h1 := hg.1 (gn σ) h.2.1
  have h2 := hg.1 (gn σ + 1) (by have := h.2.1; omega)
  have h8 := h.2.1
  refine ⟨?_, Nat.le_succ_of_le h.2.1, fun b shb hb => ?_⟩
  · show H1.size = gad g (gn σ + 1)
    rw [hz, h.1]; omega
  · by_cases e : b = gn σ
    · subst e
      have e0 : shb = sh := by
        have : gl (addC σ sh) (gn σ) = some sh := if_pos rfl
        exact (Option.some.inj (this.symm.trans hb)).symm
      subst e0
      refine ⟨⟨h8, Nat.lt_succ_self _⟩, ?_⟩
      have x1 : gG (addC σ shb) (gn σ) = fun _ => 0 := if_pos rfl
      have x2 : gL (addC σ shb) (gn σ) = fun _ => 0 := if_pos rfl
      have x3 : gP (addC σ shb) (gn σ) = fun _ => none := if_pos rfl
      rw [x1, x2, x3]
      exact hc
    · have hb' : gl σ b = some shb := by
        have : gl (addC σ sh) b = gl σ b := if_neg e
        exact this.symm.trans hb
      obtain ⟨y1, y2⟩ := h.2.2 b shb hb'
      refine ⟨⟨y1.1, Nat.lt_succ_of_lt y1.2⟩, ?_⟩
      have x1 : gG (addC σ sh) b = gG σ b := if_neg e
      have x2 : gL (addC σ sh) b = gL σ b := if_neg e
      have x3 : gP (addC σ sh) b = gP σ b := if_neg e
      rw [x1, x2, x3]
      have h3 := hg.1 b y1.1
      exact y2.kept (hq _ (by rw [h.1]; omega))
theorem vaS_add {g : Gl} {H0 H H1 : Heap} {locs : List Loc} (h : va_S (fun q => gbs g ≤ q) H0 H locs) (hz : H.size ≤ H1.size) (hq : ∀ q : Nat, q < H.size → H1[q]? = H[q]?) : va_S (fun q => gbs g ≤ q) H0 H1 locs :=
  ⟨Nat.le_trans h.1 hz, fun x h1 h2 => (hq x (Nat.lt_of_lt_of_le h1 h.1)).trans (h.2.1 x h1 h2), h.2.2⟩
/-- class number ci can be made, by this link -/
def NC (own : String) (idx ci N : Nat) : Prop := ∃ r : vw_C, vwCl[ci]? = some r ∧ r.2.2 = N ∧ Cond.classLink own idx r.1 ∈ gTbl ∧ Cond.instantiable r.1 r.2.2 ∈ gTbl ∧ Cond.initialized r.1 ∈ gTbl ∧ (∀ w ∈ u_ws r.1 r.2.1 r.2.2, w ∈ gTbl) ∧ ∀ j, j < r.2.2 → (fk ci j = 0 → defaultValue (clsTy ci j) = .int 0) ∧ (¬ fk ci j = 0 → defaultValue (clsTy ci j) = .null)
theorem V_new {g : Gl} {mi : MI} {R : Room} {QF : QFT} {pc : Nat} {ls : List (Option MV)} {st : List MV} {k n : Nat} {σ : St} {idx ci N : Nat} (hd : decode mi.1 pc = .ok (.new idx, 3)) (hF : NC mi.2.1.cls idx ci N) (hk : k + 1 ≤ R.cells) (hn : n + N ≤ R.slots)
    (kk : V g mi R QF (pc + 3) ls (vq (some (gn σ)) :: st) (k + 1) (n + N) (addC σ (.inl ci))) : V g mi R QF pc ls st k n σ := by
  intro p e s m args below meth c H locs la C hH hS hl
  obtain ⟨r, h1, rfl, h3, h4, h5, h6, h7⟩ := hF
  have hKS := C.2.2.2.2.2.2.2.2
  have hK := ks_K hKS
  have hg := ks_ok hKS
  have hts := C.2.2.2.2.2.2.1
  have hKn := hK.1 ci _ h1
  obtain ⟨hc1, hc2⟩ := cls_ok ci _ h1
  refine W.newcK C.1 C.2.1 C.2.2.2.2.1 (hts _ h3) (hts _ h4) (hts _ h5) rfl hd hk hn hKn.2.1 hH.1 fun H1 kC hkC e1 z1 o1 => ?_
  rw [← hH.1] at z1 o1
  refine kk p e s m args below meth c H1 locs la C (hH.add hg z1 o1 ⟨r, h1, ?_⟩) (vaS_add hS (by omega) o1) hl
  refine (u_born (clsTy ci) hts h6 hKn hkC e1 hc1).to (fun j hj => ?_)
  obtain ⟨y1, y2⟩ := h7 j hj
  by_cases hf : fk ci j = 0
  · rw [y1 hf]; simp [fvr, hf, rv]; rfl
  · rw [y2 hf]; simp [fvr, hf, rv, va_rf]
theorem V_newa {g : Gl} {mi : MI} {R : Room} {QF : QFT} {pc : Nat} {ls : List (Option MV)} {st : List MV} {k n : Nat} {σ : St} {at' : ArrayType} {t N : Nat} (hd : decode mi.1 pc = .ok (.newarray at', 2)) (ht : (at', t) ∈ [(ArrayType.int, 0), (.long, 1), (.byte, 2)]) (hN : N < 100000) (hk : k + 1 ≤ R.cells) (hn : n + N ≤ R.slots)
    (kk : V g mi R QF (pc + 2) ls (vq (some (gn σ)) :: st) (k + 1) (n + N) (addC σ (.inr (t, N)))) : V g mi R QF pc ls (vi (N : Int) :: st) k n σ := by
  intro p e s m args below meth c H locs la C hH hS hl
  have hKS := C.2.2.2.2.2.2.2.2
  have hK := ks_K hKS
  have hg := ks_ok hKS
  have hts := C.2.2.2.2.2.2.1
  have hc : (iI (N : Int)).toNatClampNeg = N := by rw [iI_clamp (by omega) (by omega)]; omega
  have h0 : ¬ iI (N : Int) < 0 := fun q => by have := (iI_lt0 ⟨by omega, by omega⟩).mp q; omega
  have hw : Cond.arrayClass (newarray.typeOf at') ∈ gTbl := by
    simp only [List.mem_cons, Prod.mk.injEq, List.not_mem_nil, or_false] at ht
    rcases ht with ⟨rfl, -⟩ | ⟨rfl, -⟩ | ⟨rfl, -⟩ <;> decide +kernel
  have hb : N * componentBytes (newarray.typeOf at') ≤ 536870912 := by
    simp only [List.mem_cons, Prod.mk.injEq, List.not_mem_nil, or_false] at ht
    rcases ht with ⟨rfl, -⟩ | ⟨rfl, -⟩ | ⟨rfl, -⟩ <;> simp [newarray.typeOf, componentBytes] <;> omega
  refine va_newaK C.1 C.2.1 (hts _ hw) rfl hd rfl h0 hc hb hk hn hH.1 fun H1 cA e1 z1 o1 hAr hNm => ?_
  rw [← hH.1] at z1 o1
  refine kk p e s m args below meth c H1 locs la C (hH.add hg z1 o1 ?_) (vaS_add hS (by omega) o1) hl
  have key : t < 8 ∧ cA = gcA g t ∧ (fun (_ : Nat) => defaultValue (newarray.typeOf at')) = fun j => rv g (evr t (fun _ => 0) (fun _ => 0) (fun _ => none) j) := by
    simp only [List.mem_cons, Prod.mk.injEq, List.not_mem_nil, or_false] at ht
    rcases ht with ⟨rfl, rfl⟩ | ⟨rfl, rfl⟩ | ⟨rfl, rfl⟩
    · exact ⟨by decide, Option.some.inj (hNm.symm.trans (hK.2 0 _ rfl).2), rfl⟩
    · exact ⟨by decide, Option.some.inj (hNm.symm.trans (hK.2 1 _ rfl).2), rfl⟩
    · exact ⟨by decide, Option.some.inj (hNm.symm.trans (hK.2 2 _ rfl).2), rfl⟩
  refine ⟨key.1, by omega, ?_⟩
  rw [e1, key.2.1, key.2.2]
theorem V_anew {g : Gl} {mi : MI} {R : Room} {QF : QFT} {pc : Nat} {ls : List (Option MV)} {st : List MV} {k n : Nat} {σ : St} {idx : Nat} {E : String} {t N : Nat} (hd : decode mi.1 pc = .ok (.anewarray idx, 3)) (ht : (E, t) ∈ [(RX6, 3), (RX3, 4), (RX0, 5), (RX9, 6)]) (hlink : Cond.classLink mi.2.1.cls idx E ∈ gTbl) (hN : N < 100000) (hk : k + 1 ≤ R.cells) (hn : n + N ≤ R.slots)
    (kk : V g mi R QF (pc + 3) ls (vq (some (gn σ)) :: st) (k + 1) (n + N) (addC σ (.inr (t, N)))) : V g mi R QF pc ls (vi (N : Int) :: st) k n σ := by
  intro p e s m args below meth c H locs la C hH hS hl
  have hKS := C.2.2.2.2.2.2.2.2
  have hK := ks_K hKS
  have hg := ks_ok hKS
  have hts := C.2.2.2.2.2.2.1
  have hc : (iI (N : Int)).toNatClampNeg = N := by rw [iI_clamp (by omega) (by omega)]; omega
  have h0 : ¬ iI (N : Int) < 0 := fun q => by have := (iI_lt0 ⟨by omega, by omega⟩).mp q; omega
  have hao : va_AO E s := hKS.2.2.2.2.2.2.2.2.2.1 E (by
    simp only [List.mem_cons, Prod.mk.injEq, List.not_mem_nil, or_false] at ht
    rcases ht with ⟨rfl, -⟩ | ⟨rfl, -⟩ | ⟨rfl, -⟩ | ⟨rfl, -⟩ <;> simp [aoTbl])
  refine W.anew C.1 C.2.1 C.2.2.2.2.1 (hts _ hlink) (va_AO.use hao) rfl hd rfl h0 (by rw [hc]; omega) hk (by rw [hc]; exact hn) fun cA kA comp f1 f2 f3 f4 => ?_
  rw [hc]
  generalize hH1 : H.push ({ cls := cA, slots := Array.replicate N .null, vm := .none } : Cell) = H1
  have z1 : H1.size = H.size + 1 := by rw [← hH1, Array.size_push]
  have e1 : H1[H.size]? = some (arrV cA N (fun _ => .null)) := by rw [← hH1, Array.getElem?_push_size, ← arrV_new]
  have o1 : ∀ q : Nat, q < H.size → H1[q]? = H[q]? := fun q hq => by rw [← hH1, Array.getElem?_push, if_neg (Nat.ne_of_lt hq)]
  have hsz := hH.1
  rw [hsz]
  refine kk p e s m args below meth c H1 locs la C (hH.add hg z1 o1 ?_) (vaS_add hS (by omega) o1) hl
  have key : t < 8 ∧ cA = gcA g t ∧ (fun (_ : Nat) => Value.null) = fun j => rv g (evr t (fun _ => 0) (fun _ => 0) (fun _ => none) j) := by
    simp only [List.mem_cons, Prod.mk.injEq, List.not_mem_nil, or_false] at ht
    rcases ht with ⟨rfl, rfl⟩ | ⟨rfl, rfl⟩ | ⟨rfl, rfl⟩ | ⟨rfl, rfl⟩
    · obtain ⟨_, _, _, _, _, x⟩ := (hK.2 3 _ rfl).2
      exact ⟨by decide, Option.some.inj (f1.symm.trans x), rfl⟩
    · obtain ⟨_, _, _, _, _, x⟩ := (hK.2 4 _ rfl).2
      exact ⟨by decide, Option.some.inj (f1.symm.trans x), rfl⟩
    · obtain ⟨_, _, _, _, _, x⟩ := (hK.2 5 _ rfl).2
      exact ⟨by decide, Option.some.inj (f1.symm.trans x), rfl⟩
    · obtain ⟨_, _, _, _, _, x⟩ := (hK.2 6 _ rfl).2
      exact ⟨by decide, Option.some.inj (f1.symm.trans x), rfl⟩
  refine ⟨key.1, by omega, ?_⟩
  rw [← hsz, e1, key.2.1, key.2.2]
end
section
/-! returns, contracts, calls -/
theorem aoA_moved {u U : State} (hvm : u.vm.Alike U.vm) (h : va_Nw (.arrayOver (.array .int)) u) : va_Nw (.arrayOver (.array .int)) U := by
  have h1 : (Cond.arrayOver (.array .int)).before #[] (u.setVm U.vm) = true := by rw [Cond.arrayOver_setVmC hvm]; exact h
  simp only [Cond.before, Cond.holds, Cond.value] at h1
  simp only [va_Nw, Cond.before, Cond.holds, Cond.value]
  exact h1
theorem KS.same {g : Gl} {u U : State} (hv : u.vm = U.vm) (hh : U.heap = u.heap) (h : KS g u) : KS g U := by
  obtain ⟨h1, h2, h3, h4, h5, h6, h7, h8, h9, h10, h11, h12⟩ := h
  have hvm : u.vm.Alike U.vm := by rw [hv]; exact Vm.Alike.refl _
  refine ⟨h1, h2, by rw [hh]; exact h3, h4.moved hvm, fun a ha => ?_, fun a ha => ?_, fun q hq => (h7 q hq).same rfl hv, fun q hq => (h8 q hq).same rfl hv, fun q hq => (h9 q hq).moved hvm, fun q hq => (h10 q hq).moved hvm, aoA_moved hvm h11, h12.same rfl hv⟩
  · rw [hh]; exact (h5 a ha).moved hvm
  · rw [hh]; exact (h6 a ha).moved hvm
theorem KS.warm {g : Gl} {s U : State} (hW : s.WarmedH U.vm) (hz : s.heap.size ≤ U.heap.size) (hq : ∀ q : Nat, q < s.heap.size → ¬ gbs g ≤ q → U.heap[q]? = s.heap[q]?) (h : KS g s) : KS g U := by
  obtain ⟨h1, h2, h3, h4, h5, h6, h7, h8, h9, h10, h11, h12⟩ := h
  have hvm : s.vm.Alike U.vm := hW.alike
  refine ⟨h1, h2, Nat.le_trans h3 hz, h4.moved hvm, fun a ha => ?_, fun a ha => ?_, fun q hq => (h7 q hq).warmM hW, fun q hq => (h8 q hq).warmC hW, fun q hq => (h9 q hq).moved hvm, fun q hq => (h10 q hq).moved hvm, ?_, h12.warmD hW⟩
  · exact va_Z.moved hvm ((h5 a ha).kept hq)
  · exact va_T.moved hvm ((h6 a ha).kept hq)
  · exact aoA_moved hvm h11
theorem RelU.blind {g : Gl} {σ : St} {As : List Value} : FrameBlind (va_Pc As (RelU g σ)) := fun a U gf mk q => ⟨q.1, q.2.1.same rfl rfl, q.2.2⟩
theorem RelU.of {g : Gl} {σ : St} {s : State} {H : Heap} {locs : List Loc} (hK : KS g s) (hH : HR g σ H) (hS : va_S (fun q => gbs g ≤ q) s.heap H locs) (U : State) (hU : U.heap = H) (hW : s.WarmedH U.vm) : RelU g σ U :=
  ⟨hK.warm hW (by rw [hU]; exact hS.1) (by rw [hU]; exact hS.2.1), by rw [hU]; exact hH⟩
theorem V_iret {g : Gl} {mi : MI} {R : Room} {mc ms pc k n : Nat} {ls : List (Option MV)} {σ : St} {post : Option MV → St → Prop} {z : Int} (hd : decode mi.1 pc = .ok (.ireturn, 1)) (hr : mi.2.2.2 = some .int) (hk : k ≤ mc) (hn : n ≤ ms) (hp : post (some (vi z)) σ) : V g mi R (QM g mc ms post) pc ls [vi z] k n σ := by
  intro p e s m args below meth c H locs la C hH hS hl
  refine W.widen hk hn ?_
  exact W.iret (v := iI z) C.1 C.2.1 (C.2.2.2.1.trans hr) (fun t ht hW => ⟨⟨some (vi z), σ, rfl, hp, by rw [ht]; exact hH⟩, hS.F ht⟩) hS.2.2 hd C.2.2.2.2.2.2.2.1
theorem V_zret {g : Gl} {mi : MI} {R : Room} {mc ms pc k n : Nat} {ls : List (Option MV)} {σ : St} {post : Option MV → St → Prop} {z : Int} (hd : decode mi.1 pc = .ok (.ireturn, 1)) (hr : mi.2.2.2 = some .boolean) (hk : k ≤ mc) (hn : n ≤ ms) (hz : z = 0 ∨ z = 1) (hp : post (some (vi z)) σ) : V g mi R (QM g mc ms post) pc ls [vi z] k n σ := by
  intro p e s m args below meth c H locs la C hH hS hl
  refine W.widen hk hn ?_
  exact W.zret (v := iI z) C.1 C.2.1 (C.2.2.2.1.trans hr) (by rcases hz with rfl | rfl <;> rfl) (fun t ht hW => ⟨⟨some (vi z), σ, rfl, hp, by rw [ht]; exact hH⟩, hS.F ht⟩) hS.2.2 hd C.2.2.2.2.2.2.2.1
theorem V_lret {g : Gl} {mi : MI} {R : Room} {mc ms pc k n : Nat} {ls : List (Option MV)} {σ : St} {post : Option MV → St → Prop} {z : Int64} (hd : decode mi.1 pc = .ok (.lreturn, 1)) (hr : mi.2.2.2 = some .long) (hk : k ≤ mc) (hn : n ≤ ms) (hp : post (some (vl z)) σ) : V g mi R (QM g mc ms post) pc ls [vl z] k n σ := by
  intro p e s m args below meth c H locs la C hH hS hl
  refine W.widen hk hn ?_
  exact W.lret (v := z) C.1 C.2.1 (C.2.2.2.1.trans hr) (fun t ht hW => ⟨⟨some (vl z), σ, rfl, hp, by rw [ht]; exact hH⟩, hS.F ht⟩) hS.2.2 hd C.2.2.2.2.2.2.2.1
theorem V_vret {g : Gl} {mi : MI} {R : Room} {mc ms pc k n : Nat} {ls : List (Option MV)} {σ : St} {post : Option MV → St → Prop} (hd : decode mi.1 pc = .ok (.return_, 1)) (hr : mi.2.2.2 = none) (hk : k ≤ mc) (hn : n ≤ ms) (hp : post none σ) : V g mi R (QM g mc ms post) pc ls [] k n σ := by
  intro p e s m args below meth c H locs la C hH hS hl
  refine W.widen hk hn ?_
  exact W.vret C.1 C.2.1 (C.2.2.2.1.trans hr) (fun t ht hW => ⟨⟨none, σ, rfl, hp, by rw [ht]; exact hH⟩, hS.F ht⟩) hS.2.2 hd C.2.2.2.2.2.2.2.1
theorem V_aret {g : Gl} {mi : MI} {R : Room} {mc ms pc k n : Nat} {ls : List (Option MV)} {σ : St} {post : Option MV → St → Prop} {r : Option Nat} {C0 : String} (hd : decode mi.1 pc = .ok (.areturn, 1)) (hr : mi.2.2.2 = some (.object C0)) (hk : k ≤ mc) (hn : n ≤ ms) (hp : post (some (vq r)) σ) : V g mi R (QM g mc ms post) pc ls [vq r] k n σ := by
  intro p e s m args below meth c H locs la C hH hS hl
  refine W.widen hk hn ?_
  exact W.aret (v := rv g (vq r)) C.1 C.2.1 (C.2.2.2.1.trans hr) (Or.inl ⟨_, rfl⟩) (by cases r; exact Or.inl rfl; exact Or.inr ⟨_, rfl⟩) (fun t ht hW => ⟨⟨some (vq r), σ, rfl, hp, by rw [ht]; exact hH⟩, hS.F ht⟩) hS.2.2 hd C.2.2.2.2.2.2.2.1
/-- a contract out of the walk of the body -/
theorem Ct.of {g : Gl} {mi : MI} {d mc ms : Nat} {As : List MV} {σ : St} {post : Option MV → St → Prop} (hy : plainName mi.2.1.cls = true) (hlen : (entL As).length ≤ mi.2.2.1) (h : V g mi (rmD d mc ms) (QM g mc ms post) 0 (padL mi.2.2.1 (entL As)) [] 0 0 σ) : Ct g mi d mc ms As σ post := by
  refine Met.ofW (cc := mi.1) (maxL := mi.2.2.1) (ret := mi.2.2.2) hy rfl ?_
  intro p e s m args below meth c s₁ B hml hv
  obtain ⟨rfl, hKS, hHR⟩ := hv
  have hts0 := atoms_spec (ws := Cond.code mi.2.1 mi.1 mi.2.2.1 mi.2.2.2 :: gTbl) B.pre
  have hl := lv_entry (As.map (rv g)) (n := mi.2.2.1) (by rw [entL_len]; exact hlen)
  rw [lg_entry_eq]
  generalize (lg_sl (As.map (rv g)) ++ List.replicate (mi.2.2.1 - (lg_sl (As.map (rv g))).length) Slot.unset).toArray = la at hl ⊢
  refine h p e s m _ below meth c s.heap [] la ⟨B.exec, B.bytes, hml, B.returns, findClass_of_methodNamed B.named, (name_of_methodNamed B.named B.method).1, fun w hw => hts0 w (List.mem_cons_of_mem _ hw), B.notSynchronized, hKS⟩ hHR va_S.rf ?_
  unfold padL
  rw [lvl_app_none, lvl_ent]
  exact hl
/-- what the tables say of a method -/
def CS (my : MI) (np : Nat) : Prop := Cond.code my.2.1 my.1 my.2.2.1 my.2.2.2 ∈ gTbl ∧ Cond.initialized my.2.1.cls ∈ gTbl ∧ (my.2.1.cls ≠ "java/lang/invoke/MethodHandle" ∧ my.2.1.cls ≠ "java/lang/invoke/VarHandle") ∧ (parseMethodDescriptor my.2.1.desc).map (fun d => d.parameters.length) = some np ∧ my.2.2.1 ≤ 22
theorem gTbl_good {my : MI} (h : Cond.code my.2.1 my.1 my.2.2.1 my.2.2.2 ∈ gTbl) : GoodIn gTbl (Cond.code my.2.1 my.1 my.2.2.1 my.2.2.2 :: gTbl) := by
  intro w hw
  have hm : w ∈ gTbl := by
    rcases List.mem_cons.mp hw with e | e
    · rw [e]; exact h
    · exact e
  exact ⟨hm, good_of_word (List.mem_filter.mp hm).2⟩
theorem np_of {my : MI} {np : Nat} (h : CS my np) : ∀ sig, parseMethodDescriptor my.2.1.desc = some sig → np = sig.parameters.length := by
  intro sig hs
  have h2 := h.2.2.2.1
  rw [hs] at h2
  exact (Option.some.inj h2).symm
/-- behind a call -/
theorem V_back {g : Gl} {mi : MI} {R : Room} {QF : QFT} {pc : Nat} {ls : List (Option MV)} {st : List MV} {k n mc ms : Nat} {post : Option MV → St → Prop} {p : Program} {e : Env} {s : State} {m : MethodId} {args : Array Value} {below : List Frame} {meth : Method} {c : Code} {H : Heap} {locs : List Loc} {la : Array Slot} {stk : List Value} {av : Array Value}
    (C : Cx g mi p s m args meth c) (hS : va_S (fun q => gbs g ≤ q) s.heap H locs) (hl : lv_has la mi.2.2.1 (lvl g 0 ls))
    (hr : va_Run p g.1 e R s m args below meth c H locs k n mc ms (F0 m pc la stk) (st.map (rv g)) (QcP g post av) (fun q => gbs g ≤ q))
    (kk : ∀ (r : Option MV) (σ' : St), post r σ' → V g mi R QF (pc + 3) ls (r.toList ++ st) (k + mc) (n + ms) σ') : W p g.1 e R s m args below meth c H locs k n (QF s args below) (F0 m pc la stk) := by
  intro T hT X
  obtain ⟨v, st₀, t, T', L, h0, X', hL, e1, e2, ⟨⟨r, σ', hv, hp, hHR⟩, hz, hkp⟩, stp⟩ := hr T hT X
  cases hv
  rw [h0] at hz hkp
  have hS1 : va_S (fun q => gbs g ≤ q) s.heap T'.heap (locs ++ L) := ⟨Nat.le_trans hS.1 (by rw [e1]; exact hz), fun q h1 h2 => by rw [e1, hkp q (Nat.lt_of_lt_of_le h1 hS.1) h2]; exact hS.2.1 q h1 h2, fun q hq => by
      rcases List.mem_append.mp hq with h | h
      · exact hS.2.2 q h
      · exact hL q h⟩
  obtain ⟨t2, a1, b1⟩ := kk r σ' hp p e s m args below meth c T'.heap (locs ++ L) la C (by rw [e1]; exact hHR) hS1 hl T' rfl X'
  refine ⟨t2, stp t2 ?_, b1⟩
  have e3 : (r.toList ++ st).map (rv g) = (r.map (rv g)).toList ++ st.map (rv g) := by cases r <;> rfl
  rw [e3] at a1
  exact a1
/-- the room of a call -/
def CR (R : Room) (d k n mc ms : Nat) : Prop := (d + 1 ≤ R.frames ∧ 41 * (d + 1) ≤ R.locals) ∧ (k + mc ≤ R.cells ∧ n + ms ≤ R.slots)
def wds : List MV → Nat
  | [] => 0
  | .inr (.inl _) :: t => 2 + wds t
  | _ :: t => 1 + wds t
theorem wds_cat (g : Gl) : ∀ st : List MV, ((st.map (rv g)).map fun v => v.category).sum = wds st
  | [] => rfl
  | .inl z :: t => by
    show 1 + ((t.map (rv g)).map fun v => v.category).sum = 1 + wds t
    rw [wds_cat g t]
  | .inr (.inl x) :: t => by
    show 2 + ((t.map (rv g)).map fun v => v.category).sum = 2 + wds t
    rw [wds_cat g t]
  | .inr (.inr r) :: t => by
    show (rv g (vq r)).category + ((t.map (rv g)).map fun v => v.category).sum = 1 + wds t
    rw [wds_cat g t, rv_catq]
theorem map_rev (g : Gl) (As st : List MV) : (As.reverse ++ st).map (rv g) = (As.map (rv g)).reverse ++ st.map (rv g) := by
  rw [List.map_append, List.map_reverse]
theorem V_callS {g : Gl} {mi my : MI} {R : Room} {QF : QFT} {pc : Nat} {ls : List (Option MV)} {st stk : List MV} {k n d mc ms idx : Nat} {σ : St} {As : List MV} {post : Option MV → St → Prop} (hd : decode mi.1 pc = .ok (.invokestatic idx, 3)) (hM : Ct g my d mc ms As σ post)
    (hc : CS my As.length ∧ Cond.static my.2.1 ∈ gTbl ∧ (Cond.methodLink mi.2.1.cls idx my.2.1 ∈ gTbl ∨ (mi.2.1.cls, idx, my.2.1) ∈ mnTbl)) (hst : stk = As.reverse ++ st) (hR : CR R d k n mc ms) (hw : wds st ≤ 8)
    (kk : ∀ (r : Option MV) (σ' : St), post r σ' → V g mi R QF (pc + 3) ls (r.toList ++ st) (k + mc) (n + ms) σ') : V g mi R QF pc ls stk k n σ := by
  intro p e s m args below meth c H locs la C hH hS hl
  subst hst
  have hKS := C.2.2.2.2.2.2.2.2
  have hts := C.2.2.2.2.2.2.1
  have h5 := hc.1.2.2.2.2
  have hlo : 8 + (my.2.2.1 + 11) + (rmD d mc ms).locals ≤ R.locals := by
    have := hR.1.2
    show 8 + (my.2.2.1 + 11) + 41 * d ≤ R.locals
    omega
  refine V_back (av := (As.map (rv g)).toArray) C hS hl ?_ kk
  rw [map_rev]
  rcases hc.2.2 with hlk | hlk
  · refine va_runS (As := As.map (rv g)) (rest := st.map (rv g)) ⟨C.1, C.2.1, C.2.2.1, C.2.2.2.2.1, hts⟩ hM (n := As.length) ⟨⟨rfl, rfl, hR.1.1, hlo, pay_in hts (gTbl_good hc.1.1), List.mem_cons_self, hts _ hc.1.1, hts _ hc.1.2.1, hc.1.2.2.1, np_of hc.1, hts _ hlk⟩, hts _ hc.2.1⟩ ⟨RelU.blind, fun U hU hW => ⟨rfl, RelU.of hKS hH hS U hU hW⟩⟩ rfl (by simp) hl.1 rfl ?_ hd hR.2
    show 2 * 0 + _ ≤ 8
    rw [wds_cat]; omega
  · refine va_runSN (host := RX11) (As := As.map (rv g)) (rest := st.map (rv g)) ⟨C.1, C.2.1, C.2.2.1, C.2.2.2.2.1, hts⟩ hM (n := As.length) ⟨⟨⟨rfl, rfl, hR.1.1, hlo, pay_in hts (gTbl_good hc.1.1), List.mem_cons_self⟩, hts _ hc.1.1, hts _ hc.1.2.1, hc.1.2.2.1, np_of hc.1, va_Nw.use rfl (hKS.2.2.2.2.2.2.1 _ hlk)⟩, hts _ hc.2.1, trivial⟩ ⟨RelU.blind, fun U hU hW => ⟨rfl, RelU.of hKS hH hS U hU hW⟩⟩ rfl (by simp) hl.1 rfl ?_ hd hR.2
    show 2 * 0 + _ ≤ 8
    rw [wds_cat]; omega
theorem V_callV {g : Gl} {mi my : MI} {R : Room} {QF : QFT} {pc : Nat} {ls : List (Option MV)} {st stk : List MV} {k n d mc ms idx a ci : Nat} {σ : St} {As : List MV} {post : Option MV → St → Prop} (hd : decode mi.1 pc = .ok (.invokevirtual idx, 3)) (hM : Ct g my d mc ms (vq (some a) :: As) σ post)
    (hc : CS my As.length ∧ Cond.instanceMethod my.2.1 ∈ gTbl ∧ Cond.methodLink mi.2.1.cls idx my.2.1 ∈ gTbl ∧ Cond.selects my.2.1.cls my.2.1 my.2.1 ∈ gTbl ∧ ∃ r, vwCl[ci]? = some r ∧ r.1 = my.2.1.cls) (ha : gl σ a = some (.inl ci)) (hst : stk = As.reverse ++ vq (some a) :: st) (hR : CR R d k n mc ms) (hw : wds st ≤ 8)
    (kk : ∀ (r : Option MV) (σ' : St), post r σ' → V g mi R QF (pc + 3) ls (r.toList ++ st) (k + mc) (n + ms) σ') : V g mi R QF pc ls stk k n σ := by
  intro p e s m args below meth c H locs la C hH hS hl
  subst hst
  have hKS := C.2.2.2.2.2.2.2.2
  have hts := C.2.2.2.2.2.2.1
  have h5 := hc.1.2.2.2.2
  have hlo : 8 + (my.2.2.1 + 11) + (rmD d mc ms).locals ≤ R.locals := by
    have := hR.1.2
    show 8 + (my.2.2.1 + 11) + 41 * d ≤ R.locals
    omega
  obtain ⟨r, hr1, hr2⟩ := hc.2.2.2.2
  obtain ⟨-, r', hr3, cell, q1, q2, q3, -⟩ := hH.2.2 a _ ha
  cases hr1.symm.trans hr3
  have hcl := (ks_K hKS).1 ci r hr1
  refine V_back (av := (Value.ref (gad g a) :: As.map (rv g)).toArray) C hS hl ?_ kk
  rw [map_rev]
  refine va_runV (C := my.2.1.cls) (b := gad g a) (As := As.map (rv g)) (rest := st.map (rv g)) ⟨C.1, C.2.1, C.2.2.1, C.2.2.2.2.1, hts⟩ hM (n := As.length) ⟨⟨rfl, rfl, hR.1.1, hlo, pay_in hts (gTbl_good hc.1.1), List.mem_cons_self, hts _ hc.1.1, hts _ hc.1.2.1, hc.1.2.2.1, np_of hc.1, hts _ hc.2.2.1⟩, hts _ hc.2.1, hts _ hc.2.2.2.1⟩ ⟨RelU.blind, ⟨cell, q1, by rw [q3]; rfl, by rw [q2, ← hr2]; exact hcl.2.1⟩, fun U hU hW => ⟨rfl, RelU.of hKS hH hS U hU hW⟩⟩ rfl (by simp) hl.1 rfl ?_ hd hR.2
  show 2 * 0 + _ ≤ 8
  rw [wds_cat]; omega
/-- a constructor -/
theorem V_callI {g : Gl} {mi my : MI} {R : Room} {QF : QFT} {pc : Nat} {ls : List (Option MV)} {st stk : List MV} {k n d mc ms idx a : Nat} {σ : St} {As : List MV} {post : Option MV → St → Prop} (hd : decode mi.1 pc = .ok (.invokespecial idx, 3)) (hM : Ct g my d mc ms (vq (some a) :: As) σ post)
    (hc : CS my As.length ∧ my.2.2.2 = none ∧ my.2.1.name = "<init>" ∧ Cond.instanceMethod my.2.1 ∈ gTbl ∧ (Cond.methodLink mi.2.1.cls idx my.2.1 ∈ gTbl ∨ (mi.2.1.cls, idx, my.2.1) ∈ mnTbl)) (hst : stk = As.reverse ++ vq (some a) :: st) (hR : CR R d k n mc ms) (hw : wds st ≤ 8)
    (kk : ∀ (r : Option MV) (σ' : St), post r σ' → V g mi R QF (pc + 3) ls (r.toList ++ st) (k + mc) (n + ms) σ') : V g mi R QF pc ls stk k n σ := by
  intro p e s m args below meth c H locs la C hH hS hl
  subst hst
  have hKS := C.2.2.2.2.2.2.2.2
  have hts := C.2.2.2.2.2.2.1
  have h5 := hc.1.2.2.2.2
  have hlo : 8 + (my.2.2.1 + 11) + (rmD d mc ms).locals ≤ R.locals := by
    have := hR.1.2
    show 8 + (my.2.2.1 + 11) + 41 * d ≤ R.locals
    omega
  have hret := hc.2.1
  refine V_back (av := (Value.ref (gad g a) :: As.map (rv g)).toArray) C hS hl ?_ kk
  rw [map_rev]
  rcases hc.2.2.2.2 with hlk | hlk
  · refine va_runI (b := gad g a) (As := As.map (rv g)) (rest := st.map (rv g)) ⟨C.1, C.2.1, C.2.2.1, C.2.2.2.2.1, hts⟩ hM (n := As.length) (bytes := my.1) (maxL := my.2.2.1) ⟨⟨rfl, rfl, hR.1.1, hlo, pay_in hts (gTbl_good hc.1.1), by rw [← hret]; exact List.mem_cons_self, by rw [← hret]; exact hts _ hc.1.1, hts _ hc.1.2.1, hc.1.2.2.1, np_of hc.1, hts _ hlk⟩, hc.2.2.1, hts _ hc.2.2.2.1⟩ ⟨RelU.blind, fun U hU hW => ⟨rfl, RelU.of hKS hH hS U hU hW⟩⟩ rfl (by simp) hl.1 rfl ?_ hd hR.2
    show 2 * 0 + _ ≤ 8
    rw [wds_cat]; omega
  · refine va_runIN (host := RX11) (b := gad g a) (As := As.map (rv g)) (rest := st.map (rv g)) ⟨C.1, C.2.1, C.2.2.1, C.2.2.2.2.1, hts⟩ hM (n := As.length) (bytes := my.1) (maxL := my.2.2.1) ⟨⟨⟨rfl, rfl, hR.1.1, hlo, pay_in hts (gTbl_good hc.1.1), by rw [← hret]; exact List.mem_cons_self⟩, by rw [← hret]; exact hts _ hc.1.1, hts _ hc.1.2.1, hc.1.2.2.1, np_of hc.1, va_Nw.use rfl (hKS.2.2.2.2.2.2.1 _ hlk)⟩, hc.2.2.1, hts _ hc.2.2.2.1⟩ ⟨RelU.blind, fun U hU hW => ⟨rfl, RelU.of hKS hH hS U hU hW⟩⟩ rfl (by simp) hl.1 rfl ?_ hd hR.2
    show 2 * 0 + _ ≤ 8
    rw [wds_cat]; omega
theorem V_objInit {g : Gl} {mi : MI} {R : Room} {QF : QFT} {pc : Nat} {ls : List (Option MV)} {st : List MV} {k n idx a : Nat} {σ : St} (hd : decode mi.1 pc = .ok (.invokespecial idx, 3)) (hl0 : Cond.methodLink mi.2.1.cls idx objectInit ∈ gTbl) (hR : 1 ≤ R.frames ∧ 41 ≤ R.locals) (hw : wds st ≤ 8)
    (kk : V g mi R QF (pc + 3) ls st k n σ) : V g mi R QF pc ls (vq (some a) :: st) k n σ := by
  intro p e s m args below meth c H locs la C hH hS hl
  have hts := C.2.2.2.2.2.2.1
  refine W.objInit C.1 C.2.1 C.2.2.2.2.1 (hts _ hl0) (hts (.instanceMethod objectInit) (by decide +kernel)) (hts (.code objectInit ⟨#[0xb1]⟩ 1 none) (by decide +kernel)) rfl (by rw [C.2.2.1]; exact hl.1) rfl hd hR.1 ?_ (kk p e s m args below meth c H locs la C hH hS hl)
  show 2 * 0 + _ + 12 ≤ _
  rw [wds_cat]; omega
end
section
/-! what the tables say at each place of the methods (laid by wip/whole/mksites.py) -/
theorem gt1 {w : Cond} (i : Nat) (h : tables_1_1[i]? = some w) (hg : goodWord w = true) : w ∈ gTbl := List.mem_filter.mpr ⟨List.mem_append_right _ (List.mem_append_left _ (List.mem_of_getElem? h)), hg⟩
theorem gt2 {w : Cond} (i : Nat) (h : tables_1_2[i]? = some w) (hg : goodWord w = true) : w ∈ gTbl := List.mem_filter.mpr ⟨List.mem_append_right _ (List.mem_append_right _ (List.mem_append_left _ (List.mem_of_getElem? h))), hg⟩
theorem gt3 {w : Cond} (i : Nat) (h : tables_1_3[i]? = some w) (hg : goodWord w = true) : w ∈ gTbl := List.mem_filter.mpr ⟨List.mem_append_right _ (List.mem_append_right _ (List.mem_append_right _ (List.mem_append_left _ (List.mem_of_getElem? h)))), hg⟩
theorem gt4 {w : Cond} (i : Nat) (h : tables_1_4[i]? = some w) (hg : goodWord w = true) : w ∈ gTbl := List.mem_filter.mpr ⟨List.mem_append_right _ (List.mem_append_right _ (List.mem_append_right _ (List.mem_append_right _ (List.mem_append_left _ (List.mem_of_getElem? h))))), hg⟩
theorem gt5 {w : Cond} (i : Nat) (h : tables_1_5[i]? = some w) (hg : goodWord w = true) : w ∈ gTbl := List.mem_filter.mpr ⟨List.mem_append_right _ (List.mem_append_right _ (List.mem_append_right _ (List.mem_append_right _ (List.mem_append_right _ (List.mem_append_left _ (List.mem_of_getElem? h)))))), hg⟩
theorem gt6 {w : Cond} (i : Nat) (h : tables_1_6[i]? = some w) (hg : goodWord w = true) : w ∈ gTbl := List.mem_filter.mpr ⟨List.mem_append_right _ (List.mem_append_right _ (List.mem_append_right _ (List.mem_append_right _ (List.mem_append_right _ (List.mem_append_right _ (List.mem_of_getElem? h)))))), hg⟩
theorem gtS {q : MethodName × Nat} (i : Nat) (h : lw_privs[i]? = some q) (hg : goodWord (.selects q.1.cls q.1 q.1) = true) : Cond.selects q.1.cls q.1 q.1 ∈ gTbl := List.mem_filter.mpr ⟨List.mem_append_left _ (List.mem_map.mpr ⟨q, List.mem_of_getElem? h, rfl⟩), hg⟩
abbrev mX11_init : MI := (cX11_init, yX11_init, 1, none)
abbrev mX11_as : MI := (cX11_as, yX11_as, 6, (some .int))
abbrev mX11_board : MI := (cX11_board, yX11_board, 2, (some .int))
abbrev mX11_canRule : MI := (cX11_canRule, yX11_canRule, 2, (some .boolean))
abbrev mX11_driest : MI := (cX11_driest, yX11_driest, 3, (some .int))
abbrev mX11_feed : MI := (cX11_feed, yX11_feed, 2, (some .int))
abbrev mX11_fill : MI := (cX11_fill, yX11_fill, 7, (some .int))
abbrev mX11_fits : MI := (cX11_fits, yX11_fits, 5, (some .int))
abbrev mX11_get : MI := (cX11_get, yX11_get, 4, (some .long))
abbrev mX11_girth : MI := (cX11_girth, yX11_girth, 2, (some .int))
abbrev mX11_hang : MI := (cX11_hang, yX11_hang, 5, (some .int))
abbrev mX11_head : MI := (cX11_head, yX11_head, 5, (some .int))
abbrev mX11_heads : MI := (cX11_heads, yX11_heads, 2, (some .int))
abbrev mX11_held : MI := (cX11_held, yX11_held, 3, (some .int))
abbrev mX11_holds : MI := (cX11_holds, yX11_holds, 2, (some .boolean))
abbrev mX11_hoop : MI := (cX11_hoop, yX11_hoop, 4, (some .int))
abbrev mX11_howManyDigits : MI := (cX11_howManyDigits, yX11_howManyDigits, 4, (some .int))
abbrev mX11_image : MI := (cX11_image, yX11_image, 1, (some .int))
abbrev mX11_isHeight : MI := (cX11_isHeight, yX11_isHeight, 1, (some .boolean))
abbrev mX11_isIn : MI := (cX11_isIn, yX11_isIn, 3, (some .boolean))
abbrev mX11_isPeg : MI := (cX11_isPeg, yX11_isPeg, 1, (some .boolean))
abbrev mX11_isPress : MI := (cX11_isPress, yX11_isPress, 1, (some .boolean))
abbrev mX11_isRadius : MI := (cX11_isRadius, yX11_isRadius, 1, (some .boolean))
abbrev mX11_isRingSet : MI := (cX11_isRingSet, yX11_isRingSet, 2, (some .boolean))
abbrev mX11_isUnder : MI := (cX11_isUnder, yX11_isUnder, 5, (some .boolean))
abbrev mX11_judge : MI := (cX11_judge, yX11_judge, 6, (some .int))
abbrev mX11_kindsOf : MI := (cX11_kindsOf, yX11_kindsOf, 1, (some .int))
abbrev mX11_lackForRing : MI := (cX11_lackForRing, yX11_lackForRing, 5, (some .int))
abbrev mX11_lackOfTray : MI := (cX11_lackOfTray, yX11_lackOfTray, 2, (some .int))
abbrev mX11_leak : MI := (cX11_leak, yX11_leak, 3, (some .int))
abbrev mX11_least : MI := (cX11_least, yX11_least, 4, (some .int))
abbrev mX11_move : MI := (cX11_move, yX11_move, 8, (some .int))
abbrev mX11_nearest : MI := (cX11_nearest, yX11_nearest, 2, (some .int))
abbrev mX11_ofHoop : MI := (cX11_ofHoop, yX11_ofHoop, 4, (some .int))
abbrev mX11_ofResting : MI := (cX11_ofResting, yX11_ofResting, 6, (some .int))
abbrev mX11_ofStave : MI := (cX11_ofStave, yX11_ofStave, 4, (some .int))
abbrev mX11_press : MI := (cX11_press, yX11_press, 2, (some .int))
abbrev mX11_put : MI := (cX11_put, yX11_put, 6, (some .int))
abbrev mX11_read : MI := (cX11_read, yX11_read, 4, (some .int))
abbrev mX11_rings : MI := (cX11_rings, yX11_rings, 4, (some .int))
abbrev mX11_rootOf : MI := (cX11_rootOf, yX11_rootOf, 4, (some .int))
abbrev mX11_rule : MI := (cX11_rule, yX11_rule, 3, (some .int))
abbrev mX11_sagOf : MI := (cX11_sagOf, yX11_sagOf, 3, (some .int))
abbrev mX11_shave : MI := (cX11_shave, yX11_shave, 5, (some .int))
abbrev mX11_spellRow : MI := (cX11_spellRow, yX11_spellRow, 8, (some .int))
abbrev mX11_stave : MI := (cX11_stave, yX11_stave, 5, (some .int))
abbrev mX11_sums : MI := (cX11_sums, yX11_sums, 2, (some .int))
abbrev mX11_takes : MI := (cX11_takes, yX11_takes, 2, (some .int))
abbrev mX11_told : MI := (cX11_told, yX11_told, 2, (some .int))
abbrev mX11_tray : MI := (cX11_tray, yX11_tray, 4, (some .int))
abbrev mX11_trayOn : MI := (cX11_trayOn, yX11_trayOn, 4, (some (.object "HoopYard$Tray")))
abbrev mX11_undo : MI := (cX11_undo, yX11_undo, 1, (some .int))
abbrev mX11_used : MI := (cX11_used, yX11_used, 3, (some .int))
abbrev mX11_wet : MI := (cX11_wet, yX11_wet, 2, (some .int))
abbrev mX11_without : MI := (cX11_without, yX11_without, 2, (some .int))
abbrev mX11_worst : MI := (cX11_worst, yX11_worst, 5, (some .int))
abbrev mX0_init : MI := (cX0_init, yX0_init, 2, none)
abbrev mX0_canBe : MI := (cX0_canBe, yX0_canBe, 1, (some .boolean))
abbrev mX0_toldAs : MI := (cX0_toldAs, yX0_toldAs, 1, (some .int))
abbrev mX1_init : MI := (cX1_init, yX1_init, 1, none)
abbrev mX1_addPress : MI := (cX1_addPress, yX1_addPress, 7, none)
abbrev mX1_capped : MI := (cX1_capped, yX1_capped, 1, (some .int))
abbrev mX1_driestSize : MI := (cX1_driestSize, yX1_driestSize, 9, (some .int))
abbrev mX1_drive : MI := (cX1_drive, yX1_drive, 4, none)
abbrev mX1_girthAt : MI := (cX1_girthAt, yX1_girthAt, 2, (some .int))
abbrev mX1_gripAt : MI := (cX1_gripAt, yX1_gripAt, 3, (some .int))
abbrev mX1_heightOf : MI := (cX1_heightOf, yX1_heightOf, 2, (some .int))
abbrev mX1_howManyWetWith : MI := (cX1_howManyWetWith, yX1_howManyWetWith, 6, (some .int))
abbrev mX1_pressFrom : MI := (cX1_pressFrom, yX1_pressFrom, 3, (some .int))
abbrev mX1_restDepth : MI := (cX1_restDepth, yX1_restDepth, 8, (some .int))
abbrev mX1_wetBelow : MI := (cX1_wetBelow, yX1_wetBelow, 4, (some .int))
abbrev mX2_init : MI := (cX2_init, yX2_init, 1, none)
abbrev mX2_firstOfLeast : MI := (cX2_firstOfLeast, yX2_firstOfLeast, 3, (some .int))
abbrev mX2_howMany : MI := (cX2_howMany, yX2_howMany, 2, (some .int))
abbrev mX2_howManyOnward : MI := (cX2_howManyOnward, yX2_howManyOnward, 4, (some .int))
abbrev mX2_isDone : MI := (cX2_isDone, yX2_isDone, 2, (some .boolean))
abbrev mX2_leastDigits : MI := (cX2_leastDigits, yX2_leastDigits, 5, (some .int))
abbrev mX2_leastOnward : MI := (cX2_leastOnward, yX2_leastOnward, 5, (some .int))
abbrev mX2_leastSpent : MI := (cX2_leastSpent, yX2_leastSpent, 2, (some .int))
abbrev mX2_measure : MI := (cX2_measure, yX2_measure, 7, none)
abbrev mX2_spentBy : MI := (cX2_spentBy, yX2_spentBy, 6, (some .int))
abbrev mX2_spentFrom : MI := (cX2_spentFrom, yX2_spentFrom, 4, (some .int))
abbrev mX2_spentOn : MI := (cX2_spentOn, yX2_spentOn, 7, (some .int))
abbrev mX3_init : MI := (cX3_init, yX3_init, 4, none)
abbrev mX3_canBe : MI := (cX3_canBe, yX3_canBe, 3, (some .boolean))
abbrev mX3_presses : MI := (cX3_presses, yX3_presses, 2, (some .int))
abbrev mX3_toldAs : MI := (cX3_toldAs, yX3_toldAs, 1, (some .int))
abbrev mX4_init : MI := (cX4_init, yX4_init, 1, none)
abbrev mX4_allButFirst : MI := (cX4_allButFirst, yX4_allButFirst, 1, (some .int))
abbrev mX4_cellOf : MI := (cX4_cellOf, yX4_cellOf, 2, (some .int))
abbrev mX4_choose : MI := (cX4_choose, yX4_choose, 6, none)
abbrev mX4_countOnward : MI := (cX4_countOnward, yX4_countOnward, 8, (some .int))
abbrev mX4_digits : MI := (cX4_digits, yX4_digits, 3, (some .int))
abbrev mX4_edgeOf : MI := (cX4_edgeOf, yX4_edgeOf, 3, (some .int))
abbrev mX4_firstOfLeast : MI := (cX4_firstOfLeast, yX4_firstOfLeast, 5, (some .int))
abbrev mX4_gapOf : MI := (cX4_gapOf, yX4_gapOf, 3, (some .int))
abbrev mX4_howManyWithin : MI := (cX4_howManyWithin, yX4_howManyWithin, 5, (some .int))
abbrev mX4_jointOfRank : MI := (cX4_jointOfRank, yX4_jointOfRank, 3, (some .int))
abbrev mX4_layLeast : MI := (cX4_layLeast, yX4_layLeast, 8, none)
abbrev mX4_layTold : MI := (cX4_layTold, yX4_layTold, 4, (some .boolean))
abbrev mX4_leakUnder : MI := (cX4_leakUnder, yX4_leakUnder, 4, (some .int))
abbrev mX4_leastOnward : MI := (cX4_leastOnward, yX4_leastOnward, 8, (some .int))
abbrev mX4_measureGaps : MI := (cX4_measureGaps, yX4_measureGaps, 3, none)
abbrev mX4_rankOf : MI := (cX4_rankOf, yX4_rankOf, 4, (some .int))
abbrev mX4_tightPress : MI := (cX4_tightPress, yX4_tightPress, 3, (some .int))
abbrev mX4_weigh : MI := (cX4_weigh, yX4_weigh, 5, none)
abbrev mX5_init : MI := (cX5_init, yX5_init, 1, none)
abbrev mX5_addUp : MI := (cX5_addUp, yX5_addUp, 8, none)
abbrev mX5_bestBetween : MI := (cX5_bestBetween, yX5_bestBetween, 5, (some .int))
abbrev mX5_closestTo : MI := (cX5_closestTo, yX5_closestTo, 6, (some .int))
abbrev mX5_howMany : MI := (cX5_howMany, yX5_howMany, 5, (some .int))
abbrev mX5_isBetter : MI := (cX5_isBetter, yX5_isBetter, 3, (some .boolean))
abbrev mX6_init : MI := (cX6_init, yX6_init, 5, none)
abbrev mX6_canBe : MI := (cX6_canBe, yX6_canBe, 4, (some .boolean))
abbrev mX6_counts : MI := (cX6_counts, yX6_counts, 2, (some .int))
abbrev mX6_edge : MI := (cX6_edge, yX6_edge, 1, (some .int))
abbrev mX6_price : MI := (cX6_price, yX6_price, 2, (some .int))
abbrev mX6_toldAs : MI := (cX6_toldAs, yX6_toldAs, 1, (some .int))
abbrev mX6_twin : MI := (cX6_twin, yX6_twin, 1, (some (.object "HoopYard$Stave")))
abbrev mX7_init : MI := (cX7_init, yX7_init, 1, none)
abbrev mX7_addBoard : MI := (cX7_addBoard, yX7_addBoard, 2, (some .int))
abbrev mX7_addHoop : MI := (cX7_addHoop, yX7_addHoop, 2, (some .int))
abbrev mX7_addStave : MI := (cX7_addStave, yX7_addStave, 2, (some .int))
abbrev mX7_becomeLike : MI := (cX7_becomeLike, yX7_becomeLike, 4, none)
abbrev mX7_boardAt : MI := (cX7_boardAt, yX7_boardAt, 2, (some (.object "HoopYard$Board")))
abbrev mX7_dropBoard : MI := (cX7_dropBoard, yX7_dropBoard, 1, (some .int))
abbrev mX7_dropHoop : MI := (cX7_dropHoop, yX7_dropHoop, 1, (some .int))
abbrev mX7_dropStave : MI := (cX7_dropStave, yX7_dropStave, 1, (some .int))
abbrev mX7_hoopAt : MI := (cX7_hoopAt, yX7_hoopAt, 2, (some (.object "HoopYard$Hoop")))
abbrev mX7_staveAt : MI := (cX7_staveAt, yX7_staveAt, 2, (some (.object "HoopYard$Stave")))
abbrev mX7_thingAt : MI := (cX7_thingAt, yX7_thingAt, 3, (some (.object "HoopYard$Thing")))
abbrev mX8_init : MI := (cX8_init, yX8_init, 1, none)
abbrev mX8_append : MI := (cX8_append, yX8_append, 2, (some .int))
abbrev mX8_carryOut : MI := (cX8_carryOut, yX8_carryOut, 4, none)
abbrev mX8_firstUndoable : MI := (cX8_firstUndoable, yX8_firstUndoable, 7, (some .int))
abbrev mX8_howManyNumbers : MI := (cX8_howManyNumbers, yX8_howManyNumbers, 1, (some .int))
abbrev mX8_isInBounds : MI := (cX8_isInBounds, yX8_isInBounds, 2, (some .boolean))
abbrev mX8_parse : MI := (cX8_parse, yX8_parse, 2, (some .boolean))
abbrev mX8_parseNumber : MI := (cX8_parseNumber, yX8_parseNumber, 6, (some .boolean))
abbrev mX8_parseStatement : MI := (cX8_parseStatement, yX8_parseStatement, 5, (some .boolean))
abbrev mX8_pass : MI := (cX8_pass, yX8_pass, 2, (some .boolean))
abbrev mX8_peek : MI := (cX8_peek, yX8_peek, 1, (some .int))
abbrev mX9_init : MI := (cX9_init, yX9_init, 1, none)
abbrev mX10_init : MI := (cX10_init, yX10_init, 3, none)
abbrev mX10_hasItem : MI := (cX10_hasItem, yX10_hasItem, 2, (some .boolean))
abbrev mX10_hasRun : MI := (cX10_hasRun, yX10_hasRun, 3, (some .boolean))
abbrev mX10_lay : MI := (cX10_lay, yX10_lay, 4, none)
abbrev mX10_toldAs : MI := (cX10_toldAs, yX10_toldAs, 1, (some .int))
abbrev mX12_init : MI := (cX12_init, yX12_init, 1, none)
abbrev mX12_as : MI := (cX12_as, yX12_as, 4, (some .int))
abbrev mX12_board : MI := (cX12_board, yX12_board, 2, (some .int))
abbrev mX12_countsOf : MI := (cX12_countsOf, yX12_countsOf, 4, (some .int))
abbrev mX12_countsOfSet : MI := (cX12_countsOfSet, yX12_countsOfSet, 4, (some .int))
abbrev mX12_does : MI := (cX12_does, yX12_does, 3, (some .boolean))
abbrev mX12_driest : MI := (cX12_driest, yX12_driest, 8, (some .int))
abbrev mX12_edgeOf : MI := (cX12_edgeOf, yX12_edgeOf, 4, (some .int))
abbrev mX12_feed : MI := (cX12_feed, yX12_feed, 2, (some .int))
abbrev mX12_fill : MI := (cX12_fill, yX12_fill, 6, (some .int))
abbrev mX12_fits : MI := (cX12_fits, yX12_fits, 10, (some .int))
abbrev mX12_gap : MI := (cX12_gap, yX12_gap, 3, (some .int))
abbrev mX12_get : MI := (cX12_get, yX12_get, 3, (some .long))
abbrev mX12_girth : MI := (cX12_girth, yX12_girth, 2, (some .int))
abbrev mX12_girthAt : MI := (cX12_girthAt, yX12_girthAt, 2, (some .int))
abbrev mX12_goesOn : MI := (cX12_goesOn, yX12_goesOn, 7, none)
abbrev mX12_goesRound : MI := (cX12_goesRound, yX12_goesRound, 8, none)
abbrev mX12_gripOf : MI := (cX12_gripOf, yX12_gripOf, 2, (some .int))
abbrev mX12_hang : MI := (cX12_hang, yX12_hang, 4, (some .int))
abbrev mX12_hasHoop : MI := (cX12_hasHoop, yX12_hasHoop, 2, (some .boolean))
abbrev mX12_hasStave : MI := (cX12_hasStave, yX12_hasStave, 2, (some .boolean))
abbrev mX12_head : MI := (cX12_head, yX12_head, 3, (some .int))
abbrev mX12_heads : MI := (cX12_heads, yX12_heads, 2, (some .int))
abbrev mX12_held : MI := (cX12_held, yX12_held, 2, (some .int))
abbrev mX12_hoop : MI := (cX12_hoop, yX12_hoop, 5, (some .int))
abbrev mX12_image : MI := (cX12_image, yX12_image, 1, (some .int))
abbrev mX12_isFrom : MI := (cX12_isFrom, yX12_isFrom, 3, (some .boolean))
abbrev mX12_isHoop : MI := (cX12_isHoop, yX12_isHoop, 3, (some .boolean))
abbrev mX12_isNoTray : MI := (cX12_isNoTray, yX12_isNoTray, 2, (some .int))
abbrev mX12_isPeg : MI := (cX12_isPeg, yX12_isPeg, 1, (some .boolean))
abbrev mX12_isPress : MI := (cX12_isPress, yX12_isPress, 1, (some .boolean))
abbrev mX12_isRing : MI := (cX12_isRing, yX12_isRing, 7, (some .boolean))
abbrev mX12_isRule : MI := (cX12_isRule, yX12_isRule, 2, (some .boolean))
abbrev mX12_isSet : MI := (cX12_isSet, yX12_isSet, 2, (some .boolean))
abbrev mX12_isStave : MI := (cX12_isStave, yX12_isStave, 4, (some .boolean))
abbrev mX12_isUnder : MI := (cX12_isUnder, yX12_isUnder, 3, (some .boolean))
abbrev mX12_judge : MI := (cX12_judge, yX12_judge, 5, (some .int))
abbrev mX12_lays : MI := (cX12_lays, yX12_lays, 5, none)
abbrev mX12_leak : MI := (cX12_leak, yX12_leak, 3, (some .int))
abbrev mX12_leakOf : MI := (cX12_leakOf, yX12_leakOf, 5, (some .int))
abbrev mX12_least : MI := (cX12_least, yX12_least, 6, (some .int))
abbrev mX12_move : MI := (cX12_move, yX12_move, 7, (some .int))
abbrev mX12_nearest : MI := (cX12_nearest, yX12_nearest, 6, (some .int))
abbrev mX12_number : MI := (cX12_number, yX12_number, 4, (some .int))
abbrev mX12_numbers : MI := (cX12_numbers, yX12_numbers, 1, (some .int))
abbrev mX12_ofHoop : MI := (cX12_ofHoop, yX12_ofHoop, 3, (some .int))
abbrev mX12_ofStave : MI := (cX12_ofStave, yX12_ofStave, 3, (some .int))
abbrev mX12_pours : MI := (cX12_pours, yX12_pours, 3, none)
abbrev mX12_press : MI := (cX12_press, yX12_press, 2, (some .int))
abbrev mX12_pressAt : MI := (cX12_pressAt, yX12_pressAt, 4, (some .int))
abbrev mX12_pressOf : MI := (cX12_pressOf, yX12_pressOf, 3, (some .int))
abbrev mX12_priceOf : MI := (cX12_priceOf, yX12_priceOf, 4, (some .int))
abbrev mX12_priceOfSet : MI := (cX12_priceOfSet, yX12_priceOfSet, 4, (some .int))
abbrev mX12_put : MI := (cX12_put, yX12_put, 5, (some .int))
abbrev mX12_read : MI := (cX12_read, yX12_read, 2, (some .int))
abbrev mX12_reads : MI := (cX12_reads, yX12_reads, 3, none)
abbrev mX12_rings : MI := (cX12_rings, yX12_rings, 4, (some .int))
abbrev mX12_root : MI := (cX12_root, yX12_root, 2, (some .int))
abbrev mX12_rounds : MI := (cX12_rounds, yX12_rounds, 5, none)
abbrev mX12_rule : MI := (cX12_rule, yX12_rule, 3, (some .int))
abbrev mX12_sagOf : MI := (cX12_sagOf, yX12_sagOf, 4, (some .int))
abbrev mX12_saws : MI := (cX12_saws, yX12_saws, 2, none)
abbrev mX12_settles : MI := (cX12_settles, yX12_settles, 4, none)
abbrev mX12_shave : MI := (cX12_shave, yX12_shave, 5, (some .int))
abbrev mX12_stave : MI := (cX12_stave, yX12_stave, 6, (some .int))
abbrev mX12_sums : MI := (cX12_sums, yX12_sums, 4, (some .int))
abbrev mX12_takes : MI := (cX12_takes, yX12_takes, 2, (some .int))
abbrev mX12_told : MI := (cX12_told, yX12_told, 2, (some .int))
abbrev mX12_tray : MI := (cX12_tray, yX12_tray, 5, (some .int))
abbrev mX12_undo : MI := (cX12_undo, yX12_undo, 2, (some .int))
abbrev mX12_used : MI := (cX12_used, yX12_used, 8, (some .int))
abbrev mX12_usedBy : MI := (cX12_usedBy, yX12_usedBy, 8, (some .int))
abbrev mX12_wet : MI := (cX12_wet, yX12_wet, 2, (some .int))
abbrev mX12_wetNow : MI := (cX12_wetNow, yX12_wetNow, 3, (some .int))
abbrev mX12_within : MI := (cX12_within, yX12_within, 3, (some .boolean))
abbrev mX12_worst : MI := (cX12_worst, yX12_worst, 7, (some .int))
abbrev mX12_wrong : MI := (cX12_wrong, yX12_wrong, 1, none)
abbrev mJ6_bitCount_0f7a4 : MI := (cJ6_bitCount_0f7a4, yJ6_bitCount_0f7a4, 1, (some .int))
abbrev mJ9_abs_0f7a4 : MI := (cJ9_abs_0f7a4, yJ9_abs_0f7a4, 1, (some .int))
abbrev mJ9_max_7cf53 : MI := (cJ9_max_7cf53, yJ9_max_7cf53, 2, (some .int))
abbrev mJ9_min_7cf53 : MI := (cJ9_min_7cf53, yJ9_min_7cf53, 2, (some .int))
abbrev mJ7_fill_53178 : MI := (cJ7_fill_53178, yJ7_fill_53178, 4, none)
theorem cw_0 : ∀ w ∈ u_ws RX0 TX0 1, w ∈ gTbl := by
  intro w hw
  obtain ⟨k, hk, rfl⟩ := List.mem_map.mp hw
  have hk := List.mem_range.mp hk
  match k, hk with
  | 0, _ => exact (gt2 79 rfl rfl)
  | n + 1, h => omega
theorem cw_1 : ∀ w ∈ u_ws RX1 TX1 2, w ∈ gTbl := by
  intro w hw
  obtain ⟨k, hk, rfl⟩ := List.mem_map.mp hw
  have hk := List.mem_range.mp hk
  match k, hk with
  | 0, _ => exact (gt1 167 rfl rfl)
  | 1, _ => exact (gt1 169 rfl rfl)
  | n + 2, h => omega
theorem cw_2 : ∀ w ∈ u_ws RX2 TX2 6, w ∈ gTbl := by
  intro w hw
  obtain ⟨k, hk, rfl⟩ := List.mem_map.mp hw
  have hk := List.mem_range.mp hk
  match k, hk with
  | 0, _ => exact (gt1 184 rfl rfl)
  | 1, _ => exact (gt1 186 rfl rfl)
  | 2, _ => exact (gt1 188 rfl rfl)
  | 3, _ => exact (gt1 190 rfl rfl)
  | 4, _ => exact (gt1 192 rfl rfl)
  | 5, _ => exact (gt1 194 rfl rfl)
  | n + 6, h => omega
theorem cw_3 : ∀ w ∈ u_ws RX3 TX3 3, w ∈ gTbl := by
  intro w hw
  obtain ⟨k, hk, rfl⟩ := List.mem_map.mp hw
  have hk := List.mem_range.mp hk
  match k, hk with
  | 0, _ => exact (gt2 51 rfl rfl)
  | 1, _ => exact (gt2 53 rfl rfl)
  | 2, _ => exact (gt2 55 rfl rfl)
  | n + 3, h => omega
theorem cw_4 : ∀ w ∈ u_ws RX4 TX4 6, w ∈ gTbl := by
  intro w hw
  obtain ⟨k, hk, rfl⟩ := List.mem_map.mp hw
  have hk := List.mem_range.mp hk
  match k, hk with
  | 0, _ => exact (gt1 144 rfl rfl)
  | 1, _ => exact (gt1 146 rfl rfl)
  | 2, _ => exact (gt1 148 rfl rfl)
  | 3, _ => exact (gt1 150 rfl rfl)
  | 4, _ => exact (gt1 152 rfl rfl)
  | 5, _ => exact (gt1 154 rfl rfl)
  | n + 6, h => omega
theorem cw_5 : ∀ w ∈ u_ws RX5 TX5 3, w ∈ gTbl := by
  intro w hw
  obtain ⟨k, hk, rfl⟩ := List.mem_map.mp hw
  have hk := List.mem_range.mp hk
  match k, hk with
  | 0, _ => exact (gt1 122 rfl rfl)
  | 1, _ => exact (gt1 124 rfl rfl)
  | 2, _ => exact (gt1 126 rfl rfl)
  | n + 3, h => omega
theorem cw_6 : ∀ w ∈ u_ws RX6 TX6 4, w ∈ gTbl := by
  intro w hw
  obtain ⟨k, hk, rfl⟩ := List.mem_map.mp hw
  have hk := List.mem_range.mp hk
  match k, hk with
  | 0, _ => exact (gt2 15 rfl rfl)
  | 1, _ => exact (gt2 17 rfl rfl)
  | 2, _ => exact (gt2 19 rfl rfl)
  | 3, _ => exact (gt2 21 rfl rfl)
  | n + 4, h => omega
theorem cw_7 : ∀ w ∈ u_ws RX7 TX7 7, w ∈ gTbl := by
  intro w hw
  obtain ⟨k, hk, rfl⟩ := List.mem_map.mp hw
  have hk := List.mem_range.mp hk
  match k, hk with
  | 0, _ => exact (gt1 59 rfl rfl)
  | 1, _ => exact (gt1 61 rfl rfl)
  | 2, _ => exact (gt1 63 rfl rfl)
  | 3, _ => exact (gt1 65 rfl rfl)
  | 4, _ => exact (gt1 67 rfl rfl)
  | 5, _ => exact (gt1 69 rfl rfl)
  | 6, _ => exact (gt1 71 rfl rfl)
  | n + 7, h => omega
theorem cw_8 : ∀ w ∈ u_ws RX8 TX8 7, w ∈ gTbl := by
  intro w hw
  obtain ⟨k, hk, rfl⟩ := List.mem_map.mp hw
  have hk := List.mem_range.mp hk
  match k, hk with
  | 0, _ => exact (gt1 95 rfl rfl)
  | 1, _ => exact (gt1 97 rfl rfl)
  | 2, _ => exact (gt1 99 rfl rfl)
  | 3, _ => exact (gt1 101 rfl rfl)
  | 4, _ => exact (gt1 103 rfl rfl)
  | 5, _ => exact (gt1 105 rfl rfl)
  | 6, _ => exact (gt1 107 rfl rfl)
  | n + 7, h => omega
theorem cw_9 : ∀ w ∈ u_ws RX10 TX10 2, w ∈ gTbl := by
  intro w hw
  obtain ⟨k, hk, rfl⟩ := List.mem_map.mp hw
  have hk := List.mem_range.mp hk
  match k, hk with
  | 0, _ => exact (gt4 73 rfl rfl)
  | 1, _ => exact (gt4 75 rfl rfl)
  | n + 2, h => omega
theorem cw_10 : ∀ w ∈ u_ws RX11 TX11 10, w ∈ gTbl := by
  intro w hw
  obtain ⟨k, hk, rfl⟩ := List.mem_map.mp hw
  have hk := List.mem_range.mp hk
  match k, hk with
  | 0, _ => exact (gt1 207 rfl rfl)
  | 1, _ => exact (gt1 209 rfl rfl)
  | 2, _ => exact (gt1 211 rfl rfl)
  | 3, _ => exact (gt1 213 rfl rfl)
  | 4, _ => exact (gt1 215 rfl rfl)
  | 5, _ => exact (gt1 217 rfl rfl)
  | 6, _ => exact (gt1 219 rfl rfl)
  | 7, _ => exact (gt1 221 rfl rfl)
  | 8, _ => exact (gt1 223 rfl rfl)
  | 9, _ => exact (gt1 225 rfl rfl)
  | n + 10, h => omega
theorem cw_11 : ∀ w ∈ u_ws RX12 TX12 30, w ∈ gTbl := by
  intro w hw
  obtain ⟨k, hk, rfl⟩ := List.mem_map.mp hw
  have hk := List.mem_range.mp hk
  match k, hk with
  | 0, _ => exact (gt4 216 rfl rfl)
  | 1, _ => exact (gt4 218 rfl rfl)
  | 2, _ => exact (gt4 220 rfl rfl)
  | 3, _ => exact (gt4 222 rfl rfl)
  | 4, _ => exact (gt4 224 rfl rfl)
  | 5, _ => exact (gt4 226 rfl rfl)
  | 6, _ => exact (gt4 228 rfl rfl)
  | 7, _ => exact (gt4 230 rfl rfl)
  | 8, _ => exact (gt4 232 rfl rfl)
  | 9, _ => exact (gt4 234 rfl rfl)
  | 10, _ => exact (gt4 236 rfl rfl)
  | 11, _ => exact (gt4 238 rfl rfl)
  | 12, _ => exact (gt5 0 rfl rfl)
  | 13, _ => exact (gt5 2 rfl rfl)
  | 14, _ => exact (gt5 4 rfl rfl)
  | 15, _ => exact (gt5 6 rfl rfl)
  | 16, _ => exact (gt5 8 rfl rfl)
  | 17, _ => exact (gt5 10 rfl rfl)
  | 18, _ => exact (gt5 12 rfl rfl)
  | 19, _ => exact (gt5 14 rfl rfl)
  | 20, _ => exact (gt5 16 rfl rfl)
  | 21, _ => exact (gt5 18 rfl rfl)
  | 22, _ => exact (gt5 20 rfl rfl)
  | 23, _ => exact (gt5 22 rfl rfl)
  | 24, _ => exact (gt5 24 rfl rfl)
  | 25, _ => exact (gt5 26 rfl rfl)
  | 26, _ => exact (gt5 28 rfl rfl)
  | 27, _ => exact (gt5 30 rfl rfl)
  | 28, _ => exact (gt5 32 rfl rfl)
  | 29, _ => exact (gt5 34 rfl rfl)
  | n + 30, h => omega
theorem cs_X11_init : CS mX11_init 0 := ⟨(gt1 22 rfl rfl), (gt1 1 rfl rfl), ⟨by decide +kernel, by decide +kernel⟩, by decide +kernel, by decide⟩
theorem cs_X11_as : CS mX11_as 3 := ⟨(gt4 101 rfl rfl), (gt1 1 rfl rfl), ⟨by decide +kernel, by decide +kernel⟩, by decide +kernel, by decide⟩
theorem cs_X11_board : CS mX11_board 1 := ⟨(gt2 65 rfl rfl), (gt1 1 rfl rfl), ⟨by decide +kernel, by decide +kernel⟩, by decide +kernel, by decide⟩
theorem cs_X11_canRule : CS mX11_canRule 2 := ⟨(gt2 93 rfl rfl), (gt1 1 rfl rfl), ⟨by decide +kernel, by decide +kernel⟩, by decide +kernel, by decide⟩
theorem cs_X11_driest : CS mX11_driest 2 := ⟨(gt3 145 rfl rfl), (gt1 1 rfl rfl), ⟨by decide +kernel, by decide +kernel⟩, by decide +kernel, by decide⟩
theorem cs_X11_feed : CS mX11_feed 1 := ⟨(gt3 226 rfl rfl), (gt1 1 rfl rfl), ⟨by decide +kernel, by decide +kernel⟩, by decide +kernel, by decide⟩
theorem cs_X11_fill : CS mX11_fill 3 := ⟨(gt4 141 rfl rfl), (gt1 1 rfl rfl), ⟨by decide +kernel, by decide +kernel⟩, by decide +kernel, by decide⟩
theorem cs_X11_fits : CS mX11_fits 1 := ⟨(gt2 154 rfl rfl), (gt1 1 rfl rfl), ⟨by decide +kernel, by decide +kernel⟩, by decide +kernel, by decide⟩
theorem cs_X11_get : CS mX11_get 2 := ⟨(gt4 136 rfl rfl), (gt1 1 rfl rfl), ⟨by decide +kernel, by decide +kernel⟩, by decide +kernel, by decide⟩
theorem cs_X11_girth : CS mX11_girth 1 := ⟨(gt3 68 rfl rfl), (gt1 1 rfl rfl), ⟨by decide +kernel, by decide +kernel⟩, by decide +kernel, by decide⟩
theorem cs_X11_hang : CS mX11_hang 3 := ⟨(gt4 46 rfl rfl), (gt1 1 rfl rfl), ⟨by decide +kernel, by decide +kernel⟩, by decide +kernel, by decide⟩
theorem cs_X11_head : CS mX11_head 2 := ⟨(gt3 159 rfl rfl), (gt1 1 rfl rfl), ⟨by decide +kernel, by decide +kernel⟩, by decide +kernel, by decide⟩
theorem cs_X11_heads : CS mX11_heads 1 := ⟨(gt3 214 rfl rfl), (gt1 1 rfl rfl), ⟨by decide +kernel, by decide +kernel⟩, by decide +kernel, by decide⟩
theorem cs_X11_held : CS mX11_held 1 := ⟨(gt4 82 rfl rfl), (gt1 1 rfl rfl), ⟨by decide +kernel, by decide +kernel⟩, by decide +kernel, by decide⟩
theorem cs_X11_holds : CS mX11_holds 2 := ⟨(gt2 218 rfl rfl), (gt1 1 rfl rfl), ⟨by decide +kernel, by decide +kernel⟩, by decide +kernel, by decide⟩
theorem cs_X11_hoop : CS mX11_hoop 3 := ⟨(gt2 31 rfl rfl), (gt1 1 rfl rfl), ⟨by decide +kernel, by decide +kernel⟩, by decide +kernel, by decide⟩
theorem cs_X11_howManyDigits : CS mX11_howManyDigits 1 := ⟨(gt3 40 rfl rfl), (gt1 1 rfl rfl), ⟨by decide +kernel, by decide +kernel⟩, by decide +kernel, by decide⟩
theorem cs_X11_image : CS mX11_image 0 := ⟨(gt4 165 rfl rfl), (gt1 1 rfl rfl), ⟨by decide +kernel, by decide +kernel⟩, by decide +kernel, by decide⟩
theorem cs_X11_isHeight : CS mX11_isHeight 1 := ⟨(gt3 71 rfl rfl), (gt1 1 rfl rfl), ⟨by decide +kernel, by decide +kernel⟩, by decide +kernel, by decide⟩
theorem cs_X11_isIn : CS mX11_isIn 3 := ⟨(gt1 237 rfl rfl), (gt1 1 rfl rfl), ⟨by decide +kernel, by decide +kernel⟩, by decide +kernel, by decide⟩
theorem cs_X11_isPeg : CS mX11_isPeg 1 := ⟨(gt4 49 rfl rfl), (gt1 1 rfl rfl), ⟨by decide +kernel, by decide +kernel⟩, by decide +kernel, by decide⟩
theorem cs_X11_isPress : CS mX11_isPress 1 := ⟨(gt2 207 rfl rfl), (gt1 1 rfl rfl), ⟨by decide +kernel, by decide +kernel⟩, by decide +kernel, by decide⟩
theorem cs_X11_isRadius : CS mX11_isRadius 1 := ⟨(gt3 162 rfl rfl), (gt1 1 rfl rfl), ⟨by decide +kernel, by decide +kernel⟩, by decide +kernel, by decide⟩
theorem cs_X11_isRingSet : CS mX11_isRingSet 1 := ⟨(gt2 203 rfl rfl), (gt1 1 rfl rfl), ⟨by decide +kernel, by decide +kernel⟩, by decide +kernel, by decide⟩
theorem cs_X11_isUnder : CS mX11_isUnder 3 := ⟨(gt4 111 rfl rfl), (gt1 1 rfl rfl), ⟨by decide +kernel, by decide +kernel⟩, by decide +kernel, by decide⟩
theorem cs_X11_judge : CS mX11_judge 3 := ⟨(gt4 150 rfl rfl), (gt1 1 rfl rfl), ⟨by decide +kernel, by decide +kernel⟩, by decide +kernel, by decide⟩
theorem cs_X11_kindsOf : CS mX11_kindsOf 1 := ⟨(gt4 104 rfl rfl), (gt1 1 rfl rfl), ⟨by decide +kernel, by decide +kernel⟩, by decide +kernel, by decide⟩
theorem cs_X11_lackForRing : CS mX11_lackForRing 3 := ⟨(gt4 145 rfl rfl), (gt1 1 rfl rfl), ⟨by decide +kernel, by decide +kernel⟩, by decide +kernel, by decide⟩
theorem cs_X11_lackOfTray : CS mX11_lackOfTray 1 := ⟨(gt4 123 rfl rfl), (gt1 1 rfl rfl), ⟨by decide +kernel, by decide +kernel⟩, by decide +kernel, by decide⟩
theorem cs_X11_leak : CS mX11_leak 2 := ⟨(gt3 30 rfl rfl), (gt1 1 rfl rfl), ⟨by decide +kernel, by decide +kernel⟩, by decide +kernel, by decide⟩
theorem cs_X11_least : CS mX11_least 3 := ⟨(gt2 199 rfl rfl), (gt1 1 rfl rfl), ⟨by decide +kernel, by decide +kernel⟩, by decide +kernel, by decide⟩
theorem cs_X11_move : CS mX11_move 5 := ⟨(gt4 154 rfl rfl), (gt1 1 rfl rfl), ⟨by decide +kernel, by decide +kernel⟩, by decide +kernel, by decide⟩
theorem cs_X11_nearest : CS mX11_nearest 1 := ⟨(gt2 188 rfl rfl), (gt1 1 rfl rfl), ⟨by decide +kernel, by decide +kernel⟩, by decide +kernel, by decide⟩
theorem cs_X11_ofHoop : CS mX11_ofHoop 2 := ⟨(gt3 80 rfl rfl), (gt1 1 rfl rfl), ⟨by decide +kernel, by decide +kernel⟩, by decide +kernel, by decide⟩
theorem cs_X11_ofResting : CS mX11_ofResting 3 := ⟨(gt3 88 rfl rfl), (gt1 1 rfl rfl), ⟨by decide +kernel, by decide +kernel⟩, by decide +kernel, by decide⟩
theorem cs_X11_ofStave : CS mX11_ofStave 2 := ⟨(gt2 105 rfl rfl), (gt1 1 rfl rfl), ⟨by decide +kernel, by decide +kernel⟩, by decide +kernel, by decide⟩
theorem cs_X11_press : CS mX11_press 1 := ⟨(gt3 125 rfl rfl), (gt1 1 rfl rfl), ⟨by decide +kernel, by decide +kernel⟩, by decide +kernel, by decide⟩
theorem cs_X11_put : CS mX11_put 3 := ⟨(gt4 115 rfl rfl), (gt1 1 rfl rfl), ⟨by decide +kernel, by decide +kernel⟩, by decide +kernel, by decide⟩
theorem cs_X11_read : CS mX11_read 0 := ⟨(gt3 234 rfl rfl), (gt1 1 rfl rfl), ⟨by decide +kernel, by decide +kernel⟩, by decide +kernel, by decide⟩
theorem cs_X11_rings : CS mX11_rings 3 := ⟨(gt3 57 rfl rfl), (gt1 1 rfl rfl), ⟨by decide +kernel, by decide +kernel⟩, by decide +kernel, by decide⟩
theorem cs_X11_rootOf : CS mX11_rootOf 1 := ⟨(gt2 130 rfl rfl), (gt1 1 rfl rfl), ⟨by decide +kernel, by decide +kernel⟩, by decide +kernel, by decide⟩
theorem cs_X11_rule : CS mX11_rule 2 := ⟨(gt2 89 rfl rfl), (gt1 1 rfl rfl), ⟨by decide +kernel, by decide +kernel⟩, by decide +kernel, by decide⟩
theorem cs_X11_sagOf : CS mX11_sagOf 2 := ⟨(gt2 127 rfl rfl), (gt1 1 rfl rfl), ⟨by decide +kernel, by decide +kernel⟩, by decide +kernel, by decide⟩
theorem cs_X11_shave : CS mX11_shave 2 := ⟨(gt2 150 rfl rfl), (gt1 1 rfl rfl), ⟨by decide +kernel, by decide +kernel⟩, by decide +kernel, by decide⟩
theorem cs_X11_spellRow : CS mX11_spellRow 3 := ⟨(gt3 37 rfl rfl), (gt1 1 rfl rfl), ⟨by decide +kernel, by decide +kernel⟩, by decide +kernel, by decide⟩
theorem cs_X11_stave : CS mX11_stave 4 := ⟨(gt1 231 rfl rfl), (gt1 1 rfl rfl), ⟨by decide +kernel, by decide +kernel⟩, by decide +kernel, by decide⟩
theorem cs_X11_sums : CS mX11_sums 1 := ⟨(gt2 184 rfl rfl), (gt1 1 rfl rfl), ⟨by decide +kernel, by decide +kernel⟩, by decide +kernel, by decide⟩
theorem cs_X11_takes : CS mX11_takes 1 := ⟨(gt2 134 rfl rfl), (gt1 1 rfl rfl), ⟨by decide +kernel, by decide +kernel⟩, by decide +kernel, by decide⟩
theorem cs_X11_told : CS mX11_told 1 := ⟨(gt2 101 rfl rfl), (gt1 1 rfl rfl), ⟨by decide +kernel, by decide +kernel⟩, by decide +kernel, by decide⟩
theorem cs_X11_tray : CS mX11_tray 3 := ⟨(gt4 60 rfl rfl), (gt1 1 rfl rfl), ⟨by decide +kernel, by decide +kernel⟩, by decide +kernel, by decide⟩
theorem cs_X11_trayOn : CS mX11_trayOn 1 := ⟨(gt4 119 rfl rfl), (gt1 1 rfl rfl), ⟨by decide +kernel, by decide +kernel⟩, by decide +kernel, by decide⟩
theorem cs_X11_undo : CS mX11_undo 0 := ⟨(gt4 179 rfl rfl), (gt1 1 rfl rfl), ⟨by decide +kernel, by decide +kernel⟩, by decide +kernel, by decide⟩
theorem cs_X11_used : CS mX11_used 2 := ⟨(gt3 205 rfl rfl), (gt1 1 rfl rfl), ⟨by decide +kernel, by decide +kernel⟩, by decide +kernel, by decide⟩
theorem cs_X11_wet : CS mX11_wet 1 := ⟨(gt3 132 rfl rfl), (gt1 1 rfl rfl), ⟨by decide +kernel, by decide +kernel⟩, by decide +kernel, by decide⟩
theorem cs_X11_without : CS mX11_without 2 := ⟨(gt3 7 rfl rfl), (gt1 1 rfl rfl), ⟨by decide +kernel, by decide +kernel⟩, by decide +kernel, by decide⟩
theorem cs_X11_worst : CS mX11_worst 3 := ⟨(gt3 45 rfl rfl), (gt1 1 rfl rfl), ⟨by decide +kernel, by decide +kernel⟩, by decide +kernel, by decide⟩
theorem cs_X0_init : CS mX0_init 1 := ⟨(gt2 74 rfl rfl), (gt1 12 rfl rfl), ⟨by decide +kernel, by decide +kernel⟩, by decide +kernel, by decide⟩
theorem cs_X0_canBe : CS mX0_canBe 1 := ⟨(gt2 68 rfl rfl), (gt1 12 rfl rfl), ⟨by decide +kernel, by decide +kernel⟩, by decide +kernel, by decide⟩
theorem cs_X0_toldAs : CS mX0_toldAs 0 := ⟨(gt4 88 rfl rfl), (gt1 12 rfl rfl), ⟨by decide +kernel, by decide +kernel⟩, by decide +kernel, by decide⟩
theorem cs_X1_init : CS mX1_init 0 := ⟨(gt1 161 rfl rfl), (gt1 6 rfl rfl), ⟨by decide +kernel, by decide +kernel⟩, by decide +kernel, by decide⟩
theorem cs_X1_addPress : CS mX1_addPress 3 := ⟨(gt3 109 rfl rfl), (gt1 6 rfl rfl), ⟨by decide +kernel, by decide +kernel⟩, by decide +kernel, by decide⟩
theorem cs_X1_capped : CS mX1_capped 1 := ⟨(gt3 128 rfl rfl), (gt1 6 rfl rfl), ⟨by decide +kernel, by decide +kernel⟩, by decide +kernel, by decide⟩
theorem cs_X1_driestSize : CS mX1_driestSize 3 := ⟨(gt3 149 rfl rfl), (gt1 6 rfl rfl), ⟨by decide +kernel, by decide +kernel⟩, by decide +kernel, by decide⟩
theorem cs_X1_drive : CS mX1_drive 1 := ⟨(gt3 92 rfl rfl), (gt1 6 rfl rfl), ⟨by decide +kernel, by decide +kernel⟩, by decide +kernel, by decide⟩
theorem cs_X1_girthAt : CS mX1_girthAt 2 := ⟨(gt3 74 rfl rfl), (gt1 6 rfl rfl), ⟨by decide +kernel, by decide +kernel⟩, by decide +kernel, by decide⟩
theorem cs_X1_gripAt : CS mX1_gripAt 3 := ⟨(gt3 105 rfl rfl), (gt1 6 rfl rfl), ⟨by decide +kernel, by decide +kernel⟩, by decide +kernel, by decide⟩
theorem cs_X1_heightOf : CS mX1_heightOf 2 := ⟨(gt3 112 rfl rfl), (gt1 6 rfl rfl), ⟨by decide +kernel, by decide +kernel⟩, by decide +kernel, by decide⟩
theorem cs_X1_howManyWetWith : CS mX1_howManyWetWith 3 := ⟨(gt3 155 rfl rfl), (gt1 6 rfl rfl), ⟨by decide +kernel, by decide +kernel⟩, by decide +kernel, by decide⟩
theorem cs_X1_pressFrom : CS mX1_pressFrom 3 := ⟨(gt3 118 rfl rfl), (gt1 6 rfl rfl), ⟨by decide +kernel, by decide +kernel⟩, by decide +kernel, by decide⟩
theorem cs_X1_restDepth : CS mX1_restDepth 4 := ⟨(gt3 100 rfl rfl), (gt1 6 rfl rfl), ⟨by decide +kernel, by decide +kernel⟩, by decide +kernel, by decide⟩
theorem cs_X1_wetBelow : CS mX1_wetBelow 1 := ⟨(gt3 140 rfl rfl), (gt1 6 rfl rfl), ⟨by decide +kernel, by decide +kernel⟩, by decide +kernel, by decide⟩
theorem cs_X2_init : CS mX2_init 0 := ⟨(gt1 176 rfl rfl), (gt1 7 rfl rfl), ⟨by decide +kernel, by decide +kernel⟩, by decide +kernel, by decide⟩
theorem cs_X2_firstOfLeast : CS mX2_firstOfLeast 1 := ⟨(gt3 201 rfl rfl), (gt1 7 rfl rfl), ⟨by decide +kernel, by decide +kernel⟩, by decide +kernel, by decide⟩
theorem cs_X2_howMany : CS mX2_howMany 0 := ⟨(gt3 218 rfl rfl), (gt1 7 rfl rfl), ⟨by decide +kernel, by decide +kernel⟩, by decide +kernel, by decide⟩
theorem cs_X2_howManyOnward : CS mX2_howManyOnward 1 := ⟨(gt3 222 rfl rfl), (gt1 7 rfl rfl), ⟨by decide +kernel, by decide +kernel⟩, by decide +kernel, by decide⟩
theorem cs_X2_isDone : CS mX2_isDone 1 := ⟨(gt3 178 rfl rfl), (gt1 7 rfl rfl), ⟨by decide +kernel, by decide +kernel⟩, by decide +kernel, by decide⟩
theorem cs_X2_leastDigits : CS mX2_leastDigits 0 := ⟨(gt3 197 rfl rfl), (gt1 7 rfl rfl), ⟨by decide +kernel, by decide +kernel⟩, by decide +kernel, by decide⟩
theorem cs_X2_leastOnward : CS mX2_leastOnward 1 := ⟨(gt3 182 rfl rfl), (gt1 7 rfl rfl), ⟨by decide +kernel, by decide +kernel⟩, by decide +kernel, by decide⟩
theorem cs_X2_leastSpent : CS mX2_leastSpent 0 := ⟨(gt3 174 rfl rfl), (gt1 7 rfl rfl), ⟨by decide +kernel, by decide +kernel⟩, by decide +kernel, by decide⟩
theorem cs_X2_measure : CS mX2_measure 2 := ⟨(gt3 166 rfl rfl), (gt1 7 rfl rfl), ⟨by decide +kernel, by decide +kernel⟩, by decide +kernel, by decide⟩
theorem cs_X2_spentBy : CS mX2_spentBy 1 := ⟨(gt3 209 rfl rfl), (gt1 7 rfl rfl), ⟨by decide +kernel, by decide +kernel⟩, by decide +kernel, by decide⟩
theorem cs_X2_spentFrom : CS mX2_spentFrom 2 := ⟨(gt3 187 rfl rfl), (gt1 7 rfl rfl), ⟨by decide +kernel, by decide +kernel⟩, by decide +kernel, by decide⟩
theorem cs_X2_spentOn : CS mX2_spentOn 2 := ⟨(gt3 191 rfl rfl), (gt1 7 rfl rfl), ⟨by decide +kernel, by decide +kernel⟩, by decide +kernel, by decide⟩
theorem cs_X3_init : CS mX3_init 3 := ⟨(gt2 40 rfl rfl), (gt1 11 rfl rfl), ⟨by decide +kernel, by decide +kernel⟩, by decide +kernel, by decide⟩
theorem cs_X3_canBe : CS mX3_canBe 3 := ⟨(gt2 34 rfl rfl), (gt1 11 rfl rfl), ⟨by decide +kernel, by decide +kernel⟩, by decide +kernel, by decide⟩
theorem cs_X3_presses : CS mX3_presses 2 := ⟨(gt3 115 rfl rfl), (gt1 11 rfl rfl), ⟨by decide +kernel, by decide +kernel⟩, by decide +kernel, by decide⟩
theorem cs_X3_toldAs : CS mX3_toldAs 0 := ⟨(gt4 91 rfl rfl), (gt1 11 rfl rfl), ⟨by decide +kernel, by decide +kernel⟩, by decide +kernel, by decide⟩
theorem cs_X4_init : CS mX4_init 0 := ⟨(gt1 133 rfl rfl), (gt1 5 rfl rfl), ⟨by decide +kernel, by decide +kernel⟩, by decide +kernel, by decide⟩
theorem cs_X4_allButFirst : CS mX4_allButFirst 0 := ⟨(gt2 236 rfl rfl), (gt1 5 rfl rfl), ⟨by decide +kernel, by decide +kernel⟩, by decide +kernel, by decide⟩
theorem cs_X4_cellOf : CS mX4_cellOf 2 := ⟨(gt2 239 rfl rfl), (gt1 5 rfl rfl), ⟨by decide +kernel, by decide +kernel⟩, by decide +kernel, by decide⟩
theorem cs_X4_choose : CS mX4_choose 3 := ⟨(gt2 215 rfl rfl), (gt1 5 rfl rfl), ⟨by decide +kernel, by decide +kernel⟩, by decide +kernel, by decide⟩
theorem cs_X4_countOnward : CS mX4_countOnward 6 := ⟨(gt3 64 rfl rfl), (gt1 5 rfl rfl), ⟨by decide +kernel, by decide +kernel⟩, by decide +kernel, by decide⟩
theorem cs_X4_digits : CS mX4_digits 0 := ⟨(gt3 26 rfl rfl), (gt1 5 rfl rfl), ⟨by decide +kernel, by decide +kernel⟩, by decide +kernel, by decide⟩
theorem cs_X4_edgeOf : CS mX4_edgeOf 2 := ⟨(gt2 224 rfl rfl), (gt1 5 rfl rfl), ⟨by decide +kernel, by decide +kernel⟩, by decide +kernel, by decide⟩
theorem cs_X4_firstOfLeast : CS mX4_firstOfLeast 2 := ⟨(gt3 14 rfl rfl), (gt1 5 rfl rfl), ⟨by decide +kernel, by decide +kernel⟩, by decide +kernel, by decide⟩
theorem cs_X4_gapOf : CS mX4_gapOf 3 := ⟨(gt2 221 rfl rfl), (gt1 5 rfl rfl), ⟨by decide +kernel, by decide +kernel⟩, by decide +kernel, by decide⟩
theorem cs_X4_howManyWithin : CS mX4_howManyWithin 4 := ⟨(gt3 61 rfl rfl), (gt1 5 rfl rfl), ⟨by decide +kernel, by decide +kernel⟩, by decide +kernel, by decide⟩
theorem cs_X4_jointOfRank : CS mX4_jointOfRank 1 := ⟨(gt3 49 rfl rfl), (gt1 5 rfl rfl), ⟨by decide +kernel, by decide +kernel⟩, by decide +kernel, by decide⟩
theorem cs_X4_layLeast : CS mX4_layLeast 3 := ⟨(gt2 211 rfl rfl), (gt1 5 rfl rfl), ⟨by decide +kernel, by decide +kernel⟩, by decide +kernel, by decide⟩
theorem cs_X4_layTold : CS mX4_layTold 2 := ⟨(gt3 34 rfl rfl), (gt1 5 rfl rfl), ⟨by decide +kernel, by decide +kernel⟩, by decide +kernel, by decide⟩
theorem cs_X4_leakUnder : CS mX4_leakUnder 1 := ⟨(gt3 22 rfl rfl), (gt1 5 rfl rfl), ⟨by decide +kernel, by decide +kernel⟩, by decide +kernel, by decide⟩
theorem cs_X4_leastOnward : CS mX4_leastOnward 3 := ⟨(gt3 3 rfl rfl), (gt1 5 rfl rfl), ⟨by decide +kernel, by decide +kernel⟩, by decide +kernel, by decide⟩
theorem cs_X4_measureGaps : CS mX4_measureGaps 1 := ⟨(gt3 18 rfl rfl), (gt1 5 rfl rfl), ⟨by decide +kernel, by decide +kernel⟩, by decide +kernel, by decide⟩
theorem cs_X4_rankOf : CS mX4_rankOf 1 := ⟨(gt3 53 rfl rfl), (gt1 5 rfl rfl), ⟨by decide +kernel, by decide +kernel⟩, by decide +kernel, by decide⟩
theorem cs_X4_tightPress : CS mX4_tightPress 2 := ⟨(gt3 136 rfl rfl), (gt1 5 rfl rfl), ⟨by decide +kernel, by decide +kernel⟩, by decide +kernel, by decide⟩
theorem cs_X4_weigh : CS mX4_weigh 1 := ⟨(gt2 232 rfl rfl), (gt1 5 rfl rfl), ⟨by decide +kernel, by decide +kernel⟩, by decide +kernel, by decide⟩
theorem cs_X5_init : CS mX5_init 0 := ⟨(gt1 115 rfl rfl), (gt1 4 rfl rfl), ⟨by decide +kernel, by decide +kernel⟩, by decide +kernel, by decide⟩
theorem cs_X5_addUp : CS mX5_addUp 1 := ⟨(gt2 158 rfl rfl), (gt1 4 rfl rfl), ⟨by decide +kernel, by decide +kernel⟩, by decide +kernel, by decide⟩
theorem cs_X5_bestBetween : CS mX5_bestBetween 2 := ⟨(gt2 170 rfl rfl), (gt1 4 rfl rfl), ⟨by decide +kernel, by decide +kernel⟩, by decide +kernel, by decide⟩
theorem cs_X5_closestTo : CS mX5_closestTo 1 := ⟨(gt2 192 rfl rfl), (gt1 4 rfl rfl), ⟨by decide +kernel, by decide +kernel⟩, by decide +kernel, by decide⟩
theorem cs_X5_howMany : CS mX5_howMany 2 := ⟨(gt2 165 rfl rfl), (gt1 4 rfl rfl), ⟨by decide +kernel, by decide +kernel⟩, by decide +kernel, by decide⟩
theorem cs_X5_isBetter : CS mX5_isBetter 2 := ⟨(gt2 174 rfl rfl), (gt1 4 rfl rfl), ⟨by decide +kernel, by decide +kernel⟩, by decide +kernel, by decide⟩
theorem cs_X6_init : CS mX6_init 4 := ⟨(gt2 2 rfl rfl), (gt1 10 rfl rfl), ⟨by decide +kernel, by decide +kernel⟩, by decide +kernel, by decide⟩
theorem cs_X6_canBe : CS mX6_canBe 4 := ⟨(gt1 234 rfl rfl), (gt1 10 rfl rfl), ⟨by decide +kernel, by decide +kernel⟩, by decide +kernel, by decide⟩
theorem cs_X6_counts : CS mX6_counts 0 := ⟨(gt2 113 rfl rfl), (gt1 10 rfl rfl), ⟨by decide +kernel, by decide +kernel⟩, by decide +kernel, by decide⟩
theorem cs_X6_edge : CS mX6_edge 0 := ⟨(gt2 120 rfl rfl), (gt1 10 rfl rfl), ⟨by decide +kernel, by decide +kernel⟩, by decide +kernel, by decide⟩
theorem cs_X6_price : CS mX6_price 0 := ⟨(gt2 124 rfl rfl), (gt1 10 rfl rfl), ⟨by decide +kernel, by decide +kernel⟩, by decide +kernel, by decide⟩
theorem cs_X6_toldAs : CS mX6_toldAs 0 := ⟨(gt4 94 rfl rfl), (gt1 10 rfl rfl), ⟨by decide +kernel, by decide +kernel⟩, by decide +kernel, by decide⟩
theorem cs_X6_twin : CS mX6_twin 0 := ⟨(gt4 173 rfl rfl), (gt1 10 rfl rfl), ⟨by decide +kernel, by decide +kernel⟩, by decide +kernel, by decide⟩
theorem cs_X7_init : CS mX7_init 0 := ⟨(gt1 30 rfl rfl), (gt1 2 rfl rfl), ⟨by decide +kernel, by decide +kernel⟩, by decide +kernel, by decide⟩
theorem cs_X7_addBoard : CS mX7_addBoard 1 := ⟨(gt2 85 rfl rfl), (gt1 2 rfl rfl), ⟨by decide +kernel, by decide +kernel⟩, by decide +kernel, by decide⟩
theorem cs_X7_addHoop : CS mX7_addHoop 1 := ⟨(gt2 61 rfl rfl), (gt1 2 rfl rfl), ⟨by decide +kernel, by decide +kernel⟩, by decide +kernel, by decide⟩
theorem cs_X7_addStave : CS mX7_addStave 1 := ⟨(gt2 27 rfl rfl), (gt1 2 rfl rfl), ⟨by decide +kernel, by decide +kernel⟩, by decide +kernel, by decide⟩
theorem cs_X7_becomeLike : CS mX7_becomeLike 1 := ⟨(gt4 169 rfl rfl), (gt1 2 rfl rfl), ⟨by decide +kernel, by decide +kernel⟩, by decide +kernel, by decide⟩
theorem cs_X7_boardAt : CS mX7_boardAt 1 := ⟨(gt3 170 rfl rfl), (gt1 2 rfl rfl), ⟨by decide +kernel, by decide +kernel⟩, by decide +kernel, by decide⟩
theorem cs_X7_dropBoard : CS mX7_dropBoard 0 := ⟨(gt2 146 rfl rfl), (gt1 2 rfl rfl), ⟨by decide +kernel, by decide +kernel⟩, by decide +kernel, by decide⟩
theorem cs_X7_dropHoop : CS mX7_dropHoop 0 := ⟨(gt2 142 rfl rfl), (gt1 2 rfl rfl), ⟨by decide +kernel, by decide +kernel⟩, by decide +kernel, by decide⟩
theorem cs_X7_dropStave : CS mX7_dropStave 0 := ⟨(gt2 138 rfl rfl), (gt1 2 rfl rfl), ⟨by decide +kernel, by decide +kernel⟩, by decide +kernel, by decide⟩
theorem cs_X7_hoopAt : CS mX7_hoopAt 1 := ⟨(gt3 84 rfl rfl), (gt1 2 rfl rfl), ⟨by decide +kernel, by decide +kernel⟩, by decide +kernel, by decide⟩
theorem cs_X7_staveAt : CS mX7_staveAt 1 := ⟨(gt2 109 rfl rfl), (gt1 2 rfl rfl), ⟨by decide +kernel, by decide +kernel⟩, by decide +kernel, by decide⟩
theorem cs_X7_thingAt : CS mX7_thingAt 2 := ⟨(gt4 53 rfl rfl), (gt1 2 rfl rfl), ⟨by decide +kernel, by decide +kernel⟩, by decide +kernel, by decide⟩
theorem cs_X8_init : CS mX8_init 0 := ⟨(gt1 81 rfl rfl), (gt1 3 rfl rfl), ⟨by decide +kernel, by decide +kernel⟩, by decide +kernel, by decide⟩
theorem cs_X8_append : CS mX8_append 1 := ⟨(gt3 230 rfl rfl), (gt1 3 rfl rfl), ⟨by decide +kernel, by decide +kernel⟩, by decide +kernel, by decide⟩
theorem cs_X8_carryOut : CS mX8_carryOut 1 := ⟨(gt4 33 rfl rfl), (gt1 3 rfl rfl), ⟨by decide +kernel, by decide +kernel⟩, by decide +kernel, by decide⟩
theorem cs_X8_firstUndoable : CS mX8_firstUndoable 1 := ⟨(gt4 22 rfl rfl), (gt1 3 rfl rfl), ⟨by decide +kernel, by decide +kernel⟩, by decide +kernel, by decide⟩
theorem cs_X8_howManyNumbers : CS mX8_howManyNumbers 1 := ⟨(gt4 9 rfl rfl), (gt1 3 rfl rfl), ⟨by decide +kernel, by decide +kernel⟩, by decide +kernel, by decide⟩
theorem cs_X8_isInBounds : CS mX8_isInBounds 2 := ⟨(gt4 25 rfl rfl), (gt1 3 rfl rfl), ⟨by decide +kernel, by decide +kernel⟩, by decide +kernel, by decide⟩
theorem cs_X8_parse : CS mX8_parse 0 := ⟨(gt3 238 rfl rfl), (gt1 3 rfl rfl), ⟨by decide +kernel, by decide +kernel⟩, by decide +kernel, by decide⟩
theorem cs_X8_parseNumber : CS mX8_parseNumber 2 := ⟨(gt4 17 rfl rfl), (gt1 3 rfl rfl), ⟨by decide +kernel, by decide +kernel⟩, by decide +kernel, by decide⟩
theorem cs_X8_parseStatement : CS mX8_parseStatement 1 := ⟨(gt4 2 rfl rfl), (gt1 3 rfl rfl), ⟨by decide +kernel, by decide +kernel⟩, by decide +kernel, by decide⟩
theorem cs_X8_pass : CS mX8_pass 1 := ⟨(gt4 13 rfl rfl), (gt1 3 rfl rfl), ⟨by decide +kernel, by decide +kernel⟩, by decide +kernel, by decide⟩
theorem cs_X8_peek : CS mX8_peek 0 := ⟨(gt4 6 rfl rfl), (gt1 3 rfl rfl), ⟨by decide +kernel, by decide +kernel⟩, by decide +kernel, by decide⟩
theorem cs_X9_init : CS mX9_init 0 := ⟨(gt2 5 rfl rfl), (gt1 9 rfl rfl), ⟨by decide +kernel, by decide +kernel⟩, by decide +kernel, by decide⟩
theorem cs_X10_init : CS mX10_init 2 := ⟨(gt4 65 rfl rfl), (gt1 16 rfl rfl), ⟨by decide +kernel, by decide +kernel⟩, by decide +kernel, by decide⟩
theorem cs_X10_hasItem : CS mX10_hasItem 1 := ⟨(gt4 127 rfl rfl), (gt1 16 rfl rfl), ⟨by decide +kernel, by decide +kernel⟩, by decide +kernel, by decide⟩
theorem cs_X10_hasRun : CS mX10_hasRun 2 := ⟨(gt4 158 rfl rfl), (gt1 16 rfl rfl), ⟨by decide +kernel, by decide +kernel⟩, by decide +kernel, by decide⟩
theorem cs_X10_lay : CS mX10_lay 2 := ⟨(gt4 131 rfl rfl), (gt1 16 rfl rfl), ⟨by decide +kernel, by decide +kernel⟩, by decide +kernel, by decide⟩
theorem cs_X10_toldAs : CS mX10_toldAs 0 := ⟨(gt4 97 rfl rfl), (gt1 16 rfl rfl), ⟨by decide +kernel, by decide +kernel⟩, by decide +kernel, by decide⟩
theorem cs_X12_init : CS mX12_init 0 := ⟨(gt4 184 rfl rfl), (gt1 8 rfl rfl), ⟨by decide +kernel, by decide +kernel⟩, by decide +kernel, by decide⟩
theorem cs_X12_as : CS mX12_as 3 := ⟨(gt6 60 rfl rfl), (gt1 8 rfl rfl), ⟨by decide +kernel, by decide +kernel⟩, by decide +kernel, by decide⟩
theorem cs_X12_board : CS mX12_board 1 := ⟨(gt5 57 rfl rfl), (gt1 8 rfl rfl), ⟨by decide +kernel, by decide +kernel⟩, by decide +kernel, by decide⟩
theorem cs_X12_countsOf : CS mX12_countsOf 1 := ⟨(gt5 80 rfl rfl), (gt1 8 rfl rfl), ⟨by decide +kernel, by decide +kernel⟩, by decide +kernel, by decide⟩
theorem cs_X12_countsOfSet : CS mX12_countsOfSet 1 := ⟨(gt5 112 rfl rfl), (gt1 8 rfl rfl), ⟨by decide +kernel, by decide +kernel⟩, by decide +kernel, by decide⟩
theorem cs_X12_does : CS mX12_does 1 := ⟨(gt6 37 rfl rfl), (gt1 8 rfl rfl), ⟨by decide +kernel, by decide +kernel⟩, by decide +kernel, by decide⟩
theorem cs_X12_driest : CS mX12_driest 2 := ⟨(gt5 219 rfl rfl), (gt1 8 rfl rfl), ⟨by decide +kernel, by decide +kernel⟩, by decide +kernel, by decide⟩
theorem cs_X12_edgeOf : CS mX12_edgeOf 1 := ⟨(gt5 85 rfl rfl), (gt1 8 rfl rfl), ⟨by decide +kernel, by decide +kernel⟩, by decide +kernel, by decide⟩
theorem cs_X12_feed : CS mX12_feed 1 := ⟨(gt6 7 rfl rfl), (gt1 8 rfl rfl), ⟨by decide +kernel, by decide +kernel⟩, by decide +kernel, by decide⟩
theorem cs_X12_fill : CS mX12_fill 3 := ⟨(gt6 84 rfl rfl), (gt1 8 rfl rfl), ⟨by decide +kernel, by decide +kernel⟩, by decide +kernel, by decide⟩
theorem cs_X12_fits : CS mX12_fits 1 := ⟨(gt5 108 rfl rfl), (gt1 8 rfl rfl), ⟨by decide +kernel, by decide +kernel⟩, by decide +kernel, by decide⟩
theorem cs_X12_gap : CS mX12_gap 2 := ⟨(gt5 154 rfl rfl), (gt1 8 rfl rfl), ⟨by decide +kernel, by decide +kernel⟩, by decide +kernel, by decide⟩
theorem cs_X12_get : CS mX12_get 2 := ⟨(gt6 79 rfl rfl), (gt1 8 rfl rfl), ⟨by decide +kernel, by decide +kernel⟩, by decide +kernel, by decide⟩
theorem cs_X12_girth : CS mX12_girth 1 := ⟨(gt5 175 rfl rfl), (gt1 8 rfl rfl), ⟨by decide +kernel, by decide +kernel⟩, by decide +kernel, by decide⟩
theorem cs_X12_girthAt : CS mX12_girthAt 1 := ⟨(gt5 179 rfl rfl), (gt1 8 rfl rfl), ⟨by decide +kernel, by decide +kernel⟩, by decide +kernel, by decide⟩
theorem cs_X12_goesOn : CS mX12_goesOn 5 := ⟨(gt5 231 rfl rfl), (gt1 8 rfl rfl), ⟨by decide +kernel, by decide +kernel⟩, by decide +kernel, by decide⟩
theorem cs_X12_goesRound : CS mX12_goesRound 4 := ⟨(gt5 146 rfl rfl), (gt1 8 rfl rfl), ⟨by decide +kernel, by decide +kernel⟩, by decide +kernel, by decide⟩
theorem cs_X12_gripOf : CS mX12_gripOf 1 := ⟨(gt5 195 rfl rfl), (gt1 8 rfl rfl), ⟨by decide +kernel, by decide +kernel⟩, by decide +kernel, by decide⟩
theorem cs_X12_hang : CS mX12_hang 3 := ⟨(gt6 45 rfl rfl), (gt1 8 rfl rfl), ⟨by decide +kernel, by decide +kernel⟩, by decide +kernel, by decide⟩
theorem cs_X12_hasHoop : CS mX12_hasHoop 1 := ⟨(gt5 187 rfl rfl), (gt1 8 rfl rfl), ⟨by decide +kernel, by decide +kernel⟩, by decide +kernel, by decide⟩
theorem cs_X12_hasStave : CS mX12_hasStave 1 := ⟨(gt5 76 rfl rfl), (gt1 8 rfl rfl), ⟨by decide +kernel, by decide +kernel⟩, by decide +kernel, by decide⟩
theorem cs_X12_head : CS mX12_head 2 := ⟨(gt5 223 rfl rfl), (gt1 8 rfl rfl), ⟨by decide +kernel, by decide +kernel⟩, by decide +kernel, by decide⟩
theorem cs_X12_heads : CS mX12_heads 1 := ⟨(gt6 3 rfl rfl), (gt1 8 rfl rfl), ⟨by decide +kernel, by decide +kernel⟩, by decide +kernel, by decide⟩
theorem cs_X12_held : CS mX12_held 1 := ⟨(gt6 56 rfl rfl), (gt1 8 rfl rfl), ⟨by decide +kernel, by decide +kernel⟩, by decide +kernel, by decide⟩
theorem cs_X12_hoop : CS mX12_hoop 3 := ⟨(gt5 50 rfl rfl), (gt1 8 rfl rfl), ⟨by decide +kernel, by decide +kernel⟩, by decide +kernel, by decide⟩
theorem cs_X12_image : CS mX12_image 0 := ⟨(gt6 96 rfl rfl), (gt1 8 rfl rfl), ⟨by decide +kernel, by decide +kernel⟩, by decide +kernel, by decide⟩
theorem cs_X12_isFrom : CS mX12_isFrom 2 := ⟨(gt6 26 rfl rfl), (gt1 8 rfl rfl), ⟨by decide +kernel, by decide +kernel⟩, by decide +kernel, by decide⟩
theorem cs_X12_isHoop : CS mX12_isHoop 3 := ⟨(gt5 53 rfl rfl), (gt1 8 rfl rfl), ⟨by decide +kernel, by decide +kernel⟩, by decide +kernel, by decide⟩
theorem cs_X12_isNoTray : CS mX12_isNoTray 1 := ⟨(gt6 71 rfl rfl), (gt1 8 rfl rfl), ⟨by decide +kernel, by decide +kernel⟩, by decide +kernel, by decide⟩
theorem cs_X12_isPeg : CS mX12_isPeg 1 := ⟨(gt6 48 rfl rfl), (gt1 8 rfl rfl), ⟨by decide +kernel, by decide +kernel⟩, by decide +kernel, by decide⟩
theorem cs_X12_isPress : CS mX12_isPress 1 := ⟨(gt5 138 rfl rfl), (gt1 8 rfl rfl), ⟨by decide +kernel, by decide +kernel⟩, by decide +kernel, by decide⟩
theorem cs_X12_isRing : CS mX12_isRing 1 := ⟨(gt5 163 rfl rfl), (gt1 8 rfl rfl), ⟨by decide +kernel, by decide +kernel⟩, by decide +kernel, by decide⟩
theorem cs_X12_isRule : CS mX12_isRule 2 := ⟨(gt5 64 rfl rfl), (gt1 8 rfl rfl), ⟨by decide +kernel, by decide +kernel⟩, by decide +kernel, by decide⟩
theorem cs_X12_isSet : CS mX12_isSet 1 := ⟨(gt5 135 rfl rfl), (gt1 8 rfl rfl), ⟨by decide +kernel, by decide +kernel⟩, by decide +kernel, by decide⟩
theorem cs_X12_isStave : CS mX12_isStave 4 := ⟨(gt5 43 rfl rfl), (gt1 8 rfl rfl), ⟨by decide +kernel, by decide +kernel⟩, by decide +kernel, by decide⟩
theorem cs_X12_isUnder : CS mX12_isUnder 3 := ⟨(gt6 63 rfl rfl), (gt1 8 rfl rfl), ⟨by decide +kernel, by decide +kernel⟩, by decide +kernel, by decide⟩
theorem cs_X12_judge : CS mX12_judge 3 := ⟨(gt6 88 rfl rfl), (gt1 8 rfl rfl), ⟨by decide +kernel, by decide +kernel⟩, by decide +kernel, by decide⟩
theorem cs_X12_lays : CS mX12_lays 3 := ⟨(gt6 75 rfl rfl), (gt1 8 rfl rfl), ⟨by decide +kernel, by decide +kernel⟩, by decide +kernel, by decide⟩
theorem cs_X12_leak : CS mX12_leak 2 := ⟨(gt5 159 rfl rfl), (gt1 8 rfl rfl), ⟨by decide +kernel, by decide +kernel⟩, by decide +kernel, by decide⟩
theorem cs_X12_leakOf : CS mX12_leakOf 2 := ⟨(gt5 150 rfl rfl), (gt1 8 rfl rfl), ⟨by decide +kernel, by decide +kernel⟩, by decide +kernel, by decide⟩
theorem cs_X12_least : CS mX12_least 3 := ⟨(gt5 131 rfl rfl), (gt1 8 rfl rfl), ⟨by decide +kernel, by decide +kernel⟩, by decide +kernel, by decide⟩
theorem cs_X12_move : CS mX12_move 5 := ⟨(gt6 92 rfl rfl), (gt1 8 rfl rfl), ⟨by decide +kernel, by decide +kernel⟩, by decide +kernel, by decide⟩
theorem cs_X12_nearest : CS mX12_nearest 1 := ⟨(gt5 125 rfl rfl), (gt1 8 rfl rfl), ⟨by decide +kernel, by decide +kernel⟩, by decide +kernel, by decide⟩
theorem cs_X12_number : CS mX12_number 0 := ⟨(gt6 30 rfl rfl), (gt1 8 rfl rfl), ⟨by decide +kernel, by decide +kernel⟩, by decide +kernel, by decide⟩
theorem cs_X12_numbers : CS mX12_numbers 1 := ⟨(gt6 18 rfl rfl), (gt1 8 rfl rfl), ⟨by decide +kernel, by decide +kernel⟩, by decide +kernel, by decide⟩
theorem cs_X12_ofHoop : CS mX12_ofHoop 2 := ⟨(gt5 183 rfl rfl), (gt1 8 rfl rfl), ⟨by decide +kernel, by decide +kernel⟩, by decide +kernel, by decide⟩
theorem cs_X12_ofStave : CS mX12_ofStave 2 := ⟨(gt5 72 rfl rfl), (gt1 8 rfl rfl), ⟨by decide +kernel, by decide +kernel⟩, by decide +kernel, by decide⟩
theorem cs_X12_pours : CS mX12_pours 2 := ⟨(gt6 33 rfl rfl), (gt1 8 rfl rfl), ⟨by decide +kernel, by decide +kernel⟩, by decide +kernel, by decide⟩
theorem cs_X12_press : CS mX12_press 1 := ⟨(gt5 203 rfl rfl), (gt1 8 rfl rfl), ⟨by decide +kernel, by decide +kernel⟩, by decide +kernel, by decide⟩
theorem cs_X12_pressAt : CS mX12_pressAt 1 := ⟨(gt5 207 rfl rfl), (gt1 8 rfl rfl), ⟨by decide +kernel, by decide +kernel⟩, by decide +kernel, by decide⟩
theorem cs_X12_pressOf : CS mX12_pressOf 1 := ⟨(gt5 199 rfl rfl), (gt1 8 rfl rfl), ⟨by decide +kernel, by decide +kernel⟩, by decide +kernel, by decide⟩
theorem cs_X12_priceOf : CS mX12_priceOf 1 := ⟨(gt5 89 rfl rfl), (gt1 8 rfl rfl), ⟨by decide +kernel, by decide +kernel⟩, by decide +kernel, by decide⟩
theorem cs_X12_priceOfSet : CS mX12_priceOfSet 1 := ⟨(gt5 116 rfl rfl), (gt1 8 rfl rfl), ⟨by decide +kernel, by decide +kernel⟩, by decide +kernel, by decide⟩
theorem cs_X12_put : CS mX12_put 3 := ⟨(gt6 67 rfl rfl), (gt1 8 rfl rfl), ⟨by decide +kernel, by decide +kernel⟩, by decide +kernel, by decide⟩
theorem cs_X12_read : CS mX12_read 0 := ⟨(gt6 11 rfl rfl), (gt1 8 rfl rfl), ⟨by decide +kernel, by decide +kernel⟩, by decide +kernel, by decide⟩
theorem cs_X12_reads : CS mX12_reads 0 := ⟨(gt6 15 rfl rfl), (gt1 8 rfl rfl), ⟨by decide +kernel, by decide +kernel⟩, by decide +kernel, by decide⟩
theorem cs_X12_rings : CS mX12_rings 3 := ⟨(gt5 171 rfl rfl), (gt1 8 rfl rfl), ⟨by decide +kernel, by decide +kernel⟩, by decide +kernel, by decide⟩
theorem cs_X12_root : CS mX12_root 1 := ⟨(gt5 96 rfl rfl), (gt1 8 rfl rfl), ⟨by decide +kernel, by decide +kernel⟩, by decide +kernel, by decide⟩
theorem cs_X12_rounds : CS mX12_rounds 3 := ⟨(gt5 142 rfl rfl), (gt1 8 rfl rfl), ⟨by decide +kernel, by decide +kernel⟩, by decide +kernel, by decide⟩
theorem cs_X12_rule : CS mX12_rule 2 := ⟨(gt5 61 rfl rfl), (gt1 8 rfl rfl), ⟨by decide +kernel, by decide +kernel⟩, by decide +kernel, by decide⟩
theorem cs_X12_sagOf : CS mX12_sagOf 1 := ⟨(gt5 93 rfl rfl), (gt1 8 rfl rfl), ⟨by decide +kernel, by decide +kernel⟩, by decide +kernel, by decide⟩
theorem cs_X12_saws : CS mX12_saws 1 := ⟨(gt5 227 rfl rfl), (gt1 8 rfl rfl), ⟨by decide +kernel, by decide +kernel⟩, by decide +kernel, by decide⟩
theorem cs_X12_settles : CS mX12_settles 0 := ⟨(gt5 191 rfl rfl), (gt1 8 rfl rfl), ⟨by decide +kernel, by decide +kernel⟩, by decide +kernel, by decide⟩
theorem cs_X12_shave : CS mX12_shave 2 := ⟨(gt5 104 rfl rfl), (gt1 8 rfl rfl), ⟨by decide +kernel, by decide +kernel⟩, by decide +kernel, by decide⟩
theorem cs_X12_stave : CS mX12_stave 4 := ⟨(gt5 40 rfl rfl), (gt1 8 rfl rfl), ⟨by decide +kernel, by decide +kernel⟩, by decide +kernel, by decide⟩
theorem cs_X12_sums : CS mX12_sums 1 := ⟨(gt5 121 rfl rfl), (gt1 8 rfl rfl), ⟨by decide +kernel, by decide +kernel⟩, by decide +kernel, by decide⟩
theorem cs_X12_takes : CS mX12_takes 1 := ⟨(gt5 100 rfl rfl), (gt1 8 rfl rfl), ⟨by decide +kernel, by decide +kernel⟩, by decide +kernel, by decide⟩
theorem cs_X12_told : CS mX12_told 1 := ⟨(gt5 68 rfl rfl), (gt1 8 rfl rfl), ⟨by decide +kernel, by decide +kernel⟩, by decide +kernel, by decide⟩
theorem cs_X12_tray : CS mX12_tray 3 := ⟨(gt6 52 rfl rfl), (gt1 8 rfl rfl), ⟨by decide +kernel, by decide +kernel⟩, by decide +kernel, by decide⟩
theorem cs_X12_undo : CS mX12_undo 0 := ⟨(gt6 100 rfl rfl), (gt1 8 rfl rfl), ⟨by decide +kernel, by decide +kernel⟩, by decide +kernel, by decide⟩
theorem cs_X12_used : CS mX12_used 2 := ⟨(gt5 239 rfl rfl), (gt1 8 rfl rfl), ⟨by decide +kernel, by decide +kernel⟩, by decide +kernel, by decide⟩
theorem cs_X12_usedBy : CS mX12_usedBy 3 := ⟨(gt5 235 rfl rfl), (gt1 8 rfl rfl), ⟨by decide +kernel, by decide +kernel⟩, by decide +kernel, by decide⟩
theorem cs_X12_wet : CS mX12_wet 1 := ⟨(gt5 211 rfl rfl), (gt1 8 rfl rfl), ⟨by decide +kernel, by decide +kernel⟩, by decide +kernel, by decide⟩
theorem cs_X12_wetNow : CS mX12_wetNow 0 := ⟨(gt5 215 rfl rfl), (gt1 8 rfl rfl), ⟨by decide +kernel, by decide +kernel⟩, by decide +kernel, by decide⟩
theorem cs_X12_within : CS mX12_within 3 := ⟨(gt5 46 rfl rfl), (gt1 8 rfl rfl), ⟨by decide +kernel, by decide +kernel⟩, by decide +kernel, by decide⟩
theorem cs_X12_worst : CS mX12_worst 3 := ⟨(gt5 167 rfl rfl), (gt1 8 rfl rfl), ⟨by decide +kernel, by decide +kernel⟩, by decide +kernel, by decide⟩
theorem cs_X12_wrong : CS mX12_wrong 0 := ⟨(gt6 22 rfl rfl), (gt1 8 rfl rfl), ⟨by decide +kernel, by decide +kernel⟩, by decide +kernel, by decide⟩
theorem cs_J6_bitCount_0f7a4 : CS mJ6_bitCount_0f7a4 1 := ⟨(gt2 177 rfl rfl), (gt1 14 rfl rfl), ⟨by decide +kernel, by decide +kernel⟩, by decide +kernel, by decide⟩
theorem cs_J9_abs_0f7a4 : CS mJ9_abs_0f7a4 1 := ⟨(gt2 195 rfl rfl), (gt1 13 rfl rfl), ⟨by decide +kernel, by decide +kernel⟩, by decide +kernel, by decide⟩
theorem cs_J9_max_7cf53 : CS mJ9_max_7cf53 2 := ⟨(gt2 116 rfl rfl), (gt1 13 rfl rfl), ⟨by decide +kernel, by decide +kernel⟩, by decide +kernel, by decide⟩
theorem cs_J9_min_7cf53 : CS mJ9_min_7cf53 2 := ⟨(gt3 10 rfl rfl), (gt1 13 rfl rfl), ⟨by decide +kernel, by decide +kernel⟩, by decide +kernel, by decide⟩
theorem cs_J7_fill_53178 : CS mJ7_fill_53178 2 := ⟨(gt3 95 rfl rfl), (gt1 15 rfl rfl), ⟨by decide +kernel, by decide +kernel⟩, by decide +kernel, by decide⟩
theorem sl_RL_7 : Cond.classLink RL 7 RX11 ∈ gTbl := (gt1 18 rfl rfl)
theorem sn_RL_7 : NC RL 7 10 10 := by
  refine ⟨_, rfl, rfl, sl_RL_7, (gt1 19 rfl rfl), (gt1 1 rfl rfl), cw_10, fun j hj => ?_⟩
  match j, hj with
  | 0, _ => exact ⟨fun h => by first | rfl | (revert h; decide), fun h => by first | rfl | (exact absurd rfl h)⟩
  | 1, _ => exact ⟨fun h => by first | rfl | (revert h; decide), fun h => by first | rfl | (exact absurd rfl h)⟩
  | 2, _ => exact ⟨fun h => by first | rfl | (revert h; decide), fun h => by first | rfl | (exact absurd rfl h)⟩
  | 3, _ => exact ⟨fun h => by first | rfl | (revert h; decide), fun h => by first | rfl | (exact absurd rfl h)⟩
  | 4, _ => exact ⟨fun h => by first | rfl | (revert h; decide), fun h => by first | rfl | (exact absurd rfl h)⟩
  | 5, _ => exact ⟨fun h => by first | rfl | (revert h; decide), fun h => by first | rfl | (exact absurd rfl h)⟩
  | 6, _ => exact ⟨fun h => by first | rfl | (revert h; decide), fun h => by first | rfl | (exact absurd rfl h)⟩
  | 7, _ => exact ⟨fun h => by first | rfl | (revert h; decide), fun h => by first | rfl | (exact absurd rfl h)⟩
  | 8, _ => exact ⟨fun h => by first | rfl | (revert h; decide), fun h => by first | rfl | (exact absurd rfl h)⟩
  | 9, _ => exact ⟨fun h => by first | rfl | (revert h; decide), fun h => by first | rfl | (exact absurd rfl h)⟩
  | n + 10, h => exact absurd h (by show ¬ n + 10 < 10; omega)
theorem si_RL_9 : CS mX11_init 0 ∧ mX11_init.2.2.2 = none ∧ mX11_init.2.1.name = "<init>" ∧ Cond.instanceMethod yX11_init ∈ gTbl ∧ (Cond.methodLink RL 9 yX11_init ∈ gTbl ∨ (RL, 9, yX11_init) ∈ mnTbl) := ⟨cs_X11_init, rfl, rfl, (gt1 21 rfl rfl), (Or.inl (gt1 20 rfl rfl))⟩
theorem so_RX11_3 : Cond.methodLink RX11 3 objectInit ∈ gTbl := (gt1 23 rfl rfl)
theorem sl_RX11_9 : Cond.classLink RX11 9 RX7 ∈ gTbl := (gt1 26 rfl rfl)
theorem sn_RX11_9 : NC RX11 9 7 7 := by
  refine ⟨_, rfl, rfl, sl_RX11_9, (gt1 27 rfl rfl), (gt1 2 rfl rfl), cw_7, fun j hj => ?_⟩
  match j, hj with
  | 0, _ => exact ⟨fun h => by first | rfl | (revert h; decide), fun h => by first | rfl | (exact absurd rfl h)⟩
  | 1, _ => exact ⟨fun h => by first | rfl | (revert h; decide), fun h => by first | rfl | (exact absurd rfl h)⟩
  | 2, _ => exact ⟨fun h => by first | rfl | (revert h; decide), fun h => by first | rfl | (exact absurd rfl h)⟩
  | 3, _ => exact ⟨fun h => by first | rfl | (revert h; decide), fun h => by first | rfl | (exact absurd rfl h)⟩
  | 4, _ => exact ⟨fun h => by first | rfl | (revert h; decide), fun h => by first | rfl | (exact absurd rfl h)⟩
  | 5, _ => exact ⟨fun h => by first | rfl | (revert h; decide), fun h => by first | rfl | (exact absurd rfl h)⟩
  | 6, _ => exact ⟨fun h => by first | rfl | (revert h; decide), fun h => by first | rfl | (exact absurd rfl h)⟩
  | n + 7, h => exact absurd h (by show ¬ n + 7 < 7; omega)
theorem si_RX11_11 : CS mX7_init 0 ∧ mX7_init.2.2.2 = none ∧ mX7_init.2.1.name = "<init>" ∧ Cond.instanceMethod yX7_init ∈ gTbl ∧ (Cond.methodLink RX11 11 yX7_init ∈ gTbl ∨ (RX11, 11, yX7_init) ∈ mnTbl) := ⟨cs_X7_init, rfl, rfl, (gt1 29 rfl rfl), (Or.inr (List.mem_of_getElem? (i := 0) rfl))⟩
theorem so_RX7_3 : Cond.methodLink RX7 3 objectInit ∈ gTbl := (gt1 31 rfl rfl)
theorem sl_RX7_9 : Cond.classLink RX7 9 RX6 ∈ gTbl := (gt1 32 rfl rfl)
theorem sn_RX7_9 : NC RX7 9 6 4 := by
  refine ⟨_, rfl, rfl, sl_RX7_9, (gt1 239 rfl rfl), (gt1 10 rfl rfl), cw_6, fun j hj => ?_⟩
  match j, hj with
  | 0, _ => exact ⟨fun h => by first | rfl | (revert h; decide), fun h => by first | rfl | (exact absurd rfl h)⟩
  | 1, _ => exact ⟨fun h => by first | rfl | (revert h; decide), fun h => by first | rfl | (exact absurd rfl h)⟩
  | 2, _ => exact ⟨fun h => by first | rfl | (revert h; decide), fun h => by first | rfl | (exact absurd rfl h)⟩
  | 3, _ => exact ⟨fun h => by first | rfl | (revert h; decide), fun h => by first | rfl | (exact absurd rfl h)⟩
  | n + 4, h => exact absurd h (by show ¬ n + 4 < 4; omega)
theorem sl_RX7_17 : Cond.classLink RX7 17 RX3 ∈ gTbl := (gt1 34 rfl rfl)
theorem sn_RX7_17 : NC RX7 17 3 3 := by
  refine ⟨_, rfl, rfl, sl_RX7_17, (gt2 37 rfl rfl), (gt1 11 rfl rfl), cw_3, fun j hj => ?_⟩
  match j, hj with
  | 0, _ => exact ⟨fun h => by first | rfl | (revert h; decide), fun h => by first | rfl | (exact absurd rfl h)⟩
  | 1, _ => exact ⟨fun h => by first | rfl | (revert h; decide), fun h => by first | rfl | (exact absurd rfl h)⟩
  | 2, _ => exact ⟨fun h => by first | rfl | (revert h; decide), fun h => by first | rfl | (exact absurd rfl h)⟩
  | n + 3, h => exact absurd h (by show ¬ n + 3 < 3; omega)
theorem sl_RX7_23 : Cond.classLink RX7 23 RX0 ∈ gTbl := (gt1 36 rfl rfl)
theorem sn_RX7_23 : NC RX7 23 0 1 := by
  refine ⟨_, rfl, rfl, sl_RX7_23, (gt2 71 rfl rfl), (gt1 12 rfl rfl), cw_0, fun j hj => ?_⟩
  match j, hj with
  | 0, _ => exact ⟨fun h => by first | rfl | (revert h; decide), fun h => by first | rfl | (exact absurd rfl h)⟩
  | n + 1, h => exact absurd h (by show ¬ n + 1 < 1; omega)
theorem sf_RX7_11 : FL RX7 11 7 0 := ⟨_, rfl, by decide, (gt1 38 rfl rfl), cw_7⟩
theorem sp_RX7_11 : PF RX7 "<init>" 11 7 0 "[LHoopYard$Stave;" := ⟨sf_RX7_11, _, rfl, rfl, Or.inr ⟨rfl, rfl, rfl⟩⟩
theorem sf_RX7_19 : FL RX7 19 7 1 := ⟨_, rfl, by decide, (gt1 39 rfl rfl), cw_7⟩
theorem sp_RX7_19 : PF RX7 "<init>" 19 7 1 "[LHoopYard$Hoop;" := ⟨sf_RX7_19, _, rfl, rfl, Or.inr ⟨rfl, rfl, rfl⟩⟩
theorem sf_RX7_25 : FL RX7 25 7 2 := ⟨_, rfl, by decide, (gt1 40 rfl rfl), cw_7⟩
theorem sp_RX7_25 : PF RX7 "<init>" 25 7 2 "[LHoopYard$Board;" := ⟨sf_RX7_25, _, rfl, rfl, Or.inr ⟨rfl, rfl, rfl⟩⟩
theorem sf_RX7_29 : FL RX7 29 7 3 := ⟨_, rfl, by decide, (gt1 41 rfl rfl), cw_7⟩
theorem sp_RX7_29 : PF RX7 "<init>" 29 7 3 "[I" := ⟨sf_RX7_29, _, rfl, rfl, Or.inr ⟨rfl, rfl, rfl⟩⟩
theorem sf_RX1_18 : FL RX1 18 7 3 := ⟨_, rfl, by decide, (gt1 42 rfl rfl), cw_7⟩
theorem sf_RX11_114 : FL RX11 114 7 3 := ⟨_, rfl, by decide, (gt1 43 rfl rfl), cw_7⟩
theorem sf_RX4_86 : FL RX4 86 7 3 := ⟨_, rfl, by decide, (gt1 44 rfl rfl), cw_7⟩
theorem sf_RX8_113 : FL RX8 113 7 3 := ⟨_, rfl, by decide, (gt1 45 rfl rfl), cw_7⟩
theorem sf_RX5_18 : FL RX5 18 7 4 := ⟨_, rfl, by decide, (gt1 46 rfl rfl), cw_7⟩
theorem sp_RX5_18 (nm : String) : PF RX5 nm 18 7 4 "I" := ⟨sf_RX5_18, _, rfl, rfl, Or.inl rfl⟩
theorem sf_RX4_29 : FL RX4 29 7 4 := ⟨_, rfl, by decide, (gt1 47 rfl rfl), cw_7⟩
theorem sp_RX4_29 (nm : String) : PF RX4 nm 29 7 4 "I" := ⟨sf_RX4_29, _, rfl, rfl, Or.inl rfl⟩
theorem sf_RX7_33 : FL RX7 33 7 4 := ⟨_, rfl, by decide, (gt1 48 rfl rfl), cw_7⟩
theorem sp_RX7_33 (nm : String) : PF RX7 nm 33 7 4 "I" := ⟨sf_RX7_33, _, rfl, rfl, Or.inl rfl⟩
theorem sf_RX11_118 : FL RX11 118 7 4 := ⟨_, rfl, by decide, (gt1 49 rfl rfl), cw_7⟩
theorem sp_RX11_118 (nm : String) : PF RX11 nm 118 7 4 "I" := ⟨sf_RX11_118, _, rfl, rfl, Or.inl rfl⟩
theorem sf_RX8_60 : FL RX8 60 7 4 := ⟨_, rfl, by decide, (gt1 50 rfl rfl), cw_7⟩
theorem sp_RX8_60 (nm : String) : PF RX8 nm 60 7 4 "I" := ⟨sf_RX8_60, _, rfl, rfl, Or.inl rfl⟩
theorem sf_RX7_37 : FL RX7 37 7 5 := ⟨_, rfl, by decide, (gt1 51 rfl rfl), cw_7⟩
theorem sp_RX7_37 (nm : String) : PF RX7 nm 37 7 5 "I" := ⟨sf_RX7_37, _, rfl, rfl, Or.inl rfl⟩
theorem sf_RX1_39 : FL RX1 39 7 5 := ⟨_, rfl, by decide, (gt1 52 rfl rfl), cw_7⟩
theorem sp_RX1_39 (nm : String) : PF RX1 nm 39 7 5 "I" := ⟨sf_RX1_39, _, rfl, rfl, Or.inl rfl⟩
theorem sf_RX11_121 : FL RX11 121 7 5 := ⟨_, rfl, by decide, (gt1 53 rfl rfl), cw_7⟩
theorem sp_RX11_121 (nm : String) : PF RX11 nm 121 7 5 "I" := ⟨sf_RX11_121, _, rfl, rfl, Or.inl rfl⟩
theorem sf_RX8_65 : FL RX8 65 7 5 := ⟨_, rfl, by decide, (gt1 54 rfl rfl), cw_7⟩
theorem sp_RX8_65 (nm : String) : PF RX8 nm 65 7 5 "I" := ⟨sf_RX8_65, _, rfl, rfl, Or.inl rfl⟩
theorem sf_RX2_28 : FL RX2 28 7 6 := ⟨_, rfl, by decide, (gt1 55 rfl rfl), cw_7⟩
theorem sp_RX2_28 (nm : String) : PF RX2 nm 28 7 6 "I" := ⟨sf_RX2_28, _, rfl, rfl, Or.inl rfl⟩
theorem sf_RX7_40 : FL RX7 40 7 6 := ⟨_, rfl, by decide, (gt1 56 rfl rfl), cw_7⟩
theorem sp_RX7_40 (nm : String) : PF RX7 nm 40 7 6 "I" := ⟨sf_RX7_40, _, rfl, rfl, Or.inl rfl⟩
theorem sf_RX11_124 : FL RX11 124 7 6 := ⟨_, rfl, by decide, (gt1 57 rfl rfl), cw_7⟩
theorem sp_RX11_124 (nm : String) : PF RX11 nm 124 7 6 "I" := ⟨sf_RX11_124, _, rfl, rfl, Or.inl rfl⟩
theorem sf_RX8_68 : FL RX8 68 7 6 := ⟨_, rfl, by decide, (gt1 58 rfl rfl), cw_7⟩
theorem sp_RX8_68 (nm : String) : PF RX8 nm 68 7 6 "I" := ⟨sf_RX8_68, _, rfl, rfl, Or.inl rfl⟩
theorem sl_RX11_25 : Cond.classLink RX11 25 RX9 ∈ gTbl := (gt1 75 rfl rfl)
theorem sl_RX11_31 : Cond.classLink RX11 31 RX8 ∈ gTbl := (gt1 77 rfl rfl)
theorem sn_RX11_31 : NC RX11 31 8 7 := by
  refine ⟨_, rfl, rfl, sl_RX11_31, (gt1 78 rfl rfl), (gt1 3 rfl rfl), cw_8, fun j hj => ?_⟩
  match j, hj with
  | 0, _ => exact ⟨fun h => by first | rfl | (revert h; decide), fun h => by first | rfl | (exact absurd rfl h)⟩
  | 1, _ => exact ⟨fun h => by first | rfl | (revert h; decide), fun h => by first | rfl | (exact absurd rfl h)⟩
  | 2, _ => exact ⟨fun h => by first | rfl | (revert h; decide), fun h => by first | rfl | (exact absurd rfl h)⟩
  | 3, _ => exact ⟨fun h => by first | rfl | (revert h; decide), fun h => by first | rfl | (exact absurd rfl h)⟩
  | 4, _ => exact ⟨fun h => by first | rfl | (revert h; decide), fun h => by first | rfl | (exact absurd rfl h)⟩
  | 5, _ => exact ⟨fun h => by first | rfl | (revert h; decide), fun h => by first | rfl | (exact absurd rfl h)⟩
  | 6, _ => exact ⟨fun h => by first | rfl | (revert h; decide), fun h => by first | rfl | (exact absurd rfl h)⟩
  | n + 7, h => exact absurd h (by show ¬ n + 7 < 7; omega)
theorem si_RX11_33 : CS mX8_init 0 ∧ mX8_init.2.2.2 = none ∧ mX8_init.2.1.name = "<init>" ∧ Cond.instanceMethod yX8_init ∈ gTbl ∧ (Cond.methodLink RX11 33 yX8_init ∈ gTbl ∨ (RX11, 33, yX8_init) ∈ mnTbl) := ⟨cs_X8_init, rfl, rfl, (gt1 80 rfl rfl), (Or.inr (List.mem_of_getElem? (i := 1) rfl))⟩
theorem so_RX8_3 : Cond.methodLink RX8 3 objectInit ∈ gTbl := (gt1 82 rfl rfl)
theorem sl_RX8_22 : Cond.classLink RX8 22 "[[I" ∈ gTbl := (gt1 83 rfl rfl)
theorem sf_RX8_9 : FL RX8 9 8 0 := ⟨_, rfl, by decide, (gt1 85 rfl rfl), cw_8⟩
theorem sp_RX8_9 : PF RX8 "<init>" 9 8 0 "[B" := ⟨sf_RX8_9, _, rfl, rfl, Or.inr ⟨rfl, rfl, rfl⟩⟩
theorem sf_RX8_15 : FL RX8 15 8 1 := ⟨_, rfl, by decide, (gt1 86 rfl rfl), cw_8⟩
theorem sp_RX8_15 : PF RX8 "<init>" 15 8 1 "[I" := ⟨sf_RX8_15, _, rfl, rfl, Or.inr ⟨rfl, rfl, rfl⟩⟩
theorem sf_RX8_19 : FL RX8 19 8 2 := ⟨_, rfl, by decide, (gt1 87 rfl rfl), cw_8⟩
theorem sp_RX8_19 : PF RX8 "<init>" 19 8 2 "[I" := ⟨sf_RX8_19, _, rfl, rfl, Or.inr ⟨rfl, rfl, rfl⟩⟩
theorem sf_RX8_24 : FL RX8 24 8 3 := ⟨_, rfl, by decide, (gt1 88 rfl rfl), cw_8⟩
theorem sp_RX8_24 : PF RX8 "<init>" 24 8 3 "[[I" := ⟨sf_RX8_24, _, rfl, rfl, Or.inr ⟨rfl, rfl, rfl⟩⟩
theorem sf_RX8_27 : FL RX8 27 8 4 := ⟨_, rfl, by decide, (gt1 89 rfl rfl), cw_8⟩
theorem sp_RX8_27 (nm : String) : PF RX8 nm 27 8 4 "I" := ⟨sf_RX8_27, _, rfl, rfl, Or.inl rfl⟩
theorem sf_RX11_127 : FL RX11 127 8 4 := ⟨_, rfl, by decide, (gt1 90 rfl rfl), cw_8⟩
theorem sp_RX11_127 (nm : String) : PF RX11 nm 127 8 4 "I" := ⟨sf_RX11_127, _, rfl, rfl, Or.inl rfl⟩
theorem sf_RX8_34 : FL RX8 34 8 5 := ⟨_, rfl, by decide, (gt1 91 rfl rfl), cw_8⟩
theorem sp_RX8_34 (nm : String) : PF RX8 nm 34 8 5 "I" := ⟨sf_RX8_34, _, rfl, rfl, Or.inl rfl⟩
theorem sf_RX11_296 : FL RX11 296 8 5 := ⟨_, rfl, by decide, (gt1 92 rfl rfl), cw_8⟩
theorem sp_RX11_296 (nm : String) : PF RX11 nm 296 8 5 "I" := ⟨sf_RX11_296, _, rfl, rfl, Or.inl rfl⟩
theorem sf_RX8_31 : FL RX8 31 8 6 := ⟨_, rfl, by decide, (gt1 93 rfl rfl), cw_8⟩
theorem sp_RX8_31 (nm : String) : PF RX8 nm 31 8 6 "I" := ⟨sf_RX8_31, _, rfl, rfl, Or.inl rfl⟩
theorem sf_RX11_286 : FL RX11 286 8 6 := ⟨_, rfl, by decide, (gt1 94 rfl rfl), cw_8⟩
theorem sp_RX11_286 (nm : String) : PF RX11 nm 286 8 6 "I" := ⟨sf_RX11_286, _, rfl, rfl, Or.inl rfl⟩
theorem sl_RX11_42 : Cond.classLink RX11 42 RX5 ∈ gTbl := (gt1 111 rfl rfl)
theorem sn_RX11_42 : NC RX11 42 5 3 := by
  refine ⟨_, rfl, rfl, sl_RX11_42, (gt1 112 rfl rfl), (gt1 4 rfl rfl), cw_5, fun j hj => ?_⟩
  match j, hj with
  | 0, _ => exact ⟨fun h => by first | rfl | (revert h; decide), fun h => by first | rfl | (exact absurd rfl h)⟩
  | 1, _ => exact ⟨fun h => by first | rfl | (revert h; decide), fun h => by first | rfl | (exact absurd rfl h)⟩
  | 2, _ => exact ⟨fun h => by first | rfl | (revert h; decide), fun h => by first | rfl | (exact absurd rfl h)⟩
  | n + 3, h => exact absurd h (by show ¬ n + 3 < 3; omega)
theorem si_RX11_44 : CS mX5_init 0 ∧ mX5_init.2.2.2 = none ∧ mX5_init.2.1.name = "<init>" ∧ Cond.instanceMethod yX5_init ∈ gTbl ∧ (Cond.methodLink RX11 44 yX5_init ∈ gTbl ∨ (RX11, 44, yX5_init) ∈ mnTbl) := ⟨cs_X5_init, rfl, rfl, (gt1 114 rfl rfl), (Or.inr (List.mem_of_getElem? (i := 2) rfl))⟩
theorem so_RX5_3 : Cond.methodLink RX5 3 objectInit ∈ gTbl := (gt1 116 rfl rfl)
theorem sf_RX5_9 : FL RX5 9 5 0 := ⟨_, rfl, by decide, (gt1 117 rfl rfl), cw_5⟩
theorem sp_RX5_9 : PF RX5 "<init>" 9 5 0 "[I" := ⟨sf_RX5_9, _, rfl, rfl, Or.inr ⟨rfl, rfl, rfl⟩⟩
theorem sf_RX11_179 : FL RX11 179 5 0 := ⟨_, rfl, by decide, (gt1 118 rfl rfl), cw_5⟩
theorem sf_RX5_15 : FL RX5 15 5 1 := ⟨_, rfl, by decide, (gt1 119 rfl rfl), cw_5⟩
theorem sp_RX5_15 : PF RX5 "<init>" 15 5 1 "[I" := ⟨sf_RX5_15, _, rfl, rfl, Or.inr ⟨rfl, rfl, rfl⟩⟩
theorem sf_RX11_181 : FL RX11 181 5 1 := ⟨_, rfl, by decide, (gt1 120 rfl rfl), cw_5⟩
theorem sf_RX5_24 : FL RX5 24 5 2 := ⟨_, rfl, by decide, (gt1 121 rfl rfl), cw_5⟩
theorem sp_RX5_24 (nm : String) : PF RX5 nm 24 5 2 "I" := ⟨sf_RX5_24, _, rfl, rfl, Or.inl rfl⟩
theorem sl_RX11_49 : Cond.classLink RX11 49 RX4 ∈ gTbl := (gt1 129 rfl rfl)
theorem sn_RX11_49 : NC RX11 49 4 6 := by
  refine ⟨_, rfl, rfl, sl_RX11_49, (gt1 130 rfl rfl), (gt1 5 rfl rfl), cw_4, fun j hj => ?_⟩
  match j, hj with
  | 0, _ => exact ⟨fun h => by first | rfl | (revert h; decide), fun h => by first | rfl | (exact absurd rfl h)⟩
  | 1, _ => exact ⟨fun h => by first | rfl | (revert h; decide), fun h => by first | rfl | (exact absurd rfl h)⟩
  | 2, _ => exact ⟨fun h => by first | rfl | (revert h; decide), fun h => by first | rfl | (exact absurd rfl h)⟩
  | 3, _ => exact ⟨fun h => by first | rfl | (revert h; decide), fun h => by first | rfl | (exact absurd rfl h)⟩
  | 4, _ => exact ⟨fun h => by first | rfl | (revert h; decide), fun h => by first | rfl | (exact absurd rfl h)⟩
  | 5, _ => exact ⟨fun h => by first | rfl | (revert h; decide), fun h => by first | rfl | (exact absurd rfl h)⟩
  | n + 6, h => exact absurd h (by show ¬ n + 6 < 6; omega)
theorem si_RX11_51 : CS mX4_init 0 ∧ mX4_init.2.2.2 = none ∧ mX4_init.2.1.name = "<init>" ∧ Cond.instanceMethod yX4_init ∈ gTbl ∧ (Cond.methodLink RX11 51 yX4_init ∈ gTbl ∨ (RX11, 51, yX4_init) ∈ mnTbl) := ⟨cs_X4_init, rfl, rfl, (gt1 132 rfl rfl), (Or.inr (List.mem_of_getElem? (i := 3) rfl))⟩
theorem so_RX4_3 : Cond.methodLink RX4 3 objectInit ∈ gTbl := (gt1 134 rfl rfl)
theorem sl_RX4_21 : Cond.classLink RX4 21 "[[I" ∈ gTbl := (gt1 135 rfl rfl)
theorem sf_RX4_9 : FL RX4 9 4 0 := ⟨_, rfl, by decide, (gt1 136 rfl rfl), cw_4⟩
theorem sp_RX4_9 : PF RX4 "<init>" 9 4 0 "[I" := ⟨sf_RX4_9, _, rfl, rfl, Or.inr ⟨rfl, rfl, rfl⟩⟩
theorem sf_RX4_15 : FL RX4 15 4 1 := ⟨_, rfl, by decide, (gt1 137 rfl rfl), cw_4⟩
theorem sp_RX4_15 : PF RX4 "<init>" 15 4 1 "[I" := ⟨sf_RX4_15, _, rfl, rfl, Or.inr ⟨rfl, rfl, rfl⟩⟩
theorem sf_RX4_18 : FL RX4 18 4 2 := ⟨_, rfl, by decide, (gt1 138 rfl rfl), cw_4⟩
theorem sp_RX4_18 : PF RX4 "<init>" 18 4 2 "[I" := ⟨sf_RX4_18, _, rfl, rfl, Or.inr ⟨rfl, rfl, rfl⟩⟩
theorem sf_RX11_211 : FL RX11 211 4 2 := ⟨_, rfl, by decide, (gt1 139 rfl rfl), cw_4⟩
theorem sf_RX4_23 : FL RX4 23 4 3 := ⟨_, rfl, by decide, (gt1 140 rfl rfl), cw_4⟩
theorem sp_RX4_23 : PF RX4 "<init>" 23 4 3 "[[I" := ⟨sf_RX4_23, _, rfl, rfl, Or.inr ⟨rfl, rfl, rfl⟩⟩
theorem sf_RX4_26 : FL RX4 26 4 4 := ⟨_, rfl, by decide, (gt1 141 rfl rfl), cw_4⟩
theorem sp_RX4_26 : PF RX4 "<init>" 26 4 4 "[I" := ⟨sf_RX4_26, _, rfl, rfl, Or.inr ⟨rfl, rfl, rfl⟩⟩
theorem sf_RX4_39 : FL RX4 39 4 5 := ⟨_, rfl, by decide, (gt1 142 rfl rfl), cw_4⟩
theorem sp_RX4_39 (nm : String) : PF RX4 nm 39 4 5 "I" := ⟨sf_RX4_39, _, rfl, rfl, Or.inl rfl⟩
theorem sf_RX11_352 : FL RX11 352 4 5 := ⟨_, rfl, by decide, (gt1 143 rfl rfl), cw_4⟩
theorem sp_RX11_352 (nm : String) : PF RX11 nm 352 4 5 "I" := ⟨sf_RX11_352, _, rfl, rfl, Or.inl rfl⟩
theorem sl_RX11_56 : Cond.classLink RX11 56 RX1 ∈ gTbl := (gt1 157 rfl rfl)
theorem sn_RX11_56 : NC RX11 56 1 2 := by
  refine ⟨_, rfl, rfl, sl_RX11_56, (gt1 158 rfl rfl), (gt1 6 rfl rfl), cw_1, fun j hj => ?_⟩
  match j, hj with
  | 0, _ => exact ⟨fun h => by first | rfl | (revert h; decide), fun h => by first | rfl | (exact absurd rfl h)⟩
  | 1, _ => exact ⟨fun h => by first | rfl | (revert h; decide), fun h => by first | rfl | (exact absurd rfl h)⟩
  | n + 2, h => exact absurd h (by show ¬ n + 2 < 2; omega)
theorem si_RX11_58 : CS mX1_init 0 ∧ mX1_init.2.2.2 = none ∧ mX1_init.2.1.name = "<init>" ∧ Cond.instanceMethod yX1_init ∈ gTbl ∧ (Cond.methodLink RX11 58 yX1_init ∈ gTbl ∨ (RX11, 58, yX1_init) ∈ mnTbl) := ⟨cs_X1_init, rfl, rfl, (gt1 160 rfl rfl), (Or.inr (List.mem_of_getElem? (i := 4) rfl))⟩
theorem so_RX1_3 : Cond.methodLink RX1 3 objectInit ∈ gTbl := (gt1 162 rfl rfl)
theorem sf_RX1_9 : FL RX1 9 1 0 := ⟨_, rfl, by decide, (gt1 163 rfl rfl), cw_1⟩
theorem sp_RX1_9 : PF RX1 "<init>" 9 1 0 "[I" := ⟨sf_RX1_9, _, rfl, rfl, Or.inr ⟨rfl, rfl, rfl⟩⟩
theorem sf_RX11_390 : FL RX11 390 1 0 := ⟨_, rfl, by decide, (gt1 164 rfl rfl), cw_1⟩
theorem sf_RX1_15 : FL RX1 15 1 1 := ⟨_, rfl, by decide, (gt1 165 rfl rfl), cw_1⟩
theorem sp_RX1_15 : PF RX1 "<init>" 15 1 1 "[I" := ⟨sf_RX1_15, _, rfl, rfl, Or.inr ⟨rfl, rfl, rfl⟩⟩
theorem sf_RX11_241 : FL RX11 241 1 1 := ⟨_, rfl, by decide, (gt1 166 rfl rfl), cw_1⟩
theorem sl_RX11_63 : Cond.classLink RX11 63 RX2 ∈ gTbl := (gt1 172 rfl rfl)
theorem sn_RX11_63 : NC RX11 63 2 6 := by
  refine ⟨_, rfl, rfl, sl_RX11_63, (gt1 173 rfl rfl), (gt1 7 rfl rfl), cw_2, fun j hj => ?_⟩
  match j, hj with
  | 0, _ => exact ⟨fun h => by first | rfl | (revert h; decide), fun h => by first | rfl | (exact absurd rfl h)⟩
  | 1, _ => exact ⟨fun h => by first | rfl | (revert h; decide), fun h => by first | rfl | (exact absurd rfl h)⟩
  | 2, _ => exact ⟨fun h => by first | rfl | (revert h; decide), fun h => by first | rfl | (exact absurd rfl h)⟩
  | 3, _ => exact ⟨fun h => by first | rfl | (revert h; decide), fun h => by first | rfl | (exact absurd rfl h)⟩
  | 4, _ => exact ⟨fun h => by first | rfl | (revert h; decide), fun h => by first | rfl | (exact absurd rfl h)⟩
  | 5, _ => exact ⟨fun h => by first | rfl | (revert h; decide), fun h => by first | rfl | (exact absurd rfl h)⟩
  | n + 6, h => exact absurd h (by show ¬ n + 6 < 6; omega)
theorem si_RX11_65 : CS mX2_init 0 ∧ mX2_init.2.2.2 = none ∧ mX2_init.2.1.name = "<init>" ∧ Cond.instanceMethod yX2_init ∈ gTbl ∧ (Cond.methodLink RX11 65 yX2_init ∈ gTbl ∨ (RX11, 65, yX2_init) ∈ mnTbl) := ⟨cs_X2_init, rfl, rfl, (gt1 175 rfl rfl), (Or.inr (List.mem_of_getElem? (i := 5) rfl))⟩
theorem so_RX2_3 : Cond.methodLink RX2 3 objectInit ∈ gTbl := (gt1 177 rfl rfl)
theorem sf_RX2_9 : FL RX2 9 2 0 := ⟨_, rfl, by decide, (gt1 178 rfl rfl), cw_2⟩
theorem sp_RX2_9 : PF RX2 "<init>" 9 2 0 "[I" := ⟨sf_RX2_9, _, rfl, rfl, Or.inr ⟨rfl, rfl, rfl⟩⟩
theorem sf_RX2_15 : FL RX2 15 2 1 := ⟨_, rfl, by decide, (gt1 179 rfl rfl), cw_2⟩
theorem sp_RX2_15 : PF RX2 "<init>" 15 2 1 "[I" := ⟨sf_RX2_15, _, rfl, rfl, Or.inr ⟨rfl, rfl, rfl⟩⟩
theorem sf_RX2_18 : FL RX2 18 2 2 := ⟨_, rfl, by decide, (gt1 180 rfl rfl), cw_2⟩
theorem sp_RX2_18 : PF RX2 "<init>" 18 2 2 "[I" := ⟨sf_RX2_18, _, rfl, rfl, Or.inr ⟨rfl, rfl, rfl⟩⟩
theorem sf_RX2_21 : FL RX2 21 2 3 := ⟨_, rfl, by decide, (gt1 181 rfl rfl), cw_2⟩
theorem sp_RX2_21 : PF RX2 "<init>" 21 2 3 "[I" := ⟨sf_RX2_21, _, rfl, rfl, Or.inr ⟨rfl, rfl, rfl⟩⟩
theorem sf_RX2_33 : FL RX2 33 2 4 := ⟨_, rfl, by decide, (gt1 182 rfl rfl), cw_2⟩
theorem sp_RX2_33 (nm : String) : PF RX2 nm 33 2 4 "I" := ⟨sf_RX2_33, _, rfl, rfl, Or.inl rfl⟩
theorem sf_RX2_24 : FL RX2 24 2 5 := ⟨_, rfl, by decide, (gt1 183 rfl rfl), cw_2⟩
theorem sp_RX2_24 (nm : String) : PF RX2 nm 24 2 5 "I" := ⟨sf_RX2_24, _, rfl, rfl, Or.inl rfl⟩
theorem sf_RX11_12 : FL RX11 12 10 0 := ⟨_, rfl, by decide, (gt1 197 rfl rfl), cw_10⟩
theorem sp_RX11_12 : PF RX11 "<init>" 12 10 0 "LHoopYard$Stock;" := ⟨sf_RX11_12, _, rfl, rfl, Or.inr ⟨rfl, rfl, rfl⟩⟩
theorem sf_RX11_18 : FL RX11 18 10 1 := ⟨_, rfl, by decide, (gt1 198 rfl rfl), cw_10⟩
theorem sp_RX11_18 : PF RX11 "<init>" 18 10 1 "LHoopYard$Stock;" := ⟨sf_RX11_18, _, rfl, rfl, Or.inr ⟨rfl, rfl, rfl⟩⟩
theorem sf_RX11_21 : FL RX11 21 10 2 := ⟨_, rfl, by decide, (gt1 199 rfl rfl), cw_10⟩
theorem sp_RX11_21 (nm : String) : PF RX11 nm 21 10 2 "Z" := ⟨sf_RX11_21, _, rfl, rfl, Or.inl rfl⟩
theorem sf_RX11_27 : FL RX11 27 10 3 := ⟨_, rfl, by decide, (gt1 200 rfl rfl), cw_10⟩
theorem sp_RX11_27 : PF RX11 "<init>" 27 10 3 "[LHoopYard$Thing;" := ⟨sf_RX11_27, _, rfl, rfl, Or.inr ⟨rfl, rfl, rfl⟩⟩
theorem sf_RX11_34 : FL RX11 34 10 4 := ⟨_, rfl, by decide, (gt1 201 rfl rfl), cw_10⟩
theorem sp_RX11_34 : PF RX11 "<init>" 34 10 4 "LHoopYard$Tape;" := ⟨sf_RX11_34, _, rfl, rfl, Or.inr ⟨rfl, rfl, rfl⟩⟩
theorem sf_RX11_38 : FL RX11 38 10 5 := ⟨_, rfl, by decide, (gt1 202 rfl rfl), cw_10⟩
theorem sp_RX11_38 (nm : String) : PF RX11 nm 38 10 5 "I" := ⟨sf_RX11_38, _, rfl, rfl, Or.inl rfl⟩
theorem sf_RX11_45 : FL RX11 45 10 6 := ⟨_, rfl, by decide, (gt1 203 rfl rfl), cw_10⟩
theorem sp_RX11_45 : PF RX11 "<init>" 45 10 6 "LHoopYard$Rounds;" := ⟨sf_RX11_45, _, rfl, rfl, Or.inr ⟨rfl, rfl, rfl⟩⟩
theorem sf_RX11_52 : FL RX11 52 10 7 := ⟨_, rfl, by decide, (gt1 204 rfl rfl), cw_10⟩
theorem sp_RX11_52 : PF RX11 "<init>" 52 10 7 "LHoopYard$RingBench;" := ⟨sf_RX11_52, _, rfl, rfl, Or.inr ⟨rfl, rfl, rfl⟩⟩
theorem sf_RX11_59 : FL RX11 59 10 8 := ⟨_, rfl, by decide, (gt1 205 rfl rfl), cw_10⟩
theorem sp_RX11_59 : PF RX11 "<init>" 59 10 8 "LHoopYard$Cask;" := ⟨sf_RX11_59, _, rfl, rfl, Or.inr ⟨rfl, rfl, rfl⟩⟩
theorem sf_RX11_66 : FL RX11 66 10 9 := ⟨_, rfl, by decide, (gt1 206 rfl rfl), cw_10⟩
theorem sp_RX11_66 : PF RX11 "<init>" 66 10 9 "LHoopYard$HeadBench;" := ⟨sf_RX11_66, _, rfl, rfl, Or.inr ⟨rfl, rfl, rfl⟩⟩
theorem sv_RL_13 : CS mX11_stave 4 ∧ Cond.instanceMethod yX11_stave ∈ gTbl ∧ Cond.methodLink RL 13 yX11_stave ∈ gTbl ∧ Cond.selects yX11_stave.cls yX11_stave yX11_stave ∈ gTbl ∧ ∃ r, vwCl[10]? = some r ∧ r.1 = yX11_stave.cls := ⟨cs_X11_stave, (gt1 229 rfl rfl), (gt1 228 rfl rfl), (gt1 230 rfl rfl), _, rfl, rfl⟩
theorem ss_RX11_70 : CS mX6_canBe 4 ∧ Cond.static yX6_canBe ∈ gTbl ∧ (Cond.methodLink RX11 70 yX6_canBe ∈ gTbl ∨ (RX11, 70, yX6_canBe) ∈ mnTbl) := ⟨cs_X6_canBe, (gt1 233 rfl rfl), (Or.inl (gt1 232 rfl rfl))⟩
theorem ss_RX6_22 : CS mX11_isIn 3 ∧ Cond.static yX11_isIn ∈ gTbl ∧ (Cond.methodLink RX6 22 yX11_isIn ∈ gTbl ∨ (RX6, 22, yX11_isIn) ∈ mnTbl) := ⟨cs_X11_isIn, (gt1 236 rfl rfl), (Or.inr (List.mem_of_getElem? (i := 6) rfl))⟩
theorem sl_RX11_71 : Cond.classLink RX11 71 RX6 ∈ gTbl := (gt1 238 rfl rfl)
theorem sn_RX11_71 : NC RX11 71 6 4 := by
  refine ⟨_, rfl, rfl, sl_RX11_71, (gt1 239 rfl rfl), (gt1 10 rfl rfl), cw_6, fun j hj => ?_⟩
  match j, hj with
  | 0, _ => exact ⟨fun h => by first | rfl | (revert h; decide), fun h => by first | rfl | (exact absurd rfl h)⟩
  | 1, _ => exact ⟨fun h => by first | rfl | (revert h; decide), fun h => by first | rfl | (exact absurd rfl h)⟩
  | 2, _ => exact ⟨fun h => by first | rfl | (revert h; decide), fun h => by first | rfl | (exact absurd rfl h)⟩
  | 3, _ => exact ⟨fun h => by first | rfl | (revert h; decide), fun h => by first | rfl | (exact absurd rfl h)⟩
  | n + 4, h => exact absurd h (by show ¬ n + 4 < 4; omega)
theorem si_RX11_76 : CS mX6_init 4 ∧ mX6_init.2.2.2 = none ∧ mX6_init.2.1.name = "<init>" ∧ Cond.instanceMethod yX6_init ∈ gTbl ∧ (Cond.methodLink RX11 76 yX6_init ∈ gTbl ∨ (RX11, 76, yX6_init) ∈ mnTbl) := ⟨cs_X6_init, rfl, rfl, (gt2 1 rfl rfl), (Or.inl (gt2 0 rfl rfl))⟩
theorem si_RX6_1 : CS mX9_init 0 ∧ mX9_init.2.2.2 = none ∧ mX9_init.2.1.name = "<init>" ∧ Cond.instanceMethod yX9_init ∈ gTbl ∧ (Cond.methodLink RX6 1 yX9_init ∈ gTbl ∨ (RX6, 1, yX9_init) ∈ mnTbl) := ⟨cs_X9_init, rfl, rfl, (gt2 4 rfl rfl), (Or.inr (List.mem_of_getElem? (i := 7) rfl))⟩
theorem so_RX9_1 : Cond.methodLink RX9 1 objectInit ∈ gTbl := (gt2 6 rfl rfl)
theorem sf_RX6_7 : FL RX6 7 6 0 := ⟨_, rfl, by decide, (gt2 7 rfl rfl), cw_6⟩
theorem sp_RX6_7 : PF RX6 "<init>" 7 6 0 "I" := ⟨sf_RX6_7, _, rfl, rfl, Or.inr ⟨rfl, rfl, rfl⟩⟩
theorem sf_RX11_134 : FL RX11 134 6 0 := ⟨_, rfl, by decide, (gt2 8 rfl rfl), cw_6⟩
theorem sf_RX6_13 : FL RX6 13 6 1 := ⟨_, rfl, by decide, (gt2 9 rfl rfl), cw_6⟩
theorem sp_RX6_13 (nm : String) : PF RX6 nm 13 6 1 "I" := ⟨sf_RX6_13, _, rfl, rfl, Or.inl rfl⟩
theorem sf_RX11_137 : FL RX11 137 6 1 := ⟨_, rfl, by decide, (gt2 10 rfl rfl), cw_6⟩
theorem sp_RX11_137 (nm : String) : PF RX11 nm 137 6 1 "I" := ⟨sf_RX11_137, _, rfl, rfl, Or.inl rfl⟩
theorem sf_RX6_16 : FL RX6 16 6 2 := ⟨_, rfl, by decide, (gt2 11 rfl rfl), cw_6⟩
theorem sp_RX6_16 : PF RX6 "<init>" 16 6 2 "I" := ⟨sf_RX6_16, _, rfl, rfl, Or.inr ⟨rfl, rfl, rfl⟩⟩
theorem sf_RX11_140 : FL RX11 140 6 2 := ⟨_, rfl, by decide, (gt2 12 rfl rfl), cw_6⟩
theorem sf_RX6_19 : FL RX6 19 6 3 := ⟨_, rfl, by decide, (gt2 13 rfl rfl), cw_6⟩
theorem sp_RX6_19 : PF RX6 "<init>" 19 6 3 "I" := ⟨sf_RX6_19, _, rfl, rfl, Or.inr ⟨rfl, rfl, rfl⟩⟩
theorem sf_RX11_143 : FL RX11 143 6 3 := ⟨_, rfl, by decide, (gt2 14 rfl rfl), cw_6⟩
theorem sv_RX11_79 : CS mX7_addStave 1 ∧ Cond.instanceMethod yX7_addStave ∈ gTbl ∧ Cond.methodLink RX11 79 yX7_addStave ∈ gTbl ∧ Cond.selects yX7_addStave.cls yX7_addStave yX7_addStave ∈ gTbl ∧ ∃ r, vwCl[7]? = some r ∧ r.1 = yX7_addStave.cls := ⟨cs_X7_addStave, (gt2 25 rfl rfl), (gt2 24 rfl rfl), (gt2 26 rfl rfl), _, rfl, rfl⟩
theorem sv_RL_18 : CS mX11_hoop 3 ∧ Cond.instanceMethod yX11_hoop ∈ gTbl ∧ Cond.methodLink RL 18 yX11_hoop ∈ gTbl ∧ Cond.selects yX11_hoop.cls yX11_hoop yX11_hoop ∈ gTbl ∧ ∃ r, vwCl[10]? = some r ∧ r.1 = yX11_hoop.cls := ⟨cs_X11_hoop, (gt2 29 rfl rfl), (gt2 28 rfl rfl), (gt2 30 rfl rfl), _, rfl, rfl⟩
theorem ss_RX11_83 : CS mX3_canBe 3 ∧ Cond.static yX3_canBe ∈ gTbl ∧ (Cond.methodLink RX11 83 yX3_canBe ∈ gTbl ∨ (RX11, 83, yX3_canBe) ∈ mnTbl) := ⟨cs_X3_canBe, (gt2 33 rfl rfl), (Or.inl (gt2 32 rfl rfl))⟩
theorem ss_RX3_21 : CS mX11_isIn 3 ∧ Cond.static yX11_isIn ∈ gTbl ∧ (Cond.methodLink RX3 21 yX11_isIn ∈ gTbl ∨ (RX3, 21, yX11_isIn) ∈ mnTbl) := ⟨cs_X11_isIn, (gt1 236 rfl rfl), (Or.inr (List.mem_of_getElem? (i := 8) rfl))⟩
theorem sl_RX11_84 : Cond.classLink RX11 84 RX3 ∈ gTbl := (gt2 36 rfl rfl)
theorem sn_RX11_84 : NC RX11 84 3 3 := by
  refine ⟨_, rfl, rfl, sl_RX11_84, (gt2 37 rfl rfl), (gt1 11 rfl rfl), cw_3, fun j hj => ?_⟩
  match j, hj with
  | 0, _ => exact ⟨fun h => by first | rfl | (revert h; decide), fun h => by first | rfl | (exact absurd rfl h)⟩
  | 1, _ => exact ⟨fun h => by first | rfl | (revert h; decide), fun h => by first | rfl | (exact absurd rfl h)⟩
  | 2, _ => exact ⟨fun h => by first | rfl | (revert h; decide), fun h => by first | rfl | (exact absurd rfl h)⟩
  | n + 3, h => exact absurd h (by show ¬ n + 3 < 3; omega)
theorem si_RX11_88 : CS mX3_init 3 ∧ mX3_init.2.2.2 = none ∧ mX3_init.2.1.name = "<init>" ∧ Cond.instanceMethod yX3_init ∈ gTbl ∧ (Cond.methodLink RX11 88 yX3_init ∈ gTbl ∨ (RX11, 88, yX3_init) ∈ mnTbl) := ⟨cs_X3_init, rfl, rfl, (gt2 39 rfl rfl), (Or.inl (gt2 38 rfl rfl))⟩
theorem si_RX3_3 : CS mX9_init 0 ∧ mX9_init.2.2.2 = none ∧ mX9_init.2.1.name = "<init>" ∧ Cond.instanceMethod yX9_init ∈ gTbl ∧ (Cond.methodLink RX3 3 yX9_init ∈ gTbl ∨ (RX3, 3, yX9_init) ∈ mnTbl) := ⟨cs_X9_init, rfl, rfl, (gt2 4 rfl rfl), (Or.inr (List.mem_of_getElem? (i := 9) rfl))⟩
theorem sf_RX3_9 : FL RX3 9 3 0 := ⟨_, rfl, by decide, (gt2 42 rfl rfl), cw_3⟩
theorem sp_RX3_9 : PF RX3 "<init>" 9 3 0 "I" := ⟨sf_RX3_9, _, rfl, rfl, Or.inr ⟨rfl, rfl, rfl⟩⟩
theorem sf_RX1_70 : FL RX1 70 3 0 := ⟨_, rfl, by decide, (gt2 43 rfl rfl), cw_3⟩
theorem sf_RX11_229 : FL RX11 229 3 0 := ⟨_, rfl, by decide, (gt2 44 rfl rfl), cw_3⟩
theorem sf_RX3_15 : FL RX3 15 3 1 := ⟨_, rfl, by decide, (gt2 45 rfl rfl), cw_3⟩
theorem sp_RX3_15 : PF RX3 "<init>" 15 3 1 "I" := ⟨sf_RX3_15, _, rfl, rfl, Or.inr ⟨rfl, rfl, rfl⟩⟩
theorem sf_RX1_47 : FL RX1 47 3 1 := ⟨_, rfl, by decide, (gt2 46 rfl rfl), cw_3⟩
theorem sf_RX11_230 : FL RX11 230 3 1 := ⟨_, rfl, by decide, (gt2 47 rfl rfl), cw_3⟩
theorem sf_RX3_18 : FL RX3 18 3 2 := ⟨_, rfl, by decide, (gt2 48 rfl rfl), cw_3⟩
theorem sp_RX3_18 : PF RX3 "<init>" 18 3 2 "I" := ⟨sf_RX3_18, _, rfl, rfl, Or.inr ⟨rfl, rfl, rfl⟩⟩
theorem sf_RX1_52 : FL RX1 52 3 2 := ⟨_, rfl, by decide, (gt2 49 rfl rfl), cw_3⟩
theorem sf_RX11_231 : FL RX11 231 3 2 := ⟨_, rfl, by decide, (gt2 50 rfl rfl), cw_3⟩
theorem sv_RX11_91 : CS mX7_addHoop 1 ∧ Cond.instanceMethod yX7_addHoop ∈ gTbl ∧ Cond.methodLink RX11 91 yX7_addHoop ∈ gTbl ∧ Cond.selects yX7_addHoop.cls yX7_addHoop yX7_addHoop ∈ gTbl ∧ ∃ r, vwCl[7]? = some r ∧ r.1 = yX7_addHoop.cls := ⟨cs_X7_addHoop, (gt2 59 rfl rfl), (gt2 58 rfl rfl), (gt2 60 rfl rfl), _, rfl, rfl⟩
theorem sv_RL_23 : CS mX11_board 1 ∧ Cond.instanceMethod yX11_board ∈ gTbl ∧ Cond.methodLink RL 23 yX11_board ∈ gTbl ∧ Cond.selects yX11_board.cls yX11_board yX11_board ∈ gTbl ∧ ∃ r, vwCl[10]? = some r ∧ r.1 = yX11_board.cls := ⟨cs_X11_board, (gt2 63 rfl rfl), (gt2 62 rfl rfl), (gt2 64 rfl rfl), _, rfl, rfl⟩
theorem ss_RX11_95 : CS mX0_canBe 1 ∧ Cond.static yX0_canBe ∈ gTbl ∧ (Cond.methodLink RX11 95 yX0_canBe ∈ gTbl ∨ (RX11, 95, yX0_canBe) ∈ mnTbl) := ⟨cs_X0_canBe, (gt2 67 rfl rfl), (Or.inl (gt2 66 rfl rfl))⟩
theorem ss_RX0_13 : CS mX11_isIn 3 ∧ Cond.static yX11_isIn ∈ gTbl ∧ (Cond.methodLink RX0 13 yX11_isIn ∈ gTbl ∨ (RX0, 13, yX11_isIn) ∈ mnTbl) := ⟨cs_X11_isIn, (gt1 236 rfl rfl), (Or.inr (List.mem_of_getElem? (i := 10) rfl))⟩
theorem sl_RX11_96 : Cond.classLink RX11 96 RX0 ∈ gTbl := (gt2 70 rfl rfl)
theorem sn_RX11_96 : NC RX11 96 0 1 := by
  refine ⟨_, rfl, rfl, sl_RX11_96, (gt2 71 rfl rfl), (gt1 12 rfl rfl), cw_0, fun j hj => ?_⟩
  match j, hj with
  | 0, _ => exact ⟨fun h => by first | rfl | (revert h; decide), fun h => by first | rfl | (exact absurd rfl h)⟩
  | n + 1, h => exact absurd h (by show ¬ n + 1 < 1; omega)
theorem si_RX11_100 : CS mX0_init 1 ∧ mX0_init.2.2.2 = none ∧ mX0_init.2.1.name = "<init>" ∧ Cond.instanceMethod yX0_init ∈ gTbl ∧ (Cond.methodLink RX11 100 yX0_init ∈ gTbl ∨ (RX11, 100, yX0_init) ∈ mnTbl) := ⟨cs_X0_init, rfl, rfl, (gt2 73 rfl rfl), (Or.inl (gt2 72 rfl rfl))⟩
theorem si_RX0_1 : CS mX9_init 0 ∧ mX9_init.2.2.2 = none ∧ mX9_init.2.1.name = "<init>" ∧ Cond.instanceMethod yX9_init ∈ gTbl ∧ (Cond.methodLink RX0 1 yX9_init ∈ gTbl ∨ (RX0, 1, yX9_init) ∈ mnTbl) := ⟨cs_X9_init, rfl, rfl, (gt2 4 rfl rfl), (Or.inr (List.mem_of_getElem? (i := 11) rfl))⟩
theorem sf_RX0_7 : FL RX0 7 0 0 := ⟨_, rfl, by decide, (gt2 76 rfl rfl), cw_0⟩
theorem sp_RX0_7 : PF RX0 "<init>" 7 0 0 "I" := ⟨sf_RX0_7, _, rfl, rfl, Or.inr ⟨rfl, rfl, rfl⟩⟩
theorem sf_RX2_40 : FL RX2 40 0 0 := ⟨_, rfl, by decide, (gt2 77 rfl rfl), cw_0⟩
theorem sf_RX11_327 : FL RX11 327 0 0 := ⟨_, rfl, by decide, (gt2 78 rfl rfl), cw_0⟩
theorem sv_RX11_103 : CS mX7_addBoard 1 ∧ Cond.instanceMethod yX7_addBoard ∈ gTbl ∧ Cond.methodLink RX11 103 yX7_addBoard ∈ gTbl ∧ Cond.selects yX7_addBoard.cls yX7_addBoard yX7_addBoard ∈ gTbl ∧ ∃ r, vwCl[7]? = some r ∧ r.1 = yX7_addBoard.cls := ⟨cs_X7_addBoard, (gt2 83 rfl rfl), (gt2 82 rfl rfl), (gt2 84 rfl rfl), _, rfl, rfl⟩
theorem sv_RL_28 : CS mX11_rule 2 ∧ Cond.instanceMethod yX11_rule ∈ gTbl ∧ Cond.methodLink RL 28 yX11_rule ∈ gTbl ∧ Cond.selects yX11_rule.cls yX11_rule yX11_rule ∈ gTbl ∧ ∃ r, vwCl[10]? = some r ∧ r.1 = yX11_rule.cls := ⟨cs_X11_rule, (gt2 87 rfl rfl), (gt2 86 rfl rfl), (gt2 88 rfl rfl), _, rfl, rfl⟩
theorem ss_RX11_107 : CS mX11_isIn 3 ∧ Cond.static yX11_isIn ∈ gTbl ∧ (Cond.methodLink RX11 107 yX11_isIn ∈ gTbl ∨ (RX11, 107, yX11_isIn) ∈ mnTbl) := ⟨cs_X11_isIn, (gt1 236 rfl rfl), (Or.inl (gt2 90 rfl rfl))⟩
theorem ss_RX11_110 : CS mX11_canRule 2 ∧ Cond.static yX11_canRule ∈ gTbl ∧ (Cond.methodLink RX11 110 yX11_canRule ∈ gTbl ∨ (RX11, 110, yX11_canRule) ∈ mnTbl) := ⟨cs_X11_canRule, (gt2 92 rfl rfl), (Or.inl (gt2 91 rfl rfl))⟩
theorem sg_RX11_373 : Cond.fieldLink RX11 373 RX11 "LEAST_RULE" "[I" ∈ gTbl := (gt2 94 rfl rfl)
theorem sg_RX11_376 : Cond.fieldLink RX11 376 RX11 "MOST_RULE" "[I" ∈ gTbl := (gt2 96 rfl rfl)
theorem sv_RL_33 : CS mX11_told 1 ∧ Cond.instanceMethod yX11_told ∈ gTbl ∧ Cond.methodLink RL 33 yX11_told ∈ gTbl ∧ Cond.selects yX11_told.cls yX11_told yX11_told ∈ gTbl ∧ ∃ r, vwCl[10]? = some r ∧ r.1 = yX11_told.cls := ⟨cs_X11_told, (gt2 99 rfl rfl), (gt2 98 rfl rfl), (gt2 100 rfl rfl), _, rfl, rfl⟩
theorem sv_RL_37 : CS mX11_ofStave 2 ∧ Cond.instanceMethod yX11_ofStave ∈ gTbl ∧ Cond.methodLink RL 37 yX11_ofStave ∈ gTbl ∧ Cond.selects yX11_ofStave.cls yX11_ofStave yX11_ofStave ∈ gTbl ∧ ∃ r, vwCl[10]? = some r ∧ r.1 = yX11_ofStave.cls := ⟨cs_X11_ofStave, (gt2 103 rfl rfl), (gt2 102 rfl rfl), (gt2 104 rfl rfl), _, rfl, rfl⟩
theorem sv_RX11_130 : CS mX7_staveAt 1 ∧ Cond.instanceMethod yX7_staveAt ∈ gTbl ∧ Cond.methodLink RX11 130 yX7_staveAt ∈ gTbl ∧ Cond.selects yX7_staveAt.cls yX7_staveAt yX7_staveAt ∈ gTbl ∧ ∃ r, vwCl[7]? = some r ∧ r.1 = yX7_staveAt.cls := ⟨cs_X7_staveAt, (gt2 107 rfl rfl), (gt2 106 rfl rfl), (gt2 108 rfl rfl), _, rfl, rfl⟩
theorem sv_RX11_146 : CS mX6_counts 0 ∧ Cond.instanceMethod yX6_counts ∈ gTbl ∧ Cond.methodLink RX11 146 yX6_counts ∈ gTbl ∧ Cond.selects yX6_counts.cls yX6_counts yX6_counts ∈ gTbl ∧ ∃ r, vwCl[6]? = some r ∧ r.1 = yX6_counts.cls := ⟨cs_X6_counts, (gt2 111 rfl rfl), (gt2 110 rfl rfl), (gt2 112 rfl rfl), _, rfl, rfl⟩
theorem ss_RX6_31 : CS mJ9_max_7cf53 2 ∧ Cond.static yJ9_max_7cf53 ∈ gTbl ∧ (Cond.methodLink RX6 31 yJ9_max_7cf53 ∈ gTbl ∨ (RX6, 31, yJ9_max_7cf53) ∈ mnTbl) := ⟨cs_J9_max_7cf53, (gt2 115 rfl rfl), (Or.inl (gt2 114 rfl rfl))⟩
theorem sv_RX11_150 : CS mX6_edge 0 ∧ Cond.instanceMethod yX6_edge ∈ gTbl ∧ Cond.methodLink RX11 150 yX6_edge ∈ gTbl ∧ Cond.selects yX6_edge.cls yX6_edge yX6_edge ∈ gTbl ∧ ∃ r, vwCl[6]? = some r ∧ r.1 = yX6_edge.cls := ⟨cs_X6_edge, (gt2 118 rfl rfl), (gt2 117 rfl rfl), (gt2 119 rfl rfl), _, rfl, rfl⟩
theorem sv_RX11_153 : CS mX6_price 0 ∧ Cond.instanceMethod yX6_price ∈ gTbl ∧ Cond.methodLink RX11 153 yX6_price ∈ gTbl ∧ Cond.selects yX6_price.cls yX6_price yX6_price ∈ gTbl ∧ ∃ r, vwCl[6]? = some r ∧ r.1 = yX6_price.cls := ⟨cs_X6_price, (gt2 122 rfl rfl), (gt2 121 rfl rfl), (gt2 123 rfl rfl), _, rfl, rfl⟩
theorem ss_RX11_156 : CS mX11_sagOf 2 ∧ Cond.static yX11_sagOf ∈ gTbl ∧ (Cond.methodLink RX11 156 yX11_sagOf ∈ gTbl ∨ (RX11, 156, yX11_sagOf) ∈ mnTbl) := ⟨cs_X11_sagOf, (gt2 126 rfl rfl), (Or.inl (gt2 125 rfl rfl))⟩
theorem ss_RX11_384 : CS mX11_rootOf 1 ∧ Cond.static yX11_rootOf ∈ gTbl ∧ (Cond.methodLink RX11 384 yX11_rootOf ∈ gTbl ∨ (RX11, 384, yX11_rootOf) ∈ mnTbl) := ⟨cs_X11_rootOf, (gt2 129 rfl rfl), (Or.inl (gt2 128 rfl rfl))⟩
theorem sv_RL_41 : CS mX11_takes 1 ∧ Cond.instanceMethod yX11_takes ∈ gTbl ∧ Cond.methodLink RL 41 yX11_takes ∈ gTbl ∧ Cond.selects yX11_takes.cls yX11_takes yX11_takes ∈ gTbl ∧ ∃ r, vwCl[10]? = some r ∧ r.1 = yX11_takes.cls := ⟨cs_X11_takes, (gt2 132 rfl rfl), (gt2 131 rfl rfl), (gt2 133 rfl rfl), _, rfl, rfl⟩
theorem sv_RX11_160 : CS mX7_dropStave 0 ∧ Cond.instanceMethod yX7_dropStave ∈ gTbl ∧ Cond.methodLink RX11 160 yX7_dropStave ∈ gTbl ∧ Cond.selects yX7_dropStave.cls yX7_dropStave yX7_dropStave ∈ gTbl ∧ ∃ r, vwCl[7]? = some r ∧ r.1 = yX7_dropStave.cls := ⟨cs_X7_dropStave, (gt2 136 rfl rfl), (gt2 135 rfl rfl), (gt2 137 rfl rfl), _, rfl, rfl⟩
theorem sv_RX11_163 : CS mX7_dropHoop 0 ∧ Cond.instanceMethod yX7_dropHoop ∈ gTbl ∧ Cond.methodLink RX11 163 yX7_dropHoop ∈ gTbl ∧ Cond.selects yX7_dropHoop.cls yX7_dropHoop yX7_dropHoop ∈ gTbl ∧ ∃ r, vwCl[7]? = some r ∧ r.1 = yX7_dropHoop.cls := ⟨cs_X7_dropHoop, (gt2 140 rfl rfl), (gt2 139 rfl rfl), (gt2 141 rfl rfl), _, rfl, rfl⟩
theorem sv_RX11_166 : CS mX7_dropBoard 0 ∧ Cond.instanceMethod yX7_dropBoard ∈ gTbl ∧ Cond.methodLink RX11 166 yX7_dropBoard ∈ gTbl ∧ Cond.selects yX7_dropBoard.cls yX7_dropBoard yX7_dropBoard ∈ gTbl ∧ ∃ r, vwCl[7]? = some r ∧ r.1 = yX7_dropBoard.cls := ⟨cs_X7_dropBoard, (gt2 144 rfl rfl), (gt2 143 rfl rfl), (gt2 145 rfl rfl), _, rfl, rfl⟩
theorem sv_RL_45 : CS mX11_shave 2 ∧ Cond.instanceMethod yX11_shave ∈ gTbl ∧ Cond.methodLink RL 45 yX11_shave ∈ gTbl ∧ Cond.selects yX11_shave.cls yX11_shave yX11_shave ∈ gTbl ∧ ∃ r, vwCl[10]? = some r ∧ r.1 = yX11_shave.cls := ⟨cs_X11_shave, (gt2 148 rfl rfl), (gt2 147 rfl rfl), (gt2 149 rfl rfl), _, rfl, rfl⟩
theorem sv_RL_49 : CS mX11_fits 1 ∧ Cond.instanceMethod yX11_fits ∈ gTbl ∧ Cond.methodLink RL 49 yX11_fits ∈ gTbl ∧ Cond.selects yX11_fits.cls yX11_fits yX11_fits ∈ gTbl ∧ ∃ r, vwCl[10]? = some r ∧ r.1 = yX11_fits.cls := ⟨cs_X11_fits, (gt2 152 rfl rfl), (gt2 151 rfl rfl), (gt2 153 rfl rfl), _, rfl, rfl⟩
theorem sv_RX11_169 : CS mX5_addUp 1 ∧ Cond.instanceMethod yX5_addUp ∈ gTbl ∧ Cond.methodLink RX11 169 yX5_addUp ∈ gTbl ∧ Cond.selects yX5_addUp.cls yX5_addUp yX5_addUp ∈ gTbl ∧ ∃ r, vwCl[5]? = some r ∧ r.1 = yX5_addUp.cls := ⟨cs_X5_addUp, (gt2 156 rfl rfl), (gt2 155 rfl rfl), (gt2 157 rfl rfl), _, rfl, rfl⟩
theorem sv_RX5_27 : CS mX7_staveAt 1 ∧ Cond.instanceMethod yX7_staveAt ∈ gTbl ∧ Cond.methodLink RX5 27 yX7_staveAt ∈ gTbl ∧ Cond.selects yX7_staveAt.cls yX7_staveAt yX7_staveAt ∈ gTbl ∧ ∃ r, vwCl[7]? = some r ∧ r.1 = yX7_staveAt.cls := ⟨cs_X7_staveAt, (gt2 107 rfl rfl), (gt2 159 rfl rfl), (gt2 108 rfl rfl), _, rfl, rfl⟩
theorem sv_RX5_31 : CS mX6_counts 0 ∧ Cond.instanceMethod yX6_counts ∈ gTbl ∧ Cond.methodLink RX5 31 yX6_counts ∈ gTbl ∧ Cond.selects yX6_counts.cls yX6_counts yX6_counts ∈ gTbl ∧ ∃ r, vwCl[6]? = some r ∧ r.1 = yX6_counts.cls := ⟨cs_X6_counts, (gt2 111 rfl rfl), (gt2 160 rfl rfl), (gt2 112 rfl rfl), _, rfl, rfl⟩
theorem sv_RX5_36 : CS mX6_price 0 ∧ Cond.instanceMethod yX6_price ∈ gTbl ∧ Cond.methodLink RX5 36 yX6_price ∈ gTbl ∧ Cond.selects yX6_price.cls yX6_price yX6_price ∈ gTbl ∧ ∃ r, vwCl[6]? = some r ∧ r.1 = yX6_price.cls := ⟨cs_X6_price, (gt2 122 rfl rfl), (gt2 161 rfl rfl), (gt2 123 rfl rfl), _, rfl, rfl⟩
theorem sv_RX11_173 : CS mX5_howMany 2 ∧ Cond.instanceMethod yX5_howMany ∈ gTbl ∧ Cond.methodLink RX11 173 yX5_howMany ∈ gTbl ∧ Cond.selects yX5_howMany.cls yX5_howMany yX5_howMany ∈ gTbl ∧ ∃ r, vwCl[5]? = some r ∧ r.1 = yX5_howMany.cls := ⟨cs_X5_howMany, (gt2 163 rfl rfl), (gt2 162 rfl rfl), (gt2 164 rfl rfl), _, rfl, rfl⟩
theorem ss_RX5_39 : CS mX11_isIn 3 ∧ Cond.static yX11_isIn ∈ gTbl ∧ (Cond.methodLink RX5 39 yX11_isIn ∈ gTbl ∨ (RX5, 39, yX11_isIn) ∈ mnTbl) := ⟨cs_X11_isIn, (gt1 236 rfl rfl), (Or.inr (List.mem_of_getElem? (i := 12) rfl))⟩
theorem sv_RX11_176 : CS mX5_bestBetween 2 ∧ Cond.instanceMethod yX5_bestBetween ∈ gTbl ∧ Cond.methodLink RX11 176 yX5_bestBetween ∈ gTbl ∧ Cond.selects yX5_bestBetween.cls yX5_bestBetween yX5_bestBetween ∈ gTbl ∧ ∃ r, vwCl[5]? = some r ∧ r.1 = yX5_bestBetween.cls := ⟨cs_X5_bestBetween, (gt2 168 rfl rfl), (gt2 167 rfl rfl), (gt2 169 rfl rfl), _, rfl, rfl⟩
theorem sv_RX5_43 : CS mX5_isBetter 2 ∧ Cond.instanceMethod yX5_isBetter ∈ gTbl ∧ Cond.methodLink RX5 43 yX5_isBetter ∈ gTbl ∧ Cond.selects yX5_isBetter.cls yX5_isBetter yX5_isBetter ∈ gTbl ∧ ∃ r, vwCl[5]? = some r ∧ r.1 = yX5_isBetter.cls := ⟨cs_X5_isBetter, (gt2 172 rfl rfl), (gt2 171 rfl rfl), (gt2 173 rfl rfl), _, rfl, rfl⟩
theorem ss_RX5_47 : CS mJ6_bitCount_0f7a4 1 ∧ Cond.static yJ6_bitCount_0f7a4 ∈ gTbl ∧ (Cond.methodLink RX5 47 yJ6_bitCount_0f7a4 ∈ gTbl ∨ (RX5, 47, yJ6_bitCount_0f7a4) ∈ mnTbl) := ⟨cs_J6_bitCount_0f7a4, (gt2 176 rfl rfl), (Or.inl (gt2 175 rfl rfl))⟩
theorem sk_RJ6_265 : Cond.constant RJ6 265 (1431655765) ∈ gTbl := (gt2 178 rfl rfl)
theorem sk_RJ6_266 : Cond.constant RJ6 266 (858993459) ∈ gTbl := (gt2 179 rfl rfl)
theorem sk_RJ6_267 : Cond.constant RJ6 267 (252645135) ∈ gTbl := (gt2 180 rfl rfl)
theorem sv_RL_53 : CS mX11_sums 1 ∧ Cond.instanceMethod yX11_sums ∈ gTbl ∧ Cond.methodLink RL 53 yX11_sums ∈ gTbl ∧ Cond.selects yX11_sums.cls yX11_sums yX11_sums ∈ gTbl ∧ ∃ r, vwCl[10]? = some r ∧ r.1 = yX11_sums.cls := ⟨cs_X11_sums, (gt2 182 rfl rfl), (gt2 181 rfl rfl), (gt2 183 rfl rfl), _, rfl, rfl⟩
theorem sv_RL_57 : CS mX11_nearest 1 ∧ Cond.instanceMethod yX11_nearest ∈ gTbl ∧ Cond.methodLink RL 57 yX11_nearest ∈ gTbl ∧ Cond.selects yX11_nearest.cls yX11_nearest yX11_nearest ∈ gTbl ∧ ∃ r, vwCl[10]? = some r ∧ r.1 = yX11_nearest.cls := ⟨cs_X11_nearest, (gt2 186 rfl rfl), (gt2 185 rfl rfl), (gt2 187 rfl rfl), _, rfl, rfl⟩
theorem sv_RX11_184 : CS mX5_closestTo 1 ∧ Cond.instanceMethod yX5_closestTo ∈ gTbl ∧ Cond.methodLink RX11 184 yX5_closestTo ∈ gTbl ∧ Cond.selects yX5_closestTo.cls yX5_closestTo yX5_closestTo ∈ gTbl ∧ ∃ r, vwCl[5]? = some r ∧ r.1 = yX5_closestTo.cls := ⟨cs_X5_closestTo, (gt2 190 rfl rfl), (gt2 189 rfl rfl), (gt2 191 rfl rfl), _, rfl, rfl⟩
theorem ss_RX5_53 : CS mJ9_abs_0f7a4 1 ∧ Cond.static yJ9_abs_0f7a4 ∈ gTbl ∧ (Cond.methodLink RX5 53 yJ9_abs_0f7a4 ∈ gTbl ∨ (RX5, 53, yJ9_abs_0f7a4) ∈ mnTbl) := ⟨cs_J9_abs_0f7a4, (gt2 194 rfl rfl), (Or.inl (gt2 193 rfl rfl))⟩
theorem sv_RL_61 : CS mX11_least 3 ∧ Cond.instanceMethod yX11_least ∈ gTbl ∧ Cond.methodLink RL 61 yX11_least ∈ gTbl ∧ Cond.selects yX11_least.cls yX11_least yX11_least ∈ gTbl ∧ ∃ r, vwCl[10]? = some r ∧ r.1 = yX11_least.cls := ⟨cs_X11_least, (gt2 197 rfl rfl), (gt2 196 rfl rfl), (gt2 198 rfl rfl), _, rfl, rfl⟩
theorem sv_RX11_188 : CS mX11_isRingSet 1 ∧ Cond.instanceMethod yX11_isRingSet ∈ gTbl ∧ Cond.methodLink RX11 188 yX11_isRingSet ∈ gTbl ∧ Cond.selects yX11_isRingSet.cls yX11_isRingSet yX11_isRingSet ∈ gTbl ∧ ∃ r, vwCl[10]? = some r ∧ r.1 = yX11_isRingSet.cls := ⟨cs_X11_isRingSet, (gt2 202 rfl rfl), (gt2 200 rfl rfl), (gtS 0 rfl rfl), _, rfl, rfl⟩
theorem ss_RX11_379 : CS mJ6_bitCount_0f7a4 1 ∧ Cond.static yJ6_bitCount_0f7a4 ∈ gTbl ∧ (Cond.methodLink RX11 379 yJ6_bitCount_0f7a4 ∈ gTbl ∨ (RX11, 379, yJ6_bitCount_0f7a4) ∈ mnTbl) := ⟨cs_J6_bitCount_0f7a4, (gt2 176 rfl rfl), (Or.inl (gt2 204 rfl rfl))⟩
theorem ss_RX11_191 : CS mX11_isPress 1 ∧ Cond.static yX11_isPress ∈ gTbl ∧ (Cond.methodLink RX11 191 yX11_isPress ∈ gTbl ∨ (RX11, 191, yX11_isPress) ∈ mnTbl) := ⟨cs_X11_isPress, (gt2 206 rfl rfl), (Or.inl (gt2 205 rfl rfl))⟩
theorem sv_RX11_194 : CS mX4_layLeast 3 ∧ Cond.instanceMethod yX4_layLeast ∈ gTbl ∧ Cond.methodLink RX11 194 yX4_layLeast ∈ gTbl ∧ Cond.selects yX4_layLeast.cls yX4_layLeast yX4_layLeast ∈ gTbl ∧ ∃ r, vwCl[4]? = some r ∧ r.1 = yX4_layLeast.cls := ⟨cs_X4_layLeast, (gt2 209 rfl rfl), (gt2 208 rfl rfl), (gt2 210 rfl rfl), _, rfl, rfl⟩
theorem sv_RX4_46 : CS mX4_choose 3 ∧ Cond.instanceMethod yX4_choose ∈ gTbl ∧ Cond.methodLink RX4 46 yX4_choose ∈ gTbl ∧ Cond.selects yX4_choose.cls yX4_choose yX4_choose ∈ gTbl ∧ ∃ r, vwCl[4]? = some r ∧ r.1 = yX4_choose.cls := ⟨cs_X4_choose, (gt2 214 rfl rfl), (gt2 212 rfl rfl), (gtS 1 rfl rfl), _, rfl, rfl⟩
theorem ss_RX4_101 : CS mX11_holds 2 ∧ Cond.static yX11_holds ∈ gTbl ∧ (Cond.methodLink RX4 101 yX11_holds ∈ gTbl ∨ (RX4, 101, yX11_holds) ∈ mnTbl) := ⟨cs_X11_holds, (gt2 217 rfl rfl), (Or.inr (List.mem_of_getElem? (i := 13) rfl))⟩
theorem ss_RX4_78 : CS mX4_gapOf 3 ∧ Cond.static yX4_gapOf ∈ gTbl ∧ (Cond.methodLink RX4 78 yX4_gapOf ∈ gTbl ∨ (RX4, 78, yX4_gapOf) ∈ mnTbl) := ⟨cs_X4_gapOf, (gt2 220 rfl rfl), (Or.inl (gt2 219 rfl rfl))⟩
theorem ss_RX4_82 : CS mX4_edgeOf 2 ∧ Cond.static yX4_edgeOf ∈ gTbl ∧ (Cond.methodLink RX4 82 yX4_edgeOf ∈ gTbl ∨ (RX4, 82, yX4_edgeOf) ∈ mnTbl) := ⟨cs_X4_edgeOf, (gt2 223 rfl rfl), (Or.inl (gt2 222 rfl rfl))⟩
theorem sv_RX4_92 : CS mX7_staveAt 1 ∧ Cond.instanceMethod yX7_staveAt ∈ gTbl ∧ Cond.methodLink RX4 92 yX7_staveAt ∈ gTbl ∧ Cond.selects yX7_staveAt.cls yX7_staveAt yX7_staveAt ∈ gTbl ∧ ∃ r, vwCl[7]? = some r ∧ r.1 = yX7_staveAt.cls := ⟨cs_X7_staveAt, (gt2 107 rfl rfl), (gt2 225 rfl rfl), (gt2 108 rfl rfl), _, rfl, rfl⟩
theorem sv_RX4_96 : CS mX6_edge 0 ∧ Cond.instanceMethod yX6_edge ∈ gTbl ∧ Cond.methodLink RX4 96 yX6_edge ∈ gTbl ∧ Cond.selects yX6_edge.cls yX6_edge yX6_edge ∈ gTbl ∧ ∃ r, vwCl[6]? = some r ∧ r.1 = yX6_edge.cls := ⟨cs_X6_edge, (gt2 118 rfl rfl), (gt2 226 rfl rfl), (gt2 119 rfl rfl), _, rfl, rfl⟩
theorem ss_RX4_89 : CS mJ9_abs_0f7a4 1 ∧ Cond.static yJ9_abs_0f7a4 ∈ gTbl ∧ (Cond.methodLink RX4 89 yJ9_abs_0f7a4 ∈ gTbl ∨ (RX4, 89, yJ9_abs_0f7a4) ∈ mnTbl) := ⟨cs_J9_abs_0f7a4, (gt2 194 rfl rfl), (Or.inl (gt2 227 rfl rfl))⟩
theorem ss_RX4_62 : CS mJ9_max_7cf53 2 ∧ Cond.static yJ9_max_7cf53 ∈ gTbl ∧ (Cond.methodLink RX4 62 yJ9_max_7cf53 ∈ gTbl ∨ (RX4, 62, yJ9_max_7cf53) ∈ mnTbl) := ⟨cs_J9_max_7cf53, (gt2 115 rfl rfl), (Or.inl (gt2 228 rfl rfl))⟩
theorem sv_RX4_50 : CS mX4_weigh 1 ∧ Cond.instanceMethod yX4_weigh ∈ gTbl ∧ Cond.methodLink RX4 50 yX4_weigh ∈ gTbl ∧ Cond.selects yX4_weigh.cls yX4_weigh yX4_weigh ∈ gTbl ∧ ∃ r, vwCl[4]? = some r ∧ r.1 = yX4_weigh.cls := ⟨cs_X4_weigh, (gt2 231 rfl rfl), (gt2 229 rfl rfl), (gtS 2 rfl rfl), _, rfl, rfl⟩
theorem sv_RX4_54 : CS mX4_allButFirst 0 ∧ Cond.instanceMethod yX4_allButFirst ∈ gTbl ∧ Cond.methodLink RX4 54 yX4_allButFirst ∈ gTbl ∧ Cond.selects yX4_allButFirst.cls yX4_allButFirst yX4_allButFirst ∈ gTbl ∧ ∃ r, vwCl[4]? = some r ∧ r.1 = yX4_allButFirst.cls := ⟨cs_X4_allButFirst, (gt2 235 rfl rfl), (gt2 233 rfl rfl), (gtS 3 rfl rfl), _, rfl, rfl⟩
theorem ss_RX4_75 : CS mX4_cellOf 2 ∧ Cond.static yX4_cellOf ∈ gTbl ∧ (Cond.methodLink RX4 75 yX4_cellOf ∈ gTbl ∨ (RX4, 75, yX4_cellOf) ∈ mnTbl) := ⟨cs_X4_cellOf, (gt2 238 rfl rfl), (Or.inl (gt2 237 rfl rfl))⟩
theorem sv_RX4_105 : CS mX4_leastOnward 3 ∧ Cond.instanceMethod yX4_leastOnward ∈ gTbl ∧ Cond.methodLink RX4 105 yX4_leastOnward ∈ gTbl ∧ Cond.selects yX4_leastOnward.cls yX4_leastOnward yX4_leastOnward ∈ gTbl ∧ ∃ r, vwCl[4]? = some r ∧ r.1 = yX4_leastOnward.cls := ⟨cs_X4_leastOnward, (gt3 2 rfl rfl), (gt3 0 rfl rfl), (gtS 4 rfl rfl), _, rfl, rfl⟩
theorem sk_RX4_111 : Cond.constant RX4 111 (2147483647) ∈ gTbl := (gt3 4 rfl rfl)
theorem ss_RX4_112 : CS mX11_without 2 ∧ Cond.static yX11_without ∈ gTbl ∧ (Cond.methodLink RX4 112 yX11_without ∈ gTbl ∨ (RX4, 112, yX11_without) ∈ mnTbl) := ⟨cs_X11_without, (gt3 6 rfl rfl), (Or.inr (List.mem_of_getElem? (i := 14) rfl))⟩
theorem ss_RX4_115 : CS mJ9_min_7cf53 2 ∧ Cond.static yJ9_min_7cf53 ∈ gTbl ∧ (Cond.methodLink RX4 115 yJ9_min_7cf53 ∈ gTbl ∨ (RX4, 115, yJ9_min_7cf53) ∈ mnTbl) := ⟨cs_J9_min_7cf53, (gt3 9 rfl rfl), (Or.inl (gt3 8 rfl rfl))⟩
theorem sv_RX4_58 : CS mX4_firstOfLeast 2 ∧ Cond.instanceMethod yX4_firstOfLeast ∈ gTbl ∧ Cond.methodLink RX4 58 yX4_firstOfLeast ∈ gTbl ∧ Cond.selects yX4_firstOfLeast.cls yX4_firstOfLeast yX4_firstOfLeast ∈ gTbl ∧ ∃ r, vwCl[4]? = some r ∧ r.1 = yX4_firstOfLeast.cls := ⟨cs_X4_firstOfLeast, (gt3 13 rfl rfl), (gt3 11 rfl rfl), (gtS 5 rfl rfl), _, rfl, rfl⟩
theorem sv_RX4_42 : CS mX4_measureGaps 1 ∧ Cond.instanceMethod yX4_measureGaps ∈ gTbl ∧ Cond.methodLink RX4 42 yX4_measureGaps ∈ gTbl ∧ Cond.selects yX4_measureGaps.cls yX4_measureGaps yX4_measureGaps ∈ gTbl ∧ ∃ r, vwCl[4]? = some r ∧ r.1 = yX4_measureGaps.cls := ⟨cs_X4_measureGaps, (gt3 17 rfl rfl), (gt3 15 rfl rfl), (gtS 6 rfl rfl), _, rfl, rfl⟩
theorem sv_RX11_198 : CS mX4_leakUnder 1 ∧ Cond.instanceMethod yX4_leakUnder ∈ gTbl ∧ Cond.methodLink RX11 198 yX4_leakUnder ∈ gTbl ∧ Cond.selects yX4_leakUnder.cls yX4_leakUnder yX4_leakUnder ∈ gTbl ∧ ∃ r, vwCl[4]? = some r ∧ r.1 = yX4_leakUnder.cls := ⟨cs_X4_leakUnder, (gt3 20 rfl rfl), (gt3 19 rfl rfl), (gt3 21 rfl rfl), _, rfl, rfl⟩
theorem sv_RX11_201 : CS mX4_digits 0 ∧ Cond.instanceMethod yX4_digits ∈ gTbl ∧ Cond.methodLink RX11 201 yX4_digits ∈ gTbl ∧ Cond.selects yX4_digits.cls yX4_digits yX4_digits ∈ gTbl ∧ ∃ r, vwCl[4]? = some r ∧ r.1 = yX4_digits.cls := ⟨cs_X4_digits, (gt3 24 rfl rfl), (gt3 23 rfl rfl), (gt3 25 rfl rfl), _, rfl, rfl⟩
theorem sv_RL_65 : CS mX11_leak 2 ∧ Cond.instanceMethod yX11_leak ∈ gTbl ∧ Cond.methodLink RL 65 yX11_leak ∈ gTbl ∧ Cond.selects yX11_leak.cls yX11_leak yX11_leak ∈ gTbl ∧ ∃ r, vwCl[10]? = some r ∧ r.1 = yX11_leak.cls := ⟨cs_X11_leak, (gt3 28 rfl rfl), (gt3 27 rfl rfl), (gt3 29 rfl rfl), _, rfl, rfl⟩
theorem sv_RX11_204 : CS mX4_layTold 2 ∧ Cond.instanceMethod yX4_layTold ∈ gTbl ∧ Cond.methodLink RX11 204 yX4_layTold ∈ gTbl ∧ Cond.selects yX4_layTold.cls yX4_layTold yX4_layTold ∈ gTbl ∧ ∃ r, vwCl[4]? = some r ∧ r.1 = yX4_layTold.cls := ⟨cs_X4_layTold, (gt3 32 rfl rfl), (gt3 31 rfl rfl), (gt3 33 rfl rfl), _, rfl, rfl⟩
theorem ss_RX4_35 : CS mX11_spellRow 3 ∧ Cond.static yX11_spellRow ∈ gTbl ∧ (Cond.methodLink RX4 35 yX11_spellRow ∈ gTbl ∨ (RX4, 35, yX11_spellRow) ∈ mnTbl) := ⟨cs_X11_spellRow, (gt3 36 rfl rfl), (Or.inr (List.mem_of_getElem? (i := 15) rfl))⟩
theorem ss_RX11_270 : CS mX11_howManyDigits 1 ∧ Cond.static yX11_howManyDigits ∈ gTbl ∧ (Cond.methodLink RX11 270 yX11_howManyDigits ∈ gTbl ∨ (RX11, 270, yX11_howManyDigits) ∈ mnTbl) := ⟨cs_X11_howManyDigits, (gt3 39 rfl rfl), (Or.inl (gt3 38 rfl rfl))⟩
theorem ss_RX11_387 : CS mX11_holds 2 ∧ Cond.static yX11_holds ∈ gTbl ∧ (Cond.methodLink RX11 387 yX11_holds ∈ gTbl ∨ (RX11, 387, yX11_holds) ∈ mnTbl) := ⟨cs_X11_holds, (gt2 217 rfl rfl), (Or.inl (gt3 41 rfl rfl))⟩
theorem sv_RL_69 : CS mX11_worst 3 ∧ Cond.instanceMethod yX11_worst ∈ gTbl ∧ Cond.methodLink RL 69 yX11_worst ∈ gTbl ∧ Cond.selects yX11_worst.cls yX11_worst yX11_worst ∈ gTbl ∧ ∃ r, vwCl[10]? = some r ∧ r.1 = yX11_worst.cls := ⟨cs_X11_worst, (gt3 43 rfl rfl), (gt3 42 rfl rfl), (gt3 44 rfl rfl), _, rfl, rfl⟩
theorem sv_RX11_208 : CS mX4_jointOfRank 1 ∧ Cond.instanceMethod yX4_jointOfRank ∈ gTbl ∧ Cond.methodLink RX11 208 yX4_jointOfRank ∈ gTbl ∧ Cond.selects yX4_jointOfRank.cls yX4_jointOfRank yX4_jointOfRank ∈ gTbl ∧ ∃ r, vwCl[4]? = some r ∧ r.1 = yX4_jointOfRank.cls := ⟨cs_X4_jointOfRank, (gt3 47 rfl rfl), (gt3 46 rfl rfl), (gt3 48 rfl rfl), _, rfl, rfl⟩
theorem sv_RX4_67 : CS mX4_rankOf 1 ∧ Cond.instanceMethod yX4_rankOf ∈ gTbl ∧ Cond.methodLink RX4 67 yX4_rankOf ∈ gTbl ∧ Cond.selects yX4_rankOf.cls yX4_rankOf yX4_rankOf ∈ gTbl ∧ ∃ r, vwCl[4]? = some r ∧ r.1 = yX4_rankOf.cls := ⟨cs_X4_rankOf, (gt3 51 rfl rfl), (gt3 50 rfl rfl), (gt3 52 rfl rfl), _, rfl, rfl⟩
theorem sv_RL_73 : CS mX11_rings 3 ∧ Cond.instanceMethod yX11_rings ∈ gTbl ∧ Cond.methodLink RL 73 yX11_rings ∈ gTbl ∧ Cond.selects yX11_rings.cls yX11_rings yX11_rings ∈ gTbl ∧ ∃ r, vwCl[10]? = some r ∧ r.1 = yX11_rings.cls := ⟨cs_X11_rings, (gt3 55 rfl rfl), (gt3 54 rfl rfl), (gt3 56 rfl rfl), _, rfl, rfl⟩
theorem sv_RX11_214 : CS mX4_howManyWithin 4 ∧ Cond.instanceMethod yX4_howManyWithin ∈ gTbl ∧ Cond.methodLink RX11 214 yX4_howManyWithin ∈ gTbl ∧ Cond.selects yX4_howManyWithin.cls yX4_howManyWithin yX4_howManyWithin ∈ gTbl ∧ ∃ r, vwCl[4]? = some r ∧ r.1 = yX4_howManyWithin.cls := ⟨cs_X4_howManyWithin, (gt3 59 rfl rfl), (gt3 58 rfl rfl), (gt3 60 rfl rfl), _, rfl, rfl⟩
theorem ss_RX4_71 : CS mX4_countOnward 6 ∧ Cond.static yX4_countOnward ∈ gTbl ∧ (Cond.methodLink RX4 71 yX4_countOnward ∈ gTbl ∨ (RX4, 71, yX4_countOnward) ∈ mnTbl) := ⟨cs_X4_countOnward, (gt3 63 rfl rfl), (Or.inl (gt3 62 rfl rfl))⟩
theorem sv_RL_77 : CS mX11_girth 1 ∧ Cond.instanceMethod yX11_girth ∈ gTbl ∧ Cond.methodLink RL 77 yX11_girth ∈ gTbl ∧ Cond.selects yX11_girth.cls yX11_girth yX11_girth ∈ gTbl ∧ ∃ r, vwCl[10]? = some r ∧ r.1 = yX11_girth.cls := ⟨cs_X11_girth, (gt3 66 rfl rfl), (gt3 65 rfl rfl), (gt3 67 rfl rfl), _, rfl, rfl⟩
theorem ss_RX11_218 : CS mX11_isHeight 1 ∧ Cond.static yX11_isHeight ∈ gTbl ∧ (Cond.methodLink RX11 218 yX11_isHeight ∈ gTbl ∨ (RX11, 218, yX11_isHeight) ∈ mnTbl) := ⟨cs_X11_isHeight, (gt3 70 rfl rfl), (Or.inl (gt3 69 rfl rfl))⟩
theorem ss_RX11_221 : CS mX1_girthAt 2 ∧ Cond.static yX1_girthAt ∈ gTbl ∧ (Cond.methodLink RX11 221 yX1_girthAt ∈ gTbl ∨ (RX11, 221, yX1_girthAt) ∈ mnTbl) := ⟨cs_X1_girthAt, (gt3 73 rfl rfl), (Or.inl (gt3 72 rfl rfl))⟩
theorem ss_RX1_23 : CS mJ9_abs_0f7a4 1 ∧ Cond.static yJ9_abs_0f7a4 ∈ gTbl ∧ (Cond.methodLink RX1 23 yJ9_abs_0f7a4 ∈ gTbl ∨ (RX1, 23, yJ9_abs_0f7a4) ∈ mnTbl) := ⟨cs_J9_abs_0f7a4, (gt2 194 rfl rfl), (Or.inl (gt3 75 rfl rfl))⟩
theorem ss_RX1_29 : CS mJ9_max_7cf53 2 ∧ Cond.static yJ9_max_7cf53 ∈ gTbl ∧ (Cond.methodLink RX1 29 yJ9_max_7cf53 ∈ gTbl ∨ (RX1, 29, yJ9_max_7cf53) ∈ mnTbl) := ⟨cs_J9_max_7cf53, (gt2 115 rfl rfl), (Or.inl (gt3 76 rfl rfl))⟩
theorem sv_RL_81 : CS mX11_ofHoop 2 ∧ Cond.instanceMethod yX11_ofHoop ∈ gTbl ∧ Cond.methodLink RL 81 yX11_ofHoop ∈ gTbl ∧ Cond.selects yX11_ofHoop.cls yX11_ofHoop yX11_ofHoop ∈ gTbl ∧ ∃ r, vwCl[10]? = some r ∧ r.1 = yX11_ofHoop.cls := ⟨cs_X11_ofHoop, (gt3 78 rfl rfl), (gt3 77 rfl rfl), (gt3 79 rfl rfl), _, rfl, rfl⟩
theorem sv_RX11_225 : CS mX7_hoopAt 1 ∧ Cond.instanceMethod yX7_hoopAt ∈ gTbl ∧ Cond.methodLink RX11 225 yX7_hoopAt ∈ gTbl ∧ Cond.selects yX7_hoopAt.cls yX7_hoopAt yX7_hoopAt ∈ gTbl ∧ ∃ r, vwCl[7]? = some r ∧ r.1 = yX7_hoopAt.cls := ⟨cs_X7_hoopAt, (gt3 82 rfl rfl), (gt3 81 rfl rfl), (gt3 83 rfl rfl), _, rfl, rfl⟩
theorem sv_RX11_234 : CS mX11_ofResting 3 ∧ Cond.instanceMethod yX11_ofResting ∈ gTbl ∧ Cond.methodLink RX11 234 yX11_ofResting ∈ gTbl ∧ Cond.selects yX11_ofResting.cls yX11_ofResting yX11_ofResting ∈ gTbl ∧ ∃ r, vwCl[10]? = some r ∧ r.1 = yX11_ofResting.cls := ⟨cs_X11_ofResting, (gt3 87 rfl rfl), (gt3 85 rfl rfl), (gtS 7 rfl rfl), _, rfl, rfl⟩
theorem sv_RX11_238 : CS mX1_drive 1 ∧ Cond.instanceMethod yX1_drive ∈ gTbl ∧ Cond.methodLink RX11 238 yX1_drive ∈ gTbl ∧ Cond.selects yX1_drive.cls yX1_drive yX1_drive ∈ gTbl ∧ ∃ r, vwCl[1]? = some r ∧ r.1 = yX1_drive.cls := ⟨cs_X1_drive, (gt3 90 rfl rfl), (gt3 89 rfl rfl), (gt3 91 rfl rfl), _, rfl, rfl⟩
theorem ss_RX1_33 : CS mJ7_fill_53178 2 ∧ Cond.static yJ7_fill_53178 ∈ gTbl ∧ (Cond.methodLink RX1 33 yJ7_fill_53178 ∈ gTbl ∨ (RX1, 33, yJ7_fill_53178) ∈ mnTbl) := ⟨cs_J7_fill_53178, (gt3 94 rfl rfl), (Or.inl (gt3 93 rfl rfl))⟩
theorem sv_RX1_43 : CS mX7_hoopAt 1 ∧ Cond.instanceMethod yX7_hoopAt ∈ gTbl ∧ Cond.methodLink RX1 43 yX7_hoopAt ∈ gTbl ∧ Cond.selects yX7_hoopAt.cls yX7_hoopAt yX7_hoopAt ∈ gTbl ∧ ∃ r, vwCl[7]? = some r ∧ r.1 = yX7_hoopAt.cls := ⟨cs_X7_hoopAt, (gt3 82 rfl rfl), (gt3 96 rfl rfl), (gt3 83 rfl rfl), _, rfl, rfl⟩
theorem sv_RX1_55 : CS mX1_restDepth 4 ∧ Cond.instanceMethod yX1_restDepth ∈ gTbl ∧ Cond.methodLink RX1 55 yX1_restDepth ∈ gTbl ∧ Cond.selects yX1_restDepth.cls yX1_restDepth yX1_restDepth ∈ gTbl ∧ ∃ r, vwCl[1]? = some r ∧ r.1 = yX1_restDepth.cls := ⟨cs_X1_restDepth, (gt3 98 rfl rfl), (gt3 97 rfl rfl), (gt3 99 rfl rfl), _, rfl, rfl⟩
theorem ss_RX1_80 : CS mJ9_min_7cf53 2 ∧ Cond.static yJ9_min_7cf53 ∈ gTbl ∧ (Cond.methodLink RX1 80 yJ9_min_7cf53 ∈ gTbl ∨ (RX1, 80, yJ9_min_7cf53) ∈ mnTbl) := ⟨cs_J9_min_7cf53, (gt3 9 rfl rfl), (Or.inl (gt3 101 rfl rfl))⟩
theorem ss_RX1_83 : CS mX1_girthAt 2 ∧ Cond.static yX1_girthAt ∈ gTbl ∧ (Cond.methodLink RX1 83 yX1_girthAt ∈ gTbl ∨ (RX1, 83, yX1_girthAt) ∈ mnTbl) := ⟨cs_X1_girthAt, (gt3 73 rfl rfl), (Or.inl (gt3 102 rfl rfl))⟩
theorem ss_RX1_59 : CS mX1_gripAt 3 ∧ Cond.static yX1_gripAt ∈ gTbl ∧ (Cond.methodLink RX1 59 yX1_gripAt ∈ gTbl ∨ (RX1, 59, yX1_gripAt) ∈ mnTbl) := ⟨cs_X1_gripAt, (gt3 104 rfl rfl), (Or.inl (gt3 103 rfl rfl))⟩
theorem sv_RX1_63 : CS mX1_addPress 3 ∧ Cond.instanceMethod yX1_addPress ∈ gTbl ∧ Cond.methodLink RX1 63 yX1_addPress ∈ gTbl ∧ Cond.selects yX1_addPress.cls yX1_addPress yX1_addPress ∈ gTbl ∧ ∃ r, vwCl[1]? = some r ∧ r.1 = yX1_addPress.cls := ⟨cs_X1_addPress, (gt3 108 rfl rfl), (gt3 106 rfl rfl), (gtS 8 rfl rfl), _, rfl, rfl⟩
theorem ss_RX1_67 : CS mX1_heightOf 2 ∧ Cond.static yX1_heightOf ∈ gTbl ∧ (Cond.methodLink RX1 67 yX1_heightOf ∈ gTbl ∨ (RX1, 67, yX1_heightOf) ∈ mnTbl) := ⟨cs_X1_heightOf, (gt3 111 rfl rfl), (Or.inl (gt3 110 rfl rfl))⟩
theorem ss_RX1_73 : CS mX3_presses 2 ∧ Cond.static yX3_presses ∈ gTbl ∧ (Cond.methodLink RX1 73 yX3_presses ∈ gTbl ∨ (RX1, 73, yX3_presses) ∈ mnTbl) := ⟨cs_X3_presses, (gt3 114 rfl rfl), (Or.inl (gt3 113 rfl rfl))⟩
theorem ss_RX1_76 : CS mX1_pressFrom 3 ∧ Cond.static yX1_pressFrom ∈ gTbl ∧ (Cond.methodLink RX1 76 yX1_pressFrom ∈ gTbl ∨ (RX1, 76, yX1_pressFrom) ∈ mnTbl) := ⟨cs_X1_pressFrom, (gt3 117 rfl rfl), (Or.inl (gt3 116 rfl rfl))⟩
theorem ss_RX11_393 : CS mX1_gripAt 3 ∧ Cond.static yX1_gripAt ∈ gTbl ∧ (Cond.methodLink RX11 393 yX1_gripAt ∈ gTbl ∨ (RX11, 393, yX1_gripAt) ∈ mnTbl) := ⟨cs_X1_gripAt, (gt3 104 rfl rfl), (Or.inl (gt3 119 rfl rfl))⟩
theorem ss_RX11_396 : CS mX1_heightOf 2 ∧ Cond.static yX1_heightOf ∈ gTbl ∧ (Cond.methodLink RX11 396 yX1_heightOf ∈ gTbl ∨ (RX11, 396, yX1_heightOf) ∈ mnTbl) := ⟨cs_X1_heightOf, (gt3 111 rfl rfl), (Or.inl (gt3 120 rfl rfl))⟩
theorem ss_RX11_399 : CS mX3_presses 2 ∧ Cond.static yX3_presses ∈ gTbl ∧ (Cond.methodLink RX11 399 yX3_presses ∈ gTbl ∨ (RX11, 399, yX3_presses) ∈ mnTbl) := ⟨cs_X3_presses, (gt3 114 rfl rfl), (Or.inl (gt3 121 rfl rfl))⟩
theorem sv_RL_85 : CS mX11_press 1 ∧ Cond.instanceMethod yX11_press ∈ gTbl ∧ Cond.methodLink RL 85 yX11_press ∈ gTbl ∧ Cond.selects yX11_press.cls yX11_press yX11_press ∈ gTbl ∧ ∃ r, vwCl[10]? = some r ∧ r.1 = yX11_press.cls := ⟨cs_X11_press, (gt3 123 rfl rfl), (gt3 122 rfl rfl), (gt3 124 rfl rfl), _, rfl, rfl⟩
theorem ss_RX11_244 : CS mX1_capped 1 ∧ Cond.static yX1_capped ∈ gTbl ∧ (Cond.methodLink RX11 244 yX1_capped ∈ gTbl ∨ (RX11, 244, yX1_capped) ∈ mnTbl) := ⟨cs_X1_capped, (gt3 127 rfl rfl), (Or.inl (gt3 126 rfl rfl))⟩
theorem sv_RL_89 : CS mX11_wet 1 ∧ Cond.instanceMethod yX11_wet ∈ gTbl ∧ Cond.methodLink RL 89 yX11_wet ∈ gTbl ∧ Cond.selects yX11_wet.cls yX11_wet yX11_wet ∈ gTbl ∧ ∃ r, vwCl[10]? = some r ∧ r.1 = yX11_wet.cls := ⟨cs_X11_wet, (gt3 130 rfl rfl), (gt3 129 rfl rfl), (gt3 131 rfl rfl), _, rfl, rfl⟩
theorem sv_RX11_247 : CS mX4_tightPress 2 ∧ Cond.instanceMethod yX4_tightPress ∈ gTbl ∧ Cond.methodLink RX11 247 yX4_tightPress ∈ gTbl ∧ Cond.selects yX4_tightPress.cls yX4_tightPress yX4_tightPress ∈ gTbl ∧ ∃ r, vwCl[4]? = some r ∧ r.1 = yX4_tightPress.cls := ⟨cs_X4_tightPress, (gt3 134 rfl rfl), (gt3 133 rfl rfl), (gt3 135 rfl rfl), _, rfl, rfl⟩
theorem sv_RX11_250 : CS mX1_wetBelow 1 ∧ Cond.instanceMethod yX1_wetBelow ∈ gTbl ∧ Cond.methodLink RX11 250 yX1_wetBelow ∈ gTbl ∧ Cond.selects yX1_wetBelow.cls yX1_wetBelow yX1_wetBelow ∈ gTbl ∧ ∃ r, vwCl[1]? = some r ∧ r.1 = yX1_wetBelow.cls := ⟨cs_X1_wetBelow, (gt3 138 rfl rfl), (gt3 137 rfl rfl), (gt3 139 rfl rfl), _, rfl, rfl⟩
theorem ss_RX1_87 : CS mX1_capped 1 ∧ Cond.static yX1_capped ∈ gTbl ∧ (Cond.methodLink RX1 87 yX1_capped ∈ gTbl ∨ (RX1, 87, yX1_capped) ∈ mnTbl) := ⟨cs_X1_capped, (gt3 127 rfl rfl), (Or.inl (gt3 141 rfl rfl))⟩
theorem sv_RL_93 : CS mX11_driest 2 ∧ Cond.instanceMethod yX11_driest ∈ gTbl ∧ Cond.methodLink RL 93 yX11_driest ∈ gTbl ∧ Cond.selects yX11_driest.cls yX11_driest yX11_driest ∈ gTbl ∧ ∃ r, vwCl[10]? = some r ∧ r.1 = yX11_driest.cls := ⟨cs_X11_driest, (gt3 143 rfl rfl), (gt3 142 rfl rfl), (gt3 144 rfl rfl), _, rfl, rfl⟩
theorem sv_RX11_253 : CS mX1_driestSize 3 ∧ Cond.instanceMethod yX1_driestSize ∈ gTbl ∧ Cond.methodLink RX11 253 yX1_driestSize ∈ gTbl ∧ Cond.selects yX1_driestSize.cls yX1_driestSize yX1_driestSize ∈ gTbl ∧ ∃ r, vwCl[1]? = some r ∧ r.1 = yX1_driestSize.cls := ⟨cs_X1_driestSize, (gt3 147 rfl rfl), (gt3 146 rfl rfl), (gt3 148 rfl rfl), _, rfl, rfl⟩
theorem sv_RX1_90 : CS mX1_wetBelow 1 ∧ Cond.instanceMethod yX1_wetBelow ∈ gTbl ∧ Cond.methodLink RX1 90 yX1_wetBelow ∈ gTbl ∧ Cond.selects yX1_wetBelow.cls yX1_wetBelow yX1_wetBelow ∈ gTbl ∧ ∃ r, vwCl[1]? = some r ∧ r.1 = yX1_wetBelow.cls := ⟨cs_X1_wetBelow, (gt3 138 rfl rfl), (gt3 150 rfl rfl), (gt3 139 rfl rfl), _, rfl, rfl⟩
theorem ss_RX1_93 : CS mJ6_bitCount_0f7a4 1 ∧ Cond.static yJ6_bitCount_0f7a4 ∈ gTbl ∧ (Cond.methodLink RX1 93 yJ6_bitCount_0f7a4 ∈ gTbl ∨ (RX1, 93, yJ6_bitCount_0f7a4) ∈ mnTbl) := ⟨cs_J6_bitCount_0f7a4, (gt2 176 rfl rfl), (Or.inl (gt3 151 rfl rfl))⟩
theorem sv_RX1_98 : CS mX1_howManyWetWith 3 ∧ Cond.instanceMethod yX1_howManyWetWith ∈ gTbl ∧ Cond.methodLink RX1 98 yX1_howManyWetWith ∈ gTbl ∧ Cond.selects yX1_howManyWetWith.cls yX1_howManyWetWith yX1_howManyWetWith ∈ gTbl ∧ ∃ r, vwCl[1]? = some r ∧ r.1 = yX1_howManyWetWith.cls := ⟨cs_X1_howManyWetWith, (gt3 154 rfl rfl), (gt3 152 rfl rfl), (gtS 9 rfl rfl), _, rfl, rfl⟩
theorem sv_RL_97 : CS mX11_head 2 ∧ Cond.instanceMethod yX11_head ∈ gTbl ∧ Cond.methodLink RL 97 yX11_head ∈ gTbl ∧ Cond.selects yX11_head.cls yX11_head yX11_head ∈ gTbl ∧ ∃ r, vwCl[10]? = some r ∧ r.1 = yX11_head.cls := ⟨cs_X11_head, (gt3 157 rfl rfl), (gt3 156 rfl rfl), (gt3 158 rfl rfl), _, rfl, rfl⟩
theorem ss_RX11_257 : CS mX11_isRadius 1 ∧ Cond.static yX11_isRadius ∈ gTbl ∧ (Cond.methodLink RX11 257 yX11_isRadius ∈ gTbl ∨ (RX11, 257, yX11_isRadius) ∈ mnTbl) := ⟨cs_X11_isRadius, (gt3 161 rfl rfl), (Or.inl (gt3 160 rfl rfl))⟩
theorem sv_RX11_260 : CS mX2_measure 2 ∧ Cond.instanceMethod yX2_measure ∈ gTbl ∧ Cond.methodLink RX11 260 yX2_measure ∈ gTbl ∧ Cond.selects yX2_measure.cls yX2_measure yX2_measure ∈ gTbl ∧ ∃ r, vwCl[2]? = some r ∧ r.1 = yX2_measure.cls := ⟨cs_X2_measure, (gt3 164 rfl rfl), (gt3 163 rfl rfl), (gt3 165 rfl rfl), _, rfl, rfl⟩
theorem sv_RX2_36 : CS mX7_boardAt 1 ∧ Cond.instanceMethod yX7_boardAt ∈ gTbl ∧ Cond.methodLink RX2 36 yX7_boardAt ∈ gTbl ∧ Cond.selects yX7_boardAt.cls yX7_boardAt yX7_boardAt ∈ gTbl ∧ ∃ r, vwCl[7]? = some r ∧ r.1 = yX7_boardAt.cls := ⟨cs_X7_boardAt, (gt3 168 rfl rfl), (gt3 167 rfl rfl), (gt3 169 rfl rfl), _, rfl, rfl⟩
theorem sv_RX11_264 : CS mX2_leastSpent 0 ∧ Cond.instanceMethod yX2_leastSpent ∈ gTbl ∧ Cond.methodLink RX11 264 yX2_leastSpent ∈ gTbl ∧ Cond.selects yX2_leastSpent.cls yX2_leastSpent yX2_leastSpent ∈ gTbl ∧ ∃ r, vwCl[2]? = some r ∧ r.1 = yX2_leastSpent.cls := ⟨cs_X2_leastSpent, (gt3 172 rfl rfl), (gt3 171 rfl rfl), (gt3 173 rfl rfl), _, rfl, rfl⟩
theorem sv_RX2_55 : CS mX2_isDone 1 ∧ Cond.instanceMethod yX2_isDone ∈ gTbl ∧ Cond.methodLink RX2 55 yX2_isDone ∈ gTbl ∧ Cond.selects yX2_isDone.cls yX2_isDone yX2_isDone ∈ gTbl ∧ ∃ r, vwCl[2]? = some r ∧ r.1 = yX2_isDone.cls := ⟨cs_X2_isDone, (gt3 176 rfl rfl), (gt3 175 rfl rfl), (gt3 177 rfl rfl), _, rfl, rfl⟩
theorem sv_RX2_59 : CS mX2_leastOnward 1 ∧ Cond.instanceMethod yX2_leastOnward ∈ gTbl ∧ Cond.methodLink RX2 59 yX2_leastOnward ∈ gTbl ∧ Cond.selects yX2_leastOnward.cls yX2_leastOnward yX2_leastOnward ∈ gTbl ∧ ∃ r, vwCl[2]? = some r ∧ r.1 = yX2_leastOnward.cls := ⟨cs_X2_leastOnward, (gt3 181 rfl rfl), (gt3 179 rfl rfl), (gtS 10 rfl rfl), _, rfl, rfl⟩
theorem ss_RX2_62 : CS mX11_holds 2 ∧ Cond.static yX11_holds ∈ gTbl ∧ (Cond.methodLink RX2 62 yX11_holds ∈ gTbl ∨ (RX2, 62, yX11_holds) ∈ mnTbl) := ⟨cs_X11_holds, (gt2 217 rfl rfl), (Or.inr (List.mem_of_getElem? (i := 16) rfl))⟩
theorem sv_RX2_66 : CS mX2_spentFrom 2 ∧ Cond.instanceMethod yX2_spentFrom ∈ gTbl ∧ Cond.methodLink RX2 66 yX2_spentFrom ∈ gTbl ∧ Cond.selects yX2_spentFrom.cls yX2_spentFrom yX2_spentFrom ∈ gTbl ∧ ∃ r, vwCl[2]? = some r ∧ r.1 = yX2_spentFrom.cls := ⟨cs_X2_spentFrom, (gt3 186 rfl rfl), (gt3 184 rfl rfl), (gtS 11 rfl rfl), _, rfl, rfl⟩
theorem sv_RX2_69 : CS mX2_spentOn 2 ∧ Cond.instanceMethod yX2_spentOn ∈ gTbl ∧ Cond.methodLink RX2 69 yX2_spentOn ∈ gTbl ∧ Cond.selects yX2_spentOn.cls yX2_spentOn yX2_spentOn ∈ gTbl ∧ ∃ r, vwCl[2]? = some r ∧ r.1 = yX2_spentOn.cls := ⟨cs_X2_spentOn, (gt3 189 rfl rfl), (gt3 188 rfl rfl), (gt3 190 rfl rfl), _, rfl, rfl⟩
theorem ss_RX2_45 : CS mJ9_max_7cf53 2 ∧ Cond.static yJ9_max_7cf53 ∈ gTbl ∧ (Cond.methodLink RX2 45 yJ9_max_7cf53 ∈ gTbl ∨ (RX2, 45, yJ9_max_7cf53) ∈ mnTbl) := ⟨cs_J9_max_7cf53, (gt2 115 rfl rfl), (Or.inl (gt3 192 rfl rfl))⟩
theorem ss_RX2_51 : CS mX11_rootOf 1 ∧ Cond.static yX11_rootOf ∈ gTbl ∧ (Cond.methodLink RX2 51 yX11_rootOf ∈ gTbl ∨ (RX2, 51, yX11_rootOf) ∈ mnTbl) := ⟨cs_X11_rootOf, (gt2 129 rfl rfl), (Or.inr (List.mem_of_getElem? (i := 17) rfl))⟩
theorem sv_RX11_267 : CS mX2_leastDigits 0 ∧ Cond.instanceMethod yX2_leastDigits ∈ gTbl ∧ Cond.methodLink RX11 267 yX2_leastDigits ∈ gTbl ∧ Cond.selects yX2_leastDigits.cls yX2_leastDigits yX2_leastDigits ∈ gTbl ∧ ∃ r, vwCl[2]? = some r ∧ r.1 = yX2_leastDigits.cls := ⟨cs_X2_leastDigits, (gt3 195 rfl rfl), (gt3 194 rfl rfl), (gt3 196 rfl rfl), _, rfl, rfl⟩
theorem sv_RX2_72 : CS mX2_firstOfLeast 1 ∧ Cond.instanceMethod yX2_firstOfLeast ∈ gTbl ∧ Cond.methodLink RX2 72 yX2_firstOfLeast ∈ gTbl ∧ Cond.selects yX2_firstOfLeast.cls yX2_firstOfLeast yX2_firstOfLeast ∈ gTbl ∧ ∃ r, vwCl[2]? = some r ∧ r.1 = yX2_firstOfLeast.cls := ⟨cs_X2_firstOfLeast, (gt3 200 rfl rfl), (gt3 198 rfl rfl), (gtS 12 rfl rfl), _, rfl, rfl⟩
theorem sv_RL_101 : CS mX11_used 2 ∧ Cond.instanceMethod yX11_used ∈ gTbl ∧ Cond.methodLink RL 101 yX11_used ∈ gTbl ∧ Cond.selects yX11_used.cls yX11_used yX11_used ∈ gTbl ∧ ∃ r, vwCl[10]? = some r ∧ r.1 = yX11_used.cls := ⟨cs_X11_used, (gt3 203 rfl rfl), (gt3 202 rfl rfl), (gt3 204 rfl rfl), _, rfl, rfl⟩
theorem sv_RX11_273 : CS mX2_spentBy 1 ∧ Cond.instanceMethod yX2_spentBy ∈ gTbl ∧ Cond.methodLink RX11 273 yX2_spentBy ∈ gTbl ∧ Cond.selects yX2_spentBy.cls yX2_spentBy yX2_spentBy ∈ gTbl ∧ ∃ r, vwCl[2]? = some r ∧ r.1 = yX2_spentBy.cls := ⟨cs_X2_spentBy, (gt3 207 rfl rfl), (gt3 206 rfl rfl), (gt3 208 rfl rfl), _, rfl, rfl⟩
theorem ss_RX2_75 : CS mX11_spellRow 3 ∧ Cond.static yX11_spellRow ∈ gTbl ∧ (Cond.methodLink RX2 75 yX11_spellRow ∈ gTbl ∨ (RX2, 75, yX11_spellRow) ∈ mnTbl) := ⟨cs_X11_spellRow, (gt3 36 rfl rfl), (Or.inr (List.mem_of_getElem? (i := 18) rfl))⟩
theorem sv_RL_105 : CS mX11_heads 1 ∧ Cond.instanceMethod yX11_heads ∈ gTbl ∧ Cond.methodLink RL 105 yX11_heads ∈ gTbl ∧ Cond.selects yX11_heads.cls yX11_heads yX11_heads ∈ gTbl ∧ ∃ r, vwCl[10]? = some r ∧ r.1 = yX11_heads.cls := ⟨cs_X11_heads, (gt3 212 rfl rfl), (gt3 211 rfl rfl), (gt3 213 rfl rfl), _, rfl, rfl⟩
theorem sv_RX11_276 : CS mX2_howMany 0 ∧ Cond.instanceMethod yX2_howMany ∈ gTbl ∧ Cond.methodLink RX11 276 yX2_howMany ∈ gTbl ∧ Cond.selects yX2_howMany.cls yX2_howMany yX2_howMany ∈ gTbl ∧ ∃ r, vwCl[2]? = some r ∧ r.1 = yX2_howMany.cls := ⟨cs_X2_howMany, (gt3 216 rfl rfl), (gt3 215 rfl rfl), (gt3 217 rfl rfl), _, rfl, rfl⟩
theorem sv_RX2_79 : CS mX2_howManyOnward 1 ∧ Cond.instanceMethod yX2_howManyOnward ∈ gTbl ∧ Cond.methodLink RX2 79 yX2_howManyOnward ∈ gTbl ∧ Cond.selects yX2_howManyOnward.cls yX2_howManyOnward yX2_howManyOnward ∈ gTbl ∧ ∃ r, vwCl[2]? = some r ∧ r.1 = yX2_howManyOnward.cls := ⟨cs_X2_howManyOnward, (gt3 221 rfl rfl), (gt3 219 rfl rfl), (gtS 13 rfl rfl), _, rfl, rfl⟩
theorem sv_RL_109 : CS mX11_feed 1 ∧ Cond.instanceMethod yX11_feed ∈ gTbl ∧ Cond.methodLink RL 109 yX11_feed ∈ gTbl ∧ Cond.selects yX11_feed.cls yX11_feed yX11_feed ∈ gTbl ∧ ∃ r, vwCl[10]? = some r ∧ r.1 = yX11_feed.cls := ⟨cs_X11_feed, (gt3 224 rfl rfl), (gt3 223 rfl rfl), (gt3 225 rfl rfl), _, rfl, rfl⟩
theorem sv_RX11_278 : CS mX8_append 1 ∧ Cond.instanceMethod yX8_append ∈ gTbl ∧ Cond.methodLink RX11 278 yX8_append ∈ gTbl ∧ Cond.selects yX8_append.cls yX8_append yX8_append ∈ gTbl ∧ ∃ r, vwCl[8]? = some r ∧ r.1 = yX8_append.cls := ⟨cs_X8_append, (gt3 228 rfl rfl), (gt3 227 rfl rfl), (gt3 229 rfl rfl), _, rfl, rfl⟩
theorem sv_RL_113 : CS mX11_read 0 ∧ Cond.instanceMethod yX11_read ∈ gTbl ∧ Cond.methodLink RL 113 yX11_read ∈ gTbl ∧ Cond.selects yX11_read.cls yX11_read yX11_read ∈ gTbl ∧ ∃ r, vwCl[10]? = some r ∧ r.1 = yX11_read.cls := ⟨cs_X11_read, (gt3 232 rfl rfl), (gt3 231 rfl rfl), (gt3 233 rfl rfl), _, rfl, rfl⟩
theorem sv_RX11_282 : CS mX8_parse 0 ∧ Cond.instanceMethod yX8_parse ∈ gTbl ∧ Cond.methodLink RX11 282 yX8_parse ∈ gTbl ∧ Cond.selects yX8_parse.cls yX8_parse yX8_parse ∈ gTbl ∧ ∃ r, vwCl[8]? = some r ∧ r.1 = yX8_parse.cls := ⟨cs_X8_parse, (gt3 236 rfl rfl), (gt3 235 rfl rfl), (gt3 237 rfl rfl), _, rfl, rfl⟩
theorem sv_RX8_37 : CS mX8_parseStatement 1 ∧ Cond.instanceMethod yX8_parseStatement ∈ gTbl ∧ Cond.methodLink RX8 37 yX8_parseStatement ∈ gTbl ∧ Cond.selects yX8_parseStatement.cls yX8_parseStatement yX8_parseStatement ∈ gTbl ∧ ∃ r, vwCl[8]? = some r ∧ r.1 = yX8_parseStatement.cls := ⟨cs_X8_parseStatement, (gt4 1 rfl rfl), (gt3 239 rfl rfl), (gtS 14 rfl rfl), _, rfl, rfl⟩
theorem sv_RX8_44 : CS mX8_peek 0 ∧ Cond.instanceMethod yX8_peek ∈ gTbl ∧ Cond.methodLink RX8 44 yX8_peek ∈ gTbl ∧ Cond.selects yX8_peek.cls yX8_peek yX8_peek ∈ gTbl ∧ ∃ r, vwCl[8]? = some r ∧ r.1 = yX8_peek.cls := ⟨cs_X8_peek, (gt4 5 rfl rfl), (gt4 3 rfl rfl), (gtS 15 rfl rfl), _, rfl, rfl⟩
theorem ss_RX8_48 : CS mX8_howManyNumbers 1 ∧ Cond.static yX8_howManyNumbers ∈ gTbl ∧ (Cond.methodLink RX8 48 yX8_howManyNumbers ∈ gTbl ∨ (RX8, 48, yX8_howManyNumbers) ∈ mnTbl) := ⟨cs_X8_howManyNumbers, (gt4 8 rfl rfl), (Or.inl (gt4 7 rfl rfl))⟩
theorem sv_RX8_41 : CS mX8_pass 1 ∧ Cond.instanceMethod yX8_pass ∈ gTbl ∧ Cond.methodLink RX8 41 yX8_pass ∈ gTbl ∧ Cond.selects yX8_pass.cls yX8_pass yX8_pass ∈ gTbl ∧ ∃ r, vwCl[8]? = some r ∧ r.1 = yX8_pass.cls := ⟨cs_X8_pass, (gt4 12 rfl rfl), (gt4 10 rfl rfl), (gtS 16 rfl rfl), _, rfl, rfl⟩
theorem sv_RX8_52 : CS mX8_parseNumber 2 ∧ Cond.instanceMethod yX8_parseNumber ∈ gTbl ∧ Cond.methodLink RX8 52 yX8_parseNumber ∈ gTbl ∧ Cond.selects yX8_parseNumber.cls yX8_parseNumber yX8_parseNumber ∈ gTbl ∧ ∃ r, vwCl[8]? = some r ∧ r.1 = yX8_parseNumber.cls := ⟨cs_X8_parseNumber, (gt4 16 rfl rfl), (gt4 14 rfl rfl), (gtS 17 rfl rfl), _, rfl, rfl⟩
theorem ss_RX8_56 : CS mX11_isIn 3 ∧ Cond.static yX11_isIn ∈ gTbl ∧ (Cond.methodLink RX8 56 yX11_isIn ∈ gTbl ∨ (RX8, 56, yX11_isIn) ∈ mnTbl) := ⟨cs_X11_isIn, (gt1 236 rfl rfl), (Or.inr (List.mem_of_getElem? (i := 19) rfl))⟩
theorem sv_RX11_289 : CS mX8_firstUndoable 1 ∧ Cond.instanceMethod yX8_firstUndoable ∈ gTbl ∧ Cond.methodLink RX11 289 yX8_firstUndoable ∈ gTbl ∧ Cond.selects yX8_firstUndoable.cls yX8_firstUndoable yX8_firstUndoable ∈ gTbl ∧ ∃ r, vwCl[8]? = some r ∧ r.1 = yX8_firstUndoable.cls := ⟨cs_X8_firstUndoable, (gt4 20 rfl rfl), (gt4 19 rfl rfl), (gt4 21 rfl rfl), _, rfl, rfl⟩
theorem ss_RX8_71 : CS mX8_isInBounds 2 ∧ Cond.static yX8_isInBounds ∈ gTbl ∧ (Cond.methodLink RX8 71 yX8_isInBounds ∈ gTbl ∨ (RX8, 71, yX8_isInBounds) ∈ mnTbl) := ⟨cs_X8_isInBounds, (gt4 24 rfl rfl), (Or.inl (gt4 23 rfl rfl))⟩
theorem ss_RX8_75 : CS mX6_canBe 4 ∧ Cond.static yX6_canBe ∈ gTbl ∧ (Cond.methodLink RX8 75 yX6_canBe ∈ gTbl ∨ (RX8, 75, yX6_canBe) ∈ mnTbl) := ⟨cs_X6_canBe, (gt1 233 rfl rfl), (Or.inl (gt4 26 rfl rfl))⟩
theorem ss_RX8_81 : CS mX3_canBe 3 ∧ Cond.static yX3_canBe ∈ gTbl ∧ (Cond.methodLink RX8 81 yX3_canBe ∈ gTbl ∨ (RX8, 81, yX3_canBe) ∈ mnTbl) := ⟨cs_X3_canBe, (gt2 33 rfl rfl), (Or.inl (gt4 27 rfl rfl))⟩
theorem ss_RX8_85 : CS mX0_canBe 1 ∧ Cond.static yX0_canBe ∈ gTbl ∧ (Cond.methodLink RX8 85 yX0_canBe ∈ gTbl ∨ (RX8, 85, yX0_canBe) ∈ mnTbl) := ⟨cs_X0_canBe, (gt2 67 rfl rfl), (Or.inl (gt4 28 rfl rfl))⟩
theorem ss_RX8_89 : CS mX11_canRule 2 ∧ Cond.static yX11_canRule ∈ gTbl ∧ (Cond.methodLink RX8 89 yX11_canRule ∈ gTbl ∨ (RX8, 89, yX11_canRule) ∈ mnTbl) := ⟨cs_X11_canRule, (gt2 92 rfl rfl), (Or.inr (List.mem_of_getElem? (i := 20) rfl))⟩
theorem sv_RX11_293 : CS mX8_carryOut 1 ∧ Cond.instanceMethod yX8_carryOut ∈ gTbl ∧ Cond.methodLink RX11 293 yX8_carryOut ∈ gTbl ∧ Cond.selects yX8_carryOut.cls yX8_carryOut yX8_carryOut ∈ gTbl ∧ ∃ r, vwCl[8]? = some r ∧ r.1 = yX8_carryOut.cls := ⟨cs_X8_carryOut, (gt4 31 rfl rfl), (gt4 30 rfl rfl), (gt4 32 rfl rfl), _, rfl, rfl⟩
theorem sl_RX8_76 : Cond.classLink RX8 76 RX6 ∈ gTbl := (gt4 34 rfl rfl)
theorem sn_RX8_76 : NC RX8 76 6 4 := by
  refine ⟨_, rfl, rfl, sl_RX8_76, (gt1 239 rfl rfl), (gt1 10 rfl rfl), cw_6, fun j hj => ?_⟩
  match j, hj with
  | 0, _ => exact ⟨fun h => by first | rfl | (revert h; decide), fun h => by first | rfl | (exact absurd rfl h)⟩
  | 1, _ => exact ⟨fun h => by first | rfl | (revert h; decide), fun h => by first | rfl | (exact absurd rfl h)⟩
  | 2, _ => exact ⟨fun h => by first | rfl | (revert h; decide), fun h => by first | rfl | (exact absurd rfl h)⟩
  | 3, _ => exact ⟨fun h => by first | rfl | (revert h; decide), fun h => by first | rfl | (exact absurd rfl h)⟩
  | n + 4, h => exact absurd h (by show ¬ n + 4 < 4; omega)
theorem si_RX8_92 : CS mX6_init 4 ∧ mX6_init.2.2.2 = none ∧ mX6_init.2.1.name = "<init>" ∧ Cond.instanceMethod yX6_init ∈ gTbl ∧ (Cond.methodLink RX8 92 yX6_init ∈ gTbl ∨ (RX8, 92, yX6_init) ∈ mnTbl) := ⟨cs_X6_init, rfl, rfl, (gt2 1 rfl rfl), (Or.inl (gt4 35 rfl rfl))⟩
theorem sv_RX8_95 : CS mX7_addStave 1 ∧ Cond.instanceMethod yX7_addStave ∈ gTbl ∧ Cond.methodLink RX8 95 yX7_addStave ∈ gTbl ∧ Cond.selects yX7_addStave.cls yX7_addStave yX7_addStave ∈ gTbl ∧ ∃ r, vwCl[7]? = some r ∧ r.1 = yX7_addStave.cls := ⟨cs_X7_addStave, (gt2 25 rfl rfl), (gt4 36 rfl rfl), (gt2 26 rfl rfl), _, rfl, rfl⟩
theorem sl_RX8_82 : Cond.classLink RX8 82 RX3 ∈ gTbl := (gt4 37 rfl rfl)
theorem sn_RX8_82 : NC RX8 82 3 3 := by
  refine ⟨_, rfl, rfl, sl_RX8_82, (gt2 37 rfl rfl), (gt1 11 rfl rfl), cw_3, fun j hj => ?_⟩
  match j, hj with
  | 0, _ => exact ⟨fun h => by first | rfl | (revert h; decide), fun h => by first | rfl | (exact absurd rfl h)⟩
  | 1, _ => exact ⟨fun h => by first | rfl | (revert h; decide), fun h => by first | rfl | (exact absurd rfl h)⟩
  | 2, _ => exact ⟨fun h => by first | rfl | (revert h; decide), fun h => by first | rfl | (exact absurd rfl h)⟩
  | n + 3, h => exact absurd h (by show ¬ n + 3 < 3; omega)
theorem si_RX8_99 : CS mX3_init 3 ∧ mX3_init.2.2.2 = none ∧ mX3_init.2.1.name = "<init>" ∧ Cond.instanceMethod yX3_init ∈ gTbl ∧ (Cond.methodLink RX8 99 yX3_init ∈ gTbl ∨ (RX8, 99, yX3_init) ∈ mnTbl) := ⟨cs_X3_init, rfl, rfl, (gt2 39 rfl rfl), (Or.inl (gt4 38 rfl rfl))⟩
theorem sv_RX8_102 : CS mX7_addHoop 1 ∧ Cond.instanceMethod yX7_addHoop ∈ gTbl ∧ Cond.methodLink RX8 102 yX7_addHoop ∈ gTbl ∧ Cond.selects yX7_addHoop.cls yX7_addHoop yX7_addHoop ∈ gTbl ∧ ∃ r, vwCl[7]? = some r ∧ r.1 = yX7_addHoop.cls := ⟨cs_X7_addHoop, (gt2 59 rfl rfl), (gt4 39 rfl rfl), (gt2 60 rfl rfl), _, rfl, rfl⟩
theorem sl_RX8_86 : Cond.classLink RX8 86 RX0 ∈ gTbl := (gt4 40 rfl rfl)
theorem sn_RX8_86 : NC RX8 86 0 1 := by
  refine ⟨_, rfl, rfl, sl_RX8_86, (gt2 71 rfl rfl), (gt1 12 rfl rfl), cw_0, fun j hj => ?_⟩
  match j, hj with
  | 0, _ => exact ⟨fun h => by first | rfl | (revert h; decide), fun h => by first | rfl | (exact absurd rfl h)⟩
  | n + 1, h => exact absurd h (by show ¬ n + 1 < 1; omega)
theorem si_RX8_106 : CS mX0_init 1 ∧ mX0_init.2.2.2 = none ∧ mX0_init.2.1.name = "<init>" ∧ Cond.instanceMethod yX0_init ∈ gTbl ∧ (Cond.methodLink RX8 106 yX0_init ∈ gTbl ∨ (RX8, 106, yX0_init) ∈ mnTbl) := ⟨cs_X0_init, rfl, rfl, (gt2 73 rfl rfl), (Or.inl (gt4 41 rfl rfl))⟩
theorem sv_RX8_109 : CS mX7_addBoard 1 ∧ Cond.instanceMethod yX7_addBoard ∈ gTbl ∧ Cond.methodLink RX8 109 yX7_addBoard ∈ gTbl ∧ Cond.selects yX7_addBoard.cls yX7_addBoard yX7_addBoard ∈ gTbl ∧ ∃ r, vwCl[7]? = some r ∧ r.1 = yX7_addBoard.cls := ⟨cs_X7_addBoard, (gt2 83 rfl rfl), (gt4 42 rfl rfl), (gt2 84 rfl rfl), _, rfl, rfl⟩
theorem sv_RL_118 : CS mX11_hang 3 ∧ Cond.instanceMethod yX11_hang ∈ gTbl ∧ Cond.methodLink RL 118 yX11_hang ∈ gTbl ∧ Cond.selects yX11_hang.cls yX11_hang yX11_hang ∈ gTbl ∧ ∃ r, vwCl[10]? = some r ∧ r.1 = yX11_hang.cls := ⟨cs_X11_hang, (gt4 44 rfl rfl), (gt4 43 rfl rfl), (gt4 45 rfl rfl), _, rfl, rfl⟩
theorem ss_RX11_299 : CS mX11_isPeg 1 ∧ Cond.static yX11_isPeg ∈ gTbl ∧ (Cond.methodLink RX11 299 yX11_isPeg ∈ gTbl ∨ (RX11, 299, yX11_isPeg) ∈ mnTbl) := ⟨cs_X11_isPeg, (gt4 48 rfl rfl), (Or.inl (gt4 47 rfl rfl))⟩
theorem sv_RX11_302 : CS mX7_thingAt 2 ∧ Cond.instanceMethod yX7_thingAt ∈ gTbl ∧ Cond.methodLink RX11 302 yX7_thingAt ∈ gTbl ∧ Cond.selects yX7_thingAt.cls yX7_thingAt yX7_thingAt ∈ gTbl ∧ ∃ r, vwCl[7]? = some r ∧ r.1 = yX7_thingAt.cls := ⟨cs_X7_thingAt, (gt4 51 rfl rfl), (gt4 50 rfl rfl), (gt4 52 rfl rfl), _, rfl, rfl⟩
theorem sv_RX7_43 : CS mX7_staveAt 1 ∧ Cond.instanceMethod yX7_staveAt ∈ gTbl ∧ Cond.methodLink RX7 43 yX7_staveAt ∈ gTbl ∧ Cond.selects yX7_staveAt.cls yX7_staveAt yX7_staveAt ∈ gTbl ∧ ∃ r, vwCl[7]? = some r ∧ r.1 = yX7_staveAt.cls := ⟨cs_X7_staveAt, (gt2 107 rfl rfl), (gt4 54 rfl rfl), (gt2 108 rfl rfl), _, rfl, rfl⟩
theorem sv_RX7_47 : CS mX7_hoopAt 1 ∧ Cond.instanceMethod yX7_hoopAt ∈ gTbl ∧ Cond.methodLink RX7 47 yX7_hoopAt ∈ gTbl ∧ Cond.selects yX7_hoopAt.cls yX7_hoopAt yX7_hoopAt ∈ gTbl ∧ ∃ r, vwCl[7]? = some r ∧ r.1 = yX7_hoopAt.cls := ⟨cs_X7_hoopAt, (gt3 82 rfl rfl), (gt4 55 rfl rfl), (gt3 83 rfl rfl), _, rfl, rfl⟩
theorem sv_RX7_51 : CS mX7_boardAt 1 ∧ Cond.instanceMethod yX7_boardAt ∈ gTbl ∧ Cond.methodLink RX7 51 yX7_boardAt ∈ gTbl ∧ Cond.selects yX7_boardAt.cls yX7_boardAt yX7_boardAt ∈ gTbl ∧ ∃ r, vwCl[7]? = some r ∧ r.1 = yX7_boardAt.cls := ⟨cs_X7_boardAt, (gt3 168 rfl rfl), (gt4 56 rfl rfl), (gt3 169 rfl rfl), _, rfl, rfl⟩
theorem sv_RL_122 : CS mX11_tray 3 ∧ Cond.instanceMethod yX11_tray ∈ gTbl ∧ Cond.methodLink RL 122 yX11_tray ∈ gTbl ∧ Cond.selects yX11_tray.cls yX11_tray yX11_tray ∈ gTbl ∧ ∃ r, vwCl[10]? = some r ∧ r.1 = yX11_tray.cls := ⟨cs_X11_tray, (gt4 58 rfl rfl), (gt4 57 rfl rfl), (gt4 59 rfl rfl), _, rfl, rfl⟩
theorem sl_RX11_306 : Cond.classLink RX11 306 RX10 ∈ gTbl := (gt4 61 rfl rfl)
theorem sn_RX11_306 : NC RX11 306 9 2 := by
  refine ⟨_, rfl, rfl, sl_RX11_306, (gt4 62 rfl rfl), (gt1 16 rfl rfl), cw_9, fun j hj => ?_⟩
  match j, hj with
  | 0, _ => exact ⟨fun h => by first | rfl | (revert h; decide), fun h => by first | rfl | (exact absurd rfl h)⟩
  | 1, _ => exact ⟨fun h => by first | rfl | (revert h; decide), fun h => by first | rfl | (exact absurd rfl h)⟩
  | n + 2, h => exact absurd h (by show ¬ n + 2 < 2; omega)
theorem si_RX11_308 : CS mX10_init 2 ∧ mX10_init.2.2.2 = none ∧ mX10_init.2.1.name = "<init>" ∧ Cond.instanceMethod yX10_init ∈ gTbl ∧ (Cond.methodLink RX11 308 yX10_init ∈ gTbl ∨ (RX11, 308, yX10_init) ∈ mnTbl) := ⟨cs_X10_init, rfl, rfl, (gt4 64 rfl rfl), (Or.inl (gt4 63 rfl rfl))⟩
theorem si_RX10_3 : CS mX9_init 0 ∧ mX9_init.2.2.2 = none ∧ mX9_init.2.1.name = "<init>" ∧ Cond.instanceMethod yX9_init ∈ gTbl ∧ (Cond.methodLink RX10 3 yX9_init ∈ gTbl ∨ (RX10, 3, yX9_init) ∈ mnTbl) := ⟨cs_X9_init, rfl, rfl, (gt2 4 rfl rfl), (Or.inr (List.mem_of_getElem? (i := 21) rfl))⟩
theorem ss_RX10_15 : CS mJ9_min_7cf53 2 ∧ Cond.static yJ9_min_7cf53 ∈ gTbl ∧ (Cond.methodLink RX10 15 yJ9_min_7cf53 ∈ gTbl ∨ (RX10, 15, yJ9_min_7cf53) ∈ mnTbl) := ⟨cs_J9_min_7cf53, (gt3 9 rfl rfl), (Or.inl (gt4 67 rfl rfl))⟩
theorem ss_RX10_21 : CS mJ9_max_7cf53 2 ∧ Cond.static yJ9_max_7cf53 ∈ gTbl ∧ (Cond.methodLink RX10 21 yJ9_max_7cf53 ∈ gTbl ∨ (RX10, 21, yJ9_max_7cf53) ∈ mnTbl) := ⟨cs_J9_max_7cf53, (gt2 115 rfl rfl), (Or.inl (gt4 68 rfl rfl))⟩
theorem sf_RX10_9 : FL RX10 9 9 0 := ⟨_, rfl, by decide, (gt4 69 rfl rfl), cw_9⟩
theorem sp_RX10_9 : PF RX10 "<init>" 9 9 0 "I" := ⟨sf_RX10_9, _, rfl, rfl, Or.inr ⟨rfl, rfl, rfl⟩⟩
theorem sf_RX11_358 : FL RX11 358 9 0 := ⟨_, rfl, by decide, (gt4 70 rfl rfl), cw_9⟩
theorem sf_RX10_24 : FL RX10 24 9 1 := ⟨_, rfl, by decide, (gt4 71 rfl rfl), cw_9⟩
theorem sp_RX10_24 : PF RX10 "<init>" 24 9 1 "[J" := ⟨sf_RX10_24, _, rfl, rfl, Or.inr ⟨rfl, rfl, rfl⟩⟩
theorem sf_RX11_342 : FL RX11 342 9 1 := ⟨_, rfl, by decide, (gt4 72 rfl rfl), cw_9⟩
theorem sv_RL_126 : CS mX11_held 1 ∧ Cond.instanceMethod yX11_held ∈ gTbl ∧ Cond.methodLink RL 126 yX11_held ∈ gTbl ∧ Cond.selects yX11_held.cls yX11_held yX11_held ∈ gTbl ∧ ∃ r, vwCl[10]? = some r ∧ r.1 = yX11_held.cls := ⟨cs_X11_held, (gt4 80 rfl rfl), (gt4 79 rfl rfl), (gt4 81 rfl rfl), _, rfl, rfl⟩
theorem sv_RL_130 : CS mX11_as 3 ∧ Cond.instanceMethod yX11_as ∈ gTbl ∧ Cond.methodLink RL 130 yX11_as ∈ gTbl ∧ Cond.selects yX11_as.cls yX11_as yX11_as ∈ gTbl ∧ ∃ r, vwCl[10]? = some r ∧ r.1 = yX11_as.cls := ⟨cs_X11_as, (gt4 99 rfl rfl), (gt4 98 rfl rfl), (gt4 100 rfl rfl), _, rfl, rfl⟩
theorem ss_RX11_314 : CS mX11_kindsOf 1 ∧ Cond.static yX11_kindsOf ∈ gTbl ∧ (Cond.methodLink RX11 314 yX11_kindsOf ∈ gTbl ∨ (RX11, 314, yX11_kindsOf) ∈ mnTbl) := ⟨cs_X11_kindsOf, (gt4 103 rfl rfl), (Or.inl (gt4 102 rfl rfl))⟩
theorem sg_RX11_317 : Cond.fieldLink RX11 317 RX11 "STAVE_UNDER" "[I" ∈ gTbl := (gt4 105 rfl rfl)
theorem sg_RX11_324 : Cond.fieldLink RX11 324 RX11 "HOOP_UNDER" "[I" ∈ gTbl := (gt4 107 rfl rfl)
theorem ss_RX11_320 : CS mX11_isUnder 3 ∧ Cond.static yX11_isUnder ∈ gTbl ∧ (Cond.methodLink RX11 320 yX11_isUnder ∈ gTbl ∨ (RX11, 320, yX11_isUnder) ∈ mnTbl) := ⟨cs_X11_isUnder, (gt4 110 rfl rfl), (Or.inl (gt4 109 rfl rfl))⟩
theorem sv_RL_136 : CS mX11_put 3 ∧ Cond.instanceMethod yX11_put ∈ gTbl ∧ Cond.methodLink RL 136 yX11_put ∈ gTbl ∧ Cond.selects yX11_put.cls yX11_put yX11_put ∈ gTbl ∧ ∃ r, vwCl[10]? = some r ∧ r.1 = yX11_put.cls := ⟨cs_X11_put, (gt4 113 rfl rfl), (gt4 112 rfl rfl), (gt4 114 rfl rfl), _, rfl, rfl⟩
theorem sv_RX11_328 : CS mX11_trayOn 1 ∧ Cond.instanceMethod yX11_trayOn ∈ gTbl ∧ Cond.methodLink RX11 328 yX11_trayOn ∈ gTbl ∧ Cond.selects yX11_trayOn.cls yX11_trayOn yX11_trayOn ∈ gTbl ∧ ∃ r, vwCl[10]? = some r ∧ r.1 = yX11_trayOn.cls := ⟨cs_X11_trayOn, (gt4 118 rfl rfl), (gt4 116 rfl rfl), (gtS 18 rfl rfl), _, rfl, rfl⟩
theorem sv_RX11_332 : CS mX11_lackOfTray 1 ∧ Cond.instanceMethod yX11_lackOfTray ∈ gTbl ∧ Cond.methodLink RX11 332 yX11_lackOfTray ∈ gTbl ∧ Cond.selects yX11_lackOfTray.cls yX11_lackOfTray yX11_lackOfTray ∈ gTbl ∧ ∃ r, vwCl[10]? = some r ∧ r.1 = yX11_lackOfTray.cls := ⟨cs_X11_lackOfTray, (gt4 122 rfl rfl), (gt4 120 rfl rfl), (gtS 19 rfl rfl), _, rfl, rfl⟩
theorem sv_RX11_335 : CS mX10_hasItem 1 ∧ Cond.instanceMethod yX10_hasItem ∈ gTbl ∧ Cond.methodLink RX11 335 yX10_hasItem ∈ gTbl ∧ Cond.selects yX10_hasItem.cls yX10_hasItem yX10_hasItem ∈ gTbl ∧ ∃ r, vwCl[9]? = some r ∧ r.1 = yX10_hasItem.cls := ⟨cs_X10_hasItem, (gt4 125 rfl rfl), (gt4 124 rfl rfl), (gt4 126 rfl rfl), _, rfl, rfl⟩
theorem sv_RX11_338 : CS mX10_lay 2 ∧ Cond.instanceMethod yX10_lay ∈ gTbl ∧ Cond.methodLink RX11 338 yX10_lay ∈ gTbl ∧ Cond.selects yX10_lay.cls yX10_lay yX10_lay ∈ gTbl ∧ ∃ r, vwCl[9]? = some r ∧ r.1 = yX10_lay.cls := ⟨cs_X10_lay, (gt4 129 rfl rfl), (gt4 128 rfl rfl), (gt4 130 rfl rfl), _, rfl, rfl⟩
theorem sv_RX10_28 : CS mX10_hasItem 1 ∧ Cond.instanceMethod yX10_hasItem ∈ gTbl ∧ Cond.methodLink RX10 28 yX10_hasItem ∈ gTbl ∧ Cond.selects yX10_hasItem.cls yX10_hasItem yX10_hasItem ∈ gTbl ∧ ∃ r, vwCl[9]? = some r ∧ r.1 = yX10_hasItem.cls := ⟨cs_X10_hasItem, (gt4 125 rfl rfl), (gt4 132 rfl rfl), (gt4 126 rfl rfl), _, rfl, rfl⟩
theorem sv_RL_141 : CS mX11_get 2 ∧ Cond.instanceMethod yX11_get ∈ gTbl ∧ Cond.methodLink RL 141 yX11_get ∈ gTbl ∧ Cond.selects yX11_get.cls yX11_get yX11_get ∈ gTbl ∧ ∃ r, vwCl[10]? = some r ∧ r.1 = yX11_get.cls := ⟨cs_X11_get, (gt4 134 rfl rfl), (gt4 133 rfl rfl), (gt4 135 rfl rfl), _, rfl, rfl⟩
theorem sk_RX11_346 : Cond.constantLong RX11 346 (-9223372036854775808) ∈ gTbl := (gt4 137 rfl rfl)
theorem sv_RL_146 : CS mX11_fill 3 ∧ Cond.instanceMethod yX11_fill ∈ gTbl ∧ Cond.methodLink RL 146 yX11_fill ∈ gTbl ∧ Cond.selects yX11_fill.cls yX11_fill yX11_fill ∈ gTbl ∧ ∃ r, vwCl[10]? = some r ∧ r.1 = yX11_fill.cls := ⟨cs_X11_fill, (gt4 139 rfl rfl), (gt4 138 rfl rfl), (gt4 140 rfl rfl), _, rfl, rfl⟩
theorem sv_RX11_348 : CS mX11_lackForRing 3 ∧ Cond.instanceMethod yX11_lackForRing ∈ gTbl ∧ Cond.methodLink RX11 348 yX11_lackForRing ∈ gTbl ∧ Cond.selects yX11_lackForRing.cls yX11_lackForRing yX11_lackForRing ∈ gTbl ∧ ∃ r, vwCl[10]? = some r ∧ r.1 = yX11_lackForRing.cls := ⟨cs_X11_lackForRing, (gt4 144 rfl rfl), (gt4 142 rfl rfl), (gtS 20 rfl rfl), _, rfl, rfl⟩
theorem ss_RX11_353 : CS mJ9_min_7cf53 2 ∧ Cond.static yJ9_min_7cf53 ∈ gTbl ∧ (Cond.methodLink RX11 353 yJ9_min_7cf53 ∈ gTbl ∨ (RX11, 353, yJ9_min_7cf53) ∈ mnTbl) := ⟨cs_J9_min_7cf53, (gt3 9 rfl rfl), (Or.inl (gt4 146 rfl rfl))⟩
theorem sv_RL_150 : CS mX11_judge 3 ∧ Cond.instanceMethod yX11_judge ∈ gTbl ∧ Cond.methodLink RL 150 yX11_judge ∈ gTbl ∧ Cond.selects yX11_judge.cls yX11_judge yX11_judge ∈ gTbl ∧ ∃ r, vwCl[10]? = some r ∧ r.1 = yX11_judge.cls := ⟨cs_X11_judge, (gt4 148 rfl rfl), (gt4 147 rfl rfl), (gt4 149 rfl rfl), _, rfl, rfl⟩
theorem sv_RL_154 : CS mX11_move 5 ∧ Cond.instanceMethod yX11_move ∈ gTbl ∧ Cond.methodLink RL 154 yX11_move ∈ gTbl ∧ Cond.selects yX11_move.cls yX11_move yX11_move ∈ gTbl ∧ ∃ r, vwCl[10]? = some r ∧ r.1 = yX11_move.cls := ⟨cs_X11_move, (gt4 152 rfl rfl), (gt4 151 rfl rfl), (gt4 153 rfl rfl), _, rfl, rfl⟩
theorem sv_RX11_361 : CS mX10_hasRun 2 ∧ Cond.instanceMethod yX10_hasRun ∈ gTbl ∧ Cond.methodLink RX11 361 yX10_hasRun ∈ gTbl ∧ Cond.selects yX10_hasRun.cls yX10_hasRun yX10_hasRun ∈ gTbl ∧ ∃ r, vwCl[9]? = some r ∧ r.1 = yX10_hasRun.cls := ⟨cs_X10_hasRun, (gt4 156 rfl rfl), (gt4 155 rfl rfl), (gt4 157 rfl rfl), _, rfl, rfl⟩
theorem sv_RL_159 : CS mX11_image 0 ∧ Cond.instanceMethod yX11_image ∈ gTbl ∧ Cond.methodLink RL 159 yX11_image ∈ gTbl ∧ Cond.selects yX11_image.cls yX11_image yX11_image ∈ gTbl ∧ ∃ r, vwCl[10]? = some r ∧ r.1 = yX11_image.cls := ⟨cs_X11_image, (gt4 163 rfl rfl), (gt4 162 rfl rfl), (gt4 164 rfl rfl), _, rfl, rfl⟩
theorem sv_RX11_370 : CS mX7_becomeLike 1 ∧ Cond.instanceMethod yX7_becomeLike ∈ gTbl ∧ Cond.methodLink RX11 370 yX7_becomeLike ∈ gTbl ∧ Cond.selects yX7_becomeLike.cls yX7_becomeLike yX7_becomeLike ∈ gTbl ∧ ∃ r, vwCl[7]? = some r ∧ r.1 = yX7_becomeLike.cls := ⟨cs_X7_becomeLike, (gt4 167 rfl rfl), (gt4 166 rfl rfl), (gt4 168 rfl rfl), _, rfl, rfl⟩
theorem sv_RX7_55 : CS mX6_twin 0 ∧ Cond.instanceMethod yX6_twin ∈ gTbl ∧ Cond.methodLink RX7 55 yX6_twin ∈ gTbl ∧ Cond.selects yX6_twin.cls yX6_twin yX6_twin ∈ gTbl ∧ ∃ r, vwCl[6]? = some r ∧ r.1 = yX6_twin.cls := ⟨cs_X6_twin, (gt4 171 rfl rfl), (gt4 170 rfl rfl), (gt4 172 rfl rfl), _, rfl, rfl⟩
theorem sl_RX6_8 : Cond.classLink RX6 8 RX6 ∈ gTbl := (gt4 174 rfl rfl)
theorem sn_RX6_8 : NC RX6 8 6 4 := by
  refine ⟨_, rfl, rfl, sl_RX6_8, (gt1 239 rfl rfl), (gt1 10 rfl rfl), cw_6, fun j hj => ?_⟩
  match j, hj with
  | 0, _ => exact ⟨fun h => by first | rfl | (revert h; decide), fun h => by first | rfl | (exact absurd rfl h)⟩
  | 1, _ => exact ⟨fun h => by first | rfl | (revert h; decide), fun h => by first | rfl | (exact absurd rfl h)⟩
  | 2, _ => exact ⟨fun h => by first | rfl | (revert h; decide), fun h => by first | rfl | (exact absurd rfl h)⟩
  | 3, _ => exact ⟨fun h => by first | rfl | (revert h; decide), fun h => by first | rfl | (exact absurd rfl h)⟩
  | n + 4, h => exact absurd h (by show ¬ n + 4 < 4; omega)
theorem si_RX6_28 : CS mX6_init 4 ∧ mX6_init.2.2.2 = none ∧ mX6_init.2.1.name = "<init>" ∧ Cond.instanceMethod yX6_init ∈ gTbl ∧ (Cond.methodLink RX6 28 yX6_init ∈ gTbl ∨ (RX6, 28, yX6_init) ∈ mnTbl) := ⟨cs_X6_init, rfl, rfl, (gt2 1 rfl rfl), (Or.inl (gt4 175 rfl rfl))⟩
theorem sv_RL_163 : CS mX11_undo 0 ∧ Cond.instanceMethod yX11_undo ∈ gTbl ∧ Cond.methodLink RL 163 yX11_undo ∈ gTbl ∧ Cond.selects yX11_undo.cls yX11_undo yX11_undo ∈ gTbl ∧ ∃ r, vwCl[10]? = some r ∧ r.1 = yX11_undo.cls := ⟨cs_X11_undo, (gt4 177 rfl rfl), (gt4 176 rfl rfl), (gt4 178 rfl rfl), _, rfl, rfl⟩
theorem sl_RL_10 : Cond.classLink RL 10 RX12 ∈ gTbl := (gt4 180 rfl rfl)
theorem sn_RL_10 : NC RL 10 11 30 := by
  refine ⟨_, rfl, rfl, sl_RL_10, (gt4 181 rfl rfl), (gt1 8 rfl rfl), cw_11, fun j hj => ?_⟩
  match j, hj with
  | 0, _ => exact ⟨fun h => by first | rfl | (revert h; decide), fun h => by first | rfl | (exact absurd rfl h)⟩
  | 1, _ => exact ⟨fun h => by first | rfl | (revert h; decide), fun h => by first | rfl | (exact absurd rfl h)⟩
  | 2, _ => exact ⟨fun h => by first | rfl | (revert h; decide), fun h => by first | rfl | (exact absurd rfl h)⟩
  | 3, _ => exact ⟨fun h => by first | rfl | (revert h; decide), fun h => by first | rfl | (exact absurd rfl h)⟩
  | 4, _ => exact ⟨fun h => by first | rfl | (revert h; decide), fun h => by first | rfl | (exact absurd rfl h)⟩
  | 5, _ => exact ⟨fun h => by first | rfl | (revert h; decide), fun h => by first | rfl | (exact absurd rfl h)⟩
  | 6, _ => exact ⟨fun h => by first | rfl | (revert h; decide), fun h => by first | rfl | (exact absurd rfl h)⟩
  | 7, _ => exact ⟨fun h => by first | rfl | (revert h; decide), fun h => by first | rfl | (exact absurd rfl h)⟩
  | 8, _ => exact ⟨fun h => by first | rfl | (revert h; decide), fun h => by first | rfl | (exact absurd rfl h)⟩
  | 9, _ => exact ⟨fun h => by first | rfl | (revert h; decide), fun h => by first | rfl | (exact absurd rfl h)⟩
  | 10, _ => exact ⟨fun h => by first | rfl | (revert h; decide), fun h => by first | rfl | (exact absurd rfl h)⟩
  | 11, _ => exact ⟨fun h => by first | rfl | (revert h; decide), fun h => by first | rfl | (exact absurd rfl h)⟩
  | 12, _ => exact ⟨fun h => by first | rfl | (revert h; decide), fun h => by first | rfl | (exact absurd rfl h)⟩
  | 13, _ => exact ⟨fun h => by first | rfl | (revert h; decide), fun h => by first | rfl | (exact absurd rfl h)⟩
  | 14, _ => exact ⟨fun h => by first | rfl | (revert h; decide), fun h => by first | rfl | (exact absurd rfl h)⟩
  | 15, _ => exact ⟨fun h => by first | rfl | (revert h; decide), fun h => by first | rfl | (exact absurd rfl h)⟩
  | 16, _ => exact ⟨fun h => by first | rfl | (revert h; decide), fun h => by first | rfl | (exact absurd rfl h)⟩
  | 17, _ => exact ⟨fun h => by first | rfl | (revert h; decide), fun h => by first | rfl | (exact absurd rfl h)⟩
  | 18, _ => exact ⟨fun h => by first | rfl | (revert h; decide), fun h => by first | rfl | (exact absurd rfl h)⟩
  | 19, _ => exact ⟨fun h => by first | rfl | (revert h; decide), fun h => by first | rfl | (exact absurd rfl h)⟩
  | 20, _ => exact ⟨fun h => by first | rfl | (revert h; decide), fun h => by first | rfl | (exact absurd rfl h)⟩
  | 21, _ => exact ⟨fun h => by first | rfl | (revert h; decide), fun h => by first | rfl | (exact absurd rfl h)⟩
  | 22, _ => exact ⟨fun h => by first | rfl | (revert h; decide), fun h => by first | rfl | (exact absurd rfl h)⟩
  | 23, _ => exact ⟨fun h => by first | rfl | (revert h; decide), fun h => by first | rfl | (exact absurd rfl h)⟩
  | 24, _ => exact ⟨fun h => by first | rfl | (revert h; decide), fun h => by first | rfl | (exact absurd rfl h)⟩
  | 25, _ => exact ⟨fun h => by first | rfl | (revert h; decide), fun h => by first | rfl | (exact absurd rfl h)⟩
  | 26, _ => exact ⟨fun h => by first | rfl | (revert h; decide), fun h => by first | rfl | (exact absurd rfl h)⟩
  | 27, _ => exact ⟨fun h => by first | rfl | (revert h; decide), fun h => by first | rfl | (exact absurd rfl h)⟩
  | 28, _ => exact ⟨fun h => by first | rfl | (revert h; decide), fun h => by first | rfl | (exact absurd rfl h)⟩
  | 29, _ => exact ⟨fun h => by first | rfl | (revert h; decide), fun h => by first | rfl | (exact absurd rfl h)⟩
  | n + 30, h => exact absurd h (by show ¬ n + 30 < 30; omega)
theorem si_RL_12 : CS mX12_init 0 ∧ mX12_init.2.2.2 = none ∧ mX12_init.2.1.name = "<init>" ∧ Cond.instanceMethod yX12_init ∈ gTbl ∧ (Cond.methodLink RL 12 yX12_init ∈ gTbl ∨ (RL, 12, yX12_init) ∈ mnTbl) := ⟨cs_X12_init, rfl, rfl, (gt4 183 rfl rfl), (Or.inl (gt4 182 rfl rfl))⟩
theorem so_RX12_3 : Cond.methodLink RX12 3 objectInit ∈ gTbl := (gt4 185 rfl rfl)
theorem sf_RX12_9 : FL RX12 9 11 0 := ⟨_, rfl, by decide, (gt4 186 rfl rfl), cw_11⟩
theorem sp_RX12_9 : PF RX12 "<init>" 9 11 0 "[I" := ⟨sf_RX12_9, _, rfl, rfl, Or.inr ⟨rfl, rfl, rfl⟩⟩
theorem sf_RX12_15 : FL RX12 15 11 1 := ⟨_, rfl, by decide, (gt4 187 rfl rfl), cw_11⟩
theorem sp_RX12_15 : PF RX12 "<init>" 15 11 1 "[I" := ⟨sf_RX12_15, _, rfl, rfl, Or.inr ⟨rfl, rfl, rfl⟩⟩
theorem sf_RX12_18 : FL RX12 18 11 2 := ⟨_, rfl, by decide, (gt4 188 rfl rfl), cw_11⟩
theorem sp_RX12_18 : PF RX12 "<init>" 18 11 2 "[I" := ⟨sf_RX12_18, _, rfl, rfl, Or.inr ⟨rfl, rfl, rfl⟩⟩
theorem sf_RX12_268 : FL RX12 268 11 3 := ⟨_, rfl, by decide, (gt4 189 rfl rfl), cw_11⟩
theorem sp_RX12_268 (nm : String) : PF RX12 nm 268 11 3 "Z" := ⟨sf_RX12_268, _, rfl, rfl, Or.inl rfl⟩
theorem sf_RX12_66 : FL RX12 66 11 4 := ⟨_, rfl, by decide, (gt4 190 rfl rfl), cw_11⟩
theorem sp_RX12_66 (nm : String) : PF RX12 nm 66 11 4 "I" := ⟨sf_RX12_66, _, rfl, rfl, Or.inl rfl⟩
theorem sf_RX12_80 : FL RX12 80 11 5 := ⟨_, rfl, by decide, (gt4 191 rfl rfl), cw_11⟩
theorem sp_RX12_80 (nm : String) : PF RX12 nm 80 11 5 "I" := ⟨sf_RX12_80, _, rfl, rfl, Or.inl rfl⟩
theorem sf_RX12_77 : FL RX12 77 11 6 := ⟨_, rfl, by decide, (gt4 192 rfl rfl), cw_11⟩
theorem sp_RX12_77 (nm : String) : PF RX12 nm 77 11 6 "I" := ⟨sf_RX12_77, _, rfl, rfl, Or.inl rfl⟩
theorem sf_RX12_21 : FL RX12 21 11 7 := ⟨_, rfl, by decide, (gt4 193 rfl rfl), cw_11⟩
theorem sp_RX12_21 : PF RX12 "<init>" 21 11 7 "[I" := ⟨sf_RX12_21, _, rfl, rfl, Or.inr ⟨rfl, rfl, rfl⟩⟩
theorem sf_RX12_212 : FL RX12 212 11 8 := ⟨_, rfl, by decide, (gt4 194 rfl rfl), cw_11⟩
theorem sp_RX12_212 (nm : String) : PF RX12 nm 212 11 8 "I" := ⟨sf_RX12_212, _, rfl, rfl, Or.inl rfl⟩
theorem sf_RX12_209 : FL RX12 209 11 9 := ⟨_, rfl, by decide, (gt4 195 rfl rfl), cw_11⟩
theorem sp_RX12_209 (nm : String) : PF RX12 nm 209 11 9 "I" := ⟨sf_RX12_209, _, rfl, rfl, Or.inl rfl⟩
theorem sf_RX12_224 : FL RX12 224 11 10 := ⟨_, rfl, by decide, (gt4 196 rfl rfl), cw_11⟩
theorem sp_RX12_224 (nm : String) : PF RX12 nm 224 11 10 "I" := ⟨sf_RX12_224, _, rfl, rfl, Or.inl rfl⟩
theorem sf_RX12_24 : FL RX12 24 11 11 := ⟨_, rfl, by decide, (gt4 197 rfl rfl), cw_11⟩
theorem sp_RX12_24 : PF RX12 "<init>" 24 11 11 "[I" := ⟨sf_RX12_24, _, rfl, rfl, Or.inr ⟨rfl, rfl, rfl⟩⟩
theorem sf_RX12_124 : FL RX12 124 11 12 := ⟨_, rfl, by decide, (gt4 198 rfl rfl), cw_11⟩
theorem sp_RX12_124 (nm : String) : PF RX12 nm 124 11 12 "I" := ⟨sf_RX12_124, _, rfl, rfl, Or.inl rfl⟩
theorem sf_RX12_27 : FL RX12 27 11 13 := ⟨_, rfl, by decide, (gt4 199 rfl rfl), cw_11⟩
theorem sp_RX12_27 : PF RX12 "<init>" 27 11 13 "[I" := ⟨sf_RX12_27, _, rfl, rfl, Or.inr ⟨rfl, rfl, rfl⟩⟩
theorem sf_RX12_30 : FL RX12 30 11 14 := ⟨_, rfl, by decide, (gt4 200 rfl rfl), cw_11⟩
theorem sp_RX12_30 : PF RX12 "<init>" 30 11 14 "[I" := ⟨sf_RX12_30, _, rfl, rfl, Or.inr ⟨rfl, rfl, rfl⟩⟩
theorem sf_RX12_143 : FL RX12 143 11 15 := ⟨_, rfl, by decide, (gt4 201 rfl rfl), cw_11⟩
theorem sp_RX12_143 (nm : String) : PF RX12 nm 143 11 15 "I" := ⟨sf_RX12_143, _, rfl, rfl, Or.inl rfl⟩
theorem sf_RX12_134 : FL RX12 134 11 16 := ⟨_, rfl, by decide, (gt4 202 rfl rfl), cw_11⟩
theorem sp_RX12_134 (nm : String) : PF RX12 nm 134 11 16 "I" := ⟨sf_RX12_134, _, rfl, rfl, Or.inl rfl⟩
theorem sf_RX12_137 : FL RX12 137 11 17 := ⟨_, rfl, by decide, (gt4 203 rfl rfl), cw_11⟩
theorem sp_RX12_137 (nm : String) : PF RX12 nm 137 11 17 "I" := ⟨sf_RX12_137, _, rfl, rfl, Or.inl rfl⟩
theorem sf_RX12_33 : FL RX12 33 11 18 := ⟨_, rfl, by decide, (gt4 204 rfl rfl), cw_11⟩
theorem sp_RX12_33 : PF RX12 "<init>" 33 11 18 "[I" := ⟨sf_RX12_33, _, rfl, rfl, Or.inr ⟨rfl, rfl, rfl⟩⟩
theorem sf_RX12_36 : FL RX12 36 11 19 := ⟨_, rfl, by decide, (gt4 205 rfl rfl), cw_11⟩
theorem sp_RX12_36 : PF RX12 "<init>" 36 11 19 "[I" := ⟨sf_RX12_36, _, rfl, rfl, Or.inr ⟨rfl, rfl, rfl⟩⟩
theorem sf_RX12_185 : FL RX12 185 11 20 := ⟨_, rfl, by decide, (gt4 206 rfl rfl), cw_11⟩
theorem sp_RX12_185 (nm : String) : PF RX12 nm 185 11 20 "I" := ⟨sf_RX12_185, _, rfl, rfl, Or.inl rfl⟩
theorem sf_RX12_188 : FL RX12 188 11 21 := ⟨_, rfl, by decide, (gt4 207 rfl rfl), cw_11⟩
theorem sp_RX12_188 (nm : String) : PF RX12 nm 188 11 21 "I" := ⟨sf_RX12_188, _, rfl, rfl, Or.inl rfl⟩
theorem sf_RX12_194 : FL RX12 194 11 22 := ⟨_, rfl, by decide, (gt4 208 rfl rfl), cw_11⟩
theorem sp_RX12_194 (nm : String) : PF RX12 nm 194 11 22 "I" := ⟨sf_RX12_194, _, rfl, rfl, Or.inl rfl⟩
theorem sf_RX12_191 : FL RX12 191 11 23 := ⟨_, rfl, by decide, (gt4 209 rfl rfl), cw_11⟩
theorem sp_RX12_191 (nm : String) : PF RX12 nm 191 11 23 "I" := ⟨sf_RX12_191, _, rfl, rfl, Or.inl rfl⟩
theorem sf_RX12_39 : FL RX12 39 11 24 := ⟨_, rfl, by decide, (gt4 210 rfl rfl), cw_11⟩
theorem sp_RX12_39 : PF RX12 "<init>" 39 11 24 "[I" := ⟨sf_RX12_39, _, rfl, rfl, Or.inr ⟨rfl, rfl, rfl⟩⟩
theorem sf_RX12_42 : FL RX12 42 11 25 := ⟨_, rfl, by decide, (gt4 211 rfl rfl), cw_11⟩
theorem sp_RX12_42 : PF RX12 "<init>" 42 11 25 "[I" := ⟨sf_RX12_42, _, rfl, rfl, Or.inr ⟨rfl, rfl, rfl⟩⟩
theorem sf_RX12_45 : FL RX12 45 11 26 := ⟨_, rfl, by decide, (gt4 212 rfl rfl), cw_11⟩
theorem sp_RX12_45 : PF RX12 "<init>" 45 11 26 "[I" := ⟨sf_RX12_45, _, rfl, rfl, Or.inr ⟨rfl, rfl, rfl⟩⟩
theorem sf_RX12_48 : FL RX12 48 11 27 := ⟨_, rfl, by decide, (gt4 213 rfl rfl), cw_11⟩
theorem sp_RX12_48 : PF RX12 "<init>" 48 11 27 "[I" := ⟨sf_RX12_48, _, rfl, rfl, Or.inr ⟨rfl, rfl, rfl⟩⟩
theorem sf_RX12_51 : FL RX12 51 11 28 := ⟨_, rfl, by decide, (gt4 214 rfl rfl), cw_11⟩
theorem sp_RX12_51 : PF RX12 "<init>" 51 11 28 "[J" := ⟨sf_RX12_51, _, rfl, rfl, Or.inr ⟨rfl, rfl, rfl⟩⟩
theorem sf_RX12_55 : FL RX12 55 11 29 := ⟨_, rfl, by decide, (gt4 215 rfl rfl), cw_11⟩
theorem sp_RX12_55 : PF RX12 "<init>" 55 11 29 "[J" := ⟨sf_RX12_55, _, rfl, rfl, Or.inr ⟨rfl, rfl, rfl⟩⟩
theorem sv_RL_17 : CS mX12_stave 4 ∧ Cond.instanceMethod yX12_stave ∈ gTbl ∧ Cond.methodLink RL 17 yX12_stave ∈ gTbl ∧ Cond.selects yX12_stave.cls yX12_stave yX12_stave ∈ gTbl ∧ ∃ r, vwCl[11]? = some r ∧ r.1 = yX12_stave.cls := ⟨cs_X12_stave, (gt5 38 rfl rfl), (gt5 37 rfl rfl), (gt5 39 rfl rfl), _, rfl, rfl⟩
theorem ss_RX12_62 : CS mX12_isStave 4 ∧ Cond.static yX12_isStave ∈ gTbl ∧ (Cond.methodLink RX12 62 yX12_isStave ∈ gTbl ∨ (RX12, 62, yX12_isStave) ∈ mnTbl) := ⟨cs_X12_isStave, (gt5 42 rfl rfl), (Or.inl (gt5 41 rfl rfl))⟩
theorem ss_RX12_58 : CS mX12_within 3 ∧ Cond.static yX12_within ∈ gTbl ∧ (Cond.methodLink RX12 58 yX12_within ∈ gTbl ∨ (RX12, 58, yX12_within) ∈ mnTbl) := ⟨cs_X12_within, (gt5 45 rfl rfl), (Or.inl (gt5 44 rfl rfl))⟩
theorem sv_RL_22 : CS mX12_hoop 3 ∧ Cond.instanceMethod yX12_hoop ∈ gTbl ∧ Cond.methodLink RL 22 yX12_hoop ∈ gTbl ∧ Cond.selects yX12_hoop.cls yX12_hoop yX12_hoop ∈ gTbl ∧ ∃ r, vwCl[11]? = some r ∧ r.1 = yX12_hoop.cls := ⟨cs_X12_hoop, (gt5 48 rfl rfl), (gt5 47 rfl rfl), (gt5 49 rfl rfl), _, rfl, rfl⟩
theorem ss_RX12_70 : CS mX12_isHoop 3 ∧ Cond.static yX12_isHoop ∈ gTbl ∧ (Cond.methodLink RX12 70 yX12_isHoop ∈ gTbl ∨ (RX12, 70, yX12_isHoop) ∈ mnTbl) := ⟨cs_X12_isHoop, (gt5 52 rfl rfl), (Or.inl (gt5 51 rfl rfl))⟩
theorem sv_RL_27 : CS mX12_board 1 ∧ Cond.instanceMethod yX12_board ∈ gTbl ∧ Cond.methodLink RL 27 yX12_board ∈ gTbl ∧ Cond.selects yX12_board.cls yX12_board yX12_board ∈ gTbl ∧ ∃ r, vwCl[11]? = some r ∧ r.1 = yX12_board.cls := ⟨cs_X12_board, (gt5 55 rfl rfl), (gt5 54 rfl rfl), (gt5 56 rfl rfl), _, rfl, rfl⟩
theorem sv_RL_32 : CS mX12_rule 2 ∧ Cond.instanceMethod yX12_rule ∈ gTbl ∧ Cond.methodLink RL 32 yX12_rule ∈ gTbl ∧ Cond.selects yX12_rule.cls yX12_rule yX12_rule ∈ gTbl ∧ ∃ r, vwCl[11]? = some r ∧ r.1 = yX12_rule.cls := ⟨cs_X12_rule, (gt5 59 rfl rfl), (gt5 58 rfl rfl), (gt5 60 rfl rfl), _, rfl, rfl⟩
theorem ss_RX12_73 : CS mX12_isRule 2 ∧ Cond.static yX12_isRule ∈ gTbl ∧ (Cond.methodLink RX12 73 yX12_isRule ∈ gTbl ∨ (RX12, 73, yX12_isRule) ∈ mnTbl) := ⟨cs_X12_isRule, (gt5 63 rfl rfl), (Or.inl (gt5 62 rfl rfl))⟩
theorem sv_RL_36 : CS mX12_told 1 ∧ Cond.instanceMethod yX12_told ∈ gTbl ∧ Cond.methodLink RL 36 yX12_told ∈ gTbl ∧ Cond.selects yX12_told.cls yX12_told yX12_told ∈ gTbl ∧ ∃ r, vwCl[11]? = some r ∧ r.1 = yX12_told.cls := ⟨cs_X12_told, (gt5 66 rfl rfl), (gt5 65 rfl rfl), (gt5 67 rfl rfl), _, rfl, rfl⟩
theorem sv_RL_40 : CS mX12_ofStave 2 ∧ Cond.instanceMethod yX12_ofStave ∈ gTbl ∧ Cond.methodLink RL 40 yX12_ofStave ∈ gTbl ∧ Cond.selects yX12_ofStave.cls yX12_ofStave yX12_ofStave ∈ gTbl ∧ ∃ r, vwCl[11]? = some r ∧ r.1 = yX12_ofStave.cls := ⟨cs_X12_ofStave, (gt5 70 rfl rfl), (gt5 69 rfl rfl), (gt5 71 rfl rfl), _, rfl, rfl⟩
theorem sv_RX12_96 : CS mX12_hasStave 1 ∧ Cond.instanceMethod yX12_hasStave ∈ gTbl ∧ Cond.methodLink RX12 96 yX12_hasStave ∈ gTbl ∧ Cond.selects yX12_hasStave.cls yX12_hasStave yX12_hasStave ∈ gTbl ∧ ∃ r, vwCl[11]? = some r ∧ r.1 = yX12_hasStave.cls := ⟨cs_X12_hasStave, (gt5 75 rfl rfl), (gt5 73 rfl rfl), (gtS 21 rfl rfl), _, rfl, rfl⟩
theorem sv_RX12_89 : CS mX12_countsOf 1 ∧ Cond.instanceMethod yX12_countsOf ∈ gTbl ∧ Cond.methodLink RX12 89 yX12_countsOf ∈ gTbl ∧ Cond.selects yX12_countsOf.cls yX12_countsOf yX12_countsOf ∈ gTbl ∧ ∃ r, vwCl[11]? = some r ∧ r.1 = yX12_countsOf.cls := ⟨cs_X12_countsOf, (gt5 79 rfl rfl), (gt5 77 rfl rfl), (gtS 22 rfl rfl), _, rfl, rfl⟩
theorem ss_RX12_83 : CS mJ9_max_7cf53 2 ∧ Cond.static yJ9_max_7cf53 ∈ gTbl ∧ (Cond.methodLink RX12 83 yJ9_max_7cf53 ∈ gTbl ∨ (RX12, 83, yJ9_max_7cf53) ∈ mnTbl) := ⟨cs_J9_max_7cf53, (gt2 115 rfl rfl), (Or.inl (gt5 81 rfl rfl))⟩
theorem sv_RX12_100 : CS mX12_edgeOf 1 ∧ Cond.instanceMethod yX12_edgeOf ∈ gTbl ∧ Cond.methodLink RX12 100 yX12_edgeOf ∈ gTbl ∧ Cond.selects yX12_edgeOf.cls yX12_edgeOf yX12_edgeOf ∈ gTbl ∧ ∃ r, vwCl[11]? = some r ∧ r.1 = yX12_edgeOf.cls := ⟨cs_X12_edgeOf, (gt5 84 rfl rfl), (gt5 82 rfl rfl), (gtS 23 rfl rfl), _, rfl, rfl⟩
theorem sv_RX12_103 : CS mX12_priceOf 1 ∧ Cond.instanceMethod yX12_priceOf ∈ gTbl ∧ Cond.methodLink RX12 103 yX12_priceOf ∈ gTbl ∧ Cond.selects yX12_priceOf.cls yX12_priceOf yX12_priceOf ∈ gTbl ∧ ∃ r, vwCl[11]? = some r ∧ r.1 = yX12_priceOf.cls := ⟨cs_X12_priceOf, (gt5 88 rfl rfl), (gt5 86 rfl rfl), (gtS 24 rfl rfl), _, rfl, rfl⟩
theorem sv_RX12_106 : CS mX12_sagOf 1 ∧ Cond.instanceMethod yX12_sagOf ∈ gTbl ∧ Cond.methodLink RX12 106 yX12_sagOf ∈ gTbl ∧ Cond.selects yX12_sagOf.cls yX12_sagOf yX12_sagOf ∈ gTbl ∧ ∃ r, vwCl[11]? = some r ∧ r.1 = yX12_sagOf.cls := ⟨cs_X12_sagOf, (gt5 92 rfl rfl), (gt5 90 rfl rfl), (gtS 25 rfl rfl), _, rfl, rfl⟩
theorem ss_RX12_93 : CS mX12_root 1 ∧ Cond.static yX12_root ∈ gTbl ∧ (Cond.methodLink RX12 93 yX12_root ∈ gTbl ∨ (RX12, 93, yX12_root) ∈ mnTbl) := ⟨cs_X12_root, (gt5 95 rfl rfl), (Or.inl (gt5 94 rfl rfl))⟩
theorem sv_RL_44 : CS mX12_takes 1 ∧ Cond.instanceMethod yX12_takes ∈ gTbl ∧ Cond.methodLink RL 44 yX12_takes ∈ gTbl ∧ Cond.selects yX12_takes.cls yX12_takes yX12_takes ∈ gTbl ∧ ∃ r, vwCl[11]? = some r ∧ r.1 = yX12_takes.cls := ⟨cs_X12_takes, (gt5 98 rfl rfl), (gt5 97 rfl rfl), (gt5 99 rfl rfl), _, rfl, rfl⟩
theorem sv_RL_48 : CS mX12_shave 2 ∧ Cond.instanceMethod yX12_shave ∈ gTbl ∧ Cond.methodLink RL 48 yX12_shave ∈ gTbl ∧ Cond.selects yX12_shave.cls yX12_shave yX12_shave ∈ gTbl ∧ ∃ r, vwCl[11]? = some r ∧ r.1 = yX12_shave.cls := ⟨cs_X12_shave, (gt5 102 rfl rfl), (gt5 101 rfl rfl), (gt5 103 rfl rfl), _, rfl, rfl⟩
theorem sv_RL_52 : CS mX12_fits 1 ∧ Cond.instanceMethod yX12_fits ∈ gTbl ∧ Cond.methodLink RL 52 yX12_fits ∈ gTbl ∧ Cond.selects yX12_fits.cls yX12_fits yX12_fits ∈ gTbl ∧ ∃ r, vwCl[11]? = some r ∧ r.1 = yX12_fits.cls := ⟨cs_X12_fits, (gt5 106 rfl rfl), (gt5 105 rfl rfl), (gt5 107 rfl rfl), _, rfl, rfl⟩
theorem sv_RX12_109 : CS mX12_countsOfSet 1 ∧ Cond.instanceMethod yX12_countsOfSet ∈ gTbl ∧ Cond.methodLink RX12 109 yX12_countsOfSet ∈ gTbl ∧ Cond.selects yX12_countsOfSet.cls yX12_countsOfSet yX12_countsOfSet ∈ gTbl ∧ ∃ r, vwCl[11]? = some r ∧ r.1 = yX12_countsOfSet.cls := ⟨cs_X12_countsOfSet, (gt5 111 rfl rfl), (gt5 109 rfl rfl), (gtS 26 rfl rfl), _, rfl, rfl⟩
theorem sv_RX12_112 : CS mX12_priceOfSet 1 ∧ Cond.instanceMethod yX12_priceOfSet ∈ gTbl ∧ Cond.methodLink RX12 112 yX12_priceOfSet ∈ gTbl ∧ Cond.selects yX12_priceOfSet.cls yX12_priceOfSet yX12_priceOfSet ∈ gTbl ∧ ∃ r, vwCl[11]? = some r ∧ r.1 = yX12_priceOfSet.cls := ⟨cs_X12_priceOfSet, (gt5 115 rfl rfl), (gt5 113 rfl rfl), (gtS 27 rfl rfl), _, rfl, rfl⟩
theorem ss_RX12_115 : CS mJ6_bitCount_0f7a4 1 ∧ Cond.static yJ6_bitCount_0f7a4 ∈ gTbl ∧ (Cond.methodLink RX12 115 yJ6_bitCount_0f7a4 ∈ gTbl ∨ (RX12, 115, yJ6_bitCount_0f7a4) ∈ mnTbl) := ⟨cs_J6_bitCount_0f7a4, (gt2 176 rfl rfl), (Or.inl (gt5 117 rfl rfl))⟩
theorem sv_RL_56 : CS mX12_sums 1 ∧ Cond.instanceMethod yX12_sums ∈ gTbl ∧ Cond.methodLink RL 56 yX12_sums ∈ gTbl ∧ Cond.selects yX12_sums.cls yX12_sums yX12_sums ∈ gTbl ∧ ∃ r, vwCl[11]? = some r ∧ r.1 = yX12_sums.cls := ⟨cs_X12_sums, (gt5 119 rfl rfl), (gt5 118 rfl rfl), (gt5 120 rfl rfl), _, rfl, rfl⟩
theorem sv_RL_60 : CS mX12_nearest 1 ∧ Cond.instanceMethod yX12_nearest ∈ gTbl ∧ Cond.methodLink RL 60 yX12_nearest ∈ gTbl ∧ Cond.selects yX12_nearest.cls yX12_nearest yX12_nearest ∈ gTbl ∧ ∃ r, vwCl[11]? = some r ∧ r.1 = yX12_nearest.cls := ⟨cs_X12_nearest, (gt5 123 rfl rfl), (gt5 122 rfl rfl), (gt5 124 rfl rfl), _, rfl, rfl⟩
theorem sk_RX12_120 : Cond.constant RX12 120 (1000000000) ∈ gTbl := (gt5 126 rfl rfl)
theorem ss_RX12_121 : CS mJ9_abs_0f7a4 1 ∧ Cond.static yJ9_abs_0f7a4 ∈ gTbl ∧ (Cond.methodLink RX12 121 yJ9_abs_0f7a4 ∈ gTbl ∨ (RX12, 121, yJ9_abs_0f7a4) ∈ mnTbl) := ⟨cs_J9_abs_0f7a4, (gt2 194 rfl rfl), (Or.inl (gt5 127 rfl rfl))⟩
theorem sv_RL_64 : CS mX12_least 3 ∧ Cond.instanceMethod yX12_least ∈ gTbl ∧ Cond.methodLink RL 64 yX12_least ∈ gTbl ∧ Cond.selects yX12_least.cls yX12_least yX12_least ∈ gTbl ∧ ∃ r, vwCl[11]? = some r ∧ r.1 = yX12_least.cls := ⟨cs_X12_least, (gt5 129 rfl rfl), (gt5 128 rfl rfl), (gt5 130 rfl rfl), _, rfl, rfl⟩
theorem sv_RX12_150 : CS mX12_isSet 1 ∧ Cond.instanceMethod yX12_isSet ∈ gTbl ∧ Cond.methodLink RX12 150 yX12_isSet ∈ gTbl ∧ Cond.selects yX12_isSet.cls yX12_isSet yX12_isSet ∈ gTbl ∧ ∃ r, vwCl[11]? = some r ∧ r.1 = yX12_isSet.cls := ⟨cs_X12_isSet, (gt5 134 rfl rfl), (gt5 132 rfl rfl), (gtS 28 rfl rfl), _, rfl, rfl⟩
theorem ss_RX12_153 : CS mX12_isPress 1 ∧ Cond.static yX12_isPress ∈ gTbl ∧ (Cond.methodLink RX12 153 yX12_isPress ∈ gTbl ∨ (RX12, 153, yX12_isPress) ∈ mnTbl) := ⟨cs_X12_isPress, (gt5 137 rfl rfl), (Or.inl (gt5 136 rfl rfl))⟩
theorem sv_RX12_156 : CS mX12_rounds 3 ∧ Cond.instanceMethod yX12_rounds ∈ gTbl ∧ Cond.methodLink RX12 156 yX12_rounds ∈ gTbl ∧ Cond.selects yX12_rounds.cls yX12_rounds yX12_rounds ∈ gTbl ∧ ∃ r, vwCl[11]? = some r ∧ r.1 = yX12_rounds.cls := ⟨cs_X12_rounds, (gt5 141 rfl rfl), (gt5 139 rfl rfl), (gtS 29 rfl rfl), _, rfl, rfl⟩
theorem sv_RX12_146 : CS mX12_goesRound 4 ∧ Cond.instanceMethod yX12_goesRound ∈ gTbl ∧ Cond.methodLink RX12 146 yX12_goesRound ∈ gTbl ∧ Cond.selects yX12_goesRound.cls yX12_goesRound yX12_goesRound ∈ gTbl ∧ ∃ r, vwCl[11]? = some r ∧ r.1 = yX12_goesRound.cls := ⟨cs_X12_goesRound, (gt5 145 rfl rfl), (gt5 143 rfl rfl), (gtS 30 rfl rfl), _, rfl, rfl⟩
theorem sv_RX12_131 : CS mX12_leakOf 2 ∧ Cond.instanceMethod yX12_leakOf ∈ gTbl ∧ Cond.methodLink RX12 131 yX12_leakOf ∈ gTbl ∧ Cond.selects yX12_leakOf.cls yX12_leakOf yX12_leakOf ∈ gTbl ∧ ∃ r, vwCl[11]? = some r ∧ r.1 = yX12_leakOf.cls := ⟨cs_X12_leakOf, (gt5 149 rfl rfl), (gt5 147 rfl rfl), (gtS 31 rfl rfl), _, rfl, rfl⟩
theorem sv_RX12_127 : CS mX12_gap 2 ∧ Cond.instanceMethod yX12_gap ∈ gTbl ∧ Cond.methodLink RX12 127 yX12_gap ∈ gTbl ∧ Cond.selects yX12_gap.cls yX12_gap yX12_gap ∈ gTbl ∧ ∃ r, vwCl[11]? = some r ∧ r.1 = yX12_gap.cls := ⟨cs_X12_gap, (gt5 153 rfl rfl), (gt5 151 rfl rfl), (gtS 32 rfl rfl), _, rfl, rfl⟩
theorem ss_RX12_140 : CS mJ9_min_7cf53 2 ∧ Cond.static yJ9_min_7cf53 ∈ gTbl ∧ (Cond.methodLink RX12 140 yJ9_min_7cf53 ∈ gTbl ∨ (RX12, 140, yJ9_min_7cf53) ∈ mnTbl) := ⟨cs_J9_min_7cf53, (gt3 9 rfl rfl), (Or.inl (gt5 155 rfl rfl))⟩
theorem sv_RL_68 : CS mX12_leak 2 ∧ Cond.instanceMethod yX12_leak ∈ gTbl ∧ Cond.methodLink RL 68 yX12_leak ∈ gTbl ∧ Cond.selects yX12_leak.cls yX12_leak yX12_leak ∈ gTbl ∧ ∃ r, vwCl[11]? = some r ∧ r.1 = yX12_leak.cls := ⟨cs_X12_leak, (gt5 157 rfl rfl), (gt5 156 rfl rfl), (gt5 158 rfl rfl), _, rfl, rfl⟩
theorem sv_RX12_160 : CS mX12_isRing 1 ∧ Cond.instanceMethod yX12_isRing ∈ gTbl ∧ Cond.methodLink RX12 160 yX12_isRing ∈ gTbl ∧ Cond.selects yX12_isRing.cls yX12_isRing yX12_isRing ∈ gTbl ∧ ∃ r, vwCl[11]? = some r ∧ r.1 = yX12_isRing.cls := ⟨cs_X12_isRing, (gt5 162 rfl rfl), (gt5 160 rfl rfl), (gtS 33 rfl rfl), _, rfl, rfl⟩
theorem sv_RL_72 : CS mX12_worst 3 ∧ Cond.instanceMethod yX12_worst ∈ gTbl ∧ Cond.methodLink RL 72 yX12_worst ∈ gTbl ∧ Cond.selects yX12_worst.cls yX12_worst yX12_worst ∈ gTbl ∧ ∃ r, vwCl[11]? = some r ∧ r.1 = yX12_worst.cls := ⟨cs_X12_worst, (gt5 165 rfl rfl), (gt5 164 rfl rfl), (gt5 166 rfl rfl), _, rfl, rfl⟩
theorem sv_RL_76 : CS mX12_rings 3 ∧ Cond.instanceMethod yX12_rings ∈ gTbl ∧ Cond.methodLink RL 76 yX12_rings ∈ gTbl ∧ Cond.selects yX12_rings.cls yX12_rings yX12_rings ∈ gTbl ∧ ∃ r, vwCl[11]? = some r ∧ r.1 = yX12_rings.cls := ⟨cs_X12_rings, (gt5 169 rfl rfl), (gt5 168 rfl rfl), (gt5 170 rfl rfl), _, rfl, rfl⟩
theorem sv_RL_80 : CS mX12_girth 1 ∧ Cond.instanceMethod yX12_girth ∈ gTbl ∧ Cond.methodLink RL 80 yX12_girth ∈ gTbl ∧ Cond.selects yX12_girth.cls yX12_girth yX12_girth ∈ gTbl ∧ ∃ r, vwCl[11]? = some r ∧ r.1 = yX12_girth.cls := ⟨cs_X12_girth, (gt5 173 rfl rfl), (gt5 172 rfl rfl), (gt5 174 rfl rfl), _, rfl, rfl⟩
theorem sv_RX12_163 : CS mX12_girthAt 1 ∧ Cond.instanceMethod yX12_girthAt ∈ gTbl ∧ Cond.methodLink RX12 163 yX12_girthAt ∈ gTbl ∧ Cond.selects yX12_girthAt.cls yX12_girthAt yX12_girthAt ∈ gTbl ∧ ∃ r, vwCl[11]? = some r ∧ r.1 = yX12_girthAt.cls := ⟨cs_X12_girthAt, (gt5 178 rfl rfl), (gt5 176 rfl rfl), (gtS 34 rfl rfl), _, rfl, rfl⟩
theorem sv_RL_84 : CS mX12_ofHoop 2 ∧ Cond.instanceMethod yX12_ofHoop ∈ gTbl ∧ Cond.methodLink RL 84 yX12_ofHoop ∈ gTbl ∧ Cond.selects yX12_ofHoop.cls yX12_ofHoop yX12_ofHoop ∈ gTbl ∧ ∃ r, vwCl[11]? = some r ∧ r.1 = yX12_ofHoop.cls := ⟨cs_X12_ofHoop, (gt5 181 rfl rfl), (gt5 180 rfl rfl), (gt5 182 rfl rfl), _, rfl, rfl⟩
theorem sv_RX12_169 : CS mX12_hasHoop 1 ∧ Cond.instanceMethod yX12_hasHoop ∈ gTbl ∧ Cond.methodLink RX12 169 yX12_hasHoop ∈ gTbl ∧ Cond.selects yX12_hasHoop.cls yX12_hasHoop yX12_hasHoop ∈ gTbl ∧ ∃ r, vwCl[11]? = some r ∧ r.1 = yX12_hasHoop.cls := ⟨cs_X12_hasHoop, (gt5 186 rfl rfl), (gt5 184 rfl rfl), (gtS 35 rfl rfl), _, rfl, rfl⟩
theorem sv_RX12_172 : CS mX12_settles 0 ∧ Cond.instanceMethod yX12_settles ∈ gTbl ∧ Cond.methodLink RX12 172 yX12_settles ∈ gTbl ∧ Cond.selects yX12_settles.cls yX12_settles yX12_settles ∈ gTbl ∧ ∃ r, vwCl[11]? = some r ∧ r.1 = yX12_settles.cls := ⟨cs_X12_settles, (gt5 190 rfl rfl), (gt5 188 rfl rfl), (gtS 36 rfl rfl), _, rfl, rfl⟩
theorem sv_RX12_166 : CS mX12_gripOf 1 ∧ Cond.instanceMethod yX12_gripOf ∈ gTbl ∧ Cond.methodLink RX12 166 yX12_gripOf ∈ gTbl ∧ Cond.selects yX12_gripOf.cls yX12_gripOf yX12_gripOf ∈ gTbl ∧ ∃ r, vwCl[11]? = some r ∧ r.1 = yX12_gripOf.cls := ⟨cs_X12_gripOf, (gt5 194 rfl rfl), (gt5 192 rfl rfl), (gtS 37 rfl rfl), _, rfl, rfl⟩
theorem sv_RX12_175 : CS mX12_pressOf 1 ∧ Cond.instanceMethod yX12_pressOf ∈ gTbl ∧ Cond.methodLink RX12 175 yX12_pressOf ∈ gTbl ∧ Cond.selects yX12_pressOf.cls yX12_pressOf yX12_pressOf ∈ gTbl ∧ ∃ r, vwCl[11]? = some r ∧ r.1 = yX12_pressOf.cls := ⟨cs_X12_pressOf, (gt5 198 rfl rfl), (gt5 196 rfl rfl), (gtS 38 rfl rfl), _, rfl, rfl⟩
theorem sv_RL_88 : CS mX12_press 1 ∧ Cond.instanceMethod yX12_press ∈ gTbl ∧ Cond.methodLink RL 88 yX12_press ∈ gTbl ∧ Cond.selects yX12_press.cls yX12_press yX12_press ∈ gTbl ∧ ∃ r, vwCl[11]? = some r ∧ r.1 = yX12_press.cls := ⟨cs_X12_press, (gt5 201 rfl rfl), (gt5 200 rfl rfl), (gt5 202 rfl rfl), _, rfl, rfl⟩
theorem sv_RX12_178 : CS mX12_pressAt 1 ∧ Cond.instanceMethod yX12_pressAt ∈ gTbl ∧ Cond.methodLink RX12 178 yX12_pressAt ∈ gTbl ∧ Cond.selects yX12_pressAt.cls yX12_pressAt yX12_pressAt ∈ gTbl ∧ ∃ r, vwCl[11]? = some r ∧ r.1 = yX12_pressAt.cls := ⟨cs_X12_pressAt, (gt5 206 rfl rfl), (gt5 204 rfl rfl), (gtS 39 rfl rfl), _, rfl, rfl⟩
theorem sv_RL_92 : CS mX12_wet 1 ∧ Cond.instanceMethod yX12_wet ∈ gTbl ∧ Cond.methodLink RL 92 yX12_wet ∈ gTbl ∧ Cond.selects yX12_wet.cls yX12_wet yX12_wet ∈ gTbl ∧ ∃ r, vwCl[11]? = some r ∧ r.1 = yX12_wet.cls := ⟨cs_X12_wet, (gt5 209 rfl rfl), (gt5 208 rfl rfl), (gt5 210 rfl rfl), _, rfl, rfl⟩
theorem sv_RX12_181 : CS mX12_wetNow 0 ∧ Cond.instanceMethod yX12_wetNow ∈ gTbl ∧ Cond.methodLink RX12 181 yX12_wetNow ∈ gTbl ∧ Cond.selects yX12_wetNow.cls yX12_wetNow yX12_wetNow ∈ gTbl ∧ ∃ r, vwCl[11]? = some r ∧ r.1 = yX12_wetNow.cls := ⟨cs_X12_wetNow, (gt5 214 rfl rfl), (gt5 212 rfl rfl), (gtS 40 rfl rfl), _, rfl, rfl⟩
theorem sv_RL_96 : CS mX12_driest 2 ∧ Cond.instanceMethod yX12_driest ∈ gTbl ∧ Cond.methodLink RL 96 yX12_driest ∈ gTbl ∧ Cond.selects yX12_driest.cls yX12_driest yX12_driest ∈ gTbl ∧ ∃ r, vwCl[11]? = some r ∧ r.1 = yX12_driest.cls := ⟨cs_X12_driest, (gt5 217 rfl rfl), (gt5 216 rfl rfl), (gt5 218 rfl rfl), _, rfl, rfl⟩
theorem sv_RL_100 : CS mX12_head 2 ∧ Cond.instanceMethod yX12_head ∈ gTbl ∧ Cond.methodLink RL 100 yX12_head ∈ gTbl ∧ Cond.selects yX12_head.cls yX12_head yX12_head ∈ gTbl ∧ ∃ r, vwCl[11]? = some r ∧ r.1 = yX12_head.cls := ⟨cs_X12_head, (gt5 221 rfl rfl), (gt5 220 rfl rfl), (gt5 222 rfl rfl), _, rfl, rfl⟩
theorem sv_RX12_205 : CS mX12_saws 1 ∧ Cond.instanceMethod yX12_saws ∈ gTbl ∧ Cond.methodLink RX12 205 yX12_saws ∈ gTbl ∧ Cond.selects yX12_saws.cls yX12_saws yX12_saws ∈ gTbl ∧ ∃ r, vwCl[11]? = some r ∧ r.1 = yX12_saws.cls := ⟨cs_X12_saws, (gt5 226 rfl rfl), (gt5 224 rfl rfl), (gtS 41 rfl rfl), _, rfl, rfl⟩
theorem sv_RX12_201 : CS mX12_goesOn 5 ∧ Cond.instanceMethod yX12_goesOn ∈ gTbl ∧ Cond.methodLink RX12 201 yX12_goesOn ∈ gTbl ∧ Cond.selects yX12_goesOn.cls yX12_goesOn yX12_goesOn ∈ gTbl ∧ ∃ r, vwCl[11]? = some r ∧ r.1 = yX12_goesOn.cls := ⟨cs_X12_goesOn, (gt5 230 rfl rfl), (gt5 228 rfl rfl), (gtS 42 rfl rfl), _, rfl, rfl⟩
theorem sv_RX12_197 : CS mX12_usedBy 3 ∧ Cond.instanceMethod yX12_usedBy ∈ gTbl ∧ Cond.methodLink RX12 197 yX12_usedBy ∈ gTbl ∧ Cond.selects yX12_usedBy.cls yX12_usedBy yX12_usedBy ∈ gTbl ∧ ∃ r, vwCl[11]? = some r ∧ r.1 = yX12_usedBy.cls := ⟨cs_X12_usedBy, (gt5 234 rfl rfl), (gt5 232 rfl rfl), (gtS 43 rfl rfl), _, rfl, rfl⟩
theorem sv_RL_104 : CS mX12_used 2 ∧ Cond.instanceMethod yX12_used ∈ gTbl ∧ Cond.methodLink RL 104 yX12_used ∈ gTbl ∧ Cond.selects yX12_used.cls yX12_used yX12_used ∈ gTbl ∧ ∃ r, vwCl[11]? = some r ∧ r.1 = yX12_used.cls := ⟨cs_X12_used, (gt5 237 rfl rfl), (gt5 236 rfl rfl), (gt5 238 rfl rfl), _, rfl, rfl⟩
theorem sv_RL_108 : CS mX12_heads 1 ∧ Cond.instanceMethod yX12_heads ∈ gTbl ∧ Cond.methodLink RL 108 yX12_heads ∈ gTbl ∧ Cond.selects yX12_heads.cls yX12_heads yX12_heads ∈ gTbl ∧ ∃ r, vwCl[11]? = some r ∧ r.1 = yX12_heads.cls := ⟨cs_X12_heads, (gt6 1 rfl rfl), (gt6 0 rfl rfl), (gt6 2 rfl rfl), _, rfl, rfl⟩
theorem sv_RL_112 : CS mX12_feed 1 ∧ Cond.instanceMethod yX12_feed ∈ gTbl ∧ Cond.methodLink RL 112 yX12_feed ∈ gTbl ∧ Cond.selects yX12_feed.cls yX12_feed yX12_feed ∈ gTbl ∧ ∃ r, vwCl[11]? = some r ∧ r.1 = yX12_feed.cls := ⟨cs_X12_feed, (gt6 5 rfl rfl), (gt6 4 rfl rfl), (gt6 6 rfl rfl), _, rfl, rfl⟩
theorem sv_RL_117 : CS mX12_read 0 ∧ Cond.instanceMethod yX12_read ∈ gTbl ∧ Cond.methodLink RL 117 yX12_read ∈ gTbl ∧ Cond.selects yX12_read.cls yX12_read yX12_read ∈ gTbl ∧ ∃ r, vwCl[11]? = some r ∧ r.1 = yX12_read.cls := ⟨cs_X12_read, (gt6 9 rfl rfl), (gt6 8 rfl rfl), (gt6 10 rfl rfl), _, rfl, rfl⟩
theorem sv_RX12_243 : CS mX12_reads 0 ∧ Cond.instanceMethod yX12_reads ∈ gTbl ∧ Cond.methodLink RX12 243 yX12_reads ∈ gTbl ∧ Cond.selects yX12_reads.cls yX12_reads yX12_reads ∈ gTbl ∧ ∃ r, vwCl[11]? = some r ∧ r.1 = yX12_reads.cls := ⟨cs_X12_reads, (gt6 14 rfl rfl), (gt6 12 rfl rfl), (gtS 44 rfl rfl), _, rfl, rfl⟩
theorem ss_RX12_221 : CS mX12_numbers 1 ∧ Cond.static yX12_numbers ∈ gTbl ∧ (Cond.methodLink RX12 221 yX12_numbers ∈ gTbl ∨ (RX12, 221, yX12_numbers) ∈ mnTbl) := ⟨cs_X12_numbers, (gt6 17 rfl rfl), (Or.inl (gt6 16 rfl rfl))⟩
theorem sv_RX12_218 : CS mX12_wrong 0 ∧ Cond.instanceMethod yX12_wrong ∈ gTbl ∧ Cond.methodLink RX12 218 yX12_wrong ∈ gTbl ∧ Cond.selects yX12_wrong.cls yX12_wrong yX12_wrong ∈ gTbl ∧ ∃ r, vwCl[11]? = some r ∧ r.1 = yX12_wrong.cls := ⟨cs_X12_wrong, (gt6 21 rfl rfl), (gt6 19 rfl rfl), (gtS 45 rfl rfl), _, rfl, rfl⟩
theorem sv_RX12_215 : CS mX12_isFrom 2 ∧ Cond.instanceMethod yX12_isFrom ∈ gTbl ∧ Cond.methodLink RX12 215 yX12_isFrom ∈ gTbl ∧ Cond.selects yX12_isFrom.cls yX12_isFrom yX12_isFrom ∈ gTbl ∧ ∃ r, vwCl[11]? = some r ∧ r.1 = yX12_isFrom.cls := ⟨cs_X12_isFrom, (gt6 25 rfl rfl), (gt6 23 rfl rfl), (gtS 46 rfl rfl), _, rfl, rfl⟩
theorem sv_RX12_227 : CS mX12_number 0 ∧ Cond.instanceMethod yX12_number ∈ gTbl ∧ Cond.methodLink RX12 227 yX12_number ∈ gTbl ∧ Cond.selects yX12_number.cls yX12_number yX12_number ∈ gTbl ∧ ∃ r, vwCl[11]? = some r ∧ r.1 = yX12_number.cls := ⟨cs_X12_number, (gt6 29 rfl rfl), (gt6 27 rfl rfl), (gtS 47 rfl rfl), _, rfl, rfl⟩
theorem ss_RX12_246 : CS mX12_pours 2 ∧ Cond.static yX12_pours ∈ gTbl ∧ (Cond.methodLink RX12 246 yX12_pours ∈ gTbl ∨ (RX12, 246, yX12_pours) ∈ mnTbl) := ⟨cs_X12_pours, (gt6 32 rfl rfl), (Or.inl (gt6 31 rfl rfl))⟩
theorem sv_RX12_250 : CS mX12_does 1 ∧ Cond.instanceMethod yX12_does ∈ gTbl ∧ Cond.methodLink RX12 250 yX12_does ∈ gTbl ∧ Cond.selects yX12_does.cls yX12_does yX12_does ∈ gTbl ∧ ∃ r, vwCl[11]? = some r ∧ r.1 = yX12_does.cls := ⟨cs_X12_does, (gt6 36 rfl rfl), (gt6 34 rfl rfl), (gtS 48 rfl rfl), _, rfl, rfl⟩
theorem sv_RX12_230 : CS mX12_stave 4 ∧ Cond.instanceMethod yX12_stave ∈ gTbl ∧ Cond.methodLink RX12 230 yX12_stave ∈ gTbl ∧ Cond.selects yX12_stave.cls yX12_stave yX12_stave ∈ gTbl ∧ ∃ r, vwCl[11]? = some r ∧ r.1 = yX12_stave.cls := ⟨cs_X12_stave, (gt5 38 rfl rfl), (gt6 38 rfl rfl), (gt5 39 rfl rfl), _, rfl, rfl⟩
theorem sv_RX12_234 : CS mX12_hoop 3 ∧ Cond.instanceMethod yX12_hoop ∈ gTbl ∧ Cond.methodLink RX12 234 yX12_hoop ∈ gTbl ∧ Cond.selects yX12_hoop.cls yX12_hoop yX12_hoop ∈ gTbl ∧ ∃ r, vwCl[11]? = some r ∧ r.1 = yX12_hoop.cls := ⟨cs_X12_hoop, (gt5 48 rfl rfl), (gt6 39 rfl rfl), (gt5 49 rfl rfl), _, rfl, rfl⟩
theorem sv_RX12_237 : CS mX12_board 1 ∧ Cond.instanceMethod yX12_board ∈ gTbl ∧ Cond.methodLink RX12 237 yX12_board ∈ gTbl ∧ Cond.selects yX12_board.cls yX12_board yX12_board ∈ gTbl ∧ ∃ r, vwCl[11]? = some r ∧ r.1 = yX12_board.cls := ⟨cs_X12_board, (gt5 55 rfl rfl), (gt6 40 rfl rfl), (gt5 56 rfl rfl), _, rfl, rfl⟩
theorem sv_RX12_240 : CS mX12_rule 2 ∧ Cond.instanceMethod yX12_rule ∈ gTbl ∧ Cond.methodLink RX12 240 yX12_rule ∈ gTbl ∧ Cond.selects yX12_rule.cls yX12_rule yX12_rule ∈ gTbl ∧ ∃ r, vwCl[11]? = some r ∧ r.1 = yX12_rule.cls := ⟨cs_X12_rule, (gt5 59 rfl rfl), (gt6 41 rfl rfl), (gt5 60 rfl rfl), _, rfl, rfl⟩
theorem sv_RL_121 : CS mX12_hang 3 ∧ Cond.instanceMethod yX12_hang ∈ gTbl ∧ Cond.methodLink RL 121 yX12_hang ∈ gTbl ∧ Cond.selects yX12_hang.cls yX12_hang yX12_hang ∈ gTbl ∧ ∃ r, vwCl[11]? = some r ∧ r.1 = yX12_hang.cls := ⟨cs_X12_hang, (gt6 43 rfl rfl), (gt6 42 rfl rfl), (gt6 44 rfl rfl), _, rfl, rfl⟩
theorem ss_RX12_253 : CS mX12_isPeg 1 ∧ Cond.static yX12_isPeg ∈ gTbl ∧ (Cond.methodLink RX12 253 yX12_isPeg ∈ gTbl ∨ (RX12, 253, yX12_isPeg) ∈ mnTbl) := ⟨cs_X12_isPeg, (gt6 47 rfl rfl), (Or.inl (gt6 46 rfl rfl))⟩
theorem sv_RL_125 : CS mX12_tray 3 ∧ Cond.instanceMethod yX12_tray ∈ gTbl ∧ Cond.methodLink RL 125 yX12_tray ∈ gTbl ∧ Cond.selects yX12_tray.cls yX12_tray yX12_tray ∈ gTbl ∧ ∃ r, vwCl[11]? = some r ∧ r.1 = yX12_tray.cls := ⟨cs_X12_tray, (gt6 50 rfl rfl), (gt6 49 rfl rfl), (gt6 51 rfl rfl), _, rfl, rfl⟩
theorem sv_RL_129 : CS mX12_held 1 ∧ Cond.instanceMethod yX12_held ∈ gTbl ∧ Cond.methodLink RL 129 yX12_held ∈ gTbl ∧ Cond.selects yX12_held.cls yX12_held yX12_held ∈ gTbl ∧ ∃ r, vwCl[11]? = some r ∧ r.1 = yX12_held.cls := ⟨cs_X12_held, (gt6 54 rfl rfl), (gt6 53 rfl rfl), (gt6 55 rfl rfl), _, rfl, rfl⟩
theorem sv_RL_133 : CS mX12_as 3 ∧ Cond.instanceMethod yX12_as ∈ gTbl ∧ Cond.methodLink RL 133 yX12_as ∈ gTbl ∧ Cond.selects yX12_as.cls yX12_as yX12_as ∈ gTbl ∧ ∃ r, vwCl[11]? = some r ∧ r.1 = yX12_as.cls := ⟨cs_X12_as, (gt6 58 rfl rfl), (gt6 57 rfl rfl), (gt6 59 rfl rfl), _, rfl, rfl⟩
theorem ss_RX12_256 : CS mX12_isUnder 3 ∧ Cond.static yX12_isUnder ∈ gTbl ∧ (Cond.methodLink RX12 256 yX12_isUnder ∈ gTbl ∨ (RX12, 256, yX12_isUnder) ∈ mnTbl) := ⟨cs_X12_isUnder, (gt6 62 rfl rfl), (Or.inl (gt6 61 rfl rfl))⟩
theorem sv_RL_140 : CS mX12_put 3 ∧ Cond.instanceMethod yX12_put ∈ gTbl ∧ Cond.methodLink RL 140 yX12_put ∈ gTbl ∧ Cond.selects yX12_put.cls yX12_put yX12_put ∈ gTbl ∧ ∃ r, vwCl[11]? = some r ∧ r.1 = yX12_put.cls := ⟨cs_X12_put, (gt6 65 rfl rfl), (gt6 64 rfl rfl), (gt6 66 rfl rfl), _, rfl, rfl⟩
theorem sv_RX12_259 : CS mX12_isNoTray 1 ∧ Cond.instanceMethod yX12_isNoTray ∈ gTbl ∧ Cond.methodLink RX12 259 yX12_isNoTray ∈ gTbl ∧ Cond.selects yX12_isNoTray.cls yX12_isNoTray yX12_isNoTray ∈ gTbl ∧ ∃ r, vwCl[11]? = some r ∧ r.1 = yX12_isNoTray.cls := ⟨cs_X12_isNoTray, (gt6 70 rfl rfl), (gt6 68 rfl rfl), (gtS 49 rfl rfl), _, rfl, rfl⟩
theorem sv_RX12_262 : CS mX12_lays 3 ∧ Cond.instanceMethod yX12_lays ∈ gTbl ∧ Cond.methodLink RX12 262 yX12_lays ∈ gTbl ∧ Cond.selects yX12_lays.cls yX12_lays yX12_lays ∈ gTbl ∧ ∃ r, vwCl[11]? = some r ∧ r.1 = yX12_lays.cls := ⟨cs_X12_lays, (gt6 74 rfl rfl), (gt6 72 rfl rfl), (gtS 50 rfl rfl), _, rfl, rfl⟩
theorem sv_RL_145 : CS mX12_get 2 ∧ Cond.instanceMethod yX12_get ∈ gTbl ∧ Cond.methodLink RL 145 yX12_get ∈ gTbl ∧ Cond.selects yX12_get.cls yX12_get yX12_get ∈ gTbl ∧ ∃ r, vwCl[11]? = some r ∧ r.1 = yX12_get.cls := ⟨cs_X12_get, (gt6 77 rfl rfl), (gt6 76 rfl rfl), (gt6 78 rfl rfl), _, rfl, rfl⟩
theorem sk_RX12_266 : Cond.constantLong RX12 266 (-9223372036854775808) ∈ gTbl := (gt6 80 rfl rfl)
theorem sv_RL_149 : CS mX12_fill 3 ∧ Cond.instanceMethod yX12_fill ∈ gTbl ∧ Cond.methodLink RL 149 yX12_fill ∈ gTbl ∧ Cond.selects yX12_fill.cls yX12_fill yX12_fill ∈ gTbl ∧ ∃ r, vwCl[11]? = some r ∧ r.1 = yX12_fill.cls := ⟨cs_X12_fill, (gt6 82 rfl rfl), (gt6 81 rfl rfl), (gt6 83 rfl rfl), _, rfl, rfl⟩
theorem sv_RL_153 : CS mX12_judge 3 ∧ Cond.instanceMethod yX12_judge ∈ gTbl ∧ Cond.methodLink RL 153 yX12_judge ∈ gTbl ∧ Cond.selects yX12_judge.cls yX12_judge yX12_judge ∈ gTbl ∧ ∃ r, vwCl[11]? = some r ∧ r.1 = yX12_judge.cls := ⟨cs_X12_judge, (gt6 86 rfl rfl), (gt6 85 rfl rfl), (gt6 87 rfl rfl), _, rfl, rfl⟩
theorem sv_RL_158 : CS mX12_move 5 ∧ Cond.instanceMethod yX12_move ∈ gTbl ∧ Cond.methodLink RL 158 yX12_move ∈ gTbl ∧ Cond.selects yX12_move.cls yX12_move yX12_move ∈ gTbl ∧ ∃ r, vwCl[11]? = some r ∧ r.1 = yX12_move.cls := ⟨cs_X12_move, (gt6 90 rfl rfl), (gt6 89 rfl rfl), (gt6 91 rfl rfl), _, rfl, rfl⟩
theorem sv_RL_162 : CS mX12_image 0 ∧ Cond.instanceMethod yX12_image ∈ gTbl ∧ Cond.methodLink RL 162 yX12_image ∈ gTbl ∧ Cond.selects yX12_image.cls yX12_image yX12_image ∈ gTbl ∧ ∃ r, vwCl[11]? = some r ∧ r.1 = yX12_image.cls := ⟨cs_X12_image, (gt6 94 rfl rfl), (gt6 93 rfl rfl), (gt6 95 rfl rfl), _, rfl, rfl⟩
theorem sv_RL_166 : CS mX12_undo 0 ∧ Cond.instanceMethod yX12_undo ∈ gTbl ∧ Cond.methodLink RL 166 yX12_undo ∈ gTbl ∧ Cond.selects yX12_undo.cls yX12_undo yX12_undo ∈ gTbl ∧ ∃ r, vwCl[11]? = some r ∧ r.1 = yX12_undo.cls := ⟨cs_X12_undo, (gt6 98 rfl rfl), (gt6 97 rfl rfl), (gt6 99 rfl rfl), _, rfl, rfl⟩
theorem sk_RL_134 : Cond.constantLong RL 134 (4294967295) ∈ gTbl := (gt6 101 rfl rfl)
end
