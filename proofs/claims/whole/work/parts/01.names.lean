-- ===== PART A: goes FIRST, ahead of the names: the tables' words, and 'selects' of the private methods out of them =====
/-- a private method of a class that the tables say can be made, by its rows of tables_1 -/
def lw_okq (q : MethodName × Nat) : Prop := (q.1.cls ≠ "java/lang/invoke/MethodHandle" ∧ q.1.cls ≠ "java/lang/invoke/VarHandle") ∧ Cond.instantiable q.1.cls q.2 ∈ tables_1 ∧ Cond.privateMethod q.1 ∈ tables_1 ∧ Cond.instanceMethod q.1 ∈ tables_1
theorem lw_p0 : lw_okq (⟨"HoopYard", "isRingSet", "(I)Z"⟩, 10) := ⟨⟨by decide +kernel, by decide +kernel⟩, List.mem_of_getElem? (i := 19) (by decide +kernel), List.mem_of_getElem? (i := 441) (by decide +kernel), List.mem_of_getElem? (i := 442) (by decide +kernel)⟩
theorem lw_p1 : lw_okq (⟨"HoopYard$RingBench", "choose", "(LHoopYard$Stock;II)V"⟩, 6) := ⟨⟨by decide +kernel, by decide +kernel⟩, List.mem_of_getElem? (i := 130) (by decide +kernel), List.mem_of_getElem? (i := 453) (by decide +kernel), List.mem_of_getElem? (i := 454) (by decide +kernel)⟩
theorem lw_p2 : lw_okq (⟨"HoopYard$RingBench", "weigh", "(Z)V"⟩, 6) := ⟨⟨by decide +kernel, by decide +kernel⟩, List.mem_of_getElem? (i := 130) (by decide +kernel), List.mem_of_getElem? (i := 470) (by decide +kernel), List.mem_of_getElem? (i := 471) (by decide +kernel)⟩
theorem lw_p3 : lw_okq (⟨"HoopYard$RingBench", "allButFirst", "()I"⟩, 6) := ⟨⟨by decide +kernel, by decide +kernel⟩, List.mem_of_getElem? (i := 130) (by decide +kernel), List.mem_of_getElem? (i := 474) (by decide +kernel), List.mem_of_getElem? (i := 475) (by decide +kernel)⟩
theorem lw_p4 : lw_okq (⟨"HoopYard$RingBench", "leastOnward", "(IIZ)I"⟩, 6) := ⟨⟨by decide +kernel, by decide +kernel⟩, List.mem_of_getElem? (i := 130) (by decide +kernel), List.mem_of_getElem? (i := 481) (by decide +kernel), List.mem_of_getElem? (i := 482) (by decide +kernel)⟩
theorem lw_p5 : lw_okq (⟨"HoopYard$RingBench", "firstOfLeast", "(II)I"⟩, 6) := ⟨⟨by decide +kernel, by decide +kernel⟩, List.mem_of_getElem? (i := 130) (by decide +kernel), List.mem_of_getElem? (i := 491) (by decide +kernel), List.mem_of_getElem? (i := 492) (by decide +kernel)⟩
theorem lw_p6 : lw_okq (⟨"HoopYard$RingBench", "measureGaps", "(LHoopYard$Stock;)V"⟩, 6) := ⟨⟨by decide +kernel, by decide +kernel⟩, List.mem_of_getElem? (i := 130) (by decide +kernel), List.mem_of_getElem? (i := 495) (by decide +kernel), List.mem_of_getElem? (i := 496) (by decide +kernel)⟩
theorem lw_p7 : lw_okq (⟨"HoopYard", "ofResting", "(LHoopYard$Hoop;II)I"⟩, 10) := ⟨⟨by decide +kernel, by decide +kernel⟩, List.mem_of_getElem? (i := 19) (by decide +kernel), List.mem_of_getElem? (i := 565) (by decide +kernel), List.mem_of_getElem? (i := 566) (by decide +kernel)⟩
theorem lw_p8 : lw_okq (⟨"HoopYard$Cask", "addPress", "(LHoopYard$Hoop;II)V"⟩, 2) := ⟨⟨by decide +kernel, by decide +kernel⟩, List.mem_of_getElem? (i := 158) (by decide +kernel), List.mem_of_getElem? (i := 586) (by decide +kernel), List.mem_of_getElem? (i := 587) (by decide +kernel)⟩
theorem lw_p9 : lw_okq (⟨"HoopYard$Cask", "howManyWetWith", "(III)I"⟩, 2) := ⟨⟨by decide +kernel, by decide +kernel⟩, List.mem_of_getElem? (i := 158) (by decide +kernel), List.mem_of_getElem? (i := 632) (by decide +kernel), List.mem_of_getElem? (i := 633) (by decide +kernel)⟩
theorem lw_p10 : lw_okq (⟨"HoopYard$HeadBench", "leastOnward", "(I)I"⟩, 6) := ⟨⟨by decide +kernel, by decide +kernel⟩, List.mem_of_getElem? (i := 173) (by decide +kernel), List.mem_of_getElem? (i := 659) (by decide +kernel), List.mem_of_getElem? (i := 660) (by decide +kernel)⟩
theorem lw_p11 : lw_okq (⟨"HoopYard$HeadBench", "spentFrom", "(II)I"⟩, 6) := ⟨⟨by decide +kernel, by decide +kernel⟩, List.mem_of_getElem? (i := 173) (by decide +kernel), List.mem_of_getElem? (i := 664) (by decide +kernel), List.mem_of_getElem? (i := 665) (by decide +kernel)⟩
theorem lw_p12 : lw_okq (⟨"HoopYard$HeadBench", "firstOfLeast", "(I)I"⟩, 6) := ⟨⟨by decide +kernel, by decide +kernel⟩, List.mem_of_getElem? (i := 173) (by decide +kernel), List.mem_of_getElem? (i := 678) (by decide +kernel), List.mem_of_getElem? (i := 679) (by decide +kernel)⟩
theorem lw_p13 : lw_okq (⟨"HoopYard$HeadBench", "howManyOnward", "(I)I"⟩, 6) := ⟨⟨by decide +kernel, by decide +kernel⟩, List.mem_of_getElem? (i := 173) (by decide +kernel), List.mem_of_getElem? (i := 699) (by decide +kernel), List.mem_of_getElem? (i := 700) (by decide +kernel)⟩
theorem lw_p14 : lw_okq (⟨"HoopYard$Tape", "parseStatement", "(I)Z"⟩, 7) := ⟨⟨by decide +kernel, by decide +kernel⟩, List.mem_of_getElem? (i := 78) (by decide +kernel), List.mem_of_getElem? (i := 719) (by decide +kernel), List.mem_of_getElem? (i := 720) (by decide +kernel)⟩
theorem lw_p15 : lw_okq (⟨"HoopYard$Tape", "peek", "()I"⟩, 7) := ⟨⟨by decide +kernel, by decide +kernel⟩, List.mem_of_getElem? (i := 78) (by decide +kernel), List.mem_of_getElem? (i := 723) (by decide +kernel), List.mem_of_getElem? (i := 724) (by decide +kernel)⟩
def lw_privs_1 : List (MethodName × Nat) := [(⟨"HoopYard", "isRingSet", "(I)Z"⟩, 10), (⟨"HoopYard$RingBench", "choose", "(LHoopYard$Stock;II)V"⟩, 6), (⟨"HoopYard$RingBench", "weigh", "(Z)V"⟩, 6), (⟨"HoopYard$RingBench", "allButFirst", "()I"⟩, 6), (⟨"HoopYard$RingBench", "leastOnward", "(IIZ)I"⟩, 6), (⟨"HoopYard$RingBench", "firstOfLeast", "(II)I"⟩, 6), (⟨"HoopYard$RingBench", "measureGaps", "(LHoopYard$Stock;)V"⟩, 6), (⟨"HoopYard", "ofResting", "(LHoopYard$Hoop;II)I"⟩, 10), (⟨"HoopYard$Cask", "addPress", "(LHoopYard$Hoop;II)V"⟩, 2), (⟨"HoopYard$Cask", "howManyWetWith", "(III)I"⟩, 2), (⟨"HoopYard$HeadBench", "leastOnward", "(I)I"⟩, 6), (⟨"HoopYard$HeadBench", "spentFrom", "(II)I"⟩, 6), (⟨"HoopYard$HeadBench", "firstOfLeast", "(I)I"⟩, 6), (⟨"HoopYard$HeadBench", "howManyOnward", "(I)I"⟩, 6), (⟨"HoopYard$Tape", "parseStatement", "(I)Z"⟩, 7), (⟨"HoopYard$Tape", "peek", "()I"⟩, 7)]
theorem lw_r1 : ∀ q ∈ lw_privs_1, lw_okq q := List.forall_mem_cons.mpr ⟨lw_p0, List.forall_mem_cons.mpr ⟨lw_p1, List.forall_mem_cons.mpr ⟨lw_p2, List.forall_mem_cons.mpr ⟨lw_p3, List.forall_mem_cons.mpr ⟨lw_p4, List.forall_mem_cons.mpr ⟨lw_p5, List.forall_mem_cons.mpr ⟨lw_p6, List.forall_mem_cons.mpr ⟨lw_p7, List.forall_mem_cons.mpr ⟨lw_p8, List.forall_mem_cons.mpr ⟨lw_p9, List.forall_mem_cons.mpr ⟨lw_p10, List.forall_mem_cons.mpr ⟨lw_p11, List.forall_mem_cons.mpr ⟨lw_p12, List.forall_mem_cons.mpr ⟨lw_p13, List.forall_mem_cons.mpr ⟨lw_p14, List.forall_mem_cons.mpr ⟨lw_p15, fun _ h => absurd h List.not_mem_nil⟩⟩⟩⟩⟩⟩⟩⟩⟩⟩⟩⟩⟩⟩⟩⟩
theorem lw_p16 : lw_okq (⟨"HoopYard$Tape", "pass", "(I)Z"⟩, 7) := ⟨⟨by decide +kernel, by decide +kernel⟩, List.mem_of_getElem? (i := 78) (by decide +kernel), List.mem_of_getElem? (i := 730) (by decide +kernel), List.mem_of_getElem? (i := 731) (by decide +kernel)⟩
theorem lw_p17 : lw_okq (⟨"HoopYard$Tape", "parseNumber", "(II)Z"⟩, 7) := ⟨⟨by decide +kernel, by decide +kernel⟩, List.mem_of_getElem? (i := 78) (by decide +kernel), List.mem_of_getElem? (i := 734) (by decide +kernel), List.mem_of_getElem? (i := 735) (by decide +kernel)⟩
theorem lw_p18 : lw_okq (⟨"HoopYard", "trayOn", "(I)LHoopYard$Tray;"⟩, 10) := ⟨⟨by decide +kernel, by decide +kernel⟩, List.mem_of_getElem? (i := 19) (by decide +kernel), List.mem_of_getElem? (i := 836) (by decide +kernel), List.mem_of_getElem? (i := 837) (by decide +kernel)⟩
theorem lw_p19 : lw_okq (⟨"HoopYard", "lackOfTray", "(I)I"⟩, 10) := ⟨⟨by decide +kernel, by decide +kernel⟩, List.mem_of_getElem? (i := 19) (by decide +kernel), List.mem_of_getElem? (i := 840) (by decide +kernel), List.mem_of_getElem? (i := 841) (by decide +kernel)⟩
theorem lw_p20 : lw_okq (⟨"HoopYard", "lackForRing", "(III)I"⟩, 10) := ⟨⟨by decide +kernel, by decide +kernel⟩, List.mem_of_getElem? (i := 19) (by decide +kernel), List.mem_of_getElem? (i := 862) (by decide +kernel), List.mem_of_getElem? (i := 863) (by decide +kernel)⟩
theorem lw_p21 : lw_okq (⟨"HoopYardModel", "hasStave", "(I)Z"⟩, 30) := ⟨⟨by decide +kernel, by decide +kernel⟩, List.mem_of_getElem? (i := 900) (by decide +kernel), List.mem_of_getElem? (i := 1033) (by decide +kernel), List.mem_of_getElem? (i := 1034) (by decide +kernel)⟩
theorem lw_p22 : lw_okq (⟨"HoopYardModel", "countsOf", "(I)I"⟩, 30) := ⟨⟨by decide +kernel, by decide +kernel⟩, List.mem_of_getElem? (i := 900) (by decide +kernel), List.mem_of_getElem? (i := 1037) (by decide +kernel), List.mem_of_getElem? (i := 1038) (by decide +kernel)⟩
theorem lw_p23 : lw_okq (⟨"HoopYardModel", "edgeOf", "(I)I"⟩, 30) := ⟨⟨by decide +kernel, by decide +kernel⟩, List.mem_of_getElem? (i := 900) (by decide +kernel), List.mem_of_getElem? (i := 1042) (by decide +kernel), List.mem_of_getElem? (i := 1043) (by decide +kernel)⟩
theorem lw_p24 : lw_okq (⟨"HoopYardModel", "priceOf", "(I)I"⟩, 30) := ⟨⟨by decide +kernel, by decide +kernel⟩, List.mem_of_getElem? (i := 900) (by decide +kernel), List.mem_of_getElem? (i := 1046) (by decide +kernel), List.mem_of_getElem? (i := 1047) (by decide +kernel)⟩
theorem lw_p25 : lw_okq (⟨"HoopYardModel", "sagOf", "(I)I"⟩, 30) := ⟨⟨by decide +kernel, by decide +kernel⟩, List.mem_of_getElem? (i := 900) (by decide +kernel), List.mem_of_getElem? (i := 1050) (by decide +kernel), List.mem_of_getElem? (i := 1051) (by decide +kernel)⟩
theorem lw_p26 : lw_okq (⟨"HoopYardModel", "countsOfSet", "(I)I"⟩, 30) := ⟨⟨by decide +kernel, by decide +kernel⟩, List.mem_of_getElem? (i := 900) (by decide +kernel), List.mem_of_getElem? (i := 1069) (by decide +kernel), List.mem_of_getElem? (i := 1070) (by decide +kernel)⟩
theorem lw_p27 : lw_okq (⟨"HoopYardModel", "priceOfSet", "(I)I"⟩, 30) := ⟨⟨by decide +kernel, by decide +kernel⟩, List.mem_of_getElem? (i := 900) (by decide +kernel), List.mem_of_getElem? (i := 1073) (by decide +kernel), List.mem_of_getElem? (i := 1074) (by decide +kernel)⟩
theorem lw_p28 : lw_okq (⟨"HoopYardModel", "isSet", "(I)Z"⟩, 30) := ⟨⟨by decide +kernel, by decide +kernel⟩, List.mem_of_getElem? (i := 900) (by decide +kernel), List.mem_of_getElem? (i := 1092) (by decide +kernel), List.mem_of_getElem? (i := 1093) (by decide +kernel)⟩
theorem lw_p29 : lw_okq (⟨"HoopYardModel", "rounds", "(III)V"⟩, 30) := ⟨⟨by decide +kernel, by decide +kernel⟩, List.mem_of_getElem? (i := 900) (by decide +kernel), List.mem_of_getElem? (i := 1099) (by decide +kernel), List.mem_of_getElem? (i := 1100) (by decide +kernel)⟩
theorem lw_p30 : lw_okq (⟨"HoopYardModel", "goesRound", "(IIII)V"⟩, 30) := ⟨⟨by decide +kernel, by decide +kernel⟩, List.mem_of_getElem? (i := 900) (by decide +kernel), List.mem_of_getElem? (i := 1103) (by decide +kernel), List.mem_of_getElem? (i := 1104) (by decide +kernel)⟩
theorem lw_p31 : lw_okq (⟨"HoopYardModel", "leakOf", "([II)I"⟩, 30) := ⟨⟨by decide +kernel, by decide +kernel⟩, List.mem_of_getElem? (i := 900) (by decide +kernel), List.mem_of_getElem? (i := 1107) (by decide +kernel), List.mem_of_getElem? (i := 1108) (by decide +kernel)⟩
def lw_privs_2 : List (MethodName × Nat) := [(⟨"HoopYard$Tape", "pass", "(I)Z"⟩, 7), (⟨"HoopYard$Tape", "parseNumber", "(II)Z"⟩, 7), (⟨"HoopYard", "trayOn", "(I)LHoopYard$Tray;"⟩, 10), (⟨"HoopYard", "lackOfTray", "(I)I"⟩, 10), (⟨"HoopYard", "lackForRing", "(III)I"⟩, 10), (⟨"HoopYardModel", "hasStave", "(I)Z"⟩, 30), (⟨"HoopYardModel", "countsOf", "(I)I"⟩, 30), (⟨"HoopYardModel", "edgeOf", "(I)I"⟩, 30), (⟨"HoopYardModel", "priceOf", "(I)I"⟩, 30), (⟨"HoopYardModel", "sagOf", "(I)I"⟩, 30), (⟨"HoopYardModel", "countsOfSet", "(I)I"⟩, 30), (⟨"HoopYardModel", "priceOfSet", "(I)I"⟩, 30), (⟨"HoopYardModel", "isSet", "(I)Z"⟩, 30), (⟨"HoopYardModel", "rounds", "(III)V"⟩, 30), (⟨"HoopYardModel", "goesRound", "(IIII)V"⟩, 30), (⟨"HoopYardModel", "leakOf", "([II)I"⟩, 30)]
theorem lw_r2 : ∀ q ∈ lw_privs_2, lw_okq q := List.forall_mem_cons.mpr ⟨lw_p16, List.forall_mem_cons.mpr ⟨lw_p17, List.forall_mem_cons.mpr ⟨lw_p18, List.forall_mem_cons.mpr ⟨lw_p19, List.forall_mem_cons.mpr ⟨lw_p20, List.forall_mem_cons.mpr ⟨lw_p21, List.forall_mem_cons.mpr ⟨lw_p22, List.forall_mem_cons.mpr ⟨lw_p23, List.forall_mem_cons.mpr ⟨lw_p24, List.forall_mem_cons.mpr ⟨lw_p25, List.forall_mem_cons.mpr ⟨lw_p26, List.forall_mem_cons.mpr ⟨lw_p27, List.forall_mem_cons.mpr ⟨lw_p28, List.forall_mem_cons.mpr ⟨lw_p29, List.forall_mem_cons.mpr ⟨lw_p30, List.forall_mem_cons.mpr ⟨lw_p31, fun _ h => absurd h List.not_mem_nil⟩⟩⟩⟩⟩⟩⟩⟩⟩⟩⟩⟩⟩⟩⟩⟩
theorem lw_p32 : lw_okq (⟨"HoopYardModel", "gap", "([II)I"⟩, 30) := ⟨⟨by decide +kernel, by decide +kernel⟩, List.mem_of_getElem? (i := 900) (by decide +kernel), List.mem_of_getElem? (i := 1111) (by decide +kernel), List.mem_of_getElem? (i := 1112) (by decide +kernel)⟩
theorem lw_p33 : lw_okq (⟨"HoopYardModel", "isRing", "(I)Z"⟩, 30) := ⟨⟨by decide +kernel, by decide +kernel⟩, List.mem_of_getElem? (i := 900) (by decide +kernel), List.mem_of_getElem? (i := 1120) (by decide +kernel), List.mem_of_getElem? (i := 1121) (by decide +kernel)⟩
theorem lw_p34 : lw_okq (⟨"HoopYardModel", "girthAt", "(I)I"⟩, 30) := ⟨⟨by decide +kernel, by decide +kernel⟩, List.mem_of_getElem? (i := 900) (by decide +kernel), List.mem_of_getElem? (i := 1136) (by decide +kernel), List.mem_of_getElem? (i := 1137) (by decide +kernel)⟩
theorem lw_p35 : lw_okq (⟨"HoopYardModel", "hasHoop", "(I)Z"⟩, 30) := ⟨⟨by decide +kernel, by decide +kernel⟩, List.mem_of_getElem? (i := 900) (by decide +kernel), List.mem_of_getElem? (i := 1144) (by decide +kernel), List.mem_of_getElem? (i := 1145) (by decide +kernel)⟩
theorem lw_p36 : lw_okq (⟨"HoopYardModel", "settles", "()V"⟩, 30) := ⟨⟨by decide +kernel, by decide +kernel⟩, List.mem_of_getElem? (i := 900) (by decide +kernel), List.mem_of_getElem? (i := 1148) (by decide +kernel), List.mem_of_getElem? (i := 1149) (by decide +kernel)⟩
theorem lw_p37 : lw_okq (⟨"HoopYardModel", "gripOf", "(I)I"⟩, 30) := ⟨⟨by decide +kernel, by decide +kernel⟩, List.mem_of_getElem? (i := 900) (by decide +kernel), List.mem_of_getElem? (i := 1152) (by decide +kernel), List.mem_of_getElem? (i := 1153) (by decide +kernel)⟩
theorem lw_p38 : lw_okq (⟨"HoopYardModel", "pressOf", "(I)I"⟩, 30) := ⟨⟨by decide +kernel, by decide +kernel⟩, List.mem_of_getElem? (i := 900) (by decide +kernel), List.mem_of_getElem? (i := 1156) (by decide +kernel), List.mem_of_getElem? (i := 1157) (by decide +kernel)⟩
theorem lw_p39 : lw_okq (⟨"HoopYardModel", "pressAt", "(I)I"⟩, 30) := ⟨⟨by decide +kernel, by decide +kernel⟩, List.mem_of_getElem? (i := 900) (by decide +kernel), List.mem_of_getElem? (i := 1164) (by decide +kernel), List.mem_of_getElem? (i := 1165) (by decide +kernel)⟩
theorem lw_p40 : lw_okq (⟨"HoopYardModel", "wetNow", "()I"⟩, 30) := ⟨⟨by decide +kernel, by decide +kernel⟩, List.mem_of_getElem? (i := 900) (by decide +kernel), List.mem_of_getElem? (i := 1172) (by decide +kernel), List.mem_of_getElem? (i := 1173) (by decide +kernel)⟩
theorem lw_p41 : lw_okq (⟨"HoopYardModel", "saws", "(I)V"⟩, 30) := ⟨⟨by decide +kernel, by decide +kernel⟩, List.mem_of_getElem? (i := 900) (by decide +kernel), List.mem_of_getElem? (i := 1184) (by decide +kernel), List.mem_of_getElem? (i := 1185) (by decide +kernel)⟩
theorem lw_p42 : lw_okq (⟨"HoopYardModel", "goesOn", "(IIIII)V"⟩, 30) := ⟨⟨by decide +kernel, by decide +kernel⟩, List.mem_of_getElem? (i := 900) (by decide +kernel), List.mem_of_getElem? (i := 1188) (by decide +kernel), List.mem_of_getElem? (i := 1189) (by decide +kernel)⟩
theorem lw_p43 : lw_okq (⟨"HoopYardModel", "usedBy", "(III)I"⟩, 30) := ⟨⟨by decide +kernel, by decide +kernel⟩, List.mem_of_getElem? (i := 900) (by decide +kernel), List.mem_of_getElem? (i := 1192) (by decide +kernel), List.mem_of_getElem? (i := 1193) (by decide +kernel)⟩
theorem lw_p44 : lw_okq (⟨"HoopYardModel", "reads", "()V"⟩, 30) := ⟨⟨by decide +kernel, by decide +kernel⟩, List.mem_of_getElem? (i := 900) (by decide +kernel), List.mem_of_getElem? (i := 1212) (by decide +kernel), List.mem_of_getElem? (i := 1213) (by decide +kernel)⟩
theorem lw_p45 : lw_okq (⟨"HoopYardModel", "wrong", "()V"⟩, 30) := ⟨⟨by decide +kernel, by decide +kernel⟩, List.mem_of_getElem? (i := 900) (by decide +kernel), List.mem_of_getElem? (i := 1219) (by decide +kernel), List.mem_of_getElem? (i := 1220) (by decide +kernel)⟩
theorem lw_p46 : lw_okq (⟨"HoopYardModel", "isFrom", "(II)Z"⟩, 30) := ⟨⟨by decide +kernel, by decide +kernel⟩, List.mem_of_getElem? (i := 900) (by decide +kernel), List.mem_of_getElem? (i := 1223) (by decide +kernel), List.mem_of_getElem? (i := 1224) (by decide +kernel)⟩
theorem lw_p47 : lw_okq (⟨"HoopYardModel", "number", "()I"⟩, 30) := ⟨⟨by decide +kernel, by decide +kernel⟩, List.mem_of_getElem? (i := 900) (by decide +kernel), List.mem_of_getElem? (i := 1227) (by decide +kernel), List.mem_of_getElem? (i := 1228) (by decide +kernel)⟩
def lw_privs_3 : List (MethodName × Nat) := [(⟨"HoopYardModel", "gap", "([II)I"⟩, 30), (⟨"HoopYardModel", "isRing", "(I)Z"⟩, 30), (⟨"HoopYardModel", "girthAt", "(I)I"⟩, 30), (⟨"HoopYardModel", "hasHoop", "(I)Z"⟩, 30), (⟨"HoopYardModel", "settles", "()V"⟩, 30), (⟨"HoopYardModel", "gripOf", "(I)I"⟩, 30), (⟨"HoopYardModel", "pressOf", "(I)I"⟩, 30), (⟨"HoopYardModel", "pressAt", "(I)I"⟩, 30), (⟨"HoopYardModel", "wetNow", "()I"⟩, 30), (⟨"HoopYardModel", "saws", "(I)V"⟩, 30), (⟨"HoopYardModel", "goesOn", "(IIIII)V"⟩, 30), (⟨"HoopYardModel", "usedBy", "(III)I"⟩, 30), (⟨"HoopYardModel", "reads", "()V"⟩, 30), (⟨"HoopYardModel", "wrong", "()V"⟩, 30), (⟨"HoopYardModel", "isFrom", "(II)Z"⟩, 30), (⟨"HoopYardModel", "number", "()I"⟩, 30)]
theorem lw_r3 : ∀ q ∈ lw_privs_3, lw_okq q := List.forall_mem_cons.mpr ⟨lw_p32, List.forall_mem_cons.mpr ⟨lw_p33, List.forall_mem_cons.mpr ⟨lw_p34, List.forall_mem_cons.mpr ⟨lw_p35, List.forall_mem_cons.mpr ⟨lw_p36, List.forall_mem_cons.mpr ⟨lw_p37, List.forall_mem_cons.mpr ⟨lw_p38, List.forall_mem_cons.mpr ⟨lw_p39, List.forall_mem_cons.mpr ⟨lw_p40, List.forall_mem_cons.mpr ⟨lw_p41, List.forall_mem_cons.mpr ⟨lw_p42, List.forall_mem_cons.mpr ⟨lw_p43, List.forall_mem_cons.mpr ⟨lw_p44, List.forall_mem_cons.mpr ⟨lw_p45, List.forall_mem_cons.mpr ⟨lw_p46, List.forall_mem_cons.mpr ⟨lw_p47, fun _ h => absurd h List.not_mem_nil⟩⟩⟩⟩⟩⟩⟩⟩⟩⟩⟩⟩⟩⟩⟩⟩
theorem lw_p48 : lw_okq (⟨"HoopYardModel", "does", "(I)Z"⟩, 30) := ⟨⟨by decide +kernel, by decide +kernel⟩, List.mem_of_getElem? (i := 900) (by decide +kernel), List.mem_of_getElem? (i := 1234) (by decide +kernel), List.mem_of_getElem? (i := 1235) (by decide +kernel)⟩
theorem lw_p49 : lw_okq (⟨"HoopYardModel", "isNoTray", "(I)I"⟩, 30) := ⟨⟨by decide +kernel, by decide +kernel⟩, List.mem_of_getElem? (i := 900) (by decide +kernel), List.mem_of_getElem? (i := 1268) (by decide +kernel), List.mem_of_getElem? (i := 1269) (by decide +kernel)⟩
theorem lw_p50 : lw_okq (⟨"HoopYardModel", "lays", "(IIJ)V"⟩, 30) := ⟨⟨by decide +kernel, by decide +kernel⟩, List.mem_of_getElem? (i := 900) (by decide +kernel), List.mem_of_getElem? (i := 1272) (by decide +kernel), List.mem_of_getElem? (i := 1273) (by decide +kernel)⟩
def lw_privs_4 : List (MethodName × Nat) := [(⟨"HoopYardModel", "does", "(I)Z"⟩, 30), (⟨"HoopYardModel", "isNoTray", "(I)I"⟩, 30), (⟨"HoopYardModel", "lays", "(IIJ)V"⟩, 30)]
theorem lw_r4 : ∀ q ∈ lw_privs_4, lw_okq q := List.forall_mem_cons.mpr ⟨lw_p48, List.forall_mem_cons.mpr ⟨lw_p49, List.forall_mem_cons.mpr ⟨lw_p50, fun _ h => absurd h List.not_mem_nil⟩⟩⟩
def lw_privs : List (MethodName × Nat) := lw_privs_1 ++ (lw_privs_2 ++ (lw_privs_3 ++ (lw_privs_4)))
def lw_tbl : List Cond := k2_sels lw_privs ++ tables_1
theorem lw_privs_ok : ∀ q ∈ lw_privs, lw_okq q := by
  show ∀ q ∈ lw_privs_1 ++ (lw_privs_2 ++ (lw_privs_3 ++ (lw_privs_4))), lw_okq q
  exact List.forall_mem_append.mpr ⟨lw_r1, List.forall_mem_append.mpr ⟨lw_r2, List.forall_mem_append.mpr ⟨lw_r3, lw_r4⟩⟩⟩
def RX0 : String := "HoopYard$Board"
def TX0 : u_T := fun k => match k with
  | _ => ("HoopYard$Board", "width", "I", true)
def tyX0 : Nat → FieldType := fun k => match k with
  | _ => .int
abbrev wsX00 : List Cond := u_ws RX0 TX0 1
theorem nmX0 : ∀ a, a < 1 → ∀ b, b < 1 → a ≠ b → (TX0 a).2.1 ≠ (TX0 b).2.1 := by decide +kernel
theorem tyX0_ok : ∀ k, k < 1 → parseFieldDescriptor (TX0 k).2.2.1 = some (tyX0 k) := by decide +kernel
abbrev cX0_init : ByteArray := prog_2_method_1_code
def yX0_init : MethodName := ⟨RX0, "<init>", "(I)V"⟩
abbrev cX0_canBe : ByteArray := prog_2_method_2_code
def yX0_canBe : MethodName := ⟨RX0, "canBe", "(I)Z"⟩
abbrev cX0_toldAs : ByteArray := prog_2_method_3_code
def yX0_toldAs : MethodName := ⟨RX0, "toldAs", "()I"⟩
def RX1 : String := "HoopYard$Cask"
def TX1 : u_T := fun k => match k with
  | 0 => ("HoopYard$Cask", "depths", "[I", true)
  | _ => ("HoopYard$Cask", "pressing", "[I", true)
def tyX1 : Nat → FieldType := fun k => match k with
  | 0 => .array .int
  | _ => .array .int
abbrev wsX10 : List Cond := u_ws RX1 TX1 2
theorem nmX1 : ∀ a, a < 2 → ∀ b, b < 2 → a ≠ b → (TX1 a).2.1 ≠ (TX1 b).2.1 := by decide +kernel
theorem tyX1_ok : ∀ k, k < 2 → parseFieldDescriptor (TX1 k).2.2.1 = some (tyX1 k) := by decide +kernel
abbrev cX1_init : ByteArray := prog_3_method_1_code
def yX1_init : MethodName := ⟨RX1, "<init>", "()V"⟩
abbrev cX1_girthAt : ByteArray := prog_3_method_2_code
def yX1_girthAt : MethodName := ⟨RX1, "girthAt", "(LHoopYard$Stock;I)I"⟩
abbrev cX1_heightOf : ByteArray := prog_3_method_3_code
def yX1_heightOf : MethodName := ⟨RX1, "heightOf", "(II)I"⟩
abbrev cX1_drive : ByteArray := prog_3_method_4_code
def yX1_drive : MethodName := ⟨RX1, "drive", "(LHoopYard$Stock;)V"⟩
abbrev cX1_addPress : ByteArray := prog_3_method_5_code
def yX1_addPress : MethodName := ⟨RX1, "addPress", "(LHoopYard$Hoop;II)V"⟩
abbrev cX1_restDepth : ByteArray := prog_3_method_6_code
def yX1_restDepth : MethodName := ⟨RX1, "restDepth", "(LHoopYard$Stock;III)I"⟩
abbrev cX1_gripAt : ByteArray := prog_3_method_7_code
def yX1_gripAt : MethodName := ⟨RX1, "gripAt", "(LHoopYard$Stock;II)I"⟩
abbrev cX1_pressFrom : ByteArray := prog_3_method_8_code
def yX1_pressFrom : MethodName := ⟨RX1, "pressFrom", "(III)I"⟩
abbrev cX1_capped : ByteArray := prog_3_method_9_code
def yX1_capped : MethodName := ⟨RX1, "capped", "(I)I"⟩
abbrev cX1_wetBelow : ByteArray := prog_3_method_10_code
def yX1_wetBelow : MethodName := ⟨RX1, "wetBelow", "(I)I"⟩
abbrev cX1_driestSize : ByteArray := prog_3_method_11_code
def yX1_driestSize : MethodName := ⟨RX1, "driestSize", "(LHoopYard$Stock;II)I"⟩
abbrev cX1_howManyWetWith : ByteArray := prog_3_method_12_code
def yX1_howManyWetWith : MethodName := ⟨RX1, "howManyWetWith", "(III)I"⟩
def RX2 : String := "HoopYard$HeadBench"
def TX2 : u_T := fun k => match k with
  | 0 => ("HoopYard$HeadBench", "widths", "[I", true)
  | 1 => ("HoopYard$HeadBench", "row", "[I", true)
  | 2 => ("HoopYard$HeadBench", "ends", "[I", true)
  | 3 => ("HoopYard$HeadBench", "rest", "[I", true)
  | 4 => ("HoopYard$HeadBench", "boards", "I", false)
  | _ => ("HoopYard$HeadBench", "radius", "I", false)
def tyX2 : Nat → FieldType := fun k => match k with
  | 0 => .array .int
  | 1 => .array .int
  | 2 => .array .int
  | 3 => .array .int
  | 4 => .int
  | _ => .int
abbrev wsX20 : List Cond := u_ws RX2 TX2 6
theorem nmX2 : ∀ a, a < 6 → ∀ b, b < 6 → a ≠ b → (TX2 a).2.1 ≠ (TX2 b).2.1 := by decide +kernel
theorem tyX2_ok : ∀ k, k < 6 → parseFieldDescriptor (TX2 k).2.2.1 = some (tyX2 k) := by decide +kernel
abbrev cX2_init : ByteArray := prog_4_method_1_code
def yX2_init : MethodName := ⟨RX2, "<init>", "()V"⟩
abbrev cX2_measure : ByteArray := prog_4_method_2_code
def yX2_measure : MethodName := ⟨RX2, "measure", "(LHoopYard$Stock;I)V"⟩
abbrev cX2_isDone : ByteArray := prog_4_method_3_code
def yX2_isDone : MethodName := ⟨RX2, "isDone", "(I)Z"⟩
abbrev cX2_spentOn : ByteArray := prog_4_method_4_code
def yX2_spentOn : MethodName := ⟨RX2, "spentOn", "(II)I"⟩
abbrev cX2_leastSpent : ByteArray := prog_4_method_5_code
def yX2_leastSpent : MethodName := ⟨RX2, "leastSpent", "()I"⟩
abbrev cX2_leastOnward : ByteArray := prog_4_method_6_code
def yX2_leastOnward : MethodName := ⟨RX2, "leastOnward", "(I)I"⟩
abbrev cX2_spentFrom : ByteArray := prog_4_method_7_code
def yX2_spentFrom : MethodName := ⟨RX2, "spentFrom", "(II)I"⟩
abbrev cX2_leastDigits : ByteArray := prog_4_method_8_code
def yX2_leastDigits : MethodName := ⟨RX2, "leastDigits", "()I"⟩
abbrev cX2_firstOfLeast : ByteArray := prog_4_method_9_code
def yX2_firstOfLeast : MethodName := ⟨RX2, "firstOfLeast", "(I)I"⟩
abbrev cX2_spentBy : ByteArray := prog_4_method_10_code
def yX2_spentBy : MethodName := ⟨RX2, "spentBy", "(I)I"⟩
abbrev cX2_howMany : ByteArray := prog_4_method_11_code
def yX2_howMany : MethodName := ⟨RX2, "howMany", "()I"⟩
abbrev cX2_howManyOnward : ByteArray := prog_4_method_12_code
def yX2_howManyOnward : MethodName := ⟨RX2, "howManyOnward", "(I)I"⟩
def RX3 : String := "HoopYard$Hoop"
def TX3 : u_T := fun k => match k with
  | 0 => ("HoopYard$Hoop", "kind", "I", true)
  | 1 => ("HoopYard$Hoop", "size", "I", true)
  | _ => ("HoopYard$Hoop", "side", "I", true)
def tyX3 : Nat → FieldType := fun k => match k with
  | 0 => .int
  | 1 => .int
  | _ => .int
abbrev wsX30 : List Cond := u_ws RX3 TX3 3
theorem nmX3 : ∀ a, a < 3 → ∀ b, b < 3 → a ≠ b → (TX3 a).2.1 ≠ (TX3 b).2.1 := by decide +kernel
theorem tyX3_ok : ∀ k, k < 3 → parseFieldDescriptor (TX3 k).2.2.1 = some (tyX3 k) := by decide +kernel
abbrev cX3_init : ByteArray := prog_5_method_1_code
def yX3_init : MethodName := ⟨RX3, "<init>", "(III)V"⟩
abbrev cX3_canBe : ByteArray := prog_5_method_2_code
def yX3_canBe : MethodName := ⟨RX3, "canBe", "(III)Z"⟩
abbrev cX3_presses : ByteArray := prog_5_method_3_code
def yX3_presses : MethodName := ⟨RX3, "presses", "(II)I"⟩
abbrev cX3_toldAs : ByteArray := prog_5_method_4_code
def yX3_toldAs : MethodName := ⟨RX3, "toldAs", "()I"⟩
def RX4 : String := "HoopYard$RingBench"
def TX4 : u_T := fun k => match k with
  | 0 => ("HoopYard$RingBench", "chosen", "[I", true)
  | 1 => ("HoopYard$RingBench", "order", "[I", true)
  | 2 => ("HoopYard$RingBench", "gaps", "[I", true)
  | 3 => ("HoopYard$RingBench", "costs", "[[I", true)
  | 4 => ("HoopYard$RingBench", "onward", "[I", true)
  | _ => ("HoopYard$RingBench", "size", "I", false)
def tyX4 : Nat → FieldType := fun k => match k with
  | 0 => .array .int
  | 1 => .array .int
  | 2 => .array .int
  | 3 => .array (.array .int)
  | 4 => .array .int
  | _ => .int
abbrev wsX40 : List Cond := u_ws RX4 TX4 6
theorem nmX4 : ∀ a, a < 6 → ∀ b, b < 6 → a ≠ b → (TX4 a).2.1 ≠ (TX4 b).2.1 := by decide +kernel
theorem tyX4_ok : ∀ k, k < 6 → parseFieldDescriptor (TX4 k).2.2.1 = some (tyX4 k) := by decide +kernel
abbrev cX4_init : ByteArray := prog_6_method_1_code
def yX4_init : MethodName := ⟨RX4, "<init>", "()V"⟩
abbrev cX4_layTold : ByteArray := prog_6_method_2_code
def yX4_layTold : MethodName := ⟨RX4, "layTold", "(LHoopYard$Stock;I)Z"⟩
abbrev cX4_layLeast : ByteArray := prog_6_method_3_code
def yX4_layLeast : MethodName := ⟨RX4, "layLeast", "(LHoopYard$Stock;II)V"⟩
abbrev cX4_leakUnder : ByteArray := prog_6_method_4_code
def yX4_leakUnder : MethodName := ⟨RX4, "leakUnder", "(I)I"⟩
abbrev cX4_digits : ByteArray := prog_6_method_5_code
def yX4_digits : MethodName := ⟨RX4, "digits", "()I"⟩
abbrev cX4_jointOfRank : ByteArray := prog_6_method_6_code
def yX4_jointOfRank : MethodName := ⟨RX4, "jointOfRank", "(I)I"⟩
abbrev cX4_rankOf : ByteArray := prog_6_method_7_code
def yX4_rankOf : MethodName := ⟨RX4, "rankOf", "(I)I"⟩
abbrev cX4_howManyWithin : ByteArray := prog_6_method_8_code
def yX4_howManyWithin : MethodName := ⟨RX4, "howManyWithin", "(LHoopYard$Stock;III)I"⟩
abbrev cX4_tightPress : ByteArray := prog_6_method_9_code
def yX4_tightPress : MethodName := ⟨RX4, "tightPress", "(LHoopYard$Stock;I)I"⟩
abbrev cX4_measureGaps : ByteArray := prog_6_method_10_code
def yX4_measureGaps : MethodName := ⟨RX4, "measureGaps", "(LHoopYard$Stock;)V"⟩
abbrev cX4_gapOf : ByteArray := prog_6_method_11_code
def yX4_gapOf : MethodName := ⟨RX4, "gapOf", "(LHoopYard$Stock;II)I"⟩
abbrev cX4_edgeOf : ByteArray := prog_6_method_12_code
def yX4_edgeOf : MethodName := ⟨RX4, "edgeOf", "(LHoopYard$Stock;I)I"⟩
abbrev cX4_choose : ByteArray := prog_6_method_13_code
def yX4_choose : MethodName := ⟨RX4, "choose", "(LHoopYard$Stock;II)V"⟩
abbrev cX4_allButFirst : ByteArray := prog_6_method_14_code
def yX4_allButFirst : MethodName := ⟨RX4, "allButFirst", "()I"⟩
abbrev cX4_cellOf : ByteArray := prog_6_method_15_code
def yX4_cellOf : MethodName := ⟨RX4, "cellOf", "(II)I"⟩
abbrev cX4_weigh : ByteArray := prog_6_method_16_code
def yX4_weigh : MethodName := ⟨RX4, "weigh", "(Z)V"⟩
abbrev cX4_leastOnward : ByteArray := prog_6_method_17_code
def yX4_leastOnward : MethodName := ⟨RX4, "leastOnward", "(IIZ)I"⟩
abbrev cX4_firstOfLeast : ByteArray := prog_6_method_18_code
def yX4_firstOfLeast : MethodName := ⟨RX4, "firstOfLeast", "(II)I"⟩
abbrev cX4_countOnward : ByteArray := prog_6_method_19_code
def yX4_countOnward : MethodName := ⟨RX4, "countOnward", "([[IIIIII)I"⟩
def RX5 : String := "HoopYard$Rounds"
def TX5 : u_T := fun k => match k with
  | 0 => ("HoopYard$Rounds", "counts", "[I", true)
  | 1 => ("HoopYard$Rounds", "prices", "[I", true)
  | _ => ("HoopYard$Rounds", "sets", "I", false)
def tyX5 : Nat → FieldType := fun k => match k with
  | 0 => .array .int
  | 1 => .array .int
  | _ => .int
abbrev wsX50 : List Cond := u_ws RX5 TX5 3
theorem nmX5 : ∀ a, a < 3 → ∀ b, b < 3 → a ≠ b → (TX5 a).2.1 ≠ (TX5 b).2.1 := by decide +kernel
theorem tyX5_ok : ∀ k, k < 3 → parseFieldDescriptor (TX5 k).2.2.1 = some (tyX5 k) := by decide +kernel
abbrev cX5_init : ByteArray := prog_7_method_1_code
def yX5_init : MethodName := ⟨RX5, "<init>", "()V"⟩
abbrev cX5_addUp : ByteArray := prog_7_method_2_code
def yX5_addUp : MethodName := ⟨RX5, "addUp", "(LHoopYard$Stock;)V"⟩
abbrev cX5_howMany : ByteArray := prog_7_method_3_code
def yX5_howMany : MethodName := ⟨RX5, "howMany", "(II)I"⟩
abbrev cX5_bestBetween : ByteArray := prog_7_method_4_code
def yX5_bestBetween : MethodName := ⟨RX5, "bestBetween", "(II)I"⟩
abbrev cX5_isBetter : ByteArray := prog_7_method_5_code
def yX5_isBetter : MethodName := ⟨RX5, "isBetter", "(II)Z"⟩
abbrev cX5_closestTo : ByteArray := prog_7_method_6_code
def yX5_closestTo : MethodName := ⟨RX5, "closestTo", "(I)I"⟩
def RX6 : String := "HoopYard$Stave"
def TX6 : u_T := fun k => match k with
  | 0 => ("HoopYard$Stave", "kind", "I", true)
  | 1 => ("HoopYard$Stave", "width", "I", false)
  | 2 => ("HoopYard$Stave", "thick", "I", true)
  | _ => ("HoopYard$Stave", "bevel", "I", true)
def tyX6 : Nat → FieldType := fun k => match k with
  | 0 => .int
  | 1 => .int
  | 2 => .int
  | _ => .int
abbrev wsX60 : List Cond := u_ws RX6 TX6 4
theorem nmX6 : ∀ a, a < 4 → ∀ b, b < 4 → a ≠ b → (TX6 a).2.1 ≠ (TX6 b).2.1 := by decide +kernel
theorem tyX6_ok : ∀ k, k < 4 → parseFieldDescriptor (TX6 k).2.2.1 = some (tyX6 k) := by decide +kernel
abbrev cX6_init : ByteArray := prog_8_method_1_code
def yX6_init : MethodName := ⟨RX6, "<init>", "(IIII)V"⟩
abbrev cX6_canBe : ByteArray := prog_8_method_2_code
def yX6_canBe : MethodName := ⟨RX6, "canBe", "(IIII)Z"⟩
abbrev cX6_toldAs : ByteArray := prog_8_method_3_code
def yX6_toldAs : MethodName := ⟨RX6, "toldAs", "()I"⟩
abbrev cX6_twin : ByteArray := prog_8_method_4_code
def yX6_twin : MethodName := ⟨RX6, "twin", "()LHoopYard$Stave;"⟩
abbrev cX6_counts : ByteArray := prog_8_method_5_code
def yX6_counts : MethodName := ⟨RX6, "counts", "()I"⟩
abbrev cX6_edge : ByteArray := prog_8_method_6_code
def yX6_edge : MethodName := ⟨RX6, "edge", "()I"⟩
abbrev cX6_price : ByteArray := prog_8_method_7_code
def yX6_price : MethodName := ⟨RX6, "price", "()I"⟩
def RX7 : String := "HoopYard$Stock"
def TX7 : u_T := fun k => match k with
  | 0 => ("HoopYard$Stock", "staves", "[LHoopYard$Stave;", true)
  | 1 => ("HoopYard$Stock", "hoops", "[LHoopYard$Hoop;", true)
  | 2 => ("HoopYard$Stock", "boards", "[LHoopYard$Board;", true)
  | 3 => ("HoopYard$Stock", "rules", "[I", true)
  | 4 => ("HoopYard$Stock", "staveCount", "I", false)
  | 5 => ("HoopYard$Stock", "hoopCount", "I", false)
  | _ => ("HoopYard$Stock", "boardCount", "I", false)
def tyX7 : Nat → FieldType := fun k => match k with
  | 0 => .array (.object "HoopYard$Stave")
  | 1 => .array (.object "HoopYard$Hoop")
  | 2 => .array (.object "HoopYard$Board")
  | 3 => .array .int
  | 4 => .int
  | 5 => .int
  | _ => .int
abbrev wsX70 : List Cond := u_ws RX7 TX7 7
theorem nmX7 : ∀ a, a < 7 → ∀ b, b < 7 → a ≠ b → (TX7 a).2.1 ≠ (TX7 b).2.1 := by decide +kernel
theorem tyX7_ok : ∀ k, k < 7 → parseFieldDescriptor (TX7 k).2.2.1 = some (tyX7 k) := by decide +kernel
abbrev cX7_init : ByteArray := prog_9_method_1_code
def yX7_init : MethodName := ⟨RX7, "<init>", "()V"⟩
abbrev cX7_staveAt : ByteArray := prog_9_method_2_code
def yX7_staveAt : MethodName := ⟨RX7, "staveAt", "(I)LHoopYard$Stave;"⟩
abbrev cX7_hoopAt : ByteArray := prog_9_method_3_code
def yX7_hoopAt : MethodName := ⟨RX7, "hoopAt", "(I)LHoopYard$Hoop;"⟩
abbrev cX7_boardAt : ByteArray := prog_9_method_4_code
def yX7_boardAt : MethodName := ⟨RX7, "boardAt", "(I)LHoopYard$Board;"⟩
abbrev cX7_thingAt : ByteArray := prog_9_method_5_code
def yX7_thingAt : MethodName := ⟨RX7, "thingAt", "(II)LHoopYard$Thing;"⟩
abbrev cX7_addStave : ByteArray := prog_9_method_6_code
def yX7_addStave : MethodName := ⟨RX7, "addStave", "(LHoopYard$Stave;)I"⟩
abbrev cX7_addHoop : ByteArray := prog_9_method_7_code
def yX7_addHoop : MethodName := ⟨RX7, "addHoop", "(LHoopYard$Hoop;)I"⟩
abbrev cX7_addBoard : ByteArray := prog_9_method_8_code
def yX7_addBoard : MethodName := ⟨RX7, "addBoard", "(LHoopYard$Board;)I"⟩
abbrev cX7_dropStave : ByteArray := prog_9_method_9_code
def yX7_dropStave : MethodName := ⟨RX7, "dropStave", "()I"⟩
abbrev cX7_dropHoop : ByteArray := prog_9_method_10_code
def yX7_dropHoop : MethodName := ⟨RX7, "dropHoop", "()I"⟩
abbrev cX7_dropBoard : ByteArray := prog_9_method_11_code
def yX7_dropBoard : MethodName := ⟨RX7, "dropBoard", "()I"⟩
abbrev cX7_becomeLike : ByteArray := prog_9_method_12_code
def yX7_becomeLike : MethodName := ⟨RX7, "becomeLike", "(LHoopYard$Stock;)V"⟩
def RX8 : String := "HoopYard$Tape"
def TX8 : u_T := fun k => match k with
  | 0 => ("HoopYard$Tape", "bytes", "[B", true)
  | 1 => ("HoopYard$Tape", "letters", "[I", true)
  | 2 => ("HoopYard$Tape", "places", "[I", true)
  | 3 => ("HoopYard$Tape", "numbers", "[[I", true)
  | 4 => ("HoopYard$Tape", "size", "I", false)
  | 5 => ("HoopYard$Tape", "statements", "I", false)
  | _ => ("HoopYard$Tape", "cursor", "I", false)
def tyX8 : Nat → FieldType := fun k => match k with
  | 0 => .array .byte
  | 1 => .array .int
  | 2 => .array .int
  | 3 => .array (.array .int)
  | 4 => .int
  | 5 => .int
  | _ => .int
abbrev wsX80 : List Cond := u_ws RX8 TX8 7
theorem nmX8 : ∀ a, a < 7 → ∀ b, b < 7 → a ≠ b → (TX8 a).2.1 ≠ (TX8 b).2.1 := by decide +kernel
theorem tyX8_ok : ∀ k, k < 7 → parseFieldDescriptor (TX8 k).2.2.1 = some (tyX8 k) := by decide +kernel
abbrev cX8_init : ByteArray := prog_10_method_1_code
def yX8_init : MethodName := ⟨RX8, "<init>", "()V"⟩
abbrev cX8_append : ByteArray := prog_10_method_2_code
def yX8_append : MethodName := ⟨RX8, "append", "(B)I"⟩
abbrev cX8_parse : ByteArray := prog_10_method_3_code
def yX8_parse : MethodName := ⟨RX8, "parse", "()Z"⟩
abbrev cX8_parseStatement : ByteArray := prog_10_method_4_code
def yX8_parseStatement : MethodName := ⟨RX8, "parseStatement", "(I)Z"⟩
abbrev cX8_parseNumber : ByteArray := prog_10_method_5_code
def yX8_parseNumber : MethodName := ⟨RX8, "parseNumber", "(II)Z"⟩
abbrev cX8_peek : ByteArray := prog_10_method_6_code
def yX8_peek : MethodName := ⟨RX8, "peek", "()I"⟩
abbrev cX8_pass : ByteArray := prog_10_method_7_code
def yX8_pass : MethodName := ⟨RX8, "pass", "(I)Z"⟩
abbrev cX8_howManyNumbers : ByteArray := prog_10_method_8_code
def yX8_howManyNumbers : MethodName := ⟨RX8, "howManyNumbers", "(I)I"⟩
abbrev cX8_firstUndoable : ByteArray := prog_10_method_9_code
def yX8_firstUndoable : MethodName := ⟨RX8, "firstUndoable", "(LHoopYard$Stock;)I"⟩
abbrev cX8_isInBounds : ByteArray := prog_10_method_10_code
def yX8_isInBounds : MethodName := ⟨RX8, "isInBounds", "(I[I)Z"⟩
abbrev cX8_carryOut : ByteArray := prog_10_method_11_code
def yX8_carryOut : MethodName := ⟨RX8, "carryOut", "(LHoopYard$Stock;)V"⟩
def RX9 : String := "HoopYard$Thing"
def TX9 : u_T := fun k => match k with
  | _ => ("", "", "", false)
def tyX9 : Nat → FieldType := fun k => match k with
  | _ => .int
abbrev wsX90 : List Cond := u_ws RX9 TX9 0
theorem nmX9 : ∀ a, a < 0 → ∀ b, b < 0 → a ≠ b → (TX9 a).2.1 ≠ (TX9 b).2.1 := by decide +kernel
theorem tyX9_ok : ∀ k, k < 0 → parseFieldDescriptor (TX9 k).2.2.1 = some (tyX9 k) := by decide +kernel
abbrev cX9_init : ByteArray := prog_11_method_1_code
def yX9_init : MethodName := ⟨RX9, "<init>", "()V"⟩
def RX10 : String := "HoopYard$Tray"
def TX10 : u_T := fun k => match k with
  | 0 => ("HoopYard$Tray", "sort", "I", true)
  | _ => ("HoopYard$Tray", "items", "[J", true)
def tyX10 : Nat → FieldType := fun k => match k with
  | 0 => .int
  | _ => .array .long
abbrev wsX100 : List Cond := u_ws RX10 TX10 2
theorem nmX10 : ∀ a, a < 2 → ∀ b, b < 2 → a ≠ b → (TX10 a).2.1 ≠ (TX10 b).2.1 := by decide +kernel
theorem tyX10_ok : ∀ k, k < 2 → parseFieldDescriptor (TX10 k).2.2.1 = some (tyX10 k) := by decide +kernel
abbrev cX10_init : ByteArray := prog_12_method_1_code
def yX10_init : MethodName := ⟨RX10, "<init>", "(II)V"⟩
abbrev cX10_toldAs : ByteArray := prog_12_method_2_code
def yX10_toldAs : MethodName := ⟨RX10, "toldAs", "()I"⟩
abbrev cX10_hasItem : ByteArray := prog_12_method_3_code
def yX10_hasItem : MethodName := ⟨RX10, "hasItem", "(I)Z"⟩
abbrev cX10_hasRun : ByteArray := prog_12_method_4_code
def yX10_hasRun : MethodName := ⟨RX10, "hasRun", "(II)Z"⟩
abbrev cX10_lay : ByteArray := prog_12_method_5_code
def yX10_lay : MethodName := ⟨RX10, "lay", "(IJ)V"⟩
def RX11 : String := "HoopYard"
def TX11 : u_T := fun k => match k with
  | 0 => ("HoopYard", "stock", "LHoopYard$Stock;", true)
  | 1 => ("HoopYard", "kept", "LHoopYard$Stock;", true)
  | 2 => ("HoopYard", "isKept", "Z", false)
  | 3 => ("HoopYard", "pegs", "[LHoopYard$Thing;", true)
  | 4 => ("HoopYard", "tape", "LHoopYard$Tape;", true)
  | 5 => ("HoopYard", "textsDone", "I", false)
  | 6 => ("HoopYard", "rounds", "LHoopYard$Rounds;", true)
  | 7 => ("HoopYard", "bench", "LHoopYard$RingBench;", true)
  | 8 => ("HoopYard", "cask", "LHoopYard$Cask;", true)
  | _ => ("HoopYard", "saw", "LHoopYard$HeadBench;", true)
def tyX11 : Nat → FieldType := fun k => match k with
  | 0 => .object "HoopYard$Stock"
  | 1 => .object "HoopYard$Stock"
  | 2 => .boolean
  | 3 => .array (.object "HoopYard$Thing")
  | 4 => .object "HoopYard$Tape"
  | 5 => .int
  | 6 => .object "HoopYard$Rounds"
  | 7 => .object "HoopYard$RingBench"
  | 8 => .object "HoopYard$Cask"
  | _ => .object "HoopYard$HeadBench"
abbrev wsX110 : List Cond := u_ws RX11 TX11 10
theorem nmX11 : ∀ a, a < 10 → ∀ b, b < 10 → a ≠ b → (TX11 a).2.1 ≠ (TX11 b).2.1 := by decide +kernel
theorem tyX11_ok : ∀ k, k < 10 → parseFieldDescriptor (TX11 k).2.2.1 = some (tyX11 k) := by decide +kernel
abbrev cX11_init : ByteArray := prog_1_method_1_code
def yX11_init : MethodName := ⟨RX11, "<init>", "()V"⟩
abbrev cX11_stave : ByteArray := prog_1_method_2_code
def yX11_stave : MethodName := ⟨RX11, "stave", "(IIII)I"⟩
abbrev cX11_hoop : ByteArray := prog_1_method_3_code
def yX11_hoop : MethodName := ⟨RX11, "hoop", "(III)I"⟩
abbrev cX11_board : ByteArray := prog_1_method_4_code
def yX11_board : MethodName := ⟨RX11, "board", "(I)I"⟩
abbrev cX11_rule : ByteArray := prog_1_method_5_code
def yX11_rule : MethodName := ⟨RX11, "rule", "(II)I"⟩
abbrev cX11_told : ByteArray := prog_1_method_6_code
def yX11_told : MethodName := ⟨RX11, "told", "(I)I"⟩
abbrev cX11_ofStave : ByteArray := prog_1_method_7_code
def yX11_ofStave : MethodName := ⟨RX11, "ofStave", "(II)I"⟩
abbrev cX11_takes : ByteArray := prog_1_method_8_code
def yX11_takes : MethodName := ⟨RX11, "takes", "(I)I"⟩
abbrev cX11_shave : ByteArray := prog_1_method_9_code
def yX11_shave : MethodName := ⟨RX11, "shave", "(II)I"⟩
abbrev cX11_fits : ByteArray := prog_1_method_10_code
def yX11_fits : MethodName := ⟨RX11, "fits", "(I)I"⟩
abbrev cX11_sums : ByteArray := prog_1_method_11_code
def yX11_sums : MethodName := ⟨RX11, "sums", "(I)I"⟩
abbrev cX11_nearest : ByteArray := prog_1_method_12_code
def yX11_nearest : MethodName := ⟨RX11, "nearest", "(I)I"⟩
abbrev cX11_least : ByteArray := prog_1_method_13_code
def yX11_least : MethodName := ⟨RX11, "least", "(III)I"⟩
abbrev cX11_leak : ByteArray := prog_1_method_14_code
def yX11_leak : MethodName := ⟨RX11, "leak", "(II)I"⟩
abbrev cX11_worst : ByteArray := prog_1_method_15_code
def yX11_worst : MethodName := ⟨RX11, "worst", "(III)I"⟩
abbrev cX11_rings : ByteArray := prog_1_method_16_code
def yX11_rings : MethodName := ⟨RX11, "rings", "(III)I"⟩
abbrev cX11_girth : ByteArray := prog_1_method_17_code
def yX11_girth : MethodName := ⟨RX11, "girth", "(I)I"⟩
abbrev cX11_ofHoop : ByteArray := prog_1_method_18_code
def yX11_ofHoop : MethodName := ⟨RX11, "ofHoop", "(II)I"⟩
abbrev cX11_press : ByteArray := prog_1_method_19_code
def yX11_press : MethodName := ⟨RX11, "press", "(I)I"⟩
abbrev cX11_wet : ByteArray := prog_1_method_20_code
def yX11_wet : MethodName := ⟨RX11, "wet", "(I)I"⟩
abbrev cX11_driest : ByteArray := prog_1_method_21_code
def yX11_driest : MethodName := ⟨RX11, "driest", "(II)I"⟩
abbrev cX11_head : ByteArray := prog_1_method_22_code
def yX11_head : MethodName := ⟨RX11, "head", "(II)I"⟩
abbrev cX11_used : ByteArray := prog_1_method_23_code
def yX11_used : MethodName := ⟨RX11, "used", "(II)I"⟩
abbrev cX11_heads : ByteArray := prog_1_method_24_code
def yX11_heads : MethodName := ⟨RX11, "heads", "(I)I"⟩
abbrev cX11_feed : ByteArray := prog_1_method_25_code
def yX11_feed : MethodName := ⟨RX11, "feed", "(I)I"⟩
abbrev cX11_read : ByteArray := prog_1_method_26_code
def yX11_read : MethodName := ⟨RX11, "read", "()I"⟩
abbrev cX11_hang : ByteArray := prog_1_method_27_code
def yX11_hang : MethodName := ⟨RX11, "hang", "(III)I"⟩
abbrev cX11_tray : ByteArray := prog_1_method_28_code
def yX11_tray : MethodName := ⟨RX11, "tray", "(III)I"⟩
abbrev cX11_held : ByteArray := prog_1_method_29_code
def yX11_held : MethodName := ⟨RX11, "held", "(I)I"⟩
abbrev cX11_as : ByteArray := prog_1_method_30_code
def yX11_as : MethodName := ⟨RX11, "as", "(III)I"⟩
abbrev cX11_put : ByteArray := prog_1_method_31_code
def yX11_put : MethodName := ⟨RX11, "put", "(IIJ)I"⟩
abbrev cX11_get : ByteArray := prog_1_method_32_code
def yX11_get : MethodName := ⟨RX11, "get", "(II)J"⟩
abbrev cX11_fill : ByteArray := prog_1_method_33_code
def yX11_fill : MethodName := ⟨RX11, "fill", "(III)I"⟩
abbrev cX11_judge : ByteArray := prog_1_method_34_code
def yX11_judge : MethodName := ⟨RX11, "judge", "(III)I"⟩
abbrev cX11_move : ByteArray := prog_1_method_35_code
def yX11_move : MethodName := ⟨RX11, "move", "(IIIII)I"⟩
abbrev cX11_image : ByteArray := prog_1_method_36_code
def yX11_image : MethodName := ⟨RX11, "image", "()I"⟩
abbrev cX11_undo : ByteArray := prog_1_method_37_code
def yX11_undo : MethodName := ⟨RX11, "undo", "()I"⟩
abbrev cX11_isIn : ByteArray := prog_1_method_38_code
def yX11_isIn : MethodName := ⟨RX11, "isIn", "(III)Z"⟩
abbrev cX11_isPress : ByteArray := prog_1_method_39_code
def yX11_isPress : MethodName := ⟨RX11, "isPress", "(I)Z"⟩
abbrev cX11_isHeight : ByteArray := prog_1_method_40_code
def yX11_isHeight : MethodName := ⟨RX11, "isHeight", "(I)Z"⟩
abbrev cX11_isRadius : ByteArray := prog_1_method_41_code
def yX11_isRadius : MethodName := ⟨RX11, "isRadius", "(I)Z"⟩
abbrev cX11_isPeg : ByteArray := prog_1_method_42_code
def yX11_isPeg : MethodName := ⟨RX11, "isPeg", "(I)Z"⟩
abbrev cX11_canRule : ByteArray := prog_1_method_43_code
def yX11_canRule : MethodName := ⟨RX11, "canRule", "(II)Z"⟩
abbrev cX11_isRingSet : ByteArray := prog_1_method_44_code
def yX11_isRingSet : MethodName := ⟨RX11, "isRingSet", "(I)Z"⟩
abbrev cX11_holds : ByteArray := prog_1_method_45_code
def yX11_holds : MethodName := ⟨RX11, "holds", "(II)Z"⟩
abbrev cX11_without : ByteArray := prog_1_method_46_code
def yX11_without : MethodName := ⟨RX11, "without", "(II)I"⟩
abbrev cX11_kindsOf : ByteArray := prog_1_method_47_code
def yX11_kindsOf : MethodName := ⟨RX11, "kindsOf", "(I)I"⟩
abbrev cX11_isUnder : ByteArray := prog_1_method_48_code
def yX11_isUnder : MethodName := ⟨RX11, "isUnder", "(II[I)Z"⟩
abbrev cX11_rootOf : ByteArray := prog_1_method_49_code
def yX11_rootOf : MethodName := ⟨RX11, "rootOf", "(I)I"⟩
abbrev cX11_sagOf : ByteArray := prog_1_method_50_code
def yX11_sagOf : MethodName := ⟨RX11, "sagOf", "(II)I"⟩
abbrev cX11_howManyDigits : ByteArray := prog_1_method_51_code
def yX11_howManyDigits : MethodName := ⟨RX11, "howManyDigits", "(I)I"⟩
abbrev cX11_spellRow : ByteArray := prog_1_method_52_code
def yX11_spellRow : MethodName := ⟨RX11, "spellRow", "(II[I)I"⟩
abbrev cX11_ofResting : ByteArray := prog_1_method_53_code
def yX11_ofResting : MethodName := ⟨RX11, "ofResting", "(LHoopYard$Hoop;II)I"⟩
abbrev cX11_trayOn : ByteArray := prog_1_method_54_code
def yX11_trayOn : MethodName := ⟨RX11, "trayOn", "(I)LHoopYard$Tray;"⟩
abbrev cX11_lackOfTray : ByteArray := prog_1_method_55_code
def yX11_lackOfTray : MethodName := ⟨RX11, "lackOfTray", "(I)I"⟩
abbrev cX11_lackForRing : ByteArray := prog_1_method_56_code
def yX11_lackForRing : MethodName := ⟨RX11, "lackForRing", "(III)I"⟩
def RX12 : String := "HoopYardModel"
def TX12 : u_T := fun k => match k with
  | 0 => ("HoopYardModel", "now", "[I", true)
  | 1 => ("HoopYardModel", "old", "[I", true)
  | 2 => ("HoopYardModel", "ahead", "[I", true)
  | 3 => ("HoopYardModel", "imaged", "Z", false)
  | 4 => ("HoopYardModel", "things", "I", false)
  | 5 => ("HoopYardModel", "texts", "I", false)
  | 6 => ("HoopYardModel", "taped", "I", false)
  | 7 => ("HoopYardModel", "tape", "[I", true)
  | 8 => ("HoopYardModel", "at", "I", false)
  | 9 => ("HoopYardModel", "fault", "I", false)
  | 10 => ("HoopYardModel", "many", "I", false)
  | 11 => ("HoopYardModel", "read", "[I", true)
  | 12 => ("HoopYardModel", "joints", "I", false)
  | 13 => ("HoopYardModel", "ring", "[I", true)
  | 14 => ("HoopYardModel", "best", "[I", true)
  | 15 => ("HoopYardModel", "leak", "I", false)
  | 16 => ("HoopYardModel", "soMany", "I", false)
  | 17 => ("HoopYardModel", "tight", "I", false)
  | 18 => ("HoopYardModel", "rests", "[I", true)
  | 19 => ("HoopYardModel", "row", "[I", true)
  | 20 => ("HoopYardModel", "heads", "I", false)
  | 21 => ("HoopYardModel", "used", "I", false)
  | 22 => ("HoopYardModel", "digits", "I", false)
  | 23 => ("HoopYardModel", "boards", "I", false)
  | 24 => ("HoopYardModel", "peg", "[I", true)
  | 25 => ("HoopYardModel", "pegKind", "[I", true)
  | 26 => ("HoopYardModel", "pegSize", "[I", true)
  | 27 => ("HoopYardModel", "pegWhich", "[I", true)
  | 28 => ("HoopYardModel", "items", "[J", true)
  | _ => ("HoopYardModel", "moved", "[J", true)
def tyX12 : Nat → FieldType := fun k => match k with
  | 0 => .array .int
  | 1 => .array .int
  | 2 => .array .int
  | 3 => .boolean
  | 4 => .int
  | 5 => .int
  | 6 => .int
  | 7 => .array .int
  | 8 => .int
  | 9 => .int
  | 10 => .int
  | 11 => .array .int
  | 12 => .int
  | 13 => .array .int
  | 14 => .array .int
  | 15 => .int
  | 16 => .int
  | 17 => .int
  | 18 => .array .int
  | 19 => .array .int
  | 20 => .int
  | 21 => .int
  | 22 => .int
  | 23 => .int
  | 24 => .array .int
  | 25 => .array .int
  | 26 => .array .int
  | 27 => .array .int
  | 28 => .array .long
  | _ => .array .long
abbrev wsX120 : List Cond := u_ws RX12 TX12 30
theorem nmX12 : ∀ a, a < 30 → ∀ b, b < 30 → a ≠ b → (TX12 a).2.1 ≠ (TX12 b).2.1 := by decide +kernel
theorem tyX12_ok : ∀ k, k < 30 → parseFieldDescriptor (TX12 k).2.2.1 = some (tyX12 k) := by decide +kernel
abbrev cX12_init : ByteArray := prog_14_method_1_code
def yX12_init : MethodName := ⟨RX12, "<init>", "()V"⟩
abbrev cX12_within : ByteArray := prog_14_method_2_code
def yX12_within : MethodName := ⟨RX12, "within", "(III)Z"⟩
abbrev cX12_pours : ByteArray := prog_14_method_3_code
def yX12_pours : MethodName := ⟨RX12, "pours", "([I[I)V"⟩
abbrev cX12_isStave : ByteArray := prog_14_method_4_code
def yX12_isStave : MethodName := ⟨RX12, "isStave", "(IIII)Z"⟩
abbrev cX12_isHoop : ByteArray := prog_14_method_5_code
def yX12_isHoop : MethodName := ⟨RX12, "isHoop", "(III)Z"⟩
abbrev cX12_stave : ByteArray := prog_14_method_6_code
def yX12_stave : MethodName := ⟨RX12, "stave", "(IIII)I"⟩
abbrev cX12_hoop : ByteArray := prog_14_method_7_code
def yX12_hoop : MethodName := ⟨RX12, "hoop", "(III)I"⟩
abbrev cX12_board : ByteArray := prog_14_method_8_code
def yX12_board : MethodName := ⟨RX12, "board", "(I)I"⟩
abbrev cX12_isRule : ByteArray := prog_14_method_9_code
def yX12_isRule : MethodName := ⟨RX12, "isRule", "(II)Z"⟩
abbrev cX12_rule : ByteArray := prog_14_method_10_code
def yX12_rule : MethodName := ⟨RX12, "rule", "(II)I"⟩
abbrev cX12_told : ByteArray := prog_14_method_11_code
def yX12_told : MethodName := ⟨RX12, "told", "(I)I"⟩
abbrev cX12_countsOf : ByteArray := prog_14_method_12_code
def yX12_countsOf : MethodName := ⟨RX12, "countsOf", "(I)I"⟩
abbrev cX12_edgeOf : ByteArray := prog_14_method_13_code
def yX12_edgeOf : MethodName := ⟨RX12, "edgeOf", "(I)I"⟩
abbrev cX12_priceOf : ByteArray := prog_14_method_14_code
def yX12_priceOf : MethodName := ⟨RX12, "priceOf", "(I)I"⟩
abbrev cX12_root : ByteArray := prog_14_method_15_code
def yX12_root : MethodName := ⟨RX12, "root", "(I)I"⟩
abbrev cX12_sagOf : ByteArray := prog_14_method_16_code
def yX12_sagOf : MethodName := ⟨RX12, "sagOf", "(I)I"⟩
abbrev cX12_hasStave : ByteArray := prog_14_method_17_code
def yX12_hasStave : MethodName := ⟨RX12, "hasStave", "(I)Z"⟩
abbrev cX12_ofStave : ByteArray := prog_14_method_18_code
def yX12_ofStave : MethodName := ⟨RX12, "ofStave", "(II)I"⟩
abbrev cX12_takes : ByteArray := prog_14_method_19_code
def yX12_takes : MethodName := ⟨RX12, "takes", "(I)I"⟩
abbrev cX12_shave : ByteArray := prog_14_method_20_code
def yX12_shave : MethodName := ⟨RX12, "shave", "(II)I"⟩
abbrev cX12_countsOfSet : ByteArray := prog_14_method_21_code
def yX12_countsOfSet : MethodName := ⟨RX12, "countsOfSet", "(I)I"⟩
abbrev cX12_priceOfSet : ByteArray := prog_14_method_22_code
def yX12_priceOfSet : MethodName := ⟨RX12, "priceOfSet", "(I)I"⟩
abbrev cX12_fits : ByteArray := prog_14_method_23_code
def yX12_fits : MethodName := ⟨RX12, "fits", "(I)I"⟩
abbrev cX12_sums : ByteArray := prog_14_method_24_code
def yX12_sums : MethodName := ⟨RX12, "sums", "(I)I"⟩
abbrev cX12_nearest : ByteArray := prog_14_method_25_code
def yX12_nearest : MethodName := ⟨RX12, "nearest", "(I)I"⟩
abbrev cX12_isSet : ByteArray := prog_14_method_26_code
def yX12_isSet : MethodName := ⟨RX12, "isSet", "(I)Z"⟩
abbrev cX12_isPress : ByteArray := prog_14_method_27_code
def yX12_isPress : MethodName := ⟨RX12, "isPress", "(I)Z"⟩
abbrev cX12_gap : ByteArray := prog_14_method_28_code
def yX12_gap : MethodName := ⟨RX12, "gap", "([II)I"⟩
abbrev cX12_leakOf : ByteArray := prog_14_method_29_code
def yX12_leakOf : MethodName := ⟨RX12, "leakOf", "([II)I"⟩
abbrev cX12_goesRound : ByteArray := prog_14_method_30_code
def yX12_goesRound : MethodName := ⟨RX12, "goesRound", "(IIII)V"⟩
abbrev cX12_rounds : ByteArray := prog_14_method_31_code
def yX12_rounds : MethodName := ⟨RX12, "rounds", "(III)V"⟩
abbrev cX12_least : ByteArray := prog_14_method_32_code
def yX12_least : MethodName := ⟨RX12, "least", "(III)I"⟩
abbrev cX12_isRing : ByteArray := prog_14_method_33_code
def yX12_isRing : MethodName := ⟨RX12, "isRing", "(I)Z"⟩
abbrev cX12_leak : ByteArray := prog_14_method_34_code
def yX12_leak : MethodName := ⟨RX12, "leak", "(II)I"⟩
abbrev cX12_worst : ByteArray := prog_14_method_35_code
def yX12_worst : MethodName := ⟨RX12, "worst", "(III)I"⟩
abbrev cX12_rings : ByteArray := prog_14_method_36_code
def yX12_rings : MethodName := ⟨RX12, "rings", "(III)I"⟩
abbrev cX12_girthAt : ByteArray := prog_14_method_37_code
def yX12_girthAt : MethodName := ⟨RX12, "girthAt", "(I)I"⟩
abbrev cX12_girth : ByteArray := prog_14_method_38_code
def yX12_girth : MethodName := ⟨RX12, "girth", "(I)I"⟩
abbrev cX12_hasHoop : ByteArray := prog_14_method_39_code
def yX12_hasHoop : MethodName := ⟨RX12, "hasHoop", "(I)Z"⟩
abbrev cX12_settles : ByteArray := prog_14_method_40_code
def yX12_settles : MethodName := ⟨RX12, "settles", "()V"⟩
abbrev cX12_gripOf : ByteArray := prog_14_method_41_code
def yX12_gripOf : MethodName := ⟨RX12, "gripOf", "(I)I"⟩
abbrev cX12_pressOf : ByteArray := prog_14_method_42_code
def yX12_pressOf : MethodName := ⟨RX12, "pressOf", "(I)I"⟩
abbrev cX12_ofHoop : ByteArray := prog_14_method_43_code
def yX12_ofHoop : MethodName := ⟨RX12, "ofHoop", "(II)I"⟩
abbrev cX12_pressAt : ByteArray := prog_14_method_44_code
def yX12_pressAt : MethodName := ⟨RX12, "pressAt", "(I)I"⟩
abbrev cX12_press : ByteArray := prog_14_method_45_code
def yX12_press : MethodName := ⟨RX12, "press", "(I)I"⟩
abbrev cX12_wetNow : ByteArray := prog_14_method_46_code
def yX12_wetNow : MethodName := ⟨RX12, "wetNow", "()I"⟩
abbrev cX12_wet : ByteArray := prog_14_method_47_code
def yX12_wet : MethodName := ⟨RX12, "wet", "(I)I"⟩
abbrev cX12_driest : ByteArray := prog_14_method_48_code
def yX12_driest : MethodName := ⟨RX12, "driest", "(II)I"⟩
abbrev cX12_usedBy : ByteArray := prog_14_method_49_code
def yX12_usedBy : MethodName := ⟨RX12, "usedBy", "(III)I"⟩
abbrev cX12_goesOn : ByteArray := prog_14_method_50_code
def yX12_goesOn : MethodName := ⟨RX12, "goesOn", "(IIIII)V"⟩
abbrev cX12_saws : ByteArray := prog_14_method_51_code
def yX12_saws : MethodName := ⟨RX12, "saws", "(I)V"⟩
abbrev cX12_head : ByteArray := prog_14_method_52_code
def yX12_head : MethodName := ⟨RX12, "head", "(II)I"⟩
abbrev cX12_used : ByteArray := prog_14_method_53_code
def yX12_used : MethodName := ⟨RX12, "used", "(II)I"⟩
abbrev cX12_heads : ByteArray := prog_14_method_54_code
def yX12_heads : MethodName := ⟨RX12, "heads", "(I)I"⟩
abbrev cX12_feed : ByteArray := prog_14_method_55_code
def yX12_feed : MethodName := ⟨RX12, "feed", "(I)I"⟩
abbrev cX12_isFrom : ByteArray := prog_14_method_56_code
def yX12_isFrom : MethodName := ⟨RX12, "isFrom", "(II)Z"⟩
abbrev cX12_wrong : ByteArray := prog_14_method_57_code
def yX12_wrong : MethodName := ⟨RX12, "wrong", "()V"⟩
abbrev cX12_number : ByteArray := prog_14_method_58_code
def yX12_number : MethodName := ⟨RX12, "number", "()I"⟩
abbrev cX12_numbers : ByteArray := prog_14_method_59_code
def yX12_numbers : MethodName := ⟨RX12, "numbers", "(I)I"⟩
abbrev cX12_reads : ByteArray := prog_14_method_60_code
def yX12_reads : MethodName := ⟨RX12, "reads", "()V"⟩
abbrev cX12_does : ByteArray := prog_14_method_61_code
def yX12_does : MethodName := ⟨RX12, "does", "(I)Z"⟩
abbrev cX12_read : ByteArray := prog_14_method_62_code
def yX12_read : MethodName := ⟨RX12, "read", "()I"⟩
abbrev cX12_isPeg : ByteArray := prog_14_method_63_code
def yX12_isPeg : MethodName := ⟨RX12, "isPeg", "(I)Z"⟩
abbrev cX12_hang : ByteArray := prog_14_method_64_code
def yX12_hang : MethodName := ⟨RX12, "hang", "(III)I"⟩
abbrev cX12_tray : ByteArray := prog_14_method_65_code
def yX12_tray : MethodName := ⟨RX12, "tray", "(III)I"⟩
abbrev cX12_held : ByteArray := prog_14_method_66_code
def yX12_held : MethodName := ⟨RX12, "held", "(I)I"⟩
abbrev cX12_isUnder : ByteArray := prog_14_method_67_code
def yX12_isUnder : MethodName := ⟨RX12, "isUnder", "(III)Z"⟩
abbrev cX12_as : ByteArray := prog_14_method_68_code
def yX12_as : MethodName := ⟨RX12, "as", "(III)I"⟩
abbrev cX12_isNoTray : ByteArray := prog_14_method_69_code
def yX12_isNoTray : MethodName := ⟨RX12, "isNoTray", "(I)I"⟩
abbrev cX12_lays : ByteArray := prog_14_method_70_code
def yX12_lays : MethodName := ⟨RX12, "lays", "(IIJ)V"⟩
abbrev cX12_put : ByteArray := prog_14_method_71_code
def yX12_put : MethodName := ⟨RX12, "put", "(IIJ)I"⟩
abbrev cX12_get : ByteArray := prog_14_method_72_code
def yX12_get : MethodName := ⟨RX12, "get", "(II)J"⟩
abbrev cX12_fill : ByteArray := prog_14_method_73_code
def yX12_fill : MethodName := ⟨RX12, "fill", "(III)I"⟩
abbrev cX12_judge : ByteArray := prog_14_method_74_code
def yX12_judge : MethodName := ⟨RX12, "judge", "(III)I"⟩
abbrev cX12_move : ByteArray := prog_14_method_75_code
def yX12_move : MethodName := ⟨RX12, "move", "(IIIII)I"⟩
abbrev cX12_image : ByteArray := prog_14_method_76_code
def yX12_image : MethodName := ⟨RX12, "image", "()I"⟩
abbrev cX12_undo : ByteArray := prog_14_method_77_code
def yX12_undo : MethodName := ⟨RX12, "undo", "()I"⟩
def RJ6 : String := "java/lang/Integer"
abbrev cJ6_bitCount_0f7a4 : ByteArray := prog_15_method_49_code
def yJ6_bitCount_0f7a4 : MethodName := ⟨RJ6, "bitCount", "(I)I"⟩
def RJ9 : String := "java/lang/Math"
abbrev cJ9_abs_0f7a4 : ByteArray := prog_16_method_59_code
def yJ9_abs_0f7a4 : MethodName := ⟨RJ9, "abs", "(I)I"⟩
abbrev cJ9_max_7cf53 : ByteArray := prog_16_method_65_code
def yJ9_max_7cf53 : MethodName := ⟨RJ9, "max", "(II)I"⟩
abbrev cJ9_min_7cf53 : ByteArray := prog_16_method_69_code
def yJ9_min_7cf53 : MethodName := ⟨RJ9, "min", "(II)I"⟩
def RJ10 : String := "java/lang/System"
def RJ7 : String := "java/util/Arrays"
abbrev cJ7_fill_53178 : ByteArray := prog_18_method_103_code
def yJ7_fill_53178 : MethodName := ⟨RJ7, "fill", "([II)V"⟩
def RL : String := "HoopYardLaw"
abbrev cL_law : ByteArray := code
def yL_law : MethodName := ⟨RL, "law", "([I)Z"⟩
abbrev vwCl : List vw_C := [(RX0, TX0, 1), (RX1, TX1, 2), (RX2, TX2, 6), (RX3, TX3, 3), (RX4, TX4, 6), (RX5, TX5, 3), (RX6, TX6, 4), (RX7, TX7, 7), (RX8, TX8, 7), (RX10, TX10, 2), (RX11, TX11, 10), (RX12, TX12, 30)]
