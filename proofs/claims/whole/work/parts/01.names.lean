-- ===== PART A: goes FIRST, ahead of the names: the tables' words, and 'selects' of the private methods out of them =====
/-- a private method of a class that the tables say can be made, by its rows of tables_1 -/
def lw_okq (q : MethodName × Nat) : Prop := (q.1.cls ≠ "java/lang/invoke/MethodHandle" ∧ q.1.cls ≠ "java/lang/invoke/VarHandle") ∧ Cond.instantiable q.1.cls q.2 ∈ tables_1 ∧ Cond.privateMethod q.1 ∈ tables_1 ∧ Cond.instanceMethod q.1 ∈ tables_1
theorem lw_p0 : lw_okq (⟨"BathWater$Reader", "skipBlanks", "()V"⟩, 7) := ⟨⟨by decide +kernel, by decide +kernel⟩, List.mem_of_getElem? (i := 26) (by decide +kernel), List.mem_of_getElem? (i := 269) (by decide +kernel), List.mem_of_getElem? (i := 270) (by decide +kernel)⟩
theorem lw_p1 : lw_okq (⟨"BathWater$Reader", "signAt", "(I)I"⟩, 7) := ⟨⟨by decide +kernel, by decide +kernel⟩, List.mem_of_getElem? (i := 26) (by decide +kernel), List.mem_of_getElem? (i := 273) (by decide +kernel), List.mem_of_getElem? (i := 274) (by decide +kernel)⟩
theorem lw_p2 : lw_okq (⟨"BathWater$Reader", "readClause", "(LBathWater$House;)V"⟩, 7) := ⟨⟨by decide +kernel, by decide +kernel⟩, List.mem_of_getElem? (i := 26) (by decide +kernel), List.mem_of_getElem? (i := 277) (by decide +kernel), List.mem_of_getElem? (i := 278) (by decide +kernel)⟩
theorem lw_p3 : lw_okq (⟨"BathWater$Reader", "wordIs", "(Ljava/lang/String;I)Z"⟩, 7) := ⟨⟨by decide +kernel, by decide +kernel⟩, List.mem_of_getElem? (i := 26) (by decide +kernel), List.mem_of_getElem? (i := 285) (by decide +kernel), List.mem_of_getElem? (i := 286) (by decide +kernel)⟩
theorem lw_p4 : lw_okq (⟨"BathWater$Reader", "failIf", "(ZII)V"⟩, 7) := ⟨⟨by decide +kernel, by decide +kernel⟩, List.mem_of_getElem? (i := 26) (by decide +kernel), List.mem_of_getElem? (i := 337) (by decide +kernel), List.mem_of_getElem? (i := 338) (by decide +kernel)⟩
theorem lw_p5 : lw_okq (⟨"BathWater$Reader", "readBath", "(LBathWater$House;)V"⟩, 7) := ⟨⟨by decide +kernel, by decide +kernel⟩, List.mem_of_getElem? (i := 26) (by decide +kernel), List.mem_of_getElem? (i := 341) (by decide +kernel), List.mem_of_getElem? (i := 342) (by decide +kernel)⟩
theorem lw_p6 : lw_okq (⟨"BathWater$Reader", "readNumber", "(II)I"⟩, 7) := ⟨⟨by decide +kernel, by decide +kernel⟩, List.mem_of_getElem? (i := 26) (by decide +kernel), List.mem_of_getElem? (i := 345) (by decide +kernel), List.mem_of_getElem? (i := 346) (by decide +kernel)⟩
theorem lw_p7 : lw_okq (⟨"BathWater$Reader", "readEnd", "()V"⟩, 7) := ⟨⟨by decide +kernel, by decide +kernel⟩, List.mem_of_getElem? (i := 26) (by decide +kernel), List.mem_of_getElem? (i := 352) (by decide +kernel), List.mem_of_getElem? (i := 353) (by decide +kernel)⟩
theorem lw_p8 : lw_okq (⟨"BathWater$Reader", "readBather", "(LBathWater$House;)V"⟩, 7) := ⟨⟨by decide +kernel, by decide +kernel⟩, List.mem_of_getElem? (i := 26) (by decide +kernel), List.mem_of_getElem? (i := 364) (by decide +kernel), List.mem_of_getElem? (i := 365) (by decide +kernel)⟩
theorem lw_p9 : lw_okq (⟨"BathWater$Reader", "readOdd", "(LBathWater$House;)V"⟩, 7) := ⟨⟨by decide +kernel, by decide +kernel⟩, List.mem_of_getElem? (i := 26) (by decide +kernel), List.mem_of_getElem? (i := 373) (by decide +kernel), List.mem_of_getElem? (i := 374) (by decide +kernel)⟩
theorem lw_p10 : lw_okq (⟨"BathWater", "learn", "()V"⟩, 11) := ⟨⟨by decide +kernel, by decide +kernel⟩, List.mem_of_getElem? (i := 18) (by decide +kernel), List.mem_of_getElem? (i := 377) (by decide +kernel), List.mem_of_getElem? (i := 378) (by decide +kernel)⟩
theorem lw_p11 : lw_okq (⟨"BathWater$Rows", "cellAt", "(II)I"⟩, 2) := ⟨⟨by decide +kernel, by decide +kernel⟩, List.mem_of_getElem? (i := 58) (by decide +kernel), List.mem_of_getElem? (i := 393) (by decide +kernel), List.mem_of_getElem? (i := 394) (by decide +kernel)⟩
theorem lw_p12 : lw_okq (⟨"BathWater$Ends", "reset", "(LBathWater$House;)V"⟩, 6) := ⟨⟨by decide +kernel, by decide +kernel⟩, List.mem_of_getElem? (i := 97) (by decide +kernel), List.mem_of_getElem? (i := 434) (by decide +kernel), List.mem_of_getElem? (i := 435) (by decide +kernel)⟩
theorem lw_p13 : lw_okq (⟨"BathWater$Ends", "narrow", "(I)I"⟩, 6) := ⟨⟨by decide +kernel, by decide +kernel⟩, List.mem_of_getElem? (i := 97) (by decide +kernel), List.mem_of_getElem? (i := 445) (by decide +kernel), List.mem_of_getElem? (i := 446) (by decide +kernel)⟩
theorem lw_p14 : lw_okq (⟨"BathWater", "refusalOfRow", "(IIIILBathWater$Rows;)I"⟩, 11) := ⟨⟨by decide +kernel, by decide +kernel⟩, List.mem_of_getElem? (i := 18) (by decide +kernel), List.mem_of_getElem? (i := 534) (by decide +kernel), List.mem_of_getElem? (i := 535) (by decide +kernel)⟩
theorem lw_p15 : lw_okq (⟨"BathWater$Falsehood", "isFree", "(LBathWater$House;II)Z"⟩, 5) := ⟨⟨by decide +kernel, by decide +kernel⟩, List.mem_of_getElem? (i := 123) (by decide +kernel), List.mem_of_getElem? (i := 563) (by decide +kernel), List.mem_of_getElem? (i := 564) (by decide +kernel)⟩
def lw_privs_1 : List (MethodName × Nat) := [(⟨"BathWater$Reader", "skipBlanks", "()V"⟩, 7), (⟨"BathWater$Reader", "signAt", "(I)I"⟩, 7), (⟨"BathWater$Reader", "readClause", "(LBathWater$House;)V"⟩, 7), (⟨"BathWater$Reader", "wordIs", "(Ljava/lang/String;I)Z"⟩, 7), (⟨"BathWater$Reader", "failIf", "(ZII)V"⟩, 7), (⟨"BathWater$Reader", "readBath", "(LBathWater$House;)V"⟩, 7), (⟨"BathWater$Reader", "readNumber", "(II)I"⟩, 7), (⟨"BathWater$Reader", "readEnd", "()V"⟩, 7), (⟨"BathWater$Reader", "readBather", "(LBathWater$House;)V"⟩, 7), (⟨"BathWater$Reader", "readOdd", "(LBathWater$House;)V"⟩, 7), (⟨"BathWater", "learn", "()V"⟩, 11), (⟨"BathWater$Rows", "cellAt", "(II)I"⟩, 2), (⟨"BathWater$Ends", "reset", "(LBathWater$House;)V"⟩, 6), (⟨"BathWater$Ends", "narrow", "(I)I"⟩, 6), (⟨"BathWater", "refusalOfRow", "(IIIILBathWater$Rows;)I"⟩, 11), (⟨"BathWater$Falsehood", "isFree", "(LBathWater$House;II)Z"⟩, 5)]
theorem lw_r1 : ∀ q ∈ lw_privs_1, lw_okq q := List.forall_mem_cons.mpr ⟨lw_p0, List.forall_mem_cons.mpr ⟨lw_p1, List.forall_mem_cons.mpr ⟨lw_p2, List.forall_mem_cons.mpr ⟨lw_p3, List.forall_mem_cons.mpr ⟨lw_p4, List.forall_mem_cons.mpr ⟨lw_p5, List.forall_mem_cons.mpr ⟨lw_p6, List.forall_mem_cons.mpr ⟨lw_p7, List.forall_mem_cons.mpr ⟨lw_p8, List.forall_mem_cons.mpr ⟨lw_p9, List.forall_mem_cons.mpr ⟨lw_p10, List.forall_mem_cons.mpr ⟨lw_p11, List.forall_mem_cons.mpr ⟨lw_p12, List.forall_mem_cons.mpr ⟨lw_p13, List.forall_mem_cons.mpr ⟨lw_p14, List.forall_mem_cons.mpr ⟨lw_p15, fun _ h => absurd h List.not_mem_nil⟩⟩⟩⟩⟩⟩⟩⟩⟩⟩⟩⟩⟩⟩⟩⟩
theorem lw_p16 : lw_okq (⟨"BathWater$Falsehood", "coreOf", "(LBathWater$House;I)I"⟩, 5) := ⟨⟨by decide +kernel, by decide +kernel⟩, List.mem_of_getElem? (i := 123) (by decide +kernel), List.mem_of_getElem? (i := 568) (by decide +kernel), List.mem_of_getElem? (i := 569) (by decide +kernel)⟩
theorem lw_p17 : lw_okq (⟨"BathWater$Cases", "leadersOf", "(LBathWater$House;I)J"⟩, 9) := ⟨⟨by decide +kernel, by decide +kernel⟩, List.mem_of_getElem? (i := 148) (by decide +kernel), List.mem_of_getElem? (i := 640) (by decide +kernel), List.mem_of_getElem? (i := 641) (by decide +kernel)⟩
theorem lw_p18 : lw_okq (⟨"BathWater$Cases", "leaderOf", "(I)I"⟩, 9) := ⟨⟨by decide +kernel, by decide +kernel⟩, List.mem_of_getElem? (i := 148) (by decide +kernel), List.mem_of_getElem? (i := 647) (by decide +kernel), List.mem_of_getElem? (i := 648) (by decide +kernel)⟩
theorem lw_p19 : lw_okq (⟨"BathWater$Cases", "isNew", "(I)Z"⟩, 9) := ⟨⟨by decide +kernel, by decide +kernel⟩, List.mem_of_getElem? (i := 148) (by decide +kernel), List.mem_of_getElem? (i := 651) (by decide +kernel), List.mem_of_getElem? (i := 652) (by decide +kernel)⟩
theorem lw_p20 : lw_okq (⟨"BathWater$Cases", "leadersAt", "(I)J"⟩, 9) := ⟨⟨by decide +kernel, by decide +kernel⟩, List.mem_of_getElem? (i := 148) (by decide +kernel), List.mem_of_getElem? (i := 655) (by decide +kernel), List.mem_of_getElem? (i := 656) (by decide +kernel)⟩
theorem lw_p21 : lw_okq (⟨"BathWater$Cases", "addUseful", "(I)V"⟩, 9) := ⟨⟨by decide +kernel, by decide +kernel⟩, List.mem_of_getElem? (i := 148) (by decide +kernel), List.mem_of_getElem? (i := 659) (by decide +kernel), List.mem_of_getElem? (i := 660) (by decide +kernel)⟩
theorem lw_p22 : lw_okq (⟨"BathWater$Cases", "togetherWith", "(JI)I"⟩, 9) := ⟨⟨by decide +kernel, by decide +kernel⟩, List.mem_of_getElem? (i := 148) (by decide +kernel), List.mem_of_getElem? (i := 663) (by decide +kernel), List.mem_of_getElem? (i := 664) (by decide +kernel)⟩
theorem lw_p23 : lw_okq (⟨"BathWater$Cases", "partAlikes", "(I)V"⟩, 9) := ⟨⟨by decide +kernel, by decide +kernel⟩, List.mem_of_getElem? (i := 148) (by decide +kernel), List.mem_of_getElem? (i := 670) (by decide +kernel), List.mem_of_getElem? (i := 671) (by decide +kernel)⟩
theorem lw_p24 : lw_okq (⟨"BathWater$Cases", "inAllThatPart", "(II)I"⟩, 9) := ⟨⟨by decide +kernel, by decide +kernel⟩, List.mem_of_getElem? (i := 148) (by decide +kernel), List.mem_of_getElem? (i := 711) (by decide +kernel), List.mem_of_getElem? (i := 712) (by decide +kernel)⟩
theorem lw_p25 : lw_okq (⟨"BathWater", "drawSet", "()I"⟩, 11) := ⟨⟨by decide +kernel, by decide +kernel⟩, List.mem_of_getElem? (i := 18) (by decide +kernel), List.mem_of_getElem? (i := 747) (by decide +kernel), List.mem_of_getElem? (i := 748) (by decide +kernel)⟩
theorem lw_p26 : lw_okq (⟨"BathWater", "draw", "(I)I"⟩, 11) := ⟨⟨by decide +kernel, by decide +kernel⟩, List.mem_of_getElem? (i := 18) (by decide +kernel), List.mem_of_getElem? (i := 751) (by decide +kernel), List.mem_of_getElem? (i := 752) (by decide +kernel)⟩
theorem lw_p27 : lw_okq (⟨"BathWater", "imageAt", "(I)LBathWater$Image;"⟩, 11) := ⟨⟨by decide +kernel, by decide +kernel⟩, List.mem_of_getElem? (i := 18) (by decide +kernel), List.mem_of_getElem? (i := 771) (by decide +kernel), List.mem_of_getElem? (i := 772) (by decide +kernel)⟩
theorem lw_p28 : lw_okq (⟨"BathWaterModel", "here", "()I"⟩, 32) := ⟨⟨by decide +kernel, by decide +kernel⟩, List.mem_of_getElem? (i := 783) (by decide +kernel), List.mem_of_getElem? (i := 902) (by decide +kernel), List.mem_of_getElem? (i := 903) (by decide +kernel)⟩
theorem lw_p29 : lw_okq (⟨"BathWaterModel", "takeClause", "()I"⟩, 32) := ⟨⟨by decide +kernel, by decide +kernel⟩, List.mem_of_getElem? (i := 783) (by decide +kernel), List.mem_of_getElem? (i := 906) (by decide +kernel), List.mem_of_getElem? (i := 907) (by decide +kernel)⟩
theorem lw_p30 : lw_okq (⟨"BathWaterModel", "readWord", "()V"⟩, 32) := ⟨⟨by decide +kernel, by decide +kernel⟩, List.mem_of_getElem? (i := 783) (by decide +kernel), List.mem_of_getElem? (i := 910) (by decide +kernel), List.mem_of_getElem? (i := 911) (by decide +kernel)⟩
theorem lw_p31 : lw_okq (⟨"BathWaterModel", "fails", "(II)I"⟩, 32) := ⟨⟨by decide +kernel, by decide +kernel⟩, List.mem_of_getElem? (i := 783) (by decide +kernel), List.mem_of_getElem? (i := 926) (by decide +kernel), List.mem_of_getElem? (i := 927) (by decide +kernel)⟩
def lw_privs_2 : List (MethodName × Nat) := [(⟨"BathWater$Falsehood", "coreOf", "(LBathWater$House;I)I"⟩, 5), (⟨"BathWater$Cases", "leadersOf", "(LBathWater$House;I)J"⟩, 9), (⟨"BathWater$Cases", "leaderOf", "(I)I"⟩, 9), (⟨"BathWater$Cases", "isNew", "(I)Z"⟩, 9), (⟨"BathWater$Cases", "leadersAt", "(I)J"⟩, 9), (⟨"BathWater$Cases", "addUseful", "(I)V"⟩, 9), (⟨"BathWater$Cases", "togetherWith", "(JI)I"⟩, 9), (⟨"BathWater$Cases", "partAlikes", "(I)V"⟩, 9), (⟨"BathWater$Cases", "inAllThatPart", "(II)I"⟩, 9), (⟨"BathWater", "drawSet", "()I"⟩, 11), (⟨"BathWater", "draw", "(I)I"⟩, 11), (⟨"BathWater", "imageAt", "(I)LBathWater$Image;"⟩, 11), (⟨"BathWaterModel", "here", "()I"⟩, 32), (⟨"BathWaterModel", "takeClause", "()I"⟩, 32), (⟨"BathWaterModel", "readWord", "()V"⟩, 32), (⟨"BathWaterModel", "fails", "(II)I"⟩, 32)]
theorem lw_r2 : ∀ q ∈ lw_privs_2, lw_okq q := List.forall_mem_cons.mpr ⟨lw_p16, List.forall_mem_cons.mpr ⟨lw_p17, List.forall_mem_cons.mpr ⟨lw_p18, List.forall_mem_cons.mpr ⟨lw_p19, List.forall_mem_cons.mpr ⟨lw_p20, List.forall_mem_cons.mpr ⟨lw_p21, List.forall_mem_cons.mpr ⟨lw_p22, List.forall_mem_cons.mpr ⟨lw_p23, List.forall_mem_cons.mpr ⟨lw_p24, List.forall_mem_cons.mpr ⟨lw_p25, List.forall_mem_cons.mpr ⟨lw_p26, List.forall_mem_cons.mpr ⟨lw_p27, List.forall_mem_cons.mpr ⟨lw_p28, List.forall_mem_cons.mpr ⟨lw_p29, List.forall_mem_cons.mpr ⟨lw_p30, List.forall_mem_cons.mpr ⟨lw_p31, fun _ h => absurd h List.not_mem_nil⟩⟩⟩⟩⟩⟩⟩⟩⟩⟩⟩⟩⟩⟩⟩⟩
theorem lw_p32 : lw_okq (⟨"BathWaterModel", "takeNumber", "(II)I"⟩, 32) := ⟨⟨by decide +kernel, by decide +kernel⟩, List.mem_of_getElem? (i := 783) (by decide +kernel), List.mem_of_getElem? (i := 930) (by decide +kernel), List.mem_of_getElem? (i := 931) (by decide +kernel)⟩
theorem lw_p33 : lw_okq (⟨"BathWaterModel", "takeBath", "()I"⟩, 32) := ⟨⟨by decide +kernel, by decide +kernel⟩, List.mem_of_getElem? (i := 783) (by decide +kernel), List.mem_of_getElem? (i := 937) (by decide +kernel), List.mem_of_getElem? (i := 938) (by decide +kernel)⟩
theorem lw_p34 : lw_okq (⟨"BathWaterModel", "into", "([IIII)I"⟩, 32) := ⟨⟨by decide +kernel, by decide +kernel⟩, List.mem_of_getElem? (i := 783) (by decide +kernel), List.mem_of_getElem? (i := 941) (by decide +kernel), List.mem_of_getElem? (i := 942) (by decide +kernel)⟩
theorem lw_p35 : lw_okq (⟨"BathWaterModel", "takeBather", "()I"⟩, 32) := ⟨⟨by decide +kernel, by decide +kernel⟩, List.mem_of_getElem? (i := 783) (by decide +kernel), List.mem_of_getElem? (i := 945) (by decide +kernel), List.mem_of_getElem? (i := 946) (by decide +kernel)⟩
theorem lw_p36 : lw_okq (⟨"BathWaterModel", "isClash", "(I)Z"⟩, 32) := ⟨⟨by decide +kernel, by decide +kernel⟩, List.mem_of_getElem? (i := 783) (by decide +kernel), List.mem_of_getElem? (i := 957) (by decide +kernel), List.mem_of_getElem? (i := 958) (by decide +kernel)⟩
theorem lw_p37 : lw_okq (⟨"BathWaterModel", "startEnds", "()V"⟩, 32) := ⟨⟨by decide +kernel, by decide +kernel⟩, List.mem_of_getElem? (i := 783) (by decide +kernel), List.mem_of_getElem? (i := 961) (by decide +kernel), List.mem_of_getElem? (i := 962) (by decide +kernel)⟩
theorem lw_p38 : lw_okq (⟨"BathWaterModel", "narrow", "(I)Z"⟩, 32) := ⟨⟨by decide +kernel, by decide +kernel⟩, List.mem_of_getElem? (i := 783) (by decide +kernel), List.mem_of_getElem? (i := 968) (by decide +kernel), List.mem_of_getElem? (i := 969) (by decide +kernel)⟩
theorem lw_p39 : lw_okq (⟨"BathWaterModel", "mostOf", "(III)I"⟩, 32) := ⟨⟨by decide +kernel, by decide +kernel⟩, List.mem_of_getElem? (i := 783) (by decide +kernel), List.mem_of_getElem? (i := 972) (by decide +kernel), List.mem_of_getElem? (i := 973) (by decide +kernel)⟩
theorem lw_p40 : lw_okq (⟨"BathWaterModel", "fingerOf", "(I)I"⟩, 32) := ⟨⟨by decide +kernel, by decide +kernel⟩, List.mem_of_getElem? (i := 783) (by decide +kernel), List.mem_of_getElem? (i := 976) (by decide +kernel), List.mem_of_getElem? (i := 977) (by decide +kernel)⟩
theorem lw_p41 : lw_okq (⟨"BathWaterModel", "waterAt", "(II)I"⟩, 32) := ⟨⟨by decide +kernel, by decide +kernel⟩, List.mem_of_getElem? (i := 783) (by decide +kernel), List.mem_of_getElem? (i := 980) (by decide +kernel), List.mem_of_getElem? (i := 981) (by decide +kernel)⟩
theorem lw_p42 : lw_okq (⟨"BathWaterModel", "leastOf", "(III)I"⟩, 32) := ⟨⟨by decide +kernel, by decide +kernel⟩, List.mem_of_getElem? (i := 783) (by decide +kernel), List.mem_of_getElem? (i := 984) (by decide +kernel), List.mem_of_getElem? (i := 985) (by decide +kernel)⟩
theorem lw_p43 : lw_okq (⟨"BathWaterModel", "isBath", "(I)Z"⟩, 32) := ⟨⟨by decide +kernel, by decide +kernel⟩, List.mem_of_getElem? (i := 783) (by decide +kernel), List.mem_of_getElem? (i := 992) (by decide +kernel), List.mem_of_getElem? (i := 993) (by decide +kernel)⟩
theorem lw_p44 : lw_okq (⟨"BathWaterModel", "isBather", "(I)Z"⟩, 32) := ⟨⟨by decide +kernel, by decide +kernel⟩, List.mem_of_getElem? (i := 783) (by decide +kernel), List.mem_of_getElem? (i := 1002) (by decide +kernel), List.mem_of_getElem? (i := 1003) (by decide +kernel)⟩
theorem lw_p45 : lw_okq (⟨"BathWaterModel", "findEnds", "()V"⟩, 32) := ⟨⟨by decide +kernel, by decide +kernel⟩, List.mem_of_getElem? (i := 783) (by decide +kernel), List.mem_of_getElem? (i := 1007) (by decide +kernel), List.mem_of_getElem? (i := 1008) (by decide +kernel)⟩
theorem lw_p46 : lw_okq (⟨"BathWaterModel", "isSet", "(I)Z"⟩, 32) := ⟨⟨by decide +kernel, by decide +kernel⟩, List.mem_of_getElem? (i := 783) (by decide +kernel), List.mem_of_getElem? (i := 1015) (by decide +kernel), List.mem_of_getElem? (i := 1016) (by decide +kernel)⟩
theorem lw_p47 : lw_okq (⟨"BathWaterModel", "sizeOf", "(I)I"⟩, 32) := ⟨⟨by decide +kernel, by decide +kernel⟩, List.mem_of_getElem? (i := 783) (by decide +kernel), List.mem_of_getElem? (i := 1023) (by decide +kernel), List.mem_of_getElem? (i := 1024) (by decide +kernel)⟩
def lw_privs_3 : List (MethodName × Nat) := [(⟨"BathWaterModel", "takeNumber", "(II)I"⟩, 32), (⟨"BathWaterModel", "takeBath", "()I"⟩, 32), (⟨"BathWaterModel", "into", "([IIII)I"⟩, 32), (⟨"BathWaterModel", "takeBather", "()I"⟩, 32), (⟨"BathWaterModel", "isClash", "(I)Z"⟩, 32), (⟨"BathWaterModel", "startEnds", "()V"⟩, 32), (⟨"BathWaterModel", "narrow", "(I)Z"⟩, 32), (⟨"BathWaterModel", "mostOf", "(III)I"⟩, 32), (⟨"BathWaterModel", "fingerOf", "(I)I"⟩, 32), (⟨"BathWaterModel", "waterAt", "(II)I"⟩, 32), (⟨"BathWaterModel", "leastOf", "(III)I"⟩, 32), (⟨"BathWaterModel", "isBath", "(I)Z"⟩, 32), (⟨"BathWaterModel", "isBather", "(I)Z"⟩, 32), (⟨"BathWaterModel", "findEnds", "()V"⟩, 32), (⟨"BathWaterModel", "isSet", "(I)Z"⟩, 32), (⟨"BathWaterModel", "sizeOf", "(I)I"⟩, 32)]
theorem lw_r3 : ∀ q ∈ lw_privs_3, lw_okq q := List.forall_mem_cons.mpr ⟨lw_p32, List.forall_mem_cons.mpr ⟨lw_p33, List.forall_mem_cons.mpr ⟨lw_p34, List.forall_mem_cons.mpr ⟨lw_p35, List.forall_mem_cons.mpr ⟨lw_p36, List.forall_mem_cons.mpr ⟨lw_p37, List.forall_mem_cons.mpr ⟨lw_p38, List.forall_mem_cons.mpr ⟨lw_p39, List.forall_mem_cons.mpr ⟨lw_p40, List.forall_mem_cons.mpr ⟨lw_p41, List.forall_mem_cons.mpr ⟨lw_p42, List.forall_mem_cons.mpr ⟨lw_p43, List.forall_mem_cons.mpr ⟨lw_p44, List.forall_mem_cons.mpr ⟨lw_p45, List.forall_mem_cons.mpr ⟨lw_p46, List.forall_mem_cons.mpr ⟨lw_p47, fun _ h => absurd h List.not_mem_nil⟩⟩⟩⟩⟩⟩⟩⟩⟩⟩⟩⟩⟩⟩⟩⟩
theorem lw_p48 : lw_okq (⟨"BathWaterModel", "heightOf", "(III)I"⟩, 32) := ⟨⟨by decide +kernel, by decide +kernel⟩, List.mem_of_getElem? (i := 783) (by decide +kernel), List.mem_of_getElem? (i := 1027) (by decide +kernel), List.mem_of_getElem? (i := 1028) (by decide +kernel)⟩
theorem lw_p49 : lw_okq (⟨"BathWaterModel", "isMorning", "(II)Z"⟩, 32) := ⟨⟨by decide +kernel, by decide +kernel⟩, List.mem_of_getElem? (i := 783) (by decide +kernel), List.mem_of_getElem? (i := 1043) (by decide +kernel), List.mem_of_getElem? (i := 1044) (by decide +kernel)⟩
theorem lw_p50 : lw_okq (⟨"BathWaterModel", "addMorning", "(IIII)V"⟩, 32) := ⟨⟨by decide +kernel, by decide +kernel⟩, List.mem_of_getElem? (i := 783) (by decide +kernel), List.mem_of_getElem? (i := 1047) (by decide +kernel), List.mem_of_getElem? (i := 1048) (by decide +kernel)⟩
theorem lw_p51 : lw_okq (⟨"BathWaterModel", "canBeIn", "(IIII)Z"⟩, 32) := ⟨⟨by decide +kernel, by decide +kernel⟩, List.mem_of_getElem? (i := 783) (by decide +kernel), List.mem_of_getElem? (i := 1066) (by decide +kernel), List.mem_of_getElem? (i := 1067) (by decide +kernel)⟩
theorem lw_p52 : lw_okq (⟨"BathWaterModel", "oddsOf", "(I)J"⟩, 32) := ⟨⟨by decide +kernel, by decide +kernel⟩, List.mem_of_getElem? (i := 783) (by decide +kernel), List.mem_of_getElem? (i := 1074) (by decide +kernel), List.mem_of_getElem? (i := 1075) (by decide +kernel)⟩
theorem lw_p53 : lw_okq (⟨"BathWaterModel", "isCase", "(I)Z"⟩, 32) := ⟨⟨by decide +kernel, by decide +kernel⟩, List.mem_of_getElem? (i := 783) (by decide +kernel), List.mem_of_getElem? (i := 1089) (by decide +kernel), List.mem_of_getElem? (i := 1090) (by decide +kernel)⟩
theorem lw_p54 : lw_okq (⟨"BathWaterModel", "tellsOf", "(III)I"⟩, 32) := ⟨⟨by decide +kernel, by decide +kernel⟩, List.mem_of_getElem? (i := 783) (by decide +kernel), List.mem_of_getElem? (i := 1094) (by decide +kernel), List.mem_of_getElem? (i := 1095) (by decide +kernel)⟩
theorem lw_p55 : lw_okq (⟨"BathWaterModel", "alikeOf", "(I)I"⟩, 32) := ⟨⟨by decide +kernel, by decide +kernel⟩, List.mem_of_getElem? (i := 783) (by decide +kernel), List.mem_of_getElem? (i := 1103) (by decide +kernel), List.mem_of_getElem? (i := 1104) (by decide +kernel)⟩
theorem lw_p56 : lw_okq (⟨"BathWaterModel", "isParted", "(III)Z"⟩, 32) := ⟨⟨by decide +kernel, by decide +kernel⟩, List.mem_of_getElem? (i := 783) (by decide +kernel), List.mem_of_getElem? (i := 1107) (by decide +kernel), List.mem_of_getElem? (i := 1108) (by decide +kernel)⟩
theorem lw_p57 : lw_okq (⟨"BathWaterModel", "allCases", "()I"⟩, 32) := ⟨⟨by decide +kernel, by decide +kernel⟩, List.mem_of_getElem? (i := 783) (by decide +kernel), List.mem_of_getElem? (i := 1115) (by decide +kernel), List.mem_of_getElem? (i := 1116) (by decide +kernel)⟩
theorem lw_p58 : lw_okq (⟨"BathWaterModel", "findNeeds", "(I)V"⟩, 32) := ⟨⟨by decide +kernel, by decide +kernel⟩, List.mem_of_getElem? (i := 783) (by decide +kernel), List.mem_of_getElem? (i := 1120) (by decide +kernel), List.mem_of_getElem? (i := 1121) (by decide +kernel)⟩
theorem lw_p59 : lw_okq (⟨"BathWaterModel", "findTries", "()V"⟩, 32) := ⟨⟨by decide +kernel, by decide +kernel⟩, List.mem_of_getElem? (i := 783) (by decide +kernel), List.mem_of_getElem? (i := 1124) (by decide +kernel), List.mem_of_getElem? (i := 1125) (by decide +kernel)⟩
theorem lw_p60 : lw_okq (⟨"BathWaterModel", "isKnown", "(I)Z"⟩, 32) := ⟨⟨by decide +kernel, by decide +kernel⟩, List.mem_of_getElem? (i := 783) (by decide +kernel), List.mem_of_getElem? (i := 1128) (by decide +kernel), List.mem_of_getElem? (i := 1129) (by decide +kernel)⟩
theorem lw_p61 : lw_okq (⟨"BathWaterModel", "worstBy", "(II)I"⟩, 32) := ⟨⟨by decide +kernel, by decide +kernel⟩, List.mem_of_getElem? (i := 783) (by decide +kernel), List.mem_of_getElem? (i := 1132) (by decide +kernel), List.mem_of_getElem? (i := 1133) (by decide +kernel)⟩
theorem lw_p62 : lw_okq (⟨"BathWaterModel", "draw", "(I)I"⟩, 32) := ⟨⟨by decide +kernel, by decide +kernel⟩, List.mem_of_getElem? (i := 783) (by decide +kernel), List.mem_of_getElem? (i := 1163) (by decide +kernel), List.mem_of_getElem? (i := 1164) (by decide +kernel)⟩
def lw_privs_4 : List (MethodName × Nat) := [(⟨"BathWaterModel", "heightOf", "(III)I"⟩, 32), (⟨"BathWaterModel", "isMorning", "(II)Z"⟩, 32), (⟨"BathWaterModel", "addMorning", "(IIII)V"⟩, 32), (⟨"BathWaterModel", "canBeIn", "(IIII)Z"⟩, 32), (⟨"BathWaterModel", "oddsOf", "(I)J"⟩, 32), (⟨"BathWaterModel", "isCase", "(I)Z"⟩, 32), (⟨"BathWaterModel", "tellsOf", "(III)I"⟩, 32), (⟨"BathWaterModel", "alikeOf", "(I)I"⟩, 32), (⟨"BathWaterModel", "isParted", "(III)Z"⟩, 32), (⟨"BathWaterModel", "allCases", "()I"⟩, 32), (⟨"BathWaterModel", "findNeeds", "(I)V"⟩, 32), (⟨"BathWaterModel", "findTries", "()V"⟩, 32), (⟨"BathWaterModel", "isKnown", "(I)Z"⟩, 32), (⟨"BathWaterModel", "worstBy", "(II)I"⟩, 32), (⟨"BathWaterModel", "draw", "(I)I"⟩, 32)]
theorem lw_r4 : ∀ q ∈ lw_privs_4, lw_okq q := List.forall_mem_cons.mpr ⟨lw_p48, List.forall_mem_cons.mpr ⟨lw_p49, List.forall_mem_cons.mpr ⟨lw_p50, List.forall_mem_cons.mpr ⟨lw_p51, List.forall_mem_cons.mpr ⟨lw_p52, List.forall_mem_cons.mpr ⟨lw_p53, List.forall_mem_cons.mpr ⟨lw_p54, List.forall_mem_cons.mpr ⟨lw_p55, List.forall_mem_cons.mpr ⟨lw_p56, List.forall_mem_cons.mpr ⟨lw_p57, List.forall_mem_cons.mpr ⟨lw_p58, List.forall_mem_cons.mpr ⟨lw_p59, List.forall_mem_cons.mpr ⟨lw_p60, List.forall_mem_cons.mpr ⟨lw_p61, List.forall_mem_cons.mpr ⟨lw_p62, fun _ h => absurd h List.not_mem_nil⟩⟩⟩⟩⟩⟩⟩⟩⟩⟩⟩⟩⟩⟩⟩
def lw_privs : List (MethodName × Nat) := lw_privs_1 ++ (lw_privs_2 ++ (lw_privs_3 ++ (lw_privs_4)))
def lw_tbl : List Cond := k2_sels lw_privs ++ tables_1
theorem lw_privs_ok : ∀ q ∈ lw_privs, lw_okq q := by
  show ∀ q ∈ lw_privs_1 ++ (lw_privs_2 ++ (lw_privs_3 ++ (lw_privs_4))), lw_okq q
  exact List.forall_mem_append.mpr ⟨lw_r1, List.forall_mem_append.mpr ⟨lw_r2, List.forall_mem_append.mpr ⟨lw_r3, lw_r4⟩⟩⟩
def RX0 : String := "BathWater$Cases"
def TX0 : u_T := fun k => match k with
  | 0 => ("BathWater$Cases", "leaders", "[J", true)
  | 1 => ("BathWater$Cases", "useful", "[I", true)
  | 2 => ("BathWater$Cases", "parts", "[I", true)
  | 3 => ("BathWater$Cases", "alikes", "[I", true)
  | 4 => ("BathWater$Cases", "known", "[I", true)
  | 5 => ("BathWater$Cases", "heights", "[I", true)
  | 6 => ("BathWater$Cases", "usefulCount", "I", false)
  | 7 => ("BathWater$Cases", "present", "I", false)
  | _ => ("BathWater$Cases", "built", "Z", false)
def tyX0 : Nat → FieldType := fun k => match k with
  | 0 => .array .long
  | 1 => .array .int
  | 2 => .array .int
  | 3 => .array .int
  | 4 => .array .int
  | 5 => .array .int
  | 6 => .int
  | 7 => .int
  | _ => .boolean
abbrev wsX00 : List Cond := u_ws RX0 TX0 9
theorem nmX0 : ∀ a, a < 9 → ∀ b, b < 9 → a ≠ b → (TX0 a).2.1 ≠ (TX0 b).2.1 := by decide +kernel
theorem tyX0_ok : ∀ k, k < 9 → parseFieldDescriptor (TX0 k).2.2.1 = some (tyX0 k) := by decide +kernel
abbrev cX0_init : ByteArray := prog_2_method_1_code
def yX0_init : MethodName := ⟨RX0, "<init>", "()V"⟩
abbrev cX0_build : ByteArray := prog_2_method_2_code
def yX0_build : MethodName := ⟨RX0, "build", "(LBathWater$House;)V"⟩
abbrev cX0_bathOf : ByteArray := prog_2_method_3_code
def yX0_bathOf : MethodName := ⟨RX0, "bathOf", "(I)I"⟩
abbrev cX0_setOf : ByteArray := prog_2_method_4_code
def yX0_setOf : MethodName := ⟨RX0, "setOf", "(I)I"⟩
abbrev cX0_presentIn : ByteArray := prog_2_method_5_code
def yX0_presentIn : MethodName := ⟨RX0, "presentIn", "(LBathWater$House;)I"⟩
abbrev cX0_leadersOf : ByteArray := prog_2_method_6_code
def yX0_leadersOf : MethodName := ⟨RX0, "leadersOf", "(LBathWater$House;I)J"⟩
abbrev cX0_leaderOf : ByteArray := prog_2_method_7_code
def yX0_leaderOf : MethodName := ⟨RX0, "leaderOf", "(I)I"⟩
abbrev cX0_isNew : ByteArray := prog_2_method_8_code
def yX0_isNew : MethodName := ⟨RX0, "isNew", "(I)Z"⟩
abbrev cX0_addUseful : ByteArray := prog_2_method_9_code
def yX0_addUseful : MethodName := ⟨RX0, "addUseful", "(I)V"⟩
abbrev cX0_togetherWith : ByteArray := prog_2_method_10_code
def yX0_togetherWith : MethodName := ⟨RX0, "togetherWith", "(JI)I"⟩
abbrev cX0_partAlikes : ByteArray := prog_2_method_11_code
def yX0_partAlikes : MethodName := ⟨RX0, "partAlikes", "(I)V"⟩
abbrev cX0_leadersAt : ByteArray := prog_2_method_12_code
def yX0_leadersAt : MethodName := ⟨RX0, "leadersAt", "(I)J"⟩
abbrev cX0_leaderIn : ByteArray := prog_2_method_13_code
def yX0_leaderIn : MethodName := ⟨RX0, "leaderIn", "(JI)I"⟩
abbrev cX0_alikeTo : ByteArray := prog_2_method_14_code
def yX0_alikeTo : MethodName := ⟨RX0, "alikeTo", "(I)I"⟩
abbrev cX0_merged : ByteArray := prog_2_method_15_code
def yX0_merged : MethodName := ⟨RX0, "merged", "(I)I"⟩
abbrev cX0_fewest : ByteArray := prog_2_method_16_code
def yX0_fewest : MethodName := ⟨RX0, "fewest", "(I)I"⟩
abbrev cX0_first : ByteArray := prog_2_method_17_code
def yX0_first : MethodName := ⟨RX0, "first", "(II)I"⟩
abbrev cX0_isEnough : ByteArray := prog_2_method_18_code
def yX0_isEnough : MethodName := ⟨RX0, "isEnough", "(LBathWater$Cases;II)Z"⟩
abbrev cX0_partsEnough : ByteArray := prog_2_method_19_code
def yX0_partsEnough : MethodName := ⟨RX0, "partsEnough", "(LBathWater$Cases;III)Z"⟩
abbrev cX0_indispensable : ByteArray := prog_2_method_20_code
def yX0_indispensable : MethodName := ⟨RX0, "indispensable", "(I)I"⟩
abbrev cX0_inAllThatPart : ByteArray := prog_2_method_21_code
def yX0_inAllThatPart : MethodName := ⟨RX0, "inAllThatPart", "(II)I"⟩
def RX1 : String := "BathWater$Ends"
def TX1 : u_T := fun k => match k with
  | 0 => ("BathWater$Ends", "lower", "[I", true)
  | 1 => ("BathWater$Ends", "upper", "[I", true)
  | 2 => ("BathWater$Ends", "sets", "[I", true)
  | 3 => ("BathWater$Ends", "least", "[I", true)
  | 4 => ("BathWater$Ends", "greatest", "[I", true)
  | _ => ("BathWater$Ends", "clash", "Z", false)
def tyX1 : Nat → FieldType := fun k => match k with
  | 0 => .array .int
  | 1 => .array .int
  | 2 => .array .int
  | 3 => .array .int
  | 4 => .array .int
  | _ => .boolean
abbrev wsX10 : List Cond := u_ws RX1 TX1 6
theorem nmX1 : ∀ a, a < 6 → ∀ b, b < 6 → a ≠ b → (TX1 a).2.1 ≠ (TX1 b).2.1 := by decide +kernel
theorem tyX1_ok : ∀ k, k < 6 → parseFieldDescriptor (TX1 k).2.2.1 = some (tyX1 k) := by decide +kernel
abbrev cX1_init : ByteArray := prog_3_method_1_code
def yX1_init : MethodName := ⟨RX1, "<init>", "()V"⟩
abbrev cX1_learn : ByteArray := prog_3_method_2_code
def yX1_learn : MethodName := ⟨RX1, "learn", "(LBathWater$House;LBathWater$Rows;)V"⟩
abbrev cX1_load : ByteArray := prog_3_method_3_code
def yX1_load : MethodName := ⟨RX1, "load", "(LBathWater$House;LBathWater$Rows;)V"⟩
abbrev cX1_reset : ByteArray := prog_3_method_4_code
def yX1_reset : MethodName := ⟨RX1, "reset", "(LBathWater$House;)V"⟩
abbrev cX1_stands : ByteArray := prog_3_method_5_code
def yX1_stands : MethodName := ⟨RX1, "stands", "(LBathWater$House;I)Z"⟩
abbrev cX1_narrow : ByteArray := prog_3_method_6_code
def yX1_narrow : MethodName := ⟨RX1, "narrow", "(I)I"⟩
abbrev cX1_lowest : ByteArray := prog_3_method_7_code
def yX1_lowest : MethodName := ⟨RX1, "lowest", "(I)I"⟩
abbrev cX1_highest : ByteArray := prog_3_method_8_code
def yX1_highest : MethodName := ⟨RX1, "highest", "(I)I"⟩
abbrev cX1_sum : ByteArray := prog_3_method_9_code
def yX1_sum : MethodName := ⟨RX1, "sum", "([II)I"⟩
abbrev cX1_allow : ByteArray := prog_3_method_10_code
def yX1_allow : MethodName := ⟨RX1, "allow", "(III)Z"⟩
def RX2 : String := "BathWater$Falsehood"
def TX2 : u_T := fun k => match k with
  | 0 => ("BathWater$Falsehood", "trial", "LBathWater$Ends;", true)
  | 1 => ("BathWater$Falsehood", "cores", "[I", true)
  | 2 => ("BathWater$Falsehood", "coreCount", "I", false)
  | 3 => ("BathWater$Falsehood", "found", "Z", false)
  | _ => ("BathWater$Falsehood", "falseOnes", "I", false)
def tyX2 : Nat → FieldType := fun k => match k with
  | 0 => .object "BathWater$Ends"
  | 1 => .array .int
  | 2 => .int
  | 3 => .boolean
  | _ => .int
abbrev wsX20 : List Cond := u_ws RX2 TX2 5
theorem nmX2 : ∀ a, a < 5 → ∀ b, b < 5 → a ≠ b → (TX2 a).2.1 ≠ (TX2 b).2.1 := by decide +kernel
theorem tyX2_ok : ∀ k, k < 5 → parseFieldDescriptor (TX2 k).2.2.1 = some (tyX2 k) := by decide +kernel
abbrev cX2_init : ByteArray := prog_4_method_1_code
def yX2_init : MethodName := ⟨RX2, "<init>", "()V"⟩
abbrev cX2_fewest : ByteArray := prog_4_method_2_code
def yX2_fewest : MethodName := ⟨RX2, "fewest", "(LBathWater$House;LBathWater$Rows;)I"⟩
abbrev cX2_isFree : ByteArray := prog_4_method_3_code
def yX2_isFree : MethodName := ⟨RX2, "isFree", "(LBathWater$House;II)Z"⟩
abbrev cX2_coreOf : ByteArray := prog_4_method_4_code
def yX2_coreOf : MethodName := ⟨RX2, "coreOf", "(LBathWater$House;I)I"⟩
abbrev cX2_nextOfLikeCount : ByteArray := prog_4_method_5_code
def yX2_nextOfLikeCount : MethodName := ⟨RX2, "nextOfLikeCount", "(II)I"⟩
def RX3 : String := "BathWater$House"
def TX3 : u_T := fun k => match k with
  | 0 => ("BathWater$House", "bathRows", "[I", true)
  | 1 => ("BathWater$House", "batherRows", "[I", true)
  | 2 => ("BathWater$House", "baths", "I", false)
  | 3 => ("BathWater$House", "bathers", "I", false)
  | _ => ("BathWater$House", "odd", "I", false)
def tyX3 : Nat → FieldType := fun k => match k with
  | 0 => .array .int
  | 1 => .array .int
  | 2 => .int
  | 3 => .int
  | _ => .int
abbrev wsX30 : List Cond := u_ws RX3 TX3 5
theorem nmX3 : ∀ a, a < 5 → ∀ b, b < 5 → a ≠ b → (TX3 a).2.1 ≠ (TX3 b).2.1 := by decide +kernel
theorem tyX3_ok : ∀ k, k < 5 → parseFieldDescriptor (TX3 k).2.2.1 = some (tyX3 k) := by decide +kernel
abbrev cX3_init : ByteArray := prog_5_method_1_code
def yX3_init : MethodName := ⟨RX3, "<init>", "()V"⟩
abbrev cX3_clear : ByteArray := prog_5_method_2_code
def yX3_clear : MethodName := ⟨RX3, "clear", "()V"⟩
abbrev cX3_addBath : ByteArray := prog_5_method_3_code
def yX3_addBath : MethodName := ⟨RX3, "addBath", "(IIII)V"⟩
abbrev cX3_addBather : ByteArray := prog_5_method_4_code
def yX3_addBather : MethodName := ⟨RX3, "addBather", "(IIII)V"⟩
abbrev cX3_fill : ByteArray := prog_5_method_5_code
def yX3_fill : MethodName := ⟨RX3, "fill", "([IIIIII)V"⟩
abbrev cX3_hasBath : ByteArray := prog_5_method_6_code
def yX3_hasBath : MethodName := ⟨RX3, "hasBath", "(I)Z"⟩
abbrev cX3_hasBather : ByteArray := prog_5_method_7_code
def yX3_hasBather : MethodName := ⟨RX3, "hasBather", "(I)Z"⟩
abbrev cX3_hasSet : ByteArray := prog_5_method_8_code
def yX3_hasSet : MethodName := ⟨RX3, "hasSet", "(I)Z"⟩
abbrev cX3_hasCase : ByteArray := prog_5_method_9_code
def yX3_hasCase : MethodName := ⟨RX3, "hasCase", "(I)Z"⟩
abbrev cX3_sets : ByteArray := prog_5_method_10_code
def yX3_sets : MethodName := ⟨RX3, "sets", "()I"⟩
abbrev cX3_ofBath : ByteArray := prog_5_method_11_code
def yX3_ofBath : MethodName := ⟨RX3, "ofBath", "(II)I"⟩
abbrev cX3_ofBather : ByteArray := prog_5_method_12_code
def yX3_ofBather : MethodName := ⟨RX3, "ofBather", "(II)I"⟩
abbrev cX3_measure : ByteArray := prog_5_method_13_code
def yX3_measure : MethodName := ⟨RX3, "measure", "(I)I"⟩
abbrev cX3_waterAt : ByteArray := prog_5_method_14_code
def yX3_waterAt : MethodName := ⟨RX3, "waterAt", "(II)I"⟩
abbrev cX3_heightOf : ByteArray := prog_5_method_15_code
def yX3_heightOf : MethodName := ⟨RX3, "heightOf", "(III)I"⟩
abbrev cX3_leastOf : ByteArray := prog_5_method_16_code
def yX3_leastOf : MethodName := ⟨RX3, "leastOf", "(III)I"⟩
abbrev cX3_greatestOf : ByteArray := prog_5_method_17_code
def yX3_greatestOf : MethodName := ⟨RX3, "greatestOf", "(III)I"⟩
abbrev cX3_finest : ByteArray := prog_5_method_18_code
def yX3_finest : MethodName := ⟨RX3, "finest", "()I"⟩
abbrev cX3_inTruth : ByteArray := prog_5_method_19_code
def yX3_inTruth : MethodName := ⟨RX3, "inTruth", "(I)I"⟩
abbrev cX3_inCase : ByteArray := prog_5_method_20_code
def yX3_inCase : MethodName := ⟨RX3, "inCase", "(II)I"⟩
abbrev cX3_oddsOf : ByteArray := prog_5_method_21_code
def yX3_oddsOf : MethodName := ⟨RX3, "oddsOf", "(I)I"⟩
def RX4 : String := "BathWater$Image"
def TX4 : u_T := fun k => match k with
  | 0 => ("BathWater$Image", "mornings", "LBathWater$Rows;", true)
  | 1 => ("BathWater$Image", "drawn", "I", false)
  | _ => ("BathWater$Image", "kept", "Z", false)
def tyX4 : Nat → FieldType := fun k => match k with
  | 0 => .object "BathWater$Rows"
  | 1 => .int
  | _ => .boolean
abbrev wsX40 : List Cond := u_ws RX4 TX4 3
theorem nmX4 : ∀ a, a < 3 → ∀ b, b < 3 → a ≠ b → (TX4 a).2.1 ≠ (TX4 b).2.1 := by decide +kernel
theorem tyX4_ok : ∀ k, k < 3 → parseFieldDescriptor (TX4 k).2.2.1 = some (tyX4 k) := by decide +kernel
abbrev cX4_init : ByteArray := prog_6_method_1_code
def yX4_init : MethodName := ⟨RX4, "<init>", "()V"⟩
def RX5 : String := "BathWater$Reader"
def TX5 : u_T := fun k => match k with
  | 0 => ("BathWater$Reader", "bytes", "[B", true)
  | 1 => ("BathWater$Reader", "length", "I", false)
  | 2 => ("BathWater$Reader", "fault", "I", false)
  | 3 => ("BathWater$Reader", "place", "I", false)
  | 4 => ("BathWater$Reader", "at", "I", false)
  | 5 => ("BathWater$Reader", "numberAt", "I", false)
  | _ => ("BathWater$Reader", "oddTold", "Z", false)
def tyX5 : Nat → FieldType := fun k => match k with
  | 0 => .array .byte
  | 1 => .int
  | 2 => .int
  | 3 => .int
  | 4 => .int
  | 5 => .int
  | _ => .boolean
abbrev wsX50 : List Cond := u_ws RX5 TX5 7
theorem nmX5 : ∀ a, a < 7 → ∀ b, b < 7 → a ≠ b → (TX5 a).2.1 ≠ (TX5 b).2.1 := by decide +kernel
theorem tyX5_ok : ∀ k, k < 7 → parseFieldDescriptor (TX5 k).2.2.1 = some (tyX5 k) := by decide +kernel
abbrev cX5_init : ByteArray := prog_7_method_1_code
def yX5_init : MethodName := ⟨RX5, "<init>", "()V"⟩
abbrev cX5_take : ByteArray := prog_7_method_2_code
def yX5_take : MethodName := ⟨RX5, "take", "(IJ)Z"⟩
abbrev cX5_read : ByteArray := prog_7_method_3_code
def yX5_read : MethodName := ⟨RX5, "read", "(LBathWater$House;)V"⟩
abbrev cX5_readClause : ByteArray := prog_7_method_4_code
def yX5_readClause : MethodName := ⟨RX5, "readClause", "(LBathWater$House;)V"⟩
abbrev cX5_readBath : ByteArray := prog_7_method_5_code
def yX5_readBath : MethodName := ⟨RX5, "readBath", "(LBathWater$House;)V"⟩
abbrev cX5_readBather : ByteArray := prog_7_method_6_code
def yX5_readBather : MethodName := ⟨RX5, "readBather", "(LBathWater$House;)V"⟩
abbrev cX5_readOdd : ByteArray := prog_7_method_7_code
def yX5_readOdd : MethodName := ⟨RX5, "readOdd", "(LBathWater$House;)V"⟩
abbrev cX5_readNumber : ByteArray := prog_7_method_8_code
def yX5_readNumber : MethodName := ⟨RX5, "readNumber", "(II)I"⟩
abbrev cX5_readEnd : ByteArray := prog_7_method_9_code
def yX5_readEnd : MethodName := ⟨RX5, "readEnd", "()V"⟩
abbrev cX5_skipBlanks : ByteArray := prog_7_method_10_code
def yX5_skipBlanks : MethodName := ⟨RX5, "skipBlanks", "()V"⟩
abbrev cX5_failIf : ByteArray := prog_7_method_11_code
def yX5_failIf : MethodName := ⟨RX5, "failIf", "(ZII)V"⟩
abbrev cX5_wordIs : ByteArray := prog_7_method_12_code
def yX5_wordIs : MethodName := ⟨RX5, "wordIs", "(Ljava/lang/String;I)Z"⟩
abbrev cX5_signAt : ByteArray := prog_7_method_13_code
def yX5_signAt : MethodName := ⟨RX5, "signAt", "(I)I"⟩
abbrev cX5_isLetter : ByteArray := prog_7_method_14_code
def yX5_isLetter : MethodName := ⟨RX5, "isLetter", "(I)Z"⟩
abbrev cX5_isFigure : ByteArray := prog_7_method_15_code
def yX5_isFigure : MethodName := ⟨RX5, "isFigure", "(I)Z"⟩
def RX6 : String := "BathWater$Rows"
def TX6 : u_T := fun k => match k with
  | 0 => ("BathWater$Rows", "cells", "[I", true)
  | _ => ("BathWater$Rows", "count", "I", false)
def tyX6 : Nat → FieldType := fun k => match k with
  | 0 => .array .int
  | _ => .int
abbrev wsX60 : List Cond := u_ws RX6 TX6 2
theorem nmX6 : ∀ a, a < 2 → ∀ b, b < 2 → a ≠ b → (TX6 a).2.1 ≠ (TX6 b).2.1 := by decide +kernel
theorem tyX6_ok : ∀ k, k < 2 → parseFieldDescriptor (TX6 k).2.2.1 = some (tyX6 k) := by decide +kernel
abbrev cX6_init : ByteArray := prog_8_method_1_code
def yX6_init : MethodName := ⟨RX6, "<init>", "(I)V"⟩
abbrev cX6_hasRoom : ByteArray := prog_8_method_2_code
def yX6_hasRoom : MethodName := ⟨RX6, "hasRoom", "()Z"⟩
abbrev cX6_add : ByteArray := prog_8_method_3_code
def yX6_add : MethodName := ⟨RX6, "add", "(IIII)V"⟩
abbrev cX6_drop : ByteArray := prog_8_method_4_code
def yX6_drop : MethodName := ⟨RX6, "drop", "(I)V"⟩
abbrev cX6_copy : ByteArray := prog_8_method_5_code
def yX6_copy : MethodName := ⟨RX6, "copy", "(LBathWater$Rows;)V"⟩
abbrev cX6_bathAt : ByteArray := prog_8_method_6_code
def yX6_bathAt : MethodName := ⟨RX6, "bathAt", "(I)I"⟩
abbrev cX6_hourAt : ByteArray := prog_8_method_7_code
def yX6_hourAt : MethodName := ⟨RX6, "hourAt", "(I)I"⟩
abbrev cX6_setAt : ByteArray := prog_8_method_8_code
def yX6_setAt : MethodName := ⟨RX6, "setAt", "(I)I"⟩
abbrev cX6_heightAt : ByteArray := prog_8_method_9_code
def yX6_heightAt : MethodName := ⟨RX6, "heightAt", "(I)I"⟩
abbrev cX6_cellAt : ByteArray := prog_8_method_10_code
def yX6_cellAt : MethodName := ⟨RX6, "cellAt", "(II)I"⟩
def RX7 : String := "BathWater"
def TX7 : u_T := fun k => match k with
  | 0 => ("BathWater", "reader", "LBathWater$Reader;", true)
  | 1 => ("BathWater", "mornings", "LBathWater$Rows;", true)
  | 2 => ("BathWater", "entries", "LBathWater$Rows;", true)
  | 3 => ("BathWater", "image0", "LBathWater$Image;", true)
  | 4 => ("BathWater", "image1", "LBathWater$Image;", true)
  | 5 => ("BathWater", "ends", "LBathWater$Ends;", true)
  | 6 => ("BathWater", "falsehood", "LBathWater$Falsehood;", true)
  | 7 => ("BathWater", "tables", "LBathWater$Cases;", true)
  | 8 => ("BathWater", "home", "LBathWater$House;", false)
  | 9 => ("BathWater", "spare", "LBathWater$House;", false)
  | _ => ("BathWater", "drawn", "I", false)
def tyX7 : Nat → FieldType := fun k => match k with
  | 0 => .object "BathWater$Reader"
  | 1 => .object "BathWater$Rows"
  | 2 => .object "BathWater$Rows"
  | 3 => .object "BathWater$Image"
  | 4 => .object "BathWater$Image"
  | 5 => .object "BathWater$Ends"
  | 6 => .object "BathWater$Falsehood"
  | 7 => .object "BathWater$Cases"
  | 8 => .object "BathWater$House"
  | 9 => .object "BathWater$House"
  | _ => .int
abbrev wsX70 : List Cond := u_ws RX7 TX7 11
theorem nmX7 : ∀ a, a < 11 → ∀ b, b < 11 → a ≠ b → (TX7 a).2.1 ≠ (TX7 b).2.1 := by decide +kernel
theorem tyX7_ok : ∀ k, k < 11 → parseFieldDescriptor (TX7 k).2.2.1 = some (tyX7 k) := by decide +kernel
abbrev cX7_init : ByteArray := prog_1_method_1_code
def yX7_init : MethodName := ⟨RX7, "<init>", "()V"⟩
abbrev cX7_feed : ByteArray := prog_1_method_2_code
def yX7_feed : MethodName := ⟨RX7, "feed", "(IJ)I"⟩
abbrev cX7_house : ByteArray := prog_1_method_3_code
def yX7_house : MethodName := ⟨RX7, "house", "()I"⟩
abbrev cX7_fault : ByteArray := prog_1_method_4_code
def yX7_fault : MethodName := ⟨RX7, "fault", "()I"⟩
abbrev cX7_told : ByteArray := prog_1_method_5_code
def yX7_told : MethodName := ⟨RX7, "told", "(I)I"⟩
abbrev cX7_bath : ByteArray := prog_1_method_6_code
def yX7_bath : MethodName := ⟨RX7, "bath", "(II)I"⟩
abbrev cX7_bather : ByteArray := prog_1_method_7_code
def yX7_bather : MethodName := ⟨RX7, "bather", "(II)I"⟩
abbrev cX7_height : ByteArray := prog_1_method_8_code
def yX7_height : MethodName := ⟨RX7, "height", "(III)I"⟩
abbrev cX7_span : ByteArray := prog_1_method_9_code
def yX7_span : MethodName := ⟨RX7, "span", "(IIII)I"⟩
abbrev cX7_morning : ByteArray := prog_1_method_10_code
def yX7_morning : MethodName := ⟨RX7, "morning", "(IIII)I"⟩
abbrev cX7_strike : ByteArray := prog_1_method_11_code
def yX7_strike : MethodName := ⟨RX7, "strike", "(I)I"⟩
abbrev cX7_wrong : ByteArray := prog_1_method_12_code
def yX7_wrong : MethodName := ⟨RX7, "wrong", "()I"⟩
abbrev cX7_canBe : ByteArray := prog_1_method_13_code
def yX7_canBe : MethodName := ⟨RX7, "canBe", "(IIII)I"⟩
abbrev cX7_likely : ByteArray := prog_1_method_14_code
def yX7_likely : MethodName := ⟨RX7, "likely", "(IIII)I"⟩
abbrev cX7_odds : ByteArray := prog_1_method_15_code
def yX7_odds : MethodName := ⟨RX7, "odds", "(I)I"⟩
abbrev cX7_tells : ByteArray := prog_1_method_16_code
def yX7_tells : MethodName := ⟨RX7, "tells", "(III)I"⟩
abbrev cX7_alike : ByteArray := prog_1_method_17_code
def yX7_alike : MethodName := ⟨RX7, "alike", "(I)I"⟩
abbrev cX7_needed : ByteArray := prog_1_method_18_code
def yX7_needed : MethodName := ⟨RX7, "needed", "(II)I"⟩
abbrev cX7_away : ByteArray := prog_1_method_19_code
def yX7_away : MethodName := ⟨RX7, "away", "()I"⟩
abbrev cX7_called : ByteArray := prog_1_method_20_code
def yX7_called : MethodName := ⟨RX7, "called", "(II)I"⟩
abbrev cX7_write : ByteArray := prog_1_method_21_code
def yX7_write : MethodName := ⟨RX7, "write", "(IIII)I"⟩
abbrev cX7_tear : ByteArray := prog_1_method_22_code
def yX7_tear : MethodName := ⟨RX7, "tear", "()I"⟩
abbrev cX7_judge : ByteArray := prog_1_method_23_code
def yX7_judge : MethodName := ⟨RX7, "judge", "()I"⟩
abbrev cX7_drift : ByteArray := prog_1_method_24_code
def yX7_drift : MethodName := ⟨RX7, "drift", "(II)I"⟩
abbrev cX7_forget : ByteArray := prog_1_method_25_code
def yX7_forget : MethodName := ⟨RX7, "forget", "()I"⟩
abbrev cX7_seed : ByteArray := prog_1_method_26_code
def yX7_seed : MethodName := ⟨RX7, "seed", "(I)I"⟩
abbrev cX7_keep : ByteArray := prog_1_method_27_code
def yX7_keep : MethodName := ⟨RX7, "keep", "(I)I"⟩
abbrev cX7_goBack : ByteArray := prog_1_method_28_code
def yX7_goBack : MethodName := ⟨RX7, "goBack", "(I)I"⟩
abbrev cX7_learn : ByteArray := prog_1_method_29_code
def yX7_learn : MethodName := ⟨RX7, "learn", "()V"⟩
abbrev cX7_refusalOfRow : ByteArray := prog_1_method_30_code
def yX7_refusalOfRow : MethodName := ⟨RX7, "refusalOfRow", "(IIIILBathWater$Rows;)I"⟩
abbrev cX7_imageAt : ByteArray := prog_1_method_31_code
def yX7_imageAt : MethodName := ⟨RX7, "imageAt", "(I)LBathWater$Image;"⟩
abbrev cX7_drawSet : ByteArray := prog_1_method_32_code
def yX7_drawSet : MethodName := ⟨RX7, "drawSet", "()I"⟩
abbrev cX7_draw : ByteArray := prog_1_method_33_code
def yX7_draw : MethodName := ⟨RX7, "draw", "(I)I"⟩
abbrev cX7_isHour : ByteArray := prog_1_method_34_code
def yX7_isHour : MethodName := ⟨RX7, "isHour", "(I)Z"⟩
abbrev cX7_isHeight : ByteArray := prog_1_method_35_code
def yX7_isHeight : MethodName := ⟨RX7, "isHeight", "(I)Z"⟩
abbrev cX7_has : ByteArray := prog_1_method_36_code
def yX7_has : MethodName := ⟨RX7, "has", "(II)Z"⟩
def RX8 : String := "BathWaterModel"
def TX8 : u_T := fun k => match k with
  | 0 => ("BathWaterModel", "baths", "I", false)
  | 1 => ("BathWaterModel", "bath", "[I", true)
  | 2 => ("BathWaterModel", "bathers", "I", false)
  | 3 => ("BathWaterModel", "bather", "[I", true)
  | 4 => ("BathWaterModel", "odd", "I", false)
  | 5 => ("BathWaterModel", "mornings", "I", false)
  | 6 => ("BathWaterModel", "morning", "[I", true)
  | 7 => ("BathWaterModel", "seed", "I", false)
  | 8 => ("BathWaterModel", "text", "[I", true)
  | 9 => ("BathWaterModel", "texted", "I", false)
  | 10 => ("BathWaterModel", "faultPlace", "I", false)
  | 11 => ("BathWaterModel", "at0", "I", false)
  | 12 => ("BathWaterModel", "said", "J", false)
  | 13 => ("BathWaterModel", "wordEnd", "I", false)
  | 14 => ("BathWaterModel", "number", "I", false)
  | 15 => ("BathWaterModel", "numberAt", "I", false)
  | 16 => ("BathWaterModel", "readBaths", "I", false)
  | 17 => ("BathWaterModel", "readBath", "[I", true)
  | 18 => ("BathWaterModel", "readBathers", "I", false)
  | 19 => ("BathWaterModel", "readBather", "[I", true)
  | 20 => ("BathWaterModel", "readOdd", "I", false)
  | 21 => ("BathWaterModel", "low", "[I", true)
  | 22 => ("BathWaterModel", "high", "[I", true)
  | 23 => ("BathWaterModel", "changes", "Z", false)
  | 24 => ("BathWaterModel", "needs", "[I", true)
  | 25 => ("BathWaterModel", "likes", "[I", true)
  | 26 => ("BathWaterModel", "heights", "[I", true)
  | 27 => ("BathWaterModel", "tries", "I", false)
  | 28 => ("BathWaterModel", "booked", "I", false)
  | 29 => ("BathWaterModel", "book", "[I", true)
  | 30 => ("BathWaterModel", "images", "[I", true)
  | _ => ("BathWaterModel", "isKept", "[Z", true)
def tyX8 : Nat → FieldType := fun k => match k with
  | 0 => .int
  | 1 => .array .int
  | 2 => .int
  | 3 => .array .int
  | 4 => .int
  | 5 => .int
  | 6 => .array .int
  | 7 => .int
  | 8 => .array .int
  | 9 => .int
  | 10 => .int
  | 11 => .int
  | 12 => .long
  | 13 => .int
  | 14 => .int
  | 15 => .int
  | 16 => .int
  | 17 => .array .int
  | 18 => .int
  | 19 => .array .int
  | 20 => .int
  | 21 => .array .int
  | 22 => .array .int
  | 23 => .boolean
  | 24 => .array .int
  | 25 => .array .int
  | 26 => .array .int
  | 27 => .int
  | 28 => .int
  | 29 => .array .int
  | 30 => .array .int
  | _ => .array .boolean
abbrev wsX80 : List Cond := u_ws RX8 TX8 32
theorem nmX8 : ∀ a, a < 32 → ∀ b, b < 32 → a ≠ b → (TX8 a).2.1 ≠ (TX8 b).2.1 := by decide +kernel
theorem tyX8_ok : ∀ k, k < 32 → parseFieldDescriptor (TX8 k).2.2.1 = some (tyX8 k) := by decide +kernel
abbrev cX8_init : ByteArray := prog_10_method_1_code
def yX8_init : MethodName := ⟨RX8, "<init>", "()V"⟩
abbrev cX8_in : ByteArray := prog_10_method_3_code
def yX8_in : MethodName := ⟨RX8, "in", "(JJJ)Z"⟩
abbrev cX8_has : ByteArray := prog_10_method_4_code
def yX8_has : MethodName := ⟨RX8, "has", "(II)Z"⟩
abbrev cX8_bits : ByteArray := prog_10_method_5_code
def yX8_bits : MethodName := ⟨RX8, "bits", "(I)I"⟩
abbrev cX8_isBath : ByteArray := prog_10_method_6_code
def yX8_isBath : MethodName := ⟨RX8, "isBath", "(I)Z"⟩
abbrev cX8_isBather : ByteArray := prog_10_method_7_code
def yX8_isBather : MethodName := ⟨RX8, "isBather", "(I)Z"⟩
abbrev cX8_isSet : ByteArray := prog_10_method_8_code
def yX8_isSet : MethodName := ⟨RX8, "isSet", "(I)Z"⟩
abbrev cX8_isHour : ByteArray := prog_10_method_9_code
def yX8_isHour : MethodName := ⟨RX8, "isHour", "(I)Z"⟩
abbrev cX8_isHeight : ByteArray := prog_10_method_10_code
def yX8_isHeight : MethodName := ⟨RX8, "isHeight", "(I)Z"⟩
abbrev cX8_feed : ByteArray := prog_10_method_11_code
def yX8_feed : MethodName := ⟨RX8, "feed", "(IJ)I"⟩
abbrev cX8_here : ByteArray := prog_10_method_12_code
def yX8_here : MethodName := ⟨RX8, "here", "()I"⟩
abbrev cX8_fails : ByteArray := prog_10_method_13_code
def yX8_fails : MethodName := ⟨RX8, "fails", "(II)I"⟩
abbrev cX8_readWord : ByteArray := prog_10_method_14_code
def yX8_readWord : MethodName := ⟨RX8, "readWord", "()V"⟩
abbrev cX8_code : ByteArray := prog_10_method_15_code
def yX8_code : MethodName := ⟨RX8, "code", "(III)J"⟩
abbrev cX8_longer : ByteArray := prog_10_method_16_code
def yX8_longer : MethodName := ⟨RX8, "longer", "(JII)J"⟩
abbrev cX8_takeNumber : ByteArray := prog_10_method_17_code
def yX8_takeNumber : MethodName := ⟨RX8, "takeNumber", "(II)I"⟩
abbrev cX8_into : ByteArray := prog_10_method_18_code
def yX8_into : MethodName := ⟨RX8, "into", "([IIII)I"⟩
abbrev cX8_takeBath : ByteArray := prog_10_method_19_code
def yX8_takeBath : MethodName := ⟨RX8, "takeBath", "()I"⟩
abbrev cX8_takeBather : ByteArray := prog_10_method_20_code
def yX8_takeBather : MethodName := ⟨RX8, "takeBather", "()I"⟩
abbrev cX8_takeClause : ByteArray := prog_10_method_21_code
def yX8_takeClause : MethodName := ⟨RX8, "takeClause", "()I"⟩
abbrev cX8_house : ByteArray := prog_10_method_22_code
def yX8_house : MethodName := ⟨RX8, "house", "()I"⟩
abbrev cX8_fault : ByteArray := prog_10_method_23_code
def yX8_fault : MethodName := ⟨RX8, "fault", "()I"⟩
abbrev cX8_told : ByteArray := prog_10_method_24_code
def yX8_told : MethodName := ⟨RX8, "told", "(I)I"⟩
abbrev cX8_bath : ByteArray := prog_10_method_25_code
def yX8_bath : MethodName := ⟨RX8, "bath", "(II)I"⟩
abbrev cX8_bather : ByteArray := prog_10_method_26_code
def yX8_bather : MethodName := ⟨RX8, "bather", "(II)I"⟩
abbrev cX8_fingerOf : ByteArray := prog_10_method_27_code
def yX8_fingerOf : MethodName := ⟨RX8, "fingerOf", "(I)I"⟩
abbrev cX8_waterAt : ByteArray := prog_10_method_28_code
def yX8_waterAt : MethodName := ⟨RX8, "waterAt", "(II)I"⟩
abbrev cX8_heightOf : ByteArray := prog_10_method_29_code
def yX8_heightOf : MethodName := ⟨RX8, "heightOf", "(III)I"⟩
abbrev cX8_sizeOf : ByteArray := prog_10_method_30_code
def yX8_sizeOf : MethodName := ⟨RX8, "sizeOf", "(I)I"⟩
abbrev cX8_height : ByteArray := prog_10_method_31_code
def yX8_height : MethodName := ⟨RX8, "height", "(III)I"⟩
abbrev cX8_mostOf : ByteArray := prog_10_method_32_code
def yX8_mostOf : MethodName := ⟨RX8, "mostOf", "(III)I"⟩
abbrev cX8_leastOf : ByteArray := prog_10_method_33_code
def yX8_leastOf : MethodName := ⟨RX8, "leastOf", "(III)I"⟩
abbrev cX8_span : ByteArray := prog_10_method_34_code
def yX8_span : MethodName := ⟨RX8, "span", "(IIII)I"⟩
abbrev cX8_startEnds : ByteArray := prog_10_method_35_code
def yX8_startEnds : MethodName := ⟨RX8, "startEnds", "()V"⟩
abbrev cX8_narrow : ByteArray := prog_10_method_36_code
def yX8_narrow : MethodName := ⟨RX8, "narrow", "(I)Z"⟩
abbrev cX8_isClash : ByteArray := prog_10_method_37_code
def yX8_isClash : MethodName := ⟨RX8, "isClash", "(I)Z"⟩
abbrev cX8_findEnds : ByteArray := prog_10_method_38_code
def yX8_findEnds : MethodName := ⟨RX8, "findEnds", "()V"⟩
abbrev cX8_isMorning : ByteArray := prog_10_method_39_code
def yX8_isMorning : MethodName := ⟨RX8, "isMorning", "(II)Z"⟩
abbrev cX8_morning : ByteArray := prog_10_method_40_code
def yX8_morning : MethodName := ⟨RX8, "morning", "(IIII)I"⟩
abbrev cX8_addMorning : ByteArray := prog_10_method_41_code
def yX8_addMorning : MethodName := ⟨RX8, "addMorning", "(IIII)V"⟩
abbrev cX8_strike : ByteArray := prog_10_method_42_code
def yX8_strike : MethodName := ⟨RX8, "strike", "(I)I"⟩
abbrev cX8_wrong : ByteArray := prog_10_method_43_code
def yX8_wrong : MethodName := ⟨RX8, "wrong", "()I"⟩
abbrev cX8_canBeIn : ByteArray := prog_10_method_44_code
def yX8_canBeIn : MethodName := ⟨RX8, "canBeIn", "(IIII)Z"⟩
abbrev cX8_canBe : ByteArray := prog_10_method_45_code
def yX8_canBe : MethodName := ⟨RX8, "canBe", "(IIII)I"⟩
abbrev cX8_oddsOf : ByteArray := prog_10_method_46_code
def yX8_oddsOf : MethodName := ⟨RX8, "oddsOf", "(I)J"⟩
abbrev cX8_likely : ByteArray := prog_10_method_47_code
def yX8_likely : MethodName := ⟨RX8, "likely", "(IIII)I"⟩
abbrev cX8_odds : ByteArray := prog_10_method_48_code
def yX8_odds : MethodName := ⟨RX8, "odds", "(I)I"⟩
abbrev cX8_isCase : ByteArray := prog_10_method_49_code
def yX8_isCase : MethodName := ⟨RX8, "isCase", "(I)Z"⟩
abbrev cX8_tellsOf : ByteArray := prog_10_method_50_code
def yX8_tellsOf : MethodName := ⟨RX8, "tellsOf", "(III)I"⟩
abbrev cX8_tells : ByteArray := prog_10_method_51_code
def yX8_tells : MethodName := ⟨RX8, "tells", "(III)I"⟩
abbrev cX8_isParted : ByteArray := prog_10_method_52_code
def yX8_isParted : MethodName := ⟨RX8, "isParted", "(III)Z"⟩
abbrev cX8_alikeOf : ByteArray := prog_10_method_53_code
def yX8_alikeOf : MethodName := ⟨RX8, "alikeOf", "(I)I"⟩
abbrev cX8_alike : ByteArray := prog_10_method_54_code
def yX8_alike : MethodName := ⟨RX8, "alike", "(I)I"⟩
abbrev cX8_findTries : ByteArray := prog_10_method_55_code
def yX8_findTries : MethodName := ⟨RX8, "findTries", "()V"⟩
abbrev cX8_isKnown : ByteArray := prog_10_method_56_code
def yX8_isKnown : MethodName := ⟨RX8, "isKnown", "(I)Z"⟩
abbrev cX8_worstBy : ByteArray := prog_10_method_57_code
def yX8_worstBy : MethodName := ⟨RX8, "worstBy", "(II)I"⟩
abbrev cX8_findNeeds : ByteArray := prog_10_method_58_code
def yX8_findNeeds : MethodName := ⟨RX8, "findNeeds", "(I)V"⟩
abbrev cX8_allCases : ByteArray := prog_10_method_59_code
def yX8_allCases : MethodName := ⟨RX8, "allCases", "()I"⟩
abbrev cX8_needed : ByteArray := prog_10_method_60_code
def yX8_needed : MethodName := ⟨RX8, "needed", "(II)I"⟩
abbrev cX8_away : ByteArray := prog_10_method_61_code
def yX8_away : MethodName := ⟨RX8, "away", "()I"⟩
abbrev cX8_called : ByteArray := prog_10_method_62_code
def yX8_called : MethodName := ⟨RX8, "called", "(II)I"⟩
abbrev cX8_write : ByteArray := prog_10_method_63_code
def yX8_write : MethodName := ⟨RX8, "write", "(IIII)I"⟩
abbrev cX8_tear : ByteArray := prog_10_method_64_code
def yX8_tear : MethodName := ⟨RX8, "tear", "()I"⟩
abbrev cX8_judge : ByteArray := prog_10_method_65_code
def yX8_judge : MethodName := ⟨RX8, "judge", "()I"⟩
abbrev cX8_draw : ByteArray := prog_10_method_66_code
def yX8_draw : MethodName := ⟨RX8, "draw", "(I)I"⟩
abbrev cX8_drift : ByteArray := prog_10_method_67_code
def yX8_drift : MethodName := ⟨RX8, "drift", "(II)I"⟩
abbrev cX8_forget : ByteArray := prog_10_method_68_code
def yX8_forget : MethodName := ⟨RX8, "forget", "()I"⟩
abbrev cX8_seed : ByteArray := prog_10_method_69_code
def yX8_seed : MethodName := ⟨RX8, "seed", "(I)I"⟩
abbrev cX8_keep : ByteArray := prog_10_method_70_code
def yX8_keep : MethodName := ⟨RX8, "keep", "(I)I"⟩
abbrev cX8_goBack : ByteArray := prog_10_method_71_code
def yX8_goBack : MethodName := ⟨RX8, "goBack", "(I)I"⟩
def RJ6 : String := "java/lang/Integer"
def TJ6 : u_T := fun k => match k with
  | _ => ("", "", "", false)
def tyJ6 : Nat → FieldType := fun k => match k with
  | _ => .int
abbrev cJ6_numberOfTrailingZeros_0f7a4 : ByteArray := prog_11_method_48_code
def yJ6_numberOfTrailingZeros_0f7a4 : MethodName := ⟨RJ6, "numberOfTrailingZeros", "(I)I"⟩
def RJ9 : String := "java/lang/Math"
def TJ9 : u_T := fun k => match k with
  | _ => ("", "", "", false)
def tyJ9 : Nat → FieldType := fun k => match k with
  | _ => .int
abbrev cJ9_max_7cf53 : ByteArray := prog_12_method_65_code
def yJ9_max_7cf53 : MethodName := ⟨RJ9, "max", "(II)I"⟩
abbrev cJ9_min_7cf53 : ByteArray := prog_12_method_69_code
def yJ9_min_7cf53 : MethodName := ⟨RJ9, "min", "(II)I"⟩
def RJ0 : String := "java/lang/String"
def TJ0 : u_T := fun k => match k with
  | _ => ("", "", "", false)
def tyJ0 : Nat → FieldType := fun k => match k with
  | _ => .int
abbrev cJ0_length_8abf5 : ByteArray := prog_13_method_54_code
def yJ0_length_8abf5 : MethodName := ⟨RJ0, "length", "()I"⟩
abbrev cJ0_charAt_5068e : ByteArray := prog_13_method_56_code
def yJ0_charAt_5068e : MethodName := ⟨RJ0, "charAt", "(I)C"⟩
abbrev cJ0_coder_7d493 : ByteArray := prog_13_method_152_code
def yJ0_coder_7d493 : MethodName := ⟨RJ0, "coder", "()B"⟩
abbrev cJ0_isLatin1_aae02 : ByteArray := prog_13_method_154_code
def yJ0_isLatin1_aae02 : MethodName := ⟨RJ0, "isLatin1", "()Z"⟩
abbrev cJ0_checkIndex_df160 : ByteArray := prog_13_method_155_code
def yJ0_checkIndex_df160 : MethodName := ⟨RJ0, "checkIndex", "(II)V"⟩
def RJ1 : String := "java/lang/StringLatin1"
def TJ1 : u_T := fun k => match k with
  | _ => ("", "", "", false)
def tyJ1 : Nat → FieldType := fun k => match k with
  | _ => .int
abbrev cJ1_charAt_3b067 : ByteArray := prog_14_method_2_code
def yJ1_charAt_3b067 : MethodName := ⟨RJ1, "charAt", "([BI)C"⟩
def RJ2 : String := "java/lang/StringUTF16"
def TJ2 : u_T := fun k => match k with
  | _ => ("", "", "", false)
def tyJ2 : Nat → FieldType := fun k => match k with
  | _ => .int
abbrev cJ2_getChar_3b067 : ByteArray := prog_15_method_5_code
def yJ2_getChar_3b067 : MethodName := ⟨RJ2, "getChar", "([BI)C"⟩
abbrev cJ2_length_9d52b : ByteArray := prog_15_method_6_code
def yJ2_length_9d52b : MethodName := ⟨RJ2, "length", "([B)I"⟩
abbrev cJ2_charAt_3b067 : ByteArray := prog_15_method_83_code
def yJ2_charAt_3b067 : MethodName := ⟨RJ2, "charAt", "([BI)C"⟩
abbrev cJ2_checkIndex_2214a : ByteArray := prog_15_method_91_code
def yJ2_checkIndex_2214a : MethodName := ⟨RJ2, "checkIndex", "(I[B)V"⟩
def RJ7 : String := "java/util/Arrays"
def TJ7 : u_T := fun k => match k with
  | _ => ("", "", "", false)
def tyJ7 : Nat → FieldType := fun k => match k with
  | _ => .int
abbrev cJ7_fill_53178 : ByteArray := prog_16_method_103_code
def yJ7_fill_53178 : MethodName := ⟨RJ7, "fill", "([II)V"⟩
def RJ3 : String := "jdk/internal/util/Preconditions"
def TJ3 : u_T := fun k => match k with
  | _ => ("", "", "", false)
def tyJ3 : Nat → FieldType := fun k => match k with
  | _ => .int
abbrev cJ3_checkIndex_8e157 : ByteArray := prog_17_method_11_code
def yJ3_checkIndex_8e157 : MethodName := ⟨RJ3, "checkIndex", "(IILjava/util/function/BiFunction;)I"⟩
def RL : String := "BathWaterLaw"
abbrev cL_law : ByteArray := code
def yL_law : MethodName := ⟨RL, "law", "([I)Z"⟩
abbrev vwCl : List vw_C := [(RX0, TX0, 9), (RX1, TX1, 6), (RX2, TX2, 5), (RX3, TX3, 5), (RX4, TX4, 3), (RX5, TX5, 7), (RX6, TX6, 2), (RX7, TX7, 11), (RX8, TX8, 32)]
