section
-- ===== PART A: goes FIRST, ahead of the names: the tables' words, and 'selects' of the private methods out of them =====
/-- a private method of a class that the tables say can be made, by its rows of tables_1 -/
def lw_okq (q : MethodName × Nat) : Prop := (q.1.cls ≠ "java/lang/invoke/MethodHandle" ∧ q.1.cls ≠ "java/lang/invoke/VarHandle") ∧ Cond.instantiable q.1.cls q.2 ∈ tables_1 ∧ Cond.privateMethod q.1 ∈ tables_1 ∧ Cond.instanceMethod q.1 ∈ tables_1
theorem lw_p0 : lw_okq (⟨"TwoWhistlesAndFiveEwes", "refuse", "(I)I"⟩, 8) := ⟨⟨by decide +kernel, by decide +kernel⟩, List.mem_of_getElem? (i := 18) (by decide +kernel), List.mem_of_getElem? (i := 222) (by decide +kernel), List.mem_of_getElem? (i := 223) (by decide +kernel)⟩
theorem lw_p1 : lw_okq (⟨"TwoWhistlesAndFiveEwes", "faultOfRow", "(III)I"⟩, 8) := ⟨⟨by decide +kernel, by decide +kernel⟩, List.mem_of_getElem? (i := 18) (by decide +kernel), List.mem_of_getElem? (i := 237) (by decide +kernel), List.mem_of_getElem? (i := 238) (by decide +kernel)⟩
theorem lw_p2 : lw_okq (⟨"TwoWhistlesAndFiveEwes$Hill", "leaderOf", "(LTwoWhistlesAndFiveEwes$Spots;I)I"⟩, 10) := ⟨⟨by decide +kernel, by decide +kernel⟩, List.mem_of_getElem? (i := 26) (by decide +kernel), List.mem_of_getElem? (i := 297) (by decide +kernel), List.mem_of_getElem? (i := 298) (by decide +kernel)⟩
theorem lw_p3 : lw_okq (⟨"TwoWhistlesAndFiveEwes$Hill", "nextFrom", "(III)I"⟩, 10) := ⟨⟨by decide +kernel, by decide +kernel⟩, List.mem_of_getElem? (i := 26) (by decide +kernel), List.mem_of_getElem? (i := 311) (by decide +kernel), List.mem_of_getElem? (i := 312) (by decide +kernel)⟩
theorem lw_p4 : lw_okq (⟨"TwoWhistlesAndFiveEwes$Tape", "nextToken", "()V"⟩, 6) := ⟨⟨by decide +kernel, by decide +kernel⟩, List.mem_of_getElem? (i := 105) (by decide +kernel), List.mem_of_getElem? (i := 413) (by decide +kernel), List.mem_of_getElem? (i := 414) (by decide +kernel)⟩
theorem lw_p5 : lw_okq (⟨"TwoWhistlesAndFiveEwes$Tape", "byteAt", "(I)I"⟩, 6) := ⟨⟨by decide +kernel, by decide +kernel⟩, List.mem_of_getElem? (i := 105) (by decide +kernel), List.mem_of_getElem? (i := 417) (by decide +kernel), List.mem_of_getElem? (i := 418) (by decide +kernel)⟩
theorem lw_p6 : lw_okq (⟨"TwoWhistlesAndFiveEwes$Tape", "readStatement", "()Z"⟩, 6) := ⟨⟨by decide +kernel, by decide +kernel⟩, List.mem_of_getElem? (i := 105) (by decide +kernel), List.mem_of_getElem? (i := 424) (by decide +kernel), List.mem_of_getElem? (i := 425) (by decide +kernel)⟩
theorem lw_p7 : lw_okq (⟨"TwoWhistlesAndFiveEwes$Tape", "isWord", "(Ljava/lang/String;)Z"⟩, 6) := ⟨⟨by decide +kernel, by decide +kernel⟩, List.mem_of_getElem? (i := 105) (by decide +kernel), List.mem_of_getElem? (i := 429) (by decide +kernel), List.mem_of_getElem? (i := 430) (by decide +kernel)⟩
theorem lw_p8 : lw_okq (⟨"TwoWhistlesAndFiveEwes$Tape", "readSide", "()Z"⟩, 6) := ⟨⟨by decide +kernel, by decide +kernel⟩, List.mem_of_getElem? (i := 105) (by decide +kernel), List.mem_of_getElem? (i := 481) (by decide +kernel), List.mem_of_getElem? (i := 482) (by decide +kernel)⟩
theorem lw_p9 : lw_okq (⟨"TwoWhistlesAndFiveEwes$Tape", "nextNumber", "()I"⟩, 6) := ⟨⟨by decide +kernel, by decide +kernel⟩, List.mem_of_getElem? (i := 105) (by decide +kernel), List.mem_of_getElem? (i := 485) (by decide +kernel), List.mem_of_getElem? (i := 486) (by decide +kernel)⟩
theorem lw_p10 : lw_okq (⟨"TwoWhistlesAndFiveEwes$Tape", "readWall", "()Z"⟩, 6) := ⟨⟨by decide +kernel, by decide +kernel⟩, List.mem_of_getElem? (i := 105) (by decide +kernel), List.mem_of_getElem? (i := 490) (by decide +kernel), List.mem_of_getElem? (i := 491) (by decide +kernel)⟩
theorem lw_p11 : lw_okq (⟨"TwoWhistlesAndFiveEwes$Tape", "readGap", "()Z"⟩, 6) := ⟨⟨by decide +kernel, by decide +kernel⟩, List.mem_of_getElem? (i := 105) (by decide +kernel), List.mem_of_getElem? (i := 497) (by decide +kernel), List.mem_of_getElem? (i := 498) (by decide +kernel)⟩
theorem lw_p12 : lw_okq (⟨"TwoWhistlesAndFiveEwes$Tape", "readPen", "()Z"⟩, 6) := ⟨⟨by decide +kernel, by decide +kernel⟩, List.mem_of_getElem? (i := 105) (by decide +kernel), List.mem_of_getElem? (i := 503) (by decide +kernel), List.mem_of_getElem? (i := 504) (by decide +kernel)⟩
theorem lw_p13 : lw_okq (⟨"TwoWhistlesAndFiveEwes$Tape", "readDog", "()Z"⟩, 6) := ⟨⟨by decide +kernel, by decide +kernel⟩, List.mem_of_getElem? (i := 105) (by decide +kernel), List.mem_of_getElem? (i := 509) (by decide +kernel), List.mem_of_getElem? (i := 510) (by decide +kernel)⟩
theorem lw_p14 : lw_okq (⟨"TwoWhistlesAndFiveEwes$Tape", "readEwe", "()Z"⟩, 6) := ⟨⟨by decide +kernel, by decide +kernel⟩, List.mem_of_getElem? (i := 105) (by decide +kernel), List.mem_of_getElem? (i := 515) (by decide +kernel), List.mem_of_getElem? (i := 516) (by decide +kernel)⟩
theorem lw_p15 : lw_okq (⟨"TwoWhistlesAndFiveEwes$Tape", "readWind", "()Z"⟩, 6) := ⟨⟨by decide +kernel, by decide +kernel⟩, List.mem_of_getElem? (i := 105) (by decide +kernel), List.mem_of_getElem? (i := 523) (by decide +kernel), List.mem_of_getElem? (i := 524) (by decide +kernel)⟩
def lw_privs_1 : List (MethodName × Nat) := [(⟨"TwoWhistlesAndFiveEwes", "refuse", "(I)I"⟩, 8), (⟨"TwoWhistlesAndFiveEwes", "faultOfRow", "(III)I"⟩, 8), (⟨"TwoWhistlesAndFiveEwes$Hill", "leaderOf", "(LTwoWhistlesAndFiveEwes$Spots;I)I"⟩, 10), (⟨"TwoWhistlesAndFiveEwes$Hill", "nextFrom", "(III)I"⟩, 10), (⟨"TwoWhistlesAndFiveEwes$Tape", "nextToken", "()V"⟩, 6), (⟨"TwoWhistlesAndFiveEwes$Tape", "byteAt", "(I)I"⟩, 6), (⟨"TwoWhistlesAndFiveEwes$Tape", "readStatement", "()Z"⟩, 6), (⟨"TwoWhistlesAndFiveEwes$Tape", "isWord", "(Ljava/lang/String;)Z"⟩, 6), (⟨"TwoWhistlesAndFiveEwes$Tape", "readSide", "()Z"⟩, 6), (⟨"TwoWhistlesAndFiveEwes$Tape", "nextNumber", "()I"⟩, 6), (⟨"TwoWhistlesAndFiveEwes$Tape", "readWall", "()Z"⟩, 6), (⟨"TwoWhistlesAndFiveEwes$Tape", "readGap", "()Z"⟩, 6), (⟨"TwoWhistlesAndFiveEwes$Tape", "readPen", "()Z"⟩, 6), (⟨"TwoWhistlesAndFiveEwes$Tape", "readDog", "()Z"⟩, 6), (⟨"TwoWhistlesAndFiveEwes$Tape", "readEwe", "()Z"⟩, 6), (⟨"TwoWhistlesAndFiveEwes$Tape", "readWind", "()Z"⟩, 6)]
theorem lw_r1 : ∀ q ∈ lw_privs_1, lw_okq q := List.forall_mem_cons.mpr ⟨lw_p0, List.forall_mem_cons.mpr ⟨lw_p1, List.forall_mem_cons.mpr ⟨lw_p2, List.forall_mem_cons.mpr ⟨lw_p3, List.forall_mem_cons.mpr ⟨lw_p4, List.forall_mem_cons.mpr ⟨lw_p5, List.forall_mem_cons.mpr ⟨lw_p6, List.forall_mem_cons.mpr ⟨lw_p7, List.forall_mem_cons.mpr ⟨lw_p8, List.forall_mem_cons.mpr ⟨lw_p9, List.forall_mem_cons.mpr ⟨lw_p10, List.forall_mem_cons.mpr ⟨lw_p11, List.forall_mem_cons.mpr ⟨lw_p12, List.forall_mem_cons.mpr ⟨lw_p13, List.forall_mem_cons.mpr ⟨lw_p14, List.forall_mem_cons.mpr ⟨lw_p15, fun _ h => absurd h List.not_mem_nil⟩⟩⟩⟩⟩⟩⟩⟩⟩⟩⟩⟩⟩⟩⟩⟩
theorem lw_p16 : lw_okq (⟨"TwoWhistlesAndFiveEwes$Search", "tryCommand", "(LTwoWhistlesAndFiveEwes$Hill;II)Z"⟩, 6) := ⟨⟨by decide +kernel, by decide +kernel⟩, List.mem_of_getElem? (i := 158) (by decide +kernel), List.mem_of_getElem? (i := 550) (by decide +kernel), List.mem_of_getElem? (i := 551) (by decide +kernel)⟩
theorem lw_p17 : lw_okq (⟨"TwoWhistlesAndFiveEwes", "faultOfCommands", "(III)I"⟩, 8) := ⟨⟨by decide +kernel, by decide +kernel⟩, List.mem_of_getElem? (i := 18) (by decide +kernel), List.mem_of_getElem? (i := 605) (by decide +kernel), List.mem_of_getElem? (i := 606) (by decide +kernel)⟩
theorem lw_p18 : lw_okq (⟨"TwoWhistlesAndFiveEwes", "takeTold", "(LTwoWhistlesAndFiveEwes$Spots;LTwoWhistlesAndFiveEwes$Shelf;I)V"⟩, 8) := ⟨⟨by decide +kernel, by decide +kernel⟩, List.mem_of_getElem? (i := 18) (by decide +kernel), List.mem_of_getElem? (i := 613) (by decide +kernel), List.mem_of_getElem? (i := 614) (by decide +kernel)⟩
theorem lw_p19 : lw_okq (⟨"TwoWhistlesAndFiveEwes", "weightIfAllIn", "(LTwoWhistlesAndFiveEwes$Shelf;II)J"⟩, 8) := ⟨⟨by decide +kernel, by decide +kernel⟩, List.mem_of_getElem? (i := 18) (by decide +kernel), List.mem_of_getElem? (i := 639) (by decide +kernel), List.mem_of_getElem? (i := 640) (by decide +kernel)⟩
theorem lw_p20 : lw_okq (⟨"TwoWhistlesAndFiveEwes$Hill", "farthestFrom", "(LTwoWhistlesAndFiveEwes$Spots;I)I"⟩, 10) := ⟨⟨by decide +kernel, by decide +kernel⟩, List.mem_of_getElem? (i := 26) (by decide +kernel), List.mem_of_getElem? (i := 656) (by decide +kernel), List.mem_of_getElem? (i := 657) (by decide +kernel)⟩
theorem lw_p21 : lw_okq (⟨"TwoWhistlesAndFiveEwes$Search", "addRowsFrom", "(LTwoWhistlesAndFiveEwes$Hill;I)V"⟩, 6) := ⟨⟨by decide +kernel, by decide +kernel⟩, List.mem_of_getElem? (i := 158) (by decide +kernel), List.mem_of_getElem? (i := 707) (by decide +kernel), List.mem_of_getElem? (i := 708) (by decide +kernel)⟩
theorem lw_p22 : lw_okq (⟨"TwoWhistlesAndFiveEwes", "areCells", "(LTwoWhistlesAndFiveEwes$Shelf;I)Z"⟩, 8) := ⟨⟨by decide +kernel, by decide +kernel⟩, List.mem_of_getElem? (i := 18) (by decide +kernel), List.mem_of_getElem? (i := 762) (by decide +kernel), List.mem_of_getElem? (i := 763) (by decide +kernel)⟩
theorem lw_p23 : lw_okq (⟨"TwoWhistlesAndFiveEwes", "goesSo", "(IILTwoWhistlesAndFiveEwes$Shelf;LTwoWhistlesAndFiveEwes$Shelf;I)Z"⟩, 8) := ⟨⟨by decide +kernel, by decide +kernel⟩, List.mem_of_getElem? (i := 18) (by decide +kernel), List.mem_of_getElem? (i := 767) (by decide +kernel), List.mem_of_getElem? (i := 768) (by decide +kernel)⟩
theorem lw_p24 : lw_okq (⟨"TwoWhistlesAndFiveEwes", "firstWrong", "(LTwoWhistlesAndFiveEwes$Shelf;I)I"⟩, 8) := ⟨⟨by decide +kernel, by decide +kernel⟩, List.mem_of_getElem? (i := 18) (by decide +kernel), List.mem_of_getElem? (i := 775) (by decide +kernel), List.mem_of_getElem? (i := 776) (by decide +kernel)⟩
theorem lw_p25 : lw_okq (⟨"TwoWhistlesAndFiveEwes", "faultOfDoable", "(II)I"⟩, 8) := ⟨⟨by decide +kernel, by decide +kernel⟩, List.mem_of_getElem? (i := 18) (by decide +kernel), List.mem_of_getElem? (i := 783) (by decide +kernel), List.mem_of_getElem? (i := 784) (by decide +kernel)⟩
theorem lw_p26 : lw_okq (⟨"TwoWhistlesAndFiveEwes", "countFilledShelves", "()I"⟩, 8) := ⟨⟨by decide +kernel, by decide +kernel⟩, List.mem_of_getElem? (i := 18) (by decide +kernel), List.mem_of_getElem? (i := 820) (by decide +kernel), List.mem_of_getElem? (i := 821) (by decide +kernel)⟩
theorem lw_p27 : lw_okq (⟨"TwoWhistlesAndFiveEwesModel", "no", "(I)I"⟩, 30) := ⟨⟨by decide +kernel, by decide +kernel⟩, List.mem_of_getElem? (i := 824) (by decide +kernel), List.mem_of_getElem? (i := 932) (by decide +kernel), List.mem_of_getElem? (i := 933) (by decide +kernel)⟩
theorem lw_p28 : lw_okq (⟨"TwoWhistlesAndFiveEwesModel", "isRow", "(I)Z"⟩, 30) := ⟨⟨by decide +kernel, by decide +kernel⟩, List.mem_of_getElem? (i := 824) (by decide +kernel), List.mem_of_getElem? (i := 940) (by decide +kernel), List.mem_of_getElem? (i := 941) (by decide +kernel)⟩
theorem lw_p29 : lw_okq (⟨"TwoWhistlesAndFiveEwesModel", "noRow", "(I)I"⟩, 30) := ⟨⟨by decide +kernel, by decide +kernel⟩, List.mem_of_getElem? (i := 824) (by decide +kernel), List.mem_of_getElem? (i := 944) (by decide +kernel), List.mem_of_getElem? (i := 945) (by decide +kernel)⟩
theorem lw_p30 : lw_okq (⟨"TwoWhistlesAndFiveEwesModel", "isEwe", "(I)Z"⟩, 30) := ⟨⟨by decide +kernel, by decide +kernel⟩, List.mem_of_getElem? (i := 824) (by decide +kernel), List.mem_of_getElem? (i := 967) (by decide +kernel), List.mem_of_getElem? (i := 968) (by decide +kernel)⟩
theorem lw_p31 : lw_okq (⟨"TwoWhistlesAndFiveEwesModel", "saves", "(I)V"⟩, 30) := ⟨⟨by decide +kernel, by decide +kernel⟩, List.mem_of_getElem? (i := 824) (by decide +kernel), List.mem_of_getElem? (i := 978) (by decide +kernel), List.mem_of_getElem? (i := 979) (by decide +kernel)⟩
def lw_privs_2 : List (MethodName × Nat) := [(⟨"TwoWhistlesAndFiveEwes$Search", "tryCommand", "(LTwoWhistlesAndFiveEwes$Hill;II)Z"⟩, 6), (⟨"TwoWhistlesAndFiveEwes", "faultOfCommands", "(III)I"⟩, 8), (⟨"TwoWhistlesAndFiveEwes", "takeTold", "(LTwoWhistlesAndFiveEwes$Spots;LTwoWhistlesAndFiveEwes$Shelf;I)V"⟩, 8), (⟨"TwoWhistlesAndFiveEwes", "weightIfAllIn", "(LTwoWhistlesAndFiveEwes$Shelf;II)J"⟩, 8), (⟨"TwoWhistlesAndFiveEwes$Hill", "farthestFrom", "(LTwoWhistlesAndFiveEwes$Spots;I)I"⟩, 10), (⟨"TwoWhistlesAndFiveEwes$Search", "addRowsFrom", "(LTwoWhistlesAndFiveEwes$Hill;I)V"⟩, 6), (⟨"TwoWhistlesAndFiveEwes", "areCells", "(LTwoWhistlesAndFiveEwes$Shelf;I)Z"⟩, 8), (⟨"TwoWhistlesAndFiveEwes", "goesSo", "(IILTwoWhistlesAndFiveEwes$Shelf;LTwoWhistlesAndFiveEwes$Shelf;I)Z"⟩, 8), (⟨"TwoWhistlesAndFiveEwes", "firstWrong", "(LTwoWhistlesAndFiveEwes$Shelf;I)I"⟩, 8), (⟨"TwoWhistlesAndFiveEwes", "faultOfDoable", "(II)I"⟩, 8), (⟨"TwoWhistlesAndFiveEwes", "countFilledShelves", "()I"⟩, 8), (⟨"TwoWhistlesAndFiveEwesModel", "no", "(I)I"⟩, 30), (⟨"TwoWhistlesAndFiveEwesModel", "isRow", "(I)Z"⟩, 30), (⟨"TwoWhistlesAndFiveEwesModel", "noRow", "(I)I"⟩, 30), (⟨"TwoWhistlesAndFiveEwesModel", "isEwe", "(I)Z"⟩, 30), (⟨"TwoWhistlesAndFiveEwesModel", "saves", "(I)V"⟩, 30)]
theorem lw_r2 : ∀ q ∈ lw_privs_2, lw_okq q := List.forall_mem_cons.mpr ⟨lw_p16, List.forall_mem_cons.mpr ⟨lw_p17, List.forall_mem_cons.mpr ⟨lw_p18, List.forall_mem_cons.mpr ⟨lw_p19, List.forall_mem_cons.mpr ⟨lw_p20, List.forall_mem_cons.mpr ⟨lw_p21, List.forall_mem_cons.mpr ⟨lw_p22, List.forall_mem_cons.mpr ⟨lw_p23, List.forall_mem_cons.mpr ⟨lw_p24, List.forall_mem_cons.mpr ⟨lw_p25, List.forall_mem_cons.mpr ⟨lw_p26, List.forall_mem_cons.mpr ⟨lw_p27, List.forall_mem_cons.mpr ⟨lw_p28, List.forall_mem_cons.mpr ⟨lw_p29, List.forall_mem_cons.mpr ⟨lw_p30, List.forall_mem_cons.mpr ⟨lw_p31, fun _ h => absurd h List.not_mem_nil⟩⟩⟩⟩⟩⟩⟩⟩⟩⟩⟩⟩⟩⟩⟩⟩
theorem lw_p32 : lw_okq (⟨"TwoWhistlesAndFiveEwesModel", "eweGoes", "(I)V"⟩, 30) := ⟨⟨by decide +kernel, by decide +kernel⟩, List.mem_of_getElem? (i := 824) (by decide +kernel), List.mem_of_getElem? (i := 982) (by decide +kernel), List.mem_of_getElem? (i := 983) (by decide +kernel)⟩
theorem lw_p33 : lw_okq (⟨"TwoWhistlesAndFiveEwesModel", "isIn", "(I)Z"⟩, 30) := ⟨⟨by decide +kernel, by decide +kernel⟩, List.mem_of_getElem? (i := 824) (by decide +kernel), List.mem_of_getElem? (i := 986) (by decide +kernel), List.mem_of_getElem? (i := 987) (by decide +kernel)⟩
theorem lw_p34 : lw_okq (⟨"TwoWhistlesAndFiveEwesModel", "runs", "(III)V"⟩, 30) := ⟨⟨by decide +kernel, by decide +kernel⟩, List.mem_of_getElem? (i := 824) (by decide +kernel), List.mem_of_getElem? (i := 994) (by decide +kernel), List.mem_of_getElem? (i := 995) (by decide +kernel)⟩
theorem lw_p35 : lw_okq (⟨"TwoWhistlesAndFiveEwesModel", "leaderOf", "(I)I"⟩, 30) := ⟨⟨by decide +kernel, by decide +kernel⟩, List.mem_of_getElem? (i := 824) (by decide +kernel), List.mem_of_getElem? (i := 998) (by decide +kernel), List.mem_of_getElem? (i := 999) (by decide +kernel)⟩
theorem lw_p36 : lw_okq (⟨"TwoWhistlesAndFiveEwesModel", "flees", "(II)V"⟩, 30) := ⟨⟨by decide +kernel, by decide +kernel⟩, List.mem_of_getElem? (i := 824) (by decide +kernel), List.mem_of_getElem? (i := 1002) (by decide +kernel), List.mem_of_getElem? (i := 1003) (by decide +kernel)⟩
theorem lw_p37 : lw_okq (⟨"TwoWhistlesAndFiveEwesModel", "beside", "(II)I"⟩, 30) := ⟨⟨by decide +kernel, by decide +kernel⟩, List.mem_of_getElem? (i := 824) (by decide +kernel), List.mem_of_getElem? (i := 1006) (by decide +kernel), List.mem_of_getElem? (i := 1007) (by decide +kernel)⟩
theorem lw_p38 : lw_okq (⟨"TwoWhistlesAndFiveEwesModel", "again", "(I)V"⟩, 30) := ⟨⟨by decide +kernel, by decide +kernel⟩, List.mem_of_getElem? (i := 824) (by decide +kernel), List.mem_of_getElem? (i := 1010) (by decide +kernel), List.mem_of_getElem? (i := 1011) (by decide +kernel)⟩
theorem lw_p39 : lw_okq (⟨"TwoWhistlesAndFiveEwesModel", "isCell", "(J)Z"⟩, 30) := ⟨⟨by decide +kernel, by decide +kernel⟩, List.mem_of_getElem? (i := 824) (by decide +kernel), List.mem_of_getElem? (i := 1022) (by decide +kernel), List.mem_of_getElem? (i := 1023) (by decide +kernel)⟩
theorem lw_p40 : lw_okq (⟨"TwoWhistlesAndFiveEwesModel", "mayWall", "(I)Z"⟩, 30) := ⟨⟨by decide +kernel, by decide +kernel⟩, List.mem_of_getElem? (i := 824) (by decide +kernel), List.mem_of_getElem? (i := 1027) (by decide +kernel), List.mem_of_getElem? (i := 1028) (by decide +kernel)⟩
theorem lw_p41 : lw_okq (⟨"TwoWhistlesAndFiveEwesModel", "isEweAt", "(I)Z"⟩, 30) := ⟨⟨by decide +kernel, by decide +kernel⟩, List.mem_of_getElem? (i := 824) (by decide +kernel), List.mem_of_getElem? (i := 1031) (by decide +kernel), List.mem_of_getElem? (i := 1032) (by decide +kernel)⟩
theorem lw_p42 : lw_okq (⟨"TwoWhistlesAndFiveEwesModel", "mayPen", "(I)Z"⟩, 30) := ⟨⟨by decide +kernel, by decide +kernel⟩, List.mem_of_getElem? (i := 824) (by decide +kernel), List.mem_of_getElem? (i := 1039) (by decide +kernel), List.mem_of_getElem? (i := 1040) (by decide +kernel)⟩
theorem lw_p43 : lw_okq (⟨"TwoWhistlesAndFiveEwesModel", "in", "()I"⟩, 30) := ⟨⟨by decide +kernel, by decide +kernel⟩, List.mem_of_getElem? (i := 824) (by decide +kernel), List.mem_of_getElem? (i := 1043) (by decide +kernel), List.mem_of_getElem? (i := 1044) (by decide +kernel)⟩
theorem lw_p44 : lw_okq (⟨"TwoWhistlesAndFiveEwesModel", "mayDog", "(I)Z"⟩, 30) := ⟨⟨by decide +kernel, by decide +kernel⟩, List.mem_of_getElem? (i := 824) (by decide +kernel), List.mem_of_getElem? (i := 1051) (by decide +kernel), List.mem_of_getElem? (i := 1052) (by decide +kernel)⟩
theorem lw_p45 : lw_okq (⟨"TwoWhistlesAndFiveEwesModel", "newEwe", "(III)I"⟩, 30) := ⟨⟨by decide +kernel, by decide +kernel⟩, List.mem_of_getElem? (i := 824) (by decide +kernel), List.mem_of_getElem? (i := 1059) (by decide +kernel), List.mem_of_getElem? (i := 1060) (by decide +kernel)⟩
theorem lw_p46 : lw_okq (⟨"TwoWhistlesAndFiveEwesModel", "keep", "([I)V"⟩, 30) := ⟨⟨by decide +kernel, by decide +kernel⟩, List.mem_of_getElem? (i := 824) (by decide +kernel), List.mem_of_getElem? (i := 1083) (by decide +kernel), List.mem_of_getElem? (i := 1084) (by decide +kernel)⟩
theorem lw_p47 : lw_okq (⟨"TwoWhistlesAndFiveEwesModel", "next", "()V"⟩, 30) := ⟨⟨by decide +kernel, by decide +kernel⟩, List.mem_of_getElem? (i := 824) (by decide +kernel), List.mem_of_getElem? (i := 1087) (by decide +kernel), List.mem_of_getElem? (i := 1088) (by decide +kernel)⟩
def lw_privs_3 : List (MethodName × Nat) := [(⟨"TwoWhistlesAndFiveEwesModel", "eweGoes", "(I)V"⟩, 30), (⟨"TwoWhistlesAndFiveEwesModel", "isIn", "(I)Z"⟩, 30), (⟨"TwoWhistlesAndFiveEwesModel", "runs", "(III)V"⟩, 30), (⟨"TwoWhistlesAndFiveEwesModel", "leaderOf", "(I)I"⟩, 30), (⟨"TwoWhistlesAndFiveEwesModel", "flees", "(II)V"⟩, 30), (⟨"TwoWhistlesAndFiveEwesModel", "beside", "(II)I"⟩, 30), (⟨"TwoWhistlesAndFiveEwesModel", "again", "(I)V"⟩, 30), (⟨"TwoWhistlesAndFiveEwesModel", "isCell", "(J)Z"⟩, 30), (⟨"TwoWhistlesAndFiveEwesModel", "mayWall", "(I)Z"⟩, 30), (⟨"TwoWhistlesAndFiveEwesModel", "isEweAt", "(I)Z"⟩, 30), (⟨"TwoWhistlesAndFiveEwesModel", "mayPen", "(I)Z"⟩, 30), (⟨"TwoWhistlesAndFiveEwesModel", "in", "()I"⟩, 30), (⟨"TwoWhistlesAndFiveEwesModel", "mayDog", "(I)Z"⟩, 30), (⟨"TwoWhistlesAndFiveEwesModel", "newEwe", "(III)I"⟩, 30), (⟨"TwoWhistlesAndFiveEwesModel", "keep", "([I)V"⟩, 30), (⟨"TwoWhistlesAndFiveEwesModel", "next", "()V"⟩, 30)]
theorem lw_r3 : ∀ q ∈ lw_privs_3, lw_okq q := List.forall_mem_cons.mpr ⟨lw_p32, List.forall_mem_cons.mpr ⟨lw_p33, List.forall_mem_cons.mpr ⟨lw_p34, List.forall_mem_cons.mpr ⟨lw_p35, List.forall_mem_cons.mpr ⟨lw_p36, List.forall_mem_cons.mpr ⟨lw_p37, List.forall_mem_cons.mpr ⟨lw_p38, List.forall_mem_cons.mpr ⟨lw_p39, List.forall_mem_cons.mpr ⟨lw_p40, List.forall_mem_cons.mpr ⟨lw_p41, List.forall_mem_cons.mpr ⟨lw_p42, List.forall_mem_cons.mpr ⟨lw_p43, List.forall_mem_cons.mpr ⟨lw_p44, List.forall_mem_cons.mpr ⟨lw_p45, List.forall_mem_cons.mpr ⟨lw_p46, List.forall_mem_cons.mpr ⟨lw_p47, fun _ h => absurd h List.not_mem_nil⟩⟩⟩⟩⟩⟩⟩⟩⟩⟩⟩⟩⟩⟩⟩⟩
theorem lw_p48 : lw_okq (⟨"TwoWhistlesAndFiveEwesModel", "statement", "()Z"⟩, 30) := ⟨⟨by decide +kernel, by decide +kernel⟩, List.mem_of_getElem? (i := 824) (by decide +kernel), List.mem_of_getElem? (i := 1097) (by decide +kernel), List.mem_of_getElem? (i := 1098) (by decide +kernel)⟩
theorem lw_p49 : lw_okq (⟨"TwoWhistlesAndFiveEwesModel", "isWord", "(Ljava/lang/String;)Z"⟩, 30) := ⟨⟨by decide +kernel, by decide +kernel⟩, List.mem_of_getElem? (i := 824) (by decide +kernel), List.mem_of_getElem? (i := 1102) (by decide +kernel), List.mem_of_getElem? (i := 1103) (by decide +kernel)⟩
theorem lw_p50 : lw_okq (⟨"TwoWhistlesAndFiveEwesModel", "number", "(II)I"⟩, 30) := ⟨⟨by decide +kernel, by decide +kernel⟩, List.mem_of_getElem? (i := 824) (by decide +kernel), List.mem_of_getElem? (i := 1108) (by decide +kernel), List.mem_of_getElem? (i := 1109) (by decide +kernel)⟩
theorem lw_p51 : lw_okq (⟨"TwoWhistlesAndFiveEwesModel", "place", "()I"⟩, 30) := ⟨⟨by decide +kernel, by decide +kernel⟩, List.mem_of_getElem? (i := 824) (by decide +kernel), List.mem_of_getElem? (i := 1113) (by decide +kernel), List.mem_of_getElem? (i := 1114) (by decide +kernel)⟩
theorem lw_p52 : lw_okq (⟨"TwoWhistlesAndFiveEwesModel", "keepBack", "([I)V"⟩, 30) := ⟨⟨by decide +kernel, by decide +kernel⟩, List.mem_of_getElem? (i := 824) (by decide +kernel), List.mem_of_getElem? (i := 1122) (by decide +kernel), List.mem_of_getElem? (i := 1123) (by decide +kernel)⟩
theorem lw_p53 : lw_okq (⟨"TwoWhistlesAndFiveEwesModel", "brings", "(II)Z"⟩, 30) := ⟨⟨by decide +kernel, by decide +kernel⟩, List.mem_of_getElem? (i := 824) (by decide +kernel), List.mem_of_getElem? (i := 1138) (by decide +kernel), List.mem_of_getElem? (i := 1139) (by decide +kernel)⟩
theorem lw_p54 : lw_okq (⟨"TwoWhistlesAndFiveEwesModel", "can", "(I)Z"⟩, 30) := ⟨⟨by decide +kernel, by decide +kernel⟩, List.mem_of_getElem? (i := 824) (by decide +kernel), List.mem_of_getElem? (i := 1142) (by decide +kernel), List.mem_of_getElem? (i := 1143) (by decide +kernel)⟩
theorem lw_p55 : lw_okq (⟨"TwoWhistlesAndFiveEwesModel", "goes", "(I)V"⟩, 30) := ⟨⟨by decide +kernel, by decide +kernel⟩, List.mem_of_getElem? (i := 824) (by decide +kernel), List.mem_of_getElem? (i := 1146) (by decide +kernel), List.mem_of_getElem? (i := 1147) (by decide +kernel)⟩
theorem lw_p56 : lw_okq (⟨"TwoWhistlesAndFiveEwesModel", "seeks", "(II)V"⟩, 30) := ⟨⟨by decide +kernel, by decide +kernel⟩, List.mem_of_getElem? (i := 824) (by decide +kernel), List.mem_of_getElem? (i := 1154) (by decide +kernel), List.mem_of_getElem? (i := 1155) (by decide +kernel)⟩
theorem lw_p57 : lw_okq (⟨"TwoWhistlesAndFiveEwesModel", "allSteps", "()I"⟩, 30) := ⟨⟨by decide +kernel, by decide +kernel⟩, List.mem_of_getElem? (i := 824) (by decide +kernel), List.mem_of_getElem? (i := 1162) (by decide +kernel), List.mem_of_getElem? (i := 1163) (by decide +kernel)⟩
theorem lw_p58 : lw_okq (⟨"TwoWhistlesAndFiveEwesModel", "noTold", "(II)I"⟩, 30) := ⟨⟨by decide +kernel, by decide +kernel⟩, List.mem_of_getElem? (i := 824) (by decide +kernel), List.mem_of_getElem? (i := 1170) (by decide +kernel), List.mem_of_getElem? (i := 1171) (by decide +kernel)⟩
theorem lw_p59 : lw_okq (⟨"TwoWhistlesAndFiveEwesModel", "toldAt", "(II)J"⟩, 30) := ⟨⟨by decide +kernel, by decide +kernel⟩, List.mem_of_getElem? (i := 824) (by decide +kernel), List.mem_of_getElem? (i := 1174) (by decide +kernel), List.mem_of_getElem? (i := 1175) (by decide +kernel)⟩
theorem lw_p60 : lw_okq (⟨"TwoWhistlesAndFiveEwesModel", "apart", "()I"⟩, 30) := ⟨⟨by decide +kernel, by decide +kernel⟩, List.mem_of_getElem? (i := 824) (by decide +kernel), List.mem_of_getElem? (i := 1185) (by decide +kernel), List.mem_of_getElem? (i := 1186) (by decide +kernel)⟩
theorem lw_p61 : lw_okq (⟨"TwoWhistlesAndFiveEwesModel", "flock", "()I"⟩, 30) := ⟨⟨by decide +kernel, by decide +kernel⟩, List.mem_of_getElem? (i := 824) (by decide +kernel), List.mem_of_getElem? (i := 1190) (by decide +kernel), List.mem_of_getElem? (i := 1191) (by decide +kernel)⟩
theorem lw_p62 : lw_okq (⟨"TwoWhistlesAndFiveEwesModel", "nearest", "()I"⟩, 30) := ⟨⟨by decide +kernel, by decide +kernel⟩, List.mem_of_getElem? (i := 824) (by decide +kernel), List.mem_of_getElem? (i := 1194) (by decide +kernel), List.mem_of_getElem? (i := 1195) (by decide +kernel)⟩
theorem lw_p63 : lw_okq (⟨"TwoWhistlesAndFiveEwesModel", "moved", "()I"⟩, 30) := ⟨⟨by decide +kernel, by decide +kernel⟩, List.mem_of_getElem? (i := 824) (by decide +kernel), List.mem_of_getElem? (i := 1198) (by decide +kernel), List.mem_of_getElem? (i := 1199) (by decide +kernel)⟩
def lw_privs_4 : List (MethodName × Nat) := [(⟨"TwoWhistlesAndFiveEwesModel", "statement", "()Z"⟩, 30), (⟨"TwoWhistlesAndFiveEwesModel", "isWord", "(Ljava/lang/String;)Z"⟩, 30), (⟨"TwoWhistlesAndFiveEwesModel", "number", "(II)I"⟩, 30), (⟨"TwoWhistlesAndFiveEwesModel", "place", "()I"⟩, 30), (⟨"TwoWhistlesAndFiveEwesModel", "keepBack", "([I)V"⟩, 30), (⟨"TwoWhistlesAndFiveEwesModel", "brings", "(II)Z"⟩, 30), (⟨"TwoWhistlesAndFiveEwesModel", "can", "(I)Z"⟩, 30), (⟨"TwoWhistlesAndFiveEwesModel", "goes", "(I)V"⟩, 30), (⟨"TwoWhistlesAndFiveEwesModel", "seeks", "(II)V"⟩, 30), (⟨"TwoWhistlesAndFiveEwesModel", "allSteps", "()I"⟩, 30), (⟨"TwoWhistlesAndFiveEwesModel", "noTold", "(II)I"⟩, 30), (⟨"TwoWhistlesAndFiveEwesModel", "toldAt", "(II)J"⟩, 30), (⟨"TwoWhistlesAndFiveEwesModel", "apart", "()I"⟩, 30), (⟨"TwoWhistlesAndFiveEwesModel", "flock", "()I"⟩, 30), (⟨"TwoWhistlesAndFiveEwesModel", "nearest", "()I"⟩, 30), (⟨"TwoWhistlesAndFiveEwesModel", "moved", "()I"⟩, 30)]
theorem lw_r4 : ∀ q ∈ lw_privs_4, lw_okq q := List.forall_mem_cons.mpr ⟨lw_p48, List.forall_mem_cons.mpr ⟨lw_p49, List.forall_mem_cons.mpr ⟨lw_p50, List.forall_mem_cons.mpr ⟨lw_p51, List.forall_mem_cons.mpr ⟨lw_p52, List.forall_mem_cons.mpr ⟨lw_p53, List.forall_mem_cons.mpr ⟨lw_p54, List.forall_mem_cons.mpr ⟨lw_p55, List.forall_mem_cons.mpr ⟨lw_p56, List.forall_mem_cons.mpr ⟨lw_p57, List.forall_mem_cons.mpr ⟨lw_p58, List.forall_mem_cons.mpr ⟨lw_p59, List.forall_mem_cons.mpr ⟨lw_p60, List.forall_mem_cons.mpr ⟨lw_p61, List.forall_mem_cons.mpr ⟨lw_p62, List.forall_mem_cons.mpr ⟨lw_p63, fun _ h => absurd h List.not_mem_nil⟩⟩⟩⟩⟩⟩⟩⟩⟩⟩⟩⟩⟩⟩⟩⟩
theorem lw_p64 : lw_okq (⟨"TwoWhistlesAndFiveEwesModel", "walks", "()V"⟩, 30) := ⟨⟨by decide +kernel, by decide +kernel⟩, List.mem_of_getElem? (i := 824) (by decide +kernel), List.mem_of_getElem? (i := 1206) (by decide +kernel), List.mem_of_getElem? (i := 1207) (by decide +kernel)⟩
theorem lw_p65 : lw_okq (⟨"TwoWhistlesAndFiveEwesModel", "rows", "(I)I"⟩, 30) := ⟨⟨by decide +kernel, by decide +kernel⟩, List.mem_of_getElem? (i := 824) (by decide +kernel), List.mem_of_getElem? (i := 1218) (by decide +kernel), List.mem_of_getElem? (i := 1219) (by decide +kernel)⟩
theorem lw_p66 : lw_okq (⟨"TwoWhistlesAndFiveEwesModel", "isSo", "(IIII)Z"⟩, 30) := ⟨⟨by decide +kernel, by decide +kernel⟩, List.mem_of_getElem? (i := 824) (by decide +kernel), List.mem_of_getElem? (i := 1271) (by decide +kernel), List.mem_of_getElem? (i := 1272) (by decide +kernel)⟩
theorem lw_p67 : lw_okq (⟨"TwoWhistlesAndFiveEwesModel", "doneAll", "(II)I"⟩, 30) := ⟨⟨by decide +kernel, by decide +kernel⟩, List.mem_of_getElem? (i := 824) (by decide +kernel), List.mem_of_getElem? (i := 1279) (by decide +kernel), List.mem_of_getElem? (i := 1280) (by decide +kernel)⟩
theorem lw_p68 : lw_okq (⟨"TwoWhistlesAndFiveEwesModel", "draw", "(I)I"⟩, 30) := ⟨⟨by decide +kernel, by decide +kernel⟩, List.mem_of_getElem? (i := 824) (by decide +kernel), List.mem_of_getElem? (i := 1299) (by decide +kernel), List.mem_of_getElem? (i := 1300) (by decide +kernel)⟩
theorem lw_p69 : lw_okq (⟨"TwoWhistlesAndFiveEwesModel", "allWalls", "()I"⟩, 30) := ⟨⟨by decide +kernel, by decide +kernel⟩, List.mem_of_getElem? (i := 824) (by decide +kernel), List.mem_of_getElem? (i := 1320) (by decide +kernel), List.mem_of_getElem? (i := 1321) (by decide +kernel)⟩
def lw_privs_5 : List (MethodName × Nat) := [(⟨"TwoWhistlesAndFiveEwesModel", "walks", "()V"⟩, 30), (⟨"TwoWhistlesAndFiveEwesModel", "rows", "(I)I"⟩, 30), (⟨"TwoWhistlesAndFiveEwesModel", "isSo", "(IIII)Z"⟩, 30), (⟨"TwoWhistlesAndFiveEwesModel", "doneAll", "(II)I"⟩, 30), (⟨"TwoWhistlesAndFiveEwesModel", "draw", "(I)I"⟩, 30), (⟨"TwoWhistlesAndFiveEwesModel", "allWalls", "()I"⟩, 30)]
theorem lw_r5 : ∀ q ∈ lw_privs_5, lw_okq q := List.forall_mem_cons.mpr ⟨lw_p64, List.forall_mem_cons.mpr ⟨lw_p65, List.forall_mem_cons.mpr ⟨lw_p66, List.forall_mem_cons.mpr ⟨lw_p67, List.forall_mem_cons.mpr ⟨lw_p68, List.forall_mem_cons.mpr ⟨lw_p69, fun _ h => absurd h List.not_mem_nil⟩⟩⟩⟩⟩⟩
def lw_privs : List (MethodName × Nat) := lw_privs_1 ++ (lw_privs_2 ++ (lw_privs_3 ++ (lw_privs_4 ++ (lw_privs_5))))
def lw_tbl : List Cond := k2_sels lw_privs ++ tables_1
theorem lw_privs_ok : ∀ q ∈ lw_privs, lw_okq q := by
  show ∀ q ∈ lw_privs_1 ++ (lw_privs_2 ++ (lw_privs_3 ++ (lw_privs_4 ++ (lw_privs_5)))), lw_okq q
  exact List.forall_mem_append.mpr ⟨lw_r1, List.forall_mem_append.mpr ⟨lw_r2, List.forall_mem_append.mpr ⟨lw_r3, List.forall_mem_append.mpr ⟨lw_r4, lw_r5⟩⟩⟩⟩
end
section
def RX0 : String := "TwoWhistlesAndFiveEwes$Hill"
def TX0 : u_T := fun k => match k with
  | 0 => ("TwoWhistlesAndFiveEwes$Hill", "side", "I", false)
  | 1 => ("TwoWhistlesAndFiveEwes$Hill", "pen", "I", false)
  | 2 => ("TwoWhistlesAndFiveEwes$Hill", "wind", "I", false)
  | 3 => ("TwoWhistlesAndFiveEwes$Hill", "turns", "I", false)
  | 4 => ("TwoWhistlesAndFiveEwes$Hill", "seed", "I", false)
  | 5 => ("TwoWhistlesAndFiveEwes$Hill", "walls", "J", false)
  | 6 => ("TwoWhistlesAndFiveEwes$Hill", "count", "I", false)
  | 7 => ("TwoWhistlesAndFiveEwes$Hill", "kinds", "[I", true)
  | 8 => ("TwoWhistlesAndFiveEwes$Hill", "as", "[I", true)
  | _ => ("TwoWhistlesAndFiveEwes$Hill", "spots", "LTwoWhistlesAndFiveEwes$Spots;", true)
def tyX0 : Nat → FieldType := fun k => match k with
  | 0 => .int
  | 1 => .int
  | 2 => .int
  | 3 => .int
  | 4 => .int
  | 5 => .long
  | 6 => .int
  | 7 => .array .int
  | 8 => .array .int
  | _ => .object "TwoWhistlesAndFiveEwes$Spots"
abbrev wsX00 : List Cond := u_ws RX0 TX0 10
theorem nmX0 : ∀ a, a < 10 → ∀ b, b < 10 → a ≠ b → (TX0 a).2.1 ≠ (TX0 b).2.1 := by decide +kernel
theorem tyX0_ok : ∀ k, k < 10 → parseFieldDescriptor (TX0 k).2.2.1 = some (tyX0 k) := by decide +kernel
abbrev cX0_init : ByteArray := prog_2_method_1_code
def yX0_init : MethodName := ⟨RX0, "<init>", "()V"⟩
abbrev cX0_setTo : ByteArray := prog_2_method_2_code
def yX0_setTo : MethodName := ⟨RX0, "setTo", "(LTwoWhistlesAndFiveEwes$Hill;)V"⟩
abbrev cX0_isCell : ByteArray := prog_2_method_3_code
def yX0_isCell : MethodName := ⟨RX0, "isCell", "(I)Z"⟩
abbrev cX0_isWall : ByteArray := prog_2_method_4_code
def yX0_isWall : MethodName := ⟨RX0, "isWall", "(I)Z"⟩
abbrev cX0_setWall : ByteArray := prog_2_method_5_code
def yX0_setWall : MethodName := ⟨RX0, "setWall", "(IZ)V"⟩
abbrev cX0_isOpen : ByteArray := prog_2_method_6_code
def yX0_isOpen : MethodName := ⟨RX0, "isOpen", "(I)Z"⟩
abbrev cX0_mayBeDogs : ByteArray := prog_2_method_7_code
def yX0_mayBeDogs : MethodName := ⟨RX0, "mayBeDogs", "(I)Z"⟩
abbrev cX0_mayBeWall : ByteArray := prog_2_method_8_code
def yX0_mayBeWall : MethodName := ⟨RX0, "mayBeWall", "(I)Z"⟩
abbrev cX0_mayBePen : ByteArray := prog_2_method_9_code
def yX0_mayBePen : MethodName := ⟨RX0, "mayBePen", "(I)Z"⟩
abbrev cX0_isEwe : ByteArray := prog_2_method_10_code
def yX0_isEwe : MethodName := ⟨RX0, "isEwe", "(I)Z"⟩
abbrev cX0_hasEweAt : ByteArray := prog_2_method_11_code
def yX0_hasEweAt : MethodName := ⟨RX0, "hasEweAt", "(I)Z"⟩
abbrev cX0_addEwe : ByteArray := prog_2_method_12_code
def yX0_addEwe : MethodName := ⟨RX0, "addEwe", "(III)I"⟩
abbrev cX0_isIn : ByteArray := prog_2_method_13_code
def yX0_isIn : MethodName := ⟨RX0, "isIn", "(LTwoWhistlesAndFiveEwes$Spots;I)Z"⟩
abbrev cX0_countIn : ByteArray := prog_2_method_14_code
def yX0_countIn : MethodName := ⟨RX0, "countIn", "(LTwoWhistlesAndFiveEwes$Spots;)I"⟩
abbrev cX0_countWithin : ByteArray := prog_2_method_15_code
def yX0_countWithin : MethodName := ⟨RX0, "countWithin", "(LTwoWhistlesAndFiveEwes$Spots;I)I"⟩
abbrev cX0_stepsToPen : ByteArray := prog_2_method_16_code
def yX0_stepsToPen : MethodName := ⟨RX0, "stepsToPen", "(LTwoWhistlesAndFiveEwes$Spots;)I"⟩
abbrev cX0_canDo : ByteArray := prog_2_method_17_code
def yX0_canDo : MethodName := ⟨RX0, "canDo", "(II)Z"⟩
abbrev cX0_takeTurn : ByteArray := prog_2_method_18_code
def yX0_takeTurn : MethodName := ⟨RX0, "takeTurn", "(LTwoWhistlesAndFiveEwes$Spots;I)V"⟩
abbrev cX0_goalOf : ByteArray := prog_2_method_19_code
def yX0_goalOf : MethodName := ⟨RX0, "goalOf", "(LTwoWhistlesAndFiveEwes$Spots;II)I"⟩
abbrev cX0_leaderOf : ByteArray := prog_2_method_20_code
def yX0_leaderOf : MethodName := ⟨RX0, "leaderOf", "(LTwoWhistlesAndFiveEwes$Spots;I)I"⟩
abbrev cX0_nextFrom : ByteArray := prog_2_method_21_code
def yX0_nextFrom : MethodName := ⟨RX0, "nextFrom", "(III)I"⟩
abbrev cX0_wouldGo : ByteArray := prog_2_method_22_code
def yX0_wouldGo : MethodName := ⟨RX0, "wouldGo", "(LTwoWhistlesAndFiveEwes$Spots;I)Z"⟩
abbrev cX0_moved : ByteArray := prog_2_method_23_code
def yX0_moved : MethodName := ⟨RX0, "moved", "(LTwoWhistlesAndFiveEwes$Spots;)I"⟩
abbrev cX0_notIn : ByteArray := prog_2_method_24_code
def yX0_notIn : MethodName := ⟨RX0, "notIn", "()I"⟩
abbrev cX0_farthestFrom : ByteArray := prog_2_method_25_code
def yX0_farthestFrom : MethodName := ⟨RX0, "farthestFrom", "(LTwoWhistlesAndFiveEwes$Spots;I)I"⟩
abbrev cX0_apart : ByteArray := prog_2_method_26_code
def yX0_apart : MethodName := ⟨RX0, "apart", "(LTwoWhistlesAndFiveEwes$Spots;)I"⟩
abbrev cX0_flock : ByteArray := prog_2_method_27_code
def yX0_flock : MethodName := ⟨RX0, "flock", "()I"⟩
abbrev cX0_nearest : ByteArray := prog_2_method_28_code
def yX0_nearest : MethodName := ⟨RX0, "nearest", "()I"⟩
abbrev cX0_draw : ByteArray := prog_2_method_29_code
def yX0_draw : MethodName := ⟨RX0, "draw", "(I)I"⟩
abbrev cX0_eweBits : ByteArray := prog_2_method_30_code
def yX0_eweBits : MethodName := ⟨RX0, "eweBits", "()J"⟩
abbrev cX0_dogsGround : ByteArray := prog_2_method_31_code
def yX0_dogsGround : MethodName := ⟨RX0, "dogsGround", "()J"⟩
abbrev cX0_rowBits : ByteArray := prog_2_method_32_code
def yX0_rowBits : MethodName := ⟨RX0, "rowBits", "(I)J"⟩
abbrev cX0_columnBits : ByteArray := prog_2_method_33_code
def yX0_columnBits : MethodName := ⟨RX0, "columnBits", "(I)J"⟩
abbrev cX0_spread : ByteArray := prog_2_method_34_code
def yX0_spread : MethodName := ⟨RX0, "spread", "(JJ)J"⟩
def RX1 : String := "TwoWhistlesAndFiveEwes$Search"
def TX1 : u_T := fun k => match k with
  | 0 => ("TwoWhistlesAndFiveEwes$Search", "levels", "[LTwoWhistlesAndFiveEwes$Spots;", true)
  | 1 => ("TwoWhistlesAndFiveEwes$Search", "tried", "[I", true)
  | 2 => ("TwoWhistlesAndFiveEwes$Search", "found", "[I", true)
  | 3 => ("TwoWhistlesAndFiveEwes$Search", "most", "I", false)
  | 4 => ("TwoWhistlesAndFiveEwes$Search", "rows", "[I", false)
  | _ => ("TwoWhistlesAndFiveEwes$Search", "rowsThen", "[I", false)
def tyX1 : Nat → FieldType := fun k => match k with
  | 0 => .array (.object "TwoWhistlesAndFiveEwes$Spots")
  | 1 => .array .int
  | 2 => .array .int
  | 3 => .int
  | 4 => .array .int
  | _ => .array .int
abbrev wsX10 : List Cond := u_ws RX1 TX1 6
theorem nmX1 : ∀ a, a < 6 → ∀ b, b < 6 → a ≠ b → (TX1 a).2.1 ≠ (TX1 b).2.1 := by decide +kernel
theorem tyX1_ok : ∀ k, k < 6 → parseFieldDescriptor (TX1 k).2.2.1 = some (tyX1 k) := by decide +kernel
abbrev cX1_init : ByteArray := prog_3_method_1_code
def yX1_init : MethodName := ⟨RX1, "<init>", "()V"⟩
abbrev cX1_tryCommand : ByteArray := prog_3_method_2_code
def yX1_tryCommand : MethodName := ⟨RX1, "tryCommand", "(LTwoWhistlesAndFiveEwes$Hill;II)Z"⟩
abbrev cX1_bringsAll : ByteArray := prog_3_method_3_code
def yX1_bringsAll : MethodName := ⟨RX1, "bringsAll", "(LTwoWhistlesAndFiveEwes$Search;LTwoWhistlesAndFiveEwes$Hill;II)Z"⟩
abbrev cX1_seekMost : ByteArray := prog_3_method_4_code
def yX1_seekMost : MethodName := ⟨RX1, "seekMost", "(LTwoWhistlesAndFiveEwes$Search;LTwoWhistlesAndFiveEwes$Hill;II)V"⟩
abbrev cX1_countRows : ByteArray := prog_3_method_5_code
def yX1_countRows : MethodName := ⟨RX1, "countRows", "(LTwoWhistlesAndFiveEwes$Hill;I)I"⟩
abbrev cX1_addRowsFrom : ByteArray := prog_3_method_6_code
def yX1_addRowsFrom : MethodName := ⟨RX1, "addRowsFrom", "(LTwoWhistlesAndFiveEwes$Hill;I)V"⟩
def RX2 : String := "TwoWhistlesAndFiveEwes$Shelf"
def TX2 : u_T := fun k => match k with
  | 0 => ("TwoWhistlesAndFiveEwes$Shelf", "held", "I", false)
  | 1 => ("TwoWhistlesAndFiveEwes$Shelf", "size", "I", false)
  | _ => ("TwoWhistlesAndFiveEwes$Shelf", "elements", "[J", true)
def tyX2 : Nat → FieldType := fun k => match k with
  | 0 => .int
  | 1 => .int
  | _ => .array .long
abbrev wsX20 : List Cond := u_ws RX2 TX2 3
theorem nmX2 : ∀ a, a < 3 → ∀ b, b < 3 → a ≠ b → (TX2 a).2.1 ≠ (TX2 b).2.1 := by decide +kernel
theorem tyX2_ok : ∀ k, k < 3 → parseFieldDescriptor (TX2 k).2.2.1 = some (tyX2 k) := by decide +kernel
abbrev cX2_init : ByteArray := prog_4_method_1_code
def yX2_init : MethodName := ⟨RX2, "<init>", "()V"⟩
abbrev cX2_hasEwe : ByteArray := prog_4_method_2_code
def yX2_hasEwe : MethodName := ⟨RX2, "hasEwe", "()Z"⟩
abbrev cX2_hasRow : ByteArray := prog_4_method_3_code
def yX2_hasRow : MethodName := ⟨RX2, "hasRow", "()Z"⟩
abbrev cX2_takeRow : ByteArray := prog_4_method_4_code
def yX2_takeRow : MethodName := ⟨RX2, "takeRow", "(II)V"⟩
abbrev cX2_hasPart : ByteArray := prog_4_method_5_code
def yX2_hasPart : MethodName := ⟨RX2, "hasPart", "(II)Z"⟩
def RX3 : String := "TwoWhistlesAndFiveEwes$Spots"
def TX3 : u_T := fun k => match k with
  | 0 => ("TwoWhistlesAndFiveEwes$Spots", "dog", "I", false)
  | 1 => ("TwoWhistlesAndFiveEwes$Spots", "did", "I", false)
  | _ => ("TwoWhistlesAndFiveEwes$Spots", "cells", "[I", true)
def tyX3 : Nat → FieldType := fun k => match k with
  | 0 => .int
  | 1 => .int
  | _ => .array .int
abbrev wsX30 : List Cond := u_ws RX3 TX3 3
theorem nmX3 : ∀ a, a < 3 → ∀ b, b < 3 → a ≠ b → (TX3 a).2.1 ≠ (TX3 b).2.1 := by decide +kernel
theorem tyX3_ok : ∀ k, k < 3 → parseFieldDescriptor (TX3 k).2.2.1 = some (tyX3 k) := by decide +kernel
abbrev cX3_init : ByteArray := prog_5_method_1_code
def yX3_init : MethodName := ⟨RX3, "<init>", "()V"⟩
abbrev cX3_setTo : ByteArray := prog_5_method_2_code
def yX3_setTo : MethodName := ⟨RX3, "setTo", "(LTwoWhistlesAndFiveEwes$Spots;)V"⟩
def RX4 : String := "TwoWhistlesAndFiveEwes$Tape"
def TX4 : u_T := fun k => match k with
  | 0 => ("TwoWhistlesAndFiveEwes$Tape", "bytes", "[I", true)
  | 1 => ("TwoWhistlesAndFiveEwes$Tape", "size", "I", false)
  | 2 => ("TwoWhistlesAndFiveEwes$Tape", "draft", "LTwoWhistlesAndFiveEwes$Hill;", true)
  | 3 => ("TwoWhistlesAndFiveEwes$Tape", "token", "I", false)
  | 4 => ("TwoWhistlesAndFiveEwes$Tape", "start", "I", false)
  | _ => ("TwoWhistlesAndFiveEwes$Tape", "end", "I", false)
def tyX4 : Nat → FieldType := fun k => match k with
  | 0 => .array .int
  | 1 => .int
  | 2 => .object "TwoWhistlesAndFiveEwes$Hill"
  | 3 => .int
  | 4 => .int
  | _ => .int
abbrev wsX40 : List Cond := u_ws RX4 TX4 6
theorem nmX4 : ∀ a, a < 6 → ∀ b, b < 6 → a ≠ b → (TX4 a).2.1 ≠ (TX4 b).2.1 := by decide +kernel
theorem tyX4_ok : ∀ k, k < 6 → parseFieldDescriptor (TX4 k).2.2.1 = some (tyX4 k) := by decide +kernel
abbrev cX4_init : ByteArray := prog_6_method_1_code
def yX4_init : MethodName := ⟨RX4, "<init>", "()V"⟩
abbrev cX4_readOnto : ByteArray := prog_6_method_2_code
def yX4_readOnto : MethodName := ⟨RX4, "readOnto", "(LTwoWhistlesAndFiveEwes$Hill;)I"⟩
abbrev cX4_readStatement : ByteArray := prog_6_method_3_code
def yX4_readStatement : MethodName := ⟨RX4, "readStatement", "()Z"⟩
abbrev cX4_readSide : ByteArray := prog_6_method_4_code
def yX4_readSide : MethodName := ⟨RX4, "readSide", "()Z"⟩
abbrev cX4_readWall : ByteArray := prog_6_method_5_code
def yX4_readWall : MethodName := ⟨RX4, "readWall", "()Z"⟩
abbrev cX4_readGap : ByteArray := prog_6_method_6_code
def yX4_readGap : MethodName := ⟨RX4, "readGap", "()Z"⟩
abbrev cX4_readPen : ByteArray := prog_6_method_7_code
def yX4_readPen : MethodName := ⟨RX4, "readPen", "()Z"⟩
abbrev cX4_readDog : ByteArray := prog_6_method_8_code
def yX4_readDog : MethodName := ⟨RX4, "readDog", "()Z"⟩
abbrev cX4_readEwe : ByteArray := prog_6_method_9_code
def yX4_readEwe : MethodName := ⟨RX4, "readEwe", "()Z"⟩
abbrev cX4_readWind : ByteArray := prog_6_method_10_code
def yX4_readWind : MethodName := ⟨RX4, "readWind", "()Z"⟩
abbrev cX4_nextNumber : ByteArray := prog_6_method_11_code
def yX4_nextNumber : MethodName := ⟨RX4, "nextNumber", "()I"⟩
abbrev cX4_isWord : ByteArray := prog_6_method_12_code
def yX4_isWord : MethodName := ⟨RX4, "isWord", "(Ljava/lang/String;)Z"⟩
abbrev cX4_nextToken : ByteArray := prog_6_method_13_code
def yX4_nextToken : MethodName := ⟨RX4, "nextToken", "()V"⟩
abbrev cX4_tokenOf : ByteArray := prog_6_method_14_code
def yX4_tokenOf : MethodName := ⟨RX4, "tokenOf", "(I)I"⟩
abbrev cX4_byteAt : ByteArray := prog_6_method_15_code
def yX4_byteAt : MethodName := ⟨RX4, "byteAt", "(I)I"⟩
def RX5 : String := "TwoWhistlesAndFiveEwes"
def TX5 : u_T := fun k => match k with
  | 0 => ("TwoWhistlesAndFiveEwes", "now", "LTwoWhistlesAndFiveEwes$Hill;", true)
  | 1 => ("TwoWhistlesAndFiveEwes", "kept", "LTwoWhistlesAndFiveEwes$Hill;", true)
  | 2 => ("TwoWhistlesAndFiveEwes", "isKept", "Z", false)
  | 3 => ("TwoWhistlesAndFiveEwes", "tape", "LTwoWhistlesAndFiveEwes$Tape;", true)
  | 4 => ("TwoWhistlesAndFiveEwes", "shelves", "[LTwoWhistlesAndFiveEwes$Shelf;", true)
  | 5 => ("TwoWhistlesAndFiveEwes", "refusals", "[I", true)
  | 6 => ("TwoWhistlesAndFiveEwes", "trial", "LTwoWhistlesAndFiveEwes$Spots;", true)
  | _ => ("TwoWhistlesAndFiveEwes", "search", "LTwoWhistlesAndFiveEwes$Search;", true)
def tyX5 : Nat → FieldType := fun k => match k with
  | 0 => .object "TwoWhistlesAndFiveEwes$Hill"
  | 1 => .object "TwoWhistlesAndFiveEwes$Hill"
  | 2 => .boolean
  | 3 => .object "TwoWhistlesAndFiveEwes$Tape"
  | 4 => .array (.object "TwoWhistlesAndFiveEwes$Shelf")
  | 5 => .array .int
  | 6 => .object "TwoWhistlesAndFiveEwes$Spots"
  | _ => .object "TwoWhistlesAndFiveEwes$Search"
abbrev wsX50 : List Cond := u_ws RX5 TX5 8
theorem nmX5 : ∀ a, a < 8 → ∀ b, b < 8 → a ≠ b → (TX5 a).2.1 ≠ (TX5 b).2.1 := by decide +kernel
theorem tyX5_ok : ∀ k, k < 8 → parseFieldDescriptor (TX5 k).2.2.1 = some (tyX5 k) := by decide +kernel
abbrev cX5_init : ByteArray := prog_1_method_1_code
def yX5_init : MethodName := ⟨RX5, "<init>", "()V"⟩
abbrev cX5_row : ByteArray := prog_1_method_2_code
def yX5_row : MethodName := ⟨RX5, "row", "(III)I"⟩
abbrev cX5_set : ByteArray := prog_1_method_3_code
def yX5_set : MethodName := ⟨RX5, "set", "(IIJ)I"⟩
abbrev cX5_copy : ByteArray := prog_1_method_4_code
def yX5_copy : MethodName := ⟨RX5, "copy", "(IIIII)I"⟩
abbrev cX5_element : ByteArray := prog_1_method_5_code
def yX5_element : MethodName := ⟨RX5, "element", "(II)J"⟩
abbrev cX5_holds : ByteArray := prog_1_method_6_code
def yX5_holds : MethodName := ⟨RX5, "holds", "(I)I"⟩
abbrev cX5_show : ByteArray := prog_1_method_7_code
def yX5_show : MethodName := ⟨RX5, "show", "(II)I"⟩
abbrev cX5_says : ByteArray := prog_1_method_8_code
def yX5_says : MethodName := ⟨RX5, "says", "(II)I"⟩
abbrev cX5_side : ByteArray := prog_1_method_9_code
def yX5_side : MethodName := ⟨RX5, "side", "(I)I"⟩
abbrev cX5_wall : ByteArray := prog_1_method_10_code
def yX5_wall : MethodName := ⟨RX5, "wall", "(IZ)I"⟩
abbrev cX5_pen : ByteArray := prog_1_method_11_code
def yX5_pen : MethodName := ⟨RX5, "pen", "(I)I"⟩
abbrev cX5_dog : ByteArray := prog_1_method_12_code
def yX5_dog : MethodName := ⟨RX5, "dog", "(I)I"⟩
abbrev cX5_ewe : ByteArray := prog_1_method_13_code
def yX5_ewe : MethodName := ⟨RX5, "ewe", "(III)I"⟩
abbrev cX5_move : ByteArray := prog_1_method_14_code
def yX5_move : MethodName := ⟨RX5, "move", "(II)I"⟩
abbrev cX5_wind : ByteArray := prog_1_method_15_code
def yX5_wind : MethodName := ⟨RX5, "wind", "(I)I"⟩
abbrev cX5_feed : ByteArray := prog_1_method_16_code
def yX5_feed : MethodName := ⟨RX5, "feed", "(I)I"⟩
abbrev cX5_wipe : ByteArray := prog_1_method_17_code
def yX5_wipe : MethodName := ⟨RX5, "wipe", "()I"⟩
abbrev cX5_hill : ByteArray := prog_1_method_18_code
def yX5_hill : MethodName := ⟨RX5, "hill", "()I"⟩
abbrev cX5_eweOf : ByteArray := prog_1_method_19_code
def yX5_eweOf : MethodName := ⟨RX5, "eweOf", "(II)I"⟩
abbrev cX5_hasWall : ByteArray := prog_1_method_20_code
def yX5_hasWall : MethodName := ⟨RX5, "hasWall", "(I)I"⟩
abbrev cX5_fewest : ByteArray := prog_1_method_21_code
def yX5_fewest : MethodName := ⟨RX5, "fewest", "(II)I"⟩
abbrev cX5_most : ByteArray := prog_1_method_22_code
def yX5_most : MethodName := ⟨RX5, "most", "(II)I"⟩
abbrev cX5_stand : ByteArray := prog_1_method_23_code
def yX5_stand : MethodName := ⟨RX5, "stand", "()I"⟩
abbrev cX5_shy : ByteArray := prog_1_method_24_code
def yX5_shy : MethodName := ⟨RX5, "shy", "(I)I"⟩
abbrev cX5_late : ByteArray := prog_1_method_25_code
def yX5_late : MethodName := ⟨RX5, "late", "(III)I"⟩
abbrev cX5_bare : ByteArray := prog_1_method_26_code
def yX5_bare : MethodName := ⟨RX5, "bare", "()I"⟩
abbrev cX5_odds : ByteArray := prog_1_method_27_code
def yX5_odds : MethodName := ⟨RX5, "odds", "(II)I"⟩
abbrev cX5_ewes : ByteArray := prog_1_method_28_code
def yX5_ewes : MethodName := ⟨RX5, "ewes", "(I)I"⟩
abbrev cX5_path : ByteArray := prog_1_method_29_code
def yX5_path : MethodName := ⟨RX5, "path", "(I)I"⟩
abbrev cX5_reach : ByteArray := prog_1_method_30_code
def yX5_reach : MethodName := ⟨RX5, "reach", "(I)I"⟩
abbrev cX5_ways : ByteArray := prog_1_method_31_code
def yX5_ways : MethodName := ⟨RX5, "ways", "(I)I"⟩
abbrev cX5_open : ByteArray := prog_1_method_32_code
def yX5_open : MethodName := ⟨RX5, "open", "(I)I"⟩
abbrev cX5_still : ByteArray := prog_1_method_33_code
def yX5_still : MethodName := ⟨RX5, "still", "(I)I"⟩
abbrev cX5_held : ByteArray := prog_1_method_34_code
def yX5_held : MethodName := ⟨RX5, "held", "()I"⟩
abbrev cX5_grazing : ByteArray := prog_1_method_35_code
def yX5_grazing : MethodName := ⟨RX5, "grazing", "()I"⟩
abbrev cX5_last : ByteArray := prog_1_method_36_code
def yX5_last : MethodName := ⟨RX5, "last", "()I"⟩
abbrev cX5_near : ByteArray := prog_1_method_37_code
def yX5_near : MethodName := ⟨RX5, "near", "(II)I"⟩
abbrev cX5_steps : ByteArray := prog_1_method_38_code
def yX5_steps : MethodName := ⟨RX5, "steps", "()I"⟩
abbrev cX5_best : ByteArray := prog_1_method_39_code
def yX5_best : MethodName := ⟨RX5, "best", "()I"⟩
abbrev cX5_kinds : ByteArray := prog_1_method_40_code
def yX5_kinds : MethodName := ⟨RX5, "kinds", "(IIII)I"⟩
abbrev cX5_judge : ByteArray := prog_1_method_41_code
def yX5_judge : MethodName := ⟨RX5, "judge", "(II)I"⟩
abbrev cX5_behind : ByteArray := prog_1_method_42_code
def yX5_behind : MethodName := ⟨RX5, "behind", "(III)I"⟩
abbrev cX5_done : ByteArray := prog_1_method_43_code
def yX5_done : MethodName := ⟨RX5, "done", "(II)I"⟩
abbrev cX5_turn : ByteArray := prog_1_method_44_code
def yX5_turn : MethodName := ⟨RX5, "turn", "(I)I"⟩
abbrev cX5_evening : ByteArray := prog_1_method_45_code
def yX5_evening : MethodName := ⟨RX5, "evening", "(I)I"⟩
abbrev cX5_seed : ByteArray := prog_1_method_46_code
def yX5_seed : MethodName := ⟨RX5, "seed", "(I)I"⟩
abbrev cX5_image : ByteArray := prog_1_method_47_code
def yX5_image : MethodName := ⟨RX5, "image", "()I"⟩
abbrev cX5_back : ByteArray := prog_1_method_48_code
def yX5_back : MethodName := ⟨RX5, "back", "()I"⟩
abbrev cX5_status : ByteArray := prog_1_method_49_code
def yX5_status : MethodName := ⟨RX5, "status", "(I)I"⟩
abbrev cX5_refuse : ByteArray := prog_1_method_50_code
def yX5_refuse : MethodName := ⟨RX5, "refuse", "(I)I"⟩
abbrev cX5_isShelf : ByteArray := prog_1_method_51_code
def yX5_isShelf : MethodName := ⟨RX5, "isShelf", "(I)Z"⟩
abbrev cX5_isKind : ByteArray := prog_1_method_52_code
def yX5_isKind : MethodName := ⟨RX5, "isKind", "(I)Z"⟩
abbrev cX5_isCommand : ByteArray := prog_1_method_53_code
def yX5_isCommand : MethodName := ⟨RX5, "isCommand", "(J)Z"⟩
abbrev cX5_faultOfRow : ByteArray := prog_1_method_54_code
def yX5_faultOfRow : MethodName := ⟨RX5, "faultOfRow", "(III)I"⟩
abbrev cX5_faultOfCommands : ByteArray := prog_1_method_55_code
def yX5_faultOfCommands : MethodName := ⟨RX5, "faultOfCommands", "(III)I"⟩
abbrev cX5_faultOfDoable : ByteArray := prog_1_method_56_code
def yX5_faultOfDoable : MethodName := ⟨RX5, "faultOfDoable", "(II)I"⟩
abbrev cX5_firstWrong : ByteArray := prog_1_method_57_code
def yX5_firstWrong : MethodName := ⟨RX5, "firstWrong", "(LTwoWhistlesAndFiveEwes$Shelf;I)I"⟩
abbrev cX5_takeTold : ByteArray := prog_1_method_58_code
def yX5_takeTold : MethodName := ⟨RX5, "takeTold", "(LTwoWhistlesAndFiveEwes$Spots;LTwoWhistlesAndFiveEwes$Shelf;I)V"⟩
abbrev cX5_weightIfAllIn : ByteArray := prog_1_method_59_code
def yX5_weightIfAllIn : MethodName := ⟨RX5, "weightIfAllIn", "(LTwoWhistlesAndFiveEwes$Shelf;II)J"⟩
abbrev cX5_areCells : ByteArray := prog_1_method_60_code
def yX5_areCells : MethodName := ⟨RX5, "areCells", "(LTwoWhistlesAndFiveEwes$Shelf;I)Z"⟩
abbrev cX5_goesSo : ByteArray := prog_1_method_61_code
def yX5_goesSo : MethodName := ⟨RX5, "goesSo", "(IILTwoWhistlesAndFiveEwes$Shelf;LTwoWhistlesAndFiveEwes$Shelf;I)Z"⟩
abbrev cX5_countFilledShelves : ByteArray := prog_1_method_62_code
def yX5_countFilledShelves : MethodName := ⟨RX5, "countFilledShelves", "()I"⟩
abbrev cX5_cutTo : ByteArray := prog_1_method_63_code
def yX5_cutTo : MethodName := ⟨RX5, "cutTo", "(IJ)J"⟩
abbrev cX5_stepsBetween : ByteArray := prog_1_method_64_code
def yX5_stepsBetween : MethodName := ⟨RX5, "stepsBetween", "(II)I"⟩
abbrev cX5_bitOf : ByteArray := prog_1_method_65_code
def yX5_bitOf : MethodName := ⟨RX5, "bitOf", "(I)J"⟩
abbrev cX5_isUnder : ByteArray := prog_1_method_66_code
def yX5_isUnder : MethodName := ⟨RX5, "isUnder", "(II)Z"⟩
def RX6 : String := "TwoWhistlesAndFiveEwesModel"
def TX6 : u_T := fun k => match k with
  | 0 => ("TwoWhistlesAndFiveEwesModel", "n", "I", false)
  | 1 => ("TwoWhistlesAndFiveEwesModel", "walls", "[Z", true)
  | 2 => ("TwoWhistlesAndFiveEwesModel", "pen", "I", false)
  | 3 => ("TwoWhistlesAndFiveEwesModel", "dog", "I", false)
  | 4 => ("TwoWhistlesAndFiveEwesModel", "latest", "I", false)
  | 5 => ("TwoWhistlesAndFiveEwesModel", "many", "I", false)
  | 6 => ("TwoWhistlesAndFiveEwesModel", "kind", "[I", true)
  | 7 => ("TwoWhistlesAndFiveEwesModel", "own", "[I", true)
  | 8 => ("TwoWhistlesAndFiveEwesModel", "cell", "[I", true)
  | 9 => ("TwoWhistlesAndFiveEwesModel", "wind", "I", false)
  | 10 => ("TwoWhistlesAndFiveEwesModel", "turns", "I", false)
  | 11 => ("TwoWhistlesAndFiveEwesModel", "seed", "I", false)
  | 12 => ("TwoWhistlesAndFiveEwesModel", "taped", "I", false)
  | 13 => ("TwoWhistlesAndFiveEwesModel", "tape", "[I", true)
  | 14 => ("TwoWhistlesAndFiveEwesModel", "from", "I", false)
  | 15 => ("TwoWhistlesAndFiveEwesModel", "to", "I", false)
  | 16 => ("TwoWhistlesAndFiveEwesModel", "token", "I", false)
  | 17 => ("TwoWhistlesAndFiveEwesModel", "value", "I", false)
  | 18 => ("TwoWhistlesAndFiveEwesModel", "holding", "[I", true)
  | 19 => ("TwoWhistlesAndFiveEwesModel", "rowLength", "[I", true)
  | 20 => ("TwoWhistlesAndFiveEwesModel", "rowOf", "[J", true)
  | 21 => ("TwoWhistlesAndFiveEwesModel", "refusals", "[I", true)
  | 22 => ("TwoWhistlesAndFiveEwesModel", "imaged", "Z", false)
  | 23 => ("TwoWhistlesAndFiveEwesModel", "old", "[I", true)
  | 24 => ("TwoWhistlesAndFiveEwesModel", "ahead", "[I", true)
  | 25 => ("TwoWhistlesAndFiveEwesModel", "saved", "[I", true)
  | 26 => ("TwoWhistlesAndFiveEwesModel", "path", "[I", true)
  | 27 => ("TwoWhistlesAndFiveEwesModel", "bestPath", "[I", true)
  | 28 => ("TwoWhistlesAndFiveEwesModel", "best", "I", false)
  | _ => ("TwoWhistlesAndFiveEwesModel", "far", "[I", true)
def tyX6 : Nat → FieldType := fun k => match k with
  | 0 => .int
  | 1 => .array .boolean
  | 2 => .int
  | 3 => .int
  | 4 => .int
  | 5 => .int
  | 6 => .array .int
  | 7 => .array .int
  | 8 => .array .int
  | 9 => .int
  | 10 => .int
  | 11 => .int
  | 12 => .int
  | 13 => .array .int
  | 14 => .int
  | 15 => .int
  | 16 => .int
  | 17 => .int
  | 18 => .array .int
  | 19 => .array .int
  | 20 => .array .long
  | 21 => .array .int
  | 22 => .boolean
  | 23 => .array .int
  | 24 => .array .int
  | 25 => .array .int
  | 26 => .array .int
  | 27 => .array .int
  | 28 => .int
  | _ => .array .int
abbrev wsX60 : List Cond := u_ws RX6 TX6 30
theorem nmX6 : ∀ a, a < 30 → ∀ b, b < 30 → a ≠ b → (TX6 a).2.1 ≠ (TX6 b).2.1 := by decide +kernel
theorem tyX6_ok : ∀ k, k < 30 → parseFieldDescriptor (TX6 k).2.2.1 = some (tyX6 k) := by decide +kernel
abbrev cX6_init : ByteArray := prog_8_method_1_code
def yX6_init : MethodName := ⟨RX6, "<init>", "()V"⟩
abbrev cX6_no : ByteArray := prog_8_method_2_code
def yX6_no : MethodName := ⟨RX6, "no", "(I)I"⟩
abbrev cX6_within : ByteArray := prog_8_method_3_code
def yX6_within : MethodName := ⟨RX6, "within", "(III)Z"⟩
abbrev cX6_isCell : ByteArray := prog_8_method_4_code
def yX6_isCell : MethodName := ⟨RX6, "isCell", "(J)Z"⟩
abbrev cX6_isEwe : ByteArray := prog_8_method_5_code
def yX6_isEwe : MethodName := ⟨RX6, "isEwe", "(I)Z"⟩
abbrev cX6_isShelf : ByteArray := prog_8_method_6_code
def yX6_isShelf : MethodName := ⟨RX6, "isShelf", "(I)Z"⟩
abbrev cX6_isRow : ByteArray := prog_8_method_7_code
def yX6_isRow : MethodName := ⟨RX6, "isRow", "(I)Z"⟩
abbrev cX6_row : ByteArray := prog_8_method_8_code
def yX6_row : MethodName := ⟨RX6, "row", "(III)I"⟩
abbrev cX6_noRow : ByteArray := prog_8_method_9_code
def yX6_noRow : MethodName := ⟨RX6, "noRow", "(I)I"⟩
abbrev cX6_kept : ByteArray := prog_8_method_10_code
def yX6_kept : MethodName := ⟨RX6, "kept", "(IJ)J"⟩
abbrev cX6_set : ByteArray := prog_8_method_11_code
def yX6_set : MethodName := ⟨RX6, "set", "(IIJ)I"⟩
abbrev cX6_copy : ByteArray := prog_8_method_12_code
def yX6_copy : MethodName := ⟨RX6, "copy", "(IIIII)I"⟩
abbrev cX6_element : ByteArray := prog_8_method_13_code
def yX6_element : MethodName := ⟨RX6, "element", "(II)J"⟩
abbrev cX6_holds : ByteArray := prog_8_method_14_code
def yX6_holds : MethodName := ⟨RX6, "holds", "(I)I"⟩
abbrev cX6_show : ByteArray := prog_8_method_15_code
def yX6_show : MethodName := ⟨RX6, "show", "(II)I"⟩
abbrev cX6_isUnder : ByteArray := prog_8_method_16_code
def yX6_isUnder : MethodName := ⟨RX6, "isUnder", "(II)Z"⟩
abbrev cX6_says : ByteArray := prog_8_method_17_code
def yX6_says : MethodName := ⟨RX6, "says", "(II)I"⟩
abbrev cX6_steps : ByteArray := prog_8_method_18_code
def yX6_steps : MethodName := ⟨RX6, "steps", "(II)I"⟩
abbrev cX6_isEweAt : ByteArray := prog_8_method_19_code
def yX6_isEweAt : MethodName := ⟨RX6, "isEweAt", "(I)Z"⟩
abbrev cX6_isIn : ByteArray := prog_8_method_20_code
def yX6_isIn : MethodName := ⟨RX6, "isIn", "(I)Z"⟩
abbrev cX6_in : ByteArray := prog_8_method_21_code
def yX6_in : MethodName := ⟨RX6, "in", "()I"⟩
abbrev cX6_beside : ByteArray := prog_8_method_22_code
def yX6_beside : MethodName := ⟨RX6, "beside", "(II)I"⟩
abbrev cX6_side : ByteArray := prog_8_method_23_code
def yX6_side : MethodName := ⟨RX6, "side", "(I)I"⟩
abbrev cX6_mayWall : ByteArray := prog_8_method_24_code
def yX6_mayWall : MethodName := ⟨RX6, "mayWall", "(I)Z"⟩
abbrev cX6_wall : ByteArray := prog_8_method_25_code
def yX6_wall : MethodName := ⟨RX6, "wall", "(IZ)I"⟩
abbrev cX6_mayPen : ByteArray := prog_8_method_26_code
def yX6_mayPen : MethodName := ⟨RX6, "mayPen", "(I)Z"⟩
abbrev cX6_pen : ByteArray := prog_8_method_27_code
def yX6_pen : MethodName := ⟨RX6, "pen", "(I)I"⟩
abbrev cX6_mayDog : ByteArray := prog_8_method_28_code
def yX6_mayDog : MethodName := ⟨RX6, "mayDog", "(I)Z"⟩
abbrev cX6_dog : ByteArray := prog_8_method_29_code
def yX6_dog : MethodName := ⟨RX6, "dog", "(I)I"⟩
abbrev cX6_newEwe : ByteArray := prog_8_method_30_code
def yX6_newEwe : MethodName := ⟨RX6, "newEwe", "(III)I"⟩
abbrev cX6_ewe : ByteArray := prog_8_method_31_code
def yX6_ewe : MethodName := ⟨RX6, "ewe", "(III)I"⟩
abbrev cX6_move : ByteArray := prog_8_method_32_code
def yX6_move : MethodName := ⟨RX6, "move", "(II)I"⟩
abbrev cX6_wind : ByteArray := prog_8_method_33_code
def yX6_wind : MethodName := ⟨RX6, "wind", "(I)I"⟩
abbrev cX6_feed : ByteArray := prog_8_method_34_code
def yX6_feed : MethodName := ⟨RX6, "feed", "(I)I"⟩
abbrev cX6_wipe : ByteArray := prog_8_method_35_code
def yX6_wipe : MethodName := ⟨RX6, "wipe", "()I"⟩
abbrev cX6_isLetter : ByteArray := prog_8_method_36_code
def yX6_isLetter : MethodName := ⟨RX6, "isLetter", "(I)Z"⟩
abbrev cX6_isDigit : ByteArray := prog_8_method_37_code
def yX6_isDigit : MethodName := ⟨RX6, "isDigit", "(I)Z"⟩
abbrev cX6_next : ByteArray := prog_8_method_38_code
def yX6_next : MethodName := ⟨RX6, "next", "()V"⟩
abbrev cX6_isWord : ByteArray := prog_8_method_39_code
def yX6_isWord : MethodName := ⟨RX6, "isWord", "(Ljava/lang/String;)Z"⟩
abbrev cX6_number : ByteArray := prog_8_method_40_code
def yX6_number : MethodName := ⟨RX6, "number", "(II)I"⟩
abbrev cX6_place : ByteArray := prog_8_method_41_code
def yX6_place : MethodName := ⟨RX6, "place", "()I"⟩
abbrev cX6_statement : ByteArray := prog_8_method_42_code
def yX6_statement : MethodName := ⟨RX6, "statement", "()Z"⟩
abbrev cX6_hill : ByteArray := prog_8_method_43_code
def yX6_hill : MethodName := ⟨RX6, "hill", "()I"⟩
abbrev cX6_eweOf : ByteArray := prog_8_method_44_code
def yX6_eweOf : MethodName := ⟨RX6, "eweOf", "(II)I"⟩
abbrev cX6_hasWall : ByteArray := prog_8_method_45_code
def yX6_hasWall : MethodName := ⟨RX6, "hasWall", "(I)I"⟩
abbrev cX6_flees : ByteArray := prog_8_method_46_code
def yX6_flees : MethodName := ⟨RX6, "flees", "(II)V"⟩
abbrev cX6_leaderOf : ByteArray := prog_8_method_47_code
def yX6_leaderOf : MethodName := ⟨RX6, "leaderOf", "(I)I"⟩
abbrev cX6_runs : ByteArray := prog_8_method_48_code
def yX6_runs : MethodName := ⟨RX6, "runs", "(III)V"⟩
abbrev cX6_eweGoes : ByteArray := prog_8_method_49_code
def yX6_eweGoes : MethodName := ⟨RX6, "eweGoes", "(I)V"⟩
abbrev cX6_can : ByteArray := prog_8_method_50_code
def yX6_can : MethodName := ⟨RX6, "can", "(I)Z"⟩
abbrev cX6_goes : ByteArray := prog_8_method_51_code
def yX6_goes : MethodName := ⟨RX6, "goes", "(I)V"⟩
abbrev cX6_saves : ByteArray := prog_8_method_52_code
def yX6_saves : MethodName := ⟨RX6, "saves", "(I)V"⟩
abbrev cX6_again : ByteArray := prog_8_method_53_code
def yX6_again : MethodName := ⟨RX6, "again", "(I)V"⟩
abbrev cX6_brings : ByteArray := prog_8_method_54_code
def yX6_brings : MethodName := ⟨RX6, "brings", "(II)Z"⟩
abbrev cX6_fewest : ByteArray := prog_8_method_55_code
def yX6_fewest : MethodName := ⟨RX6, "fewest", "(II)I"⟩
abbrev cX6_seeks : ByteArray := prog_8_method_56_code
def yX6_seeks : MethodName := ⟨RX6, "seeks", "(II)V"⟩
abbrev cX6_most : ByteArray := prog_8_method_57_code
def yX6_most : MethodName := ⟨RX6, "most", "(II)I"⟩
abbrev cX6_allSteps : ByteArray := prog_8_method_58_code
def yX6_allSteps : MethodName := ⟨RX6, "allSteps", "()I"⟩
abbrev cX6_stand : ByteArray := prog_8_method_59_code
def yX6_stand : MethodName := ⟨RX6, "stand", "()I"⟩
abbrev cX6_noTold : ByteArray := prog_8_method_60_code
def yX6_noTold : MethodName := ⟨RX6, "noTold", "(II)I"⟩
abbrev cX6_toldAt : ByteArray := prog_8_method_61_code
def yX6_toldAt : MethodName := ⟨RX6, "toldAt", "(II)J"⟩
abbrev cX6_odds : ByteArray := prog_8_method_62_code
def yX6_odds : MethodName := ⟨RX6, "odds", "(II)I"⟩
abbrev cX6_apart : ByteArray := prog_8_method_63_code
def yX6_apart : MethodName := ⟨RX6, "apart", "()I"⟩
abbrev cX6_flock : ByteArray := prog_8_method_64_code
def yX6_flock : MethodName := ⟨RX6, "flock", "()I"⟩
abbrev cX6_nearest : ByteArray := prog_8_method_65_code
def yX6_nearest : MethodName := ⟨RX6, "nearest", "()I"⟩
abbrev cX6_moved : ByteArray := prog_8_method_66_code
def yX6_moved : MethodName := ⟨RX6, "moved", "()I"⟩
abbrev cX6_ewes : ByteArray := prog_8_method_67_code
def yX6_ewes : MethodName := ⟨RX6, "ewes", "(I)I"⟩
abbrev cX6_walks : ByteArray := prog_8_method_68_code
def yX6_walks : MethodName := ⟨RX6, "walks", "()V"⟩
abbrev cX6_path : ByteArray := prog_8_method_69_code
def yX6_path : MethodName := ⟨RX6, "path", "(I)I"⟩
abbrev cX6_reach : ByteArray := prog_8_method_70_code
def yX6_reach : MethodName := ⟨RX6, "reach", "(I)I"⟩
abbrev cX6_rows : ByteArray := prog_8_method_71_code
def yX6_rows : MethodName := ⟨RX6, "rows", "(I)I"⟩
abbrev cX6_ways : ByteArray := prog_8_method_72_code
def yX6_ways : MethodName := ⟨RX6, "ways", "(I)I"⟩
abbrev cX6_open : ByteArray := prog_8_method_73_code
def yX6_open : MethodName := ⟨RX6, "open", "(I)I"⟩
abbrev cX6_still : ByteArray := prog_8_method_74_code
def yX6_still : MethodName := ⟨RX6, "still", "(I)I"⟩
abbrev cX6_held : ByteArray := prog_8_method_75_code
def yX6_held : MethodName := ⟨RX6, "held", "()I"⟩
abbrev cX6_grazing : ByteArray := prog_8_method_76_code
def yX6_grazing : MethodName := ⟨RX6, "grazing", "()I"⟩
abbrev cX6_shy : ByteArray := prog_8_method_77_code
def yX6_shy : MethodName := ⟨RX6, "shy", "(I)I"⟩
abbrev cX6_bare : ByteArray := prog_8_method_78_code
def yX6_bare : MethodName := ⟨RX6, "bare", "()I"⟩
abbrev cX6_late : ByteArray := prog_8_method_79_code
def yX6_late : MethodName := ⟨RX6, "late", "(III)I"⟩
abbrev cX6_last : ByteArray := prog_8_method_80_code
def yX6_last : MethodName := ⟨RX6, "last", "()I"⟩
abbrev cX6_near : ByteArray := prog_8_method_81_code
def yX6_near : MethodName := ⟨RX6, "near", "(II)I"⟩
abbrev cX6_steps_ : ByteArray := prog_8_method_82_code
def yX6_steps_ : MethodName := ⟨RX6, "steps", "()I"⟩
abbrev cX6_best : ByteArray := prog_8_method_83_code
def yX6_best : MethodName := ⟨RX6, "best", "()I"⟩
abbrev cX6_isSo : ByteArray := prog_8_method_84_code
def yX6_isSo : MethodName := ⟨RX6, "isSo", "(IIII)Z"⟩
abbrev cX6_kinds : ByteArray := prog_8_method_85_code
def yX6_kinds : MethodName := ⟨RX6, "kinds", "(IIII)I"⟩
abbrev cX6_doneAll : ByteArray := prog_8_method_86_code
def yX6_doneAll : MethodName := ⟨RX6, "doneAll", "(II)I"⟩
abbrev cX6_judge : ByteArray := prog_8_method_87_code
def yX6_judge : MethodName := ⟨RX6, "judge", "(II)I"⟩
abbrev cX6_behind : ByteArray := prog_8_method_88_code
def yX6_behind : MethodName := ⟨RX6, "behind", "(III)I"⟩
abbrev cX6_done : ByteArray := prog_8_method_89_code
def yX6_done : MethodName := ⟨RX6, "done", "(II)I"⟩
abbrev cX6_turn : ByteArray := prog_8_method_90_code
def yX6_turn : MethodName := ⟨RX6, "turn", "(I)I"⟩
abbrev cX6_draw : ByteArray := prog_8_method_91_code
def yX6_draw : MethodName := ⟨RX6, "draw", "(I)I"⟩
abbrev cX6_evening : ByteArray := prog_8_method_92_code
def yX6_evening : MethodName := ⟨RX6, "evening", "(I)I"⟩
abbrev cX6_seed : ByteArray := prog_8_method_93_code
def yX6_seed : MethodName := ⟨RX6, "seed", "(I)I"⟩
abbrev cX6_keep : ByteArray := prog_8_method_94_code
def yX6_keep : MethodName := ⟨RX6, "keep", "([I)V"⟩
abbrev cX6_keepBack : ByteArray := prog_8_method_95_code
def yX6_keepBack : MethodName := ⟨RX6, "keepBack", "([I)V"⟩
abbrev cX6_image : ByteArray := prog_8_method_96_code
def yX6_image : MethodName := ⟨RX6, "image", "()I"⟩
abbrev cX6_back : ByteArray := prog_8_method_97_code
def yX6_back : MethodName := ⟨RX6, "back", "()I"⟩
abbrev cX6_allWalls : ByteArray := prog_8_method_98_code
def yX6_allWalls : MethodName := ⟨RX6, "allWalls", "()I"⟩
abbrev cX6_status : ByteArray := prog_8_method_99_code
def yX6_status : MethodName := ⟨RX6, "status", "(I)I"⟩
def RJx145de : String := "java/io/Serializable"
def TJx145de : u_T := fun k => match k with
  | _ => ("", "", "", false)
def tyJx145de : Nat → FieldType := fun k => match k with
  | _ => .int
abbrev wsJx145de0 : List Cond := u_ws RJx145de TJx145de 0
theorem nmJx145de : ∀ a, a < 0 → ∀ b, b < 0 → a ≠ b → (TJx145de a).2.1 ≠ (TJx145de b).2.1 := by decide +kernel
theorem tyJx145de_ok : ∀ k, k < 0 → parseFieldDescriptor (TJx145de k).2.2.1 = some (tyJx145de k) := by decide +kernel
def RJx9f9b0 : String := "java/lang/CharSequence"
def TJx9f9b0 : u_T := fun k => match k with
  | _ => ("", "", "", false)
def tyJx9f9b0 : Nat → FieldType := fun k => match k with
  | _ => .int
abbrev wsJx9f9b00 : List Cond := u_ws RJx9f9b0 TJx9f9b0 0
theorem nmJx9f9b0 : ∀ a, a < 0 → ∀ b, b < 0 → a ≠ b → (TJx9f9b0 a).2.1 ≠ (TJx9f9b0 b).2.1 := by decide +kernel
theorem tyJx9f9b0_ok : ∀ k, k < 0 → parseFieldDescriptor (TJx9f9b0 k).2.2.1 = some (tyJx9f9b0 k) := by decide +kernel
def RJxb160c : String := "java/lang/Comparable"
def TJxb160c : u_T := fun k => match k with
  | _ => ("", "", "", false)
def tyJxb160c : Nat → FieldType := fun k => match k with
  | _ => .int
abbrev wsJxb160c0 : List Cond := u_ws RJxb160c TJxb160c 0
theorem nmJxb160c : ∀ a, a < 0 → ∀ b, b < 0 → a ≠ b → (TJxb160c a).2.1 ≠ (TJxb160c b).2.1 := by decide +kernel
theorem tyJxb160c_ok : ∀ k, k < 0 → parseFieldDescriptor (TJxb160c k).2.2.1 = some (tyJxb160c k) := by decide +kernel
def RJ6 : String := "java/lang/Integer"
def TJ6 : u_T := fun k => match k with
  | _ => ("", "", "", false)
def tyJ6 : Nat → FieldType := fun k => match k with
  | _ => .int
abbrev wsJ60 : List Cond := u_ws RJ6 TJ6 0
theorem nmJ6 : ∀ a, a < 0 → ∀ b, b < 0 → a ≠ b → (TJ6 a).2.1 ≠ (TJ6 b).2.1 := by decide +kernel
theorem tyJ6_ok : ∀ k, k < 0 → parseFieldDescriptor (TJ6 k).2.2.1 = some (tyJ6 k) := by decide +kernel
abbrev cJ6_bitCount_0f7a4 : ByteArray := prog_9_method_49_code
def yJ6_bitCount_0f7a4 : MethodName := ⟨RJ6, "bitCount", "(I)I"⟩
def RJ13 : String := "java/lang/Long"
def TJ13 : u_T := fun k => match k with
  | _ => ("", "", "", false)
def tyJ13 : Nat → FieldType := fun k => match k with
  | _ => .int
abbrev wsJ130 : List Cond := u_ws RJ13 TJ13 0
theorem nmJ13 : ∀ a, a < 0 → ∀ b, b < 0 → a ≠ b → (TJ13 a).2.1 ≠ (TJ13 b).2.1 := by decide +kernel
theorem tyJ13_ok : ∀ k, k < 0 → parseFieldDescriptor (TJ13 k).2.2.1 = some (tyJ13 k) := by decide +kernel
abbrev cJ13_bitCount_95d88 : ByteArray := prog_10_method_50_code
def yJ13_bitCount_95d88 : MethodName := ⟨RJ13, "bitCount", "(J)I"⟩
def RJ9 : String := "java/lang/Math"
def TJ9 : u_T := fun k => match k with
  | _ => ("", "", "", false)
def tyJ9 : Nat → FieldType := fun k => match k with
  | _ => .int
abbrev wsJ90 : List Cond := u_ws RJ9 TJ9 0
theorem nmJ9 : ∀ a, a < 0 → ∀ b, b < 0 → a ≠ b → (TJ9 a).2.1 ≠ (TJ9 b).2.1 := by decide +kernel
theorem tyJ9_ok : ∀ k, k < 0 → parseFieldDescriptor (TJ9 k).2.2.1 = some (tyJ9 k) := by decide +kernel
abbrev cJ9_abs_0f7a4 : ByteArray := prog_11_method_59_code
def yJ9_abs_0f7a4 : MethodName := ⟨RJ9, "abs", "(I)I"⟩
abbrev cJ9_max_7cf53 : ByteArray := prog_11_method_65_code
def yJ9_max_7cf53 : MethodName := ⟨RJ9, "max", "(II)I"⟩
def RJ0 : String := "java/lang/String"
def TJ0 : u_T := fun k => match k with
  | _ => ("", "", "", false)
def tyJ0 : Nat → FieldType := fun k => match k with
  | _ => .int
abbrev wsJ00 : List Cond := u_ws RJ0 TJ0 0
theorem nmJ0 : ∀ a, a < 0 → ∀ b, b < 0 → a ≠ b → (TJ0 a).2.1 ≠ (TJ0 b).2.1 := by decide +kernel
theorem tyJ0_ok : ∀ k, k < 0 → parseFieldDescriptor (TJ0 k).2.2.1 = some (tyJ0 k) := by decide +kernel
abbrev cJ0_length_8abf5 : ByteArray := prog_12_method_54_code
def yJ0_length_8abf5 : MethodName := ⟨RJ0, "length", "()I"⟩
abbrev cJ0_charAt_5068e : ByteArray := prog_12_method_56_code
def yJ0_charAt_5068e : MethodName := ⟨RJ0, "charAt", "(I)C"⟩
abbrev cJ0_coder_7d493 : ByteArray := prog_12_method_152_code
def yJ0_coder_7d493 : MethodName := ⟨RJ0, "coder", "()B"⟩
abbrev cJ0_isLatin1_aae02 : ByteArray := prog_12_method_154_code
def yJ0_isLatin1_aae02 : MethodName := ⟨RJ0, "isLatin1", "()Z"⟩
abbrev cJ0_checkIndex_df160 : ByteArray := prog_12_method_155_code
def yJ0_checkIndex_df160 : MethodName := ⟨RJ0, "checkIndex", "(II)V"⟩
def RJ1 : String := "java/lang/StringLatin1"
def TJ1 : u_T := fun k => match k with
  | _ => ("", "", "", false)
def tyJ1 : Nat → FieldType := fun k => match k with
  | _ => .int
abbrev wsJ10 : List Cond := u_ws RJ1 TJ1 0
theorem nmJ1 : ∀ a, a < 0 → ∀ b, b < 0 → a ≠ b → (TJ1 a).2.1 ≠ (TJ1 b).2.1 := by decide +kernel
theorem tyJ1_ok : ∀ k, k < 0 → parseFieldDescriptor (TJ1 k).2.2.1 = some (tyJ1 k) := by decide +kernel
abbrev cJ1_charAt_3b067 : ByteArray := prog_13_method_2_code
def yJ1_charAt_3b067 : MethodName := ⟨RJ1, "charAt", "([BI)C"⟩
def RJ2 : String := "java/lang/StringUTF16"
def TJ2 : u_T := fun k => match k with
  | _ => ("", "", "", false)
def tyJ2 : Nat → FieldType := fun k => match k with
  | _ => .int
abbrev wsJ20 : List Cond := u_ws RJ2 TJ2 0
theorem nmJ2 : ∀ a, a < 0 → ∀ b, b < 0 → a ≠ b → (TJ2 a).2.1 ≠ (TJ2 b).2.1 := by decide +kernel
theorem tyJ2_ok : ∀ k, k < 0 → parseFieldDescriptor (TJ2 k).2.2.1 = some (tyJ2 k) := by decide +kernel
abbrev cJ2_getChar_3b067 : ByteArray := prog_14_method_5_code
def yJ2_getChar_3b067 : MethodName := ⟨RJ2, "getChar", "([BI)C"⟩
abbrev cJ2_length_9d52b : ByteArray := prog_14_method_6_code
def yJ2_length_9d52b : MethodName := ⟨RJ2, "length", "([B)I"⟩
abbrev cJ2_charAt_3b067 : ByteArray := prog_14_method_83_code
def yJ2_charAt_3b067 : MethodName := ⟨RJ2, "charAt", "([BI)C"⟩
abbrev cJ2_checkIndex_2214a : ByteArray := prog_14_method_91_code
def yJ2_checkIndex_2214a : MethodName := ⟨RJ2, "checkIndex", "(I[B)V"⟩
def RJ10 : String := "java/lang/System"
def TJ10 : u_T := fun k => match k with
  | _ => ("", "", "", false)
def tyJ10 : Nat → FieldType := fun k => match k with
  | _ => .int
abbrev wsJ100 : List Cond := u_ws RJ10 TJ10 0
theorem nmJ10 : ∀ a, a < 0 → ∀ b, b < 0 → a ≠ b → (TJ10 a).2.1 ≠ (TJ10 b).2.1 := by decide +kernel
theorem tyJ10_ok : ∀ k, k < 0 → parseFieldDescriptor (TJ10 k).2.2.1 = some (tyJ10 k) := by decide +kernel
def RJxfd54e : String := "java/lang/constant/Constable"
def TJxfd54e : u_T := fun k => match k with
  | _ => ("", "", "", false)
def tyJxfd54e : Nat → FieldType := fun k => match k with
  | _ => .int
abbrev wsJxfd54e0 : List Cond := u_ws RJxfd54e TJxfd54e 0
theorem nmJxfd54e : ∀ a, a < 0 → ∀ b, b < 0 → a ≠ b → (TJxfd54e a).2.1 ≠ (TJxfd54e b).2.1 := by decide +kernel
theorem tyJxfd54e_ok : ∀ k, k < 0 → parseFieldDescriptor (TJxfd54e k).2.2.1 = some (tyJxfd54e k) := by decide +kernel
def RJx3cf43 : String := "java/lang/constant/ConstantDesc"
def TJx3cf43 : u_T := fun k => match k with
  | _ => ("", "", "", false)
def tyJx3cf43 : Nat → FieldType := fun k => match k with
  | _ => .int
abbrev wsJx3cf430 : List Cond := u_ws RJx3cf43 TJx3cf43 0
theorem nmJx3cf43 : ∀ a, a < 0 → ∀ b, b < 0 → a ≠ b → (TJx3cf43 a).2.1 ≠ (TJx3cf43 b).2.1 := by decide +kernel
theorem tyJx3cf43_ok : ∀ k, k < 0 → parseFieldDescriptor (TJx3cf43 k).2.2.1 = some (tyJx3cf43 k) := by decide +kernel
def RJ7 : String := "java/util/Arrays"
def TJ7 : u_T := fun k => match k with
  | _ => ("", "", "", false)
def tyJ7 : Nat → FieldType := fun k => match k with
  | _ => .int
abbrev wsJ70 : List Cond := u_ws RJ7 TJ7 0
theorem nmJ7 : ∀ a, a < 0 → ∀ b, b < 0 → a ≠ b → (TJ7 a).2.1 ≠ (TJ7 b).2.1 := by decide +kernel
theorem tyJ7_ok : ∀ k, k < 0 → parseFieldDescriptor (TJ7 k).2.2.1 = some (tyJ7 k) := by decide +kernel
abbrev cJ7_fill_d0a16 : ByteArray := prog_16_method_101_code
def yJ7_fill_d0a16 : MethodName := ⟨RJ7, "fill", "([JJ)V"⟩
abbrev cJ7_fill_53178 : ByteArray := prog_16_method_103_code
def yJ7_fill_53178 : MethodName := ⟨RJ7, "fill", "([II)V"⟩
def RJ3 : String := "jdk/internal/util/Preconditions"
def TJ3 : u_T := fun k => match k with
  | _ => ("", "", "", false)
def tyJ3 : Nat → FieldType := fun k => match k with
  | _ => .int
abbrev wsJ30 : List Cond := u_ws RJ3 TJ3 0
theorem nmJ3 : ∀ a, a < 0 → ∀ b, b < 0 → a ≠ b → (TJ3 a).2.1 ≠ (TJ3 b).2.1 := by decide +kernel
theorem tyJ3_ok : ∀ k, k < 0 → parseFieldDescriptor (TJ3 k).2.2.1 = some (tyJ3 k) := by decide +kernel
abbrev cJ3_checkIndex_8e157 : ByteArray := prog_17_method_11_code
def yJ3_checkIndex_8e157 : MethodName := ⟨RJ3, "checkIndex", "(IILjava/util/function/BiFunction;)I"⟩
def RL : String := "TwoWhistlesAndFiveEwesLaw"
abbrev cL_law : ByteArray := code
end
section
theorem dX0_init_0 : decode cX0_init 0 = .ok (.aload_n 0, 1) := by decide +kernel
theorem dX0_init_1 : decode cX0_init 1 = .ok (.invokespecial 3, 3) := by decide +kernel
theorem dX0_init_4 : decode cX0_init 4 = .ok (.aload_n 0, 1) := by decide +kernel
theorem dX0_init_5 : decode cX0_init 5 = .ok (.bipush 6, 2) := by decide +kernel
theorem dX0_init_7 : decode cX0_init 7 = .ok (.putfield 9, 3) := by decide +kernel
theorem dX0_init_10 : decode cX0_init 10 = .ok (.aload_n 0, 1) := by decide +kernel
theorem dX0_init_11 : decode cX0_init 11 = .ok (.iconst 0, 1) := by decide +kernel
theorem dX0_init_12 : decode cX0_init 12 = .ok (.putfield 15, 3) := by decide +kernel
theorem dX0_init_15 : decode cX0_init 15 = .ok (.aload_n 0, 1) := by decide +kernel
theorem dX0_init_16 : decode cX0_init 16 = .ok (.iconst 2, 1) := by decide +kernel
theorem dX0_init_17 : decode cX0_init 17 = .ok (.putfield 18, 3) := by decide +kernel
theorem dX0_init_20 : decode cX0_init 20 = .ok (.aload_n 0, 1) := by decide +kernel
theorem dX0_init_21 : decode cX0_init 21 = .ok (.iconst 0, 1) := by decide +kernel
theorem dX0_init_22 : decode cX0_init 22 = .ok (.putfield 21, 3) := by decide +kernel
theorem dX0_init_25 : decode cX0_init 25 = .ok (.aload_n 0, 1) := by decide +kernel
theorem dX0_init_26 : decode cX0_init 26 = .ok (.iconst 1, 1) := by decide +kernel
theorem dX0_init_27 : decode cX0_init 27 = .ok (.putfield 24, 3) := by decide +kernel
theorem dX0_init_30 : decode cX0_init 30 = .ok (.aload_n 0, 1) := by decide +kernel
theorem dX0_init_31 : decode cX0_init 31 = .ok (.lconst 0, 1) := by decide +kernel
theorem dX0_init_32 : decode cX0_init 32 = .ok (.putfield 27, 3) := by decide +kernel
theorem dX0_init_35 : decode cX0_init 35 = .ok (.aload_n 0, 1) := by decide +kernel
theorem dX0_init_36 : decode cX0_init 36 = .ok (.iconst 0, 1) := by decide +kernel
theorem dX0_init_37 : decode cX0_init 37 = .ok (.putfield 31, 3) := by decide +kernel
theorem dX0_init_40 : decode cX0_init 40 = .ok (.aload_n 0, 1) := by decide +kernel
theorem dX0_init_41 : decode cX0_init 41 = .ok (.iconst 5, 1) := by decide +kernel
theorem dX0_init_42 : decode cX0_init 42 = .ok (.newarray .int, 2) := by decide +kernel
theorem dX0_init_44 : decode cX0_init 44 = .ok (.putfield 34, 3) := by decide +kernel
theorem dX0_init_47 : decode cX0_init 47 = .ok (.aload_n 0, 1) := by decide +kernel
theorem dX0_init_48 : decode cX0_init 48 = .ok (.iconst 5, 1) := by decide +kernel
theorem dX0_init_49 : decode cX0_init 49 = .ok (.newarray .int, 2) := by decide +kernel
theorem dX0_init_51 : decode cX0_init 51 = .ok (.putfield 38, 3) := by decide +kernel
theorem dX0_init_54 : decode cX0_init 54 = .ok (.aload_n 0, 1) := by decide +kernel
theorem dX0_init_55 : decode cX0_init 55 = .ok (.new 41, 3) := by decide +kernel
theorem dX0_init_58 : decode cX0_init 58 = .ok (.dup, 1) := by decide +kernel
theorem dX0_init_59 : decode cX0_init 59 = .ok (.invokespecial 43, 3) := by decide +kernel
theorem dX0_init_62 : decode cX0_init 62 = .ok (.putfield 44, 3) := by decide +kernel
theorem dX0_init_65 : decode cX0_init 65 = .ok (.return_, 1) := by decide +kernel
theorem dX0_setTo_0 : decode cX0_setTo 0 = .ok (.aload_n 0, 1) := by decide +kernel
theorem dX0_setTo_1 : decode cX0_setTo 1 = .ok (.aload_n 1, 1) := by decide +kernel
theorem dX0_setTo_2 : decode cX0_setTo 2 = .ok (.getfield 9, 3) := by decide +kernel
theorem dX0_setTo_5 : decode cX0_setTo 5 = .ok (.putfield 9, 3) := by decide +kernel
theorem dX0_setTo_8 : decode cX0_setTo 8 = .ok (.aload_n 0, 1) := by decide +kernel
theorem dX0_setTo_9 : decode cX0_setTo 9 = .ok (.aload_n 1, 1) := by decide +kernel
theorem dX0_setTo_10 : decode cX0_setTo 10 = .ok (.getfield 15, 3) := by decide +kernel
theorem dX0_setTo_13 : decode cX0_setTo 13 = .ok (.putfield 15, 3) := by decide +kernel
theorem dX0_setTo_16 : decode cX0_setTo 16 = .ok (.aload_n 0, 1) := by decide +kernel
theorem dX0_setTo_17 : decode cX0_setTo 17 = .ok (.aload_n 1, 1) := by decide +kernel
theorem dX0_setTo_18 : decode cX0_setTo 18 = .ok (.getfield 18, 3) := by decide +kernel
theorem dX0_setTo_21 : decode cX0_setTo 21 = .ok (.putfield 18, 3) := by decide +kernel
theorem dX0_setTo_24 : decode cX0_setTo 24 = .ok (.aload_n 0, 1) := by decide +kernel
theorem dX0_setTo_25 : decode cX0_setTo 25 = .ok (.aload_n 1, 1) := by decide +kernel
theorem dX0_setTo_26 : decode cX0_setTo 26 = .ok (.getfield 21, 3) := by decide +kernel
theorem dX0_setTo_29 : decode cX0_setTo 29 = .ok (.putfield 21, 3) := by decide +kernel
theorem dX0_setTo_32 : decode cX0_setTo 32 = .ok (.aload_n 0, 1) := by decide +kernel
theorem dX0_setTo_33 : decode cX0_setTo 33 = .ok (.aload_n 1, 1) := by decide +kernel
theorem dX0_setTo_34 : decode cX0_setTo 34 = .ok (.getfield 24, 3) := by decide +kernel
theorem dX0_setTo_37 : decode cX0_setTo 37 = .ok (.putfield 24, 3) := by decide +kernel
theorem dX0_setTo_40 : decode cX0_setTo 40 = .ok (.aload_n 0, 1) := by decide +kernel
theorem dX0_setTo_41 : decode cX0_setTo 41 = .ok (.aload_n 1, 1) := by decide +kernel
theorem dX0_setTo_42 : decode cX0_setTo 42 = .ok (.getfield 27, 3) := by decide +kernel
theorem dX0_setTo_45 : decode cX0_setTo 45 = .ok (.putfield 27, 3) := by decide +kernel
theorem dX0_setTo_48 : decode cX0_setTo 48 = .ok (.aload_n 0, 1) := by decide +kernel
theorem dX0_setTo_49 : decode cX0_setTo 49 = .ok (.aload_n 1, 1) := by decide +kernel
theorem dX0_setTo_50 : decode cX0_setTo 50 = .ok (.getfield 31, 3) := by decide +kernel
theorem dX0_setTo_53 : decode cX0_setTo 53 = .ok (.putfield 31, 3) := by decide +kernel
theorem dX0_setTo_56 : decode cX0_setTo 56 = .ok (.aload_n 1, 1) := by decide +kernel
theorem dX0_setTo_57 : decode cX0_setTo 57 = .ok (.getfield 34, 3) := by decide +kernel
theorem dX0_setTo_60 : decode cX0_setTo 60 = .ok (.iconst 0, 1) := by decide +kernel
theorem dX0_setTo_61 : decode cX0_setTo 61 = .ok (.aload_n 0, 1) := by decide +kernel
theorem dX0_setTo_62 : decode cX0_setTo 62 = .ok (.getfield 34, 3) := by decide +kernel
theorem dX0_setTo_65 : decode cX0_setTo 65 = .ok (.iconst 0, 1) := by decide +kernel
theorem dX0_setTo_66 : decode cX0_setTo 66 = .ok (.iconst 5, 1) := by decide +kernel
theorem dX0_setTo_67 : decode cX0_setTo 67 = .ok (.invokestatic 48, 3) := by decide +kernel
theorem dX0_setTo_70 : decode cX0_setTo 70 = .ok (.aload_n 1, 1) := by decide +kernel
theorem dX0_setTo_71 : decode cX0_setTo 71 = .ok (.getfield 38, 3) := by decide +kernel
theorem dX0_setTo_74 : decode cX0_setTo 74 = .ok (.iconst 0, 1) := by decide +kernel
theorem dX0_setTo_75 : decode cX0_setTo 75 = .ok (.aload_n 0, 1) := by decide +kernel
theorem dX0_setTo_76 : decode cX0_setTo 76 = .ok (.getfield 38, 3) := by decide +kernel
theorem dX0_setTo_79 : decode cX0_setTo 79 = .ok (.iconst 0, 1) := by decide +kernel
theorem dX0_setTo_80 : decode cX0_setTo 80 = .ok (.iconst 5, 1) := by decide +kernel
theorem dX0_setTo_81 : decode cX0_setTo 81 = .ok (.invokestatic 48, 3) := by decide +kernel
theorem dX0_setTo_84 : decode cX0_setTo 84 = .ok (.aload_n 0, 1) := by decide +kernel
theorem dX0_setTo_85 : decode cX0_setTo 85 = .ok (.getfield 44, 3) := by decide +kernel
theorem dX0_setTo_88 : decode cX0_setTo 88 = .ok (.aload_n 1, 1) := by decide +kernel
theorem dX0_setTo_89 : decode cX0_setTo 89 = .ok (.getfield 44, 3) := by decide +kernel
theorem dX0_setTo_92 : decode cX0_setTo 92 = .ok (.invokevirtual 54, 3) := by decide +kernel
theorem dX0_setTo_95 : decode cX0_setTo 95 = .ok (.return_, 1) := by decide +kernel
theorem dX0_isCell_0 : decode cX0_isCell 0 = .ok (.iload_n 1, 1) := by decide +kernel
theorem dX0_isCell_1 : decode cX0_isCell 1 = .ok (.ifCond .lt 29, 3) := by decide +kernel
theorem dX0_isCell_4 : decode cX0_isCell 4 = .ok (.iload_n 1, 1) := by decide +kernel
theorem dX0_isCell_5 : decode cX0_isCell 5 = .ok (.bipush 10, 2) := by decide +kernel
theorem dX0_isCell_7 : decode cX0_isCell 7 = .ok (.idiv, 1) := by decide +kernel
theorem dX0_isCell_8 : decode cX0_isCell 8 = .ok (.aload_n 0, 1) := by decide +kernel
theorem dX0_isCell_9 : decode cX0_isCell 9 = .ok (.getfield 9, 3) := by decide +kernel
theorem dX0_isCell_12 : decode cX0_isCell 12 = .ok (.if_icmp .ge 18, 3) := by decide +kernel
theorem dX0_isCell_15 : decode cX0_isCell 15 = .ok (.iload_n 1, 1) := by decide +kernel
theorem dX0_isCell_16 : decode cX0_isCell 16 = .ok (.bipush 10, 2) := by decide +kernel
theorem dX0_isCell_18 : decode cX0_isCell 18 = .ok (.irem, 1) := by decide +kernel
theorem dX0_isCell_19 : decode cX0_isCell 19 = .ok (.aload_n 0, 1) := by decide +kernel
theorem dX0_isCell_20 : decode cX0_isCell 20 = .ok (.getfield 9, 3) := by decide +kernel
theorem dX0_isCell_23 : decode cX0_isCell 23 = .ok (.if_icmp .ge 7, 3) := by decide +kernel
theorem dX0_isCell_26 : decode cX0_isCell 26 = .ok (.iconst 1, 1) := by decide +kernel
theorem dX0_isCell_27 : decode cX0_isCell 27 = .ok (.goto 4, 3) := by decide +kernel
theorem dX0_isCell_30 : decode cX0_isCell 30 = .ok (.iconst 0, 1) := by decide +kernel
theorem dX0_isCell_31 : decode cX0_isCell 31 = .ok (.ireturn, 1) := by decide +kernel
theorem dX0_isWall_0 : decode cX0_isWall 0 = .ok (.aload_n 0, 1) := by decide +kernel
theorem dX0_isWall_1 : decode cX0_isWall 1 = .ok (.getfield 27, 3) := by decide +kernel
theorem dX0_isWall_4 : decode cX0_isWall 4 = .ok (.iload_n 1, 1) := by decide +kernel
theorem dX0_isWall_5 : decode cX0_isWall 5 = .ok (.invokestatic 58, 3) := by decide +kernel
theorem dX0_isWall_8 : decode cX0_isWall 8 = .ok (.land, 1) := by decide +kernel
theorem dX0_isWall_9 : decode cX0_isWall 9 = .ok (.lconst 0, 1) := by decide +kernel
theorem dX0_isWall_10 : decode cX0_isWall 10 = .ok (.lcmp, 1) := by decide +kernel
theorem dX0_isWall_11 : decode cX0_isWall 11 = .ok (.ifCond .eq 7, 3) := by decide +kernel
theorem dX0_isWall_14 : decode cX0_isWall 14 = .ok (.iconst 1, 1) := by decide +kernel
theorem dX0_isWall_15 : decode cX0_isWall 15 = .ok (.goto 4, 3) := by decide +kernel
theorem dX0_isWall_18 : decode cX0_isWall 18 = .ok (.iconst 0, 1) := by decide +kernel
theorem dX0_isWall_19 : decode cX0_isWall 19 = .ok (.ireturn, 1) := by decide +kernel
theorem dX0_setWall_0 : decode cX0_setWall 0 = .ok (.aload_n 0, 1) := by decide +kernel
theorem dX0_setWall_1 : decode cX0_setWall 1 = .ok (.iload_n 2, 1) := by decide +kernel
theorem dX0_setWall_2 : decode cX0_setWall 2 = .ok (.ifCond .eq 15, 3) := by decide +kernel
theorem dX0_setWall_5 : decode cX0_setWall 5 = .ok (.aload_n 0, 1) := by decide +kernel
theorem dX0_setWall_6 : decode cX0_setWall 6 = .ok (.getfield 27, 3) := by decide +kernel
theorem dX0_setWall_9 : decode cX0_setWall 9 = .ok (.iload_n 1, 1) := by decide +kernel
theorem dX0_setWall_10 : decode cX0_setWall 10 = .ok (.invokestatic 58, 3) := by decide +kernel
theorem dX0_setWall_13 : decode cX0_setWall 13 = .ok (.lor, 1) := by decide +kernel
theorem dX0_setWall_14 : decode cX0_setWall 14 = .ok (.goto 16, 3) := by decide +kernel
theorem dX0_setWall_17 : decode cX0_setWall 17 = .ok (.aload_n 0, 1) := by decide +kernel
theorem dX0_setWall_18 : decode cX0_setWall 18 = .ok (.getfield 27, 3) := by decide +kernel
theorem dX0_setWall_21 : decode cX0_setWall 21 = .ok (.iload_n 1, 1) := by decide +kernel
theorem dX0_setWall_22 : decode cX0_setWall 22 = .ok (.invokestatic 58, 3) := by decide +kernel
theorem dX0_setWall_25 : decode cX0_setWall 25 = .ok (.ldc2_w 62, 3) := by decide +kernel
theorem dX0_setWall_28 : decode cX0_setWall 28 = .ok (.lxor, 1) := by decide +kernel
theorem dX0_setWall_29 : decode cX0_setWall 29 = .ok (.land, 1) := by decide +kernel
theorem dX0_setWall_30 : decode cX0_setWall 30 = .ok (.putfield 27, 3) := by decide +kernel
theorem dX0_setWall_33 : decode cX0_setWall 33 = .ok (.return_, 1) := by decide +kernel
theorem dX0_isOpen_0 : decode cX0_isOpen 0 = .ok (.aload_n 0, 1) := by decide +kernel
theorem dX0_isOpen_1 : decode cX0_isOpen 1 = .ok (.iload_n 1, 1) := by decide +kernel
theorem dX0_isOpen_2 : decode cX0_isOpen 2 = .ok (.invokevirtual 64, 3) := by decide +kernel
theorem dX0_isOpen_5 : decode cX0_isOpen 5 = .ok (.ifCond .eq 21, 3) := by decide +kernel
theorem dX0_isOpen_8 : decode cX0_isOpen 8 = .ok (.aload_n 0, 1) := by decide +kernel
theorem dX0_isOpen_9 : decode cX0_isOpen 9 = .ok (.getfield 27, 3) := by decide +kernel
theorem dX0_isOpen_12 : decode cX0_isOpen 12 = .ok (.iload_n 1, 1) := by decide +kernel
theorem dX0_isOpen_13 : decode cX0_isOpen 13 = .ok (.invokestatic 58, 3) := by decide +kernel
theorem dX0_isOpen_16 : decode cX0_isOpen 16 = .ok (.land, 1) := by decide +kernel
theorem dX0_isOpen_17 : decode cX0_isOpen 17 = .ok (.lconst 0, 1) := by decide +kernel
theorem dX0_isOpen_18 : decode cX0_isOpen 18 = .ok (.lcmp, 1) := by decide +kernel
theorem dX0_isOpen_19 : decode cX0_isOpen 19 = .ok (.ifCond .ne 7, 3) := by decide +kernel
theorem dX0_isOpen_22 : decode cX0_isOpen 22 = .ok (.iconst 1, 1) := by decide +kernel
theorem dX0_isOpen_23 : decode cX0_isOpen 23 = .ok (.goto 4, 3) := by decide +kernel
theorem dX0_isOpen_26 : decode cX0_isOpen 26 = .ok (.iconst 0, 1) := by decide +kernel
theorem dX0_isOpen_27 : decode cX0_isOpen 27 = .ok (.ireturn, 1) := by decide +kernel
theorem dX0_mayBeDogs_0 : decode cX0_mayBeDogs 0 = .ok (.iload_n 1, 1) := by decide +kernel
theorem dX0_mayBeDogs_1 : decode cX0_mayBeDogs 1 = .ok (.aload_n 0, 1) := by decide +kernel
theorem dX0_mayBeDogs_2 : decode cX0_mayBeDogs 2 = .ok (.getfield 15, 3) := by decide +kernel
theorem dX0_mayBeDogs_5 : decode cX0_mayBeDogs 5 = .ok (.if_icmp .eq 15, 3) := by decide +kernel
theorem dX0_mayBeDogs_8 : decode cX0_mayBeDogs 8 = .ok (.aload_n 0, 1) := by decide +kernel
theorem dX0_mayBeDogs_9 : decode cX0_mayBeDogs 9 = .ok (.iload_n 1, 1) := by decide +kernel
theorem dX0_mayBeDogs_10 : decode cX0_mayBeDogs 10 = .ok (.invokevirtual 68, 3) := by decide +kernel
theorem dX0_mayBeDogs_13 : decode cX0_mayBeDogs 13 = .ok (.ifCond .eq 7, 3) := by decide +kernel
theorem dX0_mayBeDogs_16 : decode cX0_mayBeDogs 16 = .ok (.iconst 1, 1) := by decide +kernel
theorem dX0_mayBeDogs_17 : decode cX0_mayBeDogs 17 = .ok (.goto 4, 3) := by decide +kernel
theorem dX0_mayBeDogs_20 : decode cX0_mayBeDogs 20 = .ok (.iconst 0, 1) := by decide +kernel
theorem dX0_mayBeDogs_21 : decode cX0_mayBeDogs 21 = .ok (.ireturn, 1) := by decide +kernel
theorem dX0_mayBeWall_0 : decode cX0_mayBeWall 0 = .ok (.aload_n 0, 1) := by decide +kernel
theorem dX0_mayBeWall_1 : decode cX0_mayBeWall 1 = .ok (.iload_n 1, 1) := by decide +kernel
theorem dX0_mayBeWall_2 : decode cX0_mayBeWall 2 = .ok (.invokevirtual 64, 3) := by decide +kernel
theorem dX0_mayBeWall_5 : decode cX0_mayBeWall 5 = .ok (.ifCond .eq 34, 3) := by decide +kernel
theorem dX0_mayBeWall_8 : decode cX0_mayBeWall 8 = .ok (.iload_n 1, 1) := by decide +kernel
theorem dX0_mayBeWall_9 : decode cX0_mayBeWall 9 = .ok (.aload_n 0, 1) := by decide +kernel
theorem dX0_mayBeWall_10 : decode cX0_mayBeWall 10 = .ok (.getfield 15, 3) := by decide +kernel
theorem dX0_mayBeWall_13 : decode cX0_mayBeWall 13 = .ok (.if_icmp .eq 26, 3) := by decide +kernel
theorem dX0_mayBeWall_16 : decode cX0_mayBeWall 16 = .ok (.iload_n 1, 1) := by decide +kernel
theorem dX0_mayBeWall_17 : decode cX0_mayBeWall 17 = .ok (.aload_n 0, 1) := by decide +kernel
theorem dX0_mayBeWall_18 : decode cX0_mayBeWall 18 = .ok (.getfield 44, 3) := by decide +kernel
theorem dX0_mayBeWall_21 : decode cX0_mayBeWall 21 = .ok (.getfield 71, 3) := by decide +kernel
theorem dX0_mayBeWall_24 : decode cX0_mayBeWall 24 = .ok (.if_icmp .eq 15, 3) := by decide +kernel
theorem dX0_mayBeWall_27 : decode cX0_mayBeWall 27 = .ok (.aload_n 0, 1) := by decide +kernel
theorem dX0_mayBeWall_28 : decode cX0_mayBeWall 28 = .ok (.iload_n 1, 1) := by decide +kernel
theorem dX0_mayBeWall_29 : decode cX0_mayBeWall 29 = .ok (.invokevirtual 74, 3) := by decide +kernel
theorem dX0_mayBeWall_32 : decode cX0_mayBeWall 32 = .ok (.ifCond .ne 7, 3) := by decide +kernel
theorem dX0_mayBeWall_35 : decode cX0_mayBeWall 35 = .ok (.iconst 1, 1) := by decide +kernel
theorem dX0_mayBeWall_36 : decode cX0_mayBeWall 36 = .ok (.goto 4, 3) := by decide +kernel
theorem dX0_mayBeWall_39 : decode cX0_mayBeWall 39 = .ok (.iconst 0, 1) := by decide +kernel
theorem dX0_mayBeWall_40 : decode cX0_mayBeWall 40 = .ok (.ireturn, 1) := by decide +kernel
theorem dX0_mayBePen_0 : decode cX0_mayBePen 0 = .ok (.aload_n 0, 1) := by decide +kernel
theorem dX0_mayBePen_1 : decode cX0_mayBePen 1 = .ok (.iload_n 1, 1) := by decide +kernel
theorem dX0_mayBePen_2 : decode cX0_mayBePen 2 = .ok (.invokevirtual 68, 3) := by decide +kernel
theorem dX0_mayBePen_5 : decode cX0_mayBePen 5 = .ok (.ifCond .eq 37, 3) := by decide +kernel
theorem dX0_mayBePen_8 : decode cX0_mayBePen 8 = .ok (.iload_n 1, 1) := by decide +kernel
theorem dX0_mayBePen_9 : decode cX0_mayBePen 9 = .ok (.aload_n 0, 1) := by decide +kernel
theorem dX0_mayBePen_10 : decode cX0_mayBePen 10 = .ok (.getfield 44, 3) := by decide +kernel
theorem dX0_mayBePen_13 : decode cX0_mayBePen 13 = .ok (.getfield 71, 3) := by decide +kernel
theorem dX0_mayBePen_16 : decode cX0_mayBePen 16 = .ok (.if_icmp .eq 26, 3) := by decide +kernel
theorem dX0_mayBePen_19 : decode cX0_mayBePen 19 = .ok (.aload_n 0, 1) := by decide +kernel
theorem dX0_mayBePen_20 : decode cX0_mayBePen 20 = .ok (.iload_n 1, 1) := by decide +kernel
theorem dX0_mayBePen_21 : decode cX0_mayBePen 21 = .ok (.invokevirtual 74, 3) := by decide +kernel
theorem dX0_mayBePen_24 : decode cX0_mayBePen 24 = .ok (.ifCond .ne 18, 3) := by decide +kernel
theorem dX0_mayBePen_27 : decode cX0_mayBePen 27 = .ok (.aload_n 0, 1) := by decide +kernel
theorem dX0_mayBePen_28 : decode cX0_mayBePen 28 = .ok (.aload_n 0, 1) := by decide +kernel
theorem dX0_mayBePen_29 : decode cX0_mayBePen 29 = .ok (.getfield 15, 3) := by decide +kernel
theorem dX0_mayBePen_32 : decode cX0_mayBePen 32 = .ok (.invokevirtual 74, 3) := by decide +kernel
theorem dX0_mayBePen_35 : decode cX0_mayBePen 35 = .ok (.ifCond .ne 7, 3) := by decide +kernel
theorem dX0_mayBePen_38 : decode cX0_mayBePen 38 = .ok (.iconst 1, 1) := by decide +kernel
theorem dX0_mayBePen_39 : decode cX0_mayBePen 39 = .ok (.goto 4, 3) := by decide +kernel
theorem dX0_mayBePen_42 : decode cX0_mayBePen 42 = .ok (.iconst 0, 1) := by decide +kernel
theorem dX0_mayBePen_43 : decode cX0_mayBePen 43 = .ok (.ireturn, 1) := by decide +kernel
theorem dX0_isEwe_0 : decode cX0_isEwe 0 = .ok (.iload_n 1, 1) := by decide +kernel
theorem dX0_isEwe_1 : decode cX0_isEwe 1 = .ok (.ifCond .lt 15, 3) := by decide +kernel
theorem dX0_isEwe_4 : decode cX0_isEwe 4 = .ok (.iload_n 1, 1) := by decide +kernel
theorem dX0_isEwe_5 : decode cX0_isEwe 5 = .ok (.aload_n 0, 1) := by decide +kernel
theorem dX0_isEwe_6 : decode cX0_isEwe 6 = .ok (.getfield 31, 3) := by decide +kernel
theorem dX0_isEwe_9 : decode cX0_isEwe 9 = .ok (.if_icmp .ge 7, 3) := by decide +kernel
theorem dX0_isEwe_12 : decode cX0_isEwe 12 = .ok (.iconst 1, 1) := by decide +kernel
theorem dX0_isEwe_13 : decode cX0_isEwe 13 = .ok (.goto 4, 3) := by decide +kernel
theorem dX0_isEwe_16 : decode cX0_isEwe 16 = .ok (.iconst 0, 1) := by decide +kernel
theorem dX0_isEwe_17 : decode cX0_isEwe 17 = .ok (.ireturn, 1) := by decide +kernel
theorem dX0_hasEweAt_0 : decode cX0_hasEweAt 0 = .ok (.iconst 0, 1) := by decide +kernel
theorem dX0_hasEweAt_1 : decode cX0_hasEweAt 1 = .ok (.istore_n 2, 1) := by decide +kernel
theorem dX0_hasEweAt_2 : decode cX0_hasEweAt 2 = .ok (.iload_n 2, 1) := by decide +kernel
theorem dX0_hasEweAt_3 : decode cX0_hasEweAt 3 = .ok (.aload_n 0, 1) := by decide +kernel
theorem dX0_hasEweAt_4 : decode cX0_hasEweAt 4 = .ok (.getfield 31, 3) := by decide +kernel
theorem dX0_hasEweAt_7 : decode cX0_hasEweAt 7 = .ok (.if_icmp .ge 24, 3) := by decide +kernel
theorem dX0_hasEweAt_10 : decode cX0_hasEweAt 10 = .ok (.aload_n 0, 1) := by decide +kernel
theorem dX0_hasEweAt_11 : decode cX0_hasEweAt 11 = .ok (.getfield 44, 3) := by decide +kernel
theorem dX0_hasEweAt_14 : decode cX0_hasEweAt 14 = .ok (.getfield 77, 3) := by decide +kernel
theorem dX0_hasEweAt_17 : decode cX0_hasEweAt 17 = .ok (.iload_n 2, 1) := by decide +kernel
theorem dX0_hasEweAt_18 : decode cX0_hasEweAt 18 = .ok (.iaload, 1) := by decide +kernel
theorem dX0_hasEweAt_19 : decode cX0_hasEweAt 19 = .ok (.iload_n 1, 1) := by decide +kernel
theorem dX0_hasEweAt_20 : decode cX0_hasEweAt 20 = .ok (.if_icmp .ne 5, 3) := by decide +kernel
theorem dX0_hasEweAt_23 : decode cX0_hasEweAt 23 = .ok (.iconst 1, 1) := by decide +kernel
theorem dX0_hasEweAt_24 : decode cX0_hasEweAt 24 = .ok (.ireturn, 1) := by decide +kernel
theorem dX0_hasEweAt_25 : decode cX0_hasEweAt 25 = .ok (.iinc 2 1, 3) := by decide +kernel
theorem dX0_hasEweAt_28 : decode cX0_hasEweAt 28 = .ok (.goto (-26), 3) := by decide +kernel
theorem dX0_hasEweAt_31 : decode cX0_hasEweAt 31 = .ok (.iconst 0, 1) := by decide +kernel
theorem dX0_hasEweAt_32 : decode cX0_hasEweAt 32 = .ok (.ireturn, 1) := by decide +kernel
theorem dX0_addEwe_0 : decode cX0_addEwe 0 = .ok (.aload_n 0, 1) := by decide +kernel
theorem dX0_addEwe_1 : decode cX0_addEwe 1 = .ok (.getfield 31, 3) := by decide +kernel
theorem dX0_addEwe_4 : decode cX0_addEwe 4 = .ok (.istore 4, 2) := by decide +kernel
theorem dX0_addEwe_6 : decode cX0_addEwe 6 = .ok (.aload_n 0, 1) := by decide +kernel
theorem dX0_addEwe_7 : decode cX0_addEwe 7 = .ok (.getfield 34, 3) := by decide +kernel
theorem dX0_addEwe_10 : decode cX0_addEwe 10 = .ok (.iload 4, 2) := by decide +kernel
theorem dX0_addEwe_12 : decode cX0_addEwe 12 = .ok (.iload_n 1, 1) := by decide +kernel
theorem dX0_addEwe_13 : decode cX0_addEwe 13 = .ok (.iastore, 1) := by decide +kernel
theorem dX0_addEwe_14 : decode cX0_addEwe 14 = .ok (.aload_n 0, 1) := by decide +kernel
theorem dX0_addEwe_15 : decode cX0_addEwe 15 = .ok (.getfield 38, 3) := by decide +kernel
theorem dX0_addEwe_18 : decode cX0_addEwe 18 = .ok (.iload 4, 2) := by decide +kernel
theorem dX0_addEwe_20 : decode cX0_addEwe 20 = .ok (.iload_n 2, 1) := by decide +kernel
theorem dX0_addEwe_21 : decode cX0_addEwe 21 = .ok (.iastore, 1) := by decide +kernel
theorem dX0_addEwe_22 : decode cX0_addEwe 22 = .ok (.aload_n 0, 1) := by decide +kernel
theorem dX0_addEwe_23 : decode cX0_addEwe 23 = .ok (.getfield 44, 3) := by decide +kernel
theorem dX0_addEwe_26 : decode cX0_addEwe 26 = .ok (.getfield 77, 3) := by decide +kernel
theorem dX0_addEwe_29 : decode cX0_addEwe 29 = .ok (.iload 4, 2) := by decide +kernel
theorem dX0_addEwe_31 : decode cX0_addEwe 31 = .ok (.iload_n 3, 1) := by decide +kernel
theorem dX0_addEwe_32 : decode cX0_addEwe 32 = .ok (.iastore, 1) := by decide +kernel
theorem dX0_addEwe_33 : decode cX0_addEwe 33 = .ok (.aload_n 0, 1) := by decide +kernel
theorem dX0_addEwe_34 : decode cX0_addEwe 34 = .ok (.dup, 1) := by decide +kernel
theorem dX0_addEwe_35 : decode cX0_addEwe 35 = .ok (.getfield 31, 3) := by decide +kernel
theorem dX0_addEwe_38 : decode cX0_addEwe 38 = .ok (.iconst 1, 1) := by decide +kernel
theorem dX0_addEwe_39 : decode cX0_addEwe 39 = .ok (.iadd, 1) := by decide +kernel
theorem dX0_addEwe_40 : decode cX0_addEwe 40 = .ok (.putfield 31, 3) := by decide +kernel
theorem dX0_addEwe_43 : decode cX0_addEwe 43 = .ok (.iload 4, 2) := by decide +kernel
theorem dX0_addEwe_45 : decode cX0_addEwe 45 = .ok (.ireturn, 1) := by decide +kernel
theorem dX0_isIn_0 : decode cX0_isIn 0 = .ok (.aload_n 1, 1) := by decide +kernel
theorem dX0_isIn_1 : decode cX0_isIn 1 = .ok (.getfield 77, 3) := by decide +kernel
theorem dX0_isIn_4 : decode cX0_isIn 4 = .ok (.iload_n 2, 1) := by decide +kernel
theorem dX0_isIn_5 : decode cX0_isIn 5 = .ok (.iaload, 1) := by decide +kernel
theorem dX0_isIn_6 : decode cX0_isIn 6 = .ok (.aload_n 0, 1) := by decide +kernel
theorem dX0_isIn_7 : decode cX0_isIn 7 = .ok (.getfield 15, 3) := by decide +kernel
theorem dX0_isIn_10 : decode cX0_isIn 10 = .ok (.if_icmp .ne 7, 3) := by decide +kernel
theorem dX0_isIn_13 : decode cX0_isIn 13 = .ok (.iconst 1, 1) := by decide +kernel
theorem dX0_isIn_14 : decode cX0_isIn 14 = .ok (.goto 4, 3) := by decide +kernel
theorem dX0_isIn_17 : decode cX0_isIn 17 = .ok (.iconst 0, 1) := by decide +kernel
theorem dX0_isIn_18 : decode cX0_isIn 18 = .ok (.ireturn, 1) := by decide +kernel
theorem dX0_countIn_0 : decode cX0_countIn 0 = .ok (.aload_n 0, 1) := by decide +kernel
theorem dX0_countIn_1 : decode cX0_countIn 1 = .ok (.aload_n 1, 1) := by decide +kernel
theorem dX0_countIn_2 : decode cX0_countIn 2 = .ok (.iconst 0, 1) := by decide +kernel
theorem dX0_countIn_3 : decode cX0_countIn 3 = .ok (.invokevirtual 80, 3) := by decide +kernel
theorem dX0_countIn_6 : decode cX0_countIn 6 = .ok (.ireturn, 1) := by decide +kernel
theorem dX0_countWithin_0 : decode cX0_countWithin 0 = .ok (.iconst 0, 1) := by decide +kernel
theorem dX0_countWithin_1 : decode cX0_countWithin 1 = .ok (.istore_n 3, 1) := by decide +kernel
theorem dX0_countWithin_2 : decode cX0_countWithin 2 = .ok (.iconst 0, 1) := by decide +kernel
theorem dX0_countWithin_3 : decode cX0_countWithin 3 = .ok (.istore 4, 2) := by decide +kernel
theorem dX0_countWithin_5 : decode cX0_countWithin 5 = .ok (.iload 4, 2) := by decide +kernel
theorem dX0_countWithin_7 : decode cX0_countWithin 7 = .ok (.aload_n 0, 1) := by decide +kernel
theorem dX0_countWithin_8 : decode cX0_countWithin 8 = .ok (.getfield 31, 3) := by decide +kernel
theorem dX0_countWithin_11 : decode cX0_countWithin 11 = .ok (.if_icmp .ge 42, 3) := by decide +kernel
theorem dX0_countWithin_14 : decode cX0_countWithin 14 = .ok (.aload_n 1, 1) := by decide +kernel
theorem dX0_countWithin_15 : decode cX0_countWithin 15 = .ok (.getfield 77, 3) := by decide +kernel
theorem dX0_countWithin_18 : decode cX0_countWithin 18 = .ok (.iload 4, 2) := by decide +kernel
theorem dX0_countWithin_20 : decode cX0_countWithin 20 = .ok (.iaload, 1) := by decide +kernel
theorem dX0_countWithin_21 : decode cX0_countWithin 21 = .ok (.aload_n 0, 1) := by decide +kernel
theorem dX0_countWithin_22 : decode cX0_countWithin 22 = .ok (.getfield 15, 3) := by decide +kernel
theorem dX0_countWithin_25 : decode cX0_countWithin 25 = .ok (.invokestatic 84, 3) := by decide +kernel
theorem dX0_countWithin_28 : decode cX0_countWithin 28 = .ok (.iload_n 2, 1) := by decide +kernel
theorem dX0_countWithin_29 : decode cX0_countWithin 29 = .ok (.getstatic 88, 3) := by decide +kernel
theorem dX0_countWithin_32 : decode cX0_countWithin 32 = .ok (.aload_n 0, 1) := by decide +kernel
theorem dX0_countWithin_33 : decode cX0_countWithin 33 = .ok (.getfield 34, 3) := by decide +kernel
theorem dX0_countWithin_36 : decode cX0_countWithin 36 = .ok (.iload 4, 2) := by decide +kernel
theorem dX0_countWithin_38 : decode cX0_countWithin 38 = .ok (.iaload, 1) := by decide +kernel
theorem dX0_countWithin_39 : decode cX0_countWithin 39 = .ok (.iaload, 1) := by decide +kernel
theorem dX0_countWithin_40 : decode cX0_countWithin 40 = .ok (.imul, 1) := by decide +kernel
theorem dX0_countWithin_41 : decode cX0_countWithin 41 = .ok (.if_icmp .gt 6, 3) := by decide +kernel
theorem dX0_countWithin_44 : decode cX0_countWithin 44 = .ok (.iinc 3 1, 3) := by decide +kernel
theorem dX0_countWithin_47 : decode cX0_countWithin 47 = .ok (.iinc 4 1, 3) := by decide +kernel
theorem dX0_countWithin_50 : decode cX0_countWithin 50 = .ok (.goto (-45), 3) := by decide +kernel
theorem dX0_countWithin_53 : decode cX0_countWithin 53 = .ok (.iload_n 3, 1) := by decide +kernel
theorem dX0_countWithin_54 : decode cX0_countWithin 54 = .ok (.ireturn, 1) := by decide +kernel
theorem dX0_stepsToPen_0 : decode cX0_stepsToPen 0 = .ok (.iconst 0, 1) := by decide +kernel
theorem dX0_stepsToPen_1 : decode cX0_stepsToPen 1 = .ok (.istore_n 2, 1) := by decide +kernel
theorem dX0_stepsToPen_2 : decode cX0_stepsToPen 2 = .ok (.iconst 0, 1) := by decide +kernel
theorem dX0_stepsToPen_3 : decode cX0_stepsToPen 3 = .ok (.istore_n 3, 1) := by decide +kernel
theorem dX0_stepsToPen_4 : decode cX0_stepsToPen 4 = .ok (.iload_n 3, 1) := by decide +kernel
theorem dX0_stepsToPen_5 : decode cX0_stepsToPen 5 = .ok (.aload_n 0, 1) := by decide +kernel
theorem dX0_stepsToPen_6 : decode cX0_stepsToPen 6 = .ok (.getfield 31, 3) := by decide +kernel
theorem dX0_stepsToPen_9 : decode cX0_stepsToPen 9 = .ok (.if_icmp .ge 25, 3) := by decide +kernel
theorem dX0_stepsToPen_12 : decode cX0_stepsToPen 12 = .ok (.iload_n 2, 1) := by decide +kernel
theorem dX0_stepsToPen_13 : decode cX0_stepsToPen 13 = .ok (.aload_n 1, 1) := by decide +kernel
theorem dX0_stepsToPen_14 : decode cX0_stepsToPen 14 = .ok (.getfield 77, 3) := by decide +kernel
theorem dX0_stepsToPen_17 : decode cX0_stepsToPen 17 = .ok (.iload_n 3, 1) := by decide +kernel
theorem dX0_stepsToPen_18 : decode cX0_stepsToPen 18 = .ok (.iaload, 1) := by decide +kernel
theorem dX0_stepsToPen_19 : decode cX0_stepsToPen 19 = .ok (.aload_n 0, 1) := by decide +kernel
theorem dX0_stepsToPen_20 : decode cX0_stepsToPen 20 = .ok (.getfield 15, 3) := by decide +kernel
theorem dX0_stepsToPen_23 : decode cX0_stepsToPen 23 = .ok (.invokestatic 84, 3) := by decide +kernel
theorem dX0_stepsToPen_26 : decode cX0_stepsToPen 26 = .ok (.iadd, 1) := by decide +kernel
theorem dX0_stepsToPen_27 : decode cX0_stepsToPen 27 = .ok (.istore_n 2, 1) := by decide +kernel
theorem dX0_stepsToPen_28 : decode cX0_stepsToPen 28 = .ok (.iinc 3 1, 3) := by decide +kernel
theorem dX0_stepsToPen_31 : decode cX0_stepsToPen 31 = .ok (.goto (-27), 3) := by decide +kernel
theorem dX0_stepsToPen_34 : decode cX0_stepsToPen 34 = .ok (.iload_n 2, 1) := by decide +kernel
theorem dX0_stepsToPen_35 : decode cX0_stepsToPen 35 = .ok (.ireturn, 1) := by decide +kernel
theorem dX0_canDo_0 : decode cX0_canDo 0 = .ok (.iload_n 2, 1) := by decide +kernel
theorem dX0_canDo_1 : decode cX0_canDo 1 = .ok (.ifCond .eq 17, 3) := by decide +kernel
theorem dX0_canDo_4 : decode cX0_canDo 4 = .ok (.aload_n 0, 1) := by decide +kernel
theorem dX0_canDo_5 : decode cX0_canDo 5 = .ok (.iload_n 1, 1) := by decide +kernel
theorem dX0_canDo_6 : decode cX0_canDo 6 = .ok (.getstatic 91, 3) := by decide +kernel
theorem dX0_canDo_9 : decode cX0_canDo 9 = .ok (.iload_n 2, 1) := by decide +kernel
theorem dX0_canDo_10 : decode cX0_canDo 10 = .ok (.iaload, 1) := by decide +kernel
theorem dX0_canDo_11 : decode cX0_canDo 11 = .ok (.iadd, 1) := by decide +kernel
theorem dX0_canDo_12 : decode cX0_canDo 12 = .ok (.invokevirtual 94, 3) := by decide +kernel
theorem dX0_canDo_15 : decode cX0_canDo 15 = .ok (.ifCond .eq 7, 3) := by decide +kernel
theorem dX0_canDo_18 : decode cX0_canDo 18 = .ok (.iconst 1, 1) := by decide +kernel
theorem dX0_canDo_19 : decode cX0_canDo 19 = .ok (.goto 4, 3) := by decide +kernel
theorem dX0_canDo_22 : decode cX0_canDo 22 = .ok (.iconst 0, 1) := by decide +kernel
theorem dX0_canDo_23 : decode cX0_canDo 23 = .ok (.ireturn, 1) := by decide +kernel
theorem dX0_takeTurn_0 : decode cX0_takeTurn 0 = .ok (.aload_n 0, 1) := by decide +kernel
theorem dX0_takeTurn_1 : decode cX0_takeTurn 1 = .ok (.aload_n 1, 1) := by decide +kernel
theorem dX0_takeTurn_2 : decode cX0_takeTurn 2 = .ok (.getfield 71, 3) := by decide +kernel
theorem dX0_takeTurn_5 : decode cX0_takeTurn 5 = .ok (.iload_n 2, 1) := by decide +kernel
theorem dX0_takeTurn_6 : decode cX0_takeTurn 6 = .ok (.invokevirtual 97, 3) := by decide +kernel
theorem dX0_takeTurn_9 : decode cX0_takeTurn 9 = .ok (.ifCond .eq 17, 3) := by decide +kernel
theorem dX0_takeTurn_12 : decode cX0_takeTurn 12 = .ok (.aload_n 1, 1) := by decide +kernel
theorem dX0_takeTurn_13 : decode cX0_takeTurn 13 = .ok (.dup, 1) := by decide +kernel
theorem dX0_takeTurn_14 : decode cX0_takeTurn 14 = .ok (.getfield 71, 3) := by decide +kernel
theorem dX0_takeTurn_17 : decode cX0_takeTurn 17 = .ok (.getstatic 91, 3) := by decide +kernel
theorem dX0_takeTurn_20 : decode cX0_takeTurn 20 = .ok (.iload_n 2, 1) := by decide +kernel
theorem dX0_takeTurn_21 : decode cX0_takeTurn 21 = .ok (.iaload, 1) := by decide +kernel
theorem dX0_takeTurn_22 : decode cX0_takeTurn 22 = .ok (.iadd, 1) := by decide +kernel
theorem dX0_takeTurn_23 : decode cX0_takeTurn 23 = .ok (.putfield 71, 3) := by decide +kernel
theorem dX0_takeTurn_26 : decode cX0_takeTurn 26 = .ok (.aload_n 1, 1) := by decide +kernel
theorem dX0_takeTurn_27 : decode cX0_takeTurn 27 = .ok (.iload_n 2, 1) := by decide +kernel
theorem dX0_takeTurn_28 : decode cX0_takeTurn 28 = .ok (.putfield 101, 3) := by decide +kernel
theorem dX0_takeTurn_31 : decode cX0_takeTurn 31 = .ok (.iconst 0, 1) := by decide +kernel
theorem dX0_takeTurn_32 : decode cX0_takeTurn 32 = .ok (.istore_n 3, 1) := by decide +kernel
theorem dX0_takeTurn_33 : decode cX0_takeTurn 33 = .ok (.iload_n 3, 1) := by decide +kernel
theorem dX0_takeTurn_34 : decode cX0_takeTurn 34 = .ok (.aload_n 0, 1) := by decide +kernel
theorem dX0_takeTurn_35 : decode cX0_takeTurn 35 = .ok (.getfield 31, 3) := by decide +kernel
theorem dX0_takeTurn_38 : decode cX0_takeTurn 38 = .ok (.if_icmp .ge 27, 3) := by decide +kernel
theorem dX0_takeTurn_41 : decode cX0_takeTurn 41 = .ok (.aload_n 1, 1) := by decide +kernel
theorem dX0_takeTurn_42 : decode cX0_takeTurn 42 = .ok (.getfield 77, 3) := by decide +kernel
theorem dX0_takeTurn_45 : decode cX0_takeTurn 45 = .ok (.iload_n 3, 1) := by decide +kernel
theorem dX0_takeTurn_46 : decode cX0_takeTurn 46 = .ok (.aload_n 0, 1) := by decide +kernel
theorem dX0_takeTurn_47 : decode cX0_takeTurn 47 = .ok (.aload_n 1, 1) := by decide +kernel
theorem dX0_takeTurn_48 : decode cX0_takeTurn 48 = .ok (.iload_n 3, 1) := by decide +kernel
theorem dX0_takeTurn_49 : decode cX0_takeTurn 49 = .ok (.aload_n 0, 1) := by decide +kernel
theorem dX0_takeTurn_50 : decode cX0_takeTurn 50 = .ok (.getfield 34, 3) := by decide +kernel
theorem dX0_takeTurn_53 : decode cX0_takeTurn 53 = .ok (.iload_n 3, 1) := by decide +kernel
theorem dX0_takeTurn_54 : decode cX0_takeTurn 54 = .ok (.iaload, 1) := by decide +kernel
theorem dX0_takeTurn_55 : decode cX0_takeTurn 55 = .ok (.invokevirtual 104, 3) := by decide +kernel
theorem dX0_takeTurn_58 : decode cX0_takeTurn 58 = .ok (.iastore, 1) := by decide +kernel
theorem dX0_takeTurn_59 : decode cX0_takeTurn 59 = .ok (.iinc 3 1, 3) := by decide +kernel
theorem dX0_takeTurn_62 : decode cX0_takeTurn 62 = .ok (.goto (-29), 3) := by decide +kernel
theorem dX0_takeTurn_65 : decode cX0_takeTurn 65 = .ok (.return_, 1) := by decide +kernel
theorem dX0_goalOf_0 : decode cX0_goalOf 0 = .ok (.aload_n 1, 1) := by decide +kernel
theorem dX0_goalOf_1 : decode cX0_goalOf 1 = .ok (.getfield 77, 3) := by decide +kernel
theorem dX0_goalOf_4 : decode cX0_goalOf 4 = .ok (.iload_n 2, 1) := by decide +kernel
theorem dX0_goalOf_5 : decode cX0_goalOf 5 = .ok (.iaload, 1) := by decide +kernel
theorem dX0_goalOf_6 : decode cX0_goalOf 6 = .ok (.istore 4, 2) := by decide +kernel
theorem dX0_goalOf_8 : decode cX0_goalOf 8 = .ok (.iload_n 3, 1) := by decide +kernel
theorem dX0_goalOf_9 : decode cX0_goalOf 9 = .ok (.iconst 5, 1) := by decide +kernel
theorem dX0_goalOf_10 : decode cX0_goalOf 10 = .ok (.if_icmp .ne 12, 3) := by decide +kernel
theorem dX0_goalOf_13 : decode cX0_goalOf 13 = .ok (.aload_n 0, 1) := by decide +kernel
theorem dX0_goalOf_14 : decode cX0_goalOf 14 = .ok (.getfield 38, 3) := by decide +kernel
theorem dX0_goalOf_17 : decode cX0_goalOf 17 = .ok (.iload_n 2, 1) := by decide +kernel
theorem dX0_goalOf_18 : decode cX0_goalOf 18 = .ok (.iaload, 1) := by decide +kernel
theorem dX0_goalOf_19 : decode cX0_goalOf 19 = .ok (.goto 8, 3) := by decide +kernel
theorem dX0_goalOf_22 : decode cX0_goalOf 22 = .ok (.getstatic 108, 3) := by decide +kernel
theorem dX0_goalOf_25 : decode cX0_goalOf 25 = .ok (.iload_n 3, 1) := by decide +kernel
theorem dX0_goalOf_26 : decode cX0_goalOf 26 = .ok (.iaload, 1) := by decide +kernel
theorem dX0_goalOf_27 : decode cX0_goalOf 27 = .ok (.istore 5, 2) := by decide +kernel
theorem dX0_goalOf_29 : decode cX0_goalOf 29 = .ok (.iload_n 3, 1) := by decide +kernel
theorem dX0_goalOf_30 : decode cX0_goalOf 30 = .ok (.iconst 5, 1) := by decide +kernel
theorem dX0_goalOf_31 : decode cX0_goalOf 31 = .ok (.if_icmp .ne 10, 3) := by decide +kernel
theorem dX0_goalOf_34 : decode cX0_goalOf 34 = .ok (.aload_n 0, 1) := by decide +kernel
theorem dX0_goalOf_35 : decode cX0_goalOf 35 = .ok (.getfield 15, 3) := by decide +kernel
theorem dX0_goalOf_38 : decode cX0_goalOf 38 = .ok (.goto 9, 3) := by decide +kernel
theorem dX0_goalOf_41 : decode cX0_goalOf 41 = .ok (.aload_n 0, 1) := by decide +kernel
theorem dX0_goalOf_42 : decode cX0_goalOf 42 = .ok (.aload_n 1, 1) := by decide +kernel
theorem dX0_goalOf_43 : decode cX0_goalOf 43 = .ok (.iload_n 2, 1) := by decide +kernel
theorem dX0_goalOf_44 : decode cX0_goalOf 44 = .ok (.invokevirtual 111, 3) := by decide +kernel
theorem dX0_goalOf_47 : decode cX0_goalOf 47 = .ok (.istore 6, 2) := by decide +kernel
theorem dX0_goalOf_49 : decode cX0_goalOf 49 = .ok (.iconst 0, 1) := by decide +kernel
theorem dX0_goalOf_50 : decode cX0_goalOf 50 = .ok (.istore 7, 2) := by decide +kernel
theorem dX0_goalOf_52 : decode cX0_goalOf 52 = .ok (.iload 7, 2) := by decide +kernel
theorem dX0_goalOf_54 : decode cX0_goalOf 54 = .ok (.getstatic 88, 3) := by decide +kernel
theorem dX0_goalOf_57 : decode cX0_goalOf 57 = .ok (.iload_n 3, 1) := by decide +kernel
theorem dX0_goalOf_58 : decode cX0_goalOf 58 = .ok (.iaload, 1) := by decide +kernel
theorem dX0_goalOf_59 : decode cX0_goalOf 59 = .ok (.if_icmp .ge 60, 3) := by decide +kernel
theorem dX0_goalOf_62 : decode cX0_goalOf 62 = .ok (.iload 4, 2) := by decide +kernel
theorem dX0_goalOf_64 : decode cX0_goalOf 64 = .ok (.aload_n 0, 1) := by decide +kernel
theorem dX0_goalOf_65 : decode cX0_goalOf 65 = .ok (.getfield 15, 3) := by decide +kernel
theorem dX0_goalOf_68 : decode cX0_goalOf 68 = .ok (.if_icmp .eq 51, 3) := by decide +kernel
theorem dX0_goalOf_71 : decode cX0_goalOf 71 = .ok (.iload 4, 2) := by decide +kernel
theorem dX0_goalOf_73 : decode cX0_goalOf 73 = .ok (.aload_n 1, 1) := by decide +kernel
theorem dX0_goalOf_74 : decode cX0_goalOf 74 = .ok (.getfield 71, 3) := by decide +kernel
theorem dX0_goalOf_77 : decode cX0_goalOf 77 = .ok (.invokestatic 84, 3) := by decide +kernel
theorem dX0_goalOf_80 : decode cX0_goalOf 80 = .ok (.istore 8, 2) := by decide +kernel
theorem dX0_goalOf_82 : decode cX0_goalOf 82 = .ok (.iload 8, 2) := by decide +kernel
theorem dX0_goalOf_84 : decode cX0_goalOf 84 = .ok (.iload 5, 2) := by decide +kernel
theorem dX0_goalOf_86 : decode cX0_goalOf 86 = .ok (.if_icmp .gt 27, 3) := by decide +kernel
theorem dX0_goalOf_89 : decode cX0_goalOf 89 = .ok (.iload 8, 2) := by decide +kernel
theorem dX0_goalOf_91 : decode cX0_goalOf 91 = .ok (.getstatic 114, 3) := by decide +kernel
theorem dX0_goalOf_94 : decode cX0_goalOf 94 = .ok (.iload_n 3, 1) := by decide +kernel
theorem dX0_goalOf_95 : decode cX0_goalOf 95 = .ok (.iaload, 1) := by decide +kernel
theorem dX0_goalOf_96 : decode cX0_goalOf 96 = .ok (.if_icmp .le 17, 3) := by decide +kernel
theorem dX0_goalOf_99 : decode cX0_goalOf 99 = .ok (.aload_n 0, 1) := by decide +kernel
theorem dX0_goalOf_100 : decode cX0_goalOf 100 = .ok (.iload 4, 2) := by decide +kernel
theorem dX0_goalOf_102 : decode cX0_goalOf 102 = .ok (.aload_n 1, 1) := by decide +kernel
theorem dX0_goalOf_103 : decode cX0_goalOf 103 = .ok (.getfield 71, 3) := by decide +kernel
theorem dX0_goalOf_106 : decode cX0_goalOf 106 = .ok (.iload 6, 2) := by decide +kernel
theorem dX0_goalOf_108 : decode cX0_goalOf 108 = .ok (.invokevirtual 117, 3) := by decide +kernel
theorem dX0_goalOf_111 : decode cX0_goalOf 111 = .ok (.istore 4, 2) := by decide +kernel
theorem dX0_goalOf_113 : decode cX0_goalOf 113 = .ok (.iinc 7 1, 3) := by decide +kernel
theorem dX0_goalOf_116 : decode cX0_goalOf 116 = .ok (.goto (-64), 3) := by decide +kernel
theorem dX0_goalOf_119 : decode cX0_goalOf 119 = .ok (.iload 4, 2) := by decide +kernel
theorem dX0_goalOf_121 : decode cX0_goalOf 121 = .ok (.ireturn, 1) := by decide +kernel
theorem dX0_leaderOf_0 : decode cX0_leaderOf 0 = .ok (.iconst 0, 1) := by decide +kernel
theorem dX0_leaderOf_1 : decode cX0_leaderOf 1 = .ok (.istore_n 3, 1) := by decide +kernel
theorem dX0_leaderOf_2 : decode cX0_leaderOf 2 = .ok (.iload_n 3, 1) := by decide +kernel
theorem dX0_leaderOf_3 : decode cX0_leaderOf 3 = .ok (.aload_n 0, 1) := by decide +kernel
theorem dX0_leaderOf_4 : decode cX0_leaderOf 4 = .ok (.getfield 31, 3) := by decide +kernel
theorem dX0_leaderOf_7 : decode cX0_leaderOf 7 = .ok (.if_icmp .ge 44, 3) := by decide +kernel
theorem dX0_leaderOf_10 : decode cX0_leaderOf 10 = .ok (.iload_n 3, 1) := by decide +kernel
theorem dX0_leaderOf_11 : decode cX0_leaderOf 11 = .ok (.iload_n 2, 1) := by decide +kernel
theorem dX0_leaderOf_12 : decode cX0_leaderOf 12 = .ok (.if_icmp .eq 33, 3) := by decide +kernel
theorem dX0_leaderOf_15 : decode cX0_leaderOf 15 = .ok (.aload_n 0, 1) := by decide +kernel
theorem dX0_leaderOf_16 : decode cX0_leaderOf 16 = .ok (.getfield 34, 3) := by decide +kernel
theorem dX0_leaderOf_19 : decode cX0_leaderOf 19 = .ok (.iload_n 3, 1) := by decide +kernel
theorem dX0_leaderOf_20 : decode cX0_leaderOf 20 = .ok (.iaload, 1) := by decide +kernel
theorem dX0_leaderOf_21 : decode cX0_leaderOf 21 = .ok (.iconst 5, 1) := by decide +kernel
theorem dX0_leaderOf_22 : decode cX0_leaderOf 22 = .ok (.if_icmp .ne 23, 3) := by decide +kernel
theorem dX0_leaderOf_25 : decode cX0_leaderOf 25 = .ok (.aload_n 1, 1) := by decide +kernel
theorem dX0_leaderOf_26 : decode cX0_leaderOf 26 = .ok (.getfield 77, 3) := by decide +kernel
theorem dX0_leaderOf_29 : decode cX0_leaderOf 29 = .ok (.iload_n 3, 1) := by decide +kernel
theorem dX0_leaderOf_30 : decode cX0_leaderOf 30 = .ok (.iaload, 1) := by decide +kernel
theorem dX0_leaderOf_31 : decode cX0_leaderOf 31 = .ok (.aload_n 0, 1) := by decide +kernel
theorem dX0_leaderOf_32 : decode cX0_leaderOf 32 = .ok (.getfield 15, 3) := by decide +kernel
theorem dX0_leaderOf_35 : decode cX0_leaderOf 35 = .ok (.if_icmp .eq 10, 3) := by decide +kernel
theorem dX0_leaderOf_38 : decode cX0_leaderOf 38 = .ok (.aload_n 1, 1) := by decide +kernel
theorem dX0_leaderOf_39 : decode cX0_leaderOf 39 = .ok (.getfield 77, 3) := by decide +kernel
theorem dX0_leaderOf_42 : decode cX0_leaderOf 42 = .ok (.iload_n 3, 1) := by decide +kernel
theorem dX0_leaderOf_43 : decode cX0_leaderOf 43 = .ok (.iaload, 1) := by decide +kernel
theorem dX0_leaderOf_44 : decode cX0_leaderOf 44 = .ok (.ireturn, 1) := by decide +kernel
theorem dX0_leaderOf_45 : decode cX0_leaderOf 45 = .ok (.iinc 3 1, 3) := by decide +kernel
theorem dX0_leaderOf_48 : decode cX0_leaderOf 48 = .ok (.goto (-46), 3) := by decide +kernel
theorem dX0_leaderOf_51 : decode cX0_leaderOf 51 = .ok (.iconst (-1), 1) := by decide +kernel
theorem dX0_leaderOf_52 : decode cX0_leaderOf 52 = .ok (.ireturn, 1) := by decide +kernel
theorem dX0_nextFrom_0 : decode cX0_nextFrom 0 = .ok (.iload_n 1, 1) := by decide +kernel
theorem dX0_nextFrom_1 : decode cX0_nextFrom 1 = .ok (.iload_n 2, 1) := by decide +kernel
theorem dX0_nextFrom_2 : decode cX0_nextFrom 2 = .ok (.invokestatic 84, 3) := by decide +kernel
theorem dX0_nextFrom_5 : decode cX0_nextFrom 5 = .ok (.istore 4, 2) := by decide +kernel
theorem dX0_nextFrom_7 : decode cX0_nextFrom 7 = .ok (.iload_n 1, 1) := by decide +kernel
theorem dX0_nextFrom_8 : decode cX0_nextFrom 8 = .ok (.istore 5, 2) := by decide +kernel
theorem dX0_nextFrom_10 : decode cX0_nextFrom 10 = .ok (.iconst 0, 1) := by decide +kernel
theorem dX0_nextFrom_11 : decode cX0_nextFrom 11 = .ok (.istore 6, 2) := by decide +kernel
theorem dX0_nextFrom_13 : decode cX0_nextFrom 13 = .ok (.iconst 1, 1) := by decide +kernel
theorem dX0_nextFrom_14 : decode cX0_nextFrom 14 = .ok (.istore 7, 2) := by decide +kernel
theorem dX0_nextFrom_16 : decode cX0_nextFrom 16 = .ok (.iload 7, 2) := by decide +kernel
theorem dX0_nextFrom_18 : decode cX0_nextFrom 18 = .ok (.iconst 5, 1) := by decide +kernel
theorem dX0_nextFrom_19 : decode cX0_nextFrom 19 = .ok (.if_icmp .ge 77, 3) := by decide +kernel
theorem dX0_nextFrom_22 : decode cX0_nextFrom 22 = .ok (.iload_n 1, 1) := by decide +kernel
theorem dX0_nextFrom_23 : decode cX0_nextFrom 23 = .ok (.getstatic 91, 3) := by decide +kernel
theorem dX0_nextFrom_26 : decode cX0_nextFrom 26 = .ok (.iload 7, 2) := by decide +kernel
theorem dX0_nextFrom_28 : decode cX0_nextFrom 28 = .ok (.iaload, 1) := by decide +kernel
theorem dX0_nextFrom_29 : decode cX0_nextFrom 29 = .ok (.iadd, 1) := by decide +kernel
theorem dX0_nextFrom_30 : decode cX0_nextFrom 30 = .ok (.istore 8, 2) := by decide +kernel
theorem dX0_nextFrom_32 : decode cX0_nextFrom 32 = .ok (.aload_n 0, 1) := by decide +kernel
theorem dX0_nextFrom_33 : decode cX0_nextFrom 33 = .ok (.iload 8, 2) := by decide +kernel
theorem dX0_nextFrom_35 : decode cX0_nextFrom 35 = .ok (.invokevirtual 68, 3) := by decide +kernel
theorem dX0_nextFrom_38 : decode cX0_nextFrom 38 = .ok (.ifCond .eq 52, 3) := by decide +kernel
theorem dX0_nextFrom_41 : decode cX0_nextFrom 41 = .ok (.iload 8, 2) := by decide +kernel
theorem dX0_nextFrom_43 : decode cX0_nextFrom 43 = .ok (.iload_n 2, 1) := by decide +kernel
theorem dX0_nextFrom_44 : decode cX0_nextFrom 44 = .ok (.invokestatic 84, 3) := by decide +kernel
theorem dX0_nextFrom_47 : decode cX0_nextFrom 47 = .ok (.iload 4, 2) := by decide +kernel
theorem dX0_nextFrom_49 : decode cX0_nextFrom 49 = .ok (.if_icmp .le 41, 3) := by decide +kernel
theorem dX0_nextFrom_52 : decode cX0_nextFrom 52 = .ok (.iload_n 3, 1) := by decide +kernel
theorem dX0_nextFrom_53 : decode cX0_nextFrom 53 = .ok (.iconst (-1), 1) := by decide +kernel
theorem dX0_nextFrom_54 : decode cX0_nextFrom 54 = .ok (.if_icmp .ne 7, 3) := by decide +kernel
theorem dX0_nextFrom_57 : decode cX0_nextFrom 57 = .ok (.iconst 0, 1) := by decide +kernel
theorem dX0_nextFrom_58 : decode cX0_nextFrom 58 = .ok (.goto 9, 3) := by decide +kernel
theorem dX0_nextFrom_61 : decode cX0_nextFrom 61 = .ok (.iload 8, 2) := by decide +kernel
theorem dX0_nextFrom_63 : decode cX0_nextFrom 63 = .ok (.iload_n 3, 1) := by decide +kernel
theorem dX0_nextFrom_64 : decode cX0_nextFrom 64 = .ok (.invokestatic 84, 3) := by decide +kernel
theorem dX0_nextFrom_67 : decode cX0_nextFrom 67 = .ok (.istore 9, 2) := by decide +kernel
theorem dX0_nextFrom_69 : decode cX0_nextFrom 69 = .ok (.iload 5, 2) := by decide +kernel
theorem dX0_nextFrom_71 : decode cX0_nextFrom 71 = .ok (.iload_n 1, 1) := by decide +kernel
theorem dX0_nextFrom_72 : decode cX0_nextFrom 72 = .ok (.if_icmp .eq 10, 3) := by decide +kernel
theorem dX0_nextFrom_75 : decode cX0_nextFrom 75 = .ok (.iload 9, 2) := by decide +kernel
theorem dX0_nextFrom_77 : decode cX0_nextFrom 77 = .ok (.iload 6, 2) := by decide +kernel
theorem dX0_nextFrom_79 : decode cX0_nextFrom 79 = .ok (.if_icmp .ge 11, 3) := by decide +kernel
theorem dX0_nextFrom_82 : decode cX0_nextFrom 82 = .ok (.iload 8, 2) := by decide +kernel
theorem dX0_nextFrom_84 : decode cX0_nextFrom 84 = .ok (.istore 5, 2) := by decide +kernel
theorem dX0_nextFrom_86 : decode cX0_nextFrom 86 = .ok (.iload 9, 2) := by decide +kernel
theorem dX0_nextFrom_88 : decode cX0_nextFrom 88 = .ok (.istore 6, 2) := by decide +kernel
theorem dX0_nextFrom_90 : decode cX0_nextFrom 90 = .ok (.iinc 7 1, 3) := by decide +kernel
theorem dX0_nextFrom_93 : decode cX0_nextFrom 93 = .ok (.goto (-77), 3) := by decide +kernel
theorem dX0_nextFrom_96 : decode cX0_nextFrom 96 = .ok (.iload 5, 2) := by decide +kernel
theorem dX0_nextFrom_98 : decode cX0_nextFrom 98 = .ok (.ireturn, 1) := by decide +kernel
theorem dX0_wouldGo_0 : decode cX0_wouldGo 0 = .ok (.aload_n 0, 1) := by decide +kernel
theorem dX0_wouldGo_1 : decode cX0_wouldGo 1 = .ok (.aload_n 1, 1) := by decide +kernel
theorem dX0_wouldGo_2 : decode cX0_wouldGo 2 = .ok (.iload_n 2, 1) := by decide +kernel
theorem dX0_wouldGo_3 : decode cX0_wouldGo 3 = .ok (.aload_n 0, 1) := by decide +kernel
theorem dX0_wouldGo_4 : decode cX0_wouldGo 4 = .ok (.getfield 34, 3) := by decide +kernel
theorem dX0_wouldGo_7 : decode cX0_wouldGo 7 = .ok (.iload_n 2, 1) := by decide +kernel
theorem dX0_wouldGo_8 : decode cX0_wouldGo 8 = .ok (.iaload, 1) := by decide +kernel
theorem dX0_wouldGo_9 : decode cX0_wouldGo 9 = .ok (.invokevirtual 104, 3) := by decide +kernel
theorem dX0_wouldGo_12 : decode cX0_wouldGo 12 = .ok (.aload_n 1, 1) := by decide +kernel
theorem dX0_wouldGo_13 : decode cX0_wouldGo 13 = .ok (.getfield 77, 3) := by decide +kernel
theorem dX0_wouldGo_16 : decode cX0_wouldGo 16 = .ok (.iload_n 2, 1) := by decide +kernel
theorem dX0_wouldGo_17 : decode cX0_wouldGo 17 = .ok (.iaload, 1) := by decide +kernel
theorem dX0_wouldGo_18 : decode cX0_wouldGo 18 = .ok (.if_icmp .eq 7, 3) := by decide +kernel
theorem dX0_wouldGo_21 : decode cX0_wouldGo 21 = .ok (.iconst 1, 1) := by decide +kernel
theorem dX0_wouldGo_22 : decode cX0_wouldGo 22 = .ok (.goto 4, 3) := by decide +kernel
theorem dX0_wouldGo_25 : decode cX0_wouldGo 25 = .ok (.iconst 0, 1) := by decide +kernel
theorem dX0_wouldGo_26 : decode cX0_wouldGo 26 = .ok (.ireturn, 1) := by decide +kernel
theorem dX0_moved_0 : decode cX0_moved 0 = .ok (.iconst 0, 1) := by decide +kernel
theorem dX0_moved_1 : decode cX0_moved 1 = .ok (.istore_n 2, 1) := by decide +kernel
theorem dX0_moved_2 : decode cX0_moved 2 = .ok (.iconst 0, 1) := by decide +kernel
theorem dX0_moved_3 : decode cX0_moved 3 = .ok (.istore_n 3, 1) := by decide +kernel
theorem dX0_moved_4 : decode cX0_moved 4 = .ok (.iload_n 3, 1) := by decide +kernel
theorem dX0_moved_5 : decode cX0_moved 5 = .ok (.aload_n 0, 1) := by decide +kernel
theorem dX0_moved_6 : decode cX0_moved 6 = .ok (.getfield 31, 3) := by decide +kernel
theorem dX0_moved_9 : decode cX0_moved 9 = .ok (.if_icmp .ge 24, 3) := by decide +kernel
theorem dX0_moved_12 : decode cX0_moved 12 = .ok (.aload_n 0, 1) := by decide +kernel
theorem dX0_moved_13 : decode cX0_moved 13 = .ok (.aload_n 1, 1) := by decide +kernel
theorem dX0_moved_14 : decode cX0_moved 14 = .ok (.iload_n 3, 1) := by decide +kernel
theorem dX0_moved_15 : decode cX0_moved 15 = .ok (.invokevirtual 121, 3) := by decide +kernel
theorem dX0_moved_18 : decode cX0_moved 18 = .ok (.ifCond .eq 9, 3) := by decide +kernel
theorem dX0_moved_21 : decode cX0_moved 21 = .ok (.iload_n 2, 1) := by decide +kernel
theorem dX0_moved_22 : decode cX0_moved 22 = .ok (.iconst 1, 1) := by decide +kernel
theorem dX0_moved_23 : decode cX0_moved 23 = .ok (.iload_n 3, 1) := by decide +kernel
theorem dX0_moved_24 : decode cX0_moved 24 = .ok (.ishl, 1) := by decide +kernel
theorem dX0_moved_25 : decode cX0_moved 25 = .ok (.ior, 1) := by decide +kernel
theorem dX0_moved_26 : decode cX0_moved 26 = .ok (.istore_n 2, 1) := by decide +kernel
theorem dX0_moved_27 : decode cX0_moved 27 = .ok (.iinc 3 1, 3) := by decide +kernel
theorem dX0_moved_30 : decode cX0_moved 30 = .ok (.goto (-26), 3) := by decide +kernel
theorem dX0_moved_33 : decode cX0_moved 33 = .ok (.iload_n 2, 1) := by decide +kernel
theorem dX0_moved_34 : decode cX0_moved 34 = .ok (.ireturn, 1) := by decide +kernel
theorem dX0_notIn_0 : decode cX0_notIn 0 = .ok (.iconst 0, 1) := by decide +kernel
theorem dX0_notIn_1 : decode cX0_notIn 1 = .ok (.istore_n 1, 1) := by decide +kernel
theorem dX0_notIn_2 : decode cX0_notIn 2 = .ok (.iconst 0, 1) := by decide +kernel
theorem dX0_notIn_3 : decode cX0_notIn 3 = .ok (.istore_n 2, 1) := by decide +kernel
theorem dX0_notIn_4 : decode cX0_notIn 4 = .ok (.iload_n 2, 1) := by decide +kernel
theorem dX0_notIn_5 : decode cX0_notIn 5 = .ok (.aload_n 0, 1) := by decide +kernel
theorem dX0_notIn_6 : decode cX0_notIn 6 = .ok (.getfield 31, 3) := by decide +kernel
theorem dX0_notIn_9 : decode cX0_notIn 9 = .ok (.if_icmp .ge 27, 3) := by decide +kernel
theorem dX0_notIn_12 : decode cX0_notIn 12 = .ok (.aload_n 0, 1) := by decide +kernel
theorem dX0_notIn_13 : decode cX0_notIn 13 = .ok (.aload_n 0, 1) := by decide +kernel
theorem dX0_notIn_14 : decode cX0_notIn 14 = .ok (.getfield 44, 3) := by decide +kernel
theorem dX0_notIn_17 : decode cX0_notIn 17 = .ok (.iload_n 2, 1) := by decide +kernel
theorem dX0_notIn_18 : decode cX0_notIn 18 = .ok (.invokevirtual 125, 3) := by decide +kernel
theorem dX0_notIn_21 : decode cX0_notIn 21 = .ok (.ifCond .ne 9, 3) := by decide +kernel
theorem dX0_notIn_24 : decode cX0_notIn 24 = .ok (.iload_n 1, 1) := by decide +kernel
theorem dX0_notIn_25 : decode cX0_notIn 25 = .ok (.iconst 1, 1) := by decide +kernel
theorem dX0_notIn_26 : decode cX0_notIn 26 = .ok (.iload_n 2, 1) := by decide +kernel
theorem dX0_notIn_27 : decode cX0_notIn 27 = .ok (.ishl, 1) := by decide +kernel
theorem dX0_notIn_28 : decode cX0_notIn 28 = .ok (.ior, 1) := by decide +kernel
theorem dX0_notIn_29 : decode cX0_notIn 29 = .ok (.istore_n 1, 1) := by decide +kernel
theorem dX0_notIn_30 : decode cX0_notIn 30 = .ok (.iinc 2 1, 3) := by decide +kernel
theorem dX0_notIn_33 : decode cX0_notIn 33 = .ok (.goto (-29), 3) := by decide +kernel
theorem dX0_notIn_36 : decode cX0_notIn 36 = .ok (.iload_n 1, 1) := by decide +kernel
theorem dX0_notIn_37 : decode cX0_notIn 37 = .ok (.ireturn, 1) := by decide +kernel
theorem dX0_farthestFrom_0 : decode cX0_farthestFrom 0 = .ok (.iconst 0, 1) := by decide +kernel
theorem dX0_farthestFrom_1 : decode cX0_farthestFrom 1 = .ok (.istore_n 3, 1) := by decide +kernel
theorem dX0_farthestFrom_2 : decode cX0_farthestFrom 2 = .ok (.iconst 0, 1) := by decide +kernel
theorem dX0_farthestFrom_3 : decode cX0_farthestFrom 3 = .ok (.istore 4, 2) := by decide +kernel
theorem dX0_farthestFrom_5 : decode cX0_farthestFrom 5 = .ok (.iload 4, 2) := by decide +kernel
theorem dX0_farthestFrom_7 : decode cX0_farthestFrom 7 = .ok (.aload_n 0, 1) := by decide +kernel
theorem dX0_farthestFrom_8 : decode cX0_farthestFrom 8 = .ok (.getfield 31, 3) := by decide +kernel
theorem dX0_farthestFrom_11 : decode cX0_farthestFrom 11 = .ok (.if_icmp .ge 40, 3) := by decide +kernel
theorem dX0_farthestFrom_14 : decode cX0_farthestFrom 14 = .ok (.aload_n 0, 1) := by decide +kernel
theorem dX0_farthestFrom_15 : decode cX0_farthestFrom 15 = .ok (.aload_n 1, 1) := by decide +kernel
theorem dX0_farthestFrom_16 : decode cX0_farthestFrom 16 = .ok (.iload 4, 2) := by decide +kernel
theorem dX0_farthestFrom_18 : decode cX0_farthestFrom 18 = .ok (.invokevirtual 125, 3) := by decide +kernel
theorem dX0_farthestFrom_21 : decode cX0_farthestFrom 21 = .ok (.ifCond .ne 24, 3) := by decide +kernel
theorem dX0_farthestFrom_24 : decode cX0_farthestFrom 24 = .ok (.iload_n 3, 1) := by decide +kernel
theorem dX0_farthestFrom_25 : decode cX0_farthestFrom 25 = .ok (.aload_n 1, 1) := by decide +kernel
theorem dX0_farthestFrom_26 : decode cX0_farthestFrom 26 = .ok (.getfield 77, 3) := by decide +kernel
theorem dX0_farthestFrom_29 : decode cX0_farthestFrom 29 = .ok (.iload 4, 2) := by decide +kernel
theorem dX0_farthestFrom_31 : decode cX0_farthestFrom 31 = .ok (.iaload, 1) := by decide +kernel
theorem dX0_farthestFrom_32 : decode cX0_farthestFrom 32 = .ok (.aload_n 1, 1) := by decide +kernel
theorem dX0_farthestFrom_33 : decode cX0_farthestFrom 33 = .ok (.getfield 77, 3) := by decide +kernel
theorem dX0_farthestFrom_36 : decode cX0_farthestFrom 36 = .ok (.iload_n 2, 1) := by decide +kernel
theorem dX0_farthestFrom_37 : decode cX0_farthestFrom 37 = .ok (.iaload, 1) := by decide +kernel
theorem dX0_farthestFrom_38 : decode cX0_farthestFrom 38 = .ok (.invokestatic 84, 3) := by decide +kernel
theorem dX0_farthestFrom_41 : decode cX0_farthestFrom 41 = .ok (.invokestatic 128, 3) := by decide +kernel
theorem dX0_farthestFrom_44 : decode cX0_farthestFrom 44 = .ok (.istore_n 3, 1) := by decide +kernel
theorem dX0_farthestFrom_45 : decode cX0_farthestFrom 45 = .ok (.iinc 4 1, 3) := by decide +kernel
theorem dX0_farthestFrom_48 : decode cX0_farthestFrom 48 = .ok (.goto (-43), 3) := by decide +kernel
theorem dX0_farthestFrom_51 : decode cX0_farthestFrom 51 = .ok (.iload_n 3, 1) := by decide +kernel
theorem dX0_farthestFrom_52 : decode cX0_farthestFrom 52 = .ok (.ireturn, 1) := by decide +kernel
theorem dX0_apart_0 : decode cX0_apart 0 = .ok (.iconst 0, 1) := by decide +kernel
theorem dX0_apart_1 : decode cX0_apart 1 = .ok (.istore_n 2, 1) := by decide +kernel
theorem dX0_apart_2 : decode cX0_apart 2 = .ok (.iconst 0, 1) := by decide +kernel
theorem dX0_apart_3 : decode cX0_apart 3 = .ok (.istore_n 3, 1) := by decide +kernel
theorem dX0_apart_4 : decode cX0_apart 4 = .ok (.iload_n 3, 1) := by decide +kernel
theorem dX0_apart_5 : decode cX0_apart 5 = .ok (.aload_n 0, 1) := by decide +kernel
theorem dX0_apart_6 : decode cX0_apart 6 = .ok (.getfield 31, 3) := by decide +kernel
theorem dX0_apart_9 : decode cX0_apart 9 = .ok (.if_icmp .ge 29, 3) := by decide +kernel
theorem dX0_apart_12 : decode cX0_apart 12 = .ok (.aload_n 0, 1) := by decide +kernel
theorem dX0_apart_13 : decode cX0_apart 13 = .ok (.aload_n 1, 1) := by decide +kernel
theorem dX0_apart_14 : decode cX0_apart 14 = .ok (.iload_n 3, 1) := by decide +kernel
theorem dX0_apart_15 : decode cX0_apart 15 = .ok (.invokevirtual 125, 3) := by decide +kernel
theorem dX0_apart_18 : decode cX0_apart 18 = .ok (.ifCond .ne 14, 3) := by decide +kernel
theorem dX0_apart_21 : decode cX0_apart 21 = .ok (.iload_n 2, 1) := by decide +kernel
theorem dX0_apart_22 : decode cX0_apart 22 = .ok (.aload_n 0, 1) := by decide +kernel
theorem dX0_apart_23 : decode cX0_apart 23 = .ok (.aload_n 1, 1) := by decide +kernel
theorem dX0_apart_24 : decode cX0_apart 24 = .ok (.iload_n 3, 1) := by decide +kernel
theorem dX0_apart_25 : decode cX0_apart 25 = .ok (.invokevirtual 133, 3) := by decide +kernel
theorem dX0_apart_28 : decode cX0_apart 28 = .ok (.invokestatic 128, 3) := by decide +kernel
theorem dX0_apart_31 : decode cX0_apart 31 = .ok (.istore_n 2, 1) := by decide +kernel
theorem dX0_apart_32 : decode cX0_apart 32 = .ok (.iinc 3 1, 3) := by decide +kernel
theorem dX0_apart_35 : decode cX0_apart 35 = .ok (.goto (-31), 3) := by decide +kernel
theorem dX0_apart_38 : decode cX0_apart 38 = .ok (.iload_n 2, 1) := by decide +kernel
theorem dX0_apart_39 : decode cX0_apart 39 = .ok (.ireturn, 1) := by decide +kernel
theorem dX0_flock_0 : decode cX0_flock 0 = .ok (.iconst 0, 1) := by decide +kernel
theorem dX0_flock_1 : decode cX0_flock 1 = .ok (.istore_n 1, 1) := by decide +kernel
theorem dX0_flock_2 : decode cX0_flock 2 = .ok (.iconst 0, 1) := by decide +kernel
theorem dX0_flock_3 : decode cX0_flock 3 = .ok (.istore_n 2, 1) := by decide +kernel
theorem dX0_flock_4 : decode cX0_flock 4 = .ok (.iload_n 2, 1) := by decide +kernel
theorem dX0_flock_5 : decode cX0_flock 5 = .ok (.aload_n 0, 1) := by decide +kernel
theorem dX0_flock_6 : decode cX0_flock 6 = .ok (.getfield 31, 3) := by decide +kernel
theorem dX0_flock_9 : decode cX0_flock 9 = .ok (.if_icmp .ge 40, 3) := by decide +kernel
theorem dX0_flock_12 : decode cX0_flock 12 = .ok (.aload_n 0, 1) := by decide +kernel
theorem dX0_flock_13 : decode cX0_flock 13 = .ok (.aload_n 0, 1) := by decide +kernel
theorem dX0_flock_14 : decode cX0_flock 14 = .ok (.getfield 44, 3) := by decide +kernel
theorem dX0_flock_17 : decode cX0_flock 17 = .ok (.iload_n 2, 1) := by decide +kernel
theorem dX0_flock_18 : decode cX0_flock 18 = .ok (.invokevirtual 125, 3) := by decide +kernel
theorem dX0_flock_21 : decode cX0_flock 21 = .ok (.ifCond .ne 22, 3) := by decide +kernel
theorem dX0_flock_24 : decode cX0_flock 24 = .ok (.aload_n 0, 1) := by decide +kernel
theorem dX0_flock_25 : decode cX0_flock 25 = .ok (.aload_n 0, 1) := by decide +kernel
theorem dX0_flock_26 : decode cX0_flock 26 = .ok (.getfield 44, 3) := by decide +kernel
theorem dX0_flock_29 : decode cX0_flock 29 = .ok (.iload_n 2, 1) := by decide +kernel
theorem dX0_flock_30 : decode cX0_flock 30 = .ok (.invokevirtual 133, 3) := by decide +kernel
theorem dX0_flock_33 : decode cX0_flock 33 = .ok (.iconst 2, 1) := by decide +kernel
theorem dX0_flock_34 : decode cX0_flock 34 = .ok (.if_icmp .le 9, 3) := by decide +kernel
theorem dX0_flock_37 : decode cX0_flock 37 = .ok (.iload_n 1, 1) := by decide +kernel
theorem dX0_flock_38 : decode cX0_flock 38 = .ok (.iconst 1, 1) := by decide +kernel
theorem dX0_flock_39 : decode cX0_flock 39 = .ok (.iload_n 2, 1) := by decide +kernel
theorem dX0_flock_40 : decode cX0_flock 40 = .ok (.ishl, 1) := by decide +kernel
theorem dX0_flock_41 : decode cX0_flock 41 = .ok (.ior, 1) := by decide +kernel
theorem dX0_flock_42 : decode cX0_flock 42 = .ok (.istore_n 1, 1) := by decide +kernel
theorem dX0_flock_43 : decode cX0_flock 43 = .ok (.iinc 2 1, 3) := by decide +kernel
theorem dX0_flock_46 : decode cX0_flock 46 = .ok (.goto (-42), 3) := by decide +kernel
theorem dX0_flock_49 : decode cX0_flock 49 = .ok (.iload_n 1, 1) := by decide +kernel
theorem dX0_flock_50 : decode cX0_flock 50 = .ok (.ireturn, 1) := by decide +kernel
theorem dX0_nearest_0 : decode cX0_nearest 0 = .ok (.iconst (-1), 1) := by decide +kernel
theorem dX0_nearest_1 : decode cX0_nearest 1 = .ok (.istore_n 1, 1) := by decide +kernel
theorem dX0_nearest_2 : decode cX0_nearest 2 = .ok (.iconst 0, 1) := by decide +kernel
theorem dX0_nearest_3 : decode cX0_nearest 3 = .ok (.istore_n 2, 1) := by decide +kernel
theorem dX0_nearest_4 : decode cX0_nearest 4 = .ok (.iconst 0, 1) := by decide +kernel
theorem dX0_nearest_5 : decode cX0_nearest 5 = .ok (.istore_n 3, 1) := by decide +kernel
theorem dX0_nearest_6 : decode cX0_nearest 6 = .ok (.iload_n 3, 1) := by decide +kernel
theorem dX0_nearest_7 : decode cX0_nearest 7 = .ok (.aload_n 0, 1) := by decide +kernel
theorem dX0_nearest_8 : decode cX0_nearest 8 = .ok (.getfield 31, 3) := by decide +kernel
theorem dX0_nearest_11 : decode cX0_nearest 11 = .ok (.if_icmp .ge 58, 3) := by decide +kernel
theorem dX0_nearest_14 : decode cX0_nearest 14 = .ok (.aload_n 0, 1) := by decide +kernel
theorem dX0_nearest_15 : decode cX0_nearest 15 = .ok (.getfield 44, 3) := by decide +kernel
theorem dX0_nearest_18 : decode cX0_nearest 18 = .ok (.getfield 77, 3) := by decide +kernel
theorem dX0_nearest_21 : decode cX0_nearest 21 = .ok (.iload_n 3, 1) := by decide +kernel
theorem dX0_nearest_22 : decode cX0_nearest 22 = .ok (.iaload, 1) := by decide +kernel
theorem dX0_nearest_23 : decode cX0_nearest 23 = .ok (.aload_n 0, 1) := by decide +kernel
theorem dX0_nearest_24 : decode cX0_nearest 24 = .ok (.getfield 44, 3) := by decide +kernel
theorem dX0_nearest_27 : decode cX0_nearest 27 = .ok (.getfield 71, 3) := by decide +kernel
theorem dX0_nearest_30 : decode cX0_nearest 30 = .ok (.invokestatic 84, 3) := by decide +kernel
theorem dX0_nearest_33 : decode cX0_nearest 33 = .ok (.istore 4, 2) := by decide +kernel
theorem dX0_nearest_35 : decode cX0_nearest 35 = .ok (.aload_n 0, 1) := by decide +kernel
theorem dX0_nearest_36 : decode cX0_nearest 36 = .ok (.aload_n 0, 1) := by decide +kernel
theorem dX0_nearest_37 : decode cX0_nearest 37 = .ok (.getfield 44, 3) := by decide +kernel
theorem dX0_nearest_40 : decode cX0_nearest 40 = .ok (.iload_n 3, 1) := by decide +kernel
theorem dX0_nearest_41 : decode cX0_nearest 41 = .ok (.invokevirtual 125, 3) := by decide +kernel
theorem dX0_nearest_44 : decode cX0_nearest 44 = .ok (.ifCond .ne 19, 3) := by decide +kernel
theorem dX0_nearest_47 : decode cX0_nearest 47 = .ok (.iload_n 1, 1) := by decide +kernel
theorem dX0_nearest_48 : decode cX0_nearest 48 = .ok (.iconst (-1), 1) := by decide +kernel
theorem dX0_nearest_49 : decode cX0_nearest 49 = .ok (.if_icmp .eq 9, 3) := by decide +kernel
theorem dX0_nearest_52 : decode cX0_nearest 52 = .ok (.iload 4, 2) := by decide +kernel
theorem dX0_nearest_54 : decode cX0_nearest 54 = .ok (.iload_n 2, 1) := by decide +kernel
theorem dX0_nearest_55 : decode cX0_nearest 55 = .ok (.if_icmp .ge 8, 3) := by decide +kernel
theorem dX0_nearest_58 : decode cX0_nearest 58 = .ok (.iload_n 3, 1) := by decide +kernel
theorem dX0_nearest_59 : decode cX0_nearest 59 = .ok (.istore_n 1, 1) := by decide +kernel
theorem dX0_nearest_60 : decode cX0_nearest 60 = .ok (.iload 4, 2) := by decide +kernel
theorem dX0_nearest_62 : decode cX0_nearest 62 = .ok (.istore_n 2, 1) := by decide +kernel
theorem dX0_nearest_63 : decode cX0_nearest 63 = .ok (.iinc 3 1, 3) := by decide +kernel
theorem dX0_nearest_66 : decode cX0_nearest 66 = .ok (.goto (-60), 3) := by decide +kernel
theorem dX0_nearest_69 : decode cX0_nearest 69 = .ok (.iload_n 1, 1) := by decide +kernel
theorem dX0_nearest_70 : decode cX0_nearest 70 = .ok (.ireturn, 1) := by decide +kernel
theorem dX0_draw_0 : decode cX0_draw 0 = .ok (.aload_n 0, 1) := by decide +kernel
theorem dX0_draw_1 : decode cX0_draw 1 = .ok (.aload_n 0, 1) := by decide +kernel
theorem dX0_draw_2 : decode cX0_draw 2 = .ok (.getfield 24, 3) := by decide +kernel
theorem dX0_draw_5 : decode cX0_draw 5 = .ok (.ldc 136, 2) := by decide +kernel
theorem dX0_draw_7 : decode cX0_draw 7 = .ok (.imul, 1) := by decide +kernel
theorem dX0_draw_8 : decode cX0_draw 8 = .ok (.sipush 12345, 3) := by decide +kernel
theorem dX0_draw_11 : decode cX0_draw 11 = .ok (.iadd, 1) := by decide +kernel
theorem dX0_draw_12 : decode cX0_draw 12 = .ok (.putfield 24, 3) := by decide +kernel
theorem dX0_draw_15 : decode cX0_draw 15 = .ok (.iload_n 1, 1) := by decide +kernel
theorem dX0_draw_16 : decode cX0_draw 16 = .ok (.iconst 1, 1) := by decide +kernel
theorem dX0_draw_17 : decode cX0_draw 17 = .ok (.if_icmp .ge 7, 3) := by decide +kernel
theorem dX0_draw_20 : decode cX0_draw 20 = .ok (.iconst 0, 1) := by decide +kernel
theorem dX0_draw_21 : decode cX0_draw 21 = .ok (.goto 12, 3) := by decide +kernel
theorem dX0_draw_24 : decode cX0_draw 24 = .ok (.aload_n 0, 1) := by decide +kernel
theorem dX0_draw_25 : decode cX0_draw 25 = .ok (.getfield 24, 3) := by decide +kernel
theorem dX0_draw_28 : decode cX0_draw 28 = .ok (.bipush 16, 2) := by decide +kernel
theorem dX0_draw_30 : decode cX0_draw 30 = .ok (.iushr, 1) := by decide +kernel
theorem dX0_draw_31 : decode cX0_draw 31 = .ok (.iload_n 1, 1) := by decide +kernel
theorem dX0_draw_32 : decode cX0_draw 32 = .ok (.irem, 1) := by decide +kernel
theorem dX0_draw_33 : decode cX0_draw 33 = .ok (.ireturn, 1) := by decide +kernel
theorem dX0_eweBits_0 : decode cX0_eweBits 0 = .ok (.lconst 0, 1) := by decide +kernel
theorem dX0_eweBits_1 : decode cX0_eweBits 1 = .ok (.lstore_n 1, 1) := by decide +kernel
theorem dX0_eweBits_2 : decode cX0_eweBits 2 = .ok (.iconst 0, 1) := by decide +kernel
theorem dX0_eweBits_3 : decode cX0_eweBits 3 = .ok (.istore_n 3, 1) := by decide +kernel
theorem dX0_eweBits_4 : decode cX0_eweBits 4 = .ok (.iload_n 3, 1) := by decide +kernel
theorem dX0_eweBits_5 : decode cX0_eweBits 5 = .ok (.aload_n 0, 1) := by decide +kernel
theorem dX0_eweBits_6 : decode cX0_eweBits 6 = .ok (.getfield 31, 3) := by decide +kernel
theorem dX0_eweBits_9 : decode cX0_eweBits 9 = .ok (.if_icmp .ge 24, 3) := by decide +kernel
theorem dX0_eweBits_12 : decode cX0_eweBits 12 = .ok (.lload_n 1, 1) := by decide +kernel
theorem dX0_eweBits_13 : decode cX0_eweBits 13 = .ok (.aload_n 0, 1) := by decide +kernel
theorem dX0_eweBits_14 : decode cX0_eweBits 14 = .ok (.getfield 44, 3) := by decide +kernel
theorem dX0_eweBits_17 : decode cX0_eweBits 17 = .ok (.getfield 77, 3) := by decide +kernel
theorem dX0_eweBits_20 : decode cX0_eweBits 20 = .ok (.iload_n 3, 1) := by decide +kernel
theorem dX0_eweBits_21 : decode cX0_eweBits 21 = .ok (.iaload, 1) := by decide +kernel
theorem dX0_eweBits_22 : decode cX0_eweBits 22 = .ok (.invokestatic 58, 3) := by decide +kernel
theorem dX0_eweBits_25 : decode cX0_eweBits 25 = .ok (.lor, 1) := by decide +kernel
theorem dX0_eweBits_26 : decode cX0_eweBits 26 = .ok (.lstore_n 1, 1) := by decide +kernel
theorem dX0_eweBits_27 : decode cX0_eweBits 27 = .ok (.iinc 3 1, 3) := by decide +kernel
theorem dX0_eweBits_30 : decode cX0_eweBits 30 = .ok (.goto (-26), 3) := by decide +kernel
theorem dX0_eweBits_33 : decode cX0_eweBits 33 = .ok (.lload_n 1, 1) := by decide +kernel
theorem dX0_eweBits_34 : decode cX0_eweBits 34 = .ok (.lreturn, 1) := by decide +kernel
theorem dX0_dogsGround_0 : decode cX0_dogsGround 0 = .ok (.lconst 0, 1) := by decide +kernel
theorem dX0_dogsGround_1 : decode cX0_dogsGround 1 = .ok (.lstore_n 1, 1) := by decide +kernel
theorem dX0_dogsGround_2 : decode cX0_dogsGround 2 = .ok (.iconst 0, 1) := by decide +kernel
theorem dX0_dogsGround_3 : decode cX0_dogsGround 3 = .ok (.istore_n 3, 1) := by decide +kernel
theorem dX0_dogsGround_4 : decode cX0_dogsGround 4 = .ok (.iload_n 3, 1) := by decide +kernel
theorem dX0_dogsGround_5 : decode cX0_dogsGround 5 = .ok (.bipush 67, 2) := by decide +kernel
theorem dX0_dogsGround_7 : decode cX0_dogsGround 7 = .ok (.if_icmp .ge 24, 3) := by decide +kernel
theorem dX0_dogsGround_10 : decode cX0_dogsGround 10 = .ok (.aload_n 0, 1) := by decide +kernel
theorem dX0_dogsGround_11 : decode cX0_dogsGround 11 = .ok (.iload_n 3, 1) := by decide +kernel
theorem dX0_dogsGround_12 : decode cX0_dogsGround 12 = .ok (.invokevirtual 94, 3) := by decide +kernel
theorem dX0_dogsGround_15 : decode cX0_dogsGround 15 = .ok (.ifCond .eq 10, 3) := by decide +kernel
theorem dX0_dogsGround_18 : decode cX0_dogsGround 18 = .ok (.lload_n 1, 1) := by decide +kernel
theorem dX0_dogsGround_19 : decode cX0_dogsGround 19 = .ok (.iload_n 3, 1) := by decide +kernel
theorem dX0_dogsGround_20 : decode cX0_dogsGround 20 = .ok (.invokestatic 58, 3) := by decide +kernel
theorem dX0_dogsGround_23 : decode cX0_dogsGround 23 = .ok (.lor, 1) := by decide +kernel
theorem dX0_dogsGround_24 : decode cX0_dogsGround 24 = .ok (.lstore_n 1, 1) := by decide +kernel
theorem dX0_dogsGround_25 : decode cX0_dogsGround 25 = .ok (.iinc 3 1, 3) := by decide +kernel
theorem dX0_dogsGround_28 : decode cX0_dogsGround 28 = .ok (.goto (-24), 3) := by decide +kernel
theorem dX0_dogsGround_31 : decode cX0_dogsGround 31 = .ok (.lload_n 1, 1) := by decide +kernel
theorem dX0_dogsGround_32 : decode cX0_dogsGround 32 = .ok (.lreturn, 1) := by decide +kernel
theorem dX0_rowBits_0 : decode cX0_rowBits 0 = .ok (.ldc2_w 137, 3) := by decide +kernel
theorem dX0_rowBits_3 : decode cX0_rowBits 3 = .ok (.bipush 8, 2) := by decide +kernel
theorem dX0_rowBits_5 : decode cX0_rowBits 5 = .ok (.iload_n 0, 1) := by decide +kernel
theorem dX0_rowBits_6 : decode cX0_rowBits 6 = .ok (.imul, 1) := by decide +kernel
theorem dX0_rowBits_7 : decode cX0_rowBits 7 = .ok (.lshl, 1) := by decide +kernel
theorem dX0_rowBits_8 : decode cX0_rowBits 8 = .ok (.lreturn, 1) := by decide +kernel
theorem dX0_columnBits_0 : decode cX0_columnBits 0 = .ok (.ldc2_w 139, 3) := by decide +kernel
theorem dX0_columnBits_3 : decode cX0_columnBits 3 = .ok (.iload_n 0, 1) := by decide +kernel
theorem dX0_columnBits_4 : decode cX0_columnBits 4 = .ok (.lshl, 1) := by decide +kernel
theorem dX0_columnBits_5 : decode cX0_columnBits 5 = .ok (.lreturn, 1) := by decide +kernel
theorem dX0_spread_0 : decode cX0_spread 0 = .ok (.lload_n 0, 1) := by decide +kernel
theorem dX0_spread_1 : decode cX0_spread 1 = .ok (.bipush 8, 2) := by decide +kernel
theorem dX0_spread_3 : decode cX0_spread 3 = .ok (.lshl, 1) := by decide +kernel
theorem dX0_spread_4 : decode cX0_spread 4 = .ok (.lload_n 0, 1) := by decide +kernel
theorem dX0_spread_5 : decode cX0_spread 5 = .ok (.bipush 8, 2) := by decide +kernel
theorem dX0_spread_7 : decode cX0_spread 7 = .ok (.lushr, 1) := by decide +kernel
theorem dX0_spread_8 : decode cX0_spread 8 = .ok (.lor, 1) := by decide +kernel
theorem dX0_spread_9 : decode cX0_spread 9 = .ok (.lload_n 0, 1) := by decide +kernel
theorem dX0_spread_10 : decode cX0_spread 10 = .ok (.iconst 1, 1) := by decide +kernel
theorem dX0_spread_11 : decode cX0_spread 11 = .ok (.lshl, 1) := by decide +kernel
theorem dX0_spread_12 : decode cX0_spread 12 = .ok (.lor, 1) := by decide +kernel
theorem dX0_spread_13 : decode cX0_spread 13 = .ok (.lload_n 0, 1) := by decide +kernel
theorem dX0_spread_14 : decode cX0_spread 14 = .ok (.iconst 1, 1) := by decide +kernel
theorem dX0_spread_15 : decode cX0_spread 15 = .ok (.lushr, 1) := by decide +kernel
theorem dX0_spread_16 : decode cX0_spread 16 = .ok (.lor, 1) := by decide +kernel
theorem dX0_spread_17 : decode cX0_spread 17 = .ok (.lstore 4, 2) := by decide +kernel
theorem dX0_spread_19 : decode cX0_spread 19 = .ok (.lload_n 0, 1) := by decide +kernel
theorem dX0_spread_20 : decode cX0_spread 20 = .ok (.lload 4, 2) := by decide +kernel
theorem dX0_spread_22 : decode cX0_spread 22 = .ok (.lload_n 2, 1) := by decide +kernel
theorem dX0_spread_23 : decode cX0_spread 23 = .ok (.land, 1) := by decide +kernel
theorem dX0_spread_24 : decode cX0_spread 24 = .ok (.lor, 1) := by decide +kernel
theorem dX0_spread_25 : decode cX0_spread 25 = .ok (.lreturn, 1) := by decide +kernel
theorem dJ6_bitCount_0f7a4_0 : decode cJ6_bitCount_0f7a4 0 = .ok (.iload_n 0, 1) := by decide +kernel
theorem dJ6_bitCount_0f7a4_1 : decode cJ6_bitCount_0f7a4 1 = .ok (.iload_n 0, 1) := by decide +kernel
theorem dJ6_bitCount_0f7a4_2 : decode cJ6_bitCount_0f7a4 2 = .ok (.iconst 1, 1) := by decide +kernel
theorem dJ6_bitCount_0f7a4_3 : decode cJ6_bitCount_0f7a4 3 = .ok (.iushr, 1) := by decide +kernel
theorem dJ6_bitCount_0f7a4_4 : decode cJ6_bitCount_0f7a4 4 = .ok (.ldc_w 265, 3) := by decide +kernel
theorem dJ6_bitCount_0f7a4_7 : decode cJ6_bitCount_0f7a4 7 = .ok (.iand, 1) := by decide +kernel
theorem dJ6_bitCount_0f7a4_8 : decode cJ6_bitCount_0f7a4 8 = .ok (.isub, 1) := by decide +kernel
theorem dJ6_bitCount_0f7a4_9 : decode cJ6_bitCount_0f7a4 9 = .ok (.istore_n 0, 1) := by decide +kernel
theorem dJ6_bitCount_0f7a4_10 : decode cJ6_bitCount_0f7a4 10 = .ok (.iload_n 0, 1) := by decide +kernel
theorem dJ6_bitCount_0f7a4_11 : decode cJ6_bitCount_0f7a4 11 = .ok (.ldc_w 266, 3) := by decide +kernel
theorem dJ6_bitCount_0f7a4_14 : decode cJ6_bitCount_0f7a4 14 = .ok (.iand, 1) := by decide +kernel
theorem dJ6_bitCount_0f7a4_15 : decode cJ6_bitCount_0f7a4 15 = .ok (.iload_n 0, 1) := by decide +kernel
theorem dJ6_bitCount_0f7a4_16 : decode cJ6_bitCount_0f7a4 16 = .ok (.iconst 2, 1) := by decide +kernel
theorem dJ6_bitCount_0f7a4_17 : decode cJ6_bitCount_0f7a4 17 = .ok (.iushr, 1) := by decide +kernel
theorem dJ6_bitCount_0f7a4_18 : decode cJ6_bitCount_0f7a4 18 = .ok (.ldc_w 266, 3) := by decide +kernel
theorem dJ6_bitCount_0f7a4_21 : decode cJ6_bitCount_0f7a4 21 = .ok (.iand, 1) := by decide +kernel
theorem dJ6_bitCount_0f7a4_22 : decode cJ6_bitCount_0f7a4 22 = .ok (.iadd, 1) := by decide +kernel
theorem dJ6_bitCount_0f7a4_23 : decode cJ6_bitCount_0f7a4 23 = .ok (.istore_n 0, 1) := by decide +kernel
theorem dJ6_bitCount_0f7a4_24 : decode cJ6_bitCount_0f7a4 24 = .ok (.iload_n 0, 1) := by decide +kernel
theorem dJ6_bitCount_0f7a4_25 : decode cJ6_bitCount_0f7a4 25 = .ok (.iload_n 0, 1) := by decide +kernel
theorem dJ6_bitCount_0f7a4_26 : decode cJ6_bitCount_0f7a4 26 = .ok (.iconst 4, 1) := by decide +kernel
theorem dJ6_bitCount_0f7a4_27 : decode cJ6_bitCount_0f7a4 27 = .ok (.iushr, 1) := by decide +kernel
theorem dJ6_bitCount_0f7a4_28 : decode cJ6_bitCount_0f7a4 28 = .ok (.iadd, 1) := by decide +kernel
theorem dJ6_bitCount_0f7a4_29 : decode cJ6_bitCount_0f7a4 29 = .ok (.ldc_w 267, 3) := by decide +kernel
theorem dJ6_bitCount_0f7a4_32 : decode cJ6_bitCount_0f7a4 32 = .ok (.iand, 1) := by decide +kernel
theorem dJ6_bitCount_0f7a4_33 : decode cJ6_bitCount_0f7a4 33 = .ok (.istore_n 0, 1) := by decide +kernel
theorem dJ6_bitCount_0f7a4_34 : decode cJ6_bitCount_0f7a4 34 = .ok (.iload_n 0, 1) := by decide +kernel
theorem dJ6_bitCount_0f7a4_35 : decode cJ6_bitCount_0f7a4 35 = .ok (.iload_n 0, 1) := by decide +kernel
theorem dJ6_bitCount_0f7a4_36 : decode cJ6_bitCount_0f7a4 36 = .ok (.bipush 8, 2) := by decide +kernel
theorem dJ6_bitCount_0f7a4_38 : decode cJ6_bitCount_0f7a4 38 = .ok (.iushr, 1) := by decide +kernel
theorem dJ6_bitCount_0f7a4_39 : decode cJ6_bitCount_0f7a4 39 = .ok (.iadd, 1) := by decide +kernel
theorem dJ6_bitCount_0f7a4_40 : decode cJ6_bitCount_0f7a4 40 = .ok (.istore_n 0, 1) := by decide +kernel
theorem dJ6_bitCount_0f7a4_41 : decode cJ6_bitCount_0f7a4 41 = .ok (.iload_n 0, 1) := by decide +kernel
theorem dJ6_bitCount_0f7a4_42 : decode cJ6_bitCount_0f7a4 42 = .ok (.iload_n 0, 1) := by decide +kernel
theorem dJ6_bitCount_0f7a4_43 : decode cJ6_bitCount_0f7a4 43 = .ok (.bipush 16, 2) := by decide +kernel
theorem dJ6_bitCount_0f7a4_45 : decode cJ6_bitCount_0f7a4 45 = .ok (.iushr, 1) := by decide +kernel
theorem dJ6_bitCount_0f7a4_46 : decode cJ6_bitCount_0f7a4 46 = .ok (.iadd, 1) := by decide +kernel
theorem dJ6_bitCount_0f7a4_47 : decode cJ6_bitCount_0f7a4 47 = .ok (.istore_n 0, 1) := by decide +kernel
theorem dJ6_bitCount_0f7a4_48 : decode cJ6_bitCount_0f7a4 48 = .ok (.iload_n 0, 1) := by decide +kernel
theorem dJ6_bitCount_0f7a4_49 : decode cJ6_bitCount_0f7a4 49 = .ok (.bipush 63, 2) := by decide +kernel
theorem dJ6_bitCount_0f7a4_51 : decode cJ6_bitCount_0f7a4 51 = .ok (.iand, 1) := by decide +kernel
theorem dJ6_bitCount_0f7a4_52 : decode cJ6_bitCount_0f7a4 52 = .ok (.ireturn, 1) := by decide +kernel
theorem dJ13_bitCount_95d88_0 : decode cJ13_bitCount_95d88 0 = .ok (.lload_n 0, 1) := by decide +kernel
theorem dJ13_bitCount_95d88_1 : decode cJ13_bitCount_95d88 1 = .ok (.lload_n 0, 1) := by decide +kernel
theorem dJ13_bitCount_95d88_2 : decode cJ13_bitCount_95d88 2 = .ok (.iconst 1, 1) := by decide +kernel
theorem dJ13_bitCount_95d88_3 : decode cJ13_bitCount_95d88 3 = .ok (.lushr, 1) := by decide +kernel
theorem dJ13_bitCount_95d88_4 : decode cJ13_bitCount_95d88 4 = .ok (.ldc2_w 314, 3) := by decide +kernel
theorem dJ13_bitCount_95d88_7 : decode cJ13_bitCount_95d88 7 = .ok (.land, 1) := by decide +kernel
theorem dJ13_bitCount_95d88_8 : decode cJ13_bitCount_95d88 8 = .ok (.lsub, 1) := by decide +kernel
theorem dJ13_bitCount_95d88_9 : decode cJ13_bitCount_95d88 9 = .ok (.lstore_n 0, 1) := by decide +kernel
theorem dJ13_bitCount_95d88_10 : decode cJ13_bitCount_95d88 10 = .ok (.lload_n 0, 1) := by decide +kernel
theorem dJ13_bitCount_95d88_11 : decode cJ13_bitCount_95d88 11 = .ok (.ldc2_w 316, 3) := by decide +kernel
theorem dJ13_bitCount_95d88_14 : decode cJ13_bitCount_95d88 14 = .ok (.land, 1) := by decide +kernel
theorem dJ13_bitCount_95d88_15 : decode cJ13_bitCount_95d88 15 = .ok (.lload_n 0, 1) := by decide +kernel
theorem dJ13_bitCount_95d88_16 : decode cJ13_bitCount_95d88 16 = .ok (.iconst 2, 1) := by decide +kernel
theorem dJ13_bitCount_95d88_17 : decode cJ13_bitCount_95d88 17 = .ok (.lushr, 1) := by decide +kernel
theorem dJ13_bitCount_95d88_18 : decode cJ13_bitCount_95d88 18 = .ok (.ldc2_w 316, 3) := by decide +kernel
theorem dJ13_bitCount_95d88_21 : decode cJ13_bitCount_95d88 21 = .ok (.land, 1) := by decide +kernel
theorem dJ13_bitCount_95d88_22 : decode cJ13_bitCount_95d88 22 = .ok (.ladd, 1) := by decide +kernel
theorem dJ13_bitCount_95d88_23 : decode cJ13_bitCount_95d88 23 = .ok (.lstore_n 0, 1) := by decide +kernel
theorem dJ13_bitCount_95d88_24 : decode cJ13_bitCount_95d88 24 = .ok (.lload_n 0, 1) := by decide +kernel
theorem dJ13_bitCount_95d88_25 : decode cJ13_bitCount_95d88 25 = .ok (.lload_n 0, 1) := by decide +kernel
theorem dJ13_bitCount_95d88_26 : decode cJ13_bitCount_95d88 26 = .ok (.iconst 4, 1) := by decide +kernel
theorem dJ13_bitCount_95d88_27 : decode cJ13_bitCount_95d88 27 = .ok (.lushr, 1) := by decide +kernel
theorem dJ13_bitCount_95d88_28 : decode cJ13_bitCount_95d88 28 = .ok (.ladd, 1) := by decide +kernel
theorem dJ13_bitCount_95d88_29 : decode cJ13_bitCount_95d88 29 = .ok (.ldc2_w 318, 3) := by decide +kernel
theorem dJ13_bitCount_95d88_32 : decode cJ13_bitCount_95d88 32 = .ok (.land, 1) := by decide +kernel
theorem dJ13_bitCount_95d88_33 : decode cJ13_bitCount_95d88 33 = .ok (.lstore_n 0, 1) := by decide +kernel
theorem dJ13_bitCount_95d88_34 : decode cJ13_bitCount_95d88 34 = .ok (.lload_n 0, 1) := by decide +kernel
theorem dJ13_bitCount_95d88_35 : decode cJ13_bitCount_95d88 35 = .ok (.lload_n 0, 1) := by decide +kernel
theorem dJ13_bitCount_95d88_36 : decode cJ13_bitCount_95d88 36 = .ok (.bipush 8, 2) := by decide +kernel
theorem dJ13_bitCount_95d88_38 : decode cJ13_bitCount_95d88 38 = .ok (.lushr, 1) := by decide +kernel
theorem dJ13_bitCount_95d88_39 : decode cJ13_bitCount_95d88 39 = .ok (.ladd, 1) := by decide +kernel
theorem dJ13_bitCount_95d88_40 : decode cJ13_bitCount_95d88 40 = .ok (.lstore_n 0, 1) := by decide +kernel
theorem dJ13_bitCount_95d88_41 : decode cJ13_bitCount_95d88 41 = .ok (.lload_n 0, 1) := by decide +kernel
theorem dJ13_bitCount_95d88_42 : decode cJ13_bitCount_95d88 42 = .ok (.lload_n 0, 1) := by decide +kernel
theorem dJ13_bitCount_95d88_43 : decode cJ13_bitCount_95d88 43 = .ok (.bipush 16, 2) := by decide +kernel
theorem dJ13_bitCount_95d88_45 : decode cJ13_bitCount_95d88 45 = .ok (.lushr, 1) := by decide +kernel
theorem dJ13_bitCount_95d88_46 : decode cJ13_bitCount_95d88 46 = .ok (.ladd, 1) := by decide +kernel
theorem dJ13_bitCount_95d88_47 : decode cJ13_bitCount_95d88 47 = .ok (.lstore_n 0, 1) := by decide +kernel
theorem dJ13_bitCount_95d88_48 : decode cJ13_bitCount_95d88 48 = .ok (.lload_n 0, 1) := by decide +kernel
theorem dJ13_bitCount_95d88_49 : decode cJ13_bitCount_95d88 49 = .ok (.lload_n 0, 1) := by decide +kernel
theorem dJ13_bitCount_95d88_50 : decode cJ13_bitCount_95d88 50 = .ok (.bipush 32, 2) := by decide +kernel
theorem dJ13_bitCount_95d88_52 : decode cJ13_bitCount_95d88 52 = .ok (.lushr, 1) := by decide +kernel
theorem dJ13_bitCount_95d88_53 : decode cJ13_bitCount_95d88 53 = .ok (.ladd, 1) := by decide +kernel
theorem dJ13_bitCount_95d88_54 : decode cJ13_bitCount_95d88 54 = .ok (.lstore_n 0, 1) := by decide +kernel
theorem dJ13_bitCount_95d88_55 : decode cJ13_bitCount_95d88 55 = .ok (.lload_n 0, 1) := by decide +kernel
theorem dJ13_bitCount_95d88_56 : decode cJ13_bitCount_95d88 56 = .ok (.l2i, 1) := by decide +kernel
theorem dJ13_bitCount_95d88_57 : decode cJ13_bitCount_95d88 57 = .ok (.bipush 127, 2) := by decide +kernel
theorem dJ13_bitCount_95d88_59 : decode cJ13_bitCount_95d88 59 = .ok (.iand, 1) := by decide +kernel
theorem dJ13_bitCount_95d88_60 : decode cJ13_bitCount_95d88 60 = .ok (.ireturn, 1) := by decide +kernel
theorem dJ9_abs_0f7a4_0 : decode cJ9_abs_0f7a4 0 = .ok (.iload_n 0, 1) := by decide +kernel
theorem dJ9_abs_0f7a4_1 : decode cJ9_abs_0f7a4 1 = .ok (.ifCond .ge 8, 3) := by decide +kernel
theorem dJ9_abs_0f7a4_4 : decode cJ9_abs_0f7a4 4 = .ok (.iload_n 0, 1) := by decide +kernel
theorem dJ9_abs_0f7a4_5 : decode cJ9_abs_0f7a4 5 = .ok (.ineg, 1) := by decide +kernel
theorem dJ9_abs_0f7a4_6 : decode cJ9_abs_0f7a4 6 = .ok (.goto 4, 3) := by decide +kernel
theorem dJ9_abs_0f7a4_9 : decode cJ9_abs_0f7a4 9 = .ok (.iload_n 0, 1) := by decide +kernel
theorem dJ9_abs_0f7a4_10 : decode cJ9_abs_0f7a4 10 = .ok (.ireturn, 1) := by decide +kernel
theorem dJ9_max_7cf53_0 : decode cJ9_max_7cf53 0 = .ok (.iload_n 0, 1) := by decide +kernel
theorem dJ9_max_7cf53_1 : decode cJ9_max_7cf53 1 = .ok (.iload_n 1, 1) := by decide +kernel
theorem dJ9_max_7cf53_2 : decode cJ9_max_7cf53 2 = .ok (.if_icmp .lt 7, 3) := by decide +kernel
theorem dJ9_max_7cf53_5 : decode cJ9_max_7cf53 5 = .ok (.iload_n 0, 1) := by decide +kernel
theorem dJ9_max_7cf53_6 : decode cJ9_max_7cf53 6 = .ok (.goto 4, 3) := by decide +kernel
theorem dJ9_max_7cf53_9 : decode cJ9_max_7cf53 9 = .ok (.iload_n 1, 1) := by decide +kernel
theorem dJ9_max_7cf53_10 : decode cJ9_max_7cf53 10 = .ok (.ireturn, 1) := by decide +kernel
theorem dJ0_length_8abf5_0 : decode cJ0_length_8abf5 0 = .ok (.aload_n 0, 1) := by decide +kernel
theorem dJ0_length_8abf5_1 : decode cJ0_length_8abf5 1 = .ok (.getfield 9, 3) := by decide +kernel
theorem dJ0_length_8abf5_4 : decode cJ0_length_8abf5 4 = .ok (.arraylength, 1) := by decide +kernel
theorem dJ0_length_8abf5_5 : decode cJ0_length_8abf5 5 = .ok (.aload_n 0, 1) := by decide +kernel
theorem dJ0_length_8abf5_6 : decode cJ0_length_8abf5 6 = .ok (.invokevirtual 335, 3) := by decide +kernel
theorem dJ0_length_8abf5_9 : decode cJ0_length_8abf5 9 = .ok (.ishr, 1) := by decide +kernel
theorem dJ0_length_8abf5_10 : decode cJ0_length_8abf5 10 = .ok (.ireturn, 1) := by decide +kernel
theorem dJ0_charAt_5068e_0 : decode cJ0_charAt_5068e 0 = .ok (.aload_n 0, 1) := by decide +kernel
theorem dJ0_charAt_5068e_1 : decode cJ0_charAt_5068e 1 = .ok (.invokevirtual 492, 3) := by decide +kernel
theorem dJ0_charAt_5068e_4 : decode cJ0_charAt_5068e 4 = .ok (.ifCond .eq 12, 3) := by decide +kernel
theorem dJ0_charAt_5068e_7 : decode cJ0_charAt_5068e 7 = .ok (.aload_n 0, 1) := by decide +kernel
theorem dJ0_charAt_5068e_8 : decode cJ0_charAt_5068e 8 = .ok (.getfield 9, 3) := by decide +kernel
theorem dJ0_charAt_5068e_11 : decode cJ0_charAt_5068e 11 = .ok (.iload_n 1, 1) := by decide +kernel
theorem dJ0_charAt_5068e_12 : decode cJ0_charAt_5068e 12 = .ok (.invokestatic 495, 3) := by decide +kernel
theorem dJ0_charAt_5068e_15 : decode cJ0_charAt_5068e 15 = .ok (.ireturn, 1) := by decide +kernel
theorem dJ0_charAt_5068e_16 : decode cJ0_charAt_5068e 16 = .ok (.aload_n 0, 1) := by decide +kernel
theorem dJ0_charAt_5068e_17 : decode cJ0_charAt_5068e 17 = .ok (.getfield 9, 3) := by decide +kernel
theorem dJ0_charAt_5068e_20 : decode cJ0_charAt_5068e 20 = .ok (.iload_n 1, 1) := by decide +kernel
theorem dJ0_charAt_5068e_21 : decode cJ0_charAt_5068e 21 = .ok (.invokestatic 498, 3) := by decide +kernel
theorem dJ0_charAt_5068e_24 : decode cJ0_charAt_5068e 24 = .ok (.ireturn, 1) := by decide +kernel
theorem dJ0_coder_7d493_0 : decode cJ0_coder_7d493 0 = .ok (.getstatic 38, 3) := by decide +kernel
theorem dJ0_coder_7d493_3 : decode cJ0_coder_7d493 3 = .ok (.ifCond .eq 10, 3) := by decide +kernel
theorem dJ0_coder_7d493_6 : decode cJ0_coder_7d493 6 = .ok (.aload_n 0, 1) := by decide +kernel
theorem dJ0_coder_7d493_7 : decode cJ0_coder_7d493 7 = .ok (.getfield 15, 3) := by decide +kernel
theorem dJ0_coder_7d493_10 : decode cJ0_coder_7d493 10 = .ok (.goto 4, 3) := by decide +kernel
theorem dJ0_coder_7d493_13 : decode cJ0_coder_7d493 13 = .ok (.iconst 1, 1) := by decide +kernel
theorem dJ0_coder_7d493_14 : decode cJ0_coder_7d493 14 = .ok (.ireturn, 1) := by decide +kernel
theorem dJ0_isLatin1_aae02_0 : decode cJ0_isLatin1_aae02 0 = .ok (.getstatic 38, 3) := by decide +kernel
theorem dJ0_isLatin1_aae02_3 : decode cJ0_isLatin1_aae02 3 = .ok (.ifCond .eq 14, 3) := by decide +kernel
theorem dJ0_isLatin1_aae02_6 : decode cJ0_isLatin1_aae02 6 = .ok (.aload_n 0, 1) := by decide +kernel
theorem dJ0_isLatin1_aae02_7 : decode cJ0_isLatin1_aae02 7 = .ok (.getfield 15, 3) := by decide +kernel
theorem dJ0_isLatin1_aae02_10 : decode cJ0_isLatin1_aae02 10 = .ok (.ifCond .ne 7, 3) := by decide +kernel
theorem dJ0_isLatin1_aae02_13 : decode cJ0_isLatin1_aae02 13 = .ok (.iconst 1, 1) := by decide +kernel
theorem dJ0_isLatin1_aae02_14 : decode cJ0_isLatin1_aae02 14 = .ok (.goto 4, 3) := by decide +kernel
theorem dJ0_isLatin1_aae02_17 : decode cJ0_isLatin1_aae02 17 = .ok (.iconst 0, 1) := by decide +kernel
theorem dJ0_isLatin1_aae02_18 : decode cJ0_isLatin1_aae02 18 = .ok (.ireturn, 1) := by decide +kernel
theorem dJ0_checkIndex_df160_0 : decode cJ0_checkIndex_df160 0 = .ok (.iload_n 0, 1) := by decide +kernel
theorem dJ0_checkIndex_df160_1 : decode cJ0_checkIndex_df160 1 = .ok (.iload_n 1, 1) := by decide +kernel
theorem dJ0_checkIndex_df160_2 : decode cJ0_checkIndex_df160 2 = .ok (.getstatic 1053, 3) := by decide +kernel
theorem dJ0_checkIndex_df160_5 : decode cJ0_checkIndex_df160 5 = .ok (.invokestatic 1059, 3) := by decide +kernel
theorem dJ0_checkIndex_df160_8 : decode cJ0_checkIndex_df160 8 = .ok (.pop, 1) := by decide +kernel
theorem dJ0_checkIndex_df160_9 : decode cJ0_checkIndex_df160 9 = .ok (.return_, 1) := by decide +kernel
theorem dJ1_charAt_3b067_0 : decode cJ1_charAt_3b067 0 = .ok (.iload_n 1, 1) := by decide +kernel
theorem dJ1_charAt_3b067_1 : decode cJ1_charAt_3b067 1 = .ok (.aload_n 0, 1) := by decide +kernel
theorem dJ1_charAt_3b067_2 : decode cJ1_charAt_3b067 2 = .ok (.arraylength, 1) := by decide +kernel
theorem dJ1_charAt_3b067_3 : decode cJ1_charAt_3b067 3 = .ok (.invokestatic 9, 3) := by decide +kernel
theorem dJ1_charAt_3b067_6 : decode cJ1_charAt_3b067 6 = .ok (.aload_n 0, 1) := by decide +kernel
theorem dJ1_charAt_3b067_7 : decode cJ1_charAt_3b067 7 = .ok (.iload_n 1, 1) := by decide +kernel
theorem dJ1_charAt_3b067_8 : decode cJ1_charAt_3b067 8 = .ok (.baload, 1) := by decide +kernel
theorem dJ1_charAt_3b067_9 : decode cJ1_charAt_3b067 9 = .ok (.sipush 255, 3) := by decide +kernel
theorem dJ1_charAt_3b067_12 : decode cJ1_charAt_3b067 12 = .ok (.iand, 1) := by decide +kernel
theorem dJ1_charAt_3b067_13 : decode cJ1_charAt_3b067 13 = .ok (.i2c, 1) := by decide +kernel
theorem dJ1_charAt_3b067_14 : decode cJ1_charAt_3b067 14 = .ok (.ireturn, 1) := by decide +kernel
theorem dJ2_getChar_3b067_0 : decode cJ2_getChar_3b067 0 = .ok (.getstatic 44, 3) := by decide +kernel
theorem dJ2_getChar_3b067_3 : decode cJ2_getChar_3b067 3 = .ok (.ifCond .ne 25, 3) := by decide +kernel
theorem dJ2_getChar_3b067_6 : decode cJ2_getChar_3b067 6 = .ok (.iload_n 1, 1) := by decide +kernel
theorem dJ2_getChar_3b067_7 : decode cJ2_getChar_3b067 7 = .ok (.ifCond .lt 11, 3) := by decide +kernel
theorem dJ2_getChar_3b067_10 : decode cJ2_getChar_3b067 10 = .ok (.iload_n 1, 1) := by decide +kernel
theorem dJ2_getChar_3b067_11 : decode cJ2_getChar_3b067 11 = .ok (.aload_n 0, 1) := by decide +kernel
theorem dJ2_getChar_3b067_12 : decode cJ2_getChar_3b067 12 = .ok (.invokestatic 48, 3) := by decide +kernel
theorem dJ2_getChar_3b067_15 : decode cJ2_getChar_3b067 15 = .ok (.if_icmp .lt 13, 3) := by decide +kernel
theorem dJ2_getChar_3b067_18 : decode cJ2_getChar_3b067 18 = .ok (.new 52, 3) := by decide +kernel
theorem dJ2_getChar_3b067_21 : decode cJ2_getChar_3b067 21 = .ok (.dup, 1) := by decide +kernel
theorem dJ2_getChar_3b067_22 : decode cJ2_getChar_3b067 22 = .ok (.ldc 54, 2) := by decide +kernel
theorem dJ2_getChar_3b067_24 : decode cJ2_getChar_3b067 24 = .ok (.invokespecial 56, 3) := by decide +kernel
theorem dJ2_getChar_3b067_27 : decode cJ2_getChar_3b067 27 = .ok (.athrow, 1) := by decide +kernel
theorem dJ2_getChar_3b067_28 : decode cJ2_getChar_3b067 28 = .ok (.iload_n 1, 1) := by decide +kernel
theorem dJ2_getChar_3b067_29 : decode cJ2_getChar_3b067 29 = .ok (.iconst 1, 1) := by decide +kernel
theorem dJ2_getChar_3b067_30 : decode cJ2_getChar_3b067 30 = .ok (.ishl, 1) := by decide +kernel
theorem dJ2_getChar_3b067_31 : decode cJ2_getChar_3b067 31 = .ok (.istore_n 1, 1) := by decide +kernel
theorem dJ2_getChar_3b067_32 : decode cJ2_getChar_3b067 32 = .ok (.aload_n 0, 1) := by decide +kernel
theorem dJ2_getChar_3b067_33 : decode cJ2_getChar_3b067 33 = .ok (.iload_n 1, 1) := by decide +kernel
theorem dJ2_getChar_3b067_34 : decode cJ2_getChar_3b067 34 = .ok (.iinc 1 1, 3) := by decide +kernel
theorem dJ2_getChar_3b067_37 : decode cJ2_getChar_3b067 37 = .ok (.baload, 1) := by decide +kernel
theorem dJ2_getChar_3b067_38 : decode cJ2_getChar_3b067 38 = .ok (.sipush 255, 3) := by decide +kernel
theorem dJ2_getChar_3b067_41 : decode cJ2_getChar_3b067 41 = .ok (.iand, 1) := by decide +kernel
theorem dJ2_getChar_3b067_42 : decode cJ2_getChar_3b067 42 = .ok (.getstatic 59, 3) := by decide +kernel
theorem dJ2_getChar_3b067_45 : decode cJ2_getChar_3b067 45 = .ok (.ishl, 1) := by decide +kernel
theorem dJ2_getChar_3b067_46 : decode cJ2_getChar_3b067 46 = .ok (.aload_n 0, 1) := by decide +kernel
theorem dJ2_getChar_3b067_47 : decode cJ2_getChar_3b067 47 = .ok (.iload_n 1, 1) := by decide +kernel
theorem dJ2_getChar_3b067_48 : decode cJ2_getChar_3b067 48 = .ok (.baload, 1) := by decide +kernel
theorem dJ2_getChar_3b067_49 : decode cJ2_getChar_3b067 49 = .ok (.sipush 255, 3) := by decide +kernel
theorem dJ2_getChar_3b067_52 : decode cJ2_getChar_3b067 52 = .ok (.iand, 1) := by decide +kernel
theorem dJ2_getChar_3b067_53 : decode cJ2_getChar_3b067 53 = .ok (.getstatic 63, 3) := by decide +kernel
theorem dJ2_getChar_3b067_56 : decode cJ2_getChar_3b067 56 = .ok (.ishl, 1) := by decide +kernel
theorem dJ2_getChar_3b067_57 : decode cJ2_getChar_3b067 57 = .ok (.ior, 1) := by decide +kernel
theorem dJ2_getChar_3b067_58 : decode cJ2_getChar_3b067 58 = .ok (.i2c, 1) := by decide +kernel
theorem dJ2_getChar_3b067_59 : decode cJ2_getChar_3b067 59 = .ok (.ireturn, 1) := by decide +kernel
theorem dJ2_length_9d52b_0 : decode cJ2_length_9d52b 0 = .ok (.aload_n 0, 1) := by decide +kernel
theorem dJ2_length_9d52b_1 : decode cJ2_length_9d52b 1 = .ok (.arraylength, 1) := by decide +kernel
theorem dJ2_length_9d52b_2 : decode cJ2_length_9d52b 2 = .ok (.iconst 1, 1) := by decide +kernel
theorem dJ2_length_9d52b_3 : decode cJ2_length_9d52b 3 = .ok (.ishr, 1) := by decide +kernel
theorem dJ2_length_9d52b_4 : decode cJ2_length_9d52b 4 = .ok (.ireturn, 1) := by decide +kernel
theorem dJ2_charAt_3b067_0 : decode cJ2_charAt_3b067 0 = .ok (.iload_n 1, 1) := by decide +kernel
theorem dJ2_charAt_3b067_1 : decode cJ2_charAt_3b067 1 = .ok (.aload_n 0, 1) := by decide +kernel
theorem dJ2_charAt_3b067_2 : decode cJ2_charAt_3b067 2 = .ok (.invokestatic 67, 3) := by decide +kernel
theorem dJ2_charAt_3b067_5 : decode cJ2_charAt_3b067 5 = .ok (.aload_n 0, 1) := by decide +kernel
theorem dJ2_charAt_3b067_6 : decode cJ2_charAt_3b067 6 = .ok (.iload_n 1, 1) := by decide +kernel
theorem dJ2_charAt_3b067_7 : decode cJ2_charAt_3b067 7 = .ok (.invokestatic 71, 3) := by decide +kernel
theorem dJ2_charAt_3b067_10 : decode cJ2_charAt_3b067 10 = .ok (.ireturn, 1) := by decide +kernel
theorem dJ2_checkIndex_2214a_0 : decode cJ2_checkIndex_2214a 0 = .ok (.iload_n 0, 1) := by decide +kernel
theorem dJ2_checkIndex_2214a_1 : decode cJ2_checkIndex_2214a 1 = .ok (.aload_n 1, 1) := by decide +kernel
theorem dJ2_checkIndex_2214a_2 : decode cJ2_checkIndex_2214a 2 = .ok (.invokestatic 48, 3) := by decide +kernel
theorem dJ2_checkIndex_2214a_5 : decode cJ2_checkIndex_2214a 5 = .ok (.invokestatic 414, 3) := by decide +kernel
theorem dJ2_checkIndex_2214a_8 : decode cJ2_checkIndex_2214a 8 = .ok (.return_, 1) := by decide +kernel
theorem dJ7_fill_d0a16_0 : decode cJ7_fill_d0a16 0 = .ok (.iconst 0, 1) := by decide +kernel
theorem dJ7_fill_d0a16_1 : decode cJ7_fill_d0a16 1 = .ok (.istore_n 3, 1) := by decide +kernel
theorem dJ7_fill_d0a16_2 : decode cJ7_fill_d0a16 2 = .ok (.aload_n 0, 1) := by decide +kernel
theorem dJ7_fill_d0a16_3 : decode cJ7_fill_d0a16 3 = .ok (.arraylength, 1) := by decide +kernel
theorem dJ7_fill_d0a16_4 : decode cJ7_fill_d0a16 4 = .ok (.istore 4, 2) := by decide +kernel
theorem dJ7_fill_d0a16_6 : decode cJ7_fill_d0a16 6 = .ok (.iload_n 3, 1) := by decide +kernel
theorem dJ7_fill_d0a16_7 : decode cJ7_fill_d0a16 7 = .ok (.iload 4, 2) := by decide +kernel
theorem dJ7_fill_d0a16_9 : decode cJ7_fill_d0a16 9 = .ok (.if_icmp .ge 13, 3) := by decide +kernel
theorem dJ7_fill_d0a16_12 : decode cJ7_fill_d0a16 12 = .ok (.aload_n 0, 1) := by decide +kernel
theorem dJ7_fill_d0a16_13 : decode cJ7_fill_d0a16 13 = .ok (.iload_n 3, 1) := by decide +kernel
theorem dJ7_fill_d0a16_14 : decode cJ7_fill_d0a16 14 = .ok (.lload_n 1, 1) := by decide +kernel
theorem dJ7_fill_d0a16_15 : decode cJ7_fill_d0a16 15 = .ok (.lastore, 1) := by decide +kernel
theorem dJ7_fill_d0a16_16 : decode cJ7_fill_d0a16 16 = .ok (.iinc 3 1, 3) := by decide +kernel
theorem dJ7_fill_d0a16_19 : decode cJ7_fill_d0a16 19 = .ok (.goto (-13), 3) := by decide +kernel
theorem dJ7_fill_d0a16_22 : decode cJ7_fill_d0a16 22 = .ok (.return_, 1) := by decide +kernel
theorem dJ7_fill_53178_0 : decode cJ7_fill_53178 0 = .ok (.iconst 0, 1) := by decide +kernel
theorem dJ7_fill_53178_1 : decode cJ7_fill_53178 1 = .ok (.istore_n 2, 1) := by decide +kernel
theorem dJ7_fill_53178_2 : decode cJ7_fill_53178 2 = .ok (.aload_n 0, 1) := by decide +kernel
theorem dJ7_fill_53178_3 : decode cJ7_fill_53178 3 = .ok (.arraylength, 1) := by decide +kernel
theorem dJ7_fill_53178_4 : decode cJ7_fill_53178 4 = .ok (.istore_n 3, 1) := by decide +kernel
theorem dJ7_fill_53178_5 : decode cJ7_fill_53178 5 = .ok (.iload_n 2, 1) := by decide +kernel
theorem dJ7_fill_53178_6 : decode cJ7_fill_53178 6 = .ok (.iload_n 3, 1) := by decide +kernel
theorem dJ7_fill_53178_7 : decode cJ7_fill_53178 7 = .ok (.if_icmp .ge 13, 3) := by decide +kernel
theorem dJ7_fill_53178_10 : decode cJ7_fill_53178 10 = .ok (.aload_n 0, 1) := by decide +kernel
theorem dJ7_fill_53178_11 : decode cJ7_fill_53178 11 = .ok (.iload_n 2, 1) := by decide +kernel
theorem dJ7_fill_53178_12 : decode cJ7_fill_53178 12 = .ok (.iload_n 1, 1) := by decide +kernel
theorem dJ7_fill_53178_13 : decode cJ7_fill_53178 13 = .ok (.iastore, 1) := by decide +kernel
theorem dJ7_fill_53178_14 : decode cJ7_fill_53178 14 = .ok (.iinc 2 1, 3) := by decide +kernel
theorem dJ7_fill_53178_17 : decode cJ7_fill_53178 17 = .ok (.goto (-12), 3) := by decide +kernel
theorem dJ7_fill_53178_20 : decode cJ7_fill_53178 20 = .ok (.return_, 1) := by decide +kernel
theorem dJ3_checkIndex_8e157_0 : decode cJ3_checkIndex_8e157 0 = .ok (.iload_n 0, 1) := by decide +kernel
theorem dJ3_checkIndex_8e157_1 : decode cJ3_checkIndex_8e157 1 = .ok (.ifCond .lt 8, 3) := by decide +kernel
theorem dJ3_checkIndex_8e157_4 : decode cJ3_checkIndex_8e157 4 = .ok (.iload_n 0, 1) := by decide +kernel
theorem dJ3_checkIndex_8e157_5 : decode cJ3_checkIndex_8e157 5 = .ok (.iload_n 1, 1) := by decide +kernel
theorem dJ3_checkIndex_8e157_6 : decode cJ3_checkIndex_8e157 6 = .ok (.if_icmp .lt 10, 3) := by decide +kernel
theorem dJ3_checkIndex_8e157_9 : decode cJ3_checkIndex_8e157 9 = .ok (.aload_n 2, 1) := by decide +kernel
theorem dJ3_checkIndex_8e157_10 : decode cJ3_checkIndex_8e157 10 = .ok (.iload_n 0, 1) := by decide +kernel
theorem dJ3_checkIndex_8e157_11 : decode cJ3_checkIndex_8e157 11 = .ok (.iload_n 1, 1) := by decide +kernel
theorem dJ3_checkIndex_8e157_12 : decode cJ3_checkIndex_8e157 12 = .ok (.invokestatic 95, 3) := by decide +kernel
theorem dJ3_checkIndex_8e157_15 : decode cJ3_checkIndex_8e157 15 = .ok (.athrow, 1) := by decide +kernel
theorem dJ3_checkIndex_8e157_16 : decode cJ3_checkIndex_8e157 16 = .ok (.iload_n 0, 1) := by decide +kernel
theorem dJ3_checkIndex_8e157_17 : decode cJ3_checkIndex_8e157 17 = .ok (.ireturn, 1) := by decide +kernel
end
section
/-! THE FRAME: one world of numbered cells, a judgement zZ over it, contracts zRuns. -/
abbrev vwCl : List vw_C := [(RX0, TX0, 10), (RX1, TX1, 6), (RX2, TX2, 3), (RX3, TX3, 3), (RX4, TX4, 6), (RX5, TX5, 8), (RX6, TX6, 30)]
/-- launch, where fields lie, the array classes, where the world begins, where the given cells lie -/
abbrev zG : Type := Launch × va_G × (Nat → ClassId) × Nat × (Nat → Nat)
/-- kinds and lengths of the cells; ints; longs; references -/
def iI (z : Int) : Int32 := Int32.ofInt z
theorem iI_toInt {z : Int} (h1 : -2147483648 ≤ z) (h2 : z ≤ 2147483647) : (iI z).toInt = z := Int32.toInt_ofInt_of_le h1 (by omega)
theorem iI_of (x : Int32) : x = iI x.toInt := (Int32.ofInt_toInt x).symm
theorem iI_add (a b : Int) : iI a + iI b = iI (a + b) := (Int32.ofInt_add a b).symm
theorem iI_sub (a b : Int) : iI a - iI b = iI (a - b) := (Int32.ofInt_sub a b).symm
theorem iI_mul (a b : Int) : iI a * iI b = iI (a * b) := (Int32.ofInt_mul a b).symm
theorem iI_neg (a : Int) : -iI a = iI (-a) := (Int32.ofInt_neg a).symm
theorem iI_lt {a b : Int} (ha : -2147483648 ≤ a ∧ a ≤ 2147483647) (hb : -2147483648 ≤ b ∧ b ≤ 2147483647) : iI a < iI b ↔ a < b := by rw [Int32.lt_iff_toInt_lt, iI_toInt ha.1 ha.2, iI_toInt hb.1 hb.2]
theorem iI_le {a b : Int} (ha : -2147483648 ≤ a ∧ a ≤ 2147483647) (hb : -2147483648 ≤ b ∧ b ≤ 2147483647) : iI a ≤ iI b ↔ a ≤ b := by rw [Int32.le_iff_toInt_le, iI_toInt ha.1 ha.2, iI_toInt hb.1 hb.2]
theorem iI_eq {a b : Int} (ha : -2147483648 ≤ a ∧ a ≤ 2147483647) (hb : -2147483648 ≤ b ∧ b ≤ 2147483647) : iI a = iI b ↔ a = b := by rw [← Int32.toInt_inj, iI_toInt ha.1 ha.2, iI_toInt hb.1 hb.2]
theorem iI_nI (n : Nat) : nI n = iI n := rfl
theorem iI_n {z : Int} (h : 0 ≤ z) : iI z = nI z.toNat := by rw [iI_nI, Int.toNat_of_nonneg h]
theorem iI_div {a d : Int} (ha : 0 ≤ a ∧ a ≤ 2147483647) (hd : 0 < d ∧ d ≤ 2147483647) : iI a / iI d = iI (a / d) := by
  obtain ⟨n, rfl⟩ : ∃ n : Nat, a = n := ⟨a.toNat, by omega⟩
  obtain ⟨m, rfl⟩ : ∃ m : Nat, d = m := ⟨d.toNat, by omega⟩
  exact pk_div (a := n) (d := m) (by omega) (by omega) (by omega)
theorem iI_rem {a d : Int} (ha : 0 ≤ a ∧ a ≤ 2147483647) (hd : 0 < d ∧ d ≤ 2147483647) : iI a - iI a / iI d * iI d = iI (a % d) := by
  obtain ⟨n, rfl⟩ : ∃ n : Nat, a = n := ⟨a.toNat, by omega⟩
  obtain ⟨m, rfl⟩ : ∃ m : Nat, d = m := ⟨d.toNat, by omega⟩
  exact pk_rem (a := n) (d := m) (by omega) (by omega) (by omega)
theorem iI_ne0 {d : Int} (hd : 0 < d ∧ d ≤ 2147483647) : ¬ iI d = 0 := by
  rw [show (0 : Int32) = iI 0 from rfl, iI_eq (by omega) (by omega)]
  omega
abbrev zSt : Type := List (Nat × Nat) × (Nat → Nat → Int) × (Nat → Nat → Int64) × (Nat → Nat → Option Nat)
abbrev zl (g : zG) : Launch := g.1
abbrev zD (g : zG) : va_G := g.2.1
abbrev zcy (g : zG) : Nat → ClassId := g.2.2.1
abbrev zbs (g : zG) : Nat := g.2.2.2.1
def za (g : zG) (i : Nat) : Nat := if i < 1000 then zbs g + i else g.2.2.2.2 i
def zv (g : zG) : Value → Value
  | .ref i => .ref (za g i)
  | v => v
def zA (g : zG) : Nat → Prop := fun q => zbs g ≤ q
/-- what the slots of an object of a class hold: 0 an int, 1 a long, 2 a reference -/
def zft : Nat → List Nat
  | 0 => [0, 0, 0, 0, 0, 1, 0, 2, 2, 2]
  | 1 => [2, 2, 2, 0, 2, 2]
  | 2 => [0, 0, 2]
  | 3 => [0, 0, 2]
  | 4 => [2, 0, 2, 0, 0, 0]
  | 5 => [2, 2, 0, 2, 2, 2, 2, 2]
  | 6 => [0, 2, 0, 0, 0, 0, 2, 2, 2, 0, 0, 0, 0, 2, 0, 0, 0, 0, 2, 2, 2, 2, 0, 2, 2, 2, 2, 2, 0, 2]
  | _ => []
def zfv (g : zG) (σ : zSt) (i k : Nat) : Nat → Value
  | 0 => .int (iI (σ.2.1 i k))
  | 1 => .long (σ.2.2.1 i k)
  | _ => va_rf ((σ.2.2.2 i k).map (za g))
def zfs (g : zG) (σ : zSt) (i : Nat) : List Nat → Nat → List Value
  | [], _ => []
  | t :: ts, k => zfv g σ i k t :: zfs g σ i ts (k + 1)
theorem zfs_at (g : zG) (σ : zSt) (i : Nat) : ∀ (ts : List Nat) (k j t : Nat), ts[j]? = some t → (zfs g σ i ts k)[j]? = some (zfv g σ i (k + j) t)
  | [], k, j, t, h => by simp at h
  | u :: ts, k, 0, t, h => by
    simp at h
    subst h
    rfl
  | u :: ts, k, j + 1, t, h => by
    simp only [List.getElem?_cons_succ] at h
    simp only [zfs, List.getElem?_cons_succ]
    rw [zfs_at g σ i ts (k + 1) j t h]
    congr 2
    omega
theorem zfs_len (g : zG) (σ : zSt) (i : Nat) : ∀ (ts : List Nat) (k : Nat), (zfs g σ i ts k).length = ts.length
  | [], _ => rfl
  | _ :: ts, k => by simp [zfs, zfs_len g σ i ts (k + 1)]
theorem zfs_eq {g : zG} {σ σ' : zSt} {i : Nat} : ∀ (ts : List Nat) (k : Nat), (∀ j t, ts[j]? = some t → zfv g σ i (k + j) t = zfv g σ' i (k + j) t) → zfs g σ i ts k = zfs g σ' i ts k
  | [], _, _ => rfl
  | t :: ts, k, h => by
    have h0 := h 0 t rfl
    simp only [Nat.add_zero] at h0
    simp only [zfs, h0]
    exact congrArg _ (zfs_eq ts (k + 1) (fun j u hu => by
      have h2 := h (j + 1) u (by simpa using hu)
      rw [show k + (j + 1) = k + 1 + j by omega] at h2
      exact h2))
/-- one slot is another: the list with that place set -/
theorem zfs_set {g : zG} {σ σ' : zSt} {i k : Nat} {v : Value} (ts : List Nat) (hk : k < ts.length) (hs : ∀ t, ts[k]? = some t → zfv g σ' i k t = v) (ho : ∀ j t, j ≠ k → ts[j]? = some t → zfv g σ' i j t = zfv g σ i j t) : (zfs g σ i ts 0).set k v = zfs g σ' i ts 0 := by
  apply List.ext_getElem?
  intro j
  by_cases hj : j < ts.length
  · have ht : ts[j]? = some ts[j] := List.getElem?_eq_getElem hj
    have h2 := zfs_at g σ' i ts 0 j _ ht
    rw [Nat.zero_add] at h2
    rw [h2]
    by_cases e : j = k
    · subst e
      rw [List.getElem?_set_self (by rw [zfs_len]; exact hk), hs _ ht]
    · rw [List.getElem?_set_ne (Ne.symm e)]
      have h1 := zfs_at g σ i ts 0 j _ ht
      rw [Nat.zero_add] at h1
      rw [h1, ho j _ e ht]
  · rw [List.getElem?_eq_none (by rw [List.length_set, zfs_len]; omega), List.getElem?_eq_none (by rw [zfs_len]; omega)]
/-- what a cell holds, by its kind -/
def zE (g : zG) (σ : zSt) (i : Nat) (kd : Nat × Nat) : va_E :=
  if kd.1 < 7 then .inr (kd.1, zfs g σ i (zft kd.1) 0)
  else if kd.1 = 8 then .inl (zcy g 1, kd.2, .inr (.inl (σ.2.2.1 i)))
  else if kd.1 = 7 then .inl (zcy g 0, kd.2, .inl (fun k => iI (σ.2.1 i k)))
  else if kd.1 = 9 then .inl (zcy g 2, kd.2, .inl (fun k => iI (σ.2.1 i k)))
  else .inl (zcy g (kd.1 - 7), kd.2, .inr (.inr (.inr (.inr (fun k => (σ.2.2.2 i k).map (za g))))))
def zTy (g : zG) : List (ClassId × FieldType) := [(zcy g 0, .int), (zcy g 1, .long), (zcy g 2, .boolean), (zcy g 3, .object RX2), (zcy g 4, .object RX3)]
/-- how many cells the whole world has: while it is built, nothing else is made -/
def zNA : Nat := 74
/-- the world on the heap -/
def zHp (g : zG) (σ : zSt) (H : Heap) : Prop := zbs g + σ.1.length ≤ H.size ∧ (σ.1.length < zNA → H.size = zbs g + σ.1.length) ∧ σ.1.length < 1000 ∧ ∀ i kd, σ.1[i]? = some kd → va_at (zD g) vwCl (za g i, zE g σ i kd) H
theorem za_lt {g : zG} {i : Nat} (h : i < 1000) : za g i = zbs g + i := if_pos h
theorem zHp.ad {g : zG} {σ : zSt} {H : Heap} (h : zHp g σ H) {i : Nat} {kd : Nat × Nat} (hi : σ.1[i]? = some kd) : za g i = zbs g + i ∧ i < 1000 := by
  have h1 := (List.getElem?_eq_some_iff.mp hi).1
  have h2 := h.2.2.1
  exact ⟨za_lt (by omega), by omega⟩
/-- one cell has changed -/
theorem zHp.put {g : zG} {σ σ' : zSt} {H H1 : Heap} (h : zHp g σ H) (h1 : σ'.1 = σ.1) {i : Nat} {kd : Nat × Nat} (hi : σ.1[i]? = some kd) (hz : H1.size = H.size) (ho : ∀ q, q ≠ za g i → H1[q]? = H[q]?) (hc : va_at (zD g) vwCl (za g i, zE g σ' i kd) H1) (hs : ∀ j kj, j ≠ i → zE g σ' j kj = zE g σ j kj) : zHp g σ' H1 := by
  refine ⟨by rw [h1, hz]; exact h.1, fun q => by rw [h1, hz]; exact h.2.1 (by rw [← h1]; exact q), by rw [h1]; exact h.2.2.1, fun j kj hj => ?_⟩
  rw [h1] at hj
  by_cases e : j = i
  · subst e
    cases hj.symm.trans hi
    exact hc
  · rw [hs j kj e]
    refine (h.2.2.2 j kj hj).kept (ho _ ?_)
    rw [(h.ad hj).1, (h.ad hi).1]
    omega
/-- words that say what a nest mate may reach -/
def zNw : List Cond := [.fieldLinkNest RX0 108 RX5 "FEARS" "[I" RX5, .fieldLinkNest RX0 88 RX5 "TIMES" "[I" RX5, .fieldLinkNest RX0 114 RX5 "STARES" "[I" RX5, .fieldLinkNest RX0 91 RX5 "SHIFTS" "[I" RX5, .fieldLinkNest RX1 95 RX5 "SHIFTS" "[I" RX5,
  .methodLinkNest RX0 84 yX5_stepsBetween RX5, .methodLinkNest RX0 58 yX5_bitOf RX5, .methodLinkNest RX4 121 yX5_isKind RX5, .methodLinkNest RX5 194 yX1_bringsAll RX5, .methodLinkNest RX5 204 yX1_seekMost RX5]
/-- static rows of ints: their names and what they hold -/
def zSN : List (String × List Int) := [("SHIFTS", [0, -10, 10, -1, 1]), ("UNDER", [-1, 0, 0, 1, 2, 0]), ("TIMES", [1, 2, 1, 3, 1, 1]), ("FEARS", [3, 3, 3, 5, 3, -1]), ("STARES", [-1, -1, 1, -1, 2, -1])]
/-- the words of a HILL: side 0, wall 1, gap 2, pen 3, dog 4, ewe 5, wind 6 -/
def zTx : List (List Int32) := [[115, 105, 100, 101], [119, 97, 108, 108], [103, 97, 112], [112, 101, 110], [100, 111, 103], [101, 119, 101], [119, 105, 110, 100]]
def zTn : List (String × Nat × String × Nat) := [(RX4, 46, "side", 0), (RX4, 55, "wall", 1), (RX4, 60, "gap", 2), (RX4, 65, "pen", 3), (RX4, 70, "dog", 4), (RX4, 75, "ewe", 5), (RX4, 80, "wind", 6), (RX6, 186, "side", 0), (RX6, 192, "ewe", 5), (RX6, 197, "wind", 6), (RX6, 198, "wall", 1), (RX6, 200, "gap", 2), (RX6, 202, "pen", 3), (RX6, 203, "dog", 4)]
def zLen (i : Nat) : Nat := (zTx.getD i []).length
def zSta (g : zG) (U : State) (H : Heap) : Prop := ∀ k q, zSN[k]? = some q → va_Z RX5 q.1 "[I" (.ref (za g (1000 + k))) (zA g) U H ∧ va_T .int (za g (1000 + k)) q.2.length (fun j => .int (iI (q.2.getD j 0))) (zA g) U H
def zStr (g : zG) (U : State) (H : Heap) : Prop := (∀ q ∈ zTn, vk_R q.1 q.2.1 q.2.2.1 (za g (1010 + q.2.2.2)) U) ∧ vk_S 7 (zTx.map List.length) zTx (fun i => za g (1010 + i)) (fun i => za g (1020 + i)) (zA g) U H ∧ va_Z "java/lang/String" "COMPACT_STRINGS" "Z" (.int 1) (zA g) U H
/-- what is given and stays -/
def zF (g : zG) (U : State) (H : Heap) : Prop := va_K (zD g) vwCl (zTy g) U ∧ (∀ w ∈ zNw, va_Nw w U) ∧ zSta g U H ∧ zStr g U H
theorem zNw_warm {s U : State} (hW : s.WarmedH U.vm) (h : ∀ w ∈ zNw, va_Nw w s) : ∀ w ∈ zNw, va_Nw w U := by
  intro w hw
  have h1 := h w hw
  simp only [zNw, List.mem_cons, List.not_mem_nil, or_false] at hw
  rcases hw with rfl | rfl | rfl | rfl | rfl | rfl | rfl | rfl | rfl | rfl
  all_goals first | exact va_Nw.warmF hW h1 | exact va_Nw.warmM hW h1
theorem zF.moved {g : zG} {s U : State} {H : Heap} (hW : s.WarmedH U.vm) (h : zF g s H) : zF g U H :=
  ⟨va_K.moved hW.alike h.1, zNw_warm hW h.2.1, fun k q hq => ⟨va_Z.moved hW.alike (h.2.2.1 k q hq).1, va_T.moved hW.alike (h.2.2.1 k q hq).2⟩, fun q hq => vk_R.warm hW (h.2.2.2.1 q hq), vk_S.moved hW.alike h.2.2.2.2.1, va_Z.moved hW.alike h.2.2.2.2.2⟩
theorem zF.kept {g : zG} {U : State} {H H1 : Heap} (h : zF g U H) (hq : ∀ a : Nat, a < H.size → ¬ zA g a → H1[a]? = H[a]?) : zF g U H1 :=
  ⟨h.1, h.2.1, fun k q hk => ⟨va_Z.kept (h.2.2.1 k q hk).1 hq, va_T.kept (h.2.2.1 k q hk).2 hq⟩, h.2.2.2.1, vk_S.kept h.2.2.2.2.1 hq, va_Z.kept h.2.2.2.2.2 hq⟩
/-- a frame blind state -/
theorem zF.calling {g : zG} {U : State} {H : Heap} (f : JFrame) (mk : MethodId) (a : Array Value) (h : zF g U H) : zF g (U.calling f mk a) H :=
  ⟨va_K.moved (u := U) (U := U.calling f mk a) (Vm.Alike.refl U.vm) h.1, fun w hw => by
    have h1 := h.2.1 w hw
    have ht : w.onTables = true := by
      simp only [zNw, List.mem_cons, List.not_mem_nil, or_false] at hw
      rcases hw with rfl | rfl | rfl | rfl | rfl | rfl | rfl | rfl | rfl | rfl <;> rfl
    exact va_Nw.same (u := U) (U := U.calling f mk a) ht rfl h1, fun k q hk => ⟨va_Z.moved (u := U) (U := U.calling f mk a) (Vm.Alike.refl U.vm) (h.2.2.1 k q hk).1, va_T.moved (u := U) (U := U.calling f mk a) (Vm.Alike.refl U.vm) (h.2.2.1 k q hk).2⟩, fun q hq => vk_R.same (u := U) (U := U.calling f mk a) rfl (h.2.2.2.1 q hq), vk_S.moved (u := U) (U := U.calling f mk a) (Vm.Alike.refl U.vm) h.2.2.2.2.1, va_Z.moved (u := U) (U := U.calling f mk a) (Vm.Alike.refl U.vm) h.2.2.2.2.2⟩
end
section
/-! what a walk stands in -/
abbrev zX : Type := Program × Env × Room × State × MethodId × Array Value × List Frame × Method × Code × (State → Prop)
abbrev xp (X : zX) : Program := X.1
abbrev xe (X : zX) : Env := X.2.1
abbrev xR (X : zX) : Room := X.2.2.1
abbrev xs (X : zX) : State := X.2.2.2.1
abbrev xm (X : zX) : MethodId := X.2.2.2.2.1
abbrev xa (X : zX) : Array Value := X.2.2.2.2.2.1
abbrev xb (X : zX) : List Frame := X.2.2.2.2.2.2.1
abbrev xh (X : zX) : Method := X.2.2.2.2.2.2.2.1
abbrev xc (X : zX) : Code := X.2.2.2.2.2.2.2.2.1
abbrev xQ (X : zX) : State → Prop := X.2.2.2.2.2.2.2.2.2
/-- a method: name, bytes, locals, type of the answer -/
abbrev zM : Type := MethodName × ByteArray × Nat × Option FieldType
def zTb : List Cond := lw_tbl.filter goodWord
theorem zTb_of {w : Cond} (h : w ∈ lw_tbl) (hg : goodWord w = true) : w ∈ zTb := List.mem_filter.mpr ⟨h, hg⟩
def zws (M : zM) : List Cond := .code M.1 M.2.1 M.2.2.1 M.2.2.2 :: zTb
def zC (g : zG) (X : zX) (M : zM) (d mc ms : Nat) : Prop :=
  (xp X).tables.exec = Jvm.exec ∧ (xc X).code = M.2.1 ∧ (xc X).maxLocals = M.2.2.1 ∧ (xs X).vm.findClass M.1.cls = some (xm X).cls ∧ (∀ w ∈ zTb, w.before (xa X) (xs X) = true) ∧
  (xh X).sig.returnType = M.2.2.2 ∧ (xh X).locks = false ∧ (d ≤ (xR X).frames ∧ 64 * d ≤ (xR X).locals) ∧ (mc ≤ (xR X).cells ∧ ms ≤ (xR X).slots) ∧ zF g (xs X) (xs X).heap ∧ zbs g ≤ (xs X).heap.size ∧ ((xh X).name = M.1.name)
def zLm (g : zG) (L : List (Nat × Value)) : List (Nat × Value) := L.map (fun q => (q.1, zv g q.2))
/-- from here the walk comes to its end -/
def zZ (g : zG) (X : zX) (nc ns : Nat) (σ : zSt) (pc : Nat) (L : List (Nat × Value)) (S : List Value) : Prop :=
  ∀ (H : Heap) (locs : List Loc) (ls : Array Slot), zHp g σ H → va_S (zA g) (xs X).heap H locs → lv_has ls (xc X).maxLocals (zLm g L) →
    W (xp X) (zl g) (xe X) (xR X) (xs X) (xm X) (xa X) (xb X) (xh X) (xc X) H locs nc ns (xQ X) (F0 (xm X) pc ls (S.map (zv g)))
theorem zv_cat (g : zG) (v : Value) : (zv g v).category = v.category := by cases v <;> rfl
theorem zLm_args (g : zG) : ∀ (vs : List Value) (i : Nat), lv_args i (vs.map (zv g)) = zLm g (lv_args i vs)
  | [], _ => rfl
  | v :: vs, i => by
    simp only [List.map_cons, lv_args, zLm, zv_cat]
    rw [zLm_args g vs]
    rfl
theorem zLm_filter (g : zG) (L : List (Nat × Value)) (f : Nat → Nat → Bool) : (zLm g L).filter (fun q => f q.1 q.2.category) = zLm g (L.filter (fun q => f q.1 q.2.category)) := by
  simp only [zLm, List.filter_map]
  congr 2
  funext q
  simp [zv_cat]
/-- storing a value of one slot, of two -/
def zput1 (i : Nat) (v : Value) (L : List (Nat × Value)) : List (Nat × Value) := (i, v) :: L.filter (fun q => !(q.1 == i) && !(q.1 + 1 == i && q.2.category == 2))
def zput2 (i : Nat) (v : Value) (L : List (Nat × Value)) : List (Nat × Value) := (i, v) :: L.filter (fun q => !(q.1 == i) && (!(q.1 == i + 1) && !(q.1 + 1 == i && q.2.category == 2)))
theorem zput1_m (g : zG) (i : Nat) (v : Value) (L : List (Nat × Value)) : (i, zv g v) :: (zLm g L).filter (fun q => !(q.1 == i) && !(q.1 + 1 == i && q.2.category == 2)) = zLm g (zput1 i v L) := by
  rw [zLm_filter g L (fun a c => !(a == i) && !(a + 1 == i && c == 2))]
  rfl
theorem zput2_m (g : zG) (i : Nat) (v : Value) (L : List (Nat × Value)) : (i, zv g v) :: (zLm g L).filter (fun q => !(q.1 == i) && (!(q.1 == i + 1) && !(q.1 + 1 == i && q.2.category == 2))) = zLm g (zput2 i v L) := by
  rw [zLm_filter g L (fun a c => !(a == i) && (!(a == i + 1) && !(a + 1 == i && c == 2)))]
  rfl
theorem zL_at {g : zG} {ls : Array Slot} {n : Nat} {L : List (Nat × Value)} (h : lv_has ls n (zLm g L)) (k : Nat) {i : Nat} {v : Value} (hk : L[k]? = some (i, v)) : ls[i]? = some (.val (zv g v)) :=
  lv_at h k (by simp [zLm, hk])
theorem zL_sub {g : zG} {ls : Array Slot} {n : Nat} {L L' : List (Nat × Value)} (h : lv_has ls n (zLm g L)) (ks : List Nat) (hl : lv_pick L ks = L') : lv_has ls n (zLm g L') := by
  refine lv_sub h ks ?_
  subst hl
  simp only [lv_pick, zLm, List.map_filterMap]
  congr 1
  funext k
  simp
/-- fewer locals are known behind -/
theorem zZ_sub {g : zG} {X : zX} {nc ns : Nat} {σ : zSt} {pc : Nat} {L L' : List (Nat × Value)} {S : List Value} (ks : List Nat) (hl : lv_pick L ks = L') (k : zZ g X nc ns σ pc L' S) : zZ g X nc ns σ pc L S :=
  fun H locs ls hH hS h => k H locs ls hH hS (zL_sub h ks hl)
theorem zZ_cast {g : zG} {X : zX} {nc ns : Nat} {σ σ' : zSt} {pc : Nat} {L L' : List (Nat × Value)} {S S' : List Value} (hσ : σ = σ') (hL : L = L') (hS : S = S') (k : zZ g X nc ns σ' pc L' S') : zZ g X nc ns σ pc L S := by
  subst hσ; subst hL; subst hS; exact k
/-- contracts -/
def zQc (g : zG) (post : Option Value → zSt → Prop) : Array Value → State → Outcome → State → Prop := fun _ st oc t => (∃ (r : Option Value) (σ' : zSt), oc = .returned (r.map (zv g)) ∧ post r σ' ∧ zHp g σ' t.heap) ∧ va_F (zA g) st t
def zRm (d mc ms : Nat) : Room := { frames := d, cells := mc, slots := ms, locals := 64 * d }
def zRuns (g : zG) (M : zM) (d mc ms : Nat) (as : List Value) (σ : zSt) (post : Option Value → zSt → Prop) : Prop :=
  Met (zl g) M.1 (zws M) (zRm d mc ms) (va_Pc (as.map (zv g)) (fun U => zHp g σ U.heap ∧ zF g U U.heap)) (zQc g post) mc ms (zA g)
def zIs (r : Option Value) (σ : zSt) : Option Value → zSt → Prop := fun r1 σ1 => r1 = r ∧ σ1 = σ
abbrev zRun (g : zG) (M : zM) (d : Nat) (as : List Value) (σ : zSt) (r : Option Value) (σ' : zSt) : Prop := zRuns g M d 0 0 as σ (zIs r σ')
/-- where a walk of a contract ends -/
def zR (g : zG) (X : zX) (mc ms : Nat) (post : Option Value → zSt → Prop) : Prop := xQ X = MQ (xb X) (zQc g post) (xa X) (xs X) mc ms (zA g)
theorem zRuns_intro {g : zG} {M : zM} {d mc ms : Nat} {as : List Value} {σ : zSt} {post : Option Value → zSt → Prop} (hy : plainName M.1.cls = true) (hl : (lg_sl as).length ≤ M.2.2.1)
    (h : ∀ X : zX, zC g X M d mc ms → zR g X mc ms post → zZ g X 0 0 σ 0 (lv_args 0 as) []) : zRuns g M d mc ms as σ post := by
  refine Met.ofW (cc := M.2.1) (maxL := M.2.2.1) (ret := M.2.2.2) hy rfl ?_
  intro p e s m args below meth c s₁ B hml hv
  obtain ⟨rfl, hH, hF⟩ := hv
  have hts := atoms_spec (ws := zws M) B.pre
  have hX := h (p, e, zRm d mc ms, s, m, (as.map (zv g)).toArray, below, meth, c, MQ below (zQc g post) (as.map (zv g)).toArray s mc ms (zA g))
    ⟨B.exec, B.bytes, hml, findClass_of_methodNamed B.named, fun w hw => hts w (List.mem_cons_of_mem _ hw), B.returns, B.notSynchronized, ⟨Nat.le_refl _, Nat.le_refl _⟩, ⟨Nat.le_refl _, Nat.le_refl _⟩, hF, by show zbs g ≤ s.heap.size; exact Nat.le_trans (Nat.le_add_right _ _) hH.1, (name_of_methodNamed B.named B.method).1⟩ rfl
  have hlen : (lg_sl (as.map (zv g))).length ≤ M.2.2.1 := by
    have e : ∀ vs : List Value, (lg_sl (vs.map (zv g))).length = (lg_sl vs).length := by
      intro vs
      induction vs with
      | nil => rfl
      | cons v vs ih =>
        simp only [lg_sl, List.map_cons, List.flatMap_cons, List.length_append, zv_cat] at ih ⊢
        rw [ih]
        split <;> rfl
    rw [e]; exact hl
  have hls := lv_entry (as.map (zv g)) (n := M.2.2.1) hlen
  rw [lg_entry_eq]
  rw [zLm_args] at hls
  exact hX s.heap [] _ hH va_S.rf (by show lv_has _ c.maxLocals _; rw [hml]; exact hls)
section ZR
variable {g : zG} {X : zX} {M : zM} {d mc ms nc ns : Nat} {σ : zSt} {pc : Nat} {L : List (Nat × Value)} {S : List Value} {post : Option Value → zSt → Prop}
theorem zq_of {v : Option Value} {H : Heap} {locs : List Loc} (hp : post v σ) (hH : zHp g σ H) (hS : va_S (zA g) (xs X).heap H locs) : ∀ t : State, t.heap = H → (xs X).WarmedH t.vm → zQc g post (xa X) (xs X) (.returned (v.map (zv g))) t :=
  fun t ht _ => ⟨⟨v, σ, rfl, hp, by rw [ht]; exact hH⟩, hS.F ht⟩
theorem zZ_iret (C : zC g X M d mc ms) (hR : zR g X mc ms post) {v : Int32} (hc : nc ≤ mc) (hs : ns ≤ ms) (hd : decode M.2.1 pc = .ok (.ireturn, 1)) (ht : M.2.2.2 = some .int) (hp : post (some (.int v)) σ) : zZ g X nc ns σ pc L [.int v] := by
  intro H locs ls hH hS hl
  refine W.widen hc hs ?_
  rw [hR]
  exact W.iret (v := v) C.1 C.2.1 (C.2.2.2.2.2.1.trans ht) (zq_of (v := some (.int v)) hp hH hS) hS.2.2 hd C.2.2.2.2.2.2.1
theorem zb_nar {v : Int32} (h : v = 0 ∨ v = 1) : narrow .boolean (.int v) = .int v := by rcases h with rfl | rfl <;> decide
theorem zZ_zret (C : zC g X M d mc ms) (hR : zR g X mc ms post) {v : Int32} (hc : nc ≤ mc) (hs : ns ≤ ms) (hd : decode M.2.1 pc = .ok (.ireturn, 1)) (ht : M.2.2.2 = some .boolean) (hv : v = 0 ∨ v = 1) (hp : post (some (.int v)) σ) : zZ g X nc ns σ pc L [.int v] := by
  intro H locs ls hH hS hl
  refine W.widen hc hs ?_
  rw [hR]
  exact W.zret (v := v) C.1 C.2.1 (C.2.2.2.2.2.1.trans ht) (zb_nar hv) (zq_of (v := some (.int v)) hp hH hS) hS.2.2 hd C.2.2.2.2.2.2.1
theorem zZ_nret (C : zC g X M d mc ms) (hR : zR g X mc ms post) {v : Int32} {ty : FieldType} (hc : nc ≤ mc) (hs : ns ≤ ms) (hd : decode M.2.1 pc = .ok (.ireturn, 1)) (ht : M.2.2.2 = some ty) (hv : narrow ty (.int v) = .int v) (hp : post (some (.int v)) σ) : zZ g X nc ns σ pc L [.int v] := by
  intro H locs ls hH hS hl
  refine W.widen hc hs ?_
  rw [hR]
  exact W.zret (v := v) C.1 C.2.1 (C.2.2.2.2.2.1.trans ht) hv (zq_of (v := some (.int v)) hp hH hS) hS.2.2 hd C.2.2.2.2.2.2.1
theorem zZ_lret (C : zC g X M d mc ms) (hR : zR g X mc ms post) {v : Int64} (hc : nc ≤ mc) (hs : ns ≤ ms) (hd : decode M.2.1 pc = .ok (.lreturn, 1)) (ht : M.2.2.2 = some .long) (hp : post (some (.long v)) σ) : zZ g X nc ns σ pc L [.long v] := by
  intro H locs ls hH hS hl
  refine W.widen hc hs ?_
  rw [hR]
  exact W.lret (v := v) C.1 C.2.1 (C.2.2.2.2.2.1.trans ht) (zq_of (v := some (.long v)) hp hH hS) hS.2.2 hd C.2.2.2.2.2.2.1
theorem zZ_vret (C : zC g X M d mc ms) (hR : zR g X mc ms post) (hc : nc ≤ mc) (hs : ns ≤ ms) (hd : decode M.2.1 pc = .ok (.return_, 1)) (ht : M.2.2.2 = none) (hp : post none σ) : zZ g X nc ns σ pc L [] := by
  intro H locs ls hH hS hl
  refine W.widen hc hs ?_
  rw [hR]
  exact W.vret C.1 C.2.1 (C.2.2.2.2.2.1.trans ht) (zq_of (v := none) hp hH hS) hS.2.2 hd C.2.2.2.2.2.2.1
/-! calls -/
theorem zGood (M M' : zM) (h : Cond.code M'.1 M'.2.1 M'.2.2.1 M'.2.2.2 ∈ zTb) : GoodIn zTb (zws M') := by
  intro w hw
  have h2 : w ∈ zTb := by
    rcases List.mem_cons.mp hw with rfl | h1
    · exact h
    · exact h1
  exact ⟨h2, good_of_word (List.mem_filter.mp h2).2⟩
theorem zF.at (C : zC g X M d mc ms) {H : Heap} {locs : List Loc} (hS : va_S (zA g) (xs X).heap H locs) {U : State} (hU : U.heap = H) (hW : (xs X).WarmedH U.vm) : zF g U U.heap := by
  rw [hU]
  exact zF.moved hW (zF.kept C.2.2.2.2.2.2.2.2.2.1 (fun a h1 h2 => hS.2.1 a h1 h2))
variable {M' : zM} {d' mc' ms' : Nat} {as : List Value} {post' : Option Value → zSt → Prop}
theorem zcall {H : Heap} {locs : List Loc} {ls : Array Slot} {st0 : List Value} {a : Array Value} (hr : va_Run (xp X) (zl g) (xe X) (xR X) (xs X) (xm X) (xa X) (xb X) (xh X) (xc X) H locs nc ns mc' ms' (F0 (xm X) pc ls st0) (S.map (zv g)) (zQc g post' a) (zA g)) (hS : va_S (zA g) (xs X).heap H locs) (hl : lv_has ls (xc X).maxLocals (zLm g L))
    (kk : ∀ r σ', post' r σ' → zZ g X (nc + mc') (ns + ms') σ' (pc + 3) L (r.toList ++ S)) : W (xp X) (zl g) (xe X) (xR X) (xs X) (xm X) (xa X) (xb X) (xh X) (xc X) H locs nc ns (xQ X) (F0 (xm X) pc ls st0) := by
  intro T hT X0
  obtain ⟨v, st₀, t, T', Lc, h0, X', hL, e1, e2, ⟨⟨r, σ', hv, hp, hH'⟩, hz, hk⟩, st⟩ := hr T hT X0
  cases hv
  rw [h0] at hz hk
  have hq := kk r σ' hp T'.heap (locs ++ Lc) ls (by rw [e1]; exact hH') ⟨Nat.le_trans hS.1 (by rw [e1]; exact hz), fun q h1 h2 => by rw [e1, hk q (Nat.lt_of_lt_of_le h1 hS.1) h2]; exact hS.2.1 q h1 h2, fun q hq => by
      rcases List.mem_append.mp hq with h | h
      · exact hS.2.2 q h
      · exact hL q h⟩ hl
  have e : (r.toList ++ S).map (zv g) = (r.map (zv g)).toList ++ S.map (zv g) := by cases r <;> simp
  rw [e] at hq
  obtain ⟨t2, a1, b1⟩ := hq T' rfl X'
  exact ⟨t2, st t2 a1, b1⟩
theorem zFB : FrameBlind (va_Pc (as.map (zv g)) (fun U => zHp g σ U.heap ∧ zF g U U.heap)) := fun a U f mk q => ⟨q.1, q.2.1, zF.calling f mk a q.2.2⟩
theorem zcat (S : List Value) : ((S.map (zv g)).map fun v => v.category) = S.map fun v => v.category := by
  rw [List.map_map]
  congr 1
  funext v
  exact zv_cat g v
/-- what is said of a callee once: its code is among the words; it is initialised; how many values it takes -/
def zOk (M' : zM) (n : Nat) : Prop := Cond.code M'.1 M'.2.1 M'.2.2.1 M'.2.2.2 ∈ zTb ∧ Cond.initialized M'.1.cls ∈ zTb ∧ (M'.1.cls ≠ "java/lang/invoke/MethodHandle" ∧ M'.1.cls ≠ "java/lang/invoke/VarHandle" ∧ (parseMethodDescriptor M'.1.desc).map (fun q => q.parameters.length) = some n) ∧ M'.2.2.1 ≤ 40
/-- the room at a call -/
theorem zroom (C : zC g X M d mc ms) (hd' : d' + 1 ≤ d) (hm : M'.2.2.1 ≤ 40) : (zRm d' mc' ms').frames + 1 ≤ (xR X).frames ∧ 8 + (M'.2.2.1 + 11) + (zRm d' mc' ms').locals ≤ (xR X).locals := by
  have h1 := C.2.2.2.2.2.2.2.1
  simp only [zRm]
  omega
theorem zZ_callS {n : Nat} (C : zC g X M d mc ms) (ok : zOk M' n) (hst : Cond.static M'.1 ∈ zTb) {idx : Nat} (hlk : Cond.methodLink M.1.cls idx M'.1 ∈ zTb) (hR : zRuns g M' d' mc' ms' as σ post') (hn : as.length = n) (hd' : d' + 1 ≤ d) (hc : nc + mc' ≤ mc) (hs : ns + ms' ≤ ms) (hw : (S.map fun v => v.category).sum ≤ 8)
    (hd : decode M.2.1 pc = .ok (.invokestatic idx, 3)) (kk : ∀ r σ', post' r σ' → zZ g X (nc + mc') (ns + ms') σ' (pc + 3) L (r.toList ++ S)) : zZ g X nc ns σ pc L (as.reverse ++ S) := by
  intro H locs ls hH hS hl
  obtain ⟨o1, o2, o3, o4⟩ := ok
  have hts := C.2.2.2.2.1
  have cw := callB_of (R := xR X) (own := M.1.cls) (index := idx) (mc := mc') (ms := ms') n hts (zGood M M' o1) rfl rfl rfl (hts _ o2) (hts _ hlk) o3 (zroom C hd' o4)
  have hrun := va_runS (rest := S.map (zv g)) (g := F0 (xm X) pc ls ((as.map (zv g)).reverse ++ S.map (zv g))) (cells := nc) (slots := ns) (below := xb X) (meth := xh X) (e := xe X) (H := H) (locs := locs) ⟨C.1, C.2.1, C.2.2.1, C.2.2.2.1, hts⟩ hR ⟨cw, hts _ hst⟩ ⟨zFB, fun U hU hW => ⟨rfl, by rw [hU]; exact hH, zF.at C hS hU hW⟩⟩ rfl ((List.length_map _).trans hn) (hl.1.trans C.2.2.1) rfl (by show 2 * 0 + _ ≤ 8; rw [zcat]; omega) hd ⟨Nat.le_trans hc C.2.2.2.2.2.2.2.2.1.1, Nat.le_trans hs C.2.2.2.2.2.2.2.2.1.2⟩
  rw [List.map_append, List.map_reverse]
  exact zcall hrun hS hl kk
theorem zrecv {H : Heap} (hK : va_K (zD g) vwCl (zTy g) (xs X)) (hH : zHp g σ H) {i ci n : Nat} (hi : σ.1[i]? = some (ci, n)) (hlt : ci < 7) {q : vw_C} (hc : vwCl[ci]? = some q) : ∃ cell : Cell, H[za g i]? = some cell ∧ cell.vm.isStatics = false ∧ (xs X).vm.findClass q.1 = some cell.cls := by
  have h1 := hH.2.2.2 i _ hi
  simp only [zE, hlt, if_true] at h1
  obtain ⟨q', h2, cell, g1, g2, g3, -⟩ := h1
  exact ⟨cell, g1, by rw [g3]; rfl, by rw [g2]; exact (hK.1 ci q hc).2.1⟩
theorem zZ_callV {n i ci k : Nat} {q : vw_C} (C : zC g X M d mc ms) (ok : zOk M' n) (hst : Cond.instanceMethod M'.1 ∈ zTb) (hse : Cond.selects M'.1.cls M'.1 M'.1 ∈ zTb) {idx : Nat} (hlk : Cond.methodLink M.1.cls idx M'.1 ∈ zTb) (hi : σ.1[i]? = some (ci, k)) (hlt : ci < 7) (hq : vwCl[ci]? = some q) (hcl : q.1 = M'.1.cls) (hR : zRuns g M' d' mc' ms' (.ref i :: as) σ post') (hn : as.length = n) (hd' : d' + 1 ≤ d) (hc : nc + mc' ≤ mc) (hs : ns + ms' ≤ ms) (hw : (S.map fun v => v.category).sum ≤ 8)
    (hd : decode M.2.1 pc = .ok (.invokevirtual idx, 3)) (kk : ∀ r σ', post' r σ' → zZ g X (nc + mc') (ns + ms') σ' (pc + 3) L (r.toList ++ S)) : zZ g X nc ns σ pc L (as.reverse ++ .ref i :: S) := by
  intro H locs ls hH hS hl
  obtain ⟨o1, o2, o3, o4⟩ := ok
  have hts := C.2.2.2.2.1
  have cw := callB_of (R := xR X) (own := M.1.cls) (index := idx) (mc := mc') (ms := ms') n hts (zGood M M' o1) rfl rfl rfl (hts _ o2) (hts _ hlk) o3 (zroom C hd' o4)
  have hrun := va_runV (C := M'.1.cls) (b := za g i) (As := as.map (zv g)) (rest := S.map (zv g)) (g := F0 (xm X) pc ls ((as.map (zv g)).reverse ++ .ref (za g i) :: S.map (zv g))) (cells := nc) (slots := ns) (below := xb X) (meth := xh X) (e := xe X) (H := H) (locs := locs) ⟨C.1, C.2.1, C.2.2.1, C.2.2.2.1, hts⟩ hR ⟨cw, hts _ hst, hts _ hse⟩ ⟨zFB, by rw [← hcl]; exact zrecv C.2.2.2.2.2.2.2.2.2.1.1 hH hi hlt hq, fun U hU hW => ⟨rfl, by rw [hU]; exact hH, zF.at C hS hU hW⟩⟩ rfl ((List.length_map _).trans hn) (hl.1.trans C.2.2.1) rfl (by show 2 * 0 + _ ≤ 8; rw [zcat]; omega) hd ⟨Nat.le_trans hc C.2.2.2.2.2.2.2.2.1.1, Nat.le_trans hs C.2.2.2.2.2.2.2.2.1.2⟩
  rw [List.map_append, List.map_reverse]
  exact zcall hrun hS hl kk
theorem zZ_callI {n i : Nat} (C : zC g X M d mc ms) (ok : zOk M' n) (hst : Cond.instanceMethod M'.1 ∈ zTb) (hnm : M'.1.name = "<init>") (hrt : M'.2.2.2 = none) {idx : Nat} (hlk : Cond.methodLink M.1.cls idx M'.1 ∈ zTb) (hR : zRuns g M' d' mc' ms' (.ref i :: as) σ post') (hn : as.length = n) (hd' : d' + 1 ≤ d) (hc : nc + mc' ≤ mc) (hs : ns + ms' ≤ ms) (hw : (S.map fun v => v.category).sum ≤ 8)
    (hd : decode M.2.1 pc = .ok (.invokespecial idx, 3)) (kk : ∀ r σ', post' r σ' → zZ g X (nc + mc') (ns + ms') σ' (pc + 3) L (r.toList ++ S)) : zZ g X nc ns σ pc L (as.reverse ++ .ref i :: S) := by
  intro H locs ls hH hS hl
  obtain ⟨o1, o2, o3, o4⟩ := ok
  have hts := C.2.2.2.2.1
  have hws : zws M' = Cond.code M'.1 M'.2.1 M'.2.2.1 none :: zTb := by rw [zws, hrt]
  have cw := callB_of (R := xR X) (own := M.1.cls) (index := idx) (mc := mc') (ms := ms') (ret := none) (rm := zRm d' mc' ms') n hts (zGood M M' o1) hws rfl rfl (hts _ o2) (hts _ hlk) o3 (zroom C hd' o4)
  have hrun := va_runI (b := za g i) (As := as.map (zv g)) (rest := S.map (zv g)) (g := F0 (xm X) pc ls ((as.map (zv g)).reverse ++ .ref (za g i) :: S.map (zv g))) (cells := nc) (slots := ns) (below := xb X) (meth := xh X) (e := xe X) (H := H) (locs := locs) ⟨C.1, C.2.1, C.2.2.1, C.2.2.2.1, hts⟩ hR ⟨cw, hnm, hts _ hst⟩ ⟨zFB, fun U hU hW => ⟨rfl, by rw [hU]; exact hH, zF.at C hS hU hW⟩⟩ rfl ((List.length_map _).trans hn) (hl.1.trans C.2.2.1) rfl (by show 2 * 0 + _ ≤ 8; rw [zcat]; omega) hd ⟨Nat.le_trans hc C.2.2.2.2.2.2.2.2.1.1, Nat.le_trans hs C.2.2.2.2.2.2.2.2.1.2⟩
  rw [List.map_append, List.map_reverse]
  exact zcall hrun hS hl kk
/-- a static method of a nest mate -/
theorem zZ_callN {n : Nat} (C : zC g X M d mc ms) (ok : zOk M' n) (hst : Cond.static M'.1 ∈ zTb) {idx : Nat} {host : String} (hlk : Cond.methodLinkNest M.1.cls idx M'.1 host ∈ zNw) (hR : zRuns g M' d' mc' ms' as σ post') (hn : as.length = n) (hd' : d' + 1 ≤ d) (hc : nc + mc' ≤ mc) (hs : ns + ms' ≤ ms) (hw : (S.map fun v => v.category).sum ≤ 8)
    (hd : decode M.2.1 pc = .ok (.invokestatic idx, 3)) (kk : ∀ r σ', post' r σ' → zZ g X (nc + mc') (ns + ms') σ' (pc + 3) L (r.toList ++ S)) : zZ g X nc ns σ pc L (as.reverse ++ S) := by
  intro H locs ls hH hS hl
  obtain ⟨o1, o2, o3, o4⟩ := ok
  have hts := C.2.2.2.2.1
  have hF := C.2.2.2.2.2.2.2.2.2.1
  have cw := va_cnB (R := xR X) (s := xs X) (args := xa X) (own := M.1.cls) (host := host) (index := idx) (mc := mc') (ms := ms') n hts (zGood M M' o1) rfl rfl rfl (hF.2.1 _ hlk) (hts _ o2) o3 (zroom C hd' o4)
  have hrun := va_runSN (rest := S.map (zv g)) (g := F0 (xm X) pc ls ((as.map (zv g)).reverse ++ S.map (zv g))) (cells := nc) (slots := ns) (below := xb X) (meth := xh X) (e := xe X) (H := H) (locs := locs) ⟨C.1, C.2.1, C.2.2.1, C.2.2.2.1, hts⟩ hR ⟨cw, hts _ hst, trivial⟩ ⟨zFB, fun U hU hW => ⟨rfl, by rw [hU]; exact hH, zF.at C hS hU hW⟩⟩ rfl ((List.length_map _).trans hn) (hl.1.trans C.2.2.1) rfl (by show 2 * 0 + _ ≤ 8; rw [zcat]; omega) hd ⟨Nat.le_trans hc C.2.2.2.2.2.2.2.2.1.1, Nat.le_trans hs C.2.2.2.2.2.2.2.2.1.2⟩
  rw [List.map_append, List.map_reverse]
  exact zcall hrun hS hl kk
end ZR
end
section
/-! one rule an instruction, over zZ (written by gen_rules.py) -/
theorem zlc_cases (x y : Int64) : (x < y ∧ lg_cmp x y = -1) ∨ (x = y ∧ lg_cmp x y = 0) ∨ (y < x ∧ lg_cmp x y = 1) := by
  by_cases h1 : y < x
  · exact Or.inr (Or.inr ⟨h1, by simp [lg_cmp, h1]⟩)
  · by_cases h2 : x = y
    · exact Or.inr (Or.inl ⟨h2, by simp [lg_cmp, h2]⟩)
    · refine Or.inl ⟨?_, by simp [lg_cmp, h1, h2]⟩
      rw [Int64.lt_iff_toInt_lt] at h1 ⊢
      have h3 : ¬ x.toInt = y.toInt := fun e => h2 (Int64.toInt_inj.mp e)
      omega
theorem zlt_asym {x y : Int64} (h : x < y) : ¬ y < x := by
  rw [Int64.lt_iff_toInt_lt] at h ⊢
  omega
theorem zlt_ne {x y : Int64} (h : x < y) : ¬ x = y := by
  rintro rfl
  rw [Int64.lt_iff_toInt_lt] at h
  omega
theorem zle_iff (x y : Int64) : x ≤ y ↔ ¬ y < x := by
  rw [Int64.lt_iff_toInt_lt, Int64.le_iff_toInt_le]
  omega
theorem zlc_eq (x y : Int64) : lg_cmp x y = 0 ↔ x = y := by
  rcases zlc_cases x y with ⟨h, e⟩ | ⟨h, e⟩ | ⟨h, e⟩ <;> rw [e]
  · exact ⟨fun q => absurd q (by decide), fun q => absurd q (zlt_ne h)⟩
  · exact ⟨fun _ => h, fun _ => rfl⟩
  · exact ⟨fun q => absurd q (by decide), fun q => absurd q.symm (zlt_ne h)⟩
theorem zlc_lt (x y : Int64) : lg_cmp x y < 0 ↔ x < y := by
  rcases zlc_cases x y with ⟨h, e⟩ | ⟨h, e⟩ | ⟨h, e⟩ <;> rw [e]
  · exact ⟨fun _ => h, fun _ => by decide⟩
  · exact ⟨fun q => absurd q (by decide), fun q => absurd h (zlt_ne q)⟩
  · exact ⟨fun q => absurd q (by decide), fun q => absurd q (zlt_asym h)⟩
theorem zlc_gt (x y : Int64) : 0 < lg_cmp x y ↔ y < x := by
  rcases zlc_cases x y with ⟨h, e⟩ | ⟨h, e⟩ | ⟨h, e⟩ <;> rw [e]
  · exact ⟨fun q => absurd q (by decide), fun q => absurd q (zlt_asym h)⟩
  · exact ⟨fun q => absurd q (by decide), fun q => absurd h.symm (zlt_ne q)⟩
  · exact ⟨fun _ => h, fun _ => by decide⟩
theorem zlc_ge (x y : Int64) : 0 ≤ lg_cmp x y ↔ y ≤ x := by
  rw [zle_iff, ← zlc_lt]
  rcases zlc_cases x y with ⟨h, e⟩ | ⟨h, e⟩ | ⟨h, e⟩ <;> rw [e] <;> decide
theorem zlc_le (x y : Int64) : lg_cmp x y ≤ 0 ↔ x ≤ y := by
  rw [zle_iff, ← zlc_gt]
  rcases zlc_cases x y with ⟨h, e⟩ | ⟨h, e⟩ | ⟨h, e⟩ <;> rw [e] <;> decide
section ZI
variable {g : zG} {X : zX} {M : zM} {d mc ms nc ns : Nat} {σ : zSt} {pc : Nat} {L : List (Nat × Value)} {S : List Value}
theorem z_iadd (C : zC g X M d mc ms) {a b : Int} (hd : decode M.2.1 pc = .ok (.iadd, 1))  (k : zZ g X nc ns σ (pc + 1) L (.int (iI (a + b)) :: S)) : zZ g X nc ns σ pc L (.int (iI b) :: .int (iI a) :: S) :=
  fun H locs ls hH hS hl => lv_iadd C.1 C.2.1 hd (by rw [iI_add]; exact k H locs ls hH hS hl)
theorem z_isub (C : zC g X M d mc ms) {a b : Int} (hd : decode M.2.1 pc = .ok (.isub, 1))  (k : zZ g X nc ns σ (pc + 1) L (.int (iI (a - b)) :: S)) : zZ g X nc ns σ pc L (.int (iI b) :: .int (iI a) :: S) :=
  fun H locs ls hH hS hl => lv_isub C.1 C.2.1 hd (by rw [iI_sub]; exact k H locs ls hH hS hl)
theorem z_imul (C : zC g X M d mc ms) {a b : Int} (hd : decode M.2.1 pc = .ok (.imul, 1))  (k : zZ g X nc ns σ (pc + 1) L (.int (iI (a * b)) :: S)) : zZ g X nc ns σ pc L (.int (iI b) :: .int (iI a) :: S) :=
  fun H locs ls hH hS hl => lv_imul C.1 C.2.1 hd (by rw [iI_mul]; exact k H locs ls hH hS hl)
theorem z_iand (C : zC g X M d mc ms) {a b : Int} (v : Int) (hd : decode M.2.1 pc = .ok (.iand, 1)) (hv : iI a &&& iI b = iI v) (k : zZ g X nc ns σ (pc + 1) L (.int (iI v) :: S)) : zZ g X nc ns σ pc L (.int (iI b) :: .int (iI a) :: S) :=
  fun H locs ls hH hS hl => lv_iand C.1 C.2.1 hd (by rw [hv]; exact k H locs ls hH hS hl)
theorem z_ior (C : zC g X M d mc ms) {a b : Int} (v : Int) (hd : decode M.2.1 pc = .ok (.ior, 1)) (hv : iI a ||| iI b = iI v) (k : zZ g X nc ns σ (pc + 1) L (.int (iI v) :: S)) : zZ g X nc ns σ pc L (.int (iI b) :: .int (iI a) :: S) :=
  fun H locs ls hH hS hl => lv_ior C.1 C.2.1 hd (by rw [hv]; exact k H locs ls hH hS hl)
theorem z_ixor (C : zC g X M d mc ms) {a b : Int} (v : Int) (hd : decode M.2.1 pc = .ok (.ixor, 1)) (hv : iI a ^^^ iI b = iI v) (k : zZ g X nc ns σ (pc + 1) L (.int (iI v) :: S)) : zZ g X nc ns σ pc L (.int (iI b) :: .int (iI a) :: S) :=
  fun H locs ls hH hS hl => lv_ixor C.1 C.2.1 hd (by rw [hv]; exact k H locs ls hH hS hl)
theorem z_ishl (C : zC g X M d mc ms) {a b : Int} (v : Int) (hd : decode M.2.1 pc = .ok (.ishl, 1)) (hv : iI a <<< (iI b &&& 31) = iI v) (k : zZ g X nc ns σ (pc + 1) L (.int (iI v) :: S)) : zZ g X nc ns σ pc L (.int (iI b) :: .int (iI a) :: S) :=
  fun H locs ls hH hS hl => lv_ishl C.1 C.2.1 hd (by rw [hv]; exact k H locs ls hH hS hl)
theorem z_ishr (C : zC g X M d mc ms) {a b : Int} (v : Int) (hd : decode M.2.1 pc = .ok (.ishr, 1)) (hv : iI a >>> (iI b &&& 31) = iI v) (k : zZ g X nc ns σ (pc + 1) L (.int (iI v) :: S)) : zZ g X nc ns σ pc L (.int (iI b) :: .int (iI a) :: S) :=
  fun H locs ls hH hS hl => lv_ishr C.1 C.2.1 hd (by rw [hv]; exact k H locs ls hH hS hl)
theorem z_ladd (C : zC g X M d mc ms) {x y : Int64} (hd : decode M.2.1 pc = .ok (.ladd, 1))  (k : zZ g X nc ns σ (pc + 1) L (.long (x + y) :: S)) : zZ g X nc ns σ pc L (.long y :: .long x :: S) :=
  fun H locs ls hH hS hl => lv_ladd C.1 C.2.1 hd (k H locs ls hH hS hl)
theorem z_lsub (C : zC g X M d mc ms) {x y : Int64} (hd : decode M.2.1 pc = .ok (.lsub, 1))  (k : zZ g X nc ns σ (pc + 1) L (.long (x - y) :: S)) : zZ g X nc ns σ pc L (.long y :: .long x :: S) :=
  fun H locs ls hH hS hl => lv_lsub C.1 C.2.1 hd (k H locs ls hH hS hl)
theorem z_lmul (C : zC g X M d mc ms) {x y : Int64} (hd : decode M.2.1 pc = .ok (.lmul, 1))  (k : zZ g X nc ns σ (pc + 1) L (.long (x * y) :: S)) : zZ g X nc ns σ pc L (.long y :: .long x :: S) :=
  fun H locs ls hH hS hl => lv_lmul C.1 C.2.1 hd (k H locs ls hH hS hl)
theorem z_land (C : zC g X M d mc ms) {x y : Int64} (hd : decode M.2.1 pc = .ok (.land, 1))  (k : zZ g X nc ns σ (pc + 1) L (.long (x &&& y) :: S)) : zZ g X nc ns σ pc L (.long y :: .long x :: S) :=
  fun H locs ls hH hS hl => lv_land C.1 C.2.1 hd (k H locs ls hH hS hl)
theorem z_lor (C : zC g X M d mc ms) {x y : Int64} (hd : decode M.2.1 pc = .ok (.lor, 1))  (k : zZ g X nc ns σ (pc + 1) L (.long (x ||| y) :: S)) : zZ g X nc ns σ pc L (.long y :: .long x :: S) :=
  fun H locs ls hH hS hl => lv_lor C.1 C.2.1 hd (k H locs ls hH hS hl)
theorem z_lxor (C : zC g X M d mc ms) {x y : Int64} (hd : decode M.2.1 pc = .ok (.lxor, 1))  (k : zZ g X nc ns σ (pc + 1) L (.long (x ^^^ y) :: S)) : zZ g X nc ns σ pc L (.long y :: .long x :: S) :=
  fun H locs ls hH hS hl => lv_lxor C.1 C.2.1 hd (k H locs ls hH hS hl)
theorem z_idiv (C : zC g X M d mc ms) {a b : Int} (hd : decode M.2.1 pc = .ok (.idiv, 1)) (ha : 0 ≤ a ∧ a ≤ 2147483647) (hb : 0 < b ∧ b ≤ 2147483647) (k : zZ g X nc ns σ (pc + 1) L (.int (iI (a / b)) :: S)) : zZ g X nc ns σ pc L (.int (iI b) :: .int (iI a) :: S) :=
  fun H locs ls hH hS hl => lv_idiv C.1 C.2.1 hd (iI_ne0 hb) (by rw [iI_div ha hb]; exact k H locs ls hH hS hl)
theorem z_irem (C : zC g X M d mc ms) {a b : Int} (hd : decode M.2.1 pc = .ok (.irem, 1)) (ha : 0 ≤ a ∧ a ≤ 2147483647) (hb : 0 < b ∧ b ≤ 2147483647) (k : zZ g X nc ns σ (pc + 1) L (.int (iI (a % b)) :: S)) : zZ g X nc ns σ pc L (.int (iI b) :: .int (iI a) :: S) :=
  fun H locs ls hH hS hl => lv_irem C.1 C.2.1 hd (iI_ne0 hb) (by rw [iI_rem ha hb]; exact k H locs ls hH hS hl)
theorem z_ldiv (C : zC g X M d mc ms) {x y : Int64} (hd : decode M.2.1 pc = .ok (.ldiv, 1)) (hne : ¬ y = 0) (k : zZ g X nc ns σ (pc + 1) L (.long (x / y) :: S)) : zZ g X nc ns σ pc L (.long y :: .long x :: S) :=
  fun H locs ls hH hS hl => lv_ldiv C.1 C.2.1 hd hne (k H locs ls hH hS hl)
theorem z_lrem (C : zC g X M d mc ms) {x y : Int64} (hd : decode M.2.1 pc = .ok (.lrem, 1)) (hne : ¬ y = 0) (k : zZ g X nc ns σ (pc + 1) L (.long (x - x / y * y) :: S)) : zZ g X nc ns σ pc L (.long y :: .long x :: S) :=
  fun H locs ls hH hS hl => lv_lrem C.1 C.2.1 hd hne (k H locs ls hH hS hl)
theorem z_ineg (C : zC g X M d mc ms) {a : Int} (hd : decode M.2.1 pc = .ok (.ineg, 1))  (k : zZ g X nc ns σ (pc + 1) L (.int (iI (-a)) :: S)) : zZ g X nc ns σ pc L (.int (iI a) :: S) :=
  fun H locs ls hH hS hl => lv_ineg C.1 C.2.1 hd (by rw [iI_neg]; exact k H locs ls hH hS hl)
theorem z_iushr (C : zC g X M d mc ms) {a b : Int} (v : Int) (hd : decode M.2.1 pc = .ok (.iushr, 1)) (hv : ((iI a).toUInt32 >>> ((iI b).toUInt32 &&& Int32.toUInt32 31)).toInt32 = iI v) (k : zZ g X nc ns σ (pc + 1) L (.int (iI v) :: S)) : zZ g X nc ns σ pc L (.int (iI b) :: .int (iI a) :: S) :=
  fun H locs ls hH hS hl => lv_iushr C.1 C.2.1 hd hv (k H locs ls hH hS hl)
theorem z_lshl (C : zC g X M d mc ms) {x : Int64} {b : Int} (hd : decode M.2.1 pc = .ok (.lshl, 1))  (k : zZ g X nc ns σ (pc + 1) L (.long (x <<< ((iI b).toInt64 &&& 63)) :: S)) : zZ g X nc ns σ pc L (.int (iI b) :: .long x :: S) :=
  fun H locs ls hH hS hl => lv_lshl C.1 C.2.1 hd rfl (k H locs ls hH hS hl)
theorem z_lushr (C : zC g X M d mc ms) {x : Int64} {b : Int} (hd : decode M.2.1 pc = .ok (.lushr, 1))  (k : zZ g X nc ns σ (pc + 1) L (.long ((x.toUInt64 >>> ((iI b).toInt64.toUInt64 &&& Int64.toUInt64 63)).toInt64) :: S)) : zZ g X nc ns σ pc L (.int (iI b) :: .long x :: S) :=
  fun H locs ls hH hS hl => lv_lushr C.1 C.2.1 hd rfl (k H locs ls hH hS hl)
theorem z_i2l (C : zC g X M d mc ms) {a : Int} (v : Int64) (hd : decode M.2.1 pc = .ok (.i2l, 1)) (hv : (iI a).toInt64 = v) (k : zZ g X nc ns σ (pc + 1) L (.long v :: S)) : zZ g X nc ns σ pc L (.int (iI a) :: S) :=
  fun H locs ls hH hS hl => lv_i2l C.1 C.2.1 hd hv (k H locs ls hH hS hl)
theorem z_l2i (C : zC g X M d mc ms) {x : Int64} (v : Int) (hd : decode M.2.1 pc = .ok (.l2i, 1)) (hv : x.toInt32 = iI v) (k : zZ g X nc ns σ (pc + 1) L (.int (iI v) :: S)) : zZ g X nc ns σ pc L (.long x :: S) :=
  fun H locs ls hH hS hl => lv_l2i C.1 C.2.1 hd hv (k H locs ls hH hS hl)
theorem z_i2b (C : zC g X M d mc ms) {a : Int} (v : Int) (hd : decode M.2.1 pc = .ok (.i2b, 1)) (hv : (iI a).toInt8.toInt32 = iI v) (k : zZ g X nc ns σ (pc + 1) L (.int (iI v) :: S)) : zZ g X nc ns σ pc L (.int (iI a) :: S) :=
  fun H locs ls hH hS hl => lv_i2b C.1 C.2.1 hd hv (k H locs ls hH hS hl)
theorem z_i2s (C : zC g X M d mc ms) {a : Int} (v : Int) (hd : decode M.2.1 pc = .ok (.i2s, 1)) (hv : (iI a).toInt16.toInt32 = iI v) (k : zZ g X nc ns σ (pc + 1) L (.int (iI v) :: S)) : zZ g X nc ns σ pc L (.int (iI a) :: S) :=
  fun H locs ls hH hS hl => lv_i2s C.1 C.2.1 hd hv (k H locs ls hH hS hl)
theorem z_i2c (C : zC g X M d mc ms) {a : Int} (v : Int) (hd : decode M.2.1 pc = .ok (.i2c, 1)) (hv : ((iI a).toUInt32 % 65536).toInt32 = iI v) (k : zZ g X nc ns σ (pc + 1) L (.int (iI v) :: S)) : zZ g X nc ns σ pc L (.int (iI a) :: S) :=
  fun H locs ls hH hS hl => lv_i2c C.1 C.2.1 hd hv (k H locs ls hH hS hl)
theorem z_lcmp (C : zC g X M d mc ms) {x y : Int64} (hd : decode M.2.1 pc = .ok (.lcmp, 1))  (k : zZ g X nc ns σ (pc + 1) L (.int (lg_cmp x y) :: S)) : zZ g X nc ns σ pc L (.long y :: .long x :: S) :=
  fun H locs ls hH hS hl => W.lcmp C.1 C.2.1 hd (k H locs ls hH hS hl)
theorem z_iconst (C : zC g X M d mc ms) {n : Int} (hd : decode M.2.1 pc = .ok (.iconst n, 1))  (k : zZ g X nc ns σ (pc + 1) L (.int (iI n) :: S)) : zZ g X nc ns σ pc L S :=
  fun H locs ls hH hS hl => lv_iconst C.1 C.2.1 hd rfl (k H locs ls hH hS hl)
theorem z_bipush (C : zC g X M d mc ms) {n : Int} (hd : decode M.2.1 pc = .ok (.bipush n, 2)) (hv : (Int8.ofInt n).toInt32 = iI n) (k : zZ g X nc ns σ (pc + 2) L (.int (iI n) :: S)) : zZ g X nc ns σ pc L S :=
  fun H locs ls hH hS hl => lv_bipush C.1 C.2.1 hd hv (k H locs ls hH hS hl)
theorem z_sipush (C : zC g X M d mc ms) {n : Int} (hd : decode M.2.1 pc = .ok (.sipush n, 3)) (hv : (Int16.ofInt n).toInt32 = iI n) (k : zZ g X nc ns σ (pc + 3) L (.int (iI n) :: S)) : zZ g X nc ns σ pc L S :=
  fun H locs ls hH hS hl => lv_sipush C.1 C.2.1 hd hv (k H locs ls hH hS hl)
theorem z_lconst (C : zC g X M d mc ms) {n : Fin 2} (v : Int64) (hd : decode M.2.1 pc = .ok (.lconst n, 1)) (hv : Int64.ofNat (n : Nat) = v) (k : zZ g X nc ns σ (pc + 1) L (.long v :: S)) : zZ g X nc ns σ pc L S :=
  fun H locs ls hH hS hl => lv_lconst C.1 C.2.1 hd hv (k H locs ls hH hS hl)
theorem z_ldc (C : zC g X M d mc ms) {index : Nat} (v : Int) (hd : decode M.2.1 pc = .ok (.ldc index, 2)) (hc : Cond.constant M.1.cls index (iI v) ∈ zTb) (k : zZ g X nc ns σ (pc + 2) L (.int (iI v) :: S)) : zZ g X nc ns σ pc L S :=
  fun H locs ls hH hS hl => lv_ldc C.1 C.2.1 C.2.2.2.1 (C.2.2.2.2.1 _ hc) hd (k H locs ls hH hS hl)
theorem z_ldcw (C : zC g X M d mc ms) {index : Nat} (v : Int) (hd : decode M.2.1 pc = .ok (.ldc_w index, 3)) (hc : Cond.constant M.1.cls index (iI v) ∈ zTb) (k : zZ g X nc ns σ (pc + 3) L (.int (iI v) :: S)) : zZ g X nc ns σ pc L S :=
  fun H locs ls hH hS hl => lv_ldcw C.1 C.2.1 C.2.2.2.1 (C.2.2.2.2.1 _ hc) hd (k H locs ls hH hS hl)
theorem z_ldc2 (C : zC g X M d mc ms) {index : Nat} (v : Int64) (hd : decode M.2.1 pc = .ok (.ldc2_w index, 3)) (hc : Cond.constantLong M.1.cls index v ∈ zTb) (k : zZ g X nc ns σ (pc + 3) L (.long v :: S)) : zZ g X nc ns σ pc L S :=
  fun H locs ls hH hS hl => lv_ldc2 C.1 C.2.1 C.2.2.2.1 (C.2.2.2.2.1 _ hc) hd (k H locs ls hH hS hl)
theorem z_iload_n (C : zC g X M d mc ms) {j : Fin 4} {i : Nat} {a : Int} (kk : Nat) (hk : L[kk]? = some (i, .int (iI a))) (hd : decode M.2.1 pc = .ok (.iload_n j, 1)) (hi : (j : Nat) = i := by rfl) (k : zZ g X nc ns σ (pc + 1) L (.int (iI a) :: S)) : zZ g X nc ns σ pc L S :=
  fun H locs ls hH hS hl => lv_iload_n C.1 C.2.1 hd hi (zL_at hl kk hk) (k H locs ls hH hS hl)
theorem z_iload (C : zC g X M d mc ms) {i : Nat} {a : Int} (kk : Nat) (hk : L[kk]? = some (i, .int (iI a))) (hd : decode M.2.1 pc = .ok (.iload i, 2))  (k : zZ g X nc ns σ (pc + 2) L (.int (iI a) :: S)) : zZ g X nc ns σ pc L S :=
  fun H locs ls hH hS hl => lv_iload C.1 C.2.1 hd (zL_at hl kk hk) (k H locs ls hH hS hl)
theorem z_lload_n (C : zC g X M d mc ms) {j : Fin 4} {i : Nat} {x : Int64} (kk : Nat) (hk : L[kk]? = some (i, .long x)) (hd : decode M.2.1 pc = .ok (.lload_n j, 1)) (hi : (j : Nat) = i := by rfl) (k : zZ g X nc ns σ (pc + 1) L (.long x :: S)) : zZ g X nc ns σ pc L S :=
  fun H locs ls hH hS hl => lv_lload_n C.1 C.2.1 hd hi (zL_at hl kk hk) (k H locs ls hH hS hl)
theorem z_lload (C : zC g X M d mc ms) {i : Nat} {x : Int64} (kk : Nat) (hk : L[kk]? = some (i, .long x)) (hd : decode M.2.1 pc = .ok (.lload i, 2))  (k : zZ g X nc ns σ (pc + 2) L (.long x :: S)) : zZ g X nc ns σ pc L S :=
  fun H locs ls hH hS hl => lv_lload C.1 C.2.1 hd (zL_at hl kk hk) (k H locs ls hH hS hl)
theorem z_aload_n (C : zC g X M d mc ms) {j : Fin 4} {i : Nat} {x : Nat} (kk : Nat) (hk : L[kk]? = some (i, .ref x)) (hd : decode M.2.1 pc = .ok (.aload_n j, 1)) (hi : (j : Nat) = i := by rfl) (k : zZ g X nc ns σ (pc + 1) L (.ref x :: S)) : zZ g X nc ns σ pc L S :=
  fun H locs ls hH hS hl => lv_aload_n C.1 C.2.1 hd hi (zL_at hl kk hk) (k H locs ls hH hS hl)
theorem z_aload (C : zC g X M d mc ms) {i : Nat} {x : Nat} (kk : Nat) (hk : L[kk]? = some (i, .ref x)) (hd : decode M.2.1 pc = .ok (.aload i, 2))  (k : zZ g X nc ns σ (pc + 2) L (.ref x :: S)) : zZ g X nc ns σ pc L S :=
  fun H locs ls hH hS hl => lv_aload C.1 C.2.1 hd (zL_at hl kk hk) (k H locs ls hH hS hl)
theorem z_astore_n (C : zC g X M d mc ms) {j : Fin 4} {i : Nat} {x : Nat} (L' : List (Nat × Value)) (hd : decode M.2.1 pc = .ok (.astore_n j, 1)) (hi : (j : Nat) = i) (hn : i < M.2.2.1) (hL : zput1 i (.ref x) L = L') (k : zZ g X nc ns σ (pc + 1) L' S) : zZ g X nc ns σ pc L (.ref x :: S) :=
  fun H locs ls hH hS hl => lv_astore_n C.1 C.2.1 hd hi hl (by rw [C.2.2.1]; exact hn) (by rw [← hL]; exact zput1_m g i (.ref x) L) (fun ls' hl' => k H locs ls' hH hS hl')
theorem z_astore (C : zC g X M d mc ms) {i : Nat} {x : Nat} (L' : List (Nat × Value)) (hd : decode M.2.1 pc = .ok (.astore i, 2)) (hn : i < M.2.2.1) (hL : zput1 i (.ref x) L = L') (k : zZ g X nc ns σ (pc + 2) L' S) : zZ g X nc ns σ pc L (.ref x :: S) :=
  fun H locs ls hH hS hl => lv_astore C.1 C.2.1 hd hl (by rw [C.2.2.1]; exact hn) (by rw [← hL]; exact zput1_m g i (.ref x) L) (fun ls' hl' => k H locs ls' hH hS hl')
theorem z_istore_n (C : zC g X M d mc ms) {j : Fin 4} {i : Nat} {a : Int} (L' : List (Nat × Value)) (hd : decode M.2.1 pc = .ok (.istore_n j, 1)) (hi : (j : Nat) = i) (hn : i < M.2.2.1) (hL : zput1 i (.int (iI a)) L = L') (k : zZ g X nc ns σ (pc + 1) L' S) : zZ g X nc ns σ pc L (.int (iI a) :: S) :=
  fun H locs ls hH hS hl => lv_istore_n C.1 C.2.1 hd hi hl (by rw [C.2.2.1]; exact hn) (by rw [← hL]; exact zput1_m g i (.int (iI a)) L) (fun ls' hl' => k H locs ls' hH hS hl')
theorem z_istore (C : zC g X M d mc ms) {i : Nat} {a : Int} (L' : List (Nat × Value)) (hd : decode M.2.1 pc = .ok (.istore i, 2)) (hn : i < M.2.2.1) (hL : zput1 i (.int (iI a)) L = L') (k : zZ g X nc ns σ (pc + 2) L' S) : zZ g X nc ns σ pc L (.int (iI a) :: S) :=
  fun H locs ls hH hS hl => lv_istore C.1 C.2.1 hd hl (by rw [C.2.2.1]; exact hn) (by rw [← hL]; exact zput1_m g i (.int (iI a)) L) (fun ls' hl' => k H locs ls' hH hS hl')
theorem z_topI (C : zC g X M d mc ms) {a : Int} (k : ∀ v : Int, v = a → zZ g X nc ns σ pc L (.int (iI v) :: S)) : zZ g X nc ns σ pc L (.int (iI a) :: S) := k a rfl
theorem z_top (C : zC g X M d mc ms) {a : Int} (v : Int) (h : a = v) (k : zZ g X nc ns σ pc L (.int (iI v) :: S)) : zZ g X nc ns σ pc L (.int (iI a) :: S) := h ▸ k
theorem z_topL (C : zC g X M d mc ms) {a : Int64} (k : ∀ v : Int64, v = a → zZ g X nc ns σ pc L (.long v :: S)) : zZ g X nc ns σ pc L (.long a :: S) := k a rfl
theorem z_lstore_n (C : zC g X M d mc ms) {j : Fin 4} {i : Nat} {x : Int64} (L' : List (Nat × Value)) (hd : decode M.2.1 pc = .ok (.lstore_n j, 1)) (hi : (j : Nat) = i) (hn : i + 1 < M.2.2.1) (hL : zput2 i (.long x) L = L') (k : zZ g X nc ns σ (pc + 1) L' S) : zZ g X nc ns σ pc L (.long x :: S) :=
  fun H locs ls hH hS hl => lv_lstore_n C.1 C.2.1 hd hi hl (by rw [C.2.2.1]; exact hn) (by rw [← hL]; exact zput2_m g i (.long x) L) (fun ls' hl' => k H locs ls' hH hS hl')
theorem z_lstore (C : zC g X M d mc ms) {i : Nat} {x : Int64} (L' : List (Nat × Value)) (hd : decode M.2.1 pc = .ok (.lstore i, 2)) (hn : i + 1 < M.2.2.1) (hL : zput2 i (.long x) L = L') (k : zZ g X nc ns σ (pc + 2) L' S) : zZ g X nc ns σ pc L (.long x :: S) :=
  fun H locs ls hH hS hl => lv_lstore C.1 C.2.1 hd hl (by rw [C.2.2.1]; exact hn) (by rw [← hL]; exact zput2_m g i (.long x) L) (fun ls' hl' => k H locs ls' hH hS hl')
theorem z_iinc (C : zC g X M d mc ms) {i : Nat} {n a : Int} (kk : Nat) (v : Int) (L' : List (Nat × Value)) (hd : decode M.2.1 pc = .ok (.iinc i n, 3)) (hk : L[kk]? = some (i, .int (iI a))) (hv : a + n = v) (hn : i < M.2.2.1) (hL : zput1 i (.int (iI v)) L = L') (k : zZ g X nc ns σ (pc + 3) L' S) : zZ g X nc ns σ pc L S :=
  fun H locs ls hH hS hl => lv_iinc (k := kk) (v := iI v) C.1 C.2.1 hd hl (by simp [zLm, hk]; rfl) (by rw [← hv, ← iI_add]; rfl) (by rw [C.2.2.1]; exact hn) (by rw [← hL]; exact zput1_m g i (.int (iI v)) L) (fun ls' hl' => k H locs ls' hH hS hl')
theorem z_pop (C : zC g X M d mc ms) {va : Value} (hd : decode M.2.1 pc = .ok (.pop, 1)) (hc : va.category = 1) (k : zZ g X nc ns σ (pc + 1) L S) : zZ g X nc ns σ pc L (va :: S) :=
  fun H locs ls hH hS hl => lv_pop C.1 C.2.1 hd (by rw [zv_cat]; exact hc) (k H locs ls hH hS hl)
theorem z_dup (C : zC g X M d mc ms) {va : Value} (hd : decode M.2.1 pc = .ok (.dup, 1)) (hc : va.category = 1) (k : zZ g X nc ns σ (pc + 1) L (va :: va :: S)) : zZ g X nc ns σ pc L (va :: S) :=
  fun H locs ls hH hS hl => lv_dup C.1 C.2.1 hd (by rw [zv_cat]; exact hc) (k H locs ls hH hS hl)
theorem z_dup_x1 (C : zC g X M d mc ms) {va vb : Value} (hd : decode M.2.1 pc = .ok (.dup_x1, 1)) (hc : va.category = 1) (hc2 : vb.category = 1) (k : zZ g X nc ns σ (pc + 1) L (va :: vb :: va :: S)) : zZ g X nc ns σ pc L (va :: vb :: S) :=
  fun H locs ls hH hS hl => lv_dup_x1 C.1 C.2.1 hd (by rw [zv_cat]; exact hc) (by rw [zv_cat]; exact hc2) (k H locs ls hH hS hl)
theorem z_dup2 (C : zC g X M d mc ms) {va vb : Value} (hd : decode M.2.1 pc = .ok (.dup2, 1)) (hc : va.category = 1) (hc2 : vb.category = 1) (k : zZ g X nc ns σ (pc + 1) L (va :: vb :: va :: vb :: S)) : zZ g X nc ns σ pc L (va :: vb :: S) :=
  fun H locs ls hH hS hl => lv_dup2_11 C.1 C.2.1 hd (by rw [zv_cat]; exact hc) (by rw [zv_cat]; exact hc2) (k H locs ls hH hS hl)
theorem z_if_eq (C : zC g X M d mc ms) {a : Int} {off : Int} (tgt : Nat) (hd : decode M.2.1 pc = .ok (.ifCond .eq off, 3)) (ht : (pc : Int) + off = (tgt : Int)) (hr : -2147483648 ≤ a ∧ a ≤ 2147483647) (kt : a = 0 → zZ g X nc ns σ tgt L S) (kf : ¬ a = 0 → zZ g X nc ns σ (pc + 3) L S) : zZ g X nc ns σ pc L (.int (iI a) :: S) :=
  fun H locs ls hH hS hl => lv_if_eq C.1 C.2.1 hd ht (fun h => kt ((iI_eq hr (by decide)).mp h) H locs ls hH hS hl) (fun h => kf (fun q => h ((iI_eq hr (by decide)).mpr q)) H locs ls hH hS hl)
theorem z_if_ne (C : zC g X M d mc ms) {a : Int} {off : Int} (tgt : Nat) (hd : decode M.2.1 pc = .ok (.ifCond .ne off, 3)) (ht : (pc : Int) + off = (tgt : Int)) (hr : -2147483648 ≤ a ∧ a ≤ 2147483647) (kt : ¬ a = 0 → zZ g X nc ns σ tgt L S) (kf : a = 0 → zZ g X nc ns σ (pc + 3) L S) : zZ g X nc ns σ pc L (.int (iI a) :: S) :=
  fun H locs ls hH hS hl => lv_if_ne C.1 C.2.1 hd ht (fun h => kt (fun q => h ((iI_eq hr (by decide)).mpr q)) H locs ls hH hS hl) (fun h => kf ((iI_eq hr (by decide)).mp h) H locs ls hH hS hl)
theorem z_if_lt (C : zC g X M d mc ms) {a : Int} {off : Int} (tgt : Nat) (hd : decode M.2.1 pc = .ok (.ifCond .lt off, 3)) (ht : (pc : Int) + off = (tgt : Int)) (hr : -2147483648 ≤ a ∧ a ≤ 2147483647) (kt : a < 0 → zZ g X nc ns σ tgt L S) (kf : ¬ a < 0 → zZ g X nc ns σ (pc + 3) L S) : zZ g X nc ns σ pc L (.int (iI a) :: S) :=
  fun H locs ls hH hS hl => lv_if_lt C.1 C.2.1 hd ht (fun h => kt ((iI_lt hr (by decide)).mp h) H locs ls hH hS hl) (fun h => kf (fun q => h ((iI_lt hr (by decide)).mpr q)) H locs ls hH hS hl)
theorem z_if_ge (C : zC g X M d mc ms) {a : Int} {off : Int} (tgt : Nat) (hd : decode M.2.1 pc = .ok (.ifCond .ge off, 3)) (ht : (pc : Int) + off = (tgt : Int)) (hr : -2147483648 ≤ a ∧ a ≤ 2147483647) (kt : 0 ≤ a → zZ g X nc ns σ tgt L S) (kf : ¬ 0 ≤ a → zZ g X nc ns σ (pc + 3) L S) : zZ g X nc ns σ pc L (.int (iI a) :: S) :=
  fun H locs ls hH hS hl => lv_if_ge C.1 C.2.1 hd ht (fun h => kt ((iI_le (by decide) hr).mp h) H locs ls hH hS hl) (fun h => kf (fun q => h ((iI_le (by decide) hr).mpr q)) H locs ls hH hS hl)
theorem z_if_gt (C : zC g X M d mc ms) {a : Int} {off : Int} (tgt : Nat) (hd : decode M.2.1 pc = .ok (.ifCond .gt off, 3)) (ht : (pc : Int) + off = (tgt : Int)) (hr : -2147483648 ≤ a ∧ a ≤ 2147483647) (kt : 0 < a → zZ g X nc ns σ tgt L S) (kf : ¬ 0 < a → zZ g X nc ns σ (pc + 3) L S) : zZ g X nc ns σ pc L (.int (iI a) :: S) :=
  fun H locs ls hH hS hl => lv_if_gt C.1 C.2.1 hd ht (fun h => kt ((iI_lt (by decide) hr).mp h) H locs ls hH hS hl) (fun h => kf (fun q => h ((iI_lt (by decide) hr).mpr q)) H locs ls hH hS hl)
theorem z_if_le (C : zC g X M d mc ms) {a : Int} {off : Int} (tgt : Nat) (hd : decode M.2.1 pc = .ok (.ifCond .le off, 3)) (ht : (pc : Int) + off = (tgt : Int)) (hr : -2147483648 ≤ a ∧ a ≤ 2147483647) (kt : a ≤ 0 → zZ g X nc ns σ tgt L S) (kf : ¬ a ≤ 0 → zZ g X nc ns σ (pc + 3) L S) : zZ g X nc ns σ pc L (.int (iI a) :: S) :=
  fun H locs ls hH hS hl => lv_if_le C.1 C.2.1 hd ht (fun h => kt ((iI_le hr (by decide)).mp h) H locs ls hH hS hl) (fun h => kf (fun q => h ((iI_le hr (by decide)).mpr q)) H locs ls hH hS hl)
theorem z_icmp_eq (C : zC g X M d mc ms) {a b : Int} {off : Int} (tgt : Nat) (hd : decode M.2.1 pc = .ok (.if_icmp .eq off, 3)) (ht : (pc : Int) + off = (tgt : Int)) (hr : -2147483648 ≤ a ∧ a ≤ 2147483647) (hq : -2147483648 ≤ b ∧ b ≤ 2147483647) (kt : a = b → zZ g X nc ns σ tgt L S) (kf : ¬ a = b → zZ g X nc ns σ (pc + 3) L S) : zZ g X nc ns σ pc L (.int (iI b) :: .int (iI a) :: S) :=
  fun H locs ls hH hS hl => lv_icmp_eq C.1 C.2.1 hd ht (fun h => kt ((iI_eq hr hq).mp h) H locs ls hH hS hl) (fun h => kf (fun q => h ((iI_eq hr hq).mpr q)) H locs ls hH hS hl)
theorem z_icmp_ne (C : zC g X M d mc ms) {a b : Int} {off : Int} (tgt : Nat) (hd : decode M.2.1 pc = .ok (.if_icmp .ne off, 3)) (ht : (pc : Int) + off = (tgt : Int)) (hr : -2147483648 ≤ a ∧ a ≤ 2147483647) (hq : -2147483648 ≤ b ∧ b ≤ 2147483647) (kt : ¬ a = b → zZ g X nc ns σ tgt L S) (kf : a = b → zZ g X nc ns σ (pc + 3) L S) : zZ g X nc ns σ pc L (.int (iI b) :: .int (iI a) :: S) :=
  fun H locs ls hH hS hl => lv_icmp_ne C.1 C.2.1 hd ht (fun h => kt (fun q => h ((iI_eq hr hq).mpr q)) H locs ls hH hS hl) (fun h => kf ((iI_eq hr hq).mp h) H locs ls hH hS hl)
theorem z_icmp_lt (C : zC g X M d mc ms) {a b : Int} {off : Int} (tgt : Nat) (hd : decode M.2.1 pc = .ok (.if_icmp .lt off, 3)) (ht : (pc : Int) + off = (tgt : Int)) (hr : -2147483648 ≤ a ∧ a ≤ 2147483647) (hq : -2147483648 ≤ b ∧ b ≤ 2147483647) (kt : a < b → zZ g X nc ns σ tgt L S) (kf : ¬ a < b → zZ g X nc ns σ (pc + 3) L S) : zZ g X nc ns σ pc L (.int (iI b) :: .int (iI a) :: S) :=
  fun H locs ls hH hS hl => lv_icmp_lt C.1 C.2.1 hd ht (fun h => kt ((iI_lt hr hq).mp h) H locs ls hH hS hl) (fun h => kf (fun q => h ((iI_lt hr hq).mpr q)) H locs ls hH hS hl)
theorem z_icmp_ge (C : zC g X M d mc ms) {a b : Int} {off : Int} (tgt : Nat) (hd : decode M.2.1 pc = .ok (.if_icmp .ge off, 3)) (ht : (pc : Int) + off = (tgt : Int)) (hr : -2147483648 ≤ a ∧ a ≤ 2147483647) (hq : -2147483648 ≤ b ∧ b ≤ 2147483647) (kt : b ≤ a → zZ g X nc ns σ tgt L S) (kf : ¬ b ≤ a → zZ g X nc ns σ (pc + 3) L S) : zZ g X nc ns σ pc L (.int (iI b) :: .int (iI a) :: S) :=
  fun H locs ls hH hS hl => lv_icmp_ge C.1 C.2.1 hd ht (fun h => kt ((iI_le hq hr).mp h) H locs ls hH hS hl) (fun h => kf (fun q => h ((iI_le hq hr).mpr q)) H locs ls hH hS hl)
theorem z_icmp_gt (C : zC g X M d mc ms) {a b : Int} {off : Int} (tgt : Nat) (hd : decode M.2.1 pc = .ok (.if_icmp .gt off, 3)) (ht : (pc : Int) + off = (tgt : Int)) (hr : -2147483648 ≤ a ∧ a ≤ 2147483647) (hq : -2147483648 ≤ b ∧ b ≤ 2147483647) (kt : b < a → zZ g X nc ns σ tgt L S) (kf : ¬ b < a → zZ g X nc ns σ (pc + 3) L S) : zZ g X nc ns σ pc L (.int (iI b) :: .int (iI a) :: S) :=
  fun H locs ls hH hS hl => lv_icmp_gt C.1 C.2.1 hd ht (fun h => kt ((iI_lt hq hr).mp h) H locs ls hH hS hl) (fun h => kf (fun q => h ((iI_lt hq hr).mpr q)) H locs ls hH hS hl)
theorem z_icmp_le (C : zC g X M d mc ms) {a b : Int} {off : Int} (tgt : Nat) (hd : decode M.2.1 pc = .ok (.if_icmp .le off, 3)) (ht : (pc : Int) + off = (tgt : Int)) (hr : -2147483648 ≤ a ∧ a ≤ 2147483647) (hq : -2147483648 ≤ b ∧ b ≤ 2147483647) (kt : a ≤ b → zZ g X nc ns σ tgt L S) (kf : ¬ a ≤ b → zZ g X nc ns σ (pc + 3) L S) : zZ g X nc ns σ pc L (.int (iI b) :: .int (iI a) :: S) :=
  fun H locs ls hH hS hl => lv_icmp_le C.1 C.2.1 hd ht (fun h => kt ((iI_le hr hq).mp h) H locs ls hH hS hl) (fun h => kf (fun q => h ((iI_le hr hq).mpr q)) H locs ls hH hS hl)
theorem z_goto (C : zC g X M d mc ms) {off : Int} (tgt : Nat) (hd : decode M.2.1 pc = .ok (.goto off, 3)) (ht : (pc : Int) + off = (tgt : Int)) (k : zZ g X nc ns σ tgt L S) : zZ g X nc ns σ pc L S :=
  fun H locs ls hH hS hl => lv_goto C.1 C.2.1 hd ht (k H locs ls hH hS hl)
theorem z_tabOut (C : zC g X M d mc ms) {dflt lo hi : Int} {offs : Array Int} {len : Nat} {a : Int} (tgt : Nat) (hd : decode M.2.1 pc = .ok (.tableswitch dflt lo hi offs, len)) (hr : -2147483648 ≤ a ∧ a ≤ 2147483647) (h : a < lo ∨ hi < a) (ht : (pc : Int) + dflt = (tgt : Int)) (k : zZ g X nc ns σ tgt L S) : zZ g X nc ns σ pc L (.int (iI a) :: S) :=
  fun H locs ls hH hS hl => lv_tableOut C.1 C.2.1 hd (by rw [iI_toInt hr.1 hr.2]; exact h) ht (k H locs ls hH hS hl)
theorem z_tabIn (C : zC g X M d mc ms) {dflt lo hi : Int} {offs : Array Int} {len : Nat} {a : Int} {off : Int} (tgt : Nat) (hd : decode M.2.1 pc = .ok (.tableswitch dflt lo hi offs, len)) (hr : -2147483648 ≤ a ∧ a ≤ 2147483647) (h1 : ¬ a < lo) (h2 : ¬ hi < a) (ho : offs[(a - lo).toNat]? = some off) (ht : (pc : Int) + off = (tgt : Int)) (k : zZ g X nc ns σ tgt L S) : zZ g X nc ns σ pc L (.int (iI a) :: S) :=
  fun H locs ls hH hS hl => lv_tableIn C.1 C.2.1 hd (by rw [iI_toInt hr.1 hr.2]; exact h1) (by rw [iI_toInt hr.1 hr.2]; exact h2) (by rw [iI_toInt hr.1 hr.2]; exact ho) ht (k H locs ls hH hS hl)
theorem zif_eq (C : zC g X M d mc ms) {x : Int32} {off : Int} (tgt : Nat) (hd : decode M.2.1 pc = .ok (.ifCond .eq off, 3)) (ht : (pc : Int) + off = (tgt : Int)) (kt : x = 0 → zZ g X nc ns σ tgt L S) (kf : ¬ x = 0 → zZ g X nc ns σ (pc + 3) L S) : zZ g X nc ns σ pc L (.int x :: S) :=
  fun H locs ls hH hS hl => lv_if_eq C.1 C.2.1 hd ht (fun h => kt h H locs ls hH hS hl) (fun h => kf h H locs ls hH hS hl)
theorem zif_ne (C : zC g X M d mc ms) {x : Int32} {off : Int} (tgt : Nat) (hd : decode M.2.1 pc = .ok (.ifCond .ne off, 3)) (ht : (pc : Int) + off = (tgt : Int)) (kt : ¬ x = 0 → zZ g X nc ns σ tgt L S) (kf : x = 0 → zZ g X nc ns σ (pc + 3) L S) : zZ g X nc ns σ pc L (.int x :: S) :=
  fun H locs ls hH hS hl => lv_if_ne C.1 C.2.1 hd ht (fun h => kt h H locs ls hH hS hl) (fun h => kf h H locs ls hH hS hl)
theorem zif_lt (C : zC g X M d mc ms) {x : Int32} {off : Int} (tgt : Nat) (hd : decode M.2.1 pc = .ok (.ifCond .lt off, 3)) (ht : (pc : Int) + off = (tgt : Int)) (kt : x < 0 → zZ g X nc ns σ tgt L S) (kf : ¬ x < 0 → zZ g X nc ns σ (pc + 3) L S) : zZ g X nc ns σ pc L (.int x :: S) :=
  fun H locs ls hH hS hl => lv_if_lt C.1 C.2.1 hd ht (fun h => kt h H locs ls hH hS hl) (fun h => kf h H locs ls hH hS hl)
theorem zif_ge (C : zC g X M d mc ms) {x : Int32} {off : Int} (tgt : Nat) (hd : decode M.2.1 pc = .ok (.ifCond .ge off, 3)) (ht : (pc : Int) + off = (tgt : Int)) (kt : 0 ≤ x → zZ g X nc ns σ tgt L S) (kf : ¬ 0 ≤ x → zZ g X nc ns σ (pc + 3) L S) : zZ g X nc ns σ pc L (.int x :: S) :=
  fun H locs ls hH hS hl => lv_if_ge C.1 C.2.1 hd ht (fun h => kt h H locs ls hH hS hl) (fun h => kf h H locs ls hH hS hl)
theorem zif_gt (C : zC g X M d mc ms) {x : Int32} {off : Int} (tgt : Nat) (hd : decode M.2.1 pc = .ok (.ifCond .gt off, 3)) (ht : (pc : Int) + off = (tgt : Int)) (kt : 0 < x → zZ g X nc ns σ tgt L S) (kf : ¬ 0 < x → zZ g X nc ns σ (pc + 3) L S) : zZ g X nc ns σ pc L (.int x :: S) :=
  fun H locs ls hH hS hl => lv_if_gt C.1 C.2.1 hd ht (fun h => kt h H locs ls hH hS hl) (fun h => kf h H locs ls hH hS hl)
theorem zif_le (C : zC g X M d mc ms) {x : Int32} {off : Int} (tgt : Nat) (hd : decode M.2.1 pc = .ok (.ifCond .le off, 3)) (ht : (pc : Int) + off = (tgt : Int)) (kt : x ≤ 0 → zZ g X nc ns σ tgt L S) (kf : ¬ x ≤ 0 → zZ g X nc ns σ (pc + 3) L S) : zZ g X nc ns σ pc L (.int x :: S) :=
  fun H locs ls hH hS hl => lv_if_le C.1 C.2.1 hd ht (fun h => kt h H locs ls hH hS hl) (fun h => kf h H locs ls hH hS hl)
theorem z_lcmp_eq (C : zC g X M d mc ms) {x y : Int64} {off : Int} (tgt : Nat) (hd : decode M.2.1 pc = .ok (.lcmp, 1)) (hd2 : decode M.2.1 (pc + 1) = .ok (.ifCond .eq off, 3)) (ht : ((pc + 1 : Nat) : Int) + off = (tgt : Int)) (kt : x = y → zZ g X nc ns σ tgt L S) (kf : ¬ x = y → zZ g X nc ns σ (pc + 1 + 3) L S) : zZ g X nc ns σ pc L (.long y :: .long x :: S) :=
  z_lcmp C hd (zif_eq C tgt hd2 ht (fun h => kt ((zlc_eq x y).mp h)) (fun h => kf (fun q => h ((zlc_eq x y).mpr q))))
theorem z_lcmp_ne (C : zC g X M d mc ms) {x y : Int64} {off : Int} (tgt : Nat) (hd : decode M.2.1 pc = .ok (.lcmp, 1)) (hd2 : decode M.2.1 (pc + 1) = .ok (.ifCond .ne off, 3)) (ht : ((pc + 1 : Nat) : Int) + off = (tgt : Int)) (kt : ¬ x = y → zZ g X nc ns σ tgt L S) (kf : x = y → zZ g X nc ns σ (pc + 1 + 3) L S) : zZ g X nc ns σ pc L (.long y :: .long x :: S) :=
  z_lcmp C hd (zif_ne C tgt hd2 ht (fun h => kt (fun q => h ((zlc_eq x y).mpr q))) (fun h => kf ((zlc_eq x y).mp h)))
theorem z_lcmp_lt (C : zC g X M d mc ms) {x y : Int64} {off : Int} (tgt : Nat) (hd : decode M.2.1 pc = .ok (.lcmp, 1)) (hd2 : decode M.2.1 (pc + 1) = .ok (.ifCond .lt off, 3)) (ht : ((pc + 1 : Nat) : Int) + off = (tgt : Int)) (kt : x < y → zZ g X nc ns σ tgt L S) (kf : ¬ x < y → zZ g X nc ns σ (pc + 1 + 3) L S) : zZ g X nc ns σ pc L (.long y :: .long x :: S) :=
  z_lcmp C hd (zif_lt C tgt hd2 ht (fun h => kt ((zlc_lt x y).mp h)) (fun h => kf (fun q => h ((zlc_lt x y).mpr q))))
theorem z_lcmp_ge (C : zC g X M d mc ms) {x y : Int64} {off : Int} (tgt : Nat) (hd : decode M.2.1 pc = .ok (.lcmp, 1)) (hd2 : decode M.2.1 (pc + 1) = .ok (.ifCond .ge off, 3)) (ht : ((pc + 1 : Nat) : Int) + off = (tgt : Int)) (kt : y ≤ x → zZ g X nc ns σ tgt L S) (kf : ¬ y ≤ x → zZ g X nc ns σ (pc + 1 + 3) L S) : zZ g X nc ns σ pc L (.long y :: .long x :: S) :=
  z_lcmp C hd (zif_ge C tgt hd2 ht (fun h => kt ((zlc_ge x y).mp h)) (fun h => kf (fun q => h ((zlc_ge x y).mpr q))))
theorem z_lcmp_gt (C : zC g X M d mc ms) {x y : Int64} {off : Int} (tgt : Nat) (hd : decode M.2.1 pc = .ok (.lcmp, 1)) (hd2 : decode M.2.1 (pc + 1) = .ok (.ifCond .gt off, 3)) (ht : ((pc + 1 : Nat) : Int) + off = (tgt : Int)) (kt : y < x → zZ g X nc ns σ tgt L S) (kf : ¬ y < x → zZ g X nc ns σ (pc + 1 + 3) L S) : zZ g X nc ns σ pc L (.long y :: .long x :: S) :=
  z_lcmp C hd (zif_gt C tgt hd2 ht (fun h => kt ((zlc_gt x y).mp h)) (fun h => kf (fun q => h ((zlc_gt x y).mpr q))))
theorem z_lcmp_le (C : zC g X M d mc ms) {x y : Int64} {off : Int} (tgt : Nat) (hd : decode M.2.1 pc = .ok (.lcmp, 1)) (hd2 : decode M.2.1 (pc + 1) = .ok (.ifCond .le off, 3)) (ht : ((pc + 1 : Nat) : Int) + off = (tgt : Int)) (kt : x ≤ y → zZ g X nc ns σ tgt L S) (kf : ¬ x ≤ y → zZ g X nc ns σ (pc + 1 + 3) L S) : zZ g X nc ns σ pc L (.long y :: .long x :: S) :=
  z_lcmp C hd (zif_le C tgt hd2 ht (fun h => kt ((zlc_le x y).mp h)) (fun h => kf (fun q => h ((zlc_le x y).mpr q))))
end ZI
end
section
/-! fields, rows, statics, making -/
def zu {α : Type} (f : Nat → Nat → α) (i k : Nat) (v : α) : Nat → Nat → α := fun a j => if a = i ∧ j = k then v else f a j
theorem zu_ne {α : Type} {f : Nat → Nat → α} {i k : Nat} {v : α} {j : Nat} (h : j ≠ i) : zu f i k v j = f j := by
  funext q
  simp [zu, h]
theorem zu_s {α : Type} {f : Nat → Nat → α} {i k : Nat} {v : α} : zu f i k v i k = v := by simp [zu]
theorem zu_n {α : Type} {f : Nat → Nat → α} {i k : Nat} {v : α} {a j : Nat} (h : ¬ (a = i ∧ j = k)) : zu f i k v a j = f a j := by simp [zu, h]
abbrev zI (σ : zSt) (i k : Nat) (v : Int) : zSt := (σ.1, zu σ.2.1 i k v, σ.2.2.1, σ.2.2.2)
abbrev zJ (σ : zSt) (i k : Nat) (v : Int64) : zSt := (σ.1, σ.2.1, zu σ.2.2.1 i k v, σ.2.2.2)
abbrev zO (σ : zSt) (i k : Nat) (v : Nat) : zSt := (σ.1, σ.2.1, σ.2.2.1, zu σ.2.2.2 i k (some v))
theorem zfs_cong {g : zG} {σ σ' : zSt} {j : Nat} (h1 : σ.2.1 j = σ'.2.1 j) (h2 : σ.2.2.1 j = σ'.2.2.1 j) (h3 : σ.2.2.2 j = σ'.2.2.2 j) (ts : List Nat) (k : Nat) : zfs g σ j ts k = zfs g σ' j ts k :=
  zfs_eq ts k (fun q t _ => by
    match t with
    | 0 => simp [zfv, h1]
    | 1 => simp [zfv, h2]
    | _ + 2 => simp [zfv, h3])
theorem zE_cong {g : zG} {σ σ' : zSt} {j : Nat} (kj : Nat × Nat) (h1 : σ.2.1 j = σ'.2.1 j) (h2 : σ.2.2.1 j = σ'.2.2.1 j) (h3 : σ.2.2.2 j = σ'.2.2.2 j) : zE g σ j kj = zE g σ' j kj := by
  simp only [zE, h1, h2, h3, zfs_cong h1 h2 h3]
/-- what a program has decided of a class -/
def zCl (ci : Nat) (R : String) (T : u_T) (N : Nat) (ty : Nat → FieldType) : Prop := ci < 7 ∧ vwCl[ci]? = some (R, T, N) ∧ (∀ w ∈ u_ws R T N, w ∈ zTb) ∧ (∀ k, k < N → parseFieldDescriptor (T k).2.2.1 = some (ty k)) ∧ (∀ a, a < N → ∀ b, b < N → a ≠ b → (T a).2.1 ≠ (T b).2.1) ∧ (zft ci).length = N
theorem zCl_of {ci : Nat} {R : String} {T : u_T} {N : Nat} {ty : Nat → FieldType} (h1 : ci < 7) (h2 : vwCl[ci]? = some (R, T, N)) (h3 : (u_ws R T N).all (fun w => decide (w ∈ lw_tbl) && goodWord w) = true) (h4 : ∀ k, k < N → parseFieldDescriptor (T k).2.2.1 = some (ty k)) (h5 : ∀ a, a < N → ∀ b, b < N → a ≠ b → (T a).2.1 ≠ (T b).2.1) (h6 : (zft ci).length = N) : zCl ci R T N ty :=
  ⟨h1, h2, fun w hw => by
    have h := List.all_eq_true.mp h3 w hw
    simp only [Bool.and_eq_true, decide_eq_true_eq] at h
    exact zTb_of h.1 h.2, h4, h5, h6⟩
theorem zCl0 : zCl 0 RX0 TX0 10 tyX0 := zCl_of (by decide) rfl (by decide +kernel) tyX0_ok nmX0 rfl
theorem zCl1 : zCl 1 RX1 TX1 6 tyX1 := zCl_of (by decide) rfl (by decide +kernel) tyX1_ok nmX1 rfl
theorem zCl2 : zCl 2 RX2 TX2 3 tyX2 := zCl_of (by decide) rfl (by decide +kernel) tyX2_ok nmX2 rfl
theorem zCl3 : zCl 3 RX3 TX3 3 tyX3 := zCl_of (by decide) rfl (by decide +kernel) tyX3_ok nmX3 rfl
theorem zCl4 : zCl 4 RX4 TX4 6 tyX4 := zCl_of (by decide) rfl (by decide +kernel) tyX4_ok nmX4 rfl
theorem zCl5 : zCl 5 RX5 TX5 8 tyX5 := zCl_of (by decide) rfl (by decide +kernel) tyX5_ok nmX5 rfl
theorem zCl6 : zCl 6 RX6 TX6 30 tyX6 := zCl_of (by decide) rfl (by decide +kernel) tyX6_ok nmX6 rfl
section ZF
variable {g : zG} {X : zX} {M : zM} {d mc ms nc ns : Nat} {σ : zSt} {pc : Nat} {L : List (Nat × Value)} {S : List Value} {ci N n i idx k : Nat} {R : String} {T : u_T} {ty : Nat → FieldType}
theorem zHp.obj {H : Heap} (h : zHp g σ H) (hi : σ.1[i]? = some (ci, n)) (hlt : ci < 7) : va_at (zD g) vwCl (za g i, .inr (ci, zfs g σ i (zft ci) 0)) H := by
  have h1 := h.2.2.2 i _ hi
  rw [zE, if_pos hlt] at h1
  exact h1
theorem va_P1 {D : va_G} {cl : List vw_C} {q : Nat × va_E} {H : Heap} (h : va_at D cl q H) : va_P D cl [q] H := by
  intro k q' hk
  match k, hk with
  | 0, hk => cases hk; exact h
  | k + 1, hk => simp at hk
theorem z_get (C : zC g X M d mc ms) (K : zCl ci R T N ty) {t : Nat} {v : Value} (hi : σ.1[i]? = some (ci, n)) (ht : (zft ci)[k]? = some t) (hv : zfv g σ i k t = zv g v) (hlk : Cond.fieldLink M.1.cls idx (T k).1 (T k).2.1 (T k).2.2.1 ∈ zTb) (hd : decode M.2.1 pc = .ok (.getfield idx, 3)) (kk : zZ g X nc ns σ (pc + 3) L (v :: S)) : zZ g X nc ns σ pc L (.ref i :: S) := by
  intro H locs ls hH hS hl
  have hk : k < N := by rw [← K.2.2.2.2.2]; exact (List.getElem?_eq_some_iff.mp ht).1
  have hat := zfs_at g σ i (zft ci) 0 k t ht
  rw [Nat.zero_add, hv] at hat
  exact va_get (D := zD g) (tys := zTy g) (ci := ci) C.1 C.2.1 C.2.2.2.2.1 K.2.2.1 C.2.2.2.1 C.2.2.2.2.2.2.2.2.2.1.1 (va_P1 (hH.obj hi K.1)) 0 rfl K.2.1 k hk (C.2.2.2.2.1 _ hlk) (fun _ h9 => h9) hat hd (kk H locs ls hH hS hl)
theorem z_getI (C : zC g X M d mc ms) (K : zCl ci R T N ty) (k : Nat) (hlk : Cond.fieldLink M.1.cls idx (T k).1 (T k).2.1 (T k).2.2.1 ∈ zTb) (ht : (zft ci)[k]? = some 0) (hi : σ.1[i]? = some (ci, n)) (hd : decode M.2.1 pc = .ok (.getfield idx, 3)) (kk : zZ g X nc ns σ (pc + 3) L (.int (iI (σ.2.1 i k)) :: S)) : zZ g X nc ns σ pc L (.ref i :: S) := z_get C K hi ht rfl hlk hd kk
theorem z_getJ (C : zC g X M d mc ms) (K : zCl ci R T N ty) (k : Nat) (hlk : Cond.fieldLink M.1.cls idx (T k).1 (T k).2.1 (T k).2.2.1 ∈ zTb) (ht : (zft ci)[k]? = some 1) (hi : σ.1[i]? = some (ci, n)) (hd : decode M.2.1 pc = .ok (.getfield idx, 3)) (kk : zZ g X nc ns σ (pc + 3) L (.long (σ.2.2.1 i k) :: S)) : zZ g X nc ns σ pc L (.ref i :: S) := z_get C K hi ht rfl hlk hd kk
theorem z_getR (C : zC g X M d mc ms) (K : zCl ci R T N ty) (k : Nat) (hlk : Cond.fieldLink M.1.cls idx (T k).1 (T k).2.1 (T k).2.2.1 ∈ zTb) (ht : (zft ci)[k]? = some 2) (hi : σ.1[i]? = some (ci, n)) {b : Nat} (hb : σ.2.2.2 i k = some b) (hd : decode M.2.1 pc = .ok (.getfield idx, 3)) (kk : zZ g X nc ns σ (pc + 3) L (.ref b :: S)) : zZ g X nc ns σ pc L (.ref i :: S) := z_get C K hi ht (v := .ref b) (by simp [zfv, hb, va_rf, zv]) hlk hd kk
/-- a field is written: what the heap is behind it -/
theorem z_putC (K : zCl ci R T N ty) {s : State} {args : Array Value} {Ts : List Cond} (hts : ∀ w ∈ Ts, w.before args s = true) (hin : ∀ w ∈ u_ws R T N, w ∈ Ts) (hK : va_K (zD g) vwCl (zTy g) s) {H : Heap} (hH : zHp g σ H) (hi : σ.1[i]? = some (ci, n)) (hk : k < N) {V : Value} :
    ∃ (cell : Cell) (cf fi : Nat) (kf : Class) (f : Field) (kC : Class) (cC : ClassId), H[za g i]? = some cell ∧ cell.cls = cC ∧ cell.vm = .none ∧ f.slot < cell.slots.size ∧ s.fieldFound? (T k).1 (T k).2.1 (T k).2.2.1 = some (cf, kf, fi, f) ∧ f.isStatic = false ∧ s.vm.findClass R = some cC ∧ s.vm.classes[cC]? = some kC ∧ kC.kind = .ordinary ∧
      ∀ (H1 : Heap) (σ' : zSt), H1[za g i]? = some (cell.setSlot f.slot V) → H1.size = H.size → (∀ q, q ≠ za g i → H1[q]? = H[q]?) → σ'.1 = σ.1 → (∀ j kj, j ≠ i → zE g σ' j kj = zE g σ j kj) → (zfs g σ i (zft ci) 0).set k V = zfs g σ' i (zft ci) 0 → zHp g σ' H1 := by
  obtain ⟨hlt, hc, -, hty, hnm, hlen⟩ := K
  have hap := va_apart (own := R) hts hin ty hty hnm hK hc
  obtain ⟨r, h1, cell, q1, q2, q3, q4⟩ := hH.obj hi hlt
  have hr : r = (R, T, N) := Option.some.inj (h1.symm.trans hc)
  subst hr
  obtain ⟨hS, hfc, kC, hkC, hkind⟩ := hK.1 ci _ hc
  obtain ⟨cf, kf, fi, f, hfi, hsl⟩ := hS k hk
  refine ⟨cell, cf, fi, kf, f, kC, _, q1, q2, q3, by rw [hsl]; exact k2_hasslot (q4 k hk), hfi, (u_facts hfc hkC (u_lays hts hin hk) hfi).1, hfc, hkC, hkind, fun H1 σ' e1 e2 e3 a1 a2 a3 => ?_⟩
  refine hH.put a1 hi e2 e3 ?_ a2
  rw [zE, if_pos hlt, ← a3]
  rw [hsl] at e1
  exact ⟨_, hc, t_OB.to (V := updV (vp_V (zfs g σ i (zft ci) 0)) k V) ⟨_, e1, q2, q3, t_set q4 hap hk V⟩ (fun j _ => vp_updV_set (by rw [zfs_len, hlen]; exact hk) V j)⟩
theorem z_put (C : zC g X M d mc ms) (K : zCl ci R T N ty) {σ' : zSt} {v : Value} (hi : σ.1[i]? = some (ci, n)) (hk : k < N) (hfin : (T k).2.2.2 = false) (hn : narrow (ty k) (zv g v) = zv g v) (hfit : fits (ty k) (zv g v) = true) (a1 : σ'.1 = σ.1) (a2 : ∀ j kj, j ≠ i → zE g σ' j kj = zE g σ j kj) (a3 : (zfs g σ i (zft ci) 0).set k (zv g v) = zfs g σ' i (zft ci) 0) (hlk : Cond.fieldLink M.1.cls idx (T k).1 (T k).2.1 (T k).2.2.1 ∈ zTb) (hd : decode M.2.1 pc = .ok (.putfield idx, 3)) (kk : zZ g X nc ns σ' (pc + 3) L S) : zZ g X nc ns σ pc L (v :: .ref i :: S) := by
  intro H locs ls hH hS hl
  have hts := C.2.2.2.2.1
  obtain ⟨cell, cf, fi, kf, f, kC, cC, b1, b2, b3, b4, b5, b6, b7, b8, b9, b10⟩ := z_putC (V := zv g v) K hts K.2.2.1 C.2.2.2.2.2.2.2.2.2.1.1 hH hi hk
  have hlay := hts _ (K.2.2.1 _ (u_in_lay hk))
  unfold u_lay at hlay
  rw [if_neg (by rw [hfin]; decide)] at hlay
  have h6 := u_store b7 b8 b9 hlay b5 (K.2.2.2.1 k hk) hn hfit
  refine W.putK C.1 C.2.1 (f := f) ⟨C.2.2.2.1, hts _ hlk, ⟨_, _, _, b5⟩, b6⟩ (by rw [b2]; exact h6) b1 b3 b4 rfl rfl hd fun H' e1 e2 e3 => ?_
  exact kk H' _ ls (b10 H' σ' e1 e2 e3 a1 a2 a3) (hS.put e2 e3 (by show zbs g ≤ za g i; rw [(hH.ad hi).1]; omega)) hl
theorem z_putF (C : zC g X M d mc ms) (K : zCl ci R T N ty) {σ' : zSt} {v : Value} (hi : σ.1[i]? = some (ci, n)) (hk : k < N) (hfin : (T k).2.2.2 = true) (hin2 : M.1.name = "<init>") (hdecl : (T k).1 = M.1.cls) (hn : narrow (ty k) (zv g v) = zv g v) (hfit : fits (ty k) (zv g v) = true) (a1 : σ'.1 = σ.1) (a2 : ∀ j kj, j ≠ i → zE g σ' j kj = zE g σ j kj) (a3 : (zfs g σ i (zft ci) 0).set k (zv g v) = zfs g σ' i (zft ci) 0) (hlk : Cond.fieldLink M.1.cls idx (T k).1 (T k).2.1 (T k).2.2.1 ∈ zTb) (hd : decode M.2.1 pc = .ok (.putfield idx, 3)) (kk : zZ g X nc ns σ' (pc + 3) L S) : zZ g X nc ns σ pc L (v :: .ref i :: S) := by
  intro H locs ls hH hS hl
  have hts := C.2.2.2.2.1
  obtain ⟨cell, cf, fi, kf, f, kC, cC, b1, b2, b3, b4, b5, b6, b7, b8, b9, b10⟩ := z_putC (V := zv g v) K hts K.2.2.1 C.2.2.2.2.2.2.2.2.2.1.1 hH hi hk
  have hlay := hts _ (K.2.2.1 _ (u_in_lay hk))
  unfold u_lay at hlay
  rw [if_pos hfin] at hlay
  have hcf : (xm X).cls = cf := by
    obtain ⟨_, _, c', _, _, _, -, -, hf', -, -, -, hown2, -⟩ := Cond.laysFinal_spec hlay
    have e1 : c' = cf := by have := b5.symm.trans hf'; simp at this; exact this.1.symm
    rw [hdecl] at hown2
    rw [← e1]; exact Option.some.inj (C.2.2.2.1.symm.trans hown2)
  have h6 := u_fits b7 b8 b9 (Or.inr hlay) b5 (K.2.2.2.1 k hk) hn hfit
  refine W.putFinK C.1 C.2.1 C.2.2.2.1 (hts _ hlk) b5 b6 hcf (C.2.2.2.2.2.2.2.2.2.2.2.trans hin2) (by rw [b2]; exact h6) b1 b3 b4 rfl rfl hd fun H' e1 e2 e3 => ?_
  exact kk H' _ ls (b10 H' σ' e1 e2 e3 a1 a2 a3) (hS.put e2 e3 (by show zbs g ≤ za g i; rw [(hH.ad hi).1]; omega)) hl
theorem zset_I (ht : (zft ci)[k]? = some 0) (v : Int) : (zfs g σ i (zft ci) 0).set k (.int (iI v)) = zfs g (zI σ i k v) i (zft ci) 0 := by
  refine zfs_set _ (List.getElem?_eq_some_iff.mp ht).1 (fun t h => ?_) (fun j t hj h => ?_)
  · cases h.symm.trans ht
    simp [zfv, zu]
  · match t with
    | 0 => simp [zfv, zu, hj]
    | 1 => rfl
    | _ + 2 => rfl
theorem zset_J (ht : (zft ci)[k]? = some 1) (v : Int64) : (zfs g σ i (zft ci) 0).set k (.long v) = zfs g (zJ σ i k v) i (zft ci) 0 := by
  refine zfs_set _ (List.getElem?_eq_some_iff.mp ht).1 (fun t h => ?_) (fun j t hj h => ?_)
  · cases h.symm.trans ht
    simp [zfv, zu]
  · match t with
    | 0 => rfl
    | 1 => simp [zfv, zu, hj]
    | _ + 2 => rfl
theorem zset_O (ht : (zft ci)[k]? = some 2) (v : Nat) : (zfs g σ i (zft ci) 0).set k (.ref (za g v)) = zfs g (zO σ i k v) i (zft ci) 0 := by
  refine zfs_set _ (List.getElem?_eq_some_iff.mp ht).1 (fun t h => ?_) (fun j t hj h => ?_)
  · cases h.symm.trans ht
    simp [zfv, zu, va_rf]
  · match t with
    | 0 => rfl
    | 1 => rfl
    | _ + 2 => simp [zfv, zu, hj]
theorem zI_ne (j : Nat) (kj : Nat × Nat) (h : j ≠ i) {v : Int} : zE g (zI σ i k v) j kj = zE g σ j kj := zE_cong kj (zu_ne h) rfl rfl
theorem zJ_ne (j : Nat) (kj : Nat × Nat) (h : j ≠ i) {v : Int64} : zE g (zJ σ i k v) j kj = zE g σ j kj := zE_cong kj rfl (zu_ne h) rfl
theorem zO_ne (j : Nat) (kj : Nat × Nat) (h : j ≠ i) {v : Nat} : zE g (zO σ i k v) j kj = zE g σ j kj := zE_cong kj rfl rfl (zu_ne h)
theorem z_putI (C : zC g X M d mc ms) (K : zCl ci R T N ty) (k : Nat) (hlk : Cond.fieldLink M.1.cls idx (T k).1 (T k).2.1 (T k).2.2.1 ∈ zTb) (ht : (zft ci)[k]? = some 0) (hty : ty k = .int) (hfin : (T k).2.2.2 = false) (hi : σ.1[i]? = some (ci, n)) {v : Int} (hd : decode M.2.1 pc = .ok (.putfield idx, 3)) (kk : zZ g X nc ns (zI σ i k v) (pc + 3) L S) : zZ g X nc ns σ pc L (.int (iI v) :: .ref i :: S) :=
  z_put (σ' := zI σ i k v) C K hi (by rw [← K.2.2.2.2.2]; exact (List.getElem?_eq_some_iff.mp ht).1) hfin (by rw [hty]; rfl) (by rw [hty]; rfl) rfl (fun j kj h => zI_ne j kj h) (zset_I ht v) hlk hd kk
theorem z_putZ (C : zC g X M d mc ms) (K : zCl ci R T N ty) (k : Nat) (hlk : Cond.fieldLink M.1.cls idx (T k).1 (T k).2.1 (T k).2.2.1 ∈ zTb) (ht : (zft ci)[k]? = some 0) (hty : ty k = .boolean) (hfin : (T k).2.2.2 = false) (hi : σ.1[i]? = some (ci, n)) {v : Int} (hv : v = 0 ∨ v = 1) (hd : decode M.2.1 pc = .ok (.putfield idx, 3)) (kk : zZ g X nc ns (zI σ i k v) (pc + 3) L S) : zZ g X nc ns σ pc L (.int (iI v) :: .ref i :: S) :=
  z_put (σ' := zI σ i k v) C K hi (by rw [← K.2.2.2.2.2]; exact (List.getElem?_eq_some_iff.mp ht).1) hfin (by rw [hty]; exact zb_nar (by rcases hv with rfl | rfl <;> decide)) (by rw [hty]; rcases hv with rfl | rfl <;> rfl) rfl (fun j kj h => zI_ne j kj h) (zset_I ht v) hlk hd kk
theorem z_putJ (C : zC g X M d mc ms) (K : zCl ci R T N ty) (k : Nat) (hlk : Cond.fieldLink M.1.cls idx (T k).1 (T k).2.1 (T k).2.2.1 ∈ zTb) (ht : (zft ci)[k]? = some 1) (hty : ty k = .long) (hfin : (T k).2.2.2 = false) (hi : σ.1[i]? = some (ci, n)) {v : Int64} (hd : decode M.2.1 pc = .ok (.putfield idx, 3)) (kk : zZ g X nc ns (zJ σ i k v) (pc + 3) L S) : zZ g X nc ns σ pc L (.long v :: .ref i :: S) :=
  z_put (σ' := zJ σ i k v) C K hi (by rw [← K.2.2.2.2.2]; exact (List.getElem?_eq_some_iff.mp ht).1) hfin (by rw [hty]; rfl) (by rw [hty]; rfl) rfl (fun j kj h => zJ_ne j kj h) (zset_J ht v) hlk hd kk
theorem z_putR (C : zC g X M d mc ms) (K : zCl ci R T N ty) (k : Nat) (hlk : Cond.fieldLink M.1.cls idx (T k).1 (T k).2.1 (T k).2.2.1 ∈ zTb) (ht : (zft ci)[k]? = some 2) {v : Nat} (hty : narrow (ty k) (.ref (za g v)) = .ref (za g v) ∧ fits (ty k) (.ref (za g v)) = true) (hfin : (T k).2.2.2 = false) (hi : σ.1[i]? = some (ci, n)) (hd : decode M.2.1 pc = .ok (.putfield idx, 3)) (kk : zZ g X nc ns (zO σ i k v) (pc + 3) L S) : zZ g X nc ns σ pc L (.ref v :: .ref i :: S) :=
  z_put (σ' := zO σ i k v) C K hi (by rw [← K.2.2.2.2.2]; exact (List.getElem?_eq_some_iff.mp ht).1) hfin hty.1 hty.2 rfl (fun j kj h => zO_ne j kj h) (zset_O ht v) hlk hd kk
theorem z_putFR (C : zC g X M d mc ms) (K : zCl ci R T N ty) (k : Nat) (hlk : Cond.fieldLink M.1.cls idx (T k).1 (T k).2.1 (T k).2.2.1 ∈ zTb) (ht : (zft ci)[k]? = some 2) {v : Nat} (hty : narrow (ty k) (.ref (za g v)) = .ref (za g v) ∧ fits (ty k) (.ref (za g v)) = true) (hfin : (T k).2.2.2 = true) (hin2 : M.1.name = "<init>") (hdecl : (T k).1 = M.1.cls) (hi : σ.1[i]? = some (ci, n)) (hd : decode M.2.1 pc = .ok (.putfield idx, 3)) (kk : zZ g X nc ns (zO σ i k v) (pc + 3) L S) : zZ g X nc ns σ pc L (.ref v :: .ref i :: S) :=
  z_putF (σ' := zO σ i k v) C K hi (by rw [← K.2.2.2.2.2]; exact (List.getElem?_eq_some_iff.mp ht).1) hfin hin2 hdecl hty.1 hty.2 rfl (fun j kj h => zO_ne j kj h) (zset_O ht v) hlk hd kk
end ZF
end
section
/-! rows of values, statics, making -/
section ZE
variable {g : zG} {X : zX} {M : zM} {d mc ms nc ns : Nat} {σ : zSt} {pc : Nat} {L : List (Nat × Value)} {S : List Value} {ci N n i idx k : Nat} {R : String} {T : u_T} {ty : Nat → FieldType}
theorem zE_7 : zE g σ i (7, n) = .inl (zcy g 0, n, .inl (fun k => iI (σ.2.1 i k))) := by simp [zE]
theorem zE_8 : zE g σ i (8, n) = .inl (zcy g 1, n, .inr (.inl (σ.2.2.1 i))) := by simp [zE]
theorem zE_9 : zE g σ i (9, n) = .inl (zcy g 2, n, .inl (fun k => iI (σ.2.1 i k))) := by simp [zE]
theorem zE_10 : zE g σ i (10, n) = .inl (zcy g 3, n, .inr (.inr (.inr (.inr (fun k => (σ.2.2.2 i k).map (za g)))))) := by simp [zE]
theorem zE_11 : zE g σ i (11, n) = .inl (zcy g 4, n, .inr (.inr (.inr (.inr (fun k => (σ.2.2.2 i k).map (za g)))))) := by simp [zE]
theorem zHp.row7 {H : Heap} (h : zHp g σ H) (hi : σ.1[i]? = some (7, n)) : va_at (zD g) vwCl (za g i, .inl (zcy g 0, n, .inl (fun k => iI (σ.2.1 i k)))) H := by rw [← zE_7]; exact h.2.2.2 i _ hi
theorem zHp.row8 {H : Heap} (h : zHp g σ H) (hi : σ.1[i]? = some (8, n)) : va_at (zD g) vwCl (za g i, .inl (zcy g 1, n, .inr (.inl (σ.2.2.1 i)))) H := by rw [← zE_8]; exact h.2.2.2 i _ hi
theorem zHp.row9 {H : Heap} (h : zHp g σ H) (hi : σ.1[i]? = some (9, n)) : va_at (zD g) vwCl (za g i, .inl (zcy g 2, n, .inl (fun k => iI (σ.2.1 i k)))) H := by rw [← zE_9]; exact h.2.2.2 i _ hi
theorem zHp.row10 {H : Heap} (h : zHp g σ H) (hi : σ.1[i]? = some (10, n)) : va_at (zD g) vwCl (za g i, .inl (zcy g 3, n, .inr (.inr (.inr (.inr (fun k => (σ.2.2.2 i k).map (za g))))))) H := by rw [← zE_10]; exact h.2.2.2 i _ hi
theorem zHp.row11 {H : Heap} (h : zHp g σ H) (hi : σ.1[i]? = some (11, n)) : va_at (zD g) vwCl (za g i, .inl (zcy g 4, n, .inr (.inr (.inr (.inr (fun k => (σ.2.2.2 i k).map (za g))))))) H := by rw [← zE_11]; exact h.2.2.2 i _ hi
theorem z_iald (C : zC g X M d mc ms) {j : Int} (e : Nat) (hj : j = e) (hi : σ.1[i]? = some (7, n)) (he : e < n) (hn : n < 2 ^ 31) (hd : decode M.2.1 pc = .ok (.iaload, 1)) (kk : zZ g X nc ns σ (pc + 1) L (.int (iI (σ.2.1 i e)) :: S)) : zZ g X nc ns σ pc L (.int (iI j) :: .ref i :: S) := by
  subst hj
  rw [← iI_nI]
  intro H locs ls hH hS hl
  refine va_iald (D := zD g) (cl := vwCl) (tys := zTy g) C.1 C.2.1 C.2.2.2.2.2.2.2.2.2.1.1 (va_P1 (hH.row7 hi)) 0 0 rfl rfl (vp_in_nI he hn) hd ?_
  rw [nI_clamp (show e < 2 ^ 31 by omega)]
  exact kk H locs ls hH hS hl
theorem z_zald (C : zC g X M d mc ms) {j : Int} (e : Nat) (hj : j = e) (hi : σ.1[i]? = some (9, n)) (he : e < n) (hn : n < 2 ^ 31) (hd : decode M.2.1 pc = .ok (.baload, 1)) (kk : zZ g X nc ns σ (pc + 1) L (.int (iI (σ.2.1 i e)) :: S)) : zZ g X nc ns σ pc L (.int (iI j) :: .ref i :: S) := by
  subst hj
  rw [← iI_nI]
  intro H locs ls hH hS hl
  refine va_zald (D := zD g) (cl := vwCl) (tys := zTy g) C.1 C.2.1 C.2.2.2.2.2.2.2.2.2.1.1 (va_P1 (hH.row9 hi)) 0 2 rfl rfl (vp_in_nI he hn) hd ?_
  rw [nI_clamp (show e < 2 ^ 31 by omega)]
  exact kk H locs ls hH hS hl
theorem z_lald (C : zC g X M d mc ms) {j : Int} (e : Nat) (hj : j = e) (hi : σ.1[i]? = some (8, n)) (he : e < n) (hn : n < 2 ^ 31) (hd : decode M.2.1 pc = .ok (.laload, 1)) (kk : zZ g X nc ns σ (pc + 1) L (.long (σ.2.2.1 i e) :: S)) : zZ g X nc ns σ pc L (.int (iI j) :: .ref i :: S) := by
  subst hj
  rw [← iI_nI]
  intro H locs ls hH hS hl
  refine va_lald (D := zD g) (cl := vwCl) (tys := zTy g) C.1 C.2.1 C.2.2.2.2.2.2.2.2.2.1.1 (va_P1 (hH.row8 hi)) 0 1 rfl rfl (vp_in_nI he hn) hd ?_
  rw [nI_clamp (show e < 2 ^ 31 by omega)]
  exact kk H locs ls hH hS hl
/-- of a row of references, of kind 10 (SHELVES) or 11 (Spots) -/
theorem z_aald (C : zC g X M d mc ms) {j : Int} (e : Nat) (kd : Nat) (hkd : kd = 10 ∨ kd = 11) (hj : j = e) (hi : σ.1[i]? = some (kd, n)) (he : e < n) (hn : n < 2 ^ 31) {b : Nat} (hb : σ.2.2.2 i e = some b) (hd : decode M.2.1 pc = .ok (.aaload, 1)) (kk : zZ g X nc ns σ (pc + 1) L (.ref b :: S)) : zZ g X nc ns σ pc L (.int (iI j) :: .ref i :: S) := by
  subst hj
  rw [← iI_nI]
  intro H locs ls hH hS hl
  have hk := kk H locs ls hH hS hl
  rcases hkd with rfl | rfl
  · refine va_aldq (D := zD g) (cl := vwCl) (tys := zTy g) (cA := zcy g 3) (f := fun k => (σ.2.2.2 i k).map (za g)) C.1 C.2.1 C.2.2.2.2.2.2.2.2.2.1.1 (va_P1 (hH.row10 hi)) 0 3 rfl rfl (vp_in_nI he hn) hd ?_
    rw [nI_clamp (show e < 2 ^ 31 by omega), hb]
    exact hk
  · refine va_aldq (D := zD g) (cl := vwCl) (tys := zTy g) (cA := zcy g 4) (f := fun k => (σ.2.2.2 i k).map (za g)) C.1 C.2.1 C.2.2.2.2.2.2.2.2.2.1.1 (va_P1 (hH.row11 hi)) 0 4 rfl rfl (vp_in_nI he hn) hd ?_
    rw [nI_clamp (show e < 2 ^ 31 by omega), hb]
    exact hk
theorem z_alen (C : zC g X M d mc ms) (kd t : Nat) {c : ClassId} {ty : FieldType} {x : vp_A} (hi : σ.1[i]? = some (kd, n)) (hx : zE g σ i (kd, n) = .inl (c, x)) (hn : x.1 = n) (ht : (zTy g)[t]? = some (c, ty)) (hd : decode M.2.1 pc = .ok (.arraylength, 1)) (kk : zZ g X nc ns σ (pc + 1) L (.int (iI n) :: S)) : zZ g X nc ns σ pc L (.ref i :: S) := by
  intro H locs ls hH hS hl
  have h1 := hH.2.2.2 i _ hi
  rw [hx] at h1
  exact va_alen (D := zD g) (cl := vwCl) (tys := zTy g) C.1 C.2.1 C.2.2.2.2.2.2.2.2.2.1.1 (va_P1 h1) 0 t rfl ht (v := nI n) (by rw [hn]; rfl) hd (kk H locs ls hH hS hl)
theorem zA_in {H : Heap} (hH : zHp g σ H) {kd : Nat × Nat} (hi : σ.1[i]? = some kd) : zA g (za g i) := by
  show zbs g ≤ za g i
  rw [(hH.ad hi).1]
  omega
theorem zupd {α : Type} (f : Nat → α) (e : Nat) (v : α) (W : α → Value) : updV (fun j => W (f j)) e (W v) = fun j => W (if j = e then v else f j) := by
  funext q
  by_cases h : q = e <;> simp [updV, h]
theorem z_iast (C : zC g X M d mc ms) {j : Int} (e : Nat) (hj : j = e) (hi : σ.1[i]? = some (7, n)) (he : e < n) (hn : n < 2 ^ 31) {v : Int} (hd : decode M.2.1 pc = .ok (.iastore, 1)) (kk : zZ g X nc ns (zI σ i e v) (pc + 1) L S) : zZ g X nc ns σ pc L (.int (iI v) :: .int (iI j) :: .ref i :: S) := by
  subst hj
  rw [← iI_nI]
  intro H locs ls hH hS hl
  have hK := C.2.2.2.2.2.2.2.2.2.1.1
  refine W.iast C.1 C.2.1 (hH.row7 hi) ((hK.2 0 _ rfl).1 n (fun j => .int (iI (σ.2.1 i j)))) (fun q => by cases q) (by show ¬ (nI e < 0 ∨ (arrV _ _ _).slots.size ≤ _); rw [arrV_size]; exact vp_in_nI he hn) rfl rfl hd fun H1 h1 z oq => ?_
  rw [nI_clamp (show e < 2 ^ 31 by omega)] at h1
  refine kk H1 _ ls (hH.put (σ' := zI σ i e v) rfl hi z oq ?_ (fun j kj h => zI_ne j kj h)) (hS.put z oq (zA_in hH hi)) hl
  rw [zE_7]
  show H1[za g i]? = some (vp_cell _ _)
  rw [h1, vp_cell_i, vp_cell_i, arrV_store, zupd (σ.2.1 i) e v (fun z => .int (iI z))]
  congr 2
  funext q
  simp [zu]
theorem z_zast (C : zC g X M d mc ms) {j : Int} (e : Nat) (hj : j = e) (hi : σ.1[i]? = some (9, n)) (he : e < n) (hn : n < 2 ^ 31) {v : Int} (hv : v = 0 ∨ v = 1) (hd : decode M.2.1 pc = .ok (.bastore, 1)) (kk : zZ g X nc ns (zI σ i e v) (pc + 1) L S) : zZ g X nc ns σ pc L (.int (iI v) :: .int (iI j) :: .ref i :: S) := by
  subst hj
  rw [← iI_nI]
  intro H locs ls hH hS hl
  have hK := C.2.2.2.2.2.2.2.2.2.1.1
  refine W.zast C.1 C.2.1 (hH.row9 hi) ((hK.2 2 _ rfl).1 n (fun j => .int (iI (σ.2.1 i j)))) (fun q => by cases q) (by show ¬ (nI e < 0 ∨ (arrV _ _ _).slots.size ≤ _); rw [arrV_size]; exact vp_in_nI he hn) rfl rfl hd fun H1 h1 z oq => ?_
  rw [nI_clamp (show e < 2 ^ 31 by omega), zb_nar (show iI v = 0 ∨ iI v = 1 by rcases hv with rfl | rfl <;> decide)] at h1
  refine kk H1 _ ls (hH.put (σ' := zI σ i e v) rfl hi z oq ?_ (fun j kj h => zI_ne j kj h)) (hS.put z oq (zA_in hH hi)) hl
  rw [zE_9]
  show H1[za g i]? = some (vp_cell _ _)
  rw [h1, vp_cell_i, vp_cell_i, arrV_store, zupd (σ.2.1 i) e v (fun z => .int (iI z))]
  congr 2
  funext q
  simp [zu]
theorem z_last (C : zC g X M d mc ms) {j : Int} (e : Nat) (hj : j = e) (hi : σ.1[i]? = some (8, n)) (he : e < n) (hn : n < 2 ^ 31) {v : Int64} (hd : decode M.2.1 pc = .ok (.lastore, 1)) (kk : zZ g X nc ns (zJ σ i e v) (pc + 1) L S) : zZ g X nc ns σ pc L (.long v :: .int (iI j) :: .ref i :: S) := by
  subst hj
  rw [← iI_nI]
  intro H locs ls hH hS hl
  have hK := C.2.2.2.2.2.2.2.2.2.1.1
  refine W.last C.1 C.2.1 (hH.row8 hi) ((hK.2 1 _ rfl).1 n (fun j => .long (σ.2.2.1 i j))) (fun q => by cases q) (by show ¬ (nI e < 0 ∨ (arrV _ _ _).slots.size ≤ _); rw [arrV_size]; exact vp_in_nI he hn) rfl rfl hd fun H1 h1 z oq => ?_
  rw [nI_clamp (show e < 2 ^ 31 by omega)] at h1
  refine kk H1 _ ls (hH.put (σ' := zJ σ i e v) rfl hi z oq ?_ (fun j kj h => zJ_ne j kj h)) (hS.put z oq (zA_in hH hi)) hl
  rw [zE_8]
  show H1[za g i]? = some (vp_cell _ _)
  rw [h1, vp_cell_l, vp_cell_l, arrV_store, zupd (σ.2.2.1 i) e v .long]
  congr 2
  funext q
  simp [zu]
/-- statics -/
theorem z_gets (C : zC g X M d mc ms) {q : String × List Int} (hq : zSN[k]? = some q) (hlk : Cond.fieldLink M.1.cls idx RX5 q.1 "[I" ∈ zTb) (hd : decode M.2.1 pc = .ok (.getstatic idx, 3)) (kk : zZ g X nc ns σ (pc + 3) L (.ref (1000 + k) :: S)) : zZ g X nc ns σ pc L S :=
  fun H locs ls hH hS hl => va_gets C.1 C.2.1 (C.2.2.2.2.2.2.2.2.2.1.2.2.1 k q hq).1 hS C.2.2.2.1 (C.2.2.2.2.1 _ hlk) (fun _ h => h) hd (kk H locs ls hH hS hl)
theorem z_getsN (C : zC g X M d mc ms) {q : String × List Int} (hq : zSN[k]? = some q) {host : String} (hlk : Cond.fieldLinkNest M.1.cls idx RX5 q.1 "[I" host ∈ zNw) (ho : (Cond.fieldLinkNest M.1.cls idx RX5 q.1 "[I" host).onTables = true) (hd : decode M.2.1 pc = .ok (.getstatic idx, 3)) (kk : zZ g X nc ns σ (pc + 3) L (.ref (1000 + k) :: S)) : zZ g X nc ns σ pc L S :=
  fun H locs ls hH hS hl => va_getsN C.1 C.2.1 (C.2.2.2.2.2.2.2.2.2.1.2.2.1 k q hq).1 hS C.2.2.2.1 (va_Nw.use ho (C.2.2.2.2.2.2.2.2.2.1.2.1 _ hlk)) (fun _ h => h) hd (kk H locs ls hH hS hl)
theorem z_ialdS (C : zC g X M d mc ms) {q : String × List Int} (hq : zSN[k]? = some q) {j : Int} (e : Nat) (hj : j = e) (he : e < q.2.length) (hn : q.2.length < 2 ^ 31) (hd : decode M.2.1 pc = .ok (.iaload, 1)) (kk : zZ g X nc ns σ (pc + 1) L (.int (iI (q.2.getD e 0)) :: S)) : zZ g X nc ns σ pc L (.int (iI j) :: .ref (1000 + k) :: S) := by
  subst hj
  rw [← iI_nI]
  intro H locs ls hH hS hl
  refine va_ti C.1 C.2.1 (C.2.2.2.2.2.2.2.2.2.1.2.2.1 k q hq).2 hS (vp_in_nI he hn) (v := .int (iI (q.2.getD e 0))) (by rw [nI_clamp (show e < 2 ^ 31 by omega)]) hd (kk H locs ls hH hS hl)
/-- a literal -/
theorem z_ldcS (C : zC g X M d mc ms) {q : Nat} (tx : String) (hq : (M.1.cls, idx, tx, q) ∈ zTn) (hd : decode M.2.1 pc = .ok (.ldc idx, 2)) (kk : zZ g X nc ns σ (pc + 2) L (.ref (1010 + q) :: S)) : zZ g X nc ns σ pc L S :=
  fun H locs ls hH hS hl => va_ldcS C.1 C.2.1 C.2.2.2.1 (C.2.2.2.2.2.2.2.2.2.1.2.2.2.1 _ hq) hd (kk H locs ls hH hS hl)
end ZE
end
section
/-! System.arraycopy, over the whole world -/
def zWs (g : zG) (σ : zSt) : va_W := (List.range σ.1.length).map (fun i => (za g i, zE g σ i (σ.1.getD i (0, 0))))
section ZP
variable {g : zG} {X : zX} {M : zM} {d mc ms nc ns : Nat} {σ : zSt} {pc : Nat} {L : List (Nat × Value)} {S : List Value} {idx : Nat}
theorem zWs_at {i : Nat} {kd : Nat × Nat} (hi : σ.1[i]? = some kd) : (zWs g σ)[i]? = some (za g i, zE g σ i kd) := by
  have hl := (List.getElem?_eq_some_iff.mp hi).1
  have he : σ.1[i] = kd := Option.some.inj ((List.getElem?_eq_getElem hl).symm.trans hi)
  simp [zWs, hl, he]
theorem zWs_of {k : Nat} {q : Nat × va_E} (h : (zWs g σ)[k]? = some q) : ∃ kd, σ.1[k]? = some kd ∧ q = (za g k, zE g σ k kd) := by
  have hl : k < σ.1.length := by
    have := (List.getElem?_eq_some_iff.mp h).1
    simpa [zWs] using this
  refine ⟨σ.1[k], List.getElem?_eq_getElem hl, ?_⟩
  have h2 := zWs_at (g := g) (List.getElem?_eq_getElem hl)
  exact (Option.some.inj (h2.symm.trans h)).symm
theorem zHp.ws {H : Heap} (h : zHp g σ H) : va_P (zD g) vwCl (zWs g σ) H := by
  intro k q hk
  obtain ⟨kd, h1, rfl⟩ := zWs_of hk
  exact h.2.2.2 k kd h1
theorem zHp.wd {H : Heap} (h : zHp g σ H) : va_D (zA g) (zWs g σ) := by
  refine ⟨fun i j p q hi hj e => ?_, fun k q hk => ?_⟩
  · obtain ⟨k1, a1, rfl⟩ := zWs_of hi
    obtain ⟨k2, a2, rfl⟩ := zWs_of hj
    simp only [(h.ad a1).1, (h.ad a2).1] at e
    omega
  · obtain ⟨kd, h1, rfl⟩ := zWs_of hk
    exact zA_in h h1
theorem zHp.set {H H1 : Heap} (h : zHp g σ H) (hN : zNA ≤ σ.1.length) {σ' : zSt} (h1 : σ'.1 = σ.1) {i : Nat} {kd : Nat × Nat} {e : va_E} (hi : σ.1[i]? = some kd) (hP : va_P (zD g) vwCl ((zWs g σ).set i (za g i, e)) H1) (he : zE g σ' i kd = e) (hs : ∀ j kj, j ≠ i → zE g σ' j kj = zE g σ j kj) : zHp g σ' H1 := by
  have hc : ∀ j kj, σ'.1[j]? = some kj → va_at (zD g) vwCl (za g j, zE g σ' j kj) H1 := by
    intro j kj hj
    rw [h1] at hj
    have hw := zWs_at (g := g) hj
    by_cases q : j = i
    · subst q
      cases hj.symm.trans hi
      rw [he]
      exact hP j _ (List.getElem?_set_self (List.getElem?_eq_some_iff.mp hw).1)
    · rw [hs j kj q]
      exact hP j _ (by rw [List.getElem?_set_ne (Ne.symm q)]; exact hw)
  have hlen : 0 < σ.1.length := Nat.lt_of_lt_of_le (by decide) hN
  have hl : σ.1.length - 1 < σ.1.length := by omega
  have h5 := (hc (σ.1.length - 1) σ.1[σ.1.length - 1] (by rw [h1]; exact List.getElem?_eq_getElem hl)).lt
  have h6 := (h.ad (List.getElem?_eq_getElem hl)).1
  simp only [h6] at h5
  refine ⟨by rw [h1]; omega, fun q => ?_, by rw [h1]; exact h.2.2.1, hc⟩
  rw [h1] at q
  omega
def zcp {α : Type} (f : Nat → Nat → α) (a b sp dp n : Nat) : Nat → Nat → α := fun i k => if i = b then va_cpy (f a) (f b) sp dp n k else f i k
theorem zcp_b {α : Type} {f : Nat → Nat → α} {a b sp dp n : Nat} : zcp f a b sp dp n b = va_cpy (f a) (f b) sp dp n := by
  funext k
  simp [zcp]
theorem zcp_ne {α : Type} {f : Nat → Nat → α} {a b sp dp n i : Nat} (h : i ≠ b) : zcp f a b sp dp n i = f i := by
  funext k
  simp [zcp, h]
abbrev zcpI (σ : zSt) (a b sp dp n : Nat) : zSt := (σ.1, zcp σ.2.1 a b sp dp n, σ.2.2.1, σ.2.2.2)
abbrev zcpJ (σ : zSt) (a b sp dp n : Nat) : zSt := (σ.1, σ.2.1, zcp σ.2.2.1 a b sp dp n, σ.2.2.2)
theorem zcp_iI (f g : Nat → Int) (sp dp n : Nat) : (va_cpy (fun k => iI (f k)) (fun k => iI (g k)) sp dp n) = fun k => iI (va_cpy f g sp dp n k) := by
  funext k
  simp only [va_cpy]
  split <;> rfl
theorem znfw : nativeFrameWords "java/lang/System" "arraycopy" 5 + 11 ≤ 40 := by decide
theorem z_cpI (C : zC g X M d mc ms) (hlk : Cond.methodLink M.1.cls idx arraycopyName ∈ zTb) (hnat : Cond.native arraycopyName ∈ zTb) (hst : Cond.static arraycopyName ∈ zTb) (hini : Cond.initialized "java/lang/System" ∈ zTb) {x y z : Int} {a b n0 n1 : Nat} (sp dp n : Nat) (hx : x = sp) (hy : y = dp) (hz : z = n) (ha : σ.1[a]? = some (7, n0)) (hb : σ.1[b]? = some (7, n1)) (h0 : sp + n ≤ n0) (h1 : dp + n ≤ n1) (hs0 : n0 < 2 ^ 30) (hs1 : n1 < 2 ^ 30) (hN : zNA ≤ σ.1.length) (h1d : 1 ≤ d) (hw : (S.map fun v => v.category).sum ≤ 8)
    (hd : decode M.2.1 pc = .ok (.invokestatic idx, 3)) (kk : zZ g X nc ns (zcpI σ a b sp dp n) (pc + 3) L S) : zZ g X nc ns σ pc L (.int (iI z) :: .int (iI y) :: .ref b :: .int (iI x) :: .ref a :: S) := by
  subst hx; subst hy; subst hz
  intro H locs ls hH hS hl
  have hts := C.2.2.2.2.1
  have wa := zWs_at (g := g) ha
  have wb := zWs_at (g := g) hb
  rw [zE_7] at wa wb
  have hr := C.2.2.2.2.2.2.2.1
  have hm := C.2.2.1
  have c1 : (iI (sp : Int)).toNatClampNeg = sp := nI_clamp (n := sp) (by omega)
  have c2 : (iI (dp : Int)).toNatClampNeg = dp := nI_clamp (n := dp) (by omega)
  have c3 : (iI (n : Int)).toNatClampNeg = n := nI_clamp (n := n) (by omega)
  refine va_copyi (D := zD g) (cl := vwCl) (tys := zTy g) (ty := .int) C.1 C.2.1 hl.1.symm C.2.2.2.1 (hts _ hlk) (hts _ hnat) (hts _ hst) (hts _ hini) C.2.2.2.2.2.2.2.2.2.1.1 hH.ws hH.wd hS a b 0 0 wa wb rfl rfl rfl (nI_pos (n := sp) (by omega)) (nI_pos (n := dp) (by omega)) (nI_pos (n := n) (by omega)) (by rw [c1, c3]; exact h0) (by rw [c2, c3]; exact h1) (fun _ _ => rfl) (by omega) (by rw [zcat]; have := znfw; omega) hd (fun H1 locs1 hP hD hS1 => ?_)
  rw [c1, c2, c3, zcp_iI] at hP
  exact kk H1 locs1 ls (hH.set hN (σ' := zcpI σ a b sp dp n) rfl hb hP (by rw [zE_7]; simp only [zcp_b]) (fun j kj h => zE_cong kj (zcp_ne h) rfl rfl)) hS1 hl
theorem z_cpJ (C : zC g X M d mc ms) (hlk : Cond.methodLink M.1.cls idx arraycopyName ∈ zTb) (hnat : Cond.native arraycopyName ∈ zTb) (hst : Cond.static arraycopyName ∈ zTb) (hini : Cond.initialized "java/lang/System" ∈ zTb) {x y z : Int} {a b n0 n1 : Nat} (sp dp n : Nat) (hx : x = sp) (hy : y = dp) (hz : z = n) (ha : σ.1[a]? = some (8, n0)) (hb : σ.1[b]? = some (8, n1)) (h0 : sp + n ≤ n0) (h1 : dp + n ≤ n1) (hs0 : n0 < 2 ^ 30) (hs1 : n1 < 2 ^ 30) (hN : zNA ≤ σ.1.length) (h1d : 1 ≤ d) (hw : (S.map fun v => v.category).sum ≤ 8)
    (hd : decode M.2.1 pc = .ok (.invokestatic idx, 3)) (kk : zZ g X nc ns (zcpJ σ a b sp dp n) (pc + 3) L S) : zZ g X nc ns σ pc L (.int (iI z) :: .int (iI y) :: .ref b :: .int (iI x) :: .ref a :: S) := by
  subst hx; subst hy; subst hz
  intro H locs ls hH hS hl
  have hts := C.2.2.2.2.1
  have wa := zWs_at (g := g) ha
  have wb := zWs_at (g := g) hb
  rw [zE_8] at wa wb
  have hr := C.2.2.2.2.2.2.2.1
  have hm := C.2.2.1
  have c1 : (iI (sp : Int)).toNatClampNeg = sp := nI_clamp (n := sp) (by omega)
  have c2 : (iI (dp : Int)).toNatClampNeg = dp := nI_clamp (n := dp) (by omega)
  have c3 : (iI (n : Int)).toNatClampNeg = n := nI_clamp (n := n) (by omega)
  refine va_copyl (D := zD g) (cl := vwCl) (tys := zTy g) (ty := .long) C.1 C.2.1 hl.1.symm C.2.2.2.1 (hts _ hlk) (hts _ hnat) (hts _ hst) (hts _ hini) C.2.2.2.2.2.2.2.2.2.1.1 hH.ws hH.wd hS a b 1 1 wa wb rfl rfl rfl (nI_pos (n := sp) (by omega)) (nI_pos (n := dp) (by omega)) (nI_pos (n := n) (by omega)) (by rw [c1, c3]; exact h0) (by rw [c2, c3]; exact h1) (fun _ _ => rfl) (by omega) (by rw [zcat]; have := znfw; omega) hd (fun H1 locs1 hP hD hS1 => ?_)
  rw [c1, c2, c3] at hP
  exact kk H1 locs1 ls (hH.set hN (σ' := zcpJ σ a b sp dp n) rfl hb hP (by rw [zE_8]; simp only [zcp_b]) (fun j kj h => zE_cong kj rfl (zcp_ne h) rfl)) hS1 hl
end ZP
end
