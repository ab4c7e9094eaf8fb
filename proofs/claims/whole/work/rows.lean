section
/-- a private method of a class that the tables say can be made, by its rows of tables_1 -/
def lw_okq (q : MethodName × Nat) : Prop := (q.1.cls ≠ "java/lang/invoke/MethodHandle" ∧ q.1.cls ≠ "java/lang/invoke/VarHandle") ∧ Cond.instantiable q.1.cls q.2 ∈ tables_1 ∧ Cond.privateMethod q.1 ∈ tables_1 ∧ Cond.instanceMethod q.1 ∈ tables_1
theorem lw_p0 : lw_okq (⟨"TwoBells", "hearsAllRung", "(I)Z"⟩, 9) := ⟨⟨by decide +kernel, by decide +kernel⟩, List.mem_of_getElem? (i := 24) (by decide +kernel), List.mem_of_getElem? (i := 645) (by decide +kernel), List.mem_of_getElem? (i := 646) (by decide +kernel)⟩
theorem lw_p1 : lw_okq (⟨"TwoBells$Tape", "step", "()V"⟩, 14) := ⟨⟨by decide +kernel, by decide +kernel⟩, List.mem_of_getElem? (i := 124) (by decide +kernel), List.mem_of_getElem? (i := 673) (by decide +kernel), List.mem_of_getElem? (i := 674) (by decide +kernel)⟩
theorem lw_p2 : lw_okq (⟨"TwoBells$Tape", "byteAt", "(I)I"⟩, 14) := ⟨⟨by decide +kernel, by decide +kernel⟩, List.mem_of_getElem? (i := 124) (by decide +kernel), List.mem_of_getElem? (i := 677) (by decide +kernel), List.mem_of_getElem? (i := 678) (by decide +kernel)⟩
theorem lw_p3 : lw_okq (⟨"TwoBells$Tape", "keyHere", "()I"⟩, 14) := ⟨⟨by decide +kernel, by decide +kernel⟩, List.mem_of_getElem? (i := 124) (by decide +kernel), List.mem_of_getElem? (i := 684) (by decide +kernel), List.mem_of_getElem? (i := 685) (by decide +kernel)⟩
theorem lw_p4 : lw_okq (⟨"TwoBells$Tape", "isWord", "(Ljava/lang/String;)Z"⟩, 14) := ⟨⟨by decide +kernel, by decide +kernel⟩, List.mem_of_getElem? (i := 124) (by decide +kernel), List.mem_of_getElem? (i := 689) (by decide +kernel), List.mem_of_getElem? (i := 690) (by decide +kernel)⟩
theorem lw_p5 : lw_okq (⟨"TwoBells$Tape", "takesPiece", "()Z"⟩, 14) := ⟨⟨by decide +kernel, by decide +kernel⟩, List.mem_of_getElem? (i := 124) (by decide +kernel), List.mem_of_getElem? (i := 744) (by decide +kernel), List.mem_of_getElem? (i := 745) (by decide +kernel)⟩
theorem lw_p6 : lw_okq (⟨"TwoBells$Tape", "takesTerm", "()Z"⟩, 14) := ⟨⟨by decide +kernel, by decide +kernel⟩, List.mem_of_getElem? (i := 124) (by decide +kernel), List.mem_of_getElem? (i := 748) (by decide +kernel), List.mem_of_getElem? (i := 749) (by decide +kernel)⟩
theorem lw_p7 : lw_okq (⟨"TwoBells$Tape", "numberHere", "()I"⟩, 14) := ⟨⟨by decide +kernel, by decide +kernel⟩, List.mem_of_getElem? (i := 124) (by decide +kernel), List.mem_of_getElem? (i := 752) (by decide +kernel), List.mem_of_getElem? (i := 753) (by decide +kernel)⟩
theorem lw_p8 : lw_okq (⟨"TwoBells$Tape", "emit", "(I)V"⟩, 14) := ⟨⟨by decide +kernel, by decide +kernel⟩, List.mem_of_getElem? (i := 124) (by decide +kernel), List.mem_of_getElem? (i := 756) (by decide +kernel), List.mem_of_getElem? (i := 757) (by decide +kernel)⟩
theorem lw_p9 : lw_okq (⟨"TwoBells$Tape", "nameHere", "()I"⟩, 14) := ⟨⟨by decide +kernel, by decide +kernel⟩, List.mem_of_getElem? (i := 124) (by decide +kernel), List.mem_of_getElem? (i := 760) (by decide +kernel), List.mem_of_getElem? (i := 761) (by decide +kernel)⟩
theorem lw_p10 : lw_okq (⟨"TwoBells$Tape", "endPiece", "()V"⟩, 14) := ⟨⟨by decide +kernel, by decide +kernel⟩, List.mem_of_getElem? (i := 124) (by decide +kernel), List.mem_of_getElem? (i := 822) (by decide +kernel), List.mem_of_getElem? (i := 823) (by decide +kernel)⟩
theorem lw_p11 : lw_okq (⟨"TwoBells$Tape", "top", "()I"⟩, 14) := ⟨⟨by decide +kernel, by decide +kernel⟩, List.mem_of_getElem? (i := 124) (by decide +kernel), List.mem_of_getElem? (i := 826) (by decide +kernel), List.mem_of_getElem? (i := 827) (by decide +kernel)⟩
theorem lw_p12 : lw_okq (⟨"TwoBells$Tape", "push", "(I)V"⟩, 14) := ⟨⟨by decide +kernel, by decide +kernel⟩, List.mem_of_getElem? (i := 124) (by decide +kernel), List.mem_of_getElem? (i := 830) (by decide +kernel), List.mem_of_getElem? (i := 831) (by decide +kernel)⟩
theorem lw_p13 : lw_okq (⟨"TwoBells$Tape", "takesJoin", "()Z"⟩, 14) := ⟨⟨by decide +kernel, by decide +kernel⟩, List.mem_of_getElem? (i := 124) (by decide +kernel), List.mem_of_getElem? (i := 834) (by decide +kernel), List.mem_of_getElem? (i := 835) (by decide +kernel)⟩
theorem lw_p14 : lw_okq (⟨"TwoBells$Tape", "takesEnd", "()Z"⟩, 14) := ⟨⟨by decide +kernel, by decide +kernel⟩, List.mem_of_getElem? (i := 124) (by decide +kernel), List.mem_of_getElem? (i := 838) (by decide +kernel), List.mem_of_getElem? (i := 839) (by decide +kernel)⟩
theorem lw_p15 : lw_okq (⟨"TwoBells", "sheetAt", "(I)LTwoBells$Sheet;"⟩, 9) := ⟨⟨by decide +kernel, by decide +kernel⟩, List.mem_of_getElem? (i := 24) (by decide +kernel), List.mem_of_getElem? (i := 900) (by decide +kernel), List.mem_of_getElem? (i := 901) (by decide +kernel)⟩
def lw_privs_1 : List (MethodName × Nat) := [(⟨"TwoBells", "hearsAllRung", "(I)Z"⟩, 9), (⟨"TwoBells$Tape", "step", "()V"⟩, 14), (⟨"TwoBells$Tape", "byteAt", "(I)I"⟩, 14), (⟨"TwoBells$Tape", "keyHere", "()I"⟩, 14), (⟨"TwoBells$Tape", "isWord", "(Ljava/lang/String;)Z"⟩, 14), (⟨"TwoBells$Tape", "takesPiece", "()Z"⟩, 14), (⟨"TwoBells$Tape", "takesTerm", "()Z"⟩, 14), (⟨"TwoBells$Tape", "numberHere", "()I"⟩, 14), (⟨"TwoBells$Tape", "emit", "(I)V"⟩, 14), (⟨"TwoBells$Tape", "nameHere", "()I"⟩, 14), (⟨"TwoBells$Tape", "endPiece", "()V"⟩, 14), (⟨"TwoBells$Tape", "top", "()I"⟩, 14), (⟨"TwoBells$Tape", "push", "(I)V"⟩, 14), (⟨"TwoBells$Tape", "takesJoin", "()Z"⟩, 14), (⟨"TwoBells$Tape", "takesEnd", "()Z"⟩, 14), (⟨"TwoBells", "sheetAt", "(I)LTwoBells$Sheet;"⟩, 9)]
theorem lw_r1 : ∀ q ∈ lw_privs_1, lw_okq q := List.forall_mem_cons.mpr ⟨lw_p0, List.forall_mem_cons.mpr ⟨lw_p1, List.forall_mem_cons.mpr ⟨lw_p2, List.forall_mem_cons.mpr ⟨lw_p3, List.forall_mem_cons.mpr ⟨lw_p4, List.forall_mem_cons.mpr ⟨lw_p5, List.forall_mem_cons.mpr ⟨lw_p6, List.forall_mem_cons.mpr ⟨lw_p7, List.forall_mem_cons.mpr ⟨lw_p8, List.forall_mem_cons.mpr ⟨lw_p9, List.forall_mem_cons.mpr ⟨lw_p10, List.forall_mem_cons.mpr ⟨lw_p11, List.forall_mem_cons.mpr ⟨lw_p12, List.forall_mem_cons.mpr ⟨lw_p13, List.forall_mem_cons.mpr ⟨lw_p14, List.forall_mem_cons.mpr ⟨lw_p15, fun _ h => absurd h List.not_mem_nil⟩⟩⟩⟩⟩⟩⟩⟩⟩⟩⟩⟩⟩⟩⟩⟩
theorem lw_p16 : lw_okq (⟨"TwoBells", "slotAt", "(I)LTwoBells$Slot;"⟩, 9) := ⟨⟨by decide +kernel, by decide +kernel⟩, List.mem_of_getElem? (i := 24) (by decide +kernel), List.mem_of_getElem? (i := 942) (by decide +kernel), List.mem_of_getElem? (i := 943) (by decide +kernel)⟩
theorem lw_p17 : lw_okq (⟨"TwoBells", "howManyRight", "(II)I"⟩, 9) := ⟨⟨by decide +kernel, by decide +kernel⟩, List.mem_of_getElem? (i := 24) (by decide +kernel), List.mem_of_getElem? (i := 972) (by decide +kernel), List.mem_of_getElem? (i := 973) (by decide +kernel)⟩
theorem lw_p18 : lw_okq (⟨"TwoBells", "waitsAt", "(III)Z"⟩, 9) := ⟨⟨by decide +kernel, by decide +kernel⟩, List.mem_of_getElem? (i := 24) (by decide +kernel), List.mem_of_getElem? (i := 976) (by decide +kernel), List.mem_of_getElem? (i := 977) (by decide +kernel)⟩
theorem lw_p19 : lw_okq (⟨"TwoBellsModel", "comes", "(II)I"⟩, 32) := ⟨⟨by decide +kernel, by decide +kernel⟩, List.mem_of_getElem? (i := 997) (by decide +kernel), List.mem_of_getElem? (i := 1111) (by decide +kernel), List.mem_of_getElem? (i := 1112) (by decide +kernel)⟩
theorem lw_p20 : lw_okq (⟨"TwoBellsModel", "isHouse", "(I)Z"⟩, 32) := ⟨⟨by decide +kernel, by decide +kernel⟩, List.mem_of_getElem? (i := 997) (by decide +kernel), List.mem_of_getElem? (i := 1119) (by decide +kernel), List.mem_of_getElem? (i := 1120) (by decide +kernel)⟩
theorem lw_p21 : lw_okq (⟨"TwoBellsModel", "houseOf", "(II)I"⟩, 32) := ⟨⟨by decide +kernel, by decide +kernel⟩, List.mem_of_getElem? (i := 997) (by decide +kernel), List.mem_of_getElem? (i := 1123) (by decide +kernel), List.mem_of_getElem? (i := 1124) (by decide +kernel)⟩
theorem lw_p22 : lw_okq (⟨"TwoBellsModel", "bellsIn", "(IIZ)I"⟩, 32) := ⟨⟨by decide +kernel, by decide +kernel⟩, List.mem_of_getElem? (i := 997) (by decide +kernel), List.mem_of_getElem? (i := 1127) (by decide +kernel), List.mem_of_getElem? (i := 1128) (by decide +kernel)⟩
theorem lw_p23 : lw_okq (⟨"TwoBellsModel", "doorOf", "(II)I"⟩, 32) := ⟨⟨by decide +kernel, by decide +kernel⟩, List.mem_of_getElem? (i := 997) (by decide +kernel), List.mem_of_getElem? (i := 1131) (by decide +kernel), List.mem_of_getElem? (i := 1132) (by decide +kernel)⟩
theorem lw_p24 : lw_okq (⟨"TwoBellsModel", "comesOf", "(I)I"⟩, 32) := ⟨⟨by decide +kernel, by decide +kernel⟩, List.mem_of_getElem? (i := 997) (by decide +kernel), List.mem_of_getElem? (i := 1135) (by decide +kernel), List.mem_of_getElem? (i := 1136) (by decide +kernel)⟩
theorem lw_p25 : lw_okq (⟨"TwoBellsModel", "counts", "(I)I"⟩, 32) := ⟨⟨by decide +kernel, by decide +kernel⟩, List.mem_of_getElem? (i := 997) (by decide +kernel), List.mem_of_getElem? (i := 1139) (by decide +kernel), List.mem_of_getElem? (i := 1140) (by decide +kernel)⟩
theorem lw_p26 : lw_okq (⟨"TwoBellsModel", "worksOut", "(I)I"⟩, 32) := ⟨⟨by decide +kernel, by decide +kernel⟩, List.mem_of_getElem? (i := 997) (by decide +kernel), List.mem_of_getElem? (i := 1146) (by decide +kernel), List.mem_of_getElem? (i := 1147) (by decide +kernel)⟩
theorem lw_p27 : lw_okq (⟨"TwoBellsModel", "becomes", "(II)I"⟩, 32) := ⟨⟨by decide +kernel, by decide +kernel⟩, List.mem_of_getElem? (i := 997) (by decide +kernel), List.mem_of_getElem? (i := 1157) (by decide +kernel), List.mem_of_getElem? (i := 1158) (by decide +kernel)⟩
theorem lw_p28 : lw_okq (⟨"TwoBellsModel", "doAgree", "(II)Z"⟩, 32) := ⟨⟨by decide +kernel, by decide +kernel⟩, List.mem_of_getElem? (i := 997) (by decide +kernel), List.mem_of_getElem? (i := 1165) (by decide +kernel), List.mem_of_getElem? (i := 1166) (by decide +kernel)⟩
theorem lw_p29 : lw_okq (⟨"TwoBellsModel", "draw", "()I"⟩, 32) := ⟨⟨by decide +kernel, by decide +kernel⟩, List.mem_of_getElem? (i := 997) (by decide +kernel), List.mem_of_getElem? (i := 1177) (by decide +kernel), List.mem_of_getElem? (i := 1178) (by decide +kernel)⟩
theorem lw_p30 : lw_okq (⟨"TwoBellsModel", "isDoor", "(I)Z"⟩, 32) := ⟨⟨by decide +kernel, by decide +kernel⟩, List.mem_of_getElem? (i := 997) (by decide +kernel), List.mem_of_getElem? (i := 1190) (by decide +kernel), List.mem_of_getElem? (i := 1191) (by decide +kernel)⟩
theorem lw_p31 : lw_okq (⟨"TwoBellsModel", "isLawful", "(I)Z"⟩, 32) := ⟨⟨by decide +kernel, by decide +kernel⟩, List.mem_of_getElem? (i := 997) (by decide +kernel), List.mem_of_getElem? (i := 1194) (by decide +kernel), List.mem_of_getElem? (i := 1195) (by decide +kernel)⟩
def lw_privs_2 : List (MethodName × Nat) := [(⟨"TwoBells", "slotAt", "(I)LTwoBells$Slot;"⟩, 9), (⟨"TwoBells", "howManyRight", "(II)I"⟩, 9), (⟨"TwoBells", "waitsAt", "(III)Z"⟩, 9), (⟨"TwoBellsModel", "comes", "(II)I"⟩, 32), (⟨"TwoBellsModel", "isHouse", "(I)Z"⟩, 32), (⟨"TwoBellsModel", "houseOf", "(II)I"⟩, 32), (⟨"TwoBellsModel", "bellsIn", "(IIZ)I"⟩, 32), (⟨"TwoBellsModel", "doorOf", "(II)I"⟩, 32), (⟨"TwoBellsModel", "comesOf", "(I)I"⟩, 32), (⟨"TwoBellsModel", "counts", "(I)I"⟩, 32), (⟨"TwoBellsModel", "worksOut", "(I)I"⟩, 32), (⟨"TwoBellsModel", "becomes", "(II)I"⟩, 32), (⟨"TwoBellsModel", "doAgree", "(II)Z"⟩, 32), (⟨"TwoBellsModel", "draw", "()I"⟩, 32), (⟨"TwoBellsModel", "isDoor", "(I)Z"⟩, 32), (⟨"TwoBellsModel", "isLawful", "(I)Z"⟩, 32)]
theorem lw_r2 : ∀ q ∈ lw_privs_2, lw_okq q := List.forall_mem_cons.mpr ⟨lw_p16, List.forall_mem_cons.mpr ⟨lw_p17, List.forall_mem_cons.mpr ⟨lw_p18, List.forall_mem_cons.mpr ⟨lw_p19, List.forall_mem_cons.mpr ⟨lw_p20, List.forall_mem_cons.mpr ⟨lw_p21, List.forall_mem_cons.mpr ⟨lw_p22, List.forall_mem_cons.mpr ⟨lw_p23, List.forall_mem_cons.mpr ⟨lw_p24, List.forall_mem_cons.mpr ⟨lw_p25, List.forall_mem_cons.mpr ⟨lw_p26, List.forall_mem_cons.mpr ⟨lw_p27, List.forall_mem_cons.mpr ⟨lw_p28, List.forall_mem_cons.mpr ⟨lw_p29, List.forall_mem_cons.mpr ⟨lw_p30, List.forall_mem_cons.mpr ⟨lw_p31, fun _ h => absurd h List.not_mem_nil⟩⟩⟩⟩⟩⟩⟩⟩⟩⟩⟩⟩⟩⟩⟩⟩
theorem lw_p32 : lw_okq (⟨"TwoBellsModel", "isLawfulWith", "(III)Z"⟩, 32) := ⟨⟨by decide +kernel, by decide +kernel⟩, List.mem_of_getElem? (i := 997) (by decide +kernel), List.mem_of_getElem? (i := 1198) (by decide +kernel), List.mem_of_getElem? (i := 1199) (by decide +kernel)⟩
theorem lw_p33 : lw_okq (⟨"TwoBellsModel", "isThief", "(I)Z"⟩, 32) := ⟨⟨by decide +kernel, by decide +kernel⟩, List.mem_of_getElem? (i := 997) (by decide +kernel), List.mem_of_getElem? (i := 1222) (by decide +kernel), List.mem_of_getElem? (i := 1223) (by decide +kernel)⟩
theorem lw_p34 : lw_okq (⟨"TwoBellsModel", "kindOf", "(I)I"⟩, 32) := ⟨⟨by decide +kernel, by decide +kernel⟩, List.mem_of_getElem? (i := 997) (by decide +kernel), List.mem_of_getElem? (i := 1226) (by decide +kernel), List.mem_of_getElem? (i := 1227) (by decide +kernel)⟩
theorem lw_p35 : lw_okq (⟨"TwoBellsModel", "homeOf", "(I)I"⟩, 32) := ⟨⟨by decide +kernel, by decide +kernel⟩, List.mem_of_getElem? (i := 997) (by decide +kernel), List.mem_of_getElem? (i := 1230) (by decide +kernel), List.mem_of_getElem? (i := 1231) (by decide +kernel)⟩
theorem lw_p36 : lw_okq (⟨"TwoBellsModel", "worthOf", "(I)I"⟩, 32) := ⟨⟨by decide +kernel, by decide +kernel⟩, List.mem_of_getElem? (i := 997) (by decide +kernel), List.mem_of_getElem? (i := 1234) (by decide +kernel), List.mem_of_getElem? (i := 1235) (by decide +kernel)⟩
theorem lw_p37 : lw_okq (⟨"TwoBellsModel", "missedAt", "(II)I"⟩, 32) := ⟨⟨by decide +kernel, by decide +kernel⟩, List.mem_of_getElem? (i := 997) (by decide +kernel), List.mem_of_getElem? (i := 1254) (by decide +kernel), List.mem_of_getElem? (i := 1255) (by decide +kernel)⟩
theorem lw_p38 : lw_okq (⟨"TwoBellsModel", "heedOf", "(II)I"⟩, 32) := ⟨⟨by decide +kernel, by decide +kernel⟩, List.mem_of_getElem? (i := 997) (by decide +kernel), List.mem_of_getElem? (i := 1258) (by decide +kernel), List.mem_of_getElem? (i := 1259) (by decide +kernel)⟩
theorem lw_p39 : lw_okq (⟨"TwoBellsModel", "gainAt", "(II)I"⟩, 32) := ⟨⟨by decide +kernel, by decide +kernel⟩, List.mem_of_getElem? (i := 997) (by decide +kernel), List.mem_of_getElem? (i := 1262) (by decide +kernel), List.mem_of_getElem? (i := 1263) (by decide +kernel)⟩
theorem lw_p40 : lw_okq (⟨"TwoBellsModel", "isOpen", "(II)Z"⟩, 32) := ⟨⟨by decide +kernel, by decide +kernel⟩, List.mem_of_getElem? (i := 997) (by decide +kernel), List.mem_of_getElem? (i := 1267) (by decide +kernel), List.mem_of_getElem? (i := 1268) (by decide +kernel)⟩
theorem lw_p41 : lw_okq (⟨"TwoBellsModel", "choiceOf", "(I)I"⟩, 32) := ⟨⟨by decide +kernel, by decide +kernel⟩, List.mem_of_getElem? (i := 997) (by decide +kernel), List.mem_of_getElem? (i := 1279) (by decide +kernel), List.mem_of_getElem? (i := 1280) (by decide +kernel)⟩
theorem lw_p42 : lw_okq (⟨"TwoBellsModel", "bestFor", "(IZ)I"⟩, 32) := ⟨⟨by decide +kernel, by decide +kernel⟩, List.mem_of_getElem? (i := 997) (by decide +kernel), List.mem_of_getElem? (i := 1283) (by decide +kernel), List.mem_of_getElem? (i := 1284) (by decide +kernel)⟩
theorem lw_p43 : lw_okq (⟨"TwoBellsModel", "night", "()V"⟩, 32) := ⟨⟨by decide +kernel, by decide +kernel⟩, List.mem_of_getElem? (i := 997) (by decide +kernel), List.mem_of_getElem? (i := 1291) (by decide +kernel), List.mem_of_getElem? (i := 1292) (by decide +kernel)⟩
theorem lw_p44 : lw_okq (⟨"TwoBellsModel", "pairOf", "(I)I"⟩, 32) := ⟨⟨by decide +kernel, by decide +kernel⟩, List.mem_of_getElem? (i := 997) (by decide +kernel), List.mem_of_getElem? (i := 1303) (by decide +kernel), List.mem_of_getElem? (i := 1304) (by decide +kernel)⟩
theorem lw_p45 : lw_okq (⟨"TwoBellsModel", "unlawfulMany", "()I"⟩, 32) := ⟨⟨by decide +kernel, by decide +kernel⟩, List.mem_of_getElem? (i := 997) (by decide +kernel), List.mem_of_getElem? (i := 1311) (by decide +kernel), List.mem_of_getElem? (i := 1312) (by decide +kernel)⟩
theorem lw_p46 : lw_okq (⟨"TwoBellsModel", "heardBy", "(I)I"⟩, 32) := ⟨⟨by decide +kernel, by decide +kernel⟩, List.mem_of_getElem? (i := 997) (by decide +kernel), List.mem_of_getElem? (i := 1327) (by decide +kernel), List.mem_of_getElem? (i := 1328) (by decide +kernel)⟩
theorem lw_p47 : lw_okq (⟨"TwoBellsModel", "setOf", "(I)I"⟩, 32) := ⟨⟨by decide +kernel, by decide +kernel⟩, List.mem_of_getElem? (i := 997) (by decide +kernel), List.mem_of_getElem? (i := 1331) (by decide +kernel), List.mem_of_getElem? (i := 1332) (by decide +kernel)⟩
def lw_privs_3 : List (MethodName × Nat) := [(⟨"TwoBellsModel", "isLawfulWith", "(III)Z"⟩, 32), (⟨"TwoBellsModel", "isThief", "(I)Z"⟩, 32), (⟨"TwoBellsModel", "kindOf", "(I)I"⟩, 32), (⟨"TwoBellsModel", "homeOf", "(I)I"⟩, 32), (⟨"TwoBellsModel", "worthOf", "(I)I"⟩, 32), (⟨"TwoBellsModel", "missedAt", "(II)I"⟩, 32), (⟨"TwoBellsModel", "heedOf", "(II)I"⟩, 32), (⟨"TwoBellsModel", "gainAt", "(II)I"⟩, 32), (⟨"TwoBellsModel", "isOpen", "(II)Z"⟩, 32), (⟨"TwoBellsModel", "choiceOf", "(I)I"⟩, 32), (⟨"TwoBellsModel", "bestFor", "(IZ)I"⟩, 32), (⟨"TwoBellsModel", "night", "()V"⟩, 32), (⟨"TwoBellsModel", "pairOf", "(I)I"⟩, 32), (⟨"TwoBellsModel", "unlawfulMany", "()I"⟩, 32), (⟨"TwoBellsModel", "heardBy", "(I)I"⟩, 32), (⟨"TwoBellsModel", "setOf", "(I)I"⟩, 32)]
theorem lw_r3 : ∀ q ∈ lw_privs_3, lw_okq q := List.forall_mem_cons.mpr ⟨lw_p32, List.forall_mem_cons.mpr ⟨lw_p33, List.forall_mem_cons.mpr ⟨lw_p34, List.forall_mem_cons.mpr ⟨lw_p35, List.forall_mem_cons.mpr ⟨lw_p36, List.forall_mem_cons.mpr ⟨lw_p37, List.forall_mem_cons.mpr ⟨lw_p38, List.forall_mem_cons.mpr ⟨lw_p39, List.forall_mem_cons.mpr ⟨lw_p40, List.forall_mem_cons.mpr ⟨lw_p41, List.forall_mem_cons.mpr ⟨lw_p42, List.forall_mem_cons.mpr ⟨lw_p43, List.forall_mem_cons.mpr ⟨lw_p44, List.forall_mem_cons.mpr ⟨lw_p45, List.forall_mem_cons.mpr ⟨lw_p46, List.forall_mem_cons.mpr ⟨lw_p47, fun _ h => absurd h List.not_mem_nil⟩⟩⟩⟩⟩⟩⟩⟩⟩⟩⟩⟩⟩⟩⟩⟩
theorem lw_p48 : lw_okq (⟨"TwoBellsModel", "go", "()V"⟩, 32) := ⟨⟨by decide +kernel, by decide +kernel⟩, List.mem_of_getElem? (i := 997) (by decide +kernel), List.mem_of_getElem? (i := 1358) (by decide +kernel), List.mem_of_getElem? (i := 1359) (by decide +kernel)⟩
theorem lw_p49 : lw_okq (⟨"TwoBellsModel", "isLetter", "(I)Z"⟩, 32) := ⟨⟨by decide +kernel, by decide +kernel⟩, List.mem_of_getElem? (i := 997) (by decide +kernel), List.mem_of_getElem? (i := 1362) (by decide +kernel), List.mem_of_getElem? (i := 1363) (by decide +kernel)⟩
theorem lw_p50 : lw_okq (⟨"TwoBellsModel", "isFigure", "(I)Z"⟩, 32) := ⟨⟨by decide +kernel, by decide +kernel⟩, List.mem_of_getElem? (i := 997) (by decide +kernel), List.mem_of_getElem? (i := 1366) (by decide +kernel), List.mem_of_getElem? (i := 1367) (by decide +kernel)⟩
theorem lw_p51 : lw_okq (⟨"TwoBellsModel", "takesKey", "()Z"⟩, 32) := ⟨⟨by decide +kernel, by decide +kernel⟩, List.mem_of_getElem? (i := 997) (by decide +kernel), List.mem_of_getElem? (i := 1370) (by decide +kernel), List.mem_of_getElem? (i := 1371) (by decide +kernel)⟩
theorem lw_p52 : lw_okq (⟨"TwoBellsModel", "takesE", "()Z"⟩, 32) := ⟨⟨by decide +kernel, by decide +kernel⟩, List.mem_of_getElem? (i := 997) (by decide +kernel), List.mem_of_getElem? (i := 1374) (by decide +kernel), List.mem_of_getElem? (i := 1375) (by decide +kernel)⟩
theorem lw_p53 : lw_okq (⟨"TwoBellsModel", "takesPart", "()Z"⟩, 32) := ⟨⟨by decide +kernel, by decide +kernel⟩, List.mem_of_getElem? (i := 997) (by decide +kernel), List.mem_of_getElem? (i := 1378) (by decide +kernel), List.mem_of_getElem? (i := 1379) (by decide +kernel)⟩
theorem lw_p54 : lw_okq (⟨"TwoBellsModel", "nameOf", "(I)I"⟩, 32) := ⟨⟨by decide +kernel, by decide +kernel⟩, List.mem_of_getElem? (i := 997) (by decide +kernel), List.mem_of_getElem? (i := 1382) (by decide +kernel), List.mem_of_getElem? (i := 1383) (by decide +kernel)⟩
theorem lw_p55 : lw_okq (⟨"TwoBellsModel", "settle", "(I)V"⟩, 32) := ⟨⟨by decide +kernel, by decide +kernel⟩, List.mem_of_getElem? (i := 997) (by decide +kernel), List.mem_of_getElem? (i := 1386) (by decide +kernel), List.mem_of_getElem? (i := 1387) (by decide +kernel)⟩
theorem lw_p56 : lw_okq (⟨"TwoBellsModel", "notsOpen", "()I"⟩, 32) := ⟨⟨by decide +kernel, by decide +kernel⟩, List.mem_of_getElem? (i := 997) (by decide +kernel), List.mem_of_getElem? (i := 1393) (by decide +kernel), List.mem_of_getElem? (i := 1394) (by decide +kernel)⟩
theorem lw_p57 : lw_okq (⟨"TwoBellsModel", "signHere", "()I"⟩, 32) := ⟨⟨by decide +kernel, by decide +kernel⟩, List.mem_of_getElem? (i := 997) (by decide +kernel), List.mem_of_getElem? (i := 1397) (by decide +kernel), List.mem_of_getElem? (i := 1398) (by decide +kernel)⟩
def lw_privs_4 : List (MethodName × Nat) := [(⟨"TwoBellsModel", "go", "()V"⟩, 32), (⟨"TwoBellsModel", "isLetter", "(I)Z"⟩, 32), (⟨"TwoBellsModel", "isFigure", "(I)Z"⟩, 32), (⟨"TwoBellsModel", "takesKey", "()Z"⟩, 32), (⟨"TwoBellsModel", "takesE", "()Z"⟩, 32), (⟨"TwoBellsModel", "takesPart", "()Z"⟩, 32), (⟨"TwoBellsModel", "nameOf", "(I)I"⟩, 32), (⟨"TwoBellsModel", "settle", "(I)V"⟩, 32), (⟨"TwoBellsModel", "notsOpen", "()I"⟩, 32), (⟨"TwoBellsModel", "signHere", "()I"⟩, 32)]
theorem lw_r4 : ∀ q ∈ lw_privs_4, lw_okq q := List.forall_mem_cons.mpr ⟨lw_p48, List.forall_mem_cons.mpr ⟨lw_p49, List.forall_mem_cons.mpr ⟨lw_p50, List.forall_mem_cons.mpr ⟨lw_p51, List.forall_mem_cons.mpr ⟨lw_p52, List.forall_mem_cons.mpr ⟨lw_p53, List.forall_mem_cons.mpr ⟨lw_p54, List.forall_mem_cons.mpr ⟨lw_p55, List.forall_mem_cons.mpr ⟨lw_p56, List.forall_mem_cons.mpr ⟨lw_p57, fun _ h => absurd h List.not_mem_nil⟩⟩⟩⟩⟩⟩⟩⟩⟩⟩
def lw_privs : List (MethodName × Nat) := lw_privs_1 ++ (lw_privs_2 ++ (lw_privs_3 ++ (lw_privs_4)))
def lw_tbl : List Cond := k2_sels lw_privs ++ tables_1
theorem lw_privs_ok : ∀ q ∈ lw_privs, lw_okq q := by
  show ∀ q ∈ lw_privs_1 ++ (lw_privs_2 ++ (lw_privs_3 ++ (lw_privs_4))), lw_okq q
  exact List.forall_mem_append.mpr ⟨lw_r1, List.forall_mem_append.mpr ⟨lw_r2, List.forall_mem_append.mpr ⟨lw_r3, lw_r4⟩⟩⟩
end
section
def RX0 : String := "TwoBells$Cutter"
def TX0 : u_T := fun k => match k with
  | 0 => ("TwoBells$Thief", "kind", "I", true)
  | _ => ("TwoBells$Thief", "home", "I", true)
def tyX0 : Nat → FieldType := fun k => match k with
  | 0 => .int
  | _ => .int
abbrev wsX00 : List Cond := u_ws RX0 TX0 2
theorem nmX0 : ∀ a, a < 2 → ∀ b, b < 2 → a ≠ b → (TX0 a).2.1 ≠ (TX0 b).2.1 := by decide +kernel
theorem tyX0_ok : ∀ k, k < 2 → parseFieldDescriptor (TX0 k).2.2.1 = some (tyX0 k) := by decide +kernel
abbrev cX0_init : ByteArray := prog_2_method_1_code
def yX0_init : MethodName := ⟨RX0, "<init>", "(II)V"⟩
abbrev cX0_heeds : ByteArray := prog_2_method_2_code
def yX0_heeds : MethodName := ⟨RX0, "heeds", "(LTwoBells$Town;II)I"⟩
abbrev cX0_value : ByteArray := prog_2_method_3_code
def yX0_value : MethodName := ⟨RX0, "value", "()I"⟩
def RX1 : String := "TwoBells$Feasting"
def TX1 : u_T := fun k => match k with
  | 0 => ("TwoBells$Thief", "kind", "I", true)
  | _ => ("TwoBells$Thief", "home", "I", true)
def tyX1 : Nat → FieldType := fun k => match k with
  | 0 => .int
  | _ => .int
abbrev wsX10 : List Cond := u_ws RX1 TX1 2
theorem nmX1 : ∀ a, a < 2 → ∀ b, b < 2 → a ≠ b → (TX1 a).2.1 ≠ (TX1 b).2.1 := by decide +kernel
theorem tyX1_ok : ∀ k, k < 2 → parseFieldDescriptor (TX1 k).2.2.1 = some (tyX1 k) := by decide +kernel
abbrev cX1_init : ByteArray := prog_3_method_1_code
def yX1_init : MethodName := ⟨RX1, "<init>", "(II)V"⟩
abbrev cX1_heeds : ByteArray := prog_3_method_2_code
def yX1_heeds : MethodName := ⟨RX1, "heeds", "(LTwoBells$Town;II)I"⟩
abbrev cX1_value : ByteArray := prog_3_method_3_code
def yX1_value : MethodName := ⟨RX1, "value", "()I"⟩
def RX2 : String := "TwoBells$Knowing"
def TX2 : u_T := fun k => match k with
  | 0 => ("TwoBells$Thief", "kind", "I", true)
  | _ => ("TwoBells$Thief", "home", "I", true)
def tyX2 : Nat → FieldType := fun k => match k with
  | 0 => .int
  | _ => .int
abbrev wsX20 : List Cond := u_ws RX2 TX2 2
theorem nmX2 : ∀ a, a < 2 → ∀ b, b < 2 → a ≠ b → (TX2 a).2.1 ≠ (TX2 b).2.1 := by decide +kernel
theorem tyX2_ok : ∀ k, k < 2 → parseFieldDescriptor (TX2 k).2.2.1 = some (tyX2 k) := by decide +kernel
abbrev cX2_init : ByteArray := prog_4_method_1_code
def yX2_init : MethodName := ⟨RX2, "<init>", "(II)V"⟩
abbrev cX2_picks : ByteArray := prog_4_method_2_code
def yX2_picks : MethodName := ⟨RX2, "picks", "(LTwoBells$Town;I)I"⟩
abbrev cX2_value : ByteArray := prog_4_method_3_code
def yX2_value : MethodName := ⟨RX2, "value", "()I"⟩
def RX3 : String := "TwoBells$Near"
def TX3 : u_T := fun k => match k with
  | 0 => ("TwoBells$Thief", "kind", "I", true)
  | _ => ("TwoBells$Thief", "home", "I", true)
def tyX3 : Nat → FieldType := fun k => match k with
  | 0 => .int
  | _ => .int
abbrev wsX30 : List Cond := u_ws RX3 TX3 2
theorem nmX3 : ∀ a, a < 2 → ∀ b, b < 2 → a ≠ b → (TX3 a).2.1 ≠ (TX3 b).2.1 := by decide +kernel
theorem tyX3_ok : ∀ k, k < 2 → parseFieldDescriptor (TX3 k).2.2.1 = some (tyX3 k) := by decide +kernel
abbrev cX3_init : ByteArray := prog_5_method_1_code
def yX3_init : MethodName := ⟨RX3, "<init>", "(II)V"⟩
abbrev cX3_heeds : ByteArray := prog_5_method_2_code
def yX3_heeds : MethodName := ⟨RX3, "heeds", "(LTwoBells$Town;II)I"⟩
abbrev cX3_value : ByteArray := prog_5_method_3_code
def yX3_value : MethodName := ⟨RX3, "value", "()I"⟩
def RX4 : String := "TwoBells$Quick"
def TX4 : u_T := fun k => match k with
  | 0 => ("TwoBells$Thief", "kind", "I", true)
  | _ => ("TwoBells$Thief", "home", "I", true)
def tyX4 : Nat → FieldType := fun k => match k with
  | 0 => .int
  | _ => .int
abbrev wsX40 : List Cond := u_ws RX4 TX4 2
theorem nmX4 : ∀ a, a < 2 → ∀ b, b < 2 → a ≠ b → (TX4 a).2.1 ≠ (TX4 b).2.1 := by decide +kernel
theorem tyX4_ok : ∀ k, k < 2 → parseFieldDescriptor (TX4 k).2.2.1 = some (tyX4 k) := by decide +kernel
abbrev cX4_init : ByteArray := prog_6_method_1_code
def yX4_init : MethodName := ⟨RX4, "<init>", "(II)V"⟩
abbrev cX4_picks : ByteArray := prog_6_method_2_code
def yX4_picks : MethodName := ⟨RX4, "picks", "(LTwoBells$Town;I)I"⟩
abbrev cX4_value : ByteArray := prog_6_method_3_code
def yX4_value : MethodName := ⟨RX4, "value", "()I"⟩
def RX5 : String := "TwoBells$Sheet"
def TX5 : u_T := fun k => match k with
  | 0 => ("TwoBells$Sheet", "sort", "I", false)
  | 1 => ("TwoBells$Sheet", "size", "I", false)
  | _ => ("TwoBells$Sheet", "places", "[I", true)
def tyX5 : Nat → FieldType := fun k => match k with
  | 0 => .int
  | 1 => .int
  | _ => .array .int
abbrev wsX50 : List Cond := u_ws RX5 TX5 3
theorem nmX5 : ∀ a, a < 3 → ∀ b, b < 3 → a ≠ b → (TX5 a).2.1 ≠ (TX5 b).2.1 := by decide +kernel
theorem tyX5_ok : ∀ k, k < 3 → parseFieldDescriptor (TX5 k).2.2.1 = some (tyX5 k) := by decide +kernel
abbrev cX5_init : ByteArray := prog_7_method_1_code
def yX5_init : MethodName := ⟨RX5, "<init>", "()V"⟩
abbrev cX5_become : ByteArray := prog_7_method_2_code
def yX5_become : MethodName := ⟨RX5, "become", "(LTwoBells$Sheet;)V"⟩
abbrev cX5_hasPlace : ByteArray := prog_7_method_3_code
def yX5_hasPlace : MethodName := ⟨RX5, "hasPlace", "(I)Z"⟩
abbrev cX5_hasPlaces : ByteArray := prog_7_method_4_code
def yX5_hasPlaces : MethodName := ⟨RX5, "hasPlaces", "(II)Z"⟩
def RX6 : String := "TwoBells$Slot"
def TX6 : u_T := fun k => match k with
  | 0 => ("TwoBells$Slot", "holds", "I", false)
  | 1 => ("TwoBells$Slot", "thief", "LTwoBells$Thief;", false)
  | 2 => ("TwoBells$Slot", "row", "LTwoBells$Sheet;", true)
  | _ => ("TwoBells$Slot", "number", "I", false)
def tyX6 : Nat → FieldType := fun k => match k with
  | 0 => .int
  | 1 => .object "TwoBells$Thief"
  | 2 => .object "TwoBells$Sheet"
  | _ => .int
abbrev wsX60 : List Cond := u_ws RX6 TX6 4
theorem nmX6 : ∀ a, a < 4 → ∀ b, b < 4 → a ≠ b → (TX6 a).2.1 ≠ (TX6 b).2.1 := by decide +kernel
theorem tyX6_ok : ∀ k, k < 4 → parseFieldDescriptor (TX6 k).2.2.1 = some (tyX6 k) := by decide +kernel
abbrev cX6_init : ByteArray := prog_8_method_1_code
def yX6_init : MethodName := ⟨RX6, "<init>", "()V"⟩
def RX7 : String := "TwoBells$Tape"
def TX7 : u_T := fun k => match k with
  | 0 => ("TwoBells$Tape", "size", "I", false)
  | 1 => ("TwoBells$Tape", "bytes", "[I", true)
  | 2 => ("TwoBells$Tape", "from", "I", false)
  | 3 => ("TwoBells$Tape", "to", "I", false)
  | 4 => ("TwoBells$Tape", "sort", "I", false)
  | 5 => ("TwoBells$Tape", "key", "I", false)
  | 6 => ("TwoBells$Tape", "terms", "I", false)
  | 7 => ("TwoBells$Tape", "code", "[I", true)
  | 8 => ("TwoBells$Tape", "used", "I", false)
  | 9 => ("TwoBells$Tape", "open", "[I", true)
  | 10 => ("TwoBells$Tape", "depth", "I", false)
  | 11 => ("TwoBells$Tape", "openBraces", "I", false)
  | 12 => ("TwoBells$Tape", "openNots", "I", false)
  | _ => ("TwoBells$Tape", "wantsPiece", "Z", false)
def tyX7 : Nat → FieldType := fun k => match k with
  | 0 => .int
  | 1 => .array .int
  | 2 => .int
  | 3 => .int
  | 4 => .int
  | 5 => .int
  | 6 => .int
  | 7 => .array .int
  | 8 => .int
  | 9 => .array .int
  | 10 => .int
  | 11 => .int
  | 12 => .int
  | _ => .boolean
abbrev wsX70 : List Cond := u_ws RX7 TX7 14
theorem nmX7 : ∀ a, a < 14 → ∀ b, b < 14 → a ≠ b → (TX7 a).2.1 ≠ (TX7 b).2.1 := by decide +kernel
theorem tyX7_ok : ∀ k, k < 14 → parseFieldDescriptor (TX7 k).2.2.1 = some (tyX7 k) := by decide +kernel
abbrev cX7_init : ByteArray := prog_9_method_1_code
def yX7_init : MethodName := ⟨RX7, "<init>", "()V"⟩
abbrev cX7_addFour : ByteArray := prog_9_method_2_code
def yX7_addFour : MethodName := ⟨RX7, "addFour", "(I)V"⟩
abbrev cX7_fault : ByteArray := prog_9_method_3_code
def yX7_fault : MethodName := ⟨RX7, "fault", "()I"⟩
abbrev cX7_asText : ByteArray := prog_9_method_4_code
def yX7_asText : MethodName := ⟨RX7, "asText", "()LTwoBells$Text;"⟩
abbrev cX7_byteAt : ByteArray := prog_9_method_5_code
def yX7_byteAt : MethodName := ⟨RX7, "byteAt", "(I)I"⟩
abbrev cX7_sortOf : ByteArray := prog_9_method_6_code
def yX7_sortOf : MethodName := ⟨RX7, "sortOf", "(I)I"⟩
abbrev cX7_step : ByteArray := prog_9_method_7_code
def yX7_step : MethodName := ⟨RX7, "step", "()V"⟩
abbrev cX7_isWord : ByteArray := prog_9_method_8_code
def yX7_isWord : MethodName := ⟨RX7, "isWord", "(Ljava/lang/String;)Z"⟩
abbrev cX7_keyHere : ByteArray := prog_9_method_9_code
def yX7_keyHere : MethodName := ⟨RX7, "keyHere", "()I"⟩
abbrev cX7_nameHere : ByteArray := prog_9_method_10_code
def yX7_nameHere : MethodName := ⟨RX7, "nameHere", "()I"⟩
abbrev cX7_numberHere : ByteArray := prog_9_method_11_code
def yX7_numberHere : MethodName := ⟨RX7, "numberHere", "()I"⟩
abbrev cX7_takesPiece : ByteArray := prog_9_method_12_code
def yX7_takesPiece : MethodName := ⟨RX7, "takesPiece", "()Z"⟩
abbrev cX7_takesTerm : ByteArray := prog_9_method_13_code
def yX7_takesTerm : MethodName := ⟨RX7, "takesTerm", "()Z"⟩
abbrev cX7_takesJoin : ByteArray := prog_9_method_14_code
def yX7_takesJoin : MethodName := ⟨RX7, "takesJoin", "()Z"⟩
abbrev cX7_takesEnd : ByteArray := prog_9_method_15_code
def yX7_takesEnd : MethodName := ⟨RX7, "takesEnd", "()Z"⟩
abbrev cX7_endPiece : ByteArray := prog_9_method_16_code
def yX7_endPiece : MethodName := ⟨RX7, "endPiece", "()V"⟩
abbrev cX7_rankOf : ByteArray := prog_9_method_17_code
def yX7_rankOf : MethodName := ⟨RX7, "rankOf", "(I)I"⟩
abbrev cX7_top : ByteArray := prog_9_method_18_code
def yX7_top : MethodName := ⟨RX7, "top", "()I"⟩
abbrev cX7_push : ByteArray := prog_9_method_19_code
def yX7_push : MethodName := ⟨RX7, "push", "(I)V"⟩
abbrev cX7_emit : ByteArray := prog_9_method_20_code
def yX7_emit : MethodName := ⟨RX7, "emit", "(I)V"⟩
def RX8 : String := "TwoBells$Text"
def TX8 : u_T := fun k => match k with
  | 0 => ("TwoBells$Text", "key", "I", true)
  | 1 => ("TwoBells$Text", "terms", "I", true)
  | 2 => ("TwoBells$Text", "code", "[I", true)
  | _ => ("TwoBells$Text", "stack", "[I", true)
def tyX8 : Nat → FieldType := fun k => match k with
  | 0 => .int
  | 1 => .int
  | 2 => .array .int
  | _ => .array .int
abbrev wsX80 : List Cond := u_ws RX8 TX8 4
theorem nmX8 : ∀ a, a < 4 → ∀ b, b < 4 → a ≠ b → (TX8 a).2.1 ≠ (TX8 b).2.1 := by decide +kernel
theorem tyX8_ok : ∀ k, k < 4 → parseFieldDescriptor (TX8 k).2.2.1 = some (tyX8 k) := by decide +kernel
abbrev cX8_init : ByteArray := prog_10_method_1_code
def yX8_init : MethodName := ⟨RX8, "<init>", "(II[I)V"⟩
abbrev cX8_gives : ByteArray := prog_10_method_2_code
def yX8_gives : MethodName := ⟨RX8, "gives", "(IIII)I"⟩
abbrev cX8_named : ByteArray := prog_10_method_3_code
def yX8_named : MethodName := ⟨RX8, "named", "(IIIII)I"⟩
abbrev cX8_joined : ByteArray := prog_10_method_4_code
def yX8_joined : MethodName := ⟨RX8, "joined", "(III)I"⟩
def RX9 : String := "TwoBells$Thief"
def TX9 : u_T := fun k => match k with
  | 0 => ("TwoBells$Thief", "kind", "I", true)
  | _ => ("TwoBells$Thief", "home", "I", true)
def tyX9 : Nat → FieldType := fun k => match k with
  | 0 => .int
  | _ => .int
abbrev wsX90 : List Cond := u_ws RX9 TX9 2
theorem nmX9 : ∀ a, a < 2 → ∀ b, b < 2 → a ≠ b → (TX9 a).2.1 ≠ (TX9 b).2.1 := by decide +kernel
theorem tyX9_ok : ∀ k, k < 2 → parseFieldDescriptor (TX9 k).2.2.1 = some (tyX9 k) := by decide +kernel
abbrev cX9_init : ByteArray := prog_11_method_1_code
def yX9_init : MethodName := ⟨RX9, "<init>", "(II)V"⟩
abbrev cX9_ofKind : ByteArray := prog_11_method_2_code
def yX9_ofKind : MethodName := ⟨RX9, "ofKind", "(II)LTwoBells$Thief;"⟩
abbrev cX9_isOf : ByteArray := prog_11_method_3_code
def yX9_isOf : MethodName := ⟨RX9, "isOf", "(I)Z"⟩
abbrev cX9_heeds : ByteArray := prog_11_method_4_code
def yX9_heeds : MethodName := ⟨RX9, "heeds", "(LTwoBells$Town;II)I"⟩
abbrev cX9_picks : ByteArray := prog_11_method_5_code
def yX9_picks : MethodName := ⟨RX9, "picks", "(LTwoBells$Town;I)I"⟩
abbrev cX9_value : ByteArray := prog_11_method_6_code
def yX9_value : MethodName := ⟨RX9, "value", "()I"⟩
def RX10 : String := "TwoBells$Town"
def TX10 : u_T := fun k => match k with
  | 0 => ("TwoBells$Town", "houses", "I", false)
  | 1 => ("TwoBells$Town", "doors", "I", false)
  | 2 => ("TwoBells$Town", "thieves", "I", false)
  | 3 => ("TwoBells$Town", "texts", "I", false)
  | 4 => ("TwoBells$Town", "patience", "I", false)
  | 5 => ("TwoBells$Town", "taken", "I", false)
  | 6 => ("TwoBells$Town", "caught", "I", false)
  | 7 => ("TwoBells$Town", "z", "I", false)
  | 8 => ("TwoBells$Town", "awake", "[I", true)
  | 9 => ("TwoBells$Town", "cares", "[I", true)
  | 10 => ("TwoBells$Town", "agrees", "[I", true)
  | 11 => ("TwoBells$Town", "owner", "[I", true)
  | 12 => ("TwoBells$Town", "worth", "[I", true)
  | 13 => ("TwoBells$Town", "noise", "[I", true)
  | 14 => ("TwoBells$Town", "bells", "[I", true)
  | 15 => ("TwoBells$Town", "band", "[LTwoBells$Thief;", true)
  | 16 => ("TwoBells$Town", "laws", "[LTwoBells$Text;", true)
  | 17 => ("TwoBells$Town", "comes", "[I", true)
  | 18 => ("TwoBells$Town", "missed", "[I", true)
  | _ => ("TwoBells$Town", "gains", "[I", true)
def tyX10 : Nat → FieldType := fun k => match k with
  | 0 => .int
  | 1 => .int
  | 2 => .int
  | 3 => .int
  | 4 => .int
  | 5 => .int
  | 6 => .int
  | 7 => .int
  | 8 => .array .int
  | 9 => .array .int
  | 10 => .array .int
  | 11 => .array .int
  | 12 => .array .int
  | 13 => .array .int
  | 14 => .array .int
  | 15 => .array (.object "TwoBells$Thief")
  | 16 => .array (.object "TwoBells$Text")
  | 17 => .array .int
  | 18 => .array .int
  | _ => .array .int
abbrev wsX100 : List Cond := u_ws RX10 TX10 20
theorem nmX10 : ∀ a, a < 20 → ∀ b, b < 20 → a ≠ b → (TX10 a).2.1 ≠ (TX10 b).2.1 := by decide +kernel
theorem tyX10_ok : ∀ k, k < 20 → parseFieldDescriptor (TX10 k).2.2.1 = some (tyX10 k) := by decide +kernel
abbrev cX10_init : ByteArray := prog_12_method_1_code
def yX10_init : MethodName := ⟨RX10, "<init>", "()V"⟩
abbrev cX10_become : ByteArray := prog_12_method_2_code
def yX10_become : MethodName := ⟨RX10, "become", "(LTwoBells$Town;)V"⟩
abbrev cX10_isHouse : ByteArray := prog_12_method_3_code
def yX10_isHouse : MethodName := ⟨RX10, "isHouse", "(I)Z"⟩
abbrev cX10_isDoor : ByteArray := prog_12_method_4_code
def yX10_isDoor : MethodName := ⟨RX10, "isDoor", "(I)Z"⟩
abbrev cX10_thiefAt : ByteArray := prog_12_method_5_code
def yX10_thiefAt : MethodName := ⟨RX10, "thiefAt", "(I)LTwoBells$Thief;"⟩
abbrev cX10_textAt : ByteArray := prog_12_method_6_code
def yX10_textAt : MethodName := ⟨RX10, "textAt", "(I)LTwoBells$Text;"⟩
abbrev cX10_addHouse : ByteArray := prog_12_method_7_code
def yX10_addHouse : MethodName := ⟨RX10, "addHouse", "(II)I"⟩
abbrev cX10_addDoor : ByteArray := prog_12_method_8_code
def yX10_addDoor : MethodName := ⟨RX10, "addDoor", "(II)I"⟩
abbrev cX10_draw : ByteArray := prog_12_method_9_code
def yX10_draw : MethodName := ⟨RX10, "draw", "()I"⟩
abbrev cX10_doAgree : ByteArray := prog_12_method_10_code
def yX10_doAgree : MethodName := ⟨RX10, "doAgree", "(II)Z"⟩
abbrev cX10_load : ByteArray := prog_12_method_11_code
def yX10_load : MethodName := ⟨RX10, "load", "(II)I"⟩
abbrev cX10_hears : ByteArray := prog_12_method_12_code
def yX10_hears : MethodName := ⟨RX10, "hears", "(I)I"⟩
abbrev cX10_rings : ByteArray := prog_12_method_13_code
def yX10_rings : MethodName := ⟨RX10, "rings", "(I)I"⟩
abbrev cX10_lastOf : ByteArray := prog_12_method_14_code
def yX10_lastOf : MethodName := ⟨RX10, "lastOf", "(I)I"⟩
abbrev cX10_comesNow : ByteArray := prog_12_method_15_code
def yX10_comesNow : MethodName := ⟨RX10, "comesNow", "(I)I"⟩
abbrev cX10_listen : ByteArray := prog_12_method_16_code
def yX10_listen : MethodName := ⟨RX10, "listen", "()V"⟩
abbrev cX10_missedBy : ByteArray := prog_12_method_17_code
def yX10_missedBy : MethodName := ⟨RX10, "missedBy", "(LTwoBells$Thief;I)I"⟩
abbrev cX10_gainOf : ByteArray := prog_12_method_18_code
def yX10_gainOf : MethodName := ⟨RX10, "gainOf", "(II)I"⟩
abbrev cX10_weigh : ByteArray := prog_12_method_19_code
def yX10_weigh : MethodName := ⟨RX10, "weigh", "()V"⟩
abbrev cX10_greatest : ByteArray := prog_12_method_20_code
def yX10_greatest : MethodName := ⟨RX10, "greatest", "(I[II)I"⟩
abbrev cX10_byLot : ByteArray := prog_12_method_21_code
def yX10_byLot : MethodName := ⟨RX10, "byLot", "(I)I"⟩
abbrev cX10_night : ByteArray := prog_12_method_22_code
def yX10_night : MethodName := ⟨RX10, "night", "()V"⟩
abbrev cX10_wouldBeLawful : ByteArray := prog_12_method_23_code
def yX10_wouldBeLawful : MethodName := ⟨RX10, "wouldBeLawful", "(III)Z"⟩
abbrev cX10_isLawful : ByteArray := prog_12_method_24_code
def yX10_isLawful : MethodName := ⟨RX10, "isLawful", "(I)Z"⟩
abbrev cX10_howManyUnlawful : ByteArray := prog_12_method_25_code
def yX10_howManyUnlawful : MethodName := ⟨RX10, "howManyUnlawful", "()I"⟩
abbrev cX10_firstUnlawful : ByteArray := prog_12_method_26_code
def yX10_firstUnlawful : MethodName := ⟨RX10, "firstUnlawful", "()I"⟩
abbrev cX10_bestPair : ByteArray := prog_12_method_27_code
def yX10_bestPair : MethodName := ⟨RX10, "bestPair", "(I)I"⟩
def RX11 : String := "TwoBells"
def TX11 : u_T := fun k => match k with
  | 0 => ("TwoBells", "now", "LTwoBells$Town;", true)
  | 1 => ("TwoBells", "image", "LTwoBells$Town;", true)
  | 2 => ("TwoBells", "kept", "Z", false)
  | 3 => ("TwoBells", "tape", "LTwoBells$Tape;", true)
  | 4 => ("TwoBells", "waits", "[I", true)
  | 5 => ("TwoBells", "waiting", "I", false)
  | 6 => ("TwoBells", "sheets", "[LTwoBells$Sheet;", true)
  | 7 => ("TwoBells", "slots", "[LTwoBells$Slot;", true)
  | _ => ("TwoBells", "rung", "[I", true)
def tyX11 : Nat → FieldType := fun k => match k with
  | 0 => .object "TwoBells$Town"
  | 1 => .object "TwoBells$Town"
  | 2 => .boolean
  | 3 => .object "TwoBells$Tape"
  | 4 => .array .int
  | 5 => .int
  | 6 => .array (.object "TwoBells$Sheet")
  | 7 => .array (.object "TwoBells$Slot")
  | _ => .array .int
abbrev wsX110 : List Cond := u_ws RX11 TX11 9
theorem nmX11 : ∀ a, a < 9 → ∀ b, b < 9 → a ≠ b → (TX11 a).2.1 ≠ (TX11 b).2.1 := by decide +kernel
theorem tyX11_ok : ∀ k, k < 9 → parseFieldDescriptor (TX11 k).2.2.1 = some (tyX11 k) := by decide +kernel
abbrev cX11_init : ByteArray := prog_1_method_1_code
def yX11_init : MethodName := ⟨RX11, "<init>", "()V"⟩
abbrev cX11_house : ByteArray := prog_1_method_2_code
def yX11_house : MethodName := ⟨RX11, "house", "(II)I"⟩
abbrev cX11_houseTold : ByteArray := prog_1_method_3_code
def yX11_houseTold : MethodName := ⟨RX11, "houseTold", "(II)I"⟩
abbrev cX11_change : ByteArray := prog_1_method_4_code
def yX11_change : MethodName := ⟨RX11, "change", "(III)I"⟩
abbrev cX11_agree : ByteArray := prog_1_method_5_code
def yX11_agree : MethodName := ⟨RX11, "agree", "(III)I"⟩
abbrev cX11_patience : ByteArray := prog_1_method_6_code
def yX11_patience : MethodName := ⟨RX11, "patience", "(I)I"⟩
abbrev cX11_deal : ByteArray := prog_1_method_7_code
def yX11_deal : MethodName := ⟨RX11, "deal", "(I)I"⟩
abbrev cX11_door : ByteArray := prog_1_method_8_code
def yX11_door : MethodName := ⟨RX11, "door", "(II)I"⟩
abbrev cX11_doorTold : ByteArray := prog_1_method_9_code
def yX11_doorTold : MethodName := ⟨RX11, "doorTold", "(II)I"⟩
abbrev cX11_set : ByteArray := prog_1_method_10_code
def yX11_set : MethodName := ⟨RX11, "set", "(III)I"⟩
abbrev cX11_wire : ByteArray := prog_1_method_11_code
def yX11_wire : MethodName := ⟨RX11, "wire", "(III)I"⟩
abbrev cX11_thief : ByteArray := prog_1_method_12_code
def yX11_thief : MethodName := ⟨RX11, "thief", "(II)I"⟩
abbrev cX11_told : ByteArray := prog_1_method_13_code
def yX11_told : MethodName := ⟨RX11, "told", "(II)I"⟩
abbrev cX11_as : ByteArray := prog_1_method_14_code
def yX11_as : MethodName := ⟨RX11, "as", "(II)I"⟩
abbrev cX11_turns : ByteArray := prog_1_method_15_code
def yX11_turns : MethodName := ⟨RX11, "turns", "(II)I"⟩
abbrev cX11_at : ByteArray := prog_1_method_16_code
def yX11_at : MethodName := ⟨RX11, "at", "(III)I"⟩
abbrev cX11_heed : ByteArray := prog_1_method_17_code
def yX11_heed : MethodName := ⟨RX11, "heed", "(II)I"⟩
abbrev cX11_choice : ByteArray := prog_1_method_18_code
def yX11_choice : MethodName := ⟨RX11, "choice", "(I)I"⟩
abbrev cX11_nights : ByteArray := prog_1_method_19_code
def yX11_nights : MethodName := ⟨RX11, "nights", "(I)I"⟩
abbrev cX11_seed : ByteArray := prog_1_method_20_code
def yX11_seed : MethodName := ⟨RX11, "seed", "(I)I"⟩
abbrev cX11_pair : ByteArray := prog_1_method_21_code
def yX11_pair : MethodName := ⟨RX11, "pair", "(I)I"⟩
abbrev cX11_wiring : ByteArray := prog_1_method_22_code
def yX11_wiring : MethodName := ⟨RX11, "wiring", "()I"⟩
abbrev cX11_unlawful : ByteArray := prog_1_method_23_code
def yX11_unlawful : MethodName := ⟨RX11, "unlawful", "(I)I"⟩
abbrev cX11_worst : ByteArray := prog_1_method_24_code
def yX11_worst : MethodName := ⟨RX11, "worst", "(I)I"⟩
abbrev cX11_heard : ByteArray := prog_1_method_25_code
def yX11_heard : MethodName := ⟨RX11, "heard", "(I)I"⟩
abbrev cX11_fewest : ByteArray := prog_1_method_26_code
def yX11_fewest : MethodName := ⟨RX11, "fewest", "()I"⟩
abbrev cX11_alike : ByteArray := prog_1_method_27_code
def yX11_alike : MethodName := ⟨RX11, "alike", "()I"⟩
abbrev cX11_feed : ByteArray := prog_1_method_28_code
def yX11_feed : MethodName := ⟨RX11, "feed", "(III)I"⟩
abbrev cX11_trim : ByteArray := prog_1_method_29_code
def yX11_trim : MethodName := ⟨RX11, "trim", "(I)I"⟩
abbrev cX11_text : ByteArray := prog_1_method_30_code
def yX11_text : MethodName := ⟨RX11, "text", "()I"⟩
abbrev cX11_textTold : ByteArray := prog_1_method_31_code
def yX11_textTold : MethodName := ⟨RX11, "textTold", "(II)I"⟩
abbrev cX11_why : ByteArray := prog_1_method_32_code
def yX11_why : MethodName := ⟨RX11, "why", "(I)I"⟩
abbrev cX11_sheet : ByteArray := prog_1_method_33_code
def yX11_sheet : MethodName := ⟨RX11, "sheet", "(III)I"⟩
abbrev cX11_mark : ByteArray := prog_1_method_34_code
def yX11_mark : MethodName := ⟨RX11, "mark", "(III)I"⟩
abbrev cX11_pour : ByteArray := prog_1_method_35_code
def yX11_pour : MethodName := ⟨RX11, "pour", "(I)I"⟩
abbrev cX11_reads : ByteArray := prog_1_method_36_code
def yX11_reads : MethodName := ⟨RX11, "reads", "(I)I"⟩
abbrev cX11_copy : ByteArray := prog_1_method_37_code
def yX11_copy : MethodName := ⟨RX11, "copy", "(IIIII)I"⟩
abbrev cX11_lay : ByteArray := prog_1_method_38_code
def yX11_lay : MethodName := ⟨RX11, "lay", "(III)I"⟩
abbrev cX11_ask : ByteArray := prog_1_method_39_code
def yX11_ask : MethodName := ⟨RX11, "ask", "(II)I"⟩
abbrev cX11_item : ByteArray := prog_1_method_40_code
def yX11_item : MethodName := ⟨RX11, "item", "(II)I"⟩
abbrev cX11_rest : ByteArray := prog_1_method_41_code
def yX11_rest : MethodName := ⟨RX11, "rest", "(II)I"⟩
abbrev cX11_tell : ByteArray := prog_1_method_42_code
def yX11_tell : MethodName := ⟨RX11, "tell", "(I)I"⟩
abbrev cX11_check : ByteArray := prog_1_method_43_code
def yX11_check : MethodName := ⟨RX11, "check", "(I)I"⟩
abbrev cX11_keep : ByteArray := prog_1_method_44_code
def yX11_keep : MethodName := ⟨RX11, "keep", "()I"⟩
abbrev cX11_back : ByteArray := prog_1_method_45_code
def yX11_back : MethodName := ⟨RX11, "back", "()I"⟩
abbrev cX11_count : ByteArray := prog_1_method_46_code
def yX11_count : MethodName := ⟨RX11, "count", "(I)I"⟩
abbrev cX11_within : ByteArray := prog_1_method_47_code
def yX11_within : MethodName := ⟨RX11, "within", "(III)Z"⟩
abbrev cX11_held : ByteArray := prog_1_method_48_code
def yX11_held : MethodName := ⟨RX11, "held", "(III)I"⟩
abbrev cX11_isKind : ByteArray := prog_1_method_49_code
def yX11_isKind : MethodName := ⟨RX11, "isKind", "(I)Z"⟩
abbrev cX11_sheetAt : ByteArray := prog_1_method_50_code
def yX11_sheetAt : MethodName := ⟨RX11, "sheetAt", "(I)LTwoBells$Sheet;"⟩
abbrev cX11_slotAt : ByteArray := prog_1_method_51_code
def yX11_slotAt : MethodName := ⟨RX11, "slotAt", "(I)LTwoBells$Slot;"⟩
abbrev cX11_hearsAllRung : ByteArray := prog_1_method_52_code
def yX11_hearsAllRung : MethodName := ⟨RX11, "hearsAllRung", "(I)Z"⟩
abbrev cX11_howManyRight : ByteArray := prog_1_method_53_code
def yX11_howManyRight : MethodName := ⟨RX11, "howManyRight", "(II)I"⟩
abbrev cX11_waitsAt : ByteArray := prog_1_method_54_code
def yX11_waitsAt : MethodName := ⟨RX11, "waitsAt", "(III)Z"⟩
def RX12 : String := "TwoBellsModel"
def TX12 : u_T := fun k => match k with
  | 0 => ("TwoBellsModel", "now", "[I", true)
  | 1 => ("TwoBellsModel", "image", "[I", true)
  | 2 => ("TwoBellsModel", "aside", "[I", true)
  | 3 => ("TwoBellsModel", "hasImage", "Z", false)
  | 4 => ("TwoBellsModel", "tape", "[I", true)
  | 5 => ("TwoBellsModel", "taped", "I", false)
  | 6 => ("TwoBellsModel", "next", "I", false)
  | 7 => ("TwoBellsModel", "from", "I", false)
  | 8 => ("TwoBellsModel", "token", "I", false)
  | 9 => ("TwoBellsModel", "value", "I", false)
  | 10 => ("TwoBellsModel", "ended", "I", false)
  | 11 => ("TwoBellsModel", "key", "I", false)
  | 12 => ("TwoBellsModel", "keys", "[C", true)
  | 13 => ("TwoBellsModel", "keyAt", "[I", true)
  | 14 => ("TwoBellsModel", "code", "[I", true)
  | 15 => ("TwoBellsModel", "codes", "I", false)
  | 16 => ("TwoBellsModel", "atoms", "I", false)
  | 17 => ("TwoBellsModel", "waits", "[I", true)
  | 18 => ("TwoBellsModel", "held", "I", false)
  | 19 => ("TwoBellsModel", "tested", "[Z", true)
  | 20 => ("TwoBellsModel", "stack", "[I", true)
  | 21 => ("TwoBellsModel", "facts", "[I", true)
  | 22 => ("TwoBellsModel", "sorts", "[I", true)
  | 23 => ("TwoBellsModel", "sizes", "[I", true)
  | 24 => ("TwoBellsModel", "cells", "[I", true)
  | 25 => ("TwoBellsModel", "holds", "[I", true)
  | 26 => ("TwoBellsModel", "holdsA", "[I", true)
  | 27 => ("TwoBellsModel", "holdsB", "[I", true)
  | 28 => ("TwoBellsModel", "heldCells", "[I", true)
  | 29 => ("TwoBellsModel", "moved", "[I", true)
  | 30 => ("TwoBellsModel", "tells", "[I", true)
  | _ => ("TwoBellsModel", "waiting", "I", false)
def tyX12 : Nat → FieldType := fun k => match k with
  | 0 => .array .int
  | 1 => .array .int
  | 2 => .array .int
  | 3 => .boolean
  | 4 => .array .int
  | 5 => .int
  | 6 => .int
  | 7 => .int
  | 8 => .int
  | 9 => .int
  | 10 => .int
  | 11 => .int
  | 12 => .array .char
  | 13 => .array .int
  | 14 => .array .int
  | 15 => .int
  | 16 => .int
  | 17 => .array .int
  | 18 => .int
  | 19 => .array .boolean
  | 20 => .array .int
  | 21 => .array .int
  | 22 => .array .int
  | 23 => .array .int
  | 24 => .array .int
  | 25 => .array .int
  | 26 => .array .int
  | 27 => .array .int
  | 28 => .array .int
  | 29 => .array .int
  | 30 => .array .int
  | _ => .int
abbrev wsX120 : List Cond := u_ws RX12 TX12 32
theorem nmX12 : ∀ a, a < 32 → ∀ b, b < 32 → a ≠ b → (TX12 a).2.1 ≠ (TX12 b).2.1 := by decide +kernel
theorem tyX12_ok : ∀ k, k < 32 → parseFieldDescriptor (TX12 k).2.2.1 = some (tyX12 k) := by decide +kernel
abbrev cX12_init : ByteArray := prog_14_method_1_code
def yX12_init : MethodName := ⟨RX12, "<init>", "()V"⟩
abbrev cX12_in : ByteArray := prog_14_method_2_code
def yX12_in : MethodName := ⟨RX12, "in", "(III)Z"⟩
abbrev cX12_within : ByteArray := prog_14_method_3_code
def yX12_within : MethodName := ⟨RX12, "within", "(III)I"⟩
abbrev cX12_copyAll : ByteArray := prog_14_method_4_code
def yX12_copyAll : MethodName := ⟨RX12, "copyAll", "([I[I)V"⟩
abbrev cX12_told0 : ByteArray := prog_14_method_5_code
def yX12_told0 : MethodName := ⟨RX12, "told0", "(I)I"⟩
abbrev cX12_isHouse : ByteArray := prog_14_method_6_code
def yX12_isHouse : MethodName := ⟨RX12, "isHouse", "(I)Z"⟩
abbrev cX12_isDoor : ByteArray := prog_14_method_7_code
def yX12_isDoor : MethodName := ⟨RX12, "isDoor", "(I)Z"⟩
abbrev cX12_isThief : ByteArray := prog_14_method_8_code
def yX12_isThief : MethodName := ⟨RX12, "isThief", "(I)Z"⟩
abbrev cX12_houseOf : ByteArray := prog_14_method_9_code
def yX12_houseOf : MethodName := ⟨RX12, "houseOf", "(II)I"⟩
abbrev cX12_doorOf : ByteArray := prog_14_method_10_code
def yX12_doorOf : MethodName := ⟨RX12, "doorOf", "(II)I"⟩
abbrev cX12_kindOf : ByteArray := prog_14_method_11_code
def yX12_kindOf : MethodName := ⟨RX12, "kindOf", "(I)I"⟩
abbrev cX12_homeOf : ByteArray := prog_14_method_12_code
def yX12_homeOf : MethodName := ⟨RX12, "homeOf", "(I)I"⟩
abbrev cX12_becomes : ByteArray := prog_14_method_13_code
def yX12_becomes : MethodName := ⟨RX12, "becomes", "(II)I"⟩
abbrev cX12_draw : ByteArray := prog_14_method_14_code
def yX12_draw : MethodName := ⟨RX12, "draw", "()I"⟩
abbrev cX12_comes : ByteArray := prog_14_method_15_code
def yX12_comes : MethodName := ⟨RX12, "comes", "(II)I"⟩
abbrev cX12_house : ByteArray := prog_14_method_16_code
def yX12_house : MethodName := ⟨RX12, "house", "(II)I"⟩
abbrev cX12_bellsIn : ByteArray := prog_14_method_17_code
def yX12_bellsIn : MethodName := ⟨RX12, "bellsIn", "(IIZ)I"⟩
abbrev cX12_comesOf : ByteArray := prog_14_method_18_code
def yX12_comesOf : MethodName := ⟨RX12, "comesOf", "(I)I"⟩
abbrev cX12_houseTold : ByteArray := prog_14_method_19_code
def yX12_houseTold : MethodName := ⟨RX12, "houseTold", "(II)I"⟩
abbrev cX12_change : ByteArray := prog_14_method_20_code
def yX12_change : MethodName := ⟨RX12, "change", "(III)I"⟩
abbrev cX12_doAgree : ByteArray := prog_14_method_21_code
def yX12_doAgree : MethodName := ⟨RX12, "doAgree", "(II)Z"⟩
abbrev cX12_agree : ByteArray := prog_14_method_22_code
def yX12_agree : MethodName := ⟨RX12, "agree", "(III)I"⟩
abbrev cX12_patience : ByteArray := prog_14_method_23_code
def yX12_patience : MethodName := ⟨RX12, "patience", "(I)I"⟩
abbrev cX12_deal : ByteArray := prog_14_method_24_code
def yX12_deal : MethodName := ⟨RX12, "deal", "(I)I"⟩
abbrev cX12_door : ByteArray := prog_14_method_25_code
def yX12_door : MethodName := ⟨RX12, "door", "(II)I"⟩
abbrev cX12_isLawfulWith : ByteArray := prog_14_method_26_code
def yX12_isLawfulWith : MethodName := ⟨RX12, "isLawfulWith", "(III)Z"⟩
abbrev cX12_isLawful : ByteArray := prog_14_method_27_code
def yX12_isLawful : MethodName := ⟨RX12, "isLawful", "(I)Z"⟩
abbrev cX12_doorTold : ByteArray := prog_14_method_28_code
def yX12_doorTold : MethodName := ⟨RX12, "doorTold", "(II)I"⟩
abbrev cX12_set : ByteArray := prog_14_method_29_code
def yX12_set : MethodName := ⟨RX12, "set", "(III)I"⟩
abbrev cX12_wire : ByteArray := prog_14_method_30_code
def yX12_wire : MethodName := ⟨RX12, "wire", "(III)I"⟩
abbrev cX12_thief : ByteArray := prog_14_method_31_code
def yX12_thief : MethodName := ⟨RX12, "thief", "(II)I"⟩
abbrev cX12_worthOf : ByteArray := prog_14_method_32_code
def yX12_worthOf : MethodName := ⟨RX12, "worthOf", "(I)I"⟩
abbrev cX12_told : ByteArray := prog_14_method_33_code
def yX12_told : MethodName := ⟨RX12, "told", "(II)I"⟩
abbrev cX12_isUnder : ByteArray := prog_14_method_34_code
def yX12_isUnder : MethodName := ⟨RX12, "isUnder", "(II)Z"⟩
abbrev cX12_as : ByteArray := prog_14_method_35_code
def yX12_as : MethodName := ⟨RX12, "as", "(II)I"⟩
abbrev cX12_turns : ByteArray := prog_14_method_36_code
def yX12_turns : MethodName := ⟨RX12, "turns", "(II)I"⟩
abbrev cX12_heedOf : ByteArray := prog_14_method_37_code
def yX12_heedOf : MethodName := ⟨RX12, "heedOf", "(II)I"⟩
abbrev cX12_missedAt : ByteArray := prog_14_method_38_code
def yX12_missedAt : MethodName := ⟨RX12, "missedAt", "(II)I"⟩
abbrev cX12_gainAt : ByteArray := prog_14_method_39_code
def yX12_gainAt : MethodName := ⟨RX12, "gainAt", "(II)I"⟩
abbrev cX12_isOpen : ByteArray := prog_14_method_40_code
def yX12_isOpen : MethodName := ⟨RX12, "isOpen", "(II)Z"⟩
abbrev cX12_at : ByteArray := prog_14_method_41_code
def yX12_at : MethodName := ⟨RX12, "at", "(III)I"⟩
abbrev cX12_heed : ByteArray := prog_14_method_42_code
def yX12_heed : MethodName := ⟨RX12, "heed", "(II)I"⟩
abbrev cX12_bestFor : ByteArray := prog_14_method_43_code
def yX12_bestFor : MethodName := ⟨RX12, "bestFor", "(IZ)I"⟩
abbrev cX12_choiceOf : ByteArray := prog_14_method_44_code
def yX12_choiceOf : MethodName := ⟨RX12, "choiceOf", "(I)I"⟩
abbrev cX12_choice : ByteArray := prog_14_method_45_code
def yX12_choice : MethodName := ⟨RX12, "choice", "(I)I"⟩
abbrev cX12_night : ByteArray := prog_14_method_46_code
def yX12_night : MethodName := ⟨RX12, "night", "()V"⟩
abbrev cX12_nights : ByteArray := prog_14_method_47_code
def yX12_nights : MethodName := ⟨RX12, "nights", "(I)I"⟩
abbrev cX12_seed : ByteArray := prog_14_method_48_code
def yX12_seed : MethodName := ⟨RX12, "seed", "(I)I"⟩
abbrev cX12_pairOf : ByteArray := prog_14_method_49_code
def yX12_pairOf : MethodName := ⟨RX12, "pairOf", "(I)I"⟩
abbrev cX12_pair : ByteArray := prog_14_method_50_code
def yX12_pair : MethodName := ⟨RX12, "pair", "(I)I"⟩
abbrev cX12_unlawfulMany : ByteArray := prog_14_method_51_code
def yX12_unlawfulMany : MethodName := ⟨RX12, "unlawfulMany", "()I"⟩
abbrev cX12_wiring : ByteArray := prog_14_method_52_code
def yX12_wiring : MethodName := ⟨RX12, "wiring", "()I"⟩
abbrev cX12_unlawful : ByteArray := prog_14_method_53_code
def yX12_unlawful : MethodName := ⟨RX12, "unlawful", "(I)I"⟩
abbrev cX12_worst : ByteArray := prog_14_method_54_code
def yX12_worst : MethodName := ⟨RX12, "worst", "(I)I"⟩
abbrev cX12_setOf : ByteArray := prog_14_method_55_code
def yX12_setOf : MethodName := ⟨RX12, "setOf", "(I)I"⟩
abbrev cX12_heardBy : ByteArray := prog_14_method_56_code
def yX12_heardBy : MethodName := ⟨RX12, "heardBy", "(I)I"⟩
abbrev cX12_heard : ByteArray := prog_14_method_57_code
def yX12_heard : MethodName := ⟨RX12, "heard", "(I)I"⟩
abbrev cX12_bitsOf : ByteArray := prog_14_method_58_code
def yX12_bitsOf : MethodName := ⟨RX12, "bitsOf", "(I)I"⟩
abbrev cX12_fewest : ByteArray := prog_14_method_59_code
def yX12_fewest : MethodName := ⟨RX12, "fewest", "()I"⟩
abbrev cX12_alike : ByteArray := prog_14_method_60_code
def yX12_alike : MethodName := ⟨RX12, "alike", "()I"⟩
abbrev cX12_feed : ByteArray := prog_14_method_61_code
def yX12_feed : MethodName := ⟨RX12, "feed", "(III)I"⟩
abbrev cX12_trim : ByteArray := prog_14_method_62_code
def yX12_trim : MethodName := ⟨RX12, "trim", "(I)I"⟩
abbrev cX12_isLetter : ByteArray := prog_14_method_63_code
def yX12_isLetter : MethodName := ⟨RX12, "isLetter", "(I)Z"⟩
abbrev cX12_isFigure : ByteArray := prog_14_method_64_code
def yX12_isFigure : MethodName := ⟨RX12, "isFigure", "(I)Z"⟩
abbrev cX12_go : ByteArray := prog_14_method_65_code
def yX12_go : MethodName := ⟨RX12, "go", "()V"⟩
abbrev cX12_takesKey : ByteArray := prog_14_method_66_code
def yX12_takesKey : MethodName := ⟨RX12, "takesKey", "()Z"⟩
abbrev cX12_nameOf : ByteArray := prog_14_method_67_code
def yX12_nameOf : MethodName := ⟨RX12, "nameOf", "(I)I"⟩
abbrev cX12_rank : ByteArray := prog_14_method_68_code
def yX12_rank : MethodName := ⟨RX12, "rank", "(I)I"⟩
abbrev cX12_settle : ByteArray := prog_14_method_69_code
def yX12_settle : MethodName := ⟨RX12, "settle", "(I)V"⟩
abbrev cX12_signHere : ByteArray := prog_14_method_70_code
def yX12_signHere : MethodName := ⟨RX12, "signHere", "()I"⟩
abbrev cX12_takesPart : ByteArray := prog_14_method_71_code
def yX12_takesPart : MethodName := ⟨RX12, "takesPart", "()Z"⟩
abbrev cX12_takesE : ByteArray := prog_14_method_72_code
def yX12_takesE : MethodName := ⟨RX12, "takesE", "()Z"⟩
abbrev cX12_notsOpen : ByteArray := prog_14_method_73_code
def yX12_notsOpen : MethodName := ⟨RX12, "notsOpen", "()I"⟩
abbrev cX12_text : ByteArray := prog_14_method_74_code
def yX12_text : MethodName := ⟨RX12, "text", "()I"⟩
abbrev cX12_textTold : ByteArray := prog_14_method_75_code
def yX12_textTold : MethodName := ⟨RX12, "textTold", "(II)I"⟩
abbrev cX12_counts : ByteArray := prog_14_method_76_code
def yX12_counts : MethodName := ⟨RX12, "counts", "(I)I"⟩
abbrev cX12_why : ByteArray := prog_14_method_77_code
def yX12_why : MethodName := ⟨RX12, "why", "(I)I"⟩
abbrev cX12_two : ByteArray := prog_14_method_78_code
def yX12_two : MethodName := ⟨RX12, "two", "(III)I"⟩
abbrev cX12_worksOut : ByteArray := prog_14_method_79_code
def yX12_worksOut : MethodName := ⟨RX12, "worksOut", "(I)I"⟩
abbrev cX12_isSheet : ByteArray := prog_14_method_80_code
def yX12_isSheet : MethodName := ⟨RX12, "isSheet", "(I)Z"⟩
abbrev cX12_isSlot : ByteArray := prog_14_method_81_code
def yX12_isSlot : MethodName := ⟨RX12, "isSlot", "(I)Z"⟩
abbrev cX12_sheet : ByteArray := prog_14_method_82_code
def yX12_sheet : MethodName := ⟨RX12, "sheet", "(III)I"⟩
abbrev cX12_mark : ByteArray := prog_14_method_83_code
def yX12_mark : MethodName := ⟨RX12, "mark", "(III)I"⟩
abbrev cX12_pour : ByteArray := prog_14_method_84_code
def yX12_pour : MethodName := ⟨RX12, "pour", "(I)I"⟩
abbrev cX12_reads : ByteArray := prog_14_method_85_code
def yX12_reads : MethodName := ⟨RX12, "reads", "(I)I"⟩
abbrev cX12_copy : ByteArray := prog_14_method_86_code
def yX12_copy : MethodName := ⟨RX12, "copy", "(IIIII)I"⟩
abbrev cX12_lay : ByteArray := prog_14_method_87_code
def yX12_lay : MethodName := ⟨RX12, "lay", "(III)I"⟩
abbrev cX12_ask : ByteArray := prog_14_method_88_code
def yX12_ask : MethodName := ⟨RX12, "ask", "(II)I"⟩
abbrev cX12_item : ByteArray := prog_14_method_89_code
def yX12_item : MethodName := ⟨RX12, "item", "(II)I"⟩
abbrev cX12_rest : ByteArray := prog_14_method_90_code
def yX12_rest : MethodName := ⟨RX12, "rest", "(II)I"⟩
abbrev cX12_tell : ByteArray := prog_14_method_91_code
def yX12_tell : MethodName := ⟨RX12, "tell", "(I)I"⟩
abbrev cX12_check : ByteArray := prog_14_method_92_code
def yX12_check : MethodName := ⟨RX12, "check", "(I)I"⟩
abbrev cX12_keep : ByteArray := prog_14_method_93_code
def yX12_keep : MethodName := ⟨RX12, "keep", "()I"⟩
abbrev cX12_back : ByteArray := prog_14_method_94_code
def yX12_back : MethodName := ⟨RX12, "back", "()I"⟩
abbrev cX12_count : ByteArray := prog_14_method_95_code
def yX12_count : MethodName := ⟨RX12, "count", "(I)I"⟩
def RJ11 : String := "java/lang/Character"
abbrev cJ11_isValidCodePoint_9a6ad : ByteArray := prog_15_method_11_code
def yJ11_isValidCodePoint_9a6ad : MethodName := ⟨RJ11, "isValidCodePoint", "(I)Z"⟩
abbrev cJ11_highSurrogate_5068e : ByteArray := prog_15_method_28_code
def yJ11_highSurrogate_5068e : MethodName := ⟨RJ11, "highSurrogate", "(I)C"⟩
abbrev cJ11_lowSurrogate_5068e : ByteArray := prog_15_method_29_code
def yJ11_lowSurrogate_5068e : MethodName := ⟨RJ11, "lowSurrogate", "(I)C"⟩
def RJ6 : String := "java/lang/Integer"
abbrev cJ6_bitCount_0f7a4 : ByteArray := prog_17_method_49_code
def yJ6_bitCount_0f7a4 : MethodName := ⟨RJ6, "bitCount", "(I)I"⟩
def RJ9 : String := "java/lang/Math"
abbrev cJ9_max_7cf53 : ByteArray := prog_18_method_65_code
def yJ9_max_7cf53 : MethodName := ⟨RJ9, "max", "(II)I"⟩
abbrev cJ9_min_7cf53 : ByteArray := prog_18_method_69_code
def yJ9_min_7cf53 : MethodName := ⟨RJ9, "min", "(II)I"⟩
def RJ0 : String := "java/lang/String"
abbrev cJ0_length_8abf5 : ByteArray := prog_19_method_54_code
def yJ0_length_8abf5 : MethodName := ⟨RJ0, "length", "()I"⟩
abbrev cJ0_charAt_5068e : ByteArray := prog_19_method_56_code
def yJ0_charAt_5068e : MethodName := ⟨RJ0, "charAt", "(I)C"⟩
abbrev cJ0_indexOf_0f7a4 : ByteArray := prog_19_method_79_code
def yJ0_indexOf_0f7a4 : MethodName := ⟨RJ0, "indexOf", "(I)I"⟩
abbrev cJ0_indexOf_7cf53 : ByteArray := prog_19_method_80_code
def yJ0_indexOf_7cf53 : MethodName := ⟨RJ0, "indexOf", "(II)I"⟩
abbrev cJ0_coder_7d493 : ByteArray := prog_19_method_152_code
def yJ0_coder_7d493 : MethodName := ⟨RJ0, "coder", "()B"⟩
abbrev cJ0_isLatin1_aae02 : ByteArray := prog_19_method_154_code
def yJ0_isLatin1_aae02 : MethodName := ⟨RJ0, "isLatin1", "()Z"⟩
abbrev cJ0_checkIndex_df160 : ByteArray := prog_19_method_155_code
def yJ0_checkIndex_df160 : MethodName := ⟨RJ0, "checkIndex", "(II)V"⟩
abbrev cJ0_checkBoundsBeginEnd_23922 : ByteArray := prog_19_method_158_code
def yJ0_checkBoundsBeginEnd_23922 : MethodName := ⟨RJ0, "checkBoundsBeginEnd", "(III)V"⟩
def RJ1 : String := "java/lang/StringLatin1"
abbrev cJ1_charAt_3b067 : ByteArray := prog_20_method_2_code
def yJ1_charAt_3b067 : MethodName := ⟨RJ1, "charAt", "([BI)C"⟩
abbrev cJ1_canEncode_9a6ad : ByteArray := prog_20_method_4_code
def yJ1_canEncode_9a6ad : MethodName := ⟨RJ1, "canEncode", "(I)Z"⟩
abbrev cJ1_indexOf_4cfef : ByteArray := prog_20_method_22_code
def yJ1_indexOf_4cfef : MethodName := ⟨RJ1, "indexOf", "([BIII)I"⟩
abbrev cJ1_indexOfChar_4cfef : ByteArray := prog_20_method_23_code
def yJ1_indexOfChar_4cfef : MethodName := ⟨RJ1, "indexOfChar", "([BIII)I"⟩
def RJ2 : String := "java/lang/StringUTF16"
abbrev cJ2_getChar_3b067 : ByteArray := prog_21_method_5_code
def yJ2_getChar_3b067 : MethodName := ⟨RJ2, "getChar", "([BI)C"⟩
abbrev cJ2_length_9d52b : ByteArray := prog_21_method_6_code
def yJ2_length_9d52b : MethodName := ⟨RJ2, "length", "([B)I"⟩
abbrev cJ2_indexOf_4cfef : ByteArray := prog_21_method_40_code
def yJ2_indexOf_4cfef : MethodName := ⟨RJ2, "indexOf", "([BIII)I"⟩
abbrev cJ2_indexOfChar_4cfef : ByteArray := prog_21_method_47_code
def yJ2_indexOfChar_4cfef : MethodName := ⟨RJ2, "indexOfChar", "([BIII)I"⟩
abbrev cJ2_indexOfCharUnsafe_4cfef : ByteArray := prog_21_method_48_code
def yJ2_indexOfCharUnsafe_4cfef : MethodName := ⟨RJ2, "indexOfCharUnsafe", "([BIII)I"⟩
abbrev cJ2_indexOfSupplementary_4cfef : ByteArray := prog_21_method_49_code
def yJ2_indexOfSupplementary_4cfef : MethodName := ⟨RJ2, "indexOfSupplementary", "([BIII)I"⟩
abbrev cJ2_charAt_3b067 : ByteArray := prog_21_method_83_code
def yJ2_charAt_3b067 : MethodName := ⟨RJ2, "charAt", "([BI)C"⟩
abbrev cJ2_checkIndex_2214a : ByteArray := prog_21_method_91_code
def yJ2_checkIndex_2214a : MethodName := ⟨RJ2, "checkIndex", "(I[B)V"⟩
abbrev cJ2_checkBoundsBeginEnd_d044e : ByteArray := prog_21_method_93_code
def yJ2_checkBoundsBeginEnd_d044e : MethodName := ⟨RJ2, "checkBoundsBeginEnd", "(II[B)V"⟩
def RJ10 : String := "java/lang/System"
def RJ7 : String := "java/util/Arrays"
abbrev cJ7_fill_53178 : ByteArray := prog_23_method_103_code
def yJ7_fill_53178 : MethodName := ⟨RJ7, "fill", "([II)V"⟩
abbrev cJ7_copyOf_59c91 : ByteArray := prog_23_method_123_code
def yJ7_copyOf_59c91 : MethodName := ⟨RJ7, "copyOf", "([II)[I"⟩
def RJ3 : String := "jdk/internal/util/Preconditions"
abbrev cJ3_checkIndex_8e157 : ByteArray := prog_24_method_11_code
def yJ3_checkIndex_8e157 : MethodName := ⟨RJ3, "checkIndex", "(IILjava/util/function/BiFunction;)I"⟩
abbrev cJ3_checkFromToIndex_8c36e : ByteArray := prog_24_method_12_code
def yJ3_checkFromToIndex_8c36e : MethodName := ⟨RJ3, "checkFromToIndex", "(IIILjava/util/function/BiFunction;)I"⟩
def RL : String := "TwoBellsLaw"
abbrev cL_law : ByteArray := code
def yL_law : MethodName := ⟨RL, "law", "([I)Z"⟩
end
section
theorem dX0_init_0 : decode cX0_init 0 = .ok (.aload_n 0, 1) := by decide +kernel
theorem dX0_init_1 : decode cX0_init 1 = .ok (.iload_n 1, 1) := by decide +kernel
theorem dX0_init_2 : decode cX0_init 2 = .ok (.iload_n 2, 1) := by decide +kernel
theorem dX0_init_3 : decode cX0_init 3 = .ok (.invokespecial 1, 3) := by decide +kernel
theorem dX0_init_6 : decode cX0_init 6 = .ok (.return_, 1) := by decide +kernel
theorem dX0_heeds_0 : decode cX0_heeds 0 = .ok (.aload_n 0, 1) := by decide +kernel
theorem dX0_heeds_1 : decode cX0_heeds 1 = .ok (.aload_n 1, 1) := by decide +kernel
theorem dX0_heeds_2 : decode cX0_heeds 2 = .ok (.iload_n 2, 1) := by decide +kernel
theorem dX0_heeds_3 : decode cX0_heeds 3 = .ok (.iload_n 3, 1) := by decide +kernel
theorem dX0_heeds_4 : decode cX0_heeds 4 = .ok (.invokespecial 7, 3) := by decide +kernel
theorem dX0_heeds_7 : decode cX0_heeds 7 = .ok (.iconst 2, 1) := by decide +kernel
theorem dX0_heeds_8 : decode cX0_heeds 8 = .ok (.idiv, 1) := by decide +kernel
theorem dX0_heeds_9 : decode cX0_heeds 9 = .ok (.ireturn, 1) := by decide +kernel
theorem dX0_value_0 : decode cX0_value 0 = .ok (.aload_n 0, 1) := by decide +kernel
theorem dX0_value_1 : decode cX0_value 1 = .ok (.invokespecial 11, 3) := by decide +kernel
theorem dX0_value_4 : decode cX0_value 4 = .ok (.iconst 1, 1) := by decide +kernel
theorem dX0_value_5 : decode cX0_value 5 = .ok (.isub, 1) := by decide +kernel
theorem dX0_value_6 : decode cX0_value 6 = .ok (.ireturn, 1) := by decide +kernel
theorem dX1_init_0 : decode cX1_init 0 = .ok (.aload_n 0, 1) := by decide +kernel
theorem dX1_init_1 : decode cX1_init 1 = .ok (.iload_n 1, 1) := by decide +kernel
theorem dX1_init_2 : decode cX1_init 2 = .ok (.iload_n 2, 1) := by decide +kernel
theorem dX1_init_3 : decode cX1_init 3 = .ok (.invokespecial 1, 3) := by decide +kernel
theorem dX1_init_6 : decode cX1_init 6 = .ok (.return_, 1) := by decide +kernel
theorem dX1_heeds_0 : decode cX1_heeds 0 = .ok (.iconst 0, 1) := by decide +kernel
theorem dX1_heeds_1 : decode cX1_heeds 1 = .ok (.aload_n 0, 1) := by decide +kernel
theorem dX1_heeds_2 : decode cX1_heeds 2 = .ok (.aload_n 1, 1) := by decide +kernel
theorem dX1_heeds_3 : decode cX1_heeds 3 = .ok (.iload_n 2, 1) := by decide +kernel
theorem dX1_heeds_4 : decode cX1_heeds 4 = .ok (.iload_n 3, 1) := by decide +kernel
theorem dX1_heeds_5 : decode cX1_heeds 5 = .ok (.invokespecial 7, 3) := by decide +kernel
theorem dX1_heeds_8 : decode cX1_heeds 8 = .ok (.bipush 30, 2) := by decide +kernel
theorem dX1_heeds_10 : decode cX1_heeds 10 = .ok (.isub, 1) := by decide +kernel
theorem dX1_heeds_11 : decode cX1_heeds 11 = .ok (.invokestatic 11, 3) := by decide +kernel
theorem dX1_heeds_14 : decode cX1_heeds 14 = .ok (.ireturn, 1) := by decide +kernel
theorem dX1_value_0 : decode cX1_value 0 = .ok (.bipush 30, 2) := by decide +kernel
theorem dX1_value_2 : decode cX1_value 2 = .ok (.ireturn, 1) := by decide +kernel
theorem dX2_init_0 : decode cX2_init 0 = .ok (.aload_n 0, 1) := by decide +kernel
theorem dX2_init_1 : decode cX2_init 1 = .ok (.iload_n 1, 1) := by decide +kernel
theorem dX2_init_2 : decode cX2_init 2 = .ok (.iload_n 2, 1) := by decide +kernel
theorem dX2_init_3 : decode cX2_init 3 = .ok (.invokespecial 3, 3) := by decide +kernel
theorem dX2_init_6 : decode cX2_init 6 = .ok (.return_, 1) := by decide +kernel
theorem dX2_picks_0 : decode cX2_picks 0 = .ok (.aload_n 1, 1) := by decide +kernel
theorem dX2_picks_1 : decode cX2_picks 1 = .ok (.aload_n 0, 1) := by decide +kernel
theorem dX2_picks_2 : decode cX2_picks 2 = .ok (.getfield 9, 3) := by decide +kernel
theorem dX2_picks_5 : decode cX2_picks 5 = .ok (.aload_n 1, 1) := by decide +kernel
theorem dX2_picks_6 : decode cX2_picks 6 = .ok (.getfield 15, 3) := by decide +kernel
theorem dX2_picks_9 : decode cX2_picks 9 = .ok (.iload_n 2, 1) := by decide +kernel
theorem dX2_picks_10 : decode cX2_picks 10 = .ok (.bipush 12, 2) := by decide +kernel
theorem dX2_picks_12 : decode cX2_picks 12 = .ok (.imul, 1) := by decide +kernel
theorem dX2_picks_13 : decode cX2_picks 13 = .ok (.invokevirtual 21, 3) := by decide +kernel
theorem dX2_picks_16 : decode cX2_picks 16 = .ok (.ireturn, 1) := by decide +kernel
theorem dX2_value_0 : decode cX2_value 0 = .ok (.aload_n 0, 1) := by decide +kernel
theorem dX2_value_1 : decode cX2_value 1 = .ok (.invokespecial 25, 3) := by decide +kernel
theorem dX2_value_4 : decode cX2_value 4 = .ok (.bipush 10, 2) := by decide +kernel
theorem dX2_value_6 : decode cX2_value 6 = .ok (.iadd, 1) := by decide +kernel
theorem dX2_value_7 : decode cX2_value 7 = .ok (.ireturn, 1) := by decide +kernel
theorem dX3_init_0 : decode cX3_init 0 = .ok (.aload_n 0, 1) := by decide +kernel
theorem dX3_init_1 : decode cX3_init 1 = .ok (.iload_n 1, 1) := by decide +kernel
theorem dX3_init_2 : decode cX3_init 2 = .ok (.iload_n 2, 1) := by decide +kernel
theorem dX3_init_3 : decode cX3_init 3 = .ok (.invokespecial 1, 3) := by decide +kernel
theorem dX3_init_6 : decode cX3_init 6 = .ok (.return_, 1) := by decide +kernel
theorem dX3_heeds_0 : decode cX3_heeds 0 = .ok (.iload_n 2, 1) := by decide +kernel
theorem dX3_heeds_1 : decode cX3_heeds 1 = .ok (.aload_n 0, 1) := by decide +kernel
theorem dX3_heeds_2 : decode cX3_heeds 2 = .ok (.getfield 7, 3) := by decide +kernel
theorem dX3_heeds_5 : decode cX3_heeds 5 = .ok (.if_icmp .eq 15, 3) := by decide +kernel
theorem dX3_heeds_8 : decode cX3_heeds 8 = .ok (.aload_n 1, 1) := by decide +kernel
theorem dX3_heeds_9 : decode cX3_heeds 9 = .ok (.iload_n 2, 1) := by decide +kernel
theorem dX3_heeds_10 : decode cX3_heeds 10 = .ok (.aload_n 0, 1) := by decide +kernel
theorem dX3_heeds_11 : decode cX3_heeds 11 = .ok (.getfield 7, 3) := by decide +kernel
theorem dX3_heeds_14 : decode cX3_heeds 14 = .ok (.invokevirtual 13, 3) := by decide +kernel
theorem dX3_heeds_17 : decode cX3_heeds 17 = .ok (.ifCond .eq 7, 3) := by decide +kernel
theorem dX3_heeds_20 : decode cX3_heeds 20 = .ok (.iconst 0, 1) := by decide +kernel
theorem dX3_heeds_21 : decode cX3_heeds 21 = .ok (.goto 10, 3) := by decide +kernel
theorem dX3_heeds_24 : decode cX3_heeds 24 = .ok (.aload_n 0, 1) := by decide +kernel
theorem dX3_heeds_25 : decode cX3_heeds 25 = .ok (.aload_n 1, 1) := by decide +kernel
theorem dX3_heeds_26 : decode cX3_heeds 26 = .ok (.iload_n 2, 1) := by decide +kernel
theorem dX3_heeds_27 : decode cX3_heeds 27 = .ok (.iload_n 3, 1) := by decide +kernel
theorem dX3_heeds_28 : decode cX3_heeds 28 = .ok (.invokespecial 19, 3) := by decide +kernel
theorem dX3_heeds_31 : decode cX3_heeds 31 = .ok (.ireturn, 1) := by decide +kernel
theorem dX3_value_0 : decode cX3_value 0 = .ok (.iconst 2, 1) := by decide +kernel
theorem dX3_value_1 : decode cX3_value 1 = .ok (.aload_n 0, 1) := by decide +kernel
theorem dX3_value_2 : decode cX3_value 2 = .ok (.invokespecial 23, 3) := by decide +kernel
theorem dX3_value_5 : decode cX3_value 5 = .ok (.imul, 1) := by decide +kernel
theorem dX3_value_6 : decode cX3_value 6 = .ok (.ireturn, 1) := by decide +kernel
theorem dX4_init_0 : decode cX4_init 0 = .ok (.aload_n 0, 1) := by decide +kernel
theorem dX4_init_1 : decode cX4_init 1 = .ok (.iload_n 1, 1) := by decide +kernel
theorem dX4_init_2 : decode cX4_init 2 = .ok (.iload_n 2, 1) := by decide +kernel
theorem dX4_init_3 : decode cX4_init 3 = .ok (.invokespecial 1, 3) := by decide +kernel
theorem dX4_init_6 : decode cX4_init 6 = .ok (.return_, 1) := by decide +kernel
theorem dX4_picks_0 : decode cX4_picks 0 = .ok (.aload_n 1, 1) := by decide +kernel
theorem dX4_picks_1 : decode cX4_picks 1 = .ok (.aload_n 0, 1) := by decide +kernel
theorem dX4_picks_2 : decode cX4_picks 2 = .ok (.getfield 7, 3) := by decide +kernel
theorem dX4_picks_5 : decode cX4_picks 5 = .ok (.aload_n 1, 1) := by decide +kernel
theorem dX4_picks_6 : decode cX4_picks 6 = .ok (.getfield 13, 3) := by decide +kernel
theorem dX4_picks_9 : decode cX4_picks 9 = .ok (.iconst 0, 1) := by decide +kernel
theorem dX4_picks_10 : decode cX4_picks 10 = .ok (.invokevirtual 19, 3) := by decide +kernel
theorem dX4_picks_13 : decode cX4_picks 13 = .ok (.ireturn, 1) := by decide +kernel
theorem dX4_value_0 : decode cX4_value 0 = .ok (.aload_n 0, 1) := by decide +kernel
theorem dX4_value_1 : decode cX4_value 1 = .ok (.invokespecial 23, 3) := by decide +kernel
theorem dX4_value_4 : decode cX4_value 4 = .ok (.bipush 20, 2) := by decide +kernel
theorem dX4_value_6 : decode cX4_value 6 = .ok (.iadd, 1) := by decide +kernel
theorem dX4_value_7 : decode cX4_value 7 = .ok (.ireturn, 1) := by decide +kernel
theorem dX5_init_0 : decode cX5_init 0 = .ok (.aload_n 0, 1) := by decide +kernel
theorem dX5_init_1 : decode cX5_init 1 = .ok (.invokespecial 3, 3) := by decide +kernel
theorem dX5_init_4 : decode cX5_init 4 = .ok (.aload_n 0, 1) := by decide +kernel
theorem dX5_init_5 : decode cX5_init 5 = .ok (.iconst (-1), 1) := by decide +kernel
theorem dX5_init_6 : decode cX5_init 6 = .ok (.putfield 9, 3) := by decide +kernel
theorem dX5_init_9 : decode cX5_init 9 = .ok (.aload_n 0, 1) := by decide +kernel
theorem dX5_init_10 : decode cX5_init 10 = .ok (.iconst 0, 1) := by decide +kernel
theorem dX5_init_11 : decode cX5_init 11 = .ok (.putfield 15, 3) := by decide +kernel
theorem dX5_init_14 : decode cX5_init 14 = .ok (.aload_n 0, 1) := by decide +kernel
theorem dX5_init_15 : decode cX5_init 15 = .ok (.bipush 24, 2) := by decide +kernel
theorem dX5_init_17 : decode cX5_init 17 = .ok (.newarray .int, 2) := by decide +kernel
theorem dX5_init_19 : decode cX5_init 19 = .ok (.putfield 18, 3) := by decide +kernel
theorem dX5_init_22 : decode cX5_init 22 = .ok (.return_, 1) := by decide +kernel
theorem dX5_become_0 : decode cX5_become 0 = .ok (.aload_n 0, 1) := by decide +kernel
theorem dX5_become_1 : decode cX5_become 1 = .ok (.aload_n 1, 1) := by decide +kernel
theorem dX5_become_2 : decode cX5_become 2 = .ok (.getfield 9, 3) := by decide +kernel
theorem dX5_become_5 : decode cX5_become 5 = .ok (.putfield 9, 3) := by decide +kernel
theorem dX5_become_8 : decode cX5_become 8 = .ok (.aload_n 0, 1) := by decide +kernel
theorem dX5_become_9 : decode cX5_become 9 = .ok (.aload_n 1, 1) := by decide +kernel
theorem dX5_become_10 : decode cX5_become 10 = .ok (.getfield 15, 3) := by decide +kernel
theorem dX5_become_13 : decode cX5_become 13 = .ok (.putfield 15, 3) := by decide +kernel
theorem dX5_become_16 : decode cX5_become 16 = .ok (.aload_n 1, 1) := by decide +kernel
theorem dX5_become_17 : decode cX5_become 17 = .ok (.getfield 18, 3) := by decide +kernel
theorem dX5_become_20 : decode cX5_become 20 = .ok (.iconst 0, 1) := by decide +kernel
theorem dX5_become_21 : decode cX5_become 21 = .ok (.aload_n 0, 1) := by decide +kernel
theorem dX5_become_22 : decode cX5_become 22 = .ok (.getfield 18, 3) := by decide +kernel
theorem dX5_become_25 : decode cX5_become 25 = .ok (.iconst 0, 1) := by decide +kernel
theorem dX5_become_26 : decode cX5_become 26 = .ok (.bipush 24, 2) := by decide +kernel
theorem dX5_become_28 : decode cX5_become 28 = .ok (.invokestatic 22, 3) := by decide +kernel
theorem dX5_become_31 : decode cX5_become 31 = .ok (.return_, 1) := by decide +kernel
theorem dX5_hasPlace_0 : decode cX5_hasPlace 0 = .ok (.iload_n 1, 1) := by decide +kernel
theorem dX5_hasPlace_1 : decode cX5_hasPlace 1 = .ok (.iconst 0, 1) := by decide +kernel
theorem dX5_hasPlace_2 : decode cX5_hasPlace 2 = .ok (.aload_n 0, 1) := by decide +kernel
theorem dX5_hasPlace_3 : decode cX5_hasPlace 3 = .ok (.getfield 15, 3) := by decide +kernel
theorem dX5_hasPlace_6 : decode cX5_hasPlace 6 = .ok (.iconst 1, 1) := by decide +kernel
theorem dX5_hasPlace_7 : decode cX5_hasPlace 7 = .ok (.isub, 1) := by decide +kernel
theorem dX5_hasPlace_8 : decode cX5_hasPlace 8 = .ok (.invokestatic 28, 3) := by decide +kernel
theorem dX5_hasPlace_11 : decode cX5_hasPlace 11 = .ok (.ireturn, 1) := by decide +kernel
theorem dX5_hasPlaces_0 : decode cX5_hasPlaces 0 = .ok (.iload_n 2, 1) := by decide +kernel
theorem dX5_hasPlaces_1 : decode cX5_hasPlaces 1 = .ok (.ifCond .lt 21, 3) := by decide +kernel
theorem dX5_hasPlaces_4 : decode cX5_hasPlaces 4 = .ok (.iload_n 1, 1) := by decide +kernel
theorem dX5_hasPlaces_5 : decode cX5_hasPlaces 5 = .ok (.ifCond .lt 17, 3) := by decide +kernel
theorem dX5_hasPlaces_8 : decode cX5_hasPlaces 8 = .ok (.iload_n 1, 1) := by decide +kernel
theorem dX5_hasPlaces_9 : decode cX5_hasPlaces 9 = .ok (.aload_n 0, 1) := by decide +kernel
theorem dX5_hasPlaces_10 : decode cX5_hasPlaces 10 = .ok (.getfield 15, 3) := by decide +kernel
theorem dX5_hasPlaces_13 : decode cX5_hasPlaces 13 = .ok (.iload_n 2, 1) := by decide +kernel
theorem dX5_hasPlaces_14 : decode cX5_hasPlaces 14 = .ok (.isub, 1) := by decide +kernel
theorem dX5_hasPlaces_15 : decode cX5_hasPlaces 15 = .ok (.if_icmp .gt 7, 3) := by decide +kernel
theorem dX5_hasPlaces_18 : decode cX5_hasPlaces 18 = .ok (.iconst 1, 1) := by decide +kernel
theorem dX5_hasPlaces_19 : decode cX5_hasPlaces 19 = .ok (.goto 4, 3) := by decide +kernel
theorem dX5_hasPlaces_22 : decode cX5_hasPlaces 22 = .ok (.iconst 0, 1) := by decide +kernel
theorem dX5_hasPlaces_23 : decode cX5_hasPlaces 23 = .ok (.ireturn, 1) := by decide +kernel
theorem dX6_init_0 : decode cX6_init 0 = .ok (.aload_n 0, 1) := by decide +kernel
theorem dX6_init_1 : decode cX6_init 1 = .ok (.invokespecial 3, 3) := by decide +kernel
theorem dX6_init_4 : decode cX6_init 4 = .ok (.aload_n 0, 1) := by decide +kernel
theorem dX6_init_5 : decode cX6_init 5 = .ok (.iconst 0, 1) := by decide +kernel
theorem dX6_init_6 : decode cX6_init 6 = .ok (.putfield 9, 3) := by decide +kernel
theorem dX6_init_9 : decode cX6_init 9 = .ok (.aload_n 0, 1) := by decide +kernel
theorem dX6_init_10 : decode cX6_init 10 = .ok (.aconst_null, 1) := by decide +kernel
theorem dX6_init_11 : decode cX6_init 11 = .ok (.putfield 15, 3) := by decide +kernel
theorem dX6_init_14 : decode cX6_init 14 = .ok (.aload_n 0, 1) := by decide +kernel
theorem dX6_init_15 : decode cX6_init 15 = .ok (.new 19, 3) := by decide +kernel
theorem dX6_init_18 : decode cX6_init 18 = .ok (.dup, 1) := by decide +kernel
theorem dX6_init_19 : decode cX6_init 19 = .ok (.invokespecial 21, 3) := by decide +kernel
theorem dX6_init_22 : decode cX6_init 22 = .ok (.putfield 22, 3) := by decide +kernel
theorem dX6_init_25 : decode cX6_init 25 = .ok (.aload_n 0, 1) := by decide +kernel
theorem dX6_init_26 : decode cX6_init 26 = .ok (.iconst 0, 1) := by decide +kernel
theorem dX6_init_27 : decode cX6_init 27 = .ok (.putfield 26, 3) := by decide +kernel
theorem dX6_init_30 : decode cX6_init 30 = .ok (.return_, 1) := by decide +kernel
theorem dX7_init_0 : decode cX7_init 0 = .ok (.aload_n 0, 1) := by decide +kernel
theorem dX7_init_1 : decode cX7_init 1 = .ok (.invokespecial 3, 3) := by decide +kernel
theorem dX7_init_4 : decode cX7_init 4 = .ok (.aload_n 0, 1) := by decide +kernel
theorem dX7_init_5 : decode cX7_init 5 = .ok (.iconst 0, 1) := by decide +kernel
theorem dX7_init_6 : decode cX7_init 6 = .ok (.putfield 9, 3) := by decide +kernel
theorem dX7_init_9 : decode cX7_init 9 = .ok (.aload_n 0, 1) := by decide +kernel
theorem dX7_init_10 : decode cX7_init 10 = .ok (.bipush 96, 2) := by decide +kernel
theorem dX7_init_12 : decode cX7_init 12 = .ok (.newarray .int, 2) := by decide +kernel
theorem dX7_init_14 : decode cX7_init 14 = .ok (.putfield 15, 3) := by decide +kernel
theorem dX7_init_17 : decode cX7_init 17 = .ok (.aload_n 0, 1) := by decide +kernel
theorem dX7_init_18 : decode cX7_init 18 = .ok (.bipush 96, 2) := by decide +kernel
theorem dX7_init_20 : decode cX7_init 20 = .ok (.newarray .int, 2) := by decide +kernel
theorem dX7_init_22 : decode cX7_init 22 = .ok (.putfield 19, 3) := by decide +kernel
theorem dX7_init_25 : decode cX7_init 25 = .ok (.aload_n 0, 1) := by decide +kernel
theorem dX7_init_26 : decode cX7_init 26 = .ok (.bipush 96, 2) := by decide +kernel
theorem dX7_init_28 : decode cX7_init 28 = .ok (.newarray .int, 2) := by decide +kernel
theorem dX7_init_30 : decode cX7_init 30 = .ok (.putfield 22, 3) := by decide +kernel
theorem dX7_init_33 : decode cX7_init 33 = .ok (.return_, 1) := by decide +kernel
theorem dX7_addFour_0 : decode cX7_addFour 0 = .ok (.bipush 24, 2) := by decide +kernel
theorem dX7_addFour_2 : decode cX7_addFour 2 = .ok (.istore_n 2, 1) := by decide +kernel
theorem dX7_addFour_3 : decode cX7_addFour 3 = .ok (.iload_n 2, 1) := by decide +kernel
theorem dX7_addFour_4 : decode cX7_addFour 4 = .ok (.ifCond .lt 44, 3) := by decide +kernel
theorem dX7_addFour_7 : decode cX7_addFour 7 = .ok (.aload_n 0, 1) := by decide +kernel
theorem dX7_addFour_8 : decode cX7_addFour 8 = .ok (.getfield 9, 3) := by decide +kernel
theorem dX7_addFour_11 : decode cX7_addFour 11 = .ok (.bipush 96, 2) := by decide +kernel
theorem dX7_addFour_13 : decode cX7_addFour 13 = .ok (.if_icmp .ge 35, 3) := by decide +kernel
theorem dX7_addFour_16 : decode cX7_addFour 16 = .ok (.aload_n 0, 1) := by decide +kernel
theorem dX7_addFour_17 : decode cX7_addFour 17 = .ok (.getfield 15, 3) := by decide +kernel
theorem dX7_addFour_20 : decode cX7_addFour 20 = .ok (.aload_n 0, 1) := by decide +kernel
theorem dX7_addFour_21 : decode cX7_addFour 21 = .ok (.getfield 9, 3) := by decide +kernel
theorem dX7_addFour_24 : decode cX7_addFour 24 = .ok (.iload_n 1, 1) := by decide +kernel
theorem dX7_addFour_25 : decode cX7_addFour 25 = .ok (.iload_n 2, 1) := by decide +kernel
theorem dX7_addFour_26 : decode cX7_addFour 26 = .ok (.iushr, 1) := by decide +kernel
theorem dX7_addFour_27 : decode cX7_addFour 27 = .ok (.sipush 255, 3) := by decide +kernel
theorem dX7_addFour_30 : decode cX7_addFour 30 = .ok (.iand, 1) := by decide +kernel
theorem dX7_addFour_31 : decode cX7_addFour 31 = .ok (.iastore, 1) := by decide +kernel
theorem dX7_addFour_32 : decode cX7_addFour 32 = .ok (.aload_n 0, 1) := by decide +kernel
theorem dX7_addFour_33 : decode cX7_addFour 33 = .ok (.dup, 1) := by decide +kernel
theorem dX7_addFour_34 : decode cX7_addFour 34 = .ok (.getfield 9, 3) := by decide +kernel
theorem dX7_addFour_37 : decode cX7_addFour 37 = .ok (.iconst 1, 1) := by decide +kernel
theorem dX7_addFour_38 : decode cX7_addFour 38 = .ok (.iadd, 1) := by decide +kernel
theorem dX7_addFour_39 : decode cX7_addFour 39 = .ok (.putfield 9, 3) := by decide +kernel
theorem dX7_addFour_42 : decode cX7_addFour 42 = .ok (.iinc 2 (-8), 3) := by decide +kernel
theorem dX7_addFour_45 : decode cX7_addFour 45 = .ok (.goto (-42), 3) := by decide +kernel
theorem dX7_addFour_48 : decode cX7_addFour 48 = .ok (.return_, 1) := by decide +kernel
theorem dX7_fault_0 : decode cX7_fault 0 = .ok (.aload_n 0, 1) := by decide +kernel
theorem dX7_fault_1 : decode cX7_fault 1 = .ok (.iconst 0, 1) := by decide +kernel
theorem dX7_fault_2 : decode cX7_fault 2 = .ok (.putfield 25, 3) := by decide +kernel
theorem dX7_fault_5 : decode cX7_fault 5 = .ok (.aload_n 0, 1) := by decide +kernel
theorem dX7_fault_6 : decode cX7_fault 6 = .ok (.iconst 0, 1) := by decide +kernel
theorem dX7_fault_7 : decode cX7_fault 7 = .ok (.putfield 28, 3) := by decide +kernel
theorem dX7_fault_10 : decode cX7_fault 10 = .ok (.aload_n 0, 1) := by decide +kernel
theorem dX7_fault_11 : decode cX7_fault 11 = .ok (.iconst 0, 1) := by decide +kernel
theorem dX7_fault_12 : decode cX7_fault 12 = .ok (.putfield 31, 3) := by decide +kernel
theorem dX7_fault_15 : decode cX7_fault 15 = .ok (.aload_n 0, 1) := by decide +kernel
theorem dX7_fault_16 : decode cX7_fault 16 = .ok (.iconst 0, 1) := by decide +kernel
theorem dX7_fault_17 : decode cX7_fault 17 = .ok (.putfield 34, 3) := by decide +kernel
theorem dX7_fault_20 : decode cX7_fault 20 = .ok (.aload_n 0, 1) := by decide +kernel
theorem dX7_fault_21 : decode cX7_fault 21 = .ok (.iconst 0, 1) := by decide +kernel
theorem dX7_fault_22 : decode cX7_fault 22 = .ok (.putfield 37, 3) := by decide +kernel
theorem dX7_fault_25 : decode cX7_fault 25 = .ok (.aload_n 0, 1) := by decide +kernel
theorem dX7_fault_26 : decode cX7_fault 26 = .ok (.iconst 0, 1) := by decide +kernel
theorem dX7_fault_27 : decode cX7_fault 27 = .ok (.putfield 40, 3) := by decide +kernel
theorem dX7_fault_30 : decode cX7_fault 30 = .ok (.aload_n 0, 1) := by decide +kernel
theorem dX7_fault_31 : decode cX7_fault 31 = .ok (.iconst 1, 1) := by decide +kernel
theorem dX7_fault_32 : decode cX7_fault 32 = .ok (.putfield 43, 3) := by decide +kernel
theorem dX7_fault_35 : decode cX7_fault 35 = .ok (.aload_n 0, 1) := by decide +kernel
theorem dX7_fault_36 : decode cX7_fault 36 = .ok (.invokevirtual 47, 3) := by decide +kernel
theorem dX7_fault_39 : decode cX7_fault 39 = .ok (.aload_n 0, 1) := by decide +kernel
theorem dX7_fault_40 : decode cX7_fault 40 = .ok (.aload_n 0, 1) := by decide +kernel
theorem dX7_fault_41 : decode cX7_fault 41 = .ok (.invokevirtual 50, 3) := by decide +kernel
theorem dX7_fault_44 : decode cX7_fault 44 = .ok (.putfield 54, 3) := by decide +kernel
theorem dX7_fault_47 : decode cX7_fault 47 = .ok (.aload_n 0, 1) := by decide +kernel
theorem dX7_fault_48 : decode cX7_fault 48 = .ok (.getfield 54, 3) := by decide +kernel
theorem dX7_fault_51 : decode cX7_fault 51 = .ok (.ldc 57, 2) := by decide +kernel
theorem dX7_fault_53 : decode cX7_fault 53 = .ok (.if_icmp .ne 8, 3) := by decide +kernel
theorem dX7_fault_56 : decode cX7_fault 56 = .ok (.aload_n 0, 1) := by decide +kernel
theorem dX7_fault_57 : decode cX7_fault 57 = .ok (.getfield 58, 3) := by decide +kernel
theorem dX7_fault_60 : decode cX7_fault 60 = .ok (.ireturn, 1) := by decide +kernel
theorem dX7_fault_61 : decode cX7_fault 61 = .ok (.iconst 0, 1) := by decide +kernel
theorem dX7_fault_62 : decode cX7_fault 62 = .ok (.istore_n 1, 1) := by decide +kernel
theorem dX7_fault_63 : decode cX7_fault 63 = .ok (.iload_n 1, 1) := by decide +kernel
theorem dX7_fault_64 : decode cX7_fault 64 = .ok (.bipush 96, 2) := by decide +kernel
theorem dX7_fault_66 : decode cX7_fault 66 = .ok (.if_icmp .gt 73, 3) := by decide +kernel
theorem dX7_fault_69 : decode cX7_fault 69 = .ok (.aload_n 0, 1) := by decide +kernel
theorem dX7_fault_70 : decode cX7_fault 70 = .ok (.invokevirtual 47, 3) := by decide +kernel
theorem dX7_fault_73 : decode cX7_fault 73 = .ok (.aload_n 0, 1) := by decide +kernel
theorem dX7_fault_74 : decode cX7_fault 74 = .ok (.getfield 61, 3) := by decide +kernel
theorem dX7_fault_77 : decode cX7_fault 77 = .ok (.ifCond .ne 27, 3) := by decide +kernel
theorem dX7_fault_80 : decode cX7_fault 80 = .ok (.aload_n 0, 1) := by decide +kernel
theorem dX7_fault_81 : decode cX7_fault 81 = .ok (.getfield 43, 3) := by decide +kernel
theorem dX7_fault_84 : decode cX7_fault 84 = .ok (.ifCond .ne 10, 3) := by decide +kernel
theorem dX7_fault_87 : decode cX7_fault 87 = .ok (.aload_n 0, 1) := by decide +kernel
theorem dX7_fault_88 : decode cX7_fault 88 = .ok (.getfield 37, 3) := by decide +kernel
theorem dX7_fault_91 : decode cX7_fault 91 = .ok (.ifCond .le 10, 3) := by decide +kernel
theorem dX7_fault_94 : decode cX7_fault 94 = .ok (.aload_n 0, 1) := by decide +kernel
theorem dX7_fault_95 : decode cX7_fault 95 = .ok (.getfield 58, 3) := by decide +kernel
theorem dX7_fault_98 : decode cX7_fault 98 = .ok (.goto 5, 3) := by decide +kernel
theorem dX7_fault_101 : decode cX7_fault 101 = .ok (.ldc 57, 2) := by decide +kernel
theorem dX7_fault_103 : decode cX7_fault 103 = .ok (.ireturn, 1) := by decide +kernel
theorem dX7_fault_104 : decode cX7_fault 104 = .ok (.aload_n 0, 1) := by decide +kernel
theorem dX7_fault_105 : decode cX7_fault 105 = .ok (.getfield 43, 3) := by decide +kernel
theorem dX7_fault_108 : decode cX7_fault 108 = .ok (.ifCond .eq 13, 3) := by decide +kernel
theorem dX7_fault_111 : decode cX7_fault 111 = .ok (.aload_n 0, 1) := by decide +kernel
theorem dX7_fault_112 : decode cX7_fault 112 = .ok (.invokevirtual 64, 3) := by decide +kernel
theorem dX7_fault_115 : decode cX7_fault 115 = .ok (.ifCond .ne 18, 3) := by decide +kernel
theorem dX7_fault_118 : decode cX7_fault 118 = .ok (.goto 10, 3) := by decide +kernel
theorem dX7_fault_121 : decode cX7_fault 121 = .ok (.aload_n 0, 1) := by decide +kernel
theorem dX7_fault_122 : decode cX7_fault 122 = .ok (.invokevirtual 68, 3) := by decide +kernel
theorem dX7_fault_125 : decode cX7_fault 125 = .ok (.ifCond .ne 8, 3) := by decide +kernel
theorem dX7_fault_128 : decode cX7_fault 128 = .ok (.aload_n 0, 1) := by decide +kernel
theorem dX7_fault_129 : decode cX7_fault 129 = .ok (.getfield 58, 3) := by decide +kernel
theorem dX7_fault_132 : decode cX7_fault 132 = .ok (.ireturn, 1) := by decide +kernel
theorem dX7_fault_133 : decode cX7_fault 133 = .ok (.iinc 1 1, 3) := by decide +kernel
theorem dX7_fault_136 : decode cX7_fault 136 = .ok (.goto (-73), 3) := by decide +kernel
theorem dX7_fault_139 : decode cX7_fault 139 = .ok (.aload_n 0, 1) := by decide +kernel
theorem dX7_fault_140 : decode cX7_fault 140 = .ok (.getfield 9, 3) := by decide +kernel
theorem dX7_fault_143 : decode cX7_fault 143 = .ok (.ireturn, 1) := by decide +kernel
theorem dX7_asText_0 : decode cX7_asText 0 = .ok (.aload_n 0, 1) := by decide +kernel
theorem dX7_asText_1 : decode cX7_asText 1 = .ok (.getfield 34, 3) := by decide +kernel
theorem dX7_asText_4 : decode cX7_asText 4 = .ok (.ifCond .le 28, 3) := by decide +kernel
theorem dX7_asText_7 : decode cX7_asText 7 = .ok (.aload_n 0, 1) := by decide +kernel
theorem dX7_asText_8 : decode cX7_asText 8 = .ok (.sipush (-1000), 3) := by decide +kernel
theorem dX7_asText_11 : decode cX7_asText 11 = .ok (.aload_n 0, 1) := by decide +kernel
theorem dX7_asText_12 : decode cX7_asText 12 = .ok (.invokevirtual 71, 3) := by decide +kernel
theorem dX7_asText_15 : decode cX7_asText 15 = .ok (.isub, 1) := by decide +kernel
theorem dX7_asText_16 : decode cX7_asText 16 = .ok (.invokevirtual 74, 3) := by decide +kernel
theorem dX7_asText_19 : decode cX7_asText 19 = .ok (.aload_n 0, 1) := by decide +kernel
theorem dX7_asText_20 : decode cX7_asText 20 = .ok (.dup, 1) := by decide +kernel
theorem dX7_asText_21 : decode cX7_asText 21 = .ok (.getfield 34, 3) := by decide +kernel
theorem dX7_asText_24 : decode cX7_asText 24 = .ok (.iconst 1, 1) := by decide +kernel
theorem dX7_asText_25 : decode cX7_asText 25 = .ok (.isub, 1) := by decide +kernel
theorem dX7_asText_26 : decode cX7_asText 26 = .ok (.putfield 34, 3) := by decide +kernel
theorem dX7_asText_29 : decode cX7_asText 29 = .ok (.goto (-29), 3) := by decide +kernel
theorem dX7_asText_32 : decode cX7_asText 32 = .ok (.new 78, 3) := by decide +kernel
theorem dX7_asText_35 : decode cX7_asText 35 = .ok (.dup, 1) := by decide +kernel
theorem dX7_asText_36 : decode cX7_asText 36 = .ok (.aload_n 0, 1) := by decide +kernel
theorem dX7_asText_37 : decode cX7_asText 37 = .ok (.getfield 54, 3) := by decide +kernel
theorem dX7_asText_40 : decode cX7_asText 40 = .ok (.aload_n 0, 1) := by decide +kernel
theorem dX7_asText_41 : decode cX7_asText 41 = .ok (.getfield 28, 3) := by decide +kernel
theorem dX7_asText_44 : decode cX7_asText 44 = .ok (.aload_n 0, 1) := by decide +kernel
theorem dX7_asText_45 : decode cX7_asText 45 = .ok (.getfield 19, 3) := by decide +kernel
theorem dX7_asText_48 : decode cX7_asText 48 = .ok (.aload_n 0, 1) := by decide +kernel
theorem dX7_asText_49 : decode cX7_asText 49 = .ok (.getfield 31, 3) := by decide +kernel
theorem dX7_asText_52 : decode cX7_asText 52 = .ok (.invokestatic 80, 3) := by decide +kernel
theorem dX7_asText_55 : decode cX7_asText 55 = .ok (.invokespecial 86, 3) := by decide +kernel
theorem dX7_asText_58 : decode cX7_asText 58 = .ok (.areturn, 1) := by decide +kernel
theorem dX7_byteAt_0 : decode cX7_byteAt 0 = .ok (.iload_n 1, 1) := by decide +kernel
theorem dX7_byteAt_1 : decode cX7_byteAt 1 = .ok (.ifCond .lt 26, 3) := by decide +kernel
theorem dX7_byteAt_4 : decode cX7_byteAt 4 = .ok (.iload_n 1, 1) := by decide +kernel
theorem dX7_byteAt_5 : decode cX7_byteAt 5 = .ok (.aload_n 0, 1) := by decide +kernel
theorem dX7_byteAt_6 : decode cX7_byteAt 6 = .ok (.getfield 9, 3) := by decide +kernel
theorem dX7_byteAt_9 : decode cX7_byteAt 9 = .ok (.if_icmp .ge 18, 3) := by decide +kernel
theorem dX7_byteAt_12 : decode cX7_byteAt 12 = .ok (.iload_n 1, 1) := by decide +kernel
theorem dX7_byteAt_13 : decode cX7_byteAt 13 = .ok (.bipush 96, 2) := by decide +kernel
theorem dX7_byteAt_15 : decode cX7_byteAt 15 = .ok (.if_icmp .ge 12, 3) := by decide +kernel
theorem dX7_byteAt_18 : decode cX7_byteAt 18 = .ok (.aload_n 0, 1) := by decide +kernel
theorem dX7_byteAt_19 : decode cX7_byteAt 19 = .ok (.getfield 15, 3) := by decide +kernel
theorem dX7_byteAt_22 : decode cX7_byteAt 22 = .ok (.iload_n 1, 1) := by decide +kernel
theorem dX7_byteAt_23 : decode cX7_byteAt 23 = .ok (.iaload, 1) := by decide +kernel
theorem dX7_byteAt_24 : decode cX7_byteAt 24 = .ok (.goto 4, 3) := by decide +kernel
theorem dX7_byteAt_27 : decode cX7_byteAt 27 = .ok (.iconst 0, 1) := by decide +kernel
theorem dX7_byteAt_28 : decode cX7_byteAt 28 = .ok (.ireturn, 1) := by decide +kernel
theorem dX7_sortOf_0 : decode cX7_sortOf 0 = .ok (.iload_n 0, 1) := by decide +kernel
theorem dX7_sortOf_1 : decode cX7_sortOf 1 = .ok (.bipush 97, 2) := by decide +kernel
theorem dX7_sortOf_3 : decode cX7_sortOf 3 = .ok (.if_icmp .lt 11, 3) := by decide +kernel
theorem dX7_sortOf_6 : decode cX7_sortOf 6 = .ok (.iload_n 0, 1) := by decide +kernel
theorem dX7_sortOf_7 : decode cX7_sortOf 7 = .ok (.bipush 122, 2) := by decide +kernel
theorem dX7_sortOf_9 : decode cX7_sortOf 9 = .ok (.if_icmp .gt 5, 3) := by decide +kernel
theorem dX7_sortOf_12 : decode cX7_sortOf 12 = .ok (.iconst 1, 1) := by decide +kernel
theorem dX7_sortOf_13 : decode cX7_sortOf 13 = .ok (.ireturn, 1) := by decide +kernel
theorem dX7_sortOf_14 : decode cX7_sortOf 14 = .ok (.iload_n 0, 1) := by decide +kernel
theorem dX7_sortOf_15 : decode cX7_sortOf 15 = .ok (.bipush 48, 2) := by decide +kernel
theorem dX7_sortOf_17 : decode cX7_sortOf 17 = .ok (.if_icmp .lt 13, 3) := by decide +kernel
theorem dX7_sortOf_20 : decode cX7_sortOf 20 = .ok (.iload_n 0, 1) := by decide +kernel
theorem dX7_sortOf_21 : decode cX7_sortOf 21 = .ok (.bipush 57, 2) := by decide +kernel
theorem dX7_sortOf_23 : decode cX7_sortOf 23 = .ok (.if_icmp .gt 7, 3) := by decide +kernel
theorem dX7_sortOf_26 : decode cX7_sortOf 26 = .ok (.iconst 2, 1) := by decide +kernel
theorem dX7_sortOf_27 : decode cX7_sortOf 27 = .ok (.goto 4, 3) := by decide +kernel
theorem dX7_sortOf_30 : decode cX7_sortOf 30 = .ok (.iconst 3, 1) := by decide +kernel
theorem dX7_sortOf_31 : decode cX7_sortOf 31 = .ok (.ireturn, 1) := by decide +kernel
theorem dX7_step_0 : decode cX7_step 0 = .ok (.aload_n 0, 1) := by decide +kernel
theorem dX7_step_1 : decode cX7_step 1 = .ok (.aload_n 0, 1) := by decide +kernel
theorem dX7_step_2 : decode cX7_step 2 = .ok (.getfield 25, 3) := by decide +kernel
theorem dX7_step_5 : decode cX7_step 5 = .ok (.putfield 58, 3) := by decide +kernel
theorem dX7_step_8 : decode cX7_step 8 = .ok (.aload_n 0, 1) := by decide +kernel
theorem dX7_step_9 : decode cX7_step 9 = .ok (.getfield 58, 3) := by decide +kernel
theorem dX7_step_12 : decode cX7_step 12 = .ok (.aload_n 0, 1) := by decide +kernel
theorem dX7_step_13 : decode cX7_step 13 = .ok (.getfield 9, 3) := by decide +kernel
theorem dX7_step_16 : decode cX7_step 16 = .ok (.if_icmp .ge 29, 3) := by decide +kernel
theorem dX7_step_19 : decode cX7_step 19 = .ok (.aload_n 0, 1) := by decide +kernel
theorem dX7_step_20 : decode cX7_step 20 = .ok (.aload_n 0, 1) := by decide +kernel
theorem dX7_step_21 : decode cX7_step 21 = .ok (.getfield 58, 3) := by decide +kernel
theorem dX7_step_24 : decode cX7_step 24 = .ok (.invokevirtual 89, 3) := by decide +kernel
theorem dX7_step_27 : decode cX7_step 27 = .ok (.bipush 32, 2) := by decide +kernel
theorem dX7_step_29 : decode cX7_step 29 = .ok (.if_icmp .ne 16, 3) := by decide +kernel
theorem dX7_step_32 : decode cX7_step 32 = .ok (.aload_n 0, 1) := by decide +kernel
theorem dX7_step_33 : decode cX7_step 33 = .ok (.dup, 1) := by decide +kernel
theorem dX7_step_34 : decode cX7_step 34 = .ok (.getfield 58, 3) := by decide +kernel
theorem dX7_step_37 : decode cX7_step 37 = .ok (.iconst 1, 1) := by decide +kernel
theorem dX7_step_38 : decode cX7_step 38 = .ok (.iadd, 1) := by decide +kernel
theorem dX7_step_39 : decode cX7_step 39 = .ok (.putfield 58, 3) := by decide +kernel
theorem dX7_step_42 : decode cX7_step 42 = .ok (.goto (-34), 3) := by decide +kernel
theorem dX7_step_45 : decode cX7_step 45 = .ok (.aload_n 0, 1) := by decide +kernel
theorem dX7_step_46 : decode cX7_step 46 = .ok (.aload_n 0, 1) := by decide +kernel
theorem dX7_step_47 : decode cX7_step 47 = .ok (.getfield 58, 3) := by decide +kernel
theorem dX7_step_50 : decode cX7_step 50 = .ok (.putfield 25, 3) := by decide +kernel
theorem dX7_step_53 : decode cX7_step 53 = .ok (.aload_n 0, 1) := by decide +kernel
theorem dX7_step_54 : decode cX7_step 54 = .ok (.iconst 0, 1) := by decide +kernel
theorem dX7_step_55 : decode cX7_step 55 = .ok (.putfield 61, 3) := by decide +kernel
theorem dX7_step_58 : decode cX7_step 58 = .ok (.aload_n 0, 1) := by decide +kernel
theorem dX7_step_59 : decode cX7_step 59 = .ok (.getfield 58, 3) := by decide +kernel
theorem dX7_step_62 : decode cX7_step 62 = .ok (.aload_n 0, 1) := by decide +kernel
theorem dX7_step_63 : decode cX7_step 63 = .ok (.getfield 9, 3) := by decide +kernel
theorem dX7_step_66 : decode cX7_step 66 = .ok (.if_icmp .lt 4, 3) := by decide +kernel
theorem dX7_step_69 : decode cX7_step 69 = .ok (.return_, 1) := by decide +kernel
theorem dX7_step_70 : decode cX7_step 70 = .ok (.aload_n 0, 1) := by decide +kernel
theorem dX7_step_71 : decode cX7_step 71 = .ok (.aload_n 0, 1) := by decide +kernel
theorem dX7_step_72 : decode cX7_step 72 = .ok (.aload_n 0, 1) := by decide +kernel
theorem dX7_step_73 : decode cX7_step 73 = .ok (.getfield 58, 3) := by decide +kernel
theorem dX7_step_76 : decode cX7_step 76 = .ok (.invokevirtual 89, 3) := by decide +kernel
theorem dX7_step_79 : decode cX7_step 79 = .ok (.invokestatic 93, 3) := by decide +kernel
theorem dX7_step_82 : decode cX7_step 82 = .ok (.putfield 61, 3) := by decide +kernel
theorem dX7_step_85 : decode cX7_step 85 = .ok (.aload_n 0, 1) := by decide +kernel
theorem dX7_step_86 : decode cX7_step 86 = .ok (.dup, 1) := by decide +kernel
theorem dX7_step_87 : decode cX7_step 87 = .ok (.getfield 25, 3) := by decide +kernel
theorem dX7_step_90 : decode cX7_step 90 = .ok (.iconst 1, 1) := by decide +kernel
theorem dX7_step_91 : decode cX7_step 91 = .ok (.iadd, 1) := by decide +kernel
theorem dX7_step_92 : decode cX7_step 92 = .ok (.putfield 25, 3) := by decide +kernel
theorem dX7_step_95 : decode cX7_step 95 = .ok (.aload_n 0, 1) := by decide +kernel
theorem dX7_step_96 : decode cX7_step 96 = .ok (.getfield 61, 3) := by decide +kernel
theorem dX7_step_99 : decode cX7_step 99 = .ok (.iconst 3, 1) := by decide +kernel
theorem dX7_step_100 : decode cX7_step 100 = .ok (.if_icmp .eq 45, 3) := by decide +kernel
theorem dX7_step_103 : decode cX7_step 103 = .ok (.aload_n 0, 1) := by decide +kernel
theorem dX7_step_104 : decode cX7_step 104 = .ok (.getfield 25, 3) := by decide +kernel
theorem dX7_step_107 : decode cX7_step 107 = .ok (.aload_n 0, 1) := by decide +kernel
theorem dX7_step_108 : decode cX7_step 108 = .ok (.getfield 9, 3) := by decide +kernel
theorem dX7_step_111 : decode cX7_step 111 = .ok (.if_icmp .ge 34, 3) := by decide +kernel
theorem dX7_step_114 : decode cX7_step 114 = .ok (.aload_n 0, 1) := by decide +kernel
theorem dX7_step_115 : decode cX7_step 115 = .ok (.aload_n 0, 1) := by decide +kernel
theorem dX7_step_116 : decode cX7_step 116 = .ok (.getfield 25, 3) := by decide +kernel
theorem dX7_step_119 : decode cX7_step 119 = .ok (.invokevirtual 89, 3) := by decide +kernel
theorem dX7_step_122 : decode cX7_step 122 = .ok (.invokestatic 93, 3) := by decide +kernel
theorem dX7_step_125 : decode cX7_step 125 = .ok (.aload_n 0, 1) := by decide +kernel
theorem dX7_step_126 : decode cX7_step 126 = .ok (.getfield 61, 3) := by decide +kernel
theorem dX7_step_129 : decode cX7_step 129 = .ok (.if_icmp .ne 16, 3) := by decide +kernel
theorem dX7_step_132 : decode cX7_step 132 = .ok (.aload_n 0, 1) := by decide +kernel
theorem dX7_step_133 : decode cX7_step 133 = .ok (.dup, 1) := by decide +kernel
theorem dX7_step_134 : decode cX7_step 134 = .ok (.getfield 25, 3) := by decide +kernel
theorem dX7_step_137 : decode cX7_step 137 = .ok (.iconst 1, 1) := by decide +kernel
theorem dX7_step_138 : decode cX7_step 138 = .ok (.iadd, 1) := by decide +kernel
theorem dX7_step_139 : decode cX7_step 139 = .ok (.putfield 25, 3) := by decide +kernel
theorem dX7_step_142 : decode cX7_step 142 = .ok (.goto (-47), 3) := by decide +kernel
theorem dX7_step_145 : decode cX7_step 145 = .ok (.return_, 1) := by decide +kernel
theorem dX7_isWord_0 : decode cX7_isWord 0 = .ok (.aload_n 0, 1) := by decide +kernel
theorem dX7_isWord_1 : decode cX7_isWord 1 = .ok (.getfield 61, 3) := by decide +kernel
theorem dX7_isWord_4 : decode cX7_isWord 4 = .ok (.iconst 1, 1) := by decide +kernel
theorem dX7_isWord_5 : decode cX7_isWord 5 = .ok (.if_icmp .ne 19, 3) := by decide +kernel
theorem dX7_isWord_8 : decode cX7_isWord 8 = .ok (.aload_n 0, 1) := by decide +kernel
theorem dX7_isWord_9 : decode cX7_isWord 9 = .ok (.getfield 25, 3) := by decide +kernel
theorem dX7_isWord_12 : decode cX7_isWord 12 = .ok (.aload_n 0, 1) := by decide +kernel
theorem dX7_isWord_13 : decode cX7_isWord 13 = .ok (.getfield 58, 3) := by decide +kernel
theorem dX7_isWord_16 : decode cX7_isWord 16 = .ok (.isub, 1) := by decide +kernel
theorem dX7_isWord_17 : decode cX7_isWord 17 = .ok (.aload_n 1, 1) := by decide +kernel
theorem dX7_isWord_18 : decode cX7_isWord 18 = .ok (.invokevirtual 96, 3) := by decide +kernel
theorem dX7_isWord_21 : decode cX7_isWord 21 = .ok (.if_icmp .eq 5, 3) := by decide +kernel
theorem dX7_isWord_24 : decode cX7_isWord 24 = .ok (.iconst 0, 1) := by decide +kernel
theorem dX7_isWord_25 : decode cX7_isWord 25 = .ok (.ireturn, 1) := by decide +kernel
theorem dX7_isWord_26 : decode cX7_isWord 26 = .ok (.iconst 0, 1) := by decide +kernel
theorem dX7_isWord_27 : decode cX7_isWord 27 = .ok (.istore_n 2, 1) := by decide +kernel
theorem dX7_isWord_28 : decode cX7_isWord 28 = .ok (.iload_n 2, 1) := by decide +kernel
theorem dX7_isWord_29 : decode cX7_isWord 29 = .ok (.aload_n 1, 1) := by decide +kernel
theorem dX7_isWord_30 : decode cX7_isWord 30 = .ok (.invokevirtual 96, 3) := by decide +kernel
theorem dX7_isWord_33 : decode cX7_isWord 33 = .ok (.if_icmp .ge 29, 3) := by decide +kernel
theorem dX7_isWord_36 : decode cX7_isWord 36 = .ok (.aload_n 0, 1) := by decide +kernel
theorem dX7_isWord_37 : decode cX7_isWord 37 = .ok (.aload_n 0, 1) := by decide +kernel
theorem dX7_isWord_38 : decode cX7_isWord 38 = .ok (.getfield 58, 3) := by decide +kernel
theorem dX7_isWord_41 : decode cX7_isWord 41 = .ok (.iload_n 2, 1) := by decide +kernel
theorem dX7_isWord_42 : decode cX7_isWord 42 = .ok (.iadd, 1) := by decide +kernel
theorem dX7_isWord_43 : decode cX7_isWord 43 = .ok (.invokevirtual 89, 3) := by decide +kernel
theorem dX7_isWord_46 : decode cX7_isWord 46 = .ok (.aload_n 1, 1) := by decide +kernel
theorem dX7_isWord_47 : decode cX7_isWord 47 = .ok (.iload_n 2, 1) := by decide +kernel
theorem dX7_isWord_48 : decode cX7_isWord 48 = .ok (.invokevirtual 101, 3) := by decide +kernel
theorem dX7_isWord_51 : decode cX7_isWord 51 = .ok (.if_icmp .eq 5, 3) := by decide +kernel
theorem dX7_isWord_54 : decode cX7_isWord 54 = .ok (.iconst 0, 1) := by decide +kernel
theorem dX7_isWord_55 : decode cX7_isWord 55 = .ok (.ireturn, 1) := by decide +kernel
theorem dX7_isWord_56 : decode cX7_isWord 56 = .ok (.iinc 2 1, 3) := by decide +kernel
theorem dX7_isWord_59 : decode cX7_isWord 59 = .ok (.goto (-31), 3) := by decide +kernel
theorem dX7_isWord_62 : decode cX7_isWord 62 = .ok (.iconst 1, 1) := by decide +kernel
theorem dX7_isWord_63 : decode cX7_isWord 63 = .ok (.ireturn, 1) := by decide +kernel
theorem dX7_keyHere_0 : decode cX7_keyHere 0 = .ok (.aload_n 0, 1) := by decide +kernel
theorem dX7_keyHere_1 : decode cX7_keyHere 1 = .ok (.ldc 105, 2) := by decide +kernel
theorem dX7_keyHere_3 : decode cX7_keyHere 3 = .ok (.invokevirtual 107, 3) := by decide +kernel
theorem dX7_keyHere_6 : decode cX7_keyHere 6 = .ok (.ifCond .eq 5, 3) := by decide +kernel
theorem dX7_keyHere_9 : decode cX7_keyHere 9 = .ok (.iconst 0, 1) := by decide +kernel
theorem dX7_keyHere_10 : decode cX7_keyHere 10 = .ok (.ireturn, 1) := by decide +kernel
theorem dX7_keyHere_11 : decode cX7_keyHere 11 = .ok (.aload_n 0, 1) := by decide +kernel
theorem dX7_keyHere_12 : decode cX7_keyHere 12 = .ok (.ldc 111, 2) := by decide +kernel
theorem dX7_keyHere_14 : decode cX7_keyHere 14 = .ok (.invokevirtual 107, 3) := by decide +kernel
theorem dX7_keyHere_17 : decode cX7_keyHere 17 = .ok (.ifCond .eq 5, 3) := by decide +kernel
theorem dX7_keyHere_20 : decode cX7_keyHere 20 = .ok (.iconst 1, 1) := by decide +kernel
theorem dX7_keyHere_21 : decode cX7_keyHere 21 = .ok (.ireturn, 1) := by decide +kernel
theorem dX7_keyHere_22 : decode cX7_keyHere 22 = .ok (.aload_n 0, 1) := by decide +kernel
theorem dX7_keyHere_23 : decode cX7_keyHere 23 = .ok (.ldc 113, 2) := by decide +kernel
theorem dX7_keyHere_25 : decode cX7_keyHere 25 = .ok (.invokevirtual 107, 3) := by decide +kernel
theorem dX7_keyHere_28 : decode cX7_keyHere 28 = .ok (.ifCond .eq 7, 3) := by decide +kernel
theorem dX7_keyHere_31 : decode cX7_keyHere 31 = .ok (.iconst 2, 1) := by decide +kernel
theorem dX7_keyHere_32 : decode cX7_keyHere 32 = .ok (.goto 5, 3) := by decide +kernel
theorem dX7_keyHere_35 : decode cX7_keyHere 35 = .ok (.ldc 57, 2) := by decide +kernel
theorem dX7_keyHere_37 : decode cX7_keyHere 37 = .ok (.ireturn, 1) := by decide +kernel
theorem dX7_nameHere_0 : decode cX7_nameHere 0 = .ok (.aload_n 0, 1) := by decide +kernel
theorem dX7_nameHere_1 : decode cX7_nameHere 1 = .ok (.getfield 25, 3) := by decide +kernel
theorem dX7_nameHere_4 : decode cX7_nameHere 4 = .ok (.aload_n 0, 1) := by decide +kernel
theorem dX7_nameHere_5 : decode cX7_nameHere 5 = .ok (.getfield 58, 3) := by decide +kernel
theorem dX7_nameHere_8 : decode cX7_nameHere 8 = .ok (.isub, 1) := by decide +kernel
theorem dX7_nameHere_9 : decode cX7_nameHere 9 = .ok (.iconst 1, 1) := by decide +kernel
theorem dX7_nameHere_10 : decode cX7_nameHere 10 = .ok (.if_icmp .eq 5, 3) := by decide +kernel
theorem dX7_nameHere_13 : decode cX7_nameHere 13 = .ok (.iconst (-1), 1) := by decide +kernel
theorem dX7_nameHere_14 : decode cX7_nameHere 14 = .ok (.ireturn, 1) := by decide +kernel
theorem dX7_nameHere_15 : decode cX7_nameHere 15 = .ok (.aload_n 0, 1) := by decide +kernel
theorem dX7_nameHere_16 : decode cX7_nameHere 16 = .ok (.aload_n 0, 1) := by decide +kernel
theorem dX7_nameHere_17 : decode cX7_nameHere 17 = .ok (.getfield 58, 3) := by decide +kernel
theorem dX7_nameHere_20 : decode cX7_nameHere 20 = .ok (.invokevirtual 89, 3) := by decide +kernel
theorem dX7_nameHere_23 : decode cX7_nameHere 23 = .ok (.i2c, 1) := by decide +kernel
theorem dX7_nameHere_24 : decode cX7_nameHere 24 = .ok (.istore_n 1, 1) := by decide +kernel
theorem dX7_nameHere_25 : decode cX7_nameHere 25 = .ok (.aload_n 0, 1) := by decide +kernel
theorem dX7_nameHere_26 : decode cX7_nameHere 26 = .ok (.getfield 54, 3) := by decide +kernel
theorem dX7_nameHere_29 : decode cX7_nameHere 29 = .ok (.lookupswitch 41 #[(0, 27), (1, 34)], 27) := by decide +kernel
theorem dX7_nameHere_56 : decode cX7_nameHere 56 = .ok (.ldc 115, 2) := by decide +kernel
theorem dX7_nameHere_58 : decode cX7_nameHere 58 = .ok (.iload_n 1, 1) := by decide +kernel
theorem dX7_nameHere_59 : decode cX7_nameHere 59 = .ok (.invokevirtual 117, 3) := by decide +kernel
theorem dX7_nameHere_62 : decode cX7_nameHere 62 = .ok (.ireturn, 1) := by decide +kernel
theorem dX7_nameHere_63 : decode cX7_nameHere 63 = .ok (.ldc 120, 2) := by decide +kernel
theorem dX7_nameHere_65 : decode cX7_nameHere 65 = .ok (.iload_n 1, 1) := by decide +kernel
theorem dX7_nameHere_66 : decode cX7_nameHere 66 = .ok (.invokevirtual 117, 3) := by decide +kernel
theorem dX7_nameHere_69 : decode cX7_nameHere 69 = .ok (.ireturn, 1) := by decide +kernel
theorem dX7_nameHere_70 : decode cX7_nameHere 70 = .ok (.ldc 122, 2) := by decide +kernel
theorem dX7_nameHere_72 : decode cX7_nameHere 72 = .ok (.iload_n 1, 1) := by decide +kernel
theorem dX7_nameHere_73 : decode cX7_nameHere 73 = .ok (.invokevirtual 117, 3) := by decide +kernel
theorem dX7_nameHere_76 : decode cX7_nameHere 76 = .ok (.ireturn, 1) := by decide +kernel
theorem dX7_numberHere_0 : decode cX7_numberHere 0 = .ok (.iconst 0, 1) := by decide +kernel
theorem dX7_numberHere_1 : decode cX7_numberHere 1 = .ok (.istore_n 1, 1) := by decide +kernel
theorem dX7_numberHere_2 : decode cX7_numberHere 2 = .ok (.aload_n 0, 1) := by decide +kernel
theorem dX7_numberHere_3 : decode cX7_numberHere 3 = .ok (.getfield 58, 3) := by decide +kernel
theorem dX7_numberHere_6 : decode cX7_numberHere 6 = .ok (.istore_n 2, 1) := by decide +kernel
theorem dX7_numberHere_7 : decode cX7_numberHere 7 = .ok (.iload_n 2, 1) := by decide +kernel
theorem dX7_numberHere_8 : decode cX7_numberHere 8 = .ok (.aload_n 0, 1) := by decide +kernel
theorem dX7_numberHere_9 : decode cX7_numberHere 9 = .ok (.getfield 25, 3) := by decide +kernel
theorem dX7_numberHere_12 : decode cX7_numberHere 12 = .ok (.if_icmp .ge 23, 3) := by decide +kernel
theorem dX7_numberHere_15 : decode cX7_numberHere 15 = .ok (.bipush 10, 2) := by decide +kernel
theorem dX7_numberHere_17 : decode cX7_numberHere 17 = .ok (.iload_n 1, 1) := by decide +kernel
theorem dX7_numberHere_18 : decode cX7_numberHere 18 = .ok (.imul, 1) := by decide +kernel
theorem dX7_numberHere_19 : decode cX7_numberHere 19 = .ok (.aload_n 0, 1) := by decide +kernel
theorem dX7_numberHere_20 : decode cX7_numberHere 20 = .ok (.iload_n 2, 1) := by decide +kernel
theorem dX7_numberHere_21 : decode cX7_numberHere 21 = .ok (.invokevirtual 89, 3) := by decide +kernel
theorem dX7_numberHere_24 : decode cX7_numberHere 24 = .ok (.iadd, 1) := by decide +kernel
theorem dX7_numberHere_25 : decode cX7_numberHere 25 = .ok (.bipush 48, 2) := by decide +kernel
theorem dX7_numberHere_27 : decode cX7_numberHere 27 = .ok (.isub, 1) := by decide +kernel
theorem dX7_numberHere_28 : decode cX7_numberHere 28 = .ok (.istore_n 1, 1) := by decide +kernel
theorem dX7_numberHere_29 : decode cX7_numberHere 29 = .ok (.iinc 2 1, 3) := by decide +kernel
theorem dX7_numberHere_32 : decode cX7_numberHere 32 = .ok (.goto (-25), 3) := by decide +kernel
theorem dX7_numberHere_35 : decode cX7_numberHere 35 = .ok (.iload_n 1, 1) := by decide +kernel
theorem dX7_numberHere_36 : decode cX7_numberHere 36 = .ok (.ireturn, 1) := by decide +kernel
theorem dX7_takesPiece_0 : decode cX7_takesPiece 0 = .ok (.aload_n 0, 1) := by decide +kernel
theorem dX7_takesPiece_1 : decode cX7_takesPiece 1 = .ok (.getfield 61, 3) := by decide +kernel
theorem dX7_takesPiece_4 : decode cX7_takesPiece 4 = .ok (.iconst 3, 1) := by decide +kernel
theorem dX7_takesPiece_5 : decode cX7_takesPiece 5 = .ok (.if_icmp .eq 8, 3) := by decide +kernel
theorem dX7_takesPiece_8 : decode cX7_takesPiece 8 = .ok (.aload_n 0, 1) := by decide +kernel
theorem dX7_takesPiece_9 : decode cX7_takesPiece 9 = .ok (.invokevirtual 124, 3) := by decide +kernel
theorem dX7_takesPiece_12 : decode cX7_takesPiece 12 = .ok (.ireturn, 1) := by decide +kernel
theorem dX7_takesPiece_13 : decode cX7_takesPiece 13 = .ok (.aload_n 0, 1) := by decide +kernel
theorem dX7_takesPiece_14 : decode cX7_takesPiece 14 = .ok (.aload_n 0, 1) := by decide +kernel
theorem dX7_takesPiece_15 : decode cX7_takesPiece 15 = .ok (.getfield 58, 3) := by decide +kernel
theorem dX7_takesPiece_18 : decode cX7_takesPiece 18 = .ok (.invokevirtual 89, 3) := by decide +kernel
theorem dX7_takesPiece_21 : decode cX7_takesPiece 21 = .ok (.istore_n 1, 1) := by decide +kernel
theorem dX7_takesPiece_22 : decode cX7_takesPiece 22 = .ok (.iload_n 1, 1) := by decide +kernel
theorem dX7_takesPiece_23 : decode cX7_takesPiece 23 = .ok (.bipush 40, 2) := by decide +kernel
theorem dX7_takesPiece_25 : decode cX7_takesPiece 25 = .ok (.if_icmp .ne 29, 3) := by decide +kernel
theorem dX7_takesPiece_28 : decode cX7_takesPiece 28 = .ok (.aload_n 0, 1) := by decide +kernel
theorem dX7_takesPiece_29 : decode cX7_takesPiece 29 = .ok (.getfield 37, 3) := by decide +kernel
theorem dX7_takesPiece_32 : decode cX7_takesPiece 32 = .ok (.bipush 8, 2) := by decide +kernel
theorem dX7_takesPiece_34 : decode cX7_takesPiece 34 = .ok (.if_icmp .ge 20, 3) := by decide +kernel
theorem dX7_takesPiece_37 : decode cX7_takesPiece 37 = .ok (.aload_n 0, 1) := by decide +kernel
theorem dX7_takesPiece_38 : decode cX7_takesPiece 38 = .ok (.dup, 1) := by decide +kernel
theorem dX7_takesPiece_39 : decode cX7_takesPiece 39 = .ok (.getfield 37, 3) := by decide +kernel
theorem dX7_takesPiece_42 : decode cX7_takesPiece 42 = .ok (.iconst 1, 1) := by decide +kernel
theorem dX7_takesPiece_43 : decode cX7_takesPiece 43 = .ok (.iadd, 1) := by decide +kernel
theorem dX7_takesPiece_44 : decode cX7_takesPiece 44 = .ok (.putfield 37, 3) := by decide +kernel
theorem dX7_takesPiece_47 : decode cX7_takesPiece 47 = .ok (.aload_n 0, 1) := by decide +kernel
theorem dX7_takesPiece_48 : decode cX7_takesPiece 48 = .ok (.iload_n 1, 1) := by decide +kernel
theorem dX7_takesPiece_49 : decode cX7_takesPiece 49 = .ok (.invokevirtual 127, 3) := by decide +kernel
theorem dX7_takesPiece_52 : decode cX7_takesPiece 52 = .ok (.iconst 1, 1) := by decide +kernel
theorem dX7_takesPiece_53 : decode cX7_takesPiece 53 = .ok (.ireturn, 1) := by decide +kernel
theorem dX7_takesPiece_54 : decode cX7_takesPiece 54 = .ok (.iload_n 1, 1) := by decide +kernel
theorem dX7_takesPiece_55 : decode cX7_takesPiece 55 = .ok (.bipush 33, 2) := by decide +kernel
theorem dX7_takesPiece_57 : decode cX7_takesPiece 57 = .ok (.if_icmp .ne 29, 3) := by decide +kernel
theorem dX7_takesPiece_60 : decode cX7_takesPiece 60 = .ok (.aload_n 0, 1) := by decide +kernel
theorem dX7_takesPiece_61 : decode cX7_takesPiece 61 = .ok (.getfield 40, 3) := by decide +kernel
theorem dX7_takesPiece_64 : decode cX7_takesPiece 64 = .ok (.bipush 8, 2) := by decide +kernel
theorem dX7_takesPiece_66 : decode cX7_takesPiece 66 = .ok (.if_icmp .ge 20, 3) := by decide +kernel
theorem dX7_takesPiece_69 : decode cX7_takesPiece 69 = .ok (.aload_n 0, 1) := by decide +kernel
theorem dX7_takesPiece_70 : decode cX7_takesPiece 70 = .ok (.dup, 1) := by decide +kernel
theorem dX7_takesPiece_71 : decode cX7_takesPiece 71 = .ok (.getfield 40, 3) := by decide +kernel
theorem dX7_takesPiece_74 : decode cX7_takesPiece 74 = .ok (.iconst 1, 1) := by decide +kernel
theorem dX7_takesPiece_75 : decode cX7_takesPiece 75 = .ok (.iadd, 1) := by decide +kernel
theorem dX7_takesPiece_76 : decode cX7_takesPiece 76 = .ok (.putfield 40, 3) := by decide +kernel
theorem dX7_takesPiece_79 : decode cX7_takesPiece 79 = .ok (.aload_n 0, 1) := by decide +kernel
theorem dX7_takesPiece_80 : decode cX7_takesPiece 80 = .ok (.iload_n 1, 1) := by decide +kernel
theorem dX7_takesPiece_81 : decode cX7_takesPiece 81 = .ok (.invokevirtual 127, 3) := by decide +kernel
theorem dX7_takesPiece_84 : decode cX7_takesPiece 84 = .ok (.iconst 1, 1) := by decide +kernel
theorem dX7_takesPiece_85 : decode cX7_takesPiece 85 = .ok (.ireturn, 1) := by decide +kernel
theorem dX7_takesPiece_86 : decode cX7_takesPiece 86 = .ok (.iconst 0, 1) := by decide +kernel
theorem dX7_takesPiece_87 : decode cX7_takesPiece 87 = .ok (.ireturn, 1) := by decide +kernel
theorem dX7_takesTerm_0 : decode cX7_takesTerm 0 = .ok (.aload_n 0, 1) := by decide +kernel
theorem dX7_takesTerm_1 : decode cX7_takesTerm 1 = .ok (.getfield 58, 3) := by decide +kernel
theorem dX7_takesTerm_4 : decode cX7_takesTerm 4 = .ok (.ifCond .le 37, 3) := by decide +kernel
theorem dX7_takesTerm_7 : decode cX7_takesTerm 7 = .ok (.aload_n 0, 1) := by decide +kernel
theorem dX7_takesTerm_8 : decode cX7_takesTerm 8 = .ok (.aload_n 0, 1) := by decide +kernel
theorem dX7_takesTerm_9 : decode cX7_takesTerm 9 = .ok (.getfield 58, 3) := by decide +kernel
theorem dX7_takesTerm_12 : decode cX7_takesTerm 12 = .ok (.iconst 1, 1) := by decide +kernel
theorem dX7_takesTerm_13 : decode cX7_takesTerm 13 = .ok (.isub, 1) := by decide +kernel
theorem dX7_takesTerm_14 : decode cX7_takesTerm 14 = .ok (.invokevirtual 89, 3) := by decide +kernel
theorem dX7_takesTerm_17 : decode cX7_takesTerm 17 = .ok (.bipush 32, 2) := by decide +kernel
theorem dX7_takesTerm_19 : decode cX7_takesTerm 19 = .ok (.if_icmp .eq 22, 3) := by decide +kernel
theorem dX7_takesTerm_22 : decode cX7_takesTerm 22 = .ok (.aload_n 0, 1) := by decide +kernel
theorem dX7_takesTerm_23 : decode cX7_takesTerm 23 = .ok (.aload_n 0, 1) := by decide +kernel
theorem dX7_takesTerm_24 : decode cX7_takesTerm 24 = .ok (.getfield 58, 3) := by decide +kernel
theorem dX7_takesTerm_27 : decode cX7_takesTerm 27 = .ok (.iconst 1, 1) := by decide +kernel
theorem dX7_takesTerm_28 : decode cX7_takesTerm 28 = .ok (.isub, 1) := by decide +kernel
theorem dX7_takesTerm_29 : decode cX7_takesTerm 29 = .ok (.invokevirtual 89, 3) := by decide +kernel
theorem dX7_takesTerm_32 : decode cX7_takesTerm 32 = .ok (.invokestatic 93, 3) := by decide +kernel
theorem dX7_takesTerm_35 : decode cX7_takesTerm 35 = .ok (.iconst 3, 1) := by decide +kernel
theorem dX7_takesTerm_36 : decode cX7_takesTerm 36 = .ok (.if_icmp .eq 5, 3) := by decide +kernel
theorem dX7_takesTerm_39 : decode cX7_takesTerm 39 = .ok (.iconst 0, 1) := by decide +kernel
theorem dX7_takesTerm_40 : decode cX7_takesTerm 40 = .ok (.ireturn, 1) := by decide +kernel
theorem dX7_takesTerm_41 : decode cX7_takesTerm 41 = .ok (.aload_n 0, 1) := by decide +kernel
theorem dX7_takesTerm_42 : decode cX7_takesTerm 42 = .ok (.getfield 61, 3) := by decide +kernel
theorem dX7_takesTerm_45 : decode cX7_takesTerm 45 = .ok (.iconst 2, 1) := by decide +kernel
theorem dX7_takesTerm_46 : decode cX7_takesTerm 46 = .ok (.if_icmp .ne 29, 3) := by decide +kernel
theorem dX7_takesTerm_49 : decode cX7_takesTerm 49 = .ok (.aload_n 0, 1) := by decide +kernel
theorem dX7_takesTerm_50 : decode cX7_takesTerm 50 = .ok (.getfield 25, 3) := by decide +kernel
theorem dX7_takesTerm_53 : decode cX7_takesTerm 53 = .ok (.aload_n 0, 1) := by decide +kernel
theorem dX7_takesTerm_54 : decode cX7_takesTerm 54 = .ok (.getfield 58, 3) := by decide +kernel
theorem dX7_takesTerm_57 : decode cX7_takesTerm 57 = .ok (.isub, 1) := by decide +kernel
theorem dX7_takesTerm_58 : decode cX7_takesTerm 58 = .ok (.iconst 4, 1) := by decide +kernel
theorem dX7_takesTerm_59 : decode cX7_takesTerm 59 = .ok (.if_icmp .le 5, 3) := by decide +kernel
theorem dX7_takesTerm_62 : decode cX7_takesTerm 62 = .ok (.iconst 0, 1) := by decide +kernel
theorem dX7_takesTerm_63 : decode cX7_takesTerm 63 = .ok (.ireturn, 1) := by decide +kernel
theorem dX7_takesTerm_64 : decode cX7_takesTerm 64 = .ok (.aload_n 0, 1) := by decide +kernel
theorem dX7_takesTerm_65 : decode cX7_takesTerm 65 = .ok (.aload_n 0, 1) := by decide +kernel
theorem dX7_takesTerm_66 : decode cX7_takesTerm 66 = .ok (.invokevirtual 130, 3) := by decide +kernel
theorem dX7_takesTerm_69 : decode cX7_takesTerm 69 = .ok (.invokevirtual 74, 3) := by decide +kernel
theorem dX7_takesTerm_72 : decode cX7_takesTerm 72 = .ok (.goto 21, 3) := by decide +kernel
theorem dX7_takesTerm_75 : decode cX7_takesTerm 75 = .ok (.aload_n 0, 1) := by decide +kernel
theorem dX7_takesTerm_76 : decode cX7_takesTerm 76 = .ok (.invokevirtual 133, 3) := by decide +kernel
theorem dX7_takesTerm_79 : decode cX7_takesTerm 79 = .ok (.istore_n 1, 1) := by decide +kernel
theorem dX7_takesTerm_80 : decode cX7_takesTerm 80 = .ok (.iload_n 1, 1) := by decide +kernel
theorem dX7_takesTerm_81 : decode cX7_takesTerm 81 = .ok (.ifCond .ge 5, 3) := by decide +kernel
theorem dX7_takesTerm_84 : decode cX7_takesTerm 84 = .ok (.iconst 0, 1) := by decide +kernel
theorem dX7_takesTerm_85 : decode cX7_takesTerm 85 = .ok (.ireturn, 1) := by decide +kernel
theorem dX7_takesTerm_86 : decode cX7_takesTerm 86 = .ok (.aload_n 0, 1) := by decide +kernel
theorem dX7_takesTerm_87 : decode cX7_takesTerm 87 = .ok (.iconst (-1), 1) := by decide +kernel
theorem dX7_takesTerm_88 : decode cX7_takesTerm 88 = .ok (.iload_n 1, 1) := by decide +kernel
theorem dX7_takesTerm_89 : decode cX7_takesTerm 89 = .ok (.isub, 1) := by decide +kernel
theorem dX7_takesTerm_90 : decode cX7_takesTerm 90 = .ok (.invokevirtual 74, 3) := by decide +kernel
theorem dX7_takesTerm_93 : decode cX7_takesTerm 93 = .ok (.aload_n 0, 1) := by decide +kernel
theorem dX7_takesTerm_94 : decode cX7_takesTerm 94 = .ok (.dup, 1) := by decide +kernel
theorem dX7_takesTerm_95 : decode cX7_takesTerm 95 = .ok (.getfield 28, 3) := by decide +kernel
theorem dX7_takesTerm_98 : decode cX7_takesTerm 98 = .ok (.iconst 1, 1) := by decide +kernel
theorem dX7_takesTerm_99 : decode cX7_takesTerm 99 = .ok (.iadd, 1) := by decide +kernel
theorem dX7_takesTerm_100 : decode cX7_takesTerm 100 = .ok (.putfield 28, 3) := by decide +kernel
theorem dX7_takesTerm_103 : decode cX7_takesTerm 103 = .ok (.aload_n 0, 1) := by decide +kernel
theorem dX7_takesTerm_104 : decode cX7_takesTerm 104 = .ok (.invokevirtual 136, 3) := by decide +kernel
theorem dX7_takesTerm_107 : decode cX7_takesTerm 107 = .ok (.iconst 1, 1) := by decide +kernel
theorem dX7_takesTerm_108 : decode cX7_takesTerm 108 = .ok (.ireturn, 1) := by decide +kernel
theorem dX7_takesJoin_0 : decode cX7_takesJoin 0 = .ok (.aload_n 0, 1) := by decide +kernel
theorem dX7_takesJoin_1 : decode cX7_takesJoin 1 = .ok (.aload_n 0, 1) := by decide +kernel
theorem dX7_takesJoin_2 : decode cX7_takesJoin 2 = .ok (.getfield 58, 3) := by decide +kernel
theorem dX7_takesJoin_5 : decode cX7_takesJoin 5 = .ok (.invokevirtual 89, 3) := by decide +kernel
theorem dX7_takesJoin_8 : decode cX7_takesJoin 8 = .ok (.istore_n 1, 1) := by decide +kernel
theorem dX7_takesJoin_9 : decode cX7_takesJoin 9 = .ok (.aload_n 0, 1) := by decide +kernel
theorem dX7_takesJoin_10 : decode cX7_takesJoin 10 = .ok (.getfield 61, 3) := by decide +kernel
theorem dX7_takesJoin_13 : decode cX7_takesJoin 13 = .ok (.iconst 3, 1) := by decide +kernel
theorem dX7_takesJoin_14 : decode cX7_takesJoin 14 = .ok (.if_icmp .ne 14, 3) := by decide +kernel
theorem dX7_takesJoin_17 : decode cX7_takesJoin 17 = .ok (.iload_n 1, 1) := by decide +kernel
theorem dX7_takesJoin_18 : decode cX7_takesJoin 18 = .ok (.bipush 41, 2) := by decide +kernel
theorem dX7_takesJoin_20 : decode cX7_takesJoin 20 = .ok (.if_icmp .ne 8, 3) := by decide +kernel
theorem dX7_takesJoin_23 : decode cX7_takesJoin 23 = .ok (.aload_n 0, 1) := by decide +kernel
theorem dX7_takesJoin_24 : decode cX7_takesJoin 24 = .ok (.invokevirtual 139, 3) := by decide +kernel
theorem dX7_takesJoin_27 : decode cX7_takesJoin 27 = .ok (.ireturn, 1) := by decide +kernel
theorem dX7_takesJoin_28 : decode cX7_takesJoin 28 = .ok (.aload_n 0, 1) := by decide +kernel
theorem dX7_takesJoin_29 : decode cX7_takesJoin 29 = .ok (.getfield 61, 3) := by decide +kernel
theorem dX7_takesJoin_32 : decode cX7_takesJoin 32 = .ok (.iconst 3, 1) := by decide +kernel
theorem dX7_takesJoin_33 : decode cX7_takesJoin 33 = .ok (.if_icmp .ne 10, 3) := by decide +kernel
theorem dX7_takesJoin_36 : decode cX7_takesJoin 36 = .ok (.iload_n 1, 1) := by decide +kernel
theorem dX7_takesJoin_37 : decode cX7_takesJoin 37 = .ok (.invokestatic 142, 3) := by decide +kernel
theorem dX7_takesJoin_40 : decode cX7_takesJoin 40 = .ok (.goto 4, 3) := by decide +kernel
theorem dX7_takesJoin_43 : decode cX7_takesJoin 43 = .ok (.iconst 0, 1) := by decide +kernel
theorem dX7_takesJoin_44 : decode cX7_takesJoin 44 = .ok (.istore_n 2, 1) := by decide +kernel
theorem dX7_takesJoin_45 : decode cX7_takesJoin 45 = .ok (.iload_n 2, 1) := by decide +kernel
theorem dX7_takesJoin_46 : decode cX7_takesJoin 46 = .ok (.ifCond .ne 5, 3) := by decide +kernel
theorem dX7_takesJoin_49 : decode cX7_takesJoin 49 = .ok (.iconst 0, 1) := by decide +kernel
theorem dX7_takesJoin_50 : decode cX7_takesJoin 50 = .ok (.ireturn, 1) := by decide +kernel
theorem dX7_takesJoin_51 : decode cX7_takesJoin 51 = .ok (.iload_n 2, 1) := by decide +kernel
theorem dX7_takesJoin_52 : decode cX7_takesJoin 52 = .ok (.iconst 3, 1) := by decide +kernel
theorem dX7_takesJoin_53 : decode cX7_takesJoin 53 = .ok (.if_icmp .ne 9, 3) := by decide +kernel
theorem dX7_takesJoin_56 : decode cX7_takesJoin 56 = .ok (.iload_n 2, 1) := by decide +kernel
theorem dX7_takesJoin_57 : decode cX7_takesJoin 57 = .ok (.iconst 1, 1) := by decide +kernel
theorem dX7_takesJoin_58 : decode cX7_takesJoin 58 = .ok (.iadd, 1) := by decide +kernel
theorem dX7_takesJoin_59 : decode cX7_takesJoin 59 = .ok (.goto 4, 3) := by decide +kernel
theorem dX7_takesJoin_62 : decode cX7_takesJoin 62 = .ok (.iload_n 2, 1) := by decide +kernel
theorem dX7_takesJoin_63 : decode cX7_takesJoin 63 = .ok (.istore_n 3, 1) := by decide +kernel
theorem dX7_takesJoin_64 : decode cX7_takesJoin 64 = .ok (.aload_n 0, 1) := by decide +kernel
theorem dX7_takesJoin_65 : decode cX7_takesJoin 65 = .ok (.getfield 34, 3) := by decide +kernel
theorem dX7_takesJoin_68 : decode cX7_takesJoin 68 = .ok (.ifCond .le 39, 3) := by decide +kernel
theorem dX7_takesJoin_71 : decode cX7_takesJoin 71 = .ok (.aload_n 0, 1) := by decide +kernel
theorem dX7_takesJoin_72 : decode cX7_takesJoin 72 = .ok (.invokevirtual 71, 3) := by decide +kernel
theorem dX7_takesJoin_75 : decode cX7_takesJoin 75 = .ok (.invokestatic 142, 3) := by decide +kernel
theorem dX7_takesJoin_78 : decode cX7_takesJoin 78 = .ok (.iload_n 3, 1) := by decide +kernel
theorem dX7_takesJoin_79 : decode cX7_takesJoin 79 = .ok (.if_icmp .lt 28, 3) := by decide +kernel
theorem dX7_takesJoin_82 : decode cX7_takesJoin 82 = .ok (.aload_n 0, 1) := by decide +kernel
theorem dX7_takesJoin_83 : decode cX7_takesJoin 83 = .ok (.sipush (-1000), 3) := by decide +kernel
theorem dX7_takesJoin_86 : decode cX7_takesJoin 86 = .ok (.aload_n 0, 1) := by decide +kernel
theorem dX7_takesJoin_87 : decode cX7_takesJoin 87 = .ok (.invokevirtual 71, 3) := by decide +kernel
theorem dX7_takesJoin_90 : decode cX7_takesJoin 90 = .ok (.isub, 1) := by decide +kernel
theorem dX7_takesJoin_91 : decode cX7_takesJoin 91 = .ok (.invokevirtual 74, 3) := by decide +kernel
theorem dX7_takesJoin_94 : decode cX7_takesJoin 94 = .ok (.aload_n 0, 1) := by decide +kernel
theorem dX7_takesJoin_95 : decode cX7_takesJoin 95 = .ok (.dup, 1) := by decide +kernel
theorem dX7_takesJoin_96 : decode cX7_takesJoin 96 = .ok (.getfield 34, 3) := by decide +kernel
theorem dX7_takesJoin_99 : decode cX7_takesJoin 99 = .ok (.iconst 1, 1) := by decide +kernel
theorem dX7_takesJoin_100 : decode cX7_takesJoin 100 = .ok (.isub, 1) := by decide +kernel
theorem dX7_takesJoin_101 : decode cX7_takesJoin 101 = .ok (.putfield 34, 3) := by decide +kernel
theorem dX7_takesJoin_104 : decode cX7_takesJoin 104 = .ok (.goto (-40), 3) := by decide +kernel
theorem dX7_takesJoin_107 : decode cX7_takesJoin 107 = .ok (.iload_n 2, 1) := by decide +kernel
theorem dX7_takesJoin_108 : decode cX7_takesJoin 108 = .ok (.iconst 3, 1) := by decide +kernel
theorem dX7_takesJoin_109 : decode cX7_takesJoin 109 = .ok (.if_icmp .ne 16, 3) := by decide +kernel
theorem dX7_takesJoin_112 : decode cX7_takesJoin 112 = .ok (.aload_n 0, 1) := by decide +kernel
theorem dX7_takesJoin_113 : decode cX7_takesJoin 113 = .ok (.invokevirtual 71, 3) := by decide +kernel
theorem dX7_takesJoin_116 : decode cX7_takesJoin 116 = .ok (.invokestatic 142, 3) := by decide +kernel
theorem dX7_takesJoin_119 : decode cX7_takesJoin 119 = .ok (.iconst 3, 1) := by decide +kernel
theorem dX7_takesJoin_120 : decode cX7_takesJoin 120 = .ok (.if_icmp .ne 5, 3) := by decide +kernel
theorem dX7_takesJoin_123 : decode cX7_takesJoin 123 = .ok (.iconst 0, 1) := by decide +kernel
theorem dX7_takesJoin_124 : decode cX7_takesJoin 124 = .ok (.ireturn, 1) := by decide +kernel
theorem dX7_takesJoin_125 : decode cX7_takesJoin 125 = .ok (.aload_n 0, 1) := by decide +kernel
theorem dX7_takesJoin_126 : decode cX7_takesJoin 126 = .ok (.iload_n 1, 1) := by decide +kernel
theorem dX7_takesJoin_127 : decode cX7_takesJoin 127 = .ok (.invokevirtual 127, 3) := by decide +kernel
theorem dX7_takesJoin_130 : decode cX7_takesJoin 130 = .ok (.aload_n 0, 1) := by decide +kernel
theorem dX7_takesJoin_131 : decode cX7_takesJoin 131 = .ok (.iconst 1, 1) := by decide +kernel
theorem dX7_takesJoin_132 : decode cX7_takesJoin 132 = .ok (.putfield 43, 3) := by decide +kernel
theorem dX7_takesJoin_135 : decode cX7_takesJoin 135 = .ok (.iconst 1, 1) := by decide +kernel
theorem dX7_takesJoin_136 : decode cX7_takesJoin 136 = .ok (.ireturn, 1) := by decide +kernel
theorem dX7_takesEnd_0 : decode cX7_takesEnd 0 = .ok (.aload_n 0, 1) := by decide +kernel
theorem dX7_takesEnd_1 : decode cX7_takesEnd 1 = .ok (.getfield 37, 3) := by decide +kernel
theorem dX7_takesEnd_4 : decode cX7_takesEnd 4 = .ok (.ifCond .ne 5, 3) := by decide +kernel
theorem dX7_takesEnd_7 : decode cX7_takesEnd 7 = .ok (.iconst 0, 1) := by decide +kernel
theorem dX7_takesEnd_8 : decode cX7_takesEnd 8 = .ok (.ireturn, 1) := by decide +kernel
theorem dX7_takesEnd_9 : decode cX7_takesEnd 9 = .ok (.aload_n 0, 1) := by decide +kernel
theorem dX7_takesEnd_10 : decode cX7_takesEnd 10 = .ok (.getfield 34, 3) := by decide +kernel
theorem dX7_takesEnd_13 : decode cX7_takesEnd 13 = .ok (.ifCond .le 37, 3) := by decide +kernel
theorem dX7_takesEnd_16 : decode cX7_takesEnd 16 = .ok (.aload_n 0, 1) := by decide +kernel
theorem dX7_takesEnd_17 : decode cX7_takesEnd 17 = .ok (.invokevirtual 71, 3) := by decide +kernel
theorem dX7_takesEnd_20 : decode cX7_takesEnd 20 = .ok (.bipush 40, 2) := by decide +kernel
theorem dX7_takesEnd_22 : decode cX7_takesEnd 22 = .ok (.if_icmp .eq 28, 3) := by decide +kernel
theorem dX7_takesEnd_25 : decode cX7_takesEnd 25 = .ok (.aload_n 0, 1) := by decide +kernel
theorem dX7_takesEnd_26 : decode cX7_takesEnd 26 = .ok (.sipush (-1000), 3) := by decide +kernel
theorem dX7_takesEnd_29 : decode cX7_takesEnd 29 = .ok (.aload_n 0, 1) := by decide +kernel
theorem dX7_takesEnd_30 : decode cX7_takesEnd 30 = .ok (.invokevirtual 71, 3) := by decide +kernel
theorem dX7_takesEnd_33 : decode cX7_takesEnd 33 = .ok (.isub, 1) := by decide +kernel
theorem dX7_takesEnd_34 : decode cX7_takesEnd 34 = .ok (.invokevirtual 74, 3) := by decide +kernel
theorem dX7_takesEnd_37 : decode cX7_takesEnd 37 = .ok (.aload_n 0, 1) := by decide +kernel
theorem dX7_takesEnd_38 : decode cX7_takesEnd 38 = .ok (.dup, 1) := by decide +kernel
theorem dX7_takesEnd_39 : decode cX7_takesEnd 39 = .ok (.getfield 34, 3) := by decide +kernel
theorem dX7_takesEnd_42 : decode cX7_takesEnd 42 = .ok (.iconst 1, 1) := by decide +kernel
theorem dX7_takesEnd_43 : decode cX7_takesEnd 43 = .ok (.isub, 1) := by decide +kernel
theorem dX7_takesEnd_44 : decode cX7_takesEnd 44 = .ok (.putfield 34, 3) := by decide +kernel
theorem dX7_takesEnd_47 : decode cX7_takesEnd 47 = .ok (.goto (-38), 3) := by decide +kernel
theorem dX7_takesEnd_50 : decode cX7_takesEnd 50 = .ok (.aload_n 0, 1) := by decide +kernel
theorem dX7_takesEnd_51 : decode cX7_takesEnd 51 = .ok (.getfield 34, 3) := by decide +kernel
theorem dX7_takesEnd_54 : decode cX7_takesEnd 54 = .ok (.ifCond .le 13, 3) := by decide +kernel
theorem dX7_takesEnd_57 : decode cX7_takesEnd 57 = .ok (.aload_n 0, 1) := by decide +kernel
theorem dX7_takesEnd_58 : decode cX7_takesEnd 58 = .ok (.dup, 1) := by decide +kernel
theorem dX7_takesEnd_59 : decode cX7_takesEnd 59 = .ok (.getfield 34, 3) := by decide +kernel
theorem dX7_takesEnd_62 : decode cX7_takesEnd 62 = .ok (.iconst 1, 1) := by decide +kernel
theorem dX7_takesEnd_63 : decode cX7_takesEnd 63 = .ok (.isub, 1) := by decide +kernel
theorem dX7_takesEnd_64 : decode cX7_takesEnd 64 = .ok (.putfield 34, 3) := by decide +kernel
theorem dX7_takesEnd_67 : decode cX7_takesEnd 67 = .ok (.aload_n 0, 1) := by decide +kernel
theorem dX7_takesEnd_68 : decode cX7_takesEnd 68 = .ok (.dup, 1) := by decide +kernel
theorem dX7_takesEnd_69 : decode cX7_takesEnd 69 = .ok (.getfield 37, 3) := by decide +kernel
theorem dX7_takesEnd_72 : decode cX7_takesEnd 72 = .ok (.iconst 1, 1) := by decide +kernel
theorem dX7_takesEnd_73 : decode cX7_takesEnd 73 = .ok (.isub, 1) := by decide +kernel
theorem dX7_takesEnd_74 : decode cX7_takesEnd 74 = .ok (.putfield 37, 3) := by decide +kernel
theorem dX7_takesEnd_77 : decode cX7_takesEnd 77 = .ok (.aload_n 0, 1) := by decide +kernel
theorem dX7_takesEnd_78 : decode cX7_takesEnd 78 = .ok (.invokevirtual 136, 3) := by decide +kernel
theorem dX7_takesEnd_81 : decode cX7_takesEnd 81 = .ok (.iconst 1, 1) := by decide +kernel
theorem dX7_takesEnd_82 : decode cX7_takesEnd 82 = .ok (.ireturn, 1) := by decide +kernel
theorem dX7_endPiece_0 : decode cX7_endPiece 0 = .ok (.aload_n 0, 1) := by decide +kernel
theorem dX7_endPiece_1 : decode cX7_endPiece 1 = .ok (.getfield 34, 3) := by decide +kernel
theorem dX7_endPiece_4 : decode cX7_endPiece 4 = .ok (.ifCond .le 47, 3) := by decide +kernel
theorem dX7_endPiece_7 : decode cX7_endPiece 7 = .ok (.aload_n 0, 1) := by decide +kernel
theorem dX7_endPiece_8 : decode cX7_endPiece 8 = .ok (.invokevirtual 71, 3) := by decide +kernel
theorem dX7_endPiece_11 : decode cX7_endPiece 11 = .ok (.bipush 33, 2) := by decide +kernel
theorem dX7_endPiece_13 : decode cX7_endPiece 13 = .ok (.if_icmp .ne 38, 3) := by decide +kernel
theorem dX7_endPiece_16 : decode cX7_endPiece 16 = .ok (.aload_n 0, 1) := by decide +kernel
theorem dX7_endPiece_17 : decode cX7_endPiece 17 = .ok (.sipush (-1000), 3) := by decide +kernel
theorem dX7_endPiece_20 : decode cX7_endPiece 20 = .ok (.aload_n 0, 1) := by decide +kernel
theorem dX7_endPiece_21 : decode cX7_endPiece 21 = .ok (.invokevirtual 71, 3) := by decide +kernel
theorem dX7_endPiece_24 : decode cX7_endPiece 24 = .ok (.isub, 1) := by decide +kernel
theorem dX7_endPiece_25 : decode cX7_endPiece 25 = .ok (.invokevirtual 74, 3) := by decide +kernel
theorem dX7_endPiece_28 : decode cX7_endPiece 28 = .ok (.aload_n 0, 1) := by decide +kernel
theorem dX7_endPiece_29 : decode cX7_endPiece 29 = .ok (.dup, 1) := by decide +kernel
theorem dX7_endPiece_30 : decode cX7_endPiece 30 = .ok (.getfield 40, 3) := by decide +kernel
theorem dX7_endPiece_33 : decode cX7_endPiece 33 = .ok (.iconst 1, 1) := by decide +kernel
theorem dX7_endPiece_34 : decode cX7_endPiece 34 = .ok (.isub, 1) := by decide +kernel
theorem dX7_endPiece_35 : decode cX7_endPiece 35 = .ok (.putfield 40, 3) := by decide +kernel
theorem dX7_endPiece_38 : decode cX7_endPiece 38 = .ok (.aload_n 0, 1) := by decide +kernel
theorem dX7_endPiece_39 : decode cX7_endPiece 39 = .ok (.dup, 1) := by decide +kernel
theorem dX7_endPiece_40 : decode cX7_endPiece 40 = .ok (.getfield 34, 3) := by decide +kernel
theorem dX7_endPiece_43 : decode cX7_endPiece 43 = .ok (.iconst 1, 1) := by decide +kernel
theorem dX7_endPiece_44 : decode cX7_endPiece 44 = .ok (.isub, 1) := by decide +kernel
theorem dX7_endPiece_45 : decode cX7_endPiece 45 = .ok (.putfield 34, 3) := by decide +kernel
theorem dX7_endPiece_48 : decode cX7_endPiece 48 = .ok (.goto (-48), 3) := by decide +kernel
theorem dX7_endPiece_51 : decode cX7_endPiece 51 = .ok (.aload_n 0, 1) := by decide +kernel
theorem dX7_endPiece_52 : decode cX7_endPiece 52 = .ok (.iconst 0, 1) := by decide +kernel
theorem dX7_endPiece_53 : decode cX7_endPiece 53 = .ok (.putfield 43, 3) := by decide +kernel
theorem dX7_endPiece_56 : decode cX7_endPiece 56 = .ok (.return_, 1) := by decide +kernel
theorem dX7_rankOf_0 : decode cX7_rankOf 0 = .ok (.iload_n 0, 1) := by decide +kernel
theorem dX7_rankOf_1 : decode cX7_rankOf 1 = .ok (.lookupswitch 93 #[(38, 85), (42, 91), (43, 89), (45, 89), (47, 91), (60, 87), (61, 87), (62, 87), (124, 83)], 83) := by decide +kernel
theorem dX7_rankOf_84 : decode cX7_rankOf 84 = .ok (.iconst 1, 1) := by decide +kernel
theorem dX7_rankOf_85 : decode cX7_rankOf 85 = .ok (.ireturn, 1) := by decide +kernel
theorem dX7_rankOf_86 : decode cX7_rankOf 86 = .ok (.iconst 2, 1) := by decide +kernel
theorem dX7_rankOf_87 : decode cX7_rankOf 87 = .ok (.ireturn, 1) := by decide +kernel
theorem dX7_rankOf_88 : decode cX7_rankOf 88 = .ok (.iconst 3, 1) := by decide +kernel
theorem dX7_rankOf_89 : decode cX7_rankOf 89 = .ok (.ireturn, 1) := by decide +kernel
theorem dX7_rankOf_90 : decode cX7_rankOf 90 = .ok (.iconst 4, 1) := by decide +kernel
theorem dX7_rankOf_91 : decode cX7_rankOf 91 = .ok (.ireturn, 1) := by decide +kernel
theorem dX7_rankOf_92 : decode cX7_rankOf 92 = .ok (.iconst 5, 1) := by decide +kernel
theorem dX7_rankOf_93 : decode cX7_rankOf 93 = .ok (.ireturn, 1) := by decide +kernel
theorem dX7_rankOf_94 : decode cX7_rankOf 94 = .ok (.iconst 0, 1) := by decide +kernel
theorem dX7_rankOf_95 : decode cX7_rankOf 95 = .ok (.ireturn, 1) := by decide +kernel
theorem dX7_top_0 : decode cX7_top 0 = .ok (.aload_n 0, 1) := by decide +kernel
theorem dX7_top_1 : decode cX7_top 1 = .ok (.getfield 34, 3) := by decide +kernel
theorem dX7_top_4 : decode cX7_top 4 = .ok (.ifCond .le 26, 3) := by decide +kernel
theorem dX7_top_7 : decode cX7_top 7 = .ok (.aload_n 0, 1) := by decide +kernel
theorem dX7_top_8 : decode cX7_top 8 = .ok (.getfield 34, 3) := by decide +kernel
theorem dX7_top_11 : decode cX7_top 11 = .ok (.bipush 96, 2) := by decide +kernel
theorem dX7_top_13 : decode cX7_top 13 = .ok (.if_icmp .gt 17, 3) := by decide +kernel
theorem dX7_top_16 : decode cX7_top 16 = .ok (.aload_n 0, 1) := by decide +kernel
theorem dX7_top_17 : decode cX7_top 17 = .ok (.getfield 22, 3) := by decide +kernel
theorem dX7_top_20 : decode cX7_top 20 = .ok (.aload_n 0, 1) := by decide +kernel
theorem dX7_top_21 : decode cX7_top 21 = .ok (.getfield 34, 3) := by decide +kernel
theorem dX7_top_24 : decode cX7_top 24 = .ok (.iconst 1, 1) := by decide +kernel
theorem dX7_top_25 : decode cX7_top 25 = .ok (.isub, 1) := by decide +kernel
theorem dX7_top_26 : decode cX7_top 26 = .ok (.iaload, 1) := by decide +kernel
theorem dX7_top_27 : decode cX7_top 27 = .ok (.goto 4, 3) := by decide +kernel
theorem dX7_top_30 : decode cX7_top 30 = .ok (.iconst 0, 1) := by decide +kernel
theorem dX7_top_31 : decode cX7_top 31 = .ok (.ireturn, 1) := by decide +kernel
theorem dX7_push_0 : decode cX7_push 0 = .ok (.aload_n 0, 1) := by decide +kernel
theorem dX7_push_1 : decode cX7_push 1 = .ok (.getfield 34, 3) := by decide +kernel
theorem dX7_push_4 : decode cX7_push 4 = .ok (.bipush 96, 2) := by decide +kernel
theorem dX7_push_6 : decode cX7_push 6 = .ok (.if_icmp .ge 23, 3) := by decide +kernel
theorem dX7_push_9 : decode cX7_push 9 = .ok (.aload_n 0, 1) := by decide +kernel
theorem dX7_push_10 : decode cX7_push 10 = .ok (.getfield 22, 3) := by decide +kernel
theorem dX7_push_13 : decode cX7_push 13 = .ok (.aload_n 0, 1) := by decide +kernel
theorem dX7_push_14 : decode cX7_push 14 = .ok (.getfield 34, 3) := by decide +kernel
theorem dX7_push_17 : decode cX7_push 17 = .ok (.iload_n 1, 1) := by decide +kernel
theorem dX7_push_18 : decode cX7_push 18 = .ok (.iastore, 1) := by decide +kernel
theorem dX7_push_19 : decode cX7_push 19 = .ok (.aload_n 0, 1) := by decide +kernel
theorem dX7_push_20 : decode cX7_push 20 = .ok (.dup, 1) := by decide +kernel
theorem dX7_push_21 : decode cX7_push 21 = .ok (.getfield 34, 3) := by decide +kernel
theorem dX7_push_24 : decode cX7_push 24 = .ok (.iconst 1, 1) := by decide +kernel
theorem dX7_push_25 : decode cX7_push 25 = .ok (.iadd, 1) := by decide +kernel
theorem dX7_push_26 : decode cX7_push 26 = .ok (.putfield 34, 3) := by decide +kernel
theorem dX7_push_29 : decode cX7_push 29 = .ok (.return_, 1) := by decide +kernel
theorem dX7_emit_0 : decode cX7_emit 0 = .ok (.aload_n 0, 1) := by decide +kernel
theorem dX7_emit_1 : decode cX7_emit 1 = .ok (.getfield 31, 3) := by decide +kernel
theorem dX7_emit_4 : decode cX7_emit 4 = .ok (.bipush 96, 2) := by decide +kernel
theorem dX7_emit_6 : decode cX7_emit 6 = .ok (.if_icmp .ge 23, 3) := by decide +kernel
theorem dX7_emit_9 : decode cX7_emit 9 = .ok (.aload_n 0, 1) := by decide +kernel
theorem dX7_emit_10 : decode cX7_emit 10 = .ok (.getfield 19, 3) := by decide +kernel
theorem dX7_emit_13 : decode cX7_emit 13 = .ok (.aload_n 0, 1) := by decide +kernel
theorem dX7_emit_14 : decode cX7_emit 14 = .ok (.getfield 31, 3) := by decide +kernel
theorem dX7_emit_17 : decode cX7_emit 17 = .ok (.iload_n 1, 1) := by decide +kernel
theorem dX7_emit_18 : decode cX7_emit 18 = .ok (.iastore, 1) := by decide +kernel
theorem dX7_emit_19 : decode cX7_emit 19 = .ok (.aload_n 0, 1) := by decide +kernel
theorem dX7_emit_20 : decode cX7_emit 20 = .ok (.dup, 1) := by decide +kernel
theorem dX7_emit_21 : decode cX7_emit 21 = .ok (.getfield 31, 3) := by decide +kernel
theorem dX7_emit_24 : decode cX7_emit 24 = .ok (.iconst 1, 1) := by decide +kernel
theorem dX7_emit_25 : decode cX7_emit 25 = .ok (.iadd, 1) := by decide +kernel
theorem dX7_emit_26 : decode cX7_emit 26 = .ok (.putfield 31, 3) := by decide +kernel
theorem dX7_emit_29 : decode cX7_emit 29 = .ok (.return_, 1) := by decide +kernel
theorem dX8_init_0 : decode cX8_init 0 = .ok (.aload_n 0, 1) := by decide +kernel
theorem dX8_init_1 : decode cX8_init 1 = .ok (.invokespecial 3, 3) := by decide +kernel
theorem dX8_init_4 : decode cX8_init 4 = .ok (.aload_n 0, 1) := by decide +kernel
theorem dX8_init_5 : decode cX8_init 5 = .ok (.iload_n 1, 1) := by decide +kernel
theorem dX8_init_6 : decode cX8_init 6 = .ok (.putfield 9, 3) := by decide +kernel
theorem dX8_init_9 : decode cX8_init 9 = .ok (.aload_n 0, 1) := by decide +kernel
theorem dX8_init_10 : decode cX8_init 10 = .ok (.iload_n 2, 1) := by decide +kernel
theorem dX8_init_11 : decode cX8_init 11 = .ok (.putfield 15, 3) := by decide +kernel
theorem dX8_init_14 : decode cX8_init 14 = .ok (.aload_n 0, 1) := by decide +kernel
theorem dX8_init_15 : decode cX8_init 15 = .ok (.aload_n 3, 1) := by decide +kernel
theorem dX8_init_16 : decode cX8_init 16 = .ok (.putfield 18, 3) := by decide +kernel
theorem dX8_init_19 : decode cX8_init 19 = .ok (.aload_n 0, 1) := by decide +kernel
theorem dX8_init_20 : decode cX8_init 20 = .ok (.aload_n 3, 1) := by decide +kernel
theorem dX8_init_21 : decode cX8_init 21 = .ok (.arraylength, 1) := by decide +kernel
theorem dX8_init_22 : decode cX8_init 22 = .ok (.newarray .int, 2) := by decide +kernel
theorem dX8_init_24 : decode cX8_init 24 = .ok (.putfield 22, 3) := by decide +kernel
theorem dX8_init_27 : decode cX8_init 27 = .ok (.return_, 1) := by decide +kernel
theorem dX8_gives_0 : decode cX8_gives 0 = .ok (.iconst 0, 1) := by decide +kernel
theorem dX8_gives_1 : decode cX8_gives 1 = .ok (.istore 5, 2) := by decide +kernel
theorem dX8_gives_3 : decode cX8_gives 3 = .ok (.iconst 0, 1) := by decide +kernel
theorem dX8_gives_4 : decode cX8_gives 4 = .ok (.istore 6, 2) := by decide +kernel
theorem dX8_gives_6 : decode cX8_gives 6 = .ok (.iload 6, 2) := by decide +kernel
theorem dX8_gives_8 : decode cX8_gives 8 = .ok (.aload_n 0, 1) := by decide +kernel
theorem dX8_gives_9 : decode cX8_gives 9 = .ok (.getfield 18, 3) := by decide +kernel
theorem dX8_gives_12 : decode cX8_gives 12 = .ok (.arraylength, 1) := by decide +kernel
theorem dX8_gives_13 : decode cX8_gives 13 = .ok (.if_icmp .ge 156, 3) := by decide +kernel
theorem dX8_gives_16 : decode cX8_gives 16 = .ok (.aload_n 0, 1) := by decide +kernel
theorem dX8_gives_17 : decode cX8_gives 17 = .ok (.getfield 18, 3) := by decide +kernel
theorem dX8_gives_20 : decode cX8_gives 20 = .ok (.iload 6, 2) := by decide +kernel
theorem dX8_gives_22 : decode cX8_gives 22 = .ok (.iaload, 1) := by decide +kernel
theorem dX8_gives_23 : decode cX8_gives 23 = .ok (.istore 7, 2) := by decide +kernel
theorem dX8_gives_25 : decode cX8_gives 25 = .ok (.iload 7, 2) := by decide +kernel
theorem dX8_gives_27 : decode cX8_gives 27 = .ok (.sipush (-1000), 3) := by decide +kernel
theorem dX8_gives_30 : decode cX8_gives 30 = .ok (.if_icmp .le 48, 3) := by decide +kernel
theorem dX8_gives_33 : decode cX8_gives 33 = .ok (.iload 5, 2) := by decide +kernel
theorem dX8_gives_35 : decode cX8_gives 35 = .ok (.aload_n 0, 1) := by decide +kernel
theorem dX8_gives_36 : decode cX8_gives 36 = .ok (.getfield 22, 3) := by decide +kernel
theorem dX8_gives_39 : decode cX8_gives 39 = .ok (.arraylength, 1) := by decide +kernel
theorem dX8_gives_40 : decode cX8_gives 40 = .ok (.if_icmp .ge 38, 3) := by decide +kernel
theorem dX8_gives_43 : decode cX8_gives 43 = .ok (.aload_n 0, 1) := by decide +kernel
theorem dX8_gives_44 : decode cX8_gives 44 = .ok (.getfield 22, 3) := by decide +kernel
theorem dX8_gives_47 : decode cX8_gives 47 = .ok (.iload 5, 2) := by decide +kernel
theorem dX8_gives_49 : decode cX8_gives 49 = .ok (.iload 7, 2) := by decide +kernel
theorem dX8_gives_51 : decode cX8_gives 51 = .ok (.ifCond .lt 8, 3) := by decide +kernel
theorem dX8_gives_54 : decode cX8_gives 54 = .ok (.iload 7, 2) := by decide +kernel
theorem dX8_gives_56 : decode cX8_gives 56 = .ok (.goto 15, 3) := by decide +kernel
theorem dX8_gives_59 : decode cX8_gives 59 = .ok (.iconst (-1), 1) := by decide +kernel
theorem dX8_gives_60 : decode cX8_gives 60 = .ok (.iload 7, 2) := by decide +kernel
theorem dX8_gives_62 : decode cX8_gives 62 = .ok (.isub, 1) := by decide +kernel
theorem dX8_gives_63 : decode cX8_gives 63 = .ok (.iload_n 1, 1) := by decide +kernel
theorem dX8_gives_64 : decode cX8_gives 64 = .ok (.iload_n 2, 1) := by decide +kernel
theorem dX8_gives_65 : decode cX8_gives 65 = .ok (.iload_n 3, 1) := by decide +kernel
theorem dX8_gives_66 : decode cX8_gives 66 = .ok (.iload 4, 2) := by decide +kernel
theorem dX8_gives_68 : decode cX8_gives 68 = .ok (.invokestatic 25, 3) := by decide +kernel
theorem dX8_gives_71 : decode cX8_gives 71 = .ok (.iastore, 1) := by decide +kernel
theorem dX8_gives_72 : decode cX8_gives 72 = .ok (.iinc 5 1, 3) := by decide +kernel
theorem dX8_gives_75 : decode cX8_gives 75 = .ok (.goto 88, 3) := by decide +kernel
theorem dX8_gives_78 : decode cX8_gives 78 = .ok (.iload 7, 2) := by decide +kernel
theorem dX8_gives_80 : decode cX8_gives 80 = .ok (.sipush (-1033), 3) := by decide +kernel
theorem dX8_gives_83 : decode cX8_gives 83 = .ok (.if_icmp .ne 37, 3) := by decide +kernel
theorem dX8_gives_86 : decode cX8_gives 86 = .ok (.iload 5, 2) := by decide +kernel
theorem dX8_gives_88 : decode cX8_gives 88 = .ok (.ifCond .le 32, 3) := by decide +kernel
theorem dX8_gives_91 : decode cX8_gives 91 = .ok (.aload_n 0, 1) := by decide +kernel
theorem dX8_gives_92 : decode cX8_gives 92 = .ok (.getfield 22, 3) := by decide +kernel
theorem dX8_gives_95 : decode cX8_gives 95 = .ok (.iload 5, 2) := by decide +kernel
theorem dX8_gives_97 : decode cX8_gives 97 = .ok (.iconst 1, 1) := by decide +kernel
theorem dX8_gives_98 : decode cX8_gives 98 = .ok (.isub, 1) := by decide +kernel
theorem dX8_gives_99 : decode cX8_gives 99 = .ok (.aload_n 0, 1) := by decide +kernel
theorem dX8_gives_100 : decode cX8_gives 100 = .ok (.getfield 22, 3) := by decide +kernel
theorem dX8_gives_103 : decode cX8_gives 103 = .ok (.iload 5, 2) := by decide +kernel
theorem dX8_gives_105 : decode cX8_gives 105 = .ok (.iconst 1, 1) := by decide +kernel
theorem dX8_gives_106 : decode cX8_gives 106 = .ok (.isub, 1) := by decide +kernel
theorem dX8_gives_107 : decode cX8_gives 107 = .ok (.iaload, 1) := by decide +kernel
theorem dX8_gives_108 : decode cX8_gives 108 = .ok (.ifCond .ne 7, 3) := by decide +kernel
theorem dX8_gives_111 : decode cX8_gives 111 = .ok (.iconst 1, 1) := by decide +kernel
theorem dX8_gives_112 : decode cX8_gives 112 = .ok (.goto 4, 3) := by decide +kernel
theorem dX8_gives_115 : decode cX8_gives 115 = .ok (.iconst 0, 1) := by decide +kernel
theorem dX8_gives_116 : decode cX8_gives 116 = .ok (.iastore, 1) := by decide +kernel
theorem dX8_gives_117 : decode cX8_gives 117 = .ok (.goto 46, 3) := by decide +kernel
theorem dX8_gives_120 : decode cX8_gives 120 = .ok (.iload 5, 2) := by decide +kernel
theorem dX8_gives_122 : decode cX8_gives 122 = .ok (.iconst 1, 1) := by decide +kernel
theorem dX8_gives_123 : decode cX8_gives 123 = .ok (.if_icmp .le 40, 3) := by decide +kernel
theorem dX8_gives_126 : decode cX8_gives 126 = .ok (.iinc 5 (-1), 3) := by decide +kernel
theorem dX8_gives_129 : decode cX8_gives 129 = .ok (.aload_n 0, 1) := by decide +kernel
theorem dX8_gives_130 : decode cX8_gives 130 = .ok (.getfield 22, 3) := by decide +kernel
theorem dX8_gives_133 : decode cX8_gives 133 = .ok (.iload 5, 2) := by decide +kernel
theorem dX8_gives_135 : decode cX8_gives 135 = .ok (.iconst 1, 1) := by decide +kernel
theorem dX8_gives_136 : decode cX8_gives 136 = .ok (.isub, 1) := by decide +kernel
theorem dX8_gives_137 : decode cX8_gives 137 = .ok (.sipush (-1000), 3) := by decide +kernel
theorem dX8_gives_140 : decode cX8_gives 140 = .ok (.iload 7, 2) := by decide +kernel
theorem dX8_gives_142 : decode cX8_gives 142 = .ok (.isub, 1) := by decide +kernel
theorem dX8_gives_143 : decode cX8_gives 143 = .ok (.aload_n 0, 1) := by decide +kernel
theorem dX8_gives_144 : decode cX8_gives 144 = .ok (.getfield 22, 3) := by decide +kernel
theorem dX8_gives_147 : decode cX8_gives 147 = .ok (.iload 5, 2) := by decide +kernel
theorem dX8_gives_149 : decode cX8_gives 149 = .ok (.iconst 1, 1) := by decide +kernel
theorem dX8_gives_150 : decode cX8_gives 150 = .ok (.isub, 1) := by decide +kernel
theorem dX8_gives_151 : decode cX8_gives 151 = .ok (.iaload, 1) := by decide +kernel
theorem dX8_gives_152 : decode cX8_gives 152 = .ok (.aload_n 0, 1) := by decide +kernel
theorem dX8_gives_153 : decode cX8_gives 153 = .ok (.getfield 22, 3) := by decide +kernel
theorem dX8_gives_156 : decode cX8_gives 156 = .ok (.iload 5, 2) := by decide +kernel
theorem dX8_gives_158 : decode cX8_gives 158 = .ok (.iaload, 1) := by decide +kernel
theorem dX8_gives_159 : decode cX8_gives 159 = .ok (.invokestatic 29, 3) := by decide +kernel
theorem dX8_gives_162 : decode cX8_gives 162 = .ok (.iastore, 1) := by decide +kernel
theorem dX8_gives_163 : decode cX8_gives 163 = .ok (.iinc 6 1, 3) := by decide +kernel
theorem dX8_gives_166 : decode cX8_gives 166 = .ok (.goto (-160), 3) := by decide +kernel
theorem dX8_gives_169 : decode cX8_gives 169 = .ok (.iload 5, 2) := by decide +kernel
theorem dX8_gives_171 : decode cX8_gives 171 = .ok (.ifCond .le 12, 3) := by decide +kernel
theorem dX8_gives_174 : decode cX8_gives 174 = .ok (.aload_n 0, 1) := by decide +kernel
theorem dX8_gives_175 : decode cX8_gives 175 = .ok (.getfield 22, 3) := by decide +kernel
theorem dX8_gives_178 : decode cX8_gives 178 = .ok (.iconst 0, 1) := by decide +kernel
theorem dX8_gives_179 : decode cX8_gives 179 = .ok (.iaload, 1) := by decide +kernel
theorem dX8_gives_180 : decode cX8_gives 180 = .ok (.goto 4, 3) := by decide +kernel
theorem dX8_gives_183 : decode cX8_gives 183 = .ok (.iconst 0, 1) := by decide +kernel
theorem dX8_gives_184 : decode cX8_gives 184 = .ok (.ireturn, 1) := by decide +kernel
theorem dX8_named_0 : decode cX8_named 0 = .ok (.iload_n 0, 1) := by decide +kernel
theorem dX8_named_1 : decode cX8_named 1 = .ok (.tableswitch 33 0 2 #[27, 29, 31], 27) := by decide +kernel
theorem dX8_named_28 : decode cX8_named 28 = .ok (.iload_n 1, 1) := by decide +kernel
theorem dX8_named_29 : decode cX8_named 29 = .ok (.ireturn, 1) := by decide +kernel
theorem dX8_named_30 : decode cX8_named 30 = .ok (.iload_n 2, 1) := by decide +kernel
theorem dX8_named_31 : decode cX8_named 31 = .ok (.ireturn, 1) := by decide +kernel
theorem dX8_named_32 : decode cX8_named 32 = .ok (.iload_n 3, 1) := by decide +kernel
theorem dX8_named_33 : decode cX8_named 33 = .ok (.ireturn, 1) := by decide +kernel
theorem dX8_named_34 : decode cX8_named 34 = .ok (.iload 4, 2) := by decide +kernel
theorem dX8_named_36 : decode cX8_named 36 = .ok (.ireturn, 1) := by decide +kernel
theorem dX8_joined_0 : decode cX8_joined 0 = .ok (.iload_n 0, 1) := by decide +kernel
theorem dX8_joined_1 : decode cX8_joined 1 = .ok (.lookupswitch 168 #[(38, 97), (42, 152), (43, 144), (45, 148), (47, 156), (60, 111), (61, 122), (62, 133), (124, 83)], 83) := by decide +kernel
theorem dX8_joined_84 : decode cX8_joined 84 = .ok (.iload_n 1, 1) := by decide +kernel
theorem dX8_joined_85 : decode cX8_joined 85 = .ok (.ifCond .ne 7, 3) := by decide +kernel
theorem dX8_joined_88 : decode cX8_joined 88 = .ok (.iload_n 2, 1) := by decide +kernel
theorem dX8_joined_89 : decode cX8_joined 89 = .ok (.ifCond .eq 7, 3) := by decide +kernel
theorem dX8_joined_92 : decode cX8_joined 92 = .ok (.iconst 1, 1) := by decide +kernel
theorem dX8_joined_93 : decode cX8_joined 93 = .ok (.goto 4, 3) := by decide +kernel
theorem dX8_joined_96 : decode cX8_joined 96 = .ok (.iconst 0, 1) := by decide +kernel
theorem dX8_joined_97 : decode cX8_joined 97 = .ok (.ireturn, 1) := by decide +kernel
theorem dX8_joined_98 : decode cX8_joined 98 = .ok (.iload_n 1, 1) := by decide +kernel
theorem dX8_joined_99 : decode cX8_joined 99 = .ok (.ifCond .eq 11, 3) := by decide +kernel
theorem dX8_joined_102 : decode cX8_joined 102 = .ok (.iload_n 2, 1) := by decide +kernel
theorem dX8_joined_103 : decode cX8_joined 103 = .ok (.ifCond .eq 7, 3) := by decide +kernel
theorem dX8_joined_106 : decode cX8_joined 106 = .ok (.iconst 1, 1) := by decide +kernel
theorem dX8_joined_107 : decode cX8_joined 107 = .ok (.goto 4, 3) := by decide +kernel
theorem dX8_joined_110 : decode cX8_joined 110 = .ok (.iconst 0, 1) := by decide +kernel
theorem dX8_joined_111 : decode cX8_joined 111 = .ok (.ireturn, 1) := by decide +kernel
theorem dX8_joined_112 : decode cX8_joined 112 = .ok (.iload_n 1, 1) := by decide +kernel
theorem dX8_joined_113 : decode cX8_joined 113 = .ok (.iload_n 2, 1) := by decide +kernel
theorem dX8_joined_114 : decode cX8_joined 114 = .ok (.if_icmp .ge 7, 3) := by decide +kernel
theorem dX8_joined_117 : decode cX8_joined 117 = .ok (.iconst 1, 1) := by decide +kernel
theorem dX8_joined_118 : decode cX8_joined 118 = .ok (.goto 4, 3) := by decide +kernel
theorem dX8_joined_121 : decode cX8_joined 121 = .ok (.iconst 0, 1) := by decide +kernel
theorem dX8_joined_122 : decode cX8_joined 122 = .ok (.ireturn, 1) := by decide +kernel
theorem dX8_joined_123 : decode cX8_joined 123 = .ok (.iload_n 1, 1) := by decide +kernel
theorem dX8_joined_124 : decode cX8_joined 124 = .ok (.iload_n 2, 1) := by decide +kernel
theorem dX8_joined_125 : decode cX8_joined 125 = .ok (.if_icmp .ne 7, 3) := by decide +kernel
theorem dX8_joined_128 : decode cX8_joined 128 = .ok (.iconst 1, 1) := by decide +kernel
theorem dX8_joined_129 : decode cX8_joined 129 = .ok (.goto 4, 3) := by decide +kernel
theorem dX8_joined_132 : decode cX8_joined 132 = .ok (.iconst 0, 1) := by decide +kernel
theorem dX8_joined_133 : decode cX8_joined 133 = .ok (.ireturn, 1) := by decide +kernel
theorem dX8_joined_134 : decode cX8_joined 134 = .ok (.iload_n 1, 1) := by decide +kernel
theorem dX8_joined_135 : decode cX8_joined 135 = .ok (.iload_n 2, 1) := by decide +kernel
theorem dX8_joined_136 : decode cX8_joined 136 = .ok (.if_icmp .le 7, 3) := by decide +kernel
theorem dX8_joined_139 : decode cX8_joined 139 = .ok (.iconst 1, 1) := by decide +kernel
theorem dX8_joined_140 : decode cX8_joined 140 = .ok (.goto 4, 3) := by decide +kernel
theorem dX8_joined_143 : decode cX8_joined 143 = .ok (.iconst 0, 1) := by decide +kernel
theorem dX8_joined_144 : decode cX8_joined 144 = .ok (.ireturn, 1) := by decide +kernel
theorem dX8_joined_145 : decode cX8_joined 145 = .ok (.iload_n 1, 1) := by decide +kernel
theorem dX8_joined_146 : decode cX8_joined 146 = .ok (.iload_n 2, 1) := by decide +kernel
theorem dX8_joined_147 : decode cX8_joined 147 = .ok (.iadd, 1) := by decide +kernel
theorem dX8_joined_148 : decode cX8_joined 148 = .ok (.ireturn, 1) := by decide +kernel
theorem dX8_joined_149 : decode cX8_joined 149 = .ok (.iload_n 1, 1) := by decide +kernel
theorem dX8_joined_150 : decode cX8_joined 150 = .ok (.iload_n 2, 1) := by decide +kernel
theorem dX8_joined_151 : decode cX8_joined 151 = .ok (.isub, 1) := by decide +kernel
theorem dX8_joined_152 : decode cX8_joined 152 = .ok (.ireturn, 1) := by decide +kernel
theorem dX8_joined_153 : decode cX8_joined 153 = .ok (.iload_n 1, 1) := by decide +kernel
theorem dX8_joined_154 : decode cX8_joined 154 = .ok (.iload_n 2, 1) := by decide +kernel
theorem dX8_joined_155 : decode cX8_joined 155 = .ok (.imul, 1) := by decide +kernel
theorem dX8_joined_156 : decode cX8_joined 156 = .ok (.ireturn, 1) := by decide +kernel
theorem dX8_joined_157 : decode cX8_joined 157 = .ok (.iload_n 2, 1) := by decide +kernel
theorem dX8_joined_158 : decode cX8_joined 158 = .ok (.ifCond .ne 7, 3) := by decide +kernel
theorem dX8_joined_161 : decode cX8_joined 161 = .ok (.iconst 0, 1) := by decide +kernel
theorem dX8_joined_162 : decode cX8_joined 162 = .ok (.goto 6, 3) := by decide +kernel
theorem dX8_joined_165 : decode cX8_joined 165 = .ok (.iload_n 1, 1) := by decide +kernel
theorem dX8_joined_166 : decode cX8_joined 166 = .ok (.iload_n 2, 1) := by decide +kernel
theorem dX8_joined_167 : decode cX8_joined 167 = .ok (.idiv, 1) := by decide +kernel
theorem dX8_joined_168 : decode cX8_joined 168 = .ok (.ireturn, 1) := by decide +kernel
theorem dX8_joined_169 : decode cX8_joined 169 = .ok (.iconst 0, 1) := by decide +kernel
theorem dX8_joined_170 : decode cX8_joined 170 = .ok (.ireturn, 1) := by decide +kernel
theorem dX9_init_0 : decode cX9_init 0 = .ok (.aload_n 0, 1) := by decide +kernel
theorem dX9_init_1 : decode cX9_init 1 = .ok (.invokespecial 3, 3) := by decide +kernel
theorem dX9_init_4 : decode cX9_init 4 = .ok (.aload_n 0, 1) := by decide +kernel
theorem dX9_init_5 : decode cX9_init 5 = .ok (.iload_n 1, 1) := by decide +kernel
theorem dX9_init_6 : decode cX9_init 6 = .ok (.putfield 9, 3) := by decide +kernel
theorem dX9_init_9 : decode cX9_init 9 = .ok (.aload_n 0, 1) := by decide +kernel
theorem dX9_init_10 : decode cX9_init 10 = .ok (.iload_n 2, 1) := by decide +kernel
theorem dX9_init_11 : decode cX9_init 11 = .ok (.putfield 15, 3) := by decide +kernel
theorem dX9_init_14 : decode cX9_init 14 = .ok (.return_, 1) := by decide +kernel
theorem dX9_ofKind_0 : decode cX9_ofKind 0 = .ok (.iload_n 0, 1) := by decide +kernel
theorem dX9_ofKind_1 : decode cX9_ofKind 1 = .ok (.tableswitch 85 1 5 #[35, 45, 55, 65, 75], 35) := by decide +kernel
theorem dX9_ofKind_36 : decode cX9_ofKind 36 = .ok (.new 18, 3) := by decide +kernel
theorem dX9_ofKind_39 : decode cX9_ofKind 39 = .ok (.dup, 1) := by decide +kernel
theorem dX9_ofKind_40 : decode cX9_ofKind 40 = .ok (.iload_n 0, 1) := by decide +kernel
theorem dX9_ofKind_41 : decode cX9_ofKind 41 = .ok (.iload_n 1, 1) := by decide +kernel
theorem dX9_ofKind_42 : decode cX9_ofKind 42 = .ok (.invokespecial 20, 3) := by decide +kernel
theorem dX9_ofKind_45 : decode cX9_ofKind 45 = .ok (.areturn, 1) := by decide +kernel
theorem dX9_ofKind_46 : decode cX9_ofKind 46 = .ok (.new 23, 3) := by decide +kernel
theorem dX9_ofKind_49 : decode cX9_ofKind 49 = .ok (.dup, 1) := by decide +kernel
theorem dX9_ofKind_50 : decode cX9_ofKind 50 = .ok (.iload_n 0, 1) := by decide +kernel
theorem dX9_ofKind_51 : decode cX9_ofKind 51 = .ok (.iload_n 1, 1) := by decide +kernel
theorem dX9_ofKind_52 : decode cX9_ofKind 52 = .ok (.invokespecial 25, 3) := by decide +kernel
theorem dX9_ofKind_55 : decode cX9_ofKind 55 = .ok (.areturn, 1) := by decide +kernel
theorem dX9_ofKind_56 : decode cX9_ofKind 56 = .ok (.new 26, 3) := by decide +kernel
theorem dX9_ofKind_59 : decode cX9_ofKind 59 = .ok (.dup, 1) := by decide +kernel
theorem dX9_ofKind_60 : decode cX9_ofKind 60 = .ok (.iload_n 0, 1) := by decide +kernel
theorem dX9_ofKind_61 : decode cX9_ofKind 61 = .ok (.iload_n 1, 1) := by decide +kernel
theorem dX9_ofKind_62 : decode cX9_ofKind 62 = .ok (.invokespecial 28, 3) := by decide +kernel
theorem dX9_ofKind_65 : decode cX9_ofKind 65 = .ok (.areturn, 1) := by decide +kernel
theorem dX9_ofKind_66 : decode cX9_ofKind 66 = .ok (.new 29, 3) := by decide +kernel
theorem dX9_ofKind_69 : decode cX9_ofKind 69 = .ok (.dup, 1) := by decide +kernel
theorem dX9_ofKind_70 : decode cX9_ofKind 70 = .ok (.iload_n 0, 1) := by decide +kernel
theorem dX9_ofKind_71 : decode cX9_ofKind 71 = .ok (.iload_n 1, 1) := by decide +kernel
theorem dX9_ofKind_72 : decode cX9_ofKind 72 = .ok (.invokespecial 31, 3) := by decide +kernel
theorem dX9_ofKind_75 : decode cX9_ofKind 75 = .ok (.areturn, 1) := by decide +kernel
theorem dX9_ofKind_76 : decode cX9_ofKind 76 = .ok (.new 32, 3) := by decide +kernel
theorem dX9_ofKind_79 : decode cX9_ofKind 79 = .ok (.dup, 1) := by decide +kernel
theorem dX9_ofKind_80 : decode cX9_ofKind 80 = .ok (.iload_n 0, 1) := by decide +kernel
theorem dX9_ofKind_81 : decode cX9_ofKind 81 = .ok (.iload_n 1, 1) := by decide +kernel
theorem dX9_ofKind_82 : decode cX9_ofKind 82 = .ok (.invokespecial 34, 3) := by decide +kernel
theorem dX9_ofKind_85 : decode cX9_ofKind 85 = .ok (.areturn, 1) := by decide +kernel
theorem dX9_ofKind_86 : decode cX9_ofKind 86 = .ok (.new 10, 3) := by decide +kernel
theorem dX9_ofKind_89 : decode cX9_ofKind 89 = .ok (.dup, 1) := by decide +kernel
theorem dX9_ofKind_90 : decode cX9_ofKind 90 = .ok (.iconst 0, 1) := by decide +kernel
theorem dX9_ofKind_91 : decode cX9_ofKind 91 = .ok (.iload_n 1, 1) := by decide +kernel
theorem dX9_ofKind_92 : decode cX9_ofKind 92 = .ok (.invokespecial 35, 3) := by decide +kernel
theorem dX9_ofKind_95 : decode cX9_ofKind 95 = .ok (.areturn, 1) := by decide +kernel
theorem dX9_isOf_0 : decode cX9_isOf 0 = .ok (.iload_n 1, 1) := by decide +kernel
theorem dX9_isOf_1 : decode cX9_isOf 1 = .ok (.tableswitch 66 0 5 #[39, 41, 46, 51, 56, 61], 39) := by decide +kernel
theorem dX9_isOf_40 : decode cX9_isOf 40 = .ok (.iconst 1, 1) := by decide +kernel
theorem dX9_isOf_41 : decode cX9_isOf 41 = .ok (.ireturn, 1) := by decide +kernel
theorem dX9_isOf_42 : decode cX9_isOf 42 = .ok (.aload_n 0, 1) := by decide +kernel
theorem dX9_isOf_43 : decode cX9_isOf 43 = .ok (.instanceof 18, 3) := by decide +kernel
theorem dX9_isOf_46 : decode cX9_isOf 46 = .ok (.ireturn, 1) := by decide +kernel
theorem dX9_isOf_47 : decode cX9_isOf 47 = .ok (.aload_n 0, 1) := by decide +kernel
theorem dX9_isOf_48 : decode cX9_isOf 48 = .ok (.instanceof 23, 3) := by decide +kernel
theorem dX9_isOf_51 : decode cX9_isOf 51 = .ok (.ireturn, 1) := by decide +kernel
theorem dX9_isOf_52 : decode cX9_isOf 52 = .ok (.aload_n 0, 1) := by decide +kernel
theorem dX9_isOf_53 : decode cX9_isOf 53 = .ok (.instanceof 26, 3) := by decide +kernel
theorem dX9_isOf_56 : decode cX9_isOf 56 = .ok (.ireturn, 1) := by decide +kernel
theorem dX9_isOf_57 : decode cX9_isOf 57 = .ok (.aload_n 0, 1) := by decide +kernel
theorem dX9_isOf_58 : decode cX9_isOf 58 = .ok (.instanceof 29, 3) := by decide +kernel
theorem dX9_isOf_61 : decode cX9_isOf 61 = .ok (.ireturn, 1) := by decide +kernel
theorem dX9_isOf_62 : decode cX9_isOf 62 = .ok (.aload_n 0, 1) := by decide +kernel
theorem dX9_isOf_63 : decode cX9_isOf 63 = .ok (.instanceof 32, 3) := by decide +kernel
theorem dX9_isOf_66 : decode cX9_isOf 66 = .ok (.ireturn, 1) := by decide +kernel
theorem dX9_isOf_67 : decode cX9_isOf 67 = .ok (.iconst 0, 1) := by decide +kernel
theorem dX9_isOf_68 : decode cX9_isOf 68 = .ok (.ireturn, 1) := by decide +kernel
theorem dX9_heeds_0 : decode cX9_heeds 0 = .ok (.iload_n 3, 1) := by decide +kernel
theorem dX9_heeds_1 : decode cX9_heeds 1 = .ok (.ireturn, 1) := by decide +kernel
theorem dX9_picks_0 : decode cX9_picks 0 = .ok (.aload_n 1, 1) := by decide +kernel
theorem dX9_picks_1 : decode cX9_picks 1 = .ok (.aload_n 0, 1) := by decide +kernel
theorem dX9_picks_2 : decode cX9_picks 2 = .ok (.getfield 15, 3) := by decide +kernel
theorem dX9_picks_5 : decode cX9_picks 5 = .ok (.invokevirtual 36, 3) := by decide +kernel
theorem dX9_picks_8 : decode cX9_picks 8 = .ok (.ireturn, 1) := by decide +kernel
theorem dX9_value_0 : decode cX9_value 0 = .ok (.aload_n 0, 1) := by decide +kernel
theorem dX9_value_1 : decode cX9_value 1 = .ok (.getfield 15, 3) := by decide +kernel
theorem dX9_value_4 : decode cX9_value 4 = .ok (.ireturn, 1) := by decide +kernel
theorem dX10_init_0 : decode cX10_init 0 = .ok (.aload_n 0, 1) := by decide +kernel
theorem dX10_init_1 : decode cX10_init 1 = .ok (.invokespecial 3, 3) := by decide +kernel
theorem dX10_init_4 : decode cX10_init 4 = .ok (.aload_n 0, 1) := by decide +kernel
theorem dX10_init_5 : decode cX10_init 5 = .ok (.iconst 0, 1) := by decide +kernel
theorem dX10_init_6 : decode cX10_init 6 = .ok (.putfield 9, 3) := by decide +kernel
theorem dX10_init_9 : decode cX10_init 9 = .ok (.aload_n 0, 1) := by decide +kernel
theorem dX10_init_10 : decode cX10_init 10 = .ok (.iconst 0, 1) := by decide +kernel
theorem dX10_init_11 : decode cX10_init 11 = .ok (.putfield 15, 3) := by decide +kernel
theorem dX10_init_14 : decode cX10_init 14 = .ok (.aload_n 0, 1) := by decide +kernel
theorem dX10_init_15 : decode cX10_init 15 = .ok (.iconst 0, 1) := by decide +kernel
theorem dX10_init_16 : decode cX10_init 16 = .ok (.putfield 18, 3) := by decide +kernel
theorem dX10_init_19 : decode cX10_init 19 = .ok (.aload_n 0, 1) := by decide +kernel
theorem dX10_init_20 : decode cX10_init 20 = .ok (.iconst 0, 1) := by decide +kernel
theorem dX10_init_21 : decode cX10_init 21 = .ok (.putfield 21, 3) := by decide +kernel
theorem dX10_init_24 : decode cX10_init 24 = .ok (.aload_n 0, 1) := by decide +kernel
theorem dX10_init_25 : decode cX10_init 25 = .ok (.iconst 3, 1) := by decide +kernel
theorem dX10_init_26 : decode cX10_init 26 = .ok (.putfield 24, 3) := by decide +kernel
theorem dX10_init_29 : decode cX10_init 29 = .ok (.aload_n 0, 1) := by decide +kernel
theorem dX10_init_30 : decode cX10_init 30 = .ok (.iconst 0, 1) := by decide +kernel
theorem dX10_init_31 : decode cX10_init 31 = .ok (.putfield 27, 3) := by decide +kernel
theorem dX10_init_34 : decode cX10_init 34 = .ok (.aload_n 0, 1) := by decide +kernel
theorem dX10_init_35 : decode cX10_init 35 = .ok (.iconst 0, 1) := by decide +kernel
theorem dX10_init_36 : decode cX10_init 36 = .ok (.putfield 30, 3) := by decide +kernel
theorem dX10_init_39 : decode cX10_init 39 = .ok (.aload_n 0, 1) := by decide +kernel
theorem dX10_init_40 : decode cX10_init 40 = .ok (.iconst 1, 1) := by decide +kernel
theorem dX10_init_41 : decode cX10_init 41 = .ok (.putfield 33, 3) := by decide +kernel
theorem dX10_init_44 : decode cX10_init 44 = .ok (.aload_n 0, 1) := by decide +kernel
theorem dX10_init_45 : decode cX10_init 45 = .ok (.bipush 10, 2) := by decide +kernel
theorem dX10_init_47 : decode cX10_init 47 = .ok (.newarray .int, 2) := by decide +kernel
theorem dX10_init_49 : decode cX10_init 49 = .ok (.putfield 36, 3) := by decide +kernel
theorem dX10_init_52 : decode cX10_init 52 = .ok (.aload_n 0, 1) := by decide +kernel
theorem dX10_init_53 : decode cX10_init 53 = .ok (.bipush 10, 2) := by decide +kernel
theorem dX10_init_55 : decode cX10_init 55 = .ok (.newarray .int, 2) := by decide +kernel
theorem dX10_init_57 : decode cX10_init 57 = .ok (.putfield 40, 3) := by decide +kernel
theorem dX10_init_60 : decode cX10_init 60 = .ok (.aload_n 0, 1) := by decide +kernel
theorem dX10_init_61 : decode cX10_init 61 = .ok (.bipush 10, 2) := by decide +kernel
theorem dX10_init_63 : decode cX10_init 63 = .ok (.newarray .int, 2) := by decide +kernel
theorem dX10_init_65 : decode cX10_init 65 = .ok (.putfield 43, 3) := by decide +kernel
theorem dX10_init_68 : decode cX10_init 68 = .ok (.aload_n 0, 1) := by decide +kernel
theorem dX10_init_69 : decode cX10_init 69 = .ok (.bipush 12, 2) := by decide +kernel
theorem dX10_init_71 : decode cX10_init 71 = .ok (.newarray .int, 2) := by decide +kernel
theorem dX10_init_73 : decode cX10_init 73 = .ok (.putfield 46, 3) := by decide +kernel
theorem dX10_init_76 : decode cX10_init 76 = .ok (.aload_n 0, 1) := by decide +kernel
theorem dX10_init_77 : decode cX10_init 77 = .ok (.bipush 12, 2) := by decide +kernel
theorem dX10_init_79 : decode cX10_init 79 = .ok (.newarray .int, 2) := by decide +kernel
theorem dX10_init_81 : decode cX10_init 81 = .ok (.putfield 49, 3) := by decide +kernel
theorem dX10_init_84 : decode cX10_init 84 = .ok (.aload_n 0, 1) := by decide +kernel
theorem dX10_init_85 : decode cX10_init 85 = .ok (.bipush 12, 2) := by decide +kernel
theorem dX10_init_87 : decode cX10_init 87 = .ok (.newarray .int, 2) := by decide +kernel
theorem dX10_init_89 : decode cX10_init 89 = .ok (.putfield 52, 3) := by decide +kernel
theorem dX10_init_92 : decode cX10_init 92 = .ok (.aload_n 0, 1) := by decide +kernel
theorem dX10_init_93 : decode cX10_init 93 = .ok (.bipush 24, 2) := by decide +kernel
theorem dX10_init_95 : decode cX10_init 95 = .ok (.newarray .int, 2) := by decide +kernel
theorem dX10_init_97 : decode cX10_init 97 = .ok (.putfield 55, 3) := by decide +kernel
theorem dX10_init_100 : decode cX10_init 100 = .ok (.aload_n 0, 1) := by decide +kernel
theorem dX10_init_101 : decode cX10_init 101 = .ok (.bipush 6, 2) := by decide +kernel
theorem dX10_init_103 : decode cX10_init 103 = .ok (.anewarray 58, 3) := by decide +kernel
theorem dX10_init_106 : decode cX10_init 106 = .ok (.putfield 60, 3) := by decide +kernel
theorem dX10_init_109 : decode cX10_init 109 = .ok (.aload_n 0, 1) := by decide +kernel
theorem dX10_init_110 : decode cX10_init 110 = .ok (.bipush 14, 2) := by decide +kernel
theorem dX10_init_112 : decode cX10_init 112 = .ok (.anewarray 64, 3) := by decide +kernel
theorem dX10_init_115 : decode cX10_init 115 = .ok (.putfield 66, 3) := by decide +kernel
theorem dX10_init_118 : decode cX10_init 118 = .ok (.aload_n 0, 1) := by decide +kernel
theorem dX10_init_119 : decode cX10_init 119 = .ok (.bipush 10, 2) := by decide +kernel
theorem dX10_init_121 : decode cX10_init 121 = .ok (.newarray .int, 2) := by decide +kernel
theorem dX10_init_123 : decode cX10_init 123 = .ok (.putfield 70, 3) := by decide +kernel
theorem dX10_init_126 : decode cX10_init 126 = .ok (.aload_n 0, 1) := by decide +kernel
theorem dX10_init_127 : decode cX10_init 127 = .ok (.bipush 72, 2) := by decide +kernel
theorem dX10_init_129 : decode cX10_init 129 = .ok (.newarray .int, 2) := by decide +kernel
theorem dX10_init_131 : decode cX10_init 131 = .ok (.putfield 73, 3) := by decide +kernel
theorem dX10_init_134 : decode cX10_init 134 = .ok (.aload_n 0, 1) := by decide +kernel
theorem dX10_init_135 : decode cX10_init 135 = .ok (.bipush 72, 2) := by decide +kernel
theorem dX10_init_137 : decode cX10_init 137 = .ok (.newarray .int, 2) := by decide +kernel
theorem dX10_init_139 : decode cX10_init 139 = .ok (.putfield 76, 3) := by decide +kernel
theorem dX10_init_142 : decode cX10_init 142 = .ok (.return_, 1) := by decide +kernel
theorem dX10_become_0 : decode cX10_become 0 = .ok (.aload_n 0, 1) := by decide +kernel
theorem dX10_become_1 : decode cX10_become 1 = .ok (.aload_n 1, 1) := by decide +kernel
theorem dX10_become_2 : decode cX10_become 2 = .ok (.getfield 9, 3) := by decide +kernel
theorem dX10_become_5 : decode cX10_become 5 = .ok (.putfield 9, 3) := by decide +kernel
theorem dX10_become_8 : decode cX10_become 8 = .ok (.aload_n 0, 1) := by decide +kernel
theorem dX10_become_9 : decode cX10_become 9 = .ok (.aload_n 1, 1) := by decide +kernel
theorem dX10_become_10 : decode cX10_become 10 = .ok (.getfield 15, 3) := by decide +kernel
theorem dX10_become_13 : decode cX10_become 13 = .ok (.putfield 15, 3) := by decide +kernel
theorem dX10_become_16 : decode cX10_become 16 = .ok (.aload_n 0, 1) := by decide +kernel
theorem dX10_become_17 : decode cX10_become 17 = .ok (.aload_n 1, 1) := by decide +kernel
theorem dX10_become_18 : decode cX10_become 18 = .ok (.getfield 18, 3) := by decide +kernel
theorem dX10_become_21 : decode cX10_become 21 = .ok (.putfield 18, 3) := by decide +kernel
theorem dX10_become_24 : decode cX10_become 24 = .ok (.aload_n 0, 1) := by decide +kernel
theorem dX10_become_25 : decode cX10_become 25 = .ok (.aload_n 1, 1) := by decide +kernel
theorem dX10_become_26 : decode cX10_become 26 = .ok (.getfield 21, 3) := by decide +kernel
theorem dX10_become_29 : decode cX10_become 29 = .ok (.putfield 21, 3) := by decide +kernel
theorem dX10_become_32 : decode cX10_become 32 = .ok (.aload_n 0, 1) := by decide +kernel
theorem dX10_become_33 : decode cX10_become 33 = .ok (.aload_n 1, 1) := by decide +kernel
theorem dX10_become_34 : decode cX10_become 34 = .ok (.getfield 24, 3) := by decide +kernel
theorem dX10_become_37 : decode cX10_become 37 = .ok (.putfield 24, 3) := by decide +kernel
theorem dX10_become_40 : decode cX10_become 40 = .ok (.aload_n 0, 1) := by decide +kernel
theorem dX10_become_41 : decode cX10_become 41 = .ok (.aload_n 1, 1) := by decide +kernel
theorem dX10_become_42 : decode cX10_become 42 = .ok (.getfield 27, 3) := by decide +kernel
theorem dX10_become_45 : decode cX10_become 45 = .ok (.putfield 27, 3) := by decide +kernel
theorem dX10_become_48 : decode cX10_become 48 = .ok (.aload_n 0, 1) := by decide +kernel
theorem dX10_become_49 : decode cX10_become 49 = .ok (.aload_n 1, 1) := by decide +kernel
theorem dX10_become_50 : decode cX10_become 50 = .ok (.getfield 30, 3) := by decide +kernel
theorem dX10_become_53 : decode cX10_become 53 = .ok (.putfield 30, 3) := by decide +kernel
theorem dX10_become_56 : decode cX10_become 56 = .ok (.aload_n 0, 1) := by decide +kernel
theorem dX10_become_57 : decode cX10_become 57 = .ok (.aload_n 1, 1) := by decide +kernel
theorem dX10_become_58 : decode cX10_become 58 = .ok (.getfield 33, 3) := by decide +kernel
theorem dX10_become_61 : decode cX10_become 61 = .ok (.putfield 33, 3) := by decide +kernel
theorem dX10_become_64 : decode cX10_become 64 = .ok (.aload_n 1, 1) := by decide +kernel
theorem dX10_become_65 : decode cX10_become 65 = .ok (.getfield 36, 3) := by decide +kernel
theorem dX10_become_68 : decode cX10_become 68 = .ok (.iconst 0, 1) := by decide +kernel
theorem dX10_become_69 : decode cX10_become 69 = .ok (.aload_n 0, 1) := by decide +kernel
theorem dX10_become_70 : decode cX10_become 70 = .ok (.getfield 36, 3) := by decide +kernel
theorem dX10_become_73 : decode cX10_become 73 = .ok (.iconst 0, 1) := by decide +kernel
theorem dX10_become_74 : decode cX10_become 74 = .ok (.bipush 10, 2) := by decide +kernel
theorem dX10_become_76 : decode cX10_become 76 = .ok (.invokestatic 79, 3) := by decide +kernel
theorem dX10_become_79 : decode cX10_become 79 = .ok (.aload_n 1, 1) := by decide +kernel
theorem dX10_become_80 : decode cX10_become 80 = .ok (.getfield 40, 3) := by decide +kernel
theorem dX10_become_83 : decode cX10_become 83 = .ok (.iconst 0, 1) := by decide +kernel
theorem dX10_become_84 : decode cX10_become 84 = .ok (.aload_n 0, 1) := by decide +kernel
theorem dX10_become_85 : decode cX10_become 85 = .ok (.getfield 40, 3) := by decide +kernel
theorem dX10_become_88 : decode cX10_become 88 = .ok (.iconst 0, 1) := by decide +kernel
theorem dX10_become_89 : decode cX10_become 89 = .ok (.bipush 10, 2) := by decide +kernel
theorem dX10_become_91 : decode cX10_become 91 = .ok (.invokestatic 79, 3) := by decide +kernel
theorem dX10_become_94 : decode cX10_become 94 = .ok (.aload_n 1, 1) := by decide +kernel
theorem dX10_become_95 : decode cX10_become 95 = .ok (.getfield 43, 3) := by decide +kernel
theorem dX10_become_98 : decode cX10_become 98 = .ok (.iconst 0, 1) := by decide +kernel
theorem dX10_become_99 : decode cX10_become 99 = .ok (.aload_n 0, 1) := by decide +kernel
theorem dX10_become_100 : decode cX10_become 100 = .ok (.getfield 43, 3) := by decide +kernel
theorem dX10_become_103 : decode cX10_become 103 = .ok (.iconst 0, 1) := by decide +kernel
theorem dX10_become_104 : decode cX10_become 104 = .ok (.bipush 10, 2) := by decide +kernel
theorem dX10_become_106 : decode cX10_become 106 = .ok (.invokestatic 79, 3) := by decide +kernel
theorem dX10_become_109 : decode cX10_become 109 = .ok (.aload_n 1, 1) := by decide +kernel
theorem dX10_become_110 : decode cX10_become 110 = .ok (.getfield 46, 3) := by decide +kernel
theorem dX10_become_113 : decode cX10_become 113 = .ok (.iconst 0, 1) := by decide +kernel
theorem dX10_become_114 : decode cX10_become 114 = .ok (.aload_n 0, 1) := by decide +kernel
theorem dX10_become_115 : decode cX10_become 115 = .ok (.getfield 46, 3) := by decide +kernel
theorem dX10_become_118 : decode cX10_become 118 = .ok (.iconst 0, 1) := by decide +kernel
theorem dX10_become_119 : decode cX10_become 119 = .ok (.bipush 12, 2) := by decide +kernel
theorem dX10_become_121 : decode cX10_become 121 = .ok (.invokestatic 79, 3) := by decide +kernel
theorem dX10_become_124 : decode cX10_become 124 = .ok (.aload_n 1, 1) := by decide +kernel
theorem dX10_become_125 : decode cX10_become 125 = .ok (.getfield 49, 3) := by decide +kernel
theorem dX10_become_128 : decode cX10_become 128 = .ok (.iconst 0, 1) := by decide +kernel
theorem dX10_become_129 : decode cX10_become 129 = .ok (.aload_n 0, 1) := by decide +kernel
theorem dX10_become_130 : decode cX10_become 130 = .ok (.getfield 49, 3) := by decide +kernel
theorem dX10_become_133 : decode cX10_become 133 = .ok (.iconst 0, 1) := by decide +kernel
theorem dX10_become_134 : decode cX10_become 134 = .ok (.bipush 12, 2) := by decide +kernel
theorem dX10_become_136 : decode cX10_become 136 = .ok (.invokestatic 79, 3) := by decide +kernel
theorem dX10_become_139 : decode cX10_become 139 = .ok (.aload_n 1, 1) := by decide +kernel
theorem dX10_become_140 : decode cX10_become 140 = .ok (.getfield 52, 3) := by decide +kernel
theorem dX10_become_143 : decode cX10_become 143 = .ok (.iconst 0, 1) := by decide +kernel
theorem dX10_become_144 : decode cX10_become 144 = .ok (.aload_n 0, 1) := by decide +kernel
theorem dX10_become_145 : decode cX10_become 145 = .ok (.getfield 52, 3) := by decide +kernel
theorem dX10_become_148 : decode cX10_become 148 = .ok (.iconst 0, 1) := by decide +kernel
theorem dX10_become_149 : decode cX10_become 149 = .ok (.bipush 12, 2) := by decide +kernel
theorem dX10_become_151 : decode cX10_become 151 = .ok (.invokestatic 79, 3) := by decide +kernel
theorem dX10_become_154 : decode cX10_become 154 = .ok (.aload_n 1, 1) := by decide +kernel
theorem dX10_become_155 : decode cX10_become 155 = .ok (.getfield 55, 3) := by decide +kernel
theorem dX10_become_158 : decode cX10_become 158 = .ok (.iconst 0, 1) := by decide +kernel
theorem dX10_become_159 : decode cX10_become 159 = .ok (.aload_n 0, 1) := by decide +kernel
theorem dX10_become_160 : decode cX10_become 160 = .ok (.getfield 55, 3) := by decide +kernel
theorem dX10_become_163 : decode cX10_become 163 = .ok (.iconst 0, 1) := by decide +kernel
theorem dX10_become_164 : decode cX10_become 164 = .ok (.bipush 24, 2) := by decide +kernel
theorem dX10_become_166 : decode cX10_become 166 = .ok (.invokestatic 79, 3) := by decide +kernel
theorem dX10_become_169 : decode cX10_become 169 = .ok (.iconst 0, 1) := by decide +kernel
theorem dX10_become_170 : decode cX10_become 170 = .ok (.istore_n 2, 1) := by decide +kernel
theorem dX10_become_171 : decode cX10_become 171 = .ok (.iload_n 2, 1) := by decide +kernel
theorem dX10_become_172 : decode cX10_become 172 = .ok (.bipush 6, 2) := by decide +kernel
theorem dX10_become_174 : decode cX10_become 174 = .ok (.if_icmp .ge 21, 3) := by decide +kernel
theorem dX10_become_177 : decode cX10_become 177 = .ok (.aload_n 0, 1) := by decide +kernel
theorem dX10_become_178 : decode cX10_become 178 = .ok (.getfield 60, 3) := by decide +kernel
theorem dX10_become_181 : decode cX10_become 181 = .ok (.iload_n 2, 1) := by decide +kernel
theorem dX10_become_182 : decode cX10_become 182 = .ok (.aload_n 1, 1) := by decide +kernel
theorem dX10_become_183 : decode cX10_become 183 = .ok (.getfield 60, 3) := by decide +kernel
theorem dX10_become_186 : decode cX10_become 186 = .ok (.iload_n 2, 1) := by decide +kernel
theorem dX10_become_187 : decode cX10_become 187 = .ok (.aaload, 1) := by decide +kernel
theorem dX10_become_188 : decode cX10_become 188 = .ok (.aastore, 1) := by decide +kernel
theorem dX10_become_189 : decode cX10_become 189 = .ok (.iinc 2 1, 3) := by decide +kernel
theorem dX10_become_192 : decode cX10_become 192 = .ok (.goto (-21), 3) := by decide +kernel
theorem dX10_become_195 : decode cX10_become 195 = .ok (.iconst 0, 1) := by decide +kernel
theorem dX10_become_196 : decode cX10_become 196 = .ok (.istore_n 2, 1) := by decide +kernel
theorem dX10_become_197 : decode cX10_become 197 = .ok (.iload_n 2, 1) := by decide +kernel
theorem dX10_become_198 : decode cX10_become 198 = .ok (.bipush 14, 2) := by decide +kernel
theorem dX10_become_200 : decode cX10_become 200 = .ok (.if_icmp .ge 21, 3) := by decide +kernel
theorem dX10_become_203 : decode cX10_become 203 = .ok (.aload_n 0, 1) := by decide +kernel
theorem dX10_become_204 : decode cX10_become 204 = .ok (.getfield 66, 3) := by decide +kernel
theorem dX10_become_207 : decode cX10_become 207 = .ok (.iload_n 2, 1) := by decide +kernel
theorem dX10_become_208 : decode cX10_become 208 = .ok (.aload_n 1, 1) := by decide +kernel
theorem dX10_become_209 : decode cX10_become 209 = .ok (.getfield 66, 3) := by decide +kernel
theorem dX10_become_212 : decode cX10_become 212 = .ok (.iload_n 2, 1) := by decide +kernel
theorem dX10_become_213 : decode cX10_become 213 = .ok (.aaload, 1) := by decide +kernel
theorem dX10_become_214 : decode cX10_become 214 = .ok (.aastore, 1) := by decide +kernel
theorem dX10_become_215 : decode cX10_become 215 = .ok (.iinc 2 1, 3) := by decide +kernel
theorem dX10_become_218 : decode cX10_become 218 = .ok (.goto (-21), 3) := by decide +kernel
theorem dX10_become_221 : decode cX10_become 221 = .ok (.return_, 1) := by decide +kernel
theorem dX10_isHouse_0 : decode cX10_isHouse 0 = .ok (.iload_n 1, 1) := by decide +kernel
theorem dX10_isHouse_1 : decode cX10_isHouse 1 = .ok (.ifCond .lt 15, 3) := by decide +kernel
theorem dX10_isHouse_4 : decode cX10_isHouse 4 = .ok (.iload_n 1, 1) := by decide +kernel
theorem dX10_isHouse_5 : decode cX10_isHouse 5 = .ok (.aload_n 0, 1) := by decide +kernel
theorem dX10_isHouse_6 : decode cX10_isHouse 6 = .ok (.getfield 9, 3) := by decide +kernel
theorem dX10_isHouse_9 : decode cX10_isHouse 9 = .ok (.if_icmp .ge 7, 3) := by decide +kernel
theorem dX10_isHouse_12 : decode cX10_isHouse 12 = .ok (.iconst 1, 1) := by decide +kernel
theorem dX10_isHouse_13 : decode cX10_isHouse 13 = .ok (.goto 4, 3) := by decide +kernel
theorem dX10_isHouse_16 : decode cX10_isHouse 16 = .ok (.iconst 0, 1) := by decide +kernel
theorem dX10_isHouse_17 : decode cX10_isHouse 17 = .ok (.ireturn, 1) := by decide +kernel
theorem dX10_isDoor_0 : decode cX10_isDoor 0 = .ok (.iload_n 1, 1) := by decide +kernel
theorem dX10_isDoor_1 : decode cX10_isDoor 1 = .ok (.ifCond .lt 15, 3) := by decide +kernel
theorem dX10_isDoor_4 : decode cX10_isDoor 4 = .ok (.iload_n 1, 1) := by decide +kernel
theorem dX10_isDoor_5 : decode cX10_isDoor 5 = .ok (.aload_n 0, 1) := by decide +kernel
theorem dX10_isDoor_6 : decode cX10_isDoor 6 = .ok (.getfield 15, 3) := by decide +kernel
theorem dX10_isDoor_9 : decode cX10_isDoor 9 = .ok (.if_icmp .ge 7, 3) := by decide +kernel
theorem dX10_isDoor_12 : decode cX10_isDoor 12 = .ok (.iconst 1, 1) := by decide +kernel
theorem dX10_isDoor_13 : decode cX10_isDoor 13 = .ok (.goto 4, 3) := by decide +kernel
theorem dX10_isDoor_16 : decode cX10_isDoor 16 = .ok (.iconst 0, 1) := by decide +kernel
theorem dX10_isDoor_17 : decode cX10_isDoor 17 = .ok (.ireturn, 1) := by decide +kernel
theorem dX10_thiefAt_0 : decode cX10_thiefAt 0 = .ok (.iload_n 1, 1) := by decide +kernel
theorem dX10_thiefAt_1 : decode cX10_thiefAt 1 = .ok (.iconst 0, 1) := by decide +kernel
theorem dX10_thiefAt_2 : decode cX10_thiefAt 2 = .ok (.aload_n 0, 1) := by decide +kernel
theorem dX10_thiefAt_3 : decode cX10_thiefAt 3 = .ok (.getfield 18, 3) := by decide +kernel
theorem dX10_thiefAt_6 : decode cX10_thiefAt 6 = .ok (.iconst 1, 1) := by decide +kernel
theorem dX10_thiefAt_7 : decode cX10_thiefAt 7 = .ok (.isub, 1) := by decide +kernel
theorem dX10_thiefAt_8 : decode cX10_thiefAt 8 = .ok (.invokestatic 85, 3) := by decide +kernel
theorem dX10_thiefAt_11 : decode cX10_thiefAt 11 = .ok (.ifCond .eq 12, 3) := by decide +kernel
theorem dX10_thiefAt_14 : decode cX10_thiefAt 14 = .ok (.aload_n 0, 1) := by decide +kernel
theorem dX10_thiefAt_15 : decode cX10_thiefAt 15 = .ok (.getfield 60, 3) := by decide +kernel
theorem dX10_thiefAt_18 : decode cX10_thiefAt 18 = .ok (.iload_n 1, 1) := by decide +kernel
theorem dX10_thiefAt_19 : decode cX10_thiefAt 19 = .ok (.aaload, 1) := by decide +kernel
theorem dX10_thiefAt_20 : decode cX10_thiefAt 20 = .ok (.goto 4, 3) := by decide +kernel
theorem dX10_thiefAt_23 : decode cX10_thiefAt 23 = .ok (.aconst_null, 1) := by decide +kernel
theorem dX10_thiefAt_24 : decode cX10_thiefAt 24 = .ok (.areturn, 1) := by decide +kernel
theorem dX10_textAt_0 : decode cX10_textAt 0 = .ok (.iload_n 1, 1) := by decide +kernel
theorem dX10_textAt_1 : decode cX10_textAt 1 = .ok (.iconst 0, 1) := by decide +kernel
theorem dX10_textAt_2 : decode cX10_textAt 2 = .ok (.aload_n 0, 1) := by decide +kernel
theorem dX10_textAt_3 : decode cX10_textAt 3 = .ok (.getfield 21, 3) := by decide +kernel
theorem dX10_textAt_6 : decode cX10_textAt 6 = .ok (.iconst 1, 1) := by decide +kernel
theorem dX10_textAt_7 : decode cX10_textAt 7 = .ok (.isub, 1) := by decide +kernel
theorem dX10_textAt_8 : decode cX10_textAt 8 = .ok (.invokestatic 85, 3) := by decide +kernel
theorem dX10_textAt_11 : decode cX10_textAt 11 = .ok (.ifCond .eq 12, 3) := by decide +kernel
theorem dX10_textAt_14 : decode cX10_textAt 14 = .ok (.aload_n 0, 1) := by decide +kernel
theorem dX10_textAt_15 : decode cX10_textAt 15 = .ok (.getfield 66, 3) := by decide +kernel
theorem dX10_textAt_18 : decode cX10_textAt 18 = .ok (.iload_n 1, 1) := by decide +kernel
theorem dX10_textAt_19 : decode cX10_textAt 19 = .ok (.aaload, 1) := by decide +kernel
theorem dX10_textAt_20 : decode cX10_textAt 20 = .ok (.goto 4, 3) := by decide +kernel
theorem dX10_textAt_23 : decode cX10_textAt 23 = .ok (.aconst_null, 1) := by decide +kernel
theorem dX10_textAt_24 : decode cX10_textAt 24 = .ok (.areturn, 1) := by decide +kernel
theorem dX10_addHouse_0 : decode cX10_addHouse 0 = .ok (.aload_n 0, 1) := by decide +kernel
theorem dX10_addHouse_1 : decode cX10_addHouse 1 = .ok (.getfield 9, 3) := by decide +kernel
theorem dX10_addHouse_4 : decode cX10_addHouse 4 = .ok (.bipush 10, 2) := by decide +kernel
theorem dX10_addHouse_6 : decode cX10_addHouse 6 = .ok (.if_icmp .lt 6, 3) := by decide +kernel
theorem dX10_addHouse_9 : decode cX10_addHouse 9 = .ok (.ldc 89, 2) := by decide +kernel
theorem dX10_addHouse_11 : decode cX10_addHouse 11 = .ok (.ireturn, 1) := by decide +kernel
theorem dX10_addHouse_12 : decode cX10_addHouse 12 = .ok (.aload_n 0, 1) := by decide +kernel
theorem dX10_addHouse_13 : decode cX10_addHouse 13 = .ok (.getfield 36, 3) := by decide +kernel
theorem dX10_addHouse_16 : decode cX10_addHouse 16 = .ok (.aload_n 0, 1) := by decide +kernel
theorem dX10_addHouse_17 : decode cX10_addHouse 17 = .ok (.getfield 9, 3) := by decide +kernel
theorem dX10_addHouse_20 : decode cX10_addHouse 20 = .ok (.iload_n 1, 1) := by decide +kernel
theorem dX10_addHouse_21 : decode cX10_addHouse 21 = .ok (.iastore, 1) := by decide +kernel
theorem dX10_addHouse_22 : decode cX10_addHouse 22 = .ok (.aload_n 0, 1) := by decide +kernel
theorem dX10_addHouse_23 : decode cX10_addHouse 23 = .ok (.getfield 40, 3) := by decide +kernel
theorem dX10_addHouse_26 : decode cX10_addHouse 26 = .ok (.aload_n 0, 1) := by decide +kernel
theorem dX10_addHouse_27 : decode cX10_addHouse 27 = .ok (.getfield 9, 3) := by decide +kernel
theorem dX10_addHouse_30 : decode cX10_addHouse 30 = .ok (.iload_n 2, 1) := by decide +kernel
theorem dX10_addHouse_31 : decode cX10_addHouse 31 = .ok (.iastore, 1) := by decide +kernel
theorem dX10_addHouse_32 : decode cX10_addHouse 32 = .ok (.aload_n 0, 1) := by decide +kernel
theorem dX10_addHouse_33 : decode cX10_addHouse 33 = .ok (.getfield 43, 3) := by decide +kernel
theorem dX10_addHouse_36 : decode cX10_addHouse 36 = .ok (.aload_n 0, 1) := by decide +kernel
theorem dX10_addHouse_37 : decode cX10_addHouse 37 = .ok (.getfield 9, 3) := by decide +kernel
theorem dX10_addHouse_40 : decode cX10_addHouse 40 = .ok (.iconst 0, 1) := by decide +kernel
theorem dX10_addHouse_41 : decode cX10_addHouse 41 = .ok (.iastore, 1) := by decide +kernel
theorem dX10_addHouse_42 : decode cX10_addHouse 42 = .ok (.aload_n 0, 1) := by decide +kernel
theorem dX10_addHouse_43 : decode cX10_addHouse 43 = .ok (.dup, 1) := by decide +kernel
theorem dX10_addHouse_44 : decode cX10_addHouse 44 = .ok (.getfield 9, 3) := by decide +kernel
theorem dX10_addHouse_47 : decode cX10_addHouse 47 = .ok (.iconst 1, 1) := by decide +kernel
theorem dX10_addHouse_48 : decode cX10_addHouse 48 = .ok (.iadd, 1) := by decide +kernel
theorem dX10_addHouse_49 : decode cX10_addHouse 49 = .ok (.putfield 9, 3) := by decide +kernel
theorem dX10_addHouse_52 : decode cX10_addHouse 52 = .ok (.aload_n 0, 1) := by decide +kernel
theorem dX10_addHouse_53 : decode cX10_addHouse 53 = .ok (.getfield 9, 3) := by decide +kernel
theorem dX10_addHouse_56 : decode cX10_addHouse 56 = .ok (.iconst 1, 1) := by decide +kernel
theorem dX10_addHouse_57 : decode cX10_addHouse 57 = .ok (.isub, 1) := by decide +kernel
theorem dX10_addHouse_58 : decode cX10_addHouse 58 = .ok (.ireturn, 1) := by decide +kernel
theorem dX10_addDoor_0 : decode cX10_addDoor 0 = .ok (.aload_n 0, 1) := by decide +kernel
theorem dX10_addDoor_1 : decode cX10_addDoor 1 = .ok (.getfield 15, 3) := by decide +kernel
theorem dX10_addDoor_4 : decode cX10_addDoor 4 = .ok (.bipush 12, 2) := by decide +kernel
theorem dX10_addDoor_6 : decode cX10_addDoor 6 = .ok (.if_icmp .lt 6, 3) := by decide +kernel
theorem dX10_addDoor_9 : decode cX10_addDoor 9 = .ok (.ldc 89, 2) := by decide +kernel
theorem dX10_addDoor_11 : decode cX10_addDoor 11 = .ok (.ireturn, 1) := by decide +kernel
theorem dX10_addDoor_12 : decode cX10_addDoor 12 = .ok (.aload_n 0, 1) := by decide +kernel
theorem dX10_addDoor_13 : decode cX10_addDoor 13 = .ok (.getfield 46, 3) := by decide +kernel
theorem dX10_addDoor_16 : decode cX10_addDoor 16 = .ok (.aload_n 0, 1) := by decide +kernel
theorem dX10_addDoor_17 : decode cX10_addDoor 17 = .ok (.getfield 15, 3) := by decide +kernel
theorem dX10_addDoor_20 : decode cX10_addDoor 20 = .ok (.iload_n 1, 1) := by decide +kernel
theorem dX10_addDoor_21 : decode cX10_addDoor 21 = .ok (.iastore, 1) := by decide +kernel
theorem dX10_addDoor_22 : decode cX10_addDoor 22 = .ok (.aload_n 0, 1) := by decide +kernel
theorem dX10_addDoor_23 : decode cX10_addDoor 23 = .ok (.getfield 49, 3) := by decide +kernel
theorem dX10_addDoor_26 : decode cX10_addDoor 26 = .ok (.aload_n 0, 1) := by decide +kernel
theorem dX10_addDoor_27 : decode cX10_addDoor 27 = .ok (.getfield 15, 3) := by decide +kernel
theorem dX10_addDoor_30 : decode cX10_addDoor 30 = .ok (.iload_n 2, 1) := by decide +kernel
theorem dX10_addDoor_31 : decode cX10_addDoor 31 = .ok (.iastore, 1) := by decide +kernel
theorem dX10_addDoor_32 : decode cX10_addDoor 32 = .ok (.aload_n 0, 1) := by decide +kernel
theorem dX10_addDoor_33 : decode cX10_addDoor 33 = .ok (.getfield 52, 3) := by decide +kernel
theorem dX10_addDoor_36 : decode cX10_addDoor 36 = .ok (.aload_n 0, 1) := by decide +kernel
theorem dX10_addDoor_37 : decode cX10_addDoor 37 = .ok (.getfield 15, 3) := by decide +kernel
theorem dX10_addDoor_40 : decode cX10_addDoor 40 = .ok (.iconst 1, 1) := by decide +kernel
theorem dX10_addDoor_41 : decode cX10_addDoor 41 = .ok (.iastore, 1) := by decide +kernel
theorem dX10_addDoor_42 : decode cX10_addDoor 42 = .ok (.aload_n 0, 1) := by decide +kernel
theorem dX10_addDoor_43 : decode cX10_addDoor 43 = .ok (.getfield 55, 3) := by decide +kernel
theorem dX10_addDoor_46 : decode cX10_addDoor 46 = .ok (.iconst 2, 1) := by decide +kernel
theorem dX10_addDoor_47 : decode cX10_addDoor 47 = .ok (.aload_n 0, 1) := by decide +kernel
theorem dX10_addDoor_48 : decode cX10_addDoor 48 = .ok (.getfield 15, 3) := by decide +kernel
theorem dX10_addDoor_51 : decode cX10_addDoor 51 = .ok (.imul, 1) := by decide +kernel
theorem dX10_addDoor_52 : decode cX10_addDoor 52 = .ok (.ldc 90, 2) := by decide +kernel
theorem dX10_addDoor_54 : decode cX10_addDoor 54 = .ok (.iastore, 1) := by decide +kernel
theorem dX10_addDoor_55 : decode cX10_addDoor 55 = .ok (.aload_n 0, 1) := by decide +kernel
theorem dX10_addDoor_56 : decode cX10_addDoor 56 = .ok (.getfield 55, 3) := by decide +kernel
theorem dX10_addDoor_59 : decode cX10_addDoor 59 = .ok (.iconst 2, 1) := by decide +kernel
theorem dX10_addDoor_60 : decode cX10_addDoor 60 = .ok (.aload_n 0, 1) := by decide +kernel
theorem dX10_addDoor_61 : decode cX10_addDoor 61 = .ok (.getfield 15, 3) := by decide +kernel
theorem dX10_addDoor_64 : decode cX10_addDoor 64 = .ok (.imul, 1) := by decide +kernel
theorem dX10_addDoor_65 : decode cX10_addDoor 65 = .ok (.iconst 1, 1) := by decide +kernel
theorem dX10_addDoor_66 : decode cX10_addDoor 66 = .ok (.iadd, 1) := by decide +kernel
theorem dX10_addDoor_67 : decode cX10_addDoor 67 = .ok (.ldc 90, 2) := by decide +kernel
theorem dX10_addDoor_69 : decode cX10_addDoor 69 = .ok (.iastore, 1) := by decide +kernel
theorem dX10_addDoor_70 : decode cX10_addDoor 70 = .ok (.aload_n 0, 1) := by decide +kernel
theorem dX10_addDoor_71 : decode cX10_addDoor 71 = .ok (.dup, 1) := by decide +kernel
theorem dX10_addDoor_72 : decode cX10_addDoor 72 = .ok (.getfield 15, 3) := by decide +kernel
theorem dX10_addDoor_75 : decode cX10_addDoor 75 = .ok (.iconst 1, 1) := by decide +kernel
theorem dX10_addDoor_76 : decode cX10_addDoor 76 = .ok (.iadd, 1) := by decide +kernel
theorem dX10_addDoor_77 : decode cX10_addDoor 77 = .ok (.putfield 15, 3) := by decide +kernel
theorem dX10_addDoor_80 : decode cX10_addDoor 80 = .ok (.aload_n 0, 1) := by decide +kernel
theorem dX10_addDoor_81 : decode cX10_addDoor 81 = .ok (.getfield 15, 3) := by decide +kernel
theorem dX10_addDoor_84 : decode cX10_addDoor 84 = .ok (.iconst 1, 1) := by decide +kernel
theorem dX10_addDoor_85 : decode cX10_addDoor 85 = .ok (.isub, 1) := by decide +kernel
theorem dX10_addDoor_86 : decode cX10_addDoor 86 = .ok (.ireturn, 1) := by decide +kernel
theorem dX10_draw_0 : decode cX10_draw 0 = .ok (.aload_n 0, 1) := by decide +kernel
theorem dX10_draw_1 : decode cX10_draw 1 = .ok (.aload_n 0, 1) := by decide +kernel
theorem dX10_draw_2 : decode cX10_draw 2 = .ok (.getfield 33, 3) := by decide +kernel
theorem dX10_draw_5 : decode cX10_draw 5 = .ok (.ldc 91, 2) := by decide +kernel
theorem dX10_draw_7 : decode cX10_draw 7 = .ok (.imul, 1) := by decide +kernel
theorem dX10_draw_8 : decode cX10_draw 8 = .ok (.sipush 12345, 3) := by decide +kernel
theorem dX10_draw_11 : decode cX10_draw 11 = .ok (.iadd, 1) := by decide +kernel
theorem dX10_draw_12 : decode cX10_draw 12 = .ok (.putfield 33, 3) := by decide +kernel
theorem dX10_draw_15 : decode cX10_draw 15 = .ok (.aload_n 0, 1) := by decide +kernel
theorem dX10_draw_16 : decode cX10_draw 16 = .ok (.getfield 33, 3) := by decide +kernel
theorem dX10_draw_19 : decode cX10_draw 19 = .ok (.bipush 8, 2) := by decide +kernel
theorem dX10_draw_21 : decode cX10_draw 21 = .ok (.iushr, 1) := by decide +kernel
theorem dX10_draw_22 : decode cX10_draw 22 = .ok (.ireturn, 1) := by decide +kernel
theorem dX10_doAgree_0 : decode cX10_doAgree 0 = .ok (.aload_n 0, 1) := by decide +kernel
theorem dX10_doAgree_1 : decode cX10_doAgree 1 = .ok (.iload_n 1, 1) := by decide +kernel
theorem dX10_doAgree_2 : decode cX10_doAgree 2 = .ok (.invokevirtual 92, 3) := by decide +kernel
theorem dX10_doAgree_5 : decode cX10_doAgree 5 = .ok (.ifCond .eq 28, 3) := by decide +kernel
theorem dX10_doAgree_8 : decode cX10_doAgree 8 = .ok (.aload_n 0, 1) := by decide +kernel
theorem dX10_doAgree_9 : decode cX10_doAgree 9 = .ok (.iload_n 2, 1) := by decide +kernel
theorem dX10_doAgree_10 : decode cX10_doAgree 10 = .ok (.invokevirtual 92, 3) := by decide +kernel
theorem dX10_doAgree_13 : decode cX10_doAgree 13 = .ok (.ifCond .eq 20, 3) := by decide +kernel
theorem dX10_doAgree_16 : decode cX10_doAgree 16 = .ok (.aload_n 0, 1) := by decide +kernel
theorem dX10_doAgree_17 : decode cX10_doAgree 17 = .ok (.getfield 43, 3) := by decide +kernel
theorem dX10_doAgree_20 : decode cX10_doAgree 20 = .ok (.iload_n 1, 1) := by decide +kernel
theorem dX10_doAgree_21 : decode cX10_doAgree 21 = .ok (.iaload, 1) := by decide +kernel
theorem dX10_doAgree_22 : decode cX10_doAgree 22 = .ok (.iload_n 2, 1) := by decide +kernel
theorem dX10_doAgree_23 : decode cX10_doAgree 23 = .ok (.ishr, 1) := by decide +kernel
theorem dX10_doAgree_24 : decode cX10_doAgree 24 = .ok (.iconst 1, 1) := by decide +kernel
theorem dX10_doAgree_25 : decode cX10_doAgree 25 = .ok (.iand, 1) := by decide +kernel
theorem dX10_doAgree_26 : decode cX10_doAgree 26 = .ok (.ifCond .eq 7, 3) := by decide +kernel
theorem dX10_doAgree_29 : decode cX10_doAgree 29 = .ok (.iconst 1, 1) := by decide +kernel
theorem dX10_doAgree_30 : decode cX10_doAgree 30 = .ok (.goto 4, 3) := by decide +kernel
theorem dX10_doAgree_33 : decode cX10_doAgree 33 = .ok (.iconst 0, 1) := by decide +kernel
theorem dX10_doAgree_34 : decode cX10_doAgree 34 = .ok (.ireturn, 1) := by decide +kernel
theorem dX10_load_0 : decode cX10_load 0 = .ok (.iconst 0, 1) := by decide +kernel
theorem dX10_load_1 : decode cX10_load 1 = .ok (.istore_n 3, 1) := by decide +kernel
theorem dX10_load_2 : decode cX10_load 2 = .ok (.iconst 0, 1) := by decide +kernel
theorem dX10_load_3 : decode cX10_load 3 = .ok (.istore 4, 2) := by decide +kernel
theorem dX10_load_5 : decode cX10_load 5 = .ok (.iload 4, 2) := by decide +kernel
theorem dX10_load_7 : decode cX10_load 7 = .ok (.iconst 2, 1) := by decide +kernel
theorem dX10_load_8 : decode cX10_load 8 = .ok (.aload_n 0, 1) := by decide +kernel
theorem dX10_load_9 : decode cX10_load 9 = .ok (.getfield 15, 3) := by decide +kernel
theorem dX10_load_12 : decode cX10_load 12 = .ok (.imul, 1) := by decide +kernel
theorem dX10_load_13 : decode cX10_load 13 = .ok (.if_icmp .ge 31, 3) := by decide +kernel
theorem dX10_load_16 : decode cX10_load 16 = .ok (.aload_n 0, 1) := by decide +kernel
theorem dX10_load_17 : decode cX10_load 17 = .ok (.getfield 55, 3) := by decide +kernel
theorem dX10_load_20 : decode cX10_load 20 = .ok (.iload 4, 2) := by decide +kernel
theorem dX10_load_22 : decode cX10_load 22 = .ok (.iaload, 1) := by decide +kernel
theorem dX10_load_23 : decode cX10_load 23 = .ok (.iload_n 1, 1) := by decide +kernel
theorem dX10_load_24 : decode cX10_load 24 = .ok (.if_icmp .ne 14, 3) := by decide +kernel
theorem dX10_load_27 : decode cX10_load 27 = .ok (.iload 4, 2) := by decide +kernel
theorem dX10_load_29 : decode cX10_load 29 = .ok (.iconst 2, 1) := by decide +kernel
theorem dX10_load_30 : decode cX10_load 30 = .ok (.idiv, 1) := by decide +kernel
theorem dX10_load_31 : decode cX10_load 31 = .ok (.iload_n 2, 1) := by decide +kernel
theorem dX10_load_32 : decode cX10_load 32 = .ok (.if_icmp .eq 6, 3) := by decide +kernel
theorem dX10_load_35 : decode cX10_load 35 = .ok (.iinc 3 1, 3) := by decide +kernel
theorem dX10_load_38 : decode cX10_load 38 = .ok (.iinc 4 1, 3) := by decide +kernel
theorem dX10_load_41 : decode cX10_load 41 = .ok (.goto (-36), 3) := by decide +kernel
theorem dX10_load_44 : decode cX10_load 44 = .ok (.iload_n 3, 1) := by decide +kernel
theorem dX10_load_45 : decode cX10_load 45 = .ok (.ireturn, 1) := by decide +kernel
theorem dX10_hears_0 : decode cX10_hears 0 = .ok (.iconst 0, 1) := by decide +kernel
theorem dX10_hears_1 : decode cX10_hears 1 = .ok (.istore_n 2, 1) := by decide +kernel
theorem dX10_hears_2 : decode cX10_hears 2 = .ok (.iconst 0, 1) := by decide +kernel
theorem dX10_hears_3 : decode cX10_hears 3 = .ok (.istore_n 3, 1) := by decide +kernel
theorem dX10_hears_4 : decode cX10_hears 4 = .ok (.iload_n 3, 1) := by decide +kernel
theorem dX10_hears_5 : decode cX10_hears 5 = .ok (.iconst 2, 1) := by decide +kernel
theorem dX10_hears_6 : decode cX10_hears 6 = .ok (.aload_n 0, 1) := by decide +kernel
theorem dX10_hears_7 : decode cX10_hears 7 = .ok (.getfield 15, 3) := by decide +kernel
theorem dX10_hears_10 : decode cX10_hears 10 = .ok (.imul, 1) := by decide +kernel
theorem dX10_hears_11 : decode cX10_hears 11 = .ok (.if_icmp .ge 30, 3) := by decide +kernel
theorem dX10_hears_14 : decode cX10_hears 14 = .ok (.aload_n 0, 1) := by decide +kernel
theorem dX10_hears_15 : decode cX10_hears 15 = .ok (.getfield 55, 3) := by decide +kernel
theorem dX10_hears_18 : decode cX10_hears 18 = .ok (.iload_n 3, 1) := by decide +kernel
theorem dX10_hears_19 : decode cX10_hears 19 = .ok (.iaload, 1) := by decide +kernel
theorem dX10_hears_20 : decode cX10_hears 20 = .ok (.iload_n 1, 1) := by decide +kernel
theorem dX10_hears_21 : decode cX10_hears 21 = .ok (.if_icmp .ne 14, 3) := by decide +kernel
theorem dX10_hears_24 : decode cX10_hears 24 = .ok (.iload_n 2, 1) := by decide +kernel
theorem dX10_hears_25 : decode cX10_hears 25 = .ok (.aload_n 0, 1) := by decide +kernel
theorem dX10_hears_26 : decode cX10_hears 26 = .ok (.getfield 52, 3) := by decide +kernel
theorem dX10_hears_29 : decode cX10_hears 29 = .ok (.iload_n 3, 1) := by decide +kernel
theorem dX10_hears_30 : decode cX10_hears 30 = .ok (.iconst 2, 1) := by decide +kernel
theorem dX10_hears_31 : decode cX10_hears 31 = .ok (.idiv, 1) := by decide +kernel
theorem dX10_hears_32 : decode cX10_hears 32 = .ok (.iaload, 1) := by decide +kernel
theorem dX10_hears_33 : decode cX10_hears 33 = .ok (.iadd, 1) := by decide +kernel
theorem dX10_hears_34 : decode cX10_hears 34 = .ok (.istore_n 2, 1) := by decide +kernel
theorem dX10_hears_35 : decode cX10_hears 35 = .ok (.iinc 3 1, 3) := by decide +kernel
theorem dX10_hears_38 : decode cX10_hears 38 = .ok (.goto (-34), 3) := by decide +kernel
theorem dX10_hears_41 : decode cX10_hears 41 = .ok (.iload_n 2, 1) := by decide +kernel
theorem dX10_hears_42 : decode cX10_hears 42 = .ok (.ireturn, 1) := by decide +kernel
theorem dX10_rings_0 : decode cX10_rings 0 = .ok (.iconst 0, 1) := by decide +kernel
theorem dX10_rings_1 : decode cX10_rings 1 = .ok (.istore_n 2, 1) := by decide +kernel
theorem dX10_rings_2 : decode cX10_rings 2 = .ok (.iconst 0, 1) := by decide +kernel
theorem dX10_rings_3 : decode cX10_rings 3 = .ok (.istore_n 3, 1) := by decide +kernel
theorem dX10_rings_4 : decode cX10_rings 4 = .ok (.iload_n 3, 1) := by decide +kernel
theorem dX10_rings_5 : decode cX10_rings 5 = .ok (.iconst 2, 1) := by decide +kernel
theorem dX10_rings_6 : decode cX10_rings 6 = .ok (.if_icmp .ge 45, 3) := by decide +kernel
theorem dX10_rings_9 : decode cX10_rings 9 = .ok (.aload_n 0, 1) := by decide +kernel
theorem dX10_rings_10 : decode cX10_rings 10 = .ok (.iload_n 1, 1) := by decide +kernel
theorem dX10_rings_11 : decode cX10_rings 11 = .ok (.invokevirtual 96, 3) := by decide +kernel
theorem dX10_rings_14 : decode cX10_rings 14 = .ok (.ifCond .eq 37, 3) := by decide +kernel
theorem dX10_rings_17 : decode cX10_rings 17 = .ok (.aload_n 0, 1) := by decide +kernel
theorem dX10_rings_18 : decode cX10_rings 18 = .ok (.getfield 55, 3) := by decide +kernel
theorem dX10_rings_21 : decode cX10_rings 21 = .ok (.iconst 2, 1) := by decide +kernel
theorem dX10_rings_22 : decode cX10_rings 22 = .ok (.iload_n 1, 1) := by decide +kernel
theorem dX10_rings_23 : decode cX10_rings 23 = .ok (.imul, 1) := by decide +kernel
theorem dX10_rings_24 : decode cX10_rings 24 = .ok (.iload_n 3, 1) := by decide +kernel
theorem dX10_rings_25 : decode cX10_rings 25 = .ok (.iadd, 1) := by decide +kernel
theorem dX10_rings_26 : decode cX10_rings 26 = .ok (.iaload, 1) := by decide +kernel
theorem dX10_rings_27 : decode cX10_rings 27 = .ok (.istore 4, 2) := by decide +kernel
theorem dX10_rings_29 : decode cX10_rings 29 = .ok (.aload_n 0, 1) := by decide +kernel
theorem dX10_rings_30 : decode cX10_rings 30 = .ok (.iload 4, 2) := by decide +kernel
theorem dX10_rings_32 : decode cX10_rings 32 = .ok (.invokevirtual 92, 3) := by decide +kernel
theorem dX10_rings_35 : decode cX10_rings 35 = .ok (.ifCond .eq 10, 3) := by decide +kernel
theorem dX10_rings_38 : decode cX10_rings 38 = .ok (.iload_n 2, 1) := by decide +kernel
theorem dX10_rings_39 : decode cX10_rings 39 = .ok (.iconst 1, 1) := by decide +kernel
theorem dX10_rings_40 : decode cX10_rings 40 = .ok (.iload 4, 2) := by decide +kernel
theorem dX10_rings_42 : decode cX10_rings 42 = .ok (.ishl, 1) := by decide +kernel
theorem dX10_rings_43 : decode cX10_rings 43 = .ok (.ior, 1) := by decide +kernel
theorem dX10_rings_44 : decode cX10_rings 44 = .ok (.istore_n 2, 1) := by decide +kernel
theorem dX10_rings_45 : decode cX10_rings 45 = .ok (.iinc 3 1, 3) := by decide +kernel
theorem dX10_rings_48 : decode cX10_rings 48 = .ok (.goto (-44), 3) := by decide +kernel
theorem dX10_rings_51 : decode cX10_rings 51 = .ok (.iload_n 2, 1) := by decide +kernel
theorem dX10_rings_52 : decode cX10_rings 52 = .ok (.ireturn, 1) := by decide +kernel
theorem dX10_lastOf_0 : decode cX10_lastOf 0 = .ok (.aload_n 0, 1) := by decide +kernel
theorem dX10_lastOf_1 : decode cX10_lastOf 1 = .ok (.getfield 21, 3) := by decide +kernel
theorem dX10_lastOf_4 : decode cX10_lastOf 4 = .ok (.iconst 1, 1) := by decide +kernel
theorem dX10_lastOf_5 : decode cX10_lastOf 5 = .ok (.isub, 1) := by decide +kernel
theorem dX10_lastOf_6 : decode cX10_lastOf 6 = .ok (.istore_n 2, 1) := by decide +kernel
theorem dX10_lastOf_7 : decode cX10_lastOf 7 = .ok (.iload_n 2, 1) := by decide +kernel
theorem dX10_lastOf_8 : decode cX10_lastOf 8 = .ok (.ifCond .lt 30, 3) := by decide +kernel
theorem dX10_lastOf_11 : decode cX10_lastOf 11 = .ok (.aload_n 0, 1) := by decide +kernel
theorem dX10_lastOf_12 : decode cX10_lastOf 12 = .ok (.getfield 66, 3) := by decide +kernel
theorem dX10_lastOf_15 : decode cX10_lastOf 15 = .ok (.iload_n 2, 1) := by decide +kernel
theorem dX10_lastOf_16 : decode cX10_lastOf 16 = .ok (.aaload, 1) := by decide +kernel
theorem dX10_lastOf_17 : decode cX10_lastOf 17 = .ok (.astore_n 3, 1) := by decide +kernel
theorem dX10_lastOf_18 : decode cX10_lastOf 18 = .ok (.aload_n 3, 1) := by decide +kernel
theorem dX10_lastOf_19 : decode cX10_lastOf 19 = .ok (.ifnull 13, 3) := by decide +kernel
theorem dX10_lastOf_22 : decode cX10_lastOf 22 = .ok (.aload_n 3, 1) := by decide +kernel
theorem dX10_lastOf_23 : decode cX10_lastOf 23 = .ok (.getfield 99, 3) := by decide +kernel
theorem dX10_lastOf_26 : decode cX10_lastOf 26 = .ok (.iload_n 1, 1) := by decide +kernel
theorem dX10_lastOf_27 : decode cX10_lastOf 27 = .ok (.if_icmp .ne 5, 3) := by decide +kernel
theorem dX10_lastOf_30 : decode cX10_lastOf 30 = .ok (.iload_n 2, 1) := by decide +kernel
theorem dX10_lastOf_31 : decode cX10_lastOf 31 = .ok (.ireturn, 1) := by decide +kernel
theorem dX10_lastOf_32 : decode cX10_lastOf 32 = .ok (.iinc 2 (-1), 3) := by decide +kernel
theorem dX10_lastOf_35 : decode cX10_lastOf 35 = .ok (.goto (-28), 3) := by decide +kernel
theorem dX10_lastOf_38 : decode cX10_lastOf 38 = .ok (.ldc 90, 2) := by decide +kernel
theorem dX10_lastOf_40 : decode cX10_lastOf 40 = .ok (.ireturn, 1) := by decide +kernel
theorem dX10_comesNow_0 : decode cX10_comesNow 0 = .ok (.aload_n 0, 1) := by decide +kernel
theorem dX10_comesNow_1 : decode cX10_comesNow 1 = .ok (.iload_n 1, 1) := by decide +kernel
theorem dX10_comesNow_2 : decode cX10_comesNow 2 = .ok (.invokevirtual 92, 3) := by decide +kernel
theorem dX10_comesNow_5 : decode cX10_comesNow 5 = .ok (.ifCond .ne 5, 3) := by decide +kernel
theorem dX10_comesNow_8 : decode cX10_comesNow 8 = .ok (.iconst 0, 1) := by decide +kernel
theorem dX10_comesNow_9 : decode cX10_comesNow 9 = .ok (.ireturn, 1) := by decide +kernel
theorem dX10_comesNow_10 : decode cX10_comesNow 10 = .ok (.aload_n 0, 1) := by decide +kernel
theorem dX10_comesNow_11 : decode cX10_comesNow 11 = .ok (.aload_n 0, 1) := by decide +kernel
theorem dX10_comesNow_12 : decode cX10_comesNow 12 = .ok (.iconst 0, 1) := by decide +kernel
theorem dX10_comesNow_13 : decode cX10_comesNow 13 = .ok (.invokevirtual 102, 3) := by decide +kernel
theorem dX10_comesNow_16 : decode cX10_comesNow 16 = .ok (.invokevirtual 106, 3) := by decide +kernel
theorem dX10_comesNow_19 : decode cX10_comesNow 19 = .ok (.astore_n 2, 1) := by decide +kernel
theorem dX10_comesNow_20 : decode cX10_comesNow 20 = .ok (.aload_n 0, 1) := by decide +kernel
theorem dX10_comesNow_21 : decode cX10_comesNow 21 = .ok (.iload_n 1, 1) := by decide +kernel
theorem dX10_comesNow_22 : decode cX10_comesNow 22 = .ok (.ldc 90, 2) := by decide +kernel
theorem dX10_comesNow_24 : decode cX10_comesNow 24 = .ok (.invokevirtual 110, 3) := by decide +kernel
theorem dX10_comesNow_27 : decode cX10_comesNow 27 = .ok (.istore_n 3, 1) := by decide +kernel
theorem dX10_comesNow_28 : decode cX10_comesNow 28 = .ok (.aload_n 2, 1) := by decide +kernel
theorem dX10_comesNow_29 : decode cX10_comesNow 29 = .ok (.ifnull 31, 3) := by decide +kernel
theorem dX10_comesNow_32 : decode cX10_comesNow 32 = .ok (.aload_n 2, 1) := by decide +kernel
theorem dX10_comesNow_33 : decode cX10_comesNow 33 = .ok (.aload_n 0, 1) := by decide +kernel
theorem dX10_comesNow_34 : decode cX10_comesNow 34 = .ok (.getfield 36, 3) := by decide +kernel
theorem dX10_comesNow_37 : decode cX10_comesNow 37 = .ok (.iload_n 1, 1) := by decide +kernel
theorem dX10_comesNow_38 : decode cX10_comesNow 38 = .ok (.iaload, 1) := by decide +kernel
theorem dX10_comesNow_39 : decode cX10_comesNow 39 = .ok (.aload_n 0, 1) := by decide +kernel
theorem dX10_comesNow_40 : decode cX10_comesNow 40 = .ok (.getfield 40, 3) := by decide +kernel
theorem dX10_comesNow_43 : decode cX10_comesNow 43 = .ok (.iload_n 1, 1) := by decide +kernel
theorem dX10_comesNow_44 : decode cX10_comesNow 44 = .ok (.iaload, 1) := by decide +kernel
theorem dX10_comesNow_45 : decode cX10_comesNow 45 = .ok (.iload_n 3, 1) := by decide +kernel
theorem dX10_comesNow_46 : decode cX10_comesNow 46 = .ok (.aload_n 0, 1) := by decide +kernel
theorem dX10_comesNow_47 : decode cX10_comesNow 47 = .ok (.getfield 24, 3) := by decide +kernel
theorem dX10_comesNow_50 : decode cX10_comesNow 50 = .ok (.invokevirtual 114, 3) := by decide +kernel
theorem dX10_comesNow_53 : decode cX10_comesNow 53 = .ok (.iconst 0, 1) := by decide +kernel
theorem dX10_comesNow_54 : decode cX10_comesNow 54 = .ok (.bipush 100, 2) := by decide +kernel
theorem dX10_comesNow_56 : decode cX10_comesNow 56 = .ok (.invokestatic 118, 3) := by decide +kernel
theorem dX10_comesNow_59 : decode cX10_comesNow 59 = .ok (.ireturn, 1) := by decide +kernel
theorem dX10_comesNow_60 : decode cX10_comesNow 60 = .ok (.bipush 10, 2) := by decide +kernel
theorem dX10_comesNow_62 : decode cX10_comesNow 62 = .ok (.iconst 0, 1) := by decide +kernel
theorem dX10_comesNow_63 : decode cX10_comesNow 63 = .ok (.iload_n 3, 1) := by decide +kernel
theorem dX10_comesNow_64 : decode cX10_comesNow 64 = .ok (.aload_n 0, 1) := by decide +kernel
theorem dX10_comesNow_65 : decode cX10_comesNow 65 = .ok (.getfield 24, 3) := by decide +kernel
theorem dX10_comesNow_68 : decode cX10_comesNow 68 = .ok (.isub, 1) := by decide +kernel
theorem dX10_comesNow_69 : decode cX10_comesNow 69 = .ok (.invokestatic 122, 3) := by decide +kernel
theorem dX10_comesNow_72 : decode cX10_comesNow 72 = .ok (.imul, 1) := by decide +kernel
theorem dX10_comesNow_73 : decode cX10_comesNow 73 = .ok (.istore 4, 2) := by decide +kernel
theorem dX10_comesNow_75 : decode cX10_comesNow 75 = .ok (.aload_n 0, 1) := by decide +kernel
theorem dX10_comesNow_76 : decode cX10_comesNow 76 = .ok (.getfield 36, 3) := by decide +kernel
theorem dX10_comesNow_79 : decode cX10_comesNow 79 = .ok (.iload_n 1, 1) := by decide +kernel
theorem dX10_comesNow_80 : decode cX10_comesNow 80 = .ok (.iaload, 1) := by decide +kernel
theorem dX10_comesNow_81 : decode cX10_comesNow 81 = .ok (.aload_n 0, 1) := by decide +kernel
theorem dX10_comesNow_82 : decode cX10_comesNow 82 = .ok (.getfield 40, 3) := by decide +kernel
theorem dX10_comesNow_85 : decode cX10_comesNow 85 = .ok (.iload_n 1, 1) := by decide +kernel
theorem dX10_comesNow_86 : decode cX10_comesNow 86 = .ok (.iaload, 1) := by decide +kernel
theorem dX10_comesNow_87 : decode cX10_comesNow 87 = .ok (.imul, 1) := by decide +kernel
theorem dX10_comesNow_88 : decode cX10_comesNow 88 = .ok (.bipush 100, 2) := by decide +kernel
theorem dX10_comesNow_90 : decode cX10_comesNow 90 = .ok (.idiv, 1) := by decide +kernel
theorem dX10_comesNow_91 : decode cX10_comesNow 91 = .ok (.iload 4, 2) := by decide +kernel
theorem dX10_comesNow_93 : decode cX10_comesNow 93 = .ok (.isub, 1) := by decide +kernel
theorem dX10_comesNow_94 : decode cX10_comesNow 94 = .ok (.iconst 0, 1) := by decide +kernel
theorem dX10_comesNow_95 : decode cX10_comesNow 95 = .ok (.bipush 100, 2) := by decide +kernel
theorem dX10_comesNow_97 : decode cX10_comesNow 97 = .ok (.invokestatic 118, 3) := by decide +kernel
theorem dX10_comesNow_100 : decode cX10_comesNow 100 = .ok (.ireturn, 1) := by decide +kernel
theorem dX10_listen_0 : decode cX10_listen 0 = .ok (.iconst 0, 1) := by decide +kernel
theorem dX10_listen_1 : decode cX10_listen 1 = .ok (.istore_n 1, 1) := by decide +kernel
theorem dX10_listen_2 : decode cX10_listen 2 = .ok (.iload_n 1, 1) := by decide +kernel
theorem dX10_listen_3 : decode cX10_listen 3 = .ok (.aload_n 0, 1) := by decide +kernel
theorem dX10_listen_4 : decode cX10_listen 4 = .ok (.getfield 9, 3) := by decide +kernel
theorem dX10_listen_7 : decode cX10_listen 7 = .ok (.if_icmp .ge 20, 3) := by decide +kernel
theorem dX10_listen_10 : decode cX10_listen 10 = .ok (.aload_n 0, 1) := by decide +kernel
theorem dX10_listen_11 : decode cX10_listen 11 = .ok (.getfield 70, 3) := by decide +kernel
theorem dX10_listen_14 : decode cX10_listen 14 = .ok (.iload_n 1, 1) := by decide +kernel
theorem dX10_listen_15 : decode cX10_listen 15 = .ok (.aload_n 0, 1) := by decide +kernel
theorem dX10_listen_16 : decode cX10_listen 16 = .ok (.iload_n 1, 1) := by decide +kernel
theorem dX10_listen_17 : decode cX10_listen 17 = .ok (.invokevirtual 127, 3) := by decide +kernel
theorem dX10_listen_20 : decode cX10_listen 20 = .ok (.iastore, 1) := by decide +kernel
theorem dX10_listen_21 : decode cX10_listen 21 = .ok (.iinc 1 1, 3) := by decide +kernel
theorem dX10_listen_24 : decode cX10_listen 24 = .ok (.goto (-22), 3) := by decide +kernel
theorem dX10_listen_27 : decode cX10_listen 27 = .ok (.return_, 1) := by decide +kernel
theorem dX10_missedBy_0 : decode cX10_missedBy 0 = .ok (.iconst 1, 1) := by decide +kernel
theorem dX10_missedBy_1 : decode cX10_missedBy 1 = .ok (.istore_n 3, 1) := by decide +kernel
theorem dX10_missedBy_2 : decode cX10_missedBy 2 = .ok (.iconst 0, 1) := by decide +kernel
theorem dX10_missedBy_3 : decode cX10_missedBy 3 = .ok (.istore 4, 2) := by decide +kernel
theorem dX10_missedBy_5 : decode cX10_missedBy 5 = .ok (.iload 4, 2) := by decide +kernel
theorem dX10_missedBy_7 : decode cX10_missedBy 7 = .ok (.iconst 2, 1) := by decide +kernel
theorem dX10_missedBy_8 : decode cX10_missedBy 8 = .ok (.if_icmp .ge 64, 3) := by decide +kernel
theorem dX10_missedBy_11 : decode cX10_missedBy 11 = .ok (.aload_n 0, 1) := by decide +kernel
theorem dX10_missedBy_12 : decode cX10_missedBy 12 = .ok (.iload_n 2, 1) := by decide +kernel
theorem dX10_missedBy_13 : decode cX10_missedBy 13 = .ok (.invokevirtual 96, 3) := by decide +kernel
theorem dX10_missedBy_16 : decode cX10_missedBy 16 = .ok (.ifCond .eq 56, 3) := by decide +kernel
theorem dX10_missedBy_19 : decode cX10_missedBy 19 = .ok (.aload_n 0, 1) := by decide +kernel
theorem dX10_missedBy_20 : decode cX10_missedBy 20 = .ok (.getfield 55, 3) := by decide +kernel
theorem dX10_missedBy_23 : decode cX10_missedBy 23 = .ok (.iconst 2, 1) := by decide +kernel
theorem dX10_missedBy_24 : decode cX10_missedBy 24 = .ok (.iload_n 2, 1) := by decide +kernel
theorem dX10_missedBy_25 : decode cX10_missedBy 25 = .ok (.imul, 1) := by decide +kernel
theorem dX10_missedBy_26 : decode cX10_missedBy 26 = .ok (.iload 4, 2) := by decide +kernel
theorem dX10_missedBy_28 : decode cX10_missedBy 28 = .ok (.iadd, 1) := by decide +kernel
theorem dX10_missedBy_29 : decode cX10_missedBy 29 = .ok (.iaload, 1) := by decide +kernel
theorem dX10_missedBy_30 : decode cX10_missedBy 30 = .ok (.istore 5, 2) := by decide +kernel
theorem dX10_missedBy_32 : decode cX10_missedBy 32 = .ok (.iload_n 3, 1) := by decide +kernel
theorem dX10_missedBy_33 : decode cX10_missedBy 33 = .ok (.aload_n 0, 1) := by decide +kernel
theorem dX10_missedBy_34 : decode cX10_missedBy 34 = .ok (.iload 5, 2) := by decide +kernel
theorem dX10_missedBy_36 : decode cX10_missedBy 36 = .ok (.invokevirtual 92, 3) := by decide +kernel
theorem dX10_missedBy_39 : decode cX10_missedBy 39 = .ok (.ifCond .eq 23, 3) := by decide +kernel
theorem dX10_missedBy_42 : decode cX10_missedBy 42 = .ok (.bipush 100, 2) := by decide +kernel
theorem dX10_missedBy_44 : decode cX10_missedBy 44 = .ok (.aload_n 1, 1) := by decide +kernel
theorem dX10_missedBy_45 : decode cX10_missedBy 45 = .ok (.aload_n 0, 1) := by decide +kernel
theorem dX10_missedBy_46 : decode cX10_missedBy 46 = .ok (.iload 5, 2) := by decide +kernel
theorem dX10_missedBy_48 : decode cX10_missedBy 48 = .ok (.aload_n 0, 1) := by decide +kernel
theorem dX10_missedBy_49 : decode cX10_missedBy 49 = .ok (.getfield 70, 3) := by decide +kernel
theorem dX10_missedBy_52 : decode cX10_missedBy 52 = .ok (.iload 5, 2) := by decide +kernel
theorem dX10_missedBy_54 : decode cX10_missedBy 54 = .ok (.iaload, 1) := by decide +kernel
theorem dX10_missedBy_55 : decode cX10_missedBy 55 = .ok (.invokevirtual 130, 3) := by decide +kernel
theorem dX10_missedBy_58 : decode cX10_missedBy 58 = .ok (.isub, 1) := by decide +kernel
theorem dX10_missedBy_59 : decode cX10_missedBy 59 = .ok (.goto 5, 3) := by decide +kernel
theorem dX10_missedBy_62 : decode cX10_missedBy 62 = .ok (.bipush 100, 2) := by decide +kernel
theorem dX10_missedBy_64 : decode cX10_missedBy 64 = .ok (.imul, 1) := by decide +kernel
theorem dX10_missedBy_65 : decode cX10_missedBy 65 = .ok (.istore_n 3, 1) := by decide +kernel
theorem dX10_missedBy_66 : decode cX10_missedBy 66 = .ok (.iinc 4 1, 3) := by decide +kernel
theorem dX10_missedBy_69 : decode cX10_missedBy 69 = .ok (.goto (-64), 3) := by decide +kernel
theorem dX10_missedBy_72 : decode cX10_missedBy 72 = .ok (.iload_n 3, 1) := by decide +kernel
theorem dX10_missedBy_73 : decode cX10_missedBy 73 = .ok (.ireturn, 1) := by decide +kernel
theorem dX10_gainOf_0 : decode cX10_gainOf 0 = .ok (.aload_n 0, 1) := by decide +kernel
theorem dX10_gainOf_1 : decode cX10_gainOf 1 = .ok (.iload_n 1, 1) := by decide +kernel
theorem dX10_gainOf_2 : decode cX10_gainOf 2 = .ok (.invokevirtual 96, 3) := by decide +kernel
theorem dX10_gainOf_5 : decode cX10_gainOf 5 = .ok (.ifCond .ne 5, 3) := by decide +kernel
theorem dX10_gainOf_8 : decode cX10_gainOf 8 = .ok (.iconst 0, 1) := by decide +kernel
theorem dX10_gainOf_9 : decode cX10_gainOf 9 = .ok (.ireturn, 1) := by decide +kernel
theorem dX10_gainOf_10 : decode cX10_gainOf 10 = .ok (.aload_n 0, 1) := by decide +kernel
theorem dX10_gainOf_11 : decode cX10_gainOf 11 = .ok (.aload_n 0, 1) := by decide +kernel
theorem dX10_gainOf_12 : decode cX10_gainOf 12 = .ok (.iconst 1, 1) := by decide +kernel
theorem dX10_gainOf_13 : decode cX10_gainOf 13 = .ok (.invokevirtual 102, 3) := by decide +kernel
theorem dX10_gainOf_16 : decode cX10_gainOf 16 = .ok (.invokevirtual 106, 3) := by decide +kernel
theorem dX10_gainOf_19 : decode cX10_gainOf 19 = .ok (.astore_n 3, 1) := by decide +kernel
theorem dX10_gainOf_20 : decode cX10_gainOf 20 = .ok (.aload_n 3, 1) := by decide +kernel
theorem dX10_gainOf_21 : decode cX10_gainOf 21 = .ok (.ifnonnull 18, 3) := by decide +kernel
theorem dX10_gainOf_24 : decode cX10_gainOf 24 = .ok (.aload_n 0, 1) := by decide +kernel
theorem dX10_gainOf_25 : decode cX10_gainOf 25 = .ok (.getfield 49, 3) := by decide +kernel
theorem dX10_gainOf_28 : decode cX10_gainOf 28 = .ok (.iload_n 1, 1) := by decide +kernel
theorem dX10_gainOf_29 : decode cX10_gainOf 29 = .ok (.iaload, 1) := by decide +kernel
theorem dX10_gainOf_30 : decode cX10_gainOf 30 = .ok (.iload_n 2, 1) := by decide +kernel
theorem dX10_gainOf_31 : decode cX10_gainOf 31 = .ok (.imul, 1) := by decide +kernel
theorem dX10_gainOf_32 : decode cX10_gainOf 32 = .ok (.sipush 10000, 3) := by decide +kernel
theorem dX10_gainOf_35 : decode cX10_gainOf 35 = .ok (.idiv, 1) := by decide +kernel
theorem dX10_gainOf_36 : decode cX10_gainOf 36 = .ok (.goto 16, 3) := by decide +kernel
theorem dX10_gainOf_39 : decode cX10_gainOf 39 = .ok (.aload_n 3, 1) := by decide +kernel
theorem dX10_gainOf_40 : decode cX10_gainOf 40 = .ok (.aload_n 0, 1) := by decide +kernel
theorem dX10_gainOf_41 : decode cX10_gainOf 41 = .ok (.getfield 49, 3) := by decide +kernel
theorem dX10_gainOf_44 : decode cX10_gainOf 44 = .ok (.iload_n 1, 1) := by decide +kernel
theorem dX10_gainOf_45 : decode cX10_gainOf 45 = .ok (.iaload, 1) := by decide +kernel
theorem dX10_gainOf_46 : decode cX10_gainOf 46 = .ok (.iload_n 2, 1) := by decide +kernel
theorem dX10_gainOf_47 : decode cX10_gainOf 47 = .ok (.iconst 0, 1) := by decide +kernel
theorem dX10_gainOf_48 : decode cX10_gainOf 48 = .ok (.iconst 0, 1) := by decide +kernel
theorem dX10_gainOf_49 : decode cX10_gainOf 49 = .ok (.invokevirtual 114, 3) := by decide +kernel
theorem dX10_gainOf_52 : decode cX10_gainOf 52 = .ok (.istore 4, 2) := by decide +kernel
theorem dX10_gainOf_54 : decode cX10_gainOf 54 = .ok (.iload 4, 2) := by decide +kernel
theorem dX10_gainOf_56 : decode cX10_gainOf 56 = .ok (.iconst 0, 1) := by decide +kernel
theorem dX10_gainOf_57 : decode cX10_gainOf 57 = .ok (.ldc 134, 2) := by decide +kernel
theorem dX10_gainOf_59 : decode cX10_gainOf 59 = .ok (.invokestatic 118, 3) := by decide +kernel
theorem dX10_gainOf_62 : decode cX10_gainOf 62 = .ok (.ireturn, 1) := by decide +kernel
theorem dX10_weigh_0 : decode cX10_weigh 0 = .ok (.aload_n 0, 1) := by decide +kernel
theorem dX10_weigh_1 : decode cX10_weigh 1 = .ok (.invokevirtual 135, 3) := by decide +kernel
theorem dX10_weigh_4 : decode cX10_weigh 4 = .ok (.iconst 0, 1) := by decide +kernel
theorem dX10_weigh_5 : decode cX10_weigh 5 = .ok (.istore_n 1, 1) := by decide +kernel
theorem dX10_weigh_6 : decode cX10_weigh 6 = .ok (.iload_n 1, 1) := by decide +kernel
theorem dX10_weigh_7 : decode cX10_weigh 7 = .ok (.aload_n 0, 1) := by decide +kernel
theorem dX10_weigh_8 : decode cX10_weigh 8 = .ok (.getfield 18, 3) := by decide +kernel
theorem dX10_weigh_11 : decode cX10_weigh 11 = .ok (.if_icmp .ge 75, 3) := by decide +kernel
theorem dX10_weigh_14 : decode cX10_weigh 14 = .ok (.aload_n 0, 1) := by decide +kernel
theorem dX10_weigh_15 : decode cX10_weigh 15 = .ok (.getfield 60, 3) := by decide +kernel
theorem dX10_weigh_18 : decode cX10_weigh 18 = .ok (.iload_n 1, 1) := by decide +kernel
theorem dX10_weigh_19 : decode cX10_weigh 19 = .ok (.aaload, 1) := by decide +kernel
theorem dX10_weigh_20 : decode cX10_weigh 20 = .ok (.astore_n 2, 1) := by decide +kernel
theorem dX10_weigh_21 : decode cX10_weigh 21 = .ok (.iconst 0, 1) := by decide +kernel
theorem dX10_weigh_22 : decode cX10_weigh 22 = .ok (.istore_n 3, 1) := by decide +kernel
theorem dX10_weigh_23 : decode cX10_weigh 23 = .ok (.iload_n 3, 1) := by decide +kernel
theorem dX10_weigh_24 : decode cX10_weigh 24 = .ok (.aload_n 0, 1) := by decide +kernel
theorem dX10_weigh_25 : decode cX10_weigh 25 = .ok (.getfield 15, 3) := by decide +kernel
theorem dX10_weigh_28 : decode cX10_weigh 28 = .ok (.if_icmp .ge 52, 3) := by decide +kernel
theorem dX10_weigh_31 : decode cX10_weigh 31 = .ok (.aload_n 2, 1) := by decide +kernel
theorem dX10_weigh_32 : decode cX10_weigh 32 = .ok (.ifnull 48, 3) := by decide +kernel
theorem dX10_weigh_35 : decode cX10_weigh 35 = .ok (.aload_n 0, 1) := by decide +kernel
theorem dX10_weigh_36 : decode cX10_weigh 36 = .ok (.aload_n 2, 1) := by decide +kernel
theorem dX10_weigh_37 : decode cX10_weigh 37 = .ok (.iload_n 3, 1) := by decide +kernel
theorem dX10_weigh_38 : decode cX10_weigh 38 = .ok (.invokevirtual 138, 3) := by decide +kernel
theorem dX10_weigh_41 : decode cX10_weigh 41 = .ok (.istore 4, 2) := by decide +kernel
theorem dX10_weigh_43 : decode cX10_weigh 43 = .ok (.aload_n 0, 1) := by decide +kernel
theorem dX10_weigh_44 : decode cX10_weigh 44 = .ok (.getfield 73, 3) := by decide +kernel
theorem dX10_weigh_47 : decode cX10_weigh 47 = .ok (.iload_n 1, 1) := by decide +kernel
theorem dX10_weigh_48 : decode cX10_weigh 48 = .ok (.bipush 12, 2) := by decide +kernel
theorem dX10_weigh_50 : decode cX10_weigh 50 = .ok (.imul, 1) := by decide +kernel
theorem dX10_weigh_51 : decode cX10_weigh 51 = .ok (.iload_n 3, 1) := by decide +kernel
theorem dX10_weigh_52 : decode cX10_weigh 52 = .ok (.iadd, 1) := by decide +kernel
theorem dX10_weigh_53 : decode cX10_weigh 53 = .ok (.iload 4, 2) := by decide +kernel
theorem dX10_weigh_55 : decode cX10_weigh 55 = .ok (.iastore, 1) := by decide +kernel
theorem dX10_weigh_56 : decode cX10_weigh 56 = .ok (.aload_n 0, 1) := by decide +kernel
theorem dX10_weigh_57 : decode cX10_weigh 57 = .ok (.getfield 76, 3) := by decide +kernel
theorem dX10_weigh_60 : decode cX10_weigh 60 = .ok (.iload_n 1, 1) := by decide +kernel
theorem dX10_weigh_61 : decode cX10_weigh 61 = .ok (.bipush 12, 2) := by decide +kernel
theorem dX10_weigh_63 : decode cX10_weigh 63 = .ok (.imul, 1) := by decide +kernel
theorem dX10_weigh_64 : decode cX10_weigh 64 = .ok (.iload_n 3, 1) := by decide +kernel
theorem dX10_weigh_65 : decode cX10_weigh 65 = .ok (.iadd, 1) := by decide +kernel
theorem dX10_weigh_66 : decode cX10_weigh 66 = .ok (.aload_n 0, 1) := by decide +kernel
theorem dX10_weigh_67 : decode cX10_weigh 67 = .ok (.iload_n 3, 1) := by decide +kernel
theorem dX10_weigh_68 : decode cX10_weigh 68 = .ok (.iload 4, 2) := by decide +kernel
theorem dX10_weigh_70 : decode cX10_weigh 70 = .ok (.invokevirtual 142, 3) := by decide +kernel
theorem dX10_weigh_73 : decode cX10_weigh 73 = .ok (.iastore, 1) := by decide +kernel
theorem dX10_weigh_74 : decode cX10_weigh 74 = .ok (.iinc 3 1, 3) := by decide +kernel
theorem dX10_weigh_77 : decode cX10_weigh 77 = .ok (.goto (-54), 3) := by decide +kernel
theorem dX10_weigh_80 : decode cX10_weigh 80 = .ok (.iinc 1 1, 3) := by decide +kernel
theorem dX10_weigh_83 : decode cX10_weigh 83 = .ok (.goto (-77), 3) := by decide +kernel
theorem dX10_weigh_86 : decode cX10_weigh 86 = .ok (.return_, 1) := by decide +kernel
theorem dX10_greatest_0 : decode cX10_greatest 0 = .ok (.ldc 90, 2) := by decide +kernel
theorem dX10_greatest_2 : decode cX10_greatest 2 = .ok (.istore 4, 2) := by decide +kernel
theorem dX10_greatest_4 : decode cX10_greatest 4 = .ok (.iload_n 3, 1) := by decide +kernel
theorem dX10_greatest_5 : decode cX10_greatest 5 = .ok (.ifCond .lt 14, 3) := by decide +kernel
theorem dX10_greatest_8 : decode cX10_greatest 8 = .ok (.iload_n 3, 1) := by decide +kernel
theorem dX10_greatest_9 : decode cX10_greatest 9 = .ok (.aload_n 2, 1) := by decide +kernel
theorem dX10_greatest_10 : decode cX10_greatest 10 = .ok (.arraylength, 1) := by decide +kernel
theorem dX10_greatest_11 : decode cX10_greatest 11 = .ok (.aload_n 0, 1) := by decide +kernel
theorem dX10_greatest_12 : decode cX10_greatest 12 = .ok (.getfield 15, 3) := by decide +kernel
theorem dX10_greatest_15 : decode cX10_greatest 15 = .ok (.isub, 1) := by decide +kernel
theorem dX10_greatest_16 : decode cX10_greatest 16 = .ok (.if_icmp .le 6, 3) := by decide +kernel
theorem dX10_greatest_19 : decode cX10_greatest 19 = .ok (.iload 4, 2) := by decide +kernel
theorem dX10_greatest_21 : decode cX10_greatest 21 = .ok (.ireturn, 1) := by decide +kernel
theorem dX10_greatest_22 : decode cX10_greatest 22 = .ok (.iconst 0, 1) := by decide +kernel
theorem dX10_greatest_23 : decode cX10_greatest 23 = .ok (.istore 5, 2) := by decide +kernel
theorem dX10_greatest_25 : decode cX10_greatest 25 = .ok (.iload 5, 2) := by decide +kernel
theorem dX10_greatest_27 : decode cX10_greatest 27 = .ok (.aload_n 0, 1) := by decide +kernel
theorem dX10_greatest_28 : decode cX10_greatest 28 = .ok (.getfield 15, 3) := by decide +kernel
theorem dX10_greatest_31 : decode cX10_greatest 31 = .ok (.if_icmp .ge 46, 3) := by decide +kernel
theorem dX10_greatest_34 : decode cX10_greatest 34 = .ok (.aload_n 0, 1) := by decide +kernel
theorem dX10_greatest_35 : decode cX10_greatest 35 = .ok (.getfield 46, 3) := by decide +kernel
theorem dX10_greatest_38 : decode cX10_greatest 38 = .ok (.iload 5, 2) := by decide +kernel
theorem dX10_greatest_40 : decode cX10_greatest 40 = .ok (.iaload, 1) := by decide +kernel
theorem dX10_greatest_41 : decode cX10_greatest 41 = .ok (.iload_n 1, 1) := by decide +kernel
theorem dX10_greatest_42 : decode cX10_greatest 42 = .ok (.if_icmp .eq 29, 3) := by decide +kernel
theorem dX10_greatest_45 : decode cX10_greatest 45 = .ok (.iload 4, 2) := by decide +kernel
theorem dX10_greatest_47 : decode cX10_greatest 47 = .ok (.ldc 90, 2) := by decide +kernel
theorem dX10_greatest_49 : decode cX10_greatest 49 = .ok (.if_icmp .eq 18, 3) := by decide +kernel
theorem dX10_greatest_52 : decode cX10_greatest 52 = .ok (.aload_n 2, 1) := by decide +kernel
theorem dX10_greatest_53 : decode cX10_greatest 53 = .ok (.iload_n 3, 1) := by decide +kernel
theorem dX10_greatest_54 : decode cX10_greatest 54 = .ok (.iload 5, 2) := by decide +kernel
theorem dX10_greatest_56 : decode cX10_greatest 56 = .ok (.iadd, 1) := by decide +kernel
theorem dX10_greatest_57 : decode cX10_greatest 57 = .ok (.iaload, 1) := by decide +kernel
theorem dX10_greatest_58 : decode cX10_greatest 58 = .ok (.aload_n 2, 1) := by decide +kernel
theorem dX10_greatest_59 : decode cX10_greatest 59 = .ok (.iload_n 3, 1) := by decide +kernel
theorem dX10_greatest_60 : decode cX10_greatest 60 = .ok (.iload 4, 2) := by decide +kernel
theorem dX10_greatest_62 : decode cX10_greatest 62 = .ok (.iadd, 1) := by decide +kernel
theorem dX10_greatest_63 : decode cX10_greatest 63 = .ok (.iaload, 1) := by decide +kernel
theorem dX10_greatest_64 : decode cX10_greatest 64 = .ok (.if_icmp .le 7, 3) := by decide +kernel
theorem dX10_greatest_67 : decode cX10_greatest 67 = .ok (.iload 5, 2) := by decide +kernel
theorem dX10_greatest_69 : decode cX10_greatest 69 = .ok (.istore 4, 2) := by decide +kernel
theorem dX10_greatest_71 : decode cX10_greatest 71 = .ok (.iinc 5 1, 3) := by decide +kernel
theorem dX10_greatest_74 : decode cX10_greatest 74 = .ok (.goto (-49), 3) := by decide +kernel
theorem dX10_greatest_77 : decode cX10_greatest 77 = .ok (.iload 4, 2) := by decide +kernel
theorem dX10_greatest_79 : decode cX10_greatest 79 = .ok (.ireturn, 1) := by decide +kernel
theorem dX10_byLot_0 : decode cX10_byLot 0 = .ok (.aload_n 0, 1) := by decide +kernel
theorem dX10_byLot_1 : decode cX10_byLot 1 = .ok (.getfield 15, 3) := by decide +kernel
theorem dX10_byLot_4 : decode cX10_byLot 4 = .ok (.ifCond .eq 18, 3) := by decide +kernel
theorem dX10_byLot_7 : decode cX10_byLot 7 = .ok (.aload_n 0, 1) := by decide +kernel
theorem dX10_byLot_8 : decode cX10_byLot 8 = .ok (.iload_n 1, 1) := by decide +kernel
theorem dX10_byLot_9 : decode cX10_byLot 9 = .ok (.aload_n 0, 1) := by decide +kernel
theorem dX10_byLot_10 : decode cX10_byLot 10 = .ok (.getfield 49, 3) := by decide +kernel
theorem dX10_byLot_13 : decode cX10_byLot 13 = .ok (.iconst 0, 1) := by decide +kernel
theorem dX10_byLot_14 : decode cX10_byLot 14 = .ok (.invokevirtual 145, 3) := by decide +kernel
theorem dX10_byLot_17 : decode cX10_byLot 17 = .ok (.ldc 90, 2) := by decide +kernel
theorem dX10_byLot_19 : decode cX10_byLot 19 = .ok (.if_icmp .ne 6, 3) := by decide +kernel
theorem dX10_byLot_22 : decode cX10_byLot 22 = .ok (.ldc 90, 2) := by decide +kernel
theorem dX10_byLot_24 : decode cX10_byLot 24 = .ok (.ireturn, 1) := by decide +kernel
theorem dX10_byLot_25 : decode cX10_byLot 25 = .ok (.aload_n 0, 1) := by decide +kernel
theorem dX10_byLot_26 : decode cX10_byLot 26 = .ok (.invokevirtual 149, 3) := by decide +kernel
theorem dX10_byLot_29 : decode cX10_byLot 29 = .ok (.aload_n 0, 1) := by decide +kernel
theorem dX10_byLot_30 : decode cX10_byLot 30 = .ok (.getfield 15, 3) := by decide +kernel
theorem dX10_byLot_33 : decode cX10_byLot 33 = .ok (.irem, 1) := by decide +kernel
theorem dX10_byLot_34 : decode cX10_byLot 34 = .ok (.istore_n 2, 1) := by decide +kernel
theorem dX10_byLot_35 : decode cX10_byLot 35 = .ok (.iconst 0, 1) := by decide +kernel
theorem dX10_byLot_36 : decode cX10_byLot 36 = .ok (.istore_n 3, 1) := by decide +kernel
theorem dX10_byLot_37 : decode cX10_byLot 37 = .ok (.iload_n 3, 1) := by decide +kernel
theorem dX10_byLot_38 : decode cX10_byLot 38 = .ok (.aload_n 0, 1) := by decide +kernel
theorem dX10_byLot_39 : decode cX10_byLot 39 = .ok (.getfield 15, 3) := by decide +kernel
theorem dX10_byLot_42 : decode cX10_byLot 42 = .ok (.if_icmp .ge 33, 3) := by decide +kernel
theorem dX10_byLot_45 : decode cX10_byLot 45 = .ok (.iload_n 2, 1) := by decide +kernel
theorem dX10_byLot_46 : decode cX10_byLot 46 = .ok (.iload_n 3, 1) := by decide +kernel
theorem dX10_byLot_47 : decode cX10_byLot 47 = .ok (.iadd, 1) := by decide +kernel
theorem dX10_byLot_48 : decode cX10_byLot 48 = .ok (.aload_n 0, 1) := by decide +kernel
theorem dX10_byLot_49 : decode cX10_byLot 49 = .ok (.getfield 15, 3) := by decide +kernel
theorem dX10_byLot_52 : decode cX10_byLot 52 = .ok (.irem, 1) := by decide +kernel
theorem dX10_byLot_53 : decode cX10_byLot 53 = .ok (.istore 4, 2) := by decide +kernel
theorem dX10_byLot_55 : decode cX10_byLot 55 = .ok (.aload_n 0, 1) := by decide +kernel
theorem dX10_byLot_56 : decode cX10_byLot 56 = .ok (.getfield 46, 3) := by decide +kernel
theorem dX10_byLot_59 : decode cX10_byLot 59 = .ok (.iload 4, 2) := by decide +kernel
theorem dX10_byLot_61 : decode cX10_byLot 61 = .ok (.iaload, 1) := by decide +kernel
theorem dX10_byLot_62 : decode cX10_byLot 62 = .ok (.iload_n 1, 1) := by decide +kernel
theorem dX10_byLot_63 : decode cX10_byLot 63 = .ok (.if_icmp .eq 6, 3) := by decide +kernel
theorem dX10_byLot_66 : decode cX10_byLot 66 = .ok (.iload 4, 2) := by decide +kernel
theorem dX10_byLot_68 : decode cX10_byLot 68 = .ok (.ireturn, 1) := by decide +kernel
theorem dX10_byLot_69 : decode cX10_byLot 69 = .ok (.iinc 3 1, 3) := by decide +kernel
theorem dX10_byLot_72 : decode cX10_byLot 72 = .ok (.goto (-35), 3) := by decide +kernel
theorem dX10_byLot_75 : decode cX10_byLot 75 = .ok (.ldc 90, 2) := by decide +kernel
theorem dX10_byLot_77 : decode cX10_byLot 77 = .ok (.ireturn, 1) := by decide +kernel
theorem dX10_night_0 : decode cX10_night 0 = .ok (.iconst 0, 1) := by decide +kernel
theorem dX10_night_1 : decode cX10_night 1 = .ok (.istore_n 1, 1) := by decide +kernel
theorem dX10_night_2 : decode cX10_night 2 = .ok (.iload_n 1, 1) := by decide +kernel
theorem dX10_night_3 : decode cX10_night 3 = .ok (.aload_n 0, 1) := by decide +kernel
theorem dX10_night_4 : decode cX10_night 4 = .ok (.getfield 18, 3) := by decide +kernel
theorem dX10_night_7 : decode cX10_night 7 = .ok (.if_icmp .ge 90, 3) := by decide +kernel
theorem dX10_night_10 : decode cX10_night 10 = .ok (.aload_n 0, 1) := by decide +kernel
theorem dX10_night_11 : decode cX10_night 11 = .ok (.getfield 60, 3) := by decide +kernel
theorem dX10_night_14 : decode cX10_night 14 = .ok (.iload_n 1, 1) := by decide +kernel
theorem dX10_night_15 : decode cX10_night 15 = .ok (.aaload, 1) := by decide +kernel
theorem dX10_night_16 : decode cX10_night 16 = .ok (.astore_n 2, 1) := by decide +kernel
theorem dX10_night_17 : decode cX10_night 17 = .ok (.aload_n 2, 1) := by decide +kernel
theorem dX10_night_18 : decode cX10_night 18 = .ok (.ifnonnull 8, 3) := by decide +kernel
theorem dX10_night_21 : decode cX10_night 21 = .ok (.ldc 90, 2) := by decide +kernel
theorem dX10_night_23 : decode cX10_night 23 = .ok (.goto 9, 3) := by decide +kernel
theorem dX10_night_26 : decode cX10_night 26 = .ok (.aload_n 2, 1) := by decide +kernel
theorem dX10_night_27 : decode cX10_night 27 = .ok (.aload_n 0, 1) := by decide +kernel
theorem dX10_night_28 : decode cX10_night 28 = .ok (.iload_n 1, 1) := by decide +kernel
theorem dX10_night_29 : decode cX10_night 29 = .ok (.invokevirtual 153, 3) := by decide +kernel
theorem dX10_night_32 : decode cX10_night 32 = .ok (.istore_n 3, 1) := by decide +kernel
theorem dX10_night_33 : decode cX10_night 33 = .ok (.aload_n 0, 1) := by decide +kernel
theorem dX10_night_34 : decode cX10_night 34 = .ok (.iload_n 3, 1) := by decide +kernel
theorem dX10_night_35 : decode cX10_night 35 = .ok (.invokevirtual 96, 3) := by decide +kernel
theorem dX10_night_38 : decode cX10_night 38 = .ok (.ifCond .eq 53, 3) := by decide +kernel
theorem dX10_night_41 : decode cX10_night 41 = .ok (.aload_n 0, 1) := by decide +kernel
theorem dX10_night_42 : decode cX10_night 42 = .ok (.invokevirtual 149, 3) := by decide +kernel
theorem dX10_night_45 : decode cX10_night 45 = .ok (.sipush 10000, 3) := by decide +kernel
theorem dX10_night_48 : decode cX10_night 48 = .ok (.irem, 1) := by decide +kernel
theorem dX10_night_49 : decode cX10_night 49 = .ok (.aload_n 0, 1) := by decide +kernel
theorem dX10_night_50 : decode cX10_night 50 = .ok (.getfield 73, 3) := by decide +kernel
theorem dX10_night_53 : decode cX10_night 53 = .ok (.iload_n 1, 1) := by decide +kernel
theorem dX10_night_54 : decode cX10_night 54 = .ok (.bipush 12, 2) := by decide +kernel
theorem dX10_night_56 : decode cX10_night 56 = .ok (.imul, 1) := by decide +kernel
theorem dX10_night_57 : decode cX10_night 57 = .ok (.iload_n 3, 1) := by decide +kernel
theorem dX10_night_58 : decode cX10_night 58 = .ok (.iadd, 1) := by decide +kernel
theorem dX10_night_59 : decode cX10_night 59 = .ok (.iaload, 1) := by decide +kernel
theorem dX10_night_60 : decode cX10_night 60 = .ok (.if_icmp .ge 21, 3) := by decide +kernel
theorem dX10_night_63 : decode cX10_night 63 = .ok (.aload_n 0, 1) := by decide +kernel
theorem dX10_night_64 : decode cX10_night 64 = .ok (.dup, 1) := by decide +kernel
theorem dX10_night_65 : decode cX10_night 65 = .ok (.getfield 27, 3) := by decide +kernel
theorem dX10_night_68 : decode cX10_night 68 = .ok (.aload_n 0, 1) := by decide +kernel
theorem dX10_night_69 : decode cX10_night 69 = .ok (.getfield 49, 3) := by decide +kernel
theorem dX10_night_72 : decode cX10_night 72 = .ok (.iload_n 3, 1) := by decide +kernel
theorem dX10_night_73 : decode cX10_night 73 = .ok (.iaload, 1) := by decide +kernel
theorem dX10_night_74 : decode cX10_night 74 = .ok (.iadd, 1) := by decide +kernel
theorem dX10_night_75 : decode cX10_night 75 = .ok (.putfield 27, 3) := by decide +kernel
theorem dX10_night_78 : decode cX10_night 78 = .ok (.goto 13, 3) := by decide +kernel
theorem dX10_night_81 : decode cX10_night 81 = .ok (.aload_n 0, 1) := by decide +kernel
theorem dX10_night_82 : decode cX10_night 82 = .ok (.dup, 1) := by decide +kernel
theorem dX10_night_83 : decode cX10_night 83 = .ok (.getfield 30, 3) := by decide +kernel
theorem dX10_night_86 : decode cX10_night 86 = .ok (.iconst 1, 1) := by decide +kernel
theorem dX10_night_87 : decode cX10_night 87 = .ok (.iadd, 1) := by decide +kernel
theorem dX10_night_88 : decode cX10_night 88 = .ok (.putfield 30, 3) := by decide +kernel
theorem dX10_night_91 : decode cX10_night 91 = .ok (.iinc 1 1, 3) := by decide +kernel
theorem dX10_night_94 : decode cX10_night 94 = .ok (.goto (-92), 3) := by decide +kernel
theorem dX10_night_97 : decode cX10_night 97 = .ok (.return_, 1) := by decide +kernel
theorem dX10_wouldBeLawful_0 : decode cX10_wouldBeLawful 0 = .ok (.aload_n 0, 1) := by decide +kernel
theorem dX10_wouldBeLawful_1 : decode cX10_wouldBeLawful 1 = .ok (.iload_n 1, 1) := by decide +kernel
theorem dX10_wouldBeLawful_2 : decode cX10_wouldBeLawful 2 = .ok (.invokevirtual 96, 3) := by decide +kernel
theorem dX10_wouldBeLawful_5 : decode cX10_wouldBeLawful 5 = .ok (.ifCond .eq 24, 3) := by decide +kernel
theorem dX10_wouldBeLawful_8 : decode cX10_wouldBeLawful 8 = .ok (.aload_n 0, 1) := by decide +kernel
theorem dX10_wouldBeLawful_9 : decode cX10_wouldBeLawful 9 = .ok (.iload_n 2, 1) := by decide +kernel
theorem dX10_wouldBeLawful_10 : decode cX10_wouldBeLawful 10 = .ok (.invokevirtual 92, 3) := by decide +kernel
theorem dX10_wouldBeLawful_13 : decode cX10_wouldBeLawful 13 = .ok (.ifCond .eq 16, 3) := by decide +kernel
theorem dX10_wouldBeLawful_16 : decode cX10_wouldBeLawful 16 = .ok (.aload_n 0, 1) := by decide +kernel
theorem dX10_wouldBeLawful_17 : decode cX10_wouldBeLawful 17 = .ok (.iload_n 3, 1) := by decide +kernel
theorem dX10_wouldBeLawful_18 : decode cX10_wouldBeLawful 18 = .ok (.invokevirtual 92, 3) := by decide +kernel
theorem dX10_wouldBeLawful_21 : decode cX10_wouldBeLawful 21 = .ok (.ifCond .eq 8, 3) := by decide +kernel
theorem dX10_wouldBeLawful_24 : decode cX10_wouldBeLawful 24 = .ok (.iload_n 2, 1) := by decide +kernel
theorem dX10_wouldBeLawful_25 : decode cX10_wouldBeLawful 25 = .ok (.iload_n 3, 1) := by decide +kernel
theorem dX10_wouldBeLawful_26 : decode cX10_wouldBeLawful 26 = .ok (.if_icmp .ne 5, 3) := by decide +kernel
theorem dX10_wouldBeLawful_29 : decode cX10_wouldBeLawful 29 = .ok (.iconst 0, 1) := by decide +kernel
theorem dX10_wouldBeLawful_30 : decode cX10_wouldBeLawful 30 = .ok (.ireturn, 1) := by decide +kernel
theorem dX10_wouldBeLawful_31 : decode cX10_wouldBeLawful 31 = .ok (.aload_n 0, 1) := by decide +kernel
theorem dX10_wouldBeLawful_32 : decode cX10_wouldBeLawful 32 = .ok (.getfield 46, 3) := by decide +kernel
theorem dX10_wouldBeLawful_35 : decode cX10_wouldBeLawful 35 = .ok (.iload_n 1, 1) := by decide +kernel
theorem dX10_wouldBeLawful_36 : decode cX10_wouldBeLawful 36 = .ok (.iaload, 1) := by decide +kernel
theorem dX10_wouldBeLawful_37 : decode cX10_wouldBeLawful 37 = .ok (.istore 4, 2) := by decide +kernel
theorem dX10_wouldBeLawful_39 : decode cX10_wouldBeLawful 39 = .ok (.iload_n 2, 1) := by decide +kernel
theorem dX10_wouldBeLawful_40 : decode cX10_wouldBeLawful 40 = .ok (.iload 4, 2) := by decide +kernel
theorem dX10_wouldBeLawful_42 : decode cX10_wouldBeLawful 42 = .ok (.if_icmp .eq 18, 3) := by decide +kernel
theorem dX10_wouldBeLawful_45 : decode cX10_wouldBeLawful 45 = .ok (.iload_n 3, 1) := by decide +kernel
theorem dX10_wouldBeLawful_46 : decode cX10_wouldBeLawful 46 = .ok (.iload 4, 2) := by decide +kernel
theorem dX10_wouldBeLawful_48 : decode cX10_wouldBeLawful 48 = .ok (.if_icmp .eq 12, 3) := by decide +kernel
theorem dX10_wouldBeLawful_51 : decode cX10_wouldBeLawful 51 = .ok (.aload_n 0, 1) := by decide +kernel
theorem dX10_wouldBeLawful_52 : decode cX10_wouldBeLawful 52 = .ok (.iload_n 2, 1) := by decide +kernel
theorem dX10_wouldBeLawful_53 : decode cX10_wouldBeLawful 53 = .ok (.iload_n 3, 1) := by decide +kernel
theorem dX10_wouldBeLawful_54 : decode cX10_wouldBeLawful 54 = .ok (.invokevirtual 157, 3) := by decide +kernel
theorem dX10_wouldBeLawful_57 : decode cX10_wouldBeLawful 57 = .ok (.ifCond .eq 5, 3) := by decide +kernel
theorem dX10_wouldBeLawful_60 : decode cX10_wouldBeLawful 60 = .ok (.iconst 0, 1) := by decide +kernel
theorem dX10_wouldBeLawful_61 : decode cX10_wouldBeLawful 61 = .ok (.ireturn, 1) := by decide +kernel
theorem dX10_wouldBeLawful_62 : decode cX10_wouldBeLawful 62 = .ok (.aload_n 0, 1) := by decide +kernel
theorem dX10_wouldBeLawful_63 : decode cX10_wouldBeLawful 63 = .ok (.aload_n 0, 1) := by decide +kernel
theorem dX10_wouldBeLawful_64 : decode cX10_wouldBeLawful 64 = .ok (.iconst 2, 1) := by decide +kernel
theorem dX10_wouldBeLawful_65 : decode cX10_wouldBeLawful 65 = .ok (.invokevirtual 102, 3) := by decide +kernel
theorem dX10_wouldBeLawful_68 : decode cX10_wouldBeLawful 68 = .ok (.invokevirtual 106, 3) := by decide +kernel
theorem dX10_wouldBeLawful_71 : decode cX10_wouldBeLawful 71 = .ok (.astore 5, 2) := by decide +kernel
theorem dX10_wouldBeLawful_73 : decode cX10_wouldBeLawful 73 = .ok (.aload 5, 2) := by decide +kernel
theorem dX10_wouldBeLawful_75 : decode cX10_wouldBeLawful 75 = .ok (.ifnull 24, 3) := by decide +kernel
theorem dX10_wouldBeLawful_78 : decode cX10_wouldBeLawful 78 = .ok (.aload 5, 2) := by decide +kernel
theorem dX10_wouldBeLawful_80 : decode cX10_wouldBeLawful 80 = .ok (.iload_n 2, 1) := by decide +kernel
theorem dX10_wouldBeLawful_81 : decode cX10_wouldBeLawful 81 = .ok (.iload_n 3, 1) := by decide +kernel
theorem dX10_wouldBeLawful_82 : decode cX10_wouldBeLawful 82 = .ok (.invokestatic 161, 3) := by decide +kernel
theorem dX10_wouldBeLawful_85 : decode cX10_wouldBeLawful 85 = .ok (.iload_n 2, 1) := by decide +kernel
theorem dX10_wouldBeLawful_86 : decode cX10_wouldBeLawful 86 = .ok (.iload_n 3, 1) := by decide +kernel
theorem dX10_wouldBeLawful_87 : decode cX10_wouldBeLawful 87 = .ok (.invokestatic 122, 3) := by decide +kernel
theorem dX10_wouldBeLawful_90 : decode cX10_wouldBeLawful 90 = .ok (.iload 4, 2) := by decide +kernel
theorem dX10_wouldBeLawful_92 : decode cX10_wouldBeLawful 92 = .ok (.iconst 0, 1) := by decide +kernel
theorem dX10_wouldBeLawful_93 : decode cX10_wouldBeLawful 93 = .ok (.invokevirtual 114, 3) := by decide +kernel
theorem dX10_wouldBeLawful_96 : decode cX10_wouldBeLawful 96 = .ok (.ifCond .eq 7, 3) := by decide +kernel
theorem dX10_wouldBeLawful_99 : decode cX10_wouldBeLawful 99 = .ok (.iconst 1, 1) := by decide +kernel
theorem dX10_wouldBeLawful_100 : decode cX10_wouldBeLawful 100 = .ok (.goto 4, 3) := by decide +kernel
theorem dX10_wouldBeLawful_103 : decode cX10_wouldBeLawful 103 = .ok (.iconst 0, 1) := by decide +kernel
theorem dX10_wouldBeLawful_104 : decode cX10_wouldBeLawful 104 = .ok (.ireturn, 1) := by decide +kernel
theorem dX10_isLawful_0 : decode cX10_isLawful 0 = .ok (.aload_n 0, 1) := by decide +kernel
theorem dX10_isLawful_1 : decode cX10_isLawful 1 = .ok (.iload_n 1, 1) := by decide +kernel
theorem dX10_isLawful_2 : decode cX10_isLawful 2 = .ok (.invokevirtual 96, 3) := by decide +kernel
theorem dX10_isLawful_5 : decode cX10_isLawful 5 = .ok (.ifCond .eq 33, 3) := by decide +kernel
theorem dX10_isLawful_8 : decode cX10_isLawful 8 = .ok (.aload_n 0, 1) := by decide +kernel
theorem dX10_isLawful_9 : decode cX10_isLawful 9 = .ok (.iload_n 1, 1) := by decide +kernel
theorem dX10_isLawful_10 : decode cX10_isLawful 10 = .ok (.aload_n 0, 1) := by decide +kernel
theorem dX10_isLawful_11 : decode cX10_isLawful 11 = .ok (.getfield 55, 3) := by decide +kernel
theorem dX10_isLawful_14 : decode cX10_isLawful 14 = .ok (.iconst 2, 1) := by decide +kernel
theorem dX10_isLawful_15 : decode cX10_isLawful 15 = .ok (.iload_n 1, 1) := by decide +kernel
theorem dX10_isLawful_16 : decode cX10_isLawful 16 = .ok (.imul, 1) := by decide +kernel
theorem dX10_isLawful_17 : decode cX10_isLawful 17 = .ok (.iaload, 1) := by decide +kernel
theorem dX10_isLawful_18 : decode cX10_isLawful 18 = .ok (.aload_n 0, 1) := by decide +kernel
theorem dX10_isLawful_19 : decode cX10_isLawful 19 = .ok (.getfield 55, 3) := by decide +kernel
theorem dX10_isLawful_22 : decode cX10_isLawful 22 = .ok (.iconst 2, 1) := by decide +kernel
theorem dX10_isLawful_23 : decode cX10_isLawful 23 = .ok (.iload_n 1, 1) := by decide +kernel
theorem dX10_isLawful_24 : decode cX10_isLawful 24 = .ok (.imul, 1) := by decide +kernel
theorem dX10_isLawful_25 : decode cX10_isLawful 25 = .ok (.iconst 1, 1) := by decide +kernel
theorem dX10_isLawful_26 : decode cX10_isLawful 26 = .ok (.iadd, 1) := by decide +kernel
theorem dX10_isLawful_27 : decode cX10_isLawful 27 = .ok (.iaload, 1) := by decide +kernel
theorem dX10_isLawful_28 : decode cX10_isLawful 28 = .ok (.invokevirtual 164, 3) := by decide +kernel
theorem dX10_isLawful_31 : decode cX10_isLawful 31 = .ok (.ifCond .eq 7, 3) := by decide +kernel
theorem dX10_isLawful_34 : decode cX10_isLawful 34 = .ok (.iconst 1, 1) := by decide +kernel
theorem dX10_isLawful_35 : decode cX10_isLawful 35 = .ok (.goto 4, 3) := by decide +kernel
theorem dX10_isLawful_38 : decode cX10_isLawful 38 = .ok (.iconst 0, 1) := by decide +kernel
theorem dX10_isLawful_39 : decode cX10_isLawful 39 = .ok (.ireturn, 1) := by decide +kernel
theorem dX10_howManyUnlawful_0 : decode cX10_howManyUnlawful 0 = .ok (.iconst 0, 1) := by decide +kernel
theorem dX10_howManyUnlawful_1 : decode cX10_howManyUnlawful 1 = .ok (.istore_n 1, 1) := by decide +kernel
theorem dX10_howManyUnlawful_2 : decode cX10_howManyUnlawful 2 = .ok (.iconst 0, 1) := by decide +kernel
theorem dX10_howManyUnlawful_3 : decode cX10_howManyUnlawful 3 = .ok (.istore_n 2, 1) := by decide +kernel
theorem dX10_howManyUnlawful_4 : decode cX10_howManyUnlawful 4 = .ok (.iload_n 2, 1) := by decide +kernel
theorem dX10_howManyUnlawful_5 : decode cX10_howManyUnlawful 5 = .ok (.aload_n 0, 1) := by decide +kernel
theorem dX10_howManyUnlawful_6 : decode cX10_howManyUnlawful 6 = .ok (.getfield 15, 3) := by decide +kernel
theorem dX10_howManyUnlawful_9 : decode cX10_howManyUnlawful 9 = .ok (.if_icmp .ge 20, 3) := by decide +kernel
theorem dX10_howManyUnlawful_12 : decode cX10_howManyUnlawful 12 = .ok (.aload_n 0, 1) := by decide +kernel
theorem dX10_howManyUnlawful_13 : decode cX10_howManyUnlawful 13 = .ok (.iload_n 2, 1) := by decide +kernel
theorem dX10_howManyUnlawful_14 : decode cX10_howManyUnlawful 14 = .ok (.invokevirtual 167, 3) := by decide +kernel
theorem dX10_howManyUnlawful_17 : decode cX10_howManyUnlawful 17 = .ok (.ifCond .ne 6, 3) := by decide +kernel
theorem dX10_howManyUnlawful_20 : decode cX10_howManyUnlawful 20 = .ok (.iinc 1 1, 3) := by decide +kernel
theorem dX10_howManyUnlawful_23 : decode cX10_howManyUnlawful 23 = .ok (.iinc 2 1, 3) := by decide +kernel
theorem dX10_howManyUnlawful_26 : decode cX10_howManyUnlawful 26 = .ok (.goto (-22), 3) := by decide +kernel
theorem dX10_howManyUnlawful_29 : decode cX10_howManyUnlawful 29 = .ok (.iload_n 1, 1) := by decide +kernel
theorem dX10_howManyUnlawful_30 : decode cX10_howManyUnlawful 30 = .ok (.ireturn, 1) := by decide +kernel
theorem dX10_firstUnlawful_0 : decode cX10_firstUnlawful 0 = .ok (.iconst 0, 1) := by decide +kernel
theorem dX10_firstUnlawful_1 : decode cX10_firstUnlawful 1 = .ok (.istore_n 1, 1) := by decide +kernel
theorem dX10_firstUnlawful_2 : decode cX10_firstUnlawful 2 = .ok (.iload_n 1, 1) := by decide +kernel
theorem dX10_firstUnlawful_3 : decode cX10_firstUnlawful 3 = .ok (.aload_n 0, 1) := by decide +kernel
theorem dX10_firstUnlawful_4 : decode cX10_firstUnlawful 4 = .ok (.getfield 15, 3) := by decide +kernel
theorem dX10_firstUnlawful_7 : decode cX10_firstUnlawful 7 = .ok (.if_icmp .ge 19, 3) := by decide +kernel
theorem dX10_firstUnlawful_10 : decode cX10_firstUnlawful 10 = .ok (.aload_n 0, 1) := by decide +kernel
theorem dX10_firstUnlawful_11 : decode cX10_firstUnlawful 11 = .ok (.iload_n 1, 1) := by decide +kernel
theorem dX10_firstUnlawful_12 : decode cX10_firstUnlawful 12 = .ok (.invokevirtual 167, 3) := by decide +kernel
theorem dX10_firstUnlawful_15 : decode cX10_firstUnlawful 15 = .ok (.ifCond .ne 5, 3) := by decide +kernel
theorem dX10_firstUnlawful_18 : decode cX10_firstUnlawful 18 = .ok (.iload_n 1, 1) := by decide +kernel
theorem dX10_firstUnlawful_19 : decode cX10_firstUnlawful 19 = .ok (.ireturn, 1) := by decide +kernel
theorem dX10_firstUnlawful_20 : decode cX10_firstUnlawful 20 = .ok (.iinc 1 1, 3) := by decide +kernel
theorem dX10_firstUnlawful_23 : decode cX10_firstUnlawful 23 = .ok (.goto (-21), 3) := by decide +kernel
theorem dX10_firstUnlawful_26 : decode cX10_firstUnlawful 26 = .ok (.ldc 90, 2) := by decide +kernel
theorem dX10_firstUnlawful_28 : decode cX10_firstUnlawful 28 = .ok (.ireturn, 1) := by decide +kernel
theorem dX10_bestPair_0 : decode cX10_bestPair 0 = .ok (.ldc 90, 2) := by decide +kernel
theorem dX10_bestPair_2 : decode cX10_bestPair 2 = .ok (.istore_n 2, 1) := by decide +kernel
theorem dX10_bestPair_3 : decode cX10_bestPair 3 = .ok (.iconst 0, 1) := by decide +kernel
theorem dX10_bestPair_4 : decode cX10_bestPair 4 = .ok (.istore_n 3, 1) := by decide +kernel
theorem dX10_bestPair_5 : decode cX10_bestPair 5 = .ok (.iconst 0, 1) := by decide +kernel
theorem dX10_bestPair_6 : decode cX10_bestPair 6 = .ok (.istore 4, 2) := by decide +kernel
theorem dX10_bestPair_8 : decode cX10_bestPair 8 = .ok (.iload 4, 2) := by decide +kernel
theorem dX10_bestPair_10 : decode cX10_bestPair 10 = .ok (.aload_n 0, 1) := by decide +kernel
theorem dX10_bestPair_11 : decode cX10_bestPair 11 = .ok (.getfield 9, 3) := by decide +kernel
theorem dX10_bestPair_14 : decode cX10_bestPair 14 = .ok (.if_icmp .ge 83, 3) := by decide +kernel
theorem dX10_bestPair_17 : decode cX10_bestPair 17 = .ok (.iload 4, 2) := by decide +kernel
theorem dX10_bestPair_19 : decode cX10_bestPair 19 = .ok (.iconst 1, 1) := by decide +kernel
theorem dX10_bestPair_20 : decode cX10_bestPair 20 = .ok (.iadd, 1) := by decide +kernel
theorem dX10_bestPair_21 : decode cX10_bestPair 21 = .ok (.istore 5, 2) := by decide +kernel
theorem dX10_bestPair_23 : decode cX10_bestPair 23 = .ok (.iload 5, 2) := by decide +kernel
theorem dX10_bestPair_25 : decode cX10_bestPair 25 = .ok (.aload_n 0, 1) := by decide +kernel
theorem dX10_bestPair_26 : decode cX10_bestPair 26 = .ok (.getfield 9, 3) := by decide +kernel
theorem dX10_bestPair_29 : decode cX10_bestPair 29 = .ok (.if_icmp .ge 62, 3) := by decide +kernel
theorem dX10_bestPair_32 : decode cX10_bestPair 32 = .ok (.aload_n 0, 1) := by decide +kernel
theorem dX10_bestPair_33 : decode cX10_bestPair 33 = .ok (.iload 4, 2) := by decide +kernel
theorem dX10_bestPair_35 : decode cX10_bestPair 35 = .ok (.iload_n 1, 1) := by decide +kernel
theorem dX10_bestPair_36 : decode cX10_bestPair 36 = .ok (.invokevirtual 110, 3) := by decide +kernel
theorem dX10_bestPair_39 : decode cX10_bestPair 39 = .ok (.aload_n 0, 1) := by decide +kernel
theorem dX10_bestPair_40 : decode cX10_bestPair 40 = .ok (.iload 5, 2) := by decide +kernel
theorem dX10_bestPair_42 : decode cX10_bestPair 42 = .ok (.iload_n 1, 1) := by decide +kernel
theorem dX10_bestPair_43 : decode cX10_bestPair 43 = .ok (.invokevirtual 110, 3) := by decide +kernel
theorem dX10_bestPair_46 : decode cX10_bestPair 46 = .ok (.iadd, 1) := by decide +kernel
theorem dX10_bestPair_47 : decode cX10_bestPair 47 = .ok (.istore 6, 2) := by decide +kernel
theorem dX10_bestPair_49 : decode cX10_bestPair 49 = .ok (.iload_n 2, 1) := by decide +kernel
theorem dX10_bestPair_50 : decode cX10_bestPair 50 = .ok (.ldc 90, 2) := by decide +kernel
theorem dX10_bestPair_52 : decode cX10_bestPair 52 = .ok (.if_icmp .eq 9, 3) := by decide +kernel
theorem dX10_bestPair_55 : decode cX10_bestPair 55 = .ok (.iload 6, 2) := by decide +kernel
theorem dX10_bestPair_57 : decode cX10_bestPair 57 = .ok (.iload_n 3, 1) := by decide +kernel
theorem dX10_bestPair_58 : decode cX10_bestPair 58 = .ok (.if_icmp .ge 27, 3) := by decide +kernel
theorem dX10_bestPair_61 : decode cX10_bestPair 61 = .ok (.aload_n 0, 1) := by decide +kernel
theorem dX10_bestPair_62 : decode cX10_bestPair 62 = .ok (.iload_n 1, 1) := by decide +kernel
theorem dX10_bestPair_63 : decode cX10_bestPair 63 = .ok (.iload 4, 2) := by decide +kernel
theorem dX10_bestPair_65 : decode cX10_bestPair 65 = .ok (.iload 5, 2) := by decide +kernel
theorem dX10_bestPair_67 : decode cX10_bestPair 67 = .ok (.invokevirtual 164, 3) := by decide +kernel
theorem dX10_bestPair_70 : decode cX10_bestPair 70 = .ok (.ifCond .eq 15, 3) := by decide +kernel
theorem dX10_bestPair_73 : decode cX10_bestPair 73 = .ok (.bipush 100, 2) := by decide +kernel
theorem dX10_bestPair_75 : decode cX10_bestPair 75 = .ok (.iload 4, 2) := by decide +kernel
theorem dX10_bestPair_77 : decode cX10_bestPair 77 = .ok (.imul, 1) := by decide +kernel
theorem dX10_bestPair_78 : decode cX10_bestPair 78 = .ok (.iload 5, 2) := by decide +kernel
theorem dX10_bestPair_80 : decode cX10_bestPair 80 = .ok (.iadd, 1) := by decide +kernel
theorem dX10_bestPair_81 : decode cX10_bestPair 81 = .ok (.istore_n 2, 1) := by decide +kernel
theorem dX10_bestPair_82 : decode cX10_bestPair 82 = .ok (.iload 6, 2) := by decide +kernel
theorem dX10_bestPair_84 : decode cX10_bestPair 84 = .ok (.istore_n 3, 1) := by decide +kernel
theorem dX10_bestPair_85 : decode cX10_bestPair 85 = .ok (.iinc 5 1, 3) := by decide +kernel
theorem dX10_bestPair_88 : decode cX10_bestPair 88 = .ok (.goto (-65), 3) := by decide +kernel
theorem dX10_bestPair_91 : decode cX10_bestPair 91 = .ok (.iinc 4 1, 3) := by decide +kernel
theorem dX10_bestPair_94 : decode cX10_bestPair 94 = .ok (.goto (-86), 3) := by decide +kernel
theorem dX10_bestPair_97 : decode cX10_bestPair 97 = .ok (.iload_n 2, 1) := by decide +kernel
theorem dX10_bestPair_98 : decode cX10_bestPair 98 = .ok (.ireturn, 1) := by decide +kernel
theorem dX11_init_0 : decode cX11_init 0 = .ok (.aload_n 0, 1) := by decide +kernel
theorem dX11_init_1 : decode cX11_init 1 = .ok (.invokespecial 1, 3) := by decide +kernel
theorem dX11_init_4 : decode cX11_init 4 = .ok (.aload_n 0, 1) := by decide +kernel
theorem dX11_init_5 : decode cX11_init 5 = .ok (.new 7, 3) := by decide +kernel
theorem dX11_init_8 : decode cX11_init 8 = .ok (.dup, 1) := by decide +kernel
theorem dX11_init_9 : decode cX11_init 9 = .ok (.invokespecial 9, 3) := by decide +kernel
theorem dX11_init_12 : decode cX11_init 12 = .ok (.putfield 10, 3) := by decide +kernel
theorem dX11_init_15 : decode cX11_init 15 = .ok (.aload_n 0, 1) := by decide +kernel
theorem dX11_init_16 : decode cX11_init 16 = .ok (.new 7, 3) := by decide +kernel
theorem dX11_init_19 : decode cX11_init 19 = .ok (.dup, 1) := by decide +kernel
theorem dX11_init_20 : decode cX11_init 20 = .ok (.invokespecial 9, 3) := by decide +kernel
theorem dX11_init_23 : decode cX11_init 23 = .ok (.putfield 16, 3) := by decide +kernel
theorem dX11_init_26 : decode cX11_init 26 = .ok (.aload_n 0, 1) := by decide +kernel
theorem dX11_init_27 : decode cX11_init 27 = .ok (.iconst 0, 1) := by decide +kernel
theorem dX11_init_28 : decode cX11_init 28 = .ok (.putfield 19, 3) := by decide +kernel
theorem dX11_init_31 : decode cX11_init 31 = .ok (.aload_n 0, 1) := by decide +kernel
theorem dX11_init_32 : decode cX11_init 32 = .ok (.new 23, 3) := by decide +kernel
theorem dX11_init_35 : decode cX11_init 35 = .ok (.dup, 1) := by decide +kernel
theorem dX11_init_36 : decode cX11_init 36 = .ok (.invokespecial 25, 3) := by decide +kernel
theorem dX11_init_39 : decode cX11_init 39 = .ok (.putfield 26, 3) := by decide +kernel
theorem dX11_init_42 : decode cX11_init 42 = .ok (.aload_n 0, 1) := by decide +kernel
theorem dX11_init_43 : decode cX11_init 43 = .ok (.bipush 60, 2) := by decide +kernel
theorem dX11_init_45 : decode cX11_init 45 = .ok (.newarray .int, 2) := by decide +kernel
theorem dX11_init_47 : decode cX11_init 47 = .ok (.putfield 30, 3) := by decide +kernel
theorem dX11_init_50 : decode cX11_init 50 = .ok (.aload_n 0, 1) := by decide +kernel
theorem dX11_init_51 : decode cX11_init 51 = .ok (.iconst 0, 1) := by decide +kernel
theorem dX11_init_52 : decode cX11_init 52 = .ok (.putfield 34, 3) := by decide +kernel
theorem dX11_init_55 : decode cX11_init 55 = .ok (.aload_n 0, 1) := by decide +kernel
theorem dX11_init_56 : decode cX11_init 56 = .ok (.iconst 4, 1) := by decide +kernel
theorem dX11_init_57 : decode cX11_init 57 = .ok (.anewarray 38, 3) := by decide +kernel
theorem dX11_init_60 : decode cX11_init 60 = .ok (.putfield 40, 3) := by decide +kernel
theorem dX11_init_63 : decode cX11_init 63 = .ok (.aload_n 0, 1) := by decide +kernel
theorem dX11_init_64 : decode cX11_init 64 = .ok (.iconst 5, 1) := by decide +kernel
theorem dX11_init_65 : decode cX11_init 65 = .ok (.anewarray 44, 3) := by decide +kernel
theorem dX11_init_68 : decode cX11_init 68 = .ok (.putfield 46, 3) := by decide +kernel
theorem dX11_init_71 : decode cX11_init 71 = .ok (.aload_n 0, 1) := by decide +kernel
theorem dX11_init_72 : decode cX11_init 72 = .ok (.bipush 12, 2) := by decide +kernel
theorem dX11_init_74 : decode cX11_init 74 = .ok (.newarray .int, 2) := by decide +kernel
theorem dX11_init_76 : decode cX11_init 76 = .ok (.putfield 50, 3) := by decide +kernel
theorem dX11_init_79 : decode cX11_init 79 = .ok (.iconst 0, 1) := by decide +kernel
theorem dX11_init_80 : decode cX11_init 80 = .ok (.istore_n 1, 1) := by decide +kernel
theorem dX11_init_81 : decode cX11_init 81 = .ok (.iload_n 1, 1) := by decide +kernel
theorem dX11_init_82 : decode cX11_init 82 = .ok (.iconst 4, 1) := by decide +kernel
theorem dX11_init_83 : decode cX11_init 83 = .ok (.if_icmp .ge 22, 3) := by decide +kernel
theorem dX11_init_86 : decode cX11_init 86 = .ok (.aload_n 0, 1) := by decide +kernel
theorem dX11_init_87 : decode cX11_init 87 = .ok (.getfield 40, 3) := by decide +kernel
theorem dX11_init_90 : decode cX11_init 90 = .ok (.iload_n 1, 1) := by decide +kernel
theorem dX11_init_91 : decode cX11_init 91 = .ok (.new 38, 3) := by decide +kernel
theorem dX11_init_94 : decode cX11_init 94 = .ok (.dup, 1) := by decide +kernel
theorem dX11_init_95 : decode cX11_init 95 = .ok (.invokespecial 53, 3) := by decide +kernel
theorem dX11_init_98 : decode cX11_init 98 = .ok (.aastore, 1) := by decide +kernel
theorem dX11_init_99 : decode cX11_init 99 = .ok (.iinc 1 1, 3) := by decide +kernel
theorem dX11_init_102 : decode cX11_init 102 = .ok (.goto (-21), 3) := by decide +kernel
theorem dX11_init_105 : decode cX11_init 105 = .ok (.iconst 0, 1) := by decide +kernel
theorem dX11_init_106 : decode cX11_init 106 = .ok (.istore_n 1, 1) := by decide +kernel
theorem dX11_init_107 : decode cX11_init 107 = .ok (.iload_n 1, 1) := by decide +kernel
theorem dX11_init_108 : decode cX11_init 108 = .ok (.iconst 5, 1) := by decide +kernel
theorem dX11_init_109 : decode cX11_init 109 = .ok (.if_icmp .ge 22, 3) := by decide +kernel
theorem dX11_init_112 : decode cX11_init 112 = .ok (.aload_n 0, 1) := by decide +kernel
theorem dX11_init_113 : decode cX11_init 113 = .ok (.getfield 46, 3) := by decide +kernel
theorem dX11_init_116 : decode cX11_init 116 = .ok (.iload_n 1, 1) := by decide +kernel
theorem dX11_init_117 : decode cX11_init 117 = .ok (.new 44, 3) := by decide +kernel
theorem dX11_init_120 : decode cX11_init 120 = .ok (.dup, 1) := by decide +kernel
theorem dX11_init_121 : decode cX11_init 121 = .ok (.invokespecial 54, 3) := by decide +kernel
theorem dX11_init_124 : decode cX11_init 124 = .ok (.aastore, 1) := by decide +kernel
theorem dX11_init_125 : decode cX11_init 125 = .ok (.iinc 1 1, 3) := by decide +kernel
theorem dX11_init_128 : decode cX11_init 128 = .ok (.goto (-21), 3) := by decide +kernel
theorem dX11_init_131 : decode cX11_init 131 = .ok (.return_, 1) := by decide +kernel
theorem dX11_house_0 : decode cX11_house 0 = .ok (.iload_n 1, 1) := by decide +kernel
theorem dX11_house_1 : decode cX11_house 1 = .ok (.iconst 0, 1) := by decide +kernel
theorem dX11_house_2 : decode cX11_house 2 = .ok (.bipush 100, 2) := by decide +kernel
theorem dX11_house_4 : decode cX11_house 4 = .ok (.invokestatic 55, 3) := by decide +kernel
theorem dX11_house_7 : decode cX11_house 7 = .ok (.ifCond .eq 13, 3) := by decide +kernel
theorem dX11_house_10 : decode cX11_house 10 = .ok (.iload_n 2, 1) := by decide +kernel
theorem dX11_house_11 : decode cX11_house 11 = .ok (.iconst 0, 1) := by decide +kernel
theorem dX11_house_12 : decode cX11_house 12 = .ok (.bipush 100, 2) := by decide +kernel
theorem dX11_house_14 : decode cX11_house 14 = .ok (.invokestatic 55, 3) := by decide +kernel
theorem dX11_house_17 : decode cX11_house 17 = .ok (.ifCond .ne 6, 3) := by decide +kernel
theorem dX11_house_20 : decode cX11_house 20 = .ok (.ldc 59, 2) := by decide +kernel
theorem dX11_house_22 : decode cX11_house 22 = .ok (.ireturn, 1) := by decide +kernel
theorem dX11_house_23 : decode cX11_house 23 = .ok (.aload_n 0, 1) := by decide +kernel
theorem dX11_house_24 : decode cX11_house 24 = .ok (.getfield 10, 3) := by decide +kernel
theorem dX11_house_27 : decode cX11_house 27 = .ok (.iload_n 1, 1) := by decide +kernel
theorem dX11_house_28 : decode cX11_house 28 = .ok (.iload_n 2, 1) := by decide +kernel
theorem dX11_house_29 : decode cX11_house 29 = .ok (.invokevirtual 60, 3) := by decide +kernel
theorem dX11_house_32 : decode cX11_house 32 = .ok (.ireturn, 1) := by decide +kernel
theorem dX11_houseTold_0 : decode cX11_houseTold 0 = .ok (.aload_n 0, 1) := by decide +kernel
theorem dX11_houseTold_1 : decode cX11_houseTold 1 = .ok (.getfield 10, 3) := by decide +kernel
theorem dX11_houseTold_4 : decode cX11_houseTold 4 = .ok (.iload_n 1, 1) := by decide +kernel
theorem dX11_houseTold_5 : decode cX11_houseTold 5 = .ok (.invokevirtual 64, 3) := by decide +kernel
theorem dX11_houseTold_8 : decode cX11_houseTold 8 = .ok (.ifCond .ne 6, 3) := by decide +kernel
theorem dX11_houseTold_11 : decode cX11_houseTold 11 = .ok (.ldc 59, 2) := by decide +kernel
theorem dX11_houseTold_13 : decode cX11_houseTold 13 = .ok (.ireturn, 1) := by decide +kernel
theorem dX11_houseTold_14 : decode cX11_houseTold 14 = .ok (.iload_n 2, 1) := by decide +kernel
theorem dX11_houseTold_15 : decode cX11_houseTold 15 = .ok (.tableswitch 96 0 5 #[37, 47, 57, 68, 77, 86], 37) := by decide +kernel
theorem dX11_houseTold_52 : decode cX11_houseTold 52 = .ok (.aload_n 0, 1) := by decide +kernel
theorem dX11_houseTold_53 : decode cX11_houseTold 53 = .ok (.getfield 10, 3) := by decide +kernel
theorem dX11_houseTold_56 : decode cX11_houseTold 56 = .ok (.getfield 68, 3) := by decide +kernel
theorem dX11_houseTold_59 : decode cX11_houseTold 59 = .ok (.iload_n 1, 1) := by decide +kernel
theorem dX11_houseTold_60 : decode cX11_houseTold 60 = .ok (.iaload, 1) := by decide +kernel
theorem dX11_houseTold_61 : decode cX11_houseTold 61 = .ok (.ireturn, 1) := by decide +kernel
theorem dX11_houseTold_62 : decode cX11_houseTold 62 = .ok (.aload_n 0, 1) := by decide +kernel
theorem dX11_houseTold_63 : decode cX11_houseTold 63 = .ok (.getfield 10, 3) := by decide +kernel
theorem dX11_houseTold_66 : decode cX11_houseTold 66 = .ok (.getfield 71, 3) := by decide +kernel
theorem dX11_houseTold_69 : decode cX11_houseTold 69 = .ok (.iload_n 1, 1) := by decide +kernel
theorem dX11_houseTold_70 : decode cX11_houseTold 70 = .ok (.iaload, 1) := by decide +kernel
theorem dX11_houseTold_71 : decode cX11_houseTold 71 = .ok (.ireturn, 1) := by decide +kernel
theorem dX11_houseTold_72 : decode cX11_houseTold 72 = .ok (.aload_n 0, 1) := by decide +kernel
theorem dX11_houseTold_73 : decode cX11_houseTold 73 = .ok (.getfield 10, 3) := by decide +kernel
theorem dX11_houseTold_76 : decode cX11_houseTold 76 = .ok (.iload_n 1, 1) := by decide +kernel
theorem dX11_houseTold_77 : decode cX11_houseTold 77 = .ok (.ldc 74, 2) := by decide +kernel
theorem dX11_houseTold_79 : decode cX11_houseTold 79 = .ok (.invokevirtual 75, 3) := by decide +kernel
theorem dX11_houseTold_82 : decode cX11_houseTold 82 = .ok (.ireturn, 1) := by decide +kernel
theorem dX11_houseTold_83 : decode cX11_houseTold 83 = .ok (.aload_n 0, 1) := by decide +kernel
theorem dX11_houseTold_84 : decode cX11_houseTold 84 = .ok (.getfield 10, 3) := by decide +kernel
theorem dX11_houseTold_87 : decode cX11_houseTold 87 = .ok (.iload_n 1, 1) := by decide +kernel
theorem dX11_houseTold_88 : decode cX11_houseTold 88 = .ok (.invokevirtual 78, 3) := by decide +kernel
theorem dX11_houseTold_91 : decode cX11_houseTold 91 = .ok (.ireturn, 1) := by decide +kernel
theorem dX11_houseTold_92 : decode cX11_houseTold 92 = .ok (.aload_n 0, 1) := by decide +kernel
theorem dX11_houseTold_93 : decode cX11_houseTold 93 = .ok (.getfield 10, 3) := by decide +kernel
theorem dX11_houseTold_96 : decode cX11_houseTold 96 = .ok (.iload_n 1, 1) := by decide +kernel
theorem dX11_houseTold_97 : decode cX11_houseTold 97 = .ok (.invokevirtual 82, 3) := by decide +kernel
theorem dX11_houseTold_100 : decode cX11_houseTold 100 = .ok (.ireturn, 1) := by decide +kernel
theorem dX11_houseTold_101 : decode cX11_houseTold 101 = .ok (.aload_n 0, 1) := by decide +kernel
theorem dX11_houseTold_102 : decode cX11_houseTold 102 = .ok (.getfield 10, 3) := by decide +kernel
theorem dX11_houseTold_105 : decode cX11_houseTold 105 = .ok (.getfield 85, 3) := by decide +kernel
theorem dX11_houseTold_108 : decode cX11_houseTold 108 = .ok (.iload_n 1, 1) := by decide +kernel
theorem dX11_houseTold_109 : decode cX11_houseTold 109 = .ok (.iaload, 1) := by decide +kernel
theorem dX11_houseTold_110 : decode cX11_houseTold 110 = .ok (.ireturn, 1) := by decide +kernel
theorem dX11_houseTold_111 : decode cX11_houseTold 111 = .ok (.ldc 59, 2) := by decide +kernel
theorem dX11_houseTold_113 : decode cX11_houseTold 113 = .ok (.ireturn, 1) := by decide +kernel
theorem dX11_change_0 : decode cX11_change 0 = .ok (.aload_n 0, 1) := by decide +kernel
theorem dX11_change_1 : decode cX11_change 1 = .ok (.getfield 10, 3) := by decide +kernel
theorem dX11_change_4 : decode cX11_change 4 = .ok (.iload_n 1, 1) := by decide +kernel
theorem dX11_change_5 : decode cX11_change 5 = .ok (.invokevirtual 64, 3) := by decide +kernel
theorem dX11_change_8 : decode cX11_change 8 = .ok (.ifCond .eq 22, 3) := by decide +kernel
theorem dX11_change_11 : decode cX11_change 11 = .ok (.iload_n 2, 1) := by decide +kernel
theorem dX11_change_12 : decode cX11_change 12 = .ok (.iconst 0, 1) := by decide +kernel
theorem dX11_change_13 : decode cX11_change 13 = .ok (.iconst 1, 1) := by decide +kernel
theorem dX11_change_14 : decode cX11_change 14 = .ok (.invokestatic 55, 3) := by decide +kernel
theorem dX11_change_17 : decode cX11_change 17 = .ok (.ifCond .eq 13, 3) := by decide +kernel
end
section
theorem dX11_change_20 : decode cX11_change 20 = .ok (.iload_n 3, 1) := by decide +kernel
theorem dX11_change_21 : decode cX11_change 21 = .ok (.iconst 0, 1) := by decide +kernel
theorem dX11_change_22 : decode cX11_change 22 = .ok (.bipush 100, 2) := by decide +kernel
theorem dX11_change_24 : decode cX11_change 24 = .ok (.invokestatic 55, 3) := by decide +kernel
theorem dX11_change_27 : decode cX11_change 27 = .ok (.ifCond .ne 6, 3) := by decide +kernel
theorem dX11_change_30 : decode cX11_change 30 = .ok (.ldc 59, 2) := by decide +kernel
theorem dX11_change_32 : decode cX11_change 32 = .ok (.ireturn, 1) := by decide +kernel
theorem dX11_change_33 : decode cX11_change 33 = .ok (.iload_n 2, 1) := by decide +kernel
theorem dX11_change_34 : decode cX11_change 34 = .ok (.ifCond .ne 13, 3) := by decide +kernel
theorem dX11_change_37 : decode cX11_change 37 = .ok (.aload_n 0, 1) := by decide +kernel
theorem dX11_change_38 : decode cX11_change 38 = .ok (.getfield 10, 3) := by decide +kernel
theorem dX11_change_41 : decode cX11_change 41 = .ok (.getfield 68, 3) := by decide +kernel
theorem dX11_change_44 : decode cX11_change 44 = .ok (.goto 10, 3) := by decide +kernel
theorem dX11_change_47 : decode cX11_change 47 = .ok (.aload_n 0, 1) := by decide +kernel
theorem dX11_change_48 : decode cX11_change 48 = .ok (.getfield 10, 3) := by decide +kernel
theorem dX11_change_51 : decode cX11_change 51 = .ok (.getfield 71, 3) := by decide +kernel
theorem dX11_change_54 : decode cX11_change 54 = .ok (.astore 4, 2) := by decide +kernel
theorem dX11_change_56 : decode cX11_change 56 = .ok (.aload 4, 2) := by decide +kernel
theorem dX11_change_58 : decode cX11_change 58 = .ok (.iload_n 1, 1) := by decide +kernel
theorem dX11_change_59 : decode cX11_change 59 = .ok (.iaload, 1) := by decide +kernel
theorem dX11_change_60 : decode cX11_change 60 = .ok (.istore 5, 2) := by decide +kernel
theorem dX11_change_62 : decode cX11_change 62 = .ok (.aload 4, 2) := by decide +kernel
theorem dX11_change_64 : decode cX11_change 64 = .ok (.iload_n 1, 1) := by decide +kernel
theorem dX11_change_65 : decode cX11_change 65 = .ok (.iload_n 3, 1) := by decide +kernel
theorem dX11_change_66 : decode cX11_change 66 = .ok (.iastore, 1) := by decide +kernel
theorem dX11_change_67 : decode cX11_change 67 = .ok (.iload 5, 2) := by decide +kernel
theorem dX11_change_69 : decode cX11_change 69 = .ok (.ireturn, 1) := by decide +kernel
theorem dX11_agree_0 : decode cX11_agree 0 = .ok (.aload_n 0, 1) := by decide +kernel
theorem dX11_agree_1 : decode cX11_agree 1 = .ok (.getfield 10, 3) := by decide +kernel
theorem dX11_agree_4 : decode cX11_agree 4 = .ok (.iload_n 1, 1) := by decide +kernel
theorem dX11_agree_5 : decode cX11_agree 5 = .ok (.invokevirtual 64, 3) := by decide +kernel
theorem dX11_agree_8 : decode cX11_agree 8 = .ok (.ifCond .eq 28, 3) := by decide +kernel
theorem dX11_agree_11 : decode cX11_agree 11 = .ok (.aload_n 0, 1) := by decide +kernel
theorem dX11_agree_12 : decode cX11_agree 12 = .ok (.getfield 10, 3) := by decide +kernel
theorem dX11_agree_15 : decode cX11_agree 15 = .ok (.iload_n 2, 1) := by decide +kernel
theorem dX11_agree_16 : decode cX11_agree 16 = .ok (.invokevirtual 64, 3) := by decide +kernel
theorem dX11_agree_19 : decode cX11_agree 19 = .ok (.ifCond .eq 17, 3) := by decide +kernel
theorem dX11_agree_22 : decode cX11_agree 22 = .ok (.iload_n 1, 1) := by decide +kernel
theorem dX11_agree_23 : decode cX11_agree 23 = .ok (.iload_n 2, 1) := by decide +kernel
theorem dX11_agree_24 : decode cX11_agree 24 = .ok (.if_icmp .eq 12, 3) := by decide +kernel
theorem dX11_agree_27 : decode cX11_agree 27 = .ok (.iload_n 3, 1) := by decide +kernel
theorem dX11_agree_28 : decode cX11_agree 28 = .ok (.iconst 0, 1) := by decide +kernel
theorem dX11_agree_29 : decode cX11_agree 29 = .ok (.iconst 1, 1) := by decide +kernel
theorem dX11_agree_30 : decode cX11_agree 30 = .ok (.invokestatic 55, 3) := by decide +kernel
theorem dX11_agree_33 : decode cX11_agree 33 = .ok (.ifCond .ne 6, 3) := by decide +kernel
theorem dX11_agree_36 : decode cX11_agree 36 = .ok (.ldc 59, 2) := by decide +kernel
theorem dX11_agree_38 : decode cX11_agree 38 = .ok (.ireturn, 1) := by decide +kernel
theorem dX11_agree_39 : decode cX11_agree 39 = .ok (.aload_n 0, 1) := by decide +kernel
theorem dX11_agree_40 : decode cX11_agree 40 = .ok (.getfield 10, 3) := by decide +kernel
theorem dX11_agree_43 : decode cX11_agree 43 = .ok (.iload_n 1, 1) := by decide +kernel
theorem dX11_agree_44 : decode cX11_agree 44 = .ok (.iload_n 2, 1) := by decide +kernel
theorem dX11_agree_45 : decode cX11_agree 45 = .ok (.invokevirtual 88, 3) := by decide +kernel
theorem dX11_agree_48 : decode cX11_agree 48 = .ok (.ifCond .eq 7, 3) := by decide +kernel
theorem dX11_agree_51 : decode cX11_agree 51 = .ok (.iconst 1, 1) := by decide +kernel
theorem dX11_agree_52 : decode cX11_agree 52 = .ok (.goto 4, 3) := by decide +kernel
theorem dX11_agree_55 : decode cX11_agree 55 = .ok (.iconst 0, 1) := by decide +kernel
theorem dX11_agree_56 : decode cX11_agree 56 = .ok (.istore 4, 2) := by decide +kernel
theorem dX11_agree_58 : decode cX11_agree 58 = .ok (.iload 4, 2) := by decide +kernel
theorem dX11_agree_60 : decode cX11_agree 60 = .ok (.iload_n 3, 1) := by decide +kernel
theorem dX11_agree_61 : decode cX11_agree 61 = .ok (.if_icmp .eq 33, 3) := by decide +kernel
theorem dX11_agree_64 : decode cX11_agree 64 = .ok (.aload_n 0, 1) := by decide +kernel
theorem dX11_agree_65 : decode cX11_agree 65 = .ok (.getfield 10, 3) := by decide +kernel
theorem dX11_agree_68 : decode cX11_agree 68 = .ok (.getfield 85, 3) := by decide +kernel
theorem dX11_agree_71 : decode cX11_agree 71 = .ok (.iload_n 1, 1) := by decide +kernel
theorem dX11_agree_72 : decode cX11_agree 72 = .ok (.dup2, 1) := by decide +kernel
theorem dX11_agree_73 : decode cX11_agree 73 = .ok (.iaload, 1) := by decide +kernel
theorem dX11_agree_74 : decode cX11_agree 74 = .ok (.iconst 1, 1) := by decide +kernel
theorem dX11_agree_75 : decode cX11_agree 75 = .ok (.iload_n 2, 1) := by decide +kernel
theorem dX11_agree_76 : decode cX11_agree 76 = .ok (.ishl, 1) := by decide +kernel
theorem dX11_agree_77 : decode cX11_agree 77 = .ok (.ixor, 1) := by decide +kernel
theorem dX11_agree_78 : decode cX11_agree 78 = .ok (.iastore, 1) := by decide +kernel
theorem dX11_agree_79 : decode cX11_agree 79 = .ok (.aload_n 0, 1) := by decide +kernel
theorem dX11_agree_80 : decode cX11_agree 80 = .ok (.getfield 10, 3) := by decide +kernel
theorem dX11_agree_83 : decode cX11_agree 83 = .ok (.getfield 85, 3) := by decide +kernel
theorem dX11_agree_86 : decode cX11_agree 86 = .ok (.iload_n 2, 1) := by decide +kernel
theorem dX11_agree_87 : decode cX11_agree 87 = .ok (.dup2, 1) := by decide +kernel
theorem dX11_agree_88 : decode cX11_agree 88 = .ok (.iaload, 1) := by decide +kernel
theorem dX11_agree_89 : decode cX11_agree 89 = .ok (.iconst 1, 1) := by decide +kernel
theorem dX11_agree_90 : decode cX11_agree 90 = .ok (.iload_n 1, 1) := by decide +kernel
theorem dX11_agree_91 : decode cX11_agree 91 = .ok (.ishl, 1) := by decide +kernel
theorem dX11_agree_92 : decode cX11_agree 92 = .ok (.ixor, 1) := by decide +kernel
theorem dX11_agree_93 : decode cX11_agree 93 = .ok (.iastore, 1) := by decide +kernel
theorem dX11_agree_94 : decode cX11_agree 94 = .ok (.iload 4, 2) := by decide +kernel
theorem dX11_agree_96 : decode cX11_agree 96 = .ok (.ireturn, 1) := by decide +kernel
theorem dX11_patience_0 : decode cX11_patience 0 = .ok (.iload_n 1, 1) := by decide +kernel
theorem dX11_patience_1 : decode cX11_patience 1 = .ok (.iconst 0, 1) := by decide +kernel
theorem dX11_patience_2 : decode cX11_patience 2 = .ok (.bipush 24, 2) := by decide +kernel
theorem dX11_patience_4 : decode cX11_patience 4 = .ok (.invokestatic 55, 3) := by decide +kernel
theorem dX11_patience_7 : decode cX11_patience 7 = .ok (.ifCond .ne 6, 3) := by decide +kernel
theorem dX11_patience_10 : decode cX11_patience 10 = .ok (.ldc 59, 2) := by decide +kernel
theorem dX11_patience_12 : decode cX11_patience 12 = .ok (.ireturn, 1) := by decide +kernel
theorem dX11_patience_13 : decode cX11_patience 13 = .ok (.aload_n 0, 1) := by decide +kernel
theorem dX11_patience_14 : decode cX11_patience 14 = .ok (.getfield 10, 3) := by decide +kernel
theorem dX11_patience_17 : decode cX11_patience 17 = .ok (.getfield 92, 3) := by decide +kernel
theorem dX11_patience_20 : decode cX11_patience 20 = .ok (.istore_n 2, 1) := by decide +kernel
theorem dX11_patience_21 : decode cX11_patience 21 = .ok (.aload_n 0, 1) := by decide +kernel
theorem dX11_patience_22 : decode cX11_patience 22 = .ok (.getfield 10, 3) := by decide +kernel
theorem dX11_patience_25 : decode cX11_patience 25 = .ok (.iload_n 1, 1) := by decide +kernel
theorem dX11_patience_26 : decode cX11_patience 26 = .ok (.putfield 92, 3) := by decide +kernel
theorem dX11_patience_29 : decode cX11_patience 29 = .ok (.iload_n 2, 1) := by decide +kernel
theorem dX11_patience_30 : decode cX11_patience 30 = .ok (.ireturn, 1) := by decide +kernel
theorem dX11_deal_0 : decode cX11_deal 0 = .ok (.iload_n 1, 1) := by decide +kernel
theorem dX11_deal_1 : decode cX11_deal 1 = .ok (.iconst 1, 1) := by decide +kernel
theorem dX11_deal_2 : decode cX11_deal 2 = .ok (.bipush 10, 2) := by decide +kernel
theorem dX11_deal_4 : decode cX11_deal 4 = .ok (.invokestatic 55, 3) := by decide +kernel
theorem dX11_deal_7 : decode cX11_deal 7 = .ok (.ifCond .ne 6, 3) := by decide +kernel
theorem dX11_deal_10 : decode cX11_deal 10 = .ok (.ldc 59, 2) := by decide +kernel
theorem dX11_deal_12 : decode cX11_deal 12 = .ok (.ireturn, 1) := by decide +kernel
theorem dX11_deal_13 : decode cX11_deal 13 = .ok (.iconst 0, 1) := by decide +kernel
theorem dX11_deal_14 : decode cX11_deal 14 = .ok (.istore_n 2, 1) := by decide +kernel
theorem dX11_deal_15 : decode cX11_deal 15 = .ok (.iload_n 2, 1) := by decide +kernel
theorem dX11_deal_16 : decode cX11_deal 16 = .ok (.iload_n 1, 1) := by decide +kernel
theorem dX11_deal_17 : decode cX11_deal 17 = .ok (.if_icmp .ge 55, 3) := by decide +kernel
theorem dX11_deal_20 : decode cX11_deal 20 = .ok (.aload_n 0, 1) := by decide +kernel
theorem dX11_deal_21 : decode cX11_deal 21 = .ok (.getfield 10, 3) := by decide +kernel
theorem dX11_deal_24 : decode cX11_deal 24 = .ok (.getfield 95, 3) := by decide +kernel
theorem dX11_deal_27 : decode cX11_deal 27 = .ok (.bipush 10, 2) := by decide +kernel
theorem dX11_deal_29 : decode cX11_deal 29 = .ok (.if_icmp .ge 43, 3) := by decide +kernel
theorem dX11_deal_32 : decode cX11_deal 32 = .ok (.aload_n 0, 1) := by decide +kernel
theorem dX11_deal_33 : decode cX11_deal 33 = .ok (.getfield 10, 3) := by decide +kernel
theorem dX11_deal_36 : decode cX11_deal 36 = .ok (.invokevirtual 98, 3) := by decide +kernel
theorem dX11_deal_39 : decode cX11_deal 39 = .ok (.bipush 101, 2) := by decide +kernel
theorem dX11_deal_41 : decode cX11_deal 41 = .ok (.irem, 1) := by decide +kernel
theorem dX11_deal_42 : decode cX11_deal 42 = .ok (.istore_n 3, 1) := by decide +kernel
theorem dX11_deal_43 : decode cX11_deal 43 = .ok (.aload_n 0, 1) := by decide +kernel
theorem dX11_deal_44 : decode cX11_deal 44 = .ok (.getfield 10, 3) := by decide +kernel
theorem dX11_deal_47 : decode cX11_deal 47 = .ok (.invokevirtual 98, 3) := by decide +kernel
theorem dX11_deal_50 : decode cX11_deal 50 = .ok (.bipush 101, 2) := by decide +kernel
theorem dX11_deal_52 : decode cX11_deal 52 = .ok (.irem, 1) := by decide +kernel
theorem dX11_deal_53 : decode cX11_deal 53 = .ok (.istore 4, 2) := by decide +kernel
theorem dX11_deal_55 : decode cX11_deal 55 = .ok (.aload_n 0, 1) := by decide +kernel
theorem dX11_deal_56 : decode cX11_deal 56 = .ok (.getfield 10, 3) := by decide +kernel
theorem dX11_deal_59 : decode cX11_deal 59 = .ok (.iload_n 3, 1) := by decide +kernel
theorem dX11_deal_60 : decode cX11_deal 60 = .ok (.iload 4, 2) := by decide +kernel
theorem dX11_deal_62 : decode cX11_deal 62 = .ok (.invokevirtual 60, 3) := by decide +kernel
theorem dX11_deal_65 : decode cX11_deal 65 = .ok (.pop, 1) := by decide +kernel
theorem dX11_deal_66 : decode cX11_deal 66 = .ok (.iinc 2 1, 3) := by decide +kernel
theorem dX11_deal_69 : decode cX11_deal 69 = .ok (.goto (-54), 3) := by decide +kernel
theorem dX11_deal_72 : decode cX11_deal 72 = .ok (.iload_n 2, 1) := by decide +kernel
theorem dX11_deal_73 : decode cX11_deal 73 = .ok (.ireturn, 1) := by decide +kernel
theorem dX11_door_0 : decode cX11_door 0 = .ok (.aload_n 0, 1) := by decide +kernel
theorem dX11_door_1 : decode cX11_door 1 = .ok (.getfield 10, 3) := by decide +kernel
theorem dX11_door_4 : decode cX11_door 4 = .ok (.iload_n 1, 1) := by decide +kernel
theorem dX11_door_5 : decode cX11_door 5 = .ok (.invokevirtual 64, 3) := by decide +kernel
theorem dX11_door_8 : decode cX11_door 8 = .ok (.ifCond .eq 14, 3) := by decide +kernel
theorem dX11_door_11 : decode cX11_door 11 = .ok (.iload_n 2, 1) := by decide +kernel
theorem dX11_door_12 : decode cX11_door 12 = .ok (.iconst 0, 1) := by decide +kernel
theorem dX11_door_13 : decode cX11_door 13 = .ok (.sipush 999, 3) := by decide +kernel
theorem dX11_door_16 : decode cX11_door 16 = .ok (.invokestatic 55, 3) := by decide +kernel
theorem dX11_door_19 : decode cX11_door 19 = .ok (.ifCond .ne 6, 3) := by decide +kernel
theorem dX11_door_22 : decode cX11_door 22 = .ok (.ldc 59, 2) := by decide +kernel
theorem dX11_door_24 : decode cX11_door 24 = .ok (.ireturn, 1) := by decide +kernel
theorem dX11_door_25 : decode cX11_door 25 = .ok (.aload_n 0, 1) := by decide +kernel
theorem dX11_door_26 : decode cX11_door 26 = .ok (.getfield 10, 3) := by decide +kernel
theorem dX11_door_29 : decode cX11_door 29 = .ok (.iload_n 1, 1) := by decide +kernel
theorem dX11_door_30 : decode cX11_door 30 = .ok (.iload_n 2, 1) := by decide +kernel
theorem dX11_door_31 : decode cX11_door 31 = .ok (.invokevirtual 102, 3) := by decide +kernel
theorem dX11_door_34 : decode cX11_door 34 = .ok (.ireturn, 1) := by decide +kernel
theorem dX11_doorTold_0 : decode cX11_doorTold 0 = .ok (.aload_n 0, 1) := by decide +kernel
theorem dX11_doorTold_1 : decode cX11_doorTold 1 = .ok (.getfield 10, 3) := by decide +kernel
theorem dX11_doorTold_4 : decode cX11_doorTold 4 = .ok (.iload_n 1, 1) := by decide +kernel
theorem dX11_doorTold_5 : decode cX11_doorTold 5 = .ok (.invokevirtual 105, 3) := by decide +kernel
theorem dX11_doorTold_8 : decode cX11_doorTold 8 = .ok (.ifCond .ne 6, 3) := by decide +kernel
theorem dX11_doorTold_11 : decode cX11_doorTold 11 = .ok (.ldc 59, 2) := by decide +kernel
theorem dX11_doorTold_13 : decode cX11_doorTold 13 = .ok (.ireturn, 1) := by decide +kernel
theorem dX11_doorTold_14 : decode cX11_doorTold 14 = .ok (.iload_n 2, 1) := by decide +kernel
theorem dX11_doorTold_15 : decode cX11_doorTold 15 = .ok (.tableswitch 110 0 5 #[37, 47, 57, 67, 79, 93], 37) := by decide +kernel
theorem dX11_doorTold_52 : decode cX11_doorTold 52 = .ok (.aload_n 0, 1) := by decide +kernel
theorem dX11_doorTold_53 : decode cX11_doorTold 53 = .ok (.getfield 10, 3) := by decide +kernel
theorem dX11_doorTold_56 : decode cX11_doorTold 56 = .ok (.getfield 108, 3) := by decide +kernel
theorem dX11_doorTold_59 : decode cX11_doorTold 59 = .ok (.iload_n 1, 1) := by decide +kernel
theorem dX11_doorTold_60 : decode cX11_doorTold 60 = .ok (.iaload, 1) := by decide +kernel
theorem dX11_doorTold_61 : decode cX11_doorTold 61 = .ok (.ireturn, 1) := by decide +kernel
theorem dX11_doorTold_62 : decode cX11_doorTold 62 = .ok (.aload_n 0, 1) := by decide +kernel
theorem dX11_doorTold_63 : decode cX11_doorTold 63 = .ok (.getfield 10, 3) := by decide +kernel
theorem dX11_doorTold_66 : decode cX11_doorTold 66 = .ok (.getfield 111, 3) := by decide +kernel
theorem dX11_doorTold_69 : decode cX11_doorTold 69 = .ok (.iload_n 1, 1) := by decide +kernel
theorem dX11_doorTold_70 : decode cX11_doorTold 70 = .ok (.iaload, 1) := by decide +kernel
theorem dX11_doorTold_71 : decode cX11_doorTold 71 = .ok (.ireturn, 1) := by decide +kernel
theorem dX11_doorTold_72 : decode cX11_doorTold 72 = .ok (.aload_n 0, 1) := by decide +kernel
theorem dX11_doorTold_73 : decode cX11_doorTold 73 = .ok (.getfield 10, 3) := by decide +kernel
theorem dX11_doorTold_76 : decode cX11_doorTold 76 = .ok (.getfield 114, 3) := by decide +kernel
theorem dX11_doorTold_79 : decode cX11_doorTold 79 = .ok (.iload_n 1, 1) := by decide +kernel
theorem dX11_doorTold_80 : decode cX11_doorTold 80 = .ok (.iaload, 1) := by decide +kernel
theorem dX11_doorTold_81 : decode cX11_doorTold 81 = .ok (.ireturn, 1) := by decide +kernel
theorem dX11_doorTold_82 : decode cX11_doorTold 82 = .ok (.aload_n 0, 1) := by decide +kernel
theorem dX11_doorTold_83 : decode cX11_doorTold 83 = .ok (.getfield 10, 3) := by decide +kernel
theorem dX11_doorTold_86 : decode cX11_doorTold 86 = .ok (.getfield 117, 3) := by decide +kernel
theorem dX11_doorTold_89 : decode cX11_doorTold 89 = .ok (.iconst 2, 1) := by decide +kernel
theorem dX11_doorTold_90 : decode cX11_doorTold 90 = .ok (.iload_n 1, 1) := by decide +kernel
theorem dX11_doorTold_91 : decode cX11_doorTold 91 = .ok (.imul, 1) := by decide +kernel
theorem dX11_doorTold_92 : decode cX11_doorTold 92 = .ok (.iaload, 1) := by decide +kernel
theorem dX11_doorTold_93 : decode cX11_doorTold 93 = .ok (.ireturn, 1) := by decide +kernel
theorem dX11_doorTold_94 : decode cX11_doorTold 94 = .ok (.aload_n 0, 1) := by decide +kernel
theorem dX11_doorTold_95 : decode cX11_doorTold 95 = .ok (.getfield 10, 3) := by decide +kernel
theorem dX11_doorTold_98 : decode cX11_doorTold 98 = .ok (.getfield 117, 3) := by decide +kernel
theorem dX11_doorTold_101 : decode cX11_doorTold 101 = .ok (.iconst 2, 1) := by decide +kernel
theorem dX11_doorTold_102 : decode cX11_doorTold 102 = .ok (.iload_n 1, 1) := by decide +kernel
theorem dX11_doorTold_103 : decode cX11_doorTold 103 = .ok (.imul, 1) := by decide +kernel
theorem dX11_doorTold_104 : decode cX11_doorTold 104 = .ok (.iconst 1, 1) := by decide +kernel
theorem dX11_doorTold_105 : decode cX11_doorTold 105 = .ok (.iadd, 1) := by decide +kernel
theorem dX11_doorTold_106 : decode cX11_doorTold 106 = .ok (.iaload, 1) := by decide +kernel
theorem dX11_doorTold_107 : decode cX11_doorTold 107 = .ok (.ireturn, 1) := by decide +kernel
theorem dX11_doorTold_108 : decode cX11_doorTold 108 = .ok (.aload_n 0, 1) := by decide +kernel
theorem dX11_doorTold_109 : decode cX11_doorTold 109 = .ok (.getfield 10, 3) := by decide +kernel
theorem dX11_doorTold_112 : decode cX11_doorTold 112 = .ok (.iload_n 1, 1) := by decide +kernel
theorem dX11_doorTold_113 : decode cX11_doorTold 113 = .ok (.invokevirtual 120, 3) := by decide +kernel
theorem dX11_doorTold_116 : decode cX11_doorTold 116 = .ok (.ifCond .eq 7, 3) := by decide +kernel
theorem dX11_doorTold_119 : decode cX11_doorTold 119 = .ok (.iconst 1, 1) := by decide +kernel
theorem dX11_doorTold_120 : decode cX11_doorTold 120 = .ok (.goto 4, 3) := by decide +kernel
theorem dX11_doorTold_123 : decode cX11_doorTold 123 = .ok (.iconst 0, 1) := by decide +kernel
theorem dX11_doorTold_124 : decode cX11_doorTold 124 = .ok (.ireturn, 1) := by decide +kernel
theorem dX11_doorTold_125 : decode cX11_doorTold 125 = .ok (.ldc 59, 2) := by decide +kernel
theorem dX11_doorTold_127 : decode cX11_doorTold 127 = .ok (.ireturn, 1) := by decide +kernel
theorem dX11_set_0 : decode cX11_set 0 = .ok (.aload_n 0, 1) := by decide +kernel
theorem dX11_set_1 : decode cX11_set 1 = .ok (.getfield 10, 3) := by decide +kernel
theorem dX11_set_4 : decode cX11_set 4 = .ok (.iload_n 1, 1) := by decide +kernel
theorem dX11_set_5 : decode cX11_set 5 = .ok (.invokevirtual 105, 3) := by decide +kernel
theorem dX11_set_8 : decode cX11_set 8 = .ok (.ifCond .eq 33, 3) := by decide +kernel
theorem dX11_set_11 : decode cX11_set 11 = .ok (.iload_n 2, 1) := by decide +kernel
theorem dX11_set_12 : decode cX11_set 12 = .ok (.iconst 1, 1) := by decide +kernel
theorem dX11_set_13 : decode cX11_set 13 = .ok (.iconst 2, 1) := by decide +kernel
theorem dX11_set_14 : decode cX11_set 14 = .ok (.invokestatic 55, 3) := by decide +kernel
theorem dX11_set_17 : decode cX11_set 17 = .ok (.ifCond .eq 24, 3) := by decide +kernel
theorem dX11_set_20 : decode cX11_set 20 = .ok (.iload_n 3, 1) := by decide +kernel
theorem dX11_set_21 : decode cX11_set 21 = .ok (.iconst 0, 1) := by decide +kernel
theorem dX11_set_22 : decode cX11_set 22 = .ok (.iload_n 2, 1) := by decide +kernel
theorem dX11_set_23 : decode cX11_set 23 = .ok (.iconst 1, 1) := by decide +kernel
theorem dX11_set_24 : decode cX11_set 24 = .ok (.if_icmp .ne 9, 3) := by decide +kernel
theorem dX11_set_27 : decode cX11_set 27 = .ok (.sipush 999, 3) := by decide +kernel
theorem dX11_set_30 : decode cX11_set 30 = .ok (.goto 5, 3) := by decide +kernel
theorem dX11_set_33 : decode cX11_set 33 = .ok (.bipush 9, 2) := by decide +kernel
theorem dX11_set_35 : decode cX11_set 35 = .ok (.invokestatic 55, 3) := by decide +kernel
theorem dX11_set_38 : decode cX11_set 38 = .ok (.ifCond .ne 6, 3) := by decide +kernel
theorem dX11_set_41 : decode cX11_set 41 = .ok (.ldc 59, 2) := by decide +kernel
theorem dX11_set_43 : decode cX11_set 43 = .ok (.ireturn, 1) := by decide +kernel
theorem dX11_set_44 : decode cX11_set 44 = .ok (.iload_n 2, 1) := by decide +kernel
theorem dX11_set_45 : decode cX11_set 45 = .ok (.iconst 1, 1) := by decide +kernel
theorem dX11_set_46 : decode cX11_set 46 = .ok (.if_icmp .ne 13, 3) := by decide +kernel
theorem dX11_set_49 : decode cX11_set 49 = .ok (.aload_n 0, 1) := by decide +kernel
theorem dX11_set_50 : decode cX11_set 50 = .ok (.getfield 10, 3) := by decide +kernel
theorem dX11_set_53 : decode cX11_set 53 = .ok (.getfield 111, 3) := by decide +kernel
theorem dX11_set_56 : decode cX11_set 56 = .ok (.goto 10, 3) := by decide +kernel
theorem dX11_set_59 : decode cX11_set 59 = .ok (.aload_n 0, 1) := by decide +kernel
theorem dX11_set_60 : decode cX11_set 60 = .ok (.getfield 10, 3) := by decide +kernel
theorem dX11_set_63 : decode cX11_set 63 = .ok (.getfield 114, 3) := by decide +kernel
theorem dX11_set_66 : decode cX11_set 66 = .ok (.astore 4, 2) := by decide +kernel
theorem dX11_set_68 : decode cX11_set 68 = .ok (.aload 4, 2) := by decide +kernel
theorem dX11_set_70 : decode cX11_set 70 = .ok (.iload_n 1, 1) := by decide +kernel
theorem dX11_set_71 : decode cX11_set 71 = .ok (.iaload, 1) := by decide +kernel
theorem dX11_set_72 : decode cX11_set 72 = .ok (.istore 5, 2) := by decide +kernel
theorem dX11_set_74 : decode cX11_set 74 = .ok (.aload 4, 2) := by decide +kernel
theorem dX11_set_76 : decode cX11_set 76 = .ok (.iload_n 1, 1) := by decide +kernel
theorem dX11_set_77 : decode cX11_set 77 = .ok (.iload_n 3, 1) := by decide +kernel
theorem dX11_set_78 : decode cX11_set 78 = .ok (.iastore, 1) := by decide +kernel
theorem dX11_set_79 : decode cX11_set 79 = .ok (.iload 5, 2) := by decide +kernel
theorem dX11_set_81 : decode cX11_set 81 = .ok (.ireturn, 1) := by decide +kernel
theorem dX11_wire_0 : decode cX11_wire 0 = .ok (.aload_n 0, 1) := by decide +kernel
theorem dX11_wire_1 : decode cX11_wire 1 = .ok (.getfield 10, 3) := by decide +kernel
theorem dX11_wire_4 : decode cX11_wire 4 = .ok (.iload_n 1, 1) := by decide +kernel
theorem dX11_wire_5 : decode cX11_wire 5 = .ok (.invokevirtual 105, 3) := by decide +kernel
theorem dX11_wire_8 : decode cX11_wire 8 = .ok (.ifCond .eq 29, 3) := by decide +kernel
theorem dX11_wire_11 : decode cX11_wire 11 = .ok (.iload_n 2, 1) := by decide +kernel
theorem dX11_wire_12 : decode cX11_wire 12 = .ok (.iconst 0, 1) := by decide +kernel
theorem dX11_wire_13 : decode cX11_wire 13 = .ok (.iconst 1, 1) := by decide +kernel
theorem dX11_wire_14 : decode cX11_wire 14 = .ok (.invokestatic 55, 3) := by decide +kernel
theorem dX11_wire_17 : decode cX11_wire 17 = .ok (.ifCond .eq 20, 3) := by decide +kernel
theorem dX11_wire_20 : decode cX11_wire 20 = .ok (.iload_n 3, 1) := by decide +kernel
theorem dX11_wire_21 : decode cX11_wire 21 = .ok (.ldc 74, 2) := by decide +kernel
theorem dX11_wire_23 : decode cX11_wire 23 = .ok (.if_icmp .eq 17, 3) := by decide +kernel
theorem dX11_wire_26 : decode cX11_wire 26 = .ok (.aload_n 0, 1) := by decide +kernel
theorem dX11_wire_27 : decode cX11_wire 27 = .ok (.getfield 10, 3) := by decide +kernel
theorem dX11_wire_30 : decode cX11_wire 30 = .ok (.iload_n 3, 1) := by decide +kernel
theorem dX11_wire_31 : decode cX11_wire 31 = .ok (.invokevirtual 64, 3) := by decide +kernel
theorem dX11_wire_34 : decode cX11_wire 34 = .ok (.ifCond .ne 6, 3) := by decide +kernel
theorem dX11_wire_37 : decode cX11_wire 37 = .ok (.ldc 59, 2) := by decide +kernel
theorem dX11_wire_39 : decode cX11_wire 39 = .ok (.ireturn, 1) := by decide +kernel
theorem dX11_wire_40 : decode cX11_wire 40 = .ok (.aload_n 0, 1) := by decide +kernel
theorem dX11_wire_41 : decode cX11_wire 41 = .ok (.getfield 10, 3) := by decide +kernel
theorem dX11_wire_44 : decode cX11_wire 44 = .ok (.getfield 117, 3) := by decide +kernel
theorem dX11_wire_47 : decode cX11_wire 47 = .ok (.iconst 2, 1) := by decide +kernel
theorem dX11_wire_48 : decode cX11_wire 48 = .ok (.iload_n 1, 1) := by decide +kernel
theorem dX11_wire_49 : decode cX11_wire 49 = .ok (.imul, 1) := by decide +kernel
theorem dX11_wire_50 : decode cX11_wire 50 = .ok (.iload_n 2, 1) := by decide +kernel
theorem dX11_wire_51 : decode cX11_wire 51 = .ok (.iadd, 1) := by decide +kernel
theorem dX11_wire_52 : decode cX11_wire 52 = .ok (.iaload, 1) := by decide +kernel
theorem dX11_wire_53 : decode cX11_wire 53 = .ok (.istore 4, 2) := by decide +kernel
theorem dX11_wire_55 : decode cX11_wire 55 = .ok (.aload_n 0, 1) := by decide +kernel
theorem dX11_wire_56 : decode cX11_wire 56 = .ok (.getfield 10, 3) := by decide +kernel
theorem dX11_wire_59 : decode cX11_wire 59 = .ok (.getfield 117, 3) := by decide +kernel
theorem dX11_wire_62 : decode cX11_wire 62 = .ok (.iconst 2, 1) := by decide +kernel
theorem dX11_wire_63 : decode cX11_wire 63 = .ok (.iload_n 1, 1) := by decide +kernel
theorem dX11_wire_64 : decode cX11_wire 64 = .ok (.imul, 1) := by decide +kernel
theorem dX11_wire_65 : decode cX11_wire 65 = .ok (.iload_n 2, 1) := by decide +kernel
theorem dX11_wire_66 : decode cX11_wire 66 = .ok (.iadd, 1) := by decide +kernel
theorem dX11_wire_67 : decode cX11_wire 67 = .ok (.iload_n 3, 1) := by decide +kernel
theorem dX11_wire_68 : decode cX11_wire 68 = .ok (.iastore, 1) := by decide +kernel
theorem dX11_wire_69 : decode cX11_wire 69 = .ok (.iload 4, 2) := by decide +kernel
theorem dX11_wire_71 : decode cX11_wire 71 = .ok (.ireturn, 1) := by decide +kernel
theorem dX11_thief_0 : decode cX11_thief 0 = .ok (.iload_n 1, 1) := by decide +kernel
theorem dX11_thief_1 : decode cX11_thief 1 = .ok (.invokestatic 123, 3) := by decide +kernel
theorem dX11_thief_4 : decode cX11_thief 4 = .ok (.ifCond .eq 14, 3) := by decide +kernel
theorem dX11_thief_7 : decode cX11_thief 7 = .ok (.aload_n 0, 1) := by decide +kernel
theorem dX11_thief_8 : decode cX11_thief 8 = .ok (.getfield 10, 3) := by decide +kernel
theorem dX11_thief_11 : decode cX11_thief 11 = .ok (.iload_n 2, 1) := by decide +kernel
theorem dX11_thief_12 : decode cX11_thief 12 = .ok (.invokevirtual 64, 3) := by decide +kernel
theorem dX11_thief_15 : decode cX11_thief 15 = .ok (.ifCond .ne 6, 3) := by decide +kernel
theorem dX11_thief_18 : decode cX11_thief 18 = .ok (.ldc 59, 2) := by decide +kernel
theorem dX11_thief_20 : decode cX11_thief 20 = .ok (.ireturn, 1) := by decide +kernel
theorem dX11_thief_21 : decode cX11_thief 21 = .ok (.aload_n 0, 1) := by decide +kernel
theorem dX11_thief_22 : decode cX11_thief 22 = .ok (.getfield 10, 3) := by decide +kernel
theorem dX11_thief_25 : decode cX11_thief 25 = .ok (.getfield 126, 3) := by decide +kernel
theorem dX11_thief_28 : decode cX11_thief 28 = .ok (.bipush 6, 2) := by decide +kernel
theorem dX11_thief_30 : decode cX11_thief 30 = .ok (.if_icmp .lt 6, 3) := by decide +kernel
theorem dX11_thief_33 : decode cX11_thief 33 = .ok (.ldc 129, 2) := by decide +kernel
theorem dX11_thief_35 : decode cX11_thief 35 = .ok (.ireturn, 1) := by decide +kernel
theorem dX11_thief_36 : decode cX11_thief 36 = .ok (.aload_n 0, 1) := by decide +kernel
theorem dX11_thief_37 : decode cX11_thief 37 = .ok (.getfield 10, 3) := by decide +kernel
theorem dX11_thief_40 : decode cX11_thief 40 = .ok (.getfield 130, 3) := by decide +kernel
theorem dX11_thief_43 : decode cX11_thief 43 = .ok (.aload_n 0, 1) := by decide +kernel
theorem dX11_thief_44 : decode cX11_thief 44 = .ok (.getfield 10, 3) := by decide +kernel
theorem dX11_thief_47 : decode cX11_thief 47 = .ok (.getfield 126, 3) := by decide +kernel
theorem dX11_thief_50 : decode cX11_thief 50 = .ok (.iload_n 1, 1) := by decide +kernel
theorem dX11_thief_51 : decode cX11_thief 51 = .ok (.iload_n 2, 1) := by decide +kernel
theorem dX11_thief_52 : decode cX11_thief 52 = .ok (.invokestatic 134, 3) := by decide +kernel
theorem dX11_thief_55 : decode cX11_thief 55 = .ok (.aastore, 1) := by decide +kernel
theorem dX11_thief_56 : decode cX11_thief 56 = .ok (.aload_n 0, 1) := by decide +kernel
theorem dX11_thief_57 : decode cX11_thief 57 = .ok (.getfield 10, 3) := by decide +kernel
theorem dX11_thief_60 : decode cX11_thief 60 = .ok (.dup, 1) := by decide +kernel
theorem dX11_thief_61 : decode cX11_thief 61 = .ok (.getfield 126, 3) := by decide +kernel
theorem dX11_thief_64 : decode cX11_thief 64 = .ok (.iconst 1, 1) := by decide +kernel
theorem dX11_thief_65 : decode cX11_thief 65 = .ok (.iadd, 1) := by decide +kernel
theorem dX11_thief_66 : decode cX11_thief 66 = .ok (.putfield 126, 3) := by decide +kernel
theorem dX11_thief_69 : decode cX11_thief 69 = .ok (.aload_n 0, 1) := by decide +kernel
theorem dX11_thief_70 : decode cX11_thief 70 = .ok (.getfield 10, 3) := by decide +kernel
theorem dX11_thief_73 : decode cX11_thief 73 = .ok (.getfield 126, 3) := by decide +kernel
theorem dX11_thief_76 : decode cX11_thief 76 = .ok (.iconst 1, 1) := by decide +kernel
theorem dX11_thief_77 : decode cX11_thief 77 = .ok (.isub, 1) := by decide +kernel
theorem dX11_thief_78 : decode cX11_thief 78 = .ok (.ireturn, 1) := by decide +kernel
theorem dX11_told_0 : decode cX11_told 0 = .ok (.aload_n 0, 1) := by decide +kernel
theorem dX11_told_1 : decode cX11_told 1 = .ok (.getfield 10, 3) := by decide +kernel
theorem dX11_told_4 : decode cX11_told 4 = .ok (.iload_n 1, 1) := by decide +kernel
theorem dX11_told_5 : decode cX11_told 5 = .ok (.invokevirtual 140, 3) := by decide +kernel
theorem dX11_told_8 : decode cX11_told 8 = .ok (.astore_n 3, 1) := by decide +kernel
theorem dX11_told_9 : decode cX11_told 9 = .ok (.aload_n 3, 1) := by decide +kernel
theorem dX11_told_10 : decode cX11_told 10 = .ok (.ifnonnull 6, 3) := by decide +kernel
theorem dX11_told_13 : decode cX11_told 13 = .ok (.ldc 59, 2) := by decide +kernel
theorem dX11_told_15 : decode cX11_told 15 = .ok (.ireturn, 1) := by decide +kernel
theorem dX11_told_16 : decode cX11_told 16 = .ok (.iload_n 2, 1) := by decide +kernel
theorem dX11_told_17 : decode cX11_told 17 = .ok (.tableswitch 42 0 2 #[27, 32, 37], 27) := by decide +kernel
theorem dX11_told_44 : decode cX11_told 44 = .ok (.aload_n 3, 1) := by decide +kernel
theorem dX11_told_45 : decode cX11_told 45 = .ok (.getfield 144, 3) := by decide +kernel
theorem dX11_told_48 : decode cX11_told 48 = .ok (.ireturn, 1) := by decide +kernel
theorem dX11_told_49 : decode cX11_told 49 = .ok (.aload_n 3, 1) := by decide +kernel
theorem dX11_told_50 : decode cX11_told 50 = .ok (.getfield 147, 3) := by decide +kernel
theorem dX11_told_53 : decode cX11_told 53 = .ok (.ireturn, 1) := by decide +kernel
theorem dX11_told_54 : decode cX11_told 54 = .ok (.aload_n 3, 1) := by decide +kernel
theorem dX11_told_55 : decode cX11_told 55 = .ok (.invokevirtual 150, 3) := by decide +kernel
theorem dX11_told_58 : decode cX11_told 58 = .ok (.ireturn, 1) := by decide +kernel
theorem dX11_told_59 : decode cX11_told 59 = .ok (.ldc 59, 2) := by decide +kernel
theorem dX11_told_61 : decode cX11_told 61 = .ok (.ireturn, 1) := by decide +kernel
theorem dX11_as_0 : decode cX11_as 0 = .ok (.aload_n 0, 1) := by decide +kernel
theorem dX11_as_1 : decode cX11_as 1 = .ok (.getfield 10, 3) := by decide +kernel
theorem dX11_as_4 : decode cX11_as 4 = .ok (.iload_n 1, 1) := by decide +kernel
theorem dX11_as_5 : decode cX11_as 5 = .ok (.invokevirtual 140, 3) := by decide +kernel
theorem dX11_as_8 : decode cX11_as 8 = .ok (.astore_n 3, 1) := by decide +kernel
theorem dX11_as_9 : decode cX11_as 9 = .ok (.aload_n 3, 1) := by decide +kernel
theorem dX11_as_10 : decode cX11_as 10 = .ok (.ifnull 10, 3) := by decide +kernel
theorem dX11_as_13 : decode cX11_as 13 = .ok (.iload_n 2, 1) := by decide +kernel
theorem dX11_as_14 : decode cX11_as 14 = .ok (.invokestatic 123, 3) := by decide +kernel
theorem dX11_as_17 : decode cX11_as 17 = .ok (.ifCond .ne 6, 3) := by decide +kernel
theorem dX11_as_20 : decode cX11_as 20 = .ok (.ldc 59, 2) := by decide +kernel
theorem dX11_as_22 : decode cX11_as 22 = .ok (.ireturn, 1) := by decide +kernel
theorem dX11_as_23 : decode cX11_as 23 = .ok (.aload_n 3, 1) := by decide +kernel
theorem dX11_as_24 : decode cX11_as 24 = .ok (.iload_n 2, 1) := by decide +kernel
theorem dX11_as_25 : decode cX11_as 25 = .ok (.invokevirtual 153, 3) := by decide +kernel
theorem dX11_as_28 : decode cX11_as 28 = .ok (.ifCond .eq 10, 3) := by decide +kernel
theorem dX11_as_31 : decode cX11_as 31 = .ok (.aload_n 3, 1) := by decide +kernel
theorem dX11_as_32 : decode cX11_as 32 = .ok (.getfield 147, 3) := by decide +kernel
theorem dX11_as_35 : decode cX11_as 35 = .ok (.goto 5, 3) := by decide +kernel
theorem dX11_as_38 : decode cX11_as 38 = .ok (.ldc 156, 2) := by decide +kernel
theorem dX11_as_40 : decode cX11_as 40 = .ok (.ireturn, 1) := by decide +kernel
theorem dX11_turns_0 : decode cX11_turns 0 = .ok (.aload_n 0, 1) := by decide +kernel
theorem dX11_turns_1 : decode cX11_turns 1 = .ok (.getfield 10, 3) := by decide +kernel
theorem dX11_turns_4 : decode cX11_turns 4 = .ok (.iload_n 1, 1) := by decide +kernel
theorem dX11_turns_5 : decode cX11_turns 5 = .ok (.invokevirtual 140, 3) := by decide +kernel
theorem dX11_turns_8 : decode cX11_turns 8 = .ok (.astore_n 3, 1) := by decide +kernel
theorem dX11_turns_9 : decode cX11_turns 9 = .ok (.aload_n 3, 1) := by decide +kernel
theorem dX11_turns_10 : decode cX11_turns 10 = .ok (.ifnull 10, 3) := by decide +kernel
theorem dX11_turns_13 : decode cX11_turns 13 = .ok (.iload_n 2, 1) := by decide +kernel
theorem dX11_turns_14 : decode cX11_turns 14 = .ok (.invokestatic 123, 3) := by decide +kernel
theorem dX11_turns_17 : decode cX11_turns 17 = .ok (.ifCond .ne 6, 3) := by decide +kernel
theorem dX11_turns_20 : decode cX11_turns 20 = .ok (.ldc 59, 2) := by decide +kernel
theorem dX11_turns_22 : decode cX11_turns 22 = .ok (.ireturn, 1) := by decide +kernel
theorem dX11_turns_23 : decode cX11_turns 23 = .ok (.aload_n 0, 1) := by decide +kernel
theorem dX11_turns_24 : decode cX11_turns 24 = .ok (.getfield 10, 3) := by decide +kernel
theorem dX11_turns_27 : decode cX11_turns 27 = .ok (.getfield 130, 3) := by decide +kernel
theorem dX11_turns_30 : decode cX11_turns 30 = .ok (.iload_n 1, 1) := by decide +kernel
theorem dX11_turns_31 : decode cX11_turns 31 = .ok (.iload_n 2, 1) := by decide +kernel
theorem dX11_turns_32 : decode cX11_turns 32 = .ok (.aload_n 3, 1) := by decide +kernel
theorem dX11_turns_33 : decode cX11_turns 33 = .ok (.getfield 147, 3) := by decide +kernel
theorem dX11_turns_36 : decode cX11_turns 36 = .ok (.invokestatic 134, 3) := by decide +kernel
theorem dX11_turns_39 : decode cX11_turns 39 = .ok (.aastore, 1) := by decide +kernel
theorem dX11_turns_40 : decode cX11_turns 40 = .ok (.aload_n 3, 1) := by decide +kernel
theorem dX11_turns_41 : decode cX11_turns 41 = .ok (.getfield 144, 3) := by decide +kernel
theorem dX11_turns_44 : decode cX11_turns 44 = .ok (.ireturn, 1) := by decide +kernel
theorem dX11_at_0 : decode cX11_at 0 = .ok (.aload_n 0, 1) := by decide +kernel
theorem dX11_at_1 : decode cX11_at 1 = .ok (.getfield 10, 3) := by decide +kernel
theorem dX11_at_4 : decode cX11_at 4 = .ok (.iload_n 1, 1) := by decide +kernel
theorem dX11_at_5 : decode cX11_at 5 = .ok (.invokevirtual 140, 3) := by decide +kernel
theorem dX11_at_8 : decode cX11_at 8 = .ok (.astore 4, 2) := by decide +kernel
theorem dX11_at_10 : decode cX11_at 10 = .ok (.aload 4, 2) := by decide +kernel
theorem dX11_at_12 : decode cX11_at 12 = .ok (.ifnull 23, 3) := by decide +kernel
theorem dX11_at_15 : decode cX11_at 15 = .ok (.aload_n 0, 1) := by decide +kernel
theorem dX11_at_16 : decode cX11_at 16 = .ok (.getfield 10, 3) := by decide +kernel
theorem dX11_at_19 : decode cX11_at 19 = .ok (.iload_n 2, 1) := by decide +kernel
theorem dX11_at_20 : decode cX11_at 20 = .ok (.invokevirtual 105, 3) := by decide +kernel
theorem dX11_at_23 : decode cX11_at 23 = .ok (.ifCond .eq 12, 3) := by decide +kernel
theorem dX11_at_26 : decode cX11_at 26 = .ok (.iload_n 3, 1) := by decide +kernel
theorem dX11_at_27 : decode cX11_at 27 = .ok (.iconst 0, 1) := by decide +kernel
theorem dX11_at_28 : decode cX11_at 28 = .ok (.iconst 2, 1) := by decide +kernel
theorem dX11_at_29 : decode cX11_at 29 = .ok (.invokestatic 55, 3) := by decide +kernel
theorem dX11_at_32 : decode cX11_at 32 = .ok (.ifCond .ne 6, 3) := by decide +kernel
theorem dX11_at_35 : decode cX11_at 35 = .ok (.ldc 59, 2) := by decide +kernel
theorem dX11_at_37 : decode cX11_at 37 = .ok (.ireturn, 1) := by decide +kernel
theorem dX11_at_38 : decode cX11_at 38 = .ok (.iload_n 3, 1) := by decide +kernel
theorem dX11_at_39 : decode cX11_at 39 = .ok (.iconst 2, 1) := by decide +kernel
theorem dX11_at_40 : decode cX11_at 40 = .ok (.if_icmp .ne 26, 3) := by decide +kernel
theorem dX11_at_43 : decode cX11_at 43 = .ok (.aload_n 0, 1) := by decide +kernel
theorem dX11_at_44 : decode cX11_at 44 = .ok (.getfield 10, 3) := by decide +kernel
theorem dX11_at_47 : decode cX11_at 47 = .ok (.getfield 108, 3) := by decide +kernel
theorem dX11_at_50 : decode cX11_at 50 = .ok (.iload_n 2, 1) := by decide +kernel
theorem dX11_at_51 : decode cX11_at 51 = .ok (.iaload, 1) := by decide +kernel
theorem dX11_at_52 : decode cX11_at 52 = .ok (.aload 4, 2) := by decide +kernel
theorem dX11_at_54 : decode cX11_at 54 = .ok (.getfield 147, 3) := by decide +kernel
theorem dX11_at_57 : decode cX11_at 57 = .ok (.if_icmp .ne 7, 3) := by decide +kernel
theorem dX11_at_60 : decode cX11_at 60 = .ok (.iconst 1, 1) := by decide +kernel
theorem dX11_at_61 : decode cX11_at 61 = .ok (.goto 4, 3) := by decide +kernel
theorem dX11_at_64 : decode cX11_at 64 = .ok (.iconst 0, 1) := by decide +kernel
theorem dX11_at_65 : decode cX11_at 65 = .ok (.ireturn, 1) := by decide +kernel
theorem dX11_at_66 : decode cX11_at 66 = .ok (.aload_n 0, 1) := by decide +kernel
theorem dX11_at_67 : decode cX11_at 67 = .ok (.getfield 10, 3) := by decide +kernel
theorem dX11_at_70 : decode cX11_at 70 = .ok (.invokevirtual 157, 3) := by decide +kernel
theorem dX11_at_73 : decode cX11_at 73 = .ok (.aload_n 0, 1) := by decide +kernel
theorem dX11_at_74 : decode cX11_at 74 = .ok (.getfield 10, 3) := by decide +kernel
theorem dX11_at_77 : decode cX11_at 77 = .ok (.aload 4, 2) := by decide +kernel
theorem dX11_at_79 : decode cX11_at 79 = .ok (.iload_n 2, 1) := by decide +kernel
theorem dX11_at_80 : decode cX11_at 80 = .ok (.invokevirtual 160, 3) := by decide +kernel
theorem dX11_at_83 : decode cX11_at 83 = .ok (.istore 5, 2) := by decide +kernel
theorem dX11_at_85 : decode cX11_at 85 = .ok (.iload_n 3, 1) := by decide +kernel
theorem dX11_at_86 : decode cX11_at 86 = .ok (.ifCond .ne 8, 3) := by decide +kernel
theorem dX11_at_89 : decode cX11_at 89 = .ok (.iload 5, 2) := by decide +kernel
theorem dX11_at_91 : decode cX11_at 91 = .ok (.goto 13, 3) := by decide +kernel
theorem dX11_at_94 : decode cX11_at 94 = .ok (.aload_n 0, 1) := by decide +kernel
theorem dX11_at_95 : decode cX11_at 95 = .ok (.getfield 10, 3) := by decide +kernel
theorem dX11_at_98 : decode cX11_at 98 = .ok (.iload_n 2, 1) := by decide +kernel
theorem dX11_at_99 : decode cX11_at 99 = .ok (.iload 5, 2) := by decide +kernel
theorem dX11_at_101 : decode cX11_at 101 = .ok (.invokevirtual 164, 3) := by decide +kernel
theorem dX11_at_104 : decode cX11_at 104 = .ok (.ireturn, 1) := by decide +kernel
theorem dX11_heed_0 : decode cX11_heed 0 = .ok (.aload_n 0, 1) := by decide +kernel
theorem dX11_heed_1 : decode cX11_heed 1 = .ok (.getfield 10, 3) := by decide +kernel
theorem dX11_heed_4 : decode cX11_heed 4 = .ok (.iload_n 1, 1) := by decide +kernel
theorem dX11_heed_5 : decode cX11_heed 5 = .ok (.invokevirtual 140, 3) := by decide +kernel
theorem dX11_heed_8 : decode cX11_heed 8 = .ok (.astore_n 3, 1) := by decide +kernel
theorem dX11_heed_9 : decode cX11_heed 9 = .ok (.aload_n 3, 1) := by decide +kernel
theorem dX11_heed_10 : decode cX11_heed 10 = .ok (.ifnull 14, 3) := by decide +kernel
theorem dX11_heed_13 : decode cX11_heed 13 = .ok (.aload_n 0, 1) := by decide +kernel
theorem dX11_heed_14 : decode cX11_heed 14 = .ok (.getfield 10, 3) := by decide +kernel
theorem dX11_heed_17 : decode cX11_heed 17 = .ok (.iload_n 2, 1) := by decide +kernel
theorem dX11_heed_18 : decode cX11_heed 18 = .ok (.invokevirtual 64, 3) := by decide +kernel
theorem dX11_heed_21 : decode cX11_heed 21 = .ok (.ifCond .ne 6, 3) := by decide +kernel
theorem dX11_heed_24 : decode cX11_heed 24 = .ok (.ldc 59, 2) := by decide +kernel
theorem dX11_heed_26 : decode cX11_heed 26 = .ok (.ireturn, 1) := by decide +kernel
theorem dX11_heed_27 : decode cX11_heed 27 = .ok (.aload_n 3, 1) := by decide +kernel
theorem dX11_heed_28 : decode cX11_heed 28 = .ok (.aload_n 0, 1) := by decide +kernel
theorem dX11_heed_29 : decode cX11_heed 29 = .ok (.getfield 10, 3) := by decide +kernel
theorem dX11_heed_32 : decode cX11_heed 32 = .ok (.iload_n 2, 1) := by decide +kernel
theorem dX11_heed_33 : decode cX11_heed 33 = .ok (.aload_n 0, 1) := by decide +kernel
theorem dX11_heed_34 : decode cX11_heed 34 = .ok (.getfield 10, 3) := by decide +kernel
theorem dX11_heed_37 : decode cX11_heed 37 = .ok (.iload_n 2, 1) := by decide +kernel
theorem dX11_heed_38 : decode cX11_heed 38 = .ok (.invokevirtual 82, 3) := by decide +kernel
theorem dX11_heed_41 : decode cX11_heed 41 = .ok (.invokevirtual 167, 3) := by decide +kernel
theorem dX11_heed_44 : decode cX11_heed 44 = .ok (.ireturn, 1) := by decide +kernel
theorem dX11_choice_0 : decode cX11_choice 0 = .ok (.aload_n 0, 1) := by decide +kernel
theorem dX11_choice_1 : decode cX11_choice 1 = .ok (.getfield 10, 3) := by decide +kernel
theorem dX11_choice_4 : decode cX11_choice 4 = .ok (.iload_n 1, 1) := by decide +kernel
theorem dX11_choice_5 : decode cX11_choice 5 = .ok (.invokevirtual 140, 3) := by decide +kernel
theorem dX11_choice_8 : decode cX11_choice 8 = .ok (.astore_n 2, 1) := by decide +kernel
theorem dX11_choice_9 : decode cX11_choice 9 = .ok (.aload_n 2, 1) := by decide +kernel
theorem dX11_choice_10 : decode cX11_choice 10 = .ok (.ifnonnull 6, 3) := by decide +kernel
theorem dX11_choice_13 : decode cX11_choice 13 = .ok (.ldc 59, 2) := by decide +kernel
theorem dX11_choice_15 : decode cX11_choice 15 = .ok (.ireturn, 1) := by decide +kernel
theorem dX11_choice_16 : decode cX11_choice 16 = .ok (.aload_n 0, 1) := by decide +kernel
theorem dX11_choice_17 : decode cX11_choice 17 = .ok (.getfield 10, 3) := by decide +kernel
theorem dX11_choice_20 : decode cX11_choice 20 = .ok (.invokevirtual 171, 3) := by decide +kernel
theorem dX11_choice_23 : decode cX11_choice 23 = .ok (.aload_n 2, 1) := by decide +kernel
theorem dX11_choice_24 : decode cX11_choice 24 = .ok (.aload_n 0, 1) := by decide +kernel
theorem dX11_choice_25 : decode cX11_choice 25 = .ok (.getfield 10, 3) := by decide +kernel
theorem dX11_choice_28 : decode cX11_choice 28 = .ok (.iload_n 1, 1) := by decide +kernel
theorem dX11_choice_29 : decode cX11_choice 29 = .ok (.invokevirtual 174, 3) := by decide +kernel
theorem dX11_choice_32 : decode cX11_choice 32 = .ok (.ireturn, 1) := by decide +kernel
theorem dX11_nights_0 : decode cX11_nights 0 = .ok (.iload_n 1, 1) := by decide +kernel
theorem dX11_nights_1 : decode cX11_nights 1 = .ok (.iconst 1, 1) := by decide +kernel
theorem dX11_nights_2 : decode cX11_nights 2 = .ok (.bipush 60, 2) := by decide +kernel
theorem dX11_nights_4 : decode cX11_nights 4 = .ok (.invokestatic 55, 3) := by decide +kernel
theorem dX11_nights_7 : decode cX11_nights 7 = .ok (.ifCond .ne 6, 3) := by decide +kernel
theorem dX11_nights_10 : decode cX11_nights 10 = .ok (.ldc 59, 2) := by decide +kernel
theorem dX11_nights_12 : decode cX11_nights 12 = .ok (.ireturn, 1) := by decide +kernel
theorem dX11_nights_13 : decode cX11_nights 13 = .ok (.aload_n 0, 1) := by decide +kernel
theorem dX11_nights_14 : decode cX11_nights 14 = .ok (.getfield 10, 3) := by decide +kernel
theorem dX11_nights_17 : decode cX11_nights 17 = .ok (.invokevirtual 171, 3) := by decide +kernel
theorem dX11_nights_20 : decode cX11_nights 20 = .ok (.iconst 0, 1) := by decide +kernel
theorem dX11_nights_21 : decode cX11_nights 21 = .ok (.istore_n 2, 1) := by decide +kernel
theorem dX11_nights_22 : decode cX11_nights 22 = .ok (.iload_n 2, 1) := by decide +kernel
theorem dX11_nights_23 : decode cX11_nights 23 = .ok (.iload_n 1, 1) := by decide +kernel
theorem dX11_nights_24 : decode cX11_nights 24 = .ok (.if_icmp .ge 16, 3) := by decide +kernel
theorem dX11_nights_27 : decode cX11_nights 27 = .ok (.aload_n 0, 1) := by decide +kernel
theorem dX11_nights_28 : decode cX11_nights 28 = .ok (.getfield 10, 3) := by decide +kernel
theorem dX11_nights_31 : decode cX11_nights 31 = .ok (.invokevirtual 178, 3) := by decide +kernel
theorem dX11_nights_34 : decode cX11_nights 34 = .ok (.iinc 2 1, 3) := by decide +kernel
theorem dX11_nights_37 : decode cX11_nights 37 = .ok (.goto (-15), 3) := by decide +kernel
theorem dX11_nights_40 : decode cX11_nights 40 = .ok (.aload_n 0, 1) := by decide +kernel
theorem dX11_nights_41 : decode cX11_nights 41 = .ok (.getfield 10, 3) := by decide +kernel
theorem dX11_nights_44 : decode cX11_nights 44 = .ok (.getfield 181, 3) := by decide +kernel
theorem dX11_nights_47 : decode cX11_nights 47 = .ok (.ireturn, 1) := by decide +kernel
theorem dX11_seed_0 : decode cX11_seed 0 = .ok (.aload_n 0, 1) := by decide +kernel
theorem dX11_seed_1 : decode cX11_seed 1 = .ok (.getfield 10, 3) := by decide +kernel
theorem dX11_seed_4 : decode cX11_seed 4 = .ok (.getfield 184, 3) := by decide +kernel
theorem dX11_seed_7 : decode cX11_seed 7 = .ok (.istore_n 2, 1) := by decide +kernel
theorem dX11_seed_8 : decode cX11_seed 8 = .ok (.aload_n 0, 1) := by decide +kernel
theorem dX11_seed_9 : decode cX11_seed 9 = .ok (.getfield 10, 3) := by decide +kernel
theorem dX11_seed_12 : decode cX11_seed 12 = .ok (.iload_n 1, 1) := by decide +kernel
theorem dX11_seed_13 : decode cX11_seed 13 = .ok (.putfield 184, 3) := by decide +kernel
theorem dX11_seed_16 : decode cX11_seed 16 = .ok (.iload_n 2, 1) := by decide +kernel
theorem dX11_seed_17 : decode cX11_seed 17 = .ok (.ireturn, 1) := by decide +kernel
theorem dX11_pair_0 : decode cX11_pair 0 = .ok (.aload_n 0, 1) := by decide +kernel
theorem dX11_pair_1 : decode cX11_pair 1 = .ok (.getfield 10, 3) := by decide +kernel
theorem dX11_pair_4 : decode cX11_pair 4 = .ok (.iload_n 1, 1) := by decide +kernel
theorem dX11_pair_5 : decode cX11_pair 5 = .ok (.invokevirtual 105, 3) := by decide +kernel
theorem dX11_pair_8 : decode cX11_pair 8 = .ok (.ifCond .eq 14, 3) := by decide +kernel
theorem dX11_pair_11 : decode cX11_pair 11 = .ok (.aload_n 0, 1) := by decide +kernel
theorem dX11_pair_12 : decode cX11_pair 12 = .ok (.getfield 10, 3) := by decide +kernel
theorem dX11_pair_15 : decode cX11_pair 15 = .ok (.iload_n 1, 1) := by decide +kernel
theorem dX11_pair_16 : decode cX11_pair 16 = .ok (.invokevirtual 187, 3) := by decide +kernel
theorem dX11_pair_19 : decode cX11_pair 19 = .ok (.goto 5, 3) := by decide +kernel
theorem dX11_pair_22 : decode cX11_pair 22 = .ok (.ldc 59, 2) := by decide +kernel
theorem dX11_pair_24 : decode cX11_pair 24 = .ok (.ireturn, 1) := by decide +kernel
theorem dX11_wiring_0 : decode cX11_wiring 0 = .ok (.iconst 0, 1) := by decide +kernel
theorem dX11_wiring_1 : decode cX11_wiring 1 = .ok (.istore_n 1, 1) := by decide +kernel
theorem dX11_wiring_2 : decode cX11_wiring 2 = .ok (.iload_n 1, 1) := by decide +kernel
theorem dX11_wiring_3 : decode cX11_wiring 3 = .ok (.aload_n 0, 1) := by decide +kernel
theorem dX11_wiring_4 : decode cX11_wiring 4 = .ok (.getfield 10, 3) := by decide +kernel
theorem dX11_wiring_7 : decode cX11_wiring 7 = .ok (.getfield 190, 3) := by decide +kernel
theorem dX11_wiring_10 : decode cX11_wiring 10 = .ok (.if_icmp .ge 72, 3) := by decide +kernel
theorem dX11_wiring_13 : decode cX11_wiring 13 = .ok (.aload_n 0, 1) := by decide +kernel
theorem dX11_wiring_14 : decode cX11_wiring 14 = .ok (.getfield 10, 3) := by decide +kernel
theorem dX11_wiring_17 : decode cX11_wiring 17 = .ok (.iload_n 1, 1) := by decide +kernel
theorem dX11_wiring_18 : decode cX11_wiring 18 = .ok (.invokevirtual 187, 3) := by decide +kernel
theorem dX11_wiring_21 : decode cX11_wiring 21 = .ok (.istore_n 2, 1) := by decide +kernel
theorem dX11_wiring_22 : decode cX11_wiring 22 = .ok (.aload_n 0, 1) := by decide +kernel
theorem dX11_wiring_23 : decode cX11_wiring 23 = .ok (.getfield 10, 3) := by decide +kernel
theorem dX11_wiring_26 : decode cX11_wiring 26 = .ok (.getfield 117, 3) := by decide +kernel
theorem dX11_wiring_29 : decode cX11_wiring 29 = .ok (.iconst 2, 1) := by decide +kernel
theorem dX11_wiring_30 : decode cX11_wiring 30 = .ok (.iload_n 1, 1) := by decide +kernel
theorem dX11_wiring_31 : decode cX11_wiring 31 = .ok (.imul, 1) := by decide +kernel
theorem dX11_wiring_32 : decode cX11_wiring 32 = .ok (.iload_n 2, 1) := by decide +kernel
theorem dX11_wiring_33 : decode cX11_wiring 33 = .ok (.ldc 74, 2) := by decide +kernel
theorem dX11_wiring_35 : decode cX11_wiring 35 = .ok (.if_icmp .ne 8, 3) := by decide +kernel
theorem dX11_wiring_38 : decode cX11_wiring 38 = .ok (.ldc 74, 2) := by decide +kernel
theorem dX11_wiring_40 : decode cX11_wiring 40 = .ok (.goto 7, 3) := by decide +kernel
theorem dX11_wiring_43 : decode cX11_wiring 43 = .ok (.iload_n 2, 1) := by decide +kernel
theorem dX11_wiring_44 : decode cX11_wiring 44 = .ok (.bipush 100, 2) := by decide +kernel
theorem dX11_wiring_46 : decode cX11_wiring 46 = .ok (.idiv, 1) := by decide +kernel
theorem dX11_wiring_47 : decode cX11_wiring 47 = .ok (.iastore, 1) := by decide +kernel
theorem dX11_wiring_48 : decode cX11_wiring 48 = .ok (.aload_n 0, 1) := by decide +kernel
theorem dX11_wiring_49 : decode cX11_wiring 49 = .ok (.getfield 10, 3) := by decide +kernel
theorem dX11_wiring_52 : decode cX11_wiring 52 = .ok (.getfield 117, 3) := by decide +kernel
theorem dX11_wiring_55 : decode cX11_wiring 55 = .ok (.iconst 2, 1) := by decide +kernel
theorem dX11_wiring_56 : decode cX11_wiring 56 = .ok (.iload_n 1, 1) := by decide +kernel
theorem dX11_wiring_57 : decode cX11_wiring 57 = .ok (.imul, 1) := by decide +kernel
theorem dX11_wiring_58 : decode cX11_wiring 58 = .ok (.iconst 1, 1) := by decide +kernel
theorem dX11_wiring_59 : decode cX11_wiring 59 = .ok (.iadd, 1) := by decide +kernel
theorem dX11_wiring_60 : decode cX11_wiring 60 = .ok (.iload_n 2, 1) := by decide +kernel
theorem dX11_wiring_61 : decode cX11_wiring 61 = .ok (.ldc 74, 2) := by decide +kernel
theorem dX11_wiring_63 : decode cX11_wiring 63 = .ok (.if_icmp .ne 8, 3) := by decide +kernel
theorem dX11_wiring_66 : decode cX11_wiring 66 = .ok (.ldc 74, 2) := by decide +kernel
theorem dX11_wiring_68 : decode cX11_wiring 68 = .ok (.goto 7, 3) := by decide +kernel
theorem dX11_wiring_71 : decode cX11_wiring 71 = .ok (.iload_n 2, 1) := by decide +kernel
theorem dX11_wiring_72 : decode cX11_wiring 72 = .ok (.bipush 100, 2) := by decide +kernel
theorem dX11_wiring_74 : decode cX11_wiring 74 = .ok (.irem, 1) := by decide +kernel
theorem dX11_wiring_75 : decode cX11_wiring 75 = .ok (.iastore, 1) := by decide +kernel
theorem dX11_wiring_76 : decode cX11_wiring 76 = .ok (.iinc 1 1, 3) := by decide +kernel
theorem dX11_wiring_79 : decode cX11_wiring 79 = .ok (.goto (-77), 3) := by decide +kernel
theorem dX11_wiring_82 : decode cX11_wiring 82 = .ok (.aload_n 0, 1) := by decide +kernel
theorem dX11_wiring_83 : decode cX11_wiring 83 = .ok (.getfield 10, 3) := by decide +kernel
theorem dX11_wiring_86 : decode cX11_wiring 86 = .ok (.getfield 190, 3) := by decide +kernel
theorem dX11_wiring_89 : decode cX11_wiring 89 = .ok (.aload_n 0, 1) := by decide +kernel
theorem dX11_wiring_90 : decode cX11_wiring 90 = .ok (.getfield 10, 3) := by decide +kernel
theorem dX11_wiring_93 : decode cX11_wiring 93 = .ok (.invokevirtual 193, 3) := by decide +kernel
theorem dX11_wiring_96 : decode cX11_wiring 96 = .ok (.isub, 1) := by decide +kernel
theorem dX11_wiring_97 : decode cX11_wiring 97 = .ok (.ireturn, 1) := by decide +kernel
theorem dX11_unlawful_0 : decode cX11_unlawful 0 = .ok (.iload_n 1, 1) := by decide +kernel
theorem dX11_unlawful_1 : decode cX11_unlawful 1 = .ok (.lookupswitch 43 #[(0, 27), (1, 35)], 27) := by decide +kernel
theorem dX11_unlawful_28 : decode cX11_unlawful 28 = .ok (.aload_n 0, 1) := by decide +kernel
theorem dX11_unlawful_29 : decode cX11_unlawful 29 = .ok (.getfield 10, 3) := by decide +kernel
theorem dX11_unlawful_32 : decode cX11_unlawful 32 = .ok (.invokevirtual 193, 3) := by decide +kernel
theorem dX11_unlawful_35 : decode cX11_unlawful 35 = .ok (.ireturn, 1) := by decide +kernel
theorem dX11_unlawful_36 : decode cX11_unlawful 36 = .ok (.aload_n 0, 1) := by decide +kernel
theorem dX11_unlawful_37 : decode cX11_unlawful 37 = .ok (.getfield 10, 3) := by decide +kernel
theorem dX11_unlawful_40 : decode cX11_unlawful 40 = .ok (.invokevirtual 196, 3) := by decide +kernel
theorem dX11_unlawful_43 : decode cX11_unlawful 43 = .ok (.ireturn, 1) := by decide +kernel
theorem dX11_unlawful_44 : decode cX11_unlawful 44 = .ok (.ldc 59, 2) := by decide +kernel
theorem dX11_unlawful_46 : decode cX11_unlawful 46 = .ok (.ireturn, 1) := by decide +kernel
theorem dX11_worst_0 : decode cX11_worst 0 = .ok (.iload_n 1, 1) := by decide +kernel
theorem dX11_worst_1 : decode cX11_worst 1 = .ok (.iconst 0, 1) := by decide +kernel
theorem dX11_worst_2 : decode cX11_worst 2 = .ok (.iconst 2, 1) := by decide +kernel
theorem dX11_worst_3 : decode cX11_worst 3 = .ok (.invokestatic 55, 3) := by decide +kernel
theorem dX11_worst_6 : decode cX11_worst 6 = .ok (.ifCond .ne 6, 3) := by decide +kernel
theorem dX11_worst_9 : decode cX11_worst 9 = .ok (.ldc 59, 2) := by decide +kernel
theorem dX11_worst_11 : decode cX11_worst 11 = .ok (.ireturn, 1) := by decide +kernel
theorem dX11_worst_12 : decode cX11_worst 12 = .ok (.aload_n 0, 1) := by decide +kernel
theorem dX11_worst_13 : decode cX11_worst 13 = .ok (.getfield 10, 3) := by decide +kernel
theorem dX11_worst_16 : decode cX11_worst 16 = .ok (.invokevirtual 171, 3) := by decide +kernel
theorem dX11_worst_19 : decode cX11_worst 19 = .ok (.ldc 74, 2) := by decide +kernel
theorem dX11_worst_21 : decode cX11_worst 21 = .ok (.istore_n 2, 1) := by decide +kernel
theorem dX11_worst_22 : decode cX11_worst 22 = .ok (.iconst 0, 1) := by decide +kernel
theorem dX11_worst_23 : decode cX11_worst 23 = .ok (.istore_n 3, 1) := by decide +kernel
theorem dX11_worst_24 : decode cX11_worst 24 = .ok (.iload_n 3, 1) := by decide +kernel
theorem dX11_worst_25 : decode cX11_worst 25 = .ok (.aload_n 0, 1) := by decide +kernel
theorem dX11_worst_26 : decode cX11_worst 26 = .ok (.getfield 10, 3) := by decide +kernel
theorem dX11_worst_29 : decode cX11_worst 29 = .ok (.getfield 126, 3) := by decide +kernel
theorem dX11_worst_32 : decode cX11_worst 32 = .ok (.if_icmp .ge 102, 3) := by decide +kernel
theorem dX11_worst_35 : decode cX11_worst 35 = .ok (.aload_n 0, 1) := by decide +kernel
theorem dX11_worst_36 : decode cX11_worst 36 = .ok (.getfield 10, 3) := by decide +kernel
theorem dX11_worst_39 : decode cX11_worst 39 = .ok (.iload_n 3, 1) := by decide +kernel
theorem dX11_worst_40 : decode cX11_worst 40 = .ok (.invokevirtual 140, 3) := by decide +kernel
theorem dX11_worst_43 : decode cX11_worst 43 = .ok (.astore 4, 2) := by decide +kernel
theorem dX11_worst_45 : decode cX11_worst 45 = .ok (.aload 4, 2) := by decide +kernel
theorem dX11_worst_47 : decode cX11_worst 47 = .ok (.ifnonnull 8, 3) := by decide +kernel
theorem dX11_worst_50 : decode cX11_worst 50 = .ok (.ldc 74, 2) := by decide +kernel
theorem dX11_worst_52 : decode cX11_worst 52 = .ok (.goto 26, 3) := by decide +kernel
theorem dX11_worst_55 : decode cX11_worst 55 = .ok (.aload_n 0, 1) := by decide +kernel
theorem dX11_worst_56 : decode cX11_worst 56 = .ok (.getfield 10, 3) := by decide +kernel
theorem dX11_worst_59 : decode cX11_worst 59 = .ok (.aload 4, 2) := by decide +kernel
theorem dX11_worst_61 : decode cX11_worst 61 = .ok (.getfield 147, 3) := by decide +kernel
theorem dX11_worst_64 : decode cX11_worst 64 = .ok (.aload_n 0, 1) := by decide +kernel
theorem dX11_worst_65 : decode cX11_worst 65 = .ok (.getfield 10, 3) := by decide +kernel
theorem dX11_worst_68 : decode cX11_worst 68 = .ok (.getfield 199, 3) := by decide +kernel
theorem dX11_worst_71 : decode cX11_worst 71 = .ok (.iload_n 3, 1) := by decide +kernel
theorem dX11_worst_72 : decode cX11_worst 72 = .ok (.bipush 12, 2) := by decide +kernel
theorem dX11_worst_74 : decode cX11_worst 74 = .ok (.imul, 1) := by decide +kernel
theorem dX11_worst_75 : decode cX11_worst 75 = .ok (.invokevirtual 202, 3) := by decide +kernel
theorem dX11_worst_78 : decode cX11_worst 78 = .ok (.istore 5, 2) := by decide +kernel
theorem dX11_worst_80 : decode cX11_worst 80 = .ok (.iload 5, 2) := by decide +kernel
theorem dX11_worst_82 : decode cX11_worst 82 = .ok (.ldc 74, 2) := by decide +kernel
theorem dX11_worst_84 : decode cX11_worst 84 = .ok (.if_icmp .eq 44, 3) := by decide +kernel
theorem dX11_worst_87 : decode cX11_worst 87 = .ok (.iload_n 2, 1) := by decide +kernel
theorem dX11_worst_88 : decode cX11_worst 88 = .ok (.ldc 74, 2) := by decide +kernel
theorem dX11_worst_90 : decode cX11_worst 90 = .ok (.if_icmp .eq 30, 3) := by decide +kernel
theorem dX11_worst_93 : decode cX11_worst 93 = .ok (.aload_n 0, 1) := by decide +kernel
theorem dX11_worst_94 : decode cX11_worst 94 = .ok (.getfield 10, 3) := by decide +kernel
theorem dX11_worst_97 : decode cX11_worst 97 = .ok (.getfield 199, 3) := by decide +kernel
theorem dX11_worst_100 : decode cX11_worst 100 = .ok (.iload_n 3, 1) := by decide +kernel
theorem dX11_worst_101 : decode cX11_worst 101 = .ok (.bipush 12, 2) := by decide +kernel
theorem dX11_worst_103 : decode cX11_worst 103 = .ok (.imul, 1) := by decide +kernel
theorem dX11_worst_104 : decode cX11_worst 104 = .ok (.iload 5, 2) := by decide +kernel
theorem dX11_worst_106 : decode cX11_worst 106 = .ok (.iadd, 1) := by decide +kernel
theorem dX11_worst_107 : decode cX11_worst 107 = .ok (.iaload, 1) := by decide +kernel
theorem dX11_worst_108 : decode cX11_worst 108 = .ok (.aload_n 0, 1) := by decide +kernel
theorem dX11_worst_109 : decode cX11_worst 109 = .ok (.getfield 10, 3) := by decide +kernel
theorem dX11_worst_112 : decode cX11_worst 112 = .ok (.getfield 199, 3) := by decide +kernel
theorem dX11_worst_115 : decode cX11_worst 115 = .ok (.iload_n 2, 1) := by decide +kernel
theorem dX11_worst_116 : decode cX11_worst 116 = .ok (.iaload, 1) := by decide +kernel
theorem dX11_worst_117 : decode cX11_worst 117 = .ok (.if_icmp .le 11, 3) := by decide +kernel
theorem dX11_worst_120 : decode cX11_worst 120 = .ok (.iload_n 3, 1) := by decide +kernel
theorem dX11_worst_121 : decode cX11_worst 121 = .ok (.bipush 12, 2) := by decide +kernel
theorem dX11_worst_123 : decode cX11_worst 123 = .ok (.imul, 1) := by decide +kernel
theorem dX11_worst_124 : decode cX11_worst 124 = .ok (.iload 5, 2) := by decide +kernel
theorem dX11_worst_126 : decode cX11_worst 126 = .ok (.iadd, 1) := by decide +kernel
theorem dX11_worst_127 : decode cX11_worst 127 = .ok (.istore_n 2, 1) := by decide +kernel
theorem dX11_worst_128 : decode cX11_worst 128 = .ok (.iinc 3 1, 3) := by decide +kernel
theorem dX11_worst_131 : decode cX11_worst 131 = .ok (.goto (-107), 3) := by decide +kernel
theorem dX11_worst_134 : decode cX11_worst 134 = .ok (.iload_n 2, 1) := by decide +kernel
theorem dX11_worst_135 : decode cX11_worst 135 = .ok (.ldc 74, 2) := by decide +kernel
theorem dX11_worst_137 : decode cX11_worst 137 = .ok (.if_icmp .ne 6, 3) := by decide +kernel
theorem dX11_worst_140 : decode cX11_worst 140 = .ok (.ldc 74, 2) := by decide +kernel
theorem dX11_worst_142 : decode cX11_worst 142 = .ok (.ireturn, 1) := by decide +kernel
theorem dX11_worst_143 : decode cX11_worst 143 = .ok (.iload_n 1, 1) := by decide +kernel
theorem dX11_worst_144 : decode cX11_worst 144 = .ok (.lookupswitch 38 #[(0, 28), (1, 33)], 28) := by decide +kernel
theorem dX11_worst_172 : decode cX11_worst 172 = .ok (.iload_n 2, 1) := by decide +kernel
theorem dX11_worst_173 : decode cX11_worst 173 = .ok (.bipush 12, 2) := by decide +kernel
theorem dX11_worst_175 : decode cX11_worst 175 = .ok (.idiv, 1) := by decide +kernel
theorem dX11_worst_176 : decode cX11_worst 176 = .ok (.ireturn, 1) := by decide +kernel
theorem dX11_worst_177 : decode cX11_worst 177 = .ok (.iload_n 2, 1) := by decide +kernel
theorem dX11_worst_178 : decode cX11_worst 178 = .ok (.bipush 12, 2) := by decide +kernel
theorem dX11_worst_180 : decode cX11_worst 180 = .ok (.irem, 1) := by decide +kernel
theorem dX11_worst_181 : decode cX11_worst 181 = .ok (.ireturn, 1) := by decide +kernel
theorem dX11_worst_182 : decode cX11_worst 182 = .ok (.aload_n 0, 1) := by decide +kernel
theorem dX11_worst_183 : decode cX11_worst 183 = .ok (.getfield 10, 3) := by decide +kernel
theorem dX11_worst_186 : decode cX11_worst 186 = .ok (.getfield 199, 3) := by decide +kernel
theorem dX11_worst_189 : decode cX11_worst 189 = .ok (.iload_n 2, 1) := by decide +kernel
theorem dX11_worst_190 : decode cX11_worst 190 = .ok (.iaload, 1) := by decide +kernel
theorem dX11_worst_191 : decode cX11_worst 191 = .ok (.ireturn, 1) := by decide +kernel
theorem dX11_heard_0 : decode cX11_heard 0 = .ok (.iload_n 1, 1) := by decide +kernel
theorem dX11_heard_1 : decode cX11_heard 1 = .ok (.iconst 0, 1) := by decide +kernel
theorem dX11_heard_2 : decode cX11_heard 2 = .ok (.iconst 1, 1) := by decide +kernel
theorem dX11_heard_3 : decode cX11_heard 3 = .ok (.aload_n 0, 1) := by decide +kernel
theorem dX11_heard_4 : decode cX11_heard 4 = .ok (.getfield 10, 3) := by decide +kernel
theorem dX11_heard_7 : decode cX11_heard 7 = .ok (.getfield 95, 3) := by decide +kernel
theorem dX11_heard_10 : decode cX11_heard 10 = .ok (.ishl, 1) := by decide +kernel
theorem dX11_heard_11 : decode cX11_heard 11 = .ok (.iconst 1, 1) := by decide +kernel
theorem dX11_heard_12 : decode cX11_heard 12 = .ok (.isub, 1) := by decide +kernel
theorem dX11_heard_13 : decode cX11_heard 13 = .ok (.invokestatic 55, 3) := by decide +kernel
theorem dX11_heard_16 : decode cX11_heard 16 = .ok (.ifCond .ne 6, 3) := by decide +kernel
theorem dX11_heard_19 : decode cX11_heard 19 = .ok (.ldc 59, 2) := by decide +kernel
theorem dX11_heard_21 : decode cX11_heard 21 = .ok (.ireturn, 1) := by decide +kernel
theorem dX11_heard_22 : decode cX11_heard 22 = .ok (.iconst 0, 1) := by decide +kernel
theorem dX11_heard_23 : decode cX11_heard 23 = .ok (.istore_n 2, 1) := by decide +kernel
theorem dX11_heard_24 : decode cX11_heard 24 = .ok (.iconst 0, 1) := by decide +kernel
theorem dX11_heard_25 : decode cX11_heard 25 = .ok (.istore_n 3, 1) := by decide +kernel
theorem dX11_heard_26 : decode cX11_heard 26 = .ok (.iload_n 3, 1) := by decide +kernel
theorem dX11_heard_27 : decode cX11_heard 27 = .ok (.aload_n 0, 1) := by decide +kernel
theorem dX11_heard_28 : decode cX11_heard 28 = .ok (.getfield 10, 3) := by decide +kernel
theorem dX11_heard_31 : decode cX11_heard 31 = .ok (.getfield 190, 3) := by decide +kernel
theorem dX11_heard_34 : decode cX11_heard 34 = .ok (.if_icmp .ge 28, 3) := by decide +kernel
theorem dX11_heard_37 : decode cX11_heard 37 = .ok (.aload_n 0, 1) := by decide +kernel
theorem dX11_heard_38 : decode cX11_heard 38 = .ok (.getfield 10, 3) := by decide +kernel
theorem dX11_heard_41 : decode cX11_heard 41 = .ok (.iload_n 3, 1) := by decide +kernel
theorem dX11_heard_42 : decode cX11_heard 42 = .ok (.invokevirtual 206, 3) := by decide +kernel
theorem dX11_heard_45 : decode cX11_heard 45 = .ok (.iload_n 1, 1) := by decide +kernel
theorem dX11_heard_46 : decode cX11_heard 46 = .ok (.iand, 1) := by decide +kernel
theorem dX11_heard_47 : decode cX11_heard 47 = .ok (.ifCond .eq 9, 3) := by decide +kernel
theorem dX11_heard_50 : decode cX11_heard 50 = .ok (.iload_n 2, 1) := by decide +kernel
theorem dX11_heard_51 : decode cX11_heard 51 = .ok (.iconst 1, 1) := by decide +kernel
theorem dX11_heard_52 : decode cX11_heard 52 = .ok (.iload_n 3, 1) := by decide +kernel
theorem dX11_heard_53 : decode cX11_heard 53 = .ok (.ishl, 1) := by decide +kernel
theorem dX11_heard_54 : decode cX11_heard 54 = .ok (.ior, 1) := by decide +kernel
theorem dX11_heard_55 : decode cX11_heard 55 = .ok (.istore_n 2, 1) := by decide +kernel
theorem dX11_heard_56 : decode cX11_heard 56 = .ok (.iinc 3 1, 3) := by decide +kernel
theorem dX11_heard_59 : decode cX11_heard 59 = .ok (.goto (-33), 3) := by decide +kernel
theorem dX11_heard_62 : decode cX11_heard 62 = .ok (.iload_n 2, 1) := by decide +kernel
theorem dX11_heard_63 : decode cX11_heard 63 = .ok (.ireturn, 1) := by decide +kernel
theorem dX11_fewest_0 : decode cX11_fewest 0 = .ok (.iconst 0, 1) := by decide +kernel
theorem dX11_fewest_1 : decode cX11_fewest 1 = .ok (.istore_n 1, 1) := by decide +kernel
theorem dX11_fewest_2 : decode cX11_fewest 2 = .ok (.iload_n 1, 1) := by decide +kernel
theorem dX11_fewest_3 : decode cX11_fewest 3 = .ok (.aload_n 0, 1) := by decide +kernel
theorem dX11_fewest_4 : decode cX11_fewest 4 = .ok (.getfield 10, 3) := by decide +kernel
theorem dX11_fewest_7 : decode cX11_fewest 7 = .ok (.getfield 190, 3) := by decide +kernel
theorem dX11_fewest_10 : decode cX11_fewest 10 = .ok (.if_icmp .ge 23, 3) := by decide +kernel
theorem dX11_fewest_13 : decode cX11_fewest 13 = .ok (.aload_n 0, 1) := by decide +kernel
theorem dX11_fewest_14 : decode cX11_fewest 14 = .ok (.getfield 50, 3) := by decide +kernel
theorem dX11_fewest_17 : decode cX11_fewest 17 = .ok (.iload_n 1, 1) := by decide +kernel
theorem dX11_fewest_18 : decode cX11_fewest 18 = .ok (.aload_n 0, 1) := by decide +kernel
theorem dX11_fewest_19 : decode cX11_fewest 19 = .ok (.getfield 10, 3) := by decide +kernel
theorem dX11_fewest_22 : decode cX11_fewest 22 = .ok (.iload_n 1, 1) := by decide +kernel
theorem dX11_fewest_23 : decode cX11_fewest 23 = .ok (.invokevirtual 206, 3) := by decide +kernel
theorem dX11_fewest_26 : decode cX11_fewest 26 = .ok (.iastore, 1) := by decide +kernel
theorem dX11_fewest_27 : decode cX11_fewest 27 = .ok (.iinc 1 1, 3) := by decide +kernel
theorem dX11_fewest_30 : decode cX11_fewest 30 = .ok (.goto (-28), 3) := by decide +kernel
theorem dX11_fewest_33 : decode cX11_fewest 33 = .ok (.iconst 1, 1) := by decide +kernel
theorem dX11_fewest_34 : decode cX11_fewest 34 = .ok (.aload_n 0, 1) := by decide +kernel
theorem dX11_fewest_35 : decode cX11_fewest 35 = .ok (.getfield 10, 3) := by decide +kernel
theorem dX11_fewest_38 : decode cX11_fewest 38 = .ok (.getfield 95, 3) := by decide +kernel
theorem dX11_fewest_41 : decode cX11_fewest 41 = .ok (.ishl, 1) := by decide +kernel
theorem dX11_fewest_42 : decode cX11_fewest 42 = .ok (.iconst 1, 1) := by decide +kernel
theorem dX11_fewest_43 : decode cX11_fewest 43 = .ok (.isub, 1) := by decide +kernel
theorem dX11_fewest_44 : decode cX11_fewest 44 = .ok (.istore_n 1, 1) := by decide +kernel
theorem dX11_fewest_45 : decode cX11_fewest 45 = .ok (.iload_n 1, 1) := by decide +kernel
theorem dX11_fewest_46 : decode cX11_fewest 46 = .ok (.istore_n 2, 1) := by decide +kernel
theorem dX11_fewest_47 : decode cX11_fewest 47 = .ok (.iload_n 2, 1) := by decide +kernel
theorem dX11_fewest_48 : decode cX11_fewest 48 = .ok (.ifCond .lt 30, 3) := by decide +kernel
theorem dX11_fewest_51 : decode cX11_fewest 51 = .ok (.iload_n 2, 1) := by decide +kernel
theorem dX11_fewest_52 : decode cX11_fewest 52 = .ok (.invokestatic 209, 3) := by decide +kernel
theorem dX11_fewest_55 : decode cX11_fewest 55 = .ok (.iload_n 1, 1) := by decide +kernel
theorem dX11_fewest_56 : decode cX11_fewest 56 = .ok (.invokestatic 209, 3) := by decide +kernel
theorem dX11_fewest_59 : decode cX11_fewest 59 = .ok (.if_icmp .gt 13, 3) := by decide +kernel
theorem dX11_fewest_62 : decode cX11_fewest 62 = .ok (.aload_n 0, 1) := by decide +kernel
theorem dX11_fewest_63 : decode cX11_fewest 63 = .ok (.iload_n 2, 1) := by decide +kernel
theorem dX11_fewest_64 : decode cX11_fewest 64 = .ok (.invokevirtual 214, 3) := by decide +kernel
theorem dX11_fewest_67 : decode cX11_fewest 67 = .ok (.ifCond .eq 5, 3) := by decide +kernel
theorem dX11_fewest_70 : decode cX11_fewest 70 = .ok (.iload_n 2, 1) := by decide +kernel
theorem dX11_fewest_71 : decode cX11_fewest 71 = .ok (.istore_n 1, 1) := by decide +kernel
theorem dX11_fewest_72 : decode cX11_fewest 72 = .ok (.iinc 2 (-1), 3) := by decide +kernel
theorem dX11_fewest_75 : decode cX11_fewest 75 = .ok (.goto (-28), 3) := by decide +kernel
theorem dX11_fewest_78 : decode cX11_fewest 78 = .ok (.iload_n 1, 1) := by decide +kernel
theorem dX11_fewest_79 : decode cX11_fewest 79 = .ok (.ireturn, 1) := by decide +kernel
theorem dX11_alike_0 : decode cX11_alike 0 = .ok (.iconst 0, 1) := by decide +kernel
theorem dX11_alike_1 : decode cX11_alike 1 = .ok (.istore_n 1, 1) := by decide +kernel
theorem dX11_alike_2 : decode cX11_alike 2 = .ok (.iconst 0, 1) := by decide +kernel
theorem dX11_alike_3 : decode cX11_alike 3 = .ok (.istore_n 2, 1) := by decide +kernel
theorem dX11_alike_4 : decode cX11_alike 4 = .ok (.iload_n 2, 1) := by decide +kernel
theorem dX11_alike_5 : decode cX11_alike 5 = .ok (.aload_n 0, 1) := by decide +kernel
theorem dX11_alike_6 : decode cX11_alike 6 = .ok (.getfield 10, 3) := by decide +kernel
theorem dX11_alike_9 : decode cX11_alike 9 = .ok (.getfield 190, 3) := by decide +kernel
theorem dX11_alike_12 : decode cX11_alike 12 = .ok (.if_icmp .ge 52, 3) := by decide +kernel
theorem dX11_alike_15 : decode cX11_alike 15 = .ok (.iload_n 2, 1) := by decide +kernel
theorem dX11_alike_16 : decode cX11_alike 16 = .ok (.iconst 1, 1) := by decide +kernel
theorem dX11_alike_17 : decode cX11_alike 17 = .ok (.iadd, 1) := by decide +kernel
theorem dX11_alike_18 : decode cX11_alike 18 = .ok (.istore_n 3, 1) := by decide +kernel
theorem dX11_alike_19 : decode cX11_alike 19 = .ok (.iload_n 3, 1) := by decide +kernel
theorem dX11_alike_20 : decode cX11_alike 20 = .ok (.aload_n 0, 1) := by decide +kernel
theorem dX11_alike_21 : decode cX11_alike 21 = .ok (.getfield 10, 3) := by decide +kernel
theorem dX11_alike_24 : decode cX11_alike 24 = .ok (.getfield 190, 3) := by decide +kernel
theorem dX11_alike_27 : decode cX11_alike 27 = .ok (.if_icmp .ge 31, 3) := by decide +kernel
theorem dX11_alike_30 : decode cX11_alike 30 = .ok (.aload_n 0, 1) := by decide +kernel
theorem dX11_alike_31 : decode cX11_alike 31 = .ok (.getfield 10, 3) := by decide +kernel
theorem dX11_alike_34 : decode cX11_alike 34 = .ok (.iload_n 2, 1) := by decide +kernel
theorem dX11_alike_35 : decode cX11_alike 35 = .ok (.invokevirtual 206, 3) := by decide +kernel
theorem dX11_alike_38 : decode cX11_alike 38 = .ok (.aload_n 0, 1) := by decide +kernel
theorem dX11_alike_39 : decode cX11_alike 39 = .ok (.getfield 10, 3) := by decide +kernel
theorem dX11_alike_42 : decode cX11_alike 42 = .ok (.iload_n 3, 1) := by decide +kernel
theorem dX11_alike_43 : decode cX11_alike 43 = .ok (.invokevirtual 206, 3) := by decide +kernel
theorem dX11_alike_46 : decode cX11_alike 46 = .ok (.if_icmp .ne 6, 3) := by decide +kernel
theorem dX11_alike_49 : decode cX11_alike 49 = .ok (.iinc 1 1, 3) := by decide +kernel
theorem dX11_alike_52 : decode cX11_alike 52 = .ok (.iinc 3 1, 3) := by decide +kernel
theorem dX11_alike_55 : decode cX11_alike 55 = .ok (.goto (-36), 3) := by decide +kernel
theorem dX11_alike_58 : decode cX11_alike 58 = .ok (.iinc 2 1, 3) := by decide +kernel
theorem dX11_alike_61 : decode cX11_alike 61 = .ok (.goto (-57), 3) := by decide +kernel
theorem dX11_alike_64 : decode cX11_alike 64 = .ok (.iload_n 1, 1) := by decide +kernel
theorem dX11_alike_65 : decode cX11_alike 65 = .ok (.ireturn, 1) := by decide +kernel
theorem dX11_feed_0 : decode cX11_feed 0 = .ok (.aload_n 0, 1) := by decide +kernel
theorem dX11_feed_1 : decode cX11_feed 1 = .ok (.getfield 26, 3) := by decide +kernel
theorem dX11_feed_4 : decode cX11_feed 4 = .ok (.getfield 217, 3) := by decide +kernel
theorem dX11_feed_7 : decode cX11_feed 7 = .ok (.bipush 84, 2) := by decide +kernel
theorem dX11_feed_9 : decode cX11_feed 9 = .ok (.if_icmp .le 6, 3) := by decide +kernel
theorem dX11_feed_12 : decode cX11_feed 12 = .ok (.ldc 129, 2) := by decide +kernel
theorem dX11_feed_14 : decode cX11_feed 14 = .ok (.ireturn, 1) := by decide +kernel
theorem dX11_feed_15 : decode cX11_feed 15 = .ok (.aload_n 0, 1) := by decide +kernel
theorem dX11_feed_16 : decode cX11_feed 16 = .ok (.getfield 26, 3) := by decide +kernel
theorem dX11_feed_19 : decode cX11_feed 19 = .ok (.iload_n 1, 1) := by decide +kernel
theorem dX11_feed_20 : decode cX11_feed 20 = .ok (.invokevirtual 220, 3) := by decide +kernel
theorem dX11_feed_23 : decode cX11_feed 23 = .ok (.aload_n 0, 1) := by decide +kernel
theorem dX11_feed_24 : decode cX11_feed 24 = .ok (.getfield 26, 3) := by decide +kernel
theorem dX11_feed_27 : decode cX11_feed 27 = .ok (.iload_n 2, 1) := by decide +kernel
theorem dX11_feed_28 : decode cX11_feed 28 = .ok (.invokevirtual 220, 3) := by decide +kernel
theorem dX11_feed_31 : decode cX11_feed 31 = .ok (.aload_n 0, 1) := by decide +kernel
theorem dX11_feed_32 : decode cX11_feed 32 = .ok (.getfield 26, 3) := by decide +kernel
theorem dX11_feed_35 : decode cX11_feed 35 = .ok (.iload_n 3, 1) := by decide +kernel
theorem dX11_feed_36 : decode cX11_feed 36 = .ok (.invokevirtual 220, 3) := by decide +kernel
theorem dX11_feed_39 : decode cX11_feed 39 = .ok (.aload_n 0, 1) := by decide +kernel
theorem dX11_feed_40 : decode cX11_feed 40 = .ok (.getfield 26, 3) := by decide +kernel
theorem dX11_feed_43 : decode cX11_feed 43 = .ok (.getfield 217, 3) := by decide +kernel
theorem dX11_feed_46 : decode cX11_feed 46 = .ok (.ireturn, 1) := by decide +kernel
theorem dX11_trim_0 : decode cX11_trim 0 = .ok (.iload_n 1, 1) := by decide +kernel
theorem dX11_trim_1 : decode cX11_trim 1 = .ok (.iconst 0, 1) := by decide +kernel
theorem dX11_trim_2 : decode cX11_trim 2 = .ok (.aload_n 0, 1) := by decide +kernel
theorem dX11_trim_3 : decode cX11_trim 3 = .ok (.getfield 26, 3) := by decide +kernel
theorem dX11_trim_6 : decode cX11_trim 6 = .ok (.getfield 217, 3) := by decide +kernel
theorem dX11_trim_9 : decode cX11_trim 9 = .ok (.invokestatic 55, 3) := by decide +kernel
theorem dX11_trim_12 : decode cX11_trim 12 = .ok (.ifCond .ne 6, 3) := by decide +kernel
theorem dX11_trim_15 : decode cX11_trim 15 = .ok (.ldc 59, 2) := by decide +kernel
theorem dX11_trim_17 : decode cX11_trim 17 = .ok (.ireturn, 1) := by decide +kernel
theorem dX11_trim_18 : decode cX11_trim 18 = .ok (.aload_n 0, 1) := by decide +kernel
theorem dX11_trim_19 : decode cX11_trim 19 = .ok (.getfield 26, 3) := by decide +kernel
theorem dX11_trim_22 : decode cX11_trim 22 = .ok (.iload_n 1, 1) := by decide +kernel
theorem dX11_trim_23 : decode cX11_trim 23 = .ok (.putfield 217, 3) := by decide +kernel
theorem dX11_trim_26 : decode cX11_trim 26 = .ok (.iload_n 1, 1) := by decide +kernel
theorem dX11_trim_27 : decode cX11_trim 27 = .ok (.ireturn, 1) := by decide +kernel
theorem dX11_text_0 : decode cX11_text 0 = .ok (.aload_n 0, 1) := by decide +kernel
theorem dX11_text_1 : decode cX11_text 1 = .ok (.getfield 26, 3) := by decide +kernel
theorem dX11_text_4 : decode cX11_text 4 = .ok (.invokevirtual 224, 3) := by decide +kernel
theorem dX11_text_7 : decode cX11_text 7 = .ok (.istore_n 1, 1) := by decide +kernel
theorem dX11_text_8 : decode cX11_text 8 = .ok (.aload_n 0, 1) := by decide +kernel
theorem dX11_text_9 : decode cX11_text 9 = .ok (.getfield 26, 3) := by decide +kernel
theorem dX11_text_12 : decode cX11_text 12 = .ok (.iconst 0, 1) := by decide +kernel
theorem dX11_text_13 : decode cX11_text 13 = .ok (.putfield 217, 3) := by decide +kernel
theorem dX11_text_16 : decode cX11_text 16 = .ok (.iload_n 1, 1) := by decide +kernel
theorem dX11_text_17 : decode cX11_text 17 = .ok (.ldc 74, 2) := by decide +kernel
theorem dX11_text_19 : decode cX11_text 19 = .ok (.if_icmp .eq 8, 3) := by decide +kernel
theorem dX11_text_22 : decode cX11_text 22 = .ok (.bipush (-100), 2) := by decide +kernel
theorem dX11_text_24 : decode cX11_text 24 = .ok (.iload_n 1, 1) := by decide +kernel
theorem dX11_text_25 : decode cX11_text 25 = .ok (.isub, 1) := by decide +kernel
theorem dX11_text_26 : decode cX11_text 26 = .ok (.ireturn, 1) := by decide +kernel
theorem dX11_text_27 : decode cX11_text 27 = .ok (.aload_n 0, 1) := by decide +kernel
theorem dX11_text_28 : decode cX11_text 28 = .ok (.getfield 10, 3) := by decide +kernel
theorem dX11_text_31 : decode cX11_text 31 = .ok (.getfield 227, 3) := by decide +kernel
theorem dX11_text_34 : decode cX11_text 34 = .ok (.bipush 14, 2) := by decide +kernel
theorem dX11_text_36 : decode cX11_text 36 = .ok (.if_icmp .lt 6, 3) := by decide +kernel
theorem dX11_text_39 : decode cX11_text 39 = .ok (.ldc 129, 2) := by decide +kernel
theorem dX11_text_41 : decode cX11_text 41 = .ok (.ireturn, 1) := by decide +kernel
theorem dX11_text_42 : decode cX11_text 42 = .ok (.aload_n 0, 1) := by decide +kernel
theorem dX11_text_43 : decode cX11_text 43 = .ok (.getfield 10, 3) := by decide +kernel
theorem dX11_text_46 : decode cX11_text 46 = .ok (.getfield 230, 3) := by decide +kernel
theorem dX11_text_49 : decode cX11_text 49 = .ok (.aload_n 0, 1) := by decide +kernel
theorem dX11_text_50 : decode cX11_text 50 = .ok (.getfield 10, 3) := by decide +kernel
theorem dX11_text_53 : decode cX11_text 53 = .ok (.getfield 227, 3) := by decide +kernel
theorem dX11_text_56 : decode cX11_text 56 = .ok (.aload_n 0, 1) := by decide +kernel
theorem dX11_text_57 : decode cX11_text 57 = .ok (.getfield 26, 3) := by decide +kernel
theorem dX11_text_60 : decode cX11_text 60 = .ok (.invokevirtual 234, 3) := by decide +kernel
theorem dX11_text_63 : decode cX11_text 63 = .ok (.aastore, 1) := by decide +kernel
theorem dX11_text_64 : decode cX11_text 64 = .ok (.aload_n 0, 1) := by decide +kernel
theorem dX11_text_65 : decode cX11_text 65 = .ok (.getfield 10, 3) := by decide +kernel
theorem dX11_text_68 : decode cX11_text 68 = .ok (.dup, 1) := by decide +kernel
theorem dX11_text_69 : decode cX11_text 69 = .ok (.getfield 227, 3) := by decide +kernel
theorem dX11_text_72 : decode cX11_text 72 = .ok (.iconst 1, 1) := by decide +kernel
theorem dX11_text_73 : decode cX11_text 73 = .ok (.iadd, 1) := by decide +kernel
theorem dX11_text_74 : decode cX11_text 74 = .ok (.putfield 227, 3) := by decide +kernel
theorem dX11_text_77 : decode cX11_text 77 = .ok (.aload_n 0, 1) := by decide +kernel
theorem dX11_text_78 : decode cX11_text 78 = .ok (.getfield 10, 3) := by decide +kernel
theorem dX11_text_81 : decode cX11_text 81 = .ok (.getfield 227, 3) := by decide +kernel
theorem dX11_text_84 : decode cX11_text 84 = .ok (.iconst 1, 1) := by decide +kernel
theorem dX11_text_85 : decode cX11_text 85 = .ok (.isub, 1) := by decide +kernel
theorem dX11_text_86 : decode cX11_text 86 = .ok (.ireturn, 1) := by decide +kernel
theorem dX11_textTold_0 : decode cX11_textTold 0 = .ok (.aload_n 0, 1) := by decide +kernel
theorem dX11_textTold_1 : decode cX11_textTold 1 = .ok (.getfield 10, 3) := by decide +kernel
theorem dX11_textTold_4 : decode cX11_textTold 4 = .ok (.iload_n 1, 1) := by decide +kernel
theorem dX11_textTold_5 : decode cX11_textTold 5 = .ok (.invokevirtual 238, 3) := by decide +kernel
theorem dX11_textTold_8 : decode cX11_textTold 8 = .ok (.astore_n 3, 1) := by decide +kernel
theorem dX11_textTold_9 : decode cX11_textTold 9 = .ok (.aload_n 3, 1) := by decide +kernel
theorem dX11_textTold_10 : decode cX11_textTold 10 = .ok (.ifnonnull 6, 3) := by decide +kernel
theorem dX11_textTold_13 : decode cX11_textTold 13 = .ok (.ldc 59, 2) := by decide +kernel
theorem dX11_textTold_15 : decode cX11_textTold 15 = .ok (.ireturn, 1) := by decide +kernel
theorem dX11_textTold_16 : decode cX11_textTold 16 = .ok (.iload_n 2, 1) := by decide +kernel
theorem dX11_textTold_17 : decode cX11_textTold 17 = .ok (.lookupswitch 37 #[(0, 27), (1, 32)], 27) := by decide +kernel
theorem dX11_textTold_44 : decode cX11_textTold 44 = .ok (.aload_n 3, 1) := by decide +kernel
theorem dX11_textTold_45 : decode cX11_textTold 45 = .ok (.getfield 242, 3) := by decide +kernel
theorem dX11_textTold_48 : decode cX11_textTold 48 = .ok (.ireturn, 1) := by decide +kernel
theorem dX11_textTold_49 : decode cX11_textTold 49 = .ok (.aload_n 3, 1) := by decide +kernel
theorem dX11_textTold_50 : decode cX11_textTold 50 = .ok (.getfield 247, 3) := by decide +kernel
theorem dX11_textTold_53 : decode cX11_textTold 53 = .ok (.ireturn, 1) := by decide +kernel
theorem dX11_textTold_54 : decode cX11_textTold 54 = .ok (.ldc 59, 2) := by decide +kernel
theorem dX11_textTold_56 : decode cX11_textTold 56 = .ok (.ireturn, 1) := by decide +kernel
theorem dX11_why_0 : decode cX11_why 0 = .ok (.iload_n 1, 1) := by decide +kernel
theorem dX11_why_1 : decode cX11_why 1 = .ok (.iconst 0, 1) := by decide +kernel
theorem dX11_why_2 : decode cX11_why 2 = .ok (.iconst 2, 1) := by decide +kernel
theorem dX11_why_3 : decode cX11_why 3 = .ok (.invokestatic 55, 3) := by decide +kernel
theorem dX11_why_6 : decode cX11_why 6 = .ok (.ifCond .eq 14, 3) := by decide +kernel
theorem dX11_why_9 : decode cX11_why 9 = .ok (.aload_n 0, 1) := by decide +kernel
theorem dX11_why_10 : decode cX11_why 10 = .ok (.getfield 10, 3) := by decide +kernel
theorem dX11_why_13 : decode cX11_why 13 = .ok (.iload_n 1, 1) := by decide +kernel
theorem dX11_why_14 : decode cX11_why 14 = .ok (.invokevirtual 250, 3) := by decide +kernel
theorem dX11_why_17 : decode cX11_why 17 = .ok (.goto 5, 3) := by decide +kernel
theorem dX11_why_20 : decode cX11_why 20 = .ok (.ldc 59, 2) := by decide +kernel
theorem dX11_why_22 : decode cX11_why 22 = .ok (.ireturn, 1) := by decide +kernel
theorem dX11_sheet_0 : decode cX11_sheet 0 = .ok (.aload_n 0, 1) := by decide +kernel
theorem dX11_sheet_1 : decode cX11_sheet 1 = .ok (.iload_n 1, 1) := by decide +kernel
theorem dX11_sheet_2 : decode cX11_sheet 2 = .ok (.invokevirtual 253, 3) := by decide +kernel
theorem dX11_sheet_5 : decode cX11_sheet 5 = .ok (.astore 4, 2) := by decide +kernel
theorem dX11_sheet_7 : decode cX11_sheet 7 = .ok (.aload 4, 2) := by decide +kernel
theorem dX11_sheet_9 : decode cX11_sheet 9 = .ok (.ifnull 12, 3) := by decide +kernel
theorem dX11_sheet_12 : decode cX11_sheet 12 = .ok (.iload_n 2, 1) := by decide +kernel
theorem dX11_sheet_13 : decode cX11_sheet 13 = .ok (.iconst (-1), 1) := by decide +kernel
theorem dX11_sheet_14 : decode cX11_sheet 14 = .ok (.iconst 1, 1) := by decide +kernel
theorem dX11_sheet_15 : decode cX11_sheet 15 = .ok (.invokestatic 55, 3) := by decide +kernel
theorem dX11_sheet_18 : decode cX11_sheet 18 = .ok (.ifCond .ne 6, 3) := by decide +kernel
theorem dX11_sheet_21 : decode cX11_sheet 21 = .ok (.ldc 59, 2) := by decide +kernel
theorem dX11_sheet_23 : decode cX11_sheet 23 = .ok (.ireturn, 1) := by decide +kernel
theorem dX11_sheet_24 : decode cX11_sheet 24 = .ok (.iload_n 2, 1) := by decide +kernel
theorem dX11_sheet_25 : decode cX11_sheet 25 = .ok (.iconst (-1), 1) := by decide +kernel
theorem dX11_sheet_26 : decode cX11_sheet 26 = .ok (.if_icmp .ne 17, 3) := by decide +kernel
theorem dX11_sheet_29 : decode cX11_sheet 29 = .ok (.aload 4, 2) := by decide +kernel
theorem dX11_sheet_31 : decode cX11_sheet 31 = .ok (.iconst (-1), 1) := by decide +kernel
theorem dX11_sheet_32 : decode cX11_sheet 32 = .ok (.putfield 257, 3) := by decide +kernel
theorem dX11_sheet_35 : decode cX11_sheet 35 = .ok (.aload 4, 2) := by decide +kernel
theorem dX11_sheet_37 : decode cX11_sheet 37 = .ok (.iconst 0, 1) := by decide +kernel
theorem dX11_sheet_38 : decode cX11_sheet 38 = .ok (.putfield 260, 3) := by decide +kernel
theorem dX11_sheet_41 : decode cX11_sheet 41 = .ok (.iconst 0, 1) := by decide +kernel
theorem dX11_sheet_42 : decode cX11_sheet 42 = .ok (.ireturn, 1) := by decide +kernel
theorem dX11_sheet_43 : decode cX11_sheet 43 = .ok (.iload_n 3, 1) := by decide +kernel
theorem dX11_sheet_44 : decode cX11_sheet 44 = .ok (.bipush 24, 2) := by decide +kernel
theorem dX11_sheet_46 : decode cX11_sheet 46 = .ok (.if_icmp .le 6, 3) := by decide +kernel
theorem dX11_sheet_49 : decode cX11_sheet 49 = .ok (.ldc 59, 2) := by decide +kernel
theorem dX11_sheet_51 : decode cX11_sheet 51 = .ok (.ireturn, 1) := by decide +kernel
theorem dX11_sheet_52 : decode cX11_sheet 52 = .ok (.iload_n 3, 1) := by decide +kernel
theorem dX11_sheet_53 : decode cX11_sheet 53 = .ok (.ifCond .ge 7, 3) := by decide +kernel
theorem dX11_sheet_56 : decode cX11_sheet 56 = .ok (.ldc_w 261, 3) := by decide +kernel
theorem dX11_sheet_59 : decode cX11_sheet 59 = .ok (.ireturn, 1) := by decide +kernel
theorem dX11_sheet_60 : decode cX11_sheet 60 = .ok (.aload 4, 2) := by decide +kernel
theorem dX11_sheet_62 : decode cX11_sheet 62 = .ok (.iload_n 2, 1) := by decide +kernel
theorem dX11_sheet_63 : decode cX11_sheet 63 = .ok (.putfield 257, 3) := by decide +kernel
theorem dX11_sheet_66 : decode cX11_sheet 66 = .ok (.aload 4, 2) := by decide +kernel
theorem dX11_sheet_68 : decode cX11_sheet 68 = .ok (.iload_n 3, 1) := by decide +kernel
theorem dX11_sheet_69 : decode cX11_sheet 69 = .ok (.putfield 260, 3) := by decide +kernel
theorem dX11_sheet_72 : decode cX11_sheet 72 = .ok (.aload 4, 2) := by decide +kernel
theorem dX11_sheet_74 : decode cX11_sheet 74 = .ok (.getfield 262, 3) := by decide +kernel
theorem dX11_sheet_77 : decode cX11_sheet 77 = .ok (.iconst 0, 1) := by decide +kernel
theorem dX11_sheet_78 : decode cX11_sheet 78 = .ok (.invokestatic 265, 3) := by decide +kernel
theorem dX11_sheet_81 : decode cX11_sheet 81 = .ok (.iload_n 3, 1) := by decide +kernel
theorem dX11_sheet_82 : decode cX11_sheet 82 = .ok (.ireturn, 1) := by decide +kernel
theorem dX11_mark_0 : decode cX11_mark 0 = .ok (.aload_n 0, 1) := by decide +kernel
theorem dX11_mark_1 : decode cX11_mark 1 = .ok (.iload_n 1, 1) := by decide +kernel
theorem dX11_mark_2 : decode cX11_mark 2 = .ok (.invokevirtual 253, 3) := by decide +kernel
theorem dX11_mark_5 : decode cX11_mark 5 = .ok (.astore 4, 2) := by decide +kernel
theorem dX11_mark_7 : decode cX11_mark 7 = .ok (.aload 4, 2) := by decide +kernel
theorem dX11_mark_9 : decode cX11_mark 9 = .ok (.ifnonnull 6, 3) := by decide +kernel
theorem dX11_mark_12 : decode cX11_mark 12 = .ok (.ldc 59, 2) := by decide +kernel
theorem dX11_mark_14 : decode cX11_mark 14 = .ok (.ireturn, 1) := by decide +kernel
theorem dX11_mark_15 : decode cX11_mark 15 = .ok (.aload 4, 2) := by decide +kernel
theorem dX11_mark_17 : decode cX11_mark 17 = .ok (.getfield 257, 3) := by decide +kernel
theorem dX11_mark_20 : decode cX11_mark 20 = .ok (.iconst (-1), 1) := by decide +kernel
theorem dX11_mark_21 : decode cX11_mark 21 = .ok (.if_icmp .ne 7, 3) := by decide +kernel
theorem dX11_mark_24 : decode cX11_mark 24 = .ok (.ldc_w 271, 3) := by decide +kernel
theorem dX11_mark_27 : decode cX11_mark 27 = .ok (.ireturn, 1) := by decide +kernel
theorem dX11_mark_28 : decode cX11_mark 28 = .ok (.aload 4, 2) := by decide +kernel
theorem dX11_mark_30 : decode cX11_mark 30 = .ok (.iload_n 2, 1) := by decide +kernel
theorem dX11_mark_31 : decode cX11_mark 31 = .ok (.invokevirtual 272, 3) := by decide +kernel
theorem dX11_mark_34 : decode cX11_mark 34 = .ok (.ifCond .ne 7, 3) := by decide +kernel
theorem dX11_mark_37 : decode cX11_mark 37 = .ok (.ldc_w 275, 3) := by decide +kernel
theorem dX11_mark_40 : decode cX11_mark 40 = .ok (.ireturn, 1) := by decide +kernel
theorem dX11_mark_41 : decode cX11_mark 41 = .ok (.aload 4, 2) := by decide +kernel
theorem dX11_mark_43 : decode cX11_mark 43 = .ok (.getfield 257, 3) := by decide +kernel
theorem dX11_mark_46 : decode cX11_mark 46 = .ok (.ifCond .ne 23, 3) := by decide +kernel
theorem dX11_mark_49 : decode cX11_mark 49 = .ok (.iload_n 3, 1) := by decide +kernel
theorem dX11_mark_50 : decode cX11_mark 50 = .ok (.ldc 74, 2) := by decide +kernel
theorem dX11_mark_52 : decode cX11_mark 52 = .ok (.if_icmp .ne 6, 3) := by decide +kernel
theorem dX11_mark_55 : decode cX11_mark 55 = .ok (.ldc 156, 2) := by decide +kernel
theorem dX11_mark_57 : decode cX11_mark 57 = .ok (.ireturn, 1) := by decide +kernel
theorem dX11_mark_58 : decode cX11_mark 58 = .ok (.aload 4, 2) := by decide +kernel
theorem dX11_mark_60 : decode cX11_mark 60 = .ok (.getfield 262, 3) := by decide +kernel
theorem dX11_mark_63 : decode cX11_mark 63 = .ok (.iload_n 2, 1) := by decide +kernel
theorem dX11_mark_64 : decode cX11_mark 64 = .ok (.iload_n 3, 1) := by decide +kernel
theorem dX11_mark_65 : decode cX11_mark 65 = .ok (.i2s, 1) := by decide +kernel
theorem dX11_mark_66 : decode cX11_mark 66 = .ok (.iastore, 1) := by decide +kernel
theorem dX11_mark_67 : decode cX11_mark 67 = .ok (.iconst 1, 1) := by decide +kernel
theorem dX11_mark_68 : decode cX11_mark 68 = .ok (.ireturn, 1) := by decide +kernel
theorem dX11_mark_69 : decode cX11_mark 69 = .ok (.iload_n 3, 1) := by decide +kernel
theorem dX11_mark_70 : decode cX11_mark 70 = .ok (.ldc 74, 2) := by decide +kernel
theorem dX11_mark_72 : decode cX11_mark 72 = .ok (.if_icmp .eq 19, 3) := by decide +kernel
theorem dX11_mark_75 : decode cX11_mark 75 = .ok (.iload_n 3, 1) := by decide +kernel
theorem dX11_mark_76 : decode cX11_mark 76 = .ok (.ldc_w 276, 3) := by decide +kernel
theorem dX11_mark_79 : decode cX11_mark 79 = .ok (.ldc_w 277, 3) := by decide +kernel
theorem dX11_mark_82 : decode cX11_mark 82 = .ok (.invokestatic 55, 3) := by decide +kernel
theorem dX11_mark_85 : decode cX11_mark 85 = .ok (.ifCond .ne 6, 3) := by decide +kernel
theorem dX11_mark_88 : decode cX11_mark 88 = .ok (.ldc 59, 2) := by decide +kernel
theorem dX11_mark_90 : decode cX11_mark 90 = .ok (.ireturn, 1) := by decide +kernel
theorem dX11_mark_91 : decode cX11_mark 91 = .ok (.aload 4, 2) := by decide +kernel
theorem dX11_mark_93 : decode cX11_mark 93 = .ok (.getfield 262, 3) := by decide +kernel
theorem dX11_mark_96 : decode cX11_mark 96 = .ok (.iload_n 2, 1) := by decide +kernel
theorem dX11_mark_97 : decode cX11_mark 97 = .ok (.iload_n 3, 1) := by decide +kernel
theorem dX11_mark_98 : decode cX11_mark 98 = .ok (.iastore, 1) := by decide +kernel
theorem dX11_mark_99 : decode cX11_mark 99 = .ok (.iconst 1, 1) := by decide +kernel
theorem dX11_mark_100 : decode cX11_mark 100 = .ok (.ireturn, 1) := by decide +kernel
theorem dX11_pour_0 : decode cX11_pour 0 = .ok (.aload_n 0, 1) := by decide +kernel
theorem dX11_pour_1 : decode cX11_pour 1 = .ok (.iload_n 1, 1) := by decide +kernel
theorem dX11_pour_2 : decode cX11_pour 2 = .ok (.invokevirtual 253, 3) := by decide +kernel
theorem dX11_pour_5 : decode cX11_pour 5 = .ok (.astore_n 2, 1) := by decide +kernel
theorem dX11_pour_6 : decode cX11_pour 6 = .ok (.aload_n 2, 1) := by decide +kernel
theorem dX11_pour_7 : decode cX11_pour 7 = .ok (.ifnonnull 6, 3) := by decide +kernel
theorem dX11_pour_10 : decode cX11_pour 10 = .ok (.ldc 59, 2) := by decide +kernel
theorem dX11_pour_12 : decode cX11_pour 12 = .ok (.ireturn, 1) := by decide +kernel
theorem dX11_pour_13 : decode cX11_pour 13 = .ok (.aload_n 2, 1) := by decide +kernel
theorem dX11_pour_14 : decode cX11_pour 14 = .ok (.getfield 257, 3) := by decide +kernel
theorem dX11_pour_17 : decode cX11_pour 17 = .ok (.iconst (-1), 1) := by decide +kernel
theorem dX11_pour_18 : decode cX11_pour 18 = .ok (.if_icmp .ne 7, 3) := by decide +kernel
theorem dX11_pour_21 : decode cX11_pour 21 = .ok (.ldc_w 271, 3) := by decide +kernel
theorem dX11_pour_24 : decode cX11_pour 24 = .ok (.ireturn, 1) := by decide +kernel
theorem dX11_pour_25 : decode cX11_pour 25 = .ok (.iconst 0, 1) := by decide +kernel
theorem dX11_pour_26 : decode cX11_pour 26 = .ok (.istore_n 3, 1) := by decide +kernel
theorem dX11_pour_27 : decode cX11_pour 27 = .ok (.iconst 0, 1) := by decide +kernel
theorem dX11_pour_28 : decode cX11_pour 28 = .ok (.istore 4, 2) := by decide +kernel
theorem dX11_pour_30 : decode cX11_pour 30 = .ok (.iload 4, 2) := by decide +kernel
theorem dX11_pour_32 : decode cX11_pour 32 = .ok (.aload_n 2, 1) := by decide +kernel
theorem dX11_pour_33 : decode cX11_pour 33 = .ok (.getfield 260, 3) := by decide +kernel
theorem dX11_pour_36 : decode cX11_pour 36 = .ok (.if_icmp .ge 84, 3) := by decide +kernel
theorem dX11_pour_39 : decode cX11_pour 39 = .ok (.iload 4, 2) := by decide +kernel
theorem dX11_pour_41 : decode cX11_pour 41 = .ok (.iconst 2, 1) := by decide +kernel
theorem dX11_pour_42 : decode cX11_pour 42 = .ok (.aload_n 0, 1) := by decide +kernel
theorem dX11_pour_43 : decode cX11_pour 43 = .ok (.getfield 10, 3) := by decide +kernel
theorem dX11_pour_46 : decode cX11_pour 46 = .ok (.getfield 190, 3) := by decide +kernel
theorem dX11_pour_49 : decode cX11_pour 49 = .ok (.imul, 1) := by decide +kernel
theorem dX11_pour_50 : decode cX11_pour 50 = .ok (.if_icmp .ge 70, 3) := by decide +kernel
theorem dX11_pour_53 : decode cX11_pour 53 = .ok (.aload_n 0, 1) := by decide +kernel
theorem dX11_pour_54 : decode cX11_pour 54 = .ok (.getfield 10, 3) := by decide +kernel
theorem dX11_pour_57 : decode cX11_pour 57 = .ok (.aload_n 2, 1) := by decide +kernel
theorem dX11_pour_58 : decode cX11_pour 58 = .ok (.getfield 262, 3) := by decide +kernel
theorem dX11_pour_61 : decode cX11_pour 61 = .ok (.iload 4, 2) := by decide +kernel
theorem dX11_pour_63 : decode cX11_pour 63 = .ok (.iaload, 1) := by decide +kernel
theorem dX11_pour_64 : decode cX11_pour 64 = .ok (.invokevirtual 64, 3) := by decide +kernel
theorem dX11_pour_67 : decode cX11_pour 67 = .ok (.ifCond .eq 13, 3) := by decide +kernel
theorem dX11_pour_70 : decode cX11_pour 70 = .ok (.aload_n 2, 1) := by decide +kernel
theorem dX11_pour_71 : decode cX11_pour 71 = .ok (.getfield 262, 3) := by decide +kernel
theorem dX11_pour_74 : decode cX11_pour 74 = .ok (.iload 4, 2) := by decide +kernel
theorem dX11_pour_76 : decode cX11_pour 76 = .ok (.iaload, 1) := by decide +kernel
theorem dX11_pour_77 : decode cX11_pour 77 = .ok (.goto 5, 3) := by decide +kernel
theorem dX11_pour_80 : decode cX11_pour 80 = .ok (.ldc 74, 2) := by decide +kernel
theorem dX11_pour_82 : decode cX11_pour 82 = .ok (.istore 5, 2) := by decide +kernel
theorem dX11_pour_84 : decode cX11_pour 84 = .ok (.aload_n 0, 1) := by decide +kernel
theorem dX11_pour_85 : decode cX11_pour 85 = .ok (.getfield 10, 3) := by decide +kernel
theorem dX11_pour_88 : decode cX11_pour 88 = .ok (.getfield 117, 3) := by decide +kernel
theorem dX11_pour_91 : decode cX11_pour 91 = .ok (.iload 4, 2) := by decide +kernel
theorem dX11_pour_93 : decode cX11_pour 93 = .ok (.iaload, 1) := by decide +kernel
theorem dX11_pour_94 : decode cX11_pour 94 = .ok (.iload 5, 2) := by decide +kernel
theorem dX11_pour_96 : decode cX11_pour 96 = .ok (.if_icmp .eq 18, 3) := by decide +kernel
theorem dX11_pour_99 : decode cX11_pour 99 = .ok (.aload_n 0, 1) := by decide +kernel
theorem dX11_pour_100 : decode cX11_pour 100 = .ok (.getfield 10, 3) := by decide +kernel
theorem dX11_pour_103 : decode cX11_pour 103 = .ok (.getfield 117, 3) := by decide +kernel
theorem dX11_pour_106 : decode cX11_pour 106 = .ok (.iload 4, 2) := by decide +kernel
theorem dX11_pour_108 : decode cX11_pour 108 = .ok (.iload 5, 2) := by decide +kernel
theorem dX11_pour_110 : decode cX11_pour 110 = .ok (.iastore, 1) := by decide +kernel
theorem dX11_pour_111 : decode cX11_pour 111 = .ok (.iinc 3 1, 3) := by decide +kernel
theorem dX11_pour_114 : decode cX11_pour 114 = .ok (.iinc 4 1, 3) := by decide +kernel
theorem dX11_pour_117 : decode cX11_pour 117 = .ok (.goto (-87), 3) := by decide +kernel
theorem dX11_pour_120 : decode cX11_pour 120 = .ok (.iload_n 3, 1) := by decide +kernel
theorem dX11_pour_121 : decode cX11_pour 121 = .ok (.ireturn, 1) := by decide +kernel
theorem dX11_reads_0 : decode cX11_reads 0 = .ok (.aload_n 0, 1) := by decide +kernel
theorem dX11_reads_1 : decode cX11_reads 1 = .ok (.iload_n 1, 1) := by decide +kernel
theorem dX11_reads_2 : decode cX11_reads 2 = .ok (.invokevirtual 253, 3) := by decide +kernel
theorem dX11_reads_5 : decode cX11_reads 5 = .ok (.astore_n 2, 1) := by decide +kernel
theorem dX11_reads_6 : decode cX11_reads 6 = .ok (.aload_n 2, 1) := by decide +kernel
theorem dX11_reads_7 : decode cX11_reads 7 = .ok (.ifnonnull 6, 3) := by decide +kernel
theorem dX11_reads_10 : decode cX11_reads 10 = .ok (.ldc 59, 2) := by decide +kernel
theorem dX11_reads_12 : decode cX11_reads 12 = .ok (.ireturn, 1) := by decide +kernel
theorem dX11_reads_13 : decode cX11_reads 13 = .ok (.aload_n 2, 1) := by decide +kernel
theorem dX11_reads_14 : decode cX11_reads 14 = .ok (.getfield 257, 3) := by decide +kernel
theorem dX11_reads_17 : decode cX11_reads 17 = .ok (.iconst (-1), 1) := by decide +kernel
theorem dX11_reads_18 : decode cX11_reads 18 = .ok (.if_icmp .ne 7, 3) := by decide +kernel
theorem dX11_reads_21 : decode cX11_reads 21 = .ok (.ldc_w 271, 3) := by decide +kernel
theorem dX11_reads_24 : decode cX11_reads 24 = .ok (.ireturn, 1) := by decide +kernel
theorem dX11_reads_25 : decode cX11_reads 25 = .ok (.iconst 0, 1) := by decide +kernel
theorem dX11_reads_26 : decode cX11_reads 26 = .ok (.istore_n 3, 1) := by decide +kernel
theorem dX11_reads_27 : decode cX11_reads 27 = .ok (.iload_n 3, 1) := by decide +kernel
theorem dX11_reads_28 : decode cX11_reads 28 = .ok (.aload_n 2, 1) := by decide +kernel
theorem dX11_reads_29 : decode cX11_reads 29 = .ok (.getfield 260, 3) := by decide +kernel
theorem dX11_reads_32 : decode cX11_reads 32 = .ok (.if_icmp .ge 52, 3) := by decide +kernel
theorem dX11_reads_35 : decode cX11_reads 35 = .ok (.aload_n 2, 1) := by decide +kernel
theorem dX11_reads_36 : decode cX11_reads 36 = .ok (.getfield 262, 3) := by decide +kernel
theorem dX11_reads_39 : decode cX11_reads 39 = .ok (.iload_n 3, 1) := by decide +kernel
theorem dX11_reads_40 : decode cX11_reads 40 = .ok (.iaload, 1) := by decide +kernel
theorem dX11_reads_41 : decode cX11_reads 41 = .ok (.istore 4, 2) := by decide +kernel
theorem dX11_reads_43 : decode cX11_reads 43 = .ok (.iload 4, 2) := by decide +kernel
theorem dX11_reads_45 : decode cX11_reads 45 = .ok (.ldc 74, 2) := by decide +kernel
theorem dX11_reads_47 : decode cX11_reads 47 = .ok (.if_icmp .eq 31, 3) := by decide +kernel
theorem dX11_reads_50 : decode cX11_reads 50 = .ok (.aload_n 0, 1) := by decide +kernel
theorem dX11_reads_51 : decode cX11_reads 51 = .ok (.getfield 10, 3) := by decide +kernel
theorem dX11_reads_54 : decode cX11_reads 54 = .ok (.iload_n 3, 1) := by decide +kernel
theorem dX11_reads_55 : decode cX11_reads 55 = .ok (.invokevirtual 64, 3) := by decide +kernel
theorem dX11_reads_58 : decode cX11_reads 58 = .ok (.ifCond .eq 18, 3) := by decide +kernel
theorem dX11_reads_61 : decode cX11_reads 61 = .ok (.iload 4, 2) := by decide +kernel
theorem dX11_reads_63 : decode cX11_reads 63 = .ok (.aload_n 0, 1) := by decide +kernel
theorem dX11_reads_64 : decode cX11_reads 64 = .ok (.getfield 10, 3) := by decide +kernel
theorem dX11_reads_67 : decode cX11_reads 67 = .ok (.iload_n 3, 1) := by decide +kernel
theorem dX11_reads_68 : decode cX11_reads 68 = .ok (.ldc 74, 2) := by decide +kernel
theorem dX11_reads_70 : decode cX11_reads 70 = .ok (.invokevirtual 75, 3) := by decide +kernel
theorem dX11_reads_73 : decode cX11_reads 73 = .ok (.if_icmp .eq 5, 3) := by decide +kernel
theorem dX11_reads_76 : decode cX11_reads 76 = .ok (.iload_n 3, 1) := by decide +kernel
theorem dX11_reads_77 : decode cX11_reads 77 = .ok (.ireturn, 1) := by decide +kernel
theorem dX11_reads_78 : decode cX11_reads 78 = .ok (.iinc 3 1, 3) := by decide +kernel
theorem dX11_reads_81 : decode cX11_reads 81 = .ok (.goto (-54), 3) := by decide +kernel
theorem dX11_reads_84 : decode cX11_reads 84 = .ok (.ldc 74, 2) := by decide +kernel
theorem dX11_reads_86 : decode cX11_reads 86 = .ok (.ireturn, 1) := by decide +kernel
theorem dX11_copy_0 : decode cX11_copy 0 = .ok (.aload_n 0, 1) := by decide +kernel
theorem dX11_copy_1 : decode cX11_copy 1 = .ok (.iload_n 1, 1) := by decide +kernel
theorem dX11_copy_2 : decode cX11_copy 2 = .ok (.invokevirtual 253, 3) := by decide +kernel
theorem dX11_copy_5 : decode cX11_copy 5 = .ok (.astore 6, 2) := by decide +kernel
theorem dX11_copy_7 : decode cX11_copy 7 = .ok (.aload_n 0, 1) := by decide +kernel
theorem dX11_copy_8 : decode cX11_copy 8 = .ok (.iload_n 3, 1) := by decide +kernel
theorem dX11_copy_9 : decode cX11_copy 9 = .ok (.invokevirtual 253, 3) := by decide +kernel
theorem dX11_copy_12 : decode cX11_copy 12 = .ok (.astore 7, 2) := by decide +kernel
theorem dX11_copy_14 : decode cX11_copy 14 = .ok (.aload 6, 2) := by decide +kernel
theorem dX11_copy_16 : decode cX11_copy 16 = .ok (.ifnull 8, 3) := by decide +kernel
theorem dX11_copy_19 : decode cX11_copy 19 = .ok (.aload 7, 2) := by decide +kernel
theorem dX11_copy_21 : decode cX11_copy 21 = .ok (.ifnonnull 6, 3) := by decide +kernel
theorem dX11_copy_24 : decode cX11_copy 24 = .ok (.ldc 59, 2) := by decide +kernel
theorem dX11_copy_26 : decode cX11_copy 26 = .ok (.ireturn, 1) := by decide +kernel
theorem dX11_copy_27 : decode cX11_copy 27 = .ok (.aload 6, 2) := by decide +kernel
theorem dX11_copy_29 : decode cX11_copy 29 = .ok (.getfield 257, 3) := by decide +kernel
theorem dX11_copy_32 : decode cX11_copy 32 = .ok (.iconst (-1), 1) := by decide +kernel
theorem dX11_copy_33 : decode cX11_copy 33 = .ok (.if_icmp .eq 12, 3) := by decide +kernel
theorem dX11_copy_36 : decode cX11_copy 36 = .ok (.aload 7, 2) := by decide +kernel
theorem dX11_copy_38 : decode cX11_copy 38 = .ok (.getfield 257, 3) := by decide +kernel
theorem dX11_copy_41 : decode cX11_copy 41 = .ok (.iconst (-1), 1) := by decide +kernel
theorem dX11_copy_42 : decode cX11_copy 42 = .ok (.if_icmp .ne 7, 3) := by decide +kernel
theorem dX11_copy_45 : decode cX11_copy 45 = .ok (.ldc_w 271, 3) := by decide +kernel
theorem dX11_copy_48 : decode cX11_copy 48 = .ok (.ireturn, 1) := by decide +kernel
theorem dX11_copy_49 : decode cX11_copy 49 = .ok (.aload 6, 2) := by decide +kernel
theorem dX11_copy_51 : decode cX11_copy 51 = .ok (.getfield 257, 3) := by decide +kernel
theorem dX11_copy_54 : decode cX11_copy 54 = .ok (.aload 7, 2) := by decide +kernel
theorem dX11_copy_56 : decode cX11_copy 56 = .ok (.getfield 257, 3) := by decide +kernel
theorem dX11_copy_59 : decode cX11_copy 59 = .ok (.if_icmp .eq 6, 3) := by decide +kernel
theorem dX11_copy_62 : decode cX11_copy 62 = .ok (.ldc 156, 2) := by decide +kernel
theorem dX11_copy_64 : decode cX11_copy 64 = .ok (.ireturn, 1) := by decide +kernel
theorem dX11_copy_65 : decode cX11_copy 65 = .ok (.aload 6, 2) := by decide +kernel
theorem dX11_copy_67 : decode cX11_copy 67 = .ok (.iload_n 2, 1) := by decide +kernel
theorem dX11_copy_68 : decode cX11_copy 68 = .ok (.iload 5, 2) := by decide +kernel
theorem dX11_copy_70 : decode cX11_copy 70 = .ok (.invokevirtual 278, 3) := by decide +kernel
theorem dX11_copy_73 : decode cX11_copy 73 = .ok (.ifCond .eq 15, 3) := by decide +kernel
theorem dX11_copy_76 : decode cX11_copy 76 = .ok (.aload 7, 2) := by decide +kernel
theorem dX11_copy_78 : decode cX11_copy 78 = .ok (.iload 4, 2) := by decide +kernel
theorem dX11_copy_80 : decode cX11_copy 80 = .ok (.iload 5, 2) := by decide +kernel
theorem dX11_copy_82 : decode cX11_copy 82 = .ok (.invokevirtual 278, 3) := by decide +kernel
theorem dX11_copy_85 : decode cX11_copy 85 = .ok (.ifCond .ne 7, 3) := by decide +kernel
theorem dX11_copy_88 : decode cX11_copy 88 = .ok (.ldc_w 275, 3) := by decide +kernel
theorem dX11_copy_91 : decode cX11_copy 91 = .ok (.ireturn, 1) := by decide +kernel
theorem dX11_copy_92 : decode cX11_copy 92 = .ok (.aload 6, 2) := by decide +kernel
theorem dX11_copy_94 : decode cX11_copy 94 = .ok (.getfield 262, 3) := by decide +kernel
theorem dX11_copy_97 : decode cX11_copy 97 = .ok (.iload_n 2, 1) := by decide +kernel
theorem dX11_copy_98 : decode cX11_copy 98 = .ok (.aload 7, 2) := by decide +kernel
theorem dX11_copy_100 : decode cX11_copy 100 = .ok (.getfield 262, 3) := by decide +kernel
theorem dX11_copy_103 : decode cX11_copy 103 = .ok (.iload 4, 2) := by decide +kernel
theorem dX11_copy_105 : decode cX11_copy 105 = .ok (.iload 5, 2) := by decide +kernel
theorem dX11_copy_107 : decode cX11_copy 107 = .ok (.invokestatic 281, 3) := by decide +kernel
theorem dX11_copy_110 : decode cX11_copy 110 = .ok (.iload 5, 2) := by decide +kernel
theorem dX11_copy_112 : decode cX11_copy 112 = .ok (.ireturn, 1) := by decide +kernel
theorem dX11_lay_0 : decode cX11_lay 0 = .ok (.aload_n 0, 1) := by decide +kernel
theorem dX11_lay_1 : decode cX11_lay 1 = .ok (.iload_n 1, 1) := by decide +kernel
theorem dX11_lay_2 : decode cX11_lay 2 = .ok (.invokevirtual 287, 3) := by decide +kernel
theorem dX11_lay_5 : decode cX11_lay 5 = .ok (.astore 4, 2) := by decide +kernel
theorem dX11_lay_7 : decode cX11_lay 7 = .ok (.aload 4, 2) := by decide +kernel
theorem dX11_lay_9 : decode cX11_lay 9 = .ok (.ifnull 12, 3) := by decide +kernel
theorem dX11_lay_12 : decode cX11_lay 12 = .ok (.iload_n 2, 1) := by decide +kernel
theorem dX11_lay_13 : decode cX11_lay 13 = .ok (.iconst 0, 1) := by decide +kernel
theorem dX11_lay_14 : decode cX11_lay 14 = .ok (.iconst 3, 1) := by decide +kernel
theorem dX11_lay_15 : decode cX11_lay 15 = .ok (.invokestatic 55, 3) := by decide +kernel
theorem dX11_lay_18 : decode cX11_lay 18 = .ok (.ifCond .ne 6, 3) := by decide +kernel
theorem dX11_lay_21 : decode cX11_lay 21 = .ok (.ldc 59, 2) := by decide +kernel
theorem dX11_lay_23 : decode cX11_lay 23 = .ok (.ireturn, 1) := by decide +kernel
theorem dX11_lay_24 : decode cX11_lay 24 = .ok (.iload_n 2, 1) := by decide +kernel
theorem dX11_lay_25 : decode cX11_lay 25 = .ok (.iconst 1, 1) := by decide +kernel
theorem dX11_lay_26 : decode cX11_lay 26 = .ok (.if_icmp .ne 14, 3) := by decide +kernel
theorem dX11_lay_29 : decode cX11_lay 29 = .ok (.aload_n 0, 1) := by decide +kernel
theorem dX11_lay_30 : decode cX11_lay 30 = .ok (.getfield 10, 3) := by decide +kernel
theorem dX11_lay_33 : decode cX11_lay 33 = .ok (.iload_n 3, 1) := by decide +kernel
theorem dX11_lay_34 : decode cX11_lay 34 = .ok (.invokevirtual 140, 3) := by decide +kernel
theorem dX11_lay_37 : decode cX11_lay 37 = .ok (.goto 4, 3) := by decide +kernel
theorem dX11_lay_40 : decode cX11_lay 40 = .ok (.aconst_null, 1) := by decide +kernel
theorem dX11_lay_41 : decode cX11_lay 41 = .ok (.astore 5, 2) := by decide +kernel
theorem dX11_lay_43 : decode cX11_lay 43 = .ok (.iload_n 2, 1) := by decide +kernel
theorem dX11_lay_44 : decode cX11_lay 44 = .ok (.iconst 2, 1) := by decide +kernel
theorem dX11_lay_45 : decode cX11_lay 45 = .ok (.if_icmp .ne 11, 3) := by decide +kernel
theorem dX11_lay_48 : decode cX11_lay 48 = .ok (.aload_n 0, 1) := by decide +kernel
theorem dX11_lay_49 : decode cX11_lay 49 = .ok (.iload_n 3, 1) := by decide +kernel
theorem dX11_lay_50 : decode cX11_lay 50 = .ok (.invokevirtual 253, 3) := by decide +kernel
theorem dX11_lay_53 : decode cX11_lay 53 = .ok (.goto 4, 3) := by decide +kernel
theorem dX11_lay_56 : decode cX11_lay 56 = .ok (.aconst_null, 1) := by decide +kernel
theorem dX11_lay_57 : decode cX11_lay 57 = .ok (.astore 6, 2) := by decide +kernel
theorem dX11_lay_59 : decode cX11_lay 59 = .ok (.iload_n 2, 1) := by decide +kernel
theorem dX11_lay_60 : decode cX11_lay 60 = .ok (.iconst 1, 1) := by decide +kernel
theorem dX11_lay_61 : decode cX11_lay 61 = .ok (.if_icmp .ne 8, 3) := by decide +kernel
theorem dX11_lay_64 : decode cX11_lay 64 = .ok (.aload 5, 2) := by decide +kernel
theorem dX11_lay_66 : decode cX11_lay 66 = .ok (.ifnull 13, 3) := by decide +kernel
theorem dX11_lay_69 : decode cX11_lay 69 = .ok (.iload_n 2, 1) := by decide +kernel
theorem dX11_lay_70 : decode cX11_lay 70 = .ok (.iconst 2, 1) := by decide +kernel
theorem dX11_lay_71 : decode cX11_lay 71 = .ok (.if_icmp .ne 11, 3) := by decide +kernel
theorem dX11_lay_74 : decode cX11_lay 74 = .ok (.aload 6, 2) := by decide +kernel
theorem dX11_lay_76 : decode cX11_lay 76 = .ok (.ifnonnull 6, 3) := by decide +kernel
theorem dX11_lay_79 : decode cX11_lay 79 = .ok (.ldc 59, 2) := by decide +kernel
theorem dX11_lay_81 : decode cX11_lay 81 = .ok (.ireturn, 1) := by decide +kernel
theorem dX11_lay_82 : decode cX11_lay 82 = .ok (.aload 6, 2) := by decide +kernel
theorem dX11_lay_84 : decode cX11_lay 84 = .ok (.ifnull 16, 3) := by decide +kernel
theorem dX11_lay_87 : decode cX11_lay 87 = .ok (.aload 6, 2) := by decide +kernel
theorem dX11_lay_89 : decode cX11_lay 89 = .ok (.getfield 257, 3) := by decide +kernel
theorem dX11_lay_92 : decode cX11_lay 92 = .ok (.iconst (-1), 1) := by decide +kernel
theorem dX11_lay_93 : decode cX11_lay 93 = .ok (.if_icmp .ne 7, 3) := by decide +kernel
theorem dX11_lay_96 : decode cX11_lay 96 = .ok (.ldc_w 271, 3) := by decide +kernel
theorem dX11_lay_99 : decode cX11_lay 99 = .ok (.ireturn, 1) := by decide +kernel
theorem dX11_lay_100 : decode cX11_lay 100 = .ok (.aload 4, 2) := by decide +kernel
theorem dX11_lay_102 : decode cX11_lay 102 = .ok (.getfield 291, 3) := by decide +kernel
theorem dX11_lay_105 : decode cX11_lay 105 = .ok (.istore 7, 2) := by decide +kernel
theorem dX11_lay_107 : decode cX11_lay 107 = .ok (.aload 4, 2) := by decide +kernel
theorem dX11_lay_109 : decode cX11_lay 109 = .ok (.iload_n 2, 1) := by decide +kernel
theorem dX11_lay_110 : decode cX11_lay 110 = .ok (.putfield 291, 3) := by decide +kernel
theorem dX11_lay_113 : decode cX11_lay 113 = .ok (.aload 4, 2) := by decide +kernel
theorem dX11_lay_115 : decode cX11_lay 115 = .ok (.aload 5, 2) := by decide +kernel
theorem dX11_lay_117 : decode cX11_lay 117 = .ok (.putfield 294, 3) := by decide +kernel
theorem dX11_lay_120 : decode cX11_lay 120 = .ok (.aload 4, 2) := by decide +kernel
theorem dX11_lay_122 : decode cX11_lay 122 = .ok (.iload_n 3, 1) := by decide +kernel
theorem dX11_lay_123 : decode cX11_lay 123 = .ok (.putfield 298, 3) := by decide +kernel
theorem dX11_lay_126 : decode cX11_lay 126 = .ok (.aload 6, 2) := by decide +kernel
theorem dX11_lay_128 : decode cX11_lay 128 = .ok (.ifnull 13, 3) := by decide +kernel
theorem dX11_lay_131 : decode cX11_lay 131 = .ok (.aload 4, 2) := by decide +kernel
theorem dX11_lay_133 : decode cX11_lay 133 = .ok (.getfield 301, 3) := by decide +kernel
theorem dX11_lay_136 : decode cX11_lay 136 = .ok (.aload 6, 2) := by decide +kernel
theorem dX11_lay_138 : decode cX11_lay 138 = .ok (.invokevirtual 305, 3) := by decide +kernel
theorem dX11_lay_141 : decode cX11_lay 141 = .ok (.iload 7, 2) := by decide +kernel
theorem dX11_lay_143 : decode cX11_lay 143 = .ok (.ireturn, 1) := by decide +kernel
theorem dX11_ask_0 : decode cX11_ask 0 = .ok (.aload_n 0, 1) := by decide +kernel
theorem dX11_ask_1 : decode cX11_ask 1 = .ok (.iload_n 1, 1) := by decide +kernel
theorem dX11_ask_2 : decode cX11_ask 2 = .ok (.invokevirtual 287, 3) := by decide +kernel
theorem dX11_ask_5 : decode cX11_ask 5 = .ok (.astore_n 3, 1) := by decide +kernel
theorem dX11_ask_6 : decode cX11_ask 6 = .ok (.aload_n 3, 1) := by decide +kernel
theorem dX11_ask_7 : decode cX11_ask 7 = .ok (.ifnull 10, 3) := by decide +kernel
theorem dX11_ask_10 : decode cX11_ask 10 = .ok (.iload_n 2, 1) := by decide +kernel
theorem dX11_ask_11 : decode cX11_ask 11 = .ok (.invokestatic 123, 3) := by decide +kernel
theorem dX11_ask_14 : decode cX11_ask 14 = .ok (.ifCond .ne 6, 3) := by decide +kernel
theorem dX11_ask_17 : decode cX11_ask 17 = .ok (.ldc 59, 2) := by decide +kernel
theorem dX11_ask_19 : decode cX11_ask 19 = .ok (.ireturn, 1) := by decide +kernel
theorem dX11_ask_20 : decode cX11_ask 20 = .ok (.aload_n 3, 1) := by decide +kernel
theorem dX11_ask_21 : decode cX11_ask 21 = .ok (.getfield 291, 3) := by decide +kernel
theorem dX11_ask_24 : decode cX11_ask 24 = .ok (.ifCond .ne 7, 3) := by decide +kernel
theorem dX11_ask_27 : decode cX11_ask 27 = .ok (.ldc_w 271, 3) := by decide +kernel
theorem dX11_ask_30 : decode cX11_ask 30 = .ok (.ireturn, 1) := by decide +kernel
theorem dX11_ask_31 : decode cX11_ask 31 = .ok (.aload_n 3, 1) := by decide +kernel
theorem dX11_ask_32 : decode cX11_ask 32 = .ok (.getfield 294, 3) := by decide +kernel
theorem dX11_ask_35 : decode cX11_ask 35 = .ok (.astore 4, 2) := by decide +kernel
theorem dX11_ask_37 : decode cX11_ask 37 = .ok (.aload 4, 2) := by decide +kernel
theorem dX11_ask_39 : decode cX11_ask 39 = .ok (.ifnull 20, 3) := by decide +kernel
theorem dX11_ask_42 : decode cX11_ask 42 = .ok (.aload 4, 2) := by decide +kernel
theorem dX11_ask_44 : decode cX11_ask 44 = .ok (.iload_n 2, 1) := by decide +kernel
theorem dX11_ask_45 : decode cX11_ask 45 = .ok (.invokevirtual 153, 3) := by decide +kernel
theorem dX11_ask_48 : decode cX11_ask 48 = .ok (.ifCond .eq 11, 3) := by decide +kernel
theorem dX11_ask_51 : decode cX11_ask 51 = .ok (.aload 4, 2) := by decide +kernel
theorem dX11_ask_53 : decode cX11_ask 53 = .ok (.invokevirtual 150, 3) := by decide +kernel
theorem dX11_ask_56 : decode cX11_ask 56 = .ok (.goto 5, 3) := by decide +kernel
theorem dX11_ask_59 : decode cX11_ask 59 = .ok (.ldc 156, 2) := by decide +kernel
theorem dX11_ask_61 : decode cX11_ask 61 = .ok (.ireturn, 1) := by decide +kernel
theorem dX11_item_0 : decode cX11_item 0 = .ok (.aload_n 0, 1) := by decide +kernel
theorem dX11_item_1 : decode cX11_item 1 = .ok (.iload_n 1, 1) := by decide +kernel
theorem dX11_item_2 : decode cX11_item 2 = .ok (.invokevirtual 287, 3) := by decide +kernel
theorem dX11_item_5 : decode cX11_item 5 = .ok (.astore_n 3, 1) := by decide +kernel
theorem dX11_item_6 : decode cX11_item 6 = .ok (.aload_n 3, 1) := by decide +kernel
theorem dX11_item_7 : decode cX11_item 7 = .ok (.ifnonnull 6, 3) := by decide +kernel
theorem dX11_item_10 : decode cX11_item 10 = .ok (.ldc 59, 2) := by decide +kernel
theorem dX11_item_12 : decode cX11_item 12 = .ok (.ireturn, 1) := by decide +kernel
theorem dX11_item_13 : decode cX11_item 13 = .ok (.aload_n 3, 1) := by decide +kernel
theorem dX11_item_14 : decode cX11_item 14 = .ok (.getfield 291, 3) := by decide +kernel
theorem dX11_item_17 : decode cX11_item 17 = .ok (.ifCond .ne 7, 3) := by decide +kernel
theorem dX11_item_20 : decode cX11_item 20 = .ok (.ldc_w 271, 3) := by decide +kernel
theorem dX11_item_23 : decode cX11_item 23 = .ok (.ireturn, 1) := by decide +kernel
theorem dX11_item_24 : decode cX11_item 24 = .ok (.aload_n 3, 1) := by decide +kernel
theorem dX11_item_25 : decode cX11_item 25 = .ok (.getfield 291, 3) := by decide +kernel
theorem dX11_item_28 : decode cX11_item 28 = .ok (.iconst 2, 1) := by decide +kernel
theorem dX11_item_29 : decode cX11_item 29 = .ok (.if_icmp .eq 6, 3) := by decide +kernel
theorem dX11_item_32 : decode cX11_item 32 = .ok (.ldc 156, 2) := by decide +kernel
theorem dX11_item_34 : decode cX11_item 34 = .ok (.ireturn, 1) := by decide +kernel
theorem dX11_item_35 : decode cX11_item 35 = .ok (.aload_n 3, 1) := by decide +kernel
theorem dX11_item_36 : decode cX11_item 36 = .ok (.getfield 301, 3) := by decide +kernel
theorem dX11_item_39 : decode cX11_item 39 = .ok (.iload_n 2, 1) := by decide +kernel
theorem dX11_item_40 : decode cX11_item 40 = .ok (.invokevirtual 272, 3) := by decide +kernel
theorem dX11_item_43 : decode cX11_item 43 = .ok (.ifCond .ne 7, 3) := by decide +kernel
theorem dX11_item_46 : decode cX11_item 46 = .ok (.ldc_w 275, 3) := by decide +kernel
theorem dX11_item_49 : decode cX11_item 49 = .ok (.ireturn, 1) := by decide +kernel
theorem dX11_item_50 : decode cX11_item 50 = .ok (.aload_n 3, 1) := by decide +kernel
theorem dX11_item_51 : decode cX11_item 51 = .ok (.getfield 301, 3) := by decide +kernel
theorem dX11_item_54 : decode cX11_item 54 = .ok (.getfield 262, 3) := by decide +kernel
theorem dX11_item_57 : decode cX11_item 57 = .ok (.iload_n 2, 1) := by decide +kernel
theorem dX11_item_58 : decode cX11_item 58 = .ok (.iaload, 1) := by decide +kernel
theorem dX11_item_59 : decode cX11_item 59 = .ok (.istore 4, 2) := by decide +kernel
theorem dX11_item_61 : decode cX11_item 61 = .ok (.iload 4, 2) := by decide +kernel
theorem dX11_item_63 : decode cX11_item 63 = .ok (.ldc 74, 2) := by decide +kernel
theorem dX11_item_65 : decode cX11_item 65 = .ok (.if_icmp .ne 8, 3) := by decide +kernel
theorem dX11_item_68 : decode cX11_item 68 = .ok (.ldc 156, 2) := by decide +kernel
theorem dX11_item_70 : decode cX11_item 70 = .ok (.goto 5, 3) := by decide +kernel
theorem dX11_item_73 : decode cX11_item 73 = .ok (.iload 4, 2) := by decide +kernel
theorem dX11_item_75 : decode cX11_item 75 = .ok (.ireturn, 1) := by decide +kernel
theorem dX11_rest_0 : decode cX11_rest 0 = .ok (.aload_n 0, 1) := by decide +kernel
theorem dX11_rest_1 : decode cX11_rest 1 = .ok (.iload_n 1, 1) := by decide +kernel
theorem dX11_rest_2 : decode cX11_rest 2 = .ok (.invokevirtual 287, 3) := by decide +kernel
theorem dX11_rest_5 : decode cX11_rest 5 = .ok (.astore_n 3, 1) := by decide +kernel
theorem dX11_rest_6 : decode cX11_rest 6 = .ok (.aload_n 3, 1) := by decide +kernel
theorem dX11_rest_7 : decode cX11_rest 7 = .ok (.ifnonnull 6, 3) := by decide +kernel
theorem dX11_rest_10 : decode cX11_rest 10 = .ok (.ldc 59, 2) := by decide +kernel
theorem dX11_rest_12 : decode cX11_rest 12 = .ok (.ireturn, 1) := by decide +kernel
theorem dX11_rest_13 : decode cX11_rest 13 = .ok (.aload_n 3, 1) := by decide +kernel
theorem dX11_rest_14 : decode cX11_rest 14 = .ok (.getfield 291, 3) := by decide +kernel
theorem dX11_rest_17 : decode cX11_rest 17 = .ok (.ifCond .ne 7, 3) := by decide +kernel
theorem dX11_rest_20 : decode cX11_rest 20 = .ok (.ldc_w 271, 3) := by decide +kernel
theorem dX11_rest_23 : decode cX11_rest 23 = .ok (.ireturn, 1) := by decide +kernel
theorem dX11_rest_24 : decode cX11_rest 24 = .ok (.aload_n 3, 1) := by decide +kernel
theorem dX11_rest_25 : decode cX11_rest 25 = .ok (.getfield 291, 3) := by decide +kernel
theorem dX11_rest_28 : decode cX11_rest 28 = .ok (.iconst 3, 1) := by decide +kernel
theorem dX11_rest_29 : decode cX11_rest 29 = .ok (.if_icmp .eq 6, 3) := by decide +kernel
theorem dX11_rest_32 : decode cX11_rest 32 = .ok (.ldc 156, 2) := by decide +kernel
theorem dX11_rest_34 : decode cX11_rest 34 = .ok (.ireturn, 1) := by decide +kernel
theorem dX11_rest_35 : decode cX11_rest 35 = .ok (.iload_n 2, 1) := by decide +kernel
theorem dX11_rest_36 : decode cX11_rest 36 = .ok (.ifCond .ne 9, 3) := by decide +kernel
theorem dX11_rest_39 : decode cX11_rest 39 = .ok (.ldc_w 309, 3) := by decide +kernel
theorem dX11_rest_42 : decode cX11_rest 42 = .ok (.goto 9, 3) := by decide +kernel
theorem dX11_rest_45 : decode cX11_rest 45 = .ok (.aload_n 3, 1) := by decide +kernel
theorem dX11_rest_46 : decode cX11_rest 46 = .ok (.getfield 298, 3) := by decide +kernel
theorem dX11_rest_49 : decode cX11_rest 49 = .ok (.iload_n 2, 1) := by decide +kernel
theorem dX11_rest_50 : decode cX11_rest 50 = .ok (.irem, 1) := by decide +kernel
theorem dX11_rest_51 : decode cX11_rest 51 = .ok (.ireturn, 1) := by decide +kernel
theorem dX11_tell_0 : decode cX11_tell 0 = .ok (.aload_n 0, 1) := by decide +kernel
theorem dX11_tell_1 : decode cX11_tell 1 = .ok (.getfield 34, 3) := by decide +kernel
theorem dX11_tell_4 : decode cX11_tell 4 = .ok (.bipush 60, 2) := by decide +kernel
theorem dX11_tell_6 : decode cX11_tell 6 = .ok (.if_icmp .lt 6, 3) := by decide +kernel
theorem dX11_tell_9 : decode cX11_tell 9 = .ok (.ldc 129, 2) := by decide +kernel
theorem dX11_tell_11 : decode cX11_tell 11 = .ok (.ireturn, 1) := by decide +kernel
theorem dX11_tell_12 : decode cX11_tell 12 = .ok (.aload_n 0, 1) := by decide +kernel
theorem dX11_tell_13 : decode cX11_tell 13 = .ok (.getfield 30, 3) := by decide +kernel
theorem dX11_tell_16 : decode cX11_tell 16 = .ok (.aload_n 0, 1) := by decide +kernel
theorem dX11_tell_17 : decode cX11_tell 17 = .ok (.getfield 34, 3) := by decide +kernel
theorem dX11_tell_20 : decode cX11_tell 20 = .ok (.iload_n 1, 1) := by decide +kernel
theorem dX11_tell_21 : decode cX11_tell 21 = .ok (.iastore, 1) := by decide +kernel
theorem dX11_tell_22 : decode cX11_tell 22 = .ok (.aload_n 0, 1) := by decide +kernel
theorem dX11_tell_23 : decode cX11_tell 23 = .ok (.dup, 1) := by decide +kernel
theorem dX11_tell_24 : decode cX11_tell 24 = .ok (.getfield 34, 3) := by decide +kernel
theorem dX11_tell_27 : decode cX11_tell 27 = .ok (.iconst 1, 1) := by decide +kernel
theorem dX11_tell_28 : decode cX11_tell 28 = .ok (.iadd, 1) := by decide +kernel
theorem dX11_tell_29 : decode cX11_tell 29 = .ok (.putfield 34, 3) := by decide +kernel
theorem dX11_tell_32 : decode cX11_tell 32 = .ok (.aload_n 0, 1) := by decide +kernel
theorem dX11_tell_33 : decode cX11_tell 33 = .ok (.getfield 34, 3) := by decide +kernel
theorem dX11_tell_36 : decode cX11_tell 36 = .ok (.ireturn, 1) := by decide +kernel
theorem dX11_check_0 : decode cX11_check 0 = .ok (.aload_n 0, 1) := by decide +kernel
theorem dX11_check_1 : decode cX11_check 1 = .ok (.getfield 34, 3) := by decide +kernel
theorem dX11_check_4 : decode cX11_check 4 = .ok (.istore_n 2, 1) := by decide +kernel
theorem dX11_check_5 : decode cX11_check 5 = .ok (.aload_n 0, 1) := by decide +kernel
theorem dX11_check_6 : decode cX11_check 6 = .ok (.iconst 0, 1) := by decide +kernel
theorem dX11_check_7 : decode cX11_check 7 = .ok (.putfield 34, 3) := by decide +kernel
theorem dX11_check_10 : decode cX11_check 10 = .ok (.iload_n 1, 1) := by decide +kernel
theorem dX11_check_11 : decode cX11_check 11 = .ok (.iconst 1, 1) := by decide +kernel
theorem dX11_check_12 : decode cX11_check 12 = .ok (.bipush 30, 2) := by decide +kernel
theorem dX11_check_14 : decode cX11_check 14 = .ok (.invokestatic 55, 3) := by decide +kernel
theorem dX11_check_17 : decode cX11_check 17 = .ok (.ifCond .ne 6, 3) := by decide +kernel
theorem dX11_check_20 : decode cX11_check 20 = .ok (.ldc 59, 2) := by decide +kernel
theorem dX11_check_22 : decode cX11_check 22 = .ok (.ireturn, 1) := by decide +kernel
theorem dX11_check_23 : decode cX11_check 23 = .ok (.aload_n 0, 1) := by decide +kernel
theorem dX11_check_24 : decode cX11_check 24 = .ok (.getfield 19, 3) := by decide +kernel
theorem dX11_check_27 : decode cX11_check 27 = .ok (.ifCond .ne 7, 3) := by decide +kernel
theorem dX11_check_30 : decode cX11_check 30 = .ok (.ldc_w 309, 3) := by decide +kernel
theorem dX11_check_33 : decode cX11_check 33 = .ok (.ireturn, 1) := by decide +kernel
theorem dX11_check_34 : decode cX11_check 34 = .ok (.aload_n 0, 1) := by decide +kernel
theorem dX11_check_35 : decode cX11_check 35 = .ok (.iload_n 1, 1) := by decide +kernel
theorem dX11_check_36 : decode cX11_check 36 = .ok (.iload_n 2, 1) := by decide +kernel
theorem dX11_check_37 : decode cX11_check 37 = .ok (.invokevirtual 310, 3) := by decide +kernel
theorem dX11_check_40 : decode cX11_check 40 = .ok (.istore_n 3, 1) := by decide +kernel
theorem dX11_check_41 : decode cX11_check 41 = .ok (.iload_n 3, 1) := by decide +kernel
theorem dX11_check_42 : decode cX11_check 42 = .ok (.iconst 2, 1) := by decide +kernel
theorem dX11_check_43 : decode cX11_check 43 = .ok (.iload_n 1, 1) := by decide +kernel
theorem dX11_check_44 : decode cX11_check 44 = .ok (.imul, 1) := by decide +kernel
theorem dX11_check_45 : decode cX11_check 45 = .ok (.if_icmp .ne 14, 3) := by decide +kernel
theorem dX11_check_48 : decode cX11_check 48 = .ok (.iload_n 2, 1) := by decide +kernel
theorem dX11_check_49 : decode cX11_check 49 = .ok (.iconst 2, 1) := by decide +kernel
theorem dX11_check_50 : decode cX11_check 50 = .ok (.iload_n 1, 1) := by decide +kernel
theorem dX11_check_51 : decode cX11_check 51 = .ok (.imul, 1) := by decide +kernel
theorem dX11_check_52 : decode cX11_check 52 = .ok (.if_icmp .ne 7, 3) := by decide +kernel
theorem dX11_check_55 : decode cX11_check 55 = .ok (.iconst 0, 1) := by decide +kernel
theorem dX11_check_56 : decode cX11_check 56 = .ok (.goto 6, 3) := by decide +kernel
theorem dX11_check_59 : decode cX11_check 59 = .ok (.iconst 1, 1) := by decide +kernel
theorem dX11_check_60 : decode cX11_check 60 = .ok (.iload_n 3, 1) := by decide +kernel
theorem dX11_check_61 : decode cX11_check 61 = .ok (.iadd, 1) := by decide +kernel
theorem dX11_check_62 : decode cX11_check 62 = .ok (.ireturn, 1) := by decide +kernel
theorem dX11_keep_0 : decode cX11_keep 0 = .ok (.aload_n 0, 1) := by decide +kernel
theorem dX11_keep_1 : decode cX11_keep 1 = .ok (.getfield 16, 3) := by decide +kernel
theorem dX11_keep_4 : decode cX11_keep 4 = .ok (.aload_n 0, 1) := by decide +kernel
theorem dX11_keep_5 : decode cX11_keep 5 = .ok (.getfield 10, 3) := by decide +kernel
theorem dX11_keep_8 : decode cX11_keep 8 = .ok (.invokevirtual 313, 3) := by decide +kernel
theorem dX11_keep_11 : decode cX11_keep 11 = .ok (.aload_n 0, 1) := by decide +kernel
theorem dX11_keep_12 : decode cX11_keep 12 = .ok (.iconst 1, 1) := by decide +kernel
theorem dX11_keep_13 : decode cX11_keep 13 = .ok (.putfield 19, 3) := by decide +kernel
theorem dX11_keep_16 : decode cX11_keep 16 = .ok (.aload_n 0, 1) := by decide +kernel
theorem dX11_keep_17 : decode cX11_keep 17 = .ok (.getfield 10, 3) := by decide +kernel
theorem dX11_keep_20 : decode cX11_keep 20 = .ok (.getfield 190, 3) := by decide +kernel
theorem dX11_keep_23 : decode cX11_keep 23 = .ok (.ireturn, 1) := by decide +kernel
theorem dX11_back_0 : decode cX11_back 0 = .ok (.aload_n 0, 1) := by decide +kernel
theorem dX11_back_1 : decode cX11_back 1 = .ok (.getfield 19, 3) := by decide +kernel
theorem dX11_back_4 : decode cX11_back 4 = .ok (.ifCond .ne 7, 3) := by decide +kernel
theorem dX11_back_7 : decode cX11_back 7 = .ok (.ldc_w 309, 3) := by decide +kernel
theorem dX11_back_10 : decode cX11_back 10 = .ok (.ireturn, 1) := by decide +kernel
theorem dX11_back_11 : decode cX11_back 11 = .ok (.aload_n 0, 1) := by decide +kernel
theorem dX11_back_12 : decode cX11_back 12 = .ok (.getfield 10, 3) := by decide +kernel
theorem dX11_back_15 : decode cX11_back 15 = .ok (.aload_n 0, 1) := by decide +kernel
theorem dX11_back_16 : decode cX11_back 16 = .ok (.getfield 16, 3) := by decide +kernel
theorem dX11_back_19 : decode cX11_back 19 = .ok (.invokevirtual 313, 3) := by decide +kernel
theorem dX11_back_22 : decode cX11_back 22 = .ok (.aload_n 0, 1) := by decide +kernel
theorem dX11_back_23 : decode cX11_back 23 = .ok (.getfield 10, 3) := by decide +kernel
theorem dX11_back_26 : decode cX11_back 26 = .ok (.getfield 190, 3) := by decide +kernel
theorem dX11_back_29 : decode cX11_back 29 = .ok (.ireturn, 1) := by decide +kernel
theorem dX11_count_0 : decode cX11_count 0 = .ok (.iload_n 1, 1) := by decide +kernel
theorem dX11_count_1 : decode cX11_count 1 = .ok (.tableswitch 132 0 9 #[55, 63, 71, 79, 87, 95, 103, 111, 116, 124], 55) := by decide +kernel
theorem dX11_count_56 : decode cX11_count 56 = .ok (.aload_n 0, 1) := by decide +kernel
theorem dX11_count_57 : decode cX11_count 57 = .ok (.getfield 10, 3) := by decide +kernel
theorem dX11_count_60 : decode cX11_count 60 = .ok (.getfield 95, 3) := by decide +kernel
theorem dX11_count_63 : decode cX11_count 63 = .ok (.ireturn, 1) := by decide +kernel
theorem dX11_count_64 : decode cX11_count 64 = .ok (.aload_n 0, 1) := by decide +kernel
theorem dX11_count_65 : decode cX11_count 65 = .ok (.getfield 10, 3) := by decide +kernel
theorem dX11_count_68 : decode cX11_count 68 = .ok (.getfield 190, 3) := by decide +kernel
theorem dX11_count_71 : decode cX11_count 71 = .ok (.ireturn, 1) := by decide +kernel
theorem dX11_count_72 : decode cX11_count 72 = .ok (.aload_n 0, 1) := by decide +kernel
theorem dX11_count_73 : decode cX11_count 73 = .ok (.getfield 10, 3) := by decide +kernel
theorem dX11_count_76 : decode cX11_count 76 = .ok (.getfield 126, 3) := by decide +kernel
theorem dX11_count_79 : decode cX11_count 79 = .ok (.ireturn, 1) := by decide +kernel
theorem dX11_count_80 : decode cX11_count 80 = .ok (.aload_n 0, 1) := by decide +kernel
theorem dX11_count_81 : decode cX11_count 81 = .ok (.getfield 10, 3) := by decide +kernel
theorem dX11_count_84 : decode cX11_count 84 = .ok (.getfield 181, 3) := by decide +kernel
theorem dX11_count_87 : decode cX11_count 87 = .ok (.ireturn, 1) := by decide +kernel
theorem dX11_count_88 : decode cX11_count 88 = .ok (.aload_n 0, 1) := by decide +kernel
theorem dX11_count_89 : decode cX11_count 89 = .ok (.getfield 10, 3) := by decide +kernel
theorem dX11_count_92 : decode cX11_count 92 = .ok (.getfield 316, 3) := by decide +kernel
theorem dX11_count_95 : decode cX11_count 95 = .ok (.ireturn, 1) := by decide +kernel
theorem dX11_count_96 : decode cX11_count 96 = .ok (.aload_n 0, 1) := by decide +kernel
theorem dX11_count_97 : decode cX11_count 97 = .ok (.getfield 10, 3) := by decide +kernel
theorem dX11_count_100 : decode cX11_count 100 = .ok (.getfield 92, 3) := by decide +kernel
theorem dX11_count_103 : decode cX11_count 103 = .ok (.ireturn, 1) := by decide +kernel
theorem dX11_count_104 : decode cX11_count 104 = .ok (.aload_n 0, 1) := by decide +kernel
theorem dX11_count_105 : decode cX11_count 105 = .ok (.getfield 10, 3) := by decide +kernel
theorem dX11_count_108 : decode cX11_count 108 = .ok (.getfield 227, 3) := by decide +kernel
theorem dX11_count_111 : decode cX11_count 111 = .ok (.ireturn, 1) := by decide +kernel
theorem dX11_count_112 : decode cX11_count 112 = .ok (.aload_n 0, 1) := by decide +kernel
theorem dX11_count_113 : decode cX11_count 113 = .ok (.getfield 34, 3) := by decide +kernel
theorem dX11_count_116 : decode cX11_count 116 = .ok (.ireturn, 1) := by decide +kernel
theorem dX11_count_117 : decode cX11_count 117 = .ok (.aload_n 0, 1) := by decide +kernel
theorem dX11_count_118 : decode cX11_count 118 = .ok (.getfield 26, 3) := by decide +kernel
theorem dX11_count_121 : decode cX11_count 121 = .ok (.getfield 217, 3) := by decide +kernel
theorem dX11_count_124 : decode cX11_count 124 = .ok (.ireturn, 1) := by decide +kernel
theorem dX11_count_125 : decode cX11_count 125 = .ok (.aload_n 0, 1) := by decide +kernel
theorem dX11_count_126 : decode cX11_count 126 = .ok (.getfield 10, 3) := by decide +kernel
theorem dX11_count_129 : decode cX11_count 129 = .ok (.getfield 184, 3) := by decide +kernel
theorem dX11_count_132 : decode cX11_count 132 = .ok (.ireturn, 1) := by decide +kernel
theorem dX11_count_133 : decode cX11_count 133 = .ok (.ldc 59, 2) := by decide +kernel
theorem dX11_count_135 : decode cX11_count 135 = .ok (.ireturn, 1) := by decide +kernel
theorem dX11_within_0 : decode cX11_within 0 = .ok (.iload_n 0, 1) := by decide +kernel
theorem dX11_within_1 : decode cX11_within 1 = .ok (.iload_n 1, 1) := by decide +kernel
theorem dX11_within_2 : decode cX11_within 2 = .ok (.if_icmp .lt 12, 3) := by decide +kernel
theorem dX11_within_5 : decode cX11_within 5 = .ok (.iload_n 0, 1) := by decide +kernel
theorem dX11_within_6 : decode cX11_within 6 = .ok (.iload_n 2, 1) := by decide +kernel
theorem dX11_within_7 : decode cX11_within 7 = .ok (.if_icmp .gt 7, 3) := by decide +kernel
theorem dX11_within_10 : decode cX11_within 10 = .ok (.iconst 1, 1) := by decide +kernel
theorem dX11_within_11 : decode cX11_within 11 = .ok (.goto 4, 3) := by decide +kernel
theorem dX11_within_14 : decode cX11_within 14 = .ok (.iconst 0, 1) := by decide +kernel
theorem dX11_within_15 : decode cX11_within 15 = .ok (.ireturn, 1) := by decide +kernel
theorem dX11_held_0 : decode cX11_held 0 = .ok (.iload_n 1, 1) := by decide +kernel
theorem dX11_held_1 : decode cX11_held 1 = .ok (.iload_n 2, 1) := by decide +kernel
theorem dX11_held_2 : decode cX11_held 2 = .ok (.iload_n 0, 1) := by decide +kernel
theorem dX11_held_3 : decode cX11_held 3 = .ok (.invokestatic 319, 3) := by decide +kernel
theorem dX11_held_6 : decode cX11_held 6 = .ok (.invokestatic 324, 3) := by decide +kernel
theorem dX11_held_9 : decode cX11_held 9 = .ok (.ireturn, 1) := by decide +kernel
theorem dX11_isKind_0 : decode cX11_isKind 0 = .ok (.iload_n 0, 1) := by decide +kernel
theorem dX11_isKind_1 : decode cX11_isKind 1 = .ok (.iconst 0, 1) := by decide +kernel
theorem dX11_isKind_2 : decode cX11_isKind 2 = .ok (.iconst 5, 1) := by decide +kernel
theorem dX11_isKind_3 : decode cX11_isKind 3 = .ok (.invokestatic 55, 3) := by decide +kernel
theorem dX11_isKind_6 : decode cX11_isKind 6 = .ok (.ireturn, 1) := by decide +kernel
theorem dX11_sheetAt_0 : decode cX11_sheetAt 0 = .ok (.iload_n 1, 1) := by decide +kernel
theorem dX11_sheetAt_1 : decode cX11_sheetAt 1 = .ok (.iconst 0, 1) := by decide +kernel
theorem dX11_sheetAt_2 : decode cX11_sheetAt 2 = .ok (.iconst 3, 1) := by decide +kernel
theorem dX11_sheetAt_3 : decode cX11_sheetAt 3 = .ok (.invokestatic 55, 3) := by decide +kernel
theorem dX11_sheetAt_6 : decode cX11_sheetAt 6 = .ok (.ifCond .eq 12, 3) := by decide +kernel
theorem dX11_sheetAt_9 : decode cX11_sheetAt 9 = .ok (.aload_n 0, 1) := by decide +kernel
theorem dX11_sheetAt_10 : decode cX11_sheetAt 10 = .ok (.getfield 40, 3) := by decide +kernel
theorem dX11_sheetAt_13 : decode cX11_sheetAt 13 = .ok (.iload_n 1, 1) := by decide +kernel
theorem dX11_sheetAt_14 : decode cX11_sheetAt 14 = .ok (.aaload, 1) := by decide +kernel
theorem dX11_sheetAt_15 : decode cX11_sheetAt 15 = .ok (.goto 4, 3) := by decide +kernel
theorem dX11_sheetAt_18 : decode cX11_sheetAt 18 = .ok (.aconst_null, 1) := by decide +kernel
theorem dX11_sheetAt_19 : decode cX11_sheetAt 19 = .ok (.areturn, 1) := by decide +kernel
theorem dX11_slotAt_0 : decode cX11_slotAt 0 = .ok (.iload_n 1, 1) := by decide +kernel
theorem dX11_slotAt_1 : decode cX11_slotAt 1 = .ok (.iconst 0, 1) := by decide +kernel
theorem dX11_slotAt_2 : decode cX11_slotAt 2 = .ok (.iconst 4, 1) := by decide +kernel
theorem dX11_slotAt_3 : decode cX11_slotAt 3 = .ok (.invokestatic 55, 3) := by decide +kernel
theorem dX11_slotAt_6 : decode cX11_slotAt 6 = .ok (.ifCond .eq 12, 3) := by decide +kernel
theorem dX11_slotAt_9 : decode cX11_slotAt 9 = .ok (.aload_n 0, 1) := by decide +kernel
theorem dX11_slotAt_10 : decode cX11_slotAt 10 = .ok (.getfield 46, 3) := by decide +kernel
theorem dX11_slotAt_13 : decode cX11_slotAt 13 = .ok (.iload_n 1, 1) := by decide +kernel
theorem dX11_slotAt_14 : decode cX11_slotAt 14 = .ok (.aaload, 1) := by decide +kernel
theorem dX11_slotAt_15 : decode cX11_slotAt 15 = .ok (.goto 4, 3) := by decide +kernel
theorem dX11_slotAt_18 : decode cX11_slotAt 18 = .ok (.aconst_null, 1) := by decide +kernel
theorem dX11_slotAt_19 : decode cX11_slotAt 19 = .ok (.areturn, 1) := by decide +kernel
theorem dX11_hearsAllRung_0 : decode cX11_hearsAllRung 0 = .ok (.iconst 0, 1) := by decide +kernel
theorem dX11_hearsAllRung_1 : decode cX11_hearsAllRung 1 = .ok (.istore_n 2, 1) := by decide +kernel
theorem dX11_hearsAllRung_2 : decode cX11_hearsAllRung 2 = .ok (.iload_n 2, 1) := by decide +kernel
theorem dX11_hearsAllRung_3 : decode cX11_hearsAllRung 3 = .ok (.aload_n 0, 1) := by decide +kernel
theorem dX11_hearsAllRung_4 : decode cX11_hearsAllRung 4 = .ok (.getfield 10, 3) := by decide +kernel
theorem dX11_hearsAllRung_7 : decode cX11_hearsAllRung 7 = .ok (.getfield 190, 3) := by decide +kernel
theorem dX11_hearsAllRung_10 : decode cX11_hearsAllRung 10 = .ok (.if_icmp .ge 31, 3) := by decide +kernel
theorem dX11_hearsAllRung_13 : decode cX11_hearsAllRung 13 = .ok (.aload_n 0, 1) := by decide +kernel
theorem dX11_hearsAllRung_14 : decode cX11_hearsAllRung 14 = .ok (.getfield 50, 3) := by decide +kernel
theorem dX11_hearsAllRung_17 : decode cX11_hearsAllRung 17 = .ok (.iload_n 2, 1) := by decide +kernel
theorem dX11_hearsAllRung_18 : decode cX11_hearsAllRung 18 = .ok (.iaload, 1) := by decide +kernel
theorem dX11_hearsAllRung_19 : decode cX11_hearsAllRung 19 = .ok (.ifCond .eq 16, 3) := by decide +kernel
theorem dX11_hearsAllRung_22 : decode cX11_hearsAllRung 22 = .ok (.aload_n 0, 1) := by decide +kernel
theorem dX11_hearsAllRung_23 : decode cX11_hearsAllRung 23 = .ok (.getfield 50, 3) := by decide +kernel
theorem dX11_hearsAllRung_26 : decode cX11_hearsAllRung 26 = .ok (.iload_n 2, 1) := by decide +kernel
theorem dX11_hearsAllRung_27 : decode cX11_hearsAllRung 27 = .ok (.iaload, 1) := by decide +kernel
theorem dX11_hearsAllRung_28 : decode cX11_hearsAllRung 28 = .ok (.iload_n 1, 1) := by decide +kernel
theorem dX11_hearsAllRung_29 : decode cX11_hearsAllRung 29 = .ok (.iand, 1) := by decide +kernel
theorem dX11_hearsAllRung_30 : decode cX11_hearsAllRung 30 = .ok (.ifCond .ne 5, 3) := by decide +kernel
theorem dX11_hearsAllRung_33 : decode cX11_hearsAllRung 33 = .ok (.iconst 0, 1) := by decide +kernel
theorem dX11_hearsAllRung_34 : decode cX11_hearsAllRung 34 = .ok (.ireturn, 1) := by decide +kernel
theorem dX11_hearsAllRung_35 : decode cX11_hearsAllRung 35 = .ok (.iinc 2 1, 3) := by decide +kernel
theorem dX11_hearsAllRung_38 : decode cX11_hearsAllRung 38 = .ok (.goto (-36), 3) := by decide +kernel
theorem dX11_hearsAllRung_41 : decode cX11_hearsAllRung 41 = .ok (.iconst 1, 1) := by decide +kernel
theorem dX11_hearsAllRung_42 : decode cX11_hearsAllRung 42 = .ok (.ireturn, 1) := by decide +kernel
theorem dX11_howManyRight_0 : decode cX11_howManyRight 0 = .ok (.aload_n 0, 1) := by decide +kernel
theorem dX11_howManyRight_1 : decode cX11_howManyRight 1 = .ok (.getfield 16, 3) := by decide +kernel
theorem dX11_howManyRight_4 : decode cX11_howManyRight 4 = .ok (.getfield 184, 3) := by decide +kernel
theorem dX11_howManyRight_7 : decode cX11_howManyRight 7 = .ok (.istore_n 3, 1) := by decide +kernel
theorem dX11_howManyRight_8 : decode cX11_howManyRight 8 = .ok (.aload_n 0, 1) := by decide +kernel
theorem dX11_howManyRight_9 : decode cX11_howManyRight 9 = .ok (.getfield 16, 3) := by decide +kernel
theorem dX11_howManyRight_12 : decode cX11_howManyRight 12 = .ok (.getfield 181, 3) := by decide +kernel
theorem dX11_howManyRight_15 : decode cX11_howManyRight 15 = .ok (.istore 4, 2) := by decide +kernel
theorem dX11_howManyRight_17 : decode cX11_howManyRight 17 = .ok (.aload_n 0, 1) := by decide +kernel
theorem dX11_howManyRight_18 : decode cX11_howManyRight 18 = .ok (.getfield 16, 3) := by decide +kernel
theorem dX11_howManyRight_21 : decode cX11_howManyRight 21 = .ok (.getfield 316, 3) := by decide +kernel
theorem dX11_howManyRight_24 : decode cX11_howManyRight 24 = .ok (.istore 5, 2) := by decide +kernel
theorem dX11_howManyRight_26 : decode cX11_howManyRight 26 = .ok (.iconst 0, 1) := by decide +kernel
theorem dX11_howManyRight_27 : decode cX11_howManyRight 27 = .ok (.istore 6, 2) := by decide +kernel
theorem dX11_howManyRight_29 : decode cX11_howManyRight 29 = .ok (.aload_n 0, 1) := by decide +kernel
theorem dX11_howManyRight_30 : decode cX11_howManyRight 30 = .ok (.getfield 16, 3) := by decide +kernel
theorem dX11_howManyRight_33 : decode cX11_howManyRight 33 = .ok (.invokevirtual 171, 3) := by decide +kernel
theorem dX11_howManyRight_36 : decode cX11_howManyRight 36 = .ok (.iconst 0, 1) := by decide +kernel
theorem dX11_howManyRight_37 : decode cX11_howManyRight 37 = .ok (.istore 7, 2) := by decide +kernel
theorem dX11_howManyRight_39 : decode cX11_howManyRight 39 = .ok (.iload 7, 2) := by decide +kernel
theorem dX11_howManyRight_41 : decode cX11_howManyRight 41 = .ok (.iload_n 1, 1) := by decide +kernel
theorem dX11_howManyRight_42 : decode cX11_howManyRight 42 = .ok (.if_icmp .ge 88, 3) := by decide +kernel
theorem dX11_howManyRight_45 : decode cX11_howManyRight 45 = .ok (.iload 6, 2) := by decide +kernel
theorem dX11_howManyRight_47 : decode cX11_howManyRight 47 = .ok (.iconst 2, 1) := by decide +kernel
theorem dX11_howManyRight_48 : decode cX11_howManyRight 48 = .ok (.iload 7, 2) := by decide +kernel
theorem dX11_howManyRight_50 : decode cX11_howManyRight 50 = .ok (.imul, 1) := by decide +kernel
theorem dX11_howManyRight_51 : decode cX11_howManyRight 51 = .ok (.if_icmp .ne 79, 3) := by decide +kernel
theorem dX11_howManyRight_54 : decode cX11_howManyRight 54 = .ok (.aload_n 0, 1) := by decide +kernel
theorem dX11_howManyRight_55 : decode cX11_howManyRight 55 = .ok (.getfield 16, 3) := by decide +kernel
theorem dX11_howManyRight_58 : decode cX11_howManyRight 58 = .ok (.invokevirtual 178, 3) := by decide +kernel
theorem dX11_howManyRight_61 : decode cX11_howManyRight 61 = .ok (.iload 6, 2) := by decide +kernel
theorem dX11_howManyRight_63 : decode cX11_howManyRight 63 = .ok (.aload_n 0, 1) := by decide +kernel
theorem dX11_howManyRight_64 : decode cX11_howManyRight 64 = .ok (.iload 6, 2) := by decide +kernel
theorem dX11_howManyRight_66 : decode cX11_howManyRight 66 = .ok (.iload_n 2, 1) := by decide +kernel
theorem dX11_howManyRight_67 : decode cX11_howManyRight 67 = .ok (.aload_n 0, 1) := by decide +kernel
theorem dX11_howManyRight_68 : decode cX11_howManyRight 68 = .ok (.getfield 16, 3) := by decide +kernel
theorem dX11_howManyRight_71 : decode cX11_howManyRight 71 = .ok (.getfield 181, 3) := by decide +kernel
theorem dX11_howManyRight_74 : decode cX11_howManyRight 74 = .ok (.invokevirtual 327, 3) := by decide +kernel
theorem dX11_howManyRight_77 : decode cX11_howManyRight 77 = .ok (.ifCond .eq 7, 3) := by decide +kernel
theorem dX11_howManyRight_80 : decode cX11_howManyRight 80 = .ok (.iconst 1, 1) := by decide +kernel
theorem dX11_howManyRight_81 : decode cX11_howManyRight 81 = .ok (.goto 4, 3) := by decide +kernel
theorem dX11_howManyRight_84 : decode cX11_howManyRight 84 = .ok (.iconst 0, 1) := by decide +kernel
theorem dX11_howManyRight_85 : decode cX11_howManyRight 85 = .ok (.iadd, 1) := by decide +kernel
theorem dX11_howManyRight_86 : decode cX11_howManyRight 86 = .ok (.istore 6, 2) := by decide +kernel
theorem dX11_howManyRight_88 : decode cX11_howManyRight 88 = .ok (.iload 6, 2) := by decide +kernel
theorem dX11_howManyRight_90 : decode cX11_howManyRight 90 = .ok (.iload 6, 2) := by decide +kernel
theorem dX11_howManyRight_92 : decode cX11_howManyRight 92 = .ok (.iconst 2, 1) := by decide +kernel
theorem dX11_howManyRight_93 : decode cX11_howManyRight 93 = .ok (.iload 7, 2) := by decide +kernel
theorem dX11_howManyRight_95 : decode cX11_howManyRight 95 = .ok (.imul, 1) := by decide +kernel
theorem dX11_howManyRight_96 : decode cX11_howManyRight 96 = .ok (.if_icmp .le 24, 3) := by decide +kernel
theorem dX11_howManyRight_99 : decode cX11_howManyRight 99 = .ok (.aload_n 0, 1) := by decide +kernel
theorem dX11_howManyRight_100 : decode cX11_howManyRight 100 = .ok (.iload 6, 2) := by decide +kernel
theorem dX11_howManyRight_102 : decode cX11_howManyRight 102 = .ok (.iload_n 2, 1) := by decide +kernel
theorem dX11_howManyRight_103 : decode cX11_howManyRight 103 = .ok (.aload_n 0, 1) := by decide +kernel
theorem dX11_howManyRight_104 : decode cX11_howManyRight 104 = .ok (.getfield 16, 3) := by decide +kernel
theorem dX11_howManyRight_107 : decode cX11_howManyRight 107 = .ok (.getfield 316, 3) := by decide +kernel
theorem dX11_howManyRight_110 : decode cX11_howManyRight 110 = .ok (.invokevirtual 327, 3) := by decide +kernel
theorem dX11_howManyRight_113 : decode cX11_howManyRight 113 = .ok (.ifCond .eq 7, 3) := by decide +kernel
theorem dX11_howManyRight_116 : decode cX11_howManyRight 116 = .ok (.iconst 1, 1) := by decide +kernel
theorem dX11_howManyRight_117 : decode cX11_howManyRight 117 = .ok (.goto 4, 3) := by decide +kernel
theorem dX11_howManyRight_120 : decode cX11_howManyRight 120 = .ok (.iconst 0, 1) := by decide +kernel
theorem dX11_howManyRight_121 : decode cX11_howManyRight 121 = .ok (.iadd, 1) := by decide +kernel
theorem dX11_howManyRight_122 : decode cX11_howManyRight 122 = .ok (.istore 6, 2) := by decide +kernel
theorem dX11_howManyRight_124 : decode cX11_howManyRight 124 = .ok (.iinc 7 1, 3) := by decide +kernel
theorem dX11_howManyRight_127 : decode cX11_howManyRight 127 = .ok (.goto (-88), 3) := by decide +kernel
theorem dX11_howManyRight_130 : decode cX11_howManyRight 130 = .ok (.aload_n 0, 1) := by decide +kernel
theorem dX11_howManyRight_131 : decode cX11_howManyRight 131 = .ok (.getfield 16, 3) := by decide +kernel
theorem dX11_howManyRight_134 : decode cX11_howManyRight 134 = .ok (.iload_n 3, 1) := by decide +kernel
theorem dX11_howManyRight_135 : decode cX11_howManyRight 135 = .ok (.putfield 184, 3) := by decide +kernel
theorem dX11_howManyRight_138 : decode cX11_howManyRight 138 = .ok (.aload_n 0, 1) := by decide +kernel
theorem dX11_howManyRight_139 : decode cX11_howManyRight 139 = .ok (.getfield 16, 3) := by decide +kernel
theorem dX11_howManyRight_142 : decode cX11_howManyRight 142 = .ok (.iload 4, 2) := by decide +kernel
theorem dX11_howManyRight_144 : decode cX11_howManyRight 144 = .ok (.putfield 181, 3) := by decide +kernel
theorem dX11_howManyRight_147 : decode cX11_howManyRight 147 = .ok (.aload_n 0, 1) := by decide +kernel
theorem dX11_howManyRight_148 : decode cX11_howManyRight 148 = .ok (.getfield 16, 3) := by decide +kernel
theorem dX11_howManyRight_151 : decode cX11_howManyRight 151 = .ok (.iload 5, 2) := by decide +kernel
theorem dX11_howManyRight_153 : decode cX11_howManyRight 153 = .ok (.putfield 316, 3) := by decide +kernel
theorem dX11_howManyRight_156 : decode cX11_howManyRight 156 = .ok (.iload 6, 2) := by decide +kernel
theorem dX11_howManyRight_158 : decode cX11_howManyRight 158 = .ok (.ireturn, 1) := by decide +kernel
theorem dX11_waitsAt_0 : decode cX11_waitsAt 0 = .ok (.iload_n 1, 1) := by decide +kernel
theorem dX11_waitsAt_1 : decode cX11_waitsAt 1 = .ok (.iload_n 2, 1) := by decide +kernel
theorem dX11_waitsAt_2 : decode cX11_waitsAt 2 = .ok (.if_icmp .ge 23, 3) := by decide +kernel
theorem dX11_waitsAt_5 : decode cX11_waitsAt 5 = .ok (.iload_n 1, 1) := by decide +kernel
theorem dX11_waitsAt_6 : decode cX11_waitsAt 6 = .ok (.bipush 60, 2) := by decide +kernel
theorem dX11_waitsAt_8 : decode cX11_waitsAt 8 = .ok (.if_icmp .ge 17, 3) := by decide +kernel
theorem dX11_waitsAt_11 : decode cX11_waitsAt 11 = .ok (.aload_n 0, 1) := by decide +kernel
theorem dX11_waitsAt_12 : decode cX11_waitsAt 12 = .ok (.getfield 30, 3) := by decide +kernel
theorem dX11_waitsAt_15 : decode cX11_waitsAt 15 = .ok (.iload_n 1, 1) := by decide +kernel
theorem dX11_waitsAt_16 : decode cX11_waitsAt 16 = .ok (.iaload, 1) := by decide +kernel
theorem dX11_waitsAt_17 : decode cX11_waitsAt 17 = .ok (.iload_n 3, 1) := by decide +kernel
theorem dX11_waitsAt_18 : decode cX11_waitsAt 18 = .ok (.if_icmp .ne 7, 3) := by decide +kernel
theorem dX11_waitsAt_21 : decode cX11_waitsAt 21 = .ok (.iconst 1, 1) := by decide +kernel
theorem dX11_waitsAt_22 : decode cX11_waitsAt 22 = .ok (.goto 4, 3) := by decide +kernel
theorem dX11_waitsAt_25 : decode cX11_waitsAt 25 = .ok (.iconst 0, 1) := by decide +kernel
theorem dX11_waitsAt_26 : decode cX11_waitsAt 26 = .ok (.ireturn, 1) := by decide +kernel
theorem dX12_init_0 : decode cX12_init 0 = .ok (.aload_n 0, 1) := by decide +kernel
theorem dX12_init_1 : decode cX12_init 1 = .ok (.invokespecial 1, 3) := by decide +kernel
theorem dX12_init_4 : decode cX12_init 4 = .ok (.aload_n 0, 1) := by decide +kernel
theorem dX12_init_5 : decode cX12_init 5 = .ok (.sipush 1482, 3) := by decide +kernel
theorem dX12_init_8 : decode cX12_init 8 = .ok (.newarray .int, 2) := by decide +kernel
theorem dX12_init_10 : decode cX12_init 10 = .ok (.putfield 9, 3) := by decide +kernel
theorem dX12_init_13 : decode cX12_init 13 = .ok (.aload_n 0, 1) := by decide +kernel
theorem dX12_init_14 : decode cX12_init 14 = .ok (.sipush 1482, 3) := by decide +kernel
theorem dX12_init_17 : decode cX12_init 17 = .ok (.newarray .int, 2) := by decide +kernel
theorem dX12_init_19 : decode cX12_init 19 = .ok (.putfield 13, 3) := by decide +kernel
theorem dX12_init_22 : decode cX12_init 22 = .ok (.aload_n 0, 1) := by decide +kernel
theorem dX12_init_23 : decode cX12_init 23 = .ok (.sipush 1482, 3) := by decide +kernel
theorem dX12_init_26 : decode cX12_init 26 = .ok (.newarray .int, 2) := by decide +kernel
theorem dX12_init_28 : decode cX12_init 28 = .ok (.putfield 16, 3) := by decide +kernel
theorem dX12_init_31 : decode cX12_init 31 = .ok (.aload_n 0, 1) := by decide +kernel
theorem dX12_init_32 : decode cX12_init 32 = .ok (.bipush 96, 2) := by decide +kernel
theorem dX12_init_34 : decode cX12_init 34 = .ok (.newarray .int, 2) := by decide +kernel
theorem dX12_init_36 : decode cX12_init 36 = .ok (.putfield 19, 3) := by decide +kernel
theorem dX12_init_39 : decode cX12_init 39 = .ok (.aload_n 0, 1) := by decide +kernel
theorem dX12_init_40 : decode cX12_init 40 = .ok (.bipush 11, 2) := by decide +kernel
theorem dX12_init_42 : decode cX12_init 42 = .ok (.newarray .char, 2) := by decide +kernel
theorem dX12_init_44 : decode cX12_init 44 = .ok (.dup, 1) := by decide +kernel
theorem dX12_init_45 : decode cX12_init 45 = .ok (.iconst 0, 1) := by decide +kernel
theorem dX12_init_46 : decode cX12_init 46 = .ok (.bipush 99, 2) := by decide +kernel
theorem dX12_init_48 : decode cX12_init 48 = .ok (.castore, 1) := by decide +kernel
theorem dX12_init_49 : decode cX12_init 49 = .ok (.dup, 1) := by decide +kernel
theorem dX12_init_50 : decode cX12_init 50 = .ok (.iconst 1, 1) := by decide +kernel
theorem dX12_init_51 : decode cX12_init 51 = .ok (.bipush 111, 2) := by decide +kernel
theorem dX12_init_53 : decode cX12_init 53 = .ok (.castore, 1) := by decide +kernel
theorem dX12_init_54 : decode cX12_init 54 = .ok (.dup, 1) := by decide +kernel
theorem dX12_init_55 : decode cX12_init 55 = .ok (.iconst 2, 1) := by decide +kernel
theorem dX12_init_56 : decode cX12_init 56 = .ok (.bipush 109, 2) := by decide +kernel
theorem dX12_init_58 : decode cX12_init 58 = .ok (.castore, 1) := by decide +kernel
theorem dX12_init_59 : decode cX12_init 59 = .ok (.dup, 1) := by decide +kernel
theorem dX12_init_60 : decode cX12_init 60 = .ok (.iconst 3, 1) := by decide +kernel
theorem dX12_init_61 : decode cX12_init 61 = .ok (.bipush 101, 2) := by decide +kernel
theorem dX12_init_63 : decode cX12_init 63 = .ok (.castore, 1) := by decide +kernel
theorem dX12_init_64 : decode cX12_init 64 = .ok (.dup, 1) := by decide +kernel
theorem dX12_init_65 : decode cX12_init 65 = .ok (.iconst 4, 1) := by decide +kernel
theorem dX12_init_66 : decode cX12_init 66 = .ok (.bipush 103, 2) := by decide +kernel
theorem dX12_init_68 : decode cX12_init 68 = .ok (.castore, 1) := by decide +kernel
theorem dX12_init_69 : decode cX12_init 69 = .ok (.dup, 1) := by decide +kernel
theorem dX12_init_70 : decode cX12_init 70 = .ok (.iconst 5, 1) := by decide +kernel
theorem dX12_init_71 : decode cX12_init 71 = .ok (.bipush 97, 2) := by decide +kernel
theorem dX12_init_73 : decode cX12_init 73 = .ok (.castore, 1) := by decide +kernel
theorem dX12_init_74 : decode cX12_init 74 = .ok (.dup, 1) := by decide +kernel
theorem dX12_init_75 : decode cX12_init 75 = .ok (.bipush 6, 2) := by decide +kernel
theorem dX12_init_77 : decode cX12_init 77 = .ok (.bipush 105, 2) := by decide +kernel
theorem dX12_init_79 : decode cX12_init 79 = .ok (.castore, 1) := by decide +kernel
theorem dX12_init_80 : decode cX12_init 80 = .ok (.dup, 1) := by decide +kernel
theorem dX12_init_81 : decode cX12_init 81 = .ok (.bipush 7, 2) := by decide +kernel
theorem dX12_init_83 : decode cX12_init 83 = .ok (.bipush 110, 2) := by decide +kernel
theorem dX12_init_85 : decode cX12_init 85 = .ok (.castore, 1) := by decide +kernel
theorem dX12_init_86 : decode cX12_init 86 = .ok (.dup, 1) := by decide +kernel
theorem dX12_init_87 : decode cX12_init 87 = .ok (.bipush 8, 2) := by decide +kernel
theorem dX12_init_89 : decode cX12_init 89 = .ok (.bipush 109, 2) := by decide +kernel
theorem dX12_init_91 : decode cX12_init 91 = .ok (.castore, 1) := by decide +kernel
theorem dX12_init_92 : decode cX12_init 92 = .ok (.dup, 1) := by decide +kernel
theorem dX12_init_93 : decode cX12_init 93 = .ok (.bipush 9, 2) := by decide +kernel
theorem dX12_init_95 : decode cX12_init 95 = .ok (.bipush 97, 2) := by decide +kernel
theorem dX12_init_97 : decode cX12_init 97 = .ok (.castore, 1) := by decide +kernel
theorem dX12_init_98 : decode cX12_init 98 = .ok (.dup, 1) := by decide +kernel
theorem dX12_init_99 : decode cX12_init 99 = .ok (.bipush 10, 2) := by decide +kernel
theorem dX12_init_101 : decode cX12_init 101 = .ok (.bipush 121, 2) := by decide +kernel
theorem dX12_init_103 : decode cX12_init 103 = .ok (.castore, 1) := by decide +kernel
theorem dX12_init_104 : decode cX12_init 104 = .ok (.putfield 22, 3) := by decide +kernel
theorem dX12_init_107 : decode cX12_init 107 = .ok (.aload_n 0, 1) := by decide +kernel
theorem dX12_init_108 : decode cX12_init 108 = .ok (.iconst 4, 1) := by decide +kernel
theorem dX12_init_109 : decode cX12_init 109 = .ok (.newarray .int, 2) := by decide +kernel
theorem dX12_init_111 : decode cX12_init 111 = .ok (.dup, 1) := by decide +kernel
theorem dX12_init_112 : decode cX12_init 112 = .ok (.iconst 0, 1) := by decide +kernel
theorem dX12_init_113 : decode cX12_init 113 = .ok (.iconst 0, 1) := by decide +kernel
theorem dX12_init_114 : decode cX12_init 114 = .ok (.iastore, 1) := by decide +kernel
theorem dX12_init_115 : decode cX12_init 115 = .ok (.dup, 1) := by decide +kernel
theorem dX12_init_116 : decode cX12_init 116 = .ok (.iconst 1, 1) := by decide +kernel
theorem dX12_init_117 : decode cX12_init 117 = .ok (.iconst 4, 1) := by decide +kernel
theorem dX12_init_118 : decode cX12_init 118 = .ok (.iastore, 1) := by decide +kernel
theorem dX12_init_119 : decode cX12_init 119 = .ok (.dup, 1) := by decide +kernel
theorem dX12_init_120 : decode cX12_init 120 = .ok (.iconst 2, 1) := by decide +kernel
theorem dX12_init_121 : decode cX12_init 121 = .ok (.bipush 8, 2) := by decide +kernel
theorem dX12_init_123 : decode cX12_init 123 = .ok (.iastore, 1) := by decide +kernel
theorem dX12_init_124 : decode cX12_init 124 = .ok (.dup, 1) := by decide +kernel
theorem dX12_init_125 : decode cX12_init 125 = .ok (.iconst 3, 1) := by decide +kernel
theorem dX12_init_126 : decode cX12_init 126 = .ok (.bipush 11, 2) := by decide +kernel
theorem dX12_init_128 : decode cX12_init 128 = .ok (.iastore, 1) := by decide +kernel
theorem dX12_init_129 : decode cX12_init 129 = .ok (.putfield 26, 3) := by decide +kernel
theorem dX12_init_132 : decode cX12_init 132 = .ok (.aload_n 0, 1) := by decide +kernel
theorem dX12_init_133 : decode cX12_init 133 = .ok (.bipush 96, 2) := by decide +kernel
theorem dX12_init_135 : decode cX12_init 135 = .ok (.newarray .int, 2) := by decide +kernel
theorem dX12_init_137 : decode cX12_init 137 = .ok (.putfield 29, 3) := by decide +kernel
theorem dX12_init_140 : decode cX12_init 140 = .ok (.aload_n 0, 1) := by decide +kernel
theorem dX12_init_141 : decode cX12_init 141 = .ok (.bipush 96, 2) := by decide +kernel
theorem dX12_init_143 : decode cX12_init 143 = .ok (.newarray .int, 2) := by decide +kernel
theorem dX12_init_145 : decode cX12_init 145 = .ok (.putfield 32, 3) := by decide +kernel
theorem dX12_init_148 : decode cX12_init 148 = .ok (.aload_n 0, 1) := by decide +kernel
theorem dX12_init_149 : decode cX12_init 149 = .ok (.bipush 10, 2) := by decide +kernel
theorem dX12_init_151 : decode cX12_init 151 = .ok (.newarray .boolean, 2) := by decide +kernel
theorem dX12_init_153 : decode cX12_init 153 = .ok (.putfield 35, 3) := by decide +kernel
theorem dX12_init_156 : decode cX12_init 156 = .ok (.aload_n 0, 1) := by decide +kernel
theorem dX12_init_157 : decode cX12_init 157 = .ok (.bipush 96, 2) := by decide +kernel
theorem dX12_init_159 : decode cX12_init 159 = .ok (.newarray .int, 2) := by decide +kernel
theorem dX12_init_161 : decode cX12_init 161 = .ok (.putfield 39, 3) := by decide +kernel
theorem dX12_init_164 : decode cX12_init 164 = .ok (.aload_n 0, 1) := by decide +kernel
theorem dX12_init_165 : decode cX12_init 165 = .ok (.iconst 4, 1) := by decide +kernel
theorem dX12_init_166 : decode cX12_init 166 = .ok (.newarray .int, 2) := by decide +kernel
theorem dX12_init_168 : decode cX12_init 168 = .ok (.putfield 42, 3) := by decide +kernel
theorem dX12_init_171 : decode cX12_init 171 = .ok (.aload_n 0, 1) := by decide +kernel
theorem dX12_init_172 : decode cX12_init 172 = .ok (.iconst 4, 1) := by decide +kernel
theorem dX12_init_173 : decode cX12_init 173 = .ok (.newarray .int, 2) := by decide +kernel
theorem dX12_init_175 : decode cX12_init 175 = .ok (.dup, 1) := by decide +kernel
theorem dX12_init_176 : decode cX12_init 176 = .ok (.iconst 0, 1) := by decide +kernel
theorem dX12_init_177 : decode cX12_init 177 = .ok (.iconst (-1), 1) := by decide +kernel
theorem dX12_init_178 : decode cX12_init 178 = .ok (.iastore, 1) := by decide +kernel
theorem dX12_init_179 : decode cX12_init 179 = .ok (.dup, 1) := by decide +kernel
theorem dX12_init_180 : decode cX12_init 180 = .ok (.iconst 1, 1) := by decide +kernel
theorem dX12_init_181 : decode cX12_init 181 = .ok (.iconst (-1), 1) := by decide +kernel
theorem dX12_init_182 : decode cX12_init 182 = .ok (.iastore, 1) := by decide +kernel
theorem dX12_init_183 : decode cX12_init 183 = .ok (.dup, 1) := by decide +kernel
theorem dX12_init_184 : decode cX12_init 184 = .ok (.iconst 2, 1) := by decide +kernel
theorem dX12_init_185 : decode cX12_init 185 = .ok (.iconst (-1), 1) := by decide +kernel
theorem dX12_init_186 : decode cX12_init 186 = .ok (.iastore, 1) := by decide +kernel
theorem dX12_init_187 : decode cX12_init 187 = .ok (.dup, 1) := by decide +kernel
theorem dX12_init_188 : decode cX12_init 188 = .ok (.iconst 3, 1) := by decide +kernel
theorem dX12_init_189 : decode cX12_init 189 = .ok (.iconst (-1), 1) := by decide +kernel
theorem dX12_init_190 : decode cX12_init 190 = .ok (.iastore, 1) := by decide +kernel
theorem dX12_init_191 : decode cX12_init 191 = .ok (.putfield 45, 3) := by decide +kernel
theorem dX12_init_194 : decode cX12_init 194 = .ok (.aload_n 0, 1) := by decide +kernel
theorem dX12_init_195 : decode cX12_init 195 = .ok (.iconst 4, 1) := by decide +kernel
theorem dX12_init_196 : decode cX12_init 196 = .ok (.newarray .int, 2) := by decide +kernel
theorem dX12_init_198 : decode cX12_init 198 = .ok (.putfield 48, 3) := by decide +kernel
theorem dX12_init_201 : decode cX12_init 201 = .ok (.aload_n 0, 1) := by decide +kernel
theorem dX12_init_202 : decode cX12_init 202 = .ok (.bipush 96, 2) := by decide +kernel
theorem dX12_init_204 : decode cX12_init 204 = .ok (.newarray .int, 2) := by decide +kernel
theorem dX12_init_206 : decode cX12_init 206 = .ok (.putfield 51, 3) := by decide +kernel
theorem dX12_init_209 : decode cX12_init 209 = .ok (.aload_n 0, 1) := by decide +kernel
theorem dX12_init_210 : decode cX12_init 210 = .ok (.iconst 5, 1) := by decide +kernel
theorem dX12_init_211 : decode cX12_init 211 = .ok (.newarray .int, 2) := by decide +kernel
theorem dX12_init_213 : decode cX12_init 213 = .ok (.putfield 54, 3) := by decide +kernel
theorem dX12_init_216 : decode cX12_init 216 = .ok (.aload_n 0, 1) := by decide +kernel
theorem dX12_init_217 : decode cX12_init 217 = .ok (.iconst 5, 1) := by decide +kernel
theorem dX12_init_218 : decode cX12_init 218 = .ok (.newarray .int, 2) := by decide +kernel
theorem dX12_init_220 : decode cX12_init 220 = .ok (.putfield 57, 3) := by decide +kernel
theorem dX12_init_223 : decode cX12_init 223 = .ok (.aload_n 0, 1) := by decide +kernel
theorem dX12_init_224 : decode cX12_init 224 = .ok (.iconst 5, 1) := by decide +kernel
theorem dX12_init_225 : decode cX12_init 225 = .ok (.newarray .int, 2) := by decide +kernel
theorem dX12_init_227 : decode cX12_init 227 = .ok (.putfield 60, 3) := by decide +kernel
theorem dX12_init_230 : decode cX12_init 230 = .ok (.aload_n 0, 1) := by decide +kernel
theorem dX12_init_231 : decode cX12_init 231 = .ok (.bipush 120, 2) := by decide +kernel
theorem dX12_init_233 : decode cX12_init 233 = .ok (.newarray .int, 2) := by decide +kernel
theorem dX12_init_235 : decode cX12_init 235 = .ok (.putfield 63, 3) := by decide +kernel
theorem dX12_init_238 : decode cX12_init 238 = .ok (.aload_n 0, 1) := by decide +kernel
theorem dX12_init_239 : decode cX12_init 239 = .ok (.bipush 24, 2) := by decide +kernel
theorem dX12_init_241 : decode cX12_init 241 = .ok (.newarray .int, 2) := by decide +kernel
theorem dX12_init_243 : decode cX12_init 243 = .ok (.putfield 66, 3) := by decide +kernel
theorem dX12_init_246 : decode cX12_init 246 = .ok (.aload_n 0, 1) := by decide +kernel
theorem dX12_init_247 : decode cX12_init 247 = .ok (.bipush 60, 2) := by decide +kernel
theorem dX12_init_249 : decode cX12_init 249 = .ok (.newarray .int, 2) := by decide +kernel
theorem dX12_init_251 : decode cX12_init 251 = .ok (.putfield 69, 3) := by decide +kernel
theorem dX12_init_254 : decode cX12_init 254 = .ok (.aload_n 0, 1) := by decide +kernel
theorem dX12_init_255 : decode cX12_init 255 = .ok (.getfield 9, 3) := by decide +kernel
theorem dX12_init_258 : decode cX12_init 258 = .ok (.iconst 0, 1) := by decide +kernel
theorem dX12_init_259 : decode cX12_init 259 = .ok (.iconst 1, 1) := by decide +kernel
theorem dX12_init_260 : decode cX12_init 260 = .ok (.iastore, 1) := by decide +kernel
theorem dX12_init_261 : decode cX12_init 261 = .ok (.aload_n 0, 1) := by decide +kernel
theorem dX12_init_262 : decode cX12_init 262 = .ok (.getfield 9, 3) := by decide +kernel
theorem dX12_init_265 : decode cX12_init 265 = .ok (.bipush 6, 2) := by decide +kernel
theorem dX12_init_267 : decode cX12_init 267 = .ok (.iconst 3, 1) := by decide +kernel
theorem dX12_init_268 : decode cX12_init 268 = .ok (.iastore, 1) := by decide +kernel
theorem dX12_init_269 : decode cX12_init 269 = .ok (.return_, 1) := by decide +kernel
theorem dX12_in_0 : decode cX12_in 0 = .ok (.iload_n 0, 1) := by decide +kernel
theorem dX12_in_1 : decode cX12_in 1 = .ok (.iload_n 1, 1) := by decide +kernel
theorem dX12_in_2 : decode cX12_in 2 = .ok (.if_icmp .lt 12, 3) := by decide +kernel
theorem dX12_in_5 : decode cX12_in 5 = .ok (.iload_n 0, 1) := by decide +kernel
theorem dX12_in_6 : decode cX12_in 6 = .ok (.iload_n 2, 1) := by decide +kernel
theorem dX12_in_7 : decode cX12_in 7 = .ok (.if_icmp .gt 7, 3) := by decide +kernel
theorem dX12_in_10 : decode cX12_in 10 = .ok (.iconst 1, 1) := by decide +kernel
theorem dX12_in_11 : decode cX12_in 11 = .ok (.goto 4, 3) := by decide +kernel
theorem dX12_in_14 : decode cX12_in 14 = .ok (.iconst 0, 1) := by decide +kernel
theorem dX12_in_15 : decode cX12_in 15 = .ok (.ireturn, 1) := by decide +kernel
theorem dX12_within_0 : decode cX12_within 0 = .ok (.iload_n 0, 1) := by decide +kernel
theorem dX12_within_1 : decode cX12_within 1 = .ok (.iload_n 1, 1) := by decide +kernel
theorem dX12_within_2 : decode cX12_within 2 = .ok (.if_icmp .ge 7, 3) := by decide +kernel
theorem dX12_within_5 : decode cX12_within 5 = .ok (.iload_n 1, 1) := by decide +kernel
theorem dX12_within_6 : decode cX12_within 6 = .ok (.goto 13, 3) := by decide +kernel
theorem dX12_within_9 : decode cX12_within 9 = .ok (.iload_n 0, 1) := by decide +kernel
theorem dX12_within_10 : decode cX12_within 10 = .ok (.iload_n 2, 1) := by decide +kernel
theorem dX12_within_11 : decode cX12_within 11 = .ok (.if_icmp .le 7, 3) := by decide +kernel
theorem dX12_within_14 : decode cX12_within 14 = .ok (.iload_n 2, 1) := by decide +kernel
theorem dX12_within_15 : decode cX12_within 15 = .ok (.goto 4, 3) := by decide +kernel
theorem dX12_within_18 : decode cX12_within 18 = .ok (.iload_n 0, 1) := by decide +kernel
theorem dX12_within_19 : decode cX12_within 19 = .ok (.ireturn, 1) := by decide +kernel
theorem dX12_copyAll_0 : decode cX12_copyAll 0 = .ok (.iconst 0, 1) := by decide +kernel
theorem dX12_copyAll_1 : decode cX12_copyAll 1 = .ok (.istore_n 2, 1) := by decide +kernel
theorem dX12_copyAll_2 : decode cX12_copyAll 2 = .ok (.iload_n 2, 1) := by decide +kernel
theorem dX12_copyAll_3 : decode cX12_copyAll 3 = .ok (.sipush 1482, 3) := by decide +kernel
theorem dX12_copyAll_6 : decode cX12_copyAll 6 = .ok (.if_icmp .ge 15, 3) := by decide +kernel
theorem dX12_copyAll_9 : decode cX12_copyAll 9 = .ok (.aload_n 1, 1) := by decide +kernel
theorem dX12_copyAll_10 : decode cX12_copyAll 10 = .ok (.iload_n 2, 1) := by decide +kernel
theorem dX12_copyAll_11 : decode cX12_copyAll 11 = .ok (.aload_n 0, 1) := by decide +kernel
theorem dX12_copyAll_12 : decode cX12_copyAll 12 = .ok (.iload_n 2, 1) := by decide +kernel
theorem dX12_copyAll_13 : decode cX12_copyAll 13 = .ok (.iaload, 1) := by decide +kernel
theorem dX12_copyAll_14 : decode cX12_copyAll 14 = .ok (.iastore, 1) := by decide +kernel
theorem dX12_copyAll_15 : decode cX12_copyAll 15 = .ok (.iinc 2 1, 3) := by decide +kernel
theorem dX12_copyAll_18 : decode cX12_copyAll 18 = .ok (.goto (-16), 3) := by decide +kernel
theorem dX12_copyAll_21 : decode cX12_copyAll 21 = .ok (.return_, 1) := by decide +kernel
theorem dX12_told0_0 : decode cX12_told0 0 = .ok (.iload_n 0, 1) := by decide +kernel
theorem dX12_told0_1 : decode cX12_told0 1 = .ok (.ifCond .ge 8, 3) := by decide +kernel
theorem dX12_told0_4 : decode cX12_told0 4 = .ok (.ldc 72, 2) := by decide +kernel
theorem dX12_told0_6 : decode cX12_told0 6 = .ok (.goto 4, 3) := by decide +kernel
theorem dX12_told0_9 : decode cX12_told0 9 = .ok (.iload_n 0, 1) := by decide +kernel
theorem dX12_told0_10 : decode cX12_told0 10 = .ok (.ireturn, 1) := by decide +kernel
theorem dX12_isHouse_0 : decode cX12_isHouse 0 = .ok (.iload_n 1, 1) := by decide +kernel
theorem dX12_isHouse_1 : decode cX12_isHouse 1 = .ok (.iconst 0, 1) := by decide +kernel
theorem dX12_isHouse_2 : decode cX12_isHouse 2 = .ok (.aload_n 0, 1) := by decide +kernel
theorem dX12_isHouse_3 : decode cX12_isHouse 3 = .ok (.getfield 9, 3) := by decide +kernel
theorem dX12_isHouse_6 : decode cX12_isHouse 6 = .ok (.iconst 1, 1) := by decide +kernel
theorem dX12_isHouse_7 : decode cX12_isHouse 7 = .ok (.iaload, 1) := by decide +kernel
theorem dX12_isHouse_8 : decode cX12_isHouse 8 = .ok (.iconst 1, 1) := by decide +kernel
theorem dX12_isHouse_9 : decode cX12_isHouse 9 = .ok (.isub, 1) := by decide +kernel
theorem dX12_isHouse_10 : decode cX12_isHouse 10 = .ok (.invokestatic 73, 3) := by decide +kernel
theorem dX12_isHouse_13 : decode cX12_isHouse 13 = .ok (.ireturn, 1) := by decide +kernel
theorem dX12_isDoor_0 : decode cX12_isDoor 0 = .ok (.iload_n 1, 1) := by decide +kernel
theorem dX12_isDoor_1 : decode cX12_isDoor 1 = .ok (.iconst 0, 1) := by decide +kernel
theorem dX12_isDoor_2 : decode cX12_isDoor 2 = .ok (.aload_n 0, 1) := by decide +kernel
theorem dX12_isDoor_3 : decode cX12_isDoor 3 = .ok (.getfield 9, 3) := by decide +kernel
theorem dX12_isDoor_6 : decode cX12_isDoor 6 = .ok (.iconst 2, 1) := by decide +kernel
theorem dX12_isDoor_7 : decode cX12_isDoor 7 = .ok (.iaload, 1) := by decide +kernel
theorem dX12_isDoor_8 : decode cX12_isDoor 8 = .ok (.iconst 1, 1) := by decide +kernel
theorem dX12_isDoor_9 : decode cX12_isDoor 9 = .ok (.isub, 1) := by decide +kernel
theorem dX12_isDoor_10 : decode cX12_isDoor 10 = .ok (.invokestatic 73, 3) := by decide +kernel
theorem dX12_isDoor_13 : decode cX12_isDoor 13 = .ok (.ireturn, 1) := by decide +kernel
theorem dX12_isThief_0 : decode cX12_isThief 0 = .ok (.iload_n 1, 1) := by decide +kernel
theorem dX12_isThief_1 : decode cX12_isThief 1 = .ok (.iconst 0, 1) := by decide +kernel
theorem dX12_isThief_2 : decode cX12_isThief 2 = .ok (.aload_n 0, 1) := by decide +kernel
theorem dX12_isThief_3 : decode cX12_isThief 3 = .ok (.getfield 9, 3) := by decide +kernel
theorem dX12_isThief_6 : decode cX12_isThief 6 = .ok (.iconst 3, 1) := by decide +kernel
theorem dX12_isThief_7 : decode cX12_isThief 7 = .ok (.iaload, 1) := by decide +kernel
theorem dX12_isThief_8 : decode cX12_isThief 8 = .ok (.iconst 1, 1) := by decide +kernel
theorem dX12_isThief_9 : decode cX12_isThief 9 = .ok (.isub, 1) := by decide +kernel
theorem dX12_isThief_10 : decode cX12_isThief 10 = .ok (.invokestatic 73, 3) := by decide +kernel
theorem dX12_isThief_13 : decode cX12_isThief 13 = .ok (.ireturn, 1) := by decide +kernel
theorem dX12_houseOf_0 : decode cX12_houseOf 0 = .ok (.aload_n 0, 1) := by decide +kernel
theorem dX12_houseOf_1 : decode cX12_houseOf 1 = .ok (.getfield 9, 3) := by decide +kernel
theorem dX12_houseOf_4 : decode cX12_houseOf 4 = .ok (.bipush 8, 2) := by decide +kernel
theorem dX12_houseOf_6 : decode cX12_houseOf 6 = .ok (.iconst 3, 1) := by decide +kernel
theorem dX12_houseOf_7 : decode cX12_houseOf 7 = .ok (.iload_n 1, 1) := by decide +kernel
theorem dX12_houseOf_8 : decode cX12_houseOf 8 = .ok (.imul, 1) := by decide +kernel
theorem dX12_houseOf_9 : decode cX12_houseOf 9 = .ok (.iadd, 1) := by decide +kernel
theorem dX12_houseOf_10 : decode cX12_houseOf 10 = .ok (.iload_n 2, 1) := by decide +kernel
theorem dX12_houseOf_11 : decode cX12_houseOf 11 = .ok (.iadd, 1) := by decide +kernel
theorem dX12_houseOf_12 : decode cX12_houseOf 12 = .ok (.iaload, 1) := by decide +kernel
theorem dX12_houseOf_13 : decode cX12_houseOf 13 = .ok (.ireturn, 1) := by decide +kernel
theorem dX12_doorOf_0 : decode cX12_doorOf 0 = .ok (.aload_n 0, 1) := by decide +kernel
theorem dX12_doorOf_1 : decode cX12_doorOf 1 = .ok (.getfield 9, 3) := by decide +kernel
theorem dX12_doorOf_4 : decode cX12_doorOf 4 = .ok (.bipush 38, 2) := by decide +kernel
theorem dX12_doorOf_6 : decode cX12_doorOf 6 = .ok (.iconst 5, 1) := by decide +kernel
theorem dX12_doorOf_7 : decode cX12_doorOf 7 = .ok (.iload_n 1, 1) := by decide +kernel
theorem dX12_doorOf_8 : decode cX12_doorOf 8 = .ok (.imul, 1) := by decide +kernel
theorem dX12_doorOf_9 : decode cX12_doorOf 9 = .ok (.iadd, 1) := by decide +kernel
theorem dX12_doorOf_10 : decode cX12_doorOf 10 = .ok (.iload_n 2, 1) := by decide +kernel
theorem dX12_doorOf_11 : decode cX12_doorOf 11 = .ok (.iadd, 1) := by decide +kernel
theorem dX12_doorOf_12 : decode cX12_doorOf 12 = .ok (.iaload, 1) := by decide +kernel
theorem dX12_doorOf_13 : decode cX12_doorOf 13 = .ok (.ireturn, 1) := by decide +kernel
theorem dX12_kindOf_0 : decode cX12_kindOf 0 = .ok (.aload_n 0, 1) := by decide +kernel
theorem dX12_kindOf_1 : decode cX12_kindOf 1 = .ok (.getfield 9, 3) := by decide +kernel
theorem dX12_kindOf_4 : decode cX12_kindOf 4 = .ok (.bipush 98, 2) := by decide +kernel
theorem dX12_kindOf_6 : decode cX12_kindOf 6 = .ok (.iconst 2, 1) := by decide +kernel
theorem dX12_kindOf_7 : decode cX12_kindOf 7 = .ok (.iload_n 1, 1) := by decide +kernel
theorem dX12_kindOf_8 : decode cX12_kindOf 8 = .ok (.imul, 1) := by decide +kernel
theorem dX12_kindOf_9 : decode cX12_kindOf 9 = .ok (.iadd, 1) := by decide +kernel
theorem dX12_kindOf_10 : decode cX12_kindOf 10 = .ok (.iaload, 1) := by decide +kernel
theorem dX12_kindOf_11 : decode cX12_kindOf 11 = .ok (.ireturn, 1) := by decide +kernel
theorem dX12_homeOf_0 : decode cX12_homeOf 0 = .ok (.aload_n 0, 1) := by decide +kernel
theorem dX12_homeOf_1 : decode cX12_homeOf 1 = .ok (.getfield 9, 3) := by decide +kernel
theorem dX12_homeOf_4 : decode cX12_homeOf 4 = .ok (.bipush 98, 2) := by decide +kernel
theorem dX12_homeOf_6 : decode cX12_homeOf 6 = .ok (.iconst 2, 1) := by decide +kernel
theorem dX12_homeOf_7 : decode cX12_homeOf 7 = .ok (.iload_n 1, 1) := by decide +kernel
theorem dX12_homeOf_8 : decode cX12_homeOf 8 = .ok (.imul, 1) := by decide +kernel
theorem dX12_homeOf_9 : decode cX12_homeOf 9 = .ok (.iadd, 1) := by decide +kernel
theorem dX12_homeOf_10 : decode cX12_homeOf 10 = .ok (.iconst 1, 1) := by decide +kernel
theorem dX12_homeOf_11 : decode cX12_homeOf 11 = .ok (.iadd, 1) := by decide +kernel
theorem dX12_homeOf_12 : decode cX12_homeOf 12 = .ok (.iaload, 1) := by decide +kernel
theorem dX12_homeOf_13 : decode cX12_homeOf 13 = .ok (.ireturn, 1) := by decide +kernel
theorem dX12_becomes_0 : decode cX12_becomes 0 = .ok (.aload_n 0, 1) := by decide +kernel
theorem dX12_becomes_1 : decode cX12_becomes 1 = .ok (.getfield 9, 3) := by decide +kernel
theorem dX12_becomes_4 : decode cX12_becomes 4 = .ok (.iload_n 1, 1) := by decide +kernel
theorem dX12_becomes_5 : decode cX12_becomes 5 = .ok (.iaload, 1) := by decide +kernel
theorem dX12_becomes_6 : decode cX12_becomes 6 = .ok (.istore_n 3, 1) := by decide +kernel
theorem dX12_becomes_7 : decode cX12_becomes 7 = .ok (.aload_n 0, 1) := by decide +kernel
theorem dX12_becomes_8 : decode cX12_becomes 8 = .ok (.getfield 9, 3) := by decide +kernel
theorem dX12_becomes_11 : decode cX12_becomes 11 = .ok (.iload_n 1, 1) := by decide +kernel
theorem dX12_becomes_12 : decode cX12_becomes 12 = .ok (.iload_n 2, 1) := by decide +kernel
theorem dX12_becomes_13 : decode cX12_becomes 13 = .ok (.iastore, 1) := by decide +kernel
theorem dX12_becomes_14 : decode cX12_becomes 14 = .ok (.iload_n 3, 1) := by decide +kernel
theorem dX12_becomes_15 : decode cX12_becomes 15 = .ok (.ireturn, 1) := by decide +kernel
theorem dX12_draw_0 : decode cX12_draw 0 = .ok (.aload_n 0, 1) := by decide +kernel
theorem dX12_draw_1 : decode cX12_draw 1 = .ok (.getfield 9, 3) := by decide +kernel
theorem dX12_draw_4 : decode cX12_draw 4 = .ok (.iconst 0, 1) := by decide +kernel
theorem dX12_draw_5 : decode cX12_draw 5 = .ok (.aload_n 0, 1) := by decide +kernel
theorem dX12_draw_6 : decode cX12_draw 6 = .ok (.getfield 9, 3) := by decide +kernel
theorem dX12_draw_9 : decode cX12_draw 9 = .ok (.iconst 0, 1) := by decide +kernel
theorem dX12_draw_10 : decode cX12_draw 10 = .ok (.iaload, 1) := by decide +kernel
theorem dX12_draw_11 : decode cX12_draw 11 = .ok (.ldc 77, 2) := by decide +kernel
theorem dX12_draw_13 : decode cX12_draw 13 = .ok (.imul, 1) := by decide +kernel
theorem dX12_draw_14 : decode cX12_draw 14 = .ok (.sipush 12345, 3) := by decide +kernel
theorem dX12_draw_17 : decode cX12_draw 17 = .ok (.iadd, 1) := by decide +kernel
theorem dX12_draw_18 : decode cX12_draw 18 = .ok (.iastore, 1) := by decide +kernel
theorem dX12_draw_19 : decode cX12_draw 19 = .ok (.aload_n 0, 1) := by decide +kernel
theorem dX12_draw_20 : decode cX12_draw 20 = .ok (.getfield 9, 3) := by decide +kernel
theorem dX12_draw_23 : decode cX12_draw 23 = .ok (.iconst 0, 1) := by decide +kernel
theorem dX12_draw_24 : decode cX12_draw 24 = .ok (.iaload, 1) := by decide +kernel
theorem dX12_draw_25 : decode cX12_draw 25 = .ok (.bipush 8, 2) := by decide +kernel
theorem dX12_draw_27 : decode cX12_draw 27 = .ok (.iushr, 1) := by decide +kernel
theorem dX12_draw_28 : decode cX12_draw 28 = .ok (.ireturn, 1) := by decide +kernel
theorem dX12_comes_0 : decode cX12_comes 0 = .ok (.bipush 8, 2) := by decide +kernel
theorem dX12_comes_2 : decode cX12_comes 2 = .ok (.iconst 3, 1) := by decide +kernel
theorem dX12_comes_3 : decode cX12_comes 3 = .ok (.aload_n 0, 1) := by decide +kernel
theorem dX12_comes_4 : decode cX12_comes 4 = .ok (.getfield 9, 3) := by decide +kernel
theorem dX12_comes_7 : decode cX12_comes 7 = .ok (.iconst 1, 1) := by decide +kernel
theorem dX12_comes_8 : decode cX12_comes 8 = .ok (.iaload, 1) := by decide +kernel
theorem dX12_comes_9 : decode cX12_comes 9 = .ok (.imul, 1) := by decide +kernel
theorem dX12_comes_10 : decode cX12_comes 10 = .ok (.iadd, 1) := by decide +kernel
theorem dX12_comes_11 : decode cX12_comes 11 = .ok (.istore_n 3, 1) := by decide +kernel
theorem dX12_comes_12 : decode cX12_comes 12 = .ok (.aload_n 0, 1) := by decide +kernel
theorem dX12_comes_13 : decode cX12_comes 13 = .ok (.getfield 9, 3) := by decide +kernel
theorem dX12_comes_16 : decode cX12_comes 16 = .ok (.iload_n 3, 1) := by decide +kernel
theorem dX12_comes_17 : decode cX12_comes 17 = .ok (.iload_n 1, 1) := by decide +kernel
theorem dX12_comes_18 : decode cX12_comes 18 = .ok (.iastore, 1) := by decide +kernel
theorem dX12_comes_19 : decode cX12_comes 19 = .ok (.aload_n 0, 1) := by decide +kernel
theorem dX12_comes_20 : decode cX12_comes 20 = .ok (.getfield 9, 3) := by decide +kernel
theorem dX12_comes_23 : decode cX12_comes 23 = .ok (.iload_n 3, 1) := by decide +kernel
theorem dX12_comes_24 : decode cX12_comes 24 = .ok (.iconst 1, 1) := by decide +kernel
theorem dX12_comes_25 : decode cX12_comes 25 = .ok (.iadd, 1) := by decide +kernel
theorem dX12_comes_26 : decode cX12_comes 26 = .ok (.iload_n 2, 1) := by decide +kernel
theorem dX12_comes_27 : decode cX12_comes 27 = .ok (.iastore, 1) := by decide +kernel
theorem dX12_comes_28 : decode cX12_comes 28 = .ok (.aload_n 0, 1) := by decide +kernel
theorem dX12_comes_29 : decode cX12_comes 29 = .ok (.getfield 9, 3) := by decide +kernel
theorem dX12_comes_32 : decode cX12_comes 32 = .ok (.iload_n 3, 1) := by decide +kernel
theorem dX12_comes_33 : decode cX12_comes 33 = .ok (.iconst 2, 1) := by decide +kernel
theorem dX12_comes_34 : decode cX12_comes 34 = .ok (.iadd, 1) := by decide +kernel
theorem dX12_comes_35 : decode cX12_comes 35 = .ok (.iconst 0, 1) := by decide +kernel
theorem dX12_comes_36 : decode cX12_comes 36 = .ok (.iastore, 1) := by decide +kernel
theorem dX12_comes_37 : decode cX12_comes 37 = .ok (.aload_n 0, 1) := by decide +kernel
theorem dX12_comes_38 : decode cX12_comes 38 = .ok (.getfield 9, 3) := by decide +kernel
theorem dX12_comes_41 : decode cX12_comes 41 = .ok (.iconst 1, 1) := by decide +kernel
theorem dX12_comes_42 : decode cX12_comes 42 = .ok (.dup2, 1) := by decide +kernel
theorem dX12_comes_43 : decode cX12_comes 43 = .ok (.iaload, 1) := by decide +kernel
theorem dX12_comes_44 : decode cX12_comes 44 = .ok (.iconst 1, 1) := by decide +kernel
theorem dX12_comes_45 : decode cX12_comes 45 = .ok (.iadd, 1) := by decide +kernel
theorem dX12_comes_46 : decode cX12_comes 46 = .ok (.iastore, 1) := by decide +kernel
theorem dX12_comes_47 : decode cX12_comes 47 = .ok (.aload_n 0, 1) := by decide +kernel
theorem dX12_comes_48 : decode cX12_comes 48 = .ok (.getfield 9, 3) := by decide +kernel
theorem dX12_comes_51 : decode cX12_comes 51 = .ok (.iconst 1, 1) := by decide +kernel
theorem dX12_comes_52 : decode cX12_comes 52 = .ok (.iaload, 1) := by decide +kernel
theorem dX12_comes_53 : decode cX12_comes 53 = .ok (.iconst 1, 1) := by decide +kernel
theorem dX12_comes_54 : decode cX12_comes 54 = .ok (.isub, 1) := by decide +kernel
theorem dX12_comes_55 : decode cX12_comes 55 = .ok (.ireturn, 1) := by decide +kernel
theorem dX12_house_0 : decode cX12_house 0 = .ok (.iload_n 1, 1) := by decide +kernel
theorem dX12_house_1 : decode cX12_house 1 = .ok (.iconst 0, 1) := by decide +kernel
theorem dX12_house_2 : decode cX12_house 2 = .ok (.bipush 100, 2) := by decide +kernel
theorem dX12_house_4 : decode cX12_house 4 = .ok (.invokestatic 73, 3) := by decide +kernel
theorem dX12_house_7 : decode cX12_house 7 = .ok (.ifCond .eq 13, 3) := by decide +kernel
theorem dX12_house_10 : decode cX12_house 10 = .ok (.iload_n 2, 1) := by decide +kernel
theorem dX12_house_11 : decode cX12_house 11 = .ok (.iconst 0, 1) := by decide +kernel
theorem dX12_house_12 : decode cX12_house 12 = .ok (.bipush 100, 2) := by decide +kernel
theorem dX12_house_14 : decode cX12_house 14 = .ok (.invokestatic 73, 3) := by decide +kernel
theorem dX12_house_17 : decode cX12_house 17 = .ok (.ifCond .ne 6, 3) := by decide +kernel
theorem dX12_house_20 : decode cX12_house 20 = .ok (.ldc 78, 2) := by decide +kernel
theorem dX12_house_22 : decode cX12_house 22 = .ok (.ireturn, 1) := by decide +kernel
theorem dX12_house_23 : decode cX12_house 23 = .ok (.aload_n 0, 1) := by decide +kernel
theorem dX12_house_24 : decode cX12_house 24 = .ok (.getfield 9, 3) := by decide +kernel
theorem dX12_house_27 : decode cX12_house 27 = .ok (.iconst 1, 1) := by decide +kernel
theorem dX12_house_28 : decode cX12_house 28 = .ok (.iaload, 1) := by decide +kernel
theorem dX12_house_29 : decode cX12_house 29 = .ok (.bipush 10, 2) := by decide +kernel
theorem dX12_house_31 : decode cX12_house 31 = .ok (.if_icmp .ne 8, 3) := by decide +kernel
theorem dX12_house_34 : decode cX12_house 34 = .ok (.ldc 79, 2) := by decide +kernel
theorem dX12_house_36 : decode cX12_house 36 = .ok (.goto 9, 3) := by decide +kernel
theorem dX12_house_39 : decode cX12_house 39 = .ok (.aload_n 0, 1) := by decide +kernel
theorem dX12_house_40 : decode cX12_house 40 = .ok (.iload_n 1, 1) := by decide +kernel
theorem dX12_house_41 : decode cX12_house 41 = .ok (.iload_n 2, 1) := by decide +kernel
theorem dX12_house_42 : decode cX12_house 42 = .ok (.invokevirtual 80, 3) := by decide +kernel
theorem dX12_house_45 : decode cX12_house 45 = .ok (.ireturn, 1) := by decide +kernel
theorem dX12_bellsIn_0 : decode cX12_bellsIn 0 = .ok (.iconst 0, 1) := by decide +kernel
theorem dX12_bellsIn_1 : decode cX12_bellsIn 1 = .ok (.istore 4, 2) := by decide +kernel
theorem dX12_bellsIn_3 : decode cX12_bellsIn 3 = .ok (.iconst 0, 1) := by decide +kernel
theorem dX12_bellsIn_4 : decode cX12_bellsIn 4 = .ok (.istore 5, 2) := by decide +kernel
theorem dX12_bellsIn_6 : decode cX12_bellsIn 6 = .ok (.iload 5, 2) := by decide +kernel
theorem dX12_bellsIn_8 : decode cX12_bellsIn 8 = .ok (.aload_n 0, 1) := by decide +kernel
theorem dX12_bellsIn_9 : decode cX12_bellsIn 9 = .ok (.getfield 9, 3) := by decide +kernel
theorem dX12_bellsIn_12 : decode cX12_bellsIn 12 = .ok (.iconst 2, 1) := by decide +kernel
theorem dX12_bellsIn_13 : decode cX12_bellsIn 13 = .ok (.iaload, 1) := by decide +kernel
theorem dX12_bellsIn_14 : decode cX12_bellsIn 14 = .ok (.if_icmp .ge 68, 3) := by decide +kernel
theorem dX12_bellsIn_17 : decode cX12_bellsIn 17 = .ok (.iconst 0, 1) := by decide +kernel
theorem dX12_bellsIn_18 : decode cX12_bellsIn 18 = .ok (.istore 6, 2) := by decide +kernel
theorem dX12_bellsIn_20 : decode cX12_bellsIn 20 = .ok (.iload 6, 2) := by decide +kernel
theorem dX12_bellsIn_22 : decode cX12_bellsIn 22 = .ok (.iconst 2, 1) := by decide +kernel
theorem dX12_bellsIn_23 : decode cX12_bellsIn 23 = .ok (.if_icmp .ge 53, 3) := by decide +kernel
theorem dX12_bellsIn_26 : decode cX12_bellsIn 26 = .ok (.iload 5, 2) := by decide +kernel
theorem dX12_bellsIn_28 : decode cX12_bellsIn 28 = .ok (.iload_n 2, 1) := by decide +kernel
theorem dX12_bellsIn_29 : decode cX12_bellsIn 29 = .ok (.if_icmp .eq 47, 3) := by decide +kernel
theorem dX12_bellsIn_32 : decode cX12_bellsIn 32 = .ok (.iload 4, 2) := by decide +kernel
theorem dX12_bellsIn_34 : decode cX12_bellsIn 34 = .ok (.aload_n 0, 1) := by decide +kernel
theorem dX12_bellsIn_35 : decode cX12_bellsIn 35 = .ok (.iload 5, 2) := by decide +kernel
theorem dX12_bellsIn_37 : decode cX12_bellsIn 37 = .ok (.iconst 3, 1) := by decide +kernel
theorem dX12_bellsIn_38 : decode cX12_bellsIn 38 = .ok (.iload 6, 2) := by decide +kernel
theorem dX12_bellsIn_40 : decode cX12_bellsIn 40 = .ok (.iadd, 1) := by decide +kernel
theorem dX12_bellsIn_41 : decode cX12_bellsIn 41 = .ok (.invokevirtual 84, 3) := by decide +kernel
theorem dX12_bellsIn_44 : decode cX12_bellsIn 44 = .ok (.iload_n 1, 1) := by decide +kernel
theorem dX12_bellsIn_45 : decode cX12_bellsIn 45 = .ok (.if_icmp .eq 7, 3) := by decide +kernel
theorem dX12_bellsIn_48 : decode cX12_bellsIn 48 = .ok (.iconst 0, 1) := by decide +kernel
theorem dX12_bellsIn_49 : decode cX12_bellsIn 49 = .ok (.goto 18, 3) := by decide +kernel
theorem dX12_bellsIn_52 : decode cX12_bellsIn 52 = .ok (.iload_n 3, 1) := by decide +kernel
theorem dX12_bellsIn_53 : decode cX12_bellsIn 53 = .ok (.ifCond .eq 13, 3) := by decide +kernel
theorem dX12_bellsIn_56 : decode cX12_bellsIn 56 = .ok (.aload_n 0, 1) := by decide +kernel
theorem dX12_bellsIn_57 : decode cX12_bellsIn 57 = .ok (.iload 5, 2) := by decide +kernel
theorem dX12_bellsIn_59 : decode cX12_bellsIn 59 = .ok (.iconst 2, 1) := by decide +kernel
theorem dX12_bellsIn_60 : decode cX12_bellsIn 60 = .ok (.invokevirtual 84, 3) := by decide +kernel
theorem dX12_bellsIn_63 : decode cX12_bellsIn 63 = .ok (.goto 4, 3) := by decide +kernel
theorem dX12_bellsIn_66 : decode cX12_bellsIn 66 = .ok (.iconst 1, 1) := by decide +kernel
theorem dX12_bellsIn_67 : decode cX12_bellsIn 67 = .ok (.iadd, 1) := by decide +kernel
theorem dX12_bellsIn_68 : decode cX12_bellsIn 68 = .ok (.istore 4, 2) := by decide +kernel
theorem dX12_bellsIn_70 : decode cX12_bellsIn 70 = .ok (.iinc 6 1, 3) := by decide +kernel
theorem dX12_bellsIn_73 : decode cX12_bellsIn 73 = .ok (.goto (-53), 3) := by decide +kernel
theorem dX12_bellsIn_76 : decode cX12_bellsIn 76 = .ok (.iinc 5 1, 3) := by decide +kernel
theorem dX12_bellsIn_79 : decode cX12_bellsIn 79 = .ok (.goto (-73), 3) := by decide +kernel
theorem dX12_bellsIn_82 : decode cX12_bellsIn 82 = .ok (.iload 4, 2) := by decide +kernel
theorem dX12_bellsIn_84 : decode cX12_bellsIn 84 = .ok (.ireturn, 1) := by decide +kernel
theorem dX12_comesOf_0 : decode cX12_comesOf 0 = .ok (.aload_n 0, 1) := by decide +kernel
theorem dX12_comesOf_1 : decode cX12_comesOf 1 = .ok (.iload_n 1, 1) := by decide +kernel
theorem dX12_comesOf_2 : decode cX12_comesOf 2 = .ok (.iconst (-1), 1) := by decide +kernel
theorem dX12_comesOf_3 : decode cX12_comesOf 3 = .ok (.iconst 0, 1) := by decide +kernel
theorem dX12_comesOf_4 : decode cX12_comesOf 4 = .ok (.invokevirtual 87, 3) := by decide +kernel
theorem dX12_comesOf_7 : decode cX12_comesOf 7 = .ok (.istore_n 2, 1) := by decide +kernel
theorem dX12_comesOf_8 : decode cX12_comesOf 8 = .ok (.aload_n 0, 1) := by decide +kernel
theorem dX12_comesOf_9 : decode cX12_comesOf 9 = .ok (.iconst 0, 1) := by decide +kernel
theorem dX12_comesOf_10 : decode cX12_comesOf 10 = .ok (.invokevirtual 91, 3) := by decide +kernel
theorem dX12_comesOf_13 : decode cX12_comesOf 13 = .ok (.istore_n 3, 1) := by decide +kernel
theorem dX12_comesOf_14 : decode cX12_comesOf 14 = .ok (.aload_n 0, 1) := by decide +kernel
theorem dX12_comesOf_15 : decode cX12_comesOf 15 = .ok (.getfield 42, 3) := by decide +kernel
theorem dX12_comesOf_18 : decode cX12_comesOf 18 = .ok (.iconst 0, 1) := by decide +kernel
theorem dX12_comesOf_19 : decode cX12_comesOf 19 = .ok (.aload_n 0, 1) := by decide +kernel
theorem dX12_comesOf_20 : decode cX12_comesOf 20 = .ok (.iload_n 1, 1) := by decide +kernel
theorem dX12_comesOf_21 : decode cX12_comesOf 21 = .ok (.iconst 0, 1) := by decide +kernel
theorem dX12_comesOf_22 : decode cX12_comesOf 22 = .ok (.invokevirtual 95, 3) := by decide +kernel
theorem dX12_comesOf_25 : decode cX12_comesOf 25 = .ok (.iastore, 1) := by decide +kernel
theorem dX12_comesOf_26 : decode cX12_comesOf 26 = .ok (.aload_n 0, 1) := by decide +kernel
theorem dX12_comesOf_27 : decode cX12_comesOf 27 = .ok (.getfield 42, 3) := by decide +kernel
theorem dX12_comesOf_30 : decode cX12_comesOf 30 = .ok (.iconst 1, 1) := by decide +kernel
theorem dX12_comesOf_31 : decode cX12_comesOf 31 = .ok (.aload_n 0, 1) := by decide +kernel
theorem dX12_comesOf_32 : decode cX12_comesOf 32 = .ok (.iload_n 1, 1) := by decide +kernel
theorem dX12_comesOf_33 : decode cX12_comesOf 33 = .ok (.iconst 1, 1) := by decide +kernel
theorem dX12_comesOf_34 : decode cX12_comesOf 34 = .ok (.invokevirtual 95, 3) := by decide +kernel
theorem dX12_comesOf_37 : decode cX12_comesOf 37 = .ok (.iastore, 1) := by decide +kernel
theorem dX12_comesOf_38 : decode cX12_comesOf 38 = .ok (.aload_n 0, 1) := by decide +kernel
theorem dX12_comesOf_39 : decode cX12_comesOf 39 = .ok (.getfield 42, 3) := by decide +kernel
theorem dX12_comesOf_42 : decode cX12_comesOf 42 = .ok (.iconst 2, 1) := by decide +kernel
theorem dX12_comesOf_43 : decode cX12_comesOf 43 = .ok (.iload_n 2, 1) := by decide +kernel
theorem dX12_comesOf_44 : decode cX12_comesOf 44 = .ok (.iastore, 1) := by decide +kernel
theorem dX12_comesOf_45 : decode cX12_comesOf 45 = .ok (.aload_n 0, 1) := by decide +kernel
theorem dX12_comesOf_46 : decode cX12_comesOf 46 = .ok (.getfield 42, 3) := by decide +kernel
theorem dX12_comesOf_49 : decode cX12_comesOf 49 = .ok (.iconst 3, 1) := by decide +kernel
theorem dX12_comesOf_50 : decode cX12_comesOf 50 = .ok (.aload_n 0, 1) := by decide +kernel
theorem dX12_comesOf_51 : decode cX12_comesOf 51 = .ok (.getfield 9, 3) := by decide +kernel
theorem dX12_comesOf_54 : decode cX12_comesOf 54 = .ok (.bipush 6, 2) := by decide +kernel
theorem dX12_comesOf_56 : decode cX12_comesOf 56 = .ok (.iaload, 1) := by decide +kernel
theorem dX12_comesOf_57 : decode cX12_comesOf 57 = .ok (.iastore, 1) := by decide +kernel
theorem dX12_comesOf_58 : decode cX12_comesOf 58 = .ok (.aload_n 0, 1) := by decide +kernel
theorem dX12_comesOf_59 : decode cX12_comesOf 59 = .ok (.iload_n 1, 1) := by decide +kernel
theorem dX12_comesOf_60 : decode cX12_comesOf 60 = .ok (.iconst 0, 1) := by decide +kernel
theorem dX12_comesOf_61 : decode cX12_comesOf 61 = .ok (.invokevirtual 95, 3) := by decide +kernel
theorem dX12_comesOf_64 : decode cX12_comesOf 64 = .ok (.aload_n 0, 1) := by decide +kernel
theorem dX12_comesOf_65 : decode cX12_comesOf 65 = .ok (.iload_n 1, 1) := by decide +kernel
theorem dX12_comesOf_66 : decode cX12_comesOf 66 = .ok (.iconst 1, 1) := by decide +kernel
theorem dX12_comesOf_67 : decode cX12_comesOf 67 = .ok (.invokevirtual 95, 3) := by decide +kernel
theorem dX12_comesOf_70 : decode cX12_comesOf 70 = .ok (.imul, 1) := by decide +kernel
theorem dX12_comesOf_71 : decode cX12_comesOf 71 = .ok (.bipush 100, 2) := by decide +kernel
theorem dX12_comesOf_73 : decode cX12_comesOf 73 = .ok (.idiv, 1) := by decide +kernel
theorem dX12_comesOf_74 : decode cX12_comesOf 74 = .ok (.bipush 10, 2) := by decide +kernel
theorem dX12_comesOf_76 : decode cX12_comesOf 76 = .ok (.iload_n 2, 1) := by decide +kernel
theorem dX12_comesOf_77 : decode cX12_comesOf 77 = .ok (.aload_n 0, 1) := by decide +kernel
theorem dX12_comesOf_78 : decode cX12_comesOf 78 = .ok (.getfield 9, 3) := by decide +kernel
theorem dX12_comesOf_81 : decode cX12_comesOf 81 = .ok (.bipush 6, 2) := by decide +kernel
theorem dX12_comesOf_83 : decode cX12_comesOf 83 = .ok (.iaload, 1) := by decide +kernel
theorem dX12_comesOf_84 : decode cX12_comesOf 84 = .ok (.isub, 1) := by decide +kernel
theorem dX12_comesOf_85 : decode cX12_comesOf 85 = .ok (.iconst 0, 1) := by decide +kernel
theorem dX12_comesOf_86 : decode cX12_comesOf 86 = .ok (.bipush 99, 2) := by decide +kernel
theorem dX12_comesOf_88 : decode cX12_comesOf 88 = .ok (.invokestatic 98, 3) := by decide +kernel
theorem dX12_comesOf_91 : decode cX12_comesOf 91 = .ok (.imul, 1) := by decide +kernel
theorem dX12_comesOf_92 : decode cX12_comesOf 92 = .ok (.isub, 1) := by decide +kernel
theorem dX12_comesOf_93 : decode cX12_comesOf 93 = .ok (.istore 4, 2) := by decide +kernel
theorem dX12_comesOf_95 : decode cX12_comesOf 95 = .ok (.iload_n 3, 1) := by decide +kernel
theorem dX12_comesOf_96 : decode cX12_comesOf 96 = .ok (.ifCond .ge 8, 3) := by decide +kernel
theorem dX12_comesOf_99 : decode cX12_comesOf 99 = .ok (.iload 4, 2) := by decide +kernel
theorem dX12_comesOf_101 : decode cX12_comesOf 101 = .ok (.goto 8, 3) := by decide +kernel
theorem dX12_comesOf_104 : decode cX12_comesOf 104 = .ok (.aload_n 0, 1) := by decide +kernel
theorem dX12_comesOf_105 : decode cX12_comesOf 105 = .ok (.iload_n 3, 1) := by decide +kernel
theorem dX12_comesOf_106 : decode cX12_comesOf 106 = .ok (.invokevirtual 102, 3) := by decide +kernel
theorem dX12_comesOf_109 : decode cX12_comesOf 109 = .ok (.iconst 0, 1) := by decide +kernel
theorem dX12_comesOf_110 : decode cX12_comesOf 110 = .ok (.bipush 100, 2) := by decide +kernel
theorem dX12_comesOf_112 : decode cX12_comesOf 112 = .ok (.invokestatic 98, 3) := by decide +kernel
theorem dX12_comesOf_115 : decode cX12_comesOf 115 = .ok (.ireturn, 1) := by decide +kernel
theorem dX12_houseTold_0 : decode cX12_houseTold 0 = .ok (.aload_n 0, 1) := by decide +kernel
theorem dX12_houseTold_1 : decode cX12_houseTold 1 = .ok (.iload_n 1, 1) := by decide +kernel
theorem dX12_houseTold_2 : decode cX12_houseTold 2 = .ok (.invokevirtual 105, 3) := by decide +kernel
theorem dX12_houseTold_5 : decode cX12_houseTold 5 = .ok (.ifCond .ne 6, 3) := by decide +kernel
theorem dX12_houseTold_8 : decode cX12_houseTold 8 = .ok (.ldc 78, 2) := by decide +kernel
theorem dX12_houseTold_10 : decode cX12_houseTold 10 = .ok (.ireturn, 1) := by decide +kernel
theorem dX12_houseTold_11 : decode cX12_houseTold 11 = .ok (.iload_n 2, 1) := by decide +kernel
theorem dX12_houseTold_12 : decode cX12_houseTold 12 = .ok (.tableswitch 76 0 5 #[40, 40, 47, 55, 63, 69], 40) := by decide +kernel
theorem dX12_houseTold_52 : decode cX12_houseTold 52 = .ok (.aload_n 0, 1) := by decide +kernel
theorem dX12_houseTold_53 : decode cX12_houseTold 53 = .ok (.iload_n 1, 1) := by decide +kernel
theorem dX12_houseTold_54 : decode cX12_houseTold 54 = .ok (.iload_n 2, 1) := by decide +kernel
theorem dX12_houseTold_55 : decode cX12_houseTold 55 = .ok (.invokevirtual 95, 3) := by decide +kernel
theorem dX12_houseTold_58 : decode cX12_houseTold 58 = .ok (.ireturn, 1) := by decide +kernel
theorem dX12_houseTold_59 : decode cX12_houseTold 59 = .ok (.aload_n 0, 1) := by decide +kernel
theorem dX12_houseTold_60 : decode cX12_houseTold 60 = .ok (.iload_n 1, 1) := by decide +kernel
theorem dX12_houseTold_61 : decode cX12_houseTold 61 = .ok (.iconst (-1), 1) := by decide +kernel
theorem dX12_houseTold_62 : decode cX12_houseTold 62 = .ok (.iconst 0, 1) := by decide +kernel
theorem dX12_houseTold_63 : decode cX12_houseTold 63 = .ok (.invokevirtual 87, 3) := by decide +kernel
theorem dX12_houseTold_66 : decode cX12_houseTold 66 = .ok (.ireturn, 1) := by decide +kernel
theorem dX12_houseTold_67 : decode cX12_houseTold 67 = .ok (.aload_n 0, 1) := by decide +kernel
theorem dX12_houseTold_68 : decode cX12_houseTold 68 = .ok (.iload_n 1, 1) := by decide +kernel
theorem dX12_houseTold_69 : decode cX12_houseTold 69 = .ok (.iconst (-1), 1) := by decide +kernel
theorem dX12_houseTold_70 : decode cX12_houseTold 70 = .ok (.iconst 1, 1) := by decide +kernel
theorem dX12_houseTold_71 : decode cX12_houseTold 71 = .ok (.invokevirtual 87, 3) := by decide +kernel
theorem dX12_houseTold_74 : decode cX12_houseTold 74 = .ok (.ireturn, 1) := by decide +kernel
theorem dX12_houseTold_75 : decode cX12_houseTold 75 = .ok (.aload_n 0, 1) := by decide +kernel
theorem dX12_houseTold_76 : decode cX12_houseTold 76 = .ok (.iload_n 1, 1) := by decide +kernel
theorem dX12_houseTold_77 : decode cX12_houseTold 77 = .ok (.invokevirtual 109, 3) := by decide +kernel
theorem dX12_houseTold_80 : decode cX12_houseTold 80 = .ok (.ireturn, 1) := by decide +kernel
theorem dX12_houseTold_81 : decode cX12_houseTold 81 = .ok (.aload_n 0, 1) := by decide +kernel
theorem dX12_houseTold_82 : decode cX12_houseTold 82 = .ok (.iload_n 1, 1) := by decide +kernel
theorem dX12_houseTold_83 : decode cX12_houseTold 83 = .ok (.iconst 2, 1) := by decide +kernel
theorem dX12_houseTold_84 : decode cX12_houseTold 84 = .ok (.invokevirtual 95, 3) := by decide +kernel
theorem dX12_houseTold_87 : decode cX12_houseTold 87 = .ok (.ireturn, 1) := by decide +kernel
theorem dX12_houseTold_88 : decode cX12_houseTold 88 = .ok (.ldc 78, 2) := by decide +kernel
theorem dX12_houseTold_90 : decode cX12_houseTold 90 = .ok (.ireturn, 1) := by decide +kernel
theorem dX12_change_0 : decode cX12_change 0 = .ok (.aload_n 0, 1) := by decide +kernel
theorem dX12_change_1 : decode cX12_change 1 = .ok (.iload_n 1, 1) := by decide +kernel
theorem dX12_change_2 : decode cX12_change 2 = .ok (.invokevirtual 105, 3) := by decide +kernel
theorem dX12_change_5 : decode cX12_change 5 = .ok (.ifCond .eq 38, 3) := by decide +kernel
theorem dX12_change_8 : decode cX12_change 8 = .ok (.iload_n 2, 1) := by decide +kernel
theorem dX12_change_9 : decode cX12_change 9 = .ok (.iconst 0, 1) := by decide +kernel
theorem dX12_change_10 : decode cX12_change 10 = .ok (.iconst 1, 1) := by decide +kernel
theorem dX12_change_11 : decode cX12_change 11 = .ok (.invokestatic 73, 3) := by decide +kernel
theorem dX12_change_14 : decode cX12_change 14 = .ok (.ifCond .eq 29, 3) := by decide +kernel
theorem dX12_change_17 : decode cX12_change 17 = .ok (.iload_n 3, 1) := by decide +kernel
theorem dX12_change_18 : decode cX12_change 18 = .ok (.iconst 0, 1) := by decide +kernel
theorem dX12_change_19 : decode cX12_change 19 = .ok (.bipush 100, 2) := by decide +kernel
theorem dX12_change_21 : decode cX12_change 21 = .ok (.invokestatic 73, 3) := by decide +kernel
theorem dX12_change_24 : decode cX12_change 24 = .ok (.ifCond .eq 19, 3) := by decide +kernel
theorem dX12_change_27 : decode cX12_change 27 = .ok (.aload_n 0, 1) := by decide +kernel
theorem dX12_change_28 : decode cX12_change 28 = .ok (.bipush 8, 2) := by decide +kernel
theorem dX12_change_30 : decode cX12_change 30 = .ok (.iconst 3, 1) := by decide +kernel
theorem dX12_change_31 : decode cX12_change 31 = .ok (.iload_n 1, 1) := by decide +kernel
theorem dX12_change_32 : decode cX12_change 32 = .ok (.imul, 1) := by decide +kernel
theorem dX12_change_33 : decode cX12_change 33 = .ok (.iadd, 1) := by decide +kernel
theorem dX12_change_34 : decode cX12_change 34 = .ok (.iload_n 2, 1) := by decide +kernel
theorem dX12_change_35 : decode cX12_change 35 = .ok (.iadd, 1) := by decide +kernel
theorem dX12_change_36 : decode cX12_change 36 = .ok (.iload_n 3, 1) := by decide +kernel
theorem dX12_change_37 : decode cX12_change 37 = .ok (.invokevirtual 112, 3) := by decide +kernel
theorem dX12_change_40 : decode cX12_change 40 = .ok (.goto 5, 3) := by decide +kernel
theorem dX12_change_43 : decode cX12_change 43 = .ok (.ldc 78, 2) := by decide +kernel
theorem dX12_change_45 : decode cX12_change 45 = .ok (.ireturn, 1) := by decide +kernel
theorem dX12_doAgree_0 : decode cX12_doAgree 0 = .ok (.aload_n 0, 1) := by decide +kernel
theorem dX12_doAgree_1 : decode cX12_doAgree 1 = .ok (.iload_n 1, 1) := by decide +kernel
theorem dX12_doAgree_2 : decode cX12_doAgree 2 = .ok (.iconst 2, 1) := by decide +kernel
theorem dX12_doAgree_3 : decode cX12_doAgree 3 = .ok (.invokevirtual 95, 3) := by decide +kernel
theorem dX12_doAgree_6 : decode cX12_doAgree 6 = .ok (.iload_n 2, 1) := by decide +kernel
theorem dX12_doAgree_7 : decode cX12_doAgree 7 = .ok (.ishr, 1) := by decide +kernel
theorem dX12_doAgree_8 : decode cX12_doAgree 8 = .ok (.iconst 1, 1) := by decide +kernel
theorem dX12_doAgree_9 : decode cX12_doAgree 9 = .ok (.iand, 1) := by decide +kernel
theorem dX12_doAgree_10 : decode cX12_doAgree 10 = .ok (.iconst 1, 1) := by decide +kernel
theorem dX12_doAgree_11 : decode cX12_doAgree 11 = .ok (.if_icmp .ne 7, 3) := by decide +kernel
theorem dX12_doAgree_14 : decode cX12_doAgree 14 = .ok (.iconst 1, 1) := by decide +kernel
theorem dX12_doAgree_15 : decode cX12_doAgree 15 = .ok (.goto 4, 3) := by decide +kernel
theorem dX12_doAgree_18 : decode cX12_doAgree 18 = .ok (.iconst 0, 1) := by decide +kernel
theorem dX12_doAgree_19 : decode cX12_doAgree 19 = .ok (.ireturn, 1) := by decide +kernel
theorem dX12_agree_0 : decode cX12_agree 0 = .ok (.aload_n 0, 1) := by decide +kernel
theorem dX12_agree_1 : decode cX12_agree 1 = .ok (.iload_n 1, 1) := by decide +kernel
theorem dX12_agree_2 : decode cX12_agree 2 = .ok (.invokevirtual 105, 3) := by decide +kernel
theorem dX12_agree_5 : decode cX12_agree 5 = .ok (.ifCond .eq 25, 3) := by decide +kernel
theorem dX12_agree_8 : decode cX12_agree 8 = .ok (.aload_n 0, 1) := by decide +kernel
theorem dX12_agree_9 : decode cX12_agree 9 = .ok (.iload_n 2, 1) := by decide +kernel
theorem dX12_agree_10 : decode cX12_agree 10 = .ok (.invokevirtual 105, 3) := by decide +kernel
theorem dX12_agree_13 : decode cX12_agree 13 = .ok (.ifCond .eq 17, 3) := by decide +kernel
theorem dX12_agree_16 : decode cX12_agree 16 = .ok (.iload_n 1, 1) := by decide +kernel
theorem dX12_agree_17 : decode cX12_agree 17 = .ok (.iload_n 2, 1) := by decide +kernel
theorem dX12_agree_18 : decode cX12_agree 18 = .ok (.if_icmp .eq 12, 3) := by decide +kernel
theorem dX12_agree_21 : decode cX12_agree 21 = .ok (.iload_n 3, 1) := by decide +kernel
theorem dX12_agree_22 : decode cX12_agree 22 = .ok (.iconst 0, 1) := by decide +kernel
theorem dX12_agree_23 : decode cX12_agree 23 = .ok (.iconst 1, 1) := by decide +kernel
theorem dX12_agree_24 : decode cX12_agree 24 = .ok (.invokestatic 73, 3) := by decide +kernel
theorem dX12_agree_27 : decode cX12_agree 27 = .ok (.ifCond .ne 6, 3) := by decide +kernel
theorem dX12_agree_30 : decode cX12_agree 30 = .ok (.ldc 78, 2) := by decide +kernel
theorem dX12_agree_32 : decode cX12_agree 32 = .ok (.ireturn, 1) := by decide +kernel
theorem dX12_agree_33 : decode cX12_agree 33 = .ok (.aload_n 0, 1) := by decide +kernel
theorem dX12_agree_34 : decode cX12_agree 34 = .ok (.iload_n 1, 1) := by decide +kernel
theorem dX12_agree_35 : decode cX12_agree 35 = .ok (.iload_n 2, 1) := by decide +kernel
theorem dX12_agree_36 : decode cX12_agree 36 = .ok (.invokevirtual 115, 3) := by decide +kernel
theorem dX12_agree_39 : decode cX12_agree 39 = .ok (.ifCond .eq 7, 3) := by decide +kernel
theorem dX12_agree_42 : decode cX12_agree 42 = .ok (.iconst 1, 1) := by decide +kernel
theorem dX12_agree_43 : decode cX12_agree 43 = .ok (.goto 4, 3) := by decide +kernel
theorem dX12_agree_46 : decode cX12_agree 46 = .ok (.iconst 0, 1) := by decide +kernel
theorem dX12_agree_47 : decode cX12_agree 47 = .ok (.istore 4, 2) := by decide +kernel
theorem dX12_agree_49 : decode cX12_agree 49 = .ok (.iload 4, 2) := by decide +kernel
theorem dX12_agree_51 : decode cX12_agree 51 = .ok (.iload_n 3, 1) := by decide +kernel
theorem dX12_agree_52 : decode cX12_agree 52 = .ok (.if_icmp .eq 41, 3) := by decide +kernel
theorem dX12_agree_55 : decode cX12_agree 55 = .ok (.aload_n 0, 1) := by decide +kernel
theorem dX12_agree_56 : decode cX12_agree 56 = .ok (.getfield 9, 3) := by decide +kernel
theorem dX12_agree_59 : decode cX12_agree 59 = .ok (.bipush 8, 2) := by decide +kernel
theorem dX12_agree_61 : decode cX12_agree 61 = .ok (.iconst 3, 1) := by decide +kernel
theorem dX12_agree_62 : decode cX12_agree 62 = .ok (.iload_n 1, 1) := by decide +kernel
theorem dX12_agree_63 : decode cX12_agree 63 = .ok (.imul, 1) := by decide +kernel
end
section
theorem dX12_agree_64 : decode cX12_agree 64 = .ok (.iadd, 1) := by decide +kernel
theorem dX12_agree_65 : decode cX12_agree 65 = .ok (.iconst 2, 1) := by decide +kernel
theorem dX12_agree_66 : decode cX12_agree 66 = .ok (.iadd, 1) := by decide +kernel
theorem dX12_agree_67 : decode cX12_agree 67 = .ok (.dup2, 1) := by decide +kernel
theorem dX12_agree_68 : decode cX12_agree 68 = .ok (.iaload, 1) := by decide +kernel
theorem dX12_agree_69 : decode cX12_agree 69 = .ok (.iconst 1, 1) := by decide +kernel
theorem dX12_agree_70 : decode cX12_agree 70 = .ok (.iload_n 2, 1) := by decide +kernel
theorem dX12_agree_71 : decode cX12_agree 71 = .ok (.ishl, 1) := by decide +kernel
theorem dX12_agree_72 : decode cX12_agree 72 = .ok (.ixor, 1) := by decide +kernel
theorem dX12_agree_73 : decode cX12_agree 73 = .ok (.iastore, 1) := by decide +kernel
theorem dX12_agree_74 : decode cX12_agree 74 = .ok (.aload_n 0, 1) := by decide +kernel
theorem dX12_agree_75 : decode cX12_agree 75 = .ok (.getfield 9, 3) := by decide +kernel
theorem dX12_agree_78 : decode cX12_agree 78 = .ok (.bipush 8, 2) := by decide +kernel
theorem dX12_agree_80 : decode cX12_agree 80 = .ok (.iconst 3, 1) := by decide +kernel
theorem dX12_agree_81 : decode cX12_agree 81 = .ok (.iload_n 2, 1) := by decide +kernel
theorem dX12_agree_82 : decode cX12_agree 82 = .ok (.imul, 1) := by decide +kernel
theorem dX12_agree_83 : decode cX12_agree 83 = .ok (.iadd, 1) := by decide +kernel
theorem dX12_agree_84 : decode cX12_agree 84 = .ok (.iconst 2, 1) := by decide +kernel
theorem dX12_agree_85 : decode cX12_agree 85 = .ok (.iadd, 1) := by decide +kernel
theorem dX12_agree_86 : decode cX12_agree 86 = .ok (.dup2, 1) := by decide +kernel
theorem dX12_agree_87 : decode cX12_agree 87 = .ok (.iaload, 1) := by decide +kernel
theorem dX12_agree_88 : decode cX12_agree 88 = .ok (.iconst 1, 1) := by decide +kernel
theorem dX12_agree_89 : decode cX12_agree 89 = .ok (.iload_n 1, 1) := by decide +kernel
theorem dX12_agree_90 : decode cX12_agree 90 = .ok (.ishl, 1) := by decide +kernel
theorem dX12_agree_91 : decode cX12_agree 91 = .ok (.ixor, 1) := by decide +kernel
theorem dX12_agree_92 : decode cX12_agree 92 = .ok (.iastore, 1) := by decide +kernel
theorem dX12_agree_93 : decode cX12_agree 93 = .ok (.iload 4, 2) := by decide +kernel
theorem dX12_agree_95 : decode cX12_agree 95 = .ok (.ireturn, 1) := by decide +kernel
theorem dX12_patience_0 : decode cX12_patience 0 = .ok (.iload_n 1, 1) := by decide +kernel
theorem dX12_patience_1 : decode cX12_patience 1 = .ok (.iconst 0, 1) := by decide +kernel
theorem dX12_patience_2 : decode cX12_patience 2 = .ok (.bipush 24, 2) := by decide +kernel
theorem dX12_patience_4 : decode cX12_patience 4 = .ok (.invokestatic 73, 3) := by decide +kernel
theorem dX12_patience_7 : decode cX12_patience 7 = .ok (.ifCond .eq 13, 3) := by decide +kernel
theorem dX12_patience_10 : decode cX12_patience 10 = .ok (.aload_n 0, 1) := by decide +kernel
theorem dX12_patience_11 : decode cX12_patience 11 = .ok (.bipush 6, 2) := by decide +kernel
theorem dX12_patience_13 : decode cX12_patience 13 = .ok (.iload_n 1, 1) := by decide +kernel
theorem dX12_patience_14 : decode cX12_patience 14 = .ok (.invokevirtual 112, 3) := by decide +kernel
theorem dX12_patience_17 : decode cX12_patience 17 = .ok (.goto 5, 3) := by decide +kernel
theorem dX12_patience_20 : decode cX12_patience 20 = .ok (.ldc 78, 2) := by decide +kernel
theorem dX12_patience_22 : decode cX12_patience 22 = .ok (.ireturn, 1) := by decide +kernel
theorem dX12_deal_0 : decode cX12_deal 0 = .ok (.iload_n 1, 1) := by decide +kernel
theorem dX12_deal_1 : decode cX12_deal 1 = .ok (.iconst 1, 1) := by decide +kernel
theorem dX12_deal_2 : decode cX12_deal 2 = .ok (.bipush 10, 2) := by decide +kernel
theorem dX12_deal_4 : decode cX12_deal 4 = .ok (.invokestatic 73, 3) := by decide +kernel
theorem dX12_deal_7 : decode cX12_deal 7 = .ok (.ifCond .ne 6, 3) := by decide +kernel
theorem dX12_deal_10 : decode cX12_deal 10 = .ok (.ldc 78, 2) := by decide +kernel
theorem dX12_deal_12 : decode cX12_deal 12 = .ok (.ireturn, 1) := by decide +kernel
theorem dX12_deal_13 : decode cX12_deal 13 = .ok (.iconst 0, 1) := by decide +kernel
theorem dX12_deal_14 : decode cX12_deal 14 = .ok (.istore_n 2, 1) := by decide +kernel
theorem dX12_deal_15 : decode cX12_deal 15 = .ok (.iload_n 2, 1) := by decide +kernel
theorem dX12_deal_16 : decode cX12_deal 16 = .ok (.iload_n 1, 1) := by decide +kernel
theorem dX12_deal_17 : decode cX12_deal 17 = .ok (.if_icmp .ge 42, 3) := by decide +kernel
theorem dX12_deal_20 : decode cX12_deal 20 = .ok (.aload_n 0, 1) := by decide +kernel
theorem dX12_deal_21 : decode cX12_deal 21 = .ok (.getfield 9, 3) := by decide +kernel
theorem dX12_deal_24 : decode cX12_deal 24 = .ok (.iconst 1, 1) := by decide +kernel
theorem dX12_deal_25 : decode cX12_deal 25 = .ok (.iaload, 1) := by decide +kernel
theorem dX12_deal_26 : decode cX12_deal 26 = .ok (.bipush 10, 2) := by decide +kernel
theorem dX12_deal_28 : decode cX12_deal 28 = .ok (.if_icmp .ge 31, 3) := by decide +kernel
theorem dX12_deal_31 : decode cX12_deal 31 = .ok (.aload_n 0, 1) := by decide +kernel
theorem dX12_deal_32 : decode cX12_deal 32 = .ok (.invokevirtual 119, 3) := by decide +kernel
theorem dX12_deal_35 : decode cX12_deal 35 = .ok (.bipush 101, 2) := by decide +kernel
theorem dX12_deal_37 : decode cX12_deal 37 = .ok (.irem, 1) := by decide +kernel
theorem dX12_deal_38 : decode cX12_deal 38 = .ok (.istore_n 3, 1) := by decide +kernel
theorem dX12_deal_39 : decode cX12_deal 39 = .ok (.aload_n 0, 1) := by decide +kernel
theorem dX12_deal_40 : decode cX12_deal 40 = .ok (.iload_n 3, 1) := by decide +kernel
theorem dX12_deal_41 : decode cX12_deal 41 = .ok (.aload_n 0, 1) := by decide +kernel
theorem dX12_deal_42 : decode cX12_deal 42 = .ok (.invokevirtual 119, 3) := by decide +kernel
theorem dX12_deal_45 : decode cX12_deal 45 = .ok (.bipush 101, 2) := by decide +kernel
theorem dX12_deal_47 : decode cX12_deal 47 = .ok (.irem, 1) := by decide +kernel
theorem dX12_deal_48 : decode cX12_deal 48 = .ok (.invokevirtual 80, 3) := by decide +kernel
theorem dX12_deal_51 : decode cX12_deal 51 = .ok (.istore 4, 2) := by decide +kernel
theorem dX12_deal_53 : decode cX12_deal 53 = .ok (.iinc 2 1, 3) := by decide +kernel
theorem dX12_deal_56 : decode cX12_deal 56 = .ok (.goto (-41), 3) := by decide +kernel
theorem dX12_deal_59 : decode cX12_deal 59 = .ok (.iload_n 2, 1) := by decide +kernel
theorem dX12_deal_60 : decode cX12_deal 60 = .ok (.ireturn, 1) := by decide +kernel
theorem dX12_door_0 : decode cX12_door 0 = .ok (.aload_n 0, 1) := by decide +kernel
theorem dX12_door_1 : decode cX12_door 1 = .ok (.iload_n 1, 1) := by decide +kernel
theorem dX12_door_2 : decode cX12_door 2 = .ok (.invokevirtual 105, 3) := by decide +kernel
theorem dX12_door_5 : decode cX12_door 5 = .ok (.ifCond .eq 14, 3) := by decide +kernel
theorem dX12_door_8 : decode cX12_door 8 = .ok (.iload_n 2, 1) := by decide +kernel
theorem dX12_door_9 : decode cX12_door 9 = .ok (.iconst 0, 1) := by decide +kernel
theorem dX12_door_10 : decode cX12_door 10 = .ok (.sipush 999, 3) := by decide +kernel
theorem dX12_door_13 : decode cX12_door 13 = .ok (.invokestatic 73, 3) := by decide +kernel
theorem dX12_door_16 : decode cX12_door 16 = .ok (.ifCond .ne 6, 3) := by decide +kernel
theorem dX12_door_19 : decode cX12_door 19 = .ok (.ldc 78, 2) := by decide +kernel
theorem dX12_door_21 : decode cX12_door 21 = .ok (.ireturn, 1) := by decide +kernel
theorem dX12_door_22 : decode cX12_door 22 = .ok (.aload_n 0, 1) := by decide +kernel
theorem dX12_door_23 : decode cX12_door 23 = .ok (.getfield 9, 3) := by decide +kernel
theorem dX12_door_26 : decode cX12_door 26 = .ok (.iconst 2, 1) := by decide +kernel
theorem dX12_door_27 : decode cX12_door 27 = .ok (.iaload, 1) := by decide +kernel
theorem dX12_door_28 : decode cX12_door 28 = .ok (.bipush 12, 2) := by decide +kernel
theorem dX12_door_30 : decode cX12_door 30 = .ok (.if_icmp .ne 6, 3) := by decide +kernel
theorem dX12_door_33 : decode cX12_door 33 = .ok (.ldc 79, 2) := by decide +kernel
theorem dX12_door_35 : decode cX12_door 35 = .ok (.ireturn, 1) := by decide +kernel
theorem dX12_door_36 : decode cX12_door 36 = .ok (.bipush 38, 2) := by decide +kernel
theorem dX12_door_38 : decode cX12_door 38 = .ok (.iconst 5, 1) := by decide +kernel
theorem dX12_door_39 : decode cX12_door 39 = .ok (.aload_n 0, 1) := by decide +kernel
theorem dX12_door_40 : decode cX12_door 40 = .ok (.getfield 9, 3) := by decide +kernel
theorem dX12_door_43 : decode cX12_door 43 = .ok (.iconst 2, 1) := by decide +kernel
theorem dX12_door_44 : decode cX12_door 44 = .ok (.iaload, 1) := by decide +kernel
theorem dX12_door_45 : decode cX12_door 45 = .ok (.imul, 1) := by decide +kernel
theorem dX12_door_46 : decode cX12_door 46 = .ok (.iadd, 1) := by decide +kernel
theorem dX12_door_47 : decode cX12_door 47 = .ok (.istore_n 3, 1) := by decide +kernel
theorem dX12_door_48 : decode cX12_door 48 = .ok (.aload_n 0, 1) := by decide +kernel
theorem dX12_door_49 : decode cX12_door 49 = .ok (.getfield 9, 3) := by decide +kernel
theorem dX12_door_52 : decode cX12_door 52 = .ok (.iload_n 3, 1) := by decide +kernel
theorem dX12_door_53 : decode cX12_door 53 = .ok (.iload_n 1, 1) := by decide +kernel
theorem dX12_door_54 : decode cX12_door 54 = .ok (.iastore, 1) := by decide +kernel
theorem dX12_door_55 : decode cX12_door 55 = .ok (.aload_n 0, 1) := by decide +kernel
theorem dX12_door_56 : decode cX12_door 56 = .ok (.getfield 9, 3) := by decide +kernel
theorem dX12_door_59 : decode cX12_door 59 = .ok (.iload_n 3, 1) := by decide +kernel
theorem dX12_door_60 : decode cX12_door 60 = .ok (.iconst 1, 1) := by decide +kernel
theorem dX12_door_61 : decode cX12_door 61 = .ok (.iadd, 1) := by decide +kernel
theorem dX12_door_62 : decode cX12_door 62 = .ok (.iload_n 2, 1) := by decide +kernel
theorem dX12_door_63 : decode cX12_door 63 = .ok (.iastore, 1) := by decide +kernel
theorem dX12_door_64 : decode cX12_door 64 = .ok (.aload_n 0, 1) := by decide +kernel
theorem dX12_door_65 : decode cX12_door 65 = .ok (.getfield 9, 3) := by decide +kernel
theorem dX12_door_68 : decode cX12_door 68 = .ok (.iload_n 3, 1) := by decide +kernel
theorem dX12_door_69 : decode cX12_door 69 = .ok (.iconst 2, 1) := by decide +kernel
theorem dX12_door_70 : decode cX12_door 70 = .ok (.iadd, 1) := by decide +kernel
theorem dX12_door_71 : decode cX12_door 71 = .ok (.iconst 1, 1) := by decide +kernel
theorem dX12_door_72 : decode cX12_door 72 = .ok (.iastore, 1) := by decide +kernel
theorem dX12_door_73 : decode cX12_door 73 = .ok (.aload_n 0, 1) := by decide +kernel
theorem dX12_door_74 : decode cX12_door 74 = .ok (.getfield 9, 3) := by decide +kernel
theorem dX12_door_77 : decode cX12_door 77 = .ok (.iload_n 3, 1) := by decide +kernel
theorem dX12_door_78 : decode cX12_door 78 = .ok (.iconst 3, 1) := by decide +kernel
theorem dX12_door_79 : decode cX12_door 79 = .ok (.iadd, 1) := by decide +kernel
theorem dX12_door_80 : decode cX12_door 80 = .ok (.iconst (-1), 1) := by decide +kernel
theorem dX12_door_81 : decode cX12_door 81 = .ok (.iastore, 1) := by decide +kernel
theorem dX12_door_82 : decode cX12_door 82 = .ok (.aload_n 0, 1) := by decide +kernel
theorem dX12_door_83 : decode cX12_door 83 = .ok (.getfield 9, 3) := by decide +kernel
theorem dX12_door_86 : decode cX12_door 86 = .ok (.iload_n 3, 1) := by decide +kernel
theorem dX12_door_87 : decode cX12_door 87 = .ok (.iconst 3, 1) := by decide +kernel
theorem dX12_door_88 : decode cX12_door 88 = .ok (.iadd, 1) := by decide +kernel
theorem dX12_door_89 : decode cX12_door 89 = .ok (.iconst 1, 1) := by decide +kernel
theorem dX12_door_90 : decode cX12_door 90 = .ok (.iadd, 1) := by decide +kernel
theorem dX12_door_91 : decode cX12_door 91 = .ok (.iconst (-1), 1) := by decide +kernel
theorem dX12_door_92 : decode cX12_door 92 = .ok (.iastore, 1) := by decide +kernel
theorem dX12_door_93 : decode cX12_door 93 = .ok (.aload_n 0, 1) := by decide +kernel
theorem dX12_door_94 : decode cX12_door 94 = .ok (.getfield 9, 3) := by decide +kernel
theorem dX12_door_97 : decode cX12_door 97 = .ok (.iconst 2, 1) := by decide +kernel
theorem dX12_door_98 : decode cX12_door 98 = .ok (.dup2, 1) := by decide +kernel
theorem dX12_door_99 : decode cX12_door 99 = .ok (.iaload, 1) := by decide +kernel
theorem dX12_door_100 : decode cX12_door 100 = .ok (.iconst 1, 1) := by decide +kernel
theorem dX12_door_101 : decode cX12_door 101 = .ok (.iadd, 1) := by decide +kernel
theorem dX12_door_102 : decode cX12_door 102 = .ok (.iastore, 1) := by decide +kernel
theorem dX12_door_103 : decode cX12_door 103 = .ok (.aload_n 0, 1) := by decide +kernel
theorem dX12_door_104 : decode cX12_door 104 = .ok (.getfield 9, 3) := by decide +kernel
theorem dX12_door_107 : decode cX12_door 107 = .ok (.iconst 2, 1) := by decide +kernel
theorem dX12_door_108 : decode cX12_door 108 = .ok (.iaload, 1) := by decide +kernel
theorem dX12_door_109 : decode cX12_door 109 = .ok (.iconst 1, 1) := by decide +kernel
theorem dX12_door_110 : decode cX12_door 110 = .ok (.isub, 1) := by decide +kernel
theorem dX12_door_111 : decode cX12_door 111 = .ok (.ireturn, 1) := by decide +kernel
theorem dX12_isLawfulWith_0 : decode cX12_isLawfulWith 0 = .ok (.aload_n 0, 1) := by decide +kernel
theorem dX12_isLawfulWith_1 : decode cX12_isLawfulWith 1 = .ok (.iload_n 1, 1) := by decide +kernel
theorem dX12_isLawfulWith_2 : decode cX12_isLawfulWith 2 = .ok (.iconst 0, 1) := by decide +kernel
theorem dX12_isLawfulWith_3 : decode cX12_isLawfulWith 3 = .ok (.invokevirtual 84, 3) := by decide +kernel
theorem dX12_isLawfulWith_6 : decode cX12_isLawfulWith 6 = .ok (.istore 4, 2) := by decide +kernel
theorem dX12_isLawfulWith_8 : decode cX12_isLawfulWith 8 = .ok (.iload_n 2, 1) := by decide +kernel
theorem dX12_isLawfulWith_9 : decode cX12_isLawfulWith 9 = .ok (.ifCond .lt 33, 3) := by decide +kernel
theorem dX12_isLawfulWith_12 : decode cX12_isLawfulWith 12 = .ok (.iload_n 3, 1) := by decide +kernel
theorem dX12_isLawfulWith_13 : decode cX12_isLawfulWith 13 = .ok (.ifCond .lt 29, 3) := by decide +kernel
theorem dX12_isLawfulWith_16 : decode cX12_isLawfulWith 16 = .ok (.iload_n 2, 1) := by decide +kernel
theorem dX12_isLawfulWith_17 : decode cX12_isLawfulWith 17 = .ok (.iload_n 3, 1) := by decide +kernel
theorem dX12_isLawfulWith_18 : decode cX12_isLawfulWith 18 = .ok (.if_icmp .eq 24, 3) := by decide +kernel
theorem dX12_isLawfulWith_21 : decode cX12_isLawfulWith 21 = .ok (.iload_n 2, 1) := by decide +kernel
theorem dX12_isLawfulWith_22 : decode cX12_isLawfulWith 22 = .ok (.iload 4, 2) := by decide +kernel
theorem dX12_isLawfulWith_24 : decode cX12_isLawfulWith 24 = .ok (.if_icmp .eq 18, 3) := by decide +kernel
theorem dX12_isLawfulWith_27 : decode cX12_isLawfulWith 27 = .ok (.iload_n 3, 1) := by decide +kernel
theorem dX12_isLawfulWith_28 : decode cX12_isLawfulWith 28 = .ok (.iload 4, 2) := by decide +kernel
theorem dX12_isLawfulWith_30 : decode cX12_isLawfulWith 30 = .ok (.if_icmp .eq 12, 3) := by decide +kernel
theorem dX12_isLawfulWith_33 : decode cX12_isLawfulWith 33 = .ok (.aload_n 0, 1) := by decide +kernel
theorem dX12_isLawfulWith_34 : decode cX12_isLawfulWith 34 = .ok (.iload_n 2, 1) := by decide +kernel
theorem dX12_isLawfulWith_35 : decode cX12_isLawfulWith 35 = .ok (.iload_n 3, 1) := by decide +kernel
theorem dX12_isLawfulWith_36 : decode cX12_isLawfulWith 36 = .ok (.invokevirtual 115, 3) := by decide +kernel
theorem dX12_isLawfulWith_39 : decode cX12_isLawfulWith 39 = .ok (.ifCond .eq 5, 3) := by decide +kernel
theorem dX12_isLawfulWith_42 : decode cX12_isLawfulWith 42 = .ok (.iconst 0, 1) := by decide +kernel
theorem dX12_isLawfulWith_43 : decode cX12_isLawfulWith 43 = .ok (.ireturn, 1) := by decide +kernel
theorem dX12_isLawfulWith_44 : decode cX12_isLawfulWith 44 = .ok (.aload_n 0, 1) := by decide +kernel
theorem dX12_isLawfulWith_45 : decode cX12_isLawfulWith 45 = .ok (.iconst 2, 1) := by decide +kernel
theorem dX12_isLawfulWith_46 : decode cX12_isLawfulWith 46 = .ok (.invokevirtual 91, 3) := by decide +kernel
theorem dX12_isLawfulWith_49 : decode cX12_isLawfulWith 49 = .ok (.istore 5, 2) := by decide +kernel
theorem dX12_isLawfulWith_51 : decode cX12_isLawfulWith 51 = .ok (.aload_n 0, 1) := by decide +kernel
theorem dX12_isLawfulWith_52 : decode cX12_isLawfulWith 52 = .ok (.getfield 42, 3) := by decide +kernel
theorem dX12_isLawfulWith_55 : decode cX12_isLawfulWith 55 = .ok (.iconst 0, 1) := by decide +kernel
theorem dX12_isLawfulWith_56 : decode cX12_isLawfulWith 56 = .ok (.iload_n 2, 1) := by decide +kernel
theorem dX12_isLawfulWith_57 : decode cX12_isLawfulWith 57 = .ok (.iload_n 3, 1) := by decide +kernel
theorem dX12_isLawfulWith_58 : decode cX12_isLawfulWith 58 = .ok (.if_icmp .ge 7, 3) := by decide +kernel
theorem dX12_isLawfulWith_61 : decode cX12_isLawfulWith 61 = .ok (.iload_n 2, 1) := by decide +kernel
theorem dX12_isLawfulWith_62 : decode cX12_isLawfulWith 62 = .ok (.goto 4, 3) := by decide +kernel
theorem dX12_isLawfulWith_65 : decode cX12_isLawfulWith 65 = .ok (.iload_n 3, 1) := by decide +kernel
theorem dX12_isLawfulWith_66 : decode cX12_isLawfulWith 66 = .ok (.iastore, 1) := by decide +kernel
theorem dX12_isLawfulWith_67 : decode cX12_isLawfulWith 67 = .ok (.aload_n 0, 1) := by decide +kernel
theorem dX12_isLawfulWith_68 : decode cX12_isLawfulWith 68 = .ok (.getfield 42, 3) := by decide +kernel
theorem dX12_isLawfulWith_71 : decode cX12_isLawfulWith 71 = .ok (.iconst 1, 1) := by decide +kernel
theorem dX12_isLawfulWith_72 : decode cX12_isLawfulWith 72 = .ok (.iload_n 2, 1) := by decide +kernel
theorem dX12_isLawfulWith_73 : decode cX12_isLawfulWith 73 = .ok (.iload_n 3, 1) := by decide +kernel
theorem dX12_isLawfulWith_74 : decode cX12_isLawfulWith 74 = .ok (.if_icmp .ge 7, 3) := by decide +kernel
theorem dX12_isLawfulWith_77 : decode cX12_isLawfulWith 77 = .ok (.iload_n 3, 1) := by decide +kernel
theorem dX12_isLawfulWith_78 : decode cX12_isLawfulWith 78 = .ok (.goto 4, 3) := by decide +kernel
theorem dX12_isLawfulWith_81 : decode cX12_isLawfulWith 81 = .ok (.iload_n 2, 1) := by decide +kernel
theorem dX12_isLawfulWith_82 : decode cX12_isLawfulWith 82 = .ok (.iastore, 1) := by decide +kernel
theorem dX12_isLawfulWith_83 : decode cX12_isLawfulWith 83 = .ok (.aload_n 0, 1) := by decide +kernel
theorem dX12_isLawfulWith_84 : decode cX12_isLawfulWith 84 = .ok (.getfield 42, 3) := by decide +kernel
theorem dX12_isLawfulWith_87 : decode cX12_isLawfulWith 87 = .ok (.iconst 2, 1) := by decide +kernel
theorem dX12_isLawfulWith_88 : decode cX12_isLawfulWith 88 = .ok (.iload 4, 2) := by decide +kernel
theorem dX12_isLawfulWith_90 : decode cX12_isLawfulWith 90 = .ok (.iastore, 1) := by decide +kernel
theorem dX12_isLawfulWith_91 : decode cX12_isLawfulWith 91 = .ok (.iload 5, 2) := by decide +kernel
theorem dX12_isLawfulWith_93 : decode cX12_isLawfulWith 93 = .ok (.ifCond .lt 12, 3) := by decide +kernel
theorem dX12_isLawfulWith_96 : decode cX12_isLawfulWith 96 = .ok (.aload_n 0, 1) := by decide +kernel
theorem dX12_isLawfulWith_97 : decode cX12_isLawfulWith 97 = .ok (.iload 5, 2) := by decide +kernel
theorem dX12_isLawfulWith_99 : decode cX12_isLawfulWith 99 = .ok (.invokevirtual 102, 3) := by decide +kernel
theorem dX12_isLawfulWith_102 : decode cX12_isLawfulWith 102 = .ok (.ifCond .eq 7, 3) := by decide +kernel
theorem dX12_isLawfulWith_105 : decode cX12_isLawfulWith 105 = .ok (.iconst 1, 1) := by decide +kernel
theorem dX12_isLawfulWith_106 : decode cX12_isLawfulWith 106 = .ok (.goto 4, 3) := by decide +kernel
theorem dX12_isLawfulWith_109 : decode cX12_isLawfulWith 109 = .ok (.iconst 0, 1) := by decide +kernel
theorem dX12_isLawfulWith_110 : decode cX12_isLawfulWith 110 = .ok (.ireturn, 1) := by decide +kernel
theorem dX12_isLawful_0 : decode cX12_isLawful 0 = .ok (.aload_n 0, 1) := by decide +kernel
theorem dX12_isLawful_1 : decode cX12_isLawful 1 = .ok (.iload_n 1, 1) := by decide +kernel
theorem dX12_isLawful_2 : decode cX12_isLawful 2 = .ok (.aload_n 0, 1) := by decide +kernel
theorem dX12_isLawful_3 : decode cX12_isLawful 3 = .ok (.iload_n 1, 1) := by decide +kernel
theorem dX12_isLawful_4 : decode cX12_isLawful 4 = .ok (.iconst 3, 1) := by decide +kernel
theorem dX12_isLawful_5 : decode cX12_isLawful 5 = .ok (.invokevirtual 84, 3) := by decide +kernel
theorem dX12_isLawful_8 : decode cX12_isLawful 8 = .ok (.aload_n 0, 1) := by decide +kernel
theorem dX12_isLawful_9 : decode cX12_isLawful 9 = .ok (.iload_n 1, 1) := by decide +kernel
theorem dX12_isLawful_10 : decode cX12_isLawful 10 = .ok (.iconst 4, 1) := by decide +kernel
theorem dX12_isLawful_11 : decode cX12_isLawful 11 = .ok (.invokevirtual 84, 3) := by decide +kernel
theorem dX12_isLawful_14 : decode cX12_isLawful 14 = .ok (.invokevirtual 123, 3) := by decide +kernel
theorem dX12_isLawful_17 : decode cX12_isLawful 17 = .ok (.ireturn, 1) := by decide +kernel
theorem dX12_doorTold_0 : decode cX12_doorTold 0 = .ok (.aload_n 0, 1) := by decide +kernel
theorem dX12_doorTold_1 : decode cX12_doorTold 1 = .ok (.iload_n 1, 1) := by decide +kernel
theorem dX12_doorTold_2 : decode cX12_doorTold 2 = .ok (.invokevirtual 126, 3) := by decide +kernel
theorem dX12_doorTold_5 : decode cX12_doorTold 5 = .ok (.ifCond .eq 12, 3) := by decide +kernel
theorem dX12_doorTold_8 : decode cX12_doorTold 8 = .ok (.iload_n 2, 1) := by decide +kernel
theorem dX12_doorTold_9 : decode cX12_doorTold 9 = .ok (.iconst 0, 1) := by decide +kernel
theorem dX12_doorTold_10 : decode cX12_doorTold 10 = .ok (.iconst 5, 1) := by decide +kernel
theorem dX12_doorTold_11 : decode cX12_doorTold 11 = .ok (.invokestatic 73, 3) := by decide +kernel
theorem dX12_doorTold_14 : decode cX12_doorTold 14 = .ok (.ifCond .ne 6, 3) := by decide +kernel
theorem dX12_doorTold_17 : decode cX12_doorTold 17 = .ok (.ldc 78, 2) := by decide +kernel
theorem dX12_doorTold_19 : decode cX12_doorTold 19 = .ok (.ireturn, 1) := by decide +kernel
theorem dX12_doorTold_20 : decode cX12_doorTold 20 = .ok (.iload_n 2, 1) := by decide +kernel
theorem dX12_doorTold_21 : decode cX12_doorTold 21 = .ok (.iconst 5, 1) := by decide +kernel
theorem dX12_doorTold_22 : decode cX12_doorTold 22 = .ok (.if_icmp .ne 17, 3) := by decide +kernel
theorem dX12_doorTold_25 : decode cX12_doorTold 25 = .ok (.aload_n 0, 1) := by decide +kernel
theorem dX12_doorTold_26 : decode cX12_doorTold 26 = .ok (.iload_n 1, 1) := by decide +kernel
theorem dX12_doorTold_27 : decode cX12_doorTold 27 = .ok (.invokevirtual 129, 3) := by decide +kernel
theorem dX12_doorTold_30 : decode cX12_doorTold 30 = .ok (.ifCond .eq 7, 3) := by decide +kernel
theorem dX12_doorTold_33 : decode cX12_doorTold 33 = .ok (.iconst 1, 1) := by decide +kernel
theorem dX12_doorTold_34 : decode cX12_doorTold 34 = .ok (.goto 4, 3) := by decide +kernel
theorem dX12_doorTold_37 : decode cX12_doorTold 37 = .ok (.iconst 0, 1) := by decide +kernel
theorem dX12_doorTold_38 : decode cX12_doorTold 38 = .ok (.ireturn, 1) := by decide +kernel
theorem dX12_doorTold_39 : decode cX12_doorTold 39 = .ok (.iload_n 2, 1) := by decide +kernel
theorem dX12_doorTold_40 : decode cX12_doorTold 40 = .ok (.iconst 3, 1) := by decide +kernel
theorem dX12_doorTold_41 : decode cX12_doorTold 41 = .ok (.if_icmp .ge 12, 3) := by decide +kernel
theorem dX12_doorTold_44 : decode cX12_doorTold 44 = .ok (.aload_n 0, 1) := by decide +kernel
theorem dX12_doorTold_45 : decode cX12_doorTold 45 = .ok (.iload_n 1, 1) := by decide +kernel
theorem dX12_doorTold_46 : decode cX12_doorTold 46 = .ok (.iload_n 2, 1) := by decide +kernel
theorem dX12_doorTold_47 : decode cX12_doorTold 47 = .ok (.invokevirtual 84, 3) := by decide +kernel
theorem dX12_doorTold_50 : decode cX12_doorTold 50 = .ok (.goto 12, 3) := by decide +kernel
theorem dX12_doorTold_53 : decode cX12_doorTold 53 = .ok (.aload_n 0, 1) := by decide +kernel
theorem dX12_doorTold_54 : decode cX12_doorTold 54 = .ok (.iload_n 1, 1) := by decide +kernel
theorem dX12_doorTold_55 : decode cX12_doorTold 55 = .ok (.iload_n 2, 1) := by decide +kernel
theorem dX12_doorTold_56 : decode cX12_doorTold 56 = .ok (.invokevirtual 84, 3) := by decide +kernel
theorem dX12_doorTold_59 : decode cX12_doorTold 59 = .ok (.invokestatic 132, 3) := by decide +kernel
theorem dX12_doorTold_62 : decode cX12_doorTold 62 = .ok (.ireturn, 1) := by decide +kernel
theorem dX12_set_0 : decode cX12_set 0 = .ok (.aload_n 0, 1) := by decide +kernel
theorem dX12_set_1 : decode cX12_set 1 = .ok (.iload_n 1, 1) := by decide +kernel
theorem dX12_set_2 : decode cX12_set 2 = .ok (.invokevirtual 126, 3) := by decide +kernel
theorem dX12_set_5 : decode cX12_set 5 = .ok (.ifCond .eq 49, 3) := by decide +kernel
theorem dX12_set_8 : decode cX12_set 8 = .ok (.iload_n 2, 1) := by decide +kernel
theorem dX12_set_9 : decode cX12_set 9 = .ok (.iconst 1, 1) := by decide +kernel
theorem dX12_set_10 : decode cX12_set 10 = .ok (.iconst 2, 1) := by decide +kernel
theorem dX12_set_11 : decode cX12_set 11 = .ok (.invokestatic 73, 3) := by decide +kernel
theorem dX12_set_14 : decode cX12_set 14 = .ok (.ifCond .eq 40, 3) := by decide +kernel
theorem dX12_set_17 : decode cX12_set 17 = .ok (.iload_n 3, 1) := by decide +kernel
theorem dX12_set_18 : decode cX12_set 18 = .ok (.iconst 0, 1) := by decide +kernel
theorem dX12_set_19 : decode cX12_set 19 = .ok (.iload_n 2, 1) := by decide +kernel
theorem dX12_set_20 : decode cX12_set 20 = .ok (.iconst 1, 1) := by decide +kernel
theorem dX12_set_21 : decode cX12_set 21 = .ok (.if_icmp .ne 9, 3) := by decide +kernel
theorem dX12_set_24 : decode cX12_set 24 = .ok (.sipush 999, 3) := by decide +kernel
theorem dX12_set_27 : decode cX12_set 27 = .ok (.goto 5, 3) := by decide +kernel
theorem dX12_set_30 : decode cX12_set 30 = .ok (.bipush 9, 2) := by decide +kernel
theorem dX12_set_32 : decode cX12_set 32 = .ok (.invokestatic 73, 3) := by decide +kernel
theorem dX12_set_35 : decode cX12_set 35 = .ok (.ifCond .eq 19, 3) := by decide +kernel
theorem dX12_set_38 : decode cX12_set 38 = .ok (.aload_n 0, 1) := by decide +kernel
theorem dX12_set_39 : decode cX12_set 39 = .ok (.bipush 38, 2) := by decide +kernel
theorem dX12_set_41 : decode cX12_set 41 = .ok (.iconst 5, 1) := by decide +kernel
theorem dX12_set_42 : decode cX12_set 42 = .ok (.iload_n 1, 1) := by decide +kernel
theorem dX12_set_43 : decode cX12_set 43 = .ok (.imul, 1) := by decide +kernel
theorem dX12_set_44 : decode cX12_set 44 = .ok (.iadd, 1) := by decide +kernel
theorem dX12_set_45 : decode cX12_set 45 = .ok (.iload_n 2, 1) := by decide +kernel
theorem dX12_set_46 : decode cX12_set 46 = .ok (.iadd, 1) := by decide +kernel
theorem dX12_set_47 : decode cX12_set 47 = .ok (.iload_n 3, 1) := by decide +kernel
theorem dX12_set_48 : decode cX12_set 48 = .ok (.invokevirtual 112, 3) := by decide +kernel
theorem dX12_set_51 : decode cX12_set 51 = .ok (.goto 5, 3) := by decide +kernel
theorem dX12_set_54 : decode cX12_set 54 = .ok (.ldc 78, 2) := by decide +kernel
theorem dX12_set_56 : decode cX12_set 56 = .ok (.ireturn, 1) := by decide +kernel
theorem dX12_wire_0 : decode cX12_wire 0 = .ok (.aload_n 0, 1) := by decide +kernel
theorem dX12_wire_1 : decode cX12_wire 1 = .ok (.iload_n 1, 1) := by decide +kernel
theorem dX12_wire_2 : decode cX12_wire 2 = .ok (.invokevirtual 126, 3) := by decide +kernel
theorem dX12_wire_5 : decode cX12_wire 5 = .ok (.ifCond .eq 26, 3) := by decide +kernel
theorem dX12_wire_8 : decode cX12_wire 8 = .ok (.iload_n 2, 1) := by decide +kernel
theorem dX12_wire_9 : decode cX12_wire 9 = .ok (.iconst 0, 1) := by decide +kernel
theorem dX12_wire_10 : decode cX12_wire 10 = .ok (.iconst 1, 1) := by decide +kernel
theorem dX12_wire_11 : decode cX12_wire 11 = .ok (.invokestatic 73, 3) := by decide +kernel
theorem dX12_wire_14 : decode cX12_wire 14 = .ok (.ifCond .eq 17, 3) := by decide +kernel
theorem dX12_wire_17 : decode cX12_wire 17 = .ok (.iload_n 3, 1) := by decide +kernel
theorem dX12_wire_18 : decode cX12_wire 18 = .ok (.ldc 72, 2) := by decide +kernel
theorem dX12_wire_20 : decode cX12_wire 20 = .ok (.if_icmp .eq 14, 3) := by decide +kernel
theorem dX12_wire_23 : decode cX12_wire 23 = .ok (.aload_n 0, 1) := by decide +kernel
theorem dX12_wire_24 : decode cX12_wire 24 = .ok (.iload_n 3, 1) := by decide +kernel
theorem dX12_wire_25 : decode cX12_wire 25 = .ok (.invokevirtual 105, 3) := by decide +kernel
theorem dX12_wire_28 : decode cX12_wire 28 = .ok (.ifCond .ne 6, 3) := by decide +kernel
theorem dX12_wire_31 : decode cX12_wire 31 = .ok (.ldc 78, 2) := by decide +kernel
theorem dX12_wire_33 : decode cX12_wire 33 = .ok (.ireturn, 1) := by decide +kernel
theorem dX12_wire_34 : decode cX12_wire 34 = .ok (.aload_n 0, 1) := by decide +kernel
theorem dX12_wire_35 : decode cX12_wire 35 = .ok (.bipush 38, 2) := by decide +kernel
theorem dX12_wire_37 : decode cX12_wire 37 = .ok (.iconst 5, 1) := by decide +kernel
theorem dX12_wire_38 : decode cX12_wire 38 = .ok (.iload_n 1, 1) := by decide +kernel
theorem dX12_wire_39 : decode cX12_wire 39 = .ok (.imul, 1) := by decide +kernel
theorem dX12_wire_40 : decode cX12_wire 40 = .ok (.iadd, 1) := by decide +kernel
theorem dX12_wire_41 : decode cX12_wire 41 = .ok (.iconst 3, 1) := by decide +kernel
theorem dX12_wire_42 : decode cX12_wire 42 = .ok (.iadd, 1) := by decide +kernel
theorem dX12_wire_43 : decode cX12_wire 43 = .ok (.iload_n 2, 1) := by decide +kernel
theorem dX12_wire_44 : decode cX12_wire 44 = .ok (.iadd, 1) := by decide +kernel
theorem dX12_wire_45 : decode cX12_wire 45 = .ok (.iload_n 3, 1) := by decide +kernel
theorem dX12_wire_46 : decode cX12_wire 46 = .ok (.ldc 72, 2) := by decide +kernel
theorem dX12_wire_48 : decode cX12_wire 48 = .ok (.if_icmp .ne 7, 3) := by decide +kernel
theorem dX12_wire_51 : decode cX12_wire 51 = .ok (.iconst (-1), 1) := by decide +kernel
theorem dX12_wire_52 : decode cX12_wire 52 = .ok (.goto 4, 3) := by decide +kernel
theorem dX12_wire_55 : decode cX12_wire 55 = .ok (.iload_n 3, 1) := by decide +kernel
theorem dX12_wire_56 : decode cX12_wire 56 = .ok (.invokevirtual 112, 3) := by decide +kernel
theorem dX12_wire_59 : decode cX12_wire 59 = .ok (.invokestatic 132, 3) := by decide +kernel
theorem dX12_wire_62 : decode cX12_wire 62 = .ok (.ireturn, 1) := by decide +kernel
theorem dX12_thief_0 : decode cX12_thief 0 = .ok (.iload_n 1, 1) := by decide +kernel
theorem dX12_thief_1 : decode cX12_thief 1 = .ok (.iconst 0, 1) := by decide +kernel
theorem dX12_thief_2 : decode cX12_thief 2 = .ok (.iconst 5, 1) := by decide +kernel
theorem dX12_thief_3 : decode cX12_thief 3 = .ok (.invokestatic 73, 3) := by decide +kernel
theorem dX12_thief_6 : decode cX12_thief 6 = .ok (.ifCond .eq 11, 3) := by decide +kernel
theorem dX12_thief_9 : decode cX12_thief 9 = .ok (.aload_n 0, 1) := by decide +kernel
theorem dX12_thief_10 : decode cX12_thief 10 = .ok (.iload_n 2, 1) := by decide +kernel
theorem dX12_thief_11 : decode cX12_thief 11 = .ok (.invokevirtual 105, 3) := by decide +kernel
theorem dX12_thief_14 : decode cX12_thief 14 = .ok (.ifCond .ne 6, 3) := by decide +kernel
theorem dX12_thief_17 : decode cX12_thief 17 = .ok (.ldc 78, 2) := by decide +kernel
theorem dX12_thief_19 : decode cX12_thief 19 = .ok (.ireturn, 1) := by decide +kernel
theorem dX12_thief_20 : decode cX12_thief 20 = .ok (.aload_n 0, 1) := by decide +kernel
theorem dX12_thief_21 : decode cX12_thief 21 = .ok (.getfield 9, 3) := by decide +kernel
theorem dX12_thief_24 : decode cX12_thief 24 = .ok (.iconst 3, 1) := by decide +kernel
theorem dX12_thief_25 : decode cX12_thief 25 = .ok (.iaload, 1) := by decide +kernel
theorem dX12_thief_26 : decode cX12_thief 26 = .ok (.bipush 6, 2) := by decide +kernel
theorem dX12_thief_28 : decode cX12_thief 28 = .ok (.if_icmp .ne 6, 3) := by decide +kernel
theorem dX12_thief_31 : decode cX12_thief 31 = .ok (.ldc 79, 2) := by decide +kernel
theorem dX12_thief_33 : decode cX12_thief 33 = .ok (.ireturn, 1) := by decide +kernel
theorem dX12_thief_34 : decode cX12_thief 34 = .ok (.aload_n 0, 1) := by decide +kernel
theorem dX12_thief_35 : decode cX12_thief 35 = .ok (.getfield 9, 3) := by decide +kernel
theorem dX12_thief_38 : decode cX12_thief 38 = .ok (.bipush 98, 2) := by decide +kernel
theorem dX12_thief_40 : decode cX12_thief 40 = .ok (.iconst 2, 1) := by decide +kernel
theorem dX12_thief_41 : decode cX12_thief 41 = .ok (.aload_n 0, 1) := by decide +kernel
theorem dX12_thief_42 : decode cX12_thief 42 = .ok (.getfield 9, 3) := by decide +kernel
theorem dX12_thief_45 : decode cX12_thief 45 = .ok (.iconst 3, 1) := by decide +kernel
theorem dX12_thief_46 : decode cX12_thief 46 = .ok (.iaload, 1) := by decide +kernel
theorem dX12_thief_47 : decode cX12_thief 47 = .ok (.imul, 1) := by decide +kernel
theorem dX12_thief_48 : decode cX12_thief 48 = .ok (.iadd, 1) := by decide +kernel
theorem dX12_thief_49 : decode cX12_thief 49 = .ok (.iload_n 1, 1) := by decide +kernel
theorem dX12_thief_50 : decode cX12_thief 50 = .ok (.iastore, 1) := by decide +kernel
theorem dX12_thief_51 : decode cX12_thief 51 = .ok (.aload_n 0, 1) := by decide +kernel
theorem dX12_thief_52 : decode cX12_thief 52 = .ok (.getfield 9, 3) := by decide +kernel
theorem dX12_thief_55 : decode cX12_thief 55 = .ok (.bipush 98, 2) := by decide +kernel
theorem dX12_thief_57 : decode cX12_thief 57 = .ok (.iconst 2, 1) := by decide +kernel
theorem dX12_thief_58 : decode cX12_thief 58 = .ok (.aload_n 0, 1) := by decide +kernel
theorem dX12_thief_59 : decode cX12_thief 59 = .ok (.getfield 9, 3) := by decide +kernel
theorem dX12_thief_62 : decode cX12_thief 62 = .ok (.iconst 3, 1) := by decide +kernel
theorem dX12_thief_63 : decode cX12_thief 63 = .ok (.iaload, 1) := by decide +kernel
theorem dX12_thief_64 : decode cX12_thief 64 = .ok (.imul, 1) := by decide +kernel
theorem dX12_thief_65 : decode cX12_thief 65 = .ok (.iadd, 1) := by decide +kernel
theorem dX12_thief_66 : decode cX12_thief 66 = .ok (.iconst 1, 1) := by decide +kernel
theorem dX12_thief_67 : decode cX12_thief 67 = .ok (.iadd, 1) := by decide +kernel
theorem dX12_thief_68 : decode cX12_thief 68 = .ok (.iload_n 2, 1) := by decide +kernel
theorem dX12_thief_69 : decode cX12_thief 69 = .ok (.iastore, 1) := by decide +kernel
theorem dX12_thief_70 : decode cX12_thief 70 = .ok (.aload_n 0, 1) := by decide +kernel
theorem dX12_thief_71 : decode cX12_thief 71 = .ok (.getfield 9, 3) := by decide +kernel
theorem dX12_thief_74 : decode cX12_thief 74 = .ok (.iconst 3, 1) := by decide +kernel
theorem dX12_thief_75 : decode cX12_thief 75 = .ok (.dup2, 1) := by decide +kernel
theorem dX12_thief_76 : decode cX12_thief 76 = .ok (.iaload, 1) := by decide +kernel
theorem dX12_thief_77 : decode cX12_thief 77 = .ok (.iconst 1, 1) := by decide +kernel
theorem dX12_thief_78 : decode cX12_thief 78 = .ok (.iadd, 1) := by decide +kernel
theorem dX12_thief_79 : decode cX12_thief 79 = .ok (.iastore, 1) := by decide +kernel
theorem dX12_thief_80 : decode cX12_thief 80 = .ok (.aload_n 0, 1) := by decide +kernel
theorem dX12_thief_81 : decode cX12_thief 81 = .ok (.getfield 9, 3) := by decide +kernel
theorem dX12_thief_84 : decode cX12_thief 84 = .ok (.iconst 3, 1) := by decide +kernel
theorem dX12_thief_85 : decode cX12_thief 85 = .ok (.iaload, 1) := by decide +kernel
theorem dX12_thief_86 : decode cX12_thief 86 = .ok (.iconst 1, 1) := by decide +kernel
theorem dX12_thief_87 : decode cX12_thief 87 = .ok (.isub, 1) := by decide +kernel
theorem dX12_thief_88 : decode cX12_thief 88 = .ok (.ireturn, 1) := by decide +kernel
theorem dX12_worthOf_0 : decode cX12_worthOf 0 = .ok (.aload_n 0, 1) := by decide +kernel
theorem dX12_worthOf_1 : decode cX12_worthOf 1 = .ok (.iload_n 1, 1) := by decide +kernel
theorem dX12_worthOf_2 : decode cX12_worthOf 2 = .ok (.invokevirtual 135, 3) := by decide +kernel
theorem dX12_worthOf_5 : decode cX12_worthOf 5 = .ok (.istore_n 2, 1) := by decide +kernel
theorem dX12_worthOf_6 : decode cX12_worthOf 6 = .ok (.aload_n 0, 1) := by decide +kernel
theorem dX12_worthOf_7 : decode cX12_worthOf 7 = .ok (.iload_n 1, 1) := by decide +kernel
theorem dX12_worthOf_8 : decode cX12_worthOf 8 = .ok (.invokevirtual 138, 3) := by decide +kernel
theorem dX12_worthOf_11 : decode cX12_worthOf 11 = .ok (.tableswitch 57 1 5 #[33, 38, 42, 49, 54], 33) := by decide +kernel
theorem dX12_worthOf_44 : decode cX12_worthOf 44 = .ok (.iload_n 2, 1) := by decide +kernel
theorem dX12_worthOf_45 : decode cX12_worthOf 45 = .ok (.bipush 10, 2) := by decide +kernel
theorem dX12_worthOf_47 : decode cX12_worthOf 47 = .ok (.iadd, 1) := by decide +kernel
theorem dX12_worthOf_48 : decode cX12_worthOf 48 = .ok (.ireturn, 1) := by decide +kernel
theorem dX12_worthOf_49 : decode cX12_worthOf 49 = .ok (.iload_n 2, 1) := by decide +kernel
theorem dX12_worthOf_50 : decode cX12_worthOf 50 = .ok (.iconst 1, 1) := by decide +kernel
theorem dX12_worthOf_51 : decode cX12_worthOf 51 = .ok (.isub, 1) := by decide +kernel
theorem dX12_worthOf_52 : decode cX12_worthOf 52 = .ok (.ireturn, 1) := by decide +kernel
theorem dX12_worthOf_53 : decode cX12_worthOf 53 = .ok (.iconst 2, 1) := by decide +kernel
theorem dX12_worthOf_54 : decode cX12_worthOf 54 = .ok (.iload_n 2, 1) := by decide +kernel
theorem dX12_worthOf_55 : decode cX12_worthOf 55 = .ok (.bipush 10, 2) := by decide +kernel
theorem dX12_worthOf_57 : decode cX12_worthOf 57 = .ok (.iadd, 1) := by decide +kernel
theorem dX12_worthOf_58 : decode cX12_worthOf 58 = .ok (.imul, 1) := by decide +kernel
theorem dX12_worthOf_59 : decode cX12_worthOf 59 = .ok (.ireturn, 1) := by decide +kernel
theorem dX12_worthOf_60 : decode cX12_worthOf 60 = .ok (.iload_n 2, 1) := by decide +kernel
theorem dX12_worthOf_61 : decode cX12_worthOf 61 = .ok (.bipush 19, 2) := by decide +kernel
theorem dX12_worthOf_63 : decode cX12_worthOf 63 = .ok (.iadd, 1) := by decide +kernel
theorem dX12_worthOf_64 : decode cX12_worthOf 64 = .ok (.ireturn, 1) := by decide +kernel
theorem dX12_worthOf_65 : decode cX12_worthOf 65 = .ok (.bipush 30, 2) := by decide +kernel
theorem dX12_worthOf_67 : decode cX12_worthOf 67 = .ok (.ireturn, 1) := by decide +kernel
theorem dX12_worthOf_68 : decode cX12_worthOf 68 = .ok (.iload_n 2, 1) := by decide +kernel
theorem dX12_worthOf_69 : decode cX12_worthOf 69 = .ok (.ireturn, 1) := by decide +kernel
theorem dX12_told_0 : decode cX12_told 0 = .ok (.aload_n 0, 1) := by decide +kernel
theorem dX12_told_1 : decode cX12_told 1 = .ok (.iload_n 1, 1) := by decide +kernel
theorem dX12_told_2 : decode cX12_told 2 = .ok (.invokevirtual 141, 3) := by decide +kernel
theorem dX12_told_5 : decode cX12_told 5 = .ok (.ifCond .eq 12, 3) := by decide +kernel
theorem dX12_told_8 : decode cX12_told 8 = .ok (.iload_n 2, 1) := by decide +kernel
theorem dX12_told_9 : decode cX12_told 9 = .ok (.iconst 0, 1) := by decide +kernel
theorem dX12_told_10 : decode cX12_told 10 = .ok (.iconst 2, 1) := by decide +kernel
theorem dX12_told_11 : decode cX12_told 11 = .ok (.invokestatic 73, 3) := by decide +kernel
theorem dX12_told_14 : decode cX12_told 14 = .ok (.ifCond .ne 6, 3) := by decide +kernel
theorem dX12_told_17 : decode cX12_told 17 = .ok (.ldc 78, 2) := by decide +kernel
theorem dX12_told_19 : decode cX12_told 19 = .ok (.ireturn, 1) := by decide +kernel
theorem dX12_told_20 : decode cX12_told 20 = .ok (.iload_n 2, 1) := by decide +kernel
theorem dX12_told_21 : decode cX12_told 21 = .ok (.ifCond .ne 11, 3) := by decide +kernel
theorem dX12_told_24 : decode cX12_told 24 = .ok (.aload_n 0, 1) := by decide +kernel
theorem dX12_told_25 : decode cX12_told 25 = .ok (.iload_n 1, 1) := by decide +kernel
theorem dX12_told_26 : decode cX12_told 26 = .ok (.invokevirtual 138, 3) := by decide +kernel
theorem dX12_told_29 : decode cX12_told 29 = .ok (.goto 21, 3) := by decide +kernel
theorem dX12_told_32 : decode cX12_told 32 = .ok (.iload_n 2, 1) := by decide +kernel
theorem dX12_told_33 : decode cX12_told 33 = .ok (.iconst 1, 1) := by decide +kernel
theorem dX12_told_34 : decode cX12_told 34 = .ok (.if_icmp .ne 11, 3) := by decide +kernel
theorem dX12_told_37 : decode cX12_told 37 = .ok (.aload_n 0, 1) := by decide +kernel
theorem dX12_told_38 : decode cX12_told 38 = .ok (.iload_n 1, 1) := by decide +kernel
theorem dX12_told_39 : decode cX12_told 39 = .ok (.invokevirtual 135, 3) := by decide +kernel
theorem dX12_told_42 : decode cX12_told 42 = .ok (.goto 8, 3) := by decide +kernel
theorem dX12_told_45 : decode cX12_told 45 = .ok (.aload_n 0, 1) := by decide +kernel
theorem dX12_told_46 : decode cX12_told 46 = .ok (.iload_n 1, 1) := by decide +kernel
theorem dX12_told_47 : decode cX12_told 47 = .ok (.invokevirtual 144, 3) := by decide +kernel
theorem dX12_told_50 : decode cX12_told 50 = .ok (.ireturn, 1) := by decide +kernel
theorem dX12_isUnder_0 : decode cX12_isUnder 0 = .ok (.iload_n 1, 1) := by decide +kernel
theorem dX12_isUnder_1 : decode cX12_isUnder 1 = .ok (.ifCond .eq 28, 3) := by decide +kernel
theorem dX12_isUnder_4 : decode cX12_isUnder 4 = .ok (.iload_n 0, 1) := by decide +kernel
theorem dX12_isUnder_5 : decode cX12_isUnder 5 = .ok (.iload_n 1, 1) := by decide +kernel
theorem dX12_isUnder_6 : decode cX12_isUnder 6 = .ok (.if_icmp .eq 23, 3) := by decide +kernel
theorem dX12_isUnder_9 : decode cX12_isUnder 9 = .ok (.iload_n 1, 1) := by decide +kernel
theorem dX12_isUnder_10 : decode cX12_isUnder 10 = .ok (.iconst 1, 1) := by decide +kernel
theorem dX12_isUnder_11 : decode cX12_isUnder 11 = .ok (.if_icmp .ne 8, 3) := by decide +kernel
theorem dX12_isUnder_14 : decode cX12_isUnder 14 = .ok (.iload_n 0, 1) := by decide +kernel
theorem dX12_isUnder_15 : decode cX12_isUnder 15 = .ok (.iconst 3, 1) := by decide +kernel
theorem dX12_isUnder_16 : decode cX12_isUnder 16 = .ok (.if_icmp .eq 13, 3) := by decide +kernel
theorem dX12_isUnder_19 : decode cX12_isUnder 19 = .ok (.iload_n 1, 1) := by decide +kernel
theorem dX12_isUnder_20 : decode cX12_isUnder 20 = .ok (.iconst 2, 1) := by decide +kernel
theorem dX12_isUnder_21 : decode cX12_isUnder 21 = .ok (.if_icmp .ne 12, 3) := by decide +kernel
theorem dX12_isUnder_24 : decode cX12_isUnder 24 = .ok (.iload_n 0, 1) := by decide +kernel
theorem dX12_isUnder_25 : decode cX12_isUnder 25 = .ok (.iconst 4, 1) := by decide +kernel
theorem dX12_isUnder_26 : decode cX12_isUnder 26 = .ok (.if_icmp .ne 7, 3) := by decide +kernel
theorem dX12_isUnder_29 : decode cX12_isUnder 29 = .ok (.iconst 1, 1) := by decide +kernel
theorem dX12_isUnder_30 : decode cX12_isUnder 30 = .ok (.goto 4, 3) := by decide +kernel
theorem dX12_isUnder_33 : decode cX12_isUnder 33 = .ok (.iconst 0, 1) := by decide +kernel
theorem dX12_isUnder_34 : decode cX12_isUnder 34 = .ok (.ireturn, 1) := by decide +kernel
theorem dX12_as_0 : decode cX12_as 0 = .ok (.aload_n 0, 1) := by decide +kernel
theorem dX12_as_1 : decode cX12_as 1 = .ok (.iload_n 1, 1) := by decide +kernel
theorem dX12_as_2 : decode cX12_as 2 = .ok (.invokevirtual 141, 3) := by decide +kernel
theorem dX12_as_5 : decode cX12_as 5 = .ok (.ifCond .eq 12, 3) := by decide +kernel
theorem dX12_as_8 : decode cX12_as 8 = .ok (.iload_n 2, 1) := by decide +kernel
theorem dX12_as_9 : decode cX12_as 9 = .ok (.iconst 0, 1) := by decide +kernel
theorem dX12_as_10 : decode cX12_as 10 = .ok (.iconst 5, 1) := by decide +kernel
theorem dX12_as_11 : decode cX12_as 11 = .ok (.invokestatic 73, 3) := by decide +kernel
theorem dX12_as_14 : decode cX12_as 14 = .ok (.ifCond .ne 6, 3) := by decide +kernel
theorem dX12_as_17 : decode cX12_as 17 = .ok (.ldc 78, 2) := by decide +kernel
theorem dX12_as_19 : decode cX12_as 19 = .ok (.ireturn, 1) := by decide +kernel
theorem dX12_as_20 : decode cX12_as 20 = .ok (.aload_n 0, 1) := by decide +kernel
theorem dX12_as_21 : decode cX12_as 21 = .ok (.iload_n 1, 1) := by decide +kernel
theorem dX12_as_22 : decode cX12_as 22 = .ok (.invokevirtual 138, 3) := by decide +kernel
theorem dX12_as_25 : decode cX12_as 25 = .ok (.iload_n 2, 1) := by decide +kernel
theorem dX12_as_26 : decode cX12_as 26 = .ok (.invokestatic 147, 3) := by decide +kernel
theorem dX12_as_29 : decode cX12_as 29 = .ok (.ifCond .eq 11, 3) := by decide +kernel
theorem dX12_as_32 : decode cX12_as 32 = .ok (.aload_n 0, 1) := by decide +kernel
theorem dX12_as_33 : decode cX12_as 33 = .ok (.iload_n 1, 1) := by decide +kernel
theorem dX12_as_34 : decode cX12_as 34 = .ok (.invokevirtual 135, 3) := by decide +kernel
theorem dX12_as_37 : decode cX12_as 37 = .ok (.goto 5, 3) := by decide +kernel
theorem dX12_as_40 : decode cX12_as 40 = .ok (.ldc 150, 2) := by decide +kernel
theorem dX12_as_42 : decode cX12_as 42 = .ok (.ireturn, 1) := by decide +kernel
theorem dX12_turns_0 : decode cX12_turns 0 = .ok (.aload_n 0, 1) := by decide +kernel
theorem dX12_turns_1 : decode cX12_turns 1 = .ok (.iload_n 1, 1) := by decide +kernel
theorem dX12_turns_2 : decode cX12_turns 2 = .ok (.invokevirtual 141, 3) := by decide +kernel
theorem dX12_turns_5 : decode cX12_turns 5 = .ok (.ifCond .eq 26, 3) := by decide +kernel
theorem dX12_turns_8 : decode cX12_turns 8 = .ok (.iload_n 2, 1) := by decide +kernel
theorem dX12_turns_9 : decode cX12_turns 9 = .ok (.iconst 0, 1) := by decide +kernel
theorem dX12_turns_10 : decode cX12_turns 10 = .ok (.iconst 5, 1) := by decide +kernel
theorem dX12_turns_11 : decode cX12_turns 11 = .ok (.invokestatic 73, 3) := by decide +kernel
theorem dX12_turns_14 : decode cX12_turns 14 = .ok (.ifCond .eq 17, 3) := by decide +kernel
theorem dX12_turns_17 : decode cX12_turns 17 = .ok (.aload_n 0, 1) := by decide +kernel
theorem dX12_turns_18 : decode cX12_turns 18 = .ok (.bipush 98, 2) := by decide +kernel
theorem dX12_turns_20 : decode cX12_turns 20 = .ok (.iconst 2, 1) := by decide +kernel
theorem dX12_turns_21 : decode cX12_turns 21 = .ok (.iload_n 1, 1) := by decide +kernel
theorem dX12_turns_22 : decode cX12_turns 22 = .ok (.imul, 1) := by decide +kernel
theorem dX12_turns_23 : decode cX12_turns 23 = .ok (.iadd, 1) := by decide +kernel
theorem dX12_turns_24 : decode cX12_turns 24 = .ok (.iload_n 2, 1) := by decide +kernel
theorem dX12_turns_25 : decode cX12_turns 25 = .ok (.invokevirtual 112, 3) := by decide +kernel
theorem dX12_turns_28 : decode cX12_turns 28 = .ok (.goto 5, 3) := by decide +kernel
theorem dX12_turns_31 : decode cX12_turns 31 = .ok (.ldc 78, 2) := by decide +kernel
theorem dX12_turns_33 : decode cX12_turns 33 = .ok (.ireturn, 1) := by decide +kernel
theorem dX12_heedOf_0 : decode cX12_heedOf 0 = .ok (.aload_n 0, 1) := by decide +kernel
theorem dX12_heedOf_1 : decode cX12_heedOf 1 = .ok (.iload_n 2, 1) := by decide +kernel
theorem dX12_heedOf_2 : decode cX12_heedOf 2 = .ok (.invokevirtual 109, 3) := by decide +kernel
theorem dX12_heedOf_5 : decode cX12_heedOf 5 = .ok (.istore_n 3, 1) := by decide +kernel
theorem dX12_heedOf_6 : decode cX12_heedOf 6 = .ok (.aload_n 0, 1) := by decide +kernel
theorem dX12_heedOf_7 : decode cX12_heedOf 7 = .ok (.iload_n 1, 1) := by decide +kernel
theorem dX12_heedOf_8 : decode cX12_heedOf 8 = .ok (.invokevirtual 135, 3) := by decide +kernel
theorem dX12_heedOf_11 : decode cX12_heedOf 11 = .ok (.istore 4, 2) := by decide +kernel
theorem dX12_heedOf_13 : decode cX12_heedOf 13 = .ok (.aload_n 0, 1) := by decide +kernel
theorem dX12_heedOf_14 : decode cX12_heedOf 14 = .ok (.iload_n 1, 1) := by decide +kernel
theorem dX12_heedOf_15 : decode cX12_heedOf 15 = .ok (.invokevirtual 138, 3) := by decide +kernel
theorem dX12_heedOf_18 : decode cX12_heedOf 18 = .ok (.tableswitch 67 2 5 #[30, 34, 30, 56], 30) := by decide +kernel
theorem dX12_heedOf_48 : decode cX12_heedOf 48 = .ok (.iload_n 3, 1) := by decide +kernel
theorem dX12_heedOf_49 : decode cX12_heedOf 49 = .ok (.iconst 2, 1) := by decide +kernel
theorem dX12_heedOf_50 : decode cX12_heedOf 50 = .ok (.idiv, 1) := by decide +kernel
theorem dX12_heedOf_51 : decode cX12_heedOf 51 = .ok (.ireturn, 1) := by decide +kernel
theorem dX12_heedOf_52 : decode cX12_heedOf 52 = .ok (.iload_n 2, 1) := by decide +kernel
theorem dX12_heedOf_53 : decode cX12_heedOf 53 = .ok (.iload 4, 2) := by decide +kernel
theorem dX12_heedOf_55 : decode cX12_heedOf 55 = .ok (.if_icmp .eq 13, 3) := by decide +kernel
theorem dX12_heedOf_58 : decode cX12_heedOf 58 = .ok (.aload_n 0, 1) := by decide +kernel
theorem dX12_heedOf_59 : decode cX12_heedOf 59 = .ok (.iload 4, 2) := by decide +kernel
theorem dX12_heedOf_61 : decode cX12_heedOf 61 = .ok (.iload_n 2, 1) := by decide +kernel
theorem dX12_heedOf_62 : decode cX12_heedOf 62 = .ok (.invokevirtual 115, 3) := by decide +kernel
theorem dX12_heedOf_65 : decode cX12_heedOf 65 = .ok (.ifCond .eq 7, 3) := by decide +kernel
theorem dX12_heedOf_68 : decode cX12_heedOf 68 = .ok (.iconst 0, 1) := by decide +kernel
theorem dX12_heedOf_69 : decode cX12_heedOf 69 = .ok (.goto 4, 3) := by decide +kernel
theorem dX12_heedOf_72 : decode cX12_heedOf 72 = .ok (.iload_n 3, 1) := by decide +kernel
theorem dX12_heedOf_73 : decode cX12_heedOf 73 = .ok (.ireturn, 1) := by decide +kernel
theorem dX12_heedOf_74 : decode cX12_heedOf 74 = .ok (.iload_n 3, 1) := by decide +kernel
theorem dX12_heedOf_75 : decode cX12_heedOf 75 = .ok (.bipush 30, 2) := by decide +kernel
theorem dX12_heedOf_77 : decode cX12_heedOf 77 = .ok (.isub, 1) := by decide +kernel
theorem dX12_heedOf_78 : decode cX12_heedOf 78 = .ok (.iconst 0, 1) := by decide +kernel
theorem dX12_heedOf_79 : decode cX12_heedOf 79 = .ok (.bipush 100, 2) := by decide +kernel
theorem dX12_heedOf_81 : decode cX12_heedOf 81 = .ok (.invokestatic 98, 3) := by decide +kernel
theorem dX12_heedOf_84 : decode cX12_heedOf 84 = .ok (.ireturn, 1) := by decide +kernel
theorem dX12_heedOf_85 : decode cX12_heedOf 85 = .ok (.iload_n 3, 1) := by decide +kernel
theorem dX12_heedOf_86 : decode cX12_heedOf 86 = .ok (.ireturn, 1) := by decide +kernel
theorem dX12_missedAt_0 : decode cX12_missedAt 0 = .ok (.iconst 1, 1) := by decide +kernel
theorem dX12_missedAt_1 : decode cX12_missedAt 1 = .ok (.istore_n 3, 1) := by decide +kernel
theorem dX12_missedAt_2 : decode cX12_missedAt 2 = .ok (.iconst 0, 1) := by decide +kernel
theorem dX12_missedAt_3 : decode cX12_missedAt 3 = .ok (.istore 4, 2) := by decide +kernel
theorem dX12_missedAt_5 : decode cX12_missedAt 5 = .ok (.iload 4, 2) := by decide +kernel
theorem dX12_missedAt_7 : decode cX12_missedAt 7 = .ok (.iconst 2, 1) := by decide +kernel
theorem dX12_missedAt_8 : decode cX12_missedAt 8 = .ok (.if_icmp .ge 43, 3) := by decide +kernel
theorem dX12_missedAt_11 : decode cX12_missedAt 11 = .ok (.aload_n 0, 1) := by decide +kernel
theorem dX12_missedAt_12 : decode cX12_missedAt 12 = .ok (.iload_n 2, 1) := by decide +kernel
theorem dX12_missedAt_13 : decode cX12_missedAt 13 = .ok (.iconst 3, 1) := by decide +kernel
theorem dX12_missedAt_14 : decode cX12_missedAt 14 = .ok (.iload 4, 2) := by decide +kernel
theorem dX12_missedAt_16 : decode cX12_missedAt 16 = .ok (.iadd, 1) := by decide +kernel
theorem dX12_missedAt_17 : decode cX12_missedAt 17 = .ok (.invokevirtual 84, 3) := by decide +kernel
theorem dX12_missedAt_20 : decode cX12_missedAt 20 = .ok (.istore 5, 2) := by decide +kernel
theorem dX12_missedAt_22 : decode cX12_missedAt 22 = .ok (.iload_n 3, 1) := by decide +kernel
theorem dX12_missedAt_23 : decode cX12_missedAt 23 = .ok (.iload 5, 2) := by decide +kernel
theorem dX12_missedAt_25 : decode cX12_missedAt 25 = .ok (.ifCond .ge 8, 3) := by decide +kernel
theorem dX12_missedAt_28 : decode cX12_missedAt 28 = .ok (.bipush 100, 2) := by decide +kernel
theorem dX12_missedAt_30 : decode cX12_missedAt 30 = .ok (.goto 13, 3) := by decide +kernel
theorem dX12_missedAt_33 : decode cX12_missedAt 33 = .ok (.bipush 100, 2) := by decide +kernel
theorem dX12_missedAt_35 : decode cX12_missedAt 35 = .ok (.aload_n 0, 1) := by decide +kernel
theorem dX12_missedAt_36 : decode cX12_missedAt 36 = .ok (.iload_n 1, 1) := by decide +kernel
theorem dX12_missedAt_37 : decode cX12_missedAt 37 = .ok (.iload 5, 2) := by decide +kernel
theorem dX12_missedAt_39 : decode cX12_missedAt 39 = .ok (.invokevirtual 151, 3) := by decide +kernel
theorem dX12_missedAt_42 : decode cX12_missedAt 42 = .ok (.isub, 1) := by decide +kernel
theorem dX12_missedAt_43 : decode cX12_missedAt 43 = .ok (.imul, 1) := by decide +kernel
theorem dX12_missedAt_44 : decode cX12_missedAt 44 = .ok (.istore_n 3, 1) := by decide +kernel
theorem dX12_missedAt_45 : decode cX12_missedAt 45 = .ok (.iinc 4 1, 3) := by decide +kernel
theorem dX12_missedAt_48 : decode cX12_missedAt 48 = .ok (.goto (-43), 3) := by decide +kernel
theorem dX12_missedAt_51 : decode cX12_missedAt 51 = .ok (.iload_n 3, 1) := by decide +kernel
theorem dX12_missedAt_52 : decode cX12_missedAt 52 = .ok (.ireturn, 1) := by decide +kernel
theorem dX12_gainAt_0 : decode cX12_gainAt 0 = .ok (.aload_n 0, 1) := by decide +kernel
theorem dX12_gainAt_1 : decode cX12_gainAt 1 = .ok (.iload_n 1, 1) := by decide +kernel
theorem dX12_gainAt_2 : decode cX12_gainAt 2 = .ok (.iload_n 2, 1) := by decide +kernel
theorem dX12_gainAt_3 : decode cX12_gainAt 3 = .ok (.invokevirtual 154, 3) := by decide +kernel
theorem dX12_gainAt_6 : decode cX12_gainAt 6 = .ok (.istore_n 3, 1) := by decide +kernel
theorem dX12_gainAt_7 : decode cX12_gainAt 7 = .ok (.aload_n 0, 1) := by decide +kernel
theorem dX12_gainAt_8 : decode cX12_gainAt 8 = .ok (.iconst 1, 1) := by decide +kernel
theorem dX12_gainAt_9 : decode cX12_gainAt 9 = .ok (.invokevirtual 91, 3) := by decide +kernel
theorem dX12_gainAt_12 : decode cX12_gainAt 12 = .ok (.istore 4, 2) := by decide +kernel
theorem dX12_gainAt_14 : decode cX12_gainAt 14 = .ok (.aload_n 0, 1) := by decide +kernel
theorem dX12_gainAt_15 : decode cX12_gainAt 15 = .ok (.getfield 42, 3) := by decide +kernel
theorem dX12_gainAt_18 : decode cX12_gainAt 18 = .ok (.iconst 0, 1) := by decide +kernel
theorem dX12_gainAt_19 : decode cX12_gainAt 19 = .ok (.aload_n 0, 1) := by decide +kernel
theorem dX12_gainAt_20 : decode cX12_gainAt 20 = .ok (.iload_n 2, 1) := by decide +kernel
theorem dX12_gainAt_21 : decode cX12_gainAt 21 = .ok (.iconst 1, 1) := by decide +kernel
theorem dX12_gainAt_22 : decode cX12_gainAt 22 = .ok (.invokevirtual 84, 3) := by decide +kernel
theorem dX12_gainAt_25 : decode cX12_gainAt 25 = .ok (.iastore, 1) := by decide +kernel
theorem dX12_gainAt_26 : decode cX12_gainAt 26 = .ok (.aload_n 0, 1) := by decide +kernel
theorem dX12_gainAt_27 : decode cX12_gainAt 27 = .ok (.getfield 42, 3) := by decide +kernel
theorem dX12_gainAt_30 : decode cX12_gainAt 30 = .ok (.iconst 1, 1) := by decide +kernel
theorem dX12_gainAt_31 : decode cX12_gainAt 31 = .ok (.iload_n 3, 1) := by decide +kernel
theorem dX12_gainAt_32 : decode cX12_gainAt 32 = .ok (.iastore, 1) := by decide +kernel
theorem dX12_gainAt_33 : decode cX12_gainAt 33 = .ok (.iload 4, 2) := by decide +kernel
theorem dX12_gainAt_35 : decode cX12_gainAt 35 = .ok (.ifCond .ge 18, 3) := by decide +kernel
theorem dX12_gainAt_38 : decode cX12_gainAt 38 = .ok (.aload_n 0, 1) := by decide +kernel
theorem dX12_gainAt_39 : decode cX12_gainAt 39 = .ok (.iload_n 2, 1) := by decide +kernel
theorem dX12_gainAt_40 : decode cX12_gainAt 40 = .ok (.iconst 1, 1) := by decide +kernel
theorem dX12_gainAt_41 : decode cX12_gainAt 41 = .ok (.invokevirtual 84, 3) := by decide +kernel
theorem dX12_gainAt_44 : decode cX12_gainAt 44 = .ok (.iload_n 3, 1) := by decide +kernel
theorem dX12_gainAt_45 : decode cX12_gainAt 45 = .ok (.imul, 1) := by decide +kernel
theorem dX12_gainAt_46 : decode cX12_gainAt 46 = .ok (.sipush 10000, 3) := by decide +kernel
theorem dX12_gainAt_49 : decode cX12_gainAt 49 = .ok (.idiv, 1) := by decide +kernel
theorem dX12_gainAt_50 : decode cX12_gainAt 50 = .ok (.goto 15, 3) := by decide +kernel
theorem dX12_gainAt_53 : decode cX12_gainAt 53 = .ok (.aload_n 0, 1) := by decide +kernel
theorem dX12_gainAt_54 : decode cX12_gainAt 54 = .ok (.iload 4, 2) := by decide +kernel
theorem dX12_gainAt_56 : decode cX12_gainAt 56 = .ok (.invokevirtual 102, 3) := by decide +kernel
theorem dX12_gainAt_59 : decode cX12_gainAt 59 = .ok (.iconst 0, 1) := by decide +kernel
theorem dX12_gainAt_60 : decode cX12_gainAt 60 = .ok (.ldc 157, 2) := by decide +kernel
theorem dX12_gainAt_62 : decode cX12_gainAt 62 = .ok (.invokestatic 98, 3) := by decide +kernel
theorem dX12_gainAt_65 : decode cX12_gainAt 65 = .ok (.ireturn, 1) := by decide +kernel
theorem dX12_isOpen_0 : decode cX12_isOpen 0 = .ok (.aload_n 0, 1) := by decide +kernel
theorem dX12_isOpen_1 : decode cX12_isOpen 1 = .ok (.iload_n 2, 1) := by decide +kernel
theorem dX12_isOpen_2 : decode cX12_isOpen 2 = .ok (.iconst 0, 1) := by decide +kernel
theorem dX12_isOpen_3 : decode cX12_isOpen 3 = .ok (.invokevirtual 84, 3) := by decide +kernel
theorem dX12_isOpen_6 : decode cX12_isOpen 6 = .ok (.aload_n 0, 1) := by decide +kernel
theorem dX12_isOpen_7 : decode cX12_isOpen 7 = .ok (.iload_n 1, 1) := by decide +kernel
theorem dX12_isOpen_8 : decode cX12_isOpen 8 = .ok (.invokevirtual 135, 3) := by decide +kernel
theorem dX12_isOpen_11 : decode cX12_isOpen 11 = .ok (.if_icmp .ne 7, 3) := by decide +kernel
theorem dX12_isOpen_14 : decode cX12_isOpen 14 = .ok (.iconst 1, 1) := by decide +kernel
theorem dX12_isOpen_15 : decode cX12_isOpen 15 = .ok (.goto 4, 3) := by decide +kernel
theorem dX12_isOpen_18 : decode cX12_isOpen 18 = .ok (.iconst 0, 1) := by decide +kernel
theorem dX12_isOpen_19 : decode cX12_isOpen 19 = .ok (.ireturn, 1) := by decide +kernel
theorem dX12_at_0 : decode cX12_at 0 = .ok (.aload_n 0, 1) := by decide +kernel
theorem dX12_at_1 : decode cX12_at 1 = .ok (.iload_n 1, 1) := by decide +kernel
theorem dX12_at_2 : decode cX12_at 2 = .ok (.invokevirtual 141, 3) := by decide +kernel
theorem dX12_at_5 : decode cX12_at 5 = .ok (.ifCond .eq 20, 3) := by decide +kernel
theorem dX12_at_8 : decode cX12_at 8 = .ok (.aload_n 0, 1) := by decide +kernel
theorem dX12_at_9 : decode cX12_at 9 = .ok (.iload_n 2, 1) := by decide +kernel
theorem dX12_at_10 : decode cX12_at 10 = .ok (.invokevirtual 126, 3) := by decide +kernel
theorem dX12_at_13 : decode cX12_at 13 = .ok (.ifCond .eq 12, 3) := by decide +kernel
theorem dX12_at_16 : decode cX12_at 16 = .ok (.iload_n 3, 1) := by decide +kernel
theorem dX12_at_17 : decode cX12_at 17 = .ok (.iconst 0, 1) := by decide +kernel
theorem dX12_at_18 : decode cX12_at 18 = .ok (.iconst 2, 1) := by decide +kernel
theorem dX12_at_19 : decode cX12_at 19 = .ok (.invokestatic 73, 3) := by decide +kernel
theorem dX12_at_22 : decode cX12_at 22 = .ok (.ifCond .ne 6, 3) := by decide +kernel
theorem dX12_at_25 : decode cX12_at 25 = .ok (.ldc 78, 2) := by decide +kernel
theorem dX12_at_27 : decode cX12_at 27 = .ok (.ireturn, 1) := by decide +kernel
theorem dX12_at_28 : decode cX12_at 28 = .ok (.iload_n 3, 1) := by decide +kernel
theorem dX12_at_29 : decode cX12_at 29 = .ok (.ifCond .ne 12, 3) := by decide +kernel
theorem dX12_at_32 : decode cX12_at 32 = .ok (.aload_n 0, 1) := by decide +kernel
theorem dX12_at_33 : decode cX12_at 33 = .ok (.iload_n 1, 1) := by decide +kernel
theorem dX12_at_34 : decode cX12_at 34 = .ok (.iload_n 2, 1) := by decide +kernel
theorem dX12_at_35 : decode cX12_at 35 = .ok (.invokevirtual 154, 3) := by decide +kernel
theorem dX12_at_38 : decode cX12_at 38 = .ok (.goto 31, 3) := by decide +kernel
theorem dX12_at_41 : decode cX12_at 41 = .ok (.iload_n 3, 1) := by decide +kernel
theorem dX12_at_42 : decode cX12_at 42 = .ok (.iconst 1, 1) := by decide +kernel
theorem dX12_at_43 : decode cX12_at 43 = .ok (.if_icmp .ne 12, 3) := by decide +kernel
theorem dX12_at_46 : decode cX12_at 46 = .ok (.aload_n 0, 1) := by decide +kernel
theorem dX12_at_47 : decode cX12_at 47 = .ok (.iload_n 1, 1) := by decide +kernel
theorem dX12_at_48 : decode cX12_at 48 = .ok (.iload_n 2, 1) := by decide +kernel
theorem dX12_at_49 : decode cX12_at 49 = .ok (.invokevirtual 158, 3) := by decide +kernel
theorem dX12_at_52 : decode cX12_at 52 = .ok (.goto 17, 3) := by decide +kernel
theorem dX12_at_55 : decode cX12_at 55 = .ok (.aload_n 0, 1) := by decide +kernel
theorem dX12_at_56 : decode cX12_at 56 = .ok (.iload_n 1, 1) := by decide +kernel
theorem dX12_at_57 : decode cX12_at 57 = .ok (.iload_n 2, 1) := by decide +kernel
theorem dX12_at_58 : decode cX12_at 58 = .ok (.invokevirtual 161, 3) := by decide +kernel
theorem dX12_at_61 : decode cX12_at 61 = .ok (.ifCond .eq 7, 3) := by decide +kernel
theorem dX12_at_64 : decode cX12_at 64 = .ok (.iconst 1, 1) := by decide +kernel
theorem dX12_at_65 : decode cX12_at 65 = .ok (.goto 4, 3) := by decide +kernel
theorem dX12_at_68 : decode cX12_at 68 = .ok (.iconst 0, 1) := by decide +kernel
theorem dX12_at_69 : decode cX12_at 69 = .ok (.ireturn, 1) := by decide +kernel
theorem dX12_heed_0 : decode cX12_heed 0 = .ok (.aload_n 0, 1) := by decide +kernel
theorem dX12_heed_1 : decode cX12_heed 1 = .ok (.iload_n 1, 1) := by decide +kernel
theorem dX12_heed_2 : decode cX12_heed 2 = .ok (.invokevirtual 141, 3) := by decide +kernel
theorem dX12_heed_5 : decode cX12_heed 5 = .ok (.ifCond .eq 20, 3) := by decide +kernel
theorem dX12_heed_8 : decode cX12_heed 8 = .ok (.aload_n 0, 1) := by decide +kernel
theorem dX12_heed_9 : decode cX12_heed 9 = .ok (.iload_n 2, 1) := by decide +kernel
theorem dX12_heed_10 : decode cX12_heed 10 = .ok (.invokevirtual 105, 3) := by decide +kernel
theorem dX12_heed_13 : decode cX12_heed 13 = .ok (.ifCond .eq 12, 3) := by decide +kernel
theorem dX12_heed_16 : decode cX12_heed 16 = .ok (.aload_n 0, 1) := by decide +kernel
theorem dX12_heed_17 : decode cX12_heed 17 = .ok (.iload_n 1, 1) := by decide +kernel
theorem dX12_heed_18 : decode cX12_heed 18 = .ok (.iload_n 2, 1) := by decide +kernel
theorem dX12_heed_19 : decode cX12_heed 19 = .ok (.invokevirtual 151, 3) := by decide +kernel
theorem dX12_heed_22 : decode cX12_heed 22 = .ok (.goto 5, 3) := by decide +kernel
theorem dX12_heed_25 : decode cX12_heed 25 = .ok (.ldc 78, 2) := by decide +kernel
theorem dX12_heed_27 : decode cX12_heed 27 = .ok (.ireturn, 1) := by decide +kernel
theorem dX12_bestFor_0 : decode cX12_bestFor 0 = .ok (.iconst (-1), 1) := by decide +kernel
theorem dX12_bestFor_1 : decode cX12_bestFor 1 = .ok (.istore_n 3, 1) := by decide +kernel
theorem dX12_bestFor_2 : decode cX12_bestFor 2 = .ok (.iconst 0, 1) := by decide +kernel
theorem dX12_bestFor_3 : decode cX12_bestFor 3 = .ok (.istore 4, 2) := by decide +kernel
theorem dX12_bestFor_5 : decode cX12_bestFor 5 = .ok (.iconst 0, 1) := by decide +kernel
theorem dX12_bestFor_6 : decode cX12_bestFor 6 = .ok (.istore 5, 2) := by decide +kernel
theorem dX12_bestFor_8 : decode cX12_bestFor 8 = .ok (.iload 5, 2) := by decide +kernel
theorem dX12_bestFor_10 : decode cX12_bestFor 10 = .ok (.aload_n 0, 1) := by decide +kernel
theorem dX12_bestFor_11 : decode cX12_bestFor 11 = .ok (.getfield 9, 3) := by decide +kernel
theorem dX12_bestFor_14 : decode cX12_bestFor 14 = .ok (.iconst 2, 1) := by decide +kernel
theorem dX12_bestFor_15 : decode cX12_bestFor 15 = .ok (.iaload, 1) := by decide +kernel
theorem dX12_bestFor_16 : decode cX12_bestFor 16 = .ok (.if_icmp .ge 75, 3) := by decide +kernel
theorem dX12_bestFor_19 : decode cX12_bestFor 19 = .ok (.aload_n 0, 1) := by decide +kernel
theorem dX12_bestFor_20 : decode cX12_bestFor 20 = .ok (.iload_n 1, 1) := by decide +kernel
theorem dX12_bestFor_21 : decode cX12_bestFor 21 = .ok (.iload 5, 2) := by decide +kernel
theorem dX12_bestFor_23 : decode cX12_bestFor 23 = .ok (.invokevirtual 161, 3) := by decide +kernel
theorem dX12_bestFor_26 : decode cX12_bestFor 26 = .ok (.ifCond .ne 59, 3) := by decide +kernel
theorem dX12_bestFor_29 : decode cX12_bestFor 29 = .ok (.iload_n 2, 1) := by decide +kernel
theorem dX12_bestFor_30 : decode cX12_bestFor 30 = .ok (.ifCond .eq 13, 3) := by decide +kernel
theorem dX12_bestFor_33 : decode cX12_bestFor 33 = .ok (.aload_n 0, 1) := by decide +kernel
theorem dX12_bestFor_34 : decode cX12_bestFor 34 = .ok (.iload 5, 2) := by decide +kernel
theorem dX12_bestFor_36 : decode cX12_bestFor 36 = .ok (.iconst 1, 1) := by decide +kernel
theorem dX12_bestFor_37 : decode cX12_bestFor 37 = .ok (.invokevirtual 84, 3) := by decide +kernel
theorem dX12_bestFor_40 : decode cX12_bestFor 40 = .ok (.goto 10, 3) := by decide +kernel
theorem dX12_bestFor_43 : decode cX12_bestFor 43 = .ok (.aload_n 0, 1) := by decide +kernel
theorem dX12_bestFor_44 : decode cX12_bestFor 44 = .ok (.iload_n 1, 1) := by decide +kernel
theorem dX12_bestFor_45 : decode cX12_bestFor 45 = .ok (.iload 5, 2) := by decide +kernel
theorem dX12_bestFor_47 : decode cX12_bestFor 47 = .ok (.invokevirtual 158, 3) := by decide +kernel
theorem dX12_bestFor_50 : decode cX12_bestFor 50 = .ok (.istore 6, 2) := by decide +kernel
theorem dX12_bestFor_52 : decode cX12_bestFor 52 = .ok (.iload_n 3, 1) := by decide +kernel
theorem dX12_bestFor_53 : decode cX12_bestFor 53 = .ok (.ifCond .lt 10, 3) := by decide +kernel
theorem dX12_bestFor_56 : decode cX12_bestFor 56 = .ok (.iload 6, 2) := by decide +kernel
theorem dX12_bestFor_58 : decode cX12_bestFor 58 = .ok (.iload 4, 2) := by decide +kernel
theorem dX12_bestFor_60 : decode cX12_bestFor 60 = .ok (.if_icmp .le 8, 3) := by decide +kernel
theorem dX12_bestFor_63 : decode cX12_bestFor 63 = .ok (.iload 5, 2) := by decide +kernel
theorem dX12_bestFor_65 : decode cX12_bestFor 65 = .ok (.goto 4, 3) := by decide +kernel
theorem dX12_bestFor_68 : decode cX12_bestFor 68 = .ok (.iload_n 3, 1) := by decide +kernel
theorem dX12_bestFor_69 : decode cX12_bestFor 69 = .ok (.istore_n 3, 1) := by decide +kernel
theorem dX12_bestFor_70 : decode cX12_bestFor 70 = .ok (.iload_n 3, 1) := by decide +kernel
theorem dX12_bestFor_71 : decode cX12_bestFor 71 = .ok (.iload 5, 2) := by decide +kernel
theorem dX12_bestFor_73 : decode cX12_bestFor 73 = .ok (.if_icmp .ne 8, 3) := by decide +kernel
theorem dX12_bestFor_76 : decode cX12_bestFor 76 = .ok (.iload 6, 2) := by decide +kernel
theorem dX12_bestFor_78 : decode cX12_bestFor 78 = .ok (.goto 5, 3) := by decide +kernel
theorem dX12_bestFor_81 : decode cX12_bestFor 81 = .ok (.iload 4, 2) := by decide +kernel
theorem dX12_bestFor_83 : decode cX12_bestFor 83 = .ok (.istore 4, 2) := by decide +kernel
theorem dX12_bestFor_85 : decode cX12_bestFor 85 = .ok (.iinc 5 1, 3) := by decide +kernel
theorem dX12_bestFor_88 : decode cX12_bestFor 88 = .ok (.goto (-80), 3) := by decide +kernel
theorem dX12_bestFor_91 : decode cX12_bestFor 91 = .ok (.iload_n 3, 1) := by decide +kernel
theorem dX12_bestFor_92 : decode cX12_bestFor 92 = .ok (.ireturn, 1) := by decide +kernel
theorem dX12_choiceOf_0 : decode cX12_choiceOf 0 = .ok (.aload_n 0, 1) := by decide +kernel
theorem dX12_choiceOf_1 : decode cX12_choiceOf 1 = .ok (.iload_n 1, 1) := by decide +kernel
theorem dX12_choiceOf_2 : decode cX12_choiceOf 2 = .ok (.invokevirtual 138, 3) := by decide +kernel
theorem dX12_choiceOf_5 : decode cX12_choiceOf 5 = .ok (.istore_n 2, 1) := by decide +kernel
theorem dX12_choiceOf_6 : decode cX12_choiceOf 6 = .ok (.aload_n 0, 1) := by decide +kernel
theorem dX12_choiceOf_7 : decode cX12_choiceOf 7 = .ok (.iload_n 1, 1) := by decide +kernel
theorem dX12_choiceOf_8 : decode cX12_choiceOf 8 = .ok (.iload_n 2, 1) := by decide +kernel
theorem dX12_choiceOf_9 : decode cX12_choiceOf 9 = .ok (.iconst 1, 1) := by decide +kernel
theorem dX12_choiceOf_10 : decode cX12_choiceOf 10 = .ok (.if_icmp .eq 12, 3) := by decide +kernel
theorem dX12_choiceOf_13 : decode cX12_choiceOf 13 = .ok (.iload_n 2, 1) := by decide +kernel
theorem dX12_choiceOf_14 : decode cX12_choiceOf 14 = .ok (.iconst 3, 1) := by decide +kernel
theorem dX12_choiceOf_15 : decode cX12_choiceOf 15 = .ok (.if_icmp .eq 7, 3) := by decide +kernel
theorem dX12_choiceOf_18 : decode cX12_choiceOf 18 = .ok (.iconst 1, 1) := by decide +kernel
theorem dX12_choiceOf_19 : decode cX12_choiceOf 19 = .ok (.goto 4, 3) := by decide +kernel
theorem dX12_choiceOf_22 : decode cX12_choiceOf 22 = .ok (.iconst 0, 1) := by decide +kernel
theorem dX12_choiceOf_23 : decode cX12_choiceOf 23 = .ok (.invokevirtual 164, 3) := by decide +kernel
theorem dX12_choiceOf_26 : decode cX12_choiceOf 26 = .ok (.istore_n 3, 1) := by decide +kernel
theorem dX12_choiceOf_27 : decode cX12_choiceOf 27 = .ok (.iload_n 3, 1) := by decide +kernel
theorem dX12_choiceOf_28 : decode cX12_choiceOf 28 = .ok (.ifCond .lt 18, 3) := by decide +kernel
theorem dX12_choiceOf_31 : decode cX12_choiceOf 31 = .ok (.iload_n 2, 1) := by decide +kernel
theorem dX12_choiceOf_32 : decode cX12_choiceOf 32 = .ok (.iconst 1, 1) := by decide +kernel
theorem dX12_choiceOf_33 : decode cX12_choiceOf 33 = .ok (.if_icmp .eq 13, 3) := by decide +kernel
theorem dX12_choiceOf_36 : decode cX12_choiceOf 36 = .ok (.iload_n 2, 1) := by decide +kernel
theorem dX12_choiceOf_37 : decode cX12_choiceOf 37 = .ok (.iconst 3, 1) := by decide +kernel
theorem dX12_choiceOf_38 : decode cX12_choiceOf 38 = .ok (.if_icmp .eq 8, 3) := by decide +kernel
theorem dX12_choiceOf_41 : decode cX12_choiceOf 41 = .ok (.iload_n 2, 1) := by decide +kernel
theorem dX12_choiceOf_42 : decode cX12_choiceOf 42 = .ok (.iconst 4, 1) := by decide +kernel
theorem dX12_choiceOf_43 : decode cX12_choiceOf 43 = .ok (.if_icmp .ne 5, 3) := by decide +kernel
theorem dX12_choiceOf_46 : decode cX12_choiceOf 46 = .ok (.iload_n 3, 1) := by decide +kernel
theorem dX12_choiceOf_47 : decode cX12_choiceOf 47 = .ok (.ireturn, 1) := by decide +kernel
theorem dX12_choiceOf_48 : decode cX12_choiceOf 48 = .ok (.aload_n 0, 1) := by decide +kernel
theorem dX12_choiceOf_49 : decode cX12_choiceOf 49 = .ok (.invokevirtual 119, 3) := by decide +kernel
theorem dX12_choiceOf_52 : decode cX12_choiceOf 52 = .ok (.aload_n 0, 1) := by decide +kernel
theorem dX12_choiceOf_53 : decode cX12_choiceOf 53 = .ok (.getfield 9, 3) := by decide +kernel
theorem dX12_choiceOf_56 : decode cX12_choiceOf 56 = .ok (.iconst 2, 1) := by decide +kernel
theorem dX12_choiceOf_57 : decode cX12_choiceOf 57 = .ok (.iaload, 1) := by decide +kernel
theorem dX12_choiceOf_58 : decode cX12_choiceOf 58 = .ok (.irem, 1) := by decide +kernel
theorem dX12_choiceOf_59 : decode cX12_choiceOf 59 = .ok (.istore 4, 2) := by decide +kernel
theorem dX12_choiceOf_61 : decode cX12_choiceOf 61 = .ok (.aload_n 0, 1) := by decide +kernel
theorem dX12_choiceOf_62 : decode cX12_choiceOf 62 = .ok (.iload_n 1, 1) := by decide +kernel
theorem dX12_choiceOf_63 : decode cX12_choiceOf 63 = .ok (.iload 4, 2) := by decide +kernel
theorem dX12_choiceOf_65 : decode cX12_choiceOf 65 = .ok (.invokevirtual 161, 3) := by decide +kernel
theorem dX12_choiceOf_68 : decode cX12_choiceOf 68 = .ok (.ifCond .eq 19, 3) := by decide +kernel
theorem dX12_choiceOf_71 : decode cX12_choiceOf 71 = .ok (.iload 4, 2) := by decide +kernel
theorem dX12_choiceOf_73 : decode cX12_choiceOf 73 = .ok (.iconst 1, 1) := by decide +kernel
theorem dX12_choiceOf_74 : decode cX12_choiceOf 74 = .ok (.iadd, 1) := by decide +kernel
theorem dX12_choiceOf_75 : decode cX12_choiceOf 75 = .ok (.aload_n 0, 1) := by decide +kernel
theorem dX12_choiceOf_76 : decode cX12_choiceOf 76 = .ok (.getfield 9, 3) := by decide +kernel
theorem dX12_choiceOf_79 : decode cX12_choiceOf 79 = .ok (.iconst 2, 1) := by decide +kernel
theorem dX12_choiceOf_80 : decode cX12_choiceOf 80 = .ok (.iaload, 1) := by decide +kernel
theorem dX12_choiceOf_81 : decode cX12_choiceOf 81 = .ok (.irem, 1) := by decide +kernel
theorem dX12_choiceOf_82 : decode cX12_choiceOf 82 = .ok (.istore 4, 2) := by decide +kernel
theorem dX12_choiceOf_84 : decode cX12_choiceOf 84 = .ok (.goto (-23), 3) := by decide +kernel
theorem dX12_choiceOf_87 : decode cX12_choiceOf 87 = .ok (.iload 4, 2) := by decide +kernel
theorem dX12_choiceOf_89 : decode cX12_choiceOf 89 = .ok (.ireturn, 1) := by decide +kernel
theorem dX12_choice_0 : decode cX12_choice 0 = .ok (.aload_n 0, 1) := by decide +kernel
theorem dX12_choice_1 : decode cX12_choice 1 = .ok (.iload_n 1, 1) := by decide +kernel
theorem dX12_choice_2 : decode cX12_choice 2 = .ok (.invokevirtual 141, 3) := by decide +kernel
theorem dX12_choice_5 : decode cX12_choice 5 = .ok (.ifCond .eq 14, 3) := by decide +kernel
theorem dX12_choice_8 : decode cX12_choice 8 = .ok (.aload_n 0, 1) := by decide +kernel
theorem dX12_choice_9 : decode cX12_choice 9 = .ok (.iload_n 1, 1) := by decide +kernel
theorem dX12_choice_10 : decode cX12_choice 10 = .ok (.invokevirtual 168, 3) := by decide +kernel
theorem dX12_choice_13 : decode cX12_choice 13 = .ok (.invokestatic 132, 3) := by decide +kernel
theorem dX12_choice_16 : decode cX12_choice 16 = .ok (.goto 5, 3) := by decide +kernel
theorem dX12_choice_19 : decode cX12_choice 19 = .ok (.ldc 78, 2) := by decide +kernel
theorem dX12_choice_21 : decode cX12_choice 21 = .ok (.ireturn, 1) := by decide +kernel
theorem dX12_night_0 : decode cX12_night 0 = .ok (.iconst 0, 1) := by decide +kernel
theorem dX12_night_1 : decode cX12_night 1 = .ok (.istore_n 1, 1) := by decide +kernel
theorem dX12_night_2 : decode cX12_night 2 = .ok (.iload_n 1, 1) := by decide +kernel
theorem dX12_night_3 : decode cX12_night 3 = .ok (.aload_n 0, 1) := by decide +kernel
theorem dX12_night_4 : decode cX12_night 4 = .ok (.getfield 9, 3) := by decide +kernel
theorem dX12_night_7 : decode cX12_night 7 = .ok (.iconst 3, 1) := by decide +kernel
theorem dX12_night_8 : decode cX12_night 8 = .ok (.iaload, 1) := by decide +kernel
theorem dX12_night_9 : decode cX12_night 9 = .ok (.if_icmp .ge 83, 3) := by decide +kernel
theorem dX12_night_12 : decode cX12_night 12 = .ok (.aload_n 0, 1) := by decide +kernel
theorem dX12_night_13 : decode cX12_night 13 = .ok (.iload_n 1, 1) := by decide +kernel
theorem dX12_night_14 : decode cX12_night 14 = .ok (.invokevirtual 168, 3) := by decide +kernel
theorem dX12_night_17 : decode cX12_night 17 = .ok (.istore_n 2, 1) := by decide +kernel
theorem dX12_night_18 : decode cX12_night 18 = .ok (.iload_n 2, 1) := by decide +kernel
theorem dX12_night_19 : decode cX12_night 19 = .ok (.ifCond .lt 67, 3) := by decide +kernel
theorem dX12_night_22 : decode cX12_night 22 = .ok (.aload_n 0, 1) := by decide +kernel
theorem dX12_night_23 : decode cX12_night 23 = .ok (.invokevirtual 119, 3) := by decide +kernel
theorem dX12_night_26 : decode cX12_night 26 = .ok (.sipush 10000, 3) := by decide +kernel
theorem dX12_night_29 : decode cX12_night 29 = .ok (.irem, 1) := by decide +kernel
theorem dX12_night_30 : decode cX12_night 30 = .ok (.aload_n 0, 1) := by decide +kernel
theorem dX12_night_31 : decode cX12_night 31 = .ok (.iload_n 1, 1) := by decide +kernel
theorem dX12_night_32 : decode cX12_night 32 = .ok (.iload_n 2, 1) := by decide +kernel
theorem dX12_night_33 : decode cX12_night 33 = .ok (.invokevirtual 154, 3) := by decide +kernel
theorem dX12_night_36 : decode cX12_night 36 = .ok (.if_icmp .ge 7, 3) := by decide +kernel
theorem dX12_night_39 : decode cX12_night 39 = .ok (.iconst 1, 1) := by decide +kernel
theorem dX12_night_40 : decode cX12_night 40 = .ok (.goto 4, 3) := by decide +kernel
theorem dX12_night_43 : decode cX12_night 43 = .ok (.iconst 0, 1) := by decide +kernel
theorem dX12_night_44 : decode cX12_night 44 = .ok (.istore_n 3, 1) := by decide +kernel
theorem dX12_night_45 : decode cX12_night 45 = .ok (.aload_n 0, 1) := by decide +kernel
theorem dX12_night_46 : decode cX12_night 46 = .ok (.getfield 9, 3) := by decide +kernel
theorem dX12_night_49 : decode cX12_night 49 = .ok (.iconst 4, 1) := by decide +kernel
theorem dX12_night_50 : decode cX12_night 50 = .ok (.dup2, 1) := by decide +kernel
theorem dX12_night_51 : decode cX12_night 51 = .ok (.iaload, 1) := by decide +kernel
theorem dX12_night_52 : decode cX12_night 52 = .ok (.iload_n 3, 1) := by decide +kernel
theorem dX12_night_53 : decode cX12_night 53 = .ok (.ifCond .eq 12, 3) := by decide +kernel
theorem dX12_night_56 : decode cX12_night 56 = .ok (.aload_n 0, 1) := by decide +kernel
theorem dX12_night_57 : decode cX12_night 57 = .ok (.iload_n 2, 1) := by decide +kernel
theorem dX12_night_58 : decode cX12_night 58 = .ok (.iconst 1, 1) := by decide +kernel
theorem dX12_night_59 : decode cX12_night 59 = .ok (.invokevirtual 84, 3) := by decide +kernel
theorem dX12_night_62 : decode cX12_night 62 = .ok (.goto 4, 3) := by decide +kernel
theorem dX12_night_65 : decode cX12_night 65 = .ok (.iconst 0, 1) := by decide +kernel
theorem dX12_night_66 : decode cX12_night 66 = .ok (.iadd, 1) := by decide +kernel
theorem dX12_night_67 : decode cX12_night 67 = .ok (.iastore, 1) := by decide +kernel
theorem dX12_night_68 : decode cX12_night 68 = .ok (.aload_n 0, 1) := by decide +kernel
theorem dX12_night_69 : decode cX12_night 69 = .ok (.getfield 9, 3) := by decide +kernel
theorem dX12_night_72 : decode cX12_night 72 = .ok (.iconst 5, 1) := by decide +kernel
theorem dX12_night_73 : decode cX12_night 73 = .ok (.dup2, 1) := by decide +kernel
theorem dX12_night_74 : decode cX12_night 74 = .ok (.iaload, 1) := by decide +kernel
theorem dX12_night_75 : decode cX12_night 75 = .ok (.iload_n 3, 1) := by decide +kernel
theorem dX12_night_76 : decode cX12_night 76 = .ok (.ifCond .eq 7, 3) := by decide +kernel
theorem dX12_night_79 : decode cX12_night 79 = .ok (.iconst 0, 1) := by decide +kernel
theorem dX12_night_80 : decode cX12_night 80 = .ok (.goto 4, 3) := by decide +kernel
theorem dX12_night_83 : decode cX12_night 83 = .ok (.iconst 1, 1) := by decide +kernel
theorem dX12_night_84 : decode cX12_night 84 = .ok (.iadd, 1) := by decide +kernel
theorem dX12_night_85 : decode cX12_night 85 = .ok (.iastore, 1) := by decide +kernel
theorem dX12_night_86 : decode cX12_night 86 = .ok (.iinc 1 1, 3) := by decide +kernel
theorem dX12_night_89 : decode cX12_night 89 = .ok (.goto (-87), 3) := by decide +kernel
theorem dX12_night_92 : decode cX12_night 92 = .ok (.return_, 1) := by decide +kernel
theorem dX12_nights_0 : decode cX12_nights 0 = .ok (.iload_n 1, 1) := by decide +kernel
theorem dX12_nights_1 : decode cX12_nights 1 = .ok (.iconst 1, 1) := by decide +kernel
theorem dX12_nights_2 : decode cX12_nights 2 = .ok (.bipush 60, 2) := by decide +kernel
theorem dX12_nights_4 : decode cX12_nights 4 = .ok (.invokestatic 73, 3) := by decide +kernel
theorem dX12_nights_7 : decode cX12_nights 7 = .ok (.ifCond .ne 6, 3) := by decide +kernel
theorem dX12_nights_10 : decode cX12_nights 10 = .ok (.ldc 78, 2) := by decide +kernel
theorem dX12_nights_12 : decode cX12_nights 12 = .ok (.ireturn, 1) := by decide +kernel
theorem dX12_nights_13 : decode cX12_nights 13 = .ok (.iconst 0, 1) := by decide +kernel
theorem dX12_nights_14 : decode cX12_nights 14 = .ok (.istore_n 2, 1) := by decide +kernel
theorem dX12_nights_15 : decode cX12_nights 15 = .ok (.iload_n 2, 1) := by decide +kernel
theorem dX12_nights_16 : decode cX12_nights 16 = .ok (.iload_n 1, 1) := by decide +kernel
theorem dX12_nights_17 : decode cX12_nights 17 = .ok (.if_icmp .ge 13, 3) := by decide +kernel
theorem dX12_nights_20 : decode cX12_nights 20 = .ok (.aload_n 0, 1) := by decide +kernel
theorem dX12_nights_21 : decode cX12_nights 21 = .ok (.invokevirtual 171, 3) := by decide +kernel
theorem dX12_nights_24 : decode cX12_nights 24 = .ok (.iinc 2 1, 3) := by decide +kernel
theorem dX12_nights_27 : decode cX12_nights 27 = .ok (.goto (-12), 3) := by decide +kernel
theorem dX12_nights_30 : decode cX12_nights 30 = .ok (.aload_n 0, 1) := by decide +kernel
theorem dX12_nights_31 : decode cX12_nights 31 = .ok (.getfield 9, 3) := by decide +kernel
theorem dX12_nights_34 : decode cX12_nights 34 = .ok (.iconst 4, 1) := by decide +kernel
theorem dX12_nights_35 : decode cX12_nights 35 = .ok (.iaload, 1) := by decide +kernel
theorem dX12_nights_36 : decode cX12_nights 36 = .ok (.ireturn, 1) := by decide +kernel
theorem dX12_seed_0 : decode cX12_seed 0 = .ok (.aload_n 0, 1) := by decide +kernel
theorem dX12_seed_1 : decode cX12_seed 1 = .ok (.getfield 9, 3) := by decide +kernel
theorem dX12_seed_4 : decode cX12_seed 4 = .ok (.iconst 0, 1) := by decide +kernel
theorem dX12_seed_5 : decode cX12_seed 5 = .ok (.iaload, 1) := by decide +kernel
theorem dX12_seed_6 : decode cX12_seed 6 = .ok (.istore_n 2, 1) := by decide +kernel
theorem dX12_seed_7 : decode cX12_seed 7 = .ok (.aload_n 0, 1) := by decide +kernel
theorem dX12_seed_8 : decode cX12_seed 8 = .ok (.getfield 9, 3) := by decide +kernel
theorem dX12_seed_11 : decode cX12_seed 11 = .ok (.iconst 0, 1) := by decide +kernel
theorem dX12_seed_12 : decode cX12_seed 12 = .ok (.iload_n 1, 1) := by decide +kernel
theorem dX12_seed_13 : decode cX12_seed 13 = .ok (.iastore, 1) := by decide +kernel
theorem dX12_seed_14 : decode cX12_seed 14 = .ok (.iload_n 2, 1) := by decide +kernel
theorem dX12_seed_15 : decode cX12_seed 15 = .ok (.ireturn, 1) := by decide +kernel
theorem dX12_pairOf_0 : decode cX12_pairOf 0 = .ok (.iconst (-1), 1) := by decide +kernel
theorem dX12_pairOf_1 : decode cX12_pairOf 1 = .ok (.istore_n 2, 1) := by decide +kernel
theorem dX12_pairOf_2 : decode cX12_pairOf 2 = .ok (.iconst 0, 1) := by decide +kernel
theorem dX12_pairOf_3 : decode cX12_pairOf 3 = .ok (.istore_n 3, 1) := by decide +kernel
theorem dX12_pairOf_4 : decode cX12_pairOf 4 = .ok (.iconst 0, 1) := by decide +kernel
theorem dX12_pairOf_5 : decode cX12_pairOf 5 = .ok (.istore 4, 2) := by decide +kernel
theorem dX12_pairOf_7 : decode cX12_pairOf 7 = .ok (.iload 4, 2) := by decide +kernel
theorem dX12_pairOf_9 : decode cX12_pairOf 9 = .ok (.aload_n 0, 1) := by decide +kernel
theorem dX12_pairOf_10 : decode cX12_pairOf 10 = .ok (.getfield 9, 3) := by decide +kernel
theorem dX12_pairOf_13 : decode cX12_pairOf 13 = .ok (.iconst 1, 1) := by decide +kernel
theorem dX12_pairOf_14 : decode cX12_pairOf 14 = .ok (.iaload, 1) := by decide +kernel
theorem dX12_pairOf_15 : decode cX12_pairOf 15 = .ok (.if_icmp .ge 85, 3) := by decide +kernel
theorem dX12_pairOf_18 : decode cX12_pairOf 18 = .ok (.iload 4, 2) := by decide +kernel
theorem dX12_pairOf_20 : decode cX12_pairOf 20 = .ok (.iconst 1, 1) := by decide +kernel
theorem dX12_pairOf_21 : decode cX12_pairOf 21 = .ok (.iadd, 1) := by decide +kernel
theorem dX12_pairOf_22 : decode cX12_pairOf 22 = .ok (.istore 5, 2) := by decide +kernel
theorem dX12_pairOf_24 : decode cX12_pairOf 24 = .ok (.iload 5, 2) := by decide +kernel
theorem dX12_pairOf_26 : decode cX12_pairOf 26 = .ok (.aload_n 0, 1) := by decide +kernel
theorem dX12_pairOf_27 : decode cX12_pairOf 27 = .ok (.getfield 9, 3) := by decide +kernel
theorem dX12_pairOf_30 : decode cX12_pairOf 30 = .ok (.iconst 1, 1) := by decide +kernel
theorem dX12_pairOf_31 : decode cX12_pairOf 31 = .ok (.iaload, 1) := by decide +kernel
theorem dX12_pairOf_32 : decode cX12_pairOf 32 = .ok (.if_icmp .ge 62, 3) := by decide +kernel
theorem dX12_pairOf_35 : decode cX12_pairOf 35 = .ok (.aload_n 0, 1) := by decide +kernel
theorem dX12_pairOf_36 : decode cX12_pairOf 36 = .ok (.iload 4, 2) := by decide +kernel
theorem dX12_pairOf_38 : decode cX12_pairOf 38 = .ok (.iload_n 1, 1) := by decide +kernel
theorem dX12_pairOf_39 : decode cX12_pairOf 39 = .ok (.iconst 0, 1) := by decide +kernel
theorem dX12_pairOf_40 : decode cX12_pairOf 40 = .ok (.invokevirtual 87, 3) := by decide +kernel
theorem dX12_pairOf_43 : decode cX12_pairOf 43 = .ok (.aload_n 0, 1) := by decide +kernel
theorem dX12_pairOf_44 : decode cX12_pairOf 44 = .ok (.iload 5, 2) := by decide +kernel
theorem dX12_pairOf_46 : decode cX12_pairOf 46 = .ok (.iload_n 1, 1) := by decide +kernel
theorem dX12_pairOf_47 : decode cX12_pairOf 47 = .ok (.iconst 0, 1) := by decide +kernel
theorem dX12_pairOf_48 : decode cX12_pairOf 48 = .ok (.invokevirtual 87, 3) := by decide +kernel
theorem dX12_pairOf_51 : decode cX12_pairOf 51 = .ok (.iadd, 1) := by decide +kernel
theorem dX12_pairOf_52 : decode cX12_pairOf 52 = .ok (.istore 6, 2) := by decide +kernel
theorem dX12_pairOf_54 : decode cX12_pairOf 54 = .ok (.iload_n 2, 1) := by decide +kernel
theorem dX12_pairOf_55 : decode cX12_pairOf 55 = .ok (.ifCond .lt 9, 3) := by decide +kernel
theorem dX12_pairOf_58 : decode cX12_pairOf 58 = .ok (.iload 6, 2) := by decide +kernel
theorem dX12_pairOf_60 : decode cX12_pairOf 60 = .ok (.iload_n 3, 1) := by decide +kernel
theorem dX12_pairOf_61 : decode cX12_pairOf 61 = .ok (.if_icmp .ge 27, 3) := by decide +kernel
theorem dX12_pairOf_64 : decode cX12_pairOf 64 = .ok (.aload_n 0, 1) := by decide +kernel
theorem dX12_pairOf_65 : decode cX12_pairOf 65 = .ok (.iload_n 1, 1) := by decide +kernel
theorem dX12_pairOf_66 : decode cX12_pairOf 66 = .ok (.iload 4, 2) := by decide +kernel
theorem dX12_pairOf_68 : decode cX12_pairOf 68 = .ok (.iload 5, 2) := by decide +kernel
theorem dX12_pairOf_70 : decode cX12_pairOf 70 = .ok (.invokevirtual 123, 3) := by decide +kernel
theorem dX12_pairOf_73 : decode cX12_pairOf 73 = .ok (.ifCond .eq 15, 3) := by decide +kernel
theorem dX12_pairOf_76 : decode cX12_pairOf 76 = .ok (.bipush 100, 2) := by decide +kernel
theorem dX12_pairOf_78 : decode cX12_pairOf 78 = .ok (.iload 4, 2) := by decide +kernel
theorem dX12_pairOf_80 : decode cX12_pairOf 80 = .ok (.imul, 1) := by decide +kernel
theorem dX12_pairOf_81 : decode cX12_pairOf 81 = .ok (.iload 5, 2) := by decide +kernel
theorem dX12_pairOf_83 : decode cX12_pairOf 83 = .ok (.iadd, 1) := by decide +kernel
theorem dX12_pairOf_84 : decode cX12_pairOf 84 = .ok (.istore_n 2, 1) := by decide +kernel
theorem dX12_pairOf_85 : decode cX12_pairOf 85 = .ok (.iload 6, 2) := by decide +kernel
theorem dX12_pairOf_87 : decode cX12_pairOf 87 = .ok (.istore_n 3, 1) := by decide +kernel
theorem dX12_pairOf_88 : decode cX12_pairOf 88 = .ok (.iinc 5 1, 3) := by decide +kernel
theorem dX12_pairOf_91 : decode cX12_pairOf 91 = .ok (.goto (-67), 3) := by decide +kernel
theorem dX12_pairOf_94 : decode cX12_pairOf 94 = .ok (.iinc 4 1, 3) := by decide +kernel
theorem dX12_pairOf_97 : decode cX12_pairOf 97 = .ok (.goto (-90), 3) := by decide +kernel
theorem dX12_pairOf_100 : decode cX12_pairOf 100 = .ok (.iload_n 2, 1) := by decide +kernel
theorem dX12_pairOf_101 : decode cX12_pairOf 101 = .ok (.ireturn, 1) := by decide +kernel
theorem dX12_pair_0 : decode cX12_pair 0 = .ok (.aload_n 0, 1) := by decide +kernel
theorem dX12_pair_1 : decode cX12_pair 1 = .ok (.iload_n 1, 1) := by decide +kernel
theorem dX12_pair_2 : decode cX12_pair 2 = .ok (.invokevirtual 126, 3) := by decide +kernel
theorem dX12_pair_5 : decode cX12_pair 5 = .ok (.ifCond .eq 14, 3) := by decide +kernel
theorem dX12_pair_8 : decode cX12_pair 8 = .ok (.aload_n 0, 1) := by decide +kernel
theorem dX12_pair_9 : decode cX12_pair 9 = .ok (.iload_n 1, 1) := by decide +kernel
theorem dX12_pair_10 : decode cX12_pair 10 = .ok (.invokevirtual 174, 3) := by decide +kernel
theorem dX12_pair_13 : decode cX12_pair 13 = .ok (.invokestatic 132, 3) := by decide +kernel
theorem dX12_pair_16 : decode cX12_pair 16 = .ok (.goto 5, 3) := by decide +kernel
theorem dX12_pair_19 : decode cX12_pair 19 = .ok (.ldc 78, 2) := by decide +kernel
theorem dX12_pair_21 : decode cX12_pair 21 = .ok (.ireturn, 1) := by decide +kernel
theorem dX12_unlawfulMany_0 : decode cX12_unlawfulMany 0 = .ok (.iconst 0, 1) := by decide +kernel
theorem dX12_unlawfulMany_1 : decode cX12_unlawfulMany 1 = .ok (.istore_n 1, 1) := by decide +kernel
theorem dX12_unlawfulMany_2 : decode cX12_unlawfulMany 2 = .ok (.iconst 0, 1) := by decide +kernel
theorem dX12_unlawfulMany_3 : decode cX12_unlawfulMany 3 = .ok (.istore_n 2, 1) := by decide +kernel
theorem dX12_unlawfulMany_4 : decode cX12_unlawfulMany 4 = .ok (.iload_n 2, 1) := by decide +kernel
theorem dX12_unlawfulMany_5 : decode cX12_unlawfulMany 5 = .ok (.aload_n 0, 1) := by decide +kernel
theorem dX12_unlawfulMany_6 : decode cX12_unlawfulMany 6 = .ok (.getfield 9, 3) := by decide +kernel
theorem dX12_unlawfulMany_9 : decode cX12_unlawfulMany 9 = .ok (.iconst 2, 1) := by decide +kernel
theorem dX12_unlawfulMany_10 : decode cX12_unlawfulMany 10 = .ok (.iaload, 1) := by decide +kernel
theorem dX12_unlawfulMany_11 : decode cX12_unlawfulMany 11 = .ok (.if_icmp .ge 25, 3) := by decide +kernel
theorem dX12_unlawfulMany_14 : decode cX12_unlawfulMany 14 = .ok (.iload_n 1, 1) := by decide +kernel
theorem dX12_unlawfulMany_15 : decode cX12_unlawfulMany 15 = .ok (.aload_n 0, 1) := by decide +kernel
theorem dX12_unlawfulMany_16 : decode cX12_unlawfulMany 16 = .ok (.iload_n 2, 1) := by decide +kernel
theorem dX12_unlawfulMany_17 : decode cX12_unlawfulMany 17 = .ok (.invokevirtual 129, 3) := by decide +kernel
theorem dX12_unlawfulMany_20 : decode cX12_unlawfulMany 20 = .ok (.ifCond .eq 7, 3) := by decide +kernel
theorem dX12_unlawfulMany_23 : decode cX12_unlawfulMany 23 = .ok (.iconst 0, 1) := by decide +kernel
theorem dX12_unlawfulMany_24 : decode cX12_unlawfulMany 24 = .ok (.goto 4, 3) := by decide +kernel
theorem dX12_unlawfulMany_27 : decode cX12_unlawfulMany 27 = .ok (.iconst 1, 1) := by decide +kernel
theorem dX12_unlawfulMany_28 : decode cX12_unlawfulMany 28 = .ok (.iadd, 1) := by decide +kernel
theorem dX12_unlawfulMany_29 : decode cX12_unlawfulMany 29 = .ok (.istore_n 1, 1) := by decide +kernel
theorem dX12_unlawfulMany_30 : decode cX12_unlawfulMany 30 = .ok (.iinc 2 1, 3) := by decide +kernel
theorem dX12_unlawfulMany_33 : decode cX12_unlawfulMany 33 = .ok (.goto (-29), 3) := by decide +kernel
theorem dX12_unlawfulMany_36 : decode cX12_unlawfulMany 36 = .ok (.iload_n 1, 1) := by decide +kernel
theorem dX12_unlawfulMany_37 : decode cX12_unlawfulMany 37 = .ok (.ireturn, 1) := by decide +kernel
theorem dX12_wiring_0 : decode cX12_wiring 0 = .ok (.iconst 0, 1) := by decide +kernel
theorem dX12_wiring_1 : decode cX12_wiring 1 = .ok (.istore_n 1, 1) := by decide +kernel
theorem dX12_wiring_2 : decode cX12_wiring 2 = .ok (.iload_n 1, 1) := by decide +kernel
theorem dX12_wiring_3 : decode cX12_wiring 3 = .ok (.aload_n 0, 1) := by decide +kernel
theorem dX12_wiring_4 : decode cX12_wiring 4 = .ok (.getfield 9, 3) := by decide +kernel
theorem dX12_wiring_7 : decode cX12_wiring 7 = .ok (.iconst 2, 1) := by decide +kernel
theorem dX12_wiring_8 : decode cX12_wiring 8 = .ok (.iaload, 1) := by decide +kernel
theorem dX12_wiring_9 : decode cX12_wiring 9 = .ok (.if_icmp .ge 67, 3) := by decide +kernel
theorem dX12_wiring_12 : decode cX12_wiring 12 = .ok (.aload_n 0, 1) := by decide +kernel
theorem dX12_wiring_13 : decode cX12_wiring 13 = .ok (.iload_n 1, 1) := by decide +kernel
theorem dX12_wiring_14 : decode cX12_wiring 14 = .ok (.invokevirtual 174, 3) := by decide +kernel
theorem dX12_wiring_17 : decode cX12_wiring 17 = .ok (.istore_n 2, 1) := by decide +kernel
theorem dX12_wiring_18 : decode cX12_wiring 18 = .ok (.aload_n 0, 1) := by decide +kernel
theorem dX12_wiring_19 : decode cX12_wiring 19 = .ok (.getfield 9, 3) := by decide +kernel
theorem dX12_wiring_22 : decode cX12_wiring 22 = .ok (.bipush 38, 2) := by decide +kernel
theorem dX12_wiring_24 : decode cX12_wiring 24 = .ok (.iconst 5, 1) := by decide +kernel
theorem dX12_wiring_25 : decode cX12_wiring 25 = .ok (.iload_n 1, 1) := by decide +kernel
theorem dX12_wiring_26 : decode cX12_wiring 26 = .ok (.imul, 1) := by decide +kernel
theorem dX12_wiring_27 : decode cX12_wiring 27 = .ok (.iadd, 1) := by decide +kernel
theorem dX12_wiring_28 : decode cX12_wiring 28 = .ok (.iconst 3, 1) := by decide +kernel
theorem dX12_wiring_29 : decode cX12_wiring 29 = .ok (.iadd, 1) := by decide +kernel
theorem dX12_wiring_30 : decode cX12_wiring 30 = .ok (.iload_n 2, 1) := by decide +kernel
theorem dX12_wiring_31 : decode cX12_wiring 31 = .ok (.ifCond .ge 7, 3) := by decide +kernel
theorem dX12_wiring_34 : decode cX12_wiring 34 = .ok (.iconst (-1), 1) := by decide +kernel
theorem dX12_wiring_35 : decode cX12_wiring 35 = .ok (.goto 7, 3) := by decide +kernel
theorem dX12_wiring_38 : decode cX12_wiring 38 = .ok (.iload_n 2, 1) := by decide +kernel
theorem dX12_wiring_39 : decode cX12_wiring 39 = .ok (.bipush 100, 2) := by decide +kernel
theorem dX12_wiring_41 : decode cX12_wiring 41 = .ok (.idiv, 1) := by decide +kernel
theorem dX12_wiring_42 : decode cX12_wiring 42 = .ok (.iastore, 1) := by decide +kernel
theorem dX12_wiring_43 : decode cX12_wiring 43 = .ok (.aload_n 0, 1) := by decide +kernel
theorem dX12_wiring_44 : decode cX12_wiring 44 = .ok (.getfield 9, 3) := by decide +kernel
theorem dX12_wiring_47 : decode cX12_wiring 47 = .ok (.bipush 38, 2) := by decide +kernel
theorem dX12_wiring_49 : decode cX12_wiring 49 = .ok (.iconst 5, 1) := by decide +kernel
theorem dX12_wiring_50 : decode cX12_wiring 50 = .ok (.iload_n 1, 1) := by decide +kernel
theorem dX12_wiring_51 : decode cX12_wiring 51 = .ok (.imul, 1) := by decide +kernel
theorem dX12_wiring_52 : decode cX12_wiring 52 = .ok (.iadd, 1) := by decide +kernel
theorem dX12_wiring_53 : decode cX12_wiring 53 = .ok (.iconst 3, 1) := by decide +kernel
theorem dX12_wiring_54 : decode cX12_wiring 54 = .ok (.iadd, 1) := by decide +kernel
theorem dX12_wiring_55 : decode cX12_wiring 55 = .ok (.iconst 1, 1) := by decide +kernel
theorem dX12_wiring_56 : decode cX12_wiring 56 = .ok (.iadd, 1) := by decide +kernel
theorem dX12_wiring_57 : decode cX12_wiring 57 = .ok (.iload_n 2, 1) := by decide +kernel
theorem dX12_wiring_58 : decode cX12_wiring 58 = .ok (.ifCond .ge 7, 3) := by decide +kernel
theorem dX12_wiring_61 : decode cX12_wiring 61 = .ok (.iconst (-1), 1) := by decide +kernel
theorem dX12_wiring_62 : decode cX12_wiring 62 = .ok (.goto 7, 3) := by decide +kernel
theorem dX12_wiring_65 : decode cX12_wiring 65 = .ok (.iload_n 2, 1) := by decide +kernel
theorem dX12_wiring_66 : decode cX12_wiring 66 = .ok (.bipush 100, 2) := by decide +kernel
theorem dX12_wiring_68 : decode cX12_wiring 68 = .ok (.irem, 1) := by decide +kernel
theorem dX12_wiring_69 : decode cX12_wiring 69 = .ok (.iastore, 1) := by decide +kernel
theorem dX12_wiring_70 : decode cX12_wiring 70 = .ok (.iinc 1 1, 3) := by decide +kernel
theorem dX12_wiring_73 : decode cX12_wiring 73 = .ok (.goto (-71), 3) := by decide +kernel
theorem dX12_wiring_76 : decode cX12_wiring 76 = .ok (.aload_n 0, 1) := by decide +kernel
theorem dX12_wiring_77 : decode cX12_wiring 77 = .ok (.getfield 9, 3) := by decide +kernel
theorem dX12_wiring_80 : decode cX12_wiring 80 = .ok (.iconst 2, 1) := by decide +kernel
theorem dX12_wiring_81 : decode cX12_wiring 81 = .ok (.iaload, 1) := by decide +kernel
theorem dX12_wiring_82 : decode cX12_wiring 82 = .ok (.aload_n 0, 1) := by decide +kernel
theorem dX12_wiring_83 : decode cX12_wiring 83 = .ok (.invokevirtual 177, 3) := by decide +kernel
theorem dX12_wiring_86 : decode cX12_wiring 86 = .ok (.isub, 1) := by decide +kernel
theorem dX12_wiring_87 : decode cX12_wiring 87 = .ok (.ireturn, 1) := by decide +kernel
theorem dX12_unlawful_0 : decode cX12_unlawful 0 = .ok (.iload_n 1, 1) := by decide +kernel
theorem dX12_unlawful_1 : decode cX12_unlawful 1 = .ok (.iconst 0, 1) := by decide +kernel
theorem dX12_unlawful_2 : decode cX12_unlawful 2 = .ok (.iconst 1, 1) := by decide +kernel
theorem dX12_unlawful_3 : decode cX12_unlawful 3 = .ok (.invokestatic 73, 3) := by decide +kernel
theorem dX12_unlawful_6 : decode cX12_unlawful 6 = .ok (.ifCond .ne 6, 3) := by decide +kernel
theorem dX12_unlawful_9 : decode cX12_unlawful 9 = .ok (.ldc 78, 2) := by decide +kernel
theorem dX12_unlawful_11 : decode cX12_unlawful 11 = .ok (.ireturn, 1) := by decide +kernel
theorem dX12_unlawful_12 : decode cX12_unlawful 12 = .ok (.iload_n 1, 1) := by decide +kernel
theorem dX12_unlawful_13 : decode cX12_unlawful 13 = .ok (.ifCond .ne 8, 3) := by decide +kernel
theorem dX12_unlawful_16 : decode cX12_unlawful 16 = .ok (.aload_n 0, 1) := by decide +kernel
theorem dX12_unlawful_17 : decode cX12_unlawful 17 = .ok (.invokevirtual 177, 3) := by decide +kernel
theorem dX12_unlawful_20 : decode cX12_unlawful 20 = .ok (.ireturn, 1) := by decide +kernel
theorem dX12_unlawful_21 : decode cX12_unlawful 21 = .ok (.iconst 0, 1) := by decide +kernel
theorem dX12_unlawful_22 : decode cX12_unlawful 22 = .ok (.istore_n 2, 1) := by decide +kernel
theorem dX12_unlawful_23 : decode cX12_unlawful 23 = .ok (.iload_n 2, 1) := by decide +kernel
theorem dX12_unlawful_24 : decode cX12_unlawful 24 = .ok (.aload_n 0, 1) := by decide +kernel
theorem dX12_unlawful_25 : decode cX12_unlawful 25 = .ok (.getfield 9, 3) := by decide +kernel
theorem dX12_unlawful_28 : decode cX12_unlawful 28 = .ok (.iconst 2, 1) := by decide +kernel
theorem dX12_unlawful_29 : decode cX12_unlawful 29 = .ok (.iaload, 1) := by decide +kernel
theorem dX12_unlawful_30 : decode cX12_unlawful 30 = .ok (.if_icmp .ge 17, 3) := by decide +kernel
theorem dX12_unlawful_33 : decode cX12_unlawful 33 = .ok (.aload_n 0, 1) := by decide +kernel
theorem dX12_unlawful_34 : decode cX12_unlawful 34 = .ok (.iload_n 2, 1) := by decide +kernel
theorem dX12_unlawful_35 : decode cX12_unlawful 35 = .ok (.invokevirtual 129, 3) := by decide +kernel
theorem dX12_unlawful_38 : decode cX12_unlawful 38 = .ok (.ifCond .eq 9, 3) := by decide +kernel
theorem dX12_unlawful_41 : decode cX12_unlawful 41 = .ok (.iinc 2 1, 3) := by decide +kernel
theorem dX12_unlawful_44 : decode cX12_unlawful 44 = .ok (.goto (-21), 3) := by decide +kernel
theorem dX12_unlawful_47 : decode cX12_unlawful 47 = .ok (.iload_n 2, 1) := by decide +kernel
theorem dX12_unlawful_48 : decode cX12_unlawful 48 = .ok (.aload_n 0, 1) := by decide +kernel
theorem dX12_unlawful_49 : decode cX12_unlawful 49 = .ok (.getfield 9, 3) := by decide +kernel
theorem dX12_unlawful_52 : decode cX12_unlawful 52 = .ok (.iconst 2, 1) := by decide +kernel
theorem dX12_unlawful_53 : decode cX12_unlawful 53 = .ok (.iaload, 1) := by decide +kernel
theorem dX12_unlawful_54 : decode cX12_unlawful 54 = .ok (.if_icmp .ge 7, 3) := by decide +kernel
theorem dX12_unlawful_57 : decode cX12_unlawful 57 = .ok (.iload_n 2, 1) := by decide +kernel
theorem dX12_unlawful_58 : decode cX12_unlawful 58 = .ok (.goto 5, 3) := by decide +kernel
theorem dX12_unlawful_61 : decode cX12_unlawful 61 = .ok (.ldc 72, 2) := by decide +kernel
theorem dX12_unlawful_63 : decode cX12_unlawful 63 = .ok (.ireturn, 1) := by decide +kernel
theorem dX12_worst_0 : decode cX12_worst 0 = .ok (.iload_n 1, 1) := by decide +kernel
theorem dX12_worst_1 : decode cX12_worst 1 = .ok (.iconst 0, 1) := by decide +kernel
theorem dX12_worst_2 : decode cX12_worst 2 = .ok (.iconst 2, 1) := by decide +kernel
theorem dX12_worst_3 : decode cX12_worst 3 = .ok (.invokestatic 73, 3) := by decide +kernel
theorem dX12_worst_6 : decode cX12_worst 6 = .ok (.ifCond .ne 6, 3) := by decide +kernel
theorem dX12_worst_9 : decode cX12_worst 9 = .ok (.ldc 78, 2) := by decide +kernel
theorem dX12_worst_11 : decode cX12_worst 11 = .ok (.ireturn, 1) := by decide +kernel
theorem dX12_worst_12 : decode cX12_worst 12 = .ok (.iconst (-1), 1) := by decide +kernel
theorem dX12_worst_13 : decode cX12_worst 13 = .ok (.istore_n 2, 1) := by decide +kernel
theorem dX12_worst_14 : decode cX12_worst 14 = .ok (.iconst (-1), 1) := by decide +kernel
theorem dX12_worst_15 : decode cX12_worst 15 = .ok (.istore_n 3, 1) := by decide +kernel
theorem dX12_worst_16 : decode cX12_worst 16 = .ok (.iconst (-1), 1) := by decide +kernel
theorem dX12_worst_17 : decode cX12_worst 17 = .ok (.istore 4, 2) := by decide +kernel
theorem dX12_worst_19 : decode cX12_worst 19 = .ok (.iconst 0, 1) := by decide +kernel
theorem dX12_worst_20 : decode cX12_worst 20 = .ok (.istore 5, 2) := by decide +kernel
theorem dX12_worst_22 : decode cX12_worst 22 = .ok (.iload 5, 2) := by decide +kernel
theorem dX12_worst_24 : decode cX12_worst 24 = .ok (.aload_n 0, 1) := by decide +kernel
theorem dX12_worst_25 : decode cX12_worst 25 = .ok (.getfield 9, 3) := by decide +kernel
theorem dX12_worst_28 : decode cX12_worst 28 = .ok (.iconst 3, 1) := by decide +kernel
theorem dX12_worst_29 : decode cX12_worst 29 = .ok (.iaload, 1) := by decide +kernel
theorem dX12_worst_30 : decode cX12_worst 30 = .ok (.if_icmp .ge 81, 3) := by decide +kernel
theorem dX12_worst_33 : decode cX12_worst 33 = .ok (.aload_n 0, 1) := by decide +kernel
theorem dX12_worst_34 : decode cX12_worst 34 = .ok (.iload 5, 2) := by decide +kernel
theorem dX12_worst_36 : decode cX12_worst 36 = .ok (.iconst 0, 1) := by decide +kernel
theorem dX12_worst_37 : decode cX12_worst 37 = .ok (.invokevirtual 164, 3) := by decide +kernel
theorem dX12_worst_40 : decode cX12_worst 40 = .ok (.istore 6, 2) := by decide +kernel
theorem dX12_worst_42 : decode cX12_worst 42 = .ok (.iload 6, 2) := by decide +kernel
theorem dX12_worst_44 : decode cX12_worst 44 = .ok (.ifCond .ge 7, 3) := by decide +kernel
theorem dX12_worst_47 : decode cX12_worst 47 = .ok (.iconst (-1), 1) := by decide +kernel
theorem dX12_worst_48 : decode cX12_worst 48 = .ok (.goto 11, 3) := by decide +kernel
theorem dX12_worst_51 : decode cX12_worst 51 = .ok (.aload_n 0, 1) := by decide +kernel
theorem dX12_worst_52 : decode cX12_worst 52 = .ok (.iload 5, 2) := by decide +kernel
theorem dX12_worst_54 : decode cX12_worst 54 = .ok (.iload 6, 2) := by decide +kernel
theorem dX12_worst_56 : decode cX12_worst 56 = .ok (.invokevirtual 158, 3) := by decide +kernel
theorem dX12_worst_59 : decode cX12_worst 59 = .ok (.istore 7, 2) := by decide +kernel
theorem dX12_worst_61 : decode cX12_worst 61 = .ok (.iload 7, 2) := by decide +kernel
theorem dX12_worst_63 : decode cX12_worst 63 = .ok (.iload 4, 2) := by decide +kernel
theorem dX12_worst_65 : decode cX12_worst 65 = .ok (.if_icmp .le 8, 3) := by decide +kernel
theorem dX12_worst_68 : decode cX12_worst 68 = .ok (.iload 5, 2) := by decide +kernel
theorem dX12_worst_70 : decode cX12_worst 70 = .ok (.goto 4, 3) := by decide +kernel
theorem dX12_worst_73 : decode cX12_worst 73 = .ok (.iload_n 2, 1) := by decide +kernel
theorem dX12_worst_74 : decode cX12_worst 74 = .ok (.istore_n 2, 1) := by decide +kernel
theorem dX12_worst_75 : decode cX12_worst 75 = .ok (.iload 7, 2) := by decide +kernel
theorem dX12_worst_77 : decode cX12_worst 77 = .ok (.iload 4, 2) := by decide +kernel
theorem dX12_worst_79 : decode cX12_worst 79 = .ok (.if_icmp .le 8, 3) := by decide +kernel
theorem dX12_worst_82 : decode cX12_worst 82 = .ok (.iload 6, 2) := by decide +kernel
theorem dX12_worst_84 : decode cX12_worst 84 = .ok (.goto 4, 3) := by decide +kernel
theorem dX12_worst_87 : decode cX12_worst 87 = .ok (.iload_n 3, 1) := by decide +kernel
theorem dX12_worst_88 : decode cX12_worst 88 = .ok (.istore_n 3, 1) := by decide +kernel
theorem dX12_worst_89 : decode cX12_worst 89 = .ok (.iload 7, 2) := by decide +kernel
theorem dX12_worst_91 : decode cX12_worst 91 = .ok (.iload 4, 2) := by decide +kernel
theorem dX12_worst_93 : decode cX12_worst 93 = .ok (.if_icmp .le 8, 3) := by decide +kernel
theorem dX12_worst_96 : decode cX12_worst 96 = .ok (.iload 7, 2) := by decide +kernel
theorem dX12_worst_98 : decode cX12_worst 98 = .ok (.goto 5, 3) := by decide +kernel
theorem dX12_worst_101 : decode cX12_worst 101 = .ok (.iload 4, 2) := by decide +kernel
theorem dX12_worst_103 : decode cX12_worst 103 = .ok (.istore 4, 2) := by decide +kernel
theorem dX12_worst_105 : decode cX12_worst 105 = .ok (.iinc 5 1, 3) := by decide +kernel
theorem dX12_worst_108 : decode cX12_worst 108 = .ok (.goto (-86), 3) := by decide +kernel
theorem dX12_worst_111 : decode cX12_worst 111 = .ok (.iload_n 1, 1) := by decide +kernel
theorem dX12_worst_112 : decode cX12_worst 112 = .ok (.ifCond .ne 7, 3) := by decide +kernel
theorem dX12_worst_115 : decode cX12_worst 115 = .ok (.iload_n 2, 1) := by decide +kernel
theorem dX12_worst_116 : decode cX12_worst 116 = .ok (.goto 14, 3) := by decide +kernel
theorem dX12_worst_119 : decode cX12_worst 119 = .ok (.iload_n 1, 1) := by decide +kernel
theorem dX12_worst_120 : decode cX12_worst 120 = .ok (.iconst 1, 1) := by decide +kernel
theorem dX12_worst_121 : decode cX12_worst 121 = .ok (.if_icmp .ne 7, 3) := by decide +kernel
theorem dX12_worst_124 : decode cX12_worst 124 = .ok (.iload_n 3, 1) := by decide +kernel
theorem dX12_worst_125 : decode cX12_worst 125 = .ok (.goto 5, 3) := by decide +kernel
theorem dX12_worst_128 : decode cX12_worst 128 = .ok (.iload 4, 2) := by decide +kernel
theorem dX12_worst_130 : decode cX12_worst 130 = .ok (.invokestatic 132, 3) := by decide +kernel
theorem dX12_worst_133 : decode cX12_worst 133 = .ok (.ireturn, 1) := by decide +kernel
theorem dX12_setOf_0 : decode cX12_setOf 0 = .ok (.iconst 0, 1) := by decide +kernel
theorem dX12_setOf_1 : decode cX12_setOf 1 = .ok (.istore_n 2, 1) := by decide +kernel
theorem dX12_setOf_2 : decode cX12_setOf 2 = .ok (.iconst 0, 1) := by decide +kernel
theorem dX12_setOf_3 : decode cX12_setOf 3 = .ok (.istore_n 3, 1) := by decide +kernel
theorem dX12_setOf_4 : decode cX12_setOf 4 = .ok (.iload_n 3, 1) := by decide +kernel
theorem dX12_setOf_5 : decode cX12_setOf 5 = .ok (.iconst 2, 1) := by decide +kernel
theorem dX12_setOf_6 : decode cX12_setOf 6 = .ok (.if_icmp .ge 37, 3) := by decide +kernel
theorem dX12_setOf_9 : decode cX12_setOf 9 = .ok (.iload_n 2, 1) := by decide +kernel
theorem dX12_setOf_10 : decode cX12_setOf 10 = .ok (.aload_n 0, 1) := by decide +kernel
theorem dX12_setOf_11 : decode cX12_setOf 11 = .ok (.iload_n 1, 1) := by decide +kernel
theorem dX12_setOf_12 : decode cX12_setOf 12 = .ok (.iconst 3, 1) := by decide +kernel
theorem dX12_setOf_13 : decode cX12_setOf 13 = .ok (.iload_n 3, 1) := by decide +kernel
theorem dX12_setOf_14 : decode cX12_setOf 14 = .ok (.iadd, 1) := by decide +kernel
theorem dX12_setOf_15 : decode cX12_setOf 15 = .ok (.invokevirtual 84, 3) := by decide +kernel
theorem dX12_setOf_18 : decode cX12_setOf 18 = .ok (.ifCond .ge 7, 3) := by decide +kernel
theorem dX12_setOf_21 : decode cX12_setOf 21 = .ok (.iconst 0, 1) := by decide +kernel
theorem dX12_setOf_22 : decode cX12_setOf 22 = .ok (.goto 13, 3) := by decide +kernel
theorem dX12_setOf_25 : decode cX12_setOf 25 = .ok (.iconst 1, 1) := by decide +kernel
theorem dX12_setOf_26 : decode cX12_setOf 26 = .ok (.aload_n 0, 1) := by decide +kernel
theorem dX12_setOf_27 : decode cX12_setOf 27 = .ok (.iload_n 1, 1) := by decide +kernel
theorem dX12_setOf_28 : decode cX12_setOf 28 = .ok (.iconst 3, 1) := by decide +kernel
theorem dX12_setOf_29 : decode cX12_setOf 29 = .ok (.iload_n 3, 1) := by decide +kernel
theorem dX12_setOf_30 : decode cX12_setOf 30 = .ok (.iadd, 1) := by decide +kernel
theorem dX12_setOf_31 : decode cX12_setOf 31 = .ok (.invokevirtual 84, 3) := by decide +kernel
theorem dX12_setOf_34 : decode cX12_setOf 34 = .ok (.ishl, 1) := by decide +kernel
theorem dX12_setOf_35 : decode cX12_setOf 35 = .ok (.ior, 1) := by decide +kernel
theorem dX12_setOf_36 : decode cX12_setOf 36 = .ok (.istore_n 2, 1) := by decide +kernel
theorem dX12_setOf_37 : decode cX12_setOf 37 = .ok (.iinc 3 1, 3) := by decide +kernel
theorem dX12_setOf_40 : decode cX12_setOf 40 = .ok (.goto (-36), 3) := by decide +kernel
theorem dX12_setOf_43 : decode cX12_setOf 43 = .ok (.iload_n 2, 1) := by decide +kernel
theorem dX12_setOf_44 : decode cX12_setOf 44 = .ok (.ireturn, 1) := by decide +kernel
theorem dX12_heardBy_0 : decode cX12_heardBy 0 = .ok (.iconst 0, 1) := by decide +kernel
theorem dX12_heardBy_1 : decode cX12_heardBy 1 = .ok (.istore_n 2, 1) := by decide +kernel
theorem dX12_heardBy_2 : decode cX12_heardBy 2 = .ok (.iconst 0, 1) := by decide +kernel
theorem dX12_heardBy_3 : decode cX12_heardBy 3 = .ok (.istore_n 3, 1) := by decide +kernel
theorem dX12_heardBy_4 : decode cX12_heardBy 4 = .ok (.iload_n 3, 1) := by decide +kernel
theorem dX12_heardBy_5 : decode cX12_heardBy 5 = .ok (.aload_n 0, 1) := by decide +kernel
theorem dX12_heardBy_6 : decode cX12_heardBy 6 = .ok (.getfield 9, 3) := by decide +kernel
theorem dX12_heardBy_9 : decode cX12_heardBy 9 = .ok (.iconst 2, 1) := by decide +kernel
theorem dX12_heardBy_10 : decode cX12_heardBy 10 = .ok (.iaload, 1) := by decide +kernel
theorem dX12_heardBy_11 : decode cX12_heardBy 11 = .ok (.if_icmp .ge 29, 3) := by decide +kernel
theorem dX12_heardBy_14 : decode cX12_heardBy 14 = .ok (.iload_n 2, 1) := by decide +kernel
theorem dX12_heardBy_15 : decode cX12_heardBy 15 = .ok (.aload_n 0, 1) := by decide +kernel
theorem dX12_heardBy_16 : decode cX12_heardBy 16 = .ok (.iload_n 3, 1) := by decide +kernel
theorem dX12_heardBy_17 : decode cX12_heardBy 17 = .ok (.invokevirtual 180, 3) := by decide +kernel
theorem dX12_heardBy_20 : decode cX12_heardBy 20 = .ok (.iload_n 1, 1) := by decide +kernel
theorem dX12_heardBy_21 : decode cX12_heardBy 21 = .ok (.iand, 1) := by decide +kernel
theorem dX12_heardBy_22 : decode cX12_heardBy 22 = .ok (.ifCond .eq 9, 3) := by decide +kernel
theorem dX12_heardBy_25 : decode cX12_heardBy 25 = .ok (.iconst 1, 1) := by decide +kernel
theorem dX12_heardBy_26 : decode cX12_heardBy 26 = .ok (.iload_n 3, 1) := by decide +kernel
theorem dX12_heardBy_27 : decode cX12_heardBy 27 = .ok (.ishl, 1) := by decide +kernel
theorem dX12_heardBy_28 : decode cX12_heardBy 28 = .ok (.goto 4, 3) := by decide +kernel
theorem dX12_heardBy_31 : decode cX12_heardBy 31 = .ok (.iconst 0, 1) := by decide +kernel
theorem dX12_heardBy_32 : decode cX12_heardBy 32 = .ok (.ior, 1) := by decide +kernel
theorem dX12_heardBy_33 : decode cX12_heardBy 33 = .ok (.istore_n 2, 1) := by decide +kernel
theorem dX12_heardBy_34 : decode cX12_heardBy 34 = .ok (.iinc 3 1, 3) := by decide +kernel
theorem dX12_heardBy_37 : decode cX12_heardBy 37 = .ok (.goto (-33), 3) := by decide +kernel
theorem dX12_heardBy_40 : decode cX12_heardBy 40 = .ok (.iload_n 2, 1) := by decide +kernel
theorem dX12_heardBy_41 : decode cX12_heardBy 41 = .ok (.ireturn, 1) := by decide +kernel
theorem dX12_heard_0 : decode cX12_heard 0 = .ok (.iload_n 1, 1) := by decide +kernel
theorem dX12_heard_1 : decode cX12_heard 1 = .ok (.ifCond .lt 14, 3) := by decide +kernel
theorem dX12_heard_4 : decode cX12_heard 4 = .ok (.iload_n 1, 1) := by decide +kernel
theorem dX12_heard_5 : decode cX12_heard 5 = .ok (.aload_n 0, 1) := by decide +kernel
theorem dX12_heard_6 : decode cX12_heard 6 = .ok (.getfield 9, 3) := by decide +kernel
theorem dX12_heard_9 : decode cX12_heard 9 = .ok (.iconst 1, 1) := by decide +kernel
theorem dX12_heard_10 : decode cX12_heard 10 = .ok (.iaload, 1) := by decide +kernel
theorem dX12_heard_11 : decode cX12_heard 11 = .ok (.ishr, 1) := by decide +kernel
theorem dX12_heard_12 : decode cX12_heard 12 = .ok (.ifCond .eq 8, 3) := by decide +kernel
theorem dX12_heard_15 : decode cX12_heard 15 = .ok (.ldc 78, 2) := by decide +kernel
theorem dX12_heard_17 : decode cX12_heard 17 = .ok (.goto 8, 3) := by decide +kernel
theorem dX12_heard_20 : decode cX12_heard 20 = .ok (.aload_n 0, 1) := by decide +kernel
theorem dX12_heard_21 : decode cX12_heard 21 = .ok (.iload_n 1, 1) := by decide +kernel
theorem dX12_heard_22 : decode cX12_heard 22 = .ok (.invokevirtual 183, 3) := by decide +kernel
theorem dX12_heard_25 : decode cX12_heard 25 = .ok (.ireturn, 1) := by decide +kernel
theorem dX12_bitsOf_0 : decode cX12_bitsOf 0 = .ok (.iconst 0, 1) := by decide +kernel
theorem dX12_bitsOf_1 : decode cX12_bitsOf 1 = .ok (.istore_n 1, 1) := by decide +kernel
theorem dX12_bitsOf_2 : decode cX12_bitsOf 2 = .ok (.iload_n 0, 1) := by decide +kernel
theorem dX12_bitsOf_3 : decode cX12_bitsOf 3 = .ok (.istore_n 2, 1) := by decide +kernel
theorem dX12_bitsOf_4 : decode cX12_bitsOf 4 = .ok (.iload_n 2, 1) := by decide +kernel
theorem dX12_bitsOf_5 : decode cX12_bitsOf 5 = .ok (.ifCond .eq 15, 3) := by decide +kernel
theorem dX12_bitsOf_8 : decode cX12_bitsOf 8 = .ok (.iinc 1 1, 3) := by decide +kernel
theorem dX12_bitsOf_11 : decode cX12_bitsOf 11 = .ok (.iload_n 2, 1) := by decide +kernel
theorem dX12_bitsOf_12 : decode cX12_bitsOf 12 = .ok (.iload_n 2, 1) := by decide +kernel
theorem dX12_bitsOf_13 : decode cX12_bitsOf 13 = .ok (.iconst 1, 1) := by decide +kernel
theorem dX12_bitsOf_14 : decode cX12_bitsOf 14 = .ok (.isub, 1) := by decide +kernel
theorem dX12_bitsOf_15 : decode cX12_bitsOf 15 = .ok (.iand, 1) := by decide +kernel
theorem dX12_bitsOf_16 : decode cX12_bitsOf 16 = .ok (.istore_n 2, 1) := by decide +kernel
theorem dX12_bitsOf_17 : decode cX12_bitsOf 17 = .ok (.goto (-13), 3) := by decide +kernel
theorem dX12_bitsOf_20 : decode cX12_bitsOf 20 = .ok (.iload_n 1, 1) := by decide +kernel
theorem dX12_bitsOf_21 : decode cX12_bitsOf 21 = .ok (.ireturn, 1) := by decide +kernel
theorem dX12_fewest_0 : decode cX12_fewest 0 = .ok (.iconst 1, 1) := by decide +kernel
theorem dX12_fewest_1 : decode cX12_fewest 1 = .ok (.aload_n 0, 1) := by decide +kernel
theorem dX12_fewest_2 : decode cX12_fewest 2 = .ok (.getfield 9, 3) := by decide +kernel
theorem dX12_fewest_5 : decode cX12_fewest 5 = .ok (.iconst 1, 1) := by decide +kernel
theorem dX12_fewest_6 : decode cX12_fewest 6 = .ok (.iaload, 1) := by decide +kernel
theorem dX12_fewest_7 : decode cX12_fewest 7 = .ok (.ishl, 1) := by decide +kernel
theorem dX12_fewest_8 : decode cX12_fewest 8 = .ok (.iconst 1, 1) := by decide +kernel
theorem dX12_fewest_9 : decode cX12_fewest 9 = .ok (.isub, 1) := by decide +kernel
theorem dX12_fewest_10 : decode cX12_fewest 10 = .ok (.istore_n 1, 1) := by decide +kernel
theorem dX12_fewest_11 : decode cX12_fewest 11 = .ok (.aload_n 0, 1) := by decide +kernel
theorem dX12_fewest_12 : decode cX12_fewest 12 = .ok (.iload_n 1, 1) := by decide +kernel
theorem dX12_fewest_13 : decode cX12_fewest 13 = .ok (.invokevirtual 183, 3) := by decide +kernel
theorem dX12_fewest_16 : decode cX12_fewest 16 = .ok (.istore_n 2, 1) := by decide +kernel
theorem dX12_fewest_17 : decode cX12_fewest 17 = .ok (.iload_n 1, 1) := by decide +kernel
theorem dX12_fewest_18 : decode cX12_fewest 18 = .ok (.istore_n 3, 1) := by decide +kernel
theorem dX12_fewest_19 : decode cX12_fewest 19 = .ok (.iload_n 1, 1) := by decide +kernel
theorem dX12_fewest_20 : decode cX12_fewest 20 = .ok (.istore 4, 2) := by decide +kernel
theorem dX12_fewest_22 : decode cX12_fewest 22 = .ok (.iload 4, 2) := by decide +kernel
theorem dX12_fewest_24 : decode cX12_fewest 24 = .ok (.ifCond .lt 38, 3) := by decide +kernel
theorem dX12_fewest_27 : decode cX12_fewest 27 = .ok (.iload 4, 2) := by decide +kernel
theorem dX12_fewest_29 : decode cX12_fewest 29 = .ok (.invokestatic 186, 3) := by decide +kernel
theorem dX12_fewest_32 : decode cX12_fewest 32 = .ok (.iload_n 3, 1) := by decide +kernel
theorem dX12_fewest_33 : decode cX12_fewest 33 = .ok (.invokestatic 186, 3) := by decide +kernel
theorem dX12_fewest_36 : decode cX12_fewest 36 = .ok (.if_icmp .gt 18, 3) := by decide +kernel
theorem dX12_fewest_39 : decode cX12_fewest 39 = .ok (.aload_n 0, 1) := by decide +kernel
theorem dX12_fewest_40 : decode cX12_fewest 40 = .ok (.iload 4, 2) := by decide +kernel
theorem dX12_fewest_42 : decode cX12_fewest 42 = .ok (.invokevirtual 183, 3) := by decide +kernel
theorem dX12_fewest_45 : decode cX12_fewest 45 = .ok (.iload_n 2, 1) := by decide +kernel
theorem dX12_fewest_46 : decode cX12_fewest 46 = .ok (.if_icmp .ne 8, 3) := by decide +kernel
theorem dX12_fewest_49 : decode cX12_fewest 49 = .ok (.iload 4, 2) := by decide +kernel
theorem dX12_fewest_51 : decode cX12_fewest 51 = .ok (.goto 4, 3) := by decide +kernel
theorem dX12_fewest_54 : decode cX12_fewest 54 = .ok (.iload_n 3, 1) := by decide +kernel
theorem dX12_fewest_55 : decode cX12_fewest 55 = .ok (.istore_n 3, 1) := by decide +kernel
theorem dX12_fewest_56 : decode cX12_fewest 56 = .ok (.iinc 4 (-1), 3) := by decide +kernel
theorem dX12_fewest_59 : decode cX12_fewest 59 = .ok (.goto (-37), 3) := by decide +kernel
theorem dX12_fewest_62 : decode cX12_fewest 62 = .ok (.iload_n 3, 1) := by decide +kernel
theorem dX12_fewest_63 : decode cX12_fewest 63 = .ok (.ireturn, 1) := by decide +kernel
theorem dX12_alike_0 : decode cX12_alike 0 = .ok (.iconst 0, 1) := by decide +kernel
theorem dX12_alike_1 : decode cX12_alike 1 = .ok (.istore_n 1, 1) := by decide +kernel
theorem dX12_alike_2 : decode cX12_alike 2 = .ok (.iconst 0, 1) := by decide +kernel
theorem dX12_alike_3 : decode cX12_alike 3 = .ok (.istore_n 2, 1) := by decide +kernel
theorem dX12_alike_4 : decode cX12_alike 4 = .ok (.iload_n 2, 1) := by decide +kernel
theorem dX12_alike_5 : decode cX12_alike 5 = .ok (.aload_n 0, 1) := by decide +kernel
theorem dX12_alike_6 : decode cX12_alike 6 = .ok (.getfield 9, 3) := by decide +kernel
theorem dX12_alike_9 : decode cX12_alike 9 = .ok (.iconst 2, 1) := by decide +kernel
theorem dX12_alike_10 : decode cX12_alike 10 = .ok (.iaload, 1) := by decide +kernel
theorem dX12_alike_11 : decode cX12_alike 11 = .ok (.if_icmp .ge 43, 3) := by decide +kernel
theorem dX12_alike_14 : decode cX12_alike 14 = .ok (.iconst 0, 1) := by decide +kernel
theorem dX12_alike_15 : decode cX12_alike 15 = .ok (.istore_n 3, 1) := by decide +kernel
theorem dX12_alike_16 : decode cX12_alike 16 = .ok (.iload_n 3, 1) := by decide +kernel
theorem dX12_alike_17 : decode cX12_alike 17 = .ok (.iload_n 2, 1) := by decide +kernel
theorem dX12_alike_18 : decode cX12_alike 18 = .ok (.if_icmp .ge 30, 3) := by decide +kernel
theorem dX12_alike_21 : decode cX12_alike 21 = .ok (.iload_n 1, 1) := by decide +kernel
theorem dX12_alike_22 : decode cX12_alike 22 = .ok (.aload_n 0, 1) := by decide +kernel
theorem dX12_alike_23 : decode cX12_alike 23 = .ok (.iload_n 2, 1) := by decide +kernel
theorem dX12_alike_24 : decode cX12_alike 24 = .ok (.invokevirtual 180, 3) := by decide +kernel
theorem dX12_alike_27 : decode cX12_alike 27 = .ok (.aload_n 0, 1) := by decide +kernel
theorem dX12_alike_28 : decode cX12_alike 28 = .ok (.iload_n 3, 1) := by decide +kernel
theorem dX12_alike_29 : decode cX12_alike 29 = .ok (.invokevirtual 180, 3) := by decide +kernel
theorem dX12_alike_32 : decode cX12_alike 32 = .ok (.if_icmp .ne 7, 3) := by decide +kernel
theorem dX12_alike_35 : decode cX12_alike 35 = .ok (.iconst 1, 1) := by decide +kernel
theorem dX12_alike_36 : decode cX12_alike 36 = .ok (.goto 4, 3) := by decide +kernel
theorem dX12_alike_39 : decode cX12_alike 39 = .ok (.iconst 0, 1) := by decide +kernel
theorem dX12_alike_40 : decode cX12_alike 40 = .ok (.iadd, 1) := by decide +kernel
theorem dX12_alike_41 : decode cX12_alike 41 = .ok (.istore_n 1, 1) := by decide +kernel
theorem dX12_alike_42 : decode cX12_alike 42 = .ok (.iinc 3 1, 3) := by decide +kernel
theorem dX12_alike_45 : decode cX12_alike 45 = .ok (.goto (-29), 3) := by decide +kernel
theorem dX12_alike_48 : decode cX12_alike 48 = .ok (.iinc 2 1, 3) := by decide +kernel
theorem dX12_alike_51 : decode cX12_alike 51 = .ok (.goto (-47), 3) := by decide +kernel
theorem dX12_alike_54 : decode cX12_alike 54 = .ok (.iload_n 1, 1) := by decide +kernel
theorem dX12_alike_55 : decode cX12_alike 55 = .ok (.ireturn, 1) := by decide +kernel
theorem dX12_feed_0 : decode cX12_feed 0 = .ok (.aload_n 0, 1) := by decide +kernel
theorem dX12_feed_1 : decode cX12_feed 1 = .ok (.getfield 189, 3) := by decide +kernel
theorem dX12_feed_4 : decode cX12_feed 4 = .ok (.bipush 12, 2) := by decide +kernel
theorem dX12_feed_6 : decode cX12_feed 6 = .ok (.iadd, 1) := by decide +kernel
theorem dX12_feed_7 : decode cX12_feed 7 = .ok (.bipush 96, 2) := by decide +kernel
theorem dX12_feed_9 : decode cX12_feed 9 = .ok (.if_icmp .le 6, 3) := by decide +kernel
theorem dX12_feed_12 : decode cX12_feed 12 = .ok (.ldc 79, 2) := by decide +kernel
theorem dX12_feed_14 : decode cX12_feed 14 = .ok (.ireturn, 1) := by decide +kernel
theorem dX12_feed_15 : decode cX12_feed 15 = .ok (.iconst 0, 1) := by decide +kernel
theorem dX12_feed_16 : decode cX12_feed 16 = .ok (.istore 4, 2) := by decide +kernel
theorem dX12_feed_18 : decode cX12_feed 18 = .ok (.iload 4, 2) := by decide +kernel
theorem dX12_feed_20 : decode cX12_feed 20 = .ok (.bipush 12, 2) := by decide +kernel
theorem dX12_feed_22 : decode cX12_feed 22 = .ok (.if_icmp .ge 62, 3) := by decide +kernel
theorem dX12_feed_25 : decode cX12_feed 25 = .ok (.iload 4, 2) := by decide +kernel
theorem dX12_feed_27 : decode cX12_feed 27 = .ok (.iconst 4, 1) := by decide +kernel
theorem dX12_feed_28 : decode cX12_feed 28 = .ok (.if_icmp .ge 7, 3) := by decide +kernel
theorem dX12_feed_31 : decode cX12_feed 31 = .ok (.iload_n 1, 1) := by decide +kernel
theorem dX12_feed_32 : decode cX12_feed 32 = .ok (.goto 15, 3) := by decide +kernel
theorem dX12_feed_35 : decode cX12_feed 35 = .ok (.iload 4, 2) := by decide +kernel
theorem dX12_feed_37 : decode cX12_feed 37 = .ok (.bipush 8, 2) := by decide +kernel
theorem dX12_feed_39 : decode cX12_feed 39 = .ok (.if_icmp .ge 7, 3) := by decide +kernel
theorem dX12_feed_42 : decode cX12_feed 42 = .ok (.iload_n 2, 1) := by decide +kernel
theorem dX12_feed_43 : decode cX12_feed 43 = .ok (.goto 4, 3) := by decide +kernel
theorem dX12_feed_46 : decode cX12_feed 46 = .ok (.iload_n 3, 1) := by decide +kernel
theorem dX12_feed_47 : decode cX12_feed 47 = .ok (.istore 5, 2) := by decide +kernel
theorem dX12_feed_49 : decode cX12_feed 49 = .ok (.aload_n 0, 1) := by decide +kernel
theorem dX12_feed_50 : decode cX12_feed 50 = .ok (.getfield 19, 3) := by decide +kernel
theorem dX12_feed_53 : decode cX12_feed 53 = .ok (.aload_n 0, 1) := by decide +kernel
theorem dX12_feed_54 : decode cX12_feed 54 = .ok (.getfield 189, 3) := by decide +kernel
theorem dX12_feed_57 : decode cX12_feed 57 = .ok (.iload 4, 2) := by decide +kernel
theorem dX12_feed_59 : decode cX12_feed 59 = .ok (.iadd, 1) := by decide +kernel
theorem dX12_feed_60 : decode cX12_feed 60 = .ok (.iload 5, 2) := by decide +kernel
theorem dX12_feed_62 : decode cX12_feed 62 = .ok (.bipush 24, 2) := by decide +kernel
theorem dX12_feed_64 : decode cX12_feed 64 = .ok (.bipush 8, 2) := by decide +kernel
theorem dX12_feed_66 : decode cX12_feed 66 = .ok (.iload 4, 2) := by decide +kernel
theorem dX12_feed_68 : decode cX12_feed 68 = .ok (.iconst 4, 1) := by decide +kernel
theorem dX12_feed_69 : decode cX12_feed 69 = .ok (.irem, 1) := by decide +kernel
theorem dX12_feed_70 : decode cX12_feed 70 = .ok (.imul, 1) := by decide +kernel
theorem dX12_feed_71 : decode cX12_feed 71 = .ok (.isub, 1) := by decide +kernel
theorem dX12_feed_72 : decode cX12_feed 72 = .ok (.ishr, 1) := by decide +kernel
theorem dX12_feed_73 : decode cX12_feed 73 = .ok (.sipush 255, 3) := by decide +kernel
theorem dX12_feed_76 : decode cX12_feed 76 = .ok (.iand, 1) := by decide +kernel
theorem dX12_feed_77 : decode cX12_feed 77 = .ok (.iastore, 1) := by decide +kernel
theorem dX12_feed_78 : decode cX12_feed 78 = .ok (.iinc 4 1, 3) := by decide +kernel
theorem dX12_feed_81 : decode cX12_feed 81 = .ok (.goto (-63), 3) := by decide +kernel
theorem dX12_feed_84 : decode cX12_feed 84 = .ok (.aload_n 0, 1) := by decide +kernel
theorem dX12_feed_85 : decode cX12_feed 85 = .ok (.dup, 1) := by decide +kernel
theorem dX12_feed_86 : decode cX12_feed 86 = .ok (.getfield 189, 3) := by decide +kernel
theorem dX12_feed_89 : decode cX12_feed 89 = .ok (.bipush 12, 2) := by decide +kernel
theorem dX12_feed_91 : decode cX12_feed 91 = .ok (.iadd, 1) := by decide +kernel
theorem dX12_feed_92 : decode cX12_feed 92 = .ok (.putfield 189, 3) := by decide +kernel
theorem dX12_feed_95 : decode cX12_feed 95 = .ok (.aload_n 0, 1) := by decide +kernel
theorem dX12_feed_96 : decode cX12_feed 96 = .ok (.getfield 189, 3) := by decide +kernel
theorem dX12_feed_99 : decode cX12_feed 99 = .ok (.ireturn, 1) := by decide +kernel
theorem dX12_trim_0 : decode cX12_trim 0 = .ok (.iload_n 1, 1) := by decide +kernel
theorem dX12_trim_1 : decode cX12_trim 1 = .ok (.iconst 0, 1) := by decide +kernel
theorem dX12_trim_2 : decode cX12_trim 2 = .ok (.aload_n 0, 1) := by decide +kernel
theorem dX12_trim_3 : decode cX12_trim 3 = .ok (.getfield 189, 3) := by decide +kernel
theorem dX12_trim_6 : decode cX12_trim 6 = .ok (.invokestatic 73, 3) := by decide +kernel
theorem dX12_trim_9 : decode cX12_trim 9 = .ok (.ifCond .ne 6, 3) := by decide +kernel
theorem dX12_trim_12 : decode cX12_trim 12 = .ok (.ldc 78, 2) := by decide +kernel
theorem dX12_trim_14 : decode cX12_trim 14 = .ok (.ireturn, 1) := by decide +kernel
theorem dX12_trim_15 : decode cX12_trim 15 = .ok (.aload_n 0, 1) := by decide +kernel
theorem dX12_trim_16 : decode cX12_trim 16 = .ok (.iload_n 1, 1) := by decide +kernel
theorem dX12_trim_17 : decode cX12_trim 17 = .ok (.putfield 189, 3) := by decide +kernel
theorem dX12_trim_20 : decode cX12_trim 20 = .ok (.iload_n 1, 1) := by decide +kernel
theorem dX12_trim_21 : decode cX12_trim 21 = .ok (.ireturn, 1) := by decide +kernel
theorem dX12_isLetter_0 : decode cX12_isLetter 0 = .ok (.iload_n 1, 1) := by decide +kernel
theorem dX12_isLetter_1 : decode cX12_isLetter 1 = .ok (.aload_n 0, 1) := by decide +kernel
theorem dX12_isLetter_2 : decode cX12_isLetter 2 = .ok (.getfield 189, 3) := by decide +kernel
theorem dX12_isLetter_5 : decode cX12_isLetter 5 = .ok (.if_icmp .ge 29, 3) := by decide +kernel
theorem dX12_isLetter_8 : decode cX12_isLetter 8 = .ok (.aload_n 0, 1) := by decide +kernel
theorem dX12_isLetter_9 : decode cX12_isLetter 9 = .ok (.getfield 19, 3) := by decide +kernel
theorem dX12_isLetter_12 : decode cX12_isLetter 12 = .ok (.iload_n 1, 1) := by decide +kernel
theorem dX12_isLetter_13 : decode cX12_isLetter 13 = .ok (.iaload, 1) := by decide +kernel
theorem dX12_isLetter_14 : decode cX12_isLetter 14 = .ok (.bipush 97, 2) := by decide +kernel
theorem dX12_isLetter_16 : decode cX12_isLetter 16 = .ok (.if_icmp .lt 18, 3) := by decide +kernel
theorem dX12_isLetter_19 : decode cX12_isLetter 19 = .ok (.aload_n 0, 1) := by decide +kernel
theorem dX12_isLetter_20 : decode cX12_isLetter 20 = .ok (.getfield 19, 3) := by decide +kernel
theorem dX12_isLetter_23 : decode cX12_isLetter 23 = .ok (.iload_n 1, 1) := by decide +kernel
theorem dX12_isLetter_24 : decode cX12_isLetter 24 = .ok (.iaload, 1) := by decide +kernel
theorem dX12_isLetter_25 : decode cX12_isLetter 25 = .ok (.bipush 122, 2) := by decide +kernel
theorem dX12_isLetter_27 : decode cX12_isLetter 27 = .ok (.if_icmp .gt 7, 3) := by decide +kernel
theorem dX12_isLetter_30 : decode cX12_isLetter 30 = .ok (.iconst 1, 1) := by decide +kernel
theorem dX12_isLetter_31 : decode cX12_isLetter 31 = .ok (.goto 4, 3) := by decide +kernel
theorem dX12_isLetter_34 : decode cX12_isLetter 34 = .ok (.iconst 0, 1) := by decide +kernel
theorem dX12_isLetter_35 : decode cX12_isLetter 35 = .ok (.ireturn, 1) := by decide +kernel
theorem dX12_isFigure_0 : decode cX12_isFigure 0 = .ok (.iload_n 1, 1) := by decide +kernel
theorem dX12_isFigure_1 : decode cX12_isFigure 1 = .ok (.aload_n 0, 1) := by decide +kernel
theorem dX12_isFigure_2 : decode cX12_isFigure 2 = .ok (.getfield 189, 3) := by decide +kernel
theorem dX12_isFigure_5 : decode cX12_isFigure 5 = .ok (.if_icmp .ge 29, 3) := by decide +kernel
theorem dX12_isFigure_8 : decode cX12_isFigure 8 = .ok (.aload_n 0, 1) := by decide +kernel
theorem dX12_isFigure_9 : decode cX12_isFigure 9 = .ok (.getfield 19, 3) := by decide +kernel
theorem dX12_isFigure_12 : decode cX12_isFigure 12 = .ok (.iload_n 1, 1) := by decide +kernel
theorem dX12_isFigure_13 : decode cX12_isFigure 13 = .ok (.iaload, 1) := by decide +kernel
theorem dX12_isFigure_14 : decode cX12_isFigure 14 = .ok (.bipush 48, 2) := by decide +kernel
theorem dX12_isFigure_16 : decode cX12_isFigure 16 = .ok (.if_icmp .lt 18, 3) := by decide +kernel
theorem dX12_isFigure_19 : decode cX12_isFigure 19 = .ok (.aload_n 0, 1) := by decide +kernel
theorem dX12_isFigure_20 : decode cX12_isFigure 20 = .ok (.getfield 19, 3) := by decide +kernel
theorem dX12_isFigure_23 : decode cX12_isFigure 23 = .ok (.iload_n 1, 1) := by decide +kernel
theorem dX12_isFigure_24 : decode cX12_isFigure 24 = .ok (.iaload, 1) := by decide +kernel
theorem dX12_isFigure_25 : decode cX12_isFigure 25 = .ok (.bipush 57, 2) := by decide +kernel
theorem dX12_isFigure_27 : decode cX12_isFigure 27 = .ok (.if_icmp .gt 7, 3) := by decide +kernel
theorem dX12_isFigure_30 : decode cX12_isFigure 30 = .ok (.iconst 1, 1) := by decide +kernel
theorem dX12_isFigure_31 : decode cX12_isFigure 31 = .ok (.goto 4, 3) := by decide +kernel
theorem dX12_isFigure_34 : decode cX12_isFigure 34 = .ok (.iconst 0, 1) := by decide +kernel
theorem dX12_isFigure_35 : decode cX12_isFigure 35 = .ok (.ireturn, 1) := by decide +kernel
theorem dX12_go_0 : decode cX12_go 0 = .ok (.aload_n 0, 1) := by decide +kernel
theorem dX12_go_1 : decode cX12_go 1 = .ok (.getfield 193, 3) := by decide +kernel
theorem dX12_go_4 : decode cX12_go 4 = .ok (.aload_n 0, 1) := by decide +kernel
theorem dX12_go_5 : decode cX12_go 5 = .ok (.getfield 189, 3) := by decide +kernel
theorem dX12_go_8 : decode cX12_go 8 = .ok (.if_icmp .ge 30, 3) := by decide +kernel
theorem dX12_go_11 : decode cX12_go 11 = .ok (.aload_n 0, 1) := by decide +kernel
theorem dX12_go_12 : decode cX12_go 12 = .ok (.getfield 19, 3) := by decide +kernel
theorem dX12_go_15 : decode cX12_go 15 = .ok (.aload_n 0, 1) := by decide +kernel
theorem dX12_go_16 : decode cX12_go 16 = .ok (.getfield 193, 3) := by decide +kernel
theorem dX12_go_19 : decode cX12_go 19 = .ok (.iaload, 1) := by decide +kernel
theorem dX12_go_20 : decode cX12_go 20 = .ok (.bipush 32, 2) := by decide +kernel
theorem dX12_go_22 : decode cX12_go 22 = .ok (.if_icmp .ne 16, 3) := by decide +kernel
theorem dX12_go_25 : decode cX12_go 25 = .ok (.aload_n 0, 1) := by decide +kernel
theorem dX12_go_26 : decode cX12_go 26 = .ok (.dup, 1) := by decide +kernel
theorem dX12_go_27 : decode cX12_go 27 = .ok (.getfield 193, 3) := by decide +kernel
theorem dX12_go_30 : decode cX12_go 30 = .ok (.iconst 1, 1) := by decide +kernel
theorem dX12_go_31 : decode cX12_go 31 = .ok (.iadd, 1) := by decide +kernel
theorem dX12_go_32 : decode cX12_go 32 = .ok (.putfield 193, 3) := by decide +kernel
theorem dX12_go_35 : decode cX12_go 35 = .ok (.goto (-35), 3) := by decide +kernel
theorem dX12_go_38 : decode cX12_go 38 = .ok (.aload_n 0, 1) := by decide +kernel
theorem dX12_go_39 : decode cX12_go 39 = .ok (.aload_n 0, 1) := by decide +kernel
theorem dX12_go_40 : decode cX12_go 40 = .ok (.getfield 193, 3) := by decide +kernel
theorem dX12_go_43 : decode cX12_go 43 = .ok (.putfield 196, 3) := by decide +kernel
theorem dX12_go_46 : decode cX12_go 46 = .ok (.aload_n 0, 1) := by decide +kernel
theorem dX12_go_47 : decode cX12_go 47 = .ok (.getfield 196, 3) := by decide +kernel
theorem dX12_go_50 : decode cX12_go 50 = .ok (.aload_n 0, 1) := by decide +kernel
theorem dX12_go_51 : decode cX12_go 51 = .ok (.getfield 199, 3) := by decide +kernel
theorem dX12_go_54 : decode cX12_go 54 = .ok (.if_icmp .ne 7, 3) := by decide +kernel
theorem dX12_go_57 : decode cX12_go 57 = .ok (.iconst 1, 1) := by decide +kernel
theorem dX12_go_58 : decode cX12_go 58 = .ok (.goto 4, 3) := by decide +kernel
theorem dX12_go_61 : decode cX12_go 61 = .ok (.iconst 0, 1) := by decide +kernel
theorem dX12_go_62 : decode cX12_go 62 = .ok (.istore_n 1, 1) := by decide +kernel
theorem dX12_go_63 : decode cX12_go 63 = .ok (.aload_n 0, 1) := by decide +kernel
theorem dX12_go_64 : decode cX12_go 64 = .ok (.getfield 196, 3) := by decide +kernel
theorem dX12_go_67 : decode cX12_go 67 = .ok (.aload_n 0, 1) := by decide +kernel
theorem dX12_go_68 : decode cX12_go 68 = .ok (.getfield 189, 3) := by decide +kernel
theorem dX12_go_71 : decode cX12_go 71 = .ok (.if_icmp .ne 11, 3) := by decide +kernel
theorem dX12_go_74 : decode cX12_go 74 = .ok (.aload_n 0, 1) := by decide +kernel
theorem dX12_go_75 : decode cX12_go 75 = .ok (.iconst 0, 1) := by decide +kernel
theorem dX12_go_76 : decode cX12_go 76 = .ok (.putfield 202, 3) := by decide +kernel
theorem dX12_go_79 : decode cX12_go 79 = .ok (.goto 224, 3) := by decide +kernel
theorem dX12_go_82 : decode cX12_go 82 = .ok (.aload_n 0, 1) := by decide +kernel
theorem dX12_go_83 : decode cX12_go 83 = .ok (.aload_n 0, 1) := by decide +kernel
theorem dX12_go_84 : decode cX12_go 84 = .ok (.getfield 196, 3) := by decide +kernel
theorem dX12_go_87 : decode cX12_go 87 = .ok (.invokevirtual 205, 3) := by decide +kernel
theorem dX12_go_90 : decode cX12_go 90 = .ok (.ifCond .eq 64, 3) := by decide +kernel
theorem dX12_go_93 : decode cX12_go 93 = .ok (.aload_n 0, 1) := by decide +kernel
theorem dX12_go_94 : decode cX12_go 94 = .ok (.aload_n 0, 1) := by decide +kernel
theorem dX12_go_95 : decode cX12_go 95 = .ok (.getfield 193, 3) := by decide +kernel
theorem dX12_go_98 : decode cX12_go 98 = .ok (.invokevirtual 205, 3) := by decide +kernel
theorem dX12_go_101 : decode cX12_go 101 = .ok (.ifCond .eq 16, 3) := by decide +kernel
theorem dX12_go_104 : decode cX12_go 104 = .ok (.aload_n 0, 1) := by decide +kernel
theorem dX12_go_105 : decode cX12_go 105 = .ok (.dup, 1) := by decide +kernel
theorem dX12_go_106 : decode cX12_go 106 = .ok (.getfield 193, 3) := by decide +kernel
theorem dX12_go_109 : decode cX12_go 109 = .ok (.iconst 1, 1) := by decide +kernel
theorem dX12_go_110 : decode cX12_go 110 = .ok (.iadd, 1) := by decide +kernel
theorem dX12_go_111 : decode cX12_go 111 = .ok (.putfield 193, 3) := by decide +kernel
theorem dX12_go_114 : decode cX12_go 114 = .ok (.goto (-21), 3) := by decide +kernel
theorem dX12_go_117 : decode cX12_go 117 = .ok (.aload_n 0, 1) := by decide +kernel
theorem dX12_go_118 : decode cX12_go 118 = .ok (.iload_n 1, 1) := by decide +kernel
theorem dX12_go_119 : decode cX12_go 119 = .ok (.ifCond .eq 7, 3) := by decide +kernel
theorem dX12_go_122 : decode cX12_go 122 = .ok (.iconst 4, 1) := by decide +kernel
theorem dX12_go_123 : decode cX12_go 123 = .ok (.goto 4, 3) := by decide +kernel
theorem dX12_go_126 : decode cX12_go 126 = .ok (.iconst 1, 1) := by decide +kernel
theorem dX12_go_127 : decode cX12_go 127 = .ok (.putfield 202, 3) := by decide +kernel
theorem dX12_go_130 : decode cX12_go 130 = .ok (.aload_n 0, 1) := by decide +kernel
theorem dX12_go_131 : decode cX12_go 131 = .ok (.aload_n 0, 1) := by decide +kernel
theorem dX12_go_132 : decode cX12_go 132 = .ok (.getfield 19, 3) := by decide +kernel
theorem dX12_go_135 : decode cX12_go 135 = .ok (.aload_n 0, 1) := by decide +kernel
theorem dX12_go_136 : decode cX12_go 136 = .ok (.getfield 196, 3) := by decide +kernel
theorem dX12_go_139 : decode cX12_go 139 = .ok (.iaload, 1) := by decide +kernel
theorem dX12_go_140 : decode cX12_go 140 = .ok (.putfield 208, 3) := by decide +kernel
theorem dX12_go_143 : decode cX12_go 143 = .ok (.aload_n 0, 1) := by decide +kernel
theorem dX12_go_144 : decode cX12_go 144 = .ok (.aload_n 0, 1) := by decide +kernel
theorem dX12_go_145 : decode cX12_go 145 = .ok (.getfield 193, 3) := by decide +kernel
theorem dX12_go_148 : decode cX12_go 148 = .ok (.putfield 199, 3) := by decide +kernel
theorem dX12_go_151 : decode cX12_go 151 = .ok (.goto 152, 3) := by decide +kernel
theorem dX12_go_154 : decode cX12_go 154 = .ok (.aload_n 0, 1) := by decide +kernel
theorem dX12_go_155 : decode cX12_go 155 = .ok (.aload_n 0, 1) := by decide +kernel
theorem dX12_go_156 : decode cX12_go 156 = .ok (.getfield 196, 3) := by decide +kernel
theorem dX12_go_159 : decode cX12_go 159 = .ok (.invokevirtual 211, 3) := by decide +kernel
theorem dX12_go_162 : decode cX12_go 162 = .ok (.ifCond .eq 113, 3) := by decide +kernel
theorem dX12_go_165 : decode cX12_go 165 = .ok (.aload_n 0, 1) := by decide +kernel
theorem dX12_go_166 : decode cX12_go 166 = .ok (.iconst 0, 1) := by decide +kernel
theorem dX12_go_167 : decode cX12_go 167 = .ok (.putfield 208, 3) := by decide +kernel
theorem dX12_go_170 : decode cX12_go 170 = .ok (.aload_n 0, 1) := by decide +kernel
theorem dX12_go_171 : decode cX12_go 171 = .ok (.aload_n 0, 1) := by decide +kernel
theorem dX12_go_172 : decode cX12_go 172 = .ok (.getfield 193, 3) := by decide +kernel
theorem dX12_go_175 : decode cX12_go 175 = .ok (.invokevirtual 211, 3) := by decide +kernel
theorem dX12_go_178 : decode cX12_go 178 = .ok (.ifCond .eq 60, 3) := by decide +kernel
theorem dX12_go_181 : decode cX12_go 181 = .ok (.aload_n 0, 1) := by decide +kernel
theorem dX12_go_182 : decode cX12_go 182 = .ok (.aload_n 0, 1) := by decide +kernel
theorem dX12_go_183 : decode cX12_go 183 = .ok (.getfield 193, 3) := by decide +kernel
theorem dX12_go_186 : decode cX12_go 186 = .ok (.aload_n 0, 1) := by decide +kernel
theorem dX12_go_187 : decode cX12_go 187 = .ok (.getfield 196, 3) := by decide +kernel
theorem dX12_go_190 : decode cX12_go 190 = .ok (.isub, 1) := by decide +kernel
theorem dX12_go_191 : decode cX12_go 191 = .ok (.iconst 4, 1) := by decide +kernel
theorem dX12_go_192 : decode cX12_go 192 = .ok (.if_icmp .ge 26, 3) := by decide +kernel
theorem dX12_go_195 : decode cX12_go 195 = .ok (.bipush 10, 2) := by decide +kernel
theorem dX12_go_197 : decode cX12_go 197 = .ok (.aload_n 0, 1) := by decide +kernel
theorem dX12_go_198 : decode cX12_go 198 = .ok (.getfield 208, 3) := by decide +kernel
theorem dX12_go_201 : decode cX12_go 201 = .ok (.imul, 1) := by decide +kernel
theorem dX12_go_202 : decode cX12_go 202 = .ok (.aload_n 0, 1) := by decide +kernel
theorem dX12_go_203 : decode cX12_go 203 = .ok (.getfield 19, 3) := by decide +kernel
theorem dX12_go_206 : decode cX12_go 206 = .ok (.aload_n 0, 1) := by decide +kernel
theorem dX12_go_207 : decode cX12_go 207 = .ok (.getfield 193, 3) := by decide +kernel
theorem dX12_go_210 : decode cX12_go 210 = .ok (.iaload, 1) := by decide +kernel
theorem dX12_go_211 : decode cX12_go 211 = .ok (.iadd, 1) := by decide +kernel
theorem dX12_go_212 : decode cX12_go 212 = .ok (.bipush 48, 2) := by decide +kernel
theorem dX12_go_214 : decode cX12_go 214 = .ok (.isub, 1) := by decide +kernel
theorem dX12_go_215 : decode cX12_go 215 = .ok (.goto 7, 3) := by decide +kernel
theorem dX12_go_218 : decode cX12_go 218 = .ok (.aload_n 0, 1) := by decide +kernel
theorem dX12_go_219 : decode cX12_go 219 = .ok (.getfield 208, 3) := by decide +kernel
theorem dX12_go_222 : decode cX12_go 222 = .ok (.putfield 208, 3) := by decide +kernel
theorem dX12_go_225 : decode cX12_go 225 = .ok (.aload_n 0, 1) := by decide +kernel
theorem dX12_go_226 : decode cX12_go 226 = .ok (.dup, 1) := by decide +kernel
theorem dX12_go_227 : decode cX12_go 227 = .ok (.getfield 193, 3) := by decide +kernel
theorem dX12_go_230 : decode cX12_go 230 = .ok (.iconst 1, 1) := by decide +kernel
theorem dX12_go_231 : decode cX12_go 231 = .ok (.iadd, 1) := by decide +kernel
theorem dX12_go_232 : decode cX12_go 232 = .ok (.putfield 193, 3) := by decide +kernel
theorem dX12_go_235 : decode cX12_go 235 = .ok (.goto (-65), 3) := by decide +kernel
theorem dX12_go_238 : decode cX12_go 238 = .ok (.aload_n 0, 1) := by decide +kernel
theorem dX12_go_239 : decode cX12_go 239 = .ok (.iload_n 1, 1) := by decide +kernel
theorem dX12_go_240 : decode cX12_go 240 = .ok (.ifCond .ne 16, 3) := by decide +kernel
theorem dX12_go_243 : decode cX12_go 243 = .ok (.aload_n 0, 1) := by decide +kernel
theorem dX12_go_244 : decode cX12_go 244 = .ok (.getfield 193, 3) := by decide +kernel
theorem dX12_go_247 : decode cX12_go 247 = .ok (.aload_n 0, 1) := by decide +kernel
theorem dX12_go_248 : decode cX12_go 248 = .ok (.getfield 196, 3) := by decide +kernel
theorem dX12_go_251 : decode cX12_go 251 = .ok (.isub, 1) := by decide +kernel
theorem dX12_go_252 : decode cX12_go 252 = .ok (.iconst 4, 1) := by decide +kernel
theorem dX12_go_253 : decode cX12_go 253 = .ok (.if_icmp .le 7, 3) := by decide +kernel
theorem dX12_go_256 : decode cX12_go 256 = .ok (.iconst 4, 1) := by decide +kernel
theorem dX12_go_257 : decode cX12_go 257 = .ok (.goto 4, 3) := by decide +kernel
theorem dX12_go_260 : decode cX12_go 260 = .ok (.iconst 2, 1) := by decide +kernel
theorem dX12_go_261 : decode cX12_go 261 = .ok (.putfield 202, 3) := by decide +kernel
theorem dX12_go_264 : decode cX12_go 264 = .ok (.aload_n 0, 1) := by decide +kernel
theorem dX12_go_265 : decode cX12_go 265 = .ok (.aload_n 0, 1) := by decide +kernel
theorem dX12_go_266 : decode cX12_go 266 = .ok (.getfield 193, 3) := by decide +kernel
theorem dX12_go_269 : decode cX12_go 269 = .ok (.putfield 199, 3) := by decide +kernel
theorem dX12_go_272 : decode cX12_go 272 = .ok (.goto 31, 3) := by decide +kernel
theorem dX12_go_275 : decode cX12_go 275 = .ok (.aload_n 0, 1) := by decide +kernel
theorem dX12_go_276 : decode cX12_go 276 = .ok (.iconst 3, 1) := by decide +kernel
theorem dX12_go_277 : decode cX12_go 277 = .ok (.putfield 202, 3) := by decide +kernel
theorem dX12_go_280 : decode cX12_go 280 = .ok (.aload_n 0, 1) := by decide +kernel
theorem dX12_go_281 : decode cX12_go 281 = .ok (.aload_n 0, 1) := by decide +kernel
theorem dX12_go_282 : decode cX12_go 282 = .ok (.getfield 19, 3) := by decide +kernel
theorem dX12_go_285 : decode cX12_go 285 = .ok (.aload_n 0, 1) := by decide +kernel
theorem dX12_go_286 : decode cX12_go 286 = .ok (.getfield 196, 3) := by decide +kernel
theorem dX12_go_289 : decode cX12_go 289 = .ok (.iaload, 1) := by decide +kernel
theorem dX12_go_290 : decode cX12_go 290 = .ok (.putfield 208, 3) := by decide +kernel
theorem dX12_go_293 : decode cX12_go 293 = .ok (.aload_n 0, 1) := by decide +kernel
theorem dX12_go_294 : decode cX12_go 294 = .ok (.dup, 1) := by decide +kernel
theorem dX12_go_295 : decode cX12_go 295 = .ok (.getfield 193, 3) := by decide +kernel
theorem dX12_go_298 : decode cX12_go 298 = .ok (.iconst 1, 1) := by decide +kernel
theorem dX12_go_299 : decode cX12_go 299 = .ok (.iadd, 1) := by decide +kernel
theorem dX12_go_300 : decode cX12_go 300 = .ok (.putfield 193, 3) := by decide +kernel
theorem dX12_go_303 : decode cX12_go 303 = .ok (.return_, 1) := by decide +kernel
theorem dX12_takesKey_0 : decode cX12_takesKey 0 = .ok (.aload_n 0, 1) := by decide +kernel
theorem dX12_takesKey_1 : decode cX12_takesKey 1 = .ok (.getfield 202, 3) := by decide +kernel
theorem dX12_takesKey_4 : decode cX12_takesKey 4 = .ok (.iconst 1, 1) := by decide +kernel
theorem dX12_takesKey_5 : decode cX12_takesKey 5 = .ok (.if_icmp .eq 5, 3) := by decide +kernel
theorem dX12_takesKey_8 : decode cX12_takesKey 8 = .ok (.iconst 0, 1) := by decide +kernel
theorem dX12_takesKey_9 : decode cX12_takesKey 9 = .ok (.ireturn, 1) := by decide +kernel
theorem dX12_takesKey_10 : decode cX12_takesKey 10 = .ok (.iconst 0, 1) := by decide +kernel
theorem dX12_takesKey_11 : decode cX12_takesKey 11 = .ok (.istore_n 1, 1) := by decide +kernel
theorem dX12_takesKey_12 : decode cX12_takesKey 12 = .ok (.iload_n 1, 1) := by decide +kernel
theorem dX12_takesKey_13 : decode cX12_takesKey 13 = .ok (.iconst 3, 1) := by decide +kernel
theorem dX12_takesKey_14 : decode cX12_takesKey 14 = .ok (.if_icmp .ge 113, 3) := by decide +kernel
theorem dX12_takesKey_17 : decode cX12_takesKey 17 = .ok (.aload_n 0, 1) := by decide +kernel
theorem dX12_takesKey_18 : decode cX12_takesKey 18 = .ok (.getfield 26, 3) := by decide +kernel
theorem dX12_takesKey_21 : decode cX12_takesKey 21 = .ok (.iload_n 1, 1) := by decide +kernel
theorem dX12_takesKey_22 : decode cX12_takesKey 22 = .ok (.iconst 1, 1) := by decide +kernel
theorem dX12_takesKey_23 : decode cX12_takesKey 23 = .ok (.iadd, 1) := by decide +kernel
theorem dX12_takesKey_24 : decode cX12_takesKey 24 = .ok (.iaload, 1) := by decide +kernel
theorem dX12_takesKey_25 : decode cX12_takesKey 25 = .ok (.aload_n 0, 1) := by decide +kernel
theorem dX12_takesKey_26 : decode cX12_takesKey 26 = .ok (.getfield 26, 3) := by decide +kernel
theorem dX12_takesKey_29 : decode cX12_takesKey 29 = .ok (.iload_n 1, 1) := by decide +kernel
theorem dX12_takesKey_30 : decode cX12_takesKey 30 = .ok (.iaload, 1) := by decide +kernel
theorem dX12_takesKey_31 : decode cX12_takesKey 31 = .ok (.isub, 1) := by decide +kernel
theorem dX12_takesKey_32 : decode cX12_takesKey 32 = .ok (.istore_n 2, 1) := by decide +kernel
theorem dX12_takesKey_33 : decode cX12_takesKey 33 = .ok (.iload_n 2, 1) := by decide +kernel
theorem dX12_takesKey_34 : decode cX12_takesKey 34 = .ok (.aload_n 0, 1) := by decide +kernel
theorem dX12_takesKey_35 : decode cX12_takesKey 35 = .ok (.getfield 193, 3) := by decide +kernel
theorem dX12_takesKey_38 : decode cX12_takesKey 38 = .ok (.aload_n 0, 1) := by decide +kernel
theorem dX12_takesKey_39 : decode cX12_takesKey 39 = .ok (.getfield 196, 3) := by decide +kernel
theorem dX12_takesKey_42 : decode cX12_takesKey 42 = .ok (.isub, 1) := by decide +kernel
theorem dX12_takesKey_43 : decode cX12_takesKey 43 = .ok (.if_icmp .ne 7, 3) := by decide +kernel
theorem dX12_takesKey_46 : decode cX12_takesKey 46 = .ok (.iconst 1, 1) := by decide +kernel
theorem dX12_takesKey_47 : decode cX12_takesKey 47 = .ok (.goto 4, 3) := by decide +kernel
theorem dX12_takesKey_50 : decode cX12_takesKey 50 = .ok (.iconst 0, 1) := by decide +kernel
theorem dX12_takesKey_51 : decode cX12_takesKey 51 = .ok (.istore_n 3, 1) := by decide +kernel
theorem dX12_takesKey_52 : decode cX12_takesKey 52 = .ok (.iconst 0, 1) := by decide +kernel
theorem dX12_takesKey_53 : decode cX12_takesKey 53 = .ok (.istore 4, 2) := by decide +kernel
theorem dX12_takesKey_55 : decode cX12_takesKey 55 = .ok (.iload 4, 2) := by decide +kernel
theorem dX12_takesKey_57 : decode cX12_takesKey 57 = .ok (.iload_n 2, 1) := by decide +kernel
theorem dX12_takesKey_58 : decode cX12_takesKey 58 = .ok (.if_icmp .ge 48, 3) := by decide +kernel
theorem dX12_takesKey_61 : decode cX12_takesKey 61 = .ok (.iload_n 3, 1) := by decide +kernel
theorem dX12_takesKey_62 : decode cX12_takesKey 62 = .ok (.ifCond .eq 44, 3) := by decide +kernel
theorem dX12_takesKey_65 : decode cX12_takesKey 65 = .ok (.aload_n 0, 1) := by decide +kernel
theorem dX12_takesKey_66 : decode cX12_takesKey 66 = .ok (.getfield 19, 3) := by decide +kernel
theorem dX12_takesKey_69 : decode cX12_takesKey 69 = .ok (.aload_n 0, 1) := by decide +kernel
theorem dX12_takesKey_70 : decode cX12_takesKey 70 = .ok (.getfield 196, 3) := by decide +kernel
theorem dX12_takesKey_73 : decode cX12_takesKey 73 = .ok (.iload 4, 2) := by decide +kernel
theorem dX12_takesKey_75 : decode cX12_takesKey 75 = .ok (.iadd, 1) := by decide +kernel
theorem dX12_takesKey_76 : decode cX12_takesKey 76 = .ok (.iaload, 1) := by decide +kernel
theorem dX12_takesKey_77 : decode cX12_takesKey 77 = .ok (.aload_n 0, 1) := by decide +kernel
theorem dX12_takesKey_78 : decode cX12_takesKey 78 = .ok (.getfield 22, 3) := by decide +kernel
theorem dX12_takesKey_81 : decode cX12_takesKey 81 = .ok (.aload_n 0, 1) := by decide +kernel
theorem dX12_takesKey_82 : decode cX12_takesKey 82 = .ok (.getfield 26, 3) := by decide +kernel
theorem dX12_takesKey_85 : decode cX12_takesKey 85 = .ok (.iload_n 1, 1) := by decide +kernel
theorem dX12_takesKey_86 : decode cX12_takesKey 86 = .ok (.iaload, 1) := by decide +kernel
theorem dX12_takesKey_87 : decode cX12_takesKey 87 = .ok (.iload 4, 2) := by decide +kernel
theorem dX12_takesKey_89 : decode cX12_takesKey 89 = .ok (.iadd, 1) := by decide +kernel
theorem dX12_takesKey_90 : decode cX12_takesKey 90 = .ok (.caload, 1) := by decide +kernel
theorem dX12_takesKey_91 : decode cX12_takesKey 91 = .ok (.if_icmp .ne 7, 3) := by decide +kernel
theorem dX12_takesKey_94 : decode cX12_takesKey 94 = .ok (.iconst 1, 1) := by decide +kernel
theorem dX12_takesKey_95 : decode cX12_takesKey 95 = .ok (.goto 4, 3) := by decide +kernel
theorem dX12_takesKey_98 : decode cX12_takesKey 98 = .ok (.iconst 0, 1) := by decide +kernel
theorem dX12_takesKey_99 : decode cX12_takesKey 99 = .ok (.istore_n 3, 1) := by decide +kernel
theorem dX12_takesKey_100 : decode cX12_takesKey 100 = .ok (.iinc 4 1, 3) := by decide +kernel
theorem dX12_takesKey_103 : decode cX12_takesKey 103 = .ok (.goto (-48), 3) := by decide +kernel
theorem dX12_takesKey_106 : decode cX12_takesKey 106 = .ok (.iload_n 3, 1) := by decide +kernel
theorem dX12_takesKey_107 : decode cX12_takesKey 107 = .ok (.ifCond .eq 14, 3) := by decide +kernel
theorem dX12_takesKey_110 : decode cX12_takesKey 110 = .ok (.aload_n 0, 1) := by decide +kernel
theorem dX12_takesKey_111 : decode cX12_takesKey 111 = .ok (.iload_n 1, 1) := by decide +kernel
theorem dX12_takesKey_112 : decode cX12_takesKey 112 = .ok (.putfield 214, 3) := by decide +kernel
theorem dX12_takesKey_115 : decode cX12_takesKey 115 = .ok (.aload_n 0, 1) := by decide +kernel
theorem dX12_takesKey_116 : decode cX12_takesKey 116 = .ok (.invokevirtual 217, 3) := by decide +kernel
theorem dX12_takesKey_119 : decode cX12_takesKey 119 = .ok (.iconst 1, 1) := by decide +kernel
theorem dX12_takesKey_120 : decode cX12_takesKey 120 = .ok (.ireturn, 1) := by decide +kernel
theorem dX12_takesKey_121 : decode cX12_takesKey 121 = .ok (.iinc 1 1, 3) := by decide +kernel
theorem dX12_takesKey_124 : decode cX12_takesKey 124 = .ok (.goto (-112), 3) := by decide +kernel
theorem dX12_takesKey_127 : decode cX12_takesKey 127 = .ok (.iconst 0, 1) := by decide +kernel
theorem dX12_takesKey_128 : decode cX12_takesKey 128 = .ok (.ireturn, 1) := by decide +kernel
theorem dX12_nameOf_0 : decode cX12_nameOf 0 = .ok (.aload_n 0, 1) := by decide +kernel
theorem dX12_nameOf_1 : decode cX12_nameOf 1 = .ok (.getfield 214, 3) := by decide +kernel
theorem dX12_nameOf_4 : decode cX12_nameOf 4 = .ok (.lookupswitch 92 #[(0, 28), (1, 70)], 28) := by decide +kernel
theorem dX12_nameOf_32 : decode cX12_nameOf 32 = .ok (.iload_n 1, 1) := by decide +kernel
theorem dX12_nameOf_33 : decode cX12_nameOf 33 = .ok (.bipush 97, 2) := by decide +kernel
theorem dX12_nameOf_35 : decode cX12_nameOf 35 = .ok (.if_icmp .ne 7, 3) := by decide +kernel
theorem dX12_nameOf_38 : decode cX12_nameOf 38 = .ok (.iconst 0, 1) := by decide +kernel
theorem dX12_nameOf_39 : decode cX12_nameOf 39 = .ok (.goto 34, 3) := by decide +kernel
theorem dX12_nameOf_42 : decode cX12_nameOf 42 = .ok (.iload_n 1, 1) := by decide +kernel
theorem dX12_nameOf_43 : decode cX12_nameOf 43 = .ok (.bipush 99, 2) := by decide +kernel
theorem dX12_nameOf_45 : decode cX12_nameOf 45 = .ok (.if_icmp .ne 7, 3) := by decide +kernel
theorem dX12_nameOf_48 : decode cX12_nameOf 48 = .ok (.iconst 1, 1) := by decide +kernel
theorem dX12_nameOf_49 : decode cX12_nameOf 49 = .ok (.goto 24, 3) := by decide +kernel
theorem dX12_nameOf_52 : decode cX12_nameOf 52 = .ok (.iload_n 1, 1) := by decide +kernel
theorem dX12_nameOf_53 : decode cX12_nameOf 53 = .ok (.bipush 108, 2) := by decide +kernel
theorem dX12_nameOf_55 : decode cX12_nameOf 55 = .ok (.if_icmp .ne 7, 3) := by decide +kernel
theorem dX12_nameOf_58 : decode cX12_nameOf 58 = .ok (.iconst 2, 1) := by decide +kernel
theorem dX12_nameOf_59 : decode cX12_nameOf 59 = .ok (.goto 14, 3) := by decide +kernel
theorem dX12_nameOf_62 : decode cX12_nameOf 62 = .ok (.iload_n 1, 1) := by decide +kernel
theorem dX12_nameOf_63 : decode cX12_nameOf 63 = .ok (.bipush 112, 2) := by decide +kernel
theorem dX12_nameOf_65 : decode cX12_nameOf 65 = .ok (.if_icmp .ne 7, 3) := by decide +kernel
theorem dX12_nameOf_68 : decode cX12_nameOf 68 = .ok (.iconst 3, 1) := by decide +kernel
theorem dX12_nameOf_69 : decode cX12_nameOf 69 = .ok (.goto 4, 3) := by decide +kernel
theorem dX12_nameOf_72 : decode cX12_nameOf 72 = .ok (.iconst (-1), 1) := by decide +kernel
theorem dX12_nameOf_73 : decode cX12_nameOf 73 = .ok (.ireturn, 1) := by decide +kernel
theorem dX12_nameOf_74 : decode cX12_nameOf 74 = .ok (.iload_n 1, 1) := by decide +kernel
theorem dX12_nameOf_75 : decode cX12_nameOf 75 = .ok (.bipush 119, 2) := by decide +kernel
theorem dX12_nameOf_77 : decode cX12_nameOf 77 = .ok (.if_icmp .ne 7, 3) := by decide +kernel
theorem dX12_nameOf_80 : decode cX12_nameOf 80 = .ok (.iconst 0, 1) := by decide +kernel
theorem dX12_nameOf_81 : decode cX12_nameOf 81 = .ok (.goto 14, 3) := by decide +kernel
theorem dX12_nameOf_84 : decode cX12_nameOf 84 = .ok (.iload_n 1, 1) := by decide +kernel
theorem dX12_nameOf_85 : decode cX12_nameOf 85 = .ok (.bipush 109, 2) := by decide +kernel
theorem dX12_nameOf_87 : decode cX12_nameOf 87 = .ok (.if_icmp .ne 7, 3) := by decide +kernel
theorem dX12_nameOf_90 : decode cX12_nameOf 90 = .ok (.iconst 1, 1) := by decide +kernel
theorem dX12_nameOf_91 : decode cX12_nameOf 91 = .ok (.goto 4, 3) := by decide +kernel
theorem dX12_nameOf_94 : decode cX12_nameOf 94 = .ok (.iconst (-1), 1) := by decide +kernel
theorem dX12_nameOf_95 : decode cX12_nameOf 95 = .ok (.ireturn, 1) := by decide +kernel
theorem dX12_nameOf_96 : decode cX12_nameOf 96 = .ok (.iload_n 1, 1) := by decide +kernel
theorem dX12_nameOf_97 : decode cX12_nameOf 97 = .ok (.bipush 112, 2) := by decide +kernel
theorem dX12_nameOf_99 : decode cX12_nameOf 99 = .ok (.if_icmp .ne 7, 3) := by decide +kernel
theorem dX12_nameOf_102 : decode cX12_nameOf 102 = .ok (.iconst 0, 1) := by decide +kernel
theorem dX12_nameOf_103 : decode cX12_nameOf 103 = .ok (.goto 24, 3) := by decide +kernel
theorem dX12_nameOf_106 : decode cX12_nameOf 106 = .ok (.iload_n 1, 1) := by decide +kernel
theorem dX12_nameOf_107 : decode cX12_nameOf 107 = .ok (.bipush 113, 2) := by decide +kernel
theorem dX12_nameOf_109 : decode cX12_nameOf 109 = .ok (.if_icmp .ne 7, 3) := by decide +kernel
theorem dX12_nameOf_112 : decode cX12_nameOf 112 = .ok (.iconst 1, 1) := by decide +kernel
theorem dX12_nameOf_113 : decode cX12_nameOf 113 = .ok (.goto 14, 3) := by decide +kernel
theorem dX12_nameOf_116 : decode cX12_nameOf 116 = .ok (.iload_n 1, 1) := by decide +kernel
theorem dX12_nameOf_117 : decode cX12_nameOf 117 = .ok (.bipush 111, 2) := by decide +kernel
theorem dX12_nameOf_119 : decode cX12_nameOf 119 = .ok (.if_icmp .ne 7, 3) := by decide +kernel
theorem dX12_nameOf_122 : decode cX12_nameOf 122 = .ok (.iconst 2, 1) := by decide +kernel
theorem dX12_nameOf_123 : decode cX12_nameOf 123 = .ok (.goto 4, 3) := by decide +kernel
theorem dX12_nameOf_126 : decode cX12_nameOf 126 = .ok (.iconst (-1), 1) := by decide +kernel
theorem dX12_nameOf_127 : decode cX12_nameOf 127 = .ok (.ireturn, 1) := by decide +kernel
theorem dX12_rank_0 : decode cX12_rank 0 = .ok (.iload_n 0, 1) := by decide +kernel
theorem dX12_rank_1 : decode cX12_rank 1 = .ok (.iconst (-1), 1) := by decide +kernel
theorem dX12_rank_2 : decode cX12_rank 2 = .ok (.if_icmp .ne 7, 3) := by decide +kernel
theorem dX12_rank_5 : decode cX12_rank 5 = .ok (.iconst 1, 1) := by decide +kernel
theorem dX12_rank_6 : decode cX12_rank 6 = .ok (.goto 45, 3) := by decide +kernel
theorem dX12_rank_9 : decode cX12_rank 9 = .ok (.iload_n 0, 1) := by decide +kernel
theorem dX12_rank_10 : decode cX12_rank 10 = .ok (.bipush (-2), 2) := by decide +kernel
theorem dX12_rank_12 : decode cX12_rank 12 = .ok (.if_icmp .ne 7, 3) := by decide +kernel
theorem dX12_rank_15 : decode cX12_rank 15 = .ok (.iconst 2, 1) := by decide +kernel
theorem dX12_rank_16 : decode cX12_rank 16 = .ok (.goto 35, 3) := by decide +kernel
theorem dX12_rank_19 : decode cX12_rank 19 = .ok (.iload_n 0, 1) := by decide +kernel
theorem dX12_rank_20 : decode cX12_rank 20 = .ok (.bipush (-5), 2) := by decide +kernel
theorem dX12_rank_22 : decode cX12_rank 22 = .ok (.if_icmp .lt 7, 3) := by decide +kernel
theorem dX12_rank_25 : decode cX12_rank 25 = .ok (.iconst 3, 1) := by decide +kernel
theorem dX12_rank_26 : decode cX12_rank 26 = .ok (.goto 25, 3) := by decide +kernel
theorem dX12_rank_29 : decode cX12_rank 29 = .ok (.iload_n 0, 1) := by decide +kernel
theorem dX12_rank_30 : decode cX12_rank 30 = .ok (.bipush (-7), 2) := by decide +kernel
theorem dX12_rank_32 : decode cX12_rank 32 = .ok (.if_icmp .lt 7, 3) := by decide +kernel
theorem dX12_rank_35 : decode cX12_rank 35 = .ok (.iconst 4, 1) := by decide +kernel
theorem dX12_rank_36 : decode cX12_rank 36 = .ok (.goto 15, 3) := by decide +kernel
theorem dX12_rank_39 : decode cX12_rank 39 = .ok (.iload_n 0, 1) := by decide +kernel
theorem dX12_rank_40 : decode cX12_rank 40 = .ok (.bipush (-9), 2) := by decide +kernel
theorem dX12_rank_42 : decode cX12_rank 42 = .ok (.if_icmp .lt 7, 3) := by decide +kernel
theorem dX12_rank_45 : decode cX12_rank 45 = .ok (.iconst 5, 1) := by decide +kernel
theorem dX12_rank_46 : decode cX12_rank 46 = .ok (.goto 5, 3) := by decide +kernel
theorem dX12_rank_49 : decode cX12_rank 49 = .ok (.bipush 6, 2) := by decide +kernel
theorem dX12_rank_51 : decode cX12_rank 51 = .ok (.ireturn, 1) := by decide +kernel
theorem dX12_settle_0 : decode cX12_settle 0 = .ok (.aload_n 0, 1) := by decide +kernel
theorem dX12_settle_1 : decode cX12_settle 1 = .ok (.getfield 220, 3) := by decide +kernel
theorem dX12_settle_4 : decode cX12_settle 4 = .ok (.ifCond .le 78, 3) := by decide +kernel
theorem dX12_settle_7 : decode cX12_settle 7 = .ok (.aload_n 0, 1) := by decide +kernel
theorem dX12_settle_8 : decode cX12_settle 8 = .ok (.getfield 32, 3) := by decide +kernel
theorem dX12_settle_11 : decode cX12_settle 11 = .ok (.aload_n 0, 1) := by decide +kernel
theorem dX12_settle_12 : decode cX12_settle 12 = .ok (.getfield 220, 3) := by decide +kernel
theorem dX12_settle_15 : decode cX12_settle 15 = .ok (.iconst 1, 1) := by decide +kernel
theorem dX12_settle_16 : decode cX12_settle 16 = .ok (.isub, 1) := by decide +kernel
theorem dX12_settle_17 : decode cX12_settle 17 = .ok (.iaload, 1) := by decide +kernel
theorem dX12_settle_18 : decode cX12_settle 18 = .ok (.bipush (-11), 2) := by decide +kernel
theorem dX12_settle_20 : decode cX12_settle 20 = .ok (.if_icmp .eq 62, 3) := by decide +kernel
theorem dX12_settle_23 : decode cX12_settle 23 = .ok (.aload_n 0, 1) := by decide +kernel
theorem dX12_settle_24 : decode cX12_settle 24 = .ok (.getfield 32, 3) := by decide +kernel
theorem dX12_settle_27 : decode cX12_settle 27 = .ok (.aload_n 0, 1) := by decide +kernel
theorem dX12_settle_28 : decode cX12_settle 28 = .ok (.getfield 220, 3) := by decide +kernel
theorem dX12_settle_31 : decode cX12_settle 31 = .ok (.iconst 1, 1) := by decide +kernel
theorem dX12_settle_32 : decode cX12_settle 32 = .ok (.isub, 1) := by decide +kernel
theorem dX12_settle_33 : decode cX12_settle 33 = .ok (.iaload, 1) := by decide +kernel
theorem dX12_settle_34 : decode cX12_settle 34 = .ok (.invokestatic 223, 3) := by decide +kernel
theorem dX12_settle_37 : decode cX12_settle 37 = .ok (.iload_n 1, 1) := by decide +kernel
theorem dX12_settle_38 : decode cX12_settle 38 = .ok (.if_icmp .lt 44, 3) := by decide +kernel
theorem dX12_settle_41 : decode cX12_settle 41 = .ok (.aload_n 0, 1) := by decide +kernel
theorem dX12_settle_42 : decode cX12_settle 42 = .ok (.dup, 1) := by decide +kernel
theorem dX12_settle_43 : decode cX12_settle 43 = .ok (.getfield 220, 3) := by decide +kernel
theorem dX12_settle_46 : decode cX12_settle 46 = .ok (.iconst 1, 1) := by decide +kernel
theorem dX12_settle_47 : decode cX12_settle 47 = .ok (.isub, 1) := by decide +kernel
theorem dX12_settle_48 : decode cX12_settle 48 = .ok (.putfield 220, 3) := by decide +kernel
theorem dX12_settle_51 : decode cX12_settle 51 = .ok (.aload_n 0, 1) := by decide +kernel
theorem dX12_settle_52 : decode cX12_settle 52 = .ok (.getfield 29, 3) := by decide +kernel
theorem dX12_settle_55 : decode cX12_settle 55 = .ok (.aload_n 0, 1) := by decide +kernel
theorem dX12_settle_56 : decode cX12_settle 56 = .ok (.getfield 226, 3) := by decide +kernel
theorem dX12_settle_59 : decode cX12_settle 59 = .ok (.aload_n 0, 1) := by decide +kernel
theorem dX12_settle_60 : decode cX12_settle 60 = .ok (.getfield 32, 3) := by decide +kernel
theorem dX12_settle_63 : decode cX12_settle 63 = .ok (.aload_n 0, 1) := by decide +kernel
theorem dX12_settle_64 : decode cX12_settle 64 = .ok (.getfield 220, 3) := by decide +kernel
theorem dX12_settle_67 : decode cX12_settle 67 = .ok (.iaload, 1) := by decide +kernel
theorem dX12_settle_68 : decode cX12_settle 68 = .ok (.iastore, 1) := by decide +kernel
theorem dX12_settle_69 : decode cX12_settle 69 = .ok (.aload_n 0, 1) := by decide +kernel
theorem dX12_settle_70 : decode cX12_settle 70 = .ok (.dup, 1) := by decide +kernel
theorem dX12_settle_71 : decode cX12_settle 71 = .ok (.getfield 226, 3) := by decide +kernel
theorem dX12_settle_74 : decode cX12_settle 74 = .ok (.iconst 1, 1) := by decide +kernel
theorem dX12_settle_75 : decode cX12_settle 75 = .ok (.iadd, 1) := by decide +kernel
theorem dX12_settle_76 : decode cX12_settle 76 = .ok (.putfield 226, 3) := by decide +kernel
theorem dX12_settle_79 : decode cX12_settle 79 = .ok (.goto (-79), 3) := by decide +kernel
theorem dX12_settle_82 : decode cX12_settle 82 = .ok (.return_, 1) := by decide +kernel
theorem dX12_signHere_0 : decode cX12_signHere 0 = .ok (.aload_n 0, 1) := by decide +kernel
theorem dX12_signHere_1 : decode cX12_signHere 1 = .ok (.getfield 202, 3) := by decide +kernel
theorem dX12_signHere_4 : decode cX12_signHere 4 = .ok (.iconst 3, 1) := by decide +kernel
theorem dX12_signHere_5 : decode cX12_signHere 5 = .ok (.if_icmp .eq 5, 3) := by decide +kernel
theorem dX12_signHere_8 : decode cX12_signHere 8 = .ok (.iconst 0, 1) := by decide +kernel
theorem dX12_signHere_9 : decode cX12_signHere 9 = .ok (.ireturn, 1) := by decide +kernel
theorem dX12_signHere_10 : decode cX12_signHere 10 = .ok (.aload_n 0, 1) := by decide +kernel
theorem dX12_signHere_11 : decode cX12_signHere 11 = .ok (.getfield 208, 3) := by decide +kernel
theorem dX12_signHere_14 : decode cX12_signHere 14 = .ok (.lookupswitch 108 #[(38, 84), (42, 102), (43, 96), (45, 99), (47, 105), (60, 87), (61, 90), (62, 93), (124, 82)], 82) := by decide +kernel
theorem dX12_signHere_96 : decode cX12_signHere 96 = .ok (.iconst (-1), 1) := by decide +kernel
theorem dX12_signHere_97 : decode cX12_signHere 97 = .ok (.ireturn, 1) := by decide +kernel
theorem dX12_signHere_98 : decode cX12_signHere 98 = .ok (.bipush (-2), 2) := by decide +kernel
theorem dX12_signHere_100 : decode cX12_signHere 100 = .ok (.ireturn, 1) := by decide +kernel
theorem dX12_signHere_101 : decode cX12_signHere 101 = .ok (.bipush (-3), 2) := by decide +kernel
theorem dX12_signHere_103 : decode cX12_signHere 103 = .ok (.ireturn, 1) := by decide +kernel
theorem dX12_signHere_104 : decode cX12_signHere 104 = .ok (.bipush (-4), 2) := by decide +kernel
theorem dX12_signHere_106 : decode cX12_signHere 106 = .ok (.ireturn, 1) := by decide +kernel
theorem dX12_signHere_107 : decode cX12_signHere 107 = .ok (.bipush (-5), 2) := by decide +kernel
theorem dX12_signHere_109 : decode cX12_signHere 109 = .ok (.ireturn, 1) := by decide +kernel
theorem dX12_signHere_110 : decode cX12_signHere 110 = .ok (.bipush (-6), 2) := by decide +kernel
theorem dX12_signHere_112 : decode cX12_signHere 112 = .ok (.ireturn, 1) := by decide +kernel
theorem dX12_signHere_113 : decode cX12_signHere 113 = .ok (.bipush (-7), 2) := by decide +kernel
theorem dX12_signHere_115 : decode cX12_signHere 115 = .ok (.ireturn, 1) := by decide +kernel
theorem dX12_signHere_116 : decode cX12_signHere 116 = .ok (.bipush (-8), 2) := by decide +kernel
theorem dX12_signHere_118 : decode cX12_signHere 118 = .ok (.ireturn, 1) := by decide +kernel
theorem dX12_signHere_119 : decode cX12_signHere 119 = .ok (.bipush (-9), 2) := by decide +kernel
theorem dX12_signHere_121 : decode cX12_signHere 121 = .ok (.ireturn, 1) := by decide +kernel
theorem dX12_signHere_122 : decode cX12_signHere 122 = .ok (.iconst 0, 1) := by decide +kernel
theorem dX12_signHere_123 : decode cX12_signHere 123 = .ok (.ireturn, 1) := by decide +kernel
theorem dX12_takesPart_0 : decode cX12_takesPart 0 = .ok (.aload_n 0, 1) := by decide +kernel
theorem dX12_takesPart_1 : decode cX12_takesPart 1 = .ok (.getfield 202, 3) := by decide +kernel
theorem dX12_takesPart_4 : decode cX12_takesPart 4 = .ok (.iconst 1, 1) := by decide +kernel
theorem dX12_takesPart_5 : decode cX12_takesPart 5 = .ok (.if_icmp .ne 31, 3) := by decide +kernel
theorem dX12_takesPart_8 : decode cX12_takesPart 8 = .ok (.aload_n 0, 1) := by decide +kernel
theorem dX12_takesPart_9 : decode cX12_takesPart 9 = .ok (.getfield 193, 3) := by decide +kernel
theorem dX12_takesPart_12 : decode cX12_takesPart 12 = .ok (.aload_n 0, 1) := by decide +kernel
theorem dX12_takesPart_13 : decode cX12_takesPart 13 = .ok (.getfield 196, 3) := by decide +kernel
theorem dX12_takesPart_16 : decode cX12_takesPart 16 = .ok (.isub, 1) := by decide +kernel
theorem dX12_takesPart_17 : decode cX12_takesPart 17 = .ok (.iconst 1, 1) := by decide +kernel
theorem dX12_takesPart_18 : decode cX12_takesPart 18 = .ok (.if_icmp .ne 18, 3) := by decide +kernel
theorem dX12_takesPart_21 : decode cX12_takesPart 21 = .ok (.aload_n 0, 1) := by decide +kernel
theorem dX12_takesPart_22 : decode cX12_takesPart 22 = .ok (.aload_n 0, 1) := by decide +kernel
theorem dX12_takesPart_23 : decode cX12_takesPart 23 = .ok (.getfield 208, 3) := by decide +kernel
theorem dX12_takesPart_26 : decode cX12_takesPart 26 = .ok (.invokevirtual 229, 3) := by decide +kernel
theorem dX12_takesPart_29 : decode cX12_takesPart 29 = .ok (.ifCond .lt 7, 3) := by decide +kernel
theorem dX12_takesPart_32 : decode cX12_takesPart 32 = .ok (.iconst 1, 1) := by decide +kernel
theorem dX12_takesPart_33 : decode cX12_takesPart 33 = .ok (.goto 4, 3) := by decide +kernel
theorem dX12_takesPart_36 : decode cX12_takesPart 36 = .ok (.iconst 0, 1) := by decide +kernel
theorem dX12_takesPart_37 : decode cX12_takesPart 37 = .ok (.istore_n 1, 1) := by decide +kernel
theorem dX12_takesPart_38 : decode cX12_takesPart 38 = .ok (.aload_n 0, 1) := by decide +kernel
theorem dX12_takesPart_39 : decode cX12_takesPart 39 = .ok (.getfield 202, 3) := by decide +kernel
theorem dX12_takesPart_42 : decode cX12_takesPart 42 = .ok (.iconst 2, 1) := by decide +kernel
theorem dX12_takesPart_43 : decode cX12_takesPart 43 = .ok (.if_icmp .eq 9, 3) := by decide +kernel
theorem dX12_takesPart_46 : decode cX12_takesPart 46 = .ok (.iload_n 1, 1) := by decide +kernel
theorem dX12_takesPart_47 : decode cX12_takesPart 47 = .ok (.ifCond .ne 5, 3) := by decide +kernel
theorem dX12_takesPart_50 : decode cX12_takesPart 50 = .ok (.iconst 0, 1) := by decide +kernel
theorem dX12_takesPart_51 : decode cX12_takesPart 51 = .ok (.ireturn, 1) := by decide +kernel
theorem dX12_takesPart_52 : decode cX12_takesPart 52 = .ok (.aload_n 0, 1) := by decide +kernel
theorem dX12_takesPart_53 : decode cX12_takesPart 53 = .ok (.getfield 29, 3) := by decide +kernel
theorem dX12_takesPart_56 : decode cX12_takesPart 56 = .ok (.aload_n 0, 1) := by decide +kernel
theorem dX12_takesPart_57 : decode cX12_takesPart 57 = .ok (.getfield 226, 3) := by decide +kernel
theorem dX12_takesPart_60 : decode cX12_takesPart 60 = .ok (.aload_n 0, 1) := by decide +kernel
theorem dX12_takesPart_61 : decode cX12_takesPart 61 = .ok (.getfield 202, 3) := by decide +kernel
theorem dX12_takesPart_64 : decode cX12_takesPart 64 = .ok (.iconst 2, 1) := by decide +kernel
theorem dX12_takesPart_65 : decode cX12_takesPart 65 = .ok (.if_icmp .ne 10, 3) := by decide +kernel
theorem dX12_takesPart_68 : decode cX12_takesPart 68 = .ok (.aload_n 0, 1) := by decide +kernel
theorem dX12_takesPart_69 : decode cX12_takesPart 69 = .ok (.getfield 208, 3) := by decide +kernel
theorem dX12_takesPart_72 : decode cX12_takesPart 72 = .ok (.goto 15, 3) := by decide +kernel
theorem dX12_takesPart_75 : decode cX12_takesPart 75 = .ok (.sipush 10000, 3) := by decide +kernel
theorem dX12_takesPart_78 : decode cX12_takesPart 78 = .ok (.aload_n 0, 1) := by decide +kernel
theorem dX12_takesPart_79 : decode cX12_takesPart 79 = .ok (.aload_n 0, 1) := by decide +kernel
theorem dX12_takesPart_80 : decode cX12_takesPart 80 = .ok (.getfield 208, 3) := by decide +kernel
theorem dX12_takesPart_83 : decode cX12_takesPart 83 = .ok (.invokevirtual 229, 3) := by decide +kernel
theorem dX12_takesPart_86 : decode cX12_takesPart 86 = .ok (.iadd, 1) := by decide +kernel
theorem dX12_takesPart_87 : decode cX12_takesPart 87 = .ok (.iastore, 1) := by decide +kernel
theorem dX12_takesPart_88 : decode cX12_takesPart 88 = .ok (.aload_n 0, 1) := by decide +kernel
theorem dX12_takesPart_89 : decode cX12_takesPart 89 = .ok (.dup, 1) := by decide +kernel
theorem dX12_takesPart_90 : decode cX12_takesPart 90 = .ok (.getfield 226, 3) := by decide +kernel
theorem dX12_takesPart_93 : decode cX12_takesPart 93 = .ok (.iconst 1, 1) := by decide +kernel
theorem dX12_takesPart_94 : decode cX12_takesPart 94 = .ok (.iadd, 1) := by decide +kernel
theorem dX12_takesPart_95 : decode cX12_takesPart 95 = .ok (.putfield 226, 3) := by decide +kernel
theorem dX12_takesPart_98 : decode cX12_takesPart 98 = .ok (.aload_n 0, 1) := by decide +kernel
theorem dX12_takesPart_99 : decode cX12_takesPart 99 = .ok (.dup, 1) := by decide +kernel
theorem dX12_takesPart_100 : decode cX12_takesPart 100 = .ok (.getfield 232, 3) := by decide +kernel
theorem dX12_takesPart_103 : decode cX12_takesPart 103 = .ok (.iconst 1, 1) := by decide +kernel
theorem dX12_takesPart_104 : decode cX12_takesPart 104 = .ok (.iadd, 1) := by decide +kernel
theorem dX12_takesPart_105 : decode cX12_takesPart 105 = .ok (.putfield 232, 3) := by decide +kernel
theorem dX12_takesPart_108 : decode cX12_takesPart 108 = .ok (.aload_n 0, 1) := by decide +kernel
theorem dX12_takesPart_109 : decode cX12_takesPart 109 = .ok (.bipush 6, 2) := by decide +kernel
theorem dX12_takesPart_111 : decode cX12_takesPart 111 = .ok (.invokevirtual 235, 3) := by decide +kernel
theorem dX12_takesPart_114 : decode cX12_takesPart 114 = .ok (.aload_n 0, 1) := by decide +kernel
theorem dX12_takesPart_115 : decode cX12_takesPart 115 = .ok (.invokevirtual 217, 3) := by decide +kernel
theorem dX12_takesPart_118 : decode cX12_takesPart 118 = .ok (.iconst 1, 1) := by decide +kernel
theorem dX12_takesPart_119 : decode cX12_takesPart 119 = .ok (.ireturn, 1) := by decide +kernel
theorem dX12_takesE_0 : decode cX12_takesE 0 = .ok (.iconst 0, 1) := by decide +kernel
theorem dX12_takesE_1 : decode cX12_takesE 1 = .ok (.istore_n 1, 1) := by decide +kernel
theorem dX12_takesE_2 : decode cX12_takesE 2 = .ok (.iconst 0, 1) := by decide +kernel
theorem dX12_takesE_3 : decode cX12_takesE 3 = .ok (.istore_n 2, 1) := by decide +kernel
theorem dX12_takesE_4 : decode cX12_takesE 4 = .ok (.iconst 1, 1) := by decide +kernel
theorem dX12_takesE_5 : decode cX12_takesE 5 = .ok (.istore_n 3, 1) := by decide +kernel
theorem dX12_takesE_6 : decode cX12_takesE 6 = .ok (.aload_n 0, 1) := by decide +kernel
theorem dX12_takesE_7 : decode cX12_takesE 7 = .ok (.iconst 0, 1) := by decide +kernel
theorem dX12_takesE_8 : decode cX12_takesE 8 = .ok (.putfield 226, 3) := by decide +kernel
theorem dX12_takesE_11 : decode cX12_takesE 11 = .ok (.aload_n 0, 1) := by decide +kernel
theorem dX12_takesE_12 : decode cX12_takesE 12 = .ok (.iconst 0, 1) := by decide +kernel
theorem dX12_takesE_13 : decode cX12_takesE 13 = .ok (.putfield 232, 3) := by decide +kernel
theorem dX12_takesE_16 : decode cX12_takesE 16 = .ok (.aload_n 0, 1) := by decide +kernel
theorem dX12_takesE_17 : decode cX12_takesE 17 = .ok (.iconst 0, 1) := by decide +kernel
theorem dX12_takesE_18 : decode cX12_takesE 18 = .ok (.putfield 220, 3) := by decide +kernel
theorem dX12_takesE_21 : decode cX12_takesE 21 = .ok (.aload_n 0, 1) := by decide +kernel
theorem dX12_takesE_22 : decode cX12_takesE 22 = .ok (.getfield 35, 3) := by decide +kernel
theorem dX12_takesE_25 : decode cX12_takesE 25 = .ok (.iconst 0, 1) := by decide +kernel
theorem dX12_takesE_26 : decode cX12_takesE 26 = .ok (.iconst 0, 1) := by decide +kernel
theorem dX12_takesE_27 : decode cX12_takesE 27 = .ok (.bastore, 1) := by decide +kernel
theorem dX12_takesE_28 : decode cX12_takesE 28 = .ok (.iload_n 3, 1) := by decide +kernel
theorem dX12_takesE_29 : decode cX12_takesE 29 = .ok (.ifCond .ne 10, 3) := by decide +kernel
theorem dX12_takesE_32 : decode cX12_takesE 32 = .ok (.aload_n 0, 1) := by decide +kernel
theorem dX12_takesE_33 : decode cX12_takesE 33 = .ok (.getfield 202, 3) := by decide +kernel
theorem dX12_takesE_36 : decode cX12_takesE 36 = .ok (.ifCond .eq 309, 3) := by decide +kernel
theorem dX12_takesE_39 : decode cX12_takesE 39 = .ok (.iload_n 3, 1) := by decide +kernel
theorem dX12_takesE_40 : decode cX12_takesE 40 = .ok (.ifCond .eq 140, 3) := by decide +kernel
theorem dX12_takesE_43 : decode cX12_takesE 43 = .ok (.aload_n 0, 1) := by decide +kernel
theorem dX12_takesE_44 : decode cX12_takesE 44 = .ok (.getfield 202, 3) := by decide +kernel
theorem dX12_takesE_47 : decode cX12_takesE 47 = .ok (.iconst 3, 1) := by decide +kernel
theorem dX12_takesE_48 : decode cX12_takesE 48 = .ok (.if_icmp .ne 49, 3) := by decide +kernel
theorem dX12_takesE_51 : decode cX12_takesE 51 = .ok (.aload_n 0, 1) := by decide +kernel
theorem dX12_takesE_52 : decode cX12_takesE 52 = .ok (.getfield 208, 3) := by decide +kernel
theorem dX12_takesE_55 : decode cX12_takesE 55 = .ok (.bipush 33, 2) := by decide +kernel
theorem dX12_takesE_57 : decode cX12_takesE 57 = .ok (.if_icmp .ne 40, 3) := by decide +kernel
theorem dX12_takesE_60 : decode cX12_takesE 60 = .ok (.iload_n 2, 1) := by decide +kernel
theorem dX12_takesE_61 : decode cX12_takesE 61 = .ok (.bipush 8, 2) := by decide +kernel
theorem dX12_takesE_63 : decode cX12_takesE 63 = .ok (.if_icmp .ge 34, 3) := by decide +kernel
theorem dX12_takesE_66 : decode cX12_takesE 66 = .ok (.aload_n 0, 1) := by decide +kernel
theorem dX12_takesE_67 : decode cX12_takesE 67 = .ok (.getfield 32, 3) := by decide +kernel
theorem dX12_takesE_70 : decode cX12_takesE 70 = .ok (.aload_n 0, 1) := by decide +kernel
theorem dX12_takesE_71 : decode cX12_takesE 71 = .ok (.getfield 220, 3) := by decide +kernel
theorem dX12_takesE_74 : decode cX12_takesE 74 = .ok (.bipush (-10), 2) := by decide +kernel
theorem dX12_takesE_76 : decode cX12_takesE 76 = .ok (.iastore, 1) := by decide +kernel
theorem dX12_takesE_77 : decode cX12_takesE 77 = .ok (.aload_n 0, 1) := by decide +kernel
theorem dX12_takesE_78 : decode cX12_takesE 78 = .ok (.dup, 1) := by decide +kernel
theorem dX12_takesE_79 : decode cX12_takesE 79 = .ok (.getfield 220, 3) := by decide +kernel
theorem dX12_takesE_82 : decode cX12_takesE 82 = .ok (.iconst 1, 1) := by decide +kernel
theorem dX12_takesE_83 : decode cX12_takesE 83 = .ok (.iadd, 1) := by decide +kernel
theorem dX12_takesE_84 : decode cX12_takesE 84 = .ok (.putfield 220, 3) := by decide +kernel
theorem dX12_takesE_87 : decode cX12_takesE 87 = .ok (.iinc 2 1, 3) := by decide +kernel
theorem dX12_takesE_90 : decode cX12_takesE 90 = .ok (.aload_n 0, 1) := by decide +kernel
theorem dX12_takesE_91 : decode cX12_takesE 91 = .ok (.invokevirtual 217, 3) := by decide +kernel
theorem dX12_takesE_94 : decode cX12_takesE 94 = .ok (.goto 78, 3) := by decide +kernel
theorem dX12_takesE_97 : decode cX12_takesE 97 = .ok (.aload_n 0, 1) := by decide +kernel
theorem dX12_takesE_98 : decode cX12_takesE 98 = .ok (.getfield 202, 3) := by decide +kernel
theorem dX12_takesE_101 : decode cX12_takesE 101 = .ok (.iconst 3, 1) := by decide +kernel
theorem dX12_takesE_102 : decode cX12_takesE 102 = .ok (.if_icmp .ne 56, 3) := by decide +kernel
theorem dX12_takesE_105 : decode cX12_takesE 105 = .ok (.aload_n 0, 1) := by decide +kernel
theorem dX12_takesE_106 : decode cX12_takesE 106 = .ok (.getfield 208, 3) := by decide +kernel
theorem dX12_takesE_109 : decode cX12_takesE 109 = .ok (.bipush 40, 2) := by decide +kernel
theorem dX12_takesE_111 : decode cX12_takesE 111 = .ok (.if_icmp .ne 47, 3) := by decide +kernel
theorem dX12_takesE_114 : decode cX12_takesE 114 = .ok (.iload_n 1, 1) := by decide +kernel
theorem dX12_takesE_115 : decode cX12_takesE 115 = .ok (.bipush 8, 2) := by decide +kernel
theorem dX12_takesE_117 : decode cX12_takesE 117 = .ok (.if_icmp .ge 41, 3) := by decide +kernel
theorem dX12_takesE_120 : decode cX12_takesE 120 = .ok (.aload_n 0, 1) := by decide +kernel
theorem dX12_takesE_121 : decode cX12_takesE 121 = .ok (.getfield 32, 3) := by decide +kernel
theorem dX12_takesE_124 : decode cX12_takesE 124 = .ok (.aload_n 0, 1) := by decide +kernel
theorem dX12_takesE_125 : decode cX12_takesE 125 = .ok (.getfield 220, 3) := by decide +kernel
theorem dX12_takesE_128 : decode cX12_takesE 128 = .ok (.bipush (-11), 2) := by decide +kernel
theorem dX12_takesE_130 : decode cX12_takesE 130 = .ok (.iastore, 1) := by decide +kernel
theorem dX12_takesE_131 : decode cX12_takesE 131 = .ok (.aload_n 0, 1) := by decide +kernel
theorem dX12_takesE_132 : decode cX12_takesE 132 = .ok (.dup, 1) := by decide +kernel
theorem dX12_takesE_133 : decode cX12_takesE 133 = .ok (.getfield 220, 3) := by decide +kernel
theorem dX12_takesE_136 : decode cX12_takesE 136 = .ok (.iconst 1, 1) := by decide +kernel
theorem dX12_takesE_137 : decode cX12_takesE 137 = .ok (.iadd, 1) := by decide +kernel
theorem dX12_takesE_138 : decode cX12_takesE 138 = .ok (.putfield 220, 3) := by decide +kernel
theorem dX12_takesE_141 : decode cX12_takesE 141 = .ok (.iinc 1 1, 3) := by decide +kernel
theorem dX12_takesE_144 : decode cX12_takesE 144 = .ok (.aload_n 0, 1) := by decide +kernel
theorem dX12_takesE_145 : decode cX12_takesE 145 = .ok (.getfield 35, 3) := by decide +kernel
theorem dX12_takesE_148 : decode cX12_takesE 148 = .ok (.iload_n 1, 1) := by decide +kernel
theorem dX12_takesE_149 : decode cX12_takesE 149 = .ok (.iconst 0, 1) := by decide +kernel
theorem dX12_takesE_150 : decode cX12_takesE 150 = .ok (.bastore, 1) := by decide +kernel
theorem dX12_takesE_151 : decode cX12_takesE 151 = .ok (.aload_n 0, 1) := by decide +kernel
theorem dX12_takesE_152 : decode cX12_takesE 152 = .ok (.invokevirtual 217, 3) := by decide +kernel
theorem dX12_takesE_155 : decode cX12_takesE 155 = .ok (.goto 17, 3) := by decide +kernel
theorem dX12_takesE_158 : decode cX12_takesE 158 = .ok (.aload_n 0, 1) := by decide +kernel
theorem dX12_takesE_159 : decode cX12_takesE 159 = .ok (.invokevirtual 239, 3) := by decide +kernel
theorem dX12_takesE_162 : decode cX12_takesE 162 = .ok (.ifCond .eq 8, 3) := by decide +kernel
theorem dX12_takesE_165 : decode cX12_takesE 165 = .ok (.iconst 0, 1) := by decide +kernel
theorem dX12_takesE_166 : decode cX12_takesE 166 = .ok (.istore_n 3, 1) := by decide +kernel
theorem dX12_takesE_167 : decode cX12_takesE 167 = .ok (.goto 5, 3) := by decide +kernel
theorem dX12_takesE_170 : decode cX12_takesE 170 = .ok (.iconst 0, 1) := by decide +kernel
theorem dX12_takesE_171 : decode cX12_takesE 171 = .ok (.ireturn, 1) := by decide +kernel
theorem dX12_takesE_172 : decode cX12_takesE 172 = .ok (.aload_n 0, 1) := by decide +kernel
theorem dX12_takesE_173 : decode cX12_takesE 173 = .ok (.invokevirtual 243, 3) := by decide +kernel
theorem dX12_takesE_176 : decode cX12_takesE 176 = .ok (.istore_n 2, 1) := by decide +kernel
theorem dX12_takesE_177 : decode cX12_takesE 177 = .ok (.goto (-149), 3) := by decide +kernel
theorem dX12_takesE_180 : decode cX12_takesE 180 = .ok (.aload_n 0, 1) := by decide +kernel
theorem dX12_takesE_181 : decode cX12_takesE 181 = .ok (.getfield 202, 3) := by decide +kernel
theorem dX12_takesE_184 : decode cX12_takesE 184 = .ok (.iconst 3, 1) := by decide +kernel
theorem dX12_takesE_185 : decode cX12_takesE 185 = .ok (.if_icmp .ne 52, 3) := by decide +kernel
theorem dX12_takesE_188 : decode cX12_takesE 188 = .ok (.aload_n 0, 1) := by decide +kernel
theorem dX12_takesE_189 : decode cX12_takesE 189 = .ok (.getfield 208, 3) := by decide +kernel
theorem dX12_takesE_192 : decode cX12_takesE 192 = .ok (.bipush 41, 2) := by decide +kernel
theorem dX12_takesE_194 : decode cX12_takesE 194 = .ok (.if_icmp .ne 43, 3) := by decide +kernel
theorem dX12_takesE_197 : decode cX12_takesE 197 = .ok (.iload_n 1, 1) := by decide +kernel
theorem dX12_takesE_198 : decode cX12_takesE 198 = .ok (.ifCond .le 39, 3) := by decide +kernel
theorem dX12_takesE_201 : decode cX12_takesE 201 = .ok (.aload_n 0, 1) := by decide +kernel
theorem dX12_takesE_202 : decode cX12_takesE 202 = .ok (.iconst 0, 1) := by decide +kernel
theorem dX12_takesE_203 : decode cX12_takesE 203 = .ok (.invokevirtual 235, 3) := by decide +kernel
theorem dX12_takesE_206 : decode cX12_takesE 206 = .ok (.aload_n 0, 1) := by decide +kernel
theorem dX12_takesE_207 : decode cX12_takesE 207 = .ok (.dup, 1) := by decide +kernel
theorem dX12_takesE_208 : decode cX12_takesE 208 = .ok (.getfield 220, 3) := by decide +kernel
theorem dX12_takesE_211 : decode cX12_takesE 211 = .ok (.iconst 1, 1) := by decide +kernel
theorem dX12_takesE_212 : decode cX12_takesE 212 = .ok (.isub, 1) := by decide +kernel
theorem dX12_takesE_213 : decode cX12_takesE 213 = .ok (.putfield 220, 3) := by decide +kernel
theorem dX12_takesE_216 : decode cX12_takesE 216 = .ok (.iinc 1 (-1), 3) := by decide +kernel
theorem dX12_takesE_219 : decode cX12_takesE 219 = .ok (.aload_n 0, 1) := by decide +kernel
theorem dX12_takesE_220 : decode cX12_takesE 220 = .ok (.bipush 6, 2) := by decide +kernel
theorem dX12_takesE_222 : decode cX12_takesE 222 = .ok (.invokevirtual 235, 3) := by decide +kernel
theorem dX12_takesE_225 : decode cX12_takesE 225 = .ok (.aload_n 0, 1) := by decide +kernel
theorem dX12_takesE_226 : decode cX12_takesE 226 = .ok (.invokevirtual 243, 3) := by decide +kernel
theorem dX12_takesE_229 : decode cX12_takesE 229 = .ok (.istore_n 2, 1) := by decide +kernel
theorem dX12_takesE_230 : decode cX12_takesE 230 = .ok (.aload_n 0, 1) := by decide +kernel
theorem dX12_takesE_231 : decode cX12_takesE 231 = .ok (.invokevirtual 217, 3) := by decide +kernel
theorem dX12_takesE_234 : decode cX12_takesE 234 = .ok (.goto (-206), 3) := by decide +kernel
theorem dX12_takesE_237 : decode cX12_takesE 237 = .ok (.aload_n 0, 1) := by decide +kernel
theorem dX12_takesE_238 : decode cX12_takesE 238 = .ok (.invokevirtual 246, 3) := by decide +kernel
theorem dX12_takesE_241 : decode cX12_takesE 241 = .ok (.istore 4, 2) := by decide +kernel
theorem dX12_takesE_243 : decode cX12_takesE 243 = .ok (.iload 4, 2) := by decide +kernel
theorem dX12_takesE_245 : decode cX12_takesE 245 = .ok (.ifCond .eq 21, 3) := by decide +kernel
theorem dX12_takesE_248 : decode cX12_takesE 248 = .ok (.iload 4, 2) := by decide +kernel
theorem dX12_takesE_250 : decode cX12_takesE 250 = .ok (.invokestatic 223, 3) := by decide +kernel
theorem dX12_takesE_253 : decode cX12_takesE 253 = .ok (.iconst 3, 1) := by decide +kernel
theorem dX12_takesE_254 : decode cX12_takesE 254 = .ok (.if_icmp .ne 14, 3) := by decide +kernel
theorem dX12_takesE_257 : decode cX12_takesE 257 = .ok (.aload_n 0, 1) := by decide +kernel
theorem dX12_takesE_258 : decode cX12_takesE 258 = .ok (.getfield 35, 3) := by decide +kernel
theorem dX12_takesE_261 : decode cX12_takesE 261 = .ok (.iload_n 1, 1) := by decide +kernel
theorem dX12_takesE_262 : decode cX12_takesE 262 = .ok (.baload, 1) := by decide +kernel
theorem dX12_takesE_263 : decode cX12_takesE 263 = .ok (.ifCond .eq 5, 3) := by decide +kernel
theorem dX12_takesE_266 : decode cX12_takesE 266 = .ok (.iconst 0, 1) := by decide +kernel
theorem dX12_takesE_267 : decode cX12_takesE 267 = .ok (.ireturn, 1) := by decide +kernel
theorem dX12_takesE_268 : decode cX12_takesE 268 = .ok (.aload_n 0, 1) := by decide +kernel
theorem dX12_takesE_269 : decode cX12_takesE 269 = .ok (.getfield 35, 3) := by decide +kernel
theorem dX12_takesE_272 : decode cX12_takesE 272 = .ok (.iload_n 1, 1) := by decide +kernel
theorem dX12_takesE_273 : decode cX12_takesE 273 = .ok (.iload 4, 2) := by decide +kernel
theorem dX12_takesE_275 : decode cX12_takesE 275 = .ok (.invokestatic 223, 3) := by decide +kernel
theorem dX12_takesE_278 : decode cX12_takesE 278 = .ok (.iconst 3, 1) := by decide +kernel
theorem dX12_takesE_279 : decode cX12_takesE 279 = .ok (.if_icmp .eq 21, 3) := by decide +kernel
theorem dX12_takesE_282 : decode cX12_takesE 282 = .ok (.iload 4, 2) := by decide +kernel
theorem dX12_takesE_284 : decode cX12_takesE 284 = .ok (.invokestatic 223, 3) := by decide +kernel
theorem dX12_takesE_287 : decode cX12_takesE 287 = .ok (.iconst 3, 1) := by decide +kernel
theorem dX12_takesE_288 : decode cX12_takesE 288 = .ok (.if_icmp .le 16, 3) := by decide +kernel
theorem dX12_takesE_291 : decode cX12_takesE 291 = .ok (.aload_n 0, 1) := by decide +kernel
theorem dX12_takesE_292 : decode cX12_takesE 292 = .ok (.getfield 35, 3) := by decide +kernel
theorem dX12_takesE_295 : decode cX12_takesE 295 = .ok (.iload_n 1, 1) := by decide +kernel
theorem dX12_takesE_296 : decode cX12_takesE 296 = .ok (.baload, 1) := by decide +kernel
theorem dX12_takesE_297 : decode cX12_takesE 297 = .ok (.ifCond .eq 7, 3) := by decide +kernel
theorem dX12_takesE_300 : decode cX12_takesE 300 = .ok (.iconst 1, 1) := by decide +kernel
theorem dX12_takesE_301 : decode cX12_takesE 301 = .ok (.goto 4, 3) := by decide +kernel
theorem dX12_takesE_304 : decode cX12_takesE 304 = .ok (.iconst 0, 1) := by decide +kernel
theorem dX12_takesE_305 : decode cX12_takesE 305 = .ok (.bastore, 1) := by decide +kernel
theorem dX12_takesE_306 : decode cX12_takesE 306 = .ok (.aload_n 0, 1) := by decide +kernel
theorem dX12_takesE_307 : decode cX12_takesE 307 = .ok (.iload 4, 2) := by decide +kernel
theorem dX12_takesE_309 : decode cX12_takesE 309 = .ok (.invokestatic 223, 3) := by decide +kernel
theorem dX12_takesE_312 : decode cX12_takesE 312 = .ok (.invokevirtual 235, 3) := by decide +kernel
theorem dX12_takesE_315 : decode cX12_takesE 315 = .ok (.aload_n 0, 1) := by decide +kernel
theorem dX12_takesE_316 : decode cX12_takesE 316 = .ok (.getfield 32, 3) := by decide +kernel
theorem dX12_takesE_319 : decode cX12_takesE 319 = .ok (.aload_n 0, 1) := by decide +kernel
theorem dX12_takesE_320 : decode cX12_takesE 320 = .ok (.getfield 220, 3) := by decide +kernel
theorem dX12_takesE_323 : decode cX12_takesE 323 = .ok (.iload 4, 2) := by decide +kernel
theorem dX12_takesE_325 : decode cX12_takesE 325 = .ok (.iastore, 1) := by decide +kernel
theorem dX12_takesE_326 : decode cX12_takesE 326 = .ok (.aload_n 0, 1) := by decide +kernel
theorem dX12_takesE_327 : decode cX12_takesE 327 = .ok (.dup, 1) := by decide +kernel
theorem dX12_takesE_328 : decode cX12_takesE 328 = .ok (.getfield 220, 3) := by decide +kernel
theorem dX12_takesE_331 : decode cX12_takesE 331 = .ok (.iconst 1, 1) := by decide +kernel
theorem dX12_takesE_332 : decode cX12_takesE 332 = .ok (.iadd, 1) := by decide +kernel
theorem dX12_takesE_333 : decode cX12_takesE 333 = .ok (.putfield 220, 3) := by decide +kernel
theorem dX12_takesE_336 : decode cX12_takesE 336 = .ok (.iconst 1, 1) := by decide +kernel
theorem dX12_takesE_337 : decode cX12_takesE 337 = .ok (.istore_n 3, 1) := by decide +kernel
theorem dX12_takesE_338 : decode cX12_takesE 338 = .ok (.aload_n 0, 1) := by decide +kernel
theorem dX12_takesE_339 : decode cX12_takesE 339 = .ok (.invokevirtual 217, 3) := by decide +kernel
theorem dX12_takesE_342 : decode cX12_takesE 342 = .ok (.goto (-314), 3) := by decide +kernel
theorem dX12_takesE_345 : decode cX12_takesE 345 = .ok (.aload_n 0, 1) := by decide +kernel
theorem dX12_takesE_346 : decode cX12_takesE 346 = .ok (.iconst 0, 1) := by decide +kernel
theorem dX12_takesE_347 : decode cX12_takesE 347 = .ok (.invokevirtual 235, 3) := by decide +kernel
theorem dX12_takesE_350 : decode cX12_takesE 350 = .ok (.iload_n 1, 1) := by decide +kernel
theorem dX12_takesE_351 : decode cX12_takesE 351 = .ok (.ifCond .ne 7, 3) := by decide +kernel
theorem dX12_takesE_354 : decode cX12_takesE 354 = .ok (.iconst 1, 1) := by decide +kernel
theorem dX12_takesE_355 : decode cX12_takesE 355 = .ok (.goto 4, 3) := by decide +kernel
theorem dX12_takesE_358 : decode cX12_takesE 358 = .ok (.iconst 0, 1) := by decide +kernel
theorem dX12_takesE_359 : decode cX12_takesE 359 = .ok (.ireturn, 1) := by decide +kernel
theorem dX12_notsOpen_0 : decode cX12_notsOpen 0 = .ok (.iconst 0, 1) := by decide +kernel
theorem dX12_notsOpen_1 : decode cX12_notsOpen 1 = .ok (.istore_n 1, 1) := by decide +kernel
theorem dX12_notsOpen_2 : decode cX12_notsOpen 2 = .ok (.iconst 0, 1) := by decide +kernel
theorem dX12_notsOpen_3 : decode cX12_notsOpen 3 = .ok (.istore_n 2, 1) := by decide +kernel
theorem dX12_notsOpen_4 : decode cX12_notsOpen 4 = .ok (.iload_n 2, 1) := by decide +kernel
theorem dX12_notsOpen_5 : decode cX12_notsOpen 5 = .ok (.aload_n 0, 1) := by decide +kernel
theorem dX12_notsOpen_6 : decode cX12_notsOpen 6 = .ok (.getfield 220, 3) := by decide +kernel
theorem dX12_notsOpen_9 : decode cX12_notsOpen 9 = .ok (.if_icmp .ge 28, 3) := by decide +kernel
theorem dX12_notsOpen_12 : decode cX12_notsOpen 12 = .ok (.iload_n 1, 1) := by decide +kernel
theorem dX12_notsOpen_13 : decode cX12_notsOpen 13 = .ok (.aload_n 0, 1) := by decide +kernel
theorem dX12_notsOpen_14 : decode cX12_notsOpen 14 = .ok (.getfield 32, 3) := by decide +kernel
theorem dX12_notsOpen_17 : decode cX12_notsOpen 17 = .ok (.iload_n 2, 1) := by decide +kernel
theorem dX12_notsOpen_18 : decode cX12_notsOpen 18 = .ok (.iaload, 1) := by decide +kernel
theorem dX12_notsOpen_19 : decode cX12_notsOpen 19 = .ok (.bipush (-10), 2) := by decide +kernel
theorem dX12_notsOpen_21 : decode cX12_notsOpen 21 = .ok (.if_icmp .ne 7, 3) := by decide +kernel
theorem dX12_notsOpen_24 : decode cX12_notsOpen 24 = .ok (.iconst 1, 1) := by decide +kernel
theorem dX12_notsOpen_25 : decode cX12_notsOpen 25 = .ok (.goto 4, 3) := by decide +kernel
theorem dX12_notsOpen_28 : decode cX12_notsOpen 28 = .ok (.iconst 0, 1) := by decide +kernel
theorem dX12_notsOpen_29 : decode cX12_notsOpen 29 = .ok (.iadd, 1) := by decide +kernel
theorem dX12_notsOpen_30 : decode cX12_notsOpen 30 = .ok (.istore_n 1, 1) := by decide +kernel
theorem dX12_notsOpen_31 : decode cX12_notsOpen 31 = .ok (.iinc 2 1, 3) := by decide +kernel
theorem dX12_notsOpen_34 : decode cX12_notsOpen 34 = .ok (.goto (-30), 3) := by decide +kernel
theorem dX12_notsOpen_37 : decode cX12_notsOpen 37 = .ok (.iload_n 1, 1) := by decide +kernel
theorem dX12_notsOpen_38 : decode cX12_notsOpen 38 = .ok (.ireturn, 1) := by decide +kernel
theorem dX12_text_0 : decode cX12_text 0 = .ok (.aload_n 0, 1) := by decide +kernel
theorem dX12_text_1 : decode cX12_text 1 = .ok (.iconst 0, 1) := by decide +kernel
theorem dX12_text_2 : decode cX12_text 2 = .ok (.putfield 193, 3) := by decide +kernel
theorem dX12_text_5 : decode cX12_text 5 = .ok (.aload_n 0, 1) := by decide +kernel
theorem dX12_text_6 : decode cX12_text 6 = .ok (.iconst (-1), 1) := by decide +kernel
theorem dX12_text_7 : decode cX12_text 7 = .ok (.putfield 199, 3) := by decide +kernel
theorem dX12_text_10 : decode cX12_text 10 = .ok (.aload_n 0, 1) := by decide +kernel
theorem dX12_text_11 : decode cX12_text 11 = .ok (.invokevirtual 217, 3) := by decide +kernel
theorem dX12_text_14 : decode cX12_text 14 = .ok (.aload_n 0, 1) := by decide +kernel
theorem dX12_text_15 : decode cX12_text 15 = .ok (.invokevirtual 249, 3) := by decide +kernel
theorem dX12_text_18 : decode cX12_text 18 = .ok (.ifCond .eq 14, 3) := by decide +kernel
theorem dX12_text_21 : decode cX12_text 21 = .ok (.aload_n 0, 1) := by decide +kernel
theorem dX12_text_22 : decode cX12_text 22 = .ok (.invokevirtual 252, 3) := by decide +kernel
theorem dX12_text_25 : decode cX12_text 25 = .ok (.ifCond .eq 7, 3) := by decide +kernel
theorem dX12_text_28 : decode cX12_text 28 = .ok (.iconst 1, 1) := by decide +kernel
theorem dX12_text_29 : decode cX12_text 29 = .ok (.goto 4, 3) := by decide +kernel
theorem dX12_text_32 : decode cX12_text 32 = .ok (.iconst 0, 1) := by decide +kernel
theorem dX12_text_33 : decode cX12_text 33 = .ok (.istore_n 1, 1) := by decide +kernel
theorem dX12_text_34 : decode cX12_text 34 = .ok (.aload_n 0, 1) := by decide +kernel
theorem dX12_text_35 : decode cX12_text 35 = .ok (.iconst 0, 1) := by decide +kernel
theorem dX12_text_36 : decode cX12_text 36 = .ok (.putfield 189, 3) := by decide +kernel
theorem dX12_text_39 : decode cX12_text 39 = .ok (.iload_n 1, 1) := by decide +kernel
theorem dX12_text_40 : decode cX12_text 40 = .ok (.ifCond .ne 11, 3) := by decide +kernel
theorem dX12_text_43 : decode cX12_text 43 = .ok (.bipush (-100), 2) := by decide +kernel
theorem dX12_text_45 : decode cX12_text 45 = .ok (.aload_n 0, 1) := by decide +kernel
theorem dX12_text_46 : decode cX12_text 46 = .ok (.getfield 196, 3) := by decide +kernel
theorem dX12_text_49 : decode cX12_text 49 = .ok (.isub, 1) := by decide +kernel
theorem dX12_text_50 : decode cX12_text 50 = .ok (.ireturn, 1) := by decide +kernel
theorem dX12_text_51 : decode cX12_text 51 = .ok (.aload_n 0, 1) := by decide +kernel
theorem dX12_text_52 : decode cX12_text 52 = .ok (.getfield 9, 3) := by decide +kernel
theorem dX12_text_55 : decode cX12_text 55 = .ok (.bipush 7, 2) := by decide +kernel
theorem dX12_text_57 : decode cX12_text 57 = .ok (.iaload, 1) := by decide +kernel
theorem dX12_text_58 : decode cX12_text 58 = .ok (.bipush 14, 2) := by decide +kernel
theorem dX12_text_60 : decode cX12_text 60 = .ok (.if_icmp .ne 6, 3) := by decide +kernel
theorem dX12_text_63 : decode cX12_text 63 = .ok (.ldc 79, 2) := by decide +kernel
theorem dX12_text_65 : decode cX12_text 65 = .ok (.ireturn, 1) := by decide +kernel
theorem dX12_text_66 : decode cX12_text 66 = .ok (.aload_n 0, 1) := by decide +kernel
theorem dX12_text_67 : decode cX12_text 67 = .ok (.getfield 9, 3) := by decide +kernel
theorem dX12_text_70 : decode cX12_text 70 = .ok (.bipush 7, 2) := by decide +kernel
theorem dX12_text_72 : decode cX12_text 72 = .ok (.iaload, 1) := by decide +kernel
theorem dX12_text_73 : decode cX12_text 73 = .ok (.istore_n 2, 1) := by decide +kernel
theorem dX12_text_74 : decode cX12_text 74 = .ok (.aload_n 0, 1) := by decide +kernel
theorem dX12_text_75 : decode cX12_text 75 = .ok (.getfield 9, 3) := by decide +kernel
theorem dX12_text_78 : decode cX12_text 78 = .ok (.bipush 110, 2) := by decide +kernel
theorem dX12_text_80 : decode cX12_text 80 = .ok (.iconst 2, 1) := by decide +kernel
theorem dX12_text_81 : decode cX12_text 81 = .ok (.iload_n 2, 1) := by decide +kernel
theorem dX12_text_82 : decode cX12_text 82 = .ok (.imul, 1) := by decide +kernel
theorem dX12_text_83 : decode cX12_text 83 = .ok (.iadd, 1) := by decide +kernel
theorem dX12_text_84 : decode cX12_text 84 = .ok (.sipush 1000, 3) := by decide +kernel
theorem dX12_text_87 : decode cX12_text 87 = .ok (.aload_n 0, 1) := by decide +kernel
theorem dX12_text_88 : decode cX12_text 88 = .ok (.getfield 214, 3) := by decide +kernel
theorem dX12_text_91 : decode cX12_text 91 = .ok (.imul, 1) := by decide +kernel
theorem dX12_text_92 : decode cX12_text 92 = .ok (.aload_n 0, 1) := by decide +kernel
theorem dX12_text_93 : decode cX12_text 93 = .ok (.getfield 226, 3) := by decide +kernel
theorem dX12_text_96 : decode cX12_text 96 = .ok (.iadd, 1) := by decide +kernel
theorem dX12_text_97 : decode cX12_text 97 = .ok (.iastore, 1) := by decide +kernel
theorem dX12_text_98 : decode cX12_text 98 = .ok (.aload_n 0, 1) := by decide +kernel
theorem dX12_text_99 : decode cX12_text 99 = .ok (.getfield 9, 3) := by decide +kernel
theorem dX12_text_102 : decode cX12_text 102 = .ok (.bipush 110, 2) := by decide +kernel
theorem dX12_text_104 : decode cX12_text 104 = .ok (.iconst 2, 1) := by decide +kernel
theorem dX12_text_105 : decode cX12_text 105 = .ok (.iload_n 2, 1) := by decide +kernel
theorem dX12_text_106 : decode cX12_text 106 = .ok (.imul, 1) := by decide +kernel
theorem dX12_text_107 : decode cX12_text 107 = .ok (.iadd, 1) := by decide +kernel
theorem dX12_text_108 : decode cX12_text 108 = .ok (.iconst 1, 1) := by decide +kernel
theorem dX12_text_109 : decode cX12_text 109 = .ok (.iadd, 1) := by decide +kernel
theorem dX12_text_110 : decode cX12_text 110 = .ok (.aload_n 0, 1) := by decide +kernel
theorem dX12_text_111 : decode cX12_text 111 = .ok (.getfield 232, 3) := by decide +kernel
theorem dX12_text_114 : decode cX12_text 114 = .ok (.iastore, 1) := by decide +kernel
theorem dX12_text_115 : decode cX12_text 115 = .ok (.iconst 0, 1) := by decide +kernel
theorem dX12_text_116 : decode cX12_text 116 = .ok (.istore_n 3, 1) := by decide +kernel
theorem dX12_text_117 : decode cX12_text 117 = .ok (.iload_n 3, 1) := by decide +kernel
theorem dX12_text_118 : decode cX12_text 118 = .ok (.aload_n 0, 1) := by decide +kernel
theorem dX12_text_119 : decode cX12_text 119 = .ok (.getfield 226, 3) := by decide +kernel
theorem dX12_text_122 : decode cX12_text 122 = .ok (.if_icmp .ge 30, 3) := by decide +kernel
theorem dX12_text_125 : decode cX12_text 125 = .ok (.aload_n 0, 1) := by decide +kernel
theorem dX12_text_126 : decode cX12_text 126 = .ok (.getfield 9, 3) := by decide +kernel
theorem dX12_text_129 : decode cX12_text 129 = .ok (.sipush 138, 3) := by decide +kernel
theorem dX12_text_132 : decode cX12_text 132 = .ok (.bipush 96, 2) := by decide +kernel
theorem dX12_text_134 : decode cX12_text 134 = .ok (.iload_n 2, 1) := by decide +kernel
theorem dX12_text_135 : decode cX12_text 135 = .ok (.imul, 1) := by decide +kernel
theorem dX12_text_136 : decode cX12_text 136 = .ok (.iadd, 1) := by decide +kernel
theorem dX12_text_137 : decode cX12_text 137 = .ok (.iload_n 3, 1) := by decide +kernel
theorem dX12_text_138 : decode cX12_text 138 = .ok (.iadd, 1) := by decide +kernel
theorem dX12_text_139 : decode cX12_text 139 = .ok (.aload_n 0, 1) := by decide +kernel
theorem dX12_text_140 : decode cX12_text 140 = .ok (.getfield 29, 3) := by decide +kernel
theorem dX12_text_143 : decode cX12_text 143 = .ok (.iload_n 3, 1) := by decide +kernel
theorem dX12_text_144 : decode cX12_text 144 = .ok (.iaload, 1) := by decide +kernel
theorem dX12_text_145 : decode cX12_text 145 = .ok (.iastore, 1) := by decide +kernel
theorem dX12_text_146 : decode cX12_text 146 = .ok (.iinc 3 1, 3) := by decide +kernel
theorem dX12_text_149 : decode cX12_text 149 = .ok (.goto (-32), 3) := by decide +kernel
theorem dX12_text_152 : decode cX12_text 152 = .ok (.aload_n 0, 1) := by decide +kernel
theorem dX12_text_153 : decode cX12_text 153 = .ok (.getfield 9, 3) := by decide +kernel
theorem dX12_text_156 : decode cX12_text 156 = .ok (.bipush 7, 2) := by decide +kernel
theorem dX12_text_158 : decode cX12_text 158 = .ok (.dup2, 1) := by decide +kernel
theorem dX12_text_159 : decode cX12_text 159 = .ok (.iaload, 1) := by decide +kernel
theorem dX12_text_160 : decode cX12_text 160 = .ok (.iconst 1, 1) := by decide +kernel
theorem dX12_text_161 : decode cX12_text 161 = .ok (.iadd, 1) := by decide +kernel
theorem dX12_text_162 : decode cX12_text 162 = .ok (.iastore, 1) := by decide +kernel
theorem dX12_text_163 : decode cX12_text 163 = .ok (.iload_n 2, 1) := by decide +kernel
theorem dX12_text_164 : decode cX12_text 164 = .ok (.ireturn, 1) := by decide +kernel
theorem dX12_textTold_0 : decode cX12_textTold 0 = .ok (.iload_n 1, 1) := by decide +kernel
theorem dX12_textTold_1 : decode cX12_textTold 1 = .ok (.iconst 0, 1) := by decide +kernel
theorem dX12_textTold_2 : decode cX12_textTold 2 = .ok (.aload_n 0, 1) := by decide +kernel
theorem dX12_textTold_3 : decode cX12_textTold 3 = .ok (.getfield 9, 3) := by decide +kernel
theorem dX12_textTold_6 : decode cX12_textTold 6 = .ok (.bipush 7, 2) := by decide +kernel
theorem dX12_textTold_8 : decode cX12_textTold 8 = .ok (.iaload, 1) := by decide +kernel
theorem dX12_textTold_9 : decode cX12_textTold 9 = .ok (.iconst 1, 1) := by decide +kernel
theorem dX12_textTold_10 : decode cX12_textTold 10 = .ok (.isub, 1) := by decide +kernel
theorem dX12_textTold_11 : decode cX12_textTold 11 = .ok (.invokestatic 73, 3) := by decide +kernel
theorem dX12_textTold_14 : decode cX12_textTold 14 = .ok (.ifCond .eq 12, 3) := by decide +kernel
theorem dX12_textTold_17 : decode cX12_textTold 17 = .ok (.iload_n 2, 1) := by decide +kernel
theorem dX12_textTold_18 : decode cX12_textTold 18 = .ok (.iconst 0, 1) := by decide +kernel
theorem dX12_textTold_19 : decode cX12_textTold 19 = .ok (.iconst 1, 1) := by decide +kernel
theorem dX12_textTold_20 : decode cX12_textTold 20 = .ok (.invokestatic 73, 3) := by decide +kernel
theorem dX12_textTold_23 : decode cX12_textTold 23 = .ok (.ifCond .ne 6, 3) := by decide +kernel
theorem dX12_textTold_26 : decode cX12_textTold 26 = .ok (.ldc 78, 2) := by decide +kernel
theorem dX12_textTold_28 : decode cX12_textTold 28 = .ok (.ireturn, 1) := by decide +kernel
theorem dX12_textTold_29 : decode cX12_textTold 29 = .ok (.iload_n 2, 1) := by decide +kernel
theorem dX12_textTold_30 : decode cX12_textTold 30 = .ok (.ifCond .ne 21, 3) := by decide +kernel
theorem dX12_textTold_33 : decode cX12_textTold 33 = .ok (.aload_n 0, 1) := by decide +kernel
theorem dX12_textTold_34 : decode cX12_textTold 34 = .ok (.getfield 9, 3) := by decide +kernel
theorem dX12_textTold_37 : decode cX12_textTold 37 = .ok (.bipush 110, 2) := by decide +kernel
theorem dX12_textTold_39 : decode cX12_textTold 39 = .ok (.iconst 2, 1) := by decide +kernel
theorem dX12_textTold_40 : decode cX12_textTold 40 = .ok (.iload_n 1, 1) := by decide +kernel
theorem dX12_textTold_41 : decode cX12_textTold 41 = .ok (.imul, 1) := by decide +kernel
theorem dX12_textTold_42 : decode cX12_textTold 42 = .ok (.iadd, 1) := by decide +kernel
theorem dX12_textTold_43 : decode cX12_textTold 43 = .ok (.iaload, 1) := by decide +kernel
theorem dX12_textTold_44 : decode cX12_textTold 44 = .ok (.sipush 1000, 3) := by decide +kernel
theorem dX12_textTold_47 : decode cX12_textTold 47 = .ok (.idiv, 1) := by decide +kernel
theorem dX12_textTold_48 : decode cX12_textTold 48 = .ok (.goto 16, 3) := by decide +kernel
theorem dX12_textTold_51 : decode cX12_textTold 51 = .ok (.aload_n 0, 1) := by decide +kernel
theorem dX12_textTold_52 : decode cX12_textTold 52 = .ok (.getfield 9, 3) := by decide +kernel
theorem dX12_textTold_55 : decode cX12_textTold 55 = .ok (.bipush 110, 2) := by decide +kernel
theorem dX12_textTold_57 : decode cX12_textTold 57 = .ok (.iconst 2, 1) := by decide +kernel
theorem dX12_textTold_58 : decode cX12_textTold 58 = .ok (.iload_n 1, 1) := by decide +kernel
theorem dX12_textTold_59 : decode cX12_textTold 59 = .ok (.imul, 1) := by decide +kernel
theorem dX12_textTold_60 : decode cX12_textTold 60 = .ok (.iadd, 1) := by decide +kernel
theorem dX12_textTold_61 : decode cX12_textTold 61 = .ok (.iconst 1, 1) := by decide +kernel
theorem dX12_textTold_62 : decode cX12_textTold 62 = .ok (.iadd, 1) := by decide +kernel
theorem dX12_textTold_63 : decode cX12_textTold 63 = .ok (.iaload, 1) := by decide +kernel
theorem dX12_textTold_64 : decode cX12_textTold 64 = .ok (.ireturn, 1) := by decide +kernel
theorem dX12_counts_0 : decode cX12_counts 0 = .ok (.aload_n 0, 1) := by decide +kernel
theorem dX12_counts_1 : decode cX12_counts 1 = .ok (.getfield 9, 3) := by decide +kernel
theorem dX12_counts_4 : decode cX12_counts 4 = .ok (.bipush 7, 2) := by decide +kernel
theorem dX12_counts_6 : decode cX12_counts 6 = .ok (.iaload, 1) := by decide +kernel
theorem dX12_counts_7 : decode cX12_counts 7 = .ok (.iconst 1, 1) := by decide +kernel
theorem dX12_counts_8 : decode cX12_counts 8 = .ok (.isub, 1) := by decide +kernel
theorem dX12_counts_9 : decode cX12_counts 9 = .ok (.istore_n 2, 1) := by decide +kernel
theorem dX12_counts_10 : decode cX12_counts 10 = .ok (.iload_n 2, 1) := by decide +kernel
theorem dX12_counts_11 : decode cX12_counts 11 = .ok (.ifCond .lt 30, 3) := by decide +kernel
theorem dX12_counts_14 : decode cX12_counts 14 = .ok (.aload_n 0, 1) := by decide +kernel
theorem dX12_counts_15 : decode cX12_counts 15 = .ok (.getfield 9, 3) := by decide +kernel
theorem dX12_counts_18 : decode cX12_counts 18 = .ok (.bipush 110, 2) := by decide +kernel
theorem dX12_counts_20 : decode cX12_counts 20 = .ok (.iconst 2, 1) := by decide +kernel
theorem dX12_counts_21 : decode cX12_counts 21 = .ok (.iload_n 2, 1) := by decide +kernel
theorem dX12_counts_22 : decode cX12_counts 22 = .ok (.imul, 1) := by decide +kernel
theorem dX12_counts_23 : decode cX12_counts 23 = .ok (.iadd, 1) := by decide +kernel
theorem dX12_counts_24 : decode cX12_counts 24 = .ok (.iaload, 1) := by decide +kernel
theorem dX12_counts_25 : decode cX12_counts 25 = .ok (.sipush 1000, 3) := by decide +kernel
theorem dX12_counts_28 : decode cX12_counts 28 = .ok (.idiv, 1) := by decide +kernel
theorem dX12_counts_29 : decode cX12_counts 29 = .ok (.iload_n 1, 1) := by decide +kernel
theorem dX12_counts_30 : decode cX12_counts 30 = .ok (.if_icmp .ne 5, 3) := by decide +kernel
theorem dX12_counts_33 : decode cX12_counts 33 = .ok (.iload_n 2, 1) := by decide +kernel
theorem dX12_counts_34 : decode cX12_counts 34 = .ok (.ireturn, 1) := by decide +kernel
theorem dX12_counts_35 : decode cX12_counts 35 = .ok (.iinc 2 (-1), 3) := by decide +kernel
theorem dX12_counts_38 : decode cX12_counts 38 = .ok (.goto (-28), 3) := by decide +kernel
theorem dX12_counts_41 : decode cX12_counts 41 = .ok (.iconst (-1), 1) := by decide +kernel
theorem dX12_counts_42 : decode cX12_counts 42 = .ok (.ireturn, 1) := by decide +kernel
theorem dX12_why_0 : decode cX12_why 0 = .ok (.iload_n 1, 1) := by decide +kernel
theorem dX12_why_1 : decode cX12_why 1 = .ok (.iconst 0, 1) := by decide +kernel
theorem dX12_why_2 : decode cX12_why 2 = .ok (.iconst 2, 1) := by decide +kernel
theorem dX12_why_3 : decode cX12_why 3 = .ok (.invokestatic 73, 3) := by decide +kernel
theorem dX12_why_6 : decode cX12_why 6 = .ok (.ifCond .ne 6, 3) := by decide +kernel
theorem dX12_why_9 : decode cX12_why 9 = .ok (.ldc 78, 2) := by decide +kernel
theorem dX12_why_11 : decode cX12_why 11 = .ok (.ireturn, 1) := by decide +kernel
theorem dX12_why_12 : decode cX12_why 12 = .ok (.aload_n 0, 1) := by decide +kernel
theorem dX12_why_13 : decode cX12_why 13 = .ok (.iload_n 1, 1) := by decide +kernel
end
section
theorem dX12_why_14 : decode cX12_why 14 = .ok (.invokevirtual 91, 3) := by decide +kernel
theorem dX12_why_17 : decode cX12_why 17 = .ok (.istore_n 2, 1) := by decide +kernel
theorem dX12_why_18 : decode cX12_why 18 = .ok (.iload_n 2, 1) := by decide +kernel
theorem dX12_why_19 : decode cX12_why 19 = .ok (.ifCond .ge 8, 3) := by decide +kernel
theorem dX12_why_22 : decode cX12_why 22 = .ok (.ldc 72, 2) := by decide +kernel
theorem dX12_why_24 : decode cX12_why 24 = .ok (.goto 4, 3) := by decide +kernel
theorem dX12_why_27 : decode cX12_why 27 = .ok (.iload_n 2, 1) := by decide +kernel
theorem dX12_why_28 : decode cX12_why 28 = .ok (.ireturn, 1) := by decide +kernel
theorem dX12_two_0 : decode cX12_two 0 = .ok (.iload_n 0, 1) := by decide +kernel
theorem dX12_two_1 : decode cX12_two 1 = .ok (.tableswitch 120 (-8) (-1) #[116, 112, 108, 97, 86, 75, 61, 47], 47) := by decide +kernel
theorem dX12_two_48 : decode cX12_two 48 = .ok (.iload_n 1, 1) := by decide +kernel
theorem dX12_two_49 : decode cX12_two 49 = .ok (.ifCond .ne 7, 3) := by decide +kernel
theorem dX12_two_52 : decode cX12_two 52 = .ok (.iload_n 2, 1) := by decide +kernel
theorem dX12_two_53 : decode cX12_two 53 = .ok (.ifCond .eq 7, 3) := by decide +kernel
theorem dX12_two_56 : decode cX12_two 56 = .ok (.iconst 1, 1) := by decide +kernel
theorem dX12_two_57 : decode cX12_two 57 = .ok (.goto 4, 3) := by decide +kernel
theorem dX12_two_60 : decode cX12_two 60 = .ok (.iconst 0, 1) := by decide +kernel
theorem dX12_two_61 : decode cX12_two 61 = .ok (.ireturn, 1) := by decide +kernel
theorem dX12_two_62 : decode cX12_two 62 = .ok (.iload_n 1, 1) := by decide +kernel
theorem dX12_two_63 : decode cX12_two 63 = .ok (.ifCond .eq 11, 3) := by decide +kernel
theorem dX12_two_66 : decode cX12_two 66 = .ok (.iload_n 2, 1) := by decide +kernel
theorem dX12_two_67 : decode cX12_two 67 = .ok (.ifCond .eq 7, 3) := by decide +kernel
theorem dX12_two_70 : decode cX12_two 70 = .ok (.iconst 1, 1) := by decide +kernel
theorem dX12_two_71 : decode cX12_two 71 = .ok (.goto 4, 3) := by decide +kernel
theorem dX12_two_74 : decode cX12_two 74 = .ok (.iconst 0, 1) := by decide +kernel
theorem dX12_two_75 : decode cX12_two 75 = .ok (.ireturn, 1) := by decide +kernel
theorem dX12_two_76 : decode cX12_two 76 = .ok (.iload_n 1, 1) := by decide +kernel
theorem dX12_two_77 : decode cX12_two 77 = .ok (.iload_n 2, 1) := by decide +kernel
theorem dX12_two_78 : decode cX12_two 78 = .ok (.if_icmp .ge 7, 3) := by decide +kernel
theorem dX12_two_81 : decode cX12_two 81 = .ok (.iconst 1, 1) := by decide +kernel
theorem dX12_two_82 : decode cX12_two 82 = .ok (.goto 4, 3) := by decide +kernel
theorem dX12_two_85 : decode cX12_two 85 = .ok (.iconst 0, 1) := by decide +kernel
theorem dX12_two_86 : decode cX12_two 86 = .ok (.ireturn, 1) := by decide +kernel
theorem dX12_two_87 : decode cX12_two 87 = .ok (.iload_n 1, 1) := by decide +kernel
theorem dX12_two_88 : decode cX12_two 88 = .ok (.iload_n 2, 1) := by decide +kernel
theorem dX12_two_89 : decode cX12_two 89 = .ok (.if_icmp .ne 7, 3) := by decide +kernel
theorem dX12_two_92 : decode cX12_two 92 = .ok (.iconst 1, 1) := by decide +kernel
theorem dX12_two_93 : decode cX12_two 93 = .ok (.goto 4, 3) := by decide +kernel
theorem dX12_two_96 : decode cX12_two 96 = .ok (.iconst 0, 1) := by decide +kernel
theorem dX12_two_97 : decode cX12_two 97 = .ok (.ireturn, 1) := by decide +kernel
theorem dX12_two_98 : decode cX12_two 98 = .ok (.iload_n 1, 1) := by decide +kernel
theorem dX12_two_99 : decode cX12_two 99 = .ok (.iload_n 2, 1) := by decide +kernel
theorem dX12_two_100 : decode cX12_two 100 = .ok (.if_icmp .le 7, 3) := by decide +kernel
theorem dX12_two_103 : decode cX12_two 103 = .ok (.iconst 1, 1) := by decide +kernel
theorem dX12_two_104 : decode cX12_two 104 = .ok (.goto 4, 3) := by decide +kernel
theorem dX12_two_107 : decode cX12_two 107 = .ok (.iconst 0, 1) := by decide +kernel
theorem dX12_two_108 : decode cX12_two 108 = .ok (.ireturn, 1) := by decide +kernel
theorem dX12_two_109 : decode cX12_two 109 = .ok (.iload_n 1, 1) := by decide +kernel
theorem dX12_two_110 : decode cX12_two 110 = .ok (.iload_n 2, 1) := by decide +kernel
theorem dX12_two_111 : decode cX12_two 111 = .ok (.iadd, 1) := by decide +kernel
theorem dX12_two_112 : decode cX12_two 112 = .ok (.ireturn, 1) := by decide +kernel
theorem dX12_two_113 : decode cX12_two 113 = .ok (.iload_n 1, 1) := by decide +kernel
theorem dX12_two_114 : decode cX12_two 114 = .ok (.iload_n 2, 1) := by decide +kernel
theorem dX12_two_115 : decode cX12_two 115 = .ok (.isub, 1) := by decide +kernel
theorem dX12_two_116 : decode cX12_two 116 = .ok (.ireturn, 1) := by decide +kernel
theorem dX12_two_117 : decode cX12_two 117 = .ok (.iload_n 1, 1) := by decide +kernel
theorem dX12_two_118 : decode cX12_two 118 = .ok (.iload_n 2, 1) := by decide +kernel
theorem dX12_two_119 : decode cX12_two 119 = .ok (.imul, 1) := by decide +kernel
theorem dX12_two_120 : decode cX12_two 120 = .ok (.ireturn, 1) := by decide +kernel
theorem dX12_two_121 : decode cX12_two 121 = .ok (.iload_n 2, 1) := by decide +kernel
theorem dX12_two_122 : decode cX12_two 122 = .ok (.ifCond .ne 7, 3) := by decide +kernel
theorem dX12_two_125 : decode cX12_two 125 = .ok (.iconst 0, 1) := by decide +kernel
theorem dX12_two_126 : decode cX12_two 126 = .ok (.goto 6, 3) := by decide +kernel
theorem dX12_two_129 : decode cX12_two 129 = .ok (.iload_n 1, 1) := by decide +kernel
theorem dX12_two_130 : decode cX12_two 130 = .ok (.iload_n 2, 1) := by decide +kernel
theorem dX12_two_131 : decode cX12_two 131 = .ok (.idiv, 1) := by decide +kernel
theorem dX12_two_132 : decode cX12_two 132 = .ok (.ireturn, 1) := by decide +kernel
theorem dX12_worksOut_0 : decode cX12_worksOut 0 = .ok (.iconst 0, 1) := by decide +kernel
theorem dX12_worksOut_1 : decode cX12_worksOut 1 = .ok (.istore_n 2, 1) := by decide +kernel
theorem dX12_worksOut_2 : decode cX12_worksOut 2 = .ok (.aload_n 0, 1) := by decide +kernel
theorem dX12_worksOut_3 : decode cX12_worksOut 3 = .ok (.getfield 9, 3) := by decide +kernel
theorem dX12_worksOut_6 : decode cX12_worksOut 6 = .ok (.bipush 110, 2) := by decide +kernel
theorem dX12_worksOut_8 : decode cX12_worksOut 8 = .ok (.iconst 2, 1) := by decide +kernel
theorem dX12_worksOut_9 : decode cX12_worksOut 9 = .ok (.iload_n 1, 1) := by decide +kernel
theorem dX12_worksOut_10 : decode cX12_worksOut 10 = .ok (.imul, 1) := by decide +kernel
theorem dX12_worksOut_11 : decode cX12_worksOut 11 = .ok (.iadd, 1) := by decide +kernel
theorem dX12_worksOut_12 : decode cX12_worksOut 12 = .ok (.iaload, 1) := by decide +kernel
theorem dX12_worksOut_13 : decode cX12_worksOut 13 = .ok (.sipush 1000, 3) := by decide +kernel
theorem dX12_worksOut_16 : decode cX12_worksOut 16 = .ok (.irem, 1) := by decide +kernel
theorem dX12_worksOut_17 : decode cX12_worksOut 17 = .ok (.istore_n 3, 1) := by decide +kernel
theorem dX12_worksOut_18 : decode cX12_worksOut 18 = .ok (.iconst 0, 1) := by decide +kernel
theorem dX12_worksOut_19 : decode cX12_worksOut 19 = .ok (.istore 4, 2) := by decide +kernel
theorem dX12_worksOut_21 : decode cX12_worksOut 21 = .ok (.iload 4, 2) := by decide +kernel
theorem dX12_worksOut_23 : decode cX12_worksOut 23 = .ok (.iload_n 3, 1) := by decide +kernel
theorem dX12_worksOut_24 : decode cX12_worksOut 24 = .ok (.if_icmp .ge 132, 3) := by decide +kernel
theorem dX12_worksOut_27 : decode cX12_worksOut 27 = .ok (.aload_n 0, 1) := by decide +kernel
theorem dX12_worksOut_28 : decode cX12_worksOut 28 = .ok (.getfield 9, 3) := by decide +kernel
theorem dX12_worksOut_31 : decode cX12_worksOut 31 = .ok (.sipush 138, 3) := by decide +kernel
theorem dX12_worksOut_34 : decode cX12_worksOut 34 = .ok (.bipush 96, 2) := by decide +kernel
theorem dX12_worksOut_36 : decode cX12_worksOut 36 = .ok (.iload_n 1, 1) := by decide +kernel
theorem dX12_worksOut_37 : decode cX12_worksOut 37 = .ok (.imul, 1) := by decide +kernel
theorem dX12_worksOut_38 : decode cX12_worksOut 38 = .ok (.iadd, 1) := by decide +kernel
theorem dX12_worksOut_39 : decode cX12_worksOut 39 = .ok (.iload 4, 2) := by decide +kernel
theorem dX12_worksOut_41 : decode cX12_worksOut 41 = .ok (.iadd, 1) := by decide +kernel
theorem dX12_worksOut_42 : decode cX12_worksOut 42 = .ok (.iaload, 1) := by decide +kernel
theorem dX12_worksOut_43 : decode cX12_worksOut 43 = .ok (.istore 5, 2) := by decide +kernel
theorem dX12_worksOut_45 : decode cX12_worksOut 45 = .ok (.iload 5, 2) := by decide +kernel
theorem dX12_worksOut_47 : decode cX12_worksOut 47 = .ok (.ifCond .lt 39, 3) := by decide +kernel
theorem dX12_worksOut_50 : decode cX12_worksOut 50 = .ok (.aload_n 0, 1) := by decide +kernel
theorem dX12_worksOut_51 : decode cX12_worksOut 51 = .ok (.getfield 39, 3) := by decide +kernel
theorem dX12_worksOut_54 : decode cX12_worksOut 54 = .ok (.iload_n 2, 1) := by decide +kernel
theorem dX12_worksOut_55 : decode cX12_worksOut 55 = .ok (.iload 5, 2) := by decide +kernel
theorem dX12_worksOut_57 : decode cX12_worksOut 57 = .ok (.sipush 10000, 3) := by decide +kernel
theorem dX12_worksOut_60 : decode cX12_worksOut 60 = .ok (.if_icmp .ge 8, 3) := by decide +kernel
theorem dX12_worksOut_63 : decode cX12_worksOut 63 = .ok (.iload 5, 2) := by decide +kernel
theorem dX12_worksOut_65 : decode cX12_worksOut 65 = .ok (.goto 14, 3) := by decide +kernel
theorem dX12_worksOut_68 : decode cX12_worksOut 68 = .ok (.aload_n 0, 1) := by decide +kernel
theorem dX12_worksOut_69 : decode cX12_worksOut 69 = .ok (.getfield 42, 3) := by decide +kernel
theorem dX12_worksOut_72 : decode cX12_worksOut 72 = .ok (.iload 5, 2) := by decide +kernel
theorem dX12_worksOut_74 : decode cX12_worksOut 74 = .ok (.sipush 10000, 3) := by decide +kernel
theorem dX12_worksOut_77 : decode cX12_worksOut 77 = .ok (.isub, 1) := by decide +kernel
theorem dX12_worksOut_78 : decode cX12_worksOut 78 = .ok (.iaload, 1) := by decide +kernel
theorem dX12_worksOut_79 : decode cX12_worksOut 79 = .ok (.iastore, 1) := by decide +kernel
theorem dX12_worksOut_80 : decode cX12_worksOut 80 = .ok (.iinc 2 1, 3) := by decide +kernel
theorem dX12_worksOut_83 : decode cX12_worksOut 83 = .ok (.goto 67, 3) := by decide +kernel
theorem dX12_worksOut_86 : decode cX12_worksOut 86 = .ok (.iload 5, 2) := by decide +kernel
theorem dX12_worksOut_88 : decode cX12_worksOut 88 = .ok (.bipush (-10), 2) := by decide +kernel
theorem dX12_worksOut_90 : decode cX12_worksOut 90 = .ok (.if_icmp .ne 30, 3) := by decide +kernel
theorem dX12_worksOut_93 : decode cX12_worksOut 93 = .ok (.aload_n 0, 1) := by decide +kernel
theorem dX12_worksOut_94 : decode cX12_worksOut 94 = .ok (.getfield 39, 3) := by decide +kernel
theorem dX12_worksOut_97 : decode cX12_worksOut 97 = .ok (.iload_n 2, 1) := by decide +kernel
theorem dX12_worksOut_98 : decode cX12_worksOut 98 = .ok (.iconst 1, 1) := by decide +kernel
theorem dX12_worksOut_99 : decode cX12_worksOut 99 = .ok (.isub, 1) := by decide +kernel
theorem dX12_worksOut_100 : decode cX12_worksOut 100 = .ok (.aload_n 0, 1) := by decide +kernel
theorem dX12_worksOut_101 : decode cX12_worksOut 101 = .ok (.getfield 39, 3) := by decide +kernel
theorem dX12_worksOut_104 : decode cX12_worksOut 104 = .ok (.iload_n 2, 1) := by decide +kernel
theorem dX12_worksOut_105 : decode cX12_worksOut 105 = .ok (.iconst 1, 1) := by decide +kernel
theorem dX12_worksOut_106 : decode cX12_worksOut 106 = .ok (.isub, 1) := by decide +kernel
theorem dX12_worksOut_107 : decode cX12_worksOut 107 = .ok (.iaload, 1) := by decide +kernel
theorem dX12_worksOut_108 : decode cX12_worksOut 108 = .ok (.ifCond .ne 7, 3) := by decide +kernel
theorem dX12_worksOut_111 : decode cX12_worksOut 111 = .ok (.iconst 1, 1) := by decide +kernel
theorem dX12_worksOut_112 : decode cX12_worksOut 112 = .ok (.goto 4, 3) := by decide +kernel
theorem dX12_worksOut_115 : decode cX12_worksOut 115 = .ok (.iconst 0, 1) := by decide +kernel
theorem dX12_worksOut_116 : decode cX12_worksOut 116 = .ok (.iastore, 1) := by decide +kernel
theorem dX12_worksOut_117 : decode cX12_worksOut 117 = .ok (.goto 33, 3) := by decide +kernel
theorem dX12_worksOut_120 : decode cX12_worksOut 120 = .ok (.iinc 2 (-1), 3) := by decide +kernel
theorem dX12_worksOut_123 : decode cX12_worksOut 123 = .ok (.aload_n 0, 1) := by decide +kernel
theorem dX12_worksOut_124 : decode cX12_worksOut 124 = .ok (.getfield 39, 3) := by decide +kernel
theorem dX12_worksOut_127 : decode cX12_worksOut 127 = .ok (.iload_n 2, 1) := by decide +kernel
theorem dX12_worksOut_128 : decode cX12_worksOut 128 = .ok (.iconst 1, 1) := by decide +kernel
theorem dX12_worksOut_129 : decode cX12_worksOut 129 = .ok (.isub, 1) := by decide +kernel
theorem dX12_worksOut_130 : decode cX12_worksOut 130 = .ok (.iload 5, 2) := by decide +kernel
theorem dX12_worksOut_132 : decode cX12_worksOut 132 = .ok (.aload_n 0, 1) := by decide +kernel
theorem dX12_worksOut_133 : decode cX12_worksOut 133 = .ok (.getfield 39, 3) := by decide +kernel
theorem dX12_worksOut_136 : decode cX12_worksOut 136 = .ok (.iload_n 2, 1) := by decide +kernel
theorem dX12_worksOut_137 : decode cX12_worksOut 137 = .ok (.iconst 1, 1) := by decide +kernel
theorem dX12_worksOut_138 : decode cX12_worksOut 138 = .ok (.isub, 1) := by decide +kernel
theorem dX12_worksOut_139 : decode cX12_worksOut 139 = .ok (.iaload, 1) := by decide +kernel
theorem dX12_worksOut_140 : decode cX12_worksOut 140 = .ok (.aload_n 0, 1) := by decide +kernel
theorem dX12_worksOut_141 : decode cX12_worksOut 141 = .ok (.getfield 39, 3) := by decide +kernel
theorem dX12_worksOut_144 : decode cX12_worksOut 144 = .ok (.iload_n 2, 1) := by decide +kernel
theorem dX12_worksOut_145 : decode cX12_worksOut 145 = .ok (.iaload, 1) := by decide +kernel
theorem dX12_worksOut_146 : decode cX12_worksOut 146 = .ok (.invokestatic 255, 3) := by decide +kernel
theorem dX12_worksOut_149 : decode cX12_worksOut 149 = .ok (.iastore, 1) := by decide +kernel
theorem dX12_worksOut_150 : decode cX12_worksOut 150 = .ok (.iinc 4 1, 3) := by decide +kernel
theorem dX12_worksOut_153 : decode cX12_worksOut 153 = .ok (.goto (-132), 3) := by decide +kernel
theorem dX12_worksOut_156 : decode cX12_worksOut 156 = .ok (.aload_n 0, 1) := by decide +kernel
theorem dX12_worksOut_157 : decode cX12_worksOut 157 = .ok (.getfield 39, 3) := by decide +kernel
theorem dX12_worksOut_160 : decode cX12_worksOut 160 = .ok (.iconst 0, 1) := by decide +kernel
theorem dX12_worksOut_161 : decode cX12_worksOut 161 = .ok (.iaload, 1) := by decide +kernel
theorem dX12_worksOut_162 : decode cX12_worksOut 162 = .ok (.ireturn, 1) := by decide +kernel
theorem dX12_isSheet_0 : decode cX12_isSheet 0 = .ok (.iload_n 0, 1) := by decide +kernel
theorem dX12_isSheet_1 : decode cX12_isSheet 1 = .ok (.iconst 0, 1) := by decide +kernel
theorem dX12_isSheet_2 : decode cX12_isSheet 2 = .ok (.iconst 3, 1) := by decide +kernel
theorem dX12_isSheet_3 : decode cX12_isSheet 3 = .ok (.invokestatic 73, 3) := by decide +kernel
theorem dX12_isSheet_6 : decode cX12_isSheet 6 = .ok (.ireturn, 1) := by decide +kernel
theorem dX12_isSlot_0 : decode cX12_isSlot 0 = .ok (.iload_n 0, 1) := by decide +kernel
theorem dX12_isSlot_1 : decode cX12_isSlot 1 = .ok (.iconst 0, 1) := by decide +kernel
theorem dX12_isSlot_2 : decode cX12_isSlot 2 = .ok (.iconst 4, 1) := by decide +kernel
theorem dX12_isSlot_3 : decode cX12_isSlot 3 = .ok (.invokestatic 73, 3) := by decide +kernel
theorem dX12_isSlot_6 : decode cX12_isSlot 6 = .ok (.ireturn, 1) := by decide +kernel
theorem dX12_sheet_0 : decode cX12_sheet 0 = .ok (.iload_n 1, 1) := by decide +kernel
theorem dX12_sheet_1 : decode cX12_sheet 1 = .ok (.invokestatic 258, 3) := by decide +kernel
theorem dX12_sheet_4 : decode cX12_sheet 4 = .ok (.ifCond .eq 22, 3) := by decide +kernel
theorem dX12_sheet_7 : decode cX12_sheet 7 = .ok (.iload_n 2, 1) := by decide +kernel
theorem dX12_sheet_8 : decode cX12_sheet 8 = .ok (.iconst (-1), 1) := by decide +kernel
theorem dX12_sheet_9 : decode cX12_sheet 9 = .ok (.iconst 1, 1) := by decide +kernel
theorem dX12_sheet_10 : decode cX12_sheet 10 = .ok (.invokestatic 73, 3) := by decide +kernel
theorem dX12_sheet_13 : decode cX12_sheet 13 = .ok (.ifCond .eq 13, 3) := by decide +kernel
theorem dX12_sheet_16 : decode cX12_sheet 16 = .ok (.iload_n 2, 1) := by decide +kernel
theorem dX12_sheet_17 : decode cX12_sheet 17 = .ok (.ifCond .lt 12, 3) := by decide +kernel
theorem dX12_sheet_20 : decode cX12_sheet 20 = .ok (.iload_n 3, 1) := by decide +kernel
theorem dX12_sheet_21 : decode cX12_sheet 21 = .ok (.bipush 24, 2) := by decide +kernel
theorem dX12_sheet_23 : decode cX12_sheet 23 = .ok (.if_icmp .le 6, 3) := by decide +kernel
theorem dX12_sheet_26 : decode cX12_sheet 26 = .ok (.ldc 78, 2) := by decide +kernel
theorem dX12_sheet_28 : decode cX12_sheet 28 = .ok (.ireturn, 1) := by decide +kernel
theorem dX12_sheet_29 : decode cX12_sheet 29 = .ok (.iload_n 2, 1) := by decide +kernel
theorem dX12_sheet_30 : decode cX12_sheet 30 = .ok (.ifCond .lt 11, 3) := by decide +kernel
theorem dX12_sheet_33 : decode cX12_sheet 33 = .ok (.iload_n 3, 1) := by decide +kernel
theorem dX12_sheet_34 : decode cX12_sheet 34 = .ok (.ifCond .ge 7, 3) := by decide +kernel
theorem dX12_sheet_37 : decode cX12_sheet 37 = .ok (.ldc_w 261, 3) := by decide +kernel
theorem dX12_sheet_40 : decode cX12_sheet 40 = .ok (.ireturn, 1) := by decide +kernel
theorem dX12_sheet_41 : decode cX12_sheet 41 = .ok (.aload_n 0, 1) := by decide +kernel
theorem dX12_sheet_42 : decode cX12_sheet 42 = .ok (.getfield 45, 3) := by decide +kernel
theorem dX12_sheet_45 : decode cX12_sheet 45 = .ok (.iload_n 1, 1) := by decide +kernel
theorem dX12_sheet_46 : decode cX12_sheet 46 = .ok (.iload_n 2, 1) := by decide +kernel
theorem dX12_sheet_47 : decode cX12_sheet 47 = .ok (.iastore, 1) := by decide +kernel
theorem dX12_sheet_48 : decode cX12_sheet 48 = .ok (.aload_n 0, 1) := by decide +kernel
theorem dX12_sheet_49 : decode cX12_sheet 49 = .ok (.getfield 48, 3) := by decide +kernel
theorem dX12_sheet_52 : decode cX12_sheet 52 = .ok (.iload_n 1, 1) := by decide +kernel
theorem dX12_sheet_53 : decode cX12_sheet 53 = .ok (.iload_n 2, 1) := by decide +kernel
theorem dX12_sheet_54 : decode cX12_sheet 54 = .ok (.ifCond .ge 7, 3) := by decide +kernel
theorem dX12_sheet_57 : decode cX12_sheet 57 = .ok (.iconst 0, 1) := by decide +kernel
theorem dX12_sheet_58 : decode cX12_sheet 58 = .ok (.goto 4, 3) := by decide +kernel
theorem dX12_sheet_61 : decode cX12_sheet 61 = .ok (.iload_n 3, 1) := by decide +kernel
theorem dX12_sheet_62 : decode cX12_sheet 62 = .ok (.iastore, 1) := by decide +kernel
theorem dX12_sheet_63 : decode cX12_sheet 63 = .ok (.iconst 0, 1) := by decide +kernel
theorem dX12_sheet_64 : decode cX12_sheet 64 = .ok (.istore 4, 2) := by decide +kernel
theorem dX12_sheet_66 : decode cX12_sheet 66 = .ok (.iload 4, 2) := by decide +kernel
theorem dX12_sheet_68 : decode cX12_sheet 68 = .ok (.bipush 24, 2) := by decide +kernel
theorem dX12_sheet_70 : decode cX12_sheet 70 = .ok (.if_icmp .ge 22, 3) := by decide +kernel
theorem dX12_sheet_73 : decode cX12_sheet 73 = .ok (.aload_n 0, 1) := by decide +kernel
theorem dX12_sheet_74 : decode cX12_sheet 74 = .ok (.getfield 51, 3) := by decide +kernel
theorem dX12_sheet_77 : decode cX12_sheet 77 = .ok (.bipush 24, 2) := by decide +kernel
theorem dX12_sheet_79 : decode cX12_sheet 79 = .ok (.iload_n 1, 1) := by decide +kernel
theorem dX12_sheet_80 : decode cX12_sheet 80 = .ok (.imul, 1) := by decide +kernel
theorem dX12_sheet_81 : decode cX12_sheet 81 = .ok (.iload 4, 2) := by decide +kernel
theorem dX12_sheet_83 : decode cX12_sheet 83 = .ok (.iadd, 1) := by decide +kernel
theorem dX12_sheet_84 : decode cX12_sheet 84 = .ok (.iconst 0, 1) := by decide +kernel
theorem dX12_sheet_85 : decode cX12_sheet 85 = .ok (.iastore, 1) := by decide +kernel
theorem dX12_sheet_86 : decode cX12_sheet 86 = .ok (.iinc 4 1, 3) := by decide +kernel
theorem dX12_sheet_89 : decode cX12_sheet 89 = .ok (.goto (-23), 3) := by decide +kernel
theorem dX12_sheet_92 : decode cX12_sheet 92 = .ok (.aload_n 0, 1) := by decide +kernel
theorem dX12_sheet_93 : decode cX12_sheet 93 = .ok (.getfield 48, 3) := by decide +kernel
theorem dX12_sheet_96 : decode cX12_sheet 96 = .ok (.iload_n 1, 1) := by decide +kernel
theorem dX12_sheet_97 : decode cX12_sheet 97 = .ok (.iaload, 1) := by decide +kernel
theorem dX12_sheet_98 : decode cX12_sheet 98 = .ok (.ireturn, 1) := by decide +kernel
theorem dX12_mark_0 : decode cX12_mark 0 = .ok (.iload_n 1, 1) := by decide +kernel
theorem dX12_mark_1 : decode cX12_mark 1 = .ok (.invokestatic 258, 3) := by decide +kernel
theorem dX12_mark_4 : decode cX12_mark 4 = .ok (.ifCond .ne 6, 3) := by decide +kernel
theorem dX12_mark_7 : decode cX12_mark 7 = .ok (.ldc 78, 2) := by decide +kernel
theorem dX12_mark_9 : decode cX12_mark 9 = .ok (.ireturn, 1) := by decide +kernel
theorem dX12_mark_10 : decode cX12_mark 10 = .ok (.aload_n 0, 1) := by decide +kernel
theorem dX12_mark_11 : decode cX12_mark 11 = .ok (.getfield 45, 3) := by decide +kernel
theorem dX12_mark_14 : decode cX12_mark 14 = .ok (.iload_n 1, 1) := by decide +kernel
theorem dX12_mark_15 : decode cX12_mark 15 = .ok (.iaload, 1) := by decide +kernel
theorem dX12_mark_16 : decode cX12_mark 16 = .ok (.ifCond .ge 7, 3) := by decide +kernel
theorem dX12_mark_19 : decode cX12_mark 19 = .ok (.ldc_w 262, 3) := by decide +kernel
theorem dX12_mark_22 : decode cX12_mark 22 = .ok (.ireturn, 1) := by decide +kernel
theorem dX12_mark_23 : decode cX12_mark 23 = .ok (.iload_n 2, 1) := by decide +kernel
theorem dX12_mark_24 : decode cX12_mark 24 = .ok (.iconst 0, 1) := by decide +kernel
theorem dX12_mark_25 : decode cX12_mark 25 = .ok (.aload_n 0, 1) := by decide +kernel
theorem dX12_mark_26 : decode cX12_mark 26 = .ok (.getfield 48, 3) := by decide +kernel
theorem dX12_mark_29 : decode cX12_mark 29 = .ok (.iload_n 1, 1) := by decide +kernel
theorem dX12_mark_30 : decode cX12_mark 30 = .ok (.iaload, 1) := by decide +kernel
theorem dX12_mark_31 : decode cX12_mark 31 = .ok (.iconst 1, 1) := by decide +kernel
theorem dX12_mark_32 : decode cX12_mark 32 = .ok (.isub, 1) := by decide +kernel
theorem dX12_mark_33 : decode cX12_mark 33 = .ok (.invokestatic 73, 3) := by decide +kernel
theorem dX12_mark_36 : decode cX12_mark 36 = .ok (.ifCond .ne 7, 3) := by decide +kernel
theorem dX12_mark_39 : decode cX12_mark 39 = .ok (.ldc_w 263, 3) := by decide +kernel
theorem dX12_mark_42 : decode cX12_mark 42 = .ok (.ireturn, 1) := by decide +kernel
theorem dX12_mark_43 : decode cX12_mark 43 = .ok (.aload_n 0, 1) := by decide +kernel
theorem dX12_mark_44 : decode cX12_mark 44 = .ok (.getfield 45, 3) := by decide +kernel
theorem dX12_mark_47 : decode cX12_mark 47 = .ok (.iload_n 1, 1) := by decide +kernel
theorem dX12_mark_48 : decode cX12_mark 48 = .ok (.iaload, 1) := by decide +kernel
theorem dX12_mark_49 : decode cX12_mark 49 = .ok (.ifCond .ne 12, 3) := by decide +kernel
theorem dX12_mark_52 : decode cX12_mark 52 = .ok (.iload_n 3, 1) := by decide +kernel
theorem dX12_mark_53 : decode cX12_mark 53 = .ok (.ldc 72, 2) := by decide +kernel
theorem dX12_mark_55 : decode cX12_mark 55 = .ok (.if_icmp .ne 6, 3) := by decide +kernel
theorem dX12_mark_58 : decode cX12_mark 58 = .ok (.ldc 150, 2) := by decide +kernel
theorem dX12_mark_60 : decode cX12_mark 60 = .ok (.ireturn, 1) := by decide +kernel
theorem dX12_mark_61 : decode cX12_mark 61 = .ok (.aload_n 0, 1) := by decide +kernel
theorem dX12_mark_62 : decode cX12_mark 62 = .ok (.getfield 45, 3) := by decide +kernel
theorem dX12_mark_65 : decode cX12_mark 65 = .ok (.iload_n 1, 1) := by decide +kernel
theorem dX12_mark_66 : decode cX12_mark 66 = .ok (.iaload, 1) := by decide +kernel
theorem dX12_mark_67 : decode cX12_mark 67 = .ok (.iconst 1, 1) := by decide +kernel
theorem dX12_mark_68 : decode cX12_mark 68 = .ok (.if_icmp .ne 24, 3) := by decide +kernel
theorem dX12_mark_71 : decode cX12_mark 71 = .ok (.iload_n 3, 1) := by decide +kernel
theorem dX12_mark_72 : decode cX12_mark 72 = .ok (.ldc 72, 2) := by decide +kernel
theorem dX12_mark_74 : decode cX12_mark 74 = .ok (.if_icmp .eq 18, 3) := by decide +kernel
theorem dX12_mark_77 : decode cX12_mark 77 = .ok (.iload_n 3, 1) := by decide +kernel
theorem dX12_mark_78 : decode cX12_mark 78 = .ok (.ldc_w 264, 3) := by decide +kernel
theorem dX12_mark_81 : decode cX12_mark 81 = .ok (.ldc 157, 2) := by decide +kernel
theorem dX12_mark_83 : decode cX12_mark 83 = .ok (.invokestatic 73, 3) := by decide +kernel
theorem dX12_mark_86 : decode cX12_mark 86 = .ok (.ifCond .ne 6, 3) := by decide +kernel
theorem dX12_mark_89 : decode cX12_mark 89 = .ok (.ldc 78, 2) := by decide +kernel
theorem dX12_mark_91 : decode cX12_mark 91 = .ok (.ireturn, 1) := by decide +kernel
theorem dX12_mark_92 : decode cX12_mark 92 = .ok (.aload_n 0, 1) := by decide +kernel
theorem dX12_mark_93 : decode cX12_mark 93 = .ok (.getfield 51, 3) := by decide +kernel
theorem dX12_mark_96 : decode cX12_mark 96 = .ok (.bipush 24, 2) := by decide +kernel
theorem dX12_mark_98 : decode cX12_mark 98 = .ok (.iload_n 1, 1) := by decide +kernel
theorem dX12_mark_99 : decode cX12_mark 99 = .ok (.imul, 1) := by decide +kernel
theorem dX12_mark_100 : decode cX12_mark 100 = .ok (.iload_n 2, 1) := by decide +kernel
theorem dX12_mark_101 : decode cX12_mark 101 = .ok (.iadd, 1) := by decide +kernel
theorem dX12_mark_102 : decode cX12_mark 102 = .ok (.aload_n 0, 1) := by decide +kernel
theorem dX12_mark_103 : decode cX12_mark 103 = .ok (.getfield 45, 3) := by decide +kernel
theorem dX12_mark_106 : decode cX12_mark 106 = .ok (.iload_n 1, 1) := by decide +kernel
theorem dX12_mark_107 : decode cX12_mark 107 = .ok (.iaload, 1) := by decide +kernel
theorem dX12_mark_108 : decode cX12_mark 108 = .ok (.ifCond .ne 8, 3) := by decide +kernel
theorem dX12_mark_111 : decode cX12_mark 111 = .ok (.iload_n 3, 1) := by decide +kernel
theorem dX12_mark_112 : decode cX12_mark 112 = .ok (.i2s, 1) := by decide +kernel
theorem dX12_mark_113 : decode cX12_mark 113 = .ok (.goto 4, 3) := by decide +kernel
theorem dX12_mark_116 : decode cX12_mark 116 = .ok (.iload_n 3, 1) := by decide +kernel
theorem dX12_mark_117 : decode cX12_mark 117 = .ok (.iastore, 1) := by decide +kernel
theorem dX12_mark_118 : decode cX12_mark 118 = .ok (.iconst 1, 1) := by decide +kernel
theorem dX12_mark_119 : decode cX12_mark 119 = .ok (.ireturn, 1) := by decide +kernel
theorem dX12_pour_0 : decode cX12_pour 0 = .ok (.iload_n 1, 1) := by decide +kernel
theorem dX12_pour_1 : decode cX12_pour 1 = .ok (.invokestatic 258, 3) := by decide +kernel
theorem dX12_pour_4 : decode cX12_pour 4 = .ok (.ifCond .ne 6, 3) := by decide +kernel
theorem dX12_pour_7 : decode cX12_pour 7 = .ok (.ldc 78, 2) := by decide +kernel
theorem dX12_pour_9 : decode cX12_pour 9 = .ok (.ireturn, 1) := by decide +kernel
theorem dX12_pour_10 : decode cX12_pour 10 = .ok (.aload_n 0, 1) := by decide +kernel
theorem dX12_pour_11 : decode cX12_pour 11 = .ok (.getfield 45, 3) := by decide +kernel
theorem dX12_pour_14 : decode cX12_pour 14 = .ok (.iload_n 1, 1) := by decide +kernel
theorem dX12_pour_15 : decode cX12_pour 15 = .ok (.iaload, 1) := by decide +kernel
theorem dX12_pour_16 : decode cX12_pour 16 = .ok (.ifCond .ge 7, 3) := by decide +kernel
theorem dX12_pour_19 : decode cX12_pour 19 = .ok (.ldc_w 262, 3) := by decide +kernel
theorem dX12_pour_22 : decode cX12_pour 22 = .ok (.ireturn, 1) := by decide +kernel
theorem dX12_pour_23 : decode cX12_pour 23 = .ok (.iconst 0, 1) := by decide +kernel
theorem dX12_pour_24 : decode cX12_pour 24 = .ok (.istore_n 2, 1) := by decide +kernel
theorem dX12_pour_25 : decode cX12_pour 25 = .ok (.iconst 0, 1) := by decide +kernel
theorem dX12_pour_26 : decode cX12_pour 26 = .ok (.istore_n 3, 1) := by decide +kernel
theorem dX12_pour_27 : decode cX12_pour 27 = .ok (.iload_n 3, 1) := by decide +kernel
theorem dX12_pour_28 : decode cX12_pour 28 = .ok (.aload_n 0, 1) := by decide +kernel
theorem dX12_pour_29 : decode cX12_pour 29 = .ok (.getfield 48, 3) := by decide +kernel
theorem dX12_pour_32 : decode cX12_pour 32 = .ok (.iload_n 1, 1) := by decide +kernel
theorem dX12_pour_33 : decode cX12_pour 33 = .ok (.iaload, 1) := by decide +kernel
theorem dX12_pour_34 : decode cX12_pour 34 = .ok (.if_icmp .ge 91, 3) := by decide +kernel
theorem dX12_pour_37 : decode cX12_pour 37 = .ok (.iload_n 3, 1) := by decide +kernel
theorem dX12_pour_38 : decode cX12_pour 38 = .ok (.iconst 2, 1) := by decide +kernel
theorem dX12_pour_39 : decode cX12_pour 39 = .ok (.aload_n 0, 1) := by decide +kernel
theorem dX12_pour_40 : decode cX12_pour 40 = .ok (.getfield 9, 3) := by decide +kernel
theorem dX12_pour_43 : decode cX12_pour 43 = .ok (.iconst 2, 1) := by decide +kernel
theorem dX12_pour_44 : decode cX12_pour 44 = .ok (.iaload, 1) := by decide +kernel
theorem dX12_pour_45 : decode cX12_pour 45 = .ok (.imul, 1) := by decide +kernel
theorem dX12_pour_46 : decode cX12_pour 46 = .ok (.if_icmp .ge 79, 3) := by decide +kernel
theorem dX12_pour_49 : decode cX12_pour 49 = .ok (.aload_n 0, 1) := by decide +kernel
theorem dX12_pour_50 : decode cX12_pour 50 = .ok (.getfield 51, 3) := by decide +kernel
theorem dX12_pour_53 : decode cX12_pour 53 = .ok (.bipush 24, 2) := by decide +kernel
theorem dX12_pour_55 : decode cX12_pour 55 = .ok (.iload_n 1, 1) := by decide +kernel
theorem dX12_pour_56 : decode cX12_pour 56 = .ok (.imul, 1) := by decide +kernel
theorem dX12_pour_57 : decode cX12_pour 57 = .ok (.iload_n 3, 1) := by decide +kernel
theorem dX12_pour_58 : decode cX12_pour 58 = .ok (.iadd, 1) := by decide +kernel
theorem dX12_pour_59 : decode cX12_pour 59 = .ok (.iaload, 1) := by decide +kernel
theorem dX12_pour_60 : decode cX12_pour 60 = .ok (.istore 4, 2) := by decide +kernel
theorem dX12_pour_62 : decode cX12_pour 62 = .ok (.iload 4, 2) := by decide +kernel
theorem dX12_pour_64 : decode cX12_pour 64 = .ok (.ldc 72, 2) := by decide +kernel
theorem dX12_pour_66 : decode cX12_pour 66 = .ok (.if_icmp .eq 17, 3) := by decide +kernel
theorem dX12_pour_69 : decode cX12_pour 69 = .ok (.aload_n 0, 1) := by decide +kernel
theorem dX12_pour_70 : decode cX12_pour 70 = .ok (.iload 4, 2) := by decide +kernel
theorem dX12_pour_72 : decode cX12_pour 72 = .ok (.invokevirtual 105, 3) := by decide +kernel
theorem dX12_pour_75 : decode cX12_pour 75 = .ok (.ifCond .eq 8, 3) := by decide +kernel
theorem dX12_pour_78 : decode cX12_pour 78 = .ok (.iload 4, 2) := by decide +kernel
theorem dX12_pour_80 : decode cX12_pour 80 = .ok (.goto 4, 3) := by decide +kernel
theorem dX12_pour_83 : decode cX12_pour 83 = .ok (.iconst (-1), 1) := by decide +kernel
theorem dX12_pour_84 : decode cX12_pour 84 = .ok (.istore 5, 2) := by decide +kernel
theorem dX12_pour_86 : decode cX12_pour 86 = .ok (.iload_n 2, 1) := by decide +kernel
theorem dX12_pour_87 : decode cX12_pour 87 = .ok (.aload_n 0, 1) := by decide +kernel
theorem dX12_pour_88 : decode cX12_pour 88 = .ok (.bipush 38, 2) := by decide +kernel
theorem dX12_pour_90 : decode cX12_pour 90 = .ok (.iconst 5, 1) := by decide +kernel
theorem dX12_pour_91 : decode cX12_pour 91 = .ok (.iload_n 3, 1) := by decide +kernel
theorem dX12_pour_92 : decode cX12_pour 92 = .ok (.iconst 2, 1) := by decide +kernel
theorem dX12_pour_93 : decode cX12_pour 93 = .ok (.idiv, 1) := by decide +kernel
theorem dX12_pour_94 : decode cX12_pour 94 = .ok (.imul, 1) := by decide +kernel
theorem dX12_pour_95 : decode cX12_pour 95 = .ok (.iadd, 1) := by decide +kernel
theorem dX12_pour_96 : decode cX12_pour 96 = .ok (.iconst 3, 1) := by decide +kernel
theorem dX12_pour_97 : decode cX12_pour 97 = .ok (.iadd, 1) := by decide +kernel
theorem dX12_pour_98 : decode cX12_pour 98 = .ok (.iload_n 3, 1) := by decide +kernel
theorem dX12_pour_99 : decode cX12_pour 99 = .ok (.iconst 2, 1) := by decide +kernel
theorem dX12_pour_100 : decode cX12_pour 100 = .ok (.irem, 1) := by decide +kernel
theorem dX12_pour_101 : decode cX12_pour 101 = .ok (.iadd, 1) := by decide +kernel
theorem dX12_pour_102 : decode cX12_pour 102 = .ok (.iload 5, 2) := by decide +kernel
theorem dX12_pour_104 : decode cX12_pour 104 = .ok (.invokevirtual 112, 3) := by decide +kernel
theorem dX12_pour_107 : decode cX12_pour 107 = .ok (.iload 5, 2) := by decide +kernel
theorem dX12_pour_109 : decode cX12_pour 109 = .ok (.if_icmp .ne 7, 3) := by decide +kernel
theorem dX12_pour_112 : decode cX12_pour 112 = .ok (.iconst 0, 1) := by decide +kernel
theorem dX12_pour_113 : decode cX12_pour 113 = .ok (.goto 4, 3) := by decide +kernel
theorem dX12_pour_116 : decode cX12_pour 116 = .ok (.iconst 1, 1) := by decide +kernel
theorem dX12_pour_117 : decode cX12_pour 117 = .ok (.iadd, 1) := by decide +kernel
theorem dX12_pour_118 : decode cX12_pour 118 = .ok (.istore_n 2, 1) := by decide +kernel
theorem dX12_pour_119 : decode cX12_pour 119 = .ok (.iinc 3 1, 3) := by decide +kernel
theorem dX12_pour_122 : decode cX12_pour 122 = .ok (.goto (-95), 3) := by decide +kernel
theorem dX12_pour_125 : decode cX12_pour 125 = .ok (.iload_n 2, 1) := by decide +kernel
theorem dX12_pour_126 : decode cX12_pour 126 = .ok (.ireturn, 1) := by decide +kernel
theorem dX12_reads_0 : decode cX12_reads 0 = .ok (.iload_n 1, 1) := by decide +kernel
theorem dX12_reads_1 : decode cX12_reads 1 = .ok (.invokestatic 258, 3) := by decide +kernel
theorem dX12_reads_4 : decode cX12_reads 4 = .ok (.ifCond .ne 6, 3) := by decide +kernel
theorem dX12_reads_7 : decode cX12_reads 7 = .ok (.ldc 78, 2) := by decide +kernel
theorem dX12_reads_9 : decode cX12_reads 9 = .ok (.ireturn, 1) := by decide +kernel
theorem dX12_reads_10 : decode cX12_reads 10 = .ok (.aload_n 0, 1) := by decide +kernel
theorem dX12_reads_11 : decode cX12_reads 11 = .ok (.getfield 45, 3) := by decide +kernel
theorem dX12_reads_14 : decode cX12_reads 14 = .ok (.iload_n 1, 1) := by decide +kernel
theorem dX12_reads_15 : decode cX12_reads 15 = .ok (.iaload, 1) := by decide +kernel
theorem dX12_reads_16 : decode cX12_reads 16 = .ok (.ifCond .ge 7, 3) := by decide +kernel
theorem dX12_reads_19 : decode cX12_reads 19 = .ok (.ldc_w 262, 3) := by decide +kernel
theorem dX12_reads_22 : decode cX12_reads 22 = .ok (.ireturn, 1) := by decide +kernel
theorem dX12_reads_23 : decode cX12_reads 23 = .ok (.iconst 0, 1) := by decide +kernel
theorem dX12_reads_24 : decode cX12_reads 24 = .ok (.istore_n 2, 1) := by decide +kernel
theorem dX12_reads_25 : decode cX12_reads 25 = .ok (.iload_n 2, 1) := by decide +kernel
theorem dX12_reads_26 : decode cX12_reads 26 = .ok (.aload_n 0, 1) := by decide +kernel
theorem dX12_reads_27 : decode cX12_reads 27 = .ok (.getfield 48, 3) := by decide +kernel
theorem dX12_reads_30 : decode cX12_reads 30 = .ok (.iload_n 1, 1) := by decide +kernel
theorem dX12_reads_31 : decode cX12_reads 31 = .ok (.iaload, 1) := by decide +kernel
theorem dX12_reads_32 : decode cX12_reads 32 = .ok (.if_icmp .ge 48, 3) := by decide +kernel
theorem dX12_reads_35 : decode cX12_reads 35 = .ok (.aload_n 0, 1) := by decide +kernel
theorem dX12_reads_36 : decode cX12_reads 36 = .ok (.getfield 51, 3) := by decide +kernel
theorem dX12_reads_39 : decode cX12_reads 39 = .ok (.bipush 24, 2) := by decide +kernel
theorem dX12_reads_41 : decode cX12_reads 41 = .ok (.iload_n 1, 1) := by decide +kernel
theorem dX12_reads_42 : decode cX12_reads 42 = .ok (.imul, 1) := by decide +kernel
theorem dX12_reads_43 : decode cX12_reads 43 = .ok (.iload_n 2, 1) := by decide +kernel
theorem dX12_reads_44 : decode cX12_reads 44 = .ok (.iadd, 1) := by decide +kernel
theorem dX12_reads_45 : decode cX12_reads 45 = .ok (.iaload, 1) := by decide +kernel
theorem dX12_reads_46 : decode cX12_reads 46 = .ok (.istore_n 3, 1) := by decide +kernel
theorem dX12_reads_47 : decode cX12_reads 47 = .ok (.iload_n 3, 1) := by decide +kernel
theorem dX12_reads_48 : decode cX12_reads 48 = .ok (.ldc 72, 2) := by decide +kernel
theorem dX12_reads_50 : decode cX12_reads 50 = .ok (.if_icmp .eq 24, 3) := by decide +kernel
theorem dX12_reads_53 : decode cX12_reads 53 = .ok (.aload_n 0, 1) := by decide +kernel
theorem dX12_reads_54 : decode cX12_reads 54 = .ok (.iload_n 2, 1) := by decide +kernel
theorem dX12_reads_55 : decode cX12_reads 55 = .ok (.invokevirtual 105, 3) := by decide +kernel
theorem dX12_reads_58 : decode cX12_reads 58 = .ok (.ifCond .eq 14, 3) := by decide +kernel
theorem dX12_reads_61 : decode cX12_reads 61 = .ok (.iload_n 3, 1) := by decide +kernel
theorem dX12_reads_62 : decode cX12_reads 62 = .ok (.aload_n 0, 1) := by decide +kernel
theorem dX12_reads_63 : decode cX12_reads 63 = .ok (.iload_n 2, 1) := by decide +kernel
theorem dX12_reads_64 : decode cX12_reads 64 = .ok (.iconst (-1), 1) := by decide +kernel
theorem dX12_reads_65 : decode cX12_reads 65 = .ok (.iconst 0, 1) := by decide +kernel
theorem dX12_reads_66 : decode cX12_reads 66 = .ok (.invokevirtual 87, 3) := by decide +kernel
theorem dX12_reads_69 : decode cX12_reads 69 = .ok (.if_icmp .eq 5, 3) := by decide +kernel
theorem dX12_reads_72 : decode cX12_reads 72 = .ok (.iload_n 2, 1) := by decide +kernel
theorem dX12_reads_73 : decode cX12_reads 73 = .ok (.ireturn, 1) := by decide +kernel
theorem dX12_reads_74 : decode cX12_reads 74 = .ok (.iinc 2 1, 3) := by decide +kernel
theorem dX12_reads_77 : decode cX12_reads 77 = .ok (.goto (-52), 3) := by decide +kernel
theorem dX12_reads_80 : decode cX12_reads 80 = .ok (.ldc 72, 2) := by decide +kernel
theorem dX12_reads_82 : decode cX12_reads 82 = .ok (.ireturn, 1) := by decide +kernel
theorem dX12_copy_0 : decode cX12_copy 0 = .ok (.iload_n 1, 1) := by decide +kernel
theorem dX12_copy_1 : decode cX12_copy 1 = .ok (.invokestatic 258, 3) := by decide +kernel
theorem dX12_copy_4 : decode cX12_copy 4 = .ok (.ifCond .eq 10, 3) := by decide +kernel
theorem dX12_copy_7 : decode cX12_copy 7 = .ok (.iload_n 3, 1) := by decide +kernel
theorem dX12_copy_8 : decode cX12_copy 8 = .ok (.invokestatic 258, 3) := by decide +kernel
theorem dX12_copy_11 : decode cX12_copy 11 = .ok (.ifCond .ne 6, 3) := by decide +kernel
theorem dX12_copy_14 : decode cX12_copy 14 = .ok (.ldc 78, 2) := by decide +kernel
theorem dX12_copy_16 : decode cX12_copy 16 = .ok (.ireturn, 1) := by decide +kernel
theorem dX12_copy_17 : decode cX12_copy 17 = .ok (.aload_n 0, 1) := by decide +kernel
theorem dX12_copy_18 : decode cX12_copy 18 = .ok (.getfield 45, 3) := by decide +kernel
theorem dX12_copy_21 : decode cX12_copy 21 = .ok (.iload_n 1, 1) := by decide +kernel
theorem dX12_copy_22 : decode cX12_copy 22 = .ok (.iaload, 1) := by decide +kernel
theorem dX12_copy_23 : decode cX12_copy 23 = .ok (.ifCond .lt 12, 3) := by decide +kernel
theorem dX12_copy_26 : decode cX12_copy 26 = .ok (.aload_n 0, 1) := by decide +kernel
theorem dX12_copy_27 : decode cX12_copy 27 = .ok (.getfield 45, 3) := by decide +kernel
theorem dX12_copy_30 : decode cX12_copy 30 = .ok (.iload_n 3, 1) := by decide +kernel
theorem dX12_copy_31 : decode cX12_copy 31 = .ok (.iaload, 1) := by decide +kernel
theorem dX12_copy_32 : decode cX12_copy 32 = .ok (.ifCond .ge 7, 3) := by decide +kernel
theorem dX12_copy_35 : decode cX12_copy 35 = .ok (.ldc_w 262, 3) := by decide +kernel
theorem dX12_copy_38 : decode cX12_copy 38 = .ok (.ireturn, 1) := by decide +kernel
theorem dX12_copy_39 : decode cX12_copy 39 = .ok (.aload_n 0, 1) := by decide +kernel
theorem dX12_copy_40 : decode cX12_copy 40 = .ok (.getfield 45, 3) := by decide +kernel
theorem dX12_copy_43 : decode cX12_copy 43 = .ok (.iload_n 1, 1) := by decide +kernel
theorem dX12_copy_44 : decode cX12_copy 44 = .ok (.iaload, 1) := by decide +kernel
theorem dX12_copy_45 : decode cX12_copy 45 = .ok (.aload_n 0, 1) := by decide +kernel
theorem dX12_copy_46 : decode cX12_copy 46 = .ok (.getfield 45, 3) := by decide +kernel
theorem dX12_copy_49 : decode cX12_copy 49 = .ok (.iload_n 3, 1) := by decide +kernel
theorem dX12_copy_50 : decode cX12_copy 50 = .ok (.iaload, 1) := by decide +kernel
theorem dX12_copy_51 : decode cX12_copy 51 = .ok (.if_icmp .eq 6, 3) := by decide +kernel
theorem dX12_copy_54 : decode cX12_copy 54 = .ok (.ldc 150, 2) := by decide +kernel
theorem dX12_copy_56 : decode cX12_copy 56 = .ok (.ireturn, 1) := by decide +kernel
theorem dX12_copy_57 : decode cX12_copy 57 = .ok (.iload_n 2, 1) := by decide +kernel
theorem dX12_copy_58 : decode cX12_copy 58 = .ok (.ifCond .lt 40, 3) := by decide +kernel
theorem dX12_copy_61 : decode cX12_copy 61 = .ok (.iload 4, 2) := by decide +kernel
theorem dX12_copy_63 : decode cX12_copy 63 = .ok (.ifCond .lt 35, 3) := by decide +kernel
theorem dX12_copy_66 : decode cX12_copy 66 = .ok (.iload 5, 2) := by decide +kernel
theorem dX12_copy_68 : decode cX12_copy 68 = .ok (.ifCond .lt 30, 3) := by decide +kernel
theorem dX12_copy_71 : decode cX12_copy 71 = .ok (.iload_n 2, 1) := by decide +kernel
theorem dX12_copy_72 : decode cX12_copy 72 = .ok (.aload_n 0, 1) := by decide +kernel
theorem dX12_copy_73 : decode cX12_copy 73 = .ok (.getfield 48, 3) := by decide +kernel
theorem dX12_copy_76 : decode cX12_copy 76 = .ok (.iload_n 1, 1) := by decide +kernel
theorem dX12_copy_77 : decode cX12_copy 77 = .ok (.iaload, 1) := by decide +kernel
theorem dX12_copy_78 : decode cX12_copy 78 = .ok (.iload 5, 2) := by decide +kernel
theorem dX12_copy_80 : decode cX12_copy 80 = .ok (.isub, 1) := by decide +kernel
theorem dX12_copy_81 : decode cX12_copy 81 = .ok (.if_icmp .gt 17, 3) := by decide +kernel
theorem dX12_copy_84 : decode cX12_copy 84 = .ok (.iload 4, 2) := by decide +kernel
theorem dX12_copy_86 : decode cX12_copy 86 = .ok (.aload_n 0, 1) := by decide +kernel
theorem dX12_copy_87 : decode cX12_copy 87 = .ok (.getfield 48, 3) := by decide +kernel
theorem dX12_copy_90 : decode cX12_copy 90 = .ok (.iload_n 3, 1) := by decide +kernel
theorem dX12_copy_91 : decode cX12_copy 91 = .ok (.iaload, 1) := by decide +kernel
theorem dX12_copy_92 : decode cX12_copy 92 = .ok (.iload 5, 2) := by decide +kernel
theorem dX12_copy_94 : decode cX12_copy 94 = .ok (.isub, 1) := by decide +kernel
theorem dX12_copy_95 : decode cX12_copy 95 = .ok (.if_icmp .le 7, 3) := by decide +kernel
theorem dX12_copy_98 : decode cX12_copy 98 = .ok (.ldc_w 263, 3) := by decide +kernel
theorem dX12_copy_101 : decode cX12_copy 101 = .ok (.ireturn, 1) := by decide +kernel
theorem dX12_copy_102 : decode cX12_copy 102 = .ok (.iconst 0, 1) := by decide +kernel
theorem dX12_copy_103 : decode cX12_copy 103 = .ok (.istore 6, 2) := by decide +kernel
theorem dX12_copy_105 : decode cX12_copy 105 = .ok (.iload 6, 2) := by decide +kernel
theorem dX12_copy_107 : decode cX12_copy 107 = .ok (.iload 5, 2) := by decide +kernel
theorem dX12_copy_109 : decode cX12_copy 109 = .ok (.if_icmp .ge 30, 3) := by decide +kernel
theorem dX12_copy_112 : decode cX12_copy 112 = .ok (.aload_n 0, 1) := by decide +kernel
theorem dX12_copy_113 : decode cX12_copy 113 = .ok (.getfield 66, 3) := by decide +kernel
theorem dX12_copy_116 : decode cX12_copy 116 = .ok (.iload 6, 2) := by decide +kernel
theorem dX12_copy_118 : decode cX12_copy 118 = .ok (.aload_n 0, 1) := by decide +kernel
theorem dX12_copy_119 : decode cX12_copy 119 = .ok (.getfield 51, 3) := by decide +kernel
theorem dX12_copy_122 : decode cX12_copy 122 = .ok (.bipush 24, 2) := by decide +kernel
theorem dX12_copy_124 : decode cX12_copy 124 = .ok (.iload_n 1, 1) := by decide +kernel
theorem dX12_copy_125 : decode cX12_copy 125 = .ok (.imul, 1) := by decide +kernel
theorem dX12_copy_126 : decode cX12_copy 126 = .ok (.iload_n 2, 1) := by decide +kernel
theorem dX12_copy_127 : decode cX12_copy 127 = .ok (.iadd, 1) := by decide +kernel
theorem dX12_copy_128 : decode cX12_copy 128 = .ok (.iload 6, 2) := by decide +kernel
theorem dX12_copy_130 : decode cX12_copy 130 = .ok (.iadd, 1) := by decide +kernel
theorem dX12_copy_131 : decode cX12_copy 131 = .ok (.iaload, 1) := by decide +kernel
theorem dX12_copy_132 : decode cX12_copy 132 = .ok (.iastore, 1) := by decide +kernel
theorem dX12_copy_133 : decode cX12_copy 133 = .ok (.iinc 6 1, 3) := by decide +kernel
theorem dX12_copy_136 : decode cX12_copy 136 = .ok (.goto (-31), 3) := by decide +kernel
theorem dX12_copy_139 : decode cX12_copy 139 = .ok (.iconst 0, 1) := by decide +kernel
theorem dX12_copy_140 : decode cX12_copy 140 = .ok (.istore 6, 2) := by decide +kernel
theorem dX12_copy_142 : decode cX12_copy 142 = .ok (.iload 6, 2) := by decide +kernel
theorem dX12_copy_144 : decode cX12_copy 144 = .ok (.iload 5, 2) := by decide +kernel
theorem dX12_copy_146 : decode cX12_copy 146 = .ok (.if_icmp .ge 31, 3) := by decide +kernel
theorem dX12_copy_149 : decode cX12_copy 149 = .ok (.aload_n 0, 1) := by decide +kernel
theorem dX12_copy_150 : decode cX12_copy 150 = .ok (.getfield 51, 3) := by decide +kernel
theorem dX12_copy_153 : decode cX12_copy 153 = .ok (.bipush 24, 2) := by decide +kernel
theorem dX12_copy_155 : decode cX12_copy 155 = .ok (.iload_n 3, 1) := by decide +kernel
theorem dX12_copy_156 : decode cX12_copy 156 = .ok (.imul, 1) := by decide +kernel
theorem dX12_copy_157 : decode cX12_copy 157 = .ok (.iload 4, 2) := by decide +kernel
theorem dX12_copy_159 : decode cX12_copy 159 = .ok (.iadd, 1) := by decide +kernel
theorem dX12_copy_160 : decode cX12_copy 160 = .ok (.iload 6, 2) := by decide +kernel
theorem dX12_copy_162 : decode cX12_copy 162 = .ok (.iadd, 1) := by decide +kernel
theorem dX12_copy_163 : decode cX12_copy 163 = .ok (.aload_n 0, 1) := by decide +kernel
theorem dX12_copy_164 : decode cX12_copy 164 = .ok (.getfield 66, 3) := by decide +kernel
theorem dX12_copy_167 : decode cX12_copy 167 = .ok (.iload 6, 2) := by decide +kernel
theorem dX12_copy_169 : decode cX12_copy 169 = .ok (.iaload, 1) := by decide +kernel
theorem dX12_copy_170 : decode cX12_copy 170 = .ok (.iastore, 1) := by decide +kernel
theorem dX12_copy_171 : decode cX12_copy 171 = .ok (.iinc 6 1, 3) := by decide +kernel
theorem dX12_copy_174 : decode cX12_copy 174 = .ok (.goto (-32), 3) := by decide +kernel
theorem dX12_copy_177 : decode cX12_copy 177 = .ok (.iload 5, 2) := by decide +kernel
theorem dX12_copy_179 : decode cX12_copy 179 = .ok (.ireturn, 1) := by decide +kernel
theorem dX12_lay_0 : decode cX12_lay 0 = .ok (.iload_n 1, 1) := by decide +kernel
theorem dX12_lay_1 : decode cX12_lay 1 = .ok (.invokestatic 265, 3) := by decide +kernel
theorem dX12_lay_4 : decode cX12_lay 4 = .ok (.ifCond .eq 37, 3) := by decide +kernel
theorem dX12_lay_7 : decode cX12_lay 7 = .ok (.iload_n 2, 1) := by decide +kernel
theorem dX12_lay_8 : decode cX12_lay 8 = .ok (.iconst 0, 1) := by decide +kernel
theorem dX12_lay_9 : decode cX12_lay 9 = .ok (.iconst 3, 1) := by decide +kernel
theorem dX12_lay_10 : decode cX12_lay 10 = .ok (.invokestatic 73, 3) := by decide +kernel
theorem dX12_lay_13 : decode cX12_lay 13 = .ok (.ifCond .eq 28, 3) := by decide +kernel
theorem dX12_lay_16 : decode cX12_lay 16 = .ok (.iload_n 2, 1) := by decide +kernel
theorem dX12_lay_17 : decode cX12_lay 17 = .ok (.iconst 1, 1) := by decide +kernel
theorem dX12_lay_18 : decode cX12_lay 18 = .ok (.if_icmp .ne 11, 3) := by decide +kernel
theorem dX12_lay_21 : decode cX12_lay 21 = .ok (.aload_n 0, 1) := by decide +kernel
theorem dX12_lay_22 : decode cX12_lay 22 = .ok (.iload_n 3, 1) := by decide +kernel
theorem dX12_lay_23 : decode cX12_lay 23 = .ok (.invokevirtual 141, 3) := by decide +kernel
theorem dX12_lay_26 : decode cX12_lay 26 = .ok (.ifCond .eq 15, 3) := by decide +kernel
theorem dX12_lay_29 : decode cX12_lay 29 = .ok (.iload_n 2, 1) := by decide +kernel
theorem dX12_lay_30 : decode cX12_lay 30 = .ok (.iconst 2, 1) := by decide +kernel
theorem dX12_lay_31 : decode cX12_lay 31 = .ok (.if_icmp .ne 13, 3) := by decide +kernel
theorem dX12_lay_34 : decode cX12_lay 34 = .ok (.iload_n 3, 1) := by decide +kernel
theorem dX12_lay_35 : decode cX12_lay 35 = .ok (.invokestatic 258, 3) := by decide +kernel
theorem dX12_lay_38 : decode cX12_lay 38 = .ok (.ifCond .ne 6, 3) := by decide +kernel
theorem dX12_lay_41 : decode cX12_lay 41 = .ok (.ldc 78, 2) := by decide +kernel
theorem dX12_lay_43 : decode cX12_lay 43 = .ok (.ireturn, 1) := by decide +kernel
theorem dX12_lay_44 : decode cX12_lay 44 = .ok (.iload_n 2, 1) := by decide +kernel
theorem dX12_lay_45 : decode cX12_lay 45 = .ok (.iconst 2, 1) := by decide +kernel
theorem dX12_lay_46 : decode cX12_lay 46 = .ok (.if_icmp .ne 16, 3) := by decide +kernel
theorem dX12_lay_49 : decode cX12_lay 49 = .ok (.aload_n 0, 1) := by decide +kernel
theorem dX12_lay_50 : decode cX12_lay 50 = .ok (.getfield 45, 3) := by decide +kernel
theorem dX12_lay_53 : decode cX12_lay 53 = .ok (.iload_n 3, 1) := by decide +kernel
theorem dX12_lay_54 : decode cX12_lay 54 = .ok (.iaload, 1) := by decide +kernel
theorem dX12_lay_55 : decode cX12_lay 55 = .ok (.ifCond .ge 7, 3) := by decide +kernel
theorem dX12_lay_58 : decode cX12_lay 58 = .ok (.ldc_w 262, 3) := by decide +kernel
theorem dX12_lay_61 : decode cX12_lay 61 = .ok (.ireturn, 1) := by decide +kernel
theorem dX12_lay_62 : decode cX12_lay 62 = .ok (.aload_n 0, 1) := by decide +kernel
theorem dX12_lay_63 : decode cX12_lay 63 = .ok (.getfield 54, 3) := by decide +kernel
theorem dX12_lay_66 : decode cX12_lay 66 = .ok (.iload_n 1, 1) := by decide +kernel
theorem dX12_lay_67 : decode cX12_lay 67 = .ok (.iaload, 1) := by decide +kernel
theorem dX12_lay_68 : decode cX12_lay 68 = .ok (.istore 4, 2) := by decide +kernel
theorem dX12_lay_70 : decode cX12_lay 70 = .ok (.aload_n 0, 1) := by decide +kernel
theorem dX12_lay_71 : decode cX12_lay 71 = .ok (.getfield 54, 3) := by decide +kernel
theorem dX12_lay_74 : decode cX12_lay 74 = .ok (.iload_n 1, 1) := by decide +kernel
theorem dX12_lay_75 : decode cX12_lay 75 = .ok (.iload_n 2, 1) := by decide +kernel
theorem dX12_lay_76 : decode cX12_lay 76 = .ok (.iastore, 1) := by decide +kernel
theorem dX12_lay_77 : decode cX12_lay 77 = .ok (.aload_n 0, 1) := by decide +kernel
theorem dX12_lay_78 : decode cX12_lay 78 = .ok (.getfield 57, 3) := by decide +kernel
theorem dX12_lay_81 : decode cX12_lay 81 = .ok (.iload_n 1, 1) := by decide +kernel
theorem dX12_lay_82 : decode cX12_lay 82 = .ok (.iload_n 2, 1) := by decide +kernel
theorem dX12_lay_83 : decode cX12_lay 83 = .ok (.iconst 1, 1) := by decide +kernel
theorem dX12_lay_84 : decode cX12_lay 84 = .ok (.if_icmp .ne 11, 3) := by decide +kernel
theorem dX12_lay_87 : decode cX12_lay 87 = .ok (.aload_n 0, 1) := by decide +kernel
theorem dX12_lay_88 : decode cX12_lay 88 = .ok (.iload_n 3, 1) := by decide +kernel
theorem dX12_lay_89 : decode cX12_lay 89 = .ok (.invokevirtual 138, 3) := by decide +kernel
theorem dX12_lay_92 : decode cX12_lay 92 = .ok (.goto 18, 3) := by decide +kernel
theorem dX12_lay_95 : decode cX12_lay 95 = .ok (.iload_n 2, 1) := by decide +kernel
theorem dX12_lay_96 : decode cX12_lay 96 = .ok (.iconst 2, 1) := by decide +kernel
theorem dX12_lay_97 : decode cX12_lay 97 = .ok (.if_icmp .ne 12, 3) := by decide +kernel
theorem dX12_lay_100 : decode cX12_lay 100 = .ok (.aload_n 0, 1) := by decide +kernel
theorem dX12_lay_101 : decode cX12_lay 101 = .ok (.getfield 48, 3) := by decide +kernel
theorem dX12_lay_104 : decode cX12_lay 104 = .ok (.iload_n 3, 1) := by decide +kernel
theorem dX12_lay_105 : decode cX12_lay 105 = .ok (.iaload, 1) := by decide +kernel
theorem dX12_lay_106 : decode cX12_lay 106 = .ok (.goto 4, 3) := by decide +kernel
theorem dX12_lay_109 : decode cX12_lay 109 = .ok (.iload_n 3, 1) := by decide +kernel
theorem dX12_lay_110 : decode cX12_lay 110 = .ok (.iastore, 1) := by decide +kernel
theorem dX12_lay_111 : decode cX12_lay 111 = .ok (.aload_n 0, 1) := by decide +kernel
theorem dX12_lay_112 : decode cX12_lay 112 = .ok (.getfield 60, 3) := by decide +kernel
theorem dX12_lay_115 : decode cX12_lay 115 = .ok (.iload_n 1, 1) := by decide +kernel
theorem dX12_lay_116 : decode cX12_lay 116 = .ok (.iload_n 2, 1) := by decide +kernel
theorem dX12_lay_117 : decode cX12_lay 117 = .ok (.iconst 1, 1) := by decide +kernel
theorem dX12_lay_118 : decode cX12_lay 118 = .ok (.if_icmp .ne 11, 3) := by decide +kernel
theorem dX12_lay_121 : decode cX12_lay 121 = .ok (.aload_n 0, 1) := by decide +kernel
theorem dX12_lay_122 : decode cX12_lay 122 = .ok (.iload_n 3, 1) := by decide +kernel
theorem dX12_lay_123 : decode cX12_lay 123 = .ok (.invokevirtual 144, 3) := by decide +kernel
theorem dX12_lay_126 : decode cX12_lay 126 = .ok (.goto 4, 3) := by decide +kernel
theorem dX12_lay_129 : decode cX12_lay 129 = .ok (.iconst 0, 1) := by decide +kernel
theorem dX12_lay_130 : decode cX12_lay 130 = .ok (.iastore, 1) := by decide +kernel
theorem dX12_lay_131 : decode cX12_lay 131 = .ok (.iconst 0, 1) := by decide +kernel
theorem dX12_lay_132 : decode cX12_lay 132 = .ok (.istore 5, 2) := by decide +kernel
theorem dX12_lay_134 : decode cX12_lay 134 = .ok (.iload 5, 2) := by decide +kernel
theorem dX12_lay_136 : decode cX12_lay 136 = .ok (.bipush 24, 2) := by decide +kernel
theorem dX12_lay_138 : decode cX12_lay 138 = .ok (.if_icmp .ge 38, 3) := by decide +kernel
theorem dX12_lay_141 : decode cX12_lay 141 = .ok (.iload_n 2, 1) := by decide +kernel
theorem dX12_lay_142 : decode cX12_lay 142 = .ok (.iconst 2, 1) := by decide +kernel
theorem dX12_lay_143 : decode cX12_lay 143 = .ok (.if_icmp .ne 33, 3) := by decide +kernel
theorem dX12_lay_146 : decode cX12_lay 146 = .ok (.aload_n 0, 1) := by decide +kernel
theorem dX12_lay_147 : decode cX12_lay 147 = .ok (.getfield 63, 3) := by decide +kernel
theorem dX12_lay_150 : decode cX12_lay 150 = .ok (.bipush 24, 2) := by decide +kernel
theorem dX12_lay_152 : decode cX12_lay 152 = .ok (.iload_n 1, 1) := by decide +kernel
theorem dX12_lay_153 : decode cX12_lay 153 = .ok (.imul, 1) := by decide +kernel
theorem dX12_lay_154 : decode cX12_lay 154 = .ok (.iload 5, 2) := by decide +kernel
theorem dX12_lay_156 : decode cX12_lay 156 = .ok (.iadd, 1) := by decide +kernel
theorem dX12_lay_157 : decode cX12_lay 157 = .ok (.aload_n 0, 1) := by decide +kernel
theorem dX12_lay_158 : decode cX12_lay 158 = .ok (.getfield 51, 3) := by decide +kernel
theorem dX12_lay_161 : decode cX12_lay 161 = .ok (.bipush 24, 2) := by decide +kernel
theorem dX12_lay_163 : decode cX12_lay 163 = .ok (.iload_n 3, 1) := by decide +kernel
theorem dX12_lay_164 : decode cX12_lay 164 = .ok (.imul, 1) := by decide +kernel
theorem dX12_lay_165 : decode cX12_lay 165 = .ok (.iload 5, 2) := by decide +kernel
theorem dX12_lay_167 : decode cX12_lay 167 = .ok (.iadd, 1) := by decide +kernel
theorem dX12_lay_168 : decode cX12_lay 168 = .ok (.iaload, 1) := by decide +kernel
theorem dX12_lay_169 : decode cX12_lay 169 = .ok (.iastore, 1) := by decide +kernel
theorem dX12_lay_170 : decode cX12_lay 170 = .ok (.iinc 5 1, 3) := by decide +kernel
theorem dX12_lay_173 : decode cX12_lay 173 = .ok (.goto (-39), 3) := by decide +kernel
theorem dX12_lay_176 : decode cX12_lay 176 = .ok (.iload 4, 2) := by decide +kernel
theorem dX12_lay_178 : decode cX12_lay 178 = .ok (.ireturn, 1) := by decide +kernel
theorem dX12_ask_0 : decode cX12_ask 0 = .ok (.iload_n 1, 1) := by decide +kernel
theorem dX12_ask_1 : decode cX12_ask 1 = .ok (.invokestatic 265, 3) := by decide +kernel
theorem dX12_ask_4 : decode cX12_ask 4 = .ok (.ifCond .eq 12, 3) := by decide +kernel
theorem dX12_ask_7 : decode cX12_ask 7 = .ok (.iload_n 2, 1) := by decide +kernel
theorem dX12_ask_8 : decode cX12_ask 8 = .ok (.iconst 0, 1) := by decide +kernel
theorem dX12_ask_9 : decode cX12_ask 9 = .ok (.iconst 5, 1) := by decide +kernel
theorem dX12_ask_10 : decode cX12_ask 10 = .ok (.invokestatic 73, 3) := by decide +kernel
theorem dX12_ask_13 : decode cX12_ask 13 = .ok (.ifCond .ne 6, 3) := by decide +kernel
theorem dX12_ask_16 : decode cX12_ask 16 = .ok (.ldc 78, 2) := by decide +kernel
theorem dX12_ask_18 : decode cX12_ask 18 = .ok (.ireturn, 1) := by decide +kernel
theorem dX12_ask_19 : decode cX12_ask 19 = .ok (.aload_n 0, 1) := by decide +kernel
theorem dX12_ask_20 : decode cX12_ask 20 = .ok (.getfield 54, 3) := by decide +kernel
theorem dX12_ask_23 : decode cX12_ask 23 = .ok (.iload_n 1, 1) := by decide +kernel
theorem dX12_ask_24 : decode cX12_ask 24 = .ok (.iaload, 1) := by decide +kernel
theorem dX12_ask_25 : decode cX12_ask 25 = .ok (.ifCond .ne 7, 3) := by decide +kernel
theorem dX12_ask_28 : decode cX12_ask 28 = .ok (.ldc_w 262, 3) := by decide +kernel
theorem dX12_ask_31 : decode cX12_ask 31 = .ok (.ireturn, 1) := by decide +kernel
theorem dX12_ask_32 : decode cX12_ask 32 = .ok (.aload_n 0, 1) := by decide +kernel
theorem dX12_ask_33 : decode cX12_ask 33 = .ok (.getfield 54, 3) := by decide +kernel
theorem dX12_ask_36 : decode cX12_ask 36 = .ok (.iload_n 1, 1) := by decide +kernel
theorem dX12_ask_37 : decode cX12_ask 37 = .ok (.iaload, 1) := by decide +kernel
theorem dX12_ask_38 : decode cX12_ask 38 = .ok (.iconst 1, 1) := by decide +kernel
theorem dX12_ask_39 : decode cX12_ask 39 = .ok (.if_icmp .ne 25, 3) := by decide +kernel
theorem dX12_ask_42 : decode cX12_ask 42 = .ok (.aload_n 0, 1) := by decide +kernel
theorem dX12_ask_43 : decode cX12_ask 43 = .ok (.getfield 57, 3) := by decide +kernel
theorem dX12_ask_46 : decode cX12_ask 46 = .ok (.iload_n 1, 1) := by decide +kernel
theorem dX12_ask_47 : decode cX12_ask 47 = .ok (.iaload, 1) := by decide +kernel
theorem dX12_ask_48 : decode cX12_ask 48 = .ok (.iload_n 2, 1) := by decide +kernel
theorem dX12_ask_49 : decode cX12_ask 49 = .ok (.invokestatic 147, 3) := by decide +kernel
theorem dX12_ask_52 : decode cX12_ask 52 = .ok (.ifCond .eq 12, 3) := by decide +kernel
theorem dX12_ask_55 : decode cX12_ask 55 = .ok (.aload_n 0, 1) := by decide +kernel
theorem dX12_ask_56 : decode cX12_ask 56 = .ok (.getfield 60, 3) := by decide +kernel
theorem dX12_ask_59 : decode cX12_ask 59 = .ok (.iload_n 1, 1) := by decide +kernel
theorem dX12_ask_60 : decode cX12_ask 60 = .ok (.iaload, 1) := by decide +kernel
theorem dX12_ask_61 : decode cX12_ask 61 = .ok (.goto 5, 3) := by decide +kernel
theorem dX12_ask_64 : decode cX12_ask 64 = .ok (.ldc 150, 2) := by decide +kernel
theorem dX12_ask_66 : decode cX12_ask 66 = .ok (.ireturn, 1) := by decide +kernel
theorem dX12_item_0 : decode cX12_item 0 = .ok (.iload_n 1, 1) := by decide +kernel
theorem dX12_item_1 : decode cX12_item 1 = .ok (.invokestatic 265, 3) := by decide +kernel
theorem dX12_item_4 : decode cX12_item 4 = .ok (.ifCond .ne 6, 3) := by decide +kernel
theorem dX12_item_7 : decode cX12_item 7 = .ok (.ldc 78, 2) := by decide +kernel
theorem dX12_item_9 : decode cX12_item 9 = .ok (.ireturn, 1) := by decide +kernel
theorem dX12_item_10 : decode cX12_item 10 = .ok (.aload_n 0, 1) := by decide +kernel
theorem dX12_item_11 : decode cX12_item 11 = .ok (.getfield 54, 3) := by decide +kernel
theorem dX12_item_14 : decode cX12_item 14 = .ok (.iload_n 1, 1) := by decide +kernel
theorem dX12_item_15 : decode cX12_item 15 = .ok (.iaload, 1) := by decide +kernel
theorem dX12_item_16 : decode cX12_item 16 = .ok (.ifCond .ne 7, 3) := by decide +kernel
theorem dX12_item_19 : decode cX12_item 19 = .ok (.ldc_w 262, 3) := by decide +kernel
theorem dX12_item_22 : decode cX12_item 22 = .ok (.ireturn, 1) := by decide +kernel
theorem dX12_item_23 : decode cX12_item 23 = .ok (.aload_n 0, 1) := by decide +kernel
theorem dX12_item_24 : decode cX12_item 24 = .ok (.getfield 54, 3) := by decide +kernel
theorem dX12_item_27 : decode cX12_item 27 = .ok (.iload_n 1, 1) := by decide +kernel
theorem dX12_item_28 : decode cX12_item 28 = .ok (.iaload, 1) := by decide +kernel
theorem dX12_item_29 : decode cX12_item 29 = .ok (.iconst 2, 1) := by decide +kernel
theorem dX12_item_30 : decode cX12_item 30 = .ok (.if_icmp .eq 6, 3) := by decide +kernel
theorem dX12_item_33 : decode cX12_item 33 = .ok (.ldc 150, 2) := by decide +kernel
theorem dX12_item_35 : decode cX12_item 35 = .ok (.ireturn, 1) := by decide +kernel
theorem dX12_item_36 : decode cX12_item 36 = .ok (.iload_n 2, 1) := by decide +kernel
theorem dX12_item_37 : decode cX12_item 37 = .ok (.iconst 0, 1) := by decide +kernel
theorem dX12_item_38 : decode cX12_item 38 = .ok (.aload_n 0, 1) := by decide +kernel
theorem dX12_item_39 : decode cX12_item 39 = .ok (.getfield 57, 3) := by decide +kernel
theorem dX12_item_42 : decode cX12_item 42 = .ok (.iload_n 1, 1) := by decide +kernel
theorem dX12_item_43 : decode cX12_item 43 = .ok (.iaload, 1) := by decide +kernel
theorem dX12_item_44 : decode cX12_item 44 = .ok (.iconst 1, 1) := by decide +kernel
theorem dX12_item_45 : decode cX12_item 45 = .ok (.isub, 1) := by decide +kernel
theorem dX12_item_46 : decode cX12_item 46 = .ok (.invokestatic 73, 3) := by decide +kernel
theorem dX12_item_49 : decode cX12_item 49 = .ok (.ifCond .ne 7, 3) := by decide +kernel
theorem dX12_item_52 : decode cX12_item 52 = .ok (.ldc_w 263, 3) := by decide +kernel
theorem dX12_item_55 : decode cX12_item 55 = .ok (.ireturn, 1) := by decide +kernel
theorem dX12_item_56 : decode cX12_item 56 = .ok (.aload_n 0, 1) := by decide +kernel
theorem dX12_item_57 : decode cX12_item 57 = .ok (.getfield 63, 3) := by decide +kernel
theorem dX12_item_60 : decode cX12_item 60 = .ok (.bipush 24, 2) := by decide +kernel
theorem dX12_item_62 : decode cX12_item 62 = .ok (.iload_n 1, 1) := by decide +kernel
theorem dX12_item_63 : decode cX12_item 63 = .ok (.imul, 1) := by decide +kernel
theorem dX12_item_64 : decode cX12_item 64 = .ok (.iload_n 2, 1) := by decide +kernel
theorem dX12_item_65 : decode cX12_item 65 = .ok (.iadd, 1) := by decide +kernel
theorem dX12_item_66 : decode cX12_item 66 = .ok (.iaload, 1) := by decide +kernel
theorem dX12_item_67 : decode cX12_item 67 = .ok (.istore_n 3, 1) := by decide +kernel
theorem dX12_item_68 : decode cX12_item 68 = .ok (.iload_n 3, 1) := by decide +kernel
theorem dX12_item_69 : decode cX12_item 69 = .ok (.ldc 72, 2) := by decide +kernel
theorem dX12_item_71 : decode cX12_item 71 = .ok (.if_icmp .ne 8, 3) := by decide +kernel
theorem dX12_item_74 : decode cX12_item 74 = .ok (.ldc 150, 2) := by decide +kernel
theorem dX12_item_76 : decode cX12_item 76 = .ok (.goto 4, 3) := by decide +kernel
theorem dX12_item_79 : decode cX12_item 79 = .ok (.iload_n 3, 1) := by decide +kernel
theorem dX12_item_80 : decode cX12_item 80 = .ok (.ireturn, 1) := by decide +kernel
theorem dX12_rest_0 : decode cX12_rest 0 = .ok (.iload_n 1, 1) := by decide +kernel
theorem dX12_rest_1 : decode cX12_rest 1 = .ok (.invokestatic 265, 3) := by decide +kernel
theorem dX12_rest_4 : decode cX12_rest 4 = .ok (.ifCond .ne 6, 3) := by decide +kernel
theorem dX12_rest_7 : decode cX12_rest 7 = .ok (.ldc 78, 2) := by decide +kernel
theorem dX12_rest_9 : decode cX12_rest 9 = .ok (.ireturn, 1) := by decide +kernel
theorem dX12_rest_10 : decode cX12_rest 10 = .ok (.aload_n 0, 1) := by decide +kernel
theorem dX12_rest_11 : decode cX12_rest 11 = .ok (.getfield 54, 3) := by decide +kernel
theorem dX12_rest_14 : decode cX12_rest 14 = .ok (.iload_n 1, 1) := by decide +kernel
theorem dX12_rest_15 : decode cX12_rest 15 = .ok (.iaload, 1) := by decide +kernel
theorem dX12_rest_16 : decode cX12_rest 16 = .ok (.ifCond .ne 7, 3) := by decide +kernel
theorem dX12_rest_19 : decode cX12_rest 19 = .ok (.ldc_w 262, 3) := by decide +kernel
theorem dX12_rest_22 : decode cX12_rest 22 = .ok (.ireturn, 1) := by decide +kernel
theorem dX12_rest_23 : decode cX12_rest 23 = .ok (.aload_n 0, 1) := by decide +kernel
theorem dX12_rest_24 : decode cX12_rest 24 = .ok (.getfield 54, 3) := by decide +kernel
theorem dX12_rest_27 : decode cX12_rest 27 = .ok (.iload_n 1, 1) := by decide +kernel
theorem dX12_rest_28 : decode cX12_rest 28 = .ok (.iaload, 1) := by decide +kernel
theorem dX12_rest_29 : decode cX12_rest 29 = .ok (.iconst 3, 1) := by decide +kernel
theorem dX12_rest_30 : decode cX12_rest 30 = .ok (.if_icmp .eq 6, 3) := by decide +kernel
theorem dX12_rest_33 : decode cX12_rest 33 = .ok (.ldc 150, 2) := by decide +kernel
theorem dX12_rest_35 : decode cX12_rest 35 = .ok (.ireturn, 1) := by decide +kernel
theorem dX12_rest_36 : decode cX12_rest 36 = .ok (.iload_n 2, 1) := by decide +kernel
theorem dX12_rest_37 : decode cX12_rest 37 = .ok (.ifCond .ne 9, 3) := by decide +kernel
theorem dX12_rest_40 : decode cX12_rest 40 = .ok (.ldc_w 268, 3) := by decide +kernel
theorem dX12_rest_43 : decode cX12_rest 43 = .ok (.goto 20, 3) := by decide +kernel
theorem dX12_rest_46 : decode cX12_rest 46 = .ok (.iload_n 2, 1) := by decide +kernel
theorem dX12_rest_47 : decode cX12_rest 47 = .ok (.iconst (-1), 1) := by decide +kernel
theorem dX12_rest_48 : decode cX12_rest 48 = .ok (.if_icmp .ne 7, 3) := by decide +kernel
theorem dX12_rest_51 : decode cX12_rest 51 = .ok (.iconst 0, 1) := by decide +kernel
theorem dX12_rest_52 : decode cX12_rest 52 = .ok (.goto 11, 3) := by decide +kernel
theorem dX12_rest_55 : decode cX12_rest 55 = .ok (.aload_n 0, 1) := by decide +kernel
theorem dX12_rest_56 : decode cX12_rest 56 = .ok (.getfield 57, 3) := by decide +kernel
theorem dX12_rest_59 : decode cX12_rest 59 = .ok (.iload_n 1, 1) := by decide +kernel
theorem dX12_rest_60 : decode cX12_rest 60 = .ok (.iaload, 1) := by decide +kernel
theorem dX12_rest_61 : decode cX12_rest 61 = .ok (.iload_n 2, 1) := by decide +kernel
theorem dX12_rest_62 : decode cX12_rest 62 = .ok (.irem, 1) := by decide +kernel
theorem dX12_rest_63 : decode cX12_rest 63 = .ok (.ireturn, 1) := by decide +kernel
theorem dX12_tell_0 : decode cX12_tell 0 = .ok (.aload_n 0, 1) := by decide +kernel
theorem dX12_tell_1 : decode cX12_tell 1 = .ok (.getfield 269, 3) := by decide +kernel
theorem dX12_tell_4 : decode cX12_tell 4 = .ok (.bipush 60, 2) := by decide +kernel
theorem dX12_tell_6 : decode cX12_tell 6 = .ok (.if_icmp .ne 6, 3) := by decide +kernel
theorem dX12_tell_9 : decode cX12_tell 9 = .ok (.ldc 79, 2) := by decide +kernel
theorem dX12_tell_11 : decode cX12_tell 11 = .ok (.ireturn, 1) := by decide +kernel
theorem dX12_tell_12 : decode cX12_tell 12 = .ok (.aload_n 0, 1) := by decide +kernel
theorem dX12_tell_13 : decode cX12_tell 13 = .ok (.getfield 69, 3) := by decide +kernel
theorem dX12_tell_16 : decode cX12_tell 16 = .ok (.aload_n 0, 1) := by decide +kernel
theorem dX12_tell_17 : decode cX12_tell 17 = .ok (.getfield 269, 3) := by decide +kernel
theorem dX12_tell_20 : decode cX12_tell 20 = .ok (.iload_n 1, 1) := by decide +kernel
theorem dX12_tell_21 : decode cX12_tell 21 = .ok (.iastore, 1) := by decide +kernel
theorem dX12_tell_22 : decode cX12_tell 22 = .ok (.aload_n 0, 1) := by decide +kernel
theorem dX12_tell_23 : decode cX12_tell 23 = .ok (.dup, 1) := by decide +kernel
theorem dX12_tell_24 : decode cX12_tell 24 = .ok (.getfield 269, 3) := by decide +kernel
theorem dX12_tell_27 : decode cX12_tell 27 = .ok (.iconst 1, 1) := by decide +kernel
theorem dX12_tell_28 : decode cX12_tell 28 = .ok (.iadd, 1) := by decide +kernel
theorem dX12_tell_29 : decode cX12_tell 29 = .ok (.putfield 269, 3) := by decide +kernel
theorem dX12_tell_32 : decode cX12_tell 32 = .ok (.aload_n 0, 1) := by decide +kernel
theorem dX12_tell_33 : decode cX12_tell 33 = .ok (.getfield 269, 3) := by decide +kernel
theorem dX12_tell_36 : decode cX12_tell 36 = .ok (.ireturn, 1) := by decide +kernel
theorem dX12_check_0 : decode cX12_check 0 = .ok (.aload_n 0, 1) := by decide +kernel
theorem dX12_check_1 : decode cX12_check 1 = .ok (.getfield 269, 3) := by decide +kernel
theorem dX12_check_4 : decode cX12_check 4 = .ok (.istore_n 2, 1) := by decide +kernel
theorem dX12_check_5 : decode cX12_check 5 = .ok (.aload_n 0, 1) := by decide +kernel
theorem dX12_check_6 : decode cX12_check 6 = .ok (.iconst 0, 1) := by decide +kernel
theorem dX12_check_7 : decode cX12_check 7 = .ok (.putfield 269, 3) := by decide +kernel
theorem dX12_check_10 : decode cX12_check 10 = .ok (.iload_n 1, 1) := by decide +kernel
theorem dX12_check_11 : decode cX12_check 11 = .ok (.iconst 1, 1) := by decide +kernel
theorem dX12_check_12 : decode cX12_check 12 = .ok (.bipush 30, 2) := by decide +kernel
theorem dX12_check_14 : decode cX12_check 14 = .ok (.invokestatic 73, 3) := by decide +kernel
theorem dX12_check_17 : decode cX12_check 17 = .ok (.ifCond .ne 6, 3) := by decide +kernel
theorem dX12_check_20 : decode cX12_check 20 = .ok (.ldc 78, 2) := by decide +kernel
theorem dX12_check_22 : decode cX12_check 22 = .ok (.ireturn, 1) := by decide +kernel
theorem dX12_check_23 : decode cX12_check 23 = .ok (.aload_n 0, 1) := by decide +kernel
theorem dX12_check_24 : decode cX12_check 24 = .ok (.getfield 272, 3) := by decide +kernel
theorem dX12_check_27 : decode cX12_check 27 = .ok (.ifCond .ne 7, 3) := by decide +kernel
theorem dX12_check_30 : decode cX12_check 30 = .ok (.ldc_w 268, 3) := by decide +kernel
theorem dX12_check_33 : decode cX12_check 33 = .ok (.ireturn, 1) := by decide +kernel
theorem dX12_check_34 : decode cX12_check 34 = .ok (.aload_n 0, 1) := by decide +kernel
theorem dX12_check_35 : decode cX12_check 35 = .ok (.getfield 9, 3) := by decide +kernel
theorem dX12_check_38 : decode cX12_check 38 = .ok (.aload_n 0, 1) := by decide +kernel
theorem dX12_check_39 : decode cX12_check 39 = .ok (.getfield 16, 3) := by decide +kernel
theorem dX12_check_42 : decode cX12_check 42 = .ok (.invokestatic 276, 3) := by decide +kernel
theorem dX12_check_45 : decode cX12_check 45 = .ok (.aload_n 0, 1) := by decide +kernel
theorem dX12_check_46 : decode cX12_check 46 = .ok (.getfield 13, 3) := by decide +kernel
theorem dX12_check_49 : decode cX12_check 49 = .ok (.aload_n 0, 1) := by decide +kernel
theorem dX12_check_50 : decode cX12_check 50 = .ok (.getfield 9, 3) := by decide +kernel
theorem dX12_check_53 : decode cX12_check 53 = .ok (.invokestatic 276, 3) := by decide +kernel
theorem dX12_check_56 : decode cX12_check 56 = .ok (.iconst 0, 1) := by decide +kernel
theorem dX12_check_57 : decode cX12_check 57 = .ok (.istore_n 3, 1) := by decide +kernel
theorem dX12_check_58 : decode cX12_check 58 = .ok (.iconst 0, 1) := by decide +kernel
theorem dX12_check_59 : decode cX12_check 59 = .ok (.istore 4, 2) := by decide +kernel
theorem dX12_check_61 : decode cX12_check 61 = .ok (.iload 4, 2) := by decide +kernel
theorem dX12_check_63 : decode cX12_check 63 = .ok (.iload_n 1, 1) := by decide +kernel
theorem dX12_check_64 : decode cX12_check 64 = .ok (.if_icmp .ge 87, 3) := by decide +kernel
theorem dX12_check_67 : decode cX12_check 67 = .ok (.iload_n 3, 1) := by decide +kernel
theorem dX12_check_68 : decode cX12_check 68 = .ok (.iconst 2, 1) := by decide +kernel
theorem dX12_check_69 : decode cX12_check 69 = .ok (.iload 4, 2) := by decide +kernel
theorem dX12_check_71 : decode cX12_check 71 = .ok (.imul, 1) := by decide +kernel
theorem dX12_check_72 : decode cX12_check 72 = .ok (.if_icmp .ne 79, 3) := by decide +kernel
theorem dX12_check_75 : decode cX12_check 75 = .ok (.aload_n 0, 1) := by decide +kernel
theorem dX12_check_76 : decode cX12_check 76 = .ok (.invokevirtual 171, 3) := by decide +kernel
theorem dX12_check_79 : decode cX12_check 79 = .ok (.iload_n 3, 1) := by decide +kernel
theorem dX12_check_80 : decode cX12_check 80 = .ok (.iload_n 3, 1) := by decide +kernel
theorem dX12_check_81 : decode cX12_check 81 = .ok (.iload_n 2, 1) := by decide +kernel
theorem dX12_check_82 : decode cX12_check 82 = .ok (.if_icmp .ge 22, 3) := by decide +kernel
theorem dX12_check_85 : decode cX12_check 85 = .ok (.aload_n 0, 1) := by decide +kernel
theorem dX12_check_86 : decode cX12_check 86 = .ok (.getfield 69, 3) := by decide +kernel
theorem dX12_check_89 : decode cX12_check 89 = .ok (.iload_n 3, 1) := by decide +kernel
theorem dX12_check_90 : decode cX12_check 90 = .ok (.iaload, 1) := by decide +kernel
theorem dX12_check_91 : decode cX12_check 91 = .ok (.aload_n 0, 1) := by decide +kernel
theorem dX12_check_92 : decode cX12_check 92 = .ok (.getfield 9, 3) := by decide +kernel
theorem dX12_check_95 : decode cX12_check 95 = .ok (.iconst 4, 1) := by decide +kernel
theorem dX12_check_96 : decode cX12_check 96 = .ok (.iaload, 1) := by decide +kernel
theorem dX12_check_97 : decode cX12_check 97 = .ok (.if_icmp .ne 7, 3) := by decide +kernel
theorem dX12_check_100 : decode cX12_check 100 = .ok (.iconst 1, 1) := by decide +kernel
theorem dX12_check_101 : decode cX12_check 101 = .ok (.goto 4, 3) := by decide +kernel
theorem dX12_check_104 : decode cX12_check 104 = .ok (.iconst 0, 1) := by decide +kernel
theorem dX12_check_105 : decode cX12_check 105 = .ok (.iadd, 1) := by decide +kernel
theorem dX12_check_106 : decode cX12_check 106 = .ok (.istore_n 3, 1) := by decide +kernel
theorem dX12_check_107 : decode cX12_check 107 = .ok (.iload_n 3, 1) := by decide +kernel
theorem dX12_check_108 : decode cX12_check 108 = .ok (.iload_n 3, 1) := by decide +kernel
theorem dX12_check_109 : decode cX12_check 109 = .ok (.iconst 2, 1) := by decide +kernel
theorem dX12_check_110 : decode cX12_check 110 = .ok (.iload 4, 2) := by decide +kernel
theorem dX12_check_112 : decode cX12_check 112 = .ok (.imul, 1) := by decide +kernel
theorem dX12_check_113 : decode cX12_check 113 = .ok (.iconst 1, 1) := by decide +kernel
theorem dX12_check_114 : decode cX12_check 114 = .ok (.iadd, 1) := by decide +kernel
theorem dX12_check_115 : decode cX12_check 115 = .ok (.if_icmp .ne 27, 3) := by decide +kernel
theorem dX12_check_118 : decode cX12_check 118 = .ok (.iload_n 3, 1) := by decide +kernel
theorem dX12_check_119 : decode cX12_check 119 = .ok (.iload_n 2, 1) := by decide +kernel
theorem dX12_check_120 : decode cX12_check 120 = .ok (.if_icmp .ge 22, 3) := by decide +kernel
theorem dX12_check_123 : decode cX12_check 123 = .ok (.aload_n 0, 1) := by decide +kernel
theorem dX12_check_124 : decode cX12_check 124 = .ok (.getfield 69, 3) := by decide +kernel
theorem dX12_check_127 : decode cX12_check 127 = .ok (.iload_n 3, 1) := by decide +kernel
theorem dX12_check_128 : decode cX12_check 128 = .ok (.iaload, 1) := by decide +kernel
theorem dX12_check_129 : decode cX12_check 129 = .ok (.aload_n 0, 1) := by decide +kernel
theorem dX12_check_130 : decode cX12_check 130 = .ok (.getfield 9, 3) := by decide +kernel
theorem dX12_check_133 : decode cX12_check 133 = .ok (.iconst 5, 1) := by decide +kernel
theorem dX12_check_134 : decode cX12_check 134 = .ok (.iaload, 1) := by decide +kernel
theorem dX12_check_135 : decode cX12_check 135 = .ok (.if_icmp .ne 7, 3) := by decide +kernel
theorem dX12_check_138 : decode cX12_check 138 = .ok (.iconst 1, 1) := by decide +kernel
theorem dX12_check_139 : decode cX12_check 139 = .ok (.goto 4, 3) := by decide +kernel
theorem dX12_check_142 : decode cX12_check 142 = .ok (.iconst 0, 1) := by decide +kernel
theorem dX12_check_143 : decode cX12_check 143 = .ok (.iadd, 1) := by decide +kernel
theorem dX12_check_144 : decode cX12_check 144 = .ok (.istore_n 3, 1) := by decide +kernel
theorem dX12_check_145 : decode cX12_check 145 = .ok (.iinc 4 1, 3) := by decide +kernel
theorem dX12_check_148 : decode cX12_check 148 = .ok (.goto (-87), 3) := by decide +kernel
theorem dX12_check_151 : decode cX12_check 151 = .ok (.aload_n 0, 1) := by decide +kernel
theorem dX12_check_152 : decode cX12_check 152 = .ok (.getfield 16, 3) := by decide +kernel
theorem dX12_check_155 : decode cX12_check 155 = .ok (.aload_n 0, 1) := by decide +kernel
theorem dX12_check_156 : decode cX12_check 156 = .ok (.getfield 9, 3) := by decide +kernel
theorem dX12_check_159 : decode cX12_check 159 = .ok (.invokestatic 276, 3) := by decide +kernel
theorem dX12_check_162 : decode cX12_check 162 = .ok (.iload_n 3, 1) := by decide +kernel
theorem dX12_check_163 : decode cX12_check 163 = .ok (.iload_n 2, 1) := by decide +kernel
theorem dX12_check_164 : decode cX12_check 164 = .ok (.if_icmp .ne 14, 3) := by decide +kernel
theorem dX12_check_167 : decode cX12_check 167 = .ok (.iload_n 3, 1) := by decide +kernel
theorem dX12_check_168 : decode cX12_check 168 = .ok (.iconst 2, 1) := by decide +kernel
theorem dX12_check_169 : decode cX12_check 169 = .ok (.iload_n 1, 1) := by decide +kernel
theorem dX12_check_170 : decode cX12_check 170 = .ok (.imul, 1) := by decide +kernel
theorem dX12_check_171 : decode cX12_check 171 = .ok (.if_icmp .ne 7, 3) := by decide +kernel
theorem dX12_check_174 : decode cX12_check 174 = .ok (.iconst 0, 1) := by decide +kernel
theorem dX12_check_175 : decode cX12_check 175 = .ok (.goto 6, 3) := by decide +kernel
theorem dX12_check_178 : decode cX12_check 178 = .ok (.iconst 1, 1) := by decide +kernel
theorem dX12_check_179 : decode cX12_check 179 = .ok (.iload_n 3, 1) := by decide +kernel
theorem dX12_check_180 : decode cX12_check 180 = .ok (.iadd, 1) := by decide +kernel
theorem dX12_check_181 : decode cX12_check 181 = .ok (.ireturn, 1) := by decide +kernel
theorem dX12_keep_0 : decode cX12_keep 0 = .ok (.aload_n 0, 1) := by decide +kernel
theorem dX12_keep_1 : decode cX12_keep 1 = .ok (.getfield 9, 3) := by decide +kernel
theorem dX12_keep_4 : decode cX12_keep 4 = .ok (.aload_n 0, 1) := by decide +kernel
theorem dX12_keep_5 : decode cX12_keep 5 = .ok (.getfield 13, 3) := by decide +kernel
theorem dX12_keep_8 : decode cX12_keep 8 = .ok (.invokestatic 276, 3) := by decide +kernel
theorem dX12_keep_11 : decode cX12_keep 11 = .ok (.aload_n 0, 1) := by decide +kernel
theorem dX12_keep_12 : decode cX12_keep 12 = .ok (.iconst 1, 1) := by decide +kernel
theorem dX12_keep_13 : decode cX12_keep 13 = .ok (.putfield 272, 3) := by decide +kernel
theorem dX12_keep_16 : decode cX12_keep 16 = .ok (.aload_n 0, 1) := by decide +kernel
theorem dX12_keep_17 : decode cX12_keep 17 = .ok (.getfield 9, 3) := by decide +kernel
theorem dX12_keep_20 : decode cX12_keep 20 = .ok (.iconst 2, 1) := by decide +kernel
theorem dX12_keep_21 : decode cX12_keep 21 = .ok (.iaload, 1) := by decide +kernel
theorem dX12_keep_22 : decode cX12_keep 22 = .ok (.ireturn, 1) := by decide +kernel
theorem dX12_back_0 : decode cX12_back 0 = .ok (.aload_n 0, 1) := by decide +kernel
theorem dX12_back_1 : decode cX12_back 1 = .ok (.getfield 272, 3) := by decide +kernel
theorem dX12_back_4 : decode cX12_back 4 = .ok (.ifCond .ne 7, 3) := by decide +kernel
theorem dX12_back_7 : decode cX12_back 7 = .ok (.ldc_w 268, 3) := by decide +kernel
theorem dX12_back_10 : decode cX12_back 10 = .ok (.ireturn, 1) := by decide +kernel
theorem dX12_back_11 : decode cX12_back 11 = .ok (.aload_n 0, 1) := by decide +kernel
theorem dX12_back_12 : decode cX12_back 12 = .ok (.getfield 13, 3) := by decide +kernel
theorem dX12_back_15 : decode cX12_back 15 = .ok (.aload_n 0, 1) := by decide +kernel
theorem dX12_back_16 : decode cX12_back 16 = .ok (.getfield 9, 3) := by decide +kernel
theorem dX12_back_19 : decode cX12_back 19 = .ok (.invokestatic 276, 3) := by decide +kernel
theorem dX12_back_22 : decode cX12_back 22 = .ok (.aload_n 0, 1) := by decide +kernel
theorem dX12_back_23 : decode cX12_back 23 = .ok (.getfield 9, 3) := by decide +kernel
theorem dX12_back_26 : decode cX12_back 26 = .ok (.iconst 2, 1) := by decide +kernel
theorem dX12_back_27 : decode cX12_back 27 = .ok (.iaload, 1) := by decide +kernel
theorem dX12_back_28 : decode cX12_back 28 = .ok (.ireturn, 1) := by decide +kernel
theorem dX12_count_0 : decode cX12_count 0 = .ok (.iload_n 1, 1) := by decide +kernel
theorem dX12_count_1 : decode cX12_count 1 = .ok (.tableswitch 123 0 9 #[55, 62, 69, 76, 83, 90, 98, 106, 111, 116], 55) := by decide +kernel
theorem dX12_count_56 : decode cX12_count 56 = .ok (.aload_n 0, 1) := by decide +kernel
theorem dX12_count_57 : decode cX12_count 57 = .ok (.getfield 9, 3) := by decide +kernel
theorem dX12_count_60 : decode cX12_count 60 = .ok (.iconst 1, 1) := by decide +kernel
theorem dX12_count_61 : decode cX12_count 61 = .ok (.iaload, 1) := by decide +kernel
theorem dX12_count_62 : decode cX12_count 62 = .ok (.ireturn, 1) := by decide +kernel
theorem dX12_count_63 : decode cX12_count 63 = .ok (.aload_n 0, 1) := by decide +kernel
theorem dX12_count_64 : decode cX12_count 64 = .ok (.getfield 9, 3) := by decide +kernel
theorem dX12_count_67 : decode cX12_count 67 = .ok (.iconst 2, 1) := by decide +kernel
theorem dX12_count_68 : decode cX12_count 68 = .ok (.iaload, 1) := by decide +kernel
theorem dX12_count_69 : decode cX12_count 69 = .ok (.ireturn, 1) := by decide +kernel
theorem dX12_count_70 : decode cX12_count 70 = .ok (.aload_n 0, 1) := by decide +kernel
theorem dX12_count_71 : decode cX12_count 71 = .ok (.getfield 9, 3) := by decide +kernel
theorem dX12_count_74 : decode cX12_count 74 = .ok (.iconst 3, 1) := by decide +kernel
theorem dX12_count_75 : decode cX12_count 75 = .ok (.iaload, 1) := by decide +kernel
theorem dX12_count_76 : decode cX12_count 76 = .ok (.ireturn, 1) := by decide +kernel
theorem dX12_count_77 : decode cX12_count 77 = .ok (.aload_n 0, 1) := by decide +kernel
theorem dX12_count_78 : decode cX12_count 78 = .ok (.getfield 9, 3) := by decide +kernel
theorem dX12_count_81 : decode cX12_count 81 = .ok (.iconst 4, 1) := by decide +kernel
theorem dX12_count_82 : decode cX12_count 82 = .ok (.iaload, 1) := by decide +kernel
theorem dX12_count_83 : decode cX12_count 83 = .ok (.ireturn, 1) := by decide +kernel
theorem dX12_count_84 : decode cX12_count 84 = .ok (.aload_n 0, 1) := by decide +kernel
theorem dX12_count_85 : decode cX12_count 85 = .ok (.getfield 9, 3) := by decide +kernel
theorem dX12_count_88 : decode cX12_count 88 = .ok (.iconst 5, 1) := by decide +kernel
theorem dX12_count_89 : decode cX12_count 89 = .ok (.iaload, 1) := by decide +kernel
theorem dX12_count_90 : decode cX12_count 90 = .ok (.ireturn, 1) := by decide +kernel
theorem dX12_count_91 : decode cX12_count 91 = .ok (.aload_n 0, 1) := by decide +kernel
theorem dX12_count_92 : decode cX12_count 92 = .ok (.getfield 9, 3) := by decide +kernel
theorem dX12_count_95 : decode cX12_count 95 = .ok (.bipush 6, 2) := by decide +kernel
theorem dX12_count_97 : decode cX12_count 97 = .ok (.iaload, 1) := by decide +kernel
theorem dX12_count_98 : decode cX12_count 98 = .ok (.ireturn, 1) := by decide +kernel
theorem dX12_count_99 : decode cX12_count 99 = .ok (.aload_n 0, 1) := by decide +kernel
theorem dX12_count_100 : decode cX12_count 100 = .ok (.getfield 9, 3) := by decide +kernel
theorem dX12_count_103 : decode cX12_count 103 = .ok (.bipush 7, 2) := by decide +kernel
theorem dX12_count_105 : decode cX12_count 105 = .ok (.iaload, 1) := by decide +kernel
theorem dX12_count_106 : decode cX12_count 106 = .ok (.ireturn, 1) := by decide +kernel
theorem dX12_count_107 : decode cX12_count 107 = .ok (.aload_n 0, 1) := by decide +kernel
theorem dX12_count_108 : decode cX12_count 108 = .ok (.getfield 269, 3) := by decide +kernel
theorem dX12_count_111 : decode cX12_count 111 = .ok (.ireturn, 1) := by decide +kernel
theorem dX12_count_112 : decode cX12_count 112 = .ok (.aload_n 0, 1) := by decide +kernel
theorem dX12_count_113 : decode cX12_count 113 = .ok (.getfield 189, 3) := by decide +kernel
theorem dX12_count_116 : decode cX12_count 116 = .ok (.ireturn, 1) := by decide +kernel
theorem dX12_count_117 : decode cX12_count 117 = .ok (.aload_n 0, 1) := by decide +kernel
theorem dX12_count_118 : decode cX12_count 118 = .ok (.getfield 9, 3) := by decide +kernel
theorem dX12_count_121 : decode cX12_count 121 = .ok (.iconst 0, 1) := by decide +kernel
theorem dX12_count_122 : decode cX12_count 122 = .ok (.iaload, 1) := by decide +kernel
theorem dX12_count_123 : decode cX12_count 123 = .ok (.ireturn, 1) := by decide +kernel
theorem dX12_count_124 : decode cX12_count 124 = .ok (.ldc 78, 2) := by decide +kernel
theorem dX12_count_126 : decode cX12_count 126 = .ok (.ireturn, 1) := by decide +kernel
theorem dJ6_bitCount_0f7a4_0 : decode cJ6_bitCount_0f7a4 0 = .ok (.iload_n 0, 1) := by decide +kernel
theorem dJ6_bitCount_0f7a4_1 : decode cJ6_bitCount_0f7a4 1 = .ok (.iload_n 0, 1) := by decide +kernel
theorem dJ6_bitCount_0f7a4_2 : decode cJ6_bitCount_0f7a4 2 = .ok (.iconst 1, 1) := by decide +kernel
theorem dJ6_bitCount_0f7a4_3 : decode cJ6_bitCount_0f7a4 3 = .ok (.iushr, 1) := by decide +kernel
theorem dJ6_bitCount_0f7a4_4 : decode cJ6_bitCount_0f7a4 4 = .ok (.ldc_w 265, 3) := by decide +kernel
theorem dJ6_bitCount_0f7a4_7 : decode cJ6_bitCount_0f7a4 7 = .ok (.iand, 1) := by decide +kernel
theorem dJ6_bitCount_0f7a4_8 : decode cJ6_bitCount_0f7a4 8 = .ok (.isub, 1) := by decide +kernel
theorem dJ6_bitCount_0f7a4_9 : decode cJ6_bitCount_0f7a4 9 = .ok (.istore_n 0, 1) := by decide +kernel
theorem dJ6_bitCount_0f7a4_10 : decode cJ6_bitCount_0f7a4 10 = .ok (.iload_n 0, 1) := by decide +kernel
theorem dJ6_bitCount_0f7a4_11 : decode cJ6_bitCount_0f7a4 11 = .ok (.ldc_w 266, 3) := by decide +kernel
theorem dJ6_bitCount_0f7a4_14 : decode cJ6_bitCount_0f7a4 14 = .ok (.iand, 1) := by decide +kernel
theorem dJ6_bitCount_0f7a4_15 : decode cJ6_bitCount_0f7a4 15 = .ok (.iload_n 0, 1) := by decide +kernel
theorem dJ6_bitCount_0f7a4_16 : decode cJ6_bitCount_0f7a4 16 = .ok (.iconst 2, 1) := by decide +kernel
theorem dJ6_bitCount_0f7a4_17 : decode cJ6_bitCount_0f7a4 17 = .ok (.iushr, 1) := by decide +kernel
theorem dJ6_bitCount_0f7a4_18 : decode cJ6_bitCount_0f7a4 18 = .ok (.ldc_w 266, 3) := by decide +kernel
theorem dJ6_bitCount_0f7a4_21 : decode cJ6_bitCount_0f7a4 21 = .ok (.iand, 1) := by decide +kernel
theorem dJ6_bitCount_0f7a4_22 : decode cJ6_bitCount_0f7a4 22 = .ok (.iadd, 1) := by decide +kernel
theorem dJ6_bitCount_0f7a4_23 : decode cJ6_bitCount_0f7a4 23 = .ok (.istore_n 0, 1) := by decide +kernel
theorem dJ6_bitCount_0f7a4_24 : decode cJ6_bitCount_0f7a4 24 = .ok (.iload_n 0, 1) := by decide +kernel
theorem dJ6_bitCount_0f7a4_25 : decode cJ6_bitCount_0f7a4 25 = .ok (.iload_n 0, 1) := by decide +kernel
theorem dJ6_bitCount_0f7a4_26 : decode cJ6_bitCount_0f7a4 26 = .ok (.iconst 4, 1) := by decide +kernel
theorem dJ6_bitCount_0f7a4_27 : decode cJ6_bitCount_0f7a4 27 = .ok (.iushr, 1) := by decide +kernel
theorem dJ6_bitCount_0f7a4_28 : decode cJ6_bitCount_0f7a4 28 = .ok (.iadd, 1) := by decide +kernel
theorem dJ6_bitCount_0f7a4_29 : decode cJ6_bitCount_0f7a4 29 = .ok (.ldc_w 267, 3) := by decide +kernel
theorem dJ6_bitCount_0f7a4_32 : decode cJ6_bitCount_0f7a4 32 = .ok (.iand, 1) := by decide +kernel
theorem dJ6_bitCount_0f7a4_33 : decode cJ6_bitCount_0f7a4 33 = .ok (.istore_n 0, 1) := by decide +kernel
theorem dJ6_bitCount_0f7a4_34 : decode cJ6_bitCount_0f7a4 34 = .ok (.iload_n 0, 1) := by decide +kernel
theorem dJ6_bitCount_0f7a4_35 : decode cJ6_bitCount_0f7a4 35 = .ok (.iload_n 0, 1) := by decide +kernel
theorem dJ6_bitCount_0f7a4_36 : decode cJ6_bitCount_0f7a4 36 = .ok (.bipush 8, 2) := by decide +kernel
theorem dJ6_bitCount_0f7a4_38 : decode cJ6_bitCount_0f7a4 38 = .ok (.iushr, 1) := by decide +kernel
theorem dJ6_bitCount_0f7a4_39 : decode cJ6_bitCount_0f7a4 39 = .ok (.iadd, 1) := by decide +kernel
theorem dJ6_bitCount_0f7a4_40 : decode cJ6_bitCount_0f7a4 40 = .ok (.istore_n 0, 1) := by decide +kernel
theorem dJ6_bitCount_0f7a4_41 : decode cJ6_bitCount_0f7a4 41 = .ok (.iload_n 0, 1) := by decide +kernel
theorem dJ6_bitCount_0f7a4_42 : decode cJ6_bitCount_0f7a4 42 = .ok (.iload_n 0, 1) := by decide +kernel
theorem dJ6_bitCount_0f7a4_43 : decode cJ6_bitCount_0f7a4 43 = .ok (.bipush 16, 2) := by decide +kernel
theorem dJ6_bitCount_0f7a4_45 : decode cJ6_bitCount_0f7a4 45 = .ok (.iushr, 1) := by decide +kernel
theorem dJ6_bitCount_0f7a4_46 : decode cJ6_bitCount_0f7a4 46 = .ok (.iadd, 1) := by decide +kernel
theorem dJ6_bitCount_0f7a4_47 : decode cJ6_bitCount_0f7a4 47 = .ok (.istore_n 0, 1) := by decide +kernel
theorem dJ6_bitCount_0f7a4_48 : decode cJ6_bitCount_0f7a4 48 = .ok (.iload_n 0, 1) := by decide +kernel
theorem dJ6_bitCount_0f7a4_49 : decode cJ6_bitCount_0f7a4 49 = .ok (.bipush 63, 2) := by decide +kernel
theorem dJ6_bitCount_0f7a4_51 : decode cJ6_bitCount_0f7a4 51 = .ok (.iand, 1) := by decide +kernel
theorem dJ6_bitCount_0f7a4_52 : decode cJ6_bitCount_0f7a4 52 = .ok (.ireturn, 1) := by decide +kernel
theorem dJ9_max_7cf53_0 : decode cJ9_max_7cf53 0 = .ok (.iload_n 0, 1) := by decide +kernel
theorem dJ9_max_7cf53_1 : decode cJ9_max_7cf53 1 = .ok (.iload_n 1, 1) := by decide +kernel
theorem dJ9_max_7cf53_2 : decode cJ9_max_7cf53 2 = .ok (.if_icmp .lt 7, 3) := by decide +kernel
theorem dJ9_max_7cf53_5 : decode cJ9_max_7cf53 5 = .ok (.iload_n 0, 1) := by decide +kernel
theorem dJ9_max_7cf53_6 : decode cJ9_max_7cf53 6 = .ok (.goto 4, 3) := by decide +kernel
theorem dJ9_max_7cf53_9 : decode cJ9_max_7cf53 9 = .ok (.iload_n 1, 1) := by decide +kernel
theorem dJ9_max_7cf53_10 : decode cJ9_max_7cf53 10 = .ok (.ireturn, 1) := by decide +kernel
theorem dJ9_min_7cf53_0 : decode cJ9_min_7cf53 0 = .ok (.iload_n 0, 1) := by decide +kernel
theorem dJ9_min_7cf53_1 : decode cJ9_min_7cf53 1 = .ok (.iload_n 1, 1) := by decide +kernel
theorem dJ9_min_7cf53_2 : decode cJ9_min_7cf53 2 = .ok (.if_icmp .gt 7, 3) := by decide +kernel
theorem dJ9_min_7cf53_5 : decode cJ9_min_7cf53 5 = .ok (.iload_n 0, 1) := by decide +kernel
theorem dJ9_min_7cf53_6 : decode cJ9_min_7cf53 6 = .ok (.goto 4, 3) := by decide +kernel
theorem dJ9_min_7cf53_9 : decode cJ9_min_7cf53 9 = .ok (.iload_n 1, 1) := by decide +kernel
theorem dJ9_min_7cf53_10 : decode cJ9_min_7cf53 10 = .ok (.ireturn, 1) := by decide +kernel
theorem dJ0_length_8abf5_0 : decode cJ0_length_8abf5 0 = .ok (.aload_n 0, 1) := by decide +kernel
theorem dJ0_length_8abf5_1 : decode cJ0_length_8abf5 1 = .ok (.getfield 9, 3) := by decide +kernel
theorem dJ0_length_8abf5_4 : decode cJ0_length_8abf5 4 = .ok (.arraylength, 1) := by decide +kernel
theorem dJ0_length_8abf5_5 : decode cJ0_length_8abf5 5 = .ok (.aload_n 0, 1) := by decide +kernel
theorem dJ0_length_8abf5_6 : decode cJ0_length_8abf5 6 = .ok (.invokevirtual 335, 3) := by decide +kernel
theorem dJ0_length_8abf5_9 : decode cJ0_length_8abf5 9 = .ok (.ishr, 1) := by decide +kernel
theorem dJ0_length_8abf5_10 : decode cJ0_length_8abf5 10 = .ok (.ireturn, 1) := by decide +kernel
theorem dJ0_charAt_5068e_0 : decode cJ0_charAt_5068e 0 = .ok (.aload_n 0, 1) := by decide +kernel
theorem dJ0_charAt_5068e_1 : decode cJ0_charAt_5068e 1 = .ok (.invokevirtual 492, 3) := by decide +kernel
theorem dJ0_charAt_5068e_4 : decode cJ0_charAt_5068e 4 = .ok (.ifCond .eq 12, 3) := by decide +kernel
theorem dJ0_charAt_5068e_7 : decode cJ0_charAt_5068e 7 = .ok (.aload_n 0, 1) := by decide +kernel
theorem dJ0_charAt_5068e_8 : decode cJ0_charAt_5068e 8 = .ok (.getfield 9, 3) := by decide +kernel
theorem dJ0_charAt_5068e_11 : decode cJ0_charAt_5068e 11 = .ok (.iload_n 1, 1) := by decide +kernel
theorem dJ0_charAt_5068e_12 : decode cJ0_charAt_5068e 12 = .ok (.invokestatic 495, 3) := by decide +kernel
theorem dJ0_charAt_5068e_15 : decode cJ0_charAt_5068e 15 = .ok (.ireturn, 1) := by decide +kernel
theorem dJ0_charAt_5068e_16 : decode cJ0_charAt_5068e 16 = .ok (.aload_n 0, 1) := by decide +kernel
theorem dJ0_charAt_5068e_17 : decode cJ0_charAt_5068e 17 = .ok (.getfield 9, 3) := by decide +kernel
theorem dJ0_charAt_5068e_20 : decode cJ0_charAt_5068e 20 = .ok (.iload_n 1, 1) := by decide +kernel
theorem dJ0_charAt_5068e_21 : decode cJ0_charAt_5068e 21 = .ok (.invokestatic 498, 3) := by decide +kernel
theorem dJ0_charAt_5068e_24 : decode cJ0_charAt_5068e 24 = .ok (.ireturn, 1) := by decide +kernel
theorem dJ0_indexOf_0f7a4_0 : decode cJ0_indexOf_0f7a4 0 = .ok (.aload_n 0, 1) := by decide +kernel
theorem dJ0_indexOf_0f7a4_1 : decode cJ0_indexOf_0f7a4 1 = .ok (.iload_n 1, 1) := by decide +kernel
theorem dJ0_indexOf_0f7a4_2 : decode cJ0_indexOf_0f7a4 2 = .ok (.iconst 0, 1) := by decide +kernel
theorem dJ0_indexOf_0f7a4_3 : decode cJ0_indexOf_0f7a4 3 = .ok (.invokevirtual 633, 3) := by decide +kernel
theorem dJ0_indexOf_0f7a4_6 : decode cJ0_indexOf_0f7a4 6 = .ok (.ireturn, 1) := by decide +kernel
theorem dJ0_indexOf_7cf53_0 : decode cJ0_indexOf_7cf53 0 = .ok (.aload_n 0, 1) := by decide +kernel
theorem dJ0_indexOf_7cf53_1 : decode cJ0_indexOf_7cf53 1 = .ok (.invokevirtual 492, 3) := by decide +kernel
theorem dJ0_indexOf_7cf53_4 : decode cJ0_indexOf_7cf53 4 = .ok (.ifCond .eq 19, 3) := by decide +kernel
theorem dJ0_indexOf_7cf53_7 : decode cJ0_indexOf_7cf53 7 = .ok (.aload_n 0, 1) := by decide +kernel
theorem dJ0_indexOf_7cf53_8 : decode cJ0_indexOf_7cf53 8 = .ok (.getfield 9, 3) := by decide +kernel
theorem dJ0_indexOf_7cf53_11 : decode cJ0_indexOf_7cf53 11 = .ok (.iload_n 1, 1) := by decide +kernel
theorem dJ0_indexOf_7cf53_12 : decode cJ0_indexOf_7cf53 12 = .ok (.iload_n 2, 1) := by decide +kernel
theorem dJ0_indexOf_7cf53_13 : decode cJ0_indexOf_7cf53 13 = .ok (.aload_n 0, 1) := by decide +kernel
theorem dJ0_indexOf_7cf53_14 : decode cJ0_indexOf_7cf53 14 = .ok (.invokevirtual 505, 3) := by decide +kernel
theorem dJ0_indexOf_7cf53_17 : decode cJ0_indexOf_7cf53 17 = .ok (.invokestatic 637, 3) := by decide +kernel
theorem dJ0_indexOf_7cf53_20 : decode cJ0_indexOf_7cf53 20 = .ok (.goto 16, 3) := by decide +kernel
theorem dJ0_indexOf_7cf53_23 : decode cJ0_indexOf_7cf53 23 = .ok (.aload_n 0, 1) := by decide +kernel
theorem dJ0_indexOf_7cf53_24 : decode cJ0_indexOf_7cf53 24 = .ok (.getfield 9, 3) := by decide +kernel
theorem dJ0_indexOf_7cf53_27 : decode cJ0_indexOf_7cf53 27 = .ok (.iload_n 1, 1) := by decide +kernel
theorem dJ0_indexOf_7cf53_28 : decode cJ0_indexOf_7cf53 28 = .ok (.iload_n 2, 1) := by decide +kernel
theorem dJ0_indexOf_7cf53_29 : decode cJ0_indexOf_7cf53 29 = .ok (.aload_n 0, 1) := by decide +kernel
theorem dJ0_indexOf_7cf53_30 : decode cJ0_indexOf_7cf53 30 = .ok (.invokevirtual 505, 3) := by decide +kernel
theorem dJ0_indexOf_7cf53_33 : decode cJ0_indexOf_7cf53 33 = .ok (.invokestatic 640, 3) := by decide +kernel
theorem dJ0_indexOf_7cf53_36 : decode cJ0_indexOf_7cf53 36 = .ok (.ireturn, 1) := by decide +kernel
theorem dJ0_coder_7d493_0 : decode cJ0_coder_7d493 0 = .ok (.getstatic 38, 3) := by decide +kernel
theorem dJ0_coder_7d493_3 : decode cJ0_coder_7d493 3 = .ok (.ifCond .eq 10, 3) := by decide +kernel
theorem dJ0_coder_7d493_6 : decode cJ0_coder_7d493 6 = .ok (.aload_n 0, 1) := by decide +kernel
theorem dJ0_coder_7d493_7 : decode cJ0_coder_7d493 7 = .ok (.getfield 15, 3) := by decide +kernel
theorem dJ0_coder_7d493_10 : decode cJ0_coder_7d493 10 = .ok (.goto 4, 3) := by decide +kernel
theorem dJ0_coder_7d493_13 : decode cJ0_coder_7d493 13 = .ok (.iconst 1, 1) := by decide +kernel
theorem dJ0_coder_7d493_14 : decode cJ0_coder_7d493 14 = .ok (.ireturn, 1) := by decide +kernel
theorem dJ0_isLatin1_aae02_0 : decode cJ0_isLatin1_aae02 0 = .ok (.getstatic 38, 3) := by decide +kernel
theorem dJ0_isLatin1_aae02_3 : decode cJ0_isLatin1_aae02 3 = .ok (.ifCond .eq 14, 3) := by decide +kernel
theorem dJ0_isLatin1_aae02_6 : decode cJ0_isLatin1_aae02 6 = .ok (.aload_n 0, 1) := by decide +kernel
theorem dJ0_isLatin1_aae02_7 : decode cJ0_isLatin1_aae02 7 = .ok (.getfield 15, 3) := by decide +kernel
theorem dJ0_isLatin1_aae02_10 : decode cJ0_isLatin1_aae02 10 = .ok (.ifCond .ne 7, 3) := by decide +kernel
theorem dJ0_isLatin1_aae02_13 : decode cJ0_isLatin1_aae02 13 = .ok (.iconst 1, 1) := by decide +kernel
theorem dJ0_isLatin1_aae02_14 : decode cJ0_isLatin1_aae02 14 = .ok (.goto 4, 3) := by decide +kernel
theorem dJ0_isLatin1_aae02_17 : decode cJ0_isLatin1_aae02 17 = .ok (.iconst 0, 1) := by decide +kernel
theorem dJ0_isLatin1_aae02_18 : decode cJ0_isLatin1_aae02 18 = .ok (.ireturn, 1) := by decide +kernel
theorem dJ0_checkIndex_df160_0 : decode cJ0_checkIndex_df160 0 = .ok (.iload_n 0, 1) := by decide +kernel
theorem dJ0_checkIndex_df160_1 : decode cJ0_checkIndex_df160 1 = .ok (.iload_n 1, 1) := by decide +kernel
theorem dJ0_checkIndex_df160_2 : decode cJ0_checkIndex_df160 2 = .ok (.getstatic 1053, 3) := by decide +kernel
theorem dJ0_checkIndex_df160_5 : decode cJ0_checkIndex_df160 5 = .ok (.invokestatic 1059, 3) := by decide +kernel
theorem dJ0_checkIndex_df160_8 : decode cJ0_checkIndex_df160 8 = .ok (.pop, 1) := by decide +kernel
theorem dJ0_checkIndex_df160_9 : decode cJ0_checkIndex_df160 9 = .ok (.return_, 1) := by decide +kernel
theorem dJ1_charAt_3b067_0 : decode cJ1_charAt_3b067 0 = .ok (.iload_n 1, 1) := by decide +kernel
theorem dJ1_charAt_3b067_1 : decode cJ1_charAt_3b067 1 = .ok (.aload_n 0, 1) := by decide +kernel
theorem dJ1_charAt_3b067_2 : decode cJ1_charAt_3b067 2 = .ok (.arraylength, 1) := by decide +kernel
theorem dJ1_charAt_3b067_3 : decode cJ1_charAt_3b067 3 = .ok (.invokestatic 9, 3) := by decide +kernel
theorem dJ1_charAt_3b067_6 : decode cJ1_charAt_3b067 6 = .ok (.aload_n 0, 1) := by decide +kernel
theorem dJ1_charAt_3b067_7 : decode cJ1_charAt_3b067 7 = .ok (.iload_n 1, 1) := by decide +kernel
theorem dJ1_charAt_3b067_8 : decode cJ1_charAt_3b067 8 = .ok (.baload, 1) := by decide +kernel
theorem dJ1_charAt_3b067_9 : decode cJ1_charAt_3b067 9 = .ok (.sipush 255, 3) := by decide +kernel
theorem dJ1_charAt_3b067_12 : decode cJ1_charAt_3b067 12 = .ok (.iand, 1) := by decide +kernel
theorem dJ1_charAt_3b067_13 : decode cJ1_charAt_3b067 13 = .ok (.i2c, 1) := by decide +kernel
theorem dJ1_charAt_3b067_14 : decode cJ1_charAt_3b067 14 = .ok (.ireturn, 1) := by decide +kernel
theorem dJ1_canEncode_9a6ad_0 : decode cJ1_canEncode_9a6ad 0 = .ok (.iload_n 0, 1) := by decide +kernel
theorem dJ1_canEncode_9a6ad_1 : decode cJ1_canEncode_9a6ad 1 = .ok (.ifCond .lt 14, 3) := by decide +kernel
theorem dJ1_canEncode_9a6ad_4 : decode cJ1_canEncode_9a6ad 4 = .ok (.iload_n 0, 1) := by decide +kernel
theorem dJ1_canEncode_9a6ad_5 : decode cJ1_canEncode_9a6ad 5 = .ok (.sipush 255, 3) := by decide +kernel
theorem dJ1_canEncode_9a6ad_8 : decode cJ1_canEncode_9a6ad 8 = .ok (.if_icmp .gt 7, 3) := by decide +kernel
theorem dJ1_canEncode_9a6ad_11 : decode cJ1_canEncode_9a6ad 11 = .ok (.iconst 1, 1) := by decide +kernel
theorem dJ1_canEncode_9a6ad_12 : decode cJ1_canEncode_9a6ad 12 = .ok (.goto 4, 3) := by decide +kernel
theorem dJ1_canEncode_9a6ad_15 : decode cJ1_canEncode_9a6ad 15 = .ok (.iconst 0, 1) := by decide +kernel
theorem dJ1_canEncode_9a6ad_16 : decode cJ1_canEncode_9a6ad 16 = .ok (.ireturn, 1) := by decide +kernel
theorem dJ1_indexOf_4cfef_0 : decode cJ1_indexOf_4cfef 0 = .ok (.iload_n 1, 1) := by decide +kernel
theorem dJ1_indexOf_4cfef_1 : decode cJ1_indexOf_4cfef 1 = .ok (.invokestatic 88, 3) := by decide +kernel
theorem dJ1_indexOf_4cfef_4 : decode cJ1_indexOf_4cfef 4 = .ok (.ifCond .ne 5, 3) := by decide +kernel
theorem dJ1_indexOf_4cfef_7 : decode cJ1_indexOf_4cfef 7 = .ok (.iconst (-1), 1) := by decide +kernel
theorem dJ1_indexOf_4cfef_8 : decode cJ1_indexOf_4cfef 8 = .ok (.ireturn, 1) := by decide +kernel
theorem dJ1_indexOf_4cfef_9 : decode cJ1_indexOf_4cfef 9 = .ok (.iload_n 2, 1) := by decide +kernel
theorem dJ1_indexOf_4cfef_10 : decode cJ1_indexOf_4cfef 10 = .ok (.iconst 0, 1) := by decide +kernel
theorem dJ1_indexOf_4cfef_11 : decode cJ1_indexOf_4cfef 11 = .ok (.invokestatic 92, 3) := by decide +kernel
theorem dJ1_indexOf_4cfef_14 : decode cJ1_indexOf_4cfef 14 = .ok (.istore_n 2, 1) := by decide +kernel
theorem dJ1_indexOf_4cfef_15 : decode cJ1_indexOf_4cfef 15 = .ok (.iload_n 3, 1) := by decide +kernel
theorem dJ1_indexOf_4cfef_16 : decode cJ1_indexOf_4cfef 16 = .ok (.aload_n 0, 1) := by decide +kernel
theorem dJ1_indexOf_4cfef_17 : decode cJ1_indexOf_4cfef 17 = .ok (.arraylength, 1) := by decide +kernel
theorem dJ1_indexOf_4cfef_18 : decode cJ1_indexOf_4cfef 18 = .ok (.invokestatic 38, 3) := by decide +kernel
theorem dJ1_indexOf_4cfef_21 : decode cJ1_indexOf_4cfef 21 = .ok (.istore_n 3, 1) := by decide +kernel
theorem dJ1_indexOf_4cfef_22 : decode cJ1_indexOf_4cfef 22 = .ok (.iload_n 2, 1) := by decide +kernel
theorem dJ1_indexOf_4cfef_23 : decode cJ1_indexOf_4cfef 23 = .ok (.iload_n 3, 1) := by decide +kernel
theorem dJ1_indexOf_4cfef_24 : decode cJ1_indexOf_4cfef 24 = .ok (.if_icmp .lt 5, 3) := by decide +kernel
theorem dJ1_indexOf_4cfef_27 : decode cJ1_indexOf_4cfef 27 = .ok (.iconst (-1), 1) := by decide +kernel
theorem dJ1_indexOf_4cfef_28 : decode cJ1_indexOf_4cfef 28 = .ok (.ireturn, 1) := by decide +kernel
theorem dJ1_indexOf_4cfef_29 : decode cJ1_indexOf_4cfef 29 = .ok (.aload_n 0, 1) := by decide +kernel
theorem dJ1_indexOf_4cfef_30 : decode cJ1_indexOf_4cfef 30 = .ok (.iload_n 1, 1) := by decide +kernel
theorem dJ1_indexOf_4cfef_31 : decode cJ1_indexOf_4cfef 31 = .ok (.iload_n 2, 1) := by decide +kernel
theorem dJ1_indexOf_4cfef_32 : decode cJ1_indexOf_4cfef 32 = .ok (.iload_n 3, 1) := by decide +kernel
theorem dJ1_indexOf_4cfef_33 : decode cJ1_indexOf_4cfef 33 = .ok (.invokestatic 95, 3) := by decide +kernel
theorem dJ1_indexOf_4cfef_36 : decode cJ1_indexOf_4cfef 36 = .ok (.ireturn, 1) := by decide +kernel
theorem dJ1_indexOfChar_4cfef_0 : decode cJ1_indexOfChar_4cfef 0 = .ok (.iload_n 1, 1) := by decide +kernel
theorem dJ1_indexOfChar_4cfef_1 : decode cJ1_indexOfChar_4cfef 1 = .ok (.i2b, 1) := by decide +kernel
theorem dJ1_indexOfChar_4cfef_2 : decode cJ1_indexOfChar_4cfef 2 = .ok (.istore 4, 2) := by decide +kernel
theorem dJ1_indexOfChar_4cfef_4 : decode cJ1_indexOfChar_4cfef 4 = .ok (.iload_n 2, 1) := by decide +kernel
theorem dJ1_indexOfChar_4cfef_5 : decode cJ1_indexOfChar_4cfef 5 = .ok (.istore 5, 2) := by decide +kernel
theorem dJ1_indexOfChar_4cfef_7 : decode cJ1_indexOfChar_4cfef 7 = .ok (.iload 5, 2) := by decide +kernel
theorem dJ1_indexOfChar_4cfef_9 : decode cJ1_indexOfChar_4cfef 9 = .ok (.iload_n 3, 1) := by decide +kernel
theorem dJ1_indexOfChar_4cfef_10 : decode cJ1_indexOfChar_4cfef 10 = .ok (.if_icmp .ge 21, 3) := by decide +kernel
theorem dJ1_indexOfChar_4cfef_13 : decode cJ1_indexOfChar_4cfef 13 = .ok (.aload_n 0, 1) := by decide +kernel
theorem dJ1_indexOfChar_4cfef_14 : decode cJ1_indexOfChar_4cfef 14 = .ok (.iload 5, 2) := by decide +kernel
theorem dJ1_indexOfChar_4cfef_16 : decode cJ1_indexOfChar_4cfef 16 = .ok (.baload, 1) := by decide +kernel
theorem dJ1_indexOfChar_4cfef_17 : decode cJ1_indexOfChar_4cfef 17 = .ok (.iload 4, 2) := by decide +kernel
theorem dJ1_indexOfChar_4cfef_19 : decode cJ1_indexOfChar_4cfef 19 = .ok (.if_icmp .ne 6, 3) := by decide +kernel
theorem dJ1_indexOfChar_4cfef_22 : decode cJ1_indexOfChar_4cfef 22 = .ok (.iload 5, 2) := by decide +kernel
theorem dJ1_indexOfChar_4cfef_24 : decode cJ1_indexOfChar_4cfef 24 = .ok (.ireturn, 1) := by decide +kernel
theorem dJ1_indexOfChar_4cfef_25 : decode cJ1_indexOfChar_4cfef 25 = .ok (.iinc 5 1, 3) := by decide +kernel
theorem dJ1_indexOfChar_4cfef_28 : decode cJ1_indexOfChar_4cfef 28 = .ok (.goto (-21), 3) := by decide +kernel
theorem dJ1_indexOfChar_4cfef_31 : decode cJ1_indexOfChar_4cfef 31 = .ok (.iconst (-1), 1) := by decide +kernel
theorem dJ1_indexOfChar_4cfef_32 : decode cJ1_indexOfChar_4cfef 32 = .ok (.ireturn, 1) := by decide +kernel
theorem dJ7_fill_53178_0 : decode cJ7_fill_53178 0 = .ok (.iconst 0, 1) := by decide +kernel
theorem dJ7_fill_53178_1 : decode cJ7_fill_53178 1 = .ok (.istore_n 2, 1) := by decide +kernel
theorem dJ7_fill_53178_2 : decode cJ7_fill_53178 2 = .ok (.aload_n 0, 1) := by decide +kernel
theorem dJ7_fill_53178_3 : decode cJ7_fill_53178 3 = .ok (.arraylength, 1) := by decide +kernel
theorem dJ7_fill_53178_4 : decode cJ7_fill_53178 4 = .ok (.istore_n 3, 1) := by decide +kernel
theorem dJ7_fill_53178_5 : decode cJ7_fill_53178 5 = .ok (.iload_n 2, 1) := by decide +kernel
theorem dJ7_fill_53178_6 : decode cJ7_fill_53178 6 = .ok (.iload_n 3, 1) := by decide +kernel
theorem dJ7_fill_53178_7 : decode cJ7_fill_53178 7 = .ok (.if_icmp .ge 13, 3) := by decide +kernel
theorem dJ7_fill_53178_10 : decode cJ7_fill_53178 10 = .ok (.aload_n 0, 1) := by decide +kernel
theorem dJ7_fill_53178_11 : decode cJ7_fill_53178 11 = .ok (.iload_n 2, 1) := by decide +kernel
theorem dJ7_fill_53178_12 : decode cJ7_fill_53178 12 = .ok (.iload_n 1, 1) := by decide +kernel
theorem dJ7_fill_53178_13 : decode cJ7_fill_53178 13 = .ok (.iastore, 1) := by decide +kernel
theorem dJ7_fill_53178_14 : decode cJ7_fill_53178 14 = .ok (.iinc 2 1, 3) := by decide +kernel
theorem dJ7_fill_53178_17 : decode cJ7_fill_53178 17 = .ok (.goto (-12), 3) := by decide +kernel
theorem dJ7_fill_53178_20 : decode cJ7_fill_53178 20 = .ok (.return_, 1) := by decide +kernel
theorem dJ7_copyOf_59c91_0 : decode cJ7_copyOf_59c91 0 = .ok (.iload_n 1, 1) := by decide +kernel
theorem dJ7_copyOf_59c91_1 : decode cJ7_copyOf_59c91 1 = .ok (.aload_n 0, 1) := by decide +kernel
theorem dJ7_copyOf_59c91_2 : decode cJ7_copyOf_59c91 2 = .ok (.arraylength, 1) := by decide +kernel
theorem dJ7_copyOf_59c91_3 : decode cJ7_copyOf_59c91 3 = .ok (.if_icmp .ne 11, 3) := by decide +kernel
theorem dJ7_copyOf_59c91_6 : decode cJ7_copyOf_59c91 6 = .ok (.aload_n 0, 1) := by decide +kernel
theorem dJ7_copyOf_59c91_7 : decode cJ7_copyOf_59c91 7 = .ok (.invokevirtual 316, 3) := by decide +kernel
theorem dJ7_copyOf_59c91_10 : decode cJ7_copyOf_59c91 10 = .ok (.checkcast 317, 3) := by decide +kernel
theorem dJ7_copyOf_59c91_13 : decode cJ7_copyOf_59c91 13 = .ok (.areturn, 1) := by decide +kernel
theorem dJ7_copyOf_59c91_14 : decode cJ7_copyOf_59c91 14 = .ok (.iload_n 1, 1) := by decide +kernel
theorem dJ7_copyOf_59c91_15 : decode cJ7_copyOf_59c91 15 = .ok (.newarray .int, 2) := by decide +kernel
theorem dJ7_copyOf_59c91_17 : decode cJ7_copyOf_59c91 17 = .ok (.astore_n 2, 1) := by decide +kernel
theorem dJ7_copyOf_59c91_18 : decode cJ7_copyOf_59c91 18 = .ok (.aload_n 0, 1) := by decide +kernel
theorem dJ7_copyOf_59c91_19 : decode cJ7_copyOf_59c91 19 = .ok (.iconst 0, 1) := by decide +kernel
theorem dJ7_copyOf_59c91_20 : decode cJ7_copyOf_59c91 20 = .ok (.aload_n 2, 1) := by decide +kernel
theorem dJ7_copyOf_59c91_21 : decode cJ7_copyOf_59c91 21 = .ok (.iconst 0, 1) := by decide +kernel
theorem dJ7_copyOf_59c91_22 : decode cJ7_copyOf_59c91 22 = .ok (.aload_n 0, 1) := by decide +kernel
theorem dJ7_copyOf_59c91_23 : decode cJ7_copyOf_59c91 23 = .ok (.arraylength, 1) := by decide +kernel
theorem dJ7_copyOf_59c91_24 : decode cJ7_copyOf_59c91 24 = .ok (.iload_n 1, 1) := by decide +kernel
theorem dJ7_copyOf_59c91_25 : decode cJ7_copyOf_59c91 25 = .ok (.invokestatic 304, 3) := by decide +kernel
theorem dJ7_copyOf_59c91_28 : decode cJ7_copyOf_59c91 28 = .ok (.invokestatic 150, 3) := by decide +kernel
theorem dJ7_copyOf_59c91_31 : decode cJ7_copyOf_59c91 31 = .ok (.aload_n 2, 1) := by decide +kernel
theorem dJ7_copyOf_59c91_32 : decode cJ7_copyOf_59c91 32 = .ok (.areturn, 1) := by decide +kernel
theorem dJ3_checkIndex_8e157_0 : decode cJ3_checkIndex_8e157 0 = .ok (.iload_n 0, 1) := by decide +kernel
theorem dJ3_checkIndex_8e157_1 : decode cJ3_checkIndex_8e157 1 = .ok (.ifCond .lt 8, 3) := by decide +kernel
theorem dJ3_checkIndex_8e157_4 : decode cJ3_checkIndex_8e157 4 = .ok (.iload_n 0, 1) := by decide +kernel
theorem dJ3_checkIndex_8e157_5 : decode cJ3_checkIndex_8e157 5 = .ok (.iload_n 1, 1) := by decide +kernel
theorem dJ3_checkIndex_8e157_6 : decode cJ3_checkIndex_8e157 6 = .ok (.if_icmp .lt 10, 3) := by decide +kernel
theorem dJ3_checkIndex_8e157_9 : decode cJ3_checkIndex_8e157 9 = .ok (.aload_n 2, 1) := by decide +kernel
theorem dJ3_checkIndex_8e157_10 : decode cJ3_checkIndex_8e157 10 = .ok (.iload_n 0, 1) := by decide +kernel
theorem dJ3_checkIndex_8e157_11 : decode cJ3_checkIndex_8e157 11 = .ok (.iload_n 1, 1) := by decide +kernel
theorem dJ3_checkIndex_8e157_12 : decode cJ3_checkIndex_8e157 12 = .ok (.invokestatic 95, 3) := by decide +kernel
theorem dJ3_checkIndex_8e157_15 : decode cJ3_checkIndex_8e157 15 = .ok (.athrow, 1) := by decide +kernel
theorem dJ3_checkIndex_8e157_16 : decode cJ3_checkIndex_8e157 16 = .ok (.iload_n 0, 1) := by decide +kernel
theorem dJ3_checkIndex_8e157_17 : decode cJ3_checkIndex_8e157 17 = .ok (.ireturn, 1) := by decide +kernel
theorem dL_law_0 : decode cL_law 0 = .ok (.new 7, 3) := by decide +kernel
theorem dL_law_3 : decode cL_law 3 = .ok (.dup, 1) := by decide +kernel
theorem dL_law_4 : decode cL_law 4 = .ok (.invokespecial 9, 3) := by decide +kernel
theorem dL_law_7 : decode cL_law 7 = .ok (.astore_n 1, 1) := by decide +kernel
theorem dL_law_8 : decode cL_law 8 = .ok (.new 10, 3) := by decide +kernel
theorem dL_law_11 : decode cL_law 11 = .ok (.dup, 1) := by decide +kernel
theorem dL_law_12 : decode cL_law 12 = .ok (.invokespecial 12, 3) := by decide +kernel
theorem dL_law_15 : decode cL_law 15 = .ok (.astore_n 2, 1) := by decide +kernel
theorem dL_law_16 : decode cL_law 16 = .ok (.iconst 0, 1) := by decide +kernel
theorem dL_law_17 : decode cL_law 17 = .ok (.istore_n 3, 1) := by decide +kernel
theorem dL_law_18 : decode cL_law 18 = .ok (.iload_n 3, 1) := by decide +kernel
theorem dL_law_19 : decode cL_law 19 = .ok (.aload_n 0, 1) := by decide +kernel
theorem dL_law_20 : decode cL_law 20 = .ok (.arraylength, 1) := by decide +kernel
theorem dL_law_21 : decode cL_law 21 = .ok (.bipush 6, 2) := by decide +kernel
theorem dL_law_23 : decode cL_law 23 = .ok (.isub, 1) := by decide +kernel
theorem dL_law_24 : decode cL_law 24 = .ok (.if_icmp .gt 1535, 3) := by decide +kernel
theorem dL_law_27 : decode cL_law 27 = .ok (.aload_n 0, 1) := by decide +kernel
theorem dL_law_28 : decode cL_law 28 = .ok (.iload_n 3, 1) := by decide +kernel
theorem dL_law_29 : decode cL_law 29 = .ok (.iaload, 1) := by decide +kernel
theorem dL_law_30 : decode cL_law 30 = .ok (.bipush 63, 2) := by decide +kernel
theorem dL_law_32 : decode cL_law 32 = .ok (.iand, 1) := by decide +kernel
theorem dL_law_33 : decode cL_law 33 = .ok (.tableswitch 1520 0 44 #[195, 228, 261, 304, 347, 370, 393, 426, 459, 502, 545, 578, 611, 644, 677, 720, 753, 776, 799, 822, 845, 858, 881, 904, 927, 940, 953, 996, 1019, 1032, 1065, 1088, 1131, 1174, 1197, 1220, 1283, 1326, 1359, 1392, 1425, 1448, 1471, 1484, 1497], 195) := by decide +kernel
theorem dL_law_228 : decode cL_law 228 = .ok (.aload_n 1, 1) := by decide +kernel
theorem dL_law_229 : decode cL_law 229 = .ok (.aload_n 0, 1) := by decide +kernel
theorem dL_law_230 : decode cL_law 230 = .ok (.iload_n 3, 1) := by decide +kernel
theorem dL_law_231 : decode cL_law 231 = .ok (.iconst 1, 1) := by decide +kernel
theorem dL_law_232 : decode cL_law 232 = .ok (.iadd, 1) := by decide +kernel
theorem dL_law_233 : decode cL_law 233 = .ok (.iaload, 1) := by decide +kernel
theorem dL_law_234 : decode cL_law 234 = .ok (.aload_n 0, 1) := by decide +kernel
theorem dL_law_235 : decode cL_law 235 = .ok (.iload_n 3, 1) := by decide +kernel
theorem dL_law_236 : decode cL_law 236 = .ok (.iconst 2, 1) := by decide +kernel
theorem dL_law_237 : decode cL_law 237 = .ok (.iadd, 1) := by decide +kernel
theorem dL_law_238 : decode cL_law 238 = .ok (.iaload, 1) := by decide +kernel
theorem dL_law_239 : decode cL_law 239 = .ok (.invokevirtual 13, 3) := by decide +kernel
theorem dL_law_242 : decode cL_law 242 = .ok (.aload_n 2, 1) := by decide +kernel
theorem dL_law_243 : decode cL_law 243 = .ok (.aload_n 0, 1) := by decide +kernel
theorem dL_law_244 : decode cL_law 244 = .ok (.iload_n 3, 1) := by decide +kernel
theorem dL_law_245 : decode cL_law 245 = .ok (.iconst 1, 1) := by decide +kernel
theorem dL_law_246 : decode cL_law 246 = .ok (.iadd, 1) := by decide +kernel
theorem dL_law_247 : decode cL_law 247 = .ok (.iaload, 1) := by decide +kernel
theorem dL_law_248 : decode cL_law 248 = .ok (.aload_n 0, 1) := by decide +kernel
theorem dL_law_249 : decode cL_law 249 = .ok (.iload_n 3, 1) := by decide +kernel
theorem dL_law_250 : decode cL_law 250 = .ok (.iconst 2, 1) := by decide +kernel
theorem dL_law_251 : decode cL_law 251 = .ok (.iadd, 1) := by decide +kernel
theorem dL_law_252 : decode cL_law 252 = .ok (.iaload, 1) := by decide +kernel
theorem dL_law_253 : decode cL_law 253 = .ok (.invokevirtual 17, 3) := by decide +kernel
theorem dL_law_256 : decode cL_law 256 = .ok (.if_icmp .eq 1297, 3) := by decide +kernel
theorem dL_law_259 : decode cL_law 259 = .ok (.iconst 0, 1) := by decide +kernel
theorem dL_law_260 : decode cL_law 260 = .ok (.ireturn, 1) := by decide +kernel
theorem dL_law_261 : decode cL_law 261 = .ok (.aload_n 1, 1) := by decide +kernel
theorem dL_law_262 : decode cL_law 262 = .ok (.aload_n 0, 1) := by decide +kernel
theorem dL_law_263 : decode cL_law 263 = .ok (.iload_n 3, 1) := by decide +kernel
theorem dL_law_264 : decode cL_law 264 = .ok (.iconst 1, 1) := by decide +kernel
theorem dL_law_265 : decode cL_law 265 = .ok (.iadd, 1) := by decide +kernel
theorem dL_law_266 : decode cL_law 266 = .ok (.iaload, 1) := by decide +kernel
theorem dL_law_267 : decode cL_law 267 = .ok (.aload_n 0, 1) := by decide +kernel
theorem dL_law_268 : decode cL_law 268 = .ok (.iload_n 3, 1) := by decide +kernel
theorem dL_law_269 : decode cL_law 269 = .ok (.iconst 2, 1) := by decide +kernel
theorem dL_law_270 : decode cL_law 270 = .ok (.iadd, 1) := by decide +kernel
theorem dL_law_271 : decode cL_law 271 = .ok (.iaload, 1) := by decide +kernel
theorem dL_law_272 : decode cL_law 272 = .ok (.invokevirtual 18, 3) := by decide +kernel
theorem dL_law_275 : decode cL_law 275 = .ok (.aload_n 2, 1) := by decide +kernel
theorem dL_law_276 : decode cL_law 276 = .ok (.aload_n 0, 1) := by decide +kernel
theorem dL_law_277 : decode cL_law 277 = .ok (.iload_n 3, 1) := by decide +kernel
theorem dL_law_278 : decode cL_law 278 = .ok (.iconst 1, 1) := by decide +kernel
theorem dL_law_279 : decode cL_law 279 = .ok (.iadd, 1) := by decide +kernel
theorem dL_law_280 : decode cL_law 280 = .ok (.iaload, 1) := by decide +kernel
theorem dL_law_281 : decode cL_law 281 = .ok (.aload_n 0, 1) := by decide +kernel
theorem dL_law_282 : decode cL_law 282 = .ok (.iload_n 3, 1) := by decide +kernel
theorem dL_law_283 : decode cL_law 283 = .ok (.iconst 2, 1) := by decide +kernel
theorem dL_law_284 : decode cL_law 284 = .ok (.iadd, 1) := by decide +kernel
theorem dL_law_285 : decode cL_law 285 = .ok (.iaload, 1) := by decide +kernel
theorem dL_law_286 : decode cL_law 286 = .ok (.invokevirtual 21, 3) := by decide +kernel
theorem dL_law_289 : decode cL_law 289 = .ok (.if_icmp .eq 1264, 3) := by decide +kernel
theorem dL_law_292 : decode cL_law 292 = .ok (.iconst 0, 1) := by decide +kernel
theorem dL_law_293 : decode cL_law 293 = .ok (.ireturn, 1) := by decide +kernel
theorem dL_law_294 : decode cL_law 294 = .ok (.aload_n 1, 1) := by decide +kernel
theorem dL_law_295 : decode cL_law 295 = .ok (.aload_n 0, 1) := by decide +kernel
theorem dL_law_296 : decode cL_law 296 = .ok (.iload_n 3, 1) := by decide +kernel
theorem dL_law_297 : decode cL_law 297 = .ok (.iconst 1, 1) := by decide +kernel
theorem dL_law_298 : decode cL_law 298 = .ok (.iadd, 1) := by decide +kernel
theorem dL_law_299 : decode cL_law 299 = .ok (.iaload, 1) := by decide +kernel
theorem dL_law_300 : decode cL_law 300 = .ok (.aload_n 0, 1) := by decide +kernel
theorem dL_law_301 : decode cL_law 301 = .ok (.iload_n 3, 1) := by decide +kernel
theorem dL_law_302 : decode cL_law 302 = .ok (.iconst 2, 1) := by decide +kernel
theorem dL_law_303 : decode cL_law 303 = .ok (.iadd, 1) := by decide +kernel
theorem dL_law_304 : decode cL_law 304 = .ok (.iaload, 1) := by decide +kernel
theorem dL_law_305 : decode cL_law 305 = .ok (.aload_n 0, 1) := by decide +kernel
theorem dL_law_306 : decode cL_law 306 = .ok (.iload_n 3, 1) := by decide +kernel
theorem dL_law_307 : decode cL_law 307 = .ok (.iconst 3, 1) := by decide +kernel
theorem dL_law_308 : decode cL_law 308 = .ok (.iadd, 1) := by decide +kernel
theorem dL_law_309 : decode cL_law 309 = .ok (.iaload, 1) := by decide +kernel
theorem dL_law_310 : decode cL_law 310 = .ok (.invokevirtual 22, 3) := by decide +kernel
theorem dL_law_313 : decode cL_law 313 = .ok (.aload_n 2, 1) := by decide +kernel
theorem dL_law_314 : decode cL_law 314 = .ok (.aload_n 0, 1) := by decide +kernel
theorem dL_law_315 : decode cL_law 315 = .ok (.iload_n 3, 1) := by decide +kernel
theorem dL_law_316 : decode cL_law 316 = .ok (.iconst 1, 1) := by decide +kernel
theorem dL_law_317 : decode cL_law 317 = .ok (.iadd, 1) := by decide +kernel
theorem dL_law_318 : decode cL_law 318 = .ok (.iaload, 1) := by decide +kernel
theorem dL_law_319 : decode cL_law 319 = .ok (.aload_n 0, 1) := by decide +kernel
theorem dL_law_320 : decode cL_law 320 = .ok (.iload_n 3, 1) := by decide +kernel
theorem dL_law_321 : decode cL_law 321 = .ok (.iconst 2, 1) := by decide +kernel
theorem dL_law_322 : decode cL_law 322 = .ok (.iadd, 1) := by decide +kernel
theorem dL_law_323 : decode cL_law 323 = .ok (.iaload, 1) := by decide +kernel
theorem dL_law_324 : decode cL_law 324 = .ok (.aload_n 0, 1) := by decide +kernel
theorem dL_law_325 : decode cL_law 325 = .ok (.iload_n 3, 1) := by decide +kernel
theorem dL_law_326 : decode cL_law 326 = .ok (.iconst 3, 1) := by decide +kernel
theorem dL_law_327 : decode cL_law 327 = .ok (.iadd, 1) := by decide +kernel
theorem dL_law_328 : decode cL_law 328 = .ok (.iaload, 1) := by decide +kernel
theorem dL_law_329 : decode cL_law 329 = .ok (.invokevirtual 26, 3) := by decide +kernel
theorem dL_law_332 : decode cL_law 332 = .ok (.if_icmp .eq 1221, 3) := by decide +kernel
theorem dL_law_335 : decode cL_law 335 = .ok (.iconst 0, 1) := by decide +kernel
theorem dL_law_336 : decode cL_law 336 = .ok (.ireturn, 1) := by decide +kernel
theorem dL_law_337 : decode cL_law 337 = .ok (.aload_n 1, 1) := by decide +kernel
theorem dL_law_338 : decode cL_law 338 = .ok (.aload_n 0, 1) := by decide +kernel
theorem dL_law_339 : decode cL_law 339 = .ok (.iload_n 3, 1) := by decide +kernel
theorem dL_law_340 : decode cL_law 340 = .ok (.iconst 1, 1) := by decide +kernel
theorem dL_law_341 : decode cL_law 341 = .ok (.iadd, 1) := by decide +kernel
theorem dL_law_342 : decode cL_law 342 = .ok (.iaload, 1) := by decide +kernel
theorem dL_law_343 : decode cL_law 343 = .ok (.aload_n 0, 1) := by decide +kernel
theorem dL_law_344 : decode cL_law 344 = .ok (.iload_n 3, 1) := by decide +kernel
theorem dL_law_345 : decode cL_law 345 = .ok (.iconst 2, 1) := by decide +kernel
theorem dL_law_346 : decode cL_law 346 = .ok (.iadd, 1) := by decide +kernel
theorem dL_law_347 : decode cL_law 347 = .ok (.iaload, 1) := by decide +kernel
theorem dL_law_348 : decode cL_law 348 = .ok (.aload_n 0, 1) := by decide +kernel
theorem dL_law_349 : decode cL_law 349 = .ok (.iload_n 3, 1) := by decide +kernel
theorem dL_law_350 : decode cL_law 350 = .ok (.iconst 3, 1) := by decide +kernel
theorem dL_law_351 : decode cL_law 351 = .ok (.iadd, 1) := by decide +kernel
theorem dL_law_352 : decode cL_law 352 = .ok (.iaload, 1) := by decide +kernel
theorem dL_law_353 : decode cL_law 353 = .ok (.invokevirtual 27, 3) := by decide +kernel
theorem dL_law_356 : decode cL_law 356 = .ok (.aload_n 2, 1) := by decide +kernel
theorem dL_law_357 : decode cL_law 357 = .ok (.aload_n 0, 1) := by decide +kernel
theorem dL_law_358 : decode cL_law 358 = .ok (.iload_n 3, 1) := by decide +kernel
theorem dL_law_359 : decode cL_law 359 = .ok (.iconst 1, 1) := by decide +kernel
theorem dL_law_360 : decode cL_law 360 = .ok (.iadd, 1) := by decide +kernel
theorem dL_law_361 : decode cL_law 361 = .ok (.iaload, 1) := by decide +kernel
theorem dL_law_362 : decode cL_law 362 = .ok (.aload_n 0, 1) := by decide +kernel
theorem dL_law_363 : decode cL_law 363 = .ok (.iload_n 3, 1) := by decide +kernel
theorem dL_law_364 : decode cL_law 364 = .ok (.iconst 2, 1) := by decide +kernel
theorem dL_law_365 : decode cL_law 365 = .ok (.iadd, 1) := by decide +kernel
theorem dL_law_366 : decode cL_law 366 = .ok (.iaload, 1) := by decide +kernel
theorem dL_law_367 : decode cL_law 367 = .ok (.aload_n 0, 1) := by decide +kernel
theorem dL_law_368 : decode cL_law 368 = .ok (.iload_n 3, 1) := by decide +kernel
theorem dL_law_369 : decode cL_law 369 = .ok (.iconst 3, 1) := by decide +kernel
theorem dL_law_370 : decode cL_law 370 = .ok (.iadd, 1) := by decide +kernel
theorem dL_law_371 : decode cL_law 371 = .ok (.iaload, 1) := by decide +kernel
theorem dL_law_372 : decode cL_law 372 = .ok (.invokevirtual 30, 3) := by decide +kernel
theorem dL_law_375 : decode cL_law 375 = .ok (.if_icmp .eq 1178, 3) := by decide +kernel
theorem dL_law_378 : decode cL_law 378 = .ok (.iconst 0, 1) := by decide +kernel
theorem dL_law_379 : decode cL_law 379 = .ok (.ireturn, 1) := by decide +kernel
theorem dL_law_380 : decode cL_law 380 = .ok (.aload_n 1, 1) := by decide +kernel
theorem dL_law_381 : decode cL_law 381 = .ok (.aload_n 0, 1) := by decide +kernel
theorem dL_law_382 : decode cL_law 382 = .ok (.iload_n 3, 1) := by decide +kernel
theorem dL_law_383 : decode cL_law 383 = .ok (.iconst 1, 1) := by decide +kernel
theorem dL_law_384 : decode cL_law 384 = .ok (.iadd, 1) := by decide +kernel
theorem dL_law_385 : decode cL_law 385 = .ok (.iaload, 1) := by decide +kernel
theorem dL_law_386 : decode cL_law 386 = .ok (.invokevirtual 31, 3) := by decide +kernel
theorem dL_law_389 : decode cL_law 389 = .ok (.aload_n 2, 1) := by decide +kernel
theorem dL_law_390 : decode cL_law 390 = .ok (.aload_n 0, 1) := by decide +kernel
theorem dL_law_391 : decode cL_law 391 = .ok (.iload_n 3, 1) := by decide +kernel
theorem dL_law_392 : decode cL_law 392 = .ok (.iconst 1, 1) := by decide +kernel
theorem dL_law_393 : decode cL_law 393 = .ok (.iadd, 1) := by decide +kernel
theorem dL_law_394 : decode cL_law 394 = .ok (.iaload, 1) := by decide +kernel
theorem dL_law_395 : decode cL_law 395 = .ok (.invokevirtual 35, 3) := by decide +kernel
theorem dL_law_398 : decode cL_law 398 = .ok (.if_icmp .eq 1155, 3) := by decide +kernel
theorem dL_law_401 : decode cL_law 401 = .ok (.iconst 0, 1) := by decide +kernel
theorem dL_law_402 : decode cL_law 402 = .ok (.ireturn, 1) := by decide +kernel
theorem dL_law_403 : decode cL_law 403 = .ok (.aload_n 1, 1) := by decide +kernel
theorem dL_law_404 : decode cL_law 404 = .ok (.aload_n 0, 1) := by decide +kernel
theorem dL_law_405 : decode cL_law 405 = .ok (.iload_n 3, 1) := by decide +kernel
theorem dL_law_406 : decode cL_law 406 = .ok (.iconst 1, 1) := by decide +kernel
theorem dL_law_407 : decode cL_law 407 = .ok (.iadd, 1) := by decide +kernel
theorem dL_law_408 : decode cL_law 408 = .ok (.iaload, 1) := by decide +kernel
theorem dL_law_409 : decode cL_law 409 = .ok (.invokevirtual 36, 3) := by decide +kernel
theorem dL_law_412 : decode cL_law 412 = .ok (.aload_n 2, 1) := by decide +kernel
theorem dL_law_413 : decode cL_law 413 = .ok (.aload_n 0, 1) := by decide +kernel
theorem dL_law_414 : decode cL_law 414 = .ok (.iload_n 3, 1) := by decide +kernel
theorem dL_law_415 : decode cL_law 415 = .ok (.iconst 1, 1) := by decide +kernel
theorem dL_law_416 : decode cL_law 416 = .ok (.iadd, 1) := by decide +kernel
theorem dL_law_417 : decode cL_law 417 = .ok (.iaload, 1) := by decide +kernel
theorem dL_law_418 : decode cL_law 418 = .ok (.invokevirtual 39, 3) := by decide +kernel
theorem dL_law_421 : decode cL_law 421 = .ok (.if_icmp .eq 1132, 3) := by decide +kernel
theorem dL_law_424 : decode cL_law 424 = .ok (.iconst 0, 1) := by decide +kernel
theorem dL_law_425 : decode cL_law 425 = .ok (.ireturn, 1) := by decide +kernel
theorem dL_law_426 : decode cL_law 426 = .ok (.aload_n 1, 1) := by decide +kernel
theorem dL_law_427 : decode cL_law 427 = .ok (.aload_n 0, 1) := by decide +kernel
theorem dL_law_428 : decode cL_law 428 = .ok (.iload_n 3, 1) := by decide +kernel
theorem dL_law_429 : decode cL_law 429 = .ok (.iconst 1, 1) := by decide +kernel
theorem dL_law_430 : decode cL_law 430 = .ok (.iadd, 1) := by decide +kernel
theorem dL_law_431 : decode cL_law 431 = .ok (.iaload, 1) := by decide +kernel
theorem dL_law_432 : decode cL_law 432 = .ok (.aload_n 0, 1) := by decide +kernel
theorem dL_law_433 : decode cL_law 433 = .ok (.iload_n 3, 1) := by decide +kernel
theorem dL_law_434 : decode cL_law 434 = .ok (.iconst 2, 1) := by decide +kernel
theorem dL_law_435 : decode cL_law 435 = .ok (.iadd, 1) := by decide +kernel
theorem dL_law_436 : decode cL_law 436 = .ok (.iaload, 1) := by decide +kernel
theorem dL_law_437 : decode cL_law 437 = .ok (.invokevirtual 40, 3) := by decide +kernel
theorem dL_law_440 : decode cL_law 440 = .ok (.aload_n 2, 1) := by decide +kernel
theorem dL_law_441 : decode cL_law 441 = .ok (.aload_n 0, 1) := by decide +kernel
theorem dL_law_442 : decode cL_law 442 = .ok (.iload_n 3, 1) := by decide +kernel
theorem dL_law_443 : decode cL_law 443 = .ok (.iconst 1, 1) := by decide +kernel
theorem dL_law_444 : decode cL_law 444 = .ok (.iadd, 1) := by decide +kernel
theorem dL_law_445 : decode cL_law 445 = .ok (.iaload, 1) := by decide +kernel
theorem dL_law_446 : decode cL_law 446 = .ok (.aload_n 0, 1) := by decide +kernel
theorem dL_law_447 : decode cL_law 447 = .ok (.iload_n 3, 1) := by decide +kernel
theorem dL_law_448 : decode cL_law 448 = .ok (.iconst 2, 1) := by decide +kernel
theorem dL_law_449 : decode cL_law 449 = .ok (.iadd, 1) := by decide +kernel
theorem dL_law_450 : decode cL_law 450 = .ok (.iaload, 1) := by decide +kernel
theorem dL_law_451 : decode cL_law 451 = .ok (.invokevirtual 43, 3) := by decide +kernel
theorem dL_law_454 : decode cL_law 454 = .ok (.if_icmp .eq 1099, 3) := by decide +kernel
theorem dL_law_457 : decode cL_law 457 = .ok (.iconst 0, 1) := by decide +kernel
theorem dL_law_458 : decode cL_law 458 = .ok (.ireturn, 1) := by decide +kernel
theorem dL_law_459 : decode cL_law 459 = .ok (.aload_n 1, 1) := by decide +kernel
theorem dL_law_460 : decode cL_law 460 = .ok (.aload_n 0, 1) := by decide +kernel
theorem dL_law_461 : decode cL_law 461 = .ok (.iload_n 3, 1) := by decide +kernel
theorem dL_law_462 : decode cL_law 462 = .ok (.iconst 1, 1) := by decide +kernel
theorem dL_law_463 : decode cL_law 463 = .ok (.iadd, 1) := by decide +kernel
theorem dL_law_464 : decode cL_law 464 = .ok (.iaload, 1) := by decide +kernel
theorem dL_law_465 : decode cL_law 465 = .ok (.aload_n 0, 1) := by decide +kernel
theorem dL_law_466 : decode cL_law 466 = .ok (.iload_n 3, 1) := by decide +kernel
theorem dL_law_467 : decode cL_law 467 = .ok (.iconst 2, 1) := by decide +kernel
theorem dL_law_468 : decode cL_law 468 = .ok (.iadd, 1) := by decide +kernel
theorem dL_law_469 : decode cL_law 469 = .ok (.iaload, 1) := by decide +kernel
theorem dL_law_470 : decode cL_law 470 = .ok (.invokevirtual 44, 3) := by decide +kernel
theorem dL_law_473 : decode cL_law 473 = .ok (.aload_n 2, 1) := by decide +kernel
theorem dL_law_474 : decode cL_law 474 = .ok (.aload_n 0, 1) := by decide +kernel
theorem dL_law_475 : decode cL_law 475 = .ok (.iload_n 3, 1) := by decide +kernel
theorem dL_law_476 : decode cL_law 476 = .ok (.iconst 1, 1) := by decide +kernel
theorem dL_law_477 : decode cL_law 477 = .ok (.iadd, 1) := by decide +kernel
theorem dL_law_478 : decode cL_law 478 = .ok (.iaload, 1) := by decide +kernel
theorem dL_law_479 : decode cL_law 479 = .ok (.aload_n 0, 1) := by decide +kernel
theorem dL_law_480 : decode cL_law 480 = .ok (.iload_n 3, 1) := by decide +kernel
theorem dL_law_481 : decode cL_law 481 = .ok (.iconst 2, 1) := by decide +kernel
theorem dL_law_482 : decode cL_law 482 = .ok (.iadd, 1) := by decide +kernel
theorem dL_law_483 : decode cL_law 483 = .ok (.iaload, 1) := by decide +kernel
theorem dL_law_484 : decode cL_law 484 = .ok (.invokevirtual 47, 3) := by decide +kernel
theorem dL_law_487 : decode cL_law 487 = .ok (.if_icmp .eq 1066, 3) := by decide +kernel
theorem dL_law_490 : decode cL_law 490 = .ok (.iconst 0, 1) := by decide +kernel
theorem dL_law_491 : decode cL_law 491 = .ok (.ireturn, 1) := by decide +kernel
theorem dL_law_492 : decode cL_law 492 = .ok (.aload_n 1, 1) := by decide +kernel
theorem dL_law_493 : decode cL_law 493 = .ok (.aload_n 0, 1) := by decide +kernel
theorem dL_law_494 : decode cL_law 494 = .ok (.iload_n 3, 1) := by decide +kernel
theorem dL_law_495 : decode cL_law 495 = .ok (.iconst 1, 1) := by decide +kernel
theorem dL_law_496 : decode cL_law 496 = .ok (.iadd, 1) := by decide +kernel
theorem dL_law_497 : decode cL_law 497 = .ok (.iaload, 1) := by decide +kernel
theorem dL_law_498 : decode cL_law 498 = .ok (.aload_n 0, 1) := by decide +kernel
theorem dL_law_499 : decode cL_law 499 = .ok (.iload_n 3, 1) := by decide +kernel
theorem dL_law_500 : decode cL_law 500 = .ok (.iconst 2, 1) := by decide +kernel
theorem dL_law_501 : decode cL_law 501 = .ok (.iadd, 1) := by decide +kernel
theorem dL_law_502 : decode cL_law 502 = .ok (.iaload, 1) := by decide +kernel
theorem dL_law_503 : decode cL_law 503 = .ok (.aload_n 0, 1) := by decide +kernel
theorem dL_law_504 : decode cL_law 504 = .ok (.iload_n 3, 1) := by decide +kernel
theorem dL_law_505 : decode cL_law 505 = .ok (.iconst 3, 1) := by decide +kernel
theorem dL_law_506 : decode cL_law 506 = .ok (.iadd, 1) := by decide +kernel
theorem dL_law_507 : decode cL_law 507 = .ok (.iaload, 1) := by decide +kernel
theorem dL_law_508 : decode cL_law 508 = .ok (.invokevirtual 48, 3) := by decide +kernel
theorem dL_law_511 : decode cL_law 511 = .ok (.aload_n 2, 1) := by decide +kernel
theorem dL_law_512 : decode cL_law 512 = .ok (.aload_n 0, 1) := by decide +kernel
theorem dL_law_513 : decode cL_law 513 = .ok (.iload_n 3, 1) := by decide +kernel
theorem dL_law_514 : decode cL_law 514 = .ok (.iconst 1, 1) := by decide +kernel
theorem dL_law_515 : decode cL_law 515 = .ok (.iadd, 1) := by decide +kernel
theorem dL_law_516 : decode cL_law 516 = .ok (.iaload, 1) := by decide +kernel
theorem dL_law_517 : decode cL_law 517 = .ok (.aload_n 0, 1) := by decide +kernel
theorem dL_law_518 : decode cL_law 518 = .ok (.iload_n 3, 1) := by decide +kernel
theorem dL_law_519 : decode cL_law 519 = .ok (.iconst 2, 1) := by decide +kernel
theorem dL_law_520 : decode cL_law 520 = .ok (.iadd, 1) := by decide +kernel
theorem dL_law_521 : decode cL_law 521 = .ok (.iaload, 1) := by decide +kernel
theorem dL_law_522 : decode cL_law 522 = .ok (.aload_n 0, 1) := by decide +kernel
theorem dL_law_523 : decode cL_law 523 = .ok (.iload_n 3, 1) := by decide +kernel
theorem dL_law_524 : decode cL_law 524 = .ok (.iconst 3, 1) := by decide +kernel
theorem dL_law_525 : decode cL_law 525 = .ok (.iadd, 1) := by decide +kernel
theorem dL_law_526 : decode cL_law 526 = .ok (.iaload, 1) := by decide +kernel
theorem dL_law_527 : decode cL_law 527 = .ok (.invokevirtual 51, 3) := by decide +kernel
theorem dL_law_530 : decode cL_law 530 = .ok (.if_icmp .eq 1023, 3) := by decide +kernel
theorem dL_law_533 : decode cL_law 533 = .ok (.iconst 0, 1) := by decide +kernel
theorem dL_law_534 : decode cL_law 534 = .ok (.ireturn, 1) := by decide +kernel
theorem dL_law_535 : decode cL_law 535 = .ok (.aload_n 1, 1) := by decide +kernel
theorem dL_law_536 : decode cL_law 536 = .ok (.aload_n 0, 1) := by decide +kernel
theorem dL_law_537 : decode cL_law 537 = .ok (.iload_n 3, 1) := by decide +kernel
theorem dL_law_538 : decode cL_law 538 = .ok (.iconst 1, 1) := by decide +kernel
theorem dL_law_539 : decode cL_law 539 = .ok (.iadd, 1) := by decide +kernel
theorem dL_law_540 : decode cL_law 540 = .ok (.iaload, 1) := by decide +kernel
theorem dL_law_541 : decode cL_law 541 = .ok (.aload_n 0, 1) := by decide +kernel
theorem dL_law_542 : decode cL_law 542 = .ok (.iload_n 3, 1) := by decide +kernel
theorem dL_law_543 : decode cL_law 543 = .ok (.iconst 2, 1) := by decide +kernel
theorem dL_law_544 : decode cL_law 544 = .ok (.iadd, 1) := by decide +kernel
theorem dL_law_545 : decode cL_law 545 = .ok (.iaload, 1) := by decide +kernel
theorem dL_law_546 : decode cL_law 546 = .ok (.aload_n 0, 1) := by decide +kernel
theorem dL_law_547 : decode cL_law 547 = .ok (.iload_n 3, 1) := by decide +kernel
theorem dL_law_548 : decode cL_law 548 = .ok (.iconst 3, 1) := by decide +kernel
theorem dL_law_549 : decode cL_law 549 = .ok (.iadd, 1) := by decide +kernel
theorem dL_law_550 : decode cL_law 550 = .ok (.iaload, 1) := by decide +kernel
theorem dL_law_551 : decode cL_law 551 = .ok (.invokevirtual 52, 3) := by decide +kernel
theorem dL_law_554 : decode cL_law 554 = .ok (.aload_n 2, 1) := by decide +kernel
theorem dL_law_555 : decode cL_law 555 = .ok (.aload_n 0, 1) := by decide +kernel
theorem dL_law_556 : decode cL_law 556 = .ok (.iload_n 3, 1) := by decide +kernel
theorem dL_law_557 : decode cL_law 557 = .ok (.iconst 1, 1) := by decide +kernel
theorem dL_law_558 : decode cL_law 558 = .ok (.iadd, 1) := by decide +kernel
theorem dL_law_559 : decode cL_law 559 = .ok (.iaload, 1) := by decide +kernel
theorem dL_law_560 : decode cL_law 560 = .ok (.aload_n 0, 1) := by decide +kernel
theorem dL_law_561 : decode cL_law 561 = .ok (.iload_n 3, 1) := by decide +kernel
theorem dL_law_562 : decode cL_law 562 = .ok (.iconst 2, 1) := by decide +kernel
theorem dL_law_563 : decode cL_law 563 = .ok (.iadd, 1) := by decide +kernel
theorem dL_law_564 : decode cL_law 564 = .ok (.iaload, 1) := by decide +kernel
theorem dL_law_565 : decode cL_law 565 = .ok (.aload_n 0, 1) := by decide +kernel
theorem dL_law_566 : decode cL_law 566 = .ok (.iload_n 3, 1) := by decide +kernel
theorem dL_law_567 : decode cL_law 567 = .ok (.iconst 3, 1) := by decide +kernel
theorem dL_law_568 : decode cL_law 568 = .ok (.iadd, 1) := by decide +kernel
theorem dL_law_569 : decode cL_law 569 = .ok (.iaload, 1) := by decide +kernel
theorem dL_law_570 : decode cL_law 570 = .ok (.invokevirtual 55, 3) := by decide +kernel
theorem dL_law_573 : decode cL_law 573 = .ok (.if_icmp .eq 980, 3) := by decide +kernel
theorem dL_law_576 : decode cL_law 576 = .ok (.iconst 0, 1) := by decide +kernel
theorem dL_law_577 : decode cL_law 577 = .ok (.ireturn, 1) := by decide +kernel
theorem dL_law_578 : decode cL_law 578 = .ok (.aload_n 1, 1) := by decide +kernel
theorem dL_law_579 : decode cL_law 579 = .ok (.aload_n 0, 1) := by decide +kernel
theorem dL_law_580 : decode cL_law 580 = .ok (.iload_n 3, 1) := by decide +kernel
theorem dL_law_581 : decode cL_law 581 = .ok (.iconst 1, 1) := by decide +kernel
theorem dL_law_582 : decode cL_law 582 = .ok (.iadd, 1) := by decide +kernel
theorem dL_law_583 : decode cL_law 583 = .ok (.iaload, 1) := by decide +kernel
theorem dL_law_584 : decode cL_law 584 = .ok (.aload_n 0, 1) := by decide +kernel
theorem dL_law_585 : decode cL_law 585 = .ok (.iload_n 3, 1) := by decide +kernel
theorem dL_law_586 : decode cL_law 586 = .ok (.iconst 2, 1) := by decide +kernel
theorem dL_law_587 : decode cL_law 587 = .ok (.iadd, 1) := by decide +kernel
theorem dL_law_588 : decode cL_law 588 = .ok (.iaload, 1) := by decide +kernel
theorem dL_law_589 : decode cL_law 589 = .ok (.invokevirtual 56, 3) := by decide +kernel
theorem dL_law_592 : decode cL_law 592 = .ok (.aload_n 2, 1) := by decide +kernel
theorem dL_law_593 : decode cL_law 593 = .ok (.aload_n 0, 1) := by decide +kernel
theorem dL_law_594 : decode cL_law 594 = .ok (.iload_n 3, 1) := by decide +kernel
theorem dL_law_595 : decode cL_law 595 = .ok (.iconst 1, 1) := by decide +kernel
theorem dL_law_596 : decode cL_law 596 = .ok (.iadd, 1) := by decide +kernel
theorem dL_law_597 : decode cL_law 597 = .ok (.iaload, 1) := by decide +kernel
theorem dL_law_598 : decode cL_law 598 = .ok (.aload_n 0, 1) := by decide +kernel
theorem dL_law_599 : decode cL_law 599 = .ok (.iload_n 3, 1) := by decide +kernel
theorem dL_law_600 : decode cL_law 600 = .ok (.iconst 2, 1) := by decide +kernel
theorem dL_law_601 : decode cL_law 601 = .ok (.iadd, 1) := by decide +kernel
theorem dL_law_602 : decode cL_law 602 = .ok (.iaload, 1) := by decide +kernel
theorem dL_law_603 : decode cL_law 603 = .ok (.invokevirtual 59, 3) := by decide +kernel
theorem dL_law_606 : decode cL_law 606 = .ok (.if_icmp .eq 947, 3) := by decide +kernel
theorem dL_law_609 : decode cL_law 609 = .ok (.iconst 0, 1) := by decide +kernel
theorem dL_law_610 : decode cL_law 610 = .ok (.ireturn, 1) := by decide +kernel
theorem dL_law_611 : decode cL_law 611 = .ok (.aload_n 1, 1) := by decide +kernel
theorem dL_law_612 : decode cL_law 612 = .ok (.aload_n 0, 1) := by decide +kernel
theorem dL_law_613 : decode cL_law 613 = .ok (.iload_n 3, 1) := by decide +kernel
theorem dL_law_614 : decode cL_law 614 = .ok (.iconst 1, 1) := by decide +kernel
theorem dL_law_615 : decode cL_law 615 = .ok (.iadd, 1) := by decide +kernel
theorem dL_law_616 : decode cL_law 616 = .ok (.iaload, 1) := by decide +kernel
theorem dL_law_617 : decode cL_law 617 = .ok (.aload_n 0, 1) := by decide +kernel
theorem dL_law_618 : decode cL_law 618 = .ok (.iload_n 3, 1) := by decide +kernel
theorem dL_law_619 : decode cL_law 619 = .ok (.iconst 2, 1) := by decide +kernel
theorem dL_law_620 : decode cL_law 620 = .ok (.iadd, 1) := by decide +kernel
theorem dL_law_621 : decode cL_law 621 = .ok (.iaload, 1) := by decide +kernel
theorem dL_law_622 : decode cL_law 622 = .ok (.invokevirtual 60, 3) := by decide +kernel
theorem dL_law_625 : decode cL_law 625 = .ok (.aload_n 2, 1) := by decide +kernel
theorem dL_law_626 : decode cL_law 626 = .ok (.aload_n 0, 1) := by decide +kernel
theorem dL_law_627 : decode cL_law 627 = .ok (.iload_n 3, 1) := by decide +kernel
theorem dL_law_628 : decode cL_law 628 = .ok (.iconst 1, 1) := by decide +kernel
theorem dL_law_629 : decode cL_law 629 = .ok (.iadd, 1) := by decide +kernel
theorem dL_law_630 : decode cL_law 630 = .ok (.iaload, 1) := by decide +kernel
theorem dL_law_631 : decode cL_law 631 = .ok (.aload_n 0, 1) := by decide +kernel
theorem dL_law_632 : decode cL_law 632 = .ok (.iload_n 3, 1) := by decide +kernel
theorem dL_law_633 : decode cL_law 633 = .ok (.iconst 2, 1) := by decide +kernel
theorem dL_law_634 : decode cL_law 634 = .ok (.iadd, 1) := by decide +kernel
theorem dL_law_635 : decode cL_law 635 = .ok (.iaload, 1) := by decide +kernel
theorem dL_law_636 : decode cL_law 636 = .ok (.invokevirtual 63, 3) := by decide +kernel
theorem dL_law_639 : decode cL_law 639 = .ok (.if_icmp .eq 914, 3) := by decide +kernel
theorem dL_law_642 : decode cL_law 642 = .ok (.iconst 0, 1) := by decide +kernel
theorem dL_law_643 : decode cL_law 643 = .ok (.ireturn, 1) := by decide +kernel
theorem dL_law_644 : decode cL_law 644 = .ok (.aload_n 1, 1) := by decide +kernel
theorem dL_law_645 : decode cL_law 645 = .ok (.aload_n 0, 1) := by decide +kernel
theorem dL_law_646 : decode cL_law 646 = .ok (.iload_n 3, 1) := by decide +kernel
theorem dL_law_647 : decode cL_law 647 = .ok (.iconst 1, 1) := by decide +kernel
theorem dL_law_648 : decode cL_law 648 = .ok (.iadd, 1) := by decide +kernel
theorem dL_law_649 : decode cL_law 649 = .ok (.iaload, 1) := by decide +kernel
theorem dL_law_650 : decode cL_law 650 = .ok (.aload_n 0, 1) := by decide +kernel
theorem dL_law_651 : decode cL_law 651 = .ok (.iload_n 3, 1) := by decide +kernel
theorem dL_law_652 : decode cL_law 652 = .ok (.iconst 2, 1) := by decide +kernel
theorem dL_law_653 : decode cL_law 653 = .ok (.iadd, 1) := by decide +kernel
theorem dL_law_654 : decode cL_law 654 = .ok (.iaload, 1) := by decide +kernel
theorem dL_law_655 : decode cL_law 655 = .ok (.invokevirtual 64, 3) := by decide +kernel
theorem dL_law_658 : decode cL_law 658 = .ok (.aload_n 2, 1) := by decide +kernel
theorem dL_law_659 : decode cL_law 659 = .ok (.aload_n 0, 1) := by decide +kernel
theorem dL_law_660 : decode cL_law 660 = .ok (.iload_n 3, 1) := by decide +kernel
theorem dL_law_661 : decode cL_law 661 = .ok (.iconst 1, 1) := by decide +kernel
theorem dL_law_662 : decode cL_law 662 = .ok (.iadd, 1) := by decide +kernel
theorem dL_law_663 : decode cL_law 663 = .ok (.iaload, 1) := by decide +kernel
theorem dL_law_664 : decode cL_law 664 = .ok (.aload_n 0, 1) := by decide +kernel
theorem dL_law_665 : decode cL_law 665 = .ok (.iload_n 3, 1) := by decide +kernel
theorem dL_law_666 : decode cL_law 666 = .ok (.iconst 2, 1) := by decide +kernel
theorem dL_law_667 : decode cL_law 667 = .ok (.iadd, 1) := by decide +kernel
theorem dL_law_668 : decode cL_law 668 = .ok (.iaload, 1) := by decide +kernel
theorem dL_law_669 : decode cL_law 669 = .ok (.invokevirtual 67, 3) := by decide +kernel
theorem dL_law_672 : decode cL_law 672 = .ok (.if_icmp .eq 881, 3) := by decide +kernel
theorem dL_law_675 : decode cL_law 675 = .ok (.iconst 0, 1) := by decide +kernel
theorem dL_law_676 : decode cL_law 676 = .ok (.ireturn, 1) := by decide +kernel
theorem dL_law_677 : decode cL_law 677 = .ok (.aload_n 1, 1) := by decide +kernel
theorem dL_law_678 : decode cL_law 678 = .ok (.aload_n 0, 1) := by decide +kernel
theorem dL_law_679 : decode cL_law 679 = .ok (.iload_n 3, 1) := by decide +kernel
theorem dL_law_680 : decode cL_law 680 = .ok (.iconst 1, 1) := by decide +kernel
theorem dL_law_681 : decode cL_law 681 = .ok (.iadd, 1) := by decide +kernel
theorem dL_law_682 : decode cL_law 682 = .ok (.iaload, 1) := by decide +kernel
theorem dL_law_683 : decode cL_law 683 = .ok (.aload_n 0, 1) := by decide +kernel
theorem dL_law_684 : decode cL_law 684 = .ok (.iload_n 3, 1) := by decide +kernel
theorem dL_law_685 : decode cL_law 685 = .ok (.iconst 2, 1) := by decide +kernel
theorem dL_law_686 : decode cL_law 686 = .ok (.iadd, 1) := by decide +kernel
theorem dL_law_687 : decode cL_law 687 = .ok (.iaload, 1) := by decide +kernel
theorem dL_law_688 : decode cL_law 688 = .ok (.invokevirtual 68, 3) := by decide +kernel
theorem dL_law_691 : decode cL_law 691 = .ok (.aload_n 2, 1) := by decide +kernel
theorem dL_law_692 : decode cL_law 692 = .ok (.aload_n 0, 1) := by decide +kernel
theorem dL_law_693 : decode cL_law 693 = .ok (.iload_n 3, 1) := by decide +kernel
theorem dL_law_694 : decode cL_law 694 = .ok (.iconst 1, 1) := by decide +kernel
theorem dL_law_695 : decode cL_law 695 = .ok (.iadd, 1) := by decide +kernel
theorem dL_law_696 : decode cL_law 696 = .ok (.iaload, 1) := by decide +kernel
theorem dL_law_697 : decode cL_law 697 = .ok (.aload_n 0, 1) := by decide +kernel
theorem dL_law_698 : decode cL_law 698 = .ok (.iload_n 3, 1) := by decide +kernel
theorem dL_law_699 : decode cL_law 699 = .ok (.iconst 2, 1) := by decide +kernel
theorem dL_law_700 : decode cL_law 700 = .ok (.iadd, 1) := by decide +kernel
theorem dL_law_701 : decode cL_law 701 = .ok (.iaload, 1) := by decide +kernel
theorem dL_law_702 : decode cL_law 702 = .ok (.invokevirtual 71, 3) := by decide +kernel
theorem dL_law_705 : decode cL_law 705 = .ok (.if_icmp .eq 848, 3) := by decide +kernel
theorem dL_law_708 : decode cL_law 708 = .ok (.iconst 0, 1) := by decide +kernel
theorem dL_law_709 : decode cL_law 709 = .ok (.ireturn, 1) := by decide +kernel
theorem dL_law_710 : decode cL_law 710 = .ok (.aload_n 1, 1) := by decide +kernel
theorem dL_law_711 : decode cL_law 711 = .ok (.aload_n 0, 1) := by decide +kernel
theorem dL_law_712 : decode cL_law 712 = .ok (.iload_n 3, 1) := by decide +kernel
theorem dL_law_713 : decode cL_law 713 = .ok (.iconst 1, 1) := by decide +kernel
theorem dL_law_714 : decode cL_law 714 = .ok (.iadd, 1) := by decide +kernel
theorem dL_law_715 : decode cL_law 715 = .ok (.iaload, 1) := by decide +kernel
theorem dL_law_716 : decode cL_law 716 = .ok (.aload_n 0, 1) := by decide +kernel
theorem dL_law_717 : decode cL_law 717 = .ok (.iload_n 3, 1) := by decide +kernel
theorem dL_law_718 : decode cL_law 718 = .ok (.iconst 2, 1) := by decide +kernel
theorem dL_law_719 : decode cL_law 719 = .ok (.iadd, 1) := by decide +kernel
theorem dL_law_720 : decode cL_law 720 = .ok (.iaload, 1) := by decide +kernel
theorem dL_law_721 : decode cL_law 721 = .ok (.aload_n 0, 1) := by decide +kernel
theorem dL_law_722 : decode cL_law 722 = .ok (.iload_n 3, 1) := by decide +kernel
theorem dL_law_723 : decode cL_law 723 = .ok (.iconst 3, 1) := by decide +kernel
theorem dL_law_724 : decode cL_law 724 = .ok (.iadd, 1) := by decide +kernel
theorem dL_law_725 : decode cL_law 725 = .ok (.iaload, 1) := by decide +kernel
theorem dL_law_726 : decode cL_law 726 = .ok (.invokevirtual 72, 3) := by decide +kernel
theorem dL_law_729 : decode cL_law 729 = .ok (.aload_n 2, 1) := by decide +kernel
theorem dL_law_730 : decode cL_law 730 = .ok (.aload_n 0, 1) := by decide +kernel
theorem dL_law_731 : decode cL_law 731 = .ok (.iload_n 3, 1) := by decide +kernel
theorem dL_law_732 : decode cL_law 732 = .ok (.iconst 1, 1) := by decide +kernel
theorem dL_law_733 : decode cL_law 733 = .ok (.iadd, 1) := by decide +kernel
theorem dL_law_734 : decode cL_law 734 = .ok (.iaload, 1) := by decide +kernel
theorem dL_law_735 : decode cL_law 735 = .ok (.aload_n 0, 1) := by decide +kernel
theorem dL_law_736 : decode cL_law 736 = .ok (.iload_n 3, 1) := by decide +kernel
theorem dL_law_737 : decode cL_law 737 = .ok (.iconst 2, 1) := by decide +kernel
theorem dL_law_738 : decode cL_law 738 = .ok (.iadd, 1) := by decide +kernel
theorem dL_law_739 : decode cL_law 739 = .ok (.iaload, 1) := by decide +kernel
theorem dL_law_740 : decode cL_law 740 = .ok (.aload_n 0, 1) := by decide +kernel
theorem dL_law_741 : decode cL_law 741 = .ok (.iload_n 3, 1) := by decide +kernel
theorem dL_law_742 : decode cL_law 742 = .ok (.iconst 3, 1) := by decide +kernel
theorem dL_law_743 : decode cL_law 743 = .ok (.iadd, 1) := by decide +kernel
theorem dL_law_744 : decode cL_law 744 = .ok (.iaload, 1) := by decide +kernel
theorem dL_law_745 : decode cL_law 745 = .ok (.invokevirtual 75, 3) := by decide +kernel
theorem dL_law_748 : decode cL_law 748 = .ok (.if_icmp .eq 805, 3) := by decide +kernel
theorem dL_law_751 : decode cL_law 751 = .ok (.iconst 0, 1) := by decide +kernel
theorem dL_law_752 : decode cL_law 752 = .ok (.ireturn, 1) := by decide +kernel
theorem dL_law_753 : decode cL_law 753 = .ok (.aload_n 1, 1) := by decide +kernel
theorem dL_law_754 : decode cL_law 754 = .ok (.aload_n 0, 1) := by decide +kernel
theorem dL_law_755 : decode cL_law 755 = .ok (.iload_n 3, 1) := by decide +kernel
theorem dL_law_756 : decode cL_law 756 = .ok (.iconst 1, 1) := by decide +kernel
theorem dL_law_757 : decode cL_law 757 = .ok (.iadd, 1) := by decide +kernel
theorem dL_law_758 : decode cL_law 758 = .ok (.iaload, 1) := by decide +kernel
theorem dL_law_759 : decode cL_law 759 = .ok (.aload_n 0, 1) := by decide +kernel
theorem dL_law_760 : decode cL_law 760 = .ok (.iload_n 3, 1) := by decide +kernel
theorem dL_law_761 : decode cL_law 761 = .ok (.iconst 2, 1) := by decide +kernel
theorem dL_law_762 : decode cL_law 762 = .ok (.iadd, 1) := by decide +kernel
theorem dL_law_763 : decode cL_law 763 = .ok (.iaload, 1) := by decide +kernel
theorem dL_law_764 : decode cL_law 764 = .ok (.invokevirtual 76, 3) := by decide +kernel
theorem dL_law_767 : decode cL_law 767 = .ok (.aload_n 2, 1) := by decide +kernel
theorem dL_law_768 : decode cL_law 768 = .ok (.aload_n 0, 1) := by decide +kernel
theorem dL_law_769 : decode cL_law 769 = .ok (.iload_n 3, 1) := by decide +kernel
theorem dL_law_770 : decode cL_law 770 = .ok (.iconst 1, 1) := by decide +kernel
theorem dL_law_771 : decode cL_law 771 = .ok (.iadd, 1) := by decide +kernel
theorem dL_law_772 : decode cL_law 772 = .ok (.iaload, 1) := by decide +kernel
theorem dL_law_773 : decode cL_law 773 = .ok (.aload_n 0, 1) := by decide +kernel
theorem dL_law_774 : decode cL_law 774 = .ok (.iload_n 3, 1) := by decide +kernel
theorem dL_law_775 : decode cL_law 775 = .ok (.iconst 2, 1) := by decide +kernel
theorem dL_law_776 : decode cL_law 776 = .ok (.iadd, 1) := by decide +kernel
theorem dL_law_777 : decode cL_law 777 = .ok (.iaload, 1) := by decide +kernel
theorem dL_law_778 : decode cL_law 778 = .ok (.invokevirtual 79, 3) := by decide +kernel
theorem dL_law_781 : decode cL_law 781 = .ok (.if_icmp .eq 772, 3) := by decide +kernel
theorem dL_law_784 : decode cL_law 784 = .ok (.iconst 0, 1) := by decide +kernel
theorem dL_law_785 : decode cL_law 785 = .ok (.ireturn, 1) := by decide +kernel
theorem dL_law_786 : decode cL_law 786 = .ok (.aload_n 1, 1) := by decide +kernel
theorem dL_law_787 : decode cL_law 787 = .ok (.aload_n 0, 1) := by decide +kernel
theorem dL_law_788 : decode cL_law 788 = .ok (.iload_n 3, 1) := by decide +kernel
theorem dL_law_789 : decode cL_law 789 = .ok (.iconst 1, 1) := by decide +kernel
theorem dL_law_790 : decode cL_law 790 = .ok (.iadd, 1) := by decide +kernel
theorem dL_law_791 : decode cL_law 791 = .ok (.iaload, 1) := by decide +kernel
theorem dL_law_792 : decode cL_law 792 = .ok (.invokevirtual 80, 3) := by decide +kernel
theorem dL_law_795 : decode cL_law 795 = .ok (.aload_n 2, 1) := by decide +kernel
theorem dL_law_796 : decode cL_law 796 = .ok (.aload_n 0, 1) := by decide +kernel
theorem dL_law_797 : decode cL_law 797 = .ok (.iload_n 3, 1) := by decide +kernel
theorem dL_law_798 : decode cL_law 798 = .ok (.iconst 1, 1) := by decide +kernel
theorem dL_law_799 : decode cL_law 799 = .ok (.iadd, 1) := by decide +kernel
theorem dL_law_800 : decode cL_law 800 = .ok (.iaload, 1) := by decide +kernel
theorem dL_law_801 : decode cL_law 801 = .ok (.invokevirtual 83, 3) := by decide +kernel
theorem dL_law_804 : decode cL_law 804 = .ok (.if_icmp .eq 749, 3) := by decide +kernel
theorem dL_law_807 : decode cL_law 807 = .ok (.iconst 0, 1) := by decide +kernel
theorem dL_law_808 : decode cL_law 808 = .ok (.ireturn, 1) := by decide +kernel
theorem dL_law_809 : decode cL_law 809 = .ok (.aload_n 1, 1) := by decide +kernel
theorem dL_law_810 : decode cL_law 810 = .ok (.aload_n 0, 1) := by decide +kernel
theorem dL_law_811 : decode cL_law 811 = .ok (.iload_n 3, 1) := by decide +kernel
theorem dL_law_812 : decode cL_law 812 = .ok (.iconst 1, 1) := by decide +kernel
theorem dL_law_813 : decode cL_law 813 = .ok (.iadd, 1) := by decide +kernel
theorem dL_law_814 : decode cL_law 814 = .ok (.iaload, 1) := by decide +kernel
theorem dL_law_815 : decode cL_law 815 = .ok (.invokevirtual 84, 3) := by decide +kernel
theorem dL_law_818 : decode cL_law 818 = .ok (.aload_n 2, 1) := by decide +kernel
theorem dL_law_819 : decode cL_law 819 = .ok (.aload_n 0, 1) := by decide +kernel
theorem dL_law_820 : decode cL_law 820 = .ok (.iload_n 3, 1) := by decide +kernel
theorem dL_law_821 : decode cL_law 821 = .ok (.iconst 1, 1) := by decide +kernel
theorem dL_law_822 : decode cL_law 822 = .ok (.iadd, 1) := by decide +kernel
theorem dL_law_823 : decode cL_law 823 = .ok (.iaload, 1) := by decide +kernel
theorem dL_law_824 : decode cL_law 824 = .ok (.invokevirtual 87, 3) := by decide +kernel
theorem dL_law_827 : decode cL_law 827 = .ok (.if_icmp .eq 726, 3) := by decide +kernel
theorem dL_law_830 : decode cL_law 830 = .ok (.iconst 0, 1) := by decide +kernel
theorem dL_law_831 : decode cL_law 831 = .ok (.ireturn, 1) := by decide +kernel
theorem dL_law_832 : decode cL_law 832 = .ok (.aload_n 1, 1) := by decide +kernel
theorem dL_law_833 : decode cL_law 833 = .ok (.aload_n 0, 1) := by decide +kernel
theorem dL_law_834 : decode cL_law 834 = .ok (.iload_n 3, 1) := by decide +kernel
theorem dL_law_835 : decode cL_law 835 = .ok (.iconst 1, 1) := by decide +kernel
theorem dL_law_836 : decode cL_law 836 = .ok (.iadd, 1) := by decide +kernel
theorem dL_law_837 : decode cL_law 837 = .ok (.iaload, 1) := by decide +kernel
theorem dL_law_838 : decode cL_law 838 = .ok (.invokevirtual 88, 3) := by decide +kernel
theorem dL_law_841 : decode cL_law 841 = .ok (.aload_n 2, 1) := by decide +kernel
theorem dL_law_842 : decode cL_law 842 = .ok (.aload_n 0, 1) := by decide +kernel
theorem dL_law_843 : decode cL_law 843 = .ok (.iload_n 3, 1) := by decide +kernel
theorem dL_law_844 : decode cL_law 844 = .ok (.iconst 1, 1) := by decide +kernel
theorem dL_law_845 : decode cL_law 845 = .ok (.iadd, 1) := by decide +kernel
theorem dL_law_846 : decode cL_law 846 = .ok (.iaload, 1) := by decide +kernel
theorem dL_law_847 : decode cL_law 847 = .ok (.invokevirtual 91, 3) := by decide +kernel
theorem dL_law_850 : decode cL_law 850 = .ok (.if_icmp .eq 703, 3) := by decide +kernel
theorem dL_law_853 : decode cL_law 853 = .ok (.iconst 0, 1) := by decide +kernel
theorem dL_law_854 : decode cL_law 854 = .ok (.ireturn, 1) := by decide +kernel
theorem dL_law_855 : decode cL_law 855 = .ok (.aload_n 1, 1) := by decide +kernel
theorem dL_law_856 : decode cL_law 856 = .ok (.aload_n 0, 1) := by decide +kernel
theorem dL_law_857 : decode cL_law 857 = .ok (.iload_n 3, 1) := by decide +kernel
theorem dL_law_858 : decode cL_law 858 = .ok (.iconst 1, 1) := by decide +kernel
theorem dL_law_859 : decode cL_law 859 = .ok (.iadd, 1) := by decide +kernel
theorem dL_law_860 : decode cL_law 860 = .ok (.iaload, 1) := by decide +kernel
theorem dL_law_861 : decode cL_law 861 = .ok (.invokevirtual 92, 3) := by decide +kernel
theorem dL_law_864 : decode cL_law 864 = .ok (.aload_n 2, 1) := by decide +kernel
theorem dL_law_865 : decode cL_law 865 = .ok (.aload_n 0, 1) := by decide +kernel
theorem dL_law_866 : decode cL_law 866 = .ok (.iload_n 3, 1) := by decide +kernel
theorem dL_law_867 : decode cL_law 867 = .ok (.iconst 1, 1) := by decide +kernel
theorem dL_law_868 : decode cL_law 868 = .ok (.iadd, 1) := by decide +kernel
theorem dL_law_869 : decode cL_law 869 = .ok (.iaload, 1) := by decide +kernel
theorem dL_law_870 : decode cL_law 870 = .ok (.invokevirtual 95, 3) := by decide +kernel
theorem dL_law_873 : decode cL_law 873 = .ok (.if_icmp .eq 680, 3) := by decide +kernel
theorem dL_law_876 : decode cL_law 876 = .ok (.iconst 0, 1) := by decide +kernel
theorem dL_law_877 : decode cL_law 877 = .ok (.ireturn, 1) := by decide +kernel
theorem dL_law_878 : decode cL_law 878 = .ok (.aload_n 1, 1) := by decide +kernel
theorem dL_law_879 : decode cL_law 879 = .ok (.invokevirtual 96, 3) := by decide +kernel
theorem dL_law_882 : decode cL_law 882 = .ok (.aload_n 2, 1) := by decide +kernel
theorem dL_law_883 : decode cL_law 883 = .ok (.invokevirtual 100, 3) := by decide +kernel
theorem dL_law_886 : decode cL_law 886 = .ok (.if_icmp .eq 667, 3) := by decide +kernel
theorem dL_law_889 : decode cL_law 889 = .ok (.iconst 0, 1) := by decide +kernel
theorem dL_law_890 : decode cL_law 890 = .ok (.ireturn, 1) := by decide +kernel
theorem dL_law_891 : decode cL_law 891 = .ok (.aload_n 1, 1) := by decide +kernel
theorem dL_law_892 : decode cL_law 892 = .ok (.aload_n 0, 1) := by decide +kernel
theorem dL_law_893 : decode cL_law 893 = .ok (.iload_n 3, 1) := by decide +kernel
theorem dL_law_894 : decode cL_law 894 = .ok (.iconst 1, 1) := by decide +kernel
theorem dL_law_895 : decode cL_law 895 = .ok (.iadd, 1) := by decide +kernel
theorem dL_law_896 : decode cL_law 896 = .ok (.iaload, 1) := by decide +kernel
theorem dL_law_897 : decode cL_law 897 = .ok (.invokevirtual 101, 3) := by decide +kernel
theorem dL_law_900 : decode cL_law 900 = .ok (.aload_n 2, 1) := by decide +kernel
theorem dL_law_901 : decode cL_law 901 = .ok (.aload_n 0, 1) := by decide +kernel
theorem dL_law_902 : decode cL_law 902 = .ok (.iload_n 3, 1) := by decide +kernel
theorem dL_law_903 : decode cL_law 903 = .ok (.iconst 1, 1) := by decide +kernel
theorem dL_law_904 : decode cL_law 904 = .ok (.iadd, 1) := by decide +kernel
theorem dL_law_905 : decode cL_law 905 = .ok (.iaload, 1) := by decide +kernel
theorem dL_law_906 : decode cL_law 906 = .ok (.invokevirtual 104, 3) := by decide +kernel
theorem dL_law_909 : decode cL_law 909 = .ok (.if_icmp .eq 644, 3) := by decide +kernel
theorem dL_law_912 : decode cL_law 912 = .ok (.iconst 0, 1) := by decide +kernel
theorem dL_law_913 : decode cL_law 913 = .ok (.ireturn, 1) := by decide +kernel
theorem dL_law_914 : decode cL_law 914 = .ok (.aload_n 1, 1) := by decide +kernel
theorem dL_law_915 : decode cL_law 915 = .ok (.aload_n 0, 1) := by decide +kernel
theorem dL_law_916 : decode cL_law 916 = .ok (.iload_n 3, 1) := by decide +kernel
theorem dL_law_917 : decode cL_law 917 = .ok (.iconst 1, 1) := by decide +kernel
theorem dL_law_918 : decode cL_law 918 = .ok (.iadd, 1) := by decide +kernel
theorem dL_law_919 : decode cL_law 919 = .ok (.iaload, 1) := by decide +kernel
theorem dL_law_920 : decode cL_law 920 = .ok (.invokevirtual 105, 3) := by decide +kernel
theorem dL_law_923 : decode cL_law 923 = .ok (.aload_n 2, 1) := by decide +kernel
theorem dL_law_924 : decode cL_law 924 = .ok (.aload_n 0, 1) := by decide +kernel
theorem dL_law_925 : decode cL_law 925 = .ok (.iload_n 3, 1) := by decide +kernel
theorem dL_law_926 : decode cL_law 926 = .ok (.iconst 1, 1) := by decide +kernel
theorem dL_law_927 : decode cL_law 927 = .ok (.iadd, 1) := by decide +kernel
theorem dL_law_928 : decode cL_law 928 = .ok (.iaload, 1) := by decide +kernel
theorem dL_law_929 : decode cL_law 929 = .ok (.invokevirtual 108, 3) := by decide +kernel
theorem dL_law_932 : decode cL_law 932 = .ok (.if_icmp .eq 621, 3) := by decide +kernel
theorem dL_law_935 : decode cL_law 935 = .ok (.iconst 0, 1) := by decide +kernel
theorem dL_law_936 : decode cL_law 936 = .ok (.ireturn, 1) := by decide +kernel
theorem dL_law_937 : decode cL_law 937 = .ok (.aload_n 1, 1) := by decide +kernel
theorem dL_law_938 : decode cL_law 938 = .ok (.aload_n 0, 1) := by decide +kernel
theorem dL_law_939 : decode cL_law 939 = .ok (.iload_n 3, 1) := by decide +kernel
theorem dL_law_940 : decode cL_law 940 = .ok (.iconst 1, 1) := by decide +kernel
theorem dL_law_941 : decode cL_law 941 = .ok (.iadd, 1) := by decide +kernel
theorem dL_law_942 : decode cL_law 942 = .ok (.iaload, 1) := by decide +kernel
theorem dL_law_943 : decode cL_law 943 = .ok (.invokevirtual 109, 3) := by decide +kernel
theorem dL_law_946 : decode cL_law 946 = .ok (.aload_n 2, 1) := by decide +kernel
theorem dL_law_947 : decode cL_law 947 = .ok (.aload_n 0, 1) := by decide +kernel
theorem dL_law_948 : decode cL_law 948 = .ok (.iload_n 3, 1) := by decide +kernel
theorem dL_law_949 : decode cL_law 949 = .ok (.iconst 1, 1) := by decide +kernel
theorem dL_law_950 : decode cL_law 950 = .ok (.iadd, 1) := by decide +kernel
theorem dL_law_951 : decode cL_law 951 = .ok (.iaload, 1) := by decide +kernel
theorem dL_law_952 : decode cL_law 952 = .ok (.invokevirtual 112, 3) := by decide +kernel
theorem dL_law_955 : decode cL_law 955 = .ok (.if_icmp .eq 598, 3) := by decide +kernel
theorem dL_law_958 : decode cL_law 958 = .ok (.iconst 0, 1) := by decide +kernel
theorem dL_law_959 : decode cL_law 959 = .ok (.ireturn, 1) := by decide +kernel
theorem dL_law_960 : decode cL_law 960 = .ok (.aload_n 1, 1) := by decide +kernel
theorem dL_law_961 : decode cL_law 961 = .ok (.invokevirtual 113, 3) := by decide +kernel
theorem dL_law_964 : decode cL_law 964 = .ok (.aload_n 2, 1) := by decide +kernel
theorem dL_law_965 : decode cL_law 965 = .ok (.invokevirtual 116, 3) := by decide +kernel
theorem dL_law_968 : decode cL_law 968 = .ok (.if_icmp .eq 585, 3) := by decide +kernel
theorem dL_law_971 : decode cL_law 971 = .ok (.iconst 0, 1) := by decide +kernel
theorem dL_law_972 : decode cL_law 972 = .ok (.ireturn, 1) := by decide +kernel
theorem dL_law_973 : decode cL_law 973 = .ok (.aload_n 1, 1) := by decide +kernel
theorem dL_law_974 : decode cL_law 974 = .ok (.invokevirtual 117, 3) := by decide +kernel
theorem dL_law_977 : decode cL_law 977 = .ok (.aload_n 2, 1) := by decide +kernel
theorem dL_law_978 : decode cL_law 978 = .ok (.invokevirtual 120, 3) := by decide +kernel
theorem dL_law_981 : decode cL_law 981 = .ok (.if_icmp .eq 572, 3) := by decide +kernel
theorem dL_law_984 : decode cL_law 984 = .ok (.iconst 0, 1) := by decide +kernel
theorem dL_law_985 : decode cL_law 985 = .ok (.ireturn, 1) := by decide +kernel
theorem dL_law_986 : decode cL_law 986 = .ok (.aload_n 1, 1) := by decide +kernel
theorem dL_law_987 : decode cL_law 987 = .ok (.aload_n 0, 1) := by decide +kernel
theorem dL_law_988 : decode cL_law 988 = .ok (.iload_n 3, 1) := by decide +kernel
theorem dL_law_989 : decode cL_law 989 = .ok (.iconst 1, 1) := by decide +kernel
theorem dL_law_990 : decode cL_law 990 = .ok (.iadd, 1) := by decide +kernel
theorem dL_law_991 : decode cL_law 991 = .ok (.iaload, 1) := by decide +kernel
theorem dL_law_992 : decode cL_law 992 = .ok (.aload_n 0, 1) := by decide +kernel
theorem dL_law_993 : decode cL_law 993 = .ok (.iload_n 3, 1) := by decide +kernel
theorem dL_law_994 : decode cL_law 994 = .ok (.iconst 2, 1) := by decide +kernel
theorem dL_law_995 : decode cL_law 995 = .ok (.iadd, 1) := by decide +kernel
theorem dL_law_996 : decode cL_law 996 = .ok (.iaload, 1) := by decide +kernel
theorem dL_law_997 : decode cL_law 997 = .ok (.aload_n 0, 1) := by decide +kernel
theorem dL_law_998 : decode cL_law 998 = .ok (.iload_n 3, 1) := by decide +kernel
theorem dL_law_999 : decode cL_law 999 = .ok (.iconst 3, 1) := by decide +kernel
theorem dL_law_1000 : decode cL_law 1000 = .ok (.iadd, 1) := by decide +kernel
theorem dL_law_1001 : decode cL_law 1001 = .ok (.iaload, 1) := by decide +kernel
theorem dL_law_1002 : decode cL_law 1002 = .ok (.invokevirtual 121, 3) := by decide +kernel
theorem dL_law_1005 : decode cL_law 1005 = .ok (.aload_n 2, 1) := by decide +kernel
theorem dL_law_1006 : decode cL_law 1006 = .ok (.aload_n 0, 1) := by decide +kernel
theorem dL_law_1007 : decode cL_law 1007 = .ok (.iload_n 3, 1) := by decide +kernel
theorem dL_law_1008 : decode cL_law 1008 = .ok (.iconst 1, 1) := by decide +kernel
theorem dL_law_1009 : decode cL_law 1009 = .ok (.iadd, 1) := by decide +kernel
theorem dL_law_1010 : decode cL_law 1010 = .ok (.iaload, 1) := by decide +kernel
theorem dL_law_1011 : decode cL_law 1011 = .ok (.aload_n 0, 1) := by decide +kernel
theorem dL_law_1012 : decode cL_law 1012 = .ok (.iload_n 3, 1) := by decide +kernel
theorem dL_law_1013 : decode cL_law 1013 = .ok (.iconst 2, 1) := by decide +kernel
theorem dL_law_1014 : decode cL_law 1014 = .ok (.iadd, 1) := by decide +kernel
theorem dL_law_1015 : decode cL_law 1015 = .ok (.iaload, 1) := by decide +kernel
theorem dL_law_1016 : decode cL_law 1016 = .ok (.aload_n 0, 1) := by decide +kernel
theorem dL_law_1017 : decode cL_law 1017 = .ok (.iload_n 3, 1) := by decide +kernel
theorem dL_law_1018 : decode cL_law 1018 = .ok (.iconst 3, 1) := by decide +kernel
theorem dL_law_1019 : decode cL_law 1019 = .ok (.iadd, 1) := by decide +kernel
theorem dL_law_1020 : decode cL_law 1020 = .ok (.iaload, 1) := by decide +kernel
theorem dL_law_1021 : decode cL_law 1021 = .ok (.invokevirtual 124, 3) := by decide +kernel
theorem dL_law_1024 : decode cL_law 1024 = .ok (.if_icmp .eq 529, 3) := by decide +kernel
theorem dL_law_1027 : decode cL_law 1027 = .ok (.iconst 0, 1) := by decide +kernel
theorem dL_law_1028 : decode cL_law 1028 = .ok (.ireturn, 1) := by decide +kernel
theorem dL_law_1029 : decode cL_law 1029 = .ok (.aload_n 1, 1) := by decide +kernel
theorem dL_law_1030 : decode cL_law 1030 = .ok (.aload_n 0, 1) := by decide +kernel
theorem dL_law_1031 : decode cL_law 1031 = .ok (.iload_n 3, 1) := by decide +kernel
theorem dL_law_1032 : decode cL_law 1032 = .ok (.iconst 1, 1) := by decide +kernel
theorem dL_law_1033 : decode cL_law 1033 = .ok (.iadd, 1) := by decide +kernel
theorem dL_law_1034 : decode cL_law 1034 = .ok (.iaload, 1) := by decide +kernel
theorem dL_law_1035 : decode cL_law 1035 = .ok (.invokevirtual 125, 3) := by decide +kernel
theorem dL_law_1038 : decode cL_law 1038 = .ok (.aload_n 2, 1) := by decide +kernel
theorem dL_law_1039 : decode cL_law 1039 = .ok (.aload_n 0, 1) := by decide +kernel
theorem dL_law_1040 : decode cL_law 1040 = .ok (.iload_n 3, 1) := by decide +kernel
theorem dL_law_1041 : decode cL_law 1041 = .ok (.iconst 1, 1) := by decide +kernel
theorem dL_law_1042 : decode cL_law 1042 = .ok (.iadd, 1) := by decide +kernel
theorem dL_law_1043 : decode cL_law 1043 = .ok (.iaload, 1) := by decide +kernel
theorem dL_law_1044 : decode cL_law 1044 = .ok (.invokevirtual 128, 3) := by decide +kernel
theorem dL_law_1047 : decode cL_law 1047 = .ok (.if_icmp .eq 506, 3) := by decide +kernel
theorem dL_law_1050 : decode cL_law 1050 = .ok (.iconst 0, 1) := by decide +kernel
theorem dL_law_1051 : decode cL_law 1051 = .ok (.ireturn, 1) := by decide +kernel
theorem dL_law_1052 : decode cL_law 1052 = .ok (.aload_n 1, 1) := by decide +kernel
theorem dL_law_1053 : decode cL_law 1053 = .ok (.invokevirtual 129, 3) := by decide +kernel
theorem dL_law_1056 : decode cL_law 1056 = .ok (.aload_n 2, 1) := by decide +kernel
theorem dL_law_1057 : decode cL_law 1057 = .ok (.invokevirtual 132, 3) := by decide +kernel
theorem dL_law_1060 : decode cL_law 1060 = .ok (.if_icmp .eq 493, 3) := by decide +kernel
theorem dL_law_1063 : decode cL_law 1063 = .ok (.iconst 0, 1) := by decide +kernel
theorem dL_law_1064 : decode cL_law 1064 = .ok (.ireturn, 1) := by decide +kernel
theorem dL_law_1065 : decode cL_law 1065 = .ok (.aload_n 1, 1) := by decide +kernel
theorem dL_law_1066 : decode cL_law 1066 = .ok (.aload_n 0, 1) := by decide +kernel
theorem dL_law_1067 : decode cL_law 1067 = .ok (.iload_n 3, 1) := by decide +kernel
theorem dL_law_1068 : decode cL_law 1068 = .ok (.iconst 1, 1) := by decide +kernel
theorem dL_law_1069 : decode cL_law 1069 = .ok (.iadd, 1) := by decide +kernel
theorem dL_law_1070 : decode cL_law 1070 = .ok (.iaload, 1) := by decide +kernel
theorem dL_law_1071 : decode cL_law 1071 = .ok (.aload_n 0, 1) := by decide +kernel
theorem dL_law_1072 : decode cL_law 1072 = .ok (.iload_n 3, 1) := by decide +kernel
theorem dL_law_1073 : decode cL_law 1073 = .ok (.iconst 2, 1) := by decide +kernel
theorem dL_law_1074 : decode cL_law 1074 = .ok (.iadd, 1) := by decide +kernel
theorem dL_law_1075 : decode cL_law 1075 = .ok (.iaload, 1) := by decide +kernel
theorem dL_law_1076 : decode cL_law 1076 = .ok (.invokevirtual 133, 3) := by decide +kernel
theorem dL_law_1079 : decode cL_law 1079 = .ok (.aload_n 2, 1) := by decide +kernel
theorem dL_law_1080 : decode cL_law 1080 = .ok (.aload_n 0, 1) := by decide +kernel
theorem dL_law_1081 : decode cL_law 1081 = .ok (.iload_n 3, 1) := by decide +kernel
theorem dL_law_1082 : decode cL_law 1082 = .ok (.iconst 1, 1) := by decide +kernel
theorem dL_law_1083 : decode cL_law 1083 = .ok (.iadd, 1) := by decide +kernel
theorem dL_law_1084 : decode cL_law 1084 = .ok (.iaload, 1) := by decide +kernel
theorem dL_law_1085 : decode cL_law 1085 = .ok (.aload_n 0, 1) := by decide +kernel
theorem dL_law_1086 : decode cL_law 1086 = .ok (.iload_n 3, 1) := by decide +kernel
theorem dL_law_1087 : decode cL_law 1087 = .ok (.iconst 2, 1) := by decide +kernel
theorem dL_law_1088 : decode cL_law 1088 = .ok (.iadd, 1) := by decide +kernel
theorem dL_law_1089 : decode cL_law 1089 = .ok (.iaload, 1) := by decide +kernel
theorem dL_law_1090 : decode cL_law 1090 = .ok (.invokevirtual 136, 3) := by decide +kernel
theorem dL_law_1093 : decode cL_law 1093 = .ok (.if_icmp .eq 460, 3) := by decide +kernel
theorem dL_law_1096 : decode cL_law 1096 = .ok (.iconst 0, 1) := by decide +kernel
theorem dL_law_1097 : decode cL_law 1097 = .ok (.ireturn, 1) := by decide +kernel
theorem dL_law_1098 : decode cL_law 1098 = .ok (.aload_n 1, 1) := by decide +kernel
theorem dL_law_1099 : decode cL_law 1099 = .ok (.aload_n 0, 1) := by decide +kernel
theorem dL_law_1100 : decode cL_law 1100 = .ok (.iload_n 3, 1) := by decide +kernel
theorem dL_law_1101 : decode cL_law 1101 = .ok (.iconst 1, 1) := by decide +kernel
theorem dL_law_1102 : decode cL_law 1102 = .ok (.iadd, 1) := by decide +kernel
theorem dL_law_1103 : decode cL_law 1103 = .ok (.iaload, 1) := by decide +kernel
theorem dL_law_1104 : decode cL_law 1104 = .ok (.invokevirtual 137, 3) := by decide +kernel
theorem dL_law_1107 : decode cL_law 1107 = .ok (.aload_n 2, 1) := by decide +kernel
theorem dL_law_1108 : decode cL_law 1108 = .ok (.aload_n 0, 1) := by decide +kernel
theorem dL_law_1109 : decode cL_law 1109 = .ok (.iload_n 3, 1) := by decide +kernel
theorem dL_law_1110 : decode cL_law 1110 = .ok (.iconst 1, 1) := by decide +kernel
theorem dL_law_1111 : decode cL_law 1111 = .ok (.iadd, 1) := by decide +kernel
theorem dL_law_1112 : decode cL_law 1112 = .ok (.iaload, 1) := by decide +kernel
theorem dL_law_1113 : decode cL_law 1113 = .ok (.invokevirtual 140, 3) := by decide +kernel
theorem dL_law_1116 : decode cL_law 1116 = .ok (.if_icmp .eq 437, 3) := by decide +kernel
theorem dL_law_1119 : decode cL_law 1119 = .ok (.iconst 0, 1) := by decide +kernel
theorem dL_law_1120 : decode cL_law 1120 = .ok (.ireturn, 1) := by decide +kernel
theorem dL_law_1121 : decode cL_law 1121 = .ok (.aload_n 1, 1) := by decide +kernel
theorem dL_law_1122 : decode cL_law 1122 = .ok (.aload_n 0, 1) := by decide +kernel
theorem dL_law_1123 : decode cL_law 1123 = .ok (.iload_n 3, 1) := by decide +kernel
theorem dL_law_1124 : decode cL_law 1124 = .ok (.iconst 1, 1) := by decide +kernel
theorem dL_law_1125 : decode cL_law 1125 = .ok (.iadd, 1) := by decide +kernel
theorem dL_law_1126 : decode cL_law 1126 = .ok (.iaload, 1) := by decide +kernel
theorem dL_law_1127 : decode cL_law 1127 = .ok (.aload_n 0, 1) := by decide +kernel
theorem dL_law_1128 : decode cL_law 1128 = .ok (.iload_n 3, 1) := by decide +kernel
theorem dL_law_1129 : decode cL_law 1129 = .ok (.iconst 2, 1) := by decide +kernel
theorem dL_law_1130 : decode cL_law 1130 = .ok (.iadd, 1) := by decide +kernel
theorem dL_law_1131 : decode cL_law 1131 = .ok (.iaload, 1) := by decide +kernel
theorem dL_law_1132 : decode cL_law 1132 = .ok (.aload_n 0, 1) := by decide +kernel
theorem dL_law_1133 : decode cL_law 1133 = .ok (.iload_n 3, 1) := by decide +kernel
theorem dL_law_1134 : decode cL_law 1134 = .ok (.iconst 3, 1) := by decide +kernel
theorem dL_law_1135 : decode cL_law 1135 = .ok (.iadd, 1) := by decide +kernel
theorem dL_law_1136 : decode cL_law 1136 = .ok (.iaload, 1) := by decide +kernel
theorem dL_law_1137 : decode cL_law 1137 = .ok (.invokevirtual 141, 3) := by decide +kernel
theorem dL_law_1140 : decode cL_law 1140 = .ok (.aload_n 2, 1) := by decide +kernel
theorem dL_law_1141 : decode cL_law 1141 = .ok (.aload_n 0, 1) := by decide +kernel
theorem dL_law_1142 : decode cL_law 1142 = .ok (.iload_n 3, 1) := by decide +kernel
theorem dL_law_1143 : decode cL_law 1143 = .ok (.iconst 1, 1) := by decide +kernel
theorem dL_law_1144 : decode cL_law 1144 = .ok (.iadd, 1) := by decide +kernel
theorem dL_law_1145 : decode cL_law 1145 = .ok (.iaload, 1) := by decide +kernel
theorem dL_law_1146 : decode cL_law 1146 = .ok (.aload_n 0, 1) := by decide +kernel
theorem dL_law_1147 : decode cL_law 1147 = .ok (.iload_n 3, 1) := by decide +kernel
theorem dL_law_1148 : decode cL_law 1148 = .ok (.iconst 2, 1) := by decide +kernel
theorem dL_law_1149 : decode cL_law 1149 = .ok (.iadd, 1) := by decide +kernel
theorem dL_law_1150 : decode cL_law 1150 = .ok (.iaload, 1) := by decide +kernel
theorem dL_law_1151 : decode cL_law 1151 = .ok (.aload_n 0, 1) := by decide +kernel
theorem dL_law_1152 : decode cL_law 1152 = .ok (.iload_n 3, 1) := by decide +kernel
theorem dL_law_1153 : decode cL_law 1153 = .ok (.iconst 3, 1) := by decide +kernel
theorem dL_law_1154 : decode cL_law 1154 = .ok (.iadd, 1) := by decide +kernel
theorem dL_law_1155 : decode cL_law 1155 = .ok (.iaload, 1) := by decide +kernel
theorem dL_law_1156 : decode cL_law 1156 = .ok (.invokevirtual 144, 3) := by decide +kernel
theorem dL_law_1159 : decode cL_law 1159 = .ok (.if_icmp .eq 394, 3) := by decide +kernel
theorem dL_law_1162 : decode cL_law 1162 = .ok (.iconst 0, 1) := by decide +kernel
theorem dL_law_1163 : decode cL_law 1163 = .ok (.ireturn, 1) := by decide +kernel
theorem dL_law_1164 : decode cL_law 1164 = .ok (.aload_n 1, 1) := by decide +kernel
theorem dL_law_1165 : decode cL_law 1165 = .ok (.aload_n 0, 1) := by decide +kernel
theorem dL_law_1166 : decode cL_law 1166 = .ok (.iload_n 3, 1) := by decide +kernel
theorem dL_law_1167 : decode cL_law 1167 = .ok (.iconst 1, 1) := by decide +kernel
theorem dL_law_1168 : decode cL_law 1168 = .ok (.iadd, 1) := by decide +kernel
theorem dL_law_1169 : decode cL_law 1169 = .ok (.iaload, 1) := by decide +kernel
theorem dL_law_1170 : decode cL_law 1170 = .ok (.aload_n 0, 1) := by decide +kernel
theorem dL_law_1171 : decode cL_law 1171 = .ok (.iload_n 3, 1) := by decide +kernel
theorem dL_law_1172 : decode cL_law 1172 = .ok (.iconst 2, 1) := by decide +kernel
theorem dL_law_1173 : decode cL_law 1173 = .ok (.iadd, 1) := by decide +kernel
theorem dL_law_1174 : decode cL_law 1174 = .ok (.iaload, 1) := by decide +kernel
theorem dL_law_1175 : decode cL_law 1175 = .ok (.aload_n 0, 1) := by decide +kernel
theorem dL_law_1176 : decode cL_law 1176 = .ok (.iload_n 3, 1) := by decide +kernel
theorem dL_law_1177 : decode cL_law 1177 = .ok (.iconst 3, 1) := by decide +kernel
theorem dL_law_1178 : decode cL_law 1178 = .ok (.iadd, 1) := by decide +kernel
theorem dL_law_1179 : decode cL_law 1179 = .ok (.iaload, 1) := by decide +kernel
theorem dL_law_1180 : decode cL_law 1180 = .ok (.invokevirtual 145, 3) := by decide +kernel
theorem dL_law_1183 : decode cL_law 1183 = .ok (.aload_n 2, 1) := by decide +kernel
theorem dL_law_1184 : decode cL_law 1184 = .ok (.aload_n 0, 1) := by decide +kernel
theorem dL_law_1185 : decode cL_law 1185 = .ok (.iload_n 3, 1) := by decide +kernel
theorem dL_law_1186 : decode cL_law 1186 = .ok (.iconst 1, 1) := by decide +kernel
theorem dL_law_1187 : decode cL_law 1187 = .ok (.iadd, 1) := by decide +kernel
theorem dL_law_1188 : decode cL_law 1188 = .ok (.iaload, 1) := by decide +kernel
theorem dL_law_1189 : decode cL_law 1189 = .ok (.aload_n 0, 1) := by decide +kernel
theorem dL_law_1190 : decode cL_law 1190 = .ok (.iload_n 3, 1) := by decide +kernel
theorem dL_law_1191 : decode cL_law 1191 = .ok (.iconst 2, 1) := by decide +kernel
theorem dL_law_1192 : decode cL_law 1192 = .ok (.iadd, 1) := by decide +kernel
theorem dL_law_1193 : decode cL_law 1193 = .ok (.iaload, 1) := by decide +kernel
theorem dL_law_1194 : decode cL_law 1194 = .ok (.aload_n 0, 1) := by decide +kernel
theorem dL_law_1195 : decode cL_law 1195 = .ok (.iload_n 3, 1) := by decide +kernel
theorem dL_law_1196 : decode cL_law 1196 = .ok (.iconst 3, 1) := by decide +kernel
theorem dL_law_1197 : decode cL_law 1197 = .ok (.iadd, 1) := by decide +kernel
theorem dL_law_1198 : decode cL_law 1198 = .ok (.iaload, 1) := by decide +kernel
theorem dL_law_1199 : decode cL_law 1199 = .ok (.invokevirtual 148, 3) := by decide +kernel
theorem dL_law_1202 : decode cL_law 1202 = .ok (.if_icmp .eq 351, 3) := by decide +kernel
theorem dL_law_1205 : decode cL_law 1205 = .ok (.iconst 0, 1) := by decide +kernel
theorem dL_law_1206 : decode cL_law 1206 = .ok (.ireturn, 1) := by decide +kernel
theorem dL_law_1207 : decode cL_law 1207 = .ok (.aload_n 1, 1) := by decide +kernel
theorem dL_law_1208 : decode cL_law 1208 = .ok (.aload_n 0, 1) := by decide +kernel
theorem dL_law_1209 : decode cL_law 1209 = .ok (.iload_n 3, 1) := by decide +kernel
theorem dL_law_1210 : decode cL_law 1210 = .ok (.iconst 1, 1) := by decide +kernel
theorem dL_law_1211 : decode cL_law 1211 = .ok (.iadd, 1) := by decide +kernel
theorem dL_law_1212 : decode cL_law 1212 = .ok (.iaload, 1) := by decide +kernel
theorem dL_law_1213 : decode cL_law 1213 = .ok (.invokevirtual 149, 3) := by decide +kernel
theorem dL_law_1216 : decode cL_law 1216 = .ok (.aload_n 2, 1) := by decide +kernel
theorem dL_law_1217 : decode cL_law 1217 = .ok (.aload_n 0, 1) := by decide +kernel
theorem dL_law_1218 : decode cL_law 1218 = .ok (.iload_n 3, 1) := by decide +kernel
theorem dL_law_1219 : decode cL_law 1219 = .ok (.iconst 1, 1) := by decide +kernel
theorem dL_law_1220 : decode cL_law 1220 = .ok (.iadd, 1) := by decide +kernel
theorem dL_law_1221 : decode cL_law 1221 = .ok (.iaload, 1) := by decide +kernel
theorem dL_law_1222 : decode cL_law 1222 = .ok (.invokevirtual 152, 3) := by decide +kernel
theorem dL_law_1225 : decode cL_law 1225 = .ok (.if_icmp .eq 328, 3) := by decide +kernel
theorem dL_law_1228 : decode cL_law 1228 = .ok (.iconst 0, 1) := by decide +kernel
theorem dL_law_1229 : decode cL_law 1229 = .ok (.ireturn, 1) := by decide +kernel
theorem dL_law_1230 : decode cL_law 1230 = .ok (.aload_n 1, 1) := by decide +kernel
theorem dL_law_1231 : decode cL_law 1231 = .ok (.aload_n 0, 1) := by decide +kernel
theorem dL_law_1232 : decode cL_law 1232 = .ok (.iload_n 3, 1) := by decide +kernel
theorem dL_law_1233 : decode cL_law 1233 = .ok (.iconst 1, 1) := by decide +kernel
theorem dL_law_1234 : decode cL_law 1234 = .ok (.iadd, 1) := by decide +kernel
theorem dL_law_1235 : decode cL_law 1235 = .ok (.iaload, 1) := by decide +kernel
theorem dL_law_1236 : decode cL_law 1236 = .ok (.invokevirtual 153, 3) := by decide +kernel
theorem dL_law_1239 : decode cL_law 1239 = .ok (.aload_n 2, 1) := by decide +kernel
theorem dL_law_1240 : decode cL_law 1240 = .ok (.aload_n 0, 1) := by decide +kernel
theorem dL_law_1241 : decode cL_law 1241 = .ok (.iload_n 3, 1) := by decide +kernel
theorem dL_law_1242 : decode cL_law 1242 = .ok (.iconst 1, 1) := by decide +kernel
theorem dL_law_1243 : decode cL_law 1243 = .ok (.iadd, 1) := by decide +kernel
theorem dL_law_1244 : decode cL_law 1244 = .ok (.iaload, 1) := by decide +kernel
theorem dL_law_1245 : decode cL_law 1245 = .ok (.invokevirtual 156, 3) := by decide +kernel
theorem dL_law_1248 : decode cL_law 1248 = .ok (.if_icmp .eq 305, 3) := by decide +kernel
theorem dL_law_1251 : decode cL_law 1251 = .ok (.iconst 0, 1) := by decide +kernel
theorem dL_law_1252 : decode cL_law 1252 = .ok (.ireturn, 1) := by decide +kernel
theorem dL_law_1253 : decode cL_law 1253 = .ok (.aload_n 1, 1) := by decide +kernel
theorem dL_law_1254 : decode cL_law 1254 = .ok (.aload_n 0, 1) := by decide +kernel
theorem dL_law_1255 : decode cL_law 1255 = .ok (.iload_n 3, 1) := by decide +kernel
theorem dL_law_1256 : decode cL_law 1256 = .ok (.iconst 1, 1) := by decide +kernel
theorem dL_law_1257 : decode cL_law 1257 = .ok (.iadd, 1) := by decide +kernel
theorem dL_law_1258 : decode cL_law 1258 = .ok (.iaload, 1) := by decide +kernel
theorem dL_law_1259 : decode cL_law 1259 = .ok (.aload_n 0, 1) := by decide +kernel
theorem dL_law_1260 : decode cL_law 1260 = .ok (.iload_n 3, 1) := by decide +kernel
theorem dL_law_1261 : decode cL_law 1261 = .ok (.iconst 2, 1) := by decide +kernel
theorem dL_law_1262 : decode cL_law 1262 = .ok (.iadd, 1) := by decide +kernel
theorem dL_law_1263 : decode cL_law 1263 = .ok (.iaload, 1) := by decide +kernel
theorem dL_law_1264 : decode cL_law 1264 = .ok (.aload_n 0, 1) := by decide +kernel
theorem dL_law_1265 : decode cL_law 1265 = .ok (.iload_n 3, 1) := by decide +kernel
theorem dL_law_1266 : decode cL_law 1266 = .ok (.iconst 3, 1) := by decide +kernel
theorem dL_law_1267 : decode cL_law 1267 = .ok (.iadd, 1) := by decide +kernel
theorem dL_law_1268 : decode cL_law 1268 = .ok (.iaload, 1) := by decide +kernel
theorem dL_law_1269 : decode cL_law 1269 = .ok (.aload_n 0, 1) := by decide +kernel
theorem dL_law_1270 : decode cL_law 1270 = .ok (.iload_n 3, 1) := by decide +kernel
theorem dL_law_1271 : decode cL_law 1271 = .ok (.iconst 4, 1) := by decide +kernel
theorem dL_law_1272 : decode cL_law 1272 = .ok (.iadd, 1) := by decide +kernel
theorem dL_law_1273 : decode cL_law 1273 = .ok (.iaload, 1) := by decide +kernel
theorem dL_law_1274 : decode cL_law 1274 = .ok (.aload_n 0, 1) := by decide +kernel
theorem dL_law_1275 : decode cL_law 1275 = .ok (.iload_n 3, 1) := by decide +kernel
theorem dL_law_1276 : decode cL_law 1276 = .ok (.iconst 5, 1) := by decide +kernel
theorem dL_law_1277 : decode cL_law 1277 = .ok (.iadd, 1) := by decide +kernel
theorem dL_law_1278 : decode cL_law 1278 = .ok (.iaload, 1) := by decide +kernel
theorem dL_law_1279 : decode cL_law 1279 = .ok (.invokevirtual 157, 3) := by decide +kernel
theorem dL_law_1282 : decode cL_law 1282 = .ok (.aload_n 2, 1) := by decide +kernel
theorem dL_law_1283 : decode cL_law 1283 = .ok (.aload_n 0, 1) := by decide +kernel
theorem dL_law_1284 : decode cL_law 1284 = .ok (.iload_n 3, 1) := by decide +kernel
theorem dL_law_1285 : decode cL_law 1285 = .ok (.iconst 1, 1) := by decide +kernel
theorem dL_law_1286 : decode cL_law 1286 = .ok (.iadd, 1) := by decide +kernel
theorem dL_law_1287 : decode cL_law 1287 = .ok (.iaload, 1) := by decide +kernel
theorem dL_law_1288 : decode cL_law 1288 = .ok (.aload_n 0, 1) := by decide +kernel
theorem dL_law_1289 : decode cL_law 1289 = .ok (.iload_n 3, 1) := by decide +kernel
theorem dL_law_1290 : decode cL_law 1290 = .ok (.iconst 2, 1) := by decide +kernel
theorem dL_law_1291 : decode cL_law 1291 = .ok (.iadd, 1) := by decide +kernel
theorem dL_law_1292 : decode cL_law 1292 = .ok (.iaload, 1) := by decide +kernel
theorem dL_law_1293 : decode cL_law 1293 = .ok (.aload_n 0, 1) := by decide +kernel
theorem dL_law_1294 : decode cL_law 1294 = .ok (.iload_n 3, 1) := by decide +kernel
theorem dL_law_1295 : decode cL_law 1295 = .ok (.iconst 3, 1) := by decide +kernel
theorem dL_law_1296 : decode cL_law 1296 = .ok (.iadd, 1) := by decide +kernel
theorem dL_law_1297 : decode cL_law 1297 = .ok (.iaload, 1) := by decide +kernel
theorem dL_law_1298 : decode cL_law 1298 = .ok (.aload_n 0, 1) := by decide +kernel
theorem dL_law_1299 : decode cL_law 1299 = .ok (.iload_n 3, 1) := by decide +kernel
theorem dL_law_1300 : decode cL_law 1300 = .ok (.iconst 4, 1) := by decide +kernel
theorem dL_law_1301 : decode cL_law 1301 = .ok (.iadd, 1) := by decide +kernel
theorem dL_law_1302 : decode cL_law 1302 = .ok (.iaload, 1) := by decide +kernel
theorem dL_law_1303 : decode cL_law 1303 = .ok (.aload_n 0, 1) := by decide +kernel
theorem dL_law_1304 : decode cL_law 1304 = .ok (.iload_n 3, 1) := by decide +kernel
theorem dL_law_1305 : decode cL_law 1305 = .ok (.iconst 5, 1) := by decide +kernel
theorem dL_law_1306 : decode cL_law 1306 = .ok (.iadd, 1) := by decide +kernel
theorem dL_law_1307 : decode cL_law 1307 = .ok (.iaload, 1) := by decide +kernel
theorem dL_law_1308 : decode cL_law 1308 = .ok (.invokevirtual 161, 3) := by decide +kernel
theorem dL_law_1311 : decode cL_law 1311 = .ok (.if_icmp .eq 242, 3) := by decide +kernel
theorem dL_law_1314 : decode cL_law 1314 = .ok (.iconst 0, 1) := by decide +kernel
theorem dL_law_1315 : decode cL_law 1315 = .ok (.ireturn, 1) := by decide +kernel
theorem dL_law_1316 : decode cL_law 1316 = .ok (.aload_n 1, 1) := by decide +kernel
theorem dL_law_1317 : decode cL_law 1317 = .ok (.aload_n 0, 1) := by decide +kernel
theorem dL_law_1318 : decode cL_law 1318 = .ok (.iload_n 3, 1) := by decide +kernel
theorem dL_law_1319 : decode cL_law 1319 = .ok (.iconst 1, 1) := by decide +kernel
theorem dL_law_1320 : decode cL_law 1320 = .ok (.iadd, 1) := by decide +kernel
theorem dL_law_1321 : decode cL_law 1321 = .ok (.iaload, 1) := by decide +kernel
theorem dL_law_1322 : decode cL_law 1322 = .ok (.aload_n 0, 1) := by decide +kernel
theorem dL_law_1323 : decode cL_law 1323 = .ok (.iload_n 3, 1) := by decide +kernel
theorem dL_law_1324 : decode cL_law 1324 = .ok (.iconst 2, 1) := by decide +kernel
theorem dL_law_1325 : decode cL_law 1325 = .ok (.iadd, 1) := by decide +kernel
theorem dL_law_1326 : decode cL_law 1326 = .ok (.iaload, 1) := by decide +kernel
theorem dL_law_1327 : decode cL_law 1327 = .ok (.aload_n 0, 1) := by decide +kernel
theorem dL_law_1328 : decode cL_law 1328 = .ok (.iload_n 3, 1) := by decide +kernel
theorem dL_law_1329 : decode cL_law 1329 = .ok (.iconst 3, 1) := by decide +kernel
theorem dL_law_1330 : decode cL_law 1330 = .ok (.iadd, 1) := by decide +kernel
theorem dL_law_1331 : decode cL_law 1331 = .ok (.iaload, 1) := by decide +kernel
theorem dL_law_1332 : decode cL_law 1332 = .ok (.invokevirtual 162, 3) := by decide +kernel
theorem dL_law_1335 : decode cL_law 1335 = .ok (.aload_n 2, 1) := by decide +kernel
theorem dL_law_1336 : decode cL_law 1336 = .ok (.aload_n 0, 1) := by decide +kernel
theorem dL_law_1337 : decode cL_law 1337 = .ok (.iload_n 3, 1) := by decide +kernel
theorem dL_law_1338 : decode cL_law 1338 = .ok (.iconst 1, 1) := by decide +kernel
theorem dL_law_1339 : decode cL_law 1339 = .ok (.iadd, 1) := by decide +kernel
theorem dL_law_1340 : decode cL_law 1340 = .ok (.iaload, 1) := by decide +kernel
theorem dL_law_1341 : decode cL_law 1341 = .ok (.aload_n 0, 1) := by decide +kernel
theorem dL_law_1342 : decode cL_law 1342 = .ok (.iload_n 3, 1) := by decide +kernel
theorem dL_law_1343 : decode cL_law 1343 = .ok (.iconst 2, 1) := by decide +kernel
theorem dL_law_1344 : decode cL_law 1344 = .ok (.iadd, 1) := by decide +kernel
theorem dL_law_1345 : decode cL_law 1345 = .ok (.iaload, 1) := by decide +kernel
theorem dL_law_1346 : decode cL_law 1346 = .ok (.aload_n 0, 1) := by decide +kernel
theorem dL_law_1347 : decode cL_law 1347 = .ok (.iload_n 3, 1) := by decide +kernel
theorem dL_law_1348 : decode cL_law 1348 = .ok (.iconst 3, 1) := by decide +kernel
theorem dL_law_1349 : decode cL_law 1349 = .ok (.iadd, 1) := by decide +kernel
theorem dL_law_1350 : decode cL_law 1350 = .ok (.iaload, 1) := by decide +kernel
theorem dL_law_1351 : decode cL_law 1351 = .ok (.invokevirtual 165, 3) := by decide +kernel
theorem dL_law_1354 : decode cL_law 1354 = .ok (.if_icmp .eq 199, 3) := by decide +kernel
theorem dL_law_1357 : decode cL_law 1357 = .ok (.iconst 0, 1) := by decide +kernel
theorem dL_law_1358 : decode cL_law 1358 = .ok (.ireturn, 1) := by decide +kernel
theorem dL_law_1359 : decode cL_law 1359 = .ok (.aload_n 1, 1) := by decide +kernel
theorem dL_law_1360 : decode cL_law 1360 = .ok (.aload_n 0, 1) := by decide +kernel
theorem dL_law_1361 : decode cL_law 1361 = .ok (.iload_n 3, 1) := by decide +kernel
theorem dL_law_1362 : decode cL_law 1362 = .ok (.iconst 1, 1) := by decide +kernel
theorem dL_law_1363 : decode cL_law 1363 = .ok (.iadd, 1) := by decide +kernel
theorem dL_law_1364 : decode cL_law 1364 = .ok (.iaload, 1) := by decide +kernel
theorem dL_law_1365 : decode cL_law 1365 = .ok (.aload_n 0, 1) := by decide +kernel
theorem dL_law_1366 : decode cL_law 1366 = .ok (.iload_n 3, 1) := by decide +kernel
theorem dL_law_1367 : decode cL_law 1367 = .ok (.iconst 2, 1) := by decide +kernel
theorem dL_law_1368 : decode cL_law 1368 = .ok (.iadd, 1) := by decide +kernel
theorem dL_law_1369 : decode cL_law 1369 = .ok (.iaload, 1) := by decide +kernel
theorem dL_law_1370 : decode cL_law 1370 = .ok (.invokevirtual 166, 3) := by decide +kernel
theorem dL_law_1373 : decode cL_law 1373 = .ok (.aload_n 2, 1) := by decide +kernel
theorem dL_law_1374 : decode cL_law 1374 = .ok (.aload_n 0, 1) := by decide +kernel
theorem dL_law_1375 : decode cL_law 1375 = .ok (.iload_n 3, 1) := by decide +kernel
theorem dL_law_1376 : decode cL_law 1376 = .ok (.iconst 1, 1) := by decide +kernel
theorem dL_law_1377 : decode cL_law 1377 = .ok (.iadd, 1) := by decide +kernel
theorem dL_law_1378 : decode cL_law 1378 = .ok (.iaload, 1) := by decide +kernel
theorem dL_law_1379 : decode cL_law 1379 = .ok (.aload_n 0, 1) := by decide +kernel
theorem dL_law_1380 : decode cL_law 1380 = .ok (.iload_n 3, 1) := by decide +kernel
theorem dL_law_1381 : decode cL_law 1381 = .ok (.iconst 2, 1) := by decide +kernel
theorem dL_law_1382 : decode cL_law 1382 = .ok (.iadd, 1) := by decide +kernel
theorem dL_law_1383 : decode cL_law 1383 = .ok (.iaload, 1) := by decide +kernel
theorem dL_law_1384 : decode cL_law 1384 = .ok (.invokevirtual 169, 3) := by decide +kernel
theorem dL_law_1387 : decode cL_law 1387 = .ok (.if_icmp .eq 166, 3) := by decide +kernel
theorem dL_law_1390 : decode cL_law 1390 = .ok (.iconst 0, 1) := by decide +kernel
theorem dL_law_1391 : decode cL_law 1391 = .ok (.ireturn, 1) := by decide +kernel
theorem dL_law_1392 : decode cL_law 1392 = .ok (.aload_n 1, 1) := by decide +kernel
theorem dL_law_1393 : decode cL_law 1393 = .ok (.aload_n 0, 1) := by decide +kernel
theorem dL_law_1394 : decode cL_law 1394 = .ok (.iload_n 3, 1) := by decide +kernel
theorem dL_law_1395 : decode cL_law 1395 = .ok (.iconst 1, 1) := by decide +kernel
theorem dL_law_1396 : decode cL_law 1396 = .ok (.iadd, 1) := by decide +kernel
theorem dL_law_1397 : decode cL_law 1397 = .ok (.iaload, 1) := by decide +kernel
theorem dL_law_1398 : decode cL_law 1398 = .ok (.aload_n 0, 1) := by decide +kernel
theorem dL_law_1399 : decode cL_law 1399 = .ok (.iload_n 3, 1) := by decide +kernel
theorem dL_law_1400 : decode cL_law 1400 = .ok (.iconst 2, 1) := by decide +kernel
theorem dL_law_1401 : decode cL_law 1401 = .ok (.iadd, 1) := by decide +kernel
theorem dL_law_1402 : decode cL_law 1402 = .ok (.iaload, 1) := by decide +kernel
theorem dL_law_1403 : decode cL_law 1403 = .ok (.invokevirtual 170, 3) := by decide +kernel
theorem dL_law_1406 : decode cL_law 1406 = .ok (.aload_n 2, 1) := by decide +kernel
theorem dL_law_1407 : decode cL_law 1407 = .ok (.aload_n 0, 1) := by decide +kernel
theorem dL_law_1408 : decode cL_law 1408 = .ok (.iload_n 3, 1) := by decide +kernel
theorem dL_law_1409 : decode cL_law 1409 = .ok (.iconst 1, 1) := by decide +kernel
theorem dL_law_1410 : decode cL_law 1410 = .ok (.iadd, 1) := by decide +kernel
theorem dL_law_1411 : decode cL_law 1411 = .ok (.iaload, 1) := by decide +kernel
theorem dL_law_1412 : decode cL_law 1412 = .ok (.aload_n 0, 1) := by decide +kernel
theorem dL_law_1413 : decode cL_law 1413 = .ok (.iload_n 3, 1) := by decide +kernel
theorem dL_law_1414 : decode cL_law 1414 = .ok (.iconst 2, 1) := by decide +kernel
theorem dL_law_1415 : decode cL_law 1415 = .ok (.iadd, 1) := by decide +kernel
theorem dL_law_1416 : decode cL_law 1416 = .ok (.iaload, 1) := by decide +kernel
theorem dL_law_1417 : decode cL_law 1417 = .ok (.invokevirtual 173, 3) := by decide +kernel
theorem dL_law_1420 : decode cL_law 1420 = .ok (.if_icmp .eq 133, 3) := by decide +kernel
theorem dL_law_1423 : decode cL_law 1423 = .ok (.iconst 0, 1) := by decide +kernel
theorem dL_law_1424 : decode cL_law 1424 = .ok (.ireturn, 1) := by decide +kernel
theorem dL_law_1425 : decode cL_law 1425 = .ok (.aload_n 1, 1) := by decide +kernel
theorem dL_law_1426 : decode cL_law 1426 = .ok (.aload_n 0, 1) := by decide +kernel
theorem dL_law_1427 : decode cL_law 1427 = .ok (.iload_n 3, 1) := by decide +kernel
theorem dL_law_1428 : decode cL_law 1428 = .ok (.iconst 1, 1) := by decide +kernel
theorem dL_law_1429 : decode cL_law 1429 = .ok (.iadd, 1) := by decide +kernel
theorem dL_law_1430 : decode cL_law 1430 = .ok (.iaload, 1) := by decide +kernel
theorem dL_law_1431 : decode cL_law 1431 = .ok (.aload_n 0, 1) := by decide +kernel
theorem dL_law_1432 : decode cL_law 1432 = .ok (.iload_n 3, 1) := by decide +kernel
theorem dL_law_1433 : decode cL_law 1433 = .ok (.iconst 2, 1) := by decide +kernel
theorem dL_law_1434 : decode cL_law 1434 = .ok (.iadd, 1) := by decide +kernel
theorem dL_law_1435 : decode cL_law 1435 = .ok (.iaload, 1) := by decide +kernel
theorem dL_law_1436 : decode cL_law 1436 = .ok (.invokevirtual 174, 3) := by decide +kernel
theorem dL_law_1439 : decode cL_law 1439 = .ok (.aload_n 2, 1) := by decide +kernel
theorem dL_law_1440 : decode cL_law 1440 = .ok (.aload_n 0, 1) := by decide +kernel
theorem dL_law_1441 : decode cL_law 1441 = .ok (.iload_n 3, 1) := by decide +kernel
theorem dL_law_1442 : decode cL_law 1442 = .ok (.iconst 1, 1) := by decide +kernel
theorem dL_law_1443 : decode cL_law 1443 = .ok (.iadd, 1) := by decide +kernel
theorem dL_law_1444 : decode cL_law 1444 = .ok (.iaload, 1) := by decide +kernel
theorem dL_law_1445 : decode cL_law 1445 = .ok (.aload_n 0, 1) := by decide +kernel
theorem dL_law_1446 : decode cL_law 1446 = .ok (.iload_n 3, 1) := by decide +kernel
theorem dL_law_1447 : decode cL_law 1447 = .ok (.iconst 2, 1) := by decide +kernel
theorem dL_law_1448 : decode cL_law 1448 = .ok (.iadd, 1) := by decide +kernel
theorem dL_law_1449 : decode cL_law 1449 = .ok (.iaload, 1) := by decide +kernel
theorem dL_law_1450 : decode cL_law 1450 = .ok (.invokevirtual 177, 3) := by decide +kernel
theorem dL_law_1453 : decode cL_law 1453 = .ok (.if_icmp .eq 100, 3) := by decide +kernel
theorem dL_law_1456 : decode cL_law 1456 = .ok (.iconst 0, 1) := by decide +kernel
theorem dL_law_1457 : decode cL_law 1457 = .ok (.ireturn, 1) := by decide +kernel
theorem dL_law_1458 : decode cL_law 1458 = .ok (.aload_n 1, 1) := by decide +kernel
theorem dL_law_1459 : decode cL_law 1459 = .ok (.aload_n 0, 1) := by decide +kernel
theorem dL_law_1460 : decode cL_law 1460 = .ok (.iload_n 3, 1) := by decide +kernel
theorem dL_law_1461 : decode cL_law 1461 = .ok (.iconst 1, 1) := by decide +kernel
theorem dL_law_1462 : decode cL_law 1462 = .ok (.iadd, 1) := by decide +kernel
theorem dL_law_1463 : decode cL_law 1463 = .ok (.iaload, 1) := by decide +kernel
theorem dL_law_1464 : decode cL_law 1464 = .ok (.invokevirtual 178, 3) := by decide +kernel
theorem dL_law_1467 : decode cL_law 1467 = .ok (.aload_n 2, 1) := by decide +kernel
theorem dL_law_1468 : decode cL_law 1468 = .ok (.aload_n 0, 1) := by decide +kernel
theorem dL_law_1469 : decode cL_law 1469 = .ok (.iload_n 3, 1) := by decide +kernel
theorem dL_law_1470 : decode cL_law 1470 = .ok (.iconst 1, 1) := by decide +kernel
theorem dL_law_1471 : decode cL_law 1471 = .ok (.iadd, 1) := by decide +kernel
theorem dL_law_1472 : decode cL_law 1472 = .ok (.iaload, 1) := by decide +kernel
theorem dL_law_1473 : decode cL_law 1473 = .ok (.invokevirtual 181, 3) := by decide +kernel
theorem dL_law_1476 : decode cL_law 1476 = .ok (.if_icmp .eq 77, 3) := by decide +kernel
theorem dL_law_1479 : decode cL_law 1479 = .ok (.iconst 0, 1) := by decide +kernel
theorem dL_law_1480 : decode cL_law 1480 = .ok (.ireturn, 1) := by decide +kernel
theorem dL_law_1481 : decode cL_law 1481 = .ok (.aload_n 1, 1) := by decide +kernel
theorem dL_law_1482 : decode cL_law 1482 = .ok (.aload_n 0, 1) := by decide +kernel
theorem dL_law_1483 : decode cL_law 1483 = .ok (.iload_n 3, 1) := by decide +kernel
theorem dL_law_1484 : decode cL_law 1484 = .ok (.iconst 1, 1) := by decide +kernel
theorem dL_law_1485 : decode cL_law 1485 = .ok (.iadd, 1) := by decide +kernel
theorem dL_law_1486 : decode cL_law 1486 = .ok (.iaload, 1) := by decide +kernel
theorem dL_law_1487 : decode cL_law 1487 = .ok (.invokevirtual 182, 3) := by decide +kernel
theorem dL_law_1490 : decode cL_law 1490 = .ok (.aload_n 2, 1) := by decide +kernel
theorem dL_law_1491 : decode cL_law 1491 = .ok (.aload_n 0, 1) := by decide +kernel
theorem dL_law_1492 : decode cL_law 1492 = .ok (.iload_n 3, 1) := by decide +kernel
theorem dL_law_1493 : decode cL_law 1493 = .ok (.iconst 1, 1) := by decide +kernel
theorem dL_law_1494 : decode cL_law 1494 = .ok (.iadd, 1) := by decide +kernel
theorem dL_law_1495 : decode cL_law 1495 = .ok (.iaload, 1) := by decide +kernel
theorem dL_law_1496 : decode cL_law 1496 = .ok (.invokevirtual 185, 3) := by decide +kernel
theorem dL_law_1499 : decode cL_law 1499 = .ok (.if_icmp .eq 54, 3) := by decide +kernel
theorem dL_law_1502 : decode cL_law 1502 = .ok (.iconst 0, 1) := by decide +kernel
theorem dL_law_1503 : decode cL_law 1503 = .ok (.ireturn, 1) := by decide +kernel
theorem dL_law_1504 : decode cL_law 1504 = .ok (.aload_n 1, 1) := by decide +kernel
theorem dL_law_1505 : decode cL_law 1505 = .ok (.invokevirtual 186, 3) := by decide +kernel
theorem dL_law_1508 : decode cL_law 1508 = .ok (.aload_n 2, 1) := by decide +kernel
theorem dL_law_1509 : decode cL_law 1509 = .ok (.invokevirtual 189, 3) := by decide +kernel
theorem dL_law_1512 : decode cL_law 1512 = .ok (.if_icmp .eq 41, 3) := by decide +kernel
theorem dL_law_1515 : decode cL_law 1515 = .ok (.iconst 0, 1) := by decide +kernel
theorem dL_law_1516 : decode cL_law 1516 = .ok (.ireturn, 1) := by decide +kernel
theorem dL_law_1517 : decode cL_law 1517 = .ok (.aload_n 1, 1) := by decide +kernel
theorem dL_law_1518 : decode cL_law 1518 = .ok (.invokevirtual 190, 3) := by decide +kernel
theorem dL_law_1521 : decode cL_law 1521 = .ok (.aload_n 2, 1) := by decide +kernel
theorem dL_law_1522 : decode cL_law 1522 = .ok (.invokevirtual 193, 3) := by decide +kernel
theorem dL_law_1525 : decode cL_law 1525 = .ok (.if_icmp .eq 28, 3) := by decide +kernel
theorem dL_law_1528 : decode cL_law 1528 = .ok (.iconst 0, 1) := by decide +kernel
theorem dL_law_1529 : decode cL_law 1529 = .ok (.ireturn, 1) := by decide +kernel
theorem dL_law_1530 : decode cL_law 1530 = .ok (.aload_n 1, 1) := by decide +kernel
theorem dL_law_1531 : decode cL_law 1531 = .ok (.aload_n 0, 1) := by decide +kernel
theorem dL_law_1532 : decode cL_law 1532 = .ok (.iload_n 3, 1) := by decide +kernel
theorem dL_law_1533 : decode cL_law 1533 = .ok (.iconst 1, 1) := by decide +kernel
theorem dL_law_1534 : decode cL_law 1534 = .ok (.iadd, 1) := by decide +kernel
theorem dL_law_1535 : decode cL_law 1535 = .ok (.iaload, 1) := by decide +kernel
theorem dL_law_1536 : decode cL_law 1536 = .ok (.invokevirtual 194, 3) := by decide +kernel
theorem dL_law_1539 : decode cL_law 1539 = .ok (.aload_n 2, 1) := by decide +kernel
theorem dL_law_1540 : decode cL_law 1540 = .ok (.aload_n 0, 1) := by decide +kernel
theorem dL_law_1541 : decode cL_law 1541 = .ok (.iload_n 3, 1) := by decide +kernel
theorem dL_law_1542 : decode cL_law 1542 = .ok (.iconst 1, 1) := by decide +kernel
theorem dL_law_1543 : decode cL_law 1543 = .ok (.iadd, 1) := by decide +kernel
theorem dL_law_1544 : decode cL_law 1544 = .ok (.iaload, 1) := by decide +kernel
theorem dL_law_1545 : decode cL_law 1545 = .ok (.invokevirtual 197, 3) := by decide +kernel
theorem dL_law_1548 : decode cL_law 1548 = .ok (.if_icmp .eq 5, 3) := by decide +kernel
theorem dL_law_1551 : decode cL_law 1551 = .ok (.iconst 0, 1) := by decide +kernel
theorem dL_law_1552 : decode cL_law 1552 = .ok (.ireturn, 1) := by decide +kernel
theorem dL_law_1553 : decode cL_law 1553 = .ok (.iinc 3 6, 3) := by decide +kernel
theorem dL_law_1556 : decode cL_law 1556 = .ok (.goto (-1538), 3) := by decide +kernel
theorem dL_law_1559 : decode cL_law 1559 = .ok (.iconst 1, 1) := by decide +kernel
theorem dL_law_1560 : decode cL_law 1560 = .ok (.ireturn, 1) := by decide +kernel
end
