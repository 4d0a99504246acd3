section
-- ===== PART A: goes FIRST, ahead of the names: the tables' words, and 'selects' of the private methods out of them =====
/-- a private method of a class that the tables say can be made, by its rows of tables_1 -/
def lw_okq (q : MethodName × Nat) : Prop := (q.1.cls ≠ "java/lang/invoke/MethodHandle" ∧ q.1.cls ≠ "java/lang/invoke/VarHandle") ∧ Cond.instantiable q.1.cls q.2 ∈ tables_1 ∧ Cond.privateMethod q.1 ∈ tables_1 ∧ Cond.instanceMethod q.1 ∈ tables_1
theorem lw_p0 : lw_okq (⟨"java/util/ArrayList", "add", "(Ljava/lang/Object;[Ljava/lang/Object;I)V"⟩, 3) := ⟨⟨by decide +kernel, by decide +kernel⟩, List.mem_of_getElem? (i := 31) (by decide +kernel), List.mem_of_getElem? (i := 190) (by decide +kernel), List.mem_of_getElem? (i := 191) (by decide +kernel)⟩
theorem lw_p1 : lw_okq (⟨"java/util/ArrayList", "grow", "()[Ljava/lang/Object;"⟩, 3) := ⟨⟨by decide +kernel, by decide +kernel⟩, List.mem_of_getElem? (i := 31) (by decide +kernel), List.mem_of_getElem? (i := 194) (by decide +kernel), List.mem_of_getElem? (i := 195) (by decide +kernel)⟩
theorem lw_p2 : lw_okq (⟨"java/util/ArrayList", "grow", "(I)[Ljava/lang/Object;"⟩, 3) := ⟨⟨by decide +kernel, by decide +kernel⟩, List.mem_of_getElem? (i := 31) (by decide +kernel), List.mem_of_getElem? (i := 198) (by decide +kernel), List.mem_of_getElem? (i := 199) (by decide +kernel)⟩
theorem lw_p3 : lw_okq (⟨"CriersOffice", "isSquare", "(I)Z"⟩, 14) := ⟨⟨by decide +kernel, by decide +kernel⟩, List.mem_of_getElem? (i := 23) (by decide +kernel), List.mem_of_getElem? (i := 249) (by decide +kernel), List.mem_of_getElem? (i := 250) (by decide +kernel)⟩
theorem lw_p4 : lw_okq (⟨"CriersOffice", "walkBetween", "(II)I"⟩, 14) := ⟨⟨by decide +kernel, by decide +kernel⟩, List.mem_of_getElem? (i := 23) (by decide +kernel), List.mem_of_getElem? (i := 253) (by decide +kernel), List.mem_of_getElem? (i := 254) (by decide +kernel)⟩
theorem lw_p5 : lw_okq (⟨"CriersOffice", "wasCryToday", "()Z"⟩, 14) := ⟨⟨by decide +kernel, by decide +kernel⟩, List.mem_of_getElem? (i := 23) (by decide +kernel), List.mem_of_getElem? (i := 282) (by decide +kernel), List.mem_of_getElem? (i := 283) (by decide +kernel)⟩
theorem lw_p6 : lw_okq (⟨"CriersOffice", "hasMarket", "(III)Z"⟩, 14) := ⟨⟨by decide +kernel, by decide +kernel⟩, List.mem_of_getElem? (i := 23) (by decide +kernel), List.mem_of_getElem? (i := 330) (by decide +kernel), List.mem_of_getElem? (i := 331) (by decide +kernel)⟩
theorem lw_p7 : lw_okq (⟨"CriersOffice", "find", "(I)I"⟩, 14) := ⟨⟨by decide +kernel, by decide +kernel⟩, List.mem_of_getElem? (i := 23) (by decide +kernel), List.mem_of_getElem? (i := 348) (by decide +kernel), List.mem_of_getElem? (i := 349) (by decide +kernel)⟩
theorem lw_p8 : lw_okq (⟨"CriersOffice$BarredPieces", "keep", "(LCriersOffice$Sheet;II)V"⟩, 3) := ⟨⟨by decide +kernel, by decide +kernel⟩, List.mem_of_getElem? (i := 76) (by decide +kernel), List.mem_of_getElem? (i := 416) (by decide +kernel), List.mem_of_getElem? (i := 417) (by decide +kernel)⟩
theorem lw_p9 : lw_okq (⟨"CriersOffice$BarredPieces", "isAlikeAny", "(LCriersOffice$Sheet;II)Z"⟩, 3) := ⟨⟨by decide +kernel, by decide +kernel⟩, List.mem_of_getElem? (i := 76) (by decide +kernel), List.mem_of_getElem? (i := 431) (by decide +kernel), List.mem_of_getElem? (i := 432) (by decide +kernel)⟩
theorem lw_p10 : lw_okq (⟨"CriersOffice$BarredPieces", "isAlike", "(ILCriersOffice$Sheet;I)Z"⟩, 3) := ⟨⟨by decide +kernel, by decide +kernel⟩, List.mem_of_getElem? (i := 76) (by decide +kernel), List.mem_of_getElem? (i := 435) (by decide +kernel), List.mem_of_getElem? (i := 436) (by decide +kernel)⟩
theorem lw_p11 : lw_okq (⟨"CriersOffice", "areSquares", "(I)Z"⟩, 14) := ⟨⟨by decide +kernel, by decide +kernel⟩, List.mem_of_getElem? (i := 23) (by decide +kernel), List.mem_of_getElem? (i := 450) (by decide +kernel), List.mem_of_getElem? (i := 451) (by decide +kernel)⟩
theorem lw_p12 : lw_okq (⟨"CriersOffice", "isNotice", "(I)Z"⟩, 14) := ⟨⟨by decide +kernel, by decide +kernel⟩, List.mem_of_getElem? (i := 23) (by decide +kernel), List.mem_of_getElem? (i := 506) (by decide +kernel), List.mem_of_getElem? (i := 507) (by decide +kernel)⟩
theorem lw_p13 : lw_okq (⟨"CriersOffice", "feeOf", "(LCriersOffice$Notice;)I"⟩, 14) := ⟨⟨by decide +kernel, by decide +kernel⟩, List.mem_of_getElem? (i := 23) (by decide +kernel), List.mem_of_getElem? (i := 531) (by decide +kernel), List.mem_of_getElem? (i := 532) (by decide +kernel)⟩
theorem lw_p14 : lw_okq (⟨"CriersOffice", "lostJoinedWith", "(LCriersOffice$Notice;)I"⟩, 14) := ⟨⟨by decide +kernel, by decide +kernel⟩, List.mem_of_getElem? (i := 23) (by decide +kernel), List.mem_of_getElem? (i := 541) (by decide +kernel), List.mem_of_getElem? (i := 542) (by decide +kernel)⟩
theorem lw_p15 : lw_okq (⟨"CriersOffice", "isCrier", "(I)Z"⟩, 14) := ⟨⟨by decide +kernel, by decide +kernel⟩, List.mem_of_getElem? (i := 23) (by decide +kernel), List.mem_of_getElem? (i := 582) (by decide +kernel), List.mem_of_getElem? (i := 583) (by decide +kernel)⟩
def lw_privs_1 : List (MethodName × Nat) := [(⟨"java/util/ArrayList", "add", "(Ljava/lang/Object;[Ljava/lang/Object;I)V"⟩, 3), (⟨"java/util/ArrayList", "grow", "()[Ljava/lang/Object;"⟩, 3), (⟨"java/util/ArrayList", "grow", "(I)[Ljava/lang/Object;"⟩, 3), (⟨"CriersOffice", "isSquare", "(I)Z"⟩, 14), (⟨"CriersOffice", "walkBetween", "(II)I"⟩, 14), (⟨"CriersOffice", "wasCryToday", "()Z"⟩, 14), (⟨"CriersOffice", "hasMarket", "(III)Z"⟩, 14), (⟨"CriersOffice", "find", "(I)I"⟩, 14), (⟨"CriersOffice$BarredPieces", "keep", "(LCriersOffice$Sheet;II)V"⟩, 3), (⟨"CriersOffice$BarredPieces", "isAlikeAny", "(LCriersOffice$Sheet;II)Z"⟩, 3), (⟨"CriersOffice$BarredPieces", "isAlike", "(ILCriersOffice$Sheet;I)Z"⟩, 3), (⟨"CriersOffice", "areSquares", "(I)Z"⟩, 14), (⟨"CriersOffice", "isNotice", "(I)Z"⟩, 14), (⟨"CriersOffice", "feeOf", "(LCriersOffice$Notice;)I"⟩, 14), (⟨"CriersOffice", "lostJoinedWith", "(LCriersOffice$Notice;)I"⟩, 14), (⟨"CriersOffice", "isCrier", "(I)Z"⟩, 14)]
theorem lw_r1 : ∀ q ∈ lw_privs_1, lw_okq q := List.forall_mem_cons.mpr ⟨lw_p0, List.forall_mem_cons.mpr ⟨lw_p1, List.forall_mem_cons.mpr ⟨lw_p2, List.forall_mem_cons.mpr ⟨lw_p3, List.forall_mem_cons.mpr ⟨lw_p4, List.forall_mem_cons.mpr ⟨lw_p5, List.forall_mem_cons.mpr ⟨lw_p6, List.forall_mem_cons.mpr ⟨lw_p7, List.forall_mem_cons.mpr ⟨lw_p8, List.forall_mem_cons.mpr ⟨lw_p9, List.forall_mem_cons.mpr ⟨lw_p10, List.forall_mem_cons.mpr ⟨lw_p11, List.forall_mem_cons.mpr ⟨lw_p12, List.forall_mem_cons.mpr ⟨lw_p13, List.forall_mem_cons.mpr ⟨lw_p14, List.forall_mem_cons.mpr ⟨lw_p15, fun _ h => absurd h List.not_mem_nil⟩⟩⟩⟩⟩⟩⟩⟩⟩⟩⟩⟩⟩⟩⟩⟩
theorem lw_p16 : lw_okq (⟨"CriersOffice", "readyMinute", "(LCriersOffice$Crier;I)I"⟩, 14) := ⟨⟨by decide +kernel, by decide +kernel⟩, List.mem_of_getElem? (i := 23) (by decide +kernel), List.mem_of_getElem? (i := 586) (by decide +kernel), List.mem_of_getElem? (i := 587) (by decide +kernel)⟩
theorem lw_p17 : lw_okq (⟨"CriersOffice", "isDrowned", "(III)Z"⟩, 14) := ⟨⟨by decide +kernel, by decide +kernel⟩, List.mem_of_getElem? (i := 23) (by decide +kernel), List.mem_of_getElem? (i := 597) (by decide +kernel), List.mem_of_getElem? (i := 598) (by decide +kernel)⟩
theorem lw_p18 : lw_okq (⟨"CriersOffice", "areInHearing", "(II)Z"⟩, 14) := ⟨⟨by decide +kernel, by decide +kernel⟩, List.mem_of_getElem? (i := 23) (by decide +kernel), List.mem_of_getElem? (i := 602) (by decide +kernel), List.mem_of_getElem? (i := 603) (by decide +kernel)⟩
theorem lw_p19 : lw_okq (⟨"CriersOffice", "wouldCount", "(LCriersOffice$Notice;I)Z"⟩, 14) := ⟨⟨by decide +kernel, by decide +kernel⟩, List.mem_of_getElem? (i := 23) (by decide +kernel), List.mem_of_getElem? (i := 606) (by decide +kernel), List.mem_of_getElem? (i := 607) (by decide +kernel)⟩
theorem lw_p20 : lw_okq (⟨"CriersOffice", "heardTimes", "(II)I"⟩, 14) := ⟨⟨by decide +kernel, by decide +kernel⟩, List.mem_of_getElem? (i := 23) (by decide +kernel), List.mem_of_getElem? (i := 707) (by decide +kernel), List.mem_of_getElem? (i := 708) (by decide +kernel)⟩
theorem lw_p21 : lw_okq (⟨"CriersOffice", "wasInHearing", "(ILCriersOffice$Cry;)Z"⟩, 14) := ⟨⟨by decide +kernel, by decide +kernel⟩, List.mem_of_getElem? (i := 23) (by decide +kernel), List.mem_of_getElem? (i := 711) (by decide +kernel), List.mem_of_getElem? (i := 712) (by decide +kernel)⟩
theorem lw_p22 : lw_okq (⟨"CriersOffice$Round", "measureAll", "(Ljava/util/ArrayList;)V"⟩, 4) := ⟨⟨by decide +kernel, by decide +kernel⟩, List.mem_of_getElem? (i := 94) (by decide +kernel), List.mem_of_getElem? (i := 728) (by decide +kernel), List.mem_of_getElem? (i := 729) (by decide +kernel)⟩
theorem lw_p23 : lw_okq (⟨"CriersOffice$Round", "bestNext", "(Ljava/util/ArrayList;II)I"⟩, 4) := ⟨⟨by decide +kernel, by decide +kernel⟩, List.mem_of_getElem? (i := 94) (by decide +kernel), List.mem_of_getElem? (i := 732) (by decide +kernel), List.mem_of_getElem? (i := 733) (by decide +kernel)⟩
theorem lw_p24 : lw_okq (⟨"CriersOffice$Round", "walkOver", "(Ljava/util/ArrayList;III)I"⟩, 4) := ⟨⟨by decide +kernel, by decide +kernel⟩, List.mem_of_getElem? (i := 94) (by decide +kernel), List.mem_of_getElem? (i := 737) (by decide +kernel), List.mem_of_getElem? (i := 738) (by decide +kernel)⟩
theorem lw_p25 : lw_okq (⟨"CriersOfficeModel", "isSquare", "(I)Z"⟩, 47) := ⟨⟨by decide +kernel, by decide +kernel⟩, List.mem_of_getElem? (i := 783) (by decide +kernel), List.mem_of_getElem? (i := 943) (by decide +kernel), List.mem_of_getElem? (i := 944) (by decide +kernel)⟩
theorem lw_p26 : lw_okq (⟨"CriersOfficeModel", "walks", "(II)I"⟩, 47) := ⟨⟨by decide +kernel, by decide +kernel⟩, List.mem_of_getElem? (i := 783) (by decide +kernel), List.mem_of_getElem? (i := 947) (by decide +kernel), List.mem_of_getElem? (i := 948) (by decide +kernel)⟩
theorem lw_p27 : lw_okq (⟨"CriersOfficeModel", "hasMarket", "(III)Z"⟩, 47) := ⟨⟨by decide +kernel, by decide +kernel⟩, List.mem_of_getElem? (i := 783) (by decide +kernel), List.mem_of_getElem? (i := 970) (by decide +kernel), List.mem_of_getElem? (i := 971) (by decide +kernel)⟩
theorem lw_p28 : lw_okq (⟨"CriersOfficeModel", "meets", "(I)I"⟩, 47) := ⟨⟨by decide +kernel, by decide +kernel⟩, List.mem_of_getElem? (i := 783) (by decide +kernel), List.mem_of_getElem? (i := 984) (by decide +kernel), List.mem_of_getElem? (i := 985) (by decide +kernel)⟩
theorem lw_p29 : lw_okq (⟨"CriersOfficeModel", "looked", "(I)I"⟩, 47) := ⟨⟨by decide +kernel, by decide +kernel⟩, List.mem_of_getElem? (i := 783) (by decide +kernel), List.mem_of_getElem? (i := 992) (by decide +kernel), List.mem_of_getElem? (i := 993) (by decide +kernel)⟩
theorem lw_p30 : lw_okq (⟨"CriersOfficeModel", "wordsOf", "(I)I"⟩, 47) := ⟨⟨by decide +kernel, by decide +kernel⟩, List.mem_of_getElem? (i := 783) (by decide +kernel), List.mem_of_getElem? (i := 1008) (by decide +kernel), List.mem_of_getElem? (i := 1009) (by decide +kernel)⟩
theorem lw_p31 : lw_okq (⟨"CriersOfficeModel", "pieceAt", "(II)I"⟩, 47) := ⟨⟨by decide +kernel, by decide +kernel⟩, List.mem_of_getElem? (i := 783) (by decide +kernel), List.mem_of_getElem? (i := 1012) (by decide +kernel), List.mem_of_getElem? (i := 1013) (by decide +kernel)⟩
def lw_privs_2 : List (MethodName × Nat) := [(⟨"CriersOffice", "readyMinute", "(LCriersOffice$Crier;I)I"⟩, 14), (⟨"CriersOffice", "isDrowned", "(III)Z"⟩, 14), (⟨"CriersOffice", "areInHearing", "(II)Z"⟩, 14), (⟨"CriersOffice", "wouldCount", "(LCriersOffice$Notice;I)Z"⟩, 14), (⟨"CriersOffice", "heardTimes", "(II)I"⟩, 14), (⟨"CriersOffice", "wasInHearing", "(ILCriersOffice$Cry;)Z"⟩, 14), (⟨"CriersOffice$Round", "measureAll", "(Ljava/util/ArrayList;)V"⟩, 4), (⟨"CriersOffice$Round", "bestNext", "(Ljava/util/ArrayList;II)I"⟩, 4), (⟨"CriersOffice$Round", "walkOver", "(Ljava/util/ArrayList;III)I"⟩, 4), (⟨"CriersOfficeModel", "isSquare", "(I)Z"⟩, 47), (⟨"CriersOfficeModel", "walks", "(II)I"⟩, 47), (⟨"CriersOfficeModel", "hasMarket", "(III)Z"⟩, 47), (⟨"CriersOfficeModel", "meets", "(I)I"⟩, 47), (⟨"CriersOfficeModel", "looked", "(I)I"⟩, 47), (⟨"CriersOfficeModel", "wordsOf", "(I)I"⟩, 47), (⟨"CriersOfficeModel", "pieceAt", "(II)I"⟩, 47)]
theorem lw_r2 : ∀ q ∈ lw_privs_2, lw_okq q := List.forall_mem_cons.mpr ⟨lw_p16, List.forall_mem_cons.mpr ⟨lw_p17, List.forall_mem_cons.mpr ⟨lw_p18, List.forall_mem_cons.mpr ⟨lw_p19, List.forall_mem_cons.mpr ⟨lw_p20, List.forall_mem_cons.mpr ⟨lw_p21, List.forall_mem_cons.mpr ⟨lw_p22, List.forall_mem_cons.mpr ⟨lw_p23, List.forall_mem_cons.mpr ⟨lw_p24, List.forall_mem_cons.mpr ⟨lw_p25, List.forall_mem_cons.mpr ⟨lw_p26, List.forall_mem_cons.mpr ⟨lw_p27, List.forall_mem_cons.mpr ⟨lw_p28, List.forall_mem_cons.mpr ⟨lw_p29, List.forall_mem_cons.mpr ⟨lw_p30, List.forall_mem_cons.mpr ⟨lw_p31, fun _ h => absurd h List.not_mem_nil⟩⟩⟩⟩⟩⟩⟩⟩⟩⟩⟩⟩⟩⟩⟩⟩
theorem lw_p32 : lw_okq (⟨"CriersOfficeModel", "signAt", "(II)I"⟩, 47) := ⟨⟨by decide +kernel, by decide +kernel⟩, List.mem_of_getElem? (i := 783) (by decide +kernel), List.mem_of_getElem? (i := 1016) (by decide +kernel), List.mem_of_getElem? (i := 1017) (by decide +kernel)⟩
theorem lw_p33 : lw_okq (⟨"CriersOfficeModel", "barredIn", "(I)I"⟩, 47) := ⟨⟨by decide +kernel, by decide +kernel⟩, List.mem_of_getElem? (i := 783) (by decide +kernel), List.mem_of_getElem? (i := 1037) (by decide +kernel), List.mem_of_getElem? (i := 1038) (by decide +kernel)⟩
theorem lw_p34 : lw_okq (⟨"CriersOfficeModel", "areSquares", "(I)Z"⟩, 47) := ⟨⟨by decide +kernel, by decide +kernel⟩, List.mem_of_getElem? (i := 783) (by decide +kernel), List.mem_of_getElem? (i := 1049) (by decide +kernel), List.mem_of_getElem? (i := 1050) (by decide +kernel)⟩
theorem lw_p35 : lw_okq (⟨"CriersOfficeModel", "isNotice", "(I)Z"⟩, 47) := ⟨⟨by decide +kernel, by decide +kernel⟩, List.mem_of_getElem? (i := 783) (by decide +kernel), List.mem_of_getElem? (i := 1061) (by decide +kernel), List.mem_of_getElem? (i := 1062) (by decide +kernel)⟩
theorem lw_p36 : lw_okq (⟨"CriersOfficeModel", "tells", "(II)I"⟩, 47) := ⟨⟨by decide +kernel, by decide +kernel⟩, List.mem_of_getElem? (i := 783) (by decide +kernel), List.mem_of_getElem? (i := 1065) (by decide +kernel), List.mem_of_getElem? (i := 1066) (by decide +kernel)⟩
theorem lw_p37 : lw_okq (⟨"CriersOfficeModel", "lacks", "(I)I"⟩, 47) := ⟨⟨by decide +kernel, by decide +kernel⟩, List.mem_of_getElem? (i := 783) (by decide +kernel), List.mem_of_getElem? (i := 1069) (by decide +kernel), List.mem_of_getElem? (i := 1070) (by decide +kernel)⟩
theorem lw_p38 : lw_okq (⟨"CriersOfficeModel", "countedAt", "(II)I"⟩, 47) := ⟨⟨by decide +kernel, by decide +kernel⟩, List.mem_of_getElem? (i := 783) (by decide +kernel), List.mem_of_getElem? (i := 1073) (by decide +kernel), List.mem_of_getElem? (i := 1074) (by decide +kernel)⟩
theorem lw_p39 : lw_okq (⟨"CriersOfficeModel", "feeOf", "(I)I"⟩, 47) := ⟨⟨by decide +kernel, by decide +kernel⟩, List.mem_of_getElem? (i := 783) (by decide +kernel), List.mem_of_getElem? (i := 1081) (by decide +kernel), List.mem_of_getElem? (i := 1082) (by decide +kernel)⟩
theorem lw_p40 : lw_okq (⟨"CriersOfficeModel", "joins", "(III)Z"⟩, 47) := ⟨⟨by decide +kernel, by decide +kernel⟩, List.mem_of_getElem? (i := 783) (by decide +kernel), List.mem_of_getElem? (i := 1088) (by decide +kernel), List.mem_of_getElem? (i := 1089) (by decide +kernel)⟩
theorem lw_p41 : lw_okq (⟨"CriersOfficeModel", "isCrier", "(I)Z"⟩, 47) := ⟨⟨by decide +kernel, by decide +kernel⟩, List.mem_of_getElem? (i := 783) (by decide +kernel), List.mem_of_getElem? (i := 1112) (by decide +kernel), List.mem_of_getElem? (i := 1113) (by decide +kernel)⟩
theorem lw_p42 : lw_okq (⟨"CriersOfficeModel", "readyAt", "(II)I"⟩, 47) := ⟨⟨by decide +kernel, by decide +kernel⟩, List.mem_of_getElem? (i := 783) (by decide +kernel), List.mem_of_getElem? (i := 1116) (by decide +kernel), List.mem_of_getElem? (i := 1117) (by decide +kernel)⟩
theorem lw_p43 : lw_okq (⟨"CriersOfficeModel", "isTooNear", "(III)Z"⟩, 47) := ⟨⟨by decide +kernel, by decide +kernel⟩, List.mem_of_getElem? (i := 783) (by decide +kernel), List.mem_of_getElem? (i := 1124) (by decide +kernel), List.mem_of_getElem? (i := 1125) (by decide +kernel)⟩
theorem lw_p44 : lw_okq (⟨"CriersOfficeModel", "wouldCount", "(II)Z"⟩, 47) := ⟨⟨by decide +kernel, by decide +kernel⟩, List.mem_of_getElem? (i := 783) (by decide +kernel), List.mem_of_getElem? (i := 1128) (by decide +kernel), List.mem_of_getElem? (i := 1129) (by decide +kernel)⟩
theorem lw_p45 : lw_okq (⟨"CriersOfficeModel", "tellsCry", "(II)I"⟩, 47) := ⟨⟨by decide +kernel, by decide +kernel⟩, List.mem_of_getElem? (i := 783) (by decide +kernel), List.mem_of_getElem? (i := 1140) (by decide +kernel), List.mem_of_getElem? (i := 1141) (by decide +kernel)⟩
theorem lw_p46 : lw_okq (⟨"CriersOfficeModel", "heardOf", "(II)I"⟩, 47) := ⟨⟨by decide +kernel, by decide +kernel⟩, List.mem_of_getElem? (i := 783) (by decide +kernel), List.mem_of_getElem? (i := 1163) (by decide +kernel), List.mem_of_getElem? (i := 1164) (by decide +kernel)⟩
theorem lw_p47 : lw_okq (⟨"CriersOfficeModel", "hears", "(II)Z"⟩, 47) := ⟨⟨by decide +kernel, by decide +kernel⟩, List.mem_of_getElem? (i := 783) (by decide +kernel), List.mem_of_getElem? (i := 1167) (by decide +kernel), List.mem_of_getElem? (i := 1168) (by decide +kernel)⟩
def lw_privs_3 : List (MethodName × Nat) := [(⟨"CriersOfficeModel", "signAt", "(II)I"⟩, 47), (⟨"CriersOfficeModel", "barredIn", "(I)I"⟩, 47), (⟨"CriersOfficeModel", "areSquares", "(I)Z"⟩, 47), (⟨"CriersOfficeModel", "isNotice", "(I)Z"⟩, 47), (⟨"CriersOfficeModel", "tells", "(II)I"⟩, 47), (⟨"CriersOfficeModel", "lacks", "(I)I"⟩, 47), (⟨"CriersOfficeModel", "countedAt", "(II)I"⟩, 47), (⟨"CriersOfficeModel", "feeOf", "(I)I"⟩, 47), (⟨"CriersOfficeModel", "joins", "(III)Z"⟩, 47), (⟨"CriersOfficeModel", "isCrier", "(I)Z"⟩, 47), (⟨"CriersOfficeModel", "readyAt", "(II)I"⟩, 47), (⟨"CriersOfficeModel", "isTooNear", "(III)Z"⟩, 47), (⟨"CriersOfficeModel", "wouldCount", "(II)Z"⟩, 47), (⟨"CriersOfficeModel", "tellsCry", "(II)I"⟩, 47), (⟨"CriersOfficeModel", "heardOf", "(II)I"⟩, 47), (⟨"CriersOfficeModel", "hears", "(II)Z"⟩, 47)]
theorem lw_r3 : ∀ q ∈ lw_privs_3, lw_okq q := List.forall_mem_cons.mpr ⟨lw_p32, List.forall_mem_cons.mpr ⟨lw_p33, List.forall_mem_cons.mpr ⟨lw_p34, List.forall_mem_cons.mpr ⟨lw_p35, List.forall_mem_cons.mpr ⟨lw_p36, List.forall_mem_cons.mpr ⟨lw_p37, List.forall_mem_cons.mpr ⟨lw_p38, List.forall_mem_cons.mpr ⟨lw_p39, List.forall_mem_cons.mpr ⟨lw_p40, List.forall_mem_cons.mpr ⟨lw_p41, List.forall_mem_cons.mpr ⟨lw_p42, List.forall_mem_cons.mpr ⟨lw_p43, List.forall_mem_cons.mpr ⟨lw_p44, List.forall_mem_cons.mpr ⟨lw_p45, List.forall_mem_cons.mpr ⟨lw_p46, List.forall_mem_cons.mpr ⟨lw_p47, fun _ h => absurd h List.not_mem_nil⟩⟩⟩⟩⟩⟩⟩⟩⟩⟩⟩⟩⟩⟩⟩⟩
theorem lw_p48 : lw_okq (⟨"CriersOfficeModel", "setLeast", "(I)V"⟩, 47) := ⟨⟨by decide +kernel, by decide +kernel⟩, List.mem_of_getElem? (i := 783) (by decide +kernel), List.mem_of_getElem? (i := 1179) (by decide +kernel), List.mem_of_getElem? (i := 1180) (by decide +kernel)⟩
theorem lw_p49 : lw_okq (⟨"CriersOfficeModel", "counts", "(I)I"⟩, 47) := ⟨⟨by decide +kernel, by decide +kernel⟩, List.mem_of_getElem? (i := 783) (by decide +kernel), List.mem_of_getElem? (i := 1196) (by decide +kernel), List.mem_of_getElem? (i := 1197) (by decide +kernel)⟩
def lw_privs_4 : List (MethodName × Nat) := [(⟨"CriersOfficeModel", "setLeast", "(I)V"⟩, 47), (⟨"CriersOfficeModel", "counts", "(I)I"⟩, 47)]
theorem lw_r4 : ∀ q ∈ lw_privs_4, lw_okq q := List.forall_mem_cons.mpr ⟨lw_p48, List.forall_mem_cons.mpr ⟨lw_p49, fun _ h => absurd h List.not_mem_nil⟩⟩
def lw_privs : List (MethodName × Nat) := lw_privs_1 ++ (lw_privs_2 ++ (lw_privs_3 ++ (lw_privs_4)))
def lw_tbl : List Cond := k2_sels lw_privs ++ tables_1
theorem lw_privs_ok : ∀ q ∈ lw_privs, lw_okq q := by
  show ∀ q ∈ lw_privs_1 ++ (lw_privs_2 ++ (lw_privs_3 ++ (lw_privs_4))), lw_okq q
  exact List.forall_mem_append.mpr ⟨lw_r1, List.forall_mem_append.mpr ⟨lw_r2, List.forall_mem_append.mpr ⟨lw_r3, lw_r4⟩⟩⟩
end
section
def RX0 : String := "CriersOffice$BarredPieces"
def TX0 : u_T := fun k => match k with
  | 0 => ("CriersOffice$BarredPieces", "signs", "[B", true)
  | 1 => ("CriersOffice$BarredPieces", "lengths", "[I", true)
  | _ => ("CriersOffice$BarredPieces", "count", "I", false)
def tyX0 : Nat → FieldType := fun k => match k with
  | 0 => .array .byte
  | 1 => .array .int
  | _ => .int
theorem nmX0 : ∀ a, a < 3 → ∀ b, b < 3 → a ≠ b → (TX0 a).2.1 ≠ (TX0 b).2.1 := by decide +kernel
theorem tyX0_ok : ∀ k, k < 3 → parseFieldDescriptor (TX0 k).2.2.1 = some (tyX0 k) := by decide +kernel
abbrev cX0_init : ByteArray := prog_2_method_1_code
def yX0_init : MethodName := ⟨RX0, "<init>", "()V"⟩
abbrev cX0_takeFrom : ByteArray := prog_2_method_2_code
def yX0_takeFrom : MethodName := ⟨RX0, "takeFrom", "(LCriersOffice$Sheet;)V"⟩
abbrev cX0_firstIn : ByteArray := prog_2_method_3_code
def yX0_firstIn : MethodName := ⟨RX0, "firstIn", "(LCriersOffice$Sheet;)I"⟩
abbrev cX0_keep : ByteArray := prog_2_method_4_code
def yX0_keep : MethodName := ⟨RX0, "keep", "(LCriersOffice$Sheet;II)V"⟩
abbrev cX0_isAlikeAny : ByteArray := prog_2_method_5_code
def yX0_isAlikeAny : MethodName := ⟨RX0, "isAlikeAny", "(LCriersOffice$Sheet;II)Z"⟩
abbrev cX0_isAlike : ByteArray := prog_2_method_6_code
def yX0_isAlike : MethodName := ⟨RX0, "isAlike", "(ILCriersOffice$Sheet;I)Z"⟩
def RX1 : String := "CriersOffice$Crier"
def TX1 : u_T := fun k => match k with
  | 0 => ("CriersOffice$Crier", "square", "I", false)
  | _ => ("CriersOffice$Crier", "free", "I", false)
def tyX1 : Nat → FieldType := fun k => match k with
  | 0 => .int
  | _ => .int
theorem nmX1 : ∀ a, a < 2 → ∀ b, b < 2 → a ≠ b → (TX1 a).2.1 ≠ (TX1 b).2.1 := by decide +kernel
theorem tyX1_ok : ∀ k, k < 2 → parseFieldDescriptor (TX1 k).2.2.1 = some (tyX1 k) := by decide +kernel
abbrev cX1_init : ByteArray := prog_3_method_1_code
def yX1_init : MethodName := ⟨RX1, "<init>", "(I)V"⟩
abbrev cX1_stand : ByteArray := prog_3_method_2_code
def yX1_stand : MethodName := ⟨RX1, "stand", "(II)V"⟩
def RX2 : String := "CriersOffice$Cry"
def TX2 : u_T := fun k => match k with
  | 0 => ("CriersOffice$Cry", "notice", "I", true)
  | 1 => ("CriersOffice$Cry", "crier", "I", true)
  | 2 => ("CriersOffice$Cry", "square", "I", true)
  | 3 => ("CriersOffice$Cry", "day", "I", true)
  | 4 => ("CriersOffice$Cry", "minute", "I", true)
  | _ => ("CriersOffice$Cry", "counted", "Z", true)
def tyX2 : Nat → FieldType := fun k => match k with
  | 0 => .int
  | 1 => .int
  | 2 => .int
  | 3 => .int
  | 4 => .int
  | _ => .boolean
theorem nmX2 : ∀ a, a < 6 → ∀ b, b < 6 → a ≠ b → (TX2 a).2.1 ≠ (TX2 b).2.1 := by decide +kernel
theorem tyX2_ok : ∀ k, k < 6 → parseFieldDescriptor (TX2 k).2.2.1 = some (tyX2 k) := by decide +kernel
abbrev cX2_init : ByteArray := prog_4_method_1_code
def yX2_init : MethodName := ⟨RX2, "<init>", "(IIIIIZ)V"⟩
def RX3 : String := "CriersOffice$Move"
def TX3 : u_T := fun k => match k with
  | 0 => ("CriersOffice$Move", "square", "I", true)
  | 1 => ("CriersOffice$Move", "from", "I", true)
  | 2 => ("CriersOffice$Move", "to", "I", true)
  | _ => ("CriersOffice$Move", "known", "I", true)
def tyX3 : Nat → FieldType := fun k => match k with
  | 0 => .int
  | 1 => .int
  | 2 => .int
  | _ => .int
theorem nmX3 : ∀ a, a < 4 → ∀ b, b < 4 → a ≠ b → (TX3 a).2.1 ≠ (TX3 b).2.1 := by decide +kernel
theorem tyX3_ok : ∀ k, k < 4 → parseFieldDescriptor (TX3 k).2.2.1 = some (tyX3 k) := by decide +kernel
abbrev cX3_init : ByteArray := prog_5_method_1_code
def yX3_init : MethodName := ⟨RX3, "<init>", "(IIII)V"⟩
def RX4 : String := "CriersOffice$Notice"
def TX4 : u_T := fun k => match k with
  | 0 => ("CriersOffice$Notice", "kind", "I", true)
  | 1 => ("CriersOffice$Notice", "words", "I", true)
  | 2 => ("CriersOffice$Notice", "squares", "I", true)
  | 3 => ("CriersOffice$Notice", "times", "I", true)
  | 4 => ("CriersOffice$Notice", "marks", "I", true)
  | 5 => ("CriersOffice$Notice", "day", "I", true)
  | 6 => ("CriersOffice$Notice", "counts", "[I", true)
  | 7 => ("CriersOffice$Notice", "latestDays", "[I", true)
  | _ => ("CriersOffice$Notice", "takenBack", "Z", false)
def tyX4 : Nat → FieldType := fun k => match k with
  | 0 => .int
  | 1 => .int
  | 2 => .int
  | 3 => .int
  | 4 => .int
  | 5 => .int
  | 6 => .array .int
  | 7 => .array .int
  | _ => .boolean
theorem nmX4 : ∀ a, a < 9 → ∀ b, b < 9 → a ≠ b → (TX4 a).2.1 ≠ (TX4 b).2.1 := by decide +kernel
theorem tyX4_ok : ∀ k, k < 9 → parseFieldDescriptor (TX4 k).2.2.1 = some (tyX4 k) := by decide +kernel
abbrev cX4_init : ByteArray := prog_6_method_1_code
def yX4_init : MethodName := ⟨RX4, "<init>", "(IIIIII)V"⟩
abbrev cX4_lacksCryAt : ByteArray := prog_6_method_2_code
def yX4_lacksCryAt : MethodName := ⟨RX4, "lacksCryAt", "(I)Z"⟩
abbrev cX4_lackingSquares : ByteArray := prog_6_method_3_code
def yX4_lackingSquares : MethodName := ⟨RX4, "lackingSquares", "()I"⟩
abbrev cX4_isDone : ByteArray := prog_6_method_4_code
def yX4_isDone : MethodName := ⟨RX4, "isDone", "()Z"⟩
abbrev cX4_countedInAll : ByteArray := prog_6_method_5_code
def yX4_countedInAll : MethodName := ⟨RX4, "countedInAll", "()I"⟩
abbrev cX4_minutesToCry : ByteArray := prog_6_method_6_code
def yX4_minutesToCry : MethodName := ⟨RX4, "minutesToCry", "()I"⟩
abbrev cX4_countCry : ByteArray := prog_6_method_7_code
def yX4_countCry : MethodName := ⟨RX4, "countCry", "(II)V"⟩
def RX5 : String := "CriersOffice$Round"
def TX5 : u_T := fun k => match k with
  | 0 => ("CriersOffice$Round", "order", "[I", true)
  | 1 => ("CriersOffice$Round", "length", "I", false)
  | 2 => ("CriersOffice$Round", "least", "[I", false)
  | _ => ("CriersOffice$Round", "measured", "I", false)
def tyX5 : Nat → FieldType := fun k => match k with
  | 0 => .array .int
  | 1 => .int
  | 2 => .array .int
  | _ => .int
theorem nmX5 : ∀ a, a < 4 → ∀ b, b < 4 → a ≠ b → (TX5 a).2.1 ≠ (TX5 b).2.1 := by decide +kernel
theorem tyX5_ok : ∀ k, k < 4 → parseFieldDescriptor (TX5 k).2.2.1 = some (tyX5 k) := by decide +kernel
abbrev cX5_init : ByteArray := prog_7_method_1_code
def yX5_init : MethodName := ⟨RX5, "<init>", "()V"⟩
abbrev cX5_squareAt : ByteArray := prog_7_method_2_code
def yX5_squareAt : MethodName := ⟨RX5, "squareAt", "(I)I"⟩
abbrev cX5_plan : ByteArray := prog_7_method_3_code
def yX5_plan : MethodName := ⟨RX5, "plan", "(Ljava/util/ArrayList;II)I"⟩
abbrev cX5_measureAll : ByteArray := prog_7_method_4_code
def yX5_measureAll : MethodName := ⟨RX5, "measureAll", "(Ljava/util/ArrayList;)V"⟩
abbrev cX5_bestNext : ByteArray := prog_7_method_5_code
def yX5_bestNext : MethodName := ⟨RX5, "bestNext", "(Ljava/util/ArrayList;II)I"⟩
abbrev cX5_walkOver : ByteArray := prog_7_method_6_code
def yX5_walkOver : MethodName := ⟨RX5, "walkOver", "(Ljava/util/ArrayList;III)I"⟩
def RX6 : String := "CriersOffice$Sheet"
def TX6 : u_T := fun k => match k with
  | 0 => ("CriersOffice$Sheet", "signs", "[B", true)
  | _ => ("CriersOffice$Sheet", "size", "I", false)
def tyX6 : Nat → FieldType := fun k => match k with
  | 0 => .array .byte
  | _ => .int
theorem nmX6 : ∀ a, a < 2 → ∀ b, b < 2 → a ≠ b → (TX6 a).2.1 ≠ (TX6 b).2.1 := by decide +kernel
theorem tyX6_ok : ∀ k, k < 2 → parseFieldDescriptor (TX6 k).2.2.1 = some (tyX6 k) := by decide +kernel
abbrev cX6_init : ByteArray := prog_8_method_1_code
def yX6_init : MethodName := ⟨RX6, "<init>", "()V"⟩
abbrev cX6_isMissing : ByteArray := prog_8_method_2_code
def yX6_isMissing : MethodName := ⟨RX6, "isMissing", "()Z"⟩
abbrev cX6_lose : ByteArray := prog_8_method_3_code
def yX6_lose : MethodName := ⟨RX6, "lose", "()V"⟩
abbrev cX6_begin : ByteArray := prog_8_method_4_code
def yX6_begin : MethodName := ⟨RX6, "begin", "(I)V"⟩
abbrev cX6_hasRun : ByteArray := prog_8_method_5_code
def yX6_hasRun : MethodName := ⟨RX6, "hasRun", "(II)Z"⟩
abbrev cX6_startsPiece : ByteArray := prog_8_method_6_code
def yX6_startsPiece : MethodName := ⟨RX6, "startsPiece", "(I)Z"⟩
abbrev cX6_pieceLength : ByteArray := prog_8_method_7_code
def yX6_pieceLength : MethodName := ⟨RX6, "pieceLength", "(I)I"⟩
abbrev cX6_wordCount : ByteArray := prog_8_method_8_code
def yX6_wordCount : MethodName := ⟨RX6, "wordCount", "()I"⟩
abbrev cX6_digestOnto : ByteArray := prog_8_method_9_code
def yX6_digestOnto : MethodName := ⟨RX6, "digestOnto", "(J)J"⟩
abbrev cX6_isFigure : ByteArray := prog_8_method_10_code
def yX6_isFigure : MethodName := ⟨RX6, "isFigure", "(I)Z"⟩
abbrev cX6_isOfPiece : ByteArray := prog_8_method_11_code
def yX6_isOfPiece : MethodName := ⟨RX6, "isOfPiece", "(I)Z"⟩
abbrev cX6_asSmall : ByteArray := prog_8_method_12_code
def yX6_asSmall : MethodName := ⟨RX6, "asSmall", "(I)I"⟩
def RX7 : String := "CriersOffice$Square"
def TX7 : u_T := fun k => match k with
  | 0 => ("CriersOffice$Square", "x", "I", true)
  | 1 => ("CriersOffice$Square", "y", "I", true)
  | _ => ("CriersOffice$Square", "week", "I", true)
def tyX7 : Nat → FieldType := fun k => match k with
  | 0 => .int
  | 1 => .int
  | _ => .int
theorem nmX7 : ∀ a, a < 3 → ∀ b, b < 3 → a ≠ b → (TX7 a).2.1 ≠ (TX7 b).2.1 := by decide +kernel
theorem tyX7_ok : ∀ k, k < 3 → parseFieldDescriptor (TX7 k).2.2.1 = some (tyX7 k) := by decide +kernel
abbrev cX7_init : ByteArray := prog_9_method_1_code
def yX7_init : MethodName := ⟨RX7, "<init>", "(III)V"⟩
abbrev cX7_walkTo : ByteArray := prog_9_method_2_code
def yX7_walkTo : MethodName := ⟨RX7, "walkTo", "(LCriersOffice$Square;)I"⟩
abbrev cX7_hasInWeek : ByteArray := prog_9_method_3_code
def yX7_hasInWeek : MethodName := ⟨RX7, "hasInWeek", "(I)Z"⟩
def RX8 : String := "CriersOffice$Stay"
def TX8 : u_T := fun k => match k with
  | 0 => ("CriersOffice$Stay", "person", "I", true)
  | 1 => ("CriersOffice$Stay", "square", "I", true)
  | 2 => ("CriersOffice$Stay", "day", "I", true)
  | 3 => ("CriersOffice$Stay", "from", "I", true)
  | _ => ("CriersOffice$Stay", "to", "I", true)
def tyX8 : Nat → FieldType := fun k => match k with
  | 0 => .int
  | 1 => .int
  | 2 => .int
  | 3 => .int
  | _ => .int
theorem nmX8 : ∀ a, a < 5 → ∀ b, b < 5 → a ≠ b → (TX8 a).2.1 ≠ (TX8 b).2.1 := by decide +kernel
theorem tyX8_ok : ∀ k, k < 5 → parseFieldDescriptor (TX8 k).2.2.1 = some (tyX8 k) := by decide +kernel
abbrev cX8_init : ByteArray := prog_10_method_1_code
def yX8_init : MethodName := ⟨RX8, "<init>", "(IIIII)V"⟩
def RX9 : String := "CriersOffice"
def TX9 : u_T := fun k => match k with
  | 0 => ("CriersOffice", "squares", "Ljava/util/ArrayList;", true)
  | 1 => ("CriersOffice", "moves", "Ljava/util/ArrayList;", true)
  | 2 => ("CriersOffice", "notices", "Ljava/util/ArrayList;", true)
  | 3 => ("CriersOffice", "criers", "Ljava/util/ArrayList;", true)
  | 4 => ("CriersOffice", "cries", "Ljava/util/ArrayList;", true)
  | 5 => ("CriersOffice", "stays", "Ljava/util/ArrayList;", true)
  | 6 => ("CriersOffice", "sheets", "[LCriersOffice$Sheet;", true)
  | 7 => ("CriersOffice", "barredPieces", "LCriersOffice$BarredPieces;", true)
  | 8 => ("CriersOffice", "latestRound", "LCriersOffice$Round;", true)
  | 9 => ("CriersOffice", "rates", "[I", true)
  | 10 => ("CriersOffice", "findingCounts", "[I", true)
  | 11 => ("CriersOffice", "latestFinding", "I", false)
  | 12 => ("CriersOffice", "today", "I", false)
  | _ => ("CriersOffice", "reach", "I", false)
def tyX9 : Nat → FieldType := fun k => match k with
  | 0 => .object "java/util/ArrayList"
  | 1 => .object "java/util/ArrayList"
  | 2 => .object "java/util/ArrayList"
  | 3 => .object "java/util/ArrayList"
  | 4 => .object "java/util/ArrayList"
  | 5 => .object "java/util/ArrayList"
  | 6 => .array (.object "CriersOffice$Sheet")
  | 7 => .object "CriersOffice$BarredPieces"
  | 8 => .object "CriersOffice$Round"
  | 9 => .array .int
  | 10 => .array .int
  | 11 => .int
  | 12 => .int
  | _ => .int
theorem nmX9 : ∀ a, a < 14 → ∀ b, b < 14 → a ≠ b → (TX9 a).2.1 ≠ (TX9 b).2.1 := by decide +kernel
theorem tyX9_ok : ∀ k, k < 14 → parseFieldDescriptor (TX9 k).2.2.1 = some (tyX9 k) := by decide +kernel
abbrev cX9_init : ByteArray := prog_1_method_1_code
def yX9_init : MethodName := ⟨RX9, "<init>", "()V"⟩
abbrev cX9_square : ByteArray := prog_1_method_2_code
def yX9_square : MethodName := ⟨RX9, "square", "(III)I"⟩
abbrev cX9_walk : ByteArray := prog_1_method_3_code
def yX9_walk : MethodName := ⟨RX9, "walk", "(II)I"⟩
abbrev cX9_hearing : ByteArray := prog_1_method_4_code
def yX9_hearing : MethodName := ⟨RX9, "hearing", "(I)I"⟩
abbrev cX9_later : ByteArray := prog_1_method_5_code
def yX9_later : MethodName := ⟨RX9, "later", "(I)I"⟩
abbrev cX9_move : ByteArray := prog_1_method_6_code
def yX9_move : MethodName := ⟨RX9, "move", "(IIII)I"⟩
abbrev cX9_market : ByteArray := prog_1_method_7_code
def yX9_market : MethodName := ⟨RX9, "market", "(III)I"⟩
abbrev cX9_sheet : ByteArray := prog_1_method_8_code
def yX9_sheet : MethodName := ⟨RX9, "sheet", "(II)I"⟩
abbrev cX9_lay : ByteArray := prog_1_method_9_code
def yX9_lay : MethodName := ⟨RX9, "lay", "(III)I"⟩
abbrev cX9_tear : ByteArray := prog_1_method_10_code
def yX9_tear : MethodName := ⟨RX9, "tear", "(I)I"⟩
abbrev cX9_copy : ByteArray := prog_1_method_11_code
def yX9_copy : MethodName := ⟨RX9, "copy", "(IIIII)I"⟩
abbrev cX9_words : ByteArray := prog_1_method_12_code
def yX9_words : MethodName := ⟨RX9, "words", "(I)I"⟩
abbrev cX9_bar : ByteArray := prog_1_method_13_code
def yX9_bar : MethodName := ⟨RX9, "bar", "(I)I"⟩
abbrev cX9_barred : ByteArray := prog_1_method_14_code
def yX9_barred : MethodName := ⟨RX9, "barred", "(I)I"⟩
abbrev cX9_rate : ByteArray := prog_1_method_15_code
def yX9_rate : MethodName := ⟨RX9, "rate", "(II)I"⟩
abbrev cX9_notice : ByteArray := prog_1_method_16_code
def yX9_notice : MethodName := ⟨RX9, "notice", "(IIIII)I"⟩
abbrev cX9_told : ByteArray := prog_1_method_17_code
def yX9_told : MethodName := ⟨RX9, "told", "(II)I"⟩
abbrev cX9_mark : ByteArray := prog_1_method_18_code
def yX9_mark : MethodName := ⟨RX9, "mark", "(II)I"⟩
abbrev cX9_fee : ByteArray := prog_1_method_19_code
def yX9_fee : MethodName := ⟨RX9, "fee", "(I)I"⟩
abbrev cX9_mean : ByteArray := prog_1_method_20_code
def yX9_mean : MethodName := ⟨RX9, "mean", "()I"⟩
abbrev cX9_back : ByteArray := prog_1_method_21_code
def yX9_back : MethodName := ⟨RX9, "back", "(I)I"⟩
abbrev cX9_crier : ByteArray := prog_1_method_22_code
def yX9_crier : MethodName := ⟨RX9, "crier", "(I)I"⟩
abbrev cX9_ready : ByteArray := prog_1_method_23_code
def yX9_ready : MethodName := ⟨RX9, "ready", "(II)I"⟩
abbrev cX9_cry : ByteArray := prog_1_method_24_code
def yX9_cry : MethodName := ⟨RX9, "cry", "(IIII)I"⟩
abbrev cX9_counted : ByteArray := prog_1_method_25_code
def yX9_counted : MethodName := ⟨RX9, "counted", "(II)I"⟩
abbrev cX9_cryTold : ByteArray := prog_1_method_26_code
def yX9_cryTold : MethodName := ⟨RX9, "cryTold", "(II)I"⟩
abbrev cX9_due : ByteArray := prog_1_method_27_code
def yX9_due : MethodName := ⟨RX9, "due", "(I)I"⟩
abbrev cX9_dueAt : ByteArray := prog_1_method_28_code
def yX9_dueAt : MethodName := ⟨RX9, "dueAt", "(II)I"⟩
abbrev cX9_present : ByteArray := prog_1_method_29_code
def yX9_present : MethodName := ⟨RX9, "present", "(IIII)I"⟩
abbrev cX9_heard : ByteArray := prog_1_method_30_code
def yX9_heard : MethodName := ⟨RX9, "heard", "(II)I"⟩
abbrev cX9_hearers : ByteArray := prog_1_method_31_code
def yX9_hearers : MethodName := ⟨RX9, "hearers", "(II)I"⟩
abbrev cX9_round : ByteArray := prog_1_method_32_code
def yX9_round : MethodName := ⟨RX9, "round", "(II)I"⟩
abbrev cX9_roundAt : ByteArray := prog_1_method_33_code
def yX9_roundAt : MethodName := ⟨RX9, "roundAt", "(I)I"⟩
abbrev cX9_joined : ByteArray := prog_1_method_34_code
def yX9_joined : MethodName := ⟨RX9, "joined", "(III)I"⟩
abbrev cX9_count : ByteArray := prog_1_method_35_code
def yX9_count : MethodName := ⟨RX9, "count", "(I)I"⟩
abbrev cX9_finding : ByteArray := prog_1_method_36_code
def yX9_finding : MethodName := ⟨RX9, "finding", "()I"⟩
abbrev cX9_findings : ByteArray := prog_1_method_37_code
def yX9_findings : MethodName := ⟨RX9, "findings", "(I)I"⟩
abbrev cX9_digest : ByteArray := prog_1_method_38_code
def yX9_digest : MethodName := ⟨RX9, "digest", "()J"⟩
abbrev cX9_isWithin : ByteArray := prog_1_method_39_code
def yX9_isWithin : MethodName := ⟨RX9, "isWithin", "(III)Z"⟩
abbrev cX9_isDay : ByteArray := prog_1_method_40_code
def yX9_isDay : MethodName := ⟨RX9, "isDay", "(I)Z"⟩
abbrev cX9_isMinute : ByteArray := prog_1_method_41_code
def yX9_isMinute : MethodName := ⟨RX9, "isMinute", "(I)Z"⟩
abbrev cX9_isSheet : ByteArray := prog_1_method_42_code
def yX9_isSheet : MethodName := ⟨RX9, "isSheet", "(I)Z"⟩
abbrev cX9_isKind : ByteArray := prog_1_method_43_code
def yX9_isKind : MethodName := ⟨RX9, "isKind", "(I)Z"⟩
abbrev cX9_isPerson : ByteArray := prog_1_method_44_code
def yX9_isPerson : MethodName := ⟨RX9, "isPerson", "(I)Z"⟩
abbrev cX9_isSquare : ByteArray := prog_1_method_45_code
def yX9_isSquare : MethodName := ⟨RX9, "isSquare", "(I)Z"⟩
abbrev cX9_isNotice : ByteArray := prog_1_method_46_code
def yX9_isNotice : MethodName := ⟨RX9, "isNotice", "(I)Z"⟩
abbrev cX9_isCrier : ByteArray := prog_1_method_47_code
def yX9_isCrier : MethodName := ⟨RX9, "isCrier", "(I)Z"⟩
abbrev cX9_areSquares : ByteArray := prog_1_method_48_code
def yX9_areSquares : MethodName := ⟨RX9, "areSquares", "(I)Z"⟩
abbrev cX9_isOfKind : ByteArray := prog_1_method_49_code
def yX9_isOfKind : MethodName := ⟨RX9, "isOfKind", "(II)Z"⟩
abbrev cX9_asAnswer : ByteArray := prog_1_method_50_code
def yX9_asAnswer : MethodName := ⟨RX9, "asAnswer", "(Z)I"⟩
abbrev cX9_find : ByteArray := prog_1_method_51_code
def yX9_find : MethodName := ⟨RX9, "find", "(I)I"⟩
abbrev cX9_walkBetween : ByteArray := prog_1_method_52_code
def yX9_walkBetween : MethodName := ⟨RX9, "walkBetween", "(II)I"⟩
abbrev cX9_areInHearing : ByteArray := prog_1_method_53_code
def yX9_areInHearing : MethodName := ⟨RX9, "areInHearing", "(II)Z"⟩
abbrev cX9_wasCryToday : ByteArray := prog_1_method_54_code
def yX9_wasCryToday : MethodName := ⟨RX9, "wasCryToday", "()Z"⟩
abbrev cX9_hasMarket : ByteArray := prog_1_method_55_code
def yX9_hasMarket : MethodName := ⟨RX9, "hasMarket", "(III)Z"⟩
abbrev cX9_feeOf : ByteArray := prog_1_method_56_code
def yX9_feeOf : MethodName := ⟨RX9, "feeOf", "(LCriersOffice$Notice;)I"⟩
abbrev cX9_readyMinute : ByteArray := prog_1_method_57_code
def yX9_readyMinute : MethodName := ⟨RX9, "readyMinute", "(LCriersOffice$Crier;I)I"⟩
abbrev cX9_isDrowned : ByteArray := prog_1_method_58_code
def yX9_isDrowned : MethodName := ⟨RX9, "isDrowned", "(III)Z"⟩
abbrev cX9_wouldCount : ByteArray := prog_1_method_59_code
def yX9_wouldCount : MethodName := ⟨RX9, "wouldCount", "(LCriersOffice$Notice;I)Z"⟩
abbrev cX9_heardTimes : ByteArray := prog_1_method_60_code
def yX9_heardTimes : MethodName := ⟨RX9, "heardTimes", "(II)I"⟩
abbrev cX9_wasInHearing : ByteArray := prog_1_method_61_code
def yX9_wasInHearing : MethodName := ⟨RX9, "wasInHearing", "(ILCriersOffice$Cry;)Z"⟩
abbrev cX9_areJoined : ByteArray := prog_1_method_62_code
def yX9_areJoined : MethodName := ⟨RX9, "areJoined", "(LCriersOffice$Notice;LCriersOffice$Notice;I)Z"⟩
abbrev cX9_lostJoinedWith : ByteArray := prog_1_method_63_code
def yX9_lostJoinedWith : MethodName := ⟨RX9, "lostJoinedWith", "(LCriersOffice$Notice;)I"⟩
def RX10 : String := "CriersOfficeModel"
def TX10 : u_T := fun k => match k with
  | 0 => ("CriersOfficeModel", "finding", "I", false)
  | 1 => ("CriersOfficeModel", "findings", "[I", true)
  | 2 => ("CriersOfficeModel", "today", "I", false)
  | 3 => ("CriersOfficeModel", "squares", "I", false)
  | 4 => ("CriersOfficeModel", "xs", "[I", true)
  | 5 => ("CriersOfficeModel", "ys", "[I", true)
  | 6 => ("CriersOfficeModel", "weeks", "[I", true)
  | 7 => ("CriersOfficeModel", "hearing", "I", false)
  | 8 => ("CriersOfficeModel", "moves", "I", false)
  | 9 => ("CriersOfficeModel", "moveSquare", "[I", true)
  | 10 => ("CriersOfficeModel", "moveFrom", "[I", true)
  | 11 => ("CriersOfficeModel", "moveTo", "[I", true)
  | 12 => ("CriersOfficeModel", "moveKnown", "[I", true)
  | 13 => ("CriersOfficeModel", "sizes", "[I", true)
  | 14 => ("CriersOfficeModel", "signs", "[I", true)
  | 15 => ("CriersOfficeModel", "moving", "[I", true)
  | 16 => ("CriersOfficeModel", "bars", "I", false)
  | 17 => ("CriersOfficeModel", "barLengths", "[I", true)
  | 18 => ("CriersOfficeModel", "barSigns", "[I", true)
  | 19 => ("CriersOfficeModel", "rates", "[I", true)
  | 20 => ("CriersOfficeModel", "notices", "I", false)
  | 21 => ("CriersOfficeModel", "kinds", "[I", true)
  | 22 => ("CriersOfficeModel", "words", "[I", true)
  | 23 => ("CriersOfficeModel", "wheres", "[I", true)
  | 24 => ("CriersOfficeModel", "times", "[I", true)
  | 25 => ("CriersOfficeModel", "marks", "[I", true)
  | 26 => ("CriersOfficeModel", "taken", "[I", true)
  | 27 => ("CriersOfficeModel", "isBack", "[Z", true)
  | 28 => ("CriersOfficeModel", "criers", "I", false)
  | 29 => ("CriersOfficeModel", "crierAt", "[I", true)
  | 30 => ("CriersOfficeModel", "freeFrom", "[I", true)
  | 31 => ("CriersOfficeModel", "cries", "I", false)
  | 32 => ("CriersOfficeModel", "cryNotice", "[I", true)
  | 33 => ("CriersOfficeModel", "cryCrier", "[I", true)
  | 34 => ("CriersOfficeModel", "cryAt", "[I", true)
  | 35 => ("CriersOfficeModel", "cryDay", "[I", true)
  | 36 => ("CriersOfficeModel", "cryMinute", "[I", true)
  | 37 => ("CriersOfficeModel", "cryCounts", "[I", true)
  | 38 => ("CriersOfficeModel", "presences", "I", false)
  | 39 => ("CriersOfficeModel", "whos", "[I", true)
  | 40 => ("CriersOfficeModel", "whereWas", "[I", true)
  | 41 => ("CriersOfficeModel", "whenWas", "[I", true)
  | 42 => ("CriersOfficeModel", "fromWas", "[I", true)
  | 43 => ("CriersOfficeModel", "toWas", "[I", true)
  | 44 => ("CriersOfficeModel", "least", "[I", true)
  | 45 => ("CriersOfficeModel", "roundMany", "I", false)
  | _ => ("CriersOfficeModel", "roundRow", "[I", true)
def tyX10 : Nat → FieldType := fun k => match k with
  | 0 => .int
  | 1 => .array .int
  | 2 => .int
  | 3 => .int
  | 4 => .array .int
  | 5 => .array .int
  | 6 => .array .int
  | 7 => .int
  | 8 => .int
  | 9 => .array .int
  | 10 => .array .int
  | 11 => .array .int
  | 12 => .array .int
  | 13 => .array .int
  | 14 => .array .int
  | 15 => .array .int
  | 16 => .int
  | 17 => .array .int
  | 18 => .array .int
  | 19 => .array .int
  | 20 => .int
  | 21 => .array .int
  | 22 => .array .int
  | 23 => .array .int
  | 24 => .array .int
  | 25 => .array .int
  | 26 => .array .int
  | 27 => .array .boolean
  | 28 => .int
  | 29 => .array .int
  | 30 => .array .int
  | 31 => .int
  | 32 => .array .int
  | 33 => .array .int
  | 34 => .array .int
  | 35 => .array .int
  | 36 => .array .int
  | 37 => .array .int
  | 38 => .int
  | 39 => .array .int
  | 40 => .array .int
  | 41 => .array .int
  | 42 => .array .int
  | 43 => .array .int
  | 44 => .array .int
  | 45 => .int
  | _ => .array .int
theorem nmX10 : ∀ a, a < 47 → ∀ b, b < 47 → a ≠ b → (TX10 a).2.1 ≠ (TX10 b).2.1 := by decide +kernel
theorem tyX10_ok : ∀ k, k < 47 → parseFieldDescriptor (TX10 k).2.2.1 = some (tyX10 k) := by decide +kernel
abbrev cX10_init : ByteArray := prog_12_method_1_code
def yX10_init : MethodName := ⟨RX10, "<init>", "()V"⟩
abbrev cX10_in : ByteArray := prog_12_method_3_code
def yX10_in : MethodName := ⟨RX10, "in", "(III)Z"⟩
abbrev cX10_meets : ByteArray := prog_12_method_4_code
def yX10_meets : MethodName := ⟨RX10, "meets", "(I)I"⟩
abbrev cX10_has : ByteArray := prog_12_method_5_code
def yX10_has : MethodName := ⟨RX10, "has", "(II)Z"⟩
abbrev cX10_bits : ByteArray := prog_12_method_6_code
def yX10_bits : MethodName := ⟨RX10, "bits", "(I)I"⟩
abbrev cX10_isSquare : ByteArray := prog_12_method_7_code
def yX10_isSquare : MethodName := ⟨RX10, "isSquare", "(I)Z"⟩
abbrev cX10_square : ByteArray := prog_12_method_8_code
def yX10_square : MethodName := ⟨RX10, "square", "(III)I"⟩
abbrev cX10_walks : ByteArray := prog_12_method_9_code
def yX10_walks : MethodName := ⟨RX10, "walks", "(II)I"⟩
abbrev cX10_walk : ByteArray := prog_12_method_10_code
def yX10_walk : MethodName := ⟨RX10, "walk", "(II)I"⟩
abbrev cX10_hearing : ByteArray := prog_12_method_11_code
def yX10_hearing : MethodName := ⟨RX10, "hearing", "(I)I"⟩
abbrev cX10_later : ByteArray := prog_12_method_12_code
def yX10_later : MethodName := ⟨RX10, "later", "(I)I"⟩
abbrev cX10_isDay : ByteArray := prog_12_method_13_code
def yX10_isDay : MethodName := ⟨RX10, "isDay", "(I)Z"⟩
abbrev cX10_move : ByteArray := prog_12_method_14_code
def yX10_move : MethodName := ⟨RX10, "move", "(IIII)I"⟩
abbrev cX10_hasMarket : ByteArray := prog_12_method_15_code
def yX10_hasMarket : MethodName := ⟨RX10, "hasMarket", "(III)Z"⟩
abbrev cX10_market : ByteArray := prog_12_method_16_code
def yX10_market : MethodName := ⟨RX10, "market", "(III)I"⟩
abbrev cX10_isSheet : ByteArray := prog_12_method_17_code
def yX10_isSheet : MethodName := ⟨RX10, "isSheet", "(I)Z"⟩
abbrev cX10_looked : ByteArray := prog_12_method_18_code
def yX10_looked : MethodName := ⟨RX10, "looked", "(I)I"⟩
abbrev cX10_sheet : ByteArray := prog_12_method_19_code
def yX10_sheet : MethodName := ⟨RX10, "sheet", "(II)I"⟩
abbrev cX10_lay : ByteArray := prog_12_method_20_code
def yX10_lay : MethodName := ⟨RX10, "lay", "(III)I"⟩
abbrev cX10_tear : ByteArray := prog_12_method_21_code
def yX10_tear : MethodName := ⟨RX10, "tear", "(I)I"⟩
abbrev cX10_copy : ByteArray := prog_12_method_22_code
def yX10_copy : MethodName := ⟨RX10, "copy", "(IIIII)I"⟩
abbrev cX10_isFigure : ByteArray := prog_12_method_23_code
def yX10_isFigure : MethodName := ⟨RX10, "isFigure", "(I)Z"⟩
abbrev cX10_small : ByteArray := prog_12_method_24_code
def yX10_small : MethodName := ⟨RX10, "small", "(I)I"⟩
abbrev cX10_isSign : ByteArray := prog_12_method_25_code
def yX10_isSign : MethodName := ⟨RX10, "isSign", "(I)Z"⟩
abbrev cX10_signAt : ByteArray := prog_12_method_26_code
def yX10_signAt : MethodName := ⟨RX10, "signAt", "(II)I"⟩
abbrev cX10_pieceAt : ByteArray := prog_12_method_27_code
def yX10_pieceAt : MethodName := ⟨RX10, "pieceAt", "(II)I"⟩
abbrev cX10_wordsOf : ByteArray := prog_12_method_28_code
def yX10_wordsOf : MethodName := ⟨RX10, "wordsOf", "(I)I"⟩
abbrev cX10_words : ByteArray := prog_12_method_29_code
def yX10_words : MethodName := ⟨RX10, "words", "(I)I"⟩
abbrev cX10_bar : ByteArray := prog_12_method_30_code
def yX10_bar : MethodName := ⟨RX10, "bar", "(I)I"⟩
abbrev cX10_barredIn : ByteArray := prog_12_method_31_code
def yX10_barredIn : MethodName := ⟨RX10, "barredIn", "(I)I"⟩
abbrev cX10_barred : ByteArray := prog_12_method_32_code
def yX10_barred : MethodName := ⟨RX10, "barred", "(I)I"⟩
abbrev cX10_rate : ByteArray := prog_12_method_33_code
def yX10_rate : MethodName := ⟨RX10, "rate", "(II)I"⟩
abbrev cX10_areSquares : ByteArray := prog_12_method_34_code
def yX10_areSquares : MethodName := ⟨RX10, "areSquares", "(I)Z"⟩
abbrev cX10_isNotice : ByteArray := prog_12_method_35_code
def yX10_isNotice : MethodName := ⟨RX10, "isNotice", "(I)Z"⟩
abbrev cX10_fits : ByteArray := prog_12_method_36_code
def yX10_fits : MethodName := ⟨RX10, "fits", "(II)Z"⟩
abbrev cX10_notice : ByteArray := prog_12_method_37_code
def yX10_notice : MethodName := ⟨RX10, "notice", "(IIIII)I"⟩
abbrev cX10_countedAt : ByteArray := prog_12_method_38_code
def yX10_countedAt : MethodName := ⟨RX10, "countedAt", "(II)I"⟩
abbrev cX10_lacks : ByteArray := prog_12_method_39_code
def yX10_lacks : MethodName := ⟨RX10, "lacks", "(I)I"⟩
abbrev cX10_tells : ByteArray := prog_12_method_40_code
def yX10_tells : MethodName := ⟨RX10, "tells", "(II)I"⟩
abbrev cX10_told : ByteArray := prog_12_method_41_code
def yX10_told : MethodName := ⟨RX10, "told", "(II)I"⟩
abbrev cX10_feeOf : ByteArray := prog_12_method_42_code
def yX10_feeOf : MethodName := ⟨RX10, "feeOf", "(I)I"⟩
abbrev cX10_joins : ByteArray := prog_12_method_43_code
def yX10_joins : MethodName := ⟨RX10, "joins", "(III)Z"⟩
abbrev cX10_mark : ByteArray := prog_12_method_44_code
def yX10_mark : MethodName := ⟨RX10, "mark", "(II)I"⟩
abbrev cX10_fee : ByteArray := prog_12_method_45_code
def yX10_fee : MethodName := ⟨RX10, "fee", "(I)I"⟩
abbrev cX10_mean : ByteArray := prog_12_method_46_code
def yX10_mean : MethodName := ⟨RX10, "mean", "()I"⟩
abbrev cX10_back : ByteArray := prog_12_method_47_code
def yX10_back : MethodName := ⟨RX10, "back", "(I)I"⟩
abbrev cX10_isCrier : ByteArray := prog_12_method_48_code
def yX10_isCrier : MethodName := ⟨RX10, "isCrier", "(I)Z"⟩
abbrev cX10_crier : ByteArray := prog_12_method_49_code
def yX10_crier : MethodName := ⟨RX10, "crier", "(I)I"⟩
abbrev cX10_readyAt : ByteArray := prog_12_method_50_code
def yX10_readyAt : MethodName := ⟨RX10, "readyAt", "(II)I"⟩
abbrev cX10_ready : ByteArray := prog_12_method_51_code
def yX10_ready : MethodName := ⟨RX10, "ready", "(II)I"⟩
abbrev cX10_wouldCount : ByteArray := prog_12_method_52_code
def yX10_wouldCount : MethodName := ⟨RX10, "wouldCount", "(II)Z"⟩
abbrev cX10_isTooNear : ByteArray := prog_12_method_53_code
def yX10_isTooNear : MethodName := ⟨RX10, "isTooNear", "(III)Z"⟩
abbrev cX10_cry : ByteArray := prog_12_method_54_code
def yX10_cry : MethodName := ⟨RX10, "cry", "(IIII)I"⟩
abbrev cX10_counted : ByteArray := prog_12_method_55_code
def yX10_counted : MethodName := ⟨RX10, "counted", "(II)I"⟩
abbrev cX10_tellsCry : ByteArray := prog_12_method_56_code
def yX10_tellsCry : MethodName := ⟨RX10, "tellsCry", "(II)I"⟩
abbrev cX10_cryTold : ByteArray := prog_12_method_57_code
def yX10_cryTold : MethodName := ⟨RX10, "cryTold", "(II)I"⟩
abbrev cX10_due : ByteArray := prog_12_method_58_code
def yX10_due : MethodName := ⟨RX10, "due", "(I)I"⟩
abbrev cX10_dueAt : ByteArray := prog_12_method_59_code
def yX10_dueAt : MethodName := ⟨RX10, "dueAt", "(II)I"⟩
abbrev cX10_isPerson : ByteArray := prog_12_method_60_code
def yX10_isPerson : MethodName := ⟨RX10, "isPerson", "(I)Z"⟩
abbrev cX10_present : ByteArray := prog_12_method_61_code
def yX10_present : MethodName := ⟨RX10, "present", "(IIII)I"⟩
abbrev cX10_hears : ByteArray := prog_12_method_62_code
def yX10_hears : MethodName := ⟨RX10, "hears", "(II)Z"⟩
abbrev cX10_heardOf : ByteArray := prog_12_method_63_code
def yX10_heardOf : MethodName := ⟨RX10, "heardOf", "(II)I"⟩
abbrev cX10_heard : ByteArray := prog_12_method_64_code
def yX10_heard : MethodName := ⟨RX10, "heard", "(II)I"⟩
abbrev cX10_hearers : ByteArray := prog_12_method_65_code
def yX10_hearers : MethodName := ⟨RX10, "hearers", "(II)I"⟩
abbrev cX10_setLeast : ByteArray := prog_12_method_66_code
def yX10_setLeast : MethodName := ⟨RX10, "setLeast", "(I)V"⟩
abbrev cX10_round : ByteArray := prog_12_method_67_code
def yX10_round : MethodName := ⟨RX10, "round", "(II)I"⟩
abbrev cX10_roundAt : ByteArray := prog_12_method_68_code
def yX10_roundAt : MethodName := ⟨RX10, "roundAt", "(I)I"⟩
abbrev cX10_joined : ByteArray := prog_12_method_69_code
def yX10_joined : MethodName := ⟨RX10, "joined", "(III)I"⟩
abbrev cX10_counts : ByteArray := prog_12_method_70_code
def yX10_counts : MethodName := ⟨RX10, "counts", "(I)I"⟩
abbrev cX10_count : ByteArray := prog_12_method_71_code
def yX10_count : MethodName := ⟨RX10, "count", "(I)I"⟩
abbrev cX10_finding : ByteArray := prog_12_method_72_code
def yX10_finding : MethodName := ⟨RX10, "finding", "()I"⟩
abbrev cX10_findings : ByteArray := prog_12_method_73_code
def yX10_findings : MethodName := ⟨RX10, "findings", "(I)I"⟩
abbrev cX10_digest : ByteArray := prog_12_method_74_code
def yX10_digest : MethodName := ⟨RX10, "digest", "()J"⟩
def RJx145de : String := "java/io/Serializable"
def TJx145de : u_T := fun k => match k with
  | _ => ("", "", "", false)
def tyJx145de : Nat → FieldType := fun k => match k with
  | _ => .int
theorem nmJx145de : ∀ a, a < 0 → ∀ b, b < 0 → a ≠ b → (TJx145de a).2.1 ≠ (TJx145de b).2.1 := by decide +kernel
theorem tyJx145de_ok : ∀ k, k < 0 → parseFieldDescriptor (TJx145de k).2.2.1 = some (tyJx145de k) := by decide +kernel
def RJx8e188 : String := "java/lang/Cloneable"
def TJx8e188 : u_T := fun k => match k with
  | _ => ("", "", "", false)
def tyJx8e188 : Nat → FieldType := fun k => match k with
  | _ => .int
theorem nmJx8e188 : ∀ a, a < 0 → ∀ b, b < 0 → a ≠ b → (TJx8e188 a).2.1 ≠ (TJx8e188 b).2.1 := by decide +kernel
theorem tyJx8e188_ok : ∀ k, k < 0 → parseFieldDescriptor (TJx8e188 k).2.2.1 = some (tyJx8e188 k) := by decide +kernel
def RJ6 : String := "java/lang/Integer"
def TJ6 : u_T := fun k => match k with
  | _ => ("", "", "", false)
def tyJ6 : Nat → FieldType := fun k => match k with
  | _ => .int
theorem nmJ6 : ∀ a, a < 0 → ∀ b, b < 0 → a ≠ b → (TJ6 a).2.1 ≠ (TJ6 b).2.1 := by decide +kernel
theorem tyJ6_ok : ∀ k, k < 0 → parseFieldDescriptor (TJ6 k).2.2.1 = some (tyJ6 k) := by decide +kernel
abbrev cJ6_bitCount_0f7a4 : ByteArray := prog_15_method_49_code
def yJ6_bitCount_0f7a4 : MethodName := ⟨RJ6, "bitCount", "(I)I"⟩
def RJxab1ab : String := "java/lang/Iterable"
def TJxab1ab : u_T := fun k => match k with
  | _ => ("", "", "", false)
def tyJxab1ab : Nat → FieldType := fun k => match k with
  | _ => .int
theorem nmJxab1ab : ∀ a, a < 0 → ∀ b, b < 0 → a ≠ b → (TJxab1ab a).2.1 ≠ (TJxab1ab b).2.1 := by decide +kernel
theorem tyJxab1ab_ok : ∀ k, k < 0 → parseFieldDescriptor (TJxab1ab k).2.2.1 = some (tyJxab1ab k) := by decide +kernel
def RJ9 : String := "java/lang/Math"
def TJ9 : u_T := fun k => match k with
  | _ => ("", "", "", false)
def tyJ9 : Nat → FieldType := fun k => match k with
  | _ => .int
theorem nmJ9 : ∀ a, a < 0 → ∀ b, b < 0 → a ≠ b → (TJ9 a).2.1 ≠ (TJ9 b).2.1 := by decide +kernel
theorem tyJ9_ok : ∀ k, k < 0 → parseFieldDescriptor (TJ9 k).2.2.1 = some (tyJ9 k) := by decide +kernel
abbrev cJ9_abs_0f7a4 : ByteArray := prog_17_method_59_code
def yJ9_abs_0f7a4 : MethodName := ⟨RJ9, "abs", "(I)I"⟩
abbrev cJ9_max_7cf53 : ByteArray := prog_17_method_65_code
def yJ9_max_7cf53 : MethodName := ⟨RJ9, "max", "(II)I"⟩
abbrev cJ9_min_7cf53 : ByteArray := prog_17_method_69_code
def yJ9_min_7cf53 : MethodName := ⟨RJ9, "min", "(II)I"⟩
def RJ10 : String := "java/lang/System"
def TJ10 : u_T := fun k => match k with
  | _ => ("", "", "", false)
def tyJ10 : Nat → FieldType := fun k => match k with
  | _ => .int
theorem nmJ10 : ∀ a, a < 0 → ∀ b, b < 0 → a ≠ b → (TJ10 a).2.1 ≠ (TJ10 b).2.1 := by decide +kernel
theorem tyJ10_ok : ∀ k, k < 0 → parseFieldDescriptor (TJ10 k).2.2.1 = some (tyJ10 k) := by decide +kernel
def RJxa1e45 : String := "java/util/AbstractCollection"
def TJxa1e45 : u_T := fun k => match k with
  | _ => ("", "", "", false)
def tyJxa1e45 : Nat → FieldType := fun k => match k with
  | _ => .int
theorem nmJxa1e45 : ∀ a, a < 0 → ∀ b, b < 0 → a ≠ b → (TJxa1e45 a).2.1 ≠ (TJxa1e45 b).2.1 := by decide +kernel
theorem tyJxa1e45_ok : ∀ k, k < 0 → parseFieldDescriptor (TJxa1e45 k).2.2.1 = some (tyJxa1e45 k) := by decide +kernel
abbrev cJxa1e45_init_da8c8 : ByteArray := prog_19_method_1_code
def yJxa1e45_init_da8c8 : MethodName := ⟨RJxa1e45, "<init>", "()V"⟩
def RJxc12de : String := "java/util/AbstractList"
def TJxc12de : u_T := fun k => match k with
  | _ => ("", "", "", false)
def tyJxc12de : Nat → FieldType := fun k => match k with
  | _ => .int
theorem nmJxc12de : ∀ a, a < 0 → ∀ b, b < 0 → a ≠ b → (TJxc12de a).2.1 ≠ (TJxc12de b).2.1 := by decide +kernel
theorem tyJxc12de_ok : ∀ k, k < 0 → parseFieldDescriptor (TJxc12de k).2.2.1 = some (tyJxc12de k) := by decide +kernel
abbrev cJxc12de_init_da8c8 : ByteArray := prog_20_method_1_code
def yJxc12de_init_da8c8 : MethodName := ⟨RJxc12de, "<init>", "()V"⟩
def RJx4a65c : String := "java/util/ArrayList"
def TJx4a65c : u_T := fun k => match k with
  | 0 => ("java/util/AbstractList", "modCount", "I", false)
  | 1 => ("java/util/ArrayList", "elementData", "[Ljava/lang/Object;", false)
  | _ => ("java/util/ArrayList", "size", "I", false)
def tyJx4a65c : Nat → FieldType := fun k => match k with
  | 0 => .int
  | 1 => .array (.object "java/lang/Object")
  | _ => .int
theorem nmJx4a65c : ∀ a, a < 3 → ∀ b, b < 3 → a ≠ b → (TJx4a65c a).2.1 ≠ (TJx4a65c b).2.1 := by decide +kernel
theorem tyJx4a65c_ok : ∀ k, k < 3 → parseFieldDescriptor (TJx4a65c k).2.2.1 = some (tyJx4a65c k) := by decide +kernel
abbrev cJx4a65c_init_da8c8 : ByteArray := prog_21_method_2_code
def yJx4a65c_init_da8c8 : MethodName := ⟨RJx4a65c, "<init>", "()V"⟩
abbrev cJx4a65c_grow_92f84 : ByteArray := prog_21_method_6_code
def yJx4a65c_grow_92f84 : MethodName := ⟨RJx4a65c, "grow", "(I)[Ljava/lang/Object;"⟩
abbrev cJx4a65c_grow_d5877 : ByteArray := prog_21_method_7_code
def yJx4a65c_grow_d5877 : MethodName := ⟨RJx4a65c, "grow", "()[Ljava/lang/Object;"⟩
abbrev cJx4a65c_size_8abf5 : ByteArray := prog_21_method_8_code
def yJx4a65c_size_8abf5 : MethodName := ⟨RJx4a65c, "size", "()I"⟩
abbrev cJx4a65c_isEmpty_aae02 : ByteArray := prog_21_method_9_code
def yJx4a65c_isEmpty_aae02 : MethodName := ⟨RJx4a65c, "isEmpty", "()Z"⟩
abbrev cJx4a65c_elementData_915e3 : ByteArray := prog_21_method_18_code
def yJx4a65c_elementData_915e3 : MethodName := ⟨RJx4a65c, "elementData", "(I)Ljava/lang/Object;"⟩
abbrev cJx4a65c_get_915e3 : ByteArray := prog_21_method_20_code
def yJx4a65c_get_915e3 : MethodName := ⟨RJx4a65c, "get", "(I)Ljava/lang/Object;"⟩
abbrev cJx4a65c_add_72be8 : ByteArray := prog_21_method_24_code
def yJx4a65c_add_72be8 : MethodName := ⟨RJx4a65c, "add", "(Ljava/lang/Object;[Ljava/lang/Object;I)V"⟩
abbrev cJx4a65c_add_9ea2d : ByteArray := prog_21_method_25_code
def yJx4a65c_add_9ea2d : MethodName := ⟨RJx4a65c, "add", "(Ljava/lang/Object;)Z"⟩
def RJ7 : String := "java/util/Arrays"
def TJ7 : u_T := fun k => match k with
  | _ => ("", "", "", false)
def tyJ7 : Nat → FieldType := fun k => match k with
  | _ => .int
theorem nmJ7 : ∀ a, a < 0 → ∀ b, b < 0 → a ≠ b → (TJ7 a).2.1 ≠ (TJ7 b).2.1 := by decide +kernel
theorem tyJ7_ok : ∀ k, k < 0 → parseFieldDescriptor (TJ7 k).2.2.1 = some (tyJ7 k) := by decide +kernel
abbrev cJ7_fill_53178 : ByteArray := prog_22_method_103_code
def yJ7_fill_53178 : MethodName := ⟨RJ7, "fill", "([II)V"⟩
abbrev cJ7_fill_031fb : ByteArray := prog_22_method_109_code
def yJ7_fill_031fb : MethodName := ⟨RJ7, "fill", "([BB)V"⟩
abbrev cJ7_copyOf_1904c : ByteArray := prog_22_method_119_code
def yJ7_copyOf_1904c : MethodName := ⟨RJ7, "copyOf", "([Ljava/lang/Object;I)[Ljava/lang/Object;"⟩
abbrev cJ7_copyOf_6403c : ByteArray := prog_22_method_120_code
def yJ7_copyOf_6403c : MethodName := ⟨RJ7, "copyOf", "([Ljava/lang/Object;ILjava/lang/Class;)[Ljava/lang/Object;"⟩
def RJx5ef63 : String := "java/util/Collection"
def TJx5ef63 : u_T := fun k => match k with
  | _ => ("", "", "", false)
def tyJx5ef63 : Nat → FieldType := fun k => match k with
  | _ => .int
theorem nmJx5ef63 : ∀ a, a < 0 → ∀ b, b < 0 → a ≠ b → (TJx5ef63 a).2.1 ≠ (TJx5ef63 b).2.1 := by decide +kernel
theorem tyJx5ef63_ok : ∀ k, k < 0 → parseFieldDescriptor (TJx5ef63 k).2.2.1 = some (tyJx5ef63 k) := by decide +kernel
def RJxbd725 : String := "java/util/List"
def TJxbd725 : u_T := fun k => match k with
  | _ => ("", "", "", false)
def tyJxbd725 : Nat → FieldType := fun k => match k with
  | _ => .int
theorem nmJxbd725 : ∀ a, a < 0 → ∀ b, b < 0 → a ≠ b → (TJxbd725 a).2.1 ≠ (TJxbd725 b).2.1 := by decide +kernel
theorem tyJxbd725_ok : ∀ k, k < 0 → parseFieldDescriptor (TJxbd725 k).2.2.1 = some (tyJxbd725 k) := by decide +kernel
def RJ15 : String := "java/util/Objects"
def TJ15 : u_T := fun k => match k with
  | _ => ("", "", "", false)
def tyJ15 : Nat → FieldType := fun k => match k with
  | _ => .int
theorem nmJ15 : ∀ a, a < 0 → ∀ b, b < 0 → a ≠ b → (TJ15 a).2.1 ≠ (TJ15 b).2.1 := by decide +kernel
theorem tyJ15_ok : ∀ k, k < 0 → parseFieldDescriptor (TJ15 k).2.2.1 = some (tyJ15 k) := by decide +kernel
abbrev cJ15_checkIndex_7cf53 : ByteArray := prog_25_method_17_code
def yJ15_checkIndex_7cf53 : MethodName := ⟨RJ15, "checkIndex", "(II)I"⟩
def RJxf0a74 : String := "java/util/RandomAccess"
def TJxf0a74 : u_T := fun k => match k with
  | _ => ("", "", "", false)
def tyJxf0a74 : Nat → FieldType := fun k => match k with
  | _ => .int
theorem nmJxf0a74 : ∀ a, a < 0 → ∀ b, b < 0 → a ≠ b → (TJxf0a74 a).2.1 ≠ (TJxf0a74 b).2.1 := by decide +kernel
theorem tyJxf0a74_ok : ∀ k, k < 0 → parseFieldDescriptor (TJxf0a74 k).2.2.1 = some (tyJxf0a74 k) := by decide +kernel
def RJxa66e6 : String := "java/util/SequencedCollection"
def TJxa66e6 : u_T := fun k => match k with
  | _ => ("", "", "", false)
def tyJxa66e6 : Nat → FieldType := fun k => match k with
  | _ => .int
theorem nmJxa66e6 : ∀ a, a < 0 → ∀ b, b < 0 → a ≠ b → (TJxa66e6 a).2.1 ≠ (TJxa66e6 b).2.1 := by decide +kernel
theorem tyJxa66e6_ok : ∀ k, k < 0 → parseFieldDescriptor (TJxa66e6 k).2.2.1 = some (tyJxa66e6 k) := by decide +kernel
def RJ8 : String := "jdk/internal/util/ArraysSupport"
def TJ8 : u_T := fun k => match k with
  | _ => ("", "", "", false)
def tyJ8 : Nat → FieldType := fun k => match k with
  | _ => .int
theorem nmJ8 : ∀ a, a < 0 → ∀ b, b < 0 → a ≠ b → (TJ8 a).2.1 ≠ (TJ8 b).2.1 := by decide +kernel
theorem tyJ8_ok : ∀ k, k < 0 → parseFieldDescriptor (TJ8 k).2.2.1 = some (tyJ8 k) := by decide +kernel
abbrev cJ8_newLength_cabcc : ByteArray := prog_28_method_27_code
def yJ8_newLength_cabcc : MethodName := ⟨RJ8, "newLength", "(III)I"⟩
abbrev cJ8_hugeLength_7cf53 : ByteArray := prog_28_method_28_code
def yJ8_hugeLength_7cf53 : MethodName := ⟨RJ8, "hugeLength", "(II)I"⟩
def RJ3 : String := "jdk/internal/util/Preconditions"
def TJ3 : u_T := fun k => match k with
  | _ => ("", "", "", false)
def tyJ3 : Nat → FieldType := fun k => match k with
  | _ => .int
theorem nmJ3 : ∀ a, a < 0 → ∀ b, b < 0 → a ≠ b → (TJ3 a).2.1 ≠ (TJ3 b).2.1 := by decide +kernel
theorem tyJ3_ok : ∀ k, k < 0 → parseFieldDescriptor (TJ3 k).2.2.1 = some (tyJ3 k) := by decide +kernel
abbrev cJ3_checkIndex_8e157 : ByteArray := prog_29_method_11_code
def yJ3_checkIndex_8e157 : MethodName := ⟨RJ3, "checkIndex", "(IILjava/util/function/BiFunction;)I"⟩
def RL : String := "CriersOfficeLaw"
abbrev cL_law : ByteArray := code
def yL_law : MethodName := ⟨RL, "law", "([I)Z"⟩
abbrev vwCl : List vw_C := [(RJx4a65c, TJx4a65c, 3), (RX0, TX0, 3), (RX1, TX1, 2), (RX2, TX2, 6), (RX3, TX3, 4), (RX4, TX4, 9), (RX5, TX5, 4), (RX6, TX6, 2), (RX7, TX7, 3), (RX8, TX8, 5), (RX9, TX9, 14), (RX10, TX10, 47)]
end
section
/-! the program as data: classes, methods, instruction rows (pc, instruction, two resolved numbers, the place of its word in lw_tbl, a number) -/
def am_cn : List String := [RJx4a65c, RX0, RX1, RX2, RX3, RX4, RX5, RX6, RX7, RX8, RX9, RX10, RJ6, RJxa1e45, RJxc12de, RJ7, RJ15, RJ8, RJ3, RL]
def am_cnm (k : Nat) : String := am_cn.getD k ""
def am_tyl : List (Nat → FieldType) := [tyJx4a65c, tyX0, tyX1, tyX2, tyX3, tyX4, tyX5, tyX6, tyX7, tyX8, tyX9, tyX10]
def am_dfl : List (List Value) := [[.int 0, .null, .int 0], [.null, .null, .int 0], [.int 0, .int 0], [.int 0, .int 0, .int 0, .int 0, .int 0, .int 0], [.int 0, .int 0, .int 0, .int 0], [.int 0, .int 0, .int 0, .int 0, .int 0, .int 0, .null, .null, .int 0], [.null, .int 0, .null, .int 0], [.null, .int 0], [.int 0, .int 0, .int 0], [.int 0, .int 0, .int 0, .int 0, .int 0], [.null, .null, .null, .null, .null, .null, .null, .null, .null, .null, .null, .int 0, .int 0, .int 0], [.int 0, .null, .int 0, .int 0, .null, .null, .null, .int 0, .int 0, .null, .null, .null, .null, .null, .null, .null, .int 0, .null, .null, .null, .int 0, .null, .null, .null, .null, .null, .null, .null, .int 0, .null, .null, .int 0, .null, .null, .null, .null, .null, .null, .int 0, .null, .null, .null, .null, .null, .null, .int 0, .null]]
abbrev am_R : Type := Instr × Nat × Nat × Nat × Int
abbrev am_M : Type := Nat × Bool × Nat × Nat × Nat × Nat × List (Nat × am_R)
def am_t0 : List (Nat × am_R) := [(0, .aload_n 0, 0, 0, 0, 0), (1, .invokespecial 3, 0, 0, 130, 0), (4, .aload_n 0, 0, 0, 0, 0), (5, .sipush 192, 0, 0, 0, 0), (8, .newarray .byte, 0, 0, 0, 0), (10, .putfield 9, 1, 0, 131, 0), (13, .aload_n 0, 0, 0, 0, 0), (14, .bipush 16, 0, 0, 0, 0), (16, .newarray .int, 0, 0, 0, 0), (18, .putfield 15, 1, 1, 132, 0), (21, .aload_n 0, 0, 0, 0, 0), (22, .iconst 0, 0, 0, 0, 0), (23, .putfield 19, 1, 2, 133, 0), (26, .return_, 0, 0, 0, 0)]
def am_t1 : List (Nat × am_R) := [(0, .aload_n 0, 0, 0, 0, 0), (1, .iconst 0, 0, 0, 0, 0), (2, .putfield 19, 1, 2, 133, 0), (5, .iconst 0, 0, 0, 0, 0), (6, .istore_n 2, 0, 0, 0, 0), (7, .iload_n 2, 0, 0, 0, 0), (8, .aload_n 1, 0, 0, 0, 0), (9, .getfield 23, 7, 1, 117, 1), (12, .if_icmp .ge 47, 0, 0, 0, 0), (15, .aload_n 0, 0, 0, 0, 0), (16, .getfield 19, 1, 2, 133, 0), (19, .bipush 16, 0, 0, 0, 0), (21, .if_icmp .ge 38, 0, 0, 0, 0), (24, .aload_n 1, 0, 0, 0, 0), (25, .iload_n 2, 0, 0, 0, 0), (26, .invokevirtual 28, 38, 1, 463, 0), (29, .ifCond .eq 24, 0, 0, 0, 0), (32, .aload_n 1, 0, 0, 0, 0), (33, .iload_n 2, 0, 0, 0, 0), (34, .invokevirtual 32, 39, 1, 464, 0), (37, .bipush 12, 0, 0, 0, 0), (39, .if_icmp .gt 14, 0, 0, 0, 0), (42, .aload_n 0, 0, 0, 0, 0), (43, .aload_n 1, 0, 0, 0, 0), (44, .iload_n 2, 0, 0, 0, 0), (45, .aload_n 1, 0, 0, 0, 0), (46, .iload_n 2, 0, 0, 0, 0), (47, .invokevirtual 32, 39, 1, 464, 0), (50, .invokevirtual 36, 13, 3, 465, 0), (53, .iinc 2 1, 0, 0, 0, 0), (56, .goto (-49), 0, 0, 0, 0), (59, .return_, 0, 0, 0, 0)]
def am_t2 : List (Nat × am_R) := [(0, .iconst 0, 0, 0, 0, 0), (1, .istore_n 2, 0, 0, 0, 0), (2, .iload_n 2, 0, 0, 0, 0), (3, .aload_n 1, 0, 0, 0, 0), (4, .getfield 23, 7, 1, 117, 1), (7, .if_icmp .ge 33, 0, 0, 0, 0), (10, .aload_n 1, 0, 0, 0, 0), (11, .iload_n 2, 0, 0, 0, 0), (12, .invokevirtual 28, 38, 1, 463, 0), (15, .ifCond .eq 19, 0, 0, 0, 0), (18, .aload_n 0, 0, 0, 0, 0), (19, .aload_n 1, 0, 0, 0, 0), (20, .iload_n 2, 0, 0, 0, 0), (21, .aload_n 1, 0, 0, 0, 0), (22, .iload_n 2, 0, 0, 0, 0), (23, .invokevirtual 32, 39, 1, 464, 0), (26, .invokevirtual 40, 14, 3, 480, 0), (29, .ifCond .eq 5, 0, 0, 0, 0), (32, .iload_n 2, 0, 0, 0, 0), (33, .ireturn, 0, 0, 0, 0), (34, .iinc 2 1, 0, 0, 0, 0), (37, .goto (-35), 0, 0, 0, 0), (40, .bipush (-9), 0, 0, 0, 0), (42, .ireturn, 0, 0, 0, 0)]
def am_t3 : List (Nat × am_R) := [(0, .iconst 0, 0, 0, 0, 0), (1, .istore 4, 0, 0, 0, 0), (3, .iload 4, 0, 0, 0, 0), (5, .iload_n 3, 0, 0, 0, 0), (6, .if_icmp .ge 37, 0, 0, 0, 0), (9, .aload_n 0, 0, 0, 0, 0), (10, .getfield 9, 1, 0, 131, 0), (13, .aload_n 0, 0, 0, 0, 0), (14, .getfield 19, 1, 2, 133, 0), (17, .bipush 12, 0, 0, 0, 0), (19, .imul, 0, 0, 0, 0), (20, .iload 4, 0, 0, 0, 0), (22, .iadd, 0, 0, 0, 0), (23, .aload_n 1, 0, 0, 0, 0), (24, .getfield 44, 7, 0, 114, 1), (27, .iload_n 2, 0, 0, 0, 0), (28, .iload 4, 0, 0, 0, 0), (30, .iadd, 0, 0, 0, 0), (31, .baload, 0, 0, 0, 0), (32, .invokestatic 45, 44, 1, 469, 0), (35, .i2b, 0, 0, 0, 0), (36, .bastore, 0, 0, 0, 0), (37, .iinc 4 1, 0, 0, 0, 0), (40, .goto (-37), 0, 0, 0, 0), (43, .aload_n 0, 0, 0, 0, 0), (44, .getfield 15, 1, 1, 132, 0), (47, .aload_n 0, 0, 0, 0, 0), (48, .getfield 19, 1, 2, 133, 0), (51, .iload_n 3, 0, 0, 0, 0), (52, .iastore, 0, 0, 0, 0), (53, .aload_n 0, 0, 0, 0, 0), (54, .dup, 0, 0, 0, 0), (55, .getfield 19, 1, 2, 133, 0), (58, .iconst 1, 0, 0, 0, 0), (59, .iadd, 0, 0, 0, 0), (60, .putfield 19, 1, 2, 133, 0), (63, .return_, 0, 0, 0, 0)]
def am_t4 : List (Nat × am_R) := [(0, .iconst 0, 0, 0, 0, 0), (1, .istore 4, 0, 0, 0, 0), (3, .iload 4, 0, 0, 0, 0), (5, .aload_n 0, 0, 0, 0, 0), (6, .getfield 19, 1, 2, 133, 0), (9, .if_icmp .ge 33, 0, 0, 0, 0), (12, .aload_n 0, 0, 0, 0, 0), (13, .getfield 15, 1, 1, 132, 0), (16, .iload 4, 0, 0, 0, 0), (18, .iaload, 0, 0, 0, 0), (19, .iload_n 3, 0, 0, 0, 0), (20, .if_icmp .ne 16, 0, 0, 0, 0), (23, .aload_n 0, 0, 0, 0, 0), (24, .iload 4, 0, 0, 0, 0), (26, .aload_n 1, 0, 0, 0, 0), (27, .iload_n 2, 0, 0, 0, 0), (28, .invokevirtual 48, 15, 3, 484, 0), (31, .ifCond .eq 5, 0, 0, 0, 0), (34, .iconst 1, 0, 0, 0, 0), (35, .ireturn, 0, 0, 0, 0), (36, .iinc 4 1, 0, 0, 0, 0), (39, .goto (-36), 0, 0, 0, 0), (42, .iconst 0, 0, 0, 0, 0), (43, .ireturn, 0, 0, 0, 0)]
def am_t5 : List (Nat × am_R) := [(0, .iconst 0, 0, 0, 0, 0), (1, .istore 4, 0, 0, 0, 0), (3, .iload 4, 0, 0, 0, 0), (5, .aload_n 0, 0, 0, 0, 0), (6, .getfield 15, 1, 1, 132, 0), (9, .iload_n 1, 0, 0, 0, 0), (10, .iaload, 0, 0, 0, 0), (11, .if_icmp .ge 38, 0, 0, 0, 0), (14, .aload_n 0, 0, 0, 0, 0), (15, .getfield 9, 1, 0, 131, 0), (18, .iload_n 1, 0, 0, 0, 0), (19, .bipush 12, 0, 0, 0, 0), (21, .imul, 0, 0, 0, 0), (22, .iload 4, 0, 0, 0, 0), (24, .iadd, 0, 0, 0, 0), (25, .baload, 0, 0, 0, 0), (26, .aload_n 2, 0, 0, 0, 0), (27, .getfield 44, 7, 0, 114, 1), (30, .iload_n 3, 0, 0, 0, 0), (31, .iload 4, 0, 0, 0, 0), (33, .iadd, 0, 0, 0, 0), (34, .baload, 0, 0, 0, 0), (35, .invokestatic 45, 44, 1, 469, 0), (38, .if_icmp .eq 5, 0, 0, 0, 0), (41, .iconst 0, 0, 0, 0, 0), (42, .ireturn, 0, 0, 0, 0), (43, .iinc 4 1, 0, 0, 0, 0), (46, .goto (-43), 0, 0, 0, 0), (49, .iconst 1, 0, 0, 0, 0), (50, .ireturn, 0, 0, 0, 0)]
def am_t6 : List (Nat × am_R) := [(0, .aload_n 0, 0, 0, 0, 0), (1, .invokespecial 1, 0, 0, 617, 0), (4, .aload_n 0, 0, 0, 0, 0), (5, .iload_n 1, 0, 0, 0, 0), (6, .putfield 7, 2, 0, 618, 0), (9, .aload_n 0, 0, 0, 0, 0), (10, .iconst 0, 0, 0, 0, 0), (11, .putfield 13, 2, 1, 620, 0), (14, .return_, 0, 0, 0, 0)]
def am_t7 : List (Nat × am_R) := [(0, .aload_n 0, 0, 0, 0, 0), (1, .iload_n 1, 0, 0, 0, 0), (2, .putfield 7, 2, 0, 618, 0), (5, .aload_n 0, 0, 0, 0, 0), (6, .iload_n 2, 0, 0, 0, 0), (7, .putfield 13, 2, 1, 620, 0), (10, .return_, 0, 0, 0, 0)]
def am_t8 : List (Nat × am_R) := [(0, .aload_n 0, 0, 0, 0, 0), (1, .invokespecial 1, 0, 0, 668, 0), (4, .aload_n 0, 0, 0, 0, 0), (5, .iload_n 1, 0, 0, 0, 0), (6, .putfield 7, 3, 0, 669, 0), (9, .aload_n 0, 0, 0, 0, 0), (10, .iload_n 2, 0, 0, 0, 0), (11, .putfield 13, 3, 1, 671, 0), (14, .aload_n 0, 0, 0, 0, 0), (15, .iload_n 3, 0, 0, 0, 0), (16, .putfield 16, 3, 2, 673, 0), (19, .aload_n 0, 0, 0, 0, 0), (20, .iload 4, 0, 0, 0, 0), (22, .putfield 19, 3, 3, 675, 0), (25, .aload_n 0, 0, 0, 0, 0), (26, .iload 5, 0, 0, 0, 0), (28, .putfield 22, 3, 4, 677, 0), (31, .aload_n 0, 0, 0, 0, 0), (32, .iload 6, 0, 0, 0, 0), (34, .putfield 25, 3, 5, 679, 0), (37, .return_, 0, 0, 0, 0)]
def am_t9 : List (Nat × am_R) := [(0, .aload_n 0, 0, 0, 0, 0), (1, .invokespecial 1, 0, 0, 357, 0), (4, .aload_n 0, 0, 0, 0, 0), (5, .iload_n 1, 0, 0, 0, 0), (6, .putfield 7, 4, 0, 358, 0), (9, .aload_n 0, 0, 0, 0, 0), (10, .iload_n 2, 0, 0, 0, 0), (11, .putfield 13, 4, 1, 360, 0), (14, .aload_n 0, 0, 0, 0, 0), (15, .iload_n 3, 0, 0, 0, 0), (16, .putfield 16, 4, 2, 362, 0), (19, .aload_n 0, 0, 0, 0, 0), (20, .iload 4, 0, 0, 0, 0), (22, .putfield 19, 4, 3, 364, 0), (25, .return_, 0, 0, 0, 0)]
def am_t10 : List (Nat × am_R) := [(0, .aload_n 0, 0, 0, 0, 0), (1, .invokespecial 3, 0, 0, 512, 0), (4, .aload_n 0, 0, 0, 0, 0), (5, .bipush 10, 0, 0, 0, 0), (7, .newarray .int, 0, 0, 0, 0), (9, .putfield 9, 5, 6, 526, 0), (12, .aload_n 0, 0, 0, 0, 0), (13, .bipush 10, 0, 0, 0, 0), (15, .newarray .int, 0, 0, 0, 0), (17, .putfield 15, 5, 7, 528, 0), (20, .aload_n 0, 0, 0, 0, 0), (21, .iconst 0, 0, 0, 0, 0), (22, .putfield 18, 5, 8, 530, 0), (25, .aload_n 0, 0, 0, 0, 0), (26, .iload_n 1, 0, 0, 0, 0), (27, .putfield 22, 5, 0, 514, 0), (30, .aload_n 0, 0, 0, 0, 0), (31, .iload_n 2, 0, 0, 0, 0), (32, .putfield 26, 5, 1, 516, 0), (35, .aload_n 0, 0, 0, 0, 0), (36, .iload_n 3, 0, 0, 0, 0), (37, .putfield 29, 5, 2, 518, 0), (40, .aload_n 0, 0, 0, 0, 0), (41, .iload 4, 0, 0, 0, 0), (43, .putfield 32, 5, 3, 520, 0), (46, .aload_n 0, 0, 0, 0, 0), (47, .iload 5, 0, 0, 0, 0), (49, .putfield 35, 5, 4, 522, 0), (52, .aload_n 0, 0, 0, 0, 0), (53, .iload 6, 0, 0, 0, 0), (55, .putfield 38, 5, 5, 524, 0), (58, .aload_n 0, 0, 0, 0, 0), (59, .getfield 15, 5, 7, 528, 0), (62, .bipush (-9), 0, 0, 0, 0), (64, .invokestatic 41, 197, 2, 513, 0), (67, .return_, 0, 0, 0, 0)]
def am_t11 : List (Nat × am_R) := [(0, .aload_n 0, 0, 0, 0, 0), (1, .getfield 29, 5, 2, 518, 0), (4, .iload_n 1, 0, 0, 0, 0), (5, .ishr, 0, 0, 0, 0), (6, .iconst 1, 0, 0, 0, 0), (7, .iand, 0, 0, 0, 0), (8, .iconst 1, 0, 0, 0, 0), (9, .if_icmp .ne 20, 0, 0, 0, 0), (12, .aload_n 0, 0, 0, 0, 0), (13, .getfield 9, 5, 6, 526, 0), (16, .iload_n 1, 0, 0, 0, 0), (17, .iaload, 0, 0, 0, 0), (18, .aload_n 0, 0, 0, 0, 0), (19, .getfield 32, 5, 3, 520, 0), (22, .if_icmp .ge 7, 0, 0, 0, 0), (25, .iconst 1, 0, 0, 0, 0), (26, .goto 4, 0, 0, 0, 0), (29, .iconst 0, 0, 0, 0, 0), (30, .ireturn, 0, 0, 0, 0)]
def am_t12 : List (Nat × am_R) := [(0, .iconst 0, 0, 0, 0, 0), (1, .istore_n 1, 0, 0, 0, 0), (2, .iconst 0, 0, 0, 0, 0), (3, .istore_n 2, 0, 0, 0, 0), (4, .iload_n 2, 0, 0, 0, 0), (5, .bipush 10, 0, 0, 0, 0), (7, .if_icmp .ge 20, 0, 0, 0, 0), (10, .aload_n 0, 0, 0, 0, 0), (11, .iload_n 2, 0, 0, 0, 0), (12, .invokevirtual 47, 21, 1, 567, 0), (15, .ifCond .eq 6, 0, 0, 0, 0), (18, .iinc 1 1, 0, 0, 0, 0), (21, .iinc 2 1, 0, 0, 0, 0), (24, .goto (-20), 0, 0, 0, 0), (27, .iload_n 1, 0, 0, 0, 0), (28, .ireturn, 0, 0, 0, 0)]
def am_t13 : List (Nat × am_R) := [(0, .aload_n 0, 0, 0, 0, 0), (1, .invokevirtual 51, 22, 0, 563, 0), (4, .ifCond .ne 7, 0, 0, 0, 0), (7, .iconst 1, 0, 0, 0, 0), (8, .goto 4, 0, 0, 0, 0), (11, .iconst 0, 0, 0, 0, 0), (12, .ireturn, 0, 0, 0, 0)]
def am_t14 : List (Nat × am_R) := [(0, .iconst 0, 0, 0, 0, 0), (1, .istore_n 1, 0, 0, 0, 0), (2, .iconst 0, 0, 0, 0, 0), (3, .istore_n 2, 0, 0, 0, 0), (4, .iload_n 2, 0, 0, 0, 0), (5, .bipush 10, 0, 0, 0, 0), (7, .if_icmp .ge 18, 0, 0, 0, 0), (10, .iload_n 1, 0, 0, 0, 0), (11, .aload_n 0, 0, 0, 0, 0), (12, .getfield 9, 5, 6, 526, 0), (15, .iload_n 2, 0, 0, 0, 0), (16, .iaload, 0, 0, 0, 0), (17, .iadd, 0, 0, 0, 0), (18, .istore_n 1, 0, 0, 0, 0), (19, .iinc 2 1, 0, 0, 0, 0), (22, .goto (-18), 0, 0, 0, 0), (25, .iload_n 1, 0, 0, 0, 0), (26, .ireturn, 0, 0, 0, 0)]
def am_t15 : List (Nat × am_R) := [(0, .aload_n 0, 0, 0, 0, 0), (1, .getfield 26, 5, 1, 516, 0), (4, .bipush 10, 0, 0, 0, 0), (6, .iadd, 0, 0, 0, 0), (7, .iconst 1, 0, 0, 0, 0), (8, .isub, 0, 0, 0, 0), (9, .bipush 10, 0, 0, 0, 0), (11, .idiv, 0, 0, 0, 0), (12, .ireturn, 0, 0, 0, 0)]
def am_t16 : List (Nat × am_R) := [(0, .aload_n 0, 0, 0, 0, 0), (1, .getfield 9, 5, 6, 526, 0), (4, .iload_n 1, 0, 0, 0, 0), (5, .dup2, 0, 0, 0, 0), (6, .iaload, 0, 0, 0, 0), (7, .iconst 1, 0, 0, 0, 0), (8, .iadd, 0, 0, 0, 0), (9, .iastore, 0, 0, 0, 0), (10, .aload_n 0, 0, 0, 0, 0), (11, .getfield 15, 5, 7, 528, 0), (14, .iload_n 1, 0, 0, 0, 0), (15, .iload_n 2, 0, 0, 0, 0), (16, .iastore, 0, 0, 0, 0), (17, .return_, 0, 0, 0, 0)]
def am_t17 : List (Nat × am_R) := [(0, .aload_n 0, 0, 0, 0, 0), (1, .invokespecial 3, 0, 0, 148, 0), (4, .aload_n 0, 0, 0, 0, 0), (5, .bipush 10, 0, 0, 0, 0), (7, .newarray .int, 0, 0, 0, 0), (9, .putfield 9, 6, 0, 149, 0), (12, .aload_n 0, 0, 0, 0, 0), (13, .iconst 0, 0, 0, 0, 0), (14, .putfield 15, 6, 1, 150, 0), (17, .aload_n 0, 0, 0, 0, 0), (18, .iconst 0, 0, 0, 0, 0), (19, .newarray .int, 0, 0, 0, 0), (21, .putfield 19, 6, 2, 151, 0), (24, .aload_n 0, 0, 0, 0, 0), (25, .iconst 0, 0, 0, 0, 0), (26, .putfield 22, 6, 3, 152, 0), (29, .return_, 0, 0, 0, 0)]
def am_t18 : List (Nat × am_R) := [(0, .iload_n 1, 0, 0, 0, 0), (1, .ifCond .lt 20, 0, 0, 0, 0), (4, .iload_n 1, 0, 0, 0, 0), (5, .aload_n 0, 0, 0, 0, 0), (6, .getfield 15, 6, 1, 150, 0), (9, .if_icmp .ge 12, 0, 0, 0, 0), (12, .aload_n 0, 0, 0, 0, 0), (13, .getfield 9, 6, 0, 149, 0), (16, .iload_n 1, 0, 0, 0, 0), (17, .iaload, 0, 0, 0, 0), (18, .goto 5, 0, 0, 0, 0), (21, .bipush (-9), 0, 0, 0, 0), (23, .ireturn, 0, 0, 0, 0)]
def am_t19 : List (Nat × am_R) := [(0, .aload_n 0, 0, 0, 0, 0), (1, .getfield 22, 6, 3, 152, 0), (4, .aload_n 1, 0, 0, 0, 0), (5, .invokevirtual 25, 191, 0, 776, 0), (8, .if_icmp .eq 8, 0, 0, 0, 0), (11, .aload_n 0, 0, 0, 0, 0), (12, .aload_n 1, 0, 0, 0, 0), (13, .invokevirtual 31, 30, 1, 777, 0), (16, .iload_n 3, 0, 0, 0, 0), (17, .istore 4, 0, 0, 0, 0), (19, .iload_n 2, 0, 0, 0, 0), (20, .istore 5, 0, 0, 0, 0), (22, .iconst 0, 0, 0, 0, 0), (23, .istore 6, 0, 0, 0, 0), (25, .aload_n 0, 0, 0, 0, 0), (26, .iload_n 3, 0, 0, 0, 0), (27, .invokestatic 35, 185, 1, 793, 0), (30, .putfield 15, 6, 1, 150, 0), (33, .iconst 0, 0, 0, 0, 0), (34, .istore 7, 0, 0, 0, 0), (36, .iload 7, 0, 0, 0, 0), (38, .aload_n 0, 0, 0, 0, 0), (39, .getfield 15, 6, 1, 150, 0), (42, .if_icmp .ge 68, 0, 0, 0, 0), (45, .aload_n 0, 0, 0, 0, 0), (46, .aload_n 1, 0, 0, 0, 0), (47, .iload 5, 0, 0, 0, 0), (49, .iload 4, 0, 0, 0, 0), (51, .invokevirtual 41, 31, 3, 781, 0), (54, .istore 8, 0, 0, 0, 0), (56, .iload 6, 0, 0, 0, 0), (58, .aload_n 1, 0, 0, 0, 0), (59, .iload 5, 0, 0, 0, 0), (61, .invokevirtual 45, 194, 1, 790, 0), (64, .checkcast 49, 8, 0, 791, 0), (67, .aload_n 1, 0, 0, 0, 0), (68, .iload 8, 0, 0, 0, 0), (70, .invokevirtual 45, 194, 1, 790, 0), (73, .checkcast 49, 8, 0, 791, 0), (76, .invokevirtual 51, 46, 1, 792, 0), (79, .iadd, 0, 0, 0, 0), (80, .istore 6, 0, 0, 0, 0), (82, .aload_n 0, 0, 0, 0, 0), (83, .getfield 9, 6, 0, 149, 0), (86, .iload 7, 0, 0, 0, 0), (88, .iload 8, 0, 0, 0, 0), (90, .iastore, 0, 0, 0, 0), (91, .iload 4, 0, 0, 0, 0), (93, .iconst 1, 0, 0, 0, 0), (94, .iload 8, 0, 0, 0, 0), (96, .ishl, 0, 0, 0, 0), (97, .ixor, 0, 0, 0, 0), (98, .istore 4, 0, 0, 0, 0), (100, .iload 8, 0, 0, 0, 0), (102, .istore 5, 0, 0, 0, 0), (104, .iinc 7 1, 0, 0, 0, 0), (107, .goto (-71), 0, 0, 0, 0), (110, .iload 6, 0, 0, 0, 0), (112, .ireturn, 0, 0, 0, 0)]
def am_t20 : List (Nat × am_R) := [(0, .aload_n 0, 0, 0, 0, 0), (1, .aload_n 1, 0, 0, 0, 0), (2, .invokevirtual 25, 191, 0, 776, 0), (5, .putfield 22, 6, 3, 152, 0), (8, .aload_n 0, 0, 0, 0, 0), (9, .iconst 1, 0, 0, 0, 0), (10, .aload_n 0, 0, 0, 0, 0), (11, .getfield 22, 6, 3, 152, 0), (14, .ishl, 0, 0, 0, 0), (15, .bipush 10, 0, 0, 0, 0), (17, .imul, 0, 0, 0, 0), (18, .newarray .int, 0, 0, 0, 0), (20, .putfield 19, 6, 2, 151, 0), (23, .iconst 1, 0, 0, 0, 0), (24, .istore_n 2, 0, 0, 0, 0), (25, .iload_n 2, 0, 0, 0, 0), (26, .iconst 1, 0, 0, 0, 0), (27, .aload_n 0, 0, 0, 0, 0), (28, .getfield 22, 6, 3, 152, 0), (31, .ishl, 0, 0, 0, 0), (32, .if_icmp .ge 62, 0, 0, 0, 0), (35, .iconst 0, 0, 0, 0, 0), (36, .istore_n 3, 0, 0, 0, 0), (37, .iload_n 3, 0, 0, 0, 0), (38, .aload_n 0, 0, 0, 0, 0), (39, .getfield 22, 6, 3, 152, 0), (42, .if_icmp .ge 46, 0, 0, 0, 0), (45, .iload_n 2, 0, 0, 0, 0), (46, .iload_n 3, 0, 0, 0, 0), (47, .ishr, 0, 0, 0, 0), (48, .iconst 1, 0, 0, 0, 0), (49, .iand, 0, 0, 0, 0), (50, .ifCond .ne 32, 0, 0, 0, 0), (53, .aload_n 0, 0, 0, 0, 0), (54, .aload_n 1, 0, 0, 0, 0), (55, .iload_n 3, 0, 0, 0, 0), (56, .iload_n 2, 0, 0, 0, 0), (57, .invokevirtual 41, 31, 3, 781, 0), (60, .istore 4, 0, 0, 0, 0), (62, .aload_n 0, 0, 0, 0, 0), (63, .getfield 19, 6, 2, 151, 0), (66, .iload_n 2, 0, 0, 0, 0), (67, .bipush 10, 0, 0, 0, 0), (69, .imul, 0, 0, 0, 0), (70, .iload_n 3, 0, 0, 0, 0), (71, .iadd, 0, 0, 0, 0), (72, .aload_n 0, 0, 0, 0, 0), (73, .aload_n 1, 0, 0, 0, 0), (74, .iload_n 3, 0, 0, 0, 0), (75, .iload 4, 0, 0, 0, 0), (77, .iload_n 2, 0, 0, 0, 0), (78, .invokevirtual 55, 32, 4, 786, 0), (81, .iastore, 0, 0, 0, 0), (82, .iinc 3 1, 0, 0, 0, 0), (85, .goto (-48), 0, 0, 0, 0), (88, .iinc 2 1, 0, 0, 0, 0), (91, .goto (-66), 0, 0, 0, 0), (94, .return_, 0, 0, 0, 0)]
def am_t21 : List (Nat × am_R) := [(0, .ldc 59, 0, 0, 785, 2147483647), (2, .istore 4, 0, 0, 0, 0), (4, .iconst 0, 0, 0, 0, 0), (5, .istore 5, 0, 0, 0, 0), (7, .iconst 0, 0, 0, 0, 0), (8, .istore 6, 0, 0, 0, 0), (10, .iload 6, 0, 0, 0, 0), (12, .aload_n 0, 0, 0, 0, 0), (13, .getfield 22, 6, 3, 152, 0), (16, .if_icmp .ge 45, 0, 0, 0, 0), (19, .iload_n 3, 0, 0, 0, 0), (20, .iload 6, 0, 0, 0, 0), (22, .ishr, 0, 0, 0, 0), (23, .iconst 1, 0, 0, 0, 0), (24, .iand, 0, 0, 0, 0), (25, .iconst 1, 0, 0, 0, 0), (26, .if_icmp .ne 29, 0, 0, 0, 0), (29, .aload_n 0, 0, 0, 0, 0), (30, .aload_n 1, 0, 0, 0, 0), (31, .iload_n 2, 0, 0, 0, 0), (32, .iload 6, 0, 0, 0, 0), (34, .iload_n 3, 0, 0, 0, 0), (35, .invokevirtual 55, 32, 4, 786, 0), (38, .istore 7, 0, 0, 0, 0), (40, .iload 7, 0, 0, 0, 0), (42, .iload 4, 0, 0, 0, 0), (44, .if_icmp .ge 11, 0, 0, 0, 0), (47, .iload 7, 0, 0, 0, 0), (49, .istore 4, 0, 0, 0, 0), (51, .iload 6, 0, 0, 0, 0), (53, .istore 5, 0, 0, 0, 0), (55, .iinc 6 1, 0, 0, 0, 0), (58, .goto (-48), 0, 0, 0, 0), (61, .iload 5, 0, 0, 0, 0), (63, .ireturn, 0, 0, 0, 0)]
def am_t22 : List (Nat × am_R) := [(0, .aload_n 1, 0, 0, 0, 0), (1, .iload_n 2, 0, 0, 0, 0), (2, .invokevirtual 45, 194, 1, 790, 0), (5, .checkcast 49, 8, 0, 791, 0), (8, .aload_n 1, 0, 0, 0, 0), (9, .iload_n 3, 0, 0, 0, 0), (10, .invokevirtual 45, 194, 1, 790, 0), (13, .checkcast 49, 8, 0, 791, 0), (16, .invokevirtual 51, 46, 1, 792, 0), (19, .aload_n 0, 0, 0, 0, 0), (20, .getfield 19, 6, 2, 151, 0), (23, .iload 4, 0, 0, 0, 0), (25, .iconst 1, 0, 0, 0, 0), (26, .iload_n 3, 0, 0, 0, 0), (27, .ishl, 0, 0, 0, 0), (28, .ixor, 0, 0, 0, 0), (29, .bipush 10, 0, 0, 0, 0), (31, .imul, 0, 0, 0, 0), (32, .iload_n 3, 0, 0, 0, 0), (33, .iadd, 0, 0, 0, 0), (34, .iaload, 0, 0, 0, 0), (35, .iadd, 0, 0, 0, 0), (36, .ireturn, 0, 0, 0, 0)]
def am_t23 : List (Nat × am_R) := [(0, .aload_n 0, 0, 0, 0, 0), (1, .invokespecial 3, 0, 0, 112, 0), (4, .aload_n 0, 0, 0, 0, 0), (5, .bipush 80, 0, 0, 0, 0), (7, .newarray .byte, 0, 0, 0, 0), (9, .putfield 9, 7, 0, 113, 0), (12, .aload_n 0, 0, 0, 0, 0), (13, .iconst (-1), 0, 0, 0, 0), (14, .putfield 15, 7, 1, 116, 0), (17, .return_, 0, 0, 0, 0)]
def am_t24 : List (Nat × am_R) := [(0, .aload_n 0, 0, 0, 0, 0), (1, .getfield 15, 7, 1, 116, 0), (4, .iconst (-1), 0, 0, 0, 0), (5, .if_icmp .ne 7, 0, 0, 0, 0), (8, .iconst 1, 0, 0, 0, 0), (9, .goto 4, 0, 0, 0, 0), (12, .iconst 0, 0, 0, 0, 0), (13, .ireturn, 0, 0, 0, 0)]
def am_t25 : List (Nat × am_R) := [(0, .aload_n 0, 0, 0, 0, 0), (1, .iconst (-1), 0, 0, 0, 0), (2, .putfield 15, 7, 1, 116, 0), (5, .return_, 0, 0, 0, 0)]
def am_t26 : List (Nat × am_R) := [(0, .aload_n 0, 0, 0, 0, 0), (1, .getfield 9, 7, 0, 113, 0), (4, .iconst 0, 0, 0, 0, 0), (5, .invokestatic 19, 198, 2, 405, 0), (8, .aload_n 0, 0, 0, 0, 0), (9, .iload_n 1, 0, 0, 0, 0), (10, .putfield 15, 7, 1, 116, 0), (13, .return_, 0, 0, 0, 0)]
def am_t27 : List (Nat × am_R) := [(0, .iload_n 1, 0, 0, 0, 0), (1, .ifCond .lt 25, 0, 0, 0, 0), (4, .iload_n 2, 0, 0, 0, 0), (5, .aload_n 0, 0, 0, 0, 0), (6, .getfield 15, 7, 1, 116, 0), (9, .if_icmp .gt 17, 0, 0, 0, 0), (12, .iload_n 1, 0, 0, 0, 0), (13, .aload_n 0, 0, 0, 0, 0), (14, .getfield 15, 7, 1, 116, 0), (17, .iload_n 2, 0, 0, 0, 0), (18, .isub, 0, 0, 0, 0), (19, .if_icmp .gt 7, 0, 0, 0, 0), (22, .iconst 1, 0, 0, 0, 0), (23, .goto 4, 0, 0, 0, 0), (26, .iconst 0, 0, 0, 0, 0), (27, .ireturn, 0, 0, 0, 0)]
def am_t28 : List (Nat × am_R) := [(0, .aload_n 0, 0, 0, 0, 0), (1, .getfield 9, 7, 0, 113, 0), (4, .iload_n 1, 0, 0, 0, 0), (5, .baload, 0, 0, 0, 0), (6, .invokestatic 25, 43, 1, 445, 0), (9, .ifCond .eq 25, 0, 0, 0, 0), (12, .iload_n 1, 0, 0, 0, 0), (13, .ifCond .eq 17, 0, 0, 0, 0), (16, .aload_n 0, 0, 0, 0, 0), (17, .getfield 9, 7, 0, 113, 0), (20, .iload_n 1, 0, 0, 0, 0), (21, .iconst 1, 0, 0, 0, 0), (22, .isub, 0, 0, 0, 0), (23, .baload, 0, 0, 0, 0), (24, .invokestatic 25, 43, 1, 445, 0), (27, .ifCond .ne 7, 0, 0, 0, 0), (30, .iconst 1, 0, 0, 0, 0), (31, .goto 4, 0, 0, 0, 0), (34, .iconst 0, 0, 0, 0, 0), (35, .ireturn, 0, 0, 0, 0)]
def am_t29 : List (Nat × am_R) := [(0, .iload_n 1, 0, 0, 0, 0), (1, .istore_n 2, 0, 0, 0, 0), (2, .iload_n 2, 0, 0, 0, 0), (3, .aload_n 0, 0, 0, 0, 0), (4, .getfield 15, 7, 1, 116, 0), (7, .if_icmp .ge 21, 0, 0, 0, 0), (10, .aload_n 0, 0, 0, 0, 0), (11, .getfield 9, 7, 0, 113, 0), (14, .iload_n 2, 0, 0, 0, 0), (15, .baload, 0, 0, 0, 0), (16, .invokestatic 25, 43, 1, 445, 0), (19, .ifCond .eq 9, 0, 0, 0, 0), (22, .iinc 2 1, 0, 0, 0, 0), (25, .goto (-23), 0, 0, 0, 0), (28, .iload_n 2, 0, 0, 0, 0), (29, .iload_n 1, 0, 0, 0, 0), (30, .isub, 0, 0, 0, 0), (31, .ireturn, 0, 0, 0, 0)]
def am_t30 : List (Nat × am_R) := [(0, .iconst 0, 0, 0, 0, 0), (1, .istore_n 1, 0, 0, 0, 0), (2, .iconst 0, 0, 0, 0, 0), (3, .istore_n 2, 0, 0, 0, 0), (4, .iload_n 2, 0, 0, 0, 0), (5, .aload_n 0, 0, 0, 0, 0), (6, .getfield 15, 7, 1, 116, 0), (9, .if_icmp .ge 45, 0, 0, 0, 0), (12, .aload_n 0, 0, 0, 0, 0), (13, .iload_n 2, 0, 0, 0, 0), (14, .invokevirtual 29, 38, 1, 441, 0), (17, .ifCond .eq 31, 0, 0, 0, 0), (20, .iload_n 1, 0, 0, 0, 0), (21, .aload_n 0, 0, 0, 0, 0), (22, .getfield 9, 7, 0, 113, 0), (25, .iload_n 2, 0, 0, 0, 0), (26, .baload, 0, 0, 0, 0), (27, .invokestatic 32, 42, 1, 448, 0), (30, .ifCond .eq 15, 0, 0, 0, 0), (33, .aload_n 0, 0, 0, 0, 0), (34, .iload_n 2, 0, 0, 0, 0), (35, .invokevirtual 35, 39, 1, 451, 0), (38, .iconst 2, 0, 0, 0, 0), (39, .iadd, 0, 0, 0, 0), (40, .iconst 3, 0, 0, 0, 0), (41, .idiv, 0, 0, 0, 0), (42, .goto 4, 0, 0, 0, 0), (45, .iconst 1, 0, 0, 0, 0), (46, .iadd, 0, 0, 0, 0), (47, .istore_n 1, 0, 0, 0, 0), (48, .iinc 2 1, 0, 0, 0, 0), (51, .goto (-47), 0, 0, 0, 0), (54, .iload_n 1, 0, 0, 0, 0), (55, .ireturn, 0, 0, 0, 0)]
def am_t31 : List (Nat × am_R) := [(0, .ldc2_w 39, 0, 0, 831, 31), (3, .lload_n 1, 0, 0, 0, 0), (4, .lmul, 0, 0, 0, 0), (5, .aload_n 0, 0, 0, 0, 0), (6, .getfield 15, 7, 1, 116, 0), (9, .i2l, 0, 0, 0, 0), (10, .ladd, 0, 0, 0, 0), (11, .lstore_n 3, 0, 0, 0, 0), (12, .iconst 0, 0, 0, 0, 0), (13, .istore 5, 0, 0, 0, 0), (15, .iload 5, 0, 0, 0, 0), (17, .aload_n 0, 0, 0, 0, 0), (18, .getfield 15, 7, 1, 116, 0), (21, .if_icmp .ge 24, 0, 0, 0, 0), (24, .ldc2_w 39, 0, 0, 831, 31), (27, .lload_n 3, 0, 0, 0, 0), (28, .lmul, 0, 0, 0, 0), (29, .aload_n 0, 0, 0, 0, 0), (30, .getfield 9, 7, 0, 113, 0), (33, .iload 5, 0, 0, 0, 0), (35, .baload, 0, 0, 0, 0), (36, .i2l, 0, 0, 0, 0), (37, .ladd, 0, 0, 0, 0), (38, .lstore_n 3, 0, 0, 0, 0), (39, .iinc 5 1, 0, 0, 0, 0), (42, .goto (-27), 0, 0, 0, 0), (45, .lload_n 3, 0, 0, 0, 0), (46, .lreturn, 0, 0, 0, 0)]
def am_t32 : List (Nat × am_R) := [(0, .iload_n 0, 0, 0, 0, 0), (1, .bipush 48, 0, 0, 0, 0), (3, .if_icmp .lt 13, 0, 0, 0, 0), (6, .iload_n 0, 0, 0, 0, 0), (7, .bipush 57, 0, 0, 0, 0), (9, .if_icmp .gt 7, 0, 0, 0, 0), (12, .iconst 1, 0, 0, 0, 0), (13, .goto 4, 0, 0, 0, 0), (16, .iconst 0, 0, 0, 0, 0), (17, .ireturn, 0, 0, 0, 0)]
def am_t33 : List (Nat × am_R) := [(0, .iload_n 0, 0, 0, 0, 0), (1, .invokestatic 32, 42, 1, 448, 0), (4, .ifCond .ne 27, 0, 0, 0, 0), (7, .iload_n 0, 0, 0, 0, 0), (8, .bipush 97, 0, 0, 0, 0), (10, .if_icmp .lt 9, 0, 0, 0, 0), (13, .iload_n 0, 0, 0, 0, 0), (14, .bipush 122, 0, 0, 0, 0), (16, .if_icmp .le 15, 0, 0, 0, 0), (19, .iload_n 0, 0, 0, 0, 0), (20, .bipush 65, 0, 0, 0, 0), (22, .if_icmp .lt 13, 0, 0, 0, 0), (25, .iload_n 0, 0, 0, 0, 0), (26, .bipush 90, 0, 0, 0, 0), (28, .if_icmp .gt 7, 0, 0, 0, 0), (31, .iconst 1, 0, 0, 0, 0), (32, .goto 4, 0, 0, 0, 0), (35, .iconst 0, 0, 0, 0, 0), (36, .ireturn, 0, 0, 0, 0)]
def am_t34 : List (Nat × am_R) := [(0, .iload_n 0, 0, 0, 0, 0), (1, .bipush 65, 0, 0, 0, 0), (3, .if_icmp .lt 19, 0, 0, 0, 0), (6, .iload_n 0, 0, 0, 0, 0), (7, .bipush 90, 0, 0, 0, 0), (9, .if_icmp .gt 13, 0, 0, 0, 0), (12, .iload_n 0, 0, 0, 0, 0), (13, .bipush 65, 0, 0, 0, 0), (15, .isub, 0, 0, 0, 0), (16, .bipush 97, 0, 0, 0, 0), (18, .iadd, 0, 0, 0, 0), (19, .goto 4, 0, 0, 0, 0), (22, .iload_n 0, 0, 0, 0, 0), (23, .ireturn, 0, 0, 0, 0)]
def am_t35 : List (Nat × am_R) := [(0, .aload_n 0, 0, 0, 0, 0), (1, .invokespecial 1, 0, 0, 224, 0), (4, .aload_n 0, 0, 0, 0, 0), (5, .iload_n 1, 0, 0, 0, 0), (6, .putfield 7, 8, 0, 225, 0), (9, .aload_n 0, 0, 0, 0, 0), (10, .iload_n 2, 0, 0, 0, 0), (11, .putfield 13, 8, 1, 226, 0), (14, .aload_n 0, 0, 0, 0, 0), (15, .iload_n 3, 0, 0, 0, 0), (16, .putfield 16, 8, 2, 227, 0), (19, .return_, 0, 0, 0, 0)]
def am_t36 : List (Nat × am_R) := [(0, .aload_n 0, 0, 0, 0, 0), (1, .getfield 7, 8, 0, 225, 0), (4, .aload_n 1, 0, 0, 0, 0), (5, .getfield 7, 8, 0, 225, 0), (8, .isub, 0, 0, 0, 0), (9, .invokestatic 19, 4, 0, 324, 0), (12, .aload_n 0, 0, 0, 0, 0), (13, .getfield 13, 8, 1, 226, 0), (16, .aload_n 1, 0, 0, 0, 0), (17, .getfield 13, 8, 1, 226, 0), (20, .isub, 0, 0, 0, 0), (21, .invokestatic 19, 4, 0, 324, 0), (24, .iadd, 0, 0, 0, 0), (25, .ireturn, 0, 0, 0, 0)]
def am_t37 : List (Nat × am_R) := [(0, .aload_n 0, 0, 0, 0, 0), (1, .getfield 16, 8, 2, 227, 0), (4, .iload_n 1, 0, 0, 0, 0), (5, .bipush 7, 0, 0, 0, 0), (7, .irem, 0, 0, 0, 0), (8, .ishr, 0, 0, 0, 0), (9, .iconst 1, 0, 0, 0, 0), (10, .iand, 0, 0, 0, 0), (11, .iconst 1, 0, 0, 0, 0), (12, .if_icmp .ne 7, 0, 0, 0, 0), (15, .iconst 1, 0, 0, 0, 0), (16, .goto 4, 0, 0, 0, 0), (19, .iconst 0, 0, 0, 0, 0), (20, .ireturn, 0, 0, 0, 0)]
def am_t38 : List (Nat × am_R) := [(0, .aload_n 0, 0, 0, 0, 0), (1, .invokespecial 1, 0, 0, 730, 0), (4, .aload_n 0, 0, 0, 0, 0), (5, .iload_n 1, 0, 0, 0, 0), (6, .putfield 7, 9, 0, 731, 0), (9, .aload_n 0, 0, 0, 0, 0), (10, .iload_n 2, 0, 0, 0, 0), (11, .putfield 13, 9, 1, 733, 0), (14, .aload_n 0, 0, 0, 0, 0), (15, .iload_n 3, 0, 0, 0, 0), (16, .putfield 16, 9, 2, 735, 0), (19, .aload_n 0, 0, 0, 0, 0), (20, .iload 4, 0, 0, 0, 0), (22, .putfield 19, 9, 3, 737, 0), (25, .aload_n 0, 0, 0, 0, 0), (26, .iload 5, 0, 0, 0, 0), (28, .putfield 22, 9, 4, 739, 0), (31, .return_, 0, 0, 0, 0)]
def am_t39_0 : List (Nat × am_R) := [(0, .aload_n 0, 0, 0, 0, 0), (1, .invokespecial 1, 0, 0, 77, 0), (4, .aload_n 0, 0, 0, 0, 0), (5, .new 7, 0, 81, 80, 54), (8, .dup, 0, 0, 0, 0), (9, .invokespecial 9, 188, 0, 82, 0), (12, .putfield 10, 10, 0, 165, 0), (15, .aload_n 0, 0, 0, 0, 0), (16, .new 7, 0, 81, 80, 54), (19, .dup, 0, 0, 0, 0), (20, .invokespecial 9, 188, 0, 82, 0), (23, .putfield 16, 10, 1, 166, 0), (26, .aload_n 0, 0, 0, 0, 0), (27, .new 7, 0, 81, 80, 54), (30, .dup, 0, 0, 0, 0), (31, .invokespecial 9, 188, 0, 82, 0), (34, .putfield 19, 10, 2, 167, 0), (37, .aload_n 0, 0, 0, 0, 0), (38, .new 7, 0, 81, 80, 54), (41, .dup, 0, 0, 0, 0), (42, .invokespecial 9, 188, 0, 82, 0), (45, .putfield 22, 10, 3, 168, 0), (48, .aload_n 0, 0, 0, 0, 0), (49, .new 7, 0, 81, 80, 54), (52, .dup, 0, 0, 0, 0), (53, .invokespecial 9, 188, 0, 82, 0), (56, .putfield 25, 10, 4, 169, 0), (59, .aload_n 0, 0, 0, 0, 0), (60, .new 7, 0, 81, 80, 54), (63, .dup, 0, 0, 0, 0), (64, .invokespecial 9, 188, 0, 82, 0), (67, .putfield 28, 10, 5, 170, 0), (70, .aload_n 0, 0, 0, 0, 0), (71, .iconst 4, 0, 0, 0, 0), (72, .anewarray 31, 4, 0, 106, 0), (75, .putfield 33, 10, 6, 171, 0), (78, .iconst 0, 0, 0, 0, 0), (79, .istore_n 1, 0, 0, 0, 0), (80, .iload_n 1, 0, 0, 0, 0), (81, .iconst 4, 0, 0, 0, 0), (82, .if_icmp .ge 22, 0, 0, 0, 0), (85, .aload_n 0, 0, 0, 0, 0), (86, .getfield 33, 10, 6, 171, 0), (89, .iload_n 1, 0, 0, 0, 0), (90, .new 31, 7, 108, 106, 55), (93, .dup, 0, 0, 0, 0), (94, .invokespecial 37, 33, 0, 109, 1), (97, .aastore, 0, 0, 0, 0), (98, .iinc 1 1, 0, 0, 0, 0), (101, .goto (-21), 0, 0, 0, 0), (104, .aload_n 0, 0, 0, 0, 0), (105, .new 38, 1, 126, 125, 56), (108, .dup, 0, 0, 0, 0), (109, .invokespecial 40, 10, 0, 127, 1), (112, .putfield 41, 10, 7, 172, 0), (115, .aload_n 0, 0, 0, 0, 0), (116, .new 45, 6, 144, 143, 57), (119, .dup, 0, 0, 0, 0), (120, .invokespecial 47, 27, 0, 145, 1), (123, .putfield 48, 10, 8, 173, 0)]
def am_t39_1 : List (Nat × am_R) := [(126, .aload_n 0, 0, 0, 0, 0), (127, .bipush 6, 0, 0, 0, 0), (129, .newarray .int, 0, 0, 0, 0), (131, .putfield 52, 10, 9, 174, 0), (134, .aload_n 0, 0, 0, 0, 0), (135, .getfield 52, 10, 9, 174, 0), (138, .iconst 1, 0, 0, 0, 0), (139, .invokestatic 56, 197, 2, 162, 0), (142, .aload_n 0, 0, 0, 0, 0), (143, .bipush 6, 0, 0, 0, 0), (145, .newarray .int, 0, 0, 0, 0), (147, .putfield 62, 10, 10, 175, 0), (150, .aload_n 0, 0, 0, 0, 0), (151, .iconst 0, 0, 0, 0, 0), (152, .putfield 65, 10, 11, 176, 0), (155, .aload_n 0, 0, 0, 0, 0), (156, .iconst 0, 0, 0, 0, 0), (157, .putfield 69, 10, 12, 177, 0), (160, .aload_n 0, 0, 0, 0, 0), (161, .iconst 5, 0, 0, 0, 0), (162, .putfield 72, 10, 13, 178, 0), (165, .return_, 0, 0, 0, 0)]
def am_t39 : List (Nat × am_R) := am_t39_0 ++ (am_t39_1)
def am_t40 : List (Nat × am_R) := [(0, .iload_n 1, 0, 0, 0, 0), (1, .iconst 0, 0, 0, 0, 0), (2, .bipush 60, 0, 0, 0, 0), (4, .invokestatic 75, 87, 3, 212, 0), (7, .ifCond .eq 23, 0, 0, 0, 0), (10, .iload_n 2, 0, 0, 0, 0), (11, .iconst 0, 0, 0, 0, 0), (12, .bipush 60, 0, 0, 0, 0), (14, .invokestatic 75, 87, 3, 212, 0), (17, .ifCond .eq 13, 0, 0, 0, 0), (20, .iload_n 3, 0, 0, 0, 0), (21, .iconst 0, 0, 0, 0, 0), (22, .bipush 127, 0, 0, 0, 0), (24, .invokestatic 75, 87, 3, 212, 0), (27, .ifCond .ne 5, 0, 0, 0, 0), (30, .iconst (-1), 0, 0, 0, 0), (31, .ireturn, 0, 0, 0, 0), (32, .aload_n 0, 0, 0, 0, 0), (33, .getfield 10, 10, 0, 165, 0), (36, .invokevirtual 79, 191, 0, 215, 0), (39, .bipush 10, 0, 0, 0, 0), (41, .if_icmp .lt 6, 0, 0, 0, 0), (44, .bipush (-2), 0, 0, 0, 0), (46, .ireturn, 0, 0, 0, 0), (47, .aload_n 0, 0, 0, 0, 0), (48, .getfield 10, 10, 0, 165, 0), (51, .new 83, 8, 220, 219, 60), (54, .dup, 0, 0, 0, 0), (55, .iload_n 1, 0, 0, 0, 0), (56, .iload_n 2, 0, 0, 0, 0), (57, .iload_n 3, 0, 0, 0, 0), (58, .invokespecial 85, 45, 3, 221, 0), (61, .invokevirtual 88, 196, 1, 235, 0), (64, .pop, 0, 0, 0, 0), (65, .aload_n 0, 0, 0, 0, 0), (66, .getfield 10, 10, 0, 165, 0), (69, .invokevirtual 79, 191, 0, 215, 0), (72, .iconst 1, 0, 0, 0, 0), (73, .isub, 0, 0, 0, 0), (74, .ireturn, 0, 0, 0, 0)]
def am_t41 : List (Nat × am_R) := [(0, .aload_n 0, 0, 0, 0, 0), (1, .iload_n 1, 0, 0, 0, 0), (2, .invokevirtual 92, 93, 1, 298, 0), (5, .ifCond .eq 11, 0, 0, 0, 0), (8, .aload_n 0, 0, 0, 0, 0), (9, .iload_n 2, 0, 0, 0, 0), (10, .invokevirtual 92, 93, 1, 298, 0), (13, .ifCond .ne 5, 0, 0, 0, 0), (16, .iconst (-1), 0, 0, 0, 0), (17, .ireturn, 0, 0, 0, 0), (18, .aload_n 0, 0, 0, 0, 0), (19, .iload_n 1, 0, 0, 0, 0), (20, .iload_n 2, 0, 0, 0, 0), (21, .invokevirtual 96, 100, 2, 302, 0), (24, .ireturn, 0, 0, 0, 0)]
def am_t42 : List (Nat × am_R) := [(0, .iload_n 1, 0, 0, 0, 0), (1, .iconst 0, 0, 0, 0, 0), (2, .bipush 60, 0, 0, 0, 0), (4, .invokestatic 75, 87, 3, 212, 0), (7, .ifCond .ne 5, 0, 0, 0, 0), (10, .iconst (-1), 0, 0, 0, 0), (11, .ireturn, 0, 0, 0, 0), (12, .aload_n 0, 0, 0, 0, 0), (13, .invokevirtual 100, 102, 0, 331, 0), (16, .ifCond .eq 6, 0, 0, 0, 0), (19, .bipush (-4), 0, 0, 0, 0), (21, .ireturn, 0, 0, 0, 0), (22, .aload_n 0, 0, 0, 0, 0), (23, .getfield 72, 10, 13, 178, 0), (26, .istore_n 2, 0, 0, 0, 0), (27, .aload_n 0, 0, 0, 0, 0), (28, .iload_n 1, 0, 0, 0, 0), (29, .putfield 72, 10, 13, 178, 0), (32, .iload_n 2, 0, 0, 0, 0), (33, .ireturn, 0, 0, 0, 0)]
def am_t43 : List (Nat × am_R) := [(0, .iload_n 1, 0, 0, 0, 0), (1, .iconst 1, 0, 0, 0, 0), (2, .sipush 400, 0, 0, 0, 0), (5, .invokestatic 75, 87, 3, 212, 0), (8, .ifCond .eq 15, 0, 0, 0, 0), (11, .aload_n 0, 0, 0, 0, 0), (12, .getfield 69, 10, 12, 177, 0), (15, .iload_n 1, 0, 0, 0, 0), (16, .iadd, 0, 0, 0, 0), (17, .sipush 400, 0, 0, 0, 0), (20, .if_icmp .le 5, 0, 0, 0, 0), (23, .iconst (-1), 0, 0, 0, 0), (24, .ireturn, 0, 0, 0, 0), (25, .aload_n 0, 0, 0, 0, 0), (26, .dup, 0, 0, 0, 0), (27, .getfield 69, 10, 12, 177, 0), (30, .iload_n 1, 0, 0, 0, 0), (31, .iadd, 0, 0, 0, 0), (32, .putfield 69, 10, 12, 177, 0), (35, .iconst 0, 0, 0, 0, 0), (36, .istore_n 2, 0, 0, 0, 0), (37, .iload_n 2, 0, 0, 0, 0), (38, .aload_n 0, 0, 0, 0, 0), (39, .getfield 22, 10, 3, 168, 0), (42, .invokevirtual 79, 191, 0, 215, 0), (45, .if_icmp .ge 24, 0, 0, 0, 0), (48, .aload_n 0, 0, 0, 0, 0), (49, .getfield 22, 10, 3, 168, 0), (52, .iload_n 2, 0, 0, 0, 0), (53, .invokevirtual 104, 194, 1, 306, 0), (56, .checkcast 108, 2, 0, 344, 0), (59, .iconst 0, 0, 0, 0, 0), (60, .putfield 110, 2, 1, 621, 1), (63, .iinc 2 1, 0, 0, 0, 0), (66, .goto (-29), 0, 0, 0, 0), (69, .aload_n 0, 0, 0, 0, 0), (70, .getfield 69, 10, 12, 177, 0), (73, .ireturn, 0, 0, 0, 0)]
def am_t44 : List (Nat × am_R) := [(0, .aload_n 0, 0, 0, 0, 0), (1, .iload_n 1, 0, 0, 0, 0), (2, .invokevirtual 92, 93, 1, 298, 0), (5, .ifCond .eq 30, 0, 0, 0, 0), (8, .iload_n 2, 0, 0, 0, 0), (9, .invokestatic 113, 88, 1, 349, 0), (12, .ifCond .eq 23, 0, 0, 0, 0), (15, .iload_n 3, 0, 0, 0, 0), (16, .invokestatic 113, 88, 1, 349, 0), (19, .ifCond .eq 16, 0, 0, 0, 0), (22, .iload 4, 0, 0, 0, 0), (24, .invokestatic 113, 88, 1, 349, 0), (27, .ifCond .eq 8, 0, 0, 0, 0), (30, .iload_n 2, 0, 0, 0, 0), (31, .iload_n 3, 0, 0, 0, 0), (32, .if_icmp .ne 5, 0, 0, 0, 0), (35, .iconst (-1), 0, 0, 0, 0), (36, .ireturn, 0, 0, 0, 0), (37, .aload_n 0, 0, 0, 0, 0), (38, .getfield 16, 10, 1, 166, 0), (41, .invokevirtual 79, 191, 0, 215, 0), (44, .bipush 40, 0, 0, 0, 0), (46, .if_icmp .lt 6, 0, 0, 0, 0), (49, .bipush (-2), 0, 0, 0, 0), (51, .ireturn, 0, 0, 0, 0), (52, .iload 4, 0, 0, 0, 0), (54, .aload_n 0, 0, 0, 0, 0), (55, .getfield 69, 10, 12, 177, 0), (58, .if_icmp .ge 6, 0, 0, 0, 0), (61, .bipush (-4), 0, 0, 0, 0), (63, .ireturn, 0, 0, 0, 0), (64, .aload_n 0, 0, 0, 0, 0), (65, .getfield 16, 10, 1, 166, 0), (68, .new 116, 4, 353, 352, 66), (71, .dup, 0, 0, 0, 0), (72, .iload_n 1, 0, 0, 0, 0), (73, .iload_n 2, 0, 0, 0, 0), (74, .iload_n 3, 0, 0, 0, 0), (75, .iload 4, 0, 0, 0, 0), (77, .invokespecial 118, 19, 4, 354, 0), (80, .invokevirtual 88, 196, 1, 235, 0), (83, .pop, 0, 0, 0, 0), (84, .aload_n 0, 0, 0, 0, 0), (85, .getfield 16, 10, 1, 166, 0), (88, .invokevirtual 79, 191, 0, 215, 0), (91, .ireturn, 0, 0, 0, 0)]
def am_t45 : List (Nat × am_R) := [(0, .aload_n 0, 0, 0, 0, 0), (1, .iload_n 1, 0, 0, 0, 0), (2, .invokevirtual 92, 93, 1, 298, 0), (5, .ifCond .eq 17, 0, 0, 0, 0), (8, .iload_n 2, 0, 0, 0, 0), (9, .invokestatic 113, 88, 1, 349, 0), (12, .ifCond .eq 10, 0, 0, 0, 0), (15, .iload_n 3, 0, 0, 0, 0), (16, .invokestatic 113, 88, 1, 349, 0), (19, .ifCond .ne 5, 0, 0, 0, 0), (22, .iconst (-1), 0, 0, 0, 0), (23, .ireturn, 0, 0, 0, 0), (24, .aload_n 0, 0, 0, 0, 0), (25, .iload_n 1, 0, 0, 0, 0), (26, .iload_n 2, 0, 0, 0, 0), (27, .iload_n 3, 0, 0, 0, 0), (28, .invokevirtual 121, 103, 3, 379, 0), (31, .invokestatic 124, 98, 1, 387, 0), (34, .ireturn, 0, 0, 0, 0)]
def am_t46 : List (Nat × am_R) := [(0, .iload_n 1, 0, 0, 0, 0), (1, .invokestatic 128, 90, 1, 394, 0), (4, .ifCond .eq 9, 0, 0, 0, 0), (7, .iload_n 2, 0, 0, 0, 0), (8, .bipush 80, 0, 0, 0, 0), (10, .if_icmp .le 5, 0, 0, 0, 0), (13, .iconst (-1), 0, 0, 0, 0), (14, .ireturn, 0, 0, 0, 0), (15, .iload_n 2, 0, 0, 0, 0), (16, .ifCond .ge 9, 0, 0, 0, 0), (19, .aload_n 0, 0, 0, 0, 0), (20, .iconst 5, 0, 0, 0, 0), (21, .invokevirtual 131, 99, 1, 397, 0), (24, .ireturn, 0, 0, 0, 0), (25, .aload_n 0, 0, 0, 0, 0), (26, .getfield 33, 10, 6, 171, 0), (29, .iload_n 1, 0, 0, 0, 0), (30, .aaload, 0, 0, 0, 0), (31, .iload_n 2, 0, 0, 0, 0), (32, .invokevirtual 135, 36, 1, 401, 0), (35, .iload_n 2, 0, 0, 0, 0), (36, .ireturn, 0, 0, 0, 0)]
def am_t47 : List (Nat × am_R) := [(0, .iload_n 1, 0, 0, 0, 0), (1, .invokestatic 128, 90, 1, 394, 0), (4, .ifCond .ne 5, 0, 0, 0, 0), (7, .iconst (-1), 0, 0, 0, 0), (8, .ireturn, 0, 0, 0, 0), (9, .aload_n 0, 0, 0, 0, 0), (10, .getfield 33, 10, 6, 171, 0), (13, .iload_n 1, 0, 0, 0, 0), (14, .aaload, 0, 0, 0, 0), (15, .astore 4, 0, 0, 0, 0), (17, .aload 4, 0, 0, 0, 0), (19, .invokevirtual 139, 34, 0, 412, 0), (22, .ifCond .eq 9, 0, 0, 0, 0), (25, .aload_n 0, 0, 0, 0, 0), (26, .iconst 1, 0, 0, 0, 0), (27, .invokevirtual 131, 99, 1, 397, 0), (30, .ireturn, 0, 0, 0, 0), (31, .iload_n 2, 0, 0, 0, 0), (32, .ifCond .lt 12, 0, 0, 0, 0), (35, .iload_n 2, 0, 0, 0, 0), (36, .aload 4, 0, 0, 0, 0), (38, .getfield 142, 7, 1, 118, 1), (41, .if_icmp .lt 9, 0, 0, 0, 0), (44, .aload_n 0, 0, 0, 0, 0), (45, .iconst 2, 0, 0, 0, 0), (46, .invokevirtual 131, 99, 1, 397, 0), (49, .ireturn, 0, 0, 0, 0), (50, .aload 4, 0, 0, 0, 0), (52, .getfield 144, 7, 0, 115, 1), (55, .iload_n 2, 0, 0, 0, 0), (56, .baload, 0, 0, 0, 0), (57, .istore 5, 0, 0, 0, 0), (59, .aload 4, 0, 0, 0, 0), (61, .getfield 144, 7, 0, 115, 1), (64, .iload_n 2, 0, 0, 0, 0), (65, .iload_n 3, 0, 0, 0, 0), (66, .i2b, 0, 0, 0, 0), (67, .bastore, 0, 0, 0, 0), (68, .iload 5, 0, 0, 0, 0), (70, .sipush 1000, 0, 0, 0, 0), (73, .iadd, 0, 0, 0, 0), (74, .ireturn, 0, 0, 0, 0)]
def am_t48 : List (Nat × am_R) := [(0, .iload_n 1, 0, 0, 0, 0), (1, .invokestatic 128, 90, 1, 394, 0), (4, .ifCond .ne 5, 0, 0, 0, 0), (7, .iconst (-1), 0, 0, 0, 0), (8, .ireturn, 0, 0, 0, 0), (9, .aload_n 0, 0, 0, 0, 0), (10, .getfield 33, 10, 6, 171, 0), (13, .iload_n 1, 0, 0, 0, 0), (14, .aaload, 0, 0, 0, 0), (15, .invokevirtual 139, 34, 0, 412, 0), (18, .ifCond .eq 9, 0, 0, 0, 0), (21, .aload_n 0, 0, 0, 0, 0), (22, .iconst 1, 0, 0, 0, 0), (23, .invokevirtual 131, 99, 1, 397, 0), (26, .ireturn, 0, 0, 0, 0), (27, .aload_n 0, 0, 0, 0, 0), (28, .getfield 33, 10, 6, 171, 0), (31, .iload_n 1, 0, 0, 0, 0), (32, .aaload, 0, 0, 0, 0), (33, .invokevirtual 148, 35, 0, 420, 0), (36, .iconst 1, 0, 0, 0, 0), (37, .ireturn, 0, 0, 0, 0)]
def am_t49_0 : List (Nat × am_R) := [(0, .iload_n 1, 0, 0, 0, 0), (1, .invokestatic 128, 90, 1, 394, 0), (4, .ifCond .eq 10, 0, 0, 0, 0), (7, .iload_n 3, 0, 0, 0, 0), (8, .invokestatic 128, 90, 1, 394, 0), (11, .ifCond .ne 5, 0, 0, 0, 0), (14, .iconst (-1), 0, 0, 0, 0), (15, .ireturn, 0, 0, 0, 0), (16, .iload 5, 0, 0, 0, 0), (18, .ifCond .ge 9, 0, 0, 0, 0), (21, .aload_n 0, 0, 0, 0, 0), (22, .iconst 5, 0, 0, 0, 0), (23, .invokevirtual 131, 99, 1, 397, 0), (26, .ireturn, 0, 0, 0, 0), (27, .aload_n 0, 0, 0, 0, 0), (28, .getfield 33, 10, 6, 171, 0), (31, .iload_n 1, 0, 0, 0, 0), (32, .aaload, 0, 0, 0, 0), (33, .invokevirtual 139, 34, 0, 412, 0), (36, .ifCond .ne 15, 0, 0, 0, 0), (39, .aload_n 0, 0, 0, 0, 0), (40, .getfield 33, 10, 6, 171, 0), (43, .iload_n 3, 0, 0, 0, 0), (44, .aaload, 0, 0, 0, 0), (45, .invokevirtual 139, 34, 0, 412, 0), (48, .ifCond .eq 9, 0, 0, 0, 0), (51, .aload_n 0, 0, 0, 0, 0), (52, .iconst 1, 0, 0, 0, 0), (53, .invokevirtual 131, 99, 1, 397, 0), (56, .ireturn, 0, 0, 0, 0), (57, .aload_n 0, 0, 0, 0, 0), (58, .getfield 33, 10, 6, 171, 0), (61, .iload_n 1, 0, 0, 0, 0), (62, .aaload, 0, 0, 0, 0), (63, .iload_n 2, 0, 0, 0, 0), (64, .iload 5, 0, 0, 0, 0), (66, .invokevirtual 151, 37, 2, 428, 0), (69, .ifCond .eq 19, 0, 0, 0, 0), (72, .aload_n 0, 0, 0, 0, 0), (73, .getfield 33, 10, 6, 171, 0), (76, .iload_n 3, 0, 0, 0, 0), (77, .aaload, 0, 0, 0, 0), (78, .iload 4, 0, 0, 0, 0), (80, .iload 5, 0, 0, 0, 0), (82, .invokevirtual 151, 37, 2, 428, 0), (85, .ifCond .ne 9, 0, 0, 0, 0), (88, .aload_n 0, 0, 0, 0, 0), (89, .iconst 2, 0, 0, 0, 0), (90, .invokevirtual 131, 99, 1, 397, 0), (93, .ireturn, 0, 0, 0, 0), (94, .aload_n 0, 0, 0, 0, 0), (95, .getfield 33, 10, 6, 171, 0), (98, .iload_n 1, 0, 0, 0, 0), (99, .aaload, 0, 0, 0, 0), (100, .getfield 144, 7, 0, 115, 1), (103, .iload_n 2, 0, 0, 0, 0), (104, .aload_n 0, 0, 0, 0, 0), (105, .getfield 33, 10, 6, 171, 0), (108, .iload_n 3, 0, 0, 0, 0), (109, .aaload, 0, 0, 0, 0)]
def am_t49_1 : List (Nat × am_R) := [(110, .getfield 144, 7, 0, 115, 1), (113, .iload 4, 0, 0, 0, 0), (115, .iload 5, 0, 0, 0, 0), (117, .invokestatic 155, 3, 0, 432, 0), (120, .iconst 1, 0, 0, 0, 0), (121, .ireturn, 0, 0, 0, 0)]
def am_t49 : List (Nat × am_R) := am_t49_0 ++ (am_t49_1)
def am_t50 : List (Nat × am_R) := [(0, .iload_n 1, 0, 0, 0, 0), (1, .invokestatic 128, 90, 1, 394, 0), (4, .ifCond .ne 5, 0, 0, 0, 0), (7, .iconst (-1), 0, 0, 0, 0), (8, .ireturn, 0, 0, 0, 0), (9, .aload_n 0, 0, 0, 0, 0), (10, .getfield 33, 10, 6, 171, 0), (13, .iload_n 1, 0, 0, 0, 0), (14, .aaload, 0, 0, 0, 0), (15, .invokevirtual 139, 34, 0, 412, 0), (18, .ifCond .eq 9, 0, 0, 0, 0), (21, .aload_n 0, 0, 0, 0, 0), (22, .iconst 1, 0, 0, 0, 0), (23, .invokevirtual 131, 99, 1, 397, 0), (26, .ireturn, 0, 0, 0, 0), (27, .aload_n 0, 0, 0, 0, 0), (28, .getfield 33, 10, 6, 171, 0), (31, .iload_n 1, 0, 0, 0, 0), (32, .aaload, 0, 0, 0, 0), (33, .invokevirtual 161, 40, 0, 437, 0), (36, .ireturn, 0, 0, 0, 0)]
def am_t51 : List (Nat × am_R) := [(0, .iload_n 1, 0, 0, 0, 0), (1, .invokestatic 128, 90, 1, 394, 0), (4, .ifCond .ne 5, 0, 0, 0, 0), (7, .iconst (-1), 0, 0, 0, 0), (8, .ireturn, 0, 0, 0, 0), (9, .aload_n 0, 0, 0, 0, 0), (10, .getfield 33, 10, 6, 171, 0), (13, .iload_n 1, 0, 0, 0, 0), (14, .aaload, 0, 0, 0, 0), (15, .invokevirtual 139, 34, 0, 412, 0), (18, .ifCond .eq 9, 0, 0, 0, 0), (21, .aload_n 0, 0, 0, 0, 0), (22, .iconst 1, 0, 0, 0, 0), (23, .invokevirtual 131, 99, 1, 397, 0), (26, .ireturn, 0, 0, 0, 0), (27, .aload_n 0, 0, 0, 0, 0), (28, .getfield 41, 10, 7, 172, 0), (31, .aload_n 0, 0, 0, 0, 0), (32, .getfield 33, 10, 6, 171, 0), (35, .iload_n 1, 0, 0, 0, 0), (36, .aaload, 0, 0, 0, 0), (37, .invokevirtual 164, 11, 1, 459, 0), (40, .aload_n 0, 0, 0, 0, 0), (41, .getfield 41, 10, 7, 172, 0), (44, .getfield 168, 1, 2, 134, 1), (47, .ireturn, 0, 0, 0, 0)]
def am_t52 : List (Nat × am_R) := [(0, .iload_n 1, 0, 0, 0, 0), (1, .invokestatic 128, 90, 1, 394, 0), (4, .ifCond .ne 5, 0, 0, 0, 0), (7, .iconst (-1), 0, 0, 0, 0), (8, .ireturn, 0, 0, 0, 0), (9, .aload_n 0, 0, 0, 0, 0), (10, .getfield 33, 10, 6, 171, 0), (13, .iload_n 1, 0, 0, 0, 0), (14, .aaload, 0, 0, 0, 0), (15, .invokevirtual 139, 34, 0, 412, 0), (18, .ifCond .eq 9, 0, 0, 0, 0), (21, .aload_n 0, 0, 0, 0, 0), (22, .iconst 1, 0, 0, 0, 0), (23, .invokevirtual 131, 99, 1, 397, 0), (26, .ireturn, 0, 0, 0, 0), (27, .aload_n 0, 0, 0, 0, 0), (28, .getfield 41, 10, 7, 172, 0), (31, .aload_n 0, 0, 0, 0, 0), (32, .getfield 33, 10, 6, 171, 0), (35, .iload_n 1, 0, 0, 0, 0), (36, .aaload, 0, 0, 0, 0), (37, .invokevirtual 171, 12, 1, 476, 0), (40, .ireturn, 0, 0, 0, 0)]
def am_t53 : List (Nat × am_R) := [(0, .iload_n 1, 0, 0, 0, 0), (1, .invokestatic 175, 91, 1, 492, 0), (4, .ifCond .eq 14, 0, 0, 0, 0), (7, .iload_n 2, 0, 0, 0, 0), (8, .iconst 0, 0, 0, 0, 0), (9, .sipush 1000, 0, 0, 0, 0), (12, .invokestatic 75, 87, 3, 212, 0), (15, .ifCond .ne 5, 0, 0, 0, 0), (18, .iconst (-1), 0, 0, 0, 0), (19, .ireturn, 0, 0, 0, 0), (20, .aload_n 0, 0, 0, 0, 0), (21, .getfield 52, 10, 9, 174, 0), (24, .iload_n 1, 0, 0, 0, 0), (25, .iaload, 0, 0, 0, 0), (26, .istore_n 3, 0, 0, 0, 0), (27, .aload_n 0, 0, 0, 0, 0), (28, .getfield 52, 10, 9, 174, 0), (31, .iload_n 1, 0, 0, 0, 0), (32, .iload_n 2, 0, 0, 0, 0), (33, .iastore, 0, 0, 0, 0), (34, .iload_n 3, 0, 0, 0, 0), (35, .ireturn, 0, 0, 0, 0)]
def am_t54_0 : List (Nat × am_R) := [(0, .iload_n 1, 0, 0, 0, 0), (1, .invokestatic 175, 91, 1, 492, 0), (4, .ifCond .eq 44, 0, 0, 0, 0), (7, .iload_n 2, 0, 0, 0, 0), (8, .invokestatic 128, 90, 1, 394, 0), (11, .ifCond .eq 37, 0, 0, 0, 0), (14, .aload_n 0, 0, 0, 0, 0), (15, .iload_n 3, 0, 0, 0, 0), (16, .invokevirtual 178, 96, 1, 499, 0), (19, .ifCond .eq 29, 0, 0, 0, 0), (22, .iload_n 3, 0, 0, 0, 0), (23, .ifCond .eq 25, 0, 0, 0, 0), (26, .iload 4, 0, 0, 0, 0), (28, .iconst 1, 0, 0, 0, 0), (29, .bipush 9, 0, 0, 0, 0), (31, .invokestatic 75, 87, 3, 212, 0), (34, .ifCond .eq 14, 0, 0, 0, 0), (37, .iload 5, 0, 0, 0, 0), (39, .iconst 0, 0, 0, 0, 0), (40, .ldc 181, 0, 0, 503, 65535), (42, .invokestatic 75, 87, 3, 212, 0), (45, .ifCond .ne 5, 0, 0, 0, 0), (48, .iconst (-1), 0, 0, 0, 0), (49, .ireturn, 0, 0, 0, 0), (50, .aload_n 0, 0, 0, 0, 0), (51, .getfield 19, 10, 2, 167, 0), (54, .invokevirtual 79, 191, 0, 215, 0), (57, .bipush 40, 0, 0, 0, 0), (59, .if_icmp .lt 6, 0, 0, 0, 0), (62, .bipush (-2), 0, 0, 0, 0), (64, .ireturn, 0, 0, 0, 0), (65, .aload_n 0, 0, 0, 0, 0), (66, .getfield 33, 10, 6, 171, 0), (69, .iload_n 2, 0, 0, 0, 0), (70, .aaload, 0, 0, 0, 0), (71, .astore 6, 0, 0, 0, 0), (73, .aload 6, 0, 0, 0, 0), (75, .invokevirtual 139, 34, 0, 412, 0), (78, .ifCond .eq 9, 0, 0, 0, 0), (81, .aload_n 0, 0, 0, 0, 0), (82, .iconst 1, 0, 0, 0, 0), (83, .invokevirtual 131, 99, 1, 397, 0), (86, .ireturn, 0, 0, 0, 0), (87, .aload_n 0, 0, 0, 0, 0), (88, .getfield 41, 10, 7, 172, 0), (91, .aload 6, 0, 0, 0, 0), (93, .invokevirtual 171, 12, 1, 476, 0), (96, .bipush (-9), 0, 0, 0, 0), (98, .if_icmp .eq 6, 0, 0, 0, 0), (101, .bipush (-5), 0, 0, 0, 0), (103, .ireturn, 0, 0, 0, 0), (104, .aload 6, 0, 0, 0, 0), (106, .invokevirtual 161, 40, 0, 437, 0), (109, .istore 7, 0, 0, 0, 0), (111, .iload 7, 0, 0, 0, 0), (113, .ifCond .ne 9, 0, 0, 0, 0), (116, .aload_n 0, 0, 0, 0, 0), (117, .iconst 5, 0, 0, 0, 0), (118, .invokevirtual 131, 99, 1, 397, 0), (121, .ireturn, 0, 0, 0, 0)]
def am_t54_1 : List (Nat × am_R) := [(122, .iload_n 1, 0, 0, 0, 0), (123, .iconst 1, 0, 0, 0, 0), (124, .invokestatic 182, 97, 2, 504, 0), (127, .ifCond .eq 7, 0, 0, 0, 0), (130, .iconst 3, 0, 0, 0, 0), (131, .goto 5, 0, 0, 0, 0), (134, .iload 4, 0, 0, 0, 0), (136, .istore 8, 0, 0, 0, 0), (138, .iload_n 1, 0, 0, 0, 0), (139, .iconst 4, 0, 0, 0, 0), (140, .invokestatic 182, 97, 2, 504, 0), (143, .ifCond .eq 8, 0, 0, 0, 0), (146, .iload 5, 0, 0, 0, 0), (148, .goto 4, 0, 0, 0, 0), (151, .iconst 0, 0, 0, 0, 0), (152, .istore 9, 0, 0, 0, 0), (154, .aload_n 0, 0, 0, 0, 0), (155, .getfield 19, 10, 2, 167, 0), (158, .new 185, 5, 508, 507, 67), (161, .dup, 0, 0, 0, 0), (162, .iload_n 1, 0, 0, 0, 0), (163, .iload 7, 0, 0, 0, 0), (165, .iload_n 3, 0, 0, 0, 0), (166, .iload 8, 0, 0, 0, 0), (168, .iload 9, 0, 0, 0, 0), (170, .aload_n 0, 0, 0, 0, 0), (171, .getfield 69, 10, 12, 177, 0), (174, .invokespecial 187, 20, 6, 509, 0), (177, .invokevirtual 88, 196, 1, 235, 0), (180, .pop, 0, 0, 0, 0), (181, .aload_n 0, 0, 0, 0, 0), (182, .getfield 19, 10, 2, 167, 0), (185, .invokevirtual 79, 191, 0, 215, 0), (188, .iconst 1, 0, 0, 0, 0), (189, .isub, 0, 0, 0, 0), (190, .ireturn, 0, 0, 0, 0)]
def am_t54 : List (Nat × am_R) := am_t54_0 ++ (am_t54_1)
def am_t55 : List (Nat × am_R) := [(0, .aload_n 0, 0, 0, 0, 0), (1, .iload_n 1, 0, 0, 0, 0), (2, .invokevirtual 190, 94, 1, 555, 0), (5, .ifCond .ne 5, 0, 0, 0, 0), (8, .iconst (-1), 0, 0, 0, 0), (9, .ireturn, 0, 0, 0, 0), (10, .aload_n 0, 0, 0, 0, 0), (11, .getfield 19, 10, 2, 167, 0), (14, .iload_n 1, 0, 0, 0, 0), (15, .invokevirtual 104, 194, 1, 306, 0), (18, .checkcast 185, 5, 0, 507, 0), (21, .astore_n 3, 0, 0, 0, 0), (22, .iload_n 2, 0, 0, 0, 0), (23, .tableswitch 82 0 6 #[41, 46, 51, 56, 61, 66, 74], 0, 0, 0, 0), (64, .aload_n 3, 0, 0, 0, 0), (65, .getfield 193, 5, 0, 515, 1), (68, .ireturn, 0, 0, 0, 0), (69, .aload_n 3, 0, 0, 0, 0), (70, .getfield 196, 5, 1, 517, 1), (73, .ireturn, 0, 0, 0, 0), (74, .aload_n 3, 0, 0, 0, 0), (75, .getfield 199, 5, 2, 519, 1), (78, .ireturn, 0, 0, 0, 0), (79, .aload_n 3, 0, 0, 0, 0), (80, .getfield 201, 5, 3, 521, 1), (83, .ireturn, 0, 0, 0, 0), (84, .aload_n 3, 0, 0, 0, 0), (85, .getfield 204, 5, 5, 525, 1), (88, .ireturn, 0, 0, 0, 0), (89, .aload_n 3, 0, 0, 0, 0), (90, .getfield 207, 5, 8, 531, 1), (93, .invokestatic 124, 98, 1, 387, 0), (96, .ireturn, 0, 0, 0, 0), (97, .aload_n 3, 0, 0, 0, 0), (98, .invokevirtual 211, 23, 0, 559, 0), (101, .invokestatic 124, 98, 1, 387, 0), (104, .ireturn, 0, 0, 0, 0), (105, .iconst (-1), 0, 0, 0, 0), (106, .ireturn, 0, 0, 0, 0)]
def am_t56 : List (Nat × am_R) := [(0, .aload_n 0, 0, 0, 0, 0), (1, .iload_n 1, 0, 0, 0, 0), (2, .invokevirtual 190, 94, 1, 555, 0), (5, .ifCond .eq 14, 0, 0, 0, 0), (8, .iload_n 2, 0, 0, 0, 0), (9, .invokestatic 175, 91, 1, 492, 0), (12, .ifCond .eq 7, 0, 0, 0, 0), (15, .iload_n 2, 0, 0, 0, 0), (16, .ifCond .ne 5, 0, 0, 0, 0), (19, .iconst (-1), 0, 0, 0, 0), (20, .ireturn, 0, 0, 0, 0), (21, .aload_n 0, 0, 0, 0, 0), (22, .getfield 19, 10, 2, 167, 0), (25, .iload_n 1, 0, 0, 0, 0), (26, .invokevirtual 104, 194, 1, 306, 0), (29, .checkcast 185, 5, 0, 507, 0), (32, .astore_n 3, 0, 0, 0, 0), (33, .aload_n 3, 0, 0, 0, 0), (34, .getfield 193, 5, 0, 515, 1), (37, .iload_n 2, 0, 0, 0, 0), (38, .invokestatic 182, 97, 2, 504, 0), (41, .ifCond .ne 9, 0, 0, 0, 0), (44, .aload_n 0, 0, 0, 0, 0), (45, .iconst 3, 0, 0, 0, 0), (46, .invokevirtual 131, 99, 1, 397, 0), (49, .ireturn, 0, 0, 0, 0), (50, .iload_n 2, 0, 0, 0, 0), (51, .tableswitch 50 1 4 #[29, 34, 39, 45], 0, 0, 0, 0), (80, .aload_n 3, 0, 0, 0, 0), (81, .invokevirtual 214, 22, 0, 575, 0), (84, .ireturn, 0, 0, 0, 0), (85, .aload_n 3, 0, 0, 0, 0), (86, .invokevirtual 217, 24, 0, 576, 0), (89, .ireturn, 0, 0, 0, 0), (90, .aload_n 0, 0, 0, 0, 0), (91, .aload_n 3, 0, 0, 0, 0), (92, .invokevirtual 220, 104, 1, 580, 0), (95, .ireturn, 0, 0, 0, 0), (96, .aload_n 3, 0, 0, 0, 0), (97, .getfield 224, 5, 4, 523, 1), (100, .ireturn, 0, 0, 0, 0), (101, .aload_n 0, 0, 0, 0, 0), (102, .aload_n 3, 0, 0, 0, 0), (103, .invokevirtual 227, 111, 1, 590, 0), (106, .ireturn, 0, 0, 0, 0)]
def am_t57 : List (Nat × am_R) := [(0, .aload_n 0, 0, 0, 0, 0), (1, .iload_n 1, 0, 0, 0, 0), (2, .invokevirtual 190, 94, 1, 555, 0), (5, .ifCond .ne 5, 0, 0, 0, 0), (8, .iconst (-1), 0, 0, 0, 0), (9, .ireturn, 0, 0, 0, 0), (10, .aload_n 0, 0, 0, 0, 0), (11, .aload_n 0, 0, 0, 0, 0), (12, .getfield 19, 10, 2, 167, 0), (15, .iload_n 1, 0, 0, 0, 0), (16, .invokevirtual 104, 194, 1, 306, 0), (19, .checkcast 185, 5, 0, 507, 0), (22, .invokevirtual 220, 104, 1, 580, 0), (25, .ireturn, 0, 0, 0, 0)]
def am_t58 : List (Nat × am_R) := [(0, .iconst 0, 0, 0, 0, 0), (1, .istore_n 1, 0, 0, 0, 0), (2, .iconst 0, 0, 0, 0, 0), (3, .istore_n 2, 0, 0, 0, 0), (4, .iconst 0, 0, 0, 0, 0), (5, .istore_n 3, 0, 0, 0, 0), (6, .iload_n 3, 0, 0, 0, 0), (7, .aload_n 0, 0, 0, 0, 0), (8, .getfield 19, 10, 2, 167, 0), (11, .invokevirtual 79, 191, 0, 215, 0), (14, .if_icmp .ge 42, 0, 0, 0, 0), (17, .aload_n 0, 0, 0, 0, 0), (18, .getfield 19, 10, 2, 167, 0), (21, .iload_n 3, 0, 0, 0, 0), (22, .invokevirtual 104, 194, 1, 306, 0), (25, .checkcast 185, 5, 0, 507, 0), (28, .astore 4, 0, 0, 0, 0), (30, .aload 4, 0, 0, 0, 0), (32, .getfield 207, 5, 8, 531, 1), (35, .ifCond .ne 15, 0, 0, 0, 0), (38, .iload_n 1, 0, 0, 0, 0), (39, .aload_n 0, 0, 0, 0, 0), (40, .aload 4, 0, 0, 0, 0), (42, .invokevirtual 220, 104, 1, 580, 0), (45, .iadd, 0, 0, 0, 0), (46, .istore_n 1, 0, 0, 0, 0), (47, .iinc 2 1, 0, 0, 0, 0), (50, .iinc 3 1, 0, 0, 0, 0), (53, .goto (-47), 0, 0, 0, 0), (56, .iload_n 2, 0, 0, 0, 0), (57, .ifCond .ne 9, 0, 0, 0, 0), (60, .aload_n 0, 0, 0, 0, 0), (61, .iconst 4, 0, 0, 0, 0), (62, .invokevirtual 131, 99, 1, 397, 0), (65, .ireturn, 0, 0, 0, 0), (66, .iload_n 1, 0, 0, 0, 0), (67, .iload_n 2, 0, 0, 0, 0), (68, .idiv, 0, 0, 0, 0), (69, .ireturn, 0, 0, 0, 0)]
def am_t59 : List (Nat × am_R) := [(0, .aload_n 0, 0, 0, 0, 0), (1, .iload_n 1, 0, 0, 0, 0), (2, .invokevirtual 190, 94, 1, 555, 0), (5, .ifCond .ne 5, 0, 0, 0, 0), (8, .iconst (-1), 0, 0, 0, 0), (9, .ireturn, 0, 0, 0, 0), (10, .aload_n 0, 0, 0, 0, 0), (11, .getfield 19, 10, 2, 167, 0), (14, .iload_n 1, 0, 0, 0, 0), (15, .invokevirtual 104, 194, 1, 306, 0), (18, .checkcast 185, 5, 0, 507, 0), (21, .astore_n 2, 0, 0, 0, 0), (22, .aload_n 2, 0, 0, 0, 0), (23, .getfield 207, 5, 8, 531, 1), (26, .ifCond .ne 10, 0, 0, 0, 0), (29, .aload_n 2, 0, 0, 0, 0), (30, .invokevirtual 211, 23, 0, 559, 0), (33, .ifCond .eq 6, 0, 0, 0, 0), (36, .bipush (-4), 0, 0, 0, 0), (38, .ireturn, 0, 0, 0, 0), (39, .aload_n 2, 0, 0, 0, 0), (40, .iconst 1, 0, 0, 0, 0), (41, .putfield 207, 5, 8, 531, 1), (44, .iconst 1, 0, 0, 0, 0), (45, .ireturn, 0, 0, 0, 0)]
def am_t60 : List (Nat × am_R) := [(0, .aload_n 0, 0, 0, 0, 0), (1, .iload_n 1, 0, 0, 0, 0), (2, .invokevirtual 92, 93, 1, 298, 0), (5, .ifCond .ne 5, 0, 0, 0, 0), (8, .iconst (-1), 0, 0, 0, 0), (9, .ireturn, 0, 0, 0, 0), (10, .aload_n 0, 0, 0, 0, 0), (11, .getfield 22, 10, 3, 168, 0), (14, .invokevirtual 79, 191, 0, 215, 0), (17, .bipush 6, 0, 0, 0, 0), (19, .if_icmp .lt 6, 0, 0, 0, 0), (22, .bipush (-2), 0, 0, 0, 0), (24, .ireturn, 0, 0, 0, 0), (25, .aload_n 0, 0, 0, 0, 0), (26, .getfield 22, 10, 3, 168, 0), (29, .new 108, 2, 613, 344, 69), (32, .dup, 0, 0, 0, 0), (33, .iload_n 1, 0, 0, 0, 0), (34, .invokespecial 230, 16, 1, 614, 0), (37, .invokevirtual 88, 196, 1, 235, 0), (40, .pop, 0, 0, 0, 0), (41, .aload_n 0, 0, 0, 0, 0), (42, .getfield 22, 10, 3, 168, 0), (45, .invokevirtual 79, 191, 0, 215, 0), (48, .iconst 1, 0, 0, 0, 0), (49, .isub, 0, 0, 0, 0), (50, .ireturn, 0, 0, 0, 0)]
def am_t61 : List (Nat × am_R) := [(0, .aload_n 0, 0, 0, 0, 0), (1, .iload_n 1, 0, 0, 0, 0), (2, .invokevirtual 232, 95, 1, 631, 0), (5, .ifCond .eq 11, 0, 0, 0, 0), (8, .aload_n 0, 0, 0, 0, 0), (9, .iload_n 2, 0, 0, 0, 0), (10, .invokevirtual 92, 93, 1, 298, 0), (13, .ifCond .ne 5, 0, 0, 0, 0), (16, .iconst (-1), 0, 0, 0, 0), (17, .ireturn, 0, 0, 0, 0), (18, .aload_n 0, 0, 0, 0, 0), (19, .aload_n 0, 0, 0, 0, 0), (20, .getfield 22, 10, 3, 168, 0), (23, .iload_n 1, 0, 0, 0, 0), (24, .invokevirtual 104, 194, 1, 306, 0), (27, .checkcast 108, 2, 0, 344, 0), (30, .iload_n 2, 0, 0, 0, 0), (31, .invokevirtual 235, 105, 2, 635, 0), (34, .ireturn, 0, 0, 0, 0)]
def am_t62_0 : List (Nat × am_R) := [(0, .aload_n 0, 0, 0, 0, 0), (1, .iload_n 1, 0, 0, 0, 0), (2, .invokevirtual 190, 94, 1, 555, 0), (5, .ifCond .eq 27, 0, 0, 0, 0), (8, .aload_n 0, 0, 0, 0, 0), (9, .iload_n 2, 0, 0, 0, 0), (10, .invokevirtual 232, 95, 1, 631, 0), (13, .ifCond .eq 19, 0, 0, 0, 0), (16, .aload_n 0, 0, 0, 0, 0), (17, .iload_n 3, 0, 0, 0, 0), (18, .invokevirtual 92, 93, 1, 298, 0), (21, .ifCond .eq 11, 0, 0, 0, 0), (24, .iload 4, 0, 0, 0, 0), (26, .invokestatic 239, 89, 1, 643, 0), (29, .ifCond .ne 5, 0, 0, 0, 0), (32, .iconst (-1), 0, 0, 0, 0), (33, .ireturn, 0, 0, 0, 0), (34, .aload_n 0, 0, 0, 0, 0), (35, .getfield 25, 10, 4, 169, 0), (38, .invokevirtual 79, 191, 0, 215, 0), (41, .sipush 400, 0, 0, 0, 0), (44, .if_icmp .lt 6, 0, 0, 0, 0), (47, .bipush (-2), 0, 0, 0, 0), (49, .ireturn, 0, 0, 0, 0), (50, .aload_n 0, 0, 0, 0, 0), (51, .aload_n 0, 0, 0, 0, 0), (52, .getfield 22, 10, 3, 168, 0), (55, .iload_n 2, 0, 0, 0, 0), (56, .invokevirtual 104, 194, 1, 306, 0), (59, .checkcast 108, 2, 0, 344, 0), (62, .iload_n 3, 0, 0, 0, 0), (63, .invokevirtual 235, 105, 2, 635, 0), (66, .iload 4, 0, 0, 0, 0), (68, .if_icmp .le 6, 0, 0, 0, 0), (71, .bipush (-4), 0, 0, 0, 0), (73, .ireturn, 0, 0, 0, 0), (74, .aload_n 0, 0, 0, 0, 0), (75, .iload_n 2, 0, 0, 0, 0), (76, .iload_n 3, 0, 0, 0, 0), (77, .iload 4, 0, 0, 0, 0), (79, .invokevirtual 242, 106, 3, 646, 0), (82, .ifCond .eq 6, 0, 0, 0, 0), (85, .bipush (-5), 0, 0, 0, 0), (87, .ireturn, 0, 0, 0, 0), (88, .aload_n 0, 0, 0, 0, 0), (89, .getfield 19, 10, 2, 167, 0), (92, .iload_n 1, 0, 0, 0, 0), (93, .invokevirtual 104, 194, 1, 306, 0), (96, .checkcast 185, 5, 0, 507, 0), (99, .astore 5, 0, 0, 0, 0), (101, .aload_n 0, 0, 0, 0, 0), (102, .aload 5, 0, 0, 0, 0), (104, .iload_n 3, 0, 0, 0, 0), (105, .invokevirtual 245, 107, 2, 655, 0), (108, .istore 6, 0, 0, 0, 0), (110, .iload 6, 0, 0, 0, 0), (112, .ifCond .eq 13, 0, 0, 0, 0), (115, .aload 5, 0, 0, 0, 0), (117, .iload_n 3, 0, 0, 0, 0), (118, .aload_n 0, 0, 0, 0, 0)]
def am_t62_1 : List (Nat × am_R) := [(119, .getfield 69, 10, 12, 177, 0), (122, .invokevirtual 249, 26, 2, 660, 0), (125, .aload_n 0, 0, 0, 0, 0), (126, .getfield 25, 10, 4, 169, 0), (129, .new 253, 3, 664, 339, 70), (132, .dup, 0, 0, 0, 0), (133, .iload_n 1, 0, 0, 0, 0), (134, .iload_n 2, 0, 0, 0, 0), (135, .iload_n 3, 0, 0, 0, 0), (136, .aload_n 0, 0, 0, 0, 0), (137, .getfield 69, 10, 12, 177, 0), (140, .iload 4, 0, 0, 0, 0), (142, .iload 6, 0, 0, 0, 0), (144, .invokespecial 255, 18, 6, 665, 0), (147, .invokevirtual 88, 196, 1, 235, 0), (150, .pop, 0, 0, 0, 0), (151, .aload_n 0, 0, 0, 0, 0), (152, .getfield 22, 10, 3, 168, 0), (155, .iload_n 2, 0, 0, 0, 0), (156, .invokevirtual 104, 194, 1, 306, 0), (159, .checkcast 108, 2, 0, 344, 0), (162, .iload_n 3, 0, 0, 0, 0), (163, .iload 4, 0, 0, 0, 0), (165, .aload 5, 0, 0, 0, 0), (167, .invokevirtual 258, 25, 0, 694, 0), (170, .iadd, 0, 0, 0, 0), (171, .invokevirtual 261, 17, 2, 698, 0), (174, .iload 6, 0, 0, 0, 0), (176, .invokestatic 124, 98, 1, 387, 0), (179, .ireturn, 0, 0, 0, 0)]
def am_t62 : List (Nat × am_R) := am_t62_0 ++ (am_t62_1)
def am_t63 : List (Nat × am_R) := [(0, .aload_n 0, 0, 0, 0, 0), (1, .iload_n 1, 0, 0, 0, 0), (2, .invokevirtual 190, 94, 1, 555, 0), (5, .ifCond .eq 11, 0, 0, 0, 0), (8, .aload_n 0, 0, 0, 0, 0), (9, .iload_n 2, 0, 0, 0, 0), (10, .invokevirtual 92, 93, 1, 298, 0), (13, .ifCond .ne 5, 0, 0, 0, 0), (16, .iconst (-1), 0, 0, 0, 0), (17, .ireturn, 0, 0, 0, 0), (18, .aload_n 0, 0, 0, 0, 0), (19, .getfield 19, 10, 2, 167, 0), (22, .iload_n 1, 0, 0, 0, 0), (23, .invokevirtual 104, 194, 1, 306, 0), (26, .checkcast 185, 5, 0, 507, 0), (29, .getfield 264, 5, 6, 527, 1), (32, .iload_n 2, 0, 0, 0, 0), (33, .iaload, 0, 0, 0, 0), (34, .ireturn, 0, 0, 0, 0)]
def am_t64 : List (Nat × am_R) := [(0, .iload_n 2, 0, 0, 0, 0), (1, .iconst 0, 0, 0, 0, 0), (2, .iconst 5, 0, 0, 0, 0), (3, .invokestatic 75, 87, 3, 212, 0), (6, .ifCond .ne 5, 0, 0, 0, 0), (9, .iconst (-1), 0, 0, 0, 0), (10, .ireturn, 0, 0, 0, 0), (11, .iload_n 1, 0, 0, 0, 0), (12, .ifCond .lt 14, 0, 0, 0, 0), (15, .iload_n 1, 0, 0, 0, 0), (16, .aload_n 0, 0, 0, 0, 0), (17, .getfield 25, 10, 4, 169, 0), (20, .invokevirtual 79, 191, 0, 215, 0), (23, .if_icmp .lt 6, 0, 0, 0, 0), (26, .bipush (-9), 0, 0, 0, 0), (28, .ireturn, 0, 0, 0, 0), (29, .aload_n 0, 0, 0, 0, 0), (30, .getfield 25, 10, 4, 169, 0), (33, .iload_n 1, 0, 0, 0, 0), (34, .invokevirtual 104, 194, 1, 306, 0), (37, .checkcast 253, 3, 0, 339, 0), (40, .astore_n 3, 0, 0, 0, 0), (41, .iload_n 2, 0, 0, 0, 0), (42, .tableswitch 59 0 4 #[34, 39, 44, 49, 54], 0, 0, 0, 0), (76, .aload_n 3, 0, 0, 0, 0), (77, .getfield 267, 3, 0, 670, 1), (80, .ireturn, 0, 0, 0, 0), (81, .aload_n 3, 0, 0, 0, 0), (82, .getfield 270, 3, 1, 672, 1), (85, .ireturn, 0, 0, 0, 0), (86, .aload_n 3, 0, 0, 0, 0), (87, .getfield 273, 3, 2, 674, 1), (90, .ireturn, 0, 0, 0, 0), (91, .aload_n 3, 0, 0, 0, 0), (92, .getfield 276, 3, 3, 676, 1), (95, .ireturn, 0, 0, 0, 0), (96, .aload_n 3, 0, 0, 0, 0), (97, .getfield 277, 3, 4, 678, 1), (100, .ireturn, 0, 0, 0, 0), (101, .aload_n 3, 0, 0, 0, 0), (102, .getfield 280, 3, 5, 680, 1), (105, .invokestatic 124, 98, 1, 387, 0), (108, .ireturn, 0, 0, 0, 0)]
def am_t65 : List (Nat × am_R) := [(0, .aload_n 0, 0, 0, 0, 0), (1, .iload_n 1, 0, 0, 0, 0), (2, .invokevirtual 92, 93, 1, 298, 0), (5, .ifCond .ne 5, 0, 0, 0, 0), (8, .iconst (-1), 0, 0, 0, 0), (9, .ireturn, 0, 0, 0, 0), (10, .iconst 0, 0, 0, 0, 0), (11, .istore_n 2, 0, 0, 0, 0), (12, .iconst 0, 0, 0, 0, 0), (13, .istore_n 3, 0, 0, 0, 0), (14, .iload_n 3, 0, 0, 0, 0), (15, .aload_n 0, 0, 0, 0, 0), (16, .getfield 19, 10, 2, 167, 0), (19, .invokevirtual 79, 191, 0, 215, 0), (22, .if_icmp .ge 31, 0, 0, 0, 0), (25, .aload_n 0, 0, 0, 0, 0), (26, .aload_n 0, 0, 0, 0, 0), (27, .getfield 19, 10, 2, 167, 0), (30, .iload_n 3, 0, 0, 0, 0), (31, .invokevirtual 104, 194, 1, 306, 0), (34, .checkcast 185, 5, 0, 507, 0), (37, .iload_n 1, 0, 0, 0, 0), (38, .invokevirtual 245, 107, 2, 655, 0), (41, .ifCond .eq 6, 0, 0, 0, 0), (44, .iinc 2 1, 0, 0, 0, 0), (47, .iinc 3 1, 0, 0, 0, 0), (50, .goto (-36), 0, 0, 0, 0), (53, .iload_n 2, 0, 0, 0, 0), (54, .ireturn, 0, 0, 0, 0)]
def am_t66 : List (Nat × am_R) := [(0, .aload_n 0, 0, 0, 0, 0), (1, .iload_n 1, 0, 0, 0, 0), (2, .invokevirtual 92, 93, 1, 298, 0), (5, .ifCond .ne 5, 0, 0, 0, 0), (8, .iconst (-1), 0, 0, 0, 0), (9, .ireturn, 0, 0, 0, 0), (10, .iconst 0, 0, 0, 0, 0), (11, .istore_n 3, 0, 0, 0, 0), (12, .iconst 0, 0, 0, 0, 0), (13, .istore 4, 0, 0, 0, 0), (15, .iload 4, 0, 0, 0, 0), (17, .aload_n 0, 0, 0, 0, 0), (18, .getfield 19, 10, 2, 167, 0), (21, .invokevirtual 79, 191, 0, 215, 0), (24, .if_icmp .ge 40, 0, 0, 0, 0), (27, .aload_n 0, 0, 0, 0, 0), (28, .aload_n 0, 0, 0, 0, 0), (29, .getfield 19, 10, 2, 167, 0), (32, .iload 4, 0, 0, 0, 0), (34, .invokevirtual 104, 194, 1, 306, 0), (37, .checkcast 185, 5, 0, 507, 0), (40, .iload_n 1, 0, 0, 0, 0), (41, .invokevirtual 245, 107, 2, 655, 0), (44, .ifCond .eq 14, 0, 0, 0, 0), (47, .iload_n 3, 0, 0, 0, 0), (48, .iload_n 2, 0, 0, 0, 0), (49, .if_icmp .ne 6, 0, 0, 0, 0), (52, .iload 4, 0, 0, 0, 0), (54, .ireturn, 0, 0, 0, 0), (55, .iinc 3 1, 0, 0, 0, 0), (58, .iinc 4 1, 0, 0, 0, 0), (61, .goto (-46), 0, 0, 0, 0), (64, .bipush (-9), 0, 0, 0, 0), (66, .ireturn, 0, 0, 0, 0)]
def am_t67 : List (Nat × am_R) := [(0, .iload_n 1, 0, 0, 0, 0), (1, .invokestatic 283, 92, 1, 722, 0), (4, .ifCond .eq 32, 0, 0, 0, 0), (7, .aload_n 0, 0, 0, 0, 0), (8, .iload_n 2, 0, 0, 0, 0), (9, .invokevirtual 92, 93, 1, 298, 0), (12, .ifCond .eq 24, 0, 0, 0, 0), (15, .iload_n 3, 0, 0, 0, 0), (16, .invokestatic 239, 89, 1, 643, 0), (19, .ifCond .eq 17, 0, 0, 0, 0), (22, .iload 4, 0, 0, 0, 0), (24, .invokestatic 239, 89, 1, 643, 0), (27, .ifCond .eq 9, 0, 0, 0, 0), (30, .iload_n 3, 0, 0, 0, 0), (31, .iload 4, 0, 0, 0, 0), (33, .if_icmp .le 5, 0, 0, 0, 0), (36, .iconst (-1), 0, 0, 0, 0), (37, .ireturn, 0, 0, 0, 0), (38, .aload_n 0, 0, 0, 0, 0), (39, .getfield 28, 10, 5, 170, 0), (42, .invokevirtual 79, 191, 0, 215, 0), (45, .bipush 60, 0, 0, 0, 0), (47, .if_icmp .lt 6, 0, 0, 0, 0), (50, .bipush (-2), 0, 0, 0, 0), (52, .ireturn, 0, 0, 0, 0), (53, .aload_n 0, 0, 0, 0, 0), (54, .getfield 28, 10, 5, 170, 0), (57, .new 286, 9, 726, 725, 71), (60, .dup, 0, 0, 0, 0), (61, .iload_n 1, 0, 0, 0, 0), (62, .iload_n 2, 0, 0, 0, 0), (63, .aload_n 0, 0, 0, 0, 0), (64, .getfield 69, 10, 12, 177, 0), (67, .iload_n 3, 0, 0, 0, 0), (68, .iload 4, 0, 0, 0, 0), (70, .invokespecial 288, 48, 5, 727, 0), (73, .invokevirtual 88, 196, 1, 235, 0), (76, .pop, 0, 0, 0, 0), (77, .aload_n 0, 0, 0, 0, 0), (78, .getfield 28, 10, 5, 170, 0), (81, .invokevirtual 79, 191, 0, 215, 0), (84, .ireturn, 0, 0, 0, 0)]
def am_t68 : List (Nat × am_R) := [(0, .iload_n 1, 0, 0, 0, 0), (1, .invokestatic 283, 92, 1, 722, 0), (4, .ifCond .eq 11, 0, 0, 0, 0), (7, .aload_n 0, 0, 0, 0, 0), (8, .iload_n 2, 0, 0, 0, 0), (9, .invokevirtual 190, 94, 1, 555, 0), (12, .ifCond .ne 5, 0, 0, 0, 0), (15, .iconst (-1), 0, 0, 0, 0), (16, .ireturn, 0, 0, 0, 0), (17, .aload_n 0, 0, 0, 0, 0), (18, .iload_n 1, 0, 0, 0, 0), (19, .iload_n 2, 0, 0, 0, 0), (20, .invokevirtual 291, 108, 2, 756, 0), (23, .ireturn, 0, 0, 0, 0)]
def am_t69 : List (Nat × am_R) := [(0, .aload_n 0, 0, 0, 0, 0), (1, .iload_n 1, 0, 0, 0, 0), (2, .invokevirtual 190, 94, 1, 555, 0), (5, .ifCond .eq 13, 0, 0, 0, 0), (8, .iload_n 2, 0, 0, 0, 0), (9, .iconst 1, 0, 0, 0, 0), (10, .bipush 9, 0, 0, 0, 0), (12, .invokestatic 75, 87, 3, 212, 0), (15, .ifCond .ne 5, 0, 0, 0, 0), (18, .iconst (-1), 0, 0, 0, 0), (19, .ireturn, 0, 0, 0, 0), (20, .iconst 0, 0, 0, 0, 0), (21, .istore_n 3, 0, 0, 0, 0), (22, .iconst 0, 0, 0, 0, 0), (23, .istore 4, 0, 0, 0, 0), (25, .iload 4, 0, 0, 0, 0), (27, .bipush 10, 0, 0, 0, 0), (29, .if_icmp .ge 27, 0, 0, 0, 0), (32, .aload_n 0, 0, 0, 0, 0), (33, .iload 4, 0, 0, 0, 0), (35, .iload_n 1, 0, 0, 0, 0), (36, .invokevirtual 291, 108, 2, 756, 0), (39, .iload_n 2, 0, 0, 0, 0), (40, .if_icmp .lt 10, 0, 0, 0, 0), (43, .iload_n 3, 0, 0, 0, 0), (44, .iconst 1, 0, 0, 0, 0), (45, .iload 4, 0, 0, 0, 0), (47, .ishl, 0, 0, 0, 0), (48, .ior, 0, 0, 0, 0), (49, .istore_n 3, 0, 0, 0, 0), (50, .iinc 4 1, 0, 0, 0, 0), (53, .goto (-28), 0, 0, 0, 0), (56, .iload_n 3, 0, 0, 0, 0), (57, .ireturn, 0, 0, 0, 0)]
def am_t70 : List (Nat × am_R) := [(0, .aload_n 0, 0, 0, 0, 0), (1, .iload_n 1, 0, 0, 0, 0), (2, .invokevirtual 232, 95, 1, 631, 0), (5, .ifCond .eq 11, 0, 0, 0, 0), (8, .aload_n 0, 0, 0, 0, 0), (9, .iload_n 2, 0, 0, 0, 0), (10, .invokevirtual 178, 96, 1, 499, 0), (13, .ifCond .ne 5, 0, 0, 0, 0), (16, .iconst (-1), 0, 0, 0, 0), (17, .ireturn, 0, 0, 0, 0), (18, .aload_n 0, 0, 0, 0, 0), (19, .getfield 48, 10, 8, 173, 0), (22, .aload_n 0, 0, 0, 0, 0), (23, .getfield 10, 10, 0, 165, 0), (26, .aload_n 0, 0, 0, 0, 0), (27, .getfield 22, 10, 3, 168, 0), (30, .iload_n 1, 0, 0, 0, 0), (31, .invokevirtual 104, 194, 1, 306, 0), (34, .checkcast 108, 2, 0, 344, 0), (37, .getfield 294, 2, 0, 619, 1), (40, .iload_n 2, 0, 0, 0, 0), (41, .invokevirtual 295, 29, 3, 772, 0), (44, .ireturn, 0, 0, 0, 0)]
def am_t71 : List (Nat × am_R) := [(0, .aload_n 0, 0, 0, 0, 0), (1, .getfield 48, 10, 8, 173, 0), (4, .iload_n 1, 0, 0, 0, 0), (5, .invokevirtual 299, 28, 1, 798, 0), (8, .ireturn, 0, 0, 0, 0)]
def am_t72 : List (Nat × am_R) := [(0, .aload_n 0, 0, 0, 0, 0), (1, .iload_n 1, 0, 0, 0, 0), (2, .invokevirtual 190, 94, 1, 555, 0), (5, .ifCond .eq 13, 0, 0, 0, 0), (8, .iload_n 2, 0, 0, 0, 0), (9, .iconst 1, 0, 0, 0, 0), (10, .bipush 16, 0, 0, 0, 0), (12, .invokestatic 75, 87, 3, 212, 0), (15, .ifCond .ne 5, 0, 0, 0, 0), (18, .iconst (-1), 0, 0, 0, 0), (19, .ireturn, 0, 0, 0, 0), (20, .aload_n 0, 0, 0, 0, 0), (21, .getfield 19, 10, 2, 167, 0), (24, .iload_n 1, 0, 0, 0, 0), (25, .invokevirtual 104, 194, 1, 306, 0), (28, .checkcast 185, 5, 0, 507, 0), (31, .astore 4, 0, 0, 0, 0), (33, .aload 4, 0, 0, 0, 0), (35, .getfield 193, 5, 0, 515, 1), (38, .iconst 4, 0, 0, 0, 0), (39, .if_icmp .eq 9, 0, 0, 0, 0), (42, .aload_n 0, 0, 0, 0, 0), (43, .iconst 3, 0, 0, 0, 0), (44, .invokevirtual 131, 99, 1, 397, 0), (47, .ireturn, 0, 0, 0, 0), (48, .iconst 0, 0, 0, 0, 0), (49, .istore 5, 0, 0, 0, 0), (51, .iconst 0, 0, 0, 0, 0), (52, .istore 6, 0, 0, 0, 0), (54, .iload 6, 0, 0, 0, 0), (56, .aload_n 0, 0, 0, 0, 0), (57, .getfield 19, 10, 2, 167, 0), (60, .invokevirtual 79, 191, 0, 215, 0), (63, .if_icmp .ge 42, 0, 0, 0, 0), (66, .aload 4, 0, 0, 0, 0), (68, .aload_n 0, 0, 0, 0, 0), (69, .getfield 19, 10, 2, 167, 0), (72, .iload 6, 0, 0, 0, 0), (74, .invokevirtual 104, 194, 1, 306, 0), (77, .checkcast 185, 5, 0, 507, 0), (80, .iload_n 2, 0, 0, 0, 0), (81, .invokestatic 302, 110, 3, 594, 0), (84, .ifCond .eq 15, 0, 0, 0, 0), (87, .iload 5, 0, 0, 0, 0), (89, .iload_n 3, 0, 0, 0, 0), (90, .if_icmp .ne 6, 0, 0, 0, 0), (93, .iload 6, 0, 0, 0, 0), (95, .ireturn, 0, 0, 0, 0), (96, .iinc 5 1, 0, 0, 0, 0), (99, .iinc 6 1, 0, 0, 0, 0), (102, .goto (-48), 0, 0, 0, 0), (105, .bipush (-9), 0, 0, 0, 0), (107, .ireturn, 0, 0, 0, 0)]
def am_t73 : List (Nat × am_R) := [(0, .iload_n 1, 0, 0, 0, 0), (1, .tableswitch 96 0 6 #[43, 51, 59, 67, 75, 80, 88], 0, 0, 0, 0), (44, .aload_n 0, 0, 0, 0, 0), (45, .getfield 10, 10, 0, 165, 0), (48, .invokevirtual 79, 191, 0, 215, 0), (51, .ireturn, 0, 0, 0, 0), (52, .aload_n 0, 0, 0, 0, 0), (53, .getfield 22, 10, 3, 168, 0), (56, .invokevirtual 79, 191, 0, 215, 0), (59, .ireturn, 0, 0, 0, 0), (60, .aload_n 0, 0, 0, 0, 0), (61, .getfield 19, 10, 2, 167, 0), (64, .invokevirtual 79, 191, 0, 215, 0), (67, .ireturn, 0, 0, 0, 0), (68, .aload_n 0, 0, 0, 0, 0), (69, .getfield 25, 10, 4, 169, 0), (72, .invokevirtual 79, 191, 0, 215, 0), (75, .ireturn, 0, 0, 0, 0), (76, .aload_n 0, 0, 0, 0, 0), (77, .getfield 69, 10, 12, 177, 0), (80, .ireturn, 0, 0, 0, 0), (81, .aload_n 0, 0, 0, 0, 0), (82, .getfield 16, 10, 1, 166, 0), (85, .invokevirtual 79, 191, 0, 215, 0), (88, .ireturn, 0, 0, 0, 0), (89, .aload_n 0, 0, 0, 0, 0), (90, .getfield 41, 10, 7, 172, 0), (93, .getfield 168, 1, 2, 134, 1), (96, .ireturn, 0, 0, 0, 0), (97, .iconst (-1), 0, 0, 0, 0), (98, .ireturn, 0, 0, 0, 0)]
def am_t74 : List (Nat × am_R) := [(0, .aload_n 0, 0, 0, 0, 0), (1, .getfield 65, 10, 11, 176, 0), (4, .ireturn, 0, 0, 0, 0)]
def am_t75 : List (Nat × am_R) := [(0, .iload_n 1, 0, 0, 0, 0), (1, .iconst 1, 0, 0, 0, 0), (2, .iconst 5, 0, 0, 0, 0), (3, .invokestatic 75, 87, 3, 212, 0), (6, .ifCond .ne 5, 0, 0, 0, 0), (9, .iconst (-1), 0, 0, 0, 0), (10, .ireturn, 0, 0, 0, 0), (11, .aload_n 0, 0, 0, 0, 0), (12, .getfield 62, 10, 10, 175, 0), (15, .iload_n 1, 0, 0, 0, 0), (16, .iaload, 0, 0, 0, 0), (17, .ireturn, 0, 0, 0, 0)]
def am_t76_0 : List (Nat × am_R) := [(0, .ldc2_w 306, 0, 0, 822, 17), (3, .lstore_n 1, 0, 0, 0, 0), (4, .iconst 0, 0, 0, 0, 0), (5, .istore_n 3, 0, 0, 0, 0), (6, .iload_n 3, 0, 0, 0, 0), (7, .bipush 6, 0, 0, 0, 0), (9, .if_icmp .gt 22, 0, 0, 0, 0), (12, .ldc2_w 308, 0, 0, 823, 31), (15, .lload_n 1, 0, 0, 0, 0), (16, .lmul, 0, 0, 0, 0), (17, .aload_n 0, 0, 0, 0, 0), (18, .iload_n 3, 0, 0, 0, 0), (19, .invokevirtual 310, 83, 1, 824, 0), (22, .i2l, 0, 0, 0, 0), (23, .ladd, 0, 0, 0, 0), (24, .lstore_n 1, 0, 0, 0, 0), (25, .iinc 3 1, 0, 0, 0, 0), (28, .goto (-22), 0, 0, 0, 0), (31, .iconst 0, 0, 0, 0, 0), (32, .istore_n 3, 0, 0, 0, 0), (33, .iload_n 3, 0, 0, 0, 0), (34, .aload_n 0, 0, 0, 0, 0), (35, .getfield 19, 10, 2, 167, 0), (38, .invokevirtual 79, 191, 0, 215, 0), (41, .if_icmp .ge 40, 0, 0, 0, 0), (44, .iconst 0, 0, 0, 0, 0), (45, .istore 4, 0, 0, 0, 0), (47, .iload 4, 0, 0, 0, 0), (49, .bipush 6, 0, 0, 0, 0), (51, .if_icmp .gt 24, 0, 0, 0, 0), (54, .ldc2_w 308, 0, 0, 823, 31), (57, .lload_n 1, 0, 0, 0, 0), (58, .lmul, 0, 0, 0, 0), (59, .aload_n 0, 0, 0, 0, 0), (60, .iload_n 3, 0, 0, 0, 0), (61, .iload 4, 0, 0, 0, 0), (63, .invokevirtual 312, 65, 2, 825, 0), (66, .i2l, 0, 0, 0, 0), (67, .ladd, 0, 0, 0, 0), (68, .lstore_n 1, 0, 0, 0, 0), (69, .iinc 4 1, 0, 0, 0, 0), (72, .goto (-25), 0, 0, 0, 0), (75, .iinc 3 1, 0, 0, 0, 0), (78, .goto (-45), 0, 0, 0, 0), (81, .iconst 0, 0, 0, 0, 0), (82, .istore_n 3, 0, 0, 0, 0), (83, .iload_n 3, 0, 0, 0, 0), (84, .aload_n 0, 0, 0, 0, 0), (85, .getfield 25, 10, 4, 169, 0), (88, .invokevirtual 79, 191, 0, 215, 0), (91, .if_icmp .ge 39, 0, 0, 0, 0), (94, .iconst 0, 0, 0, 0, 0), (95, .istore 4, 0, 0, 0, 0), (97, .iload 4, 0, 0, 0, 0), (99, .iconst 5, 0, 0, 0, 0), (100, .if_icmp .gt 24, 0, 0, 0, 0), (103, .ldc2_w 308, 0, 0, 823, 31), (106, .lload_n 1, 0, 0, 0, 0), (107, .lmul, 0, 0, 0, 0), (108, .aload_n 0, 0, 0, 0, 0)]
def am_t76_1 : List (Nat × am_R) := [(109, .iload_n 3, 0, 0, 0, 0), (110, .iload 4, 0, 0, 0, 0), (112, .invokevirtual 315, 74, 2, 826, 0), (115, .i2l, 0, 0, 0, 0), (116, .ladd, 0, 0, 0, 0), (117, .lstore_n 1, 0, 0, 0, 0), (118, .iinc 4 1, 0, 0, 0, 0), (121, .goto (-24), 0, 0, 0, 0), (124, .iinc 3 1, 0, 0, 0, 0), (127, .goto (-44), 0, 0, 0, 0), (130, .iconst 0, 0, 0, 0, 0), (131, .istore_n 3, 0, 0, 0, 0), (132, .iload_n 3, 0, 0, 0, 0), (133, .aload_n 0, 0, 0, 0, 0), (134, .getfield 22, 10, 3, 168, 0), (137, .invokevirtual 79, 191, 0, 215, 0), (140, .if_icmp .ge 53, 0, 0, 0, 0), (143, .ldc2_w 308, 0, 0, 823, 31), (146, .lload_n 1, 0, 0, 0, 0), (147, .lmul, 0, 0, 0, 0), (148, .aload_n 0, 0, 0, 0, 0), (149, .getfield 22, 10, 3, 168, 0), (152, .iload_n 3, 0, 0, 0, 0), (153, .invokevirtual 104, 194, 1, 306, 0), (156, .checkcast 108, 2, 0, 344, 0), (159, .getfield 294, 2, 0, 619, 1), (162, .i2l, 0, 0, 0, 0), (163, .ladd, 0, 0, 0, 0), (164, .lstore_n 1, 0, 0, 0, 0), (165, .ldc2_w 308, 0, 0, 823, 31), (168, .lload_n 1, 0, 0, 0, 0), (169, .lmul, 0, 0, 0, 0), (170, .aload_n 0, 0, 0, 0, 0), (171, .getfield 22, 10, 3, 168, 0), (174, .iload_n 3, 0, 0, 0, 0), (175, .invokevirtual 104, 194, 1, 306, 0), (178, .checkcast 108, 2, 0, 344, 0), (181, .getfield 110, 2, 1, 621, 1), (184, .i2l, 0, 0, 0, 0), (185, .ladd, 0, 0, 0, 0), (186, .lstore_n 1, 0, 0, 0, 0), (187, .iinc 3 1, 0, 0, 0, 0), (190, .goto (-58), 0, 0, 0, 0), (193, .iconst 0, 0, 0, 0, 0), (194, .istore_n 3, 0, 0, 0, 0), (195, .iload_n 3, 0, 0, 0, 0), (196, .iconst 4, 0, 0, 0, 0), (197, .if_icmp .ge 20, 0, 0, 0, 0), (200, .aload_n 0, 0, 0, 0, 0), (201, .getfield 33, 10, 6, 171, 0), (204, .iload_n 3, 0, 0, 0, 0), (205, .aaload, 0, 0, 0, 0), (206, .lload_n 1, 0, 0, 0, 0), (207, .invokevirtual 318, 41, 1, 827, 0), (210, .lstore_n 1, 0, 0, 0, 0), (211, .iinc 3 1, 0, 0, 0, 0), (214, .goto (-19), 0, 0, 0, 0), (217, .lload_n 1, 0, 0, 0, 0), (218, .lreturn, 0, 0, 0, 0)]
def am_t76 : List (Nat × am_R) := am_t76_0 ++ (am_t76_1)
def am_t77 : List (Nat × am_R) := [(0, .iload_n 0, 0, 0, 0, 0), (1, .iload_n 1, 0, 0, 0, 0), (2, .if_icmp .lt 12, 0, 0, 0, 0), (5, .iload_n 0, 0, 0, 0, 0), (6, .iload_n 2, 0, 0, 0, 0), (7, .if_icmp .gt 7, 0, 0, 0, 0), (10, .iconst 1, 0, 0, 0, 0), (11, .goto 4, 0, 0, 0, 0), (14, .iconst 0, 0, 0, 0, 0), (15, .ireturn, 0, 0, 0, 0)]
def am_t78 : List (Nat × am_R) := [(0, .iload_n 0, 0, 0, 0, 0), (1, .iconst 0, 0, 0, 0, 0), (2, .sipush 500, 0, 0, 0, 0), (5, .invokestatic 75, 87, 3, 212, 0), (8, .ireturn, 0, 0, 0, 0)]
def am_t79 : List (Nat × am_R) := [(0, .iload_n 0, 0, 0, 0, 0), (1, .iconst 0, 0, 0, 0, 0), (2, .sipush 1439, 0, 0, 0, 0), (5, .invokestatic 75, 87, 3, 212, 0), (8, .ireturn, 0, 0, 0, 0)]
def am_t80 : List (Nat × am_R) := [(0, .iload_n 0, 0, 0, 0, 0), (1, .iconst 0, 0, 0, 0, 0), (2, .iconst 3, 0, 0, 0, 0), (3, .invokestatic 75, 87, 3, 212, 0), (6, .ireturn, 0, 0, 0, 0)]
def am_t81 : List (Nat × am_R) := [(0, .iload_n 0, 0, 0, 0, 0), (1, .iconst 0, 0, 0, 0, 0), (2, .iconst 5, 0, 0, 0, 0), (3, .invokestatic 75, 87, 3, 212, 0), (6, .ireturn, 0, 0, 0, 0)]
def am_t82 : List (Nat × am_R) := [(0, .iload_n 0, 0, 0, 0, 0), (1, .iconst 0, 0, 0, 0, 0), (2, .bipush 9, 0, 0, 0, 0), (4, .invokestatic 75, 87, 3, 212, 0), (7, .ireturn, 0, 0, 0, 0)]
def am_t83 : List (Nat × am_R) := [(0, .iload_n 1, 0, 0, 0, 0), (1, .ifCond .lt 18, 0, 0, 0, 0), (4, .iload_n 1, 0, 0, 0, 0), (5, .aload_n 0, 0, 0, 0, 0), (6, .getfield 10, 10, 0, 165, 0), (9, .invokevirtual 79, 191, 0, 215, 0), (12, .if_icmp .ge 7, 0, 0, 0, 0), (15, .iconst 1, 0, 0, 0, 0), (16, .goto 4, 0, 0, 0, 0), (19, .iconst 0, 0, 0, 0, 0), (20, .ireturn, 0, 0, 0, 0)]
def am_t84 : List (Nat × am_R) := [(0, .iload_n 1, 0, 0, 0, 0), (1, .ifCond .lt 18, 0, 0, 0, 0), (4, .iload_n 1, 0, 0, 0, 0), (5, .aload_n 0, 0, 0, 0, 0), (6, .getfield 19, 10, 2, 167, 0), (9, .invokevirtual 79, 191, 0, 215, 0), (12, .if_icmp .ge 7, 0, 0, 0, 0), (15, .iconst 1, 0, 0, 0, 0), (16, .goto 4, 0, 0, 0, 0), (19, .iconst 0, 0, 0, 0, 0), (20, .ireturn, 0, 0, 0, 0)]
def am_t85 : List (Nat × am_R) := [(0, .iload_n 1, 0, 0, 0, 0), (1, .ifCond .lt 18, 0, 0, 0, 0), (4, .iload_n 1, 0, 0, 0, 0), (5, .aload_n 0, 0, 0, 0, 0), (6, .getfield 22, 10, 3, 168, 0), (9, .invokevirtual 79, 191, 0, 215, 0), (12, .if_icmp .ge 7, 0, 0, 0, 0), (15, .iconst 1, 0, 0, 0, 0), (16, .goto 4, 0, 0, 0, 0), (19, .iconst 0, 0, 0, 0, 0), (20, .ireturn, 0, 0, 0, 0)]
def am_t86 : List (Nat × am_R) := [(0, .iload_n 1, 0, 0, 0, 0), (1, .ifCond .lt 20, 0, 0, 0, 0), (4, .iload_n 1, 0, 0, 0, 0), (5, .iconst 1, 0, 0, 0, 0), (6, .aload_n 0, 0, 0, 0, 0), (7, .getfield 10, 10, 0, 165, 0), (10, .invokevirtual 79, 191, 0, 215, 0), (13, .ishl, 0, 0, 0, 0), (14, .if_icmp .ge 7, 0, 0, 0, 0), (17, .iconst 1, 0, 0, 0, 0), (18, .goto 4, 0, 0, 0, 0), (21, .iconst 0, 0, 0, 0, 0), (22, .ireturn, 0, 0, 0, 0)]
def am_t87 : List (Nat × am_R) := [(0, .iload_n 0, 0, 0, 0, 0), (1, .iload_n 1, 0, 0, 0, 0), (2, .if_icmp .eq 23, 0, 0, 0, 0), (5, .iload_n 0, 0, 0, 0, 0), (6, .iconst 2, 0, 0, 0, 0), (7, .if_icmp .ne 8, 0, 0, 0, 0), (10, .iload_n 1, 0, 0, 0, 0), (11, .iconst 1, 0, 0, 0, 0), (12, .if_icmp .eq 13, 0, 0, 0, 0), (15, .iload_n 0, 0, 0, 0, 0), (16, .iconst 5, 0, 0, 0, 0), (17, .if_icmp .ne 12, 0, 0, 0, 0), (20, .iload_n 1, 0, 0, 0, 0), (21, .iconst 4, 0, 0, 0, 0), (22, .if_icmp .ne 7, 0, 0, 0, 0), (25, .iconst 1, 0, 0, 0, 0), (26, .goto 4, 0, 0, 0, 0), (29, .iconst 0, 0, 0, 0, 0), (30, .ireturn, 0, 0, 0, 0)]
def am_t88 : List (Nat × am_R) := [(0, .iload_n 0, 0, 0, 0, 0), (1, .ifCond .eq 7, 0, 0, 0, 0), (4, .iconst 1, 0, 0, 0, 0), (5, .goto 4, 0, 0, 0, 0), (8, .iconst 0, 0, 0, 0, 0), (9, .ireturn, 0, 0, 0, 0)]
def am_t89 : List (Nat × am_R) := [(0, .aload_n 0, 0, 0, 0, 0), (1, .iload_n 1, 0, 0, 0, 0), (2, .putfield 65, 10, 11, 176, 0), (5, .aload_n 0, 0, 0, 0, 0), (6, .getfield 62, 10, 10, 175, 0), (9, .iload_n 1, 0, 0, 0, 0), (10, .dup2, 0, 0, 0, 0), (11, .iaload, 0, 0, 0, 0), (12, .iconst 1, 0, 0, 0, 0), (13, .iadd, 0, 0, 0, 0), (14, .iastore, 0, 0, 0, 0), (15, .bipush (-3), 0, 0, 0, 0), (17, .ireturn, 0, 0, 0, 0)]
def am_t90 : List (Nat × am_R) := [(0, .aload_n 0, 0, 0, 0, 0), (1, .getfield 10, 10, 0, 165, 0), (4, .iload_n 1, 0, 0, 0, 0), (5, .invokevirtual 104, 194, 1, 306, 0), (8, .checkcast 83, 8, 0, 219, 0), (11, .aload_n 0, 0, 0, 0, 0), (12, .getfield 10, 10, 0, 165, 0), (15, .iload_n 2, 0, 0, 0, 0), (16, .invokevirtual 104, 194, 1, 306, 0), (19, .checkcast 83, 8, 0, 219, 0), (22, .invokevirtual 322, 46, 1, 320, 0), (25, .ireturn, 0, 0, 0, 0)]
def am_t91 : List (Nat × am_R) := [(0, .aload_n 0, 0, 0, 0, 0), (1, .iload_n 1, 0, 0, 0, 0), (2, .iload_n 2, 0, 0, 0, 0), (3, .invokevirtual 96, 100, 2, 302, 0), (6, .aload_n 0, 0, 0, 0, 0), (7, .getfield 72, 10, 13, 178, 0), (10, .if_icmp .gt 7, 0, 0, 0, 0), (13, .iconst 1, 0, 0, 0, 0), (14, .goto 4, 0, 0, 0, 0), (17, .iconst 0, 0, 0, 0, 0), (18, .ireturn, 0, 0, 0, 0)]
def am_t92 : List (Nat × am_R) := [(0, .aload_n 0, 0, 0, 0, 0), (1, .getfield 25, 10, 4, 169, 0), (4, .invokevirtual 326, 192, 0, 335, 0), (7, .ifCond .ne 36, 0, 0, 0, 0), (10, .aload_n 0, 0, 0, 0, 0), (11, .getfield 25, 10, 4, 169, 0), (14, .aload_n 0, 0, 0, 0, 0), (15, .getfield 25, 10, 4, 169, 0), (18, .invokevirtual 79, 191, 0, 215, 0), (21, .iconst 1, 0, 0, 0, 0), (22, .isub, 0, 0, 0, 0), (23, .invokevirtual 104, 194, 1, 306, 0), (26, .checkcast 253, 3, 0, 339, 0), (29, .getfield 276, 3, 3, 676, 1), (32, .aload_n 0, 0, 0, 0, 0), (33, .getfield 69, 10, 12, 177, 0), (36, .if_icmp .ne 7, 0, 0, 0, 0), (39, .iconst 1, 0, 0, 0, 0), (40, .goto 4, 0, 0, 0, 0), (43, .iconst 0, 0, 0, 0, 0), (44, .ireturn, 0, 0, 0, 0)]
def am_t93 : List (Nat × am_R) := [(0, .aload_n 0, 0, 0, 0, 0), (1, .getfield 10, 10, 0, 165, 0), (4, .iload_n 1, 0, 0, 0, 0), (5, .invokevirtual 104, 194, 1, 306, 0), (8, .checkcast 83, 8, 0, 219, 0), (11, .iload_n 2, 0, 0, 0, 0), (12, .invokevirtual 329, 47, 1, 383, 0), (15, .istore 4, 0, 0, 0, 0), (17, .iconst 0, 0, 0, 0, 0), (18, .istore 5, 0, 0, 0, 0), (20, .iload 5, 0, 0, 0, 0), (22, .aload_n 0, 0, 0, 0, 0), (23, .getfield 16, 10, 1, 166, 0), (26, .invokevirtual 79, 191, 0, 215, 0), (29, .if_icmp .ge 65, 0, 0, 0, 0), (32, .aload_n 0, 0, 0, 0, 0), (33, .getfield 16, 10, 1, 166, 0), (36, .iload 5, 0, 0, 0, 0), (38, .invokevirtual 104, 194, 1, 306, 0), (41, .checkcast 116, 4, 0, 352, 0), (44, .astore 6, 0, 0, 0, 0), (46, .aload 6, 0, 0, 0, 0), (48, .getfield 332, 4, 0, 359, 1), (51, .iload_n 1, 0, 0, 0, 0), (52, .if_icmp .ne 36, 0, 0, 0, 0), (55, .aload 6, 0, 0, 0, 0), (57, .getfield 333, 4, 3, 365, 1), (60, .iload_n 3, 0, 0, 0, 0), (61, .if_icmp .gt 27, 0, 0, 0, 0), (64, .aload 6, 0, 0, 0, 0), (66, .getfield 336, 4, 1, 361, 1), (69, .iload_n 2, 0, 0, 0, 0), (70, .if_icmp .ne 6, 0, 0, 0, 0), (73, .iconst 0, 0, 0, 0, 0), (74, .istore 4, 0, 0, 0, 0), (76, .aload 6, 0, 0, 0, 0), (78, .getfield 339, 4, 2, 363, 1), (81, .iload_n 2, 0, 0, 0, 0), (82, .if_icmp .ne 6, 0, 0, 0, 0), (85, .iconst 1, 0, 0, 0, 0), (86, .istore 4, 0, 0, 0, 0), (88, .iinc 5 1, 0, 0, 0, 0), (91, .goto (-71), 0, 0, 0, 0), (94, .iload 4, 0, 0, 0, 0), (96, .ireturn, 0, 0, 0, 0)]
def am_t94 : List (Nat × am_R) := [(0, .aload_n 1, 0, 0, 0, 0), (1, .getfield 196, 5, 1, 517, 1), (4, .aload_n 0, 0, 0, 0, 0), (5, .getfield 52, 10, 9, 174, 0), (8, .aload_n 1, 0, 0, 0, 0), (9, .getfield 193, 5, 0, 515, 1), (12, .iaload, 0, 0, 0, 0), (13, .imul, 0, 0, 0, 0), (14, .aload_n 1, 0, 0, 0, 0), (15, .getfield 199, 5, 2, 519, 1), (18, .invokestatic 342, 185, 1, 584, 0), (21, .imul, 0, 0, 0, 0), (22, .aload_n 1, 0, 0, 0, 0), (23, .getfield 201, 5, 3, 521, 1), (26, .imul, 0, 0, 0, 0), (27, .ireturn, 0, 0, 0, 0)]
def am_t95 : List (Nat × am_R) := [(0, .aload_n 1, 0, 0, 0, 0), (1, .getfield 110, 2, 1, 621, 1), (4, .aload_n 0, 0, 0, 0, 0), (5, .aload_n 1, 0, 0, 0, 0), (6, .getfield 294, 2, 0, 619, 1), (9, .iload_n 2, 0, 0, 0, 0), (10, .invokevirtual 96, 100, 2, 302, 0), (13, .iadd, 0, 0, 0, 0), (14, .ireturn, 0, 0, 0, 0)]
def am_t96 : List (Nat × am_R) := [(0, .iconst 0, 0, 0, 0, 0), (1, .istore 4, 0, 0, 0, 0), (3, .iload 4, 0, 0, 0, 0), (5, .aload_n 0, 0, 0, 0, 0), (6, .getfield 25, 10, 4, 169, 0), (9, .invokevirtual 79, 191, 0, 215, 0), (12, .if_icmp .ge 73, 0, 0, 0, 0), (15, .aload_n 0, 0, 0, 0, 0), (16, .getfield 25, 10, 4, 169, 0), (19, .iload 4, 0, 0, 0, 0), (21, .invokevirtual 104, 194, 1, 306, 0), (24, .checkcast 253, 3, 0, 339, 0), (27, .astore 5, 0, 0, 0, 0), (29, .aload 5, 0, 0, 0, 0), (31, .getfield 276, 3, 3, 676, 1), (34, .aload_n 0, 0, 0, 0, 0), (35, .getfield 69, 10, 12, 177, 0), (38, .if_icmp .ne 41, 0, 0, 0, 0), (41, .aload 5, 0, 0, 0, 0), (43, .getfield 270, 3, 1, 672, 1), (46, .iload_n 1, 0, 0, 0, 0), (47, .if_icmp .eq 32, 0, 0, 0, 0), (50, .aload 5, 0, 0, 0, 0), (52, .getfield 277, 3, 4, 678, 1), (55, .iload_n 3, 0, 0, 0, 0), (56, .isub, 0, 0, 0, 0), (57, .invokestatic 347, 4, 0, 650, 0), (60, .iconst 5, 0, 0, 0, 0), (61, .if_icmp .ge 18, 0, 0, 0, 0), (64, .aload_n 0, 0, 0, 0, 0), (65, .aload 5, 0, 0, 0, 0), (67, .getfield 273, 3, 2, 674, 1), (70, .iload_n 2, 0, 0, 0, 0), (71, .invokevirtual 352, 101, 2, 651, 0), (74, .ifCond .eq 5, 0, 0, 0, 0), (77, .iconst 1, 0, 0, 0, 0), (78, .ireturn, 0, 0, 0, 0), (79, .iinc 4 1, 0, 0, 0, 0), (82, .goto (-79), 0, 0, 0, 0), (85, .iconst 0, 0, 0, 0, 0), (86, .ireturn, 0, 0, 0, 0)]
def am_t97 : List (Nat × am_R) := [(0, .aload_n 1, 0, 0, 0, 0), (1, .iload_n 2, 0, 0, 0, 0), (2, .invokevirtual 355, 21, 1, 659, 0), (5, .ifCond .eq 54, 0, 0, 0, 0), (8, .aload_n 1, 0, 0, 0, 0), (9, .getfield 207, 5, 8, 531, 1), (12, .ifCond .ne 47, 0, 0, 0, 0), (15, .aload_n 1, 0, 0, 0, 0), (16, .getfield 358, 5, 7, 529, 1), (19, .iload_n 2, 0, 0, 0, 0), (20, .iaload, 0, 0, 0, 0), (21, .aload_n 0, 0, 0, 0, 0), (22, .getfield 69, 10, 12, 177, 0), (25, .if_icmp .eq 34, 0, 0, 0, 0), (28, .aload_n 1, 0, 0, 0, 0), (29, .getfield 193, 5, 0, 515, 1), (32, .iconst 1, 0, 0, 0, 0), (33, .invokestatic 182, 97, 2, 504, 0), (36, .ifCond .eq 19, 0, 0, 0, 0), (39, .aload_n 0, 0, 0, 0, 0), (40, .iload_n 2, 0, 0, 0, 0), (41, .aload_n 0, 0, 0, 0, 0), (42, .getfield 69, 10, 12, 177, 0), (45, .aload_n 0, 0, 0, 0, 0), (46, .getfield 69, 10, 12, 177, 0), (49, .invokevirtual 121, 103, 3, 379, 0), (52, .ifCond .eq 7, 0, 0, 0, 0), (55, .iconst 1, 0, 0, 0, 0), (56, .goto 4, 0, 0, 0, 0), (59, .iconst 0, 0, 0, 0, 0), (60, .ireturn, 0, 0, 0, 0)]
def am_t98 : List (Nat × am_R) := [(0, .iconst 0, 0, 0, 0, 0), (1, .istore_n 3, 0, 0, 0, 0), (2, .iconst 0, 0, 0, 0, 0), (3, .istore 4, 0, 0, 0, 0), (5, .iload 4, 0, 0, 0, 0), (7, .aload_n 0, 0, 0, 0, 0), (8, .getfield 25, 10, 4, 169, 0), (11, .invokevirtual 79, 191, 0, 215, 0), (14, .if_icmp .ge 53, 0, 0, 0, 0), (17, .aload_n 0, 0, 0, 0, 0), (18, .getfield 25, 10, 4, 169, 0), (21, .iload 4, 0, 0, 0, 0), (23, .invokevirtual 104, 194, 1, 306, 0), (26, .checkcast 253, 3, 0, 339, 0), (29, .astore 5, 0, 0, 0, 0), (31, .aload 5, 0, 0, 0, 0), (33, .getfield 267, 3, 0, 670, 1), (36, .iload_n 2, 0, 0, 0, 0), (37, .if_icmp .ne 24, 0, 0, 0, 0), (40, .aload 5, 0, 0, 0, 0), (42, .getfield 280, 3, 5, 680, 1), (45, .ifCond .eq 16, 0, 0, 0, 0), (48, .aload_n 0, 0, 0, 0, 0), (49, .iload_n 1, 0, 0, 0, 0), (50, .aload 5, 0, 0, 0, 0), (52, .invokevirtual 361, 109, 2, 760, 0), (55, .ifCond .eq 6, 0, 0, 0, 0), (58, .iinc 3 1, 0, 0, 0, 0), (61, .iinc 4 1, 0, 0, 0, 0), (64, .goto (-59), 0, 0, 0, 0), (67, .iload_n 3, 0, 0, 0, 0), (68, .ireturn, 0, 0, 0, 0)]
def am_t99 : List (Nat × am_R) := [(0, .iconst 0, 0, 0, 0, 0), (1, .istore_n 3, 0, 0, 0, 0), (2, .iload_n 3, 0, 0, 0, 0), (3, .aload_n 0, 0, 0, 0, 0), (4, .getfield 28, 10, 5, 170, 0), (7, .invokevirtual 79, 191, 0, 215, 0), (10, .if_icmp .ge 81, 0, 0, 0, 0), (13, .aload_n 0, 0, 0, 0, 0), (14, .getfield 28, 10, 5, 170, 0), (17, .iload_n 3, 0, 0, 0, 0), (18, .invokevirtual 104, 194, 1, 306, 0), (21, .checkcast 286, 9, 0, 725, 0), (24, .astore 4, 0, 0, 0, 0), (26, .aload 4, 0, 0, 0, 0), (28, .getfield 365, 9, 0, 732, 1), (31, .iload_n 1, 0, 0, 0, 0), (32, .if_icmp .ne 53, 0, 0, 0, 0), (35, .aload 4, 0, 0, 0, 0), (37, .getfield 368, 9, 2, 736, 1), (40, .aload_n 2, 0, 0, 0, 0), (41, .getfield 276, 3, 3, 676, 1), (44, .if_icmp .ne 41, 0, 0, 0, 0), (47, .aload_n 2, 0, 0, 0, 0), (48, .getfield 277, 3, 4, 678, 1), (51, .aload 4, 0, 0, 0, 0), (53, .getfield 369, 9, 3, 738, 1), (56, .aload 4, 0, 0, 0, 0), (58, .getfield 370, 9, 4, 740, 1), (61, .invokestatic 75, 87, 3, 212, 0), (64, .ifCond .eq 21, 0, 0, 0, 0), (67, .aload_n 0, 0, 0, 0, 0), (68, .aload 4, 0, 0, 0, 0), (70, .getfield 371, 9, 1, 734, 1), (73, .aload_n 2, 0, 0, 0, 0), (74, .getfield 273, 3, 2, 674, 1), (77, .invokevirtual 352, 101, 2, 651, 0), (80, .ifCond .eq 5, 0, 0, 0, 0), (83, .iconst 1, 0, 0, 0, 0), (84, .ireturn, 0, 0, 0, 0), (85, .iinc 3 1, 0, 0, 0, 0), (88, .goto (-86), 0, 0, 0, 0), (91, .iconst 0, 0, 0, 0, 0), (92, .ireturn, 0, 0, 0, 0)]
def am_t100 : List (Nat × am_R) := [(0, .aload_n 0, 0, 0, 0, 0), (1, .getfield 193, 5, 0, 515, 1), (4, .iconst 4, 0, 0, 0, 0), (5, .if_icmp .ne 45, 0, 0, 0, 0), (8, .aload_n 1, 0, 0, 0, 0), (9, .getfield 193, 5, 0, 515, 1), (12, .iconst 5, 0, 0, 0, 0), (13, .if_icmp .ne 37, 0, 0, 0, 0), (16, .aload_n 0, 0, 0, 0, 0), (17, .getfield 207, 5, 8, 531, 1), (20, .ifCond .ne 30, 0, 0, 0, 0), (23, .aload_n 1, 0, 0, 0, 0), (24, .getfield 207, 5, 8, 531, 1), (27, .ifCond .ne 23, 0, 0, 0, 0), (30, .aload_n 0, 0, 0, 0, 0), (31, .getfield 224, 5, 4, 523, 1), (34, .aload_n 1, 0, 0, 0, 0), (35, .getfield 224, 5, 4, 523, 1), (38, .iand, 0, 0, 0, 0), (39, .invokestatic 342, 185, 1, 584, 0), (42, .iload_n 2, 0, 0, 0, 0), (43, .if_icmp .lt 7, 0, 0, 0, 0), (46, .iconst 1, 0, 0, 0, 0), (47, .goto 4, 0, 0, 0, 0), (50, .iconst 0, 0, 0, 0, 0), (51, .ireturn, 0, 0, 0, 0)]
def am_t101 : List (Nat × am_R) := [(0, .iconst 0, 0, 0, 0, 0), (1, .istore_n 2, 0, 0, 0, 0), (2, .iconst 0, 0, 0, 0, 0), (3, .istore_n 3, 0, 0, 0, 0), (4, .iload_n 3, 0, 0, 0, 0), (5, .aload_n 0, 0, 0, 0, 0), (6, .getfield 19, 10, 2, 167, 0), (9, .invokevirtual 79, 191, 0, 215, 0), (12, .if_icmp .ge 31, 0, 0, 0, 0), (15, .aload_n 0, 0, 0, 0, 0), (16, .getfield 19, 10, 2, 167, 0), (19, .iload_n 3, 0, 0, 0, 0), (20, .invokevirtual 104, 194, 1, 306, 0), (23, .checkcast 185, 5, 0, 507, 0), (26, .aload_n 1, 0, 0, 0, 0), (27, .iconst 1, 0, 0, 0, 0), (28, .invokestatic 302, 110, 3, 594, 0), (31, .ifCond .eq 6, 0, 0, 0, 0), (34, .iinc 2 1, 0, 0, 0, 0), (37, .iinc 3 1, 0, 0, 0, 0), (40, .goto (-36), 0, 0, 0, 0), (43, .iload_n 2, 0, 0, 0, 0), (44, .ireturn, 0, 0, 0, 0)]
def am_t102_0 : List (Nat × am_R) := [(0, .aload_n 0, 0, 0, 0, 0), (1, .invokespecial 1, 0, 0, 837, 0), (4, .aload_n 0, 0, 0, 0, 0), (5, .bipush 6, 0, 0, 0, 0), (7, .newarray .int, 0, 0, 0, 0), (9, .putfield 7, 11, 1, 839, 0), (12, .aload_n 0, 0, 0, 0, 0), (13, .bipush 10, 0, 0, 0, 0), (15, .newarray .int, 0, 0, 0, 0), (17, .putfield 13, 11, 4, 842, 0), (20, .aload_n 0, 0, 0, 0, 0), (21, .bipush 10, 0, 0, 0, 0), (23, .newarray .int, 0, 0, 0, 0), (25, .putfield 16, 11, 5, 843, 0), (28, .aload_n 0, 0, 0, 0, 0), (29, .bipush 10, 0, 0, 0, 0), (31, .newarray .int, 0, 0, 0, 0), (33, .putfield 19, 11, 6, 844, 0), (36, .aload_n 0, 0, 0, 0, 0), (37, .iconst 5, 0, 0, 0, 0), (38, .putfield 22, 11, 7, 845, 0), (41, .aload_n 0, 0, 0, 0, 0), (42, .bipush 40, 0, 0, 0, 0), (44, .newarray .int, 0, 0, 0, 0), (46, .putfield 26, 11, 9, 847, 0), (49, .aload_n 0, 0, 0, 0, 0), (50, .bipush 40, 0, 0, 0, 0), (52, .newarray .int, 0, 0, 0, 0), (54, .putfield 29, 11, 10, 848, 0), (57, .aload_n 0, 0, 0, 0, 0), (58, .bipush 40, 0, 0, 0, 0), (60, .newarray .int, 0, 0, 0, 0), (62, .putfield 32, 11, 11, 849, 0), (65, .aload_n 0, 0, 0, 0, 0), (66, .bipush 40, 0, 0, 0, 0), (68, .newarray .int, 0, 0, 0, 0), (70, .putfield 35, 11, 12, 850, 0), (73, .aload_n 0, 0, 0, 0, 0), (74, .iconst 4, 0, 0, 0, 0), (75, .newarray .int, 0, 0, 0, 0), (77, .putfield 38, 11, 13, 851, 0), (80, .aload_n 0, 0, 0, 0, 0), (81, .sipush 320, 0, 0, 0, 0), (84, .newarray .int, 0, 0, 0, 0), (86, .putfield 41, 11, 14, 852, 0), (89, .aload_n 0, 0, 0, 0, 0), (90, .bipush 80, 0, 0, 0, 0), (92, .newarray .int, 0, 0, 0, 0), (94, .putfield 44, 11, 15, 853, 0), (97, .aload_n 0, 0, 0, 0, 0), (98, .bipush 16, 0, 0, 0, 0), (100, .newarray .int, 0, 0, 0, 0), (102, .putfield 47, 11, 17, 855, 0), (105, .aload_n 0, 0, 0, 0, 0), (106, .sipush 192, 0, 0, 0, 0), (109, .newarray .int, 0, 0, 0, 0), (111, .putfield 50, 11, 18, 856, 0), (114, .aload_n 0, 0, 0, 0, 0), (115, .bipush 6, 0, 0, 0, 0), (117, .newarray .int, 0, 0, 0, 0)]
def am_t102_1 : List (Nat × am_R) := [(119, .putfield 53, 11, 19, 857, 0), (122, .aload_n 0, 0, 0, 0, 0), (123, .bipush 40, 0, 0, 0, 0), (125, .newarray .int, 0, 0, 0, 0), (127, .putfield 56, 11, 21, 859, 0), (130, .aload_n 0, 0, 0, 0, 0), (131, .bipush 40, 0, 0, 0, 0), (133, .newarray .int, 0, 0, 0, 0), (135, .putfield 59, 11, 22, 860, 0), (138, .aload_n 0, 0, 0, 0, 0), (139, .bipush 40, 0, 0, 0, 0), (141, .newarray .int, 0, 0, 0, 0), (143, .putfield 62, 11, 23, 861, 0), (146, .aload_n 0, 0, 0, 0, 0), (147, .bipush 40, 0, 0, 0, 0), (149, .newarray .int, 0, 0, 0, 0), (151, .putfield 65, 11, 24, 862, 0), (154, .aload_n 0, 0, 0, 0, 0), (155, .bipush 40, 0, 0, 0, 0), (157, .newarray .int, 0, 0, 0, 0), (159, .putfield 68, 11, 25, 863, 0), (162, .aload_n 0, 0, 0, 0, 0), (163, .bipush 40, 0, 0, 0, 0), (165, .newarray .int, 0, 0, 0, 0), (167, .putfield 71, 11, 26, 864, 0), (170, .aload_n 0, 0, 0, 0, 0), (171, .bipush 40, 0, 0, 0, 0), (173, .newarray .boolean, 0, 0, 0, 0), (175, .putfield 74, 11, 27, 865, 0), (178, .aload_n 0, 0, 0, 0, 0), (179, .bipush 6, 0, 0, 0, 0), (181, .newarray .int, 0, 0, 0, 0), (183, .putfield 78, 11, 29, 867, 0), (186, .aload_n 0, 0, 0, 0, 0), (187, .bipush 6, 0, 0, 0, 0), (189, .newarray .int, 0, 0, 0, 0), (191, .putfield 81, 11, 30, 868, 0), (194, .aload_n 0, 0, 0, 0, 0), (195, .sipush 400, 0, 0, 0, 0), (198, .newarray .int, 0, 0, 0, 0), (200, .putfield 84, 11, 32, 870, 0), (203, .aload_n 0, 0, 0, 0, 0), (204, .sipush 400, 0, 0, 0, 0), (207, .newarray .int, 0, 0, 0, 0), (209, .putfield 87, 11, 33, 871, 0), (212, .aload_n 0, 0, 0, 0, 0), (213, .sipush 400, 0, 0, 0, 0), (216, .newarray .int, 0, 0, 0, 0), (218, .putfield 90, 11, 34, 872, 0), (221, .aload_n 0, 0, 0, 0, 0), (222, .sipush 400, 0, 0, 0, 0), (225, .newarray .int, 0, 0, 0, 0), (227, .putfield 93, 11, 35, 873, 0), (230, .aload_n 0, 0, 0, 0, 0), (231, .sipush 400, 0, 0, 0, 0), (234, .newarray .int, 0, 0, 0, 0), (236, .putfield 96, 11, 36, 874, 0), (239, .aload_n 0, 0, 0, 0, 0), (240, .sipush 400, 0, 0, 0, 0), (243, .newarray .int, 0, 0, 0, 0)]
def am_t102_2 : List (Nat × am_R) := [(245, .putfield 99, 11, 37, 875, 0), (248, .aload_n 0, 0, 0, 0, 0), (249, .bipush 60, 0, 0, 0, 0), (251, .newarray .int, 0, 0, 0, 0), (253, .putfield 102, 11, 39, 877, 0), (256, .aload_n 0, 0, 0, 0, 0), (257, .bipush 60, 0, 0, 0, 0), (259, .newarray .int, 0, 0, 0, 0), (261, .putfield 105, 11, 40, 878, 0), (264, .aload_n 0, 0, 0, 0, 0), (265, .bipush 60, 0, 0, 0, 0), (267, .newarray .int, 0, 0, 0, 0), (269, .putfield 108, 11, 41, 879, 0), (272, .aload_n 0, 0, 0, 0, 0), (273, .bipush 60, 0, 0, 0, 0), (275, .newarray .int, 0, 0, 0, 0), (277, .putfield 111, 11, 42, 880, 0), (280, .aload_n 0, 0, 0, 0, 0), (281, .bipush 60, 0, 0, 0, 0), (283, .newarray .int, 0, 0, 0, 0), (285, .putfield 114, 11, 43, 881, 0), (288, .aload_n 0, 0, 0, 0, 0), (289, .sipush 10240, 0, 0, 0, 0), (292, .newarray .int, 0, 0, 0, 0), (294, .putfield 117, 11, 44, 882, 0), (297, .aload_n 0, 0, 0, 0, 0), (298, .bipush 10, 0, 0, 0, 0), (300, .newarray .int, 0, 0, 0, 0), (302, .putfield 120, 11, 46, 884, 0), (305, .iconst 0, 0, 0, 0, 0), (306, .istore_n 1, 0, 0, 0, 0), (307, .iload_n 1, 0, 0, 0, 0), (308, .iconst 4, 0, 0, 0, 0), (309, .if_icmp .ge 17, 0, 0, 0, 0), (312, .aload_n 0, 0, 0, 0, 0), (313, .getfield 38, 11, 13, 851, 0), (316, .iload_n 1, 0, 0, 0, 0), (317, .bipush (-9), 0, 0, 0, 0), (319, .iastore, 0, 0, 0, 0), (320, .iinc 1 1, 0, 0, 0, 0), (323, .goto (-16), 0, 0, 0, 0), (326, .iconst 0, 0, 0, 0, 0), (327, .istore_n 1, 0, 0, 0, 0), (328, .iload_n 1, 0, 0, 0, 0), (329, .bipush 6, 0, 0, 0, 0), (331, .if_icmp .ge 16, 0, 0, 0, 0), (334, .aload_n 0, 0, 0, 0, 0), (335, .getfield 53, 11, 19, 857, 0), (338, .iload_n 1, 0, 0, 0, 0), (339, .iconst 1, 0, 0, 0, 0), (340, .iastore, 0, 0, 0, 0), (341, .iinc 1 1, 0, 0, 0, 0), (344, .goto (-16), 0, 0, 0, 0), (347, .return_, 0, 0, 0, 0)]
def am_t102 : List (Nat × am_R) := am_t102_0 ++ (am_t102_1 ++ (am_t102_2))
def am_t103 : List (Nat × am_R) := [(0, .iload_n 0, 0, 0, 0, 0), (1, .iload_n 1, 0, 0, 0, 0), (2, .if_icmp .lt 12, 0, 0, 0, 0), (5, .iload_n 0, 0, 0, 0, 0), (6, .iload_n 2, 0, 0, 0, 0), (7, .if_icmp .gt 7, 0, 0, 0, 0), (10, .iconst 1, 0, 0, 0, 0), (11, .goto 4, 0, 0, 0, 0), (14, .iconst 0, 0, 0, 0, 0), (15, .ireturn, 0, 0, 0, 0)]
def am_t104 : List (Nat × am_R) := [(0, .aload_n 0, 0, 0, 0, 0), (1, .iload_n 1, 0, 0, 0, 0), (2, .putfield 123, 11, 0, 838, 0), (5, .aload_n 0, 0, 0, 0, 0), (6, .getfield 7, 11, 1, 839, 0), (9, .iload_n 1, 0, 0, 0, 0), (10, .dup2, 0, 0, 0, 0), (11, .iaload, 0, 0, 0, 0), (12, .iconst 1, 0, 0, 0, 0), (13, .iadd, 0, 0, 0, 0), (14, .iastore, 0, 0, 0, 0), (15, .bipush (-3), 0, 0, 0, 0), (17, .ireturn, 0, 0, 0, 0)]
def am_t105 : List (Nat × am_R) := [(0, .iload_n 0, 0, 0, 0, 0), (1, .iload_n 1, 0, 0, 0, 0), (2, .ishr, 0, 0, 0, 0), (3, .iconst 1, 0, 0, 0, 0), (4, .iand, 0, 0, 0, 0), (5, .iconst 1, 0, 0, 0, 0), (6, .if_icmp .ne 7, 0, 0, 0, 0), (9, .iconst 1, 0, 0, 0, 0), (10, .goto 4, 0, 0, 0, 0), (13, .iconst 0, 0, 0, 0, 0), (14, .ireturn, 0, 0, 0, 0)]
def am_t106 : List (Nat × am_R) := [(0, .iconst 0, 0, 0, 0, 0), (1, .istore_n 1, 0, 0, 0, 0), (2, .iconst 0, 0, 0, 0, 0), (3, .istore_n 2, 0, 0, 0, 0), (4, .iload_n 2, 0, 0, 0, 0), (5, .bipush 16, 0, 0, 0, 0), (7, .if_icmp .ge 17, 0, 0, 0, 0), (10, .iload_n 1, 0, 0, 0, 0), (11, .iload_n 0, 0, 0, 0, 0), (12, .iload_n 2, 0, 0, 0, 0), (13, .ishr, 0, 0, 0, 0), (14, .iconst 1, 0, 0, 0, 0), (15, .iand, 0, 0, 0, 0), (16, .iadd, 0, 0, 0, 0), (17, .istore_n 1, 0, 0, 0, 0), (18, .iinc 2 1, 0, 0, 0, 0), (21, .goto (-17), 0, 0, 0, 0), (24, .iload_n 1, 0, 0, 0, 0), (25, .ireturn, 0, 0, 0, 0)]
def am_t107 : List (Nat × am_R) := [(0, .iload_n 1, 0, 0, 0, 0), (1, .iconst 0, 0, 0, 0, 0), (2, .aload_n 0, 0, 0, 0, 0), (3, .getfield 126, 11, 3, 841, 0), (6, .iconst 1, 0, 0, 0, 0), (7, .isub, 0, 0, 0, 0), (8, .invokestatic 129, 113, 3, 985, 0), (11, .ireturn, 0, 0, 0, 0)]
def am_t108 : List (Nat × am_R) := [(0, .iload_n 1, 0, 0, 0, 0), (1, .iconst 0, 0, 0, 0, 0), (2, .bipush 60, 0, 0, 0, 0), (4, .invokestatic 129, 113, 3, 985, 0), (7, .ifCond .eq 23, 0, 0, 0, 0), (10, .iload_n 2, 0, 0, 0, 0), (11, .iconst 0, 0, 0, 0, 0), (12, .bipush 60, 0, 0, 0, 0), (14, .invokestatic 129, 113, 3, 985, 0), (17, .ifCond .eq 13, 0, 0, 0, 0), (20, .iload_n 3, 0, 0, 0, 0), (21, .iconst 0, 0, 0, 0, 0), (22, .bipush 127, 0, 0, 0, 0), (24, .invokestatic 129, 113, 3, 985, 0), (27, .ifCond .ne 5, 0, 0, 0, 0), (30, .iconst (-1), 0, 0, 0, 0), (31, .ireturn, 0, 0, 0, 0), (32, .aload_n 0, 0, 0, 0, 0), (33, .getfield 126, 11, 3, 841, 0), (36, .bipush 10, 0, 0, 0, 0), (38, .if_icmp .ne 6, 0, 0, 0, 0), (41, .bipush (-2), 0, 0, 0, 0), (43, .ireturn, 0, 0, 0, 0), (44, .aload_n 0, 0, 0, 0, 0), (45, .getfield 13, 11, 4, 842, 0), (48, .aload_n 0, 0, 0, 0, 0), (49, .getfield 126, 11, 3, 841, 0), (52, .iload_n 1, 0, 0, 0, 0), (53, .iastore, 0, 0, 0, 0), (54, .aload_n 0, 0, 0, 0, 0), (55, .getfield 16, 11, 5, 843, 0), (58, .aload_n 0, 0, 0, 0, 0), (59, .getfield 126, 11, 3, 841, 0), (62, .iload_n 2, 0, 0, 0, 0), (63, .iastore, 0, 0, 0, 0), (64, .aload_n 0, 0, 0, 0, 0), (65, .getfield 19, 11, 6, 844, 0), (68, .aload_n 0, 0, 0, 0, 0), (69, .getfield 126, 11, 3, 841, 0), (72, .iload_n 3, 0, 0, 0, 0), (73, .iastore, 0, 0, 0, 0), (74, .aload_n 0, 0, 0, 0, 0), (75, .dup, 0, 0, 0, 0), (76, .getfield 126, 11, 3, 841, 0), (79, .iconst 1, 0, 0, 0, 0), (80, .iadd, 0, 0, 0, 0), (81, .putfield 126, 11, 3, 841, 0), (84, .aload_n 0, 0, 0, 0, 0), (85, .getfield 126, 11, 3, 841, 0), (88, .iconst 1, 0, 0, 0, 0), (89, .isub, 0, 0, 0, 0), (90, .ireturn, 0, 0, 0, 0)]
def am_t109_0 : List (Nat × am_R) := [(0, .aload_n 0, 0, 0, 0, 0), (1, .getfield 13, 11, 4, 842, 0), (4, .iload_n 1, 0, 0, 0, 0), (5, .iaload, 0, 0, 0, 0), (6, .aload_n 0, 0, 0, 0, 0), (7, .getfield 13, 11, 4, 842, 0), (10, .iload_n 2, 0, 0, 0, 0), (11, .iaload, 0, 0, 0, 0), (12, .if_icmp .le 19, 0, 0, 0, 0), (15, .aload_n 0, 0, 0, 0, 0), (16, .getfield 13, 11, 4, 842, 0), (19, .iload_n 1, 0, 0, 0, 0), (20, .iaload, 0, 0, 0, 0), (21, .aload_n 0, 0, 0, 0, 0), (22, .getfield 13, 11, 4, 842, 0), (25, .iload_n 2, 0, 0, 0, 0), (26, .iaload, 0, 0, 0, 0), (27, .isub, 0, 0, 0, 0), (28, .goto 16, 0, 0, 0, 0), (31, .aload_n 0, 0, 0, 0, 0), (32, .getfield 13, 11, 4, 842, 0), (35, .iload_n 2, 0, 0, 0, 0), (36, .iaload, 0, 0, 0, 0), (37, .aload_n 0, 0, 0, 0, 0), (38, .getfield 13, 11, 4, 842, 0), (41, .iload_n 1, 0, 0, 0, 0), (42, .iaload, 0, 0, 0, 0), (43, .isub, 0, 0, 0, 0), (44, .istore_n 3, 0, 0, 0, 0), (45, .aload_n 0, 0, 0, 0, 0), (46, .getfield 16, 11, 5, 843, 0), (49, .iload_n 1, 0, 0, 0, 0), (50, .iaload, 0, 0, 0, 0), (51, .aload_n 0, 0, 0, 0, 0), (52, .getfield 16, 11, 5, 843, 0), (55, .iload_n 2, 0, 0, 0, 0), (56, .iaload, 0, 0, 0, 0), (57, .if_icmp .le 19, 0, 0, 0, 0), (60, .aload_n 0, 0, 0, 0, 0), (61, .getfield 16, 11, 5, 843, 0), (64, .iload_n 1, 0, 0, 0, 0), (65, .iaload, 0, 0, 0, 0), (66, .aload_n 0, 0, 0, 0, 0), (67, .getfield 16, 11, 5, 843, 0), (70, .iload_n 2, 0, 0, 0, 0), (71, .iaload, 0, 0, 0, 0), (72, .isub, 0, 0, 0, 0), (73, .goto 16, 0, 0, 0, 0), (76, .aload_n 0, 0, 0, 0, 0), (77, .getfield 16, 11, 5, 843, 0), (80, .iload_n 2, 0, 0, 0, 0), (81, .iaload, 0, 0, 0, 0), (82, .aload_n 0, 0, 0, 0, 0), (83, .getfield 16, 11, 5, 843, 0), (86, .iload_n 1, 0, 0, 0, 0), (87, .iaload, 0, 0, 0, 0), (88, .isub, 0, 0, 0, 0), (89, .istore 4, 0, 0, 0, 0), (91, .iload_n 3, 0, 0, 0, 0), (92, .iload 4, 0, 0, 0, 0)]
def am_t109_1 : List (Nat × am_R) := [(94, .iadd, 0, 0, 0, 0), (95, .ireturn, 0, 0, 0, 0)]
def am_t109 : List (Nat × am_R) := am_t109_0 ++ (am_t109_1)
def am_t110 : List (Nat × am_R) := [(0, .aload_n 0, 0, 0, 0, 0), (1, .iload_n 1, 0, 0, 0, 0), (2, .invokevirtual 133, 117, 1, 992, 0), (5, .ifCond .eq 20, 0, 0, 0, 0), (8, .aload_n 0, 0, 0, 0, 0), (9, .iload_n 2, 0, 0, 0, 0), (10, .invokevirtual 133, 117, 1, 992, 0), (13, .ifCond .eq 12, 0, 0, 0, 0), (16, .aload_n 0, 0, 0, 0, 0), (17, .iload_n 1, 0, 0, 0, 0), (18, .iload_n 2, 0, 0, 0, 0), (19, .invokevirtual 137, 119, 2, 996, 0), (22, .goto 4, 0, 0, 0, 0), (25, .iconst (-1), 0, 0, 0, 0), (26, .ireturn, 0, 0, 0, 0)]
def am_t111 : List (Nat × am_R) := [(0, .iload_n 1, 0, 0, 0, 0), (1, .iconst 0, 0, 0, 0, 0), (2, .bipush 60, 0, 0, 0, 0), (4, .invokestatic 129, 113, 3, 985, 0), (7, .ifCond .ne 5, 0, 0, 0, 0), (10, .iconst (-1), 0, 0, 0, 0), (11, .ireturn, 0, 0, 0, 0), (12, .iconst 0, 0, 0, 0, 0), (13, .istore_n 2, 0, 0, 0, 0), (14, .iload_n 2, 0, 0, 0, 0), (15, .aload_n 0, 0, 0, 0, 0), (16, .getfield 141, 11, 31, 869, 0), (19, .if_icmp .ge 25, 0, 0, 0, 0), (22, .aload_n 0, 0, 0, 0, 0), (23, .getfield 93, 11, 35, 873, 0), (26, .iload_n 2, 0, 0, 0, 0), (27, .iaload, 0, 0, 0, 0), (28, .aload_n 0, 0, 0, 0, 0), (29, .getfield 144, 11, 2, 840, 0), (32, .if_icmp .ne 6, 0, 0, 0, 0), (35, .bipush (-4), 0, 0, 0, 0), (37, .ireturn, 0, 0, 0, 0), (38, .iinc 2 1, 0, 0, 0, 0), (41, .goto (-27), 0, 0, 0, 0), (44, .aload_n 0, 0, 0, 0, 0), (45, .getfield 22, 11, 7, 845, 0), (48, .istore_n 2, 0, 0, 0, 0), (49, .aload_n 0, 0, 0, 0, 0), (50, .iload_n 1, 0, 0, 0, 0), (51, .putfield 22, 11, 7, 845, 0), (54, .iload_n 2, 0, 0, 0, 0), (55, .ireturn, 0, 0, 0, 0)]
def am_t112 : List (Nat × am_R) := [(0, .iload_n 1, 0, 0, 0, 0), (1, .iconst 1, 0, 0, 0, 0), (2, .sipush 400, 0, 0, 0, 0), (5, .aload_n 0, 0, 0, 0, 0), (6, .getfield 144, 11, 2, 840, 0), (9, .isub, 0, 0, 0, 0), (10, .invokestatic 129, 113, 3, 985, 0), (13, .ifCond .ne 5, 0, 0, 0, 0), (16, .iconst (-1), 0, 0, 0, 0), (17, .ireturn, 0, 0, 0, 0), (18, .aload_n 0, 0, 0, 0, 0), (19, .dup, 0, 0, 0, 0), (20, .getfield 144, 11, 2, 840, 0), (23, .iload_n 1, 0, 0, 0, 0), (24, .iadd, 0, 0, 0, 0), (25, .putfield 144, 11, 2, 840, 0), (28, .iconst 0, 0, 0, 0, 0), (29, .istore_n 2, 0, 0, 0, 0), (30, .iload_n 2, 0, 0, 0, 0), (31, .aload_n 0, 0, 0, 0, 0), (32, .getfield 147, 11, 28, 866, 0), (35, .if_icmp .ge 16, 0, 0, 0, 0), (38, .aload_n 0, 0, 0, 0, 0), (39, .getfield 81, 11, 30, 868, 0), (42, .iload_n 2, 0, 0, 0, 0), (43, .iconst 0, 0, 0, 0, 0), (44, .iastore, 0, 0, 0, 0), (45, .iinc 2 1, 0, 0, 0, 0), (48, .goto (-18), 0, 0, 0, 0), (51, .aload_n 0, 0, 0, 0, 0), (52, .getfield 144, 11, 2, 840, 0), (55, .ireturn, 0, 0, 0, 0)]
def am_t113 : List (Nat × am_R) := [(0, .iload_n 0, 0, 0, 0, 0), (1, .iconst 0, 0, 0, 0, 0), (2, .sipush 500, 0, 0, 0, 0), (5, .invokestatic 129, 113, 3, 985, 0), (8, .ireturn, 0, 0, 0, 0)]
def am_t114_0 : List (Nat × am_R) := [(0, .aload_n 0, 0, 0, 0, 0), (1, .iload_n 1, 0, 0, 0, 0), (2, .invokevirtual 133, 117, 1, 992, 0), (5, .ifCond .eq 30, 0, 0, 0, 0), (8, .iload_n 2, 0, 0, 0, 0), (9, .invokestatic 150, 123, 1, 1012, 0), (12, .ifCond .eq 23, 0, 0, 0, 0), (15, .iload_n 3, 0, 0, 0, 0), (16, .invokestatic 150, 123, 1, 1012, 0), (19, .ifCond .eq 16, 0, 0, 0, 0), (22, .iload 4, 0, 0, 0, 0), (24, .invokestatic 150, 123, 1, 1012, 0), (27, .ifCond .eq 8, 0, 0, 0, 0), (30, .iload_n 2, 0, 0, 0, 0), (31, .iload_n 3, 0, 0, 0, 0), (32, .if_icmp .ne 5, 0, 0, 0, 0), (35, .iconst (-1), 0, 0, 0, 0), (36, .ireturn, 0, 0, 0, 0), (37, .aload_n 0, 0, 0, 0, 0), (38, .getfield 153, 11, 8, 846, 0), (41, .bipush 40, 0, 0, 0, 0), (43, .if_icmp .ne 6, 0, 0, 0, 0), (46, .bipush (-2), 0, 0, 0, 0), (48, .ireturn, 0, 0, 0, 0), (49, .iload 4, 0, 0, 0, 0), (51, .aload_n 0, 0, 0, 0, 0), (52, .getfield 144, 11, 2, 840, 0), (55, .if_icmp .ge 6, 0, 0, 0, 0), (58, .bipush (-4), 0, 0, 0, 0), (60, .ireturn, 0, 0, 0, 0), (61, .aload_n 0, 0, 0, 0, 0), (62, .getfield 26, 11, 9, 847, 0), (65, .aload_n 0, 0, 0, 0, 0), (66, .getfield 153, 11, 8, 846, 0), (69, .iload_n 1, 0, 0, 0, 0), (70, .iastore, 0, 0, 0, 0), (71, .aload_n 0, 0, 0, 0, 0), (72, .getfield 29, 11, 10, 848, 0), (75, .aload_n 0, 0, 0, 0, 0), (76, .getfield 153, 11, 8, 846, 0), (79, .iload_n 2, 0, 0, 0, 0), (80, .iastore, 0, 0, 0, 0), (81, .aload_n 0, 0, 0, 0, 0), (82, .getfield 32, 11, 11, 849, 0), (85, .aload_n 0, 0, 0, 0, 0), (86, .getfield 153, 11, 8, 846, 0), (89, .iload_n 3, 0, 0, 0, 0), (90, .iastore, 0, 0, 0, 0), (91, .aload_n 0, 0, 0, 0, 0), (92, .getfield 35, 11, 12, 850, 0), (95, .aload_n 0, 0, 0, 0, 0), (96, .getfield 153, 11, 8, 846, 0), (99, .iload 4, 0, 0, 0, 0), (101, .iastore, 0, 0, 0, 0), (102, .aload_n 0, 0, 0, 0, 0), (103, .dup, 0, 0, 0, 0), (104, .getfield 153, 11, 8, 846, 0), (107, .iconst 1, 0, 0, 0, 0), (108, .iadd, 0, 0, 0, 0), (109, .putfield 153, 11, 8, 846, 0)]
def am_t114_1 : List (Nat × am_R) := [(112, .aload_n 0, 0, 0, 0, 0), (113, .getfield 153, 11, 8, 846, 0), (116, .ireturn, 0, 0, 0, 0)]
def am_t114 : List (Nat × am_R) := am_t114_0 ++ (am_t114_1)
def am_t115 : List (Nat × am_R) := [(0, .aload_n 0, 0, 0, 0, 0), (1, .getfield 19, 11, 6, 844, 0), (4, .iload_n 1, 0, 0, 0, 0), (5, .iaload, 0, 0, 0, 0), (6, .iload_n 2, 0, 0, 0, 0), (7, .bipush 7, 0, 0, 0, 0), (9, .irem, 0, 0, 0, 0), (10, .invokestatic 156, 115, 2, 1023, 0), (13, .istore 4, 0, 0, 0, 0), (15, .iconst 0, 0, 0, 0, 0), (16, .istore 5, 0, 0, 0, 0), (18, .iload 5, 0, 0, 0, 0), (20, .aload_n 0, 0, 0, 0, 0), (21, .getfield 153, 11, 8, 846, 0), (24, .if_icmp .ge 65, 0, 0, 0, 0), (27, .aload_n 0, 0, 0, 0, 0), (28, .getfield 26, 11, 9, 847, 0), (31, .iload 5, 0, 0, 0, 0), (33, .iaload, 0, 0, 0, 0), (34, .iload_n 1, 0, 0, 0, 0), (35, .if_icmp .ne 48, 0, 0, 0, 0), (38, .aload_n 0, 0, 0, 0, 0), (39, .getfield 35, 11, 12, 850, 0), (42, .iload 5, 0, 0, 0, 0), (44, .iaload, 0, 0, 0, 0), (45, .iload_n 3, 0, 0, 0, 0), (46, .if_icmp .gt 37, 0, 0, 0, 0), (49, .iload_n 2, 0, 0, 0, 0), (50, .aload_n 0, 0, 0, 0, 0), (51, .getfield 32, 11, 11, 849, 0), (54, .iload 5, 0, 0, 0, 0), (56, .iaload, 0, 0, 0, 0), (57, .if_icmp .eq 19, 0, 0, 0, 0), (60, .iload 4, 0, 0, 0, 0), (62, .ifCond .eq 18, 0, 0, 0, 0), (65, .iload_n 2, 0, 0, 0, 0), (66, .aload_n 0, 0, 0, 0, 0), (67, .getfield 29, 11, 10, 848, 0), (70, .iload 5, 0, 0, 0, 0), (72, .iaload, 0, 0, 0, 0), (73, .if_icmp .eq 7, 0, 0, 0, 0), (76, .iconst 1, 0, 0, 0, 0), (77, .goto 4, 0, 0, 0, 0), (80, .iconst 0, 0, 0, 0, 0), (81, .istore 4, 0, 0, 0, 0), (83, .iinc 5 1, 0, 0, 0, 0), (86, .goto (-68), 0, 0, 0, 0), (89, .iload 4, 0, 0, 0, 0), (91, .ireturn, 0, 0, 0, 0)]
def am_t116 : List (Nat × am_R) := [(0, .aload_n 0, 0, 0, 0, 0), (1, .iload_n 1, 0, 0, 0, 0), (2, .invokevirtual 133, 117, 1, 992, 0), (5, .ifCond .eq 35, 0, 0, 0, 0), (8, .iload_n 2, 0, 0, 0, 0), (9, .invokestatic 150, 123, 1, 1012, 0), (12, .ifCond .eq 28, 0, 0, 0, 0), (15, .iload_n 3, 0, 0, 0, 0), (16, .invokestatic 150, 123, 1, 1012, 0), (19, .ifCond .eq 21, 0, 0, 0, 0), (22, .aload_n 0, 0, 0, 0, 0), (23, .iload_n 1, 0, 0, 0, 0), (24, .iload_n 2, 0, 0, 0, 0), (25, .iload_n 3, 0, 0, 0, 0), (26, .invokevirtual 160, 125, 3, 1019, 0), (29, .ifCond .eq 7, 0, 0, 0, 0), (32, .iconst 1, 0, 0, 0, 0), (33, .goto 8, 0, 0, 0, 0), (36, .iconst 0, 0, 0, 0, 0), (37, .goto 4, 0, 0, 0, 0), (40, .iconst (-1), 0, 0, 0, 0), (41, .ireturn, 0, 0, 0, 0)]
def am_t117 : List (Nat × am_R) := [(0, .iload_n 0, 0, 0, 0, 0), (1, .iconst 0, 0, 0, 0, 0), (2, .iconst 3, 0, 0, 0, 0), (3, .invokestatic 129, 113, 3, 985, 0), (6, .ireturn, 0, 0, 0, 0)]
def am_t118 : List (Nat × am_R) := [(0, .iload_n 1, 0, 0, 0, 0), (1, .invokestatic 163, 127, 1, 1030, 0), (4, .ifCond .ne 7, 0, 0, 0, 0), (7, .iconst (-1), 0, 0, 0, 0), (8, .goto 21, 0, 0, 0, 0), (11, .aload_n 0, 0, 0, 0, 0), (12, .getfield 38, 11, 13, 851, 0), (15, .iload_n 1, 0, 0, 0, 0), (16, .iaload, 0, 0, 0, 0), (17, .ifCond .ge 11, 0, 0, 0, 0), (20, .aload_n 0, 0, 0, 0, 0), (21, .iconst 1, 0, 0, 0, 0), (22, .invokevirtual 166, 114, 1, 1033, 0), (25, .goto 4, 0, 0, 0, 0), (28, .iconst 0, 0, 0, 0, 0), (29, .ireturn, 0, 0, 0, 0)]
def am_t119 : List (Nat × am_R) := [(0, .iload_n 1, 0, 0, 0, 0), (1, .invokestatic 163, 127, 1, 1030, 0), (4, .ifCond .eq 9, 0, 0, 0, 0), (7, .iload_n 2, 0, 0, 0, 0), (8, .bipush 80, 0, 0, 0, 0), (10, .if_icmp .le 5, 0, 0, 0, 0), (13, .iconst (-1), 0, 0, 0, 0), (14, .ireturn, 0, 0, 0, 0), (15, .iload_n 2, 0, 0, 0, 0), (16, .ifCond .ge 9, 0, 0, 0, 0), (19, .aload_n 0, 0, 0, 0, 0), (20, .iconst 5, 0, 0, 0, 0), (21, .invokevirtual 166, 114, 1, 1033, 0), (24, .ireturn, 0, 0, 0, 0), (25, .aload_n 0, 0, 0, 0, 0), (26, .getfield 38, 11, 13, 851, 0), (29, .iload_n 1, 0, 0, 0, 0), (30, .iload_n 2, 0, 0, 0, 0), (31, .iastore, 0, 0, 0, 0), (32, .iconst 0, 0, 0, 0, 0), (33, .istore_n 3, 0, 0, 0, 0), (34, .iload_n 3, 0, 0, 0, 0), (35, .bipush 80, 0, 0, 0, 0), (37, .if_icmp .ge 21, 0, 0, 0, 0), (40, .aload_n 0, 0, 0, 0, 0), (41, .getfield 41, 11, 14, 852, 0), (44, .bipush 80, 0, 0, 0, 0), (46, .iload_n 1, 0, 0, 0, 0), (47, .imul, 0, 0, 0, 0), (48, .iload_n 3, 0, 0, 0, 0), (49, .iadd, 0, 0, 0, 0), (50, .iconst 0, 0, 0, 0, 0), (51, .iastore, 0, 0, 0, 0), (52, .iinc 3 1, 0, 0, 0, 0), (55, .goto (-21), 0, 0, 0, 0), (58, .iload_n 2, 0, 0, 0, 0), (59, .ireturn, 0, 0, 0, 0)]
def am_t120 : List (Nat × am_R) := [(0, .aload_n 0, 0, 0, 0, 0), (1, .iload_n 1, 0, 0, 0, 0), (2, .invokevirtual 170, 128, 1, 1041, 0), (5, .istore 4, 0, 0, 0, 0), (7, .iload 4, 0, 0, 0, 0), (9, .ifCond .ge 6, 0, 0, 0, 0), (12, .iload 4, 0, 0, 0, 0), (14, .ireturn, 0, 0, 0, 0), (15, .iload_n 2, 0, 0, 0, 0), (16, .iconst 0, 0, 0, 0, 0), (17, .aload_n 0, 0, 0, 0, 0), (18, .getfield 38, 11, 13, 851, 0), (21, .iload_n 1, 0, 0, 0, 0), (22, .iaload, 0, 0, 0, 0), (23, .iconst 1, 0, 0, 0, 0), (24, .isub, 0, 0, 0, 0), (25, .invokestatic 129, 113, 3, 985, 0), (28, .ifCond .ne 9, 0, 0, 0, 0), (31, .aload_n 0, 0, 0, 0, 0), (32, .iconst 2, 0, 0, 0, 0), (33, .invokevirtual 166, 114, 1, 1033, 0), (36, .ireturn, 0, 0, 0, 0), (37, .aload_n 0, 0, 0, 0, 0), (38, .getfield 41, 11, 14, 852, 0), (41, .bipush 80, 0, 0, 0, 0), (43, .iload_n 1, 0, 0, 0, 0), (44, .imul, 0, 0, 0, 0), (45, .iload_n 2, 0, 0, 0, 0), (46, .iadd, 0, 0, 0, 0), (47, .iaload, 0, 0, 0, 0), (48, .istore 5, 0, 0, 0, 0), (50, .aload_n 0, 0, 0, 0, 0), (51, .getfield 41, 11, 14, 852, 0), (54, .bipush 80, 0, 0, 0, 0), (56, .iload_n 1, 0, 0, 0, 0), (57, .imul, 0, 0, 0, 0), (58, .iload_n 2, 0, 0, 0, 0), (59, .iadd, 0, 0, 0, 0), (60, .iload_n 3, 0, 0, 0, 0), (61, .i2b, 0, 0, 0, 0), (62, .iastore, 0, 0, 0, 0), (63, .iload 5, 0, 0, 0, 0), (65, .sipush 1000, 0, 0, 0, 0), (68, .iadd, 0, 0, 0, 0), (69, .ireturn, 0, 0, 0, 0)]
def am_t121 : List (Nat × am_R) := [(0, .aload_n 0, 0, 0, 0, 0), (1, .iload_n 1, 0, 0, 0, 0), (2, .invokevirtual 170, 128, 1, 1041, 0), (5, .istore_n 2, 0, 0, 0, 0), (6, .iload_n 2, 0, 0, 0, 0), (7, .ifCond .ge 5, 0, 0, 0, 0), (10, .iload_n 2, 0, 0, 0, 0), (11, .ireturn, 0, 0, 0, 0), (12, .aload_n 0, 0, 0, 0, 0), (13, .getfield 38, 11, 13, 851, 0), (16, .iload_n 1, 0, 0, 0, 0), (17, .bipush (-9), 0, 0, 0, 0), (19, .iastore, 0, 0, 0, 0), (20, .iconst 1, 0, 0, 0, 0), (21, .ireturn, 0, 0, 0, 0)]
def am_t122_0 : List (Nat × am_R) := [(0, .iload_n 1, 0, 0, 0, 0), (1, .invokestatic 163, 127, 1, 1030, 0), (4, .ifCond .eq 10, 0, 0, 0, 0), (7, .iload_n 3, 0, 0, 0, 0), (8, .invokestatic 163, 127, 1, 1030, 0), (11, .ifCond .ne 5, 0, 0, 0, 0), (14, .iconst (-1), 0, 0, 0, 0), (15, .ireturn, 0, 0, 0, 0), (16, .iload 5, 0, 0, 0, 0), (18, .ifCond .ge 9, 0, 0, 0, 0), (21, .aload_n 0, 0, 0, 0, 0), (22, .iconst 5, 0, 0, 0, 0), (23, .invokevirtual 166, 114, 1, 1033, 0), (26, .ireturn, 0, 0, 0, 0), (27, .aload_n 0, 0, 0, 0, 0), (28, .getfield 38, 11, 13, 851, 0), (31, .iload_n 1, 0, 0, 0, 0), (32, .iaload, 0, 0, 0, 0), (33, .ifCond .lt 12, 0, 0, 0, 0), (36, .aload_n 0, 0, 0, 0, 0), (37, .getfield 38, 11, 13, 851, 0), (40, .iload_n 3, 0, 0, 0, 0), (41, .iaload, 0, 0, 0, 0), (42, .ifCond .ge 9, 0, 0, 0, 0), (45, .aload_n 0, 0, 0, 0, 0), (46, .iconst 1, 0, 0, 0, 0), (47, .invokevirtual 166, 114, 1, 1033, 0), (50, .ireturn, 0, 0, 0, 0), (51, .iload_n 2, 0, 0, 0, 0), (52, .ifCond .lt 43, 0, 0, 0, 0), (55, .iload 4, 0, 0, 0, 0), (57, .ifCond .lt 38, 0, 0, 0, 0), (60, .iload_n 2, 0, 0, 0, 0), (61, .i2l, 0, 0, 0, 0), (62, .iload 5, 0, 0, 0, 0), (64, .i2l, 0, 0, 0, 0), (65, .ladd, 0, 0, 0, 0), (66, .aload_n 0, 0, 0, 0, 0), (67, .getfield 38, 11, 13, 851, 0), (70, .iload_n 1, 0, 0, 0, 0), (71, .iaload, 0, 0, 0, 0), (72, .i2l, 0, 0, 0, 0), (73, .lcmp, 0, 0, 0, 0), (74, .ifCond .gt 21, 0, 0, 0, 0), (77, .iload 4, 0, 0, 0, 0), (79, .i2l, 0, 0, 0, 0), (80, .iload 5, 0, 0, 0, 0), (82, .i2l, 0, 0, 0, 0), (83, .ladd, 0, 0, 0, 0), (84, .aload_n 0, 0, 0, 0, 0), (85, .getfield 38, 11, 13, 851, 0), (88, .iload_n 3, 0, 0, 0, 0), (89, .iaload, 0, 0, 0, 0), (90, .i2l, 0, 0, 0, 0), (91, .lcmp, 0, 0, 0, 0), (92, .ifCond .le 9, 0, 0, 0, 0), (95, .aload_n 0, 0, 0, 0, 0), (96, .iconst 2, 0, 0, 0, 0), (97, .invokevirtual 166, 114, 1, 1033, 0), (100, .ireturn, 0, 0, 0, 0)]
def am_t122_1 : List (Nat × am_R) := [(101, .iconst 0, 0, 0, 0, 0), (102, .istore 6, 0, 0, 0, 0), (104, .iload 6, 0, 0, 0, 0), (106, .iload 5, 0, 0, 0, 0), (108, .if_icmp .ge 30, 0, 0, 0, 0), (111, .aload_n 0, 0, 0, 0, 0), (112, .getfield 44, 11, 15, 853, 0), (115, .iload 6, 0, 0, 0, 0), (117, .aload_n 0, 0, 0, 0, 0), (118, .getfield 41, 11, 14, 852, 0), (121, .bipush 80, 0, 0, 0, 0), (123, .iload_n 1, 0, 0, 0, 0), (124, .imul, 0, 0, 0, 0), (125, .iload_n 2, 0, 0, 0, 0), (126, .iadd, 0, 0, 0, 0), (127, .iload 6, 0, 0, 0, 0), (129, .iadd, 0, 0, 0, 0), (130, .iaload, 0, 0, 0, 0), (131, .iastore, 0, 0, 0, 0), (132, .iinc 6 1, 0, 0, 0, 0), (135, .goto (-31), 0, 0, 0, 0), (138, .iconst 0, 0, 0, 0, 0), (139, .istore 6, 0, 0, 0, 0), (141, .iload 6, 0, 0, 0, 0), (143, .iload 5, 0, 0, 0, 0), (145, .if_icmp .ge 31, 0, 0, 0, 0), (148, .aload_n 0, 0, 0, 0, 0), (149, .getfield 41, 11, 14, 852, 0), (152, .bipush 80, 0, 0, 0, 0), (154, .iload_n 3, 0, 0, 0, 0), (155, .imul, 0, 0, 0, 0), (156, .iload 4, 0, 0, 0, 0), (158, .iadd, 0, 0, 0, 0), (159, .iload 6, 0, 0, 0, 0), (161, .iadd, 0, 0, 0, 0), (162, .aload_n 0, 0, 0, 0, 0), (163, .getfield 44, 11, 15, 853, 0), (166, .iload 6, 0, 0, 0, 0), (168, .iaload, 0, 0, 0, 0), (169, .iastore, 0, 0, 0, 0), (170, .iinc 6 1, 0, 0, 0, 0), (173, .goto (-32), 0, 0, 0, 0), (176, .iconst 1, 0, 0, 0, 0), (177, .ireturn, 0, 0, 0, 0)]
def am_t122 : List (Nat × am_R) := am_t122_0 ++ (am_t122_1)
def am_t123 : List (Nat × am_R) := [(0, .iload_n 0, 0, 0, 0, 0), (1, .bipush 48, 0, 0, 0, 0), (3, .bipush 57, 0, 0, 0, 0), (5, .invokestatic 129, 113, 3, 985, 0), (8, .ireturn, 0, 0, 0, 0)]
def am_t124 : List (Nat × am_R) := [(0, .iload_n 0, 0, 0, 0, 0), (1, .bipush 65, 0, 0, 0, 0), (3, .bipush 90, 0, 0, 0, 0), (5, .invokestatic 129, 113, 3, 985, 0), (8, .ifCond .eq 10, 0, 0, 0, 0), (11, .iload_n 0, 0, 0, 0, 0), (12, .bipush 32, 0, 0, 0, 0), (14, .iadd, 0, 0, 0, 0), (15, .goto 4, 0, 0, 0, 0), (18, .iload_n 0, 0, 0, 0, 0), (19, .ireturn, 0, 0, 0, 0)]
def am_t125 : List (Nat × am_R) := [(0, .iload_n 0, 0, 0, 0, 0), (1, .invokestatic 173, 133, 1, 1072, 0), (4, .ifCond .ne 17, 0, 0, 0, 0), (7, .iload_n 0, 0, 0, 0, 0), (8, .invokestatic 176, 134, 1, 1075, 0), (11, .bipush 97, 0, 0, 0, 0), (13, .bipush 122, 0, 0, 0, 0), (15, .invokestatic 129, 113, 3, 985, 0), (18, .ifCond .eq 7, 0, 0, 0, 0), (21, .iconst 1, 0, 0, 0, 0), (22, .goto 4, 0, 0, 0, 0), (25, .iconst 0, 0, 0, 0, 0), (26, .ireturn, 0, 0, 0, 0)]
def am_t126 : List (Nat × am_R) := [(0, .iload_n 2, 0, 0, 0, 0), (1, .iconst 0, 0, 0, 0, 0), (2, .aload_n 0, 0, 0, 0, 0), (3, .getfield 38, 11, 13, 851, 0), (6, .iload_n 1, 0, 0, 0, 0), (7, .iaload, 0, 0, 0, 0), (8, .iconst 1, 0, 0, 0, 0), (9, .isub, 0, 0, 0, 0), (10, .invokestatic 129, 113, 3, 985, 0), (13, .ifCond .eq 17, 0, 0, 0, 0), (16, .aload_n 0, 0, 0, 0, 0), (17, .getfield 41, 11, 14, 852, 0), (20, .bipush 80, 0, 0, 0, 0), (22, .iload_n 1, 0, 0, 0, 0), (23, .imul, 0, 0, 0, 0), (24, .iload_n 2, 0, 0, 0, 0), (25, .iadd, 0, 0, 0, 0), (26, .iaload, 0, 0, 0, 0), (27, .goto 4, 0, 0, 0, 0), (30, .iconst 0, 0, 0, 0, 0), (31, .ireturn, 0, 0, 0, 0)]
def am_t127 : List (Nat × am_R) := [(0, .aload_n 0, 0, 0, 0, 0), (1, .iload_n 1, 0, 0, 0, 0), (2, .iload_n 2, 0, 0, 0, 0), (3, .iconst 1, 0, 0, 0, 0), (4, .isub, 0, 0, 0, 0), (5, .invokevirtual 179, 136, 2, 1065, 0), (8, .invokestatic 182, 135, 1, 1069, 0), (11, .ifCond .eq 5, 0, 0, 0, 0), (14, .iconst 0, 0, 0, 0, 0), (15, .ireturn, 0, 0, 0, 0), (16, .iconst 0, 0, 0, 0, 0), (17, .istore_n 3, 0, 0, 0, 0), (18, .aload_n 0, 0, 0, 0, 0), (19, .iload_n 1, 0, 0, 0, 0), (20, .iload_n 2, 0, 0, 0, 0), (21, .iload_n 3, 0, 0, 0, 0), (22, .iadd, 0, 0, 0, 0), (23, .invokevirtual 179, 136, 2, 1065, 0), (26, .invokestatic 182, 135, 1, 1069, 0), (29, .ifCond .eq 9, 0, 0, 0, 0), (32, .iinc 3 1, 0, 0, 0, 0), (35, .goto (-17), 0, 0, 0, 0), (38, .iload_n 3, 0, 0, 0, 0), (39, .ireturn, 0, 0, 0, 0)]
def am_t128 : List (Nat × am_R) := [(0, .iconst 0, 0, 0, 0, 0), (1, .istore_n 2, 0, 0, 0, 0), (2, .iconst 0, 0, 0, 0, 0), (3, .istore_n 3, 0, 0, 0, 0), (4, .iload_n 3, 0, 0, 0, 0), (5, .aload_n 0, 0, 0, 0, 0), (6, .getfield 38, 11, 13, 851, 0), (9, .iload_n 1, 0, 0, 0, 0), (10, .iaload, 0, 0, 0, 0), (11, .if_icmp .ge 51, 0, 0, 0, 0), (14, .aload_n 0, 0, 0, 0, 0), (15, .iload_n 1, 0, 0, 0, 0), (16, .iload_n 3, 0, 0, 0, 0), (17, .invokevirtual 185, 137, 2, 1061, 0), (20, .istore 4, 0, 0, 0, 0), (22, .iload_n 2, 0, 0, 0, 0), (23, .iload 4, 0, 0, 0, 0), (25, .ifCond .ne 7, 0, 0, 0, 0), (28, .iconst 0, 0, 0, 0, 0), (29, .goto 25, 0, 0, 0, 0), (32, .aload_n 0, 0, 0, 0, 0), (33, .iload_n 1, 0, 0, 0, 0), (34, .iload_n 3, 0, 0, 0, 0), (35, .invokevirtual 179, 136, 2, 1065, 0), (38, .invokestatic 173, 133, 1, 1072, 0), (41, .ifCond .eq 12, 0, 0, 0, 0), (44, .iload 4, 0, 0, 0, 0), (46, .iconst 2, 0, 0, 0, 0), (47, .iadd, 0, 0, 0, 0), (48, .iconst 3, 0, 0, 0, 0), (49, .idiv, 0, 0, 0, 0), (50, .goto 4, 0, 0, 0, 0), (53, .iconst 1, 0, 0, 0, 0), (54, .iadd, 0, 0, 0, 0), (55, .istore_n 2, 0, 0, 0, 0), (56, .iinc 3 1, 0, 0, 0, 0), (59, .goto (-55), 0, 0, 0, 0), (62, .iload_n 2, 0, 0, 0, 0), (63, .ireturn, 0, 0, 0, 0)]
def am_t129 : List (Nat × am_R) := [(0, .aload_n 0, 0, 0, 0, 0), (1, .iload_n 1, 0, 0, 0, 0), (2, .invokevirtual 170, 128, 1, 1041, 0), (5, .istore_n 2, 0, 0, 0, 0), (6, .iload_n 2, 0, 0, 0, 0), (7, .ifCond .ge 7, 0, 0, 0, 0), (10, .iload_n 2, 0, 0, 0, 0), (11, .goto 8, 0, 0, 0, 0), (14, .aload_n 0, 0, 0, 0, 0), (15, .iload_n 1, 0, 0, 0, 0), (16, .invokevirtual 188, 138, 1, 1057, 0), (19, .ireturn, 0, 0, 0, 0)]
def am_t130_0 : List (Nat × am_R) := [(0, .aload_n 0, 0, 0, 0, 0), (1, .iload_n 1, 0, 0, 0, 0), (2, .invokevirtual 170, 128, 1, 1041, 0), (5, .istore_n 2, 0, 0, 0, 0), (6, .iload_n 2, 0, 0, 0, 0), (7, .ifCond .ge 5, 0, 0, 0, 0), (10, .iload_n 2, 0, 0, 0, 0), (11, .ireturn, 0, 0, 0, 0), (12, .aload_n 0, 0, 0, 0, 0), (13, .iconst 0, 0, 0, 0, 0), (14, .putfield 191, 11, 16, 854, 0), (17, .iconst 0, 0, 0, 0, 0), (18, .istore_n 3, 0, 0, 0, 0), (19, .iload_n 3, 0, 0, 0, 0), (20, .aload_n 0, 0, 0, 0, 0), (21, .getfield 38, 11, 13, 851, 0), (24, .iload_n 1, 0, 0, 0, 0), (25, .iaload, 0, 0, 0, 0), (26, .if_icmp .ge 102, 0, 0, 0, 0), (29, .aload_n 0, 0, 0, 0, 0), (30, .iload_n 1, 0, 0, 0, 0), (31, .iload_n 3, 0, 0, 0, 0), (32, .invokevirtual 185, 137, 2, 1061, 0), (35, .istore 4, 0, 0, 0, 0), (37, .iload 4, 0, 0, 0, 0), (39, .ifCond .le 83, 0, 0, 0, 0), (42, .iload 4, 0, 0, 0, 0), (44, .bipush 12, 0, 0, 0, 0), (46, .if_icmp .gt 76, 0, 0, 0, 0), (49, .aload_n 0, 0, 0, 0, 0), (50, .getfield 191, 11, 16, 854, 0), (53, .bipush 16, 0, 0, 0, 0), (55, .if_icmp .ge 67, 0, 0, 0, 0), (58, .aload_n 0, 0, 0, 0, 0), (59, .getfield 47, 11, 17, 855, 0), (62, .aload_n 0, 0, 0, 0, 0), (63, .getfield 191, 11, 16, 854, 0), (66, .iload 4, 0, 0, 0, 0), (68, .iastore, 0, 0, 0, 0), (69, .iconst 0, 0, 0, 0, 0), (70, .istore 5, 0, 0, 0, 0), (72, .iload 5, 0, 0, 0, 0), (74, .iload 4, 0, 0, 0, 0), (76, .if_icmp .ge 36, 0, 0, 0, 0), (79, .aload_n 0, 0, 0, 0, 0), (80, .getfield 50, 11, 18, 856, 0), (83, .bipush 12, 0, 0, 0, 0), (85, .aload_n 0, 0, 0, 0, 0), (86, .getfield 191, 11, 16, 854, 0), (89, .imul, 0, 0, 0, 0), (90, .iload 5, 0, 0, 0, 0), (92, .iadd, 0, 0, 0, 0), (93, .aload_n 0, 0, 0, 0, 0), (94, .iload_n 1, 0, 0, 0, 0), (95, .iload_n 3, 0, 0, 0, 0), (96, .iload 5, 0, 0, 0, 0), (98, .iadd, 0, 0, 0, 0), (99, .invokevirtual 179, 136, 2, 1065, 0), (102, .invokestatic 176, 134, 1, 1075, 0), (105, .iastore, 0, 0, 0, 0)]
def am_t130_1 : List (Nat × am_R) := [(106, .iinc 5 1, 0, 0, 0, 0), (109, .goto (-37), 0, 0, 0, 0), (112, .aload_n 0, 0, 0, 0, 0), (113, .dup, 0, 0, 0, 0), (114, .getfield 191, 11, 16, 854, 0), (117, .iconst 1, 0, 0, 0, 0), (118, .iadd, 0, 0, 0, 0), (119, .putfield 191, 11, 16, 854, 0), (122, .iinc 3 1, 0, 0, 0, 0), (125, .goto (-106), 0, 0, 0, 0), (128, .aload_n 0, 0, 0, 0, 0), (129, .getfield 191, 11, 16, 854, 0), (132, .ireturn, 0, 0, 0, 0)]
def am_t130 : List (Nat × am_R) := am_t130_0 ++ (am_t130_1)
def am_t131_0 : List (Nat × am_R) := [(0, .iconst 0, 0, 0, 0, 0), (1, .istore_n 2, 0, 0, 0, 0), (2, .iload_n 2, 0, 0, 0, 0), (3, .aload_n 0, 0, 0, 0, 0), (4, .getfield 38, 11, 13, 851, 0), (7, .iload_n 1, 0, 0, 0, 0), (8, .iaload, 0, 0, 0, 0), (9, .if_icmp .ge 118, 0, 0, 0, 0), (12, .aload_n 0, 0, 0, 0, 0), (13, .iload_n 1, 0, 0, 0, 0), (14, .iload_n 2, 0, 0, 0, 0), (15, .invokevirtual 185, 137, 2, 1061, 0), (18, .istore_n 3, 0, 0, 0, 0), (19, .iconst 0, 0, 0, 0, 0), (20, .istore 4, 0, 0, 0, 0), (22, .iload 4, 0, 0, 0, 0), (24, .aload_n 0, 0, 0, 0, 0), (25, .getfield 191, 11, 16, 854, 0), (28, .if_icmp .ge 93, 0, 0, 0, 0), (31, .iload_n 3, 0, 0, 0, 0), (32, .ifCond .le 89, 0, 0, 0, 0), (35, .aload_n 0, 0, 0, 0, 0), (36, .getfield 47, 11, 17, 855, 0), (39, .iload 4, 0, 0, 0, 0), (41, .iaload, 0, 0, 0, 0), (42, .iload_n 3, 0, 0, 0, 0), (43, .if_icmp .ne 7, 0, 0, 0, 0), (46, .iconst 1, 0, 0, 0, 0), (47, .goto 4, 0, 0, 0, 0), (50, .iconst 0, 0, 0, 0, 0), (51, .istore 5, 0, 0, 0, 0), (53, .iconst 0, 0, 0, 0, 0), (54, .istore 6, 0, 0, 0, 0), (56, .iload 6, 0, 0, 0, 0), (58, .iload_n 3, 0, 0, 0, 0), (59, .if_icmp .ge 49, 0, 0, 0, 0), (62, .iload 5, 0, 0, 0, 0), (64, .ifCond .eq 44, 0, 0, 0, 0), (67, .aload_n 0, 0, 0, 0, 0), (68, .getfield 50, 11, 18, 856, 0), (71, .bipush 12, 0, 0, 0, 0), (73, .iload 4, 0, 0, 0, 0), (75, .imul, 0, 0, 0, 0), (76, .iload 6, 0, 0, 0, 0), (78, .iadd, 0, 0, 0, 0), (79, .iaload, 0, 0, 0, 0), (80, .aload_n 0, 0, 0, 0, 0), (81, .iload_n 1, 0, 0, 0, 0), (82, .iload_n 2, 0, 0, 0, 0), (83, .iload 6, 0, 0, 0, 0), (85, .iadd, 0, 0, 0, 0), (86, .invokevirtual 179, 136, 2, 1065, 0), (89, .invokestatic 176, 134, 1, 1075, 0), (92, .if_icmp .ne 7, 0, 0, 0, 0), (95, .iconst 1, 0, 0, 0, 0), (96, .goto 4, 0, 0, 0, 0), (99, .iconst 0, 0, 0, 0, 0), (100, .istore 5, 0, 0, 0, 0), (102, .iinc 6 1, 0, 0, 0, 0), (105, .goto (-49), 0, 0, 0, 0)]
def am_t131_1 : List (Nat × am_R) := [(108, .iload 5, 0, 0, 0, 0), (110, .ifCond .eq 5, 0, 0, 0, 0), (113, .iload_n 2, 0, 0, 0, 0), (114, .ireturn, 0, 0, 0, 0), (115, .iinc 4 1, 0, 0, 0, 0), (118, .goto (-96), 0, 0, 0, 0), (121, .iinc 2 1, 0, 0, 0, 0), (124, .goto (-122), 0, 0, 0, 0), (127, .bipush (-9), 0, 0, 0, 0), (129, .ireturn, 0, 0, 0, 0)]
def am_t131 : List (Nat × am_R) := am_t131_0 ++ (am_t131_1)
def am_t132 : List (Nat × am_R) := [(0, .aload_n 0, 0, 0, 0, 0), (1, .iload_n 1, 0, 0, 0, 0), (2, .invokevirtual 170, 128, 1, 1041, 0), (5, .istore_n 2, 0, 0, 0, 0), (6, .iload_n 2, 0, 0, 0, 0), (7, .ifCond .ge 7, 0, 0, 0, 0), (10, .iload_n 2, 0, 0, 0, 0), (11, .goto 8, 0, 0, 0, 0), (14, .aload_n 0, 0, 0, 0, 0), (15, .iload_n 1, 0, 0, 0, 0), (16, .invokevirtual 194, 141, 1, 1086, 0), (19, .ireturn, 0, 0, 0, 0)]
def am_t133 : List (Nat × am_R) := [(0, .iload_n 1, 0, 0, 0, 0), (1, .iconst 0, 0, 0, 0, 0), (2, .iconst 5, 0, 0, 0, 0), (3, .invokestatic 129, 113, 3, 985, 0), (6, .ifCond .eq 14, 0, 0, 0, 0), (9, .iload_n 2, 0, 0, 0, 0), (10, .iconst 0, 0, 0, 0, 0), (11, .sipush 1000, 0, 0, 0, 0), (14, .invokestatic 129, 113, 3, 985, 0), (17, .ifCond .ne 5, 0, 0, 0, 0), (20, .iconst (-1), 0, 0, 0, 0), (21, .ireturn, 0, 0, 0, 0), (22, .aload_n 0, 0, 0, 0, 0), (23, .getfield 53, 11, 19, 857, 0), (26, .iload_n 1, 0, 0, 0, 0), (27, .iaload, 0, 0, 0, 0), (28, .istore_n 3, 0, 0, 0, 0), (29, .aload_n 0, 0, 0, 0, 0), (30, .getfield 53, 11, 19, 857, 0), (33, .iload_n 1, 0, 0, 0, 0), (34, .iload_n 2, 0, 0, 0, 0), (35, .iastore, 0, 0, 0, 0), (36, .iload_n 3, 0, 0, 0, 0), (37, .ireturn, 0, 0, 0, 0)]
def am_t134 : List (Nat × am_R) := [(0, .iload_n 1, 0, 0, 0, 0), (1, .ifCond .lt 16, 0, 0, 0, 0), (4, .iload_n 1, 0, 0, 0, 0), (5, .aload_n 0, 0, 0, 0, 0), (6, .getfield 126, 11, 3, 841, 0), (9, .ishr, 0, 0, 0, 0), (10, .ifCond .ne 7, 0, 0, 0, 0), (13, .iconst 1, 0, 0, 0, 0), (14, .goto 4, 0, 0, 0, 0), (17, .iconst 0, 0, 0, 0, 0), (18, .ireturn, 0, 0, 0, 0)]
def am_t135 : List (Nat × am_R) := [(0, .iload_n 1, 0, 0, 0, 0), (1, .iconst 0, 0, 0, 0, 0), (2, .aload_n 0, 0, 0, 0, 0), (3, .getfield 197, 11, 20, 858, 0), (6, .iconst 1, 0, 0, 0, 0), (7, .isub, 0, 0, 0, 0), (8, .invokestatic 129, 113, 3, 985, 0), (11, .ireturn, 0, 0, 0, 0)]
def am_t136 : List (Nat × am_R) := [(0, .iload_n 1, 0, 0, 0, 0), (1, .ifCond .eq 28, 0, 0, 0, 0), (4, .iload_n 1, 0, 0, 0, 0), (5, .iload_n 0, 0, 0, 0, 0), (6, .if_icmp .eq 23, 0, 0, 0, 0), (9, .iload_n 1, 0, 0, 0, 0), (10, .iconst 1, 0, 0, 0, 0), (11, .if_icmp .ne 8, 0, 0, 0, 0), (14, .iload_n 0, 0, 0, 0, 0), (15, .iconst 2, 0, 0, 0, 0), (16, .if_icmp .eq 13, 0, 0, 0, 0), (19, .iload_n 1, 0, 0, 0, 0), (20, .iconst 4, 0, 0, 0, 0), (21, .if_icmp .ne 12, 0, 0, 0, 0), (24, .iload_n 0, 0, 0, 0, 0), (25, .iconst 5, 0, 0, 0, 0), (26, .if_icmp .ne 7, 0, 0, 0, 0), (29, .iconst 1, 0, 0, 0, 0), (30, .goto 4, 0, 0, 0, 0), (33, .iconst 0, 0, 0, 0, 0), (34, .ireturn, 0, 0, 0, 0)]
def am_t137_0 : List (Nat × am_R) := [(0, .iload_n 1, 0, 0, 0, 0), (1, .iconst 0, 0, 0, 0, 0), (2, .iconst 5, 0, 0, 0, 0), (3, .invokestatic 129, 113, 3, 985, 0), (6, .ifCond .eq 44, 0, 0, 0, 0), (9, .iload_n 2, 0, 0, 0, 0), (10, .invokestatic 163, 127, 1, 1030, 0), (13, .ifCond .eq 37, 0, 0, 0, 0), (16, .iload_n 3, 0, 0, 0, 0), (17, .ifCond .eq 33, 0, 0, 0, 0), (20, .aload_n 0, 0, 0, 0, 0), (21, .iload_n 3, 0, 0, 0, 0), (22, .invokevirtual 200, 144, 1, 1098, 0), (25, .ifCond .eq 25, 0, 0, 0, 0), (28, .iload 4, 0, 0, 0, 0), (30, .iconst 1, 0, 0, 0, 0), (31, .bipush 9, 0, 0, 0, 0), (33, .invokestatic 129, 113, 3, 985, 0), (36, .ifCond .eq 14, 0, 0, 0, 0), (39, .iload 5, 0, 0, 0, 0), (41, .iconst 0, 0, 0, 0, 0), (42, .ldc 203, 0, 0, 1102, 65535), (44, .invokestatic 129, 113, 3, 985, 0), (47, .ifCond .ne 5, 0, 0, 0, 0), (50, .iconst (-1), 0, 0, 0, 0), (51, .ireturn, 0, 0, 0, 0), (52, .aload_n 0, 0, 0, 0, 0), (53, .getfield 197, 11, 20, 858, 0), (56, .bipush 40, 0, 0, 0, 0), (58, .if_icmp .ne 6, 0, 0, 0, 0), (61, .bipush (-2), 0, 0, 0, 0), (63, .ireturn, 0, 0, 0, 0), (64, .aload_n 0, 0, 0, 0, 0), (65, .getfield 38, 11, 13, 851, 0), (68, .iload_n 2, 0, 0, 0, 0), (69, .iaload, 0, 0, 0, 0), (70, .ifCond .ge 9, 0, 0, 0, 0), (73, .aload_n 0, 0, 0, 0, 0), (74, .iconst 1, 0, 0, 0, 0), (75, .invokevirtual 166, 114, 1, 1033, 0), (78, .ireturn, 0, 0, 0, 0), (79, .aload_n 0, 0, 0, 0, 0), (80, .iload_n 2, 0, 0, 0, 0), (81, .invokevirtual 194, 141, 1, 1086, 0), (84, .ifCond .lt 6, 0, 0, 0, 0), (87, .bipush (-5), 0, 0, 0, 0), (89, .ireturn, 0, 0, 0, 0), (90, .aload_n 0, 0, 0, 0, 0), (91, .iload_n 2, 0, 0, 0, 0), (92, .invokevirtual 188, 138, 1, 1057, 0), (95, .istore 6, 0, 0, 0, 0), (97, .iload 6, 0, 0, 0, 0), (99, .ifCond .ne 9, 0, 0, 0, 0), (102, .aload_n 0, 0, 0, 0, 0), (103, .iconst 5, 0, 0, 0, 0), (104, .invokevirtual 166, 114, 1, 1033, 0), (107, .ireturn, 0, 0, 0, 0), (108, .aload_n 0, 0, 0, 0, 0), (109, .getfield 56, 11, 21, 859, 0), (112, .aload_n 0, 0, 0, 0, 0)]
def am_t137_1 : List (Nat × am_R) := [(113, .getfield 197, 11, 20, 858, 0), (116, .iload_n 1, 0, 0, 0, 0), (117, .iastore, 0, 0, 0, 0), (118, .aload_n 0, 0, 0, 0, 0), (119, .getfield 59, 11, 22, 860, 0), (122, .aload_n 0, 0, 0, 0, 0), (123, .getfield 197, 11, 20, 858, 0), (126, .iload 6, 0, 0, 0, 0), (128, .iastore, 0, 0, 0, 0), (129, .aload_n 0, 0, 0, 0, 0), (130, .getfield 62, 11, 23, 861, 0), (133, .aload_n 0, 0, 0, 0, 0), (134, .getfield 197, 11, 20, 858, 0), (137, .iload_n 3, 0, 0, 0, 0), (138, .iastore, 0, 0, 0, 0), (139, .aload_n 0, 0, 0, 0, 0), (140, .getfield 65, 11, 24, 862, 0), (143, .aload_n 0, 0, 0, 0, 0), (144, .getfield 197, 11, 20, 858, 0), (147, .iload_n 1, 0, 0, 0, 0), (148, .iconst 1, 0, 0, 0, 0), (149, .invokestatic 204, 146, 2, 1103, 0), (152, .ifCond .eq 7, 0, 0, 0, 0), (155, .iconst 3, 0, 0, 0, 0), (156, .goto 5, 0, 0, 0, 0), (159, .iload 4, 0, 0, 0, 0), (161, .iastore, 0, 0, 0, 0), (162, .aload_n 0, 0, 0, 0, 0), (163, .getfield 68, 11, 25, 863, 0), (166, .aload_n 0, 0, 0, 0, 0), (167, .getfield 197, 11, 20, 858, 0), (170, .iload_n 1, 0, 0, 0, 0), (171, .iconst 4, 0, 0, 0, 0), (172, .invokestatic 204, 146, 2, 1103, 0), (175, .ifCond .eq 8, 0, 0, 0, 0), (178, .iload 5, 0, 0, 0, 0), (180, .goto 4, 0, 0, 0, 0), (183, .iconst 0, 0, 0, 0, 0), (184, .iastore, 0, 0, 0, 0), (185, .aload_n 0, 0, 0, 0, 0), (186, .getfield 71, 11, 26, 864, 0), (189, .aload_n 0, 0, 0, 0, 0), (190, .getfield 197, 11, 20, 858, 0), (193, .aload_n 0, 0, 0, 0, 0), (194, .getfield 144, 11, 2, 840, 0), (197, .iastore, 0, 0, 0, 0), (198, .aload_n 0, 0, 0, 0, 0), (199, .dup, 0, 0, 0, 0), (200, .getfield 197, 11, 20, 858, 0), (203, .iconst 1, 0, 0, 0, 0), (204, .iadd, 0, 0, 0, 0), (205, .putfield 197, 11, 20, 858, 0), (208, .aload_n 0, 0, 0, 0, 0), (209, .getfield 197, 11, 20, 858, 0), (212, .iconst 1, 0, 0, 0, 0), (213, .isub, 0, 0, 0, 0), (214, .ireturn, 0, 0, 0, 0)]
def am_t137 : List (Nat × am_R) := am_t137_0 ++ (am_t137_1)
def am_t138 : List (Nat × am_R) := [(0, .iconst 0, 0, 0, 0, 0), (1, .istore_n 3, 0, 0, 0, 0), (2, .iconst 0, 0, 0, 0, 0), (3, .istore 4, 0, 0, 0, 0), (5, .iload 4, 0, 0, 0, 0), (7, .aload_n 0, 0, 0, 0, 0), (8, .getfield 141, 11, 31, 869, 0), (11, .if_icmp .ge 50, 0, 0, 0, 0), (14, .iload_n 3, 0, 0, 0, 0), (15, .aload_n 0, 0, 0, 0, 0), (16, .getfield 99, 11, 37, 875, 0), (19, .iload 4, 0, 0, 0, 0), (21, .iaload, 0, 0, 0, 0), (22, .iconst 1, 0, 0, 0, 0), (23, .if_icmp .ne 29, 0, 0, 0, 0), (26, .aload_n 0, 0, 0, 0, 0), (27, .getfield 84, 11, 32, 870, 0), (30, .iload 4, 0, 0, 0, 0), (32, .iaload, 0, 0, 0, 0), (33, .iload_n 1, 0, 0, 0, 0), (34, .if_icmp .ne 18, 0, 0, 0, 0), (37, .aload_n 0, 0, 0, 0, 0), (38, .getfield 90, 11, 34, 872, 0), (41, .iload 4, 0, 0, 0, 0), (43, .iaload, 0, 0, 0, 0), (44, .iload_n 2, 0, 0, 0, 0), (45, .if_icmp .ne 7, 0, 0, 0, 0), (48, .iconst 1, 0, 0, 0, 0), (49, .goto 4, 0, 0, 0, 0), (52, .iconst 0, 0, 0, 0, 0), (53, .iadd, 0, 0, 0, 0), (54, .istore_n 3, 0, 0, 0, 0), (55, .iinc 4 1, 0, 0, 0, 0), (58, .goto (-53), 0, 0, 0, 0), (61, .iload_n 3, 0, 0, 0, 0), (62, .ireturn, 0, 0, 0, 0)]
def am_t139 : List (Nat × am_R) := [(0, .iconst 0, 0, 0, 0, 0), (1, .istore_n 2, 0, 0, 0, 0), (2, .iconst 0, 0, 0, 0, 0), (3, .istore_n 3, 0, 0, 0, 0), (4, .iload_n 3, 0, 0, 0, 0), (5, .aload_n 0, 0, 0, 0, 0), (6, .getfield 126, 11, 3, 841, 0), (9, .if_icmp .ge 45, 0, 0, 0, 0), (12, .iload_n 2, 0, 0, 0, 0), (13, .aload_n 0, 0, 0, 0, 0), (14, .getfield 62, 11, 23, 861, 0), (17, .iload_n 1, 0, 0, 0, 0), (18, .iaload, 0, 0, 0, 0), (19, .iload_n 3, 0, 0, 0, 0), (20, .invokestatic 156, 115, 2, 1023, 0), (23, .ifCond .eq 22, 0, 0, 0, 0), (26, .aload_n 0, 0, 0, 0, 0), (27, .iload_n 1, 0, 0, 0, 0), (28, .iload_n 3, 0, 0, 0, 0), (29, .invokevirtual 207, 148, 2, 1122, 0), (32, .aload_n 0, 0, 0, 0, 0), (33, .getfield 65, 11, 24, 862, 0), (36, .iload_n 1, 0, 0, 0, 0), (37, .iaload, 0, 0, 0, 0), (38, .if_icmp .ge 7, 0, 0, 0, 0), (41, .iconst 1, 0, 0, 0, 0), (42, .goto 4, 0, 0, 0, 0), (45, .iconst 0, 0, 0, 0, 0), (46, .iadd, 0, 0, 0, 0), (47, .istore_n 2, 0, 0, 0, 0), (48, .iinc 3 1, 0, 0, 0, 0), (51, .goto (-47), 0, 0, 0, 0), (54, .iload_n 2, 0, 0, 0, 0), (55, .ireturn, 0, 0, 0, 0)]
def am_t140 : List (Nat × am_R) := [(0, .iload_n 2, 0, 0, 0, 0), (1, .tableswitch 89 0 5 #[39, 46, 53, 60, 67, 74], 0, 0, 0, 0), (40, .aload_n 0, 0, 0, 0, 0), (41, .getfield 56, 11, 21, 859, 0), (44, .iload_n 1, 0, 0, 0, 0), (45, .iaload, 0, 0, 0, 0), (46, .ireturn, 0, 0, 0, 0), (47, .aload_n 0, 0, 0, 0, 0), (48, .getfield 59, 11, 22, 860, 0), (51, .iload_n 1, 0, 0, 0, 0), (52, .iaload, 0, 0, 0, 0), (53, .ireturn, 0, 0, 0, 0), (54, .aload_n 0, 0, 0, 0, 0), (55, .getfield 62, 11, 23, 861, 0), (58, .iload_n 1, 0, 0, 0, 0), (59, .iaload, 0, 0, 0, 0), (60, .ireturn, 0, 0, 0, 0), (61, .aload_n 0, 0, 0, 0, 0), (62, .getfield 65, 11, 24, 862, 0), (65, .iload_n 1, 0, 0, 0, 0), (66, .iaload, 0, 0, 0, 0), (67, .ireturn, 0, 0, 0, 0), (68, .aload_n 0, 0, 0, 0, 0), (69, .getfield 71, 11, 26, 864, 0), (72, .iload_n 1, 0, 0, 0, 0), (73, .iaload, 0, 0, 0, 0), (74, .ireturn, 0, 0, 0, 0), (75, .aload_n 0, 0, 0, 0, 0), (76, .getfield 74, 11, 27, 865, 0), (79, .iload_n 1, 0, 0, 0, 0), (80, .baload, 0, 0, 0, 0), (81, .ifCond .eq 7, 0, 0, 0, 0), (84, .iconst 1, 0, 0, 0, 0), (85, .goto 4, 0, 0, 0, 0), (88, .iconst 0, 0, 0, 0, 0), (89, .ireturn, 0, 0, 0, 0), (90, .aload_n 0, 0, 0, 0, 0), (91, .iload_n 1, 0, 0, 0, 0), (92, .invokevirtual 210, 149, 1, 1118, 0), (95, .ifCond .ne 7, 0, 0, 0, 0), (98, .iconst 1, 0, 0, 0, 0), (99, .goto 4, 0, 0, 0, 0), (102, .iconst 0, 0, 0, 0, 0), (103, .ireturn, 0, 0, 0, 0)]
def am_t141 : List (Nat × am_R) := [(0, .aload_n 0, 0, 0, 0, 0), (1, .iload_n 1, 0, 0, 0, 0), (2, .invokevirtual 213, 145, 1, 1110, 0), (5, .ifCond .eq 22, 0, 0, 0, 0), (8, .iload_n 2, 0, 0, 0, 0), (9, .iconst 0, 0, 0, 0, 0), (10, .bipush 6, 0, 0, 0, 0), (12, .invokestatic 129, 113, 3, 985, 0), (15, .ifCond .eq 12, 0, 0, 0, 0), (18, .aload_n 0, 0, 0, 0, 0), (19, .iload_n 1, 0, 0, 0, 0), (20, .iload_n 2, 0, 0, 0, 0), (21, .invokevirtual 216, 150, 2, 1114, 0), (24, .goto 4, 0, 0, 0, 0), (27, .iconst (-1), 0, 0, 0, 0), (28, .ireturn, 0, 0, 0, 0)]
def am_t142 : List (Nat × am_R) := [(0, .aload_n 0, 0, 0, 0, 0), (1, .getfield 59, 11, 22, 860, 0), (4, .iload_n 1, 0, 0, 0, 0), (5, .iaload, 0, 0, 0, 0), (6, .aload_n 0, 0, 0, 0, 0), (7, .getfield 53, 11, 19, 857, 0), (10, .aload_n 0, 0, 0, 0, 0), (11, .getfield 56, 11, 21, 859, 0), (14, .iload_n 1, 0, 0, 0, 0), (15, .iaload, 0, 0, 0, 0), (16, .iaload, 0, 0, 0, 0), (17, .imul, 0, 0, 0, 0), (18, .aload_n 0, 0, 0, 0, 0), (19, .getfield 62, 11, 23, 861, 0), (22, .iload_n 1, 0, 0, 0, 0), (23, .iaload, 0, 0, 0, 0), (24, .invokestatic 219, 116, 1, 1134, 0), (27, .imul, 0, 0, 0, 0), (28, .aload_n 0, 0, 0, 0, 0), (29, .getfield 65, 11, 24, 862, 0), (32, .iload_n 1, 0, 0, 0, 0), (33, .iaload, 0, 0, 0, 0), (34, .imul, 0, 0, 0, 0), (35, .ireturn, 0, 0, 0, 0)]
def am_t143 : List (Nat × am_R) := [(0, .aload_n 0, 0, 0, 0, 0), (1, .getfield 56, 11, 21, 859, 0), (4, .iload_n 1, 0, 0, 0, 0), (5, .iaload, 0, 0, 0, 0), (6, .iconst 4, 0, 0, 0, 0), (7, .if_icmp .ne 55, 0, 0, 0, 0), (10, .aload_n 0, 0, 0, 0, 0), (11, .getfield 56, 11, 21, 859, 0), (14, .iload_n 2, 0, 0, 0, 0), (15, .iaload, 0, 0, 0, 0), (16, .iconst 5, 0, 0, 0, 0), (17, .if_icmp .ne 45, 0, 0, 0, 0), (20, .aload_n 0, 0, 0, 0, 0), (21, .getfield 74, 11, 27, 865, 0), (24, .iload_n 1, 0, 0, 0, 0), (25, .baload, 0, 0, 0, 0), (26, .ifCond .ne 36, 0, 0, 0, 0), (29, .aload_n 0, 0, 0, 0, 0), (30, .getfield 74, 11, 27, 865, 0), (33, .iload_n 2, 0, 0, 0, 0), (34, .baload, 0, 0, 0, 0), (35, .ifCond .ne 27, 0, 0, 0, 0), (38, .aload_n 0, 0, 0, 0, 0), (39, .getfield 68, 11, 25, 863, 0), (42, .iload_n 1, 0, 0, 0, 0), (43, .iaload, 0, 0, 0, 0), (44, .aload_n 0, 0, 0, 0, 0), (45, .getfield 68, 11, 25, 863, 0), (48, .iload_n 2, 0, 0, 0, 0), (49, .iaload, 0, 0, 0, 0), (50, .iand, 0, 0, 0, 0), (51, .invokestatic 219, 116, 1, 1134, 0), (54, .iload_n 3, 0, 0, 0, 0), (55, .if_icmp .lt 7, 0, 0, 0, 0), (58, .iconst 1, 0, 0, 0, 0), (59, .goto 4, 0, 0, 0, 0), (62, .iconst 0, 0, 0, 0, 0), (63, .ireturn, 0, 0, 0, 0)]
def am_t144_0 : List (Nat × am_R) := [(0, .aload_n 0, 0, 0, 0, 0), (1, .iload_n 1, 0, 0, 0, 0), (2, .invokevirtual 213, 145, 1, 1110, 0), (5, .ifCond .eq 12, 0, 0, 0, 0), (8, .iload_n 2, 0, 0, 0, 0), (9, .iconst 1, 0, 0, 0, 0), (10, .iconst 5, 0, 0, 0, 0), (11, .invokestatic 129, 113, 3, 985, 0), (14, .ifCond .ne 5, 0, 0, 0, 0), (17, .iconst (-1), 0, 0, 0, 0), (18, .ireturn, 0, 0, 0, 0), (19, .aload_n 0, 0, 0, 0, 0), (20, .getfield 56, 11, 21, 859, 0), (23, .iload_n 1, 0, 0, 0, 0), (24, .iaload, 0, 0, 0, 0), (25, .iload_n 2, 0, 0, 0, 0), (26, .invokestatic 204, 146, 2, 1103, 0), (29, .ifCond .ne 9, 0, 0, 0, 0), (32, .aload_n 0, 0, 0, 0, 0), (33, .iconst 3, 0, 0, 0, 0), (34, .invokevirtual 166, 114, 1, 1033, 0), (37, .ireturn, 0, 0, 0, 0), (38, .iconst 0, 0, 0, 0, 0), (39, .istore_n 3, 0, 0, 0, 0), (40, .iload_n 2, 0, 0, 0, 0), (41, .tableswitch 80 1 4 #[31, 37, 67, 73], 0, 0, 0, 0), (72, .aload_n 0, 0, 0, 0, 0), (73, .iload_n 1, 0, 0, 0, 0), (74, .invokevirtual 210, 149, 1, 1118, 0), (77, .ireturn, 0, 0, 0, 0), (78, .iconst 0, 0, 0, 0, 0), (79, .istore 4, 0, 0, 0, 0), (81, .iload 4, 0, 0, 0, 0), (83, .aload_n 0, 0, 0, 0, 0), (84, .getfield 126, 11, 3, 841, 0), (87, .if_icmp .ge 19, 0, 0, 0, 0), (90, .iload_n 3, 0, 0, 0, 0), (91, .aload_n 0, 0, 0, 0, 0), (92, .iload_n 1, 0, 0, 0, 0), (93, .iload 4, 0, 0, 0, 0), (95, .invokevirtual 207, 148, 2, 1122, 0), (98, .iadd, 0, 0, 0, 0), (99, .istore_n 3, 0, 0, 0, 0), (100, .iinc 4 1, 0, 0, 0, 0), (103, .goto (-22), 0, 0, 0, 0), (106, .iload_n 3, 0, 0, 0, 0), (107, .ireturn, 0, 0, 0, 0), (108, .aload_n 0, 0, 0, 0, 0), (109, .iload_n 1, 0, 0, 0, 0), (110, .invokevirtual 222, 152, 1, 1130, 0), (113, .ireturn, 0, 0, 0, 0), (114, .aload_n 0, 0, 0, 0, 0), (115, .getfield 68, 11, 25, 863, 0), (118, .iload_n 1, 0, 0, 0, 0), (119, .iaload, 0, 0, 0, 0), (120, .ireturn, 0, 0, 0, 0), (121, .iconst 0, 0, 0, 0, 0), (122, .istore 4, 0, 0, 0, 0), (124, .iload 4, 0, 0, 0, 0), (126, .aload_n 0, 0, 0, 0, 0)]
def am_t144_1 : List (Nat × am_R) := [(127, .getfield 197, 11, 20, 858, 0), (130, .if_icmp .ge 28, 0, 0, 0, 0), (133, .iload_n 3, 0, 0, 0, 0), (134, .aload_n 0, 0, 0, 0, 0), (135, .iload 4, 0, 0, 0, 0), (137, .iload_n 1, 0, 0, 0, 0), (138, .iconst 1, 0, 0, 0, 0), (139, .invokevirtual 225, 153, 3, 1137, 0), (142, .ifCond .eq 7, 0, 0, 0, 0), (145, .iconst 1, 0, 0, 0, 0), (146, .goto 4, 0, 0, 0, 0), (149, .iconst 0, 0, 0, 0, 0), (150, .iadd, 0, 0, 0, 0), (151, .istore_n 3, 0, 0, 0, 0), (152, .iinc 4 1, 0, 0, 0, 0), (155, .goto (-31), 0, 0, 0, 0), (158, .iload_n 3, 0, 0, 0, 0), (159, .ireturn, 0, 0, 0, 0)]
def am_t144 : List (Nat × am_R) := am_t144_0 ++ (am_t144_1)
def am_t145 : List (Nat × am_R) := [(0, .aload_n 0, 0, 0, 0, 0), (1, .iload_n 1, 0, 0, 0, 0), (2, .invokevirtual 213, 145, 1, 1110, 0), (5, .ifCond .eq 11, 0, 0, 0, 0), (8, .aload_n 0, 0, 0, 0, 0), (9, .iload_n 1, 0, 0, 0, 0), (10, .invokevirtual 222, 152, 1, 1130, 0), (13, .goto 4, 0, 0, 0, 0), (16, .iconst (-1), 0, 0, 0, 0), (17, .ireturn, 0, 0, 0, 0)]
def am_t146 : List (Nat × am_R) := [(0, .iconst 0, 0, 0, 0, 0), (1, .istore_n 1, 0, 0, 0, 0), (2, .iconst 0, 0, 0, 0, 0), (3, .istore_n 2, 0, 0, 0, 0), (4, .iconst 0, 0, 0, 0, 0), (5, .istore_n 3, 0, 0, 0, 0), (6, .iload_n 3, 0, 0, 0, 0), (7, .aload_n 0, 0, 0, 0, 0), (8, .getfield 197, 11, 20, 858, 0), (11, .if_icmp .ge 47, 0, 0, 0, 0), (14, .iload_n 1, 0, 0, 0, 0), (15, .aload_n 0, 0, 0, 0, 0), (16, .getfield 74, 11, 27, 865, 0), (19, .iload_n 3, 0, 0, 0, 0), (20, .baload, 0, 0, 0, 0), (21, .ifCond .eq 7, 0, 0, 0, 0), (24, .iconst 0, 0, 0, 0, 0), (25, .goto 4, 0, 0, 0, 0), (28, .iconst 1, 0, 0, 0, 0), (29, .iadd, 0, 0, 0, 0), (30, .istore_n 1, 0, 0, 0, 0), (31, .iload_n 2, 0, 0, 0, 0), (32, .aload_n 0, 0, 0, 0, 0), (33, .getfield 74, 11, 27, 865, 0), (36, .iload_n 3, 0, 0, 0, 0), (37, .baload, 0, 0, 0, 0), (38, .ifCond .eq 7, 0, 0, 0, 0), (41, .iconst 0, 0, 0, 0, 0), (42, .goto 8, 0, 0, 0, 0), (45, .aload_n 0, 0, 0, 0, 0), (46, .iload_n 3, 0, 0, 0, 0), (47, .invokevirtual 222, 152, 1, 1130, 0), (50, .iadd, 0, 0, 0, 0), (51, .istore_n 2, 0, 0, 0, 0), (52, .iinc 3 1, 0, 0, 0, 0), (55, .goto (-49), 0, 0, 0, 0), (58, .iload_n 1, 0, 0, 0, 0), (59, .ifCond .ne 11, 0, 0, 0, 0), (62, .aload_n 0, 0, 0, 0, 0), (63, .iconst 4, 0, 0, 0, 0), (64, .invokevirtual 166, 114, 1, 1033, 0), (67, .goto 6, 0, 0, 0, 0), (70, .iload_n 2, 0, 0, 0, 0), (71, .iload_n 1, 0, 0, 0, 0), (72, .idiv, 0, 0, 0, 0), (73, .ireturn, 0, 0, 0, 0)]
def am_t147 : List (Nat × am_R) := [(0, .aload_n 0, 0, 0, 0, 0), (1, .iload_n 1, 0, 0, 0, 0), (2, .invokevirtual 213, 145, 1, 1110, 0), (5, .ifCond .ne 5, 0, 0, 0, 0), (8, .iconst (-1), 0, 0, 0, 0), (9, .ireturn, 0, 0, 0, 0), (10, .aload_n 0, 0, 0, 0, 0), (11, .getfield 74, 11, 27, 865, 0), (14, .iload_n 1, 0, 0, 0, 0), (15, .baload, 0, 0, 0, 0), (16, .ifCond .ne 11, 0, 0, 0, 0), (19, .aload_n 0, 0, 0, 0, 0), (20, .iload_n 1, 0, 0, 0, 0), (21, .invokevirtual 210, 149, 1, 1118, 0), (24, .ifCond .ne 6, 0, 0, 0, 0), (27, .bipush (-4), 0, 0, 0, 0), (29, .ireturn, 0, 0, 0, 0), (30, .aload_n 0, 0, 0, 0, 0), (31, .getfield 74, 11, 27, 865, 0), (34, .iload_n 1, 0, 0, 0, 0), (35, .iconst 1, 0, 0, 0, 0), (36, .bastore, 0, 0, 0, 0), (37, .iconst 1, 0, 0, 0, 0), (38, .ireturn, 0, 0, 0, 0)]
def am_t148 : List (Nat × am_R) := [(0, .iload_n 1, 0, 0, 0, 0), (1, .iconst 0, 0, 0, 0, 0), (2, .aload_n 0, 0, 0, 0, 0), (3, .getfield 147, 11, 28, 866, 0), (6, .iconst 1, 0, 0, 0, 0), (7, .isub, 0, 0, 0, 0), (8, .invokestatic 129, 113, 3, 985, 0), (11, .ireturn, 0, 0, 0, 0)]
def am_t149 : List (Nat × am_R) := [(0, .aload_n 0, 0, 0, 0, 0), (1, .iload_n 1, 0, 0, 0, 0), (2, .invokevirtual 133, 117, 1, 992, 0), (5, .ifCond .ne 5, 0, 0, 0, 0), (8, .iconst (-1), 0, 0, 0, 0), (9, .ireturn, 0, 0, 0, 0), (10, .aload_n 0, 0, 0, 0, 0), (11, .getfield 147, 11, 28, 866, 0), (14, .bipush 6, 0, 0, 0, 0), (16, .if_icmp .ne 6, 0, 0, 0, 0), (19, .bipush (-2), 0, 0, 0, 0), (21, .ireturn, 0, 0, 0, 0), (22, .aload_n 0, 0, 0, 0, 0), (23, .getfield 78, 11, 29, 867, 0), (26, .aload_n 0, 0, 0, 0, 0), (27, .getfield 147, 11, 28, 866, 0), (30, .iload_n 1, 0, 0, 0, 0), (31, .iastore, 0, 0, 0, 0), (32, .aload_n 0, 0, 0, 0, 0), (33, .dup, 0, 0, 0, 0), (34, .getfield 147, 11, 28, 866, 0), (37, .iconst 1, 0, 0, 0, 0), (38, .iadd, 0, 0, 0, 0), (39, .putfield 147, 11, 28, 866, 0), (42, .aload_n 0, 0, 0, 0, 0), (43, .getfield 147, 11, 28, 866, 0), (46, .iconst 1, 0, 0, 0, 0), (47, .isub, 0, 0, 0, 0), (48, .ireturn, 0, 0, 0, 0)]
def am_t150 : List (Nat × am_R) := [(0, .aload_n 0, 0, 0, 0, 0), (1, .getfield 81, 11, 30, 868, 0), (4, .iload_n 1, 0, 0, 0, 0), (5, .iaload, 0, 0, 0, 0), (6, .aload_n 0, 0, 0, 0, 0), (7, .aload_n 0, 0, 0, 0, 0), (8, .getfield 78, 11, 29, 867, 0), (11, .iload_n 1, 0, 0, 0, 0), (12, .iaload, 0, 0, 0, 0), (13, .iload_n 2, 0, 0, 0, 0), (14, .invokevirtual 137, 119, 2, 996, 0), (17, .iadd, 0, 0, 0, 0), (18, .ireturn, 0, 0, 0, 0)]
def am_t151 : List (Nat × am_R) := [(0, .aload_n 0, 0, 0, 0, 0), (1, .iload_n 1, 0, 0, 0, 0), (2, .invokevirtual 228, 158, 1, 1161, 0), (5, .ifCond .eq 20, 0, 0, 0, 0), (8, .aload_n 0, 0, 0, 0, 0), (9, .iload_n 2, 0, 0, 0, 0), (10, .invokevirtual 133, 117, 1, 992, 0), (13, .ifCond .eq 12, 0, 0, 0, 0), (16, .aload_n 0, 0, 0, 0, 0), (17, .iload_n 1, 0, 0, 0, 0), (18, .iload_n 2, 0, 0, 0, 0), (19, .invokevirtual 231, 160, 2, 1165, 0), (22, .goto 4, 0, 0, 0, 0), (25, .iconst (-1), 0, 0, 0, 0), (26, .ireturn, 0, 0, 0, 0)]
def am_t152_0 : List (Nat × am_R) := [(0, .aload_n 0, 0, 0, 0, 0), (1, .getfield 62, 11, 23, 861, 0), (4, .iload_n 1, 0, 0, 0, 0), (5, .iaload, 0, 0, 0, 0), (6, .iload_n 2, 0, 0, 0, 0), (7, .invokestatic 156, 115, 2, 1023, 0), (10, .ifCond .eq 31, 0, 0, 0, 0), (13, .aload_n 0, 0, 0, 0, 0), (14, .getfield 74, 11, 27, 865, 0), (17, .iload_n 1, 0, 0, 0, 0), (18, .baload, 0, 0, 0, 0), (19, .ifCond .ne 22, 0, 0, 0, 0), (22, .aload_n 0, 0, 0, 0, 0), (23, .iload_n 1, 0, 0, 0, 0), (24, .iload_n 2, 0, 0, 0, 0), (25, .invokevirtual 207, 148, 2, 1122, 0), (28, .aload_n 0, 0, 0, 0, 0), (29, .getfield 65, 11, 24, 862, 0), (32, .iload_n 1, 0, 0, 0, 0), (33, .iaload, 0, 0, 0, 0), (34, .if_icmp .ge 7, 0, 0, 0, 0), (37, .iconst 1, 0, 0, 0, 0), (38, .goto 4, 0, 0, 0, 0), (41, .iconst 0, 0, 0, 0, 0), (42, .istore_n 3, 0, 0, 0, 0), (43, .iconst 0, 0, 0, 0, 0), (44, .istore 4, 0, 0, 0, 0), (46, .iload 4, 0, 0, 0, 0), (48, .aload_n 0, 0, 0, 0, 0), (49, .getfield 141, 11, 31, 869, 0), (52, .if_icmp .ge 66, 0, 0, 0, 0), (55, .iload_n 3, 0, 0, 0, 0), (56, .ifCond .eq 54, 0, 0, 0, 0), (59, .aload_n 0, 0, 0, 0, 0), (60, .getfield 99, 11, 37, 875, 0), (63, .iload 4, 0, 0, 0, 0), (65, .iaload, 0, 0, 0, 0), (66, .iconst 1, 0, 0, 0, 0), (67, .if_icmp .ne 39, 0, 0, 0, 0), (70, .aload_n 0, 0, 0, 0, 0), (71, .getfield 84, 11, 32, 870, 0), (74, .iload 4, 0, 0, 0, 0), (76, .iaload, 0, 0, 0, 0), (77, .iload_n 1, 0, 0, 0, 0), (78, .if_icmp .ne 28, 0, 0, 0, 0), (81, .aload_n 0, 0, 0, 0, 0), (82, .getfield 90, 11, 34, 872, 0), (85, .iload 4, 0, 0, 0, 0), (87, .iaload, 0, 0, 0, 0), (88, .iload_n 2, 0, 0, 0, 0), (89, .if_icmp .ne 17, 0, 0, 0, 0), (92, .aload_n 0, 0, 0, 0, 0), (93, .getfield 93, 11, 35, 873, 0), (96, .iload 4, 0, 0, 0, 0), (98, .iaload, 0, 0, 0, 0), (99, .aload_n 0, 0, 0, 0, 0), (100, .getfield 144, 11, 2, 840, 0), (103, .if_icmp .eq 7, 0, 0, 0, 0), (106, .iconst 1, 0, 0, 0, 0), (107, .goto 4, 0, 0, 0, 0)]
def am_t152_1 : List (Nat × am_R) := [(110, .iconst 0, 0, 0, 0, 0), (111, .istore_n 3, 0, 0, 0, 0), (112, .iinc 4 1, 0, 0, 0, 0), (115, .goto (-69), 0, 0, 0, 0), (118, .iload_n 3, 0, 0, 0, 0), (119, .ifCond .eq 36, 0, 0, 0, 0), (122, .aload_n 0, 0, 0, 0, 0), (123, .getfield 56, 11, 21, 859, 0), (126, .iload_n 1, 0, 0, 0, 0), (127, .iaload, 0, 0, 0, 0), (128, .iconst 1, 0, 0, 0, 0), (129, .invokestatic 204, 146, 2, 1103, 0), (132, .ifCond .eq 19, 0, 0, 0, 0), (135, .aload_n 0, 0, 0, 0, 0), (136, .iload_n 2, 0, 0, 0, 0), (137, .aload_n 0, 0, 0, 0, 0), (138, .getfield 144, 11, 2, 840, 0), (141, .aload_n 0, 0, 0, 0, 0), (142, .getfield 144, 11, 2, 840, 0), (145, .invokevirtual 160, 125, 3, 1019, 0), (148, .ifCond .eq 7, 0, 0, 0, 0), (151, .iconst 1, 0, 0, 0, 0), (152, .goto 4, 0, 0, 0, 0), (155, .iconst 0, 0, 0, 0, 0), (156, .ireturn, 0, 0, 0, 0)]
def am_t152 : List (Nat × am_R) := am_t152_0 ++ (am_t152_1)
def am_t153_0 : List (Nat × am_R) := [(0, .iconst 0, 0, 0, 0, 0), (1, .istore 4, 0, 0, 0, 0), (3, .iconst 0, 0, 0, 0, 0), (4, .istore 5, 0, 0, 0, 0), (6, .iload 5, 0, 0, 0, 0), (8, .aload_n 0, 0, 0, 0, 0), (9, .getfield 141, 11, 31, 869, 0), (12, .if_icmp .ge 105, 0, 0, 0, 0), (15, .aload_n 0, 0, 0, 0, 0), (16, .getfield 96, 11, 36, 874, 0), (19, .iload 5, 0, 0, 0, 0), (21, .iaload, 0, 0, 0, 0), (22, .iload_n 3, 0, 0, 0, 0), (23, .if_icmp .le 15, 0, 0, 0, 0), (26, .aload_n 0, 0, 0, 0, 0), (27, .getfield 96, 11, 36, 874, 0), (30, .iload 5, 0, 0, 0, 0), (32, .iaload, 0, 0, 0, 0), (33, .iload_n 3, 0, 0, 0, 0), (34, .isub, 0, 0, 0, 0), (35, .goto 12, 0, 0, 0, 0), (38, .iload_n 3, 0, 0, 0, 0), (39, .aload_n 0, 0, 0, 0, 0), (40, .getfield 96, 11, 36, 874, 0), (43, .iload 5, 0, 0, 0, 0), (45, .iaload, 0, 0, 0, 0), (46, .isub, 0, 0, 0, 0), (47, .istore 6, 0, 0, 0, 0), (49, .iload 4, 0, 0, 0, 0), (51, .ifCond .ne 53, 0, 0, 0, 0), (54, .aload_n 0, 0, 0, 0, 0), (55, .getfield 93, 11, 35, 873, 0), (58, .iload 5, 0, 0, 0, 0), (60, .iaload, 0, 0, 0, 0), (61, .aload_n 0, 0, 0, 0, 0), (62, .getfield 144, 11, 2, 840, 0), (65, .if_icmp .ne 43, 0, 0, 0, 0), (68, .aload_n 0, 0, 0, 0, 0), (69, .getfield 87, 11, 33, 871, 0), (72, .iload 5, 0, 0, 0, 0), (74, .iaload, 0, 0, 0, 0), (75, .iload_n 1, 0, 0, 0, 0), (76, .if_icmp .eq 32, 0, 0, 0, 0), (79, .iload 6, 0, 0, 0, 0), (81, .iconst 5, 0, 0, 0, 0), (82, .if_icmp .ge 26, 0, 0, 0, 0), (85, .aload_n 0, 0, 0, 0, 0), (86, .aload_n 0, 0, 0, 0, 0), (87, .getfield 90, 11, 34, 872, 0), (90, .iload 5, 0, 0, 0, 0), (92, .iaload, 0, 0, 0, 0), (93, .iload_n 2, 0, 0, 0, 0), (94, .invokevirtual 137, 119, 2, 996, 0), (97, .aload_n 0, 0, 0, 0, 0), (98, .getfield 22, 11, 7, 845, 0), (101, .if_icmp .gt 7, 0, 0, 0, 0), (104, .iconst 1, 0, 0, 0, 0), (105, .goto 4, 0, 0, 0, 0), (108, .iconst 0, 0, 0, 0, 0), (109, .istore 4, 0, 0, 0, 0)]
def am_t153_1 : List (Nat × am_R) := [(111, .iinc 5 1, 0, 0, 0, 0), (114, .goto (-108), 0, 0, 0, 0), (117, .iload 4, 0, 0, 0, 0), (119, .ireturn, 0, 0, 0, 0)]
def am_t153 : List (Nat × am_R) := am_t153_0 ++ (am_t153_1)
def am_t154_0 : List (Nat × am_R) := [(0, .aload_n 0, 0, 0, 0, 0), (1, .iload_n 1, 0, 0, 0, 0), (2, .invokevirtual 213, 145, 1, 1110, 0), (5, .ifCond .eq 31, 0, 0, 0, 0), (8, .aload_n 0, 0, 0, 0, 0), (9, .iload_n 2, 0, 0, 0, 0), (10, .invokevirtual 228, 158, 1, 1161, 0), (13, .ifCond .eq 23, 0, 0, 0, 0), (16, .aload_n 0, 0, 0, 0, 0), (17, .iload_n 3, 0, 0, 0, 0), (18, .invokevirtual 133, 117, 1, 992, 0), (21, .ifCond .eq 15, 0, 0, 0, 0), (24, .iload 4, 0, 0, 0, 0), (26, .iconst 0, 0, 0, 0, 0), (27, .sipush 1439, 0, 0, 0, 0), (30, .invokestatic 129, 113, 3, 985, 0), (33, .ifCond .ne 5, 0, 0, 0, 0), (36, .iconst (-1), 0, 0, 0, 0), (37, .ireturn, 0, 0, 0, 0), (38, .aload_n 0, 0, 0, 0, 0), (39, .getfield 141, 11, 31, 869, 0), (42, .sipush 400, 0, 0, 0, 0), (45, .if_icmp .ne 6, 0, 0, 0, 0), (48, .bipush (-2), 0, 0, 0, 0), (50, .ireturn, 0, 0, 0, 0), (51, .iload 4, 0, 0, 0, 0), (53, .aload_n 0, 0, 0, 0, 0), (54, .iload_n 2, 0, 0, 0, 0), (55, .iload_n 3, 0, 0, 0, 0), (56, .invokevirtual 231, 160, 2, 1165, 0), (59, .if_icmp .ge 6, 0, 0, 0, 0), (62, .bipush (-4), 0, 0, 0, 0), (64, .ireturn, 0, 0, 0, 0), (65, .aload_n 0, 0, 0, 0, 0), (66, .iload_n 2, 0, 0, 0, 0), (67, .iload_n 3, 0, 0, 0, 0), (68, .iload 4, 0, 0, 0, 0), (70, .invokevirtual 234, 163, 3, 1173, 0), (73, .ifCond .eq 6, 0, 0, 0, 0), (76, .bipush (-5), 0, 0, 0, 0), (78, .ireturn, 0, 0, 0, 0), (79, .aload_n 0, 0, 0, 0, 0), (80, .iload_n 1, 0, 0, 0, 0), (81, .iload_n 3, 0, 0, 0, 0), (82, .invokevirtual 237, 162, 2, 1177, 0), (85, .ifCond .eq 7, 0, 0, 0, 0), (88, .iconst 1, 0, 0, 0, 0), (89, .goto 4, 0, 0, 0, 0), (92, .iconst 0, 0, 0, 0, 0), (93, .istore 5, 0, 0, 0, 0), (95, .aload_n 0, 0, 0, 0, 0), (96, .getfield 84, 11, 32, 870, 0), (99, .aload_n 0, 0, 0, 0, 0), (100, .getfield 141, 11, 31, 869, 0), (103, .iload_n 1, 0, 0, 0, 0), (104, .iastore, 0, 0, 0, 0), (105, .aload_n 0, 0, 0, 0, 0), (106, .getfield 87, 11, 33, 871, 0), (109, .aload_n 0, 0, 0, 0, 0), (110, .getfield 141, 11, 31, 869, 0)]
def am_t154_1 : List (Nat × am_R) := [(113, .iload_n 2, 0, 0, 0, 0), (114, .iastore, 0, 0, 0, 0), (115, .aload_n 0, 0, 0, 0, 0), (116, .getfield 90, 11, 34, 872, 0), (119, .aload_n 0, 0, 0, 0, 0), (120, .getfield 141, 11, 31, 869, 0), (123, .iload_n 3, 0, 0, 0, 0), (124, .iastore, 0, 0, 0, 0), (125, .aload_n 0, 0, 0, 0, 0), (126, .getfield 93, 11, 35, 873, 0), (129, .aload_n 0, 0, 0, 0, 0), (130, .getfield 141, 11, 31, 869, 0), (133, .aload_n 0, 0, 0, 0, 0), (134, .getfield 144, 11, 2, 840, 0), (137, .iastore, 0, 0, 0, 0), (138, .aload_n 0, 0, 0, 0, 0), (139, .getfield 96, 11, 36, 874, 0), (142, .aload_n 0, 0, 0, 0, 0), (143, .getfield 141, 11, 31, 869, 0), (146, .iload 4, 0, 0, 0, 0), (148, .iastore, 0, 0, 0, 0), (149, .aload_n 0, 0, 0, 0, 0), (150, .getfield 99, 11, 37, 875, 0), (153, .aload_n 0, 0, 0, 0, 0), (154, .getfield 141, 11, 31, 869, 0), (157, .iload 5, 0, 0, 0, 0), (159, .iastore, 0, 0, 0, 0), (160, .aload_n 0, 0, 0, 0, 0), (161, .dup, 0, 0, 0, 0), (162, .getfield 141, 11, 31, 869, 0), (165, .iconst 1, 0, 0, 0, 0), (166, .iadd, 0, 0, 0, 0), (167, .putfield 141, 11, 31, 869, 0), (170, .aload_n 0, 0, 0, 0, 0), (171, .getfield 78, 11, 29, 867, 0), (174, .iload_n 2, 0, 0, 0, 0), (175, .iload_n 3, 0, 0, 0, 0), (176, .iastore, 0, 0, 0, 0), (177, .aload_n 0, 0, 0, 0, 0), (178, .getfield 81, 11, 30, 868, 0), (181, .iload_n 2, 0, 0, 0, 0), (182, .iload 4, 0, 0, 0, 0), (184, .aload_n 0, 0, 0, 0, 0), (185, .getfield 59, 11, 22, 860, 0), (188, .iload_n 1, 0, 0, 0, 0), (189, .iaload, 0, 0, 0, 0), (190, .bipush 9, 0, 0, 0, 0), (192, .iadd, 0, 0, 0, 0), (193, .bipush 10, 0, 0, 0, 0), (195, .idiv, 0, 0, 0, 0), (196, .iadd, 0, 0, 0, 0), (197, .iastore, 0, 0, 0, 0), (198, .iload 5, 0, 0, 0, 0), (200, .ireturn, 0, 0, 0, 0)]
def am_t154 : List (Nat × am_R) := am_t154_0 ++ (am_t154_1)
def am_t155 : List (Nat × am_R) := [(0, .aload_n 0, 0, 0, 0, 0), (1, .iload_n 1, 0, 0, 0, 0), (2, .invokevirtual 213, 145, 1, 1110, 0), (5, .ifCond .eq 20, 0, 0, 0, 0), (8, .aload_n 0, 0, 0, 0, 0), (9, .iload_n 2, 0, 0, 0, 0), (10, .invokevirtual 133, 117, 1, 992, 0), (13, .ifCond .eq 12, 0, 0, 0, 0), (16, .aload_n 0, 0, 0, 0, 0), (17, .iload_n 1, 0, 0, 0, 0), (18, .iload_n 2, 0, 0, 0, 0), (19, .invokevirtual 207, 148, 2, 1122, 0), (22, .goto 4, 0, 0, 0, 0), (25, .iconst (-1), 0, 0, 0, 0), (26, .ireturn, 0, 0, 0, 0)]
def am_t156 : List (Nat × am_R) := [(0, .iload_n 2, 0, 0, 0, 0), (1, .tableswitch 70 0 4 #[35, 42, 49, 56, 63], 0, 0, 0, 0), (36, .aload_n 0, 0, 0, 0, 0), (37, .getfield 84, 11, 32, 870, 0), (40, .iload_n 1, 0, 0, 0, 0), (41, .iaload, 0, 0, 0, 0), (42, .ireturn, 0, 0, 0, 0), (43, .aload_n 0, 0, 0, 0, 0), (44, .getfield 87, 11, 33, 871, 0), (47, .iload_n 1, 0, 0, 0, 0), (48, .iaload, 0, 0, 0, 0), (49, .ireturn, 0, 0, 0, 0), (50, .aload_n 0, 0, 0, 0, 0), (51, .getfield 90, 11, 34, 872, 0), (54, .iload_n 1, 0, 0, 0, 0), (55, .iaload, 0, 0, 0, 0), (56, .ireturn, 0, 0, 0, 0), (57, .aload_n 0, 0, 0, 0, 0), (58, .getfield 93, 11, 35, 873, 0), (61, .iload_n 1, 0, 0, 0, 0), (62, .iaload, 0, 0, 0, 0), (63, .ireturn, 0, 0, 0, 0), (64, .aload_n 0, 0, 0, 0, 0), (65, .getfield 96, 11, 36, 874, 0), (68, .iload_n 1, 0, 0, 0, 0), (69, .iaload, 0, 0, 0, 0), (70, .ireturn, 0, 0, 0, 0), (71, .aload_n 0, 0, 0, 0, 0), (72, .getfield 99, 11, 37, 875, 0), (75, .iload_n 1, 0, 0, 0, 0), (76, .iaload, 0, 0, 0, 0), (77, .ireturn, 0, 0, 0, 0)]
def am_t157 : List (Nat × am_R) := [(0, .iload_n 2, 0, 0, 0, 0), (1, .iconst 0, 0, 0, 0, 0), (2, .iconst 5, 0, 0, 0, 0), (3, .invokestatic 129, 113, 3, 985, 0), (6, .ifCond .ne 7, 0, 0, 0, 0), (9, .iconst (-1), 0, 0, 0, 0), (10, .goto 28, 0, 0, 0, 0), (13, .iload_n 1, 0, 0, 0, 0), (14, .iconst 0, 0, 0, 0, 0), (15, .aload_n 0, 0, 0, 0, 0), (16, .getfield 141, 11, 31, 869, 0), (19, .iconst 1, 0, 0, 0, 0), (20, .isub, 0, 0, 0, 0), (21, .invokestatic 129, 113, 3, 985, 0), (24, .ifCond .eq 12, 0, 0, 0, 0), (27, .aload_n 0, 0, 0, 0, 0), (28, .iload_n 1, 0, 0, 0, 0), (29, .iload_n 2, 0, 0, 0, 0), (30, .invokevirtual 240, 166, 2, 1189, 0), (33, .goto 5, 0, 0, 0, 0), (36, .bipush (-9), 0, 0, 0, 0), (38, .ireturn, 0, 0, 0, 0)]
def am_t158 : List (Nat × am_R) := [(0, .aload_n 0, 0, 0, 0, 0), (1, .iload_n 1, 0, 0, 0, 0), (2, .invokevirtual 133, 117, 1, 992, 0), (5, .ifCond .ne 5, 0, 0, 0, 0), (8, .iconst (-1), 0, 0, 0, 0), (9, .ireturn, 0, 0, 0, 0), (10, .iconst 0, 0, 0, 0, 0), (11, .istore_n 2, 0, 0, 0, 0), (12, .iconst 0, 0, 0, 0, 0), (13, .istore_n 3, 0, 0, 0, 0), (14, .iload_n 3, 0, 0, 0, 0), (15, .aload_n 0, 0, 0, 0, 0), (16, .getfield 197, 11, 20, 858, 0), (19, .if_icmp .ge 26, 0, 0, 0, 0), (22, .iload_n 2, 0, 0, 0, 0), (23, .aload_n 0, 0, 0, 0, 0), (24, .iload_n 3, 0, 0, 0, 0), (25, .iload_n 1, 0, 0, 0, 0), (26, .invokevirtual 237, 162, 2, 1177, 0), (29, .ifCond .eq 7, 0, 0, 0, 0), (32, .iconst 1, 0, 0, 0, 0), (33, .goto 4, 0, 0, 0, 0), (36, .iconst 0, 0, 0, 0, 0), (37, .iadd, 0, 0, 0, 0), (38, .istore_n 2, 0, 0, 0, 0), (39, .iinc 3 1, 0, 0, 0, 0), (42, .goto (-28), 0, 0, 0, 0), (45, .iload_n 2, 0, 0, 0, 0), (46, .ireturn, 0, 0, 0, 0)]
def am_t159 : List (Nat × am_R) := [(0, .aload_n 0, 0, 0, 0, 0), (1, .iload_n 1, 0, 0, 0, 0), (2, .invokevirtual 133, 117, 1, 992, 0), (5, .ifCond .ne 5, 0, 0, 0, 0), (8, .iconst (-1), 0, 0, 0, 0), (9, .ireturn, 0, 0, 0, 0), (10, .iload_n 2, 0, 0, 0, 0), (11, .istore_n 3, 0, 0, 0, 0), (12, .iconst 0, 0, 0, 0, 0), (13, .istore 4, 0, 0, 0, 0), (15, .iload 4, 0, 0, 0, 0), (17, .aload_n 0, 0, 0, 0, 0), (18, .getfield 197, 11, 20, 858, 0), (21, .if_icmp .ge 33, 0, 0, 0, 0), (24, .iload_n 3, 0, 0, 0, 0), (25, .ifCond .lt 29, 0, 0, 0, 0), (28, .aload_n 0, 0, 0, 0, 0), (29, .iload 4, 0, 0, 0, 0), (31, .iload_n 1, 0, 0, 0, 0), (32, .invokevirtual 237, 162, 2, 1177, 0), (35, .ifCond .eq 13, 0, 0, 0, 0), (38, .iload_n 3, 0, 0, 0, 0), (39, .ifCond .ne 6, 0, 0, 0, 0), (42, .iload 4, 0, 0, 0, 0), (44, .ireturn, 0, 0, 0, 0), (45, .iinc 3 (-1), 0, 0, 0, 0), (48, .iinc 4 1, 0, 0, 0, 0), (51, .goto (-36), 0, 0, 0, 0), (54, .bipush (-9), 0, 0, 0, 0), (56, .ireturn, 0, 0, 0, 0)]
def am_t160 : List (Nat × am_R) := [(0, .iload_n 0, 0, 0, 0, 0), (1, .iconst 0, 0, 0, 0, 0), (2, .bipush 9, 0, 0, 0, 0), (4, .invokestatic 129, 113, 3, 985, 0), (7, .ireturn, 0, 0, 0, 0)]
def am_t161_0 : List (Nat × am_R) := [(0, .iload_n 1, 0, 0, 0, 0), (1, .invokestatic 243, 170, 1, 1205, 0), (4, .ifCond .eq 34, 0, 0, 0, 0), (7, .aload_n 0, 0, 0, 0, 0), (8, .iload_n 2, 0, 0, 0, 0), (9, .invokevirtual 133, 117, 1, 992, 0), (12, .ifCond .eq 26, 0, 0, 0, 0), (15, .iload_n 3, 0, 0, 0, 0), (16, .iconst 0, 0, 0, 0, 0), (17, .sipush 1439, 0, 0, 0, 0), (20, .invokestatic 129, 113, 3, 985, 0), (23, .ifCond .eq 15, 0, 0, 0, 0), (26, .iload 4, 0, 0, 0, 0), (28, .iload_n 3, 0, 0, 0, 0), (29, .sipush 1439, 0, 0, 0, 0), (32, .invokestatic 129, 113, 3, 985, 0), (35, .ifCond .ne 5, 0, 0, 0, 0), (38, .iconst (-1), 0, 0, 0, 0), (39, .ireturn, 0, 0, 0, 0), (40, .aload_n 0, 0, 0, 0, 0), (41, .getfield 246, 11, 38, 876, 0), (44, .bipush 60, 0, 0, 0, 0), (46, .if_icmp .ne 6, 0, 0, 0, 0), (49, .bipush (-2), 0, 0, 0, 0), (51, .ireturn, 0, 0, 0, 0), (52, .aload_n 0, 0, 0, 0, 0), (53, .getfield 102, 11, 39, 877, 0), (56, .aload_n 0, 0, 0, 0, 0), (57, .getfield 246, 11, 38, 876, 0), (60, .iload_n 1, 0, 0, 0, 0), (61, .iastore, 0, 0, 0, 0), (62, .aload_n 0, 0, 0, 0, 0), (63, .getfield 105, 11, 40, 878, 0), (66, .aload_n 0, 0, 0, 0, 0), (67, .getfield 246, 11, 38, 876, 0), (70, .iload_n 2, 0, 0, 0, 0), (71, .iastore, 0, 0, 0, 0), (72, .aload_n 0, 0, 0, 0, 0), (73, .getfield 108, 11, 41, 879, 0), (76, .aload_n 0, 0, 0, 0, 0), (77, .getfield 246, 11, 38, 876, 0), (80, .aload_n 0, 0, 0, 0, 0), (81, .getfield 144, 11, 2, 840, 0), (84, .iastore, 0, 0, 0, 0), (85, .aload_n 0, 0, 0, 0, 0), (86, .getfield 111, 11, 42, 880, 0), (89, .aload_n 0, 0, 0, 0, 0), (90, .getfield 246, 11, 38, 876, 0), (93, .iload_n 3, 0, 0, 0, 0), (94, .iastore, 0, 0, 0, 0), (95, .aload_n 0, 0, 0, 0, 0), (96, .getfield 114, 11, 43, 881, 0), (99, .aload_n 0, 0, 0, 0, 0), (100, .getfield 246, 11, 38, 876, 0), (103, .iload 4, 0, 0, 0, 0), (105, .iastore, 0, 0, 0, 0), (106, .aload_n 0, 0, 0, 0, 0), (107, .dup, 0, 0, 0, 0), (108, .getfield 246, 11, 38, 876, 0), (111, .iconst 1, 0, 0, 0, 0)]
def am_t161_1 : List (Nat × am_R) := [(112, .iadd, 0, 0, 0, 0), (113, .putfield 246, 11, 38, 876, 0), (116, .aload_n 0, 0, 0, 0, 0), (117, .getfield 246, 11, 38, 876, 0), (120, .ireturn, 0, 0, 0, 0)]
def am_t161 : List (Nat × am_R) := am_t161_0 ++ (am_t161_1)
def am_t162 : List (Nat × am_R) := [(0, .iconst 0, 0, 0, 0, 0), (1, .istore_n 3, 0, 0, 0, 0), (2, .iconst 0, 0, 0, 0, 0), (3, .istore 4, 0, 0, 0, 0), (5, .iload 4, 0, 0, 0, 0), (7, .aload_n 0, 0, 0, 0, 0), (8, .getfield 246, 11, 38, 876, 0), (11, .if_icmp .ge 96, 0, 0, 0, 0), (14, .iload_n 3, 0, 0, 0, 0), (15, .ifCond .ne 80, 0, 0, 0, 0), (18, .aload_n 0, 0, 0, 0, 0), (19, .getfield 102, 11, 39, 877, 0), (22, .iload 4, 0, 0, 0, 0), (24, .iaload, 0, 0, 0, 0), (25, .iload_n 1, 0, 0, 0, 0), (26, .if_icmp .ne 73, 0, 0, 0, 0), (29, .aload_n 0, 0, 0, 0, 0), (30, .getfield 108, 11, 41, 879, 0), (33, .iload 4, 0, 0, 0, 0), (35, .iaload, 0, 0, 0, 0), (36, .aload_n 0, 0, 0, 0, 0), (37, .getfield 93, 11, 35, 873, 0), (40, .iload_n 2, 0, 0, 0, 0), (41, .iaload, 0, 0, 0, 0), (42, .if_icmp .ne 57, 0, 0, 0, 0), (45, .aload_n 0, 0, 0, 0, 0), (46, .getfield 96, 11, 36, 874, 0), (49, .iload_n 2, 0, 0, 0, 0), (50, .iaload, 0, 0, 0, 0), (51, .aload_n 0, 0, 0, 0, 0), (52, .getfield 111, 11, 42, 880, 0), (55, .iload 4, 0, 0, 0, 0), (57, .iaload, 0, 0, 0, 0), (58, .aload_n 0, 0, 0, 0, 0), (59, .getfield 114, 11, 43, 881, 0), (62, .iload 4, 0, 0, 0, 0), (64, .iaload, 0, 0, 0, 0), (65, .invokestatic 129, 113, 3, 985, 0), (68, .ifCond .eq 31, 0, 0, 0, 0), (71, .aload_n 0, 0, 0, 0, 0), (72, .aload_n 0, 0, 0, 0, 0), (73, .getfield 105, 11, 40, 878, 0), (76, .iload 4, 0, 0, 0, 0), (78, .iaload, 0, 0, 0, 0), (79, .aload_n 0, 0, 0, 0, 0), (80, .getfield 90, 11, 34, 872, 0), (83, .iload_n 2, 0, 0, 0, 0), (84, .iaload, 0, 0, 0, 0), (85, .invokevirtual 137, 119, 2, 996, 0), (88, .aload_n 0, 0, 0, 0, 0), (89, .getfield 22, 11, 7, 845, 0), (92, .if_icmp .gt 7, 0, 0, 0, 0), (95, .iconst 1, 0, 0, 0, 0), (96, .goto 4, 0, 0, 0, 0), (99, .iconst 0, 0, 0, 0, 0), (100, .istore_n 3, 0, 0, 0, 0), (101, .iinc 4 1, 0, 0, 0, 0), (104, .goto (-99), 0, 0, 0, 0), (107, .iload_n 3, 0, 0, 0, 0), (108, .ireturn, 0, 0, 0, 0)]
def am_t163 : List (Nat × am_R) := [(0, .iconst 0, 0, 0, 0, 0), (1, .istore_n 3, 0, 0, 0, 0), (2, .iconst 0, 0, 0, 0, 0), (3, .istore 4, 0, 0, 0, 0), (5, .iload 4, 0, 0, 0, 0), (7, .aload_n 0, 0, 0, 0, 0), (8, .getfield 141, 11, 31, 869, 0), (11, .if_icmp .ge 49, 0, 0, 0, 0), (14, .iload_n 3, 0, 0, 0, 0), (15, .aload_n 0, 0, 0, 0, 0), (16, .getfield 84, 11, 32, 870, 0), (19, .iload 4, 0, 0, 0, 0), (21, .iaload, 0, 0, 0, 0), (22, .iload_n 2, 0, 0, 0, 0), (23, .if_icmp .ne 28, 0, 0, 0, 0), (26, .aload_n 0, 0, 0, 0, 0), (27, .getfield 99, 11, 37, 875, 0), (30, .iload 4, 0, 0, 0, 0), (32, .iaload, 0, 0, 0, 0), (33, .iconst 1, 0, 0, 0, 0), (34, .if_icmp .ne 17, 0, 0, 0, 0), (37, .aload_n 0, 0, 0, 0, 0), (38, .iload_n 1, 0, 0, 0, 0), (39, .iload 4, 0, 0, 0, 0), (41, .invokevirtual 249, 172, 2, 1216, 0), (44, .ifCond .eq 7, 0, 0, 0, 0), (47, .iconst 1, 0, 0, 0, 0), (48, .goto 4, 0, 0, 0, 0), (51, .iconst 0, 0, 0, 0, 0), (52, .iadd, 0, 0, 0, 0), (53, .istore_n 3, 0, 0, 0, 0), (54, .iinc 4 1, 0, 0, 0, 0), (57, .goto (-52), 0, 0, 0, 0), (60, .iload_n 3, 0, 0, 0, 0), (61, .ireturn, 0, 0, 0, 0)]
def am_t164 : List (Nat × am_R) := [(0, .iload_n 1, 0, 0, 0, 0), (1, .invokestatic 243, 170, 1, 1205, 0), (4, .ifCond .eq 20, 0, 0, 0, 0), (7, .aload_n 0, 0, 0, 0, 0), (8, .iload_n 2, 0, 0, 0, 0), (9, .invokevirtual 213, 145, 1, 1110, 0), (12, .ifCond .eq 12, 0, 0, 0, 0), (15, .aload_n 0, 0, 0, 0, 0), (16, .iload_n 1, 0, 0, 0, 0), (17, .iload_n 2, 0, 0, 0, 0), (18, .invokevirtual 252, 173, 2, 1212, 0), (21, .goto 4, 0, 0, 0, 0), (24, .iconst (-1), 0, 0, 0, 0), (25, .ireturn, 0, 0, 0, 0)]
def am_t165 : List (Nat × am_R) := [(0, .aload_n 0, 0, 0, 0, 0), (1, .iload_n 1, 0, 0, 0, 0), (2, .invokevirtual 213, 145, 1, 1110, 0), (5, .ifCond .eq 13, 0, 0, 0, 0), (8, .iload_n 2, 0, 0, 0, 0), (9, .iconst 1, 0, 0, 0, 0), (10, .bipush 9, 0, 0, 0, 0), (12, .invokestatic 129, 113, 3, 985, 0), (15, .ifCond .ne 5, 0, 0, 0, 0), (18, .iconst (-1), 0, 0, 0, 0), (19, .ireturn, 0, 0, 0, 0), (20, .iconst 0, 0, 0, 0, 0), (21, .istore_n 3, 0, 0, 0, 0), (22, .iconst 0, 0, 0, 0, 0), (23, .istore 4, 0, 0, 0, 0), (25, .iload 4, 0, 0, 0, 0), (27, .bipush 10, 0, 0, 0, 0), (29, .if_icmp .ge 31, 0, 0, 0, 0), (32, .iload_n 3, 0, 0, 0, 0), (33, .aload_n 0, 0, 0, 0, 0), (34, .iload 4, 0, 0, 0, 0), (36, .iload_n 1, 0, 0, 0, 0), (37, .invokevirtual 252, 173, 2, 1212, 0), (40, .iload_n 2, 0, 0, 0, 0), (41, .if_icmp .lt 10, 0, 0, 0, 0), (44, .iconst 1, 0, 0, 0, 0), (45, .iload 4, 0, 0, 0, 0), (47, .ishl, 0, 0, 0, 0), (48, .goto 4, 0, 0, 0, 0), (51, .iconst 0, 0, 0, 0, 0), (52, .ior, 0, 0, 0, 0), (53, .istore_n 3, 0, 0, 0, 0), (54, .iinc 4 1, 0, 0, 0, 0), (57, .goto (-32), 0, 0, 0, 0), (60, .iload_n 3, 0, 0, 0, 0), (61, .ireturn, 0, 0, 0, 0)]
def am_t166_0 : List (Nat × am_R) := [(0, .iconst 0, 0, 0, 0, 0), (1, .istore_n 2, 0, 0, 0, 0), (2, .iload_n 2, 0, 0, 0, 0), (3, .aload_n 0, 0, 0, 0, 0), (4, .getfield 126, 11, 3, 841, 0), (7, .if_icmp .ge 106, 0, 0, 0, 0), (10, .iload_n 1, 0, 0, 0, 0), (11, .ifCond .ne 7, 0, 0, 0, 0), (14, .iconst 0, 0, 0, 0, 0), (15, .goto 5, 0, 0, 0, 0), (18, .ldc 255, 0, 0, 1232, 1000000), (20, .istore_n 3, 0, 0, 0, 0), (21, .iconst 0, 0, 0, 0, 0), (22, .istore 4, 0, 0, 0, 0), (24, .iload 4, 0, 0, 0, 0), (26, .aload_n 0, 0, 0, 0, 0), (27, .getfield 126, 11, 3, 841, 0), (30, .if_icmp .ge 65, 0, 0, 0, 0), (33, .iload_n 1, 0, 0, 0, 0), (34, .iload 4, 0, 0, 0, 0), (36, .invokestatic 156, 115, 2, 1023, 0), (39, .ifCond .eq 33, 0, 0, 0, 0), (42, .aload_n 0, 0, 0, 0, 0), (43, .iload_n 2, 0, 0, 0, 0), (44, .iload 4, 0, 0, 0, 0), (46, .invokevirtual 137, 119, 2, 996, 0), (49, .aload_n 0, 0, 0, 0, 0), (50, .getfield 117, 11, 44, 882, 0), (53, .bipush 10, 0, 0, 0, 0), (55, .iload_n 1, 0, 0, 0, 0), (56, .iconst 1, 0, 0, 0, 0), (57, .iload 4, 0, 0, 0, 0), (59, .ishl, 0, 0, 0, 0), (60, .iconst (-1), 0, 0, 0, 0), (61, .ixor, 0, 0, 0, 0), (62, .iand, 0, 0, 0, 0), (63, .imul, 0, 0, 0, 0), (64, .iload 4, 0, 0, 0, 0), (66, .iadd, 0, 0, 0, 0), (67, .iaload, 0, 0, 0, 0), (68, .iadd, 0, 0, 0, 0), (69, .goto 5, 0, 0, 0, 0), (72, .ldc 255, 0, 0, 1232, 1000000), (74, .istore 5, 0, 0, 0, 0), (76, .iload 5, 0, 0, 0, 0), (78, .iload_n 3, 0, 0, 0, 0), (79, .if_icmp .ge 8, 0, 0, 0, 0), (82, .iload 5, 0, 0, 0, 0), (84, .goto 4, 0, 0, 0, 0), (87, .iload_n 3, 0, 0, 0, 0), (88, .istore_n 3, 0, 0, 0, 0), (89, .iinc 4 1, 0, 0, 0, 0), (92, .goto (-68), 0, 0, 0, 0), (95, .aload_n 0, 0, 0, 0, 0), (96, .getfield 117, 11, 44, 882, 0), (99, .bipush 10, 0, 0, 0, 0), (101, .iload_n 1, 0, 0, 0, 0), (102, .imul, 0, 0, 0, 0), (103, .iload_n 2, 0, 0, 0, 0), (104, .iadd, 0, 0, 0, 0)]
def am_t166_1 : List (Nat × am_R) := [(105, .iload_n 3, 0, 0, 0, 0), (106, .iastore, 0, 0, 0, 0), (107, .iinc 2 1, 0, 0, 0, 0), (110, .goto (-108), 0, 0, 0, 0), (113, .return_, 0, 0, 0, 0)]
def am_t166 : List (Nat × am_R) := am_t166_0 ++ (am_t166_1)
def am_t167_0 : List (Nat × am_R) := [(0, .aload_n 0, 0, 0, 0, 0), (1, .iload_n 1, 0, 0, 0, 0), (2, .invokevirtual 228, 158, 1, 1161, 0), (5, .ifCond .eq 11, 0, 0, 0, 0), (8, .aload_n 0, 0, 0, 0, 0), (9, .iload_n 2, 0, 0, 0, 0), (10, .invokevirtual 200, 144, 1, 1098, 0), (13, .ifCond .ne 5, 0, 0, 0, 0), (16, .iconst (-1), 0, 0, 0, 0), (17, .ireturn, 0, 0, 0, 0), (18, .iconst 0, 0, 0, 0, 0), (19, .istore_n 3, 0, 0, 0, 0), (20, .iload_n 3, 0, 0, 0, 0), (21, .iload_n 2, 0, 0, 0, 0), (22, .if_icmp .gt 22, 0, 0, 0, 0), (25, .iload_n 3, 0, 0, 0, 0), (26, .iload_n 2, 0, 0, 0, 0), (27, .iconst (-1), 0, 0, 0, 0), (28, .ixor, 0, 0, 0, 0), (29, .iand, 0, 0, 0, 0), (30, .ifCond .ne 8, 0, 0, 0, 0), (33, .aload_n 0, 0, 0, 0, 0), (34, .iload_n 3, 0, 0, 0, 0), (35, .invokevirtual 256, 176, 1, 1228, 0), (38, .iinc 3 1, 0, 0, 0, 0), (41, .goto (-21), 0, 0, 0, 0), (44, .aload_n 0, 0, 0, 0, 0), (45, .getfield 78, 11, 29, 867, 0), (48, .iload_n 1, 0, 0, 0, 0), (49, .iaload, 0, 0, 0, 0), (50, .istore_n 3, 0, 0, 0, 0), (51, .aload_n 0, 0, 0, 0, 0), (52, .getfield 117, 11, 44, 882, 0), (55, .bipush 10, 0, 0, 0, 0), (57, .iload_n 2, 0, 0, 0, 0), (58, .imul, 0, 0, 0, 0), (59, .iload_n 3, 0, 0, 0, 0), (60, .iadd, 0, 0, 0, 0), (61, .iaload, 0, 0, 0, 0), (62, .istore 4, 0, 0, 0, 0), (64, .iload_n 2, 0, 0, 0, 0), (65, .istore 5, 0, 0, 0, 0), (67, .aload_n 0, 0, 0, 0, 0), (68, .iconst 0, 0, 0, 0, 0), (69, .putfield 260, 11, 45, 883, 0), (72, .iload 5, 0, 0, 0, 0), (74, .ifCond .eq 103, 0, 0, 0, 0), (77, .iconst 0, 0, 0, 0, 0), (78, .istore 6, 0, 0, 0, 0), (80, .iload 5, 0, 0, 0, 0), (82, .iload 6, 0, 0, 0, 0), (84, .invokestatic 156, 115, 2, 1023, 0), (87, .ifCond .eq 46, 0, 0, 0, 0), (90, .aload_n 0, 0, 0, 0, 0), (91, .iload_n 3, 0, 0, 0, 0), (92, .iload 6, 0, 0, 0, 0), (94, .invokevirtual 137, 119, 2, 996, 0), (97, .aload_n 0, 0, 0, 0, 0), (98, .getfield 117, 11, 44, 882, 0), (101, .bipush 10, 0, 0, 0, 0)]
def am_t167_1 : List (Nat × am_R) := [(103, .iload 5, 0, 0, 0, 0), (105, .iconst 1, 0, 0, 0, 0), (106, .iload 6, 0, 0, 0, 0), (108, .ishl, 0, 0, 0, 0), (109, .iconst (-1), 0, 0, 0, 0), (110, .ixor, 0, 0, 0, 0), (111, .iand, 0, 0, 0, 0), (112, .imul, 0, 0, 0, 0), (113, .iload 6, 0, 0, 0, 0), (115, .iadd, 0, 0, 0, 0), (116, .iaload, 0, 0, 0, 0), (117, .iadd, 0, 0, 0, 0), (118, .aload_n 0, 0, 0, 0, 0), (119, .getfield 117, 11, 44, 882, 0), (122, .bipush 10, 0, 0, 0, 0), (124, .iload 5, 0, 0, 0, 0), (126, .imul, 0, 0, 0, 0), (127, .iload_n 3, 0, 0, 0, 0), (128, .iadd, 0, 0, 0, 0), (129, .iaload, 0, 0, 0, 0), (130, .if_icmp .eq 9, 0, 0, 0, 0), (133, .iinc 6 1, 0, 0, 0, 0), (136, .goto (-56), 0, 0, 0, 0), (139, .aload_n 0, 0, 0, 0, 0), (140, .getfield 120, 11, 46, 884, 0), (143, .aload_n 0, 0, 0, 0, 0), (144, .getfield 260, 11, 45, 883, 0), (147, .iload 6, 0, 0, 0, 0), (149, .iastore, 0, 0, 0, 0), (150, .aload_n 0, 0, 0, 0, 0), (151, .dup, 0, 0, 0, 0), (152, .getfield 260, 11, 45, 883, 0), (155, .iconst 1, 0, 0, 0, 0), (156, .iadd, 0, 0, 0, 0), (157, .putfield 260, 11, 45, 883, 0), (160, .iload 5, 0, 0, 0, 0), (162, .iconst 1, 0, 0, 0, 0), (163, .iload 6, 0, 0, 0, 0), (165, .ishl, 0, 0, 0, 0), (166, .iconst (-1), 0, 0, 0, 0), (167, .ixor, 0, 0, 0, 0), (168, .iand, 0, 0, 0, 0), (169, .istore 5, 0, 0, 0, 0), (171, .iload 6, 0, 0, 0, 0), (173, .istore_n 3, 0, 0, 0, 0), (174, .goto (-102), 0, 0, 0, 0), (177, .iload 4, 0, 0, 0, 0), (179, .ireturn, 0, 0, 0, 0)]
def am_t167 : List (Nat × am_R) := am_t167_0 ++ (am_t167_1)
def am_t168 : List (Nat × am_R) := [(0, .iload_n 1, 0, 0, 0, 0), (1, .iconst 0, 0, 0, 0, 0), (2, .aload_n 0, 0, 0, 0, 0), (3, .getfield 260, 11, 45, 883, 0), (6, .iconst 1, 0, 0, 0, 0), (7, .isub, 0, 0, 0, 0), (8, .invokestatic 129, 113, 3, 985, 0), (11, .ifCond .eq 12, 0, 0, 0, 0), (14, .aload_n 0, 0, 0, 0, 0), (15, .getfield 120, 11, 46, 884, 0), (18, .iload_n 1, 0, 0, 0, 0), (19, .iaload, 0, 0, 0, 0), (20, .goto 5, 0, 0, 0, 0), (23, .bipush (-9), 0, 0, 0, 0), (25, .ireturn, 0, 0, 0, 0)]
def am_t169 : List (Nat × am_R) := [(0, .aload_n 0, 0, 0, 0, 0), (1, .iload_n 1, 0, 0, 0, 0), (2, .invokevirtual 213, 145, 1, 1110, 0), (5, .ifCond .eq 13, 0, 0, 0, 0), (8, .iload_n 2, 0, 0, 0, 0), (9, .iconst 1, 0, 0, 0, 0), (10, .bipush 16, 0, 0, 0, 0), (12, .invokestatic 129, 113, 3, 985, 0), (15, .ifCond .ne 5, 0, 0, 0, 0), (18, .iconst (-1), 0, 0, 0, 0), (19, .ireturn, 0, 0, 0, 0), (20, .aload_n 0, 0, 0, 0, 0), (21, .getfield 56, 11, 21, 859, 0), (24, .iload_n 1, 0, 0, 0, 0), (25, .iaload, 0, 0, 0, 0), (26, .iconst 4, 0, 0, 0, 0), (27, .if_icmp .eq 9, 0, 0, 0, 0), (30, .aload_n 0, 0, 0, 0, 0), (31, .iconst 3, 0, 0, 0, 0), (32, .invokevirtual 166, 114, 1, 1033, 0), (35, .ireturn, 0, 0, 0, 0), (36, .iload_n 3, 0, 0, 0, 0), (37, .istore 4, 0, 0, 0, 0), (39, .iconst 0, 0, 0, 0, 0), (40, .istore 5, 0, 0, 0, 0), (42, .iload 5, 0, 0, 0, 0), (44, .aload_n 0, 0, 0, 0, 0), (45, .getfield 197, 11, 20, 858, 0), (48, .if_icmp .ge 36, 0, 0, 0, 0), (51, .iload 4, 0, 0, 0, 0), (53, .ifCond .lt 31, 0, 0, 0, 0), (56, .aload_n 0, 0, 0, 0, 0), (57, .iload_n 1, 0, 0, 0, 0), (58, .iload 5, 0, 0, 0, 0), (60, .iload_n 2, 0, 0, 0, 0), (61, .invokevirtual 225, 153, 3, 1137, 0), (64, .ifCond .eq 14, 0, 0, 0, 0), (67, .iload 4, 0, 0, 0, 0), (69, .ifCond .ne 6, 0, 0, 0, 0), (72, .iload 5, 0, 0, 0, 0), (74, .ireturn, 0, 0, 0, 0), (75, .iinc 4 (-1), 0, 0, 0, 0), (78, .iinc 5 1, 0, 0, 0, 0), (81, .goto (-39), 0, 0, 0, 0), (84, .bipush (-9), 0, 0, 0, 0), (86, .ireturn, 0, 0, 0, 0)]
def am_t170 : List (Nat × am_R) := [(0, .iload_n 1, 0, 0, 0, 0), (1, .tableswitch 69 0 5 #[39, 44, 49, 54, 59, 64], 0, 0, 0, 0), (40, .aload_n 0, 0, 0, 0, 0), (41, .getfield 126, 11, 3, 841, 0), (44, .ireturn, 0, 0, 0, 0), (45, .aload_n 0, 0, 0, 0, 0), (46, .getfield 147, 11, 28, 866, 0), (49, .ireturn, 0, 0, 0, 0), (50, .aload_n 0, 0, 0, 0, 0), (51, .getfield 197, 11, 20, 858, 0), (54, .ireturn, 0, 0, 0, 0), (55, .aload_n 0, 0, 0, 0, 0), (56, .getfield 141, 11, 31, 869, 0), (59, .ireturn, 0, 0, 0, 0), (60, .aload_n 0, 0, 0, 0, 0), (61, .getfield 144, 11, 2, 840, 0), (64, .ireturn, 0, 0, 0, 0), (65, .aload_n 0, 0, 0, 0, 0), (66, .getfield 153, 11, 8, 846, 0), (69, .ireturn, 0, 0, 0, 0), (70, .aload_n 0, 0, 0, 0, 0), (71, .getfield 191, 11, 16, 854, 0), (74, .ireturn, 0, 0, 0, 0)]
def am_t171 : List (Nat × am_R) := [(0, .iload_n 1, 0, 0, 0, 0), (1, .iconst 0, 0, 0, 0, 0), (2, .bipush 6, 0, 0, 0, 0), (4, .invokestatic 129, 113, 3, 985, 0), (7, .ifCond .eq 11, 0, 0, 0, 0), (10, .aload_n 0, 0, 0, 0, 0), (11, .iload_n 1, 0, 0, 0, 0), (12, .invokevirtual 263, 180, 1, 1245, 0), (15, .goto 4, 0, 0, 0, 0), (18, .iconst (-1), 0, 0, 0, 0), (19, .ireturn, 0, 0, 0, 0)]
def am_t172 : List (Nat × am_R) := [(0, .aload_n 0, 0, 0, 0, 0), (1, .getfield 123, 11, 0, 838, 0), (4, .ireturn, 0, 0, 0, 0)]
def am_t173 : List (Nat × am_R) := [(0, .iload_n 1, 0, 0, 0, 0), (1, .iconst 1, 0, 0, 0, 0), (2, .iconst 5, 0, 0, 0, 0), (3, .invokestatic 129, 113, 3, 985, 0), (6, .ifCond .eq 12, 0, 0, 0, 0), (9, .aload_n 0, 0, 0, 0, 0), (10, .getfield 7, 11, 1, 839, 0), (13, .iload_n 1, 0, 0, 0, 0), (14, .iaload, 0, 0, 0, 0), (15, .goto 4, 0, 0, 0, 0), (18, .iconst (-1), 0, 0, 0, 0), (19, .ireturn, 0, 0, 0, 0)]
def am_t174_0 : List (Nat × am_R) := [(0, .ldc2_w 266, 0, 0, 1261, 17), (3, .lstore_n 1, 0, 0, 0, 0), (4, .iconst 0, 0, 0, 0, 0), (5, .istore_n 3, 0, 0, 0, 0), (6, .iload_n 3, 0, 0, 0, 0), (7, .bipush 6, 0, 0, 0, 0), (9, .if_icmp .gt 22, 0, 0, 0, 0), (12, .ldc2_w 268, 0, 0, 1262, 31), (15, .lload_n 1, 0, 0, 0, 0), (16, .lmul, 0, 0, 0, 0), (17, .aload_n 0, 0, 0, 0, 0), (18, .iload_n 3, 0, 0, 0, 0), (19, .invokevirtual 263, 180, 1, 1245, 0), (22, .i2l, 0, 0, 0, 0), (23, .ladd, 0, 0, 0, 0), (24, .lstore_n 1, 0, 0, 0, 0), (25, .iinc 3 1, 0, 0, 0, 0), (28, .goto (-22), 0, 0, 0, 0), (31, .iconst 0, 0, 0, 0, 0), (32, .istore_n 3, 0, 0, 0, 0), (33, .iload_n 3, 0, 0, 0, 0), (34, .aload_n 0, 0, 0, 0, 0), (35, .getfield 197, 11, 20, 858, 0), (38, .if_icmp .ge 40, 0, 0, 0, 0), (41, .iconst 0, 0, 0, 0, 0), (42, .istore 4, 0, 0, 0, 0), (44, .iload 4, 0, 0, 0, 0), (46, .bipush 6, 0, 0, 0, 0), (48, .if_icmp .gt 24, 0, 0, 0, 0), (51, .ldc2_w 268, 0, 0, 1262, 31), (54, .lload_n 1, 0, 0, 0, 0), (55, .lmul, 0, 0, 0, 0), (56, .aload_n 0, 0, 0, 0, 0), (57, .iload_n 3, 0, 0, 0, 0), (58, .iload 4, 0, 0, 0, 0), (60, .invokevirtual 216, 150, 2, 1114, 0), (63, .i2l, 0, 0, 0, 0), (64, .ladd, 0, 0, 0, 0), (65, .lstore_n 1, 0, 0, 0, 0), (66, .iinc 4 1, 0, 0, 0, 0), (69, .goto (-25), 0, 0, 0, 0), (72, .iinc 3 1, 0, 0, 0, 0), (75, .goto (-42), 0, 0, 0, 0), (78, .iconst 0, 0, 0, 0, 0), (79, .istore_n 3, 0, 0, 0, 0), (80, .iload_n 3, 0, 0, 0, 0), (81, .aload_n 0, 0, 0, 0, 0), (82, .getfield 141, 11, 31, 869, 0), (85, .if_icmp .ge 39, 0, 0, 0, 0), (88, .iconst 0, 0, 0, 0, 0), (89, .istore 4, 0, 0, 0, 0), (91, .iload 4, 0, 0, 0, 0), (93, .iconst 5, 0, 0, 0, 0), (94, .if_icmp .gt 24, 0, 0, 0, 0), (97, .ldc2_w 268, 0, 0, 1262, 31), (100, .lload_n 1, 0, 0, 0, 0), (101, .lmul, 0, 0, 0, 0), (102, .aload_n 0, 0, 0, 0, 0), (103, .iload_n 3, 0, 0, 0, 0), (104, .iload 4, 0, 0, 0, 0)]
def am_t174_1 : List (Nat × am_R) := [(106, .invokevirtual 240, 166, 2, 1189, 0), (109, .i2l, 0, 0, 0, 0), (110, .ladd, 0, 0, 0, 0), (111, .lstore_n 1, 0, 0, 0, 0), (112, .iinc 4 1, 0, 0, 0, 0), (115, .goto (-24), 0, 0, 0, 0), (118, .iinc 3 1, 0, 0, 0, 0), (121, .goto (-41), 0, 0, 0, 0), (124, .iconst 0, 0, 0, 0, 0), (125, .istore_n 3, 0, 0, 0, 0), (126, .iload_n 3, 0, 0, 0, 0), (127, .aload_n 0, 0, 0, 0, 0), (128, .getfield 147, 11, 28, 866, 0), (131, .if_icmp .ge 35, 0, 0, 0, 0), (134, .ldc2_w 268, 0, 0, 1262, 31), (137, .ldc2_w 268, 0, 0, 1262, 31), (140, .lload_n 1, 0, 0, 0, 0), (141, .lmul, 0, 0, 0, 0), (142, .aload_n 0, 0, 0, 0, 0), (143, .getfield 78, 11, 29, 867, 0), (146, .iload_n 3, 0, 0, 0, 0), (147, .iaload, 0, 0, 0, 0), (148, .i2l, 0, 0, 0, 0), (149, .ladd, 0, 0, 0, 0), (150, .lmul, 0, 0, 0, 0), (151, .aload_n 0, 0, 0, 0, 0), (152, .getfield 81, 11, 30, 868, 0), (155, .iload_n 3, 0, 0, 0, 0), (156, .iaload, 0, 0, 0, 0), (157, .i2l, 0, 0, 0, 0), (158, .ladd, 0, 0, 0, 0), (159, .lstore_n 1, 0, 0, 0, 0), (160, .iinc 3 1, 0, 0, 0, 0), (163, .goto (-37), 0, 0, 0, 0), (166, .iconst 0, 0, 0, 0, 0), (167, .istore_n 3, 0, 0, 0, 0), (168, .iload_n 3, 0, 0, 0, 0), (169, .iconst 4, 0, 0, 0, 0), (170, .if_icmp .ge 76, 0, 0, 0, 0), (173, .ldc2_w 268, 0, 0, 1262, 31), (176, .lload_n 1, 0, 0, 0, 0), (177, .lmul, 0, 0, 0, 0), (178, .aload_n 0, 0, 0, 0, 0), (179, .getfield 38, 11, 13, 851, 0), (182, .iload_n 3, 0, 0, 0, 0), (183, .iaload, 0, 0, 0, 0), (184, .ifCond .ge 7, 0, 0, 0, 0), (187, .iconst (-1), 0, 0, 0, 0), (188, .goto 9, 0, 0, 0, 0), (191, .aload_n 0, 0, 0, 0, 0), (192, .getfield 38, 11, 13, 851, 0), (195, .iload_n 3, 0, 0, 0, 0), (196, .iaload, 0, 0, 0, 0), (197, .i2l, 0, 0, 0, 0), (198, .ladd, 0, 0, 0, 0), (199, .lstore_n 1, 0, 0, 0, 0), (200, .iconst 0, 0, 0, 0, 0), (201, .istore 4, 0, 0, 0, 0), (203, .iload 4, 0, 0, 0, 0), (205, .aload_n 0, 0, 0, 0, 0)]
def am_t174_2 : List (Nat × am_R) := [(206, .getfield 38, 11, 13, 851, 0), (209, .iload_n 3, 0, 0, 0, 0), (210, .iaload, 0, 0, 0, 0), (211, .if_icmp .ge 29, 0, 0, 0, 0), (214, .ldc2_w 268, 0, 0, 1262, 31), (217, .lload_n 1, 0, 0, 0, 0), (218, .lmul, 0, 0, 0, 0), (219, .aload_n 0, 0, 0, 0, 0), (220, .getfield 41, 11, 14, 852, 0), (223, .bipush 80, 0, 0, 0, 0), (225, .iload_n 3, 0, 0, 0, 0), (226, .imul, 0, 0, 0, 0), (227, .iload 4, 0, 0, 0, 0), (229, .iadd, 0, 0, 0, 0), (230, .iaload, 0, 0, 0, 0), (231, .i2l, 0, 0, 0, 0), (232, .ladd, 0, 0, 0, 0), (233, .lstore_n 1, 0, 0, 0, 0), (234, .iinc 4 1, 0, 0, 0, 0), (237, .goto (-34), 0, 0, 0, 0), (240, .iinc 3 1, 0, 0, 0, 0), (243, .goto (-75), 0, 0, 0, 0), (246, .lload_n 1, 0, 0, 0, 0), (247, .lreturn, 0, 0, 0, 0)]
def am_t174 : List (Nat × am_R) := am_t174_0 ++ (am_t174_1 ++ (am_t174_2))
def am_t175 : List (Nat × am_R) := [(0, .iload_n 0, 0, 0, 0, 0), (1, .iload_n 0, 0, 0, 0, 0), (2, .iconst 1, 0, 0, 0, 0), (3, .iushr, 0, 0, 0, 0), (4, .ldc_w 265, 0, 0, 587, 1431655765), (7, .iand, 0, 0, 0, 0), (8, .isub, 0, 0, 0, 0), (9, .istore_n 0, 0, 0, 0, 0), (10, .iload_n 0, 0, 0, 0, 0), (11, .ldc_w 266, 0, 0, 588, 858993459), (14, .iand, 0, 0, 0, 0), (15, .iload_n 0, 0, 0, 0, 0), (16, .iconst 2, 0, 0, 0, 0), (17, .iushr, 0, 0, 0, 0), (18, .ldc_w 266, 0, 0, 588, 858993459), (21, .iand, 0, 0, 0, 0), (22, .iadd, 0, 0, 0, 0), (23, .istore_n 0, 0, 0, 0, 0), (24, .iload_n 0, 0, 0, 0, 0), (25, .iload_n 0, 0, 0, 0, 0), (26, .iconst 4, 0, 0, 0, 0), (27, .iushr, 0, 0, 0, 0), (28, .iadd, 0, 0, 0, 0), (29, .ldc_w 267, 0, 0, 589, 252645135), (32, .iand, 0, 0, 0, 0), (33, .istore_n 0, 0, 0, 0, 0), (34, .iload_n 0, 0, 0, 0, 0), (35, .iload_n 0, 0, 0, 0, 0), (36, .bipush 8, 0, 0, 0, 0), (38, .iushr, 0, 0, 0, 0), (39, .iadd, 0, 0, 0, 0), (40, .istore_n 0, 0, 0, 0, 0), (41, .iload_n 0, 0, 0, 0, 0), (42, .iload_n 0, 0, 0, 0, 0), (43, .bipush 16, 0, 0, 0, 0), (45, .iushr, 0, 0, 0, 0), (46, .iadd, 0, 0, 0, 0), (47, .istore_n 0, 0, 0, 0, 0), (48, .iload_n 0, 0, 0, 0, 0), (49, .bipush 63, 0, 0, 0, 0), (51, .iand, 0, 0, 0, 0), (52, .ireturn, 0, 0, 0, 0)]
def am_t176 : List (Nat × am_R) := [(0, .aload_n 0, 0, 0, 0, 0), (1, .invokespecial 1, 0, 0, 91, 0), (4, .return_, 0, 0, 0, 0)]
def am_t177 : List (Nat × am_R) := [(0, .aload_n 0, 0, 0, 0, 0), (1, .invokespecial 1, 186, 0, 88, 0), (4, .aload_n 0, 0, 0, 0, 0), (5, .iconst 0, 0, 0, 0, 0), (6, .putfield 7, 0, 0, 96, 0), (9, .return_, 0, 0, 0, 0)]
def am_t178 : List (Nat × am_R) := [(0, .aload_n 0, 0, 0, 0, 0), (1, .invokespecial 1, 187, 0, 85, 0), (4, .aload_n 0, 0, 0, 0, 0), (5, .getstatic 39, 0, 0, 92, 0), (8, .putfield 9, 0, 1, 94, 0), (11, .return_, 0, 0, 0, 0)]
def am_t179 : List (Nat × am_R) := [(0, .aload_n 0, 0, 0, 0, 0), (1, .getfield 9, 0, 1, 94, 0), (4, .arraylength, 0, 0, 0, 0), (5, .istore_n 2, 0, 0, 0, 0), (6, .iload_n 2, 0, 0, 0, 0), (7, .ifCond .gt 13, 0, 0, 0, 0), (10, .aload_n 0, 0, 0, 0, 0), (11, .getfield 9, 0, 1, 94, 0), (14, .getstatic 39, 0, 0, 92, 0), (17, .if_acmp .eq 28, 0, 0, 0, 0), (20, .iload_n 2, 0, 0, 0, 0), (21, .iload_n 1, 0, 0, 0, 0), (22, .iload_n 2, 0, 0, 0, 0), (23, .isub, 0, 0, 0, 0), (24, .iload_n 2, 0, 0, 0, 0), (25, .iconst 1, 0, 0, 0, 0), (26, .ishr, 0, 0, 0, 0), (27, .invokestatic 73, 202, 3, 251, 0), (30, .istore_n 3, 0, 0, 0, 0), (31, .aload_n 0, 0, 0, 0, 0), (32, .aload_n 0, 0, 0, 0, 0), (33, .getfield 9, 0, 1, 94, 0), (36, .iload_n 3, 0, 0, 0, 0), (37, .invokestatic 66, 199, 2, 261, 0), (40, .dup_x1, 0, 0, 0, 0), (41, .putfield 9, 0, 1, 94, 0), (44, .areturn, 0, 0, 0, 0), (45, .aload_n 0, 0, 0, 0, 0), (46, .bipush 10, 0, 0, 0, 0), (48, .iload_n 1, 0, 0, 0, 0), (49, .invokestatic 79, 5, 0, 292, 0), (52, .anewarray 7, 3, 0, 293, 0), (55, .dup_x1, 0, 0, 0, 0), (56, .putfield 9, 0, 1, 94, 0), (59, .areturn, 0, 0, 0, 0)]
def am_t180 : List (Nat × am_R) := [(0, .aload_n 0, 0, 0, 0, 0), (1, .aload_n 0, 0, 0, 0, 0), (2, .getfield 48, 0, 2, 95, 0), (5, .iconst 1, 0, 0, 0, 0), (6, .iadd, 0, 0, 0, 0), (7, .invokevirtual 69, 189, 1, 247, 0), (10, .areturn, 0, 0, 0, 0)]
def am_t181 : List (Nat × am_R) := [(0, .aload_n 0, 0, 0, 0, 0), (1, .getfield 48, 0, 2, 95, 0), (4, .ireturn, 0, 0, 0, 0)]
def am_t182 : List (Nat × am_R) := [(0, .aload_n 0, 0, 0, 0, 0), (1, .getfield 48, 0, 2, 95, 0), (4, .ifCond .ne 7, 0, 0, 0, 0), (7, .iconst 1, 0, 0, 0, 0), (8, .goto 4, 0, 0, 0, 0), (11, .iconst 0, 0, 0, 0, 0), (12, .ireturn, 0, 0, 0, 0)]
def am_t183 : List (Nat × am_R) := [(0, .aload_n 0, 0, 0, 0, 0), (1, .getfield 9, 0, 1, 94, 0), (4, .iload_n 1, 0, 0, 0, 0), (5, .aaload, 0, 0, 0, 0), (6, .areturn, 0, 0, 0, 0)]
def am_t184 : List (Nat × am_R) := [(0, .iload_n 1, 0, 0, 0, 0), (1, .aload_n 0, 0, 0, 0, 0), (2, .getfield 48, 0, 2, 95, 0), (5, .invokestatic 118, 201, 2, 310, 0), (8, .pop, 0, 0, 0, 0), (9, .aload_n 0, 0, 0, 0, 0), (10, .iload_n 1, 0, 0, 0, 0), (11, .invokevirtual 123, 193, 1, 316, 0), (14, .areturn, 0, 0, 0, 0)]
def am_t185 : List (Nat × am_R) := [(0, .iload_n 3, 0, 0, 0, 0), (1, .aload_n 2, 0, 0, 0, 0), (2, .arraylength, 0, 0, 0, 0), (3, .if_icmp .ne 8, 0, 0, 0, 0), (6, .aload_n 0, 0, 0, 0, 0), (7, .invokevirtual 129, 190, 0, 243, 0), (10, .astore_n 2, 0, 0, 0, 0), (11, .aload_n 2, 0, 0, 0, 0), (12, .iload_n 3, 0, 0, 0, 0), (13, .aload_n 1, 0, 0, 0, 0), (14, .aastore, 0, 0, 0, 0), (15, .aload_n 0, 0, 0, 0, 0), (16, .iload_n 3, 0, 0, 0, 0), (17, .iconst 1, 0, 0, 0, 0), (18, .iadd, 0, 0, 0, 0), (19, .putfield 48, 0, 2, 95, 0), (22, .return_, 0, 0, 0, 0)]
def am_t186 : List (Nat × am_R) := [(0, .aload_n 0, 0, 0, 0, 0), (1, .dup, 0, 0, 0, 0), (2, .getfield 63, 0, 0, 97, 2), (5, .iconst 1, 0, 0, 0, 0), (6, .iadd, 0, 0, 0, 0), (7, .putfield 63, 0, 0, 97, 2), (10, .aload_n 0, 0, 0, 0, 0), (11, .aload_n 1, 0, 0, 0, 0), (12, .aload_n 0, 0, 0, 0, 0), (13, .getfield 9, 0, 1, 94, 0), (16, .aload_n 0, 0, 0, 0, 0), (17, .getfield 48, 0, 2, 95, 0), (20, .invokevirtual 131, 195, 3, 239, 0), (23, .iconst 1, 0, 0, 0, 0), (24, .ireturn, 0, 0, 0, 0)]
def am_t187 : List (Nat × am_R) := [(0, .iconst 0, 0, 0, 0, 0), (1, .istore_n 2, 0, 0, 0, 0), (2, .aload_n 0, 0, 0, 0, 0), (3, .arraylength, 0, 0, 0, 0), (4, .istore_n 3, 0, 0, 0, 0), (5, .iload_n 2, 0, 0, 0, 0), (6, .iload_n 3, 0, 0, 0, 0), (7, .if_icmp .ge 13, 0, 0, 0, 0), (10, .aload_n 0, 0, 0, 0, 0), (11, .iload_n 2, 0, 0, 0, 0), (12, .iload_n 1, 0, 0, 0, 0), (13, .iastore, 0, 0, 0, 0), (14, .iinc 2 1, 0, 0, 0, 0), (17, .goto (-12), 0, 0, 0, 0), (20, .return_, 0, 0, 0, 0)]
def am_t188 : List (Nat × am_R) := [(0, .iconst 0, 0, 0, 0, 0), (1, .istore_n 2, 0, 0, 0, 0), (2, .aload_n 0, 0, 0, 0, 0), (3, .arraylength, 0, 0, 0, 0), (4, .istore_n 3, 0, 0, 0, 0), (5, .iload_n 2, 0, 0, 0, 0), (6, .iload_n 3, 0, 0, 0, 0), (7, .if_icmp .ge 13, 0, 0, 0, 0), (10, .aload_n 0, 0, 0, 0, 0), (11, .iload_n 2, 0, 0, 0, 0), (12, .iload_n 1, 0, 0, 0, 0), (13, .bastore, 0, 0, 0, 0), (14, .iinc 2 1, 0, 0, 0, 0), (17, .goto (-12), 0, 0, 0, 0), (20, .return_, 0, 0, 0, 0)]
def am_t189 : List (Nat × am_R) := [(0, .aload_n 0, 0, 0, 0, 0), (1, .iload_n 1, 0, 0, 0, 0), (2, .aload_n 0, 0, 0, 0, 0), (3, .invokevirtual 86, 1, 0, 264, 0), (6, .invokestatic 300, 200, 3, 280, 0), (9, .areturn, 0, 0, 0, 0)]
def am_t190 : List (Nat × am_R) := [(0, .aload_n 2, 0, 0, 0, 0), (1, .ldc 110, 1, 0, 283, 0), (3, .if_acmp .ne 10, 0, 0, 0, 0), (6, .iload_n 1, 0, 0, 0, 0), (7, .anewarray 2, 3, 0, 285, 0), (10, .goto 14, 0, 0, 0, 0), (13, .aload_n 2, 0, 0, 0, 0), (17, .iload_n 1, 0, 0, 0, 0), (24, .astore_n 3, 0, 0, 0, 0), (25, .aload_n 0, 0, 0, 0, 0), (26, .iconst 0, 0, 0, 0, 0), (27, .aload_n 3, 0, 0, 0, 0), (28, .iconst 0, 0, 0, 0, 0), (29, .aload_n 0, 0, 0, 0, 0), (30, .arraylength, 0, 0, 0, 0), (31, .iload_n 1, 0, 0, 0, 0), (32, .invokestatic 304, 6, 0, 286, 0), (35, .invokestatic 150, 2, 0, 289, 0), (38, .aload_n 3, 0, 0, 0, 0), (39, .areturn, 0, 0, 0, 0)]
def am_t191 : List (Nat × am_R) := [(0, .iload_n 0, 0, 0, 0, 0), (1, .iload_n 1, 0, 0, 0, 0), (2, .aconst_null, 0, 0, 0, 0), (3, .invokestatic 105, 204, 3, 313, 0), (6, .ireturn, 0, 0, 0, 0)]
def am_t192 : List (Nat × am_R) := [(0, .iload_n 0, 0, 0, 0, 0), (1, .iload_n 1, 0, 0, 0, 0), (2, .iload_n 2, 0, 0, 0, 0), (3, .invokestatic 194, 5, 0, 254, 0), (6, .iadd, 0, 0, 0, 0), (7, .istore_n 3, 0, 0, 0, 0), (8, .iconst 0, 0, 0, 0, 0), (9, .iload_n 3, 0, 0, 0, 0), (10, .if_icmp .ge 11, 0, 0, 0, 0), (13, .iload_n 3, 0, 0, 0, 0), (14, .ldc 200, 0, 0, 257, 2147483639), (16, .if_icmp .gt 5, 0, 0, 0, 0), (19, .iload_n 3, 0, 0, 0, 0), (20, .ireturn, 0, 0, 0, 0), (21, .iload_n 0, 0, 0, 0, 0), (22, .iload_n 1, 0, 0, 0, 0), (23, .invokestatic 201, 203, 2, 258, 0), (26, .ireturn, 0, 0, 0, 0)]
def am_t193 : List (Nat × am_R) := [(0, .iload_n 0, 0, 0, 0, 0), (1, .iload_n 1, 0, 0, 0, 0), (2, .iadd, 0, 0, 0, 0), (3, .istore_n 2, 0, 0, 0, 0), (4, .iload_n 2, 0, 0, 0, 0), (5, .ifCond .ge 44, 0, 0, 0, 0), (11, .dup, 0, 0, 0, 0), (15, .dup, 0, 0, 0, 0), (24, .iload_n 0, 0, 0, 0, 0), (33, .iload_n 1, 0, 0, 0, 0), (48, .athrow, 0, 0, 0, 0), (49, .iload_n 2, 0, 0, 0, 0), (50, .ldc 200, 0, 0, 257, 2147483639), (52, .if_icmp .gt 6, 0, 0, 0, 0), (55, .ldc 200, 0, 0, 257, 2147483639), (57, .ireturn, 0, 0, 0, 0), (58, .iload_n 2, 0, 0, 0, 0), (59, .ireturn, 0, 0, 0, 0)]
def am_t194 : List (Nat × am_R) := [(0, .iload_n 0, 0, 0, 0, 0), (1, .ifCond .lt 8, 0, 0, 0, 0), (4, .iload_n 0, 0, 0, 0, 0), (5, .iload_n 1, 0, 0, 0, 0), (6, .if_icmp .lt 10, 0, 0, 0, 0), (9, .aload_n 2, 0, 0, 0, 0), (10, .iload_n 0, 0, 0, 0, 0), (11, .iload_n 1, 0, 0, 0, 0), (15, .athrow, 0, 0, 0, 0), (16, .iload_n 0, 0, 0, 0, 0), (17, .ireturn, 0, 0, 0, 0)]
def am_t195_0 : List (Nat × am_R) := [(0, .new 7, 10, 73, 72, 51), (3, .dup, 0, 0, 0, 0), (4, .invokespecial 9, 49, 0, 74, 0), (7, .astore_n 1, 0, 0, 0, 0), (8, .new 10, 11, 833, 832, 59), (11, .dup, 0, 0, 0, 0), (12, .invokespecial 12, 112, 0, 834, 0), (15, .astore_n 2, 0, 0, 0, 0), (16, .iconst 0, 0, 0, 0, 0), (17, .istore_n 3, 0, 0, 0, 0), (18, .iload_n 3, 0, 0, 0, 0), (19, .aload_n 0, 0, 0, 0, 0), (20, .arraylength, 0, 0, 0, 0), (21, .bipush 6, 0, 0, 0, 0), (23, .isub, 0, 0, 0, 0), (24, .if_icmp .gt 1370, 0, 0, 0, 0), (27, .aload_n 0, 0, 0, 0, 0), (28, .iload_n 3, 0, 0, 0, 0), (29, .iaload, 0, 0, 0, 0), (30, .bipush 63, 0, 0, 0, 0), (32, .iand, 0, 0, 0, 0), (33, .tableswitch 1355 0 36 #[163, 206, 239, 262, 285, 338, 381, 414, 457, 480, 543, 566, 589, 612, 645, 708, 741, 774, 797, 810, 833, 856, 889, 942, 975, 1008, 1031, 1064, 1117, 1150, 1183, 1216, 1239, 1282, 1305, 1318, 1341], 0, 0, 0, 0), (196, .aload_n 1, 0, 0, 0, 0), (197, .aload_n 0, 0, 0, 0, 0), (198, .iload_n 3, 0, 0, 0, 0), (199, .iconst 1, 0, 0, 0, 0), (200, .iadd, 0, 0, 0, 0), (201, .iaload, 0, 0, 0, 0), (202, .aload_n 0, 0, 0, 0, 0), (203, .iload_n 3, 0, 0, 0, 0), (204, .iconst 2, 0, 0, 0, 0), (205, .iadd, 0, 0, 0, 0), (206, .iaload, 0, 0, 0, 0), (207, .aload_n 0, 0, 0, 0, 0), (208, .iload_n 3, 0, 0, 0, 0), (209, .iconst 3, 0, 0, 0, 0), (210, .iadd, 0, 0, 0, 0), (211, .iaload, 0, 0, 0, 0), (212, .invokevirtual 13, 50, 3, 208, 0), (215, .aload_n 2, 0, 0, 0, 0), (216, .aload_n 0, 0, 0, 0, 0), (217, .iload_n 3, 0, 0, 0, 0), (218, .iconst 1, 0, 0, 0, 0), (219, .iadd, 0, 0, 0, 0), (220, .iaload, 0, 0, 0, 0), (221, .aload_n 0, 0, 0, 0, 0), (222, .iload_n 3, 0, 0, 0, 0), (223, .iconst 2, 0, 0, 0, 0), (224, .iadd, 0, 0, 0, 0), (225, .iaload, 0, 0, 0, 0), (226, .aload_n 0, 0, 0, 0, 0), (227, .iload_n 3, 0, 0, 0, 0), (228, .iconst 3, 0, 0, 0, 0), (229, .iadd, 0, 0, 0, 0), (230, .iaload, 0, 0, 0, 0), (231, .invokevirtual 17, 118, 3, 981, 0), (234, .if_icmp .eq 1154, 0, 0, 0, 0), (237, .iconst 0, 0, 0, 0, 0), (238, .ireturn, 0, 0, 0, 0), (239, .aload_n 1, 0, 0, 0, 0)]
def am_t195_1 : List (Nat × am_R) := [(240, .aload_n 0, 0, 0, 0, 0), (241, .iload_n 3, 0, 0, 0, 0), (242, .iconst 1, 0, 0, 0, 0), (243, .iadd, 0, 0, 0, 0), (244, .iaload, 0, 0, 0, 0), (245, .aload_n 0, 0, 0, 0, 0), (246, .iload_n 3, 0, 0, 0, 0), (247, .iconst 2, 0, 0, 0, 0), (248, .iadd, 0, 0, 0, 0), (249, .iaload, 0, 0, 0, 0), (250, .invokevirtual 18, 51, 2, 294, 0), (253, .aload_n 2, 0, 0, 0, 0), (254, .aload_n 0, 0, 0, 0, 0), (255, .iload_n 3, 0, 0, 0, 0), (256, .iconst 1, 0, 0, 0, 0), (257, .iadd, 0, 0, 0, 0), (258, .iaload, 0, 0, 0, 0), (259, .aload_n 0, 0, 0, 0, 0), (260, .iload_n 3, 0, 0, 0, 0), (261, .iconst 2, 0, 0, 0, 0), (262, .iadd, 0, 0, 0, 0), (263, .iaload, 0, 0, 0, 0), (264, .invokevirtual 22, 120, 2, 988, 0), (267, .if_icmp .eq 1121, 0, 0, 0, 0), (270, .iconst 0, 0, 0, 0, 0), (271, .ireturn, 0, 0, 0, 0), (272, .aload_n 1, 0, 0, 0, 0), (273, .aload_n 0, 0, 0, 0, 0), (274, .iload_n 3, 0, 0, 0, 0), (275, .iconst 1, 0, 0, 0, 0), (276, .iadd, 0, 0, 0, 0), (277, .iaload, 0, 0, 0, 0), (278, .invokevirtual 23, 52, 1, 327, 0), (281, .aload_n 2, 0, 0, 0, 0), (282, .aload_n 0, 0, 0, 0, 0), (283, .iload_n 3, 0, 0, 0, 0), (284, .iconst 1, 0, 0, 0, 0), (285, .iadd, 0, 0, 0, 0), (286, .iaload, 0, 0, 0, 0), (287, .invokevirtual 27, 121, 1, 1000, 0), (290, .if_icmp .eq 1098, 0, 0, 0, 0), (293, .iconst 0, 0, 0, 0, 0), (294, .ireturn, 0, 0, 0, 0), (295, .aload_n 1, 0, 0, 0, 0), (296, .aload_n 0, 0, 0, 0, 0), (297, .iload_n 3, 0, 0, 0, 0), (298, .iconst 1, 0, 0, 0, 0), (299, .iadd, 0, 0, 0, 0), (300, .iaload, 0, 0, 0, 0), (301, .invokevirtual 28, 53, 1, 340, 0), (304, .aload_n 2, 0, 0, 0, 0), (305, .aload_n 0, 0, 0, 0, 0), (306, .iload_n 3, 0, 0, 0, 0), (307, .iconst 1, 0, 0, 0, 0), (308, .iadd, 0, 0, 0, 0), (309, .iaload, 0, 0, 0, 0), (310, .invokevirtual 31, 122, 1, 1004, 0), (313, .if_icmp .eq 1075, 0, 0, 0, 0), (316, .iconst 0, 0, 0, 0, 0), (317, .ireturn, 0, 0, 0, 0)]
def am_t195_2 : List (Nat × am_R) := [(318, .aload_n 1, 0, 0, 0, 0), (319, .aload_n 0, 0, 0, 0, 0), (320, .iload_n 3, 0, 0, 0, 0), (321, .iconst 1, 0, 0, 0, 0), (322, .iadd, 0, 0, 0, 0), (323, .iaload, 0, 0, 0, 0), (324, .aload_n 0, 0, 0, 0, 0), (325, .iload_n 3, 0, 0, 0, 0), (326, .iconst 2, 0, 0, 0, 0), (327, .iadd, 0, 0, 0, 0), (328, .iaload, 0, 0, 0, 0), (329, .aload_n 0, 0, 0, 0, 0), (330, .iload_n 3, 0, 0, 0, 0), (331, .iconst 3, 0, 0, 0, 0), (332, .iadd, 0, 0, 0, 0), (333, .iaload, 0, 0, 0, 0), (334, .aload_n 0, 0, 0, 0, 0), (335, .iload_n 3, 0, 0, 0, 0), (336, .iconst 4, 0, 0, 0, 0), (337, .iadd, 0, 0, 0, 0), (338, .iaload, 0, 0, 0, 0), (339, .invokevirtual 32, 54, 4, 345, 0), (342, .aload_n 2, 0, 0, 0, 0), (343, .aload_n 0, 0, 0, 0, 0), (344, .iload_n 3, 0, 0, 0, 0), (345, .iconst 1, 0, 0, 0, 0), (346, .iadd, 0, 0, 0, 0), (347, .iaload, 0, 0, 0, 0), (348, .aload_n 0, 0, 0, 0, 0), (349, .iload_n 3, 0, 0, 0, 0), (350, .iconst 2, 0, 0, 0, 0), (351, .iadd, 0, 0, 0, 0), (352, .iaload, 0, 0, 0, 0), (353, .aload_n 0, 0, 0, 0, 0), (354, .iload_n 3, 0, 0, 0, 0), (355, .iconst 3, 0, 0, 0, 0), (356, .iadd, 0, 0, 0, 0), (357, .iaload, 0, 0, 0, 0), (358, .aload_n 0, 0, 0, 0, 0), (359, .iload_n 3, 0, 0, 0, 0), (360, .iconst 4, 0, 0, 0, 0), (361, .iadd, 0, 0, 0, 0), (362, .iaload, 0, 0, 0, 0), (363, .invokevirtual 36, 124, 4, 1008, 0), (366, .if_icmp .eq 1022, 0, 0, 0, 0), (369, .iconst 0, 0, 0, 0, 0), (370, .ireturn, 0, 0, 0, 0), (371, .aload_n 1, 0, 0, 0, 0), (372, .aload_n 0, 0, 0, 0, 0), (373, .iload_n 3, 0, 0, 0, 0), (374, .iconst 1, 0, 0, 0, 0), (375, .iadd, 0, 0, 0, 0), (376, .iaload, 0, 0, 0, 0), (377, .aload_n 0, 0, 0, 0, 0), (378, .iload_n 3, 0, 0, 0, 0), (379, .iconst 2, 0, 0, 0, 0), (380, .iadd, 0, 0, 0, 0), (381, .iaload, 0, 0, 0, 0), (382, .aload_n 0, 0, 0, 0, 0), (383, .iload_n 3, 0, 0, 0, 0)]
def am_t195_3 : List (Nat × am_R) := [(384, .iconst 3, 0, 0, 0, 0), (385, .iadd, 0, 0, 0, 0), (386, .iaload, 0, 0, 0, 0), (387, .invokevirtual 37, 55, 3, 375, 0), (390, .aload_n 2, 0, 0, 0, 0), (391, .aload_n 0, 0, 0, 0, 0), (392, .iload_n 3, 0, 0, 0, 0), (393, .iconst 1, 0, 0, 0, 0), (394, .iadd, 0, 0, 0, 0), (395, .iaload, 0, 0, 0, 0), (396, .aload_n 0, 0, 0, 0, 0), (397, .iload_n 3, 0, 0, 0, 0), (398, .iconst 2, 0, 0, 0, 0), (399, .iadd, 0, 0, 0, 0), (400, .iaload, 0, 0, 0, 0), (401, .aload_n 0, 0, 0, 0, 0), (402, .iload_n 3, 0, 0, 0, 0), (403, .iconst 3, 0, 0, 0, 0), (404, .iadd, 0, 0, 0, 0), (405, .iaload, 0, 0, 0, 0), (406, .invokevirtual 40, 126, 3, 1015, 0), (409, .if_icmp .eq 979, 0, 0, 0, 0), (412, .iconst 0, 0, 0, 0, 0), (413, .ireturn, 0, 0, 0, 0), (414, .aload_n 1, 0, 0, 0, 0), (415, .aload_n 0, 0, 0, 0, 0), (416, .iload_n 3, 0, 0, 0, 0), (417, .iconst 1, 0, 0, 0, 0), (418, .iadd, 0, 0, 0, 0), (419, .iaload, 0, 0, 0, 0), (420, .aload_n 0, 0, 0, 0, 0), (421, .iload_n 3, 0, 0, 0, 0), (422, .iconst 2, 0, 0, 0, 0), (423, .iadd, 0, 0, 0, 0), (424, .iaload, 0, 0, 0, 0), (425, .invokevirtual 41, 56, 2, 390, 0), (428, .aload_n 2, 0, 0, 0, 0), (429, .aload_n 0, 0, 0, 0, 0), (430, .iload_n 3, 0, 0, 0, 0), (431, .iconst 1, 0, 0, 0, 0), (432, .iadd, 0, 0, 0, 0), (433, .iaload, 0, 0, 0, 0), (434, .aload_n 0, 0, 0, 0, 0), (435, .iload_n 3, 0, 0, 0, 0), (436, .iconst 2, 0, 0, 0, 0), (437, .iadd, 0, 0, 0, 0), (438, .iaload, 0, 0, 0, 0), (439, .invokevirtual 44, 129, 2, 1026, 0), (442, .if_icmp .eq 946, 0, 0, 0, 0), (445, .iconst 0, 0, 0, 0, 0), (446, .ireturn, 0, 0, 0, 0), (447, .aload_n 1, 0, 0, 0, 0), (448, .aload_n 0, 0, 0, 0, 0), (449, .iload_n 3, 0, 0, 0, 0), (450, .iconst 1, 0, 0, 0, 0), (451, .iadd, 0, 0, 0, 0), (452, .iaload, 0, 0, 0, 0), (453, .aload_n 0, 0, 0, 0, 0), (454, .iload_n 3, 0, 0, 0, 0), (455, .iconst 2, 0, 0, 0, 0)]
def am_t195_4 : List (Nat × am_R) := [(456, .iadd, 0, 0, 0, 0), (457, .iaload, 0, 0, 0, 0), (458, .aload_n 0, 0, 0, 0, 0), (459, .iload_n 3, 0, 0, 0, 0), (460, .iconst 3, 0, 0, 0, 0), (461, .iadd, 0, 0, 0, 0), (462, .iaload, 0, 0, 0, 0), (463, .invokevirtual 45, 57, 3, 408, 0), (466, .aload_n 2, 0, 0, 0, 0), (467, .aload_n 0, 0, 0, 0, 0), (468, .iload_n 3, 0, 0, 0, 0), (469, .iconst 1, 0, 0, 0, 0), (470, .iadd, 0, 0, 0, 0), (471, .iaload, 0, 0, 0, 0), (472, .aload_n 0, 0, 0, 0, 0), (473, .iload_n 3, 0, 0, 0, 0), (474, .iconst 2, 0, 0, 0, 0), (475, .iadd, 0, 0, 0, 0), (476, .iaload, 0, 0, 0, 0), (477, .aload_n 0, 0, 0, 0, 0), (478, .iload_n 3, 0, 0, 0, 0), (479, .iconst 3, 0, 0, 0, 0), (480, .iadd, 0, 0, 0, 0), (481, .iaload, 0, 0, 0, 0), (482, .invokevirtual 48, 130, 3, 1037, 0), (485, .if_icmp .eq 903, 0, 0, 0, 0), (488, .iconst 0, 0, 0, 0, 0), (489, .ireturn, 0, 0, 0, 0), (490, .aload_n 1, 0, 0, 0, 0), (491, .aload_n 0, 0, 0, 0, 0), (492, .iload_n 3, 0, 0, 0, 0), (493, .iconst 1, 0, 0, 0, 0), (494, .iadd, 0, 0, 0, 0), (495, .iaload, 0, 0, 0, 0), (496, .invokevirtual 49, 58, 1, 416, 0), (499, .aload_n 2, 0, 0, 0, 0), (500, .aload_n 0, 0, 0, 0, 0), (501, .iload_n 3, 0, 0, 0, 0), (502, .iconst 1, 0, 0, 0, 0), (503, .iadd, 0, 0, 0, 0), (504, .iaload, 0, 0, 0, 0), (505, .invokevirtual 52, 131, 1, 1045, 0), (508, .if_icmp .eq 880, 0, 0, 0, 0), (511, .iconst 0, 0, 0, 0, 0), (512, .ireturn, 0, 0, 0, 0), (513, .aload_n 1, 0, 0, 0, 0), (514, .aload_n 0, 0, 0, 0, 0), (515, .iload_n 3, 0, 0, 0, 0), (516, .iconst 1, 0, 0, 0, 0), (517, .iadd, 0, 0, 0, 0), (518, .iaload, 0, 0, 0, 0), (519, .aload_n 0, 0, 0, 0, 0), (520, .iload_n 3, 0, 0, 0, 0), (521, .iconst 2, 0, 0, 0, 0), (522, .iadd, 0, 0, 0, 0), (523, .iaload, 0, 0, 0, 0), (524, .aload_n 0, 0, 0, 0, 0), (525, .iload_n 3, 0, 0, 0, 0), (526, .iconst 3, 0, 0, 0, 0), (527, .iadd, 0, 0, 0, 0)]
def am_t195_5 : List (Nat × am_R) := [(528, .iaload, 0, 0, 0, 0), (529, .aload_n 0, 0, 0, 0, 0), (530, .iload_n 3, 0, 0, 0, 0), (531, .iconst 4, 0, 0, 0, 0), (532, .iadd, 0, 0, 0, 0), (533, .iaload, 0, 0, 0, 0), (534, .aload_n 0, 0, 0, 0, 0), (535, .iload_n 3, 0, 0, 0, 0), (536, .iconst 5, 0, 0, 0, 0), (537, .iadd, 0, 0, 0, 0), (538, .iaload, 0, 0, 0, 0), (539, .invokevirtual 53, 59, 5, 424, 0), (542, .aload_n 2, 0, 0, 0, 0), (543, .aload_n 0, 0, 0, 0, 0), (544, .iload_n 3, 0, 0, 0, 0), (545, .iconst 1, 0, 0, 0, 0), (546, .iadd, 0, 0, 0, 0), (547, .iaload, 0, 0, 0, 0), (548, .aload_n 0, 0, 0, 0, 0), (549, .iload_n 3, 0, 0, 0, 0), (550, .iconst 2, 0, 0, 0, 0), (551, .iadd, 0, 0, 0, 0), (552, .iaload, 0, 0, 0, 0), (553, .aload_n 0, 0, 0, 0, 0), (554, .iload_n 3, 0, 0, 0, 0), (555, .iconst 3, 0, 0, 0, 0), (556, .iadd, 0, 0, 0, 0), (557, .iaload, 0, 0, 0, 0), (558, .aload_n 0, 0, 0, 0, 0), (559, .iload_n 3, 0, 0, 0, 0), (560, .iconst 4, 0, 0, 0, 0), (561, .iadd, 0, 0, 0, 0), (562, .iaload, 0, 0, 0, 0), (563, .aload_n 0, 0, 0, 0, 0), (564, .iload_n 3, 0, 0, 0, 0), (565, .iconst 5, 0, 0, 0, 0), (566, .iadd, 0, 0, 0, 0), (567, .iaload, 0, 0, 0, 0), (568, .invokevirtual 57, 132, 5, 1049, 0), (571, .if_icmp .eq 817, 0, 0, 0, 0), (574, .iconst 0, 0, 0, 0, 0), (575, .ireturn, 0, 0, 0, 0), (576, .aload_n 1, 0, 0, 0, 0), (577, .aload_n 0, 0, 0, 0, 0), (578, .iload_n 3, 0, 0, 0, 0), (579, .iconst 1, 0, 0, 0, 0), (580, .iadd, 0, 0, 0, 0), (581, .iaload, 0, 0, 0, 0), (582, .invokevirtual 58, 60, 1, 433, 0), (585, .aload_n 2, 0, 0, 0, 0), (586, .aload_n 0, 0, 0, 0, 0), (587, .iload_n 3, 0, 0, 0, 0), (588, .iconst 1, 0, 0, 0, 0), (589, .iadd, 0, 0, 0, 0), (590, .iaload, 0, 0, 0, 0), (591, .invokevirtual 61, 139, 1, 1053, 0), (594, .if_icmp .eq 794, 0, 0, 0, 0), (597, .iconst 0, 0, 0, 0, 0), (598, .ireturn, 0, 0, 0, 0), (599, .aload_n 1, 0, 0, 0, 0)]
def am_t195_6 : List (Nat × am_R) := [(600, .aload_n 0, 0, 0, 0, 0), (601, .iload_n 3, 0, 0, 0, 0), (602, .iconst 1, 0, 0, 0, 0), (603, .iadd, 0, 0, 0, 0), (604, .iaload, 0, 0, 0, 0), (605, .invokevirtual 62, 61, 1, 455, 0), (608, .aload_n 2, 0, 0, 0, 0), (609, .aload_n 0, 0, 0, 0, 0), (610, .iload_n 3, 0, 0, 0, 0), (611, .iconst 1, 0, 0, 0, 0), (612, .iadd, 0, 0, 0, 0), (613, .iaload, 0, 0, 0, 0), (614, .invokevirtual 65, 140, 1, 1078, 0), (617, .if_icmp .eq 771, 0, 0, 0, 0), (620, .iconst 0, 0, 0, 0, 0), (621, .ireturn, 0, 0, 0, 0), (622, .aload_n 1, 0, 0, 0, 0), (623, .aload_n 0, 0, 0, 0, 0), (624, .iload_n 3, 0, 0, 0, 0), (625, .iconst 1, 0, 0, 0, 0), (626, .iadd, 0, 0, 0, 0), (627, .iaload, 0, 0, 0, 0), (628, .invokevirtual 66, 62, 1, 472, 0), (631, .aload_n 2, 0, 0, 0, 0), (632, .aload_n 0, 0, 0, 0, 0), (633, .iload_n 3, 0, 0, 0, 0), (634, .iconst 1, 0, 0, 0, 0), (635, .iadd, 0, 0, 0, 0), (636, .iaload, 0, 0, 0, 0), (637, .invokevirtual 69, 142, 1, 1082, 0), (640, .if_icmp .eq 748, 0, 0, 0, 0), (643, .iconst 0, 0, 0, 0, 0), (644, .ireturn, 0, 0, 0, 0), (645, .aload_n 1, 0, 0, 0, 0), (646, .aload_n 0, 0, 0, 0, 0), (647, .iload_n 3, 0, 0, 0, 0), (648, .iconst 1, 0, 0, 0, 0), (649, .iadd, 0, 0, 0, 0), (650, .iaload, 0, 0, 0, 0), (651, .aload_n 0, 0, 0, 0, 0), (652, .iload_n 3, 0, 0, 0, 0), (653, .iconst 2, 0, 0, 0, 0), (654, .iadd, 0, 0, 0, 0), (655, .iaload, 0, 0, 0, 0), (656, .invokevirtual 70, 63, 2, 488, 0), (659, .aload_n 2, 0, 0, 0, 0), (660, .aload_n 0, 0, 0, 0, 0), (661, .iload_n 3, 0, 0, 0, 0), (662, .iconst 1, 0, 0, 0, 0), (663, .iadd, 0, 0, 0, 0), (664, .iaload, 0, 0, 0, 0), (665, .aload_n 0, 0, 0, 0, 0), (666, .iload_n 3, 0, 0, 0, 0), (667, .iconst 2, 0, 0, 0, 0), (668, .iadd, 0, 0, 0, 0), (669, .iaload, 0, 0, 0, 0), (670, .invokevirtual 73, 143, 2, 1090, 0), (673, .if_icmp .eq 715, 0, 0, 0, 0), (676, .iconst 0, 0, 0, 0, 0), (677, .ireturn, 0, 0, 0, 0)]
def am_t195_7 : List (Nat × am_R) := [(678, .aload_n 1, 0, 0, 0, 0), (679, .aload_n 0, 0, 0, 0, 0), (680, .iload_n 3, 0, 0, 0, 0), (681, .iconst 1, 0, 0, 0, 0), (682, .iadd, 0, 0, 0, 0), (683, .iaload, 0, 0, 0, 0), (684, .aload_n 0, 0, 0, 0, 0), (685, .iload_n 3, 0, 0, 0, 0), (686, .iconst 2, 0, 0, 0, 0), (687, .iadd, 0, 0, 0, 0), (688, .iaload, 0, 0, 0, 0), (689, .aload_n 0, 0, 0, 0, 0), (690, .iload_n 3, 0, 0, 0, 0), (691, .iconst 3, 0, 0, 0, 0), (692, .iadd, 0, 0, 0, 0), (693, .iaload, 0, 0, 0, 0), (694, .aload_n 0, 0, 0, 0, 0), (695, .iload_n 3, 0, 0, 0, 0), (696, .iconst 4, 0, 0, 0, 0), (697, .iadd, 0, 0, 0, 0), (698, .iaload, 0, 0, 0, 0), (699, .aload_n 0, 0, 0, 0, 0), (700, .iload_n 3, 0, 0, 0, 0), (701, .iconst 5, 0, 0, 0, 0), (702, .iadd, 0, 0, 0, 0), (703, .iaload, 0, 0, 0, 0), (704, .invokevirtual 74, 64, 5, 495, 0), (707, .aload_n 2, 0, 0, 0, 0), (708, .aload_n 0, 0, 0, 0, 0), (709, .iload_n 3, 0, 0, 0, 0), (710, .iconst 1, 0, 0, 0, 0), (711, .iadd, 0, 0, 0, 0), (712, .iaload, 0, 0, 0, 0), (713, .aload_n 0, 0, 0, 0, 0), (714, .iload_n 3, 0, 0, 0, 0), (715, .iconst 2, 0, 0, 0, 0), (716, .iadd, 0, 0, 0, 0), (717, .iaload, 0, 0, 0, 0), (718, .aload_n 0, 0, 0, 0, 0), (719, .iload_n 3, 0, 0, 0, 0), (720, .iconst 3, 0, 0, 0, 0), (721, .iadd, 0, 0, 0, 0), (722, .iaload, 0, 0, 0, 0), (723, .aload_n 0, 0, 0, 0, 0), (724, .iload_n 3, 0, 0, 0, 0), (725, .iconst 4, 0, 0, 0, 0), (726, .iadd, 0, 0, 0, 0), (727, .iaload, 0, 0, 0, 0), (728, .aload_n 0, 0, 0, 0, 0), (729, .iload_n 3, 0, 0, 0, 0), (730, .iconst 5, 0, 0, 0, 0), (731, .iadd, 0, 0, 0, 0), (732, .iaload, 0, 0, 0, 0), (733, .invokevirtual 77, 147, 5, 1094, 0), (736, .if_icmp .eq 652, 0, 0, 0, 0), (739, .iconst 0, 0, 0, 0, 0), (740, .ireturn, 0, 0, 0, 0), (741, .aload_n 1, 0, 0, 0, 0), (742, .aload_n 0, 0, 0, 0, 0), (743, .iload_n 3, 0, 0, 0, 0)]
def am_t195_8 : List (Nat × am_R) := [(744, .iconst 1, 0, 0, 0, 0), (745, .iadd, 0, 0, 0, 0), (746, .iaload, 0, 0, 0, 0), (747, .aload_n 0, 0, 0, 0, 0), (748, .iload_n 3, 0, 0, 0, 0), (749, .iconst 2, 0, 0, 0, 0), (750, .iadd, 0, 0, 0, 0), (751, .iaload, 0, 0, 0, 0), (752, .invokevirtual 78, 65, 2, 551, 0), (755, .aload_n 2, 0, 0, 0, 0), (756, .aload_n 0, 0, 0, 0, 0), (757, .iload_n 3, 0, 0, 0, 0), (758, .iconst 1, 0, 0, 0, 0), (759, .iadd, 0, 0, 0, 0), (760, .iaload, 0, 0, 0, 0), (761, .aload_n 0, 0, 0, 0, 0), (762, .iload_n 3, 0, 0, 0, 0), (763, .iconst 2, 0, 0, 0, 0), (764, .iadd, 0, 0, 0, 0), (765, .iaload, 0, 0, 0, 0), (766, .invokevirtual 81, 151, 2, 1106, 0), (769, .if_icmp .eq 619, 0, 0, 0, 0), (772, .iconst 0, 0, 0, 0, 0), (773, .ireturn, 0, 0, 0, 0), (774, .aload_n 1, 0, 0, 0, 0), (775, .aload_n 0, 0, 0, 0, 0), (776, .iload_n 3, 0, 0, 0, 0), (777, .iconst 1, 0, 0, 0, 0), (778, .iadd, 0, 0, 0, 0), (779, .iaload, 0, 0, 0, 0), (780, .aload_n 0, 0, 0, 0, 0), (781, .iload_n 3, 0, 0, 0, 0), (782, .iconst 2, 0, 0, 0, 0), (783, .iadd, 0, 0, 0, 0), (784, .iaload, 0, 0, 0, 0), (785, .invokevirtual 82, 66, 2, 571, 0), (788, .aload_n 2, 0, 0, 0, 0), (789, .aload_n 0, 0, 0, 0, 0), (790, .iload_n 3, 0, 0, 0, 0), (791, .iconst 1, 0, 0, 0, 0), (792, .iadd, 0, 0, 0, 0), (793, .iaload, 0, 0, 0, 0), (794, .aload_n 0, 0, 0, 0, 0), (795, .iload_n 3, 0, 0, 0, 0), (796, .iconst 2, 0, 0, 0, 0), (797, .iadd, 0, 0, 0, 0), (798, .iaload, 0, 0, 0, 0), (799, .invokevirtual 85, 154, 2, 1126, 0), (802, .if_icmp .eq 586, 0, 0, 0, 0), (805, .iconst 0, 0, 0, 0, 0), (806, .ireturn, 0, 0, 0, 0), (807, .aload_n 1, 0, 0, 0, 0), (808, .aload_n 0, 0, 0, 0, 0), (809, .iload_n 3, 0, 0, 0, 0), (810, .iconst 1, 0, 0, 0, 0), (811, .iadd, 0, 0, 0, 0), (812, .iaload, 0, 0, 0, 0), (813, .invokevirtual 86, 67, 1, 597, 0), (816, .aload_n 2, 0, 0, 0, 0), (817, .aload_n 0, 0, 0, 0, 0)]
def am_t195_9 : List (Nat × am_R) := [(818, .iload_n 3, 0, 0, 0, 0), (819, .iconst 1, 0, 0, 0, 0), (820, .iadd, 0, 0, 0, 0), (821, .iaload, 0, 0, 0, 0), (822, .invokevirtual 89, 155, 1, 1141, 0), (825, .if_icmp .eq 563, 0, 0, 0, 0), (828, .iconst 0, 0, 0, 0, 0), (829, .ireturn, 0, 0, 0, 0), (830, .aload_n 1, 0, 0, 0, 0), (831, .invokevirtual 90, 68, 0, 601, 0), (834, .aload_n 2, 0, 0, 0, 0), (835, .invokevirtual 94, 156, 0, 1145, 0), (838, .if_icmp .eq 550, 0, 0, 0, 0), (841, .iconst 0, 0, 0, 0, 0), (842, .ireturn, 0, 0, 0, 0), (843, .aload_n 1, 0, 0, 0, 0), (844, .aload_n 0, 0, 0, 0, 0), (845, .iload_n 3, 0, 0, 0, 0), (846, .iconst 1, 0, 0, 0, 0), (847, .iadd, 0, 0, 0, 0), (848, .iaload, 0, 0, 0, 0), (849, .invokevirtual 95, 69, 1, 605, 0), (852, .aload_n 2, 0, 0, 0, 0), (853, .aload_n 0, 0, 0, 0, 0), (854, .iload_n 3, 0, 0, 0, 0), (855, .iconst 1, 0, 0, 0, 0), (856, .iadd, 0, 0, 0, 0), (857, .iaload, 0, 0, 0, 0), (858, .invokevirtual 98, 157, 1, 1149, 0), (861, .if_icmp .eq 527, 0, 0, 0, 0), (864, .iconst 0, 0, 0, 0, 0), (865, .ireturn, 0, 0, 0, 0), (866, .aload_n 1, 0, 0, 0, 0), (867, .aload_n 0, 0, 0, 0, 0), (868, .iload_n 3, 0, 0, 0, 0), (869, .iconst 1, 0, 0, 0, 0), (870, .iadd, 0, 0, 0, 0), (871, .iaload, 0, 0, 0, 0), (872, .invokevirtual 99, 70, 1, 609, 0), (875, .aload_n 2, 0, 0, 0, 0), (876, .aload_n 0, 0, 0, 0, 0), (877, .iload_n 3, 0, 0, 0, 0), (878, .iconst 1, 0, 0, 0, 0), (879, .iadd, 0, 0, 0, 0), (880, .iaload, 0, 0, 0, 0), (881, .invokevirtual 102, 159, 1, 1153, 0), (884, .if_icmp .eq 504, 0, 0, 0, 0), (887, .iconst 0, 0, 0, 0, 0), (888, .ireturn, 0, 0, 0, 0), (889, .aload_n 1, 0, 0, 0, 0), (890, .aload_n 0, 0, 0, 0, 0), (891, .iload_n 3, 0, 0, 0, 0), (892, .iconst 1, 0, 0, 0, 0), (893, .iadd, 0, 0, 0, 0), (894, .iaload, 0, 0, 0, 0), (895, .aload_n 0, 0, 0, 0, 0), (896, .iload_n 3, 0, 0, 0, 0), (897, .iconst 2, 0, 0, 0, 0), (898, .iadd, 0, 0, 0, 0), (899, .iaload, 0, 0, 0, 0)]
def am_t195_10 : List (Nat × am_R) := [(900, .invokevirtual 103, 71, 2, 627, 0), (903, .aload_n 2, 0, 0, 0, 0), (904, .aload_n 0, 0, 0, 0, 0), (905, .iload_n 3, 0, 0, 0, 0), (906, .iconst 1, 0, 0, 0, 0), (907, .iadd, 0, 0, 0, 0), (908, .iaload, 0, 0, 0, 0), (909, .aload_n 0, 0, 0, 0, 0), (910, .iload_n 3, 0, 0, 0, 0), (911, .iconst 2, 0, 0, 0, 0), (912, .iadd, 0, 0, 0, 0), (913, .iaload, 0, 0, 0, 0), (914, .invokevirtual 106, 161, 2, 1157, 0), (917, .if_icmp .eq 471, 0, 0, 0, 0), (920, .iconst 0, 0, 0, 0, 0), (921, .ireturn, 0, 0, 0, 0), (922, .aload_n 1, 0, 0, 0, 0), (923, .aload_n 0, 0, 0, 0, 0), (924, .iload_n 3, 0, 0, 0, 0), (925, .iconst 1, 0, 0, 0, 0), (926, .iadd, 0, 0, 0, 0), (927, .iaload, 0, 0, 0, 0), (928, .aload_n 0, 0, 0, 0, 0), (929, .iload_n 3, 0, 0, 0, 0), (930, .iconst 2, 0, 0, 0, 0), (931, .iadd, 0, 0, 0, 0), (932, .iaload, 0, 0, 0, 0), (933, .aload_n 0, 0, 0, 0, 0), (934, .iload_n 3, 0, 0, 0, 0), (935, .iconst 3, 0, 0, 0, 0), (936, .iadd, 0, 0, 0, 0), (937, .iaload, 0, 0, 0, 0), (938, .aload_n 0, 0, 0, 0, 0), (939, .iload_n 3, 0, 0, 0, 0), (940, .iconst 4, 0, 0, 0, 0), (941, .iadd, 0, 0, 0, 0), (942, .iaload, 0, 0, 0, 0), (943, .invokevirtual 107, 72, 4, 639, 0), (946, .aload_n 2, 0, 0, 0, 0), (947, .aload_n 0, 0, 0, 0, 0), (948, .iload_n 3, 0, 0, 0, 0), (949, .iconst 1, 0, 0, 0, 0), (950, .iadd, 0, 0, 0, 0), (951, .iaload, 0, 0, 0, 0), (952, .aload_n 0, 0, 0, 0, 0), (953, .iload_n 3, 0, 0, 0, 0), (954, .iconst 2, 0, 0, 0, 0), (955, .iadd, 0, 0, 0, 0), (956, .iaload, 0, 0, 0, 0), (957, .aload_n 0, 0, 0, 0, 0), (958, .iload_n 3, 0, 0, 0, 0), (959, .iconst 3, 0, 0, 0, 0), (960, .iadd, 0, 0, 0, 0), (961, .iaload, 0, 0, 0, 0), (962, .aload_n 0, 0, 0, 0, 0), (963, .iload_n 3, 0, 0, 0, 0), (964, .iconst 4, 0, 0, 0, 0), (965, .iadd, 0, 0, 0, 0), (966, .iaload, 0, 0, 0, 0), (967, .invokevirtual 110, 164, 4, 1169, 0)]
def am_t195_11 : List (Nat × am_R) := [(970, .if_icmp .eq 418, 0, 0, 0, 0), (973, .iconst 0, 0, 0, 0, 0), (974, .ireturn, 0, 0, 0, 0), (975, .aload_n 1, 0, 0, 0, 0), (976, .aload_n 0, 0, 0, 0, 0), (977, .iload_n 3, 0, 0, 0, 0), (978, .iconst 1, 0, 0, 0, 0), (979, .iadd, 0, 0, 0, 0), (980, .iaload, 0, 0, 0, 0), (981, .aload_n 0, 0, 0, 0, 0), (982, .iload_n 3, 0, 0, 0, 0), (983, .iconst 2, 0, 0, 0, 0), (984, .iadd, 0, 0, 0, 0), (985, .iaload, 0, 0, 0, 0), (986, .invokevirtual 111, 73, 2, 702, 0), (989, .aload_n 2, 0, 0, 0, 0), (990, .aload_n 0, 0, 0, 0, 0), (991, .iload_n 3, 0, 0, 0, 0), (992, .iconst 1, 0, 0, 0, 0), (993, .iadd, 0, 0, 0, 0), (994, .iaload, 0, 0, 0, 0), (995, .aload_n 0, 0, 0, 0, 0), (996, .iload_n 3, 0, 0, 0, 0), (997, .iconst 2, 0, 0, 0, 0), (998, .iadd, 0, 0, 0, 0), (999, .iaload, 0, 0, 0, 0), (1000, .invokevirtual 114, 165, 2, 1181, 0), (1003, .if_icmp .eq 385, 0, 0, 0, 0), (1006, .iconst 0, 0, 0, 0, 0), (1007, .ireturn, 0, 0, 0, 0), (1008, .aload_n 1, 0, 0, 0, 0), (1009, .aload_n 0, 0, 0, 0, 0), (1010, .iload_n 3, 0, 0, 0, 0), (1011, .iconst 1, 0, 0, 0, 0), (1012, .iadd, 0, 0, 0, 0), (1013, .iaload, 0, 0, 0, 0), (1014, .aload_n 0, 0, 0, 0, 0), (1015, .iload_n 3, 0, 0, 0, 0), (1016, .iconst 2, 0, 0, 0, 0), (1017, .iadd, 0, 0, 0, 0), (1018, .iaload, 0, 0, 0, 0), (1019, .invokevirtual 115, 74, 2, 706, 0), (1022, .aload_n 2, 0, 0, 0, 0), (1023, .aload_n 0, 0, 0, 0, 0), (1024, .iload_n 3, 0, 0, 0, 0), (1025, .iconst 1, 0, 0, 0, 0), (1026, .iadd, 0, 0, 0, 0), (1027, .iaload, 0, 0, 0, 0), (1028, .aload_n 0, 0, 0, 0, 0), (1029, .iload_n 3, 0, 0, 0, 0), (1030, .iconst 2, 0, 0, 0, 0), (1031, .iadd, 0, 0, 0, 0), (1032, .iaload, 0, 0, 0, 0), (1033, .invokevirtual 118, 167, 2, 1185, 0), (1036, .if_icmp .eq 352, 0, 0, 0, 0), (1039, .iconst 0, 0, 0, 0, 0), (1040, .ireturn, 0, 0, 0, 0), (1041, .aload_n 1, 0, 0, 0, 0), (1042, .aload_n 0, 0, 0, 0, 0), (1043, .iload_n 3, 0, 0, 0, 0)]
def am_t195_12 : List (Nat × am_R) := [(1044, .iconst 1, 0, 0, 0, 0), (1045, .iadd, 0, 0, 0, 0), (1046, .iaload, 0, 0, 0, 0), (1047, .invokevirtual 119, 75, 1, 710, 0), (1050, .aload_n 2, 0, 0, 0, 0), (1051, .aload_n 0, 0, 0, 0, 0), (1052, .iload_n 3, 0, 0, 0, 0), (1053, .iconst 1, 0, 0, 0, 0), (1054, .iadd, 0, 0, 0, 0), (1055, .iaload, 0, 0, 0, 0), (1056, .invokevirtual 122, 168, 1, 1193, 0), (1059, .if_icmp .eq 329, 0, 0, 0, 0), (1062, .iconst 0, 0, 0, 0, 0), (1063, .ireturn, 0, 0, 0, 0), (1064, .aload_n 1, 0, 0, 0, 0), (1065, .aload_n 0, 0, 0, 0, 0), (1066, .iload_n 3, 0, 0, 0, 0), (1067, .iconst 1, 0, 0, 0, 0), (1068, .iadd, 0, 0, 0, 0), (1069, .iaload, 0, 0, 0, 0), (1070, .aload_n 0, 0, 0, 0, 0), (1071, .iload_n 3, 0, 0, 0, 0), (1072, .iconst 2, 0, 0, 0, 0), (1073, .iadd, 0, 0, 0, 0), (1074, .iaload, 0, 0, 0, 0), (1075, .invokevirtual 123, 76, 2, 714, 0), (1078, .aload_n 2, 0, 0, 0, 0), (1079, .aload_n 0, 0, 0, 0, 0), (1080, .iload_n 3, 0, 0, 0, 0), (1081, .iconst 1, 0, 0, 0, 0), (1082, .iadd, 0, 0, 0, 0), (1083, .iaload, 0, 0, 0, 0), (1084, .aload_n 0, 0, 0, 0, 0), (1085, .iload_n 3, 0, 0, 0, 0), (1086, .iconst 2, 0, 0, 0, 0), (1087, .iadd, 0, 0, 0, 0), (1088, .iaload, 0, 0, 0, 0), (1089, .invokevirtual 126, 169, 2, 1197, 0), (1092, .if_icmp .eq 296, 0, 0, 0, 0), (1095, .iconst 0, 0, 0, 0, 0), (1096, .ireturn, 0, 0, 0, 0), (1097, .aload_n 1, 0, 0, 0, 0), (1098, .aload_n 0, 0, 0, 0, 0), (1099, .iload_n 3, 0, 0, 0, 0), (1100, .iconst 1, 0, 0, 0, 0), (1101, .iadd, 0, 0, 0, 0), (1102, .iaload, 0, 0, 0, 0), (1103, .aload_n 0, 0, 0, 0, 0), (1104, .iload_n 3, 0, 0, 0, 0), (1105, .iconst 2, 0, 0, 0, 0), (1106, .iadd, 0, 0, 0, 0), (1107, .iaload, 0, 0, 0, 0), (1108, .aload_n 0, 0, 0, 0, 0), (1109, .iload_n 3, 0, 0, 0, 0), (1110, .iconst 3, 0, 0, 0, 0), (1111, .iadd, 0, 0, 0, 0), (1112, .iaload, 0, 0, 0, 0), (1113, .aload_n 0, 0, 0, 0, 0), (1114, .iload_n 3, 0, 0, 0, 0), (1115, .iconst 4, 0, 0, 0, 0)]
def am_t195_13 : List (Nat × am_R) := [(1116, .iadd, 0, 0, 0, 0), (1117, .iaload, 0, 0, 0, 0), (1118, .invokevirtual 127, 77, 4, 718, 0), (1121, .aload_n 2, 0, 0, 0, 0), (1122, .aload_n 0, 0, 0, 0, 0), (1123, .iload_n 3, 0, 0, 0, 0), (1124, .iconst 1, 0, 0, 0, 0), (1125, .iadd, 0, 0, 0, 0), (1126, .iaload, 0, 0, 0, 0), (1127, .aload_n 0, 0, 0, 0, 0), (1128, .iload_n 3, 0, 0, 0, 0), (1129, .iconst 2, 0, 0, 0, 0), (1130, .iadd, 0, 0, 0, 0), (1131, .iaload, 0, 0, 0, 0), (1132, .aload_n 0, 0, 0, 0, 0), (1133, .iload_n 3, 0, 0, 0, 0), (1134, .iconst 3, 0, 0, 0, 0), (1135, .iadd, 0, 0, 0, 0), (1136, .iaload, 0, 0, 0, 0), (1137, .aload_n 0, 0, 0, 0, 0), (1138, .iload_n 3, 0, 0, 0, 0), (1139, .iconst 4, 0, 0, 0, 0), (1140, .iadd, 0, 0, 0, 0), (1141, .iaload, 0, 0, 0, 0), (1142, .invokevirtual 130, 171, 4, 1201, 0), (1145, .if_icmp .eq 243, 0, 0, 0, 0), (1148, .iconst 0, 0, 0, 0, 0), (1149, .ireturn, 0, 0, 0, 0), (1150, .aload_n 1, 0, 0, 0, 0), (1151, .aload_n 0, 0, 0, 0, 0), (1152, .iload_n 3, 0, 0, 0, 0), (1153, .iconst 1, 0, 0, 0, 0), (1154, .iadd, 0, 0, 0, 0), (1155, .iaload, 0, 0, 0, 0), (1156, .aload_n 0, 0, 0, 0, 0), (1157, .iload_n 3, 0, 0, 0, 0), (1158, .iconst 2, 0, 0, 0, 0), (1159, .iadd, 0, 0, 0, 0), (1160, .iaload, 0, 0, 0, 0), (1161, .invokevirtual 131, 78, 2, 752, 0), (1164, .aload_n 2, 0, 0, 0, 0), (1165, .aload_n 0, 0, 0, 0, 0), (1166, .iload_n 3, 0, 0, 0, 0), (1167, .iconst 1, 0, 0, 0, 0), (1168, .iadd, 0, 0, 0, 0), (1169, .iaload, 0, 0, 0, 0), (1170, .aload_n 0, 0, 0, 0, 0), (1171, .iload_n 3, 0, 0, 0, 0), (1172, .iconst 2, 0, 0, 0, 0), (1173, .iadd, 0, 0, 0, 0), (1174, .iaload, 0, 0, 0, 0), (1175, .invokevirtual 134, 174, 2, 1208, 0), (1178, .if_icmp .eq 210, 0, 0, 0, 0), (1181, .iconst 0, 0, 0, 0, 0), (1182, .ireturn, 0, 0, 0, 0), (1183, .aload_n 1, 0, 0, 0, 0), (1184, .aload_n 0, 0, 0, 0, 0), (1185, .iload_n 3, 0, 0, 0, 0), (1186, .iconst 1, 0, 0, 0, 0), (1187, .iadd, 0, 0, 0, 0)]
def am_t195_14 : List (Nat × am_R) := [(1188, .iaload, 0, 0, 0, 0), (1189, .aload_n 0, 0, 0, 0, 0), (1190, .iload_n 3, 0, 0, 0, 0), (1191, .iconst 2, 0, 0, 0, 0), (1192, .iadd, 0, 0, 0, 0), (1193, .iaload, 0, 0, 0, 0), (1194, .invokevirtual 135, 79, 2, 764, 0), (1197, .aload_n 2, 0, 0, 0, 0), (1198, .aload_n 0, 0, 0, 0, 0), (1199, .iload_n 3, 0, 0, 0, 0), (1200, .iconst 1, 0, 0, 0, 0), (1201, .iadd, 0, 0, 0, 0), (1202, .iaload, 0, 0, 0, 0), (1203, .aload_n 0, 0, 0, 0, 0), (1204, .iload_n 3, 0, 0, 0, 0), (1205, .iconst 2, 0, 0, 0, 0), (1206, .iadd, 0, 0, 0, 0), (1207, .iaload, 0, 0, 0, 0), (1208, .invokevirtual 138, 175, 2, 1220, 0), (1211, .if_icmp .eq 177, 0, 0, 0, 0), (1214, .iconst 0, 0, 0, 0, 0), (1215, .ireturn, 0, 0, 0, 0), (1216, .aload_n 1, 0, 0, 0, 0), (1217, .aload_n 0, 0, 0, 0, 0), (1218, .iload_n 3, 0, 0, 0, 0), (1219, .iconst 1, 0, 0, 0, 0), (1220, .iadd, 0, 0, 0, 0), (1221, .iaload, 0, 0, 0, 0), (1222, .aload_n 0, 0, 0, 0, 0), (1223, .iload_n 3, 0, 0, 0, 0), (1224, .iconst 2, 0, 0, 0, 0), (1225, .iadd, 0, 0, 0, 0), (1226, .iaload, 0, 0, 0, 0), (1227, .invokevirtual 139, 80, 2, 768, 0), (1230, .aload_n 2, 0, 0, 0, 0), (1231, .aload_n 0, 0, 0, 0, 0), (1232, .iload_n 3, 0, 0, 0, 0), (1233, .iconst 1, 0, 0, 0, 0), (1234, .iadd, 0, 0, 0, 0), (1235, .iaload, 0, 0, 0, 0), (1236, .aload_n 0, 0, 0, 0, 0), (1237, .iload_n 3, 0, 0, 0, 0), (1238, .iconst 2, 0, 0, 0, 0), (1239, .iadd, 0, 0, 0, 0), (1240, .iaload, 0, 0, 0, 0), (1241, .invokevirtual 142, 177, 2, 1224, 0), (1244, .if_icmp .eq 144, 0, 0, 0, 0), (1247, .iconst 0, 0, 0, 0, 0), (1248, .ireturn, 0, 0, 0, 0), (1249, .aload_n 1, 0, 0, 0, 0), (1250, .aload_n 0, 0, 0, 0, 0), (1251, .iload_n 3, 0, 0, 0, 0), (1252, .iconst 1, 0, 0, 0, 0), (1253, .iadd, 0, 0, 0, 0), (1254, .iaload, 0, 0, 0, 0), (1255, .invokevirtual 143, 81, 1, 794, 0), (1258, .aload_n 2, 0, 0, 0, 0), (1259, .aload_n 0, 0, 0, 0, 0), (1260, .iload_n 3, 0, 0, 0, 0), (1261, .iconst 1, 0, 0, 0, 0)]
def am_t195_15 : List (Nat × am_R) := [(1262, .iadd, 0, 0, 0, 0), (1263, .iaload, 0, 0, 0, 0), (1264, .invokevirtual 146, 178, 1, 1233, 0), (1267, .if_icmp .eq 121, 0, 0, 0, 0), (1270, .iconst 0, 0, 0, 0, 0), (1271, .ireturn, 0, 0, 0, 0), (1272, .aload_n 1, 0, 0, 0, 0), (1273, .aload_n 0, 0, 0, 0, 0), (1274, .iload_n 3, 0, 0, 0, 0), (1275, .iconst 1, 0, 0, 0, 0), (1276, .iadd, 0, 0, 0, 0), (1277, .iaload, 0, 0, 0, 0), (1278, .aload_n 0, 0, 0, 0, 0), (1279, .iload_n 3, 0, 0, 0, 0), (1280, .iconst 2, 0, 0, 0, 0), (1281, .iadd, 0, 0, 0, 0), (1282, .iaload, 0, 0, 0, 0), (1283, .aload_n 0, 0, 0, 0, 0), (1284, .iload_n 3, 0, 0, 0, 0), (1285, .iconst 3, 0, 0, 0, 0), (1286, .iadd, 0, 0, 0, 0), (1287, .iaload, 0, 0, 0, 0), (1288, .invokevirtual 147, 82, 3, 802, 0), (1291, .aload_n 2, 0, 0, 0, 0), (1292, .aload_n 0, 0, 0, 0, 0), (1293, .iload_n 3, 0, 0, 0, 0), (1294, .iconst 1, 0, 0, 0, 0), (1295, .iadd, 0, 0, 0, 0), (1296, .iaload, 0, 0, 0, 0), (1297, .aload_n 0, 0, 0, 0, 0), (1298, .iload_n 3, 0, 0, 0, 0), (1299, .iconst 2, 0, 0, 0, 0), (1300, .iadd, 0, 0, 0, 0), (1301, .iaload, 0, 0, 0, 0), (1302, .aload_n 0, 0, 0, 0, 0), (1303, .iload_n 3, 0, 0, 0, 0), (1304, .iconst 3, 0, 0, 0, 0), (1305, .iadd, 0, 0, 0, 0), (1306, .iaload, 0, 0, 0, 0), (1307, .invokevirtual 150, 179, 3, 1237, 0), (1310, .if_icmp .eq 78, 0, 0, 0, 0), (1313, .iconst 0, 0, 0, 0, 0), (1314, .ireturn, 0, 0, 0, 0), (1315, .aload_n 1, 0, 0, 0, 0), (1316, .aload_n 0, 0, 0, 0, 0), (1317, .iload_n 3, 0, 0, 0, 0), (1318, .iconst 1, 0, 0, 0, 0), (1319, .iadd, 0, 0, 0, 0), (1320, .iaload, 0, 0, 0, 0), (1321, .invokevirtual 151, 83, 1, 806, 0), (1324, .aload_n 2, 0, 0, 0, 0), (1325, .aload_n 0, 0, 0, 0, 0), (1326, .iload_n 3, 0, 0, 0, 0), (1327, .iconst 1, 0, 0, 0, 0), (1328, .iadd, 0, 0, 0, 0), (1329, .iaload, 0, 0, 0, 0), (1330, .invokevirtual 154, 181, 1, 1241, 0), (1333, .if_icmp .eq 55, 0, 0, 0, 0), (1336, .iconst 0, 0, 0, 0, 0), (1337, .ireturn, 0, 0, 0, 0)]
def am_t195_16 : List (Nat × am_R) := [(1338, .aload_n 1, 0, 0, 0, 0), (1339, .invokevirtual 155, 84, 0, 810, 0), (1342, .aload_n 2, 0, 0, 0, 0), (1343, .invokevirtual 158, 182, 0, 1249, 0), (1346, .if_icmp .eq 42, 0, 0, 0, 0), (1349, .iconst 0, 0, 0, 0, 0), (1350, .ireturn, 0, 0, 0, 0), (1351, .aload_n 1, 0, 0, 0, 0), (1352, .aload_n 0, 0, 0, 0, 0), (1353, .iload_n 3, 0, 0, 0, 0), (1354, .iconst 1, 0, 0, 0, 0), (1355, .iadd, 0, 0, 0, 0), (1356, .iaload, 0, 0, 0, 0), (1357, .invokevirtual 159, 85, 1, 814, 0), (1360, .aload_n 2, 0, 0, 0, 0), (1361, .aload_n 0, 0, 0, 0, 0), (1362, .iload_n 3, 0, 0, 0, 0), (1363, .iconst 1, 0, 0, 0, 0), (1364, .iadd, 0, 0, 0, 0), (1365, .iaload, 0, 0, 0, 0), (1366, .invokevirtual 162, 183, 1, 1253, 0), (1369, .if_icmp .eq 19, 0, 0, 0, 0), (1372, .iconst 0, 0, 0, 0, 0), (1373, .ireturn, 0, 0, 0, 0), (1374, .aload_n 1, 0, 0, 0, 0), (1375, .invokevirtual 163, 86, 0, 818, 0), (1378, .aload_n 2, 0, 0, 0, 0), (1379, .invokevirtual 167, 184, 0, 1257, 0), (1382, .lcmp, 0, 0, 0, 0), (1383, .ifCond .eq 5, 0, 0, 0, 0), (1386, .iconst 0, 0, 0, 0, 0), (1387, .ireturn, 0, 0, 0, 0), (1388, .iinc 3 6, 0, 0, 0, 0), (1391, .goto (-1373), 0, 0, 0, 0), (1394, .iconst 1, 0, 0, 0, 0), (1395, .ireturn, 0, 0, 0, 0)]
def am_t195 : List (Nat × am_R) := am_t195_0 ++ (am_t195_1 ++ (am_t195_2 ++ (am_t195_3 ++ (am_t195_4 ++ (am_t195_5 ++ (am_t195_6 ++ (am_t195_7 ++ (am_t195_8 ++ (am_t195_9 ++ (am_t195_10 ++ (am_t195_11 ++ (am_t195_12 ++ (am_t195_13 ++ (am_t195_14 ++ (am_t195_15 ++ (am_t195_16))))))))))))))))
def am_mt : List am_M := [(1, true, 4, 1, 1, 40, am_t0),
  (1, false, 4, 3, 3, 62, am_t1),
  (1, false, 0, 3, 3, 68, am_t2),
  (1, false, 4, 5, 1, 20, am_t3),
  (1, false, 1, 5, 2, 44, am_t4),
  (1, false, 1, 5, 1, 20, am_t5),
  (2, true, 4, 2, 1, 40, am_t6),
  (2, false, 4, 3, 0, 0, am_t7),
  (3, true, 4, 7, 1, 40, am_t8),
  (4, true, 4, 5, 1, 40, am_t9),
  (5, true, 4, 7, 1, 40, am_t10),
  (5, false, 1, 2, 0, 0, am_t11),
  (5, false, 0, 3, 1, 21, am_t12),
  (5, false, 1, 1, 2, 43, am_t13),
  (5, false, 0, 3, 0, 0, am_t14),
  (5, false, 0, 1, 0, 0, am_t15),
  (5, false, 4, 3, 0, 0, am_t16),
  (6, true, 4, 1, 1, 40, am_t17),
  (6, false, 0, 2, 0, 0, am_t18),
  (6, false, 0, 9, 6, 139, am_t19),
  (6, false, 4, 5, 5, 115, am_t20),
  (6, false, 0, 8, 4, 88, am_t21),
  (6, false, 0, 5, 3, 64, am_t22),
  (7, true, 4, 1, 1, 40, am_t23),
  (7, false, 1, 1, 0, 0, am_t24),
  (7, false, 4, 1, 0, 0, am_t25),
  (7, false, 4, 2, 1, 23, am_t26),
  (7, false, 1, 3, 0, 0, am_t27),
  (7, false, 1, 2, 2, 40, am_t28),
  (7, false, 0, 3, 2, 40, am_t29),
  (7, false, 0, 3, 3, 62, am_t30),
  (7, false, 2, 6, 0, 0, am_t31),
  (7, false, 1, 1, 0, 0, am_t32),
  (7, false, 1, 1, 1, 20, am_t33),
  (7, false, 0, 1, 0, 0, am_t34),
  (8, true, 4, 4, 1, 40, am_t35),
  (8, false, 0, 2, 1, 40, am_t36),
  (8, false, 1, 2, 0, 0, am_t37),
  (9, true, 4, 6, 1, 40, am_t38),
  (10, true, 4, 2, 4, 100, am_t39),
  (10, false, 0, 4, 7, 171, am_t40),
  (10, false, 0, 3, 4, 86, am_t41),
  (10, false, 0, 3, 4, 84, am_t42),
  (10, false, 0, 3, 3, 64, am_t43),
  (10, false, 0, 5, 7, 171, am_t44),
  (10, false, 0, 4, 4, 90, am_t45),
  (10, false, 0, 3, 2, 44, am_t46),
  (10, false, 0, 6, 2, 42, am_t47),
  (10, false, 0, 2, 2, 42, am_t48),
  (10, false, 0, 6, 2, 42, am_t49),
  (10, false, 0, 2, 4, 84, am_t50),
  (10, false, 0, 2, 4, 84, am_t51),
  (10, false, 0, 2, 4, 90, am_t52),
  (10, false, 0, 4, 2, 42, am_t53),
  (10, false, 0, 10, 7, 171, am_t54),
  (10, false, 0, 4, 3, 64, am_t55),
  (10, false, 0, 4, 4, 87, am_t56),
  (10, false, 0, 2, 3, 64, am_t57),
  (10, false, 0, 5, 3, 64, am_t58),
  (10, false, 0, 3, 3, 64, am_t59),
  (10, false, 0, 2, 7, 171, am_t60),
  (10, false, 0, 3, 5, 108, am_t61),
  (10, false, 0, 7, 7, 171, am_t62),
  (10, false, 0, 3, 3, 64, am_t63),
  (10, false, 0, 4, 3, 64, am_t64),
  (10, false, 0, 4, 5, 112, am_t65),
  (10, false, 0, 5, 5, 112, am_t66),
  (10, false, 0, 5, 7, 171, am_t67),
  (10, false, 0, 3, 7, 157, am_t68),
  (10, false, 0, 5, 7, 157, am_t69),
  (10, false, 0, 3, 7, 167, am_t70),
  (10, false, 0, 2, 1, 21, am_t71),
  (10, false, 0, 7, 3, 64, am_t72),
  (10, false, 0, 2, 1, 20, am_t73),
  (10, false, 0, 1, 0, 0, am_t74),
  (10, false, 0, 2, 1, 22, am_t75),
  (10, false, 2, 5, 4, 87, am_t76),
  (10, false, 1, 3, 0, 0, am_t77),
  (10, false, 1, 1, 1, 22, am_t78),
  (10, false, 1, 1, 1, 22, am_t79),
  (10, false, 1, 1, 1, 22, am_t80),
  (10, false, 1, 1, 1, 22, am_t81),
  (10, false, 1, 1, 1, 22, am_t82),
  (10, false, 1, 2, 1, 20, am_t83),
  (10, false, 1, 2, 1, 20, am_t84),
  (10, false, 1, 2, 1, 20, am_t85),
  (10, false, 1, 2, 1, 20, am_t86),
  (10, false, 1, 2, 0, 0, am_t87),
  (10, false, 0, 1, 0, 0, am_t88),
  (10, false, 0, 2, 0, 0, am_t89),
  (10, false, 0, 3, 3, 64, am_t90),
  (10, false, 1, 3, 4, 86, am_t91),
  (10, false, 1, 1, 3, 64, am_t92),
  (10, false, 1, 7, 3, 64, am_t93),
  (10, false, 0, 2, 1, 20, am_t94),
  (10, false, 0, 3, 4, 86, am_t95),
  (10, false, 1, 6, 5, 108, am_t96),
  (10, false, 1, 3, 4, 90, am_t97),
  (10, false, 0, 6, 6, 132, am_t98),
  (10, false, 1, 5, 5, 108, am_t99),
  (10, false, 1, 3, 1, 20, am_t100),
  (10, false, 0, 4, 3, 64, am_t101),
  (11, true, 4, 2, 1, 40, am_t102),
  (11, false, 1, 3, 0, 0, am_t103),
  (11, false, 0, 2, 0, 0, am_t104),
  (11, false, 1, 2, 0, 0, am_t105),
  (11, false, 0, 3, 0, 0, am_t106),
  (11, false, 1, 2, 1, 22, am_t107),
  (11, false, 0, 4, 1, 22, am_t108),
  (11, false, 0, 5, 0, 0, am_t109),
  (11, false, 0, 3, 2, 43, am_t110),
  (11, false, 0, 3, 1, 22, am_t111),
  (11, false, 0, 3, 1, 22, am_t112),
  (11, false, 1, 1, 1, 22, am_t113),
  (11, false, 0, 5, 2, 43, am_t114),
  (11, false, 1, 6, 1, 21, am_t115),
  (11, false, 0, 4, 2, 46, am_t116),
  (11, false, 1, 1, 1, 22, am_t117),
  (11, false, 0, 2, 2, 42, am_t118),
  (11, false, 0, 4, 2, 42, am_t119),
  (11, false, 0, 6, 3, 63, am_t120),
  (11, false, 0, 3, 3, 63, am_t121),
  (11, false, 0, 7, 2, 42, am_t122),
  (11, false, 1, 1, 1, 22, am_t123),
  (11, false, 0, 1, 1, 22, am_t124),
  (11, false, 1, 1, 2, 42, am_t125),
  (11, false, 0, 3, 1, 22, am_t126),
  (11, false, 0, 4, 3, 62, am_t127),
  (11, false, 0, 5, 4, 85, am_t128),
  (11, false, 0, 3, 5, 109, am_t129),
  (11, false, 0, 6, 4, 85, am_t130),
  (11, false, 0, 7, 4, 85, am_t131),
  (11, false, 0, 3, 5, 111, am_t132),
  (11, false, 0, 4, 1, 22, am_t133),
  (11, false, 1, 2, 0, 0, am_t134),
  (11, false, 1, 2, 1, 22, am_t135),
  (11, false, 1, 2, 0, 0, am_t136),
  (11, false, 0, 7, 5, 111, am_t137),
  (11, false, 0, 5, 0, 0, am_t138),
  (11, false, 0, 4, 1, 24, am_t139),
  (11, false, 0, 3, 2, 47, am_t140),
  (11, false, 0, 3, 3, 69, am_t141),
  (11, false, 0, 2, 1, 22, am_t142),
  (11, false, 1, 4, 1, 22, am_t143),
  (11, false, 0, 5, 2, 47, am_t144),
  (11, false, 0, 2, 2, 43, am_t145),
  (11, false, 0, 4, 2, 43, am_t146),
  (11, false, 0, 2, 2, 47, am_t147),
  (11, false, 1, 2, 1, 22, am_t148),
  (11, false, 0, 2, 2, 43, am_t149),
  (11, false, 0, 3, 1, 24, am_t150),
  (11, false, 0, 3, 2, 46, am_t151),
  (11, false, 1, 5, 2, 46, am_t152),
  (11, false, 1, 7, 1, 24, am_t153),
  (11, false, 0, 6, 3, 70, am_t154),
  (11, false, 0, 3, 2, 43, am_t155),
  (11, false, 0, 3, 0, 0, am_t156),
  (11, false, 0, 3, 1, 22, am_t157),
  (11, false, 0, 4, 3, 70, am_t158),
  (11, false, 0, 5, 3, 70, am_t159),
  (11, false, 1, 1, 1, 22, am_t160),
  (11, false, 0, 5, 2, 43, am_t161),
  (11, false, 1, 5, 1, 24, am_t162),
  (11, false, 0, 5, 2, 48, am_t163),
  (11, false, 0, 3, 3, 72, am_t164),
  (11, false, 0, 5, 3, 72, am_t165),
  (11, false, 4, 6, 1, 24, am_t166),
  (11, false, 0, 7, 2, 49, am_t167),
  (11, false, 0, 2, 1, 22, am_t168),
  (11, false, 0, 6, 2, 45, am_t169),
  (11, false, 0, 2, 0, 0, am_t170),
  (11, false, 0, 2, 1, 22, am_t171),
  (11, false, 0, 1, 0, 0, am_t172),
  (11, false, 0, 2, 1, 22, am_t173),
  (11, false, 2, 5, 3, 69, am_t174),
  (12, false, 0, 1, 0, 0, am_t175),
  (13, true, 4, 1, 1, 40, am_t176),
  (14, true, 4, 1, 2, 60, am_t177),
  (0, true, 4, 1, 3, 80, am_t178),
  (0, false, 3, 4, 3, 84, am_t179),
  (0, false, 3, 1, 4, 107, am_t180),
  (0, false, 0, 1, 0, 0, am_t181),
  (0, false, 1, 1, 0, 0, am_t182),
  (0, false, 3, 2, 0, 0, am_t183),
  (0, false, 3, 2, 2, 43, am_t184),
  (0, false, 4, 4, 5, 127, am_t185),
  (0, false, 1, 2, 6, 150, am_t186),
  (15, false, 4, 4, 0, 0, am_t187),
  (15, false, 4, 4, 0, 0, am_t188),
  (15, false, 3, 2, 2, 63, am_t189),
  (15, false, 3, 4, 1, 40, am_t190),
  (16, false, 0, 2, 1, 22, am_t191),
  (17, false, 0, 4, 1, 40, am_t192),
  (17, false, 0, 3, 0, 0, am_t193),
  (18, false, 0, 3, 0, 0, am_t194),
  (19, false, 1, 4, 8, 200, am_t195)]
abbrev am_Y : Type := MethodName × ByteArray × Option FieldType × Nat × Bool × Nat × Nat × Nat × Nat
def am_my : List am_Y := [(yX0_init, cX0_init, none, 0, false, 129, 56, 128, 0),
  (yX0_takeFrom, cX0_takeFrom, none, 1, false, 462, 56, 460, 461),
  (yX0_firstIn, cX0_firstIn, (some .int), 1, false, 479, 56, 477, 478),
  (yX0_keep, cX0_keep, none, 3, false, 468, 56, 467, 8),
  (yX0_isAlikeAny, cX0_isAlikeAny, (some .boolean), 3, false, 483, 56, 482, 9),
  (yX0_isAlike, cX0_isAlike, (some .boolean), 3, false, 487, 56, 486, 10),
  (yX1_init, cX1_init, none, 1, false, 616, 69, 615, 0),
  (yX1_stand, cX1_stand, none, 2, false, 701, 69, 699, 700),
  (yX2_init, cX2_init, none, 6, false, 667, 70, 666, 0),
  (yX3_init, cX3_init, none, 4, false, 356, 66, 355, 0),
  (yX4_init, cX4_init, none, 6, false, 511, 67, 510, 0),
  (yX4_lacksCryAt, cX4_lacksCryAt, (some .boolean), 1, false, 570, 67, 568, 569),
  (yX4_lackingSquares, cX4_lackingSquares, (some .int), 0, false, 566, 67, 564, 565),
  (yX4_isDone, cX4_isDone, (some .boolean), 0, false, 562, 67, 560, 561),
  (yX4_countedInAll, cX4_countedInAll, (some .int), 0, false, 579, 67, 577, 578),
  (yX4_minutesToCry, cX4_minutesToCry, (some .int), 0, false, 697, 67, 695, 696),
  (yX4_countCry, cX4_countCry, none, 2, false, 663, 67, 661, 662),
  (yX5_init, cX5_init, none, 0, false, 147, 57, 146, 0),
  (yX5_squareAt, cX5_squareAt, (some .int), 1, false, 801, 57, 799, 800),
  (yX5_plan, cX5_plan, (some .int), 3, false, 775, 57, 773, 774),
  (yX5_measureAll, cX5_measureAll, none, 1, false, 780, 57, 779, 22),
  (yX5_bestNext, cX5_bestNext, (some .int), 3, false, 784, 57, 783, 23),
  (yX5_walkOver, cX5_walkOver, (some .int), 4, false, 789, 57, 788, 24),
  (yX6_init, cX6_init, none, 0, false, 111, 55, 110, 0),
  (yX6_isMissing, cX6_isMissing, (some .boolean), 0, false, 415, 55, 413, 414),
  (yX6_lose, cX6_lose, none, 0, false, 423, 55, 421, 422),
  (yX6_begin, cX6_begin, none, 1, false, 404, 55, 402, 403),
  (yX6_hasRun, cX6_hasRun, (some .boolean), 2, false, 431, 55, 429, 430),
  (yX6_startsPiece, cX6_startsPiece, (some .boolean), 1, false, 444, 55, 442, 443),
  (yX6_pieceLength, cX6_pieceLength, (some .int), 1, false, 454, 55, 452, 453),
  (yX6_wordCount, cX6_wordCount, (some .int), 0, false, 440, 55, 438, 439),
  (yX6_digestOnto, cX6_digestOnto, (some .long), 1, false, 830, 55, 828, 829),
  (yX6_isFigure, cX6_isFigure, (some .boolean), 1, true, 450, 55, 449, 0),
  (yX6_isOfPiece, cX6_isOfPiece, (some .boolean), 1, true, 447, 55, 446, 0),
  (yX6_asSmall, cX6_asSmall, (some .int), 1, true, 471, 55, 470, 0),
  (yX7_init, cX7_init, none, 3, false, 223, 60, 222, 0),
  (yX7_walkTo, cX7_walkTo, (some .int), 1, false, 323, 60, 321, 322),
  (yX7_hasInWeek, cX7_hasInWeek, (some .boolean), 1, false, 386, 60, 384, 385),
  (yX8_init, cX8_init, none, 5, false, 729, 71, 728, 0),
  (yX9_init, cX9_init, none, 0, false, 76, 51, 75, 0),
  (yX9_square, cX9_square, (some .int), 3, false, 211, 51, 209, 210),
  (yX9_walk, cX9_walk, (some .int), 2, false, 297, 51, 295, 296),
  (yX9_hearing, cX9_hearing, (some .int), 1, false, 330, 51, 328, 329),
  (yX9_later, cX9_later, (some .int), 1, false, 343, 51, 341, 342),
  (yX9_move, cX9_move, (some .int), 4, false, 348, 51, 346, 347),
  (yX9_market, cX9_market, (some .int), 3, false, 378, 51, 376, 377),
  (yX9_sheet, cX9_sheet, (some .int), 2, false, 393, 51, 391, 392),
  (yX9_lay, cX9_lay, (some .int), 3, false, 411, 51, 409, 410),
  (yX9_tear, cX9_tear, (some .int), 1, false, 419, 51, 417, 418),
  (yX9_copy, cX9_copy, (some .int), 5, false, 427, 51, 425, 426),
  (yX9_words, cX9_words, (some .int), 1, false, 436, 51, 434, 435),
  (yX9_bar, cX9_bar, (some .int), 1, false, 458, 51, 456, 457),
  (yX9_barred, cX9_barred, (some .int), 1, false, 475, 51, 473, 474),
  (yX9_rate, cX9_rate, (some .int), 2, false, 491, 51, 489, 490),
  (yX9_notice, cX9_notice, (some .int), 5, false, 498, 51, 496, 497),
  (yX9_told, cX9_told, (some .int), 2, false, 554, 51, 552, 553),
  (yX9_mark, cX9_mark, (some .int), 2, false, 574, 51, 572, 573),
  (yX9_fee, cX9_fee, (some .int), 1, false, 600, 51, 598, 599),
  (yX9_mean, cX9_mean, (some .int), 0, false, 604, 51, 602, 603),
  (yX9_back, cX9_back, (some .int), 1, false, 608, 51, 606, 607),
  (yX9_crier, cX9_crier, (some .int), 1, false, 612, 51, 610, 611),
  (yX9_ready, cX9_ready, (some .int), 2, false, 630, 51, 628, 629),
  (yX9_cry, cX9_cry, (some .int), 4, false, 642, 51, 640, 641),
  (yX9_counted, cX9_counted, (some .int), 2, false, 705, 51, 703, 704),
  (yX9_cryTold, cX9_cryTold, (some .int), 2, false, 709, 51, 707, 708),
  (yX9_due, cX9_due, (some .int), 1, false, 713, 51, 711, 712),
  (yX9_dueAt, cX9_dueAt, (some .int), 2, false, 717, 51, 715, 716),
  (yX9_present, cX9_present, (some .int), 4, false, 721, 51, 719, 720),
  (yX9_heard, cX9_heard, (some .int), 2, false, 755, 51, 753, 754),
  (yX9_hearers, cX9_hearers, (some .int), 2, false, 767, 51, 765, 766),
  (yX9_round, cX9_round, (some .int), 2, false, 771, 51, 769, 770),
  (yX9_roundAt, cX9_roundAt, (some .int), 1, false, 797, 51, 795, 796),
  (yX9_joined, cX9_joined, (some .int), 3, false, 805, 51, 803, 804),
  (yX9_count, cX9_count, (some .int), 1, false, 809, 51, 807, 808),
  (yX9_finding, cX9_finding, (some .int), 0, false, 813, 51, 811, 812),
  (yX9_findings, cX9_findings, (some .int), 1, false, 817, 51, 815, 816),
  (yX9_digest, cX9_digest, (some .long), 0, false, 821, 51, 819, 820),
  (yX9_isWithin, cX9_isWithin, (some .boolean), 3, true, 214, 51, 213, 0),
  (yX9_isDay, cX9_isDay, (some .boolean), 1, true, 351, 51, 350, 0),
  (yX9_isMinute, cX9_isMinute, (some .boolean), 1, true, 645, 51, 644, 0),
  (yX9_isSheet, cX9_isSheet, (some .boolean), 1, true, 396, 51, 395, 0),
  (yX9_isKind, cX9_isKind, (some .boolean), 1, true, 494, 51, 493, 0),
  (yX9_isPerson, cX9_isPerson, (some .boolean), 1, true, 724, 51, 723, 0),
  (yX9_isSquare, cX9_isSquare, (some .boolean), 1, false, 301, 51, 300, 3),
  (yX9_isNotice, cX9_isNotice, (some .boolean), 1, false, 558, 51, 557, 12),
  (yX9_isCrier, cX9_isCrier, (some .boolean), 1, false, 634, 51, 633, 15),
  (yX9_areSquares, cX9_areSquares, (some .boolean), 1, false, 502, 51, 501, 11),
  (yX9_isOfKind, cX9_isOfKind, (some .boolean), 2, true, 506, 51, 505, 0),
  (yX9_asAnswer, cX9_asAnswer, (some .int), 1, true, 389, 51, 388, 0),
  (yX9_find, cX9_find, (some .int), 1, false, 400, 51, 399, 7),
  (yX9_walkBetween, cX9_walkBetween, (some .int), 2, false, 305, 51, 304, 4),
  (yX9_areInHearing, cX9_areInHearing, (some .boolean), 2, false, 654, 51, 653, 18),
  (yX9_wasCryToday, cX9_wasCryToday, (some .boolean), 0, false, 334, 51, 333, 5),
  (yX9_hasMarket, cX9_hasMarket, (some .boolean), 3, false, 382, 51, 381, 6),
  (yX9_feeOf, cX9_feeOf, (some .int), 1, false, 583, 51, 582, 13),
  (yX9_readyMinute, cX9_readyMinute, (some .int), 2, false, 638, 51, 637, 16),
  (yX9_isDrowned, cX9_isDrowned, (some .boolean), 3, false, 649, 51, 648, 17),
  (yX9_wouldCount, cX9_wouldCount, (some .boolean), 2, false, 658, 51, 657, 19),
  (yX9_heardTimes, cX9_heardTimes, (some .int), 2, false, 759, 51, 758, 20),
  (yX9_wasInHearing, cX9_wasInHearing, (some .boolean), 2, false, 763, 51, 762, 21),
  (yX9_areJoined, cX9_areJoined, (some .boolean), 3, true, 596, 51, 595, 0),
  (yX9_lostJoinedWith, cX9_lostJoinedWith, (some .int), 1, false, 593, 51, 592, 14),
  (yX10_init, cX10_init, none, 0, false, 836, 59, 835, 0),
  (yX10_in, cX10_in, (some .boolean), 3, true, 987, 59, 986, 0),
  (yX10_meets, cX10_meets, (some .int), 1, false, 1036, 59, 1035, 28),
  (yX10_has, cX10_has, (some .boolean), 2, true, 1025, 59, 1024, 0),
  (yX10_bits, cX10_bits, (some .int), 1, true, 1136, 59, 1135, 0),
  (yX10_isSquare, cX10_isSquare, (some .boolean), 1, false, 995, 59, 994, 25),
  (yX10_square, cX10_square, (some .int), 3, false, 984, 59, 982, 983),
  (yX10_walks, cX10_walks, (some .int), 2, false, 999, 59, 998, 26),
  (yX10_walk, cX10_walk, (some .int), 2, false, 991, 59, 989, 990),
  (yX10_hearing, cX10_hearing, (some .int), 1, false, 1003, 59, 1001, 1002),
  (yX10_later, cX10_later, (some .int), 1, false, 1007, 59, 1005, 1006),
  (yX10_isDay, cX10_isDay, (some .boolean), 1, true, 1014, 59, 1013, 0),
  (yX10_move, cX10_move, (some .int), 4, false, 1011, 59, 1009, 1010),
  (yX10_hasMarket, cX10_hasMarket, (some .boolean), 3, false, 1022, 59, 1021, 27),
  (yX10_market, cX10_market, (some .int), 3, false, 1018, 59, 1016, 1017),
  (yX10_isSheet, cX10_isSheet, (some .boolean), 1, true, 1032, 59, 1031, 0),
  (yX10_looked, cX10_looked, (some .int), 1, false, 1044, 59, 1043, 29),
  (yX10_sheet, cX10_sheet, (some .int), 2, false, 1029, 59, 1027, 1028),
  (yX10_lay, cX10_lay, (some .int), 3, false, 1040, 59, 1038, 1039),
  (yX10_tear, cX10_tear, (some .int), 1, false, 1048, 59, 1046, 1047),
  (yX10_copy, cX10_copy, (some .int), 5, false, 1052, 59, 1050, 1051),
  (yX10_isFigure, cX10_isFigure, (some .boolean), 1, true, 1074, 59, 1073, 0),
  (yX10_small, cX10_small, (some .int), 1, true, 1077, 59, 1076, 0),
  (yX10_isSign, cX10_isSign, (some .boolean), 1, true, 1071, 59, 1070, 0),
  (yX10_signAt, cX10_signAt, (some .int), 2, false, 1068, 59, 1067, 32),
  (yX10_pieceAt, cX10_pieceAt, (some .int), 2, false, 1064, 59, 1063, 31),
  (yX10_wordsOf, cX10_wordsOf, (some .int), 1, false, 1060, 59, 1059, 30),
  (yX10_words, cX10_words, (some .int), 1, false, 1056, 59, 1054, 1055),
  (yX10_bar, cX10_bar, (some .int), 1, false, 1081, 59, 1079, 1080),
  (yX10_barredIn, cX10_barredIn, (some .int), 1, false, 1089, 59, 1088, 33),
  (yX10_barred, cX10_barred, (some .int), 1, false, 1085, 59, 1083, 1084),
  (yX10_rate, cX10_rate, (some .int), 2, false, 1093, 59, 1091, 1092),
  (yX10_areSquares, cX10_areSquares, (some .boolean), 1, false, 1101, 59, 1100, 34),
  (yX10_isNotice, cX10_isNotice, (some .boolean), 1, false, 1113, 59, 1112, 35),
  (yX10_fits, cX10_fits, (some .boolean), 2, true, 1105, 59, 1104, 0),
  (yX10_notice, cX10_notice, (some .int), 5, false, 1097, 59, 1095, 1096),
  (yX10_countedAt, cX10_countedAt, (some .int), 2, false, 1125, 59, 1124, 38),
  (yX10_lacks, cX10_lacks, (some .int), 1, false, 1121, 59, 1120, 37),
  (yX10_tells, cX10_tells, (some .int), 2, false, 1117, 59, 1116, 36),
  (yX10_told, cX10_told, (some .int), 2, false, 1109, 59, 1107, 1108),
  (yX10_feeOf, cX10_feeOf, (some .int), 1, false, 1133, 59, 1132, 39),
  (yX10_joins, cX10_joins, (some .boolean), 3, false, 1140, 59, 1139, 40),
  (yX10_mark, cX10_mark, (some .int), 2, false, 1129, 59, 1127, 1128),
  (yX10_fee, cX10_fee, (some .int), 1, false, 1144, 59, 1142, 1143),
  (yX10_mean, cX10_mean, (some .int), 0, false, 1148, 59, 1146, 1147),
  (yX10_back, cX10_back, (some .int), 1, false, 1152, 59, 1150, 1151),
  (yX10_isCrier, cX10_isCrier, (some .boolean), 1, false, 1164, 59, 1163, 41),
  (yX10_crier, cX10_crier, (some .int), 1, false, 1156, 59, 1154, 1155),
  (yX10_readyAt, cX10_readyAt, (some .int), 2, false, 1168, 59, 1167, 42),
  (yX10_ready, cX10_ready, (some .int), 2, false, 1160, 59, 1158, 1159),
  (yX10_wouldCount, cX10_wouldCount, (some .boolean), 2, false, 1180, 59, 1179, 44),
  (yX10_isTooNear, cX10_isTooNear, (some .boolean), 3, false, 1176, 59, 1175, 43),
  (yX10_cry, cX10_cry, (some .int), 4, false, 1172, 59, 1170, 1171),
  (yX10_counted, cX10_counted, (some .int), 2, false, 1184, 59, 1182, 1183),
  (yX10_tellsCry, cX10_tellsCry, (some .int), 2, false, 1192, 59, 1191, 45),
  (yX10_cryTold, cX10_cryTold, (some .int), 2, false, 1188, 59, 1186, 1187),
  (yX10_due, cX10_due, (some .int), 1, false, 1196, 59, 1194, 1195),
  (yX10_dueAt, cX10_dueAt, (some .int), 2, false, 1200, 59, 1198, 1199),
  (yX10_isPerson, cX10_isPerson, (some .boolean), 1, true, 1207, 59, 1206, 0),
  (yX10_present, cX10_present, (some .int), 4, false, 1204, 59, 1202, 1203),
  (yX10_hears, cX10_hears, (some .boolean), 2, false, 1219, 59, 1218, 47),
  (yX10_heardOf, cX10_heardOf, (some .int), 2, false, 1215, 59, 1214, 46),
  (yX10_heard, cX10_heard, (some .int), 2, false, 1211, 59, 1209, 1210),
  (yX10_hearers, cX10_hearers, (some .int), 2, false, 1223, 59, 1221, 1222),
  (yX10_setLeast, cX10_setLeast, none, 1, false, 1231, 59, 1230, 48),
  (yX10_round, cX10_round, (some .int), 2, false, 1227, 59, 1225, 1226),
  (yX10_roundAt, cX10_roundAt, (some .int), 1, false, 1236, 59, 1234, 1235),
  (yX10_joined, cX10_joined, (some .int), 3, false, 1240, 59, 1238, 1239),
  (yX10_counts, cX10_counts, (some .int), 1, false, 1248, 59, 1247, 49),
  (yX10_count, cX10_count, (some .int), 1, false, 1244, 59, 1242, 1243),
  (yX10_finding, cX10_finding, (some .int), 0, false, 1252, 59, 1250, 1251),
  (yX10_findings, cX10_findings, (some .int), 1, false, 1256, 59, 1254, 1255),
  (yX10_digest, cX10_digest, (some .long), 0, false, 1260, 59, 1258, 1259),
  (yJ6_bitCount_0f7a4, cJ6_bitCount_0f7a4, (some .int), 1, true, 586, 68, 585, 0),
  (yJxa1e45_init_da8c8, cJxa1e45_init_da8c8, none, 0, false, 90, 52, 89, 0),
  (yJxc12de_init_da8c8, cJxc12de_init_da8c8, none, 0, false, 87, 53, 86, 0),
  (yJx4a65c_init_da8c8, cJx4a65c_init_da8c8, none, 0, false, 84, 54, 83, 0),
  (yJx4a65c_grow_92f84, cJx4a65c_grow_92f84, (some (.array (.object "java/lang/Object"))), 1, false, 250, 54, 249, 2),
  (yJx4a65c_grow_d5877, cJx4a65c_grow_d5877, (some (.array (.object "java/lang/Object"))), 0, false, 246, 54, 245, 1),
  (yJx4a65c_size_8abf5, cJx4a65c_size_8abf5, (some .int), 0, false, 218, 54, 216, 217),
  (yJx4a65c_isEmpty_aae02, cJx4a65c_isEmpty_aae02, (some .boolean), 0, false, 338, 54, 336, 337),
  (yJx4a65c_elementData_915e3, cJx4a65c_elementData_915e3, (some (.object "java/lang/Object")), 1, false, 319, 54, 317, 318),
  (yJx4a65c_get_915e3, cJx4a65c_get_915e3, (some (.object "java/lang/Object")), 1, false, 309, 54, 307, 308),
  (yJx4a65c_add_72be8, cJx4a65c_add_72be8, none, 3, false, 242, 54, 241, 0),
  (yJx4a65c_add_9ea2d, cJx4a65c_add_9ea2d, (some .boolean), 1, false, 238, 54, 236, 237),
  (yJ7_fill_53178, cJ7_fill_53178, none, 2, true, 164, 58, 163, 0),
  (yJ7_fill_031fb, cJ7_fill_031fb, none, 2, true, 407, 58, 406, 0),
  (yJ7_copyOf_1904c, cJ7_copyOf_1904c, (some (.array (.object "java/lang/Object"))), 2, true, 263, 58, 262, 0),
  (yJ7_copyOf_6403c, cJ7_copyOf_6403c, (some (.array (.object "java/lang/Object"))), 3, true, 282, 58, 281, 0),
  (yJ15_checkIndex_7cf53, cJ15_checkIndex_7cf53, (some .int), 2, true, 312, 64, 311, 0),
  (yJ8_newLength_cabcc, cJ8_newLength_cabcc, (some .int), 3, true, 253, 61, 252, 0),
  (yJ8_hugeLength_7cf53, cJ8_hugeLength_7cf53, (some .int), 2, true, 260, 61, 259, 0),
  (yJ3_checkIndex_8e157, cJ3_checkIndex_8e157, (some .int), 3, true, 315, 65, 314, 0),
  (yL_law, cL_law, (some .boolean), 1, true, 0, 50, 0, 0)]
end
section
/-! A machine in small: cells, frames, one step, a run. Cells of the heap are numbered in the order of their making; 0 is the script, 1 ArrayList's empty array, 2 the class object of Object[]. -/
abbrev am_C : Type := (Nat × vp_A) ⊕ (Nat × List Value)
abbrev am_H : Type := List am_C
abbrev am_L : Type := List (Option Value)
abbrev am_F : Type := Nat × am_L × List Value
abbrev am_O : Type := (am_F × am_H) ⊕ (Option Value ⊕ (Nat × List Value × am_F))
def am_nx (pc : Nat) (ls : am_L) (st : List Value) (h : am_H) : Option am_O := some (.inl ((pc, ls, st), h))
def am_tg (pc : Nat) (off : Int) : Option Nat := match (pc : Int) + off with
  | .ofNat n => some n
  | .negSucc _ => none
def am_jp (pc : Nat) (off : Int) (ls : am_L) (st : List Value) (h : am_H) : Option am_O := match am_tg pc off with
  | some t => am_nx t ls st h
  | none => none
def am_br (c : Bool) (pc : Nat) (off : Int) (ls : am_L) (st : List Value) (h : am_H) : Option am_O := match am_tg pc off with
  | some t => if c = true then am_nx t ls st h else am_nx (pc + 3) ls st h
  | none => none
def am_cd (k : Jvm.ClassFile.Cond) (x y : Int32) : Bool := match k with
  | .eq => decide (x = y)
  | .ne => decide (¬ x = y)
  | .lt => decide (x < y)
  | .ge => decide (y ≤ x)
  | .gt => decide (y < x)
  | .le => decide (x ≤ y)
def am_pv (ls : am_L) (i : Nat) : Bool := match i with
  | 0 => true
  | j + 1 => match ls[j]? with
    | some (some w) => w.category == 1
    | _ => true
def am_st1 (ls : am_L) (i : Nat) (v : Value) : Option am_L := if i < ls.length ∧ am_pv ls i = true then some (ls.set i (some v)) else none
def am_st2 (ls : am_L) (i : Nat) (v : Value) : Option am_L := if i + 1 < ls.length ∧ am_pv ls i = true then some ((ls.set i (some v)).set (i + 1) none) else none
def am_ldI (pc i : Nat) (ls : am_L) (st : List Value) (h : am_H) : Option am_O := match ls[i]? with
  | some (some (.int x)) => am_nx pc ls (.int x :: st) h
  | _ => none
def am_ldL (pc i : Nat) (ls : am_L) (st : List Value) (h : am_H) : Option am_O := match ls[i]? with
  | some (some (.long x)) => am_nx pc ls (.long x :: st) h
  | _ => none
def am_ldA (pc i : Nat) (ls : am_L) (st : List Value) (h : am_H) : Option am_O := match ls[i]? with
  | some (some (.ref x)) => am_nx pc ls (.ref x :: st) h
  | _ => none
def am_stI (pc i : Nat) (ls : am_L) (st : List Value) (h : am_H) : Option am_O := match st with
  | .int x :: r => match am_st1 ls i (.int x) with
    | some ls' => am_nx pc ls' r h
    | none => none
  | _ => none
def am_stL (pc i : Nat) (ls : am_L) (st : List Value) (h : am_H) : Option am_O := match st with
  | .long x :: r => match am_st2 ls i (.long x) with
    | some ls' => am_nx pc ls' r h
    | none => none
  | _ => none
def am_stA (pc i : Nat) (ls : am_L) (st : List Value) (h : am_H) : Option am_O := match st with
  | .ref x :: r => match am_st1 ls i (.ref x) with
    | some ls' => am_nx pc ls' r h
    | none => none
  | _ => none
def am_inc (pc i : Nat) (k : Int) (ls : am_L) (st : List Value) (h : am_H) : Option am_O := match ls[i]? with
  | some (some (.int x)) => match am_st1 ls i (.int (x + Int32.ofInt k)) with
    | some ls' => am_nx pc ls' st h
    | none => none
  | _ => none
def am_b2 (f : Int32 → Int32 → Int32) (pc : Nat) (ls : am_L) (st : List Value) (h : am_H) : Option am_O := match st with
  | .int y :: .int x :: r => am_nx (pc + 1) ls (.int (f x y) :: r) h
  | _ => none
def am_b2z (f : Int32 → Int32 → Int32) (pc : Nat) (ls : am_L) (st : List Value) (h : am_H) : Option am_O := match st with
  | .int y :: .int x :: r => if y = 0 then none else am_nx (pc + 1) ls (.int (f x y) :: r) h
  | _ => none
def am_u1 (f : Int32 → Int32) (pc : Nat) (ls : am_L) (st : List Value) (h : am_H) : Option am_O := match st with
  | .int x :: r => am_nx (pc + 1) ls (.int (f x) :: r) h
  | _ => none
def am_l2 (f : Int64 → Int64 → Int64) (pc : Nat) (ls : am_L) (st : List Value) (h : am_H) : Option am_O := match st with
  | .long y :: .long x :: r => am_nx (pc + 1) ls (.long (f x y) :: r) h
  | _ => none
def am_lcm (pc : Nat) (ls : am_L) (st : List Value) (h : am_H) : Option am_O := match st with
  | .long y :: .long x :: r => am_nx (pc + 1) ls (.int (lg_cmp x y) :: r) h
  | _ => none
def am_i2l (pc : Nat) (ls : am_L) (st : List Value) (h : am_H) : Option am_O := match st with
  | .int x :: r => am_nx (pc + 1) ls (.long x.toInt64 :: r) h
  | _ => none
def am_dup (pc : Nat) (ls : am_L) (st : List Value) (h : am_H) : Option am_O := match st with
  | v :: r => if v.category = 1 then am_nx (pc + 1) ls (v :: v :: r) h else none
  | _ => none
def am_pop (pc : Nat) (ls : am_L) (st : List Value) (h : am_H) : Option am_O := match st with
  | v :: r => if v.category = 1 then am_nx (pc + 1) ls r h else none
  | _ => none
def am_dx1 (pc : Nat) (ls : am_L) (st : List Value) (h : am_H) : Option am_O := match st with
  | v :: w :: r => if v.category = 1 ∧ w.category = 1 then am_nx (pc + 1) ls (v :: w :: v :: r) h else none
  | _ => none
def am_du2 (pc : Nat) (ls : am_L) (st : List Value) (h : am_H) : Option am_O := match st with
  | v :: w :: r => if v.category = 1 ∧ w.category = 1 then am_nx (pc + 1) ls (v :: w :: v :: w :: r) h else none
  | _ => none
def am_if1 (k : Jvm.ClassFile.Cond) (pc : Nat) (off : Int) (ls : am_L) (st : List Value) (h : am_H) : Option am_O := match st with
  | .int x :: r => am_br (am_cd k x 0) pc off ls r h
  | _ => none
def am_if2 (k : Jvm.ClassFile.Cond) (pc : Nat) (off : Int) (ls : am_L) (st : List Value) (h : am_H) : Option am_O := match st with
  | .int y :: .int x :: r => am_br (am_cd k x y) pc off ls r h
  | _ => none
def am_ifa (k : Jvm.ClassFile.ACond) (pc : Nat) (off : Int) (ls : am_L) (st : List Value) (h : am_H) : Option am_O := match st with
  | .ref y :: .ref x :: r =>
    if (x = 2 ∧ y = 2) ∨ ((x = 1 ∨ 3 ≤ x) ∧ (y = 1 ∨ 3 ≤ y)) then
      am_br (match k with
        | .eq => decide (x = y)
        | .ne => decide (¬ x = y)) pc off ls r h
    else none
  | _ => none
def am_tsw (d lo hi : Int) (offs : Array Int) (pc : Nat) (ls : am_L) (st : List Value) (h : am_H) : Option am_O := match st with
  | .int x :: r => if x.toInt < lo ∨ hi < x.toInt then am_jp pc d ls r h else match offs[(x.toInt - lo).toNat]? with
    | some off => am_jp pc off ls r h
    | none => none
  | _ => none
def am_gf (a b pc : Nat) (ls : am_L) (st : List Value) (h : am_H) : Option am_O := match st with
  | .ref x :: r => match h[x]? with
    | some (.inr (ci, fs)) => if ci = a then match fs[b]? with
        | some v => am_nx (pc + 3) ls (v :: r) h
        | none => none
      else none
    | _ => none
  | _ => none
def am_okf (ty : FieldType) (v : Value) : Bool := match ty, v with
  | .int, .int _ => true
  | .boolean, .int x => decide (x = 0 ∨ x = 1)
  | .object _, .ref _ => true
  | .array _, .ref _ => true
  | _, _ => false
def am_tyf (a b : Nat) : FieldType := (am_tyl.getD a (fun _ => .double)) b
def am_fin (a b : Nat) : Bool := match vwCl[a]? with
  | some (_, T, _) => (T b).2.2.2
  | none => true
def am_pf (M : am_M) (a b pc : Nat) (ls : am_L) (st : List Value) (h : am_H) : Option am_O := match st with
  | v :: .ref x :: r => match h[x]? with
    | some (.inr (ci, fs)) => if ci = a ∧ b < fs.length ∧ am_okf (am_tyf a b) v = true ∧ (am_fin a b = true → M.2.1 = true ∧ M.1 = a) then am_nx (pc + 3) ls r (h.set x (.inr (ci, fs.set b v))) else none
    | _ => none
  | _ => none
def am_out (i : Int32) (n : Nat) : Prop := i < 0 ∨ n ≤ i.toNatClampNeg
def am_outb (i : Int32) (n : Nat) : Bool := decide (i < 0) || decide (n ≤ i.toNatClampNeg)
def am_ial (pc : Nat) (ls : am_L) (st : List Value) (h : am_H) : Option am_O := match st with
  | .int i :: .ref x :: r => match h[x]? with
    | some (.inl (t, n, .inl f)) => if (t = 0 ∨ (t = 9 ∧ x = 0)) ∧ am_outb i n = false then am_nx (pc + 1) ls (.int (f i.toNatClampNeg) :: r) h else none
    | _ => none
  | _ => none
def am_bal (pc : Nat) (ls : am_L) (st : List Value) (h : am_H) : Option am_O := match st with
  | .int i :: .ref x :: r => match h[x]? with
    | some (.inl (t, n, .inl f)) => if (t = 1 ∨ t = 2) ∧ am_outb i n = false then am_nx (pc + 1) ls (.int (f i.toNatClampNeg) :: r) h else none
    | _ => none
  | _ => none
def am_aal (pc : Nat) (ls : am_L) (st : List Value) (h : am_H) : Option am_O := match st with
  | .int i :: .ref x :: r => match h[x]? with
    | some (.inl (t, n, .inr (.inr (.inr (.inr f))))) => if (t = 3 ∨ t = 4) ∧ am_outb i n = false then am_nx (pc + 1) ls (va_rf (f i.toNatClampNeg) :: r) h else none
    | _ => none
  | _ => none
def am_ias (pc : Nat) (ls : am_L) (st : List Value) (h : am_H) : Option am_O := match st with
  | .int v :: .int i :: .ref x :: r => match h[x]? with
    | some (.inl (t, n, .inl f)) => if t = 0 ∧ am_outb i n = false then am_nx (pc + 1) ls r (h.set x (.inl (t, n, .inl (upd f i.toNatClampNeg v)))) else none
    | _ => none
  | _ => none
def am_nrw (t : Nat) (v : Int32) : Int32 := if t = 1 then vp_nar .byte v else vp_nar .boolean v
def am_bas (pc : Nat) (ls : am_L) (st : List Value) (h : am_H) : Option am_O := match st with
  | .int v :: .int i :: .ref x :: r => match h[x]? with
    | some (.inl (t, n, .inl f)) => if (t = 1 ∨ t = 2) ∧ am_outb i n = false then am_nx (pc + 1) ls r (h.set x (.inl (t, n, .inl (upd f i.toNatClampNeg (am_nrw t v))))) else none
    | _ => none
  | _ => none
def am_obj (h : am_H) (y : Nat) : Option Nat := match h[y]? with
  | some (.inr (ci, _)) => if ci < 12 then some ci else none
  | _ => none
def am_aas (pc : Nat) (ls : am_L) (st : List Value) (h : am_H) : Option am_O := match st with
  | .ref v :: .int i :: .ref x :: r => match h[x]? with
    | some (.inl (t, n, .inr (.inr (.inr (.inr f))))) => match am_obj h v with
      | some ci => if (t = 3 ∨ (t = 4 ∧ ci = 7)) ∧ am_outb i n = false then am_nx (pc + 1) ls r (h.set x (.inl (t, n, .inr (.inr (.inr (.inr (va_up f i.toNatClampNeg (some v)))))))) else none
      | none => none
    | _ => none
  | _ => none
def am_aln (pc : Nat) (ls : am_L) (st : List Value) (h : am_H) : Option am_O := match st with
  | .ref x :: r => match h[x]? with
    | some (.inl (t, n, _)) => if t < 5 ∨ (t = 9 ∧ x = 0) ∨ (t = 8 ∧ x = 1) then am_nx (pc + 1) ls (.int (Int32.ofNat n) :: r) h else none
    | _ => none
  | _ => none
def am_nwa (ty : ArrayType) (pc : Nat) (ls : am_L) (st : List Value) (h : am_H) : Option am_O := match st with
  | .int n :: r => if ¬ n < 0 ∧ n.toNatClampNeg ≤ 100000 then match ty with
      | .int => am_nx (pc + 2) ls (.ref h.length :: r) (h ++ [.inl (0, n.toNatClampNeg, .inl (fun _ => 0))])
      | .byte => am_nx (pc + 2) ls (.ref h.length :: r) (h ++ [.inl (1, n.toNatClampNeg, .inl (fun _ => 0))])
      | .boolean => am_nx (pc + 2) ls (.ref h.length :: r) (h ++ [.inl (2, n.toNatClampNeg, .inl (fun _ => 0))])
      | _ => none
    else none
  | _ => none
def am_anw (a pc : Nat) (ls : am_L) (st : List Value) (h : am_H) : Option am_O := match st with
  | .int n :: r => if ¬ n < 0 ∧ n.toNatClampNeg ≤ 100000 then am_nx (pc + 3) ls (.ref h.length :: r) (h ++ [.inl (a, n.toNatClampNeg, .inr (.inr (.inr (.inr (fun _ => none)))))]) else none
  | _ => none
def am_new (a pc : Nat) (ls : am_L) (st : List Value) (h : am_H) : Option am_O := am_nx (pc + 3) ls (.ref h.length :: st) (h ++ [.inr (a, am_dfl.getD a [])])
def am_cst (a pc : Nat) (ls : am_L) (st : List Value) (h : am_H) : Option am_O := match st with
  | .ref x :: r => match h[x]? with
    | some (.inr (ci, _)) => if ci = a then am_nx (pc + 3) ls (.ref x :: r) h else none
    | _ => none
  | _ => none
def am_ent (as : List Value) : am_L := as.flatMap fun v => if v.category = 2 then [some v, none] else [some v]
def am_sum (st : List Value) : Nat := (st.map fun v => v.category).sum
def am_cl (M : am_M) (mj : Nat) (as rest : List Value) (pc : Nat) (ls : am_L) : Option am_O := match am_mt[mj]? with
  | some N => if am_sum rest ≤ 8 ∧ N.2.2.2.2.1 + 1 ≤ M.2.2.2.2.1 ∧ 8 + (N.2.2.2.1 + 11) + N.2.2.2.2.2.1 ≤ M.2.2.2.2.2.1 ∧ (am_ent as).length ≤ N.2.2.2.1 then some (.inr (.inr (mj, as, (pc + 3, ls, rest)))) else none
  | none => none
def am_own (mj : Nat) : Nat := match am_mt[mj]? with
  | some N => N.1
  | none => 1000
def am_nat (M : am_M) (st : List Value) : Bool := decide (1 ≤ M.2.2.2.2.1) && decide (am_sum st + 20 ≤ M.2.2.2.2.2.1)
def am_ivv (M : am_M) (a b pc : Nat) (ls : am_L) (st : List Value) (h : am_H) : Option am_O :=
  if a = 1 then match st with
    | .ref x :: r => match h[x]? with
      | some (.inl (3, _)) => if am_nat M r = true ∧ 3 ≤ x then am_nx (pc + 3) ls (.ref 2 :: r) h else none
      | _ => none
    | _ => none
  else match a with
    | mj + 10 => match st.drop b with
      | .ref x :: r => match h[x]? with
        | some (.inr (ci, _)) => if ci = am_own mj ∧ b ≤ st.length then am_cl M mj (.ref x :: (st.take b).reverse) r pc ls else none
        | _ => none
      | _ => none
    | _ => none
def am_ivi (M : am_M) (a b pc : Nat) (ls : am_L) (st : List Value) (_h : am_H) : Option am_O :=
  if a = 0 then match st with
    | .ref _ :: r => if am_nat M r = true then am_nx (pc + 3) ls r _h else none
    | _ => none
  else match a with
    | mj + 10 => match st.drop b with
      | .ref x :: r => if b ≤ st.length then am_cl M mj (.ref x :: (st.take b).reverse) r pc ls else none
      | _ => none
    | _ => none
def am_cpr (h : am_H) (f : Nat → Option Nat) (sp n : Nat) : Bool := (List.range n).all fun i => match f (sp + i) with
  | some y => (am_obj h y).isSome
  | none => true
def am_cpb (f : Nat → Int32) (sp n : Nat) : Bool := (List.range n).all fun i => fits .byte (.int (f (sp + i)))
def am_cpi (sp dp n : Int32) (n0 n1 : Nat) : Bool := decide (¬ sp < 0) && decide (¬ dp < 0) && decide (¬ n < 0) && decide (sp.toNatClampNeg + n.toNatClampNeg ≤ n0) && decide (dp.toNatClampNeg + n.toNatClampNeg ≤ n1)
def am_ivs (M : am_M) (a b pc : Nat) (ls : am_L) (st : List Value) (h : am_H) : Option am_O :=
  if a = 2 then match st with
    | .int n :: .int dp :: .ref y :: .int sp :: .ref x :: r => match h[x]? with
      | some (.inl (3, n0, .inr (.inr (.inr (.inr f))))) => match h[y]? with
        | some (.inl (3, n1, .inr (.inr (.inr (.inr g))))) => if am_nat M r = true ∧ am_cpi sp dp n n0 n1 = true ∧ am_cpr h f sp.toNatClampNeg n.toNatClampNeg = true then am_nx (pc + 3) ls r (h.set y (.inl (3, n1, .inr (.inr (.inr (.inr (va_cpy f g sp.toNatClampNeg dp.toNatClampNeg n.toNatClampNeg))))))) else none
        | _ => none
      | _ => none
    | _ => none
  else if a = 3 then match st with
    | .int n :: .int dp :: .ref y :: .int sp :: .ref x :: r => match h[x]? with
      | some (.inl (1, n0, .inl f)) => match h[y]? with
        | some (.inl (1, n1, .inl g)) => if am_nat M r = true ∧ am_cpi sp dp n n0 n1 = true ∧ am_cpb f sp.toNatClampNeg n.toNatClampNeg = true then am_nx (pc + 3) ls r (h.set y (.inl (1, n1, .inl (va_cpy f g sp.toNatClampNeg dp.toNatClampNeg n.toNatClampNeg)))) else none
        | _ => none
      | _ => none
    | _ => none
  else if a = 4 then match st with
    | .int x :: r => if am_nat M r = true then am_nx (pc + 3) ls (.int (if 0 ≤ x then x else 0 - x) :: r) h else none
    | _ => none
  else if a = 5 then match st with
    | .int y :: .int x :: r => if am_nat M r = true then am_nx (pc + 3) ls (.int (if x < y then y else x) :: r) h else none
    | _ => none
  else if a = 6 then match st with
    | .int y :: .int x :: r => if am_nat M r = true then am_nx (pc + 3) ls (.int (if y < x then y else x) :: r) h else none
    | _ => none
  else match a with
    | mj + 10 => if b ≤ st.length then am_cl M mj (st.take b).reverse (st.drop b) pc ls else none
    | _ => none
def am_rtI (M : am_M) (st : List Value) : Option am_O := match st with
  | [.int x] => if M.2.2.1 = 0 ∨ (M.2.2.1 = 1 ∧ (x = 0 ∨ x = 1)) then some (.inr (.inl (some (.int x)))) else none
  | _ => none
def am_rtL (M : am_M) (st : List Value) : Option am_O := match st with
  | [.long x] => if M.2.2.1 = 2 then some (.inr (.inl (some (.long x)))) else none
  | _ => none
def am_rtA (M : am_M) (st : List Value) : Option am_O := match st with
  | [.ref x] => if M.2.2.1 = 3 then some (.inr (.inl (some (.ref x)))) else none
  | _ => none
def am_rtV (M : am_M) (st : List Value) : Option am_O := match st with
  | [] => if M.2.2.1 = 4 then some (.inr (.inl none)) else none
  | _ => none
def am_ldc (a : Nat) (z : Int) (pc : Nat) (ls : am_L) (st : List Value) (h : am_H) : Option am_O := if a = 1 then am_nx pc ls (.ref 2 :: st) h else am_nx pc ls (.int (Int32.ofInt z) :: st) h
def am_step (M : am_M) (r : am_R) (pc : Nat) (ls : am_L) (st : List Value) (h : am_H) : Option am_O := match r.1 with
  | .iconst k => am_nx (pc + 1) ls (.int (Int32.ofInt k) :: st) h
  | .bipush k => am_nx (pc + 2) ls (.int (Int8.ofInt k).toInt32 :: st) h
  | .sipush k => am_nx (pc + 3) ls (.int (Int16.ofInt k).toInt32 :: st) h
  | .lconst k => am_nx (pc + 1) ls (.long (Int64.ofNat k) :: st) h
  | .aconst_null => am_nx (pc + 1) ls (.null :: st) h
  | .ldc _ => am_ldc r.2.1 r.2.2.2.2 (pc + 2) ls st h
  | .ldc_w _ => if r.2.1 = 0 then am_nx (pc + 3) ls (.int (Int32.ofInt r.2.2.2.2) :: st) h else none
  | .ldc2_w _ => am_nx (pc + 3) ls (.long (Int64.ofInt r.2.2.2.2) :: st) h
  | .iload_n k => am_ldI (pc + 1) k ls st h
  | .iload k => am_ldI (pc + 2) k ls st h
  | .lload_n k => am_ldL (pc + 1) k ls st h
  | .lload k => am_ldL (pc + 2) k ls st h
  | .aload_n k => am_ldA (pc + 1) k ls st h
  | .aload k => am_ldA (pc + 2) k ls st h
  | .istore_n k => am_stI (pc + 1) k ls st h
  | .istore k => am_stI (pc + 2) k ls st h
  | .lstore_n k => am_stL (pc + 1) k ls st h
  | .lstore k => am_stL (pc + 2) k ls st h
  | .astore_n k => am_stA (pc + 1) k ls st h
  | .astore k => am_stA (pc + 2) k ls st h
  | .iinc i k => am_inc (pc + 3) i k ls st h
  | .iadd => am_b2 (fun x y => x + y) pc ls st h
  | .isub => am_b2 (fun x y => x - y) pc ls st h
  | .imul => am_b2 (fun x y => x * y) pc ls st h
  | .iand => am_b2 (fun x y => x &&& y) pc ls st h
  | .ior => am_b2 (fun x y => x ||| y) pc ls st h
  | .ixor => am_b2 (fun x y => x ^^^ y) pc ls st h
  | .ishl => am_b2 (fun x y => x <<< (y &&& 31)) pc ls st h
  | .ishr => am_b2 (fun x y => x >>> (y &&& 31)) pc ls st h
  | .iushr => am_b2 (fun x y => (x.toUInt32 >>> (y.toUInt32 &&& Int32.toUInt32 31)).toInt32) pc ls st h
  | .idiv => am_b2z (fun x y => x / y) pc ls st h
  | .irem => am_b2z (fun x y => x - x / y * y) pc ls st h
  | .ineg => am_u1 (fun x => -x) pc ls st h
  | .i2b => am_u1 (fun x => x.toInt8.toInt32) pc ls st h
  | .ladd => am_l2 (fun x y => x + y) pc ls st h
  | .lmul => am_l2 (fun x y => x * y) pc ls st h
  | .lcmp => am_lcm pc ls st h
  | .i2l => am_i2l pc ls st h
  | .dup => am_dup pc ls st h
  | .pop => am_pop pc ls st h
  | .dup_x1 => am_dx1 pc ls st h
  | .dup2 => am_du2 pc ls st h
  | .ifCond k off => am_if1 k pc off ls st h
  | .if_icmp k off => am_if2 k pc off ls st h
  | .if_acmp k off => am_ifa k pc off ls st h
  | .goto off => am_jp pc off ls st h
  | .tableswitch d lo hi offs => am_tsw d lo hi offs pc ls st h
  | .getfield _ => am_gf r.2.1 r.2.2.1 pc ls st h
  | .putfield _ => am_pf M r.2.1 r.2.2.1 pc ls st h
  | .getstatic _ => am_nx (pc + 3) ls (.ref 1 :: st) h
  | .iaload => am_ial pc ls st h
  | .baload => am_bal pc ls st h
  | .aaload => am_aal pc ls st h
  | .iastore => am_ias pc ls st h
  | .bastore => am_bas pc ls st h
  | .aastore => am_aas pc ls st h
  | .arraylength => am_aln pc ls st h
  | .newarray ty => am_nwa ty pc ls st h
  | .anewarray _ => am_anw r.2.1 pc ls st h
  | .new _ => am_new r.2.1 pc ls st h
  | .checkcast _ => am_cst r.2.1 pc ls st h
  | .invokevirtual _ => am_ivv M r.2.1 r.2.2.1 pc ls st h
  | .invokespecial _ => am_ivi M r.2.1 r.2.2.1 pc ls st h
  | .invokestatic _ => am_ivs M r.2.1 r.2.2.1 pc ls st h
  | .ireturn => am_rtI M st
  | .lreturn => am_rtL M st
  | .areturn => am_rtA M st
  | .return_ => am_rtV M st
  | _ => none
def am_pad (n : Nat) (l : am_L) : am_L := l ++ List.replicate (n - l.length) none
def am_fe (tab : List (Nat × am_R)) (pc : Nat) : Option am_R := match tab with
  | [] => none
  | e :: t => if e.1 = pc then some e.2 else am_fe t pc
def am_at (mi pc : Nat) : Option am_R := match am_mt[mi]? with
  | some M => am_fe M.2.2.2.2.2.2 pc
  | none => none
def am_en (mj : Nat) (as : List Value) : am_F := match am_mt[mj]? with
  | some N => (0, am_pad N.2.2.2.1 (am_ent as), [])
  | none => (0, [], [])
def am_run : Nat → Nat → am_F → am_H → Option (Option Value × am_H)
  | 0, _, _, _ => none
  | f + 1, mi, fr, h => match am_mt[mi]? with
    | none => none
    | some M => match am_fe M.2.2.2.2.2.2 fr.1 with
      | none => none
      | some r => match am_step M r fr.1 fr.2.1 fr.2.2 h with
        | none => none
        | some (.inl q) => am_run f mi q.1 q.2
        | some (.inr (.inl v)) => some (v, h)
        | some (.inr (.inr q)) => match am_run f q.1 (am_en q.1 q.2.1) h with
          | none => none
          | some w => am_run f mi (q.2.2.1, q.2.2.2.1, w.1.toList ++ q.2.2.2.2) w.2
end
section
/-! the rows are right: each is what the bytes say, and its word stands in the table -/
def am_len (i : Instr) : Nat := match i with
  | .bipush _ | .ldc _ | .iload _ | .lload _ | .aload _ | .istore _ | .lstore _ | .astore _ | .newarray _ => 2
  | .sipush _ | .ldc_w _ | .ldc2_w _ | .iinc _ _ | .ifCond _ _ | .if_icmp _ _ | .if_acmp _ _ | .goto _ | .getfield _ | .putfield _ | .getstatic _ | .anewarray _ | .new _ | .checkcast _ | .invokevirtual _ | .invokespecial _ | .invokestatic _ => 3
  | _ => 1
def am_sw (i : Instr) : Bool := match i with
  | .tableswitch .. => true
  | _ => false
def am_dok (cc : ByteArray) (pc : Nat) (i : Instr) : Bool := match decode cc pc with
  | .ok (j, n) => decide (j = i) && (am_sw j || n == am_len j)
  | _ => false
def am_w (q : Nat) (w : Jvm.Cond) : Bool := decide (lw_tbl[q]? = some w)
def am_fok (own idx a b q : Nat) (z : Int) : Bool := match vwCl[a]? with
  | some (_, T, N) => decide (b < N) && (if z = 0 then am_w q (.fieldLink (am_cnm own) idx (T b).1 (T b).2.1 (T b).2.2.1) else if z = 1 then am_w q (.fieldLinkNest (am_cnm own) idx (T b).1 (T b).2.1 (T b).2.2.1 "CriersOffice") else am_w q (.fieldLink (am_cnm own) idx RJx4a65c (T b).2.1 (T b).2.2.1) && am_w 98 (.sameField RJx4a65c (T b).1 (T b).2.1 (T b).2.2.1))
  | none => false
def am_pok (own a b : Nat) (z : Int) : Bool := match vwCl[a]? with
  | some (_, T, _) => if (T b).2.2.2 = true then decide (z = 0 ∧ (T b).1 = am_cnm own) else true
  | none => false
def am_gcN : MethodName := ⟨"java/lang/Object", "getClass", "()Ljava/lang/Class;"⟩
def am_mok (own idx a b q : Nat) (z : Int) (st : Bool) (ini : Bool) : Bool := match am_my[a - 10]? with
  | some Y => decide (10 ≤ a) && (if z = 0 then am_w q (.methodLink (am_cnm own) idx Y.1) else am_w q (.methodLinkNest (am_cnm own) idx Y.1 "CriersOffice")) && decide (Y.2.2.2.1 = b) && decide (Y.2.2.2.2.1 = st) && decide ((Y.1.name = "<init>") = (ini = true))
  | none => false
def am_rok (own : Nat) (cc : ByteArray) (e : Nat × am_R) : Bool := am_dok cc e.1 e.2.1 && (match e with
  | (_, i, a, b, q, z) => match i with
    | .getfield idx => am_fok own idx a b q z
    | .putfield idx => am_fok own idx a b q z && am_pok own a b z
    | .new idx => (match vwCl[a]? with
      | some (C, _, N) => am_w q (.classLink (am_cnm own) idx C) && am_w b (.instantiable C N) && am_w z.toNat (.initialized C)
      | none => false)
    | .anewarray idx => (a == 3 && am_w q (.classLink (am_cnm own) idx "java/lang/Object")) || (a == 4 && am_w q (.classLink (am_cnm own) idx RX6))
    | .checkcast idx => (match vwCl[a]? with
      | some (C, _, _) => am_w q (.classLink (am_cnm own) idx C)
      | none => false)
    | .ldc idx => if a = 1 then am_w q (.classLink (am_cnm own) idx "[Ljava/lang/Object;") else am_w q (.constant (am_cnm own) idx (Int32.ofInt z))
    | .ldc_w idx => am_w q (.constant (am_cnm own) idx (Int32.ofInt z))
    | .ldc2_w idx => am_w q (.constantLong (am_cnm own) idx (Int64.ofInt z))
    | .getstatic idx => am_w q (.fieldLink (am_cnm own) idx RJx4a65c "DEFAULTCAPACITY_EMPTY_ELEMENTDATA" "[Ljava/lang/Object;")
    | .invokevirtual idx => if a = 1 then am_w q (.methodLink (am_cnm own) idx am_gcN) else am_mok own idx a b q z false false
    | .invokespecial idx => if a = 0 then am_w q (.methodLink (am_cnm own) idx objectInit) else am_mok own idx a b q z false true
    | .invokestatic idx => if a = 2 ∨ a = 3 then am_w q (.methodLink (am_cnm own) idx arraycopyName) else if a = 4 then am_w q (.methodLink (am_cnm own) idx Lib.Math.abs.name) else if a = 5 then am_w q (.methodLink (am_cnm own) idx Lib.Math.max.name) else if a = 6 then am_w q (.methodLink (am_cnm own) idx Lib.Math.min.name) else am_mok own idx a b q z true false
    | _ => true)
def am_yok (M : am_M) (Y : am_Y) : Bool := match Y with
  | (y, c, ret, np, st, pc, pi, pk, ps) => am_w pc (.code y c M.2.2.2.1 ret) && am_w pi (.initialized y.cls) && (if st = true then am_w pk (.static y) else am_w pk (.instanceMethod y)) && (if st = true then true else if y.name = "<init>" then true else am_w ps (.selects y.cls y y)) && decide (y.cls ≠ "java/lang/invoke/MethodHandle" ∧ y.cls ≠ "java/lang/invoke/VarHandle") && plainName y.cls && decide ((parseMethodDescriptor y.desc).map (fun d => d.parameters.length) = some np) && decide (y.cls = am_cnm M.1) && decide (M.2.1 = decide (y.name = "<init>"))
    && (match M.2.2.1 with
      | 0 => decide (ret = some .int)
      | 1 => decide (ret = some .boolean)
      | 2 => decide (ret = some .long)
      | 3 => (match ret with
        | some (.object _) => true
        | some (.array _) => true
        | _ => false)
      | 4 => decide (ret = none)
      | _ => false)
def am_chk (i : Nat) : Bool := match am_mt[i]? with
  | some M => (match am_my[i]? with
    | some Y => am_yok M Y && M.2.2.2.2.2.2.all (am_rok M.1 Y.2.1)
    | none => false)
  | none => false
def am_chkL (lo n : Nat) : Bool := ((am_t195.drop lo).take n).all (am_rok 19 cL_law)
theorem am_rng {a n : Nat} {f : Nat → Bool} (h : (List.range' a n).all f = true) {i : Nat} (h1 : a ≤ i) (h2 : i < a + n) : f i = true := List.all_eq_true.mp h i (List.mem_range'_1.mpr ⟨h1, h2⟩)
end
section
theorem am_kc0 : (List.range' 0 7).all am_chk = true := by decide +kernel
theorem am_kc1 : (List.range' 7 10).all am_chk = true := by decide +kernel
theorem am_kc2 : (List.range' 17 4).all am_chk = true := by decide +kernel
theorem am_kc3 : (List.range' 21 9).all am_chk = true := by decide +kernel
theorem am_kc4 : (List.range' 30 9).all am_chk = true := by decide +kernel
theorem am_kc5 : (List.range' 39 4).all am_chk = true := by decide +kernel
theorem am_kc6 : (List.range' 43 5).all am_chk = true := by decide +kernel
theorem am_kc7 : (List.range' 48 5).all am_chk = true := by decide +kernel
theorem am_kc8 : (List.range' 53 3).all am_chk = true := by decide +kernel
theorem am_kc9 : (List.range' 56 6).all am_chk = true := by decide +kernel
theorem am_kc10 : (List.range' 62 3).all am_chk = true := by decide +kernel
theorem am_kc11 : (List.range' 65 5).all am_chk = true := by decide +kernel
theorem am_kc12 : (List.range' 70 6).all am_chk = true := by decide +kernel
theorem am_kc13 : (List.range' 76 8).all am_chk = true := by decide +kernel
theorem am_kc14 : (List.range' 84 10).all am_chk = true := by decide +kernel
theorem am_kc15 : (List.range' 94 5).all am_chk = true := by decide +kernel
theorem am_kc16 : (List.range' 99 3).all am_chk = true := by decide +kernel
theorem am_kc17 : (List.range' 102 1).all am_chk = true := by decide +kernel
theorem am_kc18 : (List.range' 103 6).all am_chk = true := by decide +kernel
end
section
theorem am_kc19 : (List.range' 109 5).all am_chk = true := by decide +kernel
theorem am_kc20 : (List.range' 114 5).all am_chk = true := by decide +kernel
theorem am_kc21 : (List.range' 119 3).all am_chk = true := by decide +kernel
theorem am_kc22 : (List.range' 122 5).all am_chk = true := by decide +kernel
theorem am_kc23 : (List.range' 127 4).all am_chk = true := by decide +kernel
theorem am_kc24 : (List.range' 131 6).all am_chk = true := by decide +kernel
theorem am_kc25 : (List.range' 137 2).all am_chk = true := by decide +kernel
theorem am_kc26 : (List.range' 139 5).all am_chk = true := by decide +kernel
theorem am_kc27 : (List.range' 144 5).all am_chk = true := by decide +kernel
theorem am_kc28 : (List.range' 149 4).all am_chk = true := by decide +kernel
theorem am_kc29 : (List.range' 153 1).all am_chk = true := by decide +kernel
theorem am_kc30 : (List.range' 154 3).all am_chk = true := by decide +kernel
theorem am_kc31 : (List.range' 157 5).all am_chk = true := by decide +kernel
theorem am_kc32 : (List.range' 162 4).all am_chk = true := by decide +kernel
theorem am_kc33 : (List.range' 166 1).all am_chk = true := by decide +kernel
theorem am_kc34 : (List.range' 167 3).all am_chk = true := by decide +kernel
theorem am_kc35 : (List.range' 170 4).all am_chk = true := by decide +kernel
theorem am_kc36 : (List.range' 174 1).all am_chk = true := by decide +kernel
theorem am_kc37 : (List.range' 175 13).all am_chk = true := by decide +kernel
theorem am_kc38 : (List.range' 188 7).all am_chk = true := by decide +kernel
end
section
theorem am_kl0 : am_chkL 0 60 = true := by decide +kernel
theorem am_kl1 : am_chkL 60 60 = true := by decide +kernel
theorem am_kl2 : am_chkL 120 60 = true := by decide +kernel
theorem am_kl3 : am_chkL 180 60 = true := by decide +kernel
theorem am_kl4 : am_chkL 240 60 = true := by decide +kernel
theorem am_kl5 : am_chkL 300 60 = true := by decide +kernel
theorem am_kl6 : am_chkL 360 60 = true := by decide +kernel
theorem am_kl7 : am_chkL 420 60 = true := by decide +kernel
theorem am_kl8 : am_chkL 480 60 = true := by decide +kernel
theorem am_kl9 : am_chkL 540 60 = true := by decide +kernel
theorem am_kl10 : am_chkL 600 60 = true := by decide +kernel
theorem am_kl11 : am_chkL 660 60 = true := by decide +kernel
theorem am_kl12 : am_chkL 720 60 = true := by decide +kernel
theorem am_kl13 : am_chkL 780 60 = true := by decide +kernel
theorem am_kl14 : am_chkL 840 60 = true := by decide +kernel
theorem am_kl15 : am_chkL 900 60 = true := by decide +kernel
theorem am_kl16 : am_chkL 960 60 = true := by decide +kernel
end
section
theorem am_chk_all (i : Nat) (hi : i < 195) : am_chk i = true :=
  if h19 : i < 109 then (if h9 : i < 56 then (if h4 : i < 30 then (if h2 : i < 17 then (if h1 : i < 7 then (am_rng am_kc0 (by omega) (by omega)) else (am_rng am_kc1 (by omega) (by omega))) else (if h3 : i < 21 then (am_rng am_kc2 (by omega) (by omega)) else (am_rng am_kc3 (by omega) (by omega)))) else (if h6 : i < 43 then (if h5 : i < 39 then (am_rng am_kc4 (by omega) (by omega)) else (am_rng am_kc5 (by omega) (by omega))) else (if h7 : i < 48 then (am_rng am_kc6 (by omega) (by omega)) else (if h8 : i < 53 then (am_rng am_kc7 (by omega) (by omega)) else (am_rng am_kc8 (by omega) (by omega)))))) else (if h14 : i < 84 then (if h11 : i < 65 then (if h10 : i < 62 then (am_rng am_kc9 (by omega) (by omega)) else (am_rng am_kc10 (by omega) (by omega))) else (if h12 : i < 70 then (am_rng am_kc11 (by omega) (by omega)) else (if h13 : i < 76 then (am_rng am_kc12 (by omega) (by omega)) else (am_rng am_kc13 (by omega) (by omega))))) else (if h16 : i < 99 then (if h15 : i < 94 then (am_rng am_kc14 (by omega) (by omega)) else (am_rng am_kc15 (by omega) (by omega))) else (if h17 : i < 102 then (am_rng am_kc16 (by omega) (by omega)) else (if h18 : i < 103 then (am_rng am_kc17 (by omega) (by omega)) else (am_rng am_kc18 (by omega) (by omega))))))) else (if h29 : i < 153 then (if h24 : i < 131 then (if h21 : i < 119 then (if h20 : i < 114 then (am_rng am_kc19 (by omega) (by omega)) else (am_rng am_kc20 (by omega) (by omega))) else (if h22 : i < 122 then (am_rng am_kc21 (by omega) (by omega)) else (if h23 : i < 127 then (am_rng am_kc22 (by omega) (by omega)) else (am_rng am_kc23 (by omega) (by omega))))) else (if h26 : i < 139 then (if h25 : i < 137 then (am_rng am_kc24 (by omega) (by omega)) else (am_rng am_kc25 (by omega) (by omega))) else (if h27 : i < 144 then (am_rng am_kc26 (by omega) (by omega)) else (if h28 : i < 149 then (am_rng am_kc27 (by omega) (by omega)) else (am_rng am_kc28 (by omega) (by omega)))))) else (if h34 : i < 167 then (if h31 : i < 157 then (if h30 : i < 154 then (am_rng am_kc29 (by omega) (by omega)) else (am_rng am_kc30 (by omega) (by omega))) else (if h32 : i < 162 then (am_rng am_kc31 (by omega) (by omega)) else (if h33 : i < 166 then (am_rng am_kc32 (by omega) (by omega)) else (am_rng am_kc33 (by omega) (by omega))))) else (if h36 : i < 174 then (if h35 : i < 170 then (am_rng am_kc34 (by omega) (by omega)) else (am_rng am_kc35 (by omega) (by omega))) else (if h37 : i < 175 then (am_rng am_kc36 (by omega) (by omega)) else (if h38 : i < 188 then (am_rng am_kc37 (by omega) (by omega)) else (am_rng am_kc38 (by omega) (by omega)))))))
end
section
/-! what the small machine's cells and frames are in the big one -/
abbrev am_G : Type := (Nat × Nat × Nat × Nat) × (Nat × (Nat → Int32)) × va_G × (Nat → ClassId)
def am_ad (G : am_G) (k : Nat) : Nat := match k with
  | 0 => G.1.2.1
  | 1 => G.1.2.2.1
  | 2 => G.1.2.2.2
  | j + 3 => G.1.1 + j
def am_cv (G : am_G) (v : Value) : Value := match v with
  | .ref k => .ref (am_ad G k)
  | .int x => .int x
  | .long x => .long x
  | .float x => .float x
  | .double x => .double x
  | .null => .null
  | .retAddr x => .retAddr x
theorem am_cv_cat (G : am_G) (v : Value) : (am_cv G v).category = v.category := by cases v <;> rfl
def am_ca (G : am_G) (a : vp_A) : vp_A := (a.1, match a.2 with
  | .inl f => .inl f
  | .inr (.inl f) => .inr (.inl f)
  | .inr (.inr (.inl f)) => .inr (.inr (.inl f))
  | .inr (.inr (.inr (.inl f))) => .inr (.inr (.inr (.inl f)))
  | .inr (.inr (.inr (.inr f))) => .inr (.inr (.inr (.inr (fun j => (f j).map (am_ad G))))))
def am_cc (G : am_G) (c : am_C) : va_E := match c with
  | .inl x => .inl (G.2.2.2 x.1, am_ca G x.2)
  | .inr x => .inr (x.1, x.2.map (am_cv G))
def am_ws (G : am_G) (h : am_H) : va_W := (h.drop 3).zipIdx.map (fun q => (G.1.1 + q.2, am_cc G q.1))
def am_ext (G : am_G) : am_H := [.inl (9, G.2.1.1, .inl G.2.1.2), .inl (8, 0, .inr (.inr (.inr (.inr (fun _ => none))))), .inr (99, [])]
def am_A (G : am_G) : Nat → Prop := fun q => G.1.1 ≤ q
def am_tys (G : am_G) : List (ClassId × FieldType) := [(G.2.2.2 0, .int), (G.2.2.2 1, .byte), (G.2.2.2 2, .boolean), (G.2.2.2 3, .object "java/lang/Object"), (G.2.2.2 4, .object RX6)]
def am_P (G : am_G) (h : am_H) (H : Heap) : Prop := va_P G.2.2.1 vwCl (am_ws G h) H ∧ h.take 3 = am_ext G ∧ H.size + 3 = G.1.1 + h.length
theorem am_ws_get {G : am_G} {h : am_H} {k : Nat} {c : am_C} (hk : h[k + 3]? = some c) : (am_ws G h)[k]? = some (G.1.1 + k, am_cc G c) := by
  have e : (3 + k) = k + 3 := Nat.add_comm 3 k
  simp [am_ws, List.getElem?_zipIdx, List.getElem?_drop, e, hk]
theorem am_ws_len (G : am_G) (h : am_H) : (am_ws G h).length = h.length - 3 := by simp [am_ws]
theorem am_ws_inv {G : am_G} {h : am_H} {k : Nat} {q : Nat × va_E} (hk : (am_ws G h)[k]? = some q) : ∃ c, h[k + 3]? = some c ∧ q = (G.1.1 + k, am_cc G c) := by
  have e : (3 + k) = k + 3 := Nat.add_comm 3 k
  have hl : k < (am_ws G h).length := (List.getElem?_eq_some_iff.mp hk).1
  rw [am_ws_len] at hl
  have h2 : k + 3 < h.length := by omega
  refine ⟨h[k + 3], List.getElem?_eq_getElem h2, ?_⟩
  rw [am_ws_get (List.getElem?_eq_getElem h2)] at hk
  exact (Option.some.inj hk).symm
theorem am_ws_set (G : am_G) (h : am_H) (k : Nat) (c : am_C) : (am_ws G h).set k (G.1.1 + k, am_cc G c) = am_ws G (h.set (k + 3) c) := by
  apply List.ext_getElem?
  intro j
  by_cases hj : k = j
  · subst hj
    by_cases hl : k + 3 < h.length
    · rw [List.getElem?_set_self (by rw [am_ws_len]; omega), am_ws_get (c := c) (by rw [List.getElem?_set_self hl])]
    · rw [List.getElem?_eq_none (by rw [List.length_set, am_ws_len]; omega), List.getElem?_eq_none (by rw [am_ws_len, List.length_set]; omega)]
  · rw [List.getElem?_set_ne hj]
    by_cases hl : j + 3 < h.length
    · rw [am_ws_get (List.getElem?_eq_getElem hl), am_ws_get (c := h[j + 3]) (by rw [List.getElem?_set_ne (by omega), List.getElem?_eq_getElem hl])]
    · rw [List.getElem?_eq_none (by rw [am_ws_len]; omega), List.getElem?_eq_none (by rw [am_ws_len, List.length_set]; omega)]
theorem am_ws_push (G : am_G) {h : am_H} (h3 : 3 ≤ h.length) (c : am_C) : am_ws G (h ++ [c]) = am_ws G h ++ [(G.1.1 + (h.length - 3), am_cc G c)] := by
  simp [am_ws, List.drop_append_of_le_length h3, List.zipIdx_append]
theorem am_D (G : am_G) (h : am_H) : va_D (am_A G) (am_ws G h) := by
  refine ⟨fun i j p q hi hj e => ?_, fun k q hk => ?_⟩
  · obtain ⟨c1, -, rfl⟩ := am_ws_inv hi
    obtain ⟨c2, -, rfl⟩ := am_ws_inv hj
    exact Nat.add_left_cancel e
  · obtain ⟨c1, -, rfl⟩ := am_ws_inv hk
    exact Nat.le_add_right _ _
/-- how many slots a cell takes -/
def am_sl (c : am_C) : Nat := match c with
  | .inl x => x.2.1
  | .inr x => x.2.length
def am_sz (h : am_H) : Nat := (h.map am_sl).sum
theorem am_sz_set {c' : am_C} : ∀ {h : am_H} {k : Nat} {c : am_C}, h[k]? = some c → am_sl c' = am_sl c → am_sz (h.set k c') = am_sz h
  | [], k, c, hk, _ => by simp at hk
  | a :: t, 0, c, hk, e => by
    have : a = c := by simpa using hk
    subst this
    simp [am_sz, e]
  | a :: t, k + 1, c, hk, e => by
    have ih := am_sz_set (h := t) (k := k) (c := c) (by simpa using hk) e
    simp only [am_sz] at ih ⊢
    rw [List.map_set] at ih
    simp [ih]
theorem am_sz_push (h : am_H) (c : am_C) : am_sz (h ++ [c]) = am_sz h + am_sl c := by simp [am_sz]
/-- the words that stay true, and what the tables say -/
def am_kw (w : Jvm.Cond) : Bool := goodWord w || (match w with
  | .fieldLinkNest .. => true
  | .methodLinkNest .. => true
  | .castable .. => true
  | .declares _ => true
  | .arrayOver (.object _) => true
  | _ => false)
def am_K (G : am_G) (U : State) : Prop := (∀ w ∈ lw_tbl, am_kw w = true → ∀ a : Array Value, w.before a U = true) ∧ va_K G.2.2.1 vwCl (am_tys G) U ∧ va_Mi "[Ljava/lang/Object;" G.1.2.2.2 U
theorem am_wmv {s U : State} (hW : s.WarmedH U.vm) {w : Jvm.Cond} (hk : am_kw w = true) (hb : ∀ a : Array Value, w.before a s = true) (a : Array Value) : w.before a U = true := by
  by_cases hg : goodWord w = true
  · exact word_at (args := #[]) hW (good_of_word hg) (hb #[])
  · cases w with
    | fieldLinkNest => exact va_Nw.use rfl (va_Nw.warmF hW (hb #[]))
    | methodLinkNest => exact va_Nw.use rfl (va_Nw.warmM hW (hb #[]))
    | castable => exact va_Nw.use rfl (va_Nw.warmC hW (hb #[]))
    | declares => exact va_Nw.use rfl (va_Nw.warmD hW (hb #[]))
    | arrayOver ty =>
      cases ty with
      | object C => exact va_AO.use (va_AO.moved hW.alike (va_AO.of (hb #[])))
      | _ => exact absurd (by simpa [am_kw] using hk) hg
    | _ => exact absurd (by simpa [am_kw] using hk) hg
theorem am_K.mv {G : am_G} {s U : State} (hW : s.WarmedH U.vm) (h : am_K G s) : am_K G U :=
  ⟨fun w hw hk a => am_wmv hW hk (h.1 w hw hk) a, va_K.moved hW.alike h.2.1, va_Mi.moved hW.alike h.2.2⟩
theorem am_K.w {G : am_G} {s : State} (h : am_K G s) {q : Nat} {w : Jvm.Cond} (hq : am_w q w = true) (hk : am_kw w = true) (a : Array Value) : w.before a s = true :=
  h.1 w (List.mem_of_getElem? (of_decide_eq_true hq)) hk a
def am_E (G : am_G) (U : State) : Prop := (G.1.2.1 < G.1.1 ∧ G.1.2.2.1 < G.1.1 ∧ G.1.1 ≤ U.heap.size) ∧ va_X G.1.2.1 G.2.1.1 G.2.1.2 U U.heap ∧ va_Z RJx4a65c "DEFAULTCAPACITY_EMPTY_ELEMENTDATA" "[Ljava/lang/Object;" (.ref G.1.2.2.1) (am_A G) U U.heap ∧ va_T (.object "java/lang/Object") G.1.2.2.1 0 (fun _ => .null) (am_A G) U U.heap
theorem am_E.mv {G : am_G} {s U : State} {locs : List Loc} (hW : s.WarmedH U.vm) (hS : va_S (am_A G) s.heap U.heap locs) (h : am_E G s) : am_E G U := by
  obtain ⟨⟨h1, h2, h3⟩, h4, h5, h6⟩ := h
  exact ⟨⟨h1, h2, Nat.le_trans h3 hS.1⟩, (h4.moved hW.alike).kept (hS.2.1 _ (Nat.lt_of_lt_of_le h1 h3) (Nat.not_le.mpr h1)), (h5.moved hW.alike).kept hS.2.1, (h6.moved hW.alike).kept hS.2.1⟩
/-- a frame's locals -/
def am_LV (G : am_G) (c : Array Slot) (ls : am_L) : Prop := c.size = ls.length ∧ lv_wf c ∧ ∀ (i : Nat) (v : Value), ls[i]? = some (some v) → c[i]? = some (.val (am_cv G v))
def am_pr (G : am_G) (ls : am_L) : List (Nat × Value) := ls.zipIdx.filterMap (fun q => q.1.map (fun v => (q.2, am_cv G v)))
theorem am_pr_mem {G : am_G} {ls : am_L} {i : Nat} {v : Value} (h : ls[i]? = some (some v)) : (i, am_cv G v) ∈ am_pr G ls := by
  refine List.mem_filterMap.mpr ⟨(some v, i), ?_, rfl⟩
  exact List.mem_of_getElem? (i := i) (by simp [List.getElem?_zipIdx, h])
theorem am_pr_inv {G : am_G} {ls : am_L} {q : Nat × Value} (h : q ∈ am_pr G ls) : ∃ v, ls[q.1]? = some (some v) ∧ q.2 = am_cv G v := by
  obtain ⟨⟨o, i⟩, h1, h2⟩ := List.mem_filterMap.mp h
  cases o with
  | none => simp at h2
  | some v =>
    have e : (i, am_cv G v) = q := by simpa using h2
    subst e
    exact ⟨v, by simpa using List.mem_zipIdx_iff_getElem?.mp h1, rfl⟩
theorem am_LV.has {G : am_G} {c : Array Slot} {ls : am_L} (h : am_LV G c ls) : lv_has c ls.length (am_pr G ls) := by
  refine ⟨h.1, h.2.1, fun q hq => ?_⟩
  obtain ⟨v, h1, h2⟩ := am_pr_inv hq
  rw [h2]
  exact h.2.2 _ _ h1
theorem am_st1_inv {ls ls' : am_L} {i : Nat} {v : Value} (h : am_st1 ls i v = some ls') : i < ls.length ∧ am_pv ls i = true ∧ ls' = ls.set i (some v) := by
  unfold am_st1 at h
  split at h
  · rename_i hc
    exact ⟨hc.1, hc.2, (Option.some.inj h).symm⟩
  · cases h
theorem am_st2_inv {ls ls' : am_L} {i : Nat} {v : Value} (h : am_st2 ls i v = some ls') : i + 1 < ls.length ∧ am_pv ls i = true ∧ ls' = (ls.set i (some v)).set (i + 1) none := by
  unfold am_st2 at h
  split at h
  · rename_i hc
    exact ⟨hc.1, hc.2, (Option.some.inj h).symm⟩
  · cases h
theorem am_pv_cat {ls : am_L} {j : Nat} {w : Value} (h : am_pv ls (j + 1) = true) (hj : ls[j]? = some (some w)) : w.category = 1 := by
  simp only [am_pv, hj] at h
  exact eq_of_beq h
theorem am_LV.s1 {G : am_G} {c' : Array Slot} {ls ls' : am_L} {i : Nat} {v : Value} (hs : am_st1 ls i v = some ls') (h : lv_has c' ls.length ((i, am_cv G v) :: (am_pr G ls).filter (fun q => !(q.1 == i) && !(q.1 + 1 == i && q.2.category == 2)))) : am_LV G c' ls' := by
  obtain ⟨hi, hp, rfl⟩ := am_st1_inv hs
  refine ⟨by rw [List.length_set]; exact h.1, h.2.1, fun j w hj => ?_⟩
  by_cases e : i = j
  · subst e
    rw [List.getElem?_set_self hi] at hj
    have : v = w := by simpa using hj
    subst this
    exact h.2.2 _ List.mem_cons_self
  · rw [List.getElem?_set_ne e] at hj
    refine h.2.2 (j, am_cv G w) (List.mem_cons_of_mem _ (List.mem_filter.mpr ⟨am_pr_mem hj, ?_⟩))
    have h1 : (j == i) = false := by simpa using fun q => e q.symm
    by_cases e2 : j + 1 = i
    · subst e2
      have := am_pv_cat hp hj
      simp [am_cv_cat, this]
    · have h2 : (j + 1 == i) = false := by simpa using e2
      simp [h1, h2]
theorem am_LV.s2 {G : am_G} {c' : Array Slot} {ls ls' : am_L} {i : Nat} {v : Value} (hs : am_st2 ls i v = some ls') (h : lv_has c' ls.length ((i, am_cv G v) :: (am_pr G ls).filter (fun q => !(q.1 == i) && (!(q.1 == i + 1) && !(q.1 + 1 == i && q.2.category == 2))))) : am_LV G c' ls' := by
  obtain ⟨hi, hp, rfl⟩ := am_st2_inv hs
  refine ⟨by rw [List.length_set, List.length_set]; exact h.1, h.2.1, fun j w hj => ?_⟩
  by_cases e3 : i + 1 = j
  · subst e3
    rw [List.getElem?_set_self (by rw [List.length_set]; exact hi)] at hj
    cases hj
  rw [List.getElem?_set_ne e3] at hj
  by_cases e : i = j
  · subst e
    rw [List.getElem?_set_self (by omega)] at hj
    have : v = w := by simpa using hj
    subst this
    exact h.2.2 _ List.mem_cons_self
  · rw [List.getElem?_set_ne e] at hj
    refine h.2.2 (j, am_cv G w) (List.mem_cons_of_mem _ (List.mem_filter.mpr ⟨am_pr_mem hj, ?_⟩))
    have h1 : (j == i) = false := by simpa using fun q => e q.symm
    have h3 : (j == i + 1) = false := by simpa using fun q => e3 q.symm
    by_cases e2 : j + 1 = i
    · subst e2
      have := am_pv_cat hp hj
      have h5 : ¬ j = j + 1 + 1 := by omega
      simp [am_cv_cat, this, h5]
    · have h2 : (j + 1 == i) = false := by simpa using e2
      simp [h1, h2, h3]
theorem am_ent_args (G : am_G) : ∀ (as : List Value) (k i : Nat) (v : Value), (am_ent as)[i]? = some (some v) → (k + i, am_cv G v) ∈ lv_args k (as.map (am_cv G))
  | [], k, i, v, h => by simp [am_ent] at h
  | a :: t, k, i, v, h => by
    have ih := am_ent_args G t
    have e : am_ent (a :: t) = (if a.category = 2 then [some a, none] else [some a]) ++ am_ent t := rfl
    rw [e] at h
    simp only [List.map_cons, lv_args, am_cv_cat]
    by_cases hc : a.category = 2
    · rw [if_pos hc] at h ⊢
      match i, h with
      | 0, h =>
        have : a = v := by simpa using h
        subst this
        exact List.mem_cons_self
      | 1, h => simp at h
      | i + 2, h =>
        have h2 := ih (k + 2) i v (by simpa using h)
        rw [show k + (i + 2) = k + 2 + i by omega]
        exact List.mem_cons_of_mem _ h2
    · rw [if_neg hc] at h ⊢
      match i, h with
      | 0, h =>
        have : a = v := by simpa using h
        subst this
        exact List.mem_cons_self
      | i + 1, h =>
        have h2 := ih (k + 1) i v (by simpa using h)
        rw [show k + (i + 1) = k + 1 + i by omega]
        exact List.mem_cons_of_mem _ h2
theorem am_ent_len (G : am_G) (as : List Value) : (lg_sl (as.map (am_cv G))).length = (am_ent as).length := by
  induction as with
  | nil => rfl
  | cons a t ih =>
    have e1 : am_ent (a :: t) = (if a.category = 2 then [some a, none] else [some a]) ++ am_ent t := rfl
    have e2 : lg_sl ((a :: t).map (am_cv G)) = (if (am_cv G a).category = 2 then [Slot.val (am_cv G a), .second] else [.val (am_cv G a)]) ++ lg_sl (t.map (am_cv G)) := rfl
    rw [e1, e2, am_cv_cat, List.length_append, List.length_append, ih]
    by_cases hc : a.category = 2
    · simp [hc]
    · simp [hc]
theorem am_LV.entry (G : am_G) (as : List Value) {n : Nat} (h : (am_ent as).length ≤ n) : am_LV G ((lg_sl (as.map (am_cv G)) ++ List.replicate (n - (lg_sl (as.map (am_cv G))).length) Slot.unset).toArray) (am_pad n (am_ent as)) := by
  have h0 := lv_entry (as.map (am_cv G)) (n := n) (by rw [am_ent_len]; exact h)
  refine ⟨by rw [h0.1]; simp [am_pad]; omega, h0.2.1, fun i v hi => ?_⟩
  by_cases hl : i < (am_ent as).length
  · unfold am_pad at hi
    rw [List.getElem?_append_left hl] at hi
    have := am_ent_args G as 0 i v hi
    rw [Nat.zero_add] at this
    exact h0.2.2 _ this
  · unfold am_pad at hi
    rw [List.getElem?_append_right (by omega), List.getElem?_replicate] at hi
    split at hi <;> cases hi
end
section
/-! each instruction, once: what holds behind it in the small machine gives the walk before it in the big one -/
def am_I (G : am_G) (s : State) (h : am_H) (H : Heap) (locs : List Loc) (cells slots k0 z0 : Nat) : Prop := am_P G h H ∧ va_S (am_A G) s.heap H locs ∧ cells + k0 = h.length ∧ slots + z0 = am_sz h ∧ s.heap.size + 3 = G.1.1 + k0
def am_Kn (p : Program) (l : Launch) (e : Env) (R : Room) (s : State) (m : MethodId) (args : Array Value) (below : List Frame) (meth : Method) (c : Code) (Q : State → Prop) (G : am_G) (k0 z0 : Nat) (pc : Nat) (ls : am_L) (st : List Value) (h : am_H) : Prop :=
  ∀ (H : Heap) (locs : List Loc) (cells slots : Nat) (cl : Array Slot), am_I G s h H locs cells slots k0 z0 → am_LV G cl ls → W p l e R s m args below meth c H locs cells slots Q (F0 m pc cl (st.map (am_cv G)))
theorem am_tg_eq {pc : Nat} {off : Int} {t : Nat} (h : am_tg pc off = some t) : (pc : Int) + off = (t : Int) := by
  unfold am_tg at h
  split at h
  · rename_i n e
    rw [e]
    cases h
    rfl
  · cases h
section AMO
variable {p : Program} {l : Launch} {e : Env} {R : Room} {s : State} {m : MethodId} {args : Array Value} {below : List Frame} {meth : Method} {c : Code} {Q : State → Prop} {G : am_G} {k0 z0 : Nat} {cc : ByteArray} {pc : Nat} {ls ls' : am_L} {st : List Value} {h : am_H}
theorem am_o_iconst (hx : p.tables.exec = Jvm.exec) (hb : c.code = cc) {k : Int} (hd : decode cc pc = .ok (.iconst k, 1)) (K : am_Kn p l e R s m args below meth c Q G k0 z0 (pc + 1) ls (.int (Int32.ofInt k) :: st) h) : am_Kn p l e R s m args below meth c Q G k0 z0 pc ls (st) h := fun H locs cells slots cl hI hL => lv_iconst hx hb hd rfl (K H locs cells slots cl hI hL)
theorem am_o_bipush (hx : p.tables.exec = Jvm.exec) (hb : c.code = cc) {k : Int} (hd : decode cc pc = .ok (.bipush k, 2)) (K : am_Kn p l e R s m args below meth c Q G k0 z0 (pc + 2) ls (.int (Int8.ofInt k).toInt32 :: st) h) : am_Kn p l e R s m args below meth c Q G k0 z0 pc ls (st) h := fun H locs cells slots cl hI hL => lv_bipush hx hb hd rfl (K H locs cells slots cl hI hL)
theorem am_o_sipush (hx : p.tables.exec = Jvm.exec) (hb : c.code = cc) {k : Int} (hd : decode cc pc = .ok (.sipush k, 3)) (K : am_Kn p l e R s m args below meth c Q G k0 z0 (pc + 3) ls (.int (Int16.ofInt k).toInt32 :: st) h) : am_Kn p l e R s m args below meth c Q G k0 z0 pc ls (st) h := fun H locs cells slots cl hI hL => lv_sipush hx hb hd rfl (K H locs cells slots cl hI hL)
theorem am_o_lconst (hx : p.tables.exec = Jvm.exec) (hb : c.code = cc) {k : Fin 2} (hd : decode cc pc = .ok (.lconst k, 1)) (K : am_Kn p l e R s m args below meth c Q G k0 z0 (pc + 1) ls (.long (Int64.ofNat (k : Nat)) :: st) h) : am_Kn p l e R s m args below meth c Q G k0 z0 pc ls (st) h := fun H locs cells slots cl hI hL => lv_lconst hx hb hd rfl (K H locs cells slots cl hI hL)
theorem am_o_null (hx : p.tables.exec = Jvm.exec) (hb : c.code = cc)  (hd : decode cc pc = .ok (.aconst_null, 1)) (K : am_Kn p l e R s m args below meth c Q G k0 z0 (pc + 1) ls (.null :: st) h) : am_Kn p l e R s m args below meth c Q G k0 z0 pc ls (st) h := fun H locs cells slots cl hI hL => lv_null hx hb hd (K H locs cells slots cl hI hL)
theorem am_o_ldc (hx : p.tables.exec = Jvm.exec) (hb : c.code = cc) {own : String} {i : Nat} {v : Int32} (ho : s.vm.findClass own = some m.cls) (hc : (Jvm.Cond.constant own i v).before args s = true) (hd : decode cc pc = .ok (.ldc i, 2)) (K : am_Kn p l e R s m args below meth c Q G k0 z0 (pc + 2) ls (.int v :: st) h) : am_Kn p l e R s m args below meth c Q G k0 z0 pc ls (st) h := fun H locs cells slots cl hI hL => lv_ldc hx hb ho hc hd (K H locs cells slots cl hI hL)
theorem am_o_ldcw (hx : p.tables.exec = Jvm.exec) (hb : c.code = cc) {own : String} {i : Nat} {v : Int32} (ho : s.vm.findClass own = some m.cls) (hc : (Jvm.Cond.constant own i v).before args s = true) (hd : decode cc pc = .ok (.ldc_w i, 3)) (K : am_Kn p l e R s m args below meth c Q G k0 z0 (pc + 3) ls (.int v :: st) h) : am_Kn p l e R s m args below meth c Q G k0 z0 pc ls (st) h := fun H locs cells slots cl hI hL => lv_ldcw hx hb ho hc hd (K H locs cells slots cl hI hL)
theorem am_o_ldc2 (hx : p.tables.exec = Jvm.exec) (hb : c.code = cc) {own : String} {i : Nat} {v : Int64} (ho : s.vm.findClass own = some m.cls) (hc : (Jvm.Cond.constantLong own i v).before args s = true) (hd : decode cc pc = .ok (.ldc2_w i, 3)) (K : am_Kn p l e R s m args below meth c Q G k0 z0 (pc + 3) ls (.long v :: st) h) : am_Kn p l e R s m args below meth c Q G k0 z0 pc ls (st) h := fun H locs cells slots cl hI hL => lv_ldc2 hx hb ho hc hd (K H locs cells slots cl hI hL)
theorem am_o_ldcM (hx : p.tables.exec = Jvm.exec) (hb : c.code = cc) {own : String} {i : Nat} (hK : am_K G s) (ho : s.vm.findClass own = some m.cls) (hc : (Jvm.Cond.classLink own i "[Ljava/lang/Object;").before args s = true) (hd : decode cc pc = .ok (.ldc i, 2)) (K : am_Kn p l e R s m args below meth c Q G k0 z0 (pc + 2) ls (.ref 2 :: st) h) : am_Kn p l e R s m args below meth c Q G k0 z0 pc ls (st) h := fun H locs cells slots cl hI hL => va_ldcM hx hb ho hc hK.2.2 hd (K H locs cells slots cl hI hL)
theorem am_o_iload_n (hx : p.tables.exec = Jvm.exec) (hb : c.code = cc) {k : Fin 4} {x : Int32} (hl : ls[(k : Nat)]? = some (some (.int x))) (hd : decode cc pc = .ok (.iload_n k, 1)) (K : am_Kn p l e R s m args below meth c Q G k0 z0 (pc + 1) ls (.int x :: st) h) : am_Kn p l e R s m args below meth c Q G k0 z0 pc ls (st) h := fun H locs cells slots cl hI hL => lv_iload_n hx hb hd rfl (hL.2.2 _ _ hl) (K H locs cells slots cl hI hL)
theorem am_o_iload (hx : p.tables.exec = Jvm.exec) (hb : c.code = cc) {k : Nat} {x : Int32} (hl : ls[k]? = some (some (.int x))) (hd : decode cc pc = .ok (.iload k, 2)) (K : am_Kn p l e R s m args below meth c Q G k0 z0 (pc + 2) ls (.int x :: st) h) : am_Kn p l e R s m args below meth c Q G k0 z0 pc ls (st) h := fun H locs cells slots cl hI hL => lv_iload hx hb hd (hL.2.2 _ _ hl) (K H locs cells slots cl hI hL)
theorem am_o_istore_n (hx : p.tables.exec = Jvm.exec) (hb : c.code = cc) {k : Fin 4} {x : Int32} (hs : am_st1 ls k (.int x) = some ls') (hd : decode cc pc = .ok (.istore_n k, 1)) (K : am_Kn p l e R s m args below meth c Q G k0 z0 (pc + 1) ls' (st) h) : am_Kn p l e R s m args below meth c Q G k0 z0 pc ls (.int x :: st) h := fun H locs cells slots cl hI hL => lv_istore_n hx hb hd rfl hL.has (am_st1_inv hs).1 rfl (fun cl' hc => K H locs cells slots cl' hI (am_LV.s1 hs hc))
theorem am_o_istore (hx : p.tables.exec = Jvm.exec) (hb : c.code = cc) {k : Nat} {x : Int32} (hs : am_st1 ls k (.int x) = some ls') (hd : decode cc pc = .ok (.istore k, 2)) (K : am_Kn p l e R s m args below meth c Q G k0 z0 (pc + 2) ls' (st) h) : am_Kn p l e R s m args below meth c Q G k0 z0 pc ls (.int x :: st) h := fun H locs cells slots cl hI hL => lv_istore hx hb hd hL.has (am_st1_inv hs).1 rfl (fun cl' hc => K H locs cells slots cl' hI (am_LV.s1 hs hc))
theorem am_o_lload_n (hx : p.tables.exec = Jvm.exec) (hb : c.code = cc) {k : Fin 4} {x : Int64} (hl : ls[(k : Nat)]? = some (some (.long x))) (hd : decode cc pc = .ok (.lload_n k, 1)) (K : am_Kn p l e R s m args below meth c Q G k0 z0 (pc + 1) ls (.long x :: st) h) : am_Kn p l e R s m args below meth c Q G k0 z0 pc ls (st) h := fun H locs cells slots cl hI hL => lv_lload_n hx hb hd rfl (hL.2.2 _ _ hl) (K H locs cells slots cl hI hL)
theorem am_o_lload (hx : p.tables.exec = Jvm.exec) (hb : c.code = cc) {k : Nat} {x : Int64} (hl : ls[k]? = some (some (.long x))) (hd : decode cc pc = .ok (.lload k, 2)) (K : am_Kn p l e R s m args below meth c Q G k0 z0 (pc + 2) ls (.long x :: st) h) : am_Kn p l e R s m args below meth c Q G k0 z0 pc ls (st) h := fun H locs cells slots cl hI hL => lv_lload hx hb hd (hL.2.2 _ _ hl) (K H locs cells slots cl hI hL)
theorem am_o_lstore_n (hx : p.tables.exec = Jvm.exec) (hb : c.code = cc) {k : Fin 4} {x : Int64} (hs : am_st2 ls k (.long x) = some ls') (hd : decode cc pc = .ok (.lstore_n k, 1)) (K : am_Kn p l e R s m args below meth c Q G k0 z0 (pc + 1) ls' (st) h) : am_Kn p l e R s m args below meth c Q G k0 z0 pc ls (.long x :: st) h := fun H locs cells slots cl hI hL => lv_lstore_n hx hb hd rfl hL.has (am_st2_inv hs).1 rfl (fun cl' hc => K H locs cells slots cl' hI (am_LV.s2 hs hc))
theorem am_o_lstore (hx : p.tables.exec = Jvm.exec) (hb : c.code = cc) {k : Nat} {x : Int64} (hs : am_st2 ls k (.long x) = some ls') (hd : decode cc pc = .ok (.lstore k, 2)) (K : am_Kn p l e R s m args below meth c Q G k0 z0 (pc + 2) ls' (st) h) : am_Kn p l e R s m args below meth c Q G k0 z0 pc ls (.long x :: st) h := fun H locs cells slots cl hI hL => lv_lstore hx hb hd hL.has (am_st2_inv hs).1 rfl (fun cl' hc => K H locs cells slots cl' hI (am_LV.s2 hs hc))
theorem am_o_aload_n (hx : p.tables.exec = Jvm.exec) (hb : c.code = cc) {k : Fin 4} {x : Nat} (hl : ls[(k : Nat)]? = some (some (.ref x))) (hd : decode cc pc = .ok (.aload_n k, 1)) (K : am_Kn p l e R s m args below meth c Q G k0 z0 (pc + 1) ls (.ref x :: st) h) : am_Kn p l e R s m args below meth c Q G k0 z0 pc ls (st) h := fun H locs cells slots cl hI hL => lv_aload_n hx hb hd rfl (hL.2.2 _ _ hl) (K H locs cells slots cl hI hL)
theorem am_o_aload (hx : p.tables.exec = Jvm.exec) (hb : c.code = cc) {k : Nat} {x : Nat} (hl : ls[k]? = some (some (.ref x))) (hd : decode cc pc = .ok (.aload k, 2)) (K : am_Kn p l e R s m args below meth c Q G k0 z0 (pc + 2) ls (.ref x :: st) h) : am_Kn p l e R s m args below meth c Q G k0 z0 pc ls (st) h := fun H locs cells slots cl hI hL => lv_aload hx hb hd (hL.2.2 _ _ hl) (K H locs cells slots cl hI hL)
theorem am_o_astore_n (hx : p.tables.exec = Jvm.exec) (hb : c.code = cc) {k : Fin 4} {x : Nat} (hs : am_st1 ls k (.ref x) = some ls') (hd : decode cc pc = .ok (.astore_n k, 1)) (K : am_Kn p l e R s m args below meth c Q G k0 z0 (pc + 1) ls' (st) h) : am_Kn p l e R s m args below meth c Q G k0 z0 pc ls (.ref x :: st) h := fun H locs cells slots cl hI hL => lv_astore_n hx hb hd rfl hL.has (am_st1_inv hs).1 rfl (fun cl' hc => K H locs cells slots cl' hI (am_LV.s1 hs hc))
theorem am_o_astore (hx : p.tables.exec = Jvm.exec) (hb : c.code = cc) {k : Nat} {x : Nat} (hs : am_st1 ls k (.ref x) = some ls') (hd : decode cc pc = .ok (.astore k, 2)) (K : am_Kn p l e R s m args below meth c Q G k0 z0 (pc + 2) ls' (st) h) : am_Kn p l e R s m args below meth c Q G k0 z0 pc ls (.ref x :: st) h := fun H locs cells slots cl hI hL => lv_astore hx hb hd hL.has (am_st1_inv hs).1 rfl (fun cl' hc => K H locs cells slots cl' hI (am_LV.s1 hs hc))
theorem am_o_iinc (hx : p.tables.exec = Jvm.exec) (hb : c.code = cc) {i : Nat} {k : Int} {x : Int32} (hl : ls[i]? = some (some (.int x))) (hs : am_st1 ls i (.int (x + Int32.ofInt k)) = some ls') (hd : decode cc pc = .ok (.iinc i k, 3)) (K : am_Kn p l e R s m args below meth c Q G k0 z0 (pc + 3) ls' st h) : am_Kn p l e R s m args below meth c Q G k0 z0 pc ls st h := by
  intro H locs cells slots cl hI hL
  obtain ⟨j, hj⟩ := List.getElem?_of_mem (am_pr_mem (G := G) hl)
  exact lv_iinc hx hb hd hL.has hj rfl (am_st1_inv hs).1 rfl (fun cl' hc => K H locs cells slots cl' hI (am_LV.s1 hs hc))
theorem am_o_iadd (hx : p.tables.exec = Jvm.exec) (hb : c.code = cc) {x y : Int32} (hd : decode cc pc = .ok (.iadd, 1)) (K : am_Kn p l e R s m args below meth c Q G k0 z0 (pc + 1) ls (.int (x + y) :: st) h) : am_Kn p l e R s m args below meth c Q G k0 z0 pc ls (.int y :: .int x :: st) h := fun H locs cells slots cl hI hL => lv_iadd hx hb hd (K H locs cells slots cl hI hL)
theorem am_o_isub (hx : p.tables.exec = Jvm.exec) (hb : c.code = cc) {x y : Int32} (hd : decode cc pc = .ok (.isub, 1)) (K : am_Kn p l e R s m args below meth c Q G k0 z0 (pc + 1) ls (.int (x - y) :: st) h) : am_Kn p l e R s m args below meth c Q G k0 z0 pc ls (.int y :: .int x :: st) h := fun H locs cells slots cl hI hL => lv_isub hx hb hd (K H locs cells slots cl hI hL)
theorem am_o_imul (hx : p.tables.exec = Jvm.exec) (hb : c.code = cc) {x y : Int32} (hd : decode cc pc = .ok (.imul, 1)) (K : am_Kn p l e R s m args below meth c Q G k0 z0 (pc + 1) ls (.int (x * y) :: st) h) : am_Kn p l e R s m args below meth c Q G k0 z0 pc ls (.int y :: .int x :: st) h := fun H locs cells slots cl hI hL => lv_imul hx hb hd (K H locs cells slots cl hI hL)
theorem am_o_iand (hx : p.tables.exec = Jvm.exec) (hb : c.code = cc) {x y : Int32} (hd : decode cc pc = .ok (.iand, 1)) (K : am_Kn p l e R s m args below meth c Q G k0 z0 (pc + 1) ls (.int (x &&& y) :: st) h) : am_Kn p l e R s m args below meth c Q G k0 z0 pc ls (.int y :: .int x :: st) h := fun H locs cells slots cl hI hL => lv_iand hx hb hd (K H locs cells slots cl hI hL)
theorem am_o_ior (hx : p.tables.exec = Jvm.exec) (hb : c.code = cc) {x y : Int32} (hd : decode cc pc = .ok (.ior, 1)) (K : am_Kn p l e R s m args below meth c Q G k0 z0 (pc + 1) ls (.int (x ||| y) :: st) h) : am_Kn p l e R s m args below meth c Q G k0 z0 pc ls (.int y :: .int x :: st) h := fun H locs cells slots cl hI hL => lv_ior hx hb hd (K H locs cells slots cl hI hL)
theorem am_o_ixor (hx : p.tables.exec = Jvm.exec) (hb : c.code = cc) {x y : Int32} (hd : decode cc pc = .ok (.ixor, 1)) (K : am_Kn p l e R s m args below meth c Q G k0 z0 (pc + 1) ls (.int (x ^^^ y) :: st) h) : am_Kn p l e R s m args below meth c Q G k0 z0 pc ls (.int y :: .int x :: st) h := fun H locs cells slots cl hI hL => lv_ixor hx hb hd (K H locs cells slots cl hI hL)
theorem am_o_ishl (hx : p.tables.exec = Jvm.exec) (hb : c.code = cc) {x y : Int32} (hd : decode cc pc = .ok (.ishl, 1)) (K : am_Kn p l e R s m args below meth c Q G k0 z0 (pc + 1) ls (.int (x <<< (y &&& 31)) :: st) h) : am_Kn p l e R s m args below meth c Q G k0 z0 pc ls (.int y :: .int x :: st) h := fun H locs cells slots cl hI hL => lv_ishl hx hb hd (K H locs cells slots cl hI hL)
theorem am_o_ishr (hx : p.tables.exec = Jvm.exec) (hb : c.code = cc) {x y : Int32} (hd : decode cc pc = .ok (.ishr, 1)) (K : am_Kn p l e R s m args below meth c Q G k0 z0 (pc + 1) ls (.int (x >>> (y &&& 31)) :: st) h) : am_Kn p l e R s m args below meth c Q G k0 z0 pc ls (.int y :: .int x :: st) h := fun H locs cells slots cl hI hL => lv_ishr hx hb hd (K H locs cells slots cl hI hL)
theorem am_o_iushr (hx : p.tables.exec = Jvm.exec) (hb : c.code = cc) {x y : Int32} (hd : decode cc pc = .ok (.iushr, 1)) (K : am_Kn p l e R s m args below meth c Q G k0 z0 (pc + 1) ls (.int (x.toUInt32 >>> (y.toUInt32 &&& Int32.toUInt32 31)).toInt32 :: st) h) : am_Kn p l e R s m args below meth c Q G k0 z0 pc ls (.int y :: .int x :: st) h := fun H locs cells slots cl hI hL => lv_iushr hx hb hd rfl (K H locs cells slots cl hI hL)
theorem am_o_idiv (hx : p.tables.exec = Jvm.exec) (hb : c.code = cc) {x y : Int32} (hy : ¬ y = 0) (hd : decode cc pc = .ok (.idiv, 1)) (K : am_Kn p l e R s m args below meth c Q G k0 z0 (pc + 1) ls (.int (x / y) :: st) h) : am_Kn p l e R s m args below meth c Q G k0 z0 pc ls (.int y :: .int x :: st) h := fun H locs cells slots cl hI hL => lv_idiv hx hb hd hy (K H locs cells slots cl hI hL)
theorem am_o_irem (hx : p.tables.exec = Jvm.exec) (hb : c.code = cc) {x y : Int32} (hy : ¬ y = 0) (hd : decode cc pc = .ok (.irem, 1)) (K : am_Kn p l e R s m args below meth c Q G k0 z0 (pc + 1) ls (.int (x - x / y * y) :: st) h) : am_Kn p l e R s m args below meth c Q G k0 z0 pc ls (.int y :: .int x :: st) h := fun H locs cells slots cl hI hL => lv_irem hx hb hd hy (K H locs cells slots cl hI hL)
theorem am_o_ineg (hx : p.tables.exec = Jvm.exec) (hb : c.code = cc) {x : Int32} (hd : decode cc pc = .ok (.ineg, 1)) (K : am_Kn p l e R s m args below meth c Q G k0 z0 (pc + 1) ls (.int (-x) :: st) h) : am_Kn p l e R s m args below meth c Q G k0 z0 pc ls (.int x :: st) h := fun H locs cells slots cl hI hL => lv_ineg hx hb hd (K H locs cells slots cl hI hL)
theorem am_o_i2b (hx : p.tables.exec = Jvm.exec) (hb : c.code = cc) {x : Int32} (hd : decode cc pc = .ok (.i2b, 1)) (K : am_Kn p l e R s m args below meth c Q G k0 z0 (pc + 1) ls (.int x.toInt8.toInt32 :: st) h) : am_Kn p l e R s m args below meth c Q G k0 z0 pc ls (.int x :: st) h := fun H locs cells slots cl hI hL => lv_i2b hx hb hd rfl (K H locs cells slots cl hI hL)
theorem am_o_i2l (hx : p.tables.exec = Jvm.exec) (hb : c.code = cc) {x : Int32} (hd : decode cc pc = .ok (.i2l, 1)) (K : am_Kn p l e R s m args below meth c Q G k0 z0 (pc + 1) ls (.long x.toInt64 :: st) h) : am_Kn p l e R s m args below meth c Q G k0 z0 pc ls (.int x :: st) h := fun H locs cells slots cl hI hL => lv_i2l hx hb hd rfl (K H locs cells slots cl hI hL)
theorem am_o_ladd (hx : p.tables.exec = Jvm.exec) (hb : c.code = cc) {x y : Int64} (hd : decode cc pc = .ok (.ladd, 1)) (K : am_Kn p l e R s m args below meth c Q G k0 z0 (pc + 1) ls (.long (x + y) :: st) h) : am_Kn p l e R s m args below meth c Q G k0 z0 pc ls (.long y :: .long x :: st) h := fun H locs cells slots cl hI hL => lv_ladd hx hb hd (K H locs cells slots cl hI hL)
theorem am_o_lmul (hx : p.tables.exec = Jvm.exec) (hb : c.code = cc) {x y : Int64} (hd : decode cc pc = .ok (.lmul, 1)) (K : am_Kn p l e R s m args below meth c Q G k0 z0 (pc + 1) ls (.long (x * y) :: st) h) : am_Kn p l e R s m args below meth c Q G k0 z0 pc ls (.long y :: .long x :: st) h := fun H locs cells slots cl hI hL => lv_lmul hx hb hd (K H locs cells slots cl hI hL)
theorem am_o_lcmp (hx : p.tables.exec = Jvm.exec) (hb : c.code = cc) {x y : Int64} (hd : decode cc pc = .ok (.lcmp, 1)) (K : am_Kn p l e R s m args below meth c Q G k0 z0 (pc + 1) ls (.int (lg_cmp x y) :: st) h) : am_Kn p l e R s m args below meth c Q G k0 z0 pc ls (.long y :: .long x :: st) h := fun H locs cells slots cl hI hL => W.lcmp hx hb hd (K H locs cells slots cl hI hL)
theorem am_o_dup (hx : p.tables.exec = Jvm.exec) (hb : c.code = cc) {v : Value} (hv : v.category = 1) (hd : decode cc pc = .ok (.dup, 1)) (K : am_Kn p l e R s m args below meth c Q G k0 z0 (pc + 1) ls (v :: v :: st) h) : am_Kn p l e R s m args below meth c Q G k0 z0 pc ls (v :: st) h := fun H locs cells slots cl hI hL => lv_dup hx hb hd (by rw [am_cv_cat]; exact hv) (K H locs cells slots cl hI hL)
theorem am_o_pop (hx : p.tables.exec = Jvm.exec) (hb : c.code = cc) {v : Value} (hv : v.category = 1) (hd : decode cc pc = .ok (.pop, 1)) (K : am_Kn p l e R s m args below meth c Q G k0 z0 (pc + 1) ls (st) h) : am_Kn p l e R s m args below meth c Q G k0 z0 pc ls (v :: st) h := fun H locs cells slots cl hI hL => lv_pop hx hb hd (by rw [am_cv_cat]; exact hv) (K H locs cells slots cl hI hL)
theorem am_o_dup_x1 (hx : p.tables.exec = Jvm.exec) (hb : c.code = cc) {v w : Value} (hv : v.category = 1) (hw : w.category = 1) (hd : decode cc pc = .ok (.dup_x1, 1)) (K : am_Kn p l e R s m args below meth c Q G k0 z0 (pc + 1) ls (v :: w :: v :: st) h) : am_Kn p l e R s m args below meth c Q G k0 z0 pc ls (v :: w :: st) h := fun H locs cells slots cl hI hL => lv_dup_x1 hx hb hd (by rw [am_cv_cat]; exact hv) (by rw [am_cv_cat]; exact hw) (K H locs cells slots cl hI hL)
theorem am_o_dup2 (hx : p.tables.exec = Jvm.exec) (hb : c.code = cc) {v w : Value} (hv : v.category = 1) (hw : w.category = 1) (hd : decode cc pc = .ok (.dup2, 1)) (K : am_Kn p l e R s m args below meth c Q G k0 z0 (pc + 1) ls (v :: w :: v :: w :: st) h) : am_Kn p l e R s m args below meth c Q G k0 z0 pc ls (v :: w :: st) h := fun H locs cells slots cl hI hL => lv_dup2_11 hx hb hd (by rw [am_cv_cat]; exact hv) (by rw [am_cv_cat]; exact hw) (K H locs cells slots cl hI hL)
theorem am_o_goto (hx : p.tables.exec = Jvm.exec) (hb : c.code = cc) {off : Int} {t : Nat} (ht : am_tg pc off = some t) (hd : decode cc pc = .ok (.goto off, 3)) (K : am_Kn p l e R s m args below meth c Q G k0 z0 t ls st h) : am_Kn p l e R s m args below meth c Q G k0 z0 pc ls st h := fun H locs cells slots cl hI hL => lv_goto hx hb hd (am_tg_eq ht) (K H locs cells slots cl hI hL)
theorem am_o_if1 (hx : p.tables.exec = Jvm.exec) (hb : c.code = cc) {k : Jvm.ClassFile.Cond} {off : Int} {t : Nat} {x : Int32} (ht : am_tg pc off = some t) (hd : decode cc pc = .ok (.ifCond k off, 3)) (kt : am_cd k x 0 = true → am_Kn p l e R s m args below meth c Q G k0 z0 t ls st h) (kf : ¬ am_cd k x 0 = true → am_Kn p l e R s m args below meth c Q G k0 z0 (pc + 3) ls st h) : am_Kn p l e R s m args below meth c Q G k0 z0 pc ls (.int x :: st) h := by
  intro H locs cells slots cl hI hL
  have ht := am_tg_eq ht
  cases k with
  | eq => exact lv_if_eq hx hb hd ht (fun q => kt (decide_eq_true q) H locs cells slots cl hI hL) (fun q => kf (fun z => q (of_decide_eq_true z)) H locs cells slots cl hI hL)
  | ne => exact lv_if_ne hx hb hd ht (fun q => kt (decide_eq_true q) H locs cells slots cl hI hL) (fun q => kf (fun z => (of_decide_eq_true z) q) H locs cells slots cl hI hL)
  | lt => exact lv_if_lt hx hb hd ht (fun q => kt (decide_eq_true q) H locs cells slots cl hI hL) (fun q => kf (fun z => q (of_decide_eq_true z)) H locs cells slots cl hI hL)
  | ge => exact lv_if_ge hx hb hd ht (fun q => kt (decide_eq_true q) H locs cells slots cl hI hL) (fun q => kf (fun z => q (of_decide_eq_true z)) H locs cells slots cl hI hL)
  | gt => exact lv_if_gt hx hb hd ht (fun q => kt (decide_eq_true q) H locs cells slots cl hI hL) (fun q => kf (fun z => q (of_decide_eq_true z)) H locs cells slots cl hI hL)
  | le => exact lv_if_le hx hb hd ht (fun q => kt (decide_eq_true q) H locs cells slots cl hI hL) (fun q => kf (fun z => q (of_decide_eq_true z)) H locs cells slots cl hI hL)
theorem am_o_if2 (hx : p.tables.exec = Jvm.exec) (hb : c.code = cc) {k : Jvm.ClassFile.Cond} {off : Int} {t : Nat} {x y : Int32} (ht : am_tg pc off = some t) (hd : decode cc pc = .ok (.if_icmp k off, 3)) (kt : am_cd k x y = true → am_Kn p l e R s m args below meth c Q G k0 z0 t ls st h) (kf : ¬ am_cd k x y = true → am_Kn p l e R s m args below meth c Q G k0 z0 (pc + 3) ls st h) : am_Kn p l e R s m args below meth c Q G k0 z0 pc ls (.int y :: .int x :: st) h := by
  intro H locs cells slots cl hI hL
  have ht := am_tg_eq ht
  cases k with
  | eq => exact lv_icmp_eq hx hb hd ht (fun q => kt (decide_eq_true q) H locs cells slots cl hI hL) (fun q => kf (fun z => q (of_decide_eq_true z)) H locs cells slots cl hI hL)
  | ne => exact lv_icmp_ne hx hb hd ht (fun q => kt (decide_eq_true q) H locs cells slots cl hI hL) (fun q => kf (fun z => (of_decide_eq_true z) q) H locs cells slots cl hI hL)
  | lt => exact lv_icmp_lt hx hb hd ht (fun q => kt (decide_eq_true q) H locs cells slots cl hI hL) (fun q => kf (fun z => q (of_decide_eq_true z)) H locs cells slots cl hI hL)
  | ge => exact lv_icmp_ge hx hb hd ht (fun q => kt (decide_eq_true q) H locs cells slots cl hI hL) (fun q => kf (fun z => q (of_decide_eq_true z)) H locs cells slots cl hI hL)
  | gt => exact lv_icmp_gt hx hb hd ht (fun q => kt (decide_eq_true q) H locs cells slots cl hI hL) (fun q => kf (fun z => q (of_decide_eq_true z)) H locs cells slots cl hI hL)
  | le => exact lv_icmp_le hx hb hd ht (fun q => kt (decide_eq_true q) H locs cells slots cl hI hL) (fun q => kf (fun z => q (of_decide_eq_true z)) H locs cells slots cl hI hL)
theorem am_ad_inj {G : am_G} (he : G.1.2.2.1 < G.1.1) {x y : Nat} (h : (x = 2 ∧ y = 2) ∨ ((x = 1 ∨ 3 ≤ x) ∧ (y = 1 ∨ 3 ≤ y))) (e : am_ad G x = am_ad G y) : x = y := by
  rcases h with ⟨rfl, rfl⟩ | ⟨h1, h2⟩
  · rfl
  · rcases h1 with rfl | h1
    · rcases h2 with rfl | h2
      · rfl
      · obtain ⟨j, rfl⟩ : ∃ j, y = j + 3 := ⟨y - 3, by omega⟩
        simp only [am_ad] at e
        omega
    · obtain ⟨i, rfl⟩ : ∃ i, x = i + 3 := ⟨x - 3, by omega⟩
      rcases h2 with rfl | h2
      · simp only [am_ad] at e
        omega
      · obtain ⟨j, rfl⟩ : ∃ j, y = j + 3 := ⟨y - 3, by omega⟩
        simp only [am_ad] at e
        omega
theorem am_o_acmp (hx : p.tables.exec = Jvm.exec) (hb : c.code = cc) (he : G.1.2.2.1 < G.1.1) {k : Jvm.ClassFile.ACond} {off : Int} {t : Nat} {x y : Nat} (hxy : (x = 2 ∧ y = 2) ∨ ((x = 1 ∨ 3 ≤ x) ∧ (y = 1 ∨ 3 ≤ y))) (ht : am_tg pc off = some t) (hd : decode cc pc = .ok (.if_acmp k off, 3)) (kt : (match k with
    | .eq => decide (x = y)
    | .ne => decide (¬ x = y)) = true → am_Kn p l e R s m args below meth c Q G k0 z0 t ls st h) (kf : ¬ (match k with
    | .eq => decide (x = y)
    | .ne => decide (¬ x = y)) = true → am_Kn p l e R s m args below meth c Q G k0 z0 (pc + 3) ls st h) : am_Kn p l e R s m args below meth c Q G k0 z0 pc ls (.ref y :: .ref x :: st) h := by
  intro H locs cells slots cl hI hL
  have ht := am_tg_eq ht
  have inj : (some (am_ad G x) = some (am_ad G y)) → x = y := fun q => am_ad_inj he hxy (Option.some.inj q)
  cases k with
  | eq => exact lv_acmp_eq (rx := some (am_ad G x)) (ry := some (am_ad G y)) hx hb hd ht (fun q => kt (decide_eq_true (inj q)) H locs cells slots cl hI hL) (fun q => kf (fun z => q (by rw [of_decide_eq_true z])) H locs cells slots cl hI hL)
  | ne => exact lv_acmp_ne (rx := some (am_ad G x)) (ry := some (am_ad G y)) hx hb hd ht (fun q => kt (decide_eq_true (fun z => q (by rw [z]))) H locs cells slots cl hI hL) (fun q => kf (fun z => (of_decide_eq_true z) (inj q)) H locs cells slots cl hI hL)
theorem am_o_tswO (hx : p.tables.exec = Jvm.exec) (hb : c.code = cc) {d lo hi : Int} {offs : Array Int} {n t : Nat} {x : Int32} (hq : x.toInt < lo ∨ hi < x.toInt) (ht : am_tg pc d = some t) (hd : decode cc pc = .ok (.tableswitch d lo hi offs, n)) (K : am_Kn p l e R s m args below meth c Q G k0 z0 t ls st h) : am_Kn p l e R s m args below meth c Q G k0 z0 pc ls (.int x :: st) h := fun H locs cells slots cl hI hL => lv_tableOut hx hb hd hq (am_tg_eq ht) (K H locs cells slots cl hI hL)
theorem am_o_tswI (hx : p.tables.exec = Jvm.exec) (hb : c.code = cc) {d lo hi off : Int} {offs : Array Int} {n t : Nat} {x : Int32} (hq : ¬ (x.toInt < lo ∨ hi < x.toInt)) (ho : offs[(x.toInt - lo).toNat]? = some off) (ht : am_tg pc off = some t) (hd : decode cc pc = .ok (.tableswitch d lo hi offs, n)) (K : am_Kn p l e R s m args below meth c Q G k0 z0 t ls st h) : am_Kn p l e R s m args below meth c Q G k0 z0 pc ls (.int x :: st) h := fun H locs cells slots cl hI hL => lv_tableIn hx hb hd (fun z => hq (Or.inl z)) (fun z => hq (Or.inr z)) ho (am_tg_eq ht) (K H locs cells slots cl hI hL)
end AMO
end
section
/-! the classes: their words, types, first values -/
def am_Tk : List Jvm.Cond := lw_tbl.filter am_kw
theorem am_tk {G : am_G} {s : State} (hK : am_K G s) (args : Array Value) : ∀ w ∈ am_Tk, w.before args s = true := fun w hw => hK.1 w (List.mem_filter.mp hw).1 (List.mem_filter.mp hw).2 args
theorem am_kw_lay (C : String) (T : u_T) (k : Nat) : am_kw (u_lay C T k) = true := by
  unfold u_lay
  split <;> rfl
theorem am_tin {C : String} {T : u_T} {N : Nat} (ps : List Nat) (h : u_ws C T N = ps.filterMap (fun i => lw_tbl[i]?)) : ∀ w ∈ u_ws C T N, w ∈ am_Tk := by
  intro w hw
  have h1 : am_kw w = true := by
    obtain ⟨k, -, rfl⟩ := List.mem_map.mp hw
    exact am_kw_lay C T k
  rw [h] at hw
  obtain ⟨i, -, hi⟩ := List.mem_filterMap.mp hw
  exact List.mem_filter.mpr ⟨List.mem_of_getElem? hi, h1⟩
def am_CF (a : Nat) (r : vw_C) : Prop := (∀ w ∈ u_ws r.1 r.2.1 r.2.2, w ∈ am_Tk) ∧ (∀ k, k < r.2.2 → parseFieldDescriptor (r.2.1 k).2.2.1 = some (am_tyf a k)) ∧ (∀ x, x < r.2.2 → ∀ y, y < r.2.2 → x ≠ y → (r.2.1 x).2.1 ≠ (r.2.1 y).2.1) ∧ (∀ j, j < r.2.2 → defaultValue (am_tyf a j) = vp_V (am_dfl.getD a []) j) ∧ (am_dfl.getD a []).length = r.2.2
theorem am_cfi0 : u_ws RJx4a65c TJx4a65c 3 = [103, 99, 101].filterMap (fun i => lw_tbl[i]?) := by decide +kernel
theorem am_cfd0 : ∀ j, j < 3 → defaultValue (am_tyf 0 j) = vp_V (am_dfl.getD 0 []) j := by decide +kernel
theorem am_cf0 : am_CF 0 (RJx4a65c, TJx4a65c, 3) := ⟨am_tin _ am_cfi0, tyJx4a65c_ok, nmJx4a65c, am_cfd0, rfl⟩
theorem am_cfi1 : u_ws RX0 TX0 3 = [135, 137, 139].filterMap (fun i => lw_tbl[i]?) := by decide +kernel
theorem am_cfd1 : ∀ j, j < 3 → defaultValue (am_tyf 1 j) = vp_V (am_dfl.getD 1 []) j := by decide +kernel
theorem am_cf1 : am_CF 1 (RX0, TX0, 3) := ⟨am_tin _ am_cfi1, tyX0_ok, nmX0, am_cfd1, rfl⟩
theorem am_cfi2 : u_ws RX1 TX1 2 = [622, 624].filterMap (fun i => lw_tbl[i]?) := by decide +kernel
theorem am_cfd2 : ∀ j, j < 2 → defaultValue (am_tyf 2 j) = vp_V (am_dfl.getD 2 []) j := by decide +kernel
theorem am_cf2 : am_CF 2 (RX1, TX1, 2) := ⟨am_tin _ am_cfi2, tyX1_ok, nmX1, am_cfd2, rfl⟩
theorem am_cfi3 : u_ws RX2 TX2 6 = [681, 683, 685, 687, 689, 691].filterMap (fun i => lw_tbl[i]?) := by decide +kernel
theorem am_cfd3 : ∀ j, j < 6 → defaultValue (am_tyf 3 j) = vp_V (am_dfl.getD 3 []) j := by decide +kernel
theorem am_cf3 : am_CF 3 (RX2, TX2, 6) := ⟨am_tin _ am_cfi3, tyX2_ok, nmX2, am_cfd3, rfl⟩
theorem am_cfi4 : u_ws RX3 TX3 4 = [366, 368, 370, 372].filterMap (fun i => lw_tbl[i]?) := by decide +kernel
theorem am_cfd4 : ∀ j, j < 4 → defaultValue (am_tyf 4 j) = vp_V (am_dfl.getD 4 []) j := by decide +kernel
theorem am_cf4 : am_CF 4 (RX3, TX3, 4) := ⟨am_tin _ am_cfi4, tyX3_ok, nmX3, am_cfd4, rfl⟩
theorem am_cfi5 : u_ws RX4 TX4 9 = [532, 534, 536, 538, 540, 542, 544, 546, 548].filterMap (fun i => lw_tbl[i]?) := by decide +kernel
theorem am_cfd5 : ∀ j, j < 9 → defaultValue (am_tyf 5 j) = vp_V (am_dfl.getD 5 []) j := by decide +kernel
theorem am_cf5 : am_CF 5 (RX4, TX4, 9) := ⟨am_tin _ am_cfi5, tyX4_ok, nmX4, am_cfd5, rfl⟩
theorem am_cfi6 : u_ws RX5 TX5 4 = [153, 155, 157, 159].filterMap (fun i => lw_tbl[i]?) := by decide +kernel
theorem am_cfd6 : ∀ j, j < 4 → defaultValue (am_tyf 6 j) = vp_V (am_dfl.getD 6 []) j := by decide +kernel
theorem am_cf6 : am_CF 6 (RX5, TX5, 4) := ⟨am_tin _ am_cfi6, tyX5_ok, nmX5, am_cfd6, rfl⟩
theorem am_cfi7 : u_ws RX6 TX6 2 = [119, 121].filterMap (fun i => lw_tbl[i]?) := by decide +kernel
theorem am_cfd7 : ∀ j, j < 2 → defaultValue (am_tyf 7 j) = vp_V (am_dfl.getD 7 []) j := by decide +kernel
theorem am_cf7 : am_CF 7 (RX6, TX6, 2) := ⟨am_tin _ am_cfi7, tyX6_ok, nmX6, am_cfd7, rfl⟩
theorem am_cfi8 : u_ws RX7 TX7 3 = [228, 230, 232].filterMap (fun i => lw_tbl[i]?) := by decide +kernel
theorem am_cfd8 : ∀ j, j < 3 → defaultValue (am_tyf 8 j) = vp_V (am_dfl.getD 8 []) j := by decide +kernel
theorem am_cf8 : am_CF 8 (RX7, TX7, 3) := ⟨am_tin _ am_cfi8, tyX7_ok, nmX7, am_cfd8, rfl⟩
theorem am_cfi9 : u_ws RX8 TX8 5 = [741, 743, 745, 747, 749].filterMap (fun i => lw_tbl[i]?) := by decide +kernel
theorem am_cfd9 : ∀ j, j < 5 → defaultValue (am_tyf 9 j) = vp_V (am_dfl.getD 9 []) j := by decide +kernel
theorem am_cf9 : am_CF 9 (RX8, TX8, 5) := ⟨am_tin _ am_cfi9, tyX8_ok, nmX8, am_cfd9, rfl⟩
theorem am_cfi10 : u_ws RX9 TX9 14 = [179, 181, 183, 185, 187, 189, 191, 193, 195, 197, 199, 201, 203, 205].filterMap (fun i => lw_tbl[i]?) := by decide +kernel
theorem am_cfd10 : ∀ j, j < 14 → defaultValue (am_tyf 10 j) = vp_V (am_dfl.getD 10 []) j := by decide +kernel
theorem am_cf10 : am_CF 10 (RX9, TX9, 14) := ⟨am_tin _ am_cfi10, tyX9_ok, nmX9, am_cfd10, rfl⟩
theorem am_cfi11 : u_ws RX10 TX10 47 = [885, 887, 889, 891, 893, 895, 897, 899, 901, 903, 905, 907, 909, 911, 913, 915, 917, 919, 921, 923, 925, 927, 929, 931, 933, 935, 937, 939, 941, 943, 945, 947, 949, 951, 953, 955, 957, 959, 961, 963, 965, 967, 969, 971, 973, 975, 977].filterMap (fun i => lw_tbl[i]?) := by decide +kernel
theorem am_cfd11 : ∀ j, j < 47 → defaultValue (am_tyf 11 j) = vp_V (am_dfl.getD 11 []) j := by decide +kernel
theorem am_cf11 : am_CF 11 (RX10, TX10, 47) := ⟨am_tin _ am_cfi11, tyX10_ok, nmX10, am_cfd11, rfl⟩
theorem am_cl12 {a : Nat} {r : vw_C} (h : vwCl[a]? = some r) : a < 12 := (List.getElem?_eq_some_iff.mp h).1
theorem am_cf {a : Nat} {r : vw_C} (h : vwCl[a]? = some r) : am_CF a r := by
  have ha := am_cl12 h
  match a, h with
  | 0, h => exact (Option.some.inj h) ▸ am_cf0
  | 1, h => exact (Option.some.inj h) ▸ am_cf1
  | 2, h => exact (Option.some.inj h) ▸ am_cf2
  | 3, h => exact (Option.some.inj h) ▸ am_cf3
  | 4, h => exact (Option.some.inj h) ▸ am_cf4
  | 5, h => exact (Option.some.inj h) ▸ am_cf5
  | 6, h => exact (Option.some.inj h) ▸ am_cf6
  | 7, h => exact (Option.some.inj h) ▸ am_cf7
  | 8, h => exact (Option.some.inj h) ▸ am_cf8
  | 9, h => exact (Option.some.inj h) ▸ am_cf9
  | 10, h => exact (Option.some.inj h) ▸ am_cf10
  | 11, h => exact (Option.some.inj h) ▸ am_cf11
  | k + 12, _ => omega
def am_ne (x : am_C) : Bool := match x with
  | .inl y => decide (y.1 < 5)
  | .inr y => decide (y.1 < 12)
theorem am_idx {G : am_G} {h : am_H} {H : Heap} {x : Nat} {y : am_C} (hP : am_P G h H) (hx : h[x]? = some y) (hy : am_ne y = true) : ∃ k, x = k + 3 ∧ (am_ws G h)[k]? = some (G.1.1 + k, am_cc G y) := by
  have h3 := hP.2.1
  have key : x < 3 → (am_ext G)[x]? = some y := fun hl => by rw [← h3, List.getElem?_take_of_lt hl, hx]
  match x, hx, key with
  | 0, _, key => have e := key (by omega); simp [am_ext] at e; subst e; simp [am_ne] at hy
  | 1, _, key => have e := key (by omega); simp [am_ext] at e; subst e; simp [am_ne] at hy
  | 2, _, key => have e := key (by omega); simp [am_ext] at e; subst e; simp [am_ne] at hy
  | k + 3, hx, _ => exact ⟨k, rfl, am_ws_get hx⟩
theorem am_hz {p : Program} {l : Launch} {e : Env} {R : Room} {s : State} {m : MethodId} {args : Array Value} {below : List Frame} {meth : Method} {c : Code} {H : Heap} {locs : List Loc} {cells slots : Nat} {Q : State → Prop} {g : JFrame} (k : H.size ≤ s.heap.size + cells → W p l e R s m args below meth c H locs cells slots Q g) : W p l e R s m args below meth c H locs cells slots Q g :=
  fun T hT X => k (by rw [← hT]; exact X.heapSize) T hT X
theorem am_I.upd {G : am_G} {s : State} {h : am_H} {H H1 : Heap} {locs locs1 : List Loc} {cells slots k0 z0 k : Nat} {y y' : am_C} (hI : am_I G s h H locs cells slots k0 z0) (hk : h[k + 3]? = some y) (hs : am_sl y' = am_sl y) (hP1 : va_P G.2.2.1 vwCl ((am_ws G h).set k (G.1.1 + k, am_cc G y')) H1) (hS1 : va_S (am_A G) s.heap H1 locs1) (hz : H1.size ≤ s.heap.size + cells) : am_I G s (h.set (k + 3) y') H1 locs1 cells slots k0 z0 := by
  obtain ⟨⟨-, h2, -⟩, -, h4, h5, h6⟩ := hI
  rw [am_ws_set] at hP1
  have hl : k + 3 < h.length := (List.getElem?_eq_some_iff.mp hk).1
  refine ⟨⟨hP1, ?_, ?_⟩, hS1, by rw [List.length_set]; exact h4, by rw [am_sz_set hk hs]; exact h5, h6⟩
  · rw [← h2, List.take_set_of_le (by omega)]
  · have hlast : (h.set (k + 3) y')[(h.length - 4) + 3]? = some ((h.set (k + 3) y')[(h.length - 4) + 3]'(by rw [List.length_set]; omega)) := List.getElem?_eq_getElem _
    have h7 := (hP1 _ _ (am_ws_get hlast)).lt
    rw [List.length_set]
    have h8 : G.1.1 + (h.length - 4) < H1.size := h7
    omega
theorem am_I.new {G : am_G} {s : State} {h : am_H} {H H1 : Heap} {locs : List Loc} {cells slots k0 z0 q n : Nat} {y : am_C} (hI : am_I G s h H locs cells slots k0 z0) (hn : am_sl y = n) (hP1 : va_P G.2.2.1 vwCl (am_ws G h ++ [(q, am_cc G y)]) H1) (hD1 : va_D (am_A G) (am_ws G h ++ [(q, am_cc G y)])) (hS1 : va_S (am_A G) s.heap H1 locs) (hz : H1.size ≤ s.heap.size + (cells + 1)) : q = am_ad G h.length ∧ am_I G s (h ++ [y]) H1 locs (cells + 1) (slots + n) k0 z0 := by
  obtain ⟨⟨-, h2, h3⟩, hS, h4, h5, h6⟩ := hI
  have hl3 : 3 ≤ h.length := by
    have := congrArg List.length h2
    rw [List.length_take] at this
    have e : (am_ext G).length = 3 := rfl
    omega
  have hq : (am_ws G h ++ [(q, am_cc G y)])[h.length - 3]? = some (q, am_cc G y) := by
    rw [List.getElem?_append_right (by rw [am_ws_len]; exact Nat.le_refl _), am_ws_len]
    simp
  have h7 : q < H1.size := (hP1 _ _ hq).lt
  have h8 : G.1.1 ≤ q := hD1.2 _ _ hq
  have h9 : q = G.1.1 + (h.length - 3) := by
    rcases Nat.lt_or_ge (q - G.1.1) (h.length - 3) with z | z
    · exfalso
      have hz2 : (q - G.1.1) + 3 < h.length := by omega
      have hw := am_ws_get (G := G) (List.getElem?_eq_getElem hz2)
      have e1 : (am_ws G h ++ [(q, am_cc G y)])[q - G.1.1]? = some (G.1.1 + (q - G.1.1), am_cc G h[q - G.1.1 + 3]) := by
        rw [List.getElem?_append_left (by rw [am_ws_len]; omega), hw]
      have := hD1.1 _ _ _ _ e1 hq (by show G.1.1 + (q - G.1.1) = q; omega)
      omega
    · omega
  have had : am_ad G h.length = G.1.1 + (h.length - 3) := by
    obtain ⟨j, hj⟩ : ∃ j, h.length = j + 3 := ⟨h.length - 3, by omega⟩
    rw [hj]
    simp [am_ad]
  refine ⟨by rw [had, h9], ⟨?_, ?_, ?_⟩, hS1, by rw [List.length_append]; simp; omega, by rw [am_sz_push, hn]; omega, h6⟩
  · rw [am_ws_push G hl3, ← h9]
    exact hP1
  · rw [List.take_append_of_le_length hl3]
    exact h2
  · rw [List.length_append]
    simp
    omega
section AMP
variable {p : Program} {l : Launch} {e : Env} {R : Room} {s : State} {m : MethodId} {args : Array Value} {below : List Frame} {meth : Method} {c : Code} {Q : State → Prop} {G : am_G} {k0 z0 : Nat} {cc : ByteArray} {pc : Nat} {ls ls' : am_L} {st : List Value} {h : am_H}
theorem am_o_getf (hx : p.tables.exec = Jvm.exec) (hb : c.code = cc) (hK : am_K G s) {own ref : String} {a b x i : Nat} {r : vw_C} {fs : List Value} {v : Value} (ho : s.vm.findClass own = some m.cls) (hr : vwCl[a]? = some r) (hbn : b < r.2.2) (hlink : (Jvm.Cond.fieldLink own i ref (r.2.1 b).2.1 (r.2.1 b).2.2.1).before args s = true) (hsame : ∀ z, s.fieldFound? (r.2.1 b).1 (r.2.1 b).2.1 (r.2.1 b).2.2.1 = some z → s.fieldFound? ref (r.2.1 b).2.1 (r.2.1 b).2.2.1 = some z) (hh : h[x]? = some (.inr (a, fs))) (hv : fs[b]? = some v) (hd : decode cc pc = .ok (.getfield i, 3)) (K : am_Kn p l e R s m args below meth c Q G k0 z0 (pc + 3) ls (v :: st) h) : am_Kn p l e R s m args below meth c Q G k0 z0 pc ls (.ref x :: st) h := by
  intro H locs cells slots cl hI hL
  obtain ⟨k, rfl, hw⟩ := am_idx hI.1 hh (by simp [am_ne, am_cl12 hr])
  exact va_get (D := G.2.2.1) (Ts := am_Tk) (C := r.1) (T := r.2.1) (N := r.2.2) (ci := a) hx hb (am_tk hK args) (am_cf hr).1 ho hK.2.1 hI.1.1 k hw hr b hbn hlink hsame (by rw [List.getElem?_map, hv]; rfl) hd (K H locs cells slots cl hI hL)
theorem am_o_getfN (hx : p.tables.exec = Jvm.exec) (hb : c.code = cc) (hK : am_K G s) {own ref host : String} {a b x i : Nat} {r : vw_C} {fs : List Value} {v : Value} (ho : s.vm.findClass own = some m.cls) (hr : vwCl[a]? = some r) (hbn : b < r.2.2) (hlink : (Jvm.Cond.fieldLinkNest own i ref (r.2.1 b).2.1 (r.2.1 b).2.2.1 host).before args s = true) (hsame : ∀ z, s.fieldFound? (r.2.1 b).1 (r.2.1 b).2.1 (r.2.1 b).2.2.1 = some z → s.fieldFound? ref (r.2.1 b).2.1 (r.2.1 b).2.2.1 = some z) (hh : h[x]? = some (.inr (a, fs))) (hv : fs[b]? = some v) (hd : decode cc pc = .ok (.getfield i, 3)) (K : am_Kn p l e R s m args below meth c Q G k0 z0 (pc + 3) ls (v :: st) h) : am_Kn p l e R s m args below meth c Q G k0 z0 pc ls (.ref x :: st) h := by
  intro H locs cells slots cl hI hL
  obtain ⟨k, rfl, hw⟩ := am_idx hI.1 hh (by simp [am_ne, am_cl12 hr])
  exact va_getN (D := G.2.2.1) (Ts := am_Tk) (C := r.1) (T := r.2.1) (N := r.2.2) (ci := a) hx hb (am_tk hK args) (am_cf hr).1 ho hK.2.1 hI.1.1 k hw hr b hbn hlink hsame (by rw [List.getElem?_map, hv]; rfl) hd (K H locs cells slots cl hI hL)
theorem am_okf_n {ty : FieldType} {v : Value} (hv : am_okf ty v = true) : narrow ty (am_cv G v) = am_cv G v ∧ fits ty (am_cv G v) = true := by
  unfold am_okf at hv
  split at hv
  · exact ⟨rfl, rfl⟩
  · rcases of_decide_eq_true hv with rfl | rfl
    · exact ⟨(show narrow .boolean (.int 0) = .int 0 by decide +kernel), (show fits .boolean (.int 0) = true by decide +kernel)⟩
    · exact ⟨(show narrow .boolean (.int 1) = .int 1 by decide +kernel), (show fits .boolean (.int 1) = true by decide +kernel)⟩
  · exact ⟨rfl, rfl⟩
  · exact ⟨rfl, rfl⟩
  · cases hv
theorem am_o_putf (hx : p.tables.exec = Jvm.exec) (hb : c.code = cc) (hK : am_K G s) {own ref : String} {a b x i : Nat} {r : vw_C} {fs : List Value} {v : Value} (ho : s.vm.findClass own = some m.cls) (hr : vwCl[a]? = some r) (hbn : b < r.2.2) (hlink : (Jvm.Cond.fieldLink own i ref (r.2.1 b).2.1 (r.2.1 b).2.2.1).before args s = true) (hsame : ∀ z, s.fieldFound? (r.2.1 b).1 (r.2.1 b).2.1 (r.2.1 b).2.2.1 = some z → s.fieldFound? ref (r.2.1 b).2.1 (r.2.1 b).2.2.1 = some z) (hfin : (r.2.1 b).2.2.2 = false) (hh : h[x]? = some (.inr (a, fs))) (hbl : b < fs.length) (hv : am_okf (am_tyf a b) v = true) (hd : decode cc pc = .ok (.putfield i, 3)) (K : am_Kn p l e R s m args below meth c Q G k0 z0 (pc + 3) ls st (h.set x (.inr (a, fs.set b v)))) : am_Kn p l e R s m args below meth c Q G k0 z0 pc ls (v :: .ref x :: st) h := by
  intro H locs cells slots cl hI hL
  obtain ⟨k, rfl, hw⟩ := am_idx hI.1 hh (by simp [am_ne, am_cl12 hr])
  have hcf := am_cf hr
  have hnf := am_okf_n (G := G) hv
  refine va_put (D := G.2.2.1) (Ts := am_Tk) (C := r.1) (T := r.2.1) (N := r.2.2) (ci := a) (ty := am_tyf a b) hx hb (am_tk hK args) hcf.1 (am_tyf a) hcf.2.1 hcf.2.2.1 ho hK.2.1 hI.1.1 (am_D G h) hI.2.1 k hw hr b hbn hlink hsame hfin (hcf.2.1 b hbn) hnf.1 hnf.2 (by rw [List.length_map]; exact hbl) hd (fun H1 locs1 hP1 hD1 hS1 => am_hz fun hz => ?_)
  refine K H1 locs1 cells slots cl (am_I.upd hI hh (y' := .inr (a, fs.set b v)) (by simp [am_sl]) ?_ hS1 hz) hL
  have e : am_cc G (.inr (a, fs.set b v)) = .inr (a, (fs.map (am_cv G)).set b (am_cv G v)) := by simp [am_cc, List.map_set]
  rw [e]
  exact hP1
theorem am_o_putfN (hx : p.tables.exec = Jvm.exec) (hb : c.code = cc) (hK : am_K G s) {own ref host : String} {a b x i : Nat} {r : vw_C} {fs : List Value} {v : Value} (ho : s.vm.findClass own = some m.cls) (hr : vwCl[a]? = some r) (hbn : b < r.2.2) (hlink : (Jvm.Cond.fieldLinkNest own i ref (r.2.1 b).2.1 (r.2.1 b).2.2.1 host).before args s = true) (hsame : ∀ z, s.fieldFound? (r.2.1 b).1 (r.2.1 b).2.1 (r.2.1 b).2.2.1 = some z → s.fieldFound? ref (r.2.1 b).2.1 (r.2.1 b).2.2.1 = some z) (hfin : (r.2.1 b).2.2.2 = false) (hh : h[x]? = some (.inr (a, fs))) (hbl : b < fs.length) (hv : am_okf (am_tyf a b) v = true) (hd : decode cc pc = .ok (.putfield i, 3)) (K : am_Kn p l e R s m args below meth c Q G k0 z0 (pc + 3) ls st (h.set x (.inr (a, fs.set b v)))) : am_Kn p l e R s m args below meth c Q G k0 z0 pc ls (v :: .ref x :: st) h := by
  intro H locs cells slots cl hI hL
  obtain ⟨k, rfl, hw⟩ := am_idx hI.1 hh (by simp [am_ne, am_cl12 hr])
  have hcf := am_cf hr
  have hnf := am_okf_n (G := G) hv
  refine va_putN (D := G.2.2.1) (Ts := am_Tk) (C := r.1) (T := r.2.1) (N := r.2.2) (ci := a) (ty := am_tyf a b) hx hb (am_tk hK args) hcf.1 (am_tyf a) hcf.2.1 hcf.2.2.1 ho hK.2.1 hI.1.1 (am_D G h) hI.2.1 k hw hr b hbn hlink hsame hfin (hcf.2.1 b hbn) hnf.1 hnf.2 (by rw [List.length_map]; exact hbl) hd (fun H1 locs1 hP1 hD1 hS1 => am_hz fun hz => ?_)
  refine K H1 locs1 cells slots cl (am_I.upd hI hh (y' := .inr (a, fs.set b v)) (by simp [am_sl]) ?_ hS1 hz) hL
  have e : am_cc G (.inr (a, fs.set b v)) = .inr (a, (fs.map (am_cv G)).set b (am_cv G v)) := by simp [am_cc, List.map_set]
  rw [e]
  exact hP1
theorem am_o_putfF (hx : p.tables.exec = Jvm.exec) (hb : c.code = cc) (hK : am_K G s) {own ref : String} {a b x i : Nat} {r : vw_C} {fs : List Value} {v : Value} (ho : s.vm.findClass own = some m.cls) (hr : vwCl[a]? = some r) (hbn : b < r.2.2) (hlink : (Jvm.Cond.fieldLink own i ref (r.2.1 b).2.1 (r.2.1 b).2.2.1).before args s = true) (hsame : ∀ z, s.fieldFound? (r.2.1 b).1 (r.2.1 b).2.1 (r.2.1 b).2.2.1 = some z → s.fieldFound? ref (r.2.1 b).2.1 (r.2.1 b).2.2.1 = some z) (hfin : (r.2.1 b).2.2.2 = true) (hini : meth.name = "<init>") (hdecl : (r.2.1 b).1 = own) (hh : h[x]? = some (.inr (a, fs))) (hbl : b < fs.length) (hv : am_okf (am_tyf a b) v = true) (hd : decode cc pc = .ok (.putfield i, 3)) (K : am_Kn p l e R s m args below meth c Q G k0 z0 (pc + 3) ls st (h.set x (.inr (a, fs.set b v)))) : am_Kn p l e R s m args below meth c Q G k0 z0 pc ls (v :: .ref x :: st) h := by
  intro H locs cells slots cl hI hL
  obtain ⟨k, rfl, hw⟩ := am_idx hI.1 hh (by simp [am_ne, am_cl12 hr])
  have hcf := am_cf hr
  have hnf := am_okf_n (G := G) hv
  refine va_putF (D := G.2.2.1) (Ts := am_Tk) (C := r.1) (T := r.2.1) (N := r.2.2) (ci := a) (ty := am_tyf a b) hx hb (am_tk hK args) hcf.1 (am_tyf a) hcf.2.1 hcf.2.2.1 ho hK.2.1 hI.1.1 (am_D G h) hI.2.1 k hw hr b hbn hlink hsame hfin hini hdecl (hcf.2.1 b hbn) hnf.1 hnf.2 (by rw [List.length_map]; exact hbl) hd (fun H1 locs1 hP1 hD1 hS1 => am_hz fun hz => ?_)
  refine K H1 locs1 cells slots cl (am_I.upd hI hh (y' := .inr (a, fs.set b v)) (by simp [am_sl]) ?_ hS1 hz) hL
  have e : am_cc G (.inr (a, fs.set b v)) = .inr (a, (fs.map (am_cv G)).set b (am_cv G v)) := by simp [am_cc, List.map_set]
  rw [e]
  exact hP1
theorem am_o_gets (hx : p.tables.exec = Jvm.exec) (hb : c.code = cc) (hE : am_E G s) {own : String} {i : Nat} (ho : s.vm.findClass own = some m.cls) (hlink : (Jvm.Cond.fieldLink own i RJx4a65c "DEFAULTCAPACITY_EMPTY_ELEMENTDATA" "[Ljava/lang/Object;").before args s = true) (hd : decode cc pc = .ok (.getstatic i, 3)) (K : am_Kn p l e R s m args below meth c Q G k0 z0 (pc + 3) ls (.ref 1 :: st) h) : am_Kn p l e R s m args below meth c Q G k0 z0 pc ls st h :=
  fun H locs cells slots cl hI hL => va_gets hx hb hE.2.2.1 hI.2.1 ho hlink (fun _ z => z) hd (K H locs cells slots cl hI hL)
theorem am_outn {i : Int32} {n : Nat} (h : am_outb i n = false) : vp_in i n := by
  unfold am_outb at h
  intro z
  rcases z with z | z
  · simp [z] at h
  · simp [z] at h
theorem am_tyk {G : am_G} : (am_tys G)[0]? = some (G.2.2.2 0, .int) ∧ (am_tys G)[1]? = some (G.2.2.2 1, .byte) ∧ (am_tys G)[2]? = some (G.2.2.2 2, .boolean) ∧ (am_tys G)[3]? = some (G.2.2.2 3, .object "java/lang/Object") ∧ (am_tys G)[4]? = some (G.2.2.2 4, .object RX6) := ⟨rfl, rfl, rfl, rfl, rfl⟩
theorem am_o_iald (hx : p.tables.exec = Jvm.exec) (hb : c.code = cc) (hK : am_K G s) {x n : Nat} {f : Nat → Int32} {i : Int32} (hh : h[x]? = some (.inl (0, n, .inl f))) (hi : am_outb i n = false) (hd : decode cc pc = .ok (.iaload, 1)) (K : am_Kn p l e R s m args below meth c Q G k0 z0 (pc + 1) ls (.int (f i.toNatClampNeg) :: st) h) : am_Kn p l e R s m args below meth c Q G k0 z0 pc ls (.int i :: .ref x :: st) h := by
  intro H locs cells slots cl hI hL
  obtain ⟨k, rfl, hw⟩ := am_idx hI.1 hh rfl
  exact va_iald hx hb hK.2.1 hI.1.1 k 0 hw am_tyk.1 (am_outn hi) hd (K H locs cells slots cl hI hL)
theorem am_o_iald9 (hx : p.tables.exec = Jvm.exec) (hb : c.code = cc) (hE : am_E G s) {x t n : Nat} {f : Nat → Int32} {i : Int32} (hh : h[x]? = some (.inl (9, n, .inl f))) (hP9 : ∀ H, am_P G h H → x = 0 ∧ n = G.2.1.1 ∧ f = G.2.1.2) (hi : am_outb i n = false) (hd : decode cc pc = .ok (.iaload, 1)) (K : am_Kn p l e R s m args below meth c Q G k0 z0 (pc + 1) ls (.int (f i.toNatClampNeg) :: st) h) : am_Kn p l e R s m args below meth c Q G k0 z0 pc ls (.int i :: .ref x :: st) h := by
  intro H locs cells slots cl hI hL
  obtain ⟨rfl, rfl, rfl⟩ := hP9 H hI.1
  exact va_sld hx hb hE.2.1 (Nat.lt_of_lt_of_le hE.1.1 hE.1.2.2) (Nat.not_le.mpr hE.1.1) hI.2.1 (am_outn hi) hd (K H locs cells slots cl hI hL)
theorem am_o_bald (hx : p.tables.exec = Jvm.exec) (hb : c.code = cc) (hK : am_K G s) {x n : Nat} {f : Nat → Int32} {i : Int32} (hh : h[x]? = some (.inl (1, n, .inl f))) (hi : am_outb i n = false) (hd : decode cc pc = .ok (.baload, 1)) (K : am_Kn p l e R s m args below meth c Q G k0 z0 (pc + 1) ls (.int (f i.toNatClampNeg) :: st) h) : am_Kn p l e R s m args below meth c Q G k0 z0 pc ls (.int i :: .ref x :: st) h := by
  intro H locs cells slots cl hI hL
  obtain ⟨k, rfl, hw⟩ := am_idx hI.1 hh rfl
  exact va_bald hx hb hK.2.1 hI.1.1 k 1 hw am_tyk.2.1 (am_outn hi) hd (K H locs cells slots cl hI hL)
theorem am_o_zald (hx : p.tables.exec = Jvm.exec) (hb : c.code = cc) (hK : am_K G s) {x n : Nat} {f : Nat → Int32} {i : Int32} (hh : h[x]? = some (.inl (2, n, .inl f))) (hi : am_outb i n = false) (hd : decode cc pc = .ok (.baload, 1)) (K : am_Kn p l e R s m args below meth c Q G k0 z0 (pc + 1) ls (.int (f i.toNatClampNeg) :: st) h) : am_Kn p l e R s m args below meth c Q G k0 z0 pc ls (.int i :: .ref x :: st) h := by
  intro H locs cells slots cl hI hL
  obtain ⟨k, rfl, hw⟩ := am_idx hI.1 hh rfl
  exact va_zald hx hb hK.2.1 hI.1.1 k 2 hw am_tyk.2.2.1 (am_outn hi) hd (K H locs cells slots cl hI hL)
theorem am_rfm (G : am_G) (o : Option Nat) : am_cv G (va_rf o) = va_rf (o.map (am_ad G)) := by cases o <;> rfl
theorem am_o_aald (hx : p.tables.exec = Jvm.exec) (hb : c.code = cc) (hK : am_K G s) {x n t : Nat} {f : Nat → Option Nat} {i : Int32} (ht : t = 3 ∨ t = 4) (hh : h[x]? = some (.inl (t, n, .inr (.inr (.inr (.inr f)))))) (hi : am_outb i n = false) (hd : decode cc pc = .ok (.aaload, 1)) (K : am_Kn p l e R s m args below meth c Q G k0 z0 (pc + 1) ls (va_rf (f i.toNatClampNeg) :: st) h) : am_Kn p l e R s m args below meth c Q G k0 z0 pc ls (.int i :: .ref x :: st) h := by
  intro H locs cells slots cl hI hL
  have K2 := K H locs cells slots cl hI hL
  rw [List.map_cons, am_rfm] at K2
  rcases ht with rfl | rfl
  · obtain ⟨k, rfl, hw⟩ := am_idx hI.1 hh rfl
    exact va_aldq hx hb hK.2.1 hI.1.1 k 3 hw am_tyk.2.2.2.1 (am_outn hi) hd K2
  · obtain ⟨k, rfl, hw⟩ := am_idx hI.1 hh rfl
    exact va_aldq hx hb hK.2.1 hI.1.1 k 4 hw am_tyk.2.2.2.2 (am_outn hi) hd K2
theorem am_o_iast (hx : p.tables.exec = Jvm.exec) (hb : c.code = cc) (hK : am_K G s) {x n : Nat} {f : Nat → Int32} {i v : Int32} (hh : h[x]? = some (.inl (0, n, .inl f))) (hi : am_outb i n = false) (hd : decode cc pc = .ok (.iastore, 1)) (K : am_Kn p l e R s m args below meth c Q G k0 z0 (pc + 1) ls st (h.set x (.inl (0, n, .inl (upd f i.toNatClampNeg v))))) : am_Kn p l e R s m args below meth c Q G k0 z0 pc ls (.int v :: .int i :: .ref x :: st) h := by
  intro H locs cells slots cl hI hL
  obtain ⟨k, rfl, hw⟩ := am_idx hI.1 hh rfl
  exact va_iast hx hb hK.2.1 hI.1.1 (am_D G h) hI.2.1 k 0 hw am_tyk.1 (am_outn hi) hd (fun H1 locs1 hP1 hD1 hS1 => am_hz fun hz => K H1 locs1 cells slots cl (am_I.upd hI hh (y' := .inl (0, n, .inl (upd f i.toNatClampNeg v))) rfl hP1 hS1 hz) hL)
theorem am_o_bast (hx : p.tables.exec = Jvm.exec) (hb : c.code = cc) (hK : am_K G s) {x n : Nat} {f : Nat → Int32} {i v : Int32} (hh : h[x]? = some (.inl (1, n, .inl f))) (hi : am_outb i n = false) (hd : decode cc pc = .ok (.bastore, 1)) (K : am_Kn p l e R s m args below meth c Q G k0 z0 (pc + 1) ls st (h.set x (.inl (1, n, .inl (upd f i.toNatClampNeg (vp_nar .byte v)))))) : am_Kn p l e R s m args below meth c Q G k0 z0 pc ls (.int v :: .int i :: .ref x :: st) h := by
  intro H locs cells slots cl hI hL
  obtain ⟨k, rfl, hw⟩ := am_idx hI.1 hh rfl
  exact va_bast hx hb hK.2.1 hI.1.1 (am_D G h) hI.2.1 k 1 hw am_tyk.2.1 (am_outn hi) hd (fun H1 locs1 hP1 hD1 hS1 => am_hz fun hz => K H1 locs1 cells slots cl (am_I.upd hI hh (y' := .inl (1, n, .inl (upd f i.toNatClampNeg (vp_nar .byte v)))) rfl hP1 hS1 hz) hL)
theorem am_o_zast (hx : p.tables.exec = Jvm.exec) (hb : c.code = cc) (hK : am_K G s) {x n : Nat} {f : Nat → Int32} {i v : Int32} (hh : h[x]? = some (.inl (2, n, .inl f))) (hi : am_outb i n = false) (hd : decode cc pc = .ok (.bastore, 1)) (K : am_Kn p l e R s m args below meth c Q G k0 z0 (pc + 1) ls st (h.set x (.inl (2, n, .inl (upd f i.toNatClampNeg (vp_nar .boolean v)))))) : am_Kn p l e R s m args below meth c Q G k0 z0 pc ls (.int v :: .int i :: .ref x :: st) h := by
  intro H locs cells slots cl hI hL
  obtain ⟨k, rfl, hw⟩ := am_idx hI.1 hh rfl
  exact va_zast hx hb hK.2.1 hI.1.1 (am_D G h) hI.2.1 k 2 hw am_tyk.2.2.1 (am_outn hi) hd (fun H1 locs1 hP1 hD1 hS1 => am_hz fun hz => K H1 locs1 cells slots cl (am_I.upd hI hh (y' := .inl (2, n, .inl (upd f i.toNatClampNeg (vp_nar .boolean v)))) rfl hP1 hS1 hz) hL)
theorem am_o_alen (hx : p.tables.exec = Jvm.exec) (hb : c.code = cc) (hK : am_K G s) {x n t : Nat} {a : (Nat → Int32) ⊕ (Nat → Int64) ⊕ (Nat → UInt32) ⊕ (Nat → UInt64) ⊕ (Nat → Option Nat)} (ht : t < 5) (hh : h[x]? = some (.inl (t, n, a))) (hd : decode cc pc = .ok (.arraylength, 1)) (K : am_Kn p l e R s m args below meth c Q G k0 z0 (pc + 1) ls (.int (Int32.ofNat n) :: st) h) : am_Kn p l e R s m args below meth c Q G k0 z0 pc ls (.ref x :: st) h := by
  intro H locs cells slots cl hI hL
  obtain ⟨k, rfl, hw⟩ := am_idx hI.1 hh (by simp [am_ne, ht])
  have hty : ∃ ty, (am_tys G)[t]? = some (G.2.2.2 t, ty) := by
    match t, ht with
    | 0, _ => exact ⟨_, rfl⟩
    | 1, _ => exact ⟨_, rfl⟩
    | 2, _ => exact ⟨_, rfl⟩
    | 3, _ => exact ⟨_, rfl⟩
    | 4, _ => exact ⟨_, rfl⟩
  obtain ⟨ty, hty⟩ := hty
  exact va_alen hx hb hK.2.1 hI.1.1 k t hw hty rfl hd (K H locs cells slots cl hI hL)
theorem am_o_alen9 (hx : p.tables.exec = Jvm.exec) (hb : c.code = cc) (hE : am_E G s) {x n : Nat} (hx0 : x = 0) (hn : n = G.2.1.1) (hd : decode cc pc = .ok (.arraylength, 1)) (K : am_Kn p l e R s m args below meth c Q G k0 z0 (pc + 1) ls (.int (Int32.ofNat n) :: st) h) : am_Kn p l e R s m args below meth c Q G k0 z0 pc ls (.ref x :: st) h := by
  subst hx0
  subst hn
  exact fun H locs cells slots cl hI hL => va_slen hx hb hE.2.1 (Nat.lt_of_lt_of_le hE.1.1 hE.1.2.2) (Nat.not_le.mpr hE.1.1) hI.2.1 hd (K H locs cells slots cl hI hL)
theorem am_o_alen8 (hx : p.tables.exec = Jvm.exec) (hb : c.code = cc) (hE : am_E G s) {x n : Nat} (hx0 : x = 1) (hn : n = 0) (hd : decode cc pc = .ok (.arraylength, 1)) (K : am_Kn p l e R s m args below meth c Q G k0 z0 (pc + 1) ls (.int (Int32.ofNat n) :: st) h) : am_Kn p l e R s m args below meth c Q G k0 z0 pc ls (.ref x :: st) h := by
  subst hx0
  subst hn
  intro H locs cells slots cl hI hL
  obtain ⟨cell, g1, g2, g3, g4, g5, g6, g7⟩ := hE.2.2.2
  exact W.alen (n := Int32.ofNat 0) hx hb (by show H[G.1.2.2.1]? = some cell; rw [hI.2.1.2.1 _ (Nat.lt_of_lt_of_le hE.1.2.1 hE.1.2.2) (Nat.not_le.mpr hE.1.2.1)]; exact g1) g2 g5 rfl rfl hd (K H locs cells slots cl hI hL)
end AMP
end
section
/-! stores of references, what is new, natives, calls -/
theorem am_cas0 : am_w 1268 (.castable RJx4a65c "java/lang/Object") = true := by decide +kernel
theorem am_cas1 : am_w 1269 (.castable RX0 "java/lang/Object") = true := by decide +kernel
theorem am_cas2 : am_w 1275 (.castable RX1 "java/lang/Object") = true := by decide +kernel
theorem am_cas3 : am_w 1276 (.castable RX2 "java/lang/Object") = true := by decide +kernel
theorem am_cas4 : am_w 1273 (.castable RX3 "java/lang/Object") = true := by decide +kernel
theorem am_cas5 : am_w 1274 (.castable RX4 "java/lang/Object") = true := by decide +kernel
theorem am_cas6 : am_w 1270 (.castable RX5 "java/lang/Object") = true := by decide +kernel
theorem am_cas7 : am_w 1263 (.castable RX6 "java/lang/Object") = true := by decide +kernel
theorem am_cas8 : am_w 1272 (.castable RX7 "java/lang/Object") = true := by decide +kernel
theorem am_cas9 : am_w 1277 (.castable RX8 "java/lang/Object") = true := by decide +kernel
theorem am_cas10 : am_w 1267 (.castable RX9 "java/lang/Object") = true := by decide +kernel
theorem am_cas11 : am_w 1271 (.castable RX10 "java/lang/Object") = true := by decide +kernel
theorem am_casO {G : am_G} {s : State} (hK : am_K G s) {a : Nat} {r : vw_C} (h : vwCl[a]? = some r) : va_Nw (.castable r.1 "java/lang/Object") s := by
  have ha := am_cl12 h
  match a, h with
  | 0, h => cases Option.some.inj h; exact hK.w am_cas0 rfl #[]
  | 1, h => cases Option.some.inj h; exact hK.w am_cas1 rfl #[]
  | 2, h => cases Option.some.inj h; exact hK.w am_cas2 rfl #[]
  | 3, h => cases Option.some.inj h; exact hK.w am_cas3 rfl #[]
  | 4, h => cases Option.some.inj h; exact hK.w am_cas4 rfl #[]
  | 5, h => cases Option.some.inj h; exact hK.w am_cas5 rfl #[]
  | 6, h => cases Option.some.inj h; exact hK.w am_cas6 rfl #[]
  | 7, h => cases Option.some.inj h; exact hK.w am_cas7 rfl #[]
  | 8, h => cases Option.some.inj h; exact hK.w am_cas8 rfl #[]
  | 9, h => cases Option.some.inj h; exact hK.w am_cas9 rfl #[]
  | 10, h => cases Option.some.inj h; exact hK.w am_cas10 rfl #[]
  | 11, h => cases Option.some.inj h; exact hK.w am_cas11 rfl #[]
  | k + 12, _ => omega
theorem am_wd_oi : am_w 78 (.instanceMethod objectInit) = true := by decide +kernel
theorem am_wd_oc : am_w 79 (.code objectInit ⟨#[0xb1]⟩ 1 none) = true := by decide +kernel
theorem am_wd_gi : am_w 265 (.instanceMethod am_gcN) = true := by decide +kernel
theorem am_wd_gn : am_w 279 (.native am_gcN) = true := by decide +kernel
theorem am_wd_gd : am_w 1266 (.declares am_gcN) = true := by decide +kernel
theorem am_wd_gs : am_w 1265 (.selects "[Ljava/lang/Object;" am_gcN am_gcN) = true := by decide +kernel
theorem am_wd_an : am_w 291 (.native arraycopyName) = true := by decide +kernel
theorem am_wd_as : am_w 290 (.static arraycopyName) = true := by decide +kernel
theorem am_wd_ai : am_w 63 (.initialized "java/lang/System") = true := by decide +kernel
theorem am_wd_mi : am_w 62 (.initialized "java/lang/Math") = true := by decide +kernel
theorem am_wd_abss : am_w 325 (.static Lib.Math.abs.name) = true := by decide +kernel
theorem am_wd_absc : am_w 326 (.code Lib.Math.abs.name Lib.Math.abs.code 1 (some .int)) = true := by decide +kernel
theorem am_wd_maxs : am_w 255 (.static Lib.Math.max.name) = true := by decide +kernel
theorem am_wd_maxc : am_w 256 (.code Lib.Math.max.name Lib.Math.max.code 2 (some .int)) = true := by decide +kernel
theorem am_wd_mins : am_w 287 (.static Lib.Math.min.name) = true := by decide +kernel
theorem am_wd_minc : am_w 288 (.code Lib.Math.min.name Lib.Math.min.code 2 (some .int)) = true := by decide +kernel
theorem am_wd_ti : am_w 142 (.arrayClass .int) = true := by decide +kernel
theorem am_wd_tb : am_w 124 (.arrayClass .byte) = true := by decide +kernel
theorem am_wd_tz : am_w 980 (.arrayClass .boolean) = true := by decide +kernel
theorem am_wd_to : am_w 284 (.arrayOver (.object "java/lang/Object")) = true := by decide +kernel
theorem am_wd_th : am_w 107 (.arrayOver (.object RX6)) = true := by decide +kernel
section AMQ
variable {p : Program} {l : Launch} {e : Env} {R : Room} {s : State} {m : MethodId} {args : Array Value} {below : List Frame} {meth : Method} {c : Code} {Q : State → Prop} {G : am_G} {k0 z0 : Nat} {cc : ByteArray} {pc nL : Nat} {ls ls' : am_L} {st : List Value} {h : am_H}
theorem am_obj_inv {y a : Nat} (hy : am_obj h y = some a) : ∃ fs, h[y]? = some (.inr (a, fs)) ∧ a < 12 := by
  unfold am_obj at hy
  split at hy
  · rename_i ci fs e
    split at hy
    · rename_i hc
      cases hy
      exact ⟨fs, e, hc⟩
    · cases hy
  · cases hy
theorem am_vw {a : Nat} (ha : a < 12) : ∃ r, vwCl[a]? = some r := ⟨_, List.getElem?_eq_getElem (l := vwCl) (i := a) ha⟩
theorem am_o_aast (hx : p.tables.exec = Jvm.exec) (hb : c.code = cc) (hK : am_K G s) {x n t v a : Nat} {f : Nat → Option Nat} {i : Int32} (ht : t = 3 ∨ (t = 4 ∧ a = 7)) (hh : h[x]? = some (.inl (t, n, .inr (.inr (.inr (.inr f)))))) (hv : am_obj h v = some a) (hi : am_outb i n = false) (hd : decode cc pc = .ok (.aastore, 1)) (K : am_Kn p l e R s m args below meth c Q G k0 z0 (pc + 1) ls st (h.set x (.inl (t, n, .inr (.inr (.inr (.inr (va_up f i.toNatClampNeg (some v)))))))) ) : am_Kn p l e R s m args below meth c Q G k0 z0 pc ls (.ref v :: .int i :: .ref x :: st) h := by
  intro H locs cells slots cl hI hL
  obtain ⟨fs, hv1, ha⟩ := am_obj_inv hv
  obtain ⟨r, hr⟩ := am_vw ha
  have hm : am_cc G (.inl (t, n, .inr (.inr (.inr (.inr (va_up f i.toNatClampNeg (some v))))))) = .inl (G.2.2.2 t, n, .inr (.inr (.inr (.inr (va_up (fun j => (f j).map (am_ad G)) i.toNatClampNeg (some (am_ad G v))))))) := by
    simp only [am_cc, am_ca]
    congr 7
    funext j
    by_cases hj : j = i.toNatClampNeg
    · simp [va_up, hj]
    · simp [va_up, hj]
  rcases ht with rfl | ⟨rfl, rfl⟩
  · obtain ⟨k, rfl, hw⟩ := am_idx hI.1 hh rfl
    obtain ⟨k2, rfl, hw2⟩ := am_idx hI.1 hv1 (by simp [am_ne, ha])
    exact va_astqO hx hb hK.2.1 hI.1.1 (am_D G h) hI.2.1 k 3 k2 a hw am_tyk.2.2.2.1 (am_casO hK hr) hw2 hr (am_outn hi) hd (fun H1 locs1 hP1 hD1 hS1 => am_hz fun hz => K H1 locs1 cells slots cl (am_I.upd hI hh (y' := .inl (3, n, .inr (.inr (.inr (.inr (va_up f i.toNatClampNeg (some (k2 + 3)))))))) rfl (by rw [hm]; exact hP1) hS1 hz) hL)
  · obtain ⟨k, rfl, hw⟩ := am_idx hI.1 hh rfl
    obtain ⟨k2, rfl, hw2⟩ := am_idx hI.1 hv1 (by simp [am_ne])
    exact va_astq (r := (RX6, TX6, 2)) hx hb hK.2.1 hI.1.1 (am_D G h) hI.2.1 k 4 k2 7 hw am_tyk.2.2.2.2 hw2 rfl (am_outn hi) hd (fun H1 locs1 hP1 hD1 hS1 => am_hz fun hz => K H1 locs1 cells slots cl (am_I.upd hI hh (y' := .inl (4, n, .inr (.inr (.inr (.inr (va_up f i.toNatClampNeg (some (k2 + 3)))))))) rfl (by rw [hm]; exact hP1) hS1 hz) hL)
theorem am_ra {ty : FieldType} {cA cB : ClassId} (h1 : va_RA s cA ty) (h2 : va_RA s cB ty) : cA = cB := by
  cases ty with
  | object C =>
    obtain ⟨-, -, -, -, -, e1⟩ := h1
    obtain ⟨-, -, -, -, -, e2⟩ := h2
    exact Option.some.inj (e1.symm.trans e2)
  | _ => exact Option.some.inj (Eq.trans (Eq.symm h1) h2)
/-- room for one more cell of n slots -/
def am_Rm (R : Room) (k0 z0 : Nat) (h : am_H) (n : Nat) : Prop := h.length + 1 ≤ R.cells + k0 ∧ am_sz h + n ≤ R.slots + z0
theorem am_o_new (hx : p.tables.exec = Jvm.exec) (hb : c.code = cc) (hK : am_K G s) (hE : am_E G s) {own : String} {a i : Nat} {r : vw_C} (ho : s.vm.findClass own = some m.cls) (hr : vwCl[a]? = some r) (h1 : (Jvm.Cond.classLink own i r.1).before args s = true) (h2 : (Jvm.Cond.instantiable r.1 r.2.2).before args s = true) (h3 : (Jvm.Cond.initialized r.1).before args s = true) (hrm : am_Rm R k0 z0 h (am_dfl.getD a []).length) (hd : decode cc pc = .ok (.new i, 3)) (K : am_Kn p l e R s m args below meth c Q G k0 z0 (pc + 3) ls (.ref h.length :: st) (h ++ [.inr (a, am_dfl.getD a [])])) : am_Kn p l e R s m args below meth c Q G k0 z0 pc ls st h := by
  intro H locs cells slots cl hI hL
  have hcf := am_cf hr
  have hcl := hI.2.2.1
  have hsl := hI.2.2.2.1
  have hln := hcf.2.2.2.2
  rw [hln] at hrm
  have hid : (am_dfl.getD a []).map (am_cv G) = am_dfl.getD a [] := by
    have ha := am_cl12 hr
    match a, ha with
    | 0, _ | 1, _ | 2, _ | 3, _ | 4, _ | 5, _ | 6, _ | 7, _ | 8, _ | 9, _ | 10, _ | 11, _ => rfl
  refine va_new (D := G.2.2.1) (Ts := am_Tk) (C := r.1) (T := r.2.1) (N := r.2.2) (ci := a) (fs := (am_dfl.getD a []).map (am_cv G)) hx hb (am_tk hK args) hcf.1 (am_tyf a) hcf.2.1 ho h1 h2 h3 hK.2.1 hI.1.1 (am_D G h) hI.2.1 (fun q hq => Nat.le_trans hE.1.2.2 hq) hr (by rw [hid]; exact hcf.2.2.2.1) (by have := hrm.1; omega) (by have := hrm.2; omega) hd (fun q H1 hP1 hD1 hS1 => am_hz fun hz => ?_)
  obtain ⟨rfl, hI1⟩ := am_I.new hI (y := .inr (a, am_dfl.getD a [])) (n := r.2.2) hln hP1 hD1 hS1 hz
  exact K H1 locs (cells + 1) (slots + r.2.2) cl hI1 hL

theorem am_o_nwi (hx : p.tables.exec = Jvm.exec) (hb : c.code = cc) (hK : am_K G s) (hE : am_E G s) {n : Int32} (hn : ¬ n < 0) (hn2 : n.toNatClampNeg ≤ 100000) (hrm : am_Rm R k0 z0 h n.toNatClampNeg) (hd : decode cc pc = .ok (.newarray .int, 2)) (K : am_Kn p l e R s m args below meth c Q G k0 z0 (pc + 2) ls (.ref h.length :: st) (h ++ [.inl (0, n.toNatClampNeg, .inl (fun _ => 0))])) : am_Kn p l e R s m args below meth c Q G k0 z0 pc ls (.int n :: st) h := by
  intro H locs cells slots cl hI hL
  have hcl := hI.2.2.1
  have hsl := hI.2.2.2.1
  have hby : n.toNatClampNeg * componentBytes (FieldType.int) ≤ 536870912 := by
    have e9 : componentBytes FieldType.int = 4 := rfl
    rw [e9]
    omega
  refine va_newa (D := G.2.2.1) (atype := .int) (ty := .int) (a0 := (n.toNatClampNeg, .inl (fun _ => 0))) (N' := n.toNatClampNeg) hx hb (hK.w am_wd_ti rfl args) rfl hK.2.1 hI.1.1 (am_D G h) hI.2.1 (fun q hq => Nat.le_trans hE.1.2.2 hq) (fun cA => vp_cell_i cA n.toNatClampNeg (fun _ => 0)) hn rfl hby (by have := hrm.1; omega) (by have := hrm.2; omega) hd (fun q cA H1 hK1 hP1 hD1 hS1 => am_hz fun hz => ?_)
  have e3 : cA = G.2.2.2 0 := am_ra (hK1.2 5 (cA, .int) rfl).2 (hK.2.1.2 0 (G.2.2.2 0, .int) rfl).2
  subst e3
  obtain ⟨rfl, hI1⟩ := am_I.new hI (y := .inl (0, n.toNatClampNeg, .inl (fun _ => 0))) (n := n.toNatClampNeg) rfl hP1 hD1 hS1 hz
  exact K H1 locs (cells + 1) (slots + n.toNatClampNeg) cl hI1 hL
theorem am_o_nwb (hx : p.tables.exec = Jvm.exec) (hb : c.code = cc) (hK : am_K G s) (hE : am_E G s) {n : Int32} (hn : ¬ n < 0) (hn2 : n.toNatClampNeg ≤ 100000) (hrm : am_Rm R k0 z0 h n.toNatClampNeg) (hd : decode cc pc = .ok (.newarray .byte, 2)) (K : am_Kn p l e R s m args below meth c Q G k0 z0 (pc + 2) ls (.ref h.length :: st) (h ++ [.inl (1, n.toNatClampNeg, .inl (fun _ => 0))])) : am_Kn p l e R s m args below meth c Q G k0 z0 pc ls (.int n :: st) h := by
  intro H locs cells slots cl hI hL
  have hcl := hI.2.2.1
  have hsl := hI.2.2.2.1
  have hby : n.toNatClampNeg * componentBytes (FieldType.byte) ≤ 536870912 := by
    have e9 : componentBytes FieldType.byte = 1 := rfl
    rw [e9]
    omega
  refine va_newa (D := G.2.2.1) (atype := .byte) (ty := .byte) (a0 := (n.toNatClampNeg, .inl (fun _ => 0))) (N' := n.toNatClampNeg) hx hb (hK.w am_wd_tb rfl args) rfl hK.2.1 hI.1.1 (am_D G h) hI.2.1 (fun q hq => Nat.le_trans hE.1.2.2 hq) (fun cA => vp_cell_i cA n.toNatClampNeg (fun _ => 0)) hn rfl hby (by have := hrm.1; omega) (by have := hrm.2; omega) hd (fun q cA H1 hK1 hP1 hD1 hS1 => am_hz fun hz => ?_)
  have e3 : cA = G.2.2.2 1 := am_ra (hK1.2 5 (cA, .byte) rfl).2 (hK.2.1.2 1 (G.2.2.2 1, .byte) rfl).2
  subst e3
  obtain ⟨rfl, hI1⟩ := am_I.new hI (y := .inl (1, n.toNatClampNeg, .inl (fun _ => 0))) (n := n.toNatClampNeg) rfl hP1 hD1 hS1 hz
  exact K H1 locs (cells + 1) (slots + n.toNatClampNeg) cl hI1 hL
theorem am_o_nwz (hx : p.tables.exec = Jvm.exec) (hb : c.code = cc) (hK : am_K G s) (hE : am_E G s) {n : Int32} (hn : ¬ n < 0) (hn2 : n.toNatClampNeg ≤ 100000) (hrm : am_Rm R k0 z0 h n.toNatClampNeg) (hd : decode cc pc = .ok (.newarray .boolean, 2)) (K : am_Kn p l e R s m args below meth c Q G k0 z0 (pc + 2) ls (.ref h.length :: st) (h ++ [.inl (2, n.toNatClampNeg, .inl (fun _ => 0))])) : am_Kn p l e R s m args below meth c Q G k0 z0 pc ls (.int n :: st) h := by
  intro H locs cells slots cl hI hL
  have hcl := hI.2.2.1
  have hsl := hI.2.2.2.1
  have hby : n.toNatClampNeg * componentBytes (FieldType.boolean) ≤ 536870912 := by
    have e9 : componentBytes FieldType.boolean = 1 := rfl
    rw [e9]
    omega
  refine va_newa (D := G.2.2.1) (atype := .boolean) (ty := .boolean) (a0 := (n.toNatClampNeg, .inl (fun _ => 0))) (N' := n.toNatClampNeg) hx hb (hK.w am_wd_tz rfl args) rfl hK.2.1 hI.1.1 (am_D G h) hI.2.1 (fun q hq => Nat.le_trans hE.1.2.2 hq) (fun cA => vp_cell_i cA n.toNatClampNeg (fun _ => 0)) hn rfl hby (by have := hrm.1; omega) (by have := hrm.2; omega) hd (fun q cA H1 hK1 hP1 hD1 hS1 => am_hz fun hz => ?_)
  have e3 : cA = G.2.2.2 2 := am_ra (hK1.2 5 (cA, .boolean) rfl).2 (hK.2.1.2 2 (G.2.2.2 2, .boolean) rfl).2
  subst e3
  obtain ⟨rfl, hI1⟩ := am_I.new hI (y := .inl (2, n.toNatClampNeg, .inl (fun _ => 0))) (n := n.toNatClampNeg) rfl hP1 hD1 hS1 hz
  exact K H1 locs (cells + 1) (slots + n.toNatClampNeg) cl hI1 hL
theorem am_o_anwO (hx : p.tables.exec = Jvm.exec) (hb : c.code = cc) (hK : am_K G s) (hE : am_E G s) {own : String} {n : Int32} {i : Nat} (ho : s.vm.findClass own = some m.cls) (hc : (Jvm.Cond.classLink own i "java/lang/Object").before args s = true) (hn : ¬ n < 0) (hn2 : n.toNatClampNeg ≤ 100000) (hrm : am_Rm R k0 z0 h n.toNatClampNeg) (hd : decode cc pc = .ok (.anewarray i, 3)) (K : am_Kn p l e R s m args below meth c Q G k0 z0 (pc + 3) ls (.ref h.length :: st) (h ++ [.inl (3, n.toNatClampNeg, .inr (.inr (.inr (.inr (fun _ => none)))))])) : am_Kn p l e R s m args below meth c Q G k0 z0 pc ls (.int n :: st) h := by
  intro H locs cells slots cl hI hL
  have hcl := hI.2.2.1
  have hsl := hI.2.2.2.1
  refine va_newq (D := G.2.2.1) hx hb ho hc (va_AO.of (hK.w am_wd_to rfl args)) hK.2.1 hI.1.1 (am_D G h) hI.2.1 (fun q hq => Nat.le_trans hE.1.2.2 hq) hn rfl (by omega) (by have := hrm.1; omega) (by have := hrm.2; omega) hd (fun q cA H1 hK1 hP1 hD1 hS1 => am_hz fun hz => ?_)
  obtain ⟨-, -, -, -, -, e1⟩ := (hK1.2 5 (cA, .object "java/lang/Object") rfl).2
  obtain ⟨-, -, -, -, -, e2⟩ := (hK.2.1.2 3 (G.2.2.2 3, .object "java/lang/Object") rfl).2
  have e3 : cA = G.2.2.2 3 := Option.some.inj (e1.symm.trans e2)
  subst e3
  obtain ⟨rfl, hI1⟩ := am_I.new hI (y := .inl (3, n.toNatClampNeg, .inr (.inr (.inr (.inr (fun _ => none)))))) (n := n.toNatClampNeg) rfl hP1 hD1 hS1 hz
  exact K H1 locs (cells + 1) (slots + n.toNatClampNeg) cl hI1 hL
theorem am_o_anwS (hx : p.tables.exec = Jvm.exec) (hb : c.code = cc) (hK : am_K G s) (hE : am_E G s) {own : String} {n : Int32} {i : Nat} (ho : s.vm.findClass own = some m.cls) (hc : (Jvm.Cond.classLink own i RX6).before args s = true) (hn : ¬ n < 0) (hn2 : n.toNatClampNeg ≤ 100000) (hrm : am_Rm R k0 z0 h n.toNatClampNeg) (hd : decode cc pc = .ok (.anewarray i, 3)) (K : am_Kn p l e R s m args below meth c Q G k0 z0 (pc + 3) ls (.ref h.length :: st) (h ++ [.inl (4, n.toNatClampNeg, .inr (.inr (.inr (.inr (fun _ => none)))))])) : am_Kn p l e R s m args below meth c Q G k0 z0 pc ls (.int n :: st) h := by
  intro H locs cells slots cl hI hL
  have hcl := hI.2.2.1
  have hsl := hI.2.2.2.1
  refine va_newq (D := G.2.2.1) hx hb ho hc (va_AO.of (hK.w am_wd_th rfl args)) hK.2.1 hI.1.1 (am_D G h) hI.2.1 (fun q hq => Nat.le_trans hE.1.2.2 hq) hn rfl (by omega) (by have := hrm.1; omega) (by have := hrm.2; omega) hd (fun q cA H1 hK1 hP1 hD1 hS1 => am_hz fun hz => ?_)
  obtain ⟨-, -, -, -, -, e1⟩ := (hK1.2 5 (cA, .object RX6) rfl).2
  obtain ⟨-, -, -, -, -, e2⟩ := (hK.2.1.2 4 (G.2.2.2 4, .object RX6) rfl).2
  have e3 : cA = G.2.2.2 4 := Option.some.inj (e1.symm.trans e2)
  subst e3
  obtain ⟨rfl, hI1⟩ := am_I.new hI (y := .inl (4, n.toNatClampNeg, .inr (.inr (.inr (.inr (fun _ => none)))))) (n := n.toNatClampNeg) rfl hP1 hD1 hS1 hz
  exact K H1 locs (cells + 1) (slots + n.toNatClampNeg) cl hI1 hL
theorem am_o_cast (hx : p.tables.exec = Jvm.exec) (hb : c.code = cc) (hK : am_K G s) {own : String} {a i x : Nat} {r : vw_C} {fs : List Value} (ho : s.vm.findClass own = some m.cls) (hr : vwCl[a]? = some r) (hc : (Jvm.Cond.classLink own i r.1).before args s = true) (hh : h[x]? = some (.inr (a, fs))) (hd : decode cc pc = .ok (.checkcast i, 3)) (K : am_Kn p l e R s m args below meth c Q G k0 z0 (pc + 3) ls (.ref x :: st) h) : am_Kn p l e R s m args below meth c Q G k0 z0 pc ls (.ref x :: st) h := by
  intro H locs cells slots cl hI hL
  obtain ⟨k, rfl, hw⟩ := am_idx hI.1 hh (by simp [am_ne, am_cl12 hr])
  exact va_castS hx hb ho hc (hK.2.1.1 a r hr).2 (va_recv hK.2.1 hI.1.1 hr hw) hd (K H locs cells slots cl hI hL)
theorem am_sum_cv (G : am_G) (st : List Value) : ((st.map (am_cv G)).map fun v => v.category).sum = am_sum st := by
  unfold am_sum
  rw [List.map_map]
  congr 1
  exact List.map_congr_left (fun v _ => am_cv_cat G v)
theorem am_o_oini (hx : p.tables.exec = Jvm.exec) (hb : c.code = cc) (hK : am_K G s) {own : String} {i x : Nat} (hml : c.maxLocals = ls.length) (ho : s.vm.findClass own = some m.cls) (hlink : (Jvm.Cond.methodLink own i objectInit).before args s = true) (hf : 1 ≤ R.frames) (hlo : am_sum st + 20 ≤ R.locals) (hd : decode cc pc = .ok (.invokespecial i, 3)) (K : am_Kn p l e R s m args below meth c Q G k0 z0 (pc + 3) ls st h) : am_Kn p l e R s m args below meth c Q G k0 z0 pc ls (.ref x :: st) h := by
  intro H locs cells slots cl hI hL
  refine W.objInit hx hb ho hlink (hK.w am_wd_oi rfl args) (hK.w am_wd_oc rfl args) rfl (by rw [hml]; exact hL.1) rfl hd hf ?_ (K H locs cells slots cl hI hL)
  rw [am_sum_cv]
  show 2 * 0 + am_sum st + 12 ≤ _
  omega
theorem am_o_gcls (hx : p.tables.exec = Jvm.exec) (hb : c.code = cc) (hK : am_K G s) {own : String} {i x n : Nat} {y : (Nat → Int32) ⊕ (Nat → Int64) ⊕ (Nat → UInt32) ⊕ (Nat → UInt64) ⊕ (Nat → Option Nat)} (hml : c.maxLocals = ls.length) (ho : s.vm.findClass own = some m.cls) (hlink : (Jvm.Cond.methodLink own i am_gcN).before args s = true) (hh : h[x]? = some (.inl (3, n, y))) (hf : 1 ≤ R.frames) (hlo : am_sum st + 20 ≤ R.locals) (hd : decode cc pc = .ok (.invokevirtual i, 3)) (K : am_Kn p l e R s m args below meth c Q G k0 z0 (pc + 3) ls (.ref 2 :: st) h) : am_Kn p l e R s m args below meth c Q G k0 z0 pc ls (.ref x :: st) h := by
  intro H locs cells slots cl hI hL
  obtain ⟨k, rfl, hw⟩ := am_idx hI.1 hh rfl
  have hcell : H[G.1.1 + k]? = some (vp_cell (G.2.2.2 3) (am_ca G (n, y))) := hI.1.1 k _ hw
  have hfc : s.vm.findClass "[Ljava/lang/Object;" = some (G.2.2.2 3) := va_nmO (hK.2.1.2 3 (G.2.2.2 3, .object "java/lang/Object") rfl).2 (by decide +kernel)
  refine va_getC (C := "[Ljava/lang/Object;") hx hb (by rw [hml]; exact hL.1.symm) ho hlink (hK.w am_wd_gd rfl args) (hK.w am_wd_gs rfl args) (hK.w am_wd_gi rfl args) (hK.w am_wd_gn rfl args) hK.2.2 ⟨_, hcell, ?_, ?_⟩ hf ?_ hd (K H locs cells slots cl hI hL)
  · rcases y with f | f | f | f | f <;> rfl
  · rw [hfc]
    rcases y with f | f | f | f | f <;> rfl
  · rw [am_sum_cv]
    omega
theorem am_cpi_inv {sp dp n : Int32} {n0 n1 : Nat} (hc : am_cpi sp dp n n0 n1 = true) : ¬ sp < 0 ∧ ¬ dp < 0 ∧ ¬ n < 0 ∧ sp.toNatClampNeg + n.toNatClampNeg ≤ n0 ∧ dp.toNatClampNeg + n.toNatClampNeg ≤ n1 := by
  simp only [am_cpi, Bool.and_eq_true, decide_eq_true_eq] at hc
  exact ⟨hc.1.1.1.1, hc.1.1.1.2, hc.1.1.2, hc.1.2, hc.2⟩
theorem am_o_cpr (hx : p.tables.exec = Jvm.exec) (hb : c.code = cc) (hK : am_K G s) {own : String} {i x y n0 n1 : Nat} {f g : Nat → Option Nat} {sp dp n : Int32} (hml : c.maxLocals = ls.length) (ho : s.vm.findClass own = some m.cls) (hlink : (Jvm.Cond.methodLink own i arraycopyName).before args s = true) (hh : h[x]? = some (.inl (3, n0, .inr (.inr (.inr (.inr f)))))) (hh2 : h[y]? = some (.inl (3, n1, .inr (.inr (.inr (.inr g)))))) (hc : am_cpi sp dp n n0 n1 = true) (hr : am_cpr h f sp.toNatClampNeg n.toNatClampNeg = true) (hf : 1 ≤ R.frames) (hlo : am_sum st + 20 ≤ R.locals) (hd : decode cc pc = .ok (.invokestatic i, 3)) (K : am_Kn p l e R s m args below meth c Q G k0 z0 (pc + 3) ls st (h.set y (.inl (3, n1, .inr (.inr (.inr (.inr (va_cpy f g sp.toNatClampNeg dp.toNatClampNeg n.toNatClampNeg)))))))) : am_Kn p l e R s m args below meth c Q G k0 z0 pc ls (.int n :: .int dp :: .ref y :: .int sp :: .ref x :: st) h := by
  intro H locs cells slots cl hI hL
  obtain ⟨k, rfl, hw⟩ := am_idx hI.1 hh rfl
  obtain ⟨k2, rfl, hw2⟩ := am_idx hI.1 hh2 rfl
  obtain ⟨c1, c2, c3, c4, c5⟩ := am_cpi_inv hc
  refine va_copyM (E0 := "java/lang/Object") (E1 := "java/lang/Object") hx hb (by rw [hml]; exact hL.1.symm) ho hlink (hK.w am_wd_an rfl args) (hK.w am_wd_as rfl args) (hK.w am_wd_ai rfl args) hK.2.1 hI.1.1 (am_D G h) hI.2.1 k k2 3 3 hw hw2 rfl rfl c1 c2 c3 c4 c5 ?_ hf ?_ hd (fun H1 locs1 hP1 hD1 hS1 => am_hz fun hz => K H1 locs1 cells slots cl (am_I.upd hI hh2 (y' := .inl (3, n1, .inr (.inr (.inr (.inr (va_cpy f g sp.toNatClampNeg dp.toNatClampNeg n.toNatClampNeg)))))) rfl ?_ hS1 hz) hL)
  · intro j hj z hz
    have hq := List.all_eq_true.mp hr j (List.mem_range.mpr hj)
    cases hfj : f (sp.toNatClampNeg + j) with
    | none => rw [hfj] at hz; cases hz
    | some w =>
      rw [hfj] at hz
      have hz2 : am_ad G w = z := Option.some.inj hz
      subst hz2
      simp only [hfj] at hq
      obtain ⟨a, ha⟩ := Option.isSome_iff_exists.mp hq
      obtain ⟨fs, hv1, ha2⟩ := am_obj_inv ha
      obtain ⟨r, hr2⟩ := am_vw ha2
      obtain ⟨k3, rfl, hw3⟩ := am_idx hI.1 hv1 (by simp [am_ne, ha2])
      refine va_rAny hK.2.1 hI.1.1 hw3 hr2 (fun comp c0 q1 q2 => ?_)
      obtain ⟨c9, t9, f1, f2, f3⟩ := Cond.castable_spec (va_Nw.use (A := args) rfl (am_casO hK hr2))
      cases q2.symm.trans f1
      cases q1.symm.trans f2
      exact f3
  · rw [am_sum_cv]
    have e9 : nativeFrameWords "java/lang/System" "arraycopy" 5 = 7 := by decide
    omega
  · have e : am_cc G (.inl (3, n1, .inr (.inr (.inr (.inr (va_cpy f g sp.toNatClampNeg dp.toNatClampNeg n.toNatClampNeg)))))) = .inl (G.2.2.2 3, n1, .inr (.inr (.inr (.inr (va_cpy (fun j => (f j).map (am_ad G)) (fun j => (g j).map (am_ad G)) sp.toNatClampNeg dp.toNatClampNeg n.toNatClampNeg))))) := by
      simp only [am_cc, am_ca]
      congr 7
      funext j
      unfold va_cpy
      split <;> rfl
    rw [e]
    exact hP1
theorem am_o_cpb (hx : p.tables.exec = Jvm.exec) (hb : c.code = cc) (hK : am_K G s) {own : String} {i x y n0 n1 : Nat} {f g : Nat → Int32} {sp dp n : Int32} (hml : c.maxLocals = ls.length) (ho : s.vm.findClass own = some m.cls) (hlink : (Jvm.Cond.methodLink own i arraycopyName).before args s = true) (hh : h[x]? = some (.inl (1, n0, .inl f))) (hh2 : h[y]? = some (.inl (1, n1, .inl g))) (hc : am_cpi sp dp n n0 n1 = true) (hr : am_cpb f sp.toNatClampNeg n.toNatClampNeg = true) (hf : 1 ≤ R.frames) (hlo : am_sum st + 20 ≤ R.locals) (hd : decode cc pc = .ok (.invokestatic i, 3)) (K : am_Kn p l e R s m args below meth c Q G k0 z0 (pc + 3) ls st (h.set y (.inl (1, n1, .inl (va_cpy f g sp.toNatClampNeg dp.toNatClampNeg n.toNatClampNeg))))) : am_Kn p l e R s m args below meth c Q G k0 z0 pc ls (.int n :: .int dp :: .ref y :: .int sp :: .ref x :: st) h := by
  intro H locs cells slots cl hI hL
  obtain ⟨k, rfl, hw⟩ := am_idx hI.1 hh rfl
  obtain ⟨k2, rfl, hw2⟩ := am_idx hI.1 hh2 rfl
  obtain ⟨c1, c2, c3, c4, c5⟩ := am_cpi_inv hc
  refine va_copyi (ty := .byte) hx hb (by rw [hml]; exact hL.1.symm) ho hlink (hK.w am_wd_an rfl args) (hK.w am_wd_as rfl args) (hK.w am_wd_ai rfl args) hK.2.1 hI.1.1 (am_D G h) hI.2.1 k k2 1 1 hw hw2 rfl rfl rfl c1 c2 c3 c4 c5 (fun j hj => List.all_eq_true.mp hr j (List.mem_range.mpr hj)) hf ?_ hd (fun H1 locs1 hP1 hD1 hS1 => am_hz fun hz => K H1 locs1 cells slots cl (am_I.upd hI hh2 (y' := .inl (1, n1, .inl (va_cpy f g sp.toNatClampNeg dp.toNatClampNeg n.toNatClampNeg))) rfl hP1 hS1 hz) hL)
  rw [am_sum_cv]
  have e9 : nativeFrameWords "java/lang/System" "arraycopy" 5 = 7 := by decide
  omega
theorem am_o_abs (hx : p.tables.exec = Jvm.exec) (hb : c.code = cc) (hK : am_K G s) {own : String} {i : Nat} {x : Int32} (hml : c.maxLocals = ls.length) (ho : s.vm.findClass own = some m.cls) (hlink : (Jvm.Cond.methodLink own i Lib.Math.abs.name).before args s = true) (hf : 1 ≤ R.frames) (hlo : am_sum st + 20 ≤ R.locals) (hrm : h.length ≤ R.cells + k0 ∧ am_sz h ≤ R.slots + z0) (hd : decode cc pc = .ok (.invokestatic i, 3)) (K : am_Kn p l e R s m args below meth c Q G k0 z0 (pc + 3) ls (.int (if 0 ≤ x then x else 0 - x) :: st) h) : am_Kn p l e R s m args below meth c Q G k0 z0 pc ls (.int x :: st) h := by
  intro H locs cells slots cl hI hL
  have hcl := hI.2.2.1
  have hsl := hI.2.2.2.1
  exact va_mabs hx hb (by rw [hml]; exact hL.1.symm) ho hlink (hK.w am_wd_abss rfl args) (hK.w am_wd_mi rfl args) (hK.w am_wd_absc rfl args) hf (by rw [am_sum_cv]; omega) (by omega) (by omega) hd (K H locs cells slots cl hI hL)
theorem am_o_max (hx : p.tables.exec = Jvm.exec) (hb : c.code = cc) (hK : am_K G s) {own : String} {i : Nat} {x y : Int32} (hml : c.maxLocals = ls.length) (ho : s.vm.findClass own = some m.cls) (hlink : (Jvm.Cond.methodLink own i Lib.Math.max.name).before args s = true) (hf : 1 ≤ R.frames) (hlo : am_sum st + 20 ≤ R.locals) (hrm : h.length ≤ R.cells + k0 ∧ am_sz h ≤ R.slots + z0) (hd : decode cc pc = .ok (.invokestatic i, 3)) (K : am_Kn p l e R s m args below meth c Q G k0 z0 (pc + 3) ls (.int (if x < y then y else x) :: st) h) : am_Kn p l e R s m args below meth c Q G k0 z0 pc ls (.int y :: .int x :: st) h := by
  intro H locs cells slots cl hI hL
  have hcl := hI.2.2.1
  have hsl := hI.2.2.2.1
  exact va_mmax hx hb (by rw [hml]; exact hL.1.symm) ho hlink (hK.w am_wd_maxs rfl args) (hK.w am_wd_mi rfl args) (hK.w am_wd_maxc rfl args) hf (by rw [am_sum_cv]; omega) (by omega) (by omega) hd (K H locs cells slots cl hI hL)
theorem am_o_min (hx : p.tables.exec = Jvm.exec) (hb : c.code = cc) (hK : am_K G s) {own : String} {i : Nat} {x y : Int32} (hml : c.maxLocals = ls.length) (ho : s.vm.findClass own = some m.cls) (hlink : (Jvm.Cond.methodLink own i Lib.Math.min.name).before args s = true) (hf : 1 ≤ R.frames) (hlo : am_sum st + 20 ≤ R.locals) (hrm : h.length ≤ R.cells + k0 ∧ am_sz h ≤ R.slots + z0) (hd : decode cc pc = .ok (.invokestatic i, 3)) (K : am_Kn p l e R s m args below meth c Q G k0 z0 (pc + 3) ls (.int (if y < x then y else x) :: st) h) : am_Kn p l e R s m args below meth c Q G k0 z0 pc ls (.int y :: .int x :: st) h := by
  intro H locs cells slots cl hI hL
  have hcl := hI.2.2.1
  have hsl := hI.2.2.2.1
  exact va_mmin hx hb (by rw [hml]; exact hL.1.symm) ho hlink (hK.w am_wd_mins rfl args) (hK.w am_wd_mi rfl args) (hK.w am_wd_minc rfl args) hf (by rw [am_sum_cv]; omega) (by omega) (by omega) hd (K H locs cells slots cl hI hL)
end AMQ
end
section
/-! calls -/
def am_Pc (G : am_G) (as : List Value) (h : am_H) : Array Value → State → Prop := fun A U => A = (as.map (am_cv G)).toArray ∧ am_K G U ∧ am_E G U ∧ am_P G h U.heap
def am_Qc (G : am_G) (v : Option Value) (h' : am_H) : Array Value → State → Outcome → State → Prop := fun _ st o t => o = .returned (v.map (am_cv G)) ∧ am_P G h' t.heap ∧ ∀ q, q < G.1.1 → t.heap[q]? = st.heap[q]?
def am_rm (N : am_M) (h h' : am_H) : Room := { frames := N.2.2.2.2.1, cells := h'.length - h.length, slots := am_sz h' - am_sz h, locals := N.2.2.2.2.2.1 }
def am_Ms (l : Launch) (G : am_G) (N : am_M) (Y : am_Y) (as : List Value) (h : am_H) (v : Option Value) (h' : am_H) : Prop := Met l Y.1 [Jvm.Cond.code Y.1 Y.2.1 N.2.2.2.1 Y.2.2.1] (am_rm N h h') (am_Pc G as h) (am_Qc G v h') (h'.length - h.length) (am_sz h' - am_sz h) (am_A G)
theorem am_blind (G : am_G) (as : List Value) (h : am_H) : FrameBlind (am_Pc G as h) := by
  intro a U g mk ⟨h1, h2, h3, h4⟩
  exact ⟨h1, am_K.mv (s := U) (U := U.calling g mk a) (State.WarmedH.refl U) h2, am_E.mv (s := U) (U := U.calling g mk a) (locs := []) (State.WarmedH.refl U) va_S.rf h3, h4⟩
theorem am_yok_inv {N : am_M} {Y : am_Y} (h : am_yok N Y = true) : am_w Y.2.2.2.2.2.1 (.code Y.1 Y.2.1 N.2.2.2.1 Y.2.2.1) = true ∧ am_w Y.2.2.2.2.2.2.1 (.initialized Y.1.cls) = true ∧ (if Y.2.2.2.2.1 = true then am_w Y.2.2.2.2.2.2.2.1 (.static Y.1) else am_w Y.2.2.2.2.2.2.2.1 (.instanceMethod Y.1)) = true ∧ (if Y.2.2.2.2.1 = true then true else if Y.1.name = "<init>" then true else am_w Y.2.2.2.2.2.2.2.2 (.selects Y.1.cls Y.1 Y.1)) = true ∧ (Y.1.cls ≠ "java/lang/invoke/MethodHandle" ∧ Y.1.cls ≠ "java/lang/invoke/VarHandle") ∧ plainName Y.1.cls = true ∧ (parseMethodDescriptor Y.1.desc).map (fun d => d.parameters.length) = some Y.2.2.2.1 ∧ Y.1.cls = am_cnm N.1 ∧ N.2.1 = decide (Y.1.name = "<init>") ∧ (match N.2.2.1 with
      | 0 => decide (Y.2.2.1 = some .int)
      | 1 => decide (Y.2.2.1 = some .boolean)
      | 2 => decide (Y.2.2.1 = some .long)
      | 3 => (match Y.2.2.1 with
        | some (.object _) => true
        | some (.array _) => true
        | _ => false)
      | 4 => decide (Y.2.2.1 = none)
      | _ => false) = true := by
  obtain ⟨y, c, ret, np, st, pc, pi, pk, ps⟩ := Y
  simp only [am_yok, Bool.and_eq_true] at h
  obtain ⟨⟨⟨⟨⟨⟨⟨⟨⟨h1, h2⟩, h3⟩, h4⟩, h5⟩, h6⟩, h7⟩, h8⟩, h9⟩, h10⟩ := h
  exact ⟨h1, h2, h3, h4, of_decide_eq_true h5, h6, of_decide_eq_true h7, of_decide_eq_true h8, of_decide_eq_true h9, h10⟩
section AMR
variable {p : Program} {l : Launch} {e : Env} {R : Room} {s : State} {m : MethodId} {args : Array Value} {below : List Frame} {meth : Method} {c : Code} {Q : State → Prop} {G : am_G} {k0 z0 : Nat} {cc : ByteArray} {pc nL : Nat} {ls ls' : am_L} {st : List Value} {h h' : am_H} {H : Heap} {locs : List Loc} {cells slots : Nat} {cl : Array Slot}
theorem am_go {mc ms : Nat} {st0 rest : List Value} {Qa : State → Outcome → State → Prop} {free : Addr → Prop} (hr : va_Run p l e R s m args below meth c H locs cells slots mc ms (F0 m pc cl st0) rest Qa free) (kk : ∀ (v : Option Value) (st₀ t : State) (L : List Loc), st₀.heap = H → Qa st₀ (.returned v) t → (∀ q ∈ L, free q.base) → W p l e R s m args below meth c t.heap (locs ++ L) (cells + mc) (slots + ms) Q (F0 m (pc + 3) cl (v.toList ++ rest))) : W p l e R s m args below meth c H locs cells slots Q (F0 m pc cl st0) := by
  intro T hT X
  obtain ⟨v, st₀, t, T', L, h0, X', hL, e1, e2, hq, go⟩ := hr T hT X
  obtain ⟨t2, a1, b1⟩ := kk v st₀ t L h0 hq hL T' e1 X'
  exact ⟨t2, go t2 a1, b1⟩
theorem am_after {v vv : Option Value} {st₀ t : State} {L : List Loc} {aa : Array Value} (hI : am_I G s h H locs cells slots k0 z0) (hE : am_E G s) (hmo : h.length ≤ h'.length ∧ am_sz h ≤ am_sz h') (h0 : st₀.heap = H) (hq : am_Qc G v h' aa st₀ (.returned vv) t) (hL : ∀ q ∈ L, am_A G q.base) : vv = v.map (am_cv G) ∧ am_I G s h' t.heap (locs ++ L) (cells + (h'.length - h.length)) (slots + (am_sz h' - am_sz h)) k0 z0 := by
  obtain ⟨q1, q2, q3⟩ := hq
  have i3 := hI.2.2.1
  have i4 := hI.2.2.2.1
  have i5 := hI.2.2.2.2
  have i6 := hI.1.2.2
  have i7 := q2.2.2
  have i8 := hI.2.1.1
  refine ⟨Outcome.returned.inj q1, q2, ⟨by omega, fun q a1 a2 => ?_, fun q hq => ?_⟩, by omega, by omega, i5⟩
  · rw [q3 q (Nat.not_le.mp a2), h0]
    exact hI.2.1.2.1 q a1 a2
  · rcases List.mem_append.mp hq with z | z
    · exact hI.2.1.2.2 q z
    · exact hL q z
theorem am_pre (hK : am_K G s) (hE : am_E G s) (hI : am_I G s h H locs cells slots k0 z0) (as : List Value) : ∀ U : State, U.heap = H → s.WarmedH U.vm → am_Pc G as h (as.map (am_cv G)).toArray U := by
  intro U hU hW
  subst hU
  exact ⟨rfl, am_K.mv hW hK, am_E.mv hW hI.2.1 hE, hI.1⟩
theorem am_vst (v : Option Value) : (v.map (am_cv G)).toList ++ st.map (am_cv G) = (v.toList ++ st).map (am_cv G) := by cases v <;> rfl
theorem am_ws1 {w : Jvm.Cond} (hg : goodWord w = true) (hw : ∀ a : Array Value, w.before a s = true) : ∀ w' ∈ [w], ∀ (a' : Array Value) (U : State), s.WarmedH U.vm → w'.before a' U = true := by
  intro w' h1 a' U hW
  rw [List.mem_singleton.mp h1]
  exact word_at (args := #[]) hW (good_of_word hg) (hw #[])
theorem am_o_callS (hx : p.tables.exec = Jvm.exec) (hb : c.code = cc) (hml : c.maxLocals = ls.length) (hK : am_K G s) (hE : am_E G s) {own : String} (ho : s.vm.findClass own = some m.cls) {i : Nat} {N : am_M} {Y : am_Y} (hy : am_yok N Y = true) (hst : Y.2.2.2.2.1 = true) (hlink : (Jvm.Cond.methodLink own i Y.1).before args s = true) {as : List Value} {v : Option Value} (hn : as.length = Y.2.2.2.1) (hct : am_Ms l G N Y as h v h') (hmo : h.length ≤ h'.length ∧ am_sz h ≤ am_sz h') (hsum : am_sum st ≤ 8) (hf : N.2.2.2.2.1 + 1 ≤ R.frames) (hlo : 8 + (N.2.2.2.1 + 11) + N.2.2.2.2.2.1 ≤ R.locals) (hrm : h'.length ≤ R.cells + k0 ∧ am_sz h' ≤ R.slots + z0) (hd : decode cc pc = .ok (.invokestatic i, 3)) (K : am_Kn p l e R s m args below meth c Q G k0 z0 (pc + 3) ls (v.toList ++ st) h') : am_Kn p l e R s m args below meth c Q G k0 z0 pc ls (as.reverse ++ st) h := by
  intro H locs cells slots cl hI hL
  have hcl := hI.2.2.1
  have hsl := hI.2.2.2.1
  obtain ⟨f1, f2, f3, f4, f5, f6, f7, f8, f9, f10⟩ := am_yok_inv hy
  rw [if_pos hst] at f3
  refine am_go (va_runS (As := as.map (am_cv G)) (rest := st.map (am_cv G)) (cc := cc) (nL := ls.length) (Ts := []) ⟨hx, hb, hml, ho, fun w hw => absurd hw List.not_mem_nil⟩ hct ⟨⟨rfl, rfl, hf, hlo, am_ws1 rfl (fun a => hK.w f1 rfl a), List.mem_singleton.mpr rfl, hK.w f1 rfl args, hK.w f2 rfl args, f5, fun sig hs => by rw [hs] at f7; exact (Option.some.inj f7).symm, hlink⟩, hK.w f3 rfl args⟩ ⟨am_blind G as h, am_pre hK hE hI as⟩ rfl (by rw [List.length_map, hn]) hL.1 (by simp [am_cv]) (lv_room (by rw [am_sum_cv]; exact hsum)) hd (by omega)) (fun vv st₀ t L h0 hq hL2 => ?_)
  obtain ⟨rfl, hI2⟩ := am_after hI hE hmo h0 hq hL2
  rw [am_vst]
  exact K _ _ _ _ cl hI2 hL
theorem am_o_callSN (hx : p.tables.exec = Jvm.exec) (hb : c.code = cc) (hml : c.maxLocals = ls.length) (hK : am_K G s) (hE : am_E G s) {own : String} (ho : s.vm.findClass own = some m.cls) {i : Nat} {N : am_M} {Y : am_Y} (hy : am_yok N Y = true) (hst : Y.2.2.2.2.1 = true) (hlink : (Jvm.Cond.methodLinkNest own i Y.1 "CriersOffice").before args s = true) {as : List Value} {v : Option Value} (hn : as.length = Y.2.2.2.1) (hct : am_Ms l G N Y as h v h') (hmo : h.length ≤ h'.length ∧ am_sz h ≤ am_sz h') (hsum : am_sum st ≤ 8) (hf : N.2.2.2.2.1 + 1 ≤ R.frames) (hlo : 8 + (N.2.2.2.1 + 11) + N.2.2.2.2.2.1 ≤ R.locals) (hrm : h'.length ≤ R.cells + k0 ∧ am_sz h' ≤ R.slots + z0) (hd : decode cc pc = .ok (.invokestatic i, 3)) (K : am_Kn p l e R s m args below meth c Q G k0 z0 (pc + 3) ls (v.toList ++ st) h') : am_Kn p l e R s m args below meth c Q G k0 z0 pc ls (as.reverse ++ st) h := by
  intro H locs cells slots cl hI hL
  have hcl := hI.2.2.1
  have hsl := hI.2.2.2.1
  obtain ⟨f1, f2, f3, f4, f5, f6, f7, f8, f9, f10⟩ := am_yok_inv hy
  rw [if_pos hst] at f3
  refine am_go (va_runSN (As := as.map (am_cv G)) (rest := st.map (am_cv G)) (cc := cc) (nL := ls.length) (Ts := []) (host := "CriersOffice") ⟨hx, hb, hml, ho, fun w hw => absurd hw List.not_mem_nil⟩ hct ⟨⟨⟨rfl, rfl, hf, hlo, am_ws1 rfl (fun a => hK.w f1 rfl a), List.mem_singleton.mpr rfl⟩, hK.w f1 rfl args, hK.w f2 rfl args, f5, fun sig hs => by rw [hs] at f7; exact (Option.some.inj f7).symm, hlink⟩, hK.w f3 rfl args, trivial⟩ ⟨am_blind G as h, am_pre hK hE hI as⟩ rfl (by rw [List.length_map, hn]) hL.1 (by simp [am_cv]) (lv_room (by rw [am_sum_cv]; exact hsum)) hd (by omega)) (fun vv st₀ t L h0 hq hL2 => ?_)
  obtain ⟨rfl, hI2⟩ := am_after hI hE hmo h0 hq hL2
  rw [am_vst]
  exact K _ _ _ _ cl hI2 hL
theorem am_o_callV (hx : p.tables.exec = Jvm.exec) (hb : c.code = cc) (hml : c.maxLocals = ls.length) (hK : am_K G s) (hE : am_E G s) {own : String} (ho : s.vm.findClass own = some m.cls) {i x : Nat} {N : am_M} {Y : am_Y} (hy : am_yok N Y = true) {a : Nat} {r : vw_C} {fs : List Value} (hr : vwCl[a]? = some r) (hrc : r.1 = Y.1.cls) (hh : h[x]? = some (.inr (a, fs))) (hst : Y.2.2.2.2.1 = false) (hnm : ¬ Y.1.name = "<init>") (hlink : (Jvm.Cond.methodLink own i Y.1).before args s = true) {as : List Value} {v : Option Value} (hn : as.length = Y.2.2.2.1) (hct : am_Ms l G N Y (.ref x :: as) h v h') (hmo : h.length ≤ h'.length ∧ am_sz h ≤ am_sz h') (hsum : am_sum st ≤ 8) (hf : N.2.2.2.2.1 + 1 ≤ R.frames) (hlo : 8 + (N.2.2.2.1 + 11) + N.2.2.2.2.2.1 ≤ R.locals) (hrm : h'.length ≤ R.cells + k0 ∧ am_sz h' ≤ R.slots + z0) (hd : decode cc pc = .ok (.invokevirtual i, 3)) (K : am_Kn p l e R s m args below meth c Q G k0 z0 (pc + 3) ls (v.toList ++ st) h') : am_Kn p l e R s m args below meth c Q G k0 z0 pc ls (as.reverse ++ .ref x :: st) h := by
  intro H locs cells slots cl hI hL
  have hcl := hI.2.2.1
  have hsl := hI.2.2.2.1
  obtain ⟨f1, f2, f3, f4, f5, f6, f7, f8, f9, f10⟩ := am_yok_inv hy
  rw [if_neg (by rw [hst]; decide)] at f3
  rw [if_neg (by rw [hst]; decide), if_neg hnm] at f4
  obtain ⟨k, rfl, hw⟩ := am_idx hI.1 hh (by simp [am_ne, am_cl12 hr])
  refine am_go (va_runV (As := as.map (am_cv G)) (rest := st.map (am_cv G)) (cc := cc) (nL := ls.length) (Ts := []) (C := Y.1.cls) ⟨hx, hb, hml, ho, fun w hw => absurd hw List.not_mem_nil⟩ hct ⟨⟨rfl, rfl, hf, hlo, am_ws1 rfl (fun a => hK.w f1 rfl a), List.mem_singleton.mpr rfl, hK.w f1 rfl args, hK.w f2 rfl args, f5, fun sig hs => by rw [hs] at f7; exact (Option.some.inj f7).symm, hlink⟩, hK.w f3 rfl args, hK.w f4 rfl args⟩ ⟨am_blind G (.ref (k + 3) :: as) h, hrc ▸ va_recv hK.2.1 hI.1.1 hr hw, am_pre hK hE hI (.ref (k + 3) :: as)⟩ rfl (by rw [List.length_map, hn]) hL.1 (by simp [am_cv]) (lv_room (by rw [am_sum_cv]; exact hsum)) hd (by omega)) (fun vv st₀ t L h0 hq hL2 => ?_)
  obtain ⟨rfl, hI2⟩ := am_after hI hE hmo h0 hq hL2
  rw [am_vst]
  exact K _ _ _ _ cl hI2 hL
theorem am_o_callVN (hx : p.tables.exec = Jvm.exec) (hb : c.code = cc) (hml : c.maxLocals = ls.length) (hK : am_K G s) (hE : am_E G s) {own : String} (ho : s.vm.findClass own = some m.cls) {i x : Nat} {N : am_M} {Y : am_Y} (hy : am_yok N Y = true) {a : Nat} {r : vw_C} {fs : List Value} (hr : vwCl[a]? = some r) (hrc : r.1 = Y.1.cls) (hh : h[x]? = some (.inr (a, fs))) (hst : Y.2.2.2.2.1 = false) (hnm : ¬ Y.1.name = "<init>") (hlink : (Jvm.Cond.methodLinkNest own i Y.1 "CriersOffice").before args s = true) {as : List Value} {v : Option Value} (hn : as.length = Y.2.2.2.1) (hct : am_Ms l G N Y (.ref x :: as) h v h') (hmo : h.length ≤ h'.length ∧ am_sz h ≤ am_sz h') (hsum : am_sum st ≤ 8) (hf : N.2.2.2.2.1 + 1 ≤ R.frames) (hlo : 8 + (N.2.2.2.1 + 11) + N.2.2.2.2.2.1 ≤ R.locals) (hrm : h'.length ≤ R.cells + k0 ∧ am_sz h' ≤ R.slots + z0) (hd : decode cc pc = .ok (.invokevirtual i, 3)) (K : am_Kn p l e R s m args below meth c Q G k0 z0 (pc + 3) ls (v.toList ++ st) h') : am_Kn p l e R s m args below meth c Q G k0 z0 pc ls (as.reverse ++ .ref x :: st) h := by
  intro H locs cells slots cl hI hL
  have hcl := hI.2.2.1
  have hsl := hI.2.2.2.1
  obtain ⟨f1, f2, f3, f4, f5, f6, f7, f8, f9, f10⟩ := am_yok_inv hy
  rw [if_neg (by rw [hst]; decide)] at f3
  rw [if_neg (by rw [hst]; decide), if_neg hnm] at f4
  obtain ⟨k, rfl, hw⟩ := am_idx hI.1 hh (by simp [am_ne, am_cl12 hr])
  refine am_go (va_runVN (As := as.map (am_cv G)) (rest := st.map (am_cv G)) (cc := cc) (nL := ls.length) (Ts := []) (C := Y.1.cls) (host := "CriersOffice") ⟨hx, hb, hml, ho, fun w hw => absurd hw List.not_mem_nil⟩ hct ⟨⟨⟨rfl, rfl, hf, hlo, am_ws1 rfl (fun a => hK.w f1 rfl a), List.mem_singleton.mpr rfl⟩, hK.w f1 rfl args, hK.w f2 rfl args, f5, fun sig hs => by rw [hs] at f7; exact (Option.some.inj f7).symm, hlink⟩, hK.w f3 rfl args, hK.w f4 rfl args⟩ ⟨am_blind G (.ref (k + 3) :: as) h, hrc ▸ va_recv hK.2.1 hI.1.1 hr hw, am_pre hK hE hI (.ref (k + 3) :: as)⟩ rfl (by rw [List.length_map, hn]) hL.1 (by simp [am_cv]) (lv_room (by rw [am_sum_cv]; exact hsum)) hd (by omega)) (fun vv st₀ t L h0 hq hL2 => ?_)
  obtain ⟨rfl, hI2⟩ := am_after hI hE hmo h0 hq hL2
  rw [am_vst]
  exact K _ _ _ _ cl hI2 hL
theorem am_o_callI (hx : p.tables.exec = Jvm.exec) (hb : c.code = cc) (hml : c.maxLocals = ls.length) (hK : am_K G s) (hE : am_E G s) {own : String} (ho : s.vm.findClass own = some m.cls) {i x : Nat} {N : am_M} {Y : am_Y} (hy : am_yok N Y = true) (hst : Y.2.2.2.2.1 = false) (hnm : Y.1.name = "<init>") (hrn : Y.2.2.1 = none) (hlink : (Jvm.Cond.methodLink own i Y.1).before args s = true) {as : List Value} {v : Option Value} (hn : as.length = Y.2.2.2.1) (hct : am_Ms l G N Y (.ref x :: as) h v h') (hmo : h.length ≤ h'.length ∧ am_sz h ≤ am_sz h') (hsum : am_sum st ≤ 8) (hf : N.2.2.2.2.1 + 1 ≤ R.frames) (hlo : 8 + (N.2.2.2.1 + 11) + N.2.2.2.2.2.1 ≤ R.locals) (hrm : h'.length ≤ R.cells + k0 ∧ am_sz h' ≤ R.slots + z0) (hd : decode cc pc = .ok (.invokespecial i, 3)) (K : am_Kn p l e R s m args below meth c Q G k0 z0 (pc + 3) ls (v.toList ++ st) h') : am_Kn p l e R s m args below meth c Q G k0 z0 pc ls (as.reverse ++ .ref x :: st) h := by
  intro H locs cells slots cl hI hL
  have hcl := hI.2.2.1
  have hsl := hI.2.2.2.1
  obtain ⟨f1, f2, f3, f4, f5, f6, f7, f8, f9, f10⟩ := am_yok_inv hy
  rw [if_neg (by rw [hst]; decide)] at f3
  unfold am_Ms at hct
  rw [hrn] at hct f1
  refine am_go (va_runI (As := as.map (am_cv G)) (rest := st.map (am_cv G)) (cc := cc) (nL := ls.length) (Ts := []) ⟨hx, hb, hml, ho, fun w hw => absurd hw List.not_mem_nil⟩ hct ⟨⟨rfl, rfl, hf, hlo, am_ws1 rfl (fun a => hK.w f1 rfl a), List.mem_singleton.mpr rfl, hK.w f1 rfl args, hK.w f2 rfl args, f5, fun sig hs => by rw [hs] at f7; exact (Option.some.inj f7).symm, hlink⟩, hnm, hK.w f3 rfl args⟩ ⟨am_blind G (.ref x :: as) h, am_pre hK hE hI (.ref x :: as)⟩ rfl (by rw [List.length_map, hn]) hL.1 (by simp [am_cv]) (lv_room (by rw [am_sum_cv]; exact hsum)) hd (by omega)) (fun vv st₀ t L h0 hq hL2 => ?_)
  obtain ⟨rfl, hI2⟩ := am_after hI hE hmo h0 hq hL2
  rw [am_vst]
  exact K _ _ _ _ cl hI2 hL
theorem am_o_callIN (hx : p.tables.exec = Jvm.exec) (hb : c.code = cc) (hml : c.maxLocals = ls.length) (hK : am_K G s) (hE : am_E G s) {own : String} (ho : s.vm.findClass own = some m.cls) {i x : Nat} {N : am_M} {Y : am_Y} (hy : am_yok N Y = true) (hst : Y.2.2.2.2.1 = false) (hnm : Y.1.name = "<init>") (hrn : Y.2.2.1 = none) (hlink : (Jvm.Cond.methodLinkNest own i Y.1 "CriersOffice").before args s = true) {as : List Value} {v : Option Value} (hn : as.length = Y.2.2.2.1) (hct : am_Ms l G N Y (.ref x :: as) h v h') (hmo : h.length ≤ h'.length ∧ am_sz h ≤ am_sz h') (hsum : am_sum st ≤ 8) (hf : N.2.2.2.2.1 + 1 ≤ R.frames) (hlo : 8 + (N.2.2.2.1 + 11) + N.2.2.2.2.2.1 ≤ R.locals) (hrm : h'.length ≤ R.cells + k0 ∧ am_sz h' ≤ R.slots + z0) (hd : decode cc pc = .ok (.invokespecial i, 3)) (K : am_Kn p l e R s m args below meth c Q G k0 z0 (pc + 3) ls (v.toList ++ st) h') : am_Kn p l e R s m args below meth c Q G k0 z0 pc ls (as.reverse ++ .ref x :: st) h := by
  intro H locs cells slots cl hI hL
  have hcl := hI.2.2.1
  have hsl := hI.2.2.2.1
  obtain ⟨f1, f2, f3, f4, f5, f6, f7, f8, f9, f10⟩ := am_yok_inv hy
  rw [if_neg (by rw [hst]; decide)] at f3
  unfold am_Ms at hct
  rw [hrn] at hct f1
  refine am_go (va_runIN (As := as.map (am_cv G)) (rest := st.map (am_cv G)) (cc := cc) (nL := ls.length) (Ts := []) (host := "CriersOffice") ⟨hx, hb, hml, ho, fun w hw => absurd hw List.not_mem_nil⟩ hct ⟨⟨⟨rfl, rfl, hf, hlo, am_ws1 rfl (fun a => hK.w f1 rfl a), List.mem_singleton.mpr rfl⟩, hK.w f1 rfl args, hK.w f2 rfl args, f5, fun sig hs => by rw [hs] at f7; exact (Option.some.inj f7).symm, hlink⟩, hnm, hK.w f3 rfl args⟩ ⟨am_blind G (.ref x :: as) h, am_pre hK hE hI (.ref x :: as)⟩ rfl (by rw [List.length_map, hn]) hL.1 (by simp [am_cv]) (lv_room (by rw [am_sum_cv]; exact hsum)) hd (by omega)) (fun vv st₀ t L h0 hq hL2 => ?_)
  obtain ⟨rfl, hI2⟩ := am_after hI hE hmo h0 hq hL2
  rw [am_vst]
  exact K _ _ _ _ cl hI2 hL
end AMR
end
section
/-! what a step was, out of what it gave -/
def am_acd (k : Jvm.ClassFile.ACond) (x y : Nat) : Bool := match k with
  | .eq => decide (x = y)
  | .ne => decide (¬ x = y)
theorem am_jp_i {pc : Nat} {off : Int} {ls : am_L} {st : List Value} {h : am_H} {o : am_O} (e : am_jp pc off ls st h = some o) : ∃ t, am_tg pc off = some t ∧ o = .inl ((t, ls, st), h) := by
  unfold am_jp at e
  repeat' split at e
  all_goals first
    | (exfalso; cases e; done)
    | (unfold am_nx at e; cases e; exact ⟨_, (by assumption), rfl⟩)
theorem am_br_i {c : Bool} {pc : Nat} {off : Int} {ls : am_L} {st : List Value} {h : am_H} {o : am_O} (e : am_br c pc off ls st h = some o) : ∃ t, am_tg pc off = some t ∧ ((c = true ∧ o = .inl ((t, ls, st), h)) ∨ (¬ c = true ∧ o = .inl ((pc + 3, ls, st), h))) := by
  unfold am_br at e
  split at e
  · rename_i t ht
    split at e
    · rename_i hc
      unfold am_nx at e
      cases e
      exact ⟨t, ht, Or.inl ⟨hc, rfl⟩⟩
    · rename_i hc
      unfold am_nx at e
      cases e
      exact ⟨t, ht, Or.inr ⟨hc, rfl⟩⟩
  · cases e
theorem am_ldI_i {pc i : Nat} {ls : am_L} {st : List Value} {h : am_H} {o : am_O} (e : am_ldI pc i ls st h = some o) : ∃ x, ls[i]? = some (some (.int x)) ∧ o = .inl ((pc, ls, .int x :: st), h) := by
  unfold am_ldI at e
  repeat' split at e
  all_goals first
    | (exfalso; cases e; done)
    | (unfold am_nx at e; cases e; exact ⟨_, (by assumption), rfl⟩)
theorem am_stI_i {pc i : Nat} {ls : am_L} {st : List Value} {h : am_H} {o : am_O} (e : am_stI pc i ls st h = some o) : ∃ x r ls', st = .int x :: r ∧ am_st1 ls i (.int x) = some ls' ∧ o = .inl ((pc, ls', r), h) := by
  unfold am_stI at e
  repeat' split at e
  all_goals first
    | (exfalso; cases e; done)
    | (unfold am_nx at e; cases e; exact ⟨_, _, _, rfl, (by assumption), rfl⟩)
theorem am_ldL_i {pc i : Nat} {ls : am_L} {st : List Value} {h : am_H} {o : am_O} (e : am_ldL pc i ls st h = some o) : ∃ x, ls[i]? = some (some (.long x)) ∧ o = .inl ((pc, ls, .long x :: st), h) := by
  unfold am_ldL at e
  repeat' split at e
  all_goals first
    | (exfalso; cases e; done)
    | (unfold am_nx at e; cases e; exact ⟨_, (by assumption), rfl⟩)
theorem am_stL_i {pc i : Nat} {ls : am_L} {st : List Value} {h : am_H} {o : am_O} (e : am_stL pc i ls st h = some o) : ∃ x r ls', st = .long x :: r ∧ am_st2 ls i (.long x) = some ls' ∧ o = .inl ((pc, ls', r), h) := by
  unfold am_stL at e
  repeat' split at e
  all_goals first
    | (exfalso; cases e; done)
    | (unfold am_nx at e; cases e; exact ⟨_, _, _, rfl, (by assumption), rfl⟩)
theorem am_ldA_i {pc i : Nat} {ls : am_L} {st : List Value} {h : am_H} {o : am_O} (e : am_ldA pc i ls st h = some o) : ∃ x, ls[i]? = some (some (.ref x)) ∧ o = .inl ((pc, ls, .ref x :: st), h) := by
  unfold am_ldA at e
  repeat' split at e
  all_goals first
    | (exfalso; cases e; done)
    | (unfold am_nx at e; cases e; exact ⟨_, (by assumption), rfl⟩)
theorem am_stA_i {pc i : Nat} {ls : am_L} {st : List Value} {h : am_H} {o : am_O} (e : am_stA pc i ls st h = some o) : ∃ x r ls', st = .ref x :: r ∧ am_st1 ls i (.ref x) = some ls' ∧ o = .inl ((pc, ls', r), h) := by
  unfold am_stA at e
  repeat' split at e
  all_goals first
    | (exfalso; cases e; done)
    | (unfold am_nx at e; cases e; exact ⟨_, _, _, rfl, (by assumption), rfl⟩)
theorem am_inc_i {pc i : Nat} {k : Int} {ls : am_L} {st : List Value} {h : am_H} {o : am_O} (e : am_inc pc i k ls st h = some o) : ∃ x ls', ls[i]? = some (some (.int x)) ∧ am_st1 ls i (.int (x + Int32.ofInt k)) = some ls' ∧ o = .inl ((pc, ls', st), h) := by
  unfold am_inc at e
  repeat' split at e
  all_goals first
    | (exfalso; cases e; done)
    | (unfold am_nx at e; cases e; exact ⟨_, _, (by assumption), (by assumption), rfl⟩)
theorem am_b2_i {f : Int32 → Int32 → Int32} {pc : Nat} {ls : am_L} {st : List Value} {h : am_H} {o : am_O} (e : am_b2 f pc ls st h = some o) : ∃ x y r, st = .int y :: .int x :: r ∧ o = .inl ((pc + 1, ls, .int (f x y) :: r), h) := by
  unfold am_b2 at e
  repeat' split at e
  all_goals first
    | (exfalso; cases e; done)
    | (unfold am_nx at e; cases e; exact ⟨_, _, _, rfl, rfl⟩)
theorem am_b2z_i {f : Int32 → Int32 → Int32} {pc : Nat} {ls : am_L} {st : List Value} {h : am_H} {o : am_O} (e : am_b2z f pc ls st h = some o) : ∃ x y r, st = .int y :: .int x :: r ∧ ¬ y = 0 ∧ o = .inl ((pc + 1, ls, .int (f x y) :: r), h) := by
  unfold am_b2z at e
  repeat' split at e
  all_goals first
    | (exfalso; cases e; done)
    | (unfold am_nx at e; cases e; exact ⟨_, _, _, rfl, (by assumption), rfl⟩)
theorem am_u1_i {f : Int32 → Int32} {pc : Nat} {ls : am_L} {st : List Value} {h : am_H} {o : am_O} (e : am_u1 f pc ls st h = some o) : ∃ x r, st = .int x :: r ∧ o = .inl ((pc + 1, ls, .int (f x) :: r), h) := by
  unfold am_u1 at e
  repeat' split at e
  all_goals first
    | (exfalso; cases e; done)
    | (unfold am_nx at e; cases e; exact ⟨_, _, rfl, rfl⟩)
theorem am_l2_i {f : Int64 → Int64 → Int64} {pc : Nat} {ls : am_L} {st : List Value} {h : am_H} {o : am_O} (e : am_l2 f pc ls st h = some o) : ∃ x y r, st = .long y :: .long x :: r ∧ o = .inl ((pc + 1, ls, .long (f x y) :: r), h) := by
  unfold am_l2 at e
  repeat' split at e
  all_goals first
    | (exfalso; cases e; done)
    | (unfold am_nx at e; cases e; exact ⟨_, _, _, rfl, rfl⟩)
theorem am_lcm_i {pc : Nat} {ls : am_L} {st : List Value} {h : am_H} {o : am_O} (e : am_lcm pc ls st h = some o) : ∃ x y r, st = .long y :: .long x :: r ∧ o = .inl ((pc + 1, ls, .int (lg_cmp x y) :: r), h) := by
  unfold am_lcm at e
  repeat' split at e
  all_goals first
    | (exfalso; cases e; done)
    | (unfold am_nx at e; cases e; exact ⟨_, _, _, rfl, rfl⟩)
theorem am_i2l_i {pc : Nat} {ls : am_L} {st : List Value} {h : am_H} {o : am_O} (e : am_i2l pc ls st h = some o) : ∃ x r, st = .int x :: r ∧ o = .inl ((pc + 1, ls, .long x.toInt64 :: r), h) := by
  unfold am_i2l at e
  repeat' split at e
  all_goals first
    | (exfalso; cases e; done)
    | (unfold am_nx at e; cases e; exact ⟨_, _, rfl, rfl⟩)
theorem am_dup_i {pc : Nat} {ls : am_L} {st : List Value} {h : am_H} {o : am_O} (e : am_dup pc ls st h = some o) : ∃ v r, st = v :: r ∧ v.category = 1 ∧ o = .inl ((pc + 1, ls, v :: v :: r), h) := by
  unfold am_dup at e
  repeat' split at e
  all_goals first
    | (exfalso; cases e; done)
    | (unfold am_nx at e; cases e; exact ⟨_, _, rfl, (by assumption), rfl⟩)
theorem am_pop_i {pc : Nat} {ls : am_L} {st : List Value} {h : am_H} {o : am_O} (e : am_pop pc ls st h = some o) : ∃ v r, st = v :: r ∧ v.category = 1 ∧ o = .inl ((pc + 1, ls, r), h) := by
  unfold am_pop at e
  repeat' split at e
  all_goals first
    | (exfalso; cases e; done)
    | (unfold am_nx at e; cases e; exact ⟨_, _, rfl, (by assumption), rfl⟩)
theorem am_dx1_i {pc : Nat} {ls : am_L} {st : List Value} {h : am_H} {o : am_O} (e : am_dx1 pc ls st h = some o) : ∃ v w r, st = v :: w :: r ∧ (v.category = 1 ∧ w.category = 1) ∧ o = .inl ((pc + 1, ls, v :: w :: v :: r), h) := by
  unfold am_dx1 at e
  repeat' split at e
  all_goals first
    | (exfalso; cases e; done)
    | (unfold am_nx at e; cases e; exact ⟨_, _, _, rfl, (by assumption), rfl⟩)
theorem am_du2_i {pc : Nat} {ls : am_L} {st : List Value} {h : am_H} {o : am_O} (e : am_du2 pc ls st h = some o) : ∃ v w r, st = v :: w :: r ∧ (v.category = 1 ∧ w.category = 1) ∧ o = .inl ((pc + 1, ls, v :: w :: v :: w :: r), h) := by
  unfold am_du2 at e
  repeat' split at e
  all_goals first
    | (exfalso; cases e; done)
    | (unfold am_nx at e; cases e; exact ⟨_, _, _, rfl, (by assumption), rfl⟩)
theorem am_if1_i {k : Jvm.ClassFile.Cond} {pc : Nat} {off : Int} {ls : am_L} {st : List Value} {h : am_H} {o : am_O} (e : am_if1 k pc off ls st h = some o) : ∃ x r, st = .int x :: r ∧ am_br (am_cd k x 0) pc off ls r h = some o := by
  unfold am_if1 at e
  split at e
  · exact ⟨_, _, rfl, e⟩
  · cases e
theorem am_if2_i {k : Jvm.ClassFile.Cond} {pc : Nat} {off : Int} {ls : am_L} {st : List Value} {h : am_H} {o : am_O} (e : am_if2 k pc off ls st h = some o) : ∃ x y r, st = .int y :: .int x :: r ∧ am_br (am_cd k x y) pc off ls r h = some o := by
  unfold am_if2 at e
  split at e
  · exact ⟨_, _, _, rfl, e⟩
  · cases e
theorem am_ifa_i {k : Jvm.ClassFile.ACond} {pc : Nat} {off : Int} {ls : am_L} {st : List Value} {h : am_H} {o : am_O} (e : am_ifa k pc off ls st h = some o) : ∃ x y r, st = .ref y :: .ref x :: r ∧ ((x = 2 ∧ y = 2) ∨ ((x = 1 ∨ 3 ≤ x) ∧ (y = 1 ∨ 3 ≤ y))) ∧ am_br (am_acd k x y) pc off ls r h = some o := by
  unfold am_ifa at e
  cases st with
  | nil => cases e
  | cons v t => cases v with
    | ref y => cases t with
      | nil => cases e
      | cons w u => cases w with
        | ref x =>
          dsimp only at e
          by_cases hc : (x = 2 ∧ y = 2) ∨ ((x = 1 ∨ 3 ≤ x) ∧ (y = 1 ∨ 3 ≤ y))
          · rw [if_pos hc] at e
            exact ⟨x, y, u, rfl, hc, by cases k <;> exact e⟩
          · rw [if_neg hc] at e
            cases e
        | _ => cases e
    | _ => cases e
theorem am_tsw_i {d lo hi : Int} {offs : Array Int} {pc : Nat} {ls : am_L} {st : List Value} {h : am_H} {o : am_O} (e : am_tsw d lo hi offs pc ls st h = some o) : ∃ x r, st = .int x :: r ∧ (((x.toInt < lo ∨ hi < x.toInt) ∧ am_jp pc d ls r h = some o) ∨ (¬ (x.toInt < lo ∨ hi < x.toInt) ∧ ∃ off, offs[(x.toInt - lo).toNat]? = some off ∧ am_jp pc off ls r h = some o)) := by
  unfold am_tsw at e
  split at e
  · split at e
    · rename_i hc
      exact ⟨_, _, rfl, Or.inl ⟨hc, e⟩⟩
    · rename_i hc
      split at e
      · rename_i off ho
        exact ⟨_, _, rfl, Or.inr ⟨hc, off, ho, e⟩⟩
      · cases e
  · cases e
theorem am_gf_i {a b pc : Nat} {ls : am_L} {st : List Value} {h : am_H} {o : am_O} (e : am_gf a b pc ls st h = some o) : ∃ x r fs v, st = .ref x :: r ∧ h[x]? = some (.inr (a, fs)) ∧ fs[b]? = some v ∧ o = .inl ((pc + 3, ls, v :: r), h) := by
  unfold am_gf at e
  split at e
  · split at e
    · rename_i hh
      split at e
      · rename_i hc
        subst hc
        split at e
        · rename_i hv
          unfold am_nx at e
          cases e
          exact ⟨_, _, _, _, rfl, hh, hv, rfl⟩
        · cases e
      · cases e
    · cases e
  · cases e
theorem am_pf_i {M : am_M} {a b pc : Nat} {ls : am_L} {st : List Value} {h : am_H} {o : am_O} (e : am_pf M a b pc ls st h = some o) : ∃ v x r fs, st = v :: .ref x :: r ∧ h[x]? = some (.inr (a, fs)) ∧ b < fs.length ∧ am_okf (am_tyf a b) v = true ∧ (am_fin a b = true → M.2.1 = true ∧ M.1 = a) ∧ o = .inl ((pc + 3, ls, r), h.set x (.inr (a, fs.set b v))) := by
  unfold am_pf at e
  split at e
  · split at e
    · rename_i hh
      split at e
      · rename_i hc
        obtain ⟨rfl, h2, h3, h4⟩ := hc
        unfold am_nx at e
        cases e
        exact ⟨_, _, _, _, rfl, hh, h2, h3, h4, rfl⟩
      · cases e
    · cases e
  · cases e
theorem am_ial_i {pc : Nat} {ls : am_L} {st : List Value} {h : am_H} {o : am_O} (e : am_ial pc ls st h = some o) : ∃ i x r t n f, st = .int i :: .ref x :: r ∧ h[x]? = some (.inl (t, n, .inl f)) ∧ (t = 0 ∨ (t = 9 ∧ x = 0)) ∧ am_outb i n = false ∧ o = .inl ((pc + 1, ls, .int (f i.toNatClampNeg) :: r), h) := by
  unfold am_ial at e
  split at e
  · split at e
    · rename_i hh
      split at e
      · rename_i hc
        unfold am_nx at e
        cases e
        exact ⟨_, _, _, _, _, _, rfl, hh, hc.1, hc.2, rfl⟩
      · cases e
    · cases e
  · cases e
theorem am_bal_i {pc : Nat} {ls : am_L} {st : List Value} {h : am_H} {o : am_O} (e : am_bal pc ls st h = some o) : ∃ i x r t n f, st = .int i :: .ref x :: r ∧ h[x]? = some (.inl (t, n, .inl f)) ∧ (t = 1 ∨ t = 2) ∧ am_outb i n = false ∧ o = .inl ((pc + 1, ls, .int (f i.toNatClampNeg) :: r), h) := by
  unfold am_bal at e
  split at e
  · split at e
    · rename_i hh
      split at e
      · rename_i hc
        unfold am_nx at e
        cases e
        exact ⟨_, _, _, _, _, _, rfl, hh, hc.1, hc.2, rfl⟩
      · cases e
    · cases e
  · cases e
theorem am_aal_i {pc : Nat} {ls : am_L} {st : List Value} {h : am_H} {o : am_O} (e : am_aal pc ls st h = some o) : ∃ i x r t n f, st = .int i :: .ref x :: r ∧ h[x]? = some (.inl (t, n, .inr (.inr (.inr (.inr f))))) ∧ (t = 3 ∨ t = 4) ∧ am_outb i n = false ∧ o = .inl ((pc + 1, ls, va_rf (f i.toNatClampNeg) :: r), h) := by
  unfold am_aal at e
  split at e
  · split at e
    · rename_i hh
      split at e
      · rename_i hc
        unfold am_nx at e
        cases e
        exact ⟨_, _, _, _, _, _, rfl, hh, hc.1, hc.2, rfl⟩
      · cases e
    · cases e
  · cases e
theorem am_ias_i {pc : Nat} {ls : am_L} {st : List Value} {h : am_H} {o : am_O} (e : am_ias pc ls st h = some o) : ∃ v i x r t n f, st = .int v :: .int i :: .ref x :: r ∧ h[x]? = some (.inl (t, n, .inl f)) ∧ (t = 0) ∧ am_outb i n = false ∧ o = .inl ((pc + 1, ls, r), h.set x (.inl (t, n, .inl (upd f i.toNatClampNeg v)))) := by
  unfold am_ias at e
  split at e
  · split at e
    · rename_i hh
      split at e
      · rename_i hc
        unfold am_nx at e
        cases e
        exact ⟨_, _, _, _, _, _, _, rfl, hh, hc.1, hc.2, rfl⟩
      · cases e
    · cases e
  · cases e
theorem am_bas_i {pc : Nat} {ls : am_L} {st : List Value} {h : am_H} {o : am_O} (e : am_bas pc ls st h = some o) : ∃ v i x r t n f, st = .int v :: .int i :: .ref x :: r ∧ h[x]? = some (.inl (t, n, .inl f)) ∧ (t = 1 ∨ t = 2) ∧ am_outb i n = false ∧ o = .inl ((pc + 1, ls, r), h.set x (.inl (t, n, .inl (upd f i.toNatClampNeg (am_nrw t v))))) := by
  unfold am_bas at e
  split at e
  · split at e
    · rename_i hh
      split at e
      · rename_i hc
        unfold am_nx at e
        cases e
        exact ⟨_, _, _, _, _, _, _, rfl, hh, hc.1, hc.2, rfl⟩
      · cases e
    · cases e
  · cases e
theorem am_aas_i {pc : Nat} {ls : am_L} {st : List Value} {h : am_H} {o : am_O} (e : am_aas pc ls st h = some o) : ∃ v i x r t n f ci, st = .ref v :: .int i :: .ref x :: r ∧ h[x]? = some (.inl (t, n, .inr (.inr (.inr (.inr f))))) ∧ am_obj h v = some ci ∧ (t = 3 ∨ (t = 4 ∧ ci = 7)) ∧ am_outb i n = false ∧ o = .inl ((pc + 1, ls, r), h.set x (.inl (t, n, .inr (.inr (.inr (.inr (va_up f i.toNatClampNeg (some v)))))))) := by
  unfold am_aas at e
  split at e
  · split at e
    · rename_i hh
      split at e
      · rename_i hv
        split at e
        · rename_i hc
          unfold am_nx at e
          cases e
          exact ⟨_, _, _, _, _, _, _, _, rfl, hh, hv, hc.1, hc.2, rfl⟩
        · cases e
      · cases e
    · cases e
  · cases e
theorem am_aln_i {pc : Nat} {ls : am_L} {st : List Value} {h : am_H} {o : am_O} (e : am_aln pc ls st h = some o) : ∃ x r t n a, st = .ref x :: r ∧ h[x]? = some (.inl (t, n, a)) ∧ (t < 5 ∨ (t = 9 ∧ x = 0) ∨ (t = 8 ∧ x = 1)) ∧ o = .inl ((pc + 1, ls, .int (Int32.ofNat n) :: r), h) := by
  unfold am_aln at e
  split at e
  · split at e
    · rename_i hh
      split at e
      · rename_i hc
        unfold am_nx at e
        cases e
        exact ⟨_, _, _, _, _, rfl, hh, hc, rfl⟩
      · cases e
    · cases e
  · cases e
theorem am_nwa_i {ty : ArrayType} {pc : Nat} {ls : am_L} {st : List Value} {h : am_H} {o : am_O} (e : am_nwa ty pc ls st h = some o) : ∃ n r t, st = .int n :: r ∧ ¬ n < 0 ∧ n.toNatClampNeg ≤ 100000 ∧ ((ty = .int ∧ t = 0) ∨ (ty = .byte ∧ t = 1) ∨ (ty = .boolean ∧ t = 2)) ∧ o = .inl ((pc + 2, ls, .ref h.length :: r), h ++ [.inl (t, n.toNatClampNeg, .inl (fun _ => 0))]) := by
  unfold am_nwa at e
  split at e
  · split at e
    · rename_i hc
      split at e
      · unfold am_nx at e
        cases e
        exact ⟨_, _, _, rfl, hc.1, hc.2, Or.inl ⟨rfl, rfl⟩, rfl⟩
      · unfold am_nx at e
        cases e
        exact ⟨_, _, _, rfl, hc.1, hc.2, Or.inr (Or.inl ⟨rfl, rfl⟩), rfl⟩
      · unfold am_nx at e
        cases e
        exact ⟨_, _, _, rfl, hc.1, hc.2, Or.inr (Or.inr ⟨rfl, rfl⟩), rfl⟩
      · cases e
    · cases e
  · cases e
theorem am_anw_i {a pc : Nat} {ls : am_L} {st : List Value} {h : am_H} {o : am_O} (e : am_anw a pc ls st h = some o) : ∃ n r, st = .int n :: r ∧ (¬ n < 0 ∧ n.toNatClampNeg ≤ 100000) ∧ o = .inl ((pc + 3, ls, .ref h.length :: r), h ++ [.inl (a, n.toNatClampNeg, .inr (.inr (.inr (.inr (fun _ => none)))))]) := by
  unfold am_anw at e
  repeat' split at e
  all_goals first
    | (exfalso; cases e; done)
    | (unfold am_nx at e; cases e; exact ⟨_, _, rfl, (by assumption), rfl⟩)
theorem am_new_i {a pc : Nat} {ls : am_L} {st : List Value} {h : am_H} {o : am_O} (e : am_new a pc ls st h = some o) : o = .inl ((pc + 3, ls, .ref h.length :: st), h ++ [.inr (a, am_dfl.getD a [])]) := by
  unfold am_new am_nx at e
  cases e
  rfl
theorem am_cst_i {a pc : Nat} {ls : am_L} {st : List Value} {h : am_H} {o : am_O} (e : am_cst a pc ls st h = some o) : ∃ x r fs, st = .ref x :: r ∧ h[x]? = some (.inr (a, fs)) ∧ o = .inl ((pc + 3, ls, .ref x :: r), h) := by
  unfold am_cst at e
  split at e
  · split at e
    · rename_i hh
      split at e
      · rename_i hc
        subst hc
        unfold am_nx at e
        cases e
        exact ⟨_, _, _, rfl, hh, rfl⟩
      · cases e
    · cases e
  · cases e
theorem am_ldc_i {a pc : Nat} {z : Int} {ls : am_L} {st : List Value} {h : am_H} {o : am_O} (e : am_ldc a z pc ls st h = some o) : (a = 1 ∧ o = .inl ((pc, ls, .ref 2 :: st), h)) ∨ (¬ a = 1 ∧ o = .inl ((pc, ls, .int (Int32.ofInt z) :: st), h)) := by
  unfold am_ldc at e
  split at e
  · rename_i hc
    unfold am_nx at e
    cases e
    exact Or.inl ⟨hc, rfl⟩
  · rename_i hc
    unfold am_nx at e
    cases e
    exact Or.inr ⟨hc, rfl⟩
theorem am_cl_i {M : am_M} {mj : Nat} {as rest : List Value} {pc : Nat} {ls : am_L} {o : am_O} (e : am_cl M mj as rest pc ls = some o) : ∃ N, am_mt[mj]? = some N ∧ am_sum rest ≤ 8 ∧ N.2.2.2.2.1 + 1 ≤ M.2.2.2.2.1 ∧ 8 + (N.2.2.2.1 + 11) + N.2.2.2.2.2.1 ≤ M.2.2.2.2.2.1 ∧ (am_ent as).length ≤ N.2.2.2.1 ∧ o = .inr (.inr (mj, as, (pc + 3, ls, rest))) := by
  unfold am_cl at e
  split at e
  · rename_i N hN
    split at e
    · rename_i hc
      cases e
      exact ⟨N, hN, hc.1, hc.2.1, hc.2.2.1, hc.2.2.2, rfl⟩
    · cases e
  · cases e
theorem am_nat_i {M : am_M} {st : List Value} (e : am_nat M st = true) : 1 ≤ M.2.2.2.2.1 ∧ am_sum st + 20 ≤ M.2.2.2.2.2.1 := by
  simp only [am_nat, Bool.and_eq_true, decide_eq_true_eq] at e
  exact e
theorem am_ivv_i {M : am_M} {a b pc : Nat} {ls : am_L} {st : List Value} {h : am_H} {o : am_O} (e : am_ivv M a b pc ls st h = some o) : (a = 1 ∧ ∃ x r n y, st = .ref x :: r ∧ h[x]? = some (.inl (3, n, y)) ∧ am_nat M r = true ∧ o = .inl ((pc + 3, ls, .ref 2 :: r), h)) ∨ (∃ mj x r fs, a = mj + 10 ∧ st.drop b = .ref x :: r ∧ h[x]? = some (.inr (am_own mj, fs)) ∧ b ≤ st.length ∧ am_cl M mj (.ref x :: (st.take b).reverse) r pc ls = some o) := by
  unfold am_ivv at e
  split at e
  · rename_i ha
    refine Or.inl ⟨ha, ?_⟩
    split at e
    · split at e
      · rename_i hh
        split at e
        · rename_i hc
          unfold am_nx at e
          cases e
          exact ⟨_, _, _, _, rfl, hh, hc.1, rfl⟩
        · cases e
      · cases e
    · cases e
  · refine Or.inr ?_
    split at e
    · split at e
      · rename_i hs
        split at e
        · rename_i hh
          split at e
          · rename_i hc
            obtain ⟨rfl, h2⟩ := hc
            exact ⟨_, _, _, _, rfl, hs, hh, h2, e⟩
          · cases e
        · cases e
      · cases e
    · cases e
theorem am_ivi_i {M : am_M} {a b pc : Nat} {ls : am_L} {st : List Value} {h : am_H} {o : am_O} (e : am_ivi M a b pc ls st h = some o) : (a = 0 ∧ ∃ x r, st = .ref x :: r ∧ am_nat M r = true ∧ o = .inl ((pc + 3, ls, r), h)) ∨ (¬ a = 0 ∧ ∃ mj x r, a = mj + 10 ∧ st.drop b = .ref x :: r ∧ b ≤ st.length ∧ am_cl M mj (.ref x :: (st.take b).reverse) r pc ls = some o) := by
  unfold am_ivi at e
  split at e
  · rename_i ha
    refine Or.inl ⟨ha, ?_⟩
    split at e
    · split at e
      · rename_i hc
        unfold am_nx at e
        cases e
        exact ⟨_, _, rfl, hc, rfl⟩
      · cases e
    · cases e
  · rename_i ha
    refine Or.inr ⟨ha, ?_⟩
    split at e
    · split at e
      · rename_i hs
        split at e
        · rename_i hc
          exact ⟨_, _, _, rfl, hs, hc, e⟩
        · cases e
      · cases e
    · cases e
theorem am_ivs_i {M : am_M} {a b pc : Nat} {ls : am_L} {st : List Value} {h : am_H} {o : am_O} (e : am_ivs M a b pc ls st h = some o) : (a = 2 ∧ ∃ n dp y sp x r n0 n1 f g, st = .int n :: .int dp :: .ref y :: .int sp :: .ref x :: r ∧ h[x]? = some (.inl (3, n0, .inr (.inr (.inr (.inr f))))) ∧ h[y]? = some (.inl (3, n1, .inr (.inr (.inr (.inr g))))) ∧ am_nat M r = true ∧ am_cpi sp dp n n0 n1 = true ∧ am_cpr h f sp.toNatClampNeg n.toNatClampNeg = true ∧ o = .inl ((pc + 3, ls, r), h.set y (.inl (3, n1, .inr (.inr (.inr (.inr (va_cpy f g sp.toNatClampNeg dp.toNatClampNeg n.toNatClampNeg))))))))
    ∨ (a = 3 ∧ ∃ n dp y sp x r n0 n1 f g, st = .int n :: .int dp :: .ref y :: .int sp :: .ref x :: r ∧ h[x]? = some (.inl (1, n0, .inl f)) ∧ h[y]? = some (.inl (1, n1, .inl g)) ∧ am_nat M r = true ∧ am_cpi sp dp n n0 n1 = true ∧ am_cpb f sp.toNatClampNeg n.toNatClampNeg = true ∧ o = .inl ((pc + 3, ls, r), h.set y (.inl (1, n1, .inl (va_cpy f g sp.toNatClampNeg dp.toNatClampNeg n.toNatClampNeg)))))
    ∨ (a = 4 ∧ ∃ x r, st = .int x :: r ∧ am_nat M r = true ∧ o = .inl ((pc + 3, ls, .int (if 0 ≤ x then x else 0 - x) :: r), h))
    ∨ (a = 5 ∧ ∃ x y r, st = .int y :: .int x :: r ∧ am_nat M r = true ∧ o = .inl ((pc + 3, ls, .int (if x < y then y else x) :: r), h))
    ∨ (a = 6 ∧ ∃ x y r, st = .int y :: .int x :: r ∧ am_nat M r = true ∧ o = .inl ((pc + 3, ls, .int (if y < x then y else x) :: r), h))
    ∨ (∃ mj, a = mj + 10 ∧ b ≤ st.length ∧ am_cl M mj (st.take b).reverse (st.drop b) pc ls = some o) := by
  unfold am_ivs at e
  split at e
  · rename_i ha
    refine Or.inl ⟨ha, ?_⟩
    split at e
    · split at e
      · rename_i hh
        split at e
        · rename_i hh2
          split at e
          · rename_i hc
            unfold am_nx at e
            cases e
            exact ⟨_, _, _, _, _, _, _, _, _, _, rfl, hh, hh2, hc.1, hc.2.1, hc.2.2, rfl⟩
          · cases e
        · cases e
      · cases e
    · cases e
  refine Or.inr ?_
  split at e
  · rename_i ha
    refine Or.inl ⟨ha, ?_⟩
    split at e
    · split at e
      · rename_i hh
        split at e
        · rename_i hh2
          split at e
          · rename_i hc
            unfold am_nx at e
            cases e
            exact ⟨_, _, _, _, _, _, _, _, _, _, rfl, hh, hh2, hc.1, hc.2.1, hc.2.2, rfl⟩
          · cases e
        · cases e
      · cases e
    · cases e
  refine Or.inr ?_
  split at e
  · rename_i ha
    refine Or.inl ⟨ha, ?_⟩
    split at e
    · split at e
      · rename_i hc
        unfold am_nx at e
        cases e
        exact ⟨_, _, rfl, hc, rfl⟩
      · cases e
    · cases e
  refine Or.inr ?_
  split at e
  · rename_i ha
    refine Or.inl ⟨ha, ?_⟩
    split at e
    · split at e
      · rename_i hc
        unfold am_nx at e
        cases e
        exact ⟨_, _, _, rfl, hc, rfl⟩
      · cases e
    · cases e
  refine Or.inr ?_
  split at e
  · rename_i ha
    refine Or.inl ⟨ha, ?_⟩
    split at e
    · split at e
      · rename_i hc
        unfold am_nx at e
        cases e
        exact ⟨_, _, _, rfl, hc, rfl⟩
      · cases e
    · cases e
  refine Or.inr ?_
  split at e
  · split at e
    · rename_i hc
      exact ⟨_, rfl, hc, e⟩
    · cases e
  · cases e
theorem am_rtI_i {M : am_M} {st : List Value} {o : am_O} (e : am_rtI M st = some o) : ∃ x, st = [.int x] ∧ (M.2.2.1 = 0 ∨ (M.2.2.1 = 1 ∧ (x = 0 ∨ x = 1))) ∧ o = .inr (.inl (some (.int x))) := by
  unfold am_rtI at e
  split at e
  · split at e
    · rename_i hc
      cases e
      exact ⟨_, rfl, hc, rfl⟩
    · cases e
  · cases e
theorem am_rtL_i {M : am_M} {st : List Value} {o : am_O} (e : am_rtL M st = some o) : ∃ x, st = [.long x] ∧ M.2.2.1 = 2 ∧ o = .inr (.inl (some (.long x))) := by
  unfold am_rtL at e
  split at e
  · split at e
    · rename_i hc
      cases e
      exact ⟨_, rfl, hc, rfl⟩
    · cases e
  · cases e
theorem am_rtA_i {M : am_M} {st : List Value} {o : am_O} (e : am_rtA M st = some o) : ∃ x, st = [.ref x] ∧ M.2.2.1 = 3 ∧ o = .inr (.inl (some (.ref x))) := by
  unfold am_rtA at e
  split at e
  · split at e
    · rename_i hc
      cases e
      exact ⟨_, rfl, hc, rfl⟩
    · cases e
  · cases e
theorem am_rtV_i {M : am_M} {st : List Value} {o : am_O} (e : am_rtV M st = some o) : st = [] ∧ M.2.2.1 = 4 ∧ o = .inr (.inl none) := by
  unfold am_rtV at e
  split at e
  · split at e
    · rename_i hc
      cases e
      exact ⟨rfl, hc, rfl⟩
    · cases e
  · cases e
end
section
/-! a step of the small machine is a step of the big one -/
theorem am_dec {cc : ByteArray} {pc : Nat} {i : Instr} (hs : am_sw i = false) (h : am_dok cc pc i = true) : decode cc pc = .ok (i, am_len i) := by
  unfold am_dok at h
  split at h
  · rename_i j n e
    simp only [Bool.and_eq_true, decide_eq_true_eq] at h
    obtain ⟨h1, h2⟩ := h
    subst h1
    rw [hs, Bool.false_or] at h2
    rw [e, eq_of_beq h2]
  · cases h
theorem am_decS {cc : ByteArray} {pc : Nat} {i : Instr} (h : am_dok cc pc i = true) : ∃ n, decode cc pc = .ok (i, n) := by
  unfold am_dok at h
  split at h
  · rename_i j n e
    simp only [Bool.and_eq_true, decide_eq_true_eq] at h
    obtain ⟨h1, h2⟩ := h
    subst h1
    exact ⟨n, e⟩
  · cases h
theorem am_fok_i {own idx a b q : Nat} {z : Int} (h : am_fok own idx a b q z = true) : ∃ r, vwCl[a]? = some r ∧ b < r.2.2 ∧ ((z = 0 ∧ am_w q (.fieldLink (am_cnm own) idx (r.2.1 b).1 (r.2.1 b).2.1 (r.2.1 b).2.2.1) = true) ∨ (z = 1 ∧ am_w q (.fieldLinkNest (am_cnm own) idx (r.2.1 b).1 (r.2.1 b).2.1 (r.2.1 b).2.2.1 "CriersOffice") = true) ∨ ((¬ z = 0 ∧ ¬ z = 1) ∧ am_w q (.fieldLink (am_cnm own) idx RJx4a65c (r.2.1 b).2.1 (r.2.1 b).2.2.1) = true ∧ am_w 98 (.sameField RJx4a65c (r.2.1 b).1 (r.2.1 b).2.1 (r.2.1 b).2.2.1) = true)) := by
  unfold am_fok at h
  split at h
  · rename_i C T N e
    simp only [Bool.and_eq_true, decide_eq_true_eq] at h
    refine ⟨_, e, h.1, ?_⟩
    have h2 := h.2
    split at h2
    · rename_i hz
      exact Or.inl ⟨hz, h2⟩
    · rename_i hz
      split at h2
      · rename_i hz1
        exact Or.inr (Or.inl ⟨hz1, h2⟩)
      · rename_i hz1
        simp only [Bool.and_eq_true] at h2
        exact Or.inr (Or.inr ⟨⟨hz, hz1⟩, h2.1, h2.2⟩)
  · cases h
theorem am_pok_i {own a b : Nat} {z : Int} {r : vw_C} (hr : vwCl[a]? = some r) (h : am_pok own a b z = true) : am_fin a b = (r.2.1 b).2.2.2 ∧ ((r.2.1 b).2.2.2 = true → z = 0 ∧ (r.2.1 b).1 = am_cnm own) := by
  unfold am_pok at h
  unfold am_fin
  rw [hr] at h ⊢
  refine ⟨rfl, fun hf => ?_⟩
  have h2 : (if (r.2.1 b).2.2.2 = true then decide (z = 0 ∧ (r.2.1 b).1 = am_cnm own) else true) = true := h
  rw [if_pos hf] at h2
  exact of_decide_eq_true h2
theorem am_mok_i {own idx a b q : Nat} {z : Int} {st ini : Bool} (h : am_mok own idx a b q z st ini = true) : ∃ Y, am_my[a - 10]? = some Y ∧ 10 ≤ a ∧ ((z = 0 ∧ am_w q (.methodLink (am_cnm own) idx Y.1) = true) ∨ (¬ z = 0 ∧ am_w q (.methodLinkNest (am_cnm own) idx Y.1 "CriersOffice") = true)) ∧ Y.2.2.2.1 = b ∧ Y.2.2.2.2.1 = st ∧ ((Y.1.name = "<init>") = (ini = true)) := by
  unfold am_mok at h
  split at h
  · rename_i Y e
    simp only [Bool.and_eq_true, decide_eq_true_eq] at h
    obtain ⟨⟨⟨⟨h1, h2⟩, h3⟩, h4⟩, h5⟩ := h
    refine ⟨Y, e, h1, ?_, h3, h4, h5⟩
    split at h2
    · rename_i hz
      exact Or.inl ⟨hz, h2⟩
    · rename_i hz
      exact Or.inr ⟨hz, h2⟩
  · cases h
def am_Cx (p : Program) (s : State) (m : MethodId) (args : Array Value) (meth : Method) (c : Code) (R : Room) (G : am_G) (M : am_M) (Y : am_Y) : Prop := p.tables.exec = Jvm.exec ∧ c.code = Y.2.1 ∧ c.maxLocals = M.2.2.2.1 ∧ s.vm.findClass (am_cnm M.1) = some m.cls ∧ am_K G s ∧ am_E G s ∧ (M.2.1 = true → meth.name = "<init>") ∧ M.2.2.2.2.1 ≤ R.frames ∧ M.2.2.2.2.2.1 ≤ R.locals
theorem am_st1_len {ls ls' : am_L} {i : Nat} {v : Value} (h : am_st1 ls i v = some ls') : ls'.length = ls.length := by
  obtain ⟨-, -, rfl⟩ := am_st1_inv h
  exact List.length_set
theorem am_st2_len {ls ls' : am_L} {i : Nat} {v : Value} (h : am_st2 ls i v = some ls') : ls'.length = ls.length := by
  obtain ⟨-, -, rfl⟩ := am_st2_inv h
  rw [List.length_set, List.length_set]
def am_Kp (ls ls' : am_L) (h h' : am_H) : Prop := ls'.length = ls.length ∧ h.length ≤ h'.length ∧ am_sz h ≤ am_sz h'
theorem am_Kp.rf (ls : am_L) (h : am_H) : am_Kp ls ls h h := ⟨rfl, Nat.le_refl _, Nat.le_refl _⟩
theorem am_Kp.st {ls : am_L} {h : am_H} {k : Nat} {x y : am_C} (hk : h[k]? = some x) (hs : am_sl y = am_sl x) : am_Kp ls ls h (h.set k y) := ⟨rfl, by rw [List.length_set]; exact Nat.le_refl _, by rw [am_sz_set hk hs]; exact Nat.le_refl _⟩
theorem am_Kp.ps (ls : am_L) (h : am_H) (y : am_C) : am_Kp ls ls h (h ++ [y]) := ⟨rfl, by simp, by rw [am_sz_push]; omega⟩
theorem am_keep {M : am_M} {r : am_R} {pc : Nat} {ls : am_L} {st : List Value} {h : am_H} {q : am_F × am_H} (e : am_step M r pc ls st h = some (.inl q)) : am_Kp ls q.1.2.1 h q.2 := by
  obtain ⟨i, a, b, w, z⟩ := r
  cases i with
  | iconst k =>
    unfold am_step am_nx at e
    cases e
    exact am_Kp.rf _ _
  | bipush k =>
    unfold am_step am_nx at e
    cases e
    exact am_Kp.rf _ _
  | sipush k =>
    unfold am_step am_nx at e
    cases e
    exact am_Kp.rf _ _
  | lconst k =>
    unfold am_step am_nx at e
    cases e
    exact am_Kp.rf _ _
  | aconst_null =>
    unfold am_step am_nx at e
    cases e
    exact am_Kp.rf _ _
  | iload_n k =>
    obtain ⟨x, hl, e1⟩ := am_ldI_i e
    cases e1
    exact am_Kp.rf _ _
  | iload k =>
    obtain ⟨x, hl, e1⟩ := am_ldI_i e
    cases e1
    exact am_Kp.rf _ _
  | istore_n k =>
    obtain ⟨x, r, ls', rfl, hs, e1⟩ := am_stI_i e
    cases e1
    exact ⟨am_st1_len hs, Nat.le_refl _, Nat.le_refl _⟩
  | istore k =>
    obtain ⟨x, r, ls', rfl, hs, e1⟩ := am_stI_i e
    cases e1
    exact ⟨am_st1_len hs, Nat.le_refl _, Nat.le_refl _⟩
  | lload_n k =>
    obtain ⟨x, hl, e1⟩ := am_ldL_i e
    cases e1
    exact am_Kp.rf _ _
  | lload k =>
    obtain ⟨x, hl, e1⟩ := am_ldL_i e
    cases e1
    exact am_Kp.rf _ _
  | lstore_n k =>
    obtain ⟨x, r, ls', rfl, hs, e1⟩ := am_stL_i e
    cases e1
    exact ⟨am_st2_len hs, Nat.le_refl _, Nat.le_refl _⟩
  | lstore k =>
    obtain ⟨x, r, ls', rfl, hs, e1⟩ := am_stL_i e
    cases e1
    exact ⟨am_st2_len hs, Nat.le_refl _, Nat.le_refl _⟩
  | aload_n k =>
    obtain ⟨x, hl, e1⟩ := am_ldA_i e
    cases e1
    exact am_Kp.rf _ _
  | aload k =>
    obtain ⟨x, hl, e1⟩ := am_ldA_i e
    cases e1
    exact am_Kp.rf _ _
  | astore_n k =>
    obtain ⟨x, r, ls', rfl, hs, e1⟩ := am_stA_i e
    cases e1
    exact ⟨am_st1_len hs, Nat.le_refl _, Nat.le_refl _⟩
  | astore k =>
    obtain ⟨x, r, ls', rfl, hs, e1⟩ := am_stA_i e
    cases e1
    exact ⟨am_st1_len hs, Nat.le_refl _, Nat.le_refl _⟩
  | iinc i k =>
    obtain ⟨x, ls', hl, hs, e1⟩ := am_inc_i e
    cases e1
    exact ⟨am_st1_len hs, Nat.le_refl _, Nat.le_refl _⟩
  | iadd =>
    obtain ⟨x, y, r, rfl, e1⟩ := am_b2_i e
    cases e1
    exact am_Kp.rf _ _
  | isub =>
    obtain ⟨x, y, r, rfl, e1⟩ := am_b2_i e
    cases e1
    exact am_Kp.rf _ _
  | imul =>
    obtain ⟨x, y, r, rfl, e1⟩ := am_b2_i e
    cases e1
    exact am_Kp.rf _ _
  | iand =>
    obtain ⟨x, y, r, rfl, e1⟩ := am_b2_i e
    cases e1
    exact am_Kp.rf _ _
  | ior =>
    obtain ⟨x, y, r, rfl, e1⟩ := am_b2_i e
    cases e1
    exact am_Kp.rf _ _
  | ixor =>
    obtain ⟨x, y, r, rfl, e1⟩ := am_b2_i e
    cases e1
    exact am_Kp.rf _ _
  | ishl =>
    obtain ⟨x, y, r, rfl, e1⟩ := am_b2_i e
    cases e1
    exact am_Kp.rf _ _
  | ishr =>
    obtain ⟨x, y, r, rfl, e1⟩ := am_b2_i e
    cases e1
    exact am_Kp.rf _ _
  | iushr =>
    obtain ⟨x, y, r, rfl, e1⟩ := am_b2_i e
    cases e1
    exact am_Kp.rf _ _
  | idiv =>
    obtain ⟨x, y, r, rfl, hy, e1⟩ := am_b2z_i e
    cases e1
    exact am_Kp.rf _ _
  | irem =>
    obtain ⟨x, y, r, rfl, hy, e1⟩ := am_b2z_i e
    cases e1
    exact am_Kp.rf _ _
  | ineg =>
    obtain ⟨x, r, rfl, e1⟩ := am_u1_i e
    cases e1
    exact am_Kp.rf _ _
  | i2b =>
    obtain ⟨x, r, rfl, e1⟩ := am_u1_i e
    cases e1
    exact am_Kp.rf _ _
  | ladd =>
    obtain ⟨x, y, r, rfl, e1⟩ := am_l2_i e
    cases e1
    exact am_Kp.rf _ _
  | lmul =>
    obtain ⟨x, y, r, rfl, e1⟩ := am_l2_i e
    cases e1
    exact am_Kp.rf _ _
  | lcmp =>
    obtain ⟨x, y, r, rfl, e1⟩ := am_lcm_i e
    cases e1
    exact am_Kp.rf _ _
  | i2l =>
    obtain ⟨x, r, rfl, e1⟩ := am_i2l_i e
    cases e1
    exact am_Kp.rf _ _
  | dup =>
    obtain ⟨v, r, rfl, hv, e1⟩ := am_dup_i e
    cases e1
    exact am_Kp.rf _ _
  | pop =>
    obtain ⟨v, r, rfl, hv, e1⟩ := am_pop_i e
    cases e1
    exact am_Kp.rf _ _
  | dup_x1 =>
    obtain ⟨v, w, r, rfl, hv, e1⟩ := am_dx1_i e
    cases e1
    exact am_Kp.rf _ _
  | dup2 =>
    obtain ⟨v, w, r, rfl, hv, e1⟩ := am_du2_i e
    cases e1
    exact am_Kp.rf _ _
  | goto off =>
    obtain ⟨t, ht, e1⟩ := am_jp_i e
    cases e1
    exact am_Kp.rf _ _
  | getfield i =>
    obtain ⟨x, r, fs, v, rfl, hh, hv, e1⟩ := am_gf_i e
    cases e1
    exact am_Kp.rf _ _
  | putfield i =>
    obtain ⟨v, x, r, fs, rfl, hh, hbl, hv, hfn, e1⟩ := am_pf_i e
    cases e1
    exact am_Kp.st hh (by simp [am_sl])
  | getstatic i =>
    unfold am_step am_nx at e
    cases e
    exact am_Kp.rf _ _
  | iaload =>
    obtain ⟨i, x, r, t, n, f, rfl, hh, ht, hi, e1⟩ := am_ial_i e
    cases e1
    exact am_Kp.rf _ _
  | baload =>
    obtain ⟨i, x, r, t, n, f, rfl, hh, ht, hi, e1⟩ := am_bal_i e
    cases e1
    exact am_Kp.rf _ _
  | aaload =>
    obtain ⟨i, x, r, t, n, f, rfl, hh, ht, hi, e1⟩ := am_aal_i e
    cases e1
    exact am_Kp.rf _ _
  | iastore =>
    obtain ⟨v, i, x, r, t, n, f, rfl, hh, ht, hi, e1⟩ := am_ias_i e
    cases e1
    exact am_Kp.st hh rfl
  | bastore =>
    obtain ⟨v, i, x, r, t, n, f, rfl, hh, ht, hi, e1⟩ := am_bas_i e
    cases e1
    exact am_Kp.st hh rfl
  | aastore =>
    obtain ⟨v, i, x, r, t, n, f, ci, rfl, hh, hv, ht, hi, e1⟩ := am_aas_i e
    cases e1
    exact am_Kp.st hh rfl
  | arraylength =>
    obtain ⟨x, r, t, n, y, rfl, hh, ht, e1⟩ := am_aln_i e
    cases e1
    exact am_Kp.rf _ _
  | newarray ty =>
    obtain ⟨n, r, t, rfl, hn, hn2, ht, e1⟩ := am_nwa_i e
    cases e1
    exact am_Kp.ps _ _ _
  | anewarray i =>
    obtain ⟨n, r, rfl, hn, e1⟩ := am_anw_i e
    cases e1
    exact am_Kp.ps _ _ _
  | new i =>
    have e1 := am_new_i e
    cases e1
    exact am_Kp.ps _ _ _
  | checkcast i =>
    obtain ⟨x, r, fs, rfl, hh, e1⟩ := am_cst_i e
    cases e1
    exact am_Kp.rf _ _
  | ldc i =>
    rcases am_ldc_i e with ⟨ha, e⟩ | ⟨ha, e⟩ <;> cases e <;> exact am_Kp.rf _ _
  | ldc_w i =>
    have e2 : (if a = 0 then am_nx (pc + 3) ls (.int (Int32.ofInt z) :: st) h else none) = some (.inl q) := e
    split at e2
    · unfold am_nx at e2; cases e2; exact am_Kp.rf _ _
    · cases e2
  | ldc2_w i =>
    unfold am_step am_nx at e; cases e; exact am_Kp.rf _ _
  | ifCond k off =>
    obtain ⟨x, r, rfl, e1⟩ := am_if1_i e
    obtain ⟨t, ht, ⟨hc, e2⟩ | ⟨hc, e2⟩⟩ := am_br_i e1 <;> cases e2 <;> exact am_Kp.rf _ _
  | if_icmp k off =>
    obtain ⟨x, y, r, rfl, e1⟩ := am_if2_i e
    obtain ⟨t, ht, ⟨hc, e2⟩ | ⟨hc, e2⟩⟩ := am_br_i e1 <;> cases e2 <;> exact am_Kp.rf _ _
  | if_acmp k off =>
    obtain ⟨x, y, r, rfl, hxy, e1⟩ := am_ifa_i e
    obtain ⟨t, ht, ⟨hc, e2⟩ | ⟨hc, e2⟩⟩ := am_br_i e1 <;> cases e2 <;> exact am_Kp.rf _ _
  | tableswitch d lo hi offs =>
    obtain ⟨x, r, rfl, ⟨hc, e1⟩ | ⟨hc, off, ho, e1⟩⟩ := am_tsw_i e <;> obtain ⟨t, ht, e2⟩ := am_jp_i e1 <;> cases e2 <;> exact am_Kp.rf _ _
  | invokevirtual i =>
    rcases am_ivv_i e with ⟨ha, x, r, n, y, rfl, hh, hn, e1⟩ | ⟨mj, x, r, fs, ha, hs, hh, hb, e1⟩
    · cases e1; exact am_Kp.rf _ _
    · obtain ⟨N, -, -, -, -, -, e2⟩ := am_cl_i e1; cases e2
  | invokespecial i =>
    rcases am_ivi_i e with ⟨ha, x, r, rfl, hn, e1⟩ | ⟨ha, mj, x, r, ha2, hs, hb, e1⟩
    · cases e1; exact am_Kp.rf _ _
    · obtain ⟨N, -, -, -, -, -, e2⟩ := am_cl_i e1; cases e2
  | invokestatic i =>
    rcases am_ivs_i e with ⟨ha, n, dp, y, sp, x, r, n0, n1, f, g, rfl, hh, hh2, hn, hc, hr, e1⟩ | ⟨ha, n, dp, y, sp, x, r, n0, n1, f, g, rfl, hh, hh2, hn, hc, hr, e1⟩ | ⟨ha, x, r, rfl, hn, e1⟩ | ⟨ha, x, y, r, rfl, hn, e1⟩ | ⟨ha, x, y, r, rfl, hn, e1⟩ | ⟨mj, ha, hb, e1⟩
    · cases e1; exact am_Kp.st hh2 rfl
    · cases e1; exact am_Kp.st hh2 rfl
    · cases e1; exact am_Kp.rf _ _
    · cases e1; exact am_Kp.rf _ _
    · cases e1; exact am_Kp.rf _ _
    · obtain ⟨N, -, -, -, -, -, e2⟩ := am_cl_i e1; cases e2
  | ireturn =>
    obtain ⟨x, -, -, e1⟩ := am_rtI_i e; cases e1
  | lreturn =>
    obtain ⟨x, -, -, e1⟩ := am_rtL_i e; cases e1
  | areturn =>
    obtain ⟨x, -, -, e1⟩ := am_rtA_i e; cases e1
  | return_ =>
    obtain ⟨-, -, e1⟩ := am_rtV_i e; cases e1
  | _ => exact absurd e (by simp [am_step])
theorem am_x9 {G : am_G} {h : am_H} {H : Heap} {x n : Nat} {f : Nat → Int32} (hP : am_P G h H) (hx : x = 0) (hh : h[x]? = some (.inl (9, n, .inl f))) : x = 0 ∧ n = G.2.1.1 ∧ f = G.2.1.2 := by
  subst hx
  have e : (am_ext G)[0]? = some (.inl (9, n, .inl f)) := by rw [← hP.2.1, List.getElem?_take_of_lt (by omega), hh]
  simp [am_ext] at e
  exact ⟨rfl, e.1.symm, e.2.symm⟩
theorem am_n9 {G : am_G} {h : am_H} {H : Heap} {x n : Nat} {y : (Nat → Int32) ⊕ (Nat → Int64) ⊕ (Nat → UInt32) ⊕ (Nat → UInt64) ⊕ (Nat → Option Nat)} (hP : am_P G h H) (hx : x = 0) (hh : h[x]? = some (.inl (9, n, y))) : n = G.2.1.1 := by
  subst hx
  have e : (am_ext G)[0]? = some (.inl (9, n, y)) := by rw [← hP.2.1, List.getElem?_take_of_lt (by omega), hh]
  simp [am_ext] at e
  exact e.1.symm
theorem am_n8 {G : am_G} {h : am_H} {H : Heap} {x n : Nat} {y : (Nat → Int32) ⊕ (Nat → Int64) ⊕ (Nat → UInt32) ⊕ (Nat → UInt64) ⊕ (Nat → Option Nat)} (hP : am_P G h H) (hx : x = 1) (hh : h[x]? = some (.inl (8, n, y))) : n = 0 := by
  subst hx
  have e : (am_ext G)[1]? = some (.inl (8, n, y)) := by rw [← hP.2.1, List.getElem?_take_of_lt (by omega), hh]
  simp [am_ext] at e
  exact e.1.symm
theorem am_rm1 {R : Room} {k0 z0 n : Nat} {h : am_H} {y : am_C} (hrm : (h ++ [y]).length ≤ R.cells + k0 ∧ am_sz (h ++ [y]) ≤ R.slots + z0) (hn : am_sl y = n) : am_Rm R k0 z0 h n := by
  rw [am_sz_push, hn, List.length_append] at hrm
  exact hrm
section AMT
variable {p : Program} {l : Launch} {e : Env} {R : Room} {s : State} {m : MethodId} {args : Array Value} {below : List Frame} {meth : Method} {c : Code} {Q : State → Prop} {G : am_G} {k0 z0 : Nat} {pc : Nat} {ls : am_L} {st : List Value} {h h' : am_H} {M : am_M} {Y : am_Y}
set_option maxHeartbeats 4000000 in
theorem am_ok1 (hC : am_Cx p s m args meth c R G M Y) {r : am_R} (hrow : am_rok M.1 Y.2.1 (pc, r) = true) (hlen : ls.length = M.2.2.2.1) {q : am_F × am_H} (es : am_step M r pc ls st h = some (.inl q)) (hrm : q.2.length ≤ R.cells + k0 ∧ am_sz q.2 ≤ R.slots + z0) (K : am_Kn p l e R s m args below meth c Q G k0 z0 q.1.1 q.1.2.1 q.1.2.2 q.2) : am_Kn p l e R s m args below meth c Q G k0 z0 pc ls st h := by
  obtain ⟨hx, hb, hml, ho, hK, hE, hini, hfr, hlo⟩ := hC
  obtain ⟨i, a, b, w, z⟩ := r
  have hw := hrow
  unfold am_rok at hw
  rw [Bool.and_eq_true] at hw
  cases i with
  | iconst k =>
    unfold am_step am_nx at es
    cases es
    exact am_o_iconst hx hb (am_dec rfl hw.1) K
  | bipush k =>
    unfold am_step am_nx at es
    cases es
    exact am_o_bipush hx hb (am_dec rfl hw.1) K
  | sipush k =>
    unfold am_step am_nx at es
    cases es
    exact am_o_sipush hx hb (am_dec rfl hw.1) K
  | lconst k =>
    unfold am_step am_nx at es
    cases es
    exact am_o_lconst hx hb (am_dec rfl hw.1) K
  | aconst_null =>
    unfold am_step am_nx at es
    cases es
    exact am_o_null hx hb (am_dec rfl hw.1) K
  | iload_n k =>
    obtain ⟨x, hl, e1⟩ := am_ldI_i es
    cases e1
    exact am_o_iload_n hx hb hl (am_dec rfl hw.1) K
  | iload k =>
    obtain ⟨x, hl, e1⟩ := am_ldI_i es
    cases e1
    exact am_o_iload hx hb hl (am_dec rfl hw.1) K
  | istore_n k =>
    obtain ⟨x, r, ls', rfl, hs, e1⟩ := am_stI_i es
    cases e1
    exact am_o_istore_n hx hb hs (am_dec rfl hw.1) K
  | istore k =>
    obtain ⟨x, r, ls', rfl, hs, e1⟩ := am_stI_i es
    cases e1
    exact am_o_istore hx hb hs (am_dec rfl hw.1) K
  | lload_n k =>
    obtain ⟨x, hl, e1⟩ := am_ldL_i es
    cases e1
    exact am_o_lload_n hx hb hl (am_dec rfl hw.1) K
  | lload k =>
    obtain ⟨x, hl, e1⟩ := am_ldL_i es
    cases e1
    exact am_o_lload hx hb hl (am_dec rfl hw.1) K
  | lstore_n k =>
    obtain ⟨x, r, ls', rfl, hs, e1⟩ := am_stL_i es
    cases e1
    exact am_o_lstore_n hx hb hs (am_dec rfl hw.1) K
  | lstore k =>
    obtain ⟨x, r, ls', rfl, hs, e1⟩ := am_stL_i es
    cases e1
    exact am_o_lstore hx hb hs (am_dec rfl hw.1) K
  | aload_n k =>
    obtain ⟨x, hl, e1⟩ := am_ldA_i es
    cases e1
    exact am_o_aload_n hx hb hl (am_dec rfl hw.1) K
  | aload k =>
    obtain ⟨x, hl, e1⟩ := am_ldA_i es
    cases e1
    exact am_o_aload hx hb hl (am_dec rfl hw.1) K
  | astore_n k =>
    obtain ⟨x, r, ls', rfl, hs, e1⟩ := am_stA_i es
    cases e1
    exact am_o_astore_n hx hb hs (am_dec rfl hw.1) K
  | astore k =>
    obtain ⟨x, r, ls', rfl, hs, e1⟩ := am_stA_i es
    cases e1
    exact am_o_astore hx hb hs (am_dec rfl hw.1) K
  | iinc i k =>
    obtain ⟨x, ls', hl, hs, e1⟩ := am_inc_i es
    cases e1
    exact am_o_iinc hx hb hl hs (am_dec rfl hw.1) K
  | iadd =>
    obtain ⟨x, y, r, rfl, e1⟩ := am_b2_i es
    cases e1
    exact am_o_iadd hx hb (am_dec rfl hw.1) K
  | isub =>
    obtain ⟨x, y, r, rfl, e1⟩ := am_b2_i es
    cases e1
    exact am_o_isub hx hb (am_dec rfl hw.1) K
  | imul =>
    obtain ⟨x, y, r, rfl, e1⟩ := am_b2_i es
    cases e1
    exact am_o_imul hx hb (am_dec rfl hw.1) K
  | iand =>
    obtain ⟨x, y, r, rfl, e1⟩ := am_b2_i es
    cases e1
    exact am_o_iand hx hb (am_dec rfl hw.1) K
  | ior =>
    obtain ⟨x, y, r, rfl, e1⟩ := am_b2_i es
    cases e1
    exact am_o_ior hx hb (am_dec rfl hw.1) K
  | ixor =>
    obtain ⟨x, y, r, rfl, e1⟩ := am_b2_i es
    cases e1
    exact am_o_ixor hx hb (am_dec rfl hw.1) K
  | ishl =>
    obtain ⟨x, y, r, rfl, e1⟩ := am_b2_i es
    cases e1
    exact am_o_ishl hx hb (am_dec rfl hw.1) K
  | ishr =>
    obtain ⟨x, y, r, rfl, e1⟩ := am_b2_i es
    cases e1
    exact am_o_ishr hx hb (am_dec rfl hw.1) K
  | iushr =>
    obtain ⟨x, y, r, rfl, e1⟩ := am_b2_i es
    cases e1
    exact am_o_iushr hx hb (am_dec rfl hw.1) K
  | idiv =>
    obtain ⟨x, y, r, rfl, hy, e1⟩ := am_b2z_i es
    cases e1
    exact am_o_idiv hx hb hy (am_dec rfl hw.1) K
  | irem =>
    obtain ⟨x, y, r, rfl, hy, e1⟩ := am_b2z_i es
    cases e1
    exact am_o_irem hx hb hy (am_dec rfl hw.1) K
  | ineg =>
    obtain ⟨x, r, rfl, e1⟩ := am_u1_i es
    cases e1
    exact am_o_ineg hx hb (am_dec rfl hw.1) K
  | i2b =>
    obtain ⟨x, r, rfl, e1⟩ := am_u1_i es
    cases e1
    exact am_o_i2b hx hb (am_dec rfl hw.1) K
  | ladd =>
    obtain ⟨x, y, r, rfl, e1⟩ := am_l2_i es
    cases e1
    exact am_o_ladd hx hb (am_dec rfl hw.1) K
  | lmul =>
    obtain ⟨x, y, r, rfl, e1⟩ := am_l2_i es
    cases e1
    exact am_o_lmul hx hb (am_dec rfl hw.1) K
  | lcmp =>
    obtain ⟨x, y, r, rfl, e1⟩ := am_lcm_i es
    cases e1
    exact am_o_lcmp hx hb (am_dec rfl hw.1) K
  | i2l =>
    obtain ⟨x, r, rfl, e1⟩ := am_i2l_i es
    cases e1
    exact am_o_i2l hx hb (am_dec rfl hw.1) K
  | dup =>
    obtain ⟨v, r, rfl, hv, e1⟩ := am_dup_i es
    cases e1
    exact am_o_dup hx hb hv (am_dec rfl hw.1) K
  | pop =>
    obtain ⟨v, r, rfl, hv, e1⟩ := am_pop_i es
    cases e1
    exact am_o_pop hx hb hv (am_dec rfl hw.1) K
  | dup_x1 =>
    obtain ⟨v, w, r, rfl, hv, e1⟩ := am_dx1_i es
    cases e1
    exact am_o_dup_x1 hx hb hv.1 hv.2 (am_dec rfl hw.1) K
  | dup2 =>
    obtain ⟨v, w, r, rfl, hv, e1⟩ := am_du2_i es
    cases e1
    exact am_o_dup2 hx hb hv.1 hv.2 (am_dec rfl hw.1) K
  | goto off =>
    obtain ⟨t, ht, e1⟩ := am_jp_i es
    cases e1
    exact am_o_goto hx hb ht (am_dec rfl hw.1) K
  | getfield i =>
    obtain ⟨x, r, fs, v, rfl, hh, hv, e1⟩ := am_gf_i es
    cases e1
    have hf : am_fok M.1 i a b w z = true := hw.2
    obtain ⟨rc, hr, hbn, hk⟩ := am_fok_i hf
    rcases hk with ⟨-, hl⟩ | ⟨-, hl⟩ | ⟨-, hl, hsm⟩
    · exact am_o_getf hx hb hK ho hr hbn (hK.w hl rfl args) (fun _ q => q) hh hv (am_dec rfl hw.1) K
    · exact am_o_getfN hx hb hK ho hr hbn (hK.w hl rfl args) (fun _ q => q) hh hv (am_dec rfl hw.1) K
    · exact am_o_getf hx hb hK ho hr hbn (hK.w hl rfl args) (fun x q => u_same (hK.w hsm rfl args) x q) hh hv (am_dec rfl hw.1) K
  | putfield i =>
    obtain ⟨v, x, r, fs, rfl, hh, hbl, hv, hfn, e1⟩ := am_pf_i es
    cases e1
    have hf : (am_fok M.1 i a b w z && am_pok M.1 a b z) = true := hw.2
    rw [Bool.and_eq_true] at hf
    obtain ⟨rc, hr, hbn, hk⟩ := am_fok_i hf.1
    obtain ⟨hp1, hp2⟩ := am_pok_i hr hf.2
    cases hfi : (rc.2.1 b).2.2.2 with
    | true =>
      obtain ⟨hz, hdc⟩ := hp2 hfi
      have hni := hini (hfn (hp1.trans hfi)).1
      rcases hk with ⟨-, hl⟩ | ⟨hz1, -⟩ | ⟨hz1, -⟩
      · exact am_o_putfF hx hb hK ho hr hbn (hK.w hl rfl args) (fun _ q => q) hfi hni hdc hh hbl hv (am_dec rfl hw.1) K
      · omega
      · omega
    | false =>
      rcases hk with ⟨-, hl⟩ | ⟨-, hl⟩ | ⟨-, hl, hsm⟩
      · exact am_o_putf hx hb hK ho hr hbn (hK.w hl rfl args) (fun _ q => q) hfi hh hbl hv (am_dec rfl hw.1) K
      · exact am_o_putfN hx hb hK ho hr hbn (hK.w hl rfl args) (fun _ q => q) hfi hh hbl hv (am_dec rfl hw.1) K
      · exact am_o_putf hx hb hK ho hr hbn (hK.w hl rfl args) (fun x q => u_same (hK.w hsm rfl args) x q) hfi hh hbl hv (am_dec rfl hw.1) K
  | getstatic i =>
    unfold am_step am_nx at es
    cases es
    have hf : am_w w (.fieldLink (am_cnm M.1) i RJx4a65c "DEFAULTCAPACITY_EMPTY_ELEMENTDATA" "[Ljava/lang/Object;") = true := hw.2
    exact am_o_gets hx hb hE ho (hK.w hf rfl args) (am_dec rfl hw.1) K
  | iaload =>
    obtain ⟨i, x, r, t, n, f, rfl, hh, ht, hi, e1⟩ := am_ial_i es
    cases e1
    rcases ht with rfl | ⟨rfl, hx0⟩
    · exact am_o_iald hx hb hK hh hi (am_dec rfl hw.1) K
    · exact am_o_iald9 (t := 9) hx hb hE hh (fun H hP => am_x9 hP hx0 hh) hi (am_dec rfl hw.1) K
  | baload =>
    obtain ⟨i, x, r, t, n, f, rfl, hh, ht, hi, e1⟩ := am_bal_i es
    cases e1
    rcases ht with rfl | rfl
    · exact am_o_bald hx hb hK hh hi (am_dec rfl hw.1) K
    · exact am_o_zald hx hb hK hh hi (am_dec rfl hw.1) K
  | aaload =>
    obtain ⟨i, x, r, t, n, f, rfl, hh, ht, hi, e1⟩ := am_aal_i es
    cases e1
    exact am_o_aald hx hb hK ht hh hi (am_dec rfl hw.1) K
  | iastore =>
    obtain ⟨v, i, x, r, t, n, f, rfl, hh, ht, hi, e1⟩ := am_ias_i es
    cases e1
    subst ht
    exact am_o_iast hx hb hK hh hi (am_dec rfl hw.1) K
  | bastore =>
    obtain ⟨v, i, x, r, t, n, f, rfl, hh, ht, hi, e1⟩ := am_bas_i es
    cases e1
    rcases ht with rfl | rfl
    · exact am_o_bast hx hb hK hh hi (am_dec rfl hw.1) K
    · exact am_o_zast hx hb hK hh hi (am_dec rfl hw.1) K
  | aastore =>
    obtain ⟨v, i, x, r, t, n, f, ci, rfl, hh, hv, ht, hi, e1⟩ := am_aas_i es
    cases e1
    exact am_o_aast hx hb hK ht hh hv hi (am_dec rfl hw.1) K
  | arraylength =>
    obtain ⟨x, r, t, n, y, rfl, hh, ht, e1⟩ := am_aln_i es
    cases e1
    rcases ht with ht | ⟨rfl, hx0⟩ | ⟨rfl, hx0⟩
    · exact am_o_alen hx hb hK ht hh (am_dec rfl hw.1) K
    · intro H locs cells slots cl hI hL
      exact am_o_alen9 hx hb hE hx0 (am_n9 hI.1 hx0 hh) (am_dec rfl hw.1) K H locs cells slots cl hI hL
    · intro H locs cells slots cl hI hL
      exact am_o_alen8 hx hb hE hx0 (am_n8 hI.1 hx0 hh) (am_dec rfl hw.1) K H locs cells slots cl hI hL
  | newarray ty =>
    obtain ⟨n, r, t, rfl, hn, hn2, ht, e1⟩ := am_nwa_i es
    cases e1
    have hq : am_Rm R k0 z0 h n.toNatClampNeg := am_rm1 (y := .inl (t, n.toNatClampNeg, .inl (fun _ => 0))) hrm rfl
    rcases ht with ⟨rfl, rfl⟩ | ⟨rfl, rfl⟩ | ⟨rfl, rfl⟩
    · exact am_o_nwi hx hb hK hE hn hn2 hq (am_dec rfl hw.1) K
    · exact am_o_nwb hx hb hK hE hn hn2 hq (am_dec rfl hw.1) K
    · exact am_o_nwz hx hb hK hE hn hn2 hq (am_dec rfl hw.1) K
  | anewarray i =>
    obtain ⟨n, r, rfl, hn, e1⟩ := am_anw_i es
    cases e1
    have hq : am_Rm R k0 z0 h n.toNatClampNeg := am_rm1 (y := .inl (a, n.toNatClampNeg, .inr (.inr (.inr (.inr (fun _ => none)))))) hrm rfl
    have hf : ((a == 3 && am_w w (.classLink (am_cnm M.1) i "java/lang/Object")) || (a == 4 && am_w w (.classLink (am_cnm M.1) i RX6))) = true := hw.2
    simp only [Bool.or_eq_true, Bool.and_eq_true, beq_iff_eq] at hf
    rcases hf with ⟨rfl, hl⟩ | ⟨rfl, hl⟩
    · exact am_o_anwO hx hb hK hE ho (hK.w hl rfl args) hn.1 hn.2 hq (am_dec rfl hw.1) K
    · exact am_o_anwS hx hb hK hE ho (hK.w hl rfl args) hn.1 hn.2 hq (am_dec rfl hw.1) K
  | new i =>
    have e1 := am_new_i es
    cases e1
    have hf : (match vwCl[a]? with
      | some (C, _, N) => am_w w (.classLink (am_cnm M.1) i C) && am_w b (.instantiable C N) && am_w z.toNat (.initialized C)
      | none => false) = true := hw.2
    cases hr : vwCl[a]? with
    | none => rw [hr] at hf; cases hf
    | some rc =>
      rw [hr] at hf
      simp only [Bool.and_eq_true] at hf
      have hq : am_Rm R k0 z0 h (am_dfl.getD a []).length := am_rm1 (y := .inr (a, am_dfl.getD a [])) hrm rfl
      exact am_o_new hx hb hK hE ho hr (hK.w hf.1.1 rfl args) (hK.w hf.1.2 rfl args) (hK.w hf.2 rfl args) hq (am_dec rfl hw.1) K
  | checkcast i =>
    obtain ⟨x, r, fs, rfl, hh, e1⟩ := am_cst_i es
    cases e1
    have hf : (match vwCl[a]? with
      | some (C, _, _) => am_w w (.classLink (am_cnm M.1) i C)
      | none => false) = true := hw.2
    cases hr : vwCl[a]? with
    | none => rw [hr] at hf; cases hf
    | some rc =>
      rw [hr] at hf
      exact am_o_cast hx hb hK ho hr (hK.w hf rfl args) hh (am_dec rfl hw.1) K
  | ldc i =>
    have hf : (if a = 1 then am_w w (.classLink (am_cnm M.1) i "[Ljava/lang/Object;") else am_w w (.constant (am_cnm M.1) i (Int32.ofInt z))) = true := hw.2
    rcases am_ldc_i es with ⟨ha, e⟩ | ⟨ha, e⟩
    · cases e
      rw [if_pos ha] at hf
      exact am_o_ldcM hx hb hK ho (hK.w hf rfl args) (am_dec rfl hw.1) K
    · cases e
      rw [if_neg ha] at hf
      exact am_o_ldc hx hb ho (hK.w hf rfl args) (am_dec rfl hw.1) K
  | ldc_w i =>
    have e2 : (if a = 0 then am_nx (pc + 3) ls (.int (Int32.ofInt z) :: st) h else none) = some (.inl q) := es
    split at e2
    · unfold am_nx at e2
      cases e2
      have hf : am_w w (.constant (am_cnm M.1) i (Int32.ofInt z)) = true := hw.2
      exact am_o_ldcw hx hb ho (hK.w hf rfl args) (am_dec rfl hw.1) K
    · cases e2
  | ldc2_w i =>
    unfold am_step am_nx at es
    cases es
    have hf : am_w w (.constantLong (am_cnm M.1) i (Int64.ofInt z)) = true := hw.2
    exact am_o_ldc2 hx hb ho (hK.w hf rfl args) (am_dec rfl hw.1) K
  | ifCond k off =>
    obtain ⟨x, r, rfl, e1⟩ := am_if1_i es
    obtain ⟨t, ht, ⟨hc, e2⟩ | ⟨hc, e2⟩⟩ := am_br_i e1
    · cases e2
      exact am_o_if1 hx hb ht (am_dec rfl hw.1) (fun _ => K) (fun q => absurd hc q)
    · cases e2
      exact am_o_if1 hx hb ht (am_dec rfl hw.1) (fun q => absurd q hc) (fun _ => K)
  | if_icmp k off =>
    obtain ⟨x, y, r, rfl, e1⟩ := am_if2_i es
    obtain ⟨t, ht, ⟨hc, e2⟩ | ⟨hc, e2⟩⟩ := am_br_i e1
    · cases e2
      exact am_o_if2 hx hb ht (am_dec rfl hw.1) (fun _ => K) (fun q => absurd hc q)
    · cases e2
      exact am_o_if2 hx hb ht (am_dec rfl hw.1) (fun q => absurd q hc) (fun _ => K)
  | if_acmp k off =>
    obtain ⟨x, y, r, rfl, hxy, e1⟩ := am_ifa_i es
    obtain ⟨t, ht, ⟨hc, e2⟩ | ⟨hc, e2⟩⟩ := am_br_i e1
    · cases e2
      cases k with
      | eq => exact am_o_acmp hx hb hE.1.2.1 hxy ht (am_dec rfl hw.1) (fun _ => K) (fun q => absurd hc q)
      | ne => exact am_o_acmp hx hb hE.1.2.1 hxy ht (am_dec rfl hw.1) (fun _ => K) (fun q => absurd hc q)
    · cases e2
      cases k with
      | eq => exact am_o_acmp hx hb hE.1.2.1 hxy ht (am_dec rfl hw.1) (fun q => absurd q hc) (fun _ => K)
      | ne => exact am_o_acmp hx hb hE.1.2.1 hxy ht (am_dec rfl hw.1) (fun q => absurd q hc) (fun _ => K)
  | tableswitch d lo hi offs =>
    obtain ⟨n, hd⟩ := am_decS hw.1
    obtain ⟨x, r, rfl, ⟨hc, e1⟩ | ⟨hc, off, hof, e1⟩⟩ := am_tsw_i es
    · obtain ⟨t, ht, e2⟩ := am_jp_i e1
      cases e2
      exact am_o_tswO hx hb hc ht hd K
    · obtain ⟨t, ht, e2⟩ := am_jp_i e1
      cases e2
      exact am_o_tswI hx hb hc hof ht hd K
  | invokevirtual i =>
    have hf : (if a = 1 then am_w w (.methodLink (am_cnm M.1) i am_gcN) else am_mok M.1 i a b w z false false) = true := hw.2
    rcases am_ivv_i es with ⟨ha, x, r, n, y, rfl, hh, hn, e1⟩ | ⟨mj, x, r, fs, ha, hs, hh, hb9, e1⟩
    · cases e1
      rw [if_pos ha] at hf
      obtain ⟨n1, n2⟩ := am_nat_i hn
      exact am_o_gcls hx hb hK (hml.trans hlen.symm) ho (hK.w hf rfl args) hh (Nat.le_trans n1 hfr) (Nat.le_trans n2 hlo) (am_dec rfl hw.1) K
    · obtain ⟨N, -, -, -, -, -, e2⟩ := am_cl_i e1
      cases e2
  | invokespecial i =>
    have hf : (if a = 0 then am_w w (.methodLink (am_cnm M.1) i objectInit) else am_mok M.1 i a b w z false true) = true := hw.2
    rcases am_ivi_i es with ⟨ha, x, r, rfl, hn, e1⟩ | ⟨ha, mj, x, r, ha2, hs, hb9, e1⟩
    · cases e1
      rw [if_pos ha] at hf
      obtain ⟨n1, n2⟩ := am_nat_i hn
      exact am_o_oini hx hb hK (hml.trans hlen.symm) ho (hK.w hf rfl args) (Nat.le_trans n1 hfr) (Nat.le_trans n2 hlo) (am_dec rfl hw.1) K
    · obtain ⟨N, -, -, -, -, -, e2⟩ := am_cl_i e1
      cases e2
  | invokestatic i =>
    have hf : (if a = 2 ∨ a = 3 then am_w w (.methodLink (am_cnm M.1) i arraycopyName) else if a = 4 then am_w w (.methodLink (am_cnm M.1) i Lib.Math.abs.name) else if a = 5 then am_w w (.methodLink (am_cnm M.1) i Lib.Math.max.name) else if a = 6 then am_w w (.methodLink (am_cnm M.1) i Lib.Math.min.name) else am_mok M.1 i a b w z true false) = true := hw.2
    rcases am_ivs_i es with ⟨ha, n, dp, y, sp, x, r, n0, n1, f, g, rfl, hh, hh2, hn, hc, hr, e1⟩ | ⟨ha, n, dp, y, sp, x, r, n0, n1, f, g, rfl, hh, hh2, hn, hc, hr, e1⟩ | ⟨ha, x, r, rfl, hn, e1⟩ | ⟨ha, x, y, r, rfl, hn, e1⟩ | ⟨ha, x, y, r, rfl, hn, e1⟩ | ⟨mj, ha, hb9, e1⟩
    · cases e1
      obtain ⟨m1, m2⟩ := am_nat_i hn
      rw [if_pos (Or.inl ha)] at hf
      exact am_o_cpr hx hb hK (hml.trans hlen.symm) ho (hK.w hf rfl args) hh hh2 hc hr (Nat.le_trans m1 hfr) (Nat.le_trans m2 hlo) (am_dec rfl hw.1) K
    · cases e1
      obtain ⟨m1, m2⟩ := am_nat_i hn
      rw [if_pos (Or.inr ha)] at hf
      exact am_o_cpb hx hb hK (hml.trans hlen.symm) ho (hK.w hf rfl args) hh hh2 hc hr (Nat.le_trans m1 hfr) (Nat.le_trans m2 hlo) (am_dec rfl hw.1) K
    · cases e1
      obtain ⟨m1, m2⟩ := am_nat_i hn
      subst ha
      exact am_o_abs hx hb hK (hml.trans hlen.symm) ho (hK.w hf rfl args) (Nat.le_trans m1 hfr) (Nat.le_trans m2 hlo) hrm (am_dec rfl hw.1) K
    · cases e1
      obtain ⟨m1, m2⟩ := am_nat_i hn
      subst ha
      exact am_o_max hx hb hK (hml.trans hlen.symm) ho (hK.w hf rfl args) (Nat.le_trans m1 hfr) (Nat.le_trans m2 hlo) hrm (am_dec rfl hw.1) K
    · cases e1
      obtain ⟨m1, m2⟩ := am_nat_i hn
      subst ha
      exact am_o_min hx hb hK (hml.trans hlen.symm) ho (hK.w hf rfl args) (Nat.le_trans m1 hfr) (Nat.le_trans m2 hlo) hrm (am_dec rfl hw.1) K
    · obtain ⟨N, -, -, -, -, -, e2⟩ := am_cl_i e1
      cases e2
  | ireturn =>
    obtain ⟨x, -, -, e1⟩ := am_rtI_i es; cases e1
  | lreturn =>
    obtain ⟨x, -, -, e1⟩ := am_rtL_i es; cases e1
  | areturn =>
    obtain ⟨x, -, -, e1⟩ := am_rtA_i es; cases e1
  | return_ =>
    obtain ⟨-, -, e1⟩ := am_rtV_i es; cases e1
  | _ => exact absurd es (by simp [am_step])
end AMT
end
section
/-! calls, returns, runs -/
theorem am_fe_mem : ∀ {tab : List (Nat × am_R)} {pc : Nat} {r : am_R}, am_fe tab pc = some r → (pc, r) ∈ tab
  | [], _, _, h => by cases h
  | e :: t, pc, r, h => by
    unfold am_fe at h
    split at h
    · rename_i he
      cases h
      subst he
      exact List.mem_cons_self
    · exact List.mem_cons_of_mem _ (am_fe_mem h)
theorem am_meth {mj : Nat} {N : am_M} {Y : am_Y} (hN : am_mt[mj]? = some N) (hY : am_my[mj]? = some Y) (hj : mj < 195) : am_yok N Y = true ∧ ∀ e ∈ N.2.2.2.2.2.2, am_rok N.1 Y.2.1 e = true := by
  have h := am_chk_all mj hj
  unfold am_chk at h
  rw [hN] at h
  simp only [hY, Bool.and_eq_true] at h
  exact ⟨h.1, List.all_eq_true.mp h.2⟩
theorem am_seg {lo n j : Nat} {e : Nat × am_R} (h : am_chkL lo n = true) (hj : am_t195[j]? = some e) (h1 : lo ≤ j) (h2 : j < lo + n) : am_rok 19 cL_law e = true := by
  refine List.all_eq_true.mp h e (List.mem_of_getElem? (i := j - lo) ?_)
  rw [List.getElem?_take_of_lt (by omega), List.getElem?_drop, show lo + (j - lo) = j by omega]
  exact hj
theorem am_lawlen : am_t195.length = 996 := by decide +kernel
theorem am_lawrow (j : Nat) (e : Nat × am_R) (hj : am_t195[j]? = some e) : am_rok 19 cL_law e = true :=
  have hl : j < 996 := by have := (List.getElem?_eq_some_iff.mp hj).1; rw [am_lawlen] at this; exact this
  if h8 : j < 480 then (if h4 : j < 240 then (if h2 : j < 120 then (if h1 : j < 60 then (am_seg am_kl0 hj (by omega) (by omega)) else (am_seg am_kl1 hj (by omega) (by omega))) else (if h3 : j < 180 then (am_seg am_kl2 hj (by omega) (by omega)) else (am_seg am_kl3 hj (by omega) (by omega)))) else (if h6 : j < 360 then (if h5 : j < 300 then (am_seg am_kl4 hj (by omega) (by omega)) else (am_seg am_kl5 hj (by omega) (by omega))) else (if h7 : j < 420 then (am_seg am_kl6 hj (by omega) (by omega)) else (am_seg am_kl7 hj (by omega) (by omega))))) else (if h12 : j < 720 then (if h10 : j < 600 then (if h9 : j < 540 then (am_seg am_kl8 hj (by omega) (by omega)) else (am_seg am_kl9 hj (by omega) (by omega))) else (if h11 : j < 660 then (am_seg am_kl10 hj (by omega) (by omega)) else (am_seg am_kl11 hj (by omega) (by omega)))) else (if h14 : j < 840 then (if h13 : j < 780 then (am_seg am_kl12 hj (by omega) (by omega)) else (am_seg am_kl13 hj (by omega) (by omega))) else (if h15 : j < 900 then (am_seg am_kl14 hj (by omega) (by omega)) else (if h16 : j < 960 then (am_seg am_kl15 hj (by omega) (by omega)) else (am_seg am_kl16 hj (by omega) (by omega))))))
theorem am_lawrows : ∀ e ∈ am_t195, am_rok 19 cL_law e = true := fun e he => by
  obtain ⟨j, hj⟩ := List.getElem?_of_mem he
  exact am_lawrow j e hj
theorem am_ini4 : ∀ N ∈ am_mt, N.2.1 = true → N.2.2.1 = 4 := by decide +kernel
theorem am_fr8 : ∀ N ∈ am_mt, N.2.2.2.2.1 ≤ 8 ∧ N.1 ≤ 19 := by decide +kernel
theorem am_mtlen : am_mt.length = 196 := by decide +kernel
theorem am_lawM : am_mt[195]? = some (19, false, 1, 4, 8, 200, am_t195) := rfl
theorem am_cee {mj : Nat} {M N : am_M} (hN : am_mt[mj]? = some N) (hM : M ∈ am_mt) (hf : N.2.2.2.2.1 + 1 ≤ M.2.2.2.2.1) : mj < 195 := by
  have h1 := (am_fr8 M hM).1
  have h2 := (List.getElem?_eq_some_iff.mp hN).1
  rw [am_mtlen] at h2
  rcases Nat.lt_or_ge mj 195 with q | q
  · exact q
  · have e : mj = 195 := by omega
    subst e
    have e3 : N = _ := (Option.some.inj (am_lawM.symm.trans hN)).symm
    rw [e3] at hf
    have h9 : 8 + 1 ≤ M.2.2.2.2.1 := hf
    omega
def am_retk (M : am_M) (i : Instr) (v : Option Value) : Prop := (i = .ireturn ∧ ∃ x, v = some (.int x) ∧ (M.2.2.1 = 0 ∨ (M.2.2.1 = 1 ∧ (x = 0 ∨ x = 1)))) ∨ (i = .lreturn ∧ ∃ x, v = some (.long x) ∧ M.2.2.1 = 2) ∨ (i = .areturn ∧ ∃ x, v = some (.ref x) ∧ M.2.2.1 = 3) ∨ (i = .return_ ∧ v = none ∧ M.2.2.1 = 4)
theorem am_okr {M : am_M} {r : am_R} {pc : Nat} {ls : am_L} {st : List Value} {h : am_H} {v : Option Value} (e : am_step M r pc ls st h = some (.inr (.inl v))) : am_retk M r.1 v ∧ st = v.toList := by
  obtain ⟨i, a, b, w, z⟩ := r
  cases i with
  | iconst k =>
    unfold am_step am_nx at e
    cases e
  | bipush k =>
    unfold am_step am_nx at e
    cases e
  | sipush k =>
    unfold am_step am_nx at e
    cases e
  | lconst k =>
    unfold am_step am_nx at e
    cases e
  | aconst_null =>
    unfold am_step am_nx at e
    cases e
  | iload_n k =>
    obtain ⟨x, hl, e1⟩ := am_ldI_i e
    cases e1
  | iload k =>
    obtain ⟨x, hl, e1⟩ := am_ldI_i e
    cases e1
  | istore_n k =>
    obtain ⟨x, r, ls', rfl, hs, e1⟩ := am_stI_i e
    cases e1
  | istore k =>
    obtain ⟨x, r, ls', rfl, hs, e1⟩ := am_stI_i e
    cases e1
  | lload_n k =>
    obtain ⟨x, hl, e1⟩ := am_ldL_i e
    cases e1
  | lload k =>
    obtain ⟨x, hl, e1⟩ := am_ldL_i e
    cases e1
  | lstore_n k =>
    obtain ⟨x, r, ls', rfl, hs, e1⟩ := am_stL_i e
    cases e1
  | lstore k =>
    obtain ⟨x, r, ls', rfl, hs, e1⟩ := am_stL_i e
    cases e1
  | aload_n k =>
    obtain ⟨x, hl, e1⟩ := am_ldA_i e
    cases e1
  | aload k =>
    obtain ⟨x, hl, e1⟩ := am_ldA_i e
    cases e1
  | astore_n k =>
    obtain ⟨x, r, ls', rfl, hs, e1⟩ := am_stA_i e
    cases e1
  | astore k =>
    obtain ⟨x, r, ls', rfl, hs, e1⟩ := am_stA_i e
    cases e1
  | iinc i k =>
    obtain ⟨x, ls', hl, hs, e1⟩ := am_inc_i e
    cases e1
  | iadd =>
    obtain ⟨x, y, r, rfl, e1⟩ := am_b2_i e
    cases e1
  | isub =>
    obtain ⟨x, y, r, rfl, e1⟩ := am_b2_i e
    cases e1
  | imul =>
    obtain ⟨x, y, r, rfl, e1⟩ := am_b2_i e
    cases e1
  | iand =>
    obtain ⟨x, y, r, rfl, e1⟩ := am_b2_i e
    cases e1
  | ior =>
    obtain ⟨x, y, r, rfl, e1⟩ := am_b2_i e
    cases e1
  | ixor =>
    obtain ⟨x, y, r, rfl, e1⟩ := am_b2_i e
    cases e1
  | ishl =>
    obtain ⟨x, y, r, rfl, e1⟩ := am_b2_i e
    cases e1
  | ishr =>
    obtain ⟨x, y, r, rfl, e1⟩ := am_b2_i e
    cases e1
  | iushr =>
    obtain ⟨x, y, r, rfl, e1⟩ := am_b2_i e
    cases e1
  | idiv =>
    obtain ⟨x, y, r, rfl, hy, e1⟩ := am_b2z_i e
    cases e1
  | irem =>
    obtain ⟨x, y, r, rfl, hy, e1⟩ := am_b2z_i e
    cases e1
  | ineg =>
    obtain ⟨x, r, rfl, e1⟩ := am_u1_i e
    cases e1
  | i2b =>
    obtain ⟨x, r, rfl, e1⟩ := am_u1_i e
    cases e1
  | ladd =>
    obtain ⟨x, y, r, rfl, e1⟩ := am_l2_i e
    cases e1
  | lmul =>
    obtain ⟨x, y, r, rfl, e1⟩ := am_l2_i e
    cases e1
  | lcmp =>
    obtain ⟨x, y, r, rfl, e1⟩ := am_lcm_i e
    cases e1
  | i2l =>
    obtain ⟨x, r, rfl, e1⟩ := am_i2l_i e
    cases e1
  | dup =>
    obtain ⟨v, r, rfl, hv, e1⟩ := am_dup_i e
    cases e1
  | pop =>
    obtain ⟨v, r, rfl, hv, e1⟩ := am_pop_i e
    cases e1
  | dup_x1 =>
    obtain ⟨v, w, r, rfl, hv, e1⟩ := am_dx1_i e
    cases e1
  | dup2 =>
    obtain ⟨v, w, r, rfl, hv, e1⟩ := am_du2_i e
    cases e1
  | goto off =>
    obtain ⟨t, ht, e1⟩ := am_jp_i e
    cases e1
  | getfield i =>
    obtain ⟨x, r, fs, v, rfl, hh, hv, e1⟩ := am_gf_i e
    cases e1
  | putfield i =>
    obtain ⟨v, x, r, fs, rfl, hh, hbl, hv, hfn, e1⟩ := am_pf_i e
    cases e1
  | getstatic i =>
    unfold am_step am_nx at e
    cases e
  | iaload =>
    obtain ⟨i, x, r, t, n, f, rfl, hh, ht, hi, e1⟩ := am_ial_i e
    cases e1
  | baload =>
    obtain ⟨i, x, r, t, n, f, rfl, hh, ht, hi, e1⟩ := am_bal_i e
    cases e1
  | aaload =>
    obtain ⟨i, x, r, t, n, f, rfl, hh, ht, hi, e1⟩ := am_aal_i e
    cases e1
  | iastore =>
    obtain ⟨v, i, x, r, t, n, f, rfl, hh, ht, hi, e1⟩ := am_ias_i e
    cases e1
  | bastore =>
    obtain ⟨v, i, x, r, t, n, f, rfl, hh, ht, hi, e1⟩ := am_bas_i e
    cases e1
  | aastore =>
    obtain ⟨v, i, x, r, t, n, f, ci, rfl, hh, hv, ht, hi, e1⟩ := am_aas_i e
    cases e1
  | arraylength =>
    obtain ⟨x, r, t, n, y, rfl, hh, ht, e1⟩ := am_aln_i e
    cases e1
  | newarray ty =>
    obtain ⟨n, r, t, rfl, hn, hn2, ht, e1⟩ := am_nwa_i e
    cases e1
  | anewarray i =>
    obtain ⟨n, r, rfl, hn, e1⟩ := am_anw_i e
    cases e1
  | new i =>
    have e1 := am_new_i e
    cases e1
  | checkcast i =>
    obtain ⟨x, r, fs, rfl, hh, e1⟩ := am_cst_i e
    cases e1
  | ldc i =>
    rcases am_ldc_i e with ⟨ha, e⟩ | ⟨ha, e⟩ <;> cases e
  | ldc_w i =>
    have e2 : (if a = 0 then am_nx (pc + 3) ls (.int (Int32.ofInt z) :: st) h else none) = some (.inr (.inl v)) := e
    split at e2
    · unfold am_nx at e2; cases e2
    · cases e2
  | ldc2_w i =>
    unfold am_step am_nx at e; cases e
  | ifCond k off =>
    obtain ⟨x, r, rfl, e1⟩ := am_if1_i e
    obtain ⟨t, ht, ⟨hc, e2⟩ | ⟨hc, e2⟩⟩ := am_br_i e1 <;> cases e2
  | if_icmp k off =>
    obtain ⟨x, y, r, rfl, e1⟩ := am_if2_i e
    obtain ⟨t, ht, ⟨hc, e2⟩ | ⟨hc, e2⟩⟩ := am_br_i e1 <;> cases e2
  | if_acmp k off =>
    obtain ⟨x, y, r, rfl, hxy, e1⟩ := am_ifa_i e
    obtain ⟨t, ht, ⟨hc, e2⟩ | ⟨hc, e2⟩⟩ := am_br_i e1 <;> cases e2
  | tableswitch d lo hi offs =>
    obtain ⟨x, r, rfl, ⟨hc, e1⟩ | ⟨hc, off, ho, e1⟩⟩ := am_tsw_i e <;> obtain ⟨t, ht, e2⟩ := am_jp_i e1 <;> cases e2
  | invokevirtual i =>
    rcases am_ivv_i e with ⟨ha, x, r, n, y, rfl, hh, hn, e1⟩ | ⟨mj, x, r, fs, ha, hs, hh, hb, e1⟩
    · cases e1
    · obtain ⟨N, -, -, -, -, -, e2⟩ := am_cl_i e1; cases e2
  | invokespecial i =>
    rcases am_ivi_i e with ⟨ha, x, r, rfl, hn, e1⟩ | ⟨ha, mj, x, r, ha2, hs, hb, e1⟩
    · cases e1
    · obtain ⟨N, -, -, -, -, -, e2⟩ := am_cl_i e1; cases e2
  | invokestatic i =>
    rcases am_ivs_i e with ⟨ha, n, dp, y, sp, x, r, n0, n1, f, g, rfl, hh, hh2, hn, hc, hr, e1⟩ | ⟨ha, n, dp, y, sp, x, r, n0, n1, f, g, rfl, hh, hh2, hn, hc, hr, e1⟩ | ⟨ha, x, r, rfl, hn, e1⟩ | ⟨ha, x, y, r, rfl, hn, e1⟩ | ⟨ha, x, y, r, rfl, hn, e1⟩ | ⟨mj, ha, hb, e1⟩
    · cases e1
    · cases e1
    · cases e1
    · cases e1
    · cases e1
    · obtain ⟨N, -, -, -, -, -, e2⟩ := am_cl_i e1; cases e2
  | ireturn =>
    obtain ⟨x, rfl, hc, e1⟩ := am_rtI_i e
    cases e1
    exact ⟨Or.inl ⟨rfl, x, rfl, hc⟩, rfl⟩
  | lreturn =>
    obtain ⟨x, rfl, hc, e1⟩ := am_rtL_i e
    cases e1
    exact ⟨Or.inr (Or.inl ⟨rfl, x, rfl, hc⟩), rfl⟩
  | areturn =>
    obtain ⟨x, rfl, hc, e1⟩ := am_rtA_i e
    cases e1
    exact ⟨Or.inr (Or.inr (Or.inl ⟨rfl, x, rfl, hc⟩)), rfl⟩
  | return_ =>
    obtain ⟨rfl, hc, e1⟩ := am_rtV_i e
    cases e1
    exact ⟨Or.inr (Or.inr (Or.inr ⟨rfl, rfl, hc⟩)), rfl⟩
  | _ => exact absurd e (by simp [am_step])
theorem am_cn12 {k : Nat} {r : vw_C} (h : vwCl[k]? = some r) : r.1 = am_cnm k := by
  have hk := am_cl12 h
  match k, h with
  | 0, h => cases Option.some.inj h; rfl
  | 1, h => cases Option.some.inj h; rfl
  | 2, h => cases Option.some.inj h; rfl
  | 3, h => cases Option.some.inj h; rfl
  | 4, h => cases Option.some.inj h; rfl
  | 5, h => cases Option.some.inj h; rfl
  | 6, h => cases Option.some.inj h; rfl
  | 7, h => cases Option.some.inj h; rfl
  | 8, h => cases Option.some.inj h; rfl
  | 9, h => cases Option.some.inj h; rfl
  | 10, h => cases Option.some.inj h; rfl
  | 11, h => cases Option.some.inj h; rfl
  | k + 12, _ => omega
theorem am_own12 {G : am_G} {h : am_H} {H : Heap} {x k : Nat} {fs : List Value} (hP : am_P G h H) (hh : h[x]? = some (.inr (k, fs))) (hk : k ≤ 19) : ∃ rc, vwCl[k]? = some rc := by
  have h3 := hP.2.1
  have key : x < 3 → (am_ext G)[x]? = some (.inr (k, fs)) := fun hl => by rw [← h3, List.getElem?_take_of_lt hl, hh]
  match x, hh, key with
  | 0, _, key => have e := key (by omega); simp [am_ext] at e
  | 1, _, key => have e := key (by omega); simp [am_ext] at e
  | 2, _, key =>
    have e := key (by omega)
    simp [am_ext] at e
    omega
  | j + 3, hh, _ =>
    obtain ⟨rc, q1, -⟩ := hP.1 j _ (am_ws_get hh)
    exact ⟨rc, q1⟩
section AMU
variable {p : Program} {l : Launch} {e : Env} {R : Room} {s : State} {m : MethodId} {args : Array Value} {below : List Frame} {meth : Method} {c : Code} {Q : State → Prop} {G : am_G} {k0 z0 : Nat} {pc : Nat} {ls : am_L} {st : List Value} {h h' : am_H} {M : am_M} {Y : am_Y}
/-- a call's step: who is called, with what, and how the walk goes on behind it -/
theorem am_okc (hC : am_Cx p s m args meth c R G M Y) {r : am_R} (hrow : am_rok M.1 Y.2.1 (pc, r) = true) (hlen : ls.length = M.2.2.2.1) {q : Nat × List Value × am_F} (es : am_step M r pc ls st h = some (.inr (.inr q))) : ∃ N, am_mt[q.1]? = some N ∧ N.2.2.2.2.1 + 1 ≤ M.2.2.2.2.1 ∧ (am_ent q.2.1).length ≤ N.2.2.2.1 ∧ q.2.2.2.1 = ls ∧ ∃ Yj, am_my[q.1]? = some Yj ∧ ∀ v h', am_yok N Yj = true → am_Ms l G N Yj q.2.1 h v h' → (h.length ≤ h'.length ∧ am_sz h ≤ am_sz h') → (h'.length ≤ R.cells + k0 ∧ am_sz h' ≤ R.slots + z0) → am_Kn p l e R s m args below meth c Q G k0 z0 q.2.2.1 q.2.2.2.1 (v.toList ++ q.2.2.2.2) h' → am_Kn p l e R s m args below meth c Q G k0 z0 pc ls st h := by
  obtain ⟨hx, hb, hml, ho, hK, hE, hini, hfr, hlo⟩ := hC
  obtain ⟨i, a, b, w, z⟩ := r
  have hw := hrow
  unfold am_rok at hw
  rw [Bool.and_eq_true] at hw
  cases i with
  | iconst k =>
    unfold am_step am_nx at es
    cases es
  | bipush k =>
    unfold am_step am_nx at es
    cases es
  | sipush k =>
    unfold am_step am_nx at es
    cases es
  | lconst k =>
    unfold am_step am_nx at es
    cases es
  | aconst_null =>
    unfold am_step am_nx at es
    cases es
  | iload_n k =>
    obtain ⟨x, hl, e1⟩ := am_ldI_i es
    cases e1
  | iload k =>
    obtain ⟨x, hl, e1⟩ := am_ldI_i es
    cases e1
  | istore_n k =>
    obtain ⟨x, r, ls', rfl, hs, e1⟩ := am_stI_i es
    cases e1
  | istore k =>
    obtain ⟨x, r, ls', rfl, hs, e1⟩ := am_stI_i es
    cases e1
  | lload_n k =>
    obtain ⟨x, hl, e1⟩ := am_ldL_i es
    cases e1
  | lload k =>
    obtain ⟨x, hl, e1⟩ := am_ldL_i es
    cases e1
  | lstore_n k =>
    obtain ⟨x, r, ls', rfl, hs, e1⟩ := am_stL_i es
    cases e1
  | lstore k =>
    obtain ⟨x, r, ls', rfl, hs, e1⟩ := am_stL_i es
    cases e1
  | aload_n k =>
    obtain ⟨x, hl, e1⟩ := am_ldA_i es
    cases e1
  | aload k =>
    obtain ⟨x, hl, e1⟩ := am_ldA_i es
    cases e1
  | astore_n k =>
    obtain ⟨x, r, ls', rfl, hs, e1⟩ := am_stA_i es
    cases e1
  | astore k =>
    obtain ⟨x, r, ls', rfl, hs, e1⟩ := am_stA_i es
    cases e1
  | iinc i k =>
    obtain ⟨x, ls', hl, hs, e1⟩ := am_inc_i es
    cases e1
  | iadd =>
    obtain ⟨x, y, r, rfl, e1⟩ := am_b2_i es
    cases e1
  | isub =>
    obtain ⟨x, y, r, rfl, e1⟩ := am_b2_i es
    cases e1
  | imul =>
    obtain ⟨x, y, r, rfl, e1⟩ := am_b2_i es
    cases e1
  | iand =>
    obtain ⟨x, y, r, rfl, e1⟩ := am_b2_i es
    cases e1
  | ior =>
    obtain ⟨x, y, r, rfl, e1⟩ := am_b2_i es
    cases e1
  | ixor =>
    obtain ⟨x, y, r, rfl, e1⟩ := am_b2_i es
    cases e1
  | ishl =>
    obtain ⟨x, y, r, rfl, e1⟩ := am_b2_i es
    cases e1
  | ishr =>
    obtain ⟨x, y, r, rfl, e1⟩ := am_b2_i es
    cases e1
  | iushr =>
    obtain ⟨x, y, r, rfl, e1⟩ := am_b2_i es
    cases e1
  | idiv =>
    obtain ⟨x, y, r, rfl, hy, e1⟩ := am_b2z_i es
    cases e1
  | irem =>
    obtain ⟨x, y, r, rfl, hy, e1⟩ := am_b2z_i es
    cases e1
  | ineg =>
    obtain ⟨x, r, rfl, e1⟩ := am_u1_i es
    cases e1
  | i2b =>
    obtain ⟨x, r, rfl, e1⟩ := am_u1_i es
    cases e1
  | ladd =>
    obtain ⟨x, y, r, rfl, e1⟩ := am_l2_i es
    cases e1
  | lmul =>
    obtain ⟨x, y, r, rfl, e1⟩ := am_l2_i es
    cases e1
  | lcmp =>
    obtain ⟨x, y, r, rfl, e1⟩ := am_lcm_i es
    cases e1
  | i2l =>
    obtain ⟨x, r, rfl, e1⟩ := am_i2l_i es
    cases e1
  | dup =>
    obtain ⟨v, r, rfl, hv, e1⟩ := am_dup_i es
    cases e1
  | pop =>
    obtain ⟨v, r, rfl, hv, e1⟩ := am_pop_i es
    cases e1
  | dup_x1 =>
    obtain ⟨v, w, r, rfl, hv, e1⟩ := am_dx1_i es
    cases e1
  | dup2 =>
    obtain ⟨v, w, r, rfl, hv, e1⟩ := am_du2_i es
    cases e1
  | goto off =>
    obtain ⟨t, ht, e1⟩ := am_jp_i es
    cases e1
  | getfield i =>
    obtain ⟨x, r, fs, v, rfl, hh, hv, e1⟩ := am_gf_i es
    cases e1
  | putfield i =>
    obtain ⟨v, x, r, fs, rfl, hh, hbl, hv, hfn, e1⟩ := am_pf_i es
    cases e1
  | getstatic i =>
    unfold am_step am_nx at es
    cases es
  | iaload =>
    obtain ⟨i, x, r, t, n, f, rfl, hh, ht, hi, e1⟩ := am_ial_i es
    cases e1
  | baload =>
    obtain ⟨i, x, r, t, n, f, rfl, hh, ht, hi, e1⟩ := am_bal_i es
    cases e1
  | aaload =>
    obtain ⟨i, x, r, t, n, f, rfl, hh, ht, hi, e1⟩ := am_aal_i es
    cases e1
  | iastore =>
    obtain ⟨v, i, x, r, t, n, f, rfl, hh, ht, hi, e1⟩ := am_ias_i es
    cases e1
  | bastore =>
    obtain ⟨v, i, x, r, t, n, f, rfl, hh, ht, hi, e1⟩ := am_bas_i es
    cases e1
  | aastore =>
    obtain ⟨v, i, x, r, t, n, f, ci, rfl, hh, hv, ht, hi, e1⟩ := am_aas_i es
    cases e1
  | arraylength =>
    obtain ⟨x, r, t, n, y, rfl, hh, ht, e1⟩ := am_aln_i es
    cases e1
  | newarray ty =>
    obtain ⟨n, r, t, rfl, hn, hn2, ht, e1⟩ := am_nwa_i es
    cases e1
  | anewarray i =>
    obtain ⟨n, r, rfl, hn, e1⟩ := am_anw_i es
    cases e1
  | new i =>
    have e1 := am_new_i es
    cases e1
  | checkcast i =>
    obtain ⟨x, r, fs, rfl, hh, e1⟩ := am_cst_i es
    cases e1
  | ldc i =>
    rcases am_ldc_i es with ⟨ha, e⟩ | ⟨ha, e⟩ <;> cases e
  | ldc_w i =>
    have e2 : (if a = 0 then am_nx (pc + 3) ls (.int (Int32.ofInt z) :: st) h else none) = some (.inr (.inr q)) := es
    split at e2
    · unfold am_nx at e2; cases e2
    · cases e2
  | ldc2_w i =>
    unfold am_step am_nx at es; cases es
  | ifCond k off =>
    obtain ⟨x, r, rfl, e1⟩ := am_if1_i es
    obtain ⟨t, ht, ⟨hc, e2⟩ | ⟨hc, e2⟩⟩ := am_br_i e1 <;> cases e2
  | if_icmp k off =>
    obtain ⟨x, y, r, rfl, e1⟩ := am_if2_i es
    obtain ⟨t, ht, ⟨hc, e2⟩ | ⟨hc, e2⟩⟩ := am_br_i e1 <;> cases e2
  | if_acmp k off =>
    obtain ⟨x, y, r, rfl, hxy, e1⟩ := am_ifa_i es
    obtain ⟨t, ht, ⟨hc, e2⟩ | ⟨hc, e2⟩⟩ := am_br_i e1 <;> cases e2
  | tableswitch d lo hi offs =>
    obtain ⟨x, r, rfl, ⟨hc, e1⟩ | ⟨hc, off, ho, e1⟩⟩ := am_tsw_i es <;> obtain ⟨t, ht, e2⟩ := am_jp_i e1 <;> cases e2
  | invokevirtual i =>
    have hf : (if a = 1 then am_w w (.methodLink (am_cnm M.1) i am_gcN) else am_mok M.1 i a b w z false false) = true := hw.2
    have es2 : am_ivv M a b pc ls st h = some (.inr (.inr q)) := es
    rcases am_ivv_i es2 with ⟨ha, x, r, n, y, rfl, hh, hn, e1⟩ | ⟨mj, x, r, fs, ha, hs, hh, hb9, e1⟩
    · cases e1
    · obtain ⟨N, h1, h2, h3, h4, h5, e2⟩ := am_cl_i e1
      cases e2
      rw [if_neg (by omega)] at hf
      obtain ⟨Yj, y1, y2, y3, y4, y5, y6⟩ := am_mok_i hf
      have e9 : a - 10 = mj := by omega
      rw [e9] at y1
      refine ⟨N, h1, h3, h5, rfl, Yj, y1, fun v h' hy hct hmo hrm KK => ?_⟩
      have hown : am_own mj = N.1 := by unfold am_own; rw [h1]
      rw [hown] at hh
      have hn9 : ((st.take b).reverse).length = Yj.2.2.2.1 := by rw [List.length_reverse, List.length_take, y4]; omega
      have hnm : ¬ Yj.1.name = "<init>" := by rw [y6]; decide
      have f8 : Yj.1.cls = am_cnm N.1 := (am_yok_inv hy).2.2.2.2.2.2.2.1
      intro H locs cells slots cl hI hL
      have hr : ∃ rc, vwCl[N.1]? = some rc := am_own12 hI.1 hh (am_fr8 N (List.mem_of_getElem? h1)).2
      obtain ⟨rc, hr⟩ := hr
      have hrc : rc.1 = Yj.1.cls := (am_cn12 hr).trans f8.symm
      have T9 : am_Kn p l e R s m args below meth c Q G k0 z0 pc ls (((st.take b).reverse).reverse ++ .ref x :: r) h := by
        rcases y3 with ⟨-, hl⟩ | ⟨-, hl⟩
        · exact am_o_callV hx hb (hml.trans hlen.symm) hK hE ho hy hr hrc hh y5 hnm (hK.w hl rfl args) hn9 hct hmo h2 (Nat.le_trans h3 hfr) (Nat.le_trans h4 hlo) hrm (am_dec rfl hw.1) KK
        · exact am_o_callVN hx hb (hml.trans hlen.symm) hK hE ho hy hr hrc hh y5 hnm (hK.w hl rfl args) hn9 hct hmo h2 (Nat.le_trans h3 hfr) (Nat.le_trans h4 hlo) hrm (am_dec rfl hw.1) KK
      rw [List.reverse_reverse, ← hs, List.take_append_drop] at T9
      exact T9 H locs cells slots cl hI hL
  | invokespecial i =>
    have hf : (if a = 0 then am_w w (.methodLink (am_cnm M.1) i objectInit) else am_mok M.1 i a b w z false true) = true := hw.2
    have es2 : am_ivi M a b pc ls st h = some (.inr (.inr q)) := es
    rcases am_ivi_i es2 with ⟨ha, x, r, rfl, hn, e1⟩ | ⟨ha0, mj, x, r, ha, hs, hb9, e1⟩
    · cases e1
    · obtain ⟨N, h1, h2, h3, h4, h5, e2⟩ := am_cl_i e1
      cases e2
      rw [if_neg ha0] at hf
      obtain ⟨Yj, y1, y2, y3, y4, y5, y6⟩ := am_mok_i hf
      have e9 : a - 10 = mj := by omega
      rw [e9] at y1
      refine ⟨N, h1, h3, h5, rfl, Yj, y1, fun v h' hy hct hmo hrm KK => ?_⟩
      have hn9 : ((st.take b).reverse).length = Yj.2.2.2.1 := by rw [List.length_reverse, List.length_take, y4]; omega
      have hnm : Yj.1.name = "<init>" := by rw [y6]
      obtain ⟨-, -, -, -, -, -, -, -, f9, f10⟩ := am_yok_inv hy
      have hi4 : N.2.2.1 = 4 := am_ini4 N (List.mem_of_getElem? h1) (by rw [f9]; exact decide_eq_true hnm)
      rw [hi4] at f10
      have hrn : Yj.2.2.1 = none := of_decide_eq_true f10
      have T9 : am_Kn p l e R s m args below meth c Q G k0 z0 pc ls (((st.take b).reverse).reverse ++ .ref x :: r) h := by
        rcases y3 with ⟨-, hl⟩ | ⟨-, hl⟩
        · exact am_o_callI hx hb (hml.trans hlen.symm) hK hE ho hy y5 hnm hrn (hK.w hl rfl args) hn9 hct hmo h2 (Nat.le_trans h3 hfr) (Nat.le_trans h4 hlo) hrm (am_dec rfl hw.1) KK
        · exact am_o_callIN hx hb (hml.trans hlen.symm) hK hE ho hy y5 hnm hrn (hK.w hl rfl args) hn9 hct hmo h2 (Nat.le_trans h3 hfr) (Nat.le_trans h4 hlo) hrm (am_dec rfl hw.1) KK
      rw [List.reverse_reverse, ← hs, List.take_append_drop] at T9
      exact T9
  | invokestatic i =>
    have hf : (if a = 2 ∨ a = 3 then am_w w (.methodLink (am_cnm M.1) i arraycopyName) else if a = 4 then am_w w (.methodLink (am_cnm M.1) i Lib.Math.abs.name) else if a = 5 then am_w w (.methodLink (am_cnm M.1) i Lib.Math.max.name) else if a = 6 then am_w w (.methodLink (am_cnm M.1) i Lib.Math.min.name) else am_mok M.1 i a b w z true false) = true := hw.2
    have es2 : am_ivs M a b pc ls st h = some (.inr (.inr q)) := es
    rcases am_ivs_i es2 with ⟨ha, n, dp, y, sp, x, r, n0, n1, f, g, rfl, hh, hh2, hn, hc, hr, e1⟩ | ⟨ha, n, dp, y, sp, x, r, n0, n1, f, g, rfl, hh, hh2, hn, hc, hr, e1⟩ | ⟨ha, x, r, rfl, hn, e1⟩ | ⟨ha, x, y, r, rfl, hn, e1⟩ | ⟨ha, x, y, r, rfl, hn, e1⟩ | ⟨mj, ha, hb9, e1⟩
    · cases e1
    · cases e1
    · cases e1
    · cases e1
    · cases e1
    · obtain ⟨N, h1, h2, h3, h4, h5, e2⟩ := am_cl_i e1
      cases e2
      rw [if_neg (by omega), if_neg (by omega), if_neg (by omega), if_neg (by omega)] at hf
      obtain ⟨Yj, y1, y2, y3, y4, y5, y6⟩ := am_mok_i hf
      have e9 : a - 10 = mj := by omega
      rw [e9] at y1
      refine ⟨N, h1, h3, h5, rfl, Yj, y1, fun v h' hy hct hmo hrm KK => ?_⟩
      have hn9 : ((st.take b).reverse).length = Yj.2.2.2.1 := by rw [List.length_reverse, List.length_take, y4]; omega
      have T9 : am_Kn p l e R s m args below meth c Q G k0 z0 pc ls (((st.take b).reverse).reverse ++ st.drop b) h := by
        rcases y3 with ⟨-, hl⟩ | ⟨-, hl⟩
        · exact am_o_callS hx hb (hml.trans hlen.symm) hK hE ho hy y5 (hK.w hl rfl args) hn9 hct hmo h2 (Nat.le_trans h3 hfr) (Nat.le_trans h4 hlo) hrm (am_dec rfl hw.1) KK
        · exact am_o_callSN hx hb (hml.trans hlen.symm) hK hE ho hy y5 (hK.w hl rfl args) hn9 hct hmo h2 (Nat.le_trans h3 hfr) (Nat.le_trans h4 hlo) hrm (am_dec rfl hw.1) KK
      rw [List.reverse_reverse, List.take_append_drop] at T9
      exact T9
  | ireturn => obtain ⟨x, -, -, e1⟩ := am_rtI_i es; cases e1
  | lreturn => obtain ⟨x, -, -, e1⟩ := am_rtL_i es; cases e1
  | areturn => obtain ⟨x, -, -, e1⟩ := am_rtA_i es; cases e1
  | return_ => obtain ⟨-, -, e1⟩ := am_rtV_i es; cases e1
  | _ => exact absurd es (by simp [am_step])
end AMU
theorem am_mono : ∀ (f : Nat) {mi : Nat} {fr : am_F} {h h' : am_H} {v : Option Value}, am_run f mi fr h = some (v, h') → h.length ≤ h'.length ∧ am_sz h ≤ am_sz h'
  | 0, _, _, _, _, _, e => by cases e
  | f + 1, mi, fr, h, h', v, e => by
    unfold am_run at e
    split at e
    · cases e
    · split at e
      · cases e
      · split at e
        · cases e
        · rename_i q hs
          have k := am_keep hs
          have k2 := am_mono f e
          exact ⟨Nat.le_trans k.2.1 k2.1, Nat.le_trans k.2.2 k2.2⟩
        · cases e
          exact ⟨Nat.le_refl _, Nat.le_refl _⟩
        · split at e
          · cases e
          · rename_i w hr
            have k1 := am_mono f (v := w.1) (h' := w.2) hr
            have k2 := am_mono f e
            exact ⟨Nat.le_trans k1.1 k2.1, Nat.le_trans k1.2 k2.2⟩
/-- what is owed where a run returns -/
def am_Rt (p : Program) (l : Launch) (e : Env) (R : Room) (s : State) (m : MethodId) (args : Array Value) (below : List Frame) (meth : Method) (c : Code) (Q : State → Prop) (G : am_G) (k0 z0 : Nat) (M : am_M) (Y : am_Y) (v : Option Value) (h' : am_H) : Prop :=
  ∀ (i : Instr) (pc : Nat) (H : Heap) (locs : List Loc) (cells slots : Nat) (cl : Array Slot), decode Y.2.1 pc = .ok (i, 1) → am_retk M i v → am_I G s h' H locs cells slots k0 z0 → W p l e R s m args below meth c H locs cells slots Q (F0 m pc cl (v.toList.map (am_cv G)))
def am_All (l : Launch) (G : am_G) (F : Nat) : Prop := ∀ (f : Nat), f < F → ∀ (mj : Nat) (as : List Value) (h h' : am_H) (v : Option Value) (N : am_M) (Y : am_Y), am_mt[mj]? = some N → am_my[mj]? = some Y → mj < 195 → (am_ent as).length ≤ N.2.2.2.1 → am_run f mj (am_en mj as) h = some (v, h') → am_Ms l G N Y as h v h'
section AMZ
variable {p : Program} {l : Launch} {e : Env} {R : Room} {s : State} {m : MethodId} {args : Array Value} {below : List Frame} {meth : Method} {c : Code} {Q : State → Prop} {G : am_G} {k0 z0 : Nat} {pc : Nat} {ls : am_L} {st : List Value} {h h' : am_H} {M : am_M} {Y : am_Y}
theorem am_core {F : Nat} (hF : am_All l G F) {mi : Nat} (hM : am_mt[mi]? = some M) (hrows : ∀ q ∈ M.2.2.2.2.2.2, am_rok M.1 Y.2.1 q = true) (hC : am_Cx p s m args meth c R G M Y) {v : Option Value} {h9 : am_H} (hrm : h9.length ≤ R.cells + k0 ∧ am_sz h9 ≤ R.slots + z0) (hret : am_Rt p l e R s m args below meth c Q G k0 z0 M Y v h9) : ∀ (f : Nat), f ≤ F → ∀ {pc : Nat} {ls : am_L} {st : List Value} {h : am_H}, ls.length = M.2.2.2.1 → am_run f mi (pc, ls, st) h = some (v, h9) → am_Kn p l e R s m args below meth c Q G k0 z0 pc ls st h
  | 0, _, _, _, _, _, _, hrun => by cases hrun
  | f + 1, hfF, pc, ls, st, h, hlen, hrun => by
    unfold am_run at hrun
    rw [hM] at hrun
    dsimp only at hrun
    split at hrun
    · cases hrun
    · rename_i r hfe
      have hrow := hrows _ (am_fe_mem hfe)
      split at hrun
      · cases hrun
      · rename_i q hs
        have hs : am_step M r pc ls st h = some (.inl q) := hs
        have k := am_keep hs
        have k2 := am_mono f hrun
        exact am_ok1 hC hrow hlen hs ⟨Nat.le_trans k2.1 hrm.1, Nat.le_trans k2.2 hrm.2⟩ (am_core hF hM hrows hC hrm hret f (by omega) (k.1.trans hlen) hrun)
      · rename_i w hs
        have hs : am_step M r pc ls st h = some (.inr (.inl w)) := hs
        cases hrun
        obtain ⟨h1, h2⟩ := am_okr hs
        subst h2
        have hw := hrow
        unfold am_rok at hw
        rw [Bool.and_eq_true] at hw
        have hd : decode Y.2.1 pc = .ok (r.1, 1) := by
          rcases h1 with ⟨h1, -⟩ | ⟨h1, -⟩ | ⟨h1, -⟩ | ⟨h1, -⟩
          · rw [h1]; exact am_dec rfl (h1 ▸ hw.1)
          · rw [h1]; exact am_dec rfl (h1 ▸ hw.1)
          · rw [h1]; exact am_dec rfl (h1 ▸ hw.1)
          · rw [h1]; exact am_dec rfl (h1 ▸ hw.1)
        exact fun H locs cells slots cl hI hL => hret r.1 pc H locs cells slots cl hd h1 hI
      · rename_i q hs
        have hs : am_step M r pc ls st h = some (.inr (.inr q)) := hs
        split at hrun
        · cases hrun
        · rename_i w hr
          obtain ⟨N, h1, h2, h3, h4, Yj, h5, h6⟩ := am_okc (l := l) (e := e) (below := below) (Q := Q) (k0 := k0) (z0 := z0) hC hrow hlen hs
          have hj := am_cee h1 (List.mem_of_getElem? hM) h2
          have hy := (am_meth h1 h5 hj).1
          have k1 := am_mono f (v := w.1) (h' := w.2) hr
          have k2 := am_mono f hrun
          refine h6 w.1 w.2 hy (hF f (by omega) q.1 q.2.1 h w.2 w.1 N Yj h1 h5 hj h3 hr) k1 ⟨Nat.le_trans k2.1 hrm.1, Nat.le_trans k2.2 hrm.2⟩ ?_
          rw [h4] at hrun ⊢
          exact am_core hF hM hrows hC hrm hret f (by omega) hlen hrun
end AMZ
theorem am_padlen {n : Nat} {l : am_L} (h : l.length ≤ n) : (am_pad n l).length = n := by
  unfold am_pad
  rw [List.length_append, List.length_replicate]
  omega
/-- every run of a method is kept by the big machine -/
theorem am_all (l : Launch) (G : am_G) : ∀ F, am_All l G F
  | 0 => fun f hf => absurd hf (Nat.not_lt_zero f)
  | F + 1 => by
    have IH := am_all l G F
    intro f hf mj as h h' v N Y hN hY hj hent hrun
    obtain ⟨hy, hrows⟩ := am_meth hN hY hj
    obtain ⟨f1, f2, f3, f4, f5, f6, f7, f8, f9, f10⟩ := am_yok_inv hy
    have hmo := am_mono f hrun
    refine Met.ofW (cc := Y.2.1) (maxL := N.2.2.2.1) (ret := Y.2.2.1) f6 rfl ?_
    intro p e s m args below meth c s₁ B hml hP
    obtain ⟨rfl, hK, hE, hPP⟩ := hP
    rw [lg_entry_eq]
    have hC : am_Cx p s m ((as.map (am_cv G)).toArray) meth c (am_rm N h h') G N Y := ⟨B.exec, B.bytes, hml, by rw [← f8]; exact findClass_of_methodNamed B.named, hK, hE, fun hi => by rw [(name_of_methodNamed B.named B.method).1]; rw [f9] at hi; exact of_decide_eq_true hi, Nat.le_refl _, Nat.le_refl _⟩
    have hen : am_en mj as = (0, am_pad N.2.2.2.1 (am_ent as), []) := by unfold am_en; rw [hN]
    rw [hen] at hrun
    have hrm : h'.length ≤ (am_rm N h h').cells + h.length ∧ am_sz h' ≤ (am_rm N h h').slots + am_sz h := by
      show h'.length ≤ (h'.length - h.length) + h.length ∧ am_sz h' ≤ (am_sz h' - am_sz h) + am_sz h
      omega
    have hret : am_Rt p l e (am_rm N h h') s m ((as.map (am_cv G)).toArray) below meth c (MQ below (am_Qc G v h') ((as.map (am_cv G)).toArray) s (h'.length - h.length) (am_sz h' - am_sz h) (am_A G)) G h.length (am_sz h) N Y v h' := by
      intro i pc H locs cells slots cl hd hk hI
      have c1 : cells = h'.length - h.length := by have := hI.2.2.1; omega
      have c2 : slots = am_sz h' - am_sz h := by have := hI.2.2.2.1; omega
      subst c1
      subst c2
      have hq0 : ∀ (o : Outcome), o = .returned (v.map (am_cv G)) → ∀ t : State, t.heap = H → s.WarmedH t.vm → am_Qc G v h' ((as.map (am_cv G)).toArray) s o t := fun o ho t ht _ => ⟨ho, by rw [ht]; exact hI.1, fun q hq => by rw [ht]; exact hI.2.1.2.1 q (Nat.lt_of_lt_of_le hq hE.1.2.2) (Nat.not_le.mpr hq)⟩
      rcases hk with ⟨rfl, x, rfl, hx⟩ | ⟨rfl, x, rfl, hx⟩ | ⟨rfl, x, rfl, hx⟩ | ⟨rfl, rfl, hx⟩
      · rcases hx with hx | ⟨hx, hx2⟩
        · rw [hx] at f10
          exact W.iret B.exec B.bytes (B.returns.trans (of_decide_eq_true f10)) (hq0 _ rfl) hI.2.1.2.2 hd
        · rw [hx] at f10
          exact W.zret (ty := .boolean) B.exec B.bytes (B.returns.trans (of_decide_eq_true f10)) (by rcases hx2 with rfl | rfl <;> decide +kernel) (hq0 _ rfl) hI.2.1.2.2 hd
      · rw [hx] at f10
        exact W.lret B.exec B.bytes (B.returns.trans (of_decide_eq_true f10)) (hq0 _ rfl) hI.2.1.2.2 hd
      · rw [hx] at f10
        cases hY3 : Y.2.2.1 with
        | none => rw [hY3] at f10; cases f10
        | some ty =>
          rw [hY3] at f10
          cases ty with
          | object n => exact W.aret B.exec B.bytes (B.returns.trans hY3) (Or.inl ⟨n, rfl⟩) (Or.inr ⟨_, rfl⟩) (hq0 _ rfl) hI.2.1.2.2 hd
          | array n => exact W.aret B.exec B.bytes (B.returns.trans hY3) (Or.inr ⟨n, rfl⟩) (Or.inr ⟨_, rfl⟩) (hq0 _ rfl) hI.2.1.2.2 hd
          | _ => cases f10
      · rw [hx] at f10
        exact W.vret B.exec B.bytes (B.returns.trans (of_decide_eq_true f10)) (hq0 _ rfl) hI.2.1.2.2 hd
    exact am_core IH hN hrows hC hrm hret f (by omega) (am_padlen hent) hrun s.heap [] 0 0 _ ⟨hPP, va_S.rf, by omega, by omega, hPP.2.2⟩ (am_LV.entry G as hent)
end
section
/-! THE CLAIM OUT OF ONE WALK OF THE LAW'S BODY. Your part is whole_start (and what it stands on); all else here is the same for every law, but numbers. -/
def R_law : String := "CriersOfficeLaw"
def lw_P (b : Addr) (xs : List Int32) (args : Array Value) (s : State) : Prop := args = #[.ref b] ∧ s.IntsAt b xs ∧ xs.length ≤ 3072 ∧ (Jvm.Cond.and given_1 narrow_1).before args s = true
def lw_Q (_ : Array Value) (s : State) (o : Outcome) (t : State) : Prop := o = .returned (some (.int 1)) ∧ Framed s o t [] 600000 7302250
def lw_Z (below : List Frame) (a : Array Value) (s : State) : State → Prop := fun t => ∃ o, t.status = .running ∧ Ended t below o ∧ lw_Q a s o t
/-- the law's own end, with 1 on the stack, nothing written that was there before, its room as the claim has it -/
theorem lw_ret {p : Program} {l : Launch} {e : Env} {s : State} {m : MethodId} {below : List Frame} {meth : Method} {c : Code} {b : Nat} (hx : p.tables.exec = Jvm.exec) (hb : c.code = code) (hr : meth.sig.returnType = ret) (hlocks : meth.locks = false) {pc : Nat} {H : Heap} {ls : Array Slot} (hdg : decode code pc = .ok (.ireturn, 1)) : W p l e room_1 s m #[Value.ref b] below meth c H [] 600000 7302250 (lw_Z below #[Value.ref b] s) (F0 m pc ls [.int 1]) := by
  intro T hT X
  obtain ⟨fs, hret, hrun, hended, hW, hframe⟩ := X.leave (v := some (.int 1)) (hlocks := hlocks) (fun h => by rw [hr] at h; cases h)
  have hmeth' : T.vm.method? m = some meth := X.method'
  refine ⟨T.setFrames fs, ?_, .returned (some (.int 1)), hrun, hended, rfl, ⟨_, rfl⟩, hW, hframe⟩
  jvm_step X.here [X.here.top, hx, hb, hdg, hmeth', hr, ret, narrow_b1]
  (try refine ⟨rfl, ?_⟩); (try refine ⟨rfl, ?_⟩)
  first | (intro acts; rw [hret _ acts rfl rfl rfl]) | rw [hret _ _ rfl rfl rfl]
  exact Steps.refl _
/-- what holds at the law's entry: the machine, the code, the tables' words (any of lw_tbl by 'hts w (by decide +kernel)'), the script of L ints xs at the cell b, what the Statement gives of the start (any of its parts by flat_of_before) -/
def lw_At (p : Program) (s : State) (m : MethodId) (meth : Method) (c : Code) (b L : Nat) (xs : Nat → Int32) : Prop :=
  p.tables.exec = Jvm.exec ∧ c.code = code ∧ meth.sig.returnType = ret ∧ c.maxLocals = 4 ∧ s.vm.findClass R_law = some m.cls ∧ (∀ w ∈ lw_tbl, w.before #[Value.ref b] s = true) ∧ va_X b L xs s s.heap ∧ b < s.heap.size ∧ meth.locks = false ∧ (Jvm.Cond.and given_1 narrow_1).before #[Value.ref b] s = true
theorem am_ins0 : am_w 81 (.instantiable RJx4a65c 3) = true := by decide +kernel
theorem am_ins1 : am_w 126 (.instantiable RX0 3) = true := by decide +kernel
theorem am_ins2 : am_w 613 (.instantiable RX1 2) = true := by decide +kernel
theorem am_ins3 : am_w 664 (.instantiable RX2 6) = true := by decide +kernel
theorem am_ins4 : am_w 353 (.instantiable RX3 4) = true := by decide +kernel
theorem am_ins5 : am_w 508 (.instantiable RX4 9) = true := by decide +kernel
theorem am_ins6 : am_w 144 (.instantiable RX5 4) = true := by decide +kernel
theorem am_ins7 : am_w 108 (.instantiable RX6 2) = true := by decide +kernel
theorem am_ins8 : am_w 220 (.instantiable RX7 3) = true := by decide +kernel
theorem am_ins9 : am_w 726 (.instantiable RX8 5) = true := by decide +kernel
theorem am_ins10 : am_w 73 (.instantiable RX9 14) = true := by decide +kernel
theorem am_ins11 : am_w 833 (.instantiable RX10 47) = true := by decide +kernel
theorem am_wd_ls : am_w 93 (.laysStatic RJx4a65c "DEFAULTCAPACITY_EMPTY_ELEMENTDATA" "[Ljava/lang/Object;") = true := by decide +kernel
theorem am_wd_il : am_w 54 (.initialized RJx4a65c) = true := by decide +kernel
theorem am_wany {s : State} {w : Jvm.Cond} {A0 : Array Value} (hk : am_kw w = true) (h : w.before A0 s = true) (a : Array Value) : w.before a s = true := by
  by_cases hg : goodWord w = true
  · exact word_at (args := A0) (U := s) (State.WarmedH.refl s) (good_of_word hg) h
  · cases w with
    | fieldLinkNest => exact va_tabs rfl rfl h
    | methodLinkNest => exact va_tabs rfl rfl h
    | castable => exact va_tabs rfl rfl h
    | declares => exact va_tabs rfl rfl h
    | arrayOver ty =>
      cases ty with
      | object C => exact va_AO.use (va_AO.of h)
      | _ => exact absurd (by simpa [am_kw] using hk) hg
    | _ => exact absurd (by simpa [am_kw] using hk) hg
theorem am_w1 {s : State} {A0 : Array Value} (hts : ∀ w ∈ lw_tbl, w.before A0 s = true) {q : Nat} {w : Jvm.Cond} (hq : am_w q w = true) : w.before A0 s = true := hts w (List.mem_of_getElem? (of_decide_eq_true hq))
theorem am_arC {s : State} {A0 : Array Value} {ty : FieldType} (h : (Jvm.Cond.arrayClass ty).before A0 s = true) : ∃ cA, ArrOfT s cA ty ∧ s.vm.findClass ("[" ++ ty.toString) = some cA := by
  obtain ⟨c, k, comp, h1, h2, h3⟩ := Cond.arrayClass_spec h
  exact ⟨c, fun n z => ⟨fun k h => (by cases h), k, h2, comp, h3⟩, h1⟩
theorem am_arO {s : State} {A0 : Array Value} {C : String} (h : (Jvm.Cond.arrayOver (.object C)).before A0 s = true) : ∃ cA, ArrOfT s cA (.object C) ∧ va_RA s cA (.object C) := by
  obtain ⟨comp, c, k, h1, h2, h3, h4, h5⟩ := Cond.arrayOver_spec h
  exact ⟨c, fun n z => ⟨fun k h => (by cases h), k, h3, comp, h4⟩, k, comp, h3, h4, h1, h5⟩
theorem am_kn {s : State} {A0 : Array Value} (hts : ∀ w ∈ lw_tbl, w.before A0 s = true) : ∀ k : Nat, ∃ (cC : ClassId) (iS : Nat → Nat), ∀ r, vwCl[k]? = some r → u_Kn s r.1 r.2.1 r.2.2 cC iS := by
  intro k
  have htk : ∀ w ∈ am_Tk, w.before A0 s = true := fun w hw => hts w (List.mem_filter.mp hw).1
  match k with
  | 0 =>
    obtain ⟨cC, iS, h⟩ := u_known (C := RJx4a65c) (T := TJx4a65c) (N := 3) (n := 3) htk am_cf0.1 (am_w1 hts am_ins0)
    exact ⟨cC, iS, fun r hr => (Option.some.inj hr) ▸ h⟩
  | 1 =>
    obtain ⟨cC, iS, h⟩ := u_known (C := RX0) (T := TX0) (N := 3) (n := 3) htk am_cf1.1 (am_w1 hts am_ins1)
    exact ⟨cC, iS, fun r hr => (Option.some.inj hr) ▸ h⟩
  | 2 =>
    obtain ⟨cC, iS, h⟩ := u_known (C := RX1) (T := TX1) (N := 2) (n := 2) htk am_cf2.1 (am_w1 hts am_ins2)
    exact ⟨cC, iS, fun r hr => (Option.some.inj hr) ▸ h⟩
  | 3 =>
    obtain ⟨cC, iS, h⟩ := u_known (C := RX2) (T := TX2) (N := 6) (n := 6) htk am_cf3.1 (am_w1 hts am_ins3)
    exact ⟨cC, iS, fun r hr => (Option.some.inj hr) ▸ h⟩
  | 4 =>
    obtain ⟨cC, iS, h⟩ := u_known (C := RX3) (T := TX3) (N := 4) (n := 4) htk am_cf4.1 (am_w1 hts am_ins4)
    exact ⟨cC, iS, fun r hr => (Option.some.inj hr) ▸ h⟩
  | 5 =>
    obtain ⟨cC, iS, h⟩ := u_known (C := RX4) (T := TX4) (N := 9) (n := 9) htk am_cf5.1 (am_w1 hts am_ins5)
    exact ⟨cC, iS, fun r hr => (Option.some.inj hr) ▸ h⟩
  | 6 =>
    obtain ⟨cC, iS, h⟩ := u_known (C := RX5) (T := TX5) (N := 4) (n := 4) htk am_cf6.1 (am_w1 hts am_ins6)
    exact ⟨cC, iS, fun r hr => (Option.some.inj hr) ▸ h⟩
  | 7 =>
    obtain ⟨cC, iS, h⟩ := u_known (C := RX6) (T := TX6) (N := 2) (n := 2) htk am_cf7.1 (am_w1 hts am_ins7)
    exact ⟨cC, iS, fun r hr => (Option.some.inj hr) ▸ h⟩
  | 8 =>
    obtain ⟨cC, iS, h⟩ := u_known (C := RX7) (T := TX7) (N := 3) (n := 3) htk am_cf8.1 (am_w1 hts am_ins8)
    exact ⟨cC, iS, fun r hr => (Option.some.inj hr) ▸ h⟩
  | 9 =>
    obtain ⟨cC, iS, h⟩ := u_known (C := RX8) (T := TX8) (N := 5) (n := 5) htk am_cf9.1 (am_w1 hts am_ins9)
    exact ⟨cC, iS, fun r hr => (Option.some.inj hr) ▸ h⟩
  | 10 =>
    obtain ⟨cC, iS, h⟩ := u_known (C := RX9) (T := TX9) (N := 14) (n := 14) htk am_cf10.1 (am_w1 hts am_ins10)
    exact ⟨cC, iS, fun r hr => (Option.some.inj hr) ▸ h⟩
  | 11 =>
    obtain ⟨cC, iS, h⟩ := u_known (C := RX10) (T := TX10) (N := 47) (n := 47) htk am_cf11.1 (am_w1 hts am_ins11)
    exact ⟨cC, iS, fun r hr => (Option.some.inj hr) ▸ h⟩
  | k + 12 => exact ⟨0, fun _ => 0, fun r hr => absurd (am_cl12 hr) (by omega)⟩
def am_ex0 (L : Nat) (xs : Nat → Int32) : am_H := [.inl (9, L, .inl xs), .inl (8, 0, .inr (.inr (.inr (.inr (fun _ => none))))), .inr (99, [])]
set_option maxHeartbeats 4000000 in
set_option maxRecDepth 100000 in
/-- the law's walk out of a run of the small machine -/
theorem am_whole {p : Program} {e : Env} {s : State} {m : MethodId} {below : List Frame} {meth : Method} {c : Code} (l : Launch) {b L : Nat} {xs : Nat → Int32} (C0 : lw_At p s m meth c b L xs) {f : Nat} {h9 : am_H} (hrun : am_run f 195 (0, [some (.ref 0), none, none, none], []) (am_ex0 L xs) = some (some (.int 1), h9)) (hc9 : h9.length ≤ 600003) (hs9 : am_sz h9 ≤ L + 7302250) : W p l e room_1 s m #[Value.ref b] below meth c s.heap [] 0 0 (lw_Z below #[Value.ref b] s) (entryFrame m ([Value.ref b] : List Value).toArray 4) := by
  obtain ⟨hx, hb, hr, hml, hown, hts, hX, hbl, hlocks, hgv⟩ := C0
  obtain ⟨dC, hd⟩ := Classical.skolem.mp (am_kn hts)
  obtain ⟨dI, hdI⟩ := Classical.skolem.mp hd
  obtain ⟨c0, a0, b0⟩ := am_arC (am_w1 hts am_wd_ti)
  obtain ⟨c1, a1, b1⟩ := am_arC (am_w1 hts am_wd_tb)
  obtain ⟨c2, a2, b2⟩ := am_arC (am_w1 hts am_wd_tz)
  obtain ⟨c3, a3, b3⟩ := am_arO (am_w1 hts am_wd_to)
  obtain ⟨c4, a4, b4⟩ := am_arO (am_w1 hts am_wd_th)
  have hfl := flat_of_before _ hgv
  obtain ⟨mi0, hmi⟩ := va_Mi.of (hfl (.isRef (.mirror "[Ljava/lang/Object;")) (by decide +kernel))
  have hlen : (Term.length (.static "java/util/ArrayList" "DEFAULTCAPACITY_EMPTY_ELEMENTDATA" "[Ljava/lang/Object;")).eval #[Value.ref b] s none [] s = some (.int 0) := va_eqt (hfl (.eq (.length (.static "java/util/ArrayList" "DEFAULTCAPACITY_EMPTY_ELEMENTDATA" "[Ljava/lang/Object;")) (.int 0)) (by decide +kernel))
  have hA0 : ∀ a : Nat, a < s.heap.size → ¬ (fun q : Nat => s.heap.size ≤ q) a := fun a ha => Nat.not_le.mpr ha
  obtain ⟨e0, he0, hT⟩ := va_Tof (N := 0) (f := fun _ => .null) (A := fun q : Nat => s.heap.size ≤ q) (by decide) (hfl (.arrayOf (.static "java/util/ArrayList" "DEFAULTCAPACITY_EMPTY_ELEMENTDATA" "[Ljava/lang/Object;") (.object "java/lang/Object")) (by decide +kernel)) hlen (fun j hj => absurd hj (Nat.not_lt_zero j)) hA0
  have hZ := va_Zof (am_w1 hts am_wd_ls) (am_w1 hts am_wd_il) he0 hA0
  have hel : e0 < s.heap.size := by
    obtain ⟨cell, q1, -⟩ := hT
    exact (Array.getElem?_eq_some_iff.mp q1).1
  let G : am_G := ((s.heap.size, b, e0, mi0), (L, xs), (dC, dI), fun t => match t with
    | 0 => c0
    | 1 => c1
    | 2 => c2
    | 3 => c3
    | _ => c4)
  have hK : am_K G s := by
    refine ⟨fun w hw hk a => am_wany hk (hts w hw) a, ⟨fun k q hq => hdI k q hq, fun k q hq => ?_⟩, hmi⟩
    match k, hq with
    | 0, hq => cases hq; exact ⟨a0, b0⟩
    | 1, hq => cases hq; exact ⟨a1, b1⟩
    | 2, hq => cases hq; exact ⟨a2, b2⟩
    | 3, hq => cases hq; exact ⟨a3, b3⟩
    | 4, hq => cases hq; exact ⟨a4, b4⟩
    | k + 5, hq => cases hq
  have hE : am_E G s := ⟨⟨hbl, hel, Nat.le_refl _⟩, hX, hZ, hT⟩
  have hP : am_P G (am_ex0 L xs) s.heap := ⟨fun k q hq => (by have e9 : am_ws G (am_ex0 L xs) = [] := rfl; rw [e9] at hq; simp at hq), rfl, rfl⟩
  have hC : am_Cx p s m #[Value.ref b] meth c room_1 G (19, false, 1, 4, 8, 200, am_t195) (yL_law, cL_law, some .boolean, 1, true, 0, 0, 0, 0) := ⟨hx, hb, hml, hown, hK, hE, (fun q => by cases q), (by decide), (by decide)⟩
  have hret : am_Rt p l e room_1 s m #[Value.ref b] below meth c (lw_Z below #[Value.ref b] s) G 3 L (19, false, 1, 4, 8, 200, am_t195) (yL_law, cL_law, some .boolean, 1, true, 0, 0, 0, 0) (some (.int 1)) h9 := by
    intro i pc H locs cells slots cl hd hk hI
    have hi : i = .ireturn := by
      rcases hk with ⟨h1, -⟩ | ⟨-, x, h2, -⟩ | ⟨-, x, h2, -⟩ | ⟨-, h2, -⟩
      · exact h1
      · cases h2
      · cases h2
      · cases h2
    subst hi
    refine va_forget (fun q hq => hI.2.1.2.2 q hq) (W.widen (k := 600000) (n := 7302250) ?_ ?_ (lw_ret hx hb hr hlocks hd))
    · have := hI.2.2.1
      omega
    · have := hI.2.2.2.1
      omega
  have hrm : h9.length ≤ room_1.cells + 3 ∧ am_sz h9 ≤ room_1.slots + L := by
    refine ⟨hc9, ?_⟩
    show am_sz h9 ≤ 7302250 + L
    omega
  have key := am_core (M := (19, false, 1, 4, 8, 200, am_t195)) (Y := (yL_law, cL_law, some .boolean, 1, true, 0, 0, 0, 0)) (e := e) (below := below) (Q := lw_Z below #[Value.ref b] s) (k0 := 3) (z0 := L) (am_all l G f) am_lawM am_lawrows hC hrm hret f (Nat.le_refl f) rfl hrun
  rw [lg_entry_eq]
  exact key s.heap [] 0 0 _ ⟨hP, va_S.rf, rfl, by show 0 + L = am_sz (am_ex0 L xs); simp [am_sz, am_ex0, am_sl], rfl⟩ (am_LV.entry G [.ref 0] (n := 4) (by decide))
end
