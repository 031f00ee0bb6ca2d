-- ===== PART A: goes FIRST, ahead of the names: the tables' words, and 'selects' of the private methods out of them =====
/-- a private method of a class that the tables say can be made, by its rows of tables_1 -/
def lw_okq (q : MethodName × Nat) : Prop := (q.1.cls ≠ "java/lang/invoke/MethodHandle" ∧ q.1.cls ≠ "java/lang/invoke/VarHandle") ∧ Cond.instantiable q.1.cls q.2 ∈ tables_1 ∧ Cond.privateMethod q.1 ∈ tables_1 ∧ Cond.instanceMethod q.1 ∈ tables_1
theorem lw_p0 : lw_okq (⟨"QuayClock$Reader", "begin", "()V"⟩, 12) := ⟨⟨by decide +kernel, by decide +kernel⟩, List.mem_of_getElem? (i := 28) (by decide +kernel), List.mem_of_getElem? (i := 446) (by decide +kernel), List.mem_of_getElem? (i := 447) (by decide +kernel)⟩
theorem lw_p1 : lw_okq (⟨"QuayClock$Reader", "nextToken", "()I"⟩, 12) := ⟨⟨by decide +kernel, by decide +kernel⟩, List.mem_of_getElem? (i := 28) (by decide +kernel), List.mem_of_getElem? (i := 454) (by decide +kernel), List.mem_of_getElem? (i := 455) (by decide +kernel)⟩
theorem lw_p2 : lw_okq (⟨"QuayClock$Reader", "wordToken", "()I"⟩, 12) := ⟨⟨by decide +kernel, by decide +kernel⟩, List.mem_of_getElem? (i := 28) (by decide +kernel), List.mem_of_getElem? (i := 464) (by decide +kernel), List.mem_of_getElem? (i := 465) (by decide +kernel)⟩
theorem lw_p3 : lw_okq (⟨"QuayClock$Reader", "isTokenTheWord", "(I)Z"⟩, 12) := ⟨⟨by decide +kernel, by decide +kernel⟩, List.mem_of_getElem? (i := 28) (by decide +kernel), List.mem_of_getElem? (i := 468) (by decide +kernel), List.mem_of_getElem? (i := 469) (by decide +kernel)⟩
theorem lw_p4 : lw_okq (⟨"QuayClock$Reader", "intToken", "()I"⟩, 12) := ⟨⟨by decide +kernel, by decide +kernel⟩, List.mem_of_getElem? (i := 28) (by decide +kernel), List.mem_of_getElem? (i := 524) (by decide +kernel), List.mem_of_getElem? (i := 525) (by decide +kernel)⟩
theorem lw_p5 : lw_okq (⟨"QuayClock$Reader", "signToken", "(C)I"⟩, 12) := ⟨⟨by decide +kernel, by decide +kernel⟩, List.mem_of_getElem? (i := 28) (by decide +kernel), List.mem_of_getElem? (i := 528) (by decide +kernel), List.mem_of_getElem? (i := 529) (by decide +kernel)⟩
theorem lw_p6 : lw_okq (⟨"QuayClock$Reader", "withEqualSign", "(II)I"⟩, 12) := ⟨⟨by decide +kernel, by decide +kernel⟩, List.mem_of_getElem? (i := 28) (by decide +kernel), List.mem_of_getElem? (i := 532) (by decide +kernel), List.mem_of_getElem? (i := 533) (by decide +kernel)⟩
theorem lw_p7 : lw_okq (⟨"QuayClock$Reader", "faultOf", "(I)I"⟩, 12) := ⟨⟨by decide +kernel, by decide +kernel⟩, List.mem_of_getElem? (i := 28) (by decide +kernel), List.mem_of_getElem? (i := 536) (by decide +kernel), List.mem_of_getElem? (i := 537) (by decide +kernel)⟩
theorem lw_p8 : lw_okq (⟨"QuayClock$Reader", "fits", "(I)Z"⟩, 12) := ⟨⟨by decide +kernel, by decide +kernel⟩, List.mem_of_getElem? (i := 28) (by decide +kernel), List.mem_of_getElem? (i := 540) (by decide +kernel), List.mem_of_getElem? (i := 541) (by decide +kernel)⟩
theorem lw_p9 : lw_okq (⟨"QuayClock$Reader", "hasRoomFor", "(I)Z"⟩, 12) := ⟨⟨by decide +kernel, by decide +kernel⟩, List.mem_of_getElem? (i := 28) (by decide +kernel), List.mem_of_getElem? (i := 550) (by decide +kernel), List.mem_of_getElem? (i := 551) (by decide +kernel)⟩
theorem lw_p10 : lw_okq (⟨"QuayClock$Reader", "take", "(I)V"⟩, 12) := ⟨⟨by decide +kernel, by decide +kernel⟩, List.mem_of_getElem? (i := 28) (by decide +kernel), List.mem_of_getElem? (i := 554) (by decide +kernel), List.mem_of_getElem? (i := 555) (by decide +kernel)⟩
theorem lw_p11 : lw_okq (⟨"QuayClock$Reader", "takeBehindUnit", "(I)V"⟩, 12) := ⟨⟨by decide +kernel, by decide +kernel⟩, List.mem_of_getElem? (i := 28) (by decide +kernel), List.mem_of_getElem? (i := 562) (by decide +kernel), List.mem_of_getElem? (i := 563) (by decide +kernel)⟩
theorem lw_p12 : lw_okq (⟨"QuayClock$Reader", "settle", "(I)V"⟩, 12) := ⟨⟨by decide +kernel, by decide +kernel⟩, List.mem_of_getElem? (i := 28) (by decide +kernel), List.mem_of_getElem? (i := 569) (by decide +kernel), List.mem_of_getElem? (i := 570) (by decide +kernel)⟩
theorem lw_p13 : lw_okq (⟨"QuayClock$Reader", "dropOpen", "()V"⟩, 12) := ⟨⟨by decide +kernel, by decide +kernel⟩, List.mem_of_getElem? (i := 28) (by decide +kernel), List.mem_of_getElem? (i := 577) (by decide +kernel), List.mem_of_getElem? (i := 578) (by decide +kernel)⟩
theorem lw_p14 : lw_okq (⟨"QuayClock$Reader", "takeOperator", "(I)V"⟩, 12) := ⟨⟨by decide +kernel, by decide +kernel⟩, List.mem_of_getElem? (i := 28) (by decide +kernel), List.mem_of_getElem? (i := 589) (by decide +kernel), List.mem_of_getElem? (i := 590) (by decide +kernel)⟩
theorem lw_p15 : lw_okq (⟨"QuayClock$Reader", "pend", "(I)V"⟩, 12) := ⟨⟨by decide +kernel, by decide +kernel⟩, List.mem_of_getElem? (i := 28) (by decide +kernel), List.mem_of_getElem? (i := 593) (by decide +kernel), List.mem_of_getElem? (i := 594) (by decide +kernel)⟩
def lw_privs_1 : List (MethodName × Nat) := [(⟨"QuayClock$Reader", "begin", "()V"⟩, 12), (⟨"QuayClock$Reader", "nextToken", "()I"⟩, 12), (⟨"QuayClock$Reader", "wordToken", "()I"⟩, 12), (⟨"QuayClock$Reader", "isTokenTheWord", "(I)Z"⟩, 12), (⟨"QuayClock$Reader", "intToken", "()I"⟩, 12), (⟨"QuayClock$Reader", "signToken", "(C)I"⟩, 12), (⟨"QuayClock$Reader", "withEqualSign", "(II)I"⟩, 12), (⟨"QuayClock$Reader", "faultOf", "(I)I"⟩, 12), (⟨"QuayClock$Reader", "fits", "(I)Z"⟩, 12), (⟨"QuayClock$Reader", "hasRoomFor", "(I)Z"⟩, 12), (⟨"QuayClock$Reader", "take", "(I)V"⟩, 12), (⟨"QuayClock$Reader", "takeBehindUnit", "(I)V"⟩, 12), (⟨"QuayClock$Reader", "settle", "(I)V"⟩, 12), (⟨"QuayClock$Reader", "dropOpen", "()V"⟩, 12), (⟨"QuayClock$Reader", "takeOperator", "(I)V"⟩, 12), (⟨"QuayClock$Reader", "pend", "(I)V"⟩, 12)]
theorem lw_r1 : ∀ q ∈ lw_privs_1, lw_okq q := List.forall_mem_cons.mpr ⟨lw_p0, List.forall_mem_cons.mpr ⟨lw_p1, List.forall_mem_cons.mpr ⟨lw_p2, List.forall_mem_cons.mpr ⟨lw_p3, List.forall_mem_cons.mpr ⟨lw_p4, List.forall_mem_cons.mpr ⟨lw_p5, List.forall_mem_cons.mpr ⟨lw_p6, List.forall_mem_cons.mpr ⟨lw_p7, List.forall_mem_cons.mpr ⟨lw_p8, List.forall_mem_cons.mpr ⟨lw_p9, List.forall_mem_cons.mpr ⟨lw_p10, List.forall_mem_cons.mpr ⟨lw_p11, List.forall_mem_cons.mpr ⟨lw_p12, List.forall_mem_cons.mpr ⟨lw_p13, List.forall_mem_cons.mpr ⟨lw_p14, List.forall_mem_cons.mpr ⟨lw_p15, fun _ h => absurd h List.not_mem_nil⟩⟩⟩⟩⟩⟩⟩⟩⟩⟩⟩⟩⟩⟩⟩⟩
theorem lw_p16 : lw_okq (⟨"QuayClock$Loader", "gather", "(LQuayClock$Lorry;LQuayClock$Hall;LQuayClock$Sale;)V"⟩, 4) := ⟨⟨by decide +kernel, by decide +kernel⟩, List.mem_of_getElem? (i := 344) (by decide +kernel), List.mem_of_getElem? (i := 654) (by decide +kernel), List.mem_of_getElem? (i := 655) (by decide +kernel)⟩
theorem lw_p17 : lw_okq (⟨"QuayClock$Loader", "countFewest", "(I)V"⟩, 4) := ⟨⟨by decide +kernel, by decide +kernel⟩, List.mem_of_getElem? (i := 344) (by decide +kernel), List.mem_of_getElem? (i := 663) (by decide +kernel), List.mem_of_getElem? (i := 664) (by decide +kernel)⟩
theorem lw_p18 : lw_okq (⟨"QuayClock$Loader", "mostBoxes", "(I)I"⟩, 4) := ⟨⟨by decide +kernel, by decide +kernel⟩, List.mem_of_getElem? (i := 344) (by decide +kernel), List.mem_of_getElem? (i := 671) (by decide +kernel), List.mem_of_getElem? (i := 672) (by decide +kernel)⟩
theorem lw_p19 : lw_okq (⟨"QuayClock$Sale", "begin", "(I)V"⟩, 9) := ⟨⟨by decide +kernel, by decide +kernel⟩, List.mem_of_getElem? (i := 207) (by decide +kernel), List.mem_of_getElem? (i := 687) (by decide +kernel), List.mem_of_getElem? (i := 688) (by decide +kernel)⟩
theorem lw_p20 : lw_okq (⟨"QuayClock$Hall", "setLotVariables", "(I)V"⟩, 7) := ⟨⟨by decide +kernel, by decide +kernel⟩, List.mem_of_getElem? (i := 109) (by decide +kernel), List.mem_of_getElem? (i := 700) (by decide +kernel), List.mem_of_getElem? (i := 701) (by decide +kernel)⟩
theorem lw_p21 : lw_okq (⟨"QuayClock$Text", "compute", "(II[I)I"⟩, 8) := ⟨⟨by decide +kernel, by decide +kernel⟩, List.mem_of_getElem? (i := 34) (by decide +kernel), List.mem_of_getElem? (i := 712) (by decide +kernel), List.mem_of_getElem? (i := 713) (by decide +kernel)⟩
theorem lw_p22 : lw_okq (⟨"QuayClock$Sale", "fillClocks", "()V"⟩, 9) := ⟨⟨by decide +kernel, by decide +kernel⟩, List.mem_of_getElem? (i := 207) (by decide +kernel), List.mem_of_getElem? (i := 734) (by decide +kernel), List.mem_of_getElem? (i := 735) (by decide +kernel)⟩
theorem lw_p23 : lw_okq (⟨"QuayClock$Sale", "refreshLimits", "()V"⟩, 9) := ⟨⟨by decide +kernel, by decide +kernel⟩, List.mem_of_getElem? (i := 207) (by decide +kernel), List.mem_of_getElem? (i := 742) (by decide +kernel), List.mem_of_getElem? (i := 743) (by decide +kernel)⟩
theorem lw_p24 : lw_okq (⟨"QuayClock$Hall", "setBuyerVariables", "(IILQuayClock$Purse;)V"⟩, 7) := ⟨⟨by decide +kernel, by decide +kernel⟩, List.mem_of_getElem? (i := 109) (by decide +kernel), List.mem_of_getElem? (i := 750) (by decide +kernel), List.mem_of_getElem? (i := 751) (by decide +kernel)⟩
theorem lw_p25 : lw_okq (⟨"QuayClock$Sale", "passQuietSeconds", "()V"⟩, 9) := ⟨⟨by decide +kernel, by decide +kernel⟩, List.mem_of_getElem? (i := 207) (by decide +kernel), List.mem_of_getElem? (i := 758) (by decide +kernel), List.mem_of_getElem? (i := 759) (by decide +kernel)⟩
theorem lw_p26 : lw_okq (⟨"QuayClock$Sale", "stopClocks", "()V"⟩, 9) := ⟨⟨by decide +kernel, by decide +kernel⟩, List.mem_of_getElem? (i := 207) (by decide +kernel), List.mem_of_getElem? (i := 768) (by decide +kernel), List.mem_of_getElem? (i := 769) (by decide +kernel)⟩
theorem lw_p27 : lw_okq (⟨"QuayClock$Sale", "whoStops", "(LQuayClock$Clock;)I"⟩, 9) := ⟨⟨by decide +kernel, by decide +kernel⟩, List.mem_of_getElem? (i := 207) (by decide +kernel), List.mem_of_getElem? (i := 772) (by decide +kernel), List.mem_of_getElem? (i := 773) (by decide +kernel)⟩
theorem lw_p28 : lw_okq (⟨"QuayClock$Sale", "sell", "(LQuayClock$Clock;I)V"⟩, 9) := ⟨⟨by decide +kernel, by decide +kernel⟩, List.mem_of_getElem? (i := 207) (by decide +kernel), List.mem_of_getElem? (i := 776) (by decide +kernel), List.mem_of_getElem? (i := 777) (by decide +kernel)⟩
theorem lw_p29 : lw_okq (⟨"QuayClock$Sale", "settle", "(II)V"⟩, 9) := ⟨⟨by decide +kernel, by decide +kernel⟩, List.mem_of_getElem? (i := 207) (by decide +kernel), List.mem_of_getElem? (i := 784) (by decide +kernel), List.mem_of_getElem? (i := 785) (by decide +kernel)⟩
theorem lw_p30 : lw_okq (⟨"QuayClock$Sale", "lowerClocks", "()V"⟩, 9) := ⟨⟨by decide +kernel, by decide +kernel⟩, List.mem_of_getElem? (i := 207) (by decide +kernel), List.mem_of_getElem? (i := 788) (by decide +kernel), List.mem_of_getElem? (i := 789) (by decide +kernel)⟩
theorem lw_p31 : lw_okq (⟨"QuayClock$Sale", "soldLast", "(I)I"⟩, 9) := ⟨⟨by decide +kernel, by decide +kernel⟩, List.mem_of_getElem? (i := 207) (by decide +kernel), List.mem_of_getElem? (i := 800) (by decide +kernel), List.mem_of_getElem? (i := 801) (by decide +kernel)⟩
def lw_privs_2 : List (MethodName × Nat) := [(⟨"QuayClock$Loader", "gather", "(LQuayClock$Lorry;LQuayClock$Hall;LQuayClock$Sale;)V"⟩, 4), (⟨"QuayClock$Loader", "countFewest", "(I)V"⟩, 4), (⟨"QuayClock$Loader", "mostBoxes", "(I)I"⟩, 4), (⟨"QuayClock$Sale", "begin", "(I)V"⟩, 9), (⟨"QuayClock$Hall", "setLotVariables", "(I)V"⟩, 7), (⟨"QuayClock$Text", "compute", "(II[I)I"⟩, 8), (⟨"QuayClock$Sale", "fillClocks", "()V"⟩, 9), (⟨"QuayClock$Sale", "refreshLimits", "()V"⟩, 9), (⟨"QuayClock$Hall", "setBuyerVariables", "(IILQuayClock$Purse;)V"⟩, 7), (⟨"QuayClock$Sale", "passQuietSeconds", "()V"⟩, 9), (⟨"QuayClock$Sale", "stopClocks", "()V"⟩, 9), (⟨"QuayClock$Sale", "whoStops", "(LQuayClock$Clock;)I"⟩, 9), (⟨"QuayClock$Sale", "sell", "(LQuayClock$Clock;I)V"⟩, 9), (⟨"QuayClock$Sale", "settle", "(II)V"⟩, 9), (⟨"QuayClock$Sale", "lowerClocks", "()V"⟩, 9), (⟨"QuayClock$Sale", "soldLast", "(I)I"⟩, 9)]
theorem lw_r2 : ∀ q ∈ lw_privs_2, lw_okq q := List.forall_mem_cons.mpr ⟨lw_p16, List.forall_mem_cons.mpr ⟨lw_p17, List.forall_mem_cons.mpr ⟨lw_p18, List.forall_mem_cons.mpr ⟨lw_p19, List.forall_mem_cons.mpr ⟨lw_p20, List.forall_mem_cons.mpr ⟨lw_p21, List.forall_mem_cons.mpr ⟨lw_p22, List.forall_mem_cons.mpr ⟨lw_p23, List.forall_mem_cons.mpr ⟨lw_p24, List.forall_mem_cons.mpr ⟨lw_p25, List.forall_mem_cons.mpr ⟨lw_p26, List.forall_mem_cons.mpr ⟨lw_p27, List.forall_mem_cons.mpr ⟨lw_p28, List.forall_mem_cons.mpr ⟨lw_p29, List.forall_mem_cons.mpr ⟨lw_p30, List.forall_mem_cons.mpr ⟨lw_p31, fun _ h => absurd h List.not_mem_nil⟩⟩⟩⟩⟩⟩⟩⟩⟩⟩⟩⟩⟩⟩⟩⟩
theorem lw_p32 : lw_okq (⟨"QuayClock$Sale", "partOfSold", "(II)I"⟩, 9) := ⟨⟨by decide +kernel, by decide +kernel⟩, List.mem_of_getElem? (i := 207) (by decide +kernel), List.mem_of_getElem? (i := 863) (by decide +kernel), List.mem_of_getElem? (i := 864) (by decide +kernel)⟩
theorem lw_p33 : lw_okq (⟨"QuayClock$Sale", "partOfWithdrawn", "(II)I"⟩, 9) := ⟨⟨by decide +kernel, by decide +kernel⟩, List.mem_of_getElem? (i := 207) (by decide +kernel), List.mem_of_getElem? (i := 867) (by decide +kernel), List.mem_of_getElem? (i := 868) (by decide +kernel)⟩
theorem lw_p34 : lw_okq (⟨"QuayClockModel", "put", "(I)V"⟩, 80) := ⟨⟨by decide +kernel, by decide +kernel⟩, List.mem_of_getElem? (i := 900) (by decide +kernel), List.mem_of_getElem? (i := 1158) (by decide +kernel), List.mem_of_getElem? (i := 1159) (by decide +kernel)⟩
theorem lw_p35 : lw_okq (⟨"QuayClockModel", "cut", "()V"⟩, 80) := ⟨⟨by decide +kernel, by decide +kernel⟩, List.mem_of_getElem? (i := 900) (by decide +kernel), List.mem_of_getElem? (i := 1170) (by decide +kernel), List.mem_of_getElem? (i := 1171) (by decide +kernel)⟩
theorem lw_p36 : lw_okq (⟨"QuayClockModel", "at", "(I)I"⟩, 80) := ⟨⟨by decide +kernel, by decide +kernel⟩, List.mem_of_getElem? (i := 900) (by decide +kernel), List.mem_of_getElem? (i := 1174) (by decide +kernel), List.mem_of_getElem? (i := 1175) (by decide +kernel)⟩
theorem lw_p37 : lw_okq (⟨"QuayClockModel", "token", "(IIIJ)V"⟩, 80) := ⟨⟨by decide +kernel, by decide +kernel⟩, List.mem_of_getElem? (i := 900) (by decide +kernel), List.mem_of_getElem? (i := 1178) (by decide +kernel), List.mem_of_getElem? (i := 1179) (by decide +kernel)⟩
theorem lw_p38 : lw_okq (⟨"QuayClockModel", "sign", "(III)I"⟩, 80) := ⟨⟨by decide +kernel, by decide +kernel⟩, List.mem_of_getElem? (i := 900) (by decide +kernel), List.mem_of_getElem? (i := 1188) (by decide +kernel), List.mem_of_getElem? (i := 1189) (by decide +kernel)⟩
theorem lw_p39 : lw_okq (⟨"QuayClockModel", "is", "(I)Z"⟩, 80) := ⟨⟨by decide +kernel, by decide +kernel⟩, List.mem_of_getElem? (i := 900) (by decide +kernel), List.mem_of_getElem? (i := 1192) (by decide +kernel), List.mem_of_getElem? (i := 1193) (by decide +kernel)⟩
theorem lw_p40 : lw_okq (⟨"QuayClockModel", "tellRule", "()V"⟩, 80) := ⟨⟨by decide +kernel, by decide +kernel⟩, List.mem_of_getElem? (i := 900) (by decide +kernel), List.mem_of_getElem? (i := 1196) (by decide +kernel), List.mem_of_getElem? (i := 1197) (by decide +kernel)⟩
theorem lw_p41 : lw_okq (⟨"QuayClockModel", "fail", "(I)V"⟩, 80) := ⟨⟨by decide +kernel, by decide +kernel⟩, List.mem_of_getElem? (i := 900) (by decide +kernel), List.mem_of_getElem? (i := 1200) (by decide +kernel), List.mem_of_getElem? (i := 1201) (by decide +kernel)⟩
theorem lw_p42 : lw_okq (⟨"QuayClockModel", "next", "()V"⟩, 80) := ⟨⟨by decide +kernel, by decide +kernel⟩, List.mem_of_getElem? (i := 900) (by decide +kernel), List.mem_of_getElem? (i := 1204) (by decide +kernel), List.mem_of_getElem? (i := 1205) (by decide +kernel)⟩
theorem lw_p43 : lw_okq (⟨"QuayClockModel", "expression", "()V"⟩, 80) := ⟨⟨by decide +kernel, by decide +kernel⟩, List.mem_of_getElem? (i := 900) (by decide +kernel), List.mem_of_getElem? (i := 1208) (by decide +kernel), List.mem_of_getElem? (i := 1209) (by decide +kernel)⟩
theorem lw_p44 : lw_okq (⟨"QuayClockModel", "emit", "(II)V"⟩, 80) := ⟨⟨by decide +kernel, by decide +kernel⟩, List.mem_of_getElem? (i := 900) (by decide +kernel), List.mem_of_getElem? (i := 1212) (by decide +kernel), List.mem_of_getElem? (i := 1213) (by decide +kernel)⟩
theorem lw_p45 : lw_okq (⟨"QuayClockModel", "comesOut", "(Z)V"⟩, 80) := ⟨⟨by decide +kernel, by decide +kernel⟩, List.mem_of_getElem? (i := 900) (by decide +kernel), List.mem_of_getElem? (i := 1216) (by decide +kernel), List.mem_of_getElem? (i := 1217) (by decide +kernel)⟩
theorem lw_p46 : lw_okq (⟨"QuayClockModel", "relation", "(Z)V"⟩, 80) := ⟨⟨by decide +kernel, by decide +kernel⟩, List.mem_of_getElem? (i := 900) (by decide +kernel), List.mem_of_getElem? (i := 1220) (by decide +kernel), List.mem_of_getElem? (i := 1221) (by decide +kernel)⟩
theorem lw_p47 : lw_okq (⟨"QuayClockModel", "must", "(I)V"⟩, 80) := ⟨⟨by decide +kernel, by decide +kernel⟩, List.mem_of_getElem? (i := 900) (by decide +kernel), List.mem_of_getElem? (i := 1224) (by decide +kernel), List.mem_of_getElem? (i := 1225) (by decide +kernel)⟩
def lw_privs_3 : List (MethodName × Nat) := [(⟨"QuayClock$Sale", "partOfSold", "(II)I"⟩, 9), (⟨"QuayClock$Sale", "partOfWithdrawn", "(II)I"⟩, 9), (⟨"QuayClockModel", "put", "(I)V"⟩, 80), (⟨"QuayClockModel", "cut", "()V"⟩, 80), (⟨"QuayClockModel", "at", "(I)I"⟩, 80), (⟨"QuayClockModel", "token", "(IIIJ)V"⟩, 80), (⟨"QuayClockModel", "sign", "(III)I"⟩, 80), (⟨"QuayClockModel", "is", "(I)Z"⟩, 80), (⟨"QuayClockModel", "tellRule", "()V"⟩, 80), (⟨"QuayClockModel", "fail", "(I)V"⟩, 80), (⟨"QuayClockModel", "next", "()V"⟩, 80), (⟨"QuayClockModel", "expression", "()V"⟩, 80), (⟨"QuayClockModel", "emit", "(II)V"⟩, 80), (⟨"QuayClockModel", "comesOut", "(Z)V"⟩, 80), (⟨"QuayClockModel", "relation", "(Z)V"⟩, 80), (⟨"QuayClockModel", "must", "(I)V"⟩, 80)]
theorem lw_r3 : ∀ q ∈ lw_privs_3, lw_okq q := List.forall_mem_cons.mpr ⟨lw_p32, List.forall_mem_cons.mpr ⟨lw_p33, List.forall_mem_cons.mpr ⟨lw_p34, List.forall_mem_cons.mpr ⟨lw_p35, List.forall_mem_cons.mpr ⟨lw_p36, List.forall_mem_cons.mpr ⟨lw_p37, List.forall_mem_cons.mpr ⟨lw_p38, List.forall_mem_cons.mpr ⟨lw_p39, List.forall_mem_cons.mpr ⟨lw_p40, List.forall_mem_cons.mpr ⟨lw_p41, List.forall_mem_cons.mpr ⟨lw_p42, List.forall_mem_cons.mpr ⟨lw_p43, List.forall_mem_cons.mpr ⟨lw_p44, List.forall_mem_cons.mpr ⟨lw_p45, List.forall_mem_cons.mpr ⟨lw_p46, List.forall_mem_cons.mpr ⟨lw_p47, fun _ h => absurd h List.not_mem_nil⟩⟩⟩⟩⟩⟩⟩⟩⟩⟩⟩⟩⟩⟩⟩⟩
theorem lw_p48 : lw_okq (⟨"QuayClockModel", "isBuyer", "(I)Z"⟩, 80) := ⟨⟨by decide +kernel, by decide +kernel⟩, List.mem_of_getElem? (i := 900) (by decide +kernel), List.mem_of_getElem? (i := 1248) (by decide +kernel), List.mem_of_getElem? (i := 1249) (by decide +kernel)⟩
theorem lw_p49 : lw_okq (⟨"QuayClockModel", "goes", "(I)I"⟩, 80) := ⟨⟨by decide +kernel, by decide +kernel⟩, List.mem_of_getElem? (i := 900) (by decide +kernel), List.mem_of_getElem? (i := 1261) (by decide +kernel), List.mem_of_getElem? (i := 1262) (by decide +kernel)⟩
theorem lw_p50 : lw_okq (⟨"QuayClockModel", "startOf", "(I)I"⟩, 80) := ⟨⟨by decide +kernel, by decide +kernel⟩, List.mem_of_getElem? (i := 900) (by decide +kernel), List.mem_of_getElem? (i := 1265) (by decide +kernel), List.mem_of_getElem? (i := 1266) (by decide +kernel)⟩
theorem lw_p51 : lw_okq (⟨"QuayClockModel", "asks", "(II)V"⟩, 80) := ⟨⟨by decide +kernel, by decide +kernel⟩, List.mem_of_getElem? (i := 900) (by decide +kernel), List.mem_of_getElem? (i := 1269) (by decide +kernel), List.mem_of_getElem? (i := 1270) (by decide +kernel)⟩
theorem lw_p52 : lw_okq (⟨"QuayClockModel", "left", "(II)I"⟩, 80) := ⟨⟨by decide +kernel, by decide +kernel⟩, List.mem_of_getElem? (i := 900) (by decide +kernel), List.mem_of_getElem? (i := 1273) (by decide +kernel), List.mem_of_getElem? (i := 1274) (by decide +kernel)⟩
theorem lw_p53 : lw_okq (⟨"QuayClockModel", "ruleOf", "(II)I"⟩, 80) := ⟨⟨by decide +kernel, by decide +kernel⟩, List.mem_of_getElem? (i := 900) (by decide +kernel), List.mem_of_getElem? (i := 1277) (by decide +kernel), List.mem_of_getElem? (i := 1278) (by decide +kernel)⟩
theorem lw_p54 : lw_okq (⟨"QuayClockModel", "holds", "(II)Z"⟩, 80) := ⟨⟨by decide +kernel, by decide +kernel⟩, List.mem_of_getElem? (i := 900) (by decide +kernel), List.mem_of_getElem? (i := 1281) (by decide +kernel), List.mem_of_getElem? (i := 1282) (by decide +kernel)⟩
theorem lw_p55 : lw_okq (⟨"QuayClockModel", "value", "(II)I"⟩, 80) := ⟨⟨by decide +kernel, by decide +kernel⟩, List.mem_of_getElem? (i := 900) (by decide +kernel), List.mem_of_getElem? (i := 1285) (by decide +kernel), List.mem_of_getElem? (i := 1286) (by decide +kernel)⟩
theorem lw_p56 : lw_okq (⟨"QuayClockModel", "termOf", "(II)I"⟩, 80) := ⟨⟨by decide +kernel, by decide +kernel⟩, List.mem_of_getElem? (i := 900) (by decide +kernel), List.mem_of_getElem? (i := 1289) (by decide +kernel), List.mem_of_getElem? (i := 1290) (by decide +kernel)⟩
theorem lw_p57 : lw_okq (⟨"QuayClockModel", "leastOf", "(II)I"⟩, 80) := ⟨⟨by decide +kernel, by decide +kernel⟩, List.mem_of_getElem? (i := 900) (by decide +kernel), List.mem_of_getElem? (i := 1296) (by decide +kernel), List.mem_of_getElem? (i := 1297) (by decide +kernel)⟩
theorem lw_p58 : lw_okq (⟨"QuayClockModel", "stops", "(II)Z"⟩, 80) := ⟨⟨by decide +kernel, by decide +kernel⟩, List.mem_of_getElem? (i := 900) (by decide +kernel), List.mem_of_getElem? (i := 1300) (by decide +kernel), List.mem_of_getElem? (i := 1301) (by decide +kernel)⟩
theorem lw_p59 : lw_okq (⟨"QuayClockModel", "limitOf", "(II)I"⟩, 80) := ⟨⟨by decide +kernel, by decide +kernel⟩, List.mem_of_getElem? (i := 900) (by decide +kernel), List.mem_of_getElem? (i := 1304) (by decide +kernel), List.mem_of_getElem? (i := 1305) (by decide +kernel)⟩
theorem lw_p60 : lw_okq (⟨"QuayClockModel", "brings", "(I)I"⟩, 80) := ⟨⟨by decide +kernel, by decide +kernel⟩, List.mem_of_getElem? (i := 900) (by decide +kernel), List.mem_of_getElem? (i := 1308) (by decide +kernel), List.mem_of_getElem? (i := 1309) (by decide +kernel)⟩
theorem lw_p61 : lw_okq (⟨"QuayClockModel", "isLot", "(I)Z"⟩, 80) := ⟨⟨by decide +kernel, by decide +kernel⟩, List.mem_of_getElem? (i := 900) (by decide +kernel), List.mem_of_getElem? (i := 1320) (by decide +kernel), List.mem_of_getElem? (i := 1321) (by decide +kernel)⟩
theorem lw_p62 : lw_okq (⟨"QuayClockModel", "loads", "()V"⟩, 80) := ⟨⟨by decide +kernel, by decide +kernel⟩, List.mem_of_getElem? (i := 900) (by decide +kernel), List.mem_of_getElem? (i := 1324) (by decide +kernel), List.mem_of_getElem? (i := 1325) (by decide +kernel)⟩
theorem lw_p63 : lw_okq (⟨"QuayClockModel", "stands", "()V"⟩, 80) := ⟨⟨by decide +kernel, by decide +kernel⟩, List.mem_of_getElem? (i := 900) (by decide +kernel), List.mem_of_getElem? (i := 1332) (by decide +kernel), List.mem_of_getElem? (i := 1333) (by decide +kernel)⟩
def lw_privs_4 : List (MethodName × Nat) := [(⟨"QuayClockModel", "isBuyer", "(I)Z"⟩, 80), (⟨"QuayClockModel", "goes", "(I)I"⟩, 80), (⟨"QuayClockModel", "startOf", "(I)I"⟩, 80), (⟨"QuayClockModel", "asks", "(II)V"⟩, 80), (⟨"QuayClockModel", "left", "(II)I"⟩, 80), (⟨"QuayClockModel", "ruleOf", "(II)I"⟩, 80), (⟨"QuayClockModel", "holds", "(II)Z"⟩, 80), (⟨"QuayClockModel", "value", "(II)I"⟩, 80), (⟨"QuayClockModel", "termOf", "(II)I"⟩, 80), (⟨"QuayClockModel", "leastOf", "(II)I"⟩, 80), (⟨"QuayClockModel", "stops", "(II)Z"⟩, 80), (⟨"QuayClockModel", "limitOf", "(II)I"⟩, 80), (⟨"QuayClockModel", "brings", "(I)I"⟩, 80), (⟨"QuayClockModel", "isLot", "(I)Z"⟩, 80), (⟨"QuayClockModel", "loads", "()V"⟩, 80), (⟨"QuayClockModel", "stands", "()V"⟩, 80)]
theorem lw_r4 : ∀ q ∈ lw_privs_4, lw_okq q := List.forall_mem_cons.mpr ⟨lw_p48, List.forall_mem_cons.mpr ⟨lw_p49, List.forall_mem_cons.mpr ⟨lw_p50, List.forall_mem_cons.mpr ⟨lw_p51, List.forall_mem_cons.mpr ⟨lw_p52, List.forall_mem_cons.mpr ⟨lw_p53, List.forall_mem_cons.mpr ⟨lw_p54, List.forall_mem_cons.mpr ⟨lw_p55, List.forall_mem_cons.mpr ⟨lw_p56, List.forall_mem_cons.mpr ⟨lw_p57, List.forall_mem_cons.mpr ⟨lw_p58, List.forall_mem_cons.mpr ⟨lw_p59, List.forall_mem_cons.mpr ⟨lw_p60, List.forall_mem_cons.mpr ⟨lw_p61, List.forall_mem_cons.mpr ⟨lw_p62, List.forall_mem_cons.mpr ⟨lw_p63, fun _ h => absurd h List.not_mem_nil⟩⟩⟩⟩⟩⟩⟩⟩⟩⟩⟩⟩⟩⟩⟩⟩
def lw_privs : List (MethodName × Nat) := lw_privs_1 ++ (lw_privs_2 ++ (lw_privs_3 ++ (lw_privs_4)))
def lw_tbl : List Cond := k2_sels lw_privs ++ tables_1
theorem lw_privs_ok : ∀ q ∈ lw_privs, lw_okq q := by
  show ∀ q ∈ lw_privs_1 ++ (lw_privs_2 ++ (lw_privs_3 ++ (lw_privs_4))), lw_okq q
  exact List.forall_mem_append.mpr ⟨lw_r1, List.forall_mem_append.mpr ⟨lw_r2, List.forall_mem_append.mpr ⟨lw_r3, lw_r4⟩⟩⟩
def RX0 : String := "QuayClock$Buyer"
def TX0 : u_T := fun k => match k with
  | 0 => ("QuayClock$Buyer", "town", "I", false)
  | 1 => ("QuayClock$Buyer", "credit", "I", false)
  | 2 => ("QuayClock$Buyer", "wants", "[I", true)
  | _ => ("QuayClock$Buyer", "text", "LQuayClock$Text;", false)
def tyX0 : Nat → FieldType := fun k => match k with
  | 0 => .int
  | 1 => .int
  | 2 => .array .int
  | _ => .object "QuayClock$Text"
abbrev wsX00 : List Cond := u_ws RX0 TX0 4
theorem nmX0 : ∀ a, a < 4 → ∀ b, b < 4 → a ≠ b → (TX0 a).2.1 ≠ (TX0 b).2.1 := by decide +kernel
theorem tyX0_ok : ∀ k, k < 4 → parseFieldDescriptor (TX0 k).2.2.1 = some (tyX0 k) := by decide +kernel
abbrev cX0_init : ByteArray := prog_2_method_1_code
def yX0_init : MethodName := ⟨RX0, "<init>", "()V"⟩
def RX1 : String := "QuayClock$Clock"
def TX1 : u_T := fun k => match k with
  | 0 => ("QuayClock$Clock", "lot", "I", false)
  | 1 => ("QuayClock$Clock", "price", "I", false)
  | 2 => ("QuayClock$Clock", "least", "I", false)
  | 3 => ("QuayClock$Clock", "filledAt", "I", false)
  | _ => ("QuayClock$Clock", "limits", "[I", true)
def tyX1 : Nat → FieldType := fun k => match k with
  | 0 => .int
  | 1 => .int
  | 2 => .int
  | 3 => .int
  | _ => .array .int
abbrev wsX10 : List Cond := u_ws RX1 TX1 5
theorem nmX1 : ∀ a, a < 5 → ∀ b, b < 5 → a ≠ b → (TX1 a).2.1 ≠ (TX1 b).2.1 := by decide +kernel
theorem tyX1_ok : ∀ k, k < 5 → parseFieldDescriptor (TX1 k).2.2.1 = some (tyX1 k) := by decide +kernel
abbrev cX1_init : ByteArray := prog_3_method_1_code
def yX1_init : MethodName := ⟨RX1, "<init>", "()V"⟩
abbrev cX1_isEmpty : ByteArray := prog_3_method_2_code
def yX1_isEmpty : MethodName := ⟨RX1, "isEmpty", "()Z"⟩
abbrev cX1_quietSeconds : ByteArray := prog_3_method_3_code
def yX1_quietSeconds : MethodName := ⟨RX1, "quietSeconds", "(I)I"⟩
def RX2 : String := "QuayClock$Hall"
def TX2 : u_T := fun k => match k with
  | 0 => ("QuayClock$Hall", "lots", "[LQuayClock$Lot;", true)
  | 1 => ("QuayClock$Hall", "lotCount", "I", false)
  | 2 => ("QuayClock$Hall", "buyers", "[LQuayClock$Buyer;", true)
  | 3 => ("QuayClock$Hall", "buyerCount", "I", false)
  | 4 => ("QuayClock$Hall", "lasts", "[I", true)
  | 5 => ("QuayClock$Hall", "text", "LQuayClock$Text;", false)
  | _ => ("QuayClock$Hall", "variables", "[I", true)
def tyX2 : Nat → FieldType := fun k => match k with
  | 0 => .array (.object "QuayClock$Lot")
  | 1 => .int
  | 2 => .array (.object "QuayClock$Buyer")
  | 3 => .int
  | 4 => .array .int
  | 5 => .object "QuayClock$Text"
  | _ => .array .int
abbrev wsX20 : List Cond := u_ws RX2 TX2 7
theorem nmX2 : ∀ a, a < 7 → ∀ b, b < 7 → a ≠ b → (TX2 a).2.1 ≠ (TX2 b).2.1 := by decide +kernel
theorem tyX2_ok : ∀ k, k < 7 → parseFieldDescriptor (TX2 k).2.2.1 = some (tyX2 k) := by decide +kernel
abbrev cX2_init : ByteArray := prog_4_method_1_code
def yX2_init : MethodName := ⟨RX2, "<init>", "()V"⟩
abbrev cX2_hasLot : ByteArray := prog_4_method_2_code
def yX2_hasLot : MethodName := ⟨RX2, "hasLot", "(I)Z"⟩
abbrev cX2_hasBuyer : ByteArray := prog_4_method_3_code
def yX2_hasBuyer : MethodName := ⟨RX2, "hasBuyer", "(I)Z"⟩
abbrev cX2_land : ByteArray := prog_4_method_4_code
def yX2_land : MethodName := ⟨RX2, "land", "(IIIII)I"⟩
abbrev cX2_admit : ByteArray := prog_4_method_5_code
/-- the name of a method as the tables have it (its word may not stand in these rows) -/
def yX2_admit : MethodName := match (tables_1_3[146]? : Option Cond) with
  | some (Cond.instanceMethod n) => n
  | _ => ⟨RX2, "", "(II)I"⟩
abbrev cX2_exchangeText : ByteArray := prog_4_method_6_code
def yX2_exchangeText : MethodName := ⟨RX2, "exchangeText", "(ILQuayClock$Text;)LQuayClock$Text;"⟩
abbrev cX2_startOf : ByteArray := prog_4_method_7_code
def yX2_startOf : MethodName := ⟨RX2, "startOf", "(I)I"⟩
abbrev cX2_leastOf : ByteArray := prog_4_method_8_code
def yX2_leastOf : MethodName := ⟨RX2, "leastOf", "(II)I"⟩
abbrev cX2_heldTo : ByteArray := prog_4_method_9_code
def yX2_heldTo : MethodName := ⟨RX2, "heldTo", "(II)I"⟩
abbrev cX2_limitOf : ByteArray := prog_4_method_10_code
def yX2_limitOf : MethodName := ⟨RX2, "limitOf", "(IILQuayClock$Purse;)I"⟩
abbrev cX2_bidRuleOf : ByteArray := prog_4_method_11_code
def yX2_bidRuleOf : MethodName := ⟨RX2, "bidRuleOf", "(IILQuayClock$Purse;)I"⟩
abbrev cX2_stillWanted : ByteArray := prog_4_method_12_code
def yX2_stillWanted : MethodName := ⟨RX2, "stillWanted", "(IILQuayClock$Purse;)I"⟩
abbrev cX2_setLotVariables : ByteArray := prog_4_method_13_code
def yX2_setLotVariables : MethodName := ⟨RX2, "setLotVariables", "(I)V"⟩
abbrev cX2_setBuyerVariables : ByteArray := prog_4_method_14_code
def yX2_setBuyerVariables : MethodName := ⟨RX2, "setBuyerVariables", "(IILQuayClock$Purse;)V"⟩
def RX3 : String := "QuayClock$Loader"
def TX3 : u_T := fun k => match k with
  | 0 => ("QuayClock$Loader", "lots", "[I", true)
  | 1 => ("QuayClock$Loader", "boxes", "[I", true)
  | 2 => ("QuayClock$Loader", "lotCount", "I", false)
  | _ => ("QuayClock$Loader", "fewest", "[[I", true)
def tyX3 : Nat → FieldType := fun k => match k with
  | 0 => .array .int
  | 1 => .array .int
  | 2 => .int
  | _ => .array (.array .int)
abbrev wsX30 : List Cond := u_ws RX3 TX3 4
theorem nmX3 : ∀ a, a < 4 → ∀ b, b < 4 → a ≠ b → (TX3 a).2.1 ≠ (TX3 b).2.1 := by decide +kernel
theorem tyX3_ok : ∀ k, k < 4 → parseFieldDescriptor (TX3 k).2.2.1 = some (tyX3 k) := by decide +kernel
abbrev cX3_init : ByteArray := prog_5_method_1_code
def yX3_init : MethodName := ⟨RX3, "<init>", "()V"⟩
abbrev cX3_fill : ByteArray := prog_5_method_2_code
def yX3_fill : MethodName := ⟨RX3, "fill", "(LQuayClock$Lorry;ILQuayClock$Hall;LQuayClock$Sale;)V"⟩
abbrev cX3_gather : ByteArray := prog_5_method_3_code
def yX3_gather : MethodName := ⟨RX3, "gather", "(LQuayClock$Lorry;LQuayClock$Hall;LQuayClock$Sale;)V"⟩
abbrev cX3_countFewest : ByteArray := prog_5_method_4_code
def yX3_countFewest : MethodName := ⟨RX3, "countFewest", "(I)V"⟩
abbrev cX3_mostBoxes : ByteArray := prog_5_method_5_code
def yX3_mostBoxes : MethodName := ⟨RX3, "mostBoxes", "(I)I"⟩
def RX4 : String := "QuayClock$Lorry"
def TX4 : u_T := fun k => match k with
  | 0 => ("QuayClock$Lorry", "town", "I", false)
  | 1 => ("QuayClock$Lorry", "room", "I", false)
  | 2 => ("QuayClock$Lorry", "leaves", "I", false)
  | 3 => ("QuayClock$Lorry", "boxes", "I", false)
  | 4 => ("QuayClock$Lorry", "lots", "[I", true)
  | _ => ("QuayClock$Lorry", "lotCount", "I", false)
def tyX4 : Nat → FieldType := fun k => match k with
  | 0 => .int
  | 1 => .int
  | 2 => .int
  | 3 => .int
  | 4 => .array .int
  | _ => .int
abbrev wsX40 : List Cond := u_ws RX4 TX4 6
theorem nmX4 : ∀ a, a < 6 → ∀ b, b < 6 → a ≠ b → (TX4 a).2.1 ≠ (TX4 b).2.1 := by decide +kernel
theorem tyX4_ok : ∀ k, k < 6 → parseFieldDescriptor (TX4 k).2.2.1 = some (tyX4 k) := by decide +kernel
abbrev cX4_init : ByteArray := prog_6_method_1_code
def yX4_init : MethodName := ⟨RX4, "<init>", "()V"⟩
abbrev cX4_order : ByteArray := prog_6_method_2_code
def yX4_order : MethodName := ⟨RX4, "order", "(III)V"⟩
abbrev cX4_empty : ByteArray := prog_6_method_3_code
def yX4_empty : MethodName := ⟨RX4, "empty", "()V"⟩
abbrev cX4_put : ByteArray := prog_6_method_4_code
def yX4_put : MethodName := ⟨RX4, "put", "(II)V"⟩
abbrev cX4_tell : ByteArray := prog_6_method_5_code
def yX4_tell : MethodName := ⟨RX4, "tell", "(I)I"⟩
def RX5 : String := "QuayClock$Lot"
def TX5 : u_T := fun k => match k with
  | 0 => ("QuayClock$Lot", "boat", "I", false)
  | 1 => ("QuayClock$Lot", "kind", "I", false)
  | 2 => ("QuayClock$Lot", "size", "I", false)
  | 3 => ("QuayClock$Lot", "boxes", "I", false)
  | _ => ("QuayClock$Lot", "quality", "I", false)
def tyX5 : Nat → FieldType := fun k => match k with
  | 0 => .int
  | 1 => .int
  | 2 => .int
  | 3 => .int
  | _ => .int
abbrev wsX50 : List Cond := u_ws RX5 TX5 5
theorem nmX5 : ∀ a, a < 5 → ∀ b, b < 5 → a ≠ b → (TX5 a).2.1 ≠ (TX5 b).2.1 := by decide +kernel
theorem tyX5_ok : ∀ k, k < 5 → parseFieldDescriptor (TX5 k).2.2.1 = some (tyX5 k) := by decide +kernel
abbrev cX5_init : ByteArray := prog_7_method_1_code
def yX5_init : MethodName := ⟨RX5, "<init>", "()V"⟩
def RX6 : String := "QuayClock$Outcome"
def TX6 : u_T := fun k => match k with
  | 0 => ("QuayClock$Outcome", "buyer", "I", false)
  | 1 => ("QuayClock$Outcome", "price", "I", false)
  | 2 => ("QuayClock$Outcome", "second", "I", false)
  | 3 => ("QuayClock$Outcome", "clock", "I", false)
  | 4 => ("QuayClock$Outcome", "start", "I", false)
  | 5 => ("QuayClock$Outcome", "least", "I", false)
  | 6 => ("QuayClock$Outcome", "brings", "I", false)
  | _ => ("QuayClock$Outcome", "lorry", "I", false)
def tyX6 : Nat → FieldType := fun k => match k with
  | 0 => .int
  | 1 => .int
  | 2 => .int
  | 3 => .int
  | 4 => .int
  | 5 => .int
  | 6 => .int
  | _ => .int
abbrev wsX60 : List Cond := u_ws RX6 TX6 8
theorem nmX6 : ∀ a, a < 8 → ∀ b, b < 8 → a ≠ b → (TX6 a).2.1 ≠ (TX6 b).2.1 := by decide +kernel
theorem tyX6_ok : ∀ k, k < 8 → parseFieldDescriptor (TX6 k).2.2.1 = some (tyX6 k) := by decide +kernel
abbrev cX6_init : ByteArray := prog_8_method_1_code
def yX6_init : MethodName := ⟨RX6, "<init>", "()V"⟩
abbrev cX6_isSold : ByteArray := prog_8_method_2_code
def yX6_isSold : MethodName := ⟨RX6, "isSold", "()Z"⟩
abbrev cX6_tell : ByteArray := prog_8_method_3_code
def yX6_tell : MethodName := ⟨RX6, "tell", "(I)I"⟩
def RX7 : String := "QuayClock$Purse"
def TX7 : u_T := fun k => match k with
  | 0 => ("QuayClock$Purse", "left", "I", false)
  | 1 => ("QuayClock$Purse", "boxes", "I", false)
  | 2 => ("QuayClock$Purse", "lots", "I", false)
  | 3 => ("QuayClock$Purse", "boxesOfKind", "[I", true)
  | _ => ("QuayClock$Purse", "stoppedAt", "I", false)
def tyX7 : Nat → FieldType := fun k => match k with
  | 0 => .int
  | 1 => .int
  | 2 => .int
  | 3 => .array .int
  | _ => .int
abbrev wsX70 : List Cond := u_ws RX7 TX7 5
theorem nmX7 : ∀ a, a < 5 → ∀ b, b < 5 → a ≠ b → (TX7 a).2.1 ≠ (TX7 b).2.1 := by decide +kernel
theorem tyX7_ok : ∀ k, k < 5 → parseFieldDescriptor (TX7 k).2.2.1 = some (tyX7 k) := by decide +kernel
abbrev cX7_init : ByteArray := prog_9_method_1_code
def yX7_init : MethodName := ⟨RX7, "<init>", "()V"⟩
abbrev cX7_open : ByteArray := prog_9_method_2_code
def yX7_open : MethodName := ⟨RX7, "open", "(I)V"⟩
abbrev cX7_pay : ByteArray := prog_9_method_3_code
def yX7_pay : MethodName := ⟨RX7, "pay", "(ILQuayClock$Lot;I)V"⟩
def RX8 : String := "QuayClock$Reader"
def TX8 : u_T := fun k => match k with
  | 0 => ("QuayClock$Reader", "length", "I", false)
  | 1 => ("QuayClock$Reader", "faultPlace", "I", false)
  | 2 => ("QuayClock$Reader", "text", "LQuayClock$Text;", false)
  | 3 => ("QuayClock$Reader", "tape", "[C", true)
  | 4 => ("QuayClock$Reader", "at", "I", false)
  | 5 => ("QuayClock$Reader", "tokenFrom", "I", false)
  | 6 => ("QuayClock$Reader", "tokenCount", "I", false)
  | 7 => ("QuayClock$Reader", "state", "I", false)
  | 8 => ("QuayClock$Reader", "part", "I", false)
  | 9 => ("QuayClock$Reader", "openCount", "I", false)
  | 10 => ("QuayClock$Reader", "pending", "[I", true)
  | _ => ("QuayClock$Reader", "pendingCount", "I", false)
def tyX8 : Nat → FieldType := fun k => match k with
  | 0 => .int
  | 1 => .int
  | 2 => .object "QuayClock$Text"
  | 3 => .array .char
  | 4 => .int
  | 5 => .int
  | 6 => .int
  | 7 => .int
  | 8 => .int
  | 9 => .int
  | 10 => .array .int
  | _ => .int
abbrev wsX80 : List Cond := u_ws RX8 TX8 12
theorem nmX8 : ∀ a, a < 12 → ∀ b, b < 12 → a ≠ b → (TX8 a).2.1 ≠ (TX8 b).2.1 := by decide +kernel
theorem tyX8_ok : ∀ k, k < 12 → parseFieldDescriptor (TX8 k).2.2.1 = some (tyX8 k) := by decide +kernel
abbrev cX8_init : ByteArray := prog_10_method_1_code
def yX8_init : MethodName := ⟨RX8, "<init>", "()V"⟩
abbrev cX8_putFourBytes : ByteArray := prog_10_method_2_code
def yX8_putFourBytes : MethodName := ⟨RX8, "putFourBytes", "(I)V"⟩
abbrev cX8_parse : ByteArray := prog_10_method_3_code
def yX8_parse : MethodName := ⟨RX8, "parse", "()I"⟩
abbrev cX8_begin : ByteArray := prog_10_method_4_code
def yX8_begin : MethodName := ⟨RX8, "begin", "()V"⟩
abbrev cX8_faultOf : ByteArray := prog_10_method_5_code
def yX8_faultOf : MethodName := ⟨RX8, "faultOf", "(I)I"⟩
abbrev cX8_fits : ByteArray := prog_10_method_6_code
def yX8_fits : MethodName := ⟨RX8, "fits", "(I)Z"⟩
abbrev cX8_hasRoomFor : ByteArray := prog_10_method_7_code
def yX8_hasRoomFor : MethodName := ⟨RX8, "hasRoomFor", "(I)Z"⟩
abbrev cX8_take : ByteArray := prog_10_method_8_code
def yX8_take : MethodName := ⟨RX8, "take", "(I)V"⟩
abbrev cX8_takeBehindUnit : ByteArray := prog_10_method_9_code
def yX8_takeBehindUnit : MethodName := ⟨RX8, "takeBehindUnit", "(I)V"⟩
abbrev cX8_takeOperator : ByteArray := prog_10_method_10_code
def yX8_takeOperator : MethodName := ⟨RX8, "takeOperator", "(I)V"⟩
abbrev cX8_pend : ByteArray := prog_10_method_11_code
def yX8_pend : MethodName := ⟨RX8, "pend", "(I)V"⟩
abbrev cX8_settle : ByteArray := prog_10_method_12_code
def yX8_settle : MethodName := ⟨RX8, "settle", "(I)V"⟩
abbrev cX8_dropOpen : ByteArray := prog_10_method_13_code
def yX8_dropOpen : MethodName := ⟨RX8, "dropOpen", "()V"⟩
abbrev cX8_rank : ByteArray := prog_10_method_14_code
def yX8_rank : MethodName := ⟨RX8, "rank", "(I)I"⟩
abbrev cX8_nextToken : ByteArray := prog_10_method_15_code
def yX8_nextToken : MethodName := ⟨RX8, "nextToken", "()I"⟩
abbrev cX8_wordToken : ByteArray := prog_10_method_16_code
def yX8_wordToken : MethodName := ⟨RX8, "wordToken", "()I"⟩
abbrev cX8_isTokenTheWord : ByteArray := prog_10_method_17_code
def yX8_isTokenTheWord : MethodName := ⟨RX8, "isTokenTheWord", "(I)Z"⟩
abbrev cX8_intToken : ByteArray := prog_10_method_18_code
def yX8_intToken : MethodName := ⟨RX8, "intToken", "()I"⟩
abbrev cX8_signToken : ByteArray := prog_10_method_19_code
def yX8_signToken : MethodName := ⟨RX8, "signToken", "(C)I"⟩
abbrev cX8_withEqualSign : ByteArray := prog_10_method_20_code
def yX8_withEqualSign : MethodName := ⟨RX8, "withEqualSign", "(II)I"⟩
abbrev cX8_isBlank : ByteArray := prog_10_method_21_code
def yX8_isBlank : MethodName := ⟨RX8, "isBlank", "(C)Z"⟩
abbrev cX8_isLetter : ByteArray := prog_10_method_22_code
def yX8_isLetter : MethodName := ⟨RX8, "isLetter", "(C)Z"⟩
abbrev cX8_isDigit : ByteArray := prog_10_method_23_code
def yX8_isDigit : MethodName := ⟨RX8, "isDigit", "(C)Z"⟩
def RX9 : String := "QuayClock$Sale"
def TX9 : u_T := fun k => match k with
  | 0 => ("QuayClock$Sale", "hall", "LQuayClock$Hall;", true)
  | 1 => ("QuayClock$Sale", "outcomes", "[LQuayClock$Outcome;", true)
  | 2 => ("QuayClock$Sale", "purses", "[LQuayClock$Purse;", true)
  | 3 => ("QuayClock$Sale", "lastSecond", "I", false)
  | 4 => ("QuayClock$Sale", "clocks", "[LQuayClock$Clock;", true)
  | 5 => ("QuayClock$Sale", "absent", "I", false)
  | 6 => ("QuayClock$Sale", "second", "I", false)
  | 7 => ("QuayClock$Sale", "nextLot", "I", false)
  | _ => ("QuayClock$Sale", "settledLots", "I", false)
def tyX9 : Nat → FieldType := fun k => match k with
  | 0 => .object "QuayClock$Hall"
  | 1 => .array (.object "QuayClock$Outcome")
  | 2 => .array (.object "QuayClock$Purse")
  | 3 => .int
  | 4 => .array (.object "QuayClock$Clock")
  | 5 => .int
  | 6 => .int
  | 7 => .int
  | _ => .int
abbrev wsX90 : List Cond := u_ws RX9 TX9 9
theorem nmX9 : ∀ a, a < 9 → ∀ b, b < 9 → a ≠ b → (TX9 a).2.1 ≠ (TX9 b).2.1 := by decide +kernel
theorem tyX9_ok : ∀ k, k < 9 → parseFieldDescriptor (TX9 k).2.2.1 = some (tyX9 k) := by decide +kernel
abbrev cX9_init : ByteArray := prog_11_method_1_code
def yX9_init : MethodName := ⟨RX9, "<init>", "(LQuayClock$Hall;)V"⟩
abbrev cX9_openPurses : ByteArray := prog_11_method_2_code
def yX9_openPurses : MethodName := ⟨RX9, "openPurses", "()V"⟩
abbrev cX9_hold : ByteArray := prog_11_method_3_code
def yX9_hold : MethodName := ⟨RX9, "hold", "(I)V"⟩
abbrev cX9_begin : ByteArray := prog_11_method_4_code
def yX9_begin : MethodName := ⟨RX9, "begin", "(I)V"⟩
abbrev cX9_fillClocks : ByteArray := prog_11_method_5_code
def yX9_fillClocks : MethodName := ⟨RX9, "fillClocks", "()V"⟩
abbrev cX9_refreshLimits : ByteArray := prog_11_method_6_code
def yX9_refreshLimits : MethodName := ⟨RX9, "refreshLimits", "()V"⟩
abbrev cX9_passQuietSeconds : ByteArray := prog_11_method_7_code
def yX9_passQuietSeconds : MethodName := ⟨RX9, "passQuietSeconds", "()V"⟩
abbrev cX9_stopClocks : ByteArray := prog_11_method_8_code
def yX9_stopClocks : MethodName := ⟨RX9, "stopClocks", "()V"⟩
abbrev cX9_whoStops : ByteArray := prog_11_method_9_code
def yX9_whoStops : MethodName := ⟨RX9, "whoStops", "(LQuayClock$Clock;)I"⟩
abbrev cX9_sell : ByteArray := prog_11_method_10_code
def yX9_sell : MethodName := ⟨RX9, "sell", "(LQuayClock$Clock;I)V"⟩
abbrev cX9_lowerClocks : ByteArray := prog_11_method_11_code
def yX9_lowerClocks : MethodName := ⟨RX9, "lowerClocks", "()V"⟩
abbrev cX9_settle : ByteArray := prog_11_method_12_code
def yX9_settle : MethodName := ⟨RX9, "settle", "(II)V"⟩
abbrev cX9_noteLasts : ByteArray := prog_11_method_13_code
def yX9_noteLasts : MethodName := ⟨RX9, "noteLasts", "()V"⟩
abbrev cX9_soldLast : ByteArray := prog_11_method_14_code
def yX9_soldLast : MethodName := ⟨RX9, "soldLast", "(I)I"⟩
abbrev cX9_isLater : ByteArray := prog_11_method_15_code
def yX9_isLater : MethodName := ⟨RX9, "isLater", "(LQuayClock$Outcome;LQuayClock$Outcome;)Z"⟩
abbrev cX9_takingsOf : ByteArray := prog_11_method_16_code
def yX9_takingsOf : MethodName := ⟨RX9, "takingsOf", "(I)I"⟩
abbrev cX9_takingsOfAll : ByteArray := prog_11_method_17_code
def yX9_takingsOfAll : MethodName := ⟨RX9, "takingsOfAll", "()I"⟩
abbrev cX9_total : ByteArray := prog_11_method_18_code
def yX9_total : MethodName := ⟨RX9, "total", "(I)I"⟩
abbrev cX9_partOfSold : ByteArray := prog_11_method_19_code
def yX9_partOfSold : MethodName := ⟨RX9, "partOfSold", "(II)I"⟩
abbrev cX9_partOfWithdrawn : ByteArray := prog_11_method_20_code
def yX9_partOfWithdrawn : MethodName := ⟨RX9, "partOfWithdrawn", "(II)I"⟩
abbrev cX9_isSoldTo : ByteArray := prog_11_method_21_code
def yX9_isSoldTo : MethodName := ⟨RX9, "isSoldTo", "(II)Z"⟩
abbrev cX9_boxesLeftFor : ByteArray := prog_11_method_22_code
def yX9_boxesLeftFor : MethodName := ⟨RX9, "boxesLeftFor", "(I)I"⟩
def RX10 : String := "QuayClock$Text"
def TX10 : u_T := fun k => match k with
  | 0 => ("QuayClock$Text", "ruleCount", "I", false)
  | 1 => ("QuayClock$Text", "ruleWord", "[I", true)
  | 2 => ("QuayClock$Text", "valueFrom", "[I", true)
  | 3 => ("QuayClock$Text", "valueEnd", "[I", true)
  | 4 => ("QuayClock$Text", "conditionEnd", "[I", true)
  | 5 => ("QuayClock$Text", "code", "[I", true)
  | 6 => ("QuayClock$Text", "codeLength", "I", false)
  | _ => ("QuayClock$Text", "waiting", "[I", true)
def tyX10 : Nat → FieldType := fun k => match k with
  | 0 => .int
  | 1 => .array .int
  | 2 => .array .int
  | 3 => .array .int
  | 4 => .array .int
  | 5 => .array .int
  | 6 => .int
  | _ => .array .int
abbrev wsX100 : List Cond := u_ws RX10 TX10 8
theorem nmX10 : ∀ a, a < 8 → ∀ b, b < 8 → a ≠ b → (TX10 a).2.1 ≠ (TX10 b).2.1 := by decide +kernel
theorem tyX10_ok : ∀ k, k < 8 → parseFieldDescriptor (TX10 k).2.2.1 = some (tyX10 k) := by decide +kernel
abbrev cX10_init : ByteArray := prog_12_method_1_code
def yX10_init : MethodName := ⟨RX10, "<init>", "()V"⟩
abbrev cX10_isOperand : ByteArray := prog_12_method_2_code
def yX10_isOperand : MethodName := ⟨RX10, "isOperand", "(I)Z"⟩
abbrev cX10_isRelation : ByteArray := prog_12_method_3_code
def yX10_isRelation : MethodName := ⟨RX10, "isRelation", "(I)Z"⟩
abbrev cX10_clearRules : ByteArray := prog_12_method_4_code
def yX10_clearRules : MethodName := ⟨RX10, "clearRules", "()V"⟩
abbrev cX10_beginRule : ByteArray := prog_12_method_5_code
def yX10_beginRule : MethodName := ⟨RX10, "beginRule", "(I)V"⟩
abbrev cX10_addCode : ByteArray := prog_12_method_6_code
def yX10_addCode : MethodName := ⟨RX10, "addCode", "(I)V"⟩
abbrev cX10_endValue : ByteArray := prog_12_method_7_code
def yX10_endValue : MethodName := ⟨RX10, "endValue", "()V"⟩
abbrev cX10_endRule : ByteArray := prog_12_method_8_code
def yX10_endRule : MethodName := ⟨RX10, "endRule", "()V"⟩
abbrev cX10_firstThatHolds : ByteArray := prog_12_method_9_code
def yX10_firstThatHolds : MethodName := ⟨RX10, "firstThatHolds", "(I[I)I"⟩
abbrev cX10_valueOrElse : ByteArray := prog_12_method_10_code
def yX10_valueOrElse : MethodName := ⟨RX10, "valueOrElse", "(I[II)I"⟩
abbrev cX10_compute : ByteArray := prog_12_method_11_code
def yX10_compute : MethodName := ⟨RX10, "compute", "(II[I)I"⟩
abbrev cX10_worth : ByteArray := prog_12_method_12_code
def yX10_worth : MethodName := ⟨RX10, "worth", "(I[I)I"⟩
abbrev cX10_combine : ByteArray := prog_12_method_13_code
def yX10_combine : MethodName := ⟨RX10, "combine", "(III)I"⟩
def RX11 : String := "QuayClock"
def TX11 : u_T := fun k => match k with
  | 0 => ("QuayClock", "reader", "LQuayClock$Reader;", true)
  | 1 => ("QuayClock", "hall", "LQuayClock$Hall;", true)
  | 2 => ("QuayClock", "daySale", "LQuayClock$Sale;", true)
  | 3 => ("QuayClock", "trialSale", "LQuayClock$Sale;", true)
  | 4 => ("QuayClock", "loader", "LQuayClock$Loader;", true)
  | 5 => ("QuayClock", "lorries", "[LQuayClock$Lorry;", true)
  | 6 => ("QuayClock", "lorryCount", "I", false)
  | 7 => ("QuayClock", "dayNumber", "I", false)
  | _ => ("QuayClock", "saleWas", "Z", false)
def tyX11 : Nat → FieldType := fun k => match k with
  | 0 => .object "QuayClock$Reader"
  | 1 => .object "QuayClock$Hall"
  | 2 => .object "QuayClock$Sale"
  | 3 => .object "QuayClock$Sale"
  | 4 => .object "QuayClock$Loader"
  | 5 => .array (.object "QuayClock$Lorry")
  | 6 => .int
  | 7 => .int
  | _ => .boolean
abbrev wsX110 : List Cond := u_ws RX11 TX11 9
theorem nmX11 : ∀ a, a < 9 → ∀ b, b < 9 → a ≠ b → (TX11 a).2.1 ≠ (TX11 b).2.1 := by decide +kernel
theorem tyX11_ok : ∀ k, k < 9 → parseFieldDescriptor (TX11 k).2.2.1 = some (tyX11 k) := by decide +kernel
abbrev cX11_init : ByteArray := prog_1_method_1_code
def yX11_init : MethodName := ⟨RX11, "<init>", "()V"⟩
abbrev cX11_feed : ByteArray := prog_1_method_2_code
def yX11_feed : MethodName := ⟨RX11, "feed", "(IIIII)I"⟩
abbrev cX11_back : ByteArray := prog_1_method_3_code
def yX11_back : MethodName := ⟨RX11, "back", "(I)I"⟩
abbrev cX11_read : ByteArray := prog_1_method_4_code
def yX11_read : MethodName := ⟨RX11, "read", "(I)I"⟩
abbrev cX11_place : ByteArray := prog_1_method_5_code
def yX11_place : MethodName := ⟨RX11, "place", "()I"⟩
abbrev cX11_lot : ByteArray := prog_1_method_6_code
def yX11_lot : MethodName := ⟨RX11, "lot", "(IIIII)I"⟩
abbrev cX11_buyer : ByteArray := prog_1_method_7_code
def yX11_buyer : MethodName := ⟨RX11, "buyer", "(II)I"⟩
abbrev cX11_want : ByteArray := prog_1_method_8_code
def yX11_want : MethodName := ⟨RX11, "want", "(III)Z"⟩
abbrev cX11_lorry : ByteArray := prog_1_method_9_code
def yX11_lorry : MethodName := ⟨RX11, "lorry", "(III)I"⟩
abbrev cX11_sale : ByteArray := prog_1_method_10_code
def yX11_sale : MethodName := ⟨RX11, "sale", "()I"⟩
abbrev cX11_day : ByteArray := prog_1_method_11_code
def yX11_day : MethodName := ⟨RX11, "day", "()I"⟩
abbrev cX11_told : ByteArray := prog_1_method_12_code
def yX11_told : MethodName := ⟨RX11, "told", "(II)I"⟩
abbrev cX11_limit : ByteArray := prog_1_method_13_code
def yX11_limit : MethodName := ⟨RX11, "limit", "(II)I"⟩
abbrev cX11_rule : ByteArray := prog_1_method_14_code
def yX11_rule : MethodName := ⟨RX11, "rule", "(II)I"⟩
abbrev cX11_bought : ByteArray := prog_1_method_15_code
def yX11_bought : MethodName := ⟨RX11, "bought", "(II)I"⟩
abbrev cX11_last : ByteArray := prog_1_method_16_code
def yX11_last : MethodName := ⟨RX11, "last", "(I)I"⟩
abbrev cX11_gets : ByteArray := prog_1_method_17_code
def yX11_gets : MethodName := ⟨RX11, "gets", "(I)I"⟩
abbrev cX11_sum : ByteArray := prog_1_method_18_code
def yX11_sum : MethodName := ⟨RX11, "sum", "(I)I"⟩
abbrev cX11_without : ByteArray := prog_1_method_19_code
def yX11_without : MethodName := ⟨RX11, "without", "(I)I"⟩
abbrev cX11_load : ByteArray := prog_1_method_20_code
def yX11_load : MethodName := ⟨RX11, "load", "(II)I"⟩
abbrev cX11_stays : ByteArray := prog_1_method_21_code
def yX11_stays : MethodName := ⟨RX11, "stays", "(I)I"⟩
abbrev cX11_count : ByteArray := prog_1_method_22_code
def yX11_count : MethodName := ⟨RX11, "count", "(I)I"⟩
abbrev cX11_isBelow : ByteArray := prog_1_method_23_code
def yX11_isBelow : MethodName := ⟨RX11, "isBelow", "(II)Z"⟩
abbrev cX11_isWithin : ByteArray := prog_1_method_24_code
def yX11_isWithin : MethodName := ⟨RX11, "isWithin", "(III)Z"⟩
def RX12 : String := "QuayClockModel"
def TX12 : u_T := fun k => match k with
  | 0 => ("QuayClockModel", "thrown", "I", false)
  | 1 => ("QuayClockModel", "tape", "[B", true)
  | 2 => ("QuayClockModel", "taped", "I", false)
  | 3 => ("QuayClockModel", "text", "[B", true)
  | 4 => ("QuayClockModel", "size", "I", false)
  | 5 => ("QuayClockModel", "tKind", "[I", true)
  | 6 => ("QuayClockModel", "tPlace", "[I", true)
  | 7 => ("QuayClockModel", "tValue", "[I", true)
  | 8 => ("QuayClockModel", "tName", "[J", true)
  | 9 => ("QuayClockModel", "keys", "[J", true)
  | 10 => ("QuayClockModel", "tokens", "I", false)
  | 11 => ("QuayClockModel", "t", "I", false)
  | 12 => ("QuayClockModel", "open", "I", false)
  | 13 => ("QuayClockModel", "fault", "I", false)
  | 14 => ("QuayClockModel", "faultPlace", "I", false)
  | 15 => ("QuayClockModel", "worst", "I", false)
  | 16 => ("QuayClockModel", "worstPlace", "I", false)
  | 17 => ("QuayClockModel", "place", "I", false)
  | 18 => ("QuayClockModel", "live", "[I", true)
  | 19 => ("QuayClockModel", "side", "I", false)
  | 20 => ("QuayClockModel", "rules", "[I", true)
  | 21 => ("QuayClockModel", "ruleSort", "[I", true)
  | 22 => ("QuayClockModel", "ruleFrom", "[I", true)
  | 23 => ("QuayClockModel", "ruleTo", "[I", true)
  | 24 => ("QuayClockModel", "relFirst", "[I", true)
  | 25 => ("QuayClockModel", "relLast", "[I", true)
  | 26 => ("QuayClockModel", "relations", "[I", true)
  | 27 => ("QuayClockModel", "relSort", "[I", true)
  | 28 => ("QuayClockModel", "relLeft", "[I", true)
  | 29 => ("QuayClockModel", "relRight", "[I", true)
  | 30 => ("QuayClockModel", "relEnd", "[I", true)
  | 31 => ("QuayClockModel", "relOr", "[Z", true)
  | 32 => ("QuayClockModel", "codes", "I", false)
  | 33 => ("QuayClockModel", "code", "[I", true)
  | 34 => ("QuayClockModel", "codeInt", "[I", true)
  | 35 => ("QuayClockModel", "waits", "[I", true)
  | 36 => ("QuayClockModel", "waiting", "I", false)
  | 37 => ("QuayClockModel", "lots", "I", false)
  | 38 => ("QuayClockModel", "boat", "[I", true)
  | 39 => ("QuayClockModel", "kind", "[I", true)
  | 40 => ("QuayClockModel", "sizeOf", "[I", true)
  | 41 => ("QuayClockModel", "boxes", "[I", true)
  | 42 => ("QuayClockModel", "quality", "[I", true)
  | 43 => ("QuayClockModel", "buyers", "I", false)
  | 44 => ("QuayClockModel", "town", "[I", true)
  | 45 => ("QuayClockModel", "credit", "[I", true)
  | 46 => ("QuayClockModel", "wants", "[I", true)
  | 47 => ("QuayClockModel", "last", "[I", true)
  | 48 => ("QuayClockModel", "lorries", "I", false)
  | 49 => ("QuayClockModel", "lorryTown", "[I", true)
  | 50 => ("QuayClockModel", "lorryRoom", "[I", true)
  | 51 => ("QuayClockModel", "lorryLeaves", "[I", true)
  | 52 => ("QuayClockModel", "day", "I", false)
  | 53 => ("QuayClockModel", "wasSale", "Z", false)
  | 54 => ("QuayClockModel", "has", "[I", true)
  | 55 => ("QuayClockModel", "spent", "[I", true)
  | 56 => ("QuayClockModel", "hasLots", "[I", true)
  | 57 => ("QuayClockModel", "variables", "[I", true)
  | 58 => ("QuayClockModel", "pile", "[I", true)
  | 59 => ("QuayClockModel", "nowHas", "[I", true)
  | 60 => ("QuayClockModel", "nowSpent", "[I", true)
  | 61 => ("QuayClockModel", "clockLot", "[I", true)
  | 62 => ("QuayClockModel", "clockPrice", "[I", true)
  | 63 => ("QuayClockModel", "soldTo", "[I", true)
  | 64 => ("QuayClockModel", "soldFor", "[I", true)
  | 65 => ("QuayClockModel", "soldAt", "[I", true)
  | 66 => ("QuayClockModel", "soldBy", "[I", true)
  | 67 => ("QuayClockModel", "starts", "[I", true)
  | 68 => ("QuayClockModel", "leasts", "[I", true)
  | 69 => ("QuayClockModel", "hasStopped", "[Z", true)
  | 70 => ("QuayClockModel", "dayTo", "[I", true)
  | 71 => ("QuayClockModel", "dayFor", "[I", true)
  | 72 => ("QuayClockModel", "dayAt", "[I", true)
  | 73 => ("QuayClockModel", "dayBy", "[I", true)
  | 74 => ("QuayClockModel", "dayStart", "[I", true)
  | 75 => ("QuayClockModel", "dayLeast", "[I", true)
  | 76 => ("QuayClockModel", "getsOf", "[I", true)
  | 77 => ("QuayClockModel", "onLorry", "[I", true)
  | 78 => ("QuayClockModel", "good", "[I", true)
  | _ => ("QuayClockModel", "mayBe", "[Z", true)
def tyX12 : Nat → FieldType := fun k => match k with
  | 0 => .int
  | 1 => .array .byte
  | 2 => .int
  | 3 => .array .byte
  | 4 => .int
  | 5 => .array .int
  | 6 => .array .int
  | 7 => .array .int
  | 8 => .array .long
  | 9 => .array .long
  | 10 => .int
  | 11 => .int
  | 12 => .int
  | 13 => .int
  | 14 => .int
  | 15 => .int
  | 16 => .int
  | 17 => .int
  | 18 => .array .int
  | 19 => .int
  | 20 => .array .int
  | 21 => .array .int
  | 22 => .array .int
  | 23 => .array .int
  | 24 => .array .int
  | 25 => .array .int
  | 26 => .array .int
  | 27 => .array .int
  | 28 => .array .int
  | 29 => .array .int
  | 30 => .array .int
  | 31 => .array .boolean
  | 32 => .int
  | 33 => .array .int
  | 34 => .array .int
  | 35 => .array .int
  | 36 => .int
  | 37 => .int
  | 38 => .array .int
  | 39 => .array .int
  | 40 => .array .int
  | 41 => .array .int
  | 42 => .array .int
  | 43 => .int
  | 44 => .array .int
  | 45 => .array .int
  | 46 => .array .int
  | 47 => .array .int
  | 48 => .int
  | 49 => .array .int
  | 50 => .array .int
  | 51 => .array .int
  | 52 => .int
  | 53 => .boolean
  | 54 => .array .int
  | 55 => .array .int
  | 56 => .array .int
  | 57 => .array .int
  | 58 => .array .int
  | 59 => .array .int
  | 60 => .array .int
  | 61 => .array .int
  | 62 => .array .int
  | 63 => .array .int
  | 64 => .array .int
  | 65 => .array .int
  | 66 => .array .int
  | 67 => .array .int
  | 68 => .array .int
  | 69 => .array .boolean
  | 70 => .array .int
  | 71 => .array .int
  | 72 => .array .int
  | 73 => .array .int
  | 74 => .array .int
  | 75 => .array .int
  | 76 => .array .int
  | 77 => .array .int
  | 78 => .array .int
  | _ => .array .boolean
abbrev wsX120 : List Cond := u_ws RX12 TX12 80
theorem nmX12 : ∀ a, a < 80 → ∀ b, b < 80 → a ≠ b → (TX12 a).2.1 ≠ (TX12 b).2.1 := by decide +kernel
theorem tyX12_ok : ∀ k, k < 80 → parseFieldDescriptor (TX12 k).2.2.1 = some (tyX12 k) := by decide +kernel
abbrev cX12_init : ByteArray := prog_14_method_2_code
def yX12_init : MethodName := ⟨RX12, "<init>", "()V"⟩
abbrev cX12_feed : ByteArray := prog_14_method_3_code
def yX12_feed : MethodName := ⟨RX12, "feed", "(IIIII)I"⟩
abbrev cX12_put : ByteArray := prog_14_method_4_code
def yX12_put : MethodName := ⟨RX12, "put", "(I)V"⟩
abbrev cX12_back : ByteArray := prog_14_method_5_code
def yX12_back : MethodName := ⟨RX12, "back", "(I)I"⟩
abbrev cX12_at : ByteArray := prog_14_method_6_code
def yX12_at : MethodName := ⟨RX12, "at", "(I)I"⟩
abbrev cX12_isDigit : ByteArray := prog_14_method_7_code
def yX12_isDigit : MethodName := ⟨RX12, "isDigit", "(I)Z"⟩
abbrev cX12_isLetter : ByteArray := prog_14_method_8_code
def yX12_isLetter : MethodName := ⟨RX12, "isLetter", "(I)Z"⟩
abbrev cX12_more : ByteArray := prog_14_method_9_code
def yX12_more : MethodName := ⟨RX12, "more", "(JI)J"⟩
abbrev cX12_word : ByteArray := prog_14_method_10_code
def yX12_word : MethodName := ⟨RX12, "word", "(IIIIIII)J"⟩
abbrev cX12_token : ByteArray := prog_14_method_11_code
def yX12_token : MethodName := ⟨RX12, "token", "(IIIJ)V"⟩
abbrev cX12_cut : ByteArray := prog_14_method_12_code
def yX12_cut : MethodName := ⟨RX12, "cut", "()V"⟩
abbrev cX12_sign : ByteArray := prog_14_method_13_code
def yX12_sign : MethodName := ⟨RX12, "sign", "(III)I"⟩
abbrev cX12_is : ByteArray := prog_14_method_14_code
def yX12_is : MethodName := ⟨RX12, "is", "(I)Z"⟩
abbrev cX12_fail : ByteArray := prog_14_method_15_code
def yX12_fail : MethodName := ⟨RX12, "fail", "(I)V"⟩
abbrev cX12_next : ByteArray := prog_14_method_17_code
def yX12_next : MethodName := ⟨RX12, "next", "()V"⟩
abbrev cX12_must : ByteArray := prog_14_method_18_code
def yX12_must : MethodName := ⟨RX12, "must", "(I)V"⟩
abbrev cX12_read : ByteArray := prog_14_method_19_code
def yX12_read : MethodName := ⟨RX12, "read", "(I)I"⟩
abbrev cX12_place : ByteArray := prog_14_method_20_code
def yX12_place : MethodName := ⟨RX12, "place", "()I"⟩
abbrev cX12_tellRule : ByteArray := prog_14_method_21_code
def yX12_tellRule : MethodName := ⟨RX12, "tellRule", "()V"⟩
abbrev cX12_relation : ByteArray := prog_14_method_22_code
def yX12_relation : MethodName := ⟨RX12, "relation", "(Z)V"⟩
abbrev cX12_emit : ByteArray := prog_14_method_23_code
def yX12_emit : MethodName := ⟨RX12, "emit", "(II)V"⟩
abbrev cX12_comesOut : ByteArray := prog_14_method_24_code
def yX12_comesOut : MethodName := ⟨RX12, "comesOut", "(Z)V"⟩
abbrev cX12_expression : ByteArray := prog_14_method_25_code
def yX12_expression : MethodName := ⟨RX12, "expression", "()V"⟩
abbrev cX12_isBuyer : ByteArray := prog_14_method_26_code
def yX12_isBuyer : MethodName := ⟨RX12, "isBuyer", "(I)Z"⟩
abbrev cX12_isLot : ByteArray := prog_14_method_27_code
def yX12_isLot : MethodName := ⟨RX12, "isLot", "(I)Z"⟩
abbrev cX12_isKind : ByteArray := prog_14_method_28_code
def yX12_isKind : MethodName := ⟨RX12, "isKind", "(I)Z"⟩
abbrev cX12_lot : ByteArray := prog_14_method_29_code
def yX12_lot : MethodName := ⟨RX12, "lot", "(IIIII)I"⟩
abbrev cX12_buyer : ByteArray := prog_14_method_30_code
def yX12_buyer : MethodName := ⟨RX12, "buyer", "(II)I"⟩
abbrev cX12_want : ByteArray := prog_14_method_31_code
def yX12_want : MethodName := ⟨RX12, "want", "(III)Z"⟩
abbrev cX12_lorry : ByteArray := prog_14_method_32_code
def yX12_lorry : MethodName := ⟨RX12, "lorry", "(III)I"⟩
abbrev cX12_left : ByteArray := prog_14_method_33_code
def yX12_left : MethodName := ⟨RX12, "left", "(II)I"⟩
abbrev cX12_asks : ByteArray := prog_14_method_34_code
def yX12_asks : MethodName := ⟨RX12, "asks", "(II)V"⟩
abbrev cX12_value : ByteArray := prog_14_method_35_code
def yX12_value : MethodName := ⟨RX12, "value", "(II)I"⟩
abbrev cX12_holds : ByteArray := prog_14_method_36_code
def yX12_holds : MethodName := ⟨RX12, "holds", "(II)Z"⟩
abbrev cX12_ruleOf : ByteArray := prog_14_method_37_code
def yX12_ruleOf : MethodName := ⟨RX12, "ruleOf", "(II)I"⟩
abbrev cX12_termOf : ByteArray := prog_14_method_38_code
def yX12_termOf : MethodName := ⟨RX12, "termOf", "(II)I"⟩
abbrev cX12_held : ByteArray := prog_14_method_39_code
def yX12_held : MethodName := ⟨RX12, "held", "(III)I"⟩
abbrev cX12_startOf : ByteArray := prog_14_method_40_code
def yX12_startOf : MethodName := ⟨RX12, "startOf", "(I)I"⟩
abbrev cX12_leastOf : ByteArray := prog_14_method_41_code
def yX12_leastOf : MethodName := ⟨RX12, "leastOf", "(II)I"⟩
abbrev cX12_limitOf : ByteArray := prog_14_method_42_code
def yX12_limitOf : MethodName := ⟨RX12, "limitOf", "(II)I"⟩
abbrev cX12_goes : ByteArray := prog_14_method_43_code
def yX12_goes : MethodName := ⟨RX12, "goes", "(I)I"⟩
abbrev cX12_stops : ByteArray := prog_14_method_44_code
def yX12_stops : MethodName := ⟨RX12, "stops", "(II)Z"⟩
abbrev cX12_sale : ByteArray := prog_14_method_45_code
def yX12_sale : MethodName := ⟨RX12, "sale", "()I"⟩
abbrev cX12_brings : ByteArray := prog_14_method_46_code
def yX12_brings : MethodName := ⟨RX12, "brings", "(I)I"⟩
abbrev cX12_day : ByteArray := prog_14_method_47_code
def yX12_day : MethodName := ⟨RX12, "day", "()I"⟩
abbrev cX12_loads : ByteArray := prog_14_method_48_code
def yX12_loads : MethodName := ⟨RX12, "loads", "()V"⟩
abbrev cX12_told : ByteArray := prog_14_method_49_code
def yX12_told : MethodName := ⟨RX12, "told", "(II)I"⟩
abbrev cX12_stands : ByteArray := prog_14_method_50_code
def yX12_stands : MethodName := ⟨RX12, "stands", "()V"⟩
abbrev cX12_limit : ByteArray := prog_14_method_51_code
def yX12_limit : MethodName := ⟨RX12, "limit", "(II)I"⟩
abbrev cX12_rule : ByteArray := prog_14_method_52_code
def yX12_rule : MethodName := ⟨RX12, "rule", "(II)I"⟩
abbrev cX12_bought : ByteArray := prog_14_method_53_code
def yX12_bought : MethodName := ⟨RX12, "bought", "(II)I"⟩
abbrev cX12_last : ByteArray := prog_14_method_54_code
def yX12_last : MethodName := ⟨RX12, "last", "(I)I"⟩
abbrev cX12_gets : ByteArray := prog_14_method_55_code
def yX12_gets : MethodName := ⟨RX12, "gets", "(I)I"⟩
abbrev cX12_sum : ByteArray := prog_14_method_56_code
def yX12_sum : MethodName := ⟨RX12, "sum", "(I)I"⟩
abbrev cX12_without : ByteArray := prog_14_method_57_code
def yX12_without : MethodName := ⟨RX12, "without", "(I)I"⟩
abbrev cX12_load : ByteArray := prog_14_method_58_code
def yX12_load : MethodName := ⟨RX12, "load", "(II)I"⟩
abbrev cX12_stays : ByteArray := prog_14_method_59_code
def yX12_stays : MethodName := ⟨RX12, "stays", "(I)I"⟩
abbrev cX12_count : ByteArray := prog_14_method_60_code
def yX12_count : MethodName := ⟨RX12, "count", "(I)I"⟩
def RJ9 : String := "java/lang/Math"
abbrev cJ9_max_7cf53 : ByteArray := prog_15_method_65_code
def yJ9_max_7cf53 : MethodName := ⟨RJ9, "max", "(II)I"⟩
abbrev cJ9_min_7cf53 : ByteArray := prog_15_method_69_code
def yJ9_min_7cf53 : MethodName := ⟨RJ9, "min", "(II)I"⟩
def RJ0 : String := "java/lang/String"
abbrev cJ0_length_8abf5 : ByteArray := prog_16_method_54_code
def yJ0_length_8abf5 : MethodName := ⟨RJ0, "length", "()I"⟩
abbrev cJ0_charAt_5068e : ByteArray := prog_16_method_56_code
def yJ0_charAt_5068e : MethodName := ⟨RJ0, "charAt", "(I)C"⟩
abbrev cJ0_coder_7d493 : ByteArray := prog_16_method_152_code
def yJ0_coder_7d493 : MethodName := ⟨RJ0, "coder", "()B"⟩
abbrev cJ0_isLatin1_aae02 : ByteArray := prog_16_method_154_code
def yJ0_isLatin1_aae02 : MethodName := ⟨RJ0, "isLatin1", "()Z"⟩
abbrev cJ0_checkIndex_df160 : ByteArray := prog_16_method_155_code
def yJ0_checkIndex_df160 : MethodName := ⟨RJ0, "checkIndex", "(II)V"⟩
def RJ1 : String := "java/lang/StringLatin1"
abbrev cJ1_charAt_3b067 : ByteArray := prog_17_method_2_code
def yJ1_charAt_3b067 : MethodName := ⟨RJ1, "charAt", "([BI)C"⟩
def RJ2 : String := "java/lang/StringUTF16"
abbrev cJ2_getChar_3b067 : ByteArray := prog_18_method_5_code
def yJ2_getChar_3b067 : MethodName := ⟨RJ2, "getChar", "([BI)C"⟩
abbrev cJ2_length_9d52b : ByteArray := prog_18_method_6_code
def yJ2_length_9d52b : MethodName := ⟨RJ2, "length", "([B)I"⟩
abbrev cJ2_charAt_3b067 : ByteArray := prog_18_method_83_code
def yJ2_charAt_3b067 : MethodName := ⟨RJ2, "charAt", "([BI)C"⟩
abbrev cJ2_checkIndex_2214a : ByteArray := prog_18_method_91_code
def yJ2_checkIndex_2214a : MethodName := ⟨RJ2, "checkIndex", "(I[B)V"⟩
def RJ3 : String := "jdk/internal/util/Preconditions"
abbrev cJ3_checkIndex_8e157 : ByteArray := prog_19_method_11_code
def yJ3_checkIndex_8e157 : MethodName := ⟨RJ3, "checkIndex", "(IILjava/util/function/BiFunction;)I"⟩
def RL : String := "QuayClockLaw"
abbrev cL_law : ByteArray := code
def yL_law : MethodName := ⟨RL, "law", "([I)Z"⟩
abbrev vwCl : List vw_C := [(RX0, TX0, 4), (RX1, TX1, 5), (RX2, TX2, 7), (RX3, TX3, 4), (RX4, TX4, 6), (RX5, TX5, 5), (RX6, TX6, 8), (RX7, TX7, 5), (RX8, TX8, 12), (RX9, TX9, 9), (RX10, TX10, 8), (RX11, TX11, 9), (RX12, TX12, 80)]
