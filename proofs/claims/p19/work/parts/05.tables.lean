/-- a private method of a class that the tables say can be made, by its rows of tables_1 -/
def lw_okq (q : MethodName × Nat) : Prop := (q.1.cls ≠ "java/lang/invoke/MethodHandle" ∧ q.1.cls ≠ "java/lang/invoke/VarHandle") ∧ Cond.instantiable q.1.cls q.2 ∈ tables_1 ∧ Cond.privateMethod q.1 ∈ tables_1 ∧ Cond.instanceMethod q.1 ∈ tables_1
theorem lw_p0 : lw_okq (⟨"SuretyRoll$Reader", "readToken", "()V"⟩, 6) := ⟨⟨by decide +kernel, by decide +kernel⟩, List.mem_of_getElem? (i := 48) (by decide +kernel), List.mem_of_getElem? (i := 414) (by decide +kernel), List.mem_of_getElem? (i := 415) (by decide +kernel)⟩
theorem lw_p1 : lw_okq (⟨"SuretyRoll$Reader", "readWord", "()V"⟩, 6) := ⟨⟨by decide +kernel, by decide +kernel⟩, List.mem_of_getElem? (i := 48) (by decide +kernel), List.mem_of_getElem? (i := 421) (by decide +kernel), List.mem_of_getElem? (i := 422) (by decide +kernel)⟩
theorem lw_p2 : lw_okq (⟨"SuretyRoll$Reader", "spells", "(Ljava/lang/String;)Z"⟩, 6) := ⟨⟨by decide +kernel, by decide +kernel⟩, List.mem_of_getElem? (i := 48) (by decide +kernel), List.mem_of_getElem? (i := 426) (by decide +kernel), List.mem_of_getElem? (i := 427) (by decide +kernel)⟩
theorem lw_p3 : lw_okq (⟨"SuretyRoll$Reader", "readNumber", "()V"⟩, 6) := ⟨⟨by decide +kernel, by decide +kernel⟩, List.mem_of_getElem? (i := 48) (by decide +kernel), List.mem_of_getElem? (i := 486) (by decide +kernel), List.mem_of_getElem? (i := 487) (by decide +kernel)⟩
theorem lw_p4 : lw_okq (⟨"SuretyRoll$Reader", "tokenOfOneByte", "(I)I"⟩, 6) := ⟨⟨by decide +kernel, by decide +kernel⟩, List.mem_of_getElem? (i := 48) (by decide +kernel), List.mem_of_getElem? (i := 490) (by decide +kernel), List.mem_of_getElem? (i := 491) (by decide +kernel)⟩
theorem lw_p5 : lw_okq (⟨"SuretyRoll$Reader", "readDebt", "()Z"⟩, 6) := ⟨⟨by decide +kernel, by decide +kernel⟩, List.mem_of_getElem? (i := 48) (by decide +kernel), List.mem_of_getElem? (i := 494) (by decide +kernel), List.mem_of_getElem? (i := 495) (by decide +kernel)⟩
theorem lw_p6 : lw_okq (⟨"SuretyRoll$Reader", "nextIs", "(I)Z"⟩, 6) := ⟨⟨by decide +kernel, by decide +kernel⟩, List.mem_of_getElem? (i := 48) (by decide +kernel), List.mem_of_getElem? (i := 498) (by decide +kernel), List.mem_of_getElem? (i := 499) (by decide +kernel)⟩
theorem lw_p7 : lw_okq (⟨"SuretyRoll$Reader", "nextIsNumber", "(II)Z"⟩, 6) := ⟨⟨by decide +kernel, by decide +kernel⟩, List.mem_of_getElem? (i := 48) (by decide +kernel), List.mem_of_getElem? (i := 502) (by decide +kernel), List.mem_of_getElem? (i := 503) (by decide +kernel)⟩
theorem lw_p8 : lw_okq (⟨"SuretyRoll$Reader", "readStand", "()Z"⟩, 6) := ⟨⟨by decide +kernel, by decide +kernel⟩, List.mem_of_getElem? (i := 48) (by decide +kernel), List.mem_of_getElem? (i := 510) (by decide +kernel), List.mem_of_getElem? (i := 511) (by decide +kernel)⟩
theorem lw_p9 : lw_okq (⟨"SuretyRoll$Reader", "mannerOfToken", "()I"⟩, 6) := ⟨⟨by decide +kernel, by decide +kernel⟩, List.mem_of_getElem? (i := 48) (by decide +kernel), List.mem_of_getElem? (i := 514) (by decide +kernel), List.mem_of_getElem? (i := 515) (by decide +kernel)⟩
theorem lw_p10 : lw_okq (⟨"SuretyRoll$Reader", "readOver", "()Z"⟩, 6) := ⟨⟨by decide +kernel, by decide +kernel⟩, List.mem_of_getElem? (i := 48) (by decide +kernel), List.mem_of_getElem? (i := 525) (by decide +kernel), List.mem_of_getElem? (i := 526) (by decide +kernel)⟩
theorem lw_p11 : lw_okq (⟨"SuretyRoll", "valueOf", "(II)I"⟩, 11) := ⟨⟨by decide +kernel, by decide +kernel⟩, List.mem_of_getElem? (i := 23) (by decide +kernel), List.mem_of_getElem? (i := 587) (by decide +kernel), List.mem_of_getElem? (i := 588) (by decide +kernel)⟩
theorem lw_p12 : lw_okq (⟨"SuretyRoll", "isPayable", "(II)Z"⟩, 11) := ⟨⟨by decide +kernel, by decide +kernel⟩, List.mem_of_getElem? (i := 23) (by decide +kernel), List.mem_of_getElem? (i := 610) (by decide +kernel), List.mem_of_getElem? (i := 611) (by decide +kernel)⟩
theorem lw_p13 : lw_okq (⟨"SuretyRoll$Book", "askOfOver", "(II)I"⟩, 3) := ⟨⟨by decide +kernel, by decide +kernel⟩, List.mem_of_getElem? (i := 73) (by decide +kernel), List.mem_of_getElem? (i := 622) (by decide +kernel), List.mem_of_getElem? (i := 623) (by decide +kernel)⟩
theorem lw_p14 : lw_okq (⟨"SuretyRoll$Book", "allAheadFell", "(I)Z"⟩, 3) := ⟨⟨by decide +kernel, by decide +kernel⟩, List.mem_of_getElem? (i := 73) (by decide +kernel), List.mem_of_getElem? (i := 634) (by decide +kernel), List.mem_of_getElem? (i := 635) (by decide +kernel)⟩
theorem lw_p15 : lw_okq (⟨"SuretyRoll$Dealing", "moveCoins", "(IIII)Z"⟩, 1) := ⟨⟨by decide +kernel, by decide +kernel⟩, List.mem_of_getElem? (i := 249) (by decide +kernel), List.mem_of_getElem? (i := 652) (by decide +kernel), List.mem_of_getElem? (i := 653) (by decide +kernel)⟩
def lw_privs_1 : List (MethodName × Nat) := [(⟨"SuretyRoll$Reader", "readToken", "()V"⟩, 6), (⟨"SuretyRoll$Reader", "readWord", "()V"⟩, 6), (⟨"SuretyRoll$Reader", "spells", "(Ljava/lang/String;)Z"⟩, 6), (⟨"SuretyRoll$Reader", "readNumber", "()V"⟩, 6), (⟨"SuretyRoll$Reader", "tokenOfOneByte", "(I)I"⟩, 6), (⟨"SuretyRoll$Reader", "readDebt", "()Z"⟩, 6), (⟨"SuretyRoll$Reader", "nextIs", "(I)Z"⟩, 6), (⟨"SuretyRoll$Reader", "nextIsNumber", "(II)Z"⟩, 6), (⟨"SuretyRoll$Reader", "readStand", "()Z"⟩, 6), (⟨"SuretyRoll$Reader", "mannerOfToken", "()I"⟩, 6), (⟨"SuretyRoll$Reader", "readOver", "()Z"⟩, 6), (⟨"SuretyRoll", "valueOf", "(II)I"⟩, 11), (⟨"SuretyRoll", "isPayable", "(II)Z"⟩, 11), (⟨"SuretyRoll$Book", "askOfOver", "(II)I"⟩, 3), (⟨"SuretyRoll$Book", "allAheadFell", "(I)Z"⟩, 3), (⟨"SuretyRoll$Dealing", "moveCoins", "(IIII)Z"⟩, 1)]
theorem lw_r1 : ∀ q ∈ lw_privs_1, lw_okq q := List.forall_mem_cons.mpr ⟨lw_p0, List.forall_mem_cons.mpr ⟨lw_p1, List.forall_mem_cons.mpr ⟨lw_p2, List.forall_mem_cons.mpr ⟨lw_p3, List.forall_mem_cons.mpr ⟨lw_p4, List.forall_mem_cons.mpr ⟨lw_p5, List.forall_mem_cons.mpr ⟨lw_p6, List.forall_mem_cons.mpr ⟨lw_p7, List.forall_mem_cons.mpr ⟨lw_p8, List.forall_mem_cons.mpr ⟨lw_p9, List.forall_mem_cons.mpr ⟨lw_p10, List.forall_mem_cons.mpr ⟨lw_p11, List.forall_mem_cons.mpr ⟨lw_p12, List.forall_mem_cons.mpr ⟨lw_p13, List.forall_mem_cons.mpr ⟨lw_p14, List.forall_mem_cons.mpr ⟨lw_p15, fun _ h => absurd h List.not_mem_nil⟩⟩⟩⟩⟩⟩⟩⟩⟩⟩⟩⟩⟩⟩⟩⟩
theorem lw_p16 : lw_okq (⟨"SuretyRoll$Dealing", "addBacks", "(II)V"⟩, 1) := ⟨⟨by decide +kernel, by decide +kernel⟩, List.mem_of_getElem? (i := 249) (by decide +kernel), List.mem_of_getElem? (i := 656) (by decide +kernel), List.mem_of_getElem? (i := 657) (by decide +kernel)⟩
theorem lw_p17 : lw_okq (⟨"SuretyRoll$Dealing", "addBack", "(III)V"⟩, 1) := ⟨⟨by decide +kernel, by decide +kernel⟩, List.mem_of_getElem? (i := 249) (by decide +kernel), List.mem_of_getElem? (i := 661) (by decide +kernel), List.mem_of_getElem? (i := 662) (by decide +kernel)⟩
theorem lw_p18 : lw_okq (⟨"SuretyRoll$Dealing", "shareBack", "(III)V"⟩, 1) := ⟨⟨by decide +kernel, by decide +kernel⟩, List.mem_of_getElem? (i := 249) (by decide +kernel), List.mem_of_getElem? (i := 666) (by decide +kernel), List.mem_of_getElem? (i := 667) (by decide +kernel)⟩
theorem lw_p19 : lw_okq (⟨"SuretyRoll$Dealing", "sharersOf", "(I)I"⟩, 1) := ⟨⟨by decide +kernel, by decide +kernel⟩, List.mem_of_getElem? (i := 249) (by decide +kernel), List.mem_of_getElem? (i := 670) (by decide +kernel), List.mem_of_getElem? (i := 671) (by decide +kernel)⟩
theorem lw_p20 : lw_okq (⟨"SuretyRoll$Dealing", "standingWhole", "(I)I"⟩, 1) := ⟨⟨by decide +kernel, by decide +kernel⟩, List.mem_of_getElem? (i := 249) (by decide +kernel), List.mem_of_getElem? (i := 703) (by decide +kernel), List.mem_of_getElem? (i := 704) (by decide +kernel)⟩
theorem lw_p21 : lw_okq (⟨"SuretyRoll$Falling", "oneAhead", "(I)I"⟩, 2) := ⟨⟨by decide +kernel, by decide +kernel⟩, List.mem_of_getElem? (i := 259) (by decide +kernel), List.mem_of_getElem? (i := 723) (by decide +kernel), List.mem_of_getElem? (i := 724) (by decide +kernel)⟩
theorem lw_p22 : lw_okq (⟨"SuretyRoll$Rounds", "payInFull", "()V"⟩, 8) := ⟨⟨by decide +kernel, by decide +kernel⟩, List.mem_of_getElem? (i := 273) (by decide +kernel), List.mem_of_getElem? (i := 772) (by decide +kernel), List.mem_of_getElem? (i := 773) (by decide +kernel)⟩
theorem lw_p23 : lw_okq (⟨"SuretyRoll$Rounds", "payRound", "(I)V"⟩, 8) := ⟨⟨by decide +kernel, by decide +kernel⟩, List.mem_of_getElem? (i := 273) (by decide +kernel), List.mem_of_getElem? (i := 778) (by decide +kernel), List.mem_of_getElem? (i := 779) (by decide +kernel)⟩
theorem lw_p24 : lw_okq (⟨"SuretyRoll$Rounds", "findDues", "(I)V"⟩, 8) := ⟨⟨by decide +kernel, by decide +kernel⟩, List.mem_of_getElem? (i := 273) (by decide +kernel), List.mem_of_getElem? (i := 782) (by decide +kernel), List.mem_of_getElem? (i := 783) (by decide +kernel)⟩
theorem lw_p25 : lw_okq (⟨"SuretyRoll$Rounds", "findMeans", "(I)V"⟩, 8) := ⟨⟨by decide +kernel, by decide +kernel⟩, List.mem_of_getElem? (i := 273) (by decide +kernel), List.mem_of_getElem? (i := 791) (by decide +kernel), List.mem_of_getElem? (i := 792) (by decide +kernel)⟩
theorem lw_p26 : lw_okq (⟨"SuretyRoll$Rounds", "paymentOf", "(I)I"⟩, 8) := ⟨⟨by decide +kernel, by decide +kernel⟩, List.mem_of_getElem? (i := 273) (by decide +kernel), List.mem_of_getElem? (i := 796) (by decide +kernel), List.mem_of_getElem? (i := 797) (by decide +kernel)⟩
theorem lw_p27 : lw_okq (⟨"SuretyRoll$Rounds", "roundLike", "(I)I"⟩, 8) := ⟨⟨by decide +kernel, by decide +kernel⟩, List.mem_of_getElem? (i := 273) (by decide +kernel), List.mem_of_getElem? (i := 800) (by decide +kernel), List.mem_of_getElem? (i := 801) (by decide +kernel)⟩
theorem lw_p28 : lw_okq (⟨"SuretyRoll$Rounds", "paysSame", "(II)Z"⟩, 8) := ⟨⟨by decide +kernel, by decide +kernel⟩, List.mem_of_getElem? (i := 273) (by decide +kernel), List.mem_of_getElem? (i := 804) (by decide +kernel), List.mem_of_getElem? (i := 805) (by decide +kernel)⟩
theorem lw_p29 : lw_okq (⟨"SuretyRoll$Chances", "findGreatest", "(I)V"⟩, 3) := ⟨⟨by decide +kernel, by decide +kernel⟩, List.mem_of_getElem? (i := 306) (by decide +kernel), List.mem_of_getElem? (i := 842) (by decide +kernel), List.mem_of_getElem? (i := 843) (by decide +kernel)⟩
theorem lw_p30 : lw_okq (⟨"SuretyRoll$Chances", "isPaidWhole", "(II)Z"⟩, 3) := ⟨⟨by decide +kernel, by decide +kernel⟩, List.mem_of_getElem? (i := 306) (by decide +kernel), List.mem_of_getElem? (i := 849) (by decide +kernel), List.mem_of_getElem? (i := 850) (by decide +kernel)⟩
theorem lw_p31 : lw_okq (⟨"SuretyRoll$Chances", "weightOf", "(I)I"⟩, 3) := ⟨⟨by decide +kernel, by decide +kernel⟩, List.mem_of_getElem? (i := 306) (by decide +kernel), List.mem_of_getElem? (i := 855) (by decide +kernel), List.mem_of_getElem? (i := 856) (by decide +kernel)⟩
def lw_privs_2 : List (MethodName × Nat) := [(⟨"SuretyRoll$Dealing", "addBacks", "(II)V"⟩, 1), (⟨"SuretyRoll$Dealing", "addBack", "(III)V"⟩, 1), (⟨"SuretyRoll$Dealing", "shareBack", "(III)V"⟩, 1), (⟨"SuretyRoll$Dealing", "sharersOf", "(I)I"⟩, 1), (⟨"SuretyRoll$Dealing", "standingWhole", "(I)I"⟩, 1), (⟨"SuretyRoll$Falling", "oneAhead", "(I)I"⟩, 2), (⟨"SuretyRoll$Rounds", "payInFull", "()V"⟩, 8), (⟨"SuretyRoll$Rounds", "payRound", "(I)V"⟩, 8), (⟨"SuretyRoll$Rounds", "findDues", "(I)V"⟩, 8), (⟨"SuretyRoll$Rounds", "findMeans", "(I)V"⟩, 8), (⟨"SuretyRoll$Rounds", "paymentOf", "(I)I"⟩, 8), (⟨"SuretyRoll$Rounds", "roundLike", "(I)I"⟩, 8), (⟨"SuretyRoll$Rounds", "paysSame", "(II)Z"⟩, 8), (⟨"SuretyRoll$Chances", "findGreatest", "(I)V"⟩, 3), (⟨"SuretyRoll$Chances", "isPaidWhole", "(II)Z"⟩, 3), (⟨"SuretyRoll$Chances", "weightOf", "(I)I"⟩, 3)]
theorem lw_r2 : ∀ q ∈ lw_privs_2, lw_okq q := List.forall_mem_cons.mpr ⟨lw_p16, List.forall_mem_cons.mpr ⟨lw_p17, List.forall_mem_cons.mpr ⟨lw_p18, List.forall_mem_cons.mpr ⟨lw_p19, List.forall_mem_cons.mpr ⟨lw_p20, List.forall_mem_cons.mpr ⟨lw_p21, List.forall_mem_cons.mpr ⟨lw_p22, List.forall_mem_cons.mpr ⟨lw_p23, List.forall_mem_cons.mpr ⟨lw_p24, List.forall_mem_cons.mpr ⟨lw_p25, List.forall_mem_cons.mpr ⟨lw_p26, List.forall_mem_cons.mpr ⟨lw_p27, List.forall_mem_cons.mpr ⟨lw_p28, List.forall_mem_cons.mpr ⟨lw_p29, List.forall_mem_cons.mpr ⟨lw_p30, List.forall_mem_cons.mpr ⟨lw_p31, fun _ h => absurd h List.not_mem_nil⟩⟩⟩⟩⟩⟩⟩⟩⟩⟩⟩⟩⟩⟩⟩⟩
theorem lw_p32 : lw_okq (⟨"SuretyRoll$Netting", "findSums", "()V"⟩, 3) := ⟨⟨by decide +kernel, by decide +kernel⟩, List.mem_of_getElem? (i := 323) (by decide +kernel), List.mem_of_getElem? (i := 867) (by decide +kernel), List.mem_of_getElem? (i := 868) (by decide +kernel)⟩
theorem lw_p33 : lw_okq (⟨"SuretyRoll$Netting", "mostGroupsIn", "(I)I"⟩, 3) := ⟨⟨by decide +kernel, by decide +kernel⟩, List.mem_of_getElem? (i := 323) (by decide +kernel), List.mem_of_getElem? (i := 876) (by decide +kernel), List.mem_of_getElem? (i := 877) (by decide +kernel)⟩
theorem lw_p34 : lw_okq (⟨"SuretyRoll$Kinds", "askBody", "(III)I"⟩, 2) := ⟨⟨by decide +kernel, by decide +kernel⟩, List.mem_of_getElem? (i := 339) (by decide +kernel), List.mem_of_getElem? (i := 894) (by decide +kernel), List.mem_of_getElem? (i := 895) (by decide +kernel)⟩
theorem lw_p35 : lw_okq (⟨"SuretyRollModel", "advances", "()V"⟩, 24) := ⟨⟨by decide +kernel, by decide +kernel⟩, List.mem_of_getElem? (i := 938) (by decide +kernel), List.mem_of_getElem? (i := 1034) (by decide +kernel), List.mem_of_getElem? (i := 1035) (by decide +kernel)⟩
theorem lw_p36 : lw_okq (⟨"SuretyRollModel", "byteAt", "(I)I"⟩, 24) := ⟨⟨by decide +kernel, by decide +kernel⟩, List.mem_of_getElem? (i := 938) (by decide +kernel), List.mem_of_getElem? (i := 1038) (by decide +kernel), List.mem_of_getElem? (i := 1039) (by decide +kernel)⟩
theorem lw_p37 : lw_okq (⟨"SuretyRollModel", "isWell", "()Z"⟩, 24) := ⟨⟨by decide +kernel, by decide +kernel⟩, List.mem_of_getElem? (i := 938) (by decide +kernel), List.mem_of_getElem? (i := 1052) (by decide +kernel), List.mem_of_getElem? (i := 1053) (by decide +kernel)⟩
theorem lw_p38 : lw_okq (⟨"SuretyRollModel", "takes", "(Z)I"⟩, 24) := ⟨⟨by decide +kernel, by decide +kernel⟩, List.mem_of_getElem? (i := 938) (by decide +kernel), List.mem_of_getElem? (i := 1056) (by decide +kernel), List.mem_of_getElem? (i := 1057) (by decide +kernel)⟩
theorem lw_p39 : lw_okq (⟨"SuretyRollModel", "readsDebt", "()V"⟩, 24) := ⟨⟨by decide +kernel, by decide +kernel⟩, List.mem_of_getElem? (i := 938) (by decide +kernel), List.mem_of_getElem? (i := 1060) (by decide +kernel), List.mem_of_getElem? (i := 1061) (by decide +kernel)⟩
theorem lw_p40 : lw_okq (⟨"SuretyRollModel", "number", "(II)I"⟩, 24) := ⟨⟨by decide +kernel, by decide +kernel⟩, List.mem_of_getElem? (i := 938) (by decide +kernel), List.mem_of_getElem? (i := 1064) (by decide +kernel), List.mem_of_getElem? (i := 1065) (by decide +kernel)⟩
theorem lw_p41 : lw_okq (⟨"SuretyRollModel", "readsStand", "()V"⟩, 24) := ⟨⟨by decide +kernel, by decide +kernel⟩, List.mem_of_getElem? (i := 938) (by decide +kernel), List.mem_of_getElem? (i := 1068) (by decide +kernel), List.mem_of_getElem? (i := 1069) (by decide +kernel)⟩
theorem lw_p42 : lw_okq (⟨"SuretyRollModel", "readsOver", "()V"⟩, 24) := ⟨⟨by decide +kernel, by decide +kernel⟩, List.mem_of_getElem? (i := 938) (by decide +kernel), List.mem_of_getElem? (i := 1075) (by decide +kernel), List.mem_of_getElem? (i := 1076) (by decide +kernel)⟩
theorem lw_p43 : lw_okq (⟨"SuretyRollModel", "isDebt", "(I)Z"⟩, 24) := ⟨⟨by decide +kernel, by decide +kernel⟩, List.mem_of_getElem? (i := 938) (by decide +kernel), List.mem_of_getElem? (i := 1083) (by decide +kernel), List.mem_of_getElem? (i := 1084) (by decide +kernel)⟩
theorem lw_p44 : lw_okq (⟨"SuretyRollModel", "rest", "(I)I"⟩, 24) := ⟨⟨by decide +kernel, by decide +kernel⟩, List.mem_of_getElem? (i := 938) (by decide +kernel), List.mem_of_getElem? (i := 1087) (by decide +kernel), List.mem_of_getElem? (i := 1088) (by decide +kernel)⟩
theorem lw_p45 : lw_okq (⟨"SuretyRollModel", "isStand", "(I)Z"⟩, 24) := ⟨⟨by decide +kernel, by decide +kernel⟩, List.mem_of_getElem? (i := 938) (by decide +kernel), List.mem_of_getElem? (i := 1095) (by decide +kernel), List.mem_of_getElem? (i := 1096) (by decide +kernel)⟩
theorem lw_p46 : lw_okq (⟨"SuretyRollModel", "left", "(I)I"⟩, 24) := ⟨⟨by decide +kernel, by decide +kernel⟩, List.mem_of_getElem? (i := 938) (by decide +kernel), List.mem_of_getElem? (i := 1099) (by decide +kernel), List.mem_of_getElem? (i := 1100) (by decide +kernel)⟩
theorem lw_p47 : lw_okq (⟨"SuretyRollModel", "isFallen", "(I)Z"⟩, 24) := ⟨⟨by decide +kernel, by decide +kernel⟩, List.mem_of_getElem? (i := 938) (by decide +kernel), List.mem_of_getElem? (i := 1110) (by decide +kernel), List.mem_of_getElem? (i := 1111) (by decide +kernel)⟩
def lw_privs_3 : List (MethodName × Nat) := [(⟨"SuretyRoll$Netting", "findSums", "()V"⟩, 3), (⟨"SuretyRoll$Netting", "mostGroupsIn", "(I)I"⟩, 3), (⟨"SuretyRoll$Kinds", "askBody", "(III)I"⟩, 2), (⟨"SuretyRollModel", "advances", "()V"⟩, 24), (⟨"SuretyRollModel", "byteAt", "(I)I"⟩, 24), (⟨"SuretyRollModel", "isWell", "()Z"⟩, 24), (⟨"SuretyRollModel", "takes", "(Z)I"⟩, 24), (⟨"SuretyRollModel", "readsDebt", "()V"⟩, 24), (⟨"SuretyRollModel", "number", "(II)I"⟩, 24), (⟨"SuretyRollModel", "readsStand", "()V"⟩, 24), (⟨"SuretyRollModel", "readsOver", "()V"⟩, 24), (⟨"SuretyRollModel", "isDebt", "(I)Z"⟩, 24), (⟨"SuretyRollModel", "rest", "(I)I"⟩, 24), (⟨"SuretyRollModel", "isStand", "(I)Z"⟩, 24), (⟨"SuretyRollModel", "left", "(I)I"⟩, 24), (⟨"SuretyRollModel", "isFallen", "(I)Z"⟩, 24)]
theorem lw_r3 : ∀ q ∈ lw_privs_3, lw_okq q := List.forall_mem_cons.mpr ⟨lw_p32, List.forall_mem_cons.mpr ⟨lw_p33, List.forall_mem_cons.mpr ⟨lw_p34, List.forall_mem_cons.mpr ⟨lw_p35, List.forall_mem_cons.mpr ⟨lw_p36, List.forall_mem_cons.mpr ⟨lw_p37, List.forall_mem_cons.mpr ⟨lw_p38, List.forall_mem_cons.mpr ⟨lw_p39, List.forall_mem_cons.mpr ⟨lw_p40, List.forall_mem_cons.mpr ⟨lw_p41, List.forall_mem_cons.mpr ⟨lw_p42, List.forall_mem_cons.mpr ⟨lw_p43, List.forall_mem_cons.mpr ⟨lw_p44, List.forall_mem_cons.mpr ⟨lw_p45, List.forall_mem_cons.mpr ⟨lw_p46, List.forall_mem_cons.mpr ⟨lw_p47, fun _ h => absurd h List.not_mem_nil⟩⟩⟩⟩⟩⟩⟩⟩⟩⟩⟩⟩⟩⟩⟩⟩
theorem lw_p48 : lw_okq (⟨"SuretyRollModel", "isThere", "(II)Z"⟩, 24) := ⟨⟨by decide +kernel, by decide +kernel⟩, List.mem_of_getElem? (i := 938) (by decide +kernel), List.mem_of_getElem? (i := 1122) (by decide +kernel), List.mem_of_getElem? (i := 1123) (by decide +kernel)⟩
theorem lw_p49 : lw_okq (⟨"SuretyRollModel", "asked", "(II)I"⟩, 24) := ⟨⟨by decide +kernel, by decide +kernel⟩, List.mem_of_getElem? (i := 938) (by decide +kernel), List.mem_of_getElem? (i := 1126) (by decide +kernel), List.mem_of_getElem? (i := 1127) (by decide +kernel)⟩
theorem lw_p50 : lw_okq (⟨"SuretyRollModel", "mayAsk", "(I)I"⟩, 24) := ⟨⟨by decide +kernel, by decide +kernel⟩, List.mem_of_getElem? (i := 938) (by decide +kernel), List.mem_of_getElem? (i := 1130) (by decide +kernel), List.mem_of_getElem? (i := 1131) (by decide +kernel)⟩
theorem lw_p51 : lw_okq (⟨"SuretyRollModel", "isAlone", "(I)Z"⟩, 24) := ⟨⟨by decide +kernel, by decide +kernel⟩, List.mem_of_getElem? (i := 938) (by decide +kernel), List.mem_of_getElem? (i := 1134) (by decide +kernel), List.mem_of_getElem? (i := 1135) (by decide +kernel)⟩
theorem lw_p52 : lw_okq (⟨"SuretyRollModel", "goesBack", "(II)V"⟩, 24) := ⟨⟨by decide +kernel, by decide +kernel⟩, List.mem_of_getElem? (i := 938) (by decide +kernel), List.mem_of_getElem? (i := 1142) (by decide +kernel), List.mem_of_getElem? (i := 1143) (by decide +kernel)⟩
theorem lw_p53 : lw_okq (⟨"SuretyRollModel", "owes", "(III)V"⟩, 24) := ⟨⟨by decide +kernel, by decide +kernel⟩, List.mem_of_getElem? (i := 938) (by decide +kernel), List.mem_of_getElem? (i := 1146) (by decide +kernel), List.mem_of_getElem? (i := 1147) (by decide +kernel)⟩
theorem lw_p54 : lw_okq (⟨"SuretyRollModel", "burdenOf", "(II)I"⟩, 24) := ⟨⟨by decide +kernel, by decide +kernel⟩, List.mem_of_getElem? (i := 938) (by decide +kernel), List.mem_of_getElem? (i := 1162) (by decide +kernel), List.mem_of_getElem? (i := 1163) (by decide +kernel)⟩
theorem lw_p55 : lw_okq (⟨"SuretyRollModel", "hasOf", "(II)I"⟩, 24) := ⟨⟨by decide +kernel, by decide +kernel⟩, List.mem_of_getElem? (i := 938) (by decide +kernel), List.mem_of_getElem? (i := 1166) (by decide +kernel), List.mem_of_getElem? (i := 1167) (by decide +kernel)⟩
theorem lw_p56 : lw_okq (⟨"SuretyRollModel", "chained", "(I)I"⟩, 24) := ⟨⟨by decide +kernel, by decide +kernel⟩, List.mem_of_getElem? (i := 938) (by decide +kernel), List.mem_of_getElem? (i := 1174) (by decide +kernel), List.mem_of_getElem? (i := 1175) (by decide +kernel)⟩
theorem lw_p57 : lw_okq (⟨"SuretyRollModel", "goesRound", "()V"⟩, 24) := ⟨⟨by decide +kernel, by decide +kernel⟩, List.mem_of_getElem? (i := 938) (by decide +kernel), List.mem_of_getElem? (i := 1193) (by decide +kernel), List.mem_of_getElem? (i := 1194) (by decide +kernel)⟩
theorem lw_p58 : lw_okq (⟨"SuretyRollModel", "pays", "(I)V"⟩, 24) := ⟨⟨by decide +kernel, by decide +kernel⟩, List.mem_of_getElem? (i := 938) (by decide +kernel), List.mem_of_getElem? (i := 1197) (by decide +kernel), List.mem_of_getElem? (i := 1198) (by decide +kernel)⟩
theorem lw_p59 : lw_okq (⟨"SuretyRollModel", "isPaper", "(I)Z"⟩, 24) := ⟨⟨by decide +kernel, by decide +kernel⟩, List.mem_of_getElem? (i := 938) (by decide +kernel), List.mem_of_getElem? (i := 1201) (by decide +kernel), List.mem_of_getElem? (i := 1202) (by decide +kernel)⟩
theorem lw_p60 : lw_okq (⟨"SuretyRollModel", "toWhom", "(I)I"⟩, 24) := ⟨⟨by decide +kernel, by decide +kernel⟩, List.mem_of_getElem? (i := 938) (by decide +kernel), List.mem_of_getElem? (i := 1205) (by decide +kernel), List.mem_of_getElem? (i := 1206) (by decide +kernel)⟩
theorem lw_p61 : lw_okq (⟨"SuretyRollModel", "ofWhom", "(I)I"⟩, 24) := ⟨⟨by decide +kernel, by decide +kernel⟩, List.mem_of_getElem? (i := 938) (by decide +kernel), List.mem_of_getElem? (i := 1209) (by decide +kernel), List.mem_of_getElem? (i := 1210) (by decide +kernel)⟩
theorem lw_p62 : lw_okq (⟨"SuretyRollModel", "due", "(II)I"⟩, 24) := ⟨⟨by decide +kernel, by decide +kernel⟩, List.mem_of_getElem? (i := 938) (by decide +kernel), List.mem_of_getElem? (i := 1213) (by decide +kernel), List.mem_of_getElem? (i := 1214) (by decide +kernel)⟩
theorem lw_p63 : lw_okq (⟨"SuretyRollModel", "isSame", "(II)Z"⟩, 24) := ⟨⟨by decide +kernel, by decide +kernel⟩, List.mem_of_getElem? (i := 938) (by decide +kernel), List.mem_of_getElem? (i := 1217) (by decide +kernel), List.mem_of_getElem? (i := 1218) (by decide +kernel)⟩
def lw_privs_4 : List (MethodName × Nat) := [(⟨"SuretyRollModel", "isThere", "(II)Z"⟩, 24), (⟨"SuretyRollModel", "asked", "(II)I"⟩, 24), (⟨"SuretyRollModel", "mayAsk", "(I)I"⟩, 24), (⟨"SuretyRollModel", "isAlone", "(I)Z"⟩, 24), (⟨"SuretyRollModel", "goesBack", "(II)V"⟩, 24), (⟨"SuretyRollModel", "owes", "(III)V"⟩, 24), (⟨"SuretyRollModel", "burdenOf", "(II)I"⟩, 24), (⟨"SuretyRollModel", "hasOf", "(II)I"⟩, 24), (⟨"SuretyRollModel", "chained", "(I)I"⟩, 24), (⟨"SuretyRollModel", "goesRound", "()V"⟩, 24), (⟨"SuretyRollModel", "pays", "(I)V"⟩, 24), (⟨"SuretyRollModel", "isPaper", "(I)Z"⟩, 24), (⟨"SuretyRollModel", "toWhom", "(I)I"⟩, 24), (⟨"SuretyRollModel", "ofWhom", "(I)I"⟩, 24), (⟨"SuretyRollModel", "due", "(II)I"⟩, 24), (⟨"SuretyRollModel", "isSame", "(II)Z"⟩, 24)]
theorem lw_r4 : ∀ q ∈ lw_privs_4, lw_okq q := List.forall_mem_cons.mpr ⟨lw_p48, List.forall_mem_cons.mpr ⟨lw_p49, List.forall_mem_cons.mpr ⟨lw_p50, List.forall_mem_cons.mpr ⟨lw_p51, List.forall_mem_cons.mpr ⟨lw_p52, List.forall_mem_cons.mpr ⟨lw_p53, List.forall_mem_cons.mpr ⟨lw_p54, List.forall_mem_cons.mpr ⟨lw_p55, List.forall_mem_cons.mpr ⟨lw_p56, List.forall_mem_cons.mpr ⟨lw_p57, List.forall_mem_cons.mpr ⟨lw_p58, List.forall_mem_cons.mpr ⟨lw_p59, List.forall_mem_cons.mpr ⟨lw_p60, List.forall_mem_cons.mpr ⟨lw_p61, List.forall_mem_cons.mpr ⟨lw_p62, List.forall_mem_cons.mpr ⟨lw_p63, fun _ h => absurd h List.not_mem_nil⟩⟩⟩⟩⟩⟩⟩⟩⟩⟩⟩⟩⟩⟩⟩⟩
theorem lw_p64 : lw_okq (⟨"SuretyRollModel", "greatest", "(II)I"⟩, 24) := ⟨⟨by decide +kernel, by decide +kernel⟩, List.mem_of_getElem? (i := 938) (by decide +kernel), List.mem_of_getElem? (i := 1234) (by decide +kernel), List.mem_of_getElem? (i := 1235) (by decide +kernel)⟩
theorem lw_p65 : lw_okq (⟨"SuretyRollModel", "balanceOf", "(I)I"⟩, 24) := ⟨⟨by decide +kernel, by decide +kernel⟩, List.mem_of_getElem? (i := 938) (by decide +kernel), List.mem_of_getElem? (i := 1242) (by decide +kernel), List.mem_of_getElem? (i := 1243) (by decide +kernel)⟩
theorem lw_p66 : lw_okq (⟨"SuretyRollModel", "coins", "()I"⟩, 24) := ⟨⟨by decide +kernel, by decide +kernel⟩, List.mem_of_getElem? (i := 938) (by decide +kernel), List.mem_of_getElem? (i := 1260) (by decide +kernel), List.mem_of_getElem? (i := 1261) (by decide +kernel)⟩
def lw_privs_5 : List (MethodName × Nat) := [(⟨"SuretyRollModel", "greatest", "(II)I"⟩, 24), (⟨"SuretyRollModel", "balanceOf", "(I)I"⟩, 24), (⟨"SuretyRollModel", "coins", "()I"⟩, 24)]
theorem lw_r5 : ∀ q ∈ lw_privs_5, lw_okq q := List.forall_mem_cons.mpr ⟨lw_p64, List.forall_mem_cons.mpr ⟨lw_p65, List.forall_mem_cons.mpr ⟨lw_p66, fun _ h => absurd h List.not_mem_nil⟩⟩⟩
def lw_privs : List (MethodName × Nat) := lw_privs_1 ++ (lw_privs_2 ++ (lw_privs_3 ++ (lw_privs_4 ++ (lw_privs_5))))
def lw_tbl : List Cond := k2_sels lw_privs ++ tables_1
theorem lw_privs_ok : ∀ q ∈ lw_privs, lw_okq q := by
  show ∀ q ∈ lw_privs_1 ++ (lw_privs_2 ++ (lw_privs_3 ++ (lw_privs_4 ++ (lw_privs_5)))), lw_okq q
  exact List.forall_mem_append.mpr ⟨lw_r1, List.forall_mem_append.mpr ⟨lw_r2, List.forall_mem_append.mpr ⟨lw_r3, List.forall_mem_append.mpr ⟨lw_r4, lw_r5⟩⟩⟩⟩
def RX0 : String := "SuretyRoll$Book"
def TX0 : u_T := fun k => match k with
  | 0 => ("SuretyRoll$Book", "roll", "LSuretyRoll$Roll;", false)
  | 1 => ("SuretyRoll$Book", "draft", "LSuretyRoll$Roll;", false)
  | _ => ("SuretyRoll$Book", "ledger", "LSuretyRoll$Ledger;", true)
def tyX0 : Nat → FieldType := fun k => match k with
  | 0 => .object "SuretyRoll$Roll"
  | 1 => .object "SuretyRoll$Roll"
  | _ => .object "SuretyRoll$Ledger"
theorem nmX0 : ∀ a, a < 3 → ∀ b, b < 3 → a ≠ b → (TX0 a).2.1 ≠ (TX0 b).2.1 := by decide +kernel
theorem tyX0_ok : ∀ k, k < 3 → parseFieldDescriptor (TX0 k).2.2.1 = some (tyX0 k) := by decide +kernel
def RX1 : String := "SuretyRoll$Chances"
def TX1 : u_T := fun k => match k with
  | 0 => ("SuretyRoll$Chances", "book", "LSuretyRoll$Book;", true)
  | 1 => ("SuretyRoll$Chances", "tenths", "[I", true)
  | _ => ("SuretyRoll$Chances", "greatest", "[I", true)
def tyX1 : Nat → FieldType := fun k => match k with
  | 0 => .object "SuretyRoll$Book"
  | 1 => .array .int
  | _ => .array .int
theorem nmX1 : ∀ a, a < 3 → ∀ b, b < 3 → a ≠ b → (TX1 a).2.1 ≠ (TX1 b).2.1 := by decide +kernel
theorem tyX1_ok : ∀ k, k < 3 → parseFieldDescriptor (TX1 k).2.2.1 = some (tyX1 k) := by decide +kernel
def RX2 : String := "SuretyRoll$Dealing"
def TX2 : u_T := fun k => match k with
  | _ => ("SuretyRoll$Dealing", "book", "LSuretyRoll$Book;", true)
def tyX2 : Nat → FieldType := fun k => match k with
  | _ => .object "SuretyRoll$Book"
theorem nmX2 : ∀ a, a < 1 → ∀ b, b < 1 → a ≠ b → (TX2 a).2.1 ≠ (TX2 b).2.1 := by decide +kernel
theorem tyX2_ok : ∀ k, k < 1 → parseFieldDescriptor (TX2 k).2.2.1 = some (tyX2 k) := by decide +kernel
def RX3 : String := "SuretyRoll$Falling"
def TX3 : u_T := fun k => match k with
  | 0 => ("SuretyRoll$Falling", "book", "LSuretyRoll$Book;", true)
  | _ => ("SuretyRoll$Falling", "roundsTaken", "I", false)
def tyX3 : Nat → FieldType := fun k => match k with
  | 0 => .object "SuretyRoll$Book"
  | _ => .int
theorem nmX3 : ∀ a, a < 2 → ∀ b, b < 2 → a ≠ b → (TX3 a).2.1 ≠ (TX3 b).2.1 := by decide +kernel
theorem tyX3_ok : ∀ k, k < 2 → parseFieldDescriptor (TX3 k).2.2.1 = some (tyX3 k) := by decide +kernel
def RX4 : String := "SuretyRoll$Kinds"
def TX4 : u_T := fun k => match k with
  | 0 => ("SuretyRoll$Kinds", "book", "LSuretyRoll$Book;", true)
  | _ => ("SuretyRoll$Kinds", "marks", "J", false)
def tyX4 : Nat → FieldType := fun k => match k with
  | 0 => .object "SuretyRoll$Book"
  | _ => .long
theorem nmX4 : ∀ a, a < 2 → ∀ b, b < 2 → a ≠ b → (TX4 a).2.1 ≠ (TX4 b).2.1 := by decide +kernel
theorem tyX4_ok : ∀ k, k < 2 → parseFieldDescriptor (TX4 k).2.2.1 = some (tyX4 k) := by decide +kernel
def RX5 : String := "SuretyRoll$Ledger"
def TX5 : u_T := fun k => match k with
  | 0 => ("SuretyRoll$Ledger", "paidOfDebt", "[I", true)
  | 1 => ("SuretyRoll$Ledger", "paidBy", "[I", true)
  | 2 => ("SuretyRoll$Ledger", "limit", "[I", true)
  | 3 => ("SuretyRoll$Ledger", "backs", "[I", true)
  | 4 => ("SuretyRoll$Ledger", "beside", "[I", true)
  | 5 => ("SuretyRoll$Ledger", "released", "I", false)
  | _ => ("SuretyRoll$Ledger", "fallen", "I", false)
def tyX5 : Nat → FieldType := fun k => match k with
  | 0 => .array .int
  | 1 => .array .int
  | 2 => .array .int
  | 3 => .array .int
  | 4 => .array .int
  | 5 => .int
  | _ => .int
theorem nmX5 : ∀ a, a < 7 → ∀ b, b < 7 → a ≠ b → (TX5 a).2.1 ≠ (TX5 b).2.1 := by decide +kernel
theorem tyX5_ok : ∀ k, k < 7 → parseFieldDescriptor (TX5 k).2.2.1 = some (tyX5 k) := by decide +kernel
def RX6 : String := "SuretyRoll$Netting"
def TX6 : u_T := fun k => match k with
  | 0 => ("SuretyRoll$Netting", "book", "LSuretyRoll$Book;", true)
  | 1 => ("SuretyRoll$Netting", "sum", "[I", true)
  | _ => ("SuretyRoll$Netting", "groups", "[I", true)
def tyX6 : Nat → FieldType := fun k => match k with
  | 0 => .object "SuretyRoll$Book"
  | 1 => .array .int
  | _ => .array .int
theorem nmX6 : ∀ a, a < 3 → ∀ b, b < 3 → a ≠ b → (TX6 a).2.1 ≠ (TX6 b).2.1 := by decide +kernel
theorem tyX6_ok : ∀ k, k < 3 → parseFieldDescriptor (TX6 k).2.2.1 = some (tyX6 k) := by decide +kernel
def RX7 : String := "SuretyRoll$Reader"
def TX7 : u_T := fun k => match k with
  | 0 => ("SuretyRoll$Reader", "text", "LSuretyRoll$Text;", true)
  | 1 => ("SuretyRoll$Reader", "roll", "LSuretyRoll$Roll;", false)
  | 2 => ("SuretyRoll$Reader", "place", "I", false)
  | 3 => ("SuretyRoll$Reader", "start", "I", false)
  | 4 => ("SuretyRoll$Reader", "token", "I", false)
  | _ => ("SuretyRoll$Reader", "value", "I", false)
def tyX7 : Nat → FieldType := fun k => match k with
  | 0 => .object "SuretyRoll$Text"
  | 1 => .object "SuretyRoll$Roll"
  | 2 => .int
  | 3 => .int
  | 4 => .int
  | _ => .int
theorem nmX7 : ∀ a, a < 6 → ∀ b, b < 6 → a ≠ b → (TX7 a).2.1 ≠ (TX7 b).2.1 := by decide +kernel
theorem tyX7_ok : ∀ k, k < 6 → parseFieldDescriptor (TX7 k).2.2.1 = some (tyX7 k) := by decide +kernel
def RX8 : String := "SuretyRoll$Roll"
def TX8 : u_T := fun k => match k with
  | 0 => ("SuretyRoll$Roll", "items", "I", false)
  | 1 => ("SuretyRoll$Roll", "debts", "I", false)
  | 2 => ("SuretyRoll$Roll", "standings", "I", false)
  | 3 => ("SuretyRoll$Roll", "debtor", "[I", true)
  | 4 => ("SuretyRoll$Roll", "creditor", "[I", true)
  | 5 => ("SuretyRoll$Roll", "owed", "[I", true)
  | 6 => ("SuretyRoll$Roll", "surety", "[I", true)
  | 7 => ("SuretyRoll$Roll", "debtOf", "[I", true)
  | 8 => ("SuretyRoll$Roll", "manner", "[I", true)
  | 9 => ("SuretyRoll$Roll", "standsFor", "[I", true)
  | _ => ("SuretyRoll$Roll", "firstLimit", "[I", true)
def tyX8 : Nat → FieldType := fun k => match k with
  | 0 => .int
  | 1 => .int
  | 2 => .int
  | 3 => .array .int
  | 4 => .array .int
  | 5 => .array .int
  | 6 => .array .int
  | 7 => .array .int
  | 8 => .array .int
  | 9 => .array .int
  | _ => .array .int
theorem nmX8 : ∀ a, a < 11 → ∀ b, b < 11 → a ≠ b → (TX8 a).2.1 ≠ (TX8 b).2.1 := by decide +kernel
theorem tyX8_ok : ∀ k, k < 11 → parseFieldDescriptor (TX8 k).2.2.1 = some (tyX8 k) := by decide +kernel
def RX9 : String := "SuretyRoll$Rounds"
def TX9 : u_T := fun k => match k with
  | 0 => ("SuretyRoll$Rounds", "book", "LSuretyRoll$Book;", true)
  | 1 => ("SuretyRoll$Rounds", "paid", "[I", true)
  | 2 => ("SuretyRoll$Rounds", "due", "[I", true)
  | 3 => ("SuretyRoll$Rounds", "dues", "[I", true)
  | 4 => ("SuretyRoll$Rounds", "means", "[I", true)
  | 5 => ("SuretyRoll$Rounds", "last", "I", false)
  | 6 => ("SuretyRoll$Rounds", "rests", "I", false)
  | _ => ("SuretyRoll$Rounds", "ring", "I", false)
def tyX9 : Nat → FieldType := fun k => match k with
  | 0 => .object "SuretyRoll$Book"
  | 1 => .array .int
  | 2 => .array .int
  | 3 => .array .int
  | 4 => .array .int
  | 5 => .int
  | 6 => .int
  | _ => .int
theorem nmX9 : ∀ a, a < 8 → ∀ b, b < 8 → a ≠ b → (TX9 a).2.1 ≠ (TX9 b).2.1 := by decide +kernel
theorem tyX9_ok : ∀ k, k < 8 → parseFieldDescriptor (TX9 k).2.2.1 = some (tyX9 k) := by decide +kernel
def RX10 : String := "SuretyRoll$Text"
def TX10 : u_T := fun k => match k with
  | 0 => ("SuretyRoll$Text", "bytes", "[B", true)
  | _ => ("SuretyRoll$Text", "length", "I", false)
def tyX10 : Nat → FieldType := fun k => match k with
  | 0 => .array .byte
  | _ => .int
theorem nmX10 : ∀ a, a < 2 → ∀ b, b < 2 → a ≠ b → (TX10 a).2.1 ≠ (TX10 b).2.1 := by decide +kernel
theorem tyX10_ok : ∀ k, k < 2 → parseFieldDescriptor (TX10 k).2.2.1 = some (tyX10 k) := by decide +kernel
def RX11 : String := "SuretyRoll"
def TX11 : u_T := fun k => match k with
  | 0 => ("SuretyRoll", "text", "LSuretyRoll$Text;", true)
  | 1 => ("SuretyRoll", "reader", "LSuretyRoll$Reader;", true)
  | 2 => ("SuretyRoll", "book", "LSuretyRoll$Book;", true)
  | 3 => ("SuretyRoll", "dealing", "LSuretyRoll$Dealing;", true)
  | 4 => ("SuretyRoll", "falling", "LSuretyRoll$Falling;", true)
  | 5 => ("SuretyRoll", "course", "LSuretyRoll$Rounds;", true)
  | 6 => ("SuretyRoll", "chances", "LSuretyRoll$Chances;", true)
  | 7 => ("SuretyRoll", "netting", "LSuretyRoll$Netting;", true)
  | 8 => ("SuretyRoll", "kinds", "LSuretyRoll$Kinds;", true)
  | 9 => ("SuretyRoll", "images", "[LSuretyRoll$Ledger;", true)
  | _ => ("SuretyRoll", "keptImages", "I", false)
def tyX11 : Nat → FieldType := fun k => match k with
  | 0 => .object "SuretyRoll$Text"
  | 1 => .object "SuretyRoll$Reader"
  | 2 => .object "SuretyRoll$Book"
  | 3 => .object "SuretyRoll$Dealing"
  | 4 => .object "SuretyRoll$Falling"
  | 5 => .object "SuretyRoll$Rounds"
  | 6 => .object "SuretyRoll$Chances"
  | 7 => .object "SuretyRoll$Netting"
  | 8 => .object "SuretyRoll$Kinds"
  | 9 => .array (.object "SuretyRoll$Ledger")
  | _ => .int
theorem nmX11 : ∀ a, a < 11 → ∀ b, b < 11 → a ≠ b → (TX11 a).2.1 ≠ (TX11 b).2.1 := by decide +kernel
theorem tyX11_ok : ∀ k, k < 11 → parseFieldDescriptor (TX11 k).2.2.1 = some (tyX11 k) := by decide +kernel
def RX12 : String := "SuretyRollModel"
def TX12 : u_T := fun k => match k with
  | 0 => ("SuretyRollModel", "thrown", "I", false)
  | 1 => ("SuretyRollModel", "trace", "J", false)
  | 2 => ("SuretyRollModel", "s", "[I", true)
  | 3 => ("SuretyRollModel", "kept", "[I", true)
  | 4 => ("SuretyRollModel", "isKept", "[Z", true)
  | 5 => ("SuretyRollModel", "tenths", "[I", true)
  | 6 => ("SuretyRollModel", "debts", "I", false)
  | 7 => ("SuretyRollModel", "stands", "I", false)
  | 8 => ("SuretyRollModel", "debt", "[I", true)
  | 9 => ("SuretyRollModel", "stand", "[I", true)
  | 10 => ("SuretyRollModel", "debtDraft", "[I", true)
  | 11 => ("SuretyRollModel", "standDraft", "[I", true)
  | 12 => ("SuretyRollModel", "debtMany", "I", false)
  | 13 => ("SuretyRollModel", "standMany", "I", false)
  | 14 => ("SuretyRollModel", "text", "[I", true)
  | 15 => ("SuretyRollModel", "typed", "I", false)
  | 16 => ("SuretyRollModel", "next", "I", false)
  | 17 => ("SuretyRollModel", "token", "I", false)
  | 18 => ("SuretyRollModel", "place", "I", false)
  | 19 => ("SuretyRollModel", "value", "I", false)
  | 20 => ("SuretyRollModel", "fault", "I", false)
  | 21 => ("SuretyRollModel", "paid", "[I", true)
  | 22 => ("SuretyRollModel", "lastRound", "I", false)
  | _ => ("SuretyRollModel", "ring", "I", false)
def tyX12 : Nat → FieldType := fun k => match k with
  | 0 => .int
  | 1 => .long
  | 2 => .array .int
  | 3 => .array .int
  | 4 => .array .boolean
  | 5 => .array .int
  | 6 => .int
  | 7 => .int
  | 8 => .array .int
  | 9 => .array .int
  | 10 => .array .int
  | 11 => .array .int
  | 12 => .int
  | 13 => .int
  | 14 => .array .int
  | 15 => .int
  | 16 => .int
  | 17 => .int
  | 18 => .int
  | 19 => .int
  | 20 => .int
  | 21 => .array .int
  | 22 => .int
  | _ => .int
theorem nmX12 : ∀ a, a < 24 → ∀ b, b < 24 → a ≠ b → (TX12 a).2.1 ≠ (TX12 b).2.1 := by decide +kernel
theorem tyX12_ok : ∀ k, k < 24 → parseFieldDescriptor (TX12 k).2.2.1 = some (tyX12 k) := by decide +kernel
abbrev mm_cl : List vw_C := [(RX0, TX0, 3), (RX1, TX1, 3), (RX2, TX2, 1), (RX3, TX3, 2), (RX4, TX4, 2), (RX5, TX5, 7), (RX6, TX6, 3), (RX7, TX7, 6), (RX8, TX8, 11), (RX9, TX9, 8), (RX10, TX10, 2), (RX11, TX11, 11), (RX12, TX12, 24)]
def mm_G : List Cond := lw_tbl.filter goodWord
theorem mm_G_in {w : Cond} {i : Nat} (h : lw_tbl[i]? = some w) (g : goodWord w = true) : w ∈ mm_G := List.mem_filter.mpr ⟨List.mem_of_getElem? h, g⟩
theorem mm_G_good : ∀ w ∈ mm_G, goodWord w = true := fun _ h => (List.mem_filter.mp h).2
/-- the fields' words of a class, by their places in the tables -/
def mm_wsb (C : String) (T : u_T) (N : Nat) (ps : List Nat) : Bool := (List.range N).all (fun k => match ps[k]? with
  | some i => decide (lw_tbl[i]? = some (u_lay C T k)) && goodWord (u_lay C T k)
  | none => false)
theorem mm_ws_in {C : String} {T : u_T} {N : Nat} {ps : List Nat} (h : mm_wsb C T N ps = true) : ∀ w ∈ u_ws C T N, w ∈ mm_G := by
  intro w hw
  obtain ⟨k, hk, rfl⟩ := List.mem_map.mp hw
  have h1 := List.all_eq_true.mp h k hk
  split at h1
  · rw [Bool.and_eq_true, decide_eq_true_eq] at h1
    exact mm_G_in h1.1 h1.2
  · cases h1
set_option maxRecDepth 20000 in
theorem mm_inX0 : ∀ w ∈ u_ws RX0 TX0 3, w ∈ mm_G := mm_ws_in (ps := [308, 310, 312]) (by decide +kernel)
set_option maxRecDepth 20000 in
theorem mm_inX1 : ∀ w ∈ u_ws RX1 TX1 3, w ∈ mm_G := mm_ws_in (ps := [382, 384, 386]) (by decide +kernel)
set_option maxRecDepth 20000 in
theorem mm_inX2 : ∀ w ∈ u_ws RX2 TX2 1, w ∈ mm_G := mm_ws_in (ps := [322]) (by decide +kernel)
set_option maxRecDepth 20000 in
theorem mm_inX3 : ∀ w ∈ u_ws RX3 TX3 2, w ∈ mm_G := mm_ws_in (ps := [334, 336]) (by decide +kernel)
set_option maxRecDepth 20000 in
theorem mm_inX4 : ∀ w ∈ u_ws RX4 TX4 2, w ∈ mm_G := mm_ws_in (ps := [414, 416]) (by decide +kernel)
set_option maxRecDepth 20000 in
theorem mm_inX5 : ∀ w ∈ u_ws RX5 TX5 7, w ∈ mm_G := mm_ws_in (ps := [277, 279, 281, 283, 285, 287, 289]) (by decide +kernel)
set_option maxRecDepth 20000 in
theorem mm_inX6 : ∀ w ∈ u_ws RX6 TX6 3, w ∈ mm_G := mm_ws_in (ps := [398, 400, 402]) (by decide +kernel)
set_option maxRecDepth 20000 in
theorem mm_inX7 : ∀ w ∈ u_ws RX7 TX7 6, w ∈ mm_G := mm_ws_in (ps := [126, 128, 130, 132, 134, 136]) (by decide +kernel)
set_option maxRecDepth 20000 in
theorem mm_inX8 : ∀ w ∈ u_ws RX8 TX8 11, w ∈ mm_G := mm_ws_in (ps := [220, 222, 224, 226, 228, 230, 232, 234, 236, 238, 240]) (by decide +kernel)
set_option maxRecDepth 20000 in
theorem mm_inX9 : ∀ w ∈ u_ws RX9 TX9 8, w ∈ mm_G := mm_ws_in (ps := [355, 357, 359, 361, 363, 365, 367, 369]) (by decide +kernel)
set_option maxRecDepth 20000 in
theorem mm_inX10 : ∀ w ∈ u_ws RX10 TX10 2, w ∈ mm_G := mm_ws_in (ps := [108, 110]) (by decide +kernel)
set_option maxRecDepth 20000 in
theorem mm_inX11 : ∀ w ∈ u_ws RX11 TX11 11, w ∈ mm_G := mm_ws_in (ps := [433, 435, 437, 439, 441, 443, 445, 447, 449, 451, 453]) (by decide +kernel)
set_option maxRecDepth 20000 in
theorem mm_inX12 : ∀ w ∈ u_ws RX12 TX12 24, w ∈ mm_G := mm_ws_in (ps := [1034, 1036, 1038, 1040, 1042, 1044, 1046, 1048, 1050, 1052, 1054, 1056, 1058, 1060, 1062, 1064, 1066, 1068, 1070, 1072, 1074, 1076, 1078, 1080]) (by decide +kernel)
theorem mm_in_all : ∀ (ci : Nat) (q : vw_C), mm_cl[ci]? = some q → ∀ w ∈ u_ws q.1 q.2.1 q.2.2, w ∈ mm_G := by
  intro ci q h
  match ci, h with
  | 0, h => cases h; exact mm_inX0
  | 1, h => cases h; exact mm_inX1
  | 2, h => cases h; exact mm_inX2
  | 3, h => cases h; exact mm_inX3
  | 4, h => cases h; exact mm_inX4
  | 5, h => cases h; exact mm_inX5
  | 6, h => cases h; exact mm_inX6
  | 7, h => cases h; exact mm_inX7
  | 8, h => cases h; exact mm_inX8
  | 9, h => cases h; exact mm_inX9
  | 10, h => cases h; exact mm_inX10
  | 11, h => cases h; exact mm_inX11
  | 12, h => cases h; exact mm_inX12
  | n + 13, h => simp [mm_cl] at h
