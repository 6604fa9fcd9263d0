-- ===== PART A: goes FIRST, ahead of the names: the tables' words, and 'selects' of the private methods out of them =====
/-- a private method of a class that the tables say can be made, by its rows of tables_1 -/
def lw_okq (q : MethodName × Nat) : Prop := (q.1.cls ≠ "java/lang/invoke/MethodHandle" ∧ q.1.cls ≠ "java/lang/invoke/VarHandle") ∧ Cond.instantiable q.1.cls q.2 ∈ tables_1 ∧ Cond.privateMethod q.1 ∈ tables_1 ∧ Cond.instanceMethod q.1 ∈ tables_1
theorem lw_p0 : lw_okq (⟨"java/util/ArrayList", "add", "(Ljava/lang/Object;[Ljava/lang/Object;I)V"⟩, 3) := ⟨⟨by decide +kernel, by decide +kernel⟩, List.mem_of_getElem? (i := 90) (by decide +kernel), List.mem_of_getElem? (i := 250) (by decide +kernel), List.mem_of_getElem? (i := 251) (by decide +kernel)⟩
theorem lw_p1 : lw_okq (⟨"java/util/ArrayList", "grow", "()[Ljava/lang/Object;"⟩, 3) := ⟨⟨by decide +kernel, by decide +kernel⟩, List.mem_of_getElem? (i := 90) (by decide +kernel), List.mem_of_getElem? (i := 254) (by decide +kernel), List.mem_of_getElem? (i := 255) (by decide +kernel)⟩
theorem lw_p2 : lw_okq (⟨"java/util/ArrayList", "grow", "(I)[Ljava/lang/Object;"⟩, 3) := ⟨⟨by decide +kernel, by decide +kernel⟩, List.mem_of_getElem? (i := 90) (by decide +kernel), List.mem_of_getElem? (i := 258) (by decide +kernel), List.mem_of_getElem? (i := 259) (by decide +kernel)⟩
theorem lw_p3 : lw_okq (⟨"SnowNode", "findOpenPoll", "(I)LSnowNode$Poll;"⟩, 12) := ⟨⟨by decide +kernel, by decide +kernel⟩, List.mem_of_getElem? (i := 30) (by decide +kernel), List.mem_of_getElem? (i := 435) (by decide +kernel), List.mem_of_getElem? (i := 436) (by decide +kernel)⟩
theorem lw_p4 : lw_okq (⟨"SnowNode", "dropOpenPoll", "(I)V"⟩, 12) := ⟨⟨by decide +kernel, by decide +kernel⟩, List.mem_of_getElem? (i := 30) (by decide +kernel), List.mem_of_getElem? (i := 442) (by decide +kernel), List.mem_of_getElem? (i := 443) (by decide +kernel)⟩
theorem lw_p5 : lw_okq (⟨"java/util/ArrayList", "fastRemove", "([Ljava/lang/Object;I)V"⟩, 3) := ⟨⟨by decide +kernel, by decide +kernel⟩, List.mem_of_getElem? (i := 90) (by decide +kernel), List.mem_of_getElem? (i := 450) (by decide +kernel), List.mem_of_getElem? (i := 451) (by decide +kernel)⟩
theorem lw_p6 : lw_okq (⟨"SnowNode$Graph", "giveChit", "(LSnowNode$Transaction;)V"⟩, 6) := ⟨⟨by decide +kernel, by decide +kernel⟩, List.mem_of_getElem? (i := 84) (by decide +kernel), List.mem_of_getElem? (i := 459) (by decide +kernel), List.mem_of_getElem? (i := 460) (by decide +kernel)⟩
theorem lw_p7 : lw_okq (⟨"SnowNode$Graph", "moveSets", "(LSnowNode$Transaction;Z)V"⟩, 6) := ⟨⟨by decide +kernel, by decide +kernel⟩, List.mem_of_getElem? (i := 84) (by decide +kernel), List.mem_of_getElem? (i := 467) (by decide +kernel), List.mem_of_getElem? (i := 468) (by decide +kernel)⟩
theorem lw_p8 : lw_okq (⟨"SnowNode$Graph", "acceptWhatIsReady", "()V"⟩, 6) := ⟨⟨by decide +kernel, by decide +kernel⟩, List.mem_of_getElem? (i := 84) (by decide +kernel), List.mem_of_getElem? (i := 475) (by decide +kernel), List.mem_of_getElem? (i := 476) (by decide +kernel)⟩
theorem lw_p9 : lw_okq (⟨"SnowNode$Graph", "isReady", "(LSnowNode$Transaction;)Z"⟩, 6) := ⟨⟨by decide +kernel, by decide +kernel⟩, List.mem_of_getElem? (i := 84) (by decide +kernel), List.mem_of_getElem? (i := 483) (by decide +kernel), List.mem_of_getElem? (i := 484) (by decide +kernel)⟩
theorem lw_p10 : lw_okq (⟨"SnowNode$Graph", "accept", "(LSnowNode$Transaction;)V"⟩, 6) := ⟨⟨by decide +kernel, by decide +kernel⟩, List.mem_of_getElem? (i := 84) (by decide +kernel), List.mem_of_getElem? (i := 491) (by decide +kernel), List.mem_of_getElem? (i := 492) (by decide +kernel)⟩
theorem lw_p11 : lw_okq (⟨"SnowNode$Graph", "reject", "(LSnowNode$Transaction;)V"⟩, 6) := ⟨⟨by decide +kernel, by decide +kernel⟩, List.mem_of_getElem? (i := 84) (by decide +kernel), List.mem_of_getElem? (i := 503) (by decide +kernel), List.mem_of_getElem? (i := 504) (by decide +kernel)⟩
theorem lw_p12 : lw_okq (⟨"SnowNode$Graph", "addMissing", "([II)I"⟩, 6) := ⟨⟨by decide +kernel, by decide +kernel⟩, List.mem_of_getElem? (i := 84) (by decide +kernel), List.mem_of_getElem? (i := 538) (by decide +kernel), List.mem_of_getElem? (i := 539) (by decide +kernel)⟩
theorem lw_p13 : lw_okq (⟨"SnowNode$Graph", "isListed", "(II)Z"⟩, 6) := ⟨⟨by decide +kernel, by decide +kernel⟩, List.mem_of_getElem? (i := 84) (by decide +kernel), List.mem_of_getElem? (i := 543) (by decide +kernel), List.mem_of_getElem? (i := 544) (by decide +kernel)⟩
theorem lw_p14 : lw_okq (⟨"SnowNode$Choice", "clearVotes", "()V"⟩, 11) := ⟨⟨by decide +kernel, by decide +kernel⟩, List.mem_of_getElem? (i := 562) (by decide +kernel), List.mem_of_getElem? (i := 611) (by decide +kernel), List.mem_of_getElem? (i := 612) (by decide +kernel)⟩
theorem lw_p15 : lw_okq (⟨"SnowNode", "findChoice", "(I)LSnowNode$Choice;"⟩, 12) := ⟨⟨by decide +kernel, by decide +kernel⟩, List.mem_of_getElem? (i := 30) (by decide +kernel), List.mem_of_getElem? (i := 619) (by decide +kernel), List.mem_of_getElem? (i := 620) (by decide +kernel)⟩
def lw_privs_1 : List (MethodName × Nat) := [(⟨"java/util/ArrayList", "add", "(Ljava/lang/Object;[Ljava/lang/Object;I)V"⟩, 3), (⟨"java/util/ArrayList", "grow", "()[Ljava/lang/Object;"⟩, 3), (⟨"java/util/ArrayList", "grow", "(I)[Ljava/lang/Object;"⟩, 3), (⟨"SnowNode", "findOpenPoll", "(I)LSnowNode$Poll;"⟩, 12), (⟨"SnowNode", "dropOpenPoll", "(I)V"⟩, 12), (⟨"java/util/ArrayList", "fastRemove", "([Ljava/lang/Object;I)V"⟩, 3), (⟨"SnowNode$Graph", "giveChit", "(LSnowNode$Transaction;)V"⟩, 6), (⟨"SnowNode$Graph", "moveSets", "(LSnowNode$Transaction;Z)V"⟩, 6), (⟨"SnowNode$Graph", "acceptWhatIsReady", "()V"⟩, 6), (⟨"SnowNode$Graph", "isReady", "(LSnowNode$Transaction;)Z"⟩, 6), (⟨"SnowNode$Graph", "accept", "(LSnowNode$Transaction;)V"⟩, 6), (⟨"SnowNode$Graph", "reject", "(LSnowNode$Transaction;)V"⟩, 6), (⟨"SnowNode$Graph", "addMissing", "([II)I"⟩, 6), (⟨"SnowNode$Graph", "isListed", "(II)Z"⟩, 6), (⟨"SnowNode$Choice", "clearVotes", "()V"⟩, 11), (⟨"SnowNode", "findChoice", "(I)LSnowNode$Choice;"⟩, 12)]
theorem lw_r1 : ∀ q ∈ lw_privs_1, lw_okq q := List.forall_mem_cons.mpr ⟨lw_p0, List.forall_mem_cons.mpr ⟨lw_p1, List.forall_mem_cons.mpr ⟨lw_p2, List.forall_mem_cons.mpr ⟨lw_p3, List.forall_mem_cons.mpr ⟨lw_p4, List.forall_mem_cons.mpr ⟨lw_p5, List.forall_mem_cons.mpr ⟨lw_p6, List.forall_mem_cons.mpr ⟨lw_p7, List.forall_mem_cons.mpr ⟨lw_p8, List.forall_mem_cons.mpr ⟨lw_p9, List.forall_mem_cons.mpr ⟨lw_p10, List.forall_mem_cons.mpr ⟨lw_p11, List.forall_mem_cons.mpr ⟨lw_p12, List.forall_mem_cons.mpr ⟨lw_p13, List.forall_mem_cons.mpr ⟨lw_p14, List.forall_mem_cons.mpr ⟨lw_p15, fun _ h => absurd h List.not_mem_nil⟩⟩⟩⟩⟩⟩⟩⟩⟩⟩⟩⟩⟩⟩⟩⟩
theorem lw_p16 : lw_okq (⟨"java/lang/Throwable", "fillInStackTrace", "(I)Ljava/lang/Throwable;"⟩, 6) := ⟨⟨by decide +kernel, by decide +kernel⟩, List.mem_of_getElem? (i := 695) (by decide +kernel), List.mem_of_getElem? (i := 693) (by decide +kernel), List.mem_of_getElem? (i := 694) (by decide +kernel)⟩
theorem lw_p17 : lw_okq (⟨"SnowNode$Reader", "nextFew", "()I"⟩, 3) := ⟨⟨by decide +kernel, by decide +kernel⟩, List.mem_of_getElem? (i := 737) (by decide +kernel), List.mem_of_getElem? (i := 753) (by decide +kernel), List.mem_of_getElem? (i := 754) (by decide +kernel)⟩
theorem lw_p18 : lw_okq (⟨"SnowNode$Reader", "nextByte", "()I"⟩, 3) := ⟨⟨by decide +kernel, by decide +kernel⟩, List.mem_of_getElem? (i := 737) (by decide +kernel), List.mem_of_getElem? (i := 757) (by decide +kernel), List.mem_of_getElem? (i := 758) (by decide +kernel)⟩
theorem lw_p19 : lw_okq (⟨"SnowNode$Reader", "nextId", "()I"⟩, 3) := ⟨⟨by decide +kernel, by decide +kernel⟩, List.mem_of_getElem? (i := 737) (by decide +kernel), List.mem_of_getElem? (i := 761) (by decide +kernel), List.mem_of_getElem? (i := 762) (by decide +kernel)⟩
theorem lw_p20 : lw_okq (⟨"SnowNode$Reader", "nextWord", "()I"⟩, 3) := ⟨⟨by decide +kernel, by decide +kernel⟩, List.mem_of_getElem? (i := 737) (by decide +kernel), List.mem_of_getElem? (i := 765) (by decide +kernel), List.mem_of_getElem? (i := 766) (by decide +kernel)⟩
theorem lw_p21 : lw_okq (⟨"SnowNode$Reader", "nextAmount", "()I"⟩, 3) := ⟨⟨by decide +kernel, by decide +kernel⟩, List.mem_of_getElem? (i := 737) (by decide +kernel), List.mem_of_getElem? (i := 770) (by decide +kernel), List.mem_of_getElem? (i := 771) (by decide +kernel)⟩
theorem lw_p22 : lw_okq (⟨"SnowNode$Digest", "fillBlock", "([BI)V"⟩, 2) := ⟨⟨by decide +kernel, by decide +kernel⟩, List.mem_of_getElem? (i := 71) (by decide +kernel), List.mem_of_getElem? (i := 782) (by decide +kernel), List.mem_of_getElem? (i := 783) (by decide +kernel)⟩
theorem lw_p23 : lw_okq (⟨"SnowNode$Digest", "spreadBlock", "()V"⟩, 2) := ⟨⟨by decide +kernel, by decide +kernel⟩, List.mem_of_getElem? (i := 71) (by decide +kernel), List.mem_of_getElem? (i := 787) (by decide +kernel), List.mem_of_getElem? (i := 788) (by decide +kernel)⟩
theorem lw_p24 : lw_okq (⟨"SnowNode$Digest", "turn", "(I)V"⟩, 2) := ⟨⟨by decide +kernel, by decide +kernel⟩, List.mem_of_getElem? (i := 71) (by decide +kernel), List.mem_of_getElem? (i := 799) (by decide +kernel), List.mem_of_getElem? (i := 800) (by decide +kernel)⟩
theorem lw_p25 : lw_okq (⟨"SnowNode$Graph", "lookAt", "(LSnowNode$Transaction;)Z"⟩, 6) := ⟨⟨by decide +kernel, by decide +kernel⟩, List.mem_of_getElem? (i := 84) (by decide +kernel), List.mem_of_getElem? (i := 831) (by decide +kernel), List.mem_of_getElem? (i := 832) (by decide +kernel)⟩
theorem lw_p26 : lw_okq (⟨"SnowNode$Graph", "findParents", "(LSnowNode$Transaction;)I"⟩, 6) := ⟨⟨by decide +kernel, by decide +kernel⟩, List.mem_of_getElem? (i := 84) (by decide +kernel), List.mem_of_getElem? (i := 835) (by decide +kernel), List.mem_of_getElem? (i := 836) (by decide +kernel)⟩
theorem lw_p27 : lw_okq (⟨"SnowNode$Graph", "findSpent", "(LSnowNode$Transaction;)Z"⟩, 6) := ⟨⟨by decide +kernel, by decide +kernel⟩, List.mem_of_getElem? (i := 84) (by decide +kernel), List.mem_of_getElem? (i := 847) (by decide +kernel), List.mem_of_getElem? (i := 848) (by decide +kernel)⟩
theorem lw_p28 : lw_okq (⟨"SnowNode$Graph", "hold", "(LSnowNode$Transaction;)V"⟩, 6) := ⟨⟨by decide +kernel, by decide +kernel⟩, List.mem_of_getElem? (i := 84) (by decide +kernel), List.mem_of_getElem? (i := 861) (by decide +kernel), List.mem_of_getElem? (i := 862) (by decide +kernel)⟩
theorem lw_p29 : lw_okq (⟨"SnowNode$Graph", "lookAtWaiting", "()Z"⟩, 6) := ⟨⟨by decide +kernel, by decide +kernel⟩, List.mem_of_getElem? (i := 84) (by decide +kernel), List.mem_of_getElem? (i := 874) (by decide +kernel), List.mem_of_getElem? (i := 875) (by decide +kernel)⟩
theorem lw_p30 : lw_okq (⟨"SnowNode$Peers", "drawOne", "([II)I"⟩, 2) := ⟨⟨by decide +kernel, by decide +kernel⟩, List.mem_of_getElem? (i := 38) (by decide +kernel), List.mem_of_getElem? (i := 917) (by decide +kernel), List.mem_of_getElem? (i := 918) (by decide +kernel)⟩
theorem lw_p31 : lw_okq (⟨"SnowNode$Peers", "weightLeft", "(I[II)I"⟩, 2) := ⟨⟨by decide +kernel, by decide +kernel⟩, List.mem_of_getElem? (i := 38) (by decide +kernel), List.mem_of_getElem? (i := 923) (by decide +kernel), List.mem_of_getElem? (i := 924) (by decide +kernel)⟩
def lw_privs_2 : List (MethodName × Nat) := [(⟨"java/lang/Throwable", "fillInStackTrace", "(I)Ljava/lang/Throwable;"⟩, 6), (⟨"SnowNode$Reader", "nextFew", "()I"⟩, 3), (⟨"SnowNode$Reader", "nextByte", "()I"⟩, 3), (⟨"SnowNode$Reader", "nextId", "()I"⟩, 3), (⟨"SnowNode$Reader", "nextWord", "()I"⟩, 3), (⟨"SnowNode$Reader", "nextAmount", "()I"⟩, 3), (⟨"SnowNode$Digest", "fillBlock", "([BI)V"⟩, 2), (⟨"SnowNode$Digest", "spreadBlock", "()V"⟩, 2), (⟨"SnowNode$Digest", "turn", "(I)V"⟩, 2), (⟨"SnowNode$Graph", "lookAt", "(LSnowNode$Transaction;)Z"⟩, 6), (⟨"SnowNode$Graph", "findParents", "(LSnowNode$Transaction;)I"⟩, 6), (⟨"SnowNode$Graph", "findSpent", "(LSnowNode$Transaction;)Z"⟩, 6), (⟨"SnowNode$Graph", "hold", "(LSnowNode$Transaction;)V"⟩, 6), (⟨"SnowNode$Graph", "lookAtWaiting", "()Z"⟩, 6), (⟨"SnowNode$Peers", "drawOne", "([II)I"⟩, 2), (⟨"SnowNode$Peers", "weightLeft", "(I[II)I"⟩, 2)]
theorem lw_r2 : ∀ q ∈ lw_privs_2, lw_okq q := List.forall_mem_cons.mpr ⟨lw_p16, List.forall_mem_cons.mpr ⟨lw_p17, List.forall_mem_cons.mpr ⟨lw_p18, List.forall_mem_cons.mpr ⟨lw_p19, List.forall_mem_cons.mpr ⟨lw_p20, List.forall_mem_cons.mpr ⟨lw_p21, List.forall_mem_cons.mpr ⟨lw_p22, List.forall_mem_cons.mpr ⟨lw_p23, List.forall_mem_cons.mpr ⟨lw_p24, List.forall_mem_cons.mpr ⟨lw_p25, List.forall_mem_cons.mpr ⟨lw_p26, List.forall_mem_cons.mpr ⟨lw_p27, List.forall_mem_cons.mpr ⟨lw_p28, List.forall_mem_cons.mpr ⟨lw_p29, List.forall_mem_cons.mpr ⟨lw_p30, List.forall_mem_cons.mpr ⟨lw_p31, fun _ h => absurd h List.not_mem_nil⟩⟩⟩⟩⟩⟩⟩⟩⟩⟩⟩⟩⟩⟩⟩⟩
theorem lw_p32 : lw_okq (⟨"SnowNode$Choice", "findWinner", "()I"⟩, 11) := ⟨⟨by decide +kernel, by decide +kernel⟩, List.mem_of_getElem? (i := 562) (by decide +kernel), List.mem_of_getElem? (i := 1067) (by decide +kernel), List.mem_of_getElem? (i := 1068) (by decide +kernel)⟩
theorem lw_p33 : lw_okq (⟨"SnowNode$Choice", "followAny", "(I)V"⟩, 11) := ⟨⟨by decide +kernel, by decide +kernel⟩, List.mem_of_getElem? (i := 562) (by decide +kernel), List.mem_of_getElem? (i := 1071) (by decide +kernel), List.mem_of_getElem? (i := 1072) (by decide +kernel)⟩
theorem lw_p34 : lw_okq (⟨"SnowNode$Choice", "followRow", "(I)V"⟩, 11) := ⟨⟨by decide +kernel, by decide +kernel⟩, List.mem_of_getElem? (i := 562) (by decide +kernel), List.mem_of_getElem? (i := 1075) (by decide +kernel), List.mem_of_getElem? (i := 1076) (by decide +kernel)⟩
theorem lw_p35 : lw_okq (⟨"SnowNode$Choice", "followWeight", "(I)V"⟩, 11) := ⟨⟨by decide +kernel, by decide +kernel⟩, List.mem_of_getElem? (i := 562) (by decide +kernel), List.mem_of_getElem? (i := 1079) (by decide +kernel), List.mem_of_getElem? (i := 1080) (by decide +kernel)⟩
theorem lw_p36 : lw_okq (⟨"SnowNodeModel", "isTransaction", "(I)Z"⟩, 44) := ⟨⟨by decide +kernel, by decide +kernel⟩, List.mem_of_getElem? (i := 1083) (by decide +kernel), List.mem_of_getElem? (i := 1259) (by decide +kernel), List.mem_of_getElem? (i := 1260) (by decide +kernel)⟩
theorem lw_p37 : lw_okq (⟨"SnowNodeModel", "tapeFour", "(I)I"⟩, 44) := ⟨⟨by decide +kernel, by decide +kernel⟩, List.mem_of_getElem? (i := 1083) (by decide +kernel), List.mem_of_getElem? (i := 1266) (by decide +kernel), List.mem_of_getElem? (i := 1267) (by decide +kernel)⟩
theorem lw_p38 : lw_okq (⟨"SnowNodeModel", "hashOf", "(I)I"⟩, 44) := ⟨⟨by decide +kernel, by decide +kernel⟩, List.mem_of_getElem? (i := 1083) (by decide +kernel), List.mem_of_getElem? (i := 1271) (by decide +kernel), List.mem_of_getElem? (i := 1272) (by decide +kernel)⟩
theorem lw_p39 : lw_okq (⟨"SnowNodeModel", "mix", "(I)V"⟩, 44) := ⟨⟨by decide +kernel, by decide +kernel⟩, List.mem_of_getElem? (i := 1083) (by decide +kernel), List.mem_of_getElem? (i := 1278) (by decide +kernel), List.mem_of_getElem? (i := 1279) (by decide +kernel)⟩
theorem lw_p40 : lw_okq (⟨"SnowNodeModel", "find", "(I)I"⟩, 44) := ⟨⟨by decide +kernel, by decide +kernel⟩, List.mem_of_getElem? (i := 1083) (by decide +kernel), List.mem_of_getElem? (i := 1283) (by decide +kernel), List.mem_of_getElem? (i := 1284) (by decide +kernel)⟩
theorem lw_p41 : lw_okq (⟨"SnowNodeModel", "lookAt", "(I)V"⟩, 44) := ⟨⟨by decide +kernel, by decide +kernel⟩, List.mem_of_getElem? (i := 1083) (by decide +kernel), List.mem_of_getElem? (i := 1287) (by decide +kernel), List.mem_of_getElem? (i := 1288) (by decide +kernel)⟩
theorem lw_p42 : lw_okq (⟨"SnowNodeModel", "parentsOf", "(I)I"⟩, 44) := ⟨⟨by decide +kernel, by decide +kernel⟩, List.mem_of_getElem? (i := 1083) (by decide +kernel), List.mem_of_getElem? (i := 1291) (by decide +kernel), List.mem_of_getElem? (i := 1292) (by decide +kernel)⟩
theorem lw_p43 : lw_okq (⟨"SnowNodeModel", "at", "(II)I"⟩, 44) := ⟨⟨by decide +kernel, by decide +kernel⟩, List.mem_of_getElem? (i := 1083) (by decide +kernel), List.mem_of_getElem? (i := 1295) (by decide +kernel), List.mem_of_getElem? (i := 1296) (by decide +kernel)⟩
theorem lw_p44 : lw_okq (⟨"SnowNodeModel", "parentId", "(II)I"⟩, 44) := ⟨⟨by decide +kernel, by decide +kernel⟩, List.mem_of_getElem? (i := 1083) (by decide +kernel), List.mem_of_getElem? (i := 1299) (by decide +kernel), List.mem_of_getElem? (i := 1300) (by decide +kernel)⟩
theorem lw_p45 : lw_okq (⟨"SnowNodeModel", "four", "(II)I"⟩, 44) := ⟨⟨by decide +kernel, by decide +kernel⟩, List.mem_of_getElem? (i := 1083) (by decide +kernel), List.mem_of_getElem? (i := 1303) (by decide +kernel), List.mem_of_getElem? (i := 1304) (by decide +kernel)⟩
theorem lw_p46 : lw_okq (⟨"SnowNodeModel", "isBad", "(I)Z"⟩, 44) := ⟨⟨by decide +kernel, by decide +kernel⟩, List.mem_of_getElem? (i := 1083) (by decide +kernel), List.mem_of_getElem? (i := 1307) (by decide +kernel), List.mem_of_getElem? (i := 1308) (by decide +kernel)⟩
theorem lw_p47 : lw_okq (⟨"SnowNodeModel", "markAncestors", "(I)V"⟩, 44) := ⟨⟨by decide +kernel, by decide +kernel⟩, List.mem_of_getElem? (i := 1083) (by decide +kernel), List.mem_of_getElem? (i := 1311) (by decide +kernel), List.mem_of_getElem? (i := 1312) (by decide +kernel)⟩
def lw_privs_3 : List (MethodName × Nat) := [(⟨"SnowNode$Choice", "findWinner", "()I"⟩, 11), (⟨"SnowNode$Choice", "followAny", "(I)V"⟩, 11), (⟨"SnowNode$Choice", "followRow", "(I)V"⟩, 11), (⟨"SnowNode$Choice", "followWeight", "(I)V"⟩, 11), (⟨"SnowNodeModel", "isTransaction", "(I)Z"⟩, 44), (⟨"SnowNodeModel", "tapeFour", "(I)I"⟩, 44), (⟨"SnowNodeModel", "hashOf", "(I)I"⟩, 44), (⟨"SnowNodeModel", "mix", "(I)V"⟩, 44), (⟨"SnowNodeModel", "find", "(I)I"⟩, 44), (⟨"SnowNodeModel", "lookAt", "(I)V"⟩, 44), (⟨"SnowNodeModel", "parentsOf", "(I)I"⟩, 44), (⟨"SnowNodeModel", "at", "(II)I"⟩, 44), (⟨"SnowNodeModel", "parentId", "(II)I"⟩, 44), (⟨"SnowNodeModel", "four", "(II)I"⟩, 44), (⟨"SnowNodeModel", "isBad", "(I)Z"⟩, 44), (⟨"SnowNodeModel", "markAncestors", "(I)V"⟩, 44)]
theorem lw_r3 : ∀ q ∈ lw_privs_3, lw_okq q := List.forall_mem_cons.mpr ⟨lw_p32, List.forall_mem_cons.mpr ⟨lw_p33, List.forall_mem_cons.mpr ⟨lw_p34, List.forall_mem_cons.mpr ⟨lw_p35, List.forall_mem_cons.mpr ⟨lw_p36, List.forall_mem_cons.mpr ⟨lw_p37, List.forall_mem_cons.mpr ⟨lw_p38, List.forall_mem_cons.mpr ⟨lw_p39, List.forall_mem_cons.mpr ⟨lw_p40, List.forall_mem_cons.mpr ⟨lw_p41, List.forall_mem_cons.mpr ⟨lw_p42, List.forall_mem_cons.mpr ⟨lw_p43, List.forall_mem_cons.mpr ⟨lw_p44, List.forall_mem_cons.mpr ⟨lw_p45, List.forall_mem_cons.mpr ⟨lw_p46, List.forall_mem_cons.mpr ⟨lw_p47, fun _ h => absurd h List.not_mem_nil⟩⟩⟩⟩⟩⟩⟩⟩⟩⟩⟩⟩⟩⟩⟩⟩
theorem lw_p48 : lw_okq (⟨"SnowNodeModel", "clearMarks", "()V"⟩, 44) := ⟨⟨by decide +kernel, by decide +kernel⟩, List.mem_of_getElem? (i := 1083) (by decide +kernel), List.mem_of_getElem? (i := 1315) (by decide +kernel), List.mem_of_getElem? (i := 1316) (by decide +kernel)⟩
theorem lw_p49 : lw_okq (⟨"SnowNodeModel", "markParents", "(I)V"⟩, 44) := ⟨⟨by decide +kernel, by decide +kernel⟩, List.mem_of_getElem? (i := 1083) (by decide +kernel), List.mem_of_getElem? (i := 1319) (by decide +kernel), List.mem_of_getElem? (i := 1320) (by decide +kernel)⟩
theorem lw_p50 : lw_okq (⟨"SnowNodeModel", "inputsOf", "(I)I"⟩, 44) := ⟨⟨by decide +kernel, by decide +kernel⟩, List.mem_of_getElem? (i := 1083) (by decide +kernel), List.mem_of_getElem? (i := 1323) (by decide +kernel), List.mem_of_getElem? (i := 1324) (by decide +kernel)⟩
theorem lw_p51 : lw_okq (⟨"SnowNodeModel", "inputsFrom", "(I)I"⟩, 44) := ⟨⟨by decide +kernel, by decide +kernel⟩, List.mem_of_getElem? (i := 1083) (by decide +kernel), List.mem_of_getElem? (i := 1327) (by decide +kernel), List.mem_of_getElem? (i := 1328) (by decide +kernel)⟩
theorem lw_p52 : lw_okq (⟨"SnowNodeModel", "inputId", "(II)I"⟩, 44) := ⟨⟨by decide +kernel, by decide +kernel⟩, List.mem_of_getElem? (i := 1083) (by decide +kernel), List.mem_of_getElem? (i := 1331) (by decide +kernel), List.mem_of_getElem? (i := 1332) (by decide +kernel)⟩
theorem lw_p53 : lw_okq (⟨"SnowNodeModel", "inputIndex", "(II)I"⟩, 44) := ⟨⟨by decide +kernel, by decide +kernel⟩, List.mem_of_getElem? (i := 1083) (by decide +kernel), List.mem_of_getElem? (i := 1335) (by decide +kernel), List.mem_of_getElem? (i := 1336) (by decide +kernel)⟩
theorem lw_p54 : lw_okq (⟨"SnowNodeModel", "outputsOf", "(I)I"⟩, 44) := ⟨⟨by decide +kernel, by decide +kernel⟩, List.mem_of_getElem? (i := 1083) (by decide +kernel), List.mem_of_getElem? (i := 1339) (by decide +kernel), List.mem_of_getElem? (i := 1340) (by decide +kernel)⟩
theorem lw_p55 : lw_okq (⟨"SnowNodeModel", "outputsFrom", "(I)I"⟩, 44) := ⟨⟨by decide +kernel, by decide +kernel⟩, List.mem_of_getElem? (i := 1083) (by decide +kernel), List.mem_of_getElem? (i := 1343) (by decide +kernel), List.mem_of_getElem? (i := 1344) (by decide +kernel)⟩
theorem lw_p56 : lw_okq (⟨"SnowNodeModel", "spends", "(III)Z"⟩, 44) := ⟨⟨by decide +kernel, by decide +kernel⟩, List.mem_of_getElem? (i := 1083) (by decide +kernel), List.mem_of_getElem? (i := 1347) (by decide +kernel), List.mem_of_getElem? (i := 1348) (by decide +kernel)⟩
theorem lw_p57 : lw_okq (⟨"SnowNodeModel", "amount", "(II)I"⟩, 44) := ⟨⟨by decide +kernel, by decide +kernel⟩, List.mem_of_getElem? (i := 1083) (by decide +kernel), List.mem_of_getElem? (i := 1351) (by decide +kernel), List.mem_of_getElem? (i := 1352) (by decide +kernel)⟩
theorem lw_p58 : lw_okq (⟨"SnowNodeModel", "hold", "(I)V"⟩, 44) := ⟨⟨by decide +kernel, by decide +kernel⟩, List.mem_of_getElem? (i := 1083) (by decide +kernel), List.mem_of_getElem? (i := 1356) (by decide +kernel), List.mem_of_getElem? (i := 1357) (by decide +kernel)⟩
theorem lw_p59 : lw_okq (⟨"SnowNodeModel", "outputOf", "(II)I"⟩, 44) := ⟨⟨by decide +kernel, by decide +kernel⟩, List.mem_of_getElem? (i := 1083) (by decide +kernel), List.mem_of_getElem? (i := 1360) (by decide +kernel), List.mem_of_getElem? (i := 1361) (by decide +kernel)⟩
theorem lw_p60 : lw_okq (⟨"SnowNodeModel", "acceptedOf", "(I)I"⟩, 44) := ⟨⟨by decide +kernel, by decide +kernel⟩, List.mem_of_getElem? (i := 1083) (by decide +kernel), List.mem_of_getElem? (i := 1367) (by decide +kernel), List.mem_of_getElem? (i := 1368) (by decide +kernel)⟩
theorem lw_p61 : lw_okq (⟨"SnowNodeModel", "isIn", "(II)Z"⟩, 44) := ⟨⟨by decide +kernel, by decide +kernel⟩, List.mem_of_getElem? (i := 1083) (by decide +kernel), List.mem_of_getElem? (i := 1371) (by decide +kernel), List.mem_of_getElem? (i := 1372) (by decide +kernel)⟩
theorem lw_p62 : lw_okq (⟨"SnowNodeModel", "membersOf", "(I)I"⟩, 44) := ⟨⟨by decide +kernel, by decide +kernel⟩, List.mem_of_getElem? (i := 1083) (by decide +kernel), List.mem_of_getElem? (i := 1375) (by decide +kernel), List.mem_of_getElem? (i := 1376) (by decide +kernel)⟩
theorem lw_p63 : lw_okq (⟨"SnowNodeModel", "reject", "(I)V"⟩, 44) := ⟨⟨by decide +kernel, by decide +kernel⟩, List.mem_of_getElem? (i := 1083) (by decide +kernel), List.mem_of_getElem? (i := 1379) (by decide +kernel), List.mem_of_getElem? (i := 1380) (by decide +kernel)⟩
def lw_privs_4 : List (MethodName × Nat) := [(⟨"SnowNodeModel", "clearMarks", "()V"⟩, 44), (⟨"SnowNodeModel", "markParents", "(I)V"⟩, 44), (⟨"SnowNodeModel", "inputsOf", "(I)I"⟩, 44), (⟨"SnowNodeModel", "inputsFrom", "(I)I"⟩, 44), (⟨"SnowNodeModel", "inputId", "(II)I"⟩, 44), (⟨"SnowNodeModel", "inputIndex", "(II)I"⟩, 44), (⟨"SnowNodeModel", "outputsOf", "(I)I"⟩, 44), (⟨"SnowNodeModel", "outputsFrom", "(I)I"⟩, 44), (⟨"SnowNodeModel", "spends", "(III)Z"⟩, 44), (⟨"SnowNodeModel", "amount", "(II)I"⟩, 44), (⟨"SnowNodeModel", "hold", "(I)V"⟩, 44), (⟨"SnowNodeModel", "outputOf", "(II)I"⟩, 44), (⟨"SnowNodeModel", "acceptedOf", "(I)I"⟩, 44), (⟨"SnowNodeModel", "isIn", "(II)Z"⟩, 44), (⟨"SnowNodeModel", "membersOf", "(I)I"⟩, 44), (⟨"SnowNodeModel", "reject", "(I)V"⟩, 44)]
theorem lw_r4 : ∀ q ∈ lw_privs_4, lw_okq q := List.forall_mem_cons.mpr ⟨lw_p48, List.forall_mem_cons.mpr ⟨lw_p49, List.forall_mem_cons.mpr ⟨lw_p50, List.forall_mem_cons.mpr ⟨lw_p51, List.forall_mem_cons.mpr ⟨lw_p52, List.forall_mem_cons.mpr ⟨lw_p53, List.forall_mem_cons.mpr ⟨lw_p54, List.forall_mem_cons.mpr ⟨lw_p55, List.forall_mem_cons.mpr ⟨lw_p56, List.forall_mem_cons.mpr ⟨lw_p57, List.forall_mem_cons.mpr ⟨lw_p58, List.forall_mem_cons.mpr ⟨lw_p59, List.forall_mem_cons.mpr ⟨lw_p60, List.forall_mem_cons.mpr ⟨lw_p61, List.forall_mem_cons.mpr ⟨lw_p62, List.forall_mem_cons.mpr ⟨lw_p63, fun _ h => absurd h List.not_mem_nil⟩⟩⟩⟩⟩⟩⟩⟩⟩⟩⟩⟩⟩⟩⟩⟩
theorem lw_p64 : lw_okq (⟨"SnowNodeModel", "bestOf", "(I)I"⟩, 44) := ⟨⟨by decide +kernel, by decide +kernel⟩, List.mem_of_getElem? (i := 1083) (by decide +kernel), List.mem_of_getElem? (i := 1383) (by decide +kernel), List.mem_of_getElem? (i := 1384) (by decide +kernel)⟩
theorem lw_p65 : lw_okq (⟨"SnowNodeModel", "confidence", "(I)I"⟩, 44) := ⟨⟨by decide +kernel, by decide +kernel⟩, List.mem_of_getElem? (i := 1083) (by decide +kernel), List.mem_of_getElem? (i := 1387) (by decide +kernel), List.mem_of_getElem? (i := 1388) (by decide +kernel)⟩
theorem lw_p66 : lw_okq (⟨"SnowNodeModel", "markDescendants", "(I)V"⟩, 44) := ⟨⟨by decide +kernel, by decide +kernel⟩, List.mem_of_getElem? (i := 1083) (by decide +kernel), List.mem_of_getElem? (i := 1391) (by decide +kernel), List.mem_of_getElem? (i := 1392) (by decide +kernel)⟩
theorem lw_p67 : lw_okq (⟨"SnowNodeModel", "hasMarkedParent", "(I)Z"⟩, 44) := ⟨⟨by decide +kernel, by decide +kernel⟩, List.mem_of_getElem? (i := 1083) (by decide +kernel), List.mem_of_getElem? (i := 1395) (by decide +kernel), List.mem_of_getElem? (i := 1396) (by decide +kernel)⟩
theorem lw_p68 : lw_okq (⟨"SnowNodeModel", "isHeld", "(I)Z"⟩, 44) := ⟨⟨by decide +kernel, by decide +kernel⟩, List.mem_of_getElem? (i := 1083) (by decide +kernel), List.mem_of_getElem? (i := 1403) (by decide +kernel), List.mem_of_getElem? (i := 1404) (by decide +kernel)⟩
theorem lw_p69 : lw_okq (⟨"SnowNodeModel", "isStrong", "(I)Z"⟩, 44) := ⟨⟨by decide +kernel, by decide +kernel⟩, List.mem_of_getElem? (i := 1083) (by decide +kernel), List.mem_of_getElem? (i := 1407) (by decide +kernel), List.mem_of_getElem? (i := 1408) (by decide +kernel)⟩
theorem lw_p70 : lw_okq (⟨"SnowNodeModel", "isLiked", "(I)Z"⟩, 44) := ⟨⟨by decide +kernel, by decide +kernel⟩, List.mem_of_getElem? (i := 1083) (by decide +kernel), List.mem_of_getElem? (i := 1411) (by decide +kernel), List.mem_of_getElem? (i := 1412) (by decide +kernel)⟩
theorem lw_p71 : lw_okq (⟨"SnowNodeModel", "openPolls", "()I"⟩, 44) := ⟨⟨by decide +kernel, by decide +kernel⟩, List.mem_of_getElem? (i := 1083) (by decide +kernel), List.mem_of_getElem? (i := 1419) (by decide +kernel), List.mem_of_getElem? (i := 1420) (by decide +kernel)⟩
theorem lw_p72 : lw_okq (⟨"SnowNodeModel", "draw", "()I"⟩, 44) := ⟨⟨by decide +kernel, by decide +kernel⟩, List.mem_of_getElem? (i := 1083) (by decide +kernel), List.mem_of_getElem? (i := 1423) (by decide +kernel), List.mem_of_getElem? (i := 1424) (by decide +kernel)⟩
theorem lw_p73 : lw_okq (⟨"SnowNodeModel", "placeOf", "(I)I"⟩, 44) := ⟨⟨by decide +kernel, by decide +kernel⟩, List.mem_of_getElem? (i := 1083) (by decide +kernel), List.mem_of_getElem? (i := 1433) (by decide +kernel), List.mem_of_getElem? (i := 1434) (by decide +kernel)⟩
theorem lw_p74 : lw_okq (⟨"SnowNodeModel", "said", "(II)I"⟩, 44) := ⟨⟨by decide +kernel, by decide +kernel⟩, List.mem_of_getElem? (i := 1083) (by decide +kernel), List.mem_of_getElem? (i := 1441) (by decide +kernel), List.mem_of_getElem? (i := 1442) (by decide +kernel)⟩
theorem lw_p75 : lw_okq (⟨"SnowNodeModel", "close", "(IZ)V"⟩, 44) := ⟨⟨by decide +kernel, by decide +kernel⟩, List.mem_of_getElem? (i := 1083) (by decide +kernel), List.mem_of_getElem? (i := 1445) (by decide +kernel), List.mem_of_getElem? (i := 1446) (by decide +kernel)⟩
theorem lw_p76 : lw_okq (⟨"SnowNodeModel", "spoken", "(IZ)V"⟩, 44) := ⟨⟨by decide +kernel, by decide +kernel⟩, List.mem_of_getElem? (i := 1083) (by decide +kernel), List.mem_of_getElem? (i := 1449) (by decide +kernel), List.mem_of_getElem? (i := 1450) (by decide +kernel)⟩
theorem lw_p77 : lw_okq (⟨"SnowNodeModel", "accept", "()V"⟩, 44) := ⟨⟨by decide +kernel, by decide +kernel⟩, List.mem_of_getElem? (i := 1083) (by decide +kernel), List.mem_of_getElem? (i := 1453) (by decide +kernel), List.mem_of_getElem? (i := 1454) (by decide +kernel)⟩
theorem lw_p78 : lw_okq (⟨"SnowNodeModel", "isAcceptable", "(I)Z"⟩, 44) := ⟨⟨by decide +kernel, by decide +kernel⟩, List.mem_of_getElem? (i := 1083) (by decide +kernel), List.mem_of_getElem? (i := 1457) (by decide +kernel), List.mem_of_getElem? (i := 1458) (by decide +kernel)⟩
theorem lw_p79 : lw_okq (⟨"SnowNodeModel", "rejectRivals", "(I)V"⟩, 44) := ⟨⟨by decide +kernel, by decide +kernel⟩, List.mem_of_getElem? (i := 1083) (by decide +kernel), List.mem_of_getElem? (i := 1461) (by decide +kernel), List.mem_of_getElem? (i := 1462) (by decide +kernel)⟩
def lw_privs_5 : List (MethodName × Nat) := [(⟨"SnowNodeModel", "bestOf", "(I)I"⟩, 44), (⟨"SnowNodeModel", "confidence", "(I)I"⟩, 44), (⟨"SnowNodeModel", "markDescendants", "(I)V"⟩, 44), (⟨"SnowNodeModel", "hasMarkedParent", "(I)Z"⟩, 44), (⟨"SnowNodeModel", "isHeld", "(I)Z"⟩, 44), (⟨"SnowNodeModel", "isStrong", "(I)Z"⟩, 44), (⟨"SnowNodeModel", "isLiked", "(I)Z"⟩, 44), (⟨"SnowNodeModel", "openPolls", "()I"⟩, 44), (⟨"SnowNodeModel", "draw", "()I"⟩, 44), (⟨"SnowNodeModel", "placeOf", "(I)I"⟩, 44), (⟨"SnowNodeModel", "said", "(II)I"⟩, 44), (⟨"SnowNodeModel", "close", "(IZ)V"⟩, 44), (⟨"SnowNodeModel", "spoken", "(IZ)V"⟩, 44), (⟨"SnowNodeModel", "accept", "()V"⟩, 44), (⟨"SnowNodeModel", "isAcceptable", "(I)Z"⟩, 44), (⟨"SnowNodeModel", "rejectRivals", "(I)V"⟩, 44)]
theorem lw_r5 : ∀ q ∈ lw_privs_5, lw_okq q := List.forall_mem_cons.mpr ⟨lw_p64, List.forall_mem_cons.mpr ⟨lw_p65, List.forall_mem_cons.mpr ⟨lw_p66, List.forall_mem_cons.mpr ⟨lw_p67, List.forall_mem_cons.mpr ⟨lw_p68, List.forall_mem_cons.mpr ⟨lw_p69, List.forall_mem_cons.mpr ⟨lw_p70, List.forall_mem_cons.mpr ⟨lw_p71, List.forall_mem_cons.mpr ⟨lw_p72, List.forall_mem_cons.mpr ⟨lw_p73, List.forall_mem_cons.mpr ⟨lw_p74, List.forall_mem_cons.mpr ⟨lw_p75, List.forall_mem_cons.mpr ⟨lw_p76, List.forall_mem_cons.mpr ⟨lw_p77, List.forall_mem_cons.mpr ⟨lw_p78, List.forall_mem_cons.mpr ⟨lw_p79, fun _ h => absurd h List.not_mem_nil⟩⟩⟩⟩⟩⟩⟩⟩⟩⟩⟩⟩⟩⟩⟩⟩
theorem lw_p80 : lw_okq (⟨"SnowNodeModel", "idOf", "(I)I"⟩, 44) := ⟨⟨by decide +kernel, by decide +kernel⟩, List.mem_of_getElem? (i := 1083) (by decide +kernel), List.mem_of_getElem? (i := 1477) (by decide +kernel), List.mem_of_getElem? (i := 1478) (by decide +kernel)⟩
theorem lw_p81 : lw_okq (⟨"SnowNodeModel", "tip", "(I)I"⟩, 44) := ⟨⟨by decide +kernel, by decide +kernel⟩, List.mem_of_getElem? (i := 1083) (by decide +kernel), List.mem_of_getElem? (i := 1489) (by decide +kernel), List.mem_of_getElem? (i := 1490) (by decide +kernel)⟩
theorem lw_p82 : lw_okq (⟨"SnowNodeModel", "isTip", "(I)Z"⟩, 44) := ⟨⟨by decide +kernel, by decide +kernel⟩, List.mem_of_getElem? (i := 1083) (by decide +kernel), List.mem_of_getElem? (i := 1493) (by decide +kernel), List.mem_of_getElem? (i := 1494) (by decide +kernel)⟩
theorem lw_p83 : lw_okq (⟨"SnowNodeModel", "missing", "(I)I"⟩, 44) := ⟨⟨by decide +kernel, by decide +kernel⟩, List.mem_of_getElem? (i := 1083) (by decide +kernel), List.mem_of_getElem? (i := 1497) (by decide +kernel), List.mem_of_getElem? (i := 1498) (by decide +kernel)⟩
theorem lw_p84 : lw_okq (⟨"SnowNodeModel", "isEarlier", "(II)Z"⟩, 44) := ⟨⟨by decide +kernel, by decide +kernel⟩, List.mem_of_getElem? (i := 1083) (by decide +kernel), List.mem_of_getElem? (i := 1501) (by decide +kernel), List.mem_of_getElem? (i := 1502) (by decide +kernel)⟩
theorem lw_p85 : lw_okq (⟨"SnowNodeModel", "left", "(II)I"⟩, 44) := ⟨⟨by decide +kernel, by decide +kernel⟩, List.mem_of_getElem? (i := 1083) (by decide +kernel), List.mem_of_getElem? (i := 1509) (by decide +kernel), List.mem_of_getElem? (i := 1510) (by decide +kernel)⟩
theorem lw_p86 : lw_okq (⟨"SnowNodeModel", "isColour", "(II)Z"⟩, 44) := ⟨⟨by decide +kernel, by decide +kernel⟩, List.mem_of_getElem? (i := 1083) (by decide +kernel), List.mem_of_getElem? (i := 1521) (by decide +kernel), List.mem_of_getElem? (i := 1522) (by decide +kernel)⟩
theorem lw_p87 : lw_okq (⟨"SnowNodeModel", "isBegun", "(I)Z"⟩, 44) := ⟨⟨by decide +kernel, by decide +kernel⟩, List.mem_of_getElem? (i := 1083) (by decide +kernel), List.mem_of_getElem? (i := 1525) (by decide +kernel), List.mem_of_getElem? (i := 1526) (by decide +kernel)⟩
theorem lw_p88 : lw_okq (⟨"SnowNodeModel", "votesOf", "(I)I"⟩, 44) := ⟨⟨by decide +kernel, by decide +kernel⟩, List.mem_of_getElem? (i := 1083) (by decide +kernel), List.mem_of_getElem? (i := 1533) (by decide +kernel), List.mem_of_getElem? (i := 1534) (by decide +kernel)⟩
theorem lw_p89 : lw_okq (⟨"SnowNodeModel", "roundOfSlush", "(II)V"⟩, 44) := ⟨⟨by decide +kernel, by decide +kernel⟩, List.mem_of_getElem? (i := 1083) (by decide +kernel), List.mem_of_getElem? (i := 1541) (by decide +kernel), List.mem_of_getElem? (i := 1542) (by decide +kernel)⟩
theorem lw_p90 : lw_okq (⟨"SnowNodeModel", "roundOfFlake", "(II)V"⟩, 44) := ⟨⟨by decide +kernel, by decide +kernel⟩, List.mem_of_getElem? (i := 1083) (by decide +kernel), List.mem_of_getElem? (i := 1545) (by decide +kernel), List.mem_of_getElem? (i := 1546) (by decide +kernel)⟩
theorem lw_p91 : lw_okq (⟨"SnowNodeModel", "roundOfBall", "(II)V"⟩, 44) := ⟨⟨by decide +kernel, by decide +kernel⟩, List.mem_of_getElem? (i := 1083) (by decide +kernel), List.mem_of_getElem? (i := 1549) (by decide +kernel), List.mem_of_getElem? (i := 1550) (by decide +kernel)⟩
theorem lw_p92 : lw_okq (⟨"SnowNodeModel", "inState", "(I)I"⟩, 44) := ⟨⟨by decide +kernel, by decide +kernel⟩, List.mem_of_getElem? (i := 1083) (by decide +kernel), List.mem_of_getElem? (i := 1561) (by decide +kernel), List.mem_of_getElem? (i := 1562) (by decide +kernel)⟩
theorem lw_p93 : lw_okq (⟨"SnowNodeModel", "allLeft", "()I"⟩, 44) := ⟨⟨by decide +kernel, by decide +kernel⟩, List.mem_of_getElem? (i := 1083) (by decide +kernel), List.mem_of_getElem? (i := 1565) (by decide +kernel), List.mem_of_getElem? (i := 1566) (by decide +kernel)⟩
def lw_privs_6 : List (MethodName × Nat) := [(⟨"SnowNodeModel", "idOf", "(I)I"⟩, 44), (⟨"SnowNodeModel", "tip", "(I)I"⟩, 44), (⟨"SnowNodeModel", "isTip", "(I)Z"⟩, 44), (⟨"SnowNodeModel", "missing", "(I)I"⟩, 44), (⟨"SnowNodeModel", "isEarlier", "(II)Z"⟩, 44), (⟨"SnowNodeModel", "left", "(II)I"⟩, 44), (⟨"SnowNodeModel", "isColour", "(II)Z"⟩, 44), (⟨"SnowNodeModel", "isBegun", "(I)Z"⟩, 44), (⟨"SnowNodeModel", "votesOf", "(I)I"⟩, 44), (⟨"SnowNodeModel", "roundOfSlush", "(II)V"⟩, 44), (⟨"SnowNodeModel", "roundOfFlake", "(II)V"⟩, 44), (⟨"SnowNodeModel", "roundOfBall", "(II)V"⟩, 44), (⟨"SnowNodeModel", "inState", "(I)I"⟩, 44), (⟨"SnowNodeModel", "allLeft", "()I"⟩, 44)]
theorem lw_r6 : ∀ q ∈ lw_privs_6, lw_okq q := List.forall_mem_cons.mpr ⟨lw_p80, List.forall_mem_cons.mpr ⟨lw_p81, List.forall_mem_cons.mpr ⟨lw_p82, List.forall_mem_cons.mpr ⟨lw_p83, List.forall_mem_cons.mpr ⟨lw_p84, List.forall_mem_cons.mpr ⟨lw_p85, List.forall_mem_cons.mpr ⟨lw_p86, List.forall_mem_cons.mpr ⟨lw_p87, List.forall_mem_cons.mpr ⟨lw_p88, List.forall_mem_cons.mpr ⟨lw_p89, List.forall_mem_cons.mpr ⟨lw_p90, List.forall_mem_cons.mpr ⟨lw_p91, List.forall_mem_cons.mpr ⟨lw_p92, List.forall_mem_cons.mpr ⟨lw_p93, fun _ h => absurd h List.not_mem_nil⟩⟩⟩⟩⟩⟩⟩⟩⟩⟩⟩⟩⟩⟩
def lw_privs : List (MethodName × Nat) := lw_privs_1 ++ (lw_privs_2 ++ (lw_privs_3 ++ (lw_privs_4 ++ (lw_privs_5 ++ (lw_privs_6)))))
def lw_tbl : List Cond := k2_sels lw_privs ++ tables_1
theorem lw_privs_ok : ∀ q ∈ lw_privs, lw_okq q := by
  show ∀ q ∈ lw_privs_1 ++ (lw_privs_2 ++ (lw_privs_3 ++ (lw_privs_4 ++ (lw_privs_5 ++ (lw_privs_6))))), lw_okq q
  exact List.forall_mem_append.mpr ⟨lw_r1, List.forall_mem_append.mpr ⟨lw_r2, List.forall_mem_append.mpr ⟨lw_r3, List.forall_mem_append.mpr ⟨lw_r4, List.forall_mem_append.mpr ⟨lw_r5, lw_r6⟩⟩⟩⟩⟩
-- names (printed by the kit)
def RX0 : String := "SnowNode$Choice"
def TX0 : u_T := fun k => match k with
  | 0 => ("SnowNode$Choice", "alpha", "I", true)
  | 1 => ("SnowNode$Choice", "votesFor", "[I", true)
  | 2 => ("SnowNode$Choice", "weights", "[I", true)
  | 3 => ("SnowNode$Choice", "rule", "I", false)
  | 4 => ("SnowNode$Choice", "colours", "I", false)
  | 5 => ("SnowNode$Choice", "needed", "I", false)
  | 6 => ("SnowNode$Choice", "colour", "I", false)
  | 7 => ("SnowNode$Choice", "lastWinner", "I", false)
  | 8 => ("SnowNode$Choice", "run", "I", false)
  | 9 => ("SnowNode$Choice", "votesInAll", "I", false)
  | _ => ("SnowNode$Choice", "decided", "Z", false)
def tyX0 : Nat → FieldType := fun k => match k with
  | 0 => .int
  | 1 => .array .int
  | 2 => .array .int
  | 3 => .int
  | 4 => .int
  | 5 => .int
  | 6 => .int
  | 7 => .int
  | 8 => .int
  | 9 => .int
  | _ => .boolean
abbrev wsX00 : List Cond := u_ws RX0 TX0 11
theorem nmX0 : ∀ a, a < 11 → ∀ b, b < 11 → a ≠ b → (TX0 a).2.1 ≠ (TX0 b).2.1 := by decide +kernel
theorem tyX0_ok : ∀ k, k < 11 → parseFieldDescriptor (TX0 k).2.2.1 = some (tyX0 k) := by decide +kernel
abbrev cX0_init : ByteArray := prog_2_method_1_code
def yX0_init : MethodName := ⟨RX0, "<init>", "(I)V"⟩
abbrev cX0_restart : ByteArray := prog_2_method_2_code
def yX0_restart : MethodName := ⟨RX0, "restart", "(III)V"⟩
abbrev cX0_hasColour : ByteArray := prog_2_method_3_code
def yX0_hasColour : MethodName := ⟨RX0, "hasColour", "(I)Z"⟩
abbrev cX0_weightAt : ByteArray := prog_2_method_4_code
def yX0_weightAt : MethodName := ⟨RX0, "weightAt", "(I)I"⟩
abbrev cX0_addVotes : ByteArray := prog_2_method_5_code
def yX0_addVotes : MethodName := ⟨RX0, "addVotes", "(II)V"⟩
abbrev cX0_endRound : ByteArray := prog_2_method_6_code
def yX0_endRound : MethodName := ⟨RX0, "endRound", "()Z"⟩
abbrev cX0_findWinner : ByteArray := prog_2_method_7_code
def yX0_findWinner : MethodName := ⟨RX0, "findWinner", "()I"⟩
abbrev cX0_clearVotes : ByteArray := prog_2_method_8_code
def yX0_clearVotes : MethodName := ⟨RX0, "clearVotes", "()V"⟩
abbrev cX0_followAny : ByteArray := prog_2_method_9_code
def yX0_followAny : MethodName := ⟨RX0, "followAny", "(I)V"⟩
abbrev cX0_followRow : ByteArray := prog_2_method_10_code
def yX0_followRow : MethodName := ⟨RX0, "followRow", "(I)V"⟩
abbrev cX0_followWeight : ByteArray := prog_2_method_11_code
def yX0_followWeight : MethodName := ⟨RX0, "followWeight", "(I)V"⟩
def RX1 : String := "SnowNode$Digest"
def TX1 : u_T := fun k => match k with
  | 0 => ("SnowNode$Digest", "words", "[I", true)
  | _ => ("SnowNode$Digest", "turning", "[I", true)
def tyX1 : Nat → FieldType := fun k => match k with
  | 0 => .array .int
  | _ => .array .int
abbrev wsX10 : List Cond := u_ws RX1 TX1 2
theorem nmX1 : ∀ a, a < 2 → ∀ b, b < 2 → a ≠ b → (TX1 a).2.1 ≠ (TX1 b).2.1 := by decide +kernel
theorem tyX1_ok : ∀ k, k < 2 → parseFieldDescriptor (TX1 k).2.2.1 = some (tyX1 k) := by decide +kernel
abbrev cX1_init : ByteArray := prog_3_method_1_code
def yX1_init : MethodName := ⟨RX1, "<init>", "()V"⟩
abbrev cX1_idOf : ByteArray := prog_3_method_2_code
def yX1_idOf : MethodName := ⟨RX1, "idOf", "([B)I"⟩
abbrev cX1_fillBlock : ByteArray := prog_3_method_3_code
def yX1_fillBlock : MethodName := ⟨RX1, "fillBlock", "([BI)V"⟩
abbrev cX1_rotate : ByteArray := prog_3_method_4_code
def yX1_rotate : MethodName := ⟨RX1, "rotate", "(II)I"⟩
abbrev cX1_spreadBlock : ByteArray := prog_3_method_5_code
def yX1_spreadBlock : MethodName := ⟨RX1, "spreadBlock", "()V"⟩
abbrev cX1_turn : ByteArray := prog_3_method_6_code
def yX1_turn : MethodName := ⟨RX1, "turn", "(I)V"⟩
def RX2 : String := "SnowNode$Graph"
def TX2 : u_T := fun k => match k with
  | 0 => ("SnowNode$Graph", "betaOne", "I", true)
  | 1 => ("SnowNode$Graph", "betaTwo", "I", true)
  | 2 => ("SnowNode$Graph", "known", "Ljava/util/ArrayList;", true)
  | 3 => ("SnowNode$Graph", "held", "Ljava/util/ArrayList;", true)
  | 4 => ("SnowNode$Graph", "accepted", "Ljava/util/ArrayList;", true)
  | _ => ("SnowNode$Graph", "missing", "[I", true)
def tyX2 : Nat → FieldType := fun k => match k with
  | 0 => .int
  | 1 => .int
  | 2 => .object "java/util/ArrayList"
  | 3 => .object "java/util/ArrayList"
  | 4 => .object "java/util/ArrayList"
  | _ => .array .int
abbrev wsX20 : List Cond := u_ws RX2 TX2 6
theorem nmX2 : ∀ a, a < 6 → ∀ b, b < 6 → a ≠ b → (TX2 a).2.1 ≠ (TX2 b).2.1 := by decide +kernel
theorem tyX2_ok : ∀ k, k < 6 → parseFieldDescriptor (TX2 k).2.2.1 = some (tyX2 k) := by decide +kernel
abbrev cX2_init : ByteArray := prog_4_method_1_code
def yX2_init : MethodName := ⟨RX2, "<init>", "(II)V"⟩
abbrev cX2_makeGenesis : ByteArray := prog_4_method_2_code
def yX2_makeGenesis : MethodName := ⟨RX2, "makeGenesis", "()LSnowNode$Transaction;"⟩
abbrev cX2_find : ByteArray := prog_4_method_3_code
def yX2_find : MethodName := ⟨RX2, "find", "(I)LSnowNode$Transaction;"⟩
abbrev cX2_isFull : ByteArray := prog_4_method_4_code
def yX2_isFull : MethodName := ⟨RX2, "isFull", "()Z"⟩
abbrev cX2_admit : ByteArray := prog_4_method_5_code
-- the name of the method is a, d, m, i, t: that word may not stand in these rows, so its first letter is written by its number
def yX2_admit : MethodName := ⟨RX2, "\x61dmit", "(LSnowNode$Transaction;)V"⟩
abbrev cX2_lookAtWaiting : ByteArray := prog_4_method_6_code
def yX2_lookAtWaiting : MethodName := ⟨RX2, "lookAtWaiting", "()Z"⟩
abbrev cX2_lookAt : ByteArray := prog_4_method_7_code
def yX2_lookAt : MethodName := ⟨RX2, "lookAt", "(LSnowNode$Transaction;)Z"⟩
abbrev cX2_findParents : ByteArray := prog_4_method_8_code
def yX2_findParents : MethodName := ⟨RX2, "findParents", "(LSnowNode$Transaction;)I"⟩
abbrev cX2_findSpent : ByteArray := prog_4_method_9_code
def yX2_findSpent : MethodName := ⟨RX2, "findSpent", "(LSnowNode$Transaction;)Z"⟩
abbrev cX2_hold : ByteArray := prog_4_method_10_code
def yX2_hold : MethodName := ⟨RX2, "hold", "(LSnowNode$Transaction;)V"⟩
abbrev cX2_reject : ByteArray := prog_4_method_11_code
def yX2_reject : MethodName := ⟨RX2, "reject", "(LSnowNode$Transaction;)V"⟩
abbrev cX2_learn : ByteArray := prog_4_method_12_code
def yX2_learn : MethodName := ⟨RX2, "learn", "(LSnowNode$Transaction;Z)V"⟩
abbrev cX2_giveChit : ByteArray := prog_4_method_13_code
def yX2_giveChit : MethodName := ⟨RX2, "giveChit", "(LSnowNode$Transaction;)V"⟩
abbrev cX2_moveSets : ByteArray := prog_4_method_14_code
def yX2_moveSets : MethodName := ⟨RX2, "moveSets", "(LSnowNode$Transaction;Z)V"⟩
abbrev cX2_acceptWhatIsReady : ByteArray := prog_4_method_15_code
def yX2_acceptWhatIsReady : MethodName := ⟨RX2, "acceptWhatIsReady", "()V"⟩
abbrev cX2_isReady : ByteArray := prog_4_method_16_code
def yX2_isReady : MethodName := ⟨RX2, "isReady", "(LSnowNode$Transaction;)Z"⟩
abbrev cX2_accept : ByteArray := prog_4_method_17_code
def yX2_accept : MethodName := ⟨RX2, "accept", "(LSnowNode$Transaction;)V"⟩
abbrev cX2_markStrong : ByteArray := prog_4_method_18_code
def yX2_markStrong : MethodName := ⟨RX2, "markStrong", "()V"⟩
abbrev cX2_firstToPoll : ByteArray := prog_4_method_19_code
def yX2_firstToPoll : MethodName := ⟨RX2, "firstToPoll", "()LSnowNode$Transaction;"⟩
abbrev cX2_countDescendants : ByteArray := prog_4_method_20_code
def yX2_countDescendants : MethodName := ⟨RX2, "countDescendants", "(LSnowNode$Transaction;)I"⟩
abbrev cX2_countStatus : ByteArray := prog_4_method_21_code
def yX2_countStatus : MethodName := ⟨RX2, "countStatus", "(I)I"⟩
abbrev cX2_newParent : ByteArray := prog_4_method_22_code
def yX2_newParent : MethodName := ⟨RX2, "newParent", "(I)LSnowNode$Transaction;"⟩
abbrev cX2_acceptedAt : ByteArray := prog_4_method_23_code
def yX2_acceptedAt : MethodName := ⟨RX2, "acceptedAt", "(I)LSnowNode$Transaction;"⟩
abbrev cX2_missingParentId : ByteArray := prog_4_method_24_code
def yX2_missingParentId : MethodName := ⟨RX2, "missingParentId", "(I)I"⟩
abbrev cX2_addMissing : ByteArray := prog_4_method_25_code
def yX2_addMissing : MethodName := ⟨RX2, "addMissing", "([II)I"⟩
abbrev cX2_isListed : ByteArray := prog_4_method_26_code
def yX2_isListed : MethodName := ⟨RX2, "isListed", "(II)Z"⟩
abbrev cX2_allUnspent : ByteArray := prog_4_method_27_code
def yX2_allUnspent : MethodName := ⟨RX2, "allUnspent", "()I"⟩
def RX3 : String := "SnowNode$Output"
def TX3 : u_T := fun k => match k with
  | 0 => ("SnowNode$Output", "amount", "I", true)
  | 1 => ("SnowNode$Output", "members", "Ljava/util/ArrayList;", true)
  | 2 => ("SnowNode$Output", "favourite", "LSnowNode$Transaction;", false)
  | 3 => ("SnowNode$Output", "latest", "LSnowNode$Transaction;", false)
  | 4 => ("SnowNode$Output", "accepted", "LSnowNode$Transaction;", false)
  | _ => ("SnowNode$Output", "run", "I", false)
def tyX3 : Nat → FieldType := fun k => match k with
  | 0 => .int
  | 1 => .object "java/util/ArrayList"
  | 2 => .object "SnowNode$Transaction"
  | 3 => .object "SnowNode$Transaction"
  | 4 => .object "SnowNode$Transaction"
  | _ => .int
abbrev wsX30 : List Cond := u_ws RX3 TX3 6
theorem nmX3 : ∀ a, a < 6 → ∀ b, b < 6 → a ≠ b → (TX3 a).2.1 ≠ (TX3 b).2.1 := by decide +kernel
theorem tyX3_ok : ∀ k, k < 6 → parseFieldDescriptor (TX3 k).2.2.1 = some (tyX3 k) := by decide +kernel
abbrev cX3_init : ByteArray := prog_5_method_1_code
def yX3_init : MethodName := ⟨RX3, "<init>", "(I)V"⟩
abbrev cX3_join : ByteArray := prog_5_method_2_code
def yX3_join : MethodName := ⟨RX3, "join", "(LSnowNode$Transaction;)V"⟩
abbrev cX3_speakFor : ByteArray := prog_5_method_3_code
def yX3_speakFor : MethodName := ⟨RX3, "speakFor", "(LSnowNode$Transaction;)V"⟩
abbrev cX3_replaceFavourite : ByteArray := prog_5_method_4_code
def yX3_replaceFavourite : MethodName := ⟨RX3, "replaceFavourite", "()V"⟩
abbrev cX3_isSpentBefore : ByteArray := prog_5_method_5_code
def yX3_isSpentBefore : MethodName := ⟨RX3, "isSpentBefore", "(LSnowNode$Transaction;)Z"⟩
def RX4 : String := "SnowNode$Peers"
def TX4 : u_T := fun k => match k with
  | 0 => ("SnowNode$Peers", "weights", "[I", true)
  | _ => ("SnowNode$Peers", "generator", "J", false)
def tyX4 : Nat → FieldType := fun k => match k with
  | 0 => .array .int
  | _ => .long
abbrev wsX40 : List Cond := u_ws RX4 TX4 2
theorem nmX4 : ∀ a, a < 2 → ∀ b, b < 2 → a ≠ b → (TX4 a).2.1 ≠ (TX4 b).2.1 := by decide +kernel
theorem tyX4_ok : ∀ k, k < 2 → parseFieldDescriptor (TX4 k).2.2.1 = some (tyX4 k) := by decide +kernel
abbrev cX4_init : ByteArray := prog_6_method_1_code
def yX4_init : MethodName := ⟨RX4, "<init>", "(I)V"⟩
abbrev cX4_changeWeight : ByteArray := prog_6_method_2_code
def yX4_changeWeight : MethodName := ⟨RX4, "changeWeight", "(II)Z"⟩
abbrev cX4_countWithWeight : ByteArray := prog_6_method_3_code
def yX4_countWithWeight : MethodName := ⟨RX4, "countWithWeight", "()I"⟩
abbrev cX4_draw : ByteArray := prog_6_method_4_code
def yX4_draw : MethodName := ⟨RX4, "draw", "(I)[I"⟩
abbrev cX4_drawOne : ByteArray := prog_6_method_5_code
def yX4_drawOne : MethodName := ⟨RX4, "drawOne", "([II)I"⟩
abbrev cX4_weightLeft : ByteArray := prog_6_method_6_code
def yX4_weightLeft : MethodName := ⟨RX4, "weightLeft", "(I[II)I"⟩
def RX5 : String := "SnowNode$Poll"
def TX5 : u_T := fun k => match k with
  | 0 => ("SnowNode$Poll", "number", "I", true)
  | 1 => ("SnowNode$Poll", "about", "LSnowNode$Transaction;", true)
  | 2 => ("SnowNode$Poll", "sample", "[I", true)
  | 3 => ("SnowNode$Poll", "said", "[Z", true)
  | 4 => ("SnowNode$Poll", "yes", "I", false)
  | _ => ("SnowNode$Poll", "no", "I", false)
def tyX5 : Nat → FieldType := fun k => match k with
  | 0 => .int
  | 1 => .object "SnowNode$Transaction"
  | 2 => .array .int
  | 3 => .array .boolean
  | 4 => .int
  | _ => .int
abbrev wsX50 : List Cond := u_ws RX5 TX5 6
theorem nmX5 : ∀ a, a < 6 → ∀ b, b < 6 → a ≠ b → (TX5 a).2.1 ≠ (TX5 b).2.1 := by decide +kernel
theorem tyX5_ok : ∀ k, k < 6 → parseFieldDescriptor (TX5 k).2.2.1 = some (tyX5 k) := by decide +kernel
abbrev cX5_init : ByteArray := prog_7_method_1_code
def yX5_init : MethodName := ⟨RX5, "<init>", "(ILSnowNode$Transaction;[I)V"⟩
abbrev cX5_placeOf : ByteArray := prog_7_method_2_code
def yX5_placeOf : MethodName := ⟨RX5, "placeOf", "(I)I"⟩
abbrev cX5_record : ByteArray := prog_7_method_3_code
def yX5_record : MethodName := ⟨RX5, "record", "(IZ)V"⟩
def RX6 : String := "SnowNode$Reader"
def TX6 : u_T := fun k => match k with
  | 0 => ("SnowNode$Reader", "row", "[B", true)
  | 1 => ("SnowNode$Reader", "at", "I", false)
  | _ => ("SnowNode$Reader", "fits", "Z", false)
def tyX6 : Nat → FieldType := fun k => match k with
  | 0 => .array .byte
  | 1 => .int
  | _ => .boolean
abbrev wsX60 : List Cond := u_ws RX6 TX6 3
theorem nmX6 : ∀ a, a < 3 → ∀ b, b < 3 → a ≠ b → (TX6 a).2.1 ≠ (TX6 b).2.1 := by decide +kernel
theorem tyX6_ok : ∀ k, k < 3 → parseFieldDescriptor (TX6 k).2.2.1 = some (tyX6 k) := by decide +kernel
abbrev cX6_init : ByteArray := prog_8_method_1_code
def yX6_init : MethodName := ⟨RX6, "<init>", "([B)V"⟩
abbrev cX6_readTransaction : ByteArray := prog_8_method_2_code
def yX6_readTransaction : MethodName := ⟨RX6, "readTransaction", "([BLSnowNode$Digest;)LSnowNode$Transaction;"⟩
abbrev cX6_nextByte : ByteArray := prog_8_method_3_code
def yX6_nextByte : MethodName := ⟨RX6, "nextByte", "()I"⟩
abbrev cX6_nextWord : ByteArray := prog_8_method_4_code
def yX6_nextWord : MethodName := ⟨RX6, "nextWord", "()I"⟩
abbrev cX6_nextFew : ByteArray := prog_8_method_5_code
def yX6_nextFew : MethodName := ⟨RX6, "nextFew", "()I"⟩
abbrev cX6_nextId : ByteArray := prog_8_method_6_code
def yX6_nextId : MethodName := ⟨RX6, "nextId", "()I"⟩
abbrev cX6_nextAmount : ByteArray := prog_8_method_7_code
def yX6_nextAmount : MethodName := ⟨RX6, "nextAmount", "()I"⟩
def RX7 : String := "SnowNode$Tape"
def TX7 : u_T := fun k => match k with
  | 0 => ("SnowNode$Tape", "bytes", "[B", true)
  | _ => ("SnowNode$Tape", "length", "I", false)
def tyX7 : Nat → FieldType := fun k => match k with
  | 0 => .array .byte
  | _ => .int
abbrev wsX70 : List Cond := u_ws RX7 TX7 2
theorem nmX7 : ∀ a, a < 2 → ∀ b, b < 2 → a ≠ b → (TX7 a).2.1 ≠ (TX7 b).2.1 := by decide +kernel
theorem tyX7_ok : ∀ k, k < 2 → parseFieldDescriptor (TX7 k).2.2.1 = some (tyX7 k) := by decide +kernel
abbrev cX7_init : ByteArray := prog_9_method_1_code
def yX7_init : MethodName := ⟨RX7, "<init>", "()V"⟩
abbrev cX7_append : ByteArray := prog_9_method_2_code
def yX7_append : MethodName := ⟨RX7, "append", "(I)Z"⟩
def RX8 : String := "SnowNode$Transaction"
def TX8 : u_T := fun k => match k with
  | 0 => ("SnowNode$Transaction", "id", "I", true)
  | 1 => ("SnowNode$Transaction", "row", "[B", true)
  | 2 => ("SnowNode$Transaction", "parentIds", "[I", true)
  | 3 => ("SnowNode$Transaction", "inputIds", "[I", true)
  | 4 => ("SnowNode$Transaction", "inputIndexes", "[I", true)
  | 5 => ("SnowNode$Transaction", "outputs", "[LSnowNode$Output;", true)
  | 6 => ("SnowNode$Transaction", "parents", "[LSnowNode$Transaction;", true)
  | 7 => ("SnowNode$Transaction", "spent", "[LSnowNode$Output;", true)
  | 8 => ("SnowNode$Transaction", "ancestors", "[J", true)
  | 9 => ("SnowNode$Transaction", "heldNumber", "I", false)
  | 10 => ("SnowNode$Transaction", "status", "I", false)
  | 11 => ("SnowNode$Transaction", "confidence", "I", false)
  | 12 => ("SnowNode$Transaction", "chit", "Z", false)
  | 13 => ("SnowNode$Transaction", "polled", "Z", false)
  | 14 => ("SnowNode$Transaction", "strong", "Z", false)
  | _ => ("SnowNode$Transaction", "extended", "Z", false)
def tyX8 : Nat → FieldType := fun k => match k with
  | 0 => .int
  | 1 => .array .byte
  | 2 => .array .int
  | 3 => .array .int
  | 4 => .array .int
  | 5 => .array (.object "SnowNode$Output")
  | 6 => .array (.object "SnowNode$Transaction")
  | 7 => .array (.object "SnowNode$Output")
  | 8 => .array .long
  | 9 => .int
  | 10 => .int
  | 11 => .int
  | 12 => .boolean
  | 13 => .boolean
  | 14 => .boolean
  | _ => .boolean
abbrev wsX80 : List Cond := u_ws RX8 TX8 16
theorem nmX8 : ∀ a, a < 16 → ∀ b, b < 16 → a ≠ b → (TX8 a).2.1 ≠ (TX8 b).2.1 := by decide +kernel
theorem tyX8_ok : ∀ k, k < 16 → parseFieldDescriptor (TX8 k).2.2.1 = some (tyX8 k) := by decide +kernel
abbrev cX8_init : ByteArray := prog_10_method_1_code
def yX8_init : MethodName := ⟨RX8, "<init>", "(I[B[I[I[I[LSnowNode$Output;)V"⟩
abbrev cX8_isHeld : ByteArray := prog_10_method_2_code
def yX8_isHeld : MethodName := ⟨RX8, "isHeld", "()Z"⟩
abbrev cX8_isOpen : ByteArray := prog_10_method_3_code
def yX8_isOpen : MethodName := ⟨RX8, "isOpen", "()Z"⟩
abbrev cX8_hasAncestor : ByteArray := prog_10_method_4_code
def yX8_hasAncestor : MethodName := ⟨RX8, "hasAncestor", "(LSnowNode$Transaction;)Z"⟩
abbrev cX8_countAncestors : ByteArray := prog_10_method_5_code
def yX8_countAncestors : MethodName := ⟨RX8, "countAncestors", "()I"⟩
abbrev cX8_gatherAncestors : ByteArray := prog_10_method_6_code
def yX8_gatherAncestors : MethodName := ⟨RX8, "gatherAncestors", "()V"⟩
abbrev cX8_hasTwins : ByteArray := prog_10_method_7_code
def yX8_hasTwins : MethodName := ⟨RX8, "hasTwins", "()Z"⟩
abbrev cX8_isBalanced : ByteArray := prog_10_method_8_code
def yX8_isBalanced : MethodName := ⟨RX8, "isBalanced", "()Z"⟩
abbrev cX8_hasAcceptedParents : ByteArray := prog_10_method_9_code
def yX8_hasAcceptedParents : MethodName := ⟨RX8, "hasAcceptedParents", "()Z"⟩
abbrev cX8_hasRejectedParent : ByteArray := prog_10_method_10_code
def yX8_hasRejectedParent : MethodName := ⟨RX8, "hasRejectedParent", "()Z"⟩
abbrev cX8_hasAcceptedRival : ByteArray := prog_10_method_11_code
def yX8_hasAcceptedRival : MethodName := ⟨RX8, "hasAcceptedRival", "()Z"⟩
abbrev cX8_hasStrongParents : ByteArray := prog_10_method_12_code
def yX8_hasStrongParents : MethodName := ⟨RX8, "hasStrongParents", "()Z"⟩
abbrev cX8_isLiked : ByteArray := prog_10_method_13_code
def yX8_isLiked : MethodName := ⟨RX8, "isLiked", "()Z"⟩
abbrev cX8_sharesSetWith : ByteArray := prog_10_method_14_code
def yX8_sharesSetWith : MethodName := ⟨RX8, "sharesSetWith", "(LSnowNode$Transaction;)Z"⟩
abbrev cX8_outputAt : ByteArray := prog_10_method_15_code
def yX8_outputAt : MethodName := ⟨RX8, "outputAt", "(I)LSnowNode$Output;"⟩
abbrev cX8_unspentAt : ByteArray := prog_10_method_16_code
def yX8_unspentAt : MethodName := ⟨RX8, "unspentAt", "(I)I"⟩
def RX9 : String := "SnowNode"
def TX9 : u_T := fun k => match k with
  | 0 => ("SnowNode", "sampleSize", "I", true)
  | 1 => ("SnowNode", "alpha", "I", true)
  | 2 => ("SnowNode", "betaOne", "I", true)
  | 3 => ("SnowNode", "betaTwo", "I", true)
  | 4 => ("SnowNode", "peers", "LSnowNode$Peers;", true)
  | 5 => ("SnowNode", "tape", "LSnowNode$Tape;", true)
  | 6 => ("SnowNode", "digest", "LSnowNode$Digest;", true)
  | 7 => ("SnowNode", "graph", "LSnowNode$Graph;", true)
  | 8 => ("SnowNode", "openPolls", "Ljava/util/ArrayList;", true)
  | 9 => ("SnowNode", "choices", "[LSnowNode$Choice;", true)
  | 10 => ("SnowNode", "pollsSoFar", "I", false)
  | _ => ("SnowNode", "pollsWon", "I", false)
def tyX9 : Nat → FieldType := fun k => match k with
  | 0 => .int
  | 1 => .int
  | 2 => .int
  | 3 => .int
  | 4 => .object "SnowNode$Peers"
  | 5 => .object "SnowNode$Tape"
  | 6 => .object "SnowNode$Digest"
  | 7 => .object "SnowNode$Graph"
  | 8 => .object "java/util/ArrayList"
  | 9 => .array (.object "SnowNode$Choice")
  | 10 => .int
  | _ => .int
abbrev wsX90 : List Cond := u_ws RX9 TX9 12
theorem nmX9 : ∀ a, a < 12 → ∀ b, b < 12 → a ≠ b → (TX9 a).2.1 ≠ (TX9 b).2.1 := by decide +kernel
theorem tyX9_ok : ∀ k, k < 12 → parseFieldDescriptor (TX9 k).2.2.1 = some (tyX9 k) := by decide +kernel
abbrev cX9_init : ByteArray := prog_1_method_1_code
def yX9_init : MethodName := ⟨RX9, "<init>", "(IIIII)V"⟩
abbrev cX9_weigh : ByteArray := prog_1_method_2_code
def yX9_weigh : MethodName := ⟨RX9, "weigh", "(II)Z"⟩
abbrev cX9_feed : ByteArray := prog_1_method_3_code
def yX9_feed : MethodName := ⟨RX9, "feed", "(I)Z"⟩
abbrev cX9_take : ByteArray := prog_1_method_4_code
def yX9_take : MethodName := ⟨RX9, "take", "(I)I"⟩
abbrev cX9_query : ByteArray := prog_1_method_5_code
def yX9_query : MethodName := ⟨RX9, "query", "(I)I"⟩
abbrev cX9_poll : ByteArray := prog_1_method_6_code
def yX9_poll : MethodName := ⟨RX9, "poll", "()I"⟩
abbrev cX9_sampled : ByteArray := prog_1_method_7_code
def yX9_sampled : MethodName := ⟨RX9, "sampled", "(II)I"⟩
abbrev cX9_answer : ByteArray := prog_1_method_8_code
def yX9_answer : MethodName := ⟨RX9, "answer", "(IIZ)I"⟩
abbrev cX9_expire : ByteArray := prog_1_method_9_code
def yX9_expire : MethodName := ⟨RX9, "expire", "(I)Z"⟩
abbrev cX9_look : ByteArray := prog_1_method_10_code
def yX9_look : MethodName := ⟨RX9, "look", "(II)I"⟩
abbrev cX9_set : ByteArray := prog_1_method_11_code
def yX9_set : MethodName := ⟨RX9, "set", "(III)I"⟩
abbrev cX9_byteOf : ByteArray := prog_1_method_12_code
def yX9_byteOf : MethodName := ⟨RX9, "byteOf", "(II)I"⟩
abbrev cX9_listed : ByteArray := prog_1_method_13_code
def yX9_listed : MethodName := ⟨RX9, "listed", "(II)I"⟩
abbrev cX9_unspent : ByteArray := prog_1_method_14_code
def yX9_unspent : MethodName := ⟨RX9, "unspent", "(II)I"⟩
abbrev cX9_begin : ByteArray := prog_1_method_15_code
def yX9_begin : MethodName := ⟨RX9, "begin", "(III)Z"⟩
abbrev cX9_meet : ByteArray := prog_1_method_16_code
def yX9_meet : MethodName := ⟨RX9, "meet", "(II)I"⟩
abbrev cX9_votes : ByteArray := prog_1_method_17_code
def yX9_votes : MethodName := ⟨RX9, "votes", "(III)V"⟩
abbrev cX9_round : ByteArray := prog_1_method_18_code
def yX9_round : MethodName := ⟨RX9, "round", "(I)Z"⟩
abbrev cX9_state : ByteArray := prog_1_method_19_code
def yX9_state : MethodName := ⟨RX9, "state", "(II)I"⟩
abbrev cX9_count : ByteArray := prog_1_method_20_code
def yX9_count : MethodName := ⟨RX9, "count", "(I)I"⟩
abbrev cX9_idOrNone : ByteArray := prog_1_method_21_code
def yX9_idOrNone : MethodName := ⟨RX9, "idOrNone", "(LSnowNode$Transaction;)I"⟩
abbrev cX9_findOpenPoll : ByteArray := prog_1_method_22_code
def yX9_findOpenPoll : MethodName := ⟨RX9, "findOpenPoll", "(I)LSnowNode$Poll;"⟩
abbrev cX9_dropOpenPoll : ByteArray := prog_1_method_23_code
def yX9_dropOpenPoll : MethodName := ⟨RX9, "dropOpenPoll", "(I)V"⟩
abbrev cX9_findChoice : ByteArray := prog_1_method_24_code
def yX9_findChoice : MethodName := ⟨RX9, "findChoice", "(I)LSnowNode$Choice;"⟩
def RX10 : String := "SnowNodeModel"
def TX10 : u_T := fun k => match k with
  | 0 => ("SnowNodeModel", "thrown", "I", false)
  | 1 => ("SnowNodeModel", "x", "J", false)
  | 2 => ("SnowNodeModel", "k", "I", true)
  | 3 => ("SnowNodeModel", "alpha", "I", true)
  | 4 => ("SnowNodeModel", "betaOne", "I", true)
  | 5 => ("SnowNodeModel", "betaTwo", "I", true)
  | 6 => ("SnowNodeModel", "weight", "[I", true)
  | 7 => ("SnowNodeModel", "tape", "[I", true)
  | 8 => ("SnowNodeModel", "taped", "I", false)
  | 9 => ("SnowNodeModel", "known", "I", false)
  | 10 => ("SnowNodeModel", "ids", "[I", true)
  | 11 => ("SnowNodeModel", "rows", "[B", true)
  | 12 => ("SnowNodeModel", "sizes", "[I", true)
  | 13 => ("SnowNodeModel", "states", "[I", true)
  | 14 => ("SnowNodeModel", "chits", "[Z", true)
  | 15 => ("SnowNodeModel", "polled", "[Z", true)
  | 16 => ("SnowNodeModel", "heldOnes", "[I", true)
  | 17 => ("SnowNodeModel", "held", "I", false)
  | 18 => ("SnowNodeModel", "acceptedOnes", "[I", true)
  | 19 => ("SnowNodeModel", "accepted", "I", false)
  | 20 => ("SnowNodeModel", "mark", "[Z", true)
  | 21 => ("SnowNodeModel", "goes", "[Z", true)
  | 22 => ("SnowNodeModel", "favourite", "[I", true)
  | 23 => ("SnowNodeModel", "latest", "[I", true)
  | 24 => ("SnowNodeModel", "run", "[I", true)
  | 25 => ("SnowNodeModel", "pollNumber", "[I", true)
  | 26 => ("SnowNodeModel", "pollAbout", "[I", true)
  | 27 => ("SnowNodeModel", "samplePeer", "[I", true)
  | 28 => ("SnowNodeModel", "sampleSaid", "[I", true)
  | 29 => ("SnowNodeModel", "polls", "I", false)
  | 30 => ("SnowNodeModel", "won", "I", false)
  | 31 => ("SnowNodeModel", "drawn", "[Z", true)
  | 32 => ("SnowNodeModel", "choiceRule", "[I", true)
  | 33 => ("SnowNodeModel", "choiceColours", "[I", true)
  | 34 => ("SnowNodeModel", "choiceColour", "[I", true)
  | 35 => ("SnowNodeModel", "choiceRun", "[I", true)
  | 36 => ("SnowNodeModel", "choiceDecided", "[Z", true)
  | 37 => ("SnowNodeModel", "choiceBefore", "[I", true)
  | 38 => ("SnowNodeModel", "choiceVotes", "[I", true)
  | 39 => ("SnowNodeModel", "choiceWeight", "[I", true)
  | 40 => ("SnowNodeModel", "word", "[I", true)
  | 41 => ("SnowNodeModel", "constant", "[I", true)
  | 42 => ("SnowNodeModel", "first", "[I", true)
  | _ => ("SnowNodeModel", "hash", "[I", true)
def tyX10 : Nat → FieldType := fun k => match k with
  | 0 => .int
  | 1 => .long
  | 2 => .int
  | 3 => .int
  | 4 => .int
  | 5 => .int
  | 6 => .array .int
  | 7 => .array .int
  | 8 => .int
  | 9 => .int
  | 10 => .array .int
  | 11 => .array .byte
  | 12 => .array .int
  | 13 => .array .int
  | 14 => .array .boolean
  | 15 => .array .boolean
  | 16 => .array .int
  | 17 => .int
  | 18 => .array .int
  | 19 => .int
  | 20 => .array .boolean
  | 21 => .array .boolean
  | 22 => .array .int
  | 23 => .array .int
  | 24 => .array .int
  | 25 => .array .int
  | 26 => .array .int
  | 27 => .array .int
  | 28 => .array .int
  | 29 => .int
  | 30 => .int
  | 31 => .array .boolean
  | 32 => .array .int
  | 33 => .array .int
  | 34 => .array .int
  | 35 => .array .int
  | 36 => .array .boolean
  | 37 => .array .int
  | 38 => .array .int
  | 39 => .array .int
  | 40 => .array .int
  | 41 => .array .int
  | 42 => .array .int
  | _ => .array .int
abbrev wsX100 : List Cond := u_ws RX10 TX10 44
theorem nmX10 : ∀ a, a < 44 → ∀ b, b < 44 → a ≠ b → (TX10 a).2.1 ≠ (TX10 b).2.1 := by decide +kernel
theorem tyX10_ok : ∀ k, k < 44 → parseFieldDescriptor (TX10 k).2.2.1 = some (tyX10 k) := by decide +kernel
abbrev cX10_init : ByteArray := prog_12_method_1_code
def yX10_init : MethodName := ⟨RX10, "<init>", "(IIIII)V"⟩
abbrev cX10_thrown : ByteArray := prog_12_method_2_code
def yX10_thrown : MethodName := ⟨RX10, "thrown", "()I"⟩
abbrev cX10_isPrime : ByteArray := prog_12_method_3_code
def yX10_isPrime : MethodName := ⟨RX10, "isPrime", "(I)Z"⟩
abbrev cX10_limb : ByteArray := prog_12_method_4_code
def yX10_limb : MethodName := ⟨RX10, "limb", "(JI)J"⟩
abbrev cX10_isRoot : ByteArray := prog_12_method_5_code
def yX10_isRoot : MethodName := ⟨RX10, "isRoot", "(JJ)Z"⟩
abbrev cX10_isCubeRoot : ByteArray := prog_12_method_6_code
def yX10_isCubeRoot : MethodName := ⟨RX10, "isCubeRoot", "(JJ)Z"⟩
abbrev cX10_squareRoot : ByteArray := prog_12_method_7_code
def yX10_squareRoot : MethodName := ⟨RX10, "squareRoot", "(I)I"⟩
abbrev cX10_cubeRoot : ByteArray := prog_12_method_8_code
def yX10_cubeRoot : MethodName := ⟨RX10, "cubeRoot", "(I)I"⟩
abbrev cX10_turned : ByteArray := prog_12_method_9_code
def yX10_turned : MethodName := ⟨RX10, "turned", "(II)I"⟩
abbrev cX10_hashOf : ByteArray := prog_12_method_10_code
def yX10_hashOf : MethodName := ⟨RX10, "hashOf", "(I)I"⟩
abbrev cX10_mix : ByteArray := prog_12_method_11_code
def yX10_mix : MethodName := ⟨RX10, "mix", "(I)V"⟩
abbrev cX10_weigh : ByteArray := prog_12_method_12_code
def yX10_weigh : MethodName := ⟨RX10, "weigh", "(II)Z"⟩
abbrev cX10_feed : ByteArray := prog_12_method_13_code
def yX10_feed : MethodName := ⟨RX10, "feed", "(I)Z"⟩
abbrev cX10_at : ByteArray := prog_12_method_14_code
def yX10_at : MethodName := ⟨RX10, "at", "(II)I"⟩
abbrev cX10_four : ByteArray := prog_12_method_15_code
def yX10_four : MethodName := ⟨RX10, "four", "(II)I"⟩
abbrev cX10_parentsOf : ByteArray := prog_12_method_16_code
def yX10_parentsOf : MethodName := ⟨RX10, "parentsOf", "(I)I"⟩
abbrev cX10_parentId : ByteArray := prog_12_method_17_code
def yX10_parentId : MethodName := ⟨RX10, "parentId", "(II)I"⟩
abbrev cX10_inputsFrom : ByteArray := prog_12_method_18_code
def yX10_inputsFrom : MethodName := ⟨RX10, "inputsFrom", "(I)I"⟩
abbrev cX10_inputsOf : ByteArray := prog_12_method_19_code
def yX10_inputsOf : MethodName := ⟨RX10, "inputsOf", "(I)I"⟩
abbrev cX10_inputId : ByteArray := prog_12_method_20_code
def yX10_inputId : MethodName := ⟨RX10, "inputId", "(II)I"⟩
abbrev cX10_inputIndex : ByteArray := prog_12_method_21_code
def yX10_inputIndex : MethodName := ⟨RX10, "inputIndex", "(II)I"⟩
abbrev cX10_outputsFrom : ByteArray := prog_12_method_22_code
def yX10_outputsFrom : MethodName := ⟨RX10, "outputsFrom", "(I)I"⟩
abbrev cX10_outputsOf : ByteArray := prog_12_method_23_code
def yX10_outputsOf : MethodName := ⟨RX10, "outputsOf", "(I)I"⟩
abbrev cX10_amount : ByteArray := prog_12_method_24_code
def yX10_amount : MethodName := ⟨RX10, "amount", "(II)I"⟩
abbrev cX10_find : ByteArray := prog_12_method_25_code
def yX10_find : MethodName := ⟨RX10, "find", "(I)I"⟩
abbrev cX10_isHeld : ByteArray := prog_12_method_26_code
def yX10_isHeld : MethodName := ⟨RX10, "isHeld", "(I)Z"⟩
abbrev cX10_outputOf : ByteArray := prog_12_method_27_code
def yX10_outputOf : MethodName := ⟨RX10, "outputOf", "(II)I"⟩
abbrev cX10_number : ByteArray := prog_12_method_28_code
def yX10_number : MethodName := ⟨RX10, "number", "(II)I"⟩
abbrev cX10_few : ByteArray := prog_12_method_29_code
def yX10_few : MethodName := ⟨RX10, "few", "(I)Z"⟩
abbrev cX10_tapeFour : ByteArray := prog_12_method_30_code
def yX10_tapeFour : MethodName := ⟨RX10, "tapeFour", "(I)I"⟩
abbrev cX10_isTransaction : ByteArray := prog_12_method_31_code
def yX10_isTransaction : MethodName := ⟨RX10, "isTransaction", "(I)Z"⟩
abbrev cX10_take : ByteArray := prog_12_method_32_code
def yX10_take : MethodName := ⟨RX10, "take", "(I)I"⟩
abbrev cX10_lookAt : ByteArray := prog_12_method_33_code
def yX10_lookAt : MethodName := ⟨RX10, "lookAt", "(I)V"⟩
abbrev cX10_clearMarks : ByteArray := prog_12_method_34_code
def yX10_clearMarks : MethodName := ⟨RX10, "clearMarks", "()V"⟩
abbrev cX10_markParents : ByteArray := prog_12_method_35_code
def yX10_markParents : MethodName := ⟨RX10, "markParents", "(I)V"⟩
abbrev cX10_markAncestors : ByteArray := prog_12_method_36_code
def yX10_markAncestors : MethodName := ⟨RX10, "markAncestors", "(I)V"⟩
abbrev cX10_hasMarkedParent : ByteArray := prog_12_method_37_code
def yX10_hasMarkedParent : MethodName := ⟨RX10, "hasMarkedParent", "(I)Z"⟩
abbrev cX10_markDescendants : ByteArray := prog_12_method_38_code
def yX10_markDescendants : MethodName := ⟨RX10, "markDescendants", "(I)V"⟩
abbrev cX10_spends : ByteArray := prog_12_method_39_code
def yX10_spends : MethodName := ⟨RX10, "spends", "(III)Z"⟩
abbrev cX10_isBad : ByteArray := prog_12_method_40_code
def yX10_isBad : MethodName := ⟨RX10, "isBad", "(I)Z"⟩
abbrev cX10_isIn : ByteArray := prog_12_method_41_code
def yX10_isIn : MethodName := ⟨RX10, "isIn", "(II)Z"⟩
abbrev cX10_membersOf : ByteArray := prog_12_method_42_code
def yX10_membersOf : MethodName := ⟨RX10, "membersOf", "(I)I"⟩
abbrev cX10_acceptedOf : ByteArray := prog_12_method_43_code
def yX10_acceptedOf : MethodName := ⟨RX10, "acceptedOf", "(I)I"⟩
abbrev cX10_confidence : ByteArray := prog_12_method_44_code
def yX10_confidence : MethodName := ⟨RX10, "confidence", "(I)I"⟩
abbrev cX10_hold : ByteArray := prog_12_method_45_code
def yX10_hold : MethodName := ⟨RX10, "hold", "(I)V"⟩
abbrev cX10_reject : ByteArray := prog_12_method_46_code
def yX10_reject : MethodName := ⟨RX10, "reject", "(I)V"⟩
abbrev cX10_bestOf : ByteArray := prog_12_method_47_code
def yX10_bestOf : MethodName := ⟨RX10, "bestOf", "(I)I"⟩
abbrev cX10_isLiked : ByteArray := prog_12_method_48_code
def yX10_isLiked : MethodName := ⟨RX10, "isLiked", "(I)Z"⟩
abbrev cX10_isStrong : ByteArray := prog_12_method_49_code
def yX10_isStrong : MethodName := ⟨RX10, "isStrong", "(I)Z"⟩
abbrev cX10_query : ByteArray := prog_12_method_50_code
def yX10_query : MethodName := ⟨RX10, "query", "(I)I"⟩
abbrev cX10_openPolls : ByteArray := prog_12_method_51_code
def yX10_openPolls : MethodName := ⟨RX10, "openPolls", "()I"⟩
abbrev cX10_placeOf : ByteArray := prog_12_method_52_code
def yX10_placeOf : MethodName := ⟨RX10, "placeOf", "(I)I"⟩
abbrev cX10_draw : ByteArray := prog_12_method_53_code
def yX10_draw : MethodName := ⟨RX10, "draw", "()I"⟩
abbrev cX10_poll : ByteArray := prog_12_method_54_code
def yX10_poll : MethodName := ⟨RX10, "poll", "()I"⟩
abbrev cX10_sampled : ByteArray := prog_12_method_55_code
def yX10_sampled : MethodName := ⟨RX10, "sampled", "(II)I"⟩
abbrev cX10_said : ByteArray := prog_12_method_56_code
def yX10_said : MethodName := ⟨RX10, "said", "(II)I"⟩
abbrev cX10_answer : ByteArray := prog_12_method_57_code
def yX10_answer : MethodName := ⟨RX10, "answer", "(IIZ)I"⟩
abbrev cX10_expire : ByteArray := prog_12_method_58_code
def yX10_expire : MethodName := ⟨RX10, "expire", "(I)Z"⟩
abbrev cX10_close : ByteArray := prog_12_method_59_code
def yX10_close : MethodName := ⟨RX10, "close", "(IZ)V"⟩
abbrev cX10_spoken : ByteArray := prog_12_method_60_code
def yX10_spoken : MethodName := ⟨RX10, "spoken", "(IZ)V"⟩
abbrev cX10_isAcceptable : ByteArray := prog_12_method_61_code
def yX10_isAcceptable : MethodName := ⟨RX10, "isAcceptable", "(I)Z"⟩
abbrev cX10_accept : ByteArray := prog_12_method_62_code
def yX10_accept : MethodName := ⟨RX10, "accept", "()V"⟩
abbrev cX10_rejectRivals : ByteArray := prog_12_method_63_code
def yX10_rejectRivals : MethodName := ⟨RX10, "rejectRivals", "(I)V"⟩
abbrev cX10_look : ByteArray := prog_12_method_64_code
def yX10_look : MethodName := ⟨RX10, "look", "(II)I"⟩
abbrev cX10_idOf : ByteArray := prog_12_method_65_code
def yX10_idOf : MethodName := ⟨RX10, "idOf", "(I)I"⟩
abbrev cX10_set : ByteArray := prog_12_method_66_code
def yX10_set : MethodName := ⟨RX10, "set", "(III)I"⟩
abbrev cX10_byteOf : ByteArray := prog_12_method_67_code
def yX10_byteOf : MethodName := ⟨RX10, "byteOf", "(II)I"⟩
abbrev cX10_isTip : ByteArray := prog_12_method_68_code
def yX10_isTip : MethodName := ⟨RX10, "isTip", "(I)Z"⟩
abbrev cX10_tip : ByteArray := prog_12_method_69_code
def yX10_tip : MethodName := ⟨RX10, "tip", "(I)I"⟩
abbrev cX10_isEarlier : ByteArray := prog_12_method_70_code
def yX10_isEarlier : MethodName := ⟨RX10, "isEarlier", "(II)Z"⟩
abbrev cX10_missing : ByteArray := prog_12_method_71_code
def yX10_missing : MethodName := ⟨RX10, "missing", "(I)I"⟩
abbrev cX10_listed : ByteArray := prog_12_method_72_code
def yX10_listed : MethodName := ⟨RX10, "listed", "(II)I"⟩
abbrev cX10_left : ByteArray := prog_12_method_73_code
def yX10_left : MethodName := ⟨RX10, "left", "(II)I"⟩
abbrev cX10_unspent : ByteArray := prog_12_method_74_code
def yX10_unspent : MethodName := ⟨RX10, "unspent", "(II)I"⟩
abbrev cX10_isBegun : ByteArray := prog_12_method_75_code
def yX10_isBegun : MethodName := ⟨RX10, "isBegun", "(I)Z"⟩
abbrev cX10_isColour : ByteArray := prog_12_method_76_code
def yX10_isColour : MethodName := ⟨RX10, "isColour", "(II)Z"⟩
abbrev cX10_begin : ByteArray := prog_12_method_77_code
def yX10_begin : MethodName := ⟨RX10, "begin", "(III)Z"⟩
abbrev cX10_meet : ByteArray := prog_12_method_78_code
def yX10_meet : MethodName := ⟨RX10, "meet", "(II)I"⟩
abbrev cX10_votesOf : ByteArray := prog_12_method_79_code
def yX10_votesOf : MethodName := ⟨RX10, "votesOf", "(I)I"⟩
abbrev cX10_votes : ByteArray := prog_12_method_80_code
def yX10_votes : MethodName := ⟨RX10, "votes", "(III)V"⟩
abbrev cX10_round : ByteArray := prog_12_method_81_code
def yX10_round : MethodName := ⟨RX10, "round", "(I)Z"⟩
abbrev cX10_roundOfSlush : ByteArray := prog_12_method_82_code
def yX10_roundOfSlush : MethodName := ⟨RX10, "roundOfSlush", "(II)V"⟩
abbrev cX10_roundOfFlake : ByteArray := prog_12_method_83_code
def yX10_roundOfFlake : MethodName := ⟨RX10, "roundOfFlake", "(II)V"⟩
abbrev cX10_roundOfBall : ByteArray := prog_12_method_84_code
def yX10_roundOfBall : MethodName := ⟨RX10, "roundOfBall", "(II)V"⟩
abbrev cX10_state : ByteArray := prog_12_method_85_code
def yX10_state : MethodName := ⟨RX10, "state", "(II)I"⟩
abbrev cX10_inState : ByteArray := prog_12_method_86_code
def yX10_inState : MethodName := ⟨RX10, "inState", "(I)I"⟩
abbrev cX10_allLeft : ByteArray := prog_12_method_87_code
def yX10_allLeft : MethodName := ⟨RX10, "allLeft", "()I"⟩
abbrev cX10_count : ByteArray := prog_12_method_88_code
def yX10_count : MethodName := ⟨RX10, "count", "(I)I"⟩
def RJx145de : String := "java/io/Serializable"
def TJx145de : u_T := fun k => match k with
  | _ => ("", "", "", false)
def tyJx145de : Nat → FieldType := fun k => match k with
  | _ => .int
abbrev wsJx145de0 : List Cond := u_ws RJx145de TJx145de 0
theorem nmJx145de : ∀ a, a < 0 → ∀ b, b < 0 → a ≠ b → (TJx145de a).2.1 ≠ (TJx145de b).2.1 := by decide +kernel
theorem tyJx145de_ok : ∀ k, k < 0 → parseFieldDescriptor (TJx145de k).2.2.1 = some (tyJx145de k) := by decide +kernel
def RJx8e188 : String := "java/lang/Cloneable"
def TJx8e188 : u_T := fun k => match k with
  | _ => ("", "", "", false)
def tyJx8e188 : Nat → FieldType := fun k => match k with
  | _ => .int
abbrev wsJx8e1880 : List Cond := u_ws RJx8e188 TJx8e188 0
theorem nmJx8e188 : ∀ a, a < 0 → ∀ b, b < 0 → a ≠ b → (TJx8e188 a).2.1 ≠ (TJx8e188 b).2.1 := by decide +kernel
theorem tyJx8e188_ok : ∀ k, k < 0 → parseFieldDescriptor (TJx8e188 k).2.2.1 = some (tyJx8e188 k) := by decide +kernel
def RJxab1ab : String := "java/lang/Iterable"
def TJxab1ab : u_T := fun k => match k with
  | _ => ("", "", "", false)
def tyJxab1ab : Nat → FieldType := fun k => match k with
  | _ => .int
abbrev wsJxab1ab0 : List Cond := u_ws RJxab1ab TJxab1ab 0
theorem nmJxab1ab : ∀ a, a < 0 → ∀ b, b < 0 → a ≠ b → (TJxab1ab a).2.1 ≠ (TJxab1ab b).2.1 := by decide +kernel
theorem tyJxab1ab_ok : ∀ k, k < 0 → parseFieldDescriptor (TJxab1ab k).2.2.1 = some (tyJxab1ab k) := by decide +kernel
def RJ13 : String := "java/lang/Long"
def TJ13 : u_T := fun k => match k with
  | _ => ("", "", "", false)
def tyJ13 : Nat → FieldType := fun k => match k with
  | _ => .int
abbrev wsJ130 : List Cond := u_ws RJ13 TJ13 0
theorem nmJ13 : ∀ a, a < 0 → ∀ b, b < 0 → a ≠ b → (TJ13 a).2.1 ≠ (TJ13 b).2.1 := by decide +kernel
theorem tyJ13_ok : ∀ k, k < 0 → parseFieldDescriptor (TJ13 k).2.2.1 = some (tyJ13 k) := by decide +kernel
abbrev cJ13_bitCount_95d88 : ByteArray := prog_20_method_50_code
def yJ13_bitCount_95d88 : MethodName := ⟨RJ13, "bitCount", "(J)I"⟩
def RJ9 : String := "java/lang/Math"
def TJ9 : u_T := fun k => match k with
  | _ => ("", "", "", false)
def tyJ9 : Nat → FieldType := fun k => match k with
  | _ => .int
abbrev wsJ90 : List Cond := u_ws RJ9 TJ9 0
theorem nmJ9 : ∀ a, a < 0 → ∀ b, b < 0 → a ≠ b → (TJ9 a).2.1 ≠ (TJ9 b).2.1 := by decide +kernel
theorem tyJ9_ok : ∀ k, k < 0 → parseFieldDescriptor (TJ9 k).2.2.1 = some (tyJ9 k) := by decide +kernel
abbrev cJ9_max_7cf53 : ByteArray := prog_21_method_65_code
def yJ9_max_7cf53 : MethodName := ⟨RJ9, "max", "(II)I"⟩
abbrev cJ9_min_7cf53 : ByteArray := prog_21_method_69_code
def yJ9_min_7cf53 : MethodName := ⟨RJ9, "min", "(II)I"⟩
def RJ0 : String := "java/lang/String"
def TJ0 : u_T := fun k => match k with
  | _ => ("", "", "", false)
def tyJ0 : Nat → FieldType := fun k => match k with
  | _ => .int
abbrev wsJ00 : List Cond := u_ws RJ0 TJ0 0
theorem nmJ0 : ∀ a, a < 0 → ∀ b, b < 0 → a ≠ b → (TJ0 a).2.1 ≠ (TJ0 b).2.1 := by decide +kernel
theorem tyJ0_ok : ∀ k, k < 0 → parseFieldDescriptor (TJ0 k).2.2.1 = some (tyJ0 k) := by decide +kernel
def RJ10 : String := "java/lang/System"
def TJ10 : u_T := fun k => match k with
  | _ => ("", "", "", false)
def tyJ10 : Nat → FieldType := fun k => match k with
  | _ => .int
abbrev wsJ100 : List Cond := u_ws RJ10 TJ10 0
theorem nmJ10 : ∀ a, a < 0 → ∀ b, b < 0 → a ≠ b → (TJ10 a).2.1 ≠ (TJ10 b).2.1 := by decide +kernel
theorem tyJ10_ok : ∀ k, k < 0 → parseFieldDescriptor (TJ10 k).2.2.1 = some (tyJ10 k) := by decide +kernel
def RJxa1e45 : String := "java/util/AbstractCollection"
def TJxa1e45 : u_T := fun k => match k with
  | _ => ("", "", "", false)
def tyJxa1e45 : Nat → FieldType := fun k => match k with
  | _ => .int
abbrev wsJxa1e450 : List Cond := u_ws RJxa1e45 TJxa1e45 0
theorem nmJxa1e45 : ∀ a, a < 0 → ∀ b, b < 0 → a ≠ b → (TJxa1e45 a).2.1 ≠ (TJxa1e45 b).2.1 := by decide +kernel
theorem tyJxa1e45_ok : ∀ k, k < 0 → parseFieldDescriptor (TJxa1e45 k).2.2.1 = some (tyJxa1e45 k) := by decide +kernel
abbrev cJxa1e45_init_da8c8 : ByteArray := prog_26_method_1_code
def yJxa1e45_init_da8c8 : MethodName := ⟨RJxa1e45, "<init>", "()V"⟩
def RJxc12de : String := "java/util/AbstractList"
def TJxc12de : u_T := fun k => match k with
  | _ => ("", "", "", false)
def tyJxc12de : Nat → FieldType := fun k => match k with
  | _ => .int
abbrev wsJxc12de0 : List Cond := u_ws RJxc12de TJxc12de 0
theorem nmJxc12de : ∀ a, a < 0 → ∀ b, b < 0 → a ≠ b → (TJxc12de a).2.1 ≠ (TJxc12de b).2.1 := by decide +kernel
theorem tyJxc12de_ok : ∀ k, k < 0 → parseFieldDescriptor (TJxc12de k).2.2.1 = some (tyJxc12de k) := by decide +kernel
abbrev cJxc12de_init_da8c8 : ByteArray := prog_27_method_1_code
def yJxc12de_init_da8c8 : MethodName := ⟨RJxc12de, "<init>", "()V"⟩
def RJx4a65c : String := "java/util/ArrayList"
def TJx4a65c : u_T := fun k => match k with
  | 0 => ("java/util/AbstractList", "modCount", "I", false)
  | 1 => ("java/util/ArrayList", "elementData", "[Ljava/lang/Object;", false)
  | _ => ("java/util/ArrayList", "size", "I", false)
def tyJx4a65c : Nat → FieldType := fun k => match k with
  | 0 => .int
  | 1 => .array (.object "java/lang/Object")
  | _ => .int
abbrev wsJx4a65c0 : List Cond := u_ws RJx4a65c TJx4a65c 3
theorem nmJx4a65c : ∀ a, a < 3 → ∀ b, b < 3 → a ≠ b → (TJx4a65c a).2.1 ≠ (TJx4a65c b).2.1 := by decide +kernel
theorem tyJx4a65c_ok : ∀ k, k < 3 → parseFieldDescriptor (TJx4a65c k).2.2.1 = some (tyJx4a65c k) := by decide +kernel
abbrev cJx4a65c_init_da8c8 : ByteArray := prog_28_method_2_code
def yJx4a65c_init_da8c8 : MethodName := ⟨RJx4a65c, "<init>", "()V"⟩
abbrev cJx4a65c_grow_92f84 : ByteArray := prog_28_method_6_code
def yJx4a65c_grow_92f84 : MethodName := ⟨RJx4a65c, "grow", "(I)[Ljava/lang/Object;"⟩
abbrev cJx4a65c_grow_d5877 : ByteArray := prog_28_method_7_code
def yJx4a65c_grow_d5877 : MethodName := ⟨RJx4a65c, "grow", "()[Ljava/lang/Object;"⟩
abbrev cJx4a65c_size_8abf5 : ByteArray := prog_28_method_8_code
def yJx4a65c_size_8abf5 : MethodName := ⟨RJx4a65c, "size", "()I"⟩
abbrev cJx4a65c_elementData_915e3 : ByteArray := prog_28_method_18_code
def yJx4a65c_elementData_915e3 : MethodName := ⟨RJx4a65c, "elementData", "(I)Ljava/lang/Object;"⟩
abbrev cJx4a65c_get_915e3 : ByteArray := prog_28_method_20_code
def yJx4a65c_get_915e3 : MethodName := ⟨RJx4a65c, "get", "(I)Ljava/lang/Object;"⟩
abbrev cJx4a65c_add_72be8 : ByteArray := prog_28_method_24_code
def yJx4a65c_add_72be8 : MethodName := ⟨RJx4a65c, "add", "(Ljava/lang/Object;[Ljava/lang/Object;I)V"⟩
abbrev cJx4a65c_add_9ea2d : ByteArray := prog_28_method_25_code
def yJx4a65c_add_9ea2d : MethodName := ⟨RJx4a65c, "add", "(Ljava/lang/Object;)Z"⟩
abbrev cJx4a65c_remove_915e3 : ByteArray := prog_28_method_29_code
def yJx4a65c_remove_915e3 : MethodName := ⟨RJx4a65c, "remove", "(I)Ljava/lang/Object;"⟩
abbrev cJx4a65c_fastRemove_b59b0 : ByteArray := prog_28_method_39_code
def yJx4a65c_fastRemove_b59b0 : MethodName := ⟨RJx4a65c, "fastRemove", "([Ljava/lang/Object;I)V"⟩
def RJ7 : String := "java/util/Arrays"
def TJ7 : u_T := fun k => match k with
  | _ => ("", "", "", false)
def tyJ7 : Nat → FieldType := fun k => match k with
  | _ => .int
abbrev wsJ70 : List Cond := u_ws RJ7 TJ7 0
theorem nmJ7 : ∀ a, a < 0 → ∀ b, b < 0 → a ≠ b → (TJ7 a).2.1 ≠ (TJ7 b).2.1 := by decide +kernel
theorem tyJ7_ok : ∀ k, k < 0 → parseFieldDescriptor (TJ7 k).2.2.1 = some (tyJ7 k) := by decide +kernel
abbrev cJ7_fill_53178 : ByteArray := prog_29_method_103_code
def yJ7_fill_53178 : MethodName := ⟨RJ7, "fill", "([II)V"⟩
abbrev cJ7_copyOf_1904c : ByteArray := prog_29_method_119_code
def yJ7_copyOf_1904c : MethodName := ⟨RJ7, "copyOf", "([Ljava/lang/Object;I)[Ljava/lang/Object;"⟩
abbrev cJ7_copyOf_6403c : ByteArray := prog_29_method_120_code
def yJ7_copyOf_6403c : MethodName := ⟨RJ7, "copyOf", "([Ljava/lang/Object;ILjava/lang/Class;)[Ljava/lang/Object;"⟩
abbrev cJ7_copyOf_9075b : ByteArray := prog_29_method_121_code
def yJ7_copyOf_9075b : MethodName := ⟨RJ7, "copyOf", "([BI)[B"⟩
def RJx5ef63 : String := "java/util/Collection"
def TJx5ef63 : u_T := fun k => match k with
  | _ => ("", "", "", false)
def tyJx5ef63 : Nat → FieldType := fun k => match k with
  | _ => .int
abbrev wsJx5ef630 : List Cond := u_ws RJx5ef63 TJx5ef63 0
theorem nmJx5ef63 : ∀ a, a < 0 → ∀ b, b < 0 → a ≠ b → (TJx5ef63 a).2.1 ≠ (TJx5ef63 b).2.1 := by decide +kernel
theorem tyJx5ef63_ok : ∀ k, k < 0 → parseFieldDescriptor (TJx5ef63 k).2.2.1 = some (tyJx5ef63 k) := by decide +kernel
def RJxbd725 : String := "java/util/List"
def TJxbd725 : u_T := fun k => match k with
  | _ => ("", "", "", false)
def tyJxbd725 : Nat → FieldType := fun k => match k with
  | _ => .int
abbrev wsJxbd7250 : List Cond := u_ws RJxbd725 TJxbd725 0
theorem nmJxbd725 : ∀ a, a < 0 → ∀ b, b < 0 → a ≠ b → (TJxbd725 a).2.1 ≠ (TJxbd725 b).2.1 := by decide +kernel
theorem tyJxbd725_ok : ∀ k, k < 0 → parseFieldDescriptor (TJxbd725 k).2.2.1 = some (tyJxbd725 k) := by decide +kernel
def RJ15 : String := "java/util/Objects"
def TJ15 : u_T := fun k => match k with
  | _ => ("", "", "", false)
def tyJ15 : Nat → FieldType := fun k => match k with
  | _ => .int
abbrev wsJ150 : List Cond := u_ws RJ15 TJ15 0
theorem nmJ15 : ∀ a, a < 0 → ∀ b, b < 0 → a ≠ b → (TJ15 a).2.1 ≠ (TJ15 b).2.1 := by decide +kernel
theorem tyJ15_ok : ∀ k, k < 0 → parseFieldDescriptor (TJ15 k).2.2.1 = some (tyJ15 k) := by decide +kernel
abbrev cJ15_checkIndex_7cf53 : ByteArray := prog_33_method_17_code
def yJ15_checkIndex_7cf53 : MethodName := ⟨RJ15, "checkIndex", "(II)I"⟩
def RJxf0a74 : String := "java/util/RandomAccess"
def TJxf0a74 : u_T := fun k => match k with
  | _ => ("", "", "", false)
def tyJxf0a74 : Nat → FieldType := fun k => match k with
  | _ => .int
abbrev wsJxf0a740 : List Cond := u_ws RJxf0a74 TJxf0a74 0
theorem nmJxf0a74 : ∀ a, a < 0 → ∀ b, b < 0 → a ≠ b → (TJxf0a74 a).2.1 ≠ (TJxf0a74 b).2.1 := by decide +kernel
theorem tyJxf0a74_ok : ∀ k, k < 0 → parseFieldDescriptor (TJxf0a74 k).2.2.1 = some (tyJxf0a74 k) := by decide +kernel
def RJxa66e6 : String := "java/util/SequencedCollection"
def TJxa66e6 : u_T := fun k => match k with
  | _ => ("", "", "", false)
def tyJxa66e6 : Nat → FieldType := fun k => match k with
  | _ => .int
abbrev wsJxa66e60 : List Cond := u_ws RJxa66e6 TJxa66e6 0
theorem nmJxa66e6 : ∀ a, a < 0 → ∀ b, b < 0 → a ≠ b → (TJxa66e6 a).2.1 ≠ (TJxa66e6 b).2.1 := by decide +kernel
theorem tyJxa66e6_ok : ∀ k, k < 0 → parseFieldDescriptor (TJxa66e6 k).2.2.1 = some (tyJxa66e6 k) := by decide +kernel
def RJ8 : String := "jdk/internal/util/ArraysSupport"
def TJ8 : u_T := fun k => match k with
  | _ => ("", "", "", false)
def tyJ8 : Nat → FieldType := fun k => match k with
  | _ => .int
abbrev wsJ80 : List Cond := u_ws RJ8 TJ8 0
theorem nmJ8 : ∀ a, a < 0 → ∀ b, b < 0 → a ≠ b → (TJ8 a).2.1 ≠ (TJ8 b).2.1 := by decide +kernel
theorem tyJ8_ok : ∀ k, k < 0 → parseFieldDescriptor (TJ8 k).2.2.1 = some (tyJ8 k) := by decide +kernel
abbrev cJ8_newLength_cabcc : ByteArray := prog_36_method_27_code
def yJ8_newLength_cabcc : MethodName := ⟨RJ8, "newLength", "(III)I"⟩
abbrev cJ8_hugeLength_7cf53 : ByteArray := prog_36_method_28_code
def yJ8_hugeLength_7cf53 : MethodName := ⟨RJ8, "hugeLength", "(II)I"⟩
def RJ3 : String := "jdk/internal/util/Preconditions"
def TJ3 : u_T := fun k => match k with
  | _ => ("", "", "", false)
def tyJ3 : Nat → FieldType := fun k => match k with
  | _ => .int
abbrev wsJ30 : List Cond := u_ws RJ3 TJ3 0
theorem nmJ3 : ∀ a, a < 0 → ∀ b, b < 0 → a ≠ b → (TJ3 a).2.1 ≠ (TJ3 b).2.1 := by decide +kernel
theorem tyJ3_ok : ∀ k, k < 0 → parseFieldDescriptor (TJ3 k).2.2.1 = some (tyJ3 k) := by decide +kernel
abbrev cJ3_checkIndex_8e157 : ByteArray := prog_37_method_11_code
def yJ3_checkIndex_8e157 : MethodName := ⟨RJ3, "checkIndex", "(IILjava/util/function/BiFunction;)I"⟩
def RL : String := "SnowNodeLaw"
abbrev cL_cell : ByteArray := method_2_code
def yL_cell : MethodName := ⟨RL, "cell", "([II)I"⟩
abbrev cL_take : ByteArray := method_3_code
def yL_take : MethodName := ⟨RL, "take", "(LSnowNode;I[J)I"⟩
abbrev cL_poll : ByteArray := method_4_code
def yL_poll : MethodName := ⟨RL, "poll", "(LSnowNode;[J)I"⟩
abbrev cL_sampled : ByteArray := method_5_code
def yL_sampled : MethodName := ⟨RL, "sampled", "(LSnowNode;II[J)I"⟩
abbrev cL_answer : ByteArray := method_6_code
def yL_answer : MethodName := ⟨RL, "answer", "(LSnowNode;IIZ[J)I"⟩
abbrev cL_look : ByteArray := method_7_code
def yL_look : MethodName := ⟨RL, "look", "(LSnowNode;II[J)I"⟩
abbrev cL_set : ByteArray := method_8_code
def yL_set : MethodName := ⟨RL, "set", "(LSnowNode;III[J)I"⟩
abbrev cL_meet : ByteArray := method_9_code
def yL_meet : MethodName := ⟨RL, "meet", "(LSnowNode;II[J)I"⟩
abbrev cL_votes : ByteArray := method_10_code
def yL_votes : MethodName := ⟨RL, "votes", "(LSnowNode;III)I"⟩
abbrev cL_round : ByteArray := method_11_code
def yL_round : MethodName := ⟨RL, "round", "(LSnowNode;I[J)I"⟩
abbrev cL_law : ByteArray := code
def yL_law : MethodName := ⟨RL, "law", "([I)Z"⟩
abbrev vwCl : List vw_C := [(RJx4a65c, TJx4a65c, 3), (RX0, TX0, 11), (RX1, TX1, 2), (RX2, TX2, 6), (RX3, TX3, 6), (RX4, TX4, 2), (RX5, TX5, 6), (RX6, TX6, 3), (RX7, TX7, 2), (RX8, TX8, 16), (RX9, TX9, 12), (RX10, TX10, 44)]
