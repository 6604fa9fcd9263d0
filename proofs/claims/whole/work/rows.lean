section
-- ===== PART A: goes FIRST, ahead of the names: the tables' words, and 'selects' of the private methods out of them =====
/-- a private method of a class that the tables say can be made, by its rows of tables_1 -/
def lw_okq (q : MethodName × Nat) : Prop := (q.1.cls ≠ "java/lang/invoke/MethodHandle" ∧ q.1.cls ≠ "java/lang/invoke/VarHandle") ∧ Cond.instantiable q.1.cls q.2 ∈ tables_1 ∧ Cond.privateMethod q.1 ∈ tables_1 ∧ Cond.instanceMethod q.1 ∈ tables_1
theorem lw_p0 : lw_okq (⟨"java/util/ArrayList", "add", "(Ljava/lang/Object;[Ljava/lang/Object;I)V"⟩, 3) := ⟨⟨by decide +kernel, by decide +kernel⟩, List.mem_of_getElem? (i := 90) (by decide +kernel), List.mem_of_getElem? (i := 250) (by decide +kernel), List.mem_of_getElem? (i := 251) (by decide +kernel)⟩
theorem lw_p1 : lw_okq (⟨"java/util/ArrayList", "grow", "()[Ljava/lang/Object;"⟩, 3) := ⟨⟨by decide +kernel, by decide +kernel⟩, List.mem_of_getElem? (i := 90) (by decide +kernel), List.mem_of_getElem? (i := 254) (by decide +kernel), List.mem_of_getElem? (i := 255) (by decide +kernel)⟩
theorem lw_p2 : lw_okq (⟨"java/util/ArrayList", "grow", "(I)[Ljava/lang/Object;"⟩, 3) := ⟨⟨by decide +kernel, by decide +kernel⟩, List.mem_of_getElem? (i := 90) (by decide +kernel), List.mem_of_getElem? (i := 258) (by decide +kernel), List.mem_of_getElem? (i := 259) (by decide +kernel)⟩
theorem lw_p3 : lw_okq (⟨"SnowNode", "findOpenPoll", "(I)LSnowNode$Poll;"⟩, 12) := ⟨⟨by decide +kernel, by decide +kernel⟩, List.mem_of_getElem? (i := 30) (by decide +kernel), List.mem_of_getElem? (i := 435) (by decide +kernel), List.mem_of_getElem? (i := 436) (by decide +kernel)⟩
theorem lw_p4 : lw_okq (⟨"SnowNode", "dropOpenPoll", "(I)V"⟩, 12) := ⟨⟨by decide +kernel, by decide +kernel⟩, List.mem_of_getElem? (i := 30) (by decide +kernel), List.mem_of_getElem? (i := 442) (by decide +kernel), List.mem_of_getElem? (i := 443) (by decide +kernel)⟩
theorem lw_p5 : lw_okq (⟨"java/util/ArrayList", "fastRemove", "([Ljava/lang/Object;I)V"⟩, 3) := ⟨⟨by decide +kernel, by decide +kernel⟩, List.mem_of_getElem? (i := 90) (by decide +kernel), List.mem_of_getElem? (i := 450) (by decide +kernel), List.mem_of_getElem? (i := 451) (by decide +kernel)⟩
theorem lw_p6 : lw_okq (⟨"SnowNode$Graph", "giveChit", "(LSnowNode$Transaction;)V"⟩, 6) := ⟨⟨by decide +kernel, by decide +kernel⟩, List.mem_of_getElem? (i := 84) (by decide +kernel), List.mem_of_getElem? (i := 459) (by decide +kernel), List.mem_of_getElem? (i := 460) (by decide +kernel)⟩
theorem lw_p7 : lw_okq (⟨"SnowNode$Graph", "moveSets", "(LSnowNode$Transaction;Z)V"⟩, 6) := ⟨⟨by decide +kernel, by decide +kernel⟩, List.mem_of_getElem? (i := 84) (by decide +kernel), List.mem_of_getElem? (i := 467) (by decide +kernel), List.mem_of_getElem? (i := 468) (by decide +kernel)⟩
theorem lw_p8 : lw_okq (⟨"SnowNode$Graph", "acceptWhatIsReady", "()V"⟩, 6) := ⟨⟨by decide +kernel, by decide +kernel⟩, List.mem_of_getElem? (i := 84) (by decide +kernel), List.mem_of_getElem? (i := 475) (by decide +kernel), List.mem_of_getElem? (i := 476) (by decide +kernel)⟩
theorem lw_p9 : lw_okq (⟨"SnowNode$Graph", "isReady", "(LSnowNode$Transaction;)Z"⟩, 6) := ⟨⟨by decide +kernel, by decide +kernel⟩, List.mem_of_getElem? (i := 84) (by decide +kernel), List.mem_of_getElem? (i := 483) (by decide +kernel), List.mem_of_getElem? (i := 484) (by decide +kernel)⟩
theorem lw_p10 : lw_okq (⟨"SnowNode$Graph", "accept", "(LSnowNode$Transaction;)V"⟩, 6) := ⟨⟨by decide +kernel, by decide +kernel⟩, List.mem_of_getElem? (i := 84) (by decide +kernel), List.mem_of_getElem? (i := 491) (by decide +kernel), List.mem_of_getElem? (i := 492) (by decide +kernel)⟩
theorem lw_p11 : lw_okq (⟨"SnowNode$Graph", "reject", "(LSnowNode$Transaction;)V"⟩, 6) := ⟨⟨by decide +kernel, by decide +kernel⟩, List.mem_of_getElem? (i := 84) (by decide +kernel), List.mem_of_getElem? (i := 503) (by decide +kernel), List.mem_of_getElem? (i := 504) (by decide +kernel)⟩
theorem lw_p12 : lw_okq (⟨"SnowNode$Graph", "addMissing", "([II)I"⟩, 6) := ⟨⟨by decide +kernel, by decide +kernel⟩, List.mem_of_getElem? (i := 84) (by decide +kernel), List.mem_of_getElem? (i := 538) (by decide +kernel), List.mem_of_getElem? (i := 539) (by decide +kernel)⟩
theorem lw_p13 : lw_okq (⟨"SnowNode$Graph", "isListed", "(II)Z"⟩, 6) := ⟨⟨by decide +kernel, by decide +kernel⟩, List.mem_of_getElem? (i := 84) (by decide +kernel), List.mem_of_getElem? (i := 543) (by decide +kernel), List.mem_of_getElem? (i := 544) (by decide +kernel)⟩
theorem lw_p14 : lw_okq (⟨"SnowNode$Choice", "clearVotes", "()V"⟩, 11) := ⟨⟨by decide +kernel, by decide +kernel⟩, List.mem_of_getElem? (i := 562) (by decide +kernel), List.mem_of_getElem? (i := 611) (by decide +kernel), List.mem_of_getElem? (i := 612) (by decide +kernel)⟩
theorem lw_p15 : lw_okq (⟨"SnowNode", "findChoice", "(I)LSnowNode$Choice;"⟩, 12) := ⟨⟨by decide +kernel, by decide +kernel⟩, List.mem_of_getElem? (i := 30) (by decide +kernel), List.mem_of_getElem? (i := 619) (by decide +kernel), List.mem_of_getElem? (i := 620) (by decide +kernel)⟩
def lw_privs_1 : List (MethodName × Nat) := [(⟨"java/util/ArrayList", "add", "(Ljava/lang/Object;[Ljava/lang/Object;I)V"⟩, 3), (⟨"java/util/ArrayList", "grow", "()[Ljava/lang/Object;"⟩, 3), (⟨"java/util/ArrayList", "grow", "(I)[Ljava/lang/Object;"⟩, 3), (⟨"SnowNode", "findOpenPoll", "(I)LSnowNode$Poll;"⟩, 12), (⟨"SnowNode", "dropOpenPoll", "(I)V"⟩, 12), (⟨"java/util/ArrayList", "fastRemove", "([Ljava/lang/Object;I)V"⟩, 3), (⟨"SnowNode$Graph", "giveChit", "(LSnowNode$Transaction;)V"⟩, 6), (⟨"SnowNode$Graph", "moveSets", "(LSnowNode$Transaction;Z)V"⟩, 6), (⟨"SnowNode$Graph", "acceptWhatIsReady", "()V"⟩, 6), (⟨"SnowNode$Graph", "isReady", "(LSnowNode$Transaction;)Z"⟩, 6), (⟨"SnowNode$Graph", "accept", "(LSnowNode$Transaction;)V"⟩, 6), (⟨"SnowNode$Graph", "reject", "(LSnowNode$Transaction;)V"⟩, 6), (⟨"SnowNode$Graph", "addMissing", "([II)I"⟩, 6), (⟨"SnowNode$Graph", "isListed", "(II)Z"⟩, 6), (⟨"SnowNode$Choice", "clearVotes", "()V"⟩, 11), (⟨"SnowNode", "findChoice", "(I)LSnowNode$Choice;"⟩, 12)]
theorem lw_r1 : ∀ q ∈ lw_privs_1, lw_okq q := List.forall_mem_cons.mpr ⟨lw_p0, List.forall_mem_cons.mpr ⟨lw_p1, List.forall_mem_cons.mpr ⟨lw_p2, List.forall_mem_cons.mpr ⟨lw_p3, List.forall_mem_cons.mpr ⟨lw_p4, List.forall_mem_cons.mpr ⟨lw_p5, List.forall_mem_cons.mpr ⟨lw_p6, List.forall_mem_cons.mpr ⟨lw_p7, List.forall_mem_cons.mpr ⟨lw_p8, List.forall_mem_cons.mpr ⟨lw_p9, List.forall_mem_cons.mpr ⟨lw_p10, List.forall_mem_cons.mpr ⟨lw_p11, List.forall_mem_cons.mpr ⟨lw_p12, List.forall_mem_cons.mpr ⟨lw_p13, List.forall_mem_cons.mpr ⟨lw_p14, List.forall_mem_cons.mpr ⟨lw_p15, fun _ h => absurd h List.not_mem_nil⟩⟩⟩⟩⟩⟩⟩⟩⟩⟩⟩⟩⟩⟩⟩⟩
theorem lw_p16 : lw_okq (⟨"java/lang/Throwable", "fillInStackTrace", "(I)Ljava/lang/Throwable;"⟩, 6) := ⟨⟨by decide +kernel, by decide +kernel⟩, List.mem_of_getElem? (i := 695) (by decide +kernel), List.mem_of_getElem? (i := 693) (by decide +kernel), List.mem_of_getElem? (i := 694) (by decide +kernel)⟩
theorem lw_p17 : lw_okq (⟨"SnowNode$Reader", "nextFew", "()I"⟩, 3) := ⟨⟨by decide +kernel, by decide +kernel⟩, List.mem_of_getElem? (i := 737) (by decide +kernel), List.mem_of_getElem? (i := 753) (by decide +kernel), List.mem_of_getElem? (i := 754) (by decide +kernel)⟩
theorem lw_p18 : lw_okq (⟨"SnowNode$Reader", "nextByte", "()I"⟩, 3) := ⟨⟨by decide +kernel, by decide +kernel⟩, List.mem_of_getElem? (i := 737) (by decide +kernel), List.mem_of_getElem? (i := 757) (by decide +kernel), List.mem_of_getElem? (i := 758) (by decide +kernel)⟩
theorem lw_p19 : lw_okq (⟨"SnowNode$Reader", "nextId", "()I"⟩, 3) := ⟨⟨by decide +kernel, by decide +kernel⟩, List.mem_of_getElem? (i := 737) (by decide +kernel), List.mem_of_getElem? (i := 761) (by decide +kernel), List.mem_of_getElem? (i := 762) (by decide +kernel)⟩
theorem lw_p20 : lw_okq (⟨"SnowNode$Reader", "nextWord", "()I"⟩, 3) := ⟨⟨by decide +kernel, by decide +kernel⟩, List.mem_of_getElem? (i := 737) (by decide +kernel), List.mem_of_getElem? (i := 765) (by decide +kernel), List.mem_of_getElem? (i := 766) (by decide +kernel)⟩
theorem lw_p21 : lw_okq (⟨"SnowNode$Reader", "nextAmount", "()I"⟩, 3) := ⟨⟨by decide +kernel, by decide +kernel⟩, List.mem_of_getElem? (i := 737) (by decide +kernel), List.mem_of_getElem? (i := 770) (by decide +kernel), List.mem_of_getElem? (i := 771) (by decide +kernel)⟩
theorem lw_p22 : lw_okq (⟨"SnowNode$Digest", "fillBlock", "([BI)V"⟩, 2) := ⟨⟨by decide +kernel, by decide +kernel⟩, List.mem_of_getElem? (i := 71) (by decide +kernel), List.mem_of_getElem? (i := 782) (by decide +kernel), List.mem_of_getElem? (i := 783) (by decide +kernel)⟩
theorem lw_p23 : lw_okq (⟨"SnowNode$Digest", "spreadBlock", "()V"⟩, 2) := ⟨⟨by decide +kernel, by decide +kernel⟩, List.mem_of_getElem? (i := 71) (by decide +kernel), List.mem_of_getElem? (i := 787) (by decide +kernel), List.mem_of_getElem? (i := 788) (by decide +kernel)⟩
theorem lw_p24 : lw_okq (⟨"SnowNode$Digest", "turn", "(I)V"⟩, 2) := ⟨⟨by decide +kernel, by decide +kernel⟩, List.mem_of_getElem? (i := 71) (by decide +kernel), List.mem_of_getElem? (i := 799) (by decide +kernel), List.mem_of_getElem? (i := 800) (by decide +kernel)⟩
theorem lw_p25 : lw_okq (⟨"SnowNode$Graph", "lookAt", "(LSnowNode$Transaction;)Z"⟩, 6) := ⟨⟨by decide +kernel, by decide +kernel⟩, List.mem_of_getElem? (i := 84) (by decide +kernel), List.mem_of_getElem? (i := 831) (by decide +kernel), List.mem_of_getElem? (i := 832) (by decide +kernel)⟩
theorem lw_p26 : lw_okq (⟨"SnowNode$Graph", "findParents", "(LSnowNode$Transaction;)I"⟩, 6) := ⟨⟨by decide +kernel, by decide +kernel⟩, List.mem_of_getElem? (i := 84) (by decide +kernel), List.mem_of_getElem? (i := 835) (by decide +kernel), List.mem_of_getElem? (i := 836) (by decide +kernel)⟩
theorem lw_p27 : lw_okq (⟨"SnowNode$Graph", "findSpent", "(LSnowNode$Transaction;)Z"⟩, 6) := ⟨⟨by decide +kernel, by decide +kernel⟩, List.mem_of_getElem? (i := 84) (by decide +kernel), List.mem_of_getElem? (i := 847) (by decide +kernel), List.mem_of_getElem? (i := 848) (by decide +kernel)⟩
theorem lw_p28 : lw_okq (⟨"SnowNode$Graph", "hold", "(LSnowNode$Transaction;)V"⟩, 6) := ⟨⟨by decide +kernel, by decide +kernel⟩, List.mem_of_getElem? (i := 84) (by decide +kernel), List.mem_of_getElem? (i := 861) (by decide +kernel), List.mem_of_getElem? (i := 862) (by decide +kernel)⟩
theorem lw_p29 : lw_okq (⟨"SnowNode$Graph", "lookAtWaiting", "()Z"⟩, 6) := ⟨⟨by decide +kernel, by decide +kernel⟩, List.mem_of_getElem? (i := 84) (by decide +kernel), List.mem_of_getElem? (i := 874) (by decide +kernel), List.mem_of_getElem? (i := 875) (by decide +kernel)⟩
theorem lw_p30 : lw_okq (⟨"SnowNode$Peers", "drawOne", "([II)I"⟩, 2) := ⟨⟨by decide +kernel, by decide +kernel⟩, List.mem_of_getElem? (i := 38) (by decide +kernel), List.mem_of_getElem? (i := 917) (by decide +kernel), List.mem_of_getElem? (i := 918) (by decide +kernel)⟩
theorem lw_p31 : lw_okq (⟨"SnowNode$Peers", "weightLeft", "(I[II)I"⟩, 2) := ⟨⟨by decide +kernel, by decide +kernel⟩, List.mem_of_getElem? (i := 38) (by decide +kernel), List.mem_of_getElem? (i := 923) (by decide +kernel), List.mem_of_getElem? (i := 924) (by decide +kernel)⟩
def lw_privs_2 : List (MethodName × Nat) := [(⟨"java/lang/Throwable", "fillInStackTrace", "(I)Ljava/lang/Throwable;"⟩, 6), (⟨"SnowNode$Reader", "nextFew", "()I"⟩, 3), (⟨"SnowNode$Reader", "nextByte", "()I"⟩, 3), (⟨"SnowNode$Reader", "nextId", "()I"⟩, 3), (⟨"SnowNode$Reader", "nextWord", "()I"⟩, 3), (⟨"SnowNode$Reader", "nextAmount", "()I"⟩, 3), (⟨"SnowNode$Digest", "fillBlock", "([BI)V"⟩, 2), (⟨"SnowNode$Digest", "spreadBlock", "()V"⟩, 2), (⟨"SnowNode$Digest", "turn", "(I)V"⟩, 2), (⟨"SnowNode$Graph", "lookAt", "(LSnowNode$Transaction;)Z"⟩, 6), (⟨"SnowNode$Graph", "findParents", "(LSnowNode$Transaction;)I"⟩, 6), (⟨"SnowNode$Graph", "findSpent", "(LSnowNode$Transaction;)Z"⟩, 6), (⟨"SnowNode$Graph", "hold", "(LSnowNode$Transaction;)V"⟩, 6), (⟨"SnowNode$Graph", "lookAtWaiting", "()Z"⟩, 6), (⟨"SnowNode$Peers", "drawOne", "([II)I"⟩, 2), (⟨"SnowNode$Peers", "weightLeft", "(I[II)I"⟩, 2)]
theorem lw_r2 : ∀ q ∈ lw_privs_2, lw_okq q := List.forall_mem_cons.mpr ⟨lw_p16, List.forall_mem_cons.mpr ⟨lw_p17, List.forall_mem_cons.mpr ⟨lw_p18, List.forall_mem_cons.mpr ⟨lw_p19, List.forall_mem_cons.mpr ⟨lw_p20, List.forall_mem_cons.mpr ⟨lw_p21, List.forall_mem_cons.mpr ⟨lw_p22, List.forall_mem_cons.mpr ⟨lw_p23, List.forall_mem_cons.mpr ⟨lw_p24, List.forall_mem_cons.mpr ⟨lw_p25, List.forall_mem_cons.mpr ⟨lw_p26, List.forall_mem_cons.mpr ⟨lw_p27, List.forall_mem_cons.mpr ⟨lw_p28, List.forall_mem_cons.mpr ⟨lw_p29, List.forall_mem_cons.mpr ⟨lw_p30, List.forall_mem_cons.mpr ⟨lw_p31, fun _ h => absurd h List.not_mem_nil⟩⟩⟩⟩⟩⟩⟩⟩⟩⟩⟩⟩⟩⟩⟩⟩
theorem lw_p32 : lw_okq (⟨"SnowNode$Choice", "findWinner", "()I"⟩, 11) := ⟨⟨by decide +kernel, by decide +kernel⟩, List.mem_of_getElem? (i := 562) (by decide +kernel), List.mem_of_getElem? (i := 1067) (by decide +kernel), List.mem_of_getElem? (i := 1068) (by decide +kernel)⟩
theorem lw_p33 : lw_okq (⟨"SnowNode$Choice", "followAny", "(I)V"⟩, 11) := ⟨⟨by decide +kernel, by decide +kernel⟩, List.mem_of_getElem? (i := 562) (by decide +kernel), List.mem_of_getElem? (i := 1071) (by decide +kernel), List.mem_of_getElem? (i := 1072) (by decide +kernel)⟩
theorem lw_p34 : lw_okq (⟨"SnowNode$Choice", "followRow", "(I)V"⟩, 11) := ⟨⟨by decide +kernel, by decide +kernel⟩, List.mem_of_getElem? (i := 562) (by decide +kernel), List.mem_of_getElem? (i := 1075) (by decide +kernel), List.mem_of_getElem? (i := 1076) (by decide +kernel)⟩
theorem lw_p35 : lw_okq (⟨"SnowNode$Choice", "followWeight", "(I)V"⟩, 11) := ⟨⟨by decide +kernel, by decide +kernel⟩, List.mem_of_getElem? (i := 562) (by decide +kernel), List.mem_of_getElem? (i := 1079) (by decide +kernel), List.mem_of_getElem? (i := 1080) (by decide +kernel)⟩
theorem lw_p36 : lw_okq (⟨"SnowNodeModel", "isTransaction", "(I)Z"⟩, 44) := ⟨⟨by decide +kernel, by decide +kernel⟩, List.mem_of_getElem? (i := 1083) (by decide +kernel), List.mem_of_getElem? (i := 1259) (by decide +kernel), List.mem_of_getElem? (i := 1260) (by decide +kernel)⟩
theorem lw_p37 : lw_okq (⟨"SnowNodeModel", "tapeFour", "(I)I"⟩, 44) := ⟨⟨by decide +kernel, by decide +kernel⟩, List.mem_of_getElem? (i := 1083) (by decide +kernel), List.mem_of_getElem? (i := 1266) (by decide +kernel), List.mem_of_getElem? (i := 1267) (by decide +kernel)⟩
theorem lw_p38 : lw_okq (⟨"SnowNodeModel", "hashOf", "(I)I"⟩, 44) := ⟨⟨by decide +kernel, by decide +kernel⟩, List.mem_of_getElem? (i := 1083) (by decide +kernel), List.mem_of_getElem? (i := 1271) (by decide +kernel), List.mem_of_getElem? (i := 1272) (by decide +kernel)⟩
theorem lw_p39 : lw_okq (⟨"SnowNodeModel", "mix", "(I)V"⟩, 44) := ⟨⟨by decide +kernel, by decide +kernel⟩, List.mem_of_getElem? (i := 1083) (by decide +kernel), List.mem_of_getElem? (i := 1278) (by decide +kernel), List.mem_of_getElem? (i := 1279) (by decide +kernel)⟩
theorem lw_p40 : lw_okq (⟨"SnowNodeModel", "find", "(I)I"⟩, 44) := ⟨⟨by decide +kernel, by decide +kernel⟩, List.mem_of_getElem? (i := 1083) (by decide +kernel), List.mem_of_getElem? (i := 1283) (by decide +kernel), List.mem_of_getElem? (i := 1284) (by decide +kernel)⟩
theorem lw_p41 : lw_okq (⟨"SnowNodeModel", "lookAt", "(I)V"⟩, 44) := ⟨⟨by decide +kernel, by decide +kernel⟩, List.mem_of_getElem? (i := 1083) (by decide +kernel), List.mem_of_getElem? (i := 1287) (by decide +kernel), List.mem_of_getElem? (i := 1288) (by decide +kernel)⟩
theorem lw_p42 : lw_okq (⟨"SnowNodeModel", "parentsOf", "(I)I"⟩, 44) := ⟨⟨by decide +kernel, by decide +kernel⟩, List.mem_of_getElem? (i := 1083) (by decide +kernel), List.mem_of_getElem? (i := 1291) (by decide +kernel), List.mem_of_getElem? (i := 1292) (by decide +kernel)⟩
theorem lw_p43 : lw_okq (⟨"SnowNodeModel", "at", "(II)I"⟩, 44) := ⟨⟨by decide +kernel, by decide +kernel⟩, List.mem_of_getElem? (i := 1083) (by decide +kernel), List.mem_of_getElem? (i := 1295) (by decide +kernel), List.mem_of_getElem? (i := 1296) (by decide +kernel)⟩
theorem lw_p44 : lw_okq (⟨"SnowNodeModel", "parentId", "(II)I"⟩, 44) := ⟨⟨by decide +kernel, by decide +kernel⟩, List.mem_of_getElem? (i := 1083) (by decide +kernel), List.mem_of_getElem? (i := 1299) (by decide +kernel), List.mem_of_getElem? (i := 1300) (by decide +kernel)⟩
theorem lw_p45 : lw_okq (⟨"SnowNodeModel", "four", "(II)I"⟩, 44) := ⟨⟨by decide +kernel, by decide +kernel⟩, List.mem_of_getElem? (i := 1083) (by decide +kernel), List.mem_of_getElem? (i := 1303) (by decide +kernel), List.mem_of_getElem? (i := 1304) (by decide +kernel)⟩
theorem lw_p46 : lw_okq (⟨"SnowNodeModel", "isBad", "(I)Z"⟩, 44) := ⟨⟨by decide +kernel, by decide +kernel⟩, List.mem_of_getElem? (i := 1083) (by decide +kernel), List.mem_of_getElem? (i := 1307) (by decide +kernel), List.mem_of_getElem? (i := 1308) (by decide +kernel)⟩
theorem lw_p47 : lw_okq (⟨"SnowNodeModel", "markAncestors", "(I)V"⟩, 44) := ⟨⟨by decide +kernel, by decide +kernel⟩, List.mem_of_getElem? (i := 1083) (by decide +kernel), List.mem_of_getElem? (i := 1311) (by decide +kernel), List.mem_of_getElem? (i := 1312) (by decide +kernel)⟩
def lw_privs_3 : List (MethodName × Nat) := [(⟨"SnowNode$Choice", "findWinner", "()I"⟩, 11), (⟨"SnowNode$Choice", "followAny", "(I)V"⟩, 11), (⟨"SnowNode$Choice", "followRow", "(I)V"⟩, 11), (⟨"SnowNode$Choice", "followWeight", "(I)V"⟩, 11), (⟨"SnowNodeModel", "isTransaction", "(I)Z"⟩, 44), (⟨"SnowNodeModel", "tapeFour", "(I)I"⟩, 44), (⟨"SnowNodeModel", "hashOf", "(I)I"⟩, 44), (⟨"SnowNodeModel", "mix", "(I)V"⟩, 44), (⟨"SnowNodeModel", "find", "(I)I"⟩, 44), (⟨"SnowNodeModel", "lookAt", "(I)V"⟩, 44), (⟨"SnowNodeModel", "parentsOf", "(I)I"⟩, 44), (⟨"SnowNodeModel", "at", "(II)I"⟩, 44), (⟨"SnowNodeModel", "parentId", "(II)I"⟩, 44), (⟨"SnowNodeModel", "four", "(II)I"⟩, 44), (⟨"SnowNodeModel", "isBad", "(I)Z"⟩, 44), (⟨"SnowNodeModel", "markAncestors", "(I)V"⟩, 44)]
theorem lw_r3 : ∀ q ∈ lw_privs_3, lw_okq q := List.forall_mem_cons.mpr ⟨lw_p32, List.forall_mem_cons.mpr ⟨lw_p33, List.forall_mem_cons.mpr ⟨lw_p34, List.forall_mem_cons.mpr ⟨lw_p35, List.forall_mem_cons.mpr ⟨lw_p36, List.forall_mem_cons.mpr ⟨lw_p37, List.forall_mem_cons.mpr ⟨lw_p38, List.forall_mem_cons.mpr ⟨lw_p39, List.forall_mem_cons.mpr ⟨lw_p40, List.forall_mem_cons.mpr ⟨lw_p41, List.forall_mem_cons.mpr ⟨lw_p42, List.forall_mem_cons.mpr ⟨lw_p43, List.forall_mem_cons.mpr ⟨lw_p44, List.forall_mem_cons.mpr ⟨lw_p45, List.forall_mem_cons.mpr ⟨lw_p46, List.forall_mem_cons.mpr ⟨lw_p47, fun _ h => absurd h List.not_mem_nil⟩⟩⟩⟩⟩⟩⟩⟩⟩⟩⟩⟩⟩⟩⟩⟩
theorem lw_p48 : lw_okq (⟨"SnowNodeModel", "clearMarks", "()V"⟩, 44) := ⟨⟨by decide +kernel, by decide +kernel⟩, List.mem_of_getElem? (i := 1083) (by decide +kernel), List.mem_of_getElem? (i := 1315) (by decide +kernel), List.mem_of_getElem? (i := 1316) (by decide +kernel)⟩
theorem lw_p49 : lw_okq (⟨"SnowNodeModel", "markParents", "(I)V"⟩, 44) := ⟨⟨by decide +kernel, by decide +kernel⟩, List.mem_of_getElem? (i := 1083) (by decide +kernel), List.mem_of_getElem? (i := 1319) (by decide +kernel), List.mem_of_getElem? (i := 1320) (by decide +kernel)⟩
theorem lw_p50 : lw_okq (⟨"SnowNodeModel", "inputsOf", "(I)I"⟩, 44) := ⟨⟨by decide +kernel, by decide +kernel⟩, List.mem_of_getElem? (i := 1083) (by decide +kernel), List.mem_of_getElem? (i := 1323) (by decide +kernel), List.mem_of_getElem? (i := 1324) (by decide +kernel)⟩
theorem lw_p51 : lw_okq (⟨"SnowNodeModel", "inputsFrom", "(I)I"⟩, 44) := ⟨⟨by decide +kernel, by decide +kernel⟩, List.mem_of_getElem? (i := 1083) (by decide +kernel), List.mem_of_getElem? (i := 1327) (by decide +kernel), List.mem_of_getElem? (i := 1328) (by decide +kernel)⟩
theorem lw_p52 : lw_okq (⟨"SnowNodeModel", "inputId", "(II)I"⟩, 44) := ⟨⟨by decide +kernel, by decide +kernel⟩, List.mem_of_getElem? (i := 1083) (by decide +kernel), List.mem_of_getElem? (i := 1331) (by decide +kernel), List.mem_of_getElem? (i := 1332) (by decide +kernel)⟩
theorem lw_p53 : lw_okq (⟨"SnowNodeModel", "inputIndex", "(II)I"⟩, 44) := ⟨⟨by decide +kernel, by decide +kernel⟩, List.mem_of_getElem? (i := 1083) (by decide +kernel), List.mem_of_getElem? (i := 1335) (by decide +kernel), List.mem_of_getElem? (i := 1336) (by decide +kernel)⟩
theorem lw_p54 : lw_okq (⟨"SnowNodeModel", "outputsOf", "(I)I"⟩, 44) := ⟨⟨by decide +kernel, by decide +kernel⟩, List.mem_of_getElem? (i := 1083) (by decide +kernel), List.mem_of_getElem? (i := 1339) (by decide +kernel), List.mem_of_getElem? (i := 1340) (by decide +kernel)⟩
theorem lw_p55 : lw_okq (⟨"SnowNodeModel", "outputsFrom", "(I)I"⟩, 44) := ⟨⟨by decide +kernel, by decide +kernel⟩, List.mem_of_getElem? (i := 1083) (by decide +kernel), List.mem_of_getElem? (i := 1343) (by decide +kernel), List.mem_of_getElem? (i := 1344) (by decide +kernel)⟩
theorem lw_p56 : lw_okq (⟨"SnowNodeModel", "spends", "(III)Z"⟩, 44) := ⟨⟨by decide +kernel, by decide +kernel⟩, List.mem_of_getElem? (i := 1083) (by decide +kernel), List.mem_of_getElem? (i := 1347) (by decide +kernel), List.mem_of_getElem? (i := 1348) (by decide +kernel)⟩
theorem lw_p57 : lw_okq (⟨"SnowNodeModel", "amount", "(II)I"⟩, 44) := ⟨⟨by decide +kernel, by decide +kernel⟩, List.mem_of_getElem? (i := 1083) (by decide +kernel), List.mem_of_getElem? (i := 1351) (by decide +kernel), List.mem_of_getElem? (i := 1352) (by decide +kernel)⟩
theorem lw_p58 : lw_okq (⟨"SnowNodeModel", "hold", "(I)V"⟩, 44) := ⟨⟨by decide +kernel, by decide +kernel⟩, List.mem_of_getElem? (i := 1083) (by decide +kernel), List.mem_of_getElem? (i := 1356) (by decide +kernel), List.mem_of_getElem? (i := 1357) (by decide +kernel)⟩
theorem lw_p59 : lw_okq (⟨"SnowNodeModel", "outputOf", "(II)I"⟩, 44) := ⟨⟨by decide +kernel, by decide +kernel⟩, List.mem_of_getElem? (i := 1083) (by decide +kernel), List.mem_of_getElem? (i := 1360) (by decide +kernel), List.mem_of_getElem? (i := 1361) (by decide +kernel)⟩
theorem lw_p60 : lw_okq (⟨"SnowNodeModel", "acceptedOf", "(I)I"⟩, 44) := ⟨⟨by decide +kernel, by decide +kernel⟩, List.mem_of_getElem? (i := 1083) (by decide +kernel), List.mem_of_getElem? (i := 1367) (by decide +kernel), List.mem_of_getElem? (i := 1368) (by decide +kernel)⟩
theorem lw_p61 : lw_okq (⟨"SnowNodeModel", "isIn", "(II)Z"⟩, 44) := ⟨⟨by decide +kernel, by decide +kernel⟩, List.mem_of_getElem? (i := 1083) (by decide +kernel), List.mem_of_getElem? (i := 1371) (by decide +kernel), List.mem_of_getElem? (i := 1372) (by decide +kernel)⟩
theorem lw_p62 : lw_okq (⟨"SnowNodeModel", "membersOf", "(I)I"⟩, 44) := ⟨⟨by decide +kernel, by decide +kernel⟩, List.mem_of_getElem? (i := 1083) (by decide +kernel), List.mem_of_getElem? (i := 1375) (by decide +kernel), List.mem_of_getElem? (i := 1376) (by decide +kernel)⟩
theorem lw_p63 : lw_okq (⟨"SnowNodeModel", "reject", "(I)V"⟩, 44) := ⟨⟨by decide +kernel, by decide +kernel⟩, List.mem_of_getElem? (i := 1083) (by decide +kernel), List.mem_of_getElem? (i := 1379) (by decide +kernel), List.mem_of_getElem? (i := 1380) (by decide +kernel)⟩
def lw_privs_4 : List (MethodName × Nat) := [(⟨"SnowNodeModel", "clearMarks", "()V"⟩, 44), (⟨"SnowNodeModel", "markParents", "(I)V"⟩, 44), (⟨"SnowNodeModel", "inputsOf", "(I)I"⟩, 44), (⟨"SnowNodeModel", "inputsFrom", "(I)I"⟩, 44), (⟨"SnowNodeModel", "inputId", "(II)I"⟩, 44), (⟨"SnowNodeModel", "inputIndex", "(II)I"⟩, 44), (⟨"SnowNodeModel", "outputsOf", "(I)I"⟩, 44), (⟨"SnowNodeModel", "outputsFrom", "(I)I"⟩, 44), (⟨"SnowNodeModel", "spends", "(III)Z"⟩, 44), (⟨"SnowNodeModel", "amount", "(II)I"⟩, 44), (⟨"SnowNodeModel", "hold", "(I)V"⟩, 44), (⟨"SnowNodeModel", "outputOf", "(II)I"⟩, 44), (⟨"SnowNodeModel", "acceptedOf", "(I)I"⟩, 44), (⟨"SnowNodeModel", "isIn", "(II)Z"⟩, 44), (⟨"SnowNodeModel", "membersOf", "(I)I"⟩, 44), (⟨"SnowNodeModel", "reject", "(I)V"⟩, 44)]
theorem lw_r4 : ∀ q ∈ lw_privs_4, lw_okq q := List.forall_mem_cons.mpr ⟨lw_p48, List.forall_mem_cons.mpr ⟨lw_p49, List.forall_mem_cons.mpr ⟨lw_p50, List.forall_mem_cons.mpr ⟨lw_p51, List.forall_mem_cons.mpr ⟨lw_p52, List.forall_mem_cons.mpr ⟨lw_p53, List.forall_mem_cons.mpr ⟨lw_p54, List.forall_mem_cons.mpr ⟨lw_p55, List.forall_mem_cons.mpr ⟨lw_p56, List.forall_mem_cons.mpr ⟨lw_p57, List.forall_mem_cons.mpr ⟨lw_p58, List.forall_mem_cons.mpr ⟨lw_p59, List.forall_mem_cons.mpr ⟨lw_p60, List.forall_mem_cons.mpr ⟨lw_p61, List.forall_mem_cons.mpr ⟨lw_p62, List.forall_mem_cons.mpr ⟨lw_p63, fun _ h => absurd h List.not_mem_nil⟩⟩⟩⟩⟩⟩⟩⟩⟩⟩⟩⟩⟩⟩⟩⟩
theorem lw_p64 : lw_okq (⟨"SnowNodeModel", "bestOf", "(I)I"⟩, 44) := ⟨⟨by decide +kernel, by decide +kernel⟩, List.mem_of_getElem? (i := 1083) (by decide +kernel), List.mem_of_getElem? (i := 1383) (by decide +kernel), List.mem_of_getElem? (i := 1384) (by decide +kernel)⟩
theorem lw_p65 : lw_okq (⟨"SnowNodeModel", "confidence", "(I)I"⟩, 44) := ⟨⟨by decide +kernel, by decide +kernel⟩, List.mem_of_getElem? (i := 1083) (by decide +kernel), List.mem_of_getElem? (i := 1387) (by decide +kernel), List.mem_of_getElem? (i := 1388) (by decide +kernel)⟩
theorem lw_p66 : lw_okq (⟨"SnowNodeModel", "markDescendants", "(I)V"⟩, 44) := ⟨⟨by decide +kernel, by decide +kernel⟩, List.mem_of_getElem? (i := 1083) (by decide +kernel), List.mem_of_getElem? (i := 1391) (by decide +kernel), List.mem_of_getElem? (i := 1392) (by decide +kernel)⟩
theorem lw_p67 : lw_okq (⟨"SnowNodeModel", "hasMarkedParent", "(I)Z"⟩, 44) := ⟨⟨by decide +kernel, by decide +kernel⟩, List.mem_of_getElem? (i := 1083) (by decide +kernel), List.mem_of_getElem? (i := 1395) (by decide +kernel), List.mem_of_getElem? (i := 1396) (by decide +kernel)⟩
theorem lw_p68 : lw_okq (⟨"SnowNodeModel", "isHeld", "(I)Z"⟩, 44) := ⟨⟨by decide +kernel, by decide +kernel⟩, List.mem_of_getElem? (i := 1083) (by decide +kernel), List.mem_of_getElem? (i := 1403) (by decide +kernel), List.mem_of_getElem? (i := 1404) (by decide +kernel)⟩
theorem lw_p69 : lw_okq (⟨"SnowNodeModel", "isStrong", "(I)Z"⟩, 44) := ⟨⟨by decide +kernel, by decide +kernel⟩, List.mem_of_getElem? (i := 1083) (by decide +kernel), List.mem_of_getElem? (i := 1407) (by decide +kernel), List.mem_of_getElem? (i := 1408) (by decide +kernel)⟩
theorem lw_p70 : lw_okq (⟨"SnowNodeModel", "isLiked", "(I)Z"⟩, 44) := ⟨⟨by decide +kernel, by decide +kernel⟩, List.mem_of_getElem? (i := 1083) (by decide +kernel), List.mem_of_getElem? (i := 1411) (by decide +kernel), List.mem_of_getElem? (i := 1412) (by decide +kernel)⟩
theorem lw_p71 : lw_okq (⟨"SnowNodeModel", "openPolls", "()I"⟩, 44) := ⟨⟨by decide +kernel, by decide +kernel⟩, List.mem_of_getElem? (i := 1083) (by decide +kernel), List.mem_of_getElem? (i := 1419) (by decide +kernel), List.mem_of_getElem? (i := 1420) (by decide +kernel)⟩
theorem lw_p72 : lw_okq (⟨"SnowNodeModel", "draw", "()I"⟩, 44) := ⟨⟨by decide +kernel, by decide +kernel⟩, List.mem_of_getElem? (i := 1083) (by decide +kernel), List.mem_of_getElem? (i := 1423) (by decide +kernel), List.mem_of_getElem? (i := 1424) (by decide +kernel)⟩
theorem lw_p73 : lw_okq (⟨"SnowNodeModel", "placeOf", "(I)I"⟩, 44) := ⟨⟨by decide +kernel, by decide +kernel⟩, List.mem_of_getElem? (i := 1083) (by decide +kernel), List.mem_of_getElem? (i := 1433) (by decide +kernel), List.mem_of_getElem? (i := 1434) (by decide +kernel)⟩
theorem lw_p74 : lw_okq (⟨"SnowNodeModel", "said", "(II)I"⟩, 44) := ⟨⟨by decide +kernel, by decide +kernel⟩, List.mem_of_getElem? (i := 1083) (by decide +kernel), List.mem_of_getElem? (i := 1441) (by decide +kernel), List.mem_of_getElem? (i := 1442) (by decide +kernel)⟩
theorem lw_p75 : lw_okq (⟨"SnowNodeModel", "close", "(IZ)V"⟩, 44) := ⟨⟨by decide +kernel, by decide +kernel⟩, List.mem_of_getElem? (i := 1083) (by decide +kernel), List.mem_of_getElem? (i := 1445) (by decide +kernel), List.mem_of_getElem? (i := 1446) (by decide +kernel)⟩
theorem lw_p76 : lw_okq (⟨"SnowNodeModel", "spoken", "(IZ)V"⟩, 44) := ⟨⟨by decide +kernel, by decide +kernel⟩, List.mem_of_getElem? (i := 1083) (by decide +kernel), List.mem_of_getElem? (i := 1449) (by decide +kernel), List.mem_of_getElem? (i := 1450) (by decide +kernel)⟩
theorem lw_p77 : lw_okq (⟨"SnowNodeModel", "accept", "()V"⟩, 44) := ⟨⟨by decide +kernel, by decide +kernel⟩, List.mem_of_getElem? (i := 1083) (by decide +kernel), List.mem_of_getElem? (i := 1453) (by decide +kernel), List.mem_of_getElem? (i := 1454) (by decide +kernel)⟩
theorem lw_p78 : lw_okq (⟨"SnowNodeModel", "isAcceptable", "(I)Z"⟩, 44) := ⟨⟨by decide +kernel, by decide +kernel⟩, List.mem_of_getElem? (i := 1083) (by decide +kernel), List.mem_of_getElem? (i := 1457) (by decide +kernel), List.mem_of_getElem? (i := 1458) (by decide +kernel)⟩
theorem lw_p79 : lw_okq (⟨"SnowNodeModel", "rejectRivals", "(I)V"⟩, 44) := ⟨⟨by decide +kernel, by decide +kernel⟩, List.mem_of_getElem? (i := 1083) (by decide +kernel), List.mem_of_getElem? (i := 1461) (by decide +kernel), List.mem_of_getElem? (i := 1462) (by decide +kernel)⟩
def lw_privs_5 : List (MethodName × Nat) := [(⟨"SnowNodeModel", "bestOf", "(I)I"⟩, 44), (⟨"SnowNodeModel", "confidence", "(I)I"⟩, 44), (⟨"SnowNodeModel", "markDescendants", "(I)V"⟩, 44), (⟨"SnowNodeModel", "hasMarkedParent", "(I)Z"⟩, 44), (⟨"SnowNodeModel", "isHeld", "(I)Z"⟩, 44), (⟨"SnowNodeModel", "isStrong", "(I)Z"⟩, 44), (⟨"SnowNodeModel", "isLiked", "(I)Z"⟩, 44), (⟨"SnowNodeModel", "openPolls", "()I"⟩, 44), (⟨"SnowNodeModel", "draw", "()I"⟩, 44), (⟨"SnowNodeModel", "placeOf", "(I)I"⟩, 44), (⟨"SnowNodeModel", "said", "(II)I"⟩, 44), (⟨"SnowNodeModel", "close", "(IZ)V"⟩, 44), (⟨"SnowNodeModel", "spoken", "(IZ)V"⟩, 44), (⟨"SnowNodeModel", "accept", "()V"⟩, 44), (⟨"SnowNodeModel", "isAcceptable", "(I)Z"⟩, 44), (⟨"SnowNodeModel", "rejectRivals", "(I)V"⟩, 44)]
theorem lw_r5 : ∀ q ∈ lw_privs_5, lw_okq q := List.forall_mem_cons.mpr ⟨lw_p64, List.forall_mem_cons.mpr ⟨lw_p65, List.forall_mem_cons.mpr ⟨lw_p66, List.forall_mem_cons.mpr ⟨lw_p67, List.forall_mem_cons.mpr ⟨lw_p68, List.forall_mem_cons.mpr ⟨lw_p69, List.forall_mem_cons.mpr ⟨lw_p70, List.forall_mem_cons.mpr ⟨lw_p71, List.forall_mem_cons.mpr ⟨lw_p72, List.forall_mem_cons.mpr ⟨lw_p73, List.forall_mem_cons.mpr ⟨lw_p74, List.forall_mem_cons.mpr ⟨lw_p75, List.forall_mem_cons.mpr ⟨lw_p76, List.forall_mem_cons.mpr ⟨lw_p77, List.forall_mem_cons.mpr ⟨lw_p78, List.forall_mem_cons.mpr ⟨lw_p79, fun _ h => absurd h List.not_mem_nil⟩⟩⟩⟩⟩⟩⟩⟩⟩⟩⟩⟩⟩⟩⟩⟩
theorem lw_p80 : lw_okq (⟨"SnowNodeModel", "idOf", "(I)I"⟩, 44) := ⟨⟨by decide +kernel, by decide +kernel⟩, List.mem_of_getElem? (i := 1083) (by decide +kernel), List.mem_of_getElem? (i := 1477) (by decide +kernel), List.mem_of_getElem? (i := 1478) (by decide +kernel)⟩
theorem lw_p81 : lw_okq (⟨"SnowNodeModel", "tip", "(I)I"⟩, 44) := ⟨⟨by decide +kernel, by decide +kernel⟩, List.mem_of_getElem? (i := 1083) (by decide +kernel), List.mem_of_getElem? (i := 1489) (by decide +kernel), List.mem_of_getElem? (i := 1490) (by decide +kernel)⟩
theorem lw_p82 : lw_okq (⟨"SnowNodeModel", "isTip", "(I)Z"⟩, 44) := ⟨⟨by decide +kernel, by decide +kernel⟩, List.mem_of_getElem? (i := 1083) (by decide +kernel), List.mem_of_getElem? (i := 1493) (by decide +kernel), List.mem_of_getElem? (i := 1494) (by decide +kernel)⟩
theorem lw_p83 : lw_okq (⟨"SnowNodeModel", "missing", "(I)I"⟩, 44) := ⟨⟨by decide +kernel, by decide +kernel⟩, List.mem_of_getElem? (i := 1083) (by decide +kernel), List.mem_of_getElem? (i := 1497) (by decide +kernel), List.mem_of_getElem? (i := 1498) (by decide +kernel)⟩
theorem lw_p84 : lw_okq (⟨"SnowNodeModel", "isEarlier", "(II)Z"⟩, 44) := ⟨⟨by decide +kernel, by decide +kernel⟩, List.mem_of_getElem? (i := 1083) (by decide +kernel), List.mem_of_getElem? (i := 1501) (by decide +kernel), List.mem_of_getElem? (i := 1502) (by decide +kernel)⟩
theorem lw_p85 : lw_okq (⟨"SnowNodeModel", "left", "(II)I"⟩, 44) := ⟨⟨by decide +kernel, by decide +kernel⟩, List.mem_of_getElem? (i := 1083) (by decide +kernel), List.mem_of_getElem? (i := 1509) (by decide +kernel), List.mem_of_getElem? (i := 1510) (by decide +kernel)⟩
theorem lw_p86 : lw_okq (⟨"SnowNodeModel", "isColour", "(II)Z"⟩, 44) := ⟨⟨by decide +kernel, by decide +kernel⟩, List.mem_of_getElem? (i := 1083) (by decide +kernel), List.mem_of_getElem? (i := 1521) (by decide +kernel), List.mem_of_getElem? (i := 1522) (by decide +kernel)⟩
theorem lw_p87 : lw_okq (⟨"SnowNodeModel", "isBegun", "(I)Z"⟩, 44) := ⟨⟨by decide +kernel, by decide +kernel⟩, List.mem_of_getElem? (i := 1083) (by decide +kernel), List.mem_of_getElem? (i := 1525) (by decide +kernel), List.mem_of_getElem? (i := 1526) (by decide +kernel)⟩
theorem lw_p88 : lw_okq (⟨"SnowNodeModel", "votesOf", "(I)I"⟩, 44) := ⟨⟨by decide +kernel, by decide +kernel⟩, List.mem_of_getElem? (i := 1083) (by decide +kernel), List.mem_of_getElem? (i := 1533) (by decide +kernel), List.mem_of_getElem? (i := 1534) (by decide +kernel)⟩
theorem lw_p89 : lw_okq (⟨"SnowNodeModel", "roundOfSlush", "(II)V"⟩, 44) := ⟨⟨by decide +kernel, by decide +kernel⟩, List.mem_of_getElem? (i := 1083) (by decide +kernel), List.mem_of_getElem? (i := 1541) (by decide +kernel), List.mem_of_getElem? (i := 1542) (by decide +kernel)⟩
theorem lw_p90 : lw_okq (⟨"SnowNodeModel", "roundOfFlake", "(II)V"⟩, 44) := ⟨⟨by decide +kernel, by decide +kernel⟩, List.mem_of_getElem? (i := 1083) (by decide +kernel), List.mem_of_getElem? (i := 1545) (by decide +kernel), List.mem_of_getElem? (i := 1546) (by decide +kernel)⟩
theorem lw_p91 : lw_okq (⟨"SnowNodeModel", "roundOfBall", "(II)V"⟩, 44) := ⟨⟨by decide +kernel, by decide +kernel⟩, List.mem_of_getElem? (i := 1083) (by decide +kernel), List.mem_of_getElem? (i := 1549) (by decide +kernel), List.mem_of_getElem? (i := 1550) (by decide +kernel)⟩
theorem lw_p92 : lw_okq (⟨"SnowNodeModel", "inState", "(I)I"⟩, 44) := ⟨⟨by decide +kernel, by decide +kernel⟩, List.mem_of_getElem? (i := 1083) (by decide +kernel), List.mem_of_getElem? (i := 1561) (by decide +kernel), List.mem_of_getElem? (i := 1562) (by decide +kernel)⟩
theorem lw_p93 : lw_okq (⟨"SnowNodeModel", "allLeft", "()I"⟩, 44) := ⟨⟨by decide +kernel, by decide +kernel⟩, List.mem_of_getElem? (i := 1083) (by decide +kernel), List.mem_of_getElem? (i := 1565) (by decide +kernel), List.mem_of_getElem? (i := 1566) (by decide +kernel)⟩
def lw_privs_6 : List (MethodName × Nat) := [(⟨"SnowNodeModel", "idOf", "(I)I"⟩, 44), (⟨"SnowNodeModel", "tip", "(I)I"⟩, 44), (⟨"SnowNodeModel", "isTip", "(I)Z"⟩, 44), (⟨"SnowNodeModel", "missing", "(I)I"⟩, 44), (⟨"SnowNodeModel", "isEarlier", "(II)Z"⟩, 44), (⟨"SnowNodeModel", "left", "(II)I"⟩, 44), (⟨"SnowNodeModel", "isColour", "(II)Z"⟩, 44), (⟨"SnowNodeModel", "isBegun", "(I)Z"⟩, 44), (⟨"SnowNodeModel", "votesOf", "(I)I"⟩, 44), (⟨"SnowNodeModel", "roundOfSlush", "(II)V"⟩, 44), (⟨"SnowNodeModel", "roundOfFlake", "(II)V"⟩, 44), (⟨"SnowNodeModel", "roundOfBall", "(II)V"⟩, 44), (⟨"SnowNodeModel", "inState", "(I)I"⟩, 44), (⟨"SnowNodeModel", "allLeft", "()I"⟩, 44)]
theorem lw_r6 : ∀ q ∈ lw_privs_6, lw_okq q := List.forall_mem_cons.mpr ⟨lw_p80, List.forall_mem_cons.mpr ⟨lw_p81, List.forall_mem_cons.mpr ⟨lw_p82, List.forall_mem_cons.mpr ⟨lw_p83, List.forall_mem_cons.mpr ⟨lw_p84, List.forall_mem_cons.mpr ⟨lw_p85, List.forall_mem_cons.mpr ⟨lw_p86, List.forall_mem_cons.mpr ⟨lw_p87, List.forall_mem_cons.mpr ⟨lw_p88, List.forall_mem_cons.mpr ⟨lw_p89, List.forall_mem_cons.mpr ⟨lw_p90, List.forall_mem_cons.mpr ⟨lw_p91, List.forall_mem_cons.mpr ⟨lw_p92, List.forall_mem_cons.mpr ⟨lw_p93, fun _ h => absurd h List.not_mem_nil⟩⟩⟩⟩⟩⟩⟩⟩⟩⟩⟩⟩⟩⟩
def lw_privs : List (MethodName × Nat) := lw_privs_1 ++ (lw_privs_2 ++ (lw_privs_3 ++ (lw_privs_4 ++ (lw_privs_5 ++ (lw_privs_6)))))
def lw_tbl : List Cond := k2_sels lw_privs ++ tables_1
theorem lw_privs_ok : ∀ q ∈ lw_privs, lw_okq q := by
  show ∀ q ∈ lw_privs_1 ++ (lw_privs_2 ++ (lw_privs_3 ++ (lw_privs_4 ++ (lw_privs_5 ++ (lw_privs_6))))), lw_okq q
  exact List.forall_mem_append.mpr ⟨lw_r1, List.forall_mem_append.mpr ⟨lw_r2, List.forall_mem_append.mpr ⟨lw_r3, List.forall_mem_append.mpr ⟨lw_r4, List.forall_mem_append.mpr ⟨lw_r5, lw_r6⟩⟩⟩⟩⟩
-- names (printed by the kit)
def RX0 : String := "SnowNode$Choice"
def TX0 : u_T := fun k => match k with
  | 0 => ("SnowNode$Choice", "alpha", "I", true)
  | 1 => ("SnowNode$Choice", "votesFor", "[I", true)
  | 2 => ("SnowNode$Choice", "weights", "[I", true)
  | 3 => ("SnowNode$Choice", "rule", "I", false)
  | 4 => ("SnowNode$Choice", "colours", "I", false)
  | 5 => ("SnowNode$Choice", "needed", "I", false)
  | 6 => ("SnowNode$Choice", "colour", "I", false)
  | 7 => ("SnowNode$Choice", "lastWinner", "I", false)
  | 8 => ("SnowNode$Choice", "run", "I", false)
  | 9 => ("SnowNode$Choice", "votesInAll", "I", false)
  | _ => ("SnowNode$Choice", "decided", "Z", false)
def tyX0 : Nat → FieldType := fun k => match k with
  | 0 => .int
  | 1 => .array .int
  | 2 => .array .int
  | 3 => .int
  | 4 => .int
  | 5 => .int
  | 6 => .int
  | 7 => .int
  | 8 => .int
  | 9 => .int
  | _ => .boolean
abbrev wsX00 : List Cond := u_ws RX0 TX0 11
theorem nmX0 : ∀ a, a < 11 → ∀ b, b < 11 → a ≠ b → (TX0 a).2.1 ≠ (TX0 b).2.1 := by decide +kernel
theorem tyX0_ok : ∀ k, k < 11 → parseFieldDescriptor (TX0 k).2.2.1 = some (tyX0 k) := by decide +kernel
abbrev cX0_init : ByteArray := prog_2_method_1_code
def yX0_init : MethodName := ⟨RX0, "<init>", "(I)V"⟩
abbrev cX0_restart : ByteArray := prog_2_method_2_code
def yX0_restart : MethodName := ⟨RX0, "restart", "(III)V"⟩
abbrev cX0_hasColour : ByteArray := prog_2_method_3_code
def yX0_hasColour : MethodName := ⟨RX0, "hasColour", "(I)Z"⟩
abbrev cX0_weightAt : ByteArray := prog_2_method_4_code
def yX0_weightAt : MethodName := ⟨RX0, "weightAt", "(I)I"⟩
abbrev cX0_addVotes : ByteArray := prog_2_method_5_code
def yX0_addVotes : MethodName := ⟨RX0, "addVotes", "(II)V"⟩
abbrev cX0_endRound : ByteArray := prog_2_method_6_code
def yX0_endRound : MethodName := ⟨RX0, "endRound", "()Z"⟩
abbrev cX0_findWinner : ByteArray := prog_2_method_7_code
def yX0_findWinner : MethodName := ⟨RX0, "findWinner", "()I"⟩
abbrev cX0_clearVotes : ByteArray := prog_2_method_8_code
def yX0_clearVotes : MethodName := ⟨RX0, "clearVotes", "()V"⟩
abbrev cX0_followAny : ByteArray := prog_2_method_9_code
def yX0_followAny : MethodName := ⟨RX0, "followAny", "(I)V"⟩
abbrev cX0_followRow : ByteArray := prog_2_method_10_code
def yX0_followRow : MethodName := ⟨RX0, "followRow", "(I)V"⟩
abbrev cX0_followWeight : ByteArray := prog_2_method_11_code
def yX0_followWeight : MethodName := ⟨RX0, "followWeight", "(I)V"⟩
def RX1 : String := "SnowNode$Digest"
def TX1 : u_T := fun k => match k with
  | 0 => ("SnowNode$Digest", "words", "[I", true)
  | _ => ("SnowNode$Digest", "turning", "[I", true)
def tyX1 : Nat → FieldType := fun k => match k with
  | 0 => .array .int
  | _ => .array .int
abbrev wsX10 : List Cond := u_ws RX1 TX1 2
theorem nmX1 : ∀ a, a < 2 → ∀ b, b < 2 → a ≠ b → (TX1 a).2.1 ≠ (TX1 b).2.1 := by decide +kernel
theorem tyX1_ok : ∀ k, k < 2 → parseFieldDescriptor (TX1 k).2.2.1 = some (tyX1 k) := by decide +kernel
abbrev cX1_init : ByteArray := prog_3_method_1_code
def yX1_init : MethodName := ⟨RX1, "<init>", "()V"⟩
abbrev cX1_idOf : ByteArray := prog_3_method_2_code
def yX1_idOf : MethodName := ⟨RX1, "idOf", "([B)I"⟩
abbrev cX1_fillBlock : ByteArray := prog_3_method_3_code
def yX1_fillBlock : MethodName := ⟨RX1, "fillBlock", "([BI)V"⟩
abbrev cX1_rotate : ByteArray := prog_3_method_4_code
def yX1_rotate : MethodName := ⟨RX1, "rotate", "(II)I"⟩
abbrev cX1_spreadBlock : ByteArray := prog_3_method_5_code
def yX1_spreadBlock : MethodName := ⟨RX1, "spreadBlock", "()V"⟩
abbrev cX1_turn : ByteArray := prog_3_method_6_code
def yX1_turn : MethodName := ⟨RX1, "turn", "(I)V"⟩
def RX2 : String := "SnowNode$Graph"
def TX2 : u_T := fun k => match k with
  | 0 => ("SnowNode$Graph", "betaOne", "I", true)
  | 1 => ("SnowNode$Graph", "betaTwo", "I", true)
  | 2 => ("SnowNode$Graph", "known", "Ljava/util/ArrayList;", true)
  | 3 => ("SnowNode$Graph", "held", "Ljava/util/ArrayList;", true)
  | 4 => ("SnowNode$Graph", "accepted", "Ljava/util/ArrayList;", true)
  | _ => ("SnowNode$Graph", "missing", "[I", true)
def tyX2 : Nat → FieldType := fun k => match k with
  | 0 => .int
  | 1 => .int
  | 2 => .object "java/util/ArrayList"
  | 3 => .object "java/util/ArrayList"
  | 4 => .object "java/util/ArrayList"
  | _ => .array .int
abbrev wsX20 : List Cond := u_ws RX2 TX2 6
theorem nmX2 : ∀ a, a < 6 → ∀ b, b < 6 → a ≠ b → (TX2 a).2.1 ≠ (TX2 b).2.1 := by decide +kernel
theorem tyX2_ok : ∀ k, k < 6 → parseFieldDescriptor (TX2 k).2.2.1 = some (tyX2 k) := by decide +kernel
abbrev cX2_init : ByteArray := prog_4_method_1_code
def yX2_init : MethodName := ⟨RX2, "<init>", "(II)V"⟩
abbrev cX2_makeGenesis : ByteArray := prog_4_method_2_code
def yX2_makeGenesis : MethodName := ⟨RX2, "makeGenesis", "()LSnowNode$Transaction;"⟩
abbrev cX2_find : ByteArray := prog_4_method_3_code
def yX2_find : MethodName := ⟨RX2, "find", "(I)LSnowNode$Transaction;"⟩
abbrev cX2_isFull : ByteArray := prog_4_method_4_code
def yX2_isFull : MethodName := ⟨RX2, "isFull", "()Z"⟩
abbrev cX2_admit : ByteArray := prog_4_method_5_code
def yX2_admit : MethodName := ⟨RX2, "admit", "(LSnowNode$Transaction;)V"⟩
abbrev cX2_lookAtWaiting : ByteArray := prog_4_method_6_code
def yX2_lookAtWaiting : MethodName := ⟨RX2, "lookAtWaiting", "()Z"⟩
abbrev cX2_lookAt : ByteArray := prog_4_method_7_code
def yX2_lookAt : MethodName := ⟨RX2, "lookAt", "(LSnowNode$Transaction;)Z"⟩
abbrev cX2_findParents : ByteArray := prog_4_method_8_code
def yX2_findParents : MethodName := ⟨RX2, "findParents", "(LSnowNode$Transaction;)I"⟩
abbrev cX2_findSpent : ByteArray := prog_4_method_9_code
def yX2_findSpent : MethodName := ⟨RX2, "findSpent", "(LSnowNode$Transaction;)Z"⟩
abbrev cX2_hold : ByteArray := prog_4_method_10_code
def yX2_hold : MethodName := ⟨RX2, "hold", "(LSnowNode$Transaction;)V"⟩
abbrev cX2_reject : ByteArray := prog_4_method_11_code
def yX2_reject : MethodName := ⟨RX2, "reject", "(LSnowNode$Transaction;)V"⟩
abbrev cX2_learn : ByteArray := prog_4_method_12_code
def yX2_learn : MethodName := ⟨RX2, "learn", "(LSnowNode$Transaction;Z)V"⟩
abbrev cX2_giveChit : ByteArray := prog_4_method_13_code
def yX2_giveChit : MethodName := ⟨RX2, "giveChit", "(LSnowNode$Transaction;)V"⟩
abbrev cX2_moveSets : ByteArray := prog_4_method_14_code
def yX2_moveSets : MethodName := ⟨RX2, "moveSets", "(LSnowNode$Transaction;Z)V"⟩
abbrev cX2_acceptWhatIsReady : ByteArray := prog_4_method_15_code
def yX2_acceptWhatIsReady : MethodName := ⟨RX2, "acceptWhatIsReady", "()V"⟩
abbrev cX2_isReady : ByteArray := prog_4_method_16_code
def yX2_isReady : MethodName := ⟨RX2, "isReady", "(LSnowNode$Transaction;)Z"⟩
abbrev cX2_accept : ByteArray := prog_4_method_17_code
def yX2_accept : MethodName := ⟨RX2, "accept", "(LSnowNode$Transaction;)V"⟩
abbrev cX2_markStrong : ByteArray := prog_4_method_18_code
def yX2_markStrong : MethodName := ⟨RX2, "markStrong", "()V"⟩
abbrev cX2_firstToPoll : ByteArray := prog_4_method_19_code
def yX2_firstToPoll : MethodName := ⟨RX2, "firstToPoll", "()LSnowNode$Transaction;"⟩
abbrev cX2_countDescendants : ByteArray := prog_4_method_20_code
def yX2_countDescendants : MethodName := ⟨RX2, "countDescendants", "(LSnowNode$Transaction;)I"⟩
abbrev cX2_countStatus : ByteArray := prog_4_method_21_code
def yX2_countStatus : MethodName := ⟨RX2, "countStatus", "(I)I"⟩
abbrev cX2_newParent : ByteArray := prog_4_method_22_code
def yX2_newParent : MethodName := ⟨RX2, "newParent", "(I)LSnowNode$Transaction;"⟩
abbrev cX2_acceptedAt : ByteArray := prog_4_method_23_code
def yX2_acceptedAt : MethodName := ⟨RX2, "acceptedAt", "(I)LSnowNode$Transaction;"⟩
abbrev cX2_missingParentId : ByteArray := prog_4_method_24_code
def yX2_missingParentId : MethodName := ⟨RX2, "missingParentId", "(I)I"⟩
abbrev cX2_addMissing : ByteArray := prog_4_method_25_code
def yX2_addMissing : MethodName := ⟨RX2, "addMissing", "([II)I"⟩
abbrev cX2_isListed : ByteArray := prog_4_method_26_code
def yX2_isListed : MethodName := ⟨RX2, "isListed", "(II)Z"⟩
abbrev cX2_allUnspent : ByteArray := prog_4_method_27_code
def yX2_allUnspent : MethodName := ⟨RX2, "allUnspent", "()I"⟩
def RX3 : String := "SnowNode$Output"
def TX3 : u_T := fun k => match k with
  | 0 => ("SnowNode$Output", "amount", "I", true)
  | 1 => ("SnowNode$Output", "members", "Ljava/util/ArrayList;", true)
  | 2 => ("SnowNode$Output", "favourite", "LSnowNode$Transaction;", false)
  | 3 => ("SnowNode$Output", "latest", "LSnowNode$Transaction;", false)
  | 4 => ("SnowNode$Output", "accepted", "LSnowNode$Transaction;", false)
  | _ => ("SnowNode$Output", "run", "I", false)
def tyX3 : Nat → FieldType := fun k => match k with
  | 0 => .int
  | 1 => .object "java/util/ArrayList"
  | 2 => .object "SnowNode$Transaction"
  | 3 => .object "SnowNode$Transaction"
  | 4 => .object "SnowNode$Transaction"
  | _ => .int
abbrev wsX30 : List Cond := u_ws RX3 TX3 6
theorem nmX3 : ∀ a, a < 6 → ∀ b, b < 6 → a ≠ b → (TX3 a).2.1 ≠ (TX3 b).2.1 := by decide +kernel
theorem tyX3_ok : ∀ k, k < 6 → parseFieldDescriptor (TX3 k).2.2.1 = some (tyX3 k) := by decide +kernel
abbrev cX3_init : ByteArray := prog_5_method_1_code
def yX3_init : MethodName := ⟨RX3, "<init>", "(I)V"⟩
abbrev cX3_join : ByteArray := prog_5_method_2_code
def yX3_join : MethodName := ⟨RX3, "join", "(LSnowNode$Transaction;)V"⟩
abbrev cX3_speakFor : ByteArray := prog_5_method_3_code
def yX3_speakFor : MethodName := ⟨RX3, "speakFor", "(LSnowNode$Transaction;)V"⟩
abbrev cX3_replaceFavourite : ByteArray := prog_5_method_4_code
def yX3_replaceFavourite : MethodName := ⟨RX3, "replaceFavourite", "()V"⟩
abbrev cX3_isSpentBefore : ByteArray := prog_5_method_5_code
def yX3_isSpentBefore : MethodName := ⟨RX3, "isSpentBefore", "(LSnowNode$Transaction;)Z"⟩
def RX4 : String := "SnowNode$Peers"
def TX4 : u_T := fun k => match k with
  | 0 => ("SnowNode$Peers", "weights", "[I", true)
  | _ => ("SnowNode$Peers", "generator", "J", false)
def tyX4 : Nat → FieldType := fun k => match k with
  | 0 => .array .int
  | _ => .long
abbrev wsX40 : List Cond := u_ws RX4 TX4 2
theorem nmX4 : ∀ a, a < 2 → ∀ b, b < 2 → a ≠ b → (TX4 a).2.1 ≠ (TX4 b).2.1 := by decide +kernel
theorem tyX4_ok : ∀ k, k < 2 → parseFieldDescriptor (TX4 k).2.2.1 = some (tyX4 k) := by decide +kernel
abbrev cX4_init : ByteArray := prog_6_method_1_code
def yX4_init : MethodName := ⟨RX4, "<init>", "(I)V"⟩
abbrev cX4_changeWeight : ByteArray := prog_6_method_2_code
def yX4_changeWeight : MethodName := ⟨RX4, "changeWeight", "(II)Z"⟩
abbrev cX4_countWithWeight : ByteArray := prog_6_method_3_code
def yX4_countWithWeight : MethodName := ⟨RX4, "countWithWeight", "()I"⟩
abbrev cX4_draw : ByteArray := prog_6_method_4_code
def yX4_draw : MethodName := ⟨RX4, "draw", "(I)[I"⟩
abbrev cX4_drawOne : ByteArray := prog_6_method_5_code
def yX4_drawOne : MethodName := ⟨RX4, "drawOne", "([II)I"⟩
abbrev cX4_weightLeft : ByteArray := prog_6_method_6_code
def yX4_weightLeft : MethodName := ⟨RX4, "weightLeft", "(I[II)I"⟩
def RX5 : String := "SnowNode$Poll"
def TX5 : u_T := fun k => match k with
  | 0 => ("SnowNode$Poll", "number", "I", true)
  | 1 => ("SnowNode$Poll", "about", "LSnowNode$Transaction;", true)
  | 2 => ("SnowNode$Poll", "sample", "[I", true)
  | 3 => ("SnowNode$Poll", "said", "[Z", true)
  | 4 => ("SnowNode$Poll", "yes", "I", false)
  | _ => ("SnowNode$Poll", "no", "I", false)
def tyX5 : Nat → FieldType := fun k => match k with
  | 0 => .int
  | 1 => .object "SnowNode$Transaction"
  | 2 => .array .int
  | 3 => .array .boolean
  | 4 => .int
  | _ => .int
abbrev wsX50 : List Cond := u_ws RX5 TX5 6
theorem nmX5 : ∀ a, a < 6 → ∀ b, b < 6 → a ≠ b → (TX5 a).2.1 ≠ (TX5 b).2.1 := by decide +kernel
theorem tyX5_ok : ∀ k, k < 6 → parseFieldDescriptor (TX5 k).2.2.1 = some (tyX5 k) := by decide +kernel
abbrev cX5_init : ByteArray := prog_7_method_1_code
def yX5_init : MethodName := ⟨RX5, "<init>", "(ILSnowNode$Transaction;[I)V"⟩
abbrev cX5_placeOf : ByteArray := prog_7_method_2_code
def yX5_placeOf : MethodName := ⟨RX5, "placeOf", "(I)I"⟩
abbrev cX5_record : ByteArray := prog_7_method_3_code
def yX5_record : MethodName := ⟨RX5, "record", "(IZ)V"⟩
def RX6 : String := "SnowNode$Reader"
def TX6 : u_T := fun k => match k with
  | 0 => ("SnowNode$Reader", "row", "[B", true)
  | 1 => ("SnowNode$Reader", "at", "I", false)
  | _ => ("SnowNode$Reader", "fits", "Z", false)
def tyX6 : Nat → FieldType := fun k => match k with
  | 0 => .array .byte
  | 1 => .int
  | _ => .boolean
abbrev wsX60 : List Cond := u_ws RX6 TX6 3
theorem nmX6 : ∀ a, a < 3 → ∀ b, b < 3 → a ≠ b → (TX6 a).2.1 ≠ (TX6 b).2.1 := by decide +kernel
theorem tyX6_ok : ∀ k, k < 3 → parseFieldDescriptor (TX6 k).2.2.1 = some (tyX6 k) := by decide +kernel
abbrev cX6_init : ByteArray := prog_8_method_1_code
def yX6_init : MethodName := ⟨RX6, "<init>", "([B)V"⟩
abbrev cX6_readTransaction : ByteArray := prog_8_method_2_code
def yX6_readTransaction : MethodName := ⟨RX6, "readTransaction", "([BLSnowNode$Digest;)LSnowNode$Transaction;"⟩
abbrev cX6_nextByte : ByteArray := prog_8_method_3_code
def yX6_nextByte : MethodName := ⟨RX6, "nextByte", "()I"⟩
abbrev cX6_nextWord : ByteArray := prog_8_method_4_code
def yX6_nextWord : MethodName := ⟨RX6, "nextWord", "()I"⟩
abbrev cX6_nextFew : ByteArray := prog_8_method_5_code
def yX6_nextFew : MethodName := ⟨RX6, "nextFew", "()I"⟩
abbrev cX6_nextId : ByteArray := prog_8_method_6_code
def yX6_nextId : MethodName := ⟨RX6, "nextId", "()I"⟩
abbrev cX6_nextAmount : ByteArray := prog_8_method_7_code
def yX6_nextAmount : MethodName := ⟨RX6, "nextAmount", "()I"⟩
def RX7 : String := "SnowNode$Tape"
def TX7 : u_T := fun k => match k with
  | 0 => ("SnowNode$Tape", "bytes", "[B", true)
  | _ => ("SnowNode$Tape", "length", "I", false)
def tyX7 : Nat → FieldType := fun k => match k with
  | 0 => .array .byte
  | _ => .int
abbrev wsX70 : List Cond := u_ws RX7 TX7 2
theorem nmX7 : ∀ a, a < 2 → ∀ b, b < 2 → a ≠ b → (TX7 a).2.1 ≠ (TX7 b).2.1 := by decide +kernel
theorem tyX7_ok : ∀ k, k < 2 → parseFieldDescriptor (TX7 k).2.2.1 = some (tyX7 k) := by decide +kernel
abbrev cX7_init : ByteArray := prog_9_method_1_code
def yX7_init : MethodName := ⟨RX7, "<init>", "()V"⟩
abbrev cX7_append : ByteArray := prog_9_method_2_code
def yX7_append : MethodName := ⟨RX7, "append", "(I)Z"⟩
def RX8 : String := "SnowNode$Transaction"
def TX8 : u_T := fun k => match k with
  | 0 => ("SnowNode$Transaction", "id", "I", true)
  | 1 => ("SnowNode$Transaction", "row", "[B", true)
  | 2 => ("SnowNode$Transaction", "parentIds", "[I", true)
  | 3 => ("SnowNode$Transaction", "inputIds", "[I", true)
  | 4 => ("SnowNode$Transaction", "inputIndexes", "[I", true)
  | 5 => ("SnowNode$Transaction", "outputs", "[LSnowNode$Output;", true)
  | 6 => ("SnowNode$Transaction", "parents", "[LSnowNode$Transaction;", true)
  | 7 => ("SnowNode$Transaction", "spent", "[LSnowNode$Output;", true)
  | 8 => ("SnowNode$Transaction", "ancestors", "[J", true)
  | 9 => ("SnowNode$Transaction", "heldNumber", "I", false)
  | 10 => ("SnowNode$Transaction", "status", "I", false)
  | 11 => ("SnowNode$Transaction", "confidence", "I", false)
  | 12 => ("SnowNode$Transaction", "chit", "Z", false)
  | 13 => ("SnowNode$Transaction", "polled", "Z", false)
  | 14 => ("SnowNode$Transaction", "strong", "Z", false)
  | _ => ("SnowNode$Transaction", "extended", "Z", false)
def tyX8 : Nat → FieldType := fun k => match k with
  | 0 => .int
  | 1 => .array .byte
  | 2 => .array .int
  | 3 => .array .int
  | 4 => .array .int
  | 5 => .array (.object "SnowNode$Output")
  | 6 => .array (.object "SnowNode$Transaction")
  | 7 => .array (.object "SnowNode$Output")
  | 8 => .array .long
  | 9 => .int
  | 10 => .int
  | 11 => .int
  | 12 => .boolean
  | 13 => .boolean
  | 14 => .boolean
  | _ => .boolean
abbrev wsX80 : List Cond := u_ws RX8 TX8 16
theorem nmX8 : ∀ a, a < 16 → ∀ b, b < 16 → a ≠ b → (TX8 a).2.1 ≠ (TX8 b).2.1 := by decide +kernel
theorem tyX8_ok : ∀ k, k < 16 → parseFieldDescriptor (TX8 k).2.2.1 = some (tyX8 k) := by decide +kernel
abbrev cX8_init : ByteArray := prog_10_method_1_code
def yX8_init : MethodName := ⟨RX8, "<init>", "(I[B[I[I[I[LSnowNode$Output;)V"⟩
abbrev cX8_isHeld : ByteArray := prog_10_method_2_code
def yX8_isHeld : MethodName := ⟨RX8, "isHeld", "()Z"⟩
abbrev cX8_isOpen : ByteArray := prog_10_method_3_code
def yX8_isOpen : MethodName := ⟨RX8, "isOpen", "()Z"⟩
abbrev cX8_hasAncestor : ByteArray := prog_10_method_4_code
def yX8_hasAncestor : MethodName := ⟨RX8, "hasAncestor", "(LSnowNode$Transaction;)Z"⟩
abbrev cX8_countAncestors : ByteArray := prog_10_method_5_code
def yX8_countAncestors : MethodName := ⟨RX8, "countAncestors", "()I"⟩
abbrev cX8_gatherAncestors : ByteArray := prog_10_method_6_code
def yX8_gatherAncestors : MethodName := ⟨RX8, "gatherAncestors", "()V"⟩
abbrev cX8_hasTwins : ByteArray := prog_10_method_7_code
def yX8_hasTwins : MethodName := ⟨RX8, "hasTwins", "()Z"⟩
abbrev cX8_isBalanced : ByteArray := prog_10_method_8_code
def yX8_isBalanced : MethodName := ⟨RX8, "isBalanced", "()Z"⟩
abbrev cX8_hasAcceptedParents : ByteArray := prog_10_method_9_code
def yX8_hasAcceptedParents : MethodName := ⟨RX8, "hasAcceptedParents", "()Z"⟩
abbrev cX8_hasRejectedParent : ByteArray := prog_10_method_10_code
def yX8_hasRejectedParent : MethodName := ⟨RX8, "hasRejectedParent", "()Z"⟩
abbrev cX8_hasAcceptedRival : ByteArray := prog_10_method_11_code
def yX8_hasAcceptedRival : MethodName := ⟨RX8, "hasAcceptedRival", "()Z"⟩
abbrev cX8_hasStrongParents : ByteArray := prog_10_method_12_code
def yX8_hasStrongParents : MethodName := ⟨RX8, "hasStrongParents", "()Z"⟩
abbrev cX8_isLiked : ByteArray := prog_10_method_13_code
def yX8_isLiked : MethodName := ⟨RX8, "isLiked", "()Z"⟩
abbrev cX8_sharesSetWith : ByteArray := prog_10_method_14_code
def yX8_sharesSetWith : MethodName := ⟨RX8, "sharesSetWith", "(LSnowNode$Transaction;)Z"⟩
abbrev cX8_outputAt : ByteArray := prog_10_method_15_code
def yX8_outputAt : MethodName := ⟨RX8, "outputAt", "(I)LSnowNode$Output;"⟩
abbrev cX8_unspentAt : ByteArray := prog_10_method_16_code
def yX8_unspentAt : MethodName := ⟨RX8, "unspentAt", "(I)I"⟩
def RX9 : String := "SnowNode"
def TX9 : u_T := fun k => match k with
  | 0 => ("SnowNode", "sampleSize", "I", true)
  | 1 => ("SnowNode", "alpha", "I", true)
  | 2 => ("SnowNode", "betaOne", "I", true)
  | 3 => ("SnowNode", "betaTwo", "I", true)
  | 4 => ("SnowNode", "peers", "LSnowNode$Peers;", true)
  | 5 => ("SnowNode", "tape", "LSnowNode$Tape;", true)
  | 6 => ("SnowNode", "digest", "LSnowNode$Digest;", true)
  | 7 => ("SnowNode", "graph", "LSnowNode$Graph;", true)
  | 8 => ("SnowNode", "openPolls", "Ljava/util/ArrayList;", true)
  | 9 => ("SnowNode", "choices", "[LSnowNode$Choice;", true)
  | 10 => ("SnowNode", "pollsSoFar", "I", false)
  | _ => ("SnowNode", "pollsWon", "I", false)
def tyX9 : Nat → FieldType := fun k => match k with
  | 0 => .int
  | 1 => .int
  | 2 => .int
  | 3 => .int
  | 4 => .object "SnowNode$Peers"
  | 5 => .object "SnowNode$Tape"
  | 6 => .object "SnowNode$Digest"
  | 7 => .object "SnowNode$Graph"
  | 8 => .object "java/util/ArrayList"
  | 9 => .array (.object "SnowNode$Choice")
  | 10 => .int
  | _ => .int
abbrev wsX90 : List Cond := u_ws RX9 TX9 12
theorem nmX9 : ∀ a, a < 12 → ∀ b, b < 12 → a ≠ b → (TX9 a).2.1 ≠ (TX9 b).2.1 := by decide +kernel
theorem tyX9_ok : ∀ k, k < 12 → parseFieldDescriptor (TX9 k).2.2.1 = some (tyX9 k) := by decide +kernel
abbrev cX9_init : ByteArray := prog_1_method_1_code
def yX9_init : MethodName := ⟨RX9, "<init>", "(IIIII)V"⟩
abbrev cX9_weigh : ByteArray := prog_1_method_2_code
def yX9_weigh : MethodName := ⟨RX9, "weigh", "(II)Z"⟩
abbrev cX9_feed : ByteArray := prog_1_method_3_code
def yX9_feed : MethodName := ⟨RX9, "feed", "(I)Z"⟩
abbrev cX9_take : ByteArray := prog_1_method_4_code
def yX9_take : MethodName := ⟨RX9, "take", "(I)I"⟩
abbrev cX9_query : ByteArray := prog_1_method_5_code
def yX9_query : MethodName := ⟨RX9, "query", "(I)I"⟩
abbrev cX9_poll : ByteArray := prog_1_method_6_code
def yX9_poll : MethodName := ⟨RX9, "poll", "()I"⟩
abbrev cX9_sampled : ByteArray := prog_1_method_7_code
def yX9_sampled : MethodName := ⟨RX9, "sampled", "(II)I"⟩
abbrev cX9_answer : ByteArray := prog_1_method_8_code
def yX9_answer : MethodName := ⟨RX9, "answer", "(IIZ)I"⟩
abbrev cX9_expire : ByteArray := prog_1_method_9_code
def yX9_expire : MethodName := ⟨RX9, "expire", "(I)Z"⟩
abbrev cX9_look : ByteArray := prog_1_method_10_code
def yX9_look : MethodName := ⟨RX9, "look", "(II)I"⟩
abbrev cX9_set : ByteArray := prog_1_method_11_code
def yX9_set : MethodName := ⟨RX9, "set", "(III)I"⟩
abbrev cX9_byteOf : ByteArray := prog_1_method_12_code
def yX9_byteOf : MethodName := ⟨RX9, "byteOf", "(II)I"⟩
abbrev cX9_listed : ByteArray := prog_1_method_13_code
def yX9_listed : MethodName := ⟨RX9, "listed", "(II)I"⟩
abbrev cX9_unspent : ByteArray := prog_1_method_14_code
def yX9_unspent : MethodName := ⟨RX9, "unspent", "(II)I"⟩
abbrev cX9_begin : ByteArray := prog_1_method_15_code
def yX9_begin : MethodName := ⟨RX9, "begin", "(III)Z"⟩
abbrev cX9_meet : ByteArray := prog_1_method_16_code
def yX9_meet : MethodName := ⟨RX9, "meet", "(II)I"⟩
abbrev cX9_votes : ByteArray := prog_1_method_17_code
def yX9_votes : MethodName := ⟨RX9, "votes", "(III)V"⟩
abbrev cX9_round : ByteArray := prog_1_method_18_code
def yX9_round : MethodName := ⟨RX9, "round", "(I)Z"⟩
abbrev cX9_state : ByteArray := prog_1_method_19_code
def yX9_state : MethodName := ⟨RX9, "state", "(II)I"⟩
abbrev cX9_count : ByteArray := prog_1_method_20_code
def yX9_count : MethodName := ⟨RX9, "count", "(I)I"⟩
abbrev cX9_idOrNone : ByteArray := prog_1_method_21_code
def yX9_idOrNone : MethodName := ⟨RX9, "idOrNone", "(LSnowNode$Transaction;)I"⟩
abbrev cX9_findOpenPoll : ByteArray := prog_1_method_22_code
def yX9_findOpenPoll : MethodName := ⟨RX9, "findOpenPoll", "(I)LSnowNode$Poll;"⟩
abbrev cX9_dropOpenPoll : ByteArray := prog_1_method_23_code
def yX9_dropOpenPoll : MethodName := ⟨RX9, "dropOpenPoll", "(I)V"⟩
abbrev cX9_findChoice : ByteArray := prog_1_method_24_code
def yX9_findChoice : MethodName := ⟨RX9, "findChoice", "(I)LSnowNode$Choice;"⟩
def RX10 : String := "SnowNodeModel"
def TX10 : u_T := fun k => match k with
  | 0 => ("SnowNodeModel", "thrown", "I", false)
  | 1 => ("SnowNodeModel", "x", "J", false)
  | 2 => ("SnowNodeModel", "k", "I", true)
  | 3 => ("SnowNodeModel", "alpha", "I", true)
  | 4 => ("SnowNodeModel", "betaOne", "I", true)
  | 5 => ("SnowNodeModel", "betaTwo", "I", true)
  | 6 => ("SnowNodeModel", "weight", "[I", true)
  | 7 => ("SnowNodeModel", "tape", "[I", true)
  | 8 => ("SnowNodeModel", "taped", "I", false)
  | 9 => ("SnowNodeModel", "known", "I", false)
  | 10 => ("SnowNodeModel", "ids", "[I", true)
  | 11 => ("SnowNodeModel", "rows", "[B", true)
  | 12 => ("SnowNodeModel", "sizes", "[I", true)
  | 13 => ("SnowNodeModel", "states", "[I", true)
  | 14 => ("SnowNodeModel", "chits", "[Z", true)
  | 15 => ("SnowNodeModel", "polled", "[Z", true)
  | 16 => ("SnowNodeModel", "heldOnes", "[I", true)
  | 17 => ("SnowNodeModel", "held", "I", false)
  | 18 => ("SnowNodeModel", "acceptedOnes", "[I", true)
  | 19 => ("SnowNodeModel", "accepted", "I", false)
  | 20 => ("SnowNodeModel", "mark", "[Z", true)
  | 21 => ("SnowNodeModel", "goes", "[Z", true)
  | 22 => ("SnowNodeModel", "favourite", "[I", true)
  | 23 => ("SnowNodeModel", "latest", "[I", true)
  | 24 => ("SnowNodeModel", "run", "[I", true)
  | 25 => ("SnowNodeModel", "pollNumber", "[I", true)
  | 26 => ("SnowNodeModel", "pollAbout", "[I", true)
  | 27 => ("SnowNodeModel", "samplePeer", "[I", true)
  | 28 => ("SnowNodeModel", "sampleSaid", "[I", true)
  | 29 => ("SnowNodeModel", "polls", "I", false)
  | 30 => ("SnowNodeModel", "won", "I", false)
  | 31 => ("SnowNodeModel", "drawn", "[Z", true)
  | 32 => ("SnowNodeModel", "choiceRule", "[I", true)
  | 33 => ("SnowNodeModel", "choiceColours", "[I", true)
  | 34 => ("SnowNodeModel", "choiceColour", "[I", true)
  | 35 => ("SnowNodeModel", "choiceRun", "[I", true)
  | 36 => ("SnowNodeModel", "choiceDecided", "[Z", true)
  | 37 => ("SnowNodeModel", "choiceBefore", "[I", true)
  | 38 => ("SnowNodeModel", "choiceVotes", "[I", true)
  | 39 => ("SnowNodeModel", "choiceWeight", "[I", true)
  | 40 => ("SnowNodeModel", "word", "[I", true)
  | 41 => ("SnowNodeModel", "constant", "[I", true)
  | 42 => ("SnowNodeModel", "first", "[I", true)
  | _ => ("SnowNodeModel", "hash", "[I", true)
def tyX10 : Nat → FieldType := fun k => match k with
  | 0 => .int
  | 1 => .long
  | 2 => .int
  | 3 => .int
  | 4 => .int
  | 5 => .int
  | 6 => .array .int
  | 7 => .array .int
  | 8 => .int
  | 9 => .int
  | 10 => .array .int
  | 11 => .array .byte
  | 12 => .array .int
  | 13 => .array .int
  | 14 => .array .boolean
  | 15 => .array .boolean
  | 16 => .array .int
  | 17 => .int
  | 18 => .array .int
  | 19 => .int
  | 20 => .array .boolean
  | 21 => .array .boolean
  | 22 => .array .int
  | 23 => .array .int
  | 24 => .array .int
  | 25 => .array .int
  | 26 => .array .int
  | 27 => .array .int
  | 28 => .array .int
  | 29 => .int
  | 30 => .int
  | 31 => .array .boolean
  | 32 => .array .int
  | 33 => .array .int
  | 34 => .array .int
  | 35 => .array .int
  | 36 => .array .boolean
  | 37 => .array .int
  | 38 => .array .int
  | 39 => .array .int
  | 40 => .array .int
  | 41 => .array .int
  | 42 => .array .int
  | _ => .array .int
abbrev wsX100 : List Cond := u_ws RX10 TX10 44
theorem nmX10 : ∀ a, a < 44 → ∀ b, b < 44 → a ≠ b → (TX10 a).2.1 ≠ (TX10 b).2.1 := by decide +kernel
theorem tyX10_ok : ∀ k, k < 44 → parseFieldDescriptor (TX10 k).2.2.1 = some (tyX10 k) := by decide +kernel
abbrev cX10_init : ByteArray := prog_12_method_1_code
def yX10_init : MethodName := ⟨RX10, "<init>", "(IIIII)V"⟩
abbrev cX10_thrown : ByteArray := prog_12_method_2_code
def yX10_thrown : MethodName := ⟨RX10, "thrown", "()I"⟩
abbrev cX10_isPrime : ByteArray := prog_12_method_3_code
def yX10_isPrime : MethodName := ⟨RX10, "isPrime", "(I)Z"⟩
abbrev cX10_limb : ByteArray := prog_12_method_4_code
def yX10_limb : MethodName := ⟨RX10, "limb", "(JI)J"⟩
abbrev cX10_isRoot : ByteArray := prog_12_method_5_code
def yX10_isRoot : MethodName := ⟨RX10, "isRoot", "(JJ)Z"⟩
abbrev cX10_isCubeRoot : ByteArray := prog_12_method_6_code
def yX10_isCubeRoot : MethodName := ⟨RX10, "isCubeRoot", "(JJ)Z"⟩
abbrev cX10_squareRoot : ByteArray := prog_12_method_7_code
def yX10_squareRoot : MethodName := ⟨RX10, "squareRoot", "(I)I"⟩
abbrev cX10_cubeRoot : ByteArray := prog_12_method_8_code
def yX10_cubeRoot : MethodName := ⟨RX10, "cubeRoot", "(I)I"⟩
abbrev cX10_turned : ByteArray := prog_12_method_9_code
def yX10_turned : MethodName := ⟨RX10, "turned", "(II)I"⟩
abbrev cX10_hashOf : ByteArray := prog_12_method_10_code
def yX10_hashOf : MethodName := ⟨RX10, "hashOf", "(I)I"⟩
abbrev cX10_mix : ByteArray := prog_12_method_11_code
def yX10_mix : MethodName := ⟨RX10, "mix", "(I)V"⟩
abbrev cX10_weigh : ByteArray := prog_12_method_12_code
def yX10_weigh : MethodName := ⟨RX10, "weigh", "(II)Z"⟩
abbrev cX10_feed : ByteArray := prog_12_method_13_code
def yX10_feed : MethodName := ⟨RX10, "feed", "(I)Z"⟩
abbrev cX10_at : ByteArray := prog_12_method_14_code
def yX10_at : MethodName := ⟨RX10, "at", "(II)I"⟩
abbrev cX10_four : ByteArray := prog_12_method_15_code
def yX10_four : MethodName := ⟨RX10, "four", "(II)I"⟩
abbrev cX10_parentsOf : ByteArray := prog_12_method_16_code
def yX10_parentsOf : MethodName := ⟨RX10, "parentsOf", "(I)I"⟩
abbrev cX10_parentId : ByteArray := prog_12_method_17_code
def yX10_parentId : MethodName := ⟨RX10, "parentId", "(II)I"⟩
abbrev cX10_inputsFrom : ByteArray := prog_12_method_18_code
def yX10_inputsFrom : MethodName := ⟨RX10, "inputsFrom", "(I)I"⟩
abbrev cX10_inputsOf : ByteArray := prog_12_method_19_code
def yX10_inputsOf : MethodName := ⟨RX10, "inputsOf", "(I)I"⟩
abbrev cX10_inputId : ByteArray := prog_12_method_20_code
def yX10_inputId : MethodName := ⟨RX10, "inputId", "(II)I"⟩
abbrev cX10_inputIndex : ByteArray := prog_12_method_21_code
def yX10_inputIndex : MethodName := ⟨RX10, "inputIndex", "(II)I"⟩
abbrev cX10_outputsFrom : ByteArray := prog_12_method_22_code
def yX10_outputsFrom : MethodName := ⟨RX10, "outputsFrom", "(I)I"⟩
abbrev cX10_outputsOf : ByteArray := prog_12_method_23_code
def yX10_outputsOf : MethodName := ⟨RX10, "outputsOf", "(I)I"⟩
abbrev cX10_amount : ByteArray := prog_12_method_24_code
def yX10_amount : MethodName := ⟨RX10, "amount", "(II)I"⟩
abbrev cX10_find : ByteArray := prog_12_method_25_code
def yX10_find : MethodName := ⟨RX10, "find", "(I)I"⟩
abbrev cX10_isHeld : ByteArray := prog_12_method_26_code
def yX10_isHeld : MethodName := ⟨RX10, "isHeld", "(I)Z"⟩
abbrev cX10_outputOf : ByteArray := prog_12_method_27_code
def yX10_outputOf : MethodName := ⟨RX10, "outputOf", "(II)I"⟩
abbrev cX10_number : ByteArray := prog_12_method_28_code
def yX10_number : MethodName := ⟨RX10, "number", "(II)I"⟩
abbrev cX10_few : ByteArray := prog_12_method_29_code
def yX10_few : MethodName := ⟨RX10, "few", "(I)Z"⟩
abbrev cX10_tapeFour : ByteArray := prog_12_method_30_code
def yX10_tapeFour : MethodName := ⟨RX10, "tapeFour", "(I)I"⟩
abbrev cX10_isTransaction : ByteArray := prog_12_method_31_code
def yX10_isTransaction : MethodName := ⟨RX10, "isTransaction", "(I)Z"⟩
abbrev cX10_take : ByteArray := prog_12_method_32_code
def yX10_take : MethodName := ⟨RX10, "take", "(I)I"⟩
abbrev cX10_lookAt : ByteArray := prog_12_method_33_code
def yX10_lookAt : MethodName := ⟨RX10, "lookAt", "(I)V"⟩
abbrev cX10_clearMarks : ByteArray := prog_12_method_34_code
def yX10_clearMarks : MethodName := ⟨RX10, "clearMarks", "()V"⟩
abbrev cX10_markParents : ByteArray := prog_12_method_35_code
def yX10_markParents : MethodName := ⟨RX10, "markParents", "(I)V"⟩
abbrev cX10_markAncestors : ByteArray := prog_12_method_36_code
def yX10_markAncestors : MethodName := ⟨RX10, "markAncestors", "(I)V"⟩
abbrev cX10_hasMarkedParent : ByteArray := prog_12_method_37_code
def yX10_hasMarkedParent : MethodName := ⟨RX10, "hasMarkedParent", "(I)Z"⟩
abbrev cX10_markDescendants : ByteArray := prog_12_method_38_code
def yX10_markDescendants : MethodName := ⟨RX10, "markDescendants", "(I)V"⟩
abbrev cX10_spends : ByteArray := prog_12_method_39_code
def yX10_spends : MethodName := ⟨RX10, "spends", "(III)Z"⟩
abbrev cX10_isBad : ByteArray := prog_12_method_40_code
def yX10_isBad : MethodName := ⟨RX10, "isBad", "(I)Z"⟩
abbrev cX10_isIn : ByteArray := prog_12_method_41_code
def yX10_isIn : MethodName := ⟨RX10, "isIn", "(II)Z"⟩
abbrev cX10_membersOf : ByteArray := prog_12_method_42_code
def yX10_membersOf : MethodName := ⟨RX10, "membersOf", "(I)I"⟩
abbrev cX10_acceptedOf : ByteArray := prog_12_method_43_code
def yX10_acceptedOf : MethodName := ⟨RX10, "acceptedOf", "(I)I"⟩
abbrev cX10_confidence : ByteArray := prog_12_method_44_code
def yX10_confidence : MethodName := ⟨RX10, "confidence", "(I)I"⟩
abbrev cX10_hold : ByteArray := prog_12_method_45_code
def yX10_hold : MethodName := ⟨RX10, "hold", "(I)V"⟩
abbrev cX10_reject : ByteArray := prog_12_method_46_code
def yX10_reject : MethodName := ⟨RX10, "reject", "(I)V"⟩
abbrev cX10_bestOf : ByteArray := prog_12_method_47_code
def yX10_bestOf : MethodName := ⟨RX10, "bestOf", "(I)I"⟩
abbrev cX10_isLiked : ByteArray := prog_12_method_48_code
def yX10_isLiked : MethodName := ⟨RX10, "isLiked", "(I)Z"⟩
abbrev cX10_isStrong : ByteArray := prog_12_method_49_code
def yX10_isStrong : MethodName := ⟨RX10, "isStrong", "(I)Z"⟩
abbrev cX10_query : ByteArray := prog_12_method_50_code
def yX10_query : MethodName := ⟨RX10, "query", "(I)I"⟩
abbrev cX10_openPolls : ByteArray := prog_12_method_51_code
def yX10_openPolls : MethodName := ⟨RX10, "openPolls", "()I"⟩
abbrev cX10_placeOf : ByteArray := prog_12_method_52_code
def yX10_placeOf : MethodName := ⟨RX10, "placeOf", "(I)I"⟩
abbrev cX10_draw : ByteArray := prog_12_method_53_code
def yX10_draw : MethodName := ⟨RX10, "draw", "()I"⟩
abbrev cX10_poll : ByteArray := prog_12_method_54_code
def yX10_poll : MethodName := ⟨RX10, "poll", "()I"⟩
abbrev cX10_sampled : ByteArray := prog_12_method_55_code
def yX10_sampled : MethodName := ⟨RX10, "sampled", "(II)I"⟩
abbrev cX10_said : ByteArray := prog_12_method_56_code
def yX10_said : MethodName := ⟨RX10, "said", "(II)I"⟩
abbrev cX10_answer : ByteArray := prog_12_method_57_code
def yX10_answer : MethodName := ⟨RX10, "answer", "(IIZ)I"⟩
abbrev cX10_expire : ByteArray := prog_12_method_58_code
def yX10_expire : MethodName := ⟨RX10, "expire", "(I)Z"⟩
abbrev cX10_close : ByteArray := prog_12_method_59_code
def yX10_close : MethodName := ⟨RX10, "close", "(IZ)V"⟩
abbrev cX10_spoken : ByteArray := prog_12_method_60_code
def yX10_spoken : MethodName := ⟨RX10, "spoken", "(IZ)V"⟩
abbrev cX10_isAcceptable : ByteArray := prog_12_method_61_code
def yX10_isAcceptable : MethodName := ⟨RX10, "isAcceptable", "(I)Z"⟩
abbrev cX10_accept : ByteArray := prog_12_method_62_code
def yX10_accept : MethodName := ⟨RX10, "accept", "()V"⟩
abbrev cX10_rejectRivals : ByteArray := prog_12_method_63_code
def yX10_rejectRivals : MethodName := ⟨RX10, "rejectRivals", "(I)V"⟩
abbrev cX10_look : ByteArray := prog_12_method_64_code
def yX10_look : MethodName := ⟨RX10, "look", "(II)I"⟩
abbrev cX10_idOf : ByteArray := prog_12_method_65_code
def yX10_idOf : MethodName := ⟨RX10, "idOf", "(I)I"⟩
abbrev cX10_set : ByteArray := prog_12_method_66_code
def yX10_set : MethodName := ⟨RX10, "set", "(III)I"⟩
abbrev cX10_byteOf : ByteArray := prog_12_method_67_code
def yX10_byteOf : MethodName := ⟨RX10, "byteOf", "(II)I"⟩
abbrev cX10_isTip : ByteArray := prog_12_method_68_code
def yX10_isTip : MethodName := ⟨RX10, "isTip", "(I)Z"⟩
abbrev cX10_tip : ByteArray := prog_12_method_69_code
def yX10_tip : MethodName := ⟨RX10, "tip", "(I)I"⟩
abbrev cX10_isEarlier : ByteArray := prog_12_method_70_code
def yX10_isEarlier : MethodName := ⟨RX10, "isEarlier", "(II)Z"⟩
abbrev cX10_missing : ByteArray := prog_12_method_71_code
def yX10_missing : MethodName := ⟨RX10, "missing", "(I)I"⟩
abbrev cX10_listed : ByteArray := prog_12_method_72_code
def yX10_listed : MethodName := ⟨RX10, "listed", "(II)I"⟩
abbrev cX10_left : ByteArray := prog_12_method_73_code
def yX10_left : MethodName := ⟨RX10, "left", "(II)I"⟩
abbrev cX10_unspent : ByteArray := prog_12_method_74_code
def yX10_unspent : MethodName := ⟨RX10, "unspent", "(II)I"⟩
abbrev cX10_isBegun : ByteArray := prog_12_method_75_code
def yX10_isBegun : MethodName := ⟨RX10, "isBegun", "(I)Z"⟩
abbrev cX10_isColour : ByteArray := prog_12_method_76_code
def yX10_isColour : MethodName := ⟨RX10, "isColour", "(II)Z"⟩
abbrev cX10_begin : ByteArray := prog_12_method_77_code
def yX10_begin : MethodName := ⟨RX10, "begin", "(III)Z"⟩
abbrev cX10_meet : ByteArray := prog_12_method_78_code
def yX10_meet : MethodName := ⟨RX10, "meet", "(II)I"⟩
abbrev cX10_votesOf : ByteArray := prog_12_method_79_code
def yX10_votesOf : MethodName := ⟨RX10, "votesOf", "(I)I"⟩
abbrev cX10_votes : ByteArray := prog_12_method_80_code
def yX10_votes : MethodName := ⟨RX10, "votes", "(III)V"⟩
abbrev cX10_round : ByteArray := prog_12_method_81_code
def yX10_round : MethodName := ⟨RX10, "round", "(I)Z"⟩
abbrev cX10_roundOfSlush : ByteArray := prog_12_method_82_code
def yX10_roundOfSlush : MethodName := ⟨RX10, "roundOfSlush", "(II)V"⟩
abbrev cX10_roundOfFlake : ByteArray := prog_12_method_83_code
def yX10_roundOfFlake : MethodName := ⟨RX10, "roundOfFlake", "(II)V"⟩
abbrev cX10_roundOfBall : ByteArray := prog_12_method_84_code
def yX10_roundOfBall : MethodName := ⟨RX10, "roundOfBall", "(II)V"⟩
abbrev cX10_state : ByteArray := prog_12_method_85_code
def yX10_state : MethodName := ⟨RX10, "state", "(II)I"⟩
abbrev cX10_inState : ByteArray := prog_12_method_86_code
def yX10_inState : MethodName := ⟨RX10, "inState", "(I)I"⟩
abbrev cX10_allLeft : ByteArray := prog_12_method_87_code
def yX10_allLeft : MethodName := ⟨RX10, "allLeft", "()I"⟩
abbrev cX10_count : ByteArray := prog_12_method_88_code
def yX10_count : MethodName := ⟨RX10, "count", "(I)I"⟩
def RJx145de : String := "java/io/Serializable"
def TJx145de : u_T := fun k => match k with
  | _ => ("", "", "", false)
def tyJx145de : Nat → FieldType := fun k => match k with
  | _ => .int
abbrev wsJx145de0 : List Cond := u_ws RJx145de TJx145de 0
theorem nmJx145de : ∀ a, a < 0 → ∀ b, b < 0 → a ≠ b → (TJx145de a).2.1 ≠ (TJx145de b).2.1 := by decide +kernel
theorem tyJx145de_ok : ∀ k, k < 0 → parseFieldDescriptor (TJx145de k).2.2.1 = some (tyJx145de k) := by decide +kernel
def RJx8e188 : String := "java/lang/Cloneable"
def TJx8e188 : u_T := fun k => match k with
  | _ => ("", "", "", false)
def tyJx8e188 : Nat → FieldType := fun k => match k with
  | _ => .int
abbrev wsJx8e1880 : List Cond := u_ws RJx8e188 TJx8e188 0
theorem nmJx8e188 : ∀ a, a < 0 → ∀ b, b < 0 → a ≠ b → (TJx8e188 a).2.1 ≠ (TJx8e188 b).2.1 := by decide +kernel
theorem tyJx8e188_ok : ∀ k, k < 0 → parseFieldDescriptor (TJx8e188 k).2.2.1 = some (tyJx8e188 k) := by decide +kernel
def RJxab1ab : String := "java/lang/Iterable"
def TJxab1ab : u_T := fun k => match k with
  | _ => ("", "", "", false)
def tyJxab1ab : Nat → FieldType := fun k => match k with
  | _ => .int
abbrev wsJxab1ab0 : List Cond := u_ws RJxab1ab TJxab1ab 0
theorem nmJxab1ab : ∀ a, a < 0 → ∀ b, b < 0 → a ≠ b → (TJxab1ab a).2.1 ≠ (TJxab1ab b).2.1 := by decide +kernel
theorem tyJxab1ab_ok : ∀ k, k < 0 → parseFieldDescriptor (TJxab1ab k).2.2.1 = some (tyJxab1ab k) := by decide +kernel
def RJ13 : String := "java/lang/Long"
def TJ13 : u_T := fun k => match k with
  | _ => ("", "", "", false)
def tyJ13 : Nat → FieldType := fun k => match k with
  | _ => .int
abbrev wsJ130 : List Cond := u_ws RJ13 TJ13 0
theorem nmJ13 : ∀ a, a < 0 → ∀ b, b < 0 → a ≠ b → (TJ13 a).2.1 ≠ (TJ13 b).2.1 := by decide +kernel
theorem tyJ13_ok : ∀ k, k < 0 → parseFieldDescriptor (TJ13 k).2.2.1 = some (tyJ13 k) := by decide +kernel
abbrev cJ13_bitCount_95d88 : ByteArray := prog_20_method_50_code
def yJ13_bitCount_95d88 : MethodName := ⟨RJ13, "bitCount", "(J)I"⟩
def RJ9 : String := "java/lang/Math"
def TJ9 : u_T := fun k => match k with
  | _ => ("", "", "", false)
def tyJ9 : Nat → FieldType := fun k => match k with
  | _ => .int
abbrev wsJ90 : List Cond := u_ws RJ9 TJ9 0
theorem nmJ9 : ∀ a, a < 0 → ∀ b, b < 0 → a ≠ b → (TJ9 a).2.1 ≠ (TJ9 b).2.1 := by decide +kernel
theorem tyJ9_ok : ∀ k, k < 0 → parseFieldDescriptor (TJ9 k).2.2.1 = some (tyJ9 k) := by decide +kernel
abbrev cJ9_max_7cf53 : ByteArray := prog_21_method_65_code
def yJ9_max_7cf53 : MethodName := ⟨RJ9, "max", "(II)I"⟩
abbrev cJ9_min_7cf53 : ByteArray := prog_21_method_69_code
def yJ9_min_7cf53 : MethodName := ⟨RJ9, "min", "(II)I"⟩
def RJ0 : String := "java/lang/String"
def TJ0 : u_T := fun k => match k with
  | _ => ("", "", "", false)
def tyJ0 : Nat → FieldType := fun k => match k with
  | _ => .int
abbrev wsJ00 : List Cond := u_ws RJ0 TJ0 0
theorem nmJ0 : ∀ a, a < 0 → ∀ b, b < 0 → a ≠ b → (TJ0 a).2.1 ≠ (TJ0 b).2.1 := by decide +kernel
theorem tyJ0_ok : ∀ k, k < 0 → parseFieldDescriptor (TJ0 k).2.2.1 = some (tyJ0 k) := by decide +kernel
def RJ10 : String := "java/lang/System"
def TJ10 : u_T := fun k => match k with
  | _ => ("", "", "", false)
def tyJ10 : Nat → FieldType := fun k => match k with
  | _ => .int
abbrev wsJ100 : List Cond := u_ws RJ10 TJ10 0
theorem nmJ10 : ∀ a, a < 0 → ∀ b, b < 0 → a ≠ b → (TJ10 a).2.1 ≠ (TJ10 b).2.1 := by decide +kernel
theorem tyJ10_ok : ∀ k, k < 0 → parseFieldDescriptor (TJ10 k).2.2.1 = some (tyJ10 k) := by decide +kernel
def RJxa1e45 : String := "java/util/AbstractCollection"
def TJxa1e45 : u_T := fun k => match k with
  | _ => ("", "", "", false)
def tyJxa1e45 : Nat → FieldType := fun k => match k with
  | _ => .int
abbrev wsJxa1e450 : List Cond := u_ws RJxa1e45 TJxa1e45 0
theorem nmJxa1e45 : ∀ a, a < 0 → ∀ b, b < 0 → a ≠ b → (TJxa1e45 a).2.1 ≠ (TJxa1e45 b).2.1 := by decide +kernel
theorem tyJxa1e45_ok : ∀ k, k < 0 → parseFieldDescriptor (TJxa1e45 k).2.2.1 = some (tyJxa1e45 k) := by decide +kernel
abbrev cJxa1e45_init_da8c8 : ByteArray := prog_26_method_1_code
def yJxa1e45_init_da8c8 : MethodName := ⟨RJxa1e45, "<init>", "()V"⟩
def RJxc12de : String := "java/util/AbstractList"
def TJxc12de : u_T := fun k => match k with
  | _ => ("", "", "", false)
def tyJxc12de : Nat → FieldType := fun k => match k with
  | _ => .int
abbrev wsJxc12de0 : List Cond := u_ws RJxc12de TJxc12de 0
theorem nmJxc12de : ∀ a, a < 0 → ∀ b, b < 0 → a ≠ b → (TJxc12de a).2.1 ≠ (TJxc12de b).2.1 := by decide +kernel
theorem tyJxc12de_ok : ∀ k, k < 0 → parseFieldDescriptor (TJxc12de k).2.2.1 = some (tyJxc12de k) := by decide +kernel
abbrev cJxc12de_init_da8c8 : ByteArray := prog_27_method_1_code
def yJxc12de_init_da8c8 : MethodName := ⟨RJxc12de, "<init>", "()V"⟩
def RJx4a65c : String := "java/util/ArrayList"
def TJx4a65c : u_T := fun k => match k with
  | 0 => ("java/util/AbstractList", "modCount", "I", false)
  | 1 => ("java/util/ArrayList", "elementData", "[Ljava/lang/Object;", false)
  | _ => ("java/util/ArrayList", "size", "I", false)
def tyJx4a65c : Nat → FieldType := fun k => match k with
  | 0 => .int
  | 1 => .array (.object "java/lang/Object")
  | _ => .int
abbrev wsJx4a65c0 : List Cond := u_ws RJx4a65c TJx4a65c 3
theorem nmJx4a65c : ∀ a, a < 3 → ∀ b, b < 3 → a ≠ b → (TJx4a65c a).2.1 ≠ (TJx4a65c b).2.1 := by decide +kernel
theorem tyJx4a65c_ok : ∀ k, k < 3 → parseFieldDescriptor (TJx4a65c k).2.2.1 = some (tyJx4a65c k) := by decide +kernel
abbrev cJx4a65c_init_da8c8 : ByteArray := prog_28_method_2_code
def yJx4a65c_init_da8c8 : MethodName := ⟨RJx4a65c, "<init>", "()V"⟩
abbrev cJx4a65c_grow_92f84 : ByteArray := prog_28_method_6_code
def yJx4a65c_grow_92f84 : MethodName := ⟨RJx4a65c, "grow", "(I)[Ljava/lang/Object;"⟩
abbrev cJx4a65c_grow_d5877 : ByteArray := prog_28_method_7_code
def yJx4a65c_grow_d5877 : MethodName := ⟨RJx4a65c, "grow", "()[Ljava/lang/Object;"⟩
abbrev cJx4a65c_size_8abf5 : ByteArray := prog_28_method_8_code
def yJx4a65c_size_8abf5 : MethodName := ⟨RJx4a65c, "size", "()I"⟩
abbrev cJx4a65c_elementData_915e3 : ByteArray := prog_28_method_18_code
def yJx4a65c_elementData_915e3 : MethodName := ⟨RJx4a65c, "elementData", "(I)Ljava/lang/Object;"⟩
abbrev cJx4a65c_get_915e3 : ByteArray := prog_28_method_20_code
def yJx4a65c_get_915e3 : MethodName := ⟨RJx4a65c, "get", "(I)Ljava/lang/Object;"⟩
abbrev cJx4a65c_add_72be8 : ByteArray := prog_28_method_24_code
def yJx4a65c_add_72be8 : MethodName := ⟨RJx4a65c, "add", "(Ljava/lang/Object;[Ljava/lang/Object;I)V"⟩
abbrev cJx4a65c_add_9ea2d : ByteArray := prog_28_method_25_code
def yJx4a65c_add_9ea2d : MethodName := ⟨RJx4a65c, "add", "(Ljava/lang/Object;)Z"⟩
abbrev cJx4a65c_remove_915e3 : ByteArray := prog_28_method_29_code
def yJx4a65c_remove_915e3 : MethodName := ⟨RJx4a65c, "remove", "(I)Ljava/lang/Object;"⟩
abbrev cJx4a65c_fastRemove_b59b0 : ByteArray := prog_28_method_39_code
def yJx4a65c_fastRemove_b59b0 : MethodName := ⟨RJx4a65c, "fastRemove", "([Ljava/lang/Object;I)V"⟩
def RJ7 : String := "java/util/Arrays"
def TJ7 : u_T := fun k => match k with
  | _ => ("", "", "", false)
def tyJ7 : Nat → FieldType := fun k => match k with
  | _ => .int
abbrev wsJ70 : List Cond := u_ws RJ7 TJ7 0
theorem nmJ7 : ∀ a, a < 0 → ∀ b, b < 0 → a ≠ b → (TJ7 a).2.1 ≠ (TJ7 b).2.1 := by decide +kernel
theorem tyJ7_ok : ∀ k, k < 0 → parseFieldDescriptor (TJ7 k).2.2.1 = some (tyJ7 k) := by decide +kernel
abbrev cJ7_fill_53178 : ByteArray := prog_29_method_103_code
def yJ7_fill_53178 : MethodName := ⟨RJ7, "fill", "([II)V"⟩
abbrev cJ7_copyOf_1904c : ByteArray := prog_29_method_119_code
def yJ7_copyOf_1904c : MethodName := ⟨RJ7, "copyOf", "([Ljava/lang/Object;I)[Ljava/lang/Object;"⟩
abbrev cJ7_copyOf_6403c : ByteArray := prog_29_method_120_code
def yJ7_copyOf_6403c : MethodName := ⟨RJ7, "copyOf", "([Ljava/lang/Object;ILjava/lang/Class;)[Ljava/lang/Object;"⟩
abbrev cJ7_copyOf_9075b : ByteArray := prog_29_method_121_code
def yJ7_copyOf_9075b : MethodName := ⟨RJ7, "copyOf", "([BI)[B"⟩
def RJx5ef63 : String := "java/util/Collection"
def TJx5ef63 : u_T := fun k => match k with
  | _ => ("", "", "", false)
def tyJx5ef63 : Nat → FieldType := fun k => match k with
  | _ => .int
abbrev wsJx5ef630 : List Cond := u_ws RJx5ef63 TJx5ef63 0
theorem nmJx5ef63 : ∀ a, a < 0 → ∀ b, b < 0 → a ≠ b → (TJx5ef63 a).2.1 ≠ (TJx5ef63 b).2.1 := by decide +kernel
theorem tyJx5ef63_ok : ∀ k, k < 0 → parseFieldDescriptor (TJx5ef63 k).2.2.1 = some (tyJx5ef63 k) := by decide +kernel
def RJxbd725 : String := "java/util/List"
def TJxbd725 : u_T := fun k => match k with
  | _ => ("", "", "", false)
def tyJxbd725 : Nat → FieldType := fun k => match k with
  | _ => .int
abbrev wsJxbd7250 : List Cond := u_ws RJxbd725 TJxbd725 0
theorem nmJxbd725 : ∀ a, a < 0 → ∀ b, b < 0 → a ≠ b → (TJxbd725 a).2.1 ≠ (TJxbd725 b).2.1 := by decide +kernel
theorem tyJxbd725_ok : ∀ k, k < 0 → parseFieldDescriptor (TJxbd725 k).2.2.1 = some (tyJxbd725 k) := by decide +kernel
def RJ15 : String := "java/util/Objects"
def TJ15 : u_T := fun k => match k with
  | _ => ("", "", "", false)
def tyJ15 : Nat → FieldType := fun k => match k with
  | _ => .int
abbrev wsJ150 : List Cond := u_ws RJ15 TJ15 0
theorem nmJ15 : ∀ a, a < 0 → ∀ b, b < 0 → a ≠ b → (TJ15 a).2.1 ≠ (TJ15 b).2.1 := by decide +kernel
theorem tyJ15_ok : ∀ k, k < 0 → parseFieldDescriptor (TJ15 k).2.2.1 = some (tyJ15 k) := by decide +kernel
abbrev cJ15_checkIndex_7cf53 : ByteArray := prog_33_method_17_code
def yJ15_checkIndex_7cf53 : MethodName := ⟨RJ15, "checkIndex", "(II)I"⟩
def RJxf0a74 : String := "java/util/RandomAccess"
def TJxf0a74 : u_T := fun k => match k with
  | _ => ("", "", "", false)
def tyJxf0a74 : Nat → FieldType := fun k => match k with
  | _ => .int
abbrev wsJxf0a740 : List Cond := u_ws RJxf0a74 TJxf0a74 0
theorem nmJxf0a74 : ∀ a, a < 0 → ∀ b, b < 0 → a ≠ b → (TJxf0a74 a).2.1 ≠ (TJxf0a74 b).2.1 := by decide +kernel
theorem tyJxf0a74_ok : ∀ k, k < 0 → parseFieldDescriptor (TJxf0a74 k).2.2.1 = some (tyJxf0a74 k) := by decide +kernel
def RJxa66e6 : String := "java/util/SequencedCollection"
def TJxa66e6 : u_T := fun k => match k with
  | _ => ("", "", "", false)
def tyJxa66e6 : Nat → FieldType := fun k => match k with
  | _ => .int
abbrev wsJxa66e60 : List Cond := u_ws RJxa66e6 TJxa66e6 0
theorem nmJxa66e6 : ∀ a, a < 0 → ∀ b, b < 0 → a ≠ b → (TJxa66e6 a).2.1 ≠ (TJxa66e6 b).2.1 := by decide +kernel
theorem tyJxa66e6_ok : ∀ k, k < 0 → parseFieldDescriptor (TJxa66e6 k).2.2.1 = some (tyJxa66e6 k) := by decide +kernel
def RJ8 : String := "jdk/internal/util/ArraysSupport"
def TJ8 : u_T := fun k => match k with
  | _ => ("", "", "", false)
def tyJ8 : Nat → FieldType := fun k => match k with
  | _ => .int
abbrev wsJ80 : List Cond := u_ws RJ8 TJ8 0
theorem nmJ8 : ∀ a, a < 0 → ∀ b, b < 0 → a ≠ b → (TJ8 a).2.1 ≠ (TJ8 b).2.1 := by decide +kernel
theorem tyJ8_ok : ∀ k, k < 0 → parseFieldDescriptor (TJ8 k).2.2.1 = some (tyJ8 k) := by decide +kernel
abbrev cJ8_newLength_cabcc : ByteArray := prog_36_method_27_code
def yJ8_newLength_cabcc : MethodName := ⟨RJ8, "newLength", "(III)I"⟩
abbrev cJ8_hugeLength_7cf53 : ByteArray := prog_36_method_28_code
def yJ8_hugeLength_7cf53 : MethodName := ⟨RJ8, "hugeLength", "(II)I"⟩
def RJ3 : String := "jdk/internal/util/Preconditions"
def TJ3 : u_T := fun k => match k with
  | _ => ("", "", "", false)
def tyJ3 : Nat → FieldType := fun k => match k with
  | _ => .int
abbrev wsJ30 : List Cond := u_ws RJ3 TJ3 0
theorem nmJ3 : ∀ a, a < 0 → ∀ b, b < 0 → a ≠ b → (TJ3 a).2.1 ≠ (TJ3 b).2.1 := by decide +kernel
theorem tyJ3_ok : ∀ k, k < 0 → parseFieldDescriptor (TJ3 k).2.2.1 = some (tyJ3 k) := by decide +kernel
abbrev cJ3_checkIndex_8e157 : ByteArray := prog_37_method_11_code
def yJ3_checkIndex_8e157 : MethodName := ⟨RJ3, "checkIndex", "(IILjava/util/function/BiFunction;)I"⟩
def RL : String := "SnowNodeLaw"
abbrev cL_cell : ByteArray := method_2_code
def yL_cell : MethodName := ⟨RL, "cell", "([II)I"⟩
abbrev cL_take : ByteArray := method_3_code
def yL_take : MethodName := ⟨RL, "take", "(LSnowNode;I[J)I"⟩
abbrev cL_poll : ByteArray := method_4_code
def yL_poll : MethodName := ⟨RL, "poll", "(LSnowNode;[J)I"⟩
abbrev cL_sampled : ByteArray := method_5_code
def yL_sampled : MethodName := ⟨RL, "sampled", "(LSnowNode;II[J)I"⟩
abbrev cL_answer : ByteArray := method_6_code
def yL_answer : MethodName := ⟨RL, "answer", "(LSnowNode;IIZ[J)I"⟩
abbrev cL_look : ByteArray := method_7_code
def yL_look : MethodName := ⟨RL, "look", "(LSnowNode;II[J)I"⟩
abbrev cL_set : ByteArray := method_8_code
def yL_set : MethodName := ⟨RL, "set", "(LSnowNode;III[J)I"⟩
abbrev cL_meet : ByteArray := method_9_code
def yL_meet : MethodName := ⟨RL, "meet", "(LSnowNode;II[J)I"⟩
abbrev cL_votes : ByteArray := method_10_code
def yL_votes : MethodName := ⟨RL, "votes", "(LSnowNode;III)I"⟩
abbrev cL_round : ByteArray := method_11_code
def yL_round : MethodName := ⟨RL, "round", "(LSnowNode;I[J)I"⟩
abbrev cL_law : ByteArray := code
def yL_law : MethodName := ⟨RL, "law", "([I)Z"⟩
abbrev vwCl : List vw_C := [(RJx4a65c, TJx4a65c, 3), (RX0, TX0, 11), (RX1, TX1, 2), (RX2, TX2, 6), (RX3, TX3, 6), (RX4, TX4, 2), (RX5, TX5, 6), (RX6, TX6, 3), (RX7, TX7, 2), (RX8, TX8, 16), (RX9, TX9, 12), (RX10, TX10, 44)]
end
section
/-! the words that every method here is given: those of the tables that stay true; and each link by its place -/
def Wd : List Cond := lw_tbl.filter goodWord
theorem wd_at (i : Nat) {w : Cond} (h : tables_1[i]? = some w) (hg : goodWord w = true) : w ∈ Wd := List.mem_filter.mpr ⟨List.mem_append_right _ (List.mem_of_getElem? h), hg⟩
theorem wd_pr (i : Nat) {w : Cond} (h : (k2_sels lw_privs)[i]? = some w) (hg : goodWord w = true) : w ∈ Wd := List.mem_filter.mpr ⟨List.mem_append_left _ (List.mem_of_getElem? h), hg⟩
theorem wd_all {ws : List Cond} (ps : List Nat) (h : ws = ps.filterMap (fun i => tables_1[i]?)) (hg : ws.all goodWord = true) : ∀ w ∈ ws, w ∈ Wd := by
  intro w hw
  have h1 := List.all_eq_true.mp hg w hw
  rw [h] at hw
  obtain ⟨i, -, hi⟩ := List.mem_filterMap.mp hw
  exact wd_at i hi h1
/-- the types of the fields of the kinds of objects: 0 an int, 1 a reference, 2 a long -/
def tgs : Nat → List Nat := fun c => match c with
  | 0 => [0, 1, 0]
  | 1 => [0, 1, 1, 0, 0, 0, 0, 0, 0, 0, 0]
  | 2 => [1, 1]
  | 3 => [0, 0, 1, 1, 1, 1]
  | 4 => [0, 1, 1, 1, 1, 0]
  | 5 => [1, 2]
  | 6 => [0, 1, 1, 1, 0, 0]
  | 7 => [1, 0, 0]
  | 8 => [1, 0]
  | 9 => [0, 1, 1, 1, 1, 1, 1, 1, 1, 0, 0, 0, 0, 0, 0, 0]
  | 10 => [0, 0, 0, 0, 1, 1, 1, 1, 1, 1, 0, 0]
  | _ => [0, 2, 0, 0, 0, 0, 1, 1, 0, 0, 1, 1, 1, 1, 1, 1, 1, 0, 1, 0, 1, 1, 1, 1, 1, 1, 1, 1, 1, 0, 0, 1, 1, 1, 1, 1, 1, 1, 1, 1, 1, 1, 1, 1]
theorem iw_0 : ∀ w ∈ u_ws RJx4a65c TJx4a65c 3, w ∈ Wd := wd_all [112, 108, 110] (by decide +kernel) (by decide +kernel)
theorem in_0 : (Cond.instantiable RJx4a65c 3) ∈ Wd ∧ (Cond.initialized RJx4a65c) ∈ Wd := ⟨wd_at 90 (by decide +kernel) rfl, wd_at 9 (by decide +kernel) rfl⟩
theorem iw_1 : ∀ w ∈ u_ws RX0 TX0 11, w ∈ Wd := wd_all [582, 584, 586, 588, 590, 592, 594, 596, 598, 600, 602] (by decide +kernel) (by decide +kernel)
theorem in_1 : (Cond.instantiable RX0 11) ∈ Wd ∧ (Cond.initialized RX0) ∈ Wd := ⟨wd_at 562 (by decide +kernel) rfl, wd_at 28 (by decide +kernel) rfl⟩
theorem iw_2 : ∀ w ∈ u_ws RX1 TX1 2, w ∈ Wd := wd_all [78, 80] (by decide +kernel) (by decide +kernel)
theorem in_2 : (Cond.instantiable RX1 2) ∈ Wd ∧ (Cond.initialized RX1) ∈ Wd := ⟨wd_at 71 (by decide +kernel) rfl, wd_at 5 (by decide +kernel) rfl⟩
theorem iw_3 : ∀ w ∈ u_ws RX2 TX2 6, w ∈ Wd := wd_all [317, 319, 321, 323, 325, 327] (by decide +kernel) (by decide +kernel)
theorem in_3 : (Cond.instantiable RX2 6) ∈ Wd ∧ (Cond.initialized RX2) ∈ Wd := ⟨wd_at 84 (by decide +kernel) rfl, wd_at 6 (by decide +kernel) rfl⟩
theorem iw_4 : ∀ w ∈ u_ws RX3 TX3 6, w ∈ Wd := wd_all [147, 149, 151, 153, 155, 157] (by decide +kernel) (by decide +kernel)
theorem in_4 : (Cond.instantiable RX3 6) ∈ Wd ∧ (Cond.initialized RX3) ∈ Wd := ⟨wd_at 120 (by decide +kernel) rfl, wd_at 10 (by decide +kernel) rfl⟩
theorem iw_5 : ∀ w ∈ u_ws RX4 TX4 2, w ∈ Wd := wd_all [48, 50] (by decide +kernel) (by decide +kernel)
theorem in_5 : (Cond.instantiable RX4 2) ∈ Wd ∧ (Cond.initialized RX4) ∈ Wd := ⟨wd_at 38 (by decide +kernel) rfl, wd_at 2 (by decide +kernel) rfl⟩
theorem iw_6 : ∀ w ∈ u_ws RX5 TX5 6, w ∈ Wd := wd_all [942, 944, 946, 948, 950, 952] (by decide +kernel) (by decide +kernel)
theorem in_6 : (Cond.instantiable RX5 6) ∈ Wd ∧ (Cond.initialized RX5) ∈ Wd := ⟨wd_at 911 (by decide +kernel) rfl, wd_at 25 (by decide +kernel) rfl⟩
theorem iw_7 : ∀ w ∈ u_ws RX6 TX6 3, w ∈ Wd := wd_all [745, 747, 749] (by decide +kernel) (by decide +kernel)
theorem in_7 : (Cond.instantiable RX6 3) ∈ Wd ∧ (Cond.initialized RX6) ∈ Wd := ⟨wd_at 737 (by decide +kernel) rfl, wd_at 20 (by decide +kernel) rfl⟩
theorem iw_8 : ∀ w ∈ u_ws RX7 TX7 2, w ∈ Wd := wd_all [64, 66] (by decide +kernel) (by decide +kernel)
theorem in_8 : (Cond.instantiable RX7 2) ∈ Wd ∧ (Cond.initialized RX7) ∈ Wd := ⟨wd_at 55 (by decide +kernel) rfl, wd_at 4 (by decide +kernel) rfl⟩
theorem iw_9 : ∀ w ∈ u_ws RX8 TX8 16, w ∈ Wd := wd_all [211, 213, 215, 217, 219, 221, 223, 225, 227, 229, 231, 233, 235, 237, 239, 241] (by decide +kernel) (by decide +kernel)
theorem in_9 : (Cond.instantiable RX8 16) ∈ Wd ∧ (Cond.initialized RX8) ∈ Wd := ⟨wd_at 161 (by decide +kernel) rfl, wd_at 11 (by decide +kernel) rfl⟩
theorem iw_10 : ∀ w ∈ u_ws RX9 TX9 12, w ∈ Wd := wd_all [346, 348, 350, 352, 354, 356, 358, 360, 362, 364, 366, 368] (by decide +kernel) (by decide +kernel)
theorem in_10 : (Cond.instantiable RX9 12) ∈ Wd ∧ (Cond.initialized RX9) ∈ Wd := ⟨wd_at 30 (by decide +kernel) rfl, wd_at 1 (by decide +kernel) rfl⟩
theorem iw_11 : ∀ w ∈ u_ws RX10 TX10 44, w ∈ Wd := wd_all [1153, 1155, 1157, 1159, 1161, 1163, 1165, 1167, 1169, 1171, 1173, 1175, 1177, 1179, 1181, 1183, 1185, 1187, 1189, 1191, 1193, 1195, 1197, 1199, 1201, 1203, 1205, 1207, 1209, 1211, 1213, 1215, 1217, 1219, 1221, 1223, 1225, 1227, 1229, 1231, 1233, 1235, 1237, 1239] (by decide +kernel) (by decide +kernel)
theorem in_11 : (Cond.instantiable RX10 44) ∈ Wd ∧ (Cond.initialized RX10) ∈ Wd := ⟨wd_at 1083 (by decide +kernel) rfl, wd_at 15 (by decide +kernel) rfl⟩
/-- a field by its link: the class that reads, the entry; the kind of object, the place, the type -/
def FL (own : String) (idx ci k tag : Nat) : Prop := ∃ r : vw_C, vwCl[ci]? = some r ∧ k < r.2.2 ∧ (tgs ci)[k]? = some tag ∧ ∃ ref, Cond.fieldLink own idx ref (r.2.1 k).2.1 (r.2.1 k).2.2.1 ∈ Wd ∧ (ref = (r.2.1 k).1 ∨ Cond.sameField ref (r.2.1 k).1 (r.2.1 k).2.1 (r.2.1 k).2.2.1 ∈ Wd)
theorem fx_RX4_15 : FL RX4 15 5 0 1 := ⟨(RX4, TX4, 2), rfl, by decide, rfl, "SnowNode$Peers", wd_at 46 (by decide +kernel) rfl, Or.inl rfl⟩
theorem fx_RX4_9 : FL RX4 9 5 1 2 := ⟨(RX4, TX4, 2), rfl, by decide, rfl, "SnowNode$Peers", wd_at 47 (by decide +kernel) rfl, Or.inl rfl⟩
theorem fx_RX7_9 : FL RX7 9 8 0 1 := ⟨(RX7, TX7, 2), rfl, by decide, rfl, "SnowNode$Tape", wd_at 60 (by decide +kernel) rfl, Or.inl rfl⟩
theorem fx_RX9_91 : FL RX9 91 8 0 1 := ⟨(RX7, TX7, 2), rfl, by decide, rfl, "SnowNode$Tape", wd_at 61 (by decide +kernel) rfl, Or.inl rfl⟩
theorem fx_RX7_13 : FL RX7 13 8 1 0 := ⟨(RX7, TX7, 2), rfl, by decide, rfl, "SnowNode$Tape", wd_at 62 (by decide +kernel) rfl, Or.inl rfl⟩
theorem fx_RX9_81 : FL RX9 81 8 1 0 := ⟨(RX7, TX7, 2), rfl, by decide, rfl, "SnowNode$Tape", wd_at 63 (by decide +kernel) rfl, Or.inl rfl⟩
theorem fx_RX1_7 : FL RX1 7 2 0 1 := ⟨(RX1, TX1, 2), rfl, by decide, rfl, "SnowNode$Digest", wd_at 76 (by decide +kernel) rfl, Or.inl rfl⟩
theorem fx_RX1_13 : FL RX1 13 2 1 1 := ⟨(RX1, TX1, 2), rfl, by decide, rfl, "SnowNode$Digest", wd_at 77 (by decide +kernel) rfl, Or.inl rfl⟩
-- static or other: (Jvm.Cond.fieldLink "java/util/ArrayList" (39 : Nat) "java/util/ArrayList" "DEFAULTCAPACITY_EMPTY_ELEMENTDATA" "[Ljava/lang/Object;")
theorem fx_RJx4a65c_9 : FL RJx4a65c 9 0 1 1 := ⟨(RJx4a65c, TJx4a65c, 3), rfl, by decide, rfl, "java/util/ArrayList", wd_at 103 (by decide +kernel) rfl, Or.inl rfl⟩
theorem fx_RJx4a65c_48 : FL RJx4a65c 48 0 2 0 := ⟨(RJx4a65c, TJx4a65c, 3), rfl, by decide, rfl, "java/util/ArrayList", wd_at 104 (by decide +kernel) rfl, Or.inl rfl⟩
-- static or other: (Jvm.Cond.fieldLink "java/util/AbstractList" (7 : Nat) "java/util/AbstractList" "modCount" "I")
theorem fx_RJx4a65c_63 : FL RJx4a65c 63 0 0 0 := ⟨(RJx4a65c, TJx4a65c, 3), rfl, by decide, rfl, "java/util/ArrayList", wd_at 106 (by decide +kernel) rfl, Or.inr (wd_at 107 (by decide +kernel) rfl)⟩
theorem fx_RX3_9 : FL RX3 9 4 0 0 := ⟨(RX3, TX3, 6), rfl, by decide, rfl, "SnowNode$Output", wd_at 128 (by decide +kernel) rfl, Or.inl rfl⟩
theorem fx_RX8_80 : FL RX8 80 4 0 0 := ⟨(RX3, TX3, 6), rfl, by decide, rfl, "SnowNode$Output", wd_at 129 (by decide +kernel) rfl, Or.inl rfl⟩
theorem fx_RX3_18 : FL RX3 18 4 1 1 := ⟨(RX3, TX3, 6), rfl, by decide, rfl, "SnowNode$Output", wd_at 130 (by decide +kernel) rfl, Or.inl rfl⟩
theorem fx_RX9_269 : FL RX9 269 4 1 1 := ⟨(RX3, TX3, 6), rfl, by decide, rfl, "SnowNode$Output", wd_at 131 (by decide +kernel) rfl, Or.inl rfl⟩
theorem fx_RX2_187 : FL RX2 187 4 1 1 := ⟨(RX3, TX3, 6), rfl, by decide, rfl, "SnowNode$Output", wd_at 132 (by decide +kernel) rfl, Or.inl rfl⟩
theorem fx_RX3_22 : FL RX3 22 4 2 1 := ⟨(RX3, TX3, 6), rfl, by decide, rfl, "SnowNode$Output", wd_at 133 (by decide +kernel) rfl, Or.inl rfl⟩
theorem fx_RX2_142 : FL RX2 142 4 2 1 := ⟨(RX3, TX3, 6), rfl, by decide, rfl, "SnowNode$Output", wd_at 134 (by decide +kernel) rfl, Or.inl rfl⟩
theorem fx_RX9_274 : FL RX9 274 4 2 1 := ⟨(RX3, TX3, 6), rfl, by decide, rfl, "SnowNode$Output", wd_at 135 (by decide +kernel) rfl, Or.inl rfl⟩
theorem fx_RX8_87 : FL RX8 87 4 2 1 := ⟨(RX3, TX3, 6), rfl, by decide, rfl, "SnowNode$Output", wd_at 136 (by decide +kernel) rfl, Or.inl rfl⟩
theorem fx_RX3_26 : FL RX3 26 4 3 1 := ⟨(RX3, TX3, 6), rfl, by decide, rfl, "SnowNode$Output", wd_at 137 (by decide +kernel) rfl, Or.inl rfl⟩
theorem fx_RX9_280 : FL RX9 280 4 3 1 := ⟨(RX3, TX3, 6), rfl, by decide, rfl, "SnowNode$Output", wd_at 138 (by decide +kernel) rfl, Or.inl rfl⟩
theorem fx_RX2_190 : FL RX2 190 4 3 1 := ⟨(RX3, TX3, 6), rfl, by decide, rfl, "SnowNode$Output", wd_at 139 (by decide +kernel) rfl, Or.inl rfl⟩
theorem fx_RX3_29 : FL RX3 29 4 4 1 := ⟨(RX3, TX3, 6), rfl, by decide, rfl, "SnowNode$Output", wd_at 140 (by decide +kernel) rfl, Or.inl rfl⟩
theorem fx_RX8_83 : FL RX8 83 4 4 1 := ⟨(RX3, TX3, 6), rfl, by decide, rfl, "SnowNode$Output", wd_at 141 (by decide +kernel) rfl, Or.inl rfl⟩
theorem fx_RX9_286 : FL RX9 286 4 4 1 := ⟨(RX3, TX3, 6), rfl, by decide, rfl, "SnowNode$Output", wd_at 142 (by decide +kernel) rfl, Or.inl rfl⟩
theorem fx_RX2_193 : FL RX2 193 4 4 1 := ⟨(RX3, TX3, 6), rfl, by decide, rfl, "SnowNode$Output", wd_at 143 (by decide +kernel) rfl, Or.inl rfl⟩
theorem fx_RX3_32 : FL RX3 32 4 5 0 := ⟨(RX3, TX3, 6), rfl, by decide, rfl, "SnowNode$Output", wd_at 144 (by decide +kernel) rfl, Or.inl rfl⟩
theorem fx_RX9_283 : FL RX9 283 4 5 0 := ⟨(RX3, TX3, 6), rfl, by decide, rfl, "SnowNode$Output", wd_at 145 (by decide +kernel) rfl, Or.inl rfl⟩
theorem fx_RX2_169 : FL RX2 169 4 5 0 := ⟨(RX3, TX3, 6), rfl, by decide, rfl, "SnowNode$Output", wd_at 146 (by decide +kernel) rfl, Or.inl rfl⟩
theorem fx_RX8_11 : FL RX8 11 9 0 0 := ⟨(RX8, TX8, 16), rfl, by decide, rfl, "SnowNode$Transaction", wd_at 169 (by decide +kernel) rfl, Or.inl rfl⟩
theorem fx_RX2_68 : FL RX2 68 9 0 0 := ⟨(RX8, TX8, 16), rfl, by decide, rfl, "SnowNode$Transaction", wd_at 170 (by decide +kernel) rfl, Or.inl rfl⟩
theorem fx_RX9_109 : FL RX9 109 9 0 0 := ⟨(RX8, TX8, 16), rfl, by decide, rfl, "SnowNode$Transaction", wd_at 171 (by decide +kernel) rfl, Or.inl rfl⟩
theorem fx_RX8_17 : FL RX8 17 9 1 1 := ⟨(RX8, TX8, 16), rfl, by decide, rfl, "SnowNode$Transaction", wd_at 172 (by decide +kernel) rfl, Or.inl rfl⟩
theorem fx_RX9_258 : FL RX9 258 9 1 1 := ⟨(RX8, TX8, 16), rfl, by decide, rfl, "SnowNode$Transaction", wd_at 173 (by decide +kernel) rfl, Or.inl rfl⟩
theorem fx_RX8_21 : FL RX8 21 9 2 1 := ⟨(RX8, TX8, 16), rfl, by decide, rfl, "SnowNode$Transaction", wd_at 174 (by decide +kernel) rfl, Or.inl rfl⟩
theorem fx_RX2_108 : FL RX2 108 9 2 1 := ⟨(RX8, TX8, 16), rfl, by decide, rfl, "SnowNode$Transaction", wd_at 175 (by decide +kernel) rfl, Or.inl rfl⟩
theorem fx_RX9_248 : FL RX9 248 9 2 1 := ⟨(RX8, TX8, 16), rfl, by decide, rfl, "SnowNode$Transaction", wd_at 176 (by decide +kernel) rfl, Or.inl rfl⟩
theorem fx_RX8_25 : FL RX8 25 9 3 1 := ⟨(RX8, TX8, 16), rfl, by decide, rfl, "SnowNode$Transaction", wd_at 177 (by decide +kernel) rfl, Or.inl rfl⟩
theorem fx_RX2_119 : FL RX2 119 9 3 1 := ⟨(RX8, TX8, 16), rfl, by decide, rfl, "SnowNode$Transaction", wd_at 178 (by decide +kernel) rfl, Or.inl rfl⟩
theorem fx_RX9_251 : FL RX9 251 9 3 1 := ⟨(RX8, TX8, 16), rfl, by decide, rfl, "SnowNode$Transaction", wd_at 179 (by decide +kernel) rfl, Or.inl rfl⟩
theorem fx_RX8_28 : FL RX8 28 9 4 1 := ⟨(RX8, TX8, 16), rfl, by decide, rfl, "SnowNode$Transaction", wd_at 180 (by decide +kernel) rfl, Or.inl rfl⟩
theorem fx_RX2_125 : FL RX2 125 9 4 1 := ⟨(RX8, TX8, 16), rfl, by decide, rfl, "SnowNode$Transaction", wd_at 181 (by decide +kernel) rfl, Or.inl rfl⟩
theorem fx_RX8_31 : FL RX8 31 9 5 1 := ⟨(RX8, TX8, 16), rfl, by decide, rfl, "SnowNode$Transaction", wd_at 182 (by decide +kernel) rfl, Or.inl rfl⟩
theorem fx_RX9_254 : FL RX9 254 9 5 1 := ⟨(RX8, TX8, 16), rfl, by decide, rfl, "SnowNode$Transaction", wd_at 183 (by decide +kernel) rfl, Or.inl rfl⟩
theorem fx_RX2_221 : FL RX2 221 9 5 1 := ⟨(RX8, TX8, 16), rfl, by decide, rfl, "SnowNode$Transaction", wd_at 184 (by decide +kernel) rfl, Or.inl rfl⟩
theorem fx_RX8_35 : FL RX8 35 9 6 1 := ⟨(RX8, TX8, 16), rfl, by decide, rfl, "SnowNode$Transaction", wd_at 185 (by decide +kernel) rfl, Or.inl rfl⟩
theorem fx_RX2_115 : FL RX2 115 9 6 1 := ⟨(RX8, TX8, 16), rfl, by decide, rfl, "SnowNode$Transaction", wd_at 186 (by decide +kernel) rfl, Or.inl rfl⟩
theorem fx_RX8_41 : FL RX8 41 9 7 1 := ⟨(RX8, TX8, 16), rfl, by decide, rfl, "SnowNode$Transaction", wd_at 187 (by decide +kernel) rfl, Or.inl rfl⟩
theorem fx_RX2_135 : FL RX2 135 9 7 1 := ⟨(RX8, TX8, 16), rfl, by decide, rfl, "SnowNode$Transaction", wd_at 188 (by decide +kernel) rfl, Or.inl rfl⟩
theorem fx_RX8_44 : FL RX8 44 9 8 1 := ⟨(RX8, TX8, 16), rfl, by decide, rfl, "SnowNode$Transaction", wd_at 189 (by decide +kernel) rfl, Or.inl rfl⟩
theorem fx_RX8_48 : FL RX8 48 9 9 0 := ⟨(RX8, TX8, 16), rfl, by decide, rfl, "SnowNode$Transaction", wd_at 190 (by decide +kernel) rfl, Or.inl rfl⟩
theorem fx_RX2_54 : FL RX2 54 9 9 0 := ⟨(RX8, TX8, 16), rfl, by decide, rfl, "SnowNode$Transaction", wd_at 191 (by decide +kernel) rfl, Or.inl rfl⟩
theorem fx_RX8_51 : FL RX8 51 9 10 0 := ⟨(RX8, TX8, 16), rfl, by decide, rfl, "SnowNode$Transaction", wd_at 192 (by decide +kernel) rfl, Or.inl rfl⟩
theorem fx_RX2_57 : FL RX2 57 9 10 0 := ⟨(RX8, TX8, 16), rfl, by decide, rfl, "SnowNode$Transaction", wd_at 193 (by decide +kernel) rfl, Or.inl rfl⟩
theorem fx_RX3_52 : FL RX3 52 9 10 0 := ⟨(RX8, TX8, 16), rfl, by decide, rfl, "SnowNode$Transaction", wd_at 194 (by decide +kernel) rfl, Or.inl rfl⟩
theorem fx_RX9_229 : FL RX9 229 9 10 0 := ⟨(RX8, TX8, 16), rfl, by decide, rfl, "SnowNode$Transaction", wd_at 195 (by decide +kernel) rfl, Or.inl rfl⟩
theorem fx_RX8_54 : FL RX8 54 9 11 0 := ⟨(RX8, TX8, 16), rfl, by decide, rfl, "SnowNode$Transaction", wd_at 196 (by decide +kernel) rfl, Or.inl rfl⟩
theorem fx_RX3_43 : FL RX3 43 9 11 0 := ⟨(RX8, TX8, 16), rfl, by decide, rfl, "SnowNode$Transaction", wd_at 197 (by decide +kernel) rfl, Or.inl rfl⟩
theorem fx_RX9_232 : FL RX9 232 9 11 0 := ⟨(RX8, TX8, 16), rfl, by decide, rfl, "SnowNode$Transaction", wd_at 198 (by decide +kernel) rfl, Or.inl rfl⟩
theorem fx_RX2_163 : FL RX2 163 9 11 0 := ⟨(RX8, TX8, 16), rfl, by decide, rfl, "SnowNode$Transaction", wd_at 199 (by decide +kernel) rfl, Or.inl rfl⟩
theorem fx_RX8_57 : FL RX8 57 9 12 0 := ⟨(RX8, TX8, 16), rfl, by decide, rfl, "SnowNode$Transaction", wd_at 200 (by decide +kernel) rfl, Or.inl rfl⟩
theorem fx_RX9_235 : FL RX9 235 9 12 0 := ⟨(RX8, TX8, 16), rfl, by decide, rfl, "SnowNode$Transaction", wd_at 201 (by decide +kernel) rfl, Or.inl rfl⟩
theorem fx_RX2_159 : FL RX2 159 9 12 0 := ⟨(RX8, TX8, 16), rfl, by decide, rfl, "SnowNode$Transaction", wd_at 202 (by decide +kernel) rfl, Or.inl rfl⟩
theorem fx_RX8_61 : FL RX8 61 9 13 0 := ⟨(RX8, TX8, 16), rfl, by decide, rfl, "SnowNode$Transaction", wd_at 203 (by decide +kernel) rfl, Or.inl rfl⟩
theorem fx_RX9_163 : FL RX9 163 9 13 0 := ⟨(RX8, TX8, 16), rfl, by decide, rfl, "SnowNode$Transaction", wd_at 204 (by decide +kernel) rfl, Or.inl rfl⟩
theorem fx_RX2_207 : FL RX2 207 9 13 0 := ⟨(RX8, TX8, 16), rfl, by decide, rfl, "SnowNode$Transaction", wd_at 205 (by decide +kernel) rfl, Or.inl rfl⟩
theorem fx_RX8_64 : FL RX8 64 9 14 0 := ⟨(RX8, TX8, 16), rfl, by decide, rfl, "SnowNode$Transaction", wd_at 206 (by decide +kernel) rfl, Or.inl rfl⟩
theorem fx_RX9_139 : FL RX9 139 9 14 0 := ⟨(RX8, TX8, 16), rfl, by decide, rfl, "SnowNode$Transaction", wd_at 207 (by decide +kernel) rfl, Or.inl rfl⟩
theorem fx_RX2_204 : FL RX2 204 9 14 0 := ⟨(RX8, TX8, 16), rfl, by decide, rfl, "SnowNode$Transaction", wd_at 208 (by decide +kernel) rfl, Or.inl rfl⟩
theorem fx_RX8_67 : FL RX8 67 9 15 0 := ⟨(RX8, TX8, 16), rfl, by decide, rfl, "SnowNode$Transaction", wd_at 209 (by decide +kernel) rfl, Or.inl rfl⟩
theorem fx_RX2_198 : FL RX2 198 9 15 0 := ⟨(RX8, TX8, 16), rfl, by decide, rfl, "SnowNode$Transaction", wd_at 210 (by decide +kernel) rfl, Or.inl rfl⟩
theorem fx_RX2_9 : FL RX2 9 3 0 0 := ⟨(RX2, TX2, 6), rfl, by decide, rfl, "SnowNode$Graph", wd_at 308 (by decide +kernel) rfl, Or.inl rfl⟩
theorem fx_RX2_15 : FL RX2 15 3 1 0 := ⟨(RX2, TX2, 6), rfl, by decide, rfl, "SnowNode$Graph", wd_at 309 (by decide +kernel) rfl, Or.inl rfl⟩
theorem fx_RX2_21 : FL RX2 21 3 2 1 := ⟨(RX2, TX2, 6), rfl, by decide, rfl, "SnowNode$Graph", wd_at 310 (by decide +kernel) rfl, Or.inl rfl⟩
theorem fx_RX9_340 : FL RX9 340 3 2 1 := ⟨(RX2, TX2, 6), rfl, by decide, rfl, "SnowNode$Graph", wd_at 311 (by decide +kernel) rfl, Or.inl rfl⟩
theorem fx_RX2_25 : FL RX2 25 3 3 1 := ⟨(RX2, TX2, 6), rfl, by decide, rfl, "SnowNode$Graph", wd_at 312 (by decide +kernel) rfl, Or.inl rfl⟩
theorem fx_RX9_346 : FL RX9 346 3 3 1 := ⟨(RX2, TX2, 6), rfl, by decide, rfl, "SnowNode$Graph", wd_at 313 (by decide +kernel) rfl, Or.inl rfl⟩
theorem fx_RX2_28 : FL RX2 28 3 4 1 := ⟨(RX2, TX2, 6), rfl, by decide, rfl, "SnowNode$Graph", wd_at 314 (by decide +kernel) rfl, Or.inl rfl⟩
theorem fx_RX9_349 : FL RX9 349 3 4 1 := ⟨(RX2, TX2, 6), rfl, by decide, rfl, "SnowNode$Graph", wd_at 315 (by decide +kernel) rfl, Or.inl rfl⟩
theorem fx_RX2_31 : FL RX2 31 3 5 1 := ⟨(RX2, TX2, 6), rfl, by decide, rfl, "SnowNode$Graph", wd_at 316 (by decide +kernel) rfl, Or.inl rfl⟩
theorem fx_RX9_7 : FL RX9 7 10 0 0 := ⟨(RX9, TX9, 12), rfl, by decide, rfl, "SnowNode", wd_at 334 (by decide +kernel) rfl, Or.inl rfl⟩
theorem fx_RX9_13 : FL RX9 13 10 1 0 := ⟨(RX9, TX9, 12), rfl, by decide, rfl, "SnowNode", wd_at 335 (by decide +kernel) rfl, Or.inl rfl⟩
theorem fx_RX9_16 : FL RX9 16 10 2 0 := ⟨(RX9, TX9, 12), rfl, by decide, rfl, "SnowNode", wd_at 336 (by decide +kernel) rfl, Or.inl rfl⟩
theorem fx_RX9_19 : FL RX9 19 10 3 0 := ⟨(RX9, TX9, 12), rfl, by decide, rfl, "SnowNode", wd_at 337 (by decide +kernel) rfl, Or.inl rfl⟩
theorem fx_RX9_27 : FL RX9 27 10 4 1 := ⟨(RX9, TX9, 12), rfl, by decide, rfl, "SnowNode", wd_at 338 (by decide +kernel) rfl, Or.inl rfl⟩
theorem fx_RX9_34 : FL RX9 34 10 5 1 := ⟨(RX9, TX9, 12), rfl, by decide, rfl, "SnowNode", wd_at 339 (by decide +kernel) rfl, Or.inl rfl⟩
theorem fx_RX9_41 : FL RX9 41 10 6 1 := ⟨(RX9, TX9, 12), rfl, by decide, rfl, "SnowNode", wd_at 340 (by decide +kernel) rfl, Or.inl rfl⟩
theorem fx_RX9_50 : FL RX9 50 10 7 1 := ⟨(RX9, TX9, 12), rfl, by decide, rfl, "SnowNode", wd_at 341 (by decide +kernel) rfl, Or.inl rfl⟩
theorem fx_RX9_57 : FL RX9 57 10 8 1 := ⟨(RX9, TX9, 12), rfl, by decide, rfl, "SnowNode", wd_at 342 (by decide +kernel) rfl, Or.inl rfl⟩
theorem fx_RX9_63 : FL RX9 63 10 9 1 := ⟨(RX9, TX9, 12), rfl, by decide, rfl, "SnowNode", wd_at 343 (by decide +kernel) rfl, Or.inl rfl⟩
theorem fx_RX9_67 : FL RX9 67 10 10 0 := ⟨(RX9, TX9, 12), rfl, by decide, rfl, "SnowNode", wd_at 344 (by decide +kernel) rfl, Or.inl rfl⟩
theorem fx_RX9_70 : FL RX9 70 10 11 0 := ⟨(RX9, TX9, 12), rfl, by decide, rfl, "SnowNode", wd_at 345 (by decide +kernel) rfl, Or.inl rfl⟩
theorem fx_RX0_9 : FL RX0 9 1 0 0 := ⟨(RX0, TX0, 11), rfl, by decide, rfl, "SnowNode$Choice", wd_at 567 (by decide +kernel) rfl, Or.inl rfl⟩
theorem fx_RX0_15 : FL RX0 15 1 1 1 := ⟨(RX0, TX0, 11), rfl, by decide, rfl, "SnowNode$Choice", wd_at 568 (by decide +kernel) rfl, Or.inl rfl⟩
theorem fx_RX0_19 : FL RX0 19 1 2 1 := ⟨(RX0, TX0, 11), rfl, by decide, rfl, "SnowNode$Choice", wd_at 569 (by decide +kernel) rfl, Or.inl rfl⟩
theorem fx_RX0_22 : FL RX0 22 1 3 0 := ⟨(RX0, TX0, 11), rfl, by decide, rfl, "SnowNode$Choice", wd_at 570 (by decide +kernel) rfl, Or.inl rfl⟩
theorem fx_RX0_25 : FL RX0 25 1 4 0 := ⟨(RX0, TX0, 11), rfl, by decide, rfl, "SnowNode$Choice", wd_at 571 (by decide +kernel) rfl, Or.inl rfl⟩
theorem fx_RX0_28 : FL RX0 28 1 5 0 := ⟨(RX0, TX0, 11), rfl, by decide, rfl, "SnowNode$Choice", wd_at 572 (by decide +kernel) rfl, Or.inl rfl⟩
theorem fx_RX0_31 : FL RX0 31 1 6 0 := ⟨(RX0, TX0, 11), rfl, by decide, rfl, "SnowNode$Choice", wd_at 573 (by decide +kernel) rfl, Or.inl rfl⟩
theorem fx_RX9_315 : FL RX9 315 1 6 0 := ⟨(RX0, TX0, 11), rfl, by decide, rfl, "SnowNode$Choice", wd_at 574 (by decide +kernel) rfl, Or.inl rfl⟩
theorem fx_RX0_34 : FL RX0 34 1 7 0 := ⟨(RX0, TX0, 11), rfl, by decide, rfl, "SnowNode$Choice", wd_at 575 (by decide +kernel) rfl, Or.inl rfl⟩
theorem fx_RX0_37 : FL RX0 37 1 8 0 := ⟨(RX0, TX0, 11), rfl, by decide, rfl, "SnowNode$Choice", wd_at 576 (by decide +kernel) rfl, Or.inl rfl⟩
theorem fx_RX9_336 : FL RX9 336 1 8 0 := ⟨(RX0, TX0, 11), rfl, by decide, rfl, "SnowNode$Choice", wd_at 577 (by decide +kernel) rfl, Or.inl rfl⟩
theorem fx_RX0_57 : FL RX0 57 1 9 0 := ⟨(RX0, TX0, 11), rfl, by decide, rfl, "SnowNode$Choice", wd_at 578 (by decide +kernel) rfl, Or.inl rfl⟩
theorem fx_RX9_325 : FL RX9 325 1 9 0 := ⟨(RX0, TX0, 11), rfl, by decide, rfl, "SnowNode$Choice", wd_at 579 (by decide +kernel) rfl, Or.inl rfl⟩
theorem fx_RX0_40 : FL RX0 40 1 10 0 := ⟨(RX0, TX0, 11), rfl, by decide, rfl, "SnowNode$Choice", wd_at 580 (by decide +kernel) rfl, Or.inl rfl⟩
theorem fx_RX9_318 : FL RX9 318 1 10 0 := ⟨(RX0, TX0, 11), rfl, by decide, rfl, "SnowNode$Choice", wd_at 581 (by decide +kernel) rfl, Or.inl rfl⟩
-- static or other: (Jvm.Cond.fieldLink "java/lang/Throwable" (198 : Nat) "java/lang/Throwable" "backtrace" "Ljava/lang/Object;")
-- static or other: (Jvm.Cond.fieldLink "java/lang/Throwable" (13 : Nat) "java/lang/Throwable" "UNASSIGNED_STACK" "[Ljava/lang/StackTraceElement;")
-- static or other: (Jvm.Cond.fieldLink "java/lang/Throwable" (20 : Nat) "java/lang/Throwable" "SUPPRESSED_SENTINEL" "Ljava/util/List;")
-- static or other: (Jvm.Cond.fieldLink "java/lang/Throwable" (198 : Nat) "java/lang/Throwable" "backtrace" "Ljava/lang/Object;")
-- static or other: (Jvm.Cond.fieldLink "java/lang/Throwable" (31 : Nat) "java/lang/Throwable" "detailMessage" "Ljava/lang/String;")
-- static or other: (Jvm.Cond.fieldLink "java/lang/Throwable" (7 : Nat) "java/lang/Throwable" "cause" "Ljava/lang/Throwable;")
-- static or other: (Jvm.Cond.fieldLink "java/lang/Throwable" (17 : Nat) "java/lang/Throwable" "stackTrace" "[Ljava/lang/StackTraceElement;")
-- static or other: (Jvm.Cond.fieldLink "java/lang/Throwable" (24 : Nat) "java/lang/Throwable" "suppressedExceptions" "Ljava/util/List;")
theorem fx_RX6_7 : FL RX6 7 7 0 1 := ⟨(RX6, TX6, 3), rfl, by decide, rfl, "SnowNode$Reader", wd_at 742 (by decide +kernel) rfl, Or.inl rfl⟩
theorem fx_RX6_13 : FL RX6 13 7 1 0 := ⟨(RX6, TX6, 3), rfl, by decide, rfl, "SnowNode$Reader", wd_at 743 (by decide +kernel) rfl, Or.inl rfl⟩
theorem fx_RX6_17 : FL RX6 17 7 2 0 := ⟨(RX6, TX6, 3), rfl, by decide, rfl, "SnowNode$Reader", wd_at 744 (by decide +kernel) rfl, Or.inl rfl⟩
-- static or other: (Jvm.Cond.fieldLink "SnowNode$Digest" (29 : Nat) "SnowNode$Digest" "START" "[I")
-- static or other: (Jvm.Cond.fieldLink "SnowNode$Digest" (38 : Nat) "SnowNode$Digest" "ROUND" "[I")
theorem fx_RX5_9 : FL RX5 9 6 0 0 := ⟨(RX5, TX5, 6), rfl, by decide, rfl, "SnowNode$Poll", wd_at 930 (by decide +kernel) rfl, Or.inl rfl⟩
theorem fx_RX9_358 : FL RX9 358 6 0 0 := ⟨(RX5, TX5, 6), rfl, by decide, rfl, "SnowNode$Poll", wd_at 931 (by decide +kernel) rfl, Or.inl rfl⟩
theorem fx_RX5_15 : FL RX5 15 6 1 1 := ⟨(RX5, TX5, 6), rfl, by decide, rfl, "SnowNode$Poll", wd_at 932 (by decide +kernel) rfl, Or.inl rfl⟩
theorem fx_RX9_188 : FL RX9 188 6 1 1 := ⟨(RX5, TX5, 6), rfl, by decide, rfl, "SnowNode$Poll", wd_at 933 (by decide +kernel) rfl, Or.inl rfl⟩
theorem fx_RX5_19 : FL RX5 19 6 2 1 := ⟨(RX5, TX5, 6), rfl, by decide, rfl, "SnowNode$Poll", wd_at 934 (by decide +kernel) rfl, Or.inl rfl⟩
theorem fx_RX9_192 : FL RX9 192 6 2 1 := ⟨(RX5, TX5, 6), rfl, by decide, rfl, "SnowNode$Poll", wd_at 935 (by decide +kernel) rfl, Or.inl rfl⟩
theorem fx_RX5_23 : FL RX5 23 6 3 1 := ⟨(RX5, TX5, 6), rfl, by decide, rfl, "SnowNode$Poll", wd_at 936 (by decide +kernel) rfl, Or.inl rfl⟩
theorem fx_RX9_204 : FL RX9 204 6 3 1 := ⟨(RX5, TX5, 6), rfl, by decide, rfl, "SnowNode$Poll", wd_at 937 (by decide +kernel) rfl, Or.inl rfl⟩
theorem fx_RX5_27 : FL RX5 27 6 4 0 := ⟨(RX5, TX5, 6), rfl, by decide, rfl, "SnowNode$Poll", wd_at 938 (by decide +kernel) rfl, Or.inl rfl⟩
theorem fx_RX9_214 : FL RX9 214 6 4 0 := ⟨(RX5, TX5, 6), rfl, by decide, rfl, "SnowNode$Poll", wd_at 939 (by decide +kernel) rfl, Or.inl rfl⟩
theorem fx_RX5_30 : FL RX5 30 6 5 0 := ⟨(RX5, TX5, 6), rfl, by decide, rfl, "SnowNode$Poll", wd_at 940 (by decide +kernel) rfl, Or.inl rfl⟩
theorem fx_RX9_224 : FL RX9 224 6 5 0 := ⟨(RX5, TX5, 6), rfl, by decide, rfl, "SnowNode$Poll", wd_at 941 (by decide +kernel) rfl, Or.inl rfl⟩
theorem fx_RX10_145 : FL RX10 145 11 0 0 := ⟨(RX10, TX10, 44), rfl, by decide, rfl, "SnowNodeModel", wd_at 1109 (by decide +kernel) rfl, Or.inl rfl⟩
theorem fx_RX10_118 : FL RX10 118 11 1 2 := ⟨(RX10, TX10, 44), rfl, by decide, rfl, "SnowNodeModel", wd_at 1110 (by decide +kernel) rfl, Or.inl rfl⟩
theorem fx_RX10_122 : FL RX10 122 11 2 0 := ⟨(RX10, TX10, 44), rfl, by decide, rfl, "SnowNodeModel", wd_at 1111 (by decide +kernel) rfl, Or.inl rfl⟩
theorem fx_RX10_125 : FL RX10 125 11 3 0 := ⟨(RX10, TX10, 44), rfl, by decide, rfl, "SnowNodeModel", wd_at 1112 (by decide +kernel) rfl, Or.inl rfl⟩
theorem fx_RX10_128 : FL RX10 128 11 4 0 := ⟨(RX10, TX10, 44), rfl, by decide, rfl, "SnowNodeModel", wd_at 1113 (by decide +kernel) rfl, Or.inl rfl⟩
theorem fx_RX10_131 : FL RX10 131 11 5 0 := ⟨(RX10, TX10, 44), rfl, by decide, rfl, "SnowNodeModel", wd_at 1114 (by decide +kernel) rfl, Or.inl rfl⟩
theorem fx_RX10_7 : FL RX10 7 11 6 1 := ⟨(RX10, TX10, 44), rfl, by decide, rfl, "SnowNodeModel", wd_at 1115 (by decide +kernel) rfl, Or.inl rfl⟩
theorem fx_RX10_13 : FL RX10 13 11 7 1 := ⟨(RX10, TX10, 44), rfl, by decide, rfl, "SnowNodeModel", wd_at 1116 (by decide +kernel) rfl, Or.inl rfl⟩
theorem fx_RX10_173 : FL RX10 173 11 8 0 := ⟨(RX10, TX10, 44), rfl, by decide, rfl, "SnowNodeModel", wd_at 1117 (by decide +kernel) rfl, Or.inl rfl⟩
theorem fx_RX10_16 : FL RX10 16 11 9 0 := ⟨(RX10, TX10, 44), rfl, by decide, rfl, "SnowNodeModel", wd_at 1118 (by decide +kernel) rfl, Or.inl rfl⟩
theorem fx_RX10_20 : FL RX10 20 11 10 1 := ⟨(RX10, TX10, 44), rfl, by decide, rfl, "SnowNodeModel", wd_at 1119 (by decide +kernel) rfl, Or.inl rfl⟩
theorem fx_RX10_23 : FL RX10 23 11 11 1 := ⟨(RX10, TX10, 44), rfl, by decide, rfl, "SnowNodeModel", wd_at 1120 (by decide +kernel) rfl, Or.inl rfl⟩
theorem fx_RX10_27 : FL RX10 27 11 12 1 := ⟨(RX10, TX10, 44), rfl, by decide, rfl, "SnowNodeModel", wd_at 1121 (by decide +kernel) rfl, Or.inl rfl⟩
theorem fx_RX10_30 : FL RX10 30 11 13 1 := ⟨(RX10, TX10, 44), rfl, by decide, rfl, "SnowNodeModel", wd_at 1122 (by decide +kernel) rfl, Or.inl rfl⟩
theorem fx_RX10_33 : FL RX10 33 11 14 1 := ⟨(RX10, TX10, 44), rfl, by decide, rfl, "SnowNodeModel", wd_at 1123 (by decide +kernel) rfl, Or.inl rfl⟩
theorem fx_RX10_37 : FL RX10 37 11 15 1 := ⟨(RX10, TX10, 44), rfl, by decide, rfl, "SnowNodeModel", wd_at 1124 (by decide +kernel) rfl, Or.inl rfl⟩
theorem fx_RX10_40 : FL RX10 40 11 16 1 := ⟨(RX10, TX10, 44), rfl, by decide, rfl, "SnowNodeModel", wd_at 1125 (by decide +kernel) rfl, Or.inl rfl⟩
theorem fx_RX10_43 : FL RX10 43 11 17 0 := ⟨(RX10, TX10, 44), rfl, by decide, rfl, "SnowNodeModel", wd_at 1126 (by decide +kernel) rfl, Or.inl rfl⟩
theorem fx_RX10_46 : FL RX10 46 11 18 1 := ⟨(RX10, TX10, 44), rfl, by decide, rfl, "SnowNodeModel", wd_at 1127 (by decide +kernel) rfl, Or.inl rfl⟩
theorem fx_RX10_49 : FL RX10 49 11 19 0 := ⟨(RX10, TX10, 44), rfl, by decide, rfl, "SnowNodeModel", wd_at 1128 (by decide +kernel) rfl, Or.inl rfl⟩
theorem fx_RX10_52 : FL RX10 52 11 20 1 := ⟨(RX10, TX10, 44), rfl, by decide, rfl, "SnowNodeModel", wd_at 1129 (by decide +kernel) rfl, Or.inl rfl⟩
theorem fx_RX10_55 : FL RX10 55 11 21 1 := ⟨(RX10, TX10, 44), rfl, by decide, rfl, "SnowNodeModel", wd_at 1130 (by decide +kernel) rfl, Or.inl rfl⟩
theorem fx_RX10_58 : FL RX10 58 11 22 1 := ⟨(RX10, TX10, 44), rfl, by decide, rfl, "SnowNodeModel", wd_at 1131 (by decide +kernel) rfl, Or.inl rfl⟩
theorem fx_RX10_61 : FL RX10 61 11 23 1 := ⟨(RX10, TX10, 44), rfl, by decide, rfl, "SnowNodeModel", wd_at 1132 (by decide +kernel) rfl, Or.inl rfl⟩
theorem fx_RX10_64 : FL RX10 64 11 24 1 := ⟨(RX10, TX10, 44), rfl, by decide, rfl, "SnowNodeModel", wd_at 1133 (by decide +kernel) rfl, Or.inl rfl⟩
theorem fx_RX10_67 : FL RX10 67 11 25 1 := ⟨(RX10, TX10, 44), rfl, by decide, rfl, "SnowNodeModel", wd_at 1134 (by decide +kernel) rfl, Or.inl rfl⟩
theorem fx_RX10_70 : FL RX10 70 11 26 1 := ⟨(RX10, TX10, 44), rfl, by decide, rfl, "SnowNodeModel", wd_at 1135 (by decide +kernel) rfl, Or.inl rfl⟩
theorem fx_RX10_73 : FL RX10 73 11 27 1 := ⟨(RX10, TX10, 44), rfl, by decide, rfl, "SnowNodeModel", wd_at 1136 (by decide +kernel) rfl, Or.inl rfl⟩
theorem fx_RX10_76 : FL RX10 76 11 28 1 := ⟨(RX10, TX10, 44), rfl, by decide, rfl, "SnowNodeModel", wd_at 1137 (by decide +kernel) rfl, Or.inl rfl⟩
theorem fx_RX10_297 : FL RX10 297 11 29 0 := ⟨(RX10, TX10, 44), rfl, by decide, rfl, "SnowNodeModel", wd_at 1138 (by decide +kernel) rfl, Or.inl rfl⟩
theorem fx_RX10_313 : FL RX10 313 11 30 0 := ⟨(RX10, TX10, 44), rfl, by decide, rfl, "SnowNodeModel", wd_at 1139 (by decide +kernel) rfl, Or.inl rfl⟩
theorem fx_RX10_79 : FL RX10 79 11 31 1 := ⟨(RX10, TX10, 44), rfl, by decide, rfl, "SnowNodeModel", wd_at 1140 (by decide +kernel) rfl, Or.inl rfl⟩
theorem fx_RX10_82 : FL RX10 82 11 32 1 := ⟨(RX10, TX10, 44), rfl, by decide, rfl, "SnowNodeModel", wd_at 1141 (by decide +kernel) rfl, Or.inl rfl⟩
theorem fx_RX10_85 : FL RX10 85 11 33 1 := ⟨(RX10, TX10, 44), rfl, by decide, rfl, "SnowNodeModel", wd_at 1142 (by decide +kernel) rfl, Or.inl rfl⟩
theorem fx_RX10_88 : FL RX10 88 11 34 1 := ⟨(RX10, TX10, 44), rfl, by decide, rfl, "SnowNodeModel", wd_at 1143 (by decide +kernel) rfl, Or.inl rfl⟩
theorem fx_RX10_91 : FL RX10 91 11 35 1 := ⟨(RX10, TX10, 44), rfl, by decide, rfl, "SnowNodeModel", wd_at 1144 (by decide +kernel) rfl, Or.inl rfl⟩
theorem fx_RX10_94 : FL RX10 94 11 36 1 := ⟨(RX10, TX10, 44), rfl, by decide, rfl, "SnowNodeModel", wd_at 1145 (by decide +kernel) rfl, Or.inl rfl⟩
theorem fx_RX10_97 : FL RX10 97 11 37 1 := ⟨(RX10, TX10, 44), rfl, by decide, rfl, "SnowNodeModel", wd_at 1146 (by decide +kernel) rfl, Or.inl rfl⟩
theorem fx_RX10_100 : FL RX10 100 11 38 1 := ⟨(RX10, TX10, 44), rfl, by decide, rfl, "SnowNodeModel", wd_at 1147 (by decide +kernel) rfl, Or.inl rfl⟩
theorem fx_RX10_103 : FL RX10 103 11 39 1 := ⟨(RX10, TX10, 44), rfl, by decide, rfl, "SnowNodeModel", wd_at 1148 (by decide +kernel) rfl, Or.inl rfl⟩
theorem fx_RX10_106 : FL RX10 106 11 40 1 := ⟨(RX10, TX10, 44), rfl, by decide, rfl, "SnowNodeModel", wd_at 1149 (by decide +kernel) rfl, Or.inl rfl⟩
theorem fx_RX10_109 : FL RX10 109 11 41 1 := ⟨(RX10, TX10, 44), rfl, by decide, rfl, "SnowNodeModel", wd_at 1150 (by decide +kernel) rfl, Or.inl rfl⟩
theorem fx_RX10_112 : FL RX10 112 11 42 1 := ⟨(RX10, TX10, 44), rfl, by decide, rfl, "SnowNodeModel", wd_at 1151 (by decide +kernel) rfl, Or.inl rfl⟩
theorem fx_RX10_115 : FL RX10 115 11 43 1 := ⟨(RX10, TX10, 44), rfl, by decide, rfl, "SnowNodeModel", wd_at 1152 (by decide +kernel) rfl, Or.inl rfl⟩
end
section
theorem fx_RJxc12de_7 : FL RJxc12de 7 0 0 0 := ⟨(RJx4a65c, TJx4a65c, 3), rfl, by decide, rfl, "java/util/AbstractList", wd_at 105 (by decide +kernel) rfl, Or.inl rfl⟩
/-! The heap as functions: the kind of each cell (0: none of ours), its fields by a number of the field (100 times the kind of object plus the place), its elements by the kind of array -/
abbrev hS : Type := (Nat → Nat) × (Nat → Nat → Int32) × (Nat → Nat → Option Nat) × (Nat → Nat → Int64) × (Nat → Nat) × (Nat → Nat → Nat → Int32) × (Nat → Nat → Nat → Int64) × (Nat → Nat → Nat → Option Nat)
def sK (S : hS) : Nat → Nat := S.1
def sI (S : hS) : Nat → Nat → Int32 := S.2.1
def sR (S : hS) : Nat → Nat → Option Nat := S.2.2.1
def sJ (S : hS) : Nat → Nat → Int64 := S.2.2.2.1
def sN (S : hS) : Nat → Nat := S.2.2.2.2.1
def aI (S : hS) : Nat → Nat → Nat → Int32 := S.2.2.2.2.2.1
def aJ (S : hS) : Nat → Nat → Nat → Int64 := S.2.2.2.2.2.2.1
def aR (S : hS) : Nat → Nat → Nat → Option Nat := S.2.2.2.2.2.2.2
def u2 {α : Type} (f : Nat → Nat → α) (i a : Nat) (v : α) : Nat → Nat → α := fun j b => if j = i then (if b = a then v else f j b) else f j b
def u2r {α : Type} (f : Nat → Nat → Nat → α) (i a : Nat) (v : Nat → α) : Nat → Nat → Nat → α := fun j b => if j = i then (if b = a then v else f j b) else f j b
def setI (S : hS) (f a : Nat) (v : Int32) : hS := (S.1, u2 S.2.1 f a v, S.2.2)
def setR (S : hS) (f a : Nat) (v : Option Nat) : hS := (S.1, S.2.1, u2 S.2.2.1 f a v, S.2.2.2)
def setJ (S : hS) (f a : Nat) (v : Int64) : hS := (S.1, S.2.1, S.2.2.1, u2 S.2.2.2.1 f a v, S.2.2.2.2)
def putI (S : hS) (r a : Nat) (v : Nat → Int32) : hS := (S.1, S.2.1, S.2.2.1, S.2.2.2.1, S.2.2.2.2.1, u2r S.2.2.2.2.2.1 r a v, S.2.2.2.2.2.2)
def putJ (S : hS) (r a : Nat) (v : Nat → Int64) : hS := (S.1, S.2.1, S.2.2.1, S.2.2.2.1, S.2.2.2.2.1, S.2.2.2.2.2.1, u2r S.2.2.2.2.2.2.1 r a v, S.2.2.2.2.2.2.2)
def putR (S : hS) (r a : Nat) (v : Nat → Option Nat) : hS := (S.1, S.2.1, S.2.2.1, S.2.2.2.1, S.2.2.2.2.1, S.2.2.2.2.2.1, S.2.2.2.2.2.2.1, u2r S.2.2.2.2.2.2.2 r a v)
/-- a new object, a new array, at q -/
def newO (S : hS) (q k : Nat) : hS := (va_up S.1 q k, fun f a => if a = q then 0 else S.2.1 f a, fun f a => if a = q then none else S.2.2.1 f a, fun f a => if a = q then 0 else S.2.2.2.1 f a, S.2.2.2.2)
def newA (S : hS) (q k n : Nat) : hS := (va_up S.1 q k, S.2.1, S.2.2.1, S.2.2.2.1, va_up S.2.2.2.2.1 q n, (fun r a => if a = q then (fun _ => 0) else S.2.2.2.2.2.1 r a), (fun r a => if a = q then (fun _ => 0) else S.2.2.2.2.2.2.1 r a), (fun r a => if a = q then (fun _ => none) else S.2.2.2.2.2.2.2 r a))
/-- what a field holds, as the machine has it -/
def fval (S : hS) (t f a : Nat) : Value := match t with
  | 0 => .int (sI S f a)
  | 1 => va_rf (sR S f a)
  | _ => .long (sJ S f a)
def fsF (S : hS) (ci a : Nat) : List Value := (List.range (tgs ci).length).map (fun k => fval S ((tgs ci).getD k 0) (100 * ci + k) a)
/-- the numbers of the kinds of objects, those of the arrays, the state when the law began, its arguments, where three constant arrays lie -/
abbrev GG : Type := va_G × (Nat → ClassId) × State × Array Value × (Nat → Nat)
abbrev gS (g : GG) : State := g.2.2.1
abbrev gA (g : GG) : Array Value := g.2.2.2.1
abbrev gH (g : GG) : Heap := g.2.2.1.heap
abbrev gT (g : GG) : Nat → Nat := g.2.2.2.2
def AA (g : GG) : Nat → Prop := fun q => (gH g).size ≤ q
/-- which array class a kind of array has: 0 byte, 1 int, 2 long, 3 boolean, 4 Choice, 5 Output, 6 Transaction, 7 Object -/
def ac (k : Nat) : Nat := if k < 30 then 0 else if k < 80 then 1 else if k < 85 then 2 else if k < 100 then 3 else if k = 100 then 4 else if k < 103 then 5 else if k = 103 then 6 else 7
def aV (S : hS) (k a : Nat) : vp_A := (sN S a, if ac k = 2 then .inr (.inl (aJ S k a)) else if ac k < 4 then .inl (aI S k a) else .inr (.inr (.inr (.inr (aR S k a)))))
def cF (g : GG) (S : hS) (a : Nat) : va_E := if sK S a < 20 then .inr (sK S a - 1, fsF S (sK S a - 1) a) else .inl (g.2.1 (ac (sK S a)), aV S (sK S a) a)
def tyA : Nat → FieldType := fun j => match j with
  | 0 => .byte
  | 1 => .int
  | 2 => .long
  | 3 => .boolean
  | 4 => .object RX0
  | 5 => .object RX3
  | 6 => .object RX8
  | _ => .object "java/lang/Object"
def tysF (g : GG) : List (ClassId × FieldType) := (List.range 8).map (fun j => (g.2.1 j, tyA j))
theorem tysF_at (g : GG) {j : Nat} (h : j < 8) : (tysF g)[j]? = some (g.2.1 j, tyA j) := by simp [tysF, h]
def HP (g : GG) (S : hS) (H : Heap) : Prop := ∃ L : List Nat, (∀ a, sK S a ≠ 0 ↔ a ∈ L) ∧ va_P g.1 vwCl (va_pl L (cF g S)) H ∧ va_D (AA g) (va_pl L (cF g S)) ∧ va_S (AA g) (gH g) H []
def LO (g : GG) (locs : List Loc) : Prop := ∀ x ∈ locs, AA g x.base
theorem HP.S {g : GG} {S : hS} {H : Heap} {locs : List Loc} (h : HP g S H) (hl : LO g locs) : va_S (AA g) (gH g) H locs := by
  obtain ⟨L, -, -, -, h1, h2, -⟩ := h
  exact ⟨h1, h2, hl⟩
/-- one cell is put anew -/
theorem HP.of {g : GG} {S S' : hS} {H : Heap} {L : List Nat} (hL : ∀ a, sK S' a ≠ 0 ↔ a ∈ L) {f : Nat → va_E} (hf : ∀ a, f a = cF g S' a) {locs : List Loc} (hP : va_P g.1 vwCl (va_pl L f) H) (hD : va_D (AA g) (va_pl L f)) (hS : va_S (AA g) (gH g) H locs) : HP g S' H ∧ LO g locs := by
  have e : va_pl L f = va_pl L (cF g S') := va_pl_congr hf
  rw [e] at hP hD
  exact ⟨⟨L, hL, hP, hD, hS.1, hS.2.1, fun _ h => by simp at h⟩, hS.2.2⟩
theorem fsF_at {S : hS} {ci k t a : Nat} (h : (tgs ci)[k]? = some t) : (fsF S ci a)[k]? = some (fval S t (100 * ci + k) a) := by
  have hk : k < (tgs ci).length := (List.getElem?_eq_some_iff.mp h).1
  have e : (tgs ci)[k] = t := by rw [List.getElem?_eq_getElem hk] at h; exact Option.some.inj h
  simp [fsF, hk, e]
theorem fsF_len (S : hS) (ci a : Nat) : (fsF S ci a).length = (tgs ci).length := by simp [fsF]
theorem fsF_set {S S' : hS} {ci k a : Nat} {v : Value} {t : Nat} (h : (tgs ci)[k]? = some t) (h1 : fval S' t (100 * ci + k) a = v) (h2 : ∀ t' k', k' ≠ k → fval S' t' (100 * ci + k') a = fval S t' (100 * ci + k') a) : (fsF S ci a).set k v = fsF S' ci a := by
  have hk : k < (tgs ci).length := (List.getElem?_eq_some_iff.mp h).1
  have e : (tgs ci).getD k 0 = t := by simp [h]
  apply List.ext_getElem?
  intro j
  by_cases hj : j = k
  · subst hj
    rw [List.getElem?_set_self (by rw [fsF_len]; exact hk), fsF_at h, h1]
  · rw [List.getElem?_set_ne (Ne.symm hj)]
    by_cases hl : j < (tgs ci).length
    · have hj2 : (tgs ci)[j]? = some (tgs ci)[j] := List.getElem?_eq_getElem hl
      rw [fsF_at hj2, fsF_at hj2, h2 _ j hj]
    · rw [List.getElem?_eq_none (by rw [fsF_len]; omega), List.getElem?_eq_none (by rw [fsF_len]; omega)]
theorem fval_setI_ne {S : hS} {f a t j b : Nat} {v : Int32} (h : ¬ (j = f ∧ b = a)) : fval (setI S f a v) t j b = fval S t j b := by
  unfold fval
  split
  · simp only [sI, setI, u2]
    by_cases h1 : j = f
    · subst h1
      rw [if_pos rfl, if_neg (fun q => h ⟨rfl, q⟩)]
    · rw [if_neg h1]
  · rfl
  · rfl
theorem fval_setR_ne {S : hS} {f a t j b : Nat} {v : Option Nat} (h : ¬ (j = f ∧ b = a)) : fval (setR S f a v) t j b = fval S t j b := by
  unfold fval
  split
  · rfl
  · simp only [sR, setR, u2]
    by_cases h1 : j = f
    · subst h1
      rw [if_pos rfl, if_neg (fun q => h ⟨rfl, q⟩)]
    · rw [if_neg h1]
  · rfl
theorem fval_setJ_ne {S : hS} {f a t j b : Nat} {v : Int64} (h : ¬ (j = f ∧ b = a)) : fval (setJ S f a v) t j b = fval S t j b := by
  unfold fval
  split
  · rfl
  · rfl
  · simp only [sJ, setJ, u2]
    by_cases h1 : j = f
    · subst h1
      rw [if_pos rfl, if_neg (fun q => h ⟨rfl, q⟩)]
    · rw [if_neg h1]
theorem cF_fields {g : GG} {S S' : hS} {ci k a t : Nat} {v : Value} (hk : sK S a = ci + 1) (hc : ci < 12) (ht : (tgs ci)[k]? = some t) (hK : S'.1 = S.1) (hA : S'.2.2.2.2 = S.2.2.2.2) (hv : fval S' t (100 * ci + k) a = v)
    (ho : ∀ t' j b, ¬ (j = 100 * ci + k ∧ b = a) → fval S' t' j b = fval S t' j b) (b : Nat) : va_up (cF g S) a (.inr (ci, (fsF S ci a).set k v)) b = cF g S' b := by
  have hKb : ∀ b, sK S' b = sK S b := fun b => by show S'.1 b = S.1 b; rw [hK]
  have hAb : ∀ k b, aV S' k b = aV S k b := fun k b => by
    simp only [aV, sN, aI, aJ, aR, hA]
  by_cases hb : b = a
  · subst hb
    rw [va_up_self]
    unfold cF
    rw [hKb, hk, if_pos (by omega)]
    show (Sum.inr (ci, _) : va_E) = Sum.inr (ci + 1 - 1, fsF S' (ci + 1 - 1) b)
    rw [show ci + 1 - 1 = ci by omega]
    rw [fsF_set (S' := S') ht hv (fun t' k' h => ho t' _ _ (fun q => h (by omega)))]
  · rw [va_up_ne _ _ hb]
    unfold cF
    rw [hKb, hAb]
    split
    · have : fsF S (sK S b - 1) b = fsF S' (sK S b - 1) b := by
        unfold fsF
        apply List.map_congr_left
        intro x _
        exact (ho _ _ _ (fun q => hb q.2)).symm
      rw [this]
    · rfl
end
section
/-! The walk's judgement: J pc lv st S k n -/
abbrev AV : Type := Int32 ⊕ (Int64 ⊕ Option Nat)
abbrev vi (x : Int32) : AV := Sum.inl x
abbrev vl (x : Int64) : AV := Sum.inr (Sum.inl x)
abbrev vr (x : Option Nat) : AV := Sum.inr (Sum.inr x)
def cv (v : AV) : Value := match v with
  | .inl x => .int x
  | .inr (.inl x) => .long x
  | .inr (.inr r) => va_rf r
abbrev cvL (q : Nat × AV) : Nat × Value := (q.1, cv q.2)
/-- two words -/
def c2 (v : AV) : Bool := match v with
  | .inr (.inl _) => true
  | _ => false
theorem c2_cat (v : AV) : ((cv v).category == 2) = c2 v := by
  rcases v with x | x | r
  · rfl
  · rfl
  · cases r <;> rfl
theorem cat_1 {v : AV} (h : c2 v = false) : (cv v).category = 1 := by
  rcases v with x | x | r
  · rfl
  · cases h
  · cases r <;> rfl
def lg (lv : List (Nat × AV)) (i : Nat) : Option AV := (lv.find? (fun q => q.1 == i)).map (fun q => q.2)
theorem lg_mem {lv : List (Nat × AV)} {i : Nat} {v : AV} (h : lg lv i = some v) : (i, v) ∈ lv := by
  unfold lg at h
  obtain ⟨q, h1, h2⟩ := Option.map_eq_some_iff.mp h
  have h3 := List.find?_some h1
  have h4 := List.mem_of_find?_eq_some h1
  have h5 : q.1 = i := by simpa using h3
  rw [← h2, ← h5]
  exact h4
/-- a local is set: sorted by place -/
def ls1 (lv : List (Nat × AV)) (i : Nat) (v : AV) : List (Nat × AV) := (i, v) :: lv.filter (fun q => !(q.1 == i) && !(q.1 + 1 == i && c2 q.2))
def ls2 (lv : List (Nat × AV)) (i : Nat) (v : AV) : List (Nat × AV) := (i, v) :: lv.filter (fun q => !(q.1 == i) && (!(q.1 == i + 1) && !(q.1 + 1 == i && c2 q.2)))
theorem ls1_cv (lv : List (Nat × AV)) (i : Nat) (v : AV) : (ls1 lv i v).map cvL = (i, cv v) :: (lv.map cvL).filter (fun q => !(q.1 == i) && !(q.1 + 1 == i && q.2.category == 2)) := by
  unfold ls1
  rw [List.map_cons, List.filter_map]
  congr 2
  apply List.filter_congr
  intro x _
  simp only [Function.comp, cvL, c2_cat]
theorem ls2_cv (lv : List (Nat × AV)) (i : Nat) (v : AV) : (ls2 lv i v).map cvL = (i, cv v) :: (lv.map cvL).filter (fun q => !(q.1 == i) && (!(q.1 == i + 1) && !(q.1 + 1 == i && q.2.category == 2))) := by
  unfold ls2
  rw [List.map_cons, List.filter_map]
  congr 2
  apply List.filter_congr
  intro x _
  simp only [Function.comp, cvL, c2_cat]
theorem lg_has {ls : Array Slot} {n : Nat} {lv : List (Nat × AV)} {i : Nat} {v : AV} (hl : lv_has ls n (lv.map cvL)) (h : lg lv i = some v) : ls[i]? = some (.val (cv v)) := hl.2.2 (i, cv v) (List.mem_map.mpr ⟨(i, v), lg_mem h, rfl⟩)
/-- a method: its name, code, locals, type; its frames and locals' words -/
abbrev MD : Type := MethodName × ByteArray × Nat × Option FieldType × Nat × Nat
abbrev MD.y (d : MD) : MethodName := d.1
abbrev MD.b (d : MD) : ByteArray := d.2.1
abbrev MD.l (d : MD) : Nat := d.2.2.1
abbrev MD.r (d : MD) : Option FieldType := d.2.2.2.1
abbrev MD.rm (d : MD) (mc ms : Nat) : Room := { frames := d.2.2.2.2.1, cells := mc, slots := ms, locals := d.2.2.2.2.2 }
abbrev JJ : Type := Nat → List (Nat × AV) → List AV → hS → Nat → Nat → Prop
/-- what is known of a state's tables, and of three constant arrays: 0 ArrayList's empty one, 1 and 2 the digest's -/
def stN : Nat → String × String × String := fun j => match j with
  | 0 => (RJx4a65c, "DEFAULTCAPACITY_EMPTY_ELEMENTDATA", "[Ljava/lang/Object;")
  | 1 => (RX1, "START", "[I")
  | _ => (RX1, "ROUND", "[I")
/-- what holds at the law's beginning -/
def FC (g : GG) : Prop := (∀ w ∈ lw_tbl, w.before (gA g) (gS g) = true) ∧ (Jvm.Cond.and given_1 narrow_1).before (gA g) (gS g) = true ∧ va_K g.1 vwCl (tysF g) (gS g) ∧ (∀ j, j < 3 → va_Z (stN j).1 (stN j).2.1 (stN j).2.2 (.ref (gT g j)) (AA g) (gS g) (gH g))
def KK (g : GG) (U : State) : Prop := (gS g).WarmedH U.vm ∧ FC g
theorem KK.moved {g : GG} {u U : State} (hW : u.WarmedH U.vm) (h : KK g u) : KK g U := ⟨State.WarmedH.trans h.1 hW, h.2⟩
theorem KK.K {g : GG} {U : State} (h : KK g U) : va_K g.1 vwCl (tysF g) U := va_K.moved h.1.alike h.2.2.2.1
theorem KK.Z {g : GG} {U : State} (h : KK g U) {j : Nat} (hj : j < 3) : va_Z (stN j).1 (stN j).2.1 (stN j).2.2 (.ref (gT g j)) (AA g) U (gH g) := (h.2.2.2.2 j hj).moved h.1.alike
def QQ (g : GG) (Post : Option AV → hS → Prop) : Array Value → State → Outcome → State → Prop := fun _ _ oc t => ∃ (r : Option AV) (S : hS), oc = .returned (r.map cv) ∧ Post r S ∧ KK g t ∧ HP g S t.heap
def wsM (d : MD) : List Cond := Cond.code d.y d.b d.l d.r :: Wd
/-- THE CONTRACT of a method that returns: from the arguments av in the heap S it comes back with what Post says; mc cells of ms slots at most are new -/
def Sp (l : Launch) (g : GG) (d : MD) (mc ms : Nat) (av : List AV) (S : hS) (Post : Option AV → hS → Prop) : Prop :=
  Met l d.y (wsM d) (d.rm mc ms) (va_Pc (av.map cv) (fun U => KK g U ∧ HP g S U.heap)) (QQ g Post) mc ms (AA g)
/-- the walk of a body, its surroundings out of sight -/
def Cx (l : Launch) (g : GG) (d : MD) (mc ms : Nat) (own : String) (Post : Option AV → hS → Prop) (J : JJ) : Prop :=
  ∃ (p : Program) (e : Env) (s : State) (m : MethodId) (args : Array Value) (below : List Frame) (meth : Method) (c : Code),
    p.tables.exec = Jvm.exec ∧ c.code = d.b ∧ c.maxLocals = d.l ∧ meth.sig.returnType = d.r ∧ s.vm.findClass own = some m.cls ∧ (∀ w ∈ Wd, w.before args s = true) ∧ meth.locks = false ∧ KK g s ∧ meth.name = d.y.name ∧
    J = fun pc lv st S k n => ∀ (H : Heap) (locs : List Loc) (ls : Array Slot), HP g S H → LO g locs → lv_has ls d.l (lv.map cvL) →
      W p l e (d.rm mc ms) s m args below meth c H locs k n (MQ below (QQ g Post) args s mc ms (AA g)) (F0 m pc ls (st.map cv))
theorem Sp.mono {l : Launch} {g : GG} {d : MD} {mc ms : Nat} {av : List AV} {S : hS} {P Q : Option AV → hS → Prop} (h : Sp l g d mc ms av S P) (hq : ∀ r S', P r S' → Q r S') : Sp l g d mc ms av S Q := by
  intro p e a1 a2 a3 s m args below h1 h2 h3 h4
  obtain ⟨n, o, b1, b2, b3, ⟨r, S', c1, c2, c3, c4⟩, b5⟩ := h p e a1 a2 a3 s m args below h1 h2 h3 h4
  exact ⟨n, o, b1, b2, b3, ⟨r, S', c1, hq r S' c2, c3, c4⟩, b5⟩
/-- a body's walk from its entry gives the contract -/
theorem Sp.start {l : Launch} {g : GG} {d : MD} {mc ms : Nat} {av : List AV} {S : hS} {Post : Option AV → hS → Prop} {own : String} (lv : List (Nat × AV)) (hy : plainName d.y.cls = true) (ho : d.y.cls = own) (hl : lv.map cvL = lv_args 0 (av.map cv)) (hn : (lg_sl (av.map cv)).length ≤ d.l)
    (body : ∀ J : JJ, Cx l g d mc ms own Post J → J 0 lv [] S 0 0) : Sp l g d mc ms av S Post := by
  refine Met.ofW (cc := d.b) (maxL := d.l) (ret := d.r) hy rfl ?_
  intro p e s m args below meth c s₁ B hml hv
  obtain ⟨rfl, hK, hH⟩ := hv
  have hts := atoms_spec (ws := wsM d) B.pre
  have hown : s.vm.findClass own = some m.cls := by rw [← ho]; exact findClass_of_methodNamed B.named
  have hnm : meth.name = d.y.name := (name_of_methodNamed B.named B.method).1
  have hl0 := lv_entry (av.map cv) (n := d.l) hn
  rw [← hl] at hl0
  rw [lg_entry_eq]
  exact body _ ⟨p, e, s, m, (av.map cv).toArray, below, meth, c, B.exec, B.bytes, hml, B.returns, hown, fun w h => hts w (List.mem_cons_of_mem _ h), B.notSynchronized, hK, hnm, rfl⟩ s.heap [] _ hH (fun _ h => by simp at h) hl0
end
section
/-! One instruction, one row -/
section Rows
variable {l : Launch} {g : GG} {d : MD} {mc ms : Nat} {own : String} {Post : Option AV → hS → Prop} {J : JJ} {pc : Nat} {lv : List (Nat × AV)} {st : List AV} {S : hS} {kc ns : Nat}
theorem r_iconst (C : Cx l g d mc ms own Post J) {n : Int} (v : Int32) (hd : decode d.b pc = .ok (.iconst n, 1)) (hv : Int32.ofInt n = v) (k : J (pc + 1) lv (vi v :: st) S kc ns) : J pc lv (st) S kc ns := by
  obtain ⟨p, e, s, m, args, below, meth, c, hx, hb, hml, hr, ho, hts, hlk, hK, hnm, rfl⟩ := C
  intro H locs ls hH hL hl
  exact lv_iconst hx hb hd hv (k H locs ls hH hL hl)
theorem r_bipush (C : Cx l g d mc ms own Post J) {n : Int} (v : Int32) (hd : decode d.b pc = .ok (.bipush n, 2)) (hv : (Int8.ofInt n).toInt32 = v) (k : J (pc + 2) lv (vi v :: st) S kc ns) : J pc lv (st) S kc ns := by
  obtain ⟨p, e, s, m, args, below, meth, c, hx, hb, hml, hr, ho, hts, hlk, hK, hnm, rfl⟩ := C
  intro H locs ls hH hL hl
  exact lv_bipush hx hb hd hv (k H locs ls hH hL hl)
theorem r_sipush (C : Cx l g d mc ms own Post J) {n : Int} (v : Int32) (hd : decode d.b pc = .ok (.sipush n, 3)) (hv : (Int16.ofInt n).toInt32 = v) (k : J (pc + 3) lv (vi v :: st) S kc ns) : J pc lv (st) S kc ns := by
  obtain ⟨p, e, s, m, args, below, meth, c, hx, hb, hml, hr, ho, hts, hlk, hK, hnm, rfl⟩ := C
  intro H locs ls hH hL hl
  exact lv_sipush hx hb hd hv (k H locs ls hH hL hl)
theorem r_lconst (C : Cx l g d mc ms own Post J) {n : Fin 2} (v : Int64) (hd : decode d.b pc = .ok (.lconst n, 1)) (hv : Int64.ofNat (n : Nat) = v) (k : J (pc + 1) lv (vl v :: st) S kc ns) : J pc lv (st) S kc ns := by
  obtain ⟨p, e, s, m, args, below, meth, c, hx, hb, hml, hr, ho, hts, hlk, hK, hnm, rfl⟩ := C
  intro H locs ls hH hL hl
  exact lv_lconst hx hb hd hv (k H locs ls hH hL hl)
theorem r_null (C : Cx l g d mc ms own Post J) (hd : decode d.b pc = .ok (.aconst_null, 1)) (k : J (pc + 1) lv (vr none :: st) S kc ns) : J pc lv (st) S kc ns := by
  obtain ⟨p, e, s, m, args, below, meth, c, hx, hb, hml, hr, ho, hts, hlk, hK, hnm, rfl⟩ := C
  intro H locs ls hH hL hl
  exact lv_null hx hb hd (k H locs ls hH hL hl)
theorem r_ldc (C : Cx l g d mc ms own Post J) {i : Nat} {v : Int32} (hw : Cond.constant own i v ∈ Wd) (hd : decode d.b pc = .ok (.ldc i, 2)) (k : J (pc + 2) lv (vi v :: st) S kc ns) : J pc lv (st) S kc ns := by
  obtain ⟨p, e, s, m, args, below, meth, c, hx, hb, hml, hr, ho, hts, hlk, hK, hnm, rfl⟩ := C
  intro H locs ls hH hL hl
  exact lv_ldc hx hb ho (hts _ hw) hd (k H locs ls hH hL hl)
theorem r_ldcw (C : Cx l g d mc ms own Post J) {i : Nat} {v : Int32} (hw : Cond.constant own i v ∈ Wd) (hd : decode d.b pc = .ok (.ldc_w i, 3)) (k : J (pc + 3) lv (vi v :: st) S kc ns) : J pc lv (st) S kc ns := by
  obtain ⟨p, e, s, m, args, below, meth, c, hx, hb, hml, hr, ho, hts, hlk, hK, hnm, rfl⟩ := C
  intro H locs ls hH hL hl
  exact lv_ldcw hx hb ho (hts _ hw) hd (k H locs ls hH hL hl)
theorem r_ldc2 (C : Cx l g d mc ms own Post J) {i : Nat} {v : Int64} (hw : Cond.constantLong own i v ∈ Wd) (hd : decode d.b pc = .ok (.ldc2_w i, 3)) (k : J (pc + 3) lv (vl v :: st) S kc ns) : J pc lv (st) S kc ns := by
  obtain ⟨p, e, s, m, args, below, meth, c, hx, hb, hml, hr, ho, hts, hlk, hK, hnm, rfl⟩ := C
  intro H locs ls hH hL hl
  exact lv_ldc2 hx hb ho (hts _ hw) hd (k H locs ls hH hL hl)
theorem r_iload_n (C : Cx l g d mc ms own Post J) {n : Fin 4} {x : Int32} (hd : decode d.b pc = .ok (.iload_n n, 1)) (h : lg lv n = some (vi x)) (k : J (pc + 1) lv (vi x :: st) S kc ns) : J pc lv (st) S kc ns := by
  obtain ⟨p, e, s, m, args, below, meth, c, hx, hb, hml, hr, ho, hts, hlk, hK, hnm, rfl⟩ := C
  intro H locs ls hH hL hl
  exact lv_iload_n hx hb hd rfl (lg_has hl h) (k H locs ls hH hL hl)
theorem r_iload (C : Cx l g d mc ms own Post J) {n : Nat} {x : Int32} (hd : decode d.b pc = .ok (.iload n, 2)) (h : lg lv n = some (vi x)) (k : J (pc + 2) lv (vi x :: st) S kc ns) : J pc lv (st) S kc ns := by
  obtain ⟨p, e, s, m, args, below, meth, c, hx, hb, hml, hr, ho, hts, hlk, hK, hnm, rfl⟩ := C
  intro H locs ls hH hL hl
  exact lv_iload hx hb hd (lg_has hl h) (k H locs ls hH hL hl)
theorem r_lload_n (C : Cx l g d mc ms own Post J) {n : Fin 4} {x : Int64} (hd : decode d.b pc = .ok (.lload_n n, 1)) (h : lg lv n = some (vl x)) (k : J (pc + 1) lv (vl x :: st) S kc ns) : J pc lv (st) S kc ns := by
  obtain ⟨p, e, s, m, args, below, meth, c, hx, hb, hml, hr, ho, hts, hlk, hK, hnm, rfl⟩ := C
  intro H locs ls hH hL hl
  exact lv_lload_n hx hb hd rfl (lg_has hl h) (k H locs ls hH hL hl)
theorem r_lload (C : Cx l g d mc ms own Post J) {n : Nat} {x : Int64} (hd : decode d.b pc = .ok (.lload n, 2)) (h : lg lv n = some (vl x)) (k : J (pc + 2) lv (vl x :: st) S kc ns) : J pc lv (st) S kc ns := by
  obtain ⟨p, e, s, m, args, below, meth, c, hx, hb, hml, hr, ho, hts, hlk, hK, hnm, rfl⟩ := C
  intro H locs ls hH hL hl
  exact lv_lload hx hb hd (lg_has hl h) (k H locs ls hH hL hl)
theorem r_aload_n (C : Cx l g d mc ms own Post J) {n : Fin 4} {x : Option Nat} (hd : decode d.b pc = .ok (.aload_n n, 1)) (h : lg lv n = some (vr x)) (k : J (pc + 1) lv (vr x :: st) S kc ns) : J pc lv (st) S kc ns := by
  obtain ⟨p, e, s, m, args, below, meth, c, hx, hb, hml, hr, ho, hts, hlk, hK, hnm, rfl⟩ := C
  intro H locs ls hH hL hl
  cases x with
  | none => exact lv_aload_nN hx hb hd rfl (lg_has hl h) (k H locs ls hH hL hl)
  | some a => exact lv_aload_n hx hb hd rfl (lg_has hl h) (k H locs ls hH hL hl)
theorem r_aload (C : Cx l g d mc ms own Post J) {n : Nat} {x : Option Nat} (hd : decode d.b pc = .ok (.aload n, 2)) (h : lg lv n = some (vr x)) (k : J (pc + 2) lv (vr x :: st) S kc ns) : J pc lv (st) S kc ns := by
  obtain ⟨p, e, s, m, args, below, meth, c, hx, hb, hml, hr, ho, hts, hlk, hK, hnm, rfl⟩ := C
  intro H locs ls hH hL hl
  cases x with
  | none => exact lv_aloadN hx hb hd (lg_has hl h) (k H locs ls hH hL hl)
  | some a => exact lv_aload hx hb hd (lg_has hl h) (k H locs ls hH hL hl)
theorem r_istore_n (C : Cx l g d mc ms own Post J) {n : Fin 4} {x : Int32} (hd : decode d.b pc = .ok (.istore_n n, 1)) (hn : (n : Nat) < d.l) {lv2 : List (Nat × AV)} (h2 : ls1 lv n (vi x) = lv2) (k : J (pc + 1) lv2 st S kc ns) : J pc lv (vi x :: st) S kc ns := by
  obtain ⟨p, e, s, m, args, below, meth, c, hx, hb, hml, hr, ho, hts, hlk, hK, hnm, rfl⟩ := C
  intro H locs ls hH hL hl
  subst h2
  exact lv_istore_n hx hb hd rfl hl hn (ls1_cv lv n (vi x)).symm (fun ls2 hl2 => k H locs ls2 hH hL hl2)
theorem r_istore (C : Cx l g d mc ms own Post J) {n : Nat} {x : Int32} (hd : decode d.b pc = .ok (.istore n, 2)) (hn : (n : Nat) < d.l) {lv2 : List (Nat × AV)} (h2 : ls1 lv n (vi x) = lv2) (k : J (pc + 2) lv2 st S kc ns) : J pc lv (vi x :: st) S kc ns := by
  obtain ⟨p, e, s, m, args, below, meth, c, hx, hb, hml, hr, ho, hts, hlk, hK, hnm, rfl⟩ := C
  intro H locs ls hH hL hl
  subst h2
  exact lv_istore hx hb hd hl hn (ls1_cv lv n (vi x)).symm (fun ls2 hl2 => k H locs ls2 hH hL hl2)
theorem r_lstore_n (C : Cx l g d mc ms own Post J) {n : Fin 4} {x : Int64} (hd : decode d.b pc = .ok (.lstore_n n, 1)) (hn : (n : Nat) + 1 < d.l) {lv2 : List (Nat × AV)} (h2 : ls2 lv n (vl x) = lv2) (k : J (pc + 1) lv2 st S kc ns) : J pc lv (vl x :: st) S kc ns := by
  obtain ⟨p, e, s, m, args, below, meth, c, hx, hb, hml, hr, ho, hts, hlk, hK, hnm, rfl⟩ := C
  intro H locs ls hH hL hl
  subst h2
  exact lv_lstore_n hx hb hd rfl hl hn (ls2_cv lv n (vl x)).symm (fun ls2 hl2 => k H locs ls2 hH hL hl2)
theorem r_lstore (C : Cx l g d mc ms own Post J) {n : Nat} {x : Int64} (hd : decode d.b pc = .ok (.lstore n, 2)) (hn : (n : Nat) + 1 < d.l) {lv2 : List (Nat × AV)} (h2 : ls2 lv n (vl x) = lv2) (k : J (pc + 2) lv2 st S kc ns) : J pc lv (vl x :: st) S kc ns := by
  obtain ⟨p, e, s, m, args, below, meth, c, hx, hb, hml, hr, ho, hts, hlk, hK, hnm, rfl⟩ := C
  intro H locs ls hH hL hl
  subst h2
  exact lv_lstore hx hb hd hl hn (ls2_cv lv n (vl x)).symm (fun ls2 hl2 => k H locs ls2 hH hL hl2)
theorem r_astore_n (C : Cx l g d mc ms own Post J) {n : Fin 4} {x : Option Nat} (hd : decode d.b pc = .ok (.astore_n n, 1)) (hn : (n : Nat) < d.l) {lv2 : List (Nat × AV)} (h2 : ls1 lv n (vr x) = lv2) (k : J (pc + 1) lv2 st S kc ns) : J pc lv (vr x :: st) S kc ns := by
  obtain ⟨p, e, s, m, args, below, meth, c, hx, hb, hml, hr, ho, hts, hlk, hK, hnm, rfl⟩ := C
  intro H locs ls hH hL hl
  subst h2
  cases x with
  | none => exact lv_astore_nN hx hb hd rfl hl hn (ls1_cv lv n (vr none)).symm (fun ls2 hl2 => k H locs ls2 hH hL hl2)
  | some a => exact lv_astore_n hx hb hd rfl hl hn (ls1_cv lv n (vr (some a))).symm (fun ls2 hl2 => k H locs ls2 hH hL hl2)
theorem r_astore (C : Cx l g d mc ms own Post J) {n : Nat} {x : Option Nat} (hd : decode d.b pc = .ok (.astore n, 2)) (hn : (n : Nat) < d.l) {lv2 : List (Nat × AV)} (h2 : ls1 lv n (vr x) = lv2) (k : J (pc + 2) lv2 st S kc ns) : J pc lv (vr x :: st) S kc ns := by
  obtain ⟨p, e, s, m, args, below, meth, c, hx, hb, hml, hr, ho, hts, hlk, hK, hnm, rfl⟩ := C
  intro H locs ls hH hL hl
  subst h2
  cases x with
  | none => exact lv_astoreN hx hb hd hl hn (ls1_cv lv n (vr none)).symm (fun ls2 hl2 => k H locs ls2 hH hL hl2)
  | some a => exact lv_astore hx hb hd hl hn (ls1_cv lv n (vr (some a))).symm (fun ls2 hl2 => k H locs ls2 hH hL hl2)
theorem r_iinc (C : Cx l g d mc ms own Post J) {n : Nat} {i : Int} {x : Int32} (v : Int32) (hd : decode d.b pc = .ok (.iinc n i, 3)) (h : lg lv n = some (vi x)) (hv : x + Int32.ofInt i = v) (hn : n < d.l) {lv2 : List (Nat × AV)} (h2 : ls1 lv n (vi v) = lv2) (k : J (pc + 3) lv2 st S kc ns) : J pc lv st S kc ns := by
  obtain ⟨p, e, s, m, args, below, meth, c, hx, hb, hml, hr, ho, hts, hlk, hK, hnm, rfl⟩ := C
  intro H locs ls hH hL hl
  subst h2
  obtain ⟨q, hq⟩ := List.getElem?_of_mem (show (n, Value.int x) ∈ lv.map cvL from List.mem_map.mpr ⟨(n, vi x), lg_mem h, rfl⟩)
  exact lv_iinc hx hb hd hl hq hv hn (ls1_cv lv n (vi v)).symm (fun ls2 hl2 => k H locs ls2 hH hL hl2)
theorem r_iadd (C : Cx l g d mc ms own Post J) {x y : Int32} (hd : decode d.b pc = .ok (.iadd, 1)) (k : J (pc + 1) lv (vi (x + y) :: st) S kc ns) : J pc lv (vi y :: vi x :: st) S kc ns := by
  obtain ⟨p, e, s, m, args, below, meth, c, hx, hb, hml, hr, ho, hts, hlk, hK, hnm, rfl⟩ := C
  intro H locs ls hH hL hl
  exact lv_iadd hx hb hd (k H locs ls hH hL hl)
theorem r_isub (C : Cx l g d mc ms own Post J) {x y : Int32} (hd : decode d.b pc = .ok (.isub, 1)) (k : J (pc + 1) lv (vi (x - y) :: st) S kc ns) : J pc lv (vi y :: vi x :: st) S kc ns := by
  obtain ⟨p, e, s, m, args, below, meth, c, hx, hb, hml, hr, ho, hts, hlk, hK, hnm, rfl⟩ := C
  intro H locs ls hH hL hl
  exact lv_isub hx hb hd (k H locs ls hH hL hl)
theorem r_imul (C : Cx l g d mc ms own Post J) {x y : Int32} (hd : decode d.b pc = .ok (.imul, 1)) (k : J (pc + 1) lv (vi (x * y) :: st) S kc ns) : J pc lv (vi y :: vi x :: st) S kc ns := by
  obtain ⟨p, e, s, m, args, below, meth, c, hx, hb, hml, hr, ho, hts, hlk, hK, hnm, rfl⟩ := C
  intro H locs ls hH hL hl
  exact lv_imul hx hb hd (k H locs ls hH hL hl)
theorem r_iand (C : Cx l g d mc ms own Post J) {x y : Int32} (hd : decode d.b pc = .ok (.iand, 1)) (k : J (pc + 1) lv (vi (x &&& y) :: st) S kc ns) : J pc lv (vi y :: vi x :: st) S kc ns := by
  obtain ⟨p, e, s, m, args, below, meth, c, hx, hb, hml, hr, ho, hts, hlk, hK, hnm, rfl⟩ := C
  intro H locs ls hH hL hl
  exact lv_iand hx hb hd (k H locs ls hH hL hl)
theorem r_ior (C : Cx l g d mc ms own Post J) {x y : Int32} (hd : decode d.b pc = .ok (.ior, 1)) (k : J (pc + 1) lv (vi (x ||| y) :: st) S kc ns) : J pc lv (vi y :: vi x :: st) S kc ns := by
  obtain ⟨p, e, s, m, args, below, meth, c, hx, hb, hml, hr, ho, hts, hlk, hK, hnm, rfl⟩ := C
  intro H locs ls hH hL hl
  exact lv_ior hx hb hd (k H locs ls hH hL hl)
theorem r_ixor (C : Cx l g d mc ms own Post J) {x y : Int32} (hd : decode d.b pc = .ok (.ixor, 1)) (k : J (pc + 1) lv (vi (x ^^^ y) :: st) S kc ns) : J pc lv (vi y :: vi x :: st) S kc ns := by
  obtain ⟨p, e, s, m, args, below, meth, c, hx, hb, hml, hr, ho, hts, hlk, hK, hnm, rfl⟩ := C
  intro H locs ls hH hL hl
  exact lv_ixor hx hb hd (k H locs ls hH hL hl)
theorem r_ishl (C : Cx l g d mc ms own Post J) {x y : Int32} (hd : decode d.b pc = .ok (.ishl, 1)) (k : J (pc + 1) lv (vi (x <<< (y &&& 31)) :: st) S kc ns) : J pc lv (vi y :: vi x :: st) S kc ns := by
  obtain ⟨p, e, s, m, args, below, meth, c, hx, hb, hml, hr, ho, hts, hlk, hK, hnm, rfl⟩ := C
  intro H locs ls hH hL hl
  exact lv_ishl hx hb hd (k H locs ls hH hL hl)
theorem r_ishr (C : Cx l g d mc ms own Post J) {x y : Int32} (hd : decode d.b pc = .ok (.ishr, 1)) (k : J (pc + 1) lv (vi (x >>> (y &&& 31)) :: st) S kc ns) : J pc lv (vi y :: vi x :: st) S kc ns := by
  obtain ⟨p, e, s, m, args, below, meth, c, hx, hb, hml, hr, ho, hts, hlk, hK, hnm, rfl⟩ := C
  intro H locs ls hH hL hl
  exact lv_ishr hx hb hd (k H locs ls hH hL hl)
theorem r_idiv (C : Cx l g d mc ms own Post J) {x y : Int32} (hd : decode d.b pc = .ok (.idiv, 1)) (hne : ¬ y = 0) (k : J (pc + 1) lv (vi (x / y) :: st) S kc ns) : J pc lv (vi y :: vi x :: st) S kc ns := by
  obtain ⟨p, e, s, m, args, below, meth, c, hx, hb, hml, hr, ho, hts, hlk, hK, hnm, rfl⟩ := C
  intro H locs ls hH hL hl
  exact lv_idiv hx hb hd hne (k H locs ls hH hL hl)
theorem r_irem (C : Cx l g d mc ms own Post J) {x y : Int32} (hd : decode d.b pc = .ok (.irem, 1)) (hne : ¬ y = 0) (k : J (pc + 1) lv (vi (x - x / y * y) :: st) S kc ns) : J pc lv (vi y :: vi x :: st) S kc ns := by
  obtain ⟨p, e, s, m, args, below, meth, c, hx, hb, hml, hr, ho, hts, hlk, hK, hnm, rfl⟩ := C
  intro H locs ls hH hL hl
  exact lv_irem hx hb hd hne (k H locs ls hH hL hl)
theorem r_ineg (C : Cx l g d mc ms own Post J) {x : Int32} (hd : decode d.b pc = .ok (.ineg, 1)) (k : J (pc + 1) lv (vi (-x) :: st) S kc ns) : J pc lv (vi x :: st) S kc ns := by
  obtain ⟨p, e, s, m, args, below, meth, c, hx, hb, hml, hr, ho, hts, hlk, hK, hnm, rfl⟩ := C
  intro H locs ls hH hL hl
  exact lv_ineg hx hb hd (k H locs ls hH hL hl)
theorem r_ladd (C : Cx l g d mc ms own Post J) {x y : Int64} (hd : decode d.b pc = .ok (.ladd, 1)) (k : J (pc + 1) lv (vl (x + y) :: st) S kc ns) : J pc lv (vl y :: vl x :: st) S kc ns := by
  obtain ⟨p, e, s, m, args, below, meth, c, hx, hb, hml, hr, ho, hts, hlk, hK, hnm, rfl⟩ := C
  intro H locs ls hH hL hl
  exact lv_ladd hx hb hd (k H locs ls hH hL hl)
theorem r_lsub (C : Cx l g d mc ms own Post J) {x y : Int64} (hd : decode d.b pc = .ok (.lsub, 1)) (k : J (pc + 1) lv (vl (x - y) :: st) S kc ns) : J pc lv (vl y :: vl x :: st) S kc ns := by
  obtain ⟨p, e, s, m, args, below, meth, c, hx, hb, hml, hr, ho, hts, hlk, hK, hnm, rfl⟩ := C
  intro H locs ls hH hL hl
  exact lv_lsub hx hb hd (k H locs ls hH hL hl)
theorem r_lmul (C : Cx l g d mc ms own Post J) {x y : Int64} (hd : decode d.b pc = .ok (.lmul, 1)) (k : J (pc + 1) lv (vl (x * y) :: st) S kc ns) : J pc lv (vl y :: vl x :: st) S kc ns := by
  obtain ⟨p, e, s, m, args, below, meth, c, hx, hb, hml, hr, ho, hts, hlk, hK, hnm, rfl⟩ := C
  intro H locs ls hH hL hl
  exact lv_lmul hx hb hd (k H locs ls hH hL hl)
theorem r_land (C : Cx l g d mc ms own Post J) {x y : Int64} (hd : decode d.b pc = .ok (.land, 1)) (k : J (pc + 1) lv (vl (x &&& y) :: st) S kc ns) : J pc lv (vl y :: vl x :: st) S kc ns := by
  obtain ⟨p, e, s, m, args, below, meth, c, hx, hb, hml, hr, ho, hts, hlk, hK, hnm, rfl⟩ := C
  intro H locs ls hH hL hl
  exact lv_land hx hb hd (k H locs ls hH hL hl)
theorem r_lor (C : Cx l g d mc ms own Post J) {x y : Int64} (hd : decode d.b pc = .ok (.lor, 1)) (k : J (pc + 1) lv (vl (x ||| y) :: st) S kc ns) : J pc lv (vl y :: vl x :: st) S kc ns := by
  obtain ⟨p, e, s, m, args, below, meth, c, hx, hb, hml, hr, ho, hts, hlk, hK, hnm, rfl⟩ := C
  intro H locs ls hH hL hl
  exact lv_lor hx hb hd (k H locs ls hH hL hl)
theorem r_lrem (C : Cx l g d mc ms own Post J) {x y : Int64} (hd : decode d.b pc = .ok (.lrem, 1)) (hne : ¬ y = 0) (k : J (pc + 1) lv (vl (x - x / y * y) :: st) S kc ns) : J pc lv (vl y :: vl x :: st) S kc ns := by
  obtain ⟨p, e, s, m, args, below, meth, c, hx, hb, hml, hr, ho, hts, hlk, hK, hnm, rfl⟩ := C
  intro H locs ls hH hL hl
  exact lv_lrem hx hb hd hne (k H locs ls hH hL hl)
theorem r_iushr (C : Cx l g d mc ms own Post J) {x y : Int32} (hd : decode d.b pc = .ok (.iushr, 1)) (k : J (pc + 1) lv (vi (x.toUInt32 >>> (y.toUInt32 &&& Int32.toUInt32 31)).toInt32 :: st) S kc ns) : J pc lv (vi y :: vi x :: st) S kc ns := by
  obtain ⟨p, e, s, m, args, below, meth, c, hx, hb, hml, hr, ho, hts, hlk, hK, hnm, rfl⟩ := C
  intro H locs ls hH hL hl
  exact lv_iushr hx hb hd rfl (k H locs ls hH hL hl)
theorem r_lushr (C : Cx l g d mc ms own Post J) {x : Int64} {y : Int32} (hd : decode d.b pc = .ok (.lushr, 1)) (k : J (pc + 1) lv (vl (x.toUInt64 >>> (y.toInt64.toUInt64 &&& Int64.toUInt64 63)).toInt64 :: st) S kc ns) : J pc lv (vi y :: vl x :: st) S kc ns := by
  obtain ⟨p, e, s, m, args, below, meth, c, hx, hb, hml, hr, ho, hts, hlk, hK, hnm, rfl⟩ := C
  intro H locs ls hH hL hl
  exact lv_lushr hx hb hd rfl (k H locs ls hH hL hl)
theorem r_lshl (C : Cx l g d mc ms own Post J) {x : Int64} {y : Int32} (hd : decode d.b pc = .ok (.lshl, 1)) (k : J (pc + 1) lv (vl (x <<< (y.toInt64 &&& 63)) :: st) S kc ns) : J pc lv (vi y :: vl x :: st) S kc ns := by
  obtain ⟨p, e, s, m, args, below, meth, c, hx, hb, hml, hr, ho, hts, hlk, hK, hnm, rfl⟩ := C
  intro H locs ls hH hL hl
  exact lv_lshl hx hb hd rfl (k H locs ls hH hL hl)
theorem r_lshr (C : Cx l g d mc ms own Post J) {x : Int64} {y : Int32} (hd : decode d.b pc = .ok (.lshr, 1)) (k : J (pc + 1) lv (vl (x >>> (y.toInt64 &&& 63)) :: st) S kc ns) : J pc lv (vi y :: vl x :: st) S kc ns := by
  obtain ⟨p, e, s, m, args, below, meth, c, hx, hb, hml, hr, ho, hts, hlk, hK, hnm, rfl⟩ := C
  intro H locs ls hH hL hl
  exact lv_lshr hx hb hd rfl (k H locs ls hH hL hl)
theorem r_i2l (C : Cx l g d mc ms own Post J) {x : Int32} (hd : decode d.b pc = .ok (.i2l, 1)) (k : J (pc + 1) lv (vl x.toInt64 :: st) S kc ns) : J pc lv (vi x :: st) S kc ns := by
  obtain ⟨p, e, s, m, args, below, meth, c, hx, hb, hml, hr, ho, hts, hlk, hK, hnm, rfl⟩ := C
  intro H locs ls hH hL hl
  exact lv_i2l hx hb hd rfl (k H locs ls hH hL hl)
theorem r_l2i (C : Cx l g d mc ms own Post J) {x : Int64} (hd : decode d.b pc = .ok (.l2i, 1)) (k : J (pc + 1) lv (vi x.toInt32 :: st) S kc ns) : J pc lv (vl x :: st) S kc ns := by
  obtain ⟨p, e, s, m, args, below, meth, c, hx, hb, hml, hr, ho, hts, hlk, hK, hnm, rfl⟩ := C
  intro H locs ls hH hL hl
  exact lv_l2i hx hb hd rfl (k H locs ls hH hL hl)
theorem r_i2b (C : Cx l g d mc ms own Post J) {x : Int32} (hd : decode d.b pc = .ok (.i2b, 1)) (k : J (pc + 1) lv (vi x.toInt8.toInt32 :: st) S kc ns) : J pc lv (vi x :: st) S kc ns := by
  obtain ⟨p, e, s, m, args, below, meth, c, hx, hb, hml, hr, ho, hts, hlk, hK, hnm, rfl⟩ := C
  intro H locs ls hH hL hl
  exact lv_i2b hx hb hd rfl (k H locs ls hH hL hl)
theorem r_dup (C : Cx l g d mc ms own Post J) {x : AV} (hd : decode d.b pc = .ok (.dup, 1)) (h : c2 x = false) (k : J (pc + 1) lv (x :: x :: st) S kc ns) : J pc lv (x :: st) S kc ns := by
  obtain ⟨p, e, s, m, args, below, meth, c, hx, hb, hml, hr, ho, hts, hlk, hK, hnm, rfl⟩ := C
  intro H locs ls hH hL hl
  exact lv_dup hx hb hd (cat_1 h) (k H locs ls hH hL hl)
theorem r_pop (C : Cx l g d mc ms own Post J) {x : AV} (hd : decode d.b pc = .ok (.pop, 1)) (h : c2 x = false) (k : J (pc + 1) lv (st) S kc ns) : J pc lv (x :: st) S kc ns := by
  obtain ⟨p, e, s, m, args, below, meth, c, hx, hb, hml, hr, ho, hts, hlk, hK, hnm, rfl⟩ := C
  intro H locs ls hH hL hl
  exact lv_pop hx hb hd (cat_1 h) (k H locs ls hH hL hl)
theorem r_dup2 (C : Cx l g d mc ms own Post J) {x y : AV} (hd : decode d.b pc = .ok (.dup2, 1)) (h : c2 x = false) (h2 : c2 y = false) (k : J (pc + 1) lv (x :: y :: x :: y :: st) S kc ns) : J pc lv (x :: y :: st) S kc ns := by
  obtain ⟨p, e, s, m, args, below, meth, c, hx, hb, hml, hr, ho, hts, hlk, hK, hnm, rfl⟩ := C
  intro H locs ls hH hL hl
  exact lv_dup2_11 hx hb hd (cat_1 h) (cat_1 h2) (k H locs ls hH hL hl)
theorem r_dup_x1 (C : Cx l g d mc ms own Post J) {x y : AV} (hd : decode d.b pc = .ok (.dup_x1, 1)) (h : c2 x = false) (h2 : c2 y = false) (k : J (pc + 1) lv (x :: y :: x :: st) S kc ns) : J pc lv (x :: y :: st) S kc ns := by
  obtain ⟨p, e, s, m, args, below, meth, c, hx, hb, hml, hr, ho, hts, hlk, hK, hnm, rfl⟩ := C
  intro H locs ls hH hL hl
  exact lv_dup_x1 hx hb hd (cat_1 h) (cat_1 h2) (k H locs ls hH hL hl)
theorem r_lcmp (C : Cx l g d mc ms own Post J) {x y : Int64} (hd : decode d.b pc = .ok (.lcmp, 1)) (k : J (pc + 1) lv (vi (lg_cmp x y) :: st) S kc ns) : J pc lv (vl y :: vl x :: st) S kc ns := by
  obtain ⟨p, e, s, m, args, below, meth, c, hx, hb, hml, hr, ho, hts, hlk, hK, hnm, rfl⟩ := C
  intro H locs ls hH hL hl
  exact W.lcmp hx hb hd (k H locs ls hH hL hl)
theorem r_goto (C : Cx l g d mc ms own Post J) {off : Int} {tgt : Nat} (hd : decode d.b pc = .ok (.goto off, 3)) (ht : (pc : Int) + off = (tgt : Int)) (k : J tgt lv (st) S kc ns) : J pc lv (st) S kc ns := by
  obtain ⟨p, e, s, m, args, below, meth, c, hx, hb, hml, hr, ho, hts, hlk, hK, hnm, rfl⟩ := C
  intro H locs ls hH hL hl
  exact lv_goto hx hb hd ht (k H locs ls hH hL hl)
theorem r_if_eq (C : Cx l g d mc ms own Post J) {x : Int32} {off : Int} {tgt : Nat} (hd : decode d.b pc = .ok (.ifCond .eq off, 3)) (ht : (pc : Int) + off = (tgt : Int)) (kt : x = 0 → J tgt lv st S kc ns) (kf : ¬ x = 0 → J (pc + 3) lv st S kc ns) : J pc lv (vi x :: st) S kc ns := by
  obtain ⟨p, e, s, m, args, below, meth, c, hx, hb, hml, hr, ho, hts, hlk, hK, hnm, rfl⟩ := C
  intro H locs ls hH hL hl
  exact lv_if_eq hx hb hd ht (fun q => kt q H locs ls hH hL hl) (fun q => kf q H locs ls hH hL hl)
theorem r_icmp_eq (C : Cx l g d mc ms own Post J) {x y : Int32} {off : Int} {tgt : Nat} (hd : decode d.b pc = .ok (.if_icmp .eq off, 3)) (ht : (pc : Int) + off = (tgt : Int)) (kt : x = y → J tgt lv st S kc ns) (kf : ¬ x = y → J (pc + 3) lv st S kc ns) : J pc lv (vi y :: vi x :: st) S kc ns := by
  obtain ⟨p, e, s, m, args, below, meth, c, hx, hb, hml, hr, ho, hts, hlk, hK, hnm, rfl⟩ := C
  intro H locs ls hH hL hl
  exact lv_icmp_eq hx hb hd ht (fun q => kt q H locs ls hH hL hl) (fun q => kf q H locs ls hH hL hl)
theorem r_if_ne (C : Cx l g d mc ms own Post J) {x : Int32} {off : Int} {tgt : Nat} (hd : decode d.b pc = .ok (.ifCond .ne off, 3)) (ht : (pc : Int) + off = (tgt : Int)) (kt : ¬ x = 0 → J tgt lv st S kc ns) (kf : x = 0 → J (pc + 3) lv st S kc ns) : J pc lv (vi x :: st) S kc ns := by
  obtain ⟨p, e, s, m, args, below, meth, c, hx, hb, hml, hr, ho, hts, hlk, hK, hnm, rfl⟩ := C
  intro H locs ls hH hL hl
  exact lv_if_ne hx hb hd ht (fun q => kt q H locs ls hH hL hl) (fun q => kf q H locs ls hH hL hl)
theorem r_icmp_ne (C : Cx l g d mc ms own Post J) {x y : Int32} {off : Int} {tgt : Nat} (hd : decode d.b pc = .ok (.if_icmp .ne off, 3)) (ht : (pc : Int) + off = (tgt : Int)) (kt : ¬ x = y → J tgt lv st S kc ns) (kf : x = y → J (pc + 3) lv st S kc ns) : J pc lv (vi y :: vi x :: st) S kc ns := by
  obtain ⟨p, e, s, m, args, below, meth, c, hx, hb, hml, hr, ho, hts, hlk, hK, hnm, rfl⟩ := C
  intro H locs ls hH hL hl
  exact lv_icmp_ne hx hb hd ht (fun q => kt q H locs ls hH hL hl) (fun q => kf q H locs ls hH hL hl)
theorem r_if_lt (C : Cx l g d mc ms own Post J) {x : Int32} {off : Int} {tgt : Nat} (hd : decode d.b pc = .ok (.ifCond .lt off, 3)) (ht : (pc : Int) + off = (tgt : Int)) (kt : x < 0 → J tgt lv st S kc ns) (kf : ¬ x < 0 → J (pc + 3) lv st S kc ns) : J pc lv (vi x :: st) S kc ns := by
  obtain ⟨p, e, s, m, args, below, meth, c, hx, hb, hml, hr, ho, hts, hlk, hK, hnm, rfl⟩ := C
  intro H locs ls hH hL hl
  exact lv_if_lt hx hb hd ht (fun q => kt q H locs ls hH hL hl) (fun q => kf q H locs ls hH hL hl)
theorem r_icmp_lt (C : Cx l g d mc ms own Post J) {x y : Int32} {off : Int} {tgt : Nat} (hd : decode d.b pc = .ok (.if_icmp .lt off, 3)) (ht : (pc : Int) + off = (tgt : Int)) (kt : x < y → J tgt lv st S kc ns) (kf : ¬ x < y → J (pc + 3) lv st S kc ns) : J pc lv (vi y :: vi x :: st) S kc ns := by
  obtain ⟨p, e, s, m, args, below, meth, c, hx, hb, hml, hr, ho, hts, hlk, hK, hnm, rfl⟩ := C
  intro H locs ls hH hL hl
  exact lv_icmp_lt hx hb hd ht (fun q => kt q H locs ls hH hL hl) (fun q => kf q H locs ls hH hL hl)
theorem r_if_ge (C : Cx l g d mc ms own Post J) {x : Int32} {off : Int} {tgt : Nat} (hd : decode d.b pc = .ok (.ifCond .ge off, 3)) (ht : (pc : Int) + off = (tgt : Int)) (kt : 0 ≤ x → J tgt lv st S kc ns) (kf : ¬ 0 ≤ x → J (pc + 3) lv st S kc ns) : J pc lv (vi x :: st) S kc ns := by
  obtain ⟨p, e, s, m, args, below, meth, c, hx, hb, hml, hr, ho, hts, hlk, hK, hnm, rfl⟩ := C
  intro H locs ls hH hL hl
  exact lv_if_ge hx hb hd ht (fun q => kt q H locs ls hH hL hl) (fun q => kf q H locs ls hH hL hl)
theorem r_icmp_ge (C : Cx l g d mc ms own Post J) {x y : Int32} {off : Int} {tgt : Nat} (hd : decode d.b pc = .ok (.if_icmp .ge off, 3)) (ht : (pc : Int) + off = (tgt : Int)) (kt : y ≤ x → J tgt lv st S kc ns) (kf : ¬ y ≤ x → J (pc + 3) lv st S kc ns) : J pc lv (vi y :: vi x :: st) S kc ns := by
  obtain ⟨p, e, s, m, args, below, meth, c, hx, hb, hml, hr, ho, hts, hlk, hK, hnm, rfl⟩ := C
  intro H locs ls hH hL hl
  exact lv_icmp_ge hx hb hd ht (fun q => kt q H locs ls hH hL hl) (fun q => kf q H locs ls hH hL hl)
theorem r_if_gt (C : Cx l g d mc ms own Post J) {x : Int32} {off : Int} {tgt : Nat} (hd : decode d.b pc = .ok (.ifCond .gt off, 3)) (ht : (pc : Int) + off = (tgt : Int)) (kt : 0 < x → J tgt lv st S kc ns) (kf : ¬ 0 < x → J (pc + 3) lv st S kc ns) : J pc lv (vi x :: st) S kc ns := by
  obtain ⟨p, e, s, m, args, below, meth, c, hx, hb, hml, hr, ho, hts, hlk, hK, hnm, rfl⟩ := C
  intro H locs ls hH hL hl
  exact lv_if_gt hx hb hd ht (fun q => kt q H locs ls hH hL hl) (fun q => kf q H locs ls hH hL hl)
theorem r_icmp_gt (C : Cx l g d mc ms own Post J) {x y : Int32} {off : Int} {tgt : Nat} (hd : decode d.b pc = .ok (.if_icmp .gt off, 3)) (ht : (pc : Int) + off = (tgt : Int)) (kt : y < x → J tgt lv st S kc ns) (kf : ¬ y < x → J (pc + 3) lv st S kc ns) : J pc lv (vi y :: vi x :: st) S kc ns := by
  obtain ⟨p, e, s, m, args, below, meth, c, hx, hb, hml, hr, ho, hts, hlk, hK, hnm, rfl⟩ := C
  intro H locs ls hH hL hl
  exact lv_icmp_gt hx hb hd ht (fun q => kt q H locs ls hH hL hl) (fun q => kf q H locs ls hH hL hl)
theorem r_if_le (C : Cx l g d mc ms own Post J) {x : Int32} {off : Int} {tgt : Nat} (hd : decode d.b pc = .ok (.ifCond .le off, 3)) (ht : (pc : Int) + off = (tgt : Int)) (kt : x ≤ 0 → J tgt lv st S kc ns) (kf : ¬ x ≤ 0 → J (pc + 3) lv st S kc ns) : J pc lv (vi x :: st) S kc ns := by
  obtain ⟨p, e, s, m, args, below, meth, c, hx, hb, hml, hr, ho, hts, hlk, hK, hnm, rfl⟩ := C
  intro H locs ls hH hL hl
  exact lv_if_le hx hb hd ht (fun q => kt q H locs ls hH hL hl) (fun q => kf q H locs ls hH hL hl)
theorem r_icmp_le (C : Cx l g d mc ms own Post J) {x y : Int32} {off : Int} {tgt : Nat} (hd : decode d.b pc = .ok (.if_icmp .le off, 3)) (ht : (pc : Int) + off = (tgt : Int)) (kt : x ≤ y → J tgt lv st S kc ns) (kf : ¬ x ≤ y → J (pc + 3) lv st S kc ns) : J pc lv (vi y :: vi x :: st) S kc ns := by
  obtain ⟨p, e, s, m, args, below, meth, c, hx, hb, hml, hr, ho, hts, hlk, hK, hnm, rfl⟩ := C
  intro H locs ls hH hL hl
  exact lv_icmp_le hx hb hd ht (fun q => kt q H locs ls hH hL hl) (fun q => kf q H locs ls hH hL hl)
theorem r_acmp_eq (C : Cx l g d mc ms own Post J) {x y : Option Nat} {off : Int} {tgt : Nat} (hd : decode d.b pc = .ok (.if_acmp .eq off, 3)) (ht : (pc : Int) + off = (tgt : Int)) (kt : x = y → J tgt lv st S kc ns) (kf : ¬ x = y → J (pc + 3) lv st S kc ns) : J pc lv (vr y :: vr x :: st) S kc ns := by
  obtain ⟨p, e, s, m, args, below, meth, c, hx, hb, hml, hr, ho, hts, hlk, hK, hnm, rfl⟩ := C
  intro H locs ls hH hL hl
  exact lv_acmp_eq hx hb hd ht (fun q => kt q H locs ls hH hL hl) (fun q => kf q H locs ls hH hL hl)
theorem r_acmp_ne (C : Cx l g d mc ms own Post J) {x y : Option Nat} {off : Int} {tgt : Nat} (hd : decode d.b pc = .ok (.if_acmp .ne off, 3)) (ht : (pc : Int) + off = (tgt : Int)) (kt : ¬ x = y → J tgt lv st S kc ns) (kf : x = y → J (pc + 3) lv st S kc ns) : J pc lv (vr y :: vr x :: st) S kc ns := by
  obtain ⟨p, e, s, m, args, below, meth, c, hx, hb, hml, hr, ho, hts, hlk, hK, hnm, rfl⟩ := C
  intro H locs ls hH hL hl
  exact lv_acmp_ne hx hb hd ht (fun q => kt q H locs ls hH hL hl) (fun q => kf q H locs ls hH hL hl)
theorem r_ifnull (C : Cx l g d mc ms own Post J) {x : Option Nat} {off : Int} {tgt : Nat} (hd : decode d.b pc = .ok (.ifnull off, 3)) (ht : (pc : Int) + off = (tgt : Int)) (kt : x = none → J tgt lv st S kc ns) (kf : ∀ a, x = some a → J (pc + 3) lv st S kc ns) : J pc lv (vr x :: st) S kc ns := by
  obtain ⟨p, e, s, m, args, below, meth, c, hx, hb, hml, hr, ho, hts, hlk, hK, hnm, rfl⟩ := C
  intro H locs ls hH hL hl
  cases x with
  | none => exact lv_ifnullN hx hb hd ht (kt rfl H locs ls hH hL hl)
  | some a => exact lv_ifnull hx hb hd (kf a rfl H locs ls hH hL hl)
theorem r_ifnonnull (C : Cx l g d mc ms own Post J) {x : Option Nat} {off : Int} {tgt : Nat} (hd : decode d.b pc = .ok (.ifnonnull off, 3)) (ht : (pc : Int) + off = (tgt : Int)) (kt : ∀ a, x = some a → J tgt lv st S kc ns) (kf : x = none → J (pc + 3) lv st S kc ns) : J pc lv (vr x :: st) S kc ns := by
  obtain ⟨p, e, s, m, args, below, meth, c, hx, hb, hml, hr, ho, hts, hlk, hK, hnm, rfl⟩ := C
  intro H locs ls hH hL hl
  cases x with
  | none => exact lv_ifnonnullN hx hb hd (kf rfl H locs ls hH hL hl)
  | some a => exact lv_ifnonnull hx hb hd ht (kt a rfl H locs ls hH hL hl)
theorem r_swOut (C : Cx l g d mc ms own Post J) {dflt lo hi : Int} {offs : Array Int} {len : Nat} {x : Int32} {tgt : Nat} (hd : decode d.b pc = .ok (.tableswitch dflt lo hi offs, len)) (h : x.toInt < lo ∨ hi < x.toInt) (ht : (pc : Int) + dflt = (tgt : Int)) (k : J tgt lv (st) S kc ns) : J pc lv (vi x :: st) S kc ns := by
  obtain ⟨p, e, s, m, args, below, meth, c, hx, hb, hml, hr, ho, hts, hlk, hK, hnm, rfl⟩ := C
  intro H locs ls hH hL hl
  exact lv_tableOut hx hb hd h ht (k H locs ls hH hL hl)
theorem r_swIn (C : Cx l g d mc ms own Post J) {dflt lo hi : Int} {offs : Array Int} {len : Nat} {x : Int32} {off : Int} {tgt : Nat} (hd : decode d.b pc = .ok (.tableswitch dflt lo hi offs, len)) (h1 : ¬ x.toInt < lo) (h2 : ¬ hi < x.toInt) (ho2 : offs[(x.toInt - lo).toNat]? = some off) (ht : (pc : Int) + off = (tgt : Int)) (k : J tgt lv (st) S kc ns) : J pc lv (vi x :: st) S kc ns := by
  obtain ⟨p, e, s, m, args, below, meth, c, hx, hb, hml, hr, ho, hts, hlk, hK, hnm, rfl⟩ := C
  intro H locs ls hH hL hl
  exact lv_tableIn hx hb hd h1 h2 ho2 ht (k H locs ls hH hL hl)
theorem r_lookup (C : Cx l g d mc ms own Post J) {dflt : Int} {ps : Array (Int × Int)} {len : Nat} {x : Int32} {off : Int} {tgt : Nat} (hd : decode d.b pc = .ok (.lookupswitch dflt ps, len)) (hp : (ps.toList.zip (ps.toList.drop 1)).all (fun (a, next) => a.1 < next.1) = true) (ho2 : Op.lookupswitch.offset ps.toList dflt x.toInt = off) (ht : (pc : Int) + off = (tgt : Int)) (k : J tgt lv (st) S kc ns) : J pc lv (vi x :: st) S kc ns := by
  obtain ⟨p, e, s, m, args, below, meth, c, hx, hb, hml, hr, ho, hts, hlk, hK, hnm, rfl⟩ := C
  intro H locs ls hH hL hl
  exact lv_lookup hx hb hd hp ho2 ht (k H locs ls hH hL hl)
theorem r_iret (C : Cx l g d mc ms own Post J) {x : Int32} (hd : decode d.b pc = .ok (.ireturn, 1)) (hr0 : d.r = some .int) (h1 : kc ≤ mc) (h2 : ns ≤ ms) (hq : Post (some (vi x)) S) : J pc lv [vi x] S kc ns := by
  obtain ⟨p, e, s, m, args, below, meth, c, hx, hb, hml, hr, ho, hts, hlk, hK, hnm, rfl⟩ := C
  intro H locs ls hH hL hl
  refine W.widen (k := mc) (n := ms) h1 h2 ?_
  exact W.iret hx hb (hr.trans hr0) (fun t ht hW => ⟨_, S, rfl, hq, KK.moved hW hK, by rw [ht]; exact hH⟩) hL hd
theorem r_zret (C : Cx l g d mc ms own Post J) {x : Int32} (hd : decode d.b pc = .ok (.ireturn, 1)) (hr0 : d.r = some .boolean) (hz : x = 0 ∨ x = 1) (h1 : kc ≤ mc) (h2 : ns ≤ ms) (hq : Post (some (vi x)) S) : J pc lv [vi x] S kc ns := by
  obtain ⟨p, e, s, m, args, below, meth, c, hx, hb, hml, hr, ho, hts, hlk, hK, hnm, rfl⟩ := C
  intro H locs ls hH hL hl
  refine W.widen (k := mc) (n := ms) h1 h2 ?_
  exact W.zret hx hb (hr.trans hr0) (by rcases hz with rfl | rfl <;> rfl) (fun t ht hW => ⟨_, S, rfl, hq, KK.moved hW hK, by rw [ht]; exact hH⟩) hL hd
theorem r_lret (C : Cx l g d mc ms own Post J) {x : Int64} (hd : decode d.b pc = .ok (.lreturn, 1)) (hr0 : d.r = some .long) (h1 : kc ≤ mc) (h2 : ns ≤ ms) (hq : Post (some (vl x)) S) : J pc lv [vl x] S kc ns := by
  obtain ⟨p, e, s, m, args, below, meth, c, hx, hb, hml, hr, ho, hts, hlk, hK, hnm, rfl⟩ := C
  intro H locs ls hH hL hl
  refine W.widen (k := mc) (n := ms) h1 h2 ?_
  exact W.lret hx hb (hr.trans hr0) (fun t ht hW => ⟨_, S, rfl, hq, KK.moved hW hK, by rw [ht]; exact hH⟩) hL hd
theorem r_ret (C : Cx l g d mc ms own Post J) (hd : decode d.b pc = .ok (.return_, 1)) (hr0 : d.r = none) (h1 : kc ≤ mc) (h2 : ns ≤ ms) (hq : Post none S) : J pc lv [] S kc ns := by
  obtain ⟨p, e, s, m, args, below, meth, c, hx, hb, hml, hr, ho, hts, hlk, hK, hnm, rfl⟩ := C
  intro H locs ls hH hL hl
  refine W.widen (k := mc) (n := ms) h1 h2 ?_
  exact W.vret hx hb (hr.trans hr0) (fun t ht hW => ⟨_, S, rfl, hq, KK.moved hW hK, by rw [ht]; exact hH⟩) hL hd
theorem r_aret (C : Cx l g d mc ms own Post J) {x : Option Nat} {rt : FieldType} (hd : decode d.b pc = .ok (.areturn, 1)) (hr0 : d.r = some rt) (hrt : (∃ n, rt = .object n) ∨ ∃ t, rt = .array t) (h1 : kc ≤ mc) (h2 : ns ≤ ms) (hq : Post (some (vr x)) S) : J pc lv [vr x] S kc ns := by
  obtain ⟨p, e, s, m, args, below, meth, c, hx, hb, hml, hr, ho, hts, hlk, hK, hnm, rfl⟩ := C
  intro H locs ls hH hL hl
  refine W.widen (k := mc) (n := ms) h1 h2 ?_
  exact W.aret (v := va_rf x) hx hb (hr.trans hr0) hrt (by cases x; exact Or.inl rfl; exact Or.inr ⟨_, rfl⟩) (fun t ht hW => ⟨_, S, rfl, hq, KK.moved hW hK, by rw [ht]; exact hH⟩) hL hd
theorem r_widen (C : Cx l g d mc ms own Post J) {k2 n2 : Nat} (h1 : kc ≤ k2) (h2 : ns ≤ n2) (k : J pc lv st S k2 n2) : J pc lv st S kc ns := by
  obtain ⟨p, e, s, m, args, below, meth, c, hx, hb, hml, hr, ho, hts, hlk, hK, hnm, rfl⟩ := C
  intro H locs ls hH hL hl
  exact W.widen h1 h2 (k H locs ls hH hL hl)
/-- fewer locals, in any order -/
theorem r_lv (C : Cx l g d mc ms own Post J) (lv2 : List (Nat × AV)) (h : ∀ q ∈ lv2, lg lv q.1 = some q.2) (k : J pc lv2 st S kc ns) : J pc lv st S kc ns := by
  obtain ⟨p, e, s, m, args, below, meth, c, hx, hb, hml, hr, ho, hts, hlk, hK, hnm, rfl⟩ := C
  intro H locs ls hH hL hl
  refine k H locs ls hH hL ⟨hl.1, hl.2.1, fun q hq => ?_⟩
  obtain ⟨z, hz, rfl⟩ := List.mem_map.mp hq
  exact lg_has hl (h z hz)
end Rows
end
section
/-! Fields, arrays, new things -/
section HeapRows
variable {l : Launch} {g : GG} {d : MD} {mc ms : Nat} {own : String} {Post : Option AV → hS → Prop} {J : JJ} {pc : Nat} {lv : List (Nat × AV)} {st : List AV} {S : hS} {kc ns : Nat}
/-- of each class of vwCl: its words, its fields' types and names -/
theorem cl_ok : ∀ (ci : Nat) (r : vw_C), vwCl[ci]? = some r → (∀ w ∈ u_ws r.1 r.2.1 r.2.2, w ∈ Wd) ∧ ci < 12 ∧ r.2.2 = (tgs ci).length ∧ ∃ ty : Nat → FieldType, (∀ k, k < r.2.2 → parseFieldDescriptor (r.2.1 k).2.2.1 = some (ty k)) ∧ (∀ a, a < r.2.2 → ∀ b, b < r.2.2 → a ≠ b → (r.2.1 a).2.1 ≠ (r.2.1 b).2.1) ∧ (Cond.instantiable r.1 r.2.2) ∈ Wd ∧ (Cond.initialized r.1) ∈ Wd ∧ (∀ k, k < r.2.2 → defaultValue (ty k) = fval (newO (fun _ => 0, fun _ _ => 0, fun _ _ => none, fun _ _ => 0, fun _ => 0, fun _ _ _ => 0, fun _ _ _ => 0, fun _ _ _ => none) 0 0) ((tgs ci).getD k 0) 0 0) := by
  intro ci r h
  match ci, h with
  | 0, h => cases h; exact ⟨iw_0, by decide, rfl, tyJx4a65c, tyJx4a65c_ok, nmJx4a65c, in_0.1, in_0.2, by decide⟩
  | 1, h => cases h; exact ⟨iw_1, by decide, rfl, tyX0, tyX0_ok, nmX0, in_1.1, in_1.2, by decide⟩
  | 2, h => cases h; exact ⟨iw_2, by decide, rfl, tyX1, tyX1_ok, nmX1, in_2.1, in_2.2, by decide⟩
  | 3, h => cases h; exact ⟨iw_3, by decide, rfl, tyX2, tyX2_ok, nmX2, in_3.1, in_3.2, by decide⟩
  | 4, h => cases h; exact ⟨iw_4, by decide, rfl, tyX3, tyX3_ok, nmX3, in_4.1, in_4.2, by decide⟩
  | 5, h => cases h; exact ⟨iw_5, by decide, rfl, tyX4, tyX4_ok, nmX4, in_5.1, in_5.2, by decide⟩
  | 6, h => cases h; exact ⟨iw_6, by decide, rfl, tyX5, tyX5_ok, nmX5, in_6.1, in_6.2, by decide⟩
  | 7, h => cases h; exact ⟨iw_7, by decide, rfl, tyX6, tyX6_ok, nmX6, in_7.1, in_7.2, by decide⟩
  | 8, h => cases h; exact ⟨iw_8, by decide, rfl, tyX7, tyX7_ok, nmX7, in_8.1, in_8.2, by decide⟩
  | 9, h => cases h; exact ⟨iw_9, by decide, rfl, tyX8, tyX8_ok, nmX8, in_9.1, in_9.2, by decide⟩
  | 10, h => cases h; exact ⟨iw_10, by decide, rfl, tyX9, tyX9_ok, nmX9, in_10.1, in_10.2, by decide⟩
  | 11, h => cases h; exact ⟨iw_11, by decide, rfl, tyX10, tyX10_ok, nmX10, in_11.1, in_11.2, by decide⟩
  | k + 12, h => simp [vwCl] at h
theorem HP.obj {H : Heap} {ci a : Nat} (hH : HP g S H) (hk : sK S a = ci + 1) (hc : ci < 12) : va_P g.1 vwCl [(a, .inr (ci, fsF S ci a))] H := by
  obtain ⟨L, hL, hP, -⟩ := hH
  obtain ⟨k, hk2⟩ := va_pl_get (X := []) (f := cF g S) ((hL a).mp (by rw [hk]; omega))
  have h1 := hP k _ hk2
  have e : cF g S a = .inr (ci, fsF S ci a) := by
    unfold cF
    rw [hk, if_pos (by omega)]
    rfl
  rw [e] at h1
  intro j q hj
  match j, hj with
  | 0, hj => cases hj; exact h1
theorem HP.arr {H : Heap} {a : Nat} (hH : HP g S H) (hk : 20 ≤ sK S a) : va_P g.1 vwCl [(a, .inl (g.2.1 (ac (sK S a)), aV S (sK S a) a))] H := by
  obtain ⟨L, hL, hP, -⟩ := hH
  obtain ⟨k, hk2⟩ := va_pl_get (X := []) (f := cF g S) ((hL a).mp (by omega))
  have h1 := hP k _ hk2
  have e : cF g S a = .inl (g.2.1 (ac (sK S a)), aV S (sK S a) a) := by
    unfold cF
    rw [if_neg (by omega)]
  rw [e] at h1
  intro j q hj
  match j, hj with
  | 0, hj => cases hj; exact h1
theorem same_of {s : State} {args : Array Value} (hts : ∀ w ∈ Wd, w.before args s = true) {ref o n ds : String} (h : ref = o ∨ Cond.sameField ref o n ds ∈ Wd) : ∀ x, s.fieldFound? o n ds = some x → s.fieldFound? ref n ds = some x := by
  rcases h with rfl | h
  · exact fun _ h => h
  · exact fun x hx => u_same (hts _ h) x hx
theorem r_get (C : Cx l g d mc ms own Post J) {idx ci k t a : Nat} (hd : decode d.b pc = .ok (.getfield idx, 3)) (hf : FL own idx ci k t) (hk : sK S a = ci + 1) {v : AV} (hv : cv v = fval S t (100 * ci + k) a) (kk : J (pc + 3) lv (v :: st) S kc ns) : J pc lv (vr (some a) :: st) S kc ns := by
  obtain ⟨p, e, s, m, args, below, meth, c, hx, hb, hml, hr, ho, hts, hlk, hK, hnm, rfl⟩ := C
  intro H locs ls hH hL hl
  obtain ⟨r, h1, h2, h3, ref, h4, h5⟩ := hf
  obtain ⟨w1, hci, -⟩ := cl_ok ci r h1
  have h6 := kk H locs ls hH hL hl
  refine va_get hx hb hts w1 ho hK.K (HP.obj hH hk hci) 0 rfl h1 k h2 (hts _ h4) (same_of hts h5) (v := cv v) ?_ hd h6
  rw [fsF_at h3, hv]
theorem r_getI (C : Cx l g d mc ms own Post J) {idx ci k a : Nat} (hd : decode d.b pc = .ok (.getfield idx, 3)) (hf : FL own idx ci k 0) (hk : sK S a = ci + 1) (kk : J (pc + 3) lv (vi (sI S (100 * ci + k) a) :: st) S kc ns) : J pc lv (vr (some a) :: st) S kc ns := r_get C hd hf hk rfl kk
theorem r_getR (C : Cx l g d mc ms own Post J) {idx ci k a : Nat} (hd : decode d.b pc = .ok (.getfield idx, 3)) (hf : FL own idx ci k 1) (hk : sK S a = ci + 1) (kk : J (pc + 3) lv (vr (sR S (100 * ci + k) a) :: st) S kc ns) : J pc lv (vr (some a) :: st) S kc ns := r_get C hd hf hk rfl kk
theorem r_getJ (C : Cx l g d mc ms own Post J) {idx ci k a : Nat} (hd : decode d.b pc = .ok (.getfield idx, 3)) (hf : FL own idx ci k 2) (hk : sK S a = ci + 1) (kk : J (pc + 3) lv (vl (sJ S (100 * ci + k) a) :: st) S kc ns) : J pc lv (vr (some a) :: st) S kc ns := r_get C hd hf hk rfl kk
/-- what may be put into a field: its type, and that it isn't final or this is its constructor -/
def FP (d : MD) (own : String) (ci k : Nat) (v : Value) : Prop := ∃ r : vw_C, vwCl[ci]? = some r ∧ (∃ ty, parseFieldDescriptor (r.2.1 k).2.2.1 = some ty ∧ narrow ty v = v ∧ fits ty v = true) ∧ ((r.2.1 k).2.2.2 = false ∨ ((r.2.1 k).2.2.2 = true ∧ d.y.name = "<init>" ∧ (r.2.1 k).1 = own))
theorem r_put (C : Cx l g d mc ms own Post J) {idx ci k t a : Nat} {S2 : hS} {v : AV} (hd : decode d.b pc = .ok (.putfield idx, 3)) (hf : FL own idx ci k t) (hp : FP d own ci k (cv v)) (hk : sK S a = ci + 1) (e1 : S2.1 = S.1) (e2 : S2.2.2.2.2 = S.2.2.2.2) (e3 : fval S2 t (100 * ci + k) a = cv v)
    (e4 : ∀ t' j b, ¬ (j = 100 * ci + k ∧ b = a) → fval S2 t' j b = fval S t' j b) (kk : J (pc + 3) lv st S2 kc ns) : J pc lv (v :: vr (some a) :: st) S kc ns := by
  obtain ⟨p, e, s, m, args, below, meth, c, hx, hb, hml, hr, ho, hts, hlk, hK, hnm, rfl⟩ := C
  intro H locs ls hH hL hl
  obtain ⟨r, h1, h2, h3, ref, h4, h5⟩ := hf
  obtain ⟨r', h1', ⟨ty, q1, q2, q3⟩, hfin⟩ := hp
  cases h1.symm.trans h1'
  obtain ⟨w1, hci, hlen, ty0, t1, t2, -⟩ := cl_ok ci r h1
  have hS := HP.S hH hL
  obtain ⟨L, hLL, hP, hD, -⟩ := hH
  have hmem : a ∈ L := (hLL a).mp (by rw [hk]; omega)
  obtain ⟨z, hz⟩ := va_pl_get (X := []) (f := cF g S) hmem
  have hz : (va_pl L (cF g S))[z]? = some (a, cF g S a) := hz
  have ea : cF g S a = .inr (ci, fsF S ci a) := by
    unfold cF
    rw [hk, if_pos (by omega)]
    rfl
  have hz2 : (va_pl L (cF g S))[z]? = some (a, .inr (ci, fsF S ci a)) := by rw [hz, ea]
  have hln : k < (fsF S ci a).length := by rw [fsF_len, ← hlen]; exact h2
  have hLL2 : ∀ a, sK S2 a ≠ 0 ↔ a ∈ L := fun b => by
    rw [← hLL b]
    show S2.1 b ≠ 0 ↔ S.1 b ≠ 0
    rw [e1]
  have fin : ∀ (H1 : Heap) (locs1 : List Loc), va_P g.1 vwCl ((va_pl L (cF g S)).set z (a, .inr (ci, (fsF S ci a).set k (cv v)))) H1 → va_D (AA g) ((va_pl L (cF g S)).set z (a, .inr (ci, (fsF S ci a).set k (cv v)))) → va_S (AA g) (gH g) H1 locs1 → W p l e (d.rm mc ms) s m args below meth c H1 locs1 kc ns (MQ below (QQ g Post) args s mc ms (AA g)) (F0 m (pc + 3) ls (st.map cv)) := by
    intro H1 locs1 hP1 hD1 hS1
    have hset : (va_pl L (cF g S)).set z (a, .inr (ci, (fsF S ci a).set k (cv v))) = va_pl L (va_up (cF g S) a (.inr (ci, (fsF S ci a).set k (cv v)))) := va_pl_set (X := []) hD hmem hz
    rw [hset] at hP1 hD1
    obtain ⟨hH1, hL1⟩ := HP.of (S := S) (S' := S2) hLL2 (cF_fields hk hci h3 e1 e2 e3 e4) hP1 hD1 hS1
    exact kk H1 locs1 ls hH1 hL1 hl
  have hgoal : W p l e (d.rm mc ms) s m args below meth c H locs kc ns (MQ below (QQ g Post) args s mc ms (AA g)) (F0 m pc ls (cv v :: .ref a :: st.map cv)) := by
    rcases hfin with hfin | ⟨hfin, hin, hdecl⟩
    · exact va_put hx hb hts w1 ty0 t1 t2 ho hK.K hP hD hS z hz2 h1 k h2 (hts _ h4) (same_of hts h5) hfin q1 q2 q3 hln hd fin
    · exact va_putF hx hb hts w1 ty0 t1 t2 ho hK.K hP hD hS z hz2 h1 k h2 (hts _ h4) (same_of hts h5) hfin (hnm.trans hin) hdecl q1 q2 q3 hln hd fin
  exact hgoal
theorem r_putI (C : Cx l g d mc ms own Post J) {idx ci k a : Nat} {v : Int32} (hd : decode d.b pc = .ok (.putfield idx, 3)) (hf : FL own idx ci k 0) (hp : FP d own ci k (.int v)) (hk : sK S a = ci + 1) (kk : J (pc + 3) lv st (setI S (100 * ci + k) a v) kc ns) : J pc lv (vi v :: vr (some a) :: st) S kc ns :=
  r_put (S2 := setI S (100 * ci + k) a v) C hd hf hp hk rfl rfl (by simp [fval, sI, setI, u2, cv]) (fun _ _ _ h => fval_setI_ne h) kk
theorem r_putR (C : Cx l g d mc ms own Post J) {idx ci k a : Nat} {v : Option Nat} (hd : decode d.b pc = .ok (.putfield idx, 3)) (hf : FL own idx ci k 1) (hp : FP d own ci k (va_rf v)) (hk : sK S a = ci + 1) (kk : J (pc + 3) lv st (setR S (100 * ci + k) a v) kc ns) : J pc lv (vr v :: vr (some a) :: st) S kc ns :=
  r_put (S2 := setR S (100 * ci + k) a v) C hd hf hp hk rfl rfl (by simp [fval, sR, setR, u2, cv]) (fun _ _ _ h => fval_setR_ne h) kk
theorem r_putJ (C : Cx l g d mc ms own Post J) {idx ci k a : Nat} {v : Int64} (hd : decode d.b pc = .ok (.putfield idx, 3)) (hf : FL own idx ci k 2) (hp : FP d own ci k (.long v)) (hk : sK S a = ci + 1) (kk : J (pc + 3) lv st (setJ S (100 * ci + k) a v) kc ns) : J pc lv (vl v :: vr (some a) :: st) S kc ns :=
  r_put (S2 := setJ S (100 * ci + k) a v) C hd hf hp hk rfl rfl (by simp [fval, sJ, setJ, u2, cv]) (fun _ _ _ h => fval_setJ_ne h) kk
end HeapRows
end
section
/-! Arrays -/
section ArrRows
variable {l : Launch} {g : GG} {d : MD} {mc ms : Nat} {own : String} {Post : Option AV → hS → Prop} {J : JJ} {pc : Nat} {lv : List (Nat × AV)} {st : List AV} {S : hS} {kc ns : Nat}
theorem ac_lt (k : Nat) : ac k < 8 := by unfold ac; repeat (first | omega | split)
theorem aV_i {k a : Nat} (h : ac k < 4) (h2 : ac k ≠ 2) : aV S k a = (sN S a, .inl (aI S k a)) := by simp [aV, h, h2]
theorem aV_l {k a : Nat} (h : ac k = 2) : aV S k a = (sN S a, .inr (.inl (aJ S k a))) := by simp [aV, h]
theorem aV_r {k a : Nat} (h : 4 ≤ ac k) : aV S k a = (sN S a, .inr (.inr (.inr (.inr (aR S k a))))) := by
  have h1 : ¬ ac k = 2 := by omega
  have h2 : ¬ ac k < 4 := by omega
  simp [aV, h1, h2]
theorem r_alen (C : Cx l g d mc ms own Post J) {a r : Nat} (hd : decode d.b pc = .ok (.arraylength, 1)) (hk : sK S a = r) (h20 : 20 ≤ r) (kk : J (pc + 1) lv (vi (nI (sN S a)) :: st) S kc ns) : J pc lv (vr (some a) :: st) S kc ns := by
  obtain ⟨p, e, s, m, args, below, meth, c, hx, hb, hml, hr, ho, hts, hlk, hK, hnm, rfl⟩ := C
  intro H locs ls hH hL hl
  subst hk
  refine va_alen hx hb hK.K (HP.arr hH h20) 0 _ rfl (tysF_at g (ac_lt _)) (v := nI (sN S a)) ?_ hd (kk H locs ls hH hL hl)
  rfl
theorem r_iald (C : Cx l g d mc ms own Post J) {a r j : Nat} {i : Int32} (hd : decode d.b pc = .ok (.iaload, 1)) (hk : sK S a = r) (h30 : 30 ≤ r ∧ r < 80) (hin : vp_in i (sN S a)) (hj : i.toNatClampNeg = j) (kk : J (pc + 1) lv (vi (aI S r a j) :: st) S kc ns) : J pc lv (vi i :: vr (some a) :: st) S kc ns := by
  obtain ⟨p, e, s, m, args, below, meth, c, hx, hb, hml, hr, ho, hts, hlk, hK, hnm, rfl⟩ := C
  intro H locs ls hH hL hl
  subst hj
  have e1 : ac (sK S a) = 1 := by rw [hk]; unfold ac; rw [if_neg (by omega), if_pos (by omega)]
  have hP := HP.arr hH (a := a) (by omega)
  rw [aV_i (by omega) (by omega)] at hP
  subst hk
  exact va_iald hx hb hK.K hP 0 1 rfl (by rw [tysF_at g (by omega)]; rw [e1]; rfl) hin hd (kk H locs ls hH hL hl)
theorem r_lald (C : Cx l g d mc ms own Post J) {a r j : Nat} {i : Int32} (hd : decode d.b pc = .ok (.laload, 1)) (hk : sK S a = r) (h30 : 80 ≤ r ∧ r < 85) (hin : vp_in i (sN S a)) (hj : i.toNatClampNeg = j) (kk : J (pc + 1) lv (vl (aJ S r a j) :: st) S kc ns) : J pc lv (vi i :: vr (some a) :: st) S kc ns := by
  obtain ⟨p, e, s, m, args, below, meth, c, hx, hb, hml, hr, ho, hts, hlk, hK, hnm, rfl⟩ := C
  intro H locs ls hH hL hl
  subst hj
  have e1 : ac (sK S a) = 2 := by rw [hk]; unfold ac; rw [if_neg (by omega), if_neg (by omega), if_pos (by omega)]
  have hP := HP.arr hH (a := a) (by omega)
  rw [aV_l e1] at hP
  subst hk
  exact va_lald hx hb hK.K hP 0 2 rfl (by rw [tysF_at g (by omega)]; rw [e1]; rfl) hin hd (kk H locs ls hH hL hl)
theorem r_bald (C : Cx l g d mc ms own Post J) {a r j : Nat} {i : Int32} (hd : decode d.b pc = .ok (.baload, 1)) (hk : sK S a = r) (h30 : 20 ≤ r ∧ r < 30) (hin : vp_in i (sN S a)) (hj : i.toNatClampNeg = j) (kk : J (pc + 1) lv (vi (aI S r a j) :: st) S kc ns) : J pc lv (vi i :: vr (some a) :: st) S kc ns := by
  obtain ⟨p, e, s, m, args, below, meth, c, hx, hb, hml, hr, ho, hts, hlk, hK, hnm, rfl⟩ := C
  intro H locs ls hH hL hl
  subst hj
  have e1 : ac (sK S a) = 0 := by rw [hk]; unfold ac; rw [if_pos (by omega)]
  have hP := HP.arr hH (a := a) (by omega)
  rw [aV_i (by omega) (by omega)] at hP
  subst hk
  exact va_bald hx hb hK.K hP 0 0 rfl (by rw [tysF_at g (by omega)]; rw [e1]; rfl) hin hd (kk H locs ls hH hL hl)
theorem r_zald (C : Cx l g d mc ms own Post J) {a r j : Nat} {i : Int32} (hd : decode d.b pc = .ok (.baload, 1)) (hk : sK S a = r) (h30 : 85 ≤ r ∧ r < 100) (hin : vp_in i (sN S a)) (hj : i.toNatClampNeg = j) (kk : J (pc + 1) lv (vi (aI S r a j) :: st) S kc ns) : J pc lv (vi i :: vr (some a) :: st) S kc ns := by
  obtain ⟨p, e, s, m, args, below, meth, c, hx, hb, hml, hr, ho, hts, hlk, hK, hnm, rfl⟩ := C
  intro H locs ls hH hL hl
  subst hj
  have e1 : ac (sK S a) = 3 := by rw [hk]; unfold ac; rw [if_neg (by omega), if_neg (by omega), if_neg (by omega), if_pos (by omega)]
  have hP := HP.arr hH (a := a) (by omega)
  rw [aV_i (by omega) (by omega)] at hP
  subst hk
  exact va_zald hx hb hK.K hP 0 3 rfl (by rw [tysF_at g (by omega)]; rw [e1]; rfl) hin hd (kk H locs ls hH hL hl)
theorem tyA_r {j : Nat} (h : 4 ≤ j) : ∃ C, tyA j = .object C := by
  match j, h with
  | 4, _ => exact ⟨_, rfl⟩
  | 5, _ => exact ⟨_, rfl⟩
  | 6, _ => exact ⟨_, rfl⟩
  | k + 7, _ => exact ⟨_, rfl⟩
theorem ac_r {r : Nat} (h : 100 ≤ r) : 4 ≤ ac r := by
  unfold ac
  rw [if_neg (by omega), if_neg (by omega), if_neg (by omega), if_neg (by omega)]
  repeat (first | omega | split)
theorem r_aald (C : Cx l g d mc ms own Post J) {a r j : Nat} {i : Int32} (hd : decode d.b pc = .ok (.aaload, 1)) (hk : sK S a = r) (h30 : 100 ≤ r) (hin : vp_in i (sN S a)) (hj : i.toNatClampNeg = j) (kk : J (pc + 1) lv (vr (aR S r a j) :: st) S kc ns) : J pc lv (vi i :: vr (some a) :: st) S kc ns := by
  obtain ⟨p, e, s, m, args, below, meth, c, hx, hb, hml, hr, ho, hts, hlk, hK, hnm, rfl⟩ := C
  intro H locs ls hH hL hl
  subst hj
  have e1 : 4 ≤ ac (sK S a) := ac_r (by omega)
  obtain ⟨Cn, hC⟩ := tyA_r e1
  have hP := HP.arr hH (a := a) (by omega)
  rw [aV_r e1] at hP
  subst hk
  exact va_aldq (C := Cn) hx hb hK.K hP 0 (ac (sK S a)) rfl (by rw [tysF_at g (ac_lt _), hC]) hin hd (kk H locs ls hH hL hl)
/-- an array's cell is put anew -/
theorem cF_arr {S2 : hS} {a : Nat} {x : vp_A} (h20 : 20 ≤ sK S a) (e1 : S2.1 = S.1) (e2 : ∀ b, sK S b < 20 → fsF S2 (sK S b - 1) b = fsF S (sK S b - 1) b) (e3 : aV S2 (sK S a) a = x) (e4 : ∀ b, b ≠ a → aV S2 (sK S b) b = aV S (sK S b) b) (b : Nat) : va_up (cF g S) a (.inl (g.2.1 (ac (sK S a)), x)) b = cF g S2 b := by
  have hKb : ∀ b, sK S2 b = sK S b := fun b => by show S2.1 b = S.1 b; rw [e1]
  by_cases hb : b = a
  · subst hb
    rw [va_up_self]
    unfold cF
    rw [hKb, if_neg (by omega), e3]
  · rw [va_up_ne _ _ hb]
    unfold cF
    rw [hKb, e4 b hb]
    split
    · next h => rw [e2 b h]
    · rfl
theorem HP.arr2 {H : Heap} {locs : List Loc} {a : Nat} (hH : HP g S H) (hL : LO g locs) (h20 : 20 ≤ sK S a) : ∃ (L : List Nat) (z : Nat), (va_pl L (cF g S))[z]? = some (a, .inl (g.2.1 (ac (sK S a)), aV S (sK S a) a)) ∧ va_P g.1 vwCl (va_pl L (cF g S)) H ∧ va_D (AA g) (va_pl L (cF g S)) ∧ va_S (AA g) (gH g) H locs ∧
    ∀ (S2 : hS) (x : vp_A) (H1 : Heap) (locs1 : List Loc), S2.1 = S.1 → (∀ b, sK S b < 20 → fsF S2 (sK S b - 1) b = fsF S (sK S b - 1) b) → aV S2 (sK S a) a = x → (∀ b, b ≠ a → aV S2 (sK S b) b = aV S (sK S b) b) →
      va_P g.1 vwCl ((va_pl L (cF g S)).set z (a, .inl (g.2.1 (ac (sK S a)), x))) H1 → va_D (AA g) ((va_pl L (cF g S)).set z (a, .inl (g.2.1 (ac (sK S a)), x))) → va_S (AA g) (gH g) H1 locs1 → HP g S2 H1 ∧ LO g locs1 := by
  have hS := HP.S hH hL
  obtain ⟨L, hLL, hP, hD, -⟩ := hH
  have hmem : a ∈ L := (hLL a).mp (by omega)
  obtain ⟨z, hz⟩ := va_pl_get (X := []) (f := cF g S) hmem
  have hz : (va_pl L (cF g S))[z]? = some (a, cF g S a) := hz
  have ea : cF g S a = .inl (g.2.1 (ac (sK S a)), aV S (sK S a) a) := by
    unfold cF
    rw [if_neg (by omega)]
  refine ⟨L, z, by rw [hz, ea], hP, hD, hS, ?_⟩
  intro S2 x H1 locs1 e1 e2 e3 e4 hP1 hD1 hS1
  have hset : (va_pl L (cF g S)).set z (a, .inl (g.2.1 (ac (sK S a)), x)) = va_pl L (va_up (cF g S) a (.inl (g.2.1 (ac (sK S a)), x))) := va_pl_set (X := []) hD hmem hz
  rw [hset] at hP1 hD1
  refine HP.of (S := S) (S' := S2) ?_ (cF_arr h20 e1 e2 e3 e4) hP1 hD1 hS1
  intro b
  rw [← hLL b]
  show S2.1 b ≠ 0 ↔ S.1 b ≠ 0
  rw [e1]
theorem aV_putI_self {r a : Nat} {f : Nat → Int32} (h : ac r < 4) (h2 : ac r ≠ 2) : aV (putI S r a f) r a = (sN S a, .inl f) := by
  rw [aV_i h h2]
  simp [aI, putI, u2r, sN]
theorem aV_putI_ne {r a k b : Nat} {f : Nat → Int32} (h : b ≠ a) : aV (putI S r a f) k b = aV S k b := by
  have e : aI (putI S r a f) k b = aI S k b := by
    simp only [aI, putI, u2r]
    split
    · first | rfl | rw [if_neg h]
    · rfl
  simp only [aV, e]
  rfl
theorem aV_putJ_self {r a : Nat} {f : Nat → Int64} (h : ac r = 2) : aV (putJ S r a f) r a = (sN S a, .inr (.inl f)) := by
  rw [aV_l h]
  simp [aJ, putJ, u2r, sN]
theorem aV_putJ_ne {r a k b : Nat} {f : Nat → Int64} (h : b ≠ a) : aV (putJ S r a f) k b = aV S k b := by
  have e : aJ (putJ S r a f) k b = aJ S k b := by
    simp only [aJ, putJ, u2r]
    split
    · first | rfl | rw [if_neg h]
    · rfl
  simp only [aV, e]
  rfl
theorem aV_putR_self {r a : Nat} {f : Nat → Option Nat} (h : 4 ≤ ac r) : aV (putR S r a f) r a = (sN S a, .inr (.inr (.inr (.inr f)))) := by
  rw [aV_r h]
  simp [aR, putR, u2r, sN]
theorem aV_putR_ne {r a k b : Nat} {f : Nat → Option Nat} (h : b ≠ a) : aV (putR S r a f) k b = aV S k b := by
  have e : aR (putR S r a f) k b = aR S k b := by
    simp only [aR, putR, u2r]
    split
    · first | rfl | rw [if_neg h]
    · rfl
  simp only [aV, e]
  rfl
theorem r_iast (C : Cx l g d mc ms own Post J) {a r j : Nat} {i x : Int32} (hd : decode d.b pc = .ok (.iastore, 1)) (hk : sK S a = r) (h30 : 30 ≤ r ∧ r < 80) (hin : vp_in i (sN S a)) (hj : i.toNatClampNeg = j) (kk : J (pc + 1) lv st (putI S r a (upd (aI S r a) j x)) kc ns) : J pc lv (vi x :: vi i :: vr (some a) :: st) S kc ns := by
  obtain ⟨p, e, s, m, args, below, meth, c, hx, hb, hml, hr, ho, hts, hlk, hK, hnm, rfl⟩ := C
  intro H locs ls hH hL hl
  subst hj; subst hk
  have e1 : ac (sK S a) = 1 := by unfold ac; rw [if_neg (by omega), if_pos (by omega)]
  obtain ⟨L, z, hz, hP, hD, hS, fin⟩ := HP.arr2 (a := a) hH hL (by omega)
  rw [aV_i (by omega) (by omega)] at hz
  refine va_iast hx hb hK.K hP hD hS z 1 hz (by rw [tysF_at g (by omega), e1]; rfl) hin hd fun H1 locs1 hP1 hD1 hS1 => ?_
  obtain ⟨hH1, hL1⟩ := fin (putI S (sK S a) a (upd (aI S (sK S a) a) i.toNatClampNeg x)) _ H1 locs1 rfl (fun _ _ => rfl) (aV_putI_self (by omega) (by omega)) (fun b h => aV_putI_ne h) hP1 hD1 hS1
  exact kk H1 locs1 ls hH1 hL1 hl
theorem r_bast (C : Cx l g d mc ms own Post J) {a r j : Nat} {i x : Int32} (hd : decode d.b pc = .ok (.bastore, 1)) (hk : sK S a = r) (h30 : 20 ≤ r ∧ r < 30) (hin : vp_in i (sN S a)) (hj : i.toNatClampNeg = j) {y : Int32} (hy : x.toInt8.toInt32 = y) (kk : J (pc + 1) lv st (putI S r a (upd (aI S r a) j y)) kc ns) : J pc lv (vi x :: vi i :: vr (some a) :: st) S kc ns := by
  obtain ⟨p, e, s, m, args, below, meth, c, hx, hb, hml, hr, ho, hts, hlk, hK, hnm, rfl⟩ := C
  intro H locs ls hH hL hl
  subst hj; subst hk; subst hy
  have e1 : ac (sK S a) = 0 := by unfold ac; rw [if_pos (by omega)]
  obtain ⟨L, z, hz, hP, hD, hS, fin⟩ := HP.arr2 (a := a) hH hL (by omega)
  rw [aV_i (by omega) (by omega)] at hz
  refine va_bast hx hb hK.K hP hD hS z 0 hz (by rw [tysF_at g (by omega), e1]; rfl) hin hd fun H1 locs1 hP1 hD1 hS1 => ?_
  rw [vp_nar_byte] at hP1 hD1
  obtain ⟨hH1, hL1⟩ := fin (putI S (sK S a) a (upd (aI S (sK S a) a) i.toNatClampNeg x.toInt8.toInt32)) _ H1 locs1 rfl (fun _ _ => rfl) (aV_putI_self (by omega) (by omega)) (fun b h => aV_putI_ne h) hP1 hD1 hS1
  exact kk H1 locs1 ls hH1 hL1 hl
theorem r_zast (C : Cx l g d mc ms own Post J) {a r j : Nat} {i x : Int32} (hd : decode d.b pc = .ok (.bastore, 1)) (hk : sK S a = r) (h30 : 85 ≤ r ∧ r < 100) (hin : vp_in i (sN S a)) (hj : i.toNatClampNeg = j) (hz0 : x = 0 ∨ x = 1) (kk : J (pc + 1) lv st (putI S r a (upd (aI S r a) j x)) kc ns) : J pc lv (vi x :: vi i :: vr (some a) :: st) S kc ns := by
  obtain ⟨p, e, s, m, args, below, meth, c, hx, hb, hml, hr, ho, hts, hlk, hK, hnm, rfl⟩ := C
  intro H locs ls hH hL hl
  subst hj; subst hk
  have e1 : ac (sK S a) = 3 := by unfold ac; rw [if_neg (by omega), if_neg (by omega), if_neg (by omega), if_pos (by omega)]
  obtain ⟨L, z, hz, hP, hD, hS, fin⟩ := HP.arr2 (a := a) hH hL (by omega)
  rw [aV_i (by omega) (by omega)] at hz
  have hnar : vp_nar .boolean x = x := by rcases hz0 with rfl | rfl <;> rfl
  refine va_zast hx hb hK.K hP hD hS z 3 hz (by rw [tysF_at g (by omega), e1]; rfl) hin hd fun H1 locs1 hP1 hD1 hS1 => ?_
  rw [hnar] at hP1 hD1
  obtain ⟨hH1, hL1⟩ := fin (putI S (sK S a) a (upd (aI S (sK S a) a) i.toNatClampNeg x)) _ H1 locs1 rfl (fun _ _ => rfl) (aV_putI_self (by omega) (by omega)) (fun b h => aV_putI_ne h) hP1 hD1 hS1
  exact kk H1 locs1 ls hH1 hL1 hl
theorem r_last (C : Cx l g d mc ms own Post J) {a r j : Nat} {i : Int32} {x : Int64} (hd : decode d.b pc = .ok (.lastore, 1)) (hk : sK S a = r) (h30 : 80 ≤ r ∧ r < 85) (hin : vp_in i (sN S a)) (hj : i.toNatClampNeg = j) (kk : J (pc + 1) lv st (putJ S r a (vp_updL (aJ S r a) j x)) kc ns) : J pc lv (vl x :: vi i :: vr (some a) :: st) S kc ns := by
  obtain ⟨p, e, s, m, args, below, meth, c, hx, hb, hml, hr, ho, hts, hlk, hK, hnm, rfl⟩ := C
  intro H locs ls hH hL hl
  subst hj; subst hk
  have e1 : ac (sK S a) = 2 := by unfold ac; rw [if_neg (by omega), if_neg (by omega), if_pos (by omega)]
  obtain ⟨L, z, hz, hP, hD, hS, fin⟩ := HP.arr2 (a := a) hH hL (by omega)
  rw [aV_l e1] at hz
  refine va_last hx hb hK.K hP hD hS z 2 hz (by rw [tysF_at g (by omega), e1]; rfl) hin hd fun H1 locs1 hP1 hD1 hS1 => ?_
  obtain ⟨hH1, hL1⟩ := fin (putJ S (sK S a) a (vp_updL (aJ S (sK S a) a) i.toNatClampNeg x)) _ H1 locs1 rfl (fun _ _ => rfl) (aV_putJ_self e1) (fun b h => aV_putJ_ne h) hP1 hD1 hS1
  exact kk H1 locs1 ls hH1 hL1 hl
end ArrRows
end
section
/-! New things, casts, calls -/
section CallRows
variable {l : Launch} {g : GG} {d : MD} {mc ms : Nat} {own : String} {Post : Option AV → hS → Prop} {J : JJ} {pc : Nat} {lv : List (Nat × AV)} {st : List AV} {S : hS} {kc ns : Nat}
theorem AA_ge (g : GG) : ∀ q, (gH g).size ≤ q → AA g q := fun _ h => h
/-- a thing more -/
theorem HP.push {H1 : Heap} {L : List Nat} {q : Nat} {x : va_E} {S2 : hS} {locs : List Loc} (hLL : ∀ a, sK S a ≠ 0 ↔ a ∈ L) (hq : ∀ a, sK S2 a ≠ 0 ↔ (a = q ∨ sK S a ≠ 0)) (e1 : cF g S2 q = x) (e2 : ∀ b, b ≠ q → cF g S2 b = cF g S b) (hD0 : va_D (AA g) (va_pl L (cF g S)))
    (hP : va_P g.1 vwCl (va_pl L (cF g S) ++ [(q, x)]) H1) (hD : va_D (AA g) (va_pl L (cF g S) ++ [(q, x)])) (hS : va_S (AA g) (gH g) H1 locs) : sK S q = 0 ∧ HP g S2 H1 ∧ LO g locs := by
  have hnew : q ∉ L := by
    intro hm
    obtain ⟨i, hi⟩ := List.getElem?_of_mem (show (q, cF g S q) ∈ va_pl L (cF g S) from List.mem_map.mpr ⟨q, hm, rfl⟩)
    have hi2 : i < (va_pl L (cF g S)).length := (List.getElem?_eq_some_iff.mp hi).1
    have h1 : (va_pl L (cF g S) ++ [(q, x)])[i]? = some (q, cF g S q) := by rw [List.getElem?_append_left hi2]; exact hi
    have h2 : (va_pl L (cF g S) ++ [(q, x)])[(va_pl L (cF g S)).length]? = some (q, x) := by rw [List.getElem?_append_right (Nat.le_refl _), Nat.sub_self]; rfl
    have := hD.1 i _ _ _ h1 h2 rfl
    omega
  have h0 : sK S q = 0 := by
    by_cases h : sK S q = 0
    · exact h
    · exact absurd ((hLL q).mp h) hnew
  rw [va_pl_push hnew] at hP hD
  have hf : ∀ b, va_up (cF g S) q x b = cF g S2 b := by
    intro b
    by_cases hb : b = q
    · subst hb
      rw [va_up_self, e1]
    · rw [va_up_ne _ _ hb, e2 b hb]
  refine ⟨h0, HP.of (S := S) (S' := S2) (fun b => ?_) hf hP hD hS⟩
  rw [hq b, List.mem_append, ← hLL b, List.mem_singleton]
  exact ⟨fun h => h.symm, fun h => h.symm⟩
theorem r_new (C : Cx l g d mc ms own Post J) {idx ci : Nat} {r : vw_C} (hd : decode d.b pc = .ok (.new idx, 3)) (hc : vwCl[ci]? = some r) (hw : Cond.classLink own idx r.1 ∈ Wd) {n : Nat} (hn : r.2.2 = n) (h1 : kc + 1 ≤ mc) (h2 : ns + n ≤ ms) (kk : ∀ q, sK S q = 0 → J (pc + 3) lv (vr (some q) :: st) (newO S q (ci + 1)) (kc + 1) (ns + n)) : J pc lv st S kc ns := by
  obtain ⟨p, e, s, m, args, below, meth, c, hx, hb, hml, hr, ho, hts, hlk, hK, hnm, rfl⟩ := C
  intro H locs ls hH hL hl
  obtain ⟨w1, hci, hlen, ty0, t1, t2, hi1, hi2, hdef⟩ := cl_ok ci r hc
  have hS := HP.S hH hL
  obtain ⟨L, hLL, hP, hD, -⟩ := hH
  subst hn
  have hdef2 : ∀ q, ∀ j, j < r.2.2 → defaultValue (ty0 j) = vp_V (fsF (newO S q (ci + 1)) ci q) j := by
    intro q j hj
    have hj2 : j < (tgs ci).length := by rw [← hlen]; exact hj
    have hg : (tgs ci)[j]? = some (tgs ci)[j] := List.getElem?_eq_getElem hj2
    rw [hdef j hj]
    have e1 : (tgs ci).getD j 0 = (tgs ci)[j] := by simp [hj2]
    rw [e1]
    unfold vp_V
    rw [List.getD_eq_getElem?_getD, fsF_at hg]
    show _ = fval (newO S q (ci + 1)) _ _ q
    unfold fval
    split <;> simp [sI, sR, sJ, newO]
  have hfs : ∀ q q2, fsF (newO S q (ci + 1)) ci q = fsF (newO S q2 (ci + 1)) ci q2 := by
    intro q q2
    unfold fsF
    apply List.map_congr_left
    intro k _
    unfold fval
    split <;> simp [sI, sR, sJ, newO]
  refine va_new hx hb hts w1 ty0 t1 ho (hts _ hw) (hts _ hi1) (hts _ hi2) hK.K hP hD hS (AA_ge g) hc (hdef2 0) h1 h2 hd fun q H1 hP1 hD1 hS1 => ?_
  rw [hfs 0 q] at hP1 hD1
  obtain ⟨h0, hH1, hL1⟩ := HP.push (S2 := newO S q (ci + 1)) hLL (fun a => by
      show va_up S.1 q (ci + 1) a ≠ 0 ↔ _
      by_cases ha : a = q
      · subst ha; rw [va_up_self]; exact ⟨fun _ => Or.inl rfl, fun _ => by omega⟩
      · rw [va_up_ne _ _ ha]; exact ⟨fun h => Or.inr h, fun h => h.resolve_left ha⟩)
    (by
      have : sK (newO S q (ci + 1)) q = ci + 1 := by show va_up S.1 q (ci + 1) q = _; rw [va_up_self]
      unfold cF
      rw [this, if_pos (by omega)]
      rfl)
    (fun b hb => by
      have hk : sK (newO S q (ci + 1)) b = sK S b := by show va_up S.1 q (ci + 1) b = _; rw [va_up_ne _ _ hb]; rfl
      unfold cF
      rw [hk]
      have e1 : ∀ c, fsF (newO S q (ci + 1)) c b = fsF S c b := by
        intro c
        unfold fsF
        apply List.map_congr_left
        intro k _
        unfold fval
        split <;> simp [sI, sR, sJ, newO, hb]
      rw [e1]
      rfl) hD hP1 hD1 hS1
  exact kk q h0 H1 locs ls hH1 hL1 hl
theorem cF_newA {q k n b : Nat} (hb : b ≠ q) : cF g (newA S q k n) b = cF g S b := by
  have hk : sK (newA S q k n) b = sK S b := by show va_up S.1 q k b = _; rw [va_up_ne _ _ hb]; rfl
  unfold cF
  rw [hk]
  have e1 : ∀ c, fsF (newA S q k n) c b = fsF S c b := fun _ => rfl
  have e2 : ∀ c, aV (newA S q k n) c b = aV S c b := by
    intro c
    simp [aV, sN, aI, aJ, aR, newA, va_up, hb]
  rw [e1, e2]
theorem K_newA {q k n : Nat} (hk : k ≠ 0) (a : Nat) : sK (newA S q k n) a ≠ 0 ↔ (a = q ∨ sK S a ≠ 0) := by
  show va_up S.1 q k a ≠ 0 ↔ _
  by_cases ha : a = q
  · subst ha; rw [va_up_self]; exact ⟨fun _ => Or.inl rfl, fun _ => hk⟩
  · rw [va_up_ne _ _ ha]; exact ⟨fun h => Or.inr h, fun h => h.resolve_left ha⟩
theorem cF_newA_self {q k n : Nat} (hk : 20 ≤ k) : cF g (newA S q k n) q = .inl (g.2.1 (ac k), n, if ac k = 2 then .inr (.inl (fun _ => 0)) else if ac k < 4 then .inl (fun _ => 0) else .inr (.inr (.inr (.inr (fun _ => none))))) := by
  have h : sK (newA S q k n) q = k := by show va_up S.1 q k q = _; rw [va_up_self]
  unfold cF
  rw [h, if_neg (by omega)]
  simp [aV, sN, aI, aJ, aR, newA, va_up]
theorem RA_inj {U : State} {c1 c2 : ClassId} {ty : FieldType} (h1 : va_RA U c1 ty) (h2 : va_RA U c2 ty) : c1 = c2 := by
  cases ty with
  | object C =>
    obtain ⟨_, _, _, _, _, h4⟩ := h1
    obtain ⟨_, _, _, _, _, h5⟩ := h2
    exact Option.some.inj (h4.symm.trans h5)
  | _ => exact Option.some.inj (Eq.trans (Eq.symm h1) h2)
/-- an array of numbers of the kind k: bytes 20.., ints 30.., longs 80.., booleans 85.. -/
theorem r_newa (C : Cx l g d mc ms own Post J) {at_ : ArrayType} {x : Int32} (k : Nat) {n : Nat} (hd : decode d.b pc = .ok (.newarray at_, 2)) (hty : newarray.typeOf at_ = tyA (ac k)) (h20 : 20 ≤ k ∧ k < 100) (hw : Cond.arrayClass (newarray.typeOf at_) ∈ Wd) (hn : ¬ x < 0) (hN : x.toNatClampNeg = n) (hb8 : n ≤ 60000000) (h1 : kc + 1 ≤ mc) (h2 : ns + n ≤ ms) (kk : ∀ q, sK S q = 0 → J (pc + 2) lv (vr (some q) :: st) (newA S q k n) (kc + 1) (ns + n)) : J pc lv (vi x :: st) S kc ns := by
  obtain ⟨p, e, s, m, args, below, meth, c, hx, hb, hml, hr, ho, hts, hlk, hK, hnm, rfl⟩ := C
  intro H locs ls hH hL hl
  have hS := HP.S hH hL
  obtain ⟨L, hLL, hP, hD, -⟩ := hH
  have hac : ac k < 4 := by unfold ac; repeat (first | omega | split)
  have hcell : ∀ cA : ClassId, vp_cell cA (n, if ac k = 2 then .inr (.inl (fun _ => 0)) else if ac k < 4 then .inl (fun _ => 0) else .inr (.inr (.inr (.inr (fun _ => none))))) = arrV cA n (fun _ => defaultValue (tyA (ac k))) := by
    intro cA
    generalize ac k = z at hac
    match z, hac with
    | 0, _ => rfl
    | 1, _ => rfl
    | 2, _ => rfl
    | 3, _ => rfl
  have hbytes : n * componentBytes (tyA (ac k)) ≤ 536870912 := by
    generalize ac k = z at hac
    have : componentBytes (tyA z) ≤ 8 := by
      match z, hac with
      | 0, _ => decide
      | 1, _ => decide
      | 2, _ => decide
      | 3, _ => decide
    exact Nat.le_trans (Nat.mul_le_mul hb8 this) (by decide)
  refine va_newa hx hb (hts _ hw) hty hK.K hP hD hS (AA_ge g) hcell hn hN hbytes h1 h2 hd fun q cA H1 hK1 hP1 hD1 hS1 => ?_
  have hcA : cA = g.2.1 (ac k) := by
    have h8 : ac k < (tysF g).length := by simp [tysF]; omega
    have e1 := (hK1.2 (tysF g).length (cA, tyA (ac k)) (by rw [List.getElem?_append_right (Nat.le_refl _), Nat.sub_self]; rfl)).2
    have e2 := (hK.K.2 (ac k) _ (tysF_at g (by omega))).2
    exact RA_inj e1 e2
  subst hcA
  obtain ⟨h0, hH1, hL1⟩ := HP.push (S2 := newA S q k n) hLL (K_newA (by omega)) (cF_newA_self h20.1) (fun b hb => cF_newA hb) hD hP1 hD1 hS1
  exact kk q h0 H1 locs ls hH1 hL1 hl
/-- an array of references -/
theorem r_newr (C : Cx l g d mc ms own Post J) {idx : Nat} {x : Int32} (k : Nat) {n : Nat} {Cn : String} (hd : decode d.b pc = .ok (.anewarray idx, 3)) (hty : tyA (ac k) = .object Cn) (h20 : 100 ≤ k) (hw : Cond.classLink own idx Cn ∈ Wd) (hao : Cond.arrayOver (.object Cn) ∈ lw_tbl) (hn : ¬ x < 0) (hN : x.toNatClampNeg = n) (hb8 : n ≤ 60000000) (h1 : kc + 1 ≤ mc) (h2 : ns + n ≤ ms) (kk : ∀ q, sK S q = 0 → J (pc + 3) lv (vr (some q) :: st) (newA S q k n) (kc + 1) (ns + n)) : J pc lv (vi x :: st) S kc ns := by
  obtain ⟨p, e, s, m, args, below, meth, c, hx, hb, hml, hr, ho, hts, hlk, hK, hnm, rfl⟩ := C
  intro H locs ls hH hL hl
  have hS := HP.S hH hL
  obtain ⟨L, hLL, hP, hD, -⟩ := hH
  have hac : 4 ≤ ac k := ac_r h20
  have hAO : va_AO Cn s := va_AO.moved hK.1.alike (va_AO.of (hK.2.1 _ hao))
  refine va_newq hx hb ho (hts _ hw) hAO hK.K hP hD hS (AA_ge g) hn hN (by omega) h1 h2 hd fun q cA H1 hK1 hP1 hD1 hS1 => ?_
  have hcA : cA = g.2.1 (ac k) := by
    have h8 : ac k < (tysF g).length := by simp [tysF]; exact ac_lt k
    have e1 := (hK1.2 (tysF g).length (cA, .object Cn) (by rw [List.getElem?_append_right (Nat.le_refl _), Nat.sub_self]; rfl)).2
    have e2 := (hK.K.2 (ac k) _ (tysF_at g (ac_lt k))).2
    rw [hty] at e2
    exact RA_inj e1 e2
  subst hcA
  have e5 : (Sum.inl (g.2.1 (ac k), n, Sum.inr (Sum.inr (Sum.inr (Sum.inr (fun _ => none))))) : va_E) = .inl (g.2.1 (ac k), n, if ac k = 2 then .inr (.inl (fun _ => 0)) else if ac k < 4 then .inl (fun _ => 0) else .inr (.inr (.inr (.inr (fun _ => none))))) := by
    rw [if_neg (by omega), if_neg (by omega)]
  rw [e5] at hP1 hD1
  obtain ⟨h0, hH1, hL1⟩ := HP.push (S2 := newA S q k n) hLL (K_newA (by omega)) (cF_newA_self (by omega)) (fun b hb => cF_newA hb) hD hP1 hD1 hS1
  exact kk q h0 H1 locs ls hH1 hL1 hl
/-- an object of a kind is put into an array of that kind's references; null; any of ours into an array of Objects -/
theorem r_aast (C : Cx l g d mc ms own Post J) {a r j v ci : Nat} {i : Int32} {rc : vw_C} (hd : decode d.b pc = .ok (.aastore, 1)) (hk : sK S a = r) (h30 : 100 ≤ r) (hc : vwCl[ci]? = some rc) (hty : tyA (ac r) = .object rc.1) (hv : sK S v = ci + 1) (hin : vp_in i (sN S a)) (hj : i.toNatClampNeg = j) (kk : J (pc + 1) lv st (putR S r a (va_up (aR S r a) j (some v))) kc ns) : J pc lv (vr (some v) :: vi i :: vr (some a) :: st) S kc ns := by
  obtain ⟨p, e, s, m, args, below, meth, c, hx, hb, hml, hr, ho, hts, hlk, hK, hnm, rfl⟩ := C
  intro H locs ls hH hL hl
  obtain ⟨-, hci, -⟩ := cl_ok ci rc hc
  subst hj; subst hk
  have e1 : 4 ≤ ac (sK S a) := ac_r h30
  have hvo := HP.obj hH hv hci
  obtain ⟨L, z, hz, hP, hD, hS, fin⟩ := HP.arr2 (a := a) hH hL (by omega)
  rw [aV_r e1] at hz
  have hany : va_Any rc.1 s H v := va_rAny hK.K hvo (q0 := 0) rfl hc (fun comp c0 h1 h2 => vb_asgS comp c0 h1 h2)
  refine va_astqM hx hb hK.K hP hD hS z (ac (sK S a)) hz (by rw [tysF_at g (ac_lt _), hty]) hany hin hd fun H1 locs1 hP1 hD1 hS1 => ?_
  obtain ⟨hH1, hL1⟩ := fin (putR S (sK S a) a (va_up (aR S (sK S a) a) i.toNatClampNeg (some v))) _ H1 locs1 rfl (fun _ _ => rfl) (aV_putR_self e1) (fun b h => aV_putR_ne h) hP1 hD1 hS1
  exact kk H1 locs1 ls hH1 hL1 hl
theorem r_aastN (C : Cx l g d mc ms own Post J) {a r j : Nat} {i : Int32} (hd : decode d.b pc = .ok (.aastore, 1)) (hk : sK S a = r) (h30 : 100 ≤ r) (hin : vp_in i (sN S a)) (hj : i.toNatClampNeg = j) (kk : J (pc + 1) lv st (putR S r a (va_up (aR S r a) j none)) kc ns) : J pc lv (vr none :: vi i :: vr (some a) :: st) S kc ns := by
  obtain ⟨p, e, s, m, args, below, meth, c, hx, hb, hml, hr, ho, hts, hlk, hK, hnm, rfl⟩ := C
  intro H locs ls hH hL hl
  subst hj; subst hk
  have e1 : 4 ≤ ac (sK S a) := ac_r h30
  obtain ⟨Cn, hC⟩ := tyA_r e1
  obtain ⟨L, z, hz, hP, hD, hS, fin⟩ := HP.arr2 (a := a) hH hL (by omega)
  rw [aV_r e1] at hz
  refine va_astqN (C := Cn) hx hb hK.K hP hD hS z (ac (sK S a)) hz (by rw [tysF_at g (ac_lt _), hC]) hin hd fun H1 locs1 hP1 hD1 hS1 => ?_
  obtain ⟨hH1, hL1⟩ := fin (putR S (sK S a) a (va_up (aR S (sK S a) a) i.toNatClampNeg none)) _ H1 locs1 rfl (fun _ _ => rfl) (aV_putR_self e1) (fun b h => aV_putR_ne h) hP1 hD1 hS1
  exact kk H1 locs1 ls hH1 hL1 hl
/-- which of ours can stand for an Object: their words -/
def obW : Nat → Nat := fun ci => match ci with
  | 9 => 1580
  | _ => 1583
theorem any_obj {s : State} {H : Heap} {v ci : Nat} (hK : KK g s) (hH : HP g S H) (hci : ci = 9 ∨ ci = 6) (hv : sK S v = ci + 1) : va_Any "java/lang/Object" s H v := by
  rcases hci with rfl | rfl
  · refine va_rAny hK.K (HP.obj hH hv (by omega)) (q0 := 0) rfl (r := (RX8, TX8, 16)) rfl (vb_asgC ?_)
    exact va_Nw.warmC hK.1 (va_Nw.of rfl (hK.2.1 _ (List.mem_append_right _ (List.mem_of_getElem? (i := 1580) (by decide +kernel)))))
  · refine va_rAny hK.K (HP.obj hH hv (by omega)) (q0 := 0) rfl (r := (RX5, TX5, 6)) rfl (vb_asgC ?_)
    exact va_Nw.warmC hK.1 (va_Nw.of rfl (hK.2.1 _ (List.mem_append_right _ (List.mem_of_getElem? (i := 1583) (by decide +kernel)))))
theorem r_aastO (C : Cx l g d mc ms own Post J) {a r j v ci : Nat} {i : Int32} (hd : decode d.b pc = .ok (.aastore, 1)) (hk : sK S a = r) (h30 : 104 ≤ r) (hci : ci = 9 ∨ ci = 6) (hv : sK S v = ci + 1) (hin : vp_in i (sN S a)) (hj : i.toNatClampNeg = j) (kk : J (pc + 1) lv st (putR S r a (va_up (aR S r a) j (some v))) kc ns) : J pc lv (vr (some v) :: vi i :: vr (some a) :: st) S kc ns := by
  obtain ⟨p, e, s, m, args, below, meth, c, hx, hb, hml, hr, ho, hts, hlk, hK, hnm, rfl⟩ := C
  intro H locs ls hH hL hl
  subst hj; subst hk
  have e1 : ac (sK S a) = 7 := by unfold ac; rw [if_neg (by omega), if_neg (by omega), if_neg (by omega), if_neg (by omega), if_neg (by omega), if_neg (by omega), if_neg (by omega)]
  have hany := any_obj hK hH hci hv
  obtain ⟨L, z, hz, hP, hD, hS, fin⟩ := HP.arr2 (a := a) hH hL (by omega)
  rw [aV_r (by omega)] at hz
  refine va_astqM hx hb hK.K hP hD hS z (ac (sK S a)) hz (by rw [tysF_at g (ac_lt _), e1]; rfl) hany hin hd fun H1 locs1 hP1 hD1 hS1 => ?_
  obtain ⟨hH1, hL1⟩ := fin (putR S (sK S a) a (va_up (aR S (sK S a) a) i.toNatClampNeg (some v))) _ H1 locs1 rfl (fun _ _ => rfl) (aV_putR_self (by omega)) (fun b h => aV_putR_ne h) hP1 hD1 hS1
  exact kk H1 locs1 ls hH1 hL1 hl
theorem r_cast (C : Cx l g d mc ms own Post J) {idx ci a : Nat} {r : vw_C} (hd : decode d.b pc = .ok (.checkcast idx, 3)) (hc : vwCl[ci]? = some r) (hw : Cond.classLink own idx r.1 ∈ Wd) (hk : sK S a = ci + 1) (kk : J (pc + 3) lv (vr (some a) :: st) S kc ns) : J pc lv (vr (some a) :: st) S kc ns := by
  obtain ⟨p, e, s, m, args, below, meth, c, hx, hb, hml, hr, ho, hts, hlk, hK, hnm, rfl⟩ := C
  intro H locs ls hH hL hl
  obtain ⟨-, hci, -⟩ := cl_ok ci r hc
  exact va_castS hx hb ho (hts _ hw) (hK.K.1 ci r hc).2 (va_recv hK.K (HP.obj hH hk hci) hc (q0 := 0) rfl) hd (kk H locs ls hH hL hl)
theorem r_castN (C : Cx l g d mc ms own Post J) {idx : Nat} (hd : decode d.b pc = .ok (.checkcast idx, 3)) (kk : J (pc + 3) lv (vr none :: st) S kc ns) : J pc lv (vr none :: st) S kc ns := by
  obtain ⟨p, e, s, m, args, below, meth, c, hx, hb, hml, hr, ho, hts, hlk, hK, hnm, rfl⟩ := C
  intro H locs ls hH hL hl
  exact lv_castN hx hb hd (kk H locs ls hH hL hl)
/-- Object's constructor -/
theorem r_oinit (C : Cx l g d mc ms own Post J) {idx a : Nat} (hd : decode d.b pc = .ok (.invokespecial idx, 3)) (hw : Cond.methodLink own idx objectInit ∈ Wd) (h1 : 1 ≤ d.2.2.2.2.1) (h2 : ((st.map cv).map fun v => v.category).sum + 12 ≤ d.2.2.2.2.2) (kk : J (pc + 3) lv st S kc ns) : J pc lv (vr (some a) :: st) S kc ns := by
  obtain ⟨p, e, s, m, args, below, meth, c, hx, hb, hml, hr, ho, hts, hlk, hK, hnm, rfl⟩ := C
  intro H locs ls hH hL hl
  refine W.objInit (a := a) (rest := st.map cv) hx hb ho (hts _ hw) (hts _ (wd_at 35 (by decide +kernel) rfl)) (hts _ (wd_at 36 (by decide +kernel) rfl)) rfl (by rw [hml]; exact hl.1) rfl hd h1 (by simpa [JFrame.monitorRoom] using h2) ?_
  exact kk H locs ls hH hL hl
end CallRows
end
section
/-! Calls -/
section CallRows2
variable {l : Launch} {g : GG} {d : MD} {mc ms : Nat} {own : String} {Post : Option AV → hS → Prop} {J : JJ} {pc : Nat} {lv : List (Nat × AV)} {st stk : List AV} {S : hS} {kc ns : Nat}
theorem wd_good : ∀ w ∈ Wd, goodWord w = true := fun _ h => (List.mem_filter.mp h).2
theorem good_ws {d2 : MD} (h : Cond.code d2.y d2.b d2.l d2.r ∈ Wd) : GoodIn Wd (wsM d2) := fun w hw => by
  have hm : w ∈ Wd := (List.mem_cons.mp hw).elim (fun e => e ▸ h) (fun h => h)
  exact ⟨hm, good_of_word (wd_good w hm)⟩
/-- a method of an object that may be called: its words, how many arguments -/
def MI (d : MD) (n : Nat) : Prop := Cond.instanceMethod d.y ∈ Wd ∧ Cond.selects d.y.cls d.y d.y ∈ Wd ∧ Cond.initialized d.y.cls ∈ Wd ∧ Cond.code d.y d.b d.l d.r ∈ Wd ∧ (d.y.cls ≠ "java/lang/invoke/MethodHandle" ∧ d.y.cls ≠ "java/lang/invoke/VarHandle" ∧ (parseMethodDescriptor d.y.desc).map (fun d => d.parameters.length) = some n)
/-- a static one; a constructor -/
def MS (d : MD) (n : Nat) : Prop := Cond.static d.y ∈ Wd ∧ Cond.initialized d.y.cls ∈ Wd ∧ Cond.code d.y d.b d.l d.r ∈ Wd ∧ (d.y.cls ≠ "java/lang/invoke/MethodHandle" ∧ d.y.cls ≠ "java/lang/invoke/VarHandle" ∧ (parseMethodDescriptor d.y.desc).map (fun d => d.parameters.length) = some n)
def MC (d : MD) (n : Nat) : Prop := Cond.instanceMethod d.y ∈ Wd ∧ d.y.name = "<init>" ∧ d.r = none ∧ Cond.initialized d.y.cls ∈ Wd ∧ Cond.code d.y d.b d.l d.r ∈ Wd ∧ (d.y.cls ≠ "java/lang/invoke/MethodHandle" ∧ d.y.cls ≠ "java/lang/invoke/VarHandle" ∧ (parseMethodDescriptor d.y.desc).map (fun d => d.parameters.length) = some n)
theorem blind (S : hS) (av : List AV) : FrameBlind (va_Pc (av.map cv) (fun U => KK g U ∧ HP g S U.heap)) := fun a U gg mk h => ⟨h.1, h.2.1, h.2.2⟩
/-- what comes back from a call -/
theorem back {p : Program} {e : Env} {R : Room} {s : State} {m : MethodId} {args : Array Value} {below : List Frame} {meth : Method} {c : Code} {H : Heap} {locs : List Loc} {ls : Array Slot} {Q : State → Prop} {P2 : Option AV → hS → Prop} {mc2 ms2 : Nat} {a : Array Value} {st0 : List Value} (hK : KK g s) (hL : LO g locs)
    (hr : va_Run p l e R s m args below meth c H locs kc ns mc2 ms2 (F0 m pc ls st0) (st.map cv) (QQ g P2 a) (AA g))
    (kk : ∀ r S' H1 locs1, P2 r S' → HP g S' H1 → LO g locs1 → W p l e R s m args below meth c H1 locs1 (kc + mc2) (ns + ms2) Q (F0 m (pc + 3) ls ((r.toList ++ st).map cv))) : W p l e R s m args below meth c H locs kc ns Q (F0 m pc ls st0) := by
  intro T hT X
  obtain ⟨v, st₀, t, T', L, h0, X', hLL, e1, e2, ⟨r, S', hv, hp, hk, hH⟩, stp⟩ := hr T hT X
  cases hv
  obtain ⟨t2, a1, b1⟩ := kk r S' T'.heap (locs ++ L) hp (by rw [e1]; exact hH) (fun x hx => (List.mem_append.mp hx).elim (hL x) (hLL x)) T' rfl X'
  refine ⟨t2, stp t2 ?_, b1⟩
  have e : ((r.toList ++ st).map cv) = (r.map cv).toList ++ st.map cv := by cases r <;> simp
  rw [e] at a1
  exact a1
theorem r_callV (C : Cx l g d mc ms own Post J) {d2 : MD} {mc2 ms2 n idx ci a : Nat} {r : vw_C} {As : List AV} {P2 : Option AV → hS → Prop} (hs : Sp l g d2 mc2 ms2 (vr (some a) :: As) S P2) (hm : MI d2 n) (hw : Cond.methodLink own idx d2.y ∈ Wd) (hd : decode d.b pc = .ok (.invokevirtual idx, 3)) (hc : vwCl[ci]? = some r) (hC : d2.y.cls = r.1) (hk : sK S a = ci + 1) (hn : As.length = n)
    (hR : d2.2.2.2.2.1 + 1 ≤ d.2.2.2.2.1 ∧ 8 + (d2.l + 11) + d2.2.2.2.2.2 ≤ d.2.2.2.2.2) (hst : stk = As.reverse ++ vr (some a) :: st) (hW : ((st.map cv).map fun v => v.category).sum ≤ 8) (h1 : kc + mc2 ≤ mc) (h2 : ns + ms2 ≤ ms)
    (kk : ∀ r S', P2 r S' → J (pc + 3) lv (r.toList ++ st) S' (kc + mc2) (ns + ms2)) : J pc lv stk S kc ns := by
  obtain ⟨p, e, s, m, args, below, meth, c, hx, hb, hml, hr, ho, hts, hlk, hK, hnm, rfl⟩ := C
  intro H locs ls hH hL hl
  obtain ⟨-, hci, -⟩ := cl_ok ci r hc
  obtain ⟨w1, w2, w3, w4, w5⟩ := hm
  subst hst
  have cb : CallB (d.rm mc ms) s args own idx d2.y d2.b d2.l d2.r (wsM d2) (d2.rm mc2 ms2) mc2 ms2 n := callB_of n hts (good_ws w4) rfl rfl rfl (hts _ w3) (hts _ hw) w5 hR
  have hrecv := va_recv hK.K (HP.obj hH hk hci) hc (q0 := 0) rfl
  refine back hK hL (st := st) (va_runV (C := d2.y.cls) (b := a) (As := As.map cv) (rest := st.map cv) ⟨hx, hb, hml, ho, hts⟩ hs ⟨cb, hts _ w1, hts _ w2⟩ ⟨blind S _, ?_, ?_⟩ rfl ?_ hl.1 ?_ ?_ hd ⟨h1, h2⟩) ?_
  · obtain ⟨cell, q1, q2, q3⟩ := hrecv
    exact ⟨cell, q1, q2, by rw [hC]; exact q3⟩
  · intro U hU hWU
    exact ⟨rfl, KK.moved hWU hK, by rw [hU]; exact hH⟩
  · rw [List.length_map]; exact hn
  · show (As.reverse ++ vr (some a) :: st).map cv = (As.map cv).reverse ++ .ref a :: st.map cv
    simp [List.map_append, List.map_reverse]
    rfl
  · exact lv_room hW
  · intro r S' H1 locs1 hp hH1 hL1
    exact kk r S' hp H1 locs1 ls hH1 hL1 hl
theorem r_callS (C : Cx l g d mc ms own Post J) {d2 : MD} {mc2 ms2 n idx : Nat} {As : List AV} {P2 : Option AV → hS → Prop} (hs : Sp l g d2 mc2 ms2 As S P2) (hm : MS d2 n) (hw : Cond.methodLink own idx d2.y ∈ Wd) (hd : decode d.b pc = .ok (.invokestatic idx, 3)) (hn : As.length = n)
    (hR : d2.2.2.2.2.1 + 1 ≤ d.2.2.2.2.1 ∧ 8 + (d2.l + 11) + d2.2.2.2.2.2 ≤ d.2.2.2.2.2) (hst : stk = As.reverse ++ st) (hW : ((st.map cv).map fun v => v.category).sum ≤ 8) (h1 : kc + mc2 ≤ mc) (h2 : ns + ms2 ≤ ms)
    (kk : ∀ r S', P2 r S' → J (pc + 3) lv (r.toList ++ st) S' (kc + mc2) (ns + ms2)) : J pc lv stk S kc ns := by
  obtain ⟨p, e, s, m, args, below, meth, c, hx, hb, hml, hr, ho, hts, hlk, hK, hnm, rfl⟩ := C
  intro H locs ls hH hL hl
  obtain ⟨w1, w3, w4, w5⟩ := hm
  subst hst
  have cb : CallB (d.rm mc ms) s args own idx d2.y d2.b d2.l d2.r (wsM d2) (d2.rm mc2 ms2) mc2 ms2 n := callB_of n hts (good_ws w4) rfl rfl rfl (hts _ w3) (hts _ hw) w5 hR
  refine back hK hL (st := st) (va_runS (As := As.map cv) (rest := st.map cv) ⟨hx, hb, hml, ho, hts⟩ hs ⟨cb, hts _ w1⟩ ⟨blind S _, ?_⟩ rfl ?_ hl.1 ?_ ?_ hd ⟨h1, h2⟩) ?_
  · intro U hU hWU
    exact ⟨rfl, KK.moved hWU hK, by rw [hU]; exact hH⟩
  · rw [List.length_map]; exact hn
  · show (As.reverse ++ st).map cv = (As.map cv).reverse ++ st.map cv
    simp [List.map_append, List.map_reverse]
  · exact lv_room hW
  · intro r S' H1 locs1 hp hH1 hL1
    exact kk r S' hp H1 locs1 ls hH1 hL1 hl
theorem r_callI (C : Cx l g d mc ms own Post J) {d2 : MD} {mc2 ms2 n idx a : Nat} {As : List AV} {P2 : Option AV → hS → Prop} (hs : Sp l g d2 mc2 ms2 (vr (some a) :: As) S P2) (hm : MC d2 n) (hw : Cond.methodLink own idx d2.y ∈ Wd) (hd : decode d.b pc = .ok (.invokespecial idx, 3)) (hn : As.length = n)
    (hR : d2.2.2.2.2.1 + 1 ≤ d.2.2.2.2.1 ∧ 8 + (d2.l + 11) + d2.2.2.2.2.2 ≤ d.2.2.2.2.2) (hst : stk = As.reverse ++ vr (some a) :: st) (hW : ((st.map cv).map fun v => v.category).sum ≤ 8) (h1 : kc + mc2 ≤ mc) (h2 : ns + ms2 ≤ ms)
    (kk : ∀ r S', P2 r S' → J (pc + 3) lv (r.toList ++ st) S' (kc + mc2) (ns + ms2)) : J pc lv stk S kc ns := by
  obtain ⟨p, e, s, m, args, below, meth, c, hx, hb, hml, hr, ho, hts, hlk, hK, hnm, rfl⟩ := C
  intro H locs ls hH hL hl
  obtain ⟨w1, w2, w2b, w3, w4, w5⟩ := hm
  subst hst
  have cb : CallB (d.rm mc ms) s args own idx d2.y d2.b d2.l none (wsM d2) (d2.rm mc2 ms2) mc2 ms2 n := callB_of n hts (good_ws w4) (by rw [← w2b]; rfl) rfl rfl (hts _ w3) (hts _ hw) w5 hR
  refine back hK hL (st := st) (va_runI (b := a) (As := As.map cv) (rest := st.map cv) ⟨hx, hb, hml, ho, hts⟩ hs ⟨cb, w2, hts _ w1⟩ ⟨blind S _, ?_⟩ rfl ?_ hl.1 ?_ ?_ hd ⟨h1, h2⟩) ?_
  · intro U hU hWU
    exact ⟨rfl, KK.moved hWU hK, by rw [hU]; exact hH⟩
  · rw [List.length_map]; exact hn
  · show (As.reverse ++ vr (some a) :: st).map cv = (As.map cv).reverse ++ .ref a :: st.map cv
    simp [List.map_append, List.map_reverse]
    rfl
  · exact lv_room hW
  · intro r S' H1 locs1 hp hH1 hL1
    exact kk r S' hp H1 locs1 ls hH1 hL1 hl
end CallRows2
end
