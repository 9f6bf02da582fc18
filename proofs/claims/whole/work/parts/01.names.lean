-- ===== PART A: goes FIRST, ahead of the names: the tables' words, and 'selects' of the private methods out of them =====
/-- a private method of a class that the tables say can be made, by its rows of tables_1 -/
def lw_okq (q : MethodName × Nat) : Prop := (q.1.cls ≠ "java/lang/invoke/MethodHandle" ∧ q.1.cls ≠ "java/lang/invoke/VarHandle") ∧ Cond.instantiable q.1.cls q.2 ∈ tables_1 ∧ Cond.privateMethod q.1 ∈ tables_1 ∧ Cond.instanceMethod q.1 ∈ tables_1
theorem lw_p0 : lw_okq (⟨"java/util/ArrayList", "add", "(Ljava/lang/Object;[Ljava/lang/Object;I)V"⟩, 3) := ⟨⟨by decide +kernel, by decide +kernel⟩, List.mem_of_getElem? (i := 221) (by decide +kernel), List.mem_of_getElem? (i := 253) (by decide +kernel), List.mem_of_getElem? (i := 254) (by decide +kernel)⟩
theorem lw_p1 : lw_okq (⟨"java/util/ArrayList", "grow", "()[Ljava/lang/Object;"⟩, 3) := ⟨⟨by decide +kernel, by decide +kernel⟩, List.mem_of_getElem? (i := 221) (by decide +kernel), List.mem_of_getElem? (i := 257) (by decide +kernel), List.mem_of_getElem? (i := 258) (by decide +kernel)⟩
theorem lw_p2 : lw_okq (⟨"java/util/ArrayList", "grow", "(I)[Ljava/lang/Object;"⟩, 3) := ⟨⟨by decide +kernel, by decide +kernel⟩, List.mem_of_getElem? (i := 221) (by decide +kernel), List.mem_of_getElem? (i := 261) (by decide +kernel), List.mem_of_getElem? (i := 262) (by decide +kernel)⟩
theorem lw_p3 : lw_okq (⟨"NotYet$Ranks", "addClass", "()Z"⟩, 9) := ⟨⟨by decide +kernel, by decide +kernel⟩, List.mem_of_getElem? (i := 66) (by decide +kernel), List.mem_of_getElem? (i := 492) (by decide +kernel), List.mem_of_getElem? (i := 493) (by decide +kernel)⟩
theorem lw_p4 : lw_okq (⟨"NotYet$Ranks", "choose", "(II)V"⟩, 9) := ⟨⟨by decide +kernel, by decide +kernel⟩, List.mem_of_getElem? (i := 66) (by decide +kernel), List.mem_of_getElem? (i := 497) (by decide +kernel), List.mem_of_getElem? (i := 498) (by decide +kernel)⟩
theorem lw_p5 : lw_okq (⟨"NotYet$Waits", "gatherWorths", "()V"⟩, 4) := ⟨⟨by decide +kernel, by decide +kernel⟩, List.mem_of_getElem? (i := 100) (by decide +kernel), List.mem_of_getElem? (i := 538) (by decide +kernel), List.mem_of_getElem? (i := 539) (by decide +kernel)⟩
theorem lw_p6 : lw_okq (⟨"NotYet$Waits", "ahead", "(III)I"⟩, 4) := ⟨⟨by decide +kernel, by decide +kernel⟩, List.mem_of_getElem? (i := 100) (by decide +kernel), List.mem_of_getElem? (i := 548) (by decide +kernel), List.mem_of_getElem? (i := 549) (by decide +kernel)⟩
theorem lw_p7 : lw_okq (⟨"NotYet$Tape", "signAt", "(I)I"⟩, 6) := ⟨⟨by decide +kernel, by decide +kernel⟩, List.mem_of_getElem? (i := 119) (by decide +kernel), List.mem_of_getElem? (i := 614) (by decide +kernel), List.mem_of_getElem? (i := 615) (by decide +kernel)⟩
theorem lw_p8 : lw_okq (⟨"NotYet$Tape", "makeOne", "(II)I"⟩, 6) := ⟨⟨by decide +kernel, by decide +kernel⟩, List.mem_of_getElem? (i := 119) (by decide +kernel), List.mem_of_getElem? (i := 618) (by decide +kernel), List.mem_of_getElem? (i := 619) (by decide +kernel)⟩
theorem lw_p9 : lw_okq (⟨"NotYet$Tape", "makeWord", "(I)I"⟩, 6) := ⟨⟨by decide +kernel, by decide +kernel⟩, List.mem_of_getElem? (i := 119) (by decide +kernel), List.mem_of_getElem? (i := 625) (by decide +kernel), List.mem_of_getElem? (i := 626) (by decide +kernel)⟩
theorem lw_p10 : lw_okq (⟨"NotYet$Tape", "keyword", "(II)I"⟩, 6) := ⟨⟨by decide +kernel, by decide +kernel⟩, List.mem_of_getElem? (i := 119) (by decide +kernel), List.mem_of_getElem? (i := 629) (by decide +kernel), List.mem_of_getElem? (i := 630) (by decide +kernel)⟩
theorem lw_p11 : lw_okq (⟨"NotYet$Tape", "spells", "(III)Z"⟩, 6) := ⟨⟨by decide +kernel, by decide +kernel⟩, List.mem_of_getElem? (i := 119) (by decide +kernel), List.mem_of_getElem? (i := 682) (by decide +kernel), List.mem_of_getElem? (i := 683) (by decide +kernel)⟩
theorem lw_p12 : lw_okq (⟨"NotYet$Tape", "keep", "(III)V"⟩, 6) := ⟨⟨by decide +kernel, by decide +kernel⟩, List.mem_of_getElem? (i := 119) (by decide +kernel), List.mem_of_getElem? (i := 686) (by decide +kernel), List.mem_of_getElem? (i := 687) (by decide +kernel)⟩
theorem lw_p13 : lw_okq (⟨"NotYet$Tape", "makeNumber", "(I)I"⟩, 6) := ⟨⟨by decide +kernel, by decide +kernel⟩, List.mem_of_getElem? (i := 119) (by decide +kernel), List.mem_of_getElem? (i := 693) (by decide +kernel), List.mem_of_getElem? (i := 694) (by decide +kernel)⟩
theorem lw_p14 : lw_okq (⟨"NotYet$Reader", "readLine", "()V"⟩, 6) := ⟨⟨by decide +kernel, by decide +kernel⟩, List.mem_of_getElem? (i := 149) (by decide +kernel), List.mem_of_getElem? (i := 758) (by decide +kernel), List.mem_of_getElem? (i := 759) (by decide +kernel)⟩
theorem lw_p15 : lw_okq (⟨"NotYet$Reader", "blame", "(I)V"⟩, 6) := ⟨⟨by decide +kernel, by decide +kernel⟩, List.mem_of_getElem? (i := 149) (by decide +kernel), List.mem_of_getElem? (i := 762) (by decide +kernel), List.mem_of_getElem? (i := 763) (by decide +kernel)⟩
def lw_privs_1 : List (MethodName × Nat) := [(⟨"java/util/ArrayList", "add", "(Ljava/lang/Object;[Ljava/lang/Object;I)V"⟩, 3), (⟨"java/util/ArrayList", "grow", "()[Ljava/lang/Object;"⟩, 3), (⟨"java/util/ArrayList", "grow", "(I)[Ljava/lang/Object;"⟩, 3), (⟨"NotYet$Ranks", "addClass", "()Z"⟩, 9), (⟨"NotYet$Ranks", "choose", "(II)V"⟩, 9), (⟨"NotYet$Waits", "gatherWorths", "()V"⟩, 4), (⟨"NotYet$Waits", "ahead", "(III)I"⟩, 4), (⟨"NotYet$Tape", "signAt", "(I)I"⟩, 6), (⟨"NotYet$Tape", "makeOne", "(II)I"⟩, 6), (⟨"NotYet$Tape", "makeWord", "(I)I"⟩, 6), (⟨"NotYet$Tape", "keyword", "(II)I"⟩, 6), (⟨"NotYet$Tape", "spells", "(III)Z"⟩, 6), (⟨"NotYet$Tape", "keep", "(III)V"⟩, 6), (⟨"NotYet$Tape", "makeNumber", "(I)I"⟩, 6), (⟨"NotYet$Reader", "readLine", "()V"⟩, 6), (⟨"NotYet$Reader", "blame", "(I)V"⟩, 6)]
theorem lw_r1 : ∀ q ∈ lw_privs_1, lw_okq q := List.forall_mem_cons.mpr ⟨lw_p0, List.forall_mem_cons.mpr ⟨lw_p1, List.forall_mem_cons.mpr ⟨lw_p2, List.forall_mem_cons.mpr ⟨lw_p3, List.forall_mem_cons.mpr ⟨lw_p4, List.forall_mem_cons.mpr ⟨lw_p5, List.forall_mem_cons.mpr ⟨lw_p6, List.forall_mem_cons.mpr ⟨lw_p7, List.forall_mem_cons.mpr ⟨lw_p8, List.forall_mem_cons.mpr ⟨lw_p9, List.forall_mem_cons.mpr ⟨lw_p10, List.forall_mem_cons.mpr ⟨lw_p11, List.forall_mem_cons.mpr ⟨lw_p12, List.forall_mem_cons.mpr ⟨lw_p13, List.forall_mem_cons.mpr ⟨lw_p14, List.forall_mem_cons.mpr ⟨lw_p15, fun _ h => absurd h List.not_mem_nil⟩⟩⟩⟩⟩⟩⟩⟩⟩⟩⟩⟩⟩⟩⟩⟩
theorem lw_p16 : lw_okq (⟨"NotYet$Reader", "step", "()V"⟩, 6) := ⟨⟨by decide +kernel, by decide +kernel⟩, List.mem_of_getElem? (i := 149) (by decide +kernel), List.mem_of_getElem? (i := 774) (by decide +kernel), List.mem_of_getElem? (i := 775) (by decide +kernel)⟩
theorem lw_p17 : lw_okq (⟨"NotYet$Reader", "readSum", "()V"⟩, 6) := ⟨⟨by decide +kernel, by decide +kernel⟩, List.mem_of_getElem? (i := 149) (by decide +kernel), List.mem_of_getElem? (i := 778) (by decide +kernel), List.mem_of_getElem? (i := 779) (by decide +kernel)⟩
theorem lw_p18 : lw_okq (⟨"NotYet$Reader", "readUnit", "()V"⟩, 6) := ⟨⟨by decide +kernel, by decide +kernel⟩, List.mem_of_getElem? (i := 149) (by decide +kernel), List.mem_of_getElem? (i := 782) (by decide +kernel), List.mem_of_getElem? (i := 783) (by decide +kernel)⟩
theorem lw_p19 : lw_okq (⟨"NotYet$Reader", "readDivisor", "()V"⟩, 6) := ⟨⟨by decide +kernel, by decide +kernel⟩, List.mem_of_getElem? (i := 149) (by decide +kernel), List.mem_of_getElem? (i := 794) (by decide +kernel), List.mem_of_getElem? (i := 795) (by decide +kernel)⟩
theorem lw_p20 : lw_okq (⟨"NotYet$Reader", "readEither", "(I)V"⟩, 6) := ⟨⟨by decide +kernel, by decide +kernel⟩, List.mem_of_getElem? (i := 149) (by decide +kernel), List.mem_of_getElem? (i := 802) (by decide +kernel), List.mem_of_getElem? (i := 803) (by decide +kernel)⟩
theorem lw_p21 : lw_okq (⟨"NotYet$Reader", "readClaim", "(I)V"⟩, 6) := ⟨⟨by decide +kernel, by decide +kernel⟩, List.mem_of_getElem? (i := 149) (by decide +kernel), List.mem_of_getElem? (i := 806) (by decide +kernel), List.mem_of_getElem? (i := 807) (by decide +kernel)⟩
theorem lw_p22 : lw_okq (⟨"NotYet$Reader", "comparison", "()I"⟩, 6) := ⟨⟨by decide +kernel, by decide +kernel⟩, List.mem_of_getElem? (i := 149) (by decide +kernel), List.mem_of_getElem? (i := 810) (by decide +kernel), List.mem_of_getElem? (i := 811) (by decide +kernel)⟩
theorem lw_p23 : lw_okq (⟨"NotYet$Folk", "lookAgain", "(LNotYet$Person;LNotYet$Person;)V"⟩, 7) := ⟨⟨by decide +kernel, by decide +kernel⟩, List.mem_of_getElem? (i := 202) (by decide +kernel), List.mem_of_getElem? (i := 933) (by decide +kernel), List.mem_of_getElem? (i := 934) (by decide +kernel)⟩
theorem lw_p24 : lw_okq (⟨"NotYet$Folk", "worthFor", "(LNotYet$Person;LNotYet$Person;)I"⟩, 7) := ⟨⟨by decide +kernel, by decide +kernel⟩, List.mem_of_getElem? (i := 202) (by decide +kernel), List.mem_of_getElem? (i := 938) (by decide +kernel), List.mem_of_getElem? (i := 939) (by decide +kernel)⟩
theorem lw_p25 : lw_okq (⟨"NotYet$Folk", "goOut", "(LNotYet$Person;)V"⟩, 7) := ⟨⟨by decide +kernel, by decide +kernel⟩, List.mem_of_getElem? (i := 202) (by decide +kernel), List.mem_of_getElem? (i := 951) (by decide +kernel), List.mem_of_getElem? (i := 952) (by decide +kernel)⟩
theorem lw_p26 : lw_okq (⟨"NotYet$Folk", "draw", "(I)I"⟩, 7) := ⟨⟨by decide +kernel, by decide +kernel⟩, List.mem_of_getElem? (i := 202) (by decide +kernel), List.mem_of_getElem? (i := 958) (by decide +kernel), List.mem_of_getElem? (i := 959) (by decide +kernel)⟩
theorem lw_p27 : lw_okq (⟨"NotYet$Folk", "meet", "(LNotYet$Person;LNotYet$Person;)V"⟩, 7) := ⟨⟨by decide +kernel, by decide +kernel⟩, List.mem_of_getElem? (i := 202) (by decide +kernel), List.mem_of_getElem? (i := 964) (by decide +kernel), List.mem_of_getElem? (i := 965) (by decide +kernel)⟩
theorem lw_p28 : lw_okq (⟨"NotYet$Folk", "error", "()I"⟩, 7) := ⟨⟨by decide +kernel, by decide +kernel⟩, List.mem_of_getElem? (i := 202) (by decide +kernel), List.mem_of_getElem? (i := 968) (by decide +kernel), List.mem_of_getElem? (i := 969) (by decide +kernel)⟩
theorem lw_p29 : lw_okq (⟨"NotYet$Folk", "takeOf", "(LNotYet$Person;)I"⟩, 7) := ⟨⟨by decide +kernel, by decide +kernel⟩, List.mem_of_getElem? (i := 202) (by decide +kernel), List.mem_of_getElem? (i := 972) (by decide +kernel), List.mem_of_getElem? (i := 973) (by decide +kernel)⟩
theorem lw_p30 : lw_okq (⟨"NotYet$Folk", "learn", "(LNotYet$Person;)V"⟩, 7) := ⟨⟨by decide +kernel, by decide +kernel⟩, List.mem_of_getElem? (i := 202) (by decide +kernel), List.mem_of_getElem? (i := 976) (by decide +kernel), List.mem_of_getElem? (i := 977) (by decide +kernel)⟩
theorem lw_p31 : lw_okq (⟨"NotYet$Judge", "run", "(LNotYet$Way;II)I"⟩, 2) := ⟨⟨by decide +kernel, by decide +kernel⟩, List.mem_of_getElem? (i := 208) (by decide +kernel), List.mem_of_getElem? (i := 1008) (by decide +kernel), List.mem_of_getElem? (i := 1009) (by decide +kernel)⟩
def lw_privs_2 : List (MethodName × Nat) := [(⟨"NotYet$Reader", "step", "()V"⟩, 6), (⟨"NotYet$Reader", "readSum", "()V"⟩, 6), (⟨"NotYet$Reader", "readUnit", "()V"⟩, 6), (⟨"NotYet$Reader", "readDivisor", "()V"⟩, 6), (⟨"NotYet$Reader", "readEither", "(I)V"⟩, 6), (⟨"NotYet$Reader", "readClaim", "(I)V"⟩, 6), (⟨"NotYet$Reader", "comparison", "()I"⟩, 6), (⟨"NotYet$Folk", "lookAgain", "(LNotYet$Person;LNotYet$Person;)V"⟩, 7), (⟨"NotYet$Folk", "worthFor", "(LNotYet$Person;LNotYet$Person;)I"⟩, 7), (⟨"NotYet$Folk", "goOut", "(LNotYet$Person;)V"⟩, 7), (⟨"NotYet$Folk", "draw", "(I)I"⟩, 7), (⟨"NotYet$Folk", "meet", "(LNotYet$Person;LNotYet$Person;)V"⟩, 7), (⟨"NotYet$Folk", "error", "()I"⟩, 7), (⟨"NotYet$Folk", "takeOf", "(LNotYet$Person;)I"⟩, 7), (⟨"NotYet$Folk", "learn", "(LNotYet$Person;)V"⟩, 7), (⟨"NotYet$Judge", "run", "(LNotYet$Way;II)I"⟩, 2)]
theorem lw_r2 : ∀ q ∈ lw_privs_2, lw_okq q := List.forall_mem_cons.mpr ⟨lw_p16, List.forall_mem_cons.mpr ⟨lw_p17, List.forall_mem_cons.mpr ⟨lw_p18, List.forall_mem_cons.mpr ⟨lw_p19, List.forall_mem_cons.mpr ⟨lw_p20, List.forall_mem_cons.mpr ⟨lw_p21, List.forall_mem_cons.mpr ⟨lw_p22, List.forall_mem_cons.mpr ⟨lw_p23, List.forall_mem_cons.mpr ⟨lw_p24, List.forall_mem_cons.mpr ⟨lw_p25, List.forall_mem_cons.mpr ⟨lw_p26, List.forall_mem_cons.mpr ⟨lw_p27, List.forall_mem_cons.mpr ⟨lw_p28, List.forall_mem_cons.mpr ⟨lw_p29, List.forall_mem_cons.mpr ⟨lw_p30, List.forall_mem_cons.mpr ⟨lw_p31, fun _ h => absurd h List.not_mem_nil⟩⟩⟩⟩⟩⟩⟩⟩⟩⟩⟩⟩⟩⟩⟩⟩
theorem lw_p32 : lw_okq (⟨"NotYet$Folk", "isTempted", "(LNotYet$Person;LNotYet$Person;I)Z"⟩, 7) := ⟨⟨by decide +kernel, by decide +kernel⟩, List.mem_of_getElem? (i := 202) (by decide +kernel), List.mem_of_getElem? (i := 1027) (by decide +kernel), List.mem_of_getElem? (i := 1028) (by decide +kernel)⟩
theorem lw_p33 : lw_okq (⟨"NotYet$Folk", "leaveOf", "(LNotYet$Person;)I"⟩, 7) := ⟨⟨by decide +kernel, by decide +kernel⟩, List.mem_of_getElem? (i := 202) (by decide +kernel), List.mem_of_getElem? (i := 1048) (by decide +kernel), List.mem_of_getElem? (i := 1049) (by decide +kernel)⟩
theorem lw_p34 : lw_okq (⟨"NotYet$Feast", "seat", "(II)V"⟩, 11) := ⟨⟨by decide +kernel, by decide +kernel⟩, List.mem_of_getElem? (i := 332) (by decide +kernel), List.mem_of_getElem? (i := 1104) (by decide +kernel), List.mem_of_getElem? (i := 1105) (by decide +kernel)⟩
theorem lw_p35 : lw_okq (⟨"NotYet$Feast", "keepSeats", "()V"⟩, 11) := ⟨⟨by decide +kernel, by decide +kernel⟩, List.mem_of_getElem? (i := 332) (by decide +kernel), List.mem_of_getElem? (i := 1108) (by decide +kernel), List.mem_of_getElem? (i := 1109) (by decide +kernel)⟩
theorem lw_p36 : lw_okq (⟨"NotYet$Feast", "isQuiet", "(II)Z"⟩, 11) := ⟨⟨by decide +kernel, by decide +kernel⟩, List.mem_of_getElem? (i := 332) (by decide +kernel), List.mem_of_getElem? (i := 1122) (by decide +kernel), List.mem_of_getElem? (i := 1123) (by decide +kernel)⟩
theorem lw_p37 : lw_okq (⟨"NotYet$Feast", "likesMore", "(IIII)Z"⟩, 11) := ⟨⟨by decide +kernel, by decide +kernel⟩, List.mem_of_getElem? (i := 332) (by decide +kernel), List.mem_of_getElem? (i := 1126) (by decide +kernel), List.mem_of_getElem? (i := 1127) (by decide +kernel)⟩
theorem lw_p38 : lw_okq (⟨"NotYet$Feast", "findBests", "()V"⟩, 11) := ⟨⟨by decide +kernel, by decide +kernel⟩, List.mem_of_getElem? (i := 332) (by decide +kernel), List.mem_of_getElem? (i := 1134) (by decide +kernel), List.mem_of_getElem? (i := 1135) (by decide +kernel)⟩
theorem lw_p39 : lw_okq (⟨"NotYet$Feast", "rankSum", "(II)I"⟩, 11) := ⟨⟨by decide +kernel, by decide +kernel⟩, List.mem_of_getElem? (i := 332) (by decide +kernel), List.mem_of_getElem? (i := 1138) (by decide +kernel), List.mem_of_getElem? (i := 1139) (by decide +kernel)⟩
theorem lw_p40 : lw_okq (⟨"NotYet$Feast", "findMost", "()V"⟩, 11) := ⟨⟨by decide +kernel, by decide +kernel⟩, List.mem_of_getElem? (i := 332) (by decide +kernel), List.mem_of_getElem? (i := 1155) (by decide +kernel), List.mem_of_getElem? (i := 1156) (by decide +kernel)⟩
theorem lw_p41 : lw_okq (⟨"NotYet$Feast", "firstOfMost", "(II)I"⟩, 11) := ⟨⟨by decide +kernel, by decide +kernel⟩, List.mem_of_getElem? (i := 332) (by decide +kernel), List.mem_of_getElem? (i := 1165) (by decide +kernel), List.mem_of_getElem? (i := 1166) (by decide +kernel)⟩
theorem lw_p42 : lw_okq (⟨"NotYet$Purse", "left", "(II)I"⟩, 3) := ⟨⟨by decide +kernel, by decide +kernel⟩, List.mem_of_getElem? (i := 372) (by decide +kernel), List.mem_of_getElem? (i := 1220) (by decide +kernel), List.mem_of_getElem? (i := 1221) (by decide +kernel)⟩
theorem lw_p43 : lw_okq (⟨"NotYet$Purse", "pushUp", "(II)V"⟩, 3) := ⟨⟨by decide +kernel, by decide +kernel⟩, List.mem_of_getElem? (i := 372) (by decide +kernel), List.mem_of_getElem? (i := 1234) (by decide +kernel), List.mem_of_getElem? (i := 1235) (by decide +kernel)⟩
theorem lw_p44 : lw_okq (⟨"NotYetModel", "isSide", "(I)Z"⟩, 74) := ⟨⟨by decide +kernel, by decide +kernel⟩, List.mem_of_getElem? (i := 1239) (by decide +kernel), List.mem_of_getElem? (i := 1474) (by decide +kernel), List.mem_of_getElem? (i := 1475) (by decide +kernel)⟩
theorem lw_p45 : lw_okq (⟨"NotYetModel", "isIn", "(III)Z"⟩, 74) := ⟨⟨by decide +kernel, by decide +kernel⟩, List.mem_of_getElem? (i := 1239) (by decide +kernel), List.mem_of_getElem? (i := 1478) (by decide +kernel), List.mem_of_getElem? (i := 1479) (by decide +kernel)⟩
theorem lw_p46 : lw_okq (⟨"NotYetModel", "isSort", "(II)Z"⟩, 74) := ⟨⟨by decide +kernel, by decide +kernel⟩, List.mem_of_getElem? (i := 1239) (by decide +kernel), List.mem_of_getElem? (i := 1486) (by decide +kernel), List.mem_of_getElem? (i := 1487) (by decide +kernel)⟩
theorem lw_p47 : lw_okq (⟨"NotYetModel", "areFalling", "()Z"⟩, 74) := ⟨⟨by decide +kernel, by decide +kernel⟩, List.mem_of_getElem? (i := 1239) (by decide +kernel), List.mem_of_getElem? (i := 1503) (by decide +kernel), List.mem_of_getElem? (i := 1504) (by decide +kernel)⟩
def lw_privs_3 : List (MethodName × Nat) := [(⟨"NotYet$Folk", "isTempted", "(LNotYet$Person;LNotYet$Person;I)Z"⟩, 7), (⟨"NotYet$Folk", "leaveOf", "(LNotYet$Person;)I"⟩, 7), (⟨"NotYet$Feast", "seat", "(II)V"⟩, 11), (⟨"NotYet$Feast", "keepSeats", "()V"⟩, 11), (⟨"NotYet$Feast", "isQuiet", "(II)Z"⟩, 11), (⟨"NotYet$Feast", "likesMore", "(IIII)Z"⟩, 11), (⟨"NotYet$Feast", "findBests", "()V"⟩, 11), (⟨"NotYet$Feast", "rankSum", "(II)I"⟩, 11), (⟨"NotYet$Feast", "findMost", "()V"⟩, 11), (⟨"NotYet$Feast", "firstOfMost", "(II)I"⟩, 11), (⟨"NotYet$Purse", "left", "(II)I"⟩, 3), (⟨"NotYet$Purse", "pushUp", "(II)V"⟩, 3), (⟨"NotYetModel", "isSide", "(I)Z"⟩, 74), (⟨"NotYetModel", "isIn", "(III)Z"⟩, 74), (⟨"NotYetModel", "isSort", "(II)Z"⟩, 74), (⟨"NotYetModel", "areFalling", "()Z"⟩, 74)]
theorem lw_r3 : ∀ q ∈ lw_privs_3, lw_okq q := List.forall_mem_cons.mpr ⟨lw_p32, List.forall_mem_cons.mpr ⟨lw_p33, List.forall_mem_cons.mpr ⟨lw_p34, List.forall_mem_cons.mpr ⟨lw_p35, List.forall_mem_cons.mpr ⟨lw_p36, List.forall_mem_cons.mpr ⟨lw_p37, List.forall_mem_cons.mpr ⟨lw_p38, List.forall_mem_cons.mpr ⟨lw_p39, List.forall_mem_cons.mpr ⟨lw_p40, List.forall_mem_cons.mpr ⟨lw_p41, List.forall_mem_cons.mpr ⟨lw_p42, List.forall_mem_cons.mpr ⟨lw_p43, List.forall_mem_cons.mpr ⟨lw_p44, List.forall_mem_cons.mpr ⟨lw_p45, List.forall_mem_cons.mpr ⟨lw_p46, List.forall_mem_cons.mpr ⟨lw_p47, fun _ h => absurd h List.not_mem_nil⟩⟩⟩⟩⟩⟩⟩⟩⟩⟩⟩⟩⟩⟩⟩⟩
theorem lw_p48 : lw_okq (⟨"NotYetModel", "findsClasses", "()V"⟩, 74) := ⟨⟨by decide +kernel, by decide +kernel⟩, List.mem_of_getElem? (i := 1239) (by decide +kernel), List.mem_of_getElem? (i := 1507) (by decide +kernel), List.mem_of_getElem? (i := 1508) (by decide +kernel)⟩
theorem lw_p49 : lw_okq (⟨"NotYetModel", "barFrom", "(II)I"⟩, 74) := ⟨⟨by decide +kernel, by decide +kernel⟩, List.mem_of_getElem? (i := 1239) (by decide +kernel), List.mem_of_getElem? (i := 1511) (by decide +kernel), List.mem_of_getElem? (i := 1512) (by decide +kernel)⟩
theorem lw_p50 : lw_okq (⟨"NotYetModel", "findsWaits", "()V"⟩, 74) := ⟨⟨by decide +kernel, by decide +kernel⟩, List.mem_of_getElem? (i := 1239) (by decide +kernel), List.mem_of_getElem? (i := 1519) (by decide +kernel), List.mem_of_getElem? (i := 1520) (by decide +kernel)⟩
theorem lw_p51 : lw_okq (⟨"NotYetModel", "waitAhead", "(III)I"⟩, 74) := ⟨⟨by decide +kernel, by decide +kernel⟩, List.mem_of_getElem? (i := 1239) (by decide +kernel), List.mem_of_getElem? (i := 1523) (by decide +kernel), List.mem_of_getElem? (i := 1524) (by decide +kernel)⟩
theorem lw_p52 : lw_okq (⟨"NotYetModel", "takes", "(IIII)Z"⟩, 74) := ⟨⟨by decide +kernel, by decide +kernel⟩, List.mem_of_getElem? (i := 1239) (by decide +kernel), List.mem_of_getElem? (i := 1527) (by decide +kernel), List.mem_of_getElem? (i := 1528) (by decide +kernel)⟩
theorem lw_p53 : lw_okq (⟨"NotYetModel", "worthTo", "(III)I"⟩, 74) := ⟨⟨by decide +kernel, by decide +kernel⟩, List.mem_of_getElem? (i := 1239) (by decide +kernel), List.mem_of_getElem? (i := 1531) (by decide +kernel), List.mem_of_getElem? (i := 1532) (by decide +kernel)⟩
theorem lw_p54 : lw_okq (⟨"NotYetModel", "waitOf", "(III)I"⟩, 74) := ⟨⟨by decide +kernel, by decide +kernel⟩, List.mem_of_getElem? (i := 1239) (by decide +kernel), List.mem_of_getElem? (i := 1535) (by decide +kernel), List.mem_of_getElem? (i := 1536) (by decide +kernel)⟩
theorem lw_p55 : lw_okq (⟨"NotYetModel", "puts", "(I)V"⟩, 74) := ⟨⟨by decide +kernel, by decide +kernel⟩, List.mem_of_getElem? (i := 1239) (by decide +kernel), List.mem_of_getElem? (i := 1547) (by decide +kernel), List.mem_of_getElem? (i := 1548) (by decide +kernel)⟩
theorem lw_p56 : lw_okq (⟨"NotYetModel", "readWay", "()I"⟩, 74) := ⟨⟨by decide +kernel, by decide +kernel⟩, List.mem_of_getElem? (i := 1239) (by decide +kernel), List.mem_of_getElem? (i := 1559) (by decide +kernel), List.mem_of_getElem? (i := 1560) (by decide +kernel)⟩
theorem lw_p57 : lw_okq (⟨"NotYetModel", "reads", "()V"⟩, 74) := ⟨⟨by decide +kernel, by decide +kernel⟩, List.mem_of_getElem? (i := 1239) (by decide +kernel), List.mem_of_getElem? (i := 1563) (by decide +kernel), List.mem_of_getElem? (i := 1564) (by decide +kernel)⟩
theorem lw_p58 : lw_okq (⟨"NotYetModel", "raw", "(I)I"⟩, 74) := ⟨⟨by decide +kernel, by decide +kernel⟩, List.mem_of_getElem? (i := 1239) (by decide +kernel), List.mem_of_getElem? (i := 1567) (by decide +kernel), List.mem_of_getElem? (i := 1568) (by decide +kernel)⟩
theorem lw_p59 : lw_okq (⟨"NotYetModel", "isLetter", "(I)Z"⟩, 74) := ⟨⟨by decide +kernel, by decide +kernel⟩, List.mem_of_getElem? (i := 1239) (by decide +kernel), List.mem_of_getElem? (i := 1571) (by decide +kernel), List.mem_of_getElem? (i := 1572) (by decide +kernel)⟩
theorem lw_p60 : lw_okq (⟨"NotYetModel", "wordAt", "(II)I"⟩, 74) := ⟨⟨by decide +kernel, by decide +kernel⟩, List.mem_of_getElem? (i := 1239) (by decide +kernel), List.mem_of_getElem? (i := 1575) (by decide +kernel), List.mem_of_getElem? (i := 1576) (by decide +kernel)⟩
theorem lw_p61 : lw_okq (⟨"NotYetModel", "isDigit", "(I)Z"⟩, 74) := ⟨⟨by decide +kernel, by decide +kernel⟩, List.mem_of_getElem? (i := 1239) (by decide +kernel), List.mem_of_getElem? (i := 1579) (by decide +kernel), List.mem_of_getElem? (i := 1580) (by decide +kernel)⟩
theorem lw_p62 : lw_okq (⟨"NotYetModel", "isMarkSign", "(I)Z"⟩, 74) := ⟨⟨by decide +kernel, by decide +kernel⟩, List.mem_of_getElem? (i := 1239) (by decide +kernel), List.mem_of_getElem? (i := 1583) (by decide +kernel), List.mem_of_getElem? (i := 1584) (by decide +kernel)⟩
theorem lw_p63 : lw_okq (⟨"NotYetModel", "isWord", "(I)Z"⟩, 74) := ⟨⟨by decide +kernel, by decide +kernel⟩, List.mem_of_getElem? (i := 1239) (by decide +kernel), List.mem_of_getElem? (i := 1587) (by decide +kernel), List.mem_of_getElem? (i := 1588) (by decide +kernel)⟩
def lw_privs_4 : List (MethodName × Nat) := [(⟨"NotYetModel", "findsClasses", "()V"⟩, 74), (⟨"NotYetModel", "barFrom", "(II)I"⟩, 74), (⟨"NotYetModel", "findsWaits", "()V"⟩, 74), (⟨"NotYetModel", "waitAhead", "(III)I"⟩, 74), (⟨"NotYetModel", "takes", "(IIII)Z"⟩, 74), (⟨"NotYetModel", "worthTo", "(III)I"⟩, 74), (⟨"NotYetModel", "waitOf", "(III)I"⟩, 74), (⟨"NotYetModel", "puts", "(I)V"⟩, 74), (⟨"NotYetModel", "readWay", "()I"⟩, 74), (⟨"NotYetModel", "reads", "()V"⟩, 74), (⟨"NotYetModel", "raw", "(I)I"⟩, 74), (⟨"NotYetModel", "isLetter", "(I)Z"⟩, 74), (⟨"NotYetModel", "wordAt", "(II)I"⟩, 74), (⟨"NotYetModel", "isDigit", "(I)Z"⟩, 74), (⟨"NotYetModel", "isMarkSign", "(I)Z"⟩, 74), (⟨"NotYetModel", "isWord", "(I)Z"⟩, 74)]
theorem lw_r4 : ∀ q ∈ lw_privs_4, lw_okq q := List.forall_mem_cons.mpr ⟨lw_p48, List.forall_mem_cons.mpr ⟨lw_p49, List.forall_mem_cons.mpr ⟨lw_p50, List.forall_mem_cons.mpr ⟨lw_p51, List.forall_mem_cons.mpr ⟨lw_p52, List.forall_mem_cons.mpr ⟨lw_p53, List.forall_mem_cons.mpr ⟨lw_p54, List.forall_mem_cons.mpr ⟨lw_p55, List.forall_mem_cons.mpr ⟨lw_p56, List.forall_mem_cons.mpr ⟨lw_p57, List.forall_mem_cons.mpr ⟨lw_p58, List.forall_mem_cons.mpr ⟨lw_p59, List.forall_mem_cons.mpr ⟨lw_p60, List.forall_mem_cons.mpr ⟨lw_p61, List.forall_mem_cons.mpr ⟨lw_p62, List.forall_mem_cons.mpr ⟨lw_p63, fun _ h => absurd h List.not_mem_nil⟩⟩⟩⟩⟩⟩⟩⟩⟩⟩⟩⟩⟩⟩⟩⟩
theorem lw_p64 : lw_okq (⟨"NotYetModel", "fails", "(I)I"⟩, 74) := ⟨⟨by decide +kernel, by decide +kernel⟩, List.mem_of_getElem? (i := 1239) (by decide +kernel), List.mem_of_getElem? (i := 1591) (by decide +kernel), List.mem_of_getElem? (i := 1592) (by decide +kernel)⟩
theorem lw_p65 : lw_okq (⟨"NotYetModel", "readLine", "(I)I"⟩, 74) := ⟨⟨by decide +kernel, by decide +kernel⟩, List.mem_of_getElem? (i := 1239) (by decide +kernel), List.mem_of_getElem? (i := 1595) (by decide +kernel), List.mem_of_getElem? (i := 1596) (by decide +kernel)⟩
theorem lw_p66 : lw_okq (⟨"NotYetModel", "readSum", "()I"⟩, 74) := ⟨⟨by decide +kernel, by decide +kernel⟩, List.mem_of_getElem? (i := 1239) (by decide +kernel), List.mem_of_getElem? (i := 1599) (by decide +kernel), List.mem_of_getElem? (i := 1600) (by decide +kernel)⟩
theorem lw_p67 : lw_okq (⟨"NotYetModel", "readProduct", "()I"⟩, 74) := ⟨⟨by decide +kernel, by decide +kernel⟩, List.mem_of_getElem? (i := 1239) (by decide +kernel), List.mem_of_getElem? (i := 1603) (by decide +kernel), List.mem_of_getElem? (i := 1604) (by decide +kernel)⟩
theorem lw_p68 : lw_okq (⟨"NotYetModel", "readUnit", "()I"⟩, 74) := ⟨⟨by decide +kernel, by decide +kernel⟩, List.mem_of_getElem? (i := 1239) (by decide +kernel), List.mem_of_getElem? (i := 1607) (by decide +kernel), List.mem_of_getElem? (i := 1608) (by decide +kernel)⟩
theorem lw_p69 : lw_okq (⟨"NotYetModel", "emits", "(II)V"⟩, 74) := ⟨⟨by decide +kernel, by decide +kernel⟩, List.mem_of_getElem? (i := 1239) (by decide +kernel), List.mem_of_getElem? (i := 1611) (by decide +kernel), List.mem_of_getElem? (i := 1612) (by decide +kernel)⟩
theorem lw_p70 : lw_okq (⟨"NotYetModel", "isSign", "(I)Z"⟩, 74) := ⟨⟨by decide +kernel, by decide +kernel⟩, List.mem_of_getElem? (i := 1239) (by decide +kernel), List.mem_of_getElem? (i := 1615) (by decide +kernel), List.mem_of_getElem? (i := 1616) (by decide +kernel)⟩
theorem lw_p71 : lw_okq (⟨"NotYetModel", "readAny", "()I"⟩, 74) := ⟨⟨by decide +kernel, by decide +kernel⟩, List.mem_of_getElem? (i := 1239) (by decide +kernel), List.mem_of_getElem? (i := 1619) (by decide +kernel), List.mem_of_getElem? (i := 1620) (by decide +kernel)⟩
theorem lw_p72 : lw_okq (⟨"NotYetModel", "waitsFor", "(I)V"⟩, 74) := ⟨⟨by decide +kernel, by decide +kernel⟩, List.mem_of_getElem? (i := 1239) (by decide +kernel), List.mem_of_getElem? (i := 1623) (by decide +kernel), List.mem_of_getElem? (i := 1624) (by decide +kernel)⟩
theorem lw_p73 : lw_okq (⟨"NotYetModel", "readCompared", "()I"⟩, 74) := ⟨⟨by decide +kernel, by decide +kernel⟩, List.mem_of_getElem? (i := 1239) (by decide +kernel), List.mem_of_getElem? (i := 1627) (by decide +kernel), List.mem_of_getElem? (i := 1628) (by decide +kernel)⟩
theorem lw_p74 : lw_okq (⟨"NotYetModel", "settles", "(I)V"⟩, 74) := ⟨⟨by decide +kernel, by decide +kernel⟩, List.mem_of_getElem? (i := 1239) (by decide +kernel), List.mem_of_getElem? (i := 1631) (by decide +kernel), List.mem_of_getElem? (i := 1632) (by decide +kernel)⟩
theorem lw_p75 : lw_okq (⟨"NotYetModel", "goesBy", "()V"⟩, 74) := ⟨⟨by decide +kernel, by decide +kernel⟩, List.mem_of_getElem? (i := 1239) (by decide +kernel), List.mem_of_getElem? (i := 1651) (by decide +kernel), List.mem_of_getElem? (i := 1652) (by decide +kernel)⟩
theorem lw_p76 : lw_okq (⟨"NotYetModel", "looksAgain", "()V"⟩, 74) := ⟨⟨by decide +kernel, by decide +kernel⟩, List.mem_of_getElem? (i := 1239) (by decide +kernel), List.mem_of_getElem? (i := 1655) (by decide +kernel), List.mem_of_getElem? (i := 1656) (by decide +kernel)⟩
theorem lw_p77 : lw_okq (⟨"NotYetModel", "worthFor", "(II)I"⟩, 74) := ⟨⟨by decide +kernel, by decide +kernel⟩, List.mem_of_getElem? (i := 1239) (by decide +kernel), List.mem_of_getElem? (i := 1659) (by decide +kernel), List.mem_of_getElem? (i := 1660) (by decide +kernel)⟩
theorem lw_p78 : lw_okq (⟨"NotYetModel", "frees", "(I)V"⟩, 74) := ⟨⟨by decide +kernel, by decide +kernel⟩, List.mem_of_getElem? (i := 1239) (by decide +kernel), List.mem_of_getElem? (i := 1663) (by decide +kernel), List.mem_of_getElem? (i := 1664) (by decide +kernel)⟩
theorem lw_p79 : lw_okq (⟨"NotYetModel", "meeting", "(I)V"⟩, 74) := ⟨⟨by decide +kernel, by decide +kernel⟩, List.mem_of_getElem? (i := 1239) (by decide +kernel), List.mem_of_getElem? (i := 1667) (by decide +kernel), List.mem_of_getElem? (i := 1668) (by decide +kernel)⟩
def lw_privs_5 : List (MethodName × Nat) := [(⟨"NotYetModel", "fails", "(I)I"⟩, 74), (⟨"NotYetModel", "readLine", "(I)I"⟩, 74), (⟨"NotYetModel", "readSum", "()I"⟩, 74), (⟨"NotYetModel", "readProduct", "()I"⟩, 74), (⟨"NotYetModel", "readUnit", "()I"⟩, 74), (⟨"NotYetModel", "emits", "(II)V"⟩, 74), (⟨"NotYetModel", "isSign", "(I)Z"⟩, 74), (⟨"NotYetModel", "readAny", "()I"⟩, 74), (⟨"NotYetModel", "waitsFor", "(I)V"⟩, 74), (⟨"NotYetModel", "readCompared", "()I"⟩, 74), (⟨"NotYetModel", "settles", "(I)V"⟩, 74), (⟨"NotYetModel", "goesBy", "()V"⟩, 74), (⟨"NotYetModel", "looksAgain", "()V"⟩, 74), (⟨"NotYetModel", "worthFor", "(II)I"⟩, 74), (⟨"NotYetModel", "frees", "(I)V"⟩, 74), (⟨"NotYetModel", "meeting", "(I)V"⟩, 74)]
theorem lw_r5 : ∀ q ∈ lw_privs_5, lw_okq q := List.forall_mem_cons.mpr ⟨lw_p64, List.forall_mem_cons.mpr ⟨lw_p65, List.forall_mem_cons.mpr ⟨lw_p66, List.forall_mem_cons.mpr ⟨lw_p67, List.forall_mem_cons.mpr ⟨lw_p68, List.forall_mem_cons.mpr ⟨lw_p69, List.forall_mem_cons.mpr ⟨lw_p70, List.forall_mem_cons.mpr ⟨lw_p71, List.forall_mem_cons.mpr ⟨lw_p72, List.forall_mem_cons.mpr ⟨lw_p73, List.forall_mem_cons.mpr ⟨lw_p74, List.forall_mem_cons.mpr ⟨lw_p75, List.forall_mem_cons.mpr ⟨lw_p76, List.forall_mem_cons.mpr ⟨lw_p77, List.forall_mem_cons.mpr ⟨lw_p78, List.forall_mem_cons.mpr ⟨lw_p79, fun _ h => absurd h List.not_mem_nil⟩⟩⟩⟩⟩⟩⟩⟩⟩⟩⟩⟩⟩⟩⟩⟩
theorem lw_p80 : lw_okq (⟨"NotYetModel", "meets", "()I"⟩, 74) := ⟨⟨by decide +kernel, by decide +kernel⟩, List.mem_of_getElem? (i := 1239) (by decide +kernel), List.mem_of_getElem? (i := 1671) (by decide +kernel), List.mem_of_getElem? (i := 1672) (by decide +kernel)⟩
theorem lw_p81 : lw_okq (⟨"NotYetModel", "canMeet", "(I)Z"⟩, 74) := ⟨⟨by decide +kernel, by decide +kernel⟩, List.mem_of_getElem? (i := 1239) (by decide +kernel), List.mem_of_getElem? (i := 1675) (by decide +kernel), List.mem_of_getElem? (i := 1676) (by decide +kernel)⟩
theorem lw_p82 : lw_okq (⟨"NotYetModel", "draw", "(I)I"⟩, 74) := ⟨⟨by decide +kernel, by decide +kernel⟩, List.mem_of_getElem? (i := 1239) (by decide +kernel), List.mem_of_getElem? (i := 1679) (by decide +kernel), List.mem_of_getElem? (i := 1680) (by decide +kernel)⟩
theorem lw_p83 : lw_okq (⟨"NotYetModel", "seenBy", "(II)I"⟩, 74) := ⟨⟨by decide +kernel, by decide +kernel⟩, List.mem_of_getElem? (i := 1239) (by decide +kernel), List.mem_of_getElem? (i := 1685) (by decide +kernel), List.mem_of_getElem? (i := 1686) (by decide +kernel)⟩
theorem lw_p84 : lw_okq (⟨"NotYetModel", "saysOf", "(II)I"⟩, 74) := ⟨⟨by decide +kernel, by decide +kernel⟩, List.mem_of_getElem? (i := 1239) (by decide +kernel), List.mem_of_getElem? (i := 1689) (by decide +kernel), List.mem_of_getElem? (i := 1690) (by decide +kernel)⟩
theorem lw_p85 : lw_okq (⟨"NotYetModel", "asksOf", "(I)V"⟩, 74) := ⟨⟨by decide +kernel, by decide +kernel⟩, List.mem_of_getElem? (i := 1239) (by decide +kernel), List.mem_of_getElem? (i := 1693) (by decide +kernel), List.mem_of_getElem? (i := 1694) (by decide +kernel)⟩
theorem lw_p86 : lw_okq (⟨"NotYetModel", "comesTo", "(III)I"⟩, 74) := ⟨⟨by decide +kernel, by decide +kernel⟩, List.mem_of_getElem? (i := 1239) (by decide +kernel), List.mem_of_getElem? (i := 1697) (by decide +kernel), List.mem_of_getElem? (i := 1698) (by decide +kernel)⟩
theorem lw_p87 : lw_okq (⟨"NotYetModel", "twoOf", "(III)I"⟩, 74) := ⟨⟨by decide +kernel, by decide +kernel⟩, List.mem_of_getElem? (i := 1239) (by decide +kernel), List.mem_of_getElem? (i := 1701) (by decide +kernel), List.mem_of_getElem? (i := 1702) (by decide +kernel)⟩
theorem lw_p88 : lw_okq (⟨"NotYetModel", "becomePair", "(IIII)V"⟩, 74) := ⟨⟨by decide +kernel, by decide +kernel⟩, List.mem_of_getElem? (i := 1239) (by decide +kernel), List.mem_of_getElem? (i := 1705) (by decide +kernel), List.mem_of_getElem? (i := 1706) (by decide +kernel)⟩
theorem lw_p89 : lw_okq (⟨"NotYetModel", "pairMany", "()I"⟩, 74) := ⟨⟨by decide +kernel, by decide +kernel⟩, List.mem_of_getElem? (i := 1239) (by decide +kernel), List.mem_of_getElem? (i := 1709) (by decide +kernel), List.mem_of_getElem? (i := 1710) (by decide +kernel)⟩
theorem lw_p90 : lw_okq (⟨"NotYetModel", "isOne", "(I)Z"⟩, 74) := ⟨⟨by decide +kernel, by decide +kernel⟩, List.mem_of_getElem? (i := 1239) (by decide +kernel), List.mem_of_getElem? (i := 1717) (by decide +kernel), List.mem_of_getElem? (i := 1718) (by decide +kernel)⟩
theorem lw_p91 : lw_okq (⟨"NotYetModel", "isGuest", "(I)Z"⟩, 74) := ⟨⟨by decide +kernel, by decide +kernel⟩, List.mem_of_getElem? (i := 1239) (by decide +kernel), List.mem_of_getElem? (i := 1737) (by decide +kernel), List.mem_of_getElem? (i := 1738) (by decide +kernel)⟩
theorem lw_p92 : lw_okq (⟨"NotYetModel", "findsPairings", "()V"⟩, 74) := ⟨⟨by decide +kernel, by decide +kernel⟩, List.mem_of_getElem? (i := 1239) (by decide +kernel), List.mem_of_getElem? (i := 1745) (by decide +kernel), List.mem_of_getElem? (i := 1746) (by decide +kernel)⟩
theorem lw_p93 : lw_okq (⟨"NotYetModel", "takesRow", "()V"⟩, 74) := ⟨⟨by decide +kernel, by decide +kernel⟩, List.mem_of_getElem? (i := 1239) (by decide +kernel), List.mem_of_getElem? (i := 1749) (by decide +kernel), List.mem_of_getElem? (i := 1750) (by decide +kernel)⟩
theorem lw_p94 : lw_okq (⟨"NotYetModel", "sumOfRow", "()I"⟩, 74) := ⟨⟨by decide +kernel, by decide +kernel⟩, List.mem_of_getElem? (i := 1239) (by decide +kernel), List.mem_of_getElem? (i := 1753) (by decide +kernel), List.mem_of_getElem? (i := 1754) (by decide +kernel)⟩
theorem lw_p95 : lw_okq (⟨"NotYetModel", "bothOf", "(II)I"⟩, 74) := ⟨⟨by decide +kernel, by decide +kernel⟩, List.mem_of_getElem? (i := 1239) (by decide +kernel), List.mem_of_getElem? (i := 1757) (by decide +kernel), List.mem_of_getElem? (i := 1758) (by decide +kernel)⟩
def lw_privs_6 : List (MethodName × Nat) := [(⟨"NotYetModel", "meets", "()I"⟩, 74), (⟨"NotYetModel", "canMeet", "(I)Z"⟩, 74), (⟨"NotYetModel", "draw", "(I)I"⟩, 74), (⟨"NotYetModel", "seenBy", "(II)I"⟩, 74), (⟨"NotYetModel", "saysOf", "(II)I"⟩, 74), (⟨"NotYetModel", "asksOf", "(I)V"⟩, 74), (⟨"NotYetModel", "comesTo", "(III)I"⟩, 74), (⟨"NotYetModel", "twoOf", "(III)I"⟩, 74), (⟨"NotYetModel", "becomePair", "(IIII)V"⟩, 74), (⟨"NotYetModel", "pairMany", "()I"⟩, 74), (⟨"NotYetModel", "isOne", "(I)Z"⟩, 74), (⟨"NotYetModel", "isGuest", "(I)Z"⟩, 74), (⟨"NotYetModel", "findsPairings", "()V"⟩, 74), (⟨"NotYetModel", "takesRow", "()V"⟩, 74), (⟨"NotYetModel", "sumOfRow", "()I"⟩, 74), (⟨"NotYetModel", "bothOf", "(II)I"⟩, 74)]
theorem lw_r6 : ∀ q ∈ lw_privs_6, lw_okq q := List.forall_mem_cons.mpr ⟨lw_p80, List.forall_mem_cons.mpr ⟨lw_p81, List.forall_mem_cons.mpr ⟨lw_p82, List.forall_mem_cons.mpr ⟨lw_p83, List.forall_mem_cons.mpr ⟨lw_p84, List.forall_mem_cons.mpr ⟨lw_p85, List.forall_mem_cons.mpr ⟨lw_p86, List.forall_mem_cons.mpr ⟨lw_p87, List.forall_mem_cons.mpr ⟨lw_p88, List.forall_mem_cons.mpr ⟨lw_p89, List.forall_mem_cons.mpr ⟨lw_p90, List.forall_mem_cons.mpr ⟨lw_p91, List.forall_mem_cons.mpr ⟨lw_p92, List.forall_mem_cons.mpr ⟨lw_p93, List.forall_mem_cons.mpr ⟨lw_p94, List.forall_mem_cons.mpr ⟨lw_p95, fun _ h => absurd h List.not_mem_nil⟩⟩⟩⟩⟩⟩⟩⟩⟩⟩⟩⟩⟩⟩⟩⟩
theorem lw_p96 : lw_okq (⟨"NotYetModel", "isHeld", "()Z"⟩, 74) := ⟨⟨by decide +kernel, by decide +kernel⟩, List.mem_of_getElem? (i := 1239) (by decide +kernel), List.mem_of_getElem? (i := 1761) (by decide +kernel), List.mem_of_getElem? (i := 1762) (by decide +kernel)⟩
theorem lw_p97 : lw_okq (⟨"NotYetModel", "isMore", "(IIII)Z"⟩, 74) := ⟨⟨by decide +kernel, by decide +kernel⟩, List.mem_of_getElem? (i := 1239) (by decide +kernel), List.mem_of_getElem? (i := 1765) (by decide +kernel), List.mem_of_getElem? (i := 1766) (by decide +kernel)⟩
theorem lw_p98 : lw_okq (⟨"NotYetModel", "nextRow", "()Z"⟩, 74) := ⟨⟨by decide +kernel, by decide +kernel⟩, List.mem_of_getElem? (i := 1239) (by decide +kernel), List.mem_of_getElem? (i := 1769) (by decide +kernel), List.mem_of_getElem? (i := 1770) (by decide +kernel)⟩
theorem lw_p99 : lw_okq (⟨"NotYetModel", "findsPrices", "()V"⟩, 74) := ⟨⟨by decide +kernel, by decide +kernel⟩, List.mem_of_getElem? (i := 1239) (by decide +kernel), List.mem_of_getElem? (i := 1773) (by decide +kernel), List.mem_of_getElem? (i := 1774) (by decide +kernel)⟩
theorem lw_p100 : lw_okq (⟨"NotYetModel", "bestOf", "(I)I"⟩, 74) := ⟨⟨by decide +kernel, by decide +kernel⟩, List.mem_of_getElem? (i := 1239) (by decide +kernel), List.mem_of_getElem? (i := 1781) (by decide +kernel), List.mem_of_getElem? (i := 1782) (by decide +kernel)⟩
theorem lw_p101 : lw_okq (⟨"NotYetModel", "isBestFor", "(III)Z"⟩, 74) := ⟨⟨by decide +kernel, by decide +kernel⟩, List.mem_of_getElem? (i := 1239) (by decide +kernel), List.mem_of_getElem? (i := 1785) (by decide +kernel), List.mem_of_getElem? (i := 1786) (by decide +kernel)⟩
theorem lw_p102 : lw_okq (⟨"NotYetModel", "womanAt", "(II)I"⟩, 74) := ⟨⟨by decide +kernel, by decide +kernel⟩, List.mem_of_getElem? (i := 1239) (by decide +kernel), List.mem_of_getElem? (i := 1789) (by decide +kernel), List.mem_of_getElem? (i := 1790) (by decide +kernel)⟩
theorem lw_p103 : lw_okq (⟨"NotYetModel", "manAt", "(II)I"⟩, 74) := ⟨⟨by decide +kernel, by decide +kernel⟩, List.mem_of_getElem? (i := 1239) (by decide +kernel), List.mem_of_getElem? (i := 1793) (by decide +kernel), List.mem_of_getElem? (i := 1794) (by decide +kernel)⟩
theorem lw_p104 : lw_okq (⟨"NotYetModel", "wanted", "(I)I"⟩, 74) := ⟨⟨by decide +kernel, by decide +kernel⟩, List.mem_of_getElem? (i := 1239) (by decide +kernel), List.mem_of_getElem? (i := 1809) (by decide +kernel), List.mem_of_getElem? (i := 1810) (by decide +kernel)⟩
def lw_privs_7 : List (MethodName × Nat) := [(⟨"NotYetModel", "isHeld", "()Z"⟩, 74), (⟨"NotYetModel", "isMore", "(IIII)Z"⟩, 74), (⟨"NotYetModel", "nextRow", "()Z"⟩, 74), (⟨"NotYetModel", "findsPrices", "()V"⟩, 74), (⟨"NotYetModel", "bestOf", "(I)I"⟩, 74), (⟨"NotYetModel", "isBestFor", "(III)Z"⟩, 74), (⟨"NotYetModel", "womanAt", "(II)I"⟩, 74), (⟨"NotYetModel", "manAt", "(II)I"⟩, 74), (⟨"NotYetModel", "wanted", "(I)I"⟩, 74)]
theorem lw_r7 : ∀ q ∈ lw_privs_7, lw_okq q := List.forall_mem_cons.mpr ⟨lw_p96, List.forall_mem_cons.mpr ⟨lw_p97, List.forall_mem_cons.mpr ⟨lw_p98, List.forall_mem_cons.mpr ⟨lw_p99, List.forall_mem_cons.mpr ⟨lw_p100, List.forall_mem_cons.mpr ⟨lw_p101, List.forall_mem_cons.mpr ⟨lw_p102, List.forall_mem_cons.mpr ⟨lw_p103, List.forall_mem_cons.mpr ⟨lw_p104, fun _ h => absurd h List.not_mem_nil⟩⟩⟩⟩⟩⟩⟩⟩⟩
def lw_privs : List (MethodName × Nat) := lw_privs_1 ++ (lw_privs_2 ++ (lw_privs_3 ++ (lw_privs_4 ++ (lw_privs_5 ++ (lw_privs_6 ++ (lw_privs_7))))))
def lw_tbl : List Cond := k2_sels lw_privs ++ tables_1
theorem lw_privs_ok : ∀ q ∈ lw_privs, lw_okq q := by
  show ∀ q ∈ lw_privs_1 ++ (lw_privs_2 ++ (lw_privs_3 ++ (lw_privs_4 ++ (lw_privs_5 ++ (lw_privs_6 ++ (lw_privs_7)))))), lw_okq q
  exact List.forall_mem_append.mpr ⟨lw_r1, List.forall_mem_append.mpr ⟨lw_r2, List.forall_mem_append.mpr ⟨lw_r3, List.forall_mem_append.mpr ⟨lw_r4, List.forall_mem_append.mpr ⟨lw_r5, List.forall_mem_append.mpr ⟨lw_r6, lw_r7⟩⟩⟩⟩⟩⟩
def RX0 : String := "NotYet$Feast"
def TX0 : u_T := fun k => match k with
  | 0 => ("NotYet$Feast", "liking", "[I", true)
  | 1 => ("NotYet$Feast", "seats", "[I", true)
  | 2 => ("NotYet$Feast", "most", "[I", true)
  | 3 => ("NotYet$Feast", "gains", "[I", true)
  | 4 => ("NotYet$Feast", "held", "[I", false)
  | 5 => ("NotYet$Feast", "count", "I", false)
  | 6 => ("NotYet$Feast", "guests", "I", false)
  | 7 => ("NotYet$Feast", "mensRow", "I", false)
  | 8 => ("NotYet$Feast", "womensRow", "I", false)
  | 9 => ("NotYet$Feast", "greatestHeld", "I", false)
  | _ => ("NotYet$Feast", "stale", "Z", false)
def tyX0 : Nat → FieldType := fun k => match k with
  | 0 => .array .int
  | 1 => .array .int
  | 2 => .array .int
  | 3 => .array .int
  | 4 => .array .int
  | 5 => .int
  | 6 => .int
  | 7 => .int
  | 8 => .int
  | 9 => .int
  | _ => .boolean
theorem nmX0 : ∀ a, a < 11 → ∀ b, b < 11 → a ≠ b → (TX0 a).2.1 ≠ (TX0 b).2.1 := by decide +kernel
theorem tyX0_ok : ∀ k, k < 11 → parseFieldDescriptor (TX0 k).2.2.1 = some (tyX0 k) := by decide +kernel
def RX1 : String := "NotYet$Folk"
def TX1 : u_T := fun k => match k with
  | 0 => ("NotYet$Folk", "market", "LNotYet$Market;", true)
  | 1 => ("NotYet$Folk", "waits", "LNotYet$Waits;", true)
  | 2 => ("NotYet$Folk", "judge", "LNotYet$Judge;", true)
  | 3 => ("NotYet$Folk", "ways", "Ljava/util/ArrayList;", true)
  | 4 => ("NotYet$Folk", "people", "Ljava/util/ArrayList;", true)
  | 5 => ("NotYet$Folk", "tallies", "[I", true)
  | _ => ("NotYet$Folk", "state", "I", false)
def tyX1 : Nat → FieldType := fun k => match k with
  | 0 => .object "NotYet$Market"
  | 1 => .object "NotYet$Waits"
  | 2 => .object "NotYet$Judge"
  | 3 => .object "java/util/ArrayList"
  | 4 => .object "java/util/ArrayList"
  | 5 => .array .int
  | _ => .int
theorem nmX1 : ∀ a, a < 7 → ∀ b, b < 7 → a ≠ b → (TX1 a).2.1 ≠ (TX1 b).2.1 := by decide +kernel
theorem tyX1_ok : ∀ k, k < 7 → parseFieldDescriptor (TX1 k).2.2.1 = some (tyX1 k) := by decide +kernel
def RX2 : String := "NotYet$Judge"
def TX2 : u_T := fun k => match k with
  | 0 => ("NotYet$Judge", "facts", "[I", true)
  | _ => ("NotYet$Judge", "stack", "[I", true)
def tyX2 : Nat → FieldType := fun k => match k with
  | 0 => .array .int
  | _ => .array .int
theorem nmX2 : ∀ a, a < 2 → ∀ b, b < 2 → a ≠ b → (TX2 a).2.1 ≠ (TX2 b).2.1 := by decide +kernel
theorem tyX2_ok : ∀ k, k < 2 → parseFieldDescriptor (TX2 k).2.2.1 = some (tyX2 k) := by decide +kernel
def RX3 : String := "NotYet$Market"
def TX3 : u_T := fun k => match k with
  | 0 => ("NotYet$Market", "counts", "[I", true)
  | 1 => ("NotYet$Market", "looks", "[I", true)
  | 2 => ("NotYet$Market", "oftens", "[I", true)
  | 3 => ("NotYet$Market", "told", "[I", true)
  | 4 => ("NotYet$Market", "settings", "[I", true)
  | _ => ("NotYet$Market", "version", "I", false)
def tyX3 : Nat → FieldType := fun k => match k with
  | 0 => .array .int
  | 1 => .array .int
  | 2 => .array .int
  | 3 => .array .int
  | 4 => .array .int
  | _ => .int
theorem nmX3 : ∀ a, a < 6 → ∀ b, b < 6 → a ≠ b → (TX3 a).2.1 ≠ (TX3 b).2.1 := by decide +kernel
theorem tyX3_ok : ∀ k, k < 6 → parseFieldDescriptor (TX3 k).2.2.1 = some (tyX3 k) := by decide +kernel
def RX4 : String := "NotYet$Person"
def TX4 : u_T := fun k => match k with
  | 0 => ("NotYet$Person", "number", "I", true)
  | 1 => ("NotYet$Person", "side", "I", true)
  | 2 => ("NotYet$Person", "sort", "I", true)
  | 3 => ("NotYet$Person", "way", "LNotYet$Way;", true)
  | 4 => ("NotYet$Person", "own", "LNotYet$Person;", false)
  | 5 => ("NotYet$Person", "waited", "I", false)
  | 6 => ("NotYet$Person", "age", "I", false)
  | 7 => ("NotYet$Person", "taken", "I", false)
  | 8 => ("NotYet$Person", "lookedAgain", "Z", false)
  | 9 => ("NotYet$Person", "timesLeft", "I", false)
  | _ => ("NotYet$Person", "timesParted", "I", false)
def tyX4 : Nat → FieldType := fun k => match k with
  | 0 => .int
  | 1 => .int
  | 2 => .int
  | 3 => .object "NotYet$Way"
  | 4 => .object "NotYet$Person"
  | 5 => .int
  | 6 => .int
  | 7 => .int
  | 8 => .boolean
  | 9 => .int
  | _ => .int
theorem nmX4 : ∀ a, a < 11 → ∀ b, b < 11 → a ≠ b → (TX4 a).2.1 ≠ (TX4 b).2.1 := by decide +kernel
theorem tyX4_ok : ∀ k, k < 11 → parseFieldDescriptor (TX4 k).2.2.1 = some (tyX4 k) := by decide +kernel
def RX5 : String := "NotYet$Purse"
def TX5 : u_T := fun k => match k with
  | 0 => ("NotYet$Purse", "feast", "LNotYet$Feast;", true)
  | 1 => ("NotYet$Purse", "asked", "[I", true)
  | _ => ("NotYet$Purse", "least", "[I", true)
def tyX5 : Nat → FieldType := fun k => match k with
  | 0 => .object "NotYet$Feast"
  | 1 => .array .int
  | _ => .array .int
theorem nmX5 : ∀ a, a < 3 → ∀ b, b < 3 → a ≠ b → (TX5 a).2.1 ≠ (TX5 b).2.1 := by decide +kernel
theorem tyX5_ok : ∀ k, k < 3 → parseFieldDescriptor (TX5 k).2.2.1 = some (tyX5 k) := by decide +kernel
def RX6 : String := "NotYet$Ranks"
def TX6 : u_T := fun k => match k with
  | 0 => ("NotYet$Ranks", "market", "LNotYet$Market;", true)
  | 1 => ("NotYet$Ranks", "rows", "[I", true)
  | 2 => ("NotYet$Ranks", "next", "[I", true)
  | 3 => ("NotYet$Ranks", "version", "I", false)
  | 4 => ("NotYet$Ranks", "count", "I", false)
  | 5 => ("NotYet$Ranks", "falling", "Z", false)
  | 6 => ("NotYet$Ranks", "bar", "I", false)
  | 7 => ("NotYet$Ranks", "above", "I", false)
  | _ => ("NotYet$Ranks", "below", "I", false)
def tyX6 : Nat → FieldType := fun k => match k with
  | 0 => .object "NotYet$Market"
  | 1 => .array .int
  | 2 => .array .int
  | 3 => .int
  | 4 => .int
  | 5 => .boolean
  | 6 => .int
  | 7 => .int
  | _ => .int
theorem nmX6 : ∀ a, a < 9 → ∀ b, b < 9 → a ≠ b → (TX6 a).2.1 ≠ (TX6 b).2.1 := by decide +kernel
theorem tyX6_ok : ∀ k, k < 9 → parseFieldDescriptor (TX6 k).2.2.1 = some (tyX6 k) := by decide +kernel
def RX7 : String := "NotYet$Reader"
def TX7 : u_T := fun k => match k with
  | 0 => ("NotYet$Reader", "tape", "LNotYet$Tape;", true)
  | 1 => ("NotYet$Reader", "draft", "LNotYet$Way;", true)
  | 2 => ("NotYet$Reader", "current", "I", false)
  | 3 => ("NotYet$Reader", "token", "I", false)
  | 4 => ("NotYet$Reader", "fault", "I", false)
  | _ => ("NotYet$Reader", "place", "I", false)
def tyX7 : Nat → FieldType := fun k => match k with
  | 0 => .object "NotYet$Tape"
  | 1 => .object "NotYet$Way"
  | 2 => .int
  | 3 => .int
  | 4 => .int
  | _ => .int
theorem nmX7 : ∀ a, a < 6 → ∀ b, b < 6 → a ≠ b → (TX7 a).2.1 ≠ (TX7 b).2.1 := by decide +kernel
theorem tyX7_ok : ∀ k, k < 6 → parseFieldDescriptor (TX7 k).2.2.1 = some (tyX7 k) := by decide +kernel
def RX8 : String := "NotYet$Tape"
def TX8 : u_T := fun k => match k with
  | 0 => ("NotYet$Tape", "bytes", "[B", true)
  | 1 => ("NotYet$Tape", "kinds", "[I", true)
  | 2 => ("NotYet$Tape", "places", "[I", true)
  | 3 => ("NotYet$Tape", "numbers", "[I", true)
  | 4 => ("NotYet$Tape", "size", "I", false)
  | _ => ("NotYet$Tape", "count", "I", false)
def tyX8 : Nat → FieldType := fun k => match k with
  | 0 => .array .byte
  | 1 => .array .int
  | 2 => .array .int
  | 3 => .array .int
  | 4 => .int
  | _ => .int
theorem nmX8 : ∀ a, a < 6 → ∀ b, b < 6 → a ≠ b → (TX8 a).2.1 ≠ (TX8 b).2.1 := by decide +kernel
theorem tyX8_ok : ∀ k, k < 6 → parseFieldDescriptor (TX8 k).2.2.1 = some (tyX8 k) := by decide +kernel
def RX9 : String := "NotYet$Waits"
def TX9 : u_T := fun k => match k with
  | 0 => ("NotYet$Waits", "market", "LNotYet$Market;", true)
  | 1 => ("NotYet$Waits", "table", "[I", true)
  | 2 => ("NotYet$Waits", "worths", "[I", true)
  | _ => ("NotYet$Waits", "version", "I", false)
def tyX9 : Nat → FieldType := fun k => match k with
  | 0 => .object "NotYet$Market"
  | 1 => .array .int
  | 2 => .array .int
  | _ => .int
theorem nmX9 : ∀ a, a < 4 → ∀ b, b < 4 → a ≠ b → (TX9 a).2.1 ≠ (TX9 b).2.1 := by decide +kernel
theorem tyX9_ok : ∀ k, k < 4 → parseFieldDescriptor (TX9 k).2.2.1 = some (tyX9 k) := by decide +kernel
def RX10 : String := "NotYet$Way"
def TX10 : u_T := fun k => match k with
  | 0 => ("NotYet$Way", "code", "[I", true)
  | 1 => ("NotYet$Way", "heads", "[I", true)
  | 2 => ("NotYet$Way", "starts", "[I", true)
  | 3 => ("NotYet$Way", "middles", "[I", true)
  | 4 => ("NotYet$Way", "ends", "[I", true)
  | 5 => ("NotYet$Way", "size", "I", false)
  | _ => ("NotYet$Way", "lines", "I", false)
def tyX10 : Nat → FieldType := fun k => match k with
  | 0 => .array .int
  | 1 => .array .int
  | 2 => .array .int
  | 3 => .array .int
  | 4 => .array .int
  | 5 => .int
  | _ => .int
theorem nmX10 : ∀ a, a < 7 → ∀ b, b < 7 → a ≠ b → (TX10 a).2.1 ≠ (TX10 b).2.1 := by decide +kernel
theorem tyX10_ok : ∀ k, k < 7 → parseFieldDescriptor (TX10 k).2.2.1 = some (tyX10 k) := by decide +kernel
def RX11 : String := "NotYet"
def TX11 : u_T := fun k => match k with
  | 0 => ("NotYet", "market", "LNotYet$Market;", true)
  | 1 => ("NotYet", "ranks", "LNotYet$Ranks;", true)
  | 2 => ("NotYet", "waits", "LNotYet$Waits;", true)
  | 3 => ("NotYet", "tape", "LNotYet$Tape;", true)
  | 4 => ("NotYet", "reader", "LNotYet$Reader;", true)
  | 5 => ("NotYet", "folk", "LNotYet$Folk;", true)
  | 6 => ("NotYet", "feast", "LNotYet$Feast;", true)
  | _ => ("NotYet", "purse", "LNotYet$Purse;", true)
def tyX11 : Nat → FieldType := fun k => match k with
  | 0 => .object "NotYet$Market"
  | 1 => .object "NotYet$Ranks"
  | 2 => .object "NotYet$Waits"
  | 3 => .object "NotYet$Tape"
  | 4 => .object "NotYet$Reader"
  | 5 => .object "NotYet$Folk"
  | 6 => .object "NotYet$Feast"
  | _ => .object "NotYet$Purse"
theorem nmX11 : ∀ a, a < 8 → ∀ b, b < 8 → a ≠ b → (TX11 a).2.1 ≠ (TX11 b).2.1 := by decide +kernel
theorem tyX11_ok : ∀ k, k < 8 → parseFieldDescriptor (TX11 k).2.2.1 = some (tyX11 k) := by decide +kernel
def RX12 : String := "NotYetModel"
def TX12 : u_T := fun k => match k with
  | 0 => ("NotYetModel", "told", "I", false)
  | 1 => ("NotYetModel", "sortMany", "[I", true)
  | 2 => ("NotYetModel", "lookOf", "[I", true)
  | 3 => ("NotYetModel", "oftenOf", "[I", true)
  | 4 => ("NotYetModel", "worthOf", "[I", true)
  | 5 => ("NotYetModel", "cost", "I", false)
  | 6 => ("NotYetModel", "rate", "I", false)
  | 7 => ("NotYetModel", "lastWeek", "I", false)
  | 8 => ("NotYetModel", "blur", "I", false)
  | 9 => ("NotYetModel", "later", "I", false)
  | 10 => ("NotYetModel", "spread", "I", false)
  | 11 => ("NotYetModel", "matchmaker", "I", false)
  | 12 => ("NotYetModel", "classMany", "I", false)
  | 13 => ("NotYetModel", "classLast", "[I", true)
  | 14 => ("NotYetModel", "classAbove", "[I", true)
  | 15 => ("NotYetModel", "classBelow", "[I", true)
  | 16 => ("NotYetModel", "above", "I", false)
  | 17 => ("NotYetModel", "below", "I", false)
  | 18 => ("NotYetModel", "areWaits", "Z", false)
  | 19 => ("NotYetModel", "waits", "[I", true)
  | 20 => ("NotYetModel", "tape", "[I", true)
  | 21 => ("NotYetModel", "taped", "I", false)
  | 22 => ("NotYetModel", "spot", "I", false)
  | 23 => ("NotYetModel", "from", "I", false)
  | 24 => ("NotYetModel", "token", "I", false)
  | 25 => ("NotYetModel", "value", "I", false)
  | 26 => ("NotYetModel", "words", "[I", true)
  | 27 => ("NotYetModel", "lineMany", "[I", true)
  | 28 => ("NotYetModel", "lineSort", "[I", true)
  | 29 => ("NotYetModel", "lineFrom", "[I", true)
  | 30 => ("NotYetModel", "lineSum", "[I", true)
  | 31 => ("NotYetModel", "lineTo", "[I", true)
  | 32 => ("NotYetModel", "op", "[I", true)
  | 33 => ("NotYetModel", "arg", "[I", true)
  | 34 => ("NotYetModel", "many", "I", false)
  | 35 => ("NotYetModel", "open", "I", false)
  | 36 => ("NotYetModel", "pending", "[I", true)
  | 37 => ("NotYetModel", "pendings", "I", false)
  | 38 => ("NotYetModel", "readFault", "I", false)
  | 39 => ("NotYetModel", "readPlace", "I", false)
  | 40 => ("NotYetModel", "faultKind", "I", false)
  | 41 => ("NotYetModel", "faultPlace", "I", false)
  | 42 => ("NotYetModel", "people", "I", false)
  | 43 => ("NotYetModel", "sideOf", "[I", true)
  | 44 => ("NotYetModel", "sortOf", "[I", true)
  | 45 => ("NotYetModel", "wayOf", "[I", true)
  | 46 => ("NotYetModel", "withOf", "[I", true)
  | 47 => ("NotYetModel", "waited", "[I", true)
  | 48 => ("NotYetModel", "ageOf", "[I", true)
  | 49 => ("NotYetModel", "tookOf", "[I", true)
  | 50 => ("NotYetModel", "hasLooked", "[Z", true)
  | 51 => ("NotYetModel", "leftTimes", "[I", true)
  | 52 => ("NotYetModel", "partedTimes", "[I", true)
  | 53 => ("NotYetModel", "state", "I", false)
  | 54 => ("NotYetModel", "weekNow", "I", false)
  | 55 => ("NotYetModel", "meetings", "I", false)
  | 56 => ("NotYetModel", "made", "I", false)
  | 57 => ("NotYetModel", "left", "I", false)
  | 58 => ("NotYetModel", "parted", "I", false)
  | 59 => ("NotYetModel", "asked", "[I", true)
  | 60 => ("NotYetModel", "stack", "[I", true)
  | 61 => ("NotYetModel", "isTold", "Z", false)
  | 62 => ("NotYetModel", "guests", "I", false)
  | 63 => ("NotYetModel", "likesOf", "[I", true)
  | 64 => ("NotYetModel", "priceOf", "[I", true)
  | 65 => ("NotYetModel", "isFound", "Z", false)
  | 66 => ("NotYetModel", "held", "[I", true)
  | 67 => ("NotYetModel", "heldMany", "I", false)
  | 68 => ("NotYetModel", "mostRow", "[I", true)
  | 69 => ("NotYetModel", "mostSum", "I", false)
  | 70 => ("NotYetModel", "mostHeld", "I", false)
  | 71 => ("NotYetModel", "row", "[I", true)
  | 72 => ("NotYetModel", "manOf", "[I", true)
  | _ => ("NotYetModel", "leastPrice", "[I", true)
def tyX12 : Nat → FieldType := fun k => match k with
  | 0 => .int
  | 1 => .array .int
  | 2 => .array .int
  | 3 => .array .int
  | 4 => .array .int
  | 5 => .int
  | 6 => .int
  | 7 => .int
  | 8 => .int
  | 9 => .int
  | 10 => .int
  | 11 => .int
  | 12 => .int
  | 13 => .array .int
  | 14 => .array .int
  | 15 => .array .int
  | 16 => .int
  | 17 => .int
  | 18 => .boolean
  | 19 => .array .int
  | 20 => .array .int
  | 21 => .int
  | 22 => .int
  | 23 => .int
  | 24 => .int
  | 25 => .int
  | 26 => .array .int
  | 27 => .array .int
  | 28 => .array .int
  | 29 => .array .int
  | 30 => .array .int
  | 31 => .array .int
  | 32 => .array .int
  | 33 => .array .int
  | 34 => .int
  | 35 => .int
  | 36 => .array .int
  | 37 => .int
  | 38 => .int
  | 39 => .int
  | 40 => .int
  | 41 => .int
  | 42 => .int
  | 43 => .array .int
  | 44 => .array .int
  | 45 => .array .int
  | 46 => .array .int
  | 47 => .array .int
  | 48 => .array .int
  | 49 => .array .int
  | 50 => .array .boolean
  | 51 => .array .int
  | 52 => .array .int
  | 53 => .int
  | 54 => .int
  | 55 => .int
  | 56 => .int
  | 57 => .int
  | 58 => .int
  | 59 => .array .int
  | 60 => .array .int
  | 61 => .boolean
  | 62 => .int
  | 63 => .array .int
  | 64 => .array .int
  | 65 => .boolean
  | 66 => .array .int
  | 67 => .int
  | 68 => .array .int
  | 69 => .int
  | 70 => .int
  | 71 => .array .int
  | 72 => .array .int
  | _ => .array .int
theorem nmX12 : ∀ a, a < 74 → ∀ b, b < 74 → a ≠ b → (TX12 a).2.1 ≠ (TX12 b).2.1 := by decide +kernel
theorem tyX12_ok : ∀ k, k < 74 → parseFieldDescriptor (TX12 k).2.2.1 = some (tyX12 k) := by decide +kernel
def RJx4a65c : String := "java/util/ArrayList"
def TJx4a65c : u_T := fun k => match k with
  | 0 => ("java/util/AbstractList", "modCount", "I", false)
  | 1 => ("java/util/ArrayList", "elementData", "[Ljava/lang/Object;", false)
  | _ => ("java/util/ArrayList", "size", "I", false)
def tyJx4a65c : Nat → FieldType := fun k => match k with
  | 0 => .int
  | 1 => .array (.object "java/lang/Object")
  | _ => .int
theorem nmJx4a65c : ∀ a, a < 3 → ∀ b, b < 3 → a ≠ b → (TJx4a65c a).2.1 ≠ (TJx4a65c b).2.1 := by decide +kernel
theorem tyJx4a65c_ok : ∀ k, k < 3 → parseFieldDescriptor (TJx4a65c k).2.2.1 = some (tyJx4a65c k) := by decide +kernel
def RJx145de : String := "java/io/Serializable"
def RJ11 : String := "java/lang/Character"
def RJx8e188 : String := "java/lang/Cloneable"
def RJ6 : String := "java/lang/Integer"
def RJxab1ab : String := "java/lang/Iterable"
def RJ9 : String := "java/lang/Math"
def RJ0 : String := "java/lang/String"
def RJ1 : String := "java/lang/StringLatin1"
def RJ2 : String := "java/lang/StringUTF16"
def RJ10 : String := "java/lang/System"
def RJxa1e45 : String := "java/util/AbstractCollection"
def RJxc12de : String := "java/util/AbstractList"
def RJ7 : String := "java/util/Arrays"
def RJx5ef63 : String := "java/util/Collection"
def RJxbd725 : String := "java/util/List"
def RJ15 : String := "java/util/Objects"
def RJxf0a74 : String := "java/util/RandomAccess"
def RJxa66e6 : String := "java/util/SequencedCollection"
def RJ8 : String := "jdk/internal/util/ArraysSupport"
def RJ3 : String := "jdk/internal/util/Preconditions"
abbrev cL_law : ByteArray := code
abbrev cX0_init : ByteArray := prog_2_method_1_code
def yX0_init : MethodName := ⟨RX0, "<init>", "()V"⟩
abbrev cX0_isGuest : ByteArray := prog_2_method_2_code
def yX0_isGuest : MethodName := ⟨RX0, "isGuest", "(I)Z"⟩
abbrev cX0_guests : ByteArray := prog_2_method_3_code
def yX0_guests : MethodName := ⟨RX0, "guests", "()I"⟩
abbrev cX0_count : ByteArray := prog_2_method_4_code
def yX0_count : MethodName := ⟨RX0, "count", "()I"⟩
abbrev cX0_bestFor : ByteArray := prog_2_method_5_code
def yX0_bestFor : MethodName := ⟨RX0, "bestFor", "(I)I"⟩
abbrev cX0_greatest : ByteArray := prog_2_method_6_code
def yX0_greatest : MethodName := ⟨RX0, "greatest", "()I"⟩
abbrev cX0_greatestThatHolds : ByteArray := prog_2_method_7_code
def yX0_greatestThatHolds : MethodName := ⟨RX0, "greatestThatHolds", "()I"⟩
abbrev cX0_mostOf : ByteArray := prog_2_method_8_code
def yX0_mostOf : MethodName := ⟨RX0, "mostOf", "(I)I"⟩
abbrev cX0_womanOf : ByteArray := prog_2_method_9_code
def yX0_womanOf : MethodName := ⟨RX0, "womanOf", "(II)I"⟩
abbrev cX0_invite : ByteArray := prog_2_method_10_code
def yX0_invite : MethodName := ⟨RX0, "invite", "(I)V"⟩
abbrev cX0_tell : ByteArray := prog_2_method_11_code
def yX0_tell : MethodName := ⟨RX0, "tell", "(IIII)V"⟩
abbrev cX0_liked : ByteArray := prog_2_method_12_code
def yX0_liked : MethodName := ⟨RX0, "liked", "(III)I"⟩
abbrev cX0_sum : ByteArray := prog_2_method_13_code
def yX0_sum : MethodName := ⟨RX0, "sum", "(II)I"⟩
abbrev cX0_total : ByteArray := prog_2_method_14_code
def yX0_total : MethodName := ⟨RX0, "total", "(I)I"⟩
abbrev cX0_refresh : ByteArray := prog_2_method_15_code
def yX0_refresh : MethodName := ⟨RX0, "refresh", "()V"⟩
abbrev cX0_likesMore : ByteArray := prog_2_method_16_code
def yX0_likesMore : MethodName := ⟨RX0, "likesMore", "(IIII)Z"⟩
abbrev cX0_seat : ByteArray := prog_2_method_17_code
def yX0_seat : MethodName := ⟨RX0, "seat", "(II)V"⟩
abbrev cX0_isQuiet : ByteArray := prog_2_method_18_code
def yX0_isQuiet : MethodName := ⟨RX0, "isQuiet", "(II)Z"⟩
abbrev cX0_keepSeats : ByteArray := prog_2_method_19_code
def yX0_keepSeats : MethodName := ⟨RX0, "keepSeats", "()V"⟩
abbrev cX0_findBests : ByteArray := prog_2_method_20_code
def yX0_findBests : MethodName := ⟨RX0, "findBests", "()V"⟩
abbrev cX0_rankSum : ByteArray := prog_2_method_21_code
def yX0_rankSum : MethodName := ⟨RX0, "rankSum", "(II)I"⟩
abbrev cX0_findMost : ByteArray := prog_2_method_22_code
def yX0_findMost : MethodName := ⟨RX0, "findMost", "()V"⟩
abbrev cX0_firstOfMost : ByteArray := prog_2_method_23_code
def yX0_firstOfMost : MethodName := ⟨RX0, "firstOfMost", "(II)I"⟩
abbrev cX1_init : ByteArray := prog_3_method_1_code
def yX1_init : MethodName := ⟨RX1, "<init>", "(LNotYet$Market;LNotYet$Waits;)V"⟩
abbrev cX1_size : ByteArray := prog_3_method_2_code
def yX1_size : MethodName := ⟨RX1, "size", "()I"⟩
abbrev cX1_tally : ByteArray := prog_3_method_3_code
def yX1_tally : MethodName := ⟨RX1, "tally", "(I)I"⟩
abbrev cX1_stateNow : ByteArray := prog_3_method_4_code
def yX1_stateNow : MethodName := ⟨RX1, "stateNow", "()I"⟩
abbrev cX1_restate : ByteArray := prog_3_method_5_code
def yX1_restate : MethodName := ⟨RX1, "restate", "(I)I"⟩
abbrev cX1_isWay : ByteArray := prog_3_method_6_code
def yX1_isWay : MethodName := ⟨RX1, "isWay", "(I)Z"⟩
abbrev cX1_teach : ByteArray := prog_3_method_7_code
def yX1_teach : MethodName := ⟨RX1, "teach", "(ILNotYet$Way;)I"⟩
abbrev cX1_admit : ByteArray := prog_3_method_8_code
def yX1_admit : MethodName := ⟨RX1, (match (tables_1_4[143]? : Option Cond) with | some (Cond.code m _ _ _) => m.name | _ => ""), "(III)I"⟩
abbrev cX1_countPairs : ByteArray := prog_3_method_9_code
def yX1_countPairs : MethodName := ⟨RX1, "countPairs", "()I"⟩
abbrev cX1_together : ByteArray := prog_3_method_10_code
def yX1_together : MethodName := ⟨RX1, "together", "(III)I"⟩
abbrev cX1_about : ByteArray := prog_3_method_11_code
def yX1_about : MethodName := ⟨RX1, "about", "(II)I"⟩
abbrev cX1_passWeek : ByteArray := prog_3_method_12_code
def yX1_passWeek : MethodName := ⟨RX1, "passWeek", "()V"⟩
abbrev cX1_lookAgain : ByteArray := prog_3_method_13_code
def yX1_lookAgain : MethodName := ⟨RX1, "lookAgain", "(LNotYet$Person;LNotYet$Person;)V"⟩
abbrev cX1_goOut : ByteArray := prog_3_method_14_code
def yX1_goOut : MethodName := ⟨RX1, "goOut", "(LNotYet$Person;)V"⟩
abbrev cX1_isThere : ByteArray := prog_3_method_15_code
def yX1_isThere : MethodName := ⟨RX1, "isThere", "(LNotYet$Person;Z)Z"⟩
abbrev cX1_meet : ByteArray := prog_3_method_16_code
def yX1_meet : MethodName := ⟨RX1, "meet", "(LNotYet$Person;LNotYet$Person;)V"⟩
abbrev cX1_isTempted : ByteArray := prog_3_method_17_code
def yX1_isTempted : MethodName := ⟨RX1, "isTempted", "(LNotYet$Person;LNotYet$Person;I)Z"⟩
abbrev cX1_takeOf : ByteArray := prog_3_method_18_code
def yX1_takeOf : MethodName := ⟨RX1, "takeOf", "(LNotYet$Person;)I"⟩
abbrev cX1_leaveOf : ByteArray := prog_3_method_19_code
def yX1_leaveOf : MethodName := ⟨RX1, "leaveOf", "(LNotYet$Person;)I"⟩
abbrev cX1_learn : ByteArray := prog_3_method_20_code
def yX1_learn : MethodName := ⟨RX1, "learn", "(LNotYet$Person;)V"⟩
abbrev cX1_worthFor : ByteArray := prog_3_method_21_code
def yX1_worthFor : MethodName := ⟨RX1, "worthFor", "(LNotYet$Person;LNotYet$Person;)I"⟩
abbrev cX1_error : ByteArray := prog_3_method_22_code
def yX1_error : MethodName := ⟨RX1, "error", "()I"⟩
abbrev cX1_draw : ByteArray := prog_3_method_23_code
def yX1_draw : MethodName := ⟨RX1, "draw", "(I)I"⟩
abbrev cX2_init : ByteArray := prog_4_method_1_code
def yX2_init : MethodName := ⟨RX2, "<init>", "()V"⟩
abbrev cX2_know : ByteArray := prog_4_method_2_code
def yX2_know : MethodName := ⟨RX2, "know", "(II)V"⟩
abbrev cX2_line : ByteArray := prog_4_method_3_code
def yX2_line : MethodName := ⟨RX2, "line", "(LNotYet$Way;I)I"⟩
abbrev cX2_value : ByteArray := prog_4_method_4_code
def yX2_value : MethodName := ⟨RX2, "value", "(LNotYet$Way;I)I"⟩
abbrev cX2_run : ByteArray := prog_4_method_5_code
def yX2_run : MethodName := ⟨RX2, "run", "(LNotYet$Way;II)I"⟩
abbrev cX2_join : ByteArray := prog_4_method_6_code
def yX2_join : MethodName := ⟨RX2, "join", "(III)I"⟩
abbrev cX3_init : ByteArray := prog_5_method_1_code
def yX3_init : MethodName := ⟨RX3, "<init>", "()V"⟩
abbrev cX3_version : ByteArray := prog_5_method_2_code
def yX3_version : MethodName := ⟨RX3, "version", "()I"⟩
abbrev cX3_isSide : ByteArray := prog_5_method_3_code
def yX3_isSide : MethodName := ⟨RX3, "isSide", "(I)Z"⟩
abbrev cX3_isSort : ByteArray := prog_5_method_4_code
def yX3_isSort : MethodName := ⟨RX3, "isSort", "(II)Z"⟩
abbrev cX3_count : ByteArray := prog_5_method_5_code
def yX3_count : MethodName := ⟨RX3, "count", "(I)I"⟩
abbrev cX3_resize : ByteArray := prog_5_method_6_code
def yX3_resize : MethodName := ⟨RX3, "resize", "(II)V"⟩
abbrev cX3_describe : ByteArray := prog_5_method_7_code
def yX3_describe : MethodName := ⟨RX3, "describe", "(IIII)Z"⟩
abbrev cX3_tell : ByteArray := prog_5_method_8_code
def yX3_tell : MethodName := ⟨RX3, "tell", "(IIII)V"⟩
abbrev cX3_change : ByteArray := prog_5_method_9_code
def yX3_change : MethodName := ⟨RX3, "change", "(II)Z"⟩
abbrev cX3_setting : ByteArray := prog_5_method_10_code
def yX3_setting : MethodName := ⟨RX3, "setting", "(I)I"⟩
abbrev cX3_lookOf : ByteArray := prog_5_method_11_code
def yX3_lookOf : MethodName := ⟨RX3, "lookOf", "(II)I"⟩
abbrev cX3_oftenOf : ByteArray := prog_5_method_12_code
def yX3_oftenOf : MethodName := ⟨RX3, "oftenOf", "(II)I"⟩
abbrev cX3_worthTo : ByteArray := prog_5_method_13_code
def yX3_worthTo : MethodName := ⟨RX3, "worthTo", "(III)I"⟩
abbrev cX3_bestLook : ByteArray := prog_5_method_14_code
def yX3_bestLook : MethodName := ⟨RX3, "bestLook", "(I)I"⟩
abbrev cX3_falls : ByteArray := prog_5_method_15_code
def yX3_falls : MethodName := ⟨RX3, "falls", "(I)Z"⟩
abbrev cX4_init : ByteArray := prog_6_method_1_code
def yX4_init : MethodName := ⟨RX4, "<init>", "(IIILNotYet$Way;)V"⟩
abbrev cX4_isSingle : ByteArray := prog_6_method_2_code
def yX4_isSingle : MethodName := ⟨RX4, "isSingle", "()Z"⟩
abbrev cX4_bind : ByteArray := prog_6_method_3_code
def yX4_bind : MethodName := ⟨RX4, "bind", "(LNotYet$Person;I)V"⟩
abbrev cX4_free : ByteArray := prog_6_method_4_code
def yX4_free : MethodName := ⟨RX4, "free", "()V"⟩
abbrev cX5_init : ByteArray := prog_7_method_1_code
def yX5_init : MethodName := ⟨RX5, "<init>", "(LNotYet$Feast;)V"⟩
abbrev cX5_clear : ByteArray := prog_7_method_2_code
def yX5_clear : MethodName := ⟨RX5, "clear", "()V"⟩
abbrev cX5_ask : ByteArray := prog_7_method_3_code
def yX5_ask : MethodName := ⟨RX5, "ask", "(II)V"⟩
abbrev cX5_left : ByteArray := prog_7_method_4_code
def yX5_left : MethodName := ⟨RX5, "left", "(II)I"⟩
abbrev cX5_wantedBy : ByteArray := prog_7_method_5_code
def yX5_wantedBy : MethodName := ⟨RX5, "wantedBy", "(I)I"⟩
abbrev cX5_priceFits : ByteArray := prog_7_method_6_code
def yX5_priceFits : MethodName := ⟨RX5, "priceFits", "()Z"⟩
abbrev cX5_leastOf : ByteArray := prog_7_method_7_code
def yX5_leastOf : MethodName := ⟨RX5, "leastOf", "(I)I"⟩
abbrev cX5_pushUp : ByteArray := prog_7_method_8_code
def yX5_pushUp : MethodName := ⟨RX5, "pushUp", "(II)V"⟩
abbrev cX6_init : ByteArray := prog_8_method_1_code
def yX6_init : MethodName := ⟨RX6, "<init>", "(LNotYet$Market;)V"⟩
abbrev cX6_falling : ByteArray := prog_8_method_2_code
def yX6_falling : MethodName := ⟨RX6, "falling", "()Z"⟩
abbrev cX6_count : ByteArray := prog_8_method_3_code
def yX6_count : MethodName := ⟨RX6, "count", "()I"⟩
abbrev cX6_detail : ByteArray := prog_8_method_4_code
def yX6_detail : MethodName := ⟨RX6, "detail", "(II)I"⟩
abbrev cX6_inNone : ByteArray := prog_8_method_5_code
def yX6_inNone : MethodName := ⟨RX6, "inNone", "(I)I"⟩
abbrev cX6_refresh : ByteArray := prog_8_method_6_code
def yX6_refresh : MethodName := ⟨RX6, "refresh", "()V"⟩
abbrev cX6_addClass : ByteArray := prog_8_method_7_code
def yX6_addClass : MethodName := ⟨RX6, "addClass", "()Z"⟩
abbrev cX6_choose : ByteArray := prog_8_method_8_code
def yX6_choose : MethodName := ⟨RX6, "choose", "(II)V"⟩
abbrev cX7_init : ByteArray := prog_9_method_1_code
def yX7_init : MethodName := ⟨RX7, "<init>", "(LNotYet$Tape;)V"⟩
abbrev cX7_draft : ByteArray := prog_9_method_2_code
def yX7_draft : MethodName := ⟨RX7, "draft", "()LNotYet$Way;"⟩
abbrev cX7_kindOfFault : ByteArray := prog_9_method_3_code
def yX7_kindOfFault : MethodName := ⟨RX7, "kindOfFault", "()I"⟩
abbrev cX7_placeOfFault : ByteArray := prog_9_method_4_code
def yX7_placeOfFault : MethodName := ⟨RX7, "placeOfFault", "()I"⟩
abbrev cX7_forget : ByteArray := prog_9_method_5_code
def yX7_forget : MethodName := ⟨RX7, "forget", "()V"⟩
abbrev cX7_read : ByteArray := prog_9_method_6_code
def yX7_read : MethodName := ⟨RX7, "read", "()Z"⟩
abbrev cX7_readLine : ByteArray := prog_9_method_7_code
def yX7_readLine : MethodName := ⟨RX7, "readLine", "()V"⟩
abbrev cX7_readEither : ByteArray := prog_9_method_8_code
def yX7_readEither : MethodName := ⟨RX7, "readEither", "(I)V"⟩
abbrev cX7_readClaim : ByteArray := prog_9_method_9_code
def yX7_readClaim : MethodName := ⟨RX7, "readClaim", "(I)V"⟩
abbrev cX7_comparison : ByteArray := prog_9_method_10_code
def yX7_comparison : MethodName := ⟨RX7, "comparison", "()I"⟩
abbrev cX7_readSum : ByteArray := prog_9_method_11_code
def yX7_readSum : MethodName := ⟨RX7, "readSum", "()V"⟩
abbrev cX7_readUnit : ByteArray := prog_9_method_12_code
def yX7_readUnit : MethodName := ⟨RX7, "readUnit", "()V"⟩
abbrev cX7_readDivisor : ByteArray := prog_9_method_13_code
def yX7_readDivisor : MethodName := ⟨RX7, "readDivisor", "()V"⟩
abbrev cX7_step : ByteArray := prog_9_method_14_code
def yX7_step : MethodName := ⟨RX7, "step", "()V"⟩
abbrev cX7_blame : ByteArray := prog_9_method_15_code
def yX7_blame : MethodName := ⟨RX7, "blame", "(I)V"⟩
abbrev cX8_init : ByteArray := prog_10_method_1_code
def yX8_init : MethodName := ⟨RX8, "<init>", "()V"⟩
abbrev cX8_size : ByteArray := prog_10_method_2_code
def yX8_size : MethodName := ⟨RX8, "size", "()I"⟩
abbrev cX8_hasRoom : ByteArray := prog_10_method_3_code
def yX8_hasRoom : MethodName := ⟨RX8, "hasRoom", "()Z"⟩
abbrev cX8_put : ByteArray := prog_10_method_4_code
def yX8_put : MethodName := ⟨RX8, "put", "(I)V"⟩
abbrev cX8_cut : ByteArray := prog_10_method_5_code
def yX8_cut : MethodName := ⟨RX8, "cut", "(I)Z"⟩
abbrev cX8_kind : ByteArray := prog_10_method_6_code
def yX8_kind : MethodName := ⟨RX8, "kind", "(I)I"⟩
abbrev cX8_number : ByteArray := prog_10_method_7_code
def yX8_number : MethodName := ⟨RX8, "number", "(I)I"⟩
abbrev cX8_makeTokens : ByteArray := prog_10_method_8_code
def yX8_makeTokens : MethodName := ⟨RX8, "makeTokens", "()V"⟩
abbrev cX8_keep : ByteArray := prog_10_method_9_code
def yX8_keep : MethodName := ⟨RX8, "keep", "(III)V"⟩
abbrev cX8_makeOne : ByteArray := prog_10_method_10_code
def yX8_makeOne : MethodName := ⟨RX8, "makeOne", "(II)I"⟩
abbrev cX8_makeWord : ByteArray := prog_10_method_11_code
def yX8_makeWord : MethodName := ⟨RX8, "makeWord", "(I)I"⟩
abbrev cX8_makeNumber : ByteArray := prog_10_method_12_code
def yX8_makeNumber : MethodName := ⟨RX8, "makeNumber", "(I)I"⟩
abbrev cX8_keyword : ByteArray := prog_10_method_13_code
def yX8_keyword : MethodName := ⟨RX8, "keyword", "(II)I"⟩
abbrev cX8_spells : ByteArray := prog_10_method_14_code
def yX8_spells : MethodName := ⟨RX8, "spells", "(III)Z"⟩
abbrev cX8_signAt : ByteArray := prog_10_method_15_code
def yX8_signAt : MethodName := ⟨RX8, "signAt", "(I)I"⟩
abbrev cX8_isLetter : ByteArray := prog_10_method_16_code
def yX8_isLetter : MethodName := ⟨RX8, "isLetter", "(I)Z"⟩
abbrev cX8_isDigit : ByteArray := prog_10_method_17_code
def yX8_isDigit : MethodName := ⟨RX8, "isDigit", "(I)Z"⟩
abbrev cX9_init : ByteArray := prog_11_method_1_code
def yX9_init : MethodName := ⟨RX9, "<init>", "(LNotYet$Market;)V"⟩
abbrev cX9_behind : ByteArray := prog_11_method_2_code
def yX9_behind : MethodName := ⟨RX9, "behind", "(III)I"⟩
abbrev cX9_refresh : ByteArray := prog_11_method_3_code
def yX9_refresh : MethodName := ⟨RX9, "refresh", "()V"⟩
abbrev cX9_gatherWorths : ByteArray := prog_11_method_4_code
def yX9_gatherWorths : MethodName := ⟨RX9, "gatherWorths", "()V"⟩
abbrev cX9_ahead : ByteArray := prog_11_method_5_code
def yX9_ahead : MethodName := ⟨RX9, "ahead", "(III)I"⟩
abbrev cX10_init : ByteArray := prog_12_method_1_code
def yX10_init : MethodName := ⟨RX10, "<init>", "()V"⟩
abbrev cX10_lines : ByteArray := prog_12_method_2_code
def yX10_lines : MethodName := ⟨RX10, "lines", "()I"⟩
abbrev cX10_clear : ByteArray := prog_12_method_3_code
def yX10_clear : MethodName := ⟨RX10, "clear", "()V"⟩
abbrev cX10_copy : ByteArray := prog_12_method_4_code
def yX10_copy : MethodName := ⟨RX10, "copy", "(LNotYet$Way;)V"⟩
abbrev cX10_put : ByteArray := prog_12_method_5_code
def yX10_put : MethodName := ⟨RX10, "put", "(I)V"⟩
abbrev cX10_open : ByteArray := prog_12_method_6_code
def yX10_open : MethodName := ⟨RX10, "open", "(I)V"⟩
abbrev cX10_markMiddle : ByteArray := prog_12_method_7_code
def yX10_markMiddle : MethodName := ⟨RX10, "markMiddle", "()V"⟩
abbrev cX10_close : ByteArray := prog_12_method_8_code
def yX10_close : MethodName := ⟨RX10, "close", "()V"⟩
abbrev cX10_begins : ByteArray := prog_12_method_9_code
def yX10_begins : MethodName := ⟨RX10, "begins", "(II)Z"⟩
abbrev cX10_start : ByteArray := prog_12_method_10_code
def yX10_start : MethodName := ⟨RX10, "start", "(I)I"⟩
abbrev cX10_middle : ByteArray := prog_12_method_11_code
def yX10_middle : MethodName := ⟨RX10, "middle", "(I)I"⟩
abbrev cX10_finish : ByteArray := prog_12_method_12_code
def yX10_finish : MethodName := ⟨RX10, "finish", "(I)I"⟩
abbrev cX10_step : ByteArray := prog_12_method_13_code
def yX10_step : MethodName := ⟨RX10, "step", "(I)I"⟩
abbrev cX11_init : ByteArray := prog_1_method_1_code
def yX11_init : MethodName := ⟨RX11, "<init>", "()V"⟩
abbrev cX11_sorts : ByteArray := prog_1_method_2_code
def yX11_sorts : MethodName := ⟨RX11, "sorts", "(II)Z"⟩
abbrev cX11_look : ByteArray := prog_1_method_3_code
def yX11_look : MethodName := ⟨RX11, "look", "(IIII)Z"⟩
abbrev cX11_worth : ByteArray := prog_1_method_4_code
def yX11_worth : MethodName := ⟨RX11, "worth", "(IIII)Z"⟩
abbrev cX11_set : ByteArray := prog_1_method_5_code
def yX11_set : MethodName := ⟨RX11, "set", "(II)Z"⟩
abbrev cX11_classes : ByteArray := prog_1_method_6_code
def yX11_classes : MethodName := ⟨RX11, "classes", "(II)I"⟩
abbrev cX11_patience : ByteArray := prog_1_method_7_code
def yX11_patience : MethodName := ⟨RX11, "patience", "(III)I"⟩
abbrev cX11_pairs : ByteArray := prog_1_method_8_code
def yX11_pairs : MethodName := ⟨RX11, "pairs", "(IIII)I"⟩
abbrev cX11_feed : ByteArray := prog_1_method_9_code
def yX11_feed : MethodName := ⟨RX11, "feed", "(IIIII)I"⟩
abbrev cX11_end : ByteArray := prog_1_method_10_code
def yX11_end : MethodName := ⟨RX11, "end", "(I)Z"⟩
abbrev cX11_way : ByteArray := prog_1_method_11_code
def yX11_way : MethodName := ⟨RX11, "way", "(I)I"⟩
abbrev cX11_fault : ByteArray := prog_1_method_12_code
def yX11_fault : MethodName := ⟨RX11, "fault", "(I)I"⟩
abbrev cX11_come : ByteArray := prog_1_method_13_code
def yX11_come : MethodName := ⟨RX11, "come", "(III)I"⟩
abbrev cX11_state : ByteArray := prog_1_method_14_code
def yX11_state : MethodName := ⟨RX11, "state", "(I)I"⟩
abbrev cX11_weeks : ByteArray := prog_1_method_15_code
def yX11_weeks : MethodName := ⟨RX11, "weeks", "(I)I"⟩
abbrev cX11_one : ByteArray := prog_1_method_16_code
def yX11_one : MethodName := ⟨RX11, "one", "(II)I"⟩
abbrev cX11_all : ByteArray := prog_1_method_17_code
def yX11_all : MethodName := ⟨RX11, "all", "(III)I"⟩
abbrev cX11_town : ByteArray := prog_1_method_18_code
def yX11_town : MethodName := ⟨RX11, "town", "(I)I"⟩
abbrev cX11_feast : ByteArray := prog_1_method_19_code
def yX11_feast : MethodName := ⟨RX11, "feast", "(I)Z"⟩
abbrev cX11_likes : ByteArray := prog_1_method_20_code
def yX11_likes : MethodName := ⟨RX11, "likes", "(IIII)Z"⟩
abbrev cX11_holds : ByteArray := prog_1_method_21_code
def yX11_holds : MethodName := ⟨RX11, "holds", "()I"⟩
abbrev cX11_pairing : ByteArray := prog_1_method_22_code
def yX11_pairing : MethodName := ⟨RX11, "pairing", "(II)I"⟩
abbrev cX11_mended : ByteArray := prog_1_method_23_code
def yX11_mended : MethodName := ⟨RX11, "mended", "()I"⟩
abbrev cX11_price : ByteArray := prog_1_method_24_code
def yX11_price : MethodName := ⟨RX11, "price", "(II)Z"⟩
abbrev cX11_sums : ByteArray := prog_1_method_25_code
def yX11_sums : MethodName := ⟨RX11, "sums", "(II)I"⟩
abbrev cX12_init : ByteArray := prog_14_method_1_code
def yX12_init : MethodName := ⟨RX12, "<init>", "()V"⟩
abbrev cX12_isIn : ByteArray := prog_14_method_3_code
def yX12_isIn : MethodName := ⟨RX12, "isIn", "(III)Z"⟩
abbrev cX12_isSide : ByteArray := prog_14_method_4_code
def yX12_isSide : MethodName := ⟨RX12, "isSide", "(I)Z"⟩
abbrev cX12_isSort : ByteArray := prog_14_method_5_code
def yX12_isSort : MethodName := ⟨RX12, "isSort", "(II)Z"⟩
abbrev cX12_sorts : ByteArray := prog_14_method_6_code
def yX12_sorts : MethodName := ⟨RX12, "sorts", "(II)Z"⟩
abbrev cX12_look : ByteArray := prog_14_method_7_code
def yX12_look : MethodName := ⟨RX12, "look", "(IIII)Z"⟩
abbrev cX12_worth : ByteArray := prog_14_method_8_code
def yX12_worth : MethodName := ⟨RX12, "worth", "(IIII)Z"⟩
abbrev cX12_worthTo : ByteArray := prog_14_method_9_code
def yX12_worthTo : MethodName := ⟨RX12, "worthTo", "(III)I"⟩
abbrev cX12_set : ByteArray := prog_14_method_10_code
def yX12_set : MethodName := ⟨RX12, "set", "(II)Z"⟩
abbrev cX12_areFalling : ByteArray := prog_14_method_11_code
def yX12_areFalling : MethodName := ⟨RX12, "areFalling", "()Z"⟩
abbrev cX12_barFrom : ByteArray := prog_14_method_12_code
def yX12_barFrom : MethodName := ⟨RX12, "barFrom", "(II)I"⟩
abbrev cX12_findsClasses : ByteArray := prog_14_method_13_code
def yX12_findsClasses : MethodName := ⟨RX12, "findsClasses", "()V"⟩
abbrev cX12_classes : ByteArray := prog_14_method_14_code
def yX12_classes : MethodName := ⟨RX12, "classes", "(II)I"⟩
abbrev cX12_waitOf : ByteArray := prog_14_method_15_code
def yX12_waitOf : MethodName := ⟨RX12, "waitOf", "(III)I"⟩
abbrev cX12_takes : ByteArray := prog_14_method_16_code
def yX12_takes : MethodName := ⟨RX12, "takes", "(IIII)Z"⟩
abbrev cX12_waitAhead : ByteArray := prog_14_method_17_code
def yX12_waitAhead : MethodName := ⟨RX12, "waitAhead", "(III)I"⟩
abbrev cX12_findsWaits : ByteArray := prog_14_method_18_code
def yX12_findsWaits : MethodName := ⟨RX12, "findsWaits", "()V"⟩
abbrev cX12_patience : ByteArray := prog_14_method_19_code
def yX12_patience : MethodName := ⟨RX12, "patience", "(III)I"⟩
abbrev cX12_pairs : ByteArray := prog_14_method_20_code
def yX12_pairs : MethodName := ⟨RX12, "pairs", "(IIII)I"⟩
abbrev cX12_puts : ByteArray := prog_14_method_21_code
def yX12_puts : MethodName := ⟨RX12, "puts", "(I)V"⟩
abbrev cX12_feed : ByteArray := prog_14_method_22_code
def yX12_feed : MethodName := ⟨RX12, "feed", "(IIIII)I"⟩
abbrev cX12_end : ByteArray := prog_14_method_23_code
def yX12_end : MethodName := ⟨RX12, "end", "(I)Z"⟩
abbrev cX12_raw : ByteArray := prog_14_method_24_code
def yX12_raw : MethodName := ⟨RX12, "raw", "(I)I"⟩
abbrev cX12_isLetter : ByteArray := prog_14_method_25_code
def yX12_isLetter : MethodName := ⟨RX12, "isLetter", "(I)Z"⟩
abbrev cX12_isDigit : ByteArray := prog_14_method_26_code
def yX12_isDigit : MethodName := ⟨RX12, "isDigit", "(I)Z"⟩
abbrev cX12_isMarkSign : ByteArray := prog_14_method_27_code
def yX12_isMarkSign : MethodName := ⟨RX12, "isMarkSign", "(I)Z"⟩
abbrev cX12_wordAt : ByteArray := prog_14_method_28_code
def yX12_wordAt : MethodName := ⟨RX12, "wordAt", "(II)I"⟩
abbrev cX12_reads : ByteArray := prog_14_method_29_code
def yX12_reads : MethodName := ⟨RX12, "reads", "()V"⟩
abbrev cX12_fails : ByteArray := prog_14_method_30_code
def yX12_fails : MethodName := ⟨RX12, "fails", "(I)I"⟩
abbrev cX12_isWord : ByteArray := prog_14_method_31_code
def yX12_isWord : MethodName := ⟨RX12, "isWord", "(I)Z"⟩
abbrev cX12_isSign : ByteArray := prog_14_method_32_code
def yX12_isSign : MethodName := ⟨RX12, "isSign", "(I)Z"⟩
abbrev cX12_emits : ByteArray := prog_14_method_33_code
def yX12_emits : MethodName := ⟨RX12, "emits", "(II)V"⟩
abbrev cX12_readUnit : ByteArray := prog_14_method_34_code
def yX12_readUnit : MethodName := ⟨RX12, "readUnit", "()I"⟩
abbrev cX12_readProduct : ByteArray := prog_14_method_35_code
def yX12_readProduct : MethodName := ⟨RX12, "readProduct", "()I"⟩
abbrev cX12_readSum : ByteArray := prog_14_method_36_code
def yX12_readSum : MethodName := ⟨RX12, "readSum", "()I"⟩
abbrev cX12_readCompared : ByteArray := prog_14_method_37_code
def yX12_readCompared : MethodName := ⟨RX12, "readCompared", "()I"⟩
abbrev cX12_waitsFor : ByteArray := prog_14_method_38_code
def yX12_waitsFor : MethodName := ⟨RX12, "waitsFor", "(I)V"⟩
abbrev cX12_settles : ByteArray := prog_14_method_39_code
def yX12_settles : MethodName := ⟨RX12, "settles", "(I)V"⟩
abbrev cX12_readAny : ByteArray := prog_14_method_40_code
def yX12_readAny : MethodName := ⟨RX12, "readAny", "()I"⟩
abbrev cX12_readLine : ByteArray := prog_14_method_41_code
def yX12_readLine : MethodName := ⟨RX12, "readLine", "(I)I"⟩
abbrev cX12_readWay : ByteArray := prog_14_method_42_code
def yX12_readWay : MethodName := ⟨RX12, "readWay", "()I"⟩
abbrev cX12_way : ByteArray := prog_14_method_43_code
def yX12_way : MethodName := ⟨RX12, "way", "(I)I"⟩
abbrev cX12_fault : ByteArray := prog_14_method_44_code
def yX12_fault : MethodName := ⟨RX12, "fault", "(I)I"⟩
abbrev cX12_isOne : ByteArray := prog_14_method_45_code
def yX12_isOne : MethodName := ⟨RX12, "isOne", "(I)Z"⟩
abbrev cX12_come : ByteArray := prog_14_method_46_code
def yX12_come : MethodName := ⟨RX12, "come", "(III)I"⟩
abbrev cX12_state : ByteArray := prog_14_method_47_code
def yX12_state : MethodName := ⟨RX12, "state", "(I)I"⟩
abbrev cX12_twoOf : ByteArray := prog_14_method_48_code
def yX12_twoOf : MethodName := ⟨RX12, "twoOf", "(III)I"⟩
abbrev cX12_comesTo : ByteArray := prog_14_method_49_code
def yX12_comesTo : MethodName := ⟨RX12, "comesTo", "(III)I"⟩
abbrev cX12_asksOf : ByteArray := prog_14_method_50_code
def yX12_asksOf : MethodName := ⟨RX12, "asksOf", "(I)V"⟩
abbrev cX12_saysOf : ByteArray := prog_14_method_51_code
def yX12_saysOf : MethodName := ⟨RX12, "saysOf", "(II)I"⟩
abbrev cX12_worthFor : ByteArray := prog_14_method_52_code
def yX12_worthFor : MethodName := ⟨RX12, "worthFor", "(II)I"⟩
abbrev cX12_draw : ByteArray := prog_14_method_53_code
def yX12_draw : MethodName := ⟨RX12, "draw", "(I)I"⟩
abbrev cX12_becomePair : ByteArray := prog_14_method_54_code
def yX12_becomePair : MethodName := ⟨RX12, "becomePair", "(IIII)V"⟩
abbrev cX12_frees : ByteArray := prog_14_method_55_code
def yX12_frees : MethodName := ⟨RX12, "frees", "(I)V"⟩
abbrev cX12_looksAgain : ByteArray := prog_14_method_56_code
def yX12_looksAgain : MethodName := ⟨RX12, "looksAgain", "()V"⟩
abbrev cX12_canMeet : ByteArray := prog_14_method_57_code
def yX12_canMeet : MethodName := ⟨RX12, "canMeet", "(I)Z"⟩
abbrev cX12_meets : ByteArray := prog_14_method_58_code
def yX12_meets : MethodName := ⟨RX12, "meets", "()I"⟩
abbrev cX12_seenBy : ByteArray := prog_14_method_59_code
def yX12_seenBy : MethodName := ⟨RX12, "seenBy", "(II)I"⟩
abbrev cX12_meeting : ByteArray := prog_14_method_60_code
def yX12_meeting : MethodName := ⟨RX12, "meeting", "(I)V"⟩
abbrev cX12_goesBy : ByteArray := prog_14_method_61_code
def yX12_goesBy : MethodName := ⟨RX12, "goesBy", "()V"⟩
abbrev cX12_pairMany : ByteArray := prog_14_method_62_code
def yX12_pairMany : MethodName := ⟨RX12, "pairMany", "()I"⟩
abbrev cX12_weeks : ByteArray := prog_14_method_63_code
def yX12_weeks : MethodName := ⟨RX12, "weeks", "(I)I"⟩
abbrev cX12_one : ByteArray := prog_14_method_64_code
def yX12_one : MethodName := ⟨RX12, "one", "(II)I"⟩
abbrev cX12_all : ByteArray := prog_14_method_65_code
def yX12_all : MethodName := ⟨RX12, "all", "(III)I"⟩
abbrev cX12_town : ByteArray := prog_14_method_66_code
def yX12_town : MethodName := ⟨RX12, "town", "(I)I"⟩
abbrev cX12_feast : ByteArray := prog_14_method_67_code
def yX12_feast : MethodName := ⟨RX12, "feast", "(I)Z"⟩
abbrev cX12_isGuest : ByteArray := prog_14_method_68_code
def yX12_isGuest : MethodName := ⟨RX12, "isGuest", "(I)Z"⟩
abbrev cX12_likes : ByteArray := prog_14_method_69_code
def yX12_likes : MethodName := ⟨RX12, "likes", "(IIII)Z"⟩
abbrev cX12_isMore : ByteArray := prog_14_method_70_code
def yX12_isMore : MethodName := ⟨RX12, "isMore", "(IIII)Z"⟩
abbrev cX12_isHeld : ByteArray := prog_14_method_71_code
def yX12_isHeld : MethodName := ⟨RX12, "isHeld", "()Z"⟩
abbrev cX12_bothOf : ByteArray := prog_14_method_72_code
def yX12_bothOf : MethodName := ⟨RX12, "bothOf", "(II)I"⟩
abbrev cX12_sumOfRow : ByteArray := prog_14_method_73_code
def yX12_sumOfRow : MethodName := ⟨RX12, "sumOfRow", "()I"⟩
abbrev cX12_nextRow : ByteArray := prog_14_method_74_code
def yX12_nextRow : MethodName := ⟨RX12, "nextRow", "()Z"⟩
abbrev cX12_takesRow : ByteArray := prog_14_method_75_code
def yX12_takesRow : MethodName := ⟨RX12, "takesRow", "()V"⟩
abbrev cX12_findsPrices : ByteArray := prog_14_method_76_code
def yX12_findsPrices : MethodName := ⟨RX12, "findsPrices", "()V"⟩
abbrev cX12_findsPairings : ByteArray := prog_14_method_77_code
def yX12_findsPairings : MethodName := ⟨RX12, "findsPairings", "()V"⟩
abbrev cX12_holds : ByteArray := prog_14_method_78_code
def yX12_holds : MethodName := ⟨RX12, "holds", "()I"⟩
abbrev cX12_womanAt : ByteArray := prog_14_method_79_code
def yX12_womanAt : MethodName := ⟨RX12, "womanAt", "(II)I"⟩
abbrev cX12_manAt : ByteArray := prog_14_method_80_code
def yX12_manAt : MethodName := ⟨RX12, "manAt", "(II)I"⟩
abbrev cX12_isBestFor : ByteArray := prog_14_method_81_code
def yX12_isBestFor : MethodName := ⟨RX12, "isBestFor", "(III)Z"⟩
abbrev cX12_bestOf : ByteArray := prog_14_method_82_code
def yX12_bestOf : MethodName := ⟨RX12, "bestOf", "(I)I"⟩
abbrev cX12_pairing : ByteArray := prog_14_method_83_code
def yX12_pairing : MethodName := ⟨RX12, "pairing", "(II)I"⟩
abbrev cX12_mended : ByteArray := prog_14_method_84_code
def yX12_mended : MethodName := ⟨RX12, "mended", "()I"⟩
abbrev cX12_price : ByteArray := prog_14_method_85_code
def yX12_price : MethodName := ⟨RX12, "price", "(II)Z"⟩
abbrev cX12_wanted : ByteArray := prog_14_method_86_code
def yX12_wanted : MethodName := ⟨RX12, "wanted", "(I)I"⟩
abbrev cX12_sums : ByteArray := prog_14_method_87_code
def yX12_sums : MethodName := ⟨RX12, "sums", "(II)I"⟩
abbrev cJ11_isValidCodePoint_9a6ad : ByteArray := prog_16_method_11_code
def yJ11_isValidCodePoint_9a6ad : MethodName := ⟨RJ11, "isValidCodePoint", "(I)Z"⟩
abbrev cJ11_highSurrogate_5068e : ByteArray := prog_16_method_28_code
def yJ11_highSurrogate_5068e : MethodName := ⟨RJ11, "highSurrogate", "(I)C"⟩
abbrev cJ11_lowSurrogate_5068e : ByteArray := prog_16_method_29_code
def yJ11_lowSurrogate_5068e : MethodName := ⟨RJ11, "lowSurrogate", "(I)C"⟩
abbrev cJ6_bitCount_0f7a4 : ByteArray := prog_18_method_49_code
def yJ6_bitCount_0f7a4 : MethodName := ⟨RJ6, "bitCount", "(I)I"⟩
abbrev cJ9_max_7cf53 : ByteArray := prog_20_method_65_code
def yJ9_max_7cf53 : MethodName := ⟨RJ9, "max", "(II)I"⟩
abbrev cJ9_min_7cf53 : ByteArray := prog_20_method_69_code
def yJ9_min_7cf53 : MethodName := ⟨RJ9, "min", "(II)I"⟩
abbrev cJ0_length_8abf5 : ByteArray := prog_21_method_54_code
def yJ0_length_8abf5 : MethodName := ⟨RJ0, "length", "()I"⟩
abbrev cJ0_charAt_5068e : ByteArray := prog_21_method_56_code
def yJ0_charAt_5068e : MethodName := ⟨RJ0, "charAt", "(I)C"⟩
abbrev cJ0_indexOf_0f7a4 : ByteArray := prog_21_method_79_code
def yJ0_indexOf_0f7a4 : MethodName := ⟨RJ0, "indexOf", "(I)I"⟩
abbrev cJ0_indexOf_7cf53 : ByteArray := prog_21_method_80_code
def yJ0_indexOf_7cf53 : MethodName := ⟨RJ0, "indexOf", "(II)I"⟩
abbrev cJ0_coder_7d493 : ByteArray := prog_21_method_152_code
def yJ0_coder_7d493 : MethodName := ⟨RJ0, "coder", "()B"⟩
abbrev cJ0_isLatin1_aae02 : ByteArray := prog_21_method_154_code
def yJ0_isLatin1_aae02 : MethodName := ⟨RJ0, "isLatin1", "()Z"⟩
abbrev cJ0_checkIndex_df160 : ByteArray := prog_21_method_155_code
def yJ0_checkIndex_df160 : MethodName := ⟨RJ0, "checkIndex", "(II)V"⟩
abbrev cJ0_checkBoundsBeginEnd_23922 : ByteArray := prog_21_method_158_code
def yJ0_checkBoundsBeginEnd_23922 : MethodName := ⟨RJ0, "checkBoundsBeginEnd", "(III)V"⟩
abbrev cJ1_charAt_3b067 : ByteArray := prog_22_method_2_code
def yJ1_charAt_3b067 : MethodName := ⟨RJ1, "charAt", "([BI)C"⟩
abbrev cJ1_canEncode_9a6ad : ByteArray := prog_22_method_4_code
def yJ1_canEncode_9a6ad : MethodName := ⟨RJ1, "canEncode", "(I)Z"⟩
abbrev cJ1_indexOf_4cfef : ByteArray := prog_22_method_22_code
def yJ1_indexOf_4cfef : MethodName := ⟨RJ1, "indexOf", "([BIII)I"⟩
abbrev cJ1_indexOfChar_4cfef : ByteArray := prog_22_method_23_code
def yJ1_indexOfChar_4cfef : MethodName := ⟨RJ1, "indexOfChar", "([BIII)I"⟩
abbrev cJ2_getChar_3b067 : ByteArray := prog_23_method_5_code
def yJ2_getChar_3b067 : MethodName := ⟨RJ2, "getChar", "([BI)C"⟩
abbrev cJ2_length_9d52b : ByteArray := prog_23_method_6_code
def yJ2_length_9d52b : MethodName := ⟨RJ2, "length", "([B)I"⟩
abbrev cJ2_indexOf_4cfef : ByteArray := prog_23_method_40_code
def yJ2_indexOf_4cfef : MethodName := ⟨RJ2, "indexOf", "([BIII)I"⟩
abbrev cJ2_indexOfChar_4cfef : ByteArray := prog_23_method_47_code
def yJ2_indexOfChar_4cfef : MethodName := ⟨RJ2, "indexOfChar", "([BIII)I"⟩
abbrev cJ2_indexOfCharUnsafe_4cfef : ByteArray := prog_23_method_48_code
def yJ2_indexOfCharUnsafe_4cfef : MethodName := ⟨RJ2, "indexOfCharUnsafe", "([BIII)I"⟩
abbrev cJ2_indexOfSupplementary_4cfef : ByteArray := prog_23_method_49_code
def yJ2_indexOfSupplementary_4cfef : MethodName := ⟨RJ2, "indexOfSupplementary", "([BIII)I"⟩
abbrev cJ2_charAt_3b067 : ByteArray := prog_23_method_83_code
def yJ2_charAt_3b067 : MethodName := ⟨RJ2, "charAt", "([BI)C"⟩
abbrev cJ2_checkIndex_2214a : ByteArray := prog_23_method_91_code
def yJ2_checkIndex_2214a : MethodName := ⟨RJ2, "checkIndex", "(I[B)V"⟩
abbrev cJ2_checkBoundsBeginEnd_d044e : ByteArray := prog_23_method_93_code
def yJ2_checkBoundsBeginEnd_d044e : MethodName := ⟨RJ2, "checkBoundsBeginEnd", "(II[B)V"⟩
abbrev cJxa1e45_init_da8c8 : ByteArray := prog_25_method_1_code
def yJxa1e45_init_da8c8 : MethodName := ⟨RJxa1e45, "<init>", "()V"⟩
abbrev cJxc12de_init_da8c8 : ByteArray := prog_26_method_1_code
def yJxc12de_init_da8c8 : MethodName := ⟨RJxc12de, "<init>", "()V"⟩
abbrev cJx4a65c_init_da8c8 : ByteArray := prog_27_method_2_code
def yJx4a65c_init_da8c8 : MethodName := ⟨RJx4a65c, "<init>", "()V"⟩
abbrev cJx4a65c_grow_92f84 : ByteArray := prog_27_method_6_code
def yJx4a65c_grow_92f84 : MethodName := ⟨RJx4a65c, "grow", "(I)[Ljava/lang/Object;"⟩
abbrev cJx4a65c_grow_d5877 : ByteArray := prog_27_method_7_code
def yJx4a65c_grow_d5877 : MethodName := ⟨RJx4a65c, "grow", "()[Ljava/lang/Object;"⟩
abbrev cJx4a65c_size_8abf5 : ByteArray := prog_27_method_8_code
def yJx4a65c_size_8abf5 : MethodName := ⟨RJx4a65c, "size", "()I"⟩
abbrev cJx4a65c_elementData_915e3 : ByteArray := prog_27_method_18_code
def yJx4a65c_elementData_915e3 : MethodName := ⟨RJx4a65c, "elementData", "(I)Ljava/lang/Object;"⟩
abbrev cJx4a65c_get_915e3 : ByteArray := prog_27_method_20_code
def yJx4a65c_get_915e3 : MethodName := ⟨RJx4a65c, "get", "(I)Ljava/lang/Object;"⟩
abbrev cJx4a65c_add_72be8 : ByteArray := prog_27_method_24_code
def yJx4a65c_add_72be8 : MethodName := ⟨RJx4a65c, "add", "(Ljava/lang/Object;[Ljava/lang/Object;I)V"⟩
abbrev cJx4a65c_add_9ea2d : ByteArray := prog_27_method_25_code
def yJx4a65c_add_9ea2d : MethodName := ⟨RJx4a65c, "add", "(Ljava/lang/Object;)Z"⟩
abbrev cJ7_fill_53178 : ByteArray := prog_28_method_103_code
def yJ7_fill_53178 : MethodName := ⟨RJ7, "fill", "([II)V"⟩
abbrev cJ7_copyOf_1904c : ByteArray := prog_28_method_119_code
def yJ7_copyOf_1904c : MethodName := ⟨RJ7, "copyOf", "([Ljava/lang/Object;I)[Ljava/lang/Object;"⟩
abbrev cJ7_copyOf_6403c : ByteArray := prog_28_method_120_code
def yJ7_copyOf_6403c : MethodName := ⟨RJ7, "copyOf", "([Ljava/lang/Object;ILjava/lang/Class;)[Ljava/lang/Object;"⟩
abbrev cJ7_copyOf_59c91 : ByteArray := prog_28_method_123_code
def yJ7_copyOf_59c91 : MethodName := ⟨RJ7, "copyOf", "([II)[I"⟩
abbrev cJ15_checkIndex_7cf53 : ByteArray := prog_31_method_17_code
def yJ15_checkIndex_7cf53 : MethodName := ⟨RJ15, "checkIndex", "(II)I"⟩
abbrev cJ8_newLength_cabcc : ByteArray := prog_34_method_27_code
def yJ8_newLength_cabcc : MethodName := ⟨RJ8, "newLength", "(III)I"⟩
abbrev cJ8_hugeLength_7cf53 : ByteArray := prog_34_method_28_code
def yJ8_hugeLength_7cf53 : MethodName := ⟨RJ8, "hugeLength", "(II)I"⟩
abbrev cJ3_checkIndex_8e157 : ByteArray := prog_35_method_11_code
def yJ3_checkIndex_8e157 : MethodName := ⟨RJ3, "checkIndex", "(IILjava/util/function/BiFunction;)I"⟩
abbrev cJ3_checkFromToIndex_8c36e : ByteArray := prog_35_method_12_code
def yJ3_checkFromToIndex_8c36e : MethodName := ⟨RJ3, "checkFromToIndex", "(IIILjava/util/function/BiFunction;)I"⟩
