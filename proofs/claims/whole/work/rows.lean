section
-- ===== PART A: goes FIRST, ahead of the names: the tables' words, and 'selects' of the private methods out of them =====
/-- a private method of a class that the tables say can be made, by its rows of tables_1 -/
def lw_okq (q : MethodName × Nat) : Prop := (q.1.cls ≠ "java/lang/invoke/MethodHandle" ∧ q.1.cls ≠ "java/lang/invoke/VarHandle") ∧ Cond.instantiable q.1.cls q.2 ∈ tables_1 ∧ Cond.privateMethod q.1 ∈ tables_1 ∧ Cond.instanceMethod q.1 ∈ tables_1
theorem lw_p0 : lw_okq (⟨"Badgewood", "sendOutByAge", "()I"⟩, 7) := ⟨⟨by decide +kernel, by decide +kernel⟩, List.mem_of_getElem? (i := 28) (by decide +kernel), List.mem_of_getElem? (i := 121) (by decide +kernel), List.mem_of_getElem? (i := 122) (by decide +kernel)⟩
theorem lw_p1 : lw_okq (⟨"Badgewood", "sendOutOf", "(LBadgewood$Troop;)I"⟩, 7) := ⟨⟨by decide +kernel, by decide +kernel⟩, List.mem_of_getElem? (i := 28) (by decide +kernel), List.mem_of_getElem? (i := 126) (by decide +kernel), List.mem_of_getElem? (i := 127) (by decide +kernel)⟩
theorem lw_p2 : lw_okq (⟨"Badgewood", "fillUp", "(LBadgewood$Troop;)V"⟩, 7) := ⟨⟨by decide +kernel, by decide +kernel⟩, List.mem_of_getElem? (i := 28) (by decide +kernel), List.mem_of_getElem? (i := 138) (by decide +kernel), List.mem_of_getElem? (i := 139) (by decide +kernel)⟩
theorem lw_p3 : lw_okq (⟨"Badgewood", "childrenIn", "(I)I"⟩, 7) := ⟨⟨by decide +kernel, by decide +kernel⟩, List.mem_of_getElem? (i := 28) (by decide +kernel), List.mem_of_getElem? (i := 142) (by decide +kernel), List.mem_of_getElem? (i := 143) (by decide +kernel)⟩
theorem lw_p4 : lw_okq (⟨"Badgewood", "letFirstIn", "(I)I"⟩, 7) := ⟨⟨by decide +kernel, by decide +kernel⟩, List.mem_of_getElem? (i := 28) (by decide +kernel), List.mem_of_getElem? (i := 146) (by decide +kernel), List.mem_of_getElem? (i := 147) (by decide +kernel)⟩
theorem lw_p5 : lw_okq (⟨"Badgewood", "firstWaiting", "(I)LBadgewood$Child;"⟩, 7) := ⟨⟨by decide +kernel, by decide +kernel⟩, List.mem_of_getElem? (i := 28) (by decide +kernel), List.mem_of_getElem? (i := 150) (by decide +kernel), List.mem_of_getElem? (i := 151) (by decide +kernel)⟩
theorem lw_p6 : lw_okq (⟨"Badgewood", "comeIn", "(LBadgewood$Child;I)V"⟩, 7) := ⟨⟨by decide +kernel, by decide +kernel⟩, List.mem_of_getElem? (i := 28) (by decide +kernel), List.mem_of_getElem? (i := 154) (by decide +kernel), List.mem_of_getElem? (i := 155) (by decide +kernel)⟩
theorem lw_p7 : lw_okq (⟨"Badgewood", "smallestPatrol", "(I)I"⟩, 7) := ⟨⟨by decide +kernel, by decide +kernel⟩, List.mem_of_getElem? (i := 28) (by decide +kernel), List.mem_of_getElem? (i := 158) (by decide +kernel), List.mem_of_getElem? (i := 159) (by decide +kernel)⟩
theorem lw_p8 : lw_okq (⟨"Badgewood", "childrenInPatrol", "(II)I"⟩, 7) := ⟨⟨by decide +kernel, by decide +kernel⟩, List.mem_of_getElem? (i := 28) (by decide +kernel), List.mem_of_getElem? (i := 162) (by decide +kernel), List.mem_of_getElem? (i := 163) (by decide +kernel)⟩
theorem lw_p9 : lw_okq (⟨"Badgewood", "moveUp", "(LBadgewood$Child;)V"⟩, 7) := ⟨⟨by decide +kernel, by decide +kernel⟩, List.mem_of_getElem? (i := 28) (by decide +kernel), List.mem_of_getElem? (i := 169) (by decide +kernel), List.mem_of_getElem? (i := 170) (by decide +kernel)⟩
theorem lw_p10 : lw_okq (⟨"Badgewood", "comeInOrWait", "(LBadgewood$Child;LBadgewood$Troop;)I"⟩, 7) := ⟨⟨by decide +kernel, by decide +kernel⟩, List.mem_of_getElem? (i := 28) (by decide +kernel), List.mem_of_getElem? (i := 173) (by decide +kernel), List.mem_of_getElem? (i := 174) (by decide +kernel)⟩
theorem lw_p11 : lw_okq (⟨"Badgewood", "waitingFor", "(I)I"⟩, 7) := ⟨⟨by decide +kernel, by decide +kernel⟩, List.mem_of_getElem? (i := 28) (by decide +kernel), List.mem_of_getElem? (i := 177) (by decide +kernel), List.mem_of_getElem? (i := 178) (by decide +kernel)⟩
theorem lw_p12 : lw_okq (⟨"java/lang/Throwable", "fillInStackTrace", "(I)Ljava/lang/Throwable;"⟩, 6) := ⟨⟨by decide +kernel, by decide +kernel⟩, List.mem_of_getElem? (i := 241) (by decide +kernel), List.mem_of_getElem? (i := 239) (by decide +kernel), List.mem_of_getElem? (i := 240) (by decide +kernel)⟩
theorem lw_p13 : lw_okq (⟨"java/util/ArrayList", "add", "(Ljava/lang/Object;[Ljava/lang/Object;I)V"⟩, 3) := ⟨⟨by decide +kernel, by decide +kernel⟩, List.mem_of_getElem? (i := 36) (by decide +kernel), List.mem_of_getElem? (i := 314) (by decide +kernel), List.mem_of_getElem? (i := 315) (by decide +kernel)⟩
theorem lw_p14 : lw_okq (⟨"java/util/ArrayList", "grow", "()[Ljava/lang/Object;"⟩, 3) := ⟨⟨by decide +kernel, by decide +kernel⟩, List.mem_of_getElem? (i := 36) (by decide +kernel), List.mem_of_getElem? (i := 318) (by decide +kernel), List.mem_of_getElem? (i := 319) (by decide +kernel)⟩
theorem lw_p15 : lw_okq (⟨"java/util/ArrayList", "grow", "(I)[Ljava/lang/Object;"⟩, 3) := ⟨⟨by decide +kernel, by decide +kernel⟩, List.mem_of_getElem? (i := 36) (by decide +kernel), List.mem_of_getElem? (i := 322) (by decide +kernel), List.mem_of_getElem? (i := 323) (by decide +kernel)⟩
def lw_privs_1 : List (MethodName × Nat) := [(⟨"Badgewood", "sendOutByAge", "()I"⟩, 7), (⟨"Badgewood", "sendOutOf", "(LBadgewood$Troop;)I"⟩, 7), (⟨"Badgewood", "fillUp", "(LBadgewood$Troop;)V"⟩, 7), (⟨"Badgewood", "childrenIn", "(I)I"⟩, 7), (⟨"Badgewood", "letFirstIn", "(I)I"⟩, 7), (⟨"Badgewood", "firstWaiting", "(I)LBadgewood$Child;"⟩, 7), (⟨"Badgewood", "comeIn", "(LBadgewood$Child;I)V"⟩, 7), (⟨"Badgewood", "smallestPatrol", "(I)I"⟩, 7), (⟨"Badgewood", "childrenInPatrol", "(II)I"⟩, 7), (⟨"Badgewood", "moveUp", "(LBadgewood$Child;)V"⟩, 7), (⟨"Badgewood", "comeInOrWait", "(LBadgewood$Child;LBadgewood$Troop;)I"⟩, 7), (⟨"Badgewood", "waitingFor", "(I)I"⟩, 7), (⟨"java/lang/Throwable", "fillInStackTrace", "(I)Ljava/lang/Throwable;"⟩, 6), (⟨"java/util/ArrayList", "add", "(Ljava/lang/Object;[Ljava/lang/Object;I)V"⟩, 3), (⟨"java/util/ArrayList", "grow", "()[Ljava/lang/Object;"⟩, 3), (⟨"java/util/ArrayList", "grow", "(I)[Ljava/lang/Object;"⟩, 3)]
theorem lw_r1 : ∀ q ∈ lw_privs_1, lw_okq q := List.forall_mem_cons.mpr ⟨lw_p0, List.forall_mem_cons.mpr ⟨lw_p1, List.forall_mem_cons.mpr ⟨lw_p2, List.forall_mem_cons.mpr ⟨lw_p3, List.forall_mem_cons.mpr ⟨lw_p4, List.forall_mem_cons.mpr ⟨lw_p5, List.forall_mem_cons.mpr ⟨lw_p6, List.forall_mem_cons.mpr ⟨lw_p7, List.forall_mem_cons.mpr ⟨lw_p8, List.forall_mem_cons.mpr ⟨lw_p9, List.forall_mem_cons.mpr ⟨lw_p10, List.forall_mem_cons.mpr ⟨lw_p11, List.forall_mem_cons.mpr ⟨lw_p12, List.forall_mem_cons.mpr ⟨lw_p13, List.forall_mem_cons.mpr ⟨lw_p14, List.forall_mem_cons.mpr ⟨lw_p15, fun _ h => absurd h List.not_mem_nil⟩⟩⟩⟩⟩⟩⟩⟩⟩⟩⟩⟩⟩⟩⟩⟩
theorem lw_p16 : lw_okq (⟨"Badgewood", "childAt", "(I)LBadgewood$Child;"⟩, 7) := ⟨⟨by decide +kernel, by decide +kernel⟩, List.mem_of_getElem? (i := 28) (by decide +kernel), List.mem_of_getElem? (i := 444) (by decide +kernel), List.mem_of_getElem? (i := 445) (by decide +kernel)⟩
theorem lw_p17 : lw_okq (⟨"Badgewood", "troopAt", "(I)LBadgewood$Troop;"⟩, 7) := ⟨⟨by decide +kernel, by decide +kernel⟩, List.mem_of_getElem? (i := 28) (by decide +kernel), List.mem_of_getElem? (i := 467) (by decide +kernel), List.mem_of_getElem? (i := 468) (by decide +kernel)⟩
theorem lw_p18 : lw_okq (⟨"Badgewood", "filledPatrols", "(I)I"⟩, 7) := ⟨⟨by decide +kernel, by decide +kernel⟩, List.mem_of_getElem? (i := 28) (by decide +kernel), List.mem_of_getElem? (i := 496) (by decide +kernel), List.mem_of_getElem? (i := 497) (by decide +kernel)⟩
theorem lw_p19 : lw_okq (⟨"Badgewood", "filledPatrolAt", "(II)I"⟩, 7) := ⟨⟨by decide +kernel, by decide +kernel⟩, List.mem_of_getElem? (i := 28) (by decide +kernel), List.mem_of_getElem? (i := 500) (by decide +kernel), List.mem_of_getElem? (i := 501) (by decide +kernel)⟩
theorem lw_p20 : lw_okq (⟨"Badgewood", "leaderAt", "(I)LBadgewood$Leader;"⟩, 7) := ⟨⟨by decide +kernel, by decide +kernel⟩, List.mem_of_getElem? (i := 28) (by decide +kernel), List.mem_of_getElem? (i := 545) (by decide +kernel), List.mem_of_getElem? (i := 546) (by decide +kernel)⟩
theorem lw_p21 : lw_okq (⟨"Badgewood", "badgeAt", "(I)LBadgewood$Badge;"⟩, 7) := ⟨⟨by decide +kernel, by decide +kernel⟩, List.mem_of_getElem? (i := 28) (by decide +kernel), List.mem_of_getElem? (i := 583) (by decide +kernel), List.mem_of_getElem? (i := 584) (by decide +kernel)⟩
theorem lw_p22 : lw_okq (⟨"Badgewood$Child", "reckonBadges", "()V"⟩, 14) := ⟨⟨by decide +kernel, by decide +kernel⟩, List.mem_of_getElem? (i := 377) (by decide +kernel), List.mem_of_getElem? (i := 658) (by decide +kernel), List.mem_of_getElem? (i := 659) (by decide +kernel)⟩
theorem lw_p23 : lw_okq (⟨"Badgewood$Child", "dayAfterBefore", "(LBadgewood$Edition;)I"⟩, 14) := ⟨⟨by decide +kernel, by decide +kernel⟩, List.mem_of_getElem? (i := 377) (by decide +kernel), List.mem_of_getElem? (i := 662) (by decide +kernel), List.mem_of_getElem? (i := 663) (by decide +kernel)⟩
theorem lw_p24 : lw_okq (⟨"Badgewood$Child", "dayProven", "(LBadgewood$Edition;)I"⟩, 14) := ⟨⟨by decide +kernel, by decide +kernel⟩, List.mem_of_getElem? (i := 377) (by decide +kernel), List.mem_of_getElem? (i := 673) (by decide +kernel), List.mem_of_getElem? (i := 674) (by decide +kernel)⟩
theorem lw_p25 : lw_okq (⟨"Badgewood", "eventAt", "(I)LBadgewood$Event;"⟩, 7) := ⟨⟨by decide +kernel, by decide +kernel⟩, List.mem_of_getElem? (i := 28) (by decide +kernel), List.mem_of_getElem? (i := 749) (by decide +kernel), List.mem_of_getElem? (i := 750) (by decide +kernel)⟩
theorem lw_p26 : lw_okq (⟨"Badgewood", "isElsewhere", "(LBadgewood$Event;I)Z"⟩, 7) := ⟨⟨by decide +kernel, by decide +kernel⟩, List.mem_of_getElem? (i := 28) (by decide +kernel), List.mem_of_getElem? (i := 753) (by decide +kernel), List.mem_of_getElem? (i := 754) (by decide +kernel)⟩
theorem lw_p27 : lw_okq (⟨"Badgewood", "needOf", "(LBadgewood$Event;)LBadgewood$Need;"⟩, 7) := ⟨⟨by decide +kernel, by decide +kernel⟩, List.mem_of_getElem? (i := 28) (by decide +kernel), List.mem_of_getElem? (i := 769) (by decide +kernel), List.mem_of_getElem? (i := 770) (by decide +kernel)⟩
theorem lw_p28 : lw_okq (⟨"Badgewood", "eventsIn", "(II)I"⟩, 7) := ⟨⟨by decide +kernel, by decide +kernel⟩, List.mem_of_getElem? (i := 28) (by decide +kernel), List.mem_of_getElem? (i := 821) (by decide +kernel), List.mem_of_getElem? (i := 822) (by decide +kernel)⟩
theorem lw_p29 : lw_okq (⟨"Badgewood", "needsIn", "(II)Ljava/util/ArrayList;"⟩, 7) := ⟨⟨by decide +kernel, by decide +kernel⟩, List.mem_of_getElem? (i := 28) (by decide +kernel), List.mem_of_getElem? (i := 830) (by decide +kernel), List.mem_of_getElem? (i := 831) (by decide +kernel)⟩
theorem lw_p30 : lw_okq (⟨"BadgewoodModel", "asks", "(Z)Z"⟩, 32) := ⟨⟨by decide +kernel, by decide +kernel⟩, List.mem_of_getElem? (i := 903) (by decide +kernel), List.mem_of_getElem? (i := 1018) (by decide +kernel), List.mem_of_getElem? (i := 1019) (by decide +kernel)⟩
theorem lw_p31 : lw_okq (⟨"BadgewoodModel", "fails", "(I)I"⟩, 32) := ⟨⟨by decide +kernel, by decide +kernel⟩, List.mem_of_getElem? (i := 903) (by decide +kernel), List.mem_of_getElem? (i := 1022) (by decide +kernel), List.mem_of_getElem? (i := 1023) (by decide +kernel)⟩
def lw_privs_2 : List (MethodName × Nat) := [(⟨"Badgewood", "childAt", "(I)LBadgewood$Child;"⟩, 7), (⟨"Badgewood", "troopAt", "(I)LBadgewood$Troop;"⟩, 7), (⟨"Badgewood", "filledPatrols", "(I)I"⟩, 7), (⟨"Badgewood", "filledPatrolAt", "(II)I"⟩, 7), (⟨"Badgewood", "leaderAt", "(I)LBadgewood$Leader;"⟩, 7), (⟨"Badgewood", "badgeAt", "(I)LBadgewood$Badge;"⟩, 7), (⟨"Badgewood$Child", "reckonBadges", "()V"⟩, 14), (⟨"Badgewood$Child", "dayAfterBefore", "(LBadgewood$Edition;)I"⟩, 14), (⟨"Badgewood$Child", "dayProven", "(LBadgewood$Edition;)I"⟩, 14), (⟨"Badgewood", "eventAt", "(I)LBadgewood$Event;"⟩, 7), (⟨"Badgewood", "isElsewhere", "(LBadgewood$Event;I)Z"⟩, 7), (⟨"Badgewood", "needOf", "(LBadgewood$Event;)LBadgewood$Need;"⟩, 7), (⟨"Badgewood", "eventsIn", "(II)I"⟩, 7), (⟨"Badgewood", "needsIn", "(II)Ljava/util/ArrayList;"⟩, 7), (⟨"BadgewoodModel", "asks", "(Z)Z"⟩, 32), (⟨"BadgewoodModel", "fails", "(I)I"⟩, 32)]
theorem lw_r2 : ∀ q ∈ lw_privs_2, lw_okq q := List.forall_mem_cons.mpr ⟨lw_p16, List.forall_mem_cons.mpr ⟨lw_p17, List.forall_mem_cons.mpr ⟨lw_p18, List.forall_mem_cons.mpr ⟨lw_p19, List.forall_mem_cons.mpr ⟨lw_p20, List.forall_mem_cons.mpr ⟨lw_p21, List.forall_mem_cons.mpr ⟨lw_p22, List.forall_mem_cons.mpr ⟨lw_p23, List.forall_mem_cons.mpr ⟨lw_p24, List.forall_mem_cons.mpr ⟨lw_p25, List.forall_mem_cons.mpr ⟨lw_p26, List.forall_mem_cons.mpr ⟨lw_p27, List.forall_mem_cons.mpr ⟨lw_p28, List.forall_mem_cons.mpr ⟨lw_p29, List.forall_mem_cons.mpr ⟨lw_p30, List.forall_mem_cons.mpr ⟨lw_p31, fun _ h => absurd h List.not_mem_nil⟩⟩⟩⟩⟩⟩⟩⟩⟩⟩⟩⟩⟩⟩⟩⟩
theorem lw_p32 : lw_okq (⟨"BadgewoodModel", "isChild", "(I)Z"⟩, 32) := ⟨⟨by decide +kernel, by decide +kernel⟩, List.mem_of_getElem? (i := 903) (by decide +kernel), List.mem_of_getElem? (i := 1034) (by decide +kernel), List.mem_of_getElem? (i := 1035) (by decide +kernel)⟩
theorem lw_p33 : lw_okq (⟨"BadgewoodModel", "isTroop", "(I)Z"⟩, 32) := ⟨⟨by decide +kernel, by decide +kernel⟩, List.mem_of_getElem? (i := 903) (by decide +kernel), List.mem_of_getElem? (i := 1038) (by decide +kernel), List.mem_of_getElem? (i := 1039) (by decide +kernel)⟩
theorem lw_p34 : lw_okq (⟨"BadgewoodModel", "isFor", "(II)Z"⟩, 32) := ⟨⟨by decide +kernel, by decide +kernel⟩, List.mem_of_getElem? (i := 903) (by decide +kernel), List.mem_of_getElem? (i := 1042) (by decide +kernel), List.mem_of_getElem? (i := 1043) (by decide +kernel)⟩
theorem lw_p35 : lw_okq (⟨"BadgewoodModel", "joins", "(II)I"⟩, 32) := ⟨⟨by decide +kernel, by decide +kernel⟩, List.mem_of_getElem? (i := 903) (by decide +kernel), List.mem_of_getElem? (i := 1046) (by decide +kernel), List.mem_of_getElem? (i := 1047) (by decide +kernel)⟩
theorem lw_p36 : lw_okq (⟨"BadgewoodModel", "inTroop", "(I)I"⟩, 32) := ⟨⟨by decide +kernel, by decide +kernel⟩, List.mem_of_getElem? (i := 903) (by decide +kernel), List.mem_of_getElem? (i := 1050) (by decide +kernel), List.mem_of_getElem? (i := 1051) (by decide +kernel)⟩
theorem lw_p37 : lw_okq (⟨"BadgewoodModel", "comesIn", "(II)V"⟩, 32) := ⟨⟨by decide +kernel, by decide +kernel⟩, List.mem_of_getElem? (i := 903) (by decide +kernel), List.mem_of_getElem? (i := 1054) (by decide +kernel), List.mem_of_getElem? (i := 1055) (by decide +kernel)⟩
theorem lw_p38 : lw_okq (⟨"BadgewoodModel", "inPatrol", "(II)I"⟩, 32) := ⟨⟨by decide +kernel, by decide +kernel⟩, List.mem_of_getElem? (i := 903) (by decide +kernel), List.mem_of_getElem? (i := 1058) (by decide +kernel), List.mem_of_getElem? (i := 1059) (by decide +kernel)⟩
theorem lw_p39 : lw_okq (⟨"BadgewoodModel", "waiting", "(I)I"⟩, 32) := ⟨⟨by decide +kernel, by decide +kernel⟩, List.mem_of_getElem? (i := 903) (by decide +kernel), List.mem_of_getElem? (i := 1062) (by decide +kernel), List.mem_of_getElem? (i := 1063) (by decide +kernel)⟩
theorem lw_p40 : lw_okq (⟨"BadgewoodModel", "goesOut", "(I)V"⟩, 32) := ⟨⟨by decide +kernel, by decide +kernel⟩, List.mem_of_getElem? (i := 903) (by decide +kernel), List.mem_of_getElem? (i := 1070) (by decide +kernel), List.mem_of_getElem? (i := 1071) (by decide +kernel)⟩
theorem lw_p41 : lw_okq (⟨"BadgewoodModel", "firstWaiting", "(I)I"⟩, 32) := ⟨⟨by decide +kernel, by decide +kernel⟩, List.mem_of_getElem? (i := 903) (by decide +kernel), List.mem_of_getElem? (i := 1074) (by decide +kernel), List.mem_of_getElem? (i := 1075) (by decide +kernel)⟩
theorem lw_p42 : lw_okq (⟨"BadgewoodModel", "joinsLowest", "(I)V"⟩, 32) := ⟨⟨by decide +kernel, by decide +kernel⟩, List.mem_of_getElem? (i := 903) (by decide +kernel), List.mem_of_getElem? (i := 1097) (by decide +kernel), List.mem_of_getElem? (i := 1098) (by decide +kernel)⟩
theorem lw_p43 : lw_okq (⟨"BadgewoodModel", "isLeader", "(I)Z"⟩, 32) := ⟨⟨by decide +kernel, by decide +kernel⟩, List.mem_of_getElem? (i := 903) (by decide +kernel), List.mem_of_getElem? (i := 1109) (by decide +kernel), List.mem_of_getElem? (i := 1110) (by decide +kernel)⟩
theorem lw_p44 : lw_okq (⟨"BadgewoodModel", "isVetted", "(III)Z"⟩, 32) := ⟨⟨by decide +kernel, by decide +kernel⟩, List.mem_of_getElem? (i := 903) (by decide +kernel), List.mem_of_getElem? (i := 1146) (by decide +kernel), List.mem_of_getElem? (i := 1147) (by decide +kernel)⟩
theorem lw_p45 : lw_okq (⟨"BadgewoodModel", "earnedBy", "(I)I"⟩, 32) := ⟨⟨by decide +kernel, by decide +kernel⟩, List.mem_of_getElem? (i := 903) (by decide +kernel), List.mem_of_getElem? (i := 1150) (by decide +kernel), List.mem_of_getElem? (i := 1151) (by decide +kernel)⟩
theorem lw_p46 : lw_okq (⟨"BadgewoodModel", "findsDays", "(I)V"⟩, 32) := ⟨⟨by decide +kernel, by decide +kernel⟩, List.mem_of_getElem? (i := 903) (by decide +kernel), List.mem_of_getElem? (i := 1154) (by decide +kernel), List.mem_of_getElem? (i := 1155) (by decide +kernel)⟩
theorem lw_p47 : lw_okq (⟨"BadgewoodModel", "provenOn", "(II)I"⟩, 32) := ⟨⟨by decide +kernel, by decide +kernel⟩, List.mem_of_getElem? (i := 903) (by decide +kernel), List.mem_of_getElem? (i := 1159) (by decide +kernel), List.mem_of_getElem? (i := 1160) (by decide +kernel)⟩
def lw_privs_3 : List (MethodName × Nat) := [(⟨"BadgewoodModel", "isChild", "(I)Z"⟩, 32), (⟨"BadgewoodModel", "isTroop", "(I)Z"⟩, 32), (⟨"BadgewoodModel", "isFor", "(II)Z"⟩, 32), (⟨"BadgewoodModel", "joins", "(II)I"⟩, 32), (⟨"BadgewoodModel", "inTroop", "(I)I"⟩, 32), (⟨"BadgewoodModel", "comesIn", "(II)V"⟩, 32), (⟨"BadgewoodModel", "inPatrol", "(II)I"⟩, 32), (⟨"BadgewoodModel", "waiting", "(I)I"⟩, 32), (⟨"BadgewoodModel", "goesOut", "(I)V"⟩, 32), (⟨"BadgewoodModel", "firstWaiting", "(I)I"⟩, 32), (⟨"BadgewoodModel", "joinsLowest", "(I)V"⟩, 32), (⟨"BadgewoodModel", "isLeader", "(I)Z"⟩, 32), (⟨"BadgewoodModel", "isVetted", "(III)Z"⟩, 32), (⟨"BadgewoodModel", "earnedBy", "(I)I"⟩, 32), (⟨"BadgewoodModel", "findsDays", "(I)V"⟩, 32), (⟨"BadgewoodModel", "provenOn", "(II)I"⟩, 32)]
theorem lw_r3 : ∀ q ∈ lw_privs_3, lw_okq q := List.forall_mem_cons.mpr ⟨lw_p32, List.forall_mem_cons.mpr ⟨lw_p33, List.forall_mem_cons.mpr ⟨lw_p34, List.forall_mem_cons.mpr ⟨lw_p35, List.forall_mem_cons.mpr ⟨lw_p36, List.forall_mem_cons.mpr ⟨lw_p37, List.forall_mem_cons.mpr ⟨lw_p38, List.forall_mem_cons.mpr ⟨lw_p39, List.forall_mem_cons.mpr ⟨lw_p40, List.forall_mem_cons.mpr ⟨lw_p41, List.forall_mem_cons.mpr ⟨lw_p42, List.forall_mem_cons.mpr ⟨lw_p43, List.forall_mem_cons.mpr ⟨lw_p44, List.forall_mem_cons.mpr ⟨lw_p45, List.forall_mem_cons.mpr ⟨lw_p46, List.forall_mem_cons.mpr ⟨lw_p47, fun _ h => absurd h List.not_mem_nil⟩⟩⟩⟩⟩⟩⟩⟩⟩⟩⟩⟩⟩⟩⟩⟩
theorem lw_p48 : lw_okq (⟨"BadgewoodModel", "dayOfMany", "(III)I"⟩, 32) := ⟨⟨by decide +kernel, by decide +kernel⟩, List.mem_of_getElem? (i := 903) (by decide +kernel), List.mem_of_getElem? (i := 1166) (by decide +kernel), List.mem_of_getElem? (i := 1167) (by decide +kernel)⟩
theorem lw_p49 : lw_okq (⟨"BadgewoodModel", "isEvent", "(I)Z"⟩, 32) := ⟨⟨by decide +kernel, by decide +kernel⟩, List.mem_of_getElem? (i := 903) (by decide +kernel), List.mem_of_getElem? (i := 1178) (by decide +kernel), List.mem_of_getElem? (i := 1179) (by decide +kernel)⟩
theorem lw_p50 : lw_okq (⟨"BadgewoodModel", "meet", "(II)Z"⟩, 32) := ⟨⟨by decide +kernel, by decide +kernel⟩, List.mem_of_getElem? (i := 903) (by decide +kernel), List.mem_of_getElem? (i := 1182) (by decide +kernel), List.mem_of_getElem? (i := 1183) (by decide +kernel)⟩
theorem lw_p51 : lw_okq (⟨"BadgewoodModel", "reason", "(II)I"⟩, 32) := ⟨⟨by decide +kernel, by decide +kernel⟩, List.mem_of_getElem? (i := 903) (by decide +kernel), List.mem_of_getElem? (i := 1190) (by decide +kernel), List.mem_of_getElem? (i := 1191) (by decide +kernel)⟩
theorem lw_p52 : lw_okq (⟨"BadgewoodModel", "areLawful", "(III)Z"⟩, 32) := ⟨⟨by decide +kernel, by decide +kernel⟩, List.mem_of_getElem? (i := 903) (by decide +kernel), List.mem_of_getElem? (i := 1201) (by decide +kernel), List.mem_of_getElem? (i := 1202) (by decide +kernel)⟩
def lw_privs_4 : List (MethodName × Nat) := [(⟨"BadgewoodModel", "dayOfMany", "(III)I"⟩, 32), (⟨"BadgewoodModel", "isEvent", "(I)Z"⟩, 32), (⟨"BadgewoodModel", "meet", "(II)Z"⟩, 32), (⟨"BadgewoodModel", "reason", "(II)I"⟩, 32), (⟨"BadgewoodModel", "areLawful", "(III)Z"⟩, 32)]
theorem lw_r4 : ∀ q ∈ lw_privs_4, lw_okq q := List.forall_mem_cons.mpr ⟨lw_p48, List.forall_mem_cons.mpr ⟨lw_p49, List.forall_mem_cons.mpr ⟨lw_p50, List.forall_mem_cons.mpr ⟨lw_p51, List.forall_mem_cons.mpr ⟨lw_p52, fun _ h => absurd h List.not_mem_nil⟩⟩⟩⟩⟩
def lw_privs : List (MethodName × Nat) := lw_privs_1 ++ (lw_privs_2 ++ (lw_privs_3 ++ (lw_privs_4)))
def lw_tbl : List Cond := k2_sels lw_privs ++ tables_1
theorem lw_privs_ok : ∀ q ∈ lw_privs, lw_okq q := by
  show ∀ q ∈ lw_privs_1 ++ (lw_privs_2 ++ (lw_privs_3 ++ (lw_privs_4))), lw_okq q
  exact List.forall_mem_append.mpr ⟨lw_r1, List.forall_mem_append.mpr ⟨lw_r2, List.forall_mem_append.mpr ⟨lw_r3, lw_r4⟩⟩⟩
-- ===== end of PART A; then your names; then what follows =====
end
section
/-! ===== BEGIN words of one list among another's, by their places ===== -/
theorem goodIn_r {big : List Cond} (ws : List Cond) (ps : List Nat) (hp : ws = ps.filterMap (fun i => big[i]?)) (h : ws.all goodWord = true) : GoodIn big ws := by
  intro w hw
  have h1 := List.all_eq_true.mp h w hw
  rw [hp] at hw
  obtain ⟨i, -, hi⟩ := List.mem_filterMap.mp hw
  have hm : w ∈ big := by first | exact List.mem_of_getElem? hi | exact List.getElem?_mem hi
  exact ⟨hm, good_of_word h1⟩
theorem goodIn_app {big a b : List Cond} (ha : GoodIn big a) (hb : GoodIn big b) : GoodIn big (a ++ b) := fun w h => (List.mem_append.mp h).elim (ha w) (hb w)
theorem goodIn_ca {big a b : List Cond} {c : Cond} (ha : GoodIn big (c :: a)) (hb : GoodIn big b) : GoodIn big (c :: (a ++ b)) := fun w h => (List.mem_cons.mp h).elim (fun e => ha w (List.mem_cons.mpr (Or.inl e))) (fun h => (List.mem_append.mp h).elim (fun h => ha w (List.mem_cons.mpr (Or.inr h))) (hb w))
theorem goodIn_sub {big ws : List Cond} (hm : ∀ w ∈ ws, w ∈ big) (h : ws.all goodWord = true) : GoodIn big ws := fun w hw => ⟨hm w hw, good_of_word (List.all_eq_true.mp h w hw)⟩
/-! ===== END ===== -/

/-! ===== BEGIN exceptions that leave a method, and their catching by the caller (launches without stack traces) ===== -/
section VXA
/-! The laws vx_back, vx_callV, vx_callS, vx_callSW, vx_throw0, vx_throwS follow proofs of the library, with one case more: JvmDerived/Free/Laws.lean (Back.of_free), Shelf42/LK1.lean (callV, callS), Shelf/KitTraced.lean (throwNew0V, throwNewS). -/
/-- where a method has thrown q: the class by its name, the cell, what was written, the world -/
def vx_T (XC : String → State → State → Prop) (st : State) (q : Addr) (t : State) (mc ms : Nat) (free : Addr → Prop) : Prop :=
  ∃ (E : String) (ce : Cell) (L : List Loc), XC E st t ∧ t.heap[q]? = some ce ∧ ce.vm = .none ∧ st.vm.findClass E = some ce.cls ∧ st.WarmedH t.vm ∧ st.sameButNew ({ t with vm := st.vm } : State) L mc ms ∧ ∀ z ∈ L, free z.base
def vx_Q (Qc : Array Value → State → Outcome → State → Prop) (XC : String → State → State → Prop) (mc ms : Nat) (free : Addr → Prop) : Array Value → State → Outcome → State → Prop := fun a st o t =>
  (Qc a st o t ∧ ∃ L, FrameEnd st o t L mc ms ∧ ∀ q ∈ L, free q.base) ∨ ∃ q, o = .threw q ∧ vx_T XC st q t mc ms free
/-- a callee that returns or throws -/
def vx_Met (l : Launch) (y : MethodName) (ws : List Cond) (rm : Room) (Pc : Array Value → State → Prop) (Qc : Array Value → State → Outcome → State → Prop) (XC : String → State → State → Prop) (mc ms : Nat) (free : Addr → Prop) : Prop :=
  MetFree l y (headSpec ws rm) Pc (fun _ _ _ _ _ => True) (vx_Q Qc XC mc ms free)
def vx_Post (XC : String → State → State → Prop) (mc ms : Nat) (free : Addr → Prop) : Pt → Array Value → Addr → Pt → Prop := fun A a q B =>
  ∃ (g : JFrame) (mk : MethodId) (t : State) (L : List Loc) (E : String) (ce : Cell), B.U.heap = t.heap ∧ B.U.vm = t.vm ∧ XC E (A.U.calling g mk a) t ∧ t.heap[q]? = some ce ∧ ce.vm = .none ∧ A.U.vm.findClass E = some ce.cls ∧ B.locs = A.locs ++ L ∧ (∀ z ∈ L, free z.base) ∧ B.cells = A.cells + mc ∧ B.slots = A.slots + ms
def vx_Back (l : Launch) (R : Room) (p : Program) (e : Env) (below : List Frame) (s : State) (sargs : Array Value) (y : MethodName) (len W9 : Nat)
    (Pre : Pt → Array Value → Prop) (Post : Pt → Array Value → Option Value → Pt → Prop) (PostX : Pt → Array Value → Addr → Pt → Prop) : Prop :=
  ∀ (m : MethodId) (meth : Method) (c : Code) (A : Pt) (g : JFrame) (ig : Instr) (mk : MethodId) (a : Array Value),
    Stand p l e R s m sargs below meth c A.U A.locs A.cells A.slots → g.method = m → g.locals.size = c.maxLocals → decode c.code g.pc = .ok (ig, len) →
    2 * g.monitorRoom + (g.stack.map fun v => v.category).sum ≤ W9 → A.U.methodNamed? y = some mk → Pre A a →
    (∃ (v : Option Value) (B : Pt), Stand p l e R s m sargs below meth c B.U B.locs B.cells B.slots ∧ Post A a v B ∧
      Steps p.tables e below (doInvoke e (A.U.setTop g) [] mk a).1 (B.U.setTop { g with pc := g.pc + len, stack := v.toList ++ g.stack })) ∨
    (∃ (q : Addr) (B : Pt), Stand p l e R s m sargs below meth c B.U B.locs B.cells B.slots ∧ PostX A a q B ∧
      Steps p.tables e below (doInvoke e (A.U.setTop g) [] mk a).1 ((B.U.setTop g).pushFrame (.throwing q)))
section Payer
variable {l : Launch} {R : Room} {p : Program} {e : Env} {below : List Frame} {s : State} {sargs : Array Value} {y : MethodName} {len W9 : Nat}
theorem vx_back {ws : List Cond} {rm : Room} {Pc : Array Value → State → Prop} {Qc : Array Value → State → Outcome → State → Prop} {XC : String → State → State → Prop} {mc ms : Nat} {free : Addr → Prop} {bytes : ByteArray} {maxL : Nat} {ret : Option FieldType}
    (hM : vx_Met l y ws rm Pc Qc XC mc ms free) (hblind : FrameBlind Pc) (hrc : rm.cells = mc) (hrs : rm.slots = ms)
    (hframes : rm.frames + 1 ≤ R.frames) (hlocals : W9 + (maxL + 11) + rm.locals ≤ R.locals)
    (hws : ∀ w ∈ ws, ∀ a' U, s.WarmedH U.vm → w.before a' U = true) (hcode : Cond.code y bytes maxL ret ∈ ws) (hinit : ∀ a' U, s.WarmedH U.vm → (Cond.initialized y.cls).before a' U = true) :
    vx_Back l R p e below s sargs y len W9 (PreOf R mc ms Pc) (PostOf Qc mc ms free) (vx_Post XC mc ms free) := by
  intro m meth c A g ig mk a X hg hsize hdg hW hn hp
  have h1 : (headSpec ws rm).pre.before a A.U = true := atoms_intro fun w hw => hws w hw _ _ X.warmed
  have h2 : (Cond.code y bytes maxL ret).before a A.U = true := hws _ hcode _ _ X.warmed
  have h3 : (Cond.initialized y.cls).before a A.U = true := hinit _ _ X.warmed
  have h4 : A.cells + (headSpec ws rm).room.cells ≤ R.cells := by rw [show (headSpec ws rm).room.cells = mc from hrc]; exact hp.1
  have h5 : A.slots + (headSpec ws rm).room.slots ≤ R.slots := by rw [show (headSpec ws rm).room.slots = ms from hrs]; exact hp.2.1
  have hPc : Pc a (A.U.calling g mk a) := hblind _ _ _ _ hp.2.2
  obtain ⟨U, Ls, c0, s0⟩ := A
  dsimp only [Pt.U, Pt.locs, Pt.cells, Pt.slots] at h1 h2 h3 h4 h5 X hn hPc ⊢
  obtain ⟨methY, cY, hmY, hcY, -, hlY, -, -, -, -⟩ := Cond.code_spec hn h2
  obtain ⟨kY, hkY, -⟩ := className_of_methodNamed hn
  have hinitY : kY.init = .initialized := Cond.initialized_spec (findClass_of_methodNamed hn) hkY h3
  have h : At U g.method c below := by rw [hg]; exact X.here
  have hlocals9 : W9 + (maxL + 11) + (headSpec ws rm).room.locals ≤ R.locals := hlocals
  have happ : (headSpec ws rm).appliesLoose y e.platform (U.calling g mk a) = true :=
    Spec.appliesLoose_calling (g := g) h hdg hn hkY hinitY
      (X.room_calling (g := g) (R' := (headSpec ws rm).room) hsize hmY hcY hframes (by rw [hlY]; omega) h4 h5) h1
  obtain ⟨mid, hmid⟩ := h.above
  have hfr : (U.setTop g).frames = (.java g :: mid) ++ below := by rw [State.frames_setTop' g h.top, hmid]; rfl
  obtain ⟨o, s₂, hsteps, -, hend, hq⟩ := Steps.callFree hM p X.admits X.cas X.clock (acts := []) hfr happ hPc trivial
  have hq' : vx_Q Qc XC mc ms free a (U.calling g mk a) o s₂ := hq
  rw [State.frames_setTop' g h.top] at hend
  obtain ⟨g₀, hg0⟩ := Option.isSome_iff_exists.mp h.top
  obtain ⟨r, hr⟩ := State.topJava?_eq_some.mp hg0
  have hr' : (({ U with heap := s₂.heap, slotsUsed := s₂.slotsUsed } : State).setVm s₂.vm).frames = .java g₀ :: r := hr
  rcases hq' with ⟨hqc, L, hfe, hL⟩ | ⟨q, rfl, E, ce, L, hx, hce, hcv, hcl, hW₂, hsm, hL⟩
  · obtain ⟨⟨v, rfl⟩, hW₂, e2, q2, q3, q4, q5, q6⟩ := id hfe
    have e3 : s₂ = ({ (U.calling g mk a).setFrames s₂.frames with heap := s₂.heap, slotsUsed := s₂.slotsUsed } : State).setVm s₂.vm := by
      have : s₂ = ({ s₂ with vm := (U.calling g mk a).vm } : State).setVm s₂.vm := rfl
      rw [e2] at this
      exact this
    obtain ⟨c₂, i₂, len₂, hc₂, hd₂, hf₂⟩ := hend
    have hW' : U.WarmedH s₂.vm := hW₂
    have hcc : c₂ = c := by
      have h1 : s₂.code? g.method = U.code? g.method := by
        rw [State.code?_eq, State.code?_eq, hW'.alike.method?]
      exact Option.some.inj (hc₂.symm.trans (h1.trans h.code))
    subst hcc
    have hlen : len₂ = len := by rw [hdg] at hd₂; cases hd₂; rfl
    subst hlen
    have hs₂ : s₂ = (({ U with heap := s₂.heap, slotsUsed := s₂.slotsUsed } : State).setVm s₂.vm).setTop { g with pc := g.pc + len₂, stack := v.toList ++ g.stack } := by
      refine e3.trans ?_
      rw [hf₂, State.calling_eq h.top, State.setFrames_setFrames, State.setTop_of_frames _ hr', hr]
      rfl
    have hsame : U.sameButNew ({ U with heap := s₂.heap, slotsUsed := s₂.slotsUsed } : State) L mc ms := by
      refine ⟨?_, q2, q3, q4, q5, q6⟩
      obtain ⟨t, ht, -⟩ := State.frames_cons hr
      show ({ U with heap := s₂.heap, slotsUsed := s₂.slotsUsed } : State) = { U.setFrames U.frames with heap := s₂.heap, slotsUsed := s₂.slotsUsed }
      rw [State.setFrames_self ht]
    subst hg
    refine Or.inl ⟨v, ⟨(({ U with heap := s₂.heap, slotsUsed := s₂.slotsUsed } : State).setVm s₂.vm), Ls ++ L, c0 + mc, s0 + ms⟩,
      ⟨X.admits, X.cas, X.clock, X.frames, X.room, X.hears, X.method, X.code, (X.here.setHeapUsed s₂.heap s₂.slotsUsed).setVm hW'.alike, X.tail, State.WarmedH.trans X.warmed hW', X.limits, X.bytes, X.same.trans (hsame.setVm s.vm)⟩,
      ⟨g, mk, s₂, L, rfl, rfl, hqc, rfl, hL, rfl, rfl⟩, ?_⟩
    show Steps p.tables e below _ ((({ U with heap := s₂.heap, slotsUsed := s₂.slotsUsed } : State).setVm s₂.vm).setTop { g with pc := g.pc + len₂, stack := v.toList ++ g.stack })
    rw [← hs₂]
    exact hsteps
  · obtain ⟨e2, q2, q3, q4, q5, q6⟩ := id hsm
    have e3 : s₂ = ({ (U.calling g mk a).setFrames s₂.frames with heap := s₂.heap, slotsUsed := s₂.slotsUsed } : State).setVm s₂.vm := by
      have : s₂ = ({ s₂ with vm := (U.calling g mk a).vm } : State).setVm s₂.vm := rfl
      rw [e2] at this
      exact this
    have hf₂ : s₂.frames = .throwing q :: .java g :: U.frames.tail := hend
    have hW' : U.WarmedH s₂.vm := hW₂
    have hs₂ : s₂ = ((({ U with heap := s₂.heap, slotsUsed := s₂.slotsUsed } : State).setVm s₂.vm).setTop g).pushFrame (.throwing q) := by
      refine e3.trans ?_
      rw [hf₂, State.calling_eq h.top, State.setFrames_setFrames, State.pushFrame, State.frames_setTop _ hr', State.setTop_of_frames _ hr', State.setFrames_setFrames, hr]
      rfl
    have hsame : U.sameButNew ({ U with heap := s₂.heap, slotsUsed := s₂.slotsUsed } : State) L mc ms := by
      refine ⟨?_, q2, q3, q4, q5, q6⟩
      obtain ⟨t, ht, -⟩ := State.frames_cons hr
      show ({ U with heap := s₂.heap, slotsUsed := s₂.slotsUsed } : State) = { U.setFrames U.frames with heap := s₂.heap, slotsUsed := s₂.slotsUsed }
      rw [State.setFrames_self ht]
    subst hg
    refine Or.inr ⟨q, ⟨(({ U with heap := s₂.heap, slotsUsed := s₂.slotsUsed } : State).setVm s₂.vm), Ls ++ L, c0 + mc, s0 + ms⟩,
      ⟨X.admits, X.cas, X.clock, X.frames, X.room, X.hears, X.method, X.code, (X.here.setHeapUsed s₂.heap s₂.slotsUsed).setVm hW'.alike, X.tail, State.WarmedH.trans X.warmed hW', X.limits, X.bytes, X.same.trans (hsame.setVm s.vm)⟩,
      ⟨g, mk, s₂, L, E, ce, rfl, rfl, hx, hce, hcv, hcl, rfl, hL, rfl, rfl⟩, ?_⟩
    show Steps p.tables e below _ (((({ U with heap := s₂.heap, slotsUsed := s₂.slotsUsed } : State).setVm s₂.vm).setTop g).pushFrame (.throwing q))
    rw [← hs₂]
    exact hsteps
end Payer
section Calls
variable {p : Program} {l : Launch} {e : Env} {R : Room} {s : State} {m : MethodId} {args : Array Value} {below : List Frame} {meth : Method} {c : Code} {T : State} {locs : List Loc} {cells slots : Nat}
theorem vx_callV (X : Stand p l e R s m args below meth c T locs cells slots) (hexec : p.tables.exec = Jvm.exec) {own C : String} {index : Nat} {y : MethodName} {bytes : ByteArray} {maxL : Nat} {ret : Option FieldType}
    (hown : s.vm.findClass own = some m.cls) (hlink : (Cond.methodLink own index y).before args s = true) (hinst : (Cond.instanceMethod y).before args s = true) (hsel : (Cond.selects C y y).before args s = true)
    (hcode : (Cond.code y bytes maxL ret).before args s = true) (hy : y.cls ≠ "java/lang/invoke/MethodHandle" ∧ y.cls ≠ "java/lang/invoke/VarHandle")
    {W9 : Nat} {Pre : Pt → Array Value → Prop} {Post : Pt → Array Value → Option Value → Pt → Prop} {PostX : Pt → Array Value → Addr → Pt → Prop} (hK : vx_Back l R p e below s args y 3 W9 Pre Post PostX)
    {b : Addr} {cellB : Cell} (hcell : T.heap[b]? = some cellB) (hobj : cellB.vm.isStatics = false) (hcls : s.vm.findClass C = some cellB.cls)
    {g : JFrame} (hg : g.method = m) (hsize : g.locals.size = c.maxLocals) {argsL rest : List Value} (hlen : ∀ sig, parseMethodDescriptor y.desc = some sig → argsL.length = sig.parameters.length)
    (hstack : g.stack = argsL.reverse ++ .ref b :: rest) (hW : 2 * g.monitorRoom + (rest.map fun v => v.category).sum ≤ W9) (hdg : decode c.code g.pc = .ok (.invokevirtual index, 3))
    (hpre : ∀ vm₁, s.WarmedH vm₁ → Pre ⟨T.setVm vm₁, locs, cells, slots⟩ (Value.ref b :: argsL).toArray) :
    (∃ (v : Option Value) (vm₁ : Vm) (B : Pt), s.WarmedH vm₁ ∧ Stand p l e R s m args below meth c B.U B.locs B.cells B.slots ∧ Post ⟨T.setVm vm₁, locs, cells, slots⟩ (Value.ref b :: argsL).toArray v B ∧
      ∀ target, Steps p.tables e below (B.U.setTop { g with pc := g.pc + 3, stack := v.toList ++ rest }) target → Steps p.tables e below (T.setTop g) target) ∨
    (∃ (q : Addr) (vm₁ : Vm) (B : Pt), s.WarmedH vm₁ ∧ Stand p l e R s m args below meth c B.U B.locs B.cells B.slots ∧ PostX ⟨T.setVm vm₁, locs, cells, slots⟩ (Value.ref b :: argsL).toArray q B ∧
      Steps p.tables e below (T.setTop g) ((B.U.setTop { g with stack := rest }).pushFrame (.throwing q))) := by
  obtain ⟨mk, methM, hnamed, hmethM, hstM, habM⟩ := Cond.instanceMethod_spec hinst
  obtain ⟨methM', cM, hmethM', -, -, -, -, -, -, hsigM⟩ := Cond.code_spec hnamed hcode
  cases hmethM.symm.trans hmethM'
  obtain ⟨c2, r2, m2, q1, q2, q3, q4, kP, hkP, hkPi⟩ := Cond.selects_spec hsel
  cases hcls.symm.trans q1
  cases (State.methodFound?_of_named hnamed hy).symm.trans q2
  cases hnamed.symm.trans q3
  have hselP : selectMethod e.platform s.vm cellB.cls mk = .method mk := by rw [Launch.admits_selectMethod X.admits]; exact q4
  obtain ⟨vm₁, X₁, hstep₁⟩ := X.invokevirtual hexec hown hlink hnamed hmethM hstM hkP hkPi hy (a := b) (cell := cellB) hcell
    (fun z h => by rw [h] at hobj; cases hobj) hselP hmethM habM hkP hkPi (g := g) hg (argsL := argsL) (rest := rest) (hlen _ hsigM) hstack hdg
  rcases hK m meth c ⟨T.setVm vm₁, locs, cells, slots⟩ { g with stack := rest } (.invokevirtual index) mk (Value.ref b :: argsL).toArray X₁ hg hsize hdg hW (X₁.named hnamed) (hpre vm₁ X₁.warmed) with ⟨v, B, X', hpost, hsteps⟩ | ⟨q, B, X', hpost, hsteps⟩
  · exact Or.inl ⟨v, vm₁, B, X₁.warmed, X', hpost, fun target h => hstep₁ _ fun acts => by rw [doInvoke_state]; exact hsteps.trans h⟩
  · exact Or.inr ⟨q, vm₁, B, X₁.warmed, X', hpost, hstep₁ _ fun acts => by rw [doInvoke_state]; exact hsteps⟩
theorem vx_callS (X : Stand p l e R s m args below meth c T locs cells slots) (hexec : p.tables.exec = Jvm.exec) {own : String} {index : Nat} {y : MethodName} {bytes : ByteArray} {maxL : Nat} {ret : Option FieldType}
    (hown : s.vm.findClass own = some m.cls) (hlink : (Cond.methodLink own index y).before args s = true) (hstat : (Cond.static y).before args s = true) (hinit : (Cond.initialized y.cls).before args s = true)
    (hcode : (Cond.code y bytes maxL ret).before args s = true) (hy : y.cls ≠ "java/lang/invoke/MethodHandle" ∧ y.cls ≠ "java/lang/invoke/VarHandle")
    {W9 : Nat} {Pre : Pt → Array Value → Prop} {Post : Pt → Array Value → Option Value → Pt → Prop} {PostX : Pt → Array Value → Addr → Pt → Prop} (hK : vx_Back l R p e below s args y 3 W9 Pre Post PostX)
    {g : JFrame} (hg : g.method = m) (hsize : g.locals.size = c.maxLocals) {argsL rest : List Value} (hlen : ∀ sig, parseMethodDescriptor y.desc = some sig → argsL.length = sig.parameters.length)
    (hstack : g.stack = argsL.reverse ++ rest) (hW : 2 * g.monitorRoom + (rest.map fun v => v.category).sum ≤ W9) (hdg : decode c.code g.pc = .ok (.invokestatic index, 3))
    (hpre : ∀ vm₁, s.WarmedH vm₁ → Pre ⟨T.setVm vm₁, locs, cells, slots⟩ argsL.toArray) :
    (∃ (v : Option Value) (vm₁ : Vm) (B : Pt), s.WarmedH vm₁ ∧ Stand p l e R s m args below meth c B.U B.locs B.cells B.slots ∧ Post ⟨T.setVm vm₁, locs, cells, slots⟩ argsL.toArray v B ∧
      ∀ target, Steps p.tables e below (B.U.setTop { g with pc := g.pc + 3, stack := v.toList ++ rest }) target → Steps p.tables e below (T.setTop g) target) ∨
    (∃ (q : Addr) (vm₁ : Vm) (B : Pt), s.WarmedH vm₁ ∧ Stand p l e R s m args below meth c B.U B.locs B.cells B.slots ∧ PostX ⟨T.setVm vm₁, locs, cells, slots⟩ argsL.toArray q B ∧
      Steps p.tables e below (T.setTop g) ((B.U.setTop { g with stack := rest }).pushFrame (.throwing q))) := by
  obtain ⟨mk, hnamed⟩ := Cond.code_named hcode
  obtain ⟨methM, cM, hmethM, -, -, -, -, -, -, hsigM⟩ := Cond.code_spec hnamed hcode
  have hstatic : methM.isStatic = true := Cond.static_spec hnamed hmethM hstat
  obtain ⟨kP, hkP, -⟩ := className_of_methodNamed hnamed
  have hinitP : kP.init = .initialized := Cond.initialized_spec (findClass_of_methodNamed hnamed) hkP hinit
  obtain ⟨vm₁, X₁, hstep₁⟩ := X.invokestatic hexec hown hlink hnamed hmethM hstatic hkP hinitP hy (g := g) hg (argsL := argsL) (rest := rest) (hlen _ hsigM) hstack hdg
  rcases hK m meth c ⟨T.setVm vm₁, locs, cells, slots⟩ { g with stack := rest } (.invokestatic index) mk argsL.toArray X₁ hg hsize hdg hW (X₁.named hnamed) (hpre vm₁ X₁.warmed) with ⟨v, B, X', hpost, hsteps⟩ | ⟨q, B, X', hpost, hsteps⟩
  · exact Or.inl ⟨v, vm₁, B, X₁.warmed, X', hpost, fun target h => hstep₁ _ fun acts => by rw [doInvoke_state]; exact hsteps.trans h⟩
  · exact Or.inr ⟨q, vm₁, B, X₁.warmed, X', hpost, hstep₁ _ fun acts => by rw [doInvoke_state]; exact hsteps⟩
end Calls
theorem vx_cls {s : State} {T : State} {vm₁ : Vm} {E : String} {k : ClassId} (hW : s.WarmedH vm₁) (h : (T.setVm vm₁).vm.findClass E = some k) : s.vm.findClass E = some k := by
  have h1 : vm₁.findClass E = some k := h
  rw [hW.alike.findClass] at h1
  exact h1
/-- the method's frame g, with q thrown over it -/
def vx_W (p : Program) (l : Launch) (e : Env) (R : Room) (s : State) (m : MethodId) (args : Array Value) (below : List Frame) (meth : Method) (c : Code) (H : Heap) (locs : List Loc) (cells slots : Nat) (Q : State → Prop) (g : JFrame) (q : Addr) : Prop :=
  ∀ T : State, T.heap = H → Stand p l e R s m args below meth c T locs cells slots → ∃ t, Steps p.tables e below ((T.setTop g).pushFrame (.throwing q)) t ∧ Q t
def vx_Run (p : Program) (l : Launch) (e : Env) (R : Room) (s : State) (m : MethodId) (args : Array Value) (below : List Frame) (meth : Method) (c : Code) (H : Heap) (locs : List Loc) (cells slots mc ms : Nat) (g : JFrame) (rest : List Value) (Qa : State → Outcome → State → Prop) (XC : String → State → State → Prop) (free : Addr → Prop) : Prop :=
  ∀ T : State, T.heap = H → Stand p l e R s m args below meth c T locs cells slots →
    (∃ (v : Option Value) (st₀ t T' : State) (L : List Loc), st₀.heap = H ∧ Stand p l e R s m args below meth c T' (locs ++ L) (cells + mc) (slots + ms) ∧ (∀ q ∈ L, free q.base) ∧ T'.heap = t.heap ∧ T'.vm = t.vm ∧ Qa st₀ (.returned v) t ∧
      Goes p e below T g T' { g with pc := g.pc + 3, stack := v.toList ++ rest }) ∨
    (∃ (q : Addr) (st₀ t T' : State) (L : List Loc) (E : String) (ce : Cell), st₀.heap = H ∧ Stand p l e R s m args below meth c T' (locs ++ L) (cells + mc) (slots + ms) ∧ (∀ z ∈ L, free z.base) ∧ T'.heap = t.heap ∧ T'.vm = t.vm ∧ XC E st₀ t ∧ t.heap[q]? = some ce ∧ ce.vm = .none ∧ s.vm.findClass E = some ce.cls ∧
      Steps p.tables e below (T.setTop g) ((T'.setTop { g with stack := rest }).pushFrame (.throwing q)))
def vx_X {S : Type} (px : S → Prop) (B : String → S → State → Prop) (A : Nat → Prop) : String → State → State → Prop := fun E st t => ∃ u : S, px u ∧ B E u t ∧ va_F A st t
section Runs
variable {p : Program} {l : Launch} {e : Env} {R : Room} {s : State} {m : MethodId} {args : Array Value} {below : List Frame} {meth : Method} {c : Code} {H : Heap} {locs : List Loc} {cells slots : Nat}
variable {y : MethodName} {bytes cc : ByteArray} {maxL nL mc ms n index : Nat} {ret : Option FieldType} {ws : List Cond} {rm : Room} {Pc : Array Value → State → Prop} {Qc : Array Value → State → Outcome → State → Prop} {XC : String → State → State → Prop} {free : Addr → Prop} {Ts : List Cond} {own C : String} {b : Addr} {As rest : List Value} {g : JFrame}
theorem vx_callBack (cb : CallB R s args own index y bytes maxL ret ws rm mc ms n) (hM : vx_Met l y ws rm Pc Qc XC mc ms free) (hbl : FrameBlind Pc) : vx_Back l R p e below s args y 3 8 (PreOf R mc ms Pc) (PostOf Qc mc ms free) (vx_Post XC mc ms free) := by
  obtain ⟨hrc, hrs, hfr, hlo, hws, hcw, -, hini, -⟩ := cb
  exact vx_back (bytes := bytes) (maxL := maxL) (ret := ret) hM hbl hrc hrs hfr hlo hws hcw (fun a' U hW => word_at hW (Or.inl (by first | rfl | simp [Cond.onTables, Cond.keeps, Cond.steady])) hini)
theorem vx_runV (S : CallFix p m c cc nL s args Ts own) (hM : vx_Met l y ws rm Pc Qc XC mc ms free) (cw : CallW R s args own C index y bytes maxL ret ws rm mc ms n) (hp : PreV s H C b Pc As)
    (hg : g.method = m) (hn : As.length = n) (hsize : g.locals.size = nL) (hstack : g.stack = As.reverse ++ .ref b :: rest) (hW : 2 * g.monitorRoom + (rest.map fun v => v.category).sum ≤ 8) (hdg : decode cc g.pc = .ok (.invokevirtual index, 3)) (hf : cells + mc ≤ R.cells ∧ slots + ms ≤ R.slots) :
    vx_Run p l e R s m args below meth c H locs cells slots mc ms g rest (Qc (Value.ref b :: As).toArray) XC free := by
  have hK : vx_Back l R p e below s args y 3 8 (PreOf R mc ms Pc) (PostOf Qc mc ms free) (vx_Post XC mc ms free) := vx_callBack cw.1 hM hp.1
  obtain ⟨⟨-, -, -, -, -, -, hcode, -, hy, hlen, hl⟩, hin, hse⟩ := cw
  obtain ⟨hx, hb, hml, ho, -⟩ := S
  obtain ⟨-, ⟨cellB, hcB, hoB, hclB⟩, hPc⟩ := hp
  intro T hT X
  rcases vx_callV X hx (C := C) (bytes := bytes) (maxL := maxL) (ret := ret) ho hl hin hse hcode hy hK (by rw [hT]; exact hcB) hoB hclB hg (hsize.trans hml.symm) (argsL := As) (rest := rest) (fun sig h => hn.trans (hlen sig h)) hstack hW (by rw [hb]; exact hdg)
    (fun vm₁ hW₁ => ⟨hf.1, hf.2, hPc (T.setVm vm₁) hT hW₁⟩) with ⟨v, vm₁, ⟨U', l2, c2, s2⟩, hW₁, X', ⟨g', mk, t, L, e1, e2, hq, h1, hL, h2, h3⟩, st⟩ | ⟨q, vm₁, ⟨U', l2, c2, s2⟩, hW₁, X', ⟨g', mk, t, L, E, ce, e1, e2, hq, hce, hcv, hcl, h1, hL, h2, h3⟩, st⟩
  · dsimp only [Pt.U, Pt.locs, Pt.cells, Pt.slots] at X' e1 e2 h1 h2 h3 st
    subst h1; subst h2; subst h3
    exact Or.inl ⟨v, (T.setVm vm₁).calling g' mk (Value.ref b :: As).toArray, t, U', L, hT, X', hL, e1, e2, hq, st⟩
  · dsimp only [Pt.U, Pt.locs, Pt.cells, Pt.slots] at X' e1 e2 h1 h2 h3 st hcl
    subst h1; subst h2; subst h3
    exact Or.inr ⟨q, (T.setVm vm₁).calling g' mk (Value.ref b :: As).toArray, t, U', L, E, ce, hT, X', hL, e1, e2, hq, hce, hcv, vx_cls hW₁ hcl, st⟩
theorem vx_runS (S : CallFix p m c cc nL s args Ts own) (hM : vx_Met l y ws rm Pc Qc XC mc ms free) (cw : CallB R s args own index y bytes maxL ret ws rm mc ms n ∧ (Cond.static y).before args s = true) (hp : PreS s H Pc As)
    (hg : g.method = m) (hn : As.length = n) (hsize : g.locals.size = nL) (hstack : g.stack = As.reverse ++ rest) (hW : 2 * g.monitorRoom + (rest.map fun v => v.category).sum ≤ 8) (hdg : decode cc g.pc = .ok (.invokestatic index, 3)) (hf : cells + mc ≤ R.cells ∧ slots + ms ≤ R.slots) :
    vx_Run p l e R s m args below meth c H locs cells slots mc ms g rest (Qc As.toArray) XC free := by
  have hK : vx_Back l R p e below s args y 3 8 (PreOf R mc ms Pc) (PostOf Qc mc ms free) (vx_Post XC mc ms free) := vx_callBack cw.1 hM hp.1
  obtain ⟨⟨-, -, -, -, -, -, hcode, hini, hy, hlen, hl⟩, hstt⟩ := cw
  obtain ⟨hx, hb, hml, ho, -⟩ := S
  intro T hT X
  rcases vx_callS X hx (bytes := bytes) (maxL := maxL) (ret := ret) ho hl hstt hini hcode hy hK hg (hsize.trans hml.symm) (argsL := As) (rest := rest) (fun sig h => hn.trans (hlen sig h)) hstack hW (by rw [hb]; exact hdg)
    (fun vm₁ hW₁ => ⟨hf.1, hf.2, hp.2 (T.setVm vm₁) hT hW₁⟩) with ⟨v, vm₁, ⟨U', l2, c2, s2⟩, hW₁, X', ⟨g', mk, t, L, e1, e2, hq, h1, hL, h2, h3⟩, st⟩ | ⟨q, vm₁, ⟨U', l2, c2, s2⟩, hW₁, X', ⟨g', mk, t, L, E, ce, e1, e2, hq, hce, hcv, hcl, h1, hL, h2, h3⟩, st⟩
  · dsimp only [Pt.U, Pt.locs, Pt.cells, Pt.slots] at X' e1 e2 h1 h2 h3 st
    subst h1; subst h2; subst h3
    exact Or.inl ⟨v, (T.setVm vm₁).calling g' mk As.toArray, t, U', L, hT, X', hL, e1, e2, hq, st⟩
  · dsimp only [Pt.U, Pt.locs, Pt.cells, Pt.slots] at X' e1 e2 h1 h2 h3 st hcl
    subst h1; subst h2; subst h3
    exact Or.inr ⟨q, (T.setVm vm₁).calling g' mk As.toArray, t, U', L, E, ce, hT, X', hL, e1, e2, hq, hce, hcv, vx_cls hW₁ hcl, st⟩
end Runs
section Rows
variable {p : Program} {l : Launch} {e : Env} {R : Room} {s : State} {m : MethodId} {args : Array Value} {below : List Frame} {meth : Method} {c : Code} {H : Heap} {locs : List Loc} {cells slots : Nat} {Q : State → Prop}
variable {mc ms : Nat} {free : Addr → Prop} {A0 A1 : Nat → Prop} {H0 : Heap} {a : Array Value} {pc : Nat} {ls : Array Slot} {st0 rest : List Value}
theorem vx_keep {st₀ t T' : State} {L : List Loc} (h0 : st₀.heap = H) (e1 : T'.heap = t.heap) (hS : va_S A0 H0 H locs) (hA : ∀ q, q < H.size → A1 q → A0 q) (hf : ∀ q, free q → A0 q) (hL : ∀ q ∈ L, free q.base) (hF : va_F A1 st₀ t) :
    H.size ≤ T'.heap.size ∧ (∀ q : Nat, q < H.size → ¬ A1 q → T'.heap[q]? = H[q]?) ∧ va_S A0 H0 T'.heap (locs ++ L) := by
  obtain ⟨hz, hk⟩ := hF
  rw [h0] at hz hk
  exact ⟨by rw [e1]; exact hz, fun q h1 h2 => by rw [e1]; exact hk q h1 h2,
    ⟨Nat.le_trans hS.1 (by rw [e1]; exact hz), fun q h1 h2 => by rw [e1, hk q (Nat.lt_of_lt_of_le h1 hS.1) (fun z => h2 (hA q (Nat.lt_of_lt_of_le h1 hS.1) z))]; exact hS.2.1 q h1 h2, fun q hq => by
      rcases List.mem_append.mp hq with h | h
      · exact hS.2.2 q h
      · exact hf _ (hL q h)⟩⟩
theorem vx_calli {S SX : Type} {post : Int32 → S → Prop} {px : SX → Prop} {B : S → State → Prop} {BX : String → SX → State → Prop} {AX : Nat → Prop} (hr : vx_Run p l e R s m args below meth c H locs cells slots mc ms (F0 m pc ls st0) rest (va_Qi post B A1 a) (vx_X px BX AX) free) (hS : va_S A0 H0 H locs) (hA : ∀ q, q < H.size → A1 q → A0 q) (hf : ∀ q, free q → A0 q) (hAX : ∀ q, q < H.size → AX q → A0 q)
    (kx : ∀ (E : String) (ce : Cell) (q9 : Addr) (u : SX) (t : State) (H1 : Heap) (locs1 : List Loc), t.heap = H1 → s.vm.Alike t.vm → px u → BX E u t → H.size ≤ H1.size → (∀ q : Nat, q < H.size → ¬ AX q → H1[q]? = H[q]?) → va_S A0 H0 H1 locs1 → H1[q9]? = some ce → ce.vm = .none → s.vm.findClass E = some ce.cls → vx_W p l e R s m args below meth c H1 locs1 (cells + mc) (slots + ms) Q (F0 m pc ls rest) q9)
    (kk : ∀ (r : Int32) (u : S) (t : State) (H1 : Heap) (locs1 : List Loc), t.heap = H1 → s.vm.Alike t.vm → post r u → B u t → H.size ≤ H1.size → (∀ q : Nat, q < H.size → ¬ A1 q → H1[q]? = H[q]?) → va_S A0 H0 H1 locs1 → W p l e R s m args below meth c H1 locs1 (cells + mc) (slots + ms) Q (F0 m (pc + 3) ls (.int r :: rest))) : W p l e R s m args below meth c H locs cells slots Q (F0 m pc ls st0) := by
  intro T hT X
  rcases hr T hT X with ⟨v, st₀, t, T', L, h0, X', hL, e1, e2, ⟨⟨r, u, hv, hp, hb⟩, hF⟩, st⟩ | ⟨q, st₀, t, T', L, E, ce, h0, X', hL, e1, e2, ⟨u, hp, hb, hF⟩, hce, hcv, hcl, st⟩
  · cases hv
    obtain ⟨k1, k2, k3⟩ := vx_keep h0 e1 hS hA hf hL hF
    obtain ⟨t2, a1, b1⟩ := kk r u t T'.heap (locs ++ L) e1.symm (by rw [← e2]; exact X'.warmed.alike) hp hb k1 k2 k3 T' rfl X'
    exact ⟨t2, st t2 a1, b1⟩
  · obtain ⟨k1, k2, k3⟩ := vx_keep h0 e1 hS hAX hf hL hF
    obtain ⟨t2, a1, b1⟩ := kx E ce q u t T'.heap (locs ++ L) e1.symm (by rw [← e2]; exact X'.warmed.alike) hp hb k1 k2 k3 (by rw [e1]; exact hce) hcv hcl T' rfl X'
    exact ⟨t2, st.trans a1, b1⟩
theorem vx_calll {S SX : Type} {post : Int64 → S → Prop} {px : SX → Prop} {B : S → State → Prop} {BX : String → SX → State → Prop} {AX : Nat → Prop} (hr : vx_Run p l e R s m args below meth c H locs cells slots mc ms (F0 m pc ls st0) rest (va_Ql post B A1 a) (vx_X px BX AX) free) (hS : va_S A0 H0 H locs) (hA : ∀ q, q < H.size → A1 q → A0 q) (hf : ∀ q, free q → A0 q) (hAX : ∀ q, q < H.size → AX q → A0 q)
    (kx : ∀ (E : String) (ce : Cell) (q9 : Addr) (u : SX) (t : State) (H1 : Heap) (locs1 : List Loc), t.heap = H1 → s.vm.Alike t.vm → px u → BX E u t → H.size ≤ H1.size → (∀ q : Nat, q < H.size → ¬ AX q → H1[q]? = H[q]?) → va_S A0 H0 H1 locs1 → H1[q9]? = some ce → ce.vm = .none → s.vm.findClass E = some ce.cls → vx_W p l e R s m args below meth c H1 locs1 (cells + mc) (slots + ms) Q (F0 m pc ls rest) q9)
    (kk : ∀ (r : Int64) (u : S) (t : State) (H1 : Heap) (locs1 : List Loc), t.heap = H1 → s.vm.Alike t.vm → post r u → B u t → H.size ≤ H1.size → (∀ q : Nat, q < H.size → ¬ A1 q → H1[q]? = H[q]?) → va_S A0 H0 H1 locs1 → W p l e R s m args below meth c H1 locs1 (cells + mc) (slots + ms) Q (F0 m (pc + 3) ls (.long r :: rest))) : W p l e R s m args below meth c H locs cells slots Q (F0 m pc ls st0) := by
  intro T hT X
  rcases hr T hT X with ⟨v, st₀, t, T', L, h0, X', hL, e1, e2, ⟨⟨r, u, hv, hp, hb⟩, hF⟩, st⟩ | ⟨q, st₀, t, T', L, E, ce, h0, X', hL, e1, e2, ⟨u, hp, hb, hF⟩, hce, hcv, hcl, st⟩
  · cases hv
    obtain ⟨k1, k2, k3⟩ := vx_keep h0 e1 hS hA hf hL hF
    obtain ⟨t2, a1, b1⟩ := kk r u t T'.heap (locs ++ L) e1.symm (by rw [← e2]; exact X'.warmed.alike) hp hb k1 k2 k3 T' rfl X'
    exact ⟨t2, st t2 a1, b1⟩
  · obtain ⟨k1, k2, k3⟩ := vx_keep h0 e1 hS hAX hf hL hF
    obtain ⟨t2, a1, b1⟩ := kx E ce q u t T'.heap (locs ++ L) e1.symm (by rw [← e2]; exact X'.warmed.alike) hp hb k1 k2 k3 (by rw [e1]; exact hce) hcv hcl T' rfl X'
    exact ⟨t2, st.trans a1, b1⟩
theorem vx_callf {S SX : Type} {post : UInt32 → S → Prop} {px : SX → Prop} {B : S → State → Prop} {BX : String → SX → State → Prop} {AX : Nat → Prop} (hr : vx_Run p l e R s m args below meth c H locs cells slots mc ms (F0 m pc ls st0) rest (va_Qf post B A1 a) (vx_X px BX AX) free) (hS : va_S A0 H0 H locs) (hA : ∀ q, q < H.size → A1 q → A0 q) (hf : ∀ q, free q → A0 q) (hAX : ∀ q, q < H.size → AX q → A0 q)
    (kx : ∀ (E : String) (ce : Cell) (q9 : Addr) (u : SX) (t : State) (H1 : Heap) (locs1 : List Loc), t.heap = H1 → s.vm.Alike t.vm → px u → BX E u t → H.size ≤ H1.size → (∀ q : Nat, q < H.size → ¬ AX q → H1[q]? = H[q]?) → va_S A0 H0 H1 locs1 → H1[q9]? = some ce → ce.vm = .none → s.vm.findClass E = some ce.cls → vx_W p l e R s m args below meth c H1 locs1 (cells + mc) (slots + ms) Q (F0 m pc ls rest) q9)
    (kk : ∀ (r : UInt32) (u : S) (t : State) (H1 : Heap) (locs1 : List Loc), t.heap = H1 → s.vm.Alike t.vm → post r u → B u t → H.size ≤ H1.size → (∀ q : Nat, q < H.size → ¬ A1 q → H1[q]? = H[q]?) → va_S A0 H0 H1 locs1 → W p l e R s m args below meth c H1 locs1 (cells + mc) (slots + ms) Q (F0 m (pc + 3) ls (.float r :: rest))) : W p l e R s m args below meth c H locs cells slots Q (F0 m pc ls st0) := by
  intro T hT X
  rcases hr T hT X with ⟨v, st₀, t, T', L, h0, X', hL, e1, e2, ⟨⟨r, u, hv, hp, hb⟩, hF⟩, st⟩ | ⟨q, st₀, t, T', L, E, ce, h0, X', hL, e1, e2, ⟨u, hp, hb, hF⟩, hce, hcv, hcl, st⟩
  · cases hv
    obtain ⟨k1, k2, k3⟩ := vx_keep h0 e1 hS hA hf hL hF
    obtain ⟨t2, a1, b1⟩ := kk r u t T'.heap (locs ++ L) e1.symm (by rw [← e2]; exact X'.warmed.alike) hp hb k1 k2 k3 T' rfl X'
    exact ⟨t2, st t2 a1, b1⟩
  · obtain ⟨k1, k2, k3⟩ := vx_keep h0 e1 hS hAX hf hL hF
    obtain ⟨t2, a1, b1⟩ := kx E ce q u t T'.heap (locs ++ L) e1.symm (by rw [← e2]; exact X'.warmed.alike) hp hb k1 k2 k3 (by rw [e1]; exact hce) hcv hcl T' rfl X'
    exact ⟨t2, st.trans a1, b1⟩
theorem vx_calld {S SX : Type} {post : UInt64 → S → Prop} {px : SX → Prop} {B : S → State → Prop} {BX : String → SX → State → Prop} {AX : Nat → Prop} (hr : vx_Run p l e R s m args below meth c H locs cells slots mc ms (F0 m pc ls st0) rest (va_Qd post B A1 a) (vx_X px BX AX) free) (hS : va_S A0 H0 H locs) (hA : ∀ q, q < H.size → A1 q → A0 q) (hf : ∀ q, free q → A0 q) (hAX : ∀ q, q < H.size → AX q → A0 q)
    (kx : ∀ (E : String) (ce : Cell) (q9 : Addr) (u : SX) (t : State) (H1 : Heap) (locs1 : List Loc), t.heap = H1 → s.vm.Alike t.vm → px u → BX E u t → H.size ≤ H1.size → (∀ q : Nat, q < H.size → ¬ AX q → H1[q]? = H[q]?) → va_S A0 H0 H1 locs1 → H1[q9]? = some ce → ce.vm = .none → s.vm.findClass E = some ce.cls → vx_W p l e R s m args below meth c H1 locs1 (cells + mc) (slots + ms) Q (F0 m pc ls rest) q9)
    (kk : ∀ (r : UInt64) (u : S) (t : State) (H1 : Heap) (locs1 : List Loc), t.heap = H1 → s.vm.Alike t.vm → post r u → B u t → H.size ≤ H1.size → (∀ q : Nat, q < H.size → ¬ A1 q → H1[q]? = H[q]?) → va_S A0 H0 H1 locs1 → W p l e R s m args below meth c H1 locs1 (cells + mc) (slots + ms) Q (F0 m (pc + 3) ls (.double r :: rest))) : W p l e R s m args below meth c H locs cells slots Q (F0 m pc ls st0) := by
  intro T hT X
  rcases hr T hT X with ⟨v, st₀, t, T', L, h0, X', hL, e1, e2, ⟨⟨r, u, hv, hp, hb⟩, hF⟩, st⟩ | ⟨q, st₀, t, T', L, E, ce, h0, X', hL, e1, e2, ⟨u, hp, hb, hF⟩, hce, hcv, hcl, st⟩
  · cases hv
    obtain ⟨k1, k2, k3⟩ := vx_keep h0 e1 hS hA hf hL hF
    obtain ⟨t2, a1, b1⟩ := kk r u t T'.heap (locs ++ L) e1.symm (by rw [← e2]; exact X'.warmed.alike) hp hb k1 k2 k3 T' rfl X'
    exact ⟨t2, st t2 a1, b1⟩
  · obtain ⟨k1, k2, k3⟩ := vx_keep h0 e1 hS hAX hf hL hF
    obtain ⟨t2, a1, b1⟩ := kx E ce q u t T'.heap (locs ++ L) e1.symm (by rw [← e2]; exact X'.warmed.alike) hp hb k1 k2 k3 (by rw [e1]; exact hce) hcv hcl T' rfl X'
    exact ⟨t2, st.trans a1, b1⟩
theorem vx_callv {S SX : Type} {post : S → Prop} {px : SX → Prop} {B : S → State → Prop} {BX : String → SX → State → Prop} {AX : Nat → Prop} (hr : vx_Run p l e R s m args below meth c H locs cells slots mc ms (F0 m pc ls st0) rest (va_Qv post B A1 a) (vx_X px BX AX) free) (hS : va_S A0 H0 H locs) (hA : ∀ q, q < H.size → A1 q → A0 q) (hf : ∀ q, free q → A0 q) (hAX : ∀ q, q < H.size → AX q → A0 q)
    (kx : ∀ (E : String) (ce : Cell) (q9 : Addr) (u : SX) (t : State) (H1 : Heap) (locs1 : List Loc), t.heap = H1 → s.vm.Alike t.vm → px u → BX E u t → H.size ≤ H1.size → (∀ q : Nat, q < H.size → ¬ AX q → H1[q]? = H[q]?) → va_S A0 H0 H1 locs1 → H1[q9]? = some ce → ce.vm = .none → s.vm.findClass E = some ce.cls → vx_W p l e R s m args below meth c H1 locs1 (cells + mc) (slots + ms) Q (F0 m pc ls rest) q9)
    (kk : ∀ (u : S) (t : State) (H1 : Heap) (locs1 : List Loc), t.heap = H1 → s.vm.Alike t.vm → post u → B u t → H.size ≤ H1.size → (∀ q : Nat, q < H.size → ¬ A1 q → H1[q]? = H[q]?) → va_S A0 H0 H1 locs1 → W p l e R s m args below meth c H1 locs1 (cells + mc) (slots + ms) Q (F0 m (pc + 3) ls (rest))) : W p l e R s m args below meth c H locs cells slots Q (F0 m pc ls st0) := by
  intro T hT X
  rcases hr T hT X with ⟨v, st₀, t, T', L, h0, X', hL, e1, e2, ⟨⟨u, hv, hp, hb⟩, hF⟩, st⟩ | ⟨q, st₀, t, T', L, E, ce, h0, X', hL, e1, e2, ⟨u, hp, hb, hF⟩, hce, hcv, hcl, st⟩
  · cases hv
    obtain ⟨k1, k2, k3⟩ := vx_keep h0 e1 hS hA hf hL hF
    obtain ⟨t2, a1, b1⟩ := kk u t T'.heap (locs ++ L) e1.symm (by rw [← e2]; exact X'.warmed.alike) hp hb k1 k2 k3 T' rfl X'
    exact ⟨t2, st t2 a1, b1⟩
  · obtain ⟨k1, k2, k3⟩ := vx_keep h0 e1 hS hAX hf hL hF
    obtain ⟨t2, a1, b1⟩ := kx E ce q u t T'.heap (locs ++ L) e1.symm (by rw [← e2]; exact X'.warmed.alike) hp hb k1 k2 k3 (by rw [e1]; exact hce) hcv hcl T' rfl X'
    exact ⟨t2, st.trans a1, b1⟩
/-- caught by the row x of this method's table; the rows ahead don't take it -/
theorem vx_catch {own name : String} {E : String} {ce : Cell} {q : Addr} (hown : s.vm.findClass own = some m.cls) (pre : List ExceptionTableEntry) (x : ExceptionTableEntry) (suf : List ExceptionTableEntry) (hsplit : c.exceptionTable.toList = pre ++ x :: suf)
    (hpass : ∀ z ∈ pre, covers z pc = false ∨ (z.catchType ≠ 0 ∧ ∃ nm : String, (Cond.classLink own z.catchType nm).before args s = true ∧ va_Nc E nm s)) (hx : covers x pc = true) (h0 : x.catchType ≠ 0)
    (hlink : (Cond.classLink own x.catchType name).before args s = true) (hcast : (Cond.castable E name).before args s = true) (hcell : H[q]? = some ce) (hv : ce.vm = .none) (hcl : s.vm.findClass E = some ce.cls)
    (kk : W p l e R s m args below meth c H locs cells slots Q (F0 m x.handlerPc ls [.ref q])) : vx_W p l e R s m args below meth c H locs cells slots Q (F0 m pc ls rest) q := by
  intro T hT X
  have hpl : e.platform.magicAccessors = ({} : Platform).magicAccessors := by rw [X.admits.platform]
  obtain ⟨c3, c4, hc3, hc4, hasg⟩ := Cond.castable_spec hcast
  cases Option.some.inj (hc3.symm.trans hcl)
  obtain ⟨c5, hc5, hcl5⟩ := Cond.classLink_spec hown hlink e.platform hpl
  cases Option.some.inj (hc4.symm.trans hc5)
  obtain ⟨vm', X', st⟩ := X.thenCaughtThrough q (g := F0 m pc ls rest) rfl (Steps.refl _) (by rw [hT]; exact hcell) (by rw [hv]; rfl) (by obtain ⟨k9, h9, -⟩ := Vm.findClass_spec hcl; exact ⟨k9, h9⟩) pre x suf hsplit
    (fun z hz => by
      rcases hpass z hz with h | ⟨hz0, nm, hl1, hn1⟩
      · exact Or.inl h
      · obtain ⟨c6, hc6, hcl6⟩ := Cond.classLink_spec hown hl1 e.platform hpl
        obtain ⟨a8, b8, h1, h2, h3⟩ := hn1
        cases Option.some.inj (h1.symm.trans hcl)
        cases Option.some.inj (h2.symm.trans hc6)
        exact Or.inr ⟨hz0, _, hcl6, h3⟩) hx (Or.inr ⟨h0, c4, hcl5, hasg⟩)
  obtain ⟨t, a1, b1⟩ := kk (T.setVm vm') hT X'
  exact ⟨t, st.trans a1, b1⟩
end Rows
section Ends
variable {p : Program} {l : Launch} {e : Env} {R : Room} {s : State} {m : MethodId} {args : Array Value} {below : List Frame} {meth : Method} {c : Code} {H : Heap} {locs : List Loc} {cells slots : Nat} {Q : State → Prop}
variable {mc ms : Nat} {free : Addr → Prop} {A0 A1 : Nat → Prop} {H0 : Heap} {a : Array Value} {ls : Array Slot} {st0 rest : List Value}
variable {Qc : Array Value → State → Outcome → State → Prop} {XC : String → State → State → Prop}
/-- what a body that may throw owes at its end -/
def vx_MQ (below : List Frame) (Qc : Array Value → State → Outcome → State → Prop) (XC : String → State → State → Prop) (a : Array Value) (s : State) (mc ms : Nat) (free : Addr → Prop) : State → Prop := fun t =>
  ∃ o, t.status = .running ∧ Ended t below o ∧ vx_Q Qc XC mc ms free a s o t
theorem vx_ret {g : JFrame} {mc ms : Nat} (k : W p l e R s m args below meth c H locs cells slots (MQ below Qc args s mc ms free) g) : W p l e R s m args below meth c H locs cells slots (vx_MQ below Qc XC args s mc ms free) g := by
  intro T hT X
  obtain ⟨t, a1, o, b1, b2, b3, b4⟩ := k T hT X
  exact ⟨t, a1, o, b1, b2, Or.inl ⟨b3, b4⟩⟩
/-- not caught here: it goes on to the caller -/
theorem vx_widen {g : JFrame} {q : Addr} {k n : Nat} (h1 : cells ≤ k) (h2 : slots ≤ n) (kk : vx_W p l e R s m args below meth c H locs k n Q g q) : vx_W p l e R s m args below meth c H locs cells slots Q g q := fun T hT X => kk T hT (stand_widen X h1 h2)
theorem vx_out {pc : Nat} {E : String} {ce : Cell} {q : Addr} {mc ms : Nat} (hout : ∀ x ∈ c.exceptionTable.toList, covers x pc = false) (hlocks : meth.locks = false) (hcell : H[q]? = some ce) (hv : ce.vm = .none) (hcl : s.vm.findClass E = some ce.cls)
    (hx : ∀ t : State, t.heap = H → s.vm.Alike t.vm → XC E s t) (hf : ∀ z ∈ locs, free z.base) (hc : cells ≤ mc) (hs : slots ≤ ms) :
    vx_W p l e R s m args below meth c H locs cells slots (vx_MQ below Qc XC args s mc ms free) (F0 m pc ls rest) q := by
  intro T hT X
  obtain ⟨st1, hrun, hend, hW, hsm⟩ := X.leaveThrown q (g := F0 m pc ls rest) rfl rfl rfl hout hlocks
  have hcell9 : (T.setFrames (.throwing q :: below)).heap[q]? = some ce := by
    show T.heap[q]? = some ce
    rw [hT]; exact hcell
  exact ⟨_, st1, .threw q, hrun, hend, Or.inr ⟨q, rfl, E, ce, locs, hx _ hT hW.alike, hcell9, hv, hcl, hW, hsm.mono hc hs, hf⟩⟩
theorem vx_frame {U : State} {k n : Nat} (h : s.sameButNew ({ U with vm := s.vm } : State) locs k n) : s.heap.size ≤ U.heap.size ∧ ∀ q : Nat, q < s.heap.size → (∀ z ∈ locs, z.base ≠ q) → U.heap[q]? = s.heap[q]? := by
  obtain ⟨-, h2, -, -, -, h6⟩ := h
  refine ⟨h2, fun q hq hz => ?_⟩
  obtain ⟨c9, e1, e2, e3, e4⟩ := h6 q _ (Array.getElem?_eq_getElem hq)
  have hs : c9.slots = (s.heap[q]).slots := Array.ext_getElem? fun i => e4 i fun hm => hz _ hm rfl
  have h9 : c9 = s.heap[q] := by
    rw [hs] at e2
    exact e2
  have e5 : U.heap[q]? = some c9 := e1
  rw [e5, h9, Array.getElem?_eq_getElem hq]
/-- the words of a throw but the four that speak of the heap -/
def vx_no (w : Cond) : Bool := decide (w ≠ .isRef (.static Bundle.tN "UNASSIGNED_STACK" Bundle.steD)) && decide (w ≠ .isRef (.static Bundle.tN "SUPPRESSED_SENTINEL" Bundle.listD)) && decide (w ≠ .laysStatic Bundle.tN "UNASSIGNED_STACK" Bundle.steD) && decide (w ≠ .laysStatic Bundle.tN "SUPPRESSED_SENTINEL" Bundle.listD)
def vx_at0 (own : String) (ic : Nat) (X : String) (names : List String) : List Cond := (Bundle.ownAtoms0 own ic X names).filter vx_no
def vx_atS (own : String) (ic : Nat) (X : String) (names : List String) : List Cond := (Bundle.ownAtoms own ic X names).filter vx_no
/-- a word that the tables alone decide, or a good one -/
def vx_ot (w : Cond) : Bool := w.onTables || goodWord w
theorem vx_ot_at {args a' : Array Value} {s U : State} {w : Cond} (hW : s.WarmedH U.vm) (hvm : s.vm = U.vm) (hg : vx_ot w = true) (h : w.before args s = true) : w.before a' U = true := by
  simp only [vx_ot, Bool.or_eq_true] at hg
  rcases hg with hg | hg
  · exact va_tabs hg hvm h
  · exact word_at hW (good_of_word hg) h
/-- a list's words: the good ones out of the method's own list, the others by premises of their own -/
theorem vx_hat {args : Array Value} {s : State} {L B : List Cond} (h1 : ∀ w ∈ L.filter goodWord, w.before args s = true) (h2 : ∀ w ∈ L.filter (fun w => !goodWord w), w ∈ B) (h3 : ∀ w ∈ B, w.before args s = true) : ∀ w ∈ L, w.before args s = true := by
  intro w hw
  by_cases g : goodWord w = true
  · exact h1 w (List.mem_filter.mpr ⟨hw, g⟩)
  · refine h3 w (h2 w (List.mem_filter.mpr ⟨hw, ?_⟩))
    show (!goodWord w) = true
    cases hgw : goodWord w
    · rfl
    · exact absurd hgw g
theorem vx_c {args : Array Value} {s : State} {w : Cond} {B : List Cond} (h : w.before args s = true) (t : ∀ w ∈ B, w.before args s = true) : ∀ w' ∈ w :: B, w'.before args s = true := fun w' h' => (List.mem_cons.mp h').elim (fun e => by rw [e]; exact h) (t w')
theorem vx_n {args : Array Value} {s : State} : ∀ w ∈ ([] : List Cond), w.before args s = true := fun _ h => nomatch h
theorem vx_own {args : Array Value} {s : State} {L : List Cond} (h1 : ∀ w ∈ L.filter vx_no, w.before args s = true)
    (hU : (Cond.isRef (.static Bundle.tN "UNASSIGNED_STACK" Bundle.steD)).before args s = true) (hN : (Cond.isRef (.static Bundle.tN "SUPPRESSED_SENTINEL" Bundle.listD)).before args s = true)
    (lU : (Cond.laysStatic Bundle.tN "UNASSIGNED_STACK" Bundle.steD).before args s = true) (lN : (Cond.laysStatic Bundle.tN "SUPPRESSED_SENTINEL" Bundle.listD).before args s = true) : ∀ w ∈ L, w.before args s = true := by
  intro w hw
  by_cases e1 : w = .isRef (.static Bundle.tN "UNASSIGNED_STACK" Bundle.steD)
  · rw [e1]; exact hU
  · by_cases e2 : w = .isRef (.static Bundle.tN "SUPPRESSED_SENTINEL" Bundle.listD)
    · rw [e2]; exact hN
    · by_cases e3 : w = .laysStatic Bundle.tN "UNASSIGNED_STACK" Bundle.steD
      · rw [e3]; exact lU
      · by_cases e4 : w = .laysStatic Bundle.tN "SUPPRESSED_SENTINEL" Bundle.listD
        · rw [e4]; exact lN
        · exact h1 w (List.mem_filter.mpr ⟨hw, by unfold vx_no; rw [decide_eq_true e1, decide_eq_true e2, decide_eq_true e3, decide_eq_true e4]; rfl⟩)
/-- where a static field lies, its class's statics cell in H -/
def vx_L (C n d : String) (A : Nat → Prop) (U : State) (H : Heap) : Prop := ∃ (c : ClassId) (k : Class) (i : Nat) (f : Field) (a : Nat) (cell : Cell), U.vm.findClass C = some c ∧ U.fieldFound? C n d = some (c, k, i, f) ∧ f.isStatic = true ∧ k.statics = some a ∧ H[a]? = some cell ∧ cell.vm.isStatics = true ∧ cell.cls = c ∧ f.slot < cell.slots.size ∧ k.staticTypes[f.slot]? = some f.type ∧ ¬ A a
theorem vx_L.moved {C n d : String} {A : Nat → Prop} {u U : State} {H : Heap} (hvm : u.vm.Alike U.vm) (h : vx_L C n d A u H) : vx_L C n d A U H := by
  obtain ⟨c, k, i, f, a, cell, h1, h2, h3, h4, h5, h6, h7, h8, h9, h10⟩ := h
  obtain ⟨k', hi', he⟩ := State.fieldFound?_setVm hvm h2
  exact ⟨c, k', i, f, a, cell, by rw [hvm.findClass]; exact h1, hi', h3, by rw [he]; exact h4, h5, h6, h7, h8, by rw [he]; exact h9, h10⟩
theorem vx_L.kept {C n d : String} {A : Nat → Prop} {U : State} {H H1 : Heap} (h : vx_L C n d A U H) (hq : ∀ a : Nat, a < H.size → ¬ A a → H1[a]? = H[a]?) : vx_L C n d A U H1 := by
  obtain ⟨c, k, i, f, a, cell, h1, h2, h3, h4, h5, h6, h7, h8, h9, h10⟩ := h
  exact ⟨c, k, i, f, a, cell, h1, h2, h3, h4, by rw [hq a (Array.getElem?_eq_some_iff.mp h5).1 h10]; exact h5, h6, h7, h8, h9, h10⟩
theorem vx_L.narrow {C n d : String} {A B : Nat → Prop} {U : State} {H : Heap} (h : vx_L C n d A U H) (hAB : ∀ q, B q → A q) : vx_L C n d B U H := by
  obtain ⟨c, k, i, f, a, cell, h1, h2, h3, h4, h5, h6, h7, h8, h9, h10⟩ := h
  exact ⟨c, k, i, f, a, cell, h1, h2, h3, h4, h5, h6, h7, h8, h9, fun z => h10 (hAB _ z)⟩
theorem vx_L.word {C n d : String} {A : Nat → Prop} {s : State} {args : Array Value} (h : vx_L C n d A s s.heap) : (Cond.laysStatic C n d).before args s = true := by
  obtain ⟨c, k, i, f, a, cell, h1, h2, h3, h4, h5, h6, h7, h8, h9, -⟩ := h
  show (Cond.laysStatic C n d).holds args s none s [] = true
  exact Cond.laysStatic_of h1 h2 h3 h4 h5 h6 h7 h8 h9
/-- .. and what it holds: null or some reference -/
def vx_Zq (C n d : String) (A : Nat → Prop) (U : State) (H : Heap) : Prop := va_Zq C n d A U H ∧ vx_L C n d A U H
theorem vx_Zq.moved {C n d : String} {A : Nat → Prop} {u U : State} {H : Heap} (hvm : u.vm.Alike U.vm) (h : vx_Zq C n d A u H) : vx_Zq C n d A U H := ⟨va_Zq.moved hvm h.1, vx_L.moved hvm h.2⟩
theorem vx_Zq.kept {C n d : String} {A : Nat → Prop} {U : State} {H H1 : Heap} (h : vx_Zq C n d A U H) (hq : ∀ a : Nat, a < H.size → ¬ A a → H1[a]? = H[a]?) : vx_Zq C n d A U H1 := ⟨va_Zq.kept h.1 hq, vx_L.kept h.2 hq⟩
theorem vx_Zq.narrow {C n d : String} {A B : Nat → Prop} {U : State} {H : Heap} (h : vx_Zq C n d A U H) (hAB : ∀ q, B q → A q) : vx_Zq C n d B U H := ⟨va_Zq.narrow h.1 hAB, vx_L.narrow h.2 hAB⟩
theorem vx_Zqof {args : Array Value} {s : State} {C n d : String} {A : Nat → Prop} (hl : (Cond.laysStatic C n d).before args s = true) (hini : (Cond.initialized C).before args s = true) (h : (Cond.isRef (.static C n d)).before args s = true) (hA : ∀ a : Nat, a < s.heap.size → ¬ A a) : vx_Zq C n d A s s.heap := by
  refine ⟨va_Zqof hl hini h hA, ?_⟩
  obtain ⟨c, k, i, f, a, cell, h1, h2, h3, h4, h5, h6, h7, h8, h9⟩ := Cond.laysStatic_spec hl
  exact ⟨c, k, i, f, a, cell, h1, h2, h3, h4, h5, h6, h7, h8, h9, hA a (Array.getElem?_eq_some_iff.mp h5).1⟩
theorem vx_isRef {C n d : String} {v : Value} {A : Nat → Prop} {s : State} {args : Array Value} (h : va_Z C n d v A s s.heap) (hv : v.isRef = true) : (Cond.isRef (.static C n d)).before args s = true := by
  obtain ⟨cf, kf, fi, f, a, cell, h1, h2, h3, h4, h5, h6, h7, -⟩ := h
  have he : (Term.static C n d).eval args s none [] s = some v := by
    simp [Term.eval, State.fieldNamed?, h1, h2, h4, h5, h6, h7]
  simp only [Cond.before, Cond.holds, Cond.value, he]
  cases v <;> simp_all [Value.isRef]
theorem vx_isRefq {C n d : String} {A : Nat → Prop} {s : State} {args : Array Value} (h : va_Zq C n d A s s.heap) : (Cond.isRef (.static C n d)).before args s = true := by
  rcases h with h | ⟨t, h⟩
  · exact vx_isRef h rfl
  · exact vx_isRef h rfl
/-- the same frame, seen from here: as if the method were called anew in this heap -/
theorem vx_rebase {T : State} (X : Stand p l e R s m args below meth c T locs cells slots) {R' : Room} (hf : R'.frames ≤ R.frames) (hl : R'.locals ≤ R.locals) (hc : cells + R'.cells ≤ R.cells) (hs : slots + R'.slots ≤ R.slots) :
    Stand p l e R' ((T.setVm s.vm).setFrames (.invoking m args :: below)) m args below meth c T [] 0 0 := by
  have htop : (T.setVm s.vm).topJava?.isSome := X.here.top
  have hF : ((T.setVm s.vm).setFrames (.invoking m args :: below)).frames = .invoking m args :: below := State.frames_setFrames _ (State.cur_lt_of_top htop)
  obtain ⟨g₀, hg0⟩ := Option.isSome_iff_exists.mp htop
  obtain ⟨r, hr⟩ := State.topJava?_eq_some.mp hg0
  have hl9 : e.platform.stackLimits (T.setVm s.vm).me = e.platform.stackLimits s.me := X.limits
  have hb9 : (T.setVm s.vm).me.stackBytes = s.me.stackBytes := X.bytes
  refine ⟨X.admits, X.cas, X.clock, hF, ?_, X.hears, X.method, X.code, X.here, X.tail, X.warmed, ?_, ?_, ?_⟩
  · have h := X.room
    have hU : ((T.setVm s.vm).setFrames (.invoking m args :: below)).localsInUse = s.localsInUse := by
      rw [State.localsInUse_invoking hF (meth := meth) (c := c) X.method X.code, State.localsInUse_invoking X.frames X.method X.code]
    simp only [State.hasRoom, Bool.and_eq_true, decide_eq_true_eq] at h ⊢
    obtain ⟨⟨⟨⟨h1, h2, h3, h4, h5, h6⟩, h7⟩, h8⟩, h9⟩ := h
    rw [X.frames, List.length_cons] at h2 h3
    have q1 := X.heapSize
    have q2 := X.used
    simp only [hF, hU, List.length_cons, State.stackLimits_setFrames, State.stackBytes_setFrames, hl9, hb9]
    refine ⟨⟨⟨⟨by omega, by omega, by omega, by omega, by omega, h6⟩, ?_⟩, ?_⟩, X.book⟩
    · show T.heap.size + R'.cells ≤ e.platform.maxCells
      omega
    · show T.slotsUsed + R'.slots ≤ e.platform.maxSlots
      omega
  · rw [State.stackLimits_setFrames]; rfl
  · rw [State.stackBytes_setFrames]; rfl
  · refine ⟨?_, Nat.le_refl _, Nat.le_refl _, ?_, ?_, fun a c9 h9 => ⟨c9, h9, rfl, rfl, fun _ _ => rfl⟩⟩
    · obtain ⟨t, ht, -⟩ := State.frames_cons hr
      show T.setVm s.vm = { ((T.setVm s.vm).setFrames (.invoking m args :: below)).setFrames (T.setVm s.vm).frames with heap := T.heap, slotsUsed := T.slotsUsed }
      rw [State.setFrames_setFrames, State.setFrames_self ht]
      rfl
    · show T.slotsUsed = T.slotsUsed + ((T.heap.toList.drop T.heap.size).map (·.slots.size)).sum
      rw [List.drop_eq_nil_of_le (Nat.le_of_eq Array.length_toList)]
      rfl
    · show ((T.heap.toList.drop T.heap.size).map (·.slots.size)).sum ≤ 0
      rw [List.drop_eq_nil_of_le (Nat.le_of_eq Array.length_toList)]
      exact Nat.le_refl _
/-- 'throw new E()': new; dup; invokespecial; athrow -/
theorem vx_throw0 {cc : ByteArray} {pc : Nat} (hexec : p.tables.exec = Jvm.exec) (hb : c.code = cc) (hl : l.stackTraces = false) {own cls : String} {names : List String} {ik ic mc ms : Nat} {A : Nat → Prop}
    (hown : s.vm.findClass own = some m.cls) (hcls : Bundle.fit cls = true) (hnames : ∀ n ∈ names, Bundle.fit n = true)
    (hk : (Cond.classLink own ik cls).before args s = true) (hini : (Cond.initialized cls).before args s = true) (hat : ∀ w ∈ vx_at0 own ic cls names, w.before args s = true)
    (hgood : ∀ w ∈ Cond.classLink own ik cls :: Cond.initialized cls :: vx_at0 own ic cls names, vx_ot w = true)
    (hU : vx_Zq Bundle.tN "UNASSIGNED_STACK" Bundle.steD A s s.heap) (hN : vx_Zq Bundle.tN "SUPPRESSED_SENTINEL" Bundle.listD A s s.heap) (hS : va_S A s.heap H locs) (hsize : ls.size = c.maxLocals)
    (d0 : decode cc pc = .ok (.new ik, 3)) (d3 : decode cc (pc + 3) = .ok (.dup, 1)) (d4 : decode cc (pc + 4) = .ok (.invokespecial ic, 3)) (d7 : decode cc (pc + 7) = .ok (.athrow, 1))
    (hout : ∀ x ∈ c.exceptionTable.toList, covers x (pc + 7) = false)
    (hRframes : names.length + 3 < R.frames) (hRlocals : (rest.map fun v => v.category).sum + (13 * (names.length + 1) + 42) ≤ R.locals) (hRcells : cells + 1 ≤ R.cells) (hRslots : slots + 6 ≤ R.slots) (hlocks : meth.locks = false)
    (hx : ∀ t : State, s.vm.Alike t.vm → H.size ≤ t.heap.size → (∀ q : Nat, q < H.size → t.heap[q]? = H[q]?) → XC cls s t)
    (hf : ∀ z ∈ locs, free z.base) (hc : cells + 1 ≤ mc) (hs : slots + 6 ≤ ms) :
    W p l e R s m args below meth c H locs cells slots (vx_MQ below Qc XC args s mc ms free) (F0 m pc ls rest) := by
  intro T hT X
  have htr : e.platform.stackTraces = false := (show e.platform.stackTraces = l.stackTraces by rw [X.admits.platform]).trans hl
  have Y := vx_rebase X (R' := { frames := R.frames, locals := R.locals, cells := 1, slots := 6 }) (Nat.le_refl _) (Nat.le_refl _) hRcells hRslots
  obtain ⟨s', hA⟩ : ∃ z, z = (T.setVm s.vm).setFrames (.invoking m args :: below) := ⟨_, rfl⟩
  rw [← hA] at Y
  have hvm : s'.vm = s.vm := by rw [hA]; rfl
  have hhp : s'.heap = H := by rw [hA]; exact hT
  have hW0 : s.WarmedH s'.vm := by rw [hvm]; exact State.WarmedH.refl s
  have hat' : ∀ w ∈ vx_at0 own ic cls names, w.before args s' = true := fun w hw => vx_ot_at hW0 hvm.symm (hgood w (List.mem_cons_of_mem _ (List.mem_cons_of_mem _ hw))) (hat w hw)
  have hk' : (Cond.classLink own ik cls).before args s' = true := vx_ot_at hW0 hvm.symm (hgood _ List.mem_cons_self) hk
  have hini' : (Cond.initialized cls).before args s' = true := vx_ot_at hW0 hvm.symm (hgood _ (List.mem_cons_of_mem _ List.mem_cons_self)) hini
  have hU' : vx_Zq Bundle.tN "UNASSIGNED_STACK" Bundle.steD A s' s'.heap := by rw [hhp]; exact vx_Zq.moved hW0.alike (hU.kept hS.2.1)
  have hN' : vx_Zq Bundle.tN "SUPPRESSED_SENTINEL" Bundle.listD A s' s'.heap := by rw [hhp]; exact vx_Zq.moved hW0.alike (hN.kept hS.2.1)
  have h : ∀ w ∈ Bundle.ownAtoms0 own ic cls names, w.before args s' = true := vx_own hat' (vx_isRefq hU'.1) (vx_isRefq hN'.1) hU'.2.word hN'.2.word
  have hown' : s'.vm.findClass own = some m.cls := by rw [hvm]; exact hown
  have hins : (Cond.instantiable cls 6).before args s' = true := h _ (by simp [Bundle.ownAtoms0])
  obtain ⟨vm₁, cX, kX, hfX, hkX, -, -, X₁, st1⟩ := Y.newCold hexec (own := own) (C := cls) (index := ik) (n := 6) hown' hk' hins hini'
    (g := F0 m pc ls rest) rfl (by rw [hb]; exact d0) (Nat.le_refl _) (Nat.le_refl _)
  generalize hT1 : (T.setVm vm₁).pushCell { cls := cX, slots := kX.instanceTypes.map defaultValue, vm := .none } = T1 at X₁ st1
  have hcat : (Value.ref T.heap.size).category = 1 := rfl
  have hcellA : T1.heap[T.heap.size]? = some (freshCell cX kX) := by rw [← hT1]; exact State.heap_pushCell_size _ _
  have d3' : decode c.code (pc + 3) = .ok (.dup, 1) := by rw [hb]; exact d3
  obtain ⟨U, hsteps, hrun, hend, hW, hsame, ce, hce, hO⟩ := X₁.ctorThrow0 hexec htr (own := own) (cls := cls) (names := names) (ic := ic) hown' hcls hnames h (fun x hx => nomatch hx) hfX hkX hcellA (by rw [hhp, hT]; exact Nat.le_refl _)
    (g := { method := m, pc := pc + 4, locals := ls, stack := .ref T.heap.size :: .ref T.heap.size :: rest, locked := none }) rfl hsize rfl rfl (rest := rest) rfl
    (by rw [hb]; exact d4) (by rw [hb]; exact d7) hout hRframes (by simp only [List.map_cons, List.sum_cons, hcat]; omega) hlocks
  obtain ⟨f1, f2⟩ := vx_frame hsame
  rw [hhp] at f1 f2
  have hWs : s.WarmedH U.vm := State.WarmedH.trans hW0 hW
  have hcl : s.vm.findClass cls = some ce.cls := by
    have h9 := hO.cls
    rw [hvm] at h9
    exact h9
  have hall : s.sameButNew ({ U with vm := s.vm } : State) locs mc ms := by
    subst hA
    obtain ⟨e1, e2⟩ := hsame
    rw [State.setFrames_setFrames] at e1
    have h2 : (T.setVm s.vm).sameButNew ({ U with vm := s.vm } : State) [] (0 + 1) (0 + 6) := ⟨e1, e2⟩
    have h3 := X.same.trans h2
    rw [List.append_nil] at h3
    exact h3.mono hc hs
  refine ⟨U, ?_, .threw T.heap.size, hrun, hend, Or.inr ⟨T.heap.size, rfl, cls, ce, locs, hx U hWs.alike f1 (fun q hq => f2 q hq (fun z hz => nomatch hz)), hce, hO.vm, hcl, hWs, hall, hf⟩⟩
  refine st1 _ ?_
  show Steps p.tables e below (T1.setTop { method := m, pc := pc + 3, locals := ls, stack := .ref T.heap.size :: rest, locked := none }) _
  jvm_step X₁.here [X₁.here.top, hexec, d3', Value.category]
  exact hsteps
/-- 'throw new E("text")': new; dup; ldc; invokespecial; athrow -/
theorem vx_throwS {cc : ByteArray} {pc : Nat} (hexec : p.tables.exec = Jvm.exec) (hb : c.code = cc) (hl : l.stackTraces = false) {own cls text : String} {names : List String} {ik is ic mc ms sa : Nat} {A : Nat → Prop}
    (hown : s.vm.findClass own = some m.cls) (hcls : Bundle.fit cls = true) (hnames : ∀ n ∈ names, Bundle.fit n = true)
    (hk : (Cond.classLink own ik cls).before args s = true) (hini : (Cond.initialized cls).before args s = true) (hstr : vk_R own is text sa s) (hat : ∀ w ∈ vx_atS own ic cls names, w.before args s = true)
    (hgood : ∀ w ∈ Cond.classLink own ik cls :: Cond.initialized cls :: vx_atS own ic cls names, vx_ot w = true)
    (hU : vx_Zq Bundle.tN "UNASSIGNED_STACK" Bundle.steD A s s.heap) (hN : vx_Zq Bundle.tN "SUPPRESSED_SENTINEL" Bundle.listD A s s.heap) (hS : va_S A s.heap H locs) (hsize : ls.size = c.maxLocals)
    (d0 : decode cc pc = .ok (.new ik, 3)) (d3 : decode cc (pc + 3) = .ok (.dup, 1)) (d4 : decode cc (pc + 4) = .ok (.ldc is, 2)) (d6 : decode cc (pc + 6) = .ok (.invokespecial ic, 3)) (d9 : decode cc (pc + 9) = .ok (.athrow, 1))
    (hout : ∀ x ∈ c.exceptionTable.toList, covers x (pc + 9) = false)
    (hRframes : names.length + 3 < R.frames) (hRlocals : (rest.map fun v => v.category).sum + (13 * (names.length + 1) + 43) ≤ R.locals) (hRcells : cells + 1 ≤ R.cells) (hRslots : slots + 6 ≤ R.slots) (hlocks : meth.locks = false)
    (hx : ∀ t : State, s.vm.Alike t.vm → H.size ≤ t.heap.size → (∀ q : Nat, q < H.size → t.heap[q]? = H[q]?) → XC cls s t)
    (hf : ∀ z ∈ locs, free z.base) (hc : cells + 1 ≤ mc) (hs : slots + 6 ≤ ms) :
    W p l e R s m args below meth c H locs cells slots (vx_MQ below Qc XC args s mc ms free) (F0 m pc ls rest) := by
  intro T hT X
  have htr : e.platform.stackTraces = false := (show e.platform.stackTraces = l.stackTraces by rw [X.admits.platform]).trans hl
  have Y := vx_rebase X (R' := { frames := R.frames, locals := R.locals, cells := 1, slots := 6 }) (Nat.le_refl _) (Nat.le_refl _) hRcells hRslots
  obtain ⟨s', hA⟩ : ∃ z, z = (T.setVm s.vm).setFrames (.invoking m args :: below) := ⟨_, rfl⟩
  rw [← hA] at Y
  have hvm : s'.vm = s.vm := by rw [hA]; rfl
  have hhp : s'.heap = H := by rw [hA]; exact hT
  have hW0 : s.WarmedH s'.vm := by rw [hvm]; exact State.WarmedH.refl s
  have hat' : ∀ w ∈ vx_atS own ic cls names, w.before args s' = true := fun w hw => vx_ot_at hW0 hvm.symm (hgood w (List.mem_cons_of_mem _ (List.mem_cons_of_mem _ hw))) (hat w hw)
  have hk' : (Cond.classLink own ik cls).before args s' = true := vx_ot_at hW0 hvm.symm (hgood _ List.mem_cons_self) hk
  have hini' : (Cond.initialized cls).before args s' = true := vx_ot_at hW0 hvm.symm (hgood _ (List.mem_cons_of_mem _ List.mem_cons_self)) hini
  have hU' : vx_Zq Bundle.tN "UNASSIGNED_STACK" Bundle.steD A s' s'.heap := by rw [hhp]; exact vx_Zq.moved hW0.alike (hU.kept hS.2.1)
  have hN' : vx_Zq Bundle.tN "SUPPRESSED_SENTINEL" Bundle.listD A s' s'.heap := by rw [hhp]; exact vx_Zq.moved hW0.alike (hN.kept hS.2.1)
  have h : ∀ w ∈ Bundle.ownAtoms own ic cls names, w.before args s' = true := vx_own hat' (vx_isRefq hU'.1) (vx_isRefq hN'.1) hU'.2.word hN'.2.word
  have hown' : s'.vm.findClass own = some m.cls := by rw [hvm]; exact hown
  have hins : (Cond.instantiable cls 6).before args s' = true := h _ (by simp [Bundle.ownAtoms])
  obtain ⟨vm₁, cX, kX, hfX, hkX, -, -, X₁, st1⟩ := Y.newCold hexec (own := own) (C := cls) (index := ik) (n := 6) hown' hk' hins hini'
    (g := F0 m pc ls rest) rfl (by rw [hb]; exact d0) (Nat.le_refl _) (Nat.le_refl _)
  generalize hT1 : (T.setVm vm₁).pushCell { cls := cX, slots := kX.instanceTypes.map defaultValue, vm := .none } = T1 at X₁ st1
  have hcat : (Value.ref T.heap.size).category = 1 := rfl
  have hcellA : T1.heap[T.heap.size]? = some (freshCell cX kX) := by rw [← hT1]; exact State.heap_pushCell_size _ _
  have d3' : decode c.code (pc + 3) = .ok (.dup, 1) := by rw [hb]; exact d3
  have d4' : decode c.code (pc + 4) = .ok (.ldc is, 2) := by rw [hb]; exact d4
  have hstr' : vk_R own is text sa s' := vk_R.warm hW0 hstr
  obtain ⟨U, hsteps, hrun, hend, hW, hsame, ce, hce, hO⟩ := X₁.ctorThrowS hexec htr (own := own) (cls := cls) (names := names) (ic := ic) hown' hcls hnames h (fun x hx => nomatch hx) hfX hkX hcellA (by rw [hhp, hT]; exact Nat.le_refl _) (msg := .ref sa) rfl
    (g := { method := m, pc := pc + 6, locals := ls, stack := .ref sa :: .ref T.heap.size :: .ref T.heap.size :: rest, locked := none }) rfl hsize rfl rfl (rest := rest) rfl
    (by rw [hb]; exact d6) (by rw [hb]; exact d9) hout hRframes (by simp only [List.map_cons, List.sum_cons, hcat]; omega) hlocks
  obtain ⟨f1, f2⟩ := vx_frame hsame
  rw [hhp] at f1 f2
  have hWs : s.WarmedH U.vm := State.WarmedH.trans hW0 hW
  have hcl : s.vm.findClass cls = some ce.cls := by
    have h9 := hO.cls
    rw [hvm] at h9
    exact h9
  have hall : s.sameButNew ({ U with vm := s.vm } : State) locs mc ms := by
    subst hA
    obtain ⟨e1, e2⟩ := hsame
    rw [State.setFrames_setFrames] at e1
    have h2 : (T.setVm s.vm).sameButNew ({ U with vm := s.vm } : State) [] (0 + 1) (0 + 6) := ⟨e1, e2⟩
    have h3 := X.same.trans h2
    rw [List.append_nil] at h3
    exact h3.mono hc hs
  refine ⟨U, ?_, .threw T.heap.size, hrun, hend, Or.inr ⟨T.heap.size, rfl, cls, ce, locs, hx U hWs.alike f1 (fun q hq => f2 q hq (fun z hz => nomatch hz)), hce, hO.vm, hcl, hWs, hall, hf⟩⟩
  refine st1 _ ?_
  show Steps p.tables e below (T1.setTop { method := m, pc := pc + 3, locals := ls, stack := .ref T.heap.size :: rest, locked := none }) _
  jvm_step X₁.here [X₁.here.top, hexec, d3', Value.category]
  exact X₁.ldcString hexec (own := own) (text := text) (index := is) (a := sa) hown' hstr'.1 hstr'.2
    (g := { method := m, pc := pc + 4, locals := ls, stack := .ref T.heap.size :: .ref T.heap.size :: rest, locked := none }) rfl d4' _ hsteps
/-- 'throw new E("text")', the text by a wide index -/
theorem vx_throwSW {cc : ByteArray} {pc : Nat} (hexec : p.tables.exec = Jvm.exec) (hb : c.code = cc) (hl : l.stackTraces = false) {own cls text : String} {names : List String} {ik is ic mc ms sa : Nat} {A : Nat → Prop}
    (hown : s.vm.findClass own = some m.cls) (hcls : Bundle.fit cls = true) (hnames : ∀ n ∈ names, Bundle.fit n = true)
    (hk : (Cond.classLink own ik cls).before args s = true) (hini : (Cond.initialized cls).before args s = true) (hstr : vk_R own is text sa s) (hat : ∀ w ∈ vx_atS own ic cls names, w.before args s = true)
    (hgood : ∀ w ∈ Cond.classLink own ik cls :: Cond.initialized cls :: vx_atS own ic cls names, vx_ot w = true)
    (hU : vx_Zq Bundle.tN "UNASSIGNED_STACK" Bundle.steD A s s.heap) (hN : vx_Zq Bundle.tN "SUPPRESSED_SENTINEL" Bundle.listD A s s.heap) (hS : va_S A s.heap H locs) (hsize : ls.size = c.maxLocals)
    (d0 : decode cc pc = .ok (.new ik, 3)) (d3 : decode cc (pc + 3) = .ok (.dup, 1)) (d4 : decode cc (pc + 4) = .ok (.ldc_w is, 3)) (d7 : decode cc (pc + 7) = .ok (.invokespecial ic, 3)) (d10 : decode cc (pc + 10) = .ok (.athrow, 1))
    (hout : ∀ x ∈ c.exceptionTable.toList, covers x (pc + 10) = false)
    (hRframes : names.length + 3 < R.frames) (hRlocals : (rest.map fun v => v.category).sum + (13 * (names.length + 1) + 43) ≤ R.locals) (hRcells : cells + 1 ≤ R.cells) (hRslots : slots + 6 ≤ R.slots) (hlocks : meth.locks = false)
    (hx : ∀ t : State, s.vm.Alike t.vm → H.size ≤ t.heap.size → (∀ q : Nat, q < H.size → t.heap[q]? = H[q]?) → XC cls s t)
    (hf : ∀ z ∈ locs, free z.base) (hc : cells + 1 ≤ mc) (hs : slots + 6 ≤ ms) :
    W p l e R s m args below meth c H locs cells slots (vx_MQ below Qc XC args s mc ms free) (F0 m pc ls rest) := by
  intro T hT X
  have htr : e.platform.stackTraces = false := (show e.platform.stackTraces = l.stackTraces by rw [X.admits.platform]).trans hl
  have Y := vx_rebase X (R' := { frames := R.frames, locals := R.locals, cells := 1, slots := 6 }) (Nat.le_refl _) (Nat.le_refl _) hRcells hRslots
  obtain ⟨s', hA⟩ : ∃ z, z = (T.setVm s.vm).setFrames (.invoking m args :: below) := ⟨_, rfl⟩
  rw [← hA] at Y
  have hvm : s'.vm = s.vm := by rw [hA]; rfl
  have hhp : s'.heap = H := by rw [hA]; exact hT
  have hW0 : s.WarmedH s'.vm := by rw [hvm]; exact State.WarmedH.refl s
  have hat' : ∀ w ∈ vx_atS own ic cls names, w.before args s' = true := fun w hw => vx_ot_at hW0 hvm.symm (hgood w (List.mem_cons_of_mem _ (List.mem_cons_of_mem _ hw))) (hat w hw)
  have hk' : (Cond.classLink own ik cls).before args s' = true := vx_ot_at hW0 hvm.symm (hgood _ List.mem_cons_self) hk
  have hini' : (Cond.initialized cls).before args s' = true := vx_ot_at hW0 hvm.symm (hgood _ (List.mem_cons_of_mem _ List.mem_cons_self)) hini
  have hU' : vx_Zq Bundle.tN "UNASSIGNED_STACK" Bundle.steD A s' s'.heap := by rw [hhp]; exact vx_Zq.moved hW0.alike (hU.kept hS.2.1)
  have hN' : vx_Zq Bundle.tN "SUPPRESSED_SENTINEL" Bundle.listD A s' s'.heap := by rw [hhp]; exact vx_Zq.moved hW0.alike (hN.kept hS.2.1)
  have h : ∀ w ∈ Bundle.ownAtoms own ic cls names, w.before args s' = true := vx_own hat' (vx_isRefq hU'.1) (vx_isRefq hN'.1) hU'.2.word hN'.2.word
  have hown' : s'.vm.findClass own = some m.cls := by rw [hvm]; exact hown
  have hins : (Cond.instantiable cls 6).before args s' = true := h _ (by simp [Bundle.ownAtoms])
  obtain ⟨vm₁, cX, kX, hfX, hkX, -, -, X₁, st1⟩ := Y.newCold hexec (own := own) (C := cls) (index := ik) (n := 6) hown' hk' hins hini'
    (g := F0 m pc ls rest) rfl (by rw [hb]; exact d0) (Nat.le_refl _) (Nat.le_refl _)
  generalize hT1 : (T.setVm vm₁).pushCell { cls := cX, slots := kX.instanceTypes.map defaultValue, vm := .none } = T1 at X₁ st1
  have hcat : (Value.ref T.heap.size).category = 1 := rfl
  have hcellA : T1.heap[T.heap.size]? = some (freshCell cX kX) := by rw [← hT1]; exact State.heap_pushCell_size _ _
  have d3' : decode c.code (pc + 3) = .ok (.dup, 1) := by rw [hb]; exact d3
  have d4' : decode c.code (pc + 4) = .ok (.ldc_w is, 3) := by rw [hb]; exact d4
  have hstr' : vk_R own is text sa s' := vk_R.warm hW0 hstr
  obtain ⟨U, hsteps, hrun, hend, hW, hsame, ce, hce, hO⟩ := X₁.ctorThrowS hexec htr (own := own) (cls := cls) (names := names) (ic := ic) hown' hcls hnames h (fun x hx => nomatch hx) hfX hkX hcellA (by rw [hhp, hT]; exact Nat.le_refl _) (msg := .ref sa) rfl
    (g := { method := m, pc := pc + 7, locals := ls, stack := .ref sa :: .ref T.heap.size :: .ref T.heap.size :: rest, locked := none }) rfl hsize rfl rfl (rest := rest) rfl
    (by rw [hb]; exact d7) (by rw [hb]; exact d10) hout hRframes (by simp only [List.map_cons, List.sum_cons, hcat]; omega) hlocks
  obtain ⟨f1, f2⟩ := vx_frame hsame
  rw [hhp] at f1 f2
  have hWs : s.WarmedH U.vm := State.WarmedH.trans hW0 hW
  have hcl : s.vm.findClass cls = some ce.cls := by
    have h9 := hO.cls
    rw [hvm] at h9
    exact h9
  have hall : s.sameButNew ({ U with vm := s.vm } : State) locs mc ms := by
    subst hA
    obtain ⟨e1, e2⟩ := hsame
    rw [State.setFrames_setFrames] at e1
    have h2 : (T.setVm s.vm).sameButNew ({ U with vm := s.vm } : State) [] (0 + 1) (0 + 6) := ⟨e1, e2⟩
    have h3 := X.same.trans h2
    rw [List.append_nil] at h3
    exact h3.mono hc hs
  refine ⟨U, ?_, .threw T.heap.size, hrun, hend, Or.inr ⟨T.heap.size, rfl, cls, ce, locs, hx U hWs.alike f1 (fun q hq => f2 q hq (fun z hz => nomatch hz)), hce, hO.vm, hcl, hWs, hall, hf⟩⟩
  refine st1 _ ?_
  show Steps p.tables e below (T1.setTop { method := m, pc := pc + 3, locals := ls, stack := .ref T.heap.size :: rest, locked := none }) _
  jvm_step X₁.here [X₁.here.top, hexec, d3', Value.category]
  exact X₁.ldcStringW hexec (own := own) (text := text) (index := is) (a := sa) hown' hstr'.1 hstr'.2
    (g := { method := m, pc := pc + 4, locals := ls, stack := .ref T.heap.size :: .ref T.heap.size :: rest, locked := none }) rfl d4' _ hsteps
end Ends
section Bodies
variable {l : Launch}
theorem vx_ofW {y : MethodName} {ws ws' : List Cond} {rm : Room} {Pc : Array Value → State → Prop} {Qc : Array Value → State → Outcome → State → Prop} {XC : String → State → State → Prop} {mc ms : Nat} {free : Addr → Prop} {cc : ByteArray} {maxL : Nat} {ret : Option FieldType}
    (hy : plainName y.cls = true) (hw : ws = Cond.code y cc maxL ret :: ws')
    (body : ∀ p e s m args below meth c s₁, BodyLoose p l y (headSpec ws rm) cc maxL ret e s m args below meth c s₁ → c.maxLocals = maxL → (∀ x ∈ c.exceptionTable.toList, False) → Pc args s →
      W p l e (headSpec ws rm).room s m args below meth c s.heap [] 0 0 (vx_MQ below Qc XC args s mc ms free) (entryFrame m args maxL)) : vx_Met l y ws rm Pc Qc XC mc ms free := by
  refine MetFree.of_bodyS (code := cc) (maxLocals := maxL) (ret := ret) hy ?_ ?_
  · intro args s m h hn
    obtain ⟨meth, c, h1, h2, h3, h4, h5, h6, -, -⟩ := Cond.code_spec hn (atoms_spec (ws := ws) h _ (by rw [hw]; exact List.mem_cons_self))
    exact ⟨meth, c, h1, h2, h3, h4, h5, h6⟩
  · intro p e s m args below meth c s₁ B hml hP _
    have hh0 : s₁.heap = s.heap := by rw [B.state]; rfl
    have ht : ∀ x ∈ c.exceptionTable.toList, False := by
      obtain ⟨meth9, c9, h1, h2, -, -, -, -, h7, -⟩ := Cond.code_spec B.named (atoms_spec (ws := ws) B.pre _ (by rw [hw]; exact List.mem_cons_self))
      cases Option.some.inj (h1.symm.trans B.method)
      cases Option.some.inj (h2.symm.trans (Stand.of_body B).code)
      intro x hx
      rw [Array.isEmpty_iff.mp h7] at hx
      cases hx
    obtain ⟨t, a1, o, b1, b2, b3⟩ := body p e s m args below meth c s₁ B hml ht hP s₁ hh0 (Stand.of_body B)
    exact ⟨t, o, a1, b1, b2, b3⟩
/-- the table of a body with handlers -/
theorem vx_table {p : Program} {x y : MethodName} {S : Spec} {cc bytes : ByteArray} {maxL maxL' : Nat} {ret ret' : Option FieldType} {e : Env} {s s₁ : State} {m : MethodId} {args : Array Value} {below : List Frame} {meth : Method} {c : Code} {hh : List (Nat × Nat × Nat × Nat)}
    (B : BodyLoose p l y S cc maxL ret e s m args below meth c s₁) (h : (Cond.codeWith y bytes maxL' ret' hh).before args s = true) : c.exceptionTable.toList = tableOf hh := by
  obtain ⟨m9, meth9, c9, hn9, h1, h2, -, -, h6, -⟩ := Cond.codeWith_spec h
  cases Option.some.inj (hn9.symm.trans B.named)
  cases Option.some.inj (h1.symm.trans B.method)
  cases Option.some.inj (h2.symm.trans (Stand.of_body B).code)
  rw [← h6, table_eq]
end Bodies
end VXA
/-! ===== END ===== -/
/-! ===== BEGIN a static call of a method with an exception table ===== -/
section VXS
variable {p : Program} {l : Launch} {e : Env} {R : Room} {s : State} {m : MethodId} {args : Array Value} {below : List Frame} {meth : Method} {c : Code} {T : State} {H : Heap} {locs : List Loc} {cells slots : Nat}
abbrev vx_CSW (R : Room) (s : State) (args : Array Value) (own : String) (index : Nat) (y : MethodName) (bytes : ByteArray) (maxL : Nat) (ret : Option FieldType) (hh : List (Nat × Nat × Nat × Nat)) (ws : List Cond) (rm : Room) (mc ms n : Nat) : Prop :=
  (rm.cells = mc ∧ rm.slots = ms ∧ rm.frames + 1 ≤ R.frames ∧ 8 + (maxL + 11) + rm.locals ≤ R.locals ∧ (∀ w ∈ ws, ∀ (a' : Array Value) (U : State), s.WarmedH U.vm → w.before a' U = true) ∧ Cond.codeWith y bytes maxL ret hh ∈ ws) ∧
  (Cond.codeWith y bytes maxL ret hh).before args s = true ∧ (Cond.initialized y.cls).before args s = true ∧ (y.cls ≠ "java/lang/invoke/MethodHandle" ∧ y.cls ≠ "java/lang/invoke/VarHandle") ∧
  (∀ sig, parseMethodDescriptor y.desc = some sig → n = sig.parameters.length) ∧ (Cond.methodLink own index y).before args s = true ∧ (Cond.static y).before args s = true
theorem vx_cwSW {own : String} {index maxL mc ms : Nat} {y : MethodName} {bytes : ByteArray} {ret : Option FieldType} {hh : List (Nat × Nat × Nat × Nat)} {Ts ws ws' : List Cond} {rm : Room} (n : Nat) (ht : ∀ w ∈ Ts, w.before args s = true) (hT : GoodIn Ts (va_wsS own index y ws)) (hw : ws = Cond.codeWith y bytes maxL ret hh :: ws') (hrc : rm.cells = mc) (hrs : rm.slots = ms)
    (hd : y.cls ≠ "java/lang/invoke/MethodHandle" ∧ y.cls ≠ "java/lang/invoke/VarHandle" ∧ (parseMethodDescriptor y.desc).map (fun d => d.parameters.length) = some n) (hR : rm.frames + 1 ≤ R.frames ∧ 8 + (maxL + 11) + rm.locals ≤ R.locals) :
    vx_CSW R s args own index y bytes maxL ret hh ws rm mc ms n := by
  have ok : ∀ w ∈ va_wsS own index y ws, w.before args s = true := fun w h => ht w (hT w h).1
  have hG : GoodIn Ts ws := fun w h => hT w (by unfold va_wsS; exact List.mem_append_right _ h)
  have hc : Cond.codeWith y bytes maxL ret hh ∈ ws := by rw [hw]; exact List.mem_cons_self
  refine ⟨⟨hrc, hrs, hR.1, hR.2, pay_in ht hG, hc⟩, ht _ (hG _ hc).1, ok _ (by simp [va_wsS]), ⟨hd.1, hd.2.1⟩, fun sig h => ?_, ok _ (by simp [va_wsS]), ok _ (by simp [va_wsS])⟩
  have h2 := hd.2.2
  rw [h] at h2
  exact (Option.some.inj h2).symm
theorem vx_callSW (X : Stand p l e R s m args below meth c T locs cells slots) (hexec : p.tables.exec = Jvm.exec) {own : String} {index : Nat} {y : MethodName} {bytes : ByteArray} {maxL : Nat} {ret : Option FieldType} {hh : List (Nat × Nat × Nat × Nat)}
    (hown : s.vm.findClass own = some m.cls) (hlink : (Cond.methodLink own index y).before args s = true) (hstat : (Cond.static y).before args s = true) (hinit : (Cond.initialized y.cls).before args s = true)
    (hcode : (Cond.codeWith y bytes maxL ret hh).before args s = true) (hy : y.cls ≠ "java/lang/invoke/MethodHandle" ∧ y.cls ≠ "java/lang/invoke/VarHandle")
    {W9 : Nat} {Pre : Pt → Array Value → Prop} {Post : Pt → Array Value → Option Value → Pt → Prop} (hK : Back l R p e below s args y 3 W9 Pre Post)
    {g : JFrame} (hg : g.method = m) (hsize : g.locals.size = c.maxLocals) {argsL rest : List Value} (hlen : ∀ sig, parseMethodDescriptor y.desc = some sig → argsL.length = sig.parameters.length)
    (hstack : g.stack = argsL.reverse ++ rest) (hW : 2 * g.monitorRoom + (rest.map fun v => v.category).sum ≤ W9) (hdg : decode c.code g.pc = .ok (.invokestatic index, 3))
    (hpre : ∀ vm₁, s.WarmedH vm₁ → Pre ⟨T.setVm vm₁, locs, cells, slots⟩ argsL.toArray) :
    ∃ (v : Option Value) (vm₁ : Vm) (B : Pt), s.WarmedH vm₁ ∧ Stand p l e R s m args below meth c B.U B.locs B.cells B.slots ∧ Post ⟨T.setVm vm₁, locs, cells, slots⟩ argsL.toArray v B ∧
      ∀ target, Steps p.tables e below (B.U.setTop { g with pc := g.pc + 3, stack := v.toList ++ rest }) target → Steps p.tables e below (T.setTop g) target := by
  obtain ⟨mk, methM, cM, hnamed, hmethM, -, -, -, -, -, -, hsigM⟩ := Cond.codeWith_spec hcode
  have hstatic : methM.isStatic = true := Cond.static_spec hnamed hmethM hstat
  obtain ⟨kP, hkP, -⟩ := className_of_methodNamed hnamed
  have hinitP : kP.init = .initialized := Cond.initialized_spec (findClass_of_methodNamed hnamed) hkP hinit
  obtain ⟨vm₁, X₁, hstep₁⟩ := X.invokestatic hexec hown hlink hnamed hmethM hstatic hkP hinitP hy (g := g) hg (argsL := argsL) (rest := rest) (hlen _ hsigM) hstack hdg
  obtain ⟨v, B, X', hpost, hsteps⟩ := hK m meth c ⟨T.setVm vm₁, locs, cells, slots⟩ { g with stack := rest } (.invokestatic index) mk argsL.toArray X₁ hg hsize hdg hW (X₁.named hnamed) (hpre vm₁ X₁.warmed)
  exact ⟨v, vm₁, B, X₁.warmed, X', hpost, fun target h => hstep₁ _ fun acts => by rw [doInvoke_state]; exact hsteps.trans h⟩
theorem vx_runSW {y : MethodName} {bytes cc : ByteArray} {maxL nL mc ms n index : Nat} {ret : Option FieldType} {hh : List (Nat × Nat × Nat × Nat)} {ws : List Cond} {rm : Room} {Pc : Array Value → State → Prop} {Qc : Array Value → State → Outcome → State → Prop} {free : Addr → Prop} {Ts : List Cond} {own : String} {As rest : List Value} {g : JFrame}
    (S : CallFix p m c cc nL s args Ts own) (hM : Met l y ws rm Pc Qc mc ms free) (cw : vx_CSW R s args own index y bytes maxL ret hh ws rm mc ms n) (hp : PreS s H Pc As)
    (hg : g.method = m) (hn : As.length = n) (hsize : g.locals.size = nL) (hstack : g.stack = As.reverse ++ rest) (hW : 2 * g.monitorRoom + (rest.map fun v => v.category).sum ≤ 8) (hdg : decode cc g.pc = .ok (.invokestatic index, 3)) (hf : cells + mc ≤ R.cells ∧ slots + ms ≤ R.slots) :
    va_Run p l e R s m args below meth c H locs cells slots mc ms g rest (Qc As.toArray) (free) := by
  obtain ⟨⟨hrc, hrs, hfr, hlo, hws, hcw⟩, hcode, hini, hy, hlen, hl, hstt⟩ := cw
  have hK : Back l R p e below s args y 3 8 (PreOf R mc ms Pc) (PostOf Qc mc ms free) := va_backW (hh := hh) (bytes := bytes) (maxL := maxL) (ret := ret) hM hp.1 hrc hrs hfr hlo hws hcw (fun a' U hW => word_at hW (Or.inl (by first | rfl | simp [Cond.onTables, Cond.keeps, Cond.steady])) hini)
  obtain ⟨hx, hb, hml, ho, -⟩ := S
  intro T hT X
  obtain ⟨v, vm₁, ⟨U', l2, c2, s2⟩, hW₁, X', ⟨g', mk, t, L, e1, e2, hq, h1, hL, h2, h3⟩, st⟩ := vx_callSW X hx (hh := hh) (bytes := bytes) (maxL := maxL) (ret := ret) ho hl hstt hini hcode hy hK hg (hsize.trans hml.symm) (argsL := As) (rest := rest) (fun sig h => hn.trans (hlen sig h)) hstack hW (by rw [hb]; exact hdg)
    (fun vm₁ hW₁ => ⟨hf.1, hf.2, hp.2 (T.setVm vm₁) hT hW₁⟩)
  dsimp only [Pt.U, Pt.locs, Pt.cells, Pt.slots] at X' e1 e2 h1 h2 h3 st
  subst h1; subst h2; subst h3
  exact ⟨v, (T.setVm vm₁).calling g' mk As.toArray, t, U', L, hT, X', hL, e1, e2, hq, st⟩
/-- not caught here, past rows that name other classes: it goes on to the caller -/
theorem vx_outP {p : Program} {l : Launch} {e : Env} {R : Room} {s : State} {m : MethodId} {args : Array Value} {below : List Frame} {meth : Method} {c : Code} {H : Heap} {locs : List Loc} {cells slots : Nat} {free : Addr → Prop} {ls : Array Slot} {rest : List Value} {Qc : Array Value → State → Outcome → State → Prop} {XC : String → State → State → Prop}
    {pc : Nat} {own E : String} {ce : Cell} {q : Addr} {mc ms : Nat} (hown : s.vm.findClass own = some m.cls) (hlocks : meth.locks = false)
    (hpass : ∀ z ∈ c.exceptionTable.toList, covers z pc = false ∨ (z.catchType ≠ 0 ∧ ∃ nm : String, (Cond.classLink own z.catchType nm).before args s = true ∧ va_Nc E nm s)) (hcell : H[q]? = some ce) (hv : ce.vm = .none) (hcl : s.vm.findClass E = some ce.cls)
    (hx : ∀ t : State, t.heap = H → s.vm.Alike t.vm → XC E s t) (hf : ∀ z ∈ locs, free z.base) (hc : cells ≤ mc) (hs : slots ≤ ms) :
    vx_W p l e R s m args below meth c H locs cells slots (vx_MQ below Qc XC args s mc ms free) (F0 m pc ls rest) q := by
  intro T hT X
  have hpl : e.platform.magicAccessors = ({} : Platform).magicAccessors := by rw [X.admits.platform]
  obtain ⟨vm', hW', X', st⟩ := X.outThrough hlocks q (g := F0 m pc ls rest) rfl rfl rfl (cell := ce) (by rw [hT]; exact hcell) (by rw [hv]; rfl)
    (by obtain ⟨k9, h9, -⟩ := Vm.findClass_spec hcl; exact ⟨k9, h9⟩) (fun z hz => by
      rcases hpass z hz with h | ⟨hz0, nm, hl1, hn1⟩
      · exact Or.inl h
      · obtain ⟨c6, hc6, hcl6⟩ := Cond.classLink_spec hown hl1 e.platform hpl
        obtain ⟨a8, b8, h1, h2, h3⟩ := hn1
        cases Option.some.inj (h1.symm.trans hcl)
        cases Option.some.inj (h2.symm.trans hc6)
        exact Or.inr ⟨hz0, _, hcl6, h3⟩)
  obtain ⟨g₀, hfr⟩ := X'.frames_eq
  have hcell9 : ((T.setVm vm').setFrames (.throwing q :: below)).heap[q]? = some ce := by
    show T.heap[q]? = some ce
    rw [hT]; exact hcell
  have hend : Ended ((T.setVm vm').setFrames (.throwing q :: below)) below (.threw q) := State.frames_setFrames _ (State.cur_lt_of_frames hfr)
  refine ⟨(T.setVm vm').setFrames (.throwing q :: below), ?_, .threw q, X'.here.running, hend, Or.inr ⟨q, rfl, E, ce, locs, hx _ hT (X'.ends _).1.alike, hcell9, hv, hcl, (X'.ends _).1, (X'.ends _).2.mono hc hs, hf⟩⟩
  rw [X.pushThrowing_eq]
  exact st
/-- a thing of a world lies in the heap -/
theorem vx_lt {D : va_G} {cl : List vw_C} {ws : va_W} {H1 : Heap} (h : va_P D cl ws H1) {k : Nat} {q : Nat × va_E} (hk : ws[k]? = some q) : q.1 < H1.size := (h k q hk).lt
end VXS
/-! ===== END ===== -/
/-! ===== BEGIN methods with a table of their own: called by a name, returning or throwing ===== -/
section VXH
/-! vx_backW, vx_callVX, vx_callSX, vx_callVW, vx_runVW, vx_runVX, vx_runSX, vx_ofWH follow the same proofs as their sisters above (Free/Laws.lean, Shelf42/LK1.lean); vx_outP calls Shelf42/NT130.lean (outThrough). -/
section
variable {l : Launch} {R : Room} {p : Program} {e : Env} {below : List Frame} {s : State} {sargs : Array Value} {y : MethodName} {len W9 : Nat}
theorem vx_backW {ws : List Cond} {rm : Room} {Pc : Array Value → State → Prop} {Qc : Array Value → State → Outcome → State → Prop} {XC : String → State → State → Prop} {mc ms : Nat} {free : Addr → Prop} {bytes : ByteArray} {maxL : Nat} {ret : Option FieldType} {hh : List (Nat × Nat × Nat × Nat)}
    (hM : vx_Met l y ws rm Pc Qc XC mc ms free) (hblind : FrameBlind Pc) (hrc : rm.cells = mc) (hrs : rm.slots = ms)
    (hframes : rm.frames + 1 ≤ R.frames) (hlocals : W9 + (maxL + 11) + rm.locals ≤ R.locals)
    (hws : ∀ w ∈ ws, ∀ a' U, s.WarmedH U.vm → w.before a' U = true) (hcode : Cond.codeWith y bytes maxL ret hh ∈ ws) (hinit : ∀ a' U, s.WarmedH U.vm → (Cond.initialized y.cls).before a' U = true) :
    vx_Back l R p e below s sargs y len W9 (PreOf R mc ms Pc) (PostOf Qc mc ms free) (vx_Post XC mc ms free) := by
  intro m meth c A g ig mk a X hg hsize hdg hW hn hp
  have h1 : (headSpec ws rm).pre.before a A.U = true := atoms_intro fun w hw => hws w hw _ _ X.warmed
  have h2 : (Cond.codeWith y bytes maxL ret hh).before a A.U = true := hws _ hcode _ _ X.warmed
  have h3 : (Cond.initialized y.cls).before a A.U = true := hinit _ _ X.warmed
  have h4 : A.cells + (headSpec ws rm).room.cells ≤ R.cells := by rw [show (headSpec ws rm).room.cells = mc from hrc]; exact hp.1
  have h5 : A.slots + (headSpec ws rm).room.slots ≤ R.slots := by rw [show (headSpec ws rm).room.slots = ms from hrs]; exact hp.2.1
  have hPc : Pc a (A.U.calling g mk a) := hblind _ _ _ _ hp.2.2
  obtain ⟨U, Ls, c0, s0⟩ := A
  dsimp only [Pt.U, Pt.locs, Pt.cells, Pt.slots] at h1 h2 h3 h4 h5 X hn hPc ⊢
  obtain ⟨m9, methY, cY, hn9, hmY, hcY, -, hlY, -⟩ := Cond.codeWith_spec h2
  cases Option.some.inj (hn9.symm.trans hn)
  obtain ⟨kY, hkY, -⟩ := className_of_methodNamed hn
  have hinitY : kY.init = .initialized := Cond.initialized_spec (findClass_of_methodNamed hn) hkY h3
  have h : At U g.method c below := by rw [hg]; exact X.here
  have hlocals9 : W9 + (maxL + 11) + (headSpec ws rm).room.locals ≤ R.locals := hlocals
  have happ : (headSpec ws rm).appliesLoose y e.platform (U.calling g mk a) = true :=
    Spec.appliesLoose_calling (g := g) h hdg hn hkY hinitY
      (X.room_calling (g := g) (R' := (headSpec ws rm).room) hsize hmY hcY hframes (by rw [hlY]; omega) h4 h5) h1
  obtain ⟨mid, hmid⟩ := h.above
  have hfr : (U.setTop g).frames = (.java g :: mid) ++ below := by rw [State.frames_setTop' g h.top, hmid]; rfl
  obtain ⟨o, s₂, hsteps, -, hend, hq⟩ := Steps.callFree hM p X.admits X.cas X.clock (acts := []) hfr happ hPc trivial
  have hq' : vx_Q Qc XC mc ms free a (U.calling g mk a) o s₂ := hq
  rw [State.frames_setTop' g h.top] at hend
  obtain ⟨g₀, hg0⟩ := Option.isSome_iff_exists.mp h.top
  obtain ⟨r, hr⟩ := State.topJava?_eq_some.mp hg0
  have hr' : (({ U with heap := s₂.heap, slotsUsed := s₂.slotsUsed } : State).setVm s₂.vm).frames = .java g₀ :: r := hr
  rcases hq' with ⟨hqc, L, hfe, hL⟩ | ⟨q, rfl, E, ce, L, hx, hce, hcv, hcl, hW₂, hsm, hL⟩
  · obtain ⟨⟨v, rfl⟩, hW₂, e2, q2, q3, q4, q5, q6⟩ := id hfe
    have e3 : s₂ = ({ (U.calling g mk a).setFrames s₂.frames with heap := s₂.heap, slotsUsed := s₂.slotsUsed } : State).setVm s₂.vm := by
      have : s₂ = ({ s₂ with vm := (U.calling g mk a).vm } : State).setVm s₂.vm := rfl
      rw [e2] at this
      exact this
    obtain ⟨c₂, i₂, len₂, hc₂, hd₂, hf₂⟩ := hend
    have hW' : U.WarmedH s₂.vm := hW₂
    have hcc : c₂ = c := by
      have h1 : s₂.code? g.method = U.code? g.method := by
        rw [State.code?_eq, State.code?_eq, hW'.alike.method?]
      exact Option.some.inj (hc₂.symm.trans (h1.trans h.code))
    subst hcc
    have hlen : len₂ = len := by rw [hdg] at hd₂; cases hd₂; rfl
    subst hlen
    have hs₂ : s₂ = (({ U with heap := s₂.heap, slotsUsed := s₂.slotsUsed } : State).setVm s₂.vm).setTop { g with pc := g.pc + len₂, stack := v.toList ++ g.stack } := by
      refine e3.trans ?_
      rw [hf₂, State.calling_eq h.top, State.setFrames_setFrames, State.setTop_of_frames _ hr', hr]
      rfl
    have hsame : U.sameButNew ({ U with heap := s₂.heap, slotsUsed := s₂.slotsUsed } : State) L mc ms := by
      refine ⟨?_, q2, q3, q4, q5, q6⟩
      obtain ⟨t, ht, -⟩ := State.frames_cons hr
      show ({ U with heap := s₂.heap, slotsUsed := s₂.slotsUsed } : State) = { U.setFrames U.frames with heap := s₂.heap, slotsUsed := s₂.slotsUsed }
      rw [State.setFrames_self ht]
    subst hg
    refine Or.inl ⟨v, ⟨(({ U with heap := s₂.heap, slotsUsed := s₂.slotsUsed } : State).setVm s₂.vm), Ls ++ L, c0 + mc, s0 + ms⟩,
      ⟨X.admits, X.cas, X.clock, X.frames, X.room, X.hears, X.method, X.code, (X.here.setHeapUsed s₂.heap s₂.slotsUsed).setVm hW'.alike, X.tail, State.WarmedH.trans X.warmed hW', X.limits, X.bytes, X.same.trans (hsame.setVm s.vm)⟩,
      ⟨g, mk, s₂, L, rfl, rfl, hqc, rfl, hL, rfl, rfl⟩, ?_⟩
    show Steps p.tables e below _ ((({ U with heap := s₂.heap, slotsUsed := s₂.slotsUsed } : State).setVm s₂.vm).setTop { g with pc := g.pc + len₂, stack := v.toList ++ g.stack })
    rw [← hs₂]
    exact hsteps
  · obtain ⟨e2, q2, q3, q4, q5, q6⟩ := id hsm
    have e3 : s₂ = ({ (U.calling g mk a).setFrames s₂.frames with heap := s₂.heap, slotsUsed := s₂.slotsUsed } : State).setVm s₂.vm := by
      have : s₂ = ({ s₂ with vm := (U.calling g mk a).vm } : State).setVm s₂.vm := rfl
      rw [e2] at this
      exact this
    have hf₂ : s₂.frames = .throwing q :: .java g :: U.frames.tail := hend
    have hW' : U.WarmedH s₂.vm := hW₂
    have hs₂ : s₂ = ((({ U with heap := s₂.heap, slotsUsed := s₂.slotsUsed } : State).setVm s₂.vm).setTop g).pushFrame (.throwing q) := by
      refine e3.trans ?_
      rw [hf₂, State.calling_eq h.top, State.setFrames_setFrames, State.pushFrame, State.frames_setTop _ hr', State.setTop_of_frames _ hr', State.setFrames_setFrames, hr]
      rfl
    have hsame : U.sameButNew ({ U with heap := s₂.heap, slotsUsed := s₂.slotsUsed } : State) L mc ms := by
      refine ⟨?_, q2, q3, q4, q5, q6⟩
      obtain ⟨t, ht, -⟩ := State.frames_cons hr
      show ({ U with heap := s₂.heap, slotsUsed := s₂.slotsUsed } : State) = { U.setFrames U.frames with heap := s₂.heap, slotsUsed := s₂.slotsUsed }
      rw [State.setFrames_self ht]
    subst hg
    refine Or.inr ⟨q, ⟨(({ U with heap := s₂.heap, slotsUsed := s₂.slotsUsed } : State).setVm s₂.vm), Ls ++ L, c0 + mc, s0 + ms⟩,
      ⟨X.admits, X.cas, X.clock, X.frames, X.room, X.hears, X.method, X.code, (X.here.setHeapUsed s₂.heap s₂.slotsUsed).setVm hW'.alike, X.tail, State.WarmedH.trans X.warmed hW', X.limits, X.bytes, X.same.trans (hsame.setVm s.vm)⟩,
      ⟨g, mk, s₂, L, E, ce, rfl, rfl, hx, hce, hcv, hcl, rfl, hL, rfl, rfl⟩, ?_⟩
    show Steps p.tables e below _ (((({ U with heap := s₂.heap, slotsUsed := s₂.slotsUsed } : State).setVm s₂.vm).setTop g).pushFrame (.throwing q))
    rw [← hs₂]
    exact hsteps
end
variable {p : Program} {l : Launch} {e : Env} {R : Room} {s : State} {m : MethodId} {args : Array Value} {below : List Frame} {meth : Method} {c : Code} {T : State} {H : Heap} {locs : List Loc} {cells slots : Nat}
theorem vx_callVX (X : Stand p l e R s m args below meth c T locs cells slots) (hexec : p.tables.exec = Jvm.exec) {own C : String} {index : Nat} {y : MethodName} {bytes : ByteArray} {maxL : Nat} {ret : Option FieldType} {hh : List (Nat × Nat × Nat × Nat)}
    (hown : s.vm.findClass own = some m.cls) (hlink : (Cond.methodLink own index y).before args s = true) (hinst : (Cond.instanceMethod y).before args s = true) (hsel : (Cond.selects C y y).before args s = true)
    (hcode : (Cond.codeWith y bytes maxL ret hh).before args s = true) (hy : y.cls ≠ "java/lang/invoke/MethodHandle" ∧ y.cls ≠ "java/lang/invoke/VarHandle")
    {W9 : Nat} {Pre : Pt → Array Value → Prop} {Post : Pt → Array Value → Option Value → Pt → Prop} {PostX : Pt → Array Value → Addr → Pt → Prop} (hK : vx_Back l R p e below s args y 3 W9 Pre Post PostX)
    {b : Addr} {cellB : Cell} (hcell : T.heap[b]? = some cellB) (hobj : cellB.vm.isStatics = false) (hcls : s.vm.findClass C = some cellB.cls)
    {g : JFrame} (hg : g.method = m) (hsize : g.locals.size = c.maxLocals) {argsL rest : List Value} (hlen : ∀ sig, parseMethodDescriptor y.desc = some sig → argsL.length = sig.parameters.length)
    (hstack : g.stack = argsL.reverse ++ .ref b :: rest) (hW : 2 * g.monitorRoom + (rest.map fun v => v.category).sum ≤ W9) (hdg : decode c.code g.pc = .ok (.invokevirtual index, 3))
    (hpre : ∀ vm₁, s.WarmedH vm₁ → Pre ⟨T.setVm vm₁, locs, cells, slots⟩ (Value.ref b :: argsL).toArray) :
    (∃ (v : Option Value) (vm₁ : Vm) (B : Pt), s.WarmedH vm₁ ∧ Stand p l e R s m args below meth c B.U B.locs B.cells B.slots ∧ Post ⟨T.setVm vm₁, locs, cells, slots⟩ (Value.ref b :: argsL).toArray v B ∧
      ∀ target, Steps p.tables e below (B.U.setTop { g with pc := g.pc + 3, stack := v.toList ++ rest }) target → Steps p.tables e below (T.setTop g) target) ∨
    (∃ (q : Addr) (vm₁ : Vm) (B : Pt), s.WarmedH vm₁ ∧ Stand p l e R s m args below meth c B.U B.locs B.cells B.slots ∧ PostX ⟨T.setVm vm₁, locs, cells, slots⟩ (Value.ref b :: argsL).toArray q B ∧
      Steps p.tables e below (T.setTop g) ((B.U.setTop { g with stack := rest }).pushFrame (.throwing q))) := by
  obtain ⟨mk, methM, hnamed, hmethM, hstM, habM⟩ := Cond.instanceMethod_spec hinst
  obtain ⟨m8, methM', cM, hn8, hmethM', -, -, -, -, -, -, hsigM⟩ := Cond.codeWith_spec hcode
  cases Option.some.inj (hn8.symm.trans hnamed)
  cases hmethM.symm.trans hmethM'
  obtain ⟨c2, r2, m2, q1, q2, q3, q4, kP, hkP, hkPi⟩ := Cond.selects_spec hsel
  cases hcls.symm.trans q1
  cases (State.methodFound?_of_named hnamed hy).symm.trans q2
  cases hnamed.symm.trans q3
  have hselP : selectMethod e.platform s.vm cellB.cls mk = .method mk := by rw [Launch.admits_selectMethod X.admits]; exact q4
  obtain ⟨vm₁, X₁, hstep₁⟩ := X.invokevirtual hexec hown hlink hnamed hmethM hstM hkP hkPi hy (a := b) (cell := cellB) hcell
    (fun z h => by rw [h] at hobj; cases hobj) hselP hmethM habM hkP hkPi (g := g) hg (argsL := argsL) (rest := rest) (hlen _ hsigM) hstack hdg
  rcases hK m meth c ⟨T.setVm vm₁, locs, cells, slots⟩ { g with stack := rest } (.invokevirtual index) mk (Value.ref b :: argsL).toArray X₁ hg hsize hdg hW (X₁.named hnamed) (hpre vm₁ X₁.warmed) with ⟨v, B, X', hpost, hsteps⟩ | ⟨q, B, X', hpost, hsteps⟩
  · exact Or.inl ⟨v, vm₁, B, X₁.warmed, X', hpost, fun target h => hstep₁ _ fun acts => by rw [doInvoke_state]; exact hsteps.trans h⟩
  · exact Or.inr ⟨q, vm₁, B, X₁.warmed, X', hpost, hstep₁ _ fun acts => by rw [doInvoke_state]; exact hsteps⟩
theorem vx_callSX (X : Stand p l e R s m args below meth c T locs cells slots) (hexec : p.tables.exec = Jvm.exec) {own : String} {index : Nat} {y : MethodName} {bytes : ByteArray} {maxL : Nat} {ret : Option FieldType} {hh : List (Nat × Nat × Nat × Nat)}
    (hown : s.vm.findClass own = some m.cls) (hlink : (Cond.methodLink own index y).before args s = true) (hstat : (Cond.static y).before args s = true) (hinit : (Cond.initialized y.cls).before args s = true)
    (hcode : (Cond.codeWith y bytes maxL ret hh).before args s = true) (hy : y.cls ≠ "java/lang/invoke/MethodHandle" ∧ y.cls ≠ "java/lang/invoke/VarHandle")
    {W9 : Nat} {Pre : Pt → Array Value → Prop} {Post : Pt → Array Value → Option Value → Pt → Prop} {PostX : Pt → Array Value → Addr → Pt → Prop} (hK : vx_Back l R p e below s args y 3 W9 Pre Post PostX)
    {g : JFrame} (hg : g.method = m) (hsize : g.locals.size = c.maxLocals) {argsL rest : List Value} (hlen : ∀ sig, parseMethodDescriptor y.desc = some sig → argsL.length = sig.parameters.length)
    (hstack : g.stack = argsL.reverse ++ rest) (hW : 2 * g.monitorRoom + (rest.map fun v => v.category).sum ≤ W9) (hdg : decode c.code g.pc = .ok (.invokestatic index, 3))
    (hpre : ∀ vm₁, s.WarmedH vm₁ → Pre ⟨T.setVm vm₁, locs, cells, slots⟩ argsL.toArray) :
    (∃ (v : Option Value) (vm₁ : Vm) (B : Pt), s.WarmedH vm₁ ∧ Stand p l e R s m args below meth c B.U B.locs B.cells B.slots ∧ Post ⟨T.setVm vm₁, locs, cells, slots⟩ argsL.toArray v B ∧
      ∀ target, Steps p.tables e below (B.U.setTop { g with pc := g.pc + 3, stack := v.toList ++ rest }) target → Steps p.tables e below (T.setTop g) target) ∨
    (∃ (q : Addr) (vm₁ : Vm) (B : Pt), s.WarmedH vm₁ ∧ Stand p l e R s m args below meth c B.U B.locs B.cells B.slots ∧ PostX ⟨T.setVm vm₁, locs, cells, slots⟩ argsL.toArray q B ∧
      Steps p.tables e below (T.setTop g) ((B.U.setTop { g with stack := rest }).pushFrame (.throwing q))) := by
  obtain ⟨mk, methM, cM, hnamed, hmethM, -, -, -, -, -, -, hsigM⟩ := Cond.codeWith_spec hcode
  have hstatic : methM.isStatic = true := Cond.static_spec hnamed hmethM hstat
  obtain ⟨kP, hkP, -⟩ := className_of_methodNamed hnamed
  have hinitP : kP.init = .initialized := Cond.initialized_spec (findClass_of_methodNamed hnamed) hkP hinit
  obtain ⟨vm₁, X₁, hstep₁⟩ := X.invokestatic hexec hown hlink hnamed hmethM hstatic hkP hinitP hy (g := g) hg (argsL := argsL) (rest := rest) (hlen _ hsigM) hstack hdg
  rcases hK m meth c ⟨T.setVm vm₁, locs, cells, slots⟩ { g with stack := rest } (.invokestatic index) mk argsL.toArray X₁ hg hsize hdg hW (X₁.named hnamed) (hpre vm₁ X₁.warmed) with ⟨v, B, X', hpost, hsteps⟩ | ⟨q, B, X', hpost, hsteps⟩
  · exact Or.inl ⟨v, vm₁, B, X₁.warmed, X', hpost, fun target h => hstep₁ _ fun acts => by rw [doInvoke_state]; exact hsteps.trans h⟩
  · exact Or.inr ⟨q, vm₁, B, X₁.warmed, X', hpost, hstep₁ _ fun acts => by rw [doInvoke_state]; exact hsteps⟩
theorem vx_callVW (X : Stand p l e R s m args below meth c T locs cells slots) (hexec : p.tables.exec = Jvm.exec) {own C : String} {index : Nat} {y : MethodName} {bytes : ByteArray} {maxL : Nat} {ret : Option FieldType} {hh : List (Nat × Nat × Nat × Nat)}
    (hown : s.vm.findClass own = some m.cls) (hlink : (Cond.methodLink own index y).before args s = true) (hinst : (Cond.instanceMethod y).before args s = true) (hsel : (Cond.selects C y y).before args s = true)
    (hcode : (Cond.codeWith y bytes maxL ret hh).before args s = true) (hy : y.cls ≠ "java/lang/invoke/MethodHandle" ∧ y.cls ≠ "java/lang/invoke/VarHandle")
    {W9 : Nat} {Pre : Pt → Array Value → Prop} {Post : Pt → Array Value → Option Value → Pt → Prop} (hK : Back l R p e below s args y 3 W9 Pre Post)
    {b : Addr} {cellB : Cell} (hcell : T.heap[b]? = some cellB) (hobj : cellB.vm.isStatics = false) (hcls : s.vm.findClass C = some cellB.cls)
    {g : JFrame} (hg : g.method = m) (hsize : g.locals.size = c.maxLocals) {argsL rest : List Value} (hlen : ∀ sig, parseMethodDescriptor y.desc = some sig → argsL.length = sig.parameters.length)
    (hstack : g.stack = argsL.reverse ++ .ref b :: rest) (hW : 2 * g.monitorRoom + (rest.map fun v => v.category).sum ≤ W9) (hdg : decode c.code g.pc = .ok (.invokevirtual index, 3))
    (hpre : ∀ vm₁, s.WarmedH vm₁ → Pre ⟨T.setVm vm₁, locs, cells, slots⟩ (Value.ref b :: argsL).toArray) :
    ∃ (v : Option Value) (vm₁ : Vm) (B : Pt), s.WarmedH vm₁ ∧ Stand p l e R s m args below meth c B.U B.locs B.cells B.slots ∧ Post ⟨T.setVm vm₁, locs, cells, slots⟩ (Value.ref b :: argsL).toArray v B ∧
      ∀ target, Steps p.tables e below (B.U.setTop { g with pc := g.pc + 3, stack := v.toList ++ rest }) target → Steps p.tables e below (T.setTop g) target := by
  obtain ⟨mk, methM, hnamed, hmethM, hstM, habM⟩ := Cond.instanceMethod_spec hinst
  obtain ⟨m8, methM', cM, hn8, hmethM', -, -, -, -, -, -, hsigM⟩ := Cond.codeWith_spec hcode
  cases Option.some.inj (hn8.symm.trans hnamed)
  cases hmethM.symm.trans hmethM'
  obtain ⟨c2, r2, m2, q1, q2, q3, q4, kP, hkP, hkPi⟩ := Cond.selects_spec hsel
  cases hcls.symm.trans q1
  cases (State.methodFound?_of_named hnamed hy).symm.trans q2
  cases hnamed.symm.trans q3
  have hselP : selectMethod e.platform s.vm cellB.cls mk = .method mk := by rw [Launch.admits_selectMethod X.admits]; exact q4
  obtain ⟨vm₁, X₁, hstep₁⟩ := X.invokevirtual hexec hown hlink hnamed hmethM hstM hkP hkPi hy (a := b) (cell := cellB) hcell
    (fun z h => by rw [h] at hobj; cases hobj) hselP hmethM habM hkP hkPi (g := g) hg (argsL := argsL) (rest := rest) (hlen _ hsigM) hstack hdg
  obtain ⟨v, B, X', hpost, hsteps⟩ := hK m meth c ⟨T.setVm vm₁, locs, cells, slots⟩ { g with stack := rest } (.invokevirtual index) mk (Value.ref b :: argsL).toArray X₁ hg hsize hdg hW (X₁.named hnamed) (hpre vm₁ X₁.warmed)
  exact ⟨v, vm₁, B, X₁.warmed, X', hpost, fun target h => hstep₁ _ fun acts => by rw [doInvoke_state]; exact hsteps.trans h⟩
abbrev vx_CVW (R : Room) (s : State) (args : Array Value) (own C : String) (index : Nat) (y : MethodName) (bytes : ByteArray) (maxL : Nat) (ret : Option FieldType) (hh : List (Nat × Nat × Nat × Nat)) (ws : List Cond) (rm : Room) (mc ms n : Nat) : Prop :=
  (rm.cells = mc ∧ rm.slots = ms ∧ rm.frames + 1 ≤ R.frames ∧ 8 + (maxL + 11) + rm.locals ≤ R.locals ∧ (∀ w ∈ ws, ∀ (a' : Array Value) (U : State), s.WarmedH U.vm → w.before a' U = true) ∧ Cond.codeWith y bytes maxL ret hh ∈ ws) ∧
  (Cond.codeWith y bytes maxL ret hh).before args s = true ∧ (Cond.initialized y.cls).before args s = true ∧ (y.cls ≠ "java/lang/invoke/MethodHandle" ∧ y.cls ≠ "java/lang/invoke/VarHandle") ∧
  (∀ sig, parseMethodDescriptor y.desc = some sig → n = sig.parameters.length) ∧ (Cond.methodLink own index y).before args s = true ∧ (Cond.instanceMethod y).before args s = true ∧ (Cond.selects C y y).before args s = true
theorem vx_cwVW {own C : String} {index maxL mc ms : Nat} {y : MethodName} {bytes : ByteArray} {ret : Option FieldType} {hh : List (Nat × Nat × Nat × Nat)} {Ts ws ws' : List Cond} {rm : Room} (n : Nat) (ht : ∀ w ∈ Ts, w.before args s = true) (hT : GoodIn Ts (wsV own index C y ws)) (hw : ws = Cond.codeWith y bytes maxL ret hh :: ws') (hrc : rm.cells = mc) (hrs : rm.slots = ms)
    (hd : y.cls = C ∧ y.cls ≠ "java/lang/invoke/MethodHandle" ∧ y.cls ≠ "java/lang/invoke/VarHandle" ∧ (parseMethodDescriptor y.desc).map (fun d => d.parameters.length) = some n) (hR : rm.frames + 1 ≤ R.frames ∧ 8 + (maxL + 11) + rm.locals ≤ R.locals) :
    vx_CVW R s args own C index y bytes maxL ret hh ws rm mc ms n := by
  obtain ⟨hC, hd⟩ := hd
  subst hC
  have ok : ∀ w ∈ wsV own index y.cls y ws, w.before args s = true := fun w h => ht w (hT w h).1
  have hG : GoodIn Ts ws := fun w h => hT w (by unfold wsV; exact List.mem_append_right _ h)
  have hc : Cond.codeWith y bytes maxL ret hh ∈ ws := by rw [hw]; exact List.mem_cons_self
  refine ⟨⟨hrc, hrs, hR.1, hR.2, pay_in ht hG, hc⟩, ht _ (hG _ hc).1, ok _ (by simp [wsV]), ⟨hd.1, hd.2.1⟩, fun sig h => ?_, ok _ (by simp [wsV]), ok _ (by simp [wsV]), ok _ (by simp [wsV])⟩
  have h2 := hd.2.2
  rw [h] at h2
  exact (Option.some.inj h2).symm
theorem vx_runVW {y : MethodName} {bytes cc : ByteArray} {maxL nL mc ms n index : Nat} {ret : Option FieldType} {hh : List (Nat × Nat × Nat × Nat)} {ws : List Cond} {rm : Room} {Pc : Array Value → State → Prop} {Qc : Array Value → State → Outcome → State → Prop} {free : Addr → Prop} {Ts : List Cond} {own C : String} {b : Addr} {As rest : List Value} {g : JFrame}
    (S : CallFix p m c cc nL s args Ts own) (hM : Met l y ws rm Pc Qc mc ms free) (cw : vx_CVW R s args own C index y bytes maxL ret hh ws rm mc ms n) (hp : PreV s H C b Pc As)
    (hg : g.method = m) (hn : As.length = n) (hsize : g.locals.size = nL) (hstack : g.stack = As.reverse ++ .ref b :: rest) (hW : 2 * g.monitorRoom + (rest.map fun v => v.category).sum ≤ 8) (hdg : decode cc g.pc = .ok (.invokevirtual index, 3)) (hf : cells + mc ≤ R.cells ∧ slots + ms ≤ R.slots) :
    va_Run p l e R s m args below meth c H locs cells slots mc ms g rest (Qc (Value.ref b :: As).toArray) free := by
  obtain ⟨⟨hrc, hrs, hfr, hlo, hws, hcw⟩, hcode, hini, hy, hlen, hl, hin, hse⟩ := cw
  have hK : Back l R p e below s args y 3 8 (PreOf R mc ms Pc) (PostOf Qc mc ms free) := va_backW (hh := hh) (bytes := bytes) (maxL := maxL) (ret := ret) hM hp.1 hrc hrs hfr hlo hws hcw (fun a' U hW => word_at hW (Or.inl (by first | rfl | simp [Cond.onTables, Cond.keeps, Cond.steady])) hini)
  obtain ⟨hx, hb, hml, ho, -⟩ := S
  obtain ⟨-, ⟨cellB, hcB, hoB, hclB⟩, hPc⟩ := hp
  intro T hT X
  obtain ⟨v, vm₁, ⟨U', l2, c2, s2⟩, hW₁, X', ⟨g', mk, t, L, e1, e2, hq, h1, hL, h2, h3⟩, st⟩ := vx_callVW X hx (C := C) (hh := hh) (bytes := bytes) (maxL := maxL) (ret := ret) ho hl hin hse hcode hy hK (by rw [hT]; exact hcB) hoB hclB hg (hsize.trans hml.symm) (argsL := As) (rest := rest) (fun sig h => hn.trans (hlen sig h)) hstack hW (by rw [hb]; exact hdg)
    (fun vm₁ hW₁ => ⟨hf.1, hf.2, hPc (T.setVm vm₁) hT hW₁⟩)
  dsimp only [Pt.U, Pt.locs, Pt.cells, Pt.slots] at X' e1 e2 h1 h2 h3 st
  subst h1; subst h2; subst h3
  exact ⟨v, (T.setVm vm₁).calling g' mk (Value.ref b :: As).toArray, t, U', L, hT, X', hL, e1, e2, hq, st⟩
section
variable {y : MethodName} {bytes cc : ByteArray} {maxL nL mc ms n index : Nat} {ret : Option FieldType} {ws : List Cond} {rm : Room} {Pc : Array Value → State → Prop} {Qc : Array Value → State → Outcome → State → Prop} {XC : String → State → State → Prop} {free : Addr → Prop} {Ts : List Cond} {own C : String} {b : Addr} {As rest : List Value} {g : JFrame}
theorem vx_runVX {hh : List (Nat × Nat × Nat × Nat)} (S : CallFix p m c cc nL s args Ts own) (hM : vx_Met l y ws rm Pc Qc XC mc ms free) (cw : vx_CVW R s args own C index y bytes maxL ret hh ws rm mc ms n) (hp : PreV s H C b Pc As)
    (hg : g.method = m) (hn : As.length = n) (hsize : g.locals.size = nL) (hstack : g.stack = As.reverse ++ .ref b :: rest) (hW : 2 * g.monitorRoom + (rest.map fun v => v.category).sum ≤ 8) (hdg : decode cc g.pc = .ok (.invokevirtual index, 3)) (hf : cells + mc ≤ R.cells ∧ slots + ms ≤ R.slots) :
    vx_Run p l e R s m args below meth c H locs cells slots mc ms g rest (Qc (Value.ref b :: As).toArray) XC free := by
  obtain ⟨⟨hrc, hrs, hfr, hlo, hws, hcw⟩, hcode, hini, hy, hlen, hl, hin, hse⟩ := cw
  have hK : vx_Back l R p e below s args y 3 8 (PreOf R mc ms Pc) (PostOf Qc mc ms free) (vx_Post XC mc ms free) := vx_backW (hh := hh) (bytes := bytes) (maxL := maxL) (ret := ret) hM hp.1 hrc hrs hfr hlo hws hcw (fun a' U hW => word_at hW (Or.inl (by first | rfl | simp [Cond.onTables, Cond.keeps, Cond.steady])) hini)
  obtain ⟨hx, hb, hml, ho, -⟩ := S
  obtain ⟨-, ⟨cellB, hcB, hoB, hclB⟩, hPc⟩ := hp
  intro T hT X
  rcases vx_callVX X hx (C := C) (hh := hh) (bytes := bytes) (maxL := maxL) (ret := ret) ho hl hin hse hcode hy hK (by rw [hT]; exact hcB) hoB hclB hg (hsize.trans hml.symm) (argsL := As) (rest := rest) (fun sig h => hn.trans (hlen sig h)) hstack hW (by rw [hb]; exact hdg)
    (fun vm₁ hW₁ => ⟨hf.1, hf.2, hPc (T.setVm vm₁) hT hW₁⟩) with ⟨v, vm₁, ⟨U', l2, c2, s2⟩, hW₁, X', ⟨g', mk, t, L, e1, e2, hq, h1, hL, h2, h3⟩, st⟩ | ⟨q, vm₁, ⟨U', l2, c2, s2⟩, hW₁, X', ⟨g', mk, t, L, E, ce, e1, e2, hq, hce, hcv, hcl, h1, hL, h2, h3⟩, st⟩
  · dsimp only [Pt.U, Pt.locs, Pt.cells, Pt.slots] at X' e1 e2 h1 h2 h3 st
    subst h1; subst h2; subst h3
    exact Or.inl ⟨v, (T.setVm vm₁).calling g' mk (Value.ref b :: As).toArray, t, U', L, hT, X', hL, e1, e2, hq, st⟩
  · dsimp only [Pt.U, Pt.locs, Pt.cells, Pt.slots] at X' e1 e2 h1 h2 h3 st hcl
    subst h1; subst h2; subst h3
    exact Or.inr ⟨q, (T.setVm vm₁).calling g' mk (Value.ref b :: As).toArray, t, U', L, E, ce, hT, X', hL, e1, e2, hq, hce, hcv, vx_cls hW₁ hcl, st⟩
theorem vx_runSX {hh : List (Nat × Nat × Nat × Nat)} (S : CallFix p m c cc nL s args Ts own) (hM : vx_Met l y ws rm Pc Qc XC mc ms free) (cw : vx_CSW R s args own index y bytes maxL ret hh ws rm mc ms n) (hp : PreS s H Pc As)
    (hg : g.method = m) (hn : As.length = n) (hsize : g.locals.size = nL) (hstack : g.stack = As.reverse ++ rest) (hW : 2 * g.monitorRoom + (rest.map fun v => v.category).sum ≤ 8) (hdg : decode cc g.pc = .ok (.invokestatic index, 3)) (hf : cells + mc ≤ R.cells ∧ slots + ms ≤ R.slots) :
    vx_Run p l e R s m args below meth c H locs cells slots mc ms g rest (Qc As.toArray) XC free := by
  obtain ⟨⟨hrc, hrs, hfr, hlo, hws, hcw⟩, hcode, hini, hy, hlen, hl, hstt⟩ := cw
  have hK : vx_Back l R p e below s args y 3 8 (PreOf R mc ms Pc) (PostOf Qc mc ms free) (vx_Post XC mc ms free) := vx_backW (hh := hh) (bytes := bytes) (maxL := maxL) (ret := ret) hM hp.1 hrc hrs hfr hlo hws hcw (fun a' U hW => word_at hW (Or.inl (by first | rfl | simp [Cond.onTables, Cond.keeps, Cond.steady])) hini)
  obtain ⟨hx, hb, hml, ho, -⟩ := S
  intro T hT X
  rcases vx_callSX X hx (hh := hh) (bytes := bytes) (maxL := maxL) (ret := ret) ho hl hstt hini hcode hy hK hg (hsize.trans hml.symm) (argsL := As) (rest := rest) (fun sig h => hn.trans (hlen sig h)) hstack hW (by rw [hb]; exact hdg)
    (fun vm₁ hW₁ => ⟨hf.1, hf.2, hp.2 (T.setVm vm₁) hT hW₁⟩) with ⟨v, vm₁, ⟨U', l2, c2, s2⟩, hW₁, X', ⟨g', mk, t, L, e1, e2, hq, h1, hL, h2, h3⟩, st⟩ | ⟨q, vm₁, ⟨U', l2, c2, s2⟩, hW₁, X', ⟨g', mk, t, L, E, ce, e1, e2, hq, hce, hcv, hcl, h1, hL, h2, h3⟩, st⟩
  · dsimp only [Pt.U, Pt.locs, Pt.cells, Pt.slots] at X' e1 e2 h1 h2 h3 st
    subst h1; subst h2; subst h3
    exact Or.inl ⟨v, (T.setVm vm₁).calling g' mk As.toArray, t, U', L, hT, X', hL, e1, e2, hq, st⟩
  · dsimp only [Pt.U, Pt.locs, Pt.cells, Pt.slots] at X' e1 e2 h1 h2 h3 st hcl
    subst h1; subst h2; subst h3
    exact Or.inr ⟨q, (T.setVm vm₁).calling g' mk As.toArray, t, U', L, E, ce, hT, X', hL, e1, e2, hq, hce, hcv, vx_cls hW₁ hcl, st⟩
end
end VXH
theorem vx_ofWH {l : Launch} {y : MethodName} {ws ws' : List Cond} {rm : Room} {Pc : Array Value → State → Prop} {Qc : Array Value → State → Outcome → State → Prop} {XC : String → State → State → Prop} {mc ms : Nat} {free : Addr → Prop} {cc : ByteArray} {maxL : Nat} {ret : Option FieldType} {hh : List (Nat × Nat × Nat × Nat)}
    (hy : plainName y.cls = true) (hw : ws = Cond.codeWith y cc maxL ret hh :: ws')
    (body : ∀ p e s m args below meth c s₁, BodyLoose p l y (headSpec ws rm) cc maxL ret e s m args below meth c s₁ → c.maxLocals = maxL → Pc args s →
      W p l e (headSpec ws rm).room s m args below meth c s.heap [] 0 0 (vx_MQ below Qc XC args s mc ms free) (entryFrame m args maxL)) : vx_Met l y ws rm Pc Qc XC mc ms free := by
  refine MetFree.of_bodyS (code := cc) (maxLocals := maxL) (ret := ret) hy ?_ ?_
  · intro args s m h hn
    obtain ⟨m9, meth, c, hn9, h1, h2, h3, h4, -, h5, h6, -⟩ := Cond.codeWith_spec (atoms_spec (ws := ws) h _ (by rw [hw]; exact List.mem_cons_self))
    cases hn.symm.trans hn9
    exact ⟨meth, c, h1, h2, h3, h4, h5, h6⟩
  · intro p e s m args below meth c s₁ B hml hP _
    have hh0 : s₁.heap = s.heap := by rw [B.state]; rfl
    obtain ⟨t, a1, o, b1, b2, b3⟩ := body p e s m args below meth c s₁ B hml hP s₁ hh0 (Stand.of_body B)
    exact ⟨t, o, a1, b1, b2, b3⟩
/-! ===== END ===== -/
end
section
def RX0 : String := "Badgewood$Badge"
def TX0 : u_T := fun k => match k with
  | _ => ("Badgewood$Badge", "editions", "Ljava/util/ArrayList;", true)
def tyX0 : Nat → FieldType := fun k => match k with
  | _ => .object "java/util/ArrayList"
theorem nmX0 : ∀ a, a < 1 → ∀ b, b < 1 → a ≠ b → (TX0 a).2.1 ≠ (TX0 b).2.1 := by decide +kernel
theorem tyX0_ok : ∀ k, k < 1 → parseFieldDescriptor (TX0 k).2.2.1 = some (tyX0 k) := by decide +kernel
abbrev cX0_init : ByteArray := prog_2_method_1_code
def yX0_init : MethodName := ⟨RX0, "<init>", "()V"⟩
def RX1 : String := "Badgewood$Child"
def TX1 : u_T := fun k => match k with
  | 0 => ("Badgewood$Child", "number", "I", true)
  | 1 => ("Badgewood$Child", "age", "I", false)
  | 2 => ("Badgewood$Child", "troop", "I", false)
  | 3 => ("Badgewood$Child", "awaited", "I", false)
  | 4 => ("Badgewood$Child", "patrol", "I", false)
  | 5 => ("Badgewood$Child", "ticket", "I", false)
  | 6 => ("Badgewood$Child", "boxes", "I", false)
  | 7 => ("Badgewood$Child", "coins", "I", false)
  | 8 => ("Badgewood$Child", "creditor", "I", false)
  | 9 => ("Badgewood$Child", "proven", "I", false)
  | 10 => ("Badgewood$Child", "proofs", "I", false)
  | 11 => ("Badgewood$Child", "skillOfProof", "[I", true)
  | 12 => ("Badgewood$Child", "dayOfProof", "[I", true)
  | _ => ("Badgewood$Child", "courses", "[LBadgewood$Course;", true)
def tyX1 : Nat → FieldType := fun k => match k with
  | 0 => .int
  | 1 => .int
  | 2 => .int
  | 3 => .int
  | 4 => .int
  | 5 => .int
  | 6 => .int
  | 7 => .int
  | 8 => .int
  | 9 => .int
  | 10 => .int
  | 11 => .array .int
  | 12 => .array .int
  | _ => .array (.object "Badgewood$Course")
theorem nmX1 : ∀ a, a < 14 → ∀ b, b < 14 → a ≠ b → (TX1 a).2.1 ≠ (TX1 b).2.1 := by decide +kernel
theorem tyX1_ok : ∀ k, k < 14 → parseFieldDescriptor (TX1 k).2.2.1 = some (tyX1 k) := by decide +kernel
abbrev cX1_init : ByteArray := prog_3_method_1_code
def yX1_init : MethodName := ⟨RX1, "<init>", "(II)V"⟩
abbrev cX1_goOut : ByteArray := prog_3_method_2_code
def yX1_goOut : MethodName := ⟨RX1, "goOut", "()V"⟩
abbrev cX1_courseOf : ByteArray := prog_3_method_3_code
def yX1_courseOf : MethodName := ⟨RX1, "courseOf", "(I)LBadgewood$Course;"⟩
abbrev cX1_take : ByteArray := prog_3_method_4_code
def yX1_take : MethodName := ⟨RX1, "take", "(ILBadgewood$Course;)V"⟩
abbrev cX1_addProof : ByteArray := prog_3_method_5_code
def yX1_addProof : MethodName := ⟨RX1, "addProof", "(II)V"⟩
abbrev cX1_dayEarned : ByteArray := prog_3_method_6_code
def yX1_dayEarned : MethodName := ⟨RX1, "dayEarned", "(I)I"⟩
abbrev cX1_badgesBy : ByteArray := prog_3_method_7_code
def yX1_badgesBy : MethodName := ⟨RX1, "badgesBy", "(I)I"⟩
abbrev cX1_reckonBadges : ByteArray := prog_3_method_8_code
def yX1_reckonBadges : MethodName := ⟨RX1, "reckonBadges", "()V"⟩
abbrev cX1_dayAfterBefore : ByteArray := prog_3_method_9_code
def yX1_dayAfterBefore : MethodName := ⟨RX1, "dayAfterBefore", "(LBadgewood$Edition;)I"⟩
abbrev cX1_dayProven : ByteArray := prog_3_method_10_code
def yX1_dayProven : MethodName := ⟨RX1, "dayProven", "(LBadgewood$Edition;)I"⟩
def RX2 : String := "Badgewood$Course"
def TX2 : u_T := fun k => match k with
  | 0 => ("Badgewood$Course", "edition", "LBadgewood$Edition;", true)
  | 1 => ("Badgewood$Course", "begunOn", "I", true)
  | _ => ("Badgewood$Course", "earnedOn", "I", false)
def tyX2 : Nat → FieldType := fun k => match k with
  | 0 => .object "Badgewood$Edition"
  | 1 => .int
  | _ => .int
theorem nmX2 : ∀ a, a < 3 → ∀ b, b < 3 → a ≠ b → (TX2 a).2.1 ≠ (TX2 b).2.1 := by decide +kernel
theorem tyX2_ok : ∀ k, k < 3 → parseFieldDescriptor (TX2 k).2.2.1 = some (tyX2 k) := by decide +kernel
abbrev cX2_init : ByteArray := prog_4_method_1_code
def yX2_init : MethodName := ⟨RX2, "<init>", "(LBadgewood$Edition;I)V"⟩
abbrev cX2_isHeldOn : ByteArray := prog_4_method_2_code
def yX2_isHeldOn : MethodName := ⟨RX2, "isHeldOn", "(I)Z"⟩
def RX3 : String := "Badgewood$Edition"
def TX3 : u_T := fun k => match k with
  | 0 => ("Badgewood$Edition", "must", "I", true)
  | 1 => ("Badgewood$Edition", "choice", "I", true)
  | 2 => ("Badgewood$Edition", "many", "I", true)
  | 3 => ("Badgewood$Edition", "before", "I", true)
  | 4 => ("Badgewood$Edition", "gap", "I", true)
  | _ => ("Badgewood$Edition", "lasts", "I", true)
def tyX3 : Nat → FieldType := fun k => match k with
  | 0 => .int
  | 1 => .int
  | 2 => .int
  | 3 => .int
  | 4 => .int
  | _ => .int
theorem nmX3 : ∀ a, a < 6 → ∀ b, b < 6 → a ≠ b → (TX3 a).2.1 ≠ (TX3 b).2.1 := by decide +kernel
theorem tyX3_ok : ∀ k, k < 6 → parseFieldDescriptor (TX3 k).2.2.1 = some (tyX3 k) := by decide +kernel
abbrev cX3_init : ByteArray := prog_5_method_1_code
def yX3_init : MethodName := ⟨RX3, "<init>", "(IIIIII)V"⟩
def RX4 : String := "Badgewood$Event"
def TX4 : u_T := fun k => match k with
  | 0 => ("Badgewood$Event", "troop", "I", true)
  | 1 => ("Badgewood$Event", "land", "I", true)
  | 2 => ("Badgewood$Event", "kind", "I", true)
  | 3 => ("Badgewood$Event", "day", "I", true)
  | 4 => ("Badgewood$Event", "hour", "I", true)
  | 5 => ("Badgewood$Event", "end", "I", true)
  | _ => ("Badgewood$Event", "leaders", "I", false)
def tyX4 : Nat → FieldType := fun k => match k with
  | 0 => .int
  | 1 => .int
  | 2 => .int
  | 3 => .int
  | 4 => .int
  | 5 => .int
  | _ => .int
theorem nmX4 : ∀ a, a < 7 → ∀ b, b < 7 → a ≠ b → (TX4 a).2.1 ≠ (TX4 b).2.1 := by decide +kernel
theorem tyX4_ok : ∀ k, k < 7 → parseFieldDescriptor (TX4 k).2.2.1 = some (tyX4 k) := by decide +kernel
abbrev cX4_init : ByteArray := prog_6_method_1_code
def yX4_init : MethodName := ⟨RX4, "<init>", "(IIIIII)V"⟩
abbrev cX4_goesOn : ByteArray := prog_6_method_2_code
def yX4_goesOn : MethodName := ⟨RX4, "goesOn", "(II)Z"⟩
abbrev cX4_meets : ByteArray := prog_6_method_3_code
def yX4_meets : MethodName := ⟨RX4, "meets", "(LBadgewood$Event;)Z"⟩
def RX5 : String := "Badgewood$Leader"
def TX5 : u_T := fun k => match k with
  | 0 => ("Badgewood$Leader", "vettedFrom", "[I", true)
  | 1 => ("Badgewood$Leader", "vettedTo", "[I", true)
  | 2 => ("Badgewood$Leader", "permits", "[I", true)
  | _ => ("Badgewood$Leader", "taught", "I", false)
def tyX5 : Nat → FieldType := fun k => match k with
  | 0 => .array .int
  | 1 => .array .int
  | 2 => .array .int
  | _ => .int
theorem nmX5 : ∀ a, a < 4 → ∀ b, b < 4 → a ≠ b → (TX5 a).2.1 ≠ (TX5 b).2.1 := by decide +kernel
theorem tyX5_ok : ∀ k, k < 4 → parseFieldDescriptor (TX5 k).2.2.1 = some (tyX5 k) := by decide +kernel
abbrev cX5_init : ByteArray := prog_7_method_1_code
def yX5_init : MethodName := ⟨RX5, "<init>", "()V"⟩
abbrev cX5_setVetted : ByteArray := prog_7_method_2_code
def yX5_setVetted : MethodName := ⟨RX5, "setVetted", "(III)V"⟩
abbrev cX5_isVetted : ByteArray := prog_7_method_3_code
def yX5_isVetted : MethodName := ⟨RX5, "isVetted", "(II)Z"⟩
abbrev cX5_isVettedSomewhere : ByteArray := prog_7_method_4_code
def yX5_isVettedSomewhere : MethodName := ⟨RX5, "isVettedSomewhere", "(I)Z"⟩
abbrev cX5_setPermit : ByteArray := prog_7_method_5_code
def yX5_setPermit : MethodName := ⟨RX5, "setPermit", "(II)V"⟩
abbrev cX5_permitOf : ByteArray := prog_7_method_6_code
def yX5_permitOf : MethodName := ⟨RX5, "permitOf", "(I)I"⟩
abbrev cX5_mayLead : ByteArray := prog_7_method_7_code
def yX5_mayLead : MethodName := ⟨RX5, "mayLead", "(II)Z"⟩
def RX6 : String := "Badgewood$Need"
def TX6 : u_T := fun k => match k with
  | 0 => ("Badgewood$Need", "young", "I", true)
  | 1 => ("Badgewood$Need", "perLeader", "I", true)
  | 2 => ("Badgewood$Need", "vetted", "I", true)
  | 3 => ("Badgewood$Need", "permitted", "I", true)
  | _ => ("Badgewood$Need", "least", "I", true)
def tyX6 : Nat → FieldType := fun k => match k with
  | 0 => .int
  | 1 => .int
  | 2 => .int
  | 3 => .int
  | _ => .int
theorem nmX6 : ∀ a, a < 5 → ∀ b, b < 5 → a ≠ b → (TX6 a).2.1 ≠ (TX6 b).2.1 := by decide +kernel
theorem tyX6_ok : ∀ k, k < 5 → parseFieldDescriptor (TX6 k).2.2.1 = some (tyX6 k) := by decide +kernel
abbrev cX6_init : ByteArray := prog_8_method_1_code
def yX6_init : MethodName := ⟨RX6, "<init>", "(IIII)V"⟩
abbrev cX6_leastLeaders : ByteArray := prog_8_method_2_code
def yX6_leastLeaders : MethodName := ⟨RX6, "leastLeaders", "(II)I"⟩
abbrev cX6_verdict : ByteArray := prog_8_method_3_code
def yX6_verdict : MethodName := ⟨RX6, "verdict", "(I)I"⟩
def RX7 : String := "Badgewood$Troop"
def TX7 : u_T := fun k => match k with
  | 0 => ("Badgewood$Troop", "number", "I", true)
  | 1 => ("Badgewood$Troop", "from", "I", true)
  | 2 => ("Badgewood$Troop", "to", "I", true)
  | _ => ("Badgewood$Troop", "room", "I", true)
def tyX7 : Nat → FieldType := fun k => match k with
  | 0 => .int
  | 1 => .int
  | 2 => .int
  | _ => .int
theorem nmX7 : ∀ a, a < 4 → ∀ b, b < 4 → a ≠ b → (TX7 a).2.1 ≠ (TX7 b).2.1 := by decide +kernel
theorem tyX7_ok : ∀ k, k < 4 → parseFieldDescriptor (TX7 k).2.2.1 = some (tyX7 k) := by decide +kernel
abbrev cX7_init : ByteArray := prog_9_method_1_code
def yX7_init : MethodName := ⟨RX7, "<init>", "(IIII)V"⟩
abbrev cX7_isFor : ByteArray := prog_9_method_2_code
def yX7_isFor : MethodName := ⟨RX7, "isFor", "(I)Z"⟩
def RX8 : String := "Badgewood"
def TX8 : u_T := fun k => match k with
  | 0 => ("Badgewood", "troops", "Ljava/util/ArrayList;", true)
  | 1 => ("Badgewood", "children", "Ljava/util/ArrayList;", true)
  | 2 => ("Badgewood", "leaders", "Ljava/util/ArrayList;", true)
  | 3 => ("Badgewood", "events", "Ljava/util/ArrayList;", true)
  | 4 => ("Badgewood", "badges", "[LBadgewood$Badge;", true)
  | 5 => ("Badgewood", "now", "I", false)
  | _ => ("Badgewood", "nextTicket", "I", false)
def tyX8 : Nat → FieldType := fun k => match k with
  | 0 => .object "java/util/ArrayList"
  | 1 => .object "java/util/ArrayList"
  | 2 => .object "java/util/ArrayList"
  | 3 => .object "java/util/ArrayList"
  | 4 => .array (.object "Badgewood$Badge")
  | 5 => .int
  | _ => .int
theorem nmX8 : ∀ a, a < 7 → ∀ b, b < 7 → a ≠ b → (TX8 a).2.1 ≠ (TX8 b).2.1 := by decide +kernel
theorem tyX8_ok : ∀ k, k < 7 → parseFieldDescriptor (TX8 k).2.2.1 = some (tyX8 k) := by decide +kernel
abbrev cX8_init : ByteArray := prog_1_method_1_code
def yX8_init : MethodName := ⟨RX8, "<init>", "()V"⟩
abbrev cX8_troop : ByteArray := prog_1_method_2_code
def yX8_troop : MethodName := ⟨RX8, "troop", "(III)I"⟩
abbrev cX8_child : ByteArray := prog_1_method_3_code
def yX8_child : MethodName := ⟨RX8, "child", "(I)I"⟩
abbrev cX8_join : ByteArray := prog_1_method_4_code
def yX8_join : MethodName := ⟨RX8, "join", "(II)I"⟩
abbrev cX8_leave : ByteArray := prog_1_method_5_code
def yX8_leave : MethodName := ⟨RX8, "leave", "(I)I"⟩
abbrev cX8_patrol : ByteArray := prog_1_method_6_code
def yX8_patrol : MethodName := ⟨RX8, "patrol", "(II)I"⟩
abbrev cX8_duty : ByteArray := prog_1_method_7_code
def yX8_duty : MethodName := ⟨RX8, "duty", "(II)I"⟩
abbrev cX8_pass : ByteArray := prog_1_method_8_code
def yX8_pass : MethodName := ⟨RX8, "pass", "(I)I"⟩
abbrev cX8_season : ByteArray := prog_1_method_9_code
def yX8_season : MethodName := ⟨RX8, "season", "()I"⟩
abbrev cX8_leader : ByteArray := prog_1_method_10_code
def yX8_leader : MethodName := ⟨RX8, "leader", "()I"⟩
abbrev cX8_vet : ByteArray := prog_1_method_11_code
def yX8_vet : MethodName := ⟨RX8, "vet", "(IIII)V"⟩
abbrev cX8_permit : ByteArray := prog_1_method_12_code
def yX8_permit : MethodName := ⟨RX8, "permit", "(III)I"⟩
abbrev cX8_teach : ByteArray := prog_1_method_13_code
def yX8_teach : MethodName := ⟨RX8, "teach", "(II)I"⟩
abbrev cX8_edition : ByteArray := prog_1_method_14_code
def yX8_edition : MethodName := ⟨RX8, "edition", "(IIIIIII)I"⟩
abbrev cX8_begin : ByteArray := prog_1_method_15_code
def yX8_begin : MethodName := ⟨RX8, "begin", "(II)I"⟩
abbrev cX8_prove : ByteArray := prog_1_method_16_code
def yX8_prove : MethodName := ⟨RX8, "prove", "(III)I"⟩
abbrev cX8_event : ByteArray := prog_1_method_17_code
def yX8_event : MethodName := ⟨RX8, "event", "(IIIIII)I"⟩
abbrev cX8_staff : ByteArray := prog_1_method_18_code
def yX8_staff : MethodName := ⟨RX8, "staff", "(IIZ)I"⟩
abbrev cX8_why : ByteArray := prog_1_method_19_code
def yX8_why : MethodName := ⟨RX8, "why", "(I)I"⟩
abbrev cX8_couldStaff : ByteArray := prog_1_method_20_code
def yX8_couldStaff : MethodName := ⟨RX8, "couldStaff", "(III)Z"⟩
abbrev cX8_boxes : ByteArray := prog_1_method_21_code
def yX8_boxes : MethodName := ⟨RX8, "boxes", "(II)I"⟩
abbrev cX8_pay : ByteArray := prog_1_method_22_code
def yX8_pay : MethodName := ⟨RX8, "pay", "(II)I"⟩
abbrev cX8_owed : ByteArray := prog_1_method_23_code
def yX8_owed : MethodName := ⟨RX8, "owed", "(I)I"⟩
abbrev cX8_today : ByteArray := prog_1_method_24_code
def yX8_today : MethodName := ⟨RX8, "today", "()I"⟩
abbrev cX8_ofChild : ByteArray := prog_1_method_25_code
def yX8_ofChild : MethodName := ⟨RX8, "ofChild", "(II)I"⟩
abbrev cX8_ofTroop : ByteArray := prog_1_method_26_code
def yX8_ofTroop : MethodName := ⟨RX8, "ofTroop", "(IZ)I"⟩
abbrev cX8_earned : ByteArray := prog_1_method_27_code
def yX8_earned : MethodName := ⟨RX8, "earned", "(II)I"⟩
abbrev cX8_holds : ByteArray := prog_1_method_28_code
def yX8_holds : MethodName := ⟨RX8, "holds", "(II)Z"⟩
abbrev cX8_lacks : ByteArray := prog_1_method_29_code
def yX8_lacks : MethodName := ⟨RX8, "lacks", "(II)I"⟩
abbrev cX8_requireIndex : ByteArray := prog_1_method_30_code
def yX8_requireIndex : MethodName := ⟨RX8, "requireIndex", "(II)V"⟩
abbrev cX8_requireRange : ByteArray := prog_1_method_31_code
def yX8_requireRange : MethodName := ⟨RX8, "requireRange", "(III)V"⟩
abbrev cX8_requireRoom : ByteArray := prog_1_method_32_code
def yX8_requireRoom : MethodName := ⟨RX8, "requireRoom", "(II)V"⟩
abbrev cX8_troopAt : ByteArray := prog_1_method_33_code
def yX8_troopAt : MethodName := ⟨RX8, "troopAt", "(I)LBadgewood$Troop;"⟩
abbrev cX8_childAt : ByteArray := prog_1_method_34_code
def yX8_childAt : MethodName := ⟨RX8, "childAt", "(I)LBadgewood$Child;"⟩
abbrev cX8_leaderAt : ByteArray := prog_1_method_35_code
def yX8_leaderAt : MethodName := ⟨RX8, "leaderAt", "(I)LBadgewood$Leader;"⟩
abbrev cX8_eventAt : ByteArray := prog_1_method_36_code
def yX8_eventAt : MethodName := ⟨RX8, "eventAt", "(I)LBadgewood$Event;"⟩
abbrev cX8_badgeAt : ByteArray := prog_1_method_37_code
def yX8_badgeAt : MethodName := ⟨RX8, "badgeAt", "(I)LBadgewood$Badge;"⟩
abbrev cX8_hasBit : ByteArray := prog_1_method_38_code
def yX8_hasBit : MethodName := ⟨RX8, "hasBit", "(II)Z"⟩
abbrev cX8_childrenIn : ByteArray := prog_1_method_39_code
def yX8_childrenIn : MethodName := ⟨RX8, "childrenIn", "(I)I"⟩
abbrev cX8_waitingFor : ByteArray := prog_1_method_40_code
def yX8_waitingFor : MethodName := ⟨RX8, "waitingFor", "(I)I"⟩
abbrev cX8_childrenInPatrol : ByteArray := prog_1_method_41_code
def yX8_childrenInPatrol : MethodName := ⟨RX8, "childrenInPatrol", "(II)I"⟩
abbrev cX8_smallestPatrol : ByteArray := prog_1_method_42_code
def yX8_smallestPatrol : MethodName := ⟨RX8, "smallestPatrol", "(I)I"⟩
abbrev cX8_filledPatrols : ByteArray := prog_1_method_43_code
def yX8_filledPatrols : MethodName := ⟨RX8, "filledPatrols", "(I)I"⟩
abbrev cX8_filledPatrolAt : ByteArray := prog_1_method_44_code
def yX8_filledPatrolAt : MethodName := ⟨RX8, "filledPatrolAt", "(II)I"⟩
abbrev cX8_comeInOrWait : ByteArray := prog_1_method_45_code
def yX8_comeInOrWait : MethodName := ⟨RX8, "comeInOrWait", "(LBadgewood$Child;LBadgewood$Troop;)I"⟩
abbrev cX8_comeIn : ByteArray := prog_1_method_46_code
def yX8_comeIn : MethodName := ⟨RX8, "comeIn", "(LBadgewood$Child;I)V"⟩
abbrev cX8_letFirstIn : ByteArray := prog_1_method_47_code
def yX8_letFirstIn : MethodName := ⟨RX8, "letFirstIn", "(I)I"⟩
abbrev cX8_firstWaiting : ByteArray := prog_1_method_48_code
def yX8_firstWaiting : MethodName := ⟨RX8, "firstWaiting", "(I)LBadgewood$Child;"⟩
abbrev cX8_sendOutByAge : ByteArray := prog_1_method_49_code
def yX8_sendOutByAge : MethodName := ⟨RX8, "sendOutByAge", "()I"⟩
abbrev cX8_sendOutOf : ByteArray := prog_1_method_50_code
def yX8_sendOutOf : MethodName := ⟨RX8, "sendOutOf", "(LBadgewood$Troop;)I"⟩
abbrev cX8_fillUp : ByteArray := prog_1_method_51_code
def yX8_fillUp : MethodName := ⟨RX8, "fillUp", "(LBadgewood$Troop;)V"⟩
abbrev cX8_moveUp : ByteArray := prog_1_method_52_code
def yX8_moveUp : MethodName := ⟨RX8, "moveUp", "(LBadgewood$Child;)V"⟩
abbrev cX8_childrenPerLeader : ByteArray := prog_1_method_53_code
def yX8_childrenPerLeader : MethodName := ⟨RX8, "childrenPerLeader", "(I)I"⟩
abbrev cX8_isElsewhere : ByteArray := prog_1_method_54_code
def yX8_isElsewhere : MethodName := ⟨RX8, "isElsewhere", "(LBadgewood$Event;I)Z"⟩
abbrev cX8_needOf : ByteArray := prog_1_method_55_code
def yX8_needOf : MethodName := ⟨RX8, "needOf", "(LBadgewood$Event;)LBadgewood$Need;"⟩
abbrev cX8_eventsIn : ByteArray := prog_1_method_56_code
def yX8_eventsIn : MethodName := ⟨RX8, "eventsIn", "(II)I"⟩
abbrev cX8_needsIn : ByteArray := prog_1_method_57_code
def yX8_needsIn : MethodName := ⟨RX8, "needsIn", "(II)Ljava/util/ArrayList;"⟩
abbrev cX8_canShare : ByteArray := prog_1_method_58_code
def yX8_canShare : MethodName := ⟨RX8, "canShare", "(Ljava/util/ArrayList;II)Z"⟩
def RX9 : String := "BadgewoodModel"
def TX9 : u_T := fun k => match k with
  | 0 => ("BadgewoodModel", "day", "I", false)
  | 1 => ("BadgewoodModel", "troops", "I", false)
  | 2 => ("BadgewoodModel", "least", "[I", true)
  | 3 => ("BadgewoodModel", "most", "[I", true)
  | 4 => ("BadgewoodModel", "room", "[I", true)
  | 5 => ("BadgewoodModel", "children", "I", false)
  | 6 => ("BadgewoodModel", "age", "[I", true)
  | 7 => ("BadgewoodModel", "troopOf", "[I", true)
  | 8 => ("BadgewoodModel", "waitsFor", "[I", true)
  | 9 => ("BadgewoodModel", "since", "[I", true)
  | 10 => ("BadgewoodModel", "waited", "I", false)
  | 11 => ("BadgewoodModel", "patrolOf", "[I", true)
  | 12 => ("BadgewoodModel", "owes", "[I", true)
  | 13 => ("BadgewoodModel", "owesTo", "[I", true)
  | 14 => ("BadgewoodModel", "taken", "[I", true)
  | 15 => ("BadgewoodModel", "hasLeft", "[Z", true)
  | 16 => ("BadgewoodModel", "proven", "[I", true)
  | 17 => ("BadgewoodModel", "begun", "[I", true)
  | 18 => ("BadgewoodModel", "by", "[I", true)
  | 19 => ("BadgewoodModel", "leaders", "I", false)
  | 20 => ("BadgewoodModel", "vetted", "[I", true)
  | 21 => ("BadgewoodModel", "permits", "[I", true)
  | 22 => ("BadgewoodModel", "teaches", "[I", true)
  | 23 => ("BadgewoodModel", "editions", "[I", true)
  | 24 => ("BadgewoodModel", "asked", "[I", true)
  | 25 => ("BadgewoodModel", "days", "[I", true)
  | 26 => ("BadgewoodModel", "events", "I", false)
  | 27 => ("BadgewoodModel", "event", "[I", true)
  | 28 => ("BadgewoodModel", "staffed", "[I", true)
  | 29 => ("BadgewoodModel", "going", "[I", true)
  | 30 => ("BadgewoodModel", "given", "[I", true)
  | _ => ("BadgewoodModel", "thrown", "I", false)
def tyX9 : Nat → FieldType := fun k => match k with
  | 0 => .int
  | 1 => .int
  | 2 => .array .int
  | 3 => .array .int
  | 4 => .array .int
  | 5 => .int
  | 6 => .array .int
  | 7 => .array .int
  | 8 => .array .int
  | 9 => .array .int
  | 10 => .int
  | 11 => .array .int
  | 12 => .array .int
  | 13 => .array .int
  | 14 => .array .int
  | 15 => .array .boolean
  | 16 => .array .int
  | 17 => .array .int
  | 18 => .array .int
  | 19 => .int
  | 20 => .array .int
  | 21 => .array .int
  | 22 => .array .int
  | 23 => .array .int
  | 24 => .array .int
  | 25 => .array .int
  | 26 => .int
  | 27 => .array .int
  | 28 => .array .int
  | 29 => .array .int
  | 30 => .array .int
  | _ => .int
theorem nmX9 : ∀ a, a < 32 → ∀ b, b < 32 → a ≠ b → (TX9 a).2.1 ≠ (TX9 b).2.1 := by decide +kernel
theorem tyX9_ok : ∀ k, k < 32 → parseFieldDescriptor (TX9 k).2.2.1 = some (tyX9 k) := by decide +kernel
abbrev cX9_init : ByteArray := prog_11_method_1_code
def yX9_init : MethodName := ⟨RX9, "<init>", "()V"⟩
abbrev cX9_thrown : ByteArray := prog_11_method_2_code
def yX9_thrown : MethodName := ⟨RX9, "thrown", "()I"⟩
abbrev cX9_fails : ByteArray := prog_11_method_3_code
def yX9_fails : MethodName := ⟨RX9, "fails", "(I)I"⟩
abbrev cX9_asks : ByteArray := prog_11_method_4_code
def yX9_asks : MethodName := ⟨RX9, "asks", "(Z)Z"⟩
abbrev cX9_in : ByteArray := prog_11_method_5_code
def yX9_in : MethodName := ⟨RX9, "in", "(III)Z"⟩
abbrev cX9_isTroop : ByteArray := prog_11_method_6_code
def yX9_isTroop : MethodName := ⟨RX9, "isTroop", "(I)Z"⟩
abbrev cX9_isChild : ByteArray := prog_11_method_7_code
def yX9_isChild : MethodName := ⟨RX9, "isChild", "(I)Z"⟩
abbrev cX9_isLeader : ByteArray := prog_11_method_8_code
def yX9_isLeader : MethodName := ⟨RX9, "isLeader", "(I)Z"⟩
abbrev cX9_isSkills : ByteArray := prog_11_method_9_code
def yX9_isSkills : MethodName := ⟨RX9, "isSkills", "(I)Z"⟩
abbrev cX9_ones : ByteArray := prog_11_method_10_code
def yX9_ones : MethodName := ⟨RX9, "ones", "(I)I"⟩
abbrev cX9_troop : ByteArray := prog_11_method_11_code
def yX9_troop : MethodName := ⟨RX9, "troop", "(III)I"⟩
abbrev cX9_child : ByteArray := prog_11_method_12_code
def yX9_child : MethodName := ⟨RX9, "child", "(I)I"⟩
abbrev cX9_inTroop : ByteArray := prog_11_method_13_code
def yX9_inTroop : MethodName := ⟨RX9, "inTroop", "(I)I"⟩
abbrev cX9_waiting : ByteArray := prog_11_method_14_code
def yX9_waiting : MethodName := ⟨RX9, "waiting", "(I)I"⟩
abbrev cX9_inPatrol : ByteArray := prog_11_method_15_code
def yX9_inPatrol : MethodName := ⟨RX9, "inPatrol", "(II)I"⟩
abbrev cX9_comesIn : ByteArray := prog_11_method_16_code
def yX9_comesIn : MethodName := ⟨RX9, "comesIn", "(II)V"⟩
abbrev cX9_joins : ByteArray := prog_11_method_17_code
def yX9_joins : MethodName := ⟨RX9, "joins", "(II)I"⟩
abbrev cX9_isFor : ByteArray := prog_11_method_18_code
def yX9_isFor : MethodName := ⟨RX9, "isFor", "(II)Z"⟩
abbrev cX9_join : ByteArray := prog_11_method_19_code
def yX9_join : MethodName := ⟨RX9, "join", "(II)I"⟩
abbrev cX9_firstWaiting : ByteArray := prog_11_method_20_code
def yX9_firstWaiting : MethodName := ⟨RX9, "firstWaiting", "(I)I"⟩
abbrev cX9_goesOut : ByteArray := prog_11_method_21_code
def yX9_goesOut : MethodName := ⟨RX9, "goesOut", "(I)V"⟩
abbrev cX9_leave : ByteArray := prog_11_method_22_code
def yX9_leave : MethodName := ⟨RX9, "leave", "(I)I"⟩
abbrev cX9_patrol : ByteArray := prog_11_method_23_code
def yX9_patrol : MethodName := ⟨RX9, "patrol", "(II)I"⟩
abbrev cX9_isDay : ByteArray := prog_11_method_24_code
def yX9_isDay : MethodName := ⟨RX9, "isDay", "(I)Z"⟩
abbrev cX9_duty : ByteArray := prog_11_method_25_code
def yX9_duty : MethodName := ⟨RX9, "duty", "(II)I"⟩
abbrev cX9_pass : ByteArray := prog_11_method_26_code
def yX9_pass : MethodName := ⟨RX9, "pass", "(I)I"⟩
abbrev cX9_joinsLowest : ByteArray := prog_11_method_27_code
def yX9_joinsLowest : MethodName := ⟨RX9, "joinsLowest", "(I)V"⟩
abbrev cX9_season : ByteArray := prog_11_method_28_code
def yX9_season : MethodName := ⟨RX9, "season", "()I"⟩
abbrev cX9_leader : ByteArray := prog_11_method_29_code
def yX9_leader : MethodName := ⟨RX9, "leader", "()I"⟩
abbrev cX9_isLand : ByteArray := prog_11_method_30_code
def yX9_isLand : MethodName := ⟨RX9, "isLand", "(I)Z"⟩
abbrev cX9_vet : ByteArray := prog_11_method_31_code
def yX9_vet : MethodName := ⟨RX9, "vet", "(IIII)V"⟩
abbrev cX9_isVetted : ByteArray := prog_11_method_32_code
def yX9_isVetted : MethodName := ⟨RX9, "isVetted", "(III)Z"⟩
abbrev cX9_permit : ByteArray := prog_11_method_33_code
def yX9_permit : MethodName := ⟨RX9, "permit", "(III)I"⟩
abbrev cX9_teach : ByteArray := prog_11_method_34_code
def yX9_teach : MethodName := ⟨RX9, "teach", "(II)I"⟩
abbrev cX9_isBadge : ByteArray := prog_11_method_35_code
def yX9_isBadge : MethodName := ⟨RX9, "isBadge", "(I)Z"⟩
abbrev cX9_edition : ByteArray := prog_11_method_36_code
def yX9_edition : MethodName := ⟨RX9, "edition", "(IIIIIII)I"⟩
abbrev cX9_begin : ByteArray := prog_11_method_37_code
def yX9_begin : MethodName := ⟨RX9, "begin", "(II)I"⟩
abbrev cX9_later : ByteArray := prog_11_method_38_code
def yX9_later : MethodName := ⟨RX9, "later", "(II)I"⟩
abbrev cX9_provenOn : ByteArray := prog_11_method_39_code
def yX9_provenOn : MethodName := ⟨RX9, "provenOn", "(II)I"⟩
abbrev cX9_dayOfMany : ByteArray := prog_11_method_40_code
def yX9_dayOfMany : MethodName := ⟨RX9, "dayOfMany", "(III)I"⟩
abbrev cX9_findsDays : ByteArray := prog_11_method_41_code
def yX9_findsDays : MethodName := ⟨RX9, "findsDays", "(I)V"⟩
abbrev cX9_earnedBy : ByteArray := prog_11_method_42_code
def yX9_earnedBy : MethodName := ⟨RX9, "earnedBy", "(I)I"⟩
abbrev cX9_prove : ByteArray := prog_11_method_43_code
def yX9_prove : MethodName := ⟨RX9, "prove", "(III)I"⟩
abbrev cX9_event : ByteArray := prog_11_method_44_code
def yX9_event : MethodName := ⟨RX9, "event", "(IIIIII)I"⟩
abbrev cX9_isEvent : ByteArray := prog_11_method_45_code
def yX9_isEvent : MethodName := ⟨RX9, "isEvent", "(I)Z"⟩
abbrev cX9_meet : ByteArray := prog_11_method_46_code
def yX9_meet : MethodName := ⟨RX9, "meet", "(II)Z"⟩
abbrev cX9_staff : ByteArray := prog_11_method_47_code
def yX9_staff : MethodName := ⟨RX9, "staff", "(IIZ)I"⟩
abbrev cX9_ratio : ByteArray := prog_11_method_48_code
def yX9_ratio : MethodName := ⟨RX9, "ratio", "(I)I"⟩
abbrev cX9_reason : ByteArray := prog_11_method_49_code
def yX9_reason : MethodName := ⟨RX9, "reason", "(II)I"⟩
abbrev cX9_why : ByteArray := prog_11_method_50_code
def yX9_why : MethodName := ⟨RX9, "why", "(I)I"⟩
abbrev cX9_couldStaff : ByteArray := prog_11_method_51_code
def yX9_couldStaff : MethodName := ⟨RX9, "couldStaff", "(III)Z"⟩
abbrev cX9_areLawful : ByteArray := prog_11_method_52_code
def yX9_areLawful : MethodName := ⟨RX9, "areLawful", "(III)Z"⟩
abbrev cX9_boxes : ByteArray := prog_11_method_53_code
def yX9_boxes : MethodName := ⟨RX9, "boxes", "(II)I"⟩
abbrev cX9_pay : ByteArray := prog_11_method_54_code
def yX9_pay : MethodName := ⟨RX9, "pay", "(II)I"⟩
abbrev cX9_owed : ByteArray := prog_11_method_55_code
def yX9_owed : MethodName := ⟨RX9, "owed", "(I)I"⟩
abbrev cX9_today : ByteArray := prog_11_method_56_code
def yX9_today : MethodName := ⟨RX9, "today", "()I"⟩
abbrev cX9_ofChild : ByteArray := prog_11_method_57_code
def yX9_ofChild : MethodName := ⟨RX9, "ofChild", "(II)I"⟩
abbrev cX9_ofTroop : ByteArray := prog_11_method_58_code
def yX9_ofTroop : MethodName := ⟨RX9, "ofTroop", "(IZ)I"⟩
abbrev cX9_earned : ByteArray := prog_11_method_59_code
def yX9_earned : MethodName := ⟨RX9, "earned", "(II)I"⟩
abbrev cX9_holds : ByteArray := prog_11_method_60_code
def yX9_holds : MethodName := ⟨RX9, "holds", "(II)Z"⟩
abbrev cX9_lacks : ByteArray := prog_11_method_61_code
def yX9_lacks : MethodName := ⟨RX9, "lacks", "(II)I"⟩
def RJx145de : String := "java/io/Serializable"
def TJx145de : u_T := fun k => match k with
  | _ => ("", "", "", false)
def tyJx145de : Nat → FieldType := fun k => match k with
  | _ => .int
theorem nmJx145de : ∀ a, a < 0 → ∀ b, b < 0 → a ≠ b → (TJx145de a).2.1 ≠ (TJx145de b).2.1 := by decide +kernel
theorem tyJx145de_ok : ∀ k, k < 0 → parseFieldDescriptor (TJx145de k).2.2.1 = some (tyJx145de k) := by decide +kernel
def RJx8e188 : String := "java/lang/Cloneable"
def TJx8e188 : u_T := fun k => match k with
  | _ => ("", "", "", false)
def tyJx8e188 : Nat → FieldType := fun k => match k with
  | _ => .int
theorem nmJx8e188 : ∀ a, a < 0 → ∀ b, b < 0 → a ≠ b → (TJx8e188 a).2.1 ≠ (TJx8e188 b).2.1 := by decide +kernel
theorem tyJx8e188_ok : ∀ k, k < 0 → parseFieldDescriptor (TJx8e188 k).2.2.1 = some (tyJx8e188 k) := by decide +kernel
def RJ6 : String := "java/lang/Integer"
def TJ6 : u_T := fun k => match k with
  | _ => ("", "", "", false)
def tyJ6 : Nat → FieldType := fun k => match k with
  | _ => .int
theorem nmJ6 : ∀ a, a < 0 → ∀ b, b < 0 → a ≠ b → (TJ6 a).2.1 ≠ (TJ6 b).2.1 := by decide +kernel
theorem tyJ6_ok : ∀ k, k < 0 → parseFieldDescriptor (TJ6 k).2.2.1 = some (tyJ6 k) := by decide +kernel
abbrev cJ6_bitCount_0f7a4 : ByteArray := prog_18_method_49_code
def yJ6_bitCount_0f7a4 : MethodName := ⟨RJ6, "bitCount", "(I)I"⟩
def RJxab1ab : String := "java/lang/Iterable"
def TJxab1ab : u_T := fun k => match k with
  | _ => ("", "", "", false)
def tyJxab1ab : Nat → FieldType := fun k => match k with
  | _ => .int
theorem nmJxab1ab : ∀ a, a < 0 → ∀ b, b < 0 → a ≠ b → (TJxab1ab a).2.1 ≠ (TJxab1ab b).2.1 := by decide +kernel
theorem tyJxab1ab_ok : ∀ k, k < 0 → parseFieldDescriptor (TJxab1ab k).2.2.1 = some (tyJxab1ab k) := by decide +kernel
def RJ9 : String := "java/lang/Math"
def TJ9 : u_T := fun k => match k with
  | _ => ("", "", "", false)
def tyJ9 : Nat → FieldType := fun k => match k with
  | _ => .int
theorem nmJ9 : ∀ a, a < 0 → ∀ b, b < 0 → a ≠ b → (TJ9 a).2.1 ≠ (TJ9 b).2.1 := by decide +kernel
theorem tyJ9_ok : ∀ k, k < 0 → parseFieldDescriptor (TJ9 k).2.2.1 = some (tyJ9 k) := by decide +kernel
abbrev cJ9_max_7cf53 : ByteArray := prog_20_method_65_code
def yJ9_max_7cf53 : MethodName := ⟨RJ9, "max", "(II)I"⟩
abbrev cJ9_min_7cf53 : ByteArray := prog_20_method_69_code
def yJ9_min_7cf53 : MethodName := ⟨RJ9, "min", "(II)I"⟩
def RJ0 : String := "java/lang/String"
def TJ0 : u_T := fun k => match k with
  | _ => ("", "", "", false)
def tyJ0 : Nat → FieldType := fun k => match k with
  | _ => .int
theorem nmJ0 : ∀ a, a < 0 → ∀ b, b < 0 → a ≠ b → (TJ0 a).2.1 ≠ (TJ0 b).2.1 := by decide +kernel
theorem tyJ0_ok : ∀ k, k < 0 → parseFieldDescriptor (TJ0 k).2.2.1 = some (tyJ0 k) := by decide +kernel
def RJ10 : String := "java/lang/System"
def TJ10 : u_T := fun k => match k with
  | _ => ("", "", "", false)
def tyJ10 : Nat → FieldType := fun k => match k with
  | _ => .int
theorem nmJ10 : ∀ a, a < 0 → ∀ b, b < 0 → a ≠ b → (TJ10 a).2.1 ≠ (TJ10 b).2.1 := by decide +kernel
theorem tyJ10_ok : ∀ k, k < 0 → parseFieldDescriptor (TJ10 k).2.2.1 = some (tyJ10 k) := by decide +kernel
def RJxa1e45 : String := "java/util/AbstractCollection"
def TJxa1e45 : u_T := fun k => match k with
  | _ => ("", "", "", false)
def tyJxa1e45 : Nat → FieldType := fun k => match k with
  | _ => .int
theorem nmJxa1e45 : ∀ a, a < 0 → ∀ b, b < 0 → a ≠ b → (TJxa1e45 a).2.1 ≠ (TJxa1e45 b).2.1 := by decide +kernel
theorem tyJxa1e45_ok : ∀ k, k < 0 → parseFieldDescriptor (TJxa1e45 k).2.2.1 = some (tyJxa1e45 k) := by decide +kernel
abbrev cJxa1e45_init_da8c8 : ByteArray := prog_25_method_1_code
def yJxa1e45_init_da8c8 : MethodName := ⟨RJxa1e45, "<init>", "()V"⟩
def RJxc12de : String := "java/util/AbstractList"
def TJxc12de : u_T := fun k => match k with
  | _ => ("", "", "", false)
def tyJxc12de : Nat → FieldType := fun k => match k with
  | _ => .int
theorem nmJxc12de : ∀ a, a < 0 → ∀ b, b < 0 → a ≠ b → (TJxc12de a).2.1 ≠ (TJxc12de b).2.1 := by decide +kernel
theorem tyJxc12de_ok : ∀ k, k < 0 → parseFieldDescriptor (TJxc12de k).2.2.1 = some (tyJxc12de k) := by decide +kernel
abbrev cJxc12de_init_da8c8 : ByteArray := prog_26_method_1_code
def yJxc12de_init_da8c8 : MethodName := ⟨RJxc12de, "<init>", "()V"⟩
def RJx4a65c : String := "java/util/ArrayList"
def TJx4a65c : u_T := fun k => match k with
  | 0 => ("java/util/AbstractList", "modCount", "I", false)
  | 1 => ("java/util/ArrayList", "elementData", "[Ljava/lang/Object;", false)
  | _ => ("java/util/ArrayList", "size", "I", false)
def tyJx4a65c : Nat → FieldType := fun k => match k with
  | 0 => .int
  | 1 => .array (.object "java/lang/Object")
  | _ => .int
theorem nmJx4a65c : ∀ a, a < 3 → ∀ b, b < 3 → a ≠ b → (TJx4a65c a).2.1 ≠ (TJx4a65c b).2.1 := by decide +kernel
theorem tyJx4a65c_ok : ∀ k, k < 3 → parseFieldDescriptor (TJx4a65c k).2.2.1 = some (tyJx4a65c k) := by decide +kernel
abbrev cJx4a65c_init_da8c8 : ByteArray := prog_27_method_2_code
def yJx4a65c_init_da8c8 : MethodName := ⟨RJx4a65c, "<init>", "()V"⟩
abbrev cJx4a65c_grow_92f84 : ByteArray := prog_27_method_6_code
def yJx4a65c_grow_92f84 : MethodName := ⟨RJx4a65c, "grow", "(I)[Ljava/lang/Object;"⟩
abbrev cJx4a65c_grow_d5877 : ByteArray := prog_27_method_7_code
def yJx4a65c_grow_d5877 : MethodName := ⟨RJx4a65c, "grow", "()[Ljava/lang/Object;"⟩
abbrev cJx4a65c_size_8abf5 : ByteArray := prog_27_method_8_code
def yJx4a65c_size_8abf5 : MethodName := ⟨RJx4a65c, "size", "()I"⟩
abbrev cJx4a65c_elementData_915e3 : ByteArray := prog_27_method_18_code
def yJx4a65c_elementData_915e3 : MethodName := ⟨RJx4a65c, "elementData", "(I)Ljava/lang/Object;"⟩
abbrev cJx4a65c_get_915e3 : ByteArray := prog_27_method_20_code
def yJx4a65c_get_915e3 : MethodName := ⟨RJx4a65c, "get", "(I)Ljava/lang/Object;"⟩
abbrev cJx4a65c_add_72be8 : ByteArray := prog_27_method_24_code
def yJx4a65c_add_72be8 : MethodName := ⟨RJx4a65c, "add", "(Ljava/lang/Object;[Ljava/lang/Object;I)V"⟩
abbrev cJx4a65c_add_9ea2d : ByteArray := prog_27_method_25_code
def yJx4a65c_add_9ea2d : MethodName := ⟨RJx4a65c, "add", "(Ljava/lang/Object;)Z"⟩
def RJ7 : String := "java/util/Arrays"
def TJ7 : u_T := fun k => match k with
  | _ => ("", "", "", false)
def tyJ7 : Nat → FieldType := fun k => match k with
  | _ => .int
theorem nmJ7 : ∀ a, a < 0 → ∀ b, b < 0 → a ≠ b → (TJ7 a).2.1 ≠ (TJ7 b).2.1 := by decide +kernel
theorem tyJ7_ok : ∀ k, k < 0 → parseFieldDescriptor (TJ7 k).2.2.1 = some (tyJ7 k) := by decide +kernel
abbrev cJ7_copyOf_1904c : ByteArray := prog_28_method_119_code
def yJ7_copyOf_1904c : MethodName := ⟨RJ7, "copyOf", "([Ljava/lang/Object;I)[Ljava/lang/Object;"⟩
abbrev cJ7_copyOf_6403c : ByteArray := prog_28_method_120_code
def yJ7_copyOf_6403c : MethodName := ⟨RJ7, "copyOf", "([Ljava/lang/Object;ILjava/lang/Class;)[Ljava/lang/Object;"⟩
def RJx5ef63 : String := "java/util/Collection"
def TJx5ef63 : u_T := fun k => match k with
  | _ => ("", "", "", false)
def tyJx5ef63 : Nat → FieldType := fun k => match k with
  | _ => .int
theorem nmJx5ef63 : ∀ a, a < 0 → ∀ b, b < 0 → a ≠ b → (TJx5ef63 a).2.1 ≠ (TJx5ef63 b).2.1 := by decide +kernel
theorem tyJx5ef63_ok : ∀ k, k < 0 → parseFieldDescriptor (TJx5ef63 k).2.2.1 = some (tyJx5ef63 k) := by decide +kernel
def RJxbd725 : String := "java/util/List"
def TJxbd725 : u_T := fun k => match k with
  | _ => ("", "", "", false)
def tyJxbd725 : Nat → FieldType := fun k => match k with
  | _ => .int
theorem nmJxbd725 : ∀ a, a < 0 → ∀ b, b < 0 → a ≠ b → (TJxbd725 a).2.1 ≠ (TJxbd725 b).2.1 := by decide +kernel
theorem tyJxbd725_ok : ∀ k, k < 0 → parseFieldDescriptor (TJxbd725 k).2.2.1 = some (tyJxbd725 k) := by decide +kernel
def RJ15 : String := "java/util/Objects"
def TJ15 : u_T := fun k => match k with
  | _ => ("", "", "", false)
def tyJ15 : Nat → FieldType := fun k => match k with
  | _ => .int
theorem nmJ15 : ∀ a, a < 0 → ∀ b, b < 0 → a ≠ b → (TJ15 a).2.1 ≠ (TJ15 b).2.1 := by decide +kernel
theorem tyJ15_ok : ∀ k, k < 0 → parseFieldDescriptor (TJ15 k).2.2.1 = some (tyJ15 k) := by decide +kernel
abbrev cJ15_checkIndex_7cf53 : ByteArray := prog_31_method_17_code
def yJ15_checkIndex_7cf53 : MethodName := ⟨RJ15, "checkIndex", "(II)I"⟩
def RJxf0a74 : String := "java/util/RandomAccess"
def TJxf0a74 : u_T := fun k => match k with
  | _ => ("", "", "", false)
def tyJxf0a74 : Nat → FieldType := fun k => match k with
  | _ => .int
theorem nmJxf0a74 : ∀ a, a < 0 → ∀ b, b < 0 → a ≠ b → (TJxf0a74 a).2.1 ≠ (TJxf0a74 b).2.1 := by decide +kernel
theorem tyJxf0a74_ok : ∀ k, k < 0 → parseFieldDescriptor (TJxf0a74 k).2.2.1 = some (tyJxf0a74 k) := by decide +kernel
def RJxa66e6 : String := "java/util/SequencedCollection"
def TJxa66e6 : u_T := fun k => match k with
  | _ => ("", "", "", false)
def tyJxa66e6 : Nat → FieldType := fun k => match k with
  | _ => .int
theorem nmJxa66e6 : ∀ a, a < 0 → ∀ b, b < 0 → a ≠ b → (TJxa66e6 a).2.1 ≠ (TJxa66e6 b).2.1 := by decide +kernel
theorem tyJxa66e6_ok : ∀ k, k < 0 → parseFieldDescriptor (TJxa66e6 k).2.2.1 = some (tyJxa66e6 k) := by decide +kernel
def RJ8 : String := "jdk/internal/util/ArraysSupport"
def TJ8 : u_T := fun k => match k with
  | _ => ("", "", "", false)
def tyJ8 : Nat → FieldType := fun k => match k with
  | _ => .int
theorem nmJ8 : ∀ a, a < 0 → ∀ b, b < 0 → a ≠ b → (TJ8 a).2.1 ≠ (TJ8 b).2.1 := by decide +kernel
theorem tyJ8_ok : ∀ k, k < 0 → parseFieldDescriptor (TJ8 k).2.2.1 = some (tyJ8 k) := by decide +kernel
abbrev cJ8_newLength_cabcc : ByteArray := prog_34_method_27_code
def yJ8_newLength_cabcc : MethodName := ⟨RJ8, "newLength", "(III)I"⟩
abbrev cJ8_hugeLength_7cf53 : ByteArray := prog_34_method_28_code
def yJ8_hugeLength_7cf53 : MethodName := ⟨RJ8, "hugeLength", "(II)I"⟩
def RJ3 : String := "jdk/internal/util/Preconditions"
def TJ3 : u_T := fun k => match k with
  | _ => ("", "", "", false)
def tyJ3 : Nat → FieldType := fun k => match k with
  | _ => .int
theorem nmJ3 : ∀ a, a < 0 → ∀ b, b < 0 → a ≠ b → (TJ3 a).2.1 ≠ (TJ3 b).2.1 := by decide +kernel
theorem tyJ3_ok : ∀ k, k < 0 → parseFieldDescriptor (TJ3 k).2.2.1 = some (tyJ3 k) := by decide +kernel
abbrev cJ3_checkIndex_8e157 : ByteArray := prog_35_method_11_code
def yJ3_checkIndex_8e157 : MethodName := ⟨RJ3, "checkIndex", "(IILjava/util/function/BiFunction;)I"⟩
def RL : String := "BadgewoodLaw"
abbrev cL_troop : ByteArray := method_3_code
def yL_troop : MethodName := ⟨RL, "troop", "(LBadgewood;III[J)I"⟩
abbrev cL_child : ByteArray := method_4_code
def yL_child : MethodName := ⟨RL, "child", "(LBadgewood;I[J)I"⟩
abbrev cL_join : ByteArray := method_5_code
def yL_join : MethodName := ⟨RL, "join", "(LBadgewood;II[J)I"⟩
abbrev cL_leave : ByteArray := method_6_code
def yL_leave : MethodName := ⟨RL, "leave", "(LBadgewood;I[J)I"⟩
abbrev cL_patrol : ByteArray := method_7_code
def yL_patrol : MethodName := ⟨RL, "patrol", "(LBadgewood;II[J)I"⟩
abbrev cL_duty : ByteArray := method_8_code
def yL_duty : MethodName := ⟨RL, "duty", "(LBadgewood;II[J)I"⟩
abbrev cL_pass : ByteArray := method_9_code
def yL_pass : MethodName := ⟨RL, "pass", "(LBadgewood;I[J)I"⟩
abbrev cL_leader : ByteArray := method_10_code
def yL_leader : MethodName := ⟨RL, "leader", "(LBadgewood;[J)I"⟩
abbrev cL_vet : ByteArray := method_11_code
def yL_vet : MethodName := ⟨RL, "vet", "(LBadgewood;IIII)I"⟩
abbrev cL_permit : ByteArray := method_12_code
def yL_permit : MethodName := ⟨RL, "permit", "(LBadgewood;III[J)I"⟩
abbrev cL_teach : ByteArray := method_13_code
def yL_teach : MethodName := ⟨RL, "teach", "(LBadgewood;II[J)I"⟩
abbrev cL_edition : ByteArray := method_14_code
def yL_edition : MethodName := ⟨RL, "edition", "(LBadgewood;IIIIIII[J)I"⟩
abbrev cL_begin : ByteArray := method_15_code
def yL_begin : MethodName := ⟨RL, "begin", "(LBadgewood;II[J)I"⟩
abbrev cL_prove : ByteArray := method_16_code
def yL_prove : MethodName := ⟨RL, "prove", "(LBadgewood;III[J)I"⟩
abbrev cL_event : ByteArray := method_17_code
def yL_event : MethodName := ⟨RL, "event", "(LBadgewood;IIIIII[J)I"⟩
abbrev cL_staff : ByteArray := method_18_code
def yL_staff : MethodName := ⟨RL, "staff", "(LBadgewood;IIZ[J)I"⟩
abbrev cL_why : ByteArray := method_19_code
def yL_why : MethodName := ⟨RL, "why", "(LBadgewood;I[J)I"⟩
abbrev cL_couldStaff : ByteArray := method_20_code
def yL_couldStaff : MethodName := ⟨RL, "couldStaff", "(LBadgewood;III[J)I"⟩
abbrev cL_boxes : ByteArray := method_21_code
def yL_boxes : MethodName := ⟨RL, "boxes", "(LBadgewood;II[J)I"⟩
abbrev cL_pay : ByteArray := method_22_code
def yL_pay : MethodName := ⟨RL, "pay", "(LBadgewood;II[J)I"⟩
abbrev cL_owed : ByteArray := method_23_code
def yL_owed : MethodName := ⟨RL, "owed", "(LBadgewood;I[J)I"⟩
abbrev cL_ofChild : ByteArray := method_24_code
def yL_ofChild : MethodName := ⟨RL, "ofChild", "(LBadgewood;II[J)I"⟩
abbrev cL_ofTroop : ByteArray := method_25_code
def yL_ofTroop : MethodName := ⟨RL, "ofTroop", "(LBadgewood;IZ[J)I"⟩
abbrev cL_earned : ByteArray := method_26_code
def yL_earned : MethodName := ⟨RL, "earned", "(LBadgewood;II[J)I"⟩
abbrev cL_holds : ByteArray := method_27_code
def yL_holds : MethodName := ⟨RL, "holds", "(LBadgewood;II[J)I"⟩
abbrev cL_lacks : ByteArray := method_28_code
def yL_lacks : MethodName := ⟨RL, "lacks", "(LBadgewood;II[J)I"⟩
abbrev cL_law : ByteArray := code
def yL_law : MethodName := ⟨RL, "law", "([I)Z"⟩
abbrev vwCl : List vw_C := [(RJx4a65c, TJx4a65c, 3), (RX0, TX0, 1), (RX1, TX1, 14), (RX2, TX2, 3), (RX3, TX3, 6), (RX4, TX4, 7), (RX5, TX5, 4), (RX6, TX6, 5), (RX7, TX7, 4), (RX8, TX8, 7), (RX9, TX9, 32)]
end
section
theorem dX0_init_0 : decode cX0_init 0 = .ok (.aload_n 0, 1) := by decide +kernel
theorem dX0_init_1 : decode cX0_init 1 = .ok (.invokespecial 1, 3) := by decide +kernel
theorem dX0_init_4 : decode cX0_init 4 = .ok (.aload_n 0, 1) := by decide +kernel
theorem dX0_init_5 : decode cX0_init 5 = .ok (.new 7, 3) := by decide +kernel
theorem dX0_init_8 : decode cX0_init 8 = .ok (.dup, 1) := by decide +kernel
theorem dX0_init_9 : decode cX0_init 9 = .ok (.invokespecial 9, 3) := by decide +kernel
theorem dX0_init_12 : decode cX0_init 12 = .ok (.putfield 10, 3) := by decide +kernel
theorem dX0_init_15 : decode cX0_init 15 = .ok (.return_, 1) := by decide +kernel
theorem dX1_init_0 : decode cX1_init 0 = .ok (.aload_n 0, 1) := by decide +kernel
theorem dX1_init_1 : decode cX1_init 1 = .ok (.invokespecial 3, 3) := by decide +kernel
theorem dX1_init_4 : decode cX1_init 4 = .ok (.aload_n 0, 1) := by decide +kernel
theorem dX1_init_5 : decode cX1_init 5 = .ok (.iconst (-1), 1) := by decide +kernel
theorem dX1_init_6 : decode cX1_init 6 = .ok (.putfield 9, 3) := by decide +kernel
theorem dX1_init_9 : decode cX1_init 9 = .ok (.aload_n 0, 1) := by decide +kernel
theorem dX1_init_10 : decode cX1_init 10 = .ok (.iconst (-1), 1) := by decide +kernel
theorem dX1_init_11 : decode cX1_init 11 = .ok (.putfield 15, 3) := by decide +kernel
theorem dX1_init_14 : decode cX1_init 14 = .ok (.aload_n 0, 1) := by decide +kernel
theorem dX1_init_15 : decode cX1_init 15 = .ok (.iconst (-1), 1) := by decide +kernel
theorem dX1_init_16 : decode cX1_init 16 = .ok (.putfield 18, 3) := by decide +kernel
theorem dX1_init_19 : decode cX1_init 19 = .ok (.aload_n 0, 1) := by decide +kernel
theorem dX1_init_20 : decode cX1_init 20 = .ok (.iconst (-1), 1) := by decide +kernel
theorem dX1_init_21 : decode cX1_init 21 = .ok (.putfield 21, 3) := by decide +kernel
theorem dX1_init_24 : decode cX1_init 24 = .ok (.aload_n 0, 1) := by decide +kernel
theorem dX1_init_25 : decode cX1_init 25 = .ok (.bipush 16, 2) := by decide +kernel
theorem dX1_init_27 : decode cX1_init 27 = .ok (.newarray .int, 2) := by decide +kernel
theorem dX1_init_29 : decode cX1_init 29 = .ok (.putfield 24, 3) := by decide +kernel
theorem dX1_init_32 : decode cX1_init 32 = .ok (.aload_n 0, 1) := by decide +kernel
theorem dX1_init_33 : decode cX1_init 33 = .ok (.bipush 16, 2) := by decide +kernel
theorem dX1_init_35 : decode cX1_init 35 = .ok (.newarray .int, 2) := by decide +kernel
theorem dX1_init_37 : decode cX1_init 37 = .ok (.putfield 28, 3) := by decide +kernel
theorem dX1_init_40 : decode cX1_init 40 = .ok (.aload_n 0, 1) := by decide +kernel
theorem dX1_init_41 : decode cX1_init 41 = .ok (.bipush 8, 2) := by decide +kernel
theorem dX1_init_43 : decode cX1_init 43 = .ok (.anewarray 31, 3) := by decide +kernel
theorem dX1_init_46 : decode cX1_init 46 = .ok (.putfield 33, 3) := by decide +kernel
theorem dX1_init_49 : decode cX1_init 49 = .ok (.aload_n 0, 1) := by decide +kernel
theorem dX1_init_50 : decode cX1_init 50 = .ok (.iload_n 1, 1) := by decide +kernel
theorem dX1_init_51 : decode cX1_init 51 = .ok (.putfield 37, 3) := by decide +kernel
theorem dX1_init_54 : decode cX1_init 54 = .ok (.aload_n 0, 1) := by decide +kernel
theorem dX1_init_55 : decode cX1_init 55 = .ok (.iload_n 2, 1) := by decide +kernel
theorem dX1_init_56 : decode cX1_init 56 = .ok (.putfield 40, 3) := by decide +kernel
theorem dX1_init_59 : decode cX1_init 59 = .ok (.return_, 1) := by decide +kernel
theorem dX1_goOut_0 : decode cX1_goOut 0 = .ok (.aload_n 0, 1) := by decide +kernel
theorem dX1_goOut_1 : decode cX1_goOut 1 = .ok (.iconst (-1), 1) := by decide +kernel
theorem dX1_goOut_2 : decode cX1_goOut 2 = .ok (.putfield 9, 3) := by decide +kernel
theorem dX1_goOut_5 : decode cX1_goOut 5 = .ok (.aload_n 0, 1) := by decide +kernel
theorem dX1_goOut_6 : decode cX1_goOut 6 = .ok (.iconst (-1), 1) := by decide +kernel
theorem dX1_goOut_7 : decode cX1_goOut 7 = .ok (.putfield 15, 3) := by decide +kernel
theorem dX1_goOut_10 : decode cX1_goOut 10 = .ok (.aload_n 0, 1) := by decide +kernel
theorem dX1_goOut_11 : decode cX1_goOut 11 = .ok (.iconst (-1), 1) := by decide +kernel
theorem dX1_goOut_12 : decode cX1_goOut 12 = .ok (.putfield 18, 3) := by decide +kernel
theorem dX1_goOut_15 : decode cX1_goOut 15 = .ok (.return_, 1) := by decide +kernel
theorem dX1_courseOf_0 : decode cX1_courseOf 0 = .ok (.iload_n 1, 1) := by decide +kernel
theorem dX1_courseOf_1 : decode cX1_courseOf 1 = .ok (.ifCond .lt 21, 3) := by decide +kernel
theorem dX1_courseOf_4 : decode cX1_courseOf 4 = .ok (.iload_n 1, 1) := by decide +kernel
theorem dX1_courseOf_5 : decode cX1_courseOf 5 = .ok (.aload_n 0, 1) := by decide +kernel
theorem dX1_courseOf_6 : decode cX1_courseOf 6 = .ok (.getfield 33, 3) := by decide +kernel
theorem dX1_courseOf_9 : decode cX1_courseOf 9 = .ok (.arraylength, 1) := by decide +kernel
theorem dX1_courseOf_10 : decode cX1_courseOf 10 = .ok (.if_icmp .ge 12, 3) := by decide +kernel
theorem dX1_courseOf_13 : decode cX1_courseOf 13 = .ok (.aload_n 0, 1) := by decide +kernel
theorem dX1_courseOf_14 : decode cX1_courseOf 14 = .ok (.getfield 33, 3) := by decide +kernel
theorem dX1_courseOf_17 : decode cX1_courseOf 17 = .ok (.iload_n 1, 1) := by decide +kernel
theorem dX1_courseOf_18 : decode cX1_courseOf 18 = .ok (.aaload, 1) := by decide +kernel
theorem dX1_courseOf_19 : decode cX1_courseOf 19 = .ok (.goto 4, 3) := by decide +kernel
theorem dX1_courseOf_22 : decode cX1_courseOf 22 = .ok (.aconst_null, 1) := by decide +kernel
theorem dX1_courseOf_23 : decode cX1_courseOf 23 = .ok (.areturn, 1) := by decide +kernel
theorem dX1_take_0 : decode cX1_take 0 = .ok (.iload_n 1, 1) := by decide +kernel
theorem dX1_take_1 : decode cX1_take 1 = .ok (.ifCond .lt 23, 3) := by decide +kernel
theorem dX1_take_4 : decode cX1_take 4 = .ok (.iload_n 1, 1) := by decide +kernel
theorem dX1_take_5 : decode cX1_take 5 = .ok (.aload_n 0, 1) := by decide +kernel
theorem dX1_take_6 : decode cX1_take 6 = .ok (.getfield 33, 3) := by decide +kernel
theorem dX1_take_9 : decode cX1_take 9 = .ok (.arraylength, 1) := by decide +kernel
theorem dX1_take_10 : decode cX1_take 10 = .ok (.if_icmp .ge 14, 3) := by decide +kernel
theorem dX1_take_13 : decode cX1_take 13 = .ok (.aload_n 0, 1) := by decide +kernel
theorem dX1_take_14 : decode cX1_take 14 = .ok (.getfield 33, 3) := by decide +kernel
theorem dX1_take_17 : decode cX1_take 17 = .ok (.iload_n 1, 1) := by decide +kernel
theorem dX1_take_18 : decode cX1_take 18 = .ok (.aload_n 2, 1) := by decide +kernel
theorem dX1_take_19 : decode cX1_take 19 = .ok (.aastore, 1) := by decide +kernel
theorem dX1_take_20 : decode cX1_take 20 = .ok (.aload_n 0, 1) := by decide +kernel
theorem dX1_take_21 : decode cX1_take 21 = .ok (.invokevirtual 43, 3) := by decide +kernel
theorem dX1_take_24 : decode cX1_take 24 = .ok (.return_, 1) := by decide +kernel
theorem dX1_addProof_0 : decode cX1_addProof 0 = .ok (.aload_n 0, 1) := by decide +kernel
theorem dX1_addProof_1 : decode cX1_addProof 1 = .ok (.getfield 46, 3) := by decide +kernel
theorem dX1_addProof_4 : decode cX1_addProof 4 = .ok (.aload_n 0, 1) := by decide +kernel
theorem dX1_addProof_5 : decode cX1_addProof 5 = .ok (.getfield 24, 3) := by decide +kernel
theorem dX1_addProof_8 : decode cX1_addProof 8 = .ok (.arraylength, 1) := by decide +kernel
theorem dX1_addProof_9 : decode cX1_addProof 9 = .ok (.if_icmp .ge 61, 3) := by decide +kernel
theorem dX1_addProof_12 : decode cX1_addProof 12 = .ok (.aload_n 0, 1) := by decide +kernel
theorem dX1_addProof_13 : decode cX1_addProof 13 = .ok (.getfield 46, 3) := by decide +kernel
theorem dX1_addProof_16 : decode cX1_addProof 16 = .ok (.aload_n 0, 1) := by decide +kernel
theorem dX1_addProof_17 : decode cX1_addProof 17 = .ok (.getfield 28, 3) := by decide +kernel
theorem dX1_addProof_20 : decode cX1_addProof 20 = .ok (.arraylength, 1) := by decide +kernel
theorem dX1_addProof_21 : decode cX1_addProof 21 = .ok (.if_icmp .ge 49, 3) := by decide +kernel
theorem dX1_addProof_24 : decode cX1_addProof 24 = .ok (.aload_n 0, 1) := by decide +kernel
theorem dX1_addProof_25 : decode cX1_addProof 25 = .ok (.getfield 24, 3) := by decide +kernel
theorem dX1_addProof_28 : decode cX1_addProof 28 = .ok (.aload_n 0, 1) := by decide +kernel
theorem dX1_addProof_29 : decode cX1_addProof 29 = .ok (.getfield 46, 3) := by decide +kernel
theorem dX1_addProof_32 : decode cX1_addProof 32 = .ok (.iload_n 1, 1) := by decide +kernel
theorem dX1_addProof_33 : decode cX1_addProof 33 = .ok (.iastore, 1) := by decide +kernel
theorem dX1_addProof_34 : decode cX1_addProof 34 = .ok (.aload_n 0, 1) := by decide +kernel
theorem dX1_addProof_35 : decode cX1_addProof 35 = .ok (.getfield 28, 3) := by decide +kernel
theorem dX1_addProof_38 : decode cX1_addProof 38 = .ok (.aload_n 0, 1) := by decide +kernel
theorem dX1_addProof_39 : decode cX1_addProof 39 = .ok (.getfield 46, 3) := by decide +kernel
theorem dX1_addProof_42 : decode cX1_addProof 42 = .ok (.iload_n 2, 1) := by decide +kernel
theorem dX1_addProof_43 : decode cX1_addProof 43 = .ok (.iastore, 1) := by decide +kernel
theorem dX1_addProof_44 : decode cX1_addProof 44 = .ok (.aload_n 0, 1) := by decide +kernel
theorem dX1_addProof_45 : decode cX1_addProof 45 = .ok (.dup, 1) := by decide +kernel
theorem dX1_addProof_46 : decode cX1_addProof 46 = .ok (.getfield 46, 3) := by decide +kernel
theorem dX1_addProof_49 : decode cX1_addProof 49 = .ok (.iconst 1, 1) := by decide +kernel
theorem dX1_addProof_50 : decode cX1_addProof 50 = .ok (.iadd, 1) := by decide +kernel
theorem dX1_addProof_51 : decode cX1_addProof 51 = .ok (.putfield 46, 3) := by decide +kernel
theorem dX1_addProof_54 : decode cX1_addProof 54 = .ok (.aload_n 0, 1) := by decide +kernel
theorem dX1_addProof_55 : decode cX1_addProof 55 = .ok (.dup, 1) := by decide +kernel
theorem dX1_addProof_56 : decode cX1_addProof 56 = .ok (.getfield 49, 3) := by decide +kernel
theorem dX1_addProof_59 : decode cX1_addProof 59 = .ok (.iconst 1, 1) := by decide +kernel
theorem dX1_addProof_60 : decode cX1_addProof 60 = .ok (.iload_n 1, 1) := by decide +kernel
theorem dX1_addProof_61 : decode cX1_addProof 61 = .ok (.ishl, 1) := by decide +kernel
theorem dX1_addProof_62 : decode cX1_addProof 62 = .ok (.ior, 1) := by decide +kernel
theorem dX1_addProof_63 : decode cX1_addProof 63 = .ok (.putfield 49, 3) := by decide +kernel
theorem dX1_addProof_66 : decode cX1_addProof 66 = .ok (.aload_n 0, 1) := by decide +kernel
theorem dX1_addProof_67 : decode cX1_addProof 67 = .ok (.invokevirtual 43, 3) := by decide +kernel
theorem dX1_addProof_70 : decode cX1_addProof 70 = .ok (.return_, 1) := by decide +kernel
theorem dX1_dayEarned_0 : decode cX1_dayEarned 0 = .ok (.aload_n 0, 1) := by decide +kernel
theorem dX1_dayEarned_1 : decode cX1_dayEarned 1 = .ok (.iload_n 1, 1) := by decide +kernel
theorem dX1_dayEarned_2 : decode cX1_dayEarned 2 = .ok (.invokevirtual 52, 3) := by decide +kernel
theorem dX1_dayEarned_5 : decode cX1_dayEarned 5 = .ok (.astore_n 2, 1) := by decide +kernel
theorem dX1_dayEarned_6 : decode cX1_dayEarned 6 = .ok (.aload_n 2, 1) := by decide +kernel
theorem dX1_dayEarned_7 : decode cX1_dayEarned 7 = .ok (.ifnonnull 8, 3) := by decide +kernel
theorem dX1_dayEarned_10 : decode cX1_dayEarned 10 = .ok (.ldc 56, 2) := by decide +kernel
theorem dX1_dayEarned_12 : decode cX1_dayEarned 12 = .ok (.goto 7, 3) := by decide +kernel
theorem dX1_dayEarned_15 : decode cX1_dayEarned 15 = .ok (.aload_n 2, 1) := by decide +kernel
theorem dX1_dayEarned_16 : decode cX1_dayEarned 16 = .ok (.getfield 57, 3) := by decide +kernel
theorem dX1_dayEarned_19 : decode cX1_dayEarned 19 = .ok (.ireturn, 1) := by decide +kernel
theorem dX1_badgesBy_0 : decode cX1_badgesBy 0 = .ok (.iconst 0, 1) := by decide +kernel
theorem dX1_badgesBy_1 : decode cX1_badgesBy 1 = .ok (.istore_n 2, 1) := by decide +kernel
theorem dX1_badgesBy_2 : decode cX1_badgesBy 2 = .ok (.iconst 0, 1) := by decide +kernel
theorem dX1_badgesBy_3 : decode cX1_badgesBy 3 = .ok (.istore_n 3, 1) := by decide +kernel
theorem dX1_badgesBy_4 : decode cX1_badgesBy 4 = .ok (.iload_n 3, 1) := by decide +kernel
theorem dX1_badgesBy_5 : decode cX1_badgesBy 5 = .ok (.aload_n 0, 1) := by decide +kernel
theorem dX1_badgesBy_6 : decode cX1_badgesBy 6 = .ok (.getfield 33, 3) := by decide +kernel
theorem dX1_badgesBy_9 : decode cX1_badgesBy 9 = .ok (.arraylength, 1) := by decide +kernel
theorem dX1_badgesBy_10 : decode cX1_badgesBy 10 = .ok (.if_icmp .ge 21, 3) := by decide +kernel
theorem dX1_badgesBy_13 : decode cX1_badgesBy 13 = .ok (.aload_n 0, 1) := by decide +kernel
theorem dX1_badgesBy_14 : decode cX1_badgesBy 14 = .ok (.iload_n 3, 1) := by decide +kernel
theorem dX1_badgesBy_15 : decode cX1_badgesBy 15 = .ok (.invokevirtual 60, 3) := by decide +kernel
theorem dX1_badgesBy_18 : decode cX1_badgesBy 18 = .ok (.iload_n 1, 1) := by decide +kernel
theorem dX1_badgesBy_19 : decode cX1_badgesBy 19 = .ok (.if_icmp .gt 6, 3) := by decide +kernel
theorem dX1_badgesBy_22 : decode cX1_badgesBy 22 = .ok (.iinc 2 1, 3) := by decide +kernel
theorem dX1_badgesBy_25 : decode cX1_badgesBy 25 = .ok (.iinc 3 1, 3) := by decide +kernel
theorem dX1_badgesBy_28 : decode cX1_badgesBy 28 = .ok (.goto (-24), 3) := by decide +kernel
theorem dX1_badgesBy_31 : decode cX1_badgesBy 31 = .ok (.iload_n 2, 1) := by decide +kernel
theorem dX1_badgesBy_32 : decode cX1_badgesBy 32 = .ok (.ireturn, 1) := by decide +kernel
theorem dX1_reckonBadges_0 : decode cX1_reckonBadges 0 = .ok (.iconst 0, 1) := by decide +kernel
theorem dX1_reckonBadges_1 : decode cX1_reckonBadges 1 = .ok (.istore_n 1, 1) := by decide +kernel
theorem dX1_reckonBadges_2 : decode cX1_reckonBadges 2 = .ok (.iload_n 1, 1) := by decide +kernel
theorem dX1_reckonBadges_3 : decode cX1_reckonBadges 3 = .ok (.aload_n 0, 1) := by decide +kernel
theorem dX1_reckonBadges_4 : decode cX1_reckonBadges 4 = .ok (.getfield 33, 3) := by decide +kernel
theorem dX1_reckonBadges_7 : decode cX1_reckonBadges 7 = .ok (.arraylength, 1) := by decide +kernel
theorem dX1_reckonBadges_8 : decode cX1_reckonBadges 8 = .ok (.if_icmp .ge 52, 3) := by decide +kernel
theorem dX1_reckonBadges_11 : decode cX1_reckonBadges 11 = .ok (.aload_n 0, 1) := by decide +kernel
theorem dX1_reckonBadges_12 : decode cX1_reckonBadges 12 = .ok (.getfield 33, 3) := by decide +kernel
theorem dX1_reckonBadges_15 : decode cX1_reckonBadges 15 = .ok (.iload_n 1, 1) := by decide +kernel
theorem dX1_reckonBadges_16 : decode cX1_reckonBadges 16 = .ok (.aaload, 1) := by decide +kernel
theorem dX1_reckonBadges_17 : decode cX1_reckonBadges 17 = .ok (.astore_n 2, 1) := by decide +kernel
theorem dX1_reckonBadges_18 : decode cX1_reckonBadges 18 = .ok (.aload_n 2, 1) := by decide +kernel
theorem dX1_reckonBadges_19 : decode cX1_reckonBadges 19 = .ok (.ifnull 35, 3) := by decide +kernel
theorem dX1_reckonBadges_22 : decode cX1_reckonBadges 22 = .ok (.aload_n 0, 1) := by decide +kernel
theorem dX1_reckonBadges_23 : decode cX1_reckonBadges 23 = .ok (.aload_n 2, 1) := by decide +kernel
theorem dX1_reckonBadges_24 : decode cX1_reckonBadges 24 = .ok (.getfield 64, 3) := by decide +kernel
theorem dX1_reckonBadges_27 : decode cX1_reckonBadges 27 = .ok (.invokevirtual 68, 3) := by decide +kernel
theorem dX1_reckonBadges_30 : decode cX1_reckonBadges 30 = .ok (.istore_n 3, 1) := by decide +kernel
theorem dX1_reckonBadges_31 : decode cX1_reckonBadges 31 = .ok (.aload_n 2, 1) := by decide +kernel
theorem dX1_reckonBadges_32 : decode cX1_reckonBadges 32 = .ok (.aload_n 2, 1) := by decide +kernel
theorem dX1_reckonBadges_33 : decode cX1_reckonBadges 33 = .ok (.getfield 72, 3) := by decide +kernel
theorem dX1_reckonBadges_36 : decode cX1_reckonBadges 36 = .ok (.iload_n 3, 1) := by decide +kernel
theorem dX1_reckonBadges_37 : decode cX1_reckonBadges 37 = .ok (.invokestatic 75, 3) := by decide +kernel
theorem dX1_reckonBadges_40 : decode cX1_reckonBadges 40 = .ok (.aload_n 0, 1) := by decide +kernel
theorem dX1_reckonBadges_41 : decode cX1_reckonBadges 41 = .ok (.aload_n 2, 1) := by decide +kernel
theorem dX1_reckonBadges_42 : decode cX1_reckonBadges 42 = .ok (.getfield 64, 3) := by decide +kernel
theorem dX1_reckonBadges_45 : decode cX1_reckonBadges 45 = .ok (.invokevirtual 81, 3) := by decide +kernel
theorem dX1_reckonBadges_48 : decode cX1_reckonBadges 48 = .ok (.invokestatic 75, 3) := by decide +kernel
theorem dX1_reckonBadges_51 : decode cX1_reckonBadges 51 = .ok (.putfield 57, 3) := by decide +kernel
theorem dX1_reckonBadges_54 : decode cX1_reckonBadges 54 = .ok (.iinc 1 1, 3) := by decide +kernel
theorem dX1_reckonBadges_57 : decode cX1_reckonBadges 57 = .ok (.goto (-55), 3) := by decide +kernel
theorem dX1_reckonBadges_60 : decode cX1_reckonBadges 60 = .ok (.return_, 1) := by decide +kernel
theorem dX1_dayAfterBefore_0 : decode cX1_dayAfterBefore 0 = .ok (.aload_n 1, 1) := by decide +kernel
theorem dX1_dayAfterBefore_1 : decode cX1_dayAfterBefore 1 = .ok (.getfield 84, 3) := by decide +kernel
theorem dX1_dayAfterBefore_4 : decode cX1_dayAfterBefore 4 = .ok (.iconst (-1), 1) := by decide +kernel
theorem dX1_dayAfterBefore_5 : decode cX1_dayAfterBefore 5 = .ok (.if_icmp .ne 5, 3) := by decide +kernel
theorem dX1_dayAfterBefore_8 : decode cX1_dayAfterBefore 8 = .ok (.iconst 0, 1) := by decide +kernel
theorem dX1_dayAfterBefore_9 : decode cX1_dayAfterBefore 9 = .ok (.ireturn, 1) := by decide +kernel
theorem dX1_dayAfterBefore_10 : decode cX1_dayAfterBefore 10 = .ok (.aload_n 0, 1) := by decide +kernel
theorem dX1_dayAfterBefore_11 : decode cX1_dayAfterBefore 11 = .ok (.aload_n 1, 1) := by decide +kernel
theorem dX1_dayAfterBefore_12 : decode cX1_dayAfterBefore 12 = .ok (.getfield 84, 3) := by decide +kernel
theorem dX1_dayAfterBefore_15 : decode cX1_dayAfterBefore 15 = .ok (.invokevirtual 60, 3) := by decide +kernel
theorem dX1_dayAfterBefore_18 : decode cX1_dayAfterBefore 18 = .ok (.istore_n 2, 1) := by decide +kernel
theorem dX1_dayAfterBefore_19 : decode cX1_dayAfterBefore 19 = .ok (.iload_n 2, 1) := by decide +kernel
theorem dX1_dayAfterBefore_20 : decode cX1_dayAfterBefore 20 = .ok (.ldc 56, 2) := by decide +kernel
theorem dX1_dayAfterBefore_22 : decode cX1_dayAfterBefore 22 = .ok (.if_icmp .ne 8, 3) := by decide +kernel
theorem dX1_dayAfterBefore_25 : decode cX1_dayAfterBefore 25 = .ok (.ldc 56, 2) := by decide +kernel
theorem dX1_dayAfterBefore_27 : decode cX1_dayAfterBefore 27 = .ok (.goto 9, 3) := by decide +kernel
theorem dX1_dayAfterBefore_30 : decode cX1_dayAfterBefore 30 = .ok (.iload_n 2, 1) := by decide +kernel
theorem dX1_dayAfterBefore_31 : decode cX1_dayAfterBefore 31 = .ok (.aload_n 1, 1) := by decide +kernel
theorem dX1_dayAfterBefore_32 : decode cX1_dayAfterBefore 32 = .ok (.getfield 89, 3) := by decide +kernel
theorem dX1_dayAfterBefore_35 : decode cX1_dayAfterBefore 35 = .ok (.iadd, 1) := by decide +kernel
theorem dX1_dayAfterBefore_36 : decode cX1_dayAfterBefore 36 = .ok (.ireturn, 1) := by decide +kernel
theorem dX1_dayProven_0 : decode cX1_dayProven 0 = .ok (.iconst 0, 1) := by decide +kernel
theorem dX1_dayProven_1 : decode cX1_dayProven 1 = .ok (.istore_n 2, 1) := by decide +kernel
theorem dX1_dayProven_2 : decode cX1_dayProven 2 = .ok (.aload_n 1, 1) := by decide +kernel
theorem dX1_dayProven_3 : decode cX1_dayProven 3 = .ok (.getfield 92, 3) := by decide +kernel
theorem dX1_dayProven_6 : decode cX1_dayProven 6 = .ok (.istore_n 3, 1) := by decide +kernel
theorem dX1_dayProven_7 : decode cX1_dayProven 7 = .ok (.aload_n 1, 1) := by decide +kernel
theorem dX1_dayProven_8 : decode cX1_dayProven 8 = .ok (.getfield 95, 3) := by decide +kernel
theorem dX1_dayProven_11 : decode cX1_dayProven 11 = .ok (.istore 4, 2) := by decide +kernel
theorem dX1_dayProven_13 : decode cX1_dayProven 13 = .ok (.iconst 0, 1) := by decide +kernel
theorem dX1_dayProven_14 : decode cX1_dayProven 14 = .ok (.istore 5, 2) := by decide +kernel
theorem dX1_dayProven_16 : decode cX1_dayProven 16 = .ok (.iload 5, 2) := by decide +kernel
theorem dX1_dayProven_18 : decode cX1_dayProven 18 = .ok (.aload_n 0, 1) := by decide +kernel
theorem dX1_dayProven_19 : decode cX1_dayProven 19 = .ok (.getfield 46, 3) := by decide +kernel
theorem dX1_dayProven_22 : decode cX1_dayProven 22 = .ok (.if_icmp .ge 91, 3) := by decide +kernel
theorem dX1_dayProven_25 : decode cX1_dayProven 25 = .ok (.iload 5, 2) := by decide +kernel
theorem dX1_dayProven_27 : decode cX1_dayProven 27 = .ok (.aload_n 0, 1) := by decide +kernel
theorem dX1_dayProven_28 : decode cX1_dayProven 28 = .ok (.getfield 24, 3) := by decide +kernel
theorem dX1_dayProven_31 : decode cX1_dayProven 31 = .ok (.arraylength, 1) := by decide +kernel
theorem dX1_dayProven_32 : decode cX1_dayProven 32 = .ok (.if_icmp .ge 81, 3) := by decide +kernel
theorem dX1_dayProven_35 : decode cX1_dayProven 35 = .ok (.iload 5, 2) := by decide +kernel
theorem dX1_dayProven_37 : decode cX1_dayProven 37 = .ok (.aload_n 0, 1) := by decide +kernel
theorem dX1_dayProven_38 : decode cX1_dayProven 38 = .ok (.getfield 28, 3) := by decide +kernel
theorem dX1_dayProven_41 : decode cX1_dayProven 41 = .ok (.arraylength, 1) := by decide +kernel
theorem dX1_dayProven_42 : decode cX1_dayProven 42 = .ok (.if_icmp .ge 71, 3) := by decide +kernel
theorem dX1_dayProven_45 : decode cX1_dayProven 45 = .ok (.iconst 1, 1) := by decide +kernel
theorem dX1_dayProven_46 : decode cX1_dayProven 46 = .ok (.aload_n 0, 1) := by decide +kernel
theorem dX1_dayProven_47 : decode cX1_dayProven 47 = .ok (.getfield 24, 3) := by decide +kernel
theorem dX1_dayProven_50 : decode cX1_dayProven 50 = .ok (.iload 5, 2) := by decide +kernel
theorem dX1_dayProven_52 : decode cX1_dayProven 52 = .ok (.iaload, 1) := by decide +kernel
theorem dX1_dayProven_53 : decode cX1_dayProven 53 = .ok (.ishl, 1) := by decide +kernel
theorem dX1_dayProven_54 : decode cX1_dayProven 54 = .ok (.istore 6, 2) := by decide +kernel
theorem dX1_dayProven_56 : decode cX1_dayProven 56 = .ok (.iload_n 3, 1) := by decide +kernel
theorem dX1_dayProven_57 : decode cX1_dayProven 57 = .ok (.iload 6, 2) := by decide +kernel
theorem dX1_dayProven_59 : decode cX1_dayProven 59 = .ok (.iand, 1) := by decide +kernel
theorem dX1_dayProven_60 : decode cX1_dayProven 60 = .ok (.ifCond .eq 21, 3) := by decide +kernel
theorem dX1_dayProven_63 : decode cX1_dayProven 63 = .ok (.iload_n 3, 1) := by decide +kernel
theorem dX1_dayProven_64 : decode cX1_dayProven 64 = .ok (.iload 6, 2) := by decide +kernel
theorem dX1_dayProven_66 : decode cX1_dayProven 66 = .ok (.iconst (-1), 1) := by decide +kernel
theorem dX1_dayProven_67 : decode cX1_dayProven 67 = .ok (.ixor, 1) := by decide +kernel
theorem dX1_dayProven_68 : decode cX1_dayProven 68 = .ok (.iand, 1) := by decide +kernel
theorem dX1_dayProven_69 : decode cX1_dayProven 69 = .ok (.istore_n 3, 1) := by decide +kernel
theorem dX1_dayProven_70 : decode cX1_dayProven 70 = .ok (.aload_n 0, 1) := by decide +kernel
theorem dX1_dayProven_71 : decode cX1_dayProven 71 = .ok (.getfield 28, 3) := by decide +kernel
theorem dX1_dayProven_74 : decode cX1_dayProven 74 = .ok (.iload 5, 2) := by decide +kernel
theorem dX1_dayProven_76 : decode cX1_dayProven 76 = .ok (.iaload, 1) := by decide +kernel
theorem dX1_dayProven_77 : decode cX1_dayProven 77 = .ok (.istore_n 2, 1) := by decide +kernel
theorem dX1_dayProven_78 : decode cX1_dayProven 78 = .ok (.goto 29, 3) := by decide +kernel
theorem dX1_dayProven_81 : decode cX1_dayProven 81 = .ok (.aload_n 1, 1) := by decide +kernel
theorem dX1_dayProven_82 : decode cX1_dayProven 82 = .ok (.getfield 98, 3) := by decide +kernel
theorem dX1_dayProven_85 : decode cX1_dayProven 85 = .ok (.iload 6, 2) := by decide +kernel
theorem dX1_dayProven_87 : decode cX1_dayProven 87 = .ok (.iand, 1) := by decide +kernel
theorem dX1_dayProven_88 : decode cX1_dayProven 88 = .ok (.ifCond .eq 19, 3) := by decide +kernel
theorem dX1_dayProven_91 : decode cX1_dayProven 91 = .ok (.iload 4, 2) := by decide +kernel
theorem dX1_dayProven_93 : decode cX1_dayProven 93 = .ok (.ifCond .le 14, 3) := by decide +kernel
theorem dX1_dayProven_96 : decode cX1_dayProven 96 = .ok (.iinc 4 (-1), 3) := by decide +kernel
theorem dX1_dayProven_99 : decode cX1_dayProven 99 = .ok (.aload_n 0, 1) := by decide +kernel
theorem dX1_dayProven_100 : decode cX1_dayProven 100 = .ok (.getfield 28, 3) := by decide +kernel
theorem dX1_dayProven_103 : decode cX1_dayProven 103 = .ok (.iload 5, 2) := by decide +kernel
theorem dX1_dayProven_105 : decode cX1_dayProven 105 = .ok (.iaload, 1) := by decide +kernel
theorem dX1_dayProven_106 : decode cX1_dayProven 106 = .ok (.istore_n 2, 1) := by decide +kernel
theorem dX1_dayProven_107 : decode cX1_dayProven 107 = .ok (.iinc 5 1, 3) := by decide +kernel
theorem dX1_dayProven_110 : decode cX1_dayProven 110 = .ok (.goto (-94), 3) := by decide +kernel
theorem dX1_dayProven_113 : decode cX1_dayProven 113 = .ok (.iload_n 3, 1) := by decide +kernel
theorem dX1_dayProven_114 : decode cX1_dayProven 114 = .ok (.ifCond .ne 12, 3) := by decide +kernel
theorem dX1_dayProven_117 : decode cX1_dayProven 117 = .ok (.iload 4, 2) := by decide +kernel
theorem dX1_dayProven_119 : decode cX1_dayProven 119 = .ok (.ifCond .ne 7, 3) := by decide +kernel
theorem dX1_dayProven_122 : decode cX1_dayProven 122 = .ok (.iload_n 2, 1) := by decide +kernel
theorem dX1_dayProven_123 : decode cX1_dayProven 123 = .ok (.goto 5, 3) := by decide +kernel
theorem dX1_dayProven_126 : decode cX1_dayProven 126 = .ok (.ldc 56, 2) := by decide +kernel
theorem dX1_dayProven_128 : decode cX1_dayProven 128 = .ok (.ireturn, 1) := by decide +kernel
theorem dX2_init_0 : decode cX2_init 0 = .ok (.aload_n 0, 1) := by decide +kernel
theorem dX2_init_1 : decode cX2_init 1 = .ok (.invokespecial 3, 3) := by decide +kernel
theorem dX2_init_4 : decode cX2_init 4 = .ok (.aload_n 0, 1) := by decide +kernel
theorem dX2_init_5 : decode cX2_init 5 = .ok (.ldc 9, 2) := by decide +kernel
theorem dX2_init_7 : decode cX2_init 7 = .ok (.putfield 10, 3) := by decide +kernel
theorem dX2_init_10 : decode cX2_init 10 = .ok (.aload_n 0, 1) := by decide +kernel
theorem dX2_init_11 : decode cX2_init 11 = .ok (.aload_n 1, 1) := by decide +kernel
theorem dX2_init_12 : decode cX2_init 12 = .ok (.putfield 16, 3) := by decide +kernel
theorem dX2_init_15 : decode cX2_init 15 = .ok (.aload_n 0, 1) := by decide +kernel
theorem dX2_init_16 : decode cX2_init 16 = .ok (.iload_n 2, 1) := by decide +kernel
theorem dX2_init_17 : decode cX2_init 17 = .ok (.putfield 20, 3) := by decide +kernel
theorem dX2_init_20 : decode cX2_init 20 = .ok (.return_, 1) := by decide +kernel
theorem dX2_isHeldOn_0 : decode cX2_isHeldOn 0 = .ok (.aload_n 0, 1) := by decide +kernel
theorem dX2_isHeldOn_1 : decode cX2_isHeldOn 1 = .ok (.getfield 10, 3) := by decide +kernel
theorem dX2_isHeldOn_4 : decode cX2_isHeldOn 4 = .ok (.iload_n 1, 1) := by decide +kernel
theorem dX2_isHeldOn_5 : decode cX2_isHeldOn 5 = .ok (.if_icmp .gt 33, 3) := by decide +kernel
theorem dX2_isHeldOn_8 : decode cX2_isHeldOn 8 = .ok (.aload_n 0, 1) := by decide +kernel
theorem dX2_isHeldOn_9 : decode cX2_isHeldOn 9 = .ok (.getfield 16, 3) := by decide +kernel
theorem dX2_isHeldOn_12 : decode cX2_isHeldOn 12 = .ok (.getfield 23, 3) := by decide +kernel
theorem dX2_isHeldOn_15 : decode cX2_isHeldOn 15 = .ok (.ifCond .eq 19, 3) := by decide +kernel
theorem dX2_isHeldOn_18 : decode cX2_isHeldOn 18 = .ok (.iload_n 1, 1) := by decide +kernel
theorem dX2_isHeldOn_19 : decode cX2_isHeldOn 19 = .ok (.aload_n 0, 1) := by decide +kernel
theorem dX2_isHeldOn_20 : decode cX2_isHeldOn 20 = .ok (.getfield 10, 3) := by decide +kernel
theorem dX2_isHeldOn_23 : decode cX2_isHeldOn 23 = .ok (.isub, 1) := by decide +kernel
theorem dX2_isHeldOn_24 : decode cX2_isHeldOn 24 = .ok (.aload_n 0, 1) := by decide +kernel
theorem dX2_isHeldOn_25 : decode cX2_isHeldOn 25 = .ok (.getfield 16, 3) := by decide +kernel
theorem dX2_isHeldOn_28 : decode cX2_isHeldOn 28 = .ok (.getfield 23, 3) := by decide +kernel
theorem dX2_isHeldOn_31 : decode cX2_isHeldOn 31 = .ok (.if_icmp .ge 7, 3) := by decide +kernel
theorem dX2_isHeldOn_34 : decode cX2_isHeldOn 34 = .ok (.iconst 1, 1) := by decide +kernel
theorem dX2_isHeldOn_35 : decode cX2_isHeldOn 35 = .ok (.goto 4, 3) := by decide +kernel
theorem dX2_isHeldOn_38 : decode cX2_isHeldOn 38 = .ok (.iconst 0, 1) := by decide +kernel
theorem dX2_isHeldOn_39 : decode cX2_isHeldOn 39 = .ok (.ireturn, 1) := by decide +kernel
theorem dX3_init_0 : decode cX3_init 0 = .ok (.aload_n 0, 1) := by decide +kernel
theorem dX3_init_1 : decode cX3_init 1 = .ok (.invokespecial 1, 3) := by decide +kernel
theorem dX3_init_4 : decode cX3_init 4 = .ok (.aload_n 0, 1) := by decide +kernel
theorem dX3_init_5 : decode cX3_init 5 = .ok (.iload_n 1, 1) := by decide +kernel
theorem dX3_init_6 : decode cX3_init 6 = .ok (.putfield 7, 3) := by decide +kernel
theorem dX3_init_9 : decode cX3_init 9 = .ok (.aload_n 0, 1) := by decide +kernel
theorem dX3_init_10 : decode cX3_init 10 = .ok (.iload_n 2, 1) := by decide +kernel
theorem dX3_init_11 : decode cX3_init 11 = .ok (.putfield 13, 3) := by decide +kernel
theorem dX3_init_14 : decode cX3_init 14 = .ok (.aload_n 0, 1) := by decide +kernel
theorem dX3_init_15 : decode cX3_init 15 = .ok (.iload_n 3, 1) := by decide +kernel
theorem dX3_init_16 : decode cX3_init 16 = .ok (.putfield 16, 3) := by decide +kernel
theorem dX3_init_19 : decode cX3_init 19 = .ok (.aload_n 0, 1) := by decide +kernel
theorem dX3_init_20 : decode cX3_init 20 = .ok (.iload 4, 2) := by decide +kernel
theorem dX3_init_22 : decode cX3_init 22 = .ok (.putfield 19, 3) := by decide +kernel
theorem dX3_init_25 : decode cX3_init 25 = .ok (.aload_n 0, 1) := by decide +kernel
theorem dX3_init_26 : decode cX3_init 26 = .ok (.iload 5, 2) := by decide +kernel
theorem dX3_init_28 : decode cX3_init 28 = .ok (.putfield 22, 3) := by decide +kernel
theorem dX3_init_31 : decode cX3_init 31 = .ok (.aload_n 0, 1) := by decide +kernel
theorem dX3_init_32 : decode cX3_init 32 = .ok (.iload 6, 2) := by decide +kernel
theorem dX3_init_34 : decode cX3_init 34 = .ok (.putfield 25, 3) := by decide +kernel
theorem dX3_init_37 : decode cX3_init 37 = .ok (.return_, 1) := by decide +kernel
theorem dX4_init_0 : decode cX4_init 0 = .ok (.aload_n 0, 1) := by decide +kernel
theorem dX4_init_1 : decode cX4_init 1 = .ok (.invokespecial 1, 3) := by decide +kernel
theorem dX4_init_4 : decode cX4_init 4 = .ok (.aload_n 0, 1) := by decide +kernel
theorem dX4_init_5 : decode cX4_init 5 = .ok (.iload_n 1, 1) := by decide +kernel
theorem dX4_init_6 : decode cX4_init 6 = .ok (.putfield 7, 3) := by decide +kernel
theorem dX4_init_9 : decode cX4_init 9 = .ok (.aload_n 0, 1) := by decide +kernel
theorem dX4_init_10 : decode cX4_init 10 = .ok (.iload_n 2, 1) := by decide +kernel
theorem dX4_init_11 : decode cX4_init 11 = .ok (.putfield 13, 3) := by decide +kernel
theorem dX4_init_14 : decode cX4_init 14 = .ok (.aload_n 0, 1) := by decide +kernel
theorem dX4_init_15 : decode cX4_init 15 = .ok (.iload_n 3, 1) := by decide +kernel
theorem dX4_init_16 : decode cX4_init 16 = .ok (.putfield 16, 3) := by decide +kernel
theorem dX4_init_19 : decode cX4_init 19 = .ok (.aload_n 0, 1) := by decide +kernel
theorem dX4_init_20 : decode cX4_init 20 = .ok (.iload 4, 2) := by decide +kernel
theorem dX4_init_22 : decode cX4_init 22 = .ok (.putfield 19, 3) := by decide +kernel
theorem dX4_init_25 : decode cX4_init 25 = .ok (.aload_n 0, 1) := by decide +kernel
theorem dX4_init_26 : decode cX4_init 26 = .ok (.iload 5, 2) := by decide +kernel
theorem dX4_init_28 : decode cX4_init 28 = .ok (.putfield 22, 3) := by decide +kernel
theorem dX4_init_31 : decode cX4_init 31 = .ok (.aload_n 0, 1) := by decide +kernel
theorem dX4_init_32 : decode cX4_init 32 = .ok (.iload 5, 2) := by decide +kernel
theorem dX4_init_34 : decode cX4_init 34 = .ok (.iload 6, 2) := by decide +kernel
theorem dX4_init_36 : decode cX4_init 36 = .ok (.iadd, 1) := by decide +kernel
theorem dX4_init_37 : decode cX4_init 37 = .ok (.putfield 25, 3) := by decide +kernel
theorem dX4_init_40 : decode cX4_init 40 = .ok (.return_, 1) := by decide +kernel
theorem dX4_goesOn_0 : decode cX4_goesOn 0 = .ok (.aload_n 0, 1) := by decide +kernel
theorem dX4_goesOn_1 : decode cX4_goesOn 1 = .ok (.getfield 19, 3) := by decide +kernel
theorem dX4_goesOn_4 : decode cX4_goesOn 4 = .ok (.iload_n 1, 1) := by decide +kernel
theorem dX4_goesOn_5 : decode cX4_goesOn 5 = .ok (.if_icmp .ne 23, 3) := by decide +kernel
theorem dX4_goesOn_8 : decode cX4_goesOn 8 = .ok (.aload_n 0, 1) := by decide +kernel
theorem dX4_goesOn_9 : decode cX4_goesOn 9 = .ok (.getfield 22, 3) := by decide +kernel
theorem dX4_goesOn_12 : decode cX4_goesOn 12 = .ok (.iload_n 2, 1) := by decide +kernel
theorem dX4_goesOn_13 : decode cX4_goesOn 13 = .ok (.if_icmp .gt 15, 3) := by decide +kernel
theorem dX4_goesOn_16 : decode cX4_goesOn 16 = .ok (.iload_n 2, 1) := by decide +kernel
theorem dX4_goesOn_17 : decode cX4_goesOn 17 = .ok (.aload_n 0, 1) := by decide +kernel
theorem dX4_goesOn_18 : decode cX4_goesOn 18 = .ok (.getfield 25, 3) := by decide +kernel
theorem dX4_goesOn_21 : decode cX4_goesOn 21 = .ok (.if_icmp .ge 7, 3) := by decide +kernel
theorem dX4_goesOn_24 : decode cX4_goesOn 24 = .ok (.iconst 1, 1) := by decide +kernel
theorem dX4_goesOn_25 : decode cX4_goesOn 25 = .ok (.goto 4, 3) := by decide +kernel
theorem dX4_goesOn_28 : decode cX4_goesOn 28 = .ok (.iconst 0, 1) := by decide +kernel
theorem dX4_goesOn_29 : decode cX4_goesOn 29 = .ok (.ireturn, 1) := by decide +kernel
theorem dX4_meets_0 : decode cX4_meets 0 = .ok (.aload_n 0, 1) := by decide +kernel
theorem dX4_meets_1 : decode cX4_meets 1 = .ok (.getfield 19, 3) := by decide +kernel
theorem dX4_meets_4 : decode cX4_meets 4 = .ok (.aload_n 1, 1) := by decide +kernel
theorem dX4_meets_5 : decode cX4_meets 5 = .ok (.getfield 19, 3) := by decide +kernel
theorem dX4_meets_8 : decode cX4_meets 8 = .ok (.if_icmp .ne 29, 3) := by decide +kernel
theorem dX4_meets_11 : decode cX4_meets 11 = .ok (.aload_n 0, 1) := by decide +kernel
theorem dX4_meets_12 : decode cX4_meets 12 = .ok (.getfield 22, 3) := by decide +kernel
theorem dX4_meets_15 : decode cX4_meets 15 = .ok (.aload_n 1, 1) := by decide +kernel
theorem dX4_meets_16 : decode cX4_meets 16 = .ok (.getfield 25, 3) := by decide +kernel
theorem dX4_meets_19 : decode cX4_meets 19 = .ok (.if_icmp .ge 18, 3) := by decide +kernel
theorem dX4_meets_22 : decode cX4_meets 22 = .ok (.aload_n 1, 1) := by decide +kernel
theorem dX4_meets_23 : decode cX4_meets 23 = .ok (.getfield 22, 3) := by decide +kernel
theorem dX4_meets_26 : decode cX4_meets 26 = .ok (.aload_n 0, 1) := by decide +kernel
theorem dX4_meets_27 : decode cX4_meets 27 = .ok (.getfield 25, 3) := by decide +kernel
theorem dX4_meets_30 : decode cX4_meets 30 = .ok (.if_icmp .ge 7, 3) := by decide +kernel
theorem dX4_meets_33 : decode cX4_meets 33 = .ok (.iconst 1, 1) := by decide +kernel
theorem dX4_meets_34 : decode cX4_meets 34 = .ok (.goto 4, 3) := by decide +kernel
theorem dX4_meets_37 : decode cX4_meets 37 = .ok (.iconst 0, 1) := by decide +kernel
theorem dX4_meets_38 : decode cX4_meets 38 = .ok (.ireturn, 1) := by decide +kernel
theorem dX5_init_0 : decode cX5_init 0 = .ok (.aload_n 0, 1) := by decide +kernel
theorem dX5_init_1 : decode cX5_init 1 = .ok (.invokespecial 3, 3) := by decide +kernel
theorem dX5_init_4 : decode cX5_init 4 = .ok (.aload_n 0, 1) := by decide +kernel
theorem dX5_init_5 : decode cX5_init 5 = .ok (.iconst 3, 1) := by decide +kernel
theorem dX5_init_6 : decode cX5_init 6 = .ok (.newarray .int, 2) := by decide +kernel
theorem dX5_init_8 : decode cX5_init 8 = .ok (.dup, 1) := by decide +kernel
theorem dX5_init_9 : decode cX5_init 9 = .ok (.iconst 0, 1) := by decide +kernel
theorem dX5_init_10 : decode cX5_init 10 = .ok (.iconst (-1), 1) := by decide +kernel
theorem dX5_init_11 : decode cX5_init 11 = .ok (.iastore, 1) := by decide +kernel
theorem dX5_init_12 : decode cX5_init 12 = .ok (.dup, 1) := by decide +kernel
theorem dX5_init_13 : decode cX5_init 13 = .ok (.iconst 1, 1) := by decide +kernel
theorem dX5_init_14 : decode cX5_init 14 = .ok (.iconst (-1), 1) := by decide +kernel
theorem dX5_init_15 : decode cX5_init 15 = .ok (.iastore, 1) := by decide +kernel
theorem dX5_init_16 : decode cX5_init 16 = .ok (.dup, 1) := by decide +kernel
theorem dX5_init_17 : decode cX5_init 17 = .ok (.iconst 2, 1) := by decide +kernel
theorem dX5_init_18 : decode cX5_init 18 = .ok (.iconst (-1), 1) := by decide +kernel
theorem dX5_init_19 : decode cX5_init 19 = .ok (.iastore, 1) := by decide +kernel
theorem dX5_init_20 : decode cX5_init 20 = .ok (.putfield 9, 3) := by decide +kernel
theorem dX5_init_23 : decode cX5_init 23 = .ok (.aload_n 0, 1) := by decide +kernel
theorem dX5_init_24 : decode cX5_init 24 = .ok (.iconst 3, 1) := by decide +kernel
theorem dX5_init_25 : decode cX5_init 25 = .ok (.newarray .int, 2) := by decide +kernel
theorem dX5_init_27 : decode cX5_init 27 = .ok (.dup, 1) := by decide +kernel
theorem dX5_init_28 : decode cX5_init 28 = .ok (.iconst 0, 1) := by decide +kernel
theorem dX5_init_29 : decode cX5_init 29 = .ok (.iconst (-1), 1) := by decide +kernel
theorem dX5_init_30 : decode cX5_init 30 = .ok (.iastore, 1) := by decide +kernel
theorem dX5_init_31 : decode cX5_init 31 = .ok (.dup, 1) := by decide +kernel
theorem dX5_init_32 : decode cX5_init 32 = .ok (.iconst 1, 1) := by decide +kernel
theorem dX5_init_33 : decode cX5_init 33 = .ok (.iconst (-1), 1) := by decide +kernel
theorem dX5_init_34 : decode cX5_init 34 = .ok (.iastore, 1) := by decide +kernel
theorem dX5_init_35 : decode cX5_init 35 = .ok (.dup, 1) := by decide +kernel
theorem dX5_init_36 : decode cX5_init 36 = .ok (.iconst 2, 1) := by decide +kernel
theorem dX5_init_37 : decode cX5_init 37 = .ok (.iconst (-1), 1) := by decide +kernel
theorem dX5_init_38 : decode cX5_init 38 = .ok (.iastore, 1) := by decide +kernel
theorem dX5_init_39 : decode cX5_init 39 = .ok (.putfield 15, 3) := by decide +kernel
theorem dX5_init_42 : decode cX5_init 42 = .ok (.aload_n 0, 1) := by decide +kernel
theorem dX5_init_43 : decode cX5_init 43 = .ok (.iconst 4, 1) := by decide +kernel
theorem dX5_init_44 : decode cX5_init 44 = .ok (.newarray .int, 2) := by decide +kernel
theorem dX5_init_46 : decode cX5_init 46 = .ok (.dup, 1) := by decide +kernel
theorem dX5_init_47 : decode cX5_init 47 = .ok (.iconst 0, 1) := by decide +kernel
theorem dX5_init_48 : decode cX5_init 48 = .ok (.iconst (-1), 1) := by decide +kernel
theorem dX5_init_49 : decode cX5_init 49 = .ok (.iastore, 1) := by decide +kernel
theorem dX5_init_50 : decode cX5_init 50 = .ok (.dup, 1) := by decide +kernel
theorem dX5_init_51 : decode cX5_init 51 = .ok (.iconst 1, 1) := by decide +kernel
theorem dX5_init_52 : decode cX5_init 52 = .ok (.iconst (-1), 1) := by decide +kernel
theorem dX5_init_53 : decode cX5_init 53 = .ok (.iastore, 1) := by decide +kernel
theorem dX5_init_54 : decode cX5_init 54 = .ok (.dup, 1) := by decide +kernel
theorem dX5_init_55 : decode cX5_init 55 = .ok (.iconst 2, 1) := by decide +kernel
theorem dX5_init_56 : decode cX5_init 56 = .ok (.iconst (-1), 1) := by decide +kernel
theorem dX5_init_57 : decode cX5_init 57 = .ok (.iastore, 1) := by decide +kernel
theorem dX5_init_58 : decode cX5_init 58 = .ok (.dup, 1) := by decide +kernel
theorem dX5_init_59 : decode cX5_init 59 = .ok (.iconst 3, 1) := by decide +kernel
theorem dX5_init_60 : decode cX5_init 60 = .ok (.iconst (-1), 1) := by decide +kernel
theorem dX5_init_61 : decode cX5_init 61 = .ok (.iastore, 1) := by decide +kernel
theorem dX5_init_62 : decode cX5_init 62 = .ok (.putfield 18, 3) := by decide +kernel
theorem dX5_init_65 : decode cX5_init 65 = .ok (.return_, 1) := by decide +kernel
theorem dX5_setVetted_0 : decode cX5_setVetted 0 = .ok (.iload_n 1, 1) := by decide +kernel
theorem dX5_setVetted_1 : decode cX5_setVetted 1 = .ok (.ifCond .lt 35, 3) := by decide +kernel
theorem dX5_setVetted_4 : decode cX5_setVetted 4 = .ok (.iload_n 1, 1) := by decide +kernel
theorem dX5_setVetted_5 : decode cX5_setVetted 5 = .ok (.aload_n 0, 1) := by decide +kernel
theorem dX5_setVetted_6 : decode cX5_setVetted 6 = .ok (.getfield 9, 3) := by decide +kernel
theorem dX5_setVetted_9 : decode cX5_setVetted 9 = .ok (.arraylength, 1) := by decide +kernel
theorem dX5_setVetted_10 : decode cX5_setVetted 10 = .ok (.if_icmp .ge 26, 3) := by decide +kernel
theorem dX5_setVetted_13 : decode cX5_setVetted 13 = .ok (.iload_n 1, 1) := by decide +kernel
theorem dX5_setVetted_14 : decode cX5_setVetted 14 = .ok (.aload_n 0, 1) := by decide +kernel
theorem dX5_setVetted_15 : decode cX5_setVetted 15 = .ok (.getfield 15, 3) := by decide +kernel
theorem dX5_setVetted_18 : decode cX5_setVetted 18 = .ok (.arraylength, 1) := by decide +kernel
theorem dX5_setVetted_19 : decode cX5_setVetted 19 = .ok (.if_icmp .ge 17, 3) := by decide +kernel
theorem dX5_setVetted_22 : decode cX5_setVetted 22 = .ok (.aload_n 0, 1) := by decide +kernel
theorem dX5_setVetted_23 : decode cX5_setVetted 23 = .ok (.getfield 9, 3) := by decide +kernel
theorem dX5_setVetted_26 : decode cX5_setVetted 26 = .ok (.iload_n 1, 1) := by decide +kernel
theorem dX5_setVetted_27 : decode cX5_setVetted 27 = .ok (.iload_n 2, 1) := by decide +kernel
theorem dX5_setVetted_28 : decode cX5_setVetted 28 = .ok (.iastore, 1) := by decide +kernel
theorem dX5_setVetted_29 : decode cX5_setVetted 29 = .ok (.aload_n 0, 1) := by decide +kernel
theorem dX5_setVetted_30 : decode cX5_setVetted 30 = .ok (.getfield 15, 3) := by decide +kernel
theorem dX5_setVetted_33 : decode cX5_setVetted 33 = .ok (.iload_n 1, 1) := by decide +kernel
theorem dX5_setVetted_34 : decode cX5_setVetted 34 = .ok (.iload_n 3, 1) := by decide +kernel
theorem dX5_setVetted_35 : decode cX5_setVetted 35 = .ok (.iastore, 1) := by decide +kernel
theorem dX5_setVetted_36 : decode cX5_setVetted 36 = .ok (.return_, 1) := by decide +kernel
theorem dX5_isVetted_0 : decode cX5_isVetted 0 = .ok (.iload_n 1, 1) := by decide +kernel
theorem dX5_isVetted_1 : decode cX5_isVetted 1 = .ok (.ifCond .lt 45, 3) := by decide +kernel
theorem dX5_isVetted_4 : decode cX5_isVetted 4 = .ok (.iload_n 1, 1) := by decide +kernel
theorem dX5_isVetted_5 : decode cX5_isVetted 5 = .ok (.aload_n 0, 1) := by decide +kernel
theorem dX5_isVetted_6 : decode cX5_isVetted 6 = .ok (.getfield 9, 3) := by decide +kernel
theorem dX5_isVetted_9 : decode cX5_isVetted 9 = .ok (.arraylength, 1) := by decide +kernel
theorem dX5_isVetted_10 : decode cX5_isVetted 10 = .ok (.if_icmp .ge 36, 3) := by decide +kernel
theorem dX5_isVetted_13 : decode cX5_isVetted 13 = .ok (.iload_n 1, 1) := by decide +kernel
theorem dX5_isVetted_14 : decode cX5_isVetted 14 = .ok (.aload_n 0, 1) := by decide +kernel
theorem dX5_isVetted_15 : decode cX5_isVetted 15 = .ok (.getfield 15, 3) := by decide +kernel
theorem dX5_isVetted_18 : decode cX5_isVetted 18 = .ok (.arraylength, 1) := by decide +kernel
theorem dX5_isVetted_19 : decode cX5_isVetted 19 = .ok (.if_icmp .ge 27, 3) := by decide +kernel
theorem dX5_isVetted_22 : decode cX5_isVetted 22 = .ok (.iload_n 2, 1) := by decide +kernel
theorem dX5_isVetted_23 : decode cX5_isVetted 23 = .ok (.aload_n 0, 1) := by decide +kernel
theorem dX5_isVetted_24 : decode cX5_isVetted 24 = .ok (.getfield 9, 3) := by decide +kernel
theorem dX5_isVetted_27 : decode cX5_isVetted 27 = .ok (.iload_n 1, 1) := by decide +kernel
theorem dX5_isVetted_28 : decode cX5_isVetted 28 = .ok (.iaload, 1) := by decide +kernel
theorem dX5_isVetted_29 : decode cX5_isVetted 29 = .ok (.if_icmp .lt 17, 3) := by decide +kernel
theorem dX5_isVetted_32 : decode cX5_isVetted 32 = .ok (.iload_n 2, 1) := by decide +kernel
theorem dX5_isVetted_33 : decode cX5_isVetted 33 = .ok (.aload_n 0, 1) := by decide +kernel
theorem dX5_isVetted_34 : decode cX5_isVetted 34 = .ok (.getfield 15, 3) := by decide +kernel
theorem dX5_isVetted_37 : decode cX5_isVetted 37 = .ok (.iload_n 1, 1) := by decide +kernel
theorem dX5_isVetted_38 : decode cX5_isVetted 38 = .ok (.iaload, 1) := by decide +kernel
theorem dX5_isVetted_39 : decode cX5_isVetted 39 = .ok (.if_icmp .gt 7, 3) := by decide +kernel
theorem dX5_isVetted_42 : decode cX5_isVetted 42 = .ok (.iconst 1, 1) := by decide +kernel
theorem dX5_isVetted_43 : decode cX5_isVetted 43 = .ok (.goto 4, 3) := by decide +kernel
theorem dX5_isVetted_46 : decode cX5_isVetted 46 = .ok (.iconst 0, 1) := by decide +kernel
theorem dX5_isVetted_47 : decode cX5_isVetted 47 = .ok (.ireturn, 1) := by decide +kernel
theorem dX5_isVettedSomewhere_0 : decode cX5_isVettedSomewhere 0 = .ok (.iconst 0, 1) := by decide +kernel
theorem dX5_isVettedSomewhere_1 : decode cX5_isVettedSomewhere 1 = .ok (.istore_n 2, 1) := by decide +kernel
theorem dX5_isVettedSomewhere_2 : decode cX5_isVettedSomewhere 2 = .ok (.iload_n 2, 1) := by decide +kernel
theorem dX5_isVettedSomewhere_3 : decode cX5_isVettedSomewhere 3 = .ok (.iconst 3, 1) := by decide +kernel
theorem dX5_isVettedSomewhere_4 : decode cX5_isVettedSomewhere 4 = .ok (.if_icmp .ge 20, 3) := by decide +kernel
theorem dX5_isVettedSomewhere_7 : decode cX5_isVettedSomewhere 7 = .ok (.aload_n 0, 1) := by decide +kernel
theorem dX5_isVettedSomewhere_8 : decode cX5_isVettedSomewhere 8 = .ok (.iload_n 2, 1) := by decide +kernel
theorem dX5_isVettedSomewhere_9 : decode cX5_isVettedSomewhere 9 = .ok (.iload_n 1, 1) := by decide +kernel
theorem dX5_isVettedSomewhere_10 : decode cX5_isVettedSomewhere 10 = .ok (.invokevirtual 21, 3) := by decide +kernel
theorem dX5_isVettedSomewhere_13 : decode cX5_isVettedSomewhere 13 = .ok (.ifCond .eq 5, 3) := by decide +kernel
theorem dX5_isVettedSomewhere_16 : decode cX5_isVettedSomewhere 16 = .ok (.iconst 1, 1) := by decide +kernel
theorem dX5_isVettedSomewhere_17 : decode cX5_isVettedSomewhere 17 = .ok (.ireturn, 1) := by decide +kernel
theorem dX5_isVettedSomewhere_18 : decode cX5_isVettedSomewhere 18 = .ok (.iinc 2 1, 3) := by decide +kernel
theorem dX5_isVettedSomewhere_21 : decode cX5_isVettedSomewhere 21 = .ok (.goto (-19), 3) := by decide +kernel
theorem dX5_isVettedSomewhere_24 : decode cX5_isVettedSomewhere 24 = .ok (.iconst 0, 1) := by decide +kernel
theorem dX5_isVettedSomewhere_25 : decode cX5_isVettedSomewhere 25 = .ok (.ireturn, 1) := by decide +kernel
theorem dX5_setPermit_0 : decode cX5_setPermit 0 = .ok (.iload_n 1, 1) := by decide +kernel
theorem dX5_setPermit_1 : decode cX5_setPermit 1 = .ok (.ifCond .lt 19, 3) := by decide +kernel
theorem dX5_setPermit_4 : decode cX5_setPermit 4 = .ok (.iload_n 1, 1) := by decide +kernel
theorem dX5_setPermit_5 : decode cX5_setPermit 5 = .ok (.aload_n 0, 1) := by decide +kernel
theorem dX5_setPermit_6 : decode cX5_setPermit 6 = .ok (.getfield 18, 3) := by decide +kernel
theorem dX5_setPermit_9 : decode cX5_setPermit 9 = .ok (.arraylength, 1) := by decide +kernel
theorem dX5_setPermit_10 : decode cX5_setPermit 10 = .ok (.if_icmp .ge 10, 3) := by decide +kernel
theorem dX5_setPermit_13 : decode cX5_setPermit 13 = .ok (.aload_n 0, 1) := by decide +kernel
theorem dX5_setPermit_14 : decode cX5_setPermit 14 = .ok (.getfield 18, 3) := by decide +kernel
theorem dX5_setPermit_17 : decode cX5_setPermit 17 = .ok (.iload_n 1, 1) := by decide +kernel
theorem dX5_setPermit_18 : decode cX5_setPermit 18 = .ok (.iload_n 2, 1) := by decide +kernel
theorem dX5_setPermit_19 : decode cX5_setPermit 19 = .ok (.iastore, 1) := by decide +kernel
theorem dX5_setPermit_20 : decode cX5_setPermit 20 = .ok (.return_, 1) := by decide +kernel
theorem dX5_permitOf_0 : decode cX5_permitOf 0 = .ok (.iload_n 1, 1) := by decide +kernel
theorem dX5_permitOf_1 : decode cX5_permitOf 1 = .ok (.ifCond .lt 21, 3) := by decide +kernel
theorem dX5_permitOf_4 : decode cX5_permitOf 4 = .ok (.iload_n 1, 1) := by decide +kernel
theorem dX5_permitOf_5 : decode cX5_permitOf 5 = .ok (.aload_n 0, 1) := by decide +kernel
theorem dX5_permitOf_6 : decode cX5_permitOf 6 = .ok (.getfield 18, 3) := by decide +kernel
theorem dX5_permitOf_9 : decode cX5_permitOf 9 = .ok (.arraylength, 1) := by decide +kernel
theorem dX5_permitOf_10 : decode cX5_permitOf 10 = .ok (.if_icmp .ge 12, 3) := by decide +kernel
theorem dX5_permitOf_13 : decode cX5_permitOf 13 = .ok (.aload_n 0, 1) := by decide +kernel
theorem dX5_permitOf_14 : decode cX5_permitOf 14 = .ok (.getfield 18, 3) := by decide +kernel
theorem dX5_permitOf_17 : decode cX5_permitOf 17 = .ok (.iload_n 1, 1) := by decide +kernel
theorem dX5_permitOf_18 : decode cX5_permitOf 18 = .ok (.iaload, 1) := by decide +kernel
theorem dX5_permitOf_19 : decode cX5_permitOf 19 = .ok (.goto 4, 3) := by decide +kernel
theorem dX5_permitOf_22 : decode cX5_permitOf 22 = .ok (.iconst (-1), 1) := by decide +kernel
theorem dX5_permitOf_23 : decode cX5_permitOf 23 = .ok (.ireturn, 1) := by decide +kernel
theorem dX5_mayLead_0 : decode cX5_mayLead 0 = .ok (.iload_n 1, 1) := by decide +kernel
theorem dX5_mayLead_1 : decode cX5_mayLead 1 = .ok (.ifCond .eq 12, 3) := by decide +kernel
theorem dX5_mayLead_4 : decode cX5_mayLead 4 = .ok (.iload_n 2, 1) := by decide +kernel
theorem dX5_mayLead_5 : decode cX5_mayLead 5 = .ok (.aload_n 0, 1) := by decide +kernel
theorem dX5_mayLead_6 : decode cX5_mayLead 6 = .ok (.iload_n 1, 1) := by decide +kernel
theorem dX5_mayLead_7 : decode cX5_mayLead 7 = .ok (.invokevirtual 25, 3) := by decide +kernel
theorem dX5_mayLead_10 : decode cX5_mayLead 10 = .ok (.if_icmp .gt 7, 3) := by decide +kernel
theorem dX5_mayLead_13 : decode cX5_mayLead 13 = .ok (.iconst 1, 1) := by decide +kernel
theorem dX5_mayLead_14 : decode cX5_mayLead 14 = .ok (.goto 4, 3) := by decide +kernel
theorem dX5_mayLead_17 : decode cX5_mayLead 17 = .ok (.iconst 0, 1) := by decide +kernel
theorem dX5_mayLead_18 : decode cX5_mayLead 18 = .ok (.ireturn, 1) := by decide +kernel
theorem dX6_init_0 : decode cX6_init 0 = .ok (.aload_n 0, 1) := by decide +kernel
theorem dX6_init_1 : decode cX6_init 1 = .ok (.invokespecial 3, 3) := by decide +kernel
theorem dX6_init_4 : decode cX6_init 4 = .ok (.aload_n 0, 1) := by decide +kernel
theorem dX6_init_5 : decode cX6_init 5 = .ok (.iload_n 1, 1) := by decide +kernel
theorem dX6_init_6 : decode cX6_init 6 = .ok (.putfield 9, 3) := by decide +kernel
theorem dX6_init_9 : decode cX6_init 9 = .ok (.aload_n 0, 1) := by decide +kernel
theorem dX6_init_10 : decode cX6_init 10 = .ok (.iload_n 2, 1) := by decide +kernel
theorem dX6_init_11 : decode cX6_init 11 = .ok (.putfield 15, 3) := by decide +kernel
theorem dX6_init_14 : decode cX6_init 14 = .ok (.aload_n 0, 1) := by decide +kernel
theorem dX6_init_15 : decode cX6_init 15 = .ok (.iload_n 3, 1) := by decide +kernel
theorem dX6_init_16 : decode cX6_init 16 = .ok (.putfield 18, 3) := by decide +kernel
theorem dX6_init_19 : decode cX6_init 19 = .ok (.aload_n 0, 1) := by decide +kernel
theorem dX6_init_20 : decode cX6_init 20 = .ok (.iload 4, 2) := by decide +kernel
theorem dX6_init_22 : decode cX6_init 22 = .ok (.putfield 21, 3) := by decide +kernel
theorem dX6_init_25 : decode cX6_init 25 = .ok (.aload_n 0, 1) := by decide +kernel
theorem dX6_init_26 : decode cX6_init 26 = .ok (.iload_n 1, 1) := by decide +kernel
theorem dX6_init_27 : decode cX6_init 27 = .ok (.iload_n 2, 1) := by decide +kernel
theorem dX6_init_28 : decode cX6_init 28 = .ok (.invokestatic 24, 3) := by decide +kernel
theorem dX6_init_31 : decode cX6_init 31 = .ok (.putfield 28, 3) := by decide +kernel
theorem dX6_init_34 : decode cX6_init 34 = .ok (.return_, 1) := by decide +kernel
theorem dX6_leastLeaders_0 : decode cX6_leastLeaders 0 = .ok (.iload_n 0, 1) := by decide +kernel
theorem dX6_leastLeaders_1 : decode cX6_leastLeaders 1 = .ok (.iconst 1, 1) := by decide +kernel
theorem dX6_leastLeaders_2 : decode cX6_leastLeaders 2 = .ok (.if_icmp .ne 5, 3) := by decide +kernel
theorem dX6_leastLeaders_5 : decode cX6_leastLeaders 5 = .ok (.iconst 2, 1) := by decide +kernel
theorem dX6_leastLeaders_6 : decode cX6_leastLeaders 6 = .ok (.ireturn, 1) := by decide +kernel
theorem dX6_leastLeaders_7 : decode cX6_leastLeaders 7 = .ok (.iconst 0, 1) := by decide +kernel
theorem dX6_leastLeaders_8 : decode cX6_leastLeaders 8 = .ok (.istore_n 2, 1) := by decide +kernel
theorem dX6_leastLeaders_9 : decode cX6_leastLeaders 9 = .ok (.iload_n 2, 1) := by decide +kernel
theorem dX6_leastLeaders_10 : decode cX6_leastLeaders 10 = .ok (.iload_n 0, 1) := by decide +kernel
theorem dX6_leastLeaders_11 : decode cX6_leastLeaders 11 = .ok (.if_icmp .ge 18, 3) := by decide +kernel
theorem dX6_leastLeaders_14 : decode cX6_leastLeaders 14 = .ok (.iload_n 2, 1) := by decide +kernel
theorem dX6_leastLeaders_15 : decode cX6_leastLeaders 15 = .ok (.iload_n 1, 1) := by decide +kernel
theorem dX6_leastLeaders_16 : decode cX6_leastLeaders 16 = .ok (.imul, 1) := by decide +kernel
theorem dX6_leastLeaders_17 : decode cX6_leastLeaders 17 = .ok (.iload_n 0, 1) := by decide +kernel
theorem dX6_leastLeaders_18 : decode cX6_leastLeaders 18 = .ok (.if_icmp .lt 5, 3) := by decide +kernel
theorem dX6_leastLeaders_21 : decode cX6_leastLeaders 21 = .ok (.iload_n 2, 1) := by decide +kernel
theorem dX6_leastLeaders_22 : decode cX6_leastLeaders 22 = .ok (.ireturn, 1) := by decide +kernel
theorem dX6_leastLeaders_23 : decode cX6_leastLeaders 23 = .ok (.iinc 2 1, 3) := by decide +kernel
theorem dX6_leastLeaders_26 : decode cX6_leastLeaders 26 = .ok (.goto (-17), 3) := by decide +kernel
theorem dX6_leastLeaders_29 : decode cX6_leastLeaders 29 = .ok (.iload_n 0, 1) := by decide +kernel
theorem dX6_leastLeaders_30 : decode cX6_leastLeaders 30 = .ok (.ireturn, 1) := by decide +kernel
theorem dX6_verdict_0 : decode cX6_verdict 0 = .ok (.iload_n 1, 1) := by decide +kernel
theorem dX6_verdict_1 : decode cX6_verdict 1 = .ok (.invokestatic 31, 3) := by decide +kernel
theorem dX6_verdict_4 : decode cX6_verdict 4 = .ok (.istore_n 2, 1) := by decide +kernel
theorem dX6_verdict_5 : decode cX6_verdict 5 = .ok (.aload_n 0, 1) := by decide +kernel
theorem dX6_verdict_6 : decode cX6_verdict 6 = .ok (.getfield 9, 3) := by decide +kernel
theorem dX6_verdict_9 : decode cX6_verdict 9 = .ok (.ifCond .ne 5, 3) := by decide +kernel
theorem dX6_verdict_12 : decode cX6_verdict 12 = .ok (.iconst 0, 1) := by decide +kernel
theorem dX6_verdict_13 : decode cX6_verdict 13 = .ok (.ireturn, 1) := by decide +kernel
theorem dX6_verdict_14 : decode cX6_verdict 14 = .ok (.iload_n 2, 1) := by decide +kernel
theorem dX6_verdict_15 : decode cX6_verdict 15 = .ok (.aload_n 0, 1) := by decide +kernel
theorem dX6_verdict_16 : decode cX6_verdict 16 = .ok (.getfield 15, 3) := by decide +kernel
theorem dX6_verdict_19 : decode cX6_verdict 19 = .ok (.imul, 1) := by decide +kernel
theorem dX6_verdict_20 : decode cX6_verdict 20 = .ok (.aload_n 0, 1) := by decide +kernel
theorem dX6_verdict_21 : decode cX6_verdict 21 = .ok (.getfield 9, 3) := by decide +kernel
theorem dX6_verdict_24 : decode cX6_verdict 24 = .ok (.if_icmp .ge 5, 3) := by decide +kernel
theorem dX6_verdict_27 : decode cX6_verdict 27 = .ok (.iconst 1, 1) := by decide +kernel
theorem dX6_verdict_28 : decode cX6_verdict 28 = .ok (.ireturn, 1) := by decide +kernel
theorem dX6_verdict_29 : decode cX6_verdict 29 = .ok (.iload_n 1, 1) := by decide +kernel
theorem dX6_verdict_30 : decode cX6_verdict 30 = .ok (.aload_n 0, 1) := by decide +kernel
theorem dX6_verdict_31 : decode cX6_verdict 31 = .ok (.getfield 18, 3) := by decide +kernel
theorem dX6_verdict_34 : decode cX6_verdict 34 = .ok (.iconst (-1), 1) := by decide +kernel
theorem dX6_verdict_35 : decode cX6_verdict 35 = .ok (.ixor, 1) := by decide +kernel
theorem dX6_verdict_36 : decode cX6_verdict 36 = .ok (.iand, 1) := by decide +kernel
theorem dX6_verdict_37 : decode cX6_verdict 37 = .ok (.ifCond .eq 5, 3) := by decide +kernel
theorem dX6_verdict_40 : decode cX6_verdict 40 = .ok (.iconst 2, 1) := by decide +kernel
theorem dX6_verdict_41 : decode cX6_verdict 41 = .ok (.ireturn, 1) := by decide +kernel
theorem dX6_verdict_42 : decode cX6_verdict 42 = .ok (.iload_n 1, 1) := by decide +kernel
theorem dX6_verdict_43 : decode cX6_verdict 43 = .ok (.aload_n 0, 1) := by decide +kernel
theorem dX6_verdict_44 : decode cX6_verdict 44 = .ok (.getfield 21, 3) := by decide +kernel
theorem dX6_verdict_47 : decode cX6_verdict 47 = .ok (.iand, 1) := by decide +kernel
theorem dX6_verdict_48 : decode cX6_verdict 48 = .ok (.ifCond .ne 5, 3) := by decide +kernel
theorem dX6_verdict_51 : decode cX6_verdict 51 = .ok (.iconst 3, 1) := by decide +kernel
theorem dX6_verdict_52 : decode cX6_verdict 52 = .ok (.ireturn, 1) := by decide +kernel
theorem dX6_verdict_53 : decode cX6_verdict 53 = .ok (.iload_n 2, 1) := by decide +kernel
theorem dX6_verdict_54 : decode cX6_verdict 54 = .ok (.iconst 1, 1) := by decide +kernel
theorem dX6_verdict_55 : decode cX6_verdict 55 = .ok (.if_icmp .ne 15, 3) := by decide +kernel
theorem dX6_verdict_58 : decode cX6_verdict 58 = .ok (.aload_n 0, 1) := by decide +kernel
theorem dX6_verdict_59 : decode cX6_verdict 59 = .ok (.getfield 9, 3) := by decide +kernel
theorem dX6_verdict_62 : decode cX6_verdict 62 = .ok (.iconst 1, 1) := by decide +kernel
theorem dX6_verdict_63 : decode cX6_verdict 63 = .ok (.if_icmp .ne 7, 3) := by decide +kernel
theorem dX6_verdict_66 : decode cX6_verdict 66 = .ok (.iconst 4, 1) := by decide +kernel
theorem dX6_verdict_67 : decode cX6_verdict 67 = .ok (.goto 4, 3) := by decide +kernel
theorem dX6_verdict_70 : decode cX6_verdict 70 = .ok (.iconst 0, 1) := by decide +kernel
theorem dX6_verdict_71 : decode cX6_verdict 71 = .ok (.ireturn, 1) := by decide +kernel
theorem dX7_init_0 : decode cX7_init 0 = .ok (.aload_n 0, 1) := by decide +kernel
theorem dX7_init_1 : decode cX7_init 1 = .ok (.invokespecial 1, 3) := by decide +kernel
theorem dX7_init_4 : decode cX7_init 4 = .ok (.aload_n 0, 1) := by decide +kernel
theorem dX7_init_5 : decode cX7_init 5 = .ok (.iload_n 1, 1) := by decide +kernel
theorem dX7_init_6 : decode cX7_init 6 = .ok (.putfield 7, 3) := by decide +kernel
theorem dX7_init_9 : decode cX7_init 9 = .ok (.aload_n 0, 1) := by decide +kernel
theorem dX7_init_10 : decode cX7_init 10 = .ok (.iload_n 2, 1) := by decide +kernel
theorem dX7_init_11 : decode cX7_init 11 = .ok (.putfield 13, 3) := by decide +kernel
theorem dX7_init_14 : decode cX7_init 14 = .ok (.aload_n 0, 1) := by decide +kernel
theorem dX7_init_15 : decode cX7_init 15 = .ok (.iload_n 3, 1) := by decide +kernel
theorem dX7_init_16 : decode cX7_init 16 = .ok (.putfield 16, 3) := by decide +kernel
theorem dX7_init_19 : decode cX7_init 19 = .ok (.aload_n 0, 1) := by decide +kernel
theorem dX7_init_20 : decode cX7_init 20 = .ok (.iload 4, 2) := by decide +kernel
theorem dX7_init_22 : decode cX7_init 22 = .ok (.putfield 19, 3) := by decide +kernel
theorem dX7_init_25 : decode cX7_init 25 = .ok (.return_, 1) := by decide +kernel
theorem dX7_isFor_0 : decode cX7_isFor 0 = .ok (.iload_n 1, 1) := by decide +kernel
theorem dX7_isFor_1 : decode cX7_isFor 1 = .ok (.aload_n 0, 1) := by decide +kernel
theorem dX7_isFor_2 : decode cX7_isFor 2 = .ok (.getfield 13, 3) := by decide +kernel
theorem dX7_isFor_5 : decode cX7_isFor 5 = .ok (.if_icmp .lt 15, 3) := by decide +kernel
theorem dX7_isFor_8 : decode cX7_isFor 8 = .ok (.iload_n 1, 1) := by decide +kernel
theorem dX7_isFor_9 : decode cX7_isFor 9 = .ok (.aload_n 0, 1) := by decide +kernel
theorem dX7_isFor_10 : decode cX7_isFor 10 = .ok (.getfield 16, 3) := by decide +kernel
theorem dX7_isFor_13 : decode cX7_isFor 13 = .ok (.if_icmp .gt 7, 3) := by decide +kernel
theorem dX7_isFor_16 : decode cX7_isFor 16 = .ok (.iconst 1, 1) := by decide +kernel
theorem dX7_isFor_17 : decode cX7_isFor 17 = .ok (.goto 4, 3) := by decide +kernel
theorem dX7_isFor_20 : decode cX7_isFor 20 = .ok (.iconst 0, 1) := by decide +kernel
theorem dX7_isFor_21 : decode cX7_isFor 21 = .ok (.ireturn, 1) := by decide +kernel
theorem dJ6_bitCount_0f7a4_0 : decode cJ6_bitCount_0f7a4 0 = .ok (.iload_n 0, 1) := by decide +kernel
theorem dJ6_bitCount_0f7a4_1 : decode cJ6_bitCount_0f7a4 1 = .ok (.iload_n 0, 1) := by decide +kernel
theorem dJ6_bitCount_0f7a4_2 : decode cJ6_bitCount_0f7a4 2 = .ok (.iconst 1, 1) := by decide +kernel
theorem dJ6_bitCount_0f7a4_3 : decode cJ6_bitCount_0f7a4 3 = .ok (.iushr, 1) := by decide +kernel
theorem dJ6_bitCount_0f7a4_4 : decode cJ6_bitCount_0f7a4 4 = .ok (.ldc_w 265, 3) := by decide +kernel
theorem dJ6_bitCount_0f7a4_7 : decode cJ6_bitCount_0f7a4 7 = .ok (.iand, 1) := by decide +kernel
theorem dJ6_bitCount_0f7a4_8 : decode cJ6_bitCount_0f7a4 8 = .ok (.isub, 1) := by decide +kernel
theorem dJ6_bitCount_0f7a4_9 : decode cJ6_bitCount_0f7a4 9 = .ok (.istore_n 0, 1) := by decide +kernel
theorem dJ6_bitCount_0f7a4_10 : decode cJ6_bitCount_0f7a4 10 = .ok (.iload_n 0, 1) := by decide +kernel
theorem dJ6_bitCount_0f7a4_11 : decode cJ6_bitCount_0f7a4 11 = .ok (.ldc_w 266, 3) := by decide +kernel
theorem dJ6_bitCount_0f7a4_14 : decode cJ6_bitCount_0f7a4 14 = .ok (.iand, 1) := by decide +kernel
theorem dJ6_bitCount_0f7a4_15 : decode cJ6_bitCount_0f7a4 15 = .ok (.iload_n 0, 1) := by decide +kernel
theorem dJ6_bitCount_0f7a4_16 : decode cJ6_bitCount_0f7a4 16 = .ok (.iconst 2, 1) := by decide +kernel
theorem dJ6_bitCount_0f7a4_17 : decode cJ6_bitCount_0f7a4 17 = .ok (.iushr, 1) := by decide +kernel
theorem dJ6_bitCount_0f7a4_18 : decode cJ6_bitCount_0f7a4 18 = .ok (.ldc_w 266, 3) := by decide +kernel
theorem dJ6_bitCount_0f7a4_21 : decode cJ6_bitCount_0f7a4 21 = .ok (.iand, 1) := by decide +kernel
theorem dJ6_bitCount_0f7a4_22 : decode cJ6_bitCount_0f7a4 22 = .ok (.iadd, 1) := by decide +kernel
theorem dJ6_bitCount_0f7a4_23 : decode cJ6_bitCount_0f7a4 23 = .ok (.istore_n 0, 1) := by decide +kernel
theorem dJ6_bitCount_0f7a4_24 : decode cJ6_bitCount_0f7a4 24 = .ok (.iload_n 0, 1) := by decide +kernel
theorem dJ6_bitCount_0f7a4_25 : decode cJ6_bitCount_0f7a4 25 = .ok (.iload_n 0, 1) := by decide +kernel
theorem dJ6_bitCount_0f7a4_26 : decode cJ6_bitCount_0f7a4 26 = .ok (.iconst 4, 1) := by decide +kernel
theorem dJ6_bitCount_0f7a4_27 : decode cJ6_bitCount_0f7a4 27 = .ok (.iushr, 1) := by decide +kernel
theorem dJ6_bitCount_0f7a4_28 : decode cJ6_bitCount_0f7a4 28 = .ok (.iadd, 1) := by decide +kernel
theorem dJ6_bitCount_0f7a4_29 : decode cJ6_bitCount_0f7a4 29 = .ok (.ldc_w 267, 3) := by decide +kernel
theorem dJ6_bitCount_0f7a4_32 : decode cJ6_bitCount_0f7a4 32 = .ok (.iand, 1) := by decide +kernel
theorem dJ6_bitCount_0f7a4_33 : decode cJ6_bitCount_0f7a4 33 = .ok (.istore_n 0, 1) := by decide +kernel
theorem dJ6_bitCount_0f7a4_34 : decode cJ6_bitCount_0f7a4 34 = .ok (.iload_n 0, 1) := by decide +kernel
theorem dJ6_bitCount_0f7a4_35 : decode cJ6_bitCount_0f7a4 35 = .ok (.iload_n 0, 1) := by decide +kernel
theorem dJ6_bitCount_0f7a4_36 : decode cJ6_bitCount_0f7a4 36 = .ok (.bipush 8, 2) := by decide +kernel
theorem dJ6_bitCount_0f7a4_38 : decode cJ6_bitCount_0f7a4 38 = .ok (.iushr, 1) := by decide +kernel
theorem dJ6_bitCount_0f7a4_39 : decode cJ6_bitCount_0f7a4 39 = .ok (.iadd, 1) := by decide +kernel
theorem dJ6_bitCount_0f7a4_40 : decode cJ6_bitCount_0f7a4 40 = .ok (.istore_n 0, 1) := by decide +kernel
theorem dJ6_bitCount_0f7a4_41 : decode cJ6_bitCount_0f7a4 41 = .ok (.iload_n 0, 1) := by decide +kernel
theorem dJ6_bitCount_0f7a4_42 : decode cJ6_bitCount_0f7a4 42 = .ok (.iload_n 0, 1) := by decide +kernel
theorem dJ6_bitCount_0f7a4_43 : decode cJ6_bitCount_0f7a4 43 = .ok (.bipush 16, 2) := by decide +kernel
theorem dJ6_bitCount_0f7a4_45 : decode cJ6_bitCount_0f7a4 45 = .ok (.iushr, 1) := by decide +kernel
theorem dJ6_bitCount_0f7a4_46 : decode cJ6_bitCount_0f7a4 46 = .ok (.iadd, 1) := by decide +kernel
theorem dJ6_bitCount_0f7a4_47 : decode cJ6_bitCount_0f7a4 47 = .ok (.istore_n 0, 1) := by decide +kernel
theorem dJ6_bitCount_0f7a4_48 : decode cJ6_bitCount_0f7a4 48 = .ok (.iload_n 0, 1) := by decide +kernel
theorem dJ6_bitCount_0f7a4_49 : decode cJ6_bitCount_0f7a4 49 = .ok (.bipush 63, 2) := by decide +kernel
theorem dJ6_bitCount_0f7a4_51 : decode cJ6_bitCount_0f7a4 51 = .ok (.iand, 1) := by decide +kernel
theorem dJ6_bitCount_0f7a4_52 : decode cJ6_bitCount_0f7a4 52 = .ok (.ireturn, 1) := by decide +kernel
theorem dJ9_max_7cf53_0 : decode cJ9_max_7cf53 0 = .ok (.iload_n 0, 1) := by decide +kernel
theorem dJ9_max_7cf53_1 : decode cJ9_max_7cf53 1 = .ok (.iload_n 1, 1) := by decide +kernel
theorem dJ9_max_7cf53_2 : decode cJ9_max_7cf53 2 = .ok (.if_icmp .lt 7, 3) := by decide +kernel
theorem dJ9_max_7cf53_5 : decode cJ9_max_7cf53 5 = .ok (.iload_n 0, 1) := by decide +kernel
theorem dJ9_max_7cf53_6 : decode cJ9_max_7cf53 6 = .ok (.goto 4, 3) := by decide +kernel
theorem dJ9_max_7cf53_9 : decode cJ9_max_7cf53 9 = .ok (.iload_n 1, 1) := by decide +kernel
theorem dJ9_max_7cf53_10 : decode cJ9_max_7cf53 10 = .ok (.ireturn, 1) := by decide +kernel
theorem dJ9_min_7cf53_0 : decode cJ9_min_7cf53 0 = .ok (.iload_n 0, 1) := by decide +kernel
theorem dJ9_min_7cf53_1 : decode cJ9_min_7cf53 1 = .ok (.iload_n 1, 1) := by decide +kernel
theorem dJ9_min_7cf53_2 : decode cJ9_min_7cf53 2 = .ok (.if_icmp .gt 7, 3) := by decide +kernel
theorem dJ9_min_7cf53_5 : decode cJ9_min_7cf53 5 = .ok (.iload_n 0, 1) := by decide +kernel
theorem dJ9_min_7cf53_6 : decode cJ9_min_7cf53 6 = .ok (.goto 4, 3) := by decide +kernel
theorem dJ9_min_7cf53_9 : decode cJ9_min_7cf53 9 = .ok (.iload_n 1, 1) := by decide +kernel
theorem dJ9_min_7cf53_10 : decode cJ9_min_7cf53 10 = .ok (.ireturn, 1) := by decide +kernel
theorem dJxa1e45_init_da8c8_0 : decode cJxa1e45_init_da8c8 0 = .ok (.aload_n 0, 1) := by decide +kernel
theorem dJxa1e45_init_da8c8_1 : decode cJxa1e45_init_da8c8 1 = .ok (.invokespecial 1, 3) := by decide +kernel
theorem dJxa1e45_init_da8c8_4 : decode cJxa1e45_init_da8c8 4 = .ok (.return_, 1) := by decide +kernel
theorem dJxc12de_init_da8c8_0 : decode cJxc12de_init_da8c8 0 = .ok (.aload_n 0, 1) := by decide +kernel
theorem dJxc12de_init_da8c8_1 : decode cJxc12de_init_da8c8 1 = .ok (.invokespecial 1, 3) := by decide +kernel
theorem dJxc12de_init_da8c8_4 : decode cJxc12de_init_da8c8 4 = .ok (.aload_n 0, 1) := by decide +kernel
theorem dJxc12de_init_da8c8_5 : decode cJxc12de_init_da8c8 5 = .ok (.iconst 0, 1) := by decide +kernel
theorem dJxc12de_init_da8c8_6 : decode cJxc12de_init_da8c8 6 = .ok (.putfield 7, 3) := by decide +kernel
theorem dJxc12de_init_da8c8_9 : decode cJxc12de_init_da8c8 9 = .ok (.return_, 1) := by decide +kernel
theorem dJx4a65c_init_da8c8_0 : decode cJx4a65c_init_da8c8 0 = .ok (.aload_n 0, 1) := by decide +kernel
theorem dJx4a65c_init_da8c8_1 : decode cJx4a65c_init_da8c8 1 = .ok (.invokespecial 1, 3) := by decide +kernel
theorem dJx4a65c_init_da8c8_4 : decode cJx4a65c_init_da8c8 4 = .ok (.aload_n 0, 1) := by decide +kernel
theorem dJx4a65c_init_da8c8_5 : decode cJx4a65c_init_da8c8 5 = .ok (.getstatic 39, 3) := by decide +kernel
theorem dJx4a65c_init_da8c8_8 : decode cJx4a65c_init_da8c8 8 = .ok (.putfield 9, 3) := by decide +kernel
theorem dJx4a65c_init_da8c8_11 : decode cJx4a65c_init_da8c8 11 = .ok (.return_, 1) := by decide +kernel
theorem dJx4a65c_grow_92f84_0 : decode cJx4a65c_grow_92f84 0 = .ok (.aload_n 0, 1) := by decide +kernel
theorem dJx4a65c_grow_92f84_1 : decode cJx4a65c_grow_92f84 1 = .ok (.getfield 9, 3) := by decide +kernel
theorem dJx4a65c_grow_92f84_4 : decode cJx4a65c_grow_92f84 4 = .ok (.arraylength, 1) := by decide +kernel
theorem dJx4a65c_grow_92f84_5 : decode cJx4a65c_grow_92f84 5 = .ok (.istore_n 2, 1) := by decide +kernel
theorem dJx4a65c_grow_92f84_6 : decode cJx4a65c_grow_92f84 6 = .ok (.iload_n 2, 1) := by decide +kernel
theorem dJx4a65c_grow_92f84_7 : decode cJx4a65c_grow_92f84 7 = .ok (.ifCond .gt 13, 3) := by decide +kernel
theorem dJx4a65c_grow_92f84_10 : decode cJx4a65c_grow_92f84 10 = .ok (.aload_n 0, 1) := by decide +kernel
theorem dJx4a65c_grow_92f84_11 : decode cJx4a65c_grow_92f84 11 = .ok (.getfield 9, 3) := by decide +kernel
theorem dJx4a65c_grow_92f84_14 : decode cJx4a65c_grow_92f84 14 = .ok (.getstatic 39, 3) := by decide +kernel
theorem dJx4a65c_grow_92f84_17 : decode cJx4a65c_grow_92f84 17 = .ok (.if_acmp .eq 28, 3) := by decide +kernel
theorem dJx4a65c_grow_92f84_20 : decode cJx4a65c_grow_92f84 20 = .ok (.iload_n 2, 1) := by decide +kernel
theorem dJx4a65c_grow_92f84_21 : decode cJx4a65c_grow_92f84 21 = .ok (.iload_n 1, 1) := by decide +kernel
theorem dJx4a65c_grow_92f84_22 : decode cJx4a65c_grow_92f84 22 = .ok (.iload_n 2, 1) := by decide +kernel
theorem dJx4a65c_grow_92f84_23 : decode cJx4a65c_grow_92f84 23 = .ok (.isub, 1) := by decide +kernel
theorem dJx4a65c_grow_92f84_24 : decode cJx4a65c_grow_92f84 24 = .ok (.iload_n 2, 1) := by decide +kernel
theorem dJx4a65c_grow_92f84_25 : decode cJx4a65c_grow_92f84 25 = .ok (.iconst 1, 1) := by decide +kernel
theorem dJx4a65c_grow_92f84_26 : decode cJx4a65c_grow_92f84 26 = .ok (.ishr, 1) := by decide +kernel
theorem dJx4a65c_grow_92f84_27 : decode cJx4a65c_grow_92f84 27 = .ok (.invokestatic 73, 3) := by decide +kernel
theorem dJx4a65c_grow_92f84_30 : decode cJx4a65c_grow_92f84 30 = .ok (.istore_n 3, 1) := by decide +kernel
theorem dJx4a65c_grow_92f84_31 : decode cJx4a65c_grow_92f84 31 = .ok (.aload_n 0, 1) := by decide +kernel
theorem dJx4a65c_grow_92f84_32 : decode cJx4a65c_grow_92f84 32 = .ok (.aload_n 0, 1) := by decide +kernel
theorem dJx4a65c_grow_92f84_33 : decode cJx4a65c_grow_92f84 33 = .ok (.getfield 9, 3) := by decide +kernel
theorem dJx4a65c_grow_92f84_36 : decode cJx4a65c_grow_92f84 36 = .ok (.iload_n 3, 1) := by decide +kernel
theorem dJx4a65c_grow_92f84_37 : decode cJx4a65c_grow_92f84 37 = .ok (.invokestatic 66, 3) := by decide +kernel
theorem dJx4a65c_grow_92f84_40 : decode cJx4a65c_grow_92f84 40 = .ok (.dup_x1, 1) := by decide +kernel
theorem dJx4a65c_grow_92f84_41 : decode cJx4a65c_grow_92f84 41 = .ok (.putfield 9, 3) := by decide +kernel
theorem dJx4a65c_grow_92f84_44 : decode cJx4a65c_grow_92f84 44 = .ok (.areturn, 1) := by decide +kernel
theorem dJx4a65c_grow_92f84_45 : decode cJx4a65c_grow_92f84 45 = .ok (.aload_n 0, 1) := by decide +kernel
theorem dJx4a65c_grow_92f84_46 : decode cJx4a65c_grow_92f84 46 = .ok (.bipush 10, 2) := by decide +kernel
theorem dJx4a65c_grow_92f84_48 : decode cJx4a65c_grow_92f84 48 = .ok (.iload_n 1, 1) := by decide +kernel
theorem dJx4a65c_grow_92f84_49 : decode cJx4a65c_grow_92f84 49 = .ok (.invokestatic 79, 3) := by decide +kernel
theorem dJx4a65c_grow_92f84_52 : decode cJx4a65c_grow_92f84 52 = .ok (.anewarray 7, 3) := by decide +kernel
theorem dJx4a65c_grow_92f84_55 : decode cJx4a65c_grow_92f84 55 = .ok (.dup_x1, 1) := by decide +kernel
theorem dJx4a65c_grow_92f84_56 : decode cJx4a65c_grow_92f84 56 = .ok (.putfield 9, 3) := by decide +kernel
theorem dJx4a65c_grow_92f84_59 : decode cJx4a65c_grow_92f84 59 = .ok (.areturn, 1) := by decide +kernel
theorem dJx4a65c_grow_d5877_0 : decode cJx4a65c_grow_d5877 0 = .ok (.aload_n 0, 1) := by decide +kernel
theorem dJx4a65c_grow_d5877_1 : decode cJx4a65c_grow_d5877 1 = .ok (.aload_n 0, 1) := by decide +kernel
theorem dJx4a65c_grow_d5877_2 : decode cJx4a65c_grow_d5877 2 = .ok (.getfield 48, 3) := by decide +kernel
theorem dJx4a65c_grow_d5877_5 : decode cJx4a65c_grow_d5877 5 = .ok (.iconst 1, 1) := by decide +kernel
theorem dJx4a65c_grow_d5877_6 : decode cJx4a65c_grow_d5877 6 = .ok (.iadd, 1) := by decide +kernel
theorem dJx4a65c_grow_d5877_7 : decode cJx4a65c_grow_d5877 7 = .ok (.invokevirtual 69, 3) := by decide +kernel
theorem dJx4a65c_grow_d5877_10 : decode cJx4a65c_grow_d5877 10 = .ok (.areturn, 1) := by decide +kernel
theorem dJx4a65c_size_8abf5_0 : decode cJx4a65c_size_8abf5 0 = .ok (.aload_n 0, 1) := by decide +kernel
theorem dJx4a65c_size_8abf5_1 : decode cJx4a65c_size_8abf5 1 = .ok (.getfield 48, 3) := by decide +kernel
theorem dJx4a65c_size_8abf5_4 : decode cJx4a65c_size_8abf5 4 = .ok (.ireturn, 1) := by decide +kernel
theorem dJx4a65c_elementData_915e3_0 : decode cJx4a65c_elementData_915e3 0 = .ok (.aload_n 0, 1) := by decide +kernel
theorem dJx4a65c_elementData_915e3_1 : decode cJx4a65c_elementData_915e3 1 = .ok (.getfield 9, 3) := by decide +kernel
theorem dJx4a65c_elementData_915e3_4 : decode cJx4a65c_elementData_915e3 4 = .ok (.iload_n 1, 1) := by decide +kernel
theorem dJx4a65c_elementData_915e3_5 : decode cJx4a65c_elementData_915e3 5 = .ok (.aaload, 1) := by decide +kernel
theorem dJx4a65c_elementData_915e3_6 : decode cJx4a65c_elementData_915e3 6 = .ok (.areturn, 1) := by decide +kernel
theorem dJx4a65c_get_915e3_0 : decode cJx4a65c_get_915e3 0 = .ok (.iload_n 1, 1) := by decide +kernel
theorem dJx4a65c_get_915e3_1 : decode cJx4a65c_get_915e3 1 = .ok (.aload_n 0, 1) := by decide +kernel
theorem dJx4a65c_get_915e3_2 : decode cJx4a65c_get_915e3 2 = .ok (.getfield 48, 3) := by decide +kernel
theorem dJx4a65c_get_915e3_5 : decode cJx4a65c_get_915e3 5 = .ok (.invokestatic 118, 3) := by decide +kernel
theorem dJx4a65c_get_915e3_8 : decode cJx4a65c_get_915e3 8 = .ok (.pop, 1) := by decide +kernel
theorem dJx4a65c_get_915e3_9 : decode cJx4a65c_get_915e3 9 = .ok (.aload_n 0, 1) := by decide +kernel
theorem dJx4a65c_get_915e3_10 : decode cJx4a65c_get_915e3 10 = .ok (.iload_n 1, 1) := by decide +kernel
theorem dJx4a65c_get_915e3_11 : decode cJx4a65c_get_915e3 11 = .ok (.invokevirtual 123, 3) := by decide +kernel
theorem dJx4a65c_get_915e3_14 : decode cJx4a65c_get_915e3 14 = .ok (.areturn, 1) := by decide +kernel
theorem dJx4a65c_add_72be8_0 : decode cJx4a65c_add_72be8 0 = .ok (.iload_n 3, 1) := by decide +kernel
theorem dJx4a65c_add_72be8_1 : decode cJx4a65c_add_72be8 1 = .ok (.aload_n 2, 1) := by decide +kernel
theorem dJx4a65c_add_72be8_2 : decode cJx4a65c_add_72be8 2 = .ok (.arraylength, 1) := by decide +kernel
theorem dJx4a65c_add_72be8_3 : decode cJx4a65c_add_72be8 3 = .ok (.if_icmp .ne 8, 3) := by decide +kernel
theorem dJx4a65c_add_72be8_6 : decode cJx4a65c_add_72be8 6 = .ok (.aload_n 0, 1) := by decide +kernel
theorem dJx4a65c_add_72be8_7 : decode cJx4a65c_add_72be8 7 = .ok (.invokevirtual 129, 3) := by decide +kernel
theorem dJx4a65c_add_72be8_10 : decode cJx4a65c_add_72be8 10 = .ok (.astore_n 2, 1) := by decide +kernel
theorem dJx4a65c_add_72be8_11 : decode cJx4a65c_add_72be8 11 = .ok (.aload_n 2, 1) := by decide +kernel
theorem dJx4a65c_add_72be8_12 : decode cJx4a65c_add_72be8 12 = .ok (.iload_n 3, 1) := by decide +kernel
theorem dJx4a65c_add_72be8_13 : decode cJx4a65c_add_72be8 13 = .ok (.aload_n 1, 1) := by decide +kernel
theorem dJx4a65c_add_72be8_14 : decode cJx4a65c_add_72be8 14 = .ok (.aastore, 1) := by decide +kernel
theorem dJx4a65c_add_72be8_15 : decode cJx4a65c_add_72be8 15 = .ok (.aload_n 0, 1) := by decide +kernel
theorem dJx4a65c_add_72be8_16 : decode cJx4a65c_add_72be8 16 = .ok (.iload_n 3, 1) := by decide +kernel
theorem dJx4a65c_add_72be8_17 : decode cJx4a65c_add_72be8 17 = .ok (.iconst 1, 1) := by decide +kernel
theorem dJx4a65c_add_72be8_18 : decode cJx4a65c_add_72be8 18 = .ok (.iadd, 1) := by decide +kernel
theorem dJx4a65c_add_72be8_19 : decode cJx4a65c_add_72be8 19 = .ok (.putfield 48, 3) := by decide +kernel
theorem dJx4a65c_add_72be8_22 : decode cJx4a65c_add_72be8 22 = .ok (.return_, 1) := by decide +kernel
theorem dJx4a65c_add_9ea2d_0 : decode cJx4a65c_add_9ea2d 0 = .ok (.aload_n 0, 1) := by decide +kernel
theorem dJx4a65c_add_9ea2d_1 : decode cJx4a65c_add_9ea2d 1 = .ok (.dup, 1) := by decide +kernel
theorem dJx4a65c_add_9ea2d_2 : decode cJx4a65c_add_9ea2d 2 = .ok (.getfield 63, 3) := by decide +kernel
theorem dJx4a65c_add_9ea2d_5 : decode cJx4a65c_add_9ea2d 5 = .ok (.iconst 1, 1) := by decide +kernel
theorem dJx4a65c_add_9ea2d_6 : decode cJx4a65c_add_9ea2d 6 = .ok (.iadd, 1) := by decide +kernel
theorem dJx4a65c_add_9ea2d_7 : decode cJx4a65c_add_9ea2d 7 = .ok (.putfield 63, 3) := by decide +kernel
theorem dJx4a65c_add_9ea2d_10 : decode cJx4a65c_add_9ea2d 10 = .ok (.aload_n 0, 1) := by decide +kernel
theorem dJx4a65c_add_9ea2d_11 : decode cJx4a65c_add_9ea2d 11 = .ok (.aload_n 1, 1) := by decide +kernel
theorem dJx4a65c_add_9ea2d_12 : decode cJx4a65c_add_9ea2d 12 = .ok (.aload_n 0, 1) := by decide +kernel
theorem dJx4a65c_add_9ea2d_13 : decode cJx4a65c_add_9ea2d 13 = .ok (.getfield 9, 3) := by decide +kernel
theorem dJx4a65c_add_9ea2d_16 : decode cJx4a65c_add_9ea2d 16 = .ok (.aload_n 0, 1) := by decide +kernel
theorem dJx4a65c_add_9ea2d_17 : decode cJx4a65c_add_9ea2d 17 = .ok (.getfield 48, 3) := by decide +kernel
theorem dJx4a65c_add_9ea2d_20 : decode cJx4a65c_add_9ea2d 20 = .ok (.invokevirtual 131, 3) := by decide +kernel
theorem dJx4a65c_add_9ea2d_23 : decode cJx4a65c_add_9ea2d 23 = .ok (.iconst 1, 1) := by decide +kernel
theorem dJx4a65c_add_9ea2d_24 : decode cJx4a65c_add_9ea2d 24 = .ok (.ireturn, 1) := by decide +kernel
theorem dJ7_copyOf_1904c_0 : decode cJ7_copyOf_1904c 0 = .ok (.aload_n 0, 1) := by decide +kernel
theorem dJ7_copyOf_1904c_1 : decode cJ7_copyOf_1904c 1 = .ok (.iload_n 1, 1) := by decide +kernel
theorem dJ7_copyOf_1904c_2 : decode cJ7_copyOf_1904c 2 = .ok (.aload_n 0, 1) := by decide +kernel
theorem dJ7_copyOf_1904c_3 : decode cJ7_copyOf_1904c 3 = .ok (.invokevirtual 86, 3) := by decide +kernel
theorem dJ7_copyOf_1904c_6 : decode cJ7_copyOf_1904c 6 = .ok (.invokestatic 300, 3) := by decide +kernel
theorem dJ7_copyOf_1904c_9 : decode cJ7_copyOf_1904c 9 = .ok (.areturn, 1) := by decide +kernel
theorem dJ7_copyOf_6403c_0 : decode cJ7_copyOf_6403c 0 = .ok (.aload_n 2, 1) := by decide +kernel
theorem dJ7_copyOf_6403c_1 : decode cJ7_copyOf_6403c 1 = .ok (.ldc 110, 2) := by decide +kernel
theorem dJ7_copyOf_6403c_3 : decode cJ7_copyOf_6403c 3 = .ok (.if_acmp .ne 10, 3) := by decide +kernel
theorem dJ7_copyOf_6403c_6 : decode cJ7_copyOf_6403c 6 = .ok (.iload_n 1, 1) := by decide +kernel
theorem dJ7_copyOf_6403c_7 : decode cJ7_copyOf_6403c 7 = .ok (.anewarray 2, 3) := by decide +kernel
theorem dJ7_copyOf_6403c_10 : decode cJ7_copyOf_6403c 10 = .ok (.goto 14, 3) := by decide +kernel
theorem dJ7_copyOf_6403c_13 : decode cJ7_copyOf_6403c 13 = .ok (.aload_n 2, 1) := by decide +kernel
theorem dJ7_copyOf_6403c_14 : decode cJ7_copyOf_6403c 14 = .ok (.invokevirtual 90, 3) := by decide +kernel
theorem dJ7_copyOf_6403c_17 : decode cJ7_copyOf_6403c 17 = .ok (.iload_n 1, 1) := by decide +kernel
theorem dJ7_copyOf_6403c_18 : decode cJ7_copyOf_6403c 18 = .ok (.invokestatic 95, 3) := by decide +kernel
theorem dJ7_copyOf_6403c_21 : decode cJ7_copyOf_6403c 21 = .ok (.checkcast 110, 3) := by decide +kernel
theorem dJ7_copyOf_6403c_24 : decode cJ7_copyOf_6403c 24 = .ok (.astore_n 3, 1) := by decide +kernel
theorem dJ7_copyOf_6403c_25 : decode cJ7_copyOf_6403c 25 = .ok (.aload_n 0, 1) := by decide +kernel
theorem dJ7_copyOf_6403c_26 : decode cJ7_copyOf_6403c 26 = .ok (.iconst 0, 1) := by decide +kernel
theorem dJ7_copyOf_6403c_27 : decode cJ7_copyOf_6403c 27 = .ok (.aload_n 3, 1) := by decide +kernel
theorem dJ7_copyOf_6403c_28 : decode cJ7_copyOf_6403c 28 = .ok (.iconst 0, 1) := by decide +kernel
theorem dJ7_copyOf_6403c_29 : decode cJ7_copyOf_6403c 29 = .ok (.aload_n 0, 1) := by decide +kernel
theorem dJ7_copyOf_6403c_30 : decode cJ7_copyOf_6403c 30 = .ok (.arraylength, 1) := by decide +kernel
theorem dJ7_copyOf_6403c_31 : decode cJ7_copyOf_6403c 31 = .ok (.iload_n 1, 1) := by decide +kernel
theorem dJ7_copyOf_6403c_32 : decode cJ7_copyOf_6403c 32 = .ok (.invokestatic 304, 3) := by decide +kernel
theorem dJ7_copyOf_6403c_35 : decode cJ7_copyOf_6403c 35 = .ok (.invokestatic 150, 3) := by decide +kernel
theorem dJ7_copyOf_6403c_38 : decode cJ7_copyOf_6403c 38 = .ok (.aload_n 3, 1) := by decide +kernel
theorem dJ7_copyOf_6403c_39 : decode cJ7_copyOf_6403c 39 = .ok (.areturn, 1) := by decide +kernel
theorem dJ15_checkIndex_7cf53_0 : decode cJ15_checkIndex_7cf53 0 = .ok (.iload_n 0, 1) := by decide +kernel
theorem dJ15_checkIndex_7cf53_1 : decode cJ15_checkIndex_7cf53 1 = .ok (.iload_n 1, 1) := by decide +kernel
theorem dJ15_checkIndex_7cf53_2 : decode cJ15_checkIndex_7cf53 2 = .ok (.aconst_null, 1) := by decide +kernel
theorem dJ15_checkIndex_7cf53_3 : decode cJ15_checkIndex_7cf53 3 = .ok (.invokestatic 105, 3) := by decide +kernel
theorem dJ15_checkIndex_7cf53_6 : decode cJ15_checkIndex_7cf53 6 = .ok (.ireturn, 1) := by decide +kernel
theorem dJ8_newLength_cabcc_0 : decode cJ8_newLength_cabcc 0 = .ok (.iload_n 0, 1) := by decide +kernel
theorem dJ8_newLength_cabcc_1 : decode cJ8_newLength_cabcc 1 = .ok (.iload_n 1, 1) := by decide +kernel
theorem dJ8_newLength_cabcc_2 : decode cJ8_newLength_cabcc 2 = .ok (.iload_n 2, 1) := by decide +kernel
theorem dJ8_newLength_cabcc_3 : decode cJ8_newLength_cabcc 3 = .ok (.invokestatic 194, 3) := by decide +kernel
theorem dJ8_newLength_cabcc_6 : decode cJ8_newLength_cabcc 6 = .ok (.iadd, 1) := by decide +kernel
theorem dJ8_newLength_cabcc_7 : decode cJ8_newLength_cabcc 7 = .ok (.istore_n 3, 1) := by decide +kernel
theorem dJ8_newLength_cabcc_8 : decode cJ8_newLength_cabcc 8 = .ok (.iconst 0, 1) := by decide +kernel
theorem dJ8_newLength_cabcc_9 : decode cJ8_newLength_cabcc 9 = .ok (.iload_n 3, 1) := by decide +kernel
theorem dJ8_newLength_cabcc_10 : decode cJ8_newLength_cabcc 10 = .ok (.if_icmp .ge 11, 3) := by decide +kernel
theorem dJ8_newLength_cabcc_13 : decode cJ8_newLength_cabcc 13 = .ok (.iload_n 3, 1) := by decide +kernel
theorem dJ8_newLength_cabcc_14 : decode cJ8_newLength_cabcc 14 = .ok (.ldc 200, 2) := by decide +kernel
theorem dJ8_newLength_cabcc_16 : decode cJ8_newLength_cabcc 16 = .ok (.if_icmp .gt 5, 3) := by decide +kernel
theorem dJ8_newLength_cabcc_19 : decode cJ8_newLength_cabcc 19 = .ok (.iload_n 3, 1) := by decide +kernel
theorem dJ8_newLength_cabcc_20 : decode cJ8_newLength_cabcc 20 = .ok (.ireturn, 1) := by decide +kernel
theorem dJ8_newLength_cabcc_21 : decode cJ8_newLength_cabcc 21 = .ok (.iload_n 0, 1) := by decide +kernel
theorem dJ8_newLength_cabcc_22 : decode cJ8_newLength_cabcc 22 = .ok (.iload_n 1, 1) := by decide +kernel
theorem dJ8_newLength_cabcc_23 : decode cJ8_newLength_cabcc 23 = .ok (.invokestatic 201, 3) := by decide +kernel
theorem dJ8_newLength_cabcc_26 : decode cJ8_newLength_cabcc 26 = .ok (.ireturn, 1) := by decide +kernel
theorem dJ8_hugeLength_7cf53_0 : decode cJ8_hugeLength_7cf53 0 = .ok (.iload_n 0, 1) := by decide +kernel
theorem dJ8_hugeLength_7cf53_1 : decode cJ8_hugeLength_7cf53 1 = .ok (.iload_n 1, 1) := by decide +kernel
theorem dJ8_hugeLength_7cf53_2 : decode cJ8_hugeLength_7cf53 2 = .ok (.iadd, 1) := by decide +kernel
theorem dJ8_hugeLength_7cf53_3 : decode cJ8_hugeLength_7cf53 3 = .ok (.istore_n 2, 1) := by decide +kernel
theorem dJ8_hugeLength_7cf53_4 : decode cJ8_hugeLength_7cf53 4 = .ok (.iload_n 2, 1) := by decide +kernel
theorem dJ8_hugeLength_7cf53_5 : decode cJ8_hugeLength_7cf53 5 = .ok (.ifCond .ge 44, 3) := by decide +kernel
theorem dJ8_hugeLength_7cf53_8 : decode cJ8_hugeLength_7cf53 8 = .ok (.new 204, 3) := by decide +kernel
theorem dJ8_hugeLength_7cf53_11 : decode cJ8_hugeLength_7cf53 11 = .ok (.dup, 1) := by decide +kernel
theorem dJ8_hugeLength_7cf53_12 : decode cJ8_hugeLength_7cf53 12 = .ok (.new 89, 3) := by decide +kernel
theorem dJ8_hugeLength_7cf53_15 : decode cJ8_hugeLength_7cf53 15 = .ok (.dup, 1) := by decide +kernel
theorem dJ8_hugeLength_7cf53_16 : decode cJ8_hugeLength_7cf53 16 = .ok (.invokespecial 91, 3) := by decide +kernel
theorem dJ8_hugeLength_7cf53_19 : decode cJ8_hugeLength_7cf53 19 = .ok (.ldc 206, 2) := by decide +kernel
theorem dJ8_hugeLength_7cf53_21 : decode cJ8_hugeLength_7cf53 21 = .ok (.invokevirtual 94, 3) := by decide +kernel
theorem dJ8_hugeLength_7cf53_24 : decode cJ8_hugeLength_7cf53 24 = .ok (.iload_n 0, 1) := by decide +kernel
theorem dJ8_hugeLength_7cf53_25 : decode cJ8_hugeLength_7cf53 25 = .ok (.invokevirtual 98, 3) := by decide +kernel
theorem dJ8_hugeLength_7cf53_28 : decode cJ8_hugeLength_7cf53 28 = .ok (.ldc 208, 2) := by decide +kernel
theorem dJ8_hugeLength_7cf53_30 : decode cJ8_hugeLength_7cf53 30 = .ok (.invokevirtual 94, 3) := by decide +kernel
theorem dJ8_hugeLength_7cf53_33 : decode cJ8_hugeLength_7cf53 33 = .ok (.iload_n 1, 1) := by decide +kernel
theorem dJ8_hugeLength_7cf53_34 : decode cJ8_hugeLength_7cf53 34 = .ok (.invokevirtual 98, 3) := by decide +kernel
theorem dJ8_hugeLength_7cf53_37 : decode cJ8_hugeLength_7cf53 37 = .ok (.ldc 210, 2) := by decide +kernel
theorem dJ8_hugeLength_7cf53_39 : decode cJ8_hugeLength_7cf53 39 = .ok (.invokevirtual 94, 3) := by decide +kernel
theorem dJ8_hugeLength_7cf53_42 : decode cJ8_hugeLength_7cf53 42 = .ok (.invokevirtual 101, 3) := by decide +kernel
theorem dJ8_hugeLength_7cf53_45 : decode cJ8_hugeLength_7cf53 45 = .ok (.invokespecial 212, 3) := by decide +kernel
theorem dJ8_hugeLength_7cf53_48 : decode cJ8_hugeLength_7cf53 48 = .ok (.athrow, 1) := by decide +kernel
theorem dJ8_hugeLength_7cf53_49 : decode cJ8_hugeLength_7cf53 49 = .ok (.iload_n 2, 1) := by decide +kernel
theorem dJ8_hugeLength_7cf53_50 : decode cJ8_hugeLength_7cf53 50 = .ok (.ldc 200, 2) := by decide +kernel
theorem dJ8_hugeLength_7cf53_52 : decode cJ8_hugeLength_7cf53 52 = .ok (.if_icmp .gt 6, 3) := by decide +kernel
theorem dJ8_hugeLength_7cf53_55 : decode cJ8_hugeLength_7cf53 55 = .ok (.ldc 200, 2) := by decide +kernel
theorem dJ8_hugeLength_7cf53_57 : decode cJ8_hugeLength_7cf53 57 = .ok (.ireturn, 1) := by decide +kernel
theorem dJ8_hugeLength_7cf53_58 : decode cJ8_hugeLength_7cf53 58 = .ok (.iload_n 2, 1) := by decide +kernel
theorem dJ8_hugeLength_7cf53_59 : decode cJ8_hugeLength_7cf53 59 = .ok (.ireturn, 1) := by decide +kernel
theorem dJ3_checkIndex_8e157_0 : decode cJ3_checkIndex_8e157 0 = .ok (.iload_n 0, 1) := by decide +kernel
theorem dJ3_checkIndex_8e157_1 : decode cJ3_checkIndex_8e157 1 = .ok (.ifCond .lt 8, 3) := by decide +kernel
theorem dJ3_checkIndex_8e157_4 : decode cJ3_checkIndex_8e157 4 = .ok (.iload_n 0, 1) := by decide +kernel
theorem dJ3_checkIndex_8e157_5 : decode cJ3_checkIndex_8e157 5 = .ok (.iload_n 1, 1) := by decide +kernel
theorem dJ3_checkIndex_8e157_6 : decode cJ3_checkIndex_8e157 6 = .ok (.if_icmp .lt 10, 3) := by decide +kernel
theorem dJ3_checkIndex_8e157_9 : decode cJ3_checkIndex_8e157 9 = .ok (.aload_n 2, 1) := by decide +kernel
theorem dJ3_checkIndex_8e157_10 : decode cJ3_checkIndex_8e157 10 = .ok (.iload_n 0, 1) := by decide +kernel
theorem dJ3_checkIndex_8e157_11 : decode cJ3_checkIndex_8e157 11 = .ok (.iload_n 1, 1) := by decide +kernel
theorem dJ3_checkIndex_8e157_12 : decode cJ3_checkIndex_8e157 12 = .ok (.invokestatic 95, 3) := by decide +kernel
theorem dJ3_checkIndex_8e157_15 : decode cJ3_checkIndex_8e157 15 = .ok (.athrow, 1) := by decide +kernel
theorem dJ3_checkIndex_8e157_16 : decode cJ3_checkIndex_8e157 16 = .ok (.iload_n 0, 1) := by decide +kernel
theorem dJ3_checkIndex_8e157_17 : decode cJ3_checkIndex_8e157 17 = .ok (.ireturn, 1) := by decide +kernel
end
section
theorem dX8_init_0 : decode cX8_init 0 = .ok (.aload_n 0, 1) := by decide +kernel
theorem dX8_init_1 : decode cX8_init 1 = .ok (.invokespecial 1, 3) := by decide +kernel
theorem dX8_init_4 : decode cX8_init 4 = .ok (.aload_n 0, 1) := by decide +kernel
theorem dX8_init_5 : decode cX8_init 5 = .ok (.new 7, 3) := by decide +kernel
theorem dX8_init_8 : decode cX8_init 8 = .ok (.dup, 1) := by decide +kernel
theorem dX8_init_9 : decode cX8_init 9 = .ok (.invokespecial 9, 3) := by decide +kernel
theorem dX8_init_12 : decode cX8_init 12 = .ok (.putfield 10, 3) := by decide +kernel
theorem dX8_init_15 : decode cX8_init 15 = .ok (.aload_n 0, 1) := by decide +kernel
theorem dX8_init_16 : decode cX8_init 16 = .ok (.new 7, 3) := by decide +kernel
theorem dX8_init_19 : decode cX8_init 19 = .ok (.dup, 1) := by decide +kernel
theorem dX8_init_20 : decode cX8_init 20 = .ok (.invokespecial 9, 3) := by decide +kernel
theorem dX8_init_23 : decode cX8_init 23 = .ok (.putfield 16, 3) := by decide +kernel
theorem dX8_init_26 : decode cX8_init 26 = .ok (.aload_n 0, 1) := by decide +kernel
theorem dX8_init_27 : decode cX8_init 27 = .ok (.new 7, 3) := by decide +kernel
theorem dX8_init_30 : decode cX8_init 30 = .ok (.dup, 1) := by decide +kernel
theorem dX8_init_31 : decode cX8_init 31 = .ok (.invokespecial 9, 3) := by decide +kernel
theorem dX8_init_34 : decode cX8_init 34 = .ok (.putfield 19, 3) := by decide +kernel
theorem dX8_init_37 : decode cX8_init 37 = .ok (.aload_n 0, 1) := by decide +kernel
theorem dX8_init_38 : decode cX8_init 38 = .ok (.new 7, 3) := by decide +kernel
theorem dX8_init_41 : decode cX8_init 41 = .ok (.dup, 1) := by decide +kernel
theorem dX8_init_42 : decode cX8_init 42 = .ok (.invokespecial 9, 3) := by decide +kernel
theorem dX8_init_45 : decode cX8_init 45 = .ok (.putfield 22, 3) := by decide +kernel
theorem dX8_init_48 : decode cX8_init 48 = .ok (.aload_n 0, 1) := by decide +kernel
theorem dX8_init_49 : decode cX8_init 49 = .ok (.bipush 8, 2) := by decide +kernel
theorem dX8_init_51 : decode cX8_init 51 = .ok (.anewarray 25, 3) := by decide +kernel
theorem dX8_init_54 : decode cX8_init 54 = .ok (.putfield 27, 3) := by decide +kernel
theorem dX8_init_57 : decode cX8_init 57 = .ok (.iconst 0, 1) := by decide +kernel
theorem dX8_init_58 : decode cX8_init 58 = .ok (.istore_n 1, 1) := by decide +kernel
theorem dX8_init_59 : decode cX8_init 59 = .ok (.iload_n 1, 1) := by decide +kernel
theorem dX8_init_60 : decode cX8_init 60 = .ok (.aload_n 0, 1) := by decide +kernel
theorem dX8_init_61 : decode cX8_init 61 = .ok (.getfield 27, 3) := by decide +kernel
theorem dX8_init_64 : decode cX8_init 64 = .ok (.arraylength, 1) := by decide +kernel
theorem dX8_init_65 : decode cX8_init 65 = .ok (.if_icmp .ge 22, 3) := by decide +kernel
theorem dX8_init_68 : decode cX8_init 68 = .ok (.aload_n 0, 1) := by decide +kernel
theorem dX8_init_69 : decode cX8_init 69 = .ok (.getfield 27, 3) := by decide +kernel
theorem dX8_init_72 : decode cX8_init 72 = .ok (.iload_n 1, 1) := by decide +kernel
theorem dX8_init_73 : decode cX8_init 73 = .ok (.new 25, 3) := by decide +kernel
theorem dX8_init_76 : decode cX8_init 76 = .ok (.dup, 1) := by decide +kernel
theorem dX8_init_77 : decode cX8_init 77 = .ok (.invokespecial 31, 3) := by decide +kernel
theorem dX8_init_80 : decode cX8_init 80 = .ok (.aastore, 1) := by decide +kernel
theorem dX8_init_81 : decode cX8_init 81 = .ok (.iinc 1 1, 3) := by decide +kernel
theorem dX8_init_84 : decode cX8_init 84 = .ok (.goto (-25), 3) := by decide +kernel
theorem dX8_init_87 : decode cX8_init 87 = .ok (.aload_n 0, 1) := by decide +kernel
theorem dX8_init_88 : decode cX8_init 88 = .ok (.iconst 0, 1) := by decide +kernel
theorem dX8_init_89 : decode cX8_init 89 = .ok (.putfield 32, 3) := by decide +kernel
theorem dX8_init_92 : decode cX8_init 92 = .ok (.aload_n 0, 1) := by decide +kernel
theorem dX8_init_93 : decode cX8_init 93 = .ok (.iconst 0, 1) := by decide +kernel
theorem dX8_init_94 : decode cX8_init 94 = .ok (.putfield 36, 3) := by decide +kernel
theorem dX8_init_97 : decode cX8_init 97 = .ok (.return_, 1) := by decide +kernel
theorem dX8_troop_0 : decode cX8_troop 0 = .ok (.iload_n 1, 1) := by decide +kernel
theorem dX8_troop_1 : decode cX8_troop 1 = .ok (.iconst 5, 1) := by decide +kernel
theorem dX8_troop_2 : decode cX8_troop 2 = .ok (.bipush 20, 2) := by decide +kernel
theorem dX8_troop_4 : decode cX8_troop 4 = .ok (.invokestatic 39, 3) := by decide +kernel
theorem dX8_troop_7 : decode cX8_troop 7 = .ok (.iload_n 2, 1) := by decide +kernel
theorem dX8_troop_8 : decode cX8_troop 8 = .ok (.iload_n 1, 1) := by decide +kernel
theorem dX8_troop_9 : decode cX8_troop 9 = .ok (.bipush 20, 2) := by decide +kernel
theorem dX8_troop_11 : decode cX8_troop 11 = .ok (.invokestatic 39, 3) := by decide +kernel
theorem dX8_troop_14 : decode cX8_troop 14 = .ok (.iload_n 3, 1) := by decide +kernel
theorem dX8_troop_15 : decode cX8_troop 15 = .ok (.iconst 1, 1) := by decide +kernel
theorem dX8_troop_16 : decode cX8_troop 16 = .ok (.bipush 12, 2) := by decide +kernel
theorem dX8_troop_18 : decode cX8_troop 18 = .ok (.invokestatic 39, 3) := by decide +kernel
theorem dX8_troop_21 : decode cX8_troop 21 = .ok (.aload_n 0, 1) := by decide +kernel
theorem dX8_troop_22 : decode cX8_troop 22 = .ok (.getfield 10, 3) := by decide +kernel
theorem dX8_troop_25 : decode cX8_troop 25 = .ok (.invokevirtual 43, 3) := by decide +kernel
theorem dX8_troop_28 : decode cX8_troop 28 = .ok (.bipush 6, 2) := by decide +kernel
theorem dX8_troop_30 : decode cX8_troop 30 = .ok (.invokestatic 47, 3) := by decide +kernel
theorem dX8_troop_33 : decode cX8_troop 33 = .ok (.aload_n 0, 1) := by decide +kernel
theorem dX8_troop_34 : decode cX8_troop 34 = .ok (.getfield 10, 3) := by decide +kernel
theorem dX8_troop_37 : decode cX8_troop 37 = .ok (.invokevirtual 43, 3) := by decide +kernel
theorem dX8_troop_40 : decode cX8_troop 40 = .ok (.istore 4, 2) := by decide +kernel
theorem dX8_troop_42 : decode cX8_troop 42 = .ok (.aload_n 0, 1) := by decide +kernel
theorem dX8_troop_43 : decode cX8_troop 43 = .ok (.getfield 10, 3) := by decide +kernel
theorem dX8_troop_46 : decode cX8_troop 46 = .ok (.new 51, 3) := by decide +kernel
theorem dX8_troop_49 : decode cX8_troop 49 = .ok (.dup, 1) := by decide +kernel
theorem dX8_troop_50 : decode cX8_troop 50 = .ok (.iload 4, 2) := by decide +kernel
theorem dX8_troop_52 : decode cX8_troop 52 = .ok (.iload_n 1, 1) := by decide +kernel
theorem dX8_troop_53 : decode cX8_troop 53 = .ok (.iload_n 2, 1) := by decide +kernel
theorem dX8_troop_54 : decode cX8_troop 54 = .ok (.iload_n 3, 1) := by decide +kernel
theorem dX8_troop_55 : decode cX8_troop 55 = .ok (.invokespecial 53, 3) := by decide +kernel
theorem dX8_troop_58 : decode cX8_troop 58 = .ok (.invokevirtual 56, 3) := by decide +kernel
theorem dX8_troop_61 : decode cX8_troop 61 = .ok (.pop, 1) := by decide +kernel
theorem dX8_troop_62 : decode cX8_troop 62 = .ok (.iload 4, 2) := by decide +kernel
theorem dX8_troop_64 : decode cX8_troop 64 = .ok (.ireturn, 1) := by decide +kernel
theorem dX8_child_0 : decode cX8_child 0 = .ok (.iload_n 1, 1) := by decide +kernel
theorem dX8_child_1 : decode cX8_child 1 = .ok (.iconst 5, 1) := by decide +kernel
theorem dX8_child_2 : decode cX8_child 2 = .ok (.bipush 17, 2) := by decide +kernel
theorem dX8_child_4 : decode cX8_child 4 = .ok (.invokestatic 39, 3) := by decide +kernel
theorem dX8_child_7 : decode cX8_child 7 = .ok (.aload_n 0, 1) := by decide +kernel
theorem dX8_child_8 : decode cX8_child 8 = .ok (.getfield 16, 3) := by decide +kernel
theorem dX8_child_11 : decode cX8_child 11 = .ok (.invokevirtual 43, 3) := by decide +kernel
theorem dX8_child_14 : decode cX8_child 14 = .ok (.bipush 24, 2) := by decide +kernel
theorem dX8_child_16 : decode cX8_child 16 = .ok (.invokestatic 47, 3) := by decide +kernel
theorem dX8_child_19 : decode cX8_child 19 = .ok (.aload_n 0, 1) := by decide +kernel
theorem dX8_child_20 : decode cX8_child 20 = .ok (.getfield 16, 3) := by decide +kernel
theorem dX8_child_23 : decode cX8_child 23 = .ok (.invokevirtual 43, 3) := by decide +kernel
theorem dX8_child_26 : decode cX8_child 26 = .ok (.istore_n 2, 1) := by decide +kernel
theorem dX8_child_27 : decode cX8_child 27 = .ok (.aload_n 0, 1) := by decide +kernel
theorem dX8_child_28 : decode cX8_child 28 = .ok (.getfield 16, 3) := by decide +kernel
theorem dX8_child_31 : decode cX8_child 31 = .ok (.new 60, 3) := by decide +kernel
theorem dX8_child_34 : decode cX8_child 34 = .ok (.dup, 1) := by decide +kernel
theorem dX8_child_35 : decode cX8_child 35 = .ok (.iload_n 2, 1) := by decide +kernel
theorem dX8_child_36 : decode cX8_child 36 = .ok (.iload_n 1, 1) := by decide +kernel
theorem dX8_child_37 : decode cX8_child 37 = .ok (.invokespecial 62, 3) := by decide +kernel
theorem dX8_child_40 : decode cX8_child 40 = .ok (.invokevirtual 56, 3) := by decide +kernel
theorem dX8_child_43 : decode cX8_child 43 = .ok (.pop, 1) := by decide +kernel
theorem dX8_child_44 : decode cX8_child 44 = .ok (.iload_n 2, 1) := by decide +kernel
theorem dX8_child_45 : decode cX8_child 45 = .ok (.ireturn, 1) := by decide +kernel
theorem dX8_join_0 : decode cX8_join 0 = .ok (.aload_n 0, 1) := by decide +kernel
theorem dX8_join_1 : decode cX8_join 1 = .ok (.iload_n 1, 1) := by decide +kernel
theorem dX8_join_2 : decode cX8_join 2 = .ok (.invokevirtual 64, 3) := by decide +kernel
theorem dX8_join_5 : decode cX8_join 5 = .ok (.astore_n 3, 1) := by decide +kernel
theorem dX8_join_6 : decode cX8_join 6 = .ok (.aload_n 0, 1) := by decide +kernel
theorem dX8_join_7 : decode cX8_join 7 = .ok (.iload_n 2, 1) := by decide +kernel
theorem dX8_join_8 : decode cX8_join 8 = .ok (.invokevirtual 68, 3) := by decide +kernel
theorem dX8_join_11 : decode cX8_join 11 = .ok (.astore 4, 2) := by decide +kernel
theorem dX8_join_13 : decode cX8_join 13 = .ok (.aload_n 3, 1) := by decide +kernel
theorem dX8_join_14 : decode cX8_join 14 = .ok (.getfield 72, 3) := by decide +kernel
theorem dX8_join_17 : decode cX8_join 17 = .ok (.iconst (-1), 1) := by decide +kernel
theorem dX8_join_18 : decode cX8_join 18 = .ok (.if_icmp .ne 11, 3) := by decide +kernel
theorem dX8_join_21 : decode cX8_join 21 = .ok (.aload_n 3, 1) := by decide +kernel
theorem dX8_join_22 : decode cX8_join 22 = .ok (.getfield 75, 3) := by decide +kernel
theorem dX8_join_25 : decode cX8_join 25 = .ok (.iconst (-1), 1) := by decide +kernel
theorem dX8_join_26 : decode cX8_join 26 = .ok (.if_icmp .eq 13, 3) := by decide +kernel
theorem dX8_join_29 : decode cX8_join 29 = .ok (.new 78, 3) := by decide +kernel
theorem dX8_join_32 : decode cX8_join 32 = .ok (.dup, 1) := by decide +kernel
theorem dX8_join_33 : decode cX8_join 33 = .ok (.ldc 80, 2) := by decide +kernel
theorem dX8_join_35 : decode cX8_join 35 = .ok (.invokespecial 82, 3) := by decide +kernel
theorem dX8_join_38 : decode cX8_join 38 = .ok (.athrow, 1) := by decide +kernel
theorem dX8_join_39 : decode cX8_join 39 = .ok (.aload 4, 2) := by decide +kernel
theorem dX8_join_41 : decode cX8_join 41 = .ok (.aload_n 3, 1) := by decide +kernel
theorem dX8_join_42 : decode cX8_join 42 = .ok (.getfield 85, 3) := by decide +kernel
theorem dX8_join_45 : decode cX8_join 45 = .ok (.invokevirtual 88, 3) := by decide +kernel
theorem dX8_join_48 : decode cX8_join 48 = .ok (.ifCond .ne 13, 3) := by decide +kernel
theorem dX8_join_51 : decode cX8_join 51 = .ok (.new 78, 3) := by decide +kernel
theorem dX8_join_54 : decode cX8_join 54 = .ok (.dup, 1) := by decide +kernel
theorem dX8_join_55 : decode cX8_join 55 = .ok (.ldc 92, 2) := by decide +kernel
theorem dX8_join_57 : decode cX8_join 57 = .ok (.invokespecial 82, 3) := by decide +kernel
theorem dX8_join_60 : decode cX8_join 60 = .ok (.athrow, 1) := by decide +kernel
theorem dX8_join_61 : decode cX8_join 61 = .ok (.aload_n 0, 1) := by decide +kernel
theorem dX8_join_62 : decode cX8_join 62 = .ok (.aload_n 3, 1) := by decide +kernel
theorem dX8_join_63 : decode cX8_join 63 = .ok (.aload 4, 2) := by decide +kernel
theorem dX8_join_65 : decode cX8_join 65 = .ok (.invokevirtual 94, 3) := by decide +kernel
theorem dX8_join_68 : decode cX8_join 68 = .ok (.ireturn, 1) := by decide +kernel
theorem dX8_leave_0 : decode cX8_leave 0 = .ok (.aload_n 0, 1) := by decide +kernel
theorem dX8_leave_1 : decode cX8_leave 1 = .ok (.iload_n 1, 1) := by decide +kernel
theorem dX8_leave_2 : decode cX8_leave 2 = .ok (.invokevirtual 64, 3) := by decide +kernel
theorem dX8_leave_5 : decode cX8_leave 5 = .ok (.astore_n 2, 1) := by decide +kernel
theorem dX8_leave_6 : decode cX8_leave 6 = .ok (.aload_n 2, 1) := by decide +kernel
theorem dX8_leave_7 : decode cX8_leave 7 = .ok (.getfield 72, 3) := by decide +kernel
theorem dX8_leave_10 : decode cX8_leave 10 = .ok (.iconst (-1), 1) := by decide +kernel
theorem dX8_leave_11 : decode cX8_leave 11 = .ok (.if_icmp .ne 21, 3) := by decide +kernel
theorem dX8_leave_14 : decode cX8_leave 14 = .ok (.aload_n 2, 1) := by decide +kernel
theorem dX8_leave_15 : decode cX8_leave 15 = .ok (.getfield 75, 3) := by decide +kernel
theorem dX8_leave_18 : decode cX8_leave 18 = .ok (.iconst (-1), 1) := by decide +kernel
theorem dX8_leave_19 : decode cX8_leave 19 = .ok (.if_icmp .ne 13, 3) := by decide +kernel
theorem dX8_leave_22 : decode cX8_leave 22 = .ok (.new 78, 3) := by decide +kernel
theorem dX8_leave_25 : decode cX8_leave 25 = .ok (.dup, 1) := by decide +kernel
theorem dX8_leave_26 : decode cX8_leave 26 = .ok (.ldc 98, 2) := by decide +kernel
theorem dX8_leave_28 : decode cX8_leave 28 = .ok (.invokespecial 82, 3) := by decide +kernel
theorem dX8_leave_31 : decode cX8_leave 31 = .ok (.athrow, 1) := by decide +kernel
theorem dX8_leave_32 : decode cX8_leave 32 = .ok (.aload_n 2, 1) := by decide +kernel
theorem dX8_leave_33 : decode cX8_leave 33 = .ok (.getfield 72, 3) := by decide +kernel
theorem dX8_leave_36 : decode cX8_leave 36 = .ok (.istore_n 3, 1) := by decide +kernel
theorem dX8_leave_37 : decode cX8_leave 37 = .ok (.aload_n 2, 1) := by decide +kernel
theorem dX8_leave_38 : decode cX8_leave 38 = .ok (.invokevirtual 100, 3) := by decide +kernel
theorem dX8_leave_41 : decode cX8_leave 41 = .ok (.iload_n 3, 1) := by decide +kernel
theorem dX8_leave_42 : decode cX8_leave 42 = .ok (.iconst (-1), 1) := by decide +kernel
theorem dX8_leave_43 : decode cX8_leave 43 = .ok (.if_icmp .ne 7, 3) := by decide +kernel
theorem dX8_leave_46 : decode cX8_leave 46 = .ok (.iconst (-1), 1) := by decide +kernel
theorem dX8_leave_47 : decode cX8_leave 47 = .ok (.goto 8, 3) := by decide +kernel
theorem dX8_leave_50 : decode cX8_leave 50 = .ok (.aload_n 0, 1) := by decide +kernel
theorem dX8_leave_51 : decode cX8_leave 51 = .ok (.iload_n 3, 1) := by decide +kernel
theorem dX8_leave_52 : decode cX8_leave 52 = .ok (.invokevirtual 103, 3) := by decide +kernel
theorem dX8_leave_55 : decode cX8_leave 55 = .ok (.ireturn, 1) := by decide +kernel
theorem dX8_patrol_0 : decode cX8_patrol 0 = .ok (.aload_n 0, 1) := by decide +kernel
theorem dX8_patrol_1 : decode cX8_patrol 1 = .ok (.iload_n 1, 1) := by decide +kernel
theorem dX8_patrol_2 : decode cX8_patrol 2 = .ok (.invokevirtual 64, 3) := by decide +kernel
theorem dX8_patrol_5 : decode cX8_patrol 5 = .ok (.astore_n 3, 1) := by decide +kernel
theorem dX8_patrol_6 : decode cX8_patrol 6 = .ok (.iload_n 2, 1) := by decide +kernel
theorem dX8_patrol_7 : decode cX8_patrol 7 = .ok (.iconst 0, 1) := by decide +kernel
theorem dX8_patrol_8 : decode cX8_patrol 8 = .ok (.iconst 3, 1) := by decide +kernel
theorem dX8_patrol_9 : decode cX8_patrol 9 = .ok (.invokestatic 39, 3) := by decide +kernel
theorem dX8_patrol_12 : decode cX8_patrol 12 = .ok (.aload_n 3, 1) := by decide +kernel
theorem dX8_patrol_13 : decode cX8_patrol 13 = .ok (.getfield 72, 3) := by decide +kernel
theorem dX8_patrol_16 : decode cX8_patrol 16 = .ok (.iconst (-1), 1) := by decide +kernel
theorem dX8_patrol_17 : decode cX8_patrol 17 = .ok (.if_icmp .ne 13, 3) := by decide +kernel
theorem dX8_patrol_20 : decode cX8_patrol 20 = .ok (.new 78, 3) := by decide +kernel
theorem dX8_patrol_23 : decode cX8_patrol 23 = .ok (.dup, 1) := by decide +kernel
theorem dX8_patrol_24 : decode cX8_patrol 24 = .ok (.ldc 107, 2) := by decide +kernel
theorem dX8_patrol_26 : decode cX8_patrol 26 = .ok (.invokespecial 82, 3) := by decide +kernel
theorem dX8_patrol_29 : decode cX8_patrol 29 = .ok (.athrow, 1) := by decide +kernel
theorem dX8_patrol_30 : decode cX8_patrol 30 = .ok (.aload_n 3, 1) := by decide +kernel
theorem dX8_patrol_31 : decode cX8_patrol 31 = .ok (.getfield 109, 3) := by decide +kernel
theorem dX8_patrol_34 : decode cX8_patrol 34 = .ok (.istore 4, 2) := by decide +kernel
theorem dX8_patrol_36 : decode cX8_patrol 36 = .ok (.aload_n 3, 1) := by decide +kernel
theorem dX8_patrol_37 : decode cX8_patrol 37 = .ok (.iload_n 2, 1) := by decide +kernel
theorem dX8_patrol_38 : decode cX8_patrol 38 = .ok (.putfield 109, 3) := by decide +kernel
theorem dX8_patrol_41 : decode cX8_patrol 41 = .ok (.iload 4, 2) := by decide +kernel
theorem dX8_patrol_43 : decode cX8_patrol 43 = .ok (.ireturn, 1) := by decide +kernel
theorem dX8_duty_0 : decode cX8_duty 0 = .ok (.aload_n 0, 1) := by decide +kernel
theorem dX8_duty_1 : decode cX8_duty 1 = .ok (.iload_n 1, 1) := by decide +kernel
theorem dX8_duty_2 : decode cX8_duty 2 = .ok (.invokevirtual 68, 3) := by decide +kernel
theorem dX8_duty_5 : decode cX8_duty 5 = .ok (.astore_n 3, 1) := by decide +kernel
theorem dX8_duty_6 : decode cX8_duty 6 = .ok (.iload_n 2, 1) := by decide +kernel
theorem dX8_duty_7 : decode cX8_duty 7 = .ok (.iconst 0, 1) := by decide +kernel
theorem dX8_duty_8 : decode cX8_duty 8 = .ok (.sipush 9999, 3) := by decide +kernel
theorem dX8_duty_11 : decode cX8_duty 11 = .ok (.invokestatic 39, 3) := by decide +kernel
theorem dX8_duty_14 : decode cX8_duty 14 = .ok (.aload_n 0, 1) := by decide +kernel
theorem dX8_duty_15 : decode cX8_duty 15 = .ok (.aload_n 3, 1) := by decide +kernel
theorem dX8_duty_16 : decode cX8_duty 16 = .ok (.getfield 112, 3) := by decide +kernel
theorem dX8_duty_19 : decode cX8_duty 19 = .ok (.invokevirtual 115, 3) := by decide +kernel
theorem dX8_duty_22 : decode cX8_duty 22 = .ok (.istore 4, 2) := by decide +kernel
theorem dX8_duty_24 : decode cX8_duty 24 = .ok (.iload 4, 2) := by decide +kernel
theorem dX8_duty_26 : decode cX8_duty 26 = .ok (.ifCond .ne 5, 3) := by decide +kernel
theorem dX8_duty_29 : decode cX8_duty 29 = .ok (.iconst (-1), 1) := by decide +kernel
theorem dX8_duty_30 : decode cX8_duty 30 = .ok (.ireturn, 1) := by decide +kernel
theorem dX8_duty_31 : decode cX8_duty 31 = .ok (.aload_n 0, 1) := by decide +kernel
theorem dX8_duty_32 : decode cX8_duty 32 = .ok (.aload_n 3, 1) := by decide +kernel
theorem dX8_duty_33 : decode cX8_duty 33 = .ok (.getfield 112, 3) := by decide +kernel
theorem dX8_duty_36 : decode cX8_duty 36 = .ok (.iload_n 2, 1) := by decide +kernel
theorem dX8_duty_37 : decode cX8_duty 37 = .ok (.iload 4, 2) := by decide +kernel
theorem dX8_duty_39 : decode cX8_duty 39 = .ok (.irem, 1) := by decide +kernel
theorem dX8_duty_40 : decode cX8_duty 40 = .ok (.invokevirtual 118, 3) := by decide +kernel
theorem dX8_duty_43 : decode cX8_duty 43 = .ok (.ireturn, 1) := by decide +kernel
theorem dX8_pass_0 : decode cX8_pass 0 = .ok (.iload_n 1, 1) := by decide +kernel
theorem dX8_pass_1 : decode cX8_pass 1 = .ok (.iconst 1, 1) := by decide +kernel
theorem dX8_pass_2 : decode cX8_pass 2 = .ok (.sipush 400, 3) := by decide +kernel
theorem dX8_pass_5 : decode cX8_pass 5 = .ok (.invokestatic 39, 3) := by decide +kernel
theorem dX8_pass_8 : decode cX8_pass 8 = .ok (.aload_n 0, 1) := by decide +kernel
theorem dX8_pass_9 : decode cX8_pass 9 = .ok (.getfield 32, 3) := by decide +kernel
theorem dX8_pass_12 : decode cX8_pass 12 = .ok (.iload_n 1, 1) := by decide +kernel
theorem dX8_pass_13 : decode cX8_pass 13 = .ok (.iadd, 1) := by decide +kernel
theorem dX8_pass_14 : decode cX8_pass 14 = .ok (.sipush 9999, 3) := by decide +kernel
theorem dX8_pass_17 : decode cX8_pass 17 = .ok (.if_icmp .le 13, 3) := by decide +kernel
theorem dX8_pass_20 : decode cX8_pass 20 = .ok (.new 78, 3) := by decide +kernel
theorem dX8_pass_23 : decode cX8_pass 23 = .ok (.dup, 1) := by decide +kernel
theorem dX8_pass_24 : decode cX8_pass 24 = .ok (.ldc 122, 2) := by decide +kernel
theorem dX8_pass_26 : decode cX8_pass 26 = .ok (.invokespecial 82, 3) := by decide +kernel
theorem dX8_pass_29 : decode cX8_pass 29 = .ok (.athrow, 1) := by decide +kernel
theorem dX8_pass_30 : decode cX8_pass 30 = .ok (.aload_n 0, 1) := by decide +kernel
theorem dX8_pass_31 : decode cX8_pass 31 = .ok (.dup, 1) := by decide +kernel
theorem dX8_pass_32 : decode cX8_pass 32 = .ok (.getfield 32, 3) := by decide +kernel
theorem dX8_pass_35 : decode cX8_pass 35 = .ok (.iload_n 1, 1) := by decide +kernel
theorem dX8_pass_36 : decode cX8_pass 36 = .ok (.iadd, 1) := by decide +kernel
theorem dX8_pass_37 : decode cX8_pass 37 = .ok (.putfield 32, 3) := by decide +kernel
theorem dX8_pass_40 : decode cX8_pass 40 = .ok (.aload_n 0, 1) := by decide +kernel
theorem dX8_pass_41 : decode cX8_pass 41 = .ok (.getfield 32, 3) := by decide +kernel
theorem dX8_pass_44 : decode cX8_pass 44 = .ok (.ireturn, 1) := by decide +kernel
theorem dX8_season_0 : decode cX8_season 0 = .ok (.iconst 0, 1) := by decide +kernel
theorem dX8_season_1 : decode cX8_season 1 = .ok (.istore_n 1, 1) := by decide +kernel
theorem dX8_season_2 : decode cX8_season 2 = .ok (.iload_n 1, 1) := by decide +kernel
theorem dX8_season_3 : decode cX8_season 3 = .ok (.aload_n 0, 1) := by decide +kernel
theorem dX8_season_4 : decode cX8_season 4 = .ok (.getfield 16, 3) := by decide +kernel
theorem dX8_season_7 : decode cX8_season 7 = .ok (.invokevirtual 43, 3) := by decide +kernel
theorem dX8_season_10 : decode cX8_season 10 = .ok (.if_icmp .ge 29, 3) := by decide +kernel
theorem dX8_season_13 : decode cX8_season 13 = .ok (.aload_n 0, 1) := by decide +kernel
theorem dX8_season_14 : decode cX8_season 14 = .ok (.getfield 16, 3) := by decide +kernel
theorem dX8_season_17 : decode cX8_season 17 = .ok (.iload_n 1, 1) := by decide +kernel
theorem dX8_season_18 : decode cX8_season 18 = .ok (.invokevirtual 124, 3) := by decide +kernel
theorem dX8_season_21 : decode cX8_season 21 = .ok (.checkcast 60, 3) := by decide +kernel
theorem dX8_season_24 : decode cX8_season 24 = .ok (.dup, 1) := by decide +kernel
theorem dX8_season_25 : decode cX8_season 25 = .ok (.getfield 85, 3) := by decide +kernel
theorem dX8_season_28 : decode cX8_season 28 = .ok (.iconst 1, 1) := by decide +kernel
theorem dX8_season_29 : decode cX8_season 29 = .ok (.iadd, 1) := by decide +kernel
theorem dX8_season_30 : decode cX8_season 30 = .ok (.putfield 85, 3) := by decide +kernel
theorem dX8_season_33 : decode cX8_season 33 = .ok (.iinc 1 1, 3) := by decide +kernel
theorem dX8_season_36 : decode cX8_season 36 = .ok (.goto (-34), 3) := by decide +kernel
theorem dX8_season_39 : decode cX8_season 39 = .ok (.aload_n 0, 1) := by decide +kernel
theorem dX8_season_40 : decode cX8_season 40 = .ok (.invokevirtual 128, 3) := by decide +kernel
theorem dX8_season_43 : decode cX8_season 43 = .ok (.istore_n 1, 1) := by decide +kernel
theorem dX8_season_44 : decode cX8_season 44 = .ok (.iconst 0, 1) := by decide +kernel
theorem dX8_season_45 : decode cX8_season 45 = .ok (.istore_n 2, 1) := by decide +kernel
theorem dX8_season_46 : decode cX8_season 46 = .ok (.iload_n 2, 1) := by decide +kernel
theorem dX8_season_47 : decode cX8_season 47 = .ok (.aload_n 0, 1) := by decide +kernel
theorem dX8_season_48 : decode cX8_season 48 = .ok (.getfield 10, 3) := by decide +kernel
theorem dX8_season_51 : decode cX8_season 51 = .ok (.invokevirtual 43, 3) := by decide +kernel
theorem dX8_season_54 : decode cX8_season 54 = .ok (.if_icmp .ge 24, 3) := by decide +kernel
theorem dX8_season_57 : decode cX8_season 57 = .ok (.aload_n 0, 1) := by decide +kernel
theorem dX8_season_58 : decode cX8_season 58 = .ok (.aload_n 0, 1) := by decide +kernel
theorem dX8_season_59 : decode cX8_season 59 = .ok (.getfield 10, 3) := by decide +kernel
theorem dX8_season_62 : decode cX8_season 62 = .ok (.iload_n 2, 1) := by decide +kernel
theorem dX8_season_63 : decode cX8_season 63 = .ok (.invokevirtual 124, 3) := by decide +kernel
theorem dX8_season_66 : decode cX8_season 66 = .ok (.checkcast 51, 3) := by decide +kernel
theorem dX8_season_69 : decode cX8_season 69 = .ok (.invokevirtual 131, 3) := by decide +kernel
theorem dX8_season_72 : decode cX8_season 72 = .ok (.iinc 2 1, 3) := by decide +kernel
theorem dX8_season_75 : decode cX8_season 75 = .ok (.goto (-29), 3) := by decide +kernel
theorem dX8_season_78 : decode cX8_season 78 = .ok (.iconst 0, 1) := by decide +kernel
theorem dX8_season_79 : decode cX8_season 79 = .ok (.istore_n 2, 1) := by decide +kernel
theorem dX8_season_80 : decode cX8_season 80 = .ok (.iload_n 2, 1) := by decide +kernel
theorem dX8_season_81 : decode cX8_season 81 = .ok (.aload_n 0, 1) := by decide +kernel
theorem dX8_season_82 : decode cX8_season 82 = .ok (.getfield 16, 3) := by decide +kernel
theorem dX8_season_85 : decode cX8_season 85 = .ok (.invokevirtual 43, 3) := by decide +kernel
theorem dX8_season_88 : decode cX8_season 88 = .ok (.if_icmp .ge 32, 3) := by decide +kernel
theorem dX8_season_91 : decode cX8_season 91 = .ok (.iload_n 1, 1) := by decide +kernel
theorem dX8_season_92 : decode cX8_season 92 = .ok (.iload_n 2, 1) := by decide +kernel
theorem dX8_season_93 : decode cX8_season 93 = .ok (.invokestatic 135, 3) := by decide +kernel
theorem dX8_season_96 : decode cX8_season 96 = .ok (.ifCond .eq 18, 3) := by decide +kernel
theorem dX8_season_99 : decode cX8_season 99 = .ok (.aload_n 0, 1) := by decide +kernel
theorem dX8_season_100 : decode cX8_season 100 = .ok (.aload_n 0, 1) := by decide +kernel
theorem dX8_season_101 : decode cX8_season 101 = .ok (.getfield 16, 3) := by decide +kernel
theorem dX8_season_104 : decode cX8_season 104 = .ok (.iload_n 2, 1) := by decide +kernel
theorem dX8_season_105 : decode cX8_season 105 = .ok (.invokevirtual 124, 3) := by decide +kernel
theorem dX8_season_108 : decode cX8_season 108 = .ok (.checkcast 60, 3) := by decide +kernel
theorem dX8_season_111 : decode cX8_season 111 = .ok (.invokevirtual 139, 3) := by decide +kernel
theorem dX8_season_114 : decode cX8_season 114 = .ok (.iinc 2 1, 3) := by decide +kernel
theorem dX8_season_117 : decode cX8_season 117 = .ok (.goto (-37), 3) := by decide +kernel
theorem dX8_season_120 : decode cX8_season 120 = .ok (.iload_n 1, 1) := by decide +kernel
theorem dX8_season_121 : decode cX8_season 121 = .ok (.invokestatic 143, 3) := by decide +kernel
theorem dX8_season_124 : decode cX8_season 124 = .ok (.ireturn, 1) := by decide +kernel
theorem dX8_leader_0 : decode cX8_leader 0 = .ok (.aload_n 0, 1) := by decide +kernel
theorem dX8_leader_1 : decode cX8_leader 1 = .ok (.getfield 19, 3) := by decide +kernel
theorem dX8_leader_4 : decode cX8_leader 4 = .ok (.invokevirtual 43, 3) := by decide +kernel
theorem dX8_leader_7 : decode cX8_leader 7 = .ok (.bipush 8, 2) := by decide +kernel
theorem dX8_leader_9 : decode cX8_leader 9 = .ok (.invokestatic 47, 3) := by decide +kernel
theorem dX8_leader_12 : decode cX8_leader 12 = .ok (.aload_n 0, 1) := by decide +kernel
theorem dX8_leader_13 : decode cX8_leader 13 = .ok (.getfield 19, 3) := by decide +kernel
theorem dX8_leader_16 : decode cX8_leader 16 = .ok (.new 148, 3) := by decide +kernel
theorem dX8_leader_19 : decode cX8_leader 19 = .ok (.dup, 1) := by decide +kernel
theorem dX8_leader_20 : decode cX8_leader 20 = .ok (.invokespecial 150, 3) := by decide +kernel
theorem dX8_leader_23 : decode cX8_leader 23 = .ok (.invokevirtual 56, 3) := by decide +kernel
theorem dX8_leader_26 : decode cX8_leader 26 = .ok (.pop, 1) := by decide +kernel
theorem dX8_leader_27 : decode cX8_leader 27 = .ok (.aload_n 0, 1) := by decide +kernel
theorem dX8_leader_28 : decode cX8_leader 28 = .ok (.getfield 19, 3) := by decide +kernel
theorem dX8_leader_31 : decode cX8_leader 31 = .ok (.invokevirtual 43, 3) := by decide +kernel
theorem dX8_leader_34 : decode cX8_leader 34 = .ok (.iconst 1, 1) := by decide +kernel
theorem dX8_leader_35 : decode cX8_leader 35 = .ok (.isub, 1) := by decide +kernel
theorem dX8_leader_36 : decode cX8_leader 36 = .ok (.ireturn, 1) := by decide +kernel
theorem dX8_vet_0 : decode cX8_vet 0 = .ok (.aload_n 0, 1) := by decide +kernel
theorem dX8_vet_1 : decode cX8_vet 1 = .ok (.iload_n 1, 1) := by decide +kernel
theorem dX8_vet_2 : decode cX8_vet 2 = .ok (.invokevirtual 151, 3) := by decide +kernel
theorem dX8_vet_5 : decode cX8_vet 5 = .ok (.astore 5, 2) := by decide +kernel
theorem dX8_vet_7 : decode cX8_vet 7 = .ok (.iload_n 2, 1) := by decide +kernel
theorem dX8_vet_8 : decode cX8_vet 8 = .ok (.iconst 3, 1) := by decide +kernel
theorem dX8_vet_9 : decode cX8_vet 9 = .ok (.invokestatic 155, 3) := by decide +kernel
theorem dX8_vet_12 : decode cX8_vet 12 = .ok (.iload_n 3, 1) := by decide +kernel
theorem dX8_vet_13 : decode cX8_vet 13 = .ok (.iconst 0, 1) := by decide +kernel
theorem dX8_vet_14 : decode cX8_vet 14 = .ok (.sipush 9999, 3) := by decide +kernel
theorem dX8_vet_17 : decode cX8_vet 17 = .ok (.invokestatic 39, 3) := by decide +kernel
theorem dX8_vet_20 : decode cX8_vet 20 = .ok (.iload 4, 2) := by decide +kernel
theorem dX8_vet_22 : decode cX8_vet 22 = .ok (.iload_n 3, 1) := by decide +kernel
theorem dX8_vet_23 : decode cX8_vet 23 = .ok (.sipush 9999, 3) := by decide +kernel
theorem dX8_vet_26 : decode cX8_vet 26 = .ok (.invokestatic 39, 3) := by decide +kernel
theorem dX8_vet_29 : decode cX8_vet 29 = .ok (.aload 5, 2) := by decide +kernel
theorem dX8_vet_31 : decode cX8_vet 31 = .ok (.iload_n 2, 1) := by decide +kernel
theorem dX8_vet_32 : decode cX8_vet 32 = .ok (.iload_n 3, 1) := by decide +kernel
theorem dX8_vet_33 : decode cX8_vet 33 = .ok (.iload 4, 2) := by decide +kernel
theorem dX8_vet_35 : decode cX8_vet 35 = .ok (.invokevirtual 158, 3) := by decide +kernel
theorem dX8_vet_38 : decode cX8_vet 38 = .ok (.return_, 1) := by decide +kernel
theorem dX8_permit_0 : decode cX8_permit 0 = .ok (.aload_n 0, 1) := by decide +kernel
theorem dX8_permit_1 : decode cX8_permit 1 = .ok (.iload_n 1, 1) := by decide +kernel
theorem dX8_permit_2 : decode cX8_permit 2 = .ok (.invokevirtual 151, 3) := by decide +kernel
theorem dX8_permit_5 : decode cX8_permit 5 = .ok (.astore 4, 2) := by decide +kernel
theorem dX8_permit_7 : decode cX8_permit 7 = .ok (.iload_n 2, 1) := by decide +kernel
theorem dX8_permit_8 : decode cX8_permit 8 = .ok (.iconst 1, 1) := by decide +kernel
theorem dX8_permit_9 : decode cX8_permit 9 = .ok (.iconst 3, 1) := by decide +kernel
theorem dX8_permit_10 : decode cX8_permit 10 = .ok (.invokestatic 39, 3) := by decide +kernel
theorem dX8_permit_13 : decode cX8_permit 13 = .ok (.iload_n 3, 1) := by decide +kernel
theorem dX8_permit_14 : decode cX8_permit 14 = .ok (.iconst (-1), 1) := by decide +kernel
theorem dX8_permit_15 : decode cX8_permit 15 = .ok (.sipush 9999, 3) := by decide +kernel
theorem dX8_permit_18 : decode cX8_permit 18 = .ok (.invokestatic 39, 3) := by decide +kernel
theorem dX8_permit_21 : decode cX8_permit 21 = .ok (.aload 4, 2) := by decide +kernel
theorem dX8_permit_23 : decode cX8_permit 23 = .ok (.iload_n 2, 1) := by decide +kernel
theorem dX8_permit_24 : decode cX8_permit 24 = .ok (.invokevirtual 161, 3) := by decide +kernel
theorem dX8_permit_27 : decode cX8_permit 27 = .ok (.istore 5, 2) := by decide +kernel
theorem dX8_permit_29 : decode cX8_permit 29 = .ok (.aload 4, 2) := by decide +kernel
theorem dX8_permit_31 : decode cX8_permit 31 = .ok (.iload_n 2, 1) := by decide +kernel
theorem dX8_permit_32 : decode cX8_permit 32 = .ok (.iload_n 3, 1) := by decide +kernel
theorem dX8_permit_33 : decode cX8_permit 33 = .ok (.invokevirtual 164, 3) := by decide +kernel
theorem dX8_permit_36 : decode cX8_permit 36 = .ok (.iload 5, 2) := by decide +kernel
theorem dX8_permit_38 : decode cX8_permit 38 = .ok (.ireturn, 1) := by decide +kernel
theorem dX8_teach_0 : decode cX8_teach 0 = .ok (.aload_n 0, 1) := by decide +kernel
theorem dX8_teach_1 : decode cX8_teach 1 = .ok (.iload_n 1, 1) := by decide +kernel
theorem dX8_teach_2 : decode cX8_teach 2 = .ok (.invokevirtual 151, 3) := by decide +kernel
theorem dX8_teach_5 : decode cX8_teach 5 = .ok (.astore_n 3, 1) := by decide +kernel
theorem dX8_teach_6 : decode cX8_teach 6 = .ok (.iload_n 2, 1) := by decide +kernel
theorem dX8_teach_7 : decode cX8_teach 7 = .ok (.iconst 0, 1) := by decide +kernel
theorem dX8_teach_8 : decode cX8_teach 8 = .ok (.ldc 167, 2) := by decide +kernel
theorem dX8_teach_10 : decode cX8_teach 10 = .ok (.invokestatic 39, 3) := by decide +kernel
theorem dX8_teach_13 : decode cX8_teach 13 = .ok (.aload_n 3, 1) := by decide +kernel
theorem dX8_teach_14 : decode cX8_teach 14 = .ok (.getfield 168, 3) := by decide +kernel
theorem dX8_teach_17 : decode cX8_teach 17 = .ok (.istore 4, 2) := by decide +kernel
theorem dX8_teach_19 : decode cX8_teach 19 = .ok (.aload_n 3, 1) := by decide +kernel
theorem dX8_teach_20 : decode cX8_teach 20 = .ok (.iload_n 2, 1) := by decide +kernel
theorem dX8_teach_21 : decode cX8_teach 21 = .ok (.putfield 168, 3) := by decide +kernel
theorem dX8_teach_24 : decode cX8_teach 24 = .ok (.iload 4, 2) := by decide +kernel
theorem dX8_teach_26 : decode cX8_teach 26 = .ok (.ireturn, 1) := by decide +kernel
theorem dX8_edition_0 : decode cX8_edition 0 = .ok (.aload_n 0, 1) := by decide +kernel
theorem dX8_edition_1 : decode cX8_edition 1 = .ok (.iload_n 1, 1) := by decide +kernel
theorem dX8_edition_2 : decode cX8_edition 2 = .ok (.invokevirtual 171, 3) := by decide +kernel
theorem dX8_edition_5 : decode cX8_edition 5 = .ok (.astore 8, 2) := by decide +kernel
theorem dX8_edition_7 : decode cX8_edition 7 = .ok (.iload_n 2, 1) := by decide +kernel
theorem dX8_edition_8 : decode cX8_edition 8 = .ok (.iconst 0, 1) := by decide +kernel
theorem dX8_edition_9 : decode cX8_edition 9 = .ok (.ldc 167, 2) := by decide +kernel
theorem dX8_edition_11 : decode cX8_edition 11 = .ok (.invokestatic 39, 3) := by decide +kernel
theorem dX8_edition_14 : decode cX8_edition 14 = .ok (.iload_n 3, 1) := by decide +kernel
theorem dX8_edition_15 : decode cX8_edition 15 = .ok (.iconst 0, 1) := by decide +kernel
theorem dX8_edition_16 : decode cX8_edition 16 = .ok (.ldc 167, 2) := by decide +kernel
theorem dX8_edition_18 : decode cX8_edition 18 = .ok (.invokestatic 39, 3) := by decide +kernel
theorem dX8_edition_21 : decode cX8_edition 21 = .ok (.iload_n 2, 1) := by decide +kernel
theorem dX8_edition_22 : decode cX8_edition 22 = .ok (.iload_n 3, 1) := by decide +kernel
theorem dX8_edition_23 : decode cX8_edition 23 = .ok (.iand, 1) := by decide +kernel
theorem dX8_edition_24 : decode cX8_edition 24 = .ok (.ifCond .eq 13, 3) := by decide +kernel
theorem dX8_edition_27 : decode cX8_edition 27 = .ok (.new 175, 3) := by decide +kernel
theorem dX8_edition_30 : decode cX8_edition 30 = .ok (.dup, 1) := by decide +kernel
theorem dX8_edition_31 : decode cX8_edition 31 = .ok (.ldc 177, 2) := by decide +kernel
theorem dX8_edition_33 : decode cX8_edition 33 = .ok (.invokespecial 179, 3) := by decide +kernel
theorem dX8_edition_36 : decode cX8_edition 36 = .ok (.athrow, 1) := by decide +kernel
theorem dX8_edition_37 : decode cX8_edition 37 = .ok (.iload 4, 2) := by decide +kernel
theorem dX8_edition_39 : decode cX8_edition 39 = .ok (.iconst 0, 1) := by decide +kernel
theorem dX8_edition_40 : decode cX8_edition 40 = .ok (.iload_n 3, 1) := by decide +kernel
theorem dX8_edition_41 : decode cX8_edition 41 = .ok (.invokestatic 143, 3) := by decide +kernel
theorem dX8_edition_44 : decode cX8_edition 44 = .ok (.invokestatic 39, 3) := by decide +kernel
theorem dX8_edition_47 : decode cX8_edition 47 = .ok (.iload 5, 2) := by decide +kernel
theorem dX8_edition_49 : decode cX8_edition 49 = .ok (.iconst (-1), 1) := by decide +kernel
theorem dX8_edition_50 : decode cX8_edition 50 = .ok (.iload_n 1, 1) := by decide +kernel
theorem dX8_edition_51 : decode cX8_edition 51 = .ok (.iconst 1, 1) := by decide +kernel
theorem dX8_edition_52 : decode cX8_edition 52 = .ok (.isub, 1) := by decide +kernel
theorem dX8_edition_53 : decode cX8_edition 53 = .ok (.invokestatic 39, 3) := by decide +kernel
theorem dX8_edition_56 : decode cX8_edition 56 = .ok (.iload 5, 2) := by decide +kernel
theorem dX8_edition_58 : decode cX8_edition 58 = .ok (.iconst (-1), 1) := by decide +kernel
theorem dX8_edition_59 : decode cX8_edition 59 = .ok (.if_icmp .eq 12, 3) := by decide +kernel
theorem dX8_edition_62 : decode cX8_edition 62 = .ok (.iload 6, 2) := by decide +kernel
theorem dX8_edition_64 : decode cX8_edition 64 = .ok (.iconst 0, 1) := by decide +kernel
theorem dX8_edition_65 : decode cX8_edition 65 = .ok (.sipush 400, 3) := by decide +kernel
theorem dX8_edition_68 : decode cX8_edition 68 = .ok (.invokestatic 39, 3) := by decide +kernel
theorem dX8_edition_71 : decode cX8_edition 71 = .ok (.iload 7, 2) := by decide +kernel
theorem dX8_edition_73 : decode cX8_edition 73 = .ok (.iconst 0, 1) := by decide +kernel
theorem dX8_edition_74 : decode cX8_edition 74 = .ok (.sipush 4000, 3) := by decide +kernel
theorem dX8_edition_77 : decode cX8_edition 77 = .ok (.invokestatic 39, 3) := by decide +kernel
theorem dX8_edition_80 : decode cX8_edition 80 = .ok (.aload 8, 2) := by decide +kernel
theorem dX8_edition_82 : decode cX8_edition 82 = .ok (.getfield 180, 3) := by decide +kernel
theorem dX8_edition_85 : decode cX8_edition 85 = .ok (.invokevirtual 43, 3) := by decide +kernel
theorem dX8_edition_88 : decode cX8_edition 88 = .ok (.iconst 3, 1) := by decide +kernel
theorem dX8_edition_89 : decode cX8_edition 89 = .ok (.invokestatic 47, 3) := by decide +kernel
theorem dX8_edition_92 : decode cX8_edition 92 = .ok (.aload 8, 2) := by decide +kernel
theorem dX8_edition_94 : decode cX8_edition 94 = .ok (.getfield 180, 3) := by decide +kernel
theorem dX8_edition_97 : decode cX8_edition 97 = .ok (.new 183, 3) := by decide +kernel
theorem dX8_edition_100 : decode cX8_edition 100 = .ok (.dup, 1) := by decide +kernel
theorem dX8_edition_101 : decode cX8_edition 101 = .ok (.iload_n 2, 1) := by decide +kernel
theorem dX8_edition_102 : decode cX8_edition 102 = .ok (.iload_n 3, 1) := by decide +kernel
theorem dX8_edition_103 : decode cX8_edition 103 = .ok (.iload 4, 2) := by decide +kernel
theorem dX8_edition_105 : decode cX8_edition 105 = .ok (.iload 5, 2) := by decide +kernel
theorem dX8_edition_107 : decode cX8_edition 107 = .ok (.iload 6, 2) := by decide +kernel
theorem dX8_edition_109 : decode cX8_edition 109 = .ok (.iload 7, 2) := by decide +kernel
theorem dX8_edition_111 : decode cX8_edition 111 = .ok (.invokespecial 185, 3) := by decide +kernel
theorem dX8_edition_114 : decode cX8_edition 114 = .ok (.invokevirtual 56, 3) := by decide +kernel
theorem dX8_edition_117 : decode cX8_edition 117 = .ok (.pop, 1) := by decide +kernel
theorem dX8_edition_118 : decode cX8_edition 118 = .ok (.aload 8, 2) := by decide +kernel
theorem dX8_edition_120 : decode cX8_edition 120 = .ok (.getfield 180, 3) := by decide +kernel
theorem dX8_edition_123 : decode cX8_edition 123 = .ok (.invokevirtual 43, 3) := by decide +kernel
theorem dX8_edition_126 : decode cX8_edition 126 = .ok (.iconst 1, 1) := by decide +kernel
theorem dX8_edition_127 : decode cX8_edition 127 = .ok (.isub, 1) := by decide +kernel
theorem dX8_edition_128 : decode cX8_edition 128 = .ok (.ireturn, 1) := by decide +kernel
theorem dX8_begin_0 : decode cX8_begin 0 = .ok (.aload_n 0, 1) := by decide +kernel
theorem dX8_begin_1 : decode cX8_begin 1 = .ok (.iload_n 1, 1) := by decide +kernel
theorem dX8_begin_2 : decode cX8_begin 2 = .ok (.invokevirtual 64, 3) := by decide +kernel
theorem dX8_begin_5 : decode cX8_begin 5 = .ok (.astore_n 3, 1) := by decide +kernel
theorem dX8_begin_6 : decode cX8_begin 6 = .ok (.aload_n 0, 1) := by decide +kernel
theorem dX8_begin_7 : decode cX8_begin 7 = .ok (.iload_n 2, 1) := by decide +kernel
theorem dX8_begin_8 : decode cX8_begin 8 = .ok (.invokevirtual 171, 3) := by decide +kernel
theorem dX8_begin_11 : decode cX8_begin 11 = .ok (.astore 4, 2) := by decide +kernel
theorem dX8_begin_13 : decode cX8_begin 13 = .ok (.aload 4, 2) := by decide +kernel
theorem dX8_begin_15 : decode cX8_begin 15 = .ok (.getfield 180, 3) := by decide +kernel
theorem dX8_begin_18 : decode cX8_begin 18 = .ok (.invokevirtual 43, 3) := by decide +kernel
theorem dX8_begin_21 : decode cX8_begin 21 = .ok (.istore 5, 2) := by decide +kernel
theorem dX8_begin_23 : decode cX8_begin 23 = .ok (.iload 5, 2) := by decide +kernel
theorem dX8_begin_25 : decode cX8_begin 25 = .ok (.ifCond .ne 13, 3) := by decide +kernel
theorem dX8_begin_28 : decode cX8_begin 28 = .ok (.new 78, 3) := by decide +kernel
theorem dX8_begin_31 : decode cX8_begin 31 = .ok (.dup, 1) := by decide +kernel
theorem dX8_begin_32 : decode cX8_begin 32 = .ok (.ldc 188, 2) := by decide +kernel
theorem dX8_begin_34 : decode cX8_begin 34 = .ok (.invokespecial 82, 3) := by decide +kernel
theorem dX8_begin_37 : decode cX8_begin 37 = .ok (.athrow, 1) := by decide +kernel
theorem dX8_begin_38 : decode cX8_begin 38 = .ok (.aload_n 3, 1) := by decide +kernel
theorem dX8_begin_39 : decode cX8_begin 39 = .ok (.iload_n 2, 1) := by decide +kernel
theorem dX8_begin_40 : decode cX8_begin 40 = .ok (.invokevirtual 190, 3) := by decide +kernel
theorem dX8_begin_43 : decode cX8_begin 43 = .ok (.ifnull 13, 3) := by decide +kernel
theorem dX8_begin_46 : decode cX8_begin 46 = .ok (.new 78, 3) := by decide +kernel
theorem dX8_begin_49 : decode cX8_begin 49 = .ok (.dup, 1) := by decide +kernel
theorem dX8_begin_50 : decode cX8_begin 50 = .ok (.ldc 194, 2) := by decide +kernel
theorem dX8_begin_52 : decode cX8_begin 52 = .ok (.invokespecial 82, 3) := by decide +kernel
theorem dX8_begin_55 : decode cX8_begin 55 = .ok (.athrow, 1) := by decide +kernel
theorem dX8_begin_56 : decode cX8_begin 56 = .ok (.aload_n 3, 1) := by decide +kernel
theorem dX8_begin_57 : decode cX8_begin 57 = .ok (.iload_n 2, 1) := by decide +kernel
theorem dX8_begin_58 : decode cX8_begin 58 = .ok (.new 196, 3) := by decide +kernel
theorem dX8_begin_61 : decode cX8_begin 61 = .ok (.dup, 1) := by decide +kernel
theorem dX8_begin_62 : decode cX8_begin 62 = .ok (.aload 4, 2) := by decide +kernel
theorem dX8_begin_64 : decode cX8_begin 64 = .ok (.getfield 180, 3) := by decide +kernel
theorem dX8_begin_67 : decode cX8_begin 67 = .ok (.iload 5, 2) := by decide +kernel
theorem dX8_begin_69 : decode cX8_begin 69 = .ok (.iconst 1, 1) := by decide +kernel
theorem dX8_begin_70 : decode cX8_begin 70 = .ok (.isub, 1) := by decide +kernel
theorem dX8_begin_71 : decode cX8_begin 71 = .ok (.invokevirtual 124, 3) := by decide +kernel
theorem dX8_begin_74 : decode cX8_begin 74 = .ok (.checkcast 183, 3) := by decide +kernel
theorem dX8_begin_77 : decode cX8_begin 77 = .ok (.aload_n 0, 1) := by decide +kernel
theorem dX8_begin_78 : decode cX8_begin 78 = .ok (.getfield 32, 3) := by decide +kernel
theorem dX8_begin_81 : decode cX8_begin 81 = .ok (.invokespecial 198, 3) := by decide +kernel
theorem dX8_begin_84 : decode cX8_begin 84 = .ok (.invokevirtual 201, 3) := by decide +kernel
theorem dX8_begin_87 : decode cX8_begin 87 = .ok (.iload 5, 2) := by decide +kernel
theorem dX8_begin_89 : decode cX8_begin 89 = .ok (.iconst 1, 1) := by decide +kernel
theorem dX8_begin_90 : decode cX8_begin 90 = .ok (.isub, 1) := by decide +kernel
theorem dX8_begin_91 : decode cX8_begin 91 = .ok (.ireturn, 1) := by decide +kernel
theorem dX8_prove_0 : decode cX8_prove 0 = .ok (.aload_n 0, 1) := by decide +kernel
theorem dX8_prove_1 : decode cX8_prove 1 = .ok (.iload_n 1, 1) := by decide +kernel
theorem dX8_prove_2 : decode cX8_prove 2 = .ok (.invokevirtual 64, 3) := by decide +kernel
theorem dX8_prove_5 : decode cX8_prove 5 = .ok (.astore 4, 2) := by decide +kernel
theorem dX8_prove_7 : decode cX8_prove 7 = .ok (.iload_n 2, 1) := by decide +kernel
theorem dX8_prove_8 : decode cX8_prove 8 = .ok (.bipush 16, 2) := by decide +kernel
theorem dX8_prove_10 : decode cX8_prove 10 = .ok (.invokestatic 155, 3) := by decide +kernel
theorem dX8_prove_13 : decode cX8_prove 13 = .ok (.aload_n 0, 1) := by decide +kernel
theorem dX8_prove_14 : decode cX8_prove 14 = .ok (.iload_n 3, 1) := by decide +kernel
theorem dX8_prove_15 : decode cX8_prove 15 = .ok (.invokevirtual 151, 3) := by decide +kernel
theorem dX8_prove_18 : decode cX8_prove 18 = .ok (.astore 5, 2) := by decide +kernel
theorem dX8_prove_20 : decode cX8_prove 20 = .ok (.aload 5, 2) := by decide +kernel
theorem dX8_prove_22 : decode cX8_prove 22 = .ok (.aload_n 0, 1) := by decide +kernel
theorem dX8_prove_23 : decode cX8_prove 23 = .ok (.getfield 32, 3) := by decide +kernel
theorem dX8_prove_26 : decode cX8_prove 26 = .ok (.invokevirtual 205, 3) := by decide +kernel
theorem dX8_prove_29 : decode cX8_prove 29 = .ok (.ifCond .ne 13, 3) := by decide +kernel
theorem dX8_prove_32 : decode cX8_prove 32 = .ok (.new 78, 3) := by decide +kernel
theorem dX8_prove_35 : decode cX8_prove 35 = .ok (.dup, 1) := by decide +kernel
theorem dX8_prove_36 : decode cX8_prove 36 = .ok (.ldc 208, 2) := by decide +kernel
theorem dX8_prove_38 : decode cX8_prove 38 = .ok (.invokespecial 82, 3) := by decide +kernel
theorem dX8_prove_41 : decode cX8_prove 41 = .ok (.athrow, 1) := by decide +kernel
theorem dX8_prove_42 : decode cX8_prove 42 = .ok (.aload 5, 2) := by decide +kernel
theorem dX8_prove_44 : decode cX8_prove 44 = .ok (.getfield 168, 3) := by decide +kernel
theorem dX8_prove_47 : decode cX8_prove 47 = .ok (.iload_n 2, 1) := by decide +kernel
theorem dX8_prove_48 : decode cX8_prove 48 = .ok (.invokestatic 135, 3) := by decide +kernel
theorem dX8_prove_51 : decode cX8_prove 51 = .ok (.ifCond .ne 13, 3) := by decide +kernel
theorem dX8_prove_54 : decode cX8_prove 54 = .ok (.new 78, 3) := by decide +kernel
theorem dX8_prove_57 : decode cX8_prove 57 = .ok (.dup, 1) := by decide +kernel
theorem dX8_prove_58 : decode cX8_prove 58 = .ok (.ldc 210, 2) := by decide +kernel
theorem dX8_prove_60 : decode cX8_prove 60 = .ok (.invokespecial 82, 3) := by decide +kernel
theorem dX8_prove_63 : decode cX8_prove 63 = .ok (.athrow, 1) := by decide +kernel
theorem dX8_prove_64 : decode cX8_prove 64 = .ok (.aload 4, 2) := by decide +kernel
theorem dX8_prove_66 : decode cX8_prove 66 = .ok (.getfield 212, 3) := by decide +kernel
theorem dX8_prove_69 : decode cX8_prove 69 = .ok (.iload_n 2, 1) := by decide +kernel
theorem dX8_prove_70 : decode cX8_prove 70 = .ok (.invokestatic 135, 3) := by decide +kernel
theorem dX8_prove_73 : decode cX8_prove 73 = .ok (.ifCond .eq 13, 3) := by decide +kernel
theorem dX8_prove_76 : decode cX8_prove 76 = .ok (.new 78, 3) := by decide +kernel
theorem dX8_prove_79 : decode cX8_prove 79 = .ok (.dup, 1) := by decide +kernel
theorem dX8_prove_80 : decode cX8_prove 80 = .ok (.ldc 215, 2) := by decide +kernel
theorem dX8_prove_82 : decode cX8_prove 82 = .ok (.invokespecial 82, 3) := by decide +kernel
theorem dX8_prove_85 : decode cX8_prove 85 = .ok (.athrow, 1) := by decide +kernel
theorem dX8_prove_86 : decode cX8_prove 86 = .ok (.aload 4, 2) := by decide +kernel
theorem dX8_prove_88 : decode cX8_prove 88 = .ok (.iload_n 2, 1) := by decide +kernel
theorem dX8_prove_89 : decode cX8_prove 89 = .ok (.aload_n 0, 1) := by decide +kernel
theorem dX8_prove_90 : decode cX8_prove 90 = .ok (.getfield 32, 3) := by decide +kernel
theorem dX8_prove_93 : decode cX8_prove 93 = .ok (.invokevirtual 217, 3) := by decide +kernel
theorem dX8_prove_96 : decode cX8_prove 96 = .ok (.aload 4, 2) := by decide +kernel
theorem dX8_prove_98 : decode cX8_prove 98 = .ok (.aload_n 0, 1) := by decide +kernel
theorem dX8_prove_99 : decode cX8_prove 99 = .ok (.getfield 32, 3) := by decide +kernel
theorem dX8_prove_102 : decode cX8_prove 102 = .ok (.invokevirtual 220, 3) := by decide +kernel
theorem dX8_prove_105 : decode cX8_prove 105 = .ok (.ireturn, 1) := by decide +kernel
theorem dX8_event_0 : decode cX8_event 0 = .ok (.aload_n 0, 1) := by decide +kernel
theorem dX8_event_1 : decode cX8_event 1 = .ok (.iload_n 1, 1) := by decide +kernel
theorem dX8_event_2 : decode cX8_event 2 = .ok (.invokevirtual 68, 3) := by decide +kernel
theorem dX8_event_5 : decode cX8_event 5 = .ok (.astore 7, 2) := by decide +kernel
theorem dX8_event_7 : decode cX8_event 7 = .ok (.iload_n 2, 1) := by decide +kernel
theorem dX8_event_8 : decode cX8_event 8 = .ok (.iconst 3, 1) := by decide +kernel
theorem dX8_event_9 : decode cX8_event 9 = .ok (.invokestatic 155, 3) := by decide +kernel
theorem dX8_event_12 : decode cX8_event 12 = .ok (.iload_n 3, 1) := by decide +kernel
theorem dX8_event_13 : decode cX8_event 13 = .ok (.iconst 0, 1) := by decide +kernel
theorem dX8_event_14 : decode cX8_event 14 = .ok (.iconst 3, 1) := by decide +kernel
theorem dX8_event_15 : decode cX8_event 15 = .ok (.invokestatic 39, 3) := by decide +kernel
theorem dX8_event_18 : decode cX8_event 18 = .ok (.iload 4, 2) := by decide +kernel
theorem dX8_event_20 : decode cX8_event 20 = .ok (.aload_n 0, 1) := by decide +kernel
theorem dX8_event_21 : decode cX8_event 21 = .ok (.getfield 32, 3) := by decide +kernel
theorem dX8_event_24 : decode cX8_event 24 = .ok (.sipush 9999, 3) := by decide +kernel
theorem dX8_event_27 : decode cX8_event 27 = .ok (.invokestatic 39, 3) := by decide +kernel
theorem dX8_event_30 : decode cX8_event 30 = .ok (.iload 5, 2) := by decide +kernel
theorem dX8_event_32 : decode cX8_event 32 = .ok (.iconst 0, 1) := by decide +kernel
theorem dX8_event_33 : decode cX8_event 33 = .ok (.bipush 23, 2) := by decide +kernel
theorem dX8_event_35 : decode cX8_event 35 = .ok (.invokestatic 39, 3) := by decide +kernel
theorem dX8_event_38 : decode cX8_event 38 = .ok (.iload 6, 2) := by decide +kernel
theorem dX8_event_40 : decode cX8_event 40 = .ok (.iconst 1, 1) := by decide +kernel
theorem dX8_event_41 : decode cX8_event 41 = .ok (.bipush 24, 2) := by decide +kernel
theorem dX8_event_43 : decode cX8_event 43 = .ok (.iload 5, 2) := by decide +kernel
theorem dX8_event_45 : decode cX8_event 45 = .ok (.isub, 1) := by decide +kernel
theorem dX8_event_46 : decode cX8_event 46 = .ok (.invokestatic 39, 3) := by decide +kernel
theorem dX8_event_49 : decode cX8_event 49 = .ok (.aload_n 0, 1) := by decide +kernel
theorem dX8_event_50 : decode cX8_event 50 = .ok (.getfield 22, 3) := by decide +kernel
theorem dX8_event_53 : decode cX8_event 53 = .ok (.invokevirtual 43, 3) := by decide +kernel
theorem dX8_event_56 : decode cX8_event 56 = .ok (.bipush 20, 2) := by decide +kernel
theorem dX8_event_58 : decode cX8_event 58 = .ok (.invokestatic 47, 3) := by decide +kernel
theorem dX8_event_61 : decode cX8_event 61 = .ok (.aload_n 0, 1) := by decide +kernel
theorem dX8_event_62 : decode cX8_event 62 = .ok (.getfield 22, 3) := by decide +kernel
theorem dX8_event_65 : decode cX8_event 65 = .ok (.new 223, 3) := by decide +kernel
theorem dX8_event_68 : decode cX8_event 68 = .ok (.dup, 1) := by decide +kernel
theorem dX8_event_69 : decode cX8_event 69 = .ok (.aload 7, 2) := by decide +kernel
theorem dX8_event_71 : decode cX8_event 71 = .ok (.getfield 112, 3) := by decide +kernel
theorem dX8_event_74 : decode cX8_event 74 = .ok (.iload_n 2, 1) := by decide +kernel
theorem dX8_event_75 : decode cX8_event 75 = .ok (.iload_n 3, 1) := by decide +kernel
theorem dX8_event_76 : decode cX8_event 76 = .ok (.iload 4, 2) := by decide +kernel
theorem dX8_event_78 : decode cX8_event 78 = .ok (.iload 5, 2) := by decide +kernel
theorem dX8_event_80 : decode cX8_event 80 = .ok (.iload 6, 2) := by decide +kernel
theorem dX8_event_82 : decode cX8_event 82 = .ok (.invokespecial 225, 3) := by decide +kernel
theorem dX8_event_85 : decode cX8_event 85 = .ok (.invokevirtual 56, 3) := by decide +kernel
theorem dX8_event_88 : decode cX8_event 88 = .ok (.pop, 1) := by decide +kernel
theorem dX8_event_89 : decode cX8_event 89 = .ok (.aload_n 0, 1) := by decide +kernel
theorem dX8_event_90 : decode cX8_event 90 = .ok (.getfield 22, 3) := by decide +kernel
theorem dX8_event_93 : decode cX8_event 93 = .ok (.invokevirtual 43, 3) := by decide +kernel
theorem dX8_event_96 : decode cX8_event 96 = .ok (.iconst 1, 1) := by decide +kernel
theorem dX8_event_97 : decode cX8_event 97 = .ok (.isub, 1) := by decide +kernel
theorem dX8_event_98 : decode cX8_event 98 = .ok (.ireturn, 1) := by decide +kernel
theorem dX8_staff_0 : decode cX8_staff 0 = .ok (.aload_n 0, 1) := by decide +kernel
theorem dX8_staff_1 : decode cX8_staff 1 = .ok (.iload_n 1, 1) := by decide +kernel
theorem dX8_staff_2 : decode cX8_staff 2 = .ok (.invokevirtual 226, 3) := by decide +kernel
theorem dX8_staff_5 : decode cX8_staff 5 = .ok (.astore 4, 2) := by decide +kernel
theorem dX8_staff_7 : decode cX8_staff 7 = .ok (.iload_n 2, 1) := by decide +kernel
theorem dX8_staff_8 : decode cX8_staff 8 = .ok (.aload_n 0, 1) := by decide +kernel
theorem dX8_staff_9 : decode cX8_staff 9 = .ok (.getfield 19, 3) := by decide +kernel
theorem dX8_staff_12 : decode cX8_staff 12 = .ok (.invokevirtual 43, 3) := by decide +kernel
theorem dX8_staff_15 : decode cX8_staff 15 = .ok (.invokestatic 155, 3) := by decide +kernel
theorem dX8_staff_18 : decode cX8_staff 18 = .ok (.iload_n 3, 1) := by decide +kernel
theorem dX8_staff_19 : decode cX8_staff 19 = .ok (.ifCond .eq 23, 3) := by decide +kernel
theorem dX8_staff_22 : decode cX8_staff 22 = .ok (.aload_n 0, 1) := by decide +kernel
theorem dX8_staff_23 : decode cX8_staff 23 = .ok (.aload 4, 2) := by decide +kernel
theorem dX8_staff_25 : decode cX8_staff 25 = .ok (.iload_n 2, 1) := by decide +kernel
theorem dX8_staff_26 : decode cX8_staff 26 = .ok (.invokevirtual 230, 3) := by decide +kernel
theorem dX8_staff_29 : decode cX8_staff 29 = .ok (.ifCond .eq 13, 3) := by decide +kernel
theorem dX8_staff_32 : decode cX8_staff 32 = .ok (.new 78, 3) := by decide +kernel
theorem dX8_staff_35 : decode cX8_staff 35 = .ok (.dup, 1) := by decide +kernel
theorem dX8_staff_36 : decode cX8_staff 36 = .ok (.ldc 234, 2) := by decide +kernel
theorem dX8_staff_38 : decode cX8_staff 38 = .ok (.invokespecial 82, 3) := by decide +kernel
theorem dX8_staff_41 : decode cX8_staff 41 = .ok (.athrow, 1) := by decide +kernel
theorem dX8_staff_42 : decode cX8_staff 42 = .ok (.iconst 1, 1) := by decide +kernel
theorem dX8_staff_43 : decode cX8_staff 43 = .ok (.iload_n 2, 1) := by decide +kernel
theorem dX8_staff_44 : decode cX8_staff 44 = .ok (.ishl, 1) := by decide +kernel
theorem dX8_staff_45 : decode cX8_staff 45 = .ok (.istore 5, 2) := by decide +kernel
theorem dX8_staff_47 : decode cX8_staff 47 = .ok (.aload 4, 2) := by decide +kernel
theorem dX8_staff_49 : decode cX8_staff 49 = .ok (.iload_n 3, 1) := by decide +kernel
theorem dX8_staff_50 : decode cX8_staff 50 = .ok (.ifCond .eq 14, 3) := by decide +kernel
theorem dX8_staff_53 : decode cX8_staff 53 = .ok (.aload 4, 2) := by decide +kernel
theorem dX8_staff_55 : decode cX8_staff 55 = .ok (.getfield 236, 3) := by decide +kernel
theorem dX8_staff_58 : decode cX8_staff 58 = .ok (.iload 5, 2) := by decide +kernel
theorem dX8_staff_60 : decode cX8_staff 60 = .ok (.ior, 1) := by decide +kernel
theorem dX8_staff_61 : decode cX8_staff 61 = .ok (.goto 13, 3) := by decide +kernel
theorem dX8_staff_64 : decode cX8_staff 64 = .ok (.aload 4, 2) := by decide +kernel
theorem dX8_staff_66 : decode cX8_staff 66 = .ok (.getfield 236, 3) := by decide +kernel
theorem dX8_staff_69 : decode cX8_staff 69 = .ok (.iload 5, 2) := by decide +kernel
theorem dX8_staff_71 : decode cX8_staff 71 = .ok (.iconst (-1), 1) := by decide +kernel
theorem dX8_staff_72 : decode cX8_staff 72 = .ok (.ixor, 1) := by decide +kernel
theorem dX8_staff_73 : decode cX8_staff 73 = .ok (.iand, 1) := by decide +kernel
theorem dX8_staff_74 : decode cX8_staff 74 = .ok (.putfield 236, 3) := by decide +kernel
theorem dX8_staff_77 : decode cX8_staff 77 = .ok (.aload 4, 2) := by decide +kernel
theorem dX8_staff_79 : decode cX8_staff 79 = .ok (.getfield 236, 3) := by decide +kernel
theorem dX8_staff_82 : decode cX8_staff 82 = .ok (.invokestatic 143, 3) := by decide +kernel
theorem dX8_staff_85 : decode cX8_staff 85 = .ok (.ireturn, 1) := by decide +kernel
theorem dX8_why_0 : decode cX8_why 0 = .ok (.aload_n 0, 1) := by decide +kernel
theorem dX8_why_1 : decode cX8_why 1 = .ok (.iload_n 1, 1) := by decide +kernel
theorem dX8_why_2 : decode cX8_why 2 = .ok (.invokevirtual 226, 3) := by decide +kernel
theorem dX8_why_5 : decode cX8_why 5 = .ok (.astore_n 2, 1) := by decide +kernel
theorem dX8_why_6 : decode cX8_why 6 = .ok (.aload_n 0, 1) := by decide +kernel
theorem dX8_why_7 : decode cX8_why 7 = .ok (.aload_n 2, 1) := by decide +kernel
theorem dX8_why_8 : decode cX8_why 8 = .ok (.invokevirtual 238, 3) := by decide +kernel
theorem dX8_why_11 : decode cX8_why 11 = .ok (.aload_n 2, 1) := by decide +kernel
theorem dX8_why_12 : decode cX8_why 12 = .ok (.getfield 236, 3) := by decide +kernel
theorem dX8_why_15 : decode cX8_why 15 = .ok (.invokevirtual 242, 3) := by decide +kernel
theorem dX8_why_18 : decode cX8_why 18 = .ok (.ireturn, 1) := by decide +kernel
theorem dX8_couldStaff_0 : decode cX8_couldStaff 0 = .ok (.iload_n 1, 1) := by decide +kernel
theorem dX8_couldStaff_1 : decode cX8_couldStaff 1 = .ok (.iconst 0, 1) := by decide +kernel
theorem dX8_couldStaff_2 : decode cX8_couldStaff 2 = .ok (.sipush 9999, 3) := by decide +kernel
theorem dX8_couldStaff_5 : decode cX8_couldStaff 5 = .ok (.invokestatic 39, 3) := by decide +kernel
theorem dX8_couldStaff_8 : decode cX8_couldStaff 8 = .ok (.iload_n 2, 1) := by decide +kernel
theorem dX8_couldStaff_9 : decode cX8_couldStaff 9 = .ok (.iconst 0, 1) := by decide +kernel
theorem dX8_couldStaff_10 : decode cX8_couldStaff 10 = .ok (.bipush 23, 2) := by decide +kernel
theorem dX8_couldStaff_12 : decode cX8_couldStaff 12 = .ok (.invokestatic 39, 3) := by decide +kernel
theorem dX8_couldStaff_15 : decode cX8_couldStaff 15 = .ok (.iload_n 3, 1) := by decide +kernel
theorem dX8_couldStaff_16 : decode cX8_couldStaff 16 = .ok (.iconst 0, 1) := by decide +kernel
theorem dX8_couldStaff_17 : decode cX8_couldStaff 17 = .ok (.iconst 1, 1) := by decide +kernel
theorem dX8_couldStaff_18 : decode cX8_couldStaff 18 = .ok (.aload_n 0, 1) := by decide +kernel
theorem dX8_couldStaff_19 : decode cX8_couldStaff 19 = .ok (.getfield 19, 3) := by decide +kernel
theorem dX8_couldStaff_22 : decode cX8_couldStaff 22 = .ok (.invokevirtual 43, 3) := by decide +kernel
theorem dX8_couldStaff_25 : decode cX8_couldStaff 25 = .ok (.ishl, 1) := by decide +kernel
theorem dX8_couldStaff_26 : decode cX8_couldStaff 26 = .ok (.iconst 1, 1) := by decide +kernel
theorem dX8_couldStaff_27 : decode cX8_couldStaff 27 = .ok (.isub, 1) := by decide +kernel
theorem dX8_couldStaff_28 : decode cX8_couldStaff 28 = .ok (.invokestatic 39, 3) := by decide +kernel
theorem dX8_couldStaff_31 : decode cX8_couldStaff 31 = .ok (.aload_n 0, 1) := by decide +kernel
theorem dX8_couldStaff_32 : decode cX8_couldStaff 32 = .ok (.iload_n 1, 1) := by decide +kernel
theorem dX8_couldStaff_33 : decode cX8_couldStaff 33 = .ok (.iload_n 2, 1) := by decide +kernel
theorem dX8_couldStaff_34 : decode cX8_couldStaff 34 = .ok (.invokevirtual 247, 3) := by decide +kernel
theorem dX8_couldStaff_37 : decode cX8_couldStaff 37 = .ok (.iconst 3, 1) := by decide +kernel
theorem dX8_couldStaff_38 : decode cX8_couldStaff 38 = .ok (.if_icmp .le 13, 3) := by decide +kernel
theorem dX8_couldStaff_41 : decode cX8_couldStaff 41 = .ok (.new 78, 3) := by decide +kernel
theorem dX8_couldStaff_44 : decode cX8_couldStaff 44 = .ok (.dup, 1) := by decide +kernel
theorem dX8_couldStaff_45 : decode cX8_couldStaff 45 = .ok (.ldc 250, 2) := by decide +kernel
theorem dX8_couldStaff_47 : decode cX8_couldStaff 47 = .ok (.invokespecial 82, 3) := by decide +kernel
theorem dX8_couldStaff_50 : decode cX8_couldStaff 50 = .ok (.athrow, 1) := by decide +kernel
theorem dX8_couldStaff_51 : decode cX8_couldStaff 51 = .ok (.aload_n 0, 1) := by decide +kernel
theorem dX8_couldStaff_52 : decode cX8_couldStaff 52 = .ok (.iload_n 1, 1) := by decide +kernel
theorem dX8_couldStaff_53 : decode cX8_couldStaff 53 = .ok (.iload_n 2, 1) := by decide +kernel
theorem dX8_couldStaff_54 : decode cX8_couldStaff 54 = .ok (.invokevirtual 252, 3) := by decide +kernel
theorem dX8_couldStaff_57 : decode cX8_couldStaff 57 = .ok (.iconst 0, 1) := by decide +kernel
theorem dX8_couldStaff_58 : decode cX8_couldStaff 58 = .ok (.iload_n 3, 1) := by decide +kernel
theorem dX8_couldStaff_59 : decode cX8_couldStaff 59 = .ok (.invokestatic 256, 3) := by decide +kernel
theorem dX8_couldStaff_62 : decode cX8_couldStaff 62 = .ok (.ireturn, 1) := by decide +kernel
theorem dX8_boxes_0 : decode cX8_boxes 0 = .ok (.aload_n 0, 1) := by decide +kernel
theorem dX8_boxes_1 : decode cX8_boxes 1 = .ok (.iload_n 1, 1) := by decide +kernel
theorem dX8_boxes_2 : decode cX8_boxes 2 = .ok (.invokevirtual 64, 3) := by decide +kernel
theorem dX8_boxes_5 : decode cX8_boxes 5 = .ok (.astore_n 3, 1) := by decide +kernel
theorem dX8_boxes_6 : decode cX8_boxes 6 = .ok (.iload_n 2, 1) := by decide +kernel
theorem dX8_boxes_7 : decode cX8_boxes 7 = .ok (.iconst 1, 1) := by decide +kernel
theorem dX8_boxes_8 : decode cX8_boxes 8 = .ok (.bipush 99, 2) := by decide +kernel
theorem dX8_boxes_10 : decode cX8_boxes 10 = .ok (.invokestatic 39, 3) := by decide +kernel
theorem dX8_boxes_13 : decode cX8_boxes 13 = .ok (.aload_n 3, 1) := by decide +kernel
theorem dX8_boxes_14 : decode cX8_boxes 14 = .ok (.getfield 72, 3) := by decide +kernel
theorem dX8_boxes_17 : decode cX8_boxes 17 = .ok (.iconst (-1), 1) := by decide +kernel
theorem dX8_boxes_18 : decode cX8_boxes 18 = .ok (.if_icmp .ne 13, 3) := by decide +kernel
theorem dX8_boxes_21 : decode cX8_boxes 21 = .ok (.new 78, 3) := by decide +kernel
theorem dX8_boxes_24 : decode cX8_boxes 24 = .ok (.dup, 1) := by decide +kernel
theorem dX8_boxes_25 : decode cX8_boxes 25 = .ok (.ldc 107, 2) := by decide +kernel
theorem dX8_boxes_27 : decode cX8_boxes 27 = .ok (.invokespecial 82, 3) := by decide +kernel
theorem dX8_boxes_30 : decode cX8_boxes 30 = .ok (.athrow, 1) := by decide +kernel
theorem dX8_boxes_31 : decode cX8_boxes 31 = .ok (.aload_n 3, 1) := by decide +kernel
theorem dX8_boxes_32 : decode cX8_boxes 32 = .ok (.getfield 260, 3) := by decide +kernel
theorem dX8_boxes_35 : decode cX8_boxes 35 = .ok (.ifCond .le 25, 3) := by decide +kernel
theorem dX8_boxes_38 : decode cX8_boxes 38 = .ok (.aload_n 3, 1) := by decide +kernel
theorem dX8_boxes_39 : decode cX8_boxes 39 = .ok (.getfield 263, 3) := by decide +kernel
theorem dX8_boxes_42 : decode cX8_boxes 42 = .ok (.aload_n 3, 1) := by decide +kernel
theorem dX8_boxes_43 : decode cX8_boxes 43 = .ok (.getfield 72, 3) := by decide +kernel
theorem dX8_boxes_46 : decode cX8_boxes 46 = .ok (.if_icmp .eq 14, 3) := by decide +kernel
theorem dX8_boxes_49 : decode cX8_boxes 49 = .ok (.new 78, 3) := by decide +kernel
theorem dX8_boxes_52 : decode cX8_boxes 52 = .ok (.dup, 1) := by decide +kernel
theorem dX8_boxes_53 : decode cX8_boxes 53 = .ok (.ldc_w 266, 3) := by decide +kernel
theorem dX8_boxes_56 : decode cX8_boxes 56 = .ok (.invokespecial 82, 3) := by decide +kernel
theorem dX8_boxes_59 : decode cX8_boxes 59 = .ok (.athrow, 1) := by decide +kernel
theorem dX8_boxes_60 : decode cX8_boxes 60 = .ok (.aload_n 3, 1) := by decide +kernel
theorem dX8_boxes_61 : decode cX8_boxes 61 = .ok (.getfield 268, 3) := by decide +kernel
theorem dX8_boxes_64 : decode cX8_boxes 64 = .ok (.iload_n 2, 1) := by decide +kernel
theorem dX8_boxes_65 : decode cX8_boxes 65 = .ok (.iadd, 1) := by decide +kernel
theorem dX8_boxes_66 : decode cX8_boxes 66 = .ok (.sipush 9999, 3) := by decide +kernel
theorem dX8_boxes_69 : decode cX8_boxes 69 = .ok (.if_icmp .le 14, 3) := by decide +kernel
theorem dX8_boxes_72 : decode cX8_boxes 72 = .ok (.new 78, 3) := by decide +kernel
theorem dX8_boxes_75 : decode cX8_boxes 75 = .ok (.dup, 1) := by decide +kernel
theorem dX8_boxes_76 : decode cX8_boxes 76 = .ok (.ldc_w 271, 3) := by decide +kernel
theorem dX8_boxes_79 : decode cX8_boxes 79 = .ok (.invokespecial 82, 3) := by decide +kernel
theorem dX8_boxes_82 : decode cX8_boxes 82 = .ok (.athrow, 1) := by decide +kernel
theorem dX8_boxes_83 : decode cX8_boxes 83 = .ok (.aload_n 3, 1) := by decide +kernel
theorem dX8_boxes_84 : decode cX8_boxes 84 = .ok (.dup, 1) := by decide +kernel
theorem dX8_boxes_85 : decode cX8_boxes 85 = .ok (.getfield 268, 3) := by decide +kernel
theorem dX8_boxes_88 : decode cX8_boxes 88 = .ok (.iload_n 2, 1) := by decide +kernel
theorem dX8_boxes_89 : decode cX8_boxes 89 = .ok (.iadd, 1) := by decide +kernel
theorem dX8_boxes_90 : decode cX8_boxes 90 = .ok (.putfield 268, 3) := by decide +kernel
theorem dX8_boxes_93 : decode cX8_boxes 93 = .ok (.aload_n 3, 1) := by decide +kernel
theorem dX8_boxes_94 : decode cX8_boxes 94 = .ok (.dup, 1) := by decide +kernel
theorem dX8_boxes_95 : decode cX8_boxes 95 = .ok (.getfield 260, 3) := by decide +kernel
theorem dX8_boxes_98 : decode cX8_boxes 98 = .ok (.iload_n 2, 1) := by decide +kernel
theorem dX8_boxes_99 : decode cX8_boxes 99 = .ok (.iconst 4, 1) := by decide +kernel
theorem dX8_boxes_100 : decode cX8_boxes 100 = .ok (.imul, 1) := by decide +kernel
theorem dX8_boxes_101 : decode cX8_boxes 101 = .ok (.iadd, 1) := by decide +kernel
theorem dX8_boxes_102 : decode cX8_boxes 102 = .ok (.putfield 260, 3) := by decide +kernel
theorem dX8_boxes_105 : decode cX8_boxes 105 = .ok (.aload_n 3, 1) := by decide +kernel
theorem dX8_boxes_106 : decode cX8_boxes 106 = .ok (.aload_n 3, 1) := by decide +kernel
theorem dX8_boxes_107 : decode cX8_boxes 107 = .ok (.getfield 72, 3) := by decide +kernel
theorem dX8_boxes_110 : decode cX8_boxes 110 = .ok (.putfield 263, 3) := by decide +kernel
theorem dX8_boxes_113 : decode cX8_boxes 113 = .ok (.aload_n 3, 1) := by decide +kernel
theorem dX8_boxes_114 : decode cX8_boxes 114 = .ok (.getfield 260, 3) := by decide +kernel
theorem dX8_boxes_117 : decode cX8_boxes 117 = .ok (.ireturn, 1) := by decide +kernel
theorem dX8_pay_0 : decode cX8_pay 0 = .ok (.aload_n 0, 1) := by decide +kernel
theorem dX8_pay_1 : decode cX8_pay 1 = .ok (.iload_n 1, 1) := by decide +kernel
theorem dX8_pay_2 : decode cX8_pay 2 = .ok (.invokevirtual 64, 3) := by decide +kernel
theorem dX8_pay_5 : decode cX8_pay 5 = .ok (.astore_n 3, 1) := by decide +kernel
theorem dX8_pay_6 : decode cX8_pay 6 = .ok (.iload_n 2, 1) := by decide +kernel
theorem dX8_pay_7 : decode cX8_pay 7 = .ok (.iconst 1, 1) := by decide +kernel
theorem dX8_pay_8 : decode cX8_pay 8 = .ok (.sipush 396, 3) := by decide +kernel
theorem dX8_pay_11 : decode cX8_pay 11 = .ok (.invokestatic 39, 3) := by decide +kernel
theorem dX8_pay_14 : decode cX8_pay 14 = .ok (.aload_n 3, 1) := by decide +kernel
theorem dX8_pay_15 : decode cX8_pay 15 = .ok (.getfield 260, 3) := by decide +kernel
theorem dX8_pay_18 : decode cX8_pay 18 = .ok (.iload_n 2, 1) := by decide +kernel
theorem dX8_pay_19 : decode cX8_pay 19 = .ok (.if_icmp .ge 14, 3) := by decide +kernel
theorem dX8_pay_22 : decode cX8_pay 22 = .ok (.new 78, 3) := by decide +kernel
theorem dX8_pay_25 : decode cX8_pay 25 = .ok (.dup, 1) := by decide +kernel
theorem dX8_pay_26 : decode cX8_pay 26 = .ok (.ldc_w 273, 3) := by decide +kernel
theorem dX8_pay_29 : decode cX8_pay 29 = .ok (.invokespecial 82, 3) := by decide +kernel
theorem dX8_pay_32 : decode cX8_pay 32 = .ok (.athrow, 1) := by decide +kernel
theorem dX8_pay_33 : decode cX8_pay 33 = .ok (.aload_n 3, 1) := by decide +kernel
theorem dX8_pay_34 : decode cX8_pay 34 = .ok (.dup, 1) := by decide +kernel
theorem dX8_pay_35 : decode cX8_pay 35 = .ok (.getfield 260, 3) := by decide +kernel
theorem dX8_pay_38 : decode cX8_pay 38 = .ok (.iload_n 2, 1) := by decide +kernel
theorem dX8_pay_39 : decode cX8_pay 39 = .ok (.isub, 1) := by decide +kernel
theorem dX8_pay_40 : decode cX8_pay 40 = .ok (.putfield 260, 3) := by decide +kernel
theorem dX8_pay_43 : decode cX8_pay 43 = .ok (.aload_n 3, 1) := by decide +kernel
theorem dX8_pay_44 : decode cX8_pay 44 = .ok (.getfield 260, 3) := by decide +kernel
theorem dX8_pay_47 : decode cX8_pay 47 = .ok (.ireturn, 1) := by decide +kernel
theorem dX8_owed_0 : decode cX8_owed 0 = .ok (.aload_n 0, 1) := by decide +kernel
theorem dX8_owed_1 : decode cX8_owed 1 = .ok (.iload_n 1, 1) := by decide +kernel
theorem dX8_owed_2 : decode cX8_owed 2 = .ok (.invokevirtual 68, 3) := by decide +kernel
theorem dX8_owed_5 : decode cX8_owed 5 = .ok (.astore_n 2, 1) := by decide +kernel
theorem dX8_owed_6 : decode cX8_owed 6 = .ok (.iconst 0, 1) := by decide +kernel
theorem dX8_owed_7 : decode cX8_owed 7 = .ok (.istore_n 3, 1) := by decide +kernel
theorem dX8_owed_8 : decode cX8_owed 8 = .ok (.iconst 0, 1) := by decide +kernel
theorem dX8_owed_9 : decode cX8_owed 9 = .ok (.istore 4, 2) := by decide +kernel
theorem dX8_owed_11 : decode cX8_owed 11 = .ok (.iload 4, 2) := by decide +kernel
theorem dX8_owed_13 : decode cX8_owed 13 = .ok (.aload_n 0, 1) := by decide +kernel
theorem dX8_owed_14 : decode cX8_owed 14 = .ok (.getfield 16, 3) := by decide +kernel
theorem dX8_owed_17 : decode cX8_owed 17 = .ok (.invokevirtual 43, 3) := by decide +kernel
theorem dX8_owed_20 : decode cX8_owed 20 = .ok (.if_icmp .ge 49, 3) := by decide +kernel
theorem dX8_owed_23 : decode cX8_owed 23 = .ok (.aload_n 0, 1) := by decide +kernel
theorem dX8_owed_24 : decode cX8_owed 24 = .ok (.getfield 16, 3) := by decide +kernel
theorem dX8_owed_27 : decode cX8_owed 27 = .ok (.iload 4, 2) := by decide +kernel
theorem dX8_owed_29 : decode cX8_owed 29 = .ok (.invokevirtual 124, 3) := by decide +kernel
theorem dX8_owed_32 : decode cX8_owed 32 = .ok (.checkcast 60, 3) := by decide +kernel
theorem dX8_owed_35 : decode cX8_owed 35 = .ok (.getfield 263, 3) := by decide +kernel
theorem dX8_owed_38 : decode cX8_owed 38 = .ok (.aload_n 2, 1) := by decide +kernel
theorem dX8_owed_39 : decode cX8_owed 39 = .ok (.getfield 112, 3) := by decide +kernel
theorem dX8_owed_42 : decode cX8_owed 42 = .ok (.if_icmp .ne 21, 3) := by decide +kernel
theorem dX8_owed_45 : decode cX8_owed 45 = .ok (.iload_n 3, 1) := by decide +kernel
theorem dX8_owed_46 : decode cX8_owed 46 = .ok (.aload_n 0, 1) := by decide +kernel
theorem dX8_owed_47 : decode cX8_owed 47 = .ok (.getfield 16, 3) := by decide +kernel
theorem dX8_owed_50 : decode cX8_owed 50 = .ok (.iload 4, 2) := by decide +kernel
theorem dX8_owed_52 : decode cX8_owed 52 = .ok (.invokevirtual 124, 3) := by decide +kernel
theorem dX8_owed_55 : decode cX8_owed 55 = .ok (.checkcast 60, 3) := by decide +kernel
theorem dX8_owed_58 : decode cX8_owed 58 = .ok (.getfield 260, 3) := by decide +kernel
theorem dX8_owed_61 : decode cX8_owed 61 = .ok (.iadd, 1) := by decide +kernel
theorem dX8_owed_62 : decode cX8_owed 62 = .ok (.istore_n 3, 1) := by decide +kernel
theorem dX8_owed_63 : decode cX8_owed 63 = .ok (.iinc 4 1, 3) := by decide +kernel
theorem dX8_owed_66 : decode cX8_owed 66 = .ok (.goto (-55), 3) := by decide +kernel
theorem dX8_owed_69 : decode cX8_owed 69 = .ok (.iload_n 3, 1) := by decide +kernel
theorem dX8_owed_70 : decode cX8_owed 70 = .ok (.ireturn, 1) := by decide +kernel
theorem dX8_today_0 : decode cX8_today 0 = .ok (.aload_n 0, 1) := by decide +kernel
theorem dX8_today_1 : decode cX8_today 1 = .ok (.getfield 32, 3) := by decide +kernel
theorem dX8_today_4 : decode cX8_today 4 = .ok (.ireturn, 1) := by decide +kernel
theorem dX8_ofChild_0 : decode cX8_ofChild 0 = .ok (.aload_n 0, 1) := by decide +kernel
theorem dX8_ofChild_1 : decode cX8_ofChild 1 = .ok (.iload_n 1, 1) := by decide +kernel
theorem dX8_ofChild_2 : decode cX8_ofChild 2 = .ok (.invokevirtual 64, 3) := by decide +kernel
theorem dX8_ofChild_5 : decode cX8_ofChild 5 = .ok (.astore_n 3, 1) := by decide +kernel
theorem dX8_ofChild_6 : decode cX8_ofChild 6 = .ok (.iload_n 2, 1) := by decide +kernel
theorem dX8_ofChild_7 : decode cX8_ofChild 7 = .ok (.tableswitch 71 0 5 #[37, 42, 47, 52, 57, 66], 37) := by decide +kernel
theorem dX8_ofChild_44 : decode cX8_ofChild 44 = .ok (.aload_n 3, 1) := by decide +kernel
theorem dX8_ofChild_45 : decode cX8_ofChild 45 = .ok (.getfield 85, 3) := by decide +kernel
theorem dX8_ofChild_48 : decode cX8_ofChild 48 = .ok (.ireturn, 1) := by decide +kernel
theorem dX8_ofChild_49 : decode cX8_ofChild 49 = .ok (.aload_n 3, 1) := by decide +kernel
theorem dX8_ofChild_50 : decode cX8_ofChild 50 = .ok (.getfield 72, 3) := by decide +kernel
theorem dX8_ofChild_53 : decode cX8_ofChild 53 = .ok (.ireturn, 1) := by decide +kernel
theorem dX8_ofChild_54 : decode cX8_ofChild 54 = .ok (.aload_n 3, 1) := by decide +kernel
theorem dX8_ofChild_55 : decode cX8_ofChild 55 = .ok (.getfield 75, 3) := by decide +kernel
theorem dX8_ofChild_58 : decode cX8_ofChild 58 = .ok (.ireturn, 1) := by decide +kernel
theorem dX8_ofChild_59 : decode cX8_ofChild 59 = .ok (.aload_n 3, 1) := by decide +kernel
theorem dX8_ofChild_60 : decode cX8_ofChild 60 = .ok (.getfield 109, 3) := by decide +kernel
theorem dX8_ofChild_63 : decode cX8_ofChild 63 = .ok (.ireturn, 1) := by decide +kernel
theorem dX8_ofChild_64 : decode cX8_ofChild 64 = .ok (.aload_n 3, 1) := by decide +kernel
theorem dX8_ofChild_65 : decode cX8_ofChild 65 = .ok (.aload_n 0, 1) := by decide +kernel
theorem dX8_ofChild_66 : decode cX8_ofChild 66 = .ok (.getfield 32, 3) := by decide +kernel
theorem dX8_ofChild_69 : decode cX8_ofChild 69 = .ok (.invokevirtual 220, 3) := by decide +kernel
theorem dX8_ofChild_72 : decode cX8_ofChild 72 = .ok (.ireturn, 1) := by decide +kernel
theorem dX8_ofChild_73 : decode cX8_ofChild 73 = .ok (.aload_n 3, 1) := by decide +kernel
theorem dX8_ofChild_74 : decode cX8_ofChild 74 = .ok (.getfield 260, 3) := by decide +kernel
theorem dX8_ofChild_77 : decode cX8_ofChild 77 = .ok (.ireturn, 1) := by decide +kernel
theorem dX8_ofChild_78 : decode cX8_ofChild 78 = .ok (.new 175, 3) := by decide +kernel
theorem dX8_ofChild_81 : decode cX8_ofChild 81 = .ok (.dup, 1) := by decide +kernel
theorem dX8_ofChild_82 : decode cX8_ofChild 82 = .ok (.ldc_w 275, 3) := by decide +kernel
theorem dX8_ofChild_85 : decode cX8_ofChild 85 = .ok (.invokespecial 179, 3) := by decide +kernel
theorem dX8_ofChild_88 : decode cX8_ofChild 88 = .ok (.athrow, 1) := by decide +kernel
theorem dX8_ofTroop_0 : decode cX8_ofTroop 0 = .ok (.aload_n 0, 1) := by decide +kernel
theorem dX8_ofTroop_1 : decode cX8_ofTroop 1 = .ok (.iload_n 1, 1) := by decide +kernel
theorem dX8_ofTroop_2 : decode cX8_ofTroop 2 = .ok (.invokevirtual 68, 3) := by decide +kernel
theorem dX8_ofTroop_5 : decode cX8_ofTroop 5 = .ok (.astore_n 3, 1) := by decide +kernel
theorem dX8_ofTroop_6 : decode cX8_ofTroop 6 = .ok (.iload_n 2, 1) := by decide +kernel
theorem dX8_ofTroop_7 : decode cX8_ofTroop 7 = .ok (.ifCond .eq 14, 3) := by decide +kernel
theorem dX8_ofTroop_10 : decode cX8_ofTroop 10 = .ok (.aload_n 0, 1) := by decide +kernel
theorem dX8_ofTroop_11 : decode cX8_ofTroop 11 = .ok (.aload_n 3, 1) := by decide +kernel
theorem dX8_ofTroop_12 : decode cX8_ofTroop 12 = .ok (.getfield 112, 3) := by decide +kernel
theorem dX8_ofTroop_15 : decode cX8_ofTroop 15 = .ok (.invokevirtual 277, 3) := by decide +kernel
theorem dX8_ofTroop_18 : decode cX8_ofTroop 18 = .ok (.goto 11, 3) := by decide +kernel
theorem dX8_ofTroop_21 : decode cX8_ofTroop 21 = .ok (.aload_n 0, 1) := by decide +kernel
theorem dX8_ofTroop_22 : decode cX8_ofTroop 22 = .ok (.aload_n 3, 1) := by decide +kernel
theorem dX8_ofTroop_23 : decode cX8_ofTroop 23 = .ok (.getfield 112, 3) := by decide +kernel
theorem dX8_ofTroop_26 : decode cX8_ofTroop 26 = .ok (.invokevirtual 280, 3) := by decide +kernel
theorem dX8_ofTroop_29 : decode cX8_ofTroop 29 = .ok (.ireturn, 1) := by decide +kernel
theorem dX8_earned_0 : decode cX8_earned 0 = .ok (.aload_n 0, 1) := by decide +kernel
theorem dX8_earned_1 : decode cX8_earned 1 = .ok (.iload_n 1, 1) := by decide +kernel
theorem dX8_earned_2 : decode cX8_earned 2 = .ok (.invokevirtual 64, 3) := by decide +kernel
theorem dX8_earned_5 : decode cX8_earned 5 = .ok (.astore_n 3, 1) := by decide +kernel
theorem dX8_earned_6 : decode cX8_earned 6 = .ok (.iload_n 2, 1) := by decide +kernel
theorem dX8_earned_7 : decode cX8_earned 7 = .ok (.bipush 8, 2) := by decide +kernel
theorem dX8_earned_9 : decode cX8_earned 9 = .ok (.invokestatic 155, 3) := by decide +kernel
theorem dX8_earned_12 : decode cX8_earned 12 = .ok (.aload_n 3, 1) := by decide +kernel
theorem dX8_earned_13 : decode cX8_earned 13 = .ok (.iload_n 2, 1) := by decide +kernel
theorem dX8_earned_14 : decode cX8_earned 14 = .ok (.invokevirtual 283, 3) := by decide +kernel
theorem dX8_earned_17 : decode cX8_earned 17 = .ok (.istore 4, 2) := by decide +kernel
theorem dX8_earned_19 : decode cX8_earned 19 = .ok (.iload 4, 2) := by decide +kernel
theorem dX8_earned_21 : decode cX8_earned 21 = .ok (.aload_n 0, 1) := by decide +kernel
theorem dX8_earned_22 : decode cX8_earned 22 = .ok (.getfield 32, 3) := by decide +kernel
theorem dX8_earned_25 : decode cX8_earned 25 = .ok (.if_icmp .gt 8, 3) := by decide +kernel
theorem dX8_earned_28 : decode cX8_earned 28 = .ok (.iload 4, 2) := by decide +kernel
theorem dX8_earned_30 : decode cX8_earned 30 = .ok (.goto 4, 3) := by decide +kernel
theorem dX8_earned_33 : decode cX8_earned 33 = .ok (.iconst (-1), 1) := by decide +kernel
theorem dX8_earned_34 : decode cX8_earned 34 = .ok (.ireturn, 1) := by decide +kernel
theorem dX8_holds_0 : decode cX8_holds 0 = .ok (.aload_n 0, 1) := by decide +kernel
theorem dX8_holds_1 : decode cX8_holds 1 = .ok (.iload_n 1, 1) := by decide +kernel
theorem dX8_holds_2 : decode cX8_holds 2 = .ok (.invokevirtual 64, 3) := by decide +kernel
theorem dX8_holds_5 : decode cX8_holds 5 = .ok (.astore_n 3, 1) := by decide +kernel
theorem dX8_holds_6 : decode cX8_holds 6 = .ok (.iload_n 2, 1) := by decide +kernel
theorem dX8_holds_7 : decode cX8_holds 7 = .ok (.bipush 8, 2) := by decide +kernel
theorem dX8_holds_9 : decode cX8_holds 9 = .ok (.invokestatic 155, 3) := by decide +kernel
theorem dX8_holds_12 : decode cX8_holds 12 = .ok (.aload_n 3, 1) := by decide +kernel
theorem dX8_holds_13 : decode cX8_holds 13 = .ok (.iload_n 2, 1) := by decide +kernel
theorem dX8_holds_14 : decode cX8_holds 14 = .ok (.invokevirtual 190, 3) := by decide +kernel
theorem dX8_holds_17 : decode cX8_holds 17 = .ok (.astore 4, 2) := by decide +kernel
theorem dX8_holds_19 : decode cX8_holds 19 = .ok (.aload 4, 2) := by decide +kernel
theorem dX8_holds_21 : decode cX8_holds 21 = .ok (.ifnull 19, 3) := by decide +kernel
theorem dX8_holds_24 : decode cX8_holds 24 = .ok (.aload 4, 2) := by decide +kernel
theorem dX8_holds_26 : decode cX8_holds 26 = .ok (.aload_n 0, 1) := by decide +kernel
theorem dX8_holds_27 : decode cX8_holds 27 = .ok (.getfield 32, 3) := by decide +kernel
theorem dX8_holds_30 : decode cX8_holds 30 = .ok (.invokevirtual 286, 3) := by decide +kernel
theorem dX8_holds_33 : decode cX8_holds 33 = .ok (.ifCond .eq 7, 3) := by decide +kernel
theorem dX8_holds_36 : decode cX8_holds 36 = .ok (.iconst 1, 1) := by decide +kernel
theorem dX8_holds_37 : decode cX8_holds 37 = .ok (.goto 4, 3) := by decide +kernel
theorem dX8_holds_40 : decode cX8_holds 40 = .ok (.iconst 0, 1) := by decide +kernel
theorem dX8_holds_41 : decode cX8_holds 41 = .ok (.ireturn, 1) := by decide +kernel
theorem dX8_lacks_0 : decode cX8_lacks 0 = .ok (.aload_n 0, 1) := by decide +kernel
theorem dX8_lacks_1 : decode cX8_lacks 1 = .ok (.iload_n 1, 1) := by decide +kernel
theorem dX8_lacks_2 : decode cX8_lacks 2 = .ok (.invokevirtual 64, 3) := by decide +kernel
theorem dX8_lacks_5 : decode cX8_lacks 5 = .ok (.astore_n 3, 1) := by decide +kernel
theorem dX8_lacks_6 : decode cX8_lacks 6 = .ok (.iload_n 2, 1) := by decide +kernel
theorem dX8_lacks_7 : decode cX8_lacks 7 = .ok (.bipush 8, 2) := by decide +kernel
theorem dX8_lacks_9 : decode cX8_lacks 9 = .ok (.invokestatic 155, 3) := by decide +kernel
theorem dX8_lacks_12 : decode cX8_lacks 12 = .ok (.aload_n 3, 1) := by decide +kernel
theorem dX8_lacks_13 : decode cX8_lacks 13 = .ok (.iload_n 2, 1) := by decide +kernel
theorem dX8_lacks_14 : decode cX8_lacks 14 = .ok (.invokevirtual 190, 3) := by decide +kernel
theorem dX8_lacks_17 : decode cX8_lacks 17 = .ok (.astore 4, 2) := by decide +kernel
theorem dX8_lacks_19 : decode cX8_lacks 19 = .ok (.aload 4, 2) := by decide +kernel
theorem dX8_lacks_21 : decode cX8_lacks 21 = .ok (.ifnonnull 14, 3) := by decide +kernel
theorem dX8_lacks_24 : decode cX8_lacks 24 = .ok (.new 78, 3) := by decide +kernel
theorem dX8_lacks_27 : decode cX8_lacks 27 = .ok (.dup, 1) := by decide +kernel
theorem dX8_lacks_28 : decode cX8_lacks 28 = .ok (.ldc_w 289, 3) := by decide +kernel
theorem dX8_lacks_31 : decode cX8_lacks 31 = .ok (.invokespecial 82, 3) := by decide +kernel
theorem dX8_lacks_34 : decode cX8_lacks 34 = .ok (.athrow, 1) := by decide +kernel
theorem dX8_lacks_35 : decode cX8_lacks 35 = .ok (.aload 4, 2) := by decide +kernel
theorem dX8_lacks_37 : decode cX8_lacks 37 = .ok (.getfield 291, 3) := by decide +kernel
theorem dX8_lacks_40 : decode cX8_lacks 40 = .ok (.getfield 295, 3) := by decide +kernel
theorem dX8_lacks_43 : decode cX8_lacks 43 = .ok (.aload_n 3, 1) := by decide +kernel
theorem dX8_lacks_44 : decode cX8_lacks 44 = .ok (.getfield 212, 3) := by decide +kernel
theorem dX8_lacks_47 : decode cX8_lacks 47 = .ok (.iconst (-1), 1) := by decide +kernel
theorem dX8_lacks_48 : decode cX8_lacks 48 = .ok (.ixor, 1) := by decide +kernel
theorem dX8_lacks_49 : decode cX8_lacks 49 = .ok (.iand, 1) := by decide +kernel
theorem dX8_lacks_50 : decode cX8_lacks 50 = .ok (.ireturn, 1) := by decide +kernel
theorem dX8_requireIndex_0 : decode cX8_requireIndex 0 = .ok (.iload_n 0, 1) := by decide +kernel
theorem dX8_requireIndex_1 : decode cX8_requireIndex 1 = .ok (.ifCond .lt 8, 3) := by decide +kernel
theorem dX8_requireIndex_4 : decode cX8_requireIndex 4 = .ok (.iload_n 0, 1) := by decide +kernel
theorem dX8_requireIndex_5 : decode cX8_requireIndex 5 = .ok (.iload_n 1, 1) := by decide +kernel
theorem dX8_requireIndex_6 : decode cX8_requireIndex 6 = .ok (.if_icmp .lt 14, 3) := by decide +kernel
theorem dX8_requireIndex_9 : decode cX8_requireIndex 9 = .ok (.new 298, 3) := by decide +kernel
theorem dX8_requireIndex_12 : decode cX8_requireIndex 12 = .ok (.dup, 1) := by decide +kernel
theorem dX8_requireIndex_13 : decode cX8_requireIndex 13 = .ok (.ldc_w 300, 3) := by decide +kernel
theorem dX8_requireIndex_16 : decode cX8_requireIndex 16 = .ok (.invokespecial 302, 3) := by decide +kernel
theorem dX8_requireIndex_19 : decode cX8_requireIndex 19 = .ok (.athrow, 1) := by decide +kernel
theorem dX8_requireIndex_20 : decode cX8_requireIndex 20 = .ok (.return_, 1) := by decide +kernel
theorem dX8_requireRange_0 : decode cX8_requireRange 0 = .ok (.iload_n 0, 1) := by decide +kernel
theorem dX8_requireRange_1 : decode cX8_requireRange 1 = .ok (.iload_n 1, 1) := by decide +kernel
theorem dX8_requireRange_2 : decode cX8_requireRange 2 = .ok (.if_icmp .lt 8, 3) := by decide +kernel
theorem dX8_requireRange_5 : decode cX8_requireRange 5 = .ok (.iload_n 0, 1) := by decide +kernel
theorem dX8_requireRange_6 : decode cX8_requireRange 6 = .ok (.iload_n 2, 1) := by decide +kernel
theorem dX8_requireRange_7 : decode cX8_requireRange 7 = .ok (.if_icmp .le 14, 3) := by decide +kernel
theorem dX8_requireRange_10 : decode cX8_requireRange 10 = .ok (.new 175, 3) := by decide +kernel
theorem dX8_requireRange_13 : decode cX8_requireRange 13 = .ok (.dup, 1) := by decide +kernel
theorem dX8_requireRange_14 : decode cX8_requireRange 14 = .ok (.ldc_w 303, 3) := by decide +kernel
theorem dX8_requireRange_17 : decode cX8_requireRange 17 = .ok (.invokespecial 179, 3) := by decide +kernel
theorem dX8_requireRange_20 : decode cX8_requireRange 20 = .ok (.athrow, 1) := by decide +kernel
theorem dX8_requireRange_21 : decode cX8_requireRange 21 = .ok (.return_, 1) := by decide +kernel
theorem dX8_requireRoom_0 : decode cX8_requireRoom 0 = .ok (.iload_n 0, 1) := by decide +kernel
theorem dX8_requireRoom_1 : decode cX8_requireRoom 1 = .ok (.iload_n 1, 1) := by decide +kernel
theorem dX8_requireRoom_2 : decode cX8_requireRoom 2 = .ok (.if_icmp .lt 14, 3) := by decide +kernel
theorem dX8_requireRoom_5 : decode cX8_requireRoom 5 = .ok (.new 78, 3) := by decide +kernel
theorem dX8_requireRoom_8 : decode cX8_requireRoom 8 = .ok (.dup, 1) := by decide +kernel
theorem dX8_requireRoom_9 : decode cX8_requireRoom 9 = .ok (.ldc_w 305, 3) := by decide +kernel
theorem dX8_requireRoom_12 : decode cX8_requireRoom 12 = .ok (.invokespecial 82, 3) := by decide +kernel
theorem dX8_requireRoom_15 : decode cX8_requireRoom 15 = .ok (.athrow, 1) := by decide +kernel
theorem dX8_requireRoom_16 : decode cX8_requireRoom 16 = .ok (.return_, 1) := by decide +kernel
theorem dX8_troopAt_0 : decode cX8_troopAt 0 = .ok (.iload_n 1, 1) := by decide +kernel
theorem dX8_troopAt_1 : decode cX8_troopAt 1 = .ok (.aload_n 0, 1) := by decide +kernel
theorem dX8_troopAt_2 : decode cX8_troopAt 2 = .ok (.getfield 10, 3) := by decide +kernel
theorem dX8_troopAt_5 : decode cX8_troopAt 5 = .ok (.invokevirtual 43, 3) := by decide +kernel
theorem dX8_troopAt_8 : decode cX8_troopAt 8 = .ok (.invokestatic 155, 3) := by decide +kernel
theorem dX8_troopAt_11 : decode cX8_troopAt 11 = .ok (.aload_n 0, 1) := by decide +kernel
theorem dX8_troopAt_12 : decode cX8_troopAt 12 = .ok (.getfield 10, 3) := by decide +kernel
theorem dX8_troopAt_15 : decode cX8_troopAt 15 = .ok (.iload_n 1, 1) := by decide +kernel
theorem dX8_troopAt_16 : decode cX8_troopAt 16 = .ok (.invokevirtual 124, 3) := by decide +kernel
theorem dX8_troopAt_19 : decode cX8_troopAt 19 = .ok (.checkcast 51, 3) := by decide +kernel
theorem dX8_troopAt_22 : decode cX8_troopAt 22 = .ok (.areturn, 1) := by decide +kernel
theorem dX8_childAt_0 : decode cX8_childAt 0 = .ok (.iload_n 1, 1) := by decide +kernel
theorem dX8_childAt_1 : decode cX8_childAt 1 = .ok (.aload_n 0, 1) := by decide +kernel
theorem dX8_childAt_2 : decode cX8_childAt 2 = .ok (.getfield 16, 3) := by decide +kernel
theorem dX8_childAt_5 : decode cX8_childAt 5 = .ok (.invokevirtual 43, 3) := by decide +kernel
theorem dX8_childAt_8 : decode cX8_childAt 8 = .ok (.invokestatic 155, 3) := by decide +kernel
theorem dX8_childAt_11 : decode cX8_childAt 11 = .ok (.aload_n 0, 1) := by decide +kernel
theorem dX8_childAt_12 : decode cX8_childAt 12 = .ok (.getfield 16, 3) := by decide +kernel
theorem dX8_childAt_15 : decode cX8_childAt 15 = .ok (.iload_n 1, 1) := by decide +kernel
theorem dX8_childAt_16 : decode cX8_childAt 16 = .ok (.invokevirtual 124, 3) := by decide +kernel
theorem dX8_childAt_19 : decode cX8_childAt 19 = .ok (.checkcast 60, 3) := by decide +kernel
theorem dX8_childAt_22 : decode cX8_childAt 22 = .ok (.areturn, 1) := by decide +kernel
theorem dX8_leaderAt_0 : decode cX8_leaderAt 0 = .ok (.iload_n 1, 1) := by decide +kernel
theorem dX8_leaderAt_1 : decode cX8_leaderAt 1 = .ok (.aload_n 0, 1) := by decide +kernel
theorem dX8_leaderAt_2 : decode cX8_leaderAt 2 = .ok (.getfield 19, 3) := by decide +kernel
theorem dX8_leaderAt_5 : decode cX8_leaderAt 5 = .ok (.invokevirtual 43, 3) := by decide +kernel
theorem dX8_leaderAt_8 : decode cX8_leaderAt 8 = .ok (.invokestatic 155, 3) := by decide +kernel
theorem dX8_leaderAt_11 : decode cX8_leaderAt 11 = .ok (.aload_n 0, 1) := by decide +kernel
theorem dX8_leaderAt_12 : decode cX8_leaderAt 12 = .ok (.getfield 19, 3) := by decide +kernel
theorem dX8_leaderAt_15 : decode cX8_leaderAt 15 = .ok (.iload_n 1, 1) := by decide +kernel
theorem dX8_leaderAt_16 : decode cX8_leaderAt 16 = .ok (.invokevirtual 124, 3) := by decide +kernel
theorem dX8_leaderAt_19 : decode cX8_leaderAt 19 = .ok (.checkcast 148, 3) := by decide +kernel
theorem dX8_leaderAt_22 : decode cX8_leaderAt 22 = .ok (.areturn, 1) := by decide +kernel
theorem dX8_eventAt_0 : decode cX8_eventAt 0 = .ok (.iload_n 1, 1) := by decide +kernel
theorem dX8_eventAt_1 : decode cX8_eventAt 1 = .ok (.aload_n 0, 1) := by decide +kernel
theorem dX8_eventAt_2 : decode cX8_eventAt 2 = .ok (.getfield 22, 3) := by decide +kernel
theorem dX8_eventAt_5 : decode cX8_eventAt 5 = .ok (.invokevirtual 43, 3) := by decide +kernel
theorem dX8_eventAt_8 : decode cX8_eventAt 8 = .ok (.invokestatic 155, 3) := by decide +kernel
theorem dX8_eventAt_11 : decode cX8_eventAt 11 = .ok (.aload_n 0, 1) := by decide +kernel
theorem dX8_eventAt_12 : decode cX8_eventAt 12 = .ok (.getfield 22, 3) := by decide +kernel
theorem dX8_eventAt_15 : decode cX8_eventAt 15 = .ok (.iload_n 1, 1) := by decide +kernel
theorem dX8_eventAt_16 : decode cX8_eventAt 16 = .ok (.invokevirtual 124, 3) := by decide +kernel
theorem dX8_eventAt_19 : decode cX8_eventAt 19 = .ok (.checkcast 223, 3) := by decide +kernel
theorem dX8_eventAt_22 : decode cX8_eventAt 22 = .ok (.areturn, 1) := by decide +kernel
theorem dX8_badgeAt_0 : decode cX8_badgeAt 0 = .ok (.iload_n 1, 1) := by decide +kernel
theorem dX8_badgeAt_1 : decode cX8_badgeAt 1 = .ok (.aload_n 0, 1) := by decide +kernel
theorem dX8_badgeAt_2 : decode cX8_badgeAt 2 = .ok (.getfield 27, 3) := by decide +kernel
theorem dX8_badgeAt_5 : decode cX8_badgeAt 5 = .ok (.arraylength, 1) := by decide +kernel
theorem dX8_badgeAt_6 : decode cX8_badgeAt 6 = .ok (.invokestatic 155, 3) := by decide +kernel
theorem dX8_badgeAt_9 : decode cX8_badgeAt 9 = .ok (.aload_n 0, 1) := by decide +kernel
theorem dX8_badgeAt_10 : decode cX8_badgeAt 10 = .ok (.getfield 27, 3) := by decide +kernel
theorem dX8_badgeAt_13 : decode cX8_badgeAt 13 = .ok (.iload_n 1, 1) := by decide +kernel
theorem dX8_badgeAt_14 : decode cX8_badgeAt 14 = .ok (.aaload, 1) := by decide +kernel
theorem dX8_badgeAt_15 : decode cX8_badgeAt 15 = .ok (.areturn, 1) := by decide +kernel
theorem dX8_hasBit_0 : decode cX8_hasBit 0 = .ok (.iload_n 0, 1) := by decide +kernel
theorem dX8_hasBit_1 : decode cX8_hasBit 1 = .ok (.iconst 1, 1) := by decide +kernel
theorem dX8_hasBit_2 : decode cX8_hasBit 2 = .ok (.iload_n 1, 1) := by decide +kernel
theorem dX8_hasBit_3 : decode cX8_hasBit 3 = .ok (.ishl, 1) := by decide +kernel
theorem dX8_hasBit_4 : decode cX8_hasBit 4 = .ok (.iand, 1) := by decide +kernel
theorem dX8_hasBit_5 : decode cX8_hasBit 5 = .ok (.ifCond .eq 7, 3) := by decide +kernel
theorem dX8_hasBit_8 : decode cX8_hasBit 8 = .ok (.iconst 1, 1) := by decide +kernel
theorem dX8_hasBit_9 : decode cX8_hasBit 9 = .ok (.goto 4, 3) := by decide +kernel
theorem dX8_hasBit_12 : decode cX8_hasBit 12 = .ok (.iconst 0, 1) := by decide +kernel
theorem dX8_hasBit_13 : decode cX8_hasBit 13 = .ok (.ireturn, 1) := by decide +kernel
theorem dX8_childrenIn_0 : decode cX8_childrenIn 0 = .ok (.iconst 0, 1) := by decide +kernel
theorem dX8_childrenIn_1 : decode cX8_childrenIn 1 = .ok (.istore_n 2, 1) := by decide +kernel
theorem dX8_childrenIn_2 : decode cX8_childrenIn 2 = .ok (.iconst 0, 1) := by decide +kernel
theorem dX8_childrenIn_3 : decode cX8_childrenIn 3 = .ok (.istore_n 3, 1) := by decide +kernel
theorem dX8_childrenIn_4 : decode cX8_childrenIn 4 = .ok (.iload_n 3, 1) := by decide +kernel
theorem dX8_childrenIn_5 : decode cX8_childrenIn 5 = .ok (.aload_n 0, 1) := by decide +kernel
theorem dX8_childrenIn_6 : decode cX8_childrenIn 6 = .ok (.getfield 16, 3) := by decide +kernel
theorem dX8_childrenIn_9 : decode cX8_childrenIn 9 = .ok (.invokevirtual 43, 3) := by decide +kernel
theorem dX8_childrenIn_12 : decode cX8_childrenIn 12 = .ok (.if_icmp .ge 30, 3) := by decide +kernel
theorem dX8_childrenIn_15 : decode cX8_childrenIn 15 = .ok (.aload_n 0, 1) := by decide +kernel
theorem dX8_childrenIn_16 : decode cX8_childrenIn 16 = .ok (.getfield 16, 3) := by decide +kernel
theorem dX8_childrenIn_19 : decode cX8_childrenIn 19 = .ok (.iload_n 3, 1) := by decide +kernel
theorem dX8_childrenIn_20 : decode cX8_childrenIn 20 = .ok (.invokevirtual 124, 3) := by decide +kernel
theorem dX8_childrenIn_23 : decode cX8_childrenIn 23 = .ok (.checkcast 60, 3) := by decide +kernel
theorem dX8_childrenIn_26 : decode cX8_childrenIn 26 = .ok (.getfield 72, 3) := by decide +kernel
theorem dX8_childrenIn_29 : decode cX8_childrenIn 29 = .ok (.iload_n 1, 1) := by decide +kernel
theorem dX8_childrenIn_30 : decode cX8_childrenIn 30 = .ok (.if_icmp .ne 6, 3) := by decide +kernel
theorem dX8_childrenIn_33 : decode cX8_childrenIn 33 = .ok (.iinc 2 1, 3) := by decide +kernel
theorem dX8_childrenIn_36 : decode cX8_childrenIn 36 = .ok (.iinc 3 1, 3) := by decide +kernel
theorem dX8_childrenIn_39 : decode cX8_childrenIn 39 = .ok (.goto (-35), 3) := by decide +kernel
theorem dX8_childrenIn_42 : decode cX8_childrenIn 42 = .ok (.iload_n 2, 1) := by decide +kernel
theorem dX8_childrenIn_43 : decode cX8_childrenIn 43 = .ok (.ireturn, 1) := by decide +kernel
theorem dX8_waitingFor_0 : decode cX8_waitingFor 0 = .ok (.iconst 0, 1) := by decide +kernel
theorem dX8_waitingFor_1 : decode cX8_waitingFor 1 = .ok (.istore_n 2, 1) := by decide +kernel
theorem dX8_waitingFor_2 : decode cX8_waitingFor 2 = .ok (.iconst 0, 1) := by decide +kernel
theorem dX8_waitingFor_3 : decode cX8_waitingFor 3 = .ok (.istore_n 3, 1) := by decide +kernel
theorem dX8_waitingFor_4 : decode cX8_waitingFor 4 = .ok (.iload_n 3, 1) := by decide +kernel
theorem dX8_waitingFor_5 : decode cX8_waitingFor 5 = .ok (.aload_n 0, 1) := by decide +kernel
theorem dX8_waitingFor_6 : decode cX8_waitingFor 6 = .ok (.getfield 16, 3) := by decide +kernel
theorem dX8_waitingFor_9 : decode cX8_waitingFor 9 = .ok (.invokevirtual 43, 3) := by decide +kernel
theorem dX8_waitingFor_12 : decode cX8_waitingFor 12 = .ok (.if_icmp .ge 30, 3) := by decide +kernel
theorem dX8_waitingFor_15 : decode cX8_waitingFor 15 = .ok (.aload_n 0, 1) := by decide +kernel
theorem dX8_waitingFor_16 : decode cX8_waitingFor 16 = .ok (.getfield 16, 3) := by decide +kernel
theorem dX8_waitingFor_19 : decode cX8_waitingFor 19 = .ok (.iload_n 3, 1) := by decide +kernel
theorem dX8_waitingFor_20 : decode cX8_waitingFor 20 = .ok (.invokevirtual 124, 3) := by decide +kernel
theorem dX8_waitingFor_23 : decode cX8_waitingFor 23 = .ok (.checkcast 60, 3) := by decide +kernel
theorem dX8_waitingFor_26 : decode cX8_waitingFor 26 = .ok (.getfield 75, 3) := by decide +kernel
theorem dX8_waitingFor_29 : decode cX8_waitingFor 29 = .ok (.iload_n 1, 1) := by decide +kernel
theorem dX8_waitingFor_30 : decode cX8_waitingFor 30 = .ok (.if_icmp .ne 6, 3) := by decide +kernel
theorem dX8_waitingFor_33 : decode cX8_waitingFor 33 = .ok (.iinc 2 1, 3) := by decide +kernel
theorem dX8_waitingFor_36 : decode cX8_waitingFor 36 = .ok (.iinc 3 1, 3) := by decide +kernel
theorem dX8_waitingFor_39 : decode cX8_waitingFor 39 = .ok (.goto (-35), 3) := by decide +kernel
theorem dX8_waitingFor_42 : decode cX8_waitingFor 42 = .ok (.iload_n 2, 1) := by decide +kernel
theorem dX8_waitingFor_43 : decode cX8_waitingFor 43 = .ok (.ireturn, 1) := by decide +kernel
theorem dX8_childrenInPatrol_0 : decode cX8_childrenInPatrol 0 = .ok (.iconst 0, 1) := by decide +kernel
theorem dX8_childrenInPatrol_1 : decode cX8_childrenInPatrol 1 = .ok (.istore_n 3, 1) := by decide +kernel
theorem dX8_childrenInPatrol_2 : decode cX8_childrenInPatrol 2 = .ok (.iconst 0, 1) := by decide +kernel
theorem dX8_childrenInPatrol_3 : decode cX8_childrenInPatrol 3 = .ok (.istore 4, 2) := by decide +kernel
theorem dX8_childrenInPatrol_5 : decode cX8_childrenInPatrol 5 = .ok (.iload 4, 2) := by decide +kernel
theorem dX8_childrenInPatrol_7 : decode cX8_childrenInPatrol 7 = .ok (.aload_n 0, 1) := by decide +kernel
theorem dX8_childrenInPatrol_8 : decode cX8_childrenInPatrol 8 = .ok (.getfield 16, 3) := by decide +kernel
theorem dX8_childrenInPatrol_11 : decode cX8_childrenInPatrol 11 = .ok (.invokevirtual 43, 3) := by decide +kernel
theorem dX8_childrenInPatrol_14 : decode cX8_childrenInPatrol 14 = .ok (.if_icmp .ge 44, 3) := by decide +kernel
theorem dX8_childrenInPatrol_17 : decode cX8_childrenInPatrol 17 = .ok (.aload_n 0, 1) := by decide +kernel
theorem dX8_childrenInPatrol_18 : decode cX8_childrenInPatrol 18 = .ok (.getfield 16, 3) := by decide +kernel
theorem dX8_childrenInPatrol_21 : decode cX8_childrenInPatrol 21 = .ok (.iload 4, 2) := by decide +kernel
theorem dX8_childrenInPatrol_23 : decode cX8_childrenInPatrol 23 = .ok (.invokevirtual 124, 3) := by decide +kernel
theorem dX8_childrenInPatrol_26 : decode cX8_childrenInPatrol 26 = .ok (.checkcast 60, 3) := by decide +kernel
theorem dX8_childrenInPatrol_29 : decode cX8_childrenInPatrol 29 = .ok (.astore 5, 2) := by decide +kernel
theorem dX8_childrenInPatrol_31 : decode cX8_childrenInPatrol 31 = .ok (.aload 5, 2) := by decide +kernel
theorem dX8_childrenInPatrol_33 : decode cX8_childrenInPatrol 33 = .ok (.getfield 72, 3) := by decide +kernel
theorem dX8_childrenInPatrol_36 : decode cX8_childrenInPatrol 36 = .ok (.iload_n 1, 1) := by decide +kernel
theorem dX8_childrenInPatrol_37 : decode cX8_childrenInPatrol 37 = .ok (.if_icmp .ne 15, 3) := by decide +kernel
theorem dX8_childrenInPatrol_40 : decode cX8_childrenInPatrol 40 = .ok (.aload 5, 2) := by decide +kernel
theorem dX8_childrenInPatrol_42 : decode cX8_childrenInPatrol 42 = .ok (.getfield 109, 3) := by decide +kernel
theorem dX8_childrenInPatrol_45 : decode cX8_childrenInPatrol 45 = .ok (.iload_n 2, 1) := by decide +kernel
theorem dX8_childrenInPatrol_46 : decode cX8_childrenInPatrol 46 = .ok (.if_icmp .ne 6, 3) := by decide +kernel
theorem dX8_childrenInPatrol_49 : decode cX8_childrenInPatrol 49 = .ok (.iinc 3 1, 3) := by decide +kernel
theorem dX8_childrenInPatrol_52 : decode cX8_childrenInPatrol 52 = .ok (.iinc 4 1, 3) := by decide +kernel
theorem dX8_childrenInPatrol_55 : decode cX8_childrenInPatrol 55 = .ok (.goto (-50), 3) := by decide +kernel
theorem dX8_childrenInPatrol_58 : decode cX8_childrenInPatrol 58 = .ok (.iload_n 3, 1) := by decide +kernel
theorem dX8_childrenInPatrol_59 : decode cX8_childrenInPatrol 59 = .ok (.ireturn, 1) := by decide +kernel
theorem dX8_smallestPatrol_0 : decode cX8_smallestPatrol 0 = .ok (.iconst 0, 1) := by decide +kernel
theorem dX8_smallestPatrol_1 : decode cX8_smallestPatrol 1 = .ok (.istore_n 2, 1) := by decide +kernel
theorem dX8_smallestPatrol_2 : decode cX8_smallestPatrol 2 = .ok (.aload_n 0, 1) := by decide +kernel
theorem dX8_smallestPatrol_3 : decode cX8_smallestPatrol 3 = .ok (.iload_n 1, 1) := by decide +kernel
theorem dX8_smallestPatrol_4 : decode cX8_smallestPatrol 4 = .ok (.iconst 0, 1) := by decide +kernel
theorem dX8_smallestPatrol_5 : decode cX8_smallestPatrol 5 = .ok (.invokevirtual 307, 3) := by decide +kernel
theorem dX8_smallestPatrol_8 : decode cX8_smallestPatrol 8 = .ok (.istore_n 3, 1) := by decide +kernel
theorem dX8_smallestPatrol_9 : decode cX8_smallestPatrol 9 = .ok (.iconst 1, 1) := by decide +kernel
theorem dX8_smallestPatrol_10 : decode cX8_smallestPatrol 10 = .ok (.istore 4, 2) := by decide +kernel
theorem dX8_smallestPatrol_12 : decode cX8_smallestPatrol 12 = .ok (.iload 4, 2) := by decide +kernel
theorem dX8_smallestPatrol_14 : decode cX8_smallestPatrol 14 = .ok (.iconst 4, 1) := by decide +kernel
theorem dX8_smallestPatrol_15 : decode cX8_smallestPatrol 15 = .ok (.if_icmp .ge 30, 3) := by decide +kernel
theorem dX8_smallestPatrol_18 : decode cX8_smallestPatrol 18 = .ok (.aload_n 0, 1) := by decide +kernel
theorem dX8_smallestPatrol_19 : decode cX8_smallestPatrol 19 = .ok (.iload_n 1, 1) := by decide +kernel
theorem dX8_smallestPatrol_20 : decode cX8_smallestPatrol 20 = .ok (.iload 4, 2) := by decide +kernel
theorem dX8_smallestPatrol_22 : decode cX8_smallestPatrol 22 = .ok (.invokevirtual 307, 3) := by decide +kernel
theorem dX8_smallestPatrol_25 : decode cX8_smallestPatrol 25 = .ok (.istore 5, 2) := by decide +kernel
theorem dX8_smallestPatrol_27 : decode cX8_smallestPatrol 27 = .ok (.iload 5, 2) := by decide +kernel
theorem dX8_smallestPatrol_29 : decode cX8_smallestPatrol 29 = .ok (.iload_n 3, 1) := by decide +kernel
theorem dX8_smallestPatrol_30 : decode cX8_smallestPatrol 30 = .ok (.if_icmp .ge 9, 3) := by decide +kernel
theorem dX8_smallestPatrol_33 : decode cX8_smallestPatrol 33 = .ok (.iload 4, 2) := by decide +kernel
theorem dX8_smallestPatrol_35 : decode cX8_smallestPatrol 35 = .ok (.istore_n 2, 1) := by decide +kernel
theorem dX8_smallestPatrol_36 : decode cX8_smallestPatrol 36 = .ok (.iload 5, 2) := by decide +kernel
theorem dX8_smallestPatrol_38 : decode cX8_smallestPatrol 38 = .ok (.istore_n 3, 1) := by decide +kernel
theorem dX8_smallestPatrol_39 : decode cX8_smallestPatrol 39 = .ok (.iinc 4 1, 3) := by decide +kernel
theorem dX8_smallestPatrol_42 : decode cX8_smallestPatrol 42 = .ok (.goto (-30), 3) := by decide +kernel
theorem dX8_smallestPatrol_45 : decode cX8_smallestPatrol 45 = .ok (.iload_n 2, 1) := by decide +kernel
theorem dX8_smallestPatrol_46 : decode cX8_smallestPatrol 46 = .ok (.ireturn, 1) := by decide +kernel
theorem dX8_filledPatrols_0 : decode cX8_filledPatrols 0 = .ok (.iconst 0, 1) := by decide +kernel
theorem dX8_filledPatrols_1 : decode cX8_filledPatrols 1 = .ok (.istore_n 2, 1) := by decide +kernel
theorem dX8_filledPatrols_2 : decode cX8_filledPatrols 2 = .ok (.iconst 0, 1) := by decide +kernel
theorem dX8_filledPatrols_3 : decode cX8_filledPatrols 3 = .ok (.istore_n 3, 1) := by decide +kernel
theorem dX8_filledPatrols_4 : decode cX8_filledPatrols 4 = .ok (.iload_n 3, 1) := by decide +kernel
theorem dX8_filledPatrols_5 : decode cX8_filledPatrols 5 = .ok (.iconst 4, 1) := by decide +kernel
theorem dX8_filledPatrols_6 : decode cX8_filledPatrols 6 = .ok (.if_icmp .ge 21, 3) := by decide +kernel
theorem dX8_filledPatrols_9 : decode cX8_filledPatrols 9 = .ok (.aload_n 0, 1) := by decide +kernel
theorem dX8_filledPatrols_10 : decode cX8_filledPatrols 10 = .ok (.iload_n 1, 1) := by decide +kernel
theorem dX8_filledPatrols_11 : decode cX8_filledPatrols 11 = .ok (.iload_n 3, 1) := by decide +kernel
theorem dX8_filledPatrols_12 : decode cX8_filledPatrols 12 = .ok (.invokevirtual 307, 3) := by decide +kernel
theorem dX8_filledPatrols_15 : decode cX8_filledPatrols 15 = .ok (.ifCond .le 6, 3) := by decide +kernel
theorem dX8_filledPatrols_18 : decode cX8_filledPatrols 18 = .ok (.iinc 2 1, 3) := by decide +kernel
theorem dX8_filledPatrols_21 : decode cX8_filledPatrols 21 = .ok (.iinc 3 1, 3) := by decide +kernel
theorem dX8_filledPatrols_24 : decode cX8_filledPatrols 24 = .ok (.goto (-20), 3) := by decide +kernel
theorem dX8_filledPatrols_27 : decode cX8_filledPatrols 27 = .ok (.iload_n 2, 1) := by decide +kernel
theorem dX8_filledPatrols_28 : decode cX8_filledPatrols 28 = .ok (.ireturn, 1) := by decide +kernel
theorem dX8_filledPatrolAt_0 : decode cX8_filledPatrolAt 0 = .ok (.iconst 0, 1) := by decide +kernel
theorem dX8_filledPatrolAt_1 : decode cX8_filledPatrolAt 1 = .ok (.istore_n 3, 1) := by decide +kernel
theorem dX8_filledPatrolAt_2 : decode cX8_filledPatrolAt 2 = .ok (.iconst 0, 1) := by decide +kernel
theorem dX8_filledPatrolAt_3 : decode cX8_filledPatrolAt 3 = .ok (.istore 4, 2) := by decide +kernel
theorem dX8_filledPatrolAt_5 : decode cX8_filledPatrolAt 5 = .ok (.iload 4, 2) := by decide +kernel
theorem dX8_filledPatrolAt_7 : decode cX8_filledPatrolAt 7 = .ok (.iconst 4, 1) := by decide +kernel
theorem dX8_filledPatrolAt_8 : decode cX8_filledPatrolAt 8 = .ok (.if_icmp .ge 30, 3) := by decide +kernel
theorem dX8_filledPatrolAt_11 : decode cX8_filledPatrolAt 11 = .ok (.aload_n 0, 1) := by decide +kernel
theorem dX8_filledPatrolAt_12 : decode cX8_filledPatrolAt 12 = .ok (.iload_n 1, 1) := by decide +kernel
theorem dX8_filledPatrolAt_13 : decode cX8_filledPatrolAt 13 = .ok (.iload 4, 2) := by decide +kernel
theorem dX8_filledPatrolAt_15 : decode cX8_filledPatrolAt 15 = .ok (.invokevirtual 307, 3) := by decide +kernel
theorem dX8_filledPatrolAt_18 : decode cX8_filledPatrolAt 18 = .ok (.ifCond .le 14, 3) := by decide +kernel
theorem dX8_filledPatrolAt_21 : decode cX8_filledPatrolAt 21 = .ok (.iload_n 3, 1) := by decide +kernel
theorem dX8_filledPatrolAt_22 : decode cX8_filledPatrolAt 22 = .ok (.iload_n 2, 1) := by decide +kernel
theorem dX8_filledPatrolAt_23 : decode cX8_filledPatrolAt 23 = .ok (.if_icmp .ne 6, 3) := by decide +kernel
theorem dX8_filledPatrolAt_26 : decode cX8_filledPatrolAt 26 = .ok (.iload 4, 2) := by decide +kernel
theorem dX8_filledPatrolAt_28 : decode cX8_filledPatrolAt 28 = .ok (.ireturn, 1) := by decide +kernel
theorem dX8_filledPatrolAt_29 : decode cX8_filledPatrolAt 29 = .ok (.iinc 3 1, 3) := by decide +kernel
theorem dX8_filledPatrolAt_32 : decode cX8_filledPatrolAt 32 = .ok (.iinc 4 1, 3) := by decide +kernel
theorem dX8_filledPatrolAt_35 : decode cX8_filledPatrolAt 35 = .ok (.goto (-30), 3) := by decide +kernel
theorem dX8_filledPatrolAt_38 : decode cX8_filledPatrolAt 38 = .ok (.iconst (-1), 1) := by decide +kernel
theorem dX8_filledPatrolAt_39 : decode cX8_filledPatrolAt 39 = .ok (.ireturn, 1) := by decide +kernel
theorem dX8_comeInOrWait_0 : decode cX8_comeInOrWait 0 = .ok (.aload_n 0, 1) := by decide +kernel
theorem dX8_comeInOrWait_1 : decode cX8_comeInOrWait 1 = .ok (.aload_n 2, 1) := by decide +kernel
theorem dX8_comeInOrWait_2 : decode cX8_comeInOrWait 2 = .ok (.getfield 112, 3) := by decide +kernel
theorem dX8_comeInOrWait_5 : decode cX8_comeInOrWait 5 = .ok (.invokevirtual 280, 3) := by decide +kernel
theorem dX8_comeInOrWait_8 : decode cX8_comeInOrWait 8 = .ok (.aload_n 2, 1) := by decide +kernel
theorem dX8_comeInOrWait_9 : decode cX8_comeInOrWait 9 = .ok (.getfield 310, 3) := by decide +kernel
theorem dX8_comeInOrWait_12 : decode cX8_comeInOrWait 12 = .ok (.if_icmp .ge 14, 3) := by decide +kernel
theorem dX8_comeInOrWait_15 : decode cX8_comeInOrWait 15 = .ok (.aload_n 0, 1) := by decide +kernel
theorem dX8_comeInOrWait_16 : decode cX8_comeInOrWait 16 = .ok (.aload_n 1, 1) := by decide +kernel
theorem dX8_comeInOrWait_17 : decode cX8_comeInOrWait 17 = .ok (.aload_n 2, 1) := by decide +kernel
theorem dX8_comeInOrWait_18 : decode cX8_comeInOrWait 18 = .ok (.getfield 112, 3) := by decide +kernel
theorem dX8_comeInOrWait_21 : decode cX8_comeInOrWait 21 = .ok (.invokevirtual 313, 3) := by decide +kernel
theorem dX8_comeInOrWait_24 : decode cX8_comeInOrWait 24 = .ok (.iconst 0, 1) := by decide +kernel
theorem dX8_comeInOrWait_25 : decode cX8_comeInOrWait 25 = .ok (.ireturn, 1) := by decide +kernel
theorem dX8_comeInOrWait_26 : decode cX8_comeInOrWait 26 = .ok (.aload_n 1, 1) := by decide +kernel
theorem dX8_comeInOrWait_27 : decode cX8_comeInOrWait 27 = .ok (.aload_n 2, 1) := by decide +kernel
theorem dX8_comeInOrWait_28 : decode cX8_comeInOrWait 28 = .ok (.getfield 112, 3) := by decide +kernel
theorem dX8_comeInOrWait_31 : decode cX8_comeInOrWait 31 = .ok (.putfield 75, 3) := by decide +kernel
theorem dX8_comeInOrWait_34 : decode cX8_comeInOrWait 34 = .ok (.aload_n 1, 1) := by decide +kernel
theorem dX8_comeInOrWait_35 : decode cX8_comeInOrWait 35 = .ok (.aload_n 0, 1) := by decide +kernel
theorem dX8_comeInOrWait_36 : decode cX8_comeInOrWait 36 = .ok (.getfield 36, 3) := by decide +kernel
theorem dX8_comeInOrWait_39 : decode cX8_comeInOrWait 39 = .ok (.putfield 317, 3) := by decide +kernel
theorem dX8_comeInOrWait_42 : decode cX8_comeInOrWait 42 = .ok (.aload_n 0, 1) := by decide +kernel
theorem dX8_comeInOrWait_43 : decode cX8_comeInOrWait 43 = .ok (.dup, 1) := by decide +kernel
theorem dX8_comeInOrWait_44 : decode cX8_comeInOrWait 44 = .ok (.getfield 36, 3) := by decide +kernel
theorem dX8_comeInOrWait_47 : decode cX8_comeInOrWait 47 = .ok (.iconst 1, 1) := by decide +kernel
theorem dX8_comeInOrWait_48 : decode cX8_comeInOrWait 48 = .ok (.iadd, 1) := by decide +kernel
theorem dX8_comeInOrWait_49 : decode cX8_comeInOrWait 49 = .ok (.putfield 36, 3) := by decide +kernel
theorem dX8_comeInOrWait_52 : decode cX8_comeInOrWait 52 = .ok (.aload_n 0, 1) := by decide +kernel
theorem dX8_comeInOrWait_53 : decode cX8_comeInOrWait 53 = .ok (.aload_n 2, 1) := by decide +kernel
theorem dX8_comeInOrWait_54 : decode cX8_comeInOrWait 54 = .ok (.getfield 112, 3) := by decide +kernel
theorem dX8_comeInOrWait_57 : decode cX8_comeInOrWait 57 = .ok (.invokevirtual 277, 3) := by decide +kernel
theorem dX8_comeInOrWait_60 : decode cX8_comeInOrWait 60 = .ok (.ireturn, 1) := by decide +kernel
theorem dX8_comeIn_0 : decode cX8_comeIn 0 = .ok (.aload_n 1, 1) := by decide +kernel
theorem dX8_comeIn_1 : decode cX8_comeIn 1 = .ok (.aload_n 0, 1) := by decide +kernel
theorem dX8_comeIn_2 : decode cX8_comeIn 2 = .ok (.iload_n 2, 1) := by decide +kernel
theorem dX8_comeIn_3 : decode cX8_comeIn 3 = .ok (.invokevirtual 320, 3) := by decide +kernel
theorem dX8_comeIn_6 : decode cX8_comeIn 6 = .ok (.putfield 109, 3) := by decide +kernel
theorem dX8_comeIn_9 : decode cX8_comeIn 9 = .ok (.aload_n 1, 1) := by decide +kernel
theorem dX8_comeIn_10 : decode cX8_comeIn 10 = .ok (.iload_n 2, 1) := by decide +kernel
theorem dX8_comeIn_11 : decode cX8_comeIn 11 = .ok (.putfield 72, 3) := by decide +kernel
theorem dX8_comeIn_14 : decode cX8_comeIn 14 = .ok (.aload_n 1, 1) := by decide +kernel
theorem dX8_comeIn_15 : decode cX8_comeIn 15 = .ok (.iconst (-1), 1) := by decide +kernel
theorem dX8_comeIn_16 : decode cX8_comeIn 16 = .ok (.putfield 75, 3) := by decide +kernel
theorem dX8_comeIn_19 : decode cX8_comeIn 19 = .ok (.return_, 1) := by decide +kernel
theorem dX8_letFirstIn_0 : decode cX8_letFirstIn 0 = .ok (.aload_n 0, 1) := by decide +kernel
theorem dX8_letFirstIn_1 : decode cX8_letFirstIn 1 = .ok (.iload_n 1, 1) := by decide +kernel
theorem dX8_letFirstIn_2 : decode cX8_letFirstIn 2 = .ok (.invokevirtual 323, 3) := by decide +kernel
theorem dX8_letFirstIn_5 : decode cX8_letFirstIn 5 = .ok (.astore_n 2, 1) := by decide +kernel
theorem dX8_letFirstIn_6 : decode cX8_letFirstIn 6 = .ok (.aload_n 2, 1) := by decide +kernel
theorem dX8_letFirstIn_7 : decode cX8_letFirstIn 7 = .ok (.ifnonnull 5, 3) := by decide +kernel
theorem dX8_letFirstIn_10 : decode cX8_letFirstIn 10 = .ok (.iconst (-1), 1) := by decide +kernel
theorem dX8_letFirstIn_11 : decode cX8_letFirstIn 11 = .ok (.ireturn, 1) := by decide +kernel
theorem dX8_letFirstIn_12 : decode cX8_letFirstIn 12 = .ok (.aload_n 0, 1) := by decide +kernel
theorem dX8_letFirstIn_13 : decode cX8_letFirstIn 13 = .ok (.aload_n 2, 1) := by decide +kernel
theorem dX8_letFirstIn_14 : decode cX8_letFirstIn 14 = .ok (.iload_n 1, 1) := by decide +kernel
theorem dX8_letFirstIn_15 : decode cX8_letFirstIn 15 = .ok (.invokevirtual 313, 3) := by decide +kernel
theorem dX8_letFirstIn_18 : decode cX8_letFirstIn 18 = .ok (.aload_n 2, 1) := by decide +kernel
theorem dX8_letFirstIn_19 : decode cX8_letFirstIn 19 = .ok (.getfield 326, 3) := by decide +kernel
theorem dX8_letFirstIn_22 : decode cX8_letFirstIn 22 = .ok (.ireturn, 1) := by decide +kernel
theorem dX8_firstWaiting_0 : decode cX8_firstWaiting 0 = .ok (.aconst_null, 1) := by decide +kernel
theorem dX8_firstWaiting_1 : decode cX8_firstWaiting 1 = .ok (.astore_n 2, 1) := by decide +kernel
theorem dX8_firstWaiting_2 : decode cX8_firstWaiting 2 = .ok (.iconst 0, 1) := by decide +kernel
theorem dX8_firstWaiting_3 : decode cX8_firstWaiting 3 = .ok (.istore_n 3, 1) := by decide +kernel
theorem dX8_firstWaiting_4 : decode cX8_firstWaiting 4 = .ok (.iload_n 3, 1) := by decide +kernel
theorem dX8_firstWaiting_5 : decode cX8_firstWaiting 5 = .ok (.aload_n 0, 1) := by decide +kernel
theorem dX8_firstWaiting_6 : decode cX8_firstWaiting 6 = .ok (.getfield 16, 3) := by decide +kernel
theorem dX8_firstWaiting_9 : decode cX8_firstWaiting 9 = .ok (.invokevirtual 43, 3) := by decide +kernel
theorem dX8_firstWaiting_12 : decode cX8_firstWaiting 12 = .ok (.if_icmp .ge 50, 3) := by decide +kernel
theorem dX8_firstWaiting_15 : decode cX8_firstWaiting 15 = .ok (.aload_n 0, 1) := by decide +kernel
theorem dX8_firstWaiting_16 : decode cX8_firstWaiting 16 = .ok (.getfield 16, 3) := by decide +kernel
theorem dX8_firstWaiting_19 : decode cX8_firstWaiting 19 = .ok (.iload_n 3, 1) := by decide +kernel
theorem dX8_firstWaiting_20 : decode cX8_firstWaiting 20 = .ok (.invokevirtual 124, 3) := by decide +kernel
theorem dX8_firstWaiting_23 : decode cX8_firstWaiting 23 = .ok (.checkcast 60, 3) := by decide +kernel
theorem dX8_firstWaiting_26 : decode cX8_firstWaiting 26 = .ok (.astore 4, 2) := by decide +kernel
theorem dX8_firstWaiting_28 : decode cX8_firstWaiting 28 = .ok (.aload 4, 2) := by decide +kernel
theorem dX8_firstWaiting_30 : decode cX8_firstWaiting 30 = .ok (.getfield 75, 3) := by decide +kernel
theorem dX8_firstWaiting_33 : decode cX8_firstWaiting 33 = .ok (.iload_n 1, 1) := by decide +kernel
theorem dX8_firstWaiting_34 : decode cX8_firstWaiting 34 = .ok (.if_icmp .ne 22, 3) := by decide +kernel
theorem dX8_firstWaiting_37 : decode cX8_firstWaiting 37 = .ok (.aload_n 2, 1) := by decide +kernel
theorem dX8_firstWaiting_38 : decode cX8_firstWaiting 38 = .ok (.ifnull 15, 3) := by decide +kernel
theorem dX8_firstWaiting_41 : decode cX8_firstWaiting 41 = .ok (.aload 4, 2) := by decide +kernel
theorem dX8_firstWaiting_43 : decode cX8_firstWaiting 43 = .ok (.getfield 317, 3) := by decide +kernel
theorem dX8_firstWaiting_46 : decode cX8_firstWaiting 46 = .ok (.aload_n 2, 1) := by decide +kernel
theorem dX8_firstWaiting_47 : decode cX8_firstWaiting 47 = .ok (.getfield 317, 3) := by decide +kernel
theorem dX8_firstWaiting_50 : decode cX8_firstWaiting 50 = .ok (.if_icmp .ge 6, 3) := by decide +kernel
theorem dX8_firstWaiting_53 : decode cX8_firstWaiting 53 = .ok (.aload 4, 2) := by decide +kernel
theorem dX8_firstWaiting_55 : decode cX8_firstWaiting 55 = .ok (.astore_n 2, 1) := by decide +kernel
theorem dX8_firstWaiting_56 : decode cX8_firstWaiting 56 = .ok (.iinc 3 1, 3) := by decide +kernel
theorem dX8_firstWaiting_59 : decode cX8_firstWaiting 59 = .ok (.goto (-55), 3) := by decide +kernel
theorem dX8_firstWaiting_62 : decode cX8_firstWaiting 62 = .ok (.aload_n 2, 1) := by decide +kernel
theorem dX8_firstWaiting_63 : decode cX8_firstWaiting 63 = .ok (.areturn, 1) := by decide +kernel
theorem dX8_sendOutByAge_0 : decode cX8_sendOutByAge 0 = .ok (.iconst 0, 1) := by decide +kernel
theorem dX8_sendOutByAge_1 : decode cX8_sendOutByAge 1 = .ok (.istore_n 1, 1) := by decide +kernel
theorem dX8_sendOutByAge_2 : decode cX8_sendOutByAge 2 = .ok (.iconst 0, 1) := by decide +kernel
theorem dX8_sendOutByAge_3 : decode cX8_sendOutByAge 3 = .ok (.istore_n 2, 1) := by decide +kernel
theorem dX8_sendOutByAge_4 : decode cX8_sendOutByAge 4 = .ok (.iload_n 2, 1) := by decide +kernel
theorem dX8_sendOutByAge_5 : decode cX8_sendOutByAge 5 = .ok (.aload_n 0, 1) := by decide +kernel
theorem dX8_sendOutByAge_6 : decode cX8_sendOutByAge 6 = .ok (.getfield 10, 3) := by decide +kernel
theorem dX8_sendOutByAge_9 : decode cX8_sendOutByAge 9 = .ok (.invokevirtual 43, 3) := by decide +kernel
theorem dX8_sendOutByAge_12 : decode cX8_sendOutByAge 12 = .ok (.if_icmp .ge 27, 3) := by decide +kernel
theorem dX8_sendOutByAge_15 : decode cX8_sendOutByAge 15 = .ok (.iload_n 1, 1) := by decide +kernel
theorem dX8_sendOutByAge_16 : decode cX8_sendOutByAge 16 = .ok (.aload_n 0, 1) := by decide +kernel
theorem dX8_sendOutByAge_17 : decode cX8_sendOutByAge 17 = .ok (.aload_n 0, 1) := by decide +kernel
theorem dX8_sendOutByAge_18 : decode cX8_sendOutByAge 18 = .ok (.getfield 10, 3) := by decide +kernel
theorem dX8_sendOutByAge_21 : decode cX8_sendOutByAge 21 = .ok (.iload_n 2, 1) := by decide +kernel
theorem dX8_sendOutByAge_22 : decode cX8_sendOutByAge 22 = .ok (.invokevirtual 124, 3) := by decide +kernel
theorem dX8_sendOutByAge_25 : decode cX8_sendOutByAge 25 = .ok (.checkcast 51, 3) := by decide +kernel
theorem dX8_sendOutByAge_28 : decode cX8_sendOutByAge 28 = .ok (.invokevirtual 327, 3) := by decide +kernel
theorem dX8_sendOutByAge_31 : decode cX8_sendOutByAge 31 = .ok (.ior, 1) := by decide +kernel
theorem dX8_sendOutByAge_32 : decode cX8_sendOutByAge 32 = .ok (.istore_n 1, 1) := by decide +kernel
theorem dX8_sendOutByAge_33 : decode cX8_sendOutByAge 33 = .ok (.iinc 2 1, 3) := by decide +kernel
theorem dX8_sendOutByAge_36 : decode cX8_sendOutByAge 36 = .ok (.goto (-32), 3) := by decide +kernel
theorem dX8_sendOutByAge_39 : decode cX8_sendOutByAge 39 = .ok (.iload_n 1, 1) := by decide +kernel
theorem dX8_sendOutByAge_40 : decode cX8_sendOutByAge 40 = .ok (.ireturn, 1) := by decide +kernel
theorem dX8_sendOutOf_0 : decode cX8_sendOutOf 0 = .ok (.iconst 0, 1) := by decide +kernel
theorem dX8_sendOutOf_1 : decode cX8_sendOutOf 1 = .ok (.istore_n 2, 1) := by decide +kernel
theorem dX8_sendOutOf_2 : decode cX8_sendOutOf 2 = .ok (.iconst 0, 1) := by decide +kernel
theorem dX8_sendOutOf_3 : decode cX8_sendOutOf 3 = .ok (.istore_n 3, 1) := by decide +kernel
theorem dX8_sendOutOf_4 : decode cX8_sendOutOf 4 = .ok (.iload_n 3, 1) := by decide +kernel
theorem dX8_sendOutOf_5 : decode cX8_sendOutOf 5 = .ok (.aload_n 0, 1) := by decide +kernel
theorem dX8_sendOutOf_6 : decode cX8_sendOutOf 6 = .ok (.getfield 16, 3) := by decide +kernel
theorem dX8_sendOutOf_9 : decode cX8_sendOutOf 9 = .ok (.invokevirtual 43, 3) := by decide +kernel
theorem dX8_sendOutOf_12 : decode cX8_sendOutOf 12 = .ok (.if_icmp .ge 77, 3) := by decide +kernel
theorem dX8_sendOutOf_15 : decode cX8_sendOutOf 15 = .ok (.aload_n 0, 1) := by decide +kernel
theorem dX8_sendOutOf_16 : decode cX8_sendOutOf 16 = .ok (.getfield 16, 3) := by decide +kernel
theorem dX8_sendOutOf_19 : decode cX8_sendOutOf 19 = .ok (.iload_n 3, 1) := by decide +kernel
theorem dX8_sendOutOf_20 : decode cX8_sendOutOf 20 = .ok (.invokevirtual 124, 3) := by decide +kernel
theorem dX8_sendOutOf_23 : decode cX8_sendOutOf 23 = .ok (.checkcast 60, 3) := by decide +kernel
theorem dX8_sendOutOf_26 : decode cX8_sendOutOf 26 = .ok (.astore 4, 2) := by decide +kernel
theorem dX8_sendOutOf_28 : decode cX8_sendOutOf 28 = .ok (.aload_n 1, 1) := by decide +kernel
theorem dX8_sendOutOf_29 : decode cX8_sendOutOf 29 = .ok (.aload 4, 2) := by decide +kernel
theorem dX8_sendOutOf_31 : decode cX8_sendOutOf 31 = .ok (.getfield 85, 3) := by decide +kernel
theorem dX8_sendOutOf_34 : decode cX8_sendOutOf 34 = .ok (.invokevirtual 88, 3) := by decide +kernel
theorem dX8_sendOutOf_37 : decode cX8_sendOutOf 37 = .ok (.ifCond .ne 46, 3) := by decide +kernel
theorem dX8_sendOutOf_40 : decode cX8_sendOutOf 40 = .ok (.aload 4, 2) := by decide +kernel
theorem dX8_sendOutOf_42 : decode cX8_sendOutOf 42 = .ok (.getfield 72, 3) := by decide +kernel
theorem dX8_sendOutOf_45 : decode cX8_sendOutOf 45 = .ok (.aload_n 1, 1) := by decide +kernel
theorem dX8_sendOutOf_46 : decode cX8_sendOutOf 46 = .ok (.getfield 112, 3) := by decide +kernel
theorem dX8_sendOutOf_49 : decode cX8_sendOutOf 49 = .ok (.if_icmp .ne 17, 3) := by decide +kernel
theorem dX8_sendOutOf_52 : decode cX8_sendOutOf 52 = .ok (.iload_n 2, 1) := by decide +kernel
theorem dX8_sendOutOf_53 : decode cX8_sendOutOf 53 = .ok (.iconst 1, 1) := by decide +kernel
theorem dX8_sendOutOf_54 : decode cX8_sendOutOf 54 = .ok (.iload_n 3, 1) := by decide +kernel
theorem dX8_sendOutOf_55 : decode cX8_sendOutOf 55 = .ok (.ishl, 1) := by decide +kernel
theorem dX8_sendOutOf_56 : decode cX8_sendOutOf 56 = .ok (.ior, 1) := by decide +kernel
theorem dX8_sendOutOf_57 : decode cX8_sendOutOf 57 = .ok (.istore_n 2, 1) := by decide +kernel
theorem dX8_sendOutOf_58 : decode cX8_sendOutOf 58 = .ok (.aload 4, 2) := by decide +kernel
theorem dX8_sendOutOf_60 : decode cX8_sendOutOf 60 = .ok (.invokevirtual 100, 3) := by decide +kernel
theorem dX8_sendOutOf_63 : decode cX8_sendOutOf 63 = .ok (.goto 20, 3) := by decide +kernel
theorem dX8_sendOutOf_66 : decode cX8_sendOutOf 66 = .ok (.aload 4, 2) := by decide +kernel
theorem dX8_sendOutOf_68 : decode cX8_sendOutOf 68 = .ok (.getfield 75, 3) := by decide +kernel
theorem dX8_sendOutOf_71 : decode cX8_sendOutOf 71 = .ok (.aload_n 1, 1) := by decide +kernel
theorem dX8_sendOutOf_72 : decode cX8_sendOutOf 72 = .ok (.getfield 112, 3) := by decide +kernel
theorem dX8_sendOutOf_75 : decode cX8_sendOutOf 75 = .ok (.if_icmp .ne 8, 3) := by decide +kernel
theorem dX8_sendOutOf_78 : decode cX8_sendOutOf 78 = .ok (.aload 4, 2) := by decide +kernel
theorem dX8_sendOutOf_80 : decode cX8_sendOutOf 80 = .ok (.invokevirtual 100, 3) := by decide +kernel
theorem dX8_sendOutOf_83 : decode cX8_sendOutOf 83 = .ok (.iinc 3 1, 3) := by decide +kernel
theorem dX8_sendOutOf_86 : decode cX8_sendOutOf 86 = .ok (.goto (-82), 3) := by decide +kernel
theorem dX8_sendOutOf_89 : decode cX8_sendOutOf 89 = .ok (.iload_n 2, 1) := by decide +kernel
theorem dX8_sendOutOf_90 : decode cX8_sendOutOf 90 = .ok (.ireturn, 1) := by decide +kernel
theorem dX8_fillUp_0 : decode cX8_fillUp 0 = .ok (.aload_n 1, 1) := by decide +kernel
theorem dX8_fillUp_1 : decode cX8_fillUp 1 = .ok (.getfield 310, 3) := by decide +kernel
theorem dX8_fillUp_4 : decode cX8_fillUp 4 = .ok (.aload_n 0, 1) := by decide +kernel
theorem dX8_fillUp_5 : decode cX8_fillUp 5 = .ok (.aload_n 1, 1) := by decide +kernel
theorem dX8_fillUp_6 : decode cX8_fillUp 6 = .ok (.getfield 112, 3) := by decide +kernel
theorem dX8_fillUp_9 : decode cX8_fillUp 9 = .ok (.invokevirtual 280, 3) := by decide +kernel
theorem dX8_fillUp_12 : decode cX8_fillUp 12 = .ok (.isub, 1) := by decide +kernel
theorem dX8_fillUp_13 : decode cX8_fillUp 13 = .ok (.istore_n 2, 1) := by decide +kernel
theorem dX8_fillUp_14 : decode cX8_fillUp 14 = .ok (.iconst 0, 1) := by decide +kernel
theorem dX8_fillUp_15 : decode cX8_fillUp 15 = .ok (.istore_n 3, 1) := by decide +kernel
theorem dX8_fillUp_16 : decode cX8_fillUp 16 = .ok (.iload_n 3, 1) := by decide +kernel
theorem dX8_fillUp_17 : decode cX8_fillUp 17 = .ok (.iload_n 2, 1) := by decide +kernel
theorem dX8_fillUp_18 : decode cX8_fillUp 18 = .ok (.if_icmp .ge 18, 3) := by decide +kernel
theorem dX8_fillUp_21 : decode cX8_fillUp 21 = .ok (.aload_n 0, 1) := by decide +kernel
theorem dX8_fillUp_22 : decode cX8_fillUp 22 = .ok (.aload_n 1, 1) := by decide +kernel
theorem dX8_fillUp_23 : decode cX8_fillUp 23 = .ok (.getfield 112, 3) := by decide +kernel
theorem dX8_fillUp_26 : decode cX8_fillUp 26 = .ok (.invokevirtual 103, 3) := by decide +kernel
theorem dX8_fillUp_29 : decode cX8_fillUp 29 = .ok (.pop, 1) := by decide +kernel
theorem dX8_fillUp_30 : decode cX8_fillUp 30 = .ok (.iinc 3 1, 3) := by decide +kernel
theorem dX8_fillUp_33 : decode cX8_fillUp 33 = .ok (.goto (-17), 3) := by decide +kernel
theorem dX8_fillUp_36 : decode cX8_fillUp 36 = .ok (.return_, 1) := by decide +kernel
theorem dX8_moveUp_0 : decode cX8_moveUp 0 = .ok (.iconst 0, 1) := by decide +kernel
theorem dX8_moveUp_1 : decode cX8_moveUp 1 = .ok (.istore_n 2, 1) := by decide +kernel
theorem dX8_moveUp_2 : decode cX8_moveUp 2 = .ok (.iload_n 2, 1) := by decide +kernel
theorem dX8_moveUp_3 : decode cX8_moveUp 3 = .ok (.aload_n 0, 1) := by decide +kernel
theorem dX8_moveUp_4 : decode cX8_moveUp 4 = .ok (.getfield 10, 3) := by decide +kernel
theorem dX8_moveUp_7 : decode cX8_moveUp 7 = .ok (.invokevirtual 43, 3) := by decide +kernel
theorem dX8_moveUp_10 : decode cX8_moveUp 10 = .ok (.if_icmp .ge 48, 3) := by decide +kernel
theorem dX8_moveUp_13 : decode cX8_moveUp 13 = .ok (.aload_n 0, 1) := by decide +kernel
theorem dX8_moveUp_14 : decode cX8_moveUp 14 = .ok (.getfield 10, 3) := by decide +kernel
theorem dX8_moveUp_17 : decode cX8_moveUp 17 = .ok (.iload_n 2, 1) := by decide +kernel
theorem dX8_moveUp_18 : decode cX8_moveUp 18 = .ok (.invokevirtual 124, 3) := by decide +kernel
theorem dX8_moveUp_21 : decode cX8_moveUp 21 = .ok (.checkcast 51, 3) := by decide +kernel
theorem dX8_moveUp_24 : decode cX8_moveUp 24 = .ok (.aload_n 1, 1) := by decide +kernel
theorem dX8_moveUp_25 : decode cX8_moveUp 25 = .ok (.getfield 85, 3) := by decide +kernel
theorem dX8_moveUp_28 : decode cX8_moveUp 28 = .ok (.invokevirtual 88, 3) := by decide +kernel
theorem dX8_moveUp_31 : decode cX8_moveUp 31 = .ok (.ifCond .eq 21, 3) := by decide +kernel
theorem dX8_moveUp_34 : decode cX8_moveUp 34 = .ok (.aload_n 0, 1) := by decide +kernel
theorem dX8_moveUp_35 : decode cX8_moveUp 35 = .ok (.aload_n 1, 1) := by decide +kernel
theorem dX8_moveUp_36 : decode cX8_moveUp 36 = .ok (.aload_n 0, 1) := by decide +kernel
theorem dX8_moveUp_37 : decode cX8_moveUp 37 = .ok (.getfield 10, 3) := by decide +kernel
theorem dX8_moveUp_40 : decode cX8_moveUp 40 = .ok (.iload_n 2, 1) := by decide +kernel
theorem dX8_moveUp_41 : decode cX8_moveUp 41 = .ok (.invokevirtual 124, 3) := by decide +kernel
theorem dX8_moveUp_44 : decode cX8_moveUp 44 = .ok (.checkcast 51, 3) := by decide +kernel
theorem dX8_moveUp_47 : decode cX8_moveUp 47 = .ok (.invokevirtual 94, 3) := by decide +kernel
theorem dX8_moveUp_50 : decode cX8_moveUp 50 = .ok (.pop, 1) := by decide +kernel
theorem dX8_moveUp_51 : decode cX8_moveUp 51 = .ok (.return_, 1) := by decide +kernel
theorem dX8_moveUp_52 : decode cX8_moveUp 52 = .ok (.iinc 2 1, 3) := by decide +kernel
theorem dX8_moveUp_55 : decode cX8_moveUp 55 = .ok (.goto (-53), 3) := by decide +kernel
theorem dX8_moveUp_58 : decode cX8_moveUp 58 = .ok (.return_, 1) := by decide +kernel
theorem dX8_childrenPerLeader_0 : decode cX8_childrenPerLeader 0 = .ok (.iload_n 0, 1) := by decide +kernel
theorem dX8_childrenPerLeader_1 : decode cX8_childrenPerLeader 1 = .ok (.tableswitch 34 1 3 #[27, 29, 31], 27) := by decide +kernel
theorem dX8_childrenPerLeader_28 : decode cX8_childrenPerLeader 28 = .ok (.iconst 4, 1) := by decide +kernel
theorem dX8_childrenPerLeader_29 : decode cX8_childrenPerLeader 29 = .ok (.ireturn, 1) := by decide +kernel
theorem dX8_childrenPerLeader_30 : decode cX8_childrenPerLeader 30 = .ok (.iconst 3, 1) := by decide +kernel
theorem dX8_childrenPerLeader_31 : decode cX8_childrenPerLeader 31 = .ok (.ireturn, 1) := by decide +kernel
theorem dX8_childrenPerLeader_32 : decode cX8_childrenPerLeader 32 = .ok (.bipush 6, 2) := by decide +kernel
theorem dX8_childrenPerLeader_34 : decode cX8_childrenPerLeader 34 = .ok (.ireturn, 1) := by decide +kernel
theorem dX8_childrenPerLeader_35 : decode cX8_childrenPerLeader 35 = .ok (.bipush 8, 2) := by decide +kernel
theorem dX8_childrenPerLeader_37 : decode cX8_childrenPerLeader 37 = .ok (.ireturn, 1) := by decide +kernel
theorem dX8_isElsewhere_0 : decode cX8_isElsewhere 0 = .ok (.iconst 0, 1) := by decide +kernel
theorem dX8_isElsewhere_1 : decode cX8_isElsewhere 1 = .ok (.istore_n 3, 1) := by decide +kernel
theorem dX8_isElsewhere_2 : decode cX8_isElsewhere 2 = .ok (.iload_n 3, 1) := by decide +kernel
theorem dX8_isElsewhere_3 : decode cX8_isElsewhere 3 = .ok (.aload_n 0, 1) := by decide +kernel
theorem dX8_isElsewhere_4 : decode cX8_isElsewhere 4 = .ok (.getfield 22, 3) := by decide +kernel
theorem dX8_isElsewhere_7 : decode cX8_isElsewhere 7 = .ok (.invokevirtual 43, 3) := by decide +kernel
theorem dX8_isElsewhere_10 : decode cX8_isElsewhere 10 = .ok (.if_icmp .ge 51, 3) := by decide +kernel
theorem dX8_isElsewhere_13 : decode cX8_isElsewhere 13 = .ok (.aload_n 0, 1) := by decide +kernel
theorem dX8_isElsewhere_14 : decode cX8_isElsewhere 14 = .ok (.getfield 22, 3) := by decide +kernel
theorem dX8_isElsewhere_17 : decode cX8_isElsewhere 17 = .ok (.iload_n 3, 1) := by decide +kernel
theorem dX8_isElsewhere_18 : decode cX8_isElsewhere 18 = .ok (.invokevirtual 124, 3) := by decide +kernel
theorem dX8_isElsewhere_21 : decode cX8_isElsewhere 21 = .ok (.checkcast 223, 3) := by decide +kernel
theorem dX8_isElsewhere_24 : decode cX8_isElsewhere 24 = .ok (.astore 4, 2) := by decide +kernel
theorem dX8_isElsewhere_26 : decode cX8_isElsewhere 26 = .ok (.aload 4, 2) := by decide +kernel
theorem dX8_isElsewhere_28 : decode cX8_isElsewhere 28 = .ok (.aload_n 1, 1) := by decide +kernel
theorem dX8_isElsewhere_29 : decode cX8_isElsewhere 29 = .ok (.if_acmp .eq 26, 3) := by decide +kernel
theorem dX8_isElsewhere_32 : decode cX8_isElsewhere 32 = .ok (.aload 4, 2) := by decide +kernel
theorem dX8_isElsewhere_34 : decode cX8_isElsewhere 34 = .ok (.getfield 236, 3) := by decide +kernel
theorem dX8_isElsewhere_37 : decode cX8_isElsewhere 37 = .ok (.iload_n 2, 1) := by decide +kernel
theorem dX8_isElsewhere_38 : decode cX8_isElsewhere 38 = .ok (.invokestatic 135, 3) := by decide +kernel
theorem dX8_isElsewhere_41 : decode cX8_isElsewhere 41 = .ok (.ifCond .eq 14, 3) := by decide +kernel
theorem dX8_isElsewhere_44 : decode cX8_isElsewhere 44 = .ok (.aload 4, 2) := by decide +kernel
theorem dX8_isElsewhere_46 : decode cX8_isElsewhere 46 = .ok (.aload_n 1, 1) := by decide +kernel
theorem dX8_isElsewhere_47 : decode cX8_isElsewhere 47 = .ok (.invokevirtual 331, 3) := by decide +kernel
theorem dX8_isElsewhere_50 : decode cX8_isElsewhere 50 = .ok (.ifCond .eq 5, 3) := by decide +kernel
theorem dX8_isElsewhere_53 : decode cX8_isElsewhere 53 = .ok (.iconst 1, 1) := by decide +kernel
theorem dX8_isElsewhere_54 : decode cX8_isElsewhere 54 = .ok (.ireturn, 1) := by decide +kernel
theorem dX8_isElsewhere_55 : decode cX8_isElsewhere 55 = .ok (.iinc 3 1, 3) := by decide +kernel
theorem dX8_isElsewhere_58 : decode cX8_isElsewhere 58 = .ok (.goto (-56), 3) := by decide +kernel
theorem dX8_isElsewhere_61 : decode cX8_isElsewhere 61 = .ok (.iconst 0, 1) := by decide +kernel
theorem dX8_isElsewhere_62 : decode cX8_isElsewhere 62 = .ok (.ireturn, 1) := by decide +kernel
theorem dX8_needOf_0 : decode cX8_needOf 0 = .ok (.iconst 0, 1) := by decide +kernel
theorem dX8_needOf_1 : decode cX8_needOf 1 = .ok (.istore_n 2, 1) := by decide +kernel
theorem dX8_needOf_2 : decode cX8_needOf 2 = .ok (.iconst 0, 1) := by decide +kernel
theorem dX8_needOf_3 : decode cX8_needOf 3 = .ok (.istore_n 3, 1) := by decide +kernel
theorem dX8_needOf_4 : decode cX8_needOf 4 = .ok (.iconst 0, 1) := by decide +kernel
theorem dX8_needOf_5 : decode cX8_needOf 5 = .ok (.istore 4, 2) := by decide +kernel
theorem dX8_needOf_7 : decode cX8_needOf 7 = .ok (.iload 4, 2) := by decide +kernel
theorem dX8_needOf_9 : decode cX8_needOf 9 = .ok (.aload_n 0, 1) := by decide +kernel
theorem dX8_needOf_10 : decode cX8_needOf 10 = .ok (.getfield 19, 3) := by decide +kernel
theorem dX8_needOf_13 : decode cX8_needOf 13 = .ok (.invokevirtual 43, 3) := by decide +kernel
theorem dX8_needOf_16 : decode cX8_needOf 16 = .ok (.if_icmp .ge 75, 3) := by decide +kernel
theorem dX8_needOf_19 : decode cX8_needOf 19 = .ok (.aload_n 0, 1) := by decide +kernel
theorem dX8_needOf_20 : decode cX8_needOf 20 = .ok (.getfield 19, 3) := by decide +kernel
theorem dX8_needOf_23 : decode cX8_needOf 23 = .ok (.iload 4, 2) := by decide +kernel
theorem dX8_needOf_25 : decode cX8_needOf 25 = .ok (.invokevirtual 124, 3) := by decide +kernel
theorem dX8_needOf_28 : decode cX8_needOf 28 = .ok (.checkcast 148, 3) := by decide +kernel
theorem dX8_needOf_31 : decode cX8_needOf 31 = .ok (.aload_n 1, 1) := by decide +kernel
theorem dX8_needOf_32 : decode cX8_needOf 32 = .ok (.getfield 335, 3) := by decide +kernel
theorem dX8_needOf_35 : decode cX8_needOf 35 = .ok (.aload_n 1, 1) := by decide +kernel
theorem dX8_needOf_36 : decode cX8_needOf 36 = .ok (.getfield 338, 3) := by decide +kernel
theorem dX8_needOf_39 : decode cX8_needOf 39 = .ok (.invokevirtual 341, 3) := by decide +kernel
theorem dX8_needOf_42 : decode cX8_needOf 42 = .ok (.ifCond .eq 10, 3) := by decide +kernel
theorem dX8_needOf_45 : decode cX8_needOf 45 = .ok (.iload_n 2, 1) := by decide +kernel
theorem dX8_needOf_46 : decode cX8_needOf 46 = .ok (.iconst 1, 1) := by decide +kernel
theorem dX8_needOf_47 : decode cX8_needOf 47 = .ok (.iload 4, 2) := by decide +kernel
theorem dX8_needOf_49 : decode cX8_needOf 49 = .ok (.ishl, 1) := by decide +kernel
theorem dX8_needOf_50 : decode cX8_needOf 50 = .ok (.ior, 1) := by decide +kernel
theorem dX8_needOf_51 : decode cX8_needOf 51 = .ok (.istore_n 2, 1) := by decide +kernel
theorem dX8_needOf_52 : decode cX8_needOf 52 = .ok (.aload_n 0, 1) := by decide +kernel
theorem dX8_needOf_53 : decode cX8_needOf 53 = .ok (.getfield 19, 3) := by decide +kernel
theorem dX8_needOf_56 : decode cX8_needOf 56 = .ok (.iload 4, 2) := by decide +kernel
theorem dX8_needOf_58 : decode cX8_needOf 58 = .ok (.invokevirtual 124, 3) := by decide +kernel
theorem dX8_needOf_61 : decode cX8_needOf 61 = .ok (.checkcast 148, 3) := by decide +kernel
theorem dX8_needOf_64 : decode cX8_needOf 64 = .ok (.aload_n 1, 1) := by decide +kernel
theorem dX8_needOf_65 : decode cX8_needOf 65 = .ok (.getfield 344, 3) := by decide +kernel
theorem dX8_needOf_68 : decode cX8_needOf 68 = .ok (.aload_n 1, 1) := by decide +kernel
theorem dX8_needOf_69 : decode cX8_needOf 69 = .ok (.getfield 338, 3) := by decide +kernel
theorem dX8_needOf_72 : decode cX8_needOf 72 = .ok (.invokevirtual 347, 3) := by decide +kernel
theorem dX8_needOf_75 : decode cX8_needOf 75 = .ok (.ifCond .eq 10, 3) := by decide +kernel
theorem dX8_needOf_78 : decode cX8_needOf 78 = .ok (.iload_n 3, 1) := by decide +kernel
theorem dX8_needOf_79 : decode cX8_needOf 79 = .ok (.iconst 1, 1) := by decide +kernel
theorem dX8_needOf_80 : decode cX8_needOf 80 = .ok (.iload 4, 2) := by decide +kernel
theorem dX8_needOf_82 : decode cX8_needOf 82 = .ok (.ishl, 1) := by decide +kernel
theorem dX8_needOf_83 : decode cX8_needOf 83 = .ok (.ior, 1) := by decide +kernel
theorem dX8_needOf_84 : decode cX8_needOf 84 = .ok (.istore_n 3, 1) := by decide +kernel
theorem dX8_needOf_85 : decode cX8_needOf 85 = .ok (.iinc 4 1, 3) := by decide +kernel
theorem dX8_needOf_88 : decode cX8_needOf 88 = .ok (.goto (-81), 3) := by decide +kernel
theorem dX8_needOf_91 : decode cX8_needOf 91 = .ok (.new 243, 3) := by decide +kernel
theorem dX8_needOf_94 : decode cX8_needOf 94 = .ok (.dup, 1) := by decide +kernel
theorem dX8_needOf_95 : decode cX8_needOf 95 = .ok (.aload_n 0, 1) := by decide +kernel
theorem dX8_needOf_96 : decode cX8_needOf 96 = .ok (.aload_n 1, 1) := by decide +kernel
theorem dX8_needOf_97 : decode cX8_needOf 97 = .ok (.getfield 350, 3) := by decide +kernel
theorem dX8_needOf_100 : decode cX8_needOf 100 = .ok (.invokevirtual 280, 3) := by decide +kernel
theorem dX8_needOf_103 : decode cX8_needOf 103 = .ok (.aload_n 1, 1) := by decide +kernel
theorem dX8_needOf_104 : decode cX8_needOf 104 = .ok (.getfield 344, 3) := by decide +kernel
theorem dX8_needOf_107 : decode cX8_needOf 107 = .ok (.invokestatic 351, 3) := by decide +kernel
theorem dX8_needOf_110 : decode cX8_needOf 110 = .ok (.iload_n 2, 1) := by decide +kernel
theorem dX8_needOf_111 : decode cX8_needOf 111 = .ok (.iload_n 3, 1) := by decide +kernel
theorem dX8_needOf_112 : decode cX8_needOf 112 = .ok (.invokespecial 354, 3) := by decide +kernel
theorem dX8_needOf_115 : decode cX8_needOf 115 = .ok (.areturn, 1) := by decide +kernel
theorem dX8_eventsIn_0 : decode cX8_eventsIn 0 = .ok (.iconst 0, 1) := by decide +kernel
theorem dX8_eventsIn_1 : decode cX8_eventsIn 1 = .ok (.istore_n 3, 1) := by decide +kernel
theorem dX8_eventsIn_2 : decode cX8_eventsIn 2 = .ok (.iconst 0, 1) := by decide +kernel
theorem dX8_eventsIn_3 : decode cX8_eventsIn 3 = .ok (.istore 4, 2) := by decide +kernel
theorem dX8_eventsIn_5 : decode cX8_eventsIn 5 = .ok (.iload 4, 2) := by decide +kernel
theorem dX8_eventsIn_7 : decode cX8_eventsIn 7 = .ok (.aload_n 0, 1) := by decide +kernel
theorem dX8_eventsIn_8 : decode cX8_eventsIn 8 = .ok (.getfield 22, 3) := by decide +kernel
theorem dX8_eventsIn_11 : decode cX8_eventsIn 11 = .ok (.invokevirtual 43, 3) := by decide +kernel
theorem dX8_eventsIn_14 : decode cX8_eventsIn 14 = .ok (.if_icmp .ge 32, 3) := by decide +kernel
theorem dX8_eventsIn_17 : decode cX8_eventsIn 17 = .ok (.aload_n 0, 1) := by decide +kernel
theorem dX8_eventsIn_18 : decode cX8_eventsIn 18 = .ok (.getfield 22, 3) := by decide +kernel
theorem dX8_eventsIn_21 : decode cX8_eventsIn 21 = .ok (.iload 4, 2) := by decide +kernel
theorem dX8_eventsIn_23 : decode cX8_eventsIn 23 = .ok (.invokevirtual 124, 3) := by decide +kernel
theorem dX8_eventsIn_26 : decode cX8_eventsIn 26 = .ok (.checkcast 223, 3) := by decide +kernel
theorem dX8_eventsIn_29 : decode cX8_eventsIn 29 = .ok (.iload_n 1, 1) := by decide +kernel
theorem dX8_eventsIn_30 : decode cX8_eventsIn 30 = .ok (.iload_n 2, 1) := by decide +kernel
theorem dX8_eventsIn_31 : decode cX8_eventsIn 31 = .ok (.invokevirtual 355, 3) := by decide +kernel
theorem dX8_eventsIn_34 : decode cX8_eventsIn 34 = .ok (.ifCond .eq 6, 3) := by decide +kernel
theorem dX8_eventsIn_37 : decode cX8_eventsIn 37 = .ok (.iinc 3 1, 3) := by decide +kernel
theorem dX8_eventsIn_40 : decode cX8_eventsIn 40 = .ok (.iinc 4 1, 3) := by decide +kernel
theorem dX8_eventsIn_43 : decode cX8_eventsIn 43 = .ok (.goto (-38), 3) := by decide +kernel
theorem dX8_eventsIn_46 : decode cX8_eventsIn 46 = .ok (.iload_n 3, 1) := by decide +kernel
theorem dX8_eventsIn_47 : decode cX8_eventsIn 47 = .ok (.ireturn, 1) := by decide +kernel
theorem dX8_needsIn_0 : decode cX8_needsIn 0 = .ok (.new 7, 3) := by decide +kernel
theorem dX8_needsIn_3 : decode cX8_needsIn 3 = .ok (.dup, 1) := by decide +kernel
theorem dX8_needsIn_4 : decode cX8_needsIn 4 = .ok (.invokespecial 9, 3) := by decide +kernel
theorem dX8_needsIn_7 : decode cX8_needsIn 7 = .ok (.astore_n 3, 1) := by decide +kernel
theorem dX8_needsIn_8 : decode cX8_needsIn 8 = .ok (.iconst 0, 1) := by decide +kernel
theorem dX8_needsIn_9 : decode cX8_needsIn 9 = .ok (.istore 4, 2) := by decide +kernel
theorem dX8_needsIn_11 : decode cX8_needsIn 11 = .ok (.iload 4, 2) := by decide +kernel
theorem dX8_needsIn_13 : decode cX8_needsIn 13 = .ok (.aload_n 0, 1) := by decide +kernel
theorem dX8_needsIn_14 : decode cX8_needsIn 14 = .ok (.getfield 22, 3) := by decide +kernel
theorem dX8_needsIn_17 : decode cX8_needsIn 17 = .ok (.invokevirtual 43, 3) := by decide +kernel
theorem dX8_needsIn_20 : decode cX8_needsIn 20 = .ok (.if_icmp .ge 50, 3) := by decide +kernel
theorem dX8_needsIn_23 : decode cX8_needsIn 23 = .ok (.aload_n 0, 1) := by decide +kernel
theorem dX8_needsIn_24 : decode cX8_needsIn 24 = .ok (.getfield 22, 3) := by decide +kernel
theorem dX8_needsIn_27 : decode cX8_needsIn 27 = .ok (.iload 4, 2) := by decide +kernel
theorem dX8_needsIn_29 : decode cX8_needsIn 29 = .ok (.invokevirtual 124, 3) := by decide +kernel
theorem dX8_needsIn_32 : decode cX8_needsIn 32 = .ok (.checkcast 223, 3) := by decide +kernel
theorem dX8_needsIn_35 : decode cX8_needsIn 35 = .ok (.iload_n 1, 1) := by decide +kernel
theorem dX8_needsIn_36 : decode cX8_needsIn 36 = .ok (.iload_n 2, 1) := by decide +kernel
theorem dX8_needsIn_37 : decode cX8_needsIn 37 = .ok (.invokevirtual 355, 3) := by decide +kernel
theorem dX8_needsIn_40 : decode cX8_needsIn 40 = .ok (.ifCond .eq 24, 3) := by decide +kernel
theorem dX8_needsIn_43 : decode cX8_needsIn 43 = .ok (.aload_n 3, 1) := by decide +kernel
theorem dX8_needsIn_44 : decode cX8_needsIn 44 = .ok (.aload_n 0, 1) := by decide +kernel
theorem dX8_needsIn_45 : decode cX8_needsIn 45 = .ok (.aload_n 0, 1) := by decide +kernel
theorem dX8_needsIn_46 : decode cX8_needsIn 46 = .ok (.getfield 22, 3) := by decide +kernel
theorem dX8_needsIn_49 : decode cX8_needsIn 49 = .ok (.iload 4, 2) := by decide +kernel
theorem dX8_needsIn_51 : decode cX8_needsIn 51 = .ok (.invokevirtual 124, 3) := by decide +kernel
theorem dX8_needsIn_54 : decode cX8_needsIn 54 = .ok (.checkcast 223, 3) := by decide +kernel
theorem dX8_needsIn_57 : decode cX8_needsIn 57 = .ok (.invokevirtual 238, 3) := by decide +kernel
theorem dX8_needsIn_60 : decode cX8_needsIn 60 = .ok (.invokevirtual 56, 3) := by decide +kernel
theorem dX8_needsIn_63 : decode cX8_needsIn 63 = .ok (.pop, 1) := by decide +kernel
theorem dX8_needsIn_64 : decode cX8_needsIn 64 = .ok (.iinc 4 1, 3) := by decide +kernel
theorem dX8_needsIn_67 : decode cX8_needsIn 67 = .ok (.goto (-56), 3) := by decide +kernel
theorem dX8_needsIn_70 : decode cX8_needsIn 70 = .ok (.aload_n 3, 1) := by decide +kernel
theorem dX8_needsIn_71 : decode cX8_needsIn 71 = .ok (.areturn, 1) := by decide +kernel
theorem dX8_canShare_0 : decode cX8_canShare 0 = .ok (.iload_n 1, 1) := by decide +kernel
theorem dX8_canShare_1 : decode cX8_canShare 1 = .ok (.ifCond .lt 11, 3) := by decide +kernel
theorem dX8_canShare_4 : decode cX8_canShare 4 = .ok (.iload_n 1, 1) := by decide +kernel
theorem dX8_canShare_5 : decode cX8_canShare 5 = .ok (.aload_n 0, 1) := by decide +kernel
theorem dX8_canShare_6 : decode cX8_canShare 6 = .ok (.invokevirtual 43, 3) := by decide +kernel
theorem dX8_canShare_9 : decode cX8_canShare 9 = .ok (.if_icmp .lt 5, 3) := by decide +kernel
theorem dX8_canShare_12 : decode cX8_canShare 12 = .ok (.iconst 1, 1) := by decide +kernel
theorem dX8_canShare_13 : decode cX8_canShare 13 = .ok (.ireturn, 1) := by decide +kernel
theorem dX8_canShare_14 : decode cX8_canShare 14 = .ok (.aload_n 0, 1) := by decide +kernel
theorem dX8_canShare_15 : decode cX8_canShare 15 = .ok (.iload_n 1, 1) := by decide +kernel
theorem dX8_canShare_16 : decode cX8_canShare 16 = .ok (.invokevirtual 124, 3) := by decide +kernel
theorem dX8_canShare_19 : decode cX8_canShare 19 = .ok (.checkcast 243, 3) := by decide +kernel
theorem dX8_canShare_22 : decode cX8_canShare 22 = .ok (.astore_n 3, 1) := by decide +kernel
theorem dX8_canShare_23 : decode cX8_canShare 23 = .ok (.iload_n 2, 1) := by decide +kernel
theorem dX8_canShare_24 : decode cX8_canShare 24 = .ok (.aload_n 3, 1) := by decide +kernel
theorem dX8_canShare_25 : decode cX8_canShare 25 = .ok (.getfield 358, 3) := by decide +kernel
theorem dX8_canShare_28 : decode cX8_canShare 28 = .ok (.iand, 1) := by decide +kernel
theorem dX8_canShare_29 : decode cX8_canShare 29 = .ok (.istore 4, 2) := by decide +kernel
theorem dX8_canShare_31 : decode cX8_canShare 31 = .ok (.aload_n 3, 1) := by decide +kernel
theorem dX8_canShare_32 : decode cX8_canShare 32 = .ok (.iload 4, 2) := by decide +kernel
theorem dX8_canShare_34 : decode cX8_canShare 34 = .ok (.invokevirtual 242, 3) := by decide +kernel
theorem dX8_canShare_37 : decode cX8_canShare 37 = .ok (.ifCond .eq 5, 3) := by decide +kernel
theorem dX8_canShare_40 : decode cX8_canShare 40 = .ok (.iconst 0, 1) := by decide +kernel
theorem dX8_canShare_41 : decode cX8_canShare 41 = .ok (.ireturn, 1) := by decide +kernel
theorem dX8_canShare_42 : decode cX8_canShare 42 = .ok (.iconst 1, 1) := by decide +kernel
theorem dX8_canShare_43 : decode cX8_canShare 43 = .ok (.iload 4, 2) := by decide +kernel
theorem dX8_canShare_45 : decode cX8_canShare 45 = .ok (.invokestatic 143, 3) := by decide +kernel
theorem dX8_canShare_48 : decode cX8_canShare 48 = .ok (.ishl, 1) := by decide +kernel
theorem dX8_canShare_49 : decode cX8_canShare 49 = .ok (.istore 5, 2) := by decide +kernel
theorem dX8_canShare_51 : decode cX8_canShare 51 = .ok (.iconst 0, 1) := by decide +kernel
theorem dX8_canShare_52 : decode cX8_canShare 52 = .ok (.istore 6, 2) := by decide +kernel
theorem dX8_canShare_54 : decode cX8_canShare 54 = .ok (.iconst 0, 1) := by decide +kernel
theorem dX8_canShare_55 : decode cX8_canShare 55 = .ok (.istore 7, 2) := by decide +kernel
theorem dX8_canShare_57 : decode cX8_canShare 57 = .ok (.iload 7, 2) := by decide +kernel
theorem dX8_canShare_59 : decode cX8_canShare 59 = .ok (.iload 5, 2) := by decide +kernel
theorem dX8_canShare_61 : decode cX8_canShare 61 = .ok (.if_icmp .ge 58, 3) := by decide +kernel
theorem dX8_canShare_64 : decode cX8_canShare 64 = .ok (.iload 6, 2) := by decide +kernel
theorem dX8_canShare_66 : decode cX8_canShare 66 = .ok (.invokestatic 143, 3) := by decide +kernel
theorem dX8_canShare_69 : decode cX8_canShare 69 = .ok (.aload_n 3, 1) := by decide +kernel
theorem dX8_canShare_70 : decode cX8_canShare 70 = .ok (.getfield 361, 3) := by decide +kernel
theorem dX8_canShare_73 : decode cX8_canShare 73 = .ok (.if_icmp .ne 30, 3) := by decide +kernel
theorem dX8_canShare_76 : decode cX8_canShare 76 = .ok (.aload_n 3, 1) := by decide +kernel
theorem dX8_canShare_77 : decode cX8_canShare 77 = .ok (.iload 6, 2) := by decide +kernel
theorem dX8_canShare_79 : decode cX8_canShare 79 = .ok (.invokevirtual 242, 3) := by decide +kernel
theorem dX8_canShare_82 : decode cX8_canShare 82 = .ok (.ifCond .ne 21, 3) := by decide +kernel
theorem dX8_canShare_85 : decode cX8_canShare 85 = .ok (.aload_n 0, 1) := by decide +kernel
theorem dX8_canShare_86 : decode cX8_canShare 86 = .ok (.iload_n 1, 1) := by decide +kernel
theorem dX8_canShare_87 : decode cX8_canShare 87 = .ok (.iconst 1, 1) := by decide +kernel
theorem dX8_canShare_88 : decode cX8_canShare 88 = .ok (.iadd, 1) := by decide +kernel
theorem dX8_canShare_89 : decode cX8_canShare 89 = .ok (.iload_n 2, 1) := by decide +kernel
theorem dX8_canShare_90 : decode cX8_canShare 90 = .ok (.iload 6, 2) := by decide +kernel
theorem dX8_canShare_92 : decode cX8_canShare 92 = .ok (.iconst (-1), 1) := by decide +kernel
theorem dX8_canShare_93 : decode cX8_canShare 93 = .ok (.ixor, 1) := by decide +kernel
theorem dX8_canShare_94 : decode cX8_canShare 94 = .ok (.iand, 1) := by decide +kernel
theorem dX8_canShare_95 : decode cX8_canShare 95 = .ok (.invokestatic 256, 3) := by decide +kernel
theorem dX8_canShare_98 : decode cX8_canShare 98 = .ok (.ifCond .eq 5, 3) := by decide +kernel
theorem dX8_canShare_101 : decode cX8_canShare 101 = .ok (.iconst 1, 1) := by decide +kernel
theorem dX8_canShare_102 : decode cX8_canShare 102 = .ok (.ireturn, 1) := by decide +kernel
theorem dX8_canShare_103 : decode cX8_canShare 103 = .ok (.iload 6, 2) := by decide +kernel
theorem dX8_canShare_105 : decode cX8_canShare 105 = .ok (.iload 4, 2) := by decide +kernel
theorem dX8_canShare_107 : decode cX8_canShare 107 = .ok (.isub, 1) := by decide +kernel
theorem dX8_canShare_108 : decode cX8_canShare 108 = .ok (.iload 4, 2) := by decide +kernel
theorem dX8_canShare_110 : decode cX8_canShare 110 = .ok (.iand, 1) := by decide +kernel
theorem dX8_canShare_111 : decode cX8_canShare 111 = .ok (.istore 6, 2) := by decide +kernel
theorem dX8_canShare_113 : decode cX8_canShare 113 = .ok (.iinc 7 1, 3) := by decide +kernel
theorem dX8_canShare_116 : decode cX8_canShare 116 = .ok (.goto (-59), 3) := by decide +kernel
theorem dX8_canShare_119 : decode cX8_canShare 119 = .ok (.iconst 0, 1) := by decide +kernel
theorem dX8_canShare_120 : decode cX8_canShare 120 = .ok (.ireturn, 1) := by decide +kernel
end
section
theorem dX9_init_0 : decode cX9_init 0 = .ok (.aload_n 0, 1) := by decide +kernel
theorem dX9_init_1 : decode cX9_init 1 = .ok (.invokespecial 1, 3) := by decide +kernel
theorem dX9_init_4 : decode cX9_init 4 = .ok (.aload_n 0, 1) := by decide +kernel
theorem dX9_init_5 : decode cX9_init 5 = .ok (.bipush 6, 2) := by decide +kernel
theorem dX9_init_7 : decode cX9_init 7 = .ok (.newarray .int, 2) := by decide +kernel
theorem dX9_init_9 : decode cX9_init 9 = .ok (.putfield 7, 3) := by decide +kernel
theorem dX9_init_12 : decode cX9_init 12 = .ok (.aload_n 0, 1) := by decide +kernel
theorem dX9_init_13 : decode cX9_init 13 = .ok (.bipush 6, 2) := by decide +kernel
theorem dX9_init_15 : decode cX9_init 15 = .ok (.newarray .int, 2) := by decide +kernel
theorem dX9_init_17 : decode cX9_init 17 = .ok (.putfield 13, 3) := by decide +kernel
theorem dX9_init_20 : decode cX9_init 20 = .ok (.aload_n 0, 1) := by decide +kernel
theorem dX9_init_21 : decode cX9_init 21 = .ok (.bipush 6, 2) := by decide +kernel
theorem dX9_init_23 : decode cX9_init 23 = .ok (.newarray .int, 2) := by decide +kernel
theorem dX9_init_25 : decode cX9_init 25 = .ok (.putfield 16, 3) := by decide +kernel
theorem dX9_init_28 : decode cX9_init 28 = .ok (.aload_n 0, 1) := by decide +kernel
theorem dX9_init_29 : decode cX9_init 29 = .ok (.bipush 24, 2) := by decide +kernel
theorem dX9_init_31 : decode cX9_init 31 = .ok (.newarray .int, 2) := by decide +kernel
theorem dX9_init_33 : decode cX9_init 33 = .ok (.putfield 19, 3) := by decide +kernel
theorem dX9_init_36 : decode cX9_init 36 = .ok (.aload_n 0, 1) := by decide +kernel
theorem dX9_init_37 : decode cX9_init 37 = .ok (.bipush 24, 2) := by decide +kernel
theorem dX9_init_39 : decode cX9_init 39 = .ok (.newarray .int, 2) := by decide +kernel
theorem dX9_init_41 : decode cX9_init 41 = .ok (.putfield 22, 3) := by decide +kernel
theorem dX9_init_44 : decode cX9_init 44 = .ok (.aload_n 0, 1) := by decide +kernel
theorem dX9_init_45 : decode cX9_init 45 = .ok (.bipush 24, 2) := by decide +kernel
theorem dX9_init_47 : decode cX9_init 47 = .ok (.newarray .int, 2) := by decide +kernel
theorem dX9_init_49 : decode cX9_init 49 = .ok (.putfield 25, 3) := by decide +kernel
theorem dX9_init_52 : decode cX9_init 52 = .ok (.aload_n 0, 1) := by decide +kernel
theorem dX9_init_53 : decode cX9_init 53 = .ok (.bipush 24, 2) := by decide +kernel
theorem dX9_init_55 : decode cX9_init 55 = .ok (.newarray .int, 2) := by decide +kernel
theorem dX9_init_57 : decode cX9_init 57 = .ok (.putfield 28, 3) := by decide +kernel
theorem dX9_init_60 : decode cX9_init 60 = .ok (.aload_n 0, 1) := by decide +kernel
theorem dX9_init_61 : decode cX9_init 61 = .ok (.bipush 24, 2) := by decide +kernel
theorem dX9_init_63 : decode cX9_init 63 = .ok (.newarray .int, 2) := by decide +kernel
theorem dX9_init_65 : decode cX9_init 65 = .ok (.putfield 31, 3) := by decide +kernel
theorem dX9_init_68 : decode cX9_init 68 = .ok (.aload_n 0, 1) := by decide +kernel
theorem dX9_init_69 : decode cX9_init 69 = .ok (.bipush 24, 2) := by decide +kernel
theorem dX9_init_71 : decode cX9_init 71 = .ok (.newarray .int, 2) := by decide +kernel
theorem dX9_init_73 : decode cX9_init 73 = .ok (.putfield 34, 3) := by decide +kernel
theorem dX9_init_76 : decode cX9_init 76 = .ok (.aload_n 0, 1) := by decide +kernel
theorem dX9_init_77 : decode cX9_init 77 = .ok (.bipush 24, 2) := by decide +kernel
theorem dX9_init_79 : decode cX9_init 79 = .ok (.newarray .int, 2) := by decide +kernel
theorem dX9_init_81 : decode cX9_init 81 = .ok (.putfield 37, 3) := by decide +kernel
theorem dX9_init_84 : decode cX9_init 84 = .ok (.aload_n 0, 1) := by decide +kernel
theorem dX9_init_85 : decode cX9_init 85 = .ok (.bipush 24, 2) := by decide +kernel
theorem dX9_init_87 : decode cX9_init 87 = .ok (.newarray .int, 2) := by decide +kernel
theorem dX9_init_89 : decode cX9_init 89 = .ok (.putfield 40, 3) := by decide +kernel
theorem dX9_init_92 : decode cX9_init 92 = .ok (.aload_n 0, 1) := by decide +kernel
theorem dX9_init_93 : decode cX9_init 93 = .ok (.bipush 24, 2) := by decide +kernel
theorem dX9_init_95 : decode cX9_init 95 = .ok (.newarray .boolean, 2) := by decide +kernel
theorem dX9_init_97 : decode cX9_init 97 = .ok (.putfield 43, 3) := by decide +kernel
theorem dX9_init_100 : decode cX9_init 100 = .ok (.aload_n 0, 1) := by decide +kernel
theorem dX9_init_101 : decode cX9_init 101 = .ok (.sipush 384, 3) := by decide +kernel
theorem dX9_init_104 : decode cX9_init 104 = .ok (.newarray .int, 2) := by decide +kernel
theorem dX9_init_106 : decode cX9_init 106 = .ok (.putfield 47, 3) := by decide +kernel
theorem dX9_init_109 : decode cX9_init 109 = .ok (.aload_n 0, 1) := by decide +kernel
theorem dX9_init_110 : decode cX9_init 110 = .ok (.sipush 192, 3) := by decide +kernel
theorem dX9_init_113 : decode cX9_init 113 = .ok (.newarray .int, 2) := by decide +kernel
theorem dX9_init_115 : decode cX9_init 115 = .ok (.putfield 50, 3) := by decide +kernel
theorem dX9_init_118 : decode cX9_init 118 = .ok (.aload_n 0, 1) := by decide +kernel
theorem dX9_init_119 : decode cX9_init 119 = .ok (.sipush 192, 3) := by decide +kernel
theorem dX9_init_122 : decode cX9_init 122 = .ok (.newarray .int, 2) := by decide +kernel
theorem dX9_init_124 : decode cX9_init 124 = .ok (.putfield 53, 3) := by decide +kernel
theorem dX9_init_127 : decode cX9_init 127 = .ok (.aload_n 0, 1) := by decide +kernel
theorem dX9_init_128 : decode cX9_init 128 = .ok (.bipush 48, 2) := by decide +kernel
theorem dX9_init_130 : decode cX9_init 130 = .ok (.newarray .int, 2) := by decide +kernel
theorem dX9_init_132 : decode cX9_init 132 = .ok (.putfield 56, 3) := by decide +kernel
theorem dX9_init_135 : decode cX9_init 135 = .ok (.aload_n 0, 1) := by decide +kernel
theorem dX9_init_136 : decode cX9_init 136 = .ok (.bipush 24, 2) := by decide +kernel
theorem dX9_init_138 : decode cX9_init 138 = .ok (.newarray .int, 2) := by decide +kernel
theorem dX9_init_140 : decode cX9_init 140 = .ok (.putfield 59, 3) := by decide +kernel
theorem dX9_init_143 : decode cX9_init 143 = .ok (.aload_n 0, 1) := by decide +kernel
theorem dX9_init_144 : decode cX9_init 144 = .ok (.bipush 8, 2) := by decide +kernel
theorem dX9_init_146 : decode cX9_init 146 = .ok (.newarray .int, 2) := by decide +kernel
theorem dX9_init_148 : decode cX9_init 148 = .ok (.putfield 62, 3) := by decide +kernel
theorem dX9_init_151 : decode cX9_init 151 = .ok (.aload_n 0, 1) := by decide +kernel
theorem dX9_init_152 : decode cX9_init 152 = .ok (.bipush 8, 2) := by decide +kernel
theorem dX9_init_154 : decode cX9_init 154 = .ok (.newarray .int, 2) := by decide +kernel
theorem dX9_init_156 : decode cX9_init 156 = .ok (.putfield 65, 3) := by decide +kernel
theorem dX9_init_159 : decode cX9_init 159 = .ok (.aload_n 0, 1) := by decide +kernel
theorem dX9_init_160 : decode cX9_init 160 = .ok (.sipush 144, 3) := by decide +kernel
theorem dX9_init_163 : decode cX9_init 163 = .ok (.newarray .int, 2) := by decide +kernel
theorem dX9_init_165 : decode cX9_init 165 = .ok (.putfield 68, 3) := by decide +kernel
theorem dX9_init_168 : decode cX9_init 168 = .ok (.aload_n 0, 1) := by decide +kernel
theorem dX9_init_169 : decode cX9_init 169 = .ok (.bipush 8, 2) := by decide +kernel
theorem dX9_init_171 : decode cX9_init 171 = .ok (.newarray .int, 2) := by decide +kernel
theorem dX9_init_173 : decode cX9_init 173 = .ok (.putfield 71, 3) := by decide +kernel
theorem dX9_init_176 : decode cX9_init 176 = .ok (.aload_n 0, 1) := by decide +kernel
theorem dX9_init_177 : decode cX9_init 177 = .ok (.bipush 120, 2) := by decide +kernel
theorem dX9_init_179 : decode cX9_init 179 = .ok (.newarray .int, 2) := by decide +kernel
theorem dX9_init_181 : decode cX9_init 181 = .ok (.putfield 74, 3) := by decide +kernel
theorem dX9_init_184 : decode cX9_init 184 = .ok (.aload_n 0, 1) := by decide +kernel
theorem dX9_init_185 : decode cX9_init 185 = .ok (.bipush 20, 2) := by decide +kernel
theorem dX9_init_187 : decode cX9_init 187 = .ok (.newarray .int, 2) := by decide +kernel
theorem dX9_init_189 : decode cX9_init 189 = .ok (.putfield 77, 3) := by decide +kernel
theorem dX9_init_192 : decode cX9_init 192 = .ok (.aload_n 0, 1) := by decide +kernel
theorem dX9_init_193 : decode cX9_init 193 = .ok (.iconst 4, 1) := by decide +kernel
theorem dX9_init_194 : decode cX9_init 194 = .ok (.newarray .int, 2) := by decide +kernel
theorem dX9_init_196 : decode cX9_init 196 = .ok (.putfield 80, 3) := by decide +kernel
theorem dX9_init_199 : decode cX9_init 199 = .ok (.aload_n 0, 1) := by decide +kernel
theorem dX9_init_200 : decode cX9_init 200 = .ok (.iconst 4, 1) := by decide +kernel
theorem dX9_init_201 : decode cX9_init 201 = .ok (.newarray .int, 2) := by decide +kernel
theorem dX9_init_203 : decode cX9_init 203 = .ok (.putfield 83, 3) := by decide +kernel
theorem dX9_init_206 : decode cX9_init 206 = .ok (.iconst 0, 1) := by decide +kernel
theorem dX9_init_207 : decode cX9_init 207 = .ok (.istore_n 1, 1) := by decide +kernel
theorem dX9_init_208 : decode cX9_init 208 = .ok (.iload_n 1, 1) := by decide +kernel
theorem dX9_init_209 : decode cX9_init 209 = .ok (.sipush 384, 3) := by decide +kernel
theorem dX9_init_212 : decode cX9_init 212 = .ok (.if_icmp .ge 16, 3) := by decide +kernel
theorem dX9_init_215 : decode cX9_init 215 = .ok (.aload_n 0, 1) := by decide +kernel
theorem dX9_init_216 : decode cX9_init 216 = .ok (.getfield 47, 3) := by decide +kernel
theorem dX9_init_219 : decode cX9_init 219 = .ok (.iload_n 1, 1) := by decide +kernel
theorem dX9_init_220 : decode cX9_init 220 = .ok (.iconst (-1), 1) := by decide +kernel
theorem dX9_init_221 : decode cX9_init 221 = .ok (.iastore, 1) := by decide +kernel
theorem dX9_init_222 : decode cX9_init 222 = .ok (.iinc 1 1, 3) := by decide +kernel
theorem dX9_init_225 : decode cX9_init 225 = .ok (.goto (-17), 3) := by decide +kernel
theorem dX9_init_228 : decode cX9_init 228 = .ok (.iconst 0, 1) := by decide +kernel
theorem dX9_init_229 : decode cX9_init 229 = .ok (.istore_n 1, 1) := by decide +kernel
theorem dX9_init_230 : decode cX9_init 230 = .ok (.iload_n 1, 1) := by decide +kernel
theorem dX9_init_231 : decode cX9_init 231 = .ok (.sipush 192, 3) := by decide +kernel
theorem dX9_init_234 : decode cX9_init 234 = .ok (.if_icmp .ge 16, 3) := by decide +kernel
theorem dX9_init_237 : decode cX9_init 237 = .ok (.aload_n 0, 1) := by decide +kernel
theorem dX9_init_238 : decode cX9_init 238 = .ok (.getfield 50, 3) := by decide +kernel
theorem dX9_init_241 : decode cX9_init 241 = .ok (.iload_n 1, 1) := by decide +kernel
theorem dX9_init_242 : decode cX9_init 242 = .ok (.iconst (-1), 1) := by decide +kernel
theorem dX9_init_243 : decode cX9_init 243 = .ok (.iastore, 1) := by decide +kernel
theorem dX9_init_244 : decode cX9_init 244 = .ok (.iinc 1 1, 3) := by decide +kernel
theorem dX9_init_247 : decode cX9_init 247 = .ok (.goto (-17), 3) := by decide +kernel
theorem dX9_init_250 : decode cX9_init 250 = .ok (.iconst 0, 1) := by decide +kernel
theorem dX9_init_251 : decode cX9_init 251 = .ok (.istore_n 1, 1) := by decide +kernel
theorem dX9_init_252 : decode cX9_init 252 = .ok (.iload_n 1, 1) := by decide +kernel
theorem dX9_init_253 : decode cX9_init 253 = .ok (.bipush 48, 2) := by decide +kernel
theorem dX9_init_255 : decode cX9_init 255 = .ok (.if_icmp .ge 26, 3) := by decide +kernel
theorem dX9_init_258 : decode cX9_init 258 = .ok (.aload_n 0, 1) := by decide +kernel
theorem dX9_init_259 : decode cX9_init 259 = .ok (.getfield 56, 3) := by decide +kernel
theorem dX9_init_262 : decode cX9_init 262 = .ok (.iload_n 1, 1) := by decide +kernel
theorem dX9_init_263 : decode cX9_init 263 = .ok (.iload_n 1, 1) := by decide +kernel
theorem dX9_init_264 : decode cX9_init 264 = .ok (.iconst 2, 1) := by decide +kernel
theorem dX9_init_265 : decode cX9_init 265 = .ok (.irem, 1) := by decide +kernel
theorem dX9_init_266 : decode cX9_init 266 = .ok (.ifCond .ne 7, 3) := by decide +kernel
theorem dX9_init_269 : decode cX9_init 269 = .ok (.iconst 1, 1) := by decide +kernel
theorem dX9_init_270 : decode cX9_init 270 = .ok (.goto 4, 3) := by decide +kernel
theorem dX9_init_273 : decode cX9_init 273 = .ok (.iconst 0, 1) := by decide +kernel
theorem dX9_init_274 : decode cX9_init 274 = .ok (.iastore, 1) := by decide +kernel
theorem dX9_init_275 : decode cX9_init 275 = .ok (.iinc 1 1, 3) := by decide +kernel
theorem dX9_init_278 : decode cX9_init 278 = .ok (.goto (-26), 3) := by decide +kernel
theorem dX9_init_281 : decode cX9_init 281 = .ok (.iconst 0, 1) := by decide +kernel
theorem dX9_init_282 : decode cX9_init 282 = .ok (.istore_n 1, 1) := by decide +kernel
theorem dX9_init_283 : decode cX9_init 283 = .ok (.iload_n 1, 1) := by decide +kernel
theorem dX9_init_284 : decode cX9_init 284 = .ok (.bipush 24, 2) := by decide +kernel
theorem dX9_init_286 : decode cX9_init 286 = .ok (.if_icmp .ge 16, 3) := by decide +kernel
theorem dX9_init_289 : decode cX9_init 289 = .ok (.aload_n 0, 1) := by decide +kernel
theorem dX9_init_290 : decode cX9_init 290 = .ok (.getfield 59, 3) := by decide +kernel
theorem dX9_init_293 : decode cX9_init 293 = .ok (.iload_n 1, 1) := by decide +kernel
theorem dX9_init_294 : decode cX9_init 294 = .ok (.iconst (-1), 1) := by decide +kernel
theorem dX9_init_295 : decode cX9_init 295 = .ok (.iastore, 1) := by decide +kernel
theorem dX9_init_296 : decode cX9_init 296 = .ok (.iinc 1 1, 3) := by decide +kernel
theorem dX9_init_299 : decode cX9_init 299 = .ok (.goto (-16), 3) := by decide +kernel
theorem dX9_init_302 : decode cX9_init 302 = .ok (.return_, 1) := by decide +kernel
theorem dX9_thrown_0 : decode cX9_thrown 0 = .ok (.aload_n 0, 1) := by decide +kernel
theorem dX9_thrown_1 : decode cX9_thrown 1 = .ok (.getfield 86, 3) := by decide +kernel
theorem dX9_thrown_4 : decode cX9_thrown 4 = .ok (.ireturn, 1) := by decide +kernel
theorem dX9_fails_0 : decode cX9_fails 0 = .ok (.aload_n 0, 1) := by decide +kernel
theorem dX9_fails_1 : decode cX9_fails 1 = .ok (.iload_n 1, 1) := by decide +kernel
theorem dX9_fails_2 : decode cX9_fails 2 = .ok (.putfield 86, 3) := by decide +kernel
theorem dX9_fails_5 : decode cX9_fails 5 = .ok (.iconst 0, 1) := by decide +kernel
theorem dX9_fails_6 : decode cX9_fails 6 = .ok (.ireturn, 1) := by decide +kernel
theorem dX9_asks_0 : decode cX9_asks 0 = .ok (.aload_n 0, 1) := by decide +kernel
theorem dX9_asks_1 : decode cX9_asks 1 = .ok (.iload_n 1, 1) := by decide +kernel
theorem dX9_asks_2 : decode cX9_asks 2 = .ok (.ifCond .eq 7, 3) := by decide +kernel
theorem dX9_asks_5 : decode cX9_asks 5 = .ok (.iconst 0, 1) := by decide +kernel
theorem dX9_asks_6 : decode cX9_asks 6 = .ok (.goto 4, 3) := by decide +kernel
theorem dX9_asks_9 : decode cX9_asks 9 = .ok (.iconst 1, 1) := by decide +kernel
theorem dX9_asks_10 : decode cX9_asks 10 = .ok (.putfield 86, 3) := by decide +kernel
theorem dX9_asks_13 : decode cX9_asks 13 = .ok (.iload_n 1, 1) := by decide +kernel
theorem dX9_asks_14 : decode cX9_asks 14 = .ok (.ireturn, 1) := by decide +kernel
theorem dX9_in_0 : decode cX9_in 0 = .ok (.iload_n 0, 1) := by decide +kernel
theorem dX9_in_1 : decode cX9_in 1 = .ok (.iload_n 1, 1) := by decide +kernel
theorem dX9_in_2 : decode cX9_in 2 = .ok (.if_icmp .lt 12, 3) := by decide +kernel
theorem dX9_in_5 : decode cX9_in 5 = .ok (.iload_n 0, 1) := by decide +kernel
theorem dX9_in_6 : decode cX9_in 6 = .ok (.iload_n 2, 1) := by decide +kernel
theorem dX9_in_7 : decode cX9_in 7 = .ok (.if_icmp .gt 7, 3) := by decide +kernel
theorem dX9_in_10 : decode cX9_in 10 = .ok (.iconst 1, 1) := by decide +kernel
theorem dX9_in_11 : decode cX9_in 11 = .ok (.goto 4, 3) := by decide +kernel
theorem dX9_in_14 : decode cX9_in 14 = .ok (.iconst 0, 1) := by decide +kernel
theorem dX9_in_15 : decode cX9_in 15 = .ok (.ireturn, 1) := by decide +kernel
theorem dX9_isTroop_0 : decode cX9_isTroop 0 = .ok (.iload_n 1, 1) := by decide +kernel
theorem dX9_isTroop_1 : decode cX9_isTroop 1 = .ok (.iconst 0, 1) := by decide +kernel
theorem dX9_isTroop_2 : decode cX9_isTroop 2 = .ok (.aload_n 0, 1) := by decide +kernel
theorem dX9_isTroop_3 : decode cX9_isTroop 3 = .ok (.getfield 90, 3) := by decide +kernel
theorem dX9_isTroop_6 : decode cX9_isTroop 6 = .ok (.iconst 1, 1) := by decide +kernel
theorem dX9_isTroop_7 : decode cX9_isTroop 7 = .ok (.isub, 1) := by decide +kernel
theorem dX9_isTroop_8 : decode cX9_isTroop 8 = .ok (.invokestatic 93, 3) := by decide +kernel
theorem dX9_isTroop_11 : decode cX9_isTroop 11 = .ok (.ireturn, 1) := by decide +kernel
theorem dX9_isChild_0 : decode cX9_isChild 0 = .ok (.iload_n 1, 1) := by decide +kernel
theorem dX9_isChild_1 : decode cX9_isChild 1 = .ok (.iconst 0, 1) := by decide +kernel
theorem dX9_isChild_2 : decode cX9_isChild 2 = .ok (.aload_n 0, 1) := by decide +kernel
theorem dX9_isChild_3 : decode cX9_isChild 3 = .ok (.getfield 97, 3) := by decide +kernel
theorem dX9_isChild_6 : decode cX9_isChild 6 = .ok (.iconst 1, 1) := by decide +kernel
theorem dX9_isChild_7 : decode cX9_isChild 7 = .ok (.isub, 1) := by decide +kernel
theorem dX9_isChild_8 : decode cX9_isChild 8 = .ok (.invokestatic 93, 3) := by decide +kernel
theorem dX9_isChild_11 : decode cX9_isChild 11 = .ok (.ireturn, 1) := by decide +kernel
theorem dX9_isLeader_0 : decode cX9_isLeader 0 = .ok (.iload_n 1, 1) := by decide +kernel
theorem dX9_isLeader_1 : decode cX9_isLeader 1 = .ok (.iconst 0, 1) := by decide +kernel
theorem dX9_isLeader_2 : decode cX9_isLeader 2 = .ok (.aload_n 0, 1) := by decide +kernel
theorem dX9_isLeader_3 : decode cX9_isLeader 3 = .ok (.getfield 100, 3) := by decide +kernel
theorem dX9_isLeader_6 : decode cX9_isLeader 6 = .ok (.iconst 1, 1) := by decide +kernel
theorem dX9_isLeader_7 : decode cX9_isLeader 7 = .ok (.isub, 1) := by decide +kernel
theorem dX9_isLeader_8 : decode cX9_isLeader 8 = .ok (.invokestatic 93, 3) := by decide +kernel
theorem dX9_isLeader_11 : decode cX9_isLeader 11 = .ok (.ireturn, 1) := by decide +kernel
theorem dX9_isSkills_0 : decode cX9_isSkills 0 = .ok (.iload_n 0, 1) := by decide +kernel
theorem dX9_isSkills_1 : decode cX9_isSkills 1 = .ok (.iconst 0, 1) := by decide +kernel
theorem dX9_isSkills_2 : decode cX9_isSkills 2 = .ok (.ldc 103, 2) := by decide +kernel
theorem dX9_isSkills_4 : decode cX9_isSkills 4 = .ok (.invokestatic 93, 3) := by decide +kernel
theorem dX9_isSkills_7 : decode cX9_isSkills 7 = .ok (.ireturn, 1) := by decide +kernel
theorem dX9_ones_0 : decode cX9_ones 0 = .ok (.iconst 0, 1) := by decide +kernel
theorem dX9_ones_1 : decode cX9_ones 1 = .ok (.istore_n 1, 1) := by decide +kernel
theorem dX9_ones_2 : decode cX9_ones 2 = .ok (.iconst 0, 1) := by decide +kernel
theorem dX9_ones_3 : decode cX9_ones 3 = .ok (.istore_n 2, 1) := by decide +kernel
theorem dX9_ones_4 : decode cX9_ones 4 = .ok (.iload_n 2, 1) := by decide +kernel
theorem dX9_ones_5 : decode cX9_ones 5 = .ok (.bipush 16, 2) := by decide +kernel
theorem dX9_ones_7 : decode cX9_ones 7 = .ok (.if_icmp .ge 17, 3) := by decide +kernel
theorem dX9_ones_10 : decode cX9_ones 10 = .ok (.iload_n 1, 1) := by decide +kernel
theorem dX9_ones_11 : decode cX9_ones 11 = .ok (.iload_n 0, 1) := by decide +kernel
theorem dX9_ones_12 : decode cX9_ones 12 = .ok (.iload_n 2, 1) := by decide +kernel
theorem dX9_ones_13 : decode cX9_ones 13 = .ok (.ishr, 1) := by decide +kernel
theorem dX9_ones_14 : decode cX9_ones 14 = .ok (.iconst 1, 1) := by decide +kernel
theorem dX9_ones_15 : decode cX9_ones 15 = .ok (.iand, 1) := by decide +kernel
theorem dX9_ones_16 : decode cX9_ones 16 = .ok (.iadd, 1) := by decide +kernel
theorem dX9_ones_17 : decode cX9_ones 17 = .ok (.istore_n 1, 1) := by decide +kernel
theorem dX9_ones_18 : decode cX9_ones 18 = .ok (.iinc 2 1, 3) := by decide +kernel
theorem dX9_ones_21 : decode cX9_ones 21 = .ok (.goto (-17), 3) := by decide +kernel
theorem dX9_ones_24 : decode cX9_ones 24 = .ok (.iload_n 1, 1) := by decide +kernel
theorem dX9_ones_25 : decode cX9_ones 25 = .ok (.ireturn, 1) := by decide +kernel
theorem dX9_troop_0 : decode cX9_troop 0 = .ok (.aload_n 0, 1) := by decide +kernel
theorem dX9_troop_1 : decode cX9_troop 1 = .ok (.iload_n 1, 1) := by decide +kernel
theorem dX9_troop_2 : decode cX9_troop 2 = .ok (.iconst 5, 1) := by decide +kernel
theorem dX9_troop_3 : decode cX9_troop 3 = .ok (.bipush 20, 2) := by decide +kernel
theorem dX9_troop_5 : decode cX9_troop 5 = .ok (.invokestatic 93, 3) := by decide +kernel
theorem dX9_troop_8 : decode cX9_troop 8 = .ok (.ifCond .eq 27, 3) := by decide +kernel
theorem dX9_troop_11 : decode cX9_troop 11 = .ok (.iload_n 2, 1) := by decide +kernel
theorem dX9_troop_12 : decode cX9_troop 12 = .ok (.iload_n 1, 1) := by decide +kernel
theorem dX9_troop_13 : decode cX9_troop 13 = .ok (.bipush 20, 2) := by decide +kernel
theorem dX9_troop_15 : decode cX9_troop 15 = .ok (.invokestatic 93, 3) := by decide +kernel
theorem dX9_troop_18 : decode cX9_troop 18 = .ok (.ifCond .eq 17, 3) := by decide +kernel
theorem dX9_troop_21 : decode cX9_troop 21 = .ok (.iload_n 3, 1) := by decide +kernel
theorem dX9_troop_22 : decode cX9_troop 22 = .ok (.iconst 1, 1) := by decide +kernel
theorem dX9_troop_23 : decode cX9_troop 23 = .ok (.bipush 12, 2) := by decide +kernel
theorem dX9_troop_25 : decode cX9_troop 25 = .ok (.invokestatic 93, 3) := by decide +kernel
theorem dX9_troop_28 : decode cX9_troop 28 = .ok (.ifCond .eq 7, 3) := by decide +kernel
theorem dX9_troop_31 : decode cX9_troop 31 = .ok (.iconst 1, 1) := by decide +kernel
theorem dX9_troop_32 : decode cX9_troop 32 = .ok (.goto 4, 3) := by decide +kernel
theorem dX9_troop_35 : decode cX9_troop 35 = .ok (.iconst 0, 1) := by decide +kernel
theorem dX9_troop_36 : decode cX9_troop 36 = .ok (.invokevirtual 104, 3) := by decide +kernel
theorem dX9_troop_39 : decode cX9_troop 39 = .ok (.ifCond .ne 5, 3) := by decide +kernel
theorem dX9_troop_42 : decode cX9_troop 42 = .ok (.iconst 0, 1) := by decide +kernel
theorem dX9_troop_43 : decode cX9_troop 43 = .ok (.ireturn, 1) := by decide +kernel
theorem dX9_troop_44 : decode cX9_troop 44 = .ok (.aload_n 0, 1) := by decide +kernel
theorem dX9_troop_45 : decode cX9_troop 45 = .ok (.getfield 90, 3) := by decide +kernel
theorem dX9_troop_48 : decode cX9_troop 48 = .ok (.bipush 6, 2) := by decide +kernel
theorem dX9_troop_50 : decode cX9_troop 50 = .ok (.if_icmp .ne 9, 3) := by decide +kernel
theorem dX9_troop_53 : decode cX9_troop 53 = .ok (.aload_n 0, 1) := by decide +kernel
theorem dX9_troop_54 : decode cX9_troop 54 = .ok (.iconst 2, 1) := by decide +kernel
theorem dX9_troop_55 : decode cX9_troop 55 = .ok (.invokevirtual 108, 3) := by decide +kernel
theorem dX9_troop_58 : decode cX9_troop 58 = .ok (.ireturn, 1) := by decide +kernel
theorem dX9_troop_59 : decode cX9_troop 59 = .ok (.aload_n 0, 1) := by decide +kernel
theorem dX9_troop_60 : decode cX9_troop 60 = .ok (.getfield 7, 3) := by decide +kernel
theorem dX9_troop_63 : decode cX9_troop 63 = .ok (.aload_n 0, 1) := by decide +kernel
theorem dX9_troop_64 : decode cX9_troop 64 = .ok (.getfield 90, 3) := by decide +kernel
theorem dX9_troop_67 : decode cX9_troop 67 = .ok (.iload_n 1, 1) := by decide +kernel
theorem dX9_troop_68 : decode cX9_troop 68 = .ok (.iastore, 1) := by decide +kernel
theorem dX9_troop_69 : decode cX9_troop 69 = .ok (.aload_n 0, 1) := by decide +kernel
theorem dX9_troop_70 : decode cX9_troop 70 = .ok (.getfield 13, 3) := by decide +kernel
theorem dX9_troop_73 : decode cX9_troop 73 = .ok (.aload_n 0, 1) := by decide +kernel
theorem dX9_troop_74 : decode cX9_troop 74 = .ok (.getfield 90, 3) := by decide +kernel
theorem dX9_troop_77 : decode cX9_troop 77 = .ok (.iload_n 2, 1) := by decide +kernel
theorem dX9_troop_78 : decode cX9_troop 78 = .ok (.iastore, 1) := by decide +kernel
theorem dX9_troop_79 : decode cX9_troop 79 = .ok (.aload_n 0, 1) := by decide +kernel
theorem dX9_troop_80 : decode cX9_troop 80 = .ok (.getfield 16, 3) := by decide +kernel
theorem dX9_troop_83 : decode cX9_troop 83 = .ok (.aload_n 0, 1) := by decide +kernel
theorem dX9_troop_84 : decode cX9_troop 84 = .ok (.getfield 90, 3) := by decide +kernel
theorem dX9_troop_87 : decode cX9_troop 87 = .ok (.iload_n 3, 1) := by decide +kernel
theorem dX9_troop_88 : decode cX9_troop 88 = .ok (.iastore, 1) := by decide +kernel
theorem dX9_troop_89 : decode cX9_troop 89 = .ok (.aload_n 0, 1) := by decide +kernel
theorem dX9_troop_90 : decode cX9_troop 90 = .ok (.dup, 1) := by decide +kernel
theorem dX9_troop_91 : decode cX9_troop 91 = .ok (.getfield 90, 3) := by decide +kernel
theorem dX9_troop_94 : decode cX9_troop 94 = .ok (.iconst 1, 1) := by decide +kernel
theorem dX9_troop_95 : decode cX9_troop 95 = .ok (.iadd, 1) := by decide +kernel
theorem dX9_troop_96 : decode cX9_troop 96 = .ok (.putfield 90, 3) := by decide +kernel
theorem dX9_troop_99 : decode cX9_troop 99 = .ok (.aload_n 0, 1) := by decide +kernel
theorem dX9_troop_100 : decode cX9_troop 100 = .ok (.getfield 90, 3) := by decide +kernel
theorem dX9_troop_103 : decode cX9_troop 103 = .ok (.iconst 1, 1) := by decide +kernel
theorem dX9_troop_104 : decode cX9_troop 104 = .ok (.isub, 1) := by decide +kernel
theorem dX9_troop_105 : decode cX9_troop 105 = .ok (.ireturn, 1) := by decide +kernel
theorem dX9_child_0 : decode cX9_child 0 = .ok (.aload_n 0, 1) := by decide +kernel
theorem dX9_child_1 : decode cX9_child 1 = .ok (.iload_n 1, 1) := by decide +kernel
theorem dX9_child_2 : decode cX9_child 2 = .ok (.iconst 5, 1) := by decide +kernel
theorem dX9_child_3 : decode cX9_child 3 = .ok (.bipush 17, 2) := by decide +kernel
theorem dX9_child_5 : decode cX9_child 5 = .ok (.invokestatic 93, 3) := by decide +kernel
theorem dX9_child_8 : decode cX9_child 8 = .ok (.invokevirtual 104, 3) := by decide +kernel
theorem dX9_child_11 : decode cX9_child 11 = .ok (.ifCond .ne 5, 3) := by decide +kernel
theorem dX9_child_14 : decode cX9_child 14 = .ok (.iconst 0, 1) := by decide +kernel
theorem dX9_child_15 : decode cX9_child 15 = .ok (.ireturn, 1) := by decide +kernel
theorem dX9_child_16 : decode cX9_child 16 = .ok (.aload_n 0, 1) := by decide +kernel
theorem dX9_child_17 : decode cX9_child 17 = .ok (.getfield 97, 3) := by decide +kernel
theorem dX9_child_20 : decode cX9_child 20 = .ok (.bipush 24, 2) := by decide +kernel
theorem dX9_child_22 : decode cX9_child 22 = .ok (.if_icmp .ne 9, 3) := by decide +kernel
theorem dX9_child_25 : decode cX9_child 25 = .ok (.aload_n 0, 1) := by decide +kernel
theorem dX9_child_26 : decode cX9_child 26 = .ok (.iconst 2, 1) := by decide +kernel
theorem dX9_child_27 : decode cX9_child 27 = .ok (.invokevirtual 108, 3) := by decide +kernel
theorem dX9_child_30 : decode cX9_child 30 = .ok (.ireturn, 1) := by decide +kernel
theorem dX9_child_31 : decode cX9_child 31 = .ok (.aload_n 0, 1) := by decide +kernel
theorem dX9_child_32 : decode cX9_child 32 = .ok (.getfield 19, 3) := by decide +kernel
theorem dX9_child_35 : decode cX9_child 35 = .ok (.aload_n 0, 1) := by decide +kernel
theorem dX9_child_36 : decode cX9_child 36 = .ok (.getfield 97, 3) := by decide +kernel
theorem dX9_child_39 : decode cX9_child 39 = .ok (.iload_n 1, 1) := by decide +kernel
theorem dX9_child_40 : decode cX9_child 40 = .ok (.iastore, 1) := by decide +kernel
theorem dX9_child_41 : decode cX9_child 41 = .ok (.aload_n 0, 1) := by decide +kernel
theorem dX9_child_42 : decode cX9_child 42 = .ok (.getfield 22, 3) := by decide +kernel
theorem dX9_child_45 : decode cX9_child 45 = .ok (.aload_n 0, 1) := by decide +kernel
theorem dX9_child_46 : decode cX9_child 46 = .ok (.getfield 97, 3) := by decide +kernel
theorem dX9_child_49 : decode cX9_child 49 = .ok (.iconst (-1), 1) := by decide +kernel
theorem dX9_child_50 : decode cX9_child 50 = .ok (.iastore, 1) := by decide +kernel
theorem dX9_child_51 : decode cX9_child 51 = .ok (.aload_n 0, 1) := by decide +kernel
theorem dX9_child_52 : decode cX9_child 52 = .ok (.getfield 25, 3) := by decide +kernel
theorem dX9_child_55 : decode cX9_child 55 = .ok (.aload_n 0, 1) := by decide +kernel
theorem dX9_child_56 : decode cX9_child 56 = .ok (.getfield 97, 3) := by decide +kernel
theorem dX9_child_59 : decode cX9_child 59 = .ok (.iconst (-1), 1) := by decide +kernel
theorem dX9_child_60 : decode cX9_child 60 = .ok (.iastore, 1) := by decide +kernel
theorem dX9_child_61 : decode cX9_child 61 = .ok (.aload_n 0, 1) := by decide +kernel
theorem dX9_child_62 : decode cX9_child 62 = .ok (.getfield 31, 3) := by decide +kernel
theorem dX9_child_65 : decode cX9_child 65 = .ok (.aload_n 0, 1) := by decide +kernel
theorem dX9_child_66 : decode cX9_child 66 = .ok (.getfield 97, 3) := by decide +kernel
theorem dX9_child_69 : decode cX9_child 69 = .ok (.iconst (-1), 1) := by decide +kernel
theorem dX9_child_70 : decode cX9_child 70 = .ok (.iastore, 1) := by decide +kernel
theorem dX9_child_71 : decode cX9_child 71 = .ok (.aload_n 0, 1) := by decide +kernel
theorem dX9_child_72 : decode cX9_child 72 = .ok (.dup, 1) := by decide +kernel
theorem dX9_child_73 : decode cX9_child 73 = .ok (.getfield 97, 3) := by decide +kernel
theorem dX9_child_76 : decode cX9_child 76 = .ok (.iconst 1, 1) := by decide +kernel
theorem dX9_child_77 : decode cX9_child 77 = .ok (.iadd, 1) := by decide +kernel
theorem dX9_child_78 : decode cX9_child 78 = .ok (.putfield 97, 3) := by decide +kernel
theorem dX9_child_81 : decode cX9_child 81 = .ok (.aload_n 0, 1) := by decide +kernel
theorem dX9_child_82 : decode cX9_child 82 = .ok (.getfield 97, 3) := by decide +kernel
theorem dX9_child_85 : decode cX9_child 85 = .ok (.iconst 1, 1) := by decide +kernel
theorem dX9_child_86 : decode cX9_child 86 = .ok (.isub, 1) := by decide +kernel
theorem dX9_child_87 : decode cX9_child 87 = .ok (.ireturn, 1) := by decide +kernel
theorem dX9_inTroop_0 : decode cX9_inTroop 0 = .ok (.iconst 0, 1) := by decide +kernel
theorem dX9_inTroop_1 : decode cX9_inTroop 1 = .ok (.istore_n 2, 1) := by decide +kernel
theorem dX9_inTroop_2 : decode cX9_inTroop 2 = .ok (.iconst 0, 1) := by decide +kernel
theorem dX9_inTroop_3 : decode cX9_inTroop 3 = .ok (.istore_n 3, 1) := by decide +kernel
theorem dX9_inTroop_4 : decode cX9_inTroop 4 = .ok (.iload_n 3, 1) := by decide +kernel
theorem dX9_inTroop_5 : decode cX9_inTroop 5 = .ok (.aload_n 0, 1) := by decide +kernel
theorem dX9_inTroop_6 : decode cX9_inTroop 6 = .ok (.getfield 97, 3) := by decide +kernel
theorem dX9_inTroop_9 : decode cX9_inTroop 9 = .ok (.if_icmp .ge 27, 3) := by decide +kernel
theorem dX9_inTroop_12 : decode cX9_inTroop 12 = .ok (.iload_n 2, 1) := by decide +kernel
theorem dX9_inTroop_13 : decode cX9_inTroop 13 = .ok (.aload_n 0, 1) := by decide +kernel
theorem dX9_inTroop_14 : decode cX9_inTroop 14 = .ok (.getfield 22, 3) := by decide +kernel
theorem dX9_inTroop_17 : decode cX9_inTroop 17 = .ok (.iload_n 3, 1) := by decide +kernel
theorem dX9_inTroop_18 : decode cX9_inTroop 18 = .ok (.iaload, 1) := by decide +kernel
theorem dX9_inTroop_19 : decode cX9_inTroop 19 = .ok (.iload_n 1, 1) := by decide +kernel
theorem dX9_inTroop_20 : decode cX9_inTroop 20 = .ok (.if_icmp .ne 7, 3) := by decide +kernel
theorem dX9_inTroop_23 : decode cX9_inTroop 23 = .ok (.iconst 1, 1) := by decide +kernel
theorem dX9_inTroop_24 : decode cX9_inTroop 24 = .ok (.goto 4, 3) := by decide +kernel
theorem dX9_inTroop_27 : decode cX9_inTroop 27 = .ok (.iconst 0, 1) := by decide +kernel
theorem dX9_inTroop_28 : decode cX9_inTroop 28 = .ok (.iadd, 1) := by decide +kernel
theorem dX9_inTroop_29 : decode cX9_inTroop 29 = .ok (.istore_n 2, 1) := by decide +kernel
theorem dX9_inTroop_30 : decode cX9_inTroop 30 = .ok (.iinc 3 1, 3) := by decide +kernel
theorem dX9_inTroop_33 : decode cX9_inTroop 33 = .ok (.goto (-29), 3) := by decide +kernel
theorem dX9_inTroop_36 : decode cX9_inTroop 36 = .ok (.iload_n 2, 1) := by decide +kernel
theorem dX9_inTroop_37 : decode cX9_inTroop 37 = .ok (.ireturn, 1) := by decide +kernel
theorem dX9_waiting_0 : decode cX9_waiting 0 = .ok (.iconst 0, 1) := by decide +kernel
theorem dX9_waiting_1 : decode cX9_waiting 1 = .ok (.istore_n 2, 1) := by decide +kernel
theorem dX9_waiting_2 : decode cX9_waiting 2 = .ok (.iconst 0, 1) := by decide +kernel
theorem dX9_waiting_3 : decode cX9_waiting 3 = .ok (.istore_n 3, 1) := by decide +kernel
theorem dX9_waiting_4 : decode cX9_waiting 4 = .ok (.iload_n 3, 1) := by decide +kernel
theorem dX9_waiting_5 : decode cX9_waiting 5 = .ok (.aload_n 0, 1) := by decide +kernel
theorem dX9_waiting_6 : decode cX9_waiting 6 = .ok (.getfield 97, 3) := by decide +kernel
theorem dX9_waiting_9 : decode cX9_waiting 9 = .ok (.if_icmp .ge 27, 3) := by decide +kernel
theorem dX9_waiting_12 : decode cX9_waiting 12 = .ok (.iload_n 2, 1) := by decide +kernel
theorem dX9_waiting_13 : decode cX9_waiting 13 = .ok (.aload_n 0, 1) := by decide +kernel
theorem dX9_waiting_14 : decode cX9_waiting 14 = .ok (.getfield 25, 3) := by decide +kernel
theorem dX9_waiting_17 : decode cX9_waiting 17 = .ok (.iload_n 3, 1) := by decide +kernel
theorem dX9_waiting_18 : decode cX9_waiting 18 = .ok (.iaload, 1) := by decide +kernel
theorem dX9_waiting_19 : decode cX9_waiting 19 = .ok (.iload_n 1, 1) := by decide +kernel
theorem dX9_waiting_20 : decode cX9_waiting 20 = .ok (.if_icmp .ne 7, 3) := by decide +kernel
theorem dX9_waiting_23 : decode cX9_waiting 23 = .ok (.iconst 1, 1) := by decide +kernel
theorem dX9_waiting_24 : decode cX9_waiting 24 = .ok (.goto 4, 3) := by decide +kernel
theorem dX9_waiting_27 : decode cX9_waiting 27 = .ok (.iconst 0, 1) := by decide +kernel
theorem dX9_waiting_28 : decode cX9_waiting 28 = .ok (.iadd, 1) := by decide +kernel
theorem dX9_waiting_29 : decode cX9_waiting 29 = .ok (.istore_n 2, 1) := by decide +kernel
theorem dX9_waiting_30 : decode cX9_waiting 30 = .ok (.iinc 3 1, 3) := by decide +kernel
theorem dX9_waiting_33 : decode cX9_waiting 33 = .ok (.goto (-29), 3) := by decide +kernel
theorem dX9_waiting_36 : decode cX9_waiting 36 = .ok (.iload_n 2, 1) := by decide +kernel
theorem dX9_waiting_37 : decode cX9_waiting 37 = .ok (.ireturn, 1) := by decide +kernel
theorem dX9_inPatrol_0 : decode cX9_inPatrol 0 = .ok (.iconst 0, 1) := by decide +kernel
theorem dX9_inPatrol_1 : decode cX9_inPatrol 1 = .ok (.istore_n 3, 1) := by decide +kernel
theorem dX9_inPatrol_2 : decode cX9_inPatrol 2 = .ok (.iconst 0, 1) := by decide +kernel
theorem dX9_inPatrol_3 : decode cX9_inPatrol 3 = .ok (.istore 4, 2) := by decide +kernel
theorem dX9_inPatrol_5 : decode cX9_inPatrol 5 = .ok (.iload 4, 2) := by decide +kernel
theorem dX9_inPatrol_7 : decode cX9_inPatrol 7 = .ok (.aload_n 0, 1) := by decide +kernel
theorem dX9_inPatrol_8 : decode cX9_inPatrol 8 = .ok (.getfield 97, 3) := by decide +kernel
theorem dX9_inPatrol_11 : decode cX9_inPatrol 11 = .ok (.if_icmp .ge 39, 3) := by decide +kernel
theorem dX9_inPatrol_14 : decode cX9_inPatrol 14 = .ok (.iload_n 3, 1) := by decide +kernel
theorem dX9_inPatrol_15 : decode cX9_inPatrol 15 = .ok (.aload_n 0, 1) := by decide +kernel
theorem dX9_inPatrol_16 : decode cX9_inPatrol 16 = .ok (.getfield 22, 3) := by decide +kernel
theorem dX9_inPatrol_19 : decode cX9_inPatrol 19 = .ok (.iload 4, 2) := by decide +kernel
theorem dX9_inPatrol_21 : decode cX9_inPatrol 21 = .ok (.iaload, 1) := by decide +kernel
theorem dX9_inPatrol_22 : decode cX9_inPatrol 22 = .ok (.iload_n 1, 1) := by decide +kernel
theorem dX9_inPatrol_23 : decode cX9_inPatrol 23 = .ok (.if_icmp .ne 18, 3) := by decide +kernel
theorem dX9_inPatrol_26 : decode cX9_inPatrol 26 = .ok (.aload_n 0, 1) := by decide +kernel
theorem dX9_inPatrol_27 : decode cX9_inPatrol 27 = .ok (.getfield 31, 3) := by decide +kernel
theorem dX9_inPatrol_30 : decode cX9_inPatrol 30 = .ok (.iload 4, 2) := by decide +kernel
theorem dX9_inPatrol_32 : decode cX9_inPatrol 32 = .ok (.iaload, 1) := by decide +kernel
theorem dX9_inPatrol_33 : decode cX9_inPatrol 33 = .ok (.iload_n 2, 1) := by decide +kernel
theorem dX9_inPatrol_34 : decode cX9_inPatrol 34 = .ok (.if_icmp .ne 7, 3) := by decide +kernel
theorem dX9_inPatrol_37 : decode cX9_inPatrol 37 = .ok (.iconst 1, 1) := by decide +kernel
theorem dX9_inPatrol_38 : decode cX9_inPatrol 38 = .ok (.goto 4, 3) := by decide +kernel
theorem dX9_inPatrol_41 : decode cX9_inPatrol 41 = .ok (.iconst 0, 1) := by decide +kernel
theorem dX9_inPatrol_42 : decode cX9_inPatrol 42 = .ok (.iadd, 1) := by decide +kernel
theorem dX9_inPatrol_43 : decode cX9_inPatrol 43 = .ok (.istore_n 3, 1) := by decide +kernel
theorem dX9_inPatrol_44 : decode cX9_inPatrol 44 = .ok (.iinc 4 1, 3) := by decide +kernel
theorem dX9_inPatrol_47 : decode cX9_inPatrol 47 = .ok (.goto (-42), 3) := by decide +kernel
theorem dX9_inPatrol_50 : decode cX9_inPatrol 50 = .ok (.iload_n 3, 1) := by decide +kernel
theorem dX9_inPatrol_51 : decode cX9_inPatrol 51 = .ok (.ireturn, 1) := by decide +kernel
theorem dX9_comesIn_0 : decode cX9_comesIn 0 = .ok (.iconst 0, 1) := by decide +kernel
theorem dX9_comesIn_1 : decode cX9_comesIn 1 = .ok (.istore_n 3, 1) := by decide +kernel
theorem dX9_comesIn_2 : decode cX9_comesIn 2 = .ok (.iconst 1, 1) := by decide +kernel
theorem dX9_comesIn_3 : decode cX9_comesIn 3 = .ok (.istore 4, 2) := by decide +kernel
theorem dX9_comesIn_5 : decode cX9_comesIn 5 = .ok (.iload 4, 2) := by decide +kernel
theorem dX9_comesIn_7 : decode cX9_comesIn 7 = .ok (.iconst 4, 1) := by decide +kernel
theorem dX9_comesIn_8 : decode cX9_comesIn 8 = .ok (.if_icmp .ge 32, 3) := by decide +kernel
theorem dX9_comesIn_11 : decode cX9_comesIn 11 = .ok (.aload_n 0, 1) := by decide +kernel
theorem dX9_comesIn_12 : decode cX9_comesIn 12 = .ok (.iload_n 2, 1) := by decide +kernel
theorem dX9_comesIn_13 : decode cX9_comesIn 13 = .ok (.iload 4, 2) := by decide +kernel
theorem dX9_comesIn_15 : decode cX9_comesIn 15 = .ok (.invokevirtual 112, 3) := by decide +kernel
theorem dX9_comesIn_18 : decode cX9_comesIn 18 = .ok (.aload_n 0, 1) := by decide +kernel
theorem dX9_comesIn_19 : decode cX9_comesIn 19 = .ok (.iload_n 2, 1) := by decide +kernel
theorem dX9_comesIn_20 : decode cX9_comesIn 20 = .ok (.iload_n 3, 1) := by decide +kernel
theorem dX9_comesIn_21 : decode cX9_comesIn 21 = .ok (.invokevirtual 112, 3) := by decide +kernel
theorem dX9_comesIn_24 : decode cX9_comesIn 24 = .ok (.if_icmp .ge 8, 3) := by decide +kernel
theorem dX9_comesIn_27 : decode cX9_comesIn 27 = .ok (.iload 4, 2) := by decide +kernel
theorem dX9_comesIn_29 : decode cX9_comesIn 29 = .ok (.goto 4, 3) := by decide +kernel
theorem dX9_comesIn_32 : decode cX9_comesIn 32 = .ok (.iload_n 3, 1) := by decide +kernel
theorem dX9_comesIn_33 : decode cX9_comesIn 33 = .ok (.istore_n 3, 1) := by decide +kernel
theorem dX9_comesIn_34 : decode cX9_comesIn 34 = .ok (.iinc 4 1, 3) := by decide +kernel
theorem dX9_comesIn_37 : decode cX9_comesIn 37 = .ok (.goto (-32), 3) := by decide +kernel
theorem dX9_comesIn_40 : decode cX9_comesIn 40 = .ok (.aload_n 0, 1) := by decide +kernel
theorem dX9_comesIn_41 : decode cX9_comesIn 41 = .ok (.getfield 25, 3) := by decide +kernel
theorem dX9_comesIn_44 : decode cX9_comesIn 44 = .ok (.iload_n 1, 1) := by decide +kernel
theorem dX9_comesIn_45 : decode cX9_comesIn 45 = .ok (.iconst (-1), 1) := by decide +kernel
theorem dX9_comesIn_46 : decode cX9_comesIn 46 = .ok (.iastore, 1) := by decide +kernel
theorem dX9_comesIn_47 : decode cX9_comesIn 47 = .ok (.aload_n 0, 1) := by decide +kernel
theorem dX9_comesIn_48 : decode cX9_comesIn 48 = .ok (.getfield 22, 3) := by decide +kernel
theorem dX9_comesIn_51 : decode cX9_comesIn 51 = .ok (.iload_n 1, 1) := by decide +kernel
theorem dX9_comesIn_52 : decode cX9_comesIn 52 = .ok (.iload_n 2, 1) := by decide +kernel
theorem dX9_comesIn_53 : decode cX9_comesIn 53 = .ok (.iastore, 1) := by decide +kernel
theorem dX9_comesIn_54 : decode cX9_comesIn 54 = .ok (.aload_n 0, 1) := by decide +kernel
theorem dX9_comesIn_55 : decode cX9_comesIn 55 = .ok (.getfield 31, 3) := by decide +kernel
theorem dX9_comesIn_58 : decode cX9_comesIn 58 = .ok (.iload_n 1, 1) := by decide +kernel
theorem dX9_comesIn_59 : decode cX9_comesIn 59 = .ok (.iload_n 3, 1) := by decide +kernel
theorem dX9_comesIn_60 : decode cX9_comesIn 60 = .ok (.iastore, 1) := by decide +kernel
theorem dX9_comesIn_61 : decode cX9_comesIn 61 = .ok (.return_, 1) := by decide +kernel
theorem dX9_joins_0 : decode cX9_joins 0 = .ok (.aload_n 0, 1) := by decide +kernel
theorem dX9_joins_1 : decode cX9_joins 1 = .ok (.iload_n 2, 1) := by decide +kernel
theorem dX9_joins_2 : decode cX9_joins 2 = .ok (.invokevirtual 116, 3) := by decide +kernel
theorem dX9_joins_5 : decode cX9_joins 5 = .ok (.aload_n 0, 1) := by decide +kernel
theorem dX9_joins_6 : decode cX9_joins 6 = .ok (.getfield 16, 3) := by decide +kernel
theorem dX9_joins_9 : decode cX9_joins 9 = .ok (.iload_n 2, 1) := by decide +kernel
theorem dX9_joins_10 : decode cX9_joins 10 = .ok (.iaload, 1) := by decide +kernel
theorem dX9_joins_11 : decode cX9_joins 11 = .ok (.if_icmp .ge 11, 3) := by decide +kernel
theorem dX9_joins_14 : decode cX9_joins 14 = .ok (.aload_n 0, 1) := by decide +kernel
theorem dX9_joins_15 : decode cX9_joins 15 = .ok (.iload_n 1, 1) := by decide +kernel
theorem dX9_joins_16 : decode cX9_joins 16 = .ok (.iload_n 2, 1) := by decide +kernel
theorem dX9_joins_17 : decode cX9_joins 17 = .ok (.invokevirtual 119, 3) := by decide +kernel
theorem dX9_joins_20 : decode cX9_joins 20 = .ok (.iconst 0, 1) := by decide +kernel
theorem dX9_joins_21 : decode cX9_joins 21 = .ok (.ireturn, 1) := by decide +kernel
theorem dX9_joins_22 : decode cX9_joins 22 = .ok (.aload_n 0, 1) := by decide +kernel
theorem dX9_joins_23 : decode cX9_joins 23 = .ok (.getfield 25, 3) := by decide +kernel
theorem dX9_joins_26 : decode cX9_joins 26 = .ok (.iload_n 1, 1) := by decide +kernel
theorem dX9_joins_27 : decode cX9_joins 27 = .ok (.iload_n 2, 1) := by decide +kernel
theorem dX9_joins_28 : decode cX9_joins 28 = .ok (.iastore, 1) := by decide +kernel
theorem dX9_joins_29 : decode cX9_joins 29 = .ok (.aload_n 0, 1) := by decide +kernel
theorem dX9_joins_30 : decode cX9_joins 30 = .ok (.getfield 28, 3) := by decide +kernel
theorem dX9_joins_33 : decode cX9_joins 33 = .ok (.iload_n 1, 1) := by decide +kernel
theorem dX9_joins_34 : decode cX9_joins 34 = .ok (.aload_n 0, 1) := by decide +kernel
theorem dX9_joins_35 : decode cX9_joins 35 = .ok (.getfield 123, 3) := by decide +kernel
theorem dX9_joins_38 : decode cX9_joins 38 = .ok (.iastore, 1) := by decide +kernel
theorem dX9_joins_39 : decode cX9_joins 39 = .ok (.aload_n 0, 1) := by decide +kernel
theorem dX9_joins_40 : decode cX9_joins 40 = .ok (.dup, 1) := by decide +kernel
theorem dX9_joins_41 : decode cX9_joins 41 = .ok (.getfield 123, 3) := by decide +kernel
theorem dX9_joins_44 : decode cX9_joins 44 = .ok (.iconst 1, 1) := by decide +kernel
theorem dX9_joins_45 : decode cX9_joins 45 = .ok (.iadd, 1) := by decide +kernel
theorem dX9_joins_46 : decode cX9_joins 46 = .ok (.putfield 123, 3) := by decide +kernel
theorem dX9_joins_49 : decode cX9_joins 49 = .ok (.aload_n 0, 1) := by decide +kernel
theorem dX9_joins_50 : decode cX9_joins 50 = .ok (.iload_n 2, 1) := by decide +kernel
theorem dX9_joins_51 : decode cX9_joins 51 = .ok (.invokevirtual 126, 3) := by decide +kernel
theorem dX9_joins_54 : decode cX9_joins 54 = .ok (.ireturn, 1) := by decide +kernel
theorem dX9_isFor_0 : decode cX9_isFor 0 = .ok (.aload_n 0, 1) := by decide +kernel
theorem dX9_isFor_1 : decode cX9_isFor 1 = .ok (.getfield 19, 3) := by decide +kernel
theorem dX9_isFor_4 : decode cX9_isFor 4 = .ok (.iload_n 2, 1) := by decide +kernel
theorem dX9_isFor_5 : decode cX9_isFor 5 = .ok (.iaload, 1) := by decide +kernel
theorem dX9_isFor_6 : decode cX9_isFor 6 = .ok (.aload_n 0, 1) := by decide +kernel
theorem dX9_isFor_7 : decode cX9_isFor 7 = .ok (.getfield 7, 3) := by decide +kernel
theorem dX9_isFor_10 : decode cX9_isFor 10 = .ok (.iload_n 1, 1) := by decide +kernel
theorem dX9_isFor_11 : decode cX9_isFor 11 = .ok (.iaload, 1) := by decide +kernel
theorem dX9_isFor_12 : decode cX9_isFor 12 = .ok (.aload_n 0, 1) := by decide +kernel
theorem dX9_isFor_13 : decode cX9_isFor 13 = .ok (.getfield 13, 3) := by decide +kernel
theorem dX9_isFor_16 : decode cX9_isFor 16 = .ok (.iload_n 1, 1) := by decide +kernel
theorem dX9_isFor_17 : decode cX9_isFor 17 = .ok (.iaload, 1) := by decide +kernel
theorem dX9_isFor_18 : decode cX9_isFor 18 = .ok (.invokestatic 93, 3) := by decide +kernel
theorem dX9_isFor_21 : decode cX9_isFor 21 = .ok (.ireturn, 1) := by decide +kernel
theorem dX9_join_0 : decode cX9_join 0 = .ok (.aload_n 0, 1) := by decide +kernel
theorem dX9_join_1 : decode cX9_join 1 = .ok (.aload_n 0, 1) := by decide +kernel
theorem dX9_join_2 : decode cX9_join 2 = .ok (.iload_n 1, 1) := by decide +kernel
theorem dX9_join_3 : decode cX9_join 3 = .ok (.invokevirtual 129, 3) := by decide +kernel
theorem dX9_join_6 : decode cX9_join 6 = .ok (.ifCond .eq 15, 3) := by decide +kernel
theorem dX9_join_9 : decode cX9_join 9 = .ok (.aload_n 0, 1) := by decide +kernel
theorem dX9_join_10 : decode cX9_join 10 = .ok (.iload_n 2, 1) := by decide +kernel
theorem dX9_join_11 : decode cX9_join 11 = .ok (.invokevirtual 133, 3) := by decide +kernel
theorem dX9_join_14 : decode cX9_join 14 = .ok (.ifCond .eq 7, 3) := by decide +kernel
theorem dX9_join_17 : decode cX9_join 17 = .ok (.iconst 1, 1) := by decide +kernel
theorem dX9_join_18 : decode cX9_join 18 = .ok (.goto 4, 3) := by decide +kernel
theorem dX9_join_21 : decode cX9_join 21 = .ok (.iconst 0, 1) := by decide +kernel
theorem dX9_join_22 : decode cX9_join 22 = .ok (.invokevirtual 104, 3) := by decide +kernel
theorem dX9_join_25 : decode cX9_join 25 = .ok (.ifCond .ne 5, 3) := by decide +kernel
theorem dX9_join_28 : decode cX9_join 28 = .ok (.iconst 0, 1) := by decide +kernel
theorem dX9_join_29 : decode cX9_join 29 = .ok (.ireturn, 1) := by decide +kernel
theorem dX9_join_30 : decode cX9_join 30 = .ok (.aload_n 0, 1) := by decide +kernel
theorem dX9_join_31 : decode cX9_join 31 = .ok (.getfield 22, 3) := by decide +kernel
theorem dX9_join_34 : decode cX9_join 34 = .ok (.iload_n 1, 1) := by decide +kernel
theorem dX9_join_35 : decode cX9_join 35 = .ok (.iaload, 1) := by decide +kernel
theorem dX9_join_36 : decode cX9_join 36 = .ok (.iconst (-1), 1) := by decide +kernel
theorem dX9_join_37 : decode cX9_join 37 = .ok (.if_icmp .ne 22, 3) := by decide +kernel
theorem dX9_join_40 : decode cX9_join 40 = .ok (.aload_n 0, 1) := by decide +kernel
theorem dX9_join_41 : decode cX9_join 41 = .ok (.getfield 25, 3) := by decide +kernel
theorem dX9_join_44 : decode cX9_join 44 = .ok (.iload_n 1, 1) := by decide +kernel
theorem dX9_join_45 : decode cX9_join 45 = .ok (.iaload, 1) := by decide +kernel
theorem dX9_join_46 : decode cX9_join 46 = .ok (.iconst (-1), 1) := by decide +kernel
theorem dX9_join_47 : decode cX9_join 47 = .ok (.if_icmp .ne 12, 3) := by decide +kernel
theorem dX9_join_50 : decode cX9_join 50 = .ok (.aload_n 0, 1) := by decide +kernel
theorem dX9_join_51 : decode cX9_join 51 = .ok (.iload_n 2, 1) := by decide +kernel
theorem dX9_join_52 : decode cX9_join 52 = .ok (.iload_n 1, 1) := by decide +kernel
theorem dX9_join_53 : decode cX9_join 53 = .ok (.invokevirtual 136, 3) := by decide +kernel
theorem dX9_join_56 : decode cX9_join 56 = .ok (.ifCond .ne 9, 3) := by decide +kernel
theorem dX9_join_59 : decode cX9_join 59 = .ok (.aload_n 0, 1) := by decide +kernel
theorem dX9_join_60 : decode cX9_join 60 = .ok (.iconst 2, 1) := by decide +kernel
theorem dX9_join_61 : decode cX9_join 61 = .ok (.invokevirtual 108, 3) := by decide +kernel
theorem dX9_join_64 : decode cX9_join 64 = .ok (.ireturn, 1) := by decide +kernel
theorem dX9_join_65 : decode cX9_join 65 = .ok (.aload_n 0, 1) := by decide +kernel
theorem dX9_join_66 : decode cX9_join 66 = .ok (.iload_n 1, 1) := by decide +kernel
theorem dX9_join_67 : decode cX9_join 67 = .ok (.iload_n 2, 1) := by decide +kernel
theorem dX9_join_68 : decode cX9_join 68 = .ok (.invokevirtual 140, 3) := by decide +kernel
theorem dX9_join_71 : decode cX9_join 71 = .ok (.ireturn, 1) := by decide +kernel
theorem dX9_firstWaiting_0 : decode cX9_firstWaiting 0 = .ok (.iconst (-1), 1) := by decide +kernel
theorem dX9_firstWaiting_1 : decode cX9_firstWaiting 1 = .ok (.istore_n 2, 1) := by decide +kernel
theorem dX9_firstWaiting_2 : decode cX9_firstWaiting 2 = .ok (.iconst 0, 1) := by decide +kernel
theorem dX9_firstWaiting_3 : decode cX9_firstWaiting 3 = .ok (.istore_n 3, 1) := by decide +kernel
theorem dX9_firstWaiting_4 : decode cX9_firstWaiting 4 = .ok (.iload_n 3, 1) := by decide +kernel
theorem dX9_firstWaiting_5 : decode cX9_firstWaiting 5 = .ok (.aload_n 0, 1) := by decide +kernel
theorem dX9_firstWaiting_6 : decode cX9_firstWaiting 6 = .ok (.getfield 97, 3) := by decide +kernel
theorem dX9_firstWaiting_9 : decode cX9_firstWaiting 9 = .ok (.if_icmp .ge 45, 3) := by decide +kernel
theorem dX9_firstWaiting_12 : decode cX9_firstWaiting 12 = .ok (.aload_n 0, 1) := by decide +kernel
theorem dX9_firstWaiting_13 : decode cX9_firstWaiting 13 = .ok (.getfield 25, 3) := by decide +kernel
theorem dX9_firstWaiting_16 : decode cX9_firstWaiting 16 = .ok (.iload_n 3, 1) := by decide +kernel
theorem dX9_firstWaiting_17 : decode cX9_firstWaiting 17 = .ok (.iaload, 1) := by decide +kernel
theorem dX9_firstWaiting_18 : decode cX9_firstWaiting 18 = .ok (.iload_n 1, 1) := by decide +kernel
theorem dX9_firstWaiting_19 : decode cX9_firstWaiting 19 = .ok (.if_icmp .ne 27, 3) := by decide +kernel
theorem dX9_firstWaiting_22 : decode cX9_firstWaiting 22 = .ok (.iload_n 2, 1) := by decide +kernel
theorem dX9_firstWaiting_23 : decode cX9_firstWaiting 23 = .ok (.iconst (-1), 1) := by decide +kernel
theorem dX9_firstWaiting_24 : decode cX9_firstWaiting 24 = .ok (.if_icmp .eq 18, 3) := by decide +kernel
theorem dX9_firstWaiting_27 : decode cX9_firstWaiting 27 = .ok (.aload_n 0, 1) := by decide +kernel
theorem dX9_firstWaiting_28 : decode cX9_firstWaiting 28 = .ok (.getfield 28, 3) := by decide +kernel
theorem dX9_firstWaiting_31 : decode cX9_firstWaiting 31 = .ok (.iload_n 3, 1) := by decide +kernel
theorem dX9_firstWaiting_32 : decode cX9_firstWaiting 32 = .ok (.iaload, 1) := by decide +kernel
theorem dX9_firstWaiting_33 : decode cX9_firstWaiting 33 = .ok (.aload_n 0, 1) := by decide +kernel
theorem dX9_firstWaiting_34 : decode cX9_firstWaiting 34 = .ok (.getfield 28, 3) := by decide +kernel
theorem dX9_firstWaiting_37 : decode cX9_firstWaiting 37 = .ok (.iload_n 2, 1) := by decide +kernel
theorem dX9_firstWaiting_38 : decode cX9_firstWaiting 38 = .ok (.iaload, 1) := by decide +kernel
theorem dX9_firstWaiting_39 : decode cX9_firstWaiting 39 = .ok (.if_icmp .ge 7, 3) := by decide +kernel
theorem dX9_firstWaiting_42 : decode cX9_firstWaiting 42 = .ok (.iload_n 3, 1) := by decide +kernel
theorem dX9_firstWaiting_43 : decode cX9_firstWaiting 43 = .ok (.goto 4, 3) := by decide +kernel
theorem dX9_firstWaiting_46 : decode cX9_firstWaiting 46 = .ok (.iload_n 2, 1) := by decide +kernel
theorem dX9_firstWaiting_47 : decode cX9_firstWaiting 47 = .ok (.istore_n 2, 1) := by decide +kernel
theorem dX9_firstWaiting_48 : decode cX9_firstWaiting 48 = .ok (.iinc 3 1, 3) := by decide +kernel
theorem dX9_firstWaiting_51 : decode cX9_firstWaiting 51 = .ok (.goto (-47), 3) := by decide +kernel
theorem dX9_firstWaiting_54 : decode cX9_firstWaiting 54 = .ok (.iload_n 2, 1) := by decide +kernel
theorem dX9_firstWaiting_55 : decode cX9_firstWaiting 55 = .ok (.ireturn, 1) := by decide +kernel
theorem dX9_goesOut_0 : decode cX9_goesOut 0 = .ok (.aload_n 0, 1) := by decide +kernel
theorem dX9_goesOut_1 : decode cX9_goesOut 1 = .ok (.getfield 22, 3) := by decide +kernel
theorem dX9_goesOut_4 : decode cX9_goesOut 4 = .ok (.iload_n 1, 1) := by decide +kernel
theorem dX9_goesOut_5 : decode cX9_goesOut 5 = .ok (.iconst (-1), 1) := by decide +kernel
theorem dX9_goesOut_6 : decode cX9_goesOut 6 = .ok (.iastore, 1) := by decide +kernel
theorem dX9_goesOut_7 : decode cX9_goesOut 7 = .ok (.aload_n 0, 1) := by decide +kernel
theorem dX9_goesOut_8 : decode cX9_goesOut 8 = .ok (.getfield 31, 3) := by decide +kernel
theorem dX9_goesOut_11 : decode cX9_goesOut 11 = .ok (.iload_n 1, 1) := by decide +kernel
theorem dX9_goesOut_12 : decode cX9_goesOut 12 = .ok (.iconst (-1), 1) := by decide +kernel
theorem dX9_goesOut_13 : decode cX9_goesOut 13 = .ok (.iastore, 1) := by decide +kernel
theorem dX9_goesOut_14 : decode cX9_goesOut 14 = .ok (.return_, 1) := by decide +kernel
theorem dX9_leave_0 : decode cX9_leave 0 = .ok (.aload_n 0, 1) := by decide +kernel
theorem dX9_leave_1 : decode cX9_leave 1 = .ok (.aload_n 0, 1) := by decide +kernel
theorem dX9_leave_2 : decode cX9_leave 2 = .ok (.iload_n 1, 1) := by decide +kernel
theorem dX9_leave_3 : decode cX9_leave 3 = .ok (.invokevirtual 129, 3) := by decide +kernel
theorem dX9_leave_6 : decode cX9_leave 6 = .ok (.invokevirtual 104, 3) := by decide +kernel
theorem dX9_leave_9 : decode cX9_leave 9 = .ok (.ifCond .ne 5, 3) := by decide +kernel
theorem dX9_leave_12 : decode cX9_leave 12 = .ok (.iconst 0, 1) := by decide +kernel
theorem dX9_leave_13 : decode cX9_leave 13 = .ok (.ireturn, 1) := by decide +kernel
theorem dX9_leave_14 : decode cX9_leave 14 = .ok (.aload_n 0, 1) := by decide +kernel
theorem dX9_leave_15 : decode cX9_leave 15 = .ok (.getfield 22, 3) := by decide +kernel
theorem dX9_leave_18 : decode cX9_leave 18 = .ok (.iload_n 1, 1) := by decide +kernel
theorem dX9_leave_19 : decode cX9_leave 19 = .ok (.iaload, 1) := by decide +kernel
theorem dX9_leave_20 : decode cX9_leave 20 = .ok (.istore_n 2, 1) := by decide +kernel
theorem dX9_leave_21 : decode cX9_leave 21 = .ok (.iload_n 2, 1) := by decide +kernel
theorem dX9_leave_22 : decode cX9_leave 22 = .ok (.iconst (-1), 1) := by decide +kernel
theorem dX9_leave_23 : decode cX9_leave 23 = .ok (.if_icmp .ne 19, 3) := by decide +kernel
theorem dX9_leave_26 : decode cX9_leave 26 = .ok (.aload_n 0, 1) := by decide +kernel
theorem dX9_leave_27 : decode cX9_leave 27 = .ok (.getfield 25, 3) := by decide +kernel
theorem dX9_leave_30 : decode cX9_leave 30 = .ok (.iload_n 1, 1) := by decide +kernel
theorem dX9_leave_31 : decode cX9_leave 31 = .ok (.iaload, 1) := by decide +kernel
theorem dX9_leave_32 : decode cX9_leave 32 = .ok (.iconst (-1), 1) := by decide +kernel
theorem dX9_leave_33 : decode cX9_leave 33 = .ok (.if_icmp .ne 9, 3) := by decide +kernel
theorem dX9_leave_36 : decode cX9_leave 36 = .ok (.aload_n 0, 1) := by decide +kernel
theorem dX9_leave_37 : decode cX9_leave 37 = .ok (.iconst 2, 1) := by decide +kernel
theorem dX9_leave_38 : decode cX9_leave 38 = .ok (.invokevirtual 108, 3) := by decide +kernel
theorem dX9_leave_41 : decode cX9_leave 41 = .ok (.ireturn, 1) := by decide +kernel
theorem dX9_leave_42 : decode cX9_leave 42 = .ok (.aload_n 0, 1) := by decide +kernel
theorem dX9_leave_43 : decode cX9_leave 43 = .ok (.getfield 25, 3) := by decide +kernel
theorem dX9_leave_46 : decode cX9_leave 46 = .ok (.iload_n 1, 1) := by decide +kernel
theorem dX9_leave_47 : decode cX9_leave 47 = .ok (.iconst (-1), 1) := by decide +kernel
theorem dX9_leave_48 : decode cX9_leave 48 = .ok (.iastore, 1) := by decide +kernel
theorem dX9_leave_49 : decode cX9_leave 49 = .ok (.aload_n 0, 1) := by decide +kernel
theorem dX9_leave_50 : decode cX9_leave 50 = .ok (.iload_n 1, 1) := by decide +kernel
theorem dX9_leave_51 : decode cX9_leave 51 = .ok (.invokevirtual 143, 3) := by decide +kernel
theorem dX9_leave_54 : decode cX9_leave 54 = .ok (.iload_n 2, 1) := by decide +kernel
theorem dX9_leave_55 : decode cX9_leave 55 = .ok (.iconst (-1), 1) := by decide +kernel
theorem dX9_leave_56 : decode cX9_leave 56 = .ok (.if_icmp .ne 7, 3) := by decide +kernel
theorem dX9_leave_59 : decode cX9_leave 59 = .ok (.iconst (-1), 1) := by decide +kernel
theorem dX9_leave_60 : decode cX9_leave 60 = .ok (.goto 8, 3) := by decide +kernel
theorem dX9_leave_63 : decode cX9_leave 63 = .ok (.aload_n 0, 1) := by decide +kernel
theorem dX9_leave_64 : decode cX9_leave 64 = .ok (.iload_n 2, 1) := by decide +kernel
theorem dX9_leave_65 : decode cX9_leave 65 = .ok (.invokevirtual 147, 3) := by decide +kernel
theorem dX9_leave_68 : decode cX9_leave 68 = .ok (.istore_n 3, 1) := by decide +kernel
theorem dX9_leave_69 : decode cX9_leave 69 = .ok (.iload_n 3, 1) := by decide +kernel
theorem dX9_leave_70 : decode cX9_leave 70 = .ok (.iconst (-1), 1) := by decide +kernel
theorem dX9_leave_71 : decode cX9_leave 71 = .ok (.if_icmp .eq 9, 3) := by decide +kernel
theorem dX9_leave_74 : decode cX9_leave 74 = .ok (.aload_n 0, 1) := by decide +kernel
theorem dX9_leave_75 : decode cX9_leave 75 = .ok (.iload_n 3, 1) := by decide +kernel
theorem dX9_leave_76 : decode cX9_leave 76 = .ok (.iload_n 2, 1) := by decide +kernel
theorem dX9_leave_77 : decode cX9_leave 77 = .ok (.invokevirtual 119, 3) := by decide +kernel
theorem dX9_leave_80 : decode cX9_leave 80 = .ok (.iload_n 3, 1) := by decide +kernel
theorem dX9_leave_81 : decode cX9_leave 81 = .ok (.ireturn, 1) := by decide +kernel
theorem dX9_patrol_0 : decode cX9_patrol 0 = .ok (.aload_n 0, 1) := by decide +kernel
theorem dX9_patrol_1 : decode cX9_patrol 1 = .ok (.aload_n 0, 1) := by decide +kernel
theorem dX9_patrol_2 : decode cX9_patrol 2 = .ok (.iload_n 1, 1) := by decide +kernel
theorem dX9_patrol_3 : decode cX9_patrol 3 = .ok (.invokevirtual 129, 3) := by decide +kernel
theorem dX9_patrol_6 : decode cX9_patrol 6 = .ok (.invokevirtual 104, 3) := by decide +kernel
theorem dX9_patrol_9 : decode cX9_patrol 9 = .ok (.ifCond .ne 5, 3) := by decide +kernel
theorem dX9_patrol_12 : decode cX9_patrol 12 = .ok (.iconst 0, 1) := by decide +kernel
theorem dX9_patrol_13 : decode cX9_patrol 13 = .ok (.ireturn, 1) := by decide +kernel
theorem dX9_patrol_14 : decode cX9_patrol 14 = .ok (.iload_n 2, 1) := by decide +kernel
theorem dX9_patrol_15 : decode cX9_patrol 15 = .ok (.iconst 0, 1) := by decide +kernel
theorem dX9_patrol_16 : decode cX9_patrol 16 = .ok (.iconst 3, 1) := by decide +kernel
theorem dX9_patrol_17 : decode cX9_patrol 17 = .ok (.invokestatic 93, 3) := by decide +kernel
theorem dX9_patrol_20 : decode cX9_patrol 20 = .ok (.ifCond .ne 9, 3) := by decide +kernel
theorem dX9_patrol_23 : decode cX9_patrol 23 = .ok (.aload_n 0, 1) := by decide +kernel
theorem dX9_patrol_24 : decode cX9_patrol 24 = .ok (.iconst 2, 1) := by decide +kernel
theorem dX9_patrol_25 : decode cX9_patrol 25 = .ok (.invokevirtual 108, 3) := by decide +kernel
theorem dX9_patrol_28 : decode cX9_patrol 28 = .ok (.ireturn, 1) := by decide +kernel
theorem dX9_patrol_29 : decode cX9_patrol 29 = .ok (.aload_n 0, 1) := by decide +kernel
theorem dX9_patrol_30 : decode cX9_patrol 30 = .ok (.getfield 22, 3) := by decide +kernel
theorem dX9_patrol_33 : decode cX9_patrol 33 = .ok (.iload_n 1, 1) := by decide +kernel
theorem dX9_patrol_34 : decode cX9_patrol 34 = .ok (.iaload, 1) := by decide +kernel
theorem dX9_patrol_35 : decode cX9_patrol 35 = .ok (.iconst (-1), 1) := by decide +kernel
theorem dX9_patrol_36 : decode cX9_patrol 36 = .ok (.if_icmp .ne 9, 3) := by decide +kernel
theorem dX9_patrol_39 : decode cX9_patrol 39 = .ok (.aload_n 0, 1) := by decide +kernel
theorem dX9_patrol_40 : decode cX9_patrol 40 = .ok (.iconst 3, 1) := by decide +kernel
theorem dX9_patrol_41 : decode cX9_patrol 41 = .ok (.invokevirtual 108, 3) := by decide +kernel
theorem dX9_patrol_44 : decode cX9_patrol 44 = .ok (.ireturn, 1) := by decide +kernel
theorem dX9_patrol_45 : decode cX9_patrol 45 = .ok (.aload_n 0, 1) := by decide +kernel
theorem dX9_patrol_46 : decode cX9_patrol 46 = .ok (.getfield 31, 3) := by decide +kernel
theorem dX9_patrol_49 : decode cX9_patrol 49 = .ok (.iload_n 1, 1) := by decide +kernel
theorem dX9_patrol_50 : decode cX9_patrol 50 = .ok (.iaload, 1) := by decide +kernel
theorem dX9_patrol_51 : decode cX9_patrol 51 = .ok (.istore_n 3, 1) := by decide +kernel
theorem dX9_patrol_52 : decode cX9_patrol 52 = .ok (.aload_n 0, 1) := by decide +kernel
theorem dX9_patrol_53 : decode cX9_patrol 53 = .ok (.getfield 31, 3) := by decide +kernel
theorem dX9_patrol_56 : decode cX9_patrol 56 = .ok (.iload_n 1, 1) := by decide +kernel
theorem dX9_patrol_57 : decode cX9_patrol 57 = .ok (.iload_n 2, 1) := by decide +kernel
theorem dX9_patrol_58 : decode cX9_patrol 58 = .ok (.iastore, 1) := by decide +kernel
theorem dX9_patrol_59 : decode cX9_patrol 59 = .ok (.iload_n 3, 1) := by decide +kernel
theorem dX9_patrol_60 : decode cX9_patrol 60 = .ok (.ireturn, 1) := by decide +kernel
theorem dX9_isDay_0 : decode cX9_isDay 0 = .ok (.iload_n 0, 1) := by decide +kernel
theorem dX9_isDay_1 : decode cX9_isDay 1 = .ok (.iconst 0, 1) := by decide +kernel
theorem dX9_isDay_2 : decode cX9_isDay 2 = .ok (.sipush 9999, 3) := by decide +kernel
theorem dX9_isDay_5 : decode cX9_isDay 5 = .ok (.invokestatic 93, 3) := by decide +kernel
theorem dX9_isDay_8 : decode cX9_isDay 8 = .ok (.ireturn, 1) := by decide +kernel
theorem dX9_duty_0 : decode cX9_duty 0 = .ok (.aload_n 0, 1) := by decide +kernel
theorem dX9_duty_1 : decode cX9_duty 1 = .ok (.aload_n 0, 1) := by decide +kernel
theorem dX9_duty_2 : decode cX9_duty 2 = .ok (.iload_n 1, 1) := by decide +kernel
theorem dX9_duty_3 : decode cX9_duty 3 = .ok (.invokevirtual 133, 3) := by decide +kernel
theorem dX9_duty_6 : decode cX9_duty 6 = .ok (.invokevirtual 104, 3) := by decide +kernel
theorem dX9_duty_9 : decode cX9_duty 9 = .ok (.ifCond .ne 5, 3) := by decide +kernel
theorem dX9_duty_12 : decode cX9_duty 12 = .ok (.iconst 0, 1) := by decide +kernel
theorem dX9_duty_13 : decode cX9_duty 13 = .ok (.ireturn, 1) := by decide +kernel
theorem dX9_duty_14 : decode cX9_duty 14 = .ok (.iload_n 2, 1) := by decide +kernel
theorem dX9_duty_15 : decode cX9_duty 15 = .ok (.invokestatic 150, 3) := by decide +kernel
theorem dX9_duty_18 : decode cX9_duty 18 = .ok (.ifCond .ne 9, 3) := by decide +kernel
theorem dX9_duty_21 : decode cX9_duty 21 = .ok (.aload_n 0, 1) := by decide +kernel
theorem dX9_duty_22 : decode cX9_duty 22 = .ok (.iconst 2, 1) := by decide +kernel
theorem dX9_duty_23 : decode cX9_duty 23 = .ok (.invokevirtual 108, 3) := by decide +kernel
theorem dX9_duty_26 : decode cX9_duty 26 = .ok (.ireturn, 1) := by decide +kernel
theorem dX9_duty_27 : decode cX9_duty 27 = .ok (.iconst 0, 1) := by decide +kernel
theorem dX9_duty_28 : decode cX9_duty 28 = .ok (.istore_n 3, 1) := by decide +kernel
theorem dX9_duty_29 : decode cX9_duty 29 = .ok (.iconst 0, 1) := by decide +kernel
theorem dX9_duty_30 : decode cX9_duty 30 = .ok (.istore 4, 2) := by decide +kernel
theorem dX9_duty_32 : decode cX9_duty 32 = .ok (.iload 4, 2) := by decide +kernel
theorem dX9_duty_34 : decode cX9_duty 34 = .ok (.iconst 4, 1) := by decide +kernel
theorem dX9_duty_35 : decode cX9_duty 35 = .ok (.if_icmp .ge 27, 3) := by decide +kernel
theorem dX9_duty_38 : decode cX9_duty 38 = .ok (.iload_n 3, 1) := by decide +kernel
theorem dX9_duty_39 : decode cX9_duty 39 = .ok (.aload_n 0, 1) := by decide +kernel
theorem dX9_duty_40 : decode cX9_duty 40 = .ok (.iload_n 1, 1) := by decide +kernel
theorem dX9_duty_41 : decode cX9_duty 41 = .ok (.iload 4, 2) := by decide +kernel
theorem dX9_duty_43 : decode cX9_duty 43 = .ok (.invokevirtual 112, 3) := by decide +kernel
theorem dX9_duty_46 : decode cX9_duty 46 = .ok (.ifCond .le 7, 3) := by decide +kernel
theorem dX9_duty_49 : decode cX9_duty 49 = .ok (.iconst 1, 1) := by decide +kernel
theorem dX9_duty_50 : decode cX9_duty 50 = .ok (.goto 4, 3) := by decide +kernel
theorem dX9_duty_53 : decode cX9_duty 53 = .ok (.iconst 0, 1) := by decide +kernel
theorem dX9_duty_54 : decode cX9_duty 54 = .ok (.iadd, 1) := by decide +kernel
theorem dX9_duty_55 : decode cX9_duty 55 = .ok (.istore_n 3, 1) := by decide +kernel
theorem dX9_duty_56 : decode cX9_duty 56 = .ok (.iinc 4 1, 3) := by decide +kernel
theorem dX9_duty_59 : decode cX9_duty 59 = .ok (.goto (-27), 3) := by decide +kernel
theorem dX9_duty_62 : decode cX9_duty 62 = .ok (.iload_n 3, 1) := by decide +kernel
theorem dX9_duty_63 : decode cX9_duty 63 = .ok (.ifCond .ne 7, 3) := by decide +kernel
theorem dX9_duty_66 : decode cX9_duty 66 = .ok (.iconst 0, 1) := by decide +kernel
theorem dX9_duty_67 : decode cX9_duty 67 = .ok (.goto 6, 3) := by decide +kernel
theorem dX9_duty_70 : decode cX9_duty 70 = .ok (.iload_n 2, 1) := by decide +kernel
theorem dX9_duty_71 : decode cX9_duty 71 = .ok (.iload_n 3, 1) := by decide +kernel
theorem dX9_duty_72 : decode cX9_duty 72 = .ok (.irem, 1) := by decide +kernel
theorem dX9_duty_73 : decode cX9_duty 73 = .ok (.istore 4, 2) := by decide +kernel
theorem dX9_duty_75 : decode cX9_duty 75 = .ok (.iconst (-1), 1) := by decide +kernel
theorem dX9_duty_76 : decode cX9_duty 76 = .ok (.istore 5, 2) := by decide +kernel
theorem dX9_duty_78 : decode cX9_duty 78 = .ok (.iconst 0, 1) := by decide +kernel
theorem dX9_duty_79 : decode cX9_duty 79 = .ok (.istore 6, 2) := by decide +kernel
theorem dX9_duty_81 : decode cX9_duty 81 = .ok (.iload 6, 2) := by decide +kernel
theorem dX9_duty_83 : decode cX9_duty 83 = .ok (.iconst 4, 1) := by decide +kernel
theorem dX9_duty_84 : decode cX9_duty 84 = .ok (.if_icmp .ge 60, 3) := by decide +kernel
theorem dX9_duty_87 : decode cX9_duty 87 = .ok (.aload_n 0, 1) := by decide +kernel
theorem dX9_duty_88 : decode cX9_duty 88 = .ok (.iload_n 1, 1) := by decide +kernel
theorem dX9_duty_89 : decode cX9_duty 89 = .ok (.iload 6, 2) := by decide +kernel
theorem dX9_duty_91 : decode cX9_duty 91 = .ok (.invokevirtual 112, 3) := by decide +kernel
theorem dX9_duty_94 : decode cX9_duty 94 = .ok (.ifCond .le 7, 3) := by decide +kernel
theorem dX9_duty_97 : decode cX9_duty 97 = .ok (.iconst 1, 1) := by decide +kernel
theorem dX9_duty_98 : decode cX9_duty 98 = .ok (.goto 4, 3) := by decide +kernel
theorem dX9_duty_101 : decode cX9_duty 101 = .ok (.iconst 0, 1) := by decide +kernel
theorem dX9_duty_102 : decode cX9_duty 102 = .ok (.istore 7, 2) := by decide +kernel
theorem dX9_duty_104 : decode cX9_duty 104 = .ok (.iload 7, 2) := by decide +kernel
theorem dX9_duty_106 : decode cX9_duty 106 = .ok (.ifCond .eq 13, 3) := by decide +kernel
theorem dX9_duty_109 : decode cX9_duty 109 = .ok (.iload 4, 2) := by decide +kernel
theorem dX9_duty_111 : decode cX9_duty 111 = .ok (.ifCond .ne 8, 3) := by decide +kernel
theorem dX9_duty_114 : decode cX9_duty 114 = .ok (.iload 6, 2) := by decide +kernel
theorem dX9_duty_116 : decode cX9_duty 116 = .ok (.goto 5, 3) := by decide +kernel
theorem dX9_duty_119 : decode cX9_duty 119 = .ok (.iload 5, 2) := by decide +kernel
theorem dX9_duty_121 : decode cX9_duty 121 = .ok (.istore 5, 2) := by decide +kernel
theorem dX9_duty_123 : decode cX9_duty 123 = .ok (.iload 4, 2) := by decide +kernel
theorem dX9_duty_125 : decode cX9_duty 125 = .ok (.iload 7, 2) := by decide +kernel
theorem dX9_duty_127 : decode cX9_duty 127 = .ok (.ifCond .eq 7, 3) := by decide +kernel
theorem dX9_duty_130 : decode cX9_duty 130 = .ok (.iconst 1, 1) := by decide +kernel
theorem dX9_duty_131 : decode cX9_duty 131 = .ok (.goto 4, 3) := by decide +kernel
theorem dX9_duty_134 : decode cX9_duty 134 = .ok (.iconst 0, 1) := by decide +kernel
theorem dX9_duty_135 : decode cX9_duty 135 = .ok (.isub, 1) := by decide +kernel
theorem dX9_duty_136 : decode cX9_duty 136 = .ok (.istore 4, 2) := by decide +kernel
theorem dX9_duty_138 : decode cX9_duty 138 = .ok (.iinc 6 1, 3) := by decide +kernel
theorem dX9_duty_141 : decode cX9_duty 141 = .ok (.goto (-60), 3) := by decide +kernel
theorem dX9_duty_144 : decode cX9_duty 144 = .ok (.iload 5, 2) := by decide +kernel
theorem dX9_duty_146 : decode cX9_duty 146 = .ok (.ireturn, 1) := by decide +kernel
theorem dX9_pass_0 : decode cX9_pass 0 = .ok (.aload_n 0, 1) := by decide +kernel
theorem dX9_pass_1 : decode cX9_pass 1 = .ok (.iload_n 1, 1) := by decide +kernel
theorem dX9_pass_2 : decode cX9_pass 2 = .ok (.iconst 1, 1) := by decide +kernel
theorem dX9_pass_3 : decode cX9_pass 3 = .ok (.sipush 400, 3) := by decide +kernel
theorem dX9_pass_6 : decode cX9_pass 6 = .ok (.invokestatic 93, 3) := by decide +kernel
theorem dX9_pass_9 : decode cX9_pass 9 = .ok (.invokevirtual 104, 3) := by decide +kernel
theorem dX9_pass_12 : decode cX9_pass 12 = .ok (.ifCond .ne 5, 3) := by decide +kernel
theorem dX9_pass_15 : decode cX9_pass 15 = .ok (.iconst 0, 1) := by decide +kernel
theorem dX9_pass_16 : decode cX9_pass 16 = .ok (.ireturn, 1) := by decide +kernel
theorem dX9_pass_17 : decode cX9_pass 17 = .ok (.aload_n 0, 1) := by decide +kernel
theorem dX9_pass_18 : decode cX9_pass 18 = .ok (.getfield 153, 3) := by decide +kernel
theorem dX9_pass_21 : decode cX9_pass 21 = .ok (.iload_n 1, 1) := by decide +kernel
theorem dX9_pass_22 : decode cX9_pass 22 = .ok (.iadd, 1) := by decide +kernel
theorem dX9_pass_23 : decode cX9_pass 23 = .ok (.sipush 9999, 3) := by decide +kernel
theorem dX9_pass_26 : decode cX9_pass 26 = .ok (.if_icmp .le 9, 3) := by decide +kernel
theorem dX9_pass_29 : decode cX9_pass 29 = .ok (.aload_n 0, 1) := by decide +kernel
theorem dX9_pass_30 : decode cX9_pass 30 = .ok (.iconst 2, 1) := by decide +kernel
theorem dX9_pass_31 : decode cX9_pass 31 = .ok (.invokevirtual 108, 3) := by decide +kernel
theorem dX9_pass_34 : decode cX9_pass 34 = .ok (.ireturn, 1) := by decide +kernel
theorem dX9_pass_35 : decode cX9_pass 35 = .ok (.aload_n 0, 1) := by decide +kernel
theorem dX9_pass_36 : decode cX9_pass 36 = .ok (.dup, 1) := by decide +kernel
theorem dX9_pass_37 : decode cX9_pass 37 = .ok (.getfield 153, 3) := by decide +kernel
theorem dX9_pass_40 : decode cX9_pass 40 = .ok (.iload_n 1, 1) := by decide +kernel
theorem dX9_pass_41 : decode cX9_pass 41 = .ok (.iadd, 1) := by decide +kernel
theorem dX9_pass_42 : decode cX9_pass 42 = .ok (.putfield 153, 3) := by decide +kernel
theorem dX9_pass_45 : decode cX9_pass 45 = .ok (.aload_n 0, 1) := by decide +kernel
theorem dX9_pass_46 : decode cX9_pass 46 = .ok (.getfield 153, 3) := by decide +kernel
theorem dX9_pass_49 : decode cX9_pass 49 = .ok (.ireturn, 1) := by decide +kernel
theorem dX9_joinsLowest_0 : decode cX9_joinsLowest 0 = .ok (.iconst (-1), 1) := by decide +kernel
theorem dX9_joinsLowest_1 : decode cX9_joinsLowest 1 = .ok (.istore_n 2, 1) := by decide +kernel
theorem dX9_joinsLowest_2 : decode cX9_joinsLowest 2 = .ok (.aload_n 0, 1) := by decide +kernel
theorem dX9_joinsLowest_3 : decode cX9_joinsLowest 3 = .ok (.getfield 90, 3) := by decide +kernel
theorem dX9_joinsLowest_6 : decode cX9_joinsLowest 6 = .ok (.iconst 1, 1) := by decide +kernel
theorem dX9_joinsLowest_7 : decode cX9_joinsLowest 7 = .ok (.isub, 1) := by decide +kernel
theorem dX9_joinsLowest_8 : decode cX9_joinsLowest 8 = .ok (.istore_n 3, 1) := by decide +kernel
theorem dX9_joinsLowest_9 : decode cX9_joinsLowest 9 = .ok (.iload_n 3, 1) := by decide +kernel
theorem dX9_joinsLowest_10 : decode cX9_joinsLowest 10 = .ok (.ifCond .lt 24, 3) := by decide +kernel
theorem dX9_joinsLowest_13 : decode cX9_joinsLowest 13 = .ok (.aload_n 0, 1) := by decide +kernel
theorem dX9_joinsLowest_14 : decode cX9_joinsLowest 14 = .ok (.iload_n 3, 1) := by decide +kernel
theorem dX9_joinsLowest_15 : decode cX9_joinsLowest 15 = .ok (.iload_n 1, 1) := by decide +kernel
theorem dX9_joinsLowest_16 : decode cX9_joinsLowest 16 = .ok (.invokevirtual 136, 3) := by decide +kernel
theorem dX9_joinsLowest_19 : decode cX9_joinsLowest 19 = .ok (.ifCond .eq 7, 3) := by decide +kernel
theorem dX9_joinsLowest_22 : decode cX9_joinsLowest 22 = .ok (.iload_n 3, 1) := by decide +kernel
theorem dX9_joinsLowest_23 : decode cX9_joinsLowest 23 = .ok (.goto 4, 3) := by decide +kernel
theorem dX9_joinsLowest_26 : decode cX9_joinsLowest 26 = .ok (.iload_n 2, 1) := by decide +kernel
theorem dX9_joinsLowest_27 : decode cX9_joinsLowest 27 = .ok (.istore_n 2, 1) := by decide +kernel
theorem dX9_joinsLowest_28 : decode cX9_joinsLowest 28 = .ok (.iinc 3 (-1), 3) := by decide +kernel
theorem dX9_joinsLowest_31 : decode cX9_joinsLowest 31 = .ok (.goto (-22), 3) := by decide +kernel
theorem dX9_joinsLowest_34 : decode cX9_joinsLowest 34 = .ok (.iload_n 2, 1) := by decide +kernel
theorem dX9_joinsLowest_35 : decode cX9_joinsLowest 35 = .ok (.iconst (-1), 1) := by decide +kernel
theorem dX9_joinsLowest_36 : decode cX9_joinsLowest 36 = .ok (.if_icmp .eq 10, 3) := by decide +kernel
theorem dX9_joinsLowest_39 : decode cX9_joinsLowest 39 = .ok (.aload_n 0, 1) := by decide +kernel
theorem dX9_joinsLowest_40 : decode cX9_joinsLowest 40 = .ok (.iload_n 1, 1) := by decide +kernel
theorem dX9_joinsLowest_41 : decode cX9_joinsLowest 41 = .ok (.iload_n 2, 1) := by decide +kernel
theorem dX9_joinsLowest_42 : decode cX9_joinsLowest 42 = .ok (.invokevirtual 140, 3) := by decide +kernel
theorem dX9_joinsLowest_45 : decode cX9_joinsLowest 45 = .ok (.pop, 1) := by decide +kernel
theorem dX9_joinsLowest_46 : decode cX9_joinsLowest 46 = .ok (.return_, 1) := by decide +kernel
theorem dX9_season_0 : decode cX9_season 0 = .ok (.aload_n 0, 1) := by decide +kernel
theorem dX9_season_1 : decode cX9_season 1 = .ok (.iconst 0, 1) := by decide +kernel
theorem dX9_season_2 : decode cX9_season 2 = .ok (.putfield 86, 3) := by decide +kernel
theorem dX9_season_5 : decode cX9_season 5 = .ok (.iconst 0, 1) := by decide +kernel
theorem dX9_season_6 : decode cX9_season 6 = .ok (.istore_n 1, 1) := by decide +kernel
theorem dX9_season_7 : decode cX9_season 7 = .ok (.iconst 0, 1) := by decide +kernel
theorem dX9_season_8 : decode cX9_season 8 = .ok (.istore_n 2, 1) := by decide +kernel
theorem dX9_season_9 : decode cX9_season 9 = .ok (.iload_n 2, 1) := by decide +kernel
theorem dX9_season_10 : decode cX9_season 10 = .ok (.aload_n 0, 1) := by decide +kernel
theorem dX9_season_11 : decode cX9_season 11 = .ok (.getfield 97, 3) := by decide +kernel
theorem dX9_season_14 : decode cX9_season 14 = .ok (.if_icmp .ge 102, 3) := by decide +kernel
theorem dX9_season_17 : decode cX9_season 17 = .ok (.aload_n 0, 1) := by decide +kernel
theorem dX9_season_18 : decode cX9_season 18 = .ok (.getfield 19, 3) := by decide +kernel
theorem dX9_season_21 : decode cX9_season 21 = .ok (.iload_n 2, 1) := by decide +kernel
theorem dX9_season_22 : decode cX9_season 22 = .ok (.dup2, 1) := by decide +kernel
theorem dX9_season_23 : decode cX9_season 23 = .ok (.iaload, 1) := by decide +kernel
theorem dX9_season_24 : decode cX9_season 24 = .ok (.iconst 1, 1) := by decide +kernel
theorem dX9_season_25 : decode cX9_season 25 = .ok (.iadd, 1) := by decide +kernel
theorem dX9_season_26 : decode cX9_season 26 = .ok (.iastore, 1) := by decide +kernel
theorem dX9_season_27 : decode cX9_season 27 = .ok (.aload_n 0, 1) := by decide +kernel
theorem dX9_season_28 : decode cX9_season 28 = .ok (.getfield 43, 3) := by decide +kernel
theorem dX9_season_31 : decode cX9_season 31 = .ok (.iload_n 2, 1) := by decide +kernel
theorem dX9_season_32 : decode cX9_season 32 = .ok (.aload_n 0, 1) := by decide +kernel
theorem dX9_season_33 : decode cX9_season 33 = .ok (.getfield 22, 3) := by decide +kernel
theorem dX9_season_36 : decode cX9_season 36 = .ok (.iload_n 2, 1) := by decide +kernel
theorem dX9_season_37 : decode cX9_season 37 = .ok (.iaload, 1) := by decide +kernel
theorem dX9_season_38 : decode cX9_season 38 = .ok (.iconst (-1), 1) := by decide +kernel
theorem dX9_season_39 : decode cX9_season 39 = .ok (.if_icmp .eq 21, 3) := by decide +kernel
theorem dX9_season_42 : decode cX9_season 42 = .ok (.aload_n 0, 1) := by decide +kernel
theorem dX9_season_43 : decode cX9_season 43 = .ok (.aload_n 0, 1) := by decide +kernel
theorem dX9_season_44 : decode cX9_season 44 = .ok (.getfield 22, 3) := by decide +kernel
theorem dX9_season_47 : decode cX9_season 47 = .ok (.iload_n 2, 1) := by decide +kernel
theorem dX9_season_48 : decode cX9_season 48 = .ok (.iaload, 1) := by decide +kernel
theorem dX9_season_49 : decode cX9_season 49 = .ok (.iload_n 2, 1) := by decide +kernel
theorem dX9_season_50 : decode cX9_season 50 = .ok (.invokevirtual 136, 3) := by decide +kernel
theorem dX9_season_53 : decode cX9_season 53 = .ok (.ifCond .ne 7, 3) := by decide +kernel
theorem dX9_season_56 : decode cX9_season 56 = .ok (.iconst 1, 1) := by decide +kernel
theorem dX9_season_57 : decode cX9_season 57 = .ok (.goto 4, 3) := by decide +kernel
theorem dX9_season_60 : decode cX9_season 60 = .ok (.iconst 0, 1) := by decide +kernel
theorem dX9_season_61 : decode cX9_season 61 = .ok (.bastore, 1) := by decide +kernel
theorem dX9_season_62 : decode cX9_season 62 = .ok (.aload_n 0, 1) := by decide +kernel
theorem dX9_season_63 : decode cX9_season 63 = .ok (.getfield 43, 3) := by decide +kernel
theorem dX9_season_66 : decode cX9_season 66 = .ok (.iload_n 2, 1) := by decide +kernel
theorem dX9_season_67 : decode cX9_season 67 = .ok (.baload, 1) := by decide +kernel
theorem dX9_season_68 : decode cX9_season 68 = .ok (.ifCond .eq 11, 3) := by decide +kernel
theorem dX9_season_71 : decode cX9_season 71 = .ok (.aload_n 0, 1) := by decide +kernel
theorem dX9_season_72 : decode cX9_season 72 = .ok (.iload_n 2, 1) := by decide +kernel
theorem dX9_season_73 : decode cX9_season 73 = .ok (.invokevirtual 143, 3) := by decide +kernel
theorem dX9_season_76 : decode cX9_season 76 = .ok (.iinc 1 1, 3) := by decide +kernel
theorem dX9_season_79 : decode cX9_season 79 = .ok (.aload_n 0, 1) := by decide +kernel
theorem dX9_season_80 : decode cX9_season 80 = .ok (.getfield 25, 3) := by decide +kernel
theorem dX9_season_83 : decode cX9_season 83 = .ok (.iload_n 2, 1) := by decide +kernel
theorem dX9_season_84 : decode cX9_season 84 = .ok (.iaload, 1) := by decide +kernel
theorem dX9_season_85 : decode cX9_season 85 = .ok (.iconst (-1), 1) := by decide +kernel
theorem dX9_season_86 : decode cX9_season 86 = .ok (.if_icmp .eq 24, 3) := by decide +kernel
theorem dX9_season_89 : decode cX9_season 89 = .ok (.aload_n 0, 1) := by decide +kernel
theorem dX9_season_90 : decode cX9_season 90 = .ok (.aload_n 0, 1) := by decide +kernel
theorem dX9_season_91 : decode cX9_season 91 = .ok (.getfield 25, 3) := by decide +kernel
theorem dX9_season_94 : decode cX9_season 94 = .ok (.iload_n 2, 1) := by decide +kernel
theorem dX9_season_95 : decode cX9_season 95 = .ok (.iaload, 1) := by decide +kernel
theorem dX9_season_96 : decode cX9_season 96 = .ok (.iload_n 2, 1) := by decide +kernel
theorem dX9_season_97 : decode cX9_season 97 = .ok (.invokevirtual 136, 3) := by decide +kernel
theorem dX9_season_100 : decode cX9_season 100 = .ok (.ifCond .ne 10, 3) := by decide +kernel
theorem dX9_season_103 : decode cX9_season 103 = .ok (.aload_n 0, 1) := by decide +kernel
theorem dX9_season_104 : decode cX9_season 104 = .ok (.getfield 25, 3) := by decide +kernel
theorem dX9_season_107 : decode cX9_season 107 = .ok (.iload_n 2, 1) := by decide +kernel
theorem dX9_season_108 : decode cX9_season 108 = .ok (.iconst (-1), 1) := by decide +kernel
theorem dX9_season_109 : decode cX9_season 109 = .ok (.iastore, 1) := by decide +kernel
theorem dX9_season_110 : decode cX9_season 110 = .ok (.iinc 2 1, 3) := by decide +kernel
theorem dX9_season_113 : decode cX9_season 113 = .ok (.goto (-104), 3) := by decide +kernel
theorem dX9_season_116 : decode cX9_season 116 = .ok (.iconst 0, 1) := by decide +kernel
theorem dX9_season_117 : decode cX9_season 117 = .ok (.istore_n 2, 1) := by decide +kernel
theorem dX9_season_118 : decode cX9_season 118 = .ok (.iload_n 2, 1) := by decide +kernel
theorem dX9_season_119 : decode cX9_season 119 = .ok (.aload_n 0, 1) := by decide +kernel
theorem dX9_season_120 : decode cX9_season 120 = .ok (.getfield 90, 3) := by decide +kernel
theorem dX9_season_123 : decode cX9_season 123 = .ok (.if_icmp .ge 45, 3) := by decide +kernel
theorem dX9_season_126 : decode cX9_season 126 = .ok (.aload_n 0, 1) := by decide +kernel
theorem dX9_season_127 : decode cX9_season 127 = .ok (.iload_n 2, 1) := by decide +kernel
theorem dX9_season_128 : decode cX9_season 128 = .ok (.invokevirtual 116, 3) := by decide +kernel
theorem dX9_season_131 : decode cX9_season 131 = .ok (.aload_n 0, 1) := by decide +kernel
theorem dX9_season_132 : decode cX9_season 132 = .ok (.getfield 16, 3) := by decide +kernel
theorem dX9_season_135 : decode cX9_season 135 = .ok (.iload_n 2, 1) := by decide +kernel
theorem dX9_season_136 : decode cX9_season 136 = .ok (.iaload, 1) := by decide +kernel
theorem dX9_season_137 : decode cX9_season 137 = .ok (.if_icmp .ge 25, 3) := by decide +kernel
theorem dX9_season_140 : decode cX9_season 140 = .ok (.aload_n 0, 1) := by decide +kernel
theorem dX9_season_141 : decode cX9_season 141 = .ok (.iload_n 2, 1) := by decide +kernel
theorem dX9_season_142 : decode cX9_season 142 = .ok (.invokevirtual 147, 3) := by decide +kernel
theorem dX9_season_145 : decode cX9_season 145 = .ok (.iconst (-1), 1) := by decide +kernel
theorem dX9_season_146 : decode cX9_season 146 = .ok (.if_icmp .eq 16, 3) := by decide +kernel
theorem dX9_season_149 : decode cX9_season 149 = .ok (.aload_n 0, 1) := by decide +kernel
theorem dX9_season_150 : decode cX9_season 150 = .ok (.aload_n 0, 1) := by decide +kernel
theorem dX9_season_151 : decode cX9_season 151 = .ok (.iload_n 2, 1) := by decide +kernel
theorem dX9_season_152 : decode cX9_season 152 = .ok (.invokevirtual 147, 3) := by decide +kernel
theorem dX9_season_155 : decode cX9_season 155 = .ok (.iload_n 2, 1) := by decide +kernel
theorem dX9_season_156 : decode cX9_season 156 = .ok (.invokevirtual 119, 3) := by decide +kernel
theorem dX9_season_159 : decode cX9_season 159 = .ok (.goto (-33), 3) := by decide +kernel
theorem dX9_season_162 : decode cX9_season 162 = .ok (.iinc 2 1, 3) := by decide +kernel
theorem dX9_season_165 : decode cX9_season 165 = .ok (.goto (-47), 3) := by decide +kernel
theorem dX9_season_168 : decode cX9_season 168 = .ok (.iconst 0, 1) := by decide +kernel
theorem dX9_season_169 : decode cX9_season 169 = .ok (.istore_n 2, 1) := by decide +kernel
theorem dX9_season_170 : decode cX9_season 170 = .ok (.iload_n 2, 1) := by decide +kernel
theorem dX9_season_171 : decode cX9_season 171 = .ok (.aload_n 0, 1) := by decide +kernel
theorem dX9_season_172 : decode cX9_season 172 = .ok (.getfield 97, 3) := by decide +kernel
theorem dX9_season_175 : decode cX9_season 175 = .ok (.if_icmp .ge 23, 3) := by decide +kernel
theorem dX9_season_178 : decode cX9_season 178 = .ok (.aload_n 0, 1) := by decide +kernel
theorem dX9_season_179 : decode cX9_season 179 = .ok (.getfield 43, 3) := by decide +kernel
theorem dX9_season_182 : decode cX9_season 182 = .ok (.iload_n 2, 1) := by decide +kernel
theorem dX9_season_183 : decode cX9_season 183 = .ok (.baload, 1) := by decide +kernel
theorem dX9_season_184 : decode cX9_season 184 = .ok (.ifCond .eq 8, 3) := by decide +kernel
theorem dX9_season_187 : decode cX9_season 187 = .ok (.aload_n 0, 1) := by decide +kernel
theorem dX9_season_188 : decode cX9_season 188 = .ok (.iload_n 2, 1) := by decide +kernel
theorem dX9_season_189 : decode cX9_season 189 = .ok (.invokevirtual 156, 3) := by decide +kernel
theorem dX9_season_192 : decode cX9_season 192 = .ok (.iinc 2 1, 3) := by decide +kernel
theorem dX9_season_195 : decode cX9_season 195 = .ok (.goto (-25), 3) := by decide +kernel
theorem dX9_season_198 : decode cX9_season 198 = .ok (.iload_n 1, 1) := by decide +kernel
theorem dX9_season_199 : decode cX9_season 199 = .ok (.ireturn, 1) := by decide +kernel
theorem dX9_leader_0 : decode cX9_leader 0 = .ok (.aload_n 0, 1) := by decide +kernel
theorem dX9_leader_1 : decode cX9_leader 1 = .ok (.aload_n 0, 1) := by decide +kernel
theorem dX9_leader_2 : decode cX9_leader 2 = .ok (.getfield 100, 3) := by decide +kernel
theorem dX9_leader_5 : decode cX9_leader 5 = .ok (.bipush 8, 2) := by decide +kernel
theorem dX9_leader_7 : decode cX9_leader 7 = .ok (.if_icmp .ge 7, 3) := by decide +kernel
theorem dX9_leader_10 : decode cX9_leader 10 = .ok (.iconst 1, 1) := by decide +kernel
theorem dX9_leader_11 : decode cX9_leader 11 = .ok (.goto 4, 3) := by decide +kernel
theorem dX9_leader_14 : decode cX9_leader 14 = .ok (.iconst 0, 1) := by decide +kernel
theorem dX9_leader_15 : decode cX9_leader 15 = .ok (.invokevirtual 104, 3) := by decide +kernel
theorem dX9_leader_18 : decode cX9_leader 18 = .ok (.ifCond .ne 5, 3) := by decide +kernel
theorem dX9_leader_21 : decode cX9_leader 21 = .ok (.iconst 0, 1) := by decide +kernel
theorem dX9_leader_22 : decode cX9_leader 22 = .ok (.ireturn, 1) := by decide +kernel
theorem dX9_leader_23 : decode cX9_leader 23 = .ok (.aload_n 0, 1) := by decide +kernel
theorem dX9_leader_24 : decode cX9_leader 24 = .ok (.dup, 1) := by decide +kernel
theorem dX9_leader_25 : decode cX9_leader 25 = .ok (.getfield 100, 3) := by decide +kernel
theorem dX9_leader_28 : decode cX9_leader 28 = .ok (.iconst 1, 1) := by decide +kernel
theorem dX9_leader_29 : decode cX9_leader 29 = .ok (.iadd, 1) := by decide +kernel
theorem dX9_leader_30 : decode cX9_leader 30 = .ok (.putfield 100, 3) := by decide +kernel
theorem dX9_leader_33 : decode cX9_leader 33 = .ok (.aload_n 0, 1) := by decide +kernel
theorem dX9_leader_34 : decode cX9_leader 34 = .ok (.getfield 100, 3) := by decide +kernel
theorem dX9_leader_37 : decode cX9_leader 37 = .ok (.iconst 1, 1) := by decide +kernel
theorem dX9_leader_38 : decode cX9_leader 38 = .ok (.isub, 1) := by decide +kernel
theorem dX9_leader_39 : decode cX9_leader 39 = .ok (.ireturn, 1) := by decide +kernel
theorem dX9_isLand_0 : decode cX9_isLand 0 = .ok (.iload_n 0, 1) := by decide +kernel
theorem dX9_isLand_1 : decode cX9_isLand 1 = .ok (.iconst 0, 1) := by decide +kernel
theorem dX9_isLand_2 : decode cX9_isLand 2 = .ok (.iconst 2, 1) := by decide +kernel
theorem dX9_isLand_3 : decode cX9_isLand 3 = .ok (.invokestatic 93, 3) := by decide +kernel
theorem dX9_isLand_6 : decode cX9_isLand 6 = .ok (.ireturn, 1) := by decide +kernel
theorem dX9_vet_0 : decode cX9_vet 0 = .ok (.aload_n 0, 1) := by decide +kernel
theorem dX9_vet_1 : decode cX9_vet 1 = .ok (.aload_n 0, 1) := by decide +kernel
theorem dX9_vet_2 : decode cX9_vet 2 = .ok (.iload_n 1, 1) := by decide +kernel
theorem dX9_vet_3 : decode cX9_vet 3 = .ok (.invokevirtual 159, 3) := by decide +kernel
theorem dX9_vet_6 : decode cX9_vet 6 = .ok (.ifCond .eq 14, 3) := by decide +kernel
theorem dX9_vet_9 : decode cX9_vet 9 = .ok (.iload_n 2, 1) := by decide +kernel
theorem dX9_vet_10 : decode cX9_vet 10 = .ok (.invokestatic 162, 3) := by decide +kernel
theorem dX9_vet_13 : decode cX9_vet 13 = .ok (.ifCond .eq 7, 3) := by decide +kernel
theorem dX9_vet_16 : decode cX9_vet 16 = .ok (.iconst 1, 1) := by decide +kernel
theorem dX9_vet_17 : decode cX9_vet 17 = .ok (.goto 4, 3) := by decide +kernel
theorem dX9_vet_20 : decode cX9_vet 20 = .ok (.iconst 0, 1) := by decide +kernel
theorem dX9_vet_21 : decode cX9_vet 21 = .ok (.invokevirtual 104, 3) := by decide +kernel
theorem dX9_vet_24 : decode cX9_vet 24 = .ok (.ifCond .ne 4, 3) := by decide +kernel
theorem dX9_vet_27 : decode cX9_vet 27 = .ok (.return_, 1) := by decide +kernel
theorem dX9_vet_28 : decode cX9_vet 28 = .ok (.iload_n 3, 1) := by decide +kernel
theorem dX9_vet_29 : decode cX9_vet 29 = .ok (.invokestatic 150, 3) := by decide +kernel
theorem dX9_vet_32 : decode cX9_vet 32 = .ok (.ifCond .eq 15, 3) := by decide +kernel
theorem dX9_vet_35 : decode cX9_vet 35 = .ok (.iload 4, 2) := by decide +kernel
theorem dX9_vet_37 : decode cX9_vet 37 = .ok (.iload_n 3, 1) := by decide +kernel
theorem dX9_vet_38 : decode cX9_vet 38 = .ok (.sipush 9999, 3) := by decide +kernel
theorem dX9_vet_41 : decode cX9_vet 41 = .ok (.invokestatic 93, 3) := by decide +kernel
theorem dX9_vet_44 : decode cX9_vet 44 = .ok (.ifCond .ne 9, 3) := by decide +kernel
theorem dX9_vet_47 : decode cX9_vet 47 = .ok (.aload_n 0, 1) := by decide +kernel
theorem dX9_vet_48 : decode cX9_vet 48 = .ok (.iconst 2, 1) := by decide +kernel
theorem dX9_vet_49 : decode cX9_vet 49 = .ok (.putfield 86, 3) := by decide +kernel
theorem dX9_vet_52 : decode cX9_vet 52 = .ok (.return_, 1) := by decide +kernel
theorem dX9_vet_53 : decode cX9_vet 53 = .ok (.aload_n 0, 1) := by decide +kernel
theorem dX9_vet_54 : decode cX9_vet 54 = .ok (.getfield 56, 3) := by decide +kernel
theorem dX9_vet_57 : decode cX9_vet 57 = .ok (.bipush 6, 2) := by decide +kernel
theorem dX9_vet_59 : decode cX9_vet 59 = .ok (.iload_n 1, 1) := by decide +kernel
theorem dX9_vet_60 : decode cX9_vet 60 = .ok (.imul, 1) := by decide +kernel
theorem dX9_vet_61 : decode cX9_vet 61 = .ok (.iconst 2, 1) := by decide +kernel
theorem dX9_vet_62 : decode cX9_vet 62 = .ok (.iload_n 2, 1) := by decide +kernel
theorem dX9_vet_63 : decode cX9_vet 63 = .ok (.imul, 1) := by decide +kernel
theorem dX9_vet_64 : decode cX9_vet 64 = .ok (.iadd, 1) := by decide +kernel
theorem dX9_vet_65 : decode cX9_vet 65 = .ok (.iload_n 3, 1) := by decide +kernel
theorem dX9_vet_66 : decode cX9_vet 66 = .ok (.iastore, 1) := by decide +kernel
theorem dX9_vet_67 : decode cX9_vet 67 = .ok (.aload_n 0, 1) := by decide +kernel
theorem dX9_vet_68 : decode cX9_vet 68 = .ok (.getfield 56, 3) := by decide +kernel
theorem dX9_vet_71 : decode cX9_vet 71 = .ok (.bipush 6, 2) := by decide +kernel
theorem dX9_vet_73 : decode cX9_vet 73 = .ok (.iload_n 1, 1) := by decide +kernel
theorem dX9_vet_74 : decode cX9_vet 74 = .ok (.imul, 1) := by decide +kernel
theorem dX9_vet_75 : decode cX9_vet 75 = .ok (.iconst 2, 1) := by decide +kernel
theorem dX9_vet_76 : decode cX9_vet 76 = .ok (.iload_n 2, 1) := by decide +kernel
theorem dX9_vet_77 : decode cX9_vet 77 = .ok (.imul, 1) := by decide +kernel
theorem dX9_vet_78 : decode cX9_vet 78 = .ok (.iadd, 1) := by decide +kernel
theorem dX9_vet_79 : decode cX9_vet 79 = .ok (.iconst 1, 1) := by decide +kernel
theorem dX9_vet_80 : decode cX9_vet 80 = .ok (.iadd, 1) := by decide +kernel
theorem dX9_vet_81 : decode cX9_vet 81 = .ok (.iload 4, 2) := by decide +kernel
theorem dX9_vet_83 : decode cX9_vet 83 = .ok (.iastore, 1) := by decide +kernel
theorem dX9_vet_84 : decode cX9_vet 84 = .ok (.return_, 1) := by decide +kernel
theorem dX9_isVetted_0 : decode cX9_isVetted 0 = .ok (.iload_n 3, 1) := by decide +kernel
theorem dX9_isVetted_1 : decode cX9_isVetted 1 = .ok (.aload_n 0, 1) := by decide +kernel
theorem dX9_isVetted_2 : decode cX9_isVetted 2 = .ok (.getfield 56, 3) := by decide +kernel
theorem dX9_isVetted_5 : decode cX9_isVetted 5 = .ok (.bipush 6, 2) := by decide +kernel
theorem dX9_isVetted_7 : decode cX9_isVetted 7 = .ok (.iload_n 1, 1) := by decide +kernel
theorem dX9_isVetted_8 : decode cX9_isVetted 8 = .ok (.imul, 1) := by decide +kernel
theorem dX9_isVetted_9 : decode cX9_isVetted 9 = .ok (.iconst 2, 1) := by decide +kernel
theorem dX9_isVetted_10 : decode cX9_isVetted 10 = .ok (.iload_n 2, 1) := by decide +kernel
theorem dX9_isVetted_11 : decode cX9_isVetted 11 = .ok (.imul, 1) := by decide +kernel
theorem dX9_isVetted_12 : decode cX9_isVetted 12 = .ok (.iadd, 1) := by decide +kernel
theorem dX9_isVetted_13 : decode cX9_isVetted 13 = .ok (.iaload, 1) := by decide +kernel
theorem dX9_isVetted_14 : decode cX9_isVetted 14 = .ok (.aload_n 0, 1) := by decide +kernel
theorem dX9_isVetted_15 : decode cX9_isVetted 15 = .ok (.getfield 56, 3) := by decide +kernel
theorem dX9_isVetted_18 : decode cX9_isVetted 18 = .ok (.bipush 6, 2) := by decide +kernel
theorem dX9_isVetted_20 : decode cX9_isVetted 20 = .ok (.iload_n 1, 1) := by decide +kernel
theorem dX9_isVetted_21 : decode cX9_isVetted 21 = .ok (.imul, 1) := by decide +kernel
theorem dX9_isVetted_22 : decode cX9_isVetted 22 = .ok (.iconst 2, 1) := by decide +kernel
theorem dX9_isVetted_23 : decode cX9_isVetted 23 = .ok (.iload_n 2, 1) := by decide +kernel
theorem dX9_isVetted_24 : decode cX9_isVetted 24 = .ok (.imul, 1) := by decide +kernel
theorem dX9_isVetted_25 : decode cX9_isVetted 25 = .ok (.iadd, 1) := by decide +kernel
theorem dX9_isVetted_26 : decode cX9_isVetted 26 = .ok (.iconst 1, 1) := by decide +kernel
theorem dX9_isVetted_27 : decode cX9_isVetted 27 = .ok (.iadd, 1) := by decide +kernel
theorem dX9_isVetted_28 : decode cX9_isVetted 28 = .ok (.iaload, 1) := by decide +kernel
theorem dX9_isVetted_29 : decode cX9_isVetted 29 = .ok (.invokestatic 93, 3) := by decide +kernel
theorem dX9_isVetted_32 : decode cX9_isVetted 32 = .ok (.ireturn, 1) := by decide +kernel
theorem dX9_permit_0 : decode cX9_permit 0 = .ok (.aload_n 0, 1) := by decide +kernel
theorem dX9_permit_1 : decode cX9_permit 1 = .ok (.aload_n 0, 1) := by decide +kernel
theorem dX9_permit_2 : decode cX9_permit 2 = .ok (.iload_n 1, 1) := by decide +kernel
theorem dX9_permit_3 : decode cX9_permit 3 = .ok (.invokevirtual 159, 3) := by decide +kernel
theorem dX9_permit_6 : decode cX9_permit 6 = .ok (.invokevirtual 104, 3) := by decide +kernel
theorem dX9_permit_9 : decode cX9_permit 9 = .ok (.ifCond .ne 5, 3) := by decide +kernel
theorem dX9_permit_12 : decode cX9_permit 12 = .ok (.iconst 0, 1) := by decide +kernel
theorem dX9_permit_13 : decode cX9_permit 13 = .ok (.ireturn, 1) := by decide +kernel
theorem dX9_permit_14 : decode cX9_permit 14 = .ok (.iload_n 2, 1) := by decide +kernel
theorem dX9_permit_15 : decode cX9_permit 15 = .ok (.iconst 1, 1) := by decide +kernel
theorem dX9_permit_16 : decode cX9_permit 16 = .ok (.iconst 3, 1) := by decide +kernel
theorem dX9_permit_17 : decode cX9_permit 17 = .ok (.invokestatic 93, 3) := by decide +kernel
theorem dX9_permit_20 : decode cX9_permit 20 = .ok (.ifCond .eq 14, 3) := by decide +kernel
theorem dX9_permit_23 : decode cX9_permit 23 = .ok (.iload_n 3, 1) := by decide +kernel
theorem dX9_permit_24 : decode cX9_permit 24 = .ok (.iconst (-1), 1) := by decide +kernel
theorem dX9_permit_25 : decode cX9_permit 25 = .ok (.sipush 9999, 3) := by decide +kernel
theorem dX9_permit_28 : decode cX9_permit 28 = .ok (.invokestatic 93, 3) := by decide +kernel
theorem dX9_permit_31 : decode cX9_permit 31 = .ok (.ifCond .ne 9, 3) := by decide +kernel
theorem dX9_permit_34 : decode cX9_permit 34 = .ok (.aload_n 0, 1) := by decide +kernel
theorem dX9_permit_35 : decode cX9_permit 35 = .ok (.iconst 2, 1) := by decide +kernel
theorem dX9_permit_36 : decode cX9_permit 36 = .ok (.invokevirtual 108, 3) := by decide +kernel
theorem dX9_permit_39 : decode cX9_permit 39 = .ok (.ireturn, 1) := by decide +kernel
theorem dX9_permit_40 : decode cX9_permit 40 = .ok (.aload_n 0, 1) := by decide +kernel
theorem dX9_permit_41 : decode cX9_permit 41 = .ok (.getfield 59, 3) := by decide +kernel
theorem dX9_permit_44 : decode cX9_permit 44 = .ok (.iconst 3, 1) := by decide +kernel
theorem dX9_permit_45 : decode cX9_permit 45 = .ok (.iload_n 1, 1) := by decide +kernel
theorem dX9_permit_46 : decode cX9_permit 46 = .ok (.imul, 1) := by decide +kernel
theorem dX9_permit_47 : decode cX9_permit 47 = .ok (.iload_n 2, 1) := by decide +kernel
theorem dX9_permit_48 : decode cX9_permit 48 = .ok (.iadd, 1) := by decide +kernel
theorem dX9_permit_49 : decode cX9_permit 49 = .ok (.iconst 1, 1) := by decide +kernel
theorem dX9_permit_50 : decode cX9_permit 50 = .ok (.isub, 1) := by decide +kernel
theorem dX9_permit_51 : decode cX9_permit 51 = .ok (.iaload, 1) := by decide +kernel
theorem dX9_permit_52 : decode cX9_permit 52 = .ok (.istore 4, 2) := by decide +kernel
theorem dX9_permit_54 : decode cX9_permit 54 = .ok (.aload_n 0, 1) := by decide +kernel
theorem dX9_permit_55 : decode cX9_permit 55 = .ok (.getfield 59, 3) := by decide +kernel
theorem dX9_permit_58 : decode cX9_permit 58 = .ok (.iconst 3, 1) := by decide +kernel
theorem dX9_permit_59 : decode cX9_permit 59 = .ok (.iload_n 1, 1) := by decide +kernel
theorem dX9_permit_60 : decode cX9_permit 60 = .ok (.imul, 1) := by decide +kernel
theorem dX9_permit_61 : decode cX9_permit 61 = .ok (.iload_n 2, 1) := by decide +kernel
theorem dX9_permit_62 : decode cX9_permit 62 = .ok (.iadd, 1) := by decide +kernel
theorem dX9_permit_63 : decode cX9_permit 63 = .ok (.iconst 1, 1) := by decide +kernel
theorem dX9_permit_64 : decode cX9_permit 64 = .ok (.isub, 1) := by decide +kernel
theorem dX9_permit_65 : decode cX9_permit 65 = .ok (.iload_n 3, 1) := by decide +kernel
theorem dX9_permit_66 : decode cX9_permit 66 = .ok (.iastore, 1) := by decide +kernel
theorem dX9_permit_67 : decode cX9_permit 67 = .ok (.iload 4, 2) := by decide +kernel
theorem dX9_permit_69 : decode cX9_permit 69 = .ok (.ireturn, 1) := by decide +kernel
theorem dX9_teach_0 : decode cX9_teach 0 = .ok (.aload_n 0, 1) := by decide +kernel
theorem dX9_teach_1 : decode cX9_teach 1 = .ok (.aload_n 0, 1) := by decide +kernel
theorem dX9_teach_2 : decode cX9_teach 2 = .ok (.iload_n 1, 1) := by decide +kernel
theorem dX9_teach_3 : decode cX9_teach 3 = .ok (.invokevirtual 159, 3) := by decide +kernel
theorem dX9_teach_6 : decode cX9_teach 6 = .ok (.invokevirtual 104, 3) := by decide +kernel
theorem dX9_teach_9 : decode cX9_teach 9 = .ok (.ifCond .ne 5, 3) := by decide +kernel
theorem dX9_teach_12 : decode cX9_teach 12 = .ok (.iconst 0, 1) := by decide +kernel
theorem dX9_teach_13 : decode cX9_teach 13 = .ok (.ireturn, 1) := by decide +kernel
theorem dX9_teach_14 : decode cX9_teach 14 = .ok (.iload_n 2, 1) := by decide +kernel
theorem dX9_teach_15 : decode cX9_teach 15 = .ok (.invokestatic 165, 3) := by decide +kernel
theorem dX9_teach_18 : decode cX9_teach 18 = .ok (.ifCond .ne 9, 3) := by decide +kernel
theorem dX9_teach_21 : decode cX9_teach 21 = .ok (.aload_n 0, 1) := by decide +kernel
theorem dX9_teach_22 : decode cX9_teach 22 = .ok (.iconst 2, 1) := by decide +kernel
theorem dX9_teach_23 : decode cX9_teach 23 = .ok (.invokevirtual 108, 3) := by decide +kernel
theorem dX9_teach_26 : decode cX9_teach 26 = .ok (.ireturn, 1) := by decide +kernel
theorem dX9_teach_27 : decode cX9_teach 27 = .ok (.aload_n 0, 1) := by decide +kernel
theorem dX9_teach_28 : decode cX9_teach 28 = .ok (.getfield 62, 3) := by decide +kernel
theorem dX9_teach_31 : decode cX9_teach 31 = .ok (.iload_n 1, 1) := by decide +kernel
theorem dX9_teach_32 : decode cX9_teach 32 = .ok (.iaload, 1) := by decide +kernel
theorem dX9_teach_33 : decode cX9_teach 33 = .ok (.istore_n 3, 1) := by decide +kernel
theorem dX9_teach_34 : decode cX9_teach 34 = .ok (.aload_n 0, 1) := by decide +kernel
theorem dX9_teach_35 : decode cX9_teach 35 = .ok (.getfield 62, 3) := by decide +kernel
theorem dX9_teach_38 : decode cX9_teach 38 = .ok (.iload_n 1, 1) := by decide +kernel
theorem dX9_teach_39 : decode cX9_teach 39 = .ok (.iload_n 2, 1) := by decide +kernel
theorem dX9_teach_40 : decode cX9_teach 40 = .ok (.iastore, 1) := by decide +kernel
theorem dX9_teach_41 : decode cX9_teach 41 = .ok (.iload_n 3, 1) := by decide +kernel
theorem dX9_teach_42 : decode cX9_teach 42 = .ok (.ireturn, 1) := by decide +kernel
theorem dX9_isBadge_0 : decode cX9_isBadge 0 = .ok (.iload_n 0, 1) := by decide +kernel
theorem dX9_isBadge_1 : decode cX9_isBadge 1 = .ok (.iconst 0, 1) := by decide +kernel
theorem dX9_isBadge_2 : decode cX9_isBadge 2 = .ok (.bipush 7, 2) := by decide +kernel
theorem dX9_isBadge_4 : decode cX9_isBadge 4 = .ok (.invokestatic 93, 3) := by decide +kernel
theorem dX9_isBadge_7 : decode cX9_isBadge 7 = .ok (.ireturn, 1) := by decide +kernel
theorem dX9_edition_0 : decode cX9_edition 0 = .ok (.aload_n 0, 1) := by decide +kernel
theorem dX9_edition_1 : decode cX9_edition 1 = .ok (.iload_n 1, 1) := by decide +kernel
theorem dX9_edition_2 : decode cX9_edition 2 = .ok (.invokestatic 168, 3) := by decide +kernel
theorem dX9_edition_5 : decode cX9_edition 5 = .ok (.invokevirtual 104, 3) := by decide +kernel
theorem dX9_edition_8 : decode cX9_edition 8 = .ok (.ifCond .ne 5, 3) := by decide +kernel
theorem dX9_edition_11 : decode cX9_edition 11 = .ok (.iconst 0, 1) := by decide +kernel
theorem dX9_edition_12 : decode cX9_edition 12 = .ok (.ireturn, 1) := by decide +kernel
theorem dX9_edition_13 : decode cX9_edition 13 = .ok (.iload_n 2, 1) := by decide +kernel
theorem dX9_edition_14 : decode cX9_edition 14 = .ok (.invokestatic 165, 3) := by decide +kernel
theorem dX9_edition_17 : decode cX9_edition 17 = .ok (.ifCond .eq 20, 3) := by decide +kernel
theorem dX9_edition_20 : decode cX9_edition 20 = .ok (.iload_n 3, 1) := by decide +kernel
theorem dX9_edition_21 : decode cX9_edition 21 = .ok (.invokestatic 165, 3) := by decide +kernel
theorem dX9_edition_24 : decode cX9_edition 24 = .ok (.ifCond .eq 13, 3) := by decide +kernel
theorem dX9_edition_27 : decode cX9_edition 27 = .ok (.iload_n 2, 1) := by decide +kernel
theorem dX9_edition_28 : decode cX9_edition 28 = .ok (.iload_n 3, 1) := by decide +kernel
theorem dX9_edition_29 : decode cX9_edition 29 = .ok (.iand, 1) := by decide +kernel
theorem dX9_edition_30 : decode cX9_edition 30 = .ok (.ifCond .ne 7, 3) := by decide +kernel
theorem dX9_edition_33 : decode cX9_edition 33 = .ok (.iconst 1, 1) := by decide +kernel
theorem dX9_edition_34 : decode cX9_edition 34 = .ok (.goto 4, 3) := by decide +kernel
theorem dX9_edition_37 : decode cX9_edition 37 = .ok (.iconst 0, 1) := by decide +kernel
theorem dX9_edition_38 : decode cX9_edition 38 = .ok (.istore 8, 2) := by decide +kernel
theorem dX9_edition_40 : decode cX9_edition 40 = .ok (.iload 8, 2) := by decide +kernel
theorem dX9_edition_42 : decode cX9_edition 42 = .ok (.ifCond .eq 58, 3) := by decide +kernel
theorem dX9_edition_45 : decode cX9_edition 45 = .ok (.iload 4, 2) := by decide +kernel
theorem dX9_edition_47 : decode cX9_edition 47 = .ok (.iconst 0, 1) := by decide +kernel
theorem dX9_edition_48 : decode cX9_edition 48 = .ok (.iload_n 3, 1) := by decide +kernel
theorem dX9_edition_49 : decode cX9_edition 49 = .ok (.invokestatic 171, 3) := by decide +kernel
theorem dX9_edition_52 : decode cX9_edition 52 = .ok (.invokestatic 93, 3) := by decide +kernel
theorem dX9_edition_55 : decode cX9_edition 55 = .ok (.ifCond .eq 45, 3) := by decide +kernel
theorem dX9_edition_58 : decode cX9_edition 58 = .ok (.iload 5, 2) := by decide +kernel
theorem dX9_edition_60 : decode cX9_edition 60 = .ok (.iconst (-1), 1) := by decide +kernel
theorem dX9_edition_61 : decode cX9_edition 61 = .ok (.iload_n 1, 1) := by decide +kernel
theorem dX9_edition_62 : decode cX9_edition 62 = .ok (.iconst 1, 1) := by decide +kernel
theorem dX9_edition_63 : decode cX9_edition 63 = .ok (.isub, 1) := by decide +kernel
theorem dX9_edition_64 : decode cX9_edition 64 = .ok (.invokestatic 93, 3) := by decide +kernel
theorem dX9_edition_67 : decode cX9_edition 67 = .ok (.ifCond .eq 33, 3) := by decide +kernel
theorem dX9_edition_70 : decode cX9_edition 70 = .ok (.iload 5, 2) := by decide +kernel
theorem dX9_edition_72 : decode cX9_edition 72 = .ok (.iconst (-1), 1) := by decide +kernel
theorem dX9_edition_73 : decode cX9_edition 73 = .ok (.if_icmp .eq 15, 3) := by decide +kernel
theorem dX9_edition_76 : decode cX9_edition 76 = .ok (.iload 6, 2) := by decide +kernel
theorem dX9_edition_78 : decode cX9_edition 78 = .ok (.iconst 0, 1) := by decide +kernel
theorem dX9_edition_79 : decode cX9_edition 79 = .ok (.sipush 400, 3) := by decide +kernel
theorem dX9_edition_82 : decode cX9_edition 82 = .ok (.invokestatic 93, 3) := by decide +kernel
theorem dX9_edition_85 : decode cX9_edition 85 = .ok (.ifCond .eq 15, 3) := by decide +kernel
theorem dX9_edition_88 : decode cX9_edition 88 = .ok (.iload 7, 2) := by decide +kernel
theorem dX9_edition_90 : decode cX9_edition 90 = .ok (.iconst 0, 1) := by decide +kernel
theorem dX9_edition_91 : decode cX9_edition 91 = .ok (.sipush 4000, 3) := by decide +kernel
theorem dX9_edition_94 : decode cX9_edition 94 = .ok (.invokestatic 93, 3) := by decide +kernel
theorem dX9_edition_97 : decode cX9_edition 97 = .ok (.ifCond .ne 9, 3) := by decide +kernel
theorem dX9_edition_100 : decode cX9_edition 100 = .ok (.aload_n 0, 1) := by decide +kernel
theorem dX9_edition_101 : decode cX9_edition 101 = .ok (.iconst 2, 1) := by decide +kernel
theorem dX9_edition_102 : decode cX9_edition 102 = .ok (.invokevirtual 108, 3) := by decide +kernel
theorem dX9_edition_105 : decode cX9_edition 105 = .ok (.ireturn, 1) := by decide +kernel
theorem dX9_edition_106 : decode cX9_edition 106 = .ok (.aload_n 0, 1) := by decide +kernel
theorem dX9_edition_107 : decode cX9_edition 107 = .ok (.getfield 65, 3) := by decide +kernel
theorem dX9_edition_110 : decode cX9_edition 110 = .ok (.iload_n 1, 1) := by decide +kernel
theorem dX9_edition_111 : decode cX9_edition 111 = .ok (.iaload, 1) := by decide +kernel
theorem dX9_edition_112 : decode cX9_edition 112 = .ok (.iconst 3, 1) := by decide +kernel
theorem dX9_edition_113 : decode cX9_edition 113 = .ok (.if_icmp .ne 9, 3) := by decide +kernel
theorem dX9_edition_116 : decode cX9_edition 116 = .ok (.aload_n 0, 1) := by decide +kernel
theorem dX9_edition_117 : decode cX9_edition 117 = .ok (.iconst 3, 1) := by decide +kernel
theorem dX9_edition_118 : decode cX9_edition 118 = .ok (.invokevirtual 108, 3) := by decide +kernel
theorem dX9_edition_121 : decode cX9_edition 121 = .ok (.ireturn, 1) := by decide +kernel
theorem dX9_edition_122 : decode cX9_edition 122 = .ok (.bipush 18, 2) := by decide +kernel
theorem dX9_edition_124 : decode cX9_edition 124 = .ok (.iload_n 1, 1) := by decide +kernel
theorem dX9_edition_125 : decode cX9_edition 125 = .ok (.imul, 1) := by decide +kernel
theorem dX9_edition_126 : decode cX9_edition 126 = .ok (.bipush 6, 2) := by decide +kernel
theorem dX9_edition_128 : decode cX9_edition 128 = .ok (.aload_n 0, 1) := by decide +kernel
theorem dX9_edition_129 : decode cX9_edition 129 = .ok (.getfield 65, 3) := by decide +kernel
theorem dX9_edition_132 : decode cX9_edition 132 = .ok (.iload_n 1, 1) := by decide +kernel
theorem dX9_edition_133 : decode cX9_edition 133 = .ok (.iaload, 1) := by decide +kernel
theorem dX9_edition_134 : decode cX9_edition 134 = .ok (.imul, 1) := by decide +kernel
theorem dX9_edition_135 : decode cX9_edition 135 = .ok (.iadd, 1) := by decide +kernel
theorem dX9_edition_136 : decode cX9_edition 136 = .ok (.istore 9, 2) := by decide +kernel
theorem dX9_edition_138 : decode cX9_edition 138 = .ok (.aload_n 0, 1) := by decide +kernel
theorem dX9_edition_139 : decode cX9_edition 139 = .ok (.getfield 68, 3) := by decide +kernel
theorem dX9_edition_142 : decode cX9_edition 142 = .ok (.iload 9, 2) := by decide +kernel
theorem dX9_edition_144 : decode cX9_edition 144 = .ok (.iload_n 2, 1) := by decide +kernel
theorem dX9_edition_145 : decode cX9_edition 145 = .ok (.iastore, 1) := by decide +kernel
theorem dX9_edition_146 : decode cX9_edition 146 = .ok (.aload_n 0, 1) := by decide +kernel
theorem dX9_edition_147 : decode cX9_edition 147 = .ok (.getfield 68, 3) := by decide +kernel
theorem dX9_edition_150 : decode cX9_edition 150 = .ok (.iload 9, 2) := by decide +kernel
theorem dX9_edition_152 : decode cX9_edition 152 = .ok (.iconst 1, 1) := by decide +kernel
theorem dX9_edition_153 : decode cX9_edition 153 = .ok (.iadd, 1) := by decide +kernel
theorem dX9_edition_154 : decode cX9_edition 154 = .ok (.iload_n 3, 1) := by decide +kernel
theorem dX9_edition_155 : decode cX9_edition 155 = .ok (.iastore, 1) := by decide +kernel
theorem dX9_edition_156 : decode cX9_edition 156 = .ok (.aload_n 0, 1) := by decide +kernel
theorem dX9_edition_157 : decode cX9_edition 157 = .ok (.getfield 68, 3) := by decide +kernel
theorem dX9_edition_160 : decode cX9_edition 160 = .ok (.iload 9, 2) := by decide +kernel
theorem dX9_edition_162 : decode cX9_edition 162 = .ok (.iconst 2, 1) := by decide +kernel
theorem dX9_edition_163 : decode cX9_edition 163 = .ok (.iadd, 1) := by decide +kernel
theorem dX9_edition_164 : decode cX9_edition 164 = .ok (.iload 4, 2) := by decide +kernel
theorem dX9_edition_166 : decode cX9_edition 166 = .ok (.iastore, 1) := by decide +kernel
theorem dX9_edition_167 : decode cX9_edition 167 = .ok (.aload_n 0, 1) := by decide +kernel
theorem dX9_edition_168 : decode cX9_edition 168 = .ok (.getfield 68, 3) := by decide +kernel
theorem dX9_edition_171 : decode cX9_edition 171 = .ok (.iload 9, 2) := by decide +kernel
theorem dX9_edition_173 : decode cX9_edition 173 = .ok (.iconst 3, 1) := by decide +kernel
theorem dX9_edition_174 : decode cX9_edition 174 = .ok (.iadd, 1) := by decide +kernel
theorem dX9_edition_175 : decode cX9_edition 175 = .ok (.iload 5, 2) := by decide +kernel
theorem dX9_edition_177 : decode cX9_edition 177 = .ok (.iastore, 1) := by decide +kernel
theorem dX9_edition_178 : decode cX9_edition 178 = .ok (.aload_n 0, 1) := by decide +kernel
theorem dX9_edition_179 : decode cX9_edition 179 = .ok (.getfield 68, 3) := by decide +kernel
theorem dX9_edition_182 : decode cX9_edition 182 = .ok (.iload 9, 2) := by decide +kernel
theorem dX9_edition_184 : decode cX9_edition 184 = .ok (.iconst 4, 1) := by decide +kernel
theorem dX9_edition_185 : decode cX9_edition 185 = .ok (.iadd, 1) := by decide +kernel
theorem dX9_edition_186 : decode cX9_edition 186 = .ok (.iload 6, 2) := by decide +kernel
theorem dX9_edition_188 : decode cX9_edition 188 = .ok (.iastore, 1) := by decide +kernel
theorem dX9_edition_189 : decode cX9_edition 189 = .ok (.aload_n 0, 1) := by decide +kernel
theorem dX9_edition_190 : decode cX9_edition 190 = .ok (.getfield 68, 3) := by decide +kernel
theorem dX9_edition_193 : decode cX9_edition 193 = .ok (.iload 9, 2) := by decide +kernel
theorem dX9_edition_195 : decode cX9_edition 195 = .ok (.iconst 5, 1) := by decide +kernel
theorem dX9_edition_196 : decode cX9_edition 196 = .ok (.iadd, 1) := by decide +kernel
theorem dX9_edition_197 : decode cX9_edition 197 = .ok (.iload 7, 2) := by decide +kernel
theorem dX9_edition_199 : decode cX9_edition 199 = .ok (.iastore, 1) := by decide +kernel
theorem dX9_edition_200 : decode cX9_edition 200 = .ok (.aload_n 0, 1) := by decide +kernel
theorem dX9_edition_201 : decode cX9_edition 201 = .ok (.getfield 65, 3) := by decide +kernel
theorem dX9_edition_204 : decode cX9_edition 204 = .ok (.iload_n 1, 1) := by decide +kernel
theorem dX9_edition_205 : decode cX9_edition 205 = .ok (.dup2, 1) := by decide +kernel
theorem dX9_edition_206 : decode cX9_edition 206 = .ok (.iaload, 1) := by decide +kernel
theorem dX9_edition_207 : decode cX9_edition 207 = .ok (.iconst 1, 1) := by decide +kernel
theorem dX9_edition_208 : decode cX9_edition 208 = .ok (.iadd, 1) := by decide +kernel
theorem dX9_edition_209 : decode cX9_edition 209 = .ok (.iastore, 1) := by decide +kernel
theorem dX9_edition_210 : decode cX9_edition 210 = .ok (.aload_n 0, 1) := by decide +kernel
theorem dX9_edition_211 : decode cX9_edition 211 = .ok (.getfield 65, 3) := by decide +kernel
theorem dX9_edition_214 : decode cX9_edition 214 = .ok (.iload_n 1, 1) := by decide +kernel
theorem dX9_edition_215 : decode cX9_edition 215 = .ok (.iaload, 1) := by decide +kernel
theorem dX9_edition_216 : decode cX9_edition 216 = .ok (.iconst 1, 1) := by decide +kernel
theorem dX9_edition_217 : decode cX9_edition 217 = .ok (.isub, 1) := by decide +kernel
theorem dX9_edition_218 : decode cX9_edition 218 = .ok (.ireturn, 1) := by decide +kernel
theorem dX9_begin_0 : decode cX9_begin 0 = .ok (.aload_n 0, 1) := by decide +kernel
theorem dX9_begin_1 : decode cX9_begin 1 = .ok (.aload_n 0, 1) := by decide +kernel
theorem dX9_begin_2 : decode cX9_begin 2 = .ok (.iload_n 1, 1) := by decide +kernel
theorem dX9_begin_3 : decode cX9_begin 3 = .ok (.invokevirtual 129, 3) := by decide +kernel
theorem dX9_begin_6 : decode cX9_begin 6 = .ok (.ifCond .eq 14, 3) := by decide +kernel
theorem dX9_begin_9 : decode cX9_begin 9 = .ok (.iload_n 2, 1) := by decide +kernel
theorem dX9_begin_10 : decode cX9_begin 10 = .ok (.invokestatic 168, 3) := by decide +kernel
theorem dX9_begin_13 : decode cX9_begin 13 = .ok (.ifCond .eq 7, 3) := by decide +kernel
theorem dX9_begin_16 : decode cX9_begin 16 = .ok (.iconst 1, 1) := by decide +kernel
theorem dX9_begin_17 : decode cX9_begin 17 = .ok (.goto 4, 3) := by decide +kernel
theorem dX9_begin_20 : decode cX9_begin 20 = .ok (.iconst 0, 1) := by decide +kernel
theorem dX9_begin_21 : decode cX9_begin 21 = .ok (.invokevirtual 104, 3) := by decide +kernel
theorem dX9_begin_24 : decode cX9_begin 24 = .ok (.ifCond .ne 5, 3) := by decide +kernel
theorem dX9_begin_27 : decode cX9_begin 27 = .ok (.iconst 0, 1) := by decide +kernel
theorem dX9_begin_28 : decode cX9_begin 28 = .ok (.ireturn, 1) := by decide +kernel
theorem dX9_begin_29 : decode cX9_begin 29 = .ok (.aload_n 0, 1) := by decide +kernel
theorem dX9_begin_30 : decode cX9_begin 30 = .ok (.getfield 65, 3) := by decide +kernel
theorem dX9_begin_33 : decode cX9_begin 33 = .ok (.iload_n 2, 1) := by decide +kernel
theorem dX9_begin_34 : decode cX9_begin 34 = .ok (.iaload, 1) := by decide +kernel
theorem dX9_begin_35 : decode cX9_begin 35 = .ok (.ifCond .eq 18, 3) := by decide +kernel
theorem dX9_begin_38 : decode cX9_begin 38 = .ok (.aload_n 0, 1) := by decide +kernel
theorem dX9_begin_39 : decode cX9_begin 39 = .ok (.getfield 50, 3) := by decide +kernel
theorem dX9_begin_42 : decode cX9_begin 42 = .ok (.bipush 8, 2) := by decide +kernel
theorem dX9_begin_44 : decode cX9_begin 44 = .ok (.iload_n 1, 1) := by decide +kernel
theorem dX9_begin_45 : decode cX9_begin 45 = .ok (.imul, 1) := by decide +kernel
theorem dX9_begin_46 : decode cX9_begin 46 = .ok (.iload_n 2, 1) := by decide +kernel
theorem dX9_begin_47 : decode cX9_begin 47 = .ok (.iadd, 1) := by decide +kernel
theorem dX9_begin_48 : decode cX9_begin 48 = .ok (.iaload, 1) := by decide +kernel
theorem dX9_begin_49 : decode cX9_begin 49 = .ok (.iconst (-1), 1) := by decide +kernel
theorem dX9_begin_50 : decode cX9_begin 50 = .ok (.if_icmp .eq 9, 3) := by decide +kernel
theorem dX9_begin_53 : decode cX9_begin 53 = .ok (.aload_n 0, 1) := by decide +kernel
theorem dX9_begin_54 : decode cX9_begin 54 = .ok (.iconst 2, 1) := by decide +kernel
theorem dX9_begin_55 : decode cX9_begin 55 = .ok (.invokevirtual 108, 3) := by decide +kernel
theorem dX9_begin_58 : decode cX9_begin 58 = .ok (.ireturn, 1) := by decide +kernel
theorem dX9_begin_59 : decode cX9_begin 59 = .ok (.aload_n 0, 1) := by decide +kernel
theorem dX9_begin_60 : decode cX9_begin 60 = .ok (.getfield 50, 3) := by decide +kernel
theorem dX9_begin_63 : decode cX9_begin 63 = .ok (.bipush 8, 2) := by decide +kernel
theorem dX9_begin_65 : decode cX9_begin 65 = .ok (.iload_n 1, 1) := by decide +kernel
theorem dX9_begin_66 : decode cX9_begin 66 = .ok (.imul, 1) := by decide +kernel
theorem dX9_begin_67 : decode cX9_begin 67 = .ok (.iload_n 2, 1) := by decide +kernel
theorem dX9_begin_68 : decode cX9_begin 68 = .ok (.iadd, 1) := by decide +kernel
theorem dX9_begin_69 : decode cX9_begin 69 = .ok (.aload_n 0, 1) := by decide +kernel
theorem dX9_begin_70 : decode cX9_begin 70 = .ok (.getfield 153, 3) := by decide +kernel
theorem dX9_begin_73 : decode cX9_begin 73 = .ok (.iastore, 1) := by decide +kernel
theorem dX9_begin_74 : decode cX9_begin 74 = .ok (.aload_n 0, 1) := by decide +kernel
theorem dX9_begin_75 : decode cX9_begin 75 = .ok (.getfield 53, 3) := by decide +kernel
theorem dX9_begin_78 : decode cX9_begin 78 = .ok (.bipush 8, 2) := by decide +kernel
theorem dX9_begin_80 : decode cX9_begin 80 = .ok (.iload_n 1, 1) := by decide +kernel
theorem dX9_begin_81 : decode cX9_begin 81 = .ok (.imul, 1) := by decide +kernel
theorem dX9_begin_82 : decode cX9_begin 82 = .ok (.iload_n 2, 1) := by decide +kernel
theorem dX9_begin_83 : decode cX9_begin 83 = .ok (.iadd, 1) := by decide +kernel
theorem dX9_begin_84 : decode cX9_begin 84 = .ok (.aload_n 0, 1) := by decide +kernel
theorem dX9_begin_85 : decode cX9_begin 85 = .ok (.getfield 65, 3) := by decide +kernel
theorem dX9_begin_88 : decode cX9_begin 88 = .ok (.iload_n 2, 1) := by decide +kernel
theorem dX9_begin_89 : decode cX9_begin 89 = .ok (.iaload, 1) := by decide +kernel
theorem dX9_begin_90 : decode cX9_begin 90 = .ok (.iconst 1, 1) := by decide +kernel
theorem dX9_begin_91 : decode cX9_begin 91 = .ok (.isub, 1) := by decide +kernel
theorem dX9_begin_92 : decode cX9_begin 92 = .ok (.iastore, 1) := by decide +kernel
theorem dX9_begin_93 : decode cX9_begin 93 = .ok (.aload_n 0, 1) := by decide +kernel
theorem dX9_begin_94 : decode cX9_begin 94 = .ok (.getfield 65, 3) := by decide +kernel
theorem dX9_begin_97 : decode cX9_begin 97 = .ok (.iload_n 2, 1) := by decide +kernel
theorem dX9_begin_98 : decode cX9_begin 98 = .ok (.iaload, 1) := by decide +kernel
theorem dX9_begin_99 : decode cX9_begin 99 = .ok (.iconst 1, 1) := by decide +kernel
theorem dX9_begin_100 : decode cX9_begin 100 = .ok (.isub, 1) := by decide +kernel
theorem dX9_begin_101 : decode cX9_begin 101 = .ok (.ireturn, 1) := by decide +kernel
theorem dX9_later_0 : decode cX9_later 0 = .ok (.iload_n 0, 1) := by decide +kernel
theorem dX9_later_1 : decode cX9_later 1 = .ok (.iload_n 1, 1) := by decide +kernel
theorem dX9_later_2 : decode cX9_later 2 = .ok (.if_icmp .le 7, 3) := by decide +kernel
theorem dX9_later_5 : decode cX9_later 5 = .ok (.iload_n 0, 1) := by decide +kernel
theorem dX9_later_6 : decode cX9_later 6 = .ok (.goto 4, 3) := by decide +kernel
theorem dX9_later_9 : decode cX9_later 9 = .ok (.iload_n 1, 1) := by decide +kernel
theorem dX9_later_10 : decode cX9_later 10 = .ok (.ireturn, 1) := by decide +kernel
theorem dX9_provenOn_0 : decode cX9_provenOn 0 = .ok (.aload_n 0, 1) := by decide +kernel
theorem dX9_provenOn_1 : decode cX9_provenOn 1 = .ok (.getfield 47, 3) := by decide +kernel
theorem dX9_provenOn_4 : decode cX9_provenOn 4 = .ok (.bipush 16, 2) := by decide +kernel
theorem dX9_provenOn_6 : decode cX9_provenOn 6 = .ok (.iload_n 1, 1) := by decide +kernel
theorem dX9_provenOn_7 : decode cX9_provenOn 7 = .ok (.imul, 1) := by decide +kernel
theorem dX9_provenOn_8 : decode cX9_provenOn 8 = .ok (.iload_n 2, 1) := by decide +kernel
theorem dX9_provenOn_9 : decode cX9_provenOn 9 = .ok (.iadd, 1) := by decide +kernel
theorem dX9_provenOn_10 : decode cX9_provenOn 10 = .ok (.iaload, 1) := by decide +kernel
theorem dX9_provenOn_11 : decode cX9_provenOn 11 = .ok (.istore_n 3, 1) := by decide +kernel
theorem dX9_provenOn_12 : decode cX9_provenOn 12 = .ok (.iload_n 3, 1) := by decide +kernel
theorem dX9_provenOn_13 : decode cX9_provenOn 13 = .ok (.iconst (-1), 1) := by decide +kernel
theorem dX9_provenOn_14 : decode cX9_provenOn 14 = .ok (.if_icmp .ne 8, 3) := by decide +kernel
theorem dX9_provenOn_17 : decode cX9_provenOn 17 = .ok (.ldc 174, 2) := by decide +kernel
theorem dX9_provenOn_19 : decode cX9_provenOn 19 = .ok (.goto 4, 3) := by decide +kernel
theorem dX9_provenOn_22 : decode cX9_provenOn 22 = .ok (.iload_n 3, 1) := by decide +kernel
theorem dX9_provenOn_23 : decode cX9_provenOn 23 = .ok (.ireturn, 1) := by decide +kernel
theorem dX9_dayOfMany_0 : decode cX9_dayOfMany 0 = .ok (.iload_n 3, 1) := by decide +kernel
theorem dX9_dayOfMany_1 : decode cX9_dayOfMany 1 = .ok (.ifCond .ne 7, 3) := by decide +kernel
theorem dX9_dayOfMany_4 : decode cX9_dayOfMany 4 = .ok (.iconst 0, 1) := by decide +kernel
theorem dX9_dayOfMany_5 : decode cX9_dayOfMany 5 = .ok (.goto 5, 3) := by decide +kernel
theorem dX9_dayOfMany_8 : decode cX9_dayOfMany 8 = .ok (.ldc 174, 2) := by decide +kernel
theorem dX9_dayOfMany_10 : decode cX9_dayOfMany 10 = .ok (.istore 4, 2) := by decide +kernel
theorem dX9_dayOfMany_12 : decode cX9_dayOfMany 12 = .ok (.iconst 0, 1) := by decide +kernel
theorem dX9_dayOfMany_13 : decode cX9_dayOfMany 13 = .ok (.istore 5, 2) := by decide +kernel
theorem dX9_dayOfMany_15 : decode cX9_dayOfMany 15 = .ok (.iload 5, 2) := by decide +kernel
theorem dX9_dayOfMany_17 : decode cX9_dayOfMany 17 = .ok (.bipush 16, 2) := by decide +kernel
theorem dX9_dayOfMany_19 : decode cX9_dayOfMany 19 = .ok (.if_icmp .ge 105, 3) := by decide +kernel
theorem dX9_dayOfMany_22 : decode cX9_dayOfMany 22 = .ok (.iload_n 3, 1) := by decide +kernel
theorem dX9_dayOfMany_23 : decode cX9_dayOfMany 23 = .ok (.ifCond .le 101, 3) := by decide +kernel
theorem dX9_dayOfMany_26 : decode cX9_dayOfMany 26 = .ok (.aload_n 0, 1) := by decide +kernel
theorem dX9_dayOfMany_27 : decode cX9_dayOfMany 27 = .ok (.iload_n 1, 1) := by decide +kernel
theorem dX9_dayOfMany_28 : decode cX9_dayOfMany 28 = .ok (.iload 5, 2) := by decide +kernel
theorem dX9_dayOfMany_30 : decode cX9_dayOfMany 30 = .ok (.invokevirtual 175, 3) := by decide +kernel
theorem dX9_dayOfMany_33 : decode cX9_dayOfMany 33 = .ok (.istore 6, 2) := by decide +kernel
theorem dX9_dayOfMany_35 : decode cX9_dayOfMany 35 = .ok (.iconst 0, 1) := by decide +kernel
theorem dX9_dayOfMany_36 : decode cX9_dayOfMany 36 = .ok (.istore 7, 2) := by decide +kernel
theorem dX9_dayOfMany_38 : decode cX9_dayOfMany 38 = .ok (.iconst 0, 1) := by decide +kernel
theorem dX9_dayOfMany_39 : decode cX9_dayOfMany 39 = .ok (.istore 8, 2) := by decide +kernel
theorem dX9_dayOfMany_41 : decode cX9_dayOfMany 41 = .ok (.iload 8, 2) := by decide +kernel
theorem dX9_dayOfMany_43 : decode cX9_dayOfMany 43 = .ok (.bipush 16, 2) := by decide +kernel
theorem dX9_dayOfMany_45 : decode cX9_dayOfMany 45 = .ok (.if_icmp .ge 41, 3) := by decide +kernel
theorem dX9_dayOfMany_48 : decode cX9_dayOfMany 48 = .ok (.iload 7, 2) := by decide +kernel
theorem dX9_dayOfMany_50 : decode cX9_dayOfMany 50 = .ok (.iload_n 2, 1) := by decide +kernel
theorem dX9_dayOfMany_51 : decode cX9_dayOfMany 51 = .ok (.iload 8, 2) := by decide +kernel
theorem dX9_dayOfMany_53 : decode cX9_dayOfMany 53 = .ok (.ishr, 1) := by decide +kernel
theorem dX9_dayOfMany_54 : decode cX9_dayOfMany 54 = .ok (.iconst 1, 1) := by decide +kernel
theorem dX9_dayOfMany_55 : decode cX9_dayOfMany 55 = .ok (.iand, 1) := by decide +kernel
theorem dX9_dayOfMany_56 : decode cX9_dayOfMany 56 = .ok (.iconst 1, 1) := by decide +kernel
theorem dX9_dayOfMany_57 : decode cX9_dayOfMany 57 = .ok (.if_icmp .ne 19, 3) := by decide +kernel
theorem dX9_dayOfMany_60 : decode cX9_dayOfMany 60 = .ok (.aload_n 0, 1) := by decide +kernel
theorem dX9_dayOfMany_61 : decode cX9_dayOfMany 61 = .ok (.iload_n 1, 1) := by decide +kernel
theorem dX9_dayOfMany_62 : decode cX9_dayOfMany 62 = .ok (.iload 8, 2) := by decide +kernel
theorem dX9_dayOfMany_64 : decode cX9_dayOfMany 64 = .ok (.invokevirtual 175, 3) := by decide +kernel
theorem dX9_dayOfMany_67 : decode cX9_dayOfMany 67 = .ok (.iload 6, 2) := by decide +kernel
theorem dX9_dayOfMany_69 : decode cX9_dayOfMany 69 = .ok (.if_icmp .gt 7, 3) := by decide +kernel
theorem dX9_dayOfMany_72 : decode cX9_dayOfMany 72 = .ok (.iconst 1, 1) := by decide +kernel
theorem dX9_dayOfMany_73 : decode cX9_dayOfMany 73 = .ok (.goto 4, 3) := by decide +kernel
theorem dX9_dayOfMany_76 : decode cX9_dayOfMany 76 = .ok (.iconst 0, 1) := by decide +kernel
theorem dX9_dayOfMany_77 : decode cX9_dayOfMany 77 = .ok (.iadd, 1) := by decide +kernel
theorem dX9_dayOfMany_78 : decode cX9_dayOfMany 78 = .ok (.istore 7, 2) := by decide +kernel
theorem dX9_dayOfMany_80 : decode cX9_dayOfMany 80 = .ok (.iinc 8 1, 3) := by decide +kernel
theorem dX9_dayOfMany_83 : decode cX9_dayOfMany 83 = .ok (.goto (-42), 3) := by decide +kernel
theorem dX9_dayOfMany_86 : decode cX9_dayOfMany 86 = .ok (.iload_n 2, 1) := by decide +kernel
theorem dX9_dayOfMany_87 : decode cX9_dayOfMany 87 = .ok (.iload 5, 2) := by decide +kernel
theorem dX9_dayOfMany_89 : decode cX9_dayOfMany 89 = .ok (.ishr, 1) := by decide +kernel
theorem dX9_dayOfMany_90 : decode cX9_dayOfMany 90 = .ok (.iconst 1, 1) := by decide +kernel
theorem dX9_dayOfMany_91 : decode cX9_dayOfMany 91 = .ok (.iand, 1) := by decide +kernel
theorem dX9_dayOfMany_92 : decode cX9_dayOfMany 92 = .ok (.iconst 1, 1) := by decide +kernel
theorem dX9_dayOfMany_93 : decode cX9_dayOfMany 93 = .ok (.if_icmp .ne 21, 3) := by decide +kernel
theorem dX9_dayOfMany_96 : decode cX9_dayOfMany 96 = .ok (.iload 7, 2) := by decide +kernel
theorem dX9_dayOfMany_98 : decode cX9_dayOfMany 98 = .ok (.iload_n 3, 1) := by decide +kernel
theorem dX9_dayOfMany_99 : decode cX9_dayOfMany 99 = .ok (.if_icmp .lt 15, 3) := by decide +kernel
theorem dX9_dayOfMany_102 : decode cX9_dayOfMany 102 = .ok (.iload 6, 2) := by decide +kernel
theorem dX9_dayOfMany_104 : decode cX9_dayOfMany 104 = .ok (.iload 4, 2) := by decide +kernel
theorem dX9_dayOfMany_106 : decode cX9_dayOfMany 106 = .ok (.if_icmp .ge 8, 3) := by decide +kernel
theorem dX9_dayOfMany_109 : decode cX9_dayOfMany 109 = .ok (.iload 6, 2) := by decide +kernel
theorem dX9_dayOfMany_111 : decode cX9_dayOfMany 111 = .ok (.goto 5, 3) := by decide +kernel
theorem dX9_dayOfMany_114 : decode cX9_dayOfMany 114 = .ok (.iload 4, 2) := by decide +kernel
theorem dX9_dayOfMany_116 : decode cX9_dayOfMany 116 = .ok (.istore 4, 2) := by decide +kernel
theorem dX9_dayOfMany_118 : decode cX9_dayOfMany 118 = .ok (.iinc 5 1, 3) := by decide +kernel
theorem dX9_dayOfMany_121 : decode cX9_dayOfMany 121 = .ok (.goto (-106), 3) := by decide +kernel
theorem dX9_dayOfMany_124 : decode cX9_dayOfMany 124 = .ok (.iload 4, 2) := by decide +kernel
theorem dX9_dayOfMany_126 : decode cX9_dayOfMany 126 = .ok (.ireturn, 1) := by decide +kernel
theorem dX9_findsDays_0 : decode cX9_findsDays 0 = .ok (.iconst 0, 1) := by decide +kernel
theorem dX9_findsDays_1 : decode cX9_findsDays 1 = .ok (.istore_n 2, 1) := by decide +kernel
theorem dX9_findsDays_2 : decode cX9_findsDays 2 = .ok (.iload_n 2, 1) := by decide +kernel
theorem dX9_findsDays_3 : decode cX9_findsDays 3 = .ok (.bipush 8, 2) := by decide +kernel
theorem dX9_findsDays_5 : decode cX9_findsDays 5 = .ok (.if_icmp .ge 198, 3) := by decide +kernel
theorem dX9_findsDays_8 : decode cX9_findsDays 8 = .ok (.bipush 18, 2) := by decide +kernel
theorem dX9_findsDays_10 : decode cX9_findsDays 10 = .ok (.iload_n 2, 1) := by decide +kernel
theorem dX9_findsDays_11 : decode cX9_findsDays 11 = .ok (.imul, 1) := by decide +kernel
theorem dX9_findsDays_12 : decode cX9_findsDays 12 = .ok (.bipush 6, 2) := by decide +kernel
theorem dX9_findsDays_14 : decode cX9_findsDays 14 = .ok (.aload_n 0, 1) := by decide +kernel
theorem dX9_findsDays_15 : decode cX9_findsDays 15 = .ok (.getfield 53, 3) := by decide +kernel
theorem dX9_findsDays_18 : decode cX9_findsDays 18 = .ok (.bipush 8, 2) := by decide +kernel
theorem dX9_findsDays_20 : decode cX9_findsDays 20 = .ok (.iload_n 1, 1) := by decide +kernel
theorem dX9_findsDays_21 : decode cX9_findsDays 21 = .ok (.imul, 1) := by decide +kernel
theorem dX9_findsDays_22 : decode cX9_findsDays 22 = .ok (.iload_n 2, 1) := by decide +kernel
theorem dX9_findsDays_23 : decode cX9_findsDays 23 = .ok (.iadd, 1) := by decide +kernel
theorem dX9_findsDays_24 : decode cX9_findsDays 24 = .ok (.iaload, 1) := by decide +kernel
theorem dX9_findsDays_25 : decode cX9_findsDays 25 = .ok (.imul, 1) := by decide +kernel
theorem dX9_findsDays_26 : decode cX9_findsDays 26 = .ok (.iadd, 1) := by decide +kernel
theorem dX9_findsDays_27 : decode cX9_findsDays 27 = .ok (.istore_n 3, 1) := by decide +kernel
theorem dX9_findsDays_28 : decode cX9_findsDays 28 = .ok (.aload_n 0, 1) := by decide +kernel
theorem dX9_findsDays_29 : decode cX9_findsDays 29 = .ok (.getfield 50, 3) := by decide +kernel
theorem dX9_findsDays_32 : decode cX9_findsDays 32 = .ok (.bipush 8, 2) := by decide +kernel
theorem dX9_findsDays_34 : decode cX9_findsDays 34 = .ok (.iload_n 1, 1) := by decide +kernel
theorem dX9_findsDays_35 : decode cX9_findsDays 35 = .ok (.imul, 1) := by decide +kernel
theorem dX9_findsDays_36 : decode cX9_findsDays 36 = .ok (.iload_n 2, 1) := by decide +kernel
theorem dX9_findsDays_37 : decode cX9_findsDays 37 = .ok (.iadd, 1) := by decide +kernel
theorem dX9_findsDays_38 : decode cX9_findsDays 38 = .ok (.iaload, 1) := by decide +kernel
theorem dX9_findsDays_39 : decode cX9_findsDays 39 = .ok (.istore 4, 2) := by decide +kernel
theorem dX9_findsDays_41 : decode cX9_findsDays 41 = .ok (.aload_n 0, 1) := by decide +kernel
theorem dX9_findsDays_42 : decode cX9_findsDays 42 = .ok (.getfield 71, 3) := by decide +kernel
theorem dX9_findsDays_45 : decode cX9_findsDays 45 = .ok (.iload_n 2, 1) := by decide +kernel
theorem dX9_findsDays_46 : decode cX9_findsDays 46 = .ok (.ldc 174, 2) := by decide +kernel
theorem dX9_findsDays_48 : decode cX9_findsDays 48 = .ok (.iastore, 1) := by decide +kernel
theorem dX9_findsDays_49 : decode cX9_findsDays 49 = .ok (.iload 4, 2) := by decide +kernel
theorem dX9_findsDays_51 : decode cX9_findsDays 51 = .ok (.iconst (-1), 1) := by decide +kernel
theorem dX9_findsDays_52 : decode cX9_findsDays 52 = .ok (.if_icmp .eq 145, 3) := by decide +kernel
theorem dX9_findsDays_55 : decode cX9_findsDays 55 = .ok (.iconst 0, 1) := by decide +kernel
theorem dX9_findsDays_56 : decode cX9_findsDays 56 = .ok (.istore 5, 2) := by decide +kernel
theorem dX9_findsDays_58 : decode cX9_findsDays 58 = .ok (.iload 5, 2) := by decide +kernel
theorem dX9_findsDays_60 : decode cX9_findsDays 60 = .ok (.bipush 16, 2) := by decide +kernel
theorem dX9_findsDays_62 : decode cX9_findsDays 62 = .ok (.if_icmp .ge 43, 3) := by decide +kernel
theorem dX9_findsDays_65 : decode cX9_findsDays 65 = .ok (.aload_n 0, 1) := by decide +kernel
theorem dX9_findsDays_66 : decode cX9_findsDays 66 = .ok (.getfield 68, 3) := by decide +kernel
theorem dX9_findsDays_69 : decode cX9_findsDays 69 = .ok (.iload_n 3, 1) := by decide +kernel
theorem dX9_findsDays_70 : decode cX9_findsDays 70 = .ok (.iaload, 1) := by decide +kernel
theorem dX9_findsDays_71 : decode cX9_findsDays 71 = .ok (.iload 5, 2) := by decide +kernel
theorem dX9_findsDays_73 : decode cX9_findsDays 73 = .ok (.ishr, 1) := by decide +kernel
theorem dX9_findsDays_74 : decode cX9_findsDays 74 = .ok (.iconst 1, 1) := by decide +kernel
theorem dX9_findsDays_75 : decode cX9_findsDays 75 = .ok (.iand, 1) := by decide +kernel
theorem dX9_findsDays_76 : decode cX9_findsDays 76 = .ok (.iconst 1, 1) := by decide +kernel
theorem dX9_findsDays_77 : decode cX9_findsDays 77 = .ok (.if_icmp .ne 18, 3) := by decide +kernel
theorem dX9_findsDays_80 : decode cX9_findsDays 80 = .ok (.iload 4, 2) := by decide +kernel
theorem dX9_findsDays_82 : decode cX9_findsDays 82 = .ok (.aload_n 0, 1) := by decide +kernel
theorem dX9_findsDays_83 : decode cX9_findsDays 83 = .ok (.iload_n 1, 1) := by decide +kernel
theorem dX9_findsDays_84 : decode cX9_findsDays 84 = .ok (.iload 5, 2) := by decide +kernel
theorem dX9_findsDays_86 : decode cX9_findsDays 86 = .ok (.invokevirtual 175, 3) := by decide +kernel
theorem dX9_findsDays_89 : decode cX9_findsDays 89 = .ok (.invokestatic 178, 3) := by decide +kernel
theorem dX9_findsDays_92 : decode cX9_findsDays 92 = .ok (.goto 5, 3) := by decide +kernel
theorem dX9_findsDays_95 : decode cX9_findsDays 95 = .ok (.iload 4, 2) := by decide +kernel
theorem dX9_findsDays_97 : decode cX9_findsDays 97 = .ok (.istore 4, 2) := by decide +kernel
theorem dX9_findsDays_99 : decode cX9_findsDays 99 = .ok (.iinc 5 1, 3) := by decide +kernel
theorem dX9_findsDays_102 : decode cX9_findsDays 102 = .ok (.goto (-44), 3) := by decide +kernel
theorem dX9_findsDays_105 : decode cX9_findsDays 105 = .ok (.iload 4, 2) := by decide +kernel
theorem dX9_findsDays_107 : decode cX9_findsDays 107 = .ok (.aload_n 0, 1) := by decide +kernel
theorem dX9_findsDays_108 : decode cX9_findsDays 108 = .ok (.iload_n 1, 1) := by decide +kernel
theorem dX9_findsDays_109 : decode cX9_findsDays 109 = .ok (.aload_n 0, 1) := by decide +kernel
theorem dX9_findsDays_110 : decode cX9_findsDays 110 = .ok (.getfield 68, 3) := by decide +kernel
theorem dX9_findsDays_113 : decode cX9_findsDays 113 = .ok (.iload_n 3, 1) := by decide +kernel
theorem dX9_findsDays_114 : decode cX9_findsDays 114 = .ok (.iconst 1, 1) := by decide +kernel
theorem dX9_findsDays_115 : decode cX9_findsDays 115 = .ok (.iadd, 1) := by decide +kernel
theorem dX9_findsDays_116 : decode cX9_findsDays 116 = .ok (.iaload, 1) := by decide +kernel
theorem dX9_findsDays_117 : decode cX9_findsDays 117 = .ok (.aload_n 0, 1) := by decide +kernel
theorem dX9_findsDays_118 : decode cX9_findsDays 118 = .ok (.getfield 68, 3) := by decide +kernel
theorem dX9_findsDays_121 : decode cX9_findsDays 121 = .ok (.iload_n 3, 1) := by decide +kernel
theorem dX9_findsDays_122 : decode cX9_findsDays 122 = .ok (.iconst 2, 1) := by decide +kernel
theorem dX9_findsDays_123 : decode cX9_findsDays 123 = .ok (.iadd, 1) := by decide +kernel
theorem dX9_findsDays_124 : decode cX9_findsDays 124 = .ok (.iaload, 1) := by decide +kernel
theorem dX9_findsDays_125 : decode cX9_findsDays 125 = .ok (.invokevirtual 181, 3) := by decide +kernel
theorem dX9_findsDays_128 : decode cX9_findsDays 128 = .ok (.invokestatic 178, 3) := by decide +kernel
theorem dX9_findsDays_131 : decode cX9_findsDays 131 = .ok (.istore 4, 2) := by decide +kernel
theorem dX9_findsDays_133 : decode cX9_findsDays 133 = .ok (.aload_n 0, 1) := by decide +kernel
theorem dX9_findsDays_134 : decode cX9_findsDays 134 = .ok (.getfield 68, 3) := by decide +kernel
theorem dX9_findsDays_137 : decode cX9_findsDays 137 = .ok (.iload_n 3, 1) := by decide +kernel
theorem dX9_findsDays_138 : decode cX9_findsDays 138 = .ok (.iconst 3, 1) := by decide +kernel
theorem dX9_findsDays_139 : decode cX9_findsDays 139 = .ok (.iadd, 1) := by decide +kernel
theorem dX9_findsDays_140 : decode cX9_findsDays 140 = .ok (.iaload, 1) := by decide +kernel
theorem dX9_findsDays_141 : decode cX9_findsDays 141 = .ok (.istore 5, 2) := by decide +kernel
theorem dX9_findsDays_143 : decode cX9_findsDays 143 = .ok (.iload 5, 2) := by decide +kernel
theorem dX9_findsDays_145 : decode cX9_findsDays 145 = .ok (.iconst (-1), 1) := by decide +kernel
theorem dX9_findsDays_146 : decode cX9_findsDays 146 = .ok (.if_icmp .ne 8, 3) := by decide +kernel
theorem dX9_findsDays_149 : decode cX9_findsDays 149 = .ok (.iload 4, 2) := by decide +kernel
theorem dX9_findsDays_151 : decode cX9_findsDays 151 = .ok (.goto 24, 3) := by decide +kernel
theorem dX9_findsDays_154 : decode cX9_findsDays 154 = .ok (.iload 4, 2) := by decide +kernel
theorem dX9_findsDays_156 : decode cX9_findsDays 156 = .ok (.aload_n 0, 1) := by decide +kernel
theorem dX9_findsDays_157 : decode cX9_findsDays 157 = .ok (.getfield 71, 3) := by decide +kernel
theorem dX9_findsDays_160 : decode cX9_findsDays 160 = .ok (.iload 5, 2) := by decide +kernel
theorem dX9_findsDays_162 : decode cX9_findsDays 162 = .ok (.iaload, 1) := by decide +kernel
theorem dX9_findsDays_163 : decode cX9_findsDays 163 = .ok (.aload_n 0, 1) := by decide +kernel
theorem dX9_findsDays_164 : decode cX9_findsDays 164 = .ok (.getfield 68, 3) := by decide +kernel
theorem dX9_findsDays_167 : decode cX9_findsDays 167 = .ok (.iload_n 3, 1) := by decide +kernel
theorem dX9_findsDays_168 : decode cX9_findsDays 168 = .ok (.iconst 4, 1) := by decide +kernel
theorem dX9_findsDays_169 : decode cX9_findsDays 169 = .ok (.iadd, 1) := by decide +kernel
theorem dX9_findsDays_170 : decode cX9_findsDays 170 = .ok (.iaload, 1) := by decide +kernel
theorem dX9_findsDays_171 : decode cX9_findsDays 171 = .ok (.iadd, 1) := by decide +kernel
theorem dX9_findsDays_172 : decode cX9_findsDays 172 = .ok (.invokestatic 178, 3) := by decide +kernel
theorem dX9_findsDays_175 : decode cX9_findsDays 175 = .ok (.istore 4, 2) := by decide +kernel
theorem dX9_findsDays_177 : decode cX9_findsDays 177 = .ok (.aload_n 0, 1) := by decide +kernel
theorem dX9_findsDays_178 : decode cX9_findsDays 178 = .ok (.getfield 71, 3) := by decide +kernel
theorem dX9_findsDays_181 : decode cX9_findsDays 181 = .ok (.iload_n 2, 1) := by decide +kernel
theorem dX9_findsDays_182 : decode cX9_findsDays 182 = .ok (.iload 4, 2) := by decide +kernel
theorem dX9_findsDays_184 : decode cX9_findsDays 184 = .ok (.ldc 174, 2) := by decide +kernel
theorem dX9_findsDays_186 : decode cX9_findsDays 186 = .ok (.if_icmp .ge 8, 3) := by decide +kernel
theorem dX9_findsDays_189 : decode cX9_findsDays 189 = .ok (.iload 4, 2) := by decide +kernel
theorem dX9_findsDays_191 : decode cX9_findsDays 191 = .ok (.goto 5, 3) := by decide +kernel
theorem dX9_findsDays_194 : decode cX9_findsDays 194 = .ok (.ldc 174, 2) := by decide +kernel
theorem dX9_findsDays_196 : decode cX9_findsDays 196 = .ok (.iastore, 1) := by decide +kernel
theorem dX9_findsDays_197 : decode cX9_findsDays 197 = .ok (.iinc 2 1, 3) := by decide +kernel
theorem dX9_findsDays_200 : decode cX9_findsDays 200 = .ok (.goto (-198), 3) := by decide +kernel
theorem dX9_findsDays_203 : decode cX9_findsDays 203 = .ok (.return_, 1) := by decide +kernel
theorem dX9_earnedBy_0 : decode cX9_earnedBy 0 = .ok (.aload_n 0, 1) := by decide +kernel
theorem dX9_earnedBy_1 : decode cX9_earnedBy 1 = .ok (.iload_n 1, 1) := by decide +kernel
theorem dX9_earnedBy_2 : decode cX9_earnedBy 2 = .ok (.invokevirtual 185, 3) := by decide +kernel
theorem dX9_earnedBy_5 : decode cX9_earnedBy 5 = .ok (.iconst 0, 1) := by decide +kernel
theorem dX9_earnedBy_6 : decode cX9_earnedBy 6 = .ok (.istore_n 2, 1) := by decide +kernel
theorem dX9_earnedBy_7 : decode cX9_earnedBy 7 = .ok (.iconst 0, 1) := by decide +kernel
theorem dX9_earnedBy_8 : decode cX9_earnedBy 8 = .ok (.istore_n 3, 1) := by decide +kernel
theorem dX9_earnedBy_9 : decode cX9_earnedBy 9 = .ok (.iload_n 3, 1) := by decide +kernel
theorem dX9_earnedBy_10 : decode cX9_earnedBy 10 = .ok (.bipush 8, 2) := by decide +kernel
theorem dX9_earnedBy_12 : decode cX9_earnedBy 12 = .ok (.if_icmp .ge 30, 3) := by decide +kernel
theorem dX9_earnedBy_15 : decode cX9_earnedBy 15 = .ok (.iload_n 2, 1) := by decide +kernel
theorem dX9_earnedBy_16 : decode cX9_earnedBy 16 = .ok (.aload_n 0, 1) := by decide +kernel
theorem dX9_earnedBy_17 : decode cX9_earnedBy 17 = .ok (.getfield 71, 3) := by decide +kernel
theorem dX9_earnedBy_20 : decode cX9_earnedBy 20 = .ok (.iload_n 3, 1) := by decide +kernel
theorem dX9_earnedBy_21 : decode cX9_earnedBy 21 = .ok (.iaload, 1) := by decide +kernel
theorem dX9_earnedBy_22 : decode cX9_earnedBy 22 = .ok (.aload_n 0, 1) := by decide +kernel
theorem dX9_earnedBy_23 : decode cX9_earnedBy 23 = .ok (.getfield 153, 3) := by decide +kernel
theorem dX9_earnedBy_26 : decode cX9_earnedBy 26 = .ok (.if_icmp .gt 7, 3) := by decide +kernel
theorem dX9_earnedBy_29 : decode cX9_earnedBy 29 = .ok (.iconst 1, 1) := by decide +kernel
theorem dX9_earnedBy_30 : decode cX9_earnedBy 30 = .ok (.goto 4, 3) := by decide +kernel
theorem dX9_earnedBy_33 : decode cX9_earnedBy 33 = .ok (.iconst 0, 1) := by decide +kernel
theorem dX9_earnedBy_34 : decode cX9_earnedBy 34 = .ok (.iadd, 1) := by decide +kernel
theorem dX9_earnedBy_35 : decode cX9_earnedBy 35 = .ok (.istore_n 2, 1) := by decide +kernel
theorem dX9_earnedBy_36 : decode cX9_earnedBy 36 = .ok (.iinc 3 1, 3) := by decide +kernel
theorem dX9_earnedBy_39 : decode cX9_earnedBy 39 = .ok (.goto (-30), 3) := by decide +kernel
theorem dX9_earnedBy_42 : decode cX9_earnedBy 42 = .ok (.iload_n 2, 1) := by decide +kernel
theorem dX9_earnedBy_43 : decode cX9_earnedBy 43 = .ok (.ireturn, 1) := by decide +kernel
theorem dX9_prove_0 : decode cX9_prove 0 = .ok (.aload_n 0, 1) := by decide +kernel
theorem dX9_prove_1 : decode cX9_prove 1 = .ok (.aload_n 0, 1) := by decide +kernel
theorem dX9_prove_2 : decode cX9_prove 2 = .ok (.iload_n 1, 1) := by decide +kernel
theorem dX9_prove_3 : decode cX9_prove 3 = .ok (.invokevirtual 129, 3) := by decide +kernel
theorem dX9_prove_6 : decode cX9_prove 6 = .ok (.ifCond .eq 25, 3) := by decide +kernel
theorem dX9_prove_9 : decode cX9_prove 9 = .ok (.iload_n 2, 1) := by decide +kernel
theorem dX9_prove_10 : decode cX9_prove 10 = .ok (.iconst 0, 1) := by decide +kernel
theorem dX9_prove_11 : decode cX9_prove 11 = .ok (.bipush 15, 2) := by decide +kernel
theorem dX9_prove_13 : decode cX9_prove 13 = .ok (.invokestatic 93, 3) := by decide +kernel
theorem dX9_prove_16 : decode cX9_prove 16 = .ok (.ifCond .eq 15, 3) := by decide +kernel
theorem dX9_prove_19 : decode cX9_prove 19 = .ok (.aload_n 0, 1) := by decide +kernel
theorem dX9_prove_20 : decode cX9_prove 20 = .ok (.iload_n 3, 1) := by decide +kernel
theorem dX9_prove_21 : decode cX9_prove 21 = .ok (.invokevirtual 159, 3) := by decide +kernel
theorem dX9_prove_24 : decode cX9_prove 24 = .ok (.ifCond .eq 7, 3) := by decide +kernel
theorem dX9_prove_27 : decode cX9_prove 27 = .ok (.iconst 1, 1) := by decide +kernel
theorem dX9_prove_28 : decode cX9_prove 28 = .ok (.goto 4, 3) := by decide +kernel
theorem dX9_prove_31 : decode cX9_prove 31 = .ok (.iconst 0, 1) := by decide +kernel
theorem dX9_prove_32 : decode cX9_prove 32 = .ok (.invokevirtual 104, 3) := by decide +kernel
theorem dX9_prove_35 : decode cX9_prove 35 = .ok (.ifCond .ne 5, 3) := by decide +kernel
theorem dX9_prove_38 : decode cX9_prove 38 = .ok (.iconst 0, 1) := by decide +kernel
theorem dX9_prove_39 : decode cX9_prove 39 = .ok (.ireturn, 1) := by decide +kernel
theorem dX9_prove_40 : decode cX9_prove 40 = .ok (.iconst 0, 1) := by decide +kernel
theorem dX9_prove_41 : decode cX9_prove 41 = .ok (.istore 4, 2) := by decide +kernel
theorem dX9_prove_43 : decode cX9_prove 43 = .ok (.iconst 0, 1) := by decide +kernel
theorem dX9_prove_44 : decode cX9_prove 44 = .ok (.istore 5, 2) := by decide +kernel
theorem dX9_prove_46 : decode cX9_prove 46 = .ok (.iload 5, 2) := by decide +kernel
theorem dX9_prove_48 : decode cX9_prove 48 = .ok (.iconst 3, 1) := by decide +kernel
theorem dX9_prove_49 : decode cX9_prove 49 = .ok (.if_icmp .ge 35, 3) := by decide +kernel
theorem dX9_prove_52 : decode cX9_prove 52 = .ok (.iload 4, 2) := by decide +kernel
theorem dX9_prove_54 : decode cX9_prove 54 = .ok (.ifCond .ne 17, 3) := by decide +kernel
theorem dX9_prove_57 : decode cX9_prove 57 = .ok (.aload_n 0, 1) := by decide +kernel
theorem dX9_prove_58 : decode cX9_prove 58 = .ok (.iload_n 3, 1) := by decide +kernel
theorem dX9_prove_59 : decode cX9_prove 59 = .ok (.iload 5, 2) := by decide +kernel
theorem dX9_prove_61 : decode cX9_prove 61 = .ok (.aload_n 0, 1) := by decide +kernel
theorem dX9_prove_62 : decode cX9_prove 62 = .ok (.getfield 153, 3) := by decide +kernel
theorem dX9_prove_65 : decode cX9_prove 65 = .ok (.invokevirtual 188, 3) := by decide +kernel
theorem dX9_prove_68 : decode cX9_prove 68 = .ok (.ifCond .eq 7, 3) := by decide +kernel
theorem dX9_prove_71 : decode cX9_prove 71 = .ok (.iconst 1, 1) := by decide +kernel
theorem dX9_prove_72 : decode cX9_prove 72 = .ok (.goto 4, 3) := by decide +kernel
theorem dX9_prove_75 : decode cX9_prove 75 = .ok (.iconst 0, 1) := by decide +kernel
theorem dX9_prove_76 : decode cX9_prove 76 = .ok (.istore 4, 2) := by decide +kernel
theorem dX9_prove_78 : decode cX9_prove 78 = .ok (.iinc 5 1, 3) := by decide +kernel
theorem dX9_prove_81 : decode cX9_prove 81 = .ok (.goto (-35), 3) := by decide +kernel
theorem dX9_prove_84 : decode cX9_prove 84 = .ok (.iload 4, 2) := by decide +kernel
theorem dX9_prove_86 : decode cX9_prove 86 = .ok (.ifCond .eq 31, 3) := by decide +kernel
theorem dX9_prove_89 : decode cX9_prove 89 = .ok (.aload_n 0, 1) := by decide +kernel
theorem dX9_prove_90 : decode cX9_prove 90 = .ok (.getfield 62, 3) := by decide +kernel
theorem dX9_prove_93 : decode cX9_prove 93 = .ok (.iload_n 3, 1) := by decide +kernel
theorem dX9_prove_94 : decode cX9_prove 94 = .ok (.iaload, 1) := by decide +kernel
theorem dX9_prove_95 : decode cX9_prove 95 = .ok (.iload_n 2, 1) := by decide +kernel
theorem dX9_prove_96 : decode cX9_prove 96 = .ok (.ishr, 1) := by decide +kernel
theorem dX9_prove_97 : decode cX9_prove 97 = .ok (.iconst 1, 1) := by decide +kernel
theorem dX9_prove_98 : decode cX9_prove 98 = .ok (.iand, 1) := by decide +kernel
theorem dX9_prove_99 : decode cX9_prove 99 = .ok (.ifCond .eq 18, 3) := by decide +kernel
theorem dX9_prove_102 : decode cX9_prove 102 = .ok (.aload_n 0, 1) := by decide +kernel
theorem dX9_prove_103 : decode cX9_prove 103 = .ok (.getfield 47, 3) := by decide +kernel
theorem dX9_prove_106 : decode cX9_prove 106 = .ok (.bipush 16, 2) := by decide +kernel
theorem dX9_prove_108 : decode cX9_prove 108 = .ok (.iload_n 1, 1) := by decide +kernel
theorem dX9_prove_109 : decode cX9_prove 109 = .ok (.imul, 1) := by decide +kernel
theorem dX9_prove_110 : decode cX9_prove 110 = .ok (.iload_n 2, 1) := by decide +kernel
theorem dX9_prove_111 : decode cX9_prove 111 = .ok (.iadd, 1) := by decide +kernel
theorem dX9_prove_112 : decode cX9_prove 112 = .ok (.iaload, 1) := by decide +kernel
theorem dX9_prove_113 : decode cX9_prove 113 = .ok (.iconst (-1), 1) := by decide +kernel
theorem dX9_prove_114 : decode cX9_prove 114 = .ok (.if_icmp .eq 9, 3) := by decide +kernel
theorem dX9_prove_117 : decode cX9_prove 117 = .ok (.aload_n 0, 1) := by decide +kernel
theorem dX9_prove_118 : decode cX9_prove 118 = .ok (.iconst 2, 1) := by decide +kernel
theorem dX9_prove_119 : decode cX9_prove 119 = .ok (.invokevirtual 108, 3) := by decide +kernel
theorem dX9_prove_122 : decode cX9_prove 122 = .ok (.ireturn, 1) := by decide +kernel
theorem dX9_prove_123 : decode cX9_prove 123 = .ok (.aload_n 0, 1) := by decide +kernel
theorem dX9_prove_124 : decode cX9_prove 124 = .ok (.getfield 47, 3) := by decide +kernel
theorem dX9_prove_127 : decode cX9_prove 127 = .ok (.bipush 16, 2) := by decide +kernel
theorem dX9_prove_129 : decode cX9_prove 129 = .ok (.iload_n 1, 1) := by decide +kernel
theorem dX9_prove_130 : decode cX9_prove 130 = .ok (.imul, 1) := by decide +kernel
theorem dX9_prove_131 : decode cX9_prove 131 = .ok (.iload_n 2, 1) := by decide +kernel
theorem dX9_prove_132 : decode cX9_prove 132 = .ok (.iadd, 1) := by decide +kernel
theorem dX9_prove_133 : decode cX9_prove 133 = .ok (.aload_n 0, 1) := by decide +kernel
theorem dX9_prove_134 : decode cX9_prove 134 = .ok (.getfield 153, 3) := by decide +kernel
theorem dX9_prove_137 : decode cX9_prove 137 = .ok (.iastore, 1) := by decide +kernel
theorem dX9_prove_138 : decode cX9_prove 138 = .ok (.aload_n 0, 1) := by decide +kernel
theorem dX9_prove_139 : decode cX9_prove 139 = .ok (.iload_n 1, 1) := by decide +kernel
theorem dX9_prove_140 : decode cX9_prove 140 = .ok (.invokevirtual 191, 3) := by decide +kernel
theorem dX9_prove_143 : decode cX9_prove 143 = .ok (.ireturn, 1) := by decide +kernel
theorem dX9_event_0 : decode cX9_event 0 = .ok (.aload_n 0, 1) := by decide +kernel
theorem dX9_event_1 : decode cX9_event 1 = .ok (.aload_n 0, 1) := by decide +kernel
theorem dX9_event_2 : decode cX9_event 2 = .ok (.iload_n 1, 1) := by decide +kernel
theorem dX9_event_3 : decode cX9_event 3 = .ok (.invokevirtual 133, 3) := by decide +kernel
theorem dX9_event_6 : decode cX9_event 6 = .ok (.ifCond .eq 14, 3) := by decide +kernel
theorem dX9_event_9 : decode cX9_event 9 = .ok (.iload_n 2, 1) := by decide +kernel
theorem dX9_event_10 : decode cX9_event 10 = .ok (.invokestatic 162, 3) := by decide +kernel
theorem dX9_event_13 : decode cX9_event 13 = .ok (.ifCond .eq 7, 3) := by decide +kernel
theorem dX9_event_16 : decode cX9_event 16 = .ok (.iconst 1, 1) := by decide +kernel
theorem dX9_event_17 : decode cX9_event 17 = .ok (.goto 4, 3) := by decide +kernel
theorem dX9_event_20 : decode cX9_event 20 = .ok (.iconst 0, 1) := by decide +kernel
theorem dX9_event_21 : decode cX9_event 21 = .ok (.invokevirtual 104, 3) := by decide +kernel
theorem dX9_event_24 : decode cX9_event 24 = .ok (.ifCond .ne 5, 3) := by decide +kernel
theorem dX9_event_27 : decode cX9_event 27 = .ok (.iconst 0, 1) := by decide +kernel
theorem dX9_event_28 : decode cX9_event 28 = .ok (.ireturn, 1) := by decide +kernel
theorem dX9_event_29 : decode cX9_event 29 = .ok (.iload_n 3, 1) := by decide +kernel
theorem dX9_event_30 : decode cX9_event 30 = .ok (.iconst 0, 1) := by decide +kernel
theorem dX9_event_31 : decode cX9_event 31 = .ok (.iconst 3, 1) := by decide +kernel
theorem dX9_event_32 : decode cX9_event 32 = .ok (.invokestatic 93, 3) := by decide +kernel
theorem dX9_event_35 : decode cX9_event 35 = .ok (.ifCond .eq 43, 3) := by decide +kernel
theorem dX9_event_38 : decode cX9_event 38 = .ok (.iload 4, 2) := by decide +kernel
theorem dX9_event_40 : decode cX9_event 40 = .ok (.aload_n 0, 1) := by decide +kernel
theorem dX9_event_41 : decode cX9_event 41 = .ok (.getfield 153, 3) := by decide +kernel
theorem dX9_event_44 : decode cX9_event 44 = .ok (.sipush 9999, 3) := by decide +kernel
theorem dX9_event_47 : decode cX9_event 47 = .ok (.invokestatic 93, 3) := by decide +kernel
theorem dX9_event_50 : decode cX9_event 50 = .ok (.ifCond .eq 28, 3) := by decide +kernel
theorem dX9_event_53 : decode cX9_event 53 = .ok (.iload 5, 2) := by decide +kernel
theorem dX9_event_55 : decode cX9_event 55 = .ok (.iconst 0, 1) := by decide +kernel
theorem dX9_event_56 : decode cX9_event 56 = .ok (.bipush 23, 2) := by decide +kernel
theorem dX9_event_58 : decode cX9_event 58 = .ok (.invokestatic 93, 3) := by decide +kernel
theorem dX9_event_61 : decode cX9_event 61 = .ok (.ifCond .eq 17, 3) := by decide +kernel
theorem dX9_event_64 : decode cX9_event 64 = .ok (.iload 6, 2) := by decide +kernel
theorem dX9_event_66 : decode cX9_event 66 = .ok (.iconst 1, 1) := by decide +kernel
theorem dX9_event_67 : decode cX9_event 67 = .ok (.bipush 24, 2) := by decide +kernel
theorem dX9_event_69 : decode cX9_event 69 = .ok (.iload 5, 2) := by decide +kernel
theorem dX9_event_71 : decode cX9_event 71 = .ok (.isub, 1) := by decide +kernel
theorem dX9_event_72 : decode cX9_event 72 = .ok (.invokestatic 93, 3) := by decide +kernel
theorem dX9_event_75 : decode cX9_event 75 = .ok (.ifCond .ne 9, 3) := by decide +kernel
theorem dX9_event_78 : decode cX9_event 78 = .ok (.aload_n 0, 1) := by decide +kernel
theorem dX9_event_79 : decode cX9_event 79 = .ok (.iconst 2, 1) := by decide +kernel
theorem dX9_event_80 : decode cX9_event 80 = .ok (.invokevirtual 108, 3) := by decide +kernel
theorem dX9_event_83 : decode cX9_event 83 = .ok (.ireturn, 1) := by decide +kernel
theorem dX9_event_84 : decode cX9_event 84 = .ok (.aload_n 0, 1) := by decide +kernel
theorem dX9_event_85 : decode cX9_event 85 = .ok (.getfield 194, 3) := by decide +kernel
theorem dX9_event_88 : decode cX9_event 88 = .ok (.bipush 20, 2) := by decide +kernel
theorem dX9_event_90 : decode cX9_event 90 = .ok (.if_icmp .ne 9, 3) := by decide +kernel
theorem dX9_event_93 : decode cX9_event 93 = .ok (.aload_n 0, 1) := by decide +kernel
theorem dX9_event_94 : decode cX9_event 94 = .ok (.iconst 3, 1) := by decide +kernel
theorem dX9_event_95 : decode cX9_event 95 = .ok (.invokevirtual 108, 3) := by decide +kernel
theorem dX9_event_98 : decode cX9_event 98 = .ok (.ireturn, 1) := by decide +kernel
theorem dX9_event_99 : decode cX9_event 99 = .ok (.bipush 6, 2) := by decide +kernel
theorem dX9_event_101 : decode cX9_event 101 = .ok (.aload_n 0, 1) := by decide +kernel
theorem dX9_event_102 : decode cX9_event 102 = .ok (.getfield 194, 3) := by decide +kernel
theorem dX9_event_105 : decode cX9_event 105 = .ok (.imul, 1) := by decide +kernel
theorem dX9_event_106 : decode cX9_event 106 = .ok (.istore 7, 2) := by decide +kernel
theorem dX9_event_108 : decode cX9_event 108 = .ok (.aload_n 0, 1) := by decide +kernel
theorem dX9_event_109 : decode cX9_event 109 = .ok (.getfield 74, 3) := by decide +kernel
theorem dX9_event_112 : decode cX9_event 112 = .ok (.iload 7, 2) := by decide +kernel
theorem dX9_event_114 : decode cX9_event 114 = .ok (.iload_n 1, 1) := by decide +kernel
theorem dX9_event_115 : decode cX9_event 115 = .ok (.iastore, 1) := by decide +kernel
theorem dX9_event_116 : decode cX9_event 116 = .ok (.aload_n 0, 1) := by decide +kernel
theorem dX9_event_117 : decode cX9_event 117 = .ok (.getfield 74, 3) := by decide +kernel
theorem dX9_event_120 : decode cX9_event 120 = .ok (.iload 7, 2) := by decide +kernel
theorem dX9_event_122 : decode cX9_event 122 = .ok (.iconst 1, 1) := by decide +kernel
theorem dX9_event_123 : decode cX9_event 123 = .ok (.iadd, 1) := by decide +kernel
theorem dX9_event_124 : decode cX9_event 124 = .ok (.iload_n 2, 1) := by decide +kernel
theorem dX9_event_125 : decode cX9_event 125 = .ok (.iastore, 1) := by decide +kernel
theorem dX9_event_126 : decode cX9_event 126 = .ok (.aload_n 0, 1) := by decide +kernel
theorem dX9_event_127 : decode cX9_event 127 = .ok (.getfield 74, 3) := by decide +kernel
theorem dX9_event_130 : decode cX9_event 130 = .ok (.iload 7, 2) := by decide +kernel
theorem dX9_event_132 : decode cX9_event 132 = .ok (.iconst 2, 1) := by decide +kernel
theorem dX9_event_133 : decode cX9_event 133 = .ok (.iadd, 1) := by decide +kernel
theorem dX9_event_134 : decode cX9_event 134 = .ok (.iload_n 3, 1) := by decide +kernel
theorem dX9_event_135 : decode cX9_event 135 = .ok (.iastore, 1) := by decide +kernel
theorem dX9_event_136 : decode cX9_event 136 = .ok (.aload_n 0, 1) := by decide +kernel
theorem dX9_event_137 : decode cX9_event 137 = .ok (.getfield 74, 3) := by decide +kernel
theorem dX9_event_140 : decode cX9_event 140 = .ok (.iload 7, 2) := by decide +kernel
theorem dX9_event_142 : decode cX9_event 142 = .ok (.iconst 3, 1) := by decide +kernel
theorem dX9_event_143 : decode cX9_event 143 = .ok (.iadd, 1) := by decide +kernel
theorem dX9_event_144 : decode cX9_event 144 = .ok (.iload 4, 2) := by decide +kernel
theorem dX9_event_146 : decode cX9_event 146 = .ok (.iastore, 1) := by decide +kernel
theorem dX9_event_147 : decode cX9_event 147 = .ok (.aload_n 0, 1) := by decide +kernel
theorem dX9_event_148 : decode cX9_event 148 = .ok (.getfield 74, 3) := by decide +kernel
theorem dX9_event_151 : decode cX9_event 151 = .ok (.iload 7, 2) := by decide +kernel
theorem dX9_event_153 : decode cX9_event 153 = .ok (.iconst 4, 1) := by decide +kernel
theorem dX9_event_154 : decode cX9_event 154 = .ok (.iadd, 1) := by decide +kernel
theorem dX9_event_155 : decode cX9_event 155 = .ok (.iload 5, 2) := by decide +kernel
theorem dX9_event_157 : decode cX9_event 157 = .ok (.iastore, 1) := by decide +kernel
theorem dX9_event_158 : decode cX9_event 158 = .ok (.aload_n 0, 1) := by decide +kernel
theorem dX9_event_159 : decode cX9_event 159 = .ok (.getfield 74, 3) := by decide +kernel
theorem dX9_event_162 : decode cX9_event 162 = .ok (.iload 7, 2) := by decide +kernel
theorem dX9_event_164 : decode cX9_event 164 = .ok (.iconst 5, 1) := by decide +kernel
theorem dX9_event_165 : decode cX9_event 165 = .ok (.iadd, 1) := by decide +kernel
theorem dX9_event_166 : decode cX9_event 166 = .ok (.iload 6, 2) := by decide +kernel
theorem dX9_event_168 : decode cX9_event 168 = .ok (.iastore, 1) := by decide +kernel
theorem dX9_event_169 : decode cX9_event 169 = .ok (.aload_n 0, 1) := by decide +kernel
theorem dX9_event_170 : decode cX9_event 170 = .ok (.dup, 1) := by decide +kernel
theorem dX9_event_171 : decode cX9_event 171 = .ok (.getfield 194, 3) := by decide +kernel
theorem dX9_event_174 : decode cX9_event 174 = .ok (.iconst 1, 1) := by decide +kernel
theorem dX9_event_175 : decode cX9_event 175 = .ok (.iadd, 1) := by decide +kernel
theorem dX9_event_176 : decode cX9_event 176 = .ok (.putfield 194, 3) := by decide +kernel
theorem dX9_event_179 : decode cX9_event 179 = .ok (.aload_n 0, 1) := by decide +kernel
theorem dX9_event_180 : decode cX9_event 180 = .ok (.getfield 194, 3) := by decide +kernel
theorem dX9_event_183 : decode cX9_event 183 = .ok (.iconst 1, 1) := by decide +kernel
theorem dX9_event_184 : decode cX9_event 184 = .ok (.isub, 1) := by decide +kernel
theorem dX9_event_185 : decode cX9_event 185 = .ok (.ireturn, 1) := by decide +kernel
theorem dX9_isEvent_0 : decode cX9_isEvent 0 = .ok (.iload_n 1, 1) := by decide +kernel
theorem dX9_isEvent_1 : decode cX9_isEvent 1 = .ok (.iconst 0, 1) := by decide +kernel
theorem dX9_isEvent_2 : decode cX9_isEvent 2 = .ok (.aload_n 0, 1) := by decide +kernel
theorem dX9_isEvent_3 : decode cX9_isEvent 3 = .ok (.getfield 194, 3) := by decide +kernel
theorem dX9_isEvent_6 : decode cX9_isEvent 6 = .ok (.iconst 1, 1) := by decide +kernel
theorem dX9_isEvent_7 : decode cX9_isEvent 7 = .ok (.isub, 1) := by decide +kernel
theorem dX9_isEvent_8 : decode cX9_isEvent 8 = .ok (.invokestatic 93, 3) := by decide +kernel
theorem dX9_isEvent_11 : decode cX9_isEvent 11 = .ok (.ireturn, 1) := by decide +kernel
theorem dX9_meet_0 : decode cX9_meet 0 = .ok (.bipush 6, 2) := by decide +kernel
theorem dX9_meet_2 : decode cX9_meet 2 = .ok (.iload_n 1, 1) := by decide +kernel
theorem dX9_meet_3 : decode cX9_meet 3 = .ok (.imul, 1) := by decide +kernel
theorem dX9_meet_4 : decode cX9_meet 4 = .ok (.istore_n 3, 1) := by decide +kernel
theorem dX9_meet_5 : decode cX9_meet 5 = .ok (.bipush 6, 2) := by decide +kernel
theorem dX9_meet_7 : decode cX9_meet 7 = .ok (.iload_n 2, 1) := by decide +kernel
theorem dX9_meet_8 : decode cX9_meet 8 = .ok (.imul, 1) := by decide +kernel
theorem dX9_meet_9 : decode cX9_meet 9 = .ok (.istore 4, 2) := by decide +kernel
theorem dX9_meet_11 : decode cX9_meet 11 = .ok (.aload_n 0, 1) := by decide +kernel
theorem dX9_meet_12 : decode cX9_meet 12 = .ok (.getfield 74, 3) := by decide +kernel
theorem dX9_meet_15 : decode cX9_meet 15 = .ok (.iload_n 3, 1) := by decide +kernel
theorem dX9_meet_16 : decode cX9_meet 16 = .ok (.iconst 3, 1) := by decide +kernel
theorem dX9_meet_17 : decode cX9_meet 17 = .ok (.iadd, 1) := by decide +kernel
theorem dX9_meet_18 : decode cX9_meet 18 = .ok (.iaload, 1) := by decide +kernel
theorem dX9_meet_19 : decode cX9_meet 19 = .ok (.aload_n 0, 1) := by decide +kernel
theorem dX9_meet_20 : decode cX9_meet 20 = .ok (.getfield 74, 3) := by decide +kernel
theorem dX9_meet_23 : decode cX9_meet 23 = .ok (.iload 4, 2) := by decide +kernel
theorem dX9_meet_25 : decode cX9_meet 25 = .ok (.iconst 3, 1) := by decide +kernel
theorem dX9_meet_26 : decode cX9_meet 26 = .ok (.iadd, 1) := by decide +kernel
theorem dX9_meet_27 : decode cX9_meet 27 = .ok (.iaload, 1) := by decide +kernel
theorem dX9_meet_28 : decode cX9_meet 28 = .ok (.if_icmp .ne 66, 3) := by decide +kernel
theorem dX9_meet_31 : decode cX9_meet 31 = .ok (.aload_n 0, 1) := by decide +kernel
theorem dX9_meet_32 : decode cX9_meet 32 = .ok (.getfield 74, 3) := by decide +kernel
theorem dX9_meet_35 : decode cX9_meet 35 = .ok (.iload_n 3, 1) := by decide +kernel
theorem dX9_meet_36 : decode cX9_meet 36 = .ok (.iconst 4, 1) := by decide +kernel
theorem dX9_meet_37 : decode cX9_meet 37 = .ok (.iadd, 1) := by decide +kernel
theorem dX9_meet_38 : decode cX9_meet 38 = .ok (.iaload, 1) := by decide +kernel
theorem dX9_meet_39 : decode cX9_meet 39 = .ok (.aload_n 0, 1) := by decide +kernel
theorem dX9_meet_40 : decode cX9_meet 40 = .ok (.getfield 74, 3) := by decide +kernel
theorem dX9_meet_43 : decode cX9_meet 43 = .ok (.iload 4, 2) := by decide +kernel
theorem dX9_meet_45 : decode cX9_meet 45 = .ok (.iconst 4, 1) := by decide +kernel
theorem dX9_meet_46 : decode cX9_meet 46 = .ok (.iadd, 1) := by decide +kernel
theorem dX9_meet_47 : decode cX9_meet 47 = .ok (.iaload, 1) := by decide +kernel
theorem dX9_meet_48 : decode cX9_meet 48 = .ok (.aload_n 0, 1) := by decide +kernel
theorem dX9_meet_49 : decode cX9_meet 49 = .ok (.getfield 74, 3) := by decide +kernel
theorem dX9_meet_52 : decode cX9_meet 52 = .ok (.iload 4, 2) := by decide +kernel
theorem dX9_meet_54 : decode cX9_meet 54 = .ok (.iconst 5, 1) := by decide +kernel
theorem dX9_meet_55 : decode cX9_meet 55 = .ok (.iadd, 1) := by decide +kernel
theorem dX9_meet_56 : decode cX9_meet 56 = .ok (.iaload, 1) := by decide +kernel
theorem dX9_meet_57 : decode cX9_meet 57 = .ok (.iadd, 1) := by decide +kernel
theorem dX9_meet_58 : decode cX9_meet 58 = .ok (.if_icmp .ge 36, 3) := by decide +kernel
theorem dX9_meet_61 : decode cX9_meet 61 = .ok (.aload_n 0, 1) := by decide +kernel
theorem dX9_meet_62 : decode cX9_meet 62 = .ok (.getfield 74, 3) := by decide +kernel
theorem dX9_meet_65 : decode cX9_meet 65 = .ok (.iload 4, 2) := by decide +kernel
theorem dX9_meet_67 : decode cX9_meet 67 = .ok (.iconst 4, 1) := by decide +kernel
theorem dX9_meet_68 : decode cX9_meet 68 = .ok (.iadd, 1) := by decide +kernel
theorem dX9_meet_69 : decode cX9_meet 69 = .ok (.iaload, 1) := by decide +kernel
theorem dX9_meet_70 : decode cX9_meet 70 = .ok (.aload_n 0, 1) := by decide +kernel
theorem dX9_meet_71 : decode cX9_meet 71 = .ok (.getfield 74, 3) := by decide +kernel
theorem dX9_meet_74 : decode cX9_meet 74 = .ok (.iload_n 3, 1) := by decide +kernel
theorem dX9_meet_75 : decode cX9_meet 75 = .ok (.iconst 4, 1) := by decide +kernel
theorem dX9_meet_76 : decode cX9_meet 76 = .ok (.iadd, 1) := by decide +kernel
theorem dX9_meet_77 : decode cX9_meet 77 = .ok (.iaload, 1) := by decide +kernel
theorem dX9_meet_78 : decode cX9_meet 78 = .ok (.aload_n 0, 1) := by decide +kernel
theorem dX9_meet_79 : decode cX9_meet 79 = .ok (.getfield 74, 3) := by decide +kernel
theorem dX9_meet_82 : decode cX9_meet 82 = .ok (.iload_n 3, 1) := by decide +kernel
theorem dX9_meet_83 : decode cX9_meet 83 = .ok (.iconst 5, 1) := by decide +kernel
theorem dX9_meet_84 : decode cX9_meet 84 = .ok (.iadd, 1) := by decide +kernel
theorem dX9_meet_85 : decode cX9_meet 85 = .ok (.iaload, 1) := by decide +kernel
theorem dX9_meet_86 : decode cX9_meet 86 = .ok (.iadd, 1) := by decide +kernel
theorem dX9_meet_87 : decode cX9_meet 87 = .ok (.if_icmp .ge 7, 3) := by decide +kernel
theorem dX9_meet_90 : decode cX9_meet 90 = .ok (.iconst 1, 1) := by decide +kernel
theorem dX9_meet_91 : decode cX9_meet 91 = .ok (.goto 4, 3) := by decide +kernel
theorem dX9_meet_94 : decode cX9_meet 94 = .ok (.iconst 0, 1) := by decide +kernel
theorem dX9_meet_95 : decode cX9_meet 95 = .ok (.ireturn, 1) := by decide +kernel
theorem dX9_staff_0 : decode cX9_staff 0 = .ok (.aload_n 0, 1) := by decide +kernel
theorem dX9_staff_1 : decode cX9_staff 1 = .ok (.aload_n 0, 1) := by decide +kernel
theorem dX9_staff_2 : decode cX9_staff 2 = .ok (.iload_n 1, 1) := by decide +kernel
theorem dX9_staff_3 : decode cX9_staff 3 = .ok (.invokevirtual 197, 3) := by decide +kernel
theorem dX9_staff_6 : decode cX9_staff 6 = .ok (.ifCond .eq 15, 3) := by decide +kernel
theorem dX9_staff_9 : decode cX9_staff 9 = .ok (.aload_n 0, 1) := by decide +kernel
theorem dX9_staff_10 : decode cX9_staff 10 = .ok (.iload_n 2, 1) := by decide +kernel
theorem dX9_staff_11 : decode cX9_staff 11 = .ok (.invokevirtual 159, 3) := by decide +kernel
theorem dX9_staff_14 : decode cX9_staff 14 = .ok (.ifCond .eq 7, 3) := by decide +kernel
theorem dX9_staff_17 : decode cX9_staff 17 = .ok (.iconst 1, 1) := by decide +kernel
theorem dX9_staff_18 : decode cX9_staff 18 = .ok (.goto 4, 3) := by decide +kernel
theorem dX9_staff_21 : decode cX9_staff 21 = .ok (.iconst 0, 1) := by decide +kernel
theorem dX9_staff_22 : decode cX9_staff 22 = .ok (.invokevirtual 104, 3) := by decide +kernel
theorem dX9_staff_25 : decode cX9_staff 25 = .ok (.ifCond .ne 5, 3) := by decide +kernel
theorem dX9_staff_28 : decode cX9_staff 28 = .ok (.iconst 0, 1) := by decide +kernel
theorem dX9_staff_29 : decode cX9_staff 29 = .ok (.ireturn, 1) := by decide +kernel
theorem dX9_staff_30 : decode cX9_staff 30 = .ok (.iconst 0, 1) := by decide +kernel
theorem dX9_staff_31 : decode cX9_staff 31 = .ok (.istore 4, 2) := by decide +kernel
theorem dX9_staff_33 : decode cX9_staff 33 = .ok (.iconst 0, 1) := by decide +kernel
theorem dX9_staff_34 : decode cX9_staff 34 = .ok (.istore 5, 2) := by decide +kernel
theorem dX9_staff_36 : decode cX9_staff 36 = .ok (.iload 5, 2) := by decide +kernel
theorem dX9_staff_38 : decode cX9_staff 38 = .ok (.aload_n 0, 1) := by decide +kernel
theorem dX9_staff_39 : decode cX9_staff 39 = .ok (.getfield 194, 3) := by decide +kernel
theorem dX9_staff_42 : decode cX9_staff 42 = .ok (.if_icmp .ge 52, 3) := by decide +kernel
theorem dX9_staff_45 : decode cX9_staff 45 = .ok (.iload 4, 2) := by decide +kernel
theorem dX9_staff_47 : decode cX9_staff 47 = .ok (.ifCond .ne 34, 3) := by decide +kernel
theorem dX9_staff_50 : decode cX9_staff 50 = .ok (.iload 5, 2) := by decide +kernel
theorem dX9_staff_52 : decode cX9_staff 52 = .ok (.iload_n 1, 1) := by decide +kernel
theorem dX9_staff_53 : decode cX9_staff 53 = .ok (.if_icmp .eq 32, 3) := by decide +kernel
theorem dX9_staff_56 : decode cX9_staff 56 = .ok (.aload_n 0, 1) := by decide +kernel
theorem dX9_staff_57 : decode cX9_staff 57 = .ok (.getfield 77, 3) := by decide +kernel
theorem dX9_staff_60 : decode cX9_staff 60 = .ok (.iload 5, 2) := by decide +kernel
theorem dX9_staff_62 : decode cX9_staff 62 = .ok (.iaload, 1) := by decide +kernel
theorem dX9_staff_63 : decode cX9_staff 63 = .ok (.iload_n 2, 1) := by decide +kernel
theorem dX9_staff_64 : decode cX9_staff 64 = .ok (.ishr, 1) := by decide +kernel
theorem dX9_staff_65 : decode cX9_staff 65 = .ok (.iconst 1, 1) := by decide +kernel
theorem dX9_staff_66 : decode cX9_staff 66 = .ok (.iand, 1) := by decide +kernel
theorem dX9_staff_67 : decode cX9_staff 67 = .ok (.iconst 1, 1) := by decide +kernel
theorem dX9_staff_68 : decode cX9_staff 68 = .ok (.if_icmp .ne 17, 3) := by decide +kernel
theorem dX9_staff_71 : decode cX9_staff 71 = .ok (.aload_n 0, 1) := by decide +kernel
theorem dX9_staff_72 : decode cX9_staff 72 = .ok (.iload 5, 2) := by decide +kernel
theorem dX9_staff_74 : decode cX9_staff 74 = .ok (.iload_n 1, 1) := by decide +kernel
theorem dX9_staff_75 : decode cX9_staff 75 = .ok (.invokevirtual 200, 3) := by decide +kernel
theorem dX9_staff_78 : decode cX9_staff 78 = .ok (.ifCond .eq 7, 3) := by decide +kernel
theorem dX9_staff_81 : decode cX9_staff 81 = .ok (.iconst 1, 1) := by decide +kernel
theorem dX9_staff_82 : decode cX9_staff 82 = .ok (.goto 4, 3) := by decide +kernel
theorem dX9_staff_85 : decode cX9_staff 85 = .ok (.iconst 0, 1) := by decide +kernel
theorem dX9_staff_86 : decode cX9_staff 86 = .ok (.istore 4, 2) := by decide +kernel
theorem dX9_staff_88 : decode cX9_staff 88 = .ok (.iinc 5 1, 3) := by decide +kernel
theorem dX9_staff_91 : decode cX9_staff 91 = .ok (.goto (-55), 3) := by decide +kernel
theorem dX9_staff_94 : decode cX9_staff 94 = .ok (.iload_n 3, 1) := by decide +kernel
theorem dX9_staff_95 : decode cX9_staff 95 = .ok (.ifCond .eq 14, 3) := by decide +kernel
theorem dX9_staff_98 : decode cX9_staff 98 = .ok (.iload 4, 2) := by decide +kernel
theorem dX9_staff_100 : decode cX9_staff 100 = .ok (.ifCond .eq 9, 3) := by decide +kernel
theorem dX9_staff_103 : decode cX9_staff 103 = .ok (.aload_n 0, 1) := by decide +kernel
theorem dX9_staff_104 : decode cX9_staff 104 = .ok (.iconst 2, 1) := by decide +kernel
theorem dX9_staff_105 : decode cX9_staff 105 = .ok (.invokevirtual 108, 3) := by decide +kernel
theorem dX9_staff_108 : decode cX9_staff 108 = .ok (.ireturn, 1) := by decide +kernel
theorem dX9_staff_109 : decode cX9_staff 109 = .ok (.aload_n 0, 1) := by decide +kernel
theorem dX9_staff_110 : decode cX9_staff 110 = .ok (.getfield 77, 3) := by decide +kernel
theorem dX9_staff_113 : decode cX9_staff 113 = .ok (.iload_n 1, 1) := by decide +kernel
theorem dX9_staff_114 : decode cX9_staff 114 = .ok (.iload_n 3, 1) := by decide +kernel
theorem dX9_staff_115 : decode cX9_staff 115 = .ok (.ifCond .eq 16, 3) := by decide +kernel
theorem dX9_staff_118 : decode cX9_staff 118 = .ok (.aload_n 0, 1) := by decide +kernel
theorem dX9_staff_119 : decode cX9_staff 119 = .ok (.getfield 77, 3) := by decide +kernel
theorem dX9_staff_122 : decode cX9_staff 122 = .ok (.iload_n 1, 1) := by decide +kernel
theorem dX9_staff_123 : decode cX9_staff 123 = .ok (.iaload, 1) := by decide +kernel
theorem dX9_staff_124 : decode cX9_staff 124 = .ok (.iconst 1, 1) := by decide +kernel
theorem dX9_staff_125 : decode cX9_staff 125 = .ok (.iload_n 2, 1) := by decide +kernel
theorem dX9_staff_126 : decode cX9_staff 126 = .ok (.ishl, 1) := by decide +kernel
theorem dX9_staff_127 : decode cX9_staff 127 = .ok (.ior, 1) := by decide +kernel
theorem dX9_staff_128 : decode cX9_staff 128 = .ok (.goto 15, 3) := by decide +kernel
theorem dX9_staff_131 : decode cX9_staff 131 = .ok (.aload_n 0, 1) := by decide +kernel
theorem dX9_staff_132 : decode cX9_staff 132 = .ok (.getfield 77, 3) := by decide +kernel
theorem dX9_staff_135 : decode cX9_staff 135 = .ok (.iload_n 1, 1) := by decide +kernel
theorem dX9_staff_136 : decode cX9_staff 136 = .ok (.iaload, 1) := by decide +kernel
theorem dX9_staff_137 : decode cX9_staff 137 = .ok (.iconst 1, 1) := by decide +kernel
theorem dX9_staff_138 : decode cX9_staff 138 = .ok (.iload_n 2, 1) := by decide +kernel
theorem dX9_staff_139 : decode cX9_staff 139 = .ok (.ishl, 1) := by decide +kernel
theorem dX9_staff_140 : decode cX9_staff 140 = .ok (.iconst (-1), 1) := by decide +kernel
theorem dX9_staff_141 : decode cX9_staff 141 = .ok (.ixor, 1) := by decide +kernel
theorem dX9_staff_142 : decode cX9_staff 142 = .ok (.iand, 1) := by decide +kernel
theorem dX9_staff_143 : decode cX9_staff 143 = .ok (.iastore, 1) := by decide +kernel
theorem dX9_staff_144 : decode cX9_staff 144 = .ok (.aload_n 0, 1) := by decide +kernel
theorem dX9_staff_145 : decode cX9_staff 145 = .ok (.getfield 77, 3) := by decide +kernel
theorem dX9_staff_148 : decode cX9_staff 148 = .ok (.iload_n 1, 1) := by decide +kernel
theorem dX9_staff_149 : decode cX9_staff 149 = .ok (.iaload, 1) := by decide +kernel
theorem dX9_staff_150 : decode cX9_staff 150 = .ok (.invokestatic 171, 3) := by decide +kernel
theorem dX9_staff_153 : decode cX9_staff 153 = .ok (.ireturn, 1) := by decide +kernel
theorem dX9_ratio_0 : decode cX9_ratio 0 = .ok (.iload_n 0, 1) := by decide +kernel
theorem dX9_ratio_1 : decode cX9_ratio 1 = .ok (.ifCond .ne 8, 3) := by decide +kernel
theorem dX9_ratio_4 : decode cX9_ratio 4 = .ok (.bipush 8, 2) := by decide +kernel
theorem dX9_ratio_6 : decode cX9_ratio 6 = .ok (.goto 23, 3) := by decide +kernel
theorem dX9_ratio_9 : decode cX9_ratio 9 = .ok (.iload_n 0, 1) := by decide +kernel
theorem dX9_ratio_10 : decode cX9_ratio 10 = .ok (.iconst 1, 1) := by decide +kernel
theorem dX9_ratio_11 : decode cX9_ratio 11 = .ok (.if_icmp .ne 7, 3) := by decide +kernel
theorem dX9_ratio_14 : decode cX9_ratio 14 = .ok (.iconst 4, 1) := by decide +kernel
theorem dX9_ratio_15 : decode cX9_ratio 15 = .ok (.goto 14, 3) := by decide +kernel
theorem dX9_ratio_18 : decode cX9_ratio 18 = .ok (.iload_n 0, 1) := by decide +kernel
theorem dX9_ratio_19 : decode cX9_ratio 19 = .ok (.iconst 2, 1) := by decide +kernel
theorem dX9_ratio_20 : decode cX9_ratio 20 = .ok (.if_icmp .ne 7, 3) := by decide +kernel
theorem dX9_ratio_23 : decode cX9_ratio 23 = .ok (.iconst 3, 1) := by decide +kernel
theorem dX9_ratio_24 : decode cX9_ratio 24 = .ok (.goto 5, 3) := by decide +kernel
theorem dX9_ratio_27 : decode cX9_ratio 27 = .ok (.bipush 6, 2) := by decide +kernel
theorem dX9_ratio_29 : decode cX9_ratio 29 = .ok (.ireturn, 1) := by decide +kernel
theorem dX9_reason_0 : decode cX9_reason 0 = .ok (.bipush 6, 2) := by decide +kernel
theorem dX9_reason_2 : decode cX9_reason 2 = .ok (.iload_n 1, 1) := by decide +kernel
theorem dX9_reason_3 : decode cX9_reason 3 = .ok (.imul, 1) := by decide +kernel
theorem dX9_reason_4 : decode cX9_reason 4 = .ok (.istore_n 3, 1) := by decide +kernel
theorem dX9_reason_5 : decode cX9_reason 5 = .ok (.aload_n 0, 1) := by decide +kernel
theorem dX9_reason_6 : decode cX9_reason 6 = .ok (.aload_n 0, 1) := by decide +kernel
theorem dX9_reason_7 : decode cX9_reason 7 = .ok (.getfield 74, 3) := by decide +kernel
theorem dX9_reason_10 : decode cX9_reason 10 = .ok (.iload_n 3, 1) := by decide +kernel
theorem dX9_reason_11 : decode cX9_reason 11 = .ok (.iaload, 1) := by decide +kernel
theorem dX9_reason_12 : decode cX9_reason 12 = .ok (.invokevirtual 116, 3) := by decide +kernel
theorem dX9_reason_15 : decode cX9_reason 15 = .ok (.istore 4, 2) := by decide +kernel
theorem dX9_reason_17 : decode cX9_reason 17 = .ok (.aload_n 0, 1) := by decide +kernel
theorem dX9_reason_18 : decode cX9_reason 18 = .ok (.getfield 74, 3) := by decide +kernel
theorem dX9_reason_21 : decode cX9_reason 21 = .ok (.iload_n 3, 1) := by decide +kernel
theorem dX9_reason_22 : decode cX9_reason 22 = .ok (.iconst 2, 1) := by decide +kernel
theorem dX9_reason_23 : decode cX9_reason 23 = .ok (.iadd, 1) := by decide +kernel
theorem dX9_reason_24 : decode cX9_reason 24 = .ok (.iaload, 1) := by decide +kernel
theorem dX9_reason_25 : decode cX9_reason 25 = .ok (.istore 5, 2) := by decide +kernel
theorem dX9_reason_27 : decode cX9_reason 27 = .ok (.iload 4, 2) := by decide +kernel
theorem dX9_reason_29 : decode cX9_reason 29 = .ok (.ifCond .ne 5, 3) := by decide +kernel
theorem dX9_reason_32 : decode cX9_reason 32 = .ok (.iconst 0, 1) := by decide +kernel
theorem dX9_reason_33 : decode cX9_reason 33 = .ok (.ireturn, 1) := by decide +kernel
theorem dX9_reason_34 : decode cX9_reason 34 = .ok (.iload_n 2, 1) := by decide +kernel
theorem dX9_reason_35 : decode cX9_reason 35 = .ok (.invokestatic 171, 3) := by decide +kernel
theorem dX9_reason_38 : decode cX9_reason 38 = .ok (.iload 5, 2) := by decide +kernel
theorem dX9_reason_40 : decode cX9_reason 40 = .ok (.invokestatic 203, 3) := by decide +kernel
theorem dX9_reason_43 : decode cX9_reason 43 = .ok (.imul, 1) := by decide +kernel
theorem dX9_reason_44 : decode cX9_reason 44 = .ok (.iload 4, 2) := by decide +kernel
theorem dX9_reason_46 : decode cX9_reason 46 = .ok (.if_icmp .ge 5, 3) := by decide +kernel
theorem dX9_reason_49 : decode cX9_reason 49 = .ok (.iconst 1, 1) := by decide +kernel
theorem dX9_reason_50 : decode cX9_reason 50 = .ok (.ireturn, 1) := by decide +kernel
theorem dX9_reason_51 : decode cX9_reason 51 = .ok (.iload 5, 2) := by decide +kernel
theorem dX9_reason_53 : decode cX9_reason 53 = .ok (.ifCond .ne 7, 3) := by decide +kernel
theorem dX9_reason_56 : decode cX9_reason 56 = .ok (.iconst 1, 1) := by decide +kernel
theorem dX9_reason_57 : decode cX9_reason 57 = .ok (.goto 4, 3) := by decide +kernel
theorem dX9_reason_60 : decode cX9_reason 60 = .ok (.iconst 0, 1) := by decide +kernel
theorem dX9_reason_61 : decode cX9_reason 61 = .ok (.istore 6, 2) := by decide +kernel
theorem dX9_reason_63 : decode cX9_reason 63 = .ok (.iconst 0, 1) := by decide +kernel
theorem dX9_reason_64 : decode cX9_reason 64 = .ok (.istore 7, 2) := by decide +kernel
theorem dX9_reason_66 : decode cX9_reason 66 = .ok (.iload 7, 2) := by decide +kernel
theorem dX9_reason_68 : decode cX9_reason 68 = .ok (.aload_n 0, 1) := by decide +kernel
theorem dX9_reason_69 : decode cX9_reason 69 = .ok (.getfield 100, 3) := by decide +kernel
theorem dX9_reason_72 : decode cX9_reason 72 = .ok (.if_icmp .ge 100, 3) := by decide +kernel
theorem dX9_reason_75 : decode cX9_reason 75 = .ok (.iload_n 2, 1) := by decide +kernel
theorem dX9_reason_76 : decode cX9_reason 76 = .ok (.iload 7, 2) := by decide +kernel
theorem dX9_reason_78 : decode cX9_reason 78 = .ok (.ishr, 1) := by decide +kernel
theorem dX9_reason_79 : decode cX9_reason 79 = .ok (.iconst 1, 1) := by decide +kernel
theorem dX9_reason_80 : decode cX9_reason 80 = .ok (.iand, 1) := by decide +kernel
theorem dX9_reason_81 : decode cX9_reason 81 = .ok (.iconst 1, 1) := by decide +kernel
theorem dX9_reason_82 : decode cX9_reason 82 = .ok (.if_icmp .ne 7, 3) := by decide +kernel
theorem dX9_reason_85 : decode cX9_reason 85 = .ok (.iconst 1, 1) := by decide +kernel
theorem dX9_reason_86 : decode cX9_reason 86 = .ok (.goto 4, 3) := by decide +kernel
theorem dX9_reason_89 : decode cX9_reason 89 = .ok (.iconst 0, 1) := by decide +kernel
theorem dX9_reason_90 : decode cX9_reason 90 = .ok (.istore 8, 2) := by decide +kernel
theorem dX9_reason_92 : decode cX9_reason 92 = .ok (.iload 8, 2) := by decide +kernel
theorem dX9_reason_94 : decode cX9_reason 94 = .ok (.ifCond .eq 30, 3) := by decide +kernel
theorem dX9_reason_97 : decode cX9_reason 97 = .ok (.aload_n 0, 1) := by decide +kernel
theorem dX9_reason_98 : decode cX9_reason 98 = .ok (.iload 7, 2) := by decide +kernel
theorem dX9_reason_100 : decode cX9_reason 100 = .ok (.aload_n 0, 1) := by decide +kernel
theorem dX9_reason_101 : decode cX9_reason 101 = .ok (.getfield 74, 3) := by decide +kernel
theorem dX9_reason_104 : decode cX9_reason 104 = .ok (.iload_n 3, 1) := by decide +kernel
theorem dX9_reason_105 : decode cX9_reason 105 = .ok (.iconst 1, 1) := by decide +kernel
theorem dX9_reason_106 : decode cX9_reason 106 = .ok (.iadd, 1) := by decide +kernel
theorem dX9_reason_107 : decode cX9_reason 107 = .ok (.iaload, 1) := by decide +kernel
theorem dX9_reason_108 : decode cX9_reason 108 = .ok (.aload_n 0, 1) := by decide +kernel
theorem dX9_reason_109 : decode cX9_reason 109 = .ok (.getfield 74, 3) := by decide +kernel
theorem dX9_reason_112 : decode cX9_reason 112 = .ok (.iload_n 3, 1) := by decide +kernel
theorem dX9_reason_113 : decode cX9_reason 113 = .ok (.iconst 3, 1) := by decide +kernel
theorem dX9_reason_114 : decode cX9_reason 114 = .ok (.iadd, 1) := by decide +kernel
theorem dX9_reason_115 : decode cX9_reason 115 = .ok (.iaload, 1) := by decide +kernel
theorem dX9_reason_116 : decode cX9_reason 116 = .ok (.invokevirtual 188, 3) := by decide +kernel
theorem dX9_reason_119 : decode cX9_reason 119 = .ok (.ifCond .ne 5, 3) := by decide +kernel
theorem dX9_reason_122 : decode cX9_reason 122 = .ok (.iconst 2, 1) := by decide +kernel
theorem dX9_reason_123 : decode cX9_reason 123 = .ok (.ireturn, 1) := by decide +kernel
theorem dX9_reason_124 : decode cX9_reason 124 = .ok (.iload 6, 2) := by decide +kernel
theorem dX9_reason_126 : decode cX9_reason 126 = .ok (.ifCond .ne 33, 3) := by decide +kernel
theorem dX9_reason_129 : decode cX9_reason 129 = .ok (.iload 8, 2) := by decide +kernel
theorem dX9_reason_131 : decode cX9_reason 131 = .ok (.ifCond .eq 32, 3) := by decide +kernel
theorem dX9_reason_134 : decode cX9_reason 134 = .ok (.aload_n 0, 1) := by decide +kernel
theorem dX9_reason_135 : decode cX9_reason 135 = .ok (.getfield 59, 3) := by decide +kernel
theorem dX9_reason_138 : decode cX9_reason 138 = .ok (.iconst 3, 1) := by decide +kernel
theorem dX9_reason_139 : decode cX9_reason 139 = .ok (.iload 7, 2) := by decide +kernel
theorem dX9_reason_141 : decode cX9_reason 141 = .ok (.imul, 1) := by decide +kernel
theorem dX9_reason_142 : decode cX9_reason 142 = .ok (.iload 5, 2) := by decide +kernel
theorem dX9_reason_144 : decode cX9_reason 144 = .ok (.iadd, 1) := by decide +kernel
theorem dX9_reason_145 : decode cX9_reason 145 = .ok (.iconst 1, 1) := by decide +kernel
theorem dX9_reason_146 : decode cX9_reason 146 = .ok (.isub, 1) := by decide +kernel
theorem dX9_reason_147 : decode cX9_reason 147 = .ok (.iaload, 1) := by decide +kernel
theorem dX9_reason_148 : decode cX9_reason 148 = .ok (.aload_n 0, 1) := by decide +kernel
theorem dX9_reason_149 : decode cX9_reason 149 = .ok (.getfield 74, 3) := by decide +kernel
theorem dX9_reason_152 : decode cX9_reason 152 = .ok (.iload_n 3, 1) := by decide +kernel
theorem dX9_reason_153 : decode cX9_reason 153 = .ok (.iconst 3, 1) := by decide +kernel
theorem dX9_reason_154 : decode cX9_reason 154 = .ok (.iadd, 1) := by decide +kernel
theorem dX9_reason_155 : decode cX9_reason 155 = .ok (.iaload, 1) := by decide +kernel
theorem dX9_reason_156 : decode cX9_reason 156 = .ok (.if_icmp .lt 7, 3) := by decide +kernel
theorem dX9_reason_159 : decode cX9_reason 159 = .ok (.iconst 1, 1) := by decide +kernel
theorem dX9_reason_160 : decode cX9_reason 160 = .ok (.goto 4, 3) := by decide +kernel
theorem dX9_reason_163 : decode cX9_reason 163 = .ok (.iconst 0, 1) := by decide +kernel
theorem dX9_reason_164 : decode cX9_reason 164 = .ok (.istore 6, 2) := by decide +kernel
theorem dX9_reason_166 : decode cX9_reason 166 = .ok (.iinc 7 1, 3) := by decide +kernel
theorem dX9_reason_169 : decode cX9_reason 169 = .ok (.goto (-103), 3) := by decide +kernel
theorem dX9_reason_172 : decode cX9_reason 172 = .ok (.iload 6, 2) := by decide +kernel
theorem dX9_reason_174 : decode cX9_reason 174 = .ok (.ifCond .ne 7, 3) := by decide +kernel
theorem dX9_reason_177 : decode cX9_reason 177 = .ok (.iconst 3, 1) := by decide +kernel
theorem dX9_reason_178 : decode cX9_reason 178 = .ok (.goto 22, 3) := by decide +kernel
theorem dX9_reason_181 : decode cX9_reason 181 = .ok (.iload 4, 2) := by decide +kernel
theorem dX9_reason_183 : decode cX9_reason 183 = .ok (.iconst 1, 1) := by decide +kernel
theorem dX9_reason_184 : decode cX9_reason 184 = .ok (.if_icmp .ne 15, 3) := by decide +kernel
theorem dX9_reason_187 : decode cX9_reason 187 = .ok (.iload_n 2, 1) := by decide +kernel
theorem dX9_reason_188 : decode cX9_reason 188 = .ok (.invokestatic 171, 3) := by decide +kernel
theorem dX9_reason_191 : decode cX9_reason 191 = .ok (.iconst 1, 1) := by decide +kernel
theorem dX9_reason_192 : decode cX9_reason 192 = .ok (.if_icmp .ne 7, 3) := by decide +kernel
theorem dX9_reason_195 : decode cX9_reason 195 = .ok (.iconst 4, 1) := by decide +kernel
theorem dX9_reason_196 : decode cX9_reason 196 = .ok (.goto 4, 3) := by decide +kernel
theorem dX9_reason_199 : decode cX9_reason 199 = .ok (.iconst 0, 1) := by decide +kernel
theorem dX9_reason_200 : decode cX9_reason 200 = .ok (.ireturn, 1) := by decide +kernel
theorem dX9_why_0 : decode cX9_why 0 = .ok (.aload_n 0, 1) := by decide +kernel
theorem dX9_why_1 : decode cX9_why 1 = .ok (.aload_n 0, 1) := by decide +kernel
theorem dX9_why_2 : decode cX9_why 2 = .ok (.iload_n 1, 1) := by decide +kernel
theorem dX9_why_3 : decode cX9_why 3 = .ok (.invokevirtual 197, 3) := by decide +kernel
theorem dX9_why_6 : decode cX9_why 6 = .ok (.invokevirtual 104, 3) := by decide +kernel
theorem dX9_why_9 : decode cX9_why 9 = .ok (.ifCond .eq 17, 3) := by decide +kernel
theorem dX9_why_12 : decode cX9_why 12 = .ok (.aload_n 0, 1) := by decide +kernel
theorem dX9_why_13 : decode cX9_why 13 = .ok (.iload_n 1, 1) := by decide +kernel
theorem dX9_why_14 : decode cX9_why 14 = .ok (.aload_n 0, 1) := by decide +kernel
theorem dX9_why_15 : decode cX9_why 15 = .ok (.getfield 77, 3) := by decide +kernel
theorem dX9_why_18 : decode cX9_why 18 = .ok (.iload_n 1, 1) := by decide +kernel
theorem dX9_why_19 : decode cX9_why 19 = .ok (.iaload, 1) := by decide +kernel
theorem dX9_why_20 : decode cX9_why 20 = .ok (.invokevirtual 206, 3) := by decide +kernel
theorem dX9_why_23 : decode cX9_why 23 = .ok (.goto 4, 3) := by decide +kernel
theorem dX9_why_26 : decode cX9_why 26 = .ok (.iconst 0, 1) := by decide +kernel
theorem dX9_why_27 : decode cX9_why 27 = .ok (.ireturn, 1) := by decide +kernel
theorem dX9_couldStaff_0 : decode cX9_couldStaff 0 = .ok (.aload_n 0, 1) := by decide +kernel
theorem dX9_couldStaff_1 : decode cX9_couldStaff 1 = .ok (.iload_n 1, 1) := by decide +kernel
theorem dX9_couldStaff_2 : decode cX9_couldStaff 2 = .ok (.invokestatic 150, 3) := by decide +kernel
theorem dX9_couldStaff_5 : decode cX9_couldStaff 5 = .ok (.ifCond .eq 33, 3) := by decide +kernel
theorem dX9_couldStaff_8 : decode cX9_couldStaff 8 = .ok (.iload_n 2, 1) := by decide +kernel
theorem dX9_couldStaff_9 : decode cX9_couldStaff 9 = .ok (.iconst 0, 1) := by decide +kernel
theorem dX9_couldStaff_10 : decode cX9_couldStaff 10 = .ok (.bipush 23, 2) := by decide +kernel
theorem dX9_couldStaff_12 : decode cX9_couldStaff 12 = .ok (.invokestatic 93, 3) := by decide +kernel
theorem dX9_couldStaff_15 : decode cX9_couldStaff 15 = .ok (.ifCond .eq 23, 3) := by decide +kernel
theorem dX9_couldStaff_18 : decode cX9_couldStaff 18 = .ok (.iload_n 3, 1) := by decide +kernel
theorem dX9_couldStaff_19 : decode cX9_couldStaff 19 = .ok (.iconst 0, 1) := by decide +kernel
theorem dX9_couldStaff_20 : decode cX9_couldStaff 20 = .ok (.iconst 1, 1) := by decide +kernel
theorem dX9_couldStaff_21 : decode cX9_couldStaff 21 = .ok (.aload_n 0, 1) := by decide +kernel
theorem dX9_couldStaff_22 : decode cX9_couldStaff 22 = .ok (.getfield 100, 3) := by decide +kernel
theorem dX9_couldStaff_25 : decode cX9_couldStaff 25 = .ok (.ishl, 1) := by decide +kernel
theorem dX9_couldStaff_26 : decode cX9_couldStaff 26 = .ok (.iconst 1, 1) := by decide +kernel
theorem dX9_couldStaff_27 : decode cX9_couldStaff 27 = .ok (.isub, 1) := by decide +kernel
theorem dX9_couldStaff_28 : decode cX9_couldStaff 28 = .ok (.invokestatic 93, 3) := by decide +kernel
theorem dX9_couldStaff_31 : decode cX9_couldStaff 31 = .ok (.ifCond .eq 7, 3) := by decide +kernel
theorem dX9_couldStaff_34 : decode cX9_couldStaff 34 = .ok (.iconst 1, 1) := by decide +kernel
theorem dX9_couldStaff_35 : decode cX9_couldStaff 35 = .ok (.goto 4, 3) := by decide +kernel
theorem dX9_couldStaff_38 : decode cX9_couldStaff 38 = .ok (.iconst 0, 1) := by decide +kernel
theorem dX9_couldStaff_39 : decode cX9_couldStaff 39 = .ok (.invokevirtual 104, 3) := by decide +kernel
theorem dX9_couldStaff_42 : decode cX9_couldStaff 42 = .ok (.ifCond .ne 5, 3) := by decide +kernel
theorem dX9_couldStaff_45 : decode cX9_couldStaff 45 = .ok (.iconst 0, 1) := by decide +kernel
theorem dX9_couldStaff_46 : decode cX9_couldStaff 46 = .ok (.ireturn, 1) := by decide +kernel
theorem dX9_couldStaff_47 : decode cX9_couldStaff 47 = .ok (.iconst 0, 1) := by decide +kernel
theorem dX9_couldStaff_48 : decode cX9_couldStaff 48 = .ok (.istore 4, 2) := by decide +kernel
theorem dX9_couldStaff_50 : decode cX9_couldStaff 50 = .ok (.iconst 0, 1) := by decide +kernel
theorem dX9_couldStaff_51 : decode cX9_couldStaff 51 = .ok (.istore 5, 2) := by decide +kernel
theorem dX9_couldStaff_53 : decode cX9_couldStaff 53 = .ok (.iload 5, 2) := by decide +kernel
theorem dX9_couldStaff_55 : decode cX9_couldStaff 55 = .ok (.aload_n 0, 1) := by decide +kernel
theorem dX9_couldStaff_56 : decode cX9_couldStaff 56 = .ok (.getfield 194, 3) := by decide +kernel
theorem dX9_couldStaff_59 : decode cX9_couldStaff 59 = .ok (.if_icmp .ge 132, 3) := by decide +kernel
theorem dX9_couldStaff_62 : decode cX9_couldStaff 62 = .ok (.bipush 6, 2) := by decide +kernel
theorem dX9_couldStaff_64 : decode cX9_couldStaff 64 = .ok (.iload 5, 2) := by decide +kernel
theorem dX9_couldStaff_66 : decode cX9_couldStaff 66 = .ok (.imul, 1) := by decide +kernel
theorem dX9_couldStaff_67 : decode cX9_couldStaff 67 = .ok (.istore 6, 2) := by decide +kernel
theorem dX9_couldStaff_69 : decode cX9_couldStaff 69 = .ok (.aload_n 0, 1) := by decide +kernel
theorem dX9_couldStaff_70 : decode cX9_couldStaff 70 = .ok (.getfield 74, 3) := by decide +kernel
theorem dX9_couldStaff_73 : decode cX9_couldStaff 73 = .ok (.iload 6, 2) := by decide +kernel
theorem dX9_couldStaff_75 : decode cX9_couldStaff 75 = .ok (.iconst 3, 1) := by decide +kernel
theorem dX9_couldStaff_76 : decode cX9_couldStaff 76 = .ok (.iadd, 1) := by decide +kernel
theorem dX9_couldStaff_77 : decode cX9_couldStaff 77 = .ok (.iaload, 1) := by decide +kernel
theorem dX9_couldStaff_78 : decode cX9_couldStaff 78 = .ok (.iload_n 1, 1) := by decide +kernel
theorem dX9_couldStaff_79 : decode cX9_couldStaff 79 = .ok (.if_icmp .ne 44, 3) := by decide +kernel
theorem dX9_couldStaff_82 : decode cX9_couldStaff 82 = .ok (.iload_n 2, 1) := by decide +kernel
theorem dX9_couldStaff_83 : decode cX9_couldStaff 83 = .ok (.aload_n 0, 1) := by decide +kernel
theorem dX9_couldStaff_84 : decode cX9_couldStaff 84 = .ok (.getfield 74, 3) := by decide +kernel
theorem dX9_couldStaff_87 : decode cX9_couldStaff 87 = .ok (.iload 6, 2) := by decide +kernel
theorem dX9_couldStaff_89 : decode cX9_couldStaff 89 = .ok (.iconst 4, 1) := by decide +kernel
theorem dX9_couldStaff_90 : decode cX9_couldStaff 90 = .ok (.iadd, 1) := by decide +kernel
theorem dX9_couldStaff_91 : decode cX9_couldStaff 91 = .ok (.iaload, 1) := by decide +kernel
theorem dX9_couldStaff_92 : decode cX9_couldStaff 92 = .ok (.aload_n 0, 1) := by decide +kernel
theorem dX9_couldStaff_93 : decode cX9_couldStaff 93 = .ok (.getfield 74, 3) := by decide +kernel
theorem dX9_couldStaff_96 : decode cX9_couldStaff 96 = .ok (.iload 6, 2) := by decide +kernel
theorem dX9_couldStaff_98 : decode cX9_couldStaff 98 = .ok (.iconst 4, 1) := by decide +kernel
theorem dX9_couldStaff_99 : decode cX9_couldStaff 99 = .ok (.iadd, 1) := by decide +kernel
theorem dX9_couldStaff_100 : decode cX9_couldStaff 100 = .ok (.iaload, 1) := by decide +kernel
theorem dX9_couldStaff_101 : decode cX9_couldStaff 101 = .ok (.aload_n 0, 1) := by decide +kernel
theorem dX9_couldStaff_102 : decode cX9_couldStaff 102 = .ok (.getfield 74, 3) := by decide +kernel
theorem dX9_couldStaff_105 : decode cX9_couldStaff 105 = .ok (.iload 6, 2) := by decide +kernel
theorem dX9_couldStaff_107 : decode cX9_couldStaff 107 = .ok (.iconst 5, 1) := by decide +kernel
theorem dX9_couldStaff_108 : decode cX9_couldStaff 108 = .ok (.iadd, 1) := by decide +kernel
theorem dX9_couldStaff_109 : decode cX9_couldStaff 109 = .ok (.iaload, 1) := by decide +kernel
theorem dX9_couldStaff_110 : decode cX9_couldStaff 110 = .ok (.iadd, 1) := by decide +kernel
theorem dX9_couldStaff_111 : decode cX9_couldStaff 111 = .ok (.iconst 1, 1) := by decide +kernel
theorem dX9_couldStaff_112 : decode cX9_couldStaff 112 = .ok (.isub, 1) := by decide +kernel
theorem dX9_couldStaff_113 : decode cX9_couldStaff 113 = .ok (.invokestatic 93, 3) := by decide +kernel
theorem dX9_couldStaff_116 : decode cX9_couldStaff 116 = .ok (.ifCond .eq 7, 3) := by decide +kernel
theorem dX9_couldStaff_119 : decode cX9_couldStaff 119 = .ok (.iconst 1, 1) := by decide +kernel
theorem dX9_couldStaff_120 : decode cX9_couldStaff 120 = .ok (.goto 4, 3) := by decide +kernel
theorem dX9_couldStaff_123 : decode cX9_couldStaff 123 = .ok (.iconst 0, 1) := by decide +kernel
theorem dX9_couldStaff_124 : decode cX9_couldStaff 124 = .ok (.istore 7, 2) := by decide +kernel
theorem dX9_couldStaff_126 : decode cX9_couldStaff 126 = .ok (.aload_n 0, 1) := by decide +kernel
theorem dX9_couldStaff_127 : decode cX9_couldStaff 127 = .ok (.getfield 80, 3) := by decide +kernel
theorem dX9_couldStaff_130 : decode cX9_couldStaff 130 = .ok (.iload 4, 2) := by decide +kernel
theorem dX9_couldStaff_132 : decode cX9_couldStaff 132 = .ok (.iconst 4, 1) := by decide +kernel
theorem dX9_couldStaff_133 : decode cX9_couldStaff 133 = .ok (.if_icmp .ge 8, 3) := by decide +kernel
theorem dX9_couldStaff_136 : decode cX9_couldStaff 136 = .ok (.iload 4, 2) := by decide +kernel
theorem dX9_couldStaff_138 : decode cX9_couldStaff 138 = .ok (.goto 4, 3) := by decide +kernel
theorem dX9_couldStaff_141 : decode cX9_couldStaff 141 = .ok (.iconst 3, 1) := by decide +kernel
theorem dX9_couldStaff_142 : decode cX9_couldStaff 142 = .ok (.iload 7, 2) := by decide +kernel
theorem dX9_couldStaff_144 : decode cX9_couldStaff 144 = .ok (.ifCond .eq 8, 3) := by decide +kernel
theorem dX9_couldStaff_147 : decode cX9_couldStaff 147 = .ok (.iload 5, 2) := by decide +kernel
theorem dX9_couldStaff_149 : decode cX9_couldStaff 149 = .ok (.goto 20, 3) := by decide +kernel
theorem dX9_couldStaff_152 : decode cX9_couldStaff 152 = .ok (.aload_n 0, 1) := by decide +kernel
theorem dX9_couldStaff_153 : decode cX9_couldStaff 153 = .ok (.getfield 80, 3) := by decide +kernel
theorem dX9_couldStaff_156 : decode cX9_couldStaff 156 = .ok (.iload 4, 2) := by decide +kernel
theorem dX9_couldStaff_158 : decode cX9_couldStaff 158 = .ok (.iconst 4, 1) := by decide +kernel
theorem dX9_couldStaff_159 : decode cX9_couldStaff 159 = .ok (.if_icmp .ge 8, 3) := by decide +kernel
theorem dX9_couldStaff_162 : decode cX9_couldStaff 162 = .ok (.iload 4, 2) := by decide +kernel
theorem dX9_couldStaff_164 : decode cX9_couldStaff 164 = .ok (.goto 4, 3) := by decide +kernel
theorem dX9_couldStaff_167 : decode cX9_couldStaff 167 = .ok (.iconst 3, 1) := by decide +kernel
theorem dX9_couldStaff_168 : decode cX9_couldStaff 168 = .ok (.iaload, 1) := by decide +kernel
theorem dX9_couldStaff_169 : decode cX9_couldStaff 169 = .ok (.iastore, 1) := by decide +kernel
theorem dX9_couldStaff_170 : decode cX9_couldStaff 170 = .ok (.iload 4, 2) := by decide +kernel
theorem dX9_couldStaff_172 : decode cX9_couldStaff 172 = .ok (.iload 7, 2) := by decide +kernel
theorem dX9_couldStaff_174 : decode cX9_couldStaff 174 = .ok (.ifCond .eq 7, 3) := by decide +kernel
theorem dX9_couldStaff_177 : decode cX9_couldStaff 177 = .ok (.iconst 1, 1) := by decide +kernel
theorem dX9_couldStaff_178 : decode cX9_couldStaff 178 = .ok (.goto 4, 3) := by decide +kernel
theorem dX9_couldStaff_181 : decode cX9_couldStaff 181 = .ok (.iconst 0, 1) := by decide +kernel
theorem dX9_couldStaff_182 : decode cX9_couldStaff 182 = .ok (.iadd, 1) := by decide +kernel
theorem dX9_couldStaff_183 : decode cX9_couldStaff 183 = .ok (.istore 4, 2) := by decide +kernel
theorem dX9_couldStaff_185 : decode cX9_couldStaff 185 = .ok (.iinc 5 1, 3) := by decide +kernel
theorem dX9_couldStaff_188 : decode cX9_couldStaff 188 = .ok (.goto (-135), 3) := by decide +kernel
theorem dX9_couldStaff_191 : decode cX9_couldStaff 191 = .ok (.iload 4, 2) := by decide +kernel
theorem dX9_couldStaff_193 : decode cX9_couldStaff 193 = .ok (.iconst 3, 1) := by decide +kernel
theorem dX9_couldStaff_194 : decode cX9_couldStaff 194 = .ok (.if_icmp .le 10, 3) := by decide +kernel
theorem dX9_couldStaff_197 : decode cX9_couldStaff 197 = .ok (.aload_n 0, 1) := by decide +kernel
theorem dX9_couldStaff_198 : decode cX9_couldStaff 198 = .ok (.iconst 2, 1) := by decide +kernel
theorem dX9_couldStaff_199 : decode cX9_couldStaff 199 = .ok (.putfield 86, 3) := by decide +kernel
theorem dX9_couldStaff_202 : decode cX9_couldStaff 202 = .ok (.iconst 0, 1) := by decide +kernel
theorem dX9_couldStaff_203 : decode cX9_couldStaff 203 = .ok (.ireturn, 1) := by decide +kernel
theorem dX9_couldStaff_204 : decode cX9_couldStaff 204 = .ok (.iconst 1, 1) := by decide +kernel
theorem dX9_couldStaff_205 : decode cX9_couldStaff 205 = .ok (.istore 5, 2) := by decide +kernel
theorem dX9_couldStaff_207 : decode cX9_couldStaff 207 = .ok (.iconst 0, 1) := by decide +kernel
theorem dX9_couldStaff_208 : decode cX9_couldStaff 208 = .ok (.istore 6, 2) := by decide +kernel
theorem dX9_couldStaff_210 : decode cX9_couldStaff 210 = .ok (.iload 6, 2) := by decide +kernel
theorem dX9_couldStaff_212 : decode cX9_couldStaff 212 = .ok (.aload_n 0, 1) := by decide +kernel
theorem dX9_couldStaff_213 : decode cX9_couldStaff 213 = .ok (.getfield 100, 3) := by decide +kernel
theorem dX9_couldStaff_216 : decode cX9_couldStaff 216 = .ok (.if_icmp .ge 32, 3) := by decide +kernel
theorem dX9_couldStaff_219 : decode cX9_couldStaff 219 = .ok (.iload 5, 2) := by decide +kernel
theorem dX9_couldStaff_221 : decode cX9_couldStaff 221 = .ok (.iload_n 3, 1) := by decide +kernel
theorem dX9_couldStaff_222 : decode cX9_couldStaff 222 = .ok (.iload 6, 2) := by decide +kernel
theorem dX9_couldStaff_224 : decode cX9_couldStaff 224 = .ok (.ishr, 1) := by decide +kernel
theorem dX9_couldStaff_225 : decode cX9_couldStaff 225 = .ok (.iconst 1, 1) := by decide +kernel
theorem dX9_couldStaff_226 : decode cX9_couldStaff 226 = .ok (.iand, 1) := by decide +kernel
theorem dX9_couldStaff_227 : decode cX9_couldStaff 227 = .ok (.iconst 1, 1) := by decide +kernel
theorem dX9_couldStaff_228 : decode cX9_couldStaff 228 = .ok (.if_icmp .ne 10, 3) := by decide +kernel
theorem dX9_couldStaff_231 : decode cX9_couldStaff 231 = .ok (.iload 4, 2) := by decide +kernel
theorem dX9_couldStaff_233 : decode cX9_couldStaff 233 = .ok (.iconst 1, 1) := by decide +kernel
theorem dX9_couldStaff_234 : decode cX9_couldStaff 234 = .ok (.iadd, 1) := by decide +kernel
theorem dX9_couldStaff_235 : decode cX9_couldStaff 235 = .ok (.goto 4, 3) := by decide +kernel
theorem dX9_couldStaff_238 : decode cX9_couldStaff 238 = .ok (.iconst 1, 1) := by decide +kernel
theorem dX9_couldStaff_239 : decode cX9_couldStaff 239 = .ok (.imul, 1) := by decide +kernel
theorem dX9_couldStaff_240 : decode cX9_couldStaff 240 = .ok (.istore 5, 2) := by decide +kernel
theorem dX9_couldStaff_242 : decode cX9_couldStaff 242 = .ok (.iinc 6 1, 3) := by decide +kernel
theorem dX9_couldStaff_245 : decode cX9_couldStaff 245 = .ok (.goto (-35), 3) := by decide +kernel
theorem dX9_couldStaff_248 : decode cX9_couldStaff 248 = .ok (.iload 4, 2) := by decide +kernel
theorem dX9_couldStaff_250 : decode cX9_couldStaff 250 = .ok (.ifCond .ne 7, 3) := by decide +kernel
theorem dX9_couldStaff_253 : decode cX9_couldStaff 253 = .ok (.iconst 1, 1) := by decide +kernel
theorem dX9_couldStaff_254 : decode cX9_couldStaff 254 = .ok (.goto 4, 3) := by decide +kernel
theorem dX9_couldStaff_257 : decode cX9_couldStaff 257 = .ok (.iconst 0, 1) := by decide +kernel
theorem dX9_couldStaff_258 : decode cX9_couldStaff 258 = .ok (.istore 6, 2) := by decide +kernel
theorem dX9_couldStaff_260 : decode cX9_couldStaff 260 = .ok (.iconst 0, 1) := by decide +kernel
theorem dX9_couldStaff_261 : decode cX9_couldStaff 261 = .ok (.istore 7, 2) := by decide +kernel
theorem dX9_couldStaff_263 : decode cX9_couldStaff 263 = .ok (.iload 7, 2) := by decide +kernel
theorem dX9_couldStaff_265 : decode cX9_couldStaff 265 = .ok (.iload 5, 2) := by decide +kernel
theorem dX9_couldStaff_267 : decode cX9_couldStaff 267 = .ok (.if_icmp .ge 25, 3) := by decide +kernel
theorem dX9_couldStaff_270 : decode cX9_couldStaff 270 = .ok (.iload 6, 2) := by decide +kernel
theorem dX9_couldStaff_272 : decode cX9_couldStaff 272 = .ok (.ifCond .ne 20, 3) := by decide +kernel
theorem dX9_couldStaff_275 : decode cX9_couldStaff 275 = .ok (.aload_n 0, 1) := by decide +kernel
theorem dX9_couldStaff_276 : decode cX9_couldStaff 276 = .ok (.iload 7, 2) := by decide +kernel
theorem dX9_couldStaff_278 : decode cX9_couldStaff 278 = .ok (.iload 4, 2) := by decide +kernel
theorem dX9_couldStaff_280 : decode cX9_couldStaff 280 = .ok (.iload_n 3, 1) := by decide +kernel
theorem dX9_couldStaff_281 : decode cX9_couldStaff 281 = .ok (.invokevirtual 209, 3) := by decide +kernel
theorem dX9_couldStaff_284 : decode cX9_couldStaff 284 = .ok (.istore 6, 2) := by decide +kernel
theorem dX9_couldStaff_286 : decode cX9_couldStaff 286 = .ok (.iinc 7 1, 3) := by decide +kernel
theorem dX9_couldStaff_289 : decode cX9_couldStaff 289 = .ok (.goto (-26), 3) := by decide +kernel
theorem dX9_couldStaff_292 : decode cX9_couldStaff 292 = .ok (.iload 6, 2) := by decide +kernel
theorem dX9_couldStaff_294 : decode cX9_couldStaff 294 = .ok (.ireturn, 1) := by decide +kernel
theorem dX9_areLawful_0 : decode cX9_areLawful 0 = .ok (.iconst 0, 1) := by decide +kernel
theorem dX9_areLawful_1 : decode cX9_areLawful 1 = .ok (.istore 4, 2) := by decide +kernel
theorem dX9_areLawful_3 : decode cX9_areLawful 3 = .ok (.iload 4, 2) := by decide +kernel
theorem dX9_areLawful_5 : decode cX9_areLawful 5 = .ok (.iconst 4, 1) := by decide +kernel
theorem dX9_areLawful_6 : decode cX9_areLawful 6 = .ok (.if_icmp .ge 17, 3) := by decide +kernel
theorem dX9_areLawful_9 : decode cX9_areLawful 9 = .ok (.aload_n 0, 1) := by decide +kernel
theorem dX9_areLawful_10 : decode cX9_areLawful 10 = .ok (.getfield 83, 3) := by decide +kernel
theorem dX9_areLawful_13 : decode cX9_areLawful 13 = .ok (.iload 4, 2) := by decide +kernel
theorem dX9_areLawful_15 : decode cX9_areLawful 15 = .ok (.iconst 0, 1) := by decide +kernel
theorem dX9_areLawful_16 : decode cX9_areLawful 16 = .ok (.iastore, 1) := by decide +kernel
theorem dX9_areLawful_17 : decode cX9_areLawful 17 = .ok (.iinc 4 1, 3) := by decide +kernel
theorem dX9_areLawful_20 : decode cX9_areLawful 20 = .ok (.goto (-17), 3) := by decide +kernel
theorem dX9_areLawful_23 : decode cX9_areLawful 23 = .ok (.iload_n 1, 1) := by decide +kernel
theorem dX9_areLawful_24 : decode cX9_areLawful 24 = .ok (.istore 4, 2) := by decide +kernel
theorem dX9_areLawful_26 : decode cX9_areLawful 26 = .ok (.iconst 0, 1) := by decide +kernel
theorem dX9_areLawful_27 : decode cX9_areLawful 27 = .ok (.istore 5, 2) := by decide +kernel
theorem dX9_areLawful_29 : decode cX9_areLawful 29 = .ok (.iload 5, 2) := by decide +kernel
theorem dX9_areLawful_31 : decode cX9_areLawful 31 = .ok (.aload_n 0, 1) := by decide +kernel
theorem dX9_areLawful_32 : decode cX9_areLawful 32 = .ok (.getfield 100, 3) := by decide +kernel
theorem dX9_areLawful_35 : decode cX9_areLawful 35 = .ok (.if_icmp .ge 45, 3) := by decide +kernel
theorem dX9_areLawful_38 : decode cX9_areLawful 38 = .ok (.iload_n 3, 1) := by decide +kernel
theorem dX9_areLawful_39 : decode cX9_areLawful 39 = .ok (.iload 5, 2) := by decide +kernel
theorem dX9_areLawful_41 : decode cX9_areLawful 41 = .ok (.ishr, 1) := by decide +kernel
theorem dX9_areLawful_42 : decode cX9_areLawful 42 = .ok (.iconst 1, 1) := by decide +kernel
theorem dX9_areLawful_43 : decode cX9_areLawful 43 = .ok (.iand, 1) := by decide +kernel
theorem dX9_areLawful_44 : decode cX9_areLawful 44 = .ok (.iconst 1, 1) := by decide +kernel
theorem dX9_areLawful_45 : decode cX9_areLawful 45 = .ok (.if_icmp .ne 29, 3) := by decide +kernel
theorem dX9_areLawful_48 : decode cX9_areLawful 48 = .ok (.aload_n 0, 1) := by decide +kernel
theorem dX9_areLawful_49 : decode cX9_areLawful 49 = .ok (.getfield 83, 3) := by decide +kernel
theorem dX9_areLawful_52 : decode cX9_areLawful 52 = .ok (.iload 4, 2) := by decide +kernel
theorem dX9_areLawful_54 : decode cX9_areLawful 54 = .ok (.iload_n 2, 1) := by decide +kernel
theorem dX9_areLawful_55 : decode cX9_areLawful 55 = .ok (.iconst 1, 1) := by decide +kernel
theorem dX9_areLawful_56 : decode cX9_areLawful 56 = .ok (.iadd, 1) := by decide +kernel
theorem dX9_areLawful_57 : decode cX9_areLawful 57 = .ok (.irem, 1) := by decide +kernel
theorem dX9_areLawful_58 : decode cX9_areLawful 58 = .ok (.dup2, 1) := by decide +kernel
theorem dX9_areLawful_59 : decode cX9_areLawful 59 = .ok (.iaload, 1) := by decide +kernel
theorem dX9_areLawful_60 : decode cX9_areLawful 60 = .ok (.iconst 1, 1) := by decide +kernel
theorem dX9_areLawful_61 : decode cX9_areLawful 61 = .ok (.iload 5, 2) := by decide +kernel
theorem dX9_areLawful_63 : decode cX9_areLawful 63 = .ok (.ishl, 1) := by decide +kernel
theorem dX9_areLawful_64 : decode cX9_areLawful 64 = .ok (.ior, 1) := by decide +kernel
theorem dX9_areLawful_65 : decode cX9_areLawful 65 = .ok (.iastore, 1) := by decide +kernel
theorem dX9_areLawful_66 : decode cX9_areLawful 66 = .ok (.iload 4, 2) := by decide +kernel
theorem dX9_areLawful_68 : decode cX9_areLawful 68 = .ok (.iload_n 2, 1) := by decide +kernel
theorem dX9_areLawful_69 : decode cX9_areLawful 69 = .ok (.iconst 1, 1) := by decide +kernel
theorem dX9_areLawful_70 : decode cX9_areLawful 70 = .ok (.iadd, 1) := by decide +kernel
theorem dX9_areLawful_71 : decode cX9_areLawful 71 = .ok (.idiv, 1) := by decide +kernel
theorem dX9_areLawful_72 : decode cX9_areLawful 72 = .ok (.istore 4, 2) := by decide +kernel
theorem dX9_areLawful_74 : decode cX9_areLawful 74 = .ok (.iinc 5 1, 3) := by decide +kernel
theorem dX9_areLawful_77 : decode cX9_areLawful 77 = .ok (.goto (-48), 3) := by decide +kernel
theorem dX9_areLawful_80 : decode cX9_areLawful 80 = .ok (.iconst 1, 1) := by decide +kernel
theorem dX9_areLawful_81 : decode cX9_areLawful 81 = .ok (.istore 5, 2) := by decide +kernel
theorem dX9_areLawful_83 : decode cX9_areLawful 83 = .ok (.iconst 0, 1) := by decide +kernel
theorem dX9_areLawful_84 : decode cX9_areLawful 84 = .ok (.istore 6, 2) := by decide +kernel
theorem dX9_areLawful_86 : decode cX9_areLawful 86 = .ok (.iload 6, 2) := by decide +kernel
theorem dX9_areLawful_88 : decode cX9_areLawful 88 = .ok (.iload_n 2, 1) := by decide +kernel
theorem dX9_areLawful_89 : decode cX9_areLawful 89 = .ok (.if_icmp .ge 42, 3) := by decide +kernel
theorem dX9_areLawful_92 : decode cX9_areLawful 92 = .ok (.iload 5, 2) := by decide +kernel
theorem dX9_areLawful_94 : decode cX9_areLawful 94 = .ok (.ifCond .eq 37, 3) := by decide +kernel
theorem dX9_areLawful_97 : decode cX9_areLawful 97 = .ok (.aload_n 0, 1) := by decide +kernel
theorem dX9_areLawful_98 : decode cX9_areLawful 98 = .ok (.aload_n 0, 1) := by decide +kernel
theorem dX9_areLawful_99 : decode cX9_areLawful 99 = .ok (.getfield 80, 3) := by decide +kernel
theorem dX9_areLawful_102 : decode cX9_areLawful 102 = .ok (.iload 6, 2) := by decide +kernel
theorem dX9_areLawful_104 : decode cX9_areLawful 104 = .ok (.iaload, 1) := by decide +kernel
theorem dX9_areLawful_105 : decode cX9_areLawful 105 = .ok (.aload_n 0, 1) := by decide +kernel
theorem dX9_areLawful_106 : decode cX9_areLawful 106 = .ok (.getfield 83, 3) := by decide +kernel
theorem dX9_areLawful_109 : decode cX9_areLawful 109 = .ok (.iload 6, 2) := by decide +kernel
theorem dX9_areLawful_111 : decode cX9_areLawful 111 = .ok (.iaload, 1) := by decide +kernel
theorem dX9_areLawful_112 : decode cX9_areLawful 112 = .ok (.invokevirtual 206, 3) := by decide +kernel
theorem dX9_areLawful_115 : decode cX9_areLawful 115 = .ok (.ifCond .ne 7, 3) := by decide +kernel
theorem dX9_areLawful_118 : decode cX9_areLawful 118 = .ok (.iconst 1, 1) := by decide +kernel
theorem dX9_areLawful_119 : decode cX9_areLawful 119 = .ok (.goto 4, 3) := by decide +kernel
theorem dX9_areLawful_122 : decode cX9_areLawful 122 = .ok (.iconst 0, 1) := by decide +kernel
theorem dX9_areLawful_123 : decode cX9_areLawful 123 = .ok (.istore 5, 2) := by decide +kernel
theorem dX9_areLawful_125 : decode cX9_areLawful 125 = .ok (.iinc 6 1, 3) := by decide +kernel
theorem dX9_areLawful_128 : decode cX9_areLawful 128 = .ok (.goto (-42), 3) := by decide +kernel
theorem dX9_areLawful_131 : decode cX9_areLawful 131 = .ok (.iload 5, 2) := by decide +kernel
theorem dX9_areLawful_133 : decode cX9_areLawful 133 = .ok (.ireturn, 1) := by decide +kernel
theorem dX9_boxes_0 : decode cX9_boxes 0 = .ok (.aload_n 0, 1) := by decide +kernel
theorem dX9_boxes_1 : decode cX9_boxes 1 = .ok (.aload_n 0, 1) := by decide +kernel
theorem dX9_boxes_2 : decode cX9_boxes 2 = .ok (.iload_n 1, 1) := by decide +kernel
theorem dX9_boxes_3 : decode cX9_boxes 3 = .ok (.invokevirtual 129, 3) := by decide +kernel
theorem dX9_boxes_6 : decode cX9_boxes 6 = .ok (.invokevirtual 104, 3) := by decide +kernel
theorem dX9_boxes_9 : decode cX9_boxes 9 = .ok (.ifCond .ne 5, 3) := by decide +kernel
theorem dX9_boxes_12 : decode cX9_boxes 12 = .ok (.iconst 0, 1) := by decide +kernel
theorem dX9_boxes_13 : decode cX9_boxes 13 = .ok (.ireturn, 1) := by decide +kernel
theorem dX9_boxes_14 : decode cX9_boxes 14 = .ok (.iload_n 2, 1) := by decide +kernel
theorem dX9_boxes_15 : decode cX9_boxes 15 = .ok (.iconst 1, 1) := by decide +kernel
theorem dX9_boxes_16 : decode cX9_boxes 16 = .ok (.bipush 99, 2) := by decide +kernel
theorem dX9_boxes_18 : decode cX9_boxes 18 = .ok (.invokestatic 93, 3) := by decide +kernel
theorem dX9_boxes_21 : decode cX9_boxes 21 = .ok (.ifCond .ne 9, 3) := by decide +kernel
theorem dX9_boxes_24 : decode cX9_boxes 24 = .ok (.aload_n 0, 1) := by decide +kernel
theorem dX9_boxes_25 : decode cX9_boxes 25 = .ok (.iconst 2, 1) := by decide +kernel
theorem dX9_boxes_26 : decode cX9_boxes 26 = .ok (.invokevirtual 108, 3) := by decide +kernel
theorem dX9_boxes_29 : decode cX9_boxes 29 = .ok (.ireturn, 1) := by decide +kernel
theorem dX9_boxes_30 : decode cX9_boxes 30 = .ok (.aload_n 0, 1) := by decide +kernel
theorem dX9_boxes_31 : decode cX9_boxes 31 = .ok (.getfield 34, 3) := by decide +kernel
theorem dX9_boxes_34 : decode cX9_boxes 34 = .ok (.iload_n 1, 1) := by decide +kernel
theorem dX9_boxes_35 : decode cX9_boxes 35 = .ok (.iaload, 1) := by decide +kernel
theorem dX9_boxes_36 : decode cX9_boxes 36 = .ok (.ifCond .le 22, 3) := by decide +kernel
theorem dX9_boxes_39 : decode cX9_boxes 39 = .ok (.aload_n 0, 1) := by decide +kernel
theorem dX9_boxes_40 : decode cX9_boxes 40 = .ok (.getfield 37, 3) := by decide +kernel
theorem dX9_boxes_43 : decode cX9_boxes 43 = .ok (.iload_n 1, 1) := by decide +kernel
theorem dX9_boxes_44 : decode cX9_boxes 44 = .ok (.iaload, 1) := by decide +kernel
theorem dX9_boxes_45 : decode cX9_boxes 45 = .ok (.aload_n 0, 1) := by decide +kernel
theorem dX9_boxes_46 : decode cX9_boxes 46 = .ok (.getfield 22, 3) := by decide +kernel
theorem dX9_boxes_49 : decode cX9_boxes 49 = .ok (.iload_n 1, 1) := by decide +kernel
theorem dX9_boxes_50 : decode cX9_boxes 50 = .ok (.iaload, 1) := by decide +kernel
theorem dX9_boxes_51 : decode cX9_boxes 51 = .ok (.if_icmp .eq 7, 3) := by decide +kernel
theorem dX9_boxes_54 : decode cX9_boxes 54 = .ok (.iconst 1, 1) := by decide +kernel
theorem dX9_boxes_55 : decode cX9_boxes 55 = .ok (.goto 4, 3) := by decide +kernel
theorem dX9_boxes_58 : decode cX9_boxes 58 = .ok (.iconst 0, 1) := by decide +kernel
theorem dX9_boxes_59 : decode cX9_boxes 59 = .ok (.istore_n 3, 1) := by decide +kernel
theorem dX9_boxes_60 : decode cX9_boxes 60 = .ok (.aload_n 0, 1) := by decide +kernel
theorem dX9_boxes_61 : decode cX9_boxes 61 = .ok (.getfield 22, 3) := by decide +kernel
theorem dX9_boxes_64 : decode cX9_boxes 64 = .ok (.iload_n 1, 1) := by decide +kernel
theorem dX9_boxes_65 : decode cX9_boxes 65 = .ok (.iaload, 1) := by decide +kernel
theorem dX9_boxes_66 : decode cX9_boxes 66 = .ok (.iconst (-1), 1) := by decide +kernel
theorem dX9_boxes_67 : decode cX9_boxes 67 = .ok (.if_icmp .eq 21, 3) := by decide +kernel
theorem dX9_boxes_70 : decode cX9_boxes 70 = .ok (.iload_n 3, 1) := by decide +kernel
theorem dX9_boxes_71 : decode cX9_boxes 71 = .ok (.ifCond .ne 17, 3) := by decide +kernel
theorem dX9_boxes_74 : decode cX9_boxes 74 = .ok (.aload_n 0, 1) := by decide +kernel
theorem dX9_boxes_75 : decode cX9_boxes 75 = .ok (.getfield 40, 3) := by decide +kernel
theorem dX9_boxes_78 : decode cX9_boxes 78 = .ok (.iload_n 1, 1) := by decide +kernel
theorem dX9_boxes_79 : decode cX9_boxes 79 = .ok (.iaload, 1) := by decide +kernel
theorem dX9_boxes_80 : decode cX9_boxes 80 = .ok (.iload_n 2, 1) := by decide +kernel
theorem dX9_boxes_81 : decode cX9_boxes 81 = .ok (.iadd, 1) := by decide +kernel
theorem dX9_boxes_82 : decode cX9_boxes 82 = .ok (.sipush 9999, 3) := by decide +kernel
theorem dX9_boxes_85 : decode cX9_boxes 85 = .ok (.if_icmp .le 9, 3) := by decide +kernel
theorem dX9_boxes_88 : decode cX9_boxes 88 = .ok (.aload_n 0, 1) := by decide +kernel
theorem dX9_boxes_89 : decode cX9_boxes 89 = .ok (.iconst 3, 1) := by decide +kernel
theorem dX9_boxes_90 : decode cX9_boxes 90 = .ok (.invokevirtual 108, 3) := by decide +kernel
theorem dX9_boxes_93 : decode cX9_boxes 93 = .ok (.ireturn, 1) := by decide +kernel
theorem dX9_boxes_94 : decode cX9_boxes 94 = .ok (.aload_n 0, 1) := by decide +kernel
theorem dX9_boxes_95 : decode cX9_boxes 95 = .ok (.getfield 37, 3) := by decide +kernel
theorem dX9_boxes_98 : decode cX9_boxes 98 = .ok (.iload_n 1, 1) := by decide +kernel
theorem dX9_boxes_99 : decode cX9_boxes 99 = .ok (.aload_n 0, 1) := by decide +kernel
theorem dX9_boxes_100 : decode cX9_boxes 100 = .ok (.getfield 22, 3) := by decide +kernel
theorem dX9_boxes_103 : decode cX9_boxes 103 = .ok (.iload_n 1, 1) := by decide +kernel
theorem dX9_boxes_104 : decode cX9_boxes 104 = .ok (.iaload, 1) := by decide +kernel
theorem dX9_boxes_105 : decode cX9_boxes 105 = .ok (.iastore, 1) := by decide +kernel
theorem dX9_boxes_106 : decode cX9_boxes 106 = .ok (.aload_n 0, 1) := by decide +kernel
theorem dX9_boxes_107 : decode cX9_boxes 107 = .ok (.getfield 40, 3) := by decide +kernel
theorem dX9_boxes_110 : decode cX9_boxes 110 = .ok (.iload_n 1, 1) := by decide +kernel
theorem dX9_boxes_111 : decode cX9_boxes 111 = .ok (.dup2, 1) := by decide +kernel
theorem dX9_boxes_112 : decode cX9_boxes 112 = .ok (.iaload, 1) := by decide +kernel
theorem dX9_boxes_113 : decode cX9_boxes 113 = .ok (.iload_n 2, 1) := by decide +kernel
theorem dX9_boxes_114 : decode cX9_boxes 114 = .ok (.iadd, 1) := by decide +kernel
theorem dX9_boxes_115 : decode cX9_boxes 115 = .ok (.iastore, 1) := by decide +kernel
theorem dX9_boxes_116 : decode cX9_boxes 116 = .ok (.aload_n 0, 1) := by decide +kernel
theorem dX9_boxes_117 : decode cX9_boxes 117 = .ok (.getfield 34, 3) := by decide +kernel
theorem dX9_boxes_120 : decode cX9_boxes 120 = .ok (.iload_n 1, 1) := by decide +kernel
theorem dX9_boxes_121 : decode cX9_boxes 121 = .ok (.dup2, 1) := by decide +kernel
theorem dX9_boxes_122 : decode cX9_boxes 122 = .ok (.iaload, 1) := by decide +kernel
theorem dX9_boxes_123 : decode cX9_boxes 123 = .ok (.iconst 4, 1) := by decide +kernel
theorem dX9_boxes_124 : decode cX9_boxes 124 = .ok (.iload_n 2, 1) := by decide +kernel
theorem dX9_boxes_125 : decode cX9_boxes 125 = .ok (.imul, 1) := by decide +kernel
theorem dX9_boxes_126 : decode cX9_boxes 126 = .ok (.iadd, 1) := by decide +kernel
theorem dX9_boxes_127 : decode cX9_boxes 127 = .ok (.iastore, 1) := by decide +kernel
theorem dX9_boxes_128 : decode cX9_boxes 128 = .ok (.aload_n 0, 1) := by decide +kernel
theorem dX9_boxes_129 : decode cX9_boxes 129 = .ok (.getfield 34, 3) := by decide +kernel
theorem dX9_boxes_132 : decode cX9_boxes 132 = .ok (.iload_n 1, 1) := by decide +kernel
theorem dX9_boxes_133 : decode cX9_boxes 133 = .ok (.iaload, 1) := by decide +kernel
theorem dX9_boxes_134 : decode cX9_boxes 134 = .ok (.ireturn, 1) := by decide +kernel
theorem dX9_pay_0 : decode cX9_pay 0 = .ok (.aload_n 0, 1) := by decide +kernel
theorem dX9_pay_1 : decode cX9_pay 1 = .ok (.aload_n 0, 1) := by decide +kernel
theorem dX9_pay_2 : decode cX9_pay 2 = .ok (.iload_n 1, 1) := by decide +kernel
theorem dX9_pay_3 : decode cX9_pay 3 = .ok (.invokevirtual 129, 3) := by decide +kernel
theorem dX9_pay_6 : decode cX9_pay 6 = .ok (.invokevirtual 104, 3) := by decide +kernel
theorem dX9_pay_9 : decode cX9_pay 9 = .ok (.ifCond .ne 5, 3) := by decide +kernel
theorem dX9_pay_12 : decode cX9_pay 12 = .ok (.iconst 0, 1) := by decide +kernel
theorem dX9_pay_13 : decode cX9_pay 13 = .ok (.ireturn, 1) := by decide +kernel
theorem dX9_pay_14 : decode cX9_pay 14 = .ok (.iload_n 2, 1) := by decide +kernel
theorem dX9_pay_15 : decode cX9_pay 15 = .ok (.iconst 1, 1) := by decide +kernel
theorem dX9_pay_16 : decode cX9_pay 16 = .ok (.sipush 396, 3) := by decide +kernel
theorem dX9_pay_19 : decode cX9_pay 19 = .ok (.invokestatic 93, 3) := by decide +kernel
theorem dX9_pay_22 : decode cX9_pay 22 = .ok (.ifCond .ne 9, 3) := by decide +kernel
theorem dX9_pay_25 : decode cX9_pay 25 = .ok (.aload_n 0, 1) := by decide +kernel
theorem dX9_pay_26 : decode cX9_pay 26 = .ok (.iconst 2, 1) := by decide +kernel
theorem dX9_pay_27 : decode cX9_pay 27 = .ok (.invokevirtual 108, 3) := by decide +kernel
theorem dX9_pay_30 : decode cX9_pay 30 = .ok (.ireturn, 1) := by decide +kernel
theorem dX9_pay_31 : decode cX9_pay 31 = .ok (.aload_n 0, 1) := by decide +kernel
theorem dX9_pay_32 : decode cX9_pay 32 = .ok (.getfield 34, 3) := by decide +kernel
theorem dX9_pay_35 : decode cX9_pay 35 = .ok (.iload_n 1, 1) := by decide +kernel
theorem dX9_pay_36 : decode cX9_pay 36 = .ok (.iaload, 1) := by decide +kernel
theorem dX9_pay_37 : decode cX9_pay 37 = .ok (.iload_n 2, 1) := by decide +kernel
theorem dX9_pay_38 : decode cX9_pay 38 = .ok (.if_icmp .ge 9, 3) := by decide +kernel
theorem dX9_pay_41 : decode cX9_pay 41 = .ok (.aload_n 0, 1) := by decide +kernel
theorem dX9_pay_42 : decode cX9_pay 42 = .ok (.iconst 3, 1) := by decide +kernel
theorem dX9_pay_43 : decode cX9_pay 43 = .ok (.invokevirtual 108, 3) := by decide +kernel
theorem dX9_pay_46 : decode cX9_pay 46 = .ok (.ireturn, 1) := by decide +kernel
theorem dX9_pay_47 : decode cX9_pay 47 = .ok (.aload_n 0, 1) := by decide +kernel
theorem dX9_pay_48 : decode cX9_pay 48 = .ok (.getfield 34, 3) := by decide +kernel
theorem dX9_pay_51 : decode cX9_pay 51 = .ok (.iload_n 1, 1) := by decide +kernel
theorem dX9_pay_52 : decode cX9_pay 52 = .ok (.dup2, 1) := by decide +kernel
theorem dX9_pay_53 : decode cX9_pay 53 = .ok (.iaload, 1) := by decide +kernel
theorem dX9_pay_54 : decode cX9_pay 54 = .ok (.iload_n 2, 1) := by decide +kernel
theorem dX9_pay_55 : decode cX9_pay 55 = .ok (.isub, 1) := by decide +kernel
theorem dX9_pay_56 : decode cX9_pay 56 = .ok (.iastore, 1) := by decide +kernel
theorem dX9_pay_57 : decode cX9_pay 57 = .ok (.aload_n 0, 1) := by decide +kernel
theorem dX9_pay_58 : decode cX9_pay 58 = .ok (.getfield 34, 3) := by decide +kernel
theorem dX9_pay_61 : decode cX9_pay 61 = .ok (.iload_n 1, 1) := by decide +kernel
theorem dX9_pay_62 : decode cX9_pay 62 = .ok (.iaload, 1) := by decide +kernel
theorem dX9_pay_63 : decode cX9_pay 63 = .ok (.ireturn, 1) := by decide +kernel
theorem dX9_owed_0 : decode cX9_owed 0 = .ok (.aload_n 0, 1) := by decide +kernel
theorem dX9_owed_1 : decode cX9_owed 1 = .ok (.aload_n 0, 1) := by decide +kernel
theorem dX9_owed_2 : decode cX9_owed 2 = .ok (.iload_n 1, 1) := by decide +kernel
theorem dX9_owed_3 : decode cX9_owed 3 = .ok (.invokevirtual 133, 3) := by decide +kernel
theorem dX9_owed_6 : decode cX9_owed 6 = .ok (.invokevirtual 104, 3) := by decide +kernel
theorem dX9_owed_9 : decode cX9_owed 9 = .ok (.ifCond .ne 5, 3) := by decide +kernel
theorem dX9_owed_12 : decode cX9_owed 12 = .ok (.iconst 0, 1) := by decide +kernel
theorem dX9_owed_13 : decode cX9_owed 13 = .ok (.ireturn, 1) := by decide +kernel
theorem dX9_owed_14 : decode cX9_owed 14 = .ok (.iconst 0, 1) := by decide +kernel
theorem dX9_owed_15 : decode cX9_owed 15 = .ok (.istore_n 2, 1) := by decide +kernel
theorem dX9_owed_16 : decode cX9_owed 16 = .ok (.iconst 0, 1) := by decide +kernel
theorem dX9_owed_17 : decode cX9_owed 17 = .ok (.istore_n 3, 1) := by decide +kernel
theorem dX9_owed_18 : decode cX9_owed 18 = .ok (.iload_n 3, 1) := by decide +kernel
theorem dX9_owed_19 : decode cX9_owed 19 = .ok (.aload_n 0, 1) := by decide +kernel
theorem dX9_owed_20 : decode cX9_owed 20 = .ok (.getfield 97, 3) := by decide +kernel
theorem dX9_owed_23 : decode cX9_owed 23 = .ok (.if_icmp .ge 41, 3) := by decide +kernel
theorem dX9_owed_26 : decode cX9_owed 26 = .ok (.iload_n 2, 1) := by decide +kernel
theorem dX9_owed_27 : decode cX9_owed 27 = .ok (.aload_n 0, 1) := by decide +kernel
theorem dX9_owed_28 : decode cX9_owed 28 = .ok (.getfield 34, 3) := by decide +kernel
theorem dX9_owed_31 : decode cX9_owed 31 = .ok (.iload_n 3, 1) := by decide +kernel
theorem dX9_owed_32 : decode cX9_owed 32 = .ok (.iaload, 1) := by decide +kernel
theorem dX9_owed_33 : decode cX9_owed 33 = .ok (.ifCond .le 22, 3) := by decide +kernel
theorem dX9_owed_36 : decode cX9_owed 36 = .ok (.aload_n 0, 1) := by decide +kernel
theorem dX9_owed_37 : decode cX9_owed 37 = .ok (.getfield 37, 3) := by decide +kernel
theorem dX9_owed_40 : decode cX9_owed 40 = .ok (.iload_n 3, 1) := by decide +kernel
theorem dX9_owed_41 : decode cX9_owed 41 = .ok (.iaload, 1) := by decide +kernel
theorem dX9_owed_42 : decode cX9_owed 42 = .ok (.iload_n 1, 1) := by decide +kernel
theorem dX9_owed_43 : decode cX9_owed 43 = .ok (.if_icmp .ne 12, 3) := by decide +kernel
theorem dX9_owed_46 : decode cX9_owed 46 = .ok (.aload_n 0, 1) := by decide +kernel
theorem dX9_owed_47 : decode cX9_owed 47 = .ok (.getfield 34, 3) := by decide +kernel
theorem dX9_owed_50 : decode cX9_owed 50 = .ok (.iload_n 3, 1) := by decide +kernel
theorem dX9_owed_51 : decode cX9_owed 51 = .ok (.iaload, 1) := by decide +kernel
theorem dX9_owed_52 : decode cX9_owed 52 = .ok (.goto 4, 3) := by decide +kernel
theorem dX9_owed_55 : decode cX9_owed 55 = .ok (.iconst 0, 1) := by decide +kernel
theorem dX9_owed_56 : decode cX9_owed 56 = .ok (.iadd, 1) := by decide +kernel
theorem dX9_owed_57 : decode cX9_owed 57 = .ok (.istore_n 2, 1) := by decide +kernel
theorem dX9_owed_58 : decode cX9_owed 58 = .ok (.iinc 3 1, 3) := by decide +kernel
theorem dX9_owed_61 : decode cX9_owed 61 = .ok (.goto (-43), 3) := by decide +kernel
theorem dX9_owed_64 : decode cX9_owed 64 = .ok (.iload_n 2, 1) := by decide +kernel
theorem dX9_owed_65 : decode cX9_owed 65 = .ok (.ireturn, 1) := by decide +kernel
theorem dX9_today_0 : decode cX9_today 0 = .ok (.aload_n 0, 1) := by decide +kernel
theorem dX9_today_1 : decode cX9_today 1 = .ok (.iconst 0, 1) := by decide +kernel
theorem dX9_today_2 : decode cX9_today 2 = .ok (.putfield 86, 3) := by decide +kernel
theorem dX9_today_5 : decode cX9_today 5 = .ok (.aload_n 0, 1) := by decide +kernel
theorem dX9_today_6 : decode cX9_today 6 = .ok (.getfield 153, 3) := by decide +kernel
theorem dX9_today_9 : decode cX9_today 9 = .ok (.ireturn, 1) := by decide +kernel
theorem dX9_ofChild_0 : decode cX9_ofChild 0 = .ok (.aload_n 0, 1) := by decide +kernel
theorem dX9_ofChild_1 : decode cX9_ofChild 1 = .ok (.aload_n 0, 1) := by decide +kernel
theorem dX9_ofChild_2 : decode cX9_ofChild 2 = .ok (.iload_n 1, 1) := by decide +kernel
theorem dX9_ofChild_3 : decode cX9_ofChild 3 = .ok (.invokevirtual 129, 3) := by decide +kernel
theorem dX9_ofChild_6 : decode cX9_ofChild 6 = .ok (.invokevirtual 104, 3) := by decide +kernel
theorem dX9_ofChild_9 : decode cX9_ofChild 9 = .ok (.ifCond .ne 5, 3) := by decide +kernel
theorem dX9_ofChild_12 : decode cX9_ofChild 12 = .ok (.iconst 0, 1) := by decide +kernel
theorem dX9_ofChild_13 : decode cX9_ofChild 13 = .ok (.ireturn, 1) := by decide +kernel
theorem dX9_ofChild_14 : decode cX9_ofChild 14 = .ok (.iload_n 2, 1) := by decide +kernel
theorem dX9_ofChild_15 : decode cX9_ofChild 15 = .ok (.tableswitch 78 0 5 #[37, 44, 51, 58, 65, 71], 37) := by decide +kernel
theorem dX9_ofChild_52 : decode cX9_ofChild 52 = .ok (.aload_n 0, 1) := by decide +kernel
theorem dX9_ofChild_53 : decode cX9_ofChild 53 = .ok (.getfield 19, 3) := by decide +kernel
theorem dX9_ofChild_56 : decode cX9_ofChild 56 = .ok (.iload_n 1, 1) := by decide +kernel
theorem dX9_ofChild_57 : decode cX9_ofChild 57 = .ok (.iaload, 1) := by decide +kernel
theorem dX9_ofChild_58 : decode cX9_ofChild 58 = .ok (.ireturn, 1) := by decide +kernel
theorem dX9_ofChild_59 : decode cX9_ofChild 59 = .ok (.aload_n 0, 1) := by decide +kernel
theorem dX9_ofChild_60 : decode cX9_ofChild 60 = .ok (.getfield 22, 3) := by decide +kernel
theorem dX9_ofChild_63 : decode cX9_ofChild 63 = .ok (.iload_n 1, 1) := by decide +kernel
theorem dX9_ofChild_64 : decode cX9_ofChild 64 = .ok (.iaload, 1) := by decide +kernel
theorem dX9_ofChild_65 : decode cX9_ofChild 65 = .ok (.ireturn, 1) := by decide +kernel
theorem dX9_ofChild_66 : decode cX9_ofChild 66 = .ok (.aload_n 0, 1) := by decide +kernel
theorem dX9_ofChild_67 : decode cX9_ofChild 67 = .ok (.getfield 25, 3) := by decide +kernel
theorem dX9_ofChild_70 : decode cX9_ofChild 70 = .ok (.iload_n 1, 1) := by decide +kernel
theorem dX9_ofChild_71 : decode cX9_ofChild 71 = .ok (.iaload, 1) := by decide +kernel
theorem dX9_ofChild_72 : decode cX9_ofChild 72 = .ok (.ireturn, 1) := by decide +kernel
theorem dX9_ofChild_73 : decode cX9_ofChild 73 = .ok (.aload_n 0, 1) := by decide +kernel
theorem dX9_ofChild_74 : decode cX9_ofChild 74 = .ok (.getfield 31, 3) := by decide +kernel
theorem dX9_ofChild_77 : decode cX9_ofChild 77 = .ok (.iload_n 1, 1) := by decide +kernel
theorem dX9_ofChild_78 : decode cX9_ofChild 78 = .ok (.iaload, 1) := by decide +kernel
theorem dX9_ofChild_79 : decode cX9_ofChild 79 = .ok (.ireturn, 1) := by decide +kernel
theorem dX9_ofChild_80 : decode cX9_ofChild 80 = .ok (.aload_n 0, 1) := by decide +kernel
theorem dX9_ofChild_81 : decode cX9_ofChild 81 = .ok (.iload_n 1, 1) := by decide +kernel
theorem dX9_ofChild_82 : decode cX9_ofChild 82 = .ok (.invokevirtual 191, 3) := by decide +kernel
theorem dX9_ofChild_85 : decode cX9_ofChild 85 = .ok (.ireturn, 1) := by decide +kernel
theorem dX9_ofChild_86 : decode cX9_ofChild 86 = .ok (.aload_n 0, 1) := by decide +kernel
theorem dX9_ofChild_87 : decode cX9_ofChild 87 = .ok (.getfield 34, 3) := by decide +kernel
theorem dX9_ofChild_90 : decode cX9_ofChild 90 = .ok (.iload_n 1, 1) := by decide +kernel
theorem dX9_ofChild_91 : decode cX9_ofChild 91 = .ok (.iaload, 1) := by decide +kernel
theorem dX9_ofChild_92 : decode cX9_ofChild 92 = .ok (.ireturn, 1) := by decide +kernel
theorem dX9_ofChild_93 : decode cX9_ofChild 93 = .ok (.aload_n 0, 1) := by decide +kernel
theorem dX9_ofChild_94 : decode cX9_ofChild 94 = .ok (.iconst 2, 1) := by decide +kernel
theorem dX9_ofChild_95 : decode cX9_ofChild 95 = .ok (.invokevirtual 108, 3) := by decide +kernel
theorem dX9_ofChild_98 : decode cX9_ofChild 98 = .ok (.ireturn, 1) := by decide +kernel
theorem dX9_ofTroop_0 : decode cX9_ofTroop 0 = .ok (.aload_n 0, 1) := by decide +kernel
theorem dX9_ofTroop_1 : decode cX9_ofTroop 1 = .ok (.aload_n 0, 1) := by decide +kernel
theorem dX9_ofTroop_2 : decode cX9_ofTroop 2 = .ok (.iload_n 1, 1) := by decide +kernel
theorem dX9_ofTroop_3 : decode cX9_ofTroop 3 = .ok (.invokevirtual 133, 3) := by decide +kernel
theorem dX9_ofTroop_6 : decode cX9_ofTroop 6 = .ok (.invokevirtual 104, 3) := by decide +kernel
theorem dX9_ofTroop_9 : decode cX9_ofTroop 9 = .ok (.ifCond .ne 5, 3) := by decide +kernel
theorem dX9_ofTroop_12 : decode cX9_ofTroop 12 = .ok (.iconst 0, 1) := by decide +kernel
theorem dX9_ofTroop_13 : decode cX9_ofTroop 13 = .ok (.ireturn, 1) := by decide +kernel
theorem dX9_ofTroop_14 : decode cX9_ofTroop 14 = .ok (.iload_n 2, 1) := by decide +kernel
theorem dX9_ofTroop_15 : decode cX9_ofTroop 15 = .ok (.ifCond .eq 11, 3) := by decide +kernel
theorem dX9_ofTroop_18 : decode cX9_ofTroop 18 = .ok (.aload_n 0, 1) := by decide +kernel
theorem dX9_ofTroop_19 : decode cX9_ofTroop 19 = .ok (.iload_n 1, 1) := by decide +kernel
theorem dX9_ofTroop_20 : decode cX9_ofTroop 20 = .ok (.invokevirtual 126, 3) := by decide +kernel
theorem dX9_ofTroop_23 : decode cX9_ofTroop 23 = .ok (.goto 8, 3) := by decide +kernel
theorem dX9_ofTroop_26 : decode cX9_ofTroop 26 = .ok (.aload_n 0, 1) := by decide +kernel
theorem dX9_ofTroop_27 : decode cX9_ofTroop 27 = .ok (.iload_n 1, 1) := by decide +kernel
theorem dX9_ofTroop_28 : decode cX9_ofTroop 28 = .ok (.invokevirtual 116, 3) := by decide +kernel
theorem dX9_ofTroop_31 : decode cX9_ofTroop 31 = .ok (.ireturn, 1) := by decide +kernel
theorem dX9_earned_0 : decode cX9_earned 0 = .ok (.aload_n 0, 1) := by decide +kernel
theorem dX9_earned_1 : decode cX9_earned 1 = .ok (.aload_n 0, 1) := by decide +kernel
theorem dX9_earned_2 : decode cX9_earned 2 = .ok (.iload_n 1, 1) := by decide +kernel
theorem dX9_earned_3 : decode cX9_earned 3 = .ok (.invokevirtual 129, 3) := by decide +kernel
theorem dX9_earned_6 : decode cX9_earned 6 = .ok (.ifCond .eq 14, 3) := by decide +kernel
theorem dX9_earned_9 : decode cX9_earned 9 = .ok (.iload_n 2, 1) := by decide +kernel
theorem dX9_earned_10 : decode cX9_earned 10 = .ok (.invokestatic 168, 3) := by decide +kernel
theorem dX9_earned_13 : decode cX9_earned 13 = .ok (.ifCond .eq 7, 3) := by decide +kernel
theorem dX9_earned_16 : decode cX9_earned 16 = .ok (.iconst 1, 1) := by decide +kernel
theorem dX9_earned_17 : decode cX9_earned 17 = .ok (.goto 4, 3) := by decide +kernel
theorem dX9_earned_20 : decode cX9_earned 20 = .ok (.iconst 0, 1) := by decide +kernel
theorem dX9_earned_21 : decode cX9_earned 21 = .ok (.invokevirtual 104, 3) := by decide +kernel
theorem dX9_earned_24 : decode cX9_earned 24 = .ok (.ifCond .ne 5, 3) := by decide +kernel
theorem dX9_earned_27 : decode cX9_earned 27 = .ok (.iconst 0, 1) := by decide +kernel
theorem dX9_earned_28 : decode cX9_earned 28 = .ok (.ireturn, 1) := by decide +kernel
theorem dX9_earned_29 : decode cX9_earned 29 = .ok (.aload_n 0, 1) := by decide +kernel
theorem dX9_earned_30 : decode cX9_earned 30 = .ok (.iload_n 1, 1) := by decide +kernel
theorem dX9_earned_31 : decode cX9_earned 31 = .ok (.invokevirtual 185, 3) := by decide +kernel
theorem dX9_earned_34 : decode cX9_earned 34 = .ok (.aload_n 0, 1) := by decide +kernel
theorem dX9_earned_35 : decode cX9_earned 35 = .ok (.getfield 71, 3) := by decide +kernel
theorem dX9_earned_38 : decode cX9_earned 38 = .ok (.iload_n 2, 1) := by decide +kernel
theorem dX9_earned_39 : decode cX9_earned 39 = .ok (.iaload, 1) := by decide +kernel
theorem dX9_earned_40 : decode cX9_earned 40 = .ok (.aload_n 0, 1) := by decide +kernel
theorem dX9_earned_41 : decode cX9_earned 41 = .ok (.getfield 153, 3) := by decide +kernel
theorem dX9_earned_44 : decode cX9_earned 44 = .ok (.if_icmp .gt 12, 3) := by decide +kernel
theorem dX9_earned_47 : decode cX9_earned 47 = .ok (.aload_n 0, 1) := by decide +kernel
theorem dX9_earned_48 : decode cX9_earned 48 = .ok (.getfield 71, 3) := by decide +kernel
theorem dX9_earned_51 : decode cX9_earned 51 = .ok (.iload_n 2, 1) := by decide +kernel
theorem dX9_earned_52 : decode cX9_earned 52 = .ok (.iaload, 1) := by decide +kernel
theorem dX9_earned_53 : decode cX9_earned 53 = .ok (.goto 4, 3) := by decide +kernel
theorem dX9_earned_56 : decode cX9_earned 56 = .ok (.iconst (-1), 1) := by decide +kernel
theorem dX9_earned_57 : decode cX9_earned 57 = .ok (.ireturn, 1) := by decide +kernel
theorem dX9_holds_0 : decode cX9_holds 0 = .ok (.aload_n 0, 1) := by decide +kernel
theorem dX9_holds_1 : decode cX9_holds 1 = .ok (.aload_n 0, 1) := by decide +kernel
theorem dX9_holds_2 : decode cX9_holds 2 = .ok (.iload_n 1, 1) := by decide +kernel
theorem dX9_holds_3 : decode cX9_holds 3 = .ok (.invokevirtual 129, 3) := by decide +kernel
theorem dX9_holds_6 : decode cX9_holds 6 = .ok (.ifCond .eq 14, 3) := by decide +kernel
theorem dX9_holds_9 : decode cX9_holds 9 = .ok (.iload_n 2, 1) := by decide +kernel
theorem dX9_holds_10 : decode cX9_holds 10 = .ok (.invokestatic 168, 3) := by decide +kernel
theorem dX9_holds_13 : decode cX9_holds 13 = .ok (.ifCond .eq 7, 3) := by decide +kernel
theorem dX9_holds_16 : decode cX9_holds 16 = .ok (.iconst 1, 1) := by decide +kernel
theorem dX9_holds_17 : decode cX9_holds 17 = .ok (.goto 4, 3) := by decide +kernel
theorem dX9_holds_20 : decode cX9_holds 20 = .ok (.iconst 0, 1) := by decide +kernel
theorem dX9_holds_21 : decode cX9_holds 21 = .ok (.invokevirtual 104, 3) := by decide +kernel
theorem dX9_holds_24 : decode cX9_holds 24 = .ok (.ifCond .ne 5, 3) := by decide +kernel
theorem dX9_holds_27 : decode cX9_holds 27 = .ok (.iconst 0, 1) := by decide +kernel
theorem dX9_holds_28 : decode cX9_holds 28 = .ok (.ireturn, 1) := by decide +kernel
theorem dX9_holds_29 : decode cX9_holds 29 = .ok (.aload_n 0, 1) := by decide +kernel
theorem dX9_holds_30 : decode cX9_holds 30 = .ok (.iload_n 1, 1) := by decide +kernel
theorem dX9_holds_31 : decode cX9_holds 31 = .ok (.invokevirtual 185, 3) := by decide +kernel
theorem dX9_holds_34 : decode cX9_holds 34 = .ok (.aload_n 0, 1) := by decide +kernel
theorem dX9_holds_35 : decode cX9_holds 35 = .ok (.getfield 68, 3) := by decide +kernel
theorem dX9_holds_38 : decode cX9_holds 38 = .ok (.bipush 18, 2) := by decide +kernel
theorem dX9_holds_40 : decode cX9_holds 40 = .ok (.iload_n 2, 1) := by decide +kernel
theorem dX9_holds_41 : decode cX9_holds 41 = .ok (.imul, 1) := by decide +kernel
theorem dX9_holds_42 : decode cX9_holds 42 = .ok (.bipush 6, 2) := by decide +kernel
theorem dX9_holds_44 : decode cX9_holds 44 = .ok (.aload_n 0, 1) := by decide +kernel
theorem dX9_holds_45 : decode cX9_holds 45 = .ok (.getfield 53, 3) := by decide +kernel
theorem dX9_holds_48 : decode cX9_holds 48 = .ok (.bipush 8, 2) := by decide +kernel
theorem dX9_holds_50 : decode cX9_holds 50 = .ok (.iload_n 1, 1) := by decide +kernel
theorem dX9_holds_51 : decode cX9_holds 51 = .ok (.imul, 1) := by decide +kernel
theorem dX9_holds_52 : decode cX9_holds 52 = .ok (.iload_n 2, 1) := by decide +kernel
theorem dX9_holds_53 : decode cX9_holds 53 = .ok (.iadd, 1) := by decide +kernel
theorem dX9_holds_54 : decode cX9_holds 54 = .ok (.iaload, 1) := by decide +kernel
theorem dX9_holds_55 : decode cX9_holds 55 = .ok (.imul, 1) := by decide +kernel
theorem dX9_holds_56 : decode cX9_holds 56 = .ok (.iadd, 1) := by decide +kernel
theorem dX9_holds_57 : decode cX9_holds 57 = .ok (.iconst 5, 1) := by decide +kernel
theorem dX9_holds_58 : decode cX9_holds 58 = .ok (.iadd, 1) := by decide +kernel
theorem dX9_holds_59 : decode cX9_holds 59 = .ok (.iaload, 1) := by decide +kernel
theorem dX9_holds_60 : decode cX9_holds 60 = .ok (.istore_n 3, 1) := by decide +kernel
theorem dX9_holds_61 : decode cX9_holds 61 = .ok (.aload_n 0, 1) := by decide +kernel
theorem dX9_holds_62 : decode cX9_holds 62 = .ok (.getfield 71, 3) := by decide +kernel
theorem dX9_holds_65 : decode cX9_holds 65 = .ok (.iload_n 2, 1) := by decide +kernel
theorem dX9_holds_66 : decode cX9_holds 66 = .ok (.iaload, 1) := by decide +kernel
theorem dX9_holds_67 : decode cX9_holds 67 = .ok (.aload_n 0, 1) := by decide +kernel
theorem dX9_holds_68 : decode cX9_holds 68 = .ok (.getfield 153, 3) := by decide +kernel
theorem dX9_holds_71 : decode cX9_holds 71 = .ok (.if_icmp .gt 26, 3) := by decide +kernel
theorem dX9_holds_74 : decode cX9_holds 74 = .ok (.iload_n 3, 1) := by decide +kernel
theorem dX9_holds_75 : decode cX9_holds 75 = .ok (.ifCond .eq 18, 3) := by decide +kernel
theorem dX9_holds_78 : decode cX9_holds 78 = .ok (.aload_n 0, 1) := by decide +kernel
theorem dX9_holds_79 : decode cX9_holds 79 = .ok (.getfield 153, 3) := by decide +kernel
theorem dX9_holds_82 : decode cX9_holds 82 = .ok (.aload_n 0, 1) := by decide +kernel
theorem dX9_holds_83 : decode cX9_holds 83 = .ok (.getfield 71, 3) := by decide +kernel
theorem dX9_holds_86 : decode cX9_holds 86 = .ok (.iload_n 2, 1) := by decide +kernel
theorem dX9_holds_87 : decode cX9_holds 87 = .ok (.iaload, 1) := by decide +kernel
theorem dX9_holds_88 : decode cX9_holds 88 = .ok (.iload_n 3, 1) := by decide +kernel
theorem dX9_holds_89 : decode cX9_holds 89 = .ok (.iadd, 1) := by decide +kernel
theorem dX9_holds_90 : decode cX9_holds 90 = .ok (.if_icmp .ge 7, 3) := by decide +kernel
theorem dX9_holds_93 : decode cX9_holds 93 = .ok (.iconst 1, 1) := by decide +kernel
theorem dX9_holds_94 : decode cX9_holds 94 = .ok (.goto 4, 3) := by decide +kernel
theorem dX9_holds_97 : decode cX9_holds 97 = .ok (.iconst 0, 1) := by decide +kernel
theorem dX9_holds_98 : decode cX9_holds 98 = .ok (.ireturn, 1) := by decide +kernel
theorem dX9_lacks_0 : decode cX9_lacks 0 = .ok (.aload_n 0, 1) := by decide +kernel
theorem dX9_lacks_1 : decode cX9_lacks 1 = .ok (.aload_n 0, 1) := by decide +kernel
theorem dX9_lacks_2 : decode cX9_lacks 2 = .ok (.iload_n 1, 1) := by decide +kernel
theorem dX9_lacks_3 : decode cX9_lacks 3 = .ok (.invokevirtual 129, 3) := by decide +kernel
theorem dX9_lacks_6 : decode cX9_lacks 6 = .ok (.ifCond .eq 14, 3) := by decide +kernel
theorem dX9_lacks_9 : decode cX9_lacks 9 = .ok (.iload_n 2, 1) := by decide +kernel
theorem dX9_lacks_10 : decode cX9_lacks 10 = .ok (.invokestatic 168, 3) := by decide +kernel
theorem dX9_lacks_13 : decode cX9_lacks 13 = .ok (.ifCond .eq 7, 3) := by decide +kernel
theorem dX9_lacks_16 : decode cX9_lacks 16 = .ok (.iconst 1, 1) := by decide +kernel
theorem dX9_lacks_17 : decode cX9_lacks 17 = .ok (.goto 4, 3) := by decide +kernel
theorem dX9_lacks_20 : decode cX9_lacks 20 = .ok (.iconst 0, 1) := by decide +kernel
theorem dX9_lacks_21 : decode cX9_lacks 21 = .ok (.invokevirtual 104, 3) := by decide +kernel
theorem dX9_lacks_24 : decode cX9_lacks 24 = .ok (.ifCond .ne 5, 3) := by decide +kernel
theorem dX9_lacks_27 : decode cX9_lacks 27 = .ok (.iconst 0, 1) := by decide +kernel
theorem dX9_lacks_28 : decode cX9_lacks 28 = .ok (.ireturn, 1) := by decide +kernel
theorem dX9_lacks_29 : decode cX9_lacks 29 = .ok (.aload_n 0, 1) := by decide +kernel
theorem dX9_lacks_30 : decode cX9_lacks 30 = .ok (.getfield 50, 3) := by decide +kernel
theorem dX9_lacks_33 : decode cX9_lacks 33 = .ok (.bipush 8, 2) := by decide +kernel
theorem dX9_lacks_35 : decode cX9_lacks 35 = .ok (.iload_n 1, 1) := by decide +kernel
theorem dX9_lacks_36 : decode cX9_lacks 36 = .ok (.imul, 1) := by decide +kernel
theorem dX9_lacks_37 : decode cX9_lacks 37 = .ok (.iload_n 2, 1) := by decide +kernel
theorem dX9_lacks_38 : decode cX9_lacks 38 = .ok (.iadd, 1) := by decide +kernel
theorem dX9_lacks_39 : decode cX9_lacks 39 = .ok (.iaload, 1) := by decide +kernel
theorem dX9_lacks_40 : decode cX9_lacks 40 = .ok (.iconst (-1), 1) := by decide +kernel
theorem dX9_lacks_41 : decode cX9_lacks 41 = .ok (.if_icmp .ne 9, 3) := by decide +kernel
theorem dX9_lacks_44 : decode cX9_lacks 44 = .ok (.aload_n 0, 1) := by decide +kernel
theorem dX9_lacks_45 : decode cX9_lacks 45 = .ok (.iconst 2, 1) := by decide +kernel
theorem dX9_lacks_46 : decode cX9_lacks 46 = .ok (.invokevirtual 108, 3) := by decide +kernel
theorem dX9_lacks_49 : decode cX9_lacks 49 = .ok (.ireturn, 1) := by decide +kernel
theorem dX9_lacks_50 : decode cX9_lacks 50 = .ok (.aload_n 0, 1) := by decide +kernel
theorem dX9_lacks_51 : decode cX9_lacks 51 = .ok (.getfield 68, 3) := by decide +kernel
theorem dX9_lacks_54 : decode cX9_lacks 54 = .ok (.bipush 18, 2) := by decide +kernel
theorem dX9_lacks_56 : decode cX9_lacks 56 = .ok (.iload_n 2, 1) := by decide +kernel
theorem dX9_lacks_57 : decode cX9_lacks 57 = .ok (.imul, 1) := by decide +kernel
theorem dX9_lacks_58 : decode cX9_lacks 58 = .ok (.bipush 6, 2) := by decide +kernel
theorem dX9_lacks_60 : decode cX9_lacks 60 = .ok (.aload_n 0, 1) := by decide +kernel
theorem dX9_lacks_61 : decode cX9_lacks 61 = .ok (.getfield 53, 3) := by decide +kernel
theorem dX9_lacks_64 : decode cX9_lacks 64 = .ok (.bipush 8, 2) := by decide +kernel
theorem dX9_lacks_66 : decode cX9_lacks 66 = .ok (.iload_n 1, 1) := by decide +kernel
theorem dX9_lacks_67 : decode cX9_lacks 67 = .ok (.imul, 1) := by decide +kernel
theorem dX9_lacks_68 : decode cX9_lacks 68 = .ok (.iload_n 2, 1) := by decide +kernel
theorem dX9_lacks_69 : decode cX9_lacks 69 = .ok (.iadd, 1) := by decide +kernel
theorem dX9_lacks_70 : decode cX9_lacks 70 = .ok (.iaload, 1) := by decide +kernel
theorem dX9_lacks_71 : decode cX9_lacks 71 = .ok (.imul, 1) := by decide +kernel
theorem dX9_lacks_72 : decode cX9_lacks 72 = .ok (.iadd, 1) := by decide +kernel
theorem dX9_lacks_73 : decode cX9_lacks 73 = .ok (.iaload, 1) := by decide +kernel
theorem dX9_lacks_74 : decode cX9_lacks 74 = .ok (.istore_n 3, 1) := by decide +kernel
theorem dX9_lacks_75 : decode cX9_lacks 75 = .ok (.iconst 0, 1) := by decide +kernel
theorem dX9_lacks_76 : decode cX9_lacks 76 = .ok (.istore 4, 2) := by decide +kernel
theorem dX9_lacks_78 : decode cX9_lacks 78 = .ok (.iconst 0, 1) := by decide +kernel
theorem dX9_lacks_79 : decode cX9_lacks 79 = .ok (.istore 5, 2) := by decide +kernel
theorem dX9_lacks_81 : decode cX9_lacks 81 = .ok (.iload 5, 2) := by decide +kernel
theorem dX9_lacks_83 : decode cX9_lacks 83 = .ok (.bipush 16, 2) := by decide +kernel
theorem dX9_lacks_85 : decode cX9_lacks 85 = .ok (.if_icmp .ge 48, 3) := by decide +kernel
theorem dX9_lacks_88 : decode cX9_lacks 88 = .ok (.iload 4, 2) := by decide +kernel
theorem dX9_lacks_90 : decode cX9_lacks 90 = .ok (.iload_n 3, 1) := by decide +kernel
theorem dX9_lacks_91 : decode cX9_lacks 91 = .ok (.iload 5, 2) := by decide +kernel
theorem dX9_lacks_93 : decode cX9_lacks 93 = .ok (.ishr, 1) := by decide +kernel
theorem dX9_lacks_94 : decode cX9_lacks 94 = .ok (.iconst 1, 1) := by decide +kernel
theorem dX9_lacks_95 : decode cX9_lacks 95 = .ok (.iand, 1) := by decide +kernel
theorem dX9_lacks_96 : decode cX9_lacks 96 = .ok (.iconst 1, 1) := by decide +kernel
theorem dX9_lacks_97 : decode cX9_lacks 97 = .ok (.if_icmp .ne 26, 3) := by decide +kernel
theorem dX9_lacks_100 : decode cX9_lacks 100 = .ok (.aload_n 0, 1) := by decide +kernel
theorem dX9_lacks_101 : decode cX9_lacks 101 = .ok (.getfield 47, 3) := by decide +kernel
theorem dX9_lacks_104 : decode cX9_lacks 104 = .ok (.bipush 16, 2) := by decide +kernel
theorem dX9_lacks_106 : decode cX9_lacks 106 = .ok (.iload_n 1, 1) := by decide +kernel
theorem dX9_lacks_107 : decode cX9_lacks 107 = .ok (.imul, 1) := by decide +kernel
theorem dX9_lacks_108 : decode cX9_lacks 108 = .ok (.iload 5, 2) := by decide +kernel
theorem dX9_lacks_110 : decode cX9_lacks 110 = .ok (.iadd, 1) := by decide +kernel
theorem dX9_lacks_111 : decode cX9_lacks 111 = .ok (.iaload, 1) := by decide +kernel
theorem dX9_lacks_112 : decode cX9_lacks 112 = .ok (.iconst (-1), 1) := by decide +kernel
theorem dX9_lacks_113 : decode cX9_lacks 113 = .ok (.if_icmp .ne 10, 3) := by decide +kernel
theorem dX9_lacks_116 : decode cX9_lacks 116 = .ok (.iconst 1, 1) := by decide +kernel
theorem dX9_lacks_117 : decode cX9_lacks 117 = .ok (.iload 5, 2) := by decide +kernel
theorem dX9_lacks_119 : decode cX9_lacks 119 = .ok (.ishl, 1) := by decide +kernel
theorem dX9_lacks_120 : decode cX9_lacks 120 = .ok (.goto 4, 3) := by decide +kernel
theorem dX9_lacks_123 : decode cX9_lacks 123 = .ok (.iconst 0, 1) := by decide +kernel
theorem dX9_lacks_124 : decode cX9_lacks 124 = .ok (.ior, 1) := by decide +kernel
theorem dX9_lacks_125 : decode cX9_lacks 125 = .ok (.istore 4, 2) := by decide +kernel
theorem dX9_lacks_127 : decode cX9_lacks 127 = .ok (.iinc 5 1, 3) := by decide +kernel
theorem dX9_lacks_130 : decode cX9_lacks 130 = .ok (.goto (-49), 3) := by decide +kernel
theorem dX9_lacks_133 : decode cX9_lacks 133 = .ok (.iload 4, 2) := by decide +kernel
theorem dX9_lacks_135 : decode cX9_lacks 135 = .ok (.ireturn, 1) := by decide +kernel
end
section
theorem dL_troop_0 : decode cL_troop 0 = .ok (.aload 4, 2) := by decide +kernel
theorem dL_troop_2 : decode cL_troop 2 = .ok (.iconst 0, 1) := by decide +kernel
theorem dL_troop_3 : decode cL_troop 3 = .ok (.aload_n 0, 1) := by decide +kernel
theorem dL_troop_4 : decode cL_troop 4 = .ok (.iload_n 1, 1) := by decide +kernel
theorem dL_troop_5 : decode cL_troop 5 = .ok (.iload_n 2, 1) := by decide +kernel
theorem dL_troop_6 : decode cL_troop 6 = .ok (.iload_n 3, 1) := by decide +kernel
theorem dL_troop_7 : decode cL_troop 7 = .ok (.invokevirtual 7, 3) := by decide +kernel
theorem dL_troop_10 : decode cL_troop 10 = .ok (.i2l, 1) := by decide +kernel
theorem dL_troop_11 : decode cL_troop 11 = .ok (.lastore, 1) := by decide +kernel
theorem dL_troop_12 : decode cL_troop 12 = .ok (.goto 11, 3) := by decide +kernel
theorem dL_troop_15 : decode cL_troop 15 = .ok (.astore 5, 2) := by decide +kernel
theorem dL_troop_17 : decode cL_troop 17 = .ok (.iconst 1, 1) := by decide +kernel
theorem dL_troop_18 : decode cL_troop 18 = .ok (.ireturn, 1) := by decide +kernel
theorem dL_troop_19 : decode cL_troop 19 = .ok (.astore 5, 2) := by decide +kernel
theorem dL_troop_21 : decode cL_troop 21 = .ok (.iconst 2, 1) := by decide +kernel
theorem dL_troop_22 : decode cL_troop 22 = .ok (.ireturn, 1) := by decide +kernel
theorem dL_troop_23 : decode cL_troop 23 = .ok (.iconst 0, 1) := by decide +kernel
theorem dL_troop_24 : decode cL_troop 24 = .ok (.ireturn, 1) := by decide +kernel
theorem dL_child_0 : decode cL_child 0 = .ok (.aload_n 2, 1) := by decide +kernel
theorem dL_child_1 : decode cL_child 1 = .ok (.iconst 0, 1) := by decide +kernel
theorem dL_child_2 : decode cL_child 2 = .ok (.aload_n 0, 1) := by decide +kernel
theorem dL_child_3 : decode cL_child 3 = .ok (.iload_n 1, 1) := by decide +kernel
theorem dL_child_4 : decode cL_child 4 = .ok (.invokevirtual 17, 3) := by decide +kernel
theorem dL_child_7 : decode cL_child 7 = .ok (.i2l, 1) := by decide +kernel
theorem dL_child_8 : decode cL_child 8 = .ok (.lastore, 1) := by decide +kernel
theorem dL_child_9 : decode cL_child 9 = .ok (.goto 9, 3) := by decide +kernel
theorem dL_child_12 : decode cL_child 12 = .ok (.astore_n 3, 1) := by decide +kernel
theorem dL_child_13 : decode cL_child 13 = .ok (.iconst 1, 1) := by decide +kernel
theorem dL_child_14 : decode cL_child 14 = .ok (.ireturn, 1) := by decide +kernel
theorem dL_child_15 : decode cL_child 15 = .ok (.astore_n 3, 1) := by decide +kernel
theorem dL_child_16 : decode cL_child 16 = .ok (.iconst 2, 1) := by decide +kernel
theorem dL_child_17 : decode cL_child 17 = .ok (.ireturn, 1) := by decide +kernel
theorem dL_child_18 : decode cL_child 18 = .ok (.iconst 0, 1) := by decide +kernel
theorem dL_child_19 : decode cL_child 19 = .ok (.ireturn, 1) := by decide +kernel
theorem dL_join_0 : decode cL_join 0 = .ok (.aload_n 3, 1) := by decide +kernel
theorem dL_join_1 : decode cL_join 1 = .ok (.iconst 0, 1) := by decide +kernel
theorem dL_join_2 : decode cL_join 2 = .ok (.aload_n 0, 1) := by decide +kernel
theorem dL_join_3 : decode cL_join 3 = .ok (.iload_n 1, 1) := by decide +kernel
theorem dL_join_4 : decode cL_join 4 = .ok (.iload_n 2, 1) := by decide +kernel
theorem dL_join_5 : decode cL_join 5 = .ok (.invokevirtual 21, 3) := by decide +kernel
theorem dL_join_8 : decode cL_join 8 = .ok (.i2l, 1) := by decide +kernel
theorem dL_join_9 : decode cL_join 9 = .ok (.lastore, 1) := by decide +kernel
theorem dL_join_10 : decode cL_join 10 = .ok (.goto 11, 3) := by decide +kernel
theorem dL_join_13 : decode cL_join 13 = .ok (.astore 4, 2) := by decide +kernel
theorem dL_join_15 : decode cL_join 15 = .ok (.iconst 1, 1) := by decide +kernel
theorem dL_join_16 : decode cL_join 16 = .ok (.ireturn, 1) := by decide +kernel
theorem dL_join_17 : decode cL_join 17 = .ok (.astore 4, 2) := by decide +kernel
theorem dL_join_19 : decode cL_join 19 = .ok (.iconst 2, 1) := by decide +kernel
theorem dL_join_20 : decode cL_join 20 = .ok (.ireturn, 1) := by decide +kernel
theorem dL_join_21 : decode cL_join 21 = .ok (.iconst 0, 1) := by decide +kernel
theorem dL_join_22 : decode cL_join 22 = .ok (.ireturn, 1) := by decide +kernel
theorem dL_leave_0 : decode cL_leave 0 = .ok (.aload_n 2, 1) := by decide +kernel
theorem dL_leave_1 : decode cL_leave 1 = .ok (.iconst 0, 1) := by decide +kernel
theorem dL_leave_2 : decode cL_leave 2 = .ok (.aload_n 0, 1) := by decide +kernel
theorem dL_leave_3 : decode cL_leave 3 = .ok (.iload_n 1, 1) := by decide +kernel
theorem dL_leave_4 : decode cL_leave 4 = .ok (.invokevirtual 27, 3) := by decide +kernel
theorem dL_leave_7 : decode cL_leave 7 = .ok (.i2l, 1) := by decide +kernel
theorem dL_leave_8 : decode cL_leave 8 = .ok (.lastore, 1) := by decide +kernel
theorem dL_leave_9 : decode cL_leave 9 = .ok (.goto 9, 3) := by decide +kernel
theorem dL_leave_12 : decode cL_leave 12 = .ok (.astore_n 3, 1) := by decide +kernel
theorem dL_leave_13 : decode cL_leave 13 = .ok (.iconst 1, 1) := by decide +kernel
theorem dL_leave_14 : decode cL_leave 14 = .ok (.ireturn, 1) := by decide +kernel
theorem dL_leave_15 : decode cL_leave 15 = .ok (.astore_n 3, 1) := by decide +kernel
theorem dL_leave_16 : decode cL_leave 16 = .ok (.iconst 2, 1) := by decide +kernel
theorem dL_leave_17 : decode cL_leave 17 = .ok (.ireturn, 1) := by decide +kernel
theorem dL_leave_18 : decode cL_leave 18 = .ok (.iconst 0, 1) := by decide +kernel
theorem dL_leave_19 : decode cL_leave 19 = .ok (.ireturn, 1) := by decide +kernel
theorem dL_patrol_0 : decode cL_patrol 0 = .ok (.aload_n 3, 1) := by decide +kernel
theorem dL_patrol_1 : decode cL_patrol 1 = .ok (.iconst 0, 1) := by decide +kernel
theorem dL_patrol_2 : decode cL_patrol 2 = .ok (.aload_n 0, 1) := by decide +kernel
theorem dL_patrol_3 : decode cL_patrol 3 = .ok (.iload_n 1, 1) := by decide +kernel
theorem dL_patrol_4 : decode cL_patrol 4 = .ok (.iload_n 2, 1) := by decide +kernel
theorem dL_patrol_5 : decode cL_patrol 5 = .ok (.invokevirtual 30, 3) := by decide +kernel
theorem dL_patrol_8 : decode cL_patrol 8 = .ok (.i2l, 1) := by decide +kernel
theorem dL_patrol_9 : decode cL_patrol 9 = .ok (.lastore, 1) := by decide +kernel
theorem dL_patrol_10 : decode cL_patrol 10 = .ok (.goto 15, 3) := by decide +kernel
theorem dL_patrol_13 : decode cL_patrol 13 = .ok (.astore 4, 2) := by decide +kernel
theorem dL_patrol_15 : decode cL_patrol 15 = .ok (.iconst 1, 1) := by decide +kernel
theorem dL_patrol_16 : decode cL_patrol 16 = .ok (.ireturn, 1) := by decide +kernel
theorem dL_patrol_17 : decode cL_patrol 17 = .ok (.astore 4, 2) := by decide +kernel
theorem dL_patrol_19 : decode cL_patrol 19 = .ok (.iconst 2, 1) := by decide +kernel
theorem dL_patrol_20 : decode cL_patrol 20 = .ok (.ireturn, 1) := by decide +kernel
theorem dL_patrol_21 : decode cL_patrol 21 = .ok (.astore 4, 2) := by decide +kernel
theorem dL_patrol_23 : decode cL_patrol 23 = .ok (.iconst 3, 1) := by decide +kernel
theorem dL_patrol_24 : decode cL_patrol 24 = .ok (.ireturn, 1) := by decide +kernel
theorem dL_patrol_25 : decode cL_patrol 25 = .ok (.iconst 0, 1) := by decide +kernel
theorem dL_patrol_26 : decode cL_patrol 26 = .ok (.ireturn, 1) := by decide +kernel
theorem dL_duty_0 : decode cL_duty 0 = .ok (.aload_n 3, 1) := by decide +kernel
theorem dL_duty_1 : decode cL_duty 1 = .ok (.iconst 0, 1) := by decide +kernel
theorem dL_duty_2 : decode cL_duty 2 = .ok (.aload_n 0, 1) := by decide +kernel
theorem dL_duty_3 : decode cL_duty 3 = .ok (.iload_n 1, 1) := by decide +kernel
theorem dL_duty_4 : decode cL_duty 4 = .ok (.iload_n 2, 1) := by decide +kernel
theorem dL_duty_5 : decode cL_duty 5 = .ok (.invokevirtual 33, 3) := by decide +kernel
theorem dL_duty_8 : decode cL_duty 8 = .ok (.i2l, 1) := by decide +kernel
theorem dL_duty_9 : decode cL_duty 9 = .ok (.lastore, 1) := by decide +kernel
theorem dL_duty_10 : decode cL_duty 10 = .ok (.goto 11, 3) := by decide +kernel
theorem dL_duty_13 : decode cL_duty 13 = .ok (.astore 4, 2) := by decide +kernel
theorem dL_duty_15 : decode cL_duty 15 = .ok (.iconst 1, 1) := by decide +kernel
theorem dL_duty_16 : decode cL_duty 16 = .ok (.ireturn, 1) := by decide +kernel
theorem dL_duty_17 : decode cL_duty 17 = .ok (.astore 4, 2) := by decide +kernel
theorem dL_duty_19 : decode cL_duty 19 = .ok (.iconst 2, 1) := by decide +kernel
theorem dL_duty_20 : decode cL_duty 20 = .ok (.ireturn, 1) := by decide +kernel
theorem dL_duty_21 : decode cL_duty 21 = .ok (.iconst 0, 1) := by decide +kernel
theorem dL_duty_22 : decode cL_duty 22 = .ok (.ireturn, 1) := by decide +kernel
theorem dL_pass_0 : decode cL_pass 0 = .ok (.aload_n 2, 1) := by decide +kernel
theorem dL_pass_1 : decode cL_pass 1 = .ok (.iconst 0, 1) := by decide +kernel
theorem dL_pass_2 : decode cL_pass 2 = .ok (.aload_n 0, 1) := by decide +kernel
theorem dL_pass_3 : decode cL_pass 3 = .ok (.iload_n 1, 1) := by decide +kernel
theorem dL_pass_4 : decode cL_pass 4 = .ok (.invokevirtual 36, 3) := by decide +kernel
theorem dL_pass_7 : decode cL_pass 7 = .ok (.i2l, 1) := by decide +kernel
theorem dL_pass_8 : decode cL_pass 8 = .ok (.lastore, 1) := by decide +kernel
theorem dL_pass_9 : decode cL_pass 9 = .ok (.goto 9, 3) := by decide +kernel
theorem dL_pass_12 : decode cL_pass 12 = .ok (.astore_n 3, 1) := by decide +kernel
theorem dL_pass_13 : decode cL_pass 13 = .ok (.iconst 1, 1) := by decide +kernel
theorem dL_pass_14 : decode cL_pass 14 = .ok (.ireturn, 1) := by decide +kernel
theorem dL_pass_15 : decode cL_pass 15 = .ok (.astore_n 3, 1) := by decide +kernel
theorem dL_pass_16 : decode cL_pass 16 = .ok (.iconst 2, 1) := by decide +kernel
theorem dL_pass_17 : decode cL_pass 17 = .ok (.ireturn, 1) := by decide +kernel
theorem dL_pass_18 : decode cL_pass 18 = .ok (.iconst 0, 1) := by decide +kernel
theorem dL_pass_19 : decode cL_pass 19 = .ok (.ireturn, 1) := by decide +kernel
theorem dL_leader_0 : decode cL_leader 0 = .ok (.aload_n 1, 1) := by decide +kernel
theorem dL_leader_1 : decode cL_leader 1 = .ok (.iconst 0, 1) := by decide +kernel
theorem dL_leader_2 : decode cL_leader 2 = .ok (.aload_n 0, 1) := by decide +kernel
theorem dL_leader_3 : decode cL_leader 3 = .ok (.invokevirtual 39, 3) := by decide +kernel
theorem dL_leader_6 : decode cL_leader 6 = .ok (.i2l, 1) := by decide +kernel
theorem dL_leader_7 : decode cL_leader 7 = .ok (.lastore, 1) := by decide +kernel
theorem dL_leader_8 : decode cL_leader 8 = .ok (.goto 6, 3) := by decide +kernel
theorem dL_leader_11 : decode cL_leader 11 = .ok (.astore_n 2, 1) := by decide +kernel
theorem dL_leader_12 : decode cL_leader 12 = .ok (.iconst 1, 1) := by decide +kernel
theorem dL_leader_13 : decode cL_leader 13 = .ok (.ireturn, 1) := by decide +kernel
theorem dL_leader_14 : decode cL_leader 14 = .ok (.iconst 0, 1) := by decide +kernel
theorem dL_leader_15 : decode cL_leader 15 = .ok (.ireturn, 1) := by decide +kernel
theorem dL_vet_0 : decode cL_vet 0 = .ok (.aload_n 0, 1) := by decide +kernel
theorem dL_vet_1 : decode cL_vet 1 = .ok (.iload_n 1, 1) := by decide +kernel
theorem dL_vet_2 : decode cL_vet 2 = .ok (.iload_n 2, 1) := by decide +kernel
theorem dL_vet_3 : decode cL_vet 3 = .ok (.iload_n 3, 1) := by decide +kernel
theorem dL_vet_4 : decode cL_vet 4 = .ok (.iload 4, 2) := by decide +kernel
theorem dL_vet_6 : decode cL_vet 6 = .ok (.invokevirtual 43, 3) := by decide +kernel
theorem dL_vet_9 : decode cL_vet 9 = .ok (.goto 11, 3) := by decide +kernel
theorem dL_vet_12 : decode cL_vet 12 = .ok (.astore 5, 2) := by decide +kernel
theorem dL_vet_14 : decode cL_vet 14 = .ok (.iconst 1, 1) := by decide +kernel
theorem dL_vet_15 : decode cL_vet 15 = .ok (.ireturn, 1) := by decide +kernel
theorem dL_vet_16 : decode cL_vet 16 = .ok (.astore 5, 2) := by decide +kernel
theorem dL_vet_18 : decode cL_vet 18 = .ok (.iconst 2, 1) := by decide +kernel
theorem dL_vet_19 : decode cL_vet 19 = .ok (.ireturn, 1) := by decide +kernel
theorem dL_vet_20 : decode cL_vet 20 = .ok (.iconst 0, 1) := by decide +kernel
theorem dL_vet_21 : decode cL_vet 21 = .ok (.ireturn, 1) := by decide +kernel
theorem dL_permit_0 : decode cL_permit 0 = .ok (.aload 4, 2) := by decide +kernel
theorem dL_permit_2 : decode cL_permit 2 = .ok (.iconst 0, 1) := by decide +kernel
theorem dL_permit_3 : decode cL_permit 3 = .ok (.aload_n 0, 1) := by decide +kernel
theorem dL_permit_4 : decode cL_permit 4 = .ok (.iload_n 1, 1) := by decide +kernel
theorem dL_permit_5 : decode cL_permit 5 = .ok (.iload_n 2, 1) := by decide +kernel
theorem dL_permit_6 : decode cL_permit 6 = .ok (.iload_n 3, 1) := by decide +kernel
theorem dL_permit_7 : decode cL_permit 7 = .ok (.invokevirtual 47, 3) := by decide +kernel
theorem dL_permit_10 : decode cL_permit 10 = .ok (.i2l, 1) := by decide +kernel
theorem dL_permit_11 : decode cL_permit 11 = .ok (.lastore, 1) := by decide +kernel
theorem dL_permit_12 : decode cL_permit 12 = .ok (.goto 11, 3) := by decide +kernel
theorem dL_permit_15 : decode cL_permit 15 = .ok (.astore 5, 2) := by decide +kernel
theorem dL_permit_17 : decode cL_permit 17 = .ok (.iconst 1, 1) := by decide +kernel
theorem dL_permit_18 : decode cL_permit 18 = .ok (.ireturn, 1) := by decide +kernel
theorem dL_permit_19 : decode cL_permit 19 = .ok (.astore 5, 2) := by decide +kernel
theorem dL_permit_21 : decode cL_permit 21 = .ok (.iconst 2, 1) := by decide +kernel
theorem dL_permit_22 : decode cL_permit 22 = .ok (.ireturn, 1) := by decide +kernel
theorem dL_permit_23 : decode cL_permit 23 = .ok (.iconst 0, 1) := by decide +kernel
theorem dL_permit_24 : decode cL_permit 24 = .ok (.ireturn, 1) := by decide +kernel
theorem dL_teach_0 : decode cL_teach 0 = .ok (.aload_n 3, 1) := by decide +kernel
theorem dL_teach_1 : decode cL_teach 1 = .ok (.iconst 0, 1) := by decide +kernel
theorem dL_teach_2 : decode cL_teach 2 = .ok (.aload_n 0, 1) := by decide +kernel
theorem dL_teach_3 : decode cL_teach 3 = .ok (.iload_n 1, 1) := by decide +kernel
theorem dL_teach_4 : decode cL_teach 4 = .ok (.iload_n 2, 1) := by decide +kernel
theorem dL_teach_5 : decode cL_teach 5 = .ok (.invokevirtual 50, 3) := by decide +kernel
theorem dL_teach_8 : decode cL_teach 8 = .ok (.i2l, 1) := by decide +kernel
theorem dL_teach_9 : decode cL_teach 9 = .ok (.lastore, 1) := by decide +kernel
theorem dL_teach_10 : decode cL_teach 10 = .ok (.goto 11, 3) := by decide +kernel
theorem dL_teach_13 : decode cL_teach 13 = .ok (.astore 4, 2) := by decide +kernel
theorem dL_teach_15 : decode cL_teach 15 = .ok (.iconst 1, 1) := by decide +kernel
theorem dL_teach_16 : decode cL_teach 16 = .ok (.ireturn, 1) := by decide +kernel
theorem dL_teach_17 : decode cL_teach 17 = .ok (.astore 4, 2) := by decide +kernel
theorem dL_teach_19 : decode cL_teach 19 = .ok (.iconst 2, 1) := by decide +kernel
theorem dL_teach_20 : decode cL_teach 20 = .ok (.ireturn, 1) := by decide +kernel
theorem dL_teach_21 : decode cL_teach 21 = .ok (.iconst 0, 1) := by decide +kernel
theorem dL_teach_22 : decode cL_teach 22 = .ok (.ireturn, 1) := by decide +kernel
theorem dL_edition_0 : decode cL_edition 0 = .ok (.aload 8, 2) := by decide +kernel
theorem dL_edition_2 : decode cL_edition 2 = .ok (.iconst 0, 1) := by decide +kernel
theorem dL_edition_3 : decode cL_edition 3 = .ok (.aload_n 0, 1) := by decide +kernel
theorem dL_edition_4 : decode cL_edition 4 = .ok (.iload_n 1, 1) := by decide +kernel
theorem dL_edition_5 : decode cL_edition 5 = .ok (.iload_n 2, 1) := by decide +kernel
theorem dL_edition_6 : decode cL_edition 6 = .ok (.iload_n 3, 1) := by decide +kernel
theorem dL_edition_7 : decode cL_edition 7 = .ok (.iload 4, 2) := by decide +kernel
theorem dL_edition_9 : decode cL_edition 9 = .ok (.iload 5, 2) := by decide +kernel
theorem dL_edition_11 : decode cL_edition 11 = .ok (.iload 6, 2) := by decide +kernel
theorem dL_edition_13 : decode cL_edition 13 = .ok (.iload 7, 2) := by decide +kernel
theorem dL_edition_15 : decode cL_edition 15 = .ok (.invokevirtual 53, 3) := by decide +kernel
theorem dL_edition_18 : decode cL_edition 18 = .ok (.i2l, 1) := by decide +kernel
theorem dL_edition_19 : decode cL_edition 19 = .ok (.lastore, 1) := by decide +kernel
theorem dL_edition_20 : decode cL_edition 20 = .ok (.goto 15, 3) := by decide +kernel
theorem dL_edition_23 : decode cL_edition 23 = .ok (.astore 9, 2) := by decide +kernel
theorem dL_edition_25 : decode cL_edition 25 = .ok (.iconst 1, 1) := by decide +kernel
theorem dL_edition_26 : decode cL_edition 26 = .ok (.ireturn, 1) := by decide +kernel
theorem dL_edition_27 : decode cL_edition 27 = .ok (.astore 9, 2) := by decide +kernel
theorem dL_edition_29 : decode cL_edition 29 = .ok (.iconst 2, 1) := by decide +kernel
theorem dL_edition_30 : decode cL_edition 30 = .ok (.ireturn, 1) := by decide +kernel
theorem dL_edition_31 : decode cL_edition 31 = .ok (.astore 9, 2) := by decide +kernel
theorem dL_edition_33 : decode cL_edition 33 = .ok (.iconst 3, 1) := by decide +kernel
theorem dL_edition_34 : decode cL_edition 34 = .ok (.ireturn, 1) := by decide +kernel
theorem dL_edition_35 : decode cL_edition 35 = .ok (.iconst 0, 1) := by decide +kernel
theorem dL_edition_36 : decode cL_edition 36 = .ok (.ireturn, 1) := by decide +kernel
theorem dL_begin_0 : decode cL_begin 0 = .ok (.aload_n 3, 1) := by decide +kernel
theorem dL_begin_1 : decode cL_begin 1 = .ok (.iconst 0, 1) := by decide +kernel
theorem dL_begin_2 : decode cL_begin 2 = .ok (.aload_n 0, 1) := by decide +kernel
theorem dL_begin_3 : decode cL_begin 3 = .ok (.iload_n 1, 1) := by decide +kernel
theorem dL_begin_4 : decode cL_begin 4 = .ok (.iload_n 2, 1) := by decide +kernel
theorem dL_begin_5 : decode cL_begin 5 = .ok (.invokevirtual 57, 3) := by decide +kernel
theorem dL_begin_8 : decode cL_begin 8 = .ok (.i2l, 1) := by decide +kernel
theorem dL_begin_9 : decode cL_begin 9 = .ok (.lastore, 1) := by decide +kernel
theorem dL_begin_10 : decode cL_begin 10 = .ok (.goto 11, 3) := by decide +kernel
theorem dL_begin_13 : decode cL_begin 13 = .ok (.astore 4, 2) := by decide +kernel
theorem dL_begin_15 : decode cL_begin 15 = .ok (.iconst 1, 1) := by decide +kernel
theorem dL_begin_16 : decode cL_begin 16 = .ok (.ireturn, 1) := by decide +kernel
theorem dL_begin_17 : decode cL_begin 17 = .ok (.astore 4, 2) := by decide +kernel
theorem dL_begin_19 : decode cL_begin 19 = .ok (.iconst 2, 1) := by decide +kernel
theorem dL_begin_20 : decode cL_begin 20 = .ok (.ireturn, 1) := by decide +kernel
theorem dL_begin_21 : decode cL_begin 21 = .ok (.iconst 0, 1) := by decide +kernel
theorem dL_begin_22 : decode cL_begin 22 = .ok (.ireturn, 1) := by decide +kernel
theorem dL_prove_0 : decode cL_prove 0 = .ok (.aload 4, 2) := by decide +kernel
theorem dL_prove_2 : decode cL_prove 2 = .ok (.iconst 0, 1) := by decide +kernel
theorem dL_prove_3 : decode cL_prove 3 = .ok (.aload_n 0, 1) := by decide +kernel
theorem dL_prove_4 : decode cL_prove 4 = .ok (.iload_n 1, 1) := by decide +kernel
theorem dL_prove_5 : decode cL_prove 5 = .ok (.iload_n 2, 1) := by decide +kernel
theorem dL_prove_6 : decode cL_prove 6 = .ok (.iload_n 3, 1) := by decide +kernel
theorem dL_prove_7 : decode cL_prove 7 = .ok (.invokevirtual 60, 3) := by decide +kernel
theorem dL_prove_10 : decode cL_prove 10 = .ok (.i2l, 1) := by decide +kernel
theorem dL_prove_11 : decode cL_prove 11 = .ok (.lastore, 1) := by decide +kernel
theorem dL_prove_12 : decode cL_prove 12 = .ok (.goto 11, 3) := by decide +kernel
theorem dL_prove_15 : decode cL_prove 15 = .ok (.astore 5, 2) := by decide +kernel
theorem dL_prove_17 : decode cL_prove 17 = .ok (.iconst 1, 1) := by decide +kernel
theorem dL_prove_18 : decode cL_prove 18 = .ok (.ireturn, 1) := by decide +kernel
theorem dL_prove_19 : decode cL_prove 19 = .ok (.astore 5, 2) := by decide +kernel
theorem dL_prove_21 : decode cL_prove 21 = .ok (.iconst 2, 1) := by decide +kernel
theorem dL_prove_22 : decode cL_prove 22 = .ok (.ireturn, 1) := by decide +kernel
theorem dL_prove_23 : decode cL_prove 23 = .ok (.iconst 0, 1) := by decide +kernel
theorem dL_prove_24 : decode cL_prove 24 = .ok (.ireturn, 1) := by decide +kernel
theorem dL_event_0 : decode cL_event 0 = .ok (.aload 7, 2) := by decide +kernel
theorem dL_event_2 : decode cL_event 2 = .ok (.iconst 0, 1) := by decide +kernel
theorem dL_event_3 : decode cL_event 3 = .ok (.aload_n 0, 1) := by decide +kernel
theorem dL_event_4 : decode cL_event 4 = .ok (.iload_n 1, 1) := by decide +kernel
theorem dL_event_5 : decode cL_event 5 = .ok (.iload_n 2, 1) := by decide +kernel
theorem dL_event_6 : decode cL_event 6 = .ok (.iload_n 3, 1) := by decide +kernel
theorem dL_event_7 : decode cL_event 7 = .ok (.iload 4, 2) := by decide +kernel
theorem dL_event_9 : decode cL_event 9 = .ok (.iload 5, 2) := by decide +kernel
theorem dL_event_11 : decode cL_event 11 = .ok (.iload 6, 2) := by decide +kernel
theorem dL_event_13 : decode cL_event 13 = .ok (.invokevirtual 63, 3) := by decide +kernel
theorem dL_event_16 : decode cL_event 16 = .ok (.i2l, 1) := by decide +kernel
theorem dL_event_17 : decode cL_event 17 = .ok (.lastore, 1) := by decide +kernel
theorem dL_event_18 : decode cL_event 18 = .ok (.goto 15, 3) := by decide +kernel
theorem dL_event_21 : decode cL_event 21 = .ok (.astore 8, 2) := by decide +kernel
theorem dL_event_23 : decode cL_event 23 = .ok (.iconst 1, 1) := by decide +kernel
theorem dL_event_24 : decode cL_event 24 = .ok (.ireturn, 1) := by decide +kernel
theorem dL_event_25 : decode cL_event 25 = .ok (.astore 8, 2) := by decide +kernel
theorem dL_event_27 : decode cL_event 27 = .ok (.iconst 2, 1) := by decide +kernel
theorem dL_event_28 : decode cL_event 28 = .ok (.ireturn, 1) := by decide +kernel
theorem dL_event_29 : decode cL_event 29 = .ok (.astore 8, 2) := by decide +kernel
theorem dL_event_31 : decode cL_event 31 = .ok (.iconst 3, 1) := by decide +kernel
theorem dL_event_32 : decode cL_event 32 = .ok (.ireturn, 1) := by decide +kernel
theorem dL_event_33 : decode cL_event 33 = .ok (.iconst 0, 1) := by decide +kernel
theorem dL_event_34 : decode cL_event 34 = .ok (.ireturn, 1) := by decide +kernel
theorem dL_staff_0 : decode cL_staff 0 = .ok (.aload 4, 2) := by decide +kernel
theorem dL_staff_2 : decode cL_staff 2 = .ok (.iconst 0, 1) := by decide +kernel
theorem dL_staff_3 : decode cL_staff 3 = .ok (.aload_n 0, 1) := by decide +kernel
theorem dL_staff_4 : decode cL_staff 4 = .ok (.iload_n 1, 1) := by decide +kernel
theorem dL_staff_5 : decode cL_staff 5 = .ok (.iload_n 2, 1) := by decide +kernel
theorem dL_staff_6 : decode cL_staff 6 = .ok (.iload_n 3, 1) := by decide +kernel
theorem dL_staff_7 : decode cL_staff 7 = .ok (.invokevirtual 67, 3) := by decide +kernel
theorem dL_staff_10 : decode cL_staff 10 = .ok (.i2l, 1) := by decide +kernel
theorem dL_staff_11 : decode cL_staff 11 = .ok (.lastore, 1) := by decide +kernel
theorem dL_staff_12 : decode cL_staff 12 = .ok (.goto 11, 3) := by decide +kernel
theorem dL_staff_15 : decode cL_staff 15 = .ok (.astore 5, 2) := by decide +kernel
theorem dL_staff_17 : decode cL_staff 17 = .ok (.iconst 1, 1) := by decide +kernel
theorem dL_staff_18 : decode cL_staff 18 = .ok (.ireturn, 1) := by decide +kernel
theorem dL_staff_19 : decode cL_staff 19 = .ok (.astore 5, 2) := by decide +kernel
theorem dL_staff_21 : decode cL_staff 21 = .ok (.iconst 2, 1) := by decide +kernel
theorem dL_staff_22 : decode cL_staff 22 = .ok (.ireturn, 1) := by decide +kernel
theorem dL_staff_23 : decode cL_staff 23 = .ok (.iconst 0, 1) := by decide +kernel
theorem dL_staff_24 : decode cL_staff 24 = .ok (.ireturn, 1) := by decide +kernel
theorem dL_why_0 : decode cL_why 0 = .ok (.aload_n 2, 1) := by decide +kernel
theorem dL_why_1 : decode cL_why 1 = .ok (.iconst 0, 1) := by decide +kernel
theorem dL_why_2 : decode cL_why 2 = .ok (.aload_n 0, 1) := by decide +kernel
theorem dL_why_3 : decode cL_why 3 = .ok (.iload_n 1, 1) := by decide +kernel
theorem dL_why_4 : decode cL_why 4 = .ok (.invokevirtual 71, 3) := by decide +kernel
theorem dL_why_7 : decode cL_why 7 = .ok (.i2l, 1) := by decide +kernel
theorem dL_why_8 : decode cL_why 8 = .ok (.lastore, 1) := by decide +kernel
theorem dL_why_9 : decode cL_why 9 = .ok (.goto 6, 3) := by decide +kernel
theorem dL_why_12 : decode cL_why 12 = .ok (.astore_n 3, 1) := by decide +kernel
theorem dL_why_13 : decode cL_why 13 = .ok (.iconst 1, 1) := by decide +kernel
theorem dL_why_14 : decode cL_why 14 = .ok (.ireturn, 1) := by decide +kernel
theorem dL_why_15 : decode cL_why 15 = .ok (.iconst 0, 1) := by decide +kernel
theorem dL_why_16 : decode cL_why 16 = .ok (.ireturn, 1) := by decide +kernel
theorem dL_couldStaff_0 : decode cL_couldStaff 0 = .ok (.aload 4, 2) := by decide +kernel
theorem dL_couldStaff_2 : decode cL_couldStaff 2 = .ok (.iconst 0, 1) := by decide +kernel
theorem dL_couldStaff_3 : decode cL_couldStaff 3 = .ok (.aload_n 0, 1) := by decide +kernel
theorem dL_couldStaff_4 : decode cL_couldStaff 4 = .ok (.iload_n 1, 1) := by decide +kernel
theorem dL_couldStaff_5 : decode cL_couldStaff 5 = .ok (.iload_n 2, 1) := by decide +kernel
theorem dL_couldStaff_6 : decode cL_couldStaff 6 = .ok (.iload_n 3, 1) := by decide +kernel
theorem dL_couldStaff_7 : decode cL_couldStaff 7 = .ok (.invokevirtual 74, 3) := by decide +kernel
theorem dL_couldStaff_10 : decode cL_couldStaff 10 = .ok (.ifCond .eq 7, 3) := by decide +kernel
theorem dL_couldStaff_13 : decode cL_couldStaff 13 = .ok (.lconst 1, 1) := by decide +kernel
theorem dL_couldStaff_14 : decode cL_couldStaff 14 = .ok (.goto 4, 3) := by decide +kernel
theorem dL_couldStaff_17 : decode cL_couldStaff 17 = .ok (.lconst 0, 1) := by decide +kernel
theorem dL_couldStaff_18 : decode cL_couldStaff 18 = .ok (.lastore, 1) := by decide +kernel
theorem dL_couldStaff_19 : decode cL_couldStaff 19 = .ok (.goto 11, 3) := by decide +kernel
theorem dL_couldStaff_22 : decode cL_couldStaff 22 = .ok (.astore 5, 2) := by decide +kernel
theorem dL_couldStaff_24 : decode cL_couldStaff 24 = .ok (.iconst 1, 1) := by decide +kernel
theorem dL_couldStaff_25 : decode cL_couldStaff 25 = .ok (.ireturn, 1) := by decide +kernel
theorem dL_couldStaff_26 : decode cL_couldStaff 26 = .ok (.astore 5, 2) := by decide +kernel
theorem dL_couldStaff_28 : decode cL_couldStaff 28 = .ok (.iconst 2, 1) := by decide +kernel
theorem dL_couldStaff_29 : decode cL_couldStaff 29 = .ok (.ireturn, 1) := by decide +kernel
theorem dL_couldStaff_30 : decode cL_couldStaff 30 = .ok (.iconst 0, 1) := by decide +kernel
theorem dL_couldStaff_31 : decode cL_couldStaff 31 = .ok (.ireturn, 1) := by decide +kernel
theorem dL_boxes_0 : decode cL_boxes 0 = .ok (.aload_n 3, 1) := by decide +kernel
theorem dL_boxes_1 : decode cL_boxes 1 = .ok (.iconst 0, 1) := by decide +kernel
theorem dL_boxes_2 : decode cL_boxes 2 = .ok (.aload_n 0, 1) := by decide +kernel
theorem dL_boxes_3 : decode cL_boxes 3 = .ok (.iload_n 1, 1) := by decide +kernel
theorem dL_boxes_4 : decode cL_boxes 4 = .ok (.iload_n 2, 1) := by decide +kernel
theorem dL_boxes_5 : decode cL_boxes 5 = .ok (.invokevirtual 78, 3) := by decide +kernel
theorem dL_boxes_8 : decode cL_boxes 8 = .ok (.i2l, 1) := by decide +kernel
theorem dL_boxes_9 : decode cL_boxes 9 = .ok (.lastore, 1) := by decide +kernel
theorem dL_boxes_10 : decode cL_boxes 10 = .ok (.goto 15, 3) := by decide +kernel
theorem dL_boxes_13 : decode cL_boxes 13 = .ok (.astore 4, 2) := by decide +kernel
theorem dL_boxes_15 : decode cL_boxes 15 = .ok (.iconst 1, 1) := by decide +kernel
theorem dL_boxes_16 : decode cL_boxes 16 = .ok (.ireturn, 1) := by decide +kernel
theorem dL_boxes_17 : decode cL_boxes 17 = .ok (.astore 4, 2) := by decide +kernel
theorem dL_boxes_19 : decode cL_boxes 19 = .ok (.iconst 2, 1) := by decide +kernel
theorem dL_boxes_20 : decode cL_boxes 20 = .ok (.ireturn, 1) := by decide +kernel
theorem dL_boxes_21 : decode cL_boxes 21 = .ok (.astore 4, 2) := by decide +kernel
theorem dL_boxes_23 : decode cL_boxes 23 = .ok (.iconst 3, 1) := by decide +kernel
theorem dL_boxes_24 : decode cL_boxes 24 = .ok (.ireturn, 1) := by decide +kernel
theorem dL_boxes_25 : decode cL_boxes 25 = .ok (.iconst 0, 1) := by decide +kernel
theorem dL_boxes_26 : decode cL_boxes 26 = .ok (.ireturn, 1) := by decide +kernel
theorem dL_pay_0 : decode cL_pay 0 = .ok (.aload_n 3, 1) := by decide +kernel
theorem dL_pay_1 : decode cL_pay 1 = .ok (.iconst 0, 1) := by decide +kernel
theorem dL_pay_2 : decode cL_pay 2 = .ok (.aload_n 0, 1) := by decide +kernel
theorem dL_pay_3 : decode cL_pay 3 = .ok (.iload_n 1, 1) := by decide +kernel
theorem dL_pay_4 : decode cL_pay 4 = .ok (.iload_n 2, 1) := by decide +kernel
theorem dL_pay_5 : decode cL_pay 5 = .ok (.invokevirtual 81, 3) := by decide +kernel
theorem dL_pay_8 : decode cL_pay 8 = .ok (.i2l, 1) := by decide +kernel
theorem dL_pay_9 : decode cL_pay 9 = .ok (.lastore, 1) := by decide +kernel
theorem dL_pay_10 : decode cL_pay 10 = .ok (.goto 15, 3) := by decide +kernel
theorem dL_pay_13 : decode cL_pay 13 = .ok (.astore 4, 2) := by decide +kernel
theorem dL_pay_15 : decode cL_pay 15 = .ok (.iconst 1, 1) := by decide +kernel
theorem dL_pay_16 : decode cL_pay 16 = .ok (.ireturn, 1) := by decide +kernel
theorem dL_pay_17 : decode cL_pay 17 = .ok (.astore 4, 2) := by decide +kernel
theorem dL_pay_19 : decode cL_pay 19 = .ok (.iconst 2, 1) := by decide +kernel
theorem dL_pay_20 : decode cL_pay 20 = .ok (.ireturn, 1) := by decide +kernel
theorem dL_pay_21 : decode cL_pay 21 = .ok (.astore 4, 2) := by decide +kernel
theorem dL_pay_23 : decode cL_pay 23 = .ok (.iconst 3, 1) := by decide +kernel
theorem dL_pay_24 : decode cL_pay 24 = .ok (.ireturn, 1) := by decide +kernel
theorem dL_pay_25 : decode cL_pay 25 = .ok (.iconst 0, 1) := by decide +kernel
theorem dL_pay_26 : decode cL_pay 26 = .ok (.ireturn, 1) := by decide +kernel
theorem dL_owed_0 : decode cL_owed 0 = .ok (.aload_n 2, 1) := by decide +kernel
theorem dL_owed_1 : decode cL_owed 1 = .ok (.iconst 0, 1) := by decide +kernel
theorem dL_owed_2 : decode cL_owed 2 = .ok (.aload_n 0, 1) := by decide +kernel
theorem dL_owed_3 : decode cL_owed 3 = .ok (.iload_n 1, 1) := by decide +kernel
theorem dL_owed_4 : decode cL_owed 4 = .ok (.invokevirtual 84, 3) := by decide +kernel
theorem dL_owed_7 : decode cL_owed 7 = .ok (.i2l, 1) := by decide +kernel
theorem dL_owed_8 : decode cL_owed 8 = .ok (.lastore, 1) := by decide +kernel
theorem dL_owed_9 : decode cL_owed 9 = .ok (.goto 6, 3) := by decide +kernel
theorem dL_owed_12 : decode cL_owed 12 = .ok (.astore_n 3, 1) := by decide +kernel
theorem dL_owed_13 : decode cL_owed 13 = .ok (.iconst 1, 1) := by decide +kernel
theorem dL_owed_14 : decode cL_owed 14 = .ok (.ireturn, 1) := by decide +kernel
theorem dL_owed_15 : decode cL_owed 15 = .ok (.iconst 0, 1) := by decide +kernel
theorem dL_owed_16 : decode cL_owed 16 = .ok (.ireturn, 1) := by decide +kernel
theorem dL_ofChild_0 : decode cL_ofChild 0 = .ok (.aload_n 3, 1) := by decide +kernel
theorem dL_ofChild_1 : decode cL_ofChild 1 = .ok (.iconst 0, 1) := by decide +kernel
theorem dL_ofChild_2 : decode cL_ofChild 2 = .ok (.aload_n 0, 1) := by decide +kernel
theorem dL_ofChild_3 : decode cL_ofChild 3 = .ok (.iload_n 1, 1) := by decide +kernel
theorem dL_ofChild_4 : decode cL_ofChild 4 = .ok (.iload_n 2, 1) := by decide +kernel
theorem dL_ofChild_5 : decode cL_ofChild 5 = .ok (.invokevirtual 87, 3) := by decide +kernel
theorem dL_ofChild_8 : decode cL_ofChild 8 = .ok (.i2l, 1) := by decide +kernel
theorem dL_ofChild_9 : decode cL_ofChild 9 = .ok (.lastore, 1) := by decide +kernel
theorem dL_ofChild_10 : decode cL_ofChild 10 = .ok (.goto 11, 3) := by decide +kernel
theorem dL_ofChild_13 : decode cL_ofChild 13 = .ok (.astore 4, 2) := by decide +kernel
theorem dL_ofChild_15 : decode cL_ofChild 15 = .ok (.iconst 1, 1) := by decide +kernel
theorem dL_ofChild_16 : decode cL_ofChild 16 = .ok (.ireturn, 1) := by decide +kernel
theorem dL_ofChild_17 : decode cL_ofChild 17 = .ok (.astore 4, 2) := by decide +kernel
theorem dL_ofChild_19 : decode cL_ofChild 19 = .ok (.iconst 2, 1) := by decide +kernel
theorem dL_ofChild_20 : decode cL_ofChild 20 = .ok (.ireturn, 1) := by decide +kernel
theorem dL_ofChild_21 : decode cL_ofChild 21 = .ok (.iconst 0, 1) := by decide +kernel
theorem dL_ofChild_22 : decode cL_ofChild 22 = .ok (.ireturn, 1) := by decide +kernel
theorem dL_ofTroop_0 : decode cL_ofTroop 0 = .ok (.aload_n 3, 1) := by decide +kernel
theorem dL_ofTroop_1 : decode cL_ofTroop 1 = .ok (.iconst 0, 1) := by decide +kernel
theorem dL_ofTroop_2 : decode cL_ofTroop 2 = .ok (.aload_n 0, 1) := by decide +kernel
theorem dL_ofTroop_3 : decode cL_ofTroop 3 = .ok (.iload_n 1, 1) := by decide +kernel
theorem dL_ofTroop_4 : decode cL_ofTroop 4 = .ok (.iload_n 2, 1) := by decide +kernel
theorem dL_ofTroop_5 : decode cL_ofTroop 5 = .ok (.invokevirtual 90, 3) := by decide +kernel
theorem dL_ofTroop_8 : decode cL_ofTroop 8 = .ok (.i2l, 1) := by decide +kernel
theorem dL_ofTroop_9 : decode cL_ofTroop 9 = .ok (.lastore, 1) := by decide +kernel
theorem dL_ofTroop_10 : decode cL_ofTroop 10 = .ok (.goto 7, 3) := by decide +kernel
theorem dL_ofTroop_13 : decode cL_ofTroop 13 = .ok (.astore 4, 2) := by decide +kernel
theorem dL_ofTroop_15 : decode cL_ofTroop 15 = .ok (.iconst 1, 1) := by decide +kernel
theorem dL_ofTroop_16 : decode cL_ofTroop 16 = .ok (.ireturn, 1) := by decide +kernel
theorem dL_ofTroop_17 : decode cL_ofTroop 17 = .ok (.iconst 0, 1) := by decide +kernel
theorem dL_ofTroop_18 : decode cL_ofTroop 18 = .ok (.ireturn, 1) := by decide +kernel
theorem dL_earned_0 : decode cL_earned 0 = .ok (.aload_n 3, 1) := by decide +kernel
theorem dL_earned_1 : decode cL_earned 1 = .ok (.iconst 0, 1) := by decide +kernel
theorem dL_earned_2 : decode cL_earned 2 = .ok (.aload_n 0, 1) := by decide +kernel
theorem dL_earned_3 : decode cL_earned 3 = .ok (.iload_n 1, 1) := by decide +kernel
theorem dL_earned_4 : decode cL_earned 4 = .ok (.iload_n 2, 1) := by decide +kernel
theorem dL_earned_5 : decode cL_earned 5 = .ok (.invokevirtual 94, 3) := by decide +kernel
theorem dL_earned_8 : decode cL_earned 8 = .ok (.i2l, 1) := by decide +kernel
theorem dL_earned_9 : decode cL_earned 9 = .ok (.lastore, 1) := by decide +kernel
theorem dL_earned_10 : decode cL_earned 10 = .ok (.goto 7, 3) := by decide +kernel
theorem dL_earned_13 : decode cL_earned 13 = .ok (.astore 4, 2) := by decide +kernel
theorem dL_earned_15 : decode cL_earned 15 = .ok (.iconst 1, 1) := by decide +kernel
theorem dL_earned_16 : decode cL_earned 16 = .ok (.ireturn, 1) := by decide +kernel
theorem dL_earned_17 : decode cL_earned 17 = .ok (.iconst 0, 1) := by decide +kernel
theorem dL_earned_18 : decode cL_earned 18 = .ok (.ireturn, 1) := by decide +kernel
theorem dL_holds_0 : decode cL_holds 0 = .ok (.aload_n 3, 1) := by decide +kernel
theorem dL_holds_1 : decode cL_holds 1 = .ok (.iconst 0, 1) := by decide +kernel
theorem dL_holds_2 : decode cL_holds 2 = .ok (.aload_n 0, 1) := by decide +kernel
theorem dL_holds_3 : decode cL_holds 3 = .ok (.iload_n 1, 1) := by decide +kernel
theorem dL_holds_4 : decode cL_holds 4 = .ok (.iload_n 2, 1) := by decide +kernel
theorem dL_holds_5 : decode cL_holds 5 = .ok (.invokevirtual 97, 3) := by decide +kernel
theorem dL_holds_8 : decode cL_holds 8 = .ok (.ifCond .eq 7, 3) := by decide +kernel
theorem dL_holds_11 : decode cL_holds 11 = .ok (.lconst 1, 1) := by decide +kernel
theorem dL_holds_12 : decode cL_holds 12 = .ok (.goto 4, 3) := by decide +kernel
theorem dL_holds_15 : decode cL_holds 15 = .ok (.lconst 0, 1) := by decide +kernel
theorem dL_holds_16 : decode cL_holds 16 = .ok (.lastore, 1) := by decide +kernel
theorem dL_holds_17 : decode cL_holds 17 = .ok (.goto 7, 3) := by decide +kernel
theorem dL_holds_20 : decode cL_holds 20 = .ok (.astore 4, 2) := by decide +kernel
theorem dL_holds_22 : decode cL_holds 22 = .ok (.iconst 1, 1) := by decide +kernel
theorem dL_holds_23 : decode cL_holds 23 = .ok (.ireturn, 1) := by decide +kernel
theorem dL_holds_24 : decode cL_holds 24 = .ok (.iconst 0, 1) := by decide +kernel
theorem dL_holds_25 : decode cL_holds 25 = .ok (.ireturn, 1) := by decide +kernel
theorem dL_lacks_0 : decode cL_lacks 0 = .ok (.aload_n 3, 1) := by decide +kernel
theorem dL_lacks_1 : decode cL_lacks 1 = .ok (.iconst 0, 1) := by decide +kernel
theorem dL_lacks_2 : decode cL_lacks 2 = .ok (.aload_n 0, 1) := by decide +kernel
theorem dL_lacks_3 : decode cL_lacks 3 = .ok (.iload_n 1, 1) := by decide +kernel
theorem dL_lacks_4 : decode cL_lacks 4 = .ok (.iload_n 2, 1) := by decide +kernel
theorem dL_lacks_5 : decode cL_lacks 5 = .ok (.invokevirtual 101, 3) := by decide +kernel
theorem dL_lacks_8 : decode cL_lacks 8 = .ok (.i2l, 1) := by decide +kernel
theorem dL_lacks_9 : decode cL_lacks 9 = .ok (.lastore, 1) := by decide +kernel
theorem dL_lacks_10 : decode cL_lacks 10 = .ok (.goto 11, 3) := by decide +kernel
theorem dL_lacks_13 : decode cL_lacks 13 = .ok (.astore 4, 2) := by decide +kernel
theorem dL_lacks_15 : decode cL_lacks 15 = .ok (.iconst 1, 1) := by decide +kernel
theorem dL_lacks_16 : decode cL_lacks 16 = .ok (.ireturn, 1) := by decide +kernel
theorem dL_lacks_17 : decode cL_lacks 17 = .ok (.astore 4, 2) := by decide +kernel
theorem dL_lacks_19 : decode cL_lacks 19 = .ok (.iconst 2, 1) := by decide +kernel
theorem dL_lacks_20 : decode cL_lacks 20 = .ok (.ireturn, 1) := by decide +kernel
theorem dL_lacks_21 : decode cL_lacks 21 = .ok (.iconst 0, 1) := by decide +kernel
theorem dL_lacks_22 : decode cL_lacks 22 = .ok (.ireturn, 1) := by decide +kernel
theorem dL_law_0 : decode cL_law 0 = .ok (.new 8, 3) := by decide +kernel
theorem dL_law_3 : decode cL_law 3 = .ok (.dup, 1) := by decide +kernel
theorem dL_law_4 : decode cL_law 4 = .ok (.invokespecial 104, 3) := by decide +kernel
theorem dL_law_7 : decode cL_law 7 = .ok (.astore_n 1, 1) := by decide +kernel
theorem dL_law_8 : decode cL_law 8 = .ok (.new 105, 3) := by decide +kernel
theorem dL_law_11 : decode cL_law 11 = .ok (.dup, 1) := by decide +kernel
theorem dL_law_12 : decode cL_law 12 = .ok (.invokespecial 107, 3) := by decide +kernel
theorem dL_law_15 : decode cL_law 15 = .ok (.astore_n 2, 1) := by decide +kernel
theorem dL_law_16 : decode cL_law 16 = .ok (.iconst 1, 1) := by decide +kernel
theorem dL_law_17 : decode cL_law 17 = .ok (.newarray .long, 2) := by decide +kernel
theorem dL_law_19 : decode cL_law 19 = .ok (.astore_n 3, 1) := by decide +kernel
theorem dL_law_20 : decode cL_law 20 = .ok (.iconst 0, 1) := by decide +kernel
theorem dL_law_21 : decode cL_law 21 = .ok (.istore 4, 2) := by decide +kernel
theorem dL_law_23 : decode cL_law 23 = .ok (.iload 4, 2) := by decide +kernel
theorem dL_law_25 : decode cL_law 25 = .ok (.aload_n 0, 1) := by decide +kernel
theorem dL_law_26 : decode cL_law 26 = .ok (.arraylength, 1) := by decide +kernel
theorem dL_law_27 : decode cL_law 27 = .ok (.bipush 8, 2) := by decide +kernel
theorem dL_law_29 : decode cL_law 29 = .ok (.isub, 1) := by decide +kernel
theorem dL_law_30 : decode cL_law 30 = .ok (.if_icmp .gt 2078, 3) := by decide +kernel
theorem dL_law_33 : decode cL_law 33 = .ok (.aload_n 0, 1) := by decide +kernel
theorem dL_law_34 : decode cL_law 34 = .ok (.iload 4, 2) := by decide +kernel
theorem dL_law_36 : decode cL_law 36 = .ok (.iaload, 1) := by decide +kernel
theorem dL_law_37 : decode cL_law 37 = .ok (.bipush 31, 2) := by decide +kernel
theorem dL_law_39 : decode cL_law 39 = .ok (.iand, 1) := by decide +kernel
theorem dL_law_40 : decode cL_law 40 = .ok (.tableswitch 2062 0 27 #[128, 208, 264, 332, 388, 456, 524, 580, 593, 637, 709, 789, 857, 989, 1057, 1137, 1255, 1351, 1407, 1494, 1562, 1630, 1686, 1699, 1767, 1851, 1919, 1994], 128) := by decide +kernel
theorem dL_law_168 : decode cL_law 168 = .ok (.aload_n 1, 1) := by decide +kernel
theorem dL_law_169 : decode cL_law 169 = .ok (.aload_n 0, 1) := by decide +kernel
theorem dL_law_170 : decode cL_law 170 = .ok (.iload 4, 2) := by decide +kernel
theorem dL_law_172 : decode cL_law 172 = .ok (.iconst 1, 1) := by decide +kernel
theorem dL_law_173 : decode cL_law 173 = .ok (.iadd, 1) := by decide +kernel
theorem dL_law_174 : decode cL_law 174 = .ok (.iaload, 1) := by decide +kernel
theorem dL_law_175 : decode cL_law 175 = .ok (.aload_n 0, 1) := by decide +kernel
theorem dL_law_176 : decode cL_law 176 = .ok (.iload 4, 2) := by decide +kernel
theorem dL_law_178 : decode cL_law 178 = .ok (.iconst 2, 1) := by decide +kernel
theorem dL_law_179 : decode cL_law 179 = .ok (.iadd, 1) := by decide +kernel
theorem dL_law_180 : decode cL_law 180 = .ok (.iaload, 1) := by decide +kernel
theorem dL_law_181 : decode cL_law 181 = .ok (.aload_n 0, 1) := by decide +kernel
theorem dL_law_182 : decode cL_law 182 = .ok (.iload 4, 2) := by decide +kernel
theorem dL_law_184 : decode cL_law 184 = .ok (.iconst 3, 1) := by decide +kernel
theorem dL_law_185 : decode cL_law 185 = .ok (.iadd, 1) := by decide +kernel
theorem dL_law_186 : decode cL_law 186 = .ok (.iaload, 1) := by decide +kernel
theorem dL_law_187 : decode cL_law 187 = .ok (.aload_n 3, 1) := by decide +kernel
theorem dL_law_188 : decode cL_law 188 = .ok (.invokestatic 108, 3) := by decide +kernel
theorem dL_law_191 : decode cL_law 191 = .ok (.istore 5, 2) := by decide +kernel
theorem dL_law_193 : decode cL_law 193 = .ok (.aload_n 2, 1) := by decide +kernel
theorem dL_law_194 : decode cL_law 194 = .ok (.aload_n 0, 1) := by decide +kernel
theorem dL_law_195 : decode cL_law 195 = .ok (.iload 4, 2) := by decide +kernel
theorem dL_law_197 : decode cL_law 197 = .ok (.iconst 1, 1) := by decide +kernel
theorem dL_law_198 : decode cL_law 198 = .ok (.iadd, 1) := by decide +kernel
theorem dL_law_199 : decode cL_law 199 = .ok (.iaload, 1) := by decide +kernel
theorem dL_law_200 : decode cL_law 200 = .ok (.aload_n 0, 1) := by decide +kernel
theorem dL_law_201 : decode cL_law 201 = .ok (.iload 4, 2) := by decide +kernel
theorem dL_law_203 : decode cL_law 203 = .ok (.iconst 2, 1) := by decide +kernel
theorem dL_law_204 : decode cL_law 204 = .ok (.iadd, 1) := by decide +kernel
theorem dL_law_205 : decode cL_law 205 = .ok (.iaload, 1) := by decide +kernel
theorem dL_law_206 : decode cL_law 206 = .ok (.aload_n 0, 1) := by decide +kernel
theorem dL_law_207 : decode cL_law 207 = .ok (.iload 4, 2) := by decide +kernel
theorem dL_law_209 : decode cL_law 209 = .ok (.iconst 3, 1) := by decide +kernel
theorem dL_law_210 : decode cL_law 210 = .ok (.iadd, 1) := by decide +kernel
theorem dL_law_211 : decode cL_law 211 = .ok (.iaload, 1) := by decide +kernel
theorem dL_law_212 : decode cL_law 212 = .ok (.invokevirtual 113, 3) := by decide +kernel
theorem dL_law_215 : decode cL_law 215 = .ok (.istore 6, 2) := by decide +kernel
theorem dL_law_217 : decode cL_law 217 = .ok (.aload_n 2, 1) := by decide +kernel
theorem dL_law_218 : decode cL_law 218 = .ok (.invokevirtual 114, 3) := by decide +kernel
theorem dL_law_221 : decode cL_law 221 = .ok (.iload 5, 2) := by decide +kernel
theorem dL_law_223 : decode cL_law 223 = .ok (.if_icmp .eq 5, 3) := by decide +kernel
theorem dL_law_226 : decode cL_law 226 = .ok (.iconst 0, 1) := by decide +kernel
theorem dL_law_227 : decode cL_law 227 = .ok (.ireturn, 1) := by decide +kernel
theorem dL_law_228 : decode cL_law 228 = .ok (.iload 5, 2) := by decide +kernel
theorem dL_law_230 : decode cL_law 230 = .ok (.ifCond .ne 15, 3) := by decide +kernel
theorem dL_law_233 : decode cL_law 233 = .ok (.aload_n 3, 1) := by decide +kernel
theorem dL_law_234 : decode cL_law 234 = .ok (.iconst 0, 1) := by decide +kernel
theorem dL_law_235 : decode cL_law 235 = .ok (.laload, 1) := by decide +kernel
theorem dL_law_236 : decode cL_law 236 = .ok (.iload 6, 2) := by decide +kernel
theorem dL_law_238 : decode cL_law 238 = .ok (.i2l, 1) := by decide +kernel
theorem dL_law_239 : decode cL_law 239 = .ok (.lcmp, 1) := by decide +kernel
theorem dL_law_240 : decode cL_law 240 = .ok (.ifCond .eq 5, 3) := by decide +kernel
theorem dL_law_243 : decode cL_law 243 = .ok (.iconst 0, 1) := by decide +kernel
theorem dL_law_244 : decode cL_law 244 = .ok (.ireturn, 1) := by decide +kernel
theorem dL_law_245 : decode cL_law 245 = .ok (.goto 1857, 3) := by decide +kernel
theorem dL_law_248 : decode cL_law 248 = .ok (.aload_n 1, 1) := by decide +kernel
theorem dL_law_249 : decode cL_law 249 = .ok (.aload_n 0, 1) := by decide +kernel
theorem dL_law_250 : decode cL_law 250 = .ok (.iload 4, 2) := by decide +kernel
theorem dL_law_252 : decode cL_law 252 = .ok (.iconst 1, 1) := by decide +kernel
theorem dL_law_253 : decode cL_law 253 = .ok (.iadd, 1) := by decide +kernel
theorem dL_law_254 : decode cL_law 254 = .ok (.iaload, 1) := by decide +kernel
theorem dL_law_255 : decode cL_law 255 = .ok (.aload_n 3, 1) := by decide +kernel
theorem dL_law_256 : decode cL_law 256 = .ok (.invokestatic 117, 3) := by decide +kernel
theorem dL_law_259 : decode cL_law 259 = .ok (.istore 5, 2) := by decide +kernel
theorem dL_law_261 : decode cL_law 261 = .ok (.aload_n 2, 1) := by decide +kernel
theorem dL_law_262 : decode cL_law 262 = .ok (.aload_n 0, 1) := by decide +kernel
theorem dL_law_263 : decode cL_law 263 = .ok (.iload 4, 2) := by decide +kernel
theorem dL_law_265 : decode cL_law 265 = .ok (.iconst 1, 1) := by decide +kernel
theorem dL_law_266 : decode cL_law 266 = .ok (.iadd, 1) := by decide +kernel
theorem dL_law_267 : decode cL_law 267 = .ok (.iaload, 1) := by decide +kernel
theorem dL_law_268 : decode cL_law 268 = .ok (.invokevirtual 120, 3) := by decide +kernel
theorem dL_law_271 : decode cL_law 271 = .ok (.istore 6, 2) := by decide +kernel
theorem dL_law_273 : decode cL_law 273 = .ok (.aload_n 2, 1) := by decide +kernel
theorem dL_law_274 : decode cL_law 274 = .ok (.invokevirtual 114, 3) := by decide +kernel
theorem dL_law_277 : decode cL_law 277 = .ok (.iload 5, 2) := by decide +kernel
theorem dL_law_279 : decode cL_law 279 = .ok (.if_icmp .eq 5, 3) := by decide +kernel
theorem dL_law_282 : decode cL_law 282 = .ok (.iconst 0, 1) := by decide +kernel
theorem dL_law_283 : decode cL_law 283 = .ok (.ireturn, 1) := by decide +kernel
theorem dL_law_284 : decode cL_law 284 = .ok (.iload 5, 2) := by decide +kernel
theorem dL_law_286 : decode cL_law 286 = .ok (.ifCond .ne 15, 3) := by decide +kernel
theorem dL_law_289 : decode cL_law 289 = .ok (.aload_n 3, 1) := by decide +kernel
theorem dL_law_290 : decode cL_law 290 = .ok (.iconst 0, 1) := by decide +kernel
theorem dL_law_291 : decode cL_law 291 = .ok (.laload, 1) := by decide +kernel
theorem dL_law_292 : decode cL_law 292 = .ok (.iload 6, 2) := by decide +kernel
theorem dL_law_294 : decode cL_law 294 = .ok (.i2l, 1) := by decide +kernel
theorem dL_law_295 : decode cL_law 295 = .ok (.lcmp, 1) := by decide +kernel
theorem dL_law_296 : decode cL_law 296 = .ok (.ifCond .eq 5, 3) := by decide +kernel
theorem dL_law_299 : decode cL_law 299 = .ok (.iconst 0, 1) := by decide +kernel
theorem dL_law_300 : decode cL_law 300 = .ok (.ireturn, 1) := by decide +kernel
theorem dL_law_301 : decode cL_law 301 = .ok (.goto 1801, 3) := by decide +kernel
theorem dL_law_304 : decode cL_law 304 = .ok (.aload_n 1, 1) := by decide +kernel
theorem dL_law_305 : decode cL_law 305 = .ok (.aload_n 0, 1) := by decide +kernel
theorem dL_law_306 : decode cL_law 306 = .ok (.iload 4, 2) := by decide +kernel
theorem dL_law_308 : decode cL_law 308 = .ok (.iconst 1, 1) := by decide +kernel
theorem dL_law_309 : decode cL_law 309 = .ok (.iadd, 1) := by decide +kernel
theorem dL_law_310 : decode cL_law 310 = .ok (.iaload, 1) := by decide +kernel
theorem dL_law_311 : decode cL_law 311 = .ok (.aload_n 0, 1) := by decide +kernel
theorem dL_law_312 : decode cL_law 312 = .ok (.iload 4, 2) := by decide +kernel
theorem dL_law_314 : decode cL_law 314 = .ok (.iconst 2, 1) := by decide +kernel
theorem dL_law_315 : decode cL_law 315 = .ok (.iadd, 1) := by decide +kernel
theorem dL_law_316 : decode cL_law 316 = .ok (.iaload, 1) := by decide +kernel
theorem dL_law_317 : decode cL_law 317 = .ok (.aload_n 3, 1) := by decide +kernel
theorem dL_law_318 : decode cL_law 318 = .ok (.invokestatic 121, 3) := by decide +kernel
theorem dL_law_321 : decode cL_law 321 = .ok (.istore 5, 2) := by decide +kernel
theorem dL_law_323 : decode cL_law 323 = .ok (.aload_n 2, 1) := by decide +kernel
theorem dL_law_324 : decode cL_law 324 = .ok (.aload_n 0, 1) := by decide +kernel
theorem dL_law_325 : decode cL_law 325 = .ok (.iload 4, 2) := by decide +kernel
theorem dL_law_327 : decode cL_law 327 = .ok (.iconst 1, 1) := by decide +kernel
theorem dL_law_328 : decode cL_law 328 = .ok (.iadd, 1) := by decide +kernel
theorem dL_law_329 : decode cL_law 329 = .ok (.iaload, 1) := by decide +kernel
theorem dL_law_330 : decode cL_law 330 = .ok (.aload_n 0, 1) := by decide +kernel
theorem dL_law_331 : decode cL_law 331 = .ok (.iload 4, 2) := by decide +kernel
theorem dL_law_333 : decode cL_law 333 = .ok (.iconst 2, 1) := by decide +kernel
theorem dL_law_334 : decode cL_law 334 = .ok (.iadd, 1) := by decide +kernel
theorem dL_law_335 : decode cL_law 335 = .ok (.iaload, 1) := by decide +kernel
theorem dL_law_336 : decode cL_law 336 = .ok (.invokevirtual 124, 3) := by decide +kernel
theorem dL_law_339 : decode cL_law 339 = .ok (.istore 6, 2) := by decide +kernel
theorem dL_law_341 : decode cL_law 341 = .ok (.aload_n 2, 1) := by decide +kernel
theorem dL_law_342 : decode cL_law 342 = .ok (.invokevirtual 114, 3) := by decide +kernel
theorem dL_law_345 : decode cL_law 345 = .ok (.iload 5, 2) := by decide +kernel
theorem dL_law_347 : decode cL_law 347 = .ok (.if_icmp .eq 5, 3) := by decide +kernel
theorem dL_law_350 : decode cL_law 350 = .ok (.iconst 0, 1) := by decide +kernel
theorem dL_law_351 : decode cL_law 351 = .ok (.ireturn, 1) := by decide +kernel
theorem dL_law_352 : decode cL_law 352 = .ok (.iload 5, 2) := by decide +kernel
theorem dL_law_354 : decode cL_law 354 = .ok (.ifCond .ne 15, 3) := by decide +kernel
theorem dL_law_357 : decode cL_law 357 = .ok (.aload_n 3, 1) := by decide +kernel
theorem dL_law_358 : decode cL_law 358 = .ok (.iconst 0, 1) := by decide +kernel
theorem dL_law_359 : decode cL_law 359 = .ok (.laload, 1) := by decide +kernel
theorem dL_law_360 : decode cL_law 360 = .ok (.iload 6, 2) := by decide +kernel
theorem dL_law_362 : decode cL_law 362 = .ok (.i2l, 1) := by decide +kernel
theorem dL_law_363 : decode cL_law 363 = .ok (.lcmp, 1) := by decide +kernel
theorem dL_law_364 : decode cL_law 364 = .ok (.ifCond .eq 5, 3) := by decide +kernel
theorem dL_law_367 : decode cL_law 367 = .ok (.iconst 0, 1) := by decide +kernel
theorem dL_law_368 : decode cL_law 368 = .ok (.ireturn, 1) := by decide +kernel
theorem dL_law_369 : decode cL_law 369 = .ok (.goto 1733, 3) := by decide +kernel
theorem dL_law_372 : decode cL_law 372 = .ok (.aload_n 1, 1) := by decide +kernel
theorem dL_law_373 : decode cL_law 373 = .ok (.aload_n 0, 1) := by decide +kernel
theorem dL_law_374 : decode cL_law 374 = .ok (.iload 4, 2) := by decide +kernel
theorem dL_law_376 : decode cL_law 376 = .ok (.iconst 1, 1) := by decide +kernel
theorem dL_law_377 : decode cL_law 377 = .ok (.iadd, 1) := by decide +kernel
theorem dL_law_378 : decode cL_law 378 = .ok (.iaload, 1) := by decide +kernel
theorem dL_law_379 : decode cL_law 379 = .ok (.aload_n 3, 1) := by decide +kernel
theorem dL_law_380 : decode cL_law 380 = .ok (.invokestatic 125, 3) := by decide +kernel
theorem dL_law_383 : decode cL_law 383 = .ok (.istore 5, 2) := by decide +kernel
theorem dL_law_385 : decode cL_law 385 = .ok (.aload_n 2, 1) := by decide +kernel
theorem dL_law_386 : decode cL_law 386 = .ok (.aload_n 0, 1) := by decide +kernel
theorem dL_law_387 : decode cL_law 387 = .ok (.iload 4, 2) := by decide +kernel
theorem dL_law_389 : decode cL_law 389 = .ok (.iconst 1, 1) := by decide +kernel
theorem dL_law_390 : decode cL_law 390 = .ok (.iadd, 1) := by decide +kernel
theorem dL_law_391 : decode cL_law 391 = .ok (.iaload, 1) := by decide +kernel
theorem dL_law_392 : decode cL_law 392 = .ok (.invokevirtual 127, 3) := by decide +kernel
theorem dL_law_395 : decode cL_law 395 = .ok (.istore 6, 2) := by decide +kernel
theorem dL_law_397 : decode cL_law 397 = .ok (.aload_n 2, 1) := by decide +kernel
theorem dL_law_398 : decode cL_law 398 = .ok (.invokevirtual 114, 3) := by decide +kernel
theorem dL_law_401 : decode cL_law 401 = .ok (.iload 5, 2) := by decide +kernel
theorem dL_law_403 : decode cL_law 403 = .ok (.if_icmp .eq 5, 3) := by decide +kernel
theorem dL_law_406 : decode cL_law 406 = .ok (.iconst 0, 1) := by decide +kernel
theorem dL_law_407 : decode cL_law 407 = .ok (.ireturn, 1) := by decide +kernel
theorem dL_law_408 : decode cL_law 408 = .ok (.iload 5, 2) := by decide +kernel
theorem dL_law_410 : decode cL_law 410 = .ok (.ifCond .ne 15, 3) := by decide +kernel
theorem dL_law_413 : decode cL_law 413 = .ok (.aload_n 3, 1) := by decide +kernel
theorem dL_law_414 : decode cL_law 414 = .ok (.iconst 0, 1) := by decide +kernel
theorem dL_law_415 : decode cL_law 415 = .ok (.laload, 1) := by decide +kernel
theorem dL_law_416 : decode cL_law 416 = .ok (.iload 6, 2) := by decide +kernel
theorem dL_law_418 : decode cL_law 418 = .ok (.i2l, 1) := by decide +kernel
theorem dL_law_419 : decode cL_law 419 = .ok (.lcmp, 1) := by decide +kernel
theorem dL_law_420 : decode cL_law 420 = .ok (.ifCond .eq 5, 3) := by decide +kernel
theorem dL_law_423 : decode cL_law 423 = .ok (.iconst 0, 1) := by decide +kernel
theorem dL_law_424 : decode cL_law 424 = .ok (.ireturn, 1) := by decide +kernel
theorem dL_law_425 : decode cL_law 425 = .ok (.goto 1677, 3) := by decide +kernel
theorem dL_law_428 : decode cL_law 428 = .ok (.aload_n 1, 1) := by decide +kernel
theorem dL_law_429 : decode cL_law 429 = .ok (.aload_n 0, 1) := by decide +kernel
theorem dL_law_430 : decode cL_law 430 = .ok (.iload 4, 2) := by decide +kernel
theorem dL_law_432 : decode cL_law 432 = .ok (.iconst 1, 1) := by decide +kernel
theorem dL_law_433 : decode cL_law 433 = .ok (.iadd, 1) := by decide +kernel
theorem dL_law_434 : decode cL_law 434 = .ok (.iaload, 1) := by decide +kernel
theorem dL_law_435 : decode cL_law 435 = .ok (.aload_n 0, 1) := by decide +kernel
theorem dL_law_436 : decode cL_law 436 = .ok (.iload 4, 2) := by decide +kernel
theorem dL_law_438 : decode cL_law 438 = .ok (.iconst 2, 1) := by decide +kernel
theorem dL_law_439 : decode cL_law 439 = .ok (.iadd, 1) := by decide +kernel
theorem dL_law_440 : decode cL_law 440 = .ok (.iaload, 1) := by decide +kernel
theorem dL_law_441 : decode cL_law 441 = .ok (.aload_n 3, 1) := by decide +kernel
theorem dL_law_442 : decode cL_law 442 = .ok (.invokestatic 128, 3) := by decide +kernel
theorem dL_law_445 : decode cL_law 445 = .ok (.istore 5, 2) := by decide +kernel
theorem dL_law_447 : decode cL_law 447 = .ok (.aload_n 2, 1) := by decide +kernel
theorem dL_law_448 : decode cL_law 448 = .ok (.aload_n 0, 1) := by decide +kernel
theorem dL_law_449 : decode cL_law 449 = .ok (.iload 4, 2) := by decide +kernel
theorem dL_law_451 : decode cL_law 451 = .ok (.iconst 1, 1) := by decide +kernel
theorem dL_law_452 : decode cL_law 452 = .ok (.iadd, 1) := by decide +kernel
theorem dL_law_453 : decode cL_law 453 = .ok (.iaload, 1) := by decide +kernel
theorem dL_law_454 : decode cL_law 454 = .ok (.aload_n 0, 1) := by decide +kernel
theorem dL_law_455 : decode cL_law 455 = .ok (.iload 4, 2) := by decide +kernel
theorem dL_law_457 : decode cL_law 457 = .ok (.iconst 2, 1) := by decide +kernel
theorem dL_law_458 : decode cL_law 458 = .ok (.iadd, 1) := by decide +kernel
theorem dL_law_459 : decode cL_law 459 = .ok (.iaload, 1) := by decide +kernel
theorem dL_law_460 : decode cL_law 460 = .ok (.invokevirtual 130, 3) := by decide +kernel
theorem dL_law_463 : decode cL_law 463 = .ok (.istore 6, 2) := by decide +kernel
theorem dL_law_465 : decode cL_law 465 = .ok (.aload_n 2, 1) := by decide +kernel
theorem dL_law_466 : decode cL_law 466 = .ok (.invokevirtual 114, 3) := by decide +kernel
theorem dL_law_469 : decode cL_law 469 = .ok (.iload 5, 2) := by decide +kernel
theorem dL_law_471 : decode cL_law 471 = .ok (.if_icmp .eq 5, 3) := by decide +kernel
theorem dL_law_474 : decode cL_law 474 = .ok (.iconst 0, 1) := by decide +kernel
theorem dL_law_475 : decode cL_law 475 = .ok (.ireturn, 1) := by decide +kernel
theorem dL_law_476 : decode cL_law 476 = .ok (.iload 5, 2) := by decide +kernel
theorem dL_law_478 : decode cL_law 478 = .ok (.ifCond .ne 15, 3) := by decide +kernel
theorem dL_law_481 : decode cL_law 481 = .ok (.aload_n 3, 1) := by decide +kernel
theorem dL_law_482 : decode cL_law 482 = .ok (.iconst 0, 1) := by decide +kernel
theorem dL_law_483 : decode cL_law 483 = .ok (.laload, 1) := by decide +kernel
theorem dL_law_484 : decode cL_law 484 = .ok (.iload 6, 2) := by decide +kernel
theorem dL_law_486 : decode cL_law 486 = .ok (.i2l, 1) := by decide +kernel
theorem dL_law_487 : decode cL_law 487 = .ok (.lcmp, 1) := by decide +kernel
theorem dL_law_488 : decode cL_law 488 = .ok (.ifCond .eq 5, 3) := by decide +kernel
theorem dL_law_491 : decode cL_law 491 = .ok (.iconst 0, 1) := by decide +kernel
theorem dL_law_492 : decode cL_law 492 = .ok (.ireturn, 1) := by decide +kernel
theorem dL_law_493 : decode cL_law 493 = .ok (.goto 1609, 3) := by decide +kernel
theorem dL_law_496 : decode cL_law 496 = .ok (.aload_n 1, 1) := by decide +kernel
theorem dL_law_497 : decode cL_law 497 = .ok (.aload_n 0, 1) := by decide +kernel
theorem dL_law_498 : decode cL_law 498 = .ok (.iload 4, 2) := by decide +kernel
theorem dL_law_500 : decode cL_law 500 = .ok (.iconst 1, 1) := by decide +kernel
theorem dL_law_501 : decode cL_law 501 = .ok (.iadd, 1) := by decide +kernel
theorem dL_law_502 : decode cL_law 502 = .ok (.iaload, 1) := by decide +kernel
theorem dL_law_503 : decode cL_law 503 = .ok (.aload_n 0, 1) := by decide +kernel
theorem dL_law_504 : decode cL_law 504 = .ok (.iload 4, 2) := by decide +kernel
theorem dL_law_506 : decode cL_law 506 = .ok (.iconst 2, 1) := by decide +kernel
theorem dL_law_507 : decode cL_law 507 = .ok (.iadd, 1) := by decide +kernel
theorem dL_law_508 : decode cL_law 508 = .ok (.iaload, 1) := by decide +kernel
theorem dL_law_509 : decode cL_law 509 = .ok (.aload_n 3, 1) := by decide +kernel
theorem dL_law_510 : decode cL_law 510 = .ok (.invokestatic 131, 3) := by decide +kernel
theorem dL_law_513 : decode cL_law 513 = .ok (.istore 5, 2) := by decide +kernel
theorem dL_law_515 : decode cL_law 515 = .ok (.aload_n 2, 1) := by decide +kernel
theorem dL_law_516 : decode cL_law 516 = .ok (.aload_n 0, 1) := by decide +kernel
theorem dL_law_517 : decode cL_law 517 = .ok (.iload 4, 2) := by decide +kernel
theorem dL_law_519 : decode cL_law 519 = .ok (.iconst 1, 1) := by decide +kernel
theorem dL_law_520 : decode cL_law 520 = .ok (.iadd, 1) := by decide +kernel
theorem dL_law_521 : decode cL_law 521 = .ok (.iaload, 1) := by decide +kernel
theorem dL_law_522 : decode cL_law 522 = .ok (.aload_n 0, 1) := by decide +kernel
theorem dL_law_523 : decode cL_law 523 = .ok (.iload 4, 2) := by decide +kernel
theorem dL_law_525 : decode cL_law 525 = .ok (.iconst 2, 1) := by decide +kernel
theorem dL_law_526 : decode cL_law 526 = .ok (.iadd, 1) := by decide +kernel
theorem dL_law_527 : decode cL_law 527 = .ok (.iaload, 1) := by decide +kernel
theorem dL_law_528 : decode cL_law 528 = .ok (.invokevirtual 133, 3) := by decide +kernel
theorem dL_law_531 : decode cL_law 531 = .ok (.istore 6, 2) := by decide +kernel
theorem dL_law_533 : decode cL_law 533 = .ok (.aload_n 2, 1) := by decide +kernel
theorem dL_law_534 : decode cL_law 534 = .ok (.invokevirtual 114, 3) := by decide +kernel
theorem dL_law_537 : decode cL_law 537 = .ok (.iload 5, 2) := by decide +kernel
theorem dL_law_539 : decode cL_law 539 = .ok (.if_icmp .eq 5, 3) := by decide +kernel
theorem dL_law_542 : decode cL_law 542 = .ok (.iconst 0, 1) := by decide +kernel
theorem dL_law_543 : decode cL_law 543 = .ok (.ireturn, 1) := by decide +kernel
theorem dL_law_544 : decode cL_law 544 = .ok (.iload 5, 2) := by decide +kernel
theorem dL_law_546 : decode cL_law 546 = .ok (.ifCond .ne 15, 3) := by decide +kernel
theorem dL_law_549 : decode cL_law 549 = .ok (.aload_n 3, 1) := by decide +kernel
theorem dL_law_550 : decode cL_law 550 = .ok (.iconst 0, 1) := by decide +kernel
theorem dL_law_551 : decode cL_law 551 = .ok (.laload, 1) := by decide +kernel
theorem dL_law_552 : decode cL_law 552 = .ok (.iload 6, 2) := by decide +kernel
theorem dL_law_554 : decode cL_law 554 = .ok (.i2l, 1) := by decide +kernel
theorem dL_law_555 : decode cL_law 555 = .ok (.lcmp, 1) := by decide +kernel
theorem dL_law_556 : decode cL_law 556 = .ok (.ifCond .eq 5, 3) := by decide +kernel
theorem dL_law_559 : decode cL_law 559 = .ok (.iconst 0, 1) := by decide +kernel
theorem dL_law_560 : decode cL_law 560 = .ok (.ireturn, 1) := by decide +kernel
theorem dL_law_561 : decode cL_law 561 = .ok (.goto 1541, 3) := by decide +kernel
theorem dL_law_564 : decode cL_law 564 = .ok (.aload_n 1, 1) := by decide +kernel
theorem dL_law_565 : decode cL_law 565 = .ok (.aload_n 0, 1) := by decide +kernel
theorem dL_law_566 : decode cL_law 566 = .ok (.iload 4, 2) := by decide +kernel
theorem dL_law_568 : decode cL_law 568 = .ok (.iconst 1, 1) := by decide +kernel
theorem dL_law_569 : decode cL_law 569 = .ok (.iadd, 1) := by decide +kernel
theorem dL_law_570 : decode cL_law 570 = .ok (.iaload, 1) := by decide +kernel
theorem dL_law_571 : decode cL_law 571 = .ok (.aload_n 3, 1) := by decide +kernel
theorem dL_law_572 : decode cL_law 572 = .ok (.invokestatic 134, 3) := by decide +kernel
theorem dL_law_575 : decode cL_law 575 = .ok (.istore 5, 2) := by decide +kernel
theorem dL_law_577 : decode cL_law 577 = .ok (.aload_n 2, 1) := by decide +kernel
theorem dL_law_578 : decode cL_law 578 = .ok (.aload_n 0, 1) := by decide +kernel
theorem dL_law_579 : decode cL_law 579 = .ok (.iload 4, 2) := by decide +kernel
theorem dL_law_581 : decode cL_law 581 = .ok (.iconst 1, 1) := by decide +kernel
theorem dL_law_582 : decode cL_law 582 = .ok (.iadd, 1) := by decide +kernel
theorem dL_law_583 : decode cL_law 583 = .ok (.iaload, 1) := by decide +kernel
theorem dL_law_584 : decode cL_law 584 = .ok (.invokevirtual 136, 3) := by decide +kernel
theorem dL_law_587 : decode cL_law 587 = .ok (.istore 6, 2) := by decide +kernel
theorem dL_law_589 : decode cL_law 589 = .ok (.aload_n 2, 1) := by decide +kernel
theorem dL_law_590 : decode cL_law 590 = .ok (.invokevirtual 114, 3) := by decide +kernel
theorem dL_law_593 : decode cL_law 593 = .ok (.iload 5, 2) := by decide +kernel
theorem dL_law_595 : decode cL_law 595 = .ok (.if_icmp .eq 5, 3) := by decide +kernel
theorem dL_law_598 : decode cL_law 598 = .ok (.iconst 0, 1) := by decide +kernel
theorem dL_law_599 : decode cL_law 599 = .ok (.ireturn, 1) := by decide +kernel
theorem dL_law_600 : decode cL_law 600 = .ok (.iload 5, 2) := by decide +kernel
theorem dL_law_602 : decode cL_law 602 = .ok (.ifCond .ne 15, 3) := by decide +kernel
theorem dL_law_605 : decode cL_law 605 = .ok (.aload_n 3, 1) := by decide +kernel
theorem dL_law_606 : decode cL_law 606 = .ok (.iconst 0, 1) := by decide +kernel
theorem dL_law_607 : decode cL_law 607 = .ok (.laload, 1) := by decide +kernel
theorem dL_law_608 : decode cL_law 608 = .ok (.iload 6, 2) := by decide +kernel
theorem dL_law_610 : decode cL_law 610 = .ok (.i2l, 1) := by decide +kernel
theorem dL_law_611 : decode cL_law 611 = .ok (.lcmp, 1) := by decide +kernel
theorem dL_law_612 : decode cL_law 612 = .ok (.ifCond .eq 5, 3) := by decide +kernel
theorem dL_law_615 : decode cL_law 615 = .ok (.iconst 0, 1) := by decide +kernel
theorem dL_law_616 : decode cL_law 616 = .ok (.ireturn, 1) := by decide +kernel
theorem dL_law_617 : decode cL_law 617 = .ok (.goto 1485, 3) := by decide +kernel
theorem dL_law_620 : decode cL_law 620 = .ok (.aload_n 1, 1) := by decide +kernel
theorem dL_law_621 : decode cL_law 621 = .ok (.invokevirtual 137, 3) := by decide +kernel
theorem dL_law_624 : decode cL_law 624 = .ok (.aload_n 2, 1) := by decide +kernel
theorem dL_law_625 : decode cL_law 625 = .ok (.invokevirtual 140, 3) := by decide +kernel
theorem dL_law_628 : decode cL_law 628 = .ok (.if_icmp .eq 1474, 3) := by decide +kernel
theorem dL_law_631 : decode cL_law 631 = .ok (.iconst 0, 1) := by decide +kernel
theorem dL_law_632 : decode cL_law 632 = .ok (.ireturn, 1) := by decide +kernel
theorem dL_law_633 : decode cL_law 633 = .ok (.aload_n 1, 1) := by decide +kernel
theorem dL_law_634 : decode cL_law 634 = .ok (.aload_n 3, 1) := by decide +kernel
theorem dL_law_635 : decode cL_law 635 = .ok (.invokestatic 141, 3) := by decide +kernel
theorem dL_law_638 : decode cL_law 638 = .ok (.istore 5, 2) := by decide +kernel
theorem dL_law_640 : decode cL_law 640 = .ok (.aload_n 2, 1) := by decide +kernel
theorem dL_law_641 : decode cL_law 641 = .ok (.invokevirtual 144, 3) := by decide +kernel
theorem dL_law_644 : decode cL_law 644 = .ok (.istore 6, 2) := by decide +kernel
theorem dL_law_646 : decode cL_law 646 = .ok (.aload_n 2, 1) := by decide +kernel
theorem dL_law_647 : decode cL_law 647 = .ok (.invokevirtual 114, 3) := by decide +kernel
theorem dL_law_650 : decode cL_law 650 = .ok (.iload 5, 2) := by decide +kernel
theorem dL_law_652 : decode cL_law 652 = .ok (.if_icmp .eq 5, 3) := by decide +kernel
theorem dL_law_655 : decode cL_law 655 = .ok (.iconst 0, 1) := by decide +kernel
theorem dL_law_656 : decode cL_law 656 = .ok (.ireturn, 1) := by decide +kernel
theorem dL_law_657 : decode cL_law 657 = .ok (.iload 5, 2) := by decide +kernel
theorem dL_law_659 : decode cL_law 659 = .ok (.ifCond .ne 15, 3) := by decide +kernel
theorem dL_law_662 : decode cL_law 662 = .ok (.aload_n 3, 1) := by decide +kernel
theorem dL_law_663 : decode cL_law 663 = .ok (.iconst 0, 1) := by decide +kernel
theorem dL_law_664 : decode cL_law 664 = .ok (.laload, 1) := by decide +kernel
theorem dL_law_665 : decode cL_law 665 = .ok (.iload 6, 2) := by decide +kernel
theorem dL_law_667 : decode cL_law 667 = .ok (.i2l, 1) := by decide +kernel
theorem dL_law_668 : decode cL_law 668 = .ok (.lcmp, 1) := by decide +kernel
theorem dL_law_669 : decode cL_law 669 = .ok (.ifCond .eq 5, 3) := by decide +kernel
theorem dL_law_672 : decode cL_law 672 = .ok (.iconst 0, 1) := by decide +kernel
theorem dL_law_673 : decode cL_law 673 = .ok (.ireturn, 1) := by decide +kernel
theorem dL_law_674 : decode cL_law 674 = .ok (.goto 1428, 3) := by decide +kernel
theorem dL_law_677 : decode cL_law 677 = .ok (.aload_n 1, 1) := by decide +kernel
theorem dL_law_678 : decode cL_law 678 = .ok (.aload_n 0, 1) := by decide +kernel
theorem dL_law_679 : decode cL_law 679 = .ok (.iload 4, 2) := by decide +kernel
theorem dL_law_681 : decode cL_law 681 = .ok (.iconst 1, 1) := by decide +kernel
theorem dL_law_682 : decode cL_law 682 = .ok (.iadd, 1) := by decide +kernel
theorem dL_law_683 : decode cL_law 683 = .ok (.iaload, 1) := by decide +kernel
theorem dL_law_684 : decode cL_law 684 = .ok (.aload_n 0, 1) := by decide +kernel
theorem dL_law_685 : decode cL_law 685 = .ok (.iload 4, 2) := by decide +kernel
theorem dL_law_687 : decode cL_law 687 = .ok (.iconst 2, 1) := by decide +kernel
theorem dL_law_688 : decode cL_law 688 = .ok (.iadd, 1) := by decide +kernel
theorem dL_law_689 : decode cL_law 689 = .ok (.iaload, 1) := by decide +kernel
theorem dL_law_690 : decode cL_law 690 = .ok (.aload_n 0, 1) := by decide +kernel
theorem dL_law_691 : decode cL_law 691 = .ok (.iload 4, 2) := by decide +kernel
theorem dL_law_693 : decode cL_law 693 = .ok (.iconst 3, 1) := by decide +kernel
theorem dL_law_694 : decode cL_law 694 = .ok (.iadd, 1) := by decide +kernel
theorem dL_law_695 : decode cL_law 695 = .ok (.iaload, 1) := by decide +kernel
theorem dL_law_696 : decode cL_law 696 = .ok (.aload_n 0, 1) := by decide +kernel
theorem dL_law_697 : decode cL_law 697 = .ok (.iload 4, 2) := by decide +kernel
theorem dL_law_699 : decode cL_law 699 = .ok (.iconst 4, 1) := by decide +kernel
theorem dL_law_700 : decode cL_law 700 = .ok (.iadd, 1) := by decide +kernel
theorem dL_law_701 : decode cL_law 701 = .ok (.iaload, 1) := by decide +kernel
theorem dL_law_702 : decode cL_law 702 = .ok (.invokestatic 145, 3) := by decide +kernel
theorem dL_law_705 : decode cL_law 705 = .ok (.istore 5, 2) := by decide +kernel
theorem dL_law_707 : decode cL_law 707 = .ok (.aload_n 2, 1) := by decide +kernel
theorem dL_law_708 : decode cL_law 708 = .ok (.aload_n 0, 1) := by decide +kernel
theorem dL_law_709 : decode cL_law 709 = .ok (.iload 4, 2) := by decide +kernel
theorem dL_law_711 : decode cL_law 711 = .ok (.iconst 1, 1) := by decide +kernel
theorem dL_law_712 : decode cL_law 712 = .ok (.iadd, 1) := by decide +kernel
theorem dL_law_713 : decode cL_law 713 = .ok (.iaload, 1) := by decide +kernel
theorem dL_law_714 : decode cL_law 714 = .ok (.aload_n 0, 1) := by decide +kernel
theorem dL_law_715 : decode cL_law 715 = .ok (.iload 4, 2) := by decide +kernel
theorem dL_law_717 : decode cL_law 717 = .ok (.iconst 2, 1) := by decide +kernel
theorem dL_law_718 : decode cL_law 718 = .ok (.iadd, 1) := by decide +kernel
theorem dL_law_719 : decode cL_law 719 = .ok (.iaload, 1) := by decide +kernel
theorem dL_law_720 : decode cL_law 720 = .ok (.aload_n 0, 1) := by decide +kernel
theorem dL_law_721 : decode cL_law 721 = .ok (.iload 4, 2) := by decide +kernel
theorem dL_law_723 : decode cL_law 723 = .ok (.iconst 3, 1) := by decide +kernel
theorem dL_law_724 : decode cL_law 724 = .ok (.iadd, 1) := by decide +kernel
theorem dL_law_725 : decode cL_law 725 = .ok (.iaload, 1) := by decide +kernel
theorem dL_law_726 : decode cL_law 726 = .ok (.aload_n 0, 1) := by decide +kernel
theorem dL_law_727 : decode cL_law 727 = .ok (.iload 4, 2) := by decide +kernel
theorem dL_law_729 : decode cL_law 729 = .ok (.iconst 4, 1) := by decide +kernel
theorem dL_law_730 : decode cL_law 730 = .ok (.iadd, 1) := by decide +kernel
theorem dL_law_731 : decode cL_law 731 = .ok (.iaload, 1) := by decide +kernel
theorem dL_law_732 : decode cL_law 732 = .ok (.invokevirtual 148, 3) := by decide +kernel
theorem dL_law_735 : decode cL_law 735 = .ok (.aload_n 2, 1) := by decide +kernel
theorem dL_law_736 : decode cL_law 736 = .ok (.invokevirtual 114, 3) := by decide +kernel
theorem dL_law_739 : decode cL_law 739 = .ok (.iload 5, 2) := by decide +kernel
theorem dL_law_741 : decode cL_law 741 = .ok (.if_icmp .eq 5, 3) := by decide +kernel
theorem dL_law_744 : decode cL_law 744 = .ok (.iconst 0, 1) := by decide +kernel
theorem dL_law_745 : decode cL_law 745 = .ok (.ireturn, 1) := by decide +kernel
theorem dL_law_746 : decode cL_law 746 = .ok (.goto 1356, 3) := by decide +kernel
theorem dL_law_749 : decode cL_law 749 = .ok (.aload_n 1, 1) := by decide +kernel
theorem dL_law_750 : decode cL_law 750 = .ok (.aload_n 0, 1) := by decide +kernel
theorem dL_law_751 : decode cL_law 751 = .ok (.iload 4, 2) := by decide +kernel
theorem dL_law_753 : decode cL_law 753 = .ok (.iconst 1, 1) := by decide +kernel
theorem dL_law_754 : decode cL_law 754 = .ok (.iadd, 1) := by decide +kernel
theorem dL_law_755 : decode cL_law 755 = .ok (.iaload, 1) := by decide +kernel
theorem dL_law_756 : decode cL_law 756 = .ok (.aload_n 0, 1) := by decide +kernel
theorem dL_law_757 : decode cL_law 757 = .ok (.iload 4, 2) := by decide +kernel
theorem dL_law_759 : decode cL_law 759 = .ok (.iconst 2, 1) := by decide +kernel
theorem dL_law_760 : decode cL_law 760 = .ok (.iadd, 1) := by decide +kernel
theorem dL_law_761 : decode cL_law 761 = .ok (.iaload, 1) := by decide +kernel
theorem dL_law_762 : decode cL_law 762 = .ok (.aload_n 0, 1) := by decide +kernel
theorem dL_law_763 : decode cL_law 763 = .ok (.iload 4, 2) := by decide +kernel
theorem dL_law_765 : decode cL_law 765 = .ok (.iconst 3, 1) := by decide +kernel
theorem dL_law_766 : decode cL_law 766 = .ok (.iadd, 1) := by decide +kernel
theorem dL_law_767 : decode cL_law 767 = .ok (.iaload, 1) := by decide +kernel
theorem dL_law_768 : decode cL_law 768 = .ok (.aload_n 3, 1) := by decide +kernel
theorem dL_law_769 : decode cL_law 769 = .ok (.invokestatic 149, 3) := by decide +kernel
theorem dL_law_772 : decode cL_law 772 = .ok (.istore 5, 2) := by decide +kernel
theorem dL_law_774 : decode cL_law 774 = .ok (.aload_n 2, 1) := by decide +kernel
theorem dL_law_775 : decode cL_law 775 = .ok (.aload_n 0, 1) := by decide +kernel
theorem dL_law_776 : decode cL_law 776 = .ok (.iload 4, 2) := by decide +kernel
theorem dL_law_778 : decode cL_law 778 = .ok (.iconst 1, 1) := by decide +kernel
theorem dL_law_779 : decode cL_law 779 = .ok (.iadd, 1) := by decide +kernel
theorem dL_law_780 : decode cL_law 780 = .ok (.iaload, 1) := by decide +kernel
theorem dL_law_781 : decode cL_law 781 = .ok (.aload_n 0, 1) := by decide +kernel
theorem dL_law_782 : decode cL_law 782 = .ok (.iload 4, 2) := by decide +kernel
theorem dL_law_784 : decode cL_law 784 = .ok (.iconst 2, 1) := by decide +kernel
theorem dL_law_785 : decode cL_law 785 = .ok (.iadd, 1) := by decide +kernel
theorem dL_law_786 : decode cL_law 786 = .ok (.iaload, 1) := by decide +kernel
theorem dL_law_787 : decode cL_law 787 = .ok (.aload_n 0, 1) := by decide +kernel
theorem dL_law_788 : decode cL_law 788 = .ok (.iload 4, 2) := by decide +kernel
theorem dL_law_790 : decode cL_law 790 = .ok (.iconst 3, 1) := by decide +kernel
theorem dL_law_791 : decode cL_law 791 = .ok (.iadd, 1) := by decide +kernel
theorem dL_law_792 : decode cL_law 792 = .ok (.iaload, 1) := by decide +kernel
theorem dL_law_793 : decode cL_law 793 = .ok (.invokevirtual 151, 3) := by decide +kernel
theorem dL_law_796 : decode cL_law 796 = .ok (.istore 6, 2) := by decide +kernel
theorem dL_law_798 : decode cL_law 798 = .ok (.aload_n 2, 1) := by decide +kernel
theorem dL_law_799 : decode cL_law 799 = .ok (.invokevirtual 114, 3) := by decide +kernel
theorem dL_law_802 : decode cL_law 802 = .ok (.iload 5, 2) := by decide +kernel
theorem dL_law_804 : decode cL_law 804 = .ok (.if_icmp .eq 5, 3) := by decide +kernel
theorem dL_law_807 : decode cL_law 807 = .ok (.iconst 0, 1) := by decide +kernel
theorem dL_law_808 : decode cL_law 808 = .ok (.ireturn, 1) := by decide +kernel
theorem dL_law_809 : decode cL_law 809 = .ok (.iload 5, 2) := by decide +kernel
theorem dL_law_811 : decode cL_law 811 = .ok (.ifCond .ne 15, 3) := by decide +kernel
theorem dL_law_814 : decode cL_law 814 = .ok (.aload_n 3, 1) := by decide +kernel
theorem dL_law_815 : decode cL_law 815 = .ok (.iconst 0, 1) := by decide +kernel
theorem dL_law_816 : decode cL_law 816 = .ok (.laload, 1) := by decide +kernel
theorem dL_law_817 : decode cL_law 817 = .ok (.iload 6, 2) := by decide +kernel
theorem dL_law_819 : decode cL_law 819 = .ok (.i2l, 1) := by decide +kernel
theorem dL_law_820 : decode cL_law 820 = .ok (.lcmp, 1) := by decide +kernel
theorem dL_law_821 : decode cL_law 821 = .ok (.ifCond .eq 5, 3) := by decide +kernel
theorem dL_law_824 : decode cL_law 824 = .ok (.iconst 0, 1) := by decide +kernel
theorem dL_law_825 : decode cL_law 825 = .ok (.ireturn, 1) := by decide +kernel
theorem dL_law_826 : decode cL_law 826 = .ok (.goto 1276, 3) := by decide +kernel
theorem dL_law_829 : decode cL_law 829 = .ok (.aload_n 1, 1) := by decide +kernel
theorem dL_law_830 : decode cL_law 830 = .ok (.aload_n 0, 1) := by decide +kernel
theorem dL_law_831 : decode cL_law 831 = .ok (.iload 4, 2) := by decide +kernel
theorem dL_law_833 : decode cL_law 833 = .ok (.iconst 1, 1) := by decide +kernel
theorem dL_law_834 : decode cL_law 834 = .ok (.iadd, 1) := by decide +kernel
theorem dL_law_835 : decode cL_law 835 = .ok (.iaload, 1) := by decide +kernel
theorem dL_law_836 : decode cL_law 836 = .ok (.aload_n 0, 1) := by decide +kernel
theorem dL_law_837 : decode cL_law 837 = .ok (.iload 4, 2) := by decide +kernel
theorem dL_law_839 : decode cL_law 839 = .ok (.iconst 2, 1) := by decide +kernel
theorem dL_law_840 : decode cL_law 840 = .ok (.iadd, 1) := by decide +kernel
theorem dL_law_841 : decode cL_law 841 = .ok (.iaload, 1) := by decide +kernel
theorem dL_law_842 : decode cL_law 842 = .ok (.aload_n 3, 1) := by decide +kernel
theorem dL_law_843 : decode cL_law 843 = .ok (.invokestatic 152, 3) := by decide +kernel
theorem dL_law_846 : decode cL_law 846 = .ok (.istore 5, 2) := by decide +kernel
theorem dL_law_848 : decode cL_law 848 = .ok (.aload_n 2, 1) := by decide +kernel
theorem dL_law_849 : decode cL_law 849 = .ok (.aload_n 0, 1) := by decide +kernel
theorem dL_law_850 : decode cL_law 850 = .ok (.iload 4, 2) := by decide +kernel
theorem dL_law_852 : decode cL_law 852 = .ok (.iconst 1, 1) := by decide +kernel
theorem dL_law_853 : decode cL_law 853 = .ok (.iadd, 1) := by decide +kernel
theorem dL_law_854 : decode cL_law 854 = .ok (.iaload, 1) := by decide +kernel
theorem dL_law_855 : decode cL_law 855 = .ok (.aload_n 0, 1) := by decide +kernel
theorem dL_law_856 : decode cL_law 856 = .ok (.iload 4, 2) := by decide +kernel
theorem dL_law_858 : decode cL_law 858 = .ok (.iconst 2, 1) := by decide +kernel
theorem dL_law_859 : decode cL_law 859 = .ok (.iadd, 1) := by decide +kernel
theorem dL_law_860 : decode cL_law 860 = .ok (.iaload, 1) := by decide +kernel
theorem dL_law_861 : decode cL_law 861 = .ok (.invokevirtual 154, 3) := by decide +kernel
theorem dL_law_864 : decode cL_law 864 = .ok (.istore 6, 2) := by decide +kernel
theorem dL_law_866 : decode cL_law 866 = .ok (.aload_n 2, 1) := by decide +kernel
theorem dL_law_867 : decode cL_law 867 = .ok (.invokevirtual 114, 3) := by decide +kernel
theorem dL_law_870 : decode cL_law 870 = .ok (.iload 5, 2) := by decide +kernel
theorem dL_law_872 : decode cL_law 872 = .ok (.if_icmp .eq 5, 3) := by decide +kernel
theorem dL_law_875 : decode cL_law 875 = .ok (.iconst 0, 1) := by decide +kernel
theorem dL_law_876 : decode cL_law 876 = .ok (.ireturn, 1) := by decide +kernel
theorem dL_law_877 : decode cL_law 877 = .ok (.iload 5, 2) := by decide +kernel
theorem dL_law_879 : decode cL_law 879 = .ok (.ifCond .ne 15, 3) := by decide +kernel
theorem dL_law_882 : decode cL_law 882 = .ok (.aload_n 3, 1) := by decide +kernel
theorem dL_law_883 : decode cL_law 883 = .ok (.iconst 0, 1) := by decide +kernel
theorem dL_law_884 : decode cL_law 884 = .ok (.laload, 1) := by decide +kernel
theorem dL_law_885 : decode cL_law 885 = .ok (.iload 6, 2) := by decide +kernel
theorem dL_law_887 : decode cL_law 887 = .ok (.i2l, 1) := by decide +kernel
theorem dL_law_888 : decode cL_law 888 = .ok (.lcmp, 1) := by decide +kernel
theorem dL_law_889 : decode cL_law 889 = .ok (.ifCond .eq 5, 3) := by decide +kernel
theorem dL_law_892 : decode cL_law 892 = .ok (.iconst 0, 1) := by decide +kernel
theorem dL_law_893 : decode cL_law 893 = .ok (.ireturn, 1) := by decide +kernel
theorem dL_law_894 : decode cL_law 894 = .ok (.goto 1208, 3) := by decide +kernel
theorem dL_law_897 : decode cL_law 897 = .ok (.aload_n 1, 1) := by decide +kernel
theorem dL_law_898 : decode cL_law 898 = .ok (.aload_n 0, 1) := by decide +kernel
theorem dL_law_899 : decode cL_law 899 = .ok (.iload 4, 2) := by decide +kernel
theorem dL_law_901 : decode cL_law 901 = .ok (.iconst 1, 1) := by decide +kernel
theorem dL_law_902 : decode cL_law 902 = .ok (.iadd, 1) := by decide +kernel
theorem dL_law_903 : decode cL_law 903 = .ok (.iaload, 1) := by decide +kernel
theorem dL_law_904 : decode cL_law 904 = .ok (.aload_n 0, 1) := by decide +kernel
theorem dL_law_905 : decode cL_law 905 = .ok (.iload 4, 2) := by decide +kernel
theorem dL_law_907 : decode cL_law 907 = .ok (.iconst 2, 1) := by decide +kernel
theorem dL_law_908 : decode cL_law 908 = .ok (.iadd, 1) := by decide +kernel
theorem dL_law_909 : decode cL_law 909 = .ok (.iaload, 1) := by decide +kernel
theorem dL_law_910 : decode cL_law 910 = .ok (.aload_n 0, 1) := by decide +kernel
theorem dL_law_911 : decode cL_law 911 = .ok (.iload 4, 2) := by decide +kernel
theorem dL_law_913 : decode cL_law 913 = .ok (.iconst 3, 1) := by decide +kernel
theorem dL_law_914 : decode cL_law 914 = .ok (.iadd, 1) := by decide +kernel
theorem dL_law_915 : decode cL_law 915 = .ok (.iaload, 1) := by decide +kernel
theorem dL_law_916 : decode cL_law 916 = .ok (.aload_n 0, 1) := by decide +kernel
theorem dL_law_917 : decode cL_law 917 = .ok (.iload 4, 2) := by decide +kernel
theorem dL_law_919 : decode cL_law 919 = .ok (.iconst 4, 1) := by decide +kernel
theorem dL_law_920 : decode cL_law 920 = .ok (.iadd, 1) := by decide +kernel
theorem dL_law_921 : decode cL_law 921 = .ok (.iaload, 1) := by decide +kernel
theorem dL_law_922 : decode cL_law 922 = .ok (.aload_n 0, 1) := by decide +kernel
theorem dL_law_923 : decode cL_law 923 = .ok (.iload 4, 2) := by decide +kernel
theorem dL_law_925 : decode cL_law 925 = .ok (.iconst 5, 1) := by decide +kernel
theorem dL_law_926 : decode cL_law 926 = .ok (.iadd, 1) := by decide +kernel
theorem dL_law_927 : decode cL_law 927 = .ok (.iaload, 1) := by decide +kernel
theorem dL_law_928 : decode cL_law 928 = .ok (.aload_n 0, 1) := by decide +kernel
theorem dL_law_929 : decode cL_law 929 = .ok (.iload 4, 2) := by decide +kernel
theorem dL_law_931 : decode cL_law 931 = .ok (.bipush 6, 2) := by decide +kernel
theorem dL_law_933 : decode cL_law 933 = .ok (.iadd, 1) := by decide +kernel
theorem dL_law_934 : decode cL_law 934 = .ok (.iaload, 1) := by decide +kernel
theorem dL_law_935 : decode cL_law 935 = .ok (.aload_n 0, 1) := by decide +kernel
theorem dL_law_936 : decode cL_law 936 = .ok (.iload 4, 2) := by decide +kernel
theorem dL_law_938 : decode cL_law 938 = .ok (.bipush 7, 2) := by decide +kernel
theorem dL_law_940 : decode cL_law 940 = .ok (.iadd, 1) := by decide +kernel
theorem dL_law_941 : decode cL_law 941 = .ok (.iaload, 1) := by decide +kernel
theorem dL_law_942 : decode cL_law 942 = .ok (.aload_n 3, 1) := by decide +kernel
theorem dL_law_943 : decode cL_law 943 = .ok (.invokestatic 155, 3) := by decide +kernel
theorem dL_law_946 : decode cL_law 946 = .ok (.istore 5, 2) := by decide +kernel
theorem dL_law_948 : decode cL_law 948 = .ok (.aload_n 2, 1) := by decide +kernel
theorem dL_law_949 : decode cL_law 949 = .ok (.aload_n 0, 1) := by decide +kernel
theorem dL_law_950 : decode cL_law 950 = .ok (.iload 4, 2) := by decide +kernel
theorem dL_law_952 : decode cL_law 952 = .ok (.iconst 1, 1) := by decide +kernel
theorem dL_law_953 : decode cL_law 953 = .ok (.iadd, 1) := by decide +kernel
theorem dL_law_954 : decode cL_law 954 = .ok (.iaload, 1) := by decide +kernel
theorem dL_law_955 : decode cL_law 955 = .ok (.aload_n 0, 1) := by decide +kernel
theorem dL_law_956 : decode cL_law 956 = .ok (.iload 4, 2) := by decide +kernel
theorem dL_law_958 : decode cL_law 958 = .ok (.iconst 2, 1) := by decide +kernel
theorem dL_law_959 : decode cL_law 959 = .ok (.iadd, 1) := by decide +kernel
theorem dL_law_960 : decode cL_law 960 = .ok (.iaload, 1) := by decide +kernel
theorem dL_law_961 : decode cL_law 961 = .ok (.aload_n 0, 1) := by decide +kernel
theorem dL_law_962 : decode cL_law 962 = .ok (.iload 4, 2) := by decide +kernel
theorem dL_law_964 : decode cL_law 964 = .ok (.iconst 3, 1) := by decide +kernel
theorem dL_law_965 : decode cL_law 965 = .ok (.iadd, 1) := by decide +kernel
theorem dL_law_966 : decode cL_law 966 = .ok (.iaload, 1) := by decide +kernel
theorem dL_law_967 : decode cL_law 967 = .ok (.aload_n 0, 1) := by decide +kernel
theorem dL_law_968 : decode cL_law 968 = .ok (.iload 4, 2) := by decide +kernel
theorem dL_law_970 : decode cL_law 970 = .ok (.iconst 4, 1) := by decide +kernel
theorem dL_law_971 : decode cL_law 971 = .ok (.iadd, 1) := by decide +kernel
theorem dL_law_972 : decode cL_law 972 = .ok (.iaload, 1) := by decide +kernel
theorem dL_law_973 : decode cL_law 973 = .ok (.aload_n 0, 1) := by decide +kernel
theorem dL_law_974 : decode cL_law 974 = .ok (.iload 4, 2) := by decide +kernel
theorem dL_law_976 : decode cL_law 976 = .ok (.iconst 5, 1) := by decide +kernel
theorem dL_law_977 : decode cL_law 977 = .ok (.iadd, 1) := by decide +kernel
theorem dL_law_978 : decode cL_law 978 = .ok (.iaload, 1) := by decide +kernel
theorem dL_law_979 : decode cL_law 979 = .ok (.aload_n 0, 1) := by decide +kernel
theorem dL_law_980 : decode cL_law 980 = .ok (.iload 4, 2) := by decide +kernel
theorem dL_law_982 : decode cL_law 982 = .ok (.bipush 6, 2) := by decide +kernel
theorem dL_law_984 : decode cL_law 984 = .ok (.iadd, 1) := by decide +kernel
theorem dL_law_985 : decode cL_law 985 = .ok (.iaload, 1) := by decide +kernel
theorem dL_law_986 : decode cL_law 986 = .ok (.aload_n 0, 1) := by decide +kernel
theorem dL_law_987 : decode cL_law 987 = .ok (.iload 4, 2) := by decide +kernel
theorem dL_law_989 : decode cL_law 989 = .ok (.bipush 7, 2) := by decide +kernel
theorem dL_law_991 : decode cL_law 991 = .ok (.iadd, 1) := by decide +kernel
theorem dL_law_992 : decode cL_law 992 = .ok (.iaload, 1) := by decide +kernel
theorem dL_law_993 : decode cL_law 993 = .ok (.invokevirtual 158, 3) := by decide +kernel
theorem dL_law_996 : decode cL_law 996 = .ok (.istore 6, 2) := by decide +kernel
theorem dL_law_998 : decode cL_law 998 = .ok (.aload_n 2, 1) := by decide +kernel
theorem dL_law_999 : decode cL_law 999 = .ok (.invokevirtual 114, 3) := by decide +kernel
theorem dL_law_1002 : decode cL_law 1002 = .ok (.iload 5, 2) := by decide +kernel
theorem dL_law_1004 : decode cL_law 1004 = .ok (.if_icmp .eq 5, 3) := by decide +kernel
theorem dL_law_1007 : decode cL_law 1007 = .ok (.iconst 0, 1) := by decide +kernel
theorem dL_law_1008 : decode cL_law 1008 = .ok (.ireturn, 1) := by decide +kernel
theorem dL_law_1009 : decode cL_law 1009 = .ok (.iload 5, 2) := by decide +kernel
theorem dL_law_1011 : decode cL_law 1011 = .ok (.ifCond .ne 15, 3) := by decide +kernel
theorem dL_law_1014 : decode cL_law 1014 = .ok (.aload_n 3, 1) := by decide +kernel
theorem dL_law_1015 : decode cL_law 1015 = .ok (.iconst 0, 1) := by decide +kernel
theorem dL_law_1016 : decode cL_law 1016 = .ok (.laload, 1) := by decide +kernel
theorem dL_law_1017 : decode cL_law 1017 = .ok (.iload 6, 2) := by decide +kernel
theorem dL_law_1019 : decode cL_law 1019 = .ok (.i2l, 1) := by decide +kernel
theorem dL_law_1020 : decode cL_law 1020 = .ok (.lcmp, 1) := by decide +kernel
theorem dL_law_1021 : decode cL_law 1021 = .ok (.ifCond .eq 5, 3) := by decide +kernel
theorem dL_law_1024 : decode cL_law 1024 = .ok (.iconst 0, 1) := by decide +kernel
theorem dL_law_1025 : decode cL_law 1025 = .ok (.ireturn, 1) := by decide +kernel
theorem dL_law_1026 : decode cL_law 1026 = .ok (.goto 1076, 3) := by decide +kernel
theorem dL_law_1029 : decode cL_law 1029 = .ok (.aload_n 1, 1) := by decide +kernel
theorem dL_law_1030 : decode cL_law 1030 = .ok (.aload_n 0, 1) := by decide +kernel
theorem dL_law_1031 : decode cL_law 1031 = .ok (.iload 4, 2) := by decide +kernel
theorem dL_law_1033 : decode cL_law 1033 = .ok (.iconst 1, 1) := by decide +kernel
theorem dL_law_1034 : decode cL_law 1034 = .ok (.iadd, 1) := by decide +kernel
theorem dL_law_1035 : decode cL_law 1035 = .ok (.iaload, 1) := by decide +kernel
theorem dL_law_1036 : decode cL_law 1036 = .ok (.aload_n 0, 1) := by decide +kernel
theorem dL_law_1037 : decode cL_law 1037 = .ok (.iload 4, 2) := by decide +kernel
theorem dL_law_1039 : decode cL_law 1039 = .ok (.iconst 2, 1) := by decide +kernel
theorem dL_law_1040 : decode cL_law 1040 = .ok (.iadd, 1) := by decide +kernel
theorem dL_law_1041 : decode cL_law 1041 = .ok (.iaload, 1) := by decide +kernel
theorem dL_law_1042 : decode cL_law 1042 = .ok (.aload_n 3, 1) := by decide +kernel
theorem dL_law_1043 : decode cL_law 1043 = .ok (.invokestatic 159, 3) := by decide +kernel
theorem dL_law_1046 : decode cL_law 1046 = .ok (.istore 5, 2) := by decide +kernel
theorem dL_law_1048 : decode cL_law 1048 = .ok (.aload_n 2, 1) := by decide +kernel
theorem dL_law_1049 : decode cL_law 1049 = .ok (.aload_n 0, 1) := by decide +kernel
theorem dL_law_1050 : decode cL_law 1050 = .ok (.iload 4, 2) := by decide +kernel
theorem dL_law_1052 : decode cL_law 1052 = .ok (.iconst 1, 1) := by decide +kernel
theorem dL_law_1053 : decode cL_law 1053 = .ok (.iadd, 1) := by decide +kernel
theorem dL_law_1054 : decode cL_law 1054 = .ok (.iaload, 1) := by decide +kernel
theorem dL_law_1055 : decode cL_law 1055 = .ok (.aload_n 0, 1) := by decide +kernel
theorem dL_law_1056 : decode cL_law 1056 = .ok (.iload 4, 2) := by decide +kernel
theorem dL_law_1058 : decode cL_law 1058 = .ok (.iconst 2, 1) := by decide +kernel
theorem dL_law_1059 : decode cL_law 1059 = .ok (.iadd, 1) := by decide +kernel
theorem dL_law_1060 : decode cL_law 1060 = .ok (.iaload, 1) := by decide +kernel
theorem dL_law_1061 : decode cL_law 1061 = .ok (.invokevirtual 161, 3) := by decide +kernel
theorem dL_law_1064 : decode cL_law 1064 = .ok (.istore 6, 2) := by decide +kernel
theorem dL_law_1066 : decode cL_law 1066 = .ok (.aload_n 2, 1) := by decide +kernel
theorem dL_law_1067 : decode cL_law 1067 = .ok (.invokevirtual 114, 3) := by decide +kernel
theorem dL_law_1070 : decode cL_law 1070 = .ok (.iload 5, 2) := by decide +kernel
theorem dL_law_1072 : decode cL_law 1072 = .ok (.if_icmp .eq 5, 3) := by decide +kernel
theorem dL_law_1075 : decode cL_law 1075 = .ok (.iconst 0, 1) := by decide +kernel
theorem dL_law_1076 : decode cL_law 1076 = .ok (.ireturn, 1) := by decide +kernel
theorem dL_law_1077 : decode cL_law 1077 = .ok (.iload 5, 2) := by decide +kernel
theorem dL_law_1079 : decode cL_law 1079 = .ok (.ifCond .ne 15, 3) := by decide +kernel
theorem dL_law_1082 : decode cL_law 1082 = .ok (.aload_n 3, 1) := by decide +kernel
theorem dL_law_1083 : decode cL_law 1083 = .ok (.iconst 0, 1) := by decide +kernel
theorem dL_law_1084 : decode cL_law 1084 = .ok (.laload, 1) := by decide +kernel
theorem dL_law_1085 : decode cL_law 1085 = .ok (.iload 6, 2) := by decide +kernel
theorem dL_law_1087 : decode cL_law 1087 = .ok (.i2l, 1) := by decide +kernel
theorem dL_law_1088 : decode cL_law 1088 = .ok (.lcmp, 1) := by decide +kernel
theorem dL_law_1089 : decode cL_law 1089 = .ok (.ifCond .eq 5, 3) := by decide +kernel
theorem dL_law_1092 : decode cL_law 1092 = .ok (.iconst 0, 1) := by decide +kernel
theorem dL_law_1093 : decode cL_law 1093 = .ok (.ireturn, 1) := by decide +kernel
theorem dL_law_1094 : decode cL_law 1094 = .ok (.goto 1008, 3) := by decide +kernel
theorem dL_law_1097 : decode cL_law 1097 = .ok (.aload_n 1, 1) := by decide +kernel
theorem dL_law_1098 : decode cL_law 1098 = .ok (.aload_n 0, 1) := by decide +kernel
theorem dL_law_1099 : decode cL_law 1099 = .ok (.iload 4, 2) := by decide +kernel
theorem dL_law_1101 : decode cL_law 1101 = .ok (.iconst 1, 1) := by decide +kernel
theorem dL_law_1102 : decode cL_law 1102 = .ok (.iadd, 1) := by decide +kernel
theorem dL_law_1103 : decode cL_law 1103 = .ok (.iaload, 1) := by decide +kernel
theorem dL_law_1104 : decode cL_law 1104 = .ok (.aload_n 0, 1) := by decide +kernel
theorem dL_law_1105 : decode cL_law 1105 = .ok (.iload 4, 2) := by decide +kernel
theorem dL_law_1107 : decode cL_law 1107 = .ok (.iconst 2, 1) := by decide +kernel
theorem dL_law_1108 : decode cL_law 1108 = .ok (.iadd, 1) := by decide +kernel
theorem dL_law_1109 : decode cL_law 1109 = .ok (.iaload, 1) := by decide +kernel
theorem dL_law_1110 : decode cL_law 1110 = .ok (.aload_n 0, 1) := by decide +kernel
theorem dL_law_1111 : decode cL_law 1111 = .ok (.iload 4, 2) := by decide +kernel
theorem dL_law_1113 : decode cL_law 1113 = .ok (.iconst 3, 1) := by decide +kernel
theorem dL_law_1114 : decode cL_law 1114 = .ok (.iadd, 1) := by decide +kernel
theorem dL_law_1115 : decode cL_law 1115 = .ok (.iaload, 1) := by decide +kernel
theorem dL_law_1116 : decode cL_law 1116 = .ok (.aload_n 3, 1) := by decide +kernel
theorem dL_law_1117 : decode cL_law 1117 = .ok (.invokestatic 162, 3) := by decide +kernel
theorem dL_law_1120 : decode cL_law 1120 = .ok (.istore 5, 2) := by decide +kernel
theorem dL_law_1122 : decode cL_law 1122 = .ok (.aload_n 2, 1) := by decide +kernel
theorem dL_law_1123 : decode cL_law 1123 = .ok (.aload_n 0, 1) := by decide +kernel
theorem dL_law_1124 : decode cL_law 1124 = .ok (.iload 4, 2) := by decide +kernel
theorem dL_law_1126 : decode cL_law 1126 = .ok (.iconst 1, 1) := by decide +kernel
theorem dL_law_1127 : decode cL_law 1127 = .ok (.iadd, 1) := by decide +kernel
theorem dL_law_1128 : decode cL_law 1128 = .ok (.iaload, 1) := by decide +kernel
theorem dL_law_1129 : decode cL_law 1129 = .ok (.aload_n 0, 1) := by decide +kernel
theorem dL_law_1130 : decode cL_law 1130 = .ok (.iload 4, 2) := by decide +kernel
theorem dL_law_1132 : decode cL_law 1132 = .ok (.iconst 2, 1) := by decide +kernel
theorem dL_law_1133 : decode cL_law 1133 = .ok (.iadd, 1) := by decide +kernel
theorem dL_law_1134 : decode cL_law 1134 = .ok (.iaload, 1) := by decide +kernel
theorem dL_law_1135 : decode cL_law 1135 = .ok (.aload_n 0, 1) := by decide +kernel
theorem dL_law_1136 : decode cL_law 1136 = .ok (.iload 4, 2) := by decide +kernel
theorem dL_law_1138 : decode cL_law 1138 = .ok (.iconst 3, 1) := by decide +kernel
theorem dL_law_1139 : decode cL_law 1139 = .ok (.iadd, 1) := by decide +kernel
theorem dL_law_1140 : decode cL_law 1140 = .ok (.iaload, 1) := by decide +kernel
theorem dL_law_1141 : decode cL_law 1141 = .ok (.invokevirtual 164, 3) := by decide +kernel
theorem dL_law_1144 : decode cL_law 1144 = .ok (.istore 6, 2) := by decide +kernel
theorem dL_law_1146 : decode cL_law 1146 = .ok (.aload_n 2, 1) := by decide +kernel
theorem dL_law_1147 : decode cL_law 1147 = .ok (.invokevirtual 114, 3) := by decide +kernel
theorem dL_law_1150 : decode cL_law 1150 = .ok (.iload 5, 2) := by decide +kernel
theorem dL_law_1152 : decode cL_law 1152 = .ok (.if_icmp .eq 5, 3) := by decide +kernel
theorem dL_law_1155 : decode cL_law 1155 = .ok (.iconst 0, 1) := by decide +kernel
theorem dL_law_1156 : decode cL_law 1156 = .ok (.ireturn, 1) := by decide +kernel
theorem dL_law_1157 : decode cL_law 1157 = .ok (.iload 5, 2) := by decide +kernel
theorem dL_law_1159 : decode cL_law 1159 = .ok (.ifCond .ne 15, 3) := by decide +kernel
theorem dL_law_1162 : decode cL_law 1162 = .ok (.aload_n 3, 1) := by decide +kernel
theorem dL_law_1163 : decode cL_law 1163 = .ok (.iconst 0, 1) := by decide +kernel
theorem dL_law_1164 : decode cL_law 1164 = .ok (.laload, 1) := by decide +kernel
theorem dL_law_1165 : decode cL_law 1165 = .ok (.iload 6, 2) := by decide +kernel
theorem dL_law_1167 : decode cL_law 1167 = .ok (.i2l, 1) := by decide +kernel
theorem dL_law_1168 : decode cL_law 1168 = .ok (.lcmp, 1) := by decide +kernel
theorem dL_law_1169 : decode cL_law 1169 = .ok (.ifCond .eq 5, 3) := by decide +kernel
theorem dL_law_1172 : decode cL_law 1172 = .ok (.iconst 0, 1) := by decide +kernel
theorem dL_law_1173 : decode cL_law 1173 = .ok (.ireturn, 1) := by decide +kernel
theorem dL_law_1174 : decode cL_law 1174 = .ok (.goto 928, 3) := by decide +kernel
theorem dL_law_1177 : decode cL_law 1177 = .ok (.aload_n 1, 1) := by decide +kernel
theorem dL_law_1178 : decode cL_law 1178 = .ok (.aload_n 0, 1) := by decide +kernel
theorem dL_law_1179 : decode cL_law 1179 = .ok (.iload 4, 2) := by decide +kernel
theorem dL_law_1181 : decode cL_law 1181 = .ok (.iconst 1, 1) := by decide +kernel
theorem dL_law_1182 : decode cL_law 1182 = .ok (.iadd, 1) := by decide +kernel
theorem dL_law_1183 : decode cL_law 1183 = .ok (.iaload, 1) := by decide +kernel
theorem dL_law_1184 : decode cL_law 1184 = .ok (.aload_n 0, 1) := by decide +kernel
theorem dL_law_1185 : decode cL_law 1185 = .ok (.iload 4, 2) := by decide +kernel
theorem dL_law_1187 : decode cL_law 1187 = .ok (.iconst 2, 1) := by decide +kernel
theorem dL_law_1188 : decode cL_law 1188 = .ok (.iadd, 1) := by decide +kernel
theorem dL_law_1189 : decode cL_law 1189 = .ok (.iaload, 1) := by decide +kernel
theorem dL_law_1190 : decode cL_law 1190 = .ok (.aload_n 0, 1) := by decide +kernel
theorem dL_law_1191 : decode cL_law 1191 = .ok (.iload 4, 2) := by decide +kernel
theorem dL_law_1193 : decode cL_law 1193 = .ok (.iconst 3, 1) := by decide +kernel
theorem dL_law_1194 : decode cL_law 1194 = .ok (.iadd, 1) := by decide +kernel
theorem dL_law_1195 : decode cL_law 1195 = .ok (.iaload, 1) := by decide +kernel
theorem dL_law_1196 : decode cL_law 1196 = .ok (.aload_n 0, 1) := by decide +kernel
theorem dL_law_1197 : decode cL_law 1197 = .ok (.iload 4, 2) := by decide +kernel
theorem dL_law_1199 : decode cL_law 1199 = .ok (.iconst 4, 1) := by decide +kernel
theorem dL_law_1200 : decode cL_law 1200 = .ok (.iadd, 1) := by decide +kernel
theorem dL_law_1201 : decode cL_law 1201 = .ok (.iaload, 1) := by decide +kernel
theorem dL_law_1202 : decode cL_law 1202 = .ok (.aload_n 0, 1) := by decide +kernel
theorem dL_law_1203 : decode cL_law 1203 = .ok (.iload 4, 2) := by decide +kernel
theorem dL_law_1205 : decode cL_law 1205 = .ok (.iconst 5, 1) := by decide +kernel
theorem dL_law_1206 : decode cL_law 1206 = .ok (.iadd, 1) := by decide +kernel
theorem dL_law_1207 : decode cL_law 1207 = .ok (.iaload, 1) := by decide +kernel
theorem dL_law_1208 : decode cL_law 1208 = .ok (.aload_n 0, 1) := by decide +kernel
theorem dL_law_1209 : decode cL_law 1209 = .ok (.iload 4, 2) := by decide +kernel
theorem dL_law_1211 : decode cL_law 1211 = .ok (.bipush 6, 2) := by decide +kernel
theorem dL_law_1213 : decode cL_law 1213 = .ok (.iadd, 1) := by decide +kernel
theorem dL_law_1214 : decode cL_law 1214 = .ok (.iaload, 1) := by decide +kernel
theorem dL_law_1215 : decode cL_law 1215 = .ok (.aload_n 3, 1) := by decide +kernel
theorem dL_law_1216 : decode cL_law 1216 = .ok (.invokestatic 165, 3) := by decide +kernel
theorem dL_law_1219 : decode cL_law 1219 = .ok (.istore 5, 2) := by decide +kernel
theorem dL_law_1221 : decode cL_law 1221 = .ok (.aload_n 2, 1) := by decide +kernel
theorem dL_law_1222 : decode cL_law 1222 = .ok (.aload_n 0, 1) := by decide +kernel
theorem dL_law_1223 : decode cL_law 1223 = .ok (.iload 4, 2) := by decide +kernel
theorem dL_law_1225 : decode cL_law 1225 = .ok (.iconst 1, 1) := by decide +kernel
theorem dL_law_1226 : decode cL_law 1226 = .ok (.iadd, 1) := by decide +kernel
theorem dL_law_1227 : decode cL_law 1227 = .ok (.iaload, 1) := by decide +kernel
theorem dL_law_1228 : decode cL_law 1228 = .ok (.aload_n 0, 1) := by decide +kernel
theorem dL_law_1229 : decode cL_law 1229 = .ok (.iload 4, 2) := by decide +kernel
theorem dL_law_1231 : decode cL_law 1231 = .ok (.iconst 2, 1) := by decide +kernel
theorem dL_law_1232 : decode cL_law 1232 = .ok (.iadd, 1) := by decide +kernel
theorem dL_law_1233 : decode cL_law 1233 = .ok (.iaload, 1) := by decide +kernel
theorem dL_law_1234 : decode cL_law 1234 = .ok (.aload_n 0, 1) := by decide +kernel
theorem dL_law_1235 : decode cL_law 1235 = .ok (.iload 4, 2) := by decide +kernel
theorem dL_law_1237 : decode cL_law 1237 = .ok (.iconst 3, 1) := by decide +kernel
theorem dL_law_1238 : decode cL_law 1238 = .ok (.iadd, 1) := by decide +kernel
theorem dL_law_1239 : decode cL_law 1239 = .ok (.iaload, 1) := by decide +kernel
theorem dL_law_1240 : decode cL_law 1240 = .ok (.aload_n 0, 1) := by decide +kernel
theorem dL_law_1241 : decode cL_law 1241 = .ok (.iload 4, 2) := by decide +kernel
theorem dL_law_1243 : decode cL_law 1243 = .ok (.iconst 4, 1) := by decide +kernel
theorem dL_law_1244 : decode cL_law 1244 = .ok (.iadd, 1) := by decide +kernel
theorem dL_law_1245 : decode cL_law 1245 = .ok (.iaload, 1) := by decide +kernel
theorem dL_law_1246 : decode cL_law 1246 = .ok (.aload_n 0, 1) := by decide +kernel
theorem dL_law_1247 : decode cL_law 1247 = .ok (.iload 4, 2) := by decide +kernel
theorem dL_law_1249 : decode cL_law 1249 = .ok (.iconst 5, 1) := by decide +kernel
theorem dL_law_1250 : decode cL_law 1250 = .ok (.iadd, 1) := by decide +kernel
theorem dL_law_1251 : decode cL_law 1251 = .ok (.iaload, 1) := by decide +kernel
theorem dL_law_1252 : decode cL_law 1252 = .ok (.aload_n 0, 1) := by decide +kernel
theorem dL_law_1253 : decode cL_law 1253 = .ok (.iload 4, 2) := by decide +kernel
theorem dL_law_1255 : decode cL_law 1255 = .ok (.bipush 6, 2) := by decide +kernel
theorem dL_law_1257 : decode cL_law 1257 = .ok (.iadd, 1) := by decide +kernel
theorem dL_law_1258 : decode cL_law 1258 = .ok (.iaload, 1) := by decide +kernel
theorem dL_law_1259 : decode cL_law 1259 = .ok (.invokevirtual 168, 3) := by decide +kernel
theorem dL_law_1262 : decode cL_law 1262 = .ok (.istore 6, 2) := by decide +kernel
theorem dL_law_1264 : decode cL_law 1264 = .ok (.aload_n 2, 1) := by decide +kernel
theorem dL_law_1265 : decode cL_law 1265 = .ok (.invokevirtual 114, 3) := by decide +kernel
theorem dL_law_1268 : decode cL_law 1268 = .ok (.iload 5, 2) := by decide +kernel
theorem dL_law_1270 : decode cL_law 1270 = .ok (.if_icmp .eq 5, 3) := by decide +kernel
theorem dL_law_1273 : decode cL_law 1273 = .ok (.iconst 0, 1) := by decide +kernel
theorem dL_law_1274 : decode cL_law 1274 = .ok (.ireturn, 1) := by decide +kernel
theorem dL_law_1275 : decode cL_law 1275 = .ok (.iload 5, 2) := by decide +kernel
theorem dL_law_1277 : decode cL_law 1277 = .ok (.ifCond .ne 15, 3) := by decide +kernel
theorem dL_law_1280 : decode cL_law 1280 = .ok (.aload_n 3, 1) := by decide +kernel
theorem dL_law_1281 : decode cL_law 1281 = .ok (.iconst 0, 1) := by decide +kernel
theorem dL_law_1282 : decode cL_law 1282 = .ok (.laload, 1) := by decide +kernel
theorem dL_law_1283 : decode cL_law 1283 = .ok (.iload 6, 2) := by decide +kernel
theorem dL_law_1285 : decode cL_law 1285 = .ok (.i2l, 1) := by decide +kernel
theorem dL_law_1286 : decode cL_law 1286 = .ok (.lcmp, 1) := by decide +kernel
theorem dL_law_1287 : decode cL_law 1287 = .ok (.ifCond .eq 5, 3) := by decide +kernel
theorem dL_law_1290 : decode cL_law 1290 = .ok (.iconst 0, 1) := by decide +kernel
theorem dL_law_1291 : decode cL_law 1291 = .ok (.ireturn, 1) := by decide +kernel
theorem dL_law_1292 : decode cL_law 1292 = .ok (.goto 810, 3) := by decide +kernel
theorem dL_law_1295 : decode cL_law 1295 = .ok (.aload_n 1, 1) := by decide +kernel
theorem dL_law_1296 : decode cL_law 1296 = .ok (.aload_n 0, 1) := by decide +kernel
theorem dL_law_1297 : decode cL_law 1297 = .ok (.iload 4, 2) := by decide +kernel
theorem dL_law_1299 : decode cL_law 1299 = .ok (.iconst 1, 1) := by decide +kernel
theorem dL_law_1300 : decode cL_law 1300 = .ok (.iadd, 1) := by decide +kernel
theorem dL_law_1301 : decode cL_law 1301 = .ok (.iaload, 1) := by decide +kernel
theorem dL_law_1302 : decode cL_law 1302 = .ok (.aload_n 0, 1) := by decide +kernel
theorem dL_law_1303 : decode cL_law 1303 = .ok (.iload 4, 2) := by decide +kernel
theorem dL_law_1305 : decode cL_law 1305 = .ok (.iconst 2, 1) := by decide +kernel
theorem dL_law_1306 : decode cL_law 1306 = .ok (.iadd, 1) := by decide +kernel
theorem dL_law_1307 : decode cL_law 1307 = .ok (.iaload, 1) := by decide +kernel
theorem dL_law_1308 : decode cL_law 1308 = .ok (.aload_n 0, 1) := by decide +kernel
theorem dL_law_1309 : decode cL_law 1309 = .ok (.iload 4, 2) := by decide +kernel
theorem dL_law_1311 : decode cL_law 1311 = .ok (.iconst 3, 1) := by decide +kernel
theorem dL_law_1312 : decode cL_law 1312 = .ok (.iadd, 1) := by decide +kernel
theorem dL_law_1313 : decode cL_law 1313 = .ok (.iaload, 1) := by decide +kernel
theorem dL_law_1314 : decode cL_law 1314 = .ok (.ifCond .eq 7, 3) := by decide +kernel
theorem dL_law_1317 : decode cL_law 1317 = .ok (.iconst 1, 1) := by decide +kernel
theorem dL_law_1318 : decode cL_law 1318 = .ok (.goto 4, 3) := by decide +kernel
theorem dL_law_1321 : decode cL_law 1321 = .ok (.iconst 0, 1) := by decide +kernel
theorem dL_law_1322 : decode cL_law 1322 = .ok (.aload_n 3, 1) := by decide +kernel
theorem dL_law_1323 : decode cL_law 1323 = .ok (.invokestatic 169, 3) := by decide +kernel
theorem dL_law_1326 : decode cL_law 1326 = .ok (.istore 5, 2) := by decide +kernel
theorem dL_law_1328 : decode cL_law 1328 = .ok (.aload_n 2, 1) := by decide +kernel
theorem dL_law_1329 : decode cL_law 1329 = .ok (.aload_n 0, 1) := by decide +kernel
theorem dL_law_1330 : decode cL_law 1330 = .ok (.iload 4, 2) := by decide +kernel
theorem dL_law_1332 : decode cL_law 1332 = .ok (.iconst 1, 1) := by decide +kernel
theorem dL_law_1333 : decode cL_law 1333 = .ok (.iadd, 1) := by decide +kernel
theorem dL_law_1334 : decode cL_law 1334 = .ok (.iaload, 1) := by decide +kernel
theorem dL_law_1335 : decode cL_law 1335 = .ok (.aload_n 0, 1) := by decide +kernel
theorem dL_law_1336 : decode cL_law 1336 = .ok (.iload 4, 2) := by decide +kernel
theorem dL_law_1338 : decode cL_law 1338 = .ok (.iconst 2, 1) := by decide +kernel
theorem dL_law_1339 : decode cL_law 1339 = .ok (.iadd, 1) := by decide +kernel
theorem dL_law_1340 : decode cL_law 1340 = .ok (.iaload, 1) := by decide +kernel
theorem dL_law_1341 : decode cL_law 1341 = .ok (.aload_n 0, 1) := by decide +kernel
theorem dL_law_1342 : decode cL_law 1342 = .ok (.iload 4, 2) := by decide +kernel
theorem dL_law_1344 : decode cL_law 1344 = .ok (.iconst 3, 1) := by decide +kernel
theorem dL_law_1345 : decode cL_law 1345 = .ok (.iadd, 1) := by decide +kernel
theorem dL_law_1346 : decode cL_law 1346 = .ok (.iaload, 1) := by decide +kernel
theorem dL_law_1347 : decode cL_law 1347 = .ok (.ifCond .eq 7, 3) := by decide +kernel
theorem dL_law_1350 : decode cL_law 1350 = .ok (.iconst 1, 1) := by decide +kernel
theorem dL_law_1351 : decode cL_law 1351 = .ok (.goto 4, 3) := by decide +kernel
theorem dL_law_1354 : decode cL_law 1354 = .ok (.iconst 0, 1) := by decide +kernel
theorem dL_law_1355 : decode cL_law 1355 = .ok (.invokevirtual 172, 3) := by decide +kernel
theorem dL_law_1358 : decode cL_law 1358 = .ok (.istore 6, 2) := by decide +kernel
theorem dL_law_1360 : decode cL_law 1360 = .ok (.aload_n 2, 1) := by decide +kernel
theorem dL_law_1361 : decode cL_law 1361 = .ok (.invokevirtual 114, 3) := by decide +kernel
theorem dL_law_1364 : decode cL_law 1364 = .ok (.iload 5, 2) := by decide +kernel
theorem dL_law_1366 : decode cL_law 1366 = .ok (.if_icmp .eq 5, 3) := by decide +kernel
theorem dL_law_1369 : decode cL_law 1369 = .ok (.iconst 0, 1) := by decide +kernel
theorem dL_law_1370 : decode cL_law 1370 = .ok (.ireturn, 1) := by decide +kernel
theorem dL_law_1371 : decode cL_law 1371 = .ok (.iload 5, 2) := by decide +kernel
theorem dL_law_1373 : decode cL_law 1373 = .ok (.ifCond .ne 15, 3) := by decide +kernel
theorem dL_law_1376 : decode cL_law 1376 = .ok (.aload_n 3, 1) := by decide +kernel
theorem dL_law_1377 : decode cL_law 1377 = .ok (.iconst 0, 1) := by decide +kernel
theorem dL_law_1378 : decode cL_law 1378 = .ok (.laload, 1) := by decide +kernel
theorem dL_law_1379 : decode cL_law 1379 = .ok (.iload 6, 2) := by decide +kernel
theorem dL_law_1381 : decode cL_law 1381 = .ok (.i2l, 1) := by decide +kernel
theorem dL_law_1382 : decode cL_law 1382 = .ok (.lcmp, 1) := by decide +kernel
theorem dL_law_1383 : decode cL_law 1383 = .ok (.ifCond .eq 5, 3) := by decide +kernel
theorem dL_law_1386 : decode cL_law 1386 = .ok (.iconst 0, 1) := by decide +kernel
theorem dL_law_1387 : decode cL_law 1387 = .ok (.ireturn, 1) := by decide +kernel
theorem dL_law_1388 : decode cL_law 1388 = .ok (.goto 714, 3) := by decide +kernel
theorem dL_law_1391 : decode cL_law 1391 = .ok (.aload_n 1, 1) := by decide +kernel
theorem dL_law_1392 : decode cL_law 1392 = .ok (.aload_n 0, 1) := by decide +kernel
theorem dL_law_1393 : decode cL_law 1393 = .ok (.iload 4, 2) := by decide +kernel
theorem dL_law_1395 : decode cL_law 1395 = .ok (.iconst 1, 1) := by decide +kernel
theorem dL_law_1396 : decode cL_law 1396 = .ok (.iadd, 1) := by decide +kernel
theorem dL_law_1397 : decode cL_law 1397 = .ok (.iaload, 1) := by decide +kernel
theorem dL_law_1398 : decode cL_law 1398 = .ok (.aload_n 3, 1) := by decide +kernel
theorem dL_law_1399 : decode cL_law 1399 = .ok (.invokestatic 173, 3) := by decide +kernel
theorem dL_law_1402 : decode cL_law 1402 = .ok (.istore 5, 2) := by decide +kernel
theorem dL_law_1404 : decode cL_law 1404 = .ok (.aload_n 2, 1) := by decide +kernel
theorem dL_law_1405 : decode cL_law 1405 = .ok (.aload_n 0, 1) := by decide +kernel
theorem dL_law_1406 : decode cL_law 1406 = .ok (.iload 4, 2) := by decide +kernel
theorem dL_law_1408 : decode cL_law 1408 = .ok (.iconst 1, 1) := by decide +kernel
theorem dL_law_1409 : decode cL_law 1409 = .ok (.iadd, 1) := by decide +kernel
theorem dL_law_1410 : decode cL_law 1410 = .ok (.iaload, 1) := by decide +kernel
theorem dL_law_1411 : decode cL_law 1411 = .ok (.invokevirtual 175, 3) := by decide +kernel
theorem dL_law_1414 : decode cL_law 1414 = .ok (.istore 6, 2) := by decide +kernel
theorem dL_law_1416 : decode cL_law 1416 = .ok (.aload_n 2, 1) := by decide +kernel
theorem dL_law_1417 : decode cL_law 1417 = .ok (.invokevirtual 114, 3) := by decide +kernel
theorem dL_law_1420 : decode cL_law 1420 = .ok (.iload 5, 2) := by decide +kernel
theorem dL_law_1422 : decode cL_law 1422 = .ok (.if_icmp .eq 5, 3) := by decide +kernel
theorem dL_law_1425 : decode cL_law 1425 = .ok (.iconst 0, 1) := by decide +kernel
theorem dL_law_1426 : decode cL_law 1426 = .ok (.ireturn, 1) := by decide +kernel
theorem dL_law_1427 : decode cL_law 1427 = .ok (.iload 5, 2) := by decide +kernel
theorem dL_law_1429 : decode cL_law 1429 = .ok (.ifCond .ne 15, 3) := by decide +kernel
theorem dL_law_1432 : decode cL_law 1432 = .ok (.aload_n 3, 1) := by decide +kernel
theorem dL_law_1433 : decode cL_law 1433 = .ok (.iconst 0, 1) := by decide +kernel
theorem dL_law_1434 : decode cL_law 1434 = .ok (.laload, 1) := by decide +kernel
theorem dL_law_1435 : decode cL_law 1435 = .ok (.iload 6, 2) := by decide +kernel
theorem dL_law_1437 : decode cL_law 1437 = .ok (.i2l, 1) := by decide +kernel
theorem dL_law_1438 : decode cL_law 1438 = .ok (.lcmp, 1) := by decide +kernel
theorem dL_law_1439 : decode cL_law 1439 = .ok (.ifCond .eq 5, 3) := by decide +kernel
theorem dL_law_1442 : decode cL_law 1442 = .ok (.iconst 0, 1) := by decide +kernel
theorem dL_law_1443 : decode cL_law 1443 = .ok (.ireturn, 1) := by decide +kernel
theorem dL_law_1444 : decode cL_law 1444 = .ok (.goto 658, 3) := by decide +kernel
theorem dL_law_1447 : decode cL_law 1447 = .ok (.aload_n 1, 1) := by decide +kernel
theorem dL_law_1448 : decode cL_law 1448 = .ok (.aload_n 0, 1) := by decide +kernel
theorem dL_law_1449 : decode cL_law 1449 = .ok (.iload 4, 2) := by decide +kernel
theorem dL_law_1451 : decode cL_law 1451 = .ok (.iconst 1, 1) := by decide +kernel
theorem dL_law_1452 : decode cL_law 1452 = .ok (.iadd, 1) := by decide +kernel
theorem dL_law_1453 : decode cL_law 1453 = .ok (.iaload, 1) := by decide +kernel
theorem dL_law_1454 : decode cL_law 1454 = .ok (.aload_n 0, 1) := by decide +kernel
theorem dL_law_1455 : decode cL_law 1455 = .ok (.iload 4, 2) := by decide +kernel
theorem dL_law_1457 : decode cL_law 1457 = .ok (.iconst 2, 1) := by decide +kernel
theorem dL_law_1458 : decode cL_law 1458 = .ok (.iadd, 1) := by decide +kernel
theorem dL_law_1459 : decode cL_law 1459 = .ok (.iaload, 1) := by decide +kernel
theorem dL_law_1460 : decode cL_law 1460 = .ok (.aload_n 0, 1) := by decide +kernel
theorem dL_law_1461 : decode cL_law 1461 = .ok (.iload 4, 2) := by decide +kernel
theorem dL_law_1463 : decode cL_law 1463 = .ok (.iconst 3, 1) := by decide +kernel
theorem dL_law_1464 : decode cL_law 1464 = .ok (.iadd, 1) := by decide +kernel
theorem dL_law_1465 : decode cL_law 1465 = .ok (.iaload, 1) := by decide +kernel
theorem dL_law_1466 : decode cL_law 1466 = .ok (.aload_n 3, 1) := by decide +kernel
theorem dL_law_1467 : decode cL_law 1467 = .ok (.invokestatic 176, 3) := by decide +kernel
theorem dL_law_1470 : decode cL_law 1470 = .ok (.istore 5, 2) := by decide +kernel
theorem dL_law_1472 : decode cL_law 1472 = .ok (.aload_n 2, 1) := by decide +kernel
theorem dL_law_1473 : decode cL_law 1473 = .ok (.aload_n 0, 1) := by decide +kernel
theorem dL_law_1474 : decode cL_law 1474 = .ok (.iload 4, 2) := by decide +kernel
theorem dL_law_1476 : decode cL_law 1476 = .ok (.iconst 1, 1) := by decide +kernel
theorem dL_law_1477 : decode cL_law 1477 = .ok (.iadd, 1) := by decide +kernel
theorem dL_law_1478 : decode cL_law 1478 = .ok (.iaload, 1) := by decide +kernel
theorem dL_law_1479 : decode cL_law 1479 = .ok (.aload_n 0, 1) := by decide +kernel
theorem dL_law_1480 : decode cL_law 1480 = .ok (.iload 4, 2) := by decide +kernel
theorem dL_law_1482 : decode cL_law 1482 = .ok (.iconst 2, 1) := by decide +kernel
theorem dL_law_1483 : decode cL_law 1483 = .ok (.iadd, 1) := by decide +kernel
theorem dL_law_1484 : decode cL_law 1484 = .ok (.iaload, 1) := by decide +kernel
theorem dL_law_1485 : decode cL_law 1485 = .ok (.aload_n 0, 1) := by decide +kernel
theorem dL_law_1486 : decode cL_law 1486 = .ok (.iload 4, 2) := by decide +kernel
theorem dL_law_1488 : decode cL_law 1488 = .ok (.iconst 3, 1) := by decide +kernel
theorem dL_law_1489 : decode cL_law 1489 = .ok (.iadd, 1) := by decide +kernel
theorem dL_law_1490 : decode cL_law 1490 = .ok (.iaload, 1) := by decide +kernel
theorem dL_law_1491 : decode cL_law 1491 = .ok (.invokevirtual 178, 3) := by decide +kernel
theorem dL_law_1494 : decode cL_law 1494 = .ok (.istore 6, 2) := by decide +kernel
theorem dL_law_1496 : decode cL_law 1496 = .ok (.aload_n 2, 1) := by decide +kernel
theorem dL_law_1497 : decode cL_law 1497 = .ok (.invokevirtual 114, 3) := by decide +kernel
theorem dL_law_1500 : decode cL_law 1500 = .ok (.iload 5, 2) := by decide +kernel
theorem dL_law_1502 : decode cL_law 1502 = .ok (.if_icmp .eq 5, 3) := by decide +kernel
theorem dL_law_1505 : decode cL_law 1505 = .ok (.iconst 0, 1) := by decide +kernel
theorem dL_law_1506 : decode cL_law 1506 = .ok (.ireturn, 1) := by decide +kernel
theorem dL_law_1507 : decode cL_law 1507 = .ok (.iload 5, 2) := by decide +kernel
theorem dL_law_1509 : decode cL_law 1509 = .ok (.ifCond .ne 22, 3) := by decide +kernel
theorem dL_law_1512 : decode cL_law 1512 = .ok (.aload_n 3, 1) := by decide +kernel
theorem dL_law_1513 : decode cL_law 1513 = .ok (.iconst 0, 1) := by decide +kernel
theorem dL_law_1514 : decode cL_law 1514 = .ok (.laload, 1) := by decide +kernel
theorem dL_law_1515 : decode cL_law 1515 = .ok (.iload 6, 2) := by decide +kernel
theorem dL_law_1517 : decode cL_law 1517 = .ok (.ifCond .eq 7, 3) := by decide +kernel
theorem dL_law_1520 : decode cL_law 1520 = .ok (.lconst 1, 1) := by decide +kernel
theorem dL_law_1521 : decode cL_law 1521 = .ok (.goto 4, 3) := by decide +kernel
theorem dL_law_1524 : decode cL_law 1524 = .ok (.lconst 0, 1) := by decide +kernel
theorem dL_law_1525 : decode cL_law 1525 = .ok (.lcmp, 1) := by decide +kernel
theorem dL_law_1526 : decode cL_law 1526 = .ok (.ifCond .eq 5, 3) := by decide +kernel
theorem dL_law_1529 : decode cL_law 1529 = .ok (.iconst 0, 1) := by decide +kernel
theorem dL_law_1530 : decode cL_law 1530 = .ok (.ireturn, 1) := by decide +kernel
theorem dL_law_1531 : decode cL_law 1531 = .ok (.goto 571, 3) := by decide +kernel
theorem dL_law_1534 : decode cL_law 1534 = .ok (.aload_n 1, 1) := by decide +kernel
theorem dL_law_1535 : decode cL_law 1535 = .ok (.aload_n 0, 1) := by decide +kernel
theorem dL_law_1536 : decode cL_law 1536 = .ok (.iload 4, 2) := by decide +kernel
theorem dL_law_1538 : decode cL_law 1538 = .ok (.iconst 1, 1) := by decide +kernel
theorem dL_law_1539 : decode cL_law 1539 = .ok (.iadd, 1) := by decide +kernel
theorem dL_law_1540 : decode cL_law 1540 = .ok (.iaload, 1) := by decide +kernel
theorem dL_law_1541 : decode cL_law 1541 = .ok (.aload_n 0, 1) := by decide +kernel
theorem dL_law_1542 : decode cL_law 1542 = .ok (.iload 4, 2) := by decide +kernel
theorem dL_law_1544 : decode cL_law 1544 = .ok (.iconst 2, 1) := by decide +kernel
theorem dL_law_1545 : decode cL_law 1545 = .ok (.iadd, 1) := by decide +kernel
theorem dL_law_1546 : decode cL_law 1546 = .ok (.iaload, 1) := by decide +kernel
theorem dL_law_1547 : decode cL_law 1547 = .ok (.aload_n 3, 1) := by decide +kernel
theorem dL_law_1548 : decode cL_law 1548 = .ok (.invokestatic 179, 3) := by decide +kernel
theorem dL_law_1551 : decode cL_law 1551 = .ok (.istore 5, 2) := by decide +kernel
theorem dL_law_1553 : decode cL_law 1553 = .ok (.aload_n 2, 1) := by decide +kernel
theorem dL_law_1554 : decode cL_law 1554 = .ok (.aload_n 0, 1) := by decide +kernel
theorem dL_law_1555 : decode cL_law 1555 = .ok (.iload 4, 2) := by decide +kernel
theorem dL_law_1557 : decode cL_law 1557 = .ok (.iconst 1, 1) := by decide +kernel
theorem dL_law_1558 : decode cL_law 1558 = .ok (.iadd, 1) := by decide +kernel
theorem dL_law_1559 : decode cL_law 1559 = .ok (.iaload, 1) := by decide +kernel
theorem dL_law_1560 : decode cL_law 1560 = .ok (.aload_n 0, 1) := by decide +kernel
theorem dL_law_1561 : decode cL_law 1561 = .ok (.iload 4, 2) := by decide +kernel
theorem dL_law_1563 : decode cL_law 1563 = .ok (.iconst 2, 1) := by decide +kernel
theorem dL_law_1564 : decode cL_law 1564 = .ok (.iadd, 1) := by decide +kernel
theorem dL_law_1565 : decode cL_law 1565 = .ok (.iaload, 1) := by decide +kernel
theorem dL_law_1566 : decode cL_law 1566 = .ok (.invokevirtual 181, 3) := by decide +kernel
theorem dL_law_1569 : decode cL_law 1569 = .ok (.istore 6, 2) := by decide +kernel
theorem dL_law_1571 : decode cL_law 1571 = .ok (.aload_n 2, 1) := by decide +kernel
theorem dL_law_1572 : decode cL_law 1572 = .ok (.invokevirtual 114, 3) := by decide +kernel
theorem dL_law_1575 : decode cL_law 1575 = .ok (.iload 5, 2) := by decide +kernel
theorem dL_law_1577 : decode cL_law 1577 = .ok (.if_icmp .eq 5, 3) := by decide +kernel
theorem dL_law_1580 : decode cL_law 1580 = .ok (.iconst 0, 1) := by decide +kernel
theorem dL_law_1581 : decode cL_law 1581 = .ok (.ireturn, 1) := by decide +kernel
theorem dL_law_1582 : decode cL_law 1582 = .ok (.iload 5, 2) := by decide +kernel
theorem dL_law_1584 : decode cL_law 1584 = .ok (.ifCond .ne 15, 3) := by decide +kernel
theorem dL_law_1587 : decode cL_law 1587 = .ok (.aload_n 3, 1) := by decide +kernel
theorem dL_law_1588 : decode cL_law 1588 = .ok (.iconst 0, 1) := by decide +kernel
theorem dL_law_1589 : decode cL_law 1589 = .ok (.laload, 1) := by decide +kernel
theorem dL_law_1590 : decode cL_law 1590 = .ok (.iload 6, 2) := by decide +kernel
theorem dL_law_1592 : decode cL_law 1592 = .ok (.i2l, 1) := by decide +kernel
theorem dL_law_1593 : decode cL_law 1593 = .ok (.lcmp, 1) := by decide +kernel
theorem dL_law_1594 : decode cL_law 1594 = .ok (.ifCond .eq 5, 3) := by decide +kernel
theorem dL_law_1597 : decode cL_law 1597 = .ok (.iconst 0, 1) := by decide +kernel
theorem dL_law_1598 : decode cL_law 1598 = .ok (.ireturn, 1) := by decide +kernel
theorem dL_law_1599 : decode cL_law 1599 = .ok (.goto 503, 3) := by decide +kernel
theorem dL_law_1602 : decode cL_law 1602 = .ok (.aload_n 1, 1) := by decide +kernel
theorem dL_law_1603 : decode cL_law 1603 = .ok (.aload_n 0, 1) := by decide +kernel
theorem dL_law_1604 : decode cL_law 1604 = .ok (.iload 4, 2) := by decide +kernel
theorem dL_law_1606 : decode cL_law 1606 = .ok (.iconst 1, 1) := by decide +kernel
theorem dL_law_1607 : decode cL_law 1607 = .ok (.iadd, 1) := by decide +kernel
theorem dL_law_1608 : decode cL_law 1608 = .ok (.iaload, 1) := by decide +kernel
theorem dL_law_1609 : decode cL_law 1609 = .ok (.aload_n 0, 1) := by decide +kernel
theorem dL_law_1610 : decode cL_law 1610 = .ok (.iload 4, 2) := by decide +kernel
theorem dL_law_1612 : decode cL_law 1612 = .ok (.iconst 2, 1) := by decide +kernel
theorem dL_law_1613 : decode cL_law 1613 = .ok (.iadd, 1) := by decide +kernel
theorem dL_law_1614 : decode cL_law 1614 = .ok (.iaload, 1) := by decide +kernel
theorem dL_law_1615 : decode cL_law 1615 = .ok (.aload_n 3, 1) := by decide +kernel
theorem dL_law_1616 : decode cL_law 1616 = .ok (.invokestatic 182, 3) := by decide +kernel
theorem dL_law_1619 : decode cL_law 1619 = .ok (.istore 5, 2) := by decide +kernel
theorem dL_law_1621 : decode cL_law 1621 = .ok (.aload_n 2, 1) := by decide +kernel
theorem dL_law_1622 : decode cL_law 1622 = .ok (.aload_n 0, 1) := by decide +kernel
theorem dL_law_1623 : decode cL_law 1623 = .ok (.iload 4, 2) := by decide +kernel
theorem dL_law_1625 : decode cL_law 1625 = .ok (.iconst 1, 1) := by decide +kernel
theorem dL_law_1626 : decode cL_law 1626 = .ok (.iadd, 1) := by decide +kernel
theorem dL_law_1627 : decode cL_law 1627 = .ok (.iaload, 1) := by decide +kernel
theorem dL_law_1628 : decode cL_law 1628 = .ok (.aload_n 0, 1) := by decide +kernel
theorem dL_law_1629 : decode cL_law 1629 = .ok (.iload 4, 2) := by decide +kernel
theorem dL_law_1631 : decode cL_law 1631 = .ok (.iconst 2, 1) := by decide +kernel
theorem dL_law_1632 : decode cL_law 1632 = .ok (.iadd, 1) := by decide +kernel
theorem dL_law_1633 : decode cL_law 1633 = .ok (.iaload, 1) := by decide +kernel
theorem dL_law_1634 : decode cL_law 1634 = .ok (.invokevirtual 184, 3) := by decide +kernel
theorem dL_law_1637 : decode cL_law 1637 = .ok (.istore 6, 2) := by decide +kernel
theorem dL_law_1639 : decode cL_law 1639 = .ok (.aload_n 2, 1) := by decide +kernel
theorem dL_law_1640 : decode cL_law 1640 = .ok (.invokevirtual 114, 3) := by decide +kernel
theorem dL_law_1643 : decode cL_law 1643 = .ok (.iload 5, 2) := by decide +kernel
theorem dL_law_1645 : decode cL_law 1645 = .ok (.if_icmp .eq 5, 3) := by decide +kernel
theorem dL_law_1648 : decode cL_law 1648 = .ok (.iconst 0, 1) := by decide +kernel
theorem dL_law_1649 : decode cL_law 1649 = .ok (.ireturn, 1) := by decide +kernel
theorem dL_law_1650 : decode cL_law 1650 = .ok (.iload 5, 2) := by decide +kernel
theorem dL_law_1652 : decode cL_law 1652 = .ok (.ifCond .ne 15, 3) := by decide +kernel
theorem dL_law_1655 : decode cL_law 1655 = .ok (.aload_n 3, 1) := by decide +kernel
theorem dL_law_1656 : decode cL_law 1656 = .ok (.iconst 0, 1) := by decide +kernel
theorem dL_law_1657 : decode cL_law 1657 = .ok (.laload, 1) := by decide +kernel
theorem dL_law_1658 : decode cL_law 1658 = .ok (.iload 6, 2) := by decide +kernel
theorem dL_law_1660 : decode cL_law 1660 = .ok (.i2l, 1) := by decide +kernel
theorem dL_law_1661 : decode cL_law 1661 = .ok (.lcmp, 1) := by decide +kernel
theorem dL_law_1662 : decode cL_law 1662 = .ok (.ifCond .eq 5, 3) := by decide +kernel
theorem dL_law_1665 : decode cL_law 1665 = .ok (.iconst 0, 1) := by decide +kernel
theorem dL_law_1666 : decode cL_law 1666 = .ok (.ireturn, 1) := by decide +kernel
theorem dL_law_1667 : decode cL_law 1667 = .ok (.goto 435, 3) := by decide +kernel
theorem dL_law_1670 : decode cL_law 1670 = .ok (.aload_n 1, 1) := by decide +kernel
theorem dL_law_1671 : decode cL_law 1671 = .ok (.aload_n 0, 1) := by decide +kernel
theorem dL_law_1672 : decode cL_law 1672 = .ok (.iload 4, 2) := by decide +kernel
theorem dL_law_1674 : decode cL_law 1674 = .ok (.iconst 1, 1) := by decide +kernel
theorem dL_law_1675 : decode cL_law 1675 = .ok (.iadd, 1) := by decide +kernel
theorem dL_law_1676 : decode cL_law 1676 = .ok (.iaload, 1) := by decide +kernel
theorem dL_law_1677 : decode cL_law 1677 = .ok (.aload_n 3, 1) := by decide +kernel
theorem dL_law_1678 : decode cL_law 1678 = .ok (.invokestatic 185, 3) := by decide +kernel
theorem dL_law_1681 : decode cL_law 1681 = .ok (.istore 5, 2) := by decide +kernel
theorem dL_law_1683 : decode cL_law 1683 = .ok (.aload_n 2, 1) := by decide +kernel
theorem dL_law_1684 : decode cL_law 1684 = .ok (.aload_n 0, 1) := by decide +kernel
theorem dL_law_1685 : decode cL_law 1685 = .ok (.iload 4, 2) := by decide +kernel
theorem dL_law_1687 : decode cL_law 1687 = .ok (.iconst 1, 1) := by decide +kernel
theorem dL_law_1688 : decode cL_law 1688 = .ok (.iadd, 1) := by decide +kernel
theorem dL_law_1689 : decode cL_law 1689 = .ok (.iaload, 1) := by decide +kernel
theorem dL_law_1690 : decode cL_law 1690 = .ok (.invokevirtual 187, 3) := by decide +kernel
theorem dL_law_1693 : decode cL_law 1693 = .ok (.istore 6, 2) := by decide +kernel
theorem dL_law_1695 : decode cL_law 1695 = .ok (.aload_n 2, 1) := by decide +kernel
theorem dL_law_1696 : decode cL_law 1696 = .ok (.invokevirtual 114, 3) := by decide +kernel
theorem dL_law_1699 : decode cL_law 1699 = .ok (.iload 5, 2) := by decide +kernel
theorem dL_law_1701 : decode cL_law 1701 = .ok (.if_icmp .eq 5, 3) := by decide +kernel
theorem dL_law_1704 : decode cL_law 1704 = .ok (.iconst 0, 1) := by decide +kernel
theorem dL_law_1705 : decode cL_law 1705 = .ok (.ireturn, 1) := by decide +kernel
theorem dL_law_1706 : decode cL_law 1706 = .ok (.iload 5, 2) := by decide +kernel
theorem dL_law_1708 : decode cL_law 1708 = .ok (.ifCond .ne 15, 3) := by decide +kernel
theorem dL_law_1711 : decode cL_law 1711 = .ok (.aload_n 3, 1) := by decide +kernel
theorem dL_law_1712 : decode cL_law 1712 = .ok (.iconst 0, 1) := by decide +kernel
theorem dL_law_1713 : decode cL_law 1713 = .ok (.laload, 1) := by decide +kernel
theorem dL_law_1714 : decode cL_law 1714 = .ok (.iload 6, 2) := by decide +kernel
theorem dL_law_1716 : decode cL_law 1716 = .ok (.i2l, 1) := by decide +kernel
theorem dL_law_1717 : decode cL_law 1717 = .ok (.lcmp, 1) := by decide +kernel
theorem dL_law_1718 : decode cL_law 1718 = .ok (.ifCond .eq 5, 3) := by decide +kernel
theorem dL_law_1721 : decode cL_law 1721 = .ok (.iconst 0, 1) := by decide +kernel
theorem dL_law_1722 : decode cL_law 1722 = .ok (.ireturn, 1) := by decide +kernel
theorem dL_law_1723 : decode cL_law 1723 = .ok (.goto 379, 3) := by decide +kernel
theorem dL_law_1726 : decode cL_law 1726 = .ok (.aload_n 1, 1) := by decide +kernel
theorem dL_law_1727 : decode cL_law 1727 = .ok (.invokevirtual 188, 3) := by decide +kernel
theorem dL_law_1730 : decode cL_law 1730 = .ok (.aload_n 2, 1) := by decide +kernel
theorem dL_law_1731 : decode cL_law 1731 = .ok (.invokevirtual 191, 3) := by decide +kernel
theorem dL_law_1734 : decode cL_law 1734 = .ok (.if_icmp .eq 368, 3) := by decide +kernel
theorem dL_law_1737 : decode cL_law 1737 = .ok (.iconst 0, 1) := by decide +kernel
theorem dL_law_1738 : decode cL_law 1738 = .ok (.ireturn, 1) := by decide +kernel
theorem dL_law_1739 : decode cL_law 1739 = .ok (.aload_n 1, 1) := by decide +kernel
theorem dL_law_1740 : decode cL_law 1740 = .ok (.aload_n 0, 1) := by decide +kernel
theorem dL_law_1741 : decode cL_law 1741 = .ok (.iload 4, 2) := by decide +kernel
theorem dL_law_1743 : decode cL_law 1743 = .ok (.iconst 1, 1) := by decide +kernel
theorem dL_law_1744 : decode cL_law 1744 = .ok (.iadd, 1) := by decide +kernel
theorem dL_law_1745 : decode cL_law 1745 = .ok (.iaload, 1) := by decide +kernel
theorem dL_law_1746 : decode cL_law 1746 = .ok (.aload_n 0, 1) := by decide +kernel
theorem dL_law_1747 : decode cL_law 1747 = .ok (.iload 4, 2) := by decide +kernel
theorem dL_law_1749 : decode cL_law 1749 = .ok (.iconst 2, 1) := by decide +kernel
theorem dL_law_1750 : decode cL_law 1750 = .ok (.iadd, 1) := by decide +kernel
theorem dL_law_1751 : decode cL_law 1751 = .ok (.iaload, 1) := by decide +kernel
theorem dL_law_1752 : decode cL_law 1752 = .ok (.aload_n 3, 1) := by decide +kernel
theorem dL_law_1753 : decode cL_law 1753 = .ok (.invokestatic 192, 3) := by decide +kernel
theorem dL_law_1756 : decode cL_law 1756 = .ok (.istore 5, 2) := by decide +kernel
theorem dL_law_1758 : decode cL_law 1758 = .ok (.aload_n 2, 1) := by decide +kernel
theorem dL_law_1759 : decode cL_law 1759 = .ok (.aload_n 0, 1) := by decide +kernel
theorem dL_law_1760 : decode cL_law 1760 = .ok (.iload 4, 2) := by decide +kernel
theorem dL_law_1762 : decode cL_law 1762 = .ok (.iconst 1, 1) := by decide +kernel
theorem dL_law_1763 : decode cL_law 1763 = .ok (.iadd, 1) := by decide +kernel
theorem dL_law_1764 : decode cL_law 1764 = .ok (.iaload, 1) := by decide +kernel
theorem dL_law_1765 : decode cL_law 1765 = .ok (.aload_n 0, 1) := by decide +kernel
theorem dL_law_1766 : decode cL_law 1766 = .ok (.iload 4, 2) := by decide +kernel
theorem dL_law_1768 : decode cL_law 1768 = .ok (.iconst 2, 1) := by decide +kernel
theorem dL_law_1769 : decode cL_law 1769 = .ok (.iadd, 1) := by decide +kernel
theorem dL_law_1770 : decode cL_law 1770 = .ok (.iaload, 1) := by decide +kernel
theorem dL_law_1771 : decode cL_law 1771 = .ok (.invokevirtual 194, 3) := by decide +kernel
theorem dL_law_1774 : decode cL_law 1774 = .ok (.istore 6, 2) := by decide +kernel
theorem dL_law_1776 : decode cL_law 1776 = .ok (.aload_n 2, 1) := by decide +kernel
theorem dL_law_1777 : decode cL_law 1777 = .ok (.invokevirtual 114, 3) := by decide +kernel
theorem dL_law_1780 : decode cL_law 1780 = .ok (.iload 5, 2) := by decide +kernel
theorem dL_law_1782 : decode cL_law 1782 = .ok (.if_icmp .eq 5, 3) := by decide +kernel
theorem dL_law_1785 : decode cL_law 1785 = .ok (.iconst 0, 1) := by decide +kernel
theorem dL_law_1786 : decode cL_law 1786 = .ok (.ireturn, 1) := by decide +kernel
theorem dL_law_1787 : decode cL_law 1787 = .ok (.iload 5, 2) := by decide +kernel
theorem dL_law_1789 : decode cL_law 1789 = .ok (.ifCond .ne 15, 3) := by decide +kernel
theorem dL_law_1792 : decode cL_law 1792 = .ok (.aload_n 3, 1) := by decide +kernel
theorem dL_law_1793 : decode cL_law 1793 = .ok (.iconst 0, 1) := by decide +kernel
theorem dL_law_1794 : decode cL_law 1794 = .ok (.laload, 1) := by decide +kernel
theorem dL_law_1795 : decode cL_law 1795 = .ok (.iload 6, 2) := by decide +kernel
theorem dL_law_1797 : decode cL_law 1797 = .ok (.i2l, 1) := by decide +kernel
theorem dL_law_1798 : decode cL_law 1798 = .ok (.lcmp, 1) := by decide +kernel
theorem dL_law_1799 : decode cL_law 1799 = .ok (.ifCond .eq 5, 3) := by decide +kernel
theorem dL_law_1802 : decode cL_law 1802 = .ok (.iconst 0, 1) := by decide +kernel
theorem dL_law_1803 : decode cL_law 1803 = .ok (.ireturn, 1) := by decide +kernel
theorem dL_law_1804 : decode cL_law 1804 = .ok (.goto 298, 3) := by decide +kernel
theorem dL_law_1807 : decode cL_law 1807 = .ok (.aload_n 1, 1) := by decide +kernel
theorem dL_law_1808 : decode cL_law 1808 = .ok (.aload_n 0, 1) := by decide +kernel
theorem dL_law_1809 : decode cL_law 1809 = .ok (.iload 4, 2) := by decide +kernel
theorem dL_law_1811 : decode cL_law 1811 = .ok (.iconst 1, 1) := by decide +kernel
theorem dL_law_1812 : decode cL_law 1812 = .ok (.iadd, 1) := by decide +kernel
theorem dL_law_1813 : decode cL_law 1813 = .ok (.iaload, 1) := by decide +kernel
theorem dL_law_1814 : decode cL_law 1814 = .ok (.aload_n 0, 1) := by decide +kernel
theorem dL_law_1815 : decode cL_law 1815 = .ok (.iload 4, 2) := by decide +kernel
theorem dL_law_1817 : decode cL_law 1817 = .ok (.iconst 2, 1) := by decide +kernel
theorem dL_law_1818 : decode cL_law 1818 = .ok (.iadd, 1) := by decide +kernel
theorem dL_law_1819 : decode cL_law 1819 = .ok (.iaload, 1) := by decide +kernel
theorem dL_law_1820 : decode cL_law 1820 = .ok (.ifCond .eq 7, 3) := by decide +kernel
theorem dL_law_1823 : decode cL_law 1823 = .ok (.iconst 1, 1) := by decide +kernel
theorem dL_law_1824 : decode cL_law 1824 = .ok (.goto 4, 3) := by decide +kernel
theorem dL_law_1827 : decode cL_law 1827 = .ok (.iconst 0, 1) := by decide +kernel
theorem dL_law_1828 : decode cL_law 1828 = .ok (.aload_n 3, 1) := by decide +kernel
theorem dL_law_1829 : decode cL_law 1829 = .ok (.invokestatic 195, 3) := by decide +kernel
theorem dL_law_1832 : decode cL_law 1832 = .ok (.istore 5, 2) := by decide +kernel
theorem dL_law_1834 : decode cL_law 1834 = .ok (.aload_n 2, 1) := by decide +kernel
theorem dL_law_1835 : decode cL_law 1835 = .ok (.aload_n 0, 1) := by decide +kernel
theorem dL_law_1836 : decode cL_law 1836 = .ok (.iload 4, 2) := by decide +kernel
theorem dL_law_1838 : decode cL_law 1838 = .ok (.iconst 1, 1) := by decide +kernel
theorem dL_law_1839 : decode cL_law 1839 = .ok (.iadd, 1) := by decide +kernel
theorem dL_law_1840 : decode cL_law 1840 = .ok (.iaload, 1) := by decide +kernel
theorem dL_law_1841 : decode cL_law 1841 = .ok (.aload_n 0, 1) := by decide +kernel
theorem dL_law_1842 : decode cL_law 1842 = .ok (.iload 4, 2) := by decide +kernel
theorem dL_law_1844 : decode cL_law 1844 = .ok (.iconst 2, 1) := by decide +kernel
theorem dL_law_1845 : decode cL_law 1845 = .ok (.iadd, 1) := by decide +kernel
theorem dL_law_1846 : decode cL_law 1846 = .ok (.iaload, 1) := by decide +kernel
theorem dL_law_1847 : decode cL_law 1847 = .ok (.ifCond .eq 7, 3) := by decide +kernel
theorem dL_law_1850 : decode cL_law 1850 = .ok (.iconst 1, 1) := by decide +kernel
theorem dL_law_1851 : decode cL_law 1851 = .ok (.goto 4, 3) := by decide +kernel
theorem dL_law_1854 : decode cL_law 1854 = .ok (.iconst 0, 1) := by decide +kernel
theorem dL_law_1855 : decode cL_law 1855 = .ok (.invokevirtual 198, 3) := by decide +kernel
theorem dL_law_1858 : decode cL_law 1858 = .ok (.istore 6, 2) := by decide +kernel
theorem dL_law_1860 : decode cL_law 1860 = .ok (.aload_n 2, 1) := by decide +kernel
theorem dL_law_1861 : decode cL_law 1861 = .ok (.invokevirtual 114, 3) := by decide +kernel
theorem dL_law_1864 : decode cL_law 1864 = .ok (.iload 5, 2) := by decide +kernel
theorem dL_law_1866 : decode cL_law 1866 = .ok (.if_icmp .eq 5, 3) := by decide +kernel
theorem dL_law_1869 : decode cL_law 1869 = .ok (.iconst 0, 1) := by decide +kernel
theorem dL_law_1870 : decode cL_law 1870 = .ok (.ireturn, 1) := by decide +kernel
theorem dL_law_1871 : decode cL_law 1871 = .ok (.iload 5, 2) := by decide +kernel
theorem dL_law_1873 : decode cL_law 1873 = .ok (.ifCond .ne 15, 3) := by decide +kernel
theorem dL_law_1876 : decode cL_law 1876 = .ok (.aload_n 3, 1) := by decide +kernel
theorem dL_law_1877 : decode cL_law 1877 = .ok (.iconst 0, 1) := by decide +kernel
theorem dL_law_1878 : decode cL_law 1878 = .ok (.laload, 1) := by decide +kernel
theorem dL_law_1879 : decode cL_law 1879 = .ok (.iload 6, 2) := by decide +kernel
theorem dL_law_1881 : decode cL_law 1881 = .ok (.i2l, 1) := by decide +kernel
theorem dL_law_1882 : decode cL_law 1882 = .ok (.lcmp, 1) := by decide +kernel
theorem dL_law_1883 : decode cL_law 1883 = .ok (.ifCond .eq 5, 3) := by decide +kernel
theorem dL_law_1886 : decode cL_law 1886 = .ok (.iconst 0, 1) := by decide +kernel
theorem dL_law_1887 : decode cL_law 1887 = .ok (.ireturn, 1) := by decide +kernel
theorem dL_law_1888 : decode cL_law 1888 = .ok (.goto 214, 3) := by decide +kernel
theorem dL_law_1891 : decode cL_law 1891 = .ok (.aload_n 1, 1) := by decide +kernel
theorem dL_law_1892 : decode cL_law 1892 = .ok (.aload_n 0, 1) := by decide +kernel
theorem dL_law_1893 : decode cL_law 1893 = .ok (.iload 4, 2) := by decide +kernel
theorem dL_law_1895 : decode cL_law 1895 = .ok (.iconst 1, 1) := by decide +kernel
theorem dL_law_1896 : decode cL_law 1896 = .ok (.iadd, 1) := by decide +kernel
theorem dL_law_1897 : decode cL_law 1897 = .ok (.iaload, 1) := by decide +kernel
theorem dL_law_1898 : decode cL_law 1898 = .ok (.aload_n 0, 1) := by decide +kernel
theorem dL_law_1899 : decode cL_law 1899 = .ok (.iload 4, 2) := by decide +kernel
theorem dL_law_1901 : decode cL_law 1901 = .ok (.iconst 2, 1) := by decide +kernel
theorem dL_law_1902 : decode cL_law 1902 = .ok (.iadd, 1) := by decide +kernel
theorem dL_law_1903 : decode cL_law 1903 = .ok (.iaload, 1) := by decide +kernel
theorem dL_law_1904 : decode cL_law 1904 = .ok (.aload_n 3, 1) := by decide +kernel
theorem dL_law_1905 : decode cL_law 1905 = .ok (.invokestatic 199, 3) := by decide +kernel
theorem dL_law_1908 : decode cL_law 1908 = .ok (.istore 5, 2) := by decide +kernel
theorem dL_law_1910 : decode cL_law 1910 = .ok (.aload_n 2, 1) := by decide +kernel
theorem dL_law_1911 : decode cL_law 1911 = .ok (.aload_n 0, 1) := by decide +kernel
theorem dL_law_1912 : decode cL_law 1912 = .ok (.iload 4, 2) := by decide +kernel
theorem dL_law_1914 : decode cL_law 1914 = .ok (.iconst 1, 1) := by decide +kernel
theorem dL_law_1915 : decode cL_law 1915 = .ok (.iadd, 1) := by decide +kernel
theorem dL_law_1916 : decode cL_law 1916 = .ok (.iaload, 1) := by decide +kernel
theorem dL_law_1917 : decode cL_law 1917 = .ok (.aload_n 0, 1) := by decide +kernel
theorem dL_law_1918 : decode cL_law 1918 = .ok (.iload 4, 2) := by decide +kernel
theorem dL_law_1920 : decode cL_law 1920 = .ok (.iconst 2, 1) := by decide +kernel
theorem dL_law_1921 : decode cL_law 1921 = .ok (.iadd, 1) := by decide +kernel
theorem dL_law_1922 : decode cL_law 1922 = .ok (.iaload, 1) := by decide +kernel
theorem dL_law_1923 : decode cL_law 1923 = .ok (.invokevirtual 201, 3) := by decide +kernel
theorem dL_law_1926 : decode cL_law 1926 = .ok (.istore 6, 2) := by decide +kernel
theorem dL_law_1928 : decode cL_law 1928 = .ok (.aload_n 2, 1) := by decide +kernel
theorem dL_law_1929 : decode cL_law 1929 = .ok (.invokevirtual 114, 3) := by decide +kernel
theorem dL_law_1932 : decode cL_law 1932 = .ok (.iload 5, 2) := by decide +kernel
theorem dL_law_1934 : decode cL_law 1934 = .ok (.if_icmp .eq 5, 3) := by decide +kernel
theorem dL_law_1937 : decode cL_law 1937 = .ok (.iconst 0, 1) := by decide +kernel
theorem dL_law_1938 : decode cL_law 1938 = .ok (.ireturn, 1) := by decide +kernel
theorem dL_law_1939 : decode cL_law 1939 = .ok (.iload 5, 2) := by decide +kernel
theorem dL_law_1941 : decode cL_law 1941 = .ok (.ifCond .ne 15, 3) := by decide +kernel
theorem dL_law_1944 : decode cL_law 1944 = .ok (.aload_n 3, 1) := by decide +kernel
theorem dL_law_1945 : decode cL_law 1945 = .ok (.iconst 0, 1) := by decide +kernel
theorem dL_law_1946 : decode cL_law 1946 = .ok (.laload, 1) := by decide +kernel
theorem dL_law_1947 : decode cL_law 1947 = .ok (.iload 6, 2) := by decide +kernel
theorem dL_law_1949 : decode cL_law 1949 = .ok (.i2l, 1) := by decide +kernel
theorem dL_law_1950 : decode cL_law 1950 = .ok (.lcmp, 1) := by decide +kernel
theorem dL_law_1951 : decode cL_law 1951 = .ok (.ifCond .eq 5, 3) := by decide +kernel
theorem dL_law_1954 : decode cL_law 1954 = .ok (.iconst 0, 1) := by decide +kernel
theorem dL_law_1955 : decode cL_law 1955 = .ok (.ireturn, 1) := by decide +kernel
theorem dL_law_1956 : decode cL_law 1956 = .ok (.goto 146, 3) := by decide +kernel
theorem dL_law_1959 : decode cL_law 1959 = .ok (.aload_n 1, 1) := by decide +kernel
theorem dL_law_1960 : decode cL_law 1960 = .ok (.aload_n 0, 1) := by decide +kernel
theorem dL_law_1961 : decode cL_law 1961 = .ok (.iload 4, 2) := by decide +kernel
theorem dL_law_1963 : decode cL_law 1963 = .ok (.iconst 1, 1) := by decide +kernel
theorem dL_law_1964 : decode cL_law 1964 = .ok (.iadd, 1) := by decide +kernel
theorem dL_law_1965 : decode cL_law 1965 = .ok (.iaload, 1) := by decide +kernel
theorem dL_law_1966 : decode cL_law 1966 = .ok (.aload_n 0, 1) := by decide +kernel
theorem dL_law_1967 : decode cL_law 1967 = .ok (.iload 4, 2) := by decide +kernel
theorem dL_law_1969 : decode cL_law 1969 = .ok (.iconst 2, 1) := by decide +kernel
theorem dL_law_1970 : decode cL_law 1970 = .ok (.iadd, 1) := by decide +kernel
theorem dL_law_1971 : decode cL_law 1971 = .ok (.iaload, 1) := by decide +kernel
theorem dL_law_1972 : decode cL_law 1972 = .ok (.aload_n 3, 1) := by decide +kernel
theorem dL_law_1973 : decode cL_law 1973 = .ok (.invokestatic 202, 3) := by decide +kernel
theorem dL_law_1976 : decode cL_law 1976 = .ok (.istore 5, 2) := by decide +kernel
theorem dL_law_1978 : decode cL_law 1978 = .ok (.aload_n 2, 1) := by decide +kernel
theorem dL_law_1979 : decode cL_law 1979 = .ok (.aload_n 0, 1) := by decide +kernel
theorem dL_law_1980 : decode cL_law 1980 = .ok (.iload 4, 2) := by decide +kernel
theorem dL_law_1982 : decode cL_law 1982 = .ok (.iconst 1, 1) := by decide +kernel
theorem dL_law_1983 : decode cL_law 1983 = .ok (.iadd, 1) := by decide +kernel
theorem dL_law_1984 : decode cL_law 1984 = .ok (.iaload, 1) := by decide +kernel
theorem dL_law_1985 : decode cL_law 1985 = .ok (.aload_n 0, 1) := by decide +kernel
theorem dL_law_1986 : decode cL_law 1986 = .ok (.iload 4, 2) := by decide +kernel
theorem dL_law_1988 : decode cL_law 1988 = .ok (.iconst 2, 1) := by decide +kernel
theorem dL_law_1989 : decode cL_law 1989 = .ok (.iadd, 1) := by decide +kernel
theorem dL_law_1990 : decode cL_law 1990 = .ok (.iaload, 1) := by decide +kernel
theorem dL_law_1991 : decode cL_law 1991 = .ok (.invokevirtual 204, 3) := by decide +kernel
theorem dL_law_1994 : decode cL_law 1994 = .ok (.istore 6, 2) := by decide +kernel
theorem dL_law_1996 : decode cL_law 1996 = .ok (.aload_n 2, 1) := by decide +kernel
theorem dL_law_1997 : decode cL_law 1997 = .ok (.invokevirtual 114, 3) := by decide +kernel
theorem dL_law_2000 : decode cL_law 2000 = .ok (.iload 5, 2) := by decide +kernel
theorem dL_law_2002 : decode cL_law 2002 = .ok (.if_icmp .eq 5, 3) := by decide +kernel
theorem dL_law_2005 : decode cL_law 2005 = .ok (.iconst 0, 1) := by decide +kernel
theorem dL_law_2006 : decode cL_law 2006 = .ok (.ireturn, 1) := by decide +kernel
theorem dL_law_2007 : decode cL_law 2007 = .ok (.iload 5, 2) := by decide +kernel
theorem dL_law_2009 : decode cL_law 2009 = .ok (.ifCond .ne 22, 3) := by decide +kernel
theorem dL_law_2012 : decode cL_law 2012 = .ok (.aload_n 3, 1) := by decide +kernel
theorem dL_law_2013 : decode cL_law 2013 = .ok (.iconst 0, 1) := by decide +kernel
theorem dL_law_2014 : decode cL_law 2014 = .ok (.laload, 1) := by decide +kernel
theorem dL_law_2015 : decode cL_law 2015 = .ok (.iload 6, 2) := by decide +kernel
theorem dL_law_2017 : decode cL_law 2017 = .ok (.ifCond .eq 7, 3) := by decide +kernel
theorem dL_law_2020 : decode cL_law 2020 = .ok (.lconst 1, 1) := by decide +kernel
theorem dL_law_2021 : decode cL_law 2021 = .ok (.goto 4, 3) := by decide +kernel
theorem dL_law_2024 : decode cL_law 2024 = .ok (.lconst 0, 1) := by decide +kernel
theorem dL_law_2025 : decode cL_law 2025 = .ok (.lcmp, 1) := by decide +kernel
theorem dL_law_2026 : decode cL_law 2026 = .ok (.ifCond .eq 5, 3) := by decide +kernel
theorem dL_law_2029 : decode cL_law 2029 = .ok (.iconst 0, 1) := by decide +kernel
theorem dL_law_2030 : decode cL_law 2030 = .ok (.ireturn, 1) := by decide +kernel
theorem dL_law_2031 : decode cL_law 2031 = .ok (.goto 71, 3) := by decide +kernel
theorem dL_law_2034 : decode cL_law 2034 = .ok (.aload_n 1, 1) := by decide +kernel
theorem dL_law_2035 : decode cL_law 2035 = .ok (.aload_n 0, 1) := by decide +kernel
theorem dL_law_2036 : decode cL_law 2036 = .ok (.iload 4, 2) := by decide +kernel
theorem dL_law_2038 : decode cL_law 2038 = .ok (.iconst 1, 1) := by decide +kernel
theorem dL_law_2039 : decode cL_law 2039 = .ok (.iadd, 1) := by decide +kernel
theorem dL_law_2040 : decode cL_law 2040 = .ok (.iaload, 1) := by decide +kernel
theorem dL_law_2041 : decode cL_law 2041 = .ok (.aload_n 0, 1) := by decide +kernel
theorem dL_law_2042 : decode cL_law 2042 = .ok (.iload 4, 2) := by decide +kernel
theorem dL_law_2044 : decode cL_law 2044 = .ok (.iconst 2, 1) := by decide +kernel
theorem dL_law_2045 : decode cL_law 2045 = .ok (.iadd, 1) := by decide +kernel
theorem dL_law_2046 : decode cL_law 2046 = .ok (.iaload, 1) := by decide +kernel
theorem dL_law_2047 : decode cL_law 2047 = .ok (.aload_n 3, 1) := by decide +kernel
theorem dL_law_2048 : decode cL_law 2048 = .ok (.invokestatic 205, 3) := by decide +kernel
theorem dL_law_2051 : decode cL_law 2051 = .ok (.istore 5, 2) := by decide +kernel
theorem dL_law_2053 : decode cL_law 2053 = .ok (.aload_n 2, 1) := by decide +kernel
theorem dL_law_2054 : decode cL_law 2054 = .ok (.aload_n 0, 1) := by decide +kernel
theorem dL_law_2055 : decode cL_law 2055 = .ok (.iload 4, 2) := by decide +kernel
theorem dL_law_2057 : decode cL_law 2057 = .ok (.iconst 1, 1) := by decide +kernel
theorem dL_law_2058 : decode cL_law 2058 = .ok (.iadd, 1) := by decide +kernel
theorem dL_law_2059 : decode cL_law 2059 = .ok (.iaload, 1) := by decide +kernel
theorem dL_law_2060 : decode cL_law 2060 = .ok (.aload_n 0, 1) := by decide +kernel
theorem dL_law_2061 : decode cL_law 2061 = .ok (.iload 4, 2) := by decide +kernel
theorem dL_law_2063 : decode cL_law 2063 = .ok (.iconst 2, 1) := by decide +kernel
theorem dL_law_2064 : decode cL_law 2064 = .ok (.iadd, 1) := by decide +kernel
theorem dL_law_2065 : decode cL_law 2065 = .ok (.iaload, 1) := by decide +kernel
theorem dL_law_2066 : decode cL_law 2066 = .ok (.invokevirtual 207, 3) := by decide +kernel
theorem dL_law_2069 : decode cL_law 2069 = .ok (.istore 6, 2) := by decide +kernel
theorem dL_law_2071 : decode cL_law 2071 = .ok (.aload_n 2, 1) := by decide +kernel
theorem dL_law_2072 : decode cL_law 2072 = .ok (.invokevirtual 114, 3) := by decide +kernel
theorem dL_law_2075 : decode cL_law 2075 = .ok (.iload 5, 2) := by decide +kernel
theorem dL_law_2077 : decode cL_law 2077 = .ok (.if_icmp .eq 5, 3) := by decide +kernel
theorem dL_law_2080 : decode cL_law 2080 = .ok (.iconst 0, 1) := by decide +kernel
theorem dL_law_2081 : decode cL_law 2081 = .ok (.ireturn, 1) := by decide +kernel
theorem dL_law_2082 : decode cL_law 2082 = .ok (.iload 5, 2) := by decide +kernel
theorem dL_law_2084 : decode cL_law 2084 = .ok (.ifCond .ne 15, 3) := by decide +kernel
theorem dL_law_2087 : decode cL_law 2087 = .ok (.aload_n 3, 1) := by decide +kernel
theorem dL_law_2088 : decode cL_law 2088 = .ok (.iconst 0, 1) := by decide +kernel
theorem dL_law_2089 : decode cL_law 2089 = .ok (.laload, 1) := by decide +kernel
theorem dL_law_2090 : decode cL_law 2090 = .ok (.iload 6, 2) := by decide +kernel
theorem dL_law_2092 : decode cL_law 2092 = .ok (.i2l, 1) := by decide +kernel
theorem dL_law_2093 : decode cL_law 2093 = .ok (.lcmp, 1) := by decide +kernel
theorem dL_law_2094 : decode cL_law 2094 = .ok (.ifCond .eq 5, 3) := by decide +kernel
theorem dL_law_2097 : decode cL_law 2097 = .ok (.iconst 0, 1) := by decide +kernel
theorem dL_law_2098 : decode cL_law 2098 = .ok (.ireturn, 1) := by decide +kernel
theorem dL_law_2099 : decode cL_law 2099 = .ok (.goto 3, 3) := by decide +kernel
theorem dL_law_2102 : decode cL_law 2102 = .ok (.iinc 4 8, 3) := by decide +kernel
theorem dL_law_2105 : decode cL_law 2105 = .ok (.goto (-2082), 3) := by decide +kernel
theorem dL_law_2108 : decode cL_law 2108 = .ok (.iconst 1, 1) := by decide +kernel
theorem dL_law_2109 : decode cL_law 2109 = .ok (.ireturn, 1) := by decide +kernel
end
section
theorem zz_dummy : True := trivial
end
