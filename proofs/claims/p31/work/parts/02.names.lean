def RX0 : String := "Badgewood$Badge"
def TX0 : u_T := fun k => match k with
  | _ => ("Badgewood$Badge", "editions", "Ljava/util/ArrayList;", true)
def tyX0 : Nat → FieldType := fun k => match k with
  | _ => .object "java/util/ArrayList"
theorem nmX0 : ∀ a, a < 1 → ∀ b, b < 1 → a ≠ b → (TX0 a).2.1 ≠ (TX0 b).2.1 := by decide +kernel
theorem tyX0_ok : ∀ k, k < 1 → parseFieldDescriptor (TX0 k).2.2.1 = some (tyX0 k) := by decide +kernel
abbrev cX0_init : ByteArray := prog_2_method_1_code
def yX0_init : MethodName := ⟨RX0, "<init>", "()V"⟩
def RX1 : String := "Badgewood$Child"
def TX1 : u_T := fun k => match k with
  | 0 => ("Badgewood$Child", "number", "I", true)
  | 1 => ("Badgewood$Child", "age", "I", false)
  | 2 => ("Badgewood$Child", "troop", "I", false)
  | 3 => ("Badgewood$Child", "awaited", "I", false)
  | 4 => ("Badgewood$Child", "patrol", "I", false)
  | 5 => ("Badgewood$Child", "ticket", "I", false)
  | 6 => ("Badgewood$Child", "boxes", "I", false)
  | 7 => ("Badgewood$Child", "coins", "I", false)
  | 8 => ("Badgewood$Child", "creditor", "I", false)
  | 9 => ("Badgewood$Child", "proven", "I", false)
  | 10 => ("Badgewood$Child", "proofs", "I", false)
  | 11 => ("Badgewood$Child", "skillOfProof", "[I", true)
  | 12 => ("Badgewood$Child", "dayOfProof", "[I", true)
  | _ => ("Badgewood$Child", "courses", "[LBadgewood$Course;", true)
def tyX1 : Nat → FieldType := fun k => match k with
  | 0 => .int
  | 1 => .int
  | 2 => .int
  | 3 => .int
  | 4 => .int
  | 5 => .int
  | 6 => .int
  | 7 => .int
  | 8 => .int
  | 9 => .int
  | 10 => .int
  | 11 => .array .int
  | 12 => .array .int
  | _ => .array (.object "Badgewood$Course")
theorem nmX1 : ∀ a, a < 14 → ∀ b, b < 14 → a ≠ b → (TX1 a).2.1 ≠ (TX1 b).2.1 := by decide +kernel
theorem tyX1_ok : ∀ k, k < 14 → parseFieldDescriptor (TX1 k).2.2.1 = some (tyX1 k) := by decide +kernel
abbrev cX1_init : ByteArray := prog_3_method_1_code
def yX1_init : MethodName := ⟨RX1, "<init>", "(II)V"⟩
abbrev cX1_goOut : ByteArray := prog_3_method_2_code
def yX1_goOut : MethodName := ⟨RX1, "goOut", "()V"⟩
abbrev cX1_courseOf : ByteArray := prog_3_method_3_code
def yX1_courseOf : MethodName := ⟨RX1, "courseOf", "(I)LBadgewood$Course;"⟩
abbrev cX1_take : ByteArray := prog_3_method_4_code
def yX1_take : MethodName := ⟨RX1, "take", "(ILBadgewood$Course;)V"⟩
abbrev cX1_addProof : ByteArray := prog_3_method_5_code
def yX1_addProof : MethodName := ⟨RX1, "addProof", "(II)V"⟩
abbrev cX1_dayEarned : ByteArray := prog_3_method_6_code
def yX1_dayEarned : MethodName := ⟨RX1, "dayEarned", "(I)I"⟩
abbrev cX1_badgesBy : ByteArray := prog_3_method_7_code
def yX1_badgesBy : MethodName := ⟨RX1, "badgesBy", "(I)I"⟩
abbrev cX1_reckonBadges : ByteArray := prog_3_method_8_code
def yX1_reckonBadges : MethodName := ⟨RX1, "reckonBadges", "()V"⟩
abbrev cX1_dayAfterBefore : ByteArray := prog_3_method_9_code
def yX1_dayAfterBefore : MethodName := ⟨RX1, "dayAfterBefore", "(LBadgewood$Edition;)I"⟩
abbrev cX1_dayProven : ByteArray := prog_3_method_10_code
def yX1_dayProven : MethodName := ⟨RX1, "dayProven", "(LBadgewood$Edition;)I"⟩
def RX2 : String := "Badgewood$Course"
def TX2 : u_T := fun k => match k with
  | 0 => ("Badgewood$Course", "edition", "LBadgewood$Edition;", true)
  | 1 => ("Badgewood$Course", "begunOn", "I", true)
  | _ => ("Badgewood$Course", "earnedOn", "I", false)
def tyX2 : Nat → FieldType := fun k => match k with
  | 0 => .object "Badgewood$Edition"
  | 1 => .int
  | _ => .int
theorem nmX2 : ∀ a, a < 3 → ∀ b, b < 3 → a ≠ b → (TX2 a).2.1 ≠ (TX2 b).2.1 := by decide +kernel
theorem tyX2_ok : ∀ k, k < 3 → parseFieldDescriptor (TX2 k).2.2.1 = some (tyX2 k) := by decide +kernel
abbrev cX2_init : ByteArray := prog_4_method_1_code
def yX2_init : MethodName := ⟨RX2, "<init>", "(LBadgewood$Edition;I)V"⟩
abbrev cX2_isHeldOn : ByteArray := prog_4_method_2_code
def yX2_isHeldOn : MethodName := ⟨RX2, "isHeldOn", "(I)Z"⟩
def RX3 : String := "Badgewood$Edition"
def TX3 : u_T := fun k => match k with
  | 0 => ("Badgewood$Edition", "must", "I", true)
  | 1 => ("Badgewood$Edition", "choice", "I", true)
  | 2 => ("Badgewood$Edition", "many", "I", true)
  | 3 => ("Badgewood$Edition", "before", "I", true)
  | 4 => ("Badgewood$Edition", "gap", "I", true)
  | _ => ("Badgewood$Edition", "lasts", "I", true)
def tyX3 : Nat → FieldType := fun k => match k with
  | 0 => .int
  | 1 => .int
  | 2 => .int
  | 3 => .int
  | 4 => .int
  | _ => .int
theorem nmX3 : ∀ a, a < 6 → ∀ b, b < 6 → a ≠ b → (TX3 a).2.1 ≠ (TX3 b).2.1 := by decide +kernel
theorem tyX3_ok : ∀ k, k < 6 → parseFieldDescriptor (TX3 k).2.2.1 = some (tyX3 k) := by decide +kernel
abbrev cX3_init : ByteArray := prog_5_method_1_code
def yX3_init : MethodName := ⟨RX3, "<init>", "(IIIIII)V"⟩
def RX4 : String := "Badgewood$Event"
def TX4 : u_T := fun k => match k with
  | 0 => ("Badgewood$Event", "troop", "I", true)
  | 1 => ("Badgewood$Event", "land", "I", true)
  | 2 => ("Badgewood$Event", "kind", "I", true)
  | 3 => ("Badgewood$Event", "day", "I", true)
  | 4 => ("Badgewood$Event", "hour", "I", true)
  | 5 => ("Badgewood$Event", "end", "I", true)
  | _ => ("Badgewood$Event", "leaders", "I", false)
def tyX4 : Nat → FieldType := fun k => match k with
  | 0 => .int
  | 1 => .int
  | 2 => .int
  | 3 => .int
  | 4 => .int
  | 5 => .int
  | _ => .int
theorem nmX4 : ∀ a, a < 7 → ∀ b, b < 7 → a ≠ b → (TX4 a).2.1 ≠ (TX4 b).2.1 := by decide +kernel
theorem tyX4_ok : ∀ k, k < 7 → parseFieldDescriptor (TX4 k).2.2.1 = some (tyX4 k) := by decide +kernel
abbrev cX4_init : ByteArray := prog_6_method_1_code
def yX4_init : MethodName := ⟨RX4, "<init>", "(IIIIII)V"⟩
abbrev cX4_goesOn : ByteArray := prog_6_method_2_code
def yX4_goesOn : MethodName := ⟨RX4, "goesOn", "(II)Z"⟩
abbrev cX4_meets : ByteArray := prog_6_method_3_code
def yX4_meets : MethodName := ⟨RX4, "meets", "(LBadgewood$Event;)Z"⟩
def RX5 : String := "Badgewood$Leader"
def TX5 : u_T := fun k => match k with
  | 0 => ("Badgewood$Leader", "vettedFrom", "[I", true)
  | 1 => ("Badgewood$Leader", "vettedTo", "[I", true)
  | 2 => ("Badgewood$Leader", "permits", "[I", true)
  | _ => ("Badgewood$Leader", "taught", "I", false)
def tyX5 : Nat → FieldType := fun k => match k with
  | 0 => .array .int
  | 1 => .array .int
  | 2 => .array .int
  | _ => .int
theorem nmX5 : ∀ a, a < 4 → ∀ b, b < 4 → a ≠ b → (TX5 a).2.1 ≠ (TX5 b).2.1 := by decide +kernel
theorem tyX5_ok : ∀ k, k < 4 → parseFieldDescriptor (TX5 k).2.2.1 = some (tyX5 k) := by decide +kernel
abbrev cX5_init : ByteArray := prog_7_method_1_code
def yX5_init : MethodName := ⟨RX5, "<init>", "()V"⟩
abbrev cX5_setVetted : ByteArray := prog_7_method_2_code
def yX5_setVetted : MethodName := ⟨RX5, "setVetted", "(III)V"⟩
abbrev cX5_isVetted : ByteArray := prog_7_method_3_code
def yX5_isVetted : MethodName := ⟨RX5, "isVetted", "(II)Z"⟩
abbrev cX5_isVettedSomewhere : ByteArray := prog_7_method_4_code
def yX5_isVettedSomewhere : MethodName := ⟨RX5, "isVettedSomewhere", "(I)Z"⟩
abbrev cX5_setPermit : ByteArray := prog_7_method_5_code
def yX5_setPermit : MethodName := ⟨RX5, "setPermit", "(II)V"⟩
abbrev cX5_permitOf : ByteArray := prog_7_method_6_code
def yX5_permitOf : MethodName := ⟨RX5, "permitOf", "(I)I"⟩
abbrev cX5_mayLead : ByteArray := prog_7_method_7_code
def yX5_mayLead : MethodName := ⟨RX5, "mayLead", "(II)Z"⟩
def RX6 : String := "Badgewood$Need"
def TX6 : u_T := fun k => match k with
  | 0 => ("Badgewood$Need", "young", "I", true)
  | 1 => ("Badgewood$Need", "perLeader", "I", true)
  | 2 => ("Badgewood$Need", "vetted", "I", true)
  | 3 => ("Badgewood$Need", "permitted", "I", true)
  | _ => ("Badgewood$Need", "least", "I", true)
def tyX6 : Nat → FieldType := fun k => match k with
  | 0 => .int
  | 1 => .int
  | 2 => .int
  | 3 => .int
  | _ => .int
theorem nmX6 : ∀ a, a < 5 → ∀ b, b < 5 → a ≠ b → (TX6 a).2.1 ≠ (TX6 b).2.1 := by decide +kernel
theorem tyX6_ok : ∀ k, k < 5 → parseFieldDescriptor (TX6 k).2.2.1 = some (tyX6 k) := by decide +kernel
abbrev cX6_init : ByteArray := prog_8_method_1_code
def yX6_init : MethodName := ⟨RX6, "<init>", "(IIII)V"⟩
abbrev cX6_leastLeaders : ByteArray := prog_8_method_2_code
def yX6_leastLeaders : MethodName := ⟨RX6, "leastLeaders", "(II)I"⟩
abbrev cX6_verdict : ByteArray := prog_8_method_3_code
def yX6_verdict : MethodName := ⟨RX6, "verdict", "(I)I"⟩
def RX7 : String := "Badgewood$Troop"
def TX7 : u_T := fun k => match k with
  | 0 => ("Badgewood$Troop", "number", "I", true)
  | 1 => ("Badgewood$Troop", "from", "I", true)
  | 2 => ("Badgewood$Troop", "to", "I", true)
  | _ => ("Badgewood$Troop", "room", "I", true)
def tyX7 : Nat → FieldType := fun k => match k with
  | 0 => .int
  | 1 => .int
  | 2 => .int
  | _ => .int
theorem nmX7 : ∀ a, a < 4 → ∀ b, b < 4 → a ≠ b → (TX7 a).2.1 ≠ (TX7 b).2.1 := by decide +kernel
theorem tyX7_ok : ∀ k, k < 4 → parseFieldDescriptor (TX7 k).2.2.1 = some (tyX7 k) := by decide +kernel
abbrev cX7_init : ByteArray := prog_9_method_1_code
def yX7_init : MethodName := ⟨RX7, "<init>", "(IIII)V"⟩
abbrev cX7_isFor : ByteArray := prog_9_method_2_code
def yX7_isFor : MethodName := ⟨RX7, "isFor", "(I)Z"⟩
def RX8 : String := "Badgewood"
def TX8 : u_T := fun k => match k with
  | 0 => ("Badgewood", "troops", "Ljava/util/ArrayList;", true)
  | 1 => ("Badgewood", "children", "Ljava/util/ArrayList;", true)
  | 2 => ("Badgewood", "leaders", "Ljava/util/ArrayList;", true)
  | 3 => ("Badgewood", "events", "Ljava/util/ArrayList;", true)
  | 4 => ("Badgewood", "badges", "[LBadgewood$Badge;", true)
  | 5 => ("Badgewood", "now", "I", false)
  | _ => ("Badgewood", "nextTicket", "I", false)
def tyX8 : Nat → FieldType := fun k => match k with
  | 0 => .object "java/util/ArrayList"
  | 1 => .object "java/util/ArrayList"
  | 2 => .object "java/util/ArrayList"
  | 3 => .object "java/util/ArrayList"
  | 4 => .array (.object "Badgewood$Badge")
  | 5 => .int
  | _ => .int
theorem nmX8 : ∀ a, a < 7 → ∀ b, b < 7 → a ≠ b → (TX8 a).2.1 ≠ (TX8 b).2.1 := by decide +kernel
theorem tyX8_ok : ∀ k, k < 7 → parseFieldDescriptor (TX8 k).2.2.1 = some (tyX8 k) := by decide +kernel
abbrev cX8_init : ByteArray := prog_1_method_1_code
def yX8_init : MethodName := ⟨RX8, "<init>", "()V"⟩
abbrev cX8_troop : ByteArray := prog_1_method_2_code
def yX8_troop : MethodName := ⟨RX8, "troop", "(III)I"⟩
abbrev cX8_child : ByteArray := prog_1_method_3_code
def yX8_child : MethodName := ⟨RX8, "child", "(I)I"⟩
abbrev cX8_join : ByteArray := prog_1_method_4_code
def yX8_join : MethodName := ⟨RX8, "join", "(II)I"⟩
abbrev cX8_leave : ByteArray := prog_1_method_5_code
def yX8_leave : MethodName := ⟨RX8, "leave", "(I)I"⟩
abbrev cX8_patrol : ByteArray := prog_1_method_6_code
def yX8_patrol : MethodName := ⟨RX8, "patrol", "(II)I"⟩
abbrev cX8_duty : ByteArray := prog_1_method_7_code
def yX8_duty : MethodName := ⟨RX8, "duty", "(II)I"⟩
abbrev cX8_pass : ByteArray := prog_1_method_8_code
def yX8_pass : MethodName := ⟨RX8, "pass", "(I)I"⟩
abbrev cX8_season : ByteArray := prog_1_method_9_code
def yX8_season : MethodName := ⟨RX8, "season", "()I"⟩
abbrev cX8_leader : ByteArray := prog_1_method_10_code
def yX8_leader : MethodName := ⟨RX8, "leader", "()I"⟩
abbrev cX8_vet : ByteArray := prog_1_method_11_code
def yX8_vet : MethodName := ⟨RX8, "vet", "(IIII)V"⟩
abbrev cX8_permit : ByteArray := prog_1_method_12_code
def yX8_permit : MethodName := ⟨RX8, "permit", "(III)I"⟩
abbrev cX8_teach : ByteArray := prog_1_method_13_code
def yX8_teach : MethodName := ⟨RX8, "teach", "(II)I"⟩
abbrev cX8_edition : ByteArray := prog_1_method_14_code
def yX8_edition : MethodName := ⟨RX8, "edition", "(IIIIIII)I"⟩
abbrev cX8_begin : ByteArray := prog_1_method_15_code
def yX8_begin : MethodName := ⟨RX8, "begin", "(II)I"⟩
abbrev cX8_prove : ByteArray := prog_1_method_16_code
def yX8_prove : MethodName := ⟨RX8, "prove", "(III)I"⟩
abbrev cX8_event : ByteArray := prog_1_method_17_code
def yX8_event : MethodName := ⟨RX8, "event", "(IIIIII)I"⟩
abbrev cX8_staff : ByteArray := prog_1_method_18_code
def yX8_staff : MethodName := ⟨RX8, "staff", "(IIZ)I"⟩
abbrev cX8_why : ByteArray := prog_1_method_19_code
def yX8_why : MethodName := ⟨RX8, "why", "(I)I"⟩
abbrev cX8_couldStaff : ByteArray := prog_1_method_20_code
def yX8_couldStaff : MethodName := ⟨RX8, "couldStaff", "(III)Z"⟩
abbrev cX8_boxes : ByteArray := prog_1_method_21_code
def yX8_boxes : MethodName := ⟨RX8, "boxes", "(II)I"⟩
abbrev cX8_pay : ByteArray := prog_1_method_22_code
def yX8_pay : MethodName := ⟨RX8, "pay", "(II)I"⟩
abbrev cX8_owed : ByteArray := prog_1_method_23_code
def yX8_owed : MethodName := ⟨RX8, "owed", "(I)I"⟩
abbrev cX8_today : ByteArray := prog_1_method_24_code
def yX8_today : MethodName := ⟨RX8, "today", "()I"⟩
abbrev cX8_ofChild : ByteArray := prog_1_method_25_code
def yX8_ofChild : MethodName := ⟨RX8, "ofChild", "(II)I"⟩
abbrev cX8_ofTroop : ByteArray := prog_1_method_26_code
def yX8_ofTroop : MethodName := ⟨RX8, "ofTroop", "(IZ)I"⟩
abbrev cX8_earned : ByteArray := prog_1_method_27_code
def yX8_earned : MethodName := ⟨RX8, "earned", "(II)I"⟩
abbrev cX8_holds : ByteArray := prog_1_method_28_code
def yX8_holds : MethodName := ⟨RX8, "holds", "(II)Z"⟩
abbrev cX8_lacks : ByteArray := prog_1_method_29_code
def yX8_lacks : MethodName := ⟨RX8, "lacks", "(II)I"⟩
abbrev cX8_requireIndex : ByteArray := prog_1_method_30_code
def yX8_requireIndex : MethodName := ⟨RX8, "requireIndex", "(II)V"⟩
abbrev cX8_requireRange : ByteArray := prog_1_method_31_code
def yX8_requireRange : MethodName := ⟨RX8, "requireRange", "(III)V"⟩
abbrev cX8_requireRoom : ByteArray := prog_1_method_32_code
def yX8_requireRoom : MethodName := ⟨RX8, "requireRoom", "(II)V"⟩
abbrev cX8_troopAt : ByteArray := prog_1_method_33_code
def yX8_troopAt : MethodName := ⟨RX8, "troopAt", "(I)LBadgewood$Troop;"⟩
abbrev cX8_childAt : ByteArray := prog_1_method_34_code
def yX8_childAt : MethodName := ⟨RX8, "childAt", "(I)LBadgewood$Child;"⟩
abbrev cX8_leaderAt : ByteArray := prog_1_method_35_code
def yX8_leaderAt : MethodName := ⟨RX8, "leaderAt", "(I)LBadgewood$Leader;"⟩
abbrev cX8_eventAt : ByteArray := prog_1_method_36_code
def yX8_eventAt : MethodName := ⟨RX8, "eventAt", "(I)LBadgewood$Event;"⟩
abbrev cX8_badgeAt : ByteArray := prog_1_method_37_code
def yX8_badgeAt : MethodName := ⟨RX8, "badgeAt", "(I)LBadgewood$Badge;"⟩
abbrev cX8_hasBit : ByteArray := prog_1_method_38_code
def yX8_hasBit : MethodName := ⟨RX8, "hasBit", "(II)Z"⟩
abbrev cX8_childrenIn : ByteArray := prog_1_method_39_code
def yX8_childrenIn : MethodName := ⟨RX8, "childrenIn", "(I)I"⟩
abbrev cX8_waitingFor : ByteArray := prog_1_method_40_code
def yX8_waitingFor : MethodName := ⟨RX8, "waitingFor", "(I)I"⟩
abbrev cX8_childrenInPatrol : ByteArray := prog_1_method_41_code
def yX8_childrenInPatrol : MethodName := ⟨RX8, "childrenInPatrol", "(II)I"⟩
abbrev cX8_smallestPatrol : ByteArray := prog_1_method_42_code
def yX8_smallestPatrol : MethodName := ⟨RX8, "smallestPatrol", "(I)I"⟩
abbrev cX8_filledPatrols : ByteArray := prog_1_method_43_code
def yX8_filledPatrols : MethodName := ⟨RX8, "filledPatrols", "(I)I"⟩
abbrev cX8_filledPatrolAt : ByteArray := prog_1_method_44_code
def yX8_filledPatrolAt : MethodName := ⟨RX8, "filledPatrolAt", "(II)I"⟩
abbrev cX8_comeInOrWait : ByteArray := prog_1_method_45_code
def yX8_comeInOrWait : MethodName := ⟨RX8, "comeInOrWait", "(LBadgewood$Child;LBadgewood$Troop;)I"⟩
abbrev cX8_comeIn : ByteArray := prog_1_method_46_code
def yX8_comeIn : MethodName := ⟨RX8, "comeIn", "(LBadgewood$Child;I)V"⟩
abbrev cX8_letFirstIn : ByteArray := prog_1_method_47_code
def yX8_letFirstIn : MethodName := ⟨RX8, "letFirstIn", "(I)I"⟩
abbrev cX8_firstWaiting : ByteArray := prog_1_method_48_code
def yX8_firstWaiting : MethodName := ⟨RX8, "firstWaiting", "(I)LBadgewood$Child;"⟩
abbrev cX8_sendOutByAge : ByteArray := prog_1_method_49_code
def yX8_sendOutByAge : MethodName := ⟨RX8, "sendOutByAge", "()I"⟩
abbrev cX8_sendOutOf : ByteArray := prog_1_method_50_code
def yX8_sendOutOf : MethodName := ⟨RX8, "sendOutOf", "(LBadgewood$Troop;)I"⟩
abbrev cX8_fillUp : ByteArray := prog_1_method_51_code
def yX8_fillUp : MethodName := ⟨RX8, "fillUp", "(LBadgewood$Troop;)V"⟩
abbrev cX8_moveUp : ByteArray := prog_1_method_52_code
def yX8_moveUp : MethodName := ⟨RX8, "moveUp", "(LBadgewood$Child;)V"⟩
abbrev cX8_childrenPerLeader : ByteArray := prog_1_method_53_code
def yX8_childrenPerLeader : MethodName := ⟨RX8, "childrenPerLeader", "(I)I"⟩
abbrev cX8_isElsewhere : ByteArray := prog_1_method_54_code
def yX8_isElsewhere : MethodName := ⟨RX8, "isElsewhere", "(LBadgewood$Event;I)Z"⟩
abbrev cX8_needOf : ByteArray := prog_1_method_55_code
def yX8_needOf : MethodName := ⟨RX8, "needOf", "(LBadgewood$Event;)LBadgewood$Need;"⟩
abbrev cX8_eventsIn : ByteArray := prog_1_method_56_code
def yX8_eventsIn : MethodName := ⟨RX8, "eventsIn", "(II)I"⟩
abbrev cX8_needsIn : ByteArray := prog_1_method_57_code
def yX8_needsIn : MethodName := ⟨RX8, "needsIn", "(II)Ljava/util/ArrayList;"⟩
abbrev cX8_canShare : ByteArray := prog_1_method_58_code
def yX8_canShare : MethodName := ⟨RX8, "canShare", "(Ljava/util/ArrayList;II)Z"⟩
def RX9 : String := "BadgewoodModel"
def TX9 : u_T := fun k => match k with
  | _ => ("", "", "", false)
def tyX9 : Nat → FieldType := fun k => match k with
  | _ => .int
theorem nmX9 : ∀ a, a < 0 → ∀ b, b < 0 → a ≠ b → (TX9 a).2.1 ≠ (TX9 b).2.1 := by decide +kernel
theorem tyX9_ok : ∀ k, k < 0 → parseFieldDescriptor (TX9 k).2.2.1 = some (tyX9 k) := by decide +kernel
def RJx145de : String := "java/io/Serializable"
def TJx145de : u_T := fun k => match k with
  | _ => ("", "", "", false)
def tyJx145de : Nat → FieldType := fun k => match k with
  | _ => .int
theorem nmJx145de : ∀ a, a < 0 → ∀ b, b < 0 → a ≠ b → (TJx145de a).2.1 ≠ (TJx145de b).2.1 := by decide +kernel
theorem tyJx145de_ok : ∀ k, k < 0 → parseFieldDescriptor (TJx145de k).2.2.1 = some (tyJx145de k) := by decide +kernel
def RJx8e188 : String := "java/lang/Cloneable"
def TJx8e188 : u_T := fun k => match k with
  | _ => ("", "", "", false)
def tyJx8e188 : Nat → FieldType := fun k => match k with
  | _ => .int
theorem nmJx8e188 : ∀ a, a < 0 → ∀ b, b < 0 → a ≠ b → (TJx8e188 a).2.1 ≠ (TJx8e188 b).2.1 := by decide +kernel
theorem tyJx8e188_ok : ∀ k, k < 0 → parseFieldDescriptor (TJx8e188 k).2.2.1 = some (tyJx8e188 k) := by decide +kernel
def RJ6 : String := "java/lang/Integer"
def TJ6 : u_T := fun k => match k with
  | _ => ("", "", "", false)
def tyJ6 : Nat → FieldType := fun k => match k with
  | _ => .int
theorem nmJ6 : ∀ a, a < 0 → ∀ b, b < 0 → a ≠ b → (TJ6 a).2.1 ≠ (TJ6 b).2.1 := by decide +kernel
theorem tyJ6_ok : ∀ k, k < 0 → parseFieldDescriptor (TJ6 k).2.2.1 = some (tyJ6 k) := by decide +kernel
abbrev cJ6_bitCount_0f7a4 : ByteArray := prog_18_method_49_code
def yJ6_bitCount_0f7a4 : MethodName := ⟨RJ6, "bitCount", "(I)I"⟩
def RJxab1ab : String := "java/lang/Iterable"
def TJxab1ab : u_T := fun k => match k with
  | _ => ("", "", "", false)
def tyJxab1ab : Nat → FieldType := fun k => match k with
  | _ => .int
theorem nmJxab1ab : ∀ a, a < 0 → ∀ b, b < 0 → a ≠ b → (TJxab1ab a).2.1 ≠ (TJxab1ab b).2.1 := by decide +kernel
theorem tyJxab1ab_ok : ∀ k, k < 0 → parseFieldDescriptor (TJxab1ab k).2.2.1 = some (tyJxab1ab k) := by decide +kernel
def RJ9 : String := "java/lang/Math"
def TJ9 : u_T := fun k => match k with
  | _ => ("", "", "", false)
def tyJ9 : Nat → FieldType := fun k => match k with
  | _ => .int
theorem nmJ9 : ∀ a, a < 0 → ∀ b, b < 0 → a ≠ b → (TJ9 a).2.1 ≠ (TJ9 b).2.1 := by decide +kernel
theorem tyJ9_ok : ∀ k, k < 0 → parseFieldDescriptor (TJ9 k).2.2.1 = some (tyJ9 k) := by decide +kernel
abbrev cJ9_max_7cf53 : ByteArray := prog_20_method_65_code
def yJ9_max_7cf53 : MethodName := ⟨RJ9, "max", "(II)I"⟩
abbrev cJ9_min_7cf53 : ByteArray := prog_20_method_69_code
def yJ9_min_7cf53 : MethodName := ⟨RJ9, "min", "(II)I"⟩
def RJ0 : String := "java/lang/String"
def TJ0 : u_T := fun k => match k with
  | _ => ("", "", "", false)
def tyJ0 : Nat → FieldType := fun k => match k with
  | _ => .int
theorem nmJ0 : ∀ a, a < 0 → ∀ b, b < 0 → a ≠ b → (TJ0 a).2.1 ≠ (TJ0 b).2.1 := by decide +kernel
theorem tyJ0_ok : ∀ k, k < 0 → parseFieldDescriptor (TJ0 k).2.2.1 = some (tyJ0 k) := by decide +kernel
def RJ10 : String := "java/lang/System"
def TJ10 : u_T := fun k => match k with
  | _ => ("", "", "", false)
def tyJ10 : Nat → FieldType := fun k => match k with
  | _ => .int
theorem nmJ10 : ∀ a, a < 0 → ∀ b, b < 0 → a ≠ b → (TJ10 a).2.1 ≠ (TJ10 b).2.1 := by decide +kernel
theorem tyJ10_ok : ∀ k, k < 0 → parseFieldDescriptor (TJ10 k).2.2.1 = some (tyJ10 k) := by decide +kernel
def RJxa1e45 : String := "java/util/AbstractCollection"
def TJxa1e45 : u_T := fun k => match k with
  | _ => ("", "", "", false)
def tyJxa1e45 : Nat → FieldType := fun k => match k with
  | _ => .int
theorem nmJxa1e45 : ∀ a, a < 0 → ∀ b, b < 0 → a ≠ b → (TJxa1e45 a).2.1 ≠ (TJxa1e45 b).2.1 := by decide +kernel
theorem tyJxa1e45_ok : ∀ k, k < 0 → parseFieldDescriptor (TJxa1e45 k).2.2.1 = some (tyJxa1e45 k) := by decide +kernel
abbrev cJxa1e45_init_da8c8 : ByteArray := prog_25_method_1_code
def yJxa1e45_init_da8c8 : MethodName := ⟨RJxa1e45, "<init>", "()V"⟩
def RJxc12de : String := "java/util/AbstractList"
def TJxc12de : u_T := fun k => match k with
  | _ => ("", "", "", false)
def tyJxc12de : Nat → FieldType := fun k => match k with
  | _ => .int
theorem nmJxc12de : ∀ a, a < 0 → ∀ b, b < 0 → a ≠ b → (TJxc12de a).2.1 ≠ (TJxc12de b).2.1 := by decide +kernel
theorem tyJxc12de_ok : ∀ k, k < 0 → parseFieldDescriptor (TJxc12de k).2.2.1 = some (tyJxc12de k) := by decide +kernel
abbrev cJxc12de_init_da8c8 : ByteArray := prog_26_method_1_code
def yJxc12de_init_da8c8 : MethodName := ⟨RJxc12de, "<init>", "()V"⟩
def RJx4a65c : String := "java/util/ArrayList"
def TJx4a65c : u_T := fun k => match k with
  | 0 => ("java/util/AbstractList", "modCount", "I", false)
  | 1 => ("java/util/ArrayList", "elementData", "[Ljava/lang/Object;", false)
  | _ => ("java/util/ArrayList", "size", "I", false)
def tyJx4a65c : Nat → FieldType := fun k => match k with
  | 0 => .int
  | 1 => .array (.object "java/lang/Object")
  | _ => .int
theorem nmJx4a65c : ∀ a, a < 3 → ∀ b, b < 3 → a ≠ b → (TJx4a65c a).2.1 ≠ (TJx4a65c b).2.1 := by decide +kernel
theorem tyJx4a65c_ok : ∀ k, k < 3 → parseFieldDescriptor (TJx4a65c k).2.2.1 = some (tyJx4a65c k) := by decide +kernel
abbrev cJx4a65c_init_da8c8 : ByteArray := prog_27_method_2_code
def yJx4a65c_init_da8c8 : MethodName := ⟨RJx4a65c, "<init>", "()V"⟩
abbrev cJx4a65c_grow_92f84 : ByteArray := prog_27_method_6_code
def yJx4a65c_grow_92f84 : MethodName := ⟨RJx4a65c, "grow", "(I)[Ljava/lang/Object;"⟩
abbrev cJx4a65c_grow_d5877 : ByteArray := prog_27_method_7_code
def yJx4a65c_grow_d5877 : MethodName := ⟨RJx4a65c, "grow", "()[Ljava/lang/Object;"⟩
abbrev cJx4a65c_size_8abf5 : ByteArray := prog_27_method_8_code
def yJx4a65c_size_8abf5 : MethodName := ⟨RJx4a65c, "size", "()I"⟩
abbrev cJx4a65c_elementData_915e3 : ByteArray := prog_27_method_18_code
def yJx4a65c_elementData_915e3 : MethodName := ⟨RJx4a65c, "elementData", "(I)Ljava/lang/Object;"⟩
abbrev cJx4a65c_get_915e3 : ByteArray := prog_27_method_20_code
def yJx4a65c_get_915e3 : MethodName := ⟨RJx4a65c, "get", "(I)Ljava/lang/Object;"⟩
abbrev cJx4a65c_add_72be8 : ByteArray := prog_27_method_24_code
def yJx4a65c_add_72be8 : MethodName := ⟨RJx4a65c, "add", "(Ljava/lang/Object;[Ljava/lang/Object;I)V"⟩
abbrev cJx4a65c_add_9ea2d : ByteArray := prog_27_method_25_code
def yJx4a65c_add_9ea2d : MethodName := ⟨RJx4a65c, "add", "(Ljava/lang/Object;)Z"⟩
def RJ7 : String := "java/util/Arrays"
def TJ7 : u_T := fun k => match k with
  | _ => ("", "", "", false)
def tyJ7 : Nat → FieldType := fun k => match k with
  | _ => .int
theorem nmJ7 : ∀ a, a < 0 → ∀ b, b < 0 → a ≠ b → (TJ7 a).2.1 ≠ (TJ7 b).2.1 := by decide +kernel
theorem tyJ7_ok : ∀ k, k < 0 → parseFieldDescriptor (TJ7 k).2.2.1 = some (tyJ7 k) := by decide +kernel
abbrev cJ7_copyOf_1904c : ByteArray := prog_28_method_119_code
def yJ7_copyOf_1904c : MethodName := ⟨RJ7, "copyOf", "([Ljava/lang/Object;I)[Ljava/lang/Object;"⟩
abbrev cJ7_copyOf_6403c : ByteArray := prog_28_method_120_code
def yJ7_copyOf_6403c : MethodName := ⟨RJ7, "copyOf", "([Ljava/lang/Object;ILjava/lang/Class;)[Ljava/lang/Object;"⟩
def RJx5ef63 : String := "java/util/Collection"
def TJx5ef63 : u_T := fun k => match k with
  | _ => ("", "", "", false)
def tyJx5ef63 : Nat → FieldType := fun k => match k with
  | _ => .int
theorem nmJx5ef63 : ∀ a, a < 0 → ∀ b, b < 0 → a ≠ b → (TJx5ef63 a).2.1 ≠ (TJx5ef63 b).2.1 := by decide +kernel
theorem tyJx5ef63_ok : ∀ k, k < 0 → parseFieldDescriptor (TJx5ef63 k).2.2.1 = some (tyJx5ef63 k) := by decide +kernel
def RJxbd725 : String := "java/util/List"
def TJxbd725 : u_T := fun k => match k with
  | _ => ("", "", "", false)
def tyJxbd725 : Nat → FieldType := fun k => match k with
  | _ => .int
theorem nmJxbd725 : ∀ a, a < 0 → ∀ b, b < 0 → a ≠ b → (TJxbd725 a).2.1 ≠ (TJxbd725 b).2.1 := by decide +kernel
theorem tyJxbd725_ok : ∀ k, k < 0 → parseFieldDescriptor (TJxbd725 k).2.2.1 = some (tyJxbd725 k) := by decide +kernel
def RJ15 : String := "java/util/Objects"
def TJ15 : u_T := fun k => match k with
  | _ => ("", "", "", false)
def tyJ15 : Nat → FieldType := fun k => match k with
  | _ => .int
theorem nmJ15 : ∀ a, a < 0 → ∀ b, b < 0 → a ≠ b → (TJ15 a).2.1 ≠ (TJ15 b).2.1 := by decide +kernel
theorem tyJ15_ok : ∀ k, k < 0 → parseFieldDescriptor (TJ15 k).2.2.1 = some (tyJ15 k) := by decide +kernel
abbrev cJ15_checkIndex_7cf53 : ByteArray := prog_31_method_17_code
def yJ15_checkIndex_7cf53 : MethodName := ⟨RJ15, "checkIndex", "(II)I"⟩
def RJxf0a74 : String := "java/util/RandomAccess"
def TJxf0a74 : u_T := fun k => match k with
  | _ => ("", "", "", false)
def tyJxf0a74 : Nat → FieldType := fun k => match k with
  | _ => .int
theorem nmJxf0a74 : ∀ a, a < 0 → ∀ b, b < 0 → a ≠ b → (TJxf0a74 a).2.1 ≠ (TJxf0a74 b).2.1 := by decide +kernel
theorem tyJxf0a74_ok : ∀ k, k < 0 → parseFieldDescriptor (TJxf0a74 k).2.2.1 = some (tyJxf0a74 k) := by decide +kernel
def RJxa66e6 : String := "java/util/SequencedCollection"
def TJxa66e6 : u_T := fun k => match k with
  | _ => ("", "", "", false)
def tyJxa66e6 : Nat → FieldType := fun k => match k with
  | _ => .int
theorem nmJxa66e6 : ∀ a, a < 0 → ∀ b, b < 0 → a ≠ b → (TJxa66e6 a).2.1 ≠ (TJxa66e6 b).2.1 := by decide +kernel
theorem tyJxa66e6_ok : ∀ k, k < 0 → parseFieldDescriptor (TJxa66e6 k).2.2.1 = some (tyJxa66e6 k) := by decide +kernel
def RJ8 : String := "jdk/internal/util/ArraysSupport"
def TJ8 : u_T := fun k => match k with
  | _ => ("", "", "", false)
def tyJ8 : Nat → FieldType := fun k => match k with
  | _ => .int
theorem nmJ8 : ∀ a, a < 0 → ∀ b, b < 0 → a ≠ b → (TJ8 a).2.1 ≠ (TJ8 b).2.1 := by decide +kernel
theorem tyJ8_ok : ∀ k, k < 0 → parseFieldDescriptor (TJ8 k).2.2.1 = some (tyJ8 k) := by decide +kernel
abbrev cJ8_newLength_cabcc : ByteArray := prog_34_method_27_code
def yJ8_newLength_cabcc : MethodName := ⟨RJ8, "newLength", "(III)I"⟩
abbrev cJ8_hugeLength_7cf53 : ByteArray := prog_34_method_28_code
def yJ8_hugeLength_7cf53 : MethodName := ⟨RJ8, "hugeLength", "(II)I"⟩
def RJ3 : String := "jdk/internal/util/Preconditions"
def TJ3 : u_T := fun k => match k with
  | _ => ("", "", "", false)
def tyJ3 : Nat → FieldType := fun k => match k with
  | _ => .int
theorem nmJ3 : ∀ a, a < 0 → ∀ b, b < 0 → a ≠ b → (TJ3 a).2.1 ≠ (TJ3 b).2.1 := by decide +kernel
theorem tyJ3_ok : ∀ k, k < 0 → parseFieldDescriptor (TJ3 k).2.2.1 = some (tyJ3 k) := by decide +kernel
abbrev cJ3_checkIndex_8e157 : ByteArray := prog_35_method_11_code
def yJ3_checkIndex_8e157 : MethodName := ⟨RJ3, "checkIndex", "(IILjava/util/function/BiFunction;)I"⟩
def RL : String := "BadgewoodLaw"
abbrev cL_cell : ByteArray := method_2_code
def yL_cell : MethodName := ⟨RL, "cell", "([II)I"⟩
abbrev cL_some : ByteArray := method_3_code
def yL_some : MethodName := ⟨RL, "some", "(II)I"⟩
abbrev cL_call : ByteArray := method_4_code
def yL_call : MethodName := ⟨RL, "call", "(LBadgewood;IIIII)I"⟩
abbrev cL_does : ByteArray := method_5_code
def yL_does : MethodName := ⟨RL, "does", "(LBadgewood;IIIII)I"⟩
abbrev cL_edition : ByteArray := method_6_code
def yL_edition : MethodName := ⟨RL, "edition", "(LBadgewood;IIIIIII)I"⟩
abbrev cL_event : ByteArray := method_7_code
def yL_event : MethodName := ⟨RL, "event", "(LBadgewood;IIIIII)I"⟩
abbrev cL_all : ByteArray := method_8_code
def yL_all : MethodName := ⟨RL, "all", "(LBadgewood;[I)J"⟩
abbrev cL_both : ByteArray := method_9_code
def yL_both : MethodName := ⟨RL, "both", "(LBadgewood;LBadgewood;IIIII)I"⟩
abbrev cL_children : ByteArray := method_10_code
def yL_children : MethodName := ⟨RL, "children", "(LBadgewood;LBadgewood;[III)Z"⟩
abbrev cL_badges : ByteArray := method_11_code
def yL_badges : MethodName := ⟨RL, "badges", "(LBadgewood;LBadgewood;[III)Z"⟩
abbrev cL_leaders : ByteArray := method_12_code
def yL_leaders : MethodName := ⟨RL, "leaders", "(LBadgewood;LBadgewood;[III)Z"⟩
abbrev cL_events : ByteArray := method_13_code
def yL_events : MethodName := ⟨RL, "events", "(LBadgewood;LBadgewood;[III)Z"⟩
abbrev cL_days : ByteArray := method_14_code
def yL_days : MethodName := ⟨RL, "days", "(LBadgewood;LBadgewood;[III)Z"⟩
abbrev cL_sound : ByteArray := method_15_code
def yL_sound : MethodName := ⟨RL, "sound", "(LBadgewood;[I)Z"⟩
abbrev cL_refused : ByteArray := method_16_code
def yL_refused : MethodName := ⟨RL, "refused", "(LBadgewood;[I)Z"⟩
abbrev cL_law : ByteArray := code
def yL_law : MethodName := ⟨RL, "law", "([I)Z"⟩
abbrev vwCl : List vw_C := [(RJx4a65c, TJx4a65c, 3), (RX0, TX0, 1), (RX1, TX1, 14), (RX2, TX2, 3), (RX3, TX3, 6), (RX4, TX4, 7), (RX5, TX5, 4), (RX6, TX6, 5), (RX7, TX7, 4), (RX8, TX8, 7)]
