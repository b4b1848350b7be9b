theorem at_of {L : List Cond} (h : L.all (fun w => decide (w ∈ lw_tbl) && (goodWord w || nwk w)) = true) : ∀ w ∈ L, w ∈ BW ∨ w ∈ NW := by
  intro w hw
  have h1 := List.all_eq_true.mp h w hw
  simp only [Bool.and_eq_true, Bool.or_eq_true, decide_eq_true_eq] at h1
  rcases h1.2 with h2 | h2
  · exact Or.inl (List.mem_filter.mpr ⟨h1.1, h2⟩)
  · exact Or.inr (List.mem_filter.mpr ⟨h1.1, h2⟩)
theorem z_swc {l : Launch} {v : Ev} {own : String} {cc : ByteArray} {nL : Nat} {ret : Option FieldType} {rm : Room} {nm : String} {z : Z9} {kc ks : Nat} {S : Hp} {pc : Nat} {lv : List (Nat × Value)} {st : List Value} (C : Cx l v own cc nL ret nm z) {dflt lo hi : Int} {offs : Array Int} {len : Nat} {x c : Int32} {off : Int} {P N : Prop} (hd : decode cc pc = .ok (.tableswitch dflt lo hi offs, len)) (h : if x = c then P else N) (h1 : ¬ c.toInt < lo) (h2 : ¬ hi < c.toInt) (ho : offs[(c.toInt - lo).toNat]? = some off) {tgt : Nat} (ht : (pc : Int) + off = (tgt : Int)) (kt : P → ZZ l v nL rm z kc ks S tgt lv st) (kf : ¬ x = c → N → ZZ l v nL rm z kc ks S pc lv (.int x :: st)) : ZZ l v nL rm z kc ks S pc lv (.int x :: st) := by
  by_cases e : x = c
  · rw [if_pos e] at h
    subst e
    exact z_tabIn C hd h1 h2 ho ht (kt h)
  · rw [if_neg e] at h
    exact kf e h
theorem kf0 : KF 0 RX0 TX0 1 := ⟨rfl, kwX0, by decide, rfl, nmX0, tyX0, tyX0_ok, fun k hk => by rcases (show k = 0 by omega) with rfl <;> simp [fr, tyX0]⟩
theorem kf1 : KF 1 RX1 TX1 14 := ⟨rfl, kwX1, by decide, rfl, nmX1, tyX1, tyX1_ok, fun k hk => by rcases (show k = 0 ∨ k = 1 ∨ k = 2 ∨ k = 3 ∨ k = 4 ∨ k = 5 ∨ k = 6 ∨ k = 7 ∨ k = 8 ∨ k = 9 ∨ k = 10 ∨ k = 11 ∨ k = 12 ∨ k = 13 by omega) with rfl | rfl | rfl | rfl | rfl | rfl | rfl | rfl | rfl | rfl | rfl | rfl | rfl | rfl <;> simp [fr, tyX1]⟩
theorem kf2 : KF 2 RX2 TX2 3 := ⟨rfl, kwX2, by decide, rfl, nmX2, tyX2, tyX2_ok, fun k hk => by rcases (show k = 0 ∨ k = 1 ∨ k = 2 by omega) with rfl | rfl | rfl <;> simp [fr, tyX2]⟩
theorem kf3 : KF 3 RX3 TX3 6 := ⟨rfl, kwX3, by decide, rfl, nmX3, tyX3, tyX3_ok, fun k hk => by rcases (show k = 0 ∨ k = 1 ∨ k = 2 ∨ k = 3 ∨ k = 4 ∨ k = 5 by omega) with rfl | rfl | rfl | rfl | rfl | rfl <;> simp [fr, tyX3]⟩
theorem kf4 : KF 4 RX4 TX4 7 := ⟨rfl, kwX4, by decide, rfl, nmX4, tyX4, tyX4_ok, fun k hk => by rcases (show k = 0 ∨ k = 1 ∨ k = 2 ∨ k = 3 ∨ k = 4 ∨ k = 5 ∨ k = 6 by omega) with rfl | rfl | rfl | rfl | rfl | rfl | rfl <;> simp [fr, tyX4]⟩
theorem kf5 : KF 5 RX5 TX5 4 := ⟨rfl, kwX5, by decide, rfl, nmX5, tyX5, tyX5_ok, fun k hk => by rcases (show k = 0 ∨ k = 1 ∨ k = 2 ∨ k = 3 by omega) with rfl | rfl | rfl | rfl <;> simp [fr, tyX5]⟩
theorem kf6 : KF 6 RX6 TX6 5 := ⟨rfl, kwX6, by decide, rfl, nmX6, tyX6, tyX6_ok, fun k hk => by rcases (show k = 0 ∨ k = 1 ∨ k = 2 ∨ k = 3 ∨ k = 4 by omega) with rfl | rfl | rfl | rfl | rfl <;> simp [fr, tyX6]⟩
theorem kf7 : KF 7 RX7 TX7 4 := ⟨rfl, kwX7, by decide, rfl, nmX7, tyX7, tyX7_ok, fun k hk => by rcases (show k = 0 ∨ k = 1 ∨ k = 2 ∨ k = 3 by omega) with rfl | rfl | rfl | rfl <;> simp [fr, tyX7]⟩
theorem kf8 : KF 8 RX8 TX8 7 := ⟨rfl, kwX8, by decide, rfl, nmX8, tyX8, tyX8_ok, fun k hk => by rcases (show k = 0 ∨ k = 1 ∨ k = 2 ∨ k = 3 ∨ k = 4 ∨ k = 5 ∨ k = 6 by omega) with rfl | rfl | rfl | rfl | rfl | rfl | rfl <;> simp [fr, tyX8]⟩
theorem kf10 : KF 10 RJx4a65c TJx4a65c 3 := ⟨rfl, kwJx4a65c, by decide, rfl, nmJx4a65c, tyJx4a65c, tyJx4a65c_ok, fun k hk => by rcases (show k = 0 ∨ k = 1 ∨ k = 2 by omega) with rfl | rfl | rfl <;> simp [fr, tyJx4a65c]⟩
theorem mw_Jxa1e45_init_da8c8 : MW yJxa1e45_init_da8c8 cJxa1e45_init_da8c8 1 none 0 := ⟨bw_2, bw_44, ⟨by decide +kernel, by decide +kernel⟩, by decide +kernel⟩
theorem mw_Jxc12de_init_da8c8 : MW yJxc12de_init_da8c8 cJxc12de_init_da8c8 1 none 0 := ⟨bw_3, bw_41, ⟨by decide +kernel, by decide +kernel⟩, by decide +kernel⟩
theorem mw_Jx4a65c_init_da8c8 : MW yJx4a65c_init_da8c8 cJx4a65c_init_da8c8 1 none 0 := ⟨bw_4, bw_38, ⟨by decide +kernel, by decide +kernel⟩, by decide +kernel⟩
theorem mw_X0_init : MW yX0_init cX0_init 1 none 0 := ⟨bw_5, bw_65, ⟨by decide +kernel, by decide +kernel⟩, by decide +kernel⟩
theorem mw_X8_init : MW yX8_init cX8_init 2 none 0 := ⟨bw_1, bw_30, ⟨by decide +kernel, by decide +kernel⟩, by decide +kernel⟩
theorem mw_X8_requireRange : MW yX8_requireRange cX8_requireRange 3 none 3 := ⟨bw_1, bw_283, ⟨by decide +kernel, by decide +kernel⟩, by decide +kernel⟩
theorem mw_Jx4a65c_size_8abf5 : MW yJx4a65c_size_8abf5 cJx4a65c_size_8abf5 1 (some .int) 0 := ⟨bw_4, bw_124, ⟨by decide +kernel, by decide +kernel⟩, by decide +kernel⟩
theorem mw_X8_requireRoom : MW yX8_requireRoom cX8_requireRoom 2 none 2 := ⟨bw_1, bw_382, ⟨by decide +kernel, by decide +kernel⟩, by decide +kernel⟩
theorem mw_X7_init : MW yX7_init cX7_init 5 none 4 := ⟨bw_11, bw_402, ⟨by decide +kernel, by decide +kernel⟩, by decide +kernel⟩
theorem mw_J9_max_7cf53 : MW yJ9_max_7cf53 cJ9_max_7cf53 2 (some .int) 2 := ⟨bw_13, bw_440, ⟨by decide +kernel, by decide +kernel⟩, by decide +kernel⟩
theorem mw_J8_newLength_cabcc : MW yJ8_newLength_cabcc cJ8_newLength_cabcc 4 (some .int) 3 := ⟨bw_12, bw_437, ⟨by decide +kernel, by decide +kernel⟩, by decide +kernel⟩
theorem mw_J9_min_7cf53 : MW yJ9_min_7cf53 cJ9_min_7cf53 2 (some .int) 2 := ⟨bw_13, bw_473, ⟨by decide +kernel, by decide +kernel⟩, by decide +kernel⟩
theorem mw_J7_copyOf_6403c : MW yJ7_copyOf_6403c cJ7_copyOf_6403c 4 (some (.array (.object "java/lang/Object"))) 3 := ⟨bw_14, bw_467, ⟨by decide +kernel, by decide +kernel⟩, by decide +kernel⟩
theorem mw_J7_copyOf_1904c : MW yJ7_copyOf_1904c cJ7_copyOf_1904c 2 (some (.array (.object "java/lang/Object"))) 2 := ⟨bw_14, bw_447, ⟨by decide +kernel, by decide +kernel⟩, by decide +kernel⟩
theorem mw_Jx4a65c_grow_92f84 : MW yJx4a65c_grow_92f84 cJx4a65c_grow_92f84 4 (some (.array (.object "java/lang/Object"))) 1 := ⟨bw_4, bw_434, ⟨by decide +kernel, by decide +kernel⟩, by decide +kernel⟩
theorem mw_Jx4a65c_grow_d5877 : MW yJx4a65c_grow_d5877 cJx4a65c_grow_d5877 1 (some (.array (.object "java/lang/Object"))) 0 := ⟨bw_4, bw_430, ⟨by decide +kernel, by decide +kernel⟩, by decide +kernel⟩
theorem mw_Jx4a65c_add_72be8 : MW yJx4a65c_add_72be8 cJx4a65c_add_72be8 4 none 3 := ⟨bw_4, bw_426, ⟨by decide +kernel, by decide +kernel⟩, by decide +kernel⟩
theorem mw_Jx4a65c_add_9ea2d : MW yJx4a65c_add_9ea2d cJx4a65c_add_9ea2d 2 (some .boolean) 1 := ⟨bw_4, bw_422, ⟨by decide +kernel, by decide +kernel⟩, by decide +kernel⟩
theorem mw_X8_troop : MW yX8_troop cX8_troop 5 (some .int) 3 := ⟨bw_1, bw_379, ⟨by decide +kernel, by decide +kernel⟩, by decide +kernel⟩
theorem mw_X1_init : MW yX1_init cX1_init 3 none 2 := ⟨bw_16, bw_486, ⟨by decide +kernel, by decide +kernel⟩, by decide +kernel⟩
theorem mw_X8_child : MW yX8_child cX8_child 3 (some .int) 1 := ⟨bw_1, bw_482, ⟨by decide +kernel, by decide +kernel⟩, by decide +kernel⟩
theorem mw_X8_requireIndex : MW yX8_requireIndex cX8_requireIndex 2 none 2 := ⟨bw_1, bw_127, ⟨by decide +kernel, by decide +kernel⟩, by decide +kernel⟩
theorem mw_J3_checkIndex_8e157 : MW yJ3_checkIndex_8e157 cJ3_checkIndex_8e157 3 (some .int) 3 := ⟨bw_19, bw_205, ⟨by decide +kernel, by decide +kernel⟩, by decide +kernel⟩
theorem mw_J15_checkIndex_7cf53 : MW yJ15_checkIndex_7cf53 cJ15_checkIndex_7cf53 2 (some .int) 2 := ⟨bw_18, bw_202, ⟨by decide +kernel, by decide +kernel⟩, by decide +kernel⟩
theorem mw_Jx4a65c_elementData_915e3 : MW yJx4a65c_elementData_915e3 cJx4a65c_elementData_915e3 2 (some (.object "java/lang/Object")) 1 := ⟨bw_4, bw_209, ⟨by decide +kernel, by decide +kernel⟩, by decide +kernel⟩
theorem mw_Jx4a65c_get_915e3 : MW yJx4a65c_get_915e3 cJx4a65c_get_915e3 2 (some (.object "java/lang/Object")) 1 := ⟨bw_4, bw_199, ⟨by decide +kernel, by decide +kernel⟩, by decide +kernel⟩
theorem mw_X8_childAt : MW yX8_childAt cX8_childAt 2 (some (.object "Badgewood$Child")) 1 := ⟨bw_1, bw_120, ⟨by decide +kernel, by decide +kernel⟩, by decide +kernel⟩
theorem mw_X8_troopAt : MW yX8_troopAt cX8_troopAt 2 (some (.object "Badgewood$Troop")) 1 := ⟨bw_1, bw_263, ⟨by decide +kernel, by decide +kernel⟩, by decide +kernel⟩
theorem mw_X7_isFor : MW yX7_isFor cX7_isFor 2 (some .boolean) 1 := ⟨bw_11, bw_549, ⟨by decide +kernel, by decide +kernel⟩, by decide +kernel⟩
theorem mw_X8_childrenIn : MW yX8_childrenIn cX8_childrenIn 4 (some .int) 1 := ⟨bw_1, bw_272, ⟨by decide +kernel, by decide +kernel⟩, by decide +kernel⟩
theorem mw_X8_childrenInPatrol : MW yX8_childrenInPatrol cX8_childrenInPatrol 6 (some .int) 2 := ⟨bw_1, bw_292, ⟨by decide +kernel, by decide +kernel⟩, by decide +kernel⟩
theorem mw_X8_smallestPatrol : MW yX8_smallestPatrol cX8_smallestPatrol 6 (some .int) 1 := ⟨bw_1, bw_562, ⟨by decide +kernel, by decide +kernel⟩, by decide +kernel⟩
theorem mw_X8_comeIn : MW yX8_comeIn cX8_comeIn 3 none 2 := ⟨bw_1, bw_558, ⟨by decide +kernel, by decide +kernel⟩, by decide +kernel⟩
theorem mw_X8_waitingFor : MW yX8_waitingFor cX8_waitingFor 4 (some .int) 1 := ⟨bw_1, bw_268, ⟨by decide +kernel, by decide +kernel⟩, by decide +kernel⟩
theorem mw_X8_comeInOrWait : MW yX8_comeInOrWait cX8_comeInOrWait 3 (some .int) 2 := ⟨bw_1, bw_554, ⟨by decide +kernel, by decide +kernel⟩, by decide +kernel⟩
theorem mw_X8_join : MW yX8_join cX8_join 5 (some .int) 2 := ⟨bw_1, bw_544, ⟨by decide +kernel, by decide +kernel⟩, by decide +kernel⟩
theorem mw_X1_goOut : MW yX1_goOut cX1_goOut 1 none 0 := ⟨bw_16, bw_571, ⟨by decide +kernel, by decide +kernel⟩, by decide +kernel⟩
theorem mw_X8_firstWaiting : MW yX8_firstWaiting cX8_firstWaiting 5 (some (.object "Badgewood$Child")) 1 := ⟨bw_1, bw_579, ⟨by decide +kernel, by decide +kernel⟩, by decide +kernel⟩
theorem mw_X8_letFirstIn : MW yX8_letFirstIn cX8_letFirstIn 3 (some .int) 1 := ⟨bw_1, bw_575, ⟨by decide +kernel, by decide +kernel⟩, by decide +kernel⟩
theorem mw_X8_leave : MW yX8_leave cX8_leave 4 (some .int) 1 := ⟨bw_1, bw_566, ⟨by decide +kernel, by decide +kernel⟩, by decide +kernel⟩
theorem mw_X8_patrol : MW yX8_patrol cX8_patrol 5 (some .int) 2 := ⟨bw_1, bw_583, ⟨by decide +kernel, by decide +kernel⟩, by decide +kernel⟩
theorem mw_X8_filledPatrols : MW yX8_filledPatrols cX8_filledPatrols 4 (some .int) 1 := ⟨bw_1, bw_288, ⟨by decide +kernel, by decide +kernel⟩, by decide +kernel⟩
theorem mw_X8_filledPatrolAt : MW yX8_filledPatrolAt cX8_filledPatrolAt 5 (some .int) 2 := ⟨bw_1, bw_296, ⟨by decide +kernel, by decide +kernel⟩, by decide +kernel⟩
theorem mw_X8_duty : MW yX8_duty cX8_duty 5 (some .int) 2 := ⟨bw_1, bw_280, ⟨by decide +kernel, by decide +kernel⟩, by decide +kernel⟩
theorem mw_X8_pass : MW yX8_pass cX8_pass 2 (some .int) 1 := ⟨bw_1, bw_588, ⟨by decide +kernel, by decide +kernel⟩, by decide +kernel⟩
theorem mw_X8_sendOutOf : MW yX8_sendOutOf cX8_sendOutOf 5 (some .int) 1 := ⟨bw_1, bw_601, ⟨by decide +kernel, by decide +kernel⟩, by decide +kernel⟩
theorem mw_X8_sendOutByAge : MW yX8_sendOutByAge cX8_sendOutByAge 3 (some .int) 0 := ⟨bw_1, bw_597, ⟨by decide +kernel, by decide +kernel⟩, by decide +kernel⟩
theorem mw_X8_fillUp : MW yX8_fillUp cX8_fillUp 4 none 1 := ⟨bw_1, bw_605, ⟨by decide +kernel, by decide +kernel⟩, by decide +kernel⟩
theorem mw_X8_hasBit : MW yX8_hasBit cX8_hasBit 2 (some .boolean) 2 := ⟨bw_1, bw_608, ⟨by decide +kernel, by decide +kernel⟩, by decide +kernel⟩
theorem mw_X8_moveUp : MW yX8_moveUp cX8_moveUp 3 none 1 := ⟨bw_1, bw_612, ⟨by decide +kernel, by decide +kernel⟩, by decide +kernel⟩
theorem mw_J6_bitCount_0f7a4 : MW yJ6_bitCount_0f7a4 cJ6_bitCount_0f7a4 1 (some .int) 1 := ⟨bw_20, bw_360, ⟨by decide +kernel, by decide +kernel⟩, by decide +kernel⟩
theorem mw_X8_season : MW yX8_season cX8_season 3 (some .int) 0 := ⟨bw_1, bw_593, ⟨by decide +kernel, by decide +kernel⟩, by decide +kernel⟩
theorem mw_X5_init : MW yX5_init cX5_init 1 none 0 := ⟨bw_21, bw_621, ⟨by decide +kernel, by decide +kernel⟩, by decide +kernel⟩
theorem mw_X8_leader : MW yX8_leader cX8_leader 1 (some .int) 0 := ⟨bw_1, bw_617, ⟨by decide +kernel, by decide +kernel⟩, by decide +kernel⟩
theorem mw_X8_leaderAt : MW yX8_leaderAt cX8_leaderAt 2 (some (.object "Badgewood$Leader")) 1 := ⟨bw_1, bw_643, ⟨by decide +kernel, by decide +kernel⟩, by decide +kernel⟩
theorem mw_X5_setVetted : MW yX5_setVetted cX5_setVetted 4 none 3 := ⟨bw_21, bw_647, ⟨by decide +kernel, by decide +kernel⟩, by decide +kernel⟩
theorem mw_X8_vet : MW yX8_vet cX8_vet 6 none 4 := ⟨bw_1, bw_639, ⟨by decide +kernel, by decide +kernel⟩, by decide +kernel⟩
theorem mw_X5_permitOf : MW yX5_permitOf cX5_permitOf 2 (some .int) 1 := ⟨bw_21, bw_323, ⟨by decide +kernel, by decide +kernel⟩, by decide +kernel⟩
theorem mw_X5_setPermit : MW yX5_setPermit cX5_setPermit 3 none 2 := ⟨bw_21, bw_656, ⟨by decide +kernel, by decide +kernel⟩, by decide +kernel⟩
theorem mw_X8_permit : MW yX8_permit cX8_permit 6 (some .int) 3 := ⟨bw_1, bw_651, ⟨by decide +kernel, by decide +kernel⟩, by decide +kernel⟩
theorem mw_X8_teach : MW yX8_teach cX8_teach 5 (some .int) 2 := ⟨bw_1, bw_660, ⟨by decide +kernel, by decide +kernel⟩, by decide +kernel⟩
theorem mw_X8_badgeAt : MW yX8_badgeAt cX8_badgeAt 2 (some (.object "Badgewood$Badge")) 1 := ⟨bw_1, bw_669, ⟨by decide +kernel, by decide +kernel⟩, by decide +kernel⟩
theorem mw_X3_init : MW yX3_init cX3_init 7 none 6 := ⟨bw_24, bw_797, ⟨by decide +kernel, by decide +kernel⟩, by decide +kernel⟩
theorem mw_X8_edition : MW yX8_edition cX8_edition 9 (some .int) 7 := ⟨bw_1, bw_792, ⟨by decide +kernel, by decide +kernel⟩, by decide +kernel⟩
theorem mw_X1_courseOf : MW yX1_courseOf cX1_courseOf 2 (some (.object "Badgewood$Course")) 1 := ⟨bw_16, bw_222, ⟨by decide +kernel, by decide +kernel⟩, by decide +kernel⟩
theorem mw_X2_init : MW yX2_init cX2_init 3 none 2 := ⟨bw_22, bw_677, ⟨by decide +kernel, by decide +kernel⟩, by decide +kernel⟩
theorem mw_X1_dayEarned : MW yX1_dayEarned cX1_dayEarned 3 (some .int) 1 := ⟨bw_16, bw_218, ⟨by decide +kernel, by decide +kernel⟩, by decide +kernel⟩
theorem mw_X1_dayAfterBefore : MW yX1_dayAfterBefore cX1_dayAfterBefore 3 (some .int) 1 := ⟨bw_16, bw_705, ⟨by decide +kernel, by decide +kernel⟩, by decide +kernel⟩
theorem mw_X1_dayProven : MW yX1_dayProven cX1_dayProven 7 (some .int) 1 := ⟨bw_16, bw_710, ⟨by decide +kernel, by decide +kernel⟩, by decide +kernel⟩
theorem mw_X1_reckonBadges : MW yX1_reckonBadges cX1_reckonBadges 4 none 0 := ⟨bw_16, bw_701, ⟨by decide +kernel, by decide +kernel⟩, by decide +kernel⟩
theorem mw_X1_take : MW yX1_take cX1_take 3 none 2 := ⟨bw_16, bw_697, ⟨by decide +kernel, by decide +kernel⟩, by decide +kernel⟩
theorem mw_X8_begin : MW yX8_begin cX8_begin 6 (some .int) 2 := ⟨bw_1, bw_665, ⟨by decide +kernel, by decide +kernel⟩, by decide +kernel⟩
theorem mw_X5_isVetted : MW yX5_isVetted cX5_isVetted 3 (some .boolean) 2 := ⟨bw_21, bw_315, ⟨by decide +kernel, by decide +kernel⟩, by decide +kernel⟩
theorem mw_X5_isVettedSomewhere : MW yX5_isVettedSomewhere cX5_isVettedSomewhere 3 (some .boolean) 1 := ⟨bw_21, bw_718, ⟨by decide +kernel, by decide +kernel⟩, by decide +kernel⟩
theorem mw_X1_addProof : MW yX1_addProof cX1_addProof 3 none 2 := ⟨bw_16, bw_726, ⟨by decide +kernel, by decide +kernel⟩, by decide +kernel⟩
theorem mw_X1_badgesBy : MW yX1_badgesBy cX1_badgesBy 4 (some .int) 1 := ⟨bw_16, bw_214, ⟨by decide +kernel, by decide +kernel⟩, by decide +kernel⟩
theorem mw_X8_prove : MW yX8_prove cX8_prove 6 (some .int) 3 := ⟨bw_1, bw_714, ⟨by decide +kernel, by decide +kernel⟩, by decide +kernel⟩
theorem mw_X4_init : MW yX4_init cX4_init 7 none 6 := ⟨bw_25, bw_842, ⟨by decide +kernel, by decide +kernel⟩, by decide +kernel⟩
theorem mw_X8_event : MW yX8_event cX8_event 8 (some .int) 6 := ⟨bw_1, bw_838, ⟨by decide +kernel, by decide +kernel⟩, by decide +kernel⟩
theorem mw_X8_eventAt : MW yX8_eventAt cX8_eventAt 2 (some (.object "Badgewood$Event")) 1 := ⟨bw_1, bw_305, ⟨by decide +kernel, by decide +kernel⟩, by decide +kernel⟩
theorem mw_X4_meets : MW yX4_meets cX4_meets 2 (some .boolean) 1 := ⟨bw_25, bw_738, ⟨by decide +kernel, by decide +kernel⟩, by decide +kernel⟩
theorem mw_X8_isElsewhere : MW yX8_isElsewhere cX8_isElsewhere 5 (some .boolean) 2 := ⟨bw_1, bw_734, ⟨by decide +kernel, by decide +kernel⟩, by decide +kernel⟩
theorem mw_X8_staff : MW yX8_staff cX8_staff 6 (some .int) 3 := ⟨bw_1, bw_730, ⟨by decide +kernel, by decide +kernel⟩, by decide +kernel⟩
theorem mw_X5_mayLead : MW yX5_mayLead cX5_mayLead 3 (some .boolean) 2 := ⟨bw_21, bw_319, ⟨by decide +kernel, by decide +kernel⟩, by decide +kernel⟩
theorem mw_X8_childrenPerLeader : MW yX8_childrenPerLeader cX8_childrenPerLeader 1 (some .int) 1 := ⟨bw_1, bw_328, ⟨by decide +kernel, by decide +kernel⟩, by decide +kernel⟩
theorem mw_X6_leastLeaders : MW yX6_leastLeaders cX6_leastLeaders 3 (some .int) 2 := ⟨bw_23, bw_335, ⟨by decide +kernel, by decide +kernel⟩, by decide +kernel⟩
theorem mw_X6_init : MW yX6_init cX6_init 5 none 4 := ⟨bw_23, bw_331, ⟨by decide +kernel, by decide +kernel⟩, by decide +kernel⟩
theorem mw_X8_needOf : MW yX8_needOf cX8_needOf 5 (some (.object "Badgewood$Need")) 1 := ⟨bw_1, bw_310, ⟨by decide +kernel, by decide +kernel⟩, by decide +kernel⟩
theorem mw_X6_verdict : MW yX6_verdict cX6_verdict 3 (some .int) 1 := ⟨bw_23, bw_357, ⟨by decide +kernel, by decide +kernel⟩, by decide +kernel⟩
theorem mw_X8_why : MW yX8_why cX8_why 3 (some .int) 1 := ⟨bw_1, bw_301, ⟨by decide +kernel, by decide +kernel⟩, by decide +kernel⟩
theorem mw_X4_goesOn : MW yX4_goesOn cX4_goesOn 3 (some .boolean) 2 := ⟨bw_25, bw_751, ⟨by decide +kernel, by decide +kernel⟩, by decide +kernel⟩
theorem mw_X8_eventsIn : MW yX8_eventsIn cX8_eventsIn 5 (some .int) 2 := ⟨bw_1, bw_747, ⟨by decide +kernel, by decide +kernel⟩, by decide +kernel⟩
theorem mw_X8_needsIn : MW yX8_needsIn cX8_needsIn 5 (some (.object "java/util/ArrayList")) 2 := ⟨bw_1, bw_756, ⟨by decide +kernel, by decide +kernel⟩, by decide +kernel⟩
theorem mw_X8_canShare : MW yX8_canShare cX8_canShare 8 (some .boolean) 3 := ⟨bw_1, bw_759, ⟨by decide +kernel, by decide +kernel⟩, by decide +kernel⟩
theorem mw_X8_couldStaff : MW yX8_couldStaff cX8_couldStaff 4 (some .boolean) 3 := ⟨bw_1, bw_743, ⟨by decide +kernel, by decide +kernel⟩, by decide +kernel⟩
theorem mw_X8_boxes : MW yX8_boxes cX8_boxes 4 (some .int) 2 := ⟨bw_1, bw_763, ⟨by decide +kernel, by decide +kernel⟩, by decide +kernel⟩
theorem mw_X8_pay : MW yX8_pay cX8_pay 4 (some .int) 2 := ⟨bw_1, bw_769, ⟨by decide +kernel, by decide +kernel⟩, by decide +kernel⟩
theorem mw_X8_owed : MW yX8_owed cX8_owed 5 (some .int) 1 := ⟨bw_1, bw_276, ⟨by decide +kernel, by decide +kernel⟩, by decide +kernel⟩
theorem mw_X8_today : MW yX8_today cX8_today 1 (some .int) 0 := ⟨bw_1, bw_111, ⟨by decide +kernel, by decide +kernel⟩, by decide +kernel⟩
theorem mw_X8_ofChild : MW yX8_ofChild cX8_ofChild 4 (some .int) 2 := ⟨bw_1, bw_116, ⟨by decide +kernel, by decide +kernel⟩, by decide +kernel⟩
theorem mw_X8_ofTroop : MW yX8_ofTroop cX8_ofTroop 4 (some .int) 2 := ⟨bw_1, bw_259, ⟨by decide +kernel, by decide +kernel⟩, by decide +kernel⟩
theorem mw_X8_earned : MW yX8_earned cX8_earned 5 (some .int) 2 := ⟨bw_1, bw_243, ⟨by decide +kernel, by decide +kernel⟩, by decide +kernel⟩
theorem mw_X2_isHeldOn : MW yX2_isHeldOn cX2_isHeldOn 2 (some .boolean) 1 := ⟨bw_22, bw_253, ⟨by decide +kernel, by decide +kernel⟩, by decide +kernel⟩
theorem mw_X8_holds : MW yX8_holds cX8_holds 5 (some .boolean) 2 := ⟨bw_1, bw_248, ⟨by decide +kernel, by decide +kernel⟩, by decide +kernel⟩
theorem mw_X8_lacks : MW yX8_lacks cX8_lacks 5 (some .int) 2 := ⟨bw_1, bw_774, ⟨by decide +kernel, by decide +kernel⟩, by decide +kernel⟩
theorem bw_oi : Cond.instanceMethod Lib.objectInit ∈ BW := bw_32
theorem bw_oc : Cond.code Lib.objectInit ⟨#[0xb1]⟩ 1 none ∈ BW := bw_33
theorem ft_IllegalArgumentException : Bundle.fit "java/lang/IllegalArgumentException" = true ∧ ∀ n ∈ ["java/lang/RuntimeException", "java/lang/Exception"], Bundle.fit n = true := by decide +kernel
theorem ft_IllegalStateException : Bundle.fit "java/lang/IllegalStateException" = true ∧ ∀ n ∈ ["java/lang/RuntimeException", "java/lang/Exception"], Bundle.fit n = true := by decide +kernel
theorem ft_IndexOutOfBoundsException : Bundle.fit "java/lang/IndexOutOfBoundsException" = true ∧ ∀ n ∈ ["java/lang/RuntimeException", "java/lang/Exception"], Bundle.fit n = true := by decide +kernel
theorem st_X8_80 : (RX8, 80, "the child is in a troop or waits for one") ∈ STRS := by decide +kernel
theorem st_X8_92 : (RX8, 92, "the troop is not for the age of the child") ∈ STRS := by decide +kernel
theorem st_X8_98 : (RX8, 98, "the child is in no troop and waits for none") ∈ STRS := by decide +kernel
theorem st_X8_107 : (RX8, 107, "the child is in no troop") ∈ STRS := by decide +kernel
theorem st_X8_122 : (RX8, 122, "there are no days left") ∈ STRS := by decide +kernel
theorem st_X8_177 : (RX8, 177, "both sets have a skill in common") ∈ STRS := by decide +kernel
theorem st_X8_188 : (RX8, 188, "the badge has no edition") ∈ STRS := by decide +kernel
theorem st_X8_194 : (RX8, 194, "the badge was begun") ∈ STRS := by decide +kernel
theorem st_X8_208 : (RX8, 208, "the leader is vetted for no land today") ∈ STRS := by decide +kernel
theorem st_X8_210 : (RX8, 210, "the leader does not teach the skill") ∈ STRS := by decide +kernel
theorem st_X8_215 : (RX8, 215, "the skill was proven") ∈ STRS := by decide +kernel
theorem st_X8_234 : (RX8, 234, "the leader is at another event then") ∈ STRS := by decide +kernel
theorem st_X8_250 : (RX8, 250, "too many events go on") ∈ STRS := by decide +kernel
theorem st_X8_266 : (RX8, 266, "the child owes to another troop") ∈ STRS := by decide +kernel
theorem st_X8_271 : (RX8, 271, "the child would have taken too many boxes") ∈ STRS := by decide +kernel
theorem st_X8_273 : (RX8, 273, "the child owes fewer coins") ∈ STRS := by decide +kernel
theorem st_X8_275 : (RX8, 275, "there is no such thing to tell of a child") ∈ STRS := by decide +kernel
theorem st_X8_289 : (RX8, 289, "the badge was not begun") ∈ STRS := by decide +kernel
theorem st_X8_300 : (RX8, 300, "there is none of this number") ∈ STRS := by decide +kernel
theorem st_X8_303 : (RX8, 303, "an argument is out of its range") ∈ STRS := by decide +kernel
theorem st_X8_305 : (RX8, 305, "there are as many as there may be") ∈ STRS := by decide +kernel
theorem at_X8_82 : ∀ w ∈ vx_atS RX8 82 "java/lang/IllegalStateException" ["java/lang/RuntimeException", "java/lang/Exception"], w ∈ BW ∨ w ∈ NW := at_of (by decide +kernel)
theorem go_X8_82 : ∀ w ∈ vx_atS RX8 82 "java/lang/IllegalStateException" ["java/lang/RuntimeException", "java/lang/Exception"], vx_ot w = true := List.all_eq_true.mp (by decide +kernel)
theorem at_X8_179 : ∀ w ∈ vx_atS RX8 179 "java/lang/IllegalArgumentException" ["java/lang/RuntimeException", "java/lang/Exception"], w ∈ BW ∨ w ∈ NW := at_of (by decide +kernel)
theorem go_X8_179 : ∀ w ∈ vx_atS RX8 179 "java/lang/IllegalArgumentException" ["java/lang/RuntimeException", "java/lang/Exception"], vx_ot w = true := List.all_eq_true.mp (by decide +kernel)
theorem at_X8_302 : ∀ w ∈ vx_atS RX8 302 "java/lang/IndexOutOfBoundsException" ["java/lang/RuntimeException", "java/lang/Exception"], w ∈ BW ∨ w ∈ NW := at_of (by decide +kernel)
theorem go_X8_302 : ∀ w ∈ vx_atS RX8 302 "java/lang/IndexOutOfBoundsException" ["java/lang/RuntimeException", "java/lang/Exception"], vx_ot w = true := List.all_eq_true.mp (by decide +kernel)
theorem kbp_6 : (Int8.ofInt (6)).toInt32 = (6 : Int32) := by decide
theorem kbp_8 : (Int8.ofInt (8)).toInt32 = (8 : Int32) := by decide
theorem kbp_10 : (Int8.ofInt (10)).toInt32 = (10 : Int32) := by decide
theorem kbp_12 : (Int8.ofInt (12)).toInt32 = (12 : Int32) := by decide
theorem kbp_16 : (Int8.ofInt (16)).toInt32 = (16 : Int32) := by decide
theorem kbp_17 : (Int8.ofInt (17)).toInt32 = (17 : Int32) := by decide
theorem kbp_20 : (Int8.ofInt (20)).toInt32 = (20 : Int32) := by decide
theorem kbp_23 : (Int8.ofInt (23)).toInt32 = (23 : Int32) := by decide
theorem kbp_24 : (Int8.ofInt (24)).toInt32 = (24 : Int32) := by decide
theorem kbp_63 : (Int8.ofInt (63)).toInt32 = (63 : Int32) := by decide
theorem kbp_99 : (Int8.ofInt (99)).toInt32 = (99 : Int32) := by decide
theorem kic_m1 : Int32.ofInt (-1) = (-1 : Int32) := by decide
theorem kic_0 : Int32.ofInt (0) = (0 : Int32) := by decide
theorem kic_1 : Int32.ofInt (1) = (1 : Int32) := by decide
theorem kic_2 : Int32.ofInt (2) = (2 : Int32) := by decide
theorem kic_3 : Int32.ofInt (3) = (3 : Int32) := by decide
theorem kic_4 : Int32.ofInt (4) = (4 : Int32) := by decide
theorem kic_5 : Int32.ofInt (5) = (5 : Int32) := by decide
theorem ksp_396 : (Int16.ofInt (396)).toInt32 = (396 : Int32) := by decide
theorem ksp_400 : (Int16.ofInt (400)).toInt32 = (400 : Int32) := by decide
theorem ksp_4000 : (Int16.ofInt (4000)).toInt32 = (4000 : Int32) := by decide
theorem ksp_9999 : (Int16.ofInt (9999)).toInt32 = (9999 : Int32) := by decide
