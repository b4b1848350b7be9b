theorem dX0_init_0 : decode cX0_init 0 = .ok (.aload_n 0, 1) := by decide +kernel
theorem dX0_init_1 : decode cX0_init 1 = .ok (.invokespecial 1, 3) := by decide +kernel
theorem dX0_init_4 : decode cX0_init 4 = .ok (.aload_n 0, 1) := by decide +kernel
theorem dX0_init_5 : decode cX0_init 5 = .ok (.new 7, 3) := by decide +kernel
theorem dX0_init_8 : decode cX0_init 8 = .ok (.dup, 1) := by decide +kernel
theorem dX0_init_9 : decode cX0_init 9 = .ok (.invokespecial 9, 3) := by decide +kernel
theorem dX0_init_12 : decode cX0_init 12 = .ok (.putfield 10, 3) := by decide +kernel
theorem dX0_init_15 : decode cX0_init 15 = .ok (.return_, 1) := by decide +kernel
theorem dX1_init_0 : decode cX1_init 0 = .ok (.aload_n 0, 1) := by decide +kernel
theorem dX1_init_1 : decode cX1_init 1 = .ok (.invokespecial 3, 3) := by decide +kernel
theorem dX1_init_4 : decode cX1_init 4 = .ok (.aload_n 0, 1) := by decide +kernel
theorem dX1_init_5 : decode cX1_init 5 = .ok (.iconst (-1), 1) := by decide +kernel
theorem dX1_init_6 : decode cX1_init 6 = .ok (.putfield 9, 3) := by decide +kernel
theorem dX1_init_9 : decode cX1_init 9 = .ok (.aload_n 0, 1) := by decide +kernel
theorem dX1_init_10 : decode cX1_init 10 = .ok (.iconst (-1), 1) := by decide +kernel
theorem dX1_init_11 : decode cX1_init 11 = .ok (.putfield 15, 3) := by decide +kernel
theorem dX1_init_14 : decode cX1_init 14 = .ok (.aload_n 0, 1) := by decide +kernel
theorem dX1_init_15 : decode cX1_init 15 = .ok (.iconst (-1), 1) := by decide +kernel
theorem dX1_init_16 : decode cX1_init 16 = .ok (.putfield 18, 3) := by decide +kernel
theorem dX1_init_19 : decode cX1_init 19 = .ok (.aload_n 0, 1) := by decide +kernel
theorem dX1_init_20 : decode cX1_init 20 = .ok (.iconst (-1), 1) := by decide +kernel
theorem dX1_init_21 : decode cX1_init 21 = .ok (.putfield 21, 3) := by decide +kernel
theorem dX1_init_24 : decode cX1_init 24 = .ok (.aload_n 0, 1) := by decide +kernel
theorem dX1_init_25 : decode cX1_init 25 = .ok (.bipush 16, 2) := by decide +kernel
theorem dX1_init_27 : decode cX1_init 27 = .ok (.newarray .int, 2) := by decide +kernel
theorem dX1_init_29 : decode cX1_init 29 = .ok (.putfield 24, 3) := by decide +kernel
theorem dX1_init_32 : decode cX1_init 32 = .ok (.aload_n 0, 1) := by decide +kernel
theorem dX1_init_33 : decode cX1_init 33 = .ok (.bipush 16, 2) := by decide +kernel
theorem dX1_init_35 : decode cX1_init 35 = .ok (.newarray .int, 2) := by decide +kernel
theorem dX1_init_37 : decode cX1_init 37 = .ok (.putfield 28, 3) := by decide +kernel
theorem dX1_init_40 : decode cX1_init 40 = .ok (.aload_n 0, 1) := by decide +kernel
theorem dX1_init_41 : decode cX1_init 41 = .ok (.bipush 8, 2) := by decide +kernel
theorem dX1_init_43 : decode cX1_init 43 = .ok (.anewarray 31, 3) := by decide +kernel
theorem dX1_init_46 : decode cX1_init 46 = .ok (.putfield 33, 3) := by decide +kernel
theorem dX1_init_49 : decode cX1_init 49 = .ok (.aload_n 0, 1) := by decide +kernel
theorem dX1_init_50 : decode cX1_init 50 = .ok (.iload_n 1, 1) := by decide +kernel
theorem dX1_init_51 : decode cX1_init 51 = .ok (.putfield 37, 3) := by decide +kernel
theorem dX1_init_54 : decode cX1_init 54 = .ok (.aload_n 0, 1) := by decide +kernel
theorem dX1_init_55 : decode cX1_init 55 = .ok (.iload_n 2, 1) := by decide +kernel
theorem dX1_init_56 : decode cX1_init 56 = .ok (.putfield 40, 3) := by decide +kernel
theorem dX1_init_59 : decode cX1_init 59 = .ok (.return_, 1) := by decide +kernel
theorem dX1_goOut_0 : decode cX1_goOut 0 = .ok (.aload_n 0, 1) := by decide +kernel
theorem dX1_goOut_1 : decode cX1_goOut 1 = .ok (.iconst (-1), 1) := by decide +kernel
theorem dX1_goOut_2 : decode cX1_goOut 2 = .ok (.putfield 9, 3) := by decide +kernel
theorem dX1_goOut_5 : decode cX1_goOut 5 = .ok (.aload_n 0, 1) := by decide +kernel
theorem dX1_goOut_6 : decode cX1_goOut 6 = .ok (.iconst (-1), 1) := by decide +kernel
theorem dX1_goOut_7 : decode cX1_goOut 7 = .ok (.putfield 15, 3) := by decide +kernel
theorem dX1_goOut_10 : decode cX1_goOut 10 = .ok (.aload_n 0, 1) := by decide +kernel
theorem dX1_goOut_11 : decode cX1_goOut 11 = .ok (.iconst (-1), 1) := by decide +kernel
theorem dX1_goOut_12 : decode cX1_goOut 12 = .ok (.putfield 18, 3) := by decide +kernel
theorem dX1_goOut_15 : decode cX1_goOut 15 = .ok (.return_, 1) := by decide +kernel
theorem dX1_courseOf_0 : decode cX1_courseOf 0 = .ok (.iload_n 1, 1) := by decide +kernel
theorem dX1_courseOf_1 : decode cX1_courseOf 1 = .ok (.ifCond .lt 21, 3) := by decide +kernel
theorem dX1_courseOf_4 : decode cX1_courseOf 4 = .ok (.iload_n 1, 1) := by decide +kernel
theorem dX1_courseOf_5 : decode cX1_courseOf 5 = .ok (.aload_n 0, 1) := by decide +kernel
theorem dX1_courseOf_6 : decode cX1_courseOf 6 = .ok (.getfield 33, 3) := by decide +kernel
theorem dX1_courseOf_9 : decode cX1_courseOf 9 = .ok (.arraylength, 1) := by decide +kernel
theorem dX1_courseOf_10 : decode cX1_courseOf 10 = .ok (.if_icmp .ge 12, 3) := by decide +kernel
theorem dX1_courseOf_13 : decode cX1_courseOf 13 = .ok (.aload_n 0, 1) := by decide +kernel
theorem dX1_courseOf_14 : decode cX1_courseOf 14 = .ok (.getfield 33, 3) := by decide +kernel
theorem dX1_courseOf_17 : decode cX1_courseOf 17 = .ok (.iload_n 1, 1) := by decide +kernel
theorem dX1_courseOf_18 : decode cX1_courseOf 18 = .ok (.aaload, 1) := by decide +kernel
theorem dX1_courseOf_19 : decode cX1_courseOf 19 = .ok (.goto 4, 3) := by decide +kernel
theorem dX1_courseOf_22 : decode cX1_courseOf 22 = .ok (.aconst_null, 1) := by decide +kernel
theorem dX1_courseOf_23 : decode cX1_courseOf 23 = .ok (.areturn, 1) := by decide +kernel
theorem dX1_take_0 : decode cX1_take 0 = .ok (.iload_n 1, 1) := by decide +kernel
theorem dX1_take_1 : decode cX1_take 1 = .ok (.ifCond .lt 23, 3) := by decide +kernel
theorem dX1_take_4 : decode cX1_take 4 = .ok (.iload_n 1, 1) := by decide +kernel
theorem dX1_take_5 : decode cX1_take 5 = .ok (.aload_n 0, 1) := by decide +kernel
theorem dX1_take_6 : decode cX1_take 6 = .ok (.getfield 33, 3) := by decide +kernel
theorem dX1_take_9 : decode cX1_take 9 = .ok (.arraylength, 1) := by decide +kernel
theorem dX1_take_10 : decode cX1_take 10 = .ok (.if_icmp .ge 14, 3) := by decide +kernel
theorem dX1_take_13 : decode cX1_take 13 = .ok (.aload_n 0, 1) := by decide +kernel
theorem dX1_take_14 : decode cX1_take 14 = .ok (.getfield 33, 3) := by decide +kernel
theorem dX1_take_17 : decode cX1_take 17 = .ok (.iload_n 1, 1) := by decide +kernel
theorem dX1_take_18 : decode cX1_take 18 = .ok (.aload_n 2, 1) := by decide +kernel
theorem dX1_take_19 : decode cX1_take 19 = .ok (.aastore, 1) := by decide +kernel
theorem dX1_take_20 : decode cX1_take 20 = .ok (.aload_n 0, 1) := by decide +kernel
theorem dX1_take_21 : decode cX1_take 21 = .ok (.invokevirtual 43, 3) := by decide +kernel
theorem dX1_take_24 : decode cX1_take 24 = .ok (.return_, 1) := by decide +kernel
theorem dX1_addProof_0 : decode cX1_addProof 0 = .ok (.aload_n 0, 1) := by decide +kernel
theorem dX1_addProof_1 : decode cX1_addProof 1 = .ok (.getfield 46, 3) := by decide +kernel
theorem dX1_addProof_4 : decode cX1_addProof 4 = .ok (.aload_n 0, 1) := by decide +kernel
theorem dX1_addProof_5 : decode cX1_addProof 5 = .ok (.getfield 24, 3) := by decide +kernel
theorem dX1_addProof_8 : decode cX1_addProof 8 = .ok (.arraylength, 1) := by decide +kernel
theorem dX1_addProof_9 : decode cX1_addProof 9 = .ok (.if_icmp .ge 61, 3) := by decide +kernel
theorem dX1_addProof_12 : decode cX1_addProof 12 = .ok (.aload_n 0, 1) := by decide +kernel
theorem dX1_addProof_13 : decode cX1_addProof 13 = .ok (.getfield 46, 3) := by decide +kernel
theorem dX1_addProof_16 : decode cX1_addProof 16 = .ok (.aload_n 0, 1) := by decide +kernel
theorem dX1_addProof_17 : decode cX1_addProof 17 = .ok (.getfield 28, 3) := by decide +kernel
theorem dX1_addProof_20 : decode cX1_addProof 20 = .ok (.arraylength, 1) := by decide +kernel
theorem dX1_addProof_21 : decode cX1_addProof 21 = .ok (.if_icmp .ge 49, 3) := by decide +kernel
theorem dX1_addProof_24 : decode cX1_addProof 24 = .ok (.aload_n 0, 1) := by decide +kernel
theorem dX1_addProof_25 : decode cX1_addProof 25 = .ok (.getfield 24, 3) := by decide +kernel
theorem dX1_addProof_28 : decode cX1_addProof 28 = .ok (.aload_n 0, 1) := by decide +kernel
theorem dX1_addProof_29 : decode cX1_addProof 29 = .ok (.getfield 46, 3) := by decide +kernel
theorem dX1_addProof_32 : decode cX1_addProof 32 = .ok (.iload_n 1, 1) := by decide +kernel
theorem dX1_addProof_33 : decode cX1_addProof 33 = .ok (.iastore, 1) := by decide +kernel
theorem dX1_addProof_34 : decode cX1_addProof 34 = .ok (.aload_n 0, 1) := by decide +kernel
theorem dX1_addProof_35 : decode cX1_addProof 35 = .ok (.getfield 28, 3) := by decide +kernel
theorem dX1_addProof_38 : decode cX1_addProof 38 = .ok (.aload_n 0, 1) := by decide +kernel
theorem dX1_addProof_39 : decode cX1_addProof 39 = .ok (.getfield 46, 3) := by decide +kernel
theorem dX1_addProof_42 : decode cX1_addProof 42 = .ok (.iload_n 2, 1) := by decide +kernel
theorem dX1_addProof_43 : decode cX1_addProof 43 = .ok (.iastore, 1) := by decide +kernel
theorem dX1_addProof_44 : decode cX1_addProof 44 = .ok (.aload_n 0, 1) := by decide +kernel
theorem dX1_addProof_45 : decode cX1_addProof 45 = .ok (.dup, 1) := by decide +kernel
theorem dX1_addProof_46 : decode cX1_addProof 46 = .ok (.getfield 46, 3) := by decide +kernel
theorem dX1_addProof_49 : decode cX1_addProof 49 = .ok (.iconst 1, 1) := by decide +kernel
theorem dX1_addProof_50 : decode cX1_addProof 50 = .ok (.iadd, 1) := by decide +kernel
theorem dX1_addProof_51 : decode cX1_addProof 51 = .ok (.putfield 46, 3) := by decide +kernel
theorem dX1_addProof_54 : decode cX1_addProof 54 = .ok (.aload_n 0, 1) := by decide +kernel
theorem dX1_addProof_55 : decode cX1_addProof 55 = .ok (.dup, 1) := by decide +kernel
theorem dX1_addProof_56 : decode cX1_addProof 56 = .ok (.getfield 49, 3) := by decide +kernel
theorem dX1_addProof_59 : decode cX1_addProof 59 = .ok (.iconst 1, 1) := by decide +kernel
theorem dX1_addProof_60 : decode cX1_addProof 60 = .ok (.iload_n 1, 1) := by decide +kernel
theorem dX1_addProof_61 : decode cX1_addProof 61 = .ok (.ishl, 1) := by decide +kernel
theorem dX1_addProof_62 : decode cX1_addProof 62 = .ok (.ior, 1) := by decide +kernel
theorem dX1_addProof_63 : decode cX1_addProof 63 = .ok (.putfield 49, 3) := by decide +kernel
theorem dX1_addProof_66 : decode cX1_addProof 66 = .ok (.aload_n 0, 1) := by decide +kernel
theorem dX1_addProof_67 : decode cX1_addProof 67 = .ok (.invokevirtual 43, 3) := by decide +kernel
theorem dX1_addProof_70 : decode cX1_addProof 70 = .ok (.return_, 1) := by decide +kernel
theorem dX1_dayEarned_0 : decode cX1_dayEarned 0 = .ok (.aload_n 0, 1) := by decide +kernel
theorem dX1_dayEarned_1 : decode cX1_dayEarned 1 = .ok (.iload_n 1, 1) := by decide +kernel
theorem dX1_dayEarned_2 : decode cX1_dayEarned 2 = .ok (.invokevirtual 52, 3) := by decide +kernel
theorem dX1_dayEarned_5 : decode cX1_dayEarned 5 = .ok (.astore_n 2, 1) := by decide +kernel
theorem dX1_dayEarned_6 : decode cX1_dayEarned 6 = .ok (.aload_n 2, 1) := by decide +kernel
theorem dX1_dayEarned_7 : decode cX1_dayEarned 7 = .ok (.ifnonnull 8, 3) := by decide +kernel
theorem dX1_dayEarned_10 : decode cX1_dayEarned 10 = .ok (.ldc 56, 2) := by decide +kernel
theorem dX1_dayEarned_12 : decode cX1_dayEarned 12 = .ok (.goto 7, 3) := by decide +kernel
theorem dX1_dayEarned_15 : decode cX1_dayEarned 15 = .ok (.aload_n 2, 1) := by decide +kernel
theorem dX1_dayEarned_16 : decode cX1_dayEarned 16 = .ok (.getfield 57, 3) := by decide +kernel
theorem dX1_dayEarned_19 : decode cX1_dayEarned 19 = .ok (.ireturn, 1) := by decide +kernel
theorem dX1_badgesBy_0 : decode cX1_badgesBy 0 = .ok (.iconst 0, 1) := by decide +kernel
theorem dX1_badgesBy_1 : decode cX1_badgesBy 1 = .ok (.istore_n 2, 1) := by decide +kernel
theorem dX1_badgesBy_2 : decode cX1_badgesBy 2 = .ok (.iconst 0, 1) := by decide +kernel
theorem dX1_badgesBy_3 : decode cX1_badgesBy 3 = .ok (.istore_n 3, 1) := by decide +kernel
theorem dX1_badgesBy_4 : decode cX1_badgesBy 4 = .ok (.iload_n 3, 1) := by decide +kernel
theorem dX1_badgesBy_5 : decode cX1_badgesBy 5 = .ok (.aload_n 0, 1) := by decide +kernel
theorem dX1_badgesBy_6 : decode cX1_badgesBy 6 = .ok (.getfield 33, 3) := by decide +kernel
theorem dX1_badgesBy_9 : decode cX1_badgesBy 9 = .ok (.arraylength, 1) := by decide +kernel
theorem dX1_badgesBy_10 : decode cX1_badgesBy 10 = .ok (.if_icmp .ge 21, 3) := by decide +kernel
theorem dX1_badgesBy_13 : decode cX1_badgesBy 13 = .ok (.aload_n 0, 1) := by decide +kernel
theorem dX1_badgesBy_14 : decode cX1_badgesBy 14 = .ok (.iload_n 3, 1) := by decide +kernel
theorem dX1_badgesBy_15 : decode cX1_badgesBy 15 = .ok (.invokevirtual 60, 3) := by decide +kernel
theorem dX1_badgesBy_18 : decode cX1_badgesBy 18 = .ok (.iload_n 1, 1) := by decide +kernel
theorem dX1_badgesBy_19 : decode cX1_badgesBy 19 = .ok (.if_icmp .gt 6, 3) := by decide +kernel
theorem dX1_badgesBy_22 : decode cX1_badgesBy 22 = .ok (.iinc 2 1, 3) := by decide +kernel
theorem dX1_badgesBy_25 : decode cX1_badgesBy 25 = .ok (.iinc 3 1, 3) := by decide +kernel
theorem dX1_badgesBy_28 : decode cX1_badgesBy 28 = .ok (.goto (-24), 3) := by decide +kernel
theorem dX1_badgesBy_31 : decode cX1_badgesBy 31 = .ok (.iload_n 2, 1) := by decide +kernel
theorem dX1_badgesBy_32 : decode cX1_badgesBy 32 = .ok (.ireturn, 1) := by decide +kernel
theorem dX1_reckonBadges_0 : decode cX1_reckonBadges 0 = .ok (.iconst 0, 1) := by decide +kernel
theorem dX1_reckonBadges_1 : decode cX1_reckonBadges 1 = .ok (.istore_n 1, 1) := by decide +kernel
theorem dX1_reckonBadges_2 : decode cX1_reckonBadges 2 = .ok (.iload_n 1, 1) := by decide +kernel
theorem dX1_reckonBadges_3 : decode cX1_reckonBadges 3 = .ok (.aload_n 0, 1) := by decide +kernel
theorem dX1_reckonBadges_4 : decode cX1_reckonBadges 4 = .ok (.getfield 33, 3) := by decide +kernel
theorem dX1_reckonBadges_7 : decode cX1_reckonBadges 7 = .ok (.arraylength, 1) := by decide +kernel
theorem dX1_reckonBadges_8 : decode cX1_reckonBadges 8 = .ok (.if_icmp .ge 52, 3) := by decide +kernel
theorem dX1_reckonBadges_11 : decode cX1_reckonBadges 11 = .ok (.aload_n 0, 1) := by decide +kernel
theorem dX1_reckonBadges_12 : decode cX1_reckonBadges 12 = .ok (.getfield 33, 3) := by decide +kernel
theorem dX1_reckonBadges_15 : decode cX1_reckonBadges 15 = .ok (.iload_n 1, 1) := by decide +kernel
theorem dX1_reckonBadges_16 : decode cX1_reckonBadges 16 = .ok (.aaload, 1) := by decide +kernel
theorem dX1_reckonBadges_17 : decode cX1_reckonBadges 17 = .ok (.astore_n 2, 1) := by decide +kernel
theorem dX1_reckonBadges_18 : decode cX1_reckonBadges 18 = .ok (.aload_n 2, 1) := by decide +kernel
theorem dX1_reckonBadges_19 : decode cX1_reckonBadges 19 = .ok (.ifnull 35, 3) := by decide +kernel
theorem dX1_reckonBadges_22 : decode cX1_reckonBadges 22 = .ok (.aload_n 0, 1) := by decide +kernel
theorem dX1_reckonBadges_23 : decode cX1_reckonBadges 23 = .ok (.aload_n 2, 1) := by decide +kernel
theorem dX1_reckonBadges_24 : decode cX1_reckonBadges 24 = .ok (.getfield 64, 3) := by decide +kernel
theorem dX1_reckonBadges_27 : decode cX1_reckonBadges 27 = .ok (.invokevirtual 68, 3) := by decide +kernel
theorem dX1_reckonBadges_30 : decode cX1_reckonBadges 30 = .ok (.istore_n 3, 1) := by decide +kernel
theorem dX1_reckonBadges_31 : decode cX1_reckonBadges 31 = .ok (.aload_n 2, 1) := by decide +kernel
theorem dX1_reckonBadges_32 : decode cX1_reckonBadges 32 = .ok (.aload_n 2, 1) := by decide +kernel
theorem dX1_reckonBadges_33 : decode cX1_reckonBadges 33 = .ok (.getfield 72, 3) := by decide +kernel
theorem dX1_reckonBadges_36 : decode cX1_reckonBadges 36 = .ok (.iload_n 3, 1) := by decide +kernel
theorem dX1_reckonBadges_37 : decode cX1_reckonBadges 37 = .ok (.invokestatic 75, 3) := by decide +kernel
theorem dX1_reckonBadges_40 : decode cX1_reckonBadges 40 = .ok (.aload_n 0, 1) := by decide +kernel
theorem dX1_reckonBadges_41 : decode cX1_reckonBadges 41 = .ok (.aload_n 2, 1) := by decide +kernel
theorem dX1_reckonBadges_42 : decode cX1_reckonBadges 42 = .ok (.getfield 64, 3) := by decide +kernel
theorem dX1_reckonBadges_45 : decode cX1_reckonBadges 45 = .ok (.invokevirtual 81, 3) := by decide +kernel
theorem dX1_reckonBadges_48 : decode cX1_reckonBadges 48 = .ok (.invokestatic 75, 3) := by decide +kernel
theorem dX1_reckonBadges_51 : decode cX1_reckonBadges 51 = .ok (.putfield 57, 3) := by decide +kernel
theorem dX1_reckonBadges_54 : decode cX1_reckonBadges 54 = .ok (.iinc 1 1, 3) := by decide +kernel
theorem dX1_reckonBadges_57 : decode cX1_reckonBadges 57 = .ok (.goto (-55), 3) := by decide +kernel
theorem dX1_reckonBadges_60 : decode cX1_reckonBadges 60 = .ok (.return_, 1) := by decide +kernel
theorem dX1_dayAfterBefore_0 : decode cX1_dayAfterBefore 0 = .ok (.aload_n 1, 1) := by decide +kernel
theorem dX1_dayAfterBefore_1 : decode cX1_dayAfterBefore 1 = .ok (.getfield 84, 3) := by decide +kernel
theorem dX1_dayAfterBefore_4 : decode cX1_dayAfterBefore 4 = .ok (.iconst (-1), 1) := by decide +kernel
theorem dX1_dayAfterBefore_5 : decode cX1_dayAfterBefore 5 = .ok (.if_icmp .ne 5, 3) := by decide +kernel
theorem dX1_dayAfterBefore_8 : decode cX1_dayAfterBefore 8 = .ok (.iconst 0, 1) := by decide +kernel
theorem dX1_dayAfterBefore_9 : decode cX1_dayAfterBefore 9 = .ok (.ireturn, 1) := by decide +kernel
theorem dX1_dayAfterBefore_10 : decode cX1_dayAfterBefore 10 = .ok (.aload_n 0, 1) := by decide +kernel
theorem dX1_dayAfterBefore_11 : decode cX1_dayAfterBefore 11 = .ok (.aload_n 1, 1) := by decide +kernel
theorem dX1_dayAfterBefore_12 : decode cX1_dayAfterBefore 12 = .ok (.getfield 84, 3) := by decide +kernel
theorem dX1_dayAfterBefore_15 : decode cX1_dayAfterBefore 15 = .ok (.invokevirtual 60, 3) := by decide +kernel
theorem dX1_dayAfterBefore_18 : decode cX1_dayAfterBefore 18 = .ok (.istore_n 2, 1) := by decide +kernel
theorem dX1_dayAfterBefore_19 : decode cX1_dayAfterBefore 19 = .ok (.iload_n 2, 1) := by decide +kernel
theorem dX1_dayAfterBefore_20 : decode cX1_dayAfterBefore 20 = .ok (.ldc 56, 2) := by decide +kernel
theorem dX1_dayAfterBefore_22 : decode cX1_dayAfterBefore 22 = .ok (.if_icmp .ne 8, 3) := by decide +kernel
theorem dX1_dayAfterBefore_25 : decode cX1_dayAfterBefore 25 = .ok (.ldc 56, 2) := by decide +kernel
theorem dX1_dayAfterBefore_27 : decode cX1_dayAfterBefore 27 = .ok (.goto 9, 3) := by decide +kernel
theorem dX1_dayAfterBefore_30 : decode cX1_dayAfterBefore 30 = .ok (.iload_n 2, 1) := by decide +kernel
theorem dX1_dayAfterBefore_31 : decode cX1_dayAfterBefore 31 = .ok (.aload_n 1, 1) := by decide +kernel
theorem dX1_dayAfterBefore_32 : decode cX1_dayAfterBefore 32 = .ok (.getfield 89, 3) := by decide +kernel
theorem dX1_dayAfterBefore_35 : decode cX1_dayAfterBefore 35 = .ok (.iadd, 1) := by decide +kernel
theorem dX1_dayAfterBefore_36 : decode cX1_dayAfterBefore 36 = .ok (.ireturn, 1) := by decide +kernel
theorem dX1_dayProven_0 : decode cX1_dayProven 0 = .ok (.iconst 0, 1) := by decide +kernel
theorem dX1_dayProven_1 : decode cX1_dayProven 1 = .ok (.istore_n 2, 1) := by decide +kernel
theorem dX1_dayProven_2 : decode cX1_dayProven 2 = .ok (.aload_n 1, 1) := by decide +kernel
theorem dX1_dayProven_3 : decode cX1_dayProven 3 = .ok (.getfield 92, 3) := by decide +kernel
theorem dX1_dayProven_6 : decode cX1_dayProven 6 = .ok (.istore_n 3, 1) := by decide +kernel
theorem dX1_dayProven_7 : decode cX1_dayProven 7 = .ok (.aload_n 1, 1) := by decide +kernel
theorem dX1_dayProven_8 : decode cX1_dayProven 8 = .ok (.getfield 95, 3) := by decide +kernel
theorem dX1_dayProven_11 : decode cX1_dayProven 11 = .ok (.istore 4, 2) := by decide +kernel
theorem dX1_dayProven_13 : decode cX1_dayProven 13 = .ok (.iconst 0, 1) := by decide +kernel
theorem dX1_dayProven_14 : decode cX1_dayProven 14 = .ok (.istore 5, 2) := by decide +kernel
theorem dX1_dayProven_16 : decode cX1_dayProven 16 = .ok (.iload 5, 2) := by decide +kernel
theorem dX1_dayProven_18 : decode cX1_dayProven 18 = .ok (.aload_n 0, 1) := by decide +kernel
theorem dX1_dayProven_19 : decode cX1_dayProven 19 = .ok (.getfield 46, 3) := by decide +kernel
theorem dX1_dayProven_22 : decode cX1_dayProven 22 = .ok (.if_icmp .ge 91, 3) := by decide +kernel
theorem dX1_dayProven_25 : decode cX1_dayProven 25 = .ok (.iload 5, 2) := by decide +kernel
theorem dX1_dayProven_27 : decode cX1_dayProven 27 = .ok (.aload_n 0, 1) := by decide +kernel
theorem dX1_dayProven_28 : decode cX1_dayProven 28 = .ok (.getfield 24, 3) := by decide +kernel
theorem dX1_dayProven_31 : decode cX1_dayProven 31 = .ok (.arraylength, 1) := by decide +kernel
theorem dX1_dayProven_32 : decode cX1_dayProven 32 = .ok (.if_icmp .ge 81, 3) := by decide +kernel
theorem dX1_dayProven_35 : decode cX1_dayProven 35 = .ok (.iload 5, 2) := by decide +kernel
theorem dX1_dayProven_37 : decode cX1_dayProven 37 = .ok (.aload_n 0, 1) := by decide +kernel
theorem dX1_dayProven_38 : decode cX1_dayProven 38 = .ok (.getfield 28, 3) := by decide +kernel
theorem dX1_dayProven_41 : decode cX1_dayProven 41 = .ok (.arraylength, 1) := by decide +kernel
theorem dX1_dayProven_42 : decode cX1_dayProven 42 = .ok (.if_icmp .ge 71, 3) := by decide +kernel
theorem dX1_dayProven_45 : decode cX1_dayProven 45 = .ok (.iconst 1, 1) := by decide +kernel
theorem dX1_dayProven_46 : decode cX1_dayProven 46 = .ok (.aload_n 0, 1) := by decide +kernel
theorem dX1_dayProven_47 : decode cX1_dayProven 47 = .ok (.getfield 24, 3) := by decide +kernel
theorem dX1_dayProven_50 : decode cX1_dayProven 50 = .ok (.iload 5, 2) := by decide +kernel
theorem dX1_dayProven_52 : decode cX1_dayProven 52 = .ok (.iaload, 1) := by decide +kernel
theorem dX1_dayProven_53 : decode cX1_dayProven 53 = .ok (.ishl, 1) := by decide +kernel
theorem dX1_dayProven_54 : decode cX1_dayProven 54 = .ok (.istore 6, 2) := by decide +kernel
theorem dX1_dayProven_56 : decode cX1_dayProven 56 = .ok (.iload_n 3, 1) := by decide +kernel
theorem dX1_dayProven_57 : decode cX1_dayProven 57 = .ok (.iload 6, 2) := by decide +kernel
theorem dX1_dayProven_59 : decode cX1_dayProven 59 = .ok (.iand, 1) := by decide +kernel
theorem dX1_dayProven_60 : decode cX1_dayProven 60 = .ok (.ifCond .eq 21, 3) := by decide +kernel
theorem dX1_dayProven_63 : decode cX1_dayProven 63 = .ok (.iload_n 3, 1) := by decide +kernel
theorem dX1_dayProven_64 : decode cX1_dayProven 64 = .ok (.iload 6, 2) := by decide +kernel
theorem dX1_dayProven_66 : decode cX1_dayProven 66 = .ok (.iconst (-1), 1) := by decide +kernel
theorem dX1_dayProven_67 : decode cX1_dayProven 67 = .ok (.ixor, 1) := by decide +kernel
theorem dX1_dayProven_68 : decode cX1_dayProven 68 = .ok (.iand, 1) := by decide +kernel
theorem dX1_dayProven_69 : decode cX1_dayProven 69 = .ok (.istore_n 3, 1) := by decide +kernel
theorem dX1_dayProven_70 : decode cX1_dayProven 70 = .ok (.aload_n 0, 1) := by decide +kernel
theorem dX1_dayProven_71 : decode cX1_dayProven 71 = .ok (.getfield 28, 3) := by decide +kernel
theorem dX1_dayProven_74 : decode cX1_dayProven 74 = .ok (.iload 5, 2) := by decide +kernel
theorem dX1_dayProven_76 : decode cX1_dayProven 76 = .ok (.iaload, 1) := by decide +kernel
theorem dX1_dayProven_77 : decode cX1_dayProven 77 = .ok (.istore_n 2, 1) := by decide +kernel
theorem dX1_dayProven_78 : decode cX1_dayProven 78 = .ok (.goto 29, 3) := by decide +kernel
theorem dX1_dayProven_81 : decode cX1_dayProven 81 = .ok (.aload_n 1, 1) := by decide +kernel
theorem dX1_dayProven_82 : decode cX1_dayProven 82 = .ok (.getfield 98, 3) := by decide +kernel
theorem dX1_dayProven_85 : decode cX1_dayProven 85 = .ok (.iload 6, 2) := by decide +kernel
theorem dX1_dayProven_87 : decode cX1_dayProven 87 = .ok (.iand, 1) := by decide +kernel
theorem dX1_dayProven_88 : decode cX1_dayProven 88 = .ok (.ifCond .eq 19, 3) := by decide +kernel
theorem dX1_dayProven_91 : decode cX1_dayProven 91 = .ok (.iload 4, 2) := by decide +kernel
theorem dX1_dayProven_93 : decode cX1_dayProven 93 = .ok (.ifCond .le 14, 3) := by decide +kernel
theorem dX1_dayProven_96 : decode cX1_dayProven 96 = .ok (.iinc 4 (-1), 3) := by decide +kernel
theorem dX1_dayProven_99 : decode cX1_dayProven 99 = .ok (.aload_n 0, 1) := by decide +kernel
theorem dX1_dayProven_100 : decode cX1_dayProven 100 = .ok (.getfield 28, 3) := by decide +kernel
theorem dX1_dayProven_103 : decode cX1_dayProven 103 = .ok (.iload 5, 2) := by decide +kernel
theorem dX1_dayProven_105 : decode cX1_dayProven 105 = .ok (.iaload, 1) := by decide +kernel
theorem dX1_dayProven_106 : decode cX1_dayProven 106 = .ok (.istore_n 2, 1) := by decide +kernel
theorem dX1_dayProven_107 : decode cX1_dayProven 107 = .ok (.iinc 5 1, 3) := by decide +kernel
theorem dX1_dayProven_110 : decode cX1_dayProven 110 = .ok (.goto (-94), 3) := by decide +kernel
theorem dX1_dayProven_113 : decode cX1_dayProven 113 = .ok (.iload_n 3, 1) := by decide +kernel
theorem dX1_dayProven_114 : decode cX1_dayProven 114 = .ok (.ifCond .ne 12, 3) := by decide +kernel
theorem dX1_dayProven_117 : decode cX1_dayProven 117 = .ok (.iload 4, 2) := by decide +kernel
theorem dX1_dayProven_119 : decode cX1_dayProven 119 = .ok (.ifCond .ne 7, 3) := by decide +kernel
theorem dX1_dayProven_122 : decode cX1_dayProven 122 = .ok (.iload_n 2, 1) := by decide +kernel
theorem dX1_dayProven_123 : decode cX1_dayProven 123 = .ok (.goto 5, 3) := by decide +kernel
theorem dX1_dayProven_126 : decode cX1_dayProven 126 = .ok (.ldc 56, 2) := by decide +kernel
theorem dX1_dayProven_128 : decode cX1_dayProven 128 = .ok (.ireturn, 1) := by decide +kernel
theorem dX2_init_0 : decode cX2_init 0 = .ok (.aload_n 0, 1) := by decide +kernel
theorem dX2_init_1 : decode cX2_init 1 = .ok (.invokespecial 3, 3) := by decide +kernel
theorem dX2_init_4 : decode cX2_init 4 = .ok (.aload_n 0, 1) := by decide +kernel
theorem dX2_init_5 : decode cX2_init 5 = .ok (.ldc 9, 2) := by decide +kernel
theorem dX2_init_7 : decode cX2_init 7 = .ok (.putfield 10, 3) := by decide +kernel
theorem dX2_init_10 : decode cX2_init 10 = .ok (.aload_n 0, 1) := by decide +kernel
theorem dX2_init_11 : decode cX2_init 11 = .ok (.aload_n 1, 1) := by decide +kernel
theorem dX2_init_12 : decode cX2_init 12 = .ok (.putfield 16, 3) := by decide +kernel
theorem dX2_init_15 : decode cX2_init 15 = .ok (.aload_n 0, 1) := by decide +kernel
theorem dX2_init_16 : decode cX2_init 16 = .ok (.iload_n 2, 1) := by decide +kernel
theorem dX2_init_17 : decode cX2_init 17 = .ok (.putfield 20, 3) := by decide +kernel
theorem dX2_init_20 : decode cX2_init 20 = .ok (.return_, 1) := by decide +kernel
theorem dX2_isHeldOn_0 : decode cX2_isHeldOn 0 = .ok (.aload_n 0, 1) := by decide +kernel
theorem dX2_isHeldOn_1 : decode cX2_isHeldOn 1 = .ok (.getfield 10, 3) := by decide +kernel
theorem dX2_isHeldOn_4 : decode cX2_isHeldOn 4 = .ok (.iload_n 1, 1) := by decide +kernel
theorem dX2_isHeldOn_5 : decode cX2_isHeldOn 5 = .ok (.if_icmp .gt 33, 3) := by decide +kernel
theorem dX2_isHeldOn_8 : decode cX2_isHeldOn 8 = .ok (.aload_n 0, 1) := by decide +kernel
theorem dX2_isHeldOn_9 : decode cX2_isHeldOn 9 = .ok (.getfield 16, 3) := by decide +kernel
theorem dX2_isHeldOn_12 : decode cX2_isHeldOn 12 = .ok (.getfield 23, 3) := by decide +kernel
theorem dX2_isHeldOn_15 : decode cX2_isHeldOn 15 = .ok (.ifCond .eq 19, 3) := by decide +kernel
theorem dX2_isHeldOn_18 : decode cX2_isHeldOn 18 = .ok (.iload_n 1, 1) := by decide +kernel
theorem dX2_isHeldOn_19 : decode cX2_isHeldOn 19 = .ok (.aload_n 0, 1) := by decide +kernel
theorem dX2_isHeldOn_20 : decode cX2_isHeldOn 20 = .ok (.getfield 10, 3) := by decide +kernel
theorem dX2_isHeldOn_23 : decode cX2_isHeldOn 23 = .ok (.isub, 1) := by decide +kernel
theorem dX2_isHeldOn_24 : decode cX2_isHeldOn 24 = .ok (.aload_n 0, 1) := by decide +kernel
theorem dX2_isHeldOn_25 : decode cX2_isHeldOn 25 = .ok (.getfield 16, 3) := by decide +kernel
theorem dX2_isHeldOn_28 : decode cX2_isHeldOn 28 = .ok (.getfield 23, 3) := by decide +kernel
theorem dX2_isHeldOn_31 : decode cX2_isHeldOn 31 = .ok (.if_icmp .ge 7, 3) := by decide +kernel
theorem dX2_isHeldOn_34 : decode cX2_isHeldOn 34 = .ok (.iconst 1, 1) := by decide +kernel
theorem dX2_isHeldOn_35 : decode cX2_isHeldOn 35 = .ok (.goto 4, 3) := by decide +kernel
theorem dX2_isHeldOn_38 : decode cX2_isHeldOn 38 = .ok (.iconst 0, 1) := by decide +kernel
theorem dX2_isHeldOn_39 : decode cX2_isHeldOn 39 = .ok (.ireturn, 1) := by decide +kernel
theorem dX3_init_0 : decode cX3_init 0 = .ok (.aload_n 0, 1) := by decide +kernel
theorem dX3_init_1 : decode cX3_init 1 = .ok (.invokespecial 1, 3) := by decide +kernel
theorem dX3_init_4 : decode cX3_init 4 = .ok (.aload_n 0, 1) := by decide +kernel
theorem dX3_init_5 : decode cX3_init 5 = .ok (.iload_n 1, 1) := by decide +kernel
theorem dX3_init_6 : decode cX3_init 6 = .ok (.putfield 7, 3) := by decide +kernel
theorem dX3_init_9 : decode cX3_init 9 = .ok (.aload_n 0, 1) := by decide +kernel
theorem dX3_init_10 : decode cX3_init 10 = .ok (.iload_n 2, 1) := by decide +kernel
theorem dX3_init_11 : decode cX3_init 11 = .ok (.putfield 13, 3) := by decide +kernel
theorem dX3_init_14 : decode cX3_init 14 = .ok (.aload_n 0, 1) := by decide +kernel
theorem dX3_init_15 : decode cX3_init 15 = .ok (.iload_n 3, 1) := by decide +kernel
theorem dX3_init_16 : decode cX3_init 16 = .ok (.putfield 16, 3) := by decide +kernel
theorem dX3_init_19 : decode cX3_init 19 = .ok (.aload_n 0, 1) := by decide +kernel
theorem dX3_init_20 : decode cX3_init 20 = .ok (.iload 4, 2) := by decide +kernel
theorem dX3_init_22 : decode cX3_init 22 = .ok (.putfield 19, 3) := by decide +kernel
theorem dX3_init_25 : decode cX3_init 25 = .ok (.aload_n 0, 1) := by decide +kernel
theorem dX3_init_26 : decode cX3_init 26 = .ok (.iload 5, 2) := by decide +kernel
theorem dX3_init_28 : decode cX3_init 28 = .ok (.putfield 22, 3) := by decide +kernel
theorem dX3_init_31 : decode cX3_init 31 = .ok (.aload_n 0, 1) := by decide +kernel
theorem dX3_init_32 : decode cX3_init 32 = .ok (.iload 6, 2) := by decide +kernel
theorem dX3_init_34 : decode cX3_init 34 = .ok (.putfield 25, 3) := by decide +kernel
theorem dX3_init_37 : decode cX3_init 37 = .ok (.return_, 1) := by decide +kernel
theorem dX4_init_0 : decode cX4_init 0 = .ok (.aload_n 0, 1) := by decide +kernel
theorem dX4_init_1 : decode cX4_init 1 = .ok (.invokespecial 1, 3) := by decide +kernel
theorem dX4_init_4 : decode cX4_init 4 = .ok (.aload_n 0, 1) := by decide +kernel
theorem dX4_init_5 : decode cX4_init 5 = .ok (.iload_n 1, 1) := by decide +kernel
theorem dX4_init_6 : decode cX4_init 6 = .ok (.putfield 7, 3) := by decide +kernel
theorem dX4_init_9 : decode cX4_init 9 = .ok (.aload_n 0, 1) := by decide +kernel
theorem dX4_init_10 : decode cX4_init 10 = .ok (.iload_n 2, 1) := by decide +kernel
theorem dX4_init_11 : decode cX4_init 11 = .ok (.putfield 13, 3) := by decide +kernel
theorem dX4_init_14 : decode cX4_init 14 = .ok (.aload_n 0, 1) := by decide +kernel
theorem dX4_init_15 : decode cX4_init 15 = .ok (.iload_n 3, 1) := by decide +kernel
theorem dX4_init_16 : decode cX4_init 16 = .ok (.putfield 16, 3) := by decide +kernel
theorem dX4_init_19 : decode cX4_init 19 = .ok (.aload_n 0, 1) := by decide +kernel
theorem dX4_init_20 : decode cX4_init 20 = .ok (.iload 4, 2) := by decide +kernel
theorem dX4_init_22 : decode cX4_init 22 = .ok (.putfield 19, 3) := by decide +kernel
theorem dX4_init_25 : decode cX4_init 25 = .ok (.aload_n 0, 1) := by decide +kernel
theorem dX4_init_26 : decode cX4_init 26 = .ok (.iload 5, 2) := by decide +kernel
theorem dX4_init_28 : decode cX4_init 28 = .ok (.putfield 22, 3) := by decide +kernel
theorem dX4_init_31 : decode cX4_init 31 = .ok (.aload_n 0, 1) := by decide +kernel
theorem dX4_init_32 : decode cX4_init 32 = .ok (.iload 5, 2) := by decide +kernel
theorem dX4_init_34 : decode cX4_init 34 = .ok (.iload 6, 2) := by decide +kernel
theorem dX4_init_36 : decode cX4_init 36 = .ok (.iadd, 1) := by decide +kernel
theorem dX4_init_37 : decode cX4_init 37 = .ok (.putfield 25, 3) := by decide +kernel
theorem dX4_init_40 : decode cX4_init 40 = .ok (.return_, 1) := by decide +kernel
theorem dX4_goesOn_0 : decode cX4_goesOn 0 = .ok (.aload_n 0, 1) := by decide +kernel
theorem dX4_goesOn_1 : decode cX4_goesOn 1 = .ok (.getfield 19, 3) := by decide +kernel
theorem dX4_goesOn_4 : decode cX4_goesOn 4 = .ok (.iload_n 1, 1) := by decide +kernel
theorem dX4_goesOn_5 : decode cX4_goesOn 5 = .ok (.if_icmp .ne 23, 3) := by decide +kernel
theorem dX4_goesOn_8 : decode cX4_goesOn 8 = .ok (.aload_n 0, 1) := by decide +kernel
theorem dX4_goesOn_9 : decode cX4_goesOn 9 = .ok (.getfield 22, 3) := by decide +kernel
theorem dX4_goesOn_12 : decode cX4_goesOn 12 = .ok (.iload_n 2, 1) := by decide +kernel
theorem dX4_goesOn_13 : decode cX4_goesOn 13 = .ok (.if_icmp .gt 15, 3) := by decide +kernel
theorem dX4_goesOn_16 : decode cX4_goesOn 16 = .ok (.iload_n 2, 1) := by decide +kernel
theorem dX4_goesOn_17 : decode cX4_goesOn 17 = .ok (.aload_n 0, 1) := by decide +kernel
theorem dX4_goesOn_18 : decode cX4_goesOn 18 = .ok (.getfield 25, 3) := by decide +kernel
theorem dX4_goesOn_21 : decode cX4_goesOn 21 = .ok (.if_icmp .ge 7, 3) := by decide +kernel
theorem dX4_goesOn_24 : decode cX4_goesOn 24 = .ok (.iconst 1, 1) := by decide +kernel
theorem dX4_goesOn_25 : decode cX4_goesOn 25 = .ok (.goto 4, 3) := by decide +kernel
theorem dX4_goesOn_28 : decode cX4_goesOn 28 = .ok (.iconst 0, 1) := by decide +kernel
theorem dX4_goesOn_29 : decode cX4_goesOn 29 = .ok (.ireturn, 1) := by decide +kernel
theorem dX4_meets_0 : decode cX4_meets 0 = .ok (.aload_n 0, 1) := by decide +kernel
theorem dX4_meets_1 : decode cX4_meets 1 = .ok (.getfield 19, 3) := by decide +kernel
theorem dX4_meets_4 : decode cX4_meets 4 = .ok (.aload_n 1, 1) := by decide +kernel
theorem dX4_meets_5 : decode cX4_meets 5 = .ok (.getfield 19, 3) := by decide +kernel
theorem dX4_meets_8 : decode cX4_meets 8 = .ok (.if_icmp .ne 29, 3) := by decide +kernel
theorem dX4_meets_11 : decode cX4_meets 11 = .ok (.aload_n 0, 1) := by decide +kernel
theorem dX4_meets_12 : decode cX4_meets 12 = .ok (.getfield 22, 3) := by decide +kernel
theorem dX4_meets_15 : decode cX4_meets 15 = .ok (.aload_n 1, 1) := by decide +kernel
theorem dX4_meets_16 : decode cX4_meets 16 = .ok (.getfield 25, 3) := by decide +kernel
theorem dX4_meets_19 : decode cX4_meets 19 = .ok (.if_icmp .ge 18, 3) := by decide +kernel
theorem dX4_meets_22 : decode cX4_meets 22 = .ok (.aload_n 1, 1) := by decide +kernel
theorem dX4_meets_23 : decode cX4_meets 23 = .ok (.getfield 22, 3) := by decide +kernel
theorem dX4_meets_26 : decode cX4_meets 26 = .ok (.aload_n 0, 1) := by decide +kernel
theorem dX4_meets_27 : decode cX4_meets 27 = .ok (.getfield 25, 3) := by decide +kernel
theorem dX4_meets_30 : decode cX4_meets 30 = .ok (.if_icmp .ge 7, 3) := by decide +kernel
theorem dX4_meets_33 : decode cX4_meets 33 = .ok (.iconst 1, 1) := by decide +kernel
theorem dX4_meets_34 : decode cX4_meets 34 = .ok (.goto 4, 3) := by decide +kernel
theorem dX4_meets_37 : decode cX4_meets 37 = .ok (.iconst 0, 1) := by decide +kernel
theorem dX4_meets_38 : decode cX4_meets 38 = .ok (.ireturn, 1) := by decide +kernel
theorem dX5_init_0 : decode cX5_init 0 = .ok (.aload_n 0, 1) := by decide +kernel
theorem dX5_init_1 : decode cX5_init 1 = .ok (.invokespecial 3, 3) := by decide +kernel
theorem dX5_init_4 : decode cX5_init 4 = .ok (.aload_n 0, 1) := by decide +kernel
theorem dX5_init_5 : decode cX5_init 5 = .ok (.iconst 3, 1) := by decide +kernel
theorem dX5_init_6 : decode cX5_init 6 = .ok (.newarray .int, 2) := by decide +kernel
theorem dX5_init_8 : decode cX5_init 8 = .ok (.dup, 1) := by decide +kernel
theorem dX5_init_9 : decode cX5_init 9 = .ok (.iconst 0, 1) := by decide +kernel
theorem dX5_init_10 : decode cX5_init 10 = .ok (.iconst (-1), 1) := by decide +kernel
theorem dX5_init_11 : decode cX5_init 11 = .ok (.iastore, 1) := by decide +kernel
theorem dX5_init_12 : decode cX5_init 12 = .ok (.dup, 1) := by decide +kernel
theorem dX5_init_13 : decode cX5_init 13 = .ok (.iconst 1, 1) := by decide +kernel
theorem dX5_init_14 : decode cX5_init 14 = .ok (.iconst (-1), 1) := by decide +kernel
theorem dX5_init_15 : decode cX5_init 15 = .ok (.iastore, 1) := by decide +kernel
theorem dX5_init_16 : decode cX5_init 16 = .ok (.dup, 1) := by decide +kernel
theorem dX5_init_17 : decode cX5_init 17 = .ok (.iconst 2, 1) := by decide +kernel
theorem dX5_init_18 : decode cX5_init 18 = .ok (.iconst (-1), 1) := by decide +kernel
theorem dX5_init_19 : decode cX5_init 19 = .ok (.iastore, 1) := by decide +kernel
theorem dX5_init_20 : decode cX5_init 20 = .ok (.putfield 9, 3) := by decide +kernel
theorem dX5_init_23 : decode cX5_init 23 = .ok (.aload_n 0, 1) := by decide +kernel
theorem dX5_init_24 : decode cX5_init 24 = .ok (.iconst 3, 1) := by decide +kernel
theorem dX5_init_25 : decode cX5_init 25 = .ok (.newarray .int, 2) := by decide +kernel
theorem dX5_init_27 : decode cX5_init 27 = .ok (.dup, 1) := by decide +kernel
theorem dX5_init_28 : decode cX5_init 28 = .ok (.iconst 0, 1) := by decide +kernel
theorem dX5_init_29 : decode cX5_init 29 = .ok (.iconst (-1), 1) := by decide +kernel
theorem dX5_init_30 : decode cX5_init 30 = .ok (.iastore, 1) := by decide +kernel
theorem dX5_init_31 : decode cX5_init 31 = .ok (.dup, 1) := by decide +kernel
theorem dX5_init_32 : decode cX5_init 32 = .ok (.iconst 1, 1) := by decide +kernel
theorem dX5_init_33 : decode cX5_init 33 = .ok (.iconst (-1), 1) := by decide +kernel
theorem dX5_init_34 : decode cX5_init 34 = .ok (.iastore, 1) := by decide +kernel
theorem dX5_init_35 : decode cX5_init 35 = .ok (.dup, 1) := by decide +kernel
theorem dX5_init_36 : decode cX5_init 36 = .ok (.iconst 2, 1) := by decide +kernel
theorem dX5_init_37 : decode cX5_init 37 = .ok (.iconst (-1), 1) := by decide +kernel
theorem dX5_init_38 : decode cX5_init 38 = .ok (.iastore, 1) := by decide +kernel
theorem dX5_init_39 : decode cX5_init 39 = .ok (.putfield 15, 3) := by decide +kernel
theorem dX5_init_42 : decode cX5_init 42 = .ok (.aload_n 0, 1) := by decide +kernel
theorem dX5_init_43 : decode cX5_init 43 = .ok (.iconst 4, 1) := by decide +kernel
theorem dX5_init_44 : decode cX5_init 44 = .ok (.newarray .int, 2) := by decide +kernel
theorem dX5_init_46 : decode cX5_init 46 = .ok (.dup, 1) := by decide +kernel
theorem dX5_init_47 : decode cX5_init 47 = .ok (.iconst 0, 1) := by decide +kernel
theorem dX5_init_48 : decode cX5_init 48 = .ok (.iconst (-1), 1) := by decide +kernel
theorem dX5_init_49 : decode cX5_init 49 = .ok (.iastore, 1) := by decide +kernel
theorem dX5_init_50 : decode cX5_init 50 = .ok (.dup, 1) := by decide +kernel
theorem dX5_init_51 : decode cX5_init 51 = .ok (.iconst 1, 1) := by decide +kernel
theorem dX5_init_52 : decode cX5_init 52 = .ok (.iconst (-1), 1) := by decide +kernel
theorem dX5_init_53 : decode cX5_init 53 = .ok (.iastore, 1) := by decide +kernel
theorem dX5_init_54 : decode cX5_init 54 = .ok (.dup, 1) := by decide +kernel
theorem dX5_init_55 : decode cX5_init 55 = .ok (.iconst 2, 1) := by decide +kernel
theorem dX5_init_56 : decode cX5_init 56 = .ok (.iconst (-1), 1) := by decide +kernel
theorem dX5_init_57 : decode cX5_init 57 = .ok (.iastore, 1) := by decide +kernel
theorem dX5_init_58 : decode cX5_init 58 = .ok (.dup, 1) := by decide +kernel
theorem dX5_init_59 : decode cX5_init 59 = .ok (.iconst 3, 1) := by decide +kernel
theorem dX5_init_60 : decode cX5_init 60 = .ok (.iconst (-1), 1) := by decide +kernel
theorem dX5_init_61 : decode cX5_init 61 = .ok (.iastore, 1) := by decide +kernel
theorem dX5_init_62 : decode cX5_init 62 = .ok (.putfield 18, 3) := by decide +kernel
theorem dX5_init_65 : decode cX5_init 65 = .ok (.return_, 1) := by decide +kernel
theorem dX5_setVetted_0 : decode cX5_setVetted 0 = .ok (.iload_n 1, 1) := by decide +kernel
theorem dX5_setVetted_1 : decode cX5_setVetted 1 = .ok (.ifCond .lt 35, 3) := by decide +kernel
theorem dX5_setVetted_4 : decode cX5_setVetted 4 = .ok (.iload_n 1, 1) := by decide +kernel
theorem dX5_setVetted_5 : decode cX5_setVetted 5 = .ok (.aload_n 0, 1) := by decide +kernel
theorem dX5_setVetted_6 : decode cX5_setVetted 6 = .ok (.getfield 9, 3) := by decide +kernel
theorem dX5_setVetted_9 : decode cX5_setVetted 9 = .ok (.arraylength, 1) := by decide +kernel
theorem dX5_setVetted_10 : decode cX5_setVetted 10 = .ok (.if_icmp .ge 26, 3) := by decide +kernel
theorem dX5_setVetted_13 : decode cX5_setVetted 13 = .ok (.iload_n 1, 1) := by decide +kernel
theorem dX5_setVetted_14 : decode cX5_setVetted 14 = .ok (.aload_n 0, 1) := by decide +kernel
theorem dX5_setVetted_15 : decode cX5_setVetted 15 = .ok (.getfield 15, 3) := by decide +kernel
theorem dX5_setVetted_18 : decode cX5_setVetted 18 = .ok (.arraylength, 1) := by decide +kernel
theorem dX5_setVetted_19 : decode cX5_setVetted 19 = .ok (.if_icmp .ge 17, 3) := by decide +kernel
theorem dX5_setVetted_22 : decode cX5_setVetted 22 = .ok (.aload_n 0, 1) := by decide +kernel
theorem dX5_setVetted_23 : decode cX5_setVetted 23 = .ok (.getfield 9, 3) := by decide +kernel
theorem dX5_setVetted_26 : decode cX5_setVetted 26 = .ok (.iload_n 1, 1) := by decide +kernel
theorem dX5_setVetted_27 : decode cX5_setVetted 27 = .ok (.iload_n 2, 1) := by decide +kernel
theorem dX5_setVetted_28 : decode cX5_setVetted 28 = .ok (.iastore, 1) := by decide +kernel
theorem dX5_setVetted_29 : decode cX5_setVetted 29 = .ok (.aload_n 0, 1) := by decide +kernel
theorem dX5_setVetted_30 : decode cX5_setVetted 30 = .ok (.getfield 15, 3) := by decide +kernel
theorem dX5_setVetted_33 : decode cX5_setVetted 33 = .ok (.iload_n 1, 1) := by decide +kernel
theorem dX5_setVetted_34 : decode cX5_setVetted 34 = .ok (.iload_n 3, 1) := by decide +kernel
theorem dX5_setVetted_35 : decode cX5_setVetted 35 = .ok (.iastore, 1) := by decide +kernel
theorem dX5_setVetted_36 : decode cX5_setVetted 36 = .ok (.return_, 1) := by decide +kernel
theorem dX5_isVetted_0 : decode cX5_isVetted 0 = .ok (.iload_n 1, 1) := by decide +kernel
theorem dX5_isVetted_1 : decode cX5_isVetted 1 = .ok (.ifCond .lt 45, 3) := by decide +kernel
theorem dX5_isVetted_4 : decode cX5_isVetted 4 = .ok (.iload_n 1, 1) := by decide +kernel
theorem dX5_isVetted_5 : decode cX5_isVetted 5 = .ok (.aload_n 0, 1) := by decide +kernel
theorem dX5_isVetted_6 : decode cX5_isVetted 6 = .ok (.getfield 9, 3) := by decide +kernel
theorem dX5_isVetted_9 : decode cX5_isVetted 9 = .ok (.arraylength, 1) := by decide +kernel
theorem dX5_isVetted_10 : decode cX5_isVetted 10 = .ok (.if_icmp .ge 36, 3) := by decide +kernel
theorem dX5_isVetted_13 : decode cX5_isVetted 13 = .ok (.iload_n 1, 1) := by decide +kernel
theorem dX5_isVetted_14 : decode cX5_isVetted 14 = .ok (.aload_n 0, 1) := by decide +kernel
theorem dX5_isVetted_15 : decode cX5_isVetted 15 = .ok (.getfield 15, 3) := by decide +kernel
theorem dX5_isVetted_18 : decode cX5_isVetted 18 = .ok (.arraylength, 1) := by decide +kernel
theorem dX5_isVetted_19 : decode cX5_isVetted 19 = .ok (.if_icmp .ge 27, 3) := by decide +kernel
theorem dX5_isVetted_22 : decode cX5_isVetted 22 = .ok (.iload_n 2, 1) := by decide +kernel
theorem dX5_isVetted_23 : decode cX5_isVetted 23 = .ok (.aload_n 0, 1) := by decide +kernel
theorem dX5_isVetted_24 : decode cX5_isVetted 24 = .ok (.getfield 9, 3) := by decide +kernel
theorem dX5_isVetted_27 : decode cX5_isVetted 27 = .ok (.iload_n 1, 1) := by decide +kernel
theorem dX5_isVetted_28 : decode cX5_isVetted 28 = .ok (.iaload, 1) := by decide +kernel
theorem dX5_isVetted_29 : decode cX5_isVetted 29 = .ok (.if_icmp .lt 17, 3) := by decide +kernel
theorem dX5_isVetted_32 : decode cX5_isVetted 32 = .ok (.iload_n 2, 1) := by decide +kernel
theorem dX5_isVetted_33 : decode cX5_isVetted 33 = .ok (.aload_n 0, 1) := by decide +kernel
theorem dX5_isVetted_34 : decode cX5_isVetted 34 = .ok (.getfield 15, 3) := by decide +kernel
theorem dX5_isVetted_37 : decode cX5_isVetted 37 = .ok (.iload_n 1, 1) := by decide +kernel
theorem dX5_isVetted_38 : decode cX5_isVetted 38 = .ok (.iaload, 1) := by decide +kernel
theorem dX5_isVetted_39 : decode cX5_isVetted 39 = .ok (.if_icmp .gt 7, 3) := by decide +kernel
theorem dX5_isVetted_42 : decode cX5_isVetted 42 = .ok (.iconst 1, 1) := by decide +kernel
theorem dX5_isVetted_43 : decode cX5_isVetted 43 = .ok (.goto 4, 3) := by decide +kernel
theorem dX5_isVetted_46 : decode cX5_isVetted 46 = .ok (.iconst 0, 1) := by decide +kernel
theorem dX5_isVetted_47 : decode cX5_isVetted 47 = .ok (.ireturn, 1) := by decide +kernel
theorem dX5_isVettedSomewhere_0 : decode cX5_isVettedSomewhere 0 = .ok (.iconst 0, 1) := by decide +kernel
theorem dX5_isVettedSomewhere_1 : decode cX5_isVettedSomewhere 1 = .ok (.istore_n 2, 1) := by decide +kernel
theorem dX5_isVettedSomewhere_2 : decode cX5_isVettedSomewhere 2 = .ok (.iload_n 2, 1) := by decide +kernel
theorem dX5_isVettedSomewhere_3 : decode cX5_isVettedSomewhere 3 = .ok (.iconst 3, 1) := by decide +kernel
theorem dX5_isVettedSomewhere_4 : decode cX5_isVettedSomewhere 4 = .ok (.if_icmp .ge 20, 3) := by decide +kernel
theorem dX5_isVettedSomewhere_7 : decode cX5_isVettedSomewhere 7 = .ok (.aload_n 0, 1) := by decide +kernel
theorem dX5_isVettedSomewhere_8 : decode cX5_isVettedSomewhere 8 = .ok (.iload_n 2, 1) := by decide +kernel
theorem dX5_isVettedSomewhere_9 : decode cX5_isVettedSomewhere 9 = .ok (.iload_n 1, 1) := by decide +kernel
theorem dX5_isVettedSomewhere_10 : decode cX5_isVettedSomewhere 10 = .ok (.invokevirtual 21, 3) := by decide +kernel
theorem dX5_isVettedSomewhere_13 : decode cX5_isVettedSomewhere 13 = .ok (.ifCond .eq 5, 3) := by decide +kernel
theorem dX5_isVettedSomewhere_16 : decode cX5_isVettedSomewhere 16 = .ok (.iconst 1, 1) := by decide +kernel
theorem dX5_isVettedSomewhere_17 : decode cX5_isVettedSomewhere 17 = .ok (.ireturn, 1) := by decide +kernel
theorem dX5_isVettedSomewhere_18 : decode cX5_isVettedSomewhere 18 = .ok (.iinc 2 1, 3) := by decide +kernel
theorem dX5_isVettedSomewhere_21 : decode cX5_isVettedSomewhere 21 = .ok (.goto (-19), 3) := by decide +kernel
theorem dX5_isVettedSomewhere_24 : decode cX5_isVettedSomewhere 24 = .ok (.iconst 0, 1) := by decide +kernel
theorem dX5_isVettedSomewhere_25 : decode cX5_isVettedSomewhere 25 = .ok (.ireturn, 1) := by decide +kernel
theorem dX5_setPermit_0 : decode cX5_setPermit 0 = .ok (.iload_n 1, 1) := by decide +kernel
theorem dX5_setPermit_1 : decode cX5_setPermit 1 = .ok (.ifCond .lt 19, 3) := by decide +kernel
theorem dX5_setPermit_4 : decode cX5_setPermit 4 = .ok (.iload_n 1, 1) := by decide +kernel
theorem dX5_setPermit_5 : decode cX5_setPermit 5 = .ok (.aload_n 0, 1) := by decide +kernel
theorem dX5_setPermit_6 : decode cX5_setPermit 6 = .ok (.getfield 18, 3) := by decide +kernel
theorem dX5_setPermit_9 : decode cX5_setPermit 9 = .ok (.arraylength, 1) := by decide +kernel
theorem dX5_setPermit_10 : decode cX5_setPermit 10 = .ok (.if_icmp .ge 10, 3) := by decide +kernel
theorem dX5_setPermit_13 : decode cX5_setPermit 13 = .ok (.aload_n 0, 1) := by decide +kernel
theorem dX5_setPermit_14 : decode cX5_setPermit 14 = .ok (.getfield 18, 3) := by decide +kernel
theorem dX5_setPermit_17 : decode cX5_setPermit 17 = .ok (.iload_n 1, 1) := by decide +kernel
theorem dX5_setPermit_18 : decode cX5_setPermit 18 = .ok (.iload_n 2, 1) := by decide +kernel
theorem dX5_setPermit_19 : decode cX5_setPermit 19 = .ok (.iastore, 1) := by decide +kernel
theorem dX5_setPermit_20 : decode cX5_setPermit 20 = .ok (.return_, 1) := by decide +kernel
theorem dX5_permitOf_0 : decode cX5_permitOf 0 = .ok (.iload_n 1, 1) := by decide +kernel
theorem dX5_permitOf_1 : decode cX5_permitOf 1 = .ok (.ifCond .lt 21, 3) := by decide +kernel
theorem dX5_permitOf_4 : decode cX5_permitOf 4 = .ok (.iload_n 1, 1) := by decide +kernel
theorem dX5_permitOf_5 : decode cX5_permitOf 5 = .ok (.aload_n 0, 1) := by decide +kernel
theorem dX5_permitOf_6 : decode cX5_permitOf 6 = .ok (.getfield 18, 3) := by decide +kernel
theorem dX5_permitOf_9 : decode cX5_permitOf 9 = .ok (.arraylength, 1) := by decide +kernel
theorem dX5_permitOf_10 : decode cX5_permitOf 10 = .ok (.if_icmp .ge 12, 3) := by decide +kernel
theorem dX5_permitOf_13 : decode cX5_permitOf 13 = .ok (.aload_n 0, 1) := by decide +kernel
theorem dX5_permitOf_14 : decode cX5_permitOf 14 = .ok (.getfield 18, 3) := by decide +kernel
theorem dX5_permitOf_17 : decode cX5_permitOf 17 = .ok (.iload_n 1, 1) := by decide +kernel
theorem dX5_permitOf_18 : decode cX5_permitOf 18 = .ok (.iaload, 1) := by decide +kernel
theorem dX5_permitOf_19 : decode cX5_permitOf 19 = .ok (.goto 4, 3) := by decide +kernel
theorem dX5_permitOf_22 : decode cX5_permitOf 22 = .ok (.iconst (-1), 1) := by decide +kernel
theorem dX5_permitOf_23 : decode cX5_permitOf 23 = .ok (.ireturn, 1) := by decide +kernel
theorem dX5_mayLead_0 : decode cX5_mayLead 0 = .ok (.iload_n 1, 1) := by decide +kernel
theorem dX5_mayLead_1 : decode cX5_mayLead 1 = .ok (.ifCond .eq 12, 3) := by decide +kernel
theorem dX5_mayLead_4 : decode cX5_mayLead 4 = .ok (.iload_n 2, 1) := by decide +kernel
theorem dX5_mayLead_5 : decode cX5_mayLead 5 = .ok (.aload_n 0, 1) := by decide +kernel
theorem dX5_mayLead_6 : decode cX5_mayLead 6 = .ok (.iload_n 1, 1) := by decide +kernel
theorem dX5_mayLead_7 : decode cX5_mayLead 7 = .ok (.invokevirtual 25, 3) := by decide +kernel
theorem dX5_mayLead_10 : decode cX5_mayLead 10 = .ok (.if_icmp .gt 7, 3) := by decide +kernel
theorem dX5_mayLead_13 : decode cX5_mayLead 13 = .ok (.iconst 1, 1) := by decide +kernel
theorem dX5_mayLead_14 : decode cX5_mayLead 14 = .ok (.goto 4, 3) := by decide +kernel
theorem dX5_mayLead_17 : decode cX5_mayLead 17 = .ok (.iconst 0, 1) := by decide +kernel
theorem dX5_mayLead_18 : decode cX5_mayLead 18 = .ok (.ireturn, 1) := by decide +kernel
theorem dX6_init_0 : decode cX6_init 0 = .ok (.aload_n 0, 1) := by decide +kernel
theorem dX6_init_1 : decode cX6_init 1 = .ok (.invokespecial 3, 3) := by decide +kernel
theorem dX6_init_4 : decode cX6_init 4 = .ok (.aload_n 0, 1) := by decide +kernel
theorem dX6_init_5 : decode cX6_init 5 = .ok (.iload_n 1, 1) := by decide +kernel
theorem dX6_init_6 : decode cX6_init 6 = .ok (.putfield 9, 3) := by decide +kernel
theorem dX6_init_9 : decode cX6_init 9 = .ok (.aload_n 0, 1) := by decide +kernel
theorem dX6_init_10 : decode cX6_init 10 = .ok (.iload_n 2, 1) := by decide +kernel
theorem dX6_init_11 : decode cX6_init 11 = .ok (.putfield 15, 3) := by decide +kernel
theorem dX6_init_14 : decode cX6_init 14 = .ok (.aload_n 0, 1) := by decide +kernel
theorem dX6_init_15 : decode cX6_init 15 = .ok (.iload_n 3, 1) := by decide +kernel
theorem dX6_init_16 : decode cX6_init 16 = .ok (.putfield 18, 3) := by decide +kernel
theorem dX6_init_19 : decode cX6_init 19 = .ok (.aload_n 0, 1) := by decide +kernel
theorem dX6_init_20 : decode cX6_init 20 = .ok (.iload 4, 2) := by decide +kernel
theorem dX6_init_22 : decode cX6_init 22 = .ok (.putfield 21, 3) := by decide +kernel
theorem dX6_init_25 : decode cX6_init 25 = .ok (.aload_n 0, 1) := by decide +kernel
theorem dX6_init_26 : decode cX6_init 26 = .ok (.iload_n 1, 1) := by decide +kernel
theorem dX6_init_27 : decode cX6_init 27 = .ok (.iload_n 2, 1) := by decide +kernel
theorem dX6_init_28 : decode cX6_init 28 = .ok (.invokestatic 24, 3) := by decide +kernel
theorem dX6_init_31 : decode cX6_init 31 = .ok (.putfield 28, 3) := by decide +kernel
theorem dX6_init_34 : decode cX6_init 34 = .ok (.return_, 1) := by decide +kernel
theorem dX6_leastLeaders_0 : decode cX6_leastLeaders 0 = .ok (.iload_n 0, 1) := by decide +kernel
theorem dX6_leastLeaders_1 : decode cX6_leastLeaders 1 = .ok (.iconst 1, 1) := by decide +kernel
theorem dX6_leastLeaders_2 : decode cX6_leastLeaders 2 = .ok (.if_icmp .ne 5, 3) := by decide +kernel
theorem dX6_leastLeaders_5 : decode cX6_leastLeaders 5 = .ok (.iconst 2, 1) := by decide +kernel
theorem dX6_leastLeaders_6 : decode cX6_leastLeaders 6 = .ok (.ireturn, 1) := by decide +kernel
theorem dX6_leastLeaders_7 : decode cX6_leastLeaders 7 = .ok (.iconst 0, 1) := by decide +kernel
theorem dX6_leastLeaders_8 : decode cX6_leastLeaders 8 = .ok (.istore_n 2, 1) := by decide +kernel
theorem dX6_leastLeaders_9 : decode cX6_leastLeaders 9 = .ok (.iload_n 2, 1) := by decide +kernel
theorem dX6_leastLeaders_10 : decode cX6_leastLeaders 10 = .ok (.iload_n 0, 1) := by decide +kernel
theorem dX6_leastLeaders_11 : decode cX6_leastLeaders 11 = .ok (.if_icmp .ge 18, 3) := by decide +kernel
theorem dX6_leastLeaders_14 : decode cX6_leastLeaders 14 = .ok (.iload_n 2, 1) := by decide +kernel
theorem dX6_leastLeaders_15 : decode cX6_leastLeaders 15 = .ok (.iload_n 1, 1) := by decide +kernel
theorem dX6_leastLeaders_16 : decode cX6_leastLeaders 16 = .ok (.imul, 1) := by decide +kernel
theorem dX6_leastLeaders_17 : decode cX6_leastLeaders 17 = .ok (.iload_n 0, 1) := by decide +kernel
theorem dX6_leastLeaders_18 : decode cX6_leastLeaders 18 = .ok (.if_icmp .lt 5, 3) := by decide +kernel
theorem dX6_leastLeaders_21 : decode cX6_leastLeaders 21 = .ok (.iload_n 2, 1) := by decide +kernel
theorem dX6_leastLeaders_22 : decode cX6_leastLeaders 22 = .ok (.ireturn, 1) := by decide +kernel
theorem dX6_leastLeaders_23 : decode cX6_leastLeaders 23 = .ok (.iinc 2 1, 3) := by decide +kernel
theorem dX6_leastLeaders_26 : decode cX6_leastLeaders 26 = .ok (.goto (-17), 3) := by decide +kernel
theorem dX6_leastLeaders_29 : decode cX6_leastLeaders 29 = .ok (.iload_n 0, 1) := by decide +kernel
theorem dX6_leastLeaders_30 : decode cX6_leastLeaders 30 = .ok (.ireturn, 1) := by decide +kernel
theorem dX6_verdict_0 : decode cX6_verdict 0 = .ok (.iload_n 1, 1) := by decide +kernel
theorem dX6_verdict_1 : decode cX6_verdict 1 = .ok (.invokestatic 31, 3) := by decide +kernel
theorem dX6_verdict_4 : decode cX6_verdict 4 = .ok (.istore_n 2, 1) := by decide +kernel
theorem dX6_verdict_5 : decode cX6_verdict 5 = .ok (.aload_n 0, 1) := by decide +kernel
theorem dX6_verdict_6 : decode cX6_verdict 6 = .ok (.getfield 9, 3) := by decide +kernel
theorem dX6_verdict_9 : decode cX6_verdict 9 = .ok (.ifCond .ne 5, 3) := by decide +kernel
theorem dX6_verdict_12 : decode cX6_verdict 12 = .ok (.iconst 0, 1) := by decide +kernel
theorem dX6_verdict_13 : decode cX6_verdict 13 = .ok (.ireturn, 1) := by decide +kernel
theorem dX6_verdict_14 : decode cX6_verdict 14 = .ok (.iload_n 2, 1) := by decide +kernel
theorem dX6_verdict_15 : decode cX6_verdict 15 = .ok (.aload_n 0, 1) := by decide +kernel
theorem dX6_verdict_16 : decode cX6_verdict 16 = .ok (.getfield 15, 3) := by decide +kernel
theorem dX6_verdict_19 : decode cX6_verdict 19 = .ok (.imul, 1) := by decide +kernel
theorem dX6_verdict_20 : decode cX6_verdict 20 = .ok (.aload_n 0, 1) := by decide +kernel
theorem dX6_verdict_21 : decode cX6_verdict 21 = .ok (.getfield 9, 3) := by decide +kernel
theorem dX6_verdict_24 : decode cX6_verdict 24 = .ok (.if_icmp .ge 5, 3) := by decide +kernel
theorem dX6_verdict_27 : decode cX6_verdict 27 = .ok (.iconst 1, 1) := by decide +kernel
theorem dX6_verdict_28 : decode cX6_verdict 28 = .ok (.ireturn, 1) := by decide +kernel
theorem dX6_verdict_29 : decode cX6_verdict 29 = .ok (.iload_n 1, 1) := by decide +kernel
theorem dX6_verdict_30 : decode cX6_verdict 30 = .ok (.aload_n 0, 1) := by decide +kernel
theorem dX6_verdict_31 : decode cX6_verdict 31 = .ok (.getfield 18, 3) := by decide +kernel
theorem dX6_verdict_34 : decode cX6_verdict 34 = .ok (.iconst (-1), 1) := by decide +kernel
theorem dX6_verdict_35 : decode cX6_verdict 35 = .ok (.ixor, 1) := by decide +kernel
theorem dX6_verdict_36 : decode cX6_verdict 36 = .ok (.iand, 1) := by decide +kernel
theorem dX6_verdict_37 : decode cX6_verdict 37 = .ok (.ifCond .eq 5, 3) := by decide +kernel
theorem dX6_verdict_40 : decode cX6_verdict 40 = .ok (.iconst 2, 1) := by decide +kernel
theorem dX6_verdict_41 : decode cX6_verdict 41 = .ok (.ireturn, 1) := by decide +kernel
theorem dX6_verdict_42 : decode cX6_verdict 42 = .ok (.iload_n 1, 1) := by decide +kernel
theorem dX6_verdict_43 : decode cX6_verdict 43 = .ok (.aload_n 0, 1) := by decide +kernel
theorem dX6_verdict_44 : decode cX6_verdict 44 = .ok (.getfield 21, 3) := by decide +kernel
theorem dX6_verdict_47 : decode cX6_verdict 47 = .ok (.iand, 1) := by decide +kernel
theorem dX6_verdict_48 : decode cX6_verdict 48 = .ok (.ifCond .ne 5, 3) := by decide +kernel
theorem dX6_verdict_51 : decode cX6_verdict 51 = .ok (.iconst 3, 1) := by decide +kernel
theorem dX6_verdict_52 : decode cX6_verdict 52 = .ok (.ireturn, 1) := by decide +kernel
theorem dX6_verdict_53 : decode cX6_verdict 53 = .ok (.iload_n 2, 1) := by decide +kernel
theorem dX6_verdict_54 : decode cX6_verdict 54 = .ok (.iconst 1, 1) := by decide +kernel
theorem dX6_verdict_55 : decode cX6_verdict 55 = .ok (.if_icmp .ne 15, 3) := by decide +kernel
theorem dX6_verdict_58 : decode cX6_verdict 58 = .ok (.aload_n 0, 1) := by decide +kernel
theorem dX6_verdict_59 : decode cX6_verdict 59 = .ok (.getfield 9, 3) := by decide +kernel
theorem dX6_verdict_62 : decode cX6_verdict 62 = .ok (.iconst 1, 1) := by decide +kernel
theorem dX6_verdict_63 : decode cX6_verdict 63 = .ok (.if_icmp .ne 7, 3) := by decide +kernel
theorem dX6_verdict_66 : decode cX6_verdict 66 = .ok (.iconst 4, 1) := by decide +kernel
theorem dX6_verdict_67 : decode cX6_verdict 67 = .ok (.goto 4, 3) := by decide +kernel
theorem dX6_verdict_70 : decode cX6_verdict 70 = .ok (.iconst 0, 1) := by decide +kernel
theorem dX6_verdict_71 : decode cX6_verdict 71 = .ok (.ireturn, 1) := by decide +kernel
theorem dX7_init_0 : decode cX7_init 0 = .ok (.aload_n 0, 1) := by decide +kernel
theorem dX7_init_1 : decode cX7_init 1 = .ok (.invokespecial 1, 3) := by decide +kernel
theorem dX7_init_4 : decode cX7_init 4 = .ok (.aload_n 0, 1) := by decide +kernel
theorem dX7_init_5 : decode cX7_init 5 = .ok (.iload_n 1, 1) := by decide +kernel
theorem dX7_init_6 : decode cX7_init 6 = .ok (.putfield 7, 3) := by decide +kernel
theorem dX7_init_9 : decode cX7_init 9 = .ok (.aload_n 0, 1) := by decide +kernel
theorem dX7_init_10 : decode cX7_init 10 = .ok (.iload_n 2, 1) := by decide +kernel
theorem dX7_init_11 : decode cX7_init 11 = .ok (.putfield 13, 3) := by decide +kernel
theorem dX7_init_14 : decode cX7_init 14 = .ok (.aload_n 0, 1) := by decide +kernel
theorem dX7_init_15 : decode cX7_init 15 = .ok (.iload_n 3, 1) := by decide +kernel
theorem dX7_init_16 : decode cX7_init 16 = .ok (.putfield 16, 3) := by decide +kernel
theorem dX7_init_19 : decode cX7_init 19 = .ok (.aload_n 0, 1) := by decide +kernel
theorem dX7_init_20 : decode cX7_init 20 = .ok (.iload 4, 2) := by decide +kernel
theorem dX7_init_22 : decode cX7_init 22 = .ok (.putfield 19, 3) := by decide +kernel
theorem dX7_init_25 : decode cX7_init 25 = .ok (.return_, 1) := by decide +kernel
theorem dX7_isFor_0 : decode cX7_isFor 0 = .ok (.iload_n 1, 1) := by decide +kernel
theorem dX7_isFor_1 : decode cX7_isFor 1 = .ok (.aload_n 0, 1) := by decide +kernel
theorem dX7_isFor_2 : decode cX7_isFor 2 = .ok (.getfield 13, 3) := by decide +kernel
theorem dX7_isFor_5 : decode cX7_isFor 5 = .ok (.if_icmp .lt 15, 3) := by decide +kernel
theorem dX7_isFor_8 : decode cX7_isFor 8 = .ok (.iload_n 1, 1) := by decide +kernel
theorem dX7_isFor_9 : decode cX7_isFor 9 = .ok (.aload_n 0, 1) := by decide +kernel
theorem dX7_isFor_10 : decode cX7_isFor 10 = .ok (.getfield 16, 3) := by decide +kernel
theorem dX7_isFor_13 : decode cX7_isFor 13 = .ok (.if_icmp .gt 7, 3) := by decide +kernel
theorem dX7_isFor_16 : decode cX7_isFor 16 = .ok (.iconst 1, 1) := by decide +kernel
theorem dX7_isFor_17 : decode cX7_isFor 17 = .ok (.goto 4, 3) := by decide +kernel
theorem dX7_isFor_20 : decode cX7_isFor 20 = .ok (.iconst 0, 1) := by decide +kernel
theorem dX7_isFor_21 : decode cX7_isFor 21 = .ok (.ireturn, 1) := by decide +kernel
theorem dJ6_bitCount_0f7a4_0 : decode cJ6_bitCount_0f7a4 0 = .ok (.iload_n 0, 1) := by decide +kernel
theorem dJ6_bitCount_0f7a4_1 : decode cJ6_bitCount_0f7a4 1 = .ok (.iload_n 0, 1) := by decide +kernel
theorem dJ6_bitCount_0f7a4_2 : decode cJ6_bitCount_0f7a4 2 = .ok (.iconst 1, 1) := by decide +kernel
theorem dJ6_bitCount_0f7a4_3 : decode cJ6_bitCount_0f7a4 3 = .ok (.iushr, 1) := by decide +kernel
theorem dJ6_bitCount_0f7a4_4 : decode cJ6_bitCount_0f7a4 4 = .ok (.ldc_w 265, 3) := by decide +kernel
theorem dJ6_bitCount_0f7a4_7 : decode cJ6_bitCount_0f7a4 7 = .ok (.iand, 1) := by decide +kernel
theorem dJ6_bitCount_0f7a4_8 : decode cJ6_bitCount_0f7a4 8 = .ok (.isub, 1) := by decide +kernel
theorem dJ6_bitCount_0f7a4_9 : decode cJ6_bitCount_0f7a4 9 = .ok (.istore_n 0, 1) := by decide +kernel
theorem dJ6_bitCount_0f7a4_10 : decode cJ6_bitCount_0f7a4 10 = .ok (.iload_n 0, 1) := by decide +kernel
theorem dJ6_bitCount_0f7a4_11 : decode cJ6_bitCount_0f7a4 11 = .ok (.ldc_w 266, 3) := by decide +kernel
theorem dJ6_bitCount_0f7a4_14 : decode cJ6_bitCount_0f7a4 14 = .ok (.iand, 1) := by decide +kernel
theorem dJ6_bitCount_0f7a4_15 : decode cJ6_bitCount_0f7a4 15 = .ok (.iload_n 0, 1) := by decide +kernel
theorem dJ6_bitCount_0f7a4_16 : decode cJ6_bitCount_0f7a4 16 = .ok (.iconst 2, 1) := by decide +kernel
theorem dJ6_bitCount_0f7a4_17 : decode cJ6_bitCount_0f7a4 17 = .ok (.iushr, 1) := by decide +kernel
theorem dJ6_bitCount_0f7a4_18 : decode cJ6_bitCount_0f7a4 18 = .ok (.ldc_w 266, 3) := by decide +kernel
theorem dJ6_bitCount_0f7a4_21 : decode cJ6_bitCount_0f7a4 21 = .ok (.iand, 1) := by decide +kernel
theorem dJ6_bitCount_0f7a4_22 : decode cJ6_bitCount_0f7a4 22 = .ok (.iadd, 1) := by decide +kernel
theorem dJ6_bitCount_0f7a4_23 : decode cJ6_bitCount_0f7a4 23 = .ok (.istore_n 0, 1) := by decide +kernel
theorem dJ6_bitCount_0f7a4_24 : decode cJ6_bitCount_0f7a4 24 = .ok (.iload_n 0, 1) := by decide +kernel
theorem dJ6_bitCount_0f7a4_25 : decode cJ6_bitCount_0f7a4 25 = .ok (.iload_n 0, 1) := by decide +kernel
theorem dJ6_bitCount_0f7a4_26 : decode cJ6_bitCount_0f7a4 26 = .ok (.iconst 4, 1) := by decide +kernel
theorem dJ6_bitCount_0f7a4_27 : decode cJ6_bitCount_0f7a4 27 = .ok (.iushr, 1) := by decide +kernel
theorem dJ6_bitCount_0f7a4_28 : decode cJ6_bitCount_0f7a4 28 = .ok (.iadd, 1) := by decide +kernel
theorem dJ6_bitCount_0f7a4_29 : decode cJ6_bitCount_0f7a4 29 = .ok (.ldc_w 267, 3) := by decide +kernel
theorem dJ6_bitCount_0f7a4_32 : decode cJ6_bitCount_0f7a4 32 = .ok (.iand, 1) := by decide +kernel
theorem dJ6_bitCount_0f7a4_33 : decode cJ6_bitCount_0f7a4 33 = .ok (.istore_n 0, 1) := by decide +kernel
theorem dJ6_bitCount_0f7a4_34 : decode cJ6_bitCount_0f7a4 34 = .ok (.iload_n 0, 1) := by decide +kernel
theorem dJ6_bitCount_0f7a4_35 : decode cJ6_bitCount_0f7a4 35 = .ok (.iload_n 0, 1) := by decide +kernel
theorem dJ6_bitCount_0f7a4_36 : decode cJ6_bitCount_0f7a4 36 = .ok (.bipush 8, 2) := by decide +kernel
theorem dJ6_bitCount_0f7a4_38 : decode cJ6_bitCount_0f7a4 38 = .ok (.iushr, 1) := by decide +kernel
theorem dJ6_bitCount_0f7a4_39 : decode cJ6_bitCount_0f7a4 39 = .ok (.iadd, 1) := by decide +kernel
theorem dJ6_bitCount_0f7a4_40 : decode cJ6_bitCount_0f7a4 40 = .ok (.istore_n 0, 1) := by decide +kernel
theorem dJ6_bitCount_0f7a4_41 : decode cJ6_bitCount_0f7a4 41 = .ok (.iload_n 0, 1) := by decide +kernel
theorem dJ6_bitCount_0f7a4_42 : decode cJ6_bitCount_0f7a4 42 = .ok (.iload_n 0, 1) := by decide +kernel
theorem dJ6_bitCount_0f7a4_43 : decode cJ6_bitCount_0f7a4 43 = .ok (.bipush 16, 2) := by decide +kernel
theorem dJ6_bitCount_0f7a4_45 : decode cJ6_bitCount_0f7a4 45 = .ok (.iushr, 1) := by decide +kernel
theorem dJ6_bitCount_0f7a4_46 : decode cJ6_bitCount_0f7a4 46 = .ok (.iadd, 1) := by decide +kernel
theorem dJ6_bitCount_0f7a4_47 : decode cJ6_bitCount_0f7a4 47 = .ok (.istore_n 0, 1) := by decide +kernel
theorem dJ6_bitCount_0f7a4_48 : decode cJ6_bitCount_0f7a4 48 = .ok (.iload_n 0, 1) := by decide +kernel
theorem dJ6_bitCount_0f7a4_49 : decode cJ6_bitCount_0f7a4 49 = .ok (.bipush 63, 2) := by decide +kernel
theorem dJ6_bitCount_0f7a4_51 : decode cJ6_bitCount_0f7a4 51 = .ok (.iand, 1) := by decide +kernel
theorem dJ6_bitCount_0f7a4_52 : decode cJ6_bitCount_0f7a4 52 = .ok (.ireturn, 1) := by decide +kernel
theorem dJ9_max_7cf53_0 : decode cJ9_max_7cf53 0 = .ok (.iload_n 0, 1) := by decide +kernel
theorem dJ9_max_7cf53_1 : decode cJ9_max_7cf53 1 = .ok (.iload_n 1, 1) := by decide +kernel
theorem dJ9_max_7cf53_2 : decode cJ9_max_7cf53 2 = .ok (.if_icmp .lt 7, 3) := by decide +kernel
theorem dJ9_max_7cf53_5 : decode cJ9_max_7cf53 5 = .ok (.iload_n 0, 1) := by decide +kernel
theorem dJ9_max_7cf53_6 : decode cJ9_max_7cf53 6 = .ok (.goto 4, 3) := by decide +kernel
theorem dJ9_max_7cf53_9 : decode cJ9_max_7cf53 9 = .ok (.iload_n 1, 1) := by decide +kernel
theorem dJ9_max_7cf53_10 : decode cJ9_max_7cf53 10 = .ok (.ireturn, 1) := by decide +kernel
theorem dJ9_min_7cf53_0 : decode cJ9_min_7cf53 0 = .ok (.iload_n 0, 1) := by decide +kernel
theorem dJ9_min_7cf53_1 : decode cJ9_min_7cf53 1 = .ok (.iload_n 1, 1) := by decide +kernel
theorem dJ9_min_7cf53_2 : decode cJ9_min_7cf53 2 = .ok (.if_icmp .gt 7, 3) := by decide +kernel
theorem dJ9_min_7cf53_5 : decode cJ9_min_7cf53 5 = .ok (.iload_n 0, 1) := by decide +kernel
theorem dJ9_min_7cf53_6 : decode cJ9_min_7cf53 6 = .ok (.goto 4, 3) := by decide +kernel
theorem dJ9_min_7cf53_9 : decode cJ9_min_7cf53 9 = .ok (.iload_n 1, 1) := by decide +kernel
theorem dJ9_min_7cf53_10 : decode cJ9_min_7cf53 10 = .ok (.ireturn, 1) := by decide +kernel
theorem dJxa1e45_init_da8c8_0 : decode cJxa1e45_init_da8c8 0 = .ok (.aload_n 0, 1) := by decide +kernel
theorem dJxa1e45_init_da8c8_1 : decode cJxa1e45_init_da8c8 1 = .ok (.invokespecial 1, 3) := by decide +kernel
theorem dJxa1e45_init_da8c8_4 : decode cJxa1e45_init_da8c8 4 = .ok (.return_, 1) := by decide +kernel
theorem dJxc12de_init_da8c8_0 : decode cJxc12de_init_da8c8 0 = .ok (.aload_n 0, 1) := by decide +kernel
theorem dJxc12de_init_da8c8_1 : decode cJxc12de_init_da8c8 1 = .ok (.invokespecial 1, 3) := by decide +kernel
theorem dJxc12de_init_da8c8_4 : decode cJxc12de_init_da8c8 4 = .ok (.aload_n 0, 1) := by decide +kernel
theorem dJxc12de_init_da8c8_5 : decode cJxc12de_init_da8c8 5 = .ok (.iconst 0, 1) := by decide +kernel
theorem dJxc12de_init_da8c8_6 : decode cJxc12de_init_da8c8 6 = .ok (.putfield 7, 3) := by decide +kernel
theorem dJxc12de_init_da8c8_9 : decode cJxc12de_init_da8c8 9 = .ok (.return_, 1) := by decide +kernel
theorem dJx4a65c_init_da8c8_0 : decode cJx4a65c_init_da8c8 0 = .ok (.aload_n 0, 1) := by decide +kernel
theorem dJx4a65c_init_da8c8_1 : decode cJx4a65c_init_da8c8 1 = .ok (.invokespecial 1, 3) := by decide +kernel
theorem dJx4a65c_init_da8c8_4 : decode cJx4a65c_init_da8c8 4 = .ok (.aload_n 0, 1) := by decide +kernel
theorem dJx4a65c_init_da8c8_5 : decode cJx4a65c_init_da8c8 5 = .ok (.getstatic 39, 3) := by decide +kernel
theorem dJx4a65c_init_da8c8_8 : decode cJx4a65c_init_da8c8 8 = .ok (.putfield 9, 3) := by decide +kernel
theorem dJx4a65c_init_da8c8_11 : decode cJx4a65c_init_da8c8 11 = .ok (.return_, 1) := by decide +kernel
theorem dJx4a65c_grow_92f84_0 : decode cJx4a65c_grow_92f84 0 = .ok (.aload_n 0, 1) := by decide +kernel
theorem dJx4a65c_grow_92f84_1 : decode cJx4a65c_grow_92f84 1 = .ok (.getfield 9, 3) := by decide +kernel
theorem dJx4a65c_grow_92f84_4 : decode cJx4a65c_grow_92f84 4 = .ok (.arraylength, 1) := by decide +kernel
theorem dJx4a65c_grow_92f84_5 : decode cJx4a65c_grow_92f84 5 = .ok (.istore_n 2, 1) := by decide +kernel
theorem dJx4a65c_grow_92f84_6 : decode cJx4a65c_grow_92f84 6 = .ok (.iload_n 2, 1) := by decide +kernel
theorem dJx4a65c_grow_92f84_7 : decode cJx4a65c_grow_92f84 7 = .ok (.ifCond .gt 13, 3) := by decide +kernel
theorem dJx4a65c_grow_92f84_10 : decode cJx4a65c_grow_92f84 10 = .ok (.aload_n 0, 1) := by decide +kernel
theorem dJx4a65c_grow_92f84_11 : decode cJx4a65c_grow_92f84 11 = .ok (.getfield 9, 3) := by decide +kernel
theorem dJx4a65c_grow_92f84_14 : decode cJx4a65c_grow_92f84 14 = .ok (.getstatic 39, 3) := by decide +kernel
theorem dJx4a65c_grow_92f84_17 : decode cJx4a65c_grow_92f84 17 = .ok (.if_acmp .eq 28, 3) := by decide +kernel
theorem dJx4a65c_grow_92f84_20 : decode cJx4a65c_grow_92f84 20 = .ok (.iload_n 2, 1) := by decide +kernel
theorem dJx4a65c_grow_92f84_21 : decode cJx4a65c_grow_92f84 21 = .ok (.iload_n 1, 1) := by decide +kernel
theorem dJx4a65c_grow_92f84_22 : decode cJx4a65c_grow_92f84 22 = .ok (.iload_n 2, 1) := by decide +kernel
theorem dJx4a65c_grow_92f84_23 : decode cJx4a65c_grow_92f84 23 = .ok (.isub, 1) := by decide +kernel
theorem dJx4a65c_grow_92f84_24 : decode cJx4a65c_grow_92f84 24 = .ok (.iload_n 2, 1) := by decide +kernel
theorem dJx4a65c_grow_92f84_25 : decode cJx4a65c_grow_92f84 25 = .ok (.iconst 1, 1) := by decide +kernel
theorem dJx4a65c_grow_92f84_26 : decode cJx4a65c_grow_92f84 26 = .ok (.ishr, 1) := by decide +kernel
theorem dJx4a65c_grow_92f84_27 : decode cJx4a65c_grow_92f84 27 = .ok (.invokestatic 73, 3) := by decide +kernel
theorem dJx4a65c_grow_92f84_30 : decode cJx4a65c_grow_92f84 30 = .ok (.istore_n 3, 1) := by decide +kernel
theorem dJx4a65c_grow_92f84_31 : decode cJx4a65c_grow_92f84 31 = .ok (.aload_n 0, 1) := by decide +kernel
theorem dJx4a65c_grow_92f84_32 : decode cJx4a65c_grow_92f84 32 = .ok (.aload_n 0, 1) := by decide +kernel
theorem dJx4a65c_grow_92f84_33 : decode cJx4a65c_grow_92f84 33 = .ok (.getfield 9, 3) := by decide +kernel
theorem dJx4a65c_grow_92f84_36 : decode cJx4a65c_grow_92f84 36 = .ok (.iload_n 3, 1) := by decide +kernel
theorem dJx4a65c_grow_92f84_37 : decode cJx4a65c_grow_92f84 37 = .ok (.invokestatic 66, 3) := by decide +kernel
theorem dJx4a65c_grow_92f84_40 : decode cJx4a65c_grow_92f84 40 = .ok (.dup_x1, 1) := by decide +kernel
theorem dJx4a65c_grow_92f84_41 : decode cJx4a65c_grow_92f84 41 = .ok (.putfield 9, 3) := by decide +kernel
theorem dJx4a65c_grow_92f84_44 : decode cJx4a65c_grow_92f84 44 = .ok (.areturn, 1) := by decide +kernel
theorem dJx4a65c_grow_92f84_45 : decode cJx4a65c_grow_92f84 45 = .ok (.aload_n 0, 1) := by decide +kernel
theorem dJx4a65c_grow_92f84_46 : decode cJx4a65c_grow_92f84 46 = .ok (.bipush 10, 2) := by decide +kernel
theorem dJx4a65c_grow_92f84_48 : decode cJx4a65c_grow_92f84 48 = .ok (.iload_n 1, 1) := by decide +kernel
theorem dJx4a65c_grow_92f84_49 : decode cJx4a65c_grow_92f84 49 = .ok (.invokestatic 79, 3) := by decide +kernel
theorem dJx4a65c_grow_92f84_52 : decode cJx4a65c_grow_92f84 52 = .ok (.anewarray 7, 3) := by decide +kernel
theorem dJx4a65c_grow_92f84_55 : decode cJx4a65c_grow_92f84 55 = .ok (.dup_x1, 1) := by decide +kernel
theorem dJx4a65c_grow_92f84_56 : decode cJx4a65c_grow_92f84 56 = .ok (.putfield 9, 3) := by decide +kernel
theorem dJx4a65c_grow_92f84_59 : decode cJx4a65c_grow_92f84 59 = .ok (.areturn, 1) := by decide +kernel
theorem dJx4a65c_grow_d5877_0 : decode cJx4a65c_grow_d5877 0 = .ok (.aload_n 0, 1) := by decide +kernel
theorem dJx4a65c_grow_d5877_1 : decode cJx4a65c_grow_d5877 1 = .ok (.aload_n 0, 1) := by decide +kernel
theorem dJx4a65c_grow_d5877_2 : decode cJx4a65c_grow_d5877 2 = .ok (.getfield 48, 3) := by decide +kernel
theorem dJx4a65c_grow_d5877_5 : decode cJx4a65c_grow_d5877 5 = .ok (.iconst 1, 1) := by decide +kernel
theorem dJx4a65c_grow_d5877_6 : decode cJx4a65c_grow_d5877 6 = .ok (.iadd, 1) := by decide +kernel
theorem dJx4a65c_grow_d5877_7 : decode cJx4a65c_grow_d5877 7 = .ok (.invokevirtual 69, 3) := by decide +kernel
theorem dJx4a65c_grow_d5877_10 : decode cJx4a65c_grow_d5877 10 = .ok (.areturn, 1) := by decide +kernel
theorem dJx4a65c_size_8abf5_0 : decode cJx4a65c_size_8abf5 0 = .ok (.aload_n 0, 1) := by decide +kernel
theorem dJx4a65c_size_8abf5_1 : decode cJx4a65c_size_8abf5 1 = .ok (.getfield 48, 3) := by decide +kernel
theorem dJx4a65c_size_8abf5_4 : decode cJx4a65c_size_8abf5 4 = .ok (.ireturn, 1) := by decide +kernel
theorem dJx4a65c_elementData_915e3_0 : decode cJx4a65c_elementData_915e3 0 = .ok (.aload_n 0, 1) := by decide +kernel
theorem dJx4a65c_elementData_915e3_1 : decode cJx4a65c_elementData_915e3 1 = .ok (.getfield 9, 3) := by decide +kernel
theorem dJx4a65c_elementData_915e3_4 : decode cJx4a65c_elementData_915e3 4 = .ok (.iload_n 1, 1) := by decide +kernel
theorem dJx4a65c_elementData_915e3_5 : decode cJx4a65c_elementData_915e3 5 = .ok (.aaload, 1) := by decide +kernel
theorem dJx4a65c_elementData_915e3_6 : decode cJx4a65c_elementData_915e3 6 = .ok (.areturn, 1) := by decide +kernel
theorem dJx4a65c_get_915e3_0 : decode cJx4a65c_get_915e3 0 = .ok (.iload_n 1, 1) := by decide +kernel
theorem dJx4a65c_get_915e3_1 : decode cJx4a65c_get_915e3 1 = .ok (.aload_n 0, 1) := by decide +kernel
theorem dJx4a65c_get_915e3_2 : decode cJx4a65c_get_915e3 2 = .ok (.getfield 48, 3) := by decide +kernel
theorem dJx4a65c_get_915e3_5 : decode cJx4a65c_get_915e3 5 = .ok (.invokestatic 118, 3) := by decide +kernel
theorem dJx4a65c_get_915e3_8 : decode cJx4a65c_get_915e3 8 = .ok (.pop, 1) := by decide +kernel
theorem dJx4a65c_get_915e3_9 : decode cJx4a65c_get_915e3 9 = .ok (.aload_n 0, 1) := by decide +kernel
theorem dJx4a65c_get_915e3_10 : decode cJx4a65c_get_915e3 10 = .ok (.iload_n 1, 1) := by decide +kernel
theorem dJx4a65c_get_915e3_11 : decode cJx4a65c_get_915e3 11 = .ok (.invokevirtual 123, 3) := by decide +kernel
theorem dJx4a65c_get_915e3_14 : decode cJx4a65c_get_915e3 14 = .ok (.areturn, 1) := by decide +kernel
theorem dJx4a65c_add_72be8_0 : decode cJx4a65c_add_72be8 0 = .ok (.iload_n 3, 1) := by decide +kernel
theorem dJx4a65c_add_72be8_1 : decode cJx4a65c_add_72be8 1 = .ok (.aload_n 2, 1) := by decide +kernel
theorem dJx4a65c_add_72be8_2 : decode cJx4a65c_add_72be8 2 = .ok (.arraylength, 1) := by decide +kernel
theorem dJx4a65c_add_72be8_3 : decode cJx4a65c_add_72be8 3 = .ok (.if_icmp .ne 8, 3) := by decide +kernel
theorem dJx4a65c_add_72be8_6 : decode cJx4a65c_add_72be8 6 = .ok (.aload_n 0, 1) := by decide +kernel
theorem dJx4a65c_add_72be8_7 : decode cJx4a65c_add_72be8 7 = .ok (.invokevirtual 129, 3) := by decide +kernel
theorem dJx4a65c_add_72be8_10 : decode cJx4a65c_add_72be8 10 = .ok (.astore_n 2, 1) := by decide +kernel
theorem dJx4a65c_add_72be8_11 : decode cJx4a65c_add_72be8 11 = .ok (.aload_n 2, 1) := by decide +kernel
theorem dJx4a65c_add_72be8_12 : decode cJx4a65c_add_72be8 12 = .ok (.iload_n 3, 1) := by decide +kernel
theorem dJx4a65c_add_72be8_13 : decode cJx4a65c_add_72be8 13 = .ok (.aload_n 1, 1) := by decide +kernel
theorem dJx4a65c_add_72be8_14 : decode cJx4a65c_add_72be8 14 = .ok (.aastore, 1) := by decide +kernel
theorem dJx4a65c_add_72be8_15 : decode cJx4a65c_add_72be8 15 = .ok (.aload_n 0, 1) := by decide +kernel
theorem dJx4a65c_add_72be8_16 : decode cJx4a65c_add_72be8 16 = .ok (.iload_n 3, 1) := by decide +kernel
theorem dJx4a65c_add_72be8_17 : decode cJx4a65c_add_72be8 17 = .ok (.iconst 1, 1) := by decide +kernel
theorem dJx4a65c_add_72be8_18 : decode cJx4a65c_add_72be8 18 = .ok (.iadd, 1) := by decide +kernel
theorem dJx4a65c_add_72be8_19 : decode cJx4a65c_add_72be8 19 = .ok (.putfield 48, 3) := by decide +kernel
theorem dJx4a65c_add_72be8_22 : decode cJx4a65c_add_72be8 22 = .ok (.return_, 1) := by decide +kernel
theorem dJx4a65c_add_9ea2d_0 : decode cJx4a65c_add_9ea2d 0 = .ok (.aload_n 0, 1) := by decide +kernel
theorem dJx4a65c_add_9ea2d_1 : decode cJx4a65c_add_9ea2d 1 = .ok (.dup, 1) := by decide +kernel
theorem dJx4a65c_add_9ea2d_2 : decode cJx4a65c_add_9ea2d 2 = .ok (.getfield 63, 3) := by decide +kernel
theorem dJx4a65c_add_9ea2d_5 : decode cJx4a65c_add_9ea2d 5 = .ok (.iconst 1, 1) := by decide +kernel
theorem dJx4a65c_add_9ea2d_6 : decode cJx4a65c_add_9ea2d 6 = .ok (.iadd, 1) := by decide +kernel
theorem dJx4a65c_add_9ea2d_7 : decode cJx4a65c_add_9ea2d 7 = .ok (.putfield 63, 3) := by decide +kernel
theorem dJx4a65c_add_9ea2d_10 : decode cJx4a65c_add_9ea2d 10 = .ok (.aload_n 0, 1) := by decide +kernel
theorem dJx4a65c_add_9ea2d_11 : decode cJx4a65c_add_9ea2d 11 = .ok (.aload_n 1, 1) := by decide +kernel
theorem dJx4a65c_add_9ea2d_12 : decode cJx4a65c_add_9ea2d 12 = .ok (.aload_n 0, 1) := by decide +kernel
theorem dJx4a65c_add_9ea2d_13 : decode cJx4a65c_add_9ea2d 13 = .ok (.getfield 9, 3) := by decide +kernel
theorem dJx4a65c_add_9ea2d_16 : decode cJx4a65c_add_9ea2d 16 = .ok (.aload_n 0, 1) := by decide +kernel
theorem dJx4a65c_add_9ea2d_17 : decode cJx4a65c_add_9ea2d 17 = .ok (.getfield 48, 3) := by decide +kernel
theorem dJx4a65c_add_9ea2d_20 : decode cJx4a65c_add_9ea2d 20 = .ok (.invokevirtual 131, 3) := by decide +kernel
theorem dJx4a65c_add_9ea2d_23 : decode cJx4a65c_add_9ea2d 23 = .ok (.iconst 1, 1) := by decide +kernel
theorem dJx4a65c_add_9ea2d_24 : decode cJx4a65c_add_9ea2d 24 = .ok (.ireturn, 1) := by decide +kernel
theorem dJ7_copyOf_1904c_0 : decode cJ7_copyOf_1904c 0 = .ok (.aload_n 0, 1) := by decide +kernel
theorem dJ7_copyOf_1904c_1 : decode cJ7_copyOf_1904c 1 = .ok (.iload_n 1, 1) := by decide +kernel
theorem dJ7_copyOf_1904c_2 : decode cJ7_copyOf_1904c 2 = .ok (.aload_n 0, 1) := by decide +kernel
theorem dJ7_copyOf_1904c_3 : decode cJ7_copyOf_1904c 3 = .ok (.invokevirtual 86, 3) := by decide +kernel
theorem dJ7_copyOf_1904c_6 : decode cJ7_copyOf_1904c 6 = .ok (.invokestatic 300, 3) := by decide +kernel
theorem dJ7_copyOf_1904c_9 : decode cJ7_copyOf_1904c 9 = .ok (.areturn, 1) := by decide +kernel
theorem dJ7_copyOf_6403c_0 : decode cJ7_copyOf_6403c 0 = .ok (.aload_n 2, 1) := by decide +kernel
theorem dJ7_copyOf_6403c_1 : decode cJ7_copyOf_6403c 1 = .ok (.ldc 110, 2) := by decide +kernel
theorem dJ7_copyOf_6403c_3 : decode cJ7_copyOf_6403c 3 = .ok (.if_acmp .ne 10, 3) := by decide +kernel
theorem dJ7_copyOf_6403c_6 : decode cJ7_copyOf_6403c 6 = .ok (.iload_n 1, 1) := by decide +kernel
theorem dJ7_copyOf_6403c_7 : decode cJ7_copyOf_6403c 7 = .ok (.anewarray 2, 3) := by decide +kernel
theorem dJ7_copyOf_6403c_10 : decode cJ7_copyOf_6403c 10 = .ok (.goto 14, 3) := by decide +kernel
theorem dJ7_copyOf_6403c_13 : decode cJ7_copyOf_6403c 13 = .ok (.aload_n 2, 1) := by decide +kernel
theorem dJ7_copyOf_6403c_14 : decode cJ7_copyOf_6403c 14 = .ok (.invokevirtual 90, 3) := by decide +kernel
theorem dJ7_copyOf_6403c_17 : decode cJ7_copyOf_6403c 17 = .ok (.iload_n 1, 1) := by decide +kernel
theorem dJ7_copyOf_6403c_18 : decode cJ7_copyOf_6403c 18 = .ok (.invokestatic 95, 3) := by decide +kernel
theorem dJ7_copyOf_6403c_21 : decode cJ7_copyOf_6403c 21 = .ok (.checkcast 110, 3) := by decide +kernel
theorem dJ7_copyOf_6403c_24 : decode cJ7_copyOf_6403c 24 = .ok (.astore_n 3, 1) := by decide +kernel
theorem dJ7_copyOf_6403c_25 : decode cJ7_copyOf_6403c 25 = .ok (.aload_n 0, 1) := by decide +kernel
theorem dJ7_copyOf_6403c_26 : decode cJ7_copyOf_6403c 26 = .ok (.iconst 0, 1) := by decide +kernel
theorem dJ7_copyOf_6403c_27 : decode cJ7_copyOf_6403c 27 = .ok (.aload_n 3, 1) := by decide +kernel
theorem dJ7_copyOf_6403c_28 : decode cJ7_copyOf_6403c 28 = .ok (.iconst 0, 1) := by decide +kernel
theorem dJ7_copyOf_6403c_29 : decode cJ7_copyOf_6403c 29 = .ok (.aload_n 0, 1) := by decide +kernel
theorem dJ7_copyOf_6403c_30 : decode cJ7_copyOf_6403c 30 = .ok (.arraylength, 1) := by decide +kernel
theorem dJ7_copyOf_6403c_31 : decode cJ7_copyOf_6403c 31 = .ok (.iload_n 1, 1) := by decide +kernel
theorem dJ7_copyOf_6403c_32 : decode cJ7_copyOf_6403c 32 = .ok (.invokestatic 304, 3) := by decide +kernel
theorem dJ7_copyOf_6403c_35 : decode cJ7_copyOf_6403c 35 = .ok (.invokestatic 150, 3) := by decide +kernel
theorem dJ7_copyOf_6403c_38 : decode cJ7_copyOf_6403c 38 = .ok (.aload_n 3, 1) := by decide +kernel
theorem dJ7_copyOf_6403c_39 : decode cJ7_copyOf_6403c 39 = .ok (.areturn, 1) := by decide +kernel
theorem dJ15_checkIndex_7cf53_0 : decode cJ15_checkIndex_7cf53 0 = .ok (.iload_n 0, 1) := by decide +kernel
theorem dJ15_checkIndex_7cf53_1 : decode cJ15_checkIndex_7cf53 1 = .ok (.iload_n 1, 1) := by decide +kernel
theorem dJ15_checkIndex_7cf53_2 : decode cJ15_checkIndex_7cf53 2 = .ok (.aconst_null, 1) := by decide +kernel
theorem dJ15_checkIndex_7cf53_3 : decode cJ15_checkIndex_7cf53 3 = .ok (.invokestatic 105, 3) := by decide +kernel
theorem dJ15_checkIndex_7cf53_6 : decode cJ15_checkIndex_7cf53 6 = .ok (.ireturn, 1) := by decide +kernel
theorem dJ8_newLength_cabcc_0 : decode cJ8_newLength_cabcc 0 = .ok (.iload_n 0, 1) := by decide +kernel
theorem dJ8_newLength_cabcc_1 : decode cJ8_newLength_cabcc 1 = .ok (.iload_n 1, 1) := by decide +kernel
theorem dJ8_newLength_cabcc_2 : decode cJ8_newLength_cabcc 2 = .ok (.iload_n 2, 1) := by decide +kernel
theorem dJ8_newLength_cabcc_3 : decode cJ8_newLength_cabcc 3 = .ok (.invokestatic 194, 3) := by decide +kernel
theorem dJ8_newLength_cabcc_6 : decode cJ8_newLength_cabcc 6 = .ok (.iadd, 1) := by decide +kernel
theorem dJ8_newLength_cabcc_7 : decode cJ8_newLength_cabcc 7 = .ok (.istore_n 3, 1) := by decide +kernel
theorem dJ8_newLength_cabcc_8 : decode cJ8_newLength_cabcc 8 = .ok (.iconst 0, 1) := by decide +kernel
theorem dJ8_newLength_cabcc_9 : decode cJ8_newLength_cabcc 9 = .ok (.iload_n 3, 1) := by decide +kernel
theorem dJ8_newLength_cabcc_10 : decode cJ8_newLength_cabcc 10 = .ok (.if_icmp .ge 11, 3) := by decide +kernel
theorem dJ8_newLength_cabcc_13 : decode cJ8_newLength_cabcc 13 = .ok (.iload_n 3, 1) := by decide +kernel
theorem dJ8_newLength_cabcc_14 : decode cJ8_newLength_cabcc 14 = .ok (.ldc 200, 2) := by decide +kernel
theorem dJ8_newLength_cabcc_16 : decode cJ8_newLength_cabcc 16 = .ok (.if_icmp .gt 5, 3) := by decide +kernel
theorem dJ8_newLength_cabcc_19 : decode cJ8_newLength_cabcc 19 = .ok (.iload_n 3, 1) := by decide +kernel
theorem dJ8_newLength_cabcc_20 : decode cJ8_newLength_cabcc 20 = .ok (.ireturn, 1) := by decide +kernel
theorem dJ8_newLength_cabcc_21 : decode cJ8_newLength_cabcc 21 = .ok (.iload_n 0, 1) := by decide +kernel
theorem dJ8_newLength_cabcc_22 : decode cJ8_newLength_cabcc 22 = .ok (.iload_n 1, 1) := by decide +kernel
theorem dJ8_newLength_cabcc_23 : decode cJ8_newLength_cabcc 23 = .ok (.invokestatic 201, 3) := by decide +kernel
theorem dJ8_newLength_cabcc_26 : decode cJ8_newLength_cabcc 26 = .ok (.ireturn, 1) := by decide +kernel
theorem dJ8_hugeLength_7cf53_0 : decode cJ8_hugeLength_7cf53 0 = .ok (.iload_n 0, 1) := by decide +kernel
theorem dJ8_hugeLength_7cf53_1 : decode cJ8_hugeLength_7cf53 1 = .ok (.iload_n 1, 1) := by decide +kernel
theorem dJ8_hugeLength_7cf53_2 : decode cJ8_hugeLength_7cf53 2 = .ok (.iadd, 1) := by decide +kernel
theorem dJ8_hugeLength_7cf53_3 : decode cJ8_hugeLength_7cf53 3 = .ok (.istore_n 2, 1) := by decide +kernel
theorem dJ8_hugeLength_7cf53_4 : decode cJ8_hugeLength_7cf53 4 = .ok (.iload_n 2, 1) := by decide +kernel
theorem dJ8_hugeLength_7cf53_5 : decode cJ8_hugeLength_7cf53 5 = .ok (.ifCond .ge 44, 3) := by decide +kernel
theorem dJ8_hugeLength_7cf53_8 : decode cJ8_hugeLength_7cf53 8 = .ok (.new 204, 3) := by decide +kernel
theorem dJ8_hugeLength_7cf53_11 : decode cJ8_hugeLength_7cf53 11 = .ok (.dup, 1) := by decide +kernel
theorem dJ8_hugeLength_7cf53_12 : decode cJ8_hugeLength_7cf53 12 = .ok (.new 89, 3) := by decide +kernel
theorem dJ8_hugeLength_7cf53_15 : decode cJ8_hugeLength_7cf53 15 = .ok (.dup, 1) := by decide +kernel
theorem dJ8_hugeLength_7cf53_16 : decode cJ8_hugeLength_7cf53 16 = .ok (.invokespecial 91, 3) := by decide +kernel
theorem dJ8_hugeLength_7cf53_19 : decode cJ8_hugeLength_7cf53 19 = .ok (.ldc 206, 2) := by decide +kernel
theorem dJ8_hugeLength_7cf53_21 : decode cJ8_hugeLength_7cf53 21 = .ok (.invokevirtual 94, 3) := by decide +kernel
theorem dJ8_hugeLength_7cf53_24 : decode cJ8_hugeLength_7cf53 24 = .ok (.iload_n 0, 1) := by decide +kernel
theorem dJ8_hugeLength_7cf53_25 : decode cJ8_hugeLength_7cf53 25 = .ok (.invokevirtual 98, 3) := by decide +kernel
theorem dJ8_hugeLength_7cf53_28 : decode cJ8_hugeLength_7cf53 28 = .ok (.ldc 208, 2) := by decide +kernel
theorem dJ8_hugeLength_7cf53_30 : decode cJ8_hugeLength_7cf53 30 = .ok (.invokevirtual 94, 3) := by decide +kernel
theorem dJ8_hugeLength_7cf53_33 : decode cJ8_hugeLength_7cf53 33 = .ok (.iload_n 1, 1) := by decide +kernel
theorem dJ8_hugeLength_7cf53_34 : decode cJ8_hugeLength_7cf53 34 = .ok (.invokevirtual 98, 3) := by decide +kernel
theorem dJ8_hugeLength_7cf53_37 : decode cJ8_hugeLength_7cf53 37 = .ok (.ldc 210, 2) := by decide +kernel
theorem dJ8_hugeLength_7cf53_39 : decode cJ8_hugeLength_7cf53 39 = .ok (.invokevirtual 94, 3) := by decide +kernel
theorem dJ8_hugeLength_7cf53_42 : decode cJ8_hugeLength_7cf53 42 = .ok (.invokevirtual 101, 3) := by decide +kernel
theorem dJ8_hugeLength_7cf53_45 : decode cJ8_hugeLength_7cf53 45 = .ok (.invokespecial 212, 3) := by decide +kernel
theorem dJ8_hugeLength_7cf53_48 : decode cJ8_hugeLength_7cf53 48 = .ok (.athrow, 1) := by decide +kernel
theorem dJ8_hugeLength_7cf53_49 : decode cJ8_hugeLength_7cf53 49 = .ok (.iload_n 2, 1) := by decide +kernel
theorem dJ8_hugeLength_7cf53_50 : decode cJ8_hugeLength_7cf53 50 = .ok (.ldc 200, 2) := by decide +kernel
theorem dJ8_hugeLength_7cf53_52 : decode cJ8_hugeLength_7cf53 52 = .ok (.if_icmp .gt 6, 3) := by decide +kernel
theorem dJ8_hugeLength_7cf53_55 : decode cJ8_hugeLength_7cf53 55 = .ok (.ldc 200, 2) := by decide +kernel
theorem dJ8_hugeLength_7cf53_57 : decode cJ8_hugeLength_7cf53 57 = .ok (.ireturn, 1) := by decide +kernel
theorem dJ8_hugeLength_7cf53_58 : decode cJ8_hugeLength_7cf53 58 = .ok (.iload_n 2, 1) := by decide +kernel
theorem dJ8_hugeLength_7cf53_59 : decode cJ8_hugeLength_7cf53 59 = .ok (.ireturn, 1) := by decide +kernel
theorem dJ3_checkIndex_8e157_0 : decode cJ3_checkIndex_8e157 0 = .ok (.iload_n 0, 1) := by decide +kernel
theorem dJ3_checkIndex_8e157_1 : decode cJ3_checkIndex_8e157 1 = .ok (.ifCond .lt 8, 3) := by decide +kernel
theorem dJ3_checkIndex_8e157_4 : decode cJ3_checkIndex_8e157 4 = .ok (.iload_n 0, 1) := by decide +kernel
theorem dJ3_checkIndex_8e157_5 : decode cJ3_checkIndex_8e157 5 = .ok (.iload_n 1, 1) := by decide +kernel
theorem dJ3_checkIndex_8e157_6 : decode cJ3_checkIndex_8e157 6 = .ok (.if_icmp .lt 10, 3) := by decide +kernel
theorem dJ3_checkIndex_8e157_9 : decode cJ3_checkIndex_8e157 9 = .ok (.aload_n 2, 1) := by decide +kernel
theorem dJ3_checkIndex_8e157_10 : decode cJ3_checkIndex_8e157 10 = .ok (.iload_n 0, 1) := by decide +kernel
theorem dJ3_checkIndex_8e157_11 : decode cJ3_checkIndex_8e157 11 = .ok (.iload_n 1, 1) := by decide +kernel
theorem dJ3_checkIndex_8e157_12 : decode cJ3_checkIndex_8e157 12 = .ok (.invokestatic 95, 3) := by decide +kernel
theorem dJ3_checkIndex_8e157_15 : decode cJ3_checkIndex_8e157 15 = .ok (.athrow, 1) := by decide +kernel
theorem dJ3_checkIndex_8e157_16 : decode cJ3_checkIndex_8e157 16 = .ok (.iload_n 0, 1) := by decide +kernel
theorem dJ3_checkIndex_8e157_17 : decode cJ3_checkIndex_8e157 17 = .ok (.ireturn, 1) := by decide +kernel
