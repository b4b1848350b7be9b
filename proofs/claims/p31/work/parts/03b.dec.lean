theorem dX8_init_0 : decode cX8_init 0 = .ok (.aload_n 0, 1) := by decide +kernel
theorem dX8_init_1 : decode cX8_init 1 = .ok (.invokespecial 1, 3) := by decide +kernel
theorem dX8_init_4 : decode cX8_init 4 = .ok (.aload_n 0, 1) := by decide +kernel
theorem dX8_init_5 : decode cX8_init 5 = .ok (.new 7, 3) := by decide +kernel
theorem dX8_init_8 : decode cX8_init 8 = .ok (.dup, 1) := by decide +kernel
theorem dX8_init_9 : decode cX8_init 9 = .ok (.invokespecial 9, 3) := by decide +kernel
theorem dX8_init_12 : decode cX8_init 12 = .ok (.putfield 10, 3) := by decide +kernel
theorem dX8_init_15 : decode cX8_init 15 = .ok (.aload_n 0, 1) := by decide +kernel
theorem dX8_init_16 : decode cX8_init 16 = .ok (.new 7, 3) := by decide +kernel
theorem dX8_init_19 : decode cX8_init 19 = .ok (.dup, 1) := by decide +kernel
theorem dX8_init_20 : decode cX8_init 20 = .ok (.invokespecial 9, 3) := by decide +kernel
theorem dX8_init_23 : decode cX8_init 23 = .ok (.putfield 16, 3) := by decide +kernel
theorem dX8_init_26 : decode cX8_init 26 = .ok (.aload_n 0, 1) := by decide +kernel
theorem dX8_init_27 : decode cX8_init 27 = .ok (.new 7, 3) := by decide +kernel
theorem dX8_init_30 : decode cX8_init 30 = .ok (.dup, 1) := by decide +kernel
theorem dX8_init_31 : decode cX8_init 31 = .ok (.invokespecial 9, 3) := by decide +kernel
theorem dX8_init_34 : decode cX8_init 34 = .ok (.putfield 19, 3) := by decide +kernel
theorem dX8_init_37 : decode cX8_init 37 = .ok (.aload_n 0, 1) := by decide +kernel
theorem dX8_init_38 : decode cX8_init 38 = .ok (.new 7, 3) := by decide +kernel
theorem dX8_init_41 : decode cX8_init 41 = .ok (.dup, 1) := by decide +kernel
theorem dX8_init_42 : decode cX8_init 42 = .ok (.invokespecial 9, 3) := by decide +kernel
theorem dX8_init_45 : decode cX8_init 45 = .ok (.putfield 22, 3) := by decide +kernel
theorem dX8_init_48 : decode cX8_init 48 = .ok (.aload_n 0, 1) := by decide +kernel
theorem dX8_init_49 : decode cX8_init 49 = .ok (.bipush 8, 2) := by decide +kernel
theorem dX8_init_51 : decode cX8_init 51 = .ok (.anewarray 25, 3) := by decide +kernel
theorem dX8_init_54 : decode cX8_init 54 = .ok (.putfield 27, 3) := by decide +kernel
theorem dX8_init_57 : decode cX8_init 57 = .ok (.iconst 0, 1) := by decide +kernel
theorem dX8_init_58 : decode cX8_init 58 = .ok (.istore_n 1, 1) := by decide +kernel
theorem dX8_init_59 : decode cX8_init 59 = .ok (.iload_n 1, 1) := by decide +kernel
theorem dX8_init_60 : decode cX8_init 60 = .ok (.aload_n 0, 1) := by decide +kernel
theorem dX8_init_61 : decode cX8_init 61 = .ok (.getfield 27, 3) := by decide +kernel
theorem dX8_init_64 : decode cX8_init 64 = .ok (.arraylength, 1) := by decide +kernel
theorem dX8_init_65 : decode cX8_init 65 = .ok (.if_icmp .ge 22, 3) := by decide +kernel
theorem dX8_init_68 : decode cX8_init 68 = .ok (.aload_n 0, 1) := by decide +kernel
theorem dX8_init_69 : decode cX8_init 69 = .ok (.getfield 27, 3) := by decide +kernel
theorem dX8_init_72 : decode cX8_init 72 = .ok (.iload_n 1, 1) := by decide +kernel
theorem dX8_init_73 : decode cX8_init 73 = .ok (.new 25, 3) := by decide +kernel
theorem dX8_init_76 : decode cX8_init 76 = .ok (.dup, 1) := by decide +kernel
theorem dX8_init_77 : decode cX8_init 77 = .ok (.invokespecial 31, 3) := by decide +kernel
theorem dX8_init_80 : decode cX8_init 80 = .ok (.aastore, 1) := by decide +kernel
theorem dX8_init_81 : decode cX8_init 81 = .ok (.iinc 1 1, 3) := by decide +kernel
theorem dX8_init_84 : decode cX8_init 84 = .ok (.goto (-25), 3) := by decide +kernel
theorem dX8_init_87 : decode cX8_init 87 = .ok (.aload_n 0, 1) := by decide +kernel
theorem dX8_init_88 : decode cX8_init 88 = .ok (.iconst 0, 1) := by decide +kernel
theorem dX8_init_89 : decode cX8_init 89 = .ok (.putfield 32, 3) := by decide +kernel
theorem dX8_init_92 : decode cX8_init 92 = .ok (.aload_n 0, 1) := by decide +kernel
theorem dX8_init_93 : decode cX8_init 93 = .ok (.iconst 0, 1) := by decide +kernel
theorem dX8_init_94 : decode cX8_init 94 = .ok (.putfield 36, 3) := by decide +kernel
theorem dX8_init_97 : decode cX8_init 97 = .ok (.return_, 1) := by decide +kernel
theorem dX8_troop_0 : decode cX8_troop 0 = .ok (.iload_n 1, 1) := by decide +kernel
theorem dX8_troop_1 : decode cX8_troop 1 = .ok (.iconst 5, 1) := by decide +kernel
theorem dX8_troop_2 : decode cX8_troop 2 = .ok (.bipush 20, 2) := by decide +kernel
theorem dX8_troop_4 : decode cX8_troop 4 = .ok (.invokestatic 39, 3) := by decide +kernel
theorem dX8_troop_7 : decode cX8_troop 7 = .ok (.iload_n 2, 1) := by decide +kernel
theorem dX8_troop_8 : decode cX8_troop 8 = .ok (.iload_n 1, 1) := by decide +kernel
theorem dX8_troop_9 : decode cX8_troop 9 = .ok (.bipush 20, 2) := by decide +kernel
theorem dX8_troop_11 : decode cX8_troop 11 = .ok (.invokestatic 39, 3) := by decide +kernel
theorem dX8_troop_14 : decode cX8_troop 14 = .ok (.iload_n 3, 1) := by decide +kernel
theorem dX8_troop_15 : decode cX8_troop 15 = .ok (.iconst 1, 1) := by decide +kernel
theorem dX8_troop_16 : decode cX8_troop 16 = .ok (.bipush 12, 2) := by decide +kernel
theorem dX8_troop_18 : decode cX8_troop 18 = .ok (.invokestatic 39, 3) := by decide +kernel
theorem dX8_troop_21 : decode cX8_troop 21 = .ok (.aload_n 0, 1) := by decide +kernel
theorem dX8_troop_22 : decode cX8_troop 22 = .ok (.getfield 10, 3) := by decide +kernel
theorem dX8_troop_25 : decode cX8_troop 25 = .ok (.invokevirtual 43, 3) := by decide +kernel
theorem dX8_troop_28 : decode cX8_troop 28 = .ok (.bipush 6, 2) := by decide +kernel
theorem dX8_troop_30 : decode cX8_troop 30 = .ok (.invokestatic 47, 3) := by decide +kernel
theorem dX8_troop_33 : decode cX8_troop 33 = .ok (.aload_n 0, 1) := by decide +kernel
theorem dX8_troop_34 : decode cX8_troop 34 = .ok (.getfield 10, 3) := by decide +kernel
theorem dX8_troop_37 : decode cX8_troop 37 = .ok (.invokevirtual 43, 3) := by decide +kernel
theorem dX8_troop_40 : decode cX8_troop 40 = .ok (.istore 4, 2) := by decide +kernel
theorem dX8_troop_42 : decode cX8_troop 42 = .ok (.aload_n 0, 1) := by decide +kernel
theorem dX8_troop_43 : decode cX8_troop 43 = .ok (.getfield 10, 3) := by decide +kernel
theorem dX8_troop_46 : decode cX8_troop 46 = .ok (.new 51, 3) := by decide +kernel
theorem dX8_troop_49 : decode cX8_troop 49 = .ok (.dup, 1) := by decide +kernel
theorem dX8_troop_50 : decode cX8_troop 50 = .ok (.iload 4, 2) := by decide +kernel
theorem dX8_troop_52 : decode cX8_troop 52 = .ok (.iload_n 1, 1) := by decide +kernel
theorem dX8_troop_53 : decode cX8_troop 53 = .ok (.iload_n 2, 1) := by decide +kernel
theorem dX8_troop_54 : decode cX8_troop 54 = .ok (.iload_n 3, 1) := by decide +kernel
theorem dX8_troop_55 : decode cX8_troop 55 = .ok (.invokespecial 53, 3) := by decide +kernel
theorem dX8_troop_58 : decode cX8_troop 58 = .ok (.invokevirtual 56, 3) := by decide +kernel
theorem dX8_troop_61 : decode cX8_troop 61 = .ok (.pop, 1) := by decide +kernel
theorem dX8_troop_62 : decode cX8_troop 62 = .ok (.iload 4, 2) := by decide +kernel
theorem dX8_troop_64 : decode cX8_troop 64 = .ok (.ireturn, 1) := by decide +kernel
theorem dX8_child_0 : decode cX8_child 0 = .ok (.iload_n 1, 1) := by decide +kernel
theorem dX8_child_1 : decode cX8_child 1 = .ok (.iconst 5, 1) := by decide +kernel
theorem dX8_child_2 : decode cX8_child 2 = .ok (.bipush 17, 2) := by decide +kernel
theorem dX8_child_4 : decode cX8_child 4 = .ok (.invokestatic 39, 3) := by decide +kernel
theorem dX8_child_7 : decode cX8_child 7 = .ok (.aload_n 0, 1) := by decide +kernel
theorem dX8_child_8 : decode cX8_child 8 = .ok (.getfield 16, 3) := by decide +kernel
theorem dX8_child_11 : decode cX8_child 11 = .ok (.invokevirtual 43, 3) := by decide +kernel
theorem dX8_child_14 : decode cX8_child 14 = .ok (.bipush 24, 2) := by decide +kernel
theorem dX8_child_16 : decode cX8_child 16 = .ok (.invokestatic 47, 3) := by decide +kernel
theorem dX8_child_19 : decode cX8_child 19 = .ok (.aload_n 0, 1) := by decide +kernel
theorem dX8_child_20 : decode cX8_child 20 = .ok (.getfield 16, 3) := by decide +kernel
theorem dX8_child_23 : decode cX8_child 23 = .ok (.invokevirtual 43, 3) := by decide +kernel
theorem dX8_child_26 : decode cX8_child 26 = .ok (.istore_n 2, 1) := by decide +kernel
theorem dX8_child_27 : decode cX8_child 27 = .ok (.aload_n 0, 1) := by decide +kernel
theorem dX8_child_28 : decode cX8_child 28 = .ok (.getfield 16, 3) := by decide +kernel
theorem dX8_child_31 : decode cX8_child 31 = .ok (.new 60, 3) := by decide +kernel
theorem dX8_child_34 : decode cX8_child 34 = .ok (.dup, 1) := by decide +kernel
theorem dX8_child_35 : decode cX8_child 35 = .ok (.iload_n 2, 1) := by decide +kernel
theorem dX8_child_36 : decode cX8_child 36 = .ok (.iload_n 1, 1) := by decide +kernel
theorem dX8_child_37 : decode cX8_child 37 = .ok (.invokespecial 62, 3) := by decide +kernel
theorem dX8_child_40 : decode cX8_child 40 = .ok (.invokevirtual 56, 3) := by decide +kernel
theorem dX8_child_43 : decode cX8_child 43 = .ok (.pop, 1) := by decide +kernel
theorem dX8_child_44 : decode cX8_child 44 = .ok (.iload_n 2, 1) := by decide +kernel
theorem dX8_child_45 : decode cX8_child 45 = .ok (.ireturn, 1) := by decide +kernel
theorem dX8_join_0 : decode cX8_join 0 = .ok (.aload_n 0, 1) := by decide +kernel
theorem dX8_join_1 : decode cX8_join 1 = .ok (.iload_n 1, 1) := by decide +kernel
theorem dX8_join_2 : decode cX8_join 2 = .ok (.invokevirtual 64, 3) := by decide +kernel
theorem dX8_join_5 : decode cX8_join 5 = .ok (.astore_n 3, 1) := by decide +kernel
theorem dX8_join_6 : decode cX8_join 6 = .ok (.aload_n 0, 1) := by decide +kernel
theorem dX8_join_7 : decode cX8_join 7 = .ok (.iload_n 2, 1) := by decide +kernel
theorem dX8_join_8 : decode cX8_join 8 = .ok (.invokevirtual 68, 3) := by decide +kernel
theorem dX8_join_11 : decode cX8_join 11 = .ok (.astore 4, 2) := by decide +kernel
theorem dX8_join_13 : decode cX8_join 13 = .ok (.aload_n 3, 1) := by decide +kernel
theorem dX8_join_14 : decode cX8_join 14 = .ok (.getfield 72, 3) := by decide +kernel
theorem dX8_join_17 : decode cX8_join 17 = .ok (.iconst (-1), 1) := by decide +kernel
theorem dX8_join_18 : decode cX8_join 18 = .ok (.if_icmp .ne 11, 3) := by decide +kernel
theorem dX8_join_21 : decode cX8_join 21 = .ok (.aload_n 3, 1) := by decide +kernel
theorem dX8_join_22 : decode cX8_join 22 = .ok (.getfield 75, 3) := by decide +kernel
theorem dX8_join_25 : decode cX8_join 25 = .ok (.iconst (-1), 1) := by decide +kernel
theorem dX8_join_26 : decode cX8_join 26 = .ok (.if_icmp .eq 13, 3) := by decide +kernel
theorem dX8_join_29 : decode cX8_join 29 = .ok (.new 78, 3) := by decide +kernel
theorem dX8_join_32 : decode cX8_join 32 = .ok (.dup, 1) := by decide +kernel
theorem dX8_join_33 : decode cX8_join 33 = .ok (.ldc 80, 2) := by decide +kernel
theorem dX8_join_35 : decode cX8_join 35 = .ok (.invokespecial 82, 3) := by decide +kernel
theorem dX8_join_38 : decode cX8_join 38 = .ok (.athrow, 1) := by decide +kernel
theorem dX8_join_39 : decode cX8_join 39 = .ok (.aload 4, 2) := by decide +kernel
theorem dX8_join_41 : decode cX8_join 41 = .ok (.aload_n 3, 1) := by decide +kernel
theorem dX8_join_42 : decode cX8_join 42 = .ok (.getfield 85, 3) := by decide +kernel
theorem dX8_join_45 : decode cX8_join 45 = .ok (.invokevirtual 88, 3) := by decide +kernel
theorem dX8_join_48 : decode cX8_join 48 = .ok (.ifCond .ne 13, 3) := by decide +kernel
theorem dX8_join_51 : decode cX8_join 51 = .ok (.new 78, 3) := by decide +kernel
theorem dX8_join_54 : decode cX8_join 54 = .ok (.dup, 1) := by decide +kernel
theorem dX8_join_55 : decode cX8_join 55 = .ok (.ldc 92, 2) := by decide +kernel
theorem dX8_join_57 : decode cX8_join 57 = .ok (.invokespecial 82, 3) := by decide +kernel
theorem dX8_join_60 : decode cX8_join 60 = .ok (.athrow, 1) := by decide +kernel
theorem dX8_join_61 : decode cX8_join 61 = .ok (.aload_n 0, 1) := by decide +kernel
theorem dX8_join_62 : decode cX8_join 62 = .ok (.aload_n 3, 1) := by decide +kernel
theorem dX8_join_63 : decode cX8_join 63 = .ok (.aload 4, 2) := by decide +kernel
theorem dX8_join_65 : decode cX8_join 65 = .ok (.invokevirtual 94, 3) := by decide +kernel
theorem dX8_join_68 : decode cX8_join 68 = .ok (.ireturn, 1) := by decide +kernel
theorem dX8_leave_0 : decode cX8_leave 0 = .ok (.aload_n 0, 1) := by decide +kernel
theorem dX8_leave_1 : decode cX8_leave 1 = .ok (.iload_n 1, 1) := by decide +kernel
theorem dX8_leave_2 : decode cX8_leave 2 = .ok (.invokevirtual 64, 3) := by decide +kernel
theorem dX8_leave_5 : decode cX8_leave 5 = .ok (.astore_n 2, 1) := by decide +kernel
theorem dX8_leave_6 : decode cX8_leave 6 = .ok (.aload_n 2, 1) := by decide +kernel
theorem dX8_leave_7 : decode cX8_leave 7 = .ok (.getfield 72, 3) := by decide +kernel
theorem dX8_leave_10 : decode cX8_leave 10 = .ok (.iconst (-1), 1) := by decide +kernel
theorem dX8_leave_11 : decode cX8_leave 11 = .ok (.if_icmp .ne 21, 3) := by decide +kernel
theorem dX8_leave_14 : decode cX8_leave 14 = .ok (.aload_n 2, 1) := by decide +kernel
theorem dX8_leave_15 : decode cX8_leave 15 = .ok (.getfield 75, 3) := by decide +kernel
theorem dX8_leave_18 : decode cX8_leave 18 = .ok (.iconst (-1), 1) := by decide +kernel
theorem dX8_leave_19 : decode cX8_leave 19 = .ok (.if_icmp .ne 13, 3) := by decide +kernel
theorem dX8_leave_22 : decode cX8_leave 22 = .ok (.new 78, 3) := by decide +kernel
theorem dX8_leave_25 : decode cX8_leave 25 = .ok (.dup, 1) := by decide +kernel
theorem dX8_leave_26 : decode cX8_leave 26 = .ok (.ldc 98, 2) := by decide +kernel
theorem dX8_leave_28 : decode cX8_leave 28 = .ok (.invokespecial 82, 3) := by decide +kernel
theorem dX8_leave_31 : decode cX8_leave 31 = .ok (.athrow, 1) := by decide +kernel
theorem dX8_leave_32 : decode cX8_leave 32 = .ok (.aload_n 2, 1) := by decide +kernel
theorem dX8_leave_33 : decode cX8_leave 33 = .ok (.getfield 72, 3) := by decide +kernel
theorem dX8_leave_36 : decode cX8_leave 36 = .ok (.istore_n 3, 1) := by decide +kernel
theorem dX8_leave_37 : decode cX8_leave 37 = .ok (.aload_n 2, 1) := by decide +kernel
theorem dX8_leave_38 : decode cX8_leave 38 = .ok (.invokevirtual 100, 3) := by decide +kernel
theorem dX8_leave_41 : decode cX8_leave 41 = .ok (.iload_n 3, 1) := by decide +kernel
theorem dX8_leave_42 : decode cX8_leave 42 = .ok (.iconst (-1), 1) := by decide +kernel
theorem dX8_leave_43 : decode cX8_leave 43 = .ok (.if_icmp .ne 7, 3) := by decide +kernel
theorem dX8_leave_46 : decode cX8_leave 46 = .ok (.iconst (-1), 1) := by decide +kernel
theorem dX8_leave_47 : decode cX8_leave 47 = .ok (.goto 8, 3) := by decide +kernel
theorem dX8_leave_50 : decode cX8_leave 50 = .ok (.aload_n 0, 1) := by decide +kernel
theorem dX8_leave_51 : decode cX8_leave 51 = .ok (.iload_n 3, 1) := by decide +kernel
theorem dX8_leave_52 : decode cX8_leave 52 = .ok (.invokevirtual 103, 3) := by decide +kernel
theorem dX8_leave_55 : decode cX8_leave 55 = .ok (.ireturn, 1) := by decide +kernel
theorem dX8_patrol_0 : decode cX8_patrol 0 = .ok (.aload_n 0, 1) := by decide +kernel
theorem dX8_patrol_1 : decode cX8_patrol 1 = .ok (.iload_n 1, 1) := by decide +kernel
theorem dX8_patrol_2 : decode cX8_patrol 2 = .ok (.invokevirtual 64, 3) := by decide +kernel
theorem dX8_patrol_5 : decode cX8_patrol 5 = .ok (.astore_n 3, 1) := by decide +kernel
theorem dX8_patrol_6 : decode cX8_patrol 6 = .ok (.iload_n 2, 1) := by decide +kernel
theorem dX8_patrol_7 : decode cX8_patrol 7 = .ok (.iconst 0, 1) := by decide +kernel
theorem dX8_patrol_8 : decode cX8_patrol 8 = .ok (.iconst 3, 1) := by decide +kernel
theorem dX8_patrol_9 : decode cX8_patrol 9 = .ok (.invokestatic 39, 3) := by decide +kernel
theorem dX8_patrol_12 : decode cX8_patrol 12 = .ok (.aload_n 3, 1) := by decide +kernel
theorem dX8_patrol_13 : decode cX8_patrol 13 = .ok (.getfield 72, 3) := by decide +kernel
theorem dX8_patrol_16 : decode cX8_patrol 16 = .ok (.iconst (-1), 1) := by decide +kernel
theorem dX8_patrol_17 : decode cX8_patrol 17 = .ok (.if_icmp .ne 13, 3) := by decide +kernel
theorem dX8_patrol_20 : decode cX8_patrol 20 = .ok (.new 78, 3) := by decide +kernel
theorem dX8_patrol_23 : decode cX8_patrol 23 = .ok (.dup, 1) := by decide +kernel
theorem dX8_patrol_24 : decode cX8_patrol 24 = .ok (.ldc 107, 2) := by decide +kernel
theorem dX8_patrol_26 : decode cX8_patrol 26 = .ok (.invokespecial 82, 3) := by decide +kernel
theorem dX8_patrol_29 : decode cX8_patrol 29 = .ok (.athrow, 1) := by decide +kernel
theorem dX8_patrol_30 : decode cX8_patrol 30 = .ok (.aload_n 3, 1) := by decide +kernel
theorem dX8_patrol_31 : decode cX8_patrol 31 = .ok (.getfield 109, 3) := by decide +kernel
theorem dX8_patrol_34 : decode cX8_patrol 34 = .ok (.istore 4, 2) := by decide +kernel
theorem dX8_patrol_36 : decode cX8_patrol 36 = .ok (.aload_n 3, 1) := by decide +kernel
theorem dX8_patrol_37 : decode cX8_patrol 37 = .ok (.iload_n 2, 1) := by decide +kernel
theorem dX8_patrol_38 : decode cX8_patrol 38 = .ok (.putfield 109, 3) := by decide +kernel
theorem dX8_patrol_41 : decode cX8_patrol 41 = .ok (.iload 4, 2) := by decide +kernel
theorem dX8_patrol_43 : decode cX8_patrol 43 = .ok (.ireturn, 1) := by decide +kernel
theorem dX8_duty_0 : decode cX8_duty 0 = .ok (.aload_n 0, 1) := by decide +kernel
theorem dX8_duty_1 : decode cX8_duty 1 = .ok (.iload_n 1, 1) := by decide +kernel
theorem dX8_duty_2 : decode cX8_duty 2 = .ok (.invokevirtual 68, 3) := by decide +kernel
theorem dX8_duty_5 : decode cX8_duty 5 = .ok (.astore_n 3, 1) := by decide +kernel
theorem dX8_duty_6 : decode cX8_duty 6 = .ok (.iload_n 2, 1) := by decide +kernel
theorem dX8_duty_7 : decode cX8_duty 7 = .ok (.iconst 0, 1) := by decide +kernel
theorem dX8_duty_8 : decode cX8_duty 8 = .ok (.sipush 9999, 3) := by decide +kernel
theorem dX8_duty_11 : decode cX8_duty 11 = .ok (.invokestatic 39, 3) := by decide +kernel
theorem dX8_duty_14 : decode cX8_duty 14 = .ok (.aload_n 0, 1) := by decide +kernel
theorem dX8_duty_15 : decode cX8_duty 15 = .ok (.aload_n 3, 1) := by decide +kernel
theorem dX8_duty_16 : decode cX8_duty 16 = .ok (.getfield 112, 3) := by decide +kernel
theorem dX8_duty_19 : decode cX8_duty 19 = .ok (.invokevirtual 115, 3) := by decide +kernel
theorem dX8_duty_22 : decode cX8_duty 22 = .ok (.istore 4, 2) := by decide +kernel
theorem dX8_duty_24 : decode cX8_duty 24 = .ok (.iload 4, 2) := by decide +kernel
theorem dX8_duty_26 : decode cX8_duty 26 = .ok (.ifCond .ne 5, 3) := by decide +kernel
theorem dX8_duty_29 : decode cX8_duty 29 = .ok (.iconst (-1), 1) := by decide +kernel
theorem dX8_duty_30 : decode cX8_duty 30 = .ok (.ireturn, 1) := by decide +kernel
theorem dX8_duty_31 : decode cX8_duty 31 = .ok (.aload_n 0, 1) := by decide +kernel
theorem dX8_duty_32 : decode cX8_duty 32 = .ok (.aload_n 3, 1) := by decide +kernel
theorem dX8_duty_33 : decode cX8_duty 33 = .ok (.getfield 112, 3) := by decide +kernel
theorem dX8_duty_36 : decode cX8_duty 36 = .ok (.iload_n 2, 1) := by decide +kernel
theorem dX8_duty_37 : decode cX8_duty 37 = .ok (.iload 4, 2) := by decide +kernel
theorem dX8_duty_39 : decode cX8_duty 39 = .ok (.irem, 1) := by decide +kernel
theorem dX8_duty_40 : decode cX8_duty 40 = .ok (.invokevirtual 118, 3) := by decide +kernel
theorem dX8_duty_43 : decode cX8_duty 43 = .ok (.ireturn, 1) := by decide +kernel
theorem dX8_pass_0 : decode cX8_pass 0 = .ok (.iload_n 1, 1) := by decide +kernel
theorem dX8_pass_1 : decode cX8_pass 1 = .ok (.iconst 1, 1) := by decide +kernel
theorem dX8_pass_2 : decode cX8_pass 2 = .ok (.sipush 400, 3) := by decide +kernel
theorem dX8_pass_5 : decode cX8_pass 5 = .ok (.invokestatic 39, 3) := by decide +kernel
theorem dX8_pass_8 : decode cX8_pass 8 = .ok (.aload_n 0, 1) := by decide +kernel
theorem dX8_pass_9 : decode cX8_pass 9 = .ok (.getfield 32, 3) := by decide +kernel
theorem dX8_pass_12 : decode cX8_pass 12 = .ok (.iload_n 1, 1) := by decide +kernel
theorem dX8_pass_13 : decode cX8_pass 13 = .ok (.iadd, 1) := by decide +kernel
theorem dX8_pass_14 : decode cX8_pass 14 = .ok (.sipush 9999, 3) := by decide +kernel
theorem dX8_pass_17 : decode cX8_pass 17 = .ok (.if_icmp .le 13, 3) := by decide +kernel
theorem dX8_pass_20 : decode cX8_pass 20 = .ok (.new 78, 3) := by decide +kernel
theorem dX8_pass_23 : decode cX8_pass 23 = .ok (.dup, 1) := by decide +kernel
theorem dX8_pass_24 : decode cX8_pass 24 = .ok (.ldc 122, 2) := by decide +kernel
theorem dX8_pass_26 : decode cX8_pass 26 = .ok (.invokespecial 82, 3) := by decide +kernel
theorem dX8_pass_29 : decode cX8_pass 29 = .ok (.athrow, 1) := by decide +kernel
theorem dX8_pass_30 : decode cX8_pass 30 = .ok (.aload_n 0, 1) := by decide +kernel
theorem dX8_pass_31 : decode cX8_pass 31 = .ok (.dup, 1) := by decide +kernel
theorem dX8_pass_32 : decode cX8_pass 32 = .ok (.getfield 32, 3) := by decide +kernel
theorem dX8_pass_35 : decode cX8_pass 35 = .ok (.iload_n 1, 1) := by decide +kernel
theorem dX8_pass_36 : decode cX8_pass 36 = .ok (.iadd, 1) := by decide +kernel
theorem dX8_pass_37 : decode cX8_pass 37 = .ok (.putfield 32, 3) := by decide +kernel
theorem dX8_pass_40 : decode cX8_pass 40 = .ok (.aload_n 0, 1) := by decide +kernel
theorem dX8_pass_41 : decode cX8_pass 41 = .ok (.getfield 32, 3) := by decide +kernel
theorem dX8_pass_44 : decode cX8_pass 44 = .ok (.ireturn, 1) := by decide +kernel
theorem dX8_season_0 : decode cX8_season 0 = .ok (.iconst 0, 1) := by decide +kernel
theorem dX8_season_1 : decode cX8_season 1 = .ok (.istore_n 1, 1) := by decide +kernel
theorem dX8_season_2 : decode cX8_season 2 = .ok (.iload_n 1, 1) := by decide +kernel
theorem dX8_season_3 : decode cX8_season 3 = .ok (.aload_n 0, 1) := by decide +kernel
theorem dX8_season_4 : decode cX8_season 4 = .ok (.getfield 16, 3) := by decide +kernel
theorem dX8_season_7 : decode cX8_season 7 = .ok (.invokevirtual 43, 3) := by decide +kernel
theorem dX8_season_10 : decode cX8_season 10 = .ok (.if_icmp .ge 29, 3) := by decide +kernel
theorem dX8_season_13 : decode cX8_season 13 = .ok (.aload_n 0, 1) := by decide +kernel
theorem dX8_season_14 : decode cX8_season 14 = .ok (.getfield 16, 3) := by decide +kernel
theorem dX8_season_17 : decode cX8_season 17 = .ok (.iload_n 1, 1) := by decide +kernel
theorem dX8_season_18 : decode cX8_season 18 = .ok (.invokevirtual 124, 3) := by decide +kernel
theorem dX8_season_21 : decode cX8_season 21 = .ok (.checkcast 60, 3) := by decide +kernel
theorem dX8_season_24 : decode cX8_season 24 = .ok (.dup, 1) := by decide +kernel
theorem dX8_season_25 : decode cX8_season 25 = .ok (.getfield 85, 3) := by decide +kernel
theorem dX8_season_28 : decode cX8_season 28 = .ok (.iconst 1, 1) := by decide +kernel
theorem dX8_season_29 : decode cX8_season 29 = .ok (.iadd, 1) := by decide +kernel
theorem dX8_season_30 : decode cX8_season 30 = .ok (.putfield 85, 3) := by decide +kernel
theorem dX8_season_33 : decode cX8_season 33 = .ok (.iinc 1 1, 3) := by decide +kernel
theorem dX8_season_36 : decode cX8_season 36 = .ok (.goto (-34), 3) := by decide +kernel
theorem dX8_season_39 : decode cX8_season 39 = .ok (.aload_n 0, 1) := by decide +kernel
theorem dX8_season_40 : decode cX8_season 40 = .ok (.invokevirtual 128, 3) := by decide +kernel
theorem dX8_season_43 : decode cX8_season 43 = .ok (.istore_n 1, 1) := by decide +kernel
theorem dX8_season_44 : decode cX8_season 44 = .ok (.iconst 0, 1) := by decide +kernel
theorem dX8_season_45 : decode cX8_season 45 = .ok (.istore_n 2, 1) := by decide +kernel
theorem dX8_season_46 : decode cX8_season 46 = .ok (.iload_n 2, 1) := by decide +kernel
theorem dX8_season_47 : decode cX8_season 47 = .ok (.aload_n 0, 1) := by decide +kernel
theorem dX8_season_48 : decode cX8_season 48 = .ok (.getfield 10, 3) := by decide +kernel
theorem dX8_season_51 : decode cX8_season 51 = .ok (.invokevirtual 43, 3) := by decide +kernel
theorem dX8_season_54 : decode cX8_season 54 = .ok (.if_icmp .ge 24, 3) := by decide +kernel
theorem dX8_season_57 : decode cX8_season 57 = .ok (.aload_n 0, 1) := by decide +kernel
theorem dX8_season_58 : decode cX8_season 58 = .ok (.aload_n 0, 1) := by decide +kernel
theorem dX8_season_59 : decode cX8_season 59 = .ok (.getfield 10, 3) := by decide +kernel
theorem dX8_season_62 : decode cX8_season 62 = .ok (.iload_n 2, 1) := by decide +kernel
theorem dX8_season_63 : decode cX8_season 63 = .ok (.invokevirtual 124, 3) := by decide +kernel
theorem dX8_season_66 : decode cX8_season 66 = .ok (.checkcast 51, 3) := by decide +kernel
theorem dX8_season_69 : decode cX8_season 69 = .ok (.invokevirtual 131, 3) := by decide +kernel
theorem dX8_season_72 : decode cX8_season 72 = .ok (.iinc 2 1, 3) := by decide +kernel
theorem dX8_season_75 : decode cX8_season 75 = .ok (.goto (-29), 3) := by decide +kernel
theorem dX8_season_78 : decode cX8_season 78 = .ok (.iconst 0, 1) := by decide +kernel
theorem dX8_season_79 : decode cX8_season 79 = .ok (.istore_n 2, 1) := by decide +kernel
theorem dX8_season_80 : decode cX8_season 80 = .ok (.iload_n 2, 1) := by decide +kernel
theorem dX8_season_81 : decode cX8_season 81 = .ok (.aload_n 0, 1) := by decide +kernel
theorem dX8_season_82 : decode cX8_season 82 = .ok (.getfield 16, 3) := by decide +kernel
theorem dX8_season_85 : decode cX8_season 85 = .ok (.invokevirtual 43, 3) := by decide +kernel
theorem dX8_season_88 : decode cX8_season 88 = .ok (.if_icmp .ge 32, 3) := by decide +kernel
theorem dX8_season_91 : decode cX8_season 91 = .ok (.iload_n 1, 1) := by decide +kernel
theorem dX8_season_92 : decode cX8_season 92 = .ok (.iload_n 2, 1) := by decide +kernel
theorem dX8_season_93 : decode cX8_season 93 = .ok (.invokestatic 135, 3) := by decide +kernel
theorem dX8_season_96 : decode cX8_season 96 = .ok (.ifCond .eq 18, 3) := by decide +kernel
theorem dX8_season_99 : decode cX8_season 99 = .ok (.aload_n 0, 1) := by decide +kernel
theorem dX8_season_100 : decode cX8_season 100 = .ok (.aload_n 0, 1) := by decide +kernel
theorem dX8_season_101 : decode cX8_season 101 = .ok (.getfield 16, 3) := by decide +kernel
theorem dX8_season_104 : decode cX8_season 104 = .ok (.iload_n 2, 1) := by decide +kernel
theorem dX8_season_105 : decode cX8_season 105 = .ok (.invokevirtual 124, 3) := by decide +kernel
theorem dX8_season_108 : decode cX8_season 108 = .ok (.checkcast 60, 3) := by decide +kernel
theorem dX8_season_111 : decode cX8_season 111 = .ok (.invokevirtual 139, 3) := by decide +kernel
theorem dX8_season_114 : decode cX8_season 114 = .ok (.iinc 2 1, 3) := by decide +kernel
theorem dX8_season_117 : decode cX8_season 117 = .ok (.goto (-37), 3) := by decide +kernel
theorem dX8_season_120 : decode cX8_season 120 = .ok (.iload_n 1, 1) := by decide +kernel
theorem dX8_season_121 : decode cX8_season 121 = .ok (.invokestatic 143, 3) := by decide +kernel
theorem dX8_season_124 : decode cX8_season 124 = .ok (.ireturn, 1) := by decide +kernel
theorem dX8_leader_0 : decode cX8_leader 0 = .ok (.aload_n 0, 1) := by decide +kernel
theorem dX8_leader_1 : decode cX8_leader 1 = .ok (.getfield 19, 3) := by decide +kernel
theorem dX8_leader_4 : decode cX8_leader 4 = .ok (.invokevirtual 43, 3) := by decide +kernel
theorem dX8_leader_7 : decode cX8_leader 7 = .ok (.bipush 8, 2) := by decide +kernel
theorem dX8_leader_9 : decode cX8_leader 9 = .ok (.invokestatic 47, 3) := by decide +kernel
theorem dX8_leader_12 : decode cX8_leader 12 = .ok (.aload_n 0, 1) := by decide +kernel
theorem dX8_leader_13 : decode cX8_leader 13 = .ok (.getfield 19, 3) := by decide +kernel
theorem dX8_leader_16 : decode cX8_leader 16 = .ok (.new 148, 3) := by decide +kernel
theorem dX8_leader_19 : decode cX8_leader 19 = .ok (.dup, 1) := by decide +kernel
theorem dX8_leader_20 : decode cX8_leader 20 = .ok (.invokespecial 150, 3) := by decide +kernel
theorem dX8_leader_23 : decode cX8_leader 23 = .ok (.invokevirtual 56, 3) := by decide +kernel
theorem dX8_leader_26 : decode cX8_leader 26 = .ok (.pop, 1) := by decide +kernel
theorem dX8_leader_27 : decode cX8_leader 27 = .ok (.aload_n 0, 1) := by decide +kernel
theorem dX8_leader_28 : decode cX8_leader 28 = .ok (.getfield 19, 3) := by decide +kernel
theorem dX8_leader_31 : decode cX8_leader 31 = .ok (.invokevirtual 43, 3) := by decide +kernel
theorem dX8_leader_34 : decode cX8_leader 34 = .ok (.iconst 1, 1) := by decide +kernel
theorem dX8_leader_35 : decode cX8_leader 35 = .ok (.isub, 1) := by decide +kernel
theorem dX8_leader_36 : decode cX8_leader 36 = .ok (.ireturn, 1) := by decide +kernel
theorem dX8_vet_0 : decode cX8_vet 0 = .ok (.aload_n 0, 1) := by decide +kernel
theorem dX8_vet_1 : decode cX8_vet 1 = .ok (.iload_n 1, 1) := by decide +kernel
theorem dX8_vet_2 : decode cX8_vet 2 = .ok (.invokevirtual 151, 3) := by decide +kernel
theorem dX8_vet_5 : decode cX8_vet 5 = .ok (.astore 5, 2) := by decide +kernel
theorem dX8_vet_7 : decode cX8_vet 7 = .ok (.iload_n 2, 1) := by decide +kernel
theorem dX8_vet_8 : decode cX8_vet 8 = .ok (.iconst 3, 1) := by decide +kernel
theorem dX8_vet_9 : decode cX8_vet 9 = .ok (.invokestatic 155, 3) := by decide +kernel
theorem dX8_vet_12 : decode cX8_vet 12 = .ok (.iload_n 3, 1) := by decide +kernel
theorem dX8_vet_13 : decode cX8_vet 13 = .ok (.iconst 0, 1) := by decide +kernel
theorem dX8_vet_14 : decode cX8_vet 14 = .ok (.sipush 9999, 3) := by decide +kernel
theorem dX8_vet_17 : decode cX8_vet 17 = .ok (.invokestatic 39, 3) := by decide +kernel
theorem dX8_vet_20 : decode cX8_vet 20 = .ok (.iload 4, 2) := by decide +kernel
theorem dX8_vet_22 : decode cX8_vet 22 = .ok (.iload_n 3, 1) := by decide +kernel
theorem dX8_vet_23 : decode cX8_vet 23 = .ok (.sipush 9999, 3) := by decide +kernel
theorem dX8_vet_26 : decode cX8_vet 26 = .ok (.invokestatic 39, 3) := by decide +kernel
theorem dX8_vet_29 : decode cX8_vet 29 = .ok (.aload 5, 2) := by decide +kernel
theorem dX8_vet_31 : decode cX8_vet 31 = .ok (.iload_n 2, 1) := by decide +kernel
theorem dX8_vet_32 : decode cX8_vet 32 = .ok (.iload_n 3, 1) := by decide +kernel
theorem dX8_vet_33 : decode cX8_vet 33 = .ok (.iload 4, 2) := by decide +kernel
theorem dX8_vet_35 : decode cX8_vet 35 = .ok (.invokevirtual 158, 3) := by decide +kernel
theorem dX8_vet_38 : decode cX8_vet 38 = .ok (.return_, 1) := by decide +kernel
theorem dX8_permit_0 : decode cX8_permit 0 = .ok (.aload_n 0, 1) := by decide +kernel
theorem dX8_permit_1 : decode cX8_permit 1 = .ok (.iload_n 1, 1) := by decide +kernel
theorem dX8_permit_2 : decode cX8_permit 2 = .ok (.invokevirtual 151, 3) := by decide +kernel
theorem dX8_permit_5 : decode cX8_permit 5 = .ok (.astore 4, 2) := by decide +kernel
theorem dX8_permit_7 : decode cX8_permit 7 = .ok (.iload_n 2, 1) := by decide +kernel
theorem dX8_permit_8 : decode cX8_permit 8 = .ok (.iconst 1, 1) := by decide +kernel
theorem dX8_permit_9 : decode cX8_permit 9 = .ok (.iconst 3, 1) := by decide +kernel
theorem dX8_permit_10 : decode cX8_permit 10 = .ok (.invokestatic 39, 3) := by decide +kernel
theorem dX8_permit_13 : decode cX8_permit 13 = .ok (.iload_n 3, 1) := by decide +kernel
theorem dX8_permit_14 : decode cX8_permit 14 = .ok (.iconst (-1), 1) := by decide +kernel
theorem dX8_permit_15 : decode cX8_permit 15 = .ok (.sipush 9999, 3) := by decide +kernel
theorem dX8_permit_18 : decode cX8_permit 18 = .ok (.invokestatic 39, 3) := by decide +kernel
theorem dX8_permit_21 : decode cX8_permit 21 = .ok (.aload 4, 2) := by decide +kernel
theorem dX8_permit_23 : decode cX8_permit 23 = .ok (.iload_n 2, 1) := by decide +kernel
theorem dX8_permit_24 : decode cX8_permit 24 = .ok (.invokevirtual 161, 3) := by decide +kernel
theorem dX8_permit_27 : decode cX8_permit 27 = .ok (.istore 5, 2) := by decide +kernel
theorem dX8_permit_29 : decode cX8_permit 29 = .ok (.aload 4, 2) := by decide +kernel
theorem dX8_permit_31 : decode cX8_permit 31 = .ok (.iload_n 2, 1) := by decide +kernel
theorem dX8_permit_32 : decode cX8_permit 32 = .ok (.iload_n 3, 1) := by decide +kernel
theorem dX8_permit_33 : decode cX8_permit 33 = .ok (.invokevirtual 164, 3) := by decide +kernel
theorem dX8_permit_36 : decode cX8_permit 36 = .ok (.iload 5, 2) := by decide +kernel
theorem dX8_permit_38 : decode cX8_permit 38 = .ok (.ireturn, 1) := by decide +kernel
theorem dX8_teach_0 : decode cX8_teach 0 = .ok (.aload_n 0, 1) := by decide +kernel
theorem dX8_teach_1 : decode cX8_teach 1 = .ok (.iload_n 1, 1) := by decide +kernel
theorem dX8_teach_2 : decode cX8_teach 2 = .ok (.invokevirtual 151, 3) := by decide +kernel
theorem dX8_teach_5 : decode cX8_teach 5 = .ok (.astore_n 3, 1) := by decide +kernel
theorem dX8_teach_6 : decode cX8_teach 6 = .ok (.iload_n 2, 1) := by decide +kernel
theorem dX8_teach_7 : decode cX8_teach 7 = .ok (.iconst 0, 1) := by decide +kernel
theorem dX8_teach_8 : decode cX8_teach 8 = .ok (.ldc 167, 2) := by decide +kernel
theorem dX8_teach_10 : decode cX8_teach 10 = .ok (.invokestatic 39, 3) := by decide +kernel
theorem dX8_teach_13 : decode cX8_teach 13 = .ok (.aload_n 3, 1) := by decide +kernel
theorem dX8_teach_14 : decode cX8_teach 14 = .ok (.getfield 168, 3) := by decide +kernel
theorem dX8_teach_17 : decode cX8_teach 17 = .ok (.istore 4, 2) := by decide +kernel
theorem dX8_teach_19 : decode cX8_teach 19 = .ok (.aload_n 3, 1) := by decide +kernel
theorem dX8_teach_20 : decode cX8_teach 20 = .ok (.iload_n 2, 1) := by decide +kernel
theorem dX8_teach_21 : decode cX8_teach 21 = .ok (.putfield 168, 3) := by decide +kernel
theorem dX8_teach_24 : decode cX8_teach 24 = .ok (.iload 4, 2) := by decide +kernel
theorem dX8_teach_26 : decode cX8_teach 26 = .ok (.ireturn, 1) := by decide +kernel
theorem dX8_edition_0 : decode cX8_edition 0 = .ok (.aload_n 0, 1) := by decide +kernel
theorem dX8_edition_1 : decode cX8_edition 1 = .ok (.iload_n 1, 1) := by decide +kernel
theorem dX8_edition_2 : decode cX8_edition 2 = .ok (.invokevirtual 171, 3) := by decide +kernel
theorem dX8_edition_5 : decode cX8_edition 5 = .ok (.astore 8, 2) := by decide +kernel
theorem dX8_edition_7 : decode cX8_edition 7 = .ok (.iload_n 2, 1) := by decide +kernel
theorem dX8_edition_8 : decode cX8_edition 8 = .ok (.iconst 0, 1) := by decide +kernel
theorem dX8_edition_9 : decode cX8_edition 9 = .ok (.ldc 167, 2) := by decide +kernel
theorem dX8_edition_11 : decode cX8_edition 11 = .ok (.invokestatic 39, 3) := by decide +kernel
theorem dX8_edition_14 : decode cX8_edition 14 = .ok (.iload_n 3, 1) := by decide +kernel
theorem dX8_edition_15 : decode cX8_edition 15 = .ok (.iconst 0, 1) := by decide +kernel
theorem dX8_edition_16 : decode cX8_edition 16 = .ok (.ldc 167, 2) := by decide +kernel
theorem dX8_edition_18 : decode cX8_edition 18 = .ok (.invokestatic 39, 3) := by decide +kernel
theorem dX8_edition_21 : decode cX8_edition 21 = .ok (.iload_n 2, 1) := by decide +kernel
theorem dX8_edition_22 : decode cX8_edition 22 = .ok (.iload_n 3, 1) := by decide +kernel
theorem dX8_edition_23 : decode cX8_edition 23 = .ok (.iand, 1) := by decide +kernel
theorem dX8_edition_24 : decode cX8_edition 24 = .ok (.ifCond .eq 13, 3) := by decide +kernel
theorem dX8_edition_27 : decode cX8_edition 27 = .ok (.new 175, 3) := by decide +kernel
theorem dX8_edition_30 : decode cX8_edition 30 = .ok (.dup, 1) := by decide +kernel
theorem dX8_edition_31 : decode cX8_edition 31 = .ok (.ldc 177, 2) := by decide +kernel
theorem dX8_edition_33 : decode cX8_edition 33 = .ok (.invokespecial 179, 3) := by decide +kernel
theorem dX8_edition_36 : decode cX8_edition 36 = .ok (.athrow, 1) := by decide +kernel
theorem dX8_edition_37 : decode cX8_edition 37 = .ok (.iload 4, 2) := by decide +kernel
theorem dX8_edition_39 : decode cX8_edition 39 = .ok (.iconst 0, 1) := by decide +kernel
theorem dX8_edition_40 : decode cX8_edition 40 = .ok (.iload_n 3, 1) := by decide +kernel
theorem dX8_edition_41 : decode cX8_edition 41 = .ok (.invokestatic 143, 3) := by decide +kernel
theorem dX8_edition_44 : decode cX8_edition 44 = .ok (.invokestatic 39, 3) := by decide +kernel
theorem dX8_edition_47 : decode cX8_edition 47 = .ok (.iload 5, 2) := by decide +kernel
theorem dX8_edition_49 : decode cX8_edition 49 = .ok (.iconst (-1), 1) := by decide +kernel
theorem dX8_edition_50 : decode cX8_edition 50 = .ok (.iload_n 1, 1) := by decide +kernel
theorem dX8_edition_51 : decode cX8_edition 51 = .ok (.iconst 1, 1) := by decide +kernel
theorem dX8_edition_52 : decode cX8_edition 52 = .ok (.isub, 1) := by decide +kernel
theorem dX8_edition_53 : decode cX8_edition 53 = .ok (.invokestatic 39, 3) := by decide +kernel
theorem dX8_edition_56 : decode cX8_edition 56 = .ok (.iload 5, 2) := by decide +kernel
theorem dX8_edition_58 : decode cX8_edition 58 = .ok (.iconst (-1), 1) := by decide +kernel
theorem dX8_edition_59 : decode cX8_edition 59 = .ok (.if_icmp .eq 12, 3) := by decide +kernel
theorem dX8_edition_62 : decode cX8_edition 62 = .ok (.iload 6, 2) := by decide +kernel
theorem dX8_edition_64 : decode cX8_edition 64 = .ok (.iconst 0, 1) := by decide +kernel
theorem dX8_edition_65 : decode cX8_edition 65 = .ok (.sipush 400, 3) := by decide +kernel
theorem dX8_edition_68 : decode cX8_edition 68 = .ok (.invokestatic 39, 3) := by decide +kernel
theorem dX8_edition_71 : decode cX8_edition 71 = .ok (.iload 7, 2) := by decide +kernel
theorem dX8_edition_73 : decode cX8_edition 73 = .ok (.iconst 0, 1) := by decide +kernel
theorem dX8_edition_74 : decode cX8_edition 74 = .ok (.sipush 4000, 3) := by decide +kernel
theorem dX8_edition_77 : decode cX8_edition 77 = .ok (.invokestatic 39, 3) := by decide +kernel
theorem dX8_edition_80 : decode cX8_edition 80 = .ok (.aload 8, 2) := by decide +kernel
theorem dX8_edition_82 : decode cX8_edition 82 = .ok (.getfield 180, 3) := by decide +kernel
theorem dX8_edition_85 : decode cX8_edition 85 = .ok (.invokevirtual 43, 3) := by decide +kernel
theorem dX8_edition_88 : decode cX8_edition 88 = .ok (.iconst 3, 1) := by decide +kernel
theorem dX8_edition_89 : decode cX8_edition 89 = .ok (.invokestatic 47, 3) := by decide +kernel
theorem dX8_edition_92 : decode cX8_edition 92 = .ok (.aload 8, 2) := by decide +kernel
theorem dX8_edition_94 : decode cX8_edition 94 = .ok (.getfield 180, 3) := by decide +kernel
theorem dX8_edition_97 : decode cX8_edition 97 = .ok (.new 183, 3) := by decide +kernel
theorem dX8_edition_100 : decode cX8_edition 100 = .ok (.dup, 1) := by decide +kernel
theorem dX8_edition_101 : decode cX8_edition 101 = .ok (.iload_n 2, 1) := by decide +kernel
theorem dX8_edition_102 : decode cX8_edition 102 = .ok (.iload_n 3, 1) := by decide +kernel
theorem dX8_edition_103 : decode cX8_edition 103 = .ok (.iload 4, 2) := by decide +kernel
theorem dX8_edition_105 : decode cX8_edition 105 = .ok (.iload 5, 2) := by decide +kernel
theorem dX8_edition_107 : decode cX8_edition 107 = .ok (.iload 6, 2) := by decide +kernel
theorem dX8_edition_109 : decode cX8_edition 109 = .ok (.iload 7, 2) := by decide +kernel
theorem dX8_edition_111 : decode cX8_edition 111 = .ok (.invokespecial 185, 3) := by decide +kernel
theorem dX8_edition_114 : decode cX8_edition 114 = .ok (.invokevirtual 56, 3) := by decide +kernel
theorem dX8_edition_117 : decode cX8_edition 117 = .ok (.pop, 1) := by decide +kernel
theorem dX8_edition_118 : decode cX8_edition 118 = .ok (.aload 8, 2) := by decide +kernel
theorem dX8_edition_120 : decode cX8_edition 120 = .ok (.getfield 180, 3) := by decide +kernel
theorem dX8_edition_123 : decode cX8_edition 123 = .ok (.invokevirtual 43, 3) := by decide +kernel
theorem dX8_edition_126 : decode cX8_edition 126 = .ok (.iconst 1, 1) := by decide +kernel
theorem dX8_edition_127 : decode cX8_edition 127 = .ok (.isub, 1) := by decide +kernel
theorem dX8_edition_128 : decode cX8_edition 128 = .ok (.ireturn, 1) := by decide +kernel
theorem dX8_begin_0 : decode cX8_begin 0 = .ok (.aload_n 0, 1) := by decide +kernel
theorem dX8_begin_1 : decode cX8_begin 1 = .ok (.iload_n 1, 1) := by decide +kernel
theorem dX8_begin_2 : decode cX8_begin 2 = .ok (.invokevirtual 64, 3) := by decide +kernel
theorem dX8_begin_5 : decode cX8_begin 5 = .ok (.astore_n 3, 1) := by decide +kernel
theorem dX8_begin_6 : decode cX8_begin 6 = .ok (.aload_n 0, 1) := by decide +kernel
theorem dX8_begin_7 : decode cX8_begin 7 = .ok (.iload_n 2, 1) := by decide +kernel
theorem dX8_begin_8 : decode cX8_begin 8 = .ok (.invokevirtual 171, 3) := by decide +kernel
theorem dX8_begin_11 : decode cX8_begin 11 = .ok (.astore 4, 2) := by decide +kernel
theorem dX8_begin_13 : decode cX8_begin 13 = .ok (.aload 4, 2) := by decide +kernel
theorem dX8_begin_15 : decode cX8_begin 15 = .ok (.getfield 180, 3) := by decide +kernel
theorem dX8_begin_18 : decode cX8_begin 18 = .ok (.invokevirtual 43, 3) := by decide +kernel
theorem dX8_begin_21 : decode cX8_begin 21 = .ok (.istore 5, 2) := by decide +kernel
theorem dX8_begin_23 : decode cX8_begin 23 = .ok (.iload 5, 2) := by decide +kernel
theorem dX8_begin_25 : decode cX8_begin 25 = .ok (.ifCond .ne 13, 3) := by decide +kernel
theorem dX8_begin_28 : decode cX8_begin 28 = .ok (.new 78, 3) := by decide +kernel
theorem dX8_begin_31 : decode cX8_begin 31 = .ok (.dup, 1) := by decide +kernel
theorem dX8_begin_32 : decode cX8_begin 32 = .ok (.ldc 188, 2) := by decide +kernel
theorem dX8_begin_34 : decode cX8_begin 34 = .ok (.invokespecial 82, 3) := by decide +kernel
theorem dX8_begin_37 : decode cX8_begin 37 = .ok (.athrow, 1) := by decide +kernel
theorem dX8_begin_38 : decode cX8_begin 38 = .ok (.aload_n 3, 1) := by decide +kernel
theorem dX8_begin_39 : decode cX8_begin 39 = .ok (.iload_n 2, 1) := by decide +kernel
theorem dX8_begin_40 : decode cX8_begin 40 = .ok (.invokevirtual 190, 3) := by decide +kernel
theorem dX8_begin_43 : decode cX8_begin 43 = .ok (.ifnull 13, 3) := by decide +kernel
theorem dX8_begin_46 : decode cX8_begin 46 = .ok (.new 78, 3) := by decide +kernel
theorem dX8_begin_49 : decode cX8_begin 49 = .ok (.dup, 1) := by decide +kernel
theorem dX8_begin_50 : decode cX8_begin 50 = .ok (.ldc 194, 2) := by decide +kernel
theorem dX8_begin_52 : decode cX8_begin 52 = .ok (.invokespecial 82, 3) := by decide +kernel
theorem dX8_begin_55 : decode cX8_begin 55 = .ok (.athrow, 1) := by decide +kernel
theorem dX8_begin_56 : decode cX8_begin 56 = .ok (.aload_n 3, 1) := by decide +kernel
theorem dX8_begin_57 : decode cX8_begin 57 = .ok (.iload_n 2, 1) := by decide +kernel
theorem dX8_begin_58 : decode cX8_begin 58 = .ok (.new 196, 3) := by decide +kernel
theorem dX8_begin_61 : decode cX8_begin 61 = .ok (.dup, 1) := by decide +kernel
theorem dX8_begin_62 : decode cX8_begin 62 = .ok (.aload 4, 2) := by decide +kernel
theorem dX8_begin_64 : decode cX8_begin 64 = .ok (.getfield 180, 3) := by decide +kernel
theorem dX8_begin_67 : decode cX8_begin 67 = .ok (.iload 5, 2) := by decide +kernel
theorem dX8_begin_69 : decode cX8_begin 69 = .ok (.iconst 1, 1) := by decide +kernel
theorem dX8_begin_70 : decode cX8_begin 70 = .ok (.isub, 1) := by decide +kernel
theorem dX8_begin_71 : decode cX8_begin 71 = .ok (.invokevirtual 124, 3) := by decide +kernel
theorem dX8_begin_74 : decode cX8_begin 74 = .ok (.checkcast 183, 3) := by decide +kernel
theorem dX8_begin_77 : decode cX8_begin 77 = .ok (.aload_n 0, 1) := by decide +kernel
theorem dX8_begin_78 : decode cX8_begin 78 = .ok (.getfield 32, 3) := by decide +kernel
theorem dX8_begin_81 : decode cX8_begin 81 = .ok (.invokespecial 198, 3) := by decide +kernel
theorem dX8_begin_84 : decode cX8_begin 84 = .ok (.invokevirtual 201, 3) := by decide +kernel
theorem dX8_begin_87 : decode cX8_begin 87 = .ok (.iload 5, 2) := by decide +kernel
theorem dX8_begin_89 : decode cX8_begin 89 = .ok (.iconst 1, 1) := by decide +kernel
theorem dX8_begin_90 : decode cX8_begin 90 = .ok (.isub, 1) := by decide +kernel
theorem dX8_begin_91 : decode cX8_begin 91 = .ok (.ireturn, 1) := by decide +kernel
theorem dX8_prove_0 : decode cX8_prove 0 = .ok (.aload_n 0, 1) := by decide +kernel
theorem dX8_prove_1 : decode cX8_prove 1 = .ok (.iload_n 1, 1) := by decide +kernel
theorem dX8_prove_2 : decode cX8_prove 2 = .ok (.invokevirtual 64, 3) := by decide +kernel
theorem dX8_prove_5 : decode cX8_prove 5 = .ok (.astore 4, 2) := by decide +kernel
theorem dX8_prove_7 : decode cX8_prove 7 = .ok (.iload_n 2, 1) := by decide +kernel
theorem dX8_prove_8 : decode cX8_prove 8 = .ok (.bipush 16, 2) := by decide +kernel
theorem dX8_prove_10 : decode cX8_prove 10 = .ok (.invokestatic 155, 3) := by decide +kernel
theorem dX8_prove_13 : decode cX8_prove 13 = .ok (.aload_n 0, 1) := by decide +kernel
theorem dX8_prove_14 : decode cX8_prove 14 = .ok (.iload_n 3, 1) := by decide +kernel
theorem dX8_prove_15 : decode cX8_prove 15 = .ok (.invokevirtual 151, 3) := by decide +kernel
theorem dX8_prove_18 : decode cX8_prove 18 = .ok (.astore 5, 2) := by decide +kernel
theorem dX8_prove_20 : decode cX8_prove 20 = .ok (.aload 5, 2) := by decide +kernel
theorem dX8_prove_22 : decode cX8_prove 22 = .ok (.aload_n 0, 1) := by decide +kernel
theorem dX8_prove_23 : decode cX8_prove 23 = .ok (.getfield 32, 3) := by decide +kernel
theorem dX8_prove_26 : decode cX8_prove 26 = .ok (.invokevirtual 205, 3) := by decide +kernel
theorem dX8_prove_29 : decode cX8_prove 29 = .ok (.ifCond .ne 13, 3) := by decide +kernel
theorem dX8_prove_32 : decode cX8_prove 32 = .ok (.new 78, 3) := by decide +kernel
theorem dX8_prove_35 : decode cX8_prove 35 = .ok (.dup, 1) := by decide +kernel
theorem dX8_prove_36 : decode cX8_prove 36 = .ok (.ldc 208, 2) := by decide +kernel
theorem dX8_prove_38 : decode cX8_prove 38 = .ok (.invokespecial 82, 3) := by decide +kernel
theorem dX8_prove_41 : decode cX8_prove 41 = .ok (.athrow, 1) := by decide +kernel
theorem dX8_prove_42 : decode cX8_prove 42 = .ok (.aload 5, 2) := by decide +kernel
theorem dX8_prove_44 : decode cX8_prove 44 = .ok (.getfield 168, 3) := by decide +kernel
theorem dX8_prove_47 : decode cX8_prove 47 = .ok (.iload_n 2, 1) := by decide +kernel
theorem dX8_prove_48 : decode cX8_prove 48 = .ok (.invokestatic 135, 3) := by decide +kernel
theorem dX8_prove_51 : decode cX8_prove 51 = .ok (.ifCond .ne 13, 3) := by decide +kernel
theorem dX8_prove_54 : decode cX8_prove 54 = .ok (.new 78, 3) := by decide +kernel
theorem dX8_prove_57 : decode cX8_prove 57 = .ok (.dup, 1) := by decide +kernel
theorem dX8_prove_58 : decode cX8_prove 58 = .ok (.ldc 210, 2) := by decide +kernel
theorem dX8_prove_60 : decode cX8_prove 60 = .ok (.invokespecial 82, 3) := by decide +kernel
theorem dX8_prove_63 : decode cX8_prove 63 = .ok (.athrow, 1) := by decide +kernel
theorem dX8_prove_64 : decode cX8_prove 64 = .ok (.aload 4, 2) := by decide +kernel
theorem dX8_prove_66 : decode cX8_prove 66 = .ok (.getfield 212, 3) := by decide +kernel
theorem dX8_prove_69 : decode cX8_prove 69 = .ok (.iload_n 2, 1) := by decide +kernel
theorem dX8_prove_70 : decode cX8_prove 70 = .ok (.invokestatic 135, 3) := by decide +kernel
theorem dX8_prove_73 : decode cX8_prove 73 = .ok (.ifCond .eq 13, 3) := by decide +kernel
theorem dX8_prove_76 : decode cX8_prove 76 = .ok (.new 78, 3) := by decide +kernel
theorem dX8_prove_79 : decode cX8_prove 79 = .ok (.dup, 1) := by decide +kernel
theorem dX8_prove_80 : decode cX8_prove 80 = .ok (.ldc 215, 2) := by decide +kernel
theorem dX8_prove_82 : decode cX8_prove 82 = .ok (.invokespecial 82, 3) := by decide +kernel
theorem dX8_prove_85 : decode cX8_prove 85 = .ok (.athrow, 1) := by decide +kernel
theorem dX8_prove_86 : decode cX8_prove 86 = .ok (.aload 4, 2) := by decide +kernel
theorem dX8_prove_88 : decode cX8_prove 88 = .ok (.iload_n 2, 1) := by decide +kernel
theorem dX8_prove_89 : decode cX8_prove 89 = .ok (.aload_n 0, 1) := by decide +kernel
theorem dX8_prove_90 : decode cX8_prove 90 = .ok (.getfield 32, 3) := by decide +kernel
theorem dX8_prove_93 : decode cX8_prove 93 = .ok (.invokevirtual 217, 3) := by decide +kernel
theorem dX8_prove_96 : decode cX8_prove 96 = .ok (.aload 4, 2) := by decide +kernel
theorem dX8_prove_98 : decode cX8_prove 98 = .ok (.aload_n 0, 1) := by decide +kernel
theorem dX8_prove_99 : decode cX8_prove 99 = .ok (.getfield 32, 3) := by decide +kernel
theorem dX8_prove_102 : decode cX8_prove 102 = .ok (.invokevirtual 220, 3) := by decide +kernel
theorem dX8_prove_105 : decode cX8_prove 105 = .ok (.ireturn, 1) := by decide +kernel
theorem dX8_event_0 : decode cX8_event 0 = .ok (.aload_n 0, 1) := by decide +kernel
theorem dX8_event_1 : decode cX8_event 1 = .ok (.iload_n 1, 1) := by decide +kernel
theorem dX8_event_2 : decode cX8_event 2 = .ok (.invokevirtual 68, 3) := by decide +kernel
theorem dX8_event_5 : decode cX8_event 5 = .ok (.astore 7, 2) := by decide +kernel
theorem dX8_event_7 : decode cX8_event 7 = .ok (.iload_n 2, 1) := by decide +kernel
theorem dX8_event_8 : decode cX8_event 8 = .ok (.iconst 3, 1) := by decide +kernel
theorem dX8_event_9 : decode cX8_event 9 = .ok (.invokestatic 155, 3) := by decide +kernel
theorem dX8_event_12 : decode cX8_event 12 = .ok (.iload_n 3, 1) := by decide +kernel
theorem dX8_event_13 : decode cX8_event 13 = .ok (.iconst 0, 1) := by decide +kernel
theorem dX8_event_14 : decode cX8_event 14 = .ok (.iconst 3, 1) := by decide +kernel
theorem dX8_event_15 : decode cX8_event 15 = .ok (.invokestatic 39, 3) := by decide +kernel
theorem dX8_event_18 : decode cX8_event 18 = .ok (.iload 4, 2) := by decide +kernel
theorem dX8_event_20 : decode cX8_event 20 = .ok (.aload_n 0, 1) := by decide +kernel
theorem dX8_event_21 : decode cX8_event 21 = .ok (.getfield 32, 3) := by decide +kernel
theorem dX8_event_24 : decode cX8_event 24 = .ok (.sipush 9999, 3) := by decide +kernel
theorem dX8_event_27 : decode cX8_event 27 = .ok (.invokestatic 39, 3) := by decide +kernel
theorem dX8_event_30 : decode cX8_event 30 = .ok (.iload 5, 2) := by decide +kernel
theorem dX8_event_32 : decode cX8_event 32 = .ok (.iconst 0, 1) := by decide +kernel
theorem dX8_event_33 : decode cX8_event 33 = .ok (.bipush 23, 2) := by decide +kernel
theorem dX8_event_35 : decode cX8_event 35 = .ok (.invokestatic 39, 3) := by decide +kernel
theorem dX8_event_38 : decode cX8_event 38 = .ok (.iload 6, 2) := by decide +kernel
theorem dX8_event_40 : decode cX8_event 40 = .ok (.iconst 1, 1) := by decide +kernel
theorem dX8_event_41 : decode cX8_event 41 = .ok (.bipush 24, 2) := by decide +kernel
theorem dX8_event_43 : decode cX8_event 43 = .ok (.iload 5, 2) := by decide +kernel
theorem dX8_event_45 : decode cX8_event 45 = .ok (.isub, 1) := by decide +kernel
theorem dX8_event_46 : decode cX8_event 46 = .ok (.invokestatic 39, 3) := by decide +kernel
theorem dX8_event_49 : decode cX8_event 49 = .ok (.aload_n 0, 1) := by decide +kernel
theorem dX8_event_50 : decode cX8_event 50 = .ok (.getfield 22, 3) := by decide +kernel
theorem dX8_event_53 : decode cX8_event 53 = .ok (.invokevirtual 43, 3) := by decide +kernel
theorem dX8_event_56 : decode cX8_event 56 = .ok (.bipush 20, 2) := by decide +kernel
theorem dX8_event_58 : decode cX8_event 58 = .ok (.invokestatic 47, 3) := by decide +kernel
theorem dX8_event_61 : decode cX8_event 61 = .ok (.aload_n 0, 1) := by decide +kernel
theorem dX8_event_62 : decode cX8_event 62 = .ok (.getfield 22, 3) := by decide +kernel
theorem dX8_event_65 : decode cX8_event 65 = .ok (.new 223, 3) := by decide +kernel
theorem dX8_event_68 : decode cX8_event 68 = .ok (.dup, 1) := by decide +kernel
theorem dX8_event_69 : decode cX8_event 69 = .ok (.aload 7, 2) := by decide +kernel
theorem dX8_event_71 : decode cX8_event 71 = .ok (.getfield 112, 3) := by decide +kernel
theorem dX8_event_74 : decode cX8_event 74 = .ok (.iload_n 2, 1) := by decide +kernel
theorem dX8_event_75 : decode cX8_event 75 = .ok (.iload_n 3, 1) := by decide +kernel
theorem dX8_event_76 : decode cX8_event 76 = .ok (.iload 4, 2) := by decide +kernel
theorem dX8_event_78 : decode cX8_event 78 = .ok (.iload 5, 2) := by decide +kernel
theorem dX8_event_80 : decode cX8_event 80 = .ok (.iload 6, 2) := by decide +kernel
theorem dX8_event_82 : decode cX8_event 82 = .ok (.invokespecial 225, 3) := by decide +kernel
theorem dX8_event_85 : decode cX8_event 85 = .ok (.invokevirtual 56, 3) := by decide +kernel
theorem dX8_event_88 : decode cX8_event 88 = .ok (.pop, 1) := by decide +kernel
theorem dX8_event_89 : decode cX8_event 89 = .ok (.aload_n 0, 1) := by decide +kernel
theorem dX8_event_90 : decode cX8_event 90 = .ok (.getfield 22, 3) := by decide +kernel
theorem dX8_event_93 : decode cX8_event 93 = .ok (.invokevirtual 43, 3) := by decide +kernel
theorem dX8_event_96 : decode cX8_event 96 = .ok (.iconst 1, 1) := by decide +kernel
theorem dX8_event_97 : decode cX8_event 97 = .ok (.isub, 1) := by decide +kernel
theorem dX8_event_98 : decode cX8_event 98 = .ok (.ireturn, 1) := by decide +kernel
theorem dX8_staff_0 : decode cX8_staff 0 = .ok (.aload_n 0, 1) := by decide +kernel
theorem dX8_staff_1 : decode cX8_staff 1 = .ok (.iload_n 1, 1) := by decide +kernel
theorem dX8_staff_2 : decode cX8_staff 2 = .ok (.invokevirtual 226, 3) := by decide +kernel
theorem dX8_staff_5 : decode cX8_staff 5 = .ok (.astore 4, 2) := by decide +kernel
theorem dX8_staff_7 : decode cX8_staff 7 = .ok (.iload_n 2, 1) := by decide +kernel
theorem dX8_staff_8 : decode cX8_staff 8 = .ok (.aload_n 0, 1) := by decide +kernel
theorem dX8_staff_9 : decode cX8_staff 9 = .ok (.getfield 19, 3) := by decide +kernel
theorem dX8_staff_12 : decode cX8_staff 12 = .ok (.invokevirtual 43, 3) := by decide +kernel
theorem dX8_staff_15 : decode cX8_staff 15 = .ok (.invokestatic 155, 3) := by decide +kernel
theorem dX8_staff_18 : decode cX8_staff 18 = .ok (.iload_n 3, 1) := by decide +kernel
theorem dX8_staff_19 : decode cX8_staff 19 = .ok (.ifCond .eq 23, 3) := by decide +kernel
theorem dX8_staff_22 : decode cX8_staff 22 = .ok (.aload_n 0, 1) := by decide +kernel
theorem dX8_staff_23 : decode cX8_staff 23 = .ok (.aload 4, 2) := by decide +kernel
theorem dX8_staff_25 : decode cX8_staff 25 = .ok (.iload_n 2, 1) := by decide +kernel
theorem dX8_staff_26 : decode cX8_staff 26 = .ok (.invokevirtual 230, 3) := by decide +kernel
theorem dX8_staff_29 : decode cX8_staff 29 = .ok (.ifCond .eq 13, 3) := by decide +kernel
theorem dX8_staff_32 : decode cX8_staff 32 = .ok (.new 78, 3) := by decide +kernel
theorem dX8_staff_35 : decode cX8_staff 35 = .ok (.dup, 1) := by decide +kernel
theorem dX8_staff_36 : decode cX8_staff 36 = .ok (.ldc 234, 2) := by decide +kernel
theorem dX8_staff_38 : decode cX8_staff 38 = .ok (.invokespecial 82, 3) := by decide +kernel
theorem dX8_staff_41 : decode cX8_staff 41 = .ok (.athrow, 1) := by decide +kernel
theorem dX8_staff_42 : decode cX8_staff 42 = .ok (.iconst 1, 1) := by decide +kernel
theorem dX8_staff_43 : decode cX8_staff 43 = .ok (.iload_n 2, 1) := by decide +kernel
theorem dX8_staff_44 : decode cX8_staff 44 = .ok (.ishl, 1) := by decide +kernel
theorem dX8_staff_45 : decode cX8_staff 45 = .ok (.istore 5, 2) := by decide +kernel
theorem dX8_staff_47 : decode cX8_staff 47 = .ok (.aload 4, 2) := by decide +kernel
theorem dX8_staff_49 : decode cX8_staff 49 = .ok (.iload_n 3, 1) := by decide +kernel
theorem dX8_staff_50 : decode cX8_staff 50 = .ok (.ifCond .eq 14, 3) := by decide +kernel
theorem dX8_staff_53 : decode cX8_staff 53 = .ok (.aload 4, 2) := by decide +kernel
theorem dX8_staff_55 : decode cX8_staff 55 = .ok (.getfield 236, 3) := by decide +kernel
theorem dX8_staff_58 : decode cX8_staff 58 = .ok (.iload 5, 2) := by decide +kernel
theorem dX8_staff_60 : decode cX8_staff 60 = .ok (.ior, 1) := by decide +kernel
theorem dX8_staff_61 : decode cX8_staff 61 = .ok (.goto 13, 3) := by decide +kernel
theorem dX8_staff_64 : decode cX8_staff 64 = .ok (.aload 4, 2) := by decide +kernel
theorem dX8_staff_66 : decode cX8_staff 66 = .ok (.getfield 236, 3) := by decide +kernel
theorem dX8_staff_69 : decode cX8_staff 69 = .ok (.iload 5, 2) := by decide +kernel
theorem dX8_staff_71 : decode cX8_staff 71 = .ok (.iconst (-1), 1) := by decide +kernel
theorem dX8_staff_72 : decode cX8_staff 72 = .ok (.ixor, 1) := by decide +kernel
theorem dX8_staff_73 : decode cX8_staff 73 = .ok (.iand, 1) := by decide +kernel
theorem dX8_staff_74 : decode cX8_staff 74 = .ok (.putfield 236, 3) := by decide +kernel
theorem dX8_staff_77 : decode cX8_staff 77 = .ok (.aload 4, 2) := by decide +kernel
theorem dX8_staff_79 : decode cX8_staff 79 = .ok (.getfield 236, 3) := by decide +kernel
theorem dX8_staff_82 : decode cX8_staff 82 = .ok (.invokestatic 143, 3) := by decide +kernel
theorem dX8_staff_85 : decode cX8_staff 85 = .ok (.ireturn, 1) := by decide +kernel
theorem dX8_why_0 : decode cX8_why 0 = .ok (.aload_n 0, 1) := by decide +kernel
theorem dX8_why_1 : decode cX8_why 1 = .ok (.iload_n 1, 1) := by decide +kernel
theorem dX8_why_2 : decode cX8_why 2 = .ok (.invokevirtual 226, 3) := by decide +kernel
theorem dX8_why_5 : decode cX8_why 5 = .ok (.astore_n 2, 1) := by decide +kernel
theorem dX8_why_6 : decode cX8_why 6 = .ok (.aload_n 0, 1) := by decide +kernel
theorem dX8_why_7 : decode cX8_why 7 = .ok (.aload_n 2, 1) := by decide +kernel
theorem dX8_why_8 : decode cX8_why 8 = .ok (.invokevirtual 238, 3) := by decide +kernel
theorem dX8_why_11 : decode cX8_why 11 = .ok (.aload_n 2, 1) := by decide +kernel
theorem dX8_why_12 : decode cX8_why 12 = .ok (.getfield 236, 3) := by decide +kernel
theorem dX8_why_15 : decode cX8_why 15 = .ok (.invokevirtual 242, 3) := by decide +kernel
theorem dX8_why_18 : decode cX8_why 18 = .ok (.ireturn, 1) := by decide +kernel
theorem dX8_couldStaff_0 : decode cX8_couldStaff 0 = .ok (.iload_n 1, 1) := by decide +kernel
theorem dX8_couldStaff_1 : decode cX8_couldStaff 1 = .ok (.iconst 0, 1) := by decide +kernel
theorem dX8_couldStaff_2 : decode cX8_couldStaff 2 = .ok (.sipush 9999, 3) := by decide +kernel
theorem dX8_couldStaff_5 : decode cX8_couldStaff 5 = .ok (.invokestatic 39, 3) := by decide +kernel
theorem dX8_couldStaff_8 : decode cX8_couldStaff 8 = .ok (.iload_n 2, 1) := by decide +kernel
theorem dX8_couldStaff_9 : decode cX8_couldStaff 9 = .ok (.iconst 0, 1) := by decide +kernel
theorem dX8_couldStaff_10 : decode cX8_couldStaff 10 = .ok (.bipush 23, 2) := by decide +kernel
theorem dX8_couldStaff_12 : decode cX8_couldStaff 12 = .ok (.invokestatic 39, 3) := by decide +kernel
theorem dX8_couldStaff_15 : decode cX8_couldStaff 15 = .ok (.iload_n 3, 1) := by decide +kernel
theorem dX8_couldStaff_16 : decode cX8_couldStaff 16 = .ok (.iconst 0, 1) := by decide +kernel
theorem dX8_couldStaff_17 : decode cX8_couldStaff 17 = .ok (.iconst 1, 1) := by decide +kernel
theorem dX8_couldStaff_18 : decode cX8_couldStaff 18 = .ok (.aload_n 0, 1) := by decide +kernel
theorem dX8_couldStaff_19 : decode cX8_couldStaff 19 = .ok (.getfield 19, 3) := by decide +kernel
theorem dX8_couldStaff_22 : decode cX8_couldStaff 22 = .ok (.invokevirtual 43, 3) := by decide +kernel
theorem dX8_couldStaff_25 : decode cX8_couldStaff 25 = .ok (.ishl, 1) := by decide +kernel
theorem dX8_couldStaff_26 : decode cX8_couldStaff 26 = .ok (.iconst 1, 1) := by decide +kernel
theorem dX8_couldStaff_27 : decode cX8_couldStaff 27 = .ok (.isub, 1) := by decide +kernel
theorem dX8_couldStaff_28 : decode cX8_couldStaff 28 = .ok (.invokestatic 39, 3) := by decide +kernel
theorem dX8_couldStaff_31 : decode cX8_couldStaff 31 = .ok (.aload_n 0, 1) := by decide +kernel
theorem dX8_couldStaff_32 : decode cX8_couldStaff 32 = .ok (.iload_n 1, 1) := by decide +kernel
theorem dX8_couldStaff_33 : decode cX8_couldStaff 33 = .ok (.iload_n 2, 1) := by decide +kernel
theorem dX8_couldStaff_34 : decode cX8_couldStaff 34 = .ok (.invokevirtual 247, 3) := by decide +kernel
theorem dX8_couldStaff_37 : decode cX8_couldStaff 37 = .ok (.iconst 3, 1) := by decide +kernel
theorem dX8_couldStaff_38 : decode cX8_couldStaff 38 = .ok (.if_icmp .le 13, 3) := by decide +kernel
theorem dX8_couldStaff_41 : decode cX8_couldStaff 41 = .ok (.new 78, 3) := by decide +kernel
theorem dX8_couldStaff_44 : decode cX8_couldStaff 44 = .ok (.dup, 1) := by decide +kernel
theorem dX8_couldStaff_45 : decode cX8_couldStaff 45 = .ok (.ldc 250, 2) := by decide +kernel
theorem dX8_couldStaff_47 : decode cX8_couldStaff 47 = .ok (.invokespecial 82, 3) := by decide +kernel
theorem dX8_couldStaff_50 : decode cX8_couldStaff 50 = .ok (.athrow, 1) := by decide +kernel
theorem dX8_couldStaff_51 : decode cX8_couldStaff 51 = .ok (.aload_n 0, 1) := by decide +kernel
theorem dX8_couldStaff_52 : decode cX8_couldStaff 52 = .ok (.iload_n 1, 1) := by decide +kernel
theorem dX8_couldStaff_53 : decode cX8_couldStaff 53 = .ok (.iload_n 2, 1) := by decide +kernel
theorem dX8_couldStaff_54 : decode cX8_couldStaff 54 = .ok (.invokevirtual 252, 3) := by decide +kernel
theorem dX8_couldStaff_57 : decode cX8_couldStaff 57 = .ok (.iconst 0, 1) := by decide +kernel
theorem dX8_couldStaff_58 : decode cX8_couldStaff 58 = .ok (.iload_n 3, 1) := by decide +kernel
theorem dX8_couldStaff_59 : decode cX8_couldStaff 59 = .ok (.invokestatic 256, 3) := by decide +kernel
theorem dX8_couldStaff_62 : decode cX8_couldStaff 62 = .ok (.ireturn, 1) := by decide +kernel
theorem dX8_boxes_0 : decode cX8_boxes 0 = .ok (.aload_n 0, 1) := by decide +kernel
theorem dX8_boxes_1 : decode cX8_boxes 1 = .ok (.iload_n 1, 1) := by decide +kernel
theorem dX8_boxes_2 : decode cX8_boxes 2 = .ok (.invokevirtual 64, 3) := by decide +kernel
theorem dX8_boxes_5 : decode cX8_boxes 5 = .ok (.astore_n 3, 1) := by decide +kernel
theorem dX8_boxes_6 : decode cX8_boxes 6 = .ok (.iload_n 2, 1) := by decide +kernel
theorem dX8_boxes_7 : decode cX8_boxes 7 = .ok (.iconst 1, 1) := by decide +kernel
theorem dX8_boxes_8 : decode cX8_boxes 8 = .ok (.bipush 99, 2) := by decide +kernel
theorem dX8_boxes_10 : decode cX8_boxes 10 = .ok (.invokestatic 39, 3) := by decide +kernel
theorem dX8_boxes_13 : decode cX8_boxes 13 = .ok (.aload_n 3, 1) := by decide +kernel
theorem dX8_boxes_14 : decode cX8_boxes 14 = .ok (.getfield 72, 3) := by decide +kernel
theorem dX8_boxes_17 : decode cX8_boxes 17 = .ok (.iconst (-1), 1) := by decide +kernel
theorem dX8_boxes_18 : decode cX8_boxes 18 = .ok (.if_icmp .ne 13, 3) := by decide +kernel
theorem dX8_boxes_21 : decode cX8_boxes 21 = .ok (.new 78, 3) := by decide +kernel
theorem dX8_boxes_24 : decode cX8_boxes 24 = .ok (.dup, 1) := by decide +kernel
theorem dX8_boxes_25 : decode cX8_boxes 25 = .ok (.ldc 107, 2) := by decide +kernel
theorem dX8_boxes_27 : decode cX8_boxes 27 = .ok (.invokespecial 82, 3) := by decide +kernel
theorem dX8_boxes_30 : decode cX8_boxes 30 = .ok (.athrow, 1) := by decide +kernel
theorem dX8_boxes_31 : decode cX8_boxes 31 = .ok (.aload_n 3, 1) := by decide +kernel
theorem dX8_boxes_32 : decode cX8_boxes 32 = .ok (.getfield 260, 3) := by decide +kernel
theorem dX8_boxes_35 : decode cX8_boxes 35 = .ok (.ifCond .le 25, 3) := by decide +kernel
theorem dX8_boxes_38 : decode cX8_boxes 38 = .ok (.aload_n 3, 1) := by decide +kernel
theorem dX8_boxes_39 : decode cX8_boxes 39 = .ok (.getfield 263, 3) := by decide +kernel
theorem dX8_boxes_42 : decode cX8_boxes 42 = .ok (.aload_n 3, 1) := by decide +kernel
theorem dX8_boxes_43 : decode cX8_boxes 43 = .ok (.getfield 72, 3) := by decide +kernel
theorem dX8_boxes_46 : decode cX8_boxes 46 = .ok (.if_icmp .eq 14, 3) := by decide +kernel
theorem dX8_boxes_49 : decode cX8_boxes 49 = .ok (.new 78, 3) := by decide +kernel
theorem dX8_boxes_52 : decode cX8_boxes 52 = .ok (.dup, 1) := by decide +kernel
theorem dX8_boxes_53 : decode cX8_boxes 53 = .ok (.ldc_w 266, 3) := by decide +kernel
theorem dX8_boxes_56 : decode cX8_boxes 56 = .ok (.invokespecial 82, 3) := by decide +kernel
theorem dX8_boxes_59 : decode cX8_boxes 59 = .ok (.athrow, 1) := by decide +kernel
theorem dX8_boxes_60 : decode cX8_boxes 60 = .ok (.aload_n 3, 1) := by decide +kernel
theorem dX8_boxes_61 : decode cX8_boxes 61 = .ok (.getfield 268, 3) := by decide +kernel
theorem dX8_boxes_64 : decode cX8_boxes 64 = .ok (.iload_n 2, 1) := by decide +kernel
theorem dX8_boxes_65 : decode cX8_boxes 65 = .ok (.iadd, 1) := by decide +kernel
theorem dX8_boxes_66 : decode cX8_boxes 66 = .ok (.sipush 9999, 3) := by decide +kernel
theorem dX8_boxes_69 : decode cX8_boxes 69 = .ok (.if_icmp .le 14, 3) := by decide +kernel
theorem dX8_boxes_72 : decode cX8_boxes 72 = .ok (.new 78, 3) := by decide +kernel
theorem dX8_boxes_75 : decode cX8_boxes 75 = .ok (.dup, 1) := by decide +kernel
theorem dX8_boxes_76 : decode cX8_boxes 76 = .ok (.ldc_w 271, 3) := by decide +kernel
theorem dX8_boxes_79 : decode cX8_boxes 79 = .ok (.invokespecial 82, 3) := by decide +kernel
theorem dX8_boxes_82 : decode cX8_boxes 82 = .ok (.athrow, 1) := by decide +kernel
theorem dX8_boxes_83 : decode cX8_boxes 83 = .ok (.aload_n 3, 1) := by decide +kernel
theorem dX8_boxes_84 : decode cX8_boxes 84 = .ok (.dup, 1) := by decide +kernel
theorem dX8_boxes_85 : decode cX8_boxes 85 = .ok (.getfield 268, 3) := by decide +kernel
theorem dX8_boxes_88 : decode cX8_boxes 88 = .ok (.iload_n 2, 1) := by decide +kernel
theorem dX8_boxes_89 : decode cX8_boxes 89 = .ok (.iadd, 1) := by decide +kernel
theorem dX8_boxes_90 : decode cX8_boxes 90 = .ok (.putfield 268, 3) := by decide +kernel
theorem dX8_boxes_93 : decode cX8_boxes 93 = .ok (.aload_n 3, 1) := by decide +kernel
theorem dX8_boxes_94 : decode cX8_boxes 94 = .ok (.dup, 1) := by decide +kernel
theorem dX8_boxes_95 : decode cX8_boxes 95 = .ok (.getfield 260, 3) := by decide +kernel
theorem dX8_boxes_98 : decode cX8_boxes 98 = .ok (.iload_n 2, 1) := by decide +kernel
theorem dX8_boxes_99 : decode cX8_boxes 99 = .ok (.iconst 4, 1) := by decide +kernel
theorem dX8_boxes_100 : decode cX8_boxes 100 = .ok (.imul, 1) := by decide +kernel
theorem dX8_boxes_101 : decode cX8_boxes 101 = .ok (.iadd, 1) := by decide +kernel
theorem dX8_boxes_102 : decode cX8_boxes 102 = .ok (.putfield 260, 3) := by decide +kernel
theorem dX8_boxes_105 : decode cX8_boxes 105 = .ok (.aload_n 3, 1) := by decide +kernel
theorem dX8_boxes_106 : decode cX8_boxes 106 = .ok (.aload_n 3, 1) := by decide +kernel
theorem dX8_boxes_107 : decode cX8_boxes 107 = .ok (.getfield 72, 3) := by decide +kernel
theorem dX8_boxes_110 : decode cX8_boxes 110 = .ok (.putfield 263, 3) := by decide +kernel
theorem dX8_boxes_113 : decode cX8_boxes 113 = .ok (.aload_n 3, 1) := by decide +kernel
theorem dX8_boxes_114 : decode cX8_boxes 114 = .ok (.getfield 260, 3) := by decide +kernel
theorem dX8_boxes_117 : decode cX8_boxes 117 = .ok (.ireturn, 1) := by decide +kernel
theorem dX8_pay_0 : decode cX8_pay 0 = .ok (.aload_n 0, 1) := by decide +kernel
theorem dX8_pay_1 : decode cX8_pay 1 = .ok (.iload_n 1, 1) := by decide +kernel
theorem dX8_pay_2 : decode cX8_pay 2 = .ok (.invokevirtual 64, 3) := by decide +kernel
theorem dX8_pay_5 : decode cX8_pay 5 = .ok (.astore_n 3, 1) := by decide +kernel
theorem dX8_pay_6 : decode cX8_pay 6 = .ok (.iload_n 2, 1) := by decide +kernel
theorem dX8_pay_7 : decode cX8_pay 7 = .ok (.iconst 1, 1) := by decide +kernel
theorem dX8_pay_8 : decode cX8_pay 8 = .ok (.sipush 396, 3) := by decide +kernel
theorem dX8_pay_11 : decode cX8_pay 11 = .ok (.invokestatic 39, 3) := by decide +kernel
theorem dX8_pay_14 : decode cX8_pay 14 = .ok (.aload_n 3, 1) := by decide +kernel
theorem dX8_pay_15 : decode cX8_pay 15 = .ok (.getfield 260, 3) := by decide +kernel
theorem dX8_pay_18 : decode cX8_pay 18 = .ok (.iload_n 2, 1) := by decide +kernel
theorem dX8_pay_19 : decode cX8_pay 19 = .ok (.if_icmp .ge 14, 3) := by decide +kernel
theorem dX8_pay_22 : decode cX8_pay 22 = .ok (.new 78, 3) := by decide +kernel
theorem dX8_pay_25 : decode cX8_pay 25 = .ok (.dup, 1) := by decide +kernel
theorem dX8_pay_26 : decode cX8_pay 26 = .ok (.ldc_w 273, 3) := by decide +kernel
theorem dX8_pay_29 : decode cX8_pay 29 = .ok (.invokespecial 82, 3) := by decide +kernel
theorem dX8_pay_32 : decode cX8_pay 32 = .ok (.athrow, 1) := by decide +kernel
theorem dX8_pay_33 : decode cX8_pay 33 = .ok (.aload_n 3, 1) := by decide +kernel
theorem dX8_pay_34 : decode cX8_pay 34 = .ok (.dup, 1) := by decide +kernel
theorem dX8_pay_35 : decode cX8_pay 35 = .ok (.getfield 260, 3) := by decide +kernel
theorem dX8_pay_38 : decode cX8_pay 38 = .ok (.iload_n 2, 1) := by decide +kernel
theorem dX8_pay_39 : decode cX8_pay 39 = .ok (.isub, 1) := by decide +kernel
theorem dX8_pay_40 : decode cX8_pay 40 = .ok (.putfield 260, 3) := by decide +kernel
theorem dX8_pay_43 : decode cX8_pay 43 = .ok (.aload_n 3, 1) := by decide +kernel
theorem dX8_pay_44 : decode cX8_pay 44 = .ok (.getfield 260, 3) := by decide +kernel
theorem dX8_pay_47 : decode cX8_pay 47 = .ok (.ireturn, 1) := by decide +kernel
theorem dX8_owed_0 : decode cX8_owed 0 = .ok (.aload_n 0, 1) := by decide +kernel
theorem dX8_owed_1 : decode cX8_owed 1 = .ok (.iload_n 1, 1) := by decide +kernel
theorem dX8_owed_2 : decode cX8_owed 2 = .ok (.invokevirtual 68, 3) := by decide +kernel
theorem dX8_owed_5 : decode cX8_owed 5 = .ok (.astore_n 2, 1) := by decide +kernel
theorem dX8_owed_6 : decode cX8_owed 6 = .ok (.iconst 0, 1) := by decide +kernel
theorem dX8_owed_7 : decode cX8_owed 7 = .ok (.istore_n 3, 1) := by decide +kernel
theorem dX8_owed_8 : decode cX8_owed 8 = .ok (.iconst 0, 1) := by decide +kernel
theorem dX8_owed_9 : decode cX8_owed 9 = .ok (.istore 4, 2) := by decide +kernel
theorem dX8_owed_11 : decode cX8_owed 11 = .ok (.iload 4, 2) := by decide +kernel
theorem dX8_owed_13 : decode cX8_owed 13 = .ok (.aload_n 0, 1) := by decide +kernel
theorem dX8_owed_14 : decode cX8_owed 14 = .ok (.getfield 16, 3) := by decide +kernel
theorem dX8_owed_17 : decode cX8_owed 17 = .ok (.invokevirtual 43, 3) := by decide +kernel
theorem dX8_owed_20 : decode cX8_owed 20 = .ok (.if_icmp .ge 49, 3) := by decide +kernel
theorem dX8_owed_23 : decode cX8_owed 23 = .ok (.aload_n 0, 1) := by decide +kernel
theorem dX8_owed_24 : decode cX8_owed 24 = .ok (.getfield 16, 3) := by decide +kernel
theorem dX8_owed_27 : decode cX8_owed 27 = .ok (.iload 4, 2) := by decide +kernel
theorem dX8_owed_29 : decode cX8_owed 29 = .ok (.invokevirtual 124, 3) := by decide +kernel
theorem dX8_owed_32 : decode cX8_owed 32 = .ok (.checkcast 60, 3) := by decide +kernel
theorem dX8_owed_35 : decode cX8_owed 35 = .ok (.getfield 263, 3) := by decide +kernel
theorem dX8_owed_38 : decode cX8_owed 38 = .ok (.aload_n 2, 1) := by decide +kernel
theorem dX8_owed_39 : decode cX8_owed 39 = .ok (.getfield 112, 3) := by decide +kernel
theorem dX8_owed_42 : decode cX8_owed 42 = .ok (.if_icmp .ne 21, 3) := by decide +kernel
theorem dX8_owed_45 : decode cX8_owed 45 = .ok (.iload_n 3, 1) := by decide +kernel
theorem dX8_owed_46 : decode cX8_owed 46 = .ok (.aload_n 0, 1) := by decide +kernel
theorem dX8_owed_47 : decode cX8_owed 47 = .ok (.getfield 16, 3) := by decide +kernel
theorem dX8_owed_50 : decode cX8_owed 50 = .ok (.iload 4, 2) := by decide +kernel
theorem dX8_owed_52 : decode cX8_owed 52 = .ok (.invokevirtual 124, 3) := by decide +kernel
theorem dX8_owed_55 : decode cX8_owed 55 = .ok (.checkcast 60, 3) := by decide +kernel
theorem dX8_owed_58 : decode cX8_owed 58 = .ok (.getfield 260, 3) := by decide +kernel
theorem dX8_owed_61 : decode cX8_owed 61 = .ok (.iadd, 1) := by decide +kernel
theorem dX8_owed_62 : decode cX8_owed 62 = .ok (.istore_n 3, 1) := by decide +kernel
theorem dX8_owed_63 : decode cX8_owed 63 = .ok (.iinc 4 1, 3) := by decide +kernel
theorem dX8_owed_66 : decode cX8_owed 66 = .ok (.goto (-55), 3) := by decide +kernel
theorem dX8_owed_69 : decode cX8_owed 69 = .ok (.iload_n 3, 1) := by decide +kernel
theorem dX8_owed_70 : decode cX8_owed 70 = .ok (.ireturn, 1) := by decide +kernel
theorem dX8_today_0 : decode cX8_today 0 = .ok (.aload_n 0, 1) := by decide +kernel
theorem dX8_today_1 : decode cX8_today 1 = .ok (.getfield 32, 3) := by decide +kernel
theorem dX8_today_4 : decode cX8_today 4 = .ok (.ireturn, 1) := by decide +kernel
theorem dX8_ofChild_0 : decode cX8_ofChild 0 = .ok (.aload_n 0, 1) := by decide +kernel
theorem dX8_ofChild_1 : decode cX8_ofChild 1 = .ok (.iload_n 1, 1) := by decide +kernel
theorem dX8_ofChild_2 : decode cX8_ofChild 2 = .ok (.invokevirtual 64, 3) := by decide +kernel
theorem dX8_ofChild_5 : decode cX8_ofChild 5 = .ok (.astore_n 3, 1) := by decide +kernel
theorem dX8_ofChild_6 : decode cX8_ofChild 6 = .ok (.iload_n 2, 1) := by decide +kernel
theorem dX8_ofChild_7 : decode cX8_ofChild 7 = .ok (.tableswitch 71 0 5 #[37, 42, 47, 52, 57, 66], 37) := by decide +kernel
theorem dX8_ofChild_44 : decode cX8_ofChild 44 = .ok (.aload_n 3, 1) := by decide +kernel
theorem dX8_ofChild_45 : decode cX8_ofChild 45 = .ok (.getfield 85, 3) := by decide +kernel
theorem dX8_ofChild_48 : decode cX8_ofChild 48 = .ok (.ireturn, 1) := by decide +kernel
theorem dX8_ofChild_49 : decode cX8_ofChild 49 = .ok (.aload_n 3, 1) := by decide +kernel
theorem dX8_ofChild_50 : decode cX8_ofChild 50 = .ok (.getfield 72, 3) := by decide +kernel
theorem dX8_ofChild_53 : decode cX8_ofChild 53 = .ok (.ireturn, 1) := by decide +kernel
theorem dX8_ofChild_54 : decode cX8_ofChild 54 = .ok (.aload_n 3, 1) := by decide +kernel
theorem dX8_ofChild_55 : decode cX8_ofChild 55 = .ok (.getfield 75, 3) := by decide +kernel
theorem dX8_ofChild_58 : decode cX8_ofChild 58 = .ok (.ireturn, 1) := by decide +kernel
theorem dX8_ofChild_59 : decode cX8_ofChild 59 = .ok (.aload_n 3, 1) := by decide +kernel
theorem dX8_ofChild_60 : decode cX8_ofChild 60 = .ok (.getfield 109, 3) := by decide +kernel
theorem dX8_ofChild_63 : decode cX8_ofChild 63 = .ok (.ireturn, 1) := by decide +kernel
theorem dX8_ofChild_64 : decode cX8_ofChild 64 = .ok (.aload_n 3, 1) := by decide +kernel
theorem dX8_ofChild_65 : decode cX8_ofChild 65 = .ok (.aload_n 0, 1) := by decide +kernel
theorem dX8_ofChild_66 : decode cX8_ofChild 66 = .ok (.getfield 32, 3) := by decide +kernel
theorem dX8_ofChild_69 : decode cX8_ofChild 69 = .ok (.invokevirtual 220, 3) := by decide +kernel
theorem dX8_ofChild_72 : decode cX8_ofChild 72 = .ok (.ireturn, 1) := by decide +kernel
theorem dX8_ofChild_73 : decode cX8_ofChild 73 = .ok (.aload_n 3, 1) := by decide +kernel
theorem dX8_ofChild_74 : decode cX8_ofChild 74 = .ok (.getfield 260, 3) := by decide +kernel
theorem dX8_ofChild_77 : decode cX8_ofChild 77 = .ok (.ireturn, 1) := by decide +kernel
theorem dX8_ofChild_78 : decode cX8_ofChild 78 = .ok (.new 175, 3) := by decide +kernel
theorem dX8_ofChild_81 : decode cX8_ofChild 81 = .ok (.dup, 1) := by decide +kernel
theorem dX8_ofChild_82 : decode cX8_ofChild 82 = .ok (.ldc_w 275, 3) := by decide +kernel
theorem dX8_ofChild_85 : decode cX8_ofChild 85 = .ok (.invokespecial 179, 3) := by decide +kernel
theorem dX8_ofChild_88 : decode cX8_ofChild 88 = .ok (.athrow, 1) := by decide +kernel
theorem dX8_ofTroop_0 : decode cX8_ofTroop 0 = .ok (.aload_n 0, 1) := by decide +kernel
theorem dX8_ofTroop_1 : decode cX8_ofTroop 1 = .ok (.iload_n 1, 1) := by decide +kernel
theorem dX8_ofTroop_2 : decode cX8_ofTroop 2 = .ok (.invokevirtual 68, 3) := by decide +kernel
theorem dX8_ofTroop_5 : decode cX8_ofTroop 5 = .ok (.astore_n 3, 1) := by decide +kernel
theorem dX8_ofTroop_6 : decode cX8_ofTroop 6 = .ok (.iload_n 2, 1) := by decide +kernel
theorem dX8_ofTroop_7 : decode cX8_ofTroop 7 = .ok (.ifCond .eq 14, 3) := by decide +kernel
theorem dX8_ofTroop_10 : decode cX8_ofTroop 10 = .ok (.aload_n 0, 1) := by decide +kernel
theorem dX8_ofTroop_11 : decode cX8_ofTroop 11 = .ok (.aload_n 3, 1) := by decide +kernel
theorem dX8_ofTroop_12 : decode cX8_ofTroop 12 = .ok (.getfield 112, 3) := by decide +kernel
theorem dX8_ofTroop_15 : decode cX8_ofTroop 15 = .ok (.invokevirtual 277, 3) := by decide +kernel
theorem dX8_ofTroop_18 : decode cX8_ofTroop 18 = .ok (.goto 11, 3) := by decide +kernel
theorem dX8_ofTroop_21 : decode cX8_ofTroop 21 = .ok (.aload_n 0, 1) := by decide +kernel
theorem dX8_ofTroop_22 : decode cX8_ofTroop 22 = .ok (.aload_n 3, 1) := by decide +kernel
theorem dX8_ofTroop_23 : decode cX8_ofTroop 23 = .ok (.getfield 112, 3) := by decide +kernel
theorem dX8_ofTroop_26 : decode cX8_ofTroop 26 = .ok (.invokevirtual 280, 3) := by decide +kernel
theorem dX8_ofTroop_29 : decode cX8_ofTroop 29 = .ok (.ireturn, 1) := by decide +kernel
theorem dX8_earned_0 : decode cX8_earned 0 = .ok (.aload_n 0, 1) := by decide +kernel
theorem dX8_earned_1 : decode cX8_earned 1 = .ok (.iload_n 1, 1) := by decide +kernel
theorem dX8_earned_2 : decode cX8_earned 2 = .ok (.invokevirtual 64, 3) := by decide +kernel
theorem dX8_earned_5 : decode cX8_earned 5 = .ok (.astore_n 3, 1) := by decide +kernel
theorem dX8_earned_6 : decode cX8_earned 6 = .ok (.iload_n 2, 1) := by decide +kernel
theorem dX8_earned_7 : decode cX8_earned 7 = .ok (.bipush 8, 2) := by decide +kernel
theorem dX8_earned_9 : decode cX8_earned 9 = .ok (.invokestatic 155, 3) := by decide +kernel
theorem dX8_earned_12 : decode cX8_earned 12 = .ok (.aload_n 3, 1) := by decide +kernel
theorem dX8_earned_13 : decode cX8_earned 13 = .ok (.iload_n 2, 1) := by decide +kernel
theorem dX8_earned_14 : decode cX8_earned 14 = .ok (.invokevirtual 283, 3) := by decide +kernel
theorem dX8_earned_17 : decode cX8_earned 17 = .ok (.istore 4, 2) := by decide +kernel
theorem dX8_earned_19 : decode cX8_earned 19 = .ok (.iload 4, 2) := by decide +kernel
theorem dX8_earned_21 : decode cX8_earned 21 = .ok (.aload_n 0, 1) := by decide +kernel
theorem dX8_earned_22 : decode cX8_earned 22 = .ok (.getfield 32, 3) := by decide +kernel
theorem dX8_earned_25 : decode cX8_earned 25 = .ok (.if_icmp .gt 8, 3) := by decide +kernel
theorem dX8_earned_28 : decode cX8_earned 28 = .ok (.iload 4, 2) := by decide +kernel
theorem dX8_earned_30 : decode cX8_earned 30 = .ok (.goto 4, 3) := by decide +kernel
theorem dX8_earned_33 : decode cX8_earned 33 = .ok (.iconst (-1), 1) := by decide +kernel
theorem dX8_earned_34 : decode cX8_earned 34 = .ok (.ireturn, 1) := by decide +kernel
theorem dX8_holds_0 : decode cX8_holds 0 = .ok (.aload_n 0, 1) := by decide +kernel
theorem dX8_holds_1 : decode cX8_holds 1 = .ok (.iload_n 1, 1) := by decide +kernel
theorem dX8_holds_2 : decode cX8_holds 2 = .ok (.invokevirtual 64, 3) := by decide +kernel
theorem dX8_holds_5 : decode cX8_holds 5 = .ok (.astore_n 3, 1) := by decide +kernel
theorem dX8_holds_6 : decode cX8_holds 6 = .ok (.iload_n 2, 1) := by decide +kernel
theorem dX8_holds_7 : decode cX8_holds 7 = .ok (.bipush 8, 2) := by decide +kernel
theorem dX8_holds_9 : decode cX8_holds 9 = .ok (.invokestatic 155, 3) := by decide +kernel
theorem dX8_holds_12 : decode cX8_holds 12 = .ok (.aload_n 3, 1) := by decide +kernel
theorem dX8_holds_13 : decode cX8_holds 13 = .ok (.iload_n 2, 1) := by decide +kernel
theorem dX8_holds_14 : decode cX8_holds 14 = .ok (.invokevirtual 190, 3) := by decide +kernel
theorem dX8_holds_17 : decode cX8_holds 17 = .ok (.astore 4, 2) := by decide +kernel
theorem dX8_holds_19 : decode cX8_holds 19 = .ok (.aload 4, 2) := by decide +kernel
theorem dX8_holds_21 : decode cX8_holds 21 = .ok (.ifnull 19, 3) := by decide +kernel
theorem dX8_holds_24 : decode cX8_holds 24 = .ok (.aload 4, 2) := by decide +kernel
theorem dX8_holds_26 : decode cX8_holds 26 = .ok (.aload_n 0, 1) := by decide +kernel
theorem dX8_holds_27 : decode cX8_holds 27 = .ok (.getfield 32, 3) := by decide +kernel
theorem dX8_holds_30 : decode cX8_holds 30 = .ok (.invokevirtual 286, 3) := by decide +kernel
theorem dX8_holds_33 : decode cX8_holds 33 = .ok (.ifCond .eq 7, 3) := by decide +kernel
theorem dX8_holds_36 : decode cX8_holds 36 = .ok (.iconst 1, 1) := by decide +kernel
theorem dX8_holds_37 : decode cX8_holds 37 = .ok (.goto 4, 3) := by decide +kernel
theorem dX8_holds_40 : decode cX8_holds 40 = .ok (.iconst 0, 1) := by decide +kernel
theorem dX8_holds_41 : decode cX8_holds 41 = .ok (.ireturn, 1) := by decide +kernel
theorem dX8_lacks_0 : decode cX8_lacks 0 = .ok (.aload_n 0, 1) := by decide +kernel
theorem dX8_lacks_1 : decode cX8_lacks 1 = .ok (.iload_n 1, 1) := by decide +kernel
theorem dX8_lacks_2 : decode cX8_lacks 2 = .ok (.invokevirtual 64, 3) := by decide +kernel
theorem dX8_lacks_5 : decode cX8_lacks 5 = .ok (.astore_n 3, 1) := by decide +kernel
theorem dX8_lacks_6 : decode cX8_lacks 6 = .ok (.iload_n 2, 1) := by decide +kernel
theorem dX8_lacks_7 : decode cX8_lacks 7 = .ok (.bipush 8, 2) := by decide +kernel
theorem dX8_lacks_9 : decode cX8_lacks 9 = .ok (.invokestatic 155, 3) := by decide +kernel
theorem dX8_lacks_12 : decode cX8_lacks 12 = .ok (.aload_n 3, 1) := by decide +kernel
theorem dX8_lacks_13 : decode cX8_lacks 13 = .ok (.iload_n 2, 1) := by decide +kernel
theorem dX8_lacks_14 : decode cX8_lacks 14 = .ok (.invokevirtual 190, 3) := by decide +kernel
theorem dX8_lacks_17 : decode cX8_lacks 17 = .ok (.astore 4, 2) := by decide +kernel
theorem dX8_lacks_19 : decode cX8_lacks 19 = .ok (.aload 4, 2) := by decide +kernel
theorem dX8_lacks_21 : decode cX8_lacks 21 = .ok (.ifnonnull 14, 3) := by decide +kernel
theorem dX8_lacks_24 : decode cX8_lacks 24 = .ok (.new 78, 3) := by decide +kernel
theorem dX8_lacks_27 : decode cX8_lacks 27 = .ok (.dup, 1) := by decide +kernel
theorem dX8_lacks_28 : decode cX8_lacks 28 = .ok (.ldc_w 289, 3) := by decide +kernel
theorem dX8_lacks_31 : decode cX8_lacks 31 = .ok (.invokespecial 82, 3) := by decide +kernel
theorem dX8_lacks_34 : decode cX8_lacks 34 = .ok (.athrow, 1) := by decide +kernel
theorem dX8_lacks_35 : decode cX8_lacks 35 = .ok (.aload 4, 2) := by decide +kernel
theorem dX8_lacks_37 : decode cX8_lacks 37 = .ok (.getfield 291, 3) := by decide +kernel
theorem dX8_lacks_40 : decode cX8_lacks 40 = .ok (.getfield 295, 3) := by decide +kernel
theorem dX8_lacks_43 : decode cX8_lacks 43 = .ok (.aload_n 3, 1) := by decide +kernel
theorem dX8_lacks_44 : decode cX8_lacks 44 = .ok (.getfield 212, 3) := by decide +kernel
theorem dX8_lacks_47 : decode cX8_lacks 47 = .ok (.iconst (-1), 1) := by decide +kernel
theorem dX8_lacks_48 : decode cX8_lacks 48 = .ok (.ixor, 1) := by decide +kernel
theorem dX8_lacks_49 : decode cX8_lacks 49 = .ok (.iand, 1) := by decide +kernel
theorem dX8_lacks_50 : decode cX8_lacks 50 = .ok (.ireturn, 1) := by decide +kernel
theorem dX8_requireIndex_0 : decode cX8_requireIndex 0 = .ok (.iload_n 0, 1) := by decide +kernel
theorem dX8_requireIndex_1 : decode cX8_requireIndex 1 = .ok (.ifCond .lt 8, 3) := by decide +kernel
theorem dX8_requireIndex_4 : decode cX8_requireIndex 4 = .ok (.iload_n 0, 1) := by decide +kernel
theorem dX8_requireIndex_5 : decode cX8_requireIndex 5 = .ok (.iload_n 1, 1) := by decide +kernel
theorem dX8_requireIndex_6 : decode cX8_requireIndex 6 = .ok (.if_icmp .lt 14, 3) := by decide +kernel
theorem dX8_requireIndex_9 : decode cX8_requireIndex 9 = .ok (.new 298, 3) := by decide +kernel
theorem dX8_requireIndex_12 : decode cX8_requireIndex 12 = .ok (.dup, 1) := by decide +kernel
theorem dX8_requireIndex_13 : decode cX8_requireIndex 13 = .ok (.ldc_w 300, 3) := by decide +kernel
theorem dX8_requireIndex_16 : decode cX8_requireIndex 16 = .ok (.invokespecial 302, 3) := by decide +kernel
theorem dX8_requireIndex_19 : decode cX8_requireIndex 19 = .ok (.athrow, 1) := by decide +kernel
theorem dX8_requireIndex_20 : decode cX8_requireIndex 20 = .ok (.return_, 1) := by decide +kernel
theorem dX8_requireRange_0 : decode cX8_requireRange 0 = .ok (.iload_n 0, 1) := by decide +kernel
theorem dX8_requireRange_1 : decode cX8_requireRange 1 = .ok (.iload_n 1, 1) := by decide +kernel
theorem dX8_requireRange_2 : decode cX8_requireRange 2 = .ok (.if_icmp .lt 8, 3) := by decide +kernel
theorem dX8_requireRange_5 : decode cX8_requireRange 5 = .ok (.iload_n 0, 1) := by decide +kernel
theorem dX8_requireRange_6 : decode cX8_requireRange 6 = .ok (.iload_n 2, 1) := by decide +kernel
theorem dX8_requireRange_7 : decode cX8_requireRange 7 = .ok (.if_icmp .le 14, 3) := by decide +kernel
theorem dX8_requireRange_10 : decode cX8_requireRange 10 = .ok (.new 175, 3) := by decide +kernel
theorem dX8_requireRange_13 : decode cX8_requireRange 13 = .ok (.dup, 1) := by decide +kernel
theorem dX8_requireRange_14 : decode cX8_requireRange 14 = .ok (.ldc_w 303, 3) := by decide +kernel
theorem dX8_requireRange_17 : decode cX8_requireRange 17 = .ok (.invokespecial 179, 3) := by decide +kernel
theorem dX8_requireRange_20 : decode cX8_requireRange 20 = .ok (.athrow, 1) := by decide +kernel
theorem dX8_requireRange_21 : decode cX8_requireRange 21 = .ok (.return_, 1) := by decide +kernel
theorem dX8_requireRoom_0 : decode cX8_requireRoom 0 = .ok (.iload_n 0, 1) := by decide +kernel
theorem dX8_requireRoom_1 : decode cX8_requireRoom 1 = .ok (.iload_n 1, 1) := by decide +kernel
theorem dX8_requireRoom_2 : decode cX8_requireRoom 2 = .ok (.if_icmp .lt 14, 3) := by decide +kernel
theorem dX8_requireRoom_5 : decode cX8_requireRoom 5 = .ok (.new 78, 3) := by decide +kernel
theorem dX8_requireRoom_8 : decode cX8_requireRoom 8 = .ok (.dup, 1) := by decide +kernel
theorem dX8_requireRoom_9 : decode cX8_requireRoom 9 = .ok (.ldc_w 305, 3) := by decide +kernel
theorem dX8_requireRoom_12 : decode cX8_requireRoom 12 = .ok (.invokespecial 82, 3) := by decide +kernel
theorem dX8_requireRoom_15 : decode cX8_requireRoom 15 = .ok (.athrow, 1) := by decide +kernel
theorem dX8_requireRoom_16 : decode cX8_requireRoom 16 = .ok (.return_, 1) := by decide +kernel
theorem dX8_troopAt_0 : decode cX8_troopAt 0 = .ok (.iload_n 1, 1) := by decide +kernel
theorem dX8_troopAt_1 : decode cX8_troopAt 1 = .ok (.aload_n 0, 1) := by decide +kernel
theorem dX8_troopAt_2 : decode cX8_troopAt 2 = .ok (.getfield 10, 3) := by decide +kernel
theorem dX8_troopAt_5 : decode cX8_troopAt 5 = .ok (.invokevirtual 43, 3) := by decide +kernel
theorem dX8_troopAt_8 : decode cX8_troopAt 8 = .ok (.invokestatic 155, 3) := by decide +kernel
theorem dX8_troopAt_11 : decode cX8_troopAt 11 = .ok (.aload_n 0, 1) := by decide +kernel
theorem dX8_troopAt_12 : decode cX8_troopAt 12 = .ok (.getfield 10, 3) := by decide +kernel
theorem dX8_troopAt_15 : decode cX8_troopAt 15 = .ok (.iload_n 1, 1) := by decide +kernel
theorem dX8_troopAt_16 : decode cX8_troopAt 16 = .ok (.invokevirtual 124, 3) := by decide +kernel
theorem dX8_troopAt_19 : decode cX8_troopAt 19 = .ok (.checkcast 51, 3) := by decide +kernel
theorem dX8_troopAt_22 : decode cX8_troopAt 22 = .ok (.areturn, 1) := by decide +kernel
theorem dX8_childAt_0 : decode cX8_childAt 0 = .ok (.iload_n 1, 1) := by decide +kernel
theorem dX8_childAt_1 : decode cX8_childAt 1 = .ok (.aload_n 0, 1) := by decide +kernel
theorem dX8_childAt_2 : decode cX8_childAt 2 = .ok (.getfield 16, 3) := by decide +kernel
theorem dX8_childAt_5 : decode cX8_childAt 5 = .ok (.invokevirtual 43, 3) := by decide +kernel
theorem dX8_childAt_8 : decode cX8_childAt 8 = .ok (.invokestatic 155, 3) := by decide +kernel
theorem dX8_childAt_11 : decode cX8_childAt 11 = .ok (.aload_n 0, 1) := by decide +kernel
theorem dX8_childAt_12 : decode cX8_childAt 12 = .ok (.getfield 16, 3) := by decide +kernel
theorem dX8_childAt_15 : decode cX8_childAt 15 = .ok (.iload_n 1, 1) := by decide +kernel
theorem dX8_childAt_16 : decode cX8_childAt 16 = .ok (.invokevirtual 124, 3) := by decide +kernel
theorem dX8_childAt_19 : decode cX8_childAt 19 = .ok (.checkcast 60, 3) := by decide +kernel
theorem dX8_childAt_22 : decode cX8_childAt 22 = .ok (.areturn, 1) := by decide +kernel
theorem dX8_leaderAt_0 : decode cX8_leaderAt 0 = .ok (.iload_n 1, 1) := by decide +kernel
theorem dX8_leaderAt_1 : decode cX8_leaderAt 1 = .ok (.aload_n 0, 1) := by decide +kernel
theorem dX8_leaderAt_2 : decode cX8_leaderAt 2 = .ok (.getfield 19, 3) := by decide +kernel
theorem dX8_leaderAt_5 : decode cX8_leaderAt 5 = .ok (.invokevirtual 43, 3) := by decide +kernel
theorem dX8_leaderAt_8 : decode cX8_leaderAt 8 = .ok (.invokestatic 155, 3) := by decide +kernel
theorem dX8_leaderAt_11 : decode cX8_leaderAt 11 = .ok (.aload_n 0, 1) := by decide +kernel
theorem dX8_leaderAt_12 : decode cX8_leaderAt 12 = .ok (.getfield 19, 3) := by decide +kernel
theorem dX8_leaderAt_15 : decode cX8_leaderAt 15 = .ok (.iload_n 1, 1) := by decide +kernel
theorem dX8_leaderAt_16 : decode cX8_leaderAt 16 = .ok (.invokevirtual 124, 3) := by decide +kernel
theorem dX8_leaderAt_19 : decode cX8_leaderAt 19 = .ok (.checkcast 148, 3) := by decide +kernel
theorem dX8_leaderAt_22 : decode cX8_leaderAt 22 = .ok (.areturn, 1) := by decide +kernel
theorem dX8_eventAt_0 : decode cX8_eventAt 0 = .ok (.iload_n 1, 1) := by decide +kernel
theorem dX8_eventAt_1 : decode cX8_eventAt 1 = .ok (.aload_n 0, 1) := by decide +kernel
theorem dX8_eventAt_2 : decode cX8_eventAt 2 = .ok (.getfield 22, 3) := by decide +kernel
theorem dX8_eventAt_5 : decode cX8_eventAt 5 = .ok (.invokevirtual 43, 3) := by decide +kernel
theorem dX8_eventAt_8 : decode cX8_eventAt 8 = .ok (.invokestatic 155, 3) := by decide +kernel
theorem dX8_eventAt_11 : decode cX8_eventAt 11 = .ok (.aload_n 0, 1) := by decide +kernel
theorem dX8_eventAt_12 : decode cX8_eventAt 12 = .ok (.getfield 22, 3) := by decide +kernel
theorem dX8_eventAt_15 : decode cX8_eventAt 15 = .ok (.iload_n 1, 1) := by decide +kernel
theorem dX8_eventAt_16 : decode cX8_eventAt 16 = .ok (.invokevirtual 124, 3) := by decide +kernel
theorem dX8_eventAt_19 : decode cX8_eventAt 19 = .ok (.checkcast 223, 3) := by decide +kernel
theorem dX8_eventAt_22 : decode cX8_eventAt 22 = .ok (.areturn, 1) := by decide +kernel
theorem dX8_badgeAt_0 : decode cX8_badgeAt 0 = .ok (.iload_n 1, 1) := by decide +kernel
theorem dX8_badgeAt_1 : decode cX8_badgeAt 1 = .ok (.aload_n 0, 1) := by decide +kernel
theorem dX8_badgeAt_2 : decode cX8_badgeAt 2 = .ok (.getfield 27, 3) := by decide +kernel
theorem dX8_badgeAt_5 : decode cX8_badgeAt 5 = .ok (.arraylength, 1) := by decide +kernel
theorem dX8_badgeAt_6 : decode cX8_badgeAt 6 = .ok (.invokestatic 155, 3) := by decide +kernel
theorem dX8_badgeAt_9 : decode cX8_badgeAt 9 = .ok (.aload_n 0, 1) := by decide +kernel
theorem dX8_badgeAt_10 : decode cX8_badgeAt 10 = .ok (.getfield 27, 3) := by decide +kernel
theorem dX8_badgeAt_13 : decode cX8_badgeAt 13 = .ok (.iload_n 1, 1) := by decide +kernel
theorem dX8_badgeAt_14 : decode cX8_badgeAt 14 = .ok (.aaload, 1) := by decide +kernel
theorem dX8_badgeAt_15 : decode cX8_badgeAt 15 = .ok (.areturn, 1) := by decide +kernel
theorem dX8_hasBit_0 : decode cX8_hasBit 0 = .ok (.iload_n 0, 1) := by decide +kernel
theorem dX8_hasBit_1 : decode cX8_hasBit 1 = .ok (.iconst 1, 1) := by decide +kernel
theorem dX8_hasBit_2 : decode cX8_hasBit 2 = .ok (.iload_n 1, 1) := by decide +kernel
theorem dX8_hasBit_3 : decode cX8_hasBit 3 = .ok (.ishl, 1) := by decide +kernel
theorem dX8_hasBit_4 : decode cX8_hasBit 4 = .ok (.iand, 1) := by decide +kernel
theorem dX8_hasBit_5 : decode cX8_hasBit 5 = .ok (.ifCond .eq 7, 3) := by decide +kernel
theorem dX8_hasBit_8 : decode cX8_hasBit 8 = .ok (.iconst 1, 1) := by decide +kernel
theorem dX8_hasBit_9 : decode cX8_hasBit 9 = .ok (.goto 4, 3) := by decide +kernel
theorem dX8_hasBit_12 : decode cX8_hasBit 12 = .ok (.iconst 0, 1) := by decide +kernel
theorem dX8_hasBit_13 : decode cX8_hasBit 13 = .ok (.ireturn, 1) := by decide +kernel
theorem dX8_childrenIn_0 : decode cX8_childrenIn 0 = .ok (.iconst 0, 1) := by decide +kernel
theorem dX8_childrenIn_1 : decode cX8_childrenIn 1 = .ok (.istore_n 2, 1) := by decide +kernel
theorem dX8_childrenIn_2 : decode cX8_childrenIn 2 = .ok (.iconst 0, 1) := by decide +kernel
theorem dX8_childrenIn_3 : decode cX8_childrenIn 3 = .ok (.istore_n 3, 1) := by decide +kernel
theorem dX8_childrenIn_4 : decode cX8_childrenIn 4 = .ok (.iload_n 3, 1) := by decide +kernel
theorem dX8_childrenIn_5 : decode cX8_childrenIn 5 = .ok (.aload_n 0, 1) := by decide +kernel
theorem dX8_childrenIn_6 : decode cX8_childrenIn 6 = .ok (.getfield 16, 3) := by decide +kernel
theorem dX8_childrenIn_9 : decode cX8_childrenIn 9 = .ok (.invokevirtual 43, 3) := by decide +kernel
theorem dX8_childrenIn_12 : decode cX8_childrenIn 12 = .ok (.if_icmp .ge 30, 3) := by decide +kernel
theorem dX8_childrenIn_15 : decode cX8_childrenIn 15 = .ok (.aload_n 0, 1) := by decide +kernel
theorem dX8_childrenIn_16 : decode cX8_childrenIn 16 = .ok (.getfield 16, 3) := by decide +kernel
theorem dX8_childrenIn_19 : decode cX8_childrenIn 19 = .ok (.iload_n 3, 1) := by decide +kernel
theorem dX8_childrenIn_20 : decode cX8_childrenIn 20 = .ok (.invokevirtual 124, 3) := by decide +kernel
theorem dX8_childrenIn_23 : decode cX8_childrenIn 23 = .ok (.checkcast 60, 3) := by decide +kernel
theorem dX8_childrenIn_26 : decode cX8_childrenIn 26 = .ok (.getfield 72, 3) := by decide +kernel
theorem dX8_childrenIn_29 : decode cX8_childrenIn 29 = .ok (.iload_n 1, 1) := by decide +kernel
theorem dX8_childrenIn_30 : decode cX8_childrenIn 30 = .ok (.if_icmp .ne 6, 3) := by decide +kernel
theorem dX8_childrenIn_33 : decode cX8_childrenIn 33 = .ok (.iinc 2 1, 3) := by decide +kernel
theorem dX8_childrenIn_36 : decode cX8_childrenIn 36 = .ok (.iinc 3 1, 3) := by decide +kernel
theorem dX8_childrenIn_39 : decode cX8_childrenIn 39 = .ok (.goto (-35), 3) := by decide +kernel
theorem dX8_childrenIn_42 : decode cX8_childrenIn 42 = .ok (.iload_n 2, 1) := by decide +kernel
theorem dX8_childrenIn_43 : decode cX8_childrenIn 43 = .ok (.ireturn, 1) := by decide +kernel
theorem dX8_waitingFor_0 : decode cX8_waitingFor 0 = .ok (.iconst 0, 1) := by decide +kernel
theorem dX8_waitingFor_1 : decode cX8_waitingFor 1 = .ok (.istore_n 2, 1) := by decide +kernel
theorem dX8_waitingFor_2 : decode cX8_waitingFor 2 = .ok (.iconst 0, 1) := by decide +kernel
theorem dX8_waitingFor_3 : decode cX8_waitingFor 3 = .ok (.istore_n 3, 1) := by decide +kernel
theorem dX8_waitingFor_4 : decode cX8_waitingFor 4 = .ok (.iload_n 3, 1) := by decide +kernel
theorem dX8_waitingFor_5 : decode cX8_waitingFor 5 = .ok (.aload_n 0, 1) := by decide +kernel
theorem dX8_waitingFor_6 : decode cX8_waitingFor 6 = .ok (.getfield 16, 3) := by decide +kernel
theorem dX8_waitingFor_9 : decode cX8_waitingFor 9 = .ok (.invokevirtual 43, 3) := by decide +kernel
theorem dX8_waitingFor_12 : decode cX8_waitingFor 12 = .ok (.if_icmp .ge 30, 3) := by decide +kernel
theorem dX8_waitingFor_15 : decode cX8_waitingFor 15 = .ok (.aload_n 0, 1) := by decide +kernel
theorem dX8_waitingFor_16 : decode cX8_waitingFor 16 = .ok (.getfield 16, 3) := by decide +kernel
theorem dX8_waitingFor_19 : decode cX8_waitingFor 19 = .ok (.iload_n 3, 1) := by decide +kernel
theorem dX8_waitingFor_20 : decode cX8_waitingFor 20 = .ok (.invokevirtual 124, 3) := by decide +kernel
theorem dX8_waitingFor_23 : decode cX8_waitingFor 23 = .ok (.checkcast 60, 3) := by decide +kernel
theorem dX8_waitingFor_26 : decode cX8_waitingFor 26 = .ok (.getfield 75, 3) := by decide +kernel
theorem dX8_waitingFor_29 : decode cX8_waitingFor 29 = .ok (.iload_n 1, 1) := by decide +kernel
theorem dX8_waitingFor_30 : decode cX8_waitingFor 30 = .ok (.if_icmp .ne 6, 3) := by decide +kernel
theorem dX8_waitingFor_33 : decode cX8_waitingFor 33 = .ok (.iinc 2 1, 3) := by decide +kernel
theorem dX8_waitingFor_36 : decode cX8_waitingFor 36 = .ok (.iinc 3 1, 3) := by decide +kernel
theorem dX8_waitingFor_39 : decode cX8_waitingFor 39 = .ok (.goto (-35), 3) := by decide +kernel
theorem dX8_waitingFor_42 : decode cX8_waitingFor 42 = .ok (.iload_n 2, 1) := by decide +kernel
theorem dX8_waitingFor_43 : decode cX8_waitingFor 43 = .ok (.ireturn, 1) := by decide +kernel
theorem dX8_childrenInPatrol_0 : decode cX8_childrenInPatrol 0 = .ok (.iconst 0, 1) := by decide +kernel
theorem dX8_childrenInPatrol_1 : decode cX8_childrenInPatrol 1 = .ok (.istore_n 3, 1) := by decide +kernel
theorem dX8_childrenInPatrol_2 : decode cX8_childrenInPatrol 2 = .ok (.iconst 0, 1) := by decide +kernel
theorem dX8_childrenInPatrol_3 : decode cX8_childrenInPatrol 3 = .ok (.istore 4, 2) := by decide +kernel
theorem dX8_childrenInPatrol_5 : decode cX8_childrenInPatrol 5 = .ok (.iload 4, 2) := by decide +kernel
theorem dX8_childrenInPatrol_7 : decode cX8_childrenInPatrol 7 = .ok (.aload_n 0, 1) := by decide +kernel
theorem dX8_childrenInPatrol_8 : decode cX8_childrenInPatrol 8 = .ok (.getfield 16, 3) := by decide +kernel
theorem dX8_childrenInPatrol_11 : decode cX8_childrenInPatrol 11 = .ok (.invokevirtual 43, 3) := by decide +kernel
theorem dX8_childrenInPatrol_14 : decode cX8_childrenInPatrol 14 = .ok (.if_icmp .ge 44, 3) := by decide +kernel
theorem dX8_childrenInPatrol_17 : decode cX8_childrenInPatrol 17 = .ok (.aload_n 0, 1) := by decide +kernel
theorem dX8_childrenInPatrol_18 : decode cX8_childrenInPatrol 18 = .ok (.getfield 16, 3) := by decide +kernel
theorem dX8_childrenInPatrol_21 : decode cX8_childrenInPatrol 21 = .ok (.iload 4, 2) := by decide +kernel
theorem dX8_childrenInPatrol_23 : decode cX8_childrenInPatrol 23 = .ok (.invokevirtual 124, 3) := by decide +kernel
theorem dX8_childrenInPatrol_26 : decode cX8_childrenInPatrol 26 = .ok (.checkcast 60, 3) := by decide +kernel
theorem dX8_childrenInPatrol_29 : decode cX8_childrenInPatrol 29 = .ok (.astore 5, 2) := by decide +kernel
theorem dX8_childrenInPatrol_31 : decode cX8_childrenInPatrol 31 = .ok (.aload 5, 2) := by decide +kernel
theorem dX8_childrenInPatrol_33 : decode cX8_childrenInPatrol 33 = .ok (.getfield 72, 3) := by decide +kernel
theorem dX8_childrenInPatrol_36 : decode cX8_childrenInPatrol 36 = .ok (.iload_n 1, 1) := by decide +kernel
theorem dX8_childrenInPatrol_37 : decode cX8_childrenInPatrol 37 = .ok (.if_icmp .ne 15, 3) := by decide +kernel
theorem dX8_childrenInPatrol_40 : decode cX8_childrenInPatrol 40 = .ok (.aload 5, 2) := by decide +kernel
theorem dX8_childrenInPatrol_42 : decode cX8_childrenInPatrol 42 = .ok (.getfield 109, 3) := by decide +kernel
theorem dX8_childrenInPatrol_45 : decode cX8_childrenInPatrol 45 = .ok (.iload_n 2, 1) := by decide +kernel
theorem dX8_childrenInPatrol_46 : decode cX8_childrenInPatrol 46 = .ok (.if_icmp .ne 6, 3) := by decide +kernel
theorem dX8_childrenInPatrol_49 : decode cX8_childrenInPatrol 49 = .ok (.iinc 3 1, 3) := by decide +kernel
theorem dX8_childrenInPatrol_52 : decode cX8_childrenInPatrol 52 = .ok (.iinc 4 1, 3) := by decide +kernel
theorem dX8_childrenInPatrol_55 : decode cX8_childrenInPatrol 55 = .ok (.goto (-50), 3) := by decide +kernel
theorem dX8_childrenInPatrol_58 : decode cX8_childrenInPatrol 58 = .ok (.iload_n 3, 1) := by decide +kernel
theorem dX8_childrenInPatrol_59 : decode cX8_childrenInPatrol 59 = .ok (.ireturn, 1) := by decide +kernel
theorem dX8_smallestPatrol_0 : decode cX8_smallestPatrol 0 = .ok (.iconst 0, 1) := by decide +kernel
theorem dX8_smallestPatrol_1 : decode cX8_smallestPatrol 1 = .ok (.istore_n 2, 1) := by decide +kernel
theorem dX8_smallestPatrol_2 : decode cX8_smallestPatrol 2 = .ok (.aload_n 0, 1) := by decide +kernel
theorem dX8_smallestPatrol_3 : decode cX8_smallestPatrol 3 = .ok (.iload_n 1, 1) := by decide +kernel
theorem dX8_smallestPatrol_4 : decode cX8_smallestPatrol 4 = .ok (.iconst 0, 1) := by decide +kernel
theorem dX8_smallestPatrol_5 : decode cX8_smallestPatrol 5 = .ok (.invokevirtual 307, 3) := by decide +kernel
theorem dX8_smallestPatrol_8 : decode cX8_smallestPatrol 8 = .ok (.istore_n 3, 1) := by decide +kernel
theorem dX8_smallestPatrol_9 : decode cX8_smallestPatrol 9 = .ok (.iconst 1, 1) := by decide +kernel
theorem dX8_smallestPatrol_10 : decode cX8_smallestPatrol 10 = .ok (.istore 4, 2) := by decide +kernel
theorem dX8_smallestPatrol_12 : decode cX8_smallestPatrol 12 = .ok (.iload 4, 2) := by decide +kernel
theorem dX8_smallestPatrol_14 : decode cX8_smallestPatrol 14 = .ok (.iconst 4, 1) := by decide +kernel
theorem dX8_smallestPatrol_15 : decode cX8_smallestPatrol 15 = .ok (.if_icmp .ge 30, 3) := by decide +kernel
theorem dX8_smallestPatrol_18 : decode cX8_smallestPatrol 18 = .ok (.aload_n 0, 1) := by decide +kernel
theorem dX8_smallestPatrol_19 : decode cX8_smallestPatrol 19 = .ok (.iload_n 1, 1) := by decide +kernel
theorem dX8_smallestPatrol_20 : decode cX8_smallestPatrol 20 = .ok (.iload 4, 2) := by decide +kernel
theorem dX8_smallestPatrol_22 : decode cX8_smallestPatrol 22 = .ok (.invokevirtual 307, 3) := by decide +kernel
theorem dX8_smallestPatrol_25 : decode cX8_smallestPatrol 25 = .ok (.istore 5, 2) := by decide +kernel
theorem dX8_smallestPatrol_27 : decode cX8_smallestPatrol 27 = .ok (.iload 5, 2) := by decide +kernel
theorem dX8_smallestPatrol_29 : decode cX8_smallestPatrol 29 = .ok (.iload_n 3, 1) := by decide +kernel
theorem dX8_smallestPatrol_30 : decode cX8_smallestPatrol 30 = .ok (.if_icmp .ge 9, 3) := by decide +kernel
theorem dX8_smallestPatrol_33 : decode cX8_smallestPatrol 33 = .ok (.iload 4, 2) := by decide +kernel
theorem dX8_smallestPatrol_35 : decode cX8_smallestPatrol 35 = .ok (.istore_n 2, 1) := by decide +kernel
theorem dX8_smallestPatrol_36 : decode cX8_smallestPatrol 36 = .ok (.iload 5, 2) := by decide +kernel
theorem dX8_smallestPatrol_38 : decode cX8_smallestPatrol 38 = .ok (.istore_n 3, 1) := by decide +kernel
theorem dX8_smallestPatrol_39 : decode cX8_smallestPatrol 39 = .ok (.iinc 4 1, 3) := by decide +kernel
theorem dX8_smallestPatrol_42 : decode cX8_smallestPatrol 42 = .ok (.goto (-30), 3) := by decide +kernel
theorem dX8_smallestPatrol_45 : decode cX8_smallestPatrol 45 = .ok (.iload_n 2, 1) := by decide +kernel
theorem dX8_smallestPatrol_46 : decode cX8_smallestPatrol 46 = .ok (.ireturn, 1) := by decide +kernel
theorem dX8_filledPatrols_0 : decode cX8_filledPatrols 0 = .ok (.iconst 0, 1) := by decide +kernel
theorem dX8_filledPatrols_1 : decode cX8_filledPatrols 1 = .ok (.istore_n 2, 1) := by decide +kernel
theorem dX8_filledPatrols_2 : decode cX8_filledPatrols 2 = .ok (.iconst 0, 1) := by decide +kernel
theorem dX8_filledPatrols_3 : decode cX8_filledPatrols 3 = .ok (.istore_n 3, 1) := by decide +kernel
theorem dX8_filledPatrols_4 : decode cX8_filledPatrols 4 = .ok (.iload_n 3, 1) := by decide +kernel
theorem dX8_filledPatrols_5 : decode cX8_filledPatrols 5 = .ok (.iconst 4, 1) := by decide +kernel
theorem dX8_filledPatrols_6 : decode cX8_filledPatrols 6 = .ok (.if_icmp .ge 21, 3) := by decide +kernel
theorem dX8_filledPatrols_9 : decode cX8_filledPatrols 9 = .ok (.aload_n 0, 1) := by decide +kernel
theorem dX8_filledPatrols_10 : decode cX8_filledPatrols 10 = .ok (.iload_n 1, 1) := by decide +kernel
theorem dX8_filledPatrols_11 : decode cX8_filledPatrols 11 = .ok (.iload_n 3, 1) := by decide +kernel
theorem dX8_filledPatrols_12 : decode cX8_filledPatrols 12 = .ok (.invokevirtual 307, 3) := by decide +kernel
theorem dX8_filledPatrols_15 : decode cX8_filledPatrols 15 = .ok (.ifCond .le 6, 3) := by decide +kernel
theorem dX8_filledPatrols_18 : decode cX8_filledPatrols 18 = .ok (.iinc 2 1, 3) := by decide +kernel
theorem dX8_filledPatrols_21 : decode cX8_filledPatrols 21 = .ok (.iinc 3 1, 3) := by decide +kernel
theorem dX8_filledPatrols_24 : decode cX8_filledPatrols 24 = .ok (.goto (-20), 3) := by decide +kernel
theorem dX8_filledPatrols_27 : decode cX8_filledPatrols 27 = .ok (.iload_n 2, 1) := by decide +kernel
theorem dX8_filledPatrols_28 : decode cX8_filledPatrols 28 = .ok (.ireturn, 1) := by decide +kernel
theorem dX8_filledPatrolAt_0 : decode cX8_filledPatrolAt 0 = .ok (.iconst 0, 1) := by decide +kernel
theorem dX8_filledPatrolAt_1 : decode cX8_filledPatrolAt 1 = .ok (.istore_n 3, 1) := by decide +kernel
theorem dX8_filledPatrolAt_2 : decode cX8_filledPatrolAt 2 = .ok (.iconst 0, 1) := by decide +kernel
theorem dX8_filledPatrolAt_3 : decode cX8_filledPatrolAt 3 = .ok (.istore 4, 2) := by decide +kernel
theorem dX8_filledPatrolAt_5 : decode cX8_filledPatrolAt 5 = .ok (.iload 4, 2) := by decide +kernel
theorem dX8_filledPatrolAt_7 : decode cX8_filledPatrolAt 7 = .ok (.iconst 4, 1) := by decide +kernel
theorem dX8_filledPatrolAt_8 : decode cX8_filledPatrolAt 8 = .ok (.if_icmp .ge 30, 3) := by decide +kernel
theorem dX8_filledPatrolAt_11 : decode cX8_filledPatrolAt 11 = .ok (.aload_n 0, 1) := by decide +kernel
theorem dX8_filledPatrolAt_12 : decode cX8_filledPatrolAt 12 = .ok (.iload_n 1, 1) := by decide +kernel
theorem dX8_filledPatrolAt_13 : decode cX8_filledPatrolAt 13 = .ok (.iload 4, 2) := by decide +kernel
theorem dX8_filledPatrolAt_15 : decode cX8_filledPatrolAt 15 = .ok (.invokevirtual 307, 3) := by decide +kernel
theorem dX8_filledPatrolAt_18 : decode cX8_filledPatrolAt 18 = .ok (.ifCond .le 14, 3) := by decide +kernel
theorem dX8_filledPatrolAt_21 : decode cX8_filledPatrolAt 21 = .ok (.iload_n 3, 1) := by decide +kernel
theorem dX8_filledPatrolAt_22 : decode cX8_filledPatrolAt 22 = .ok (.iload_n 2, 1) := by decide +kernel
theorem dX8_filledPatrolAt_23 : decode cX8_filledPatrolAt 23 = .ok (.if_icmp .ne 6, 3) := by decide +kernel
theorem dX8_filledPatrolAt_26 : decode cX8_filledPatrolAt 26 = .ok (.iload 4, 2) := by decide +kernel
theorem dX8_filledPatrolAt_28 : decode cX8_filledPatrolAt 28 = .ok (.ireturn, 1) := by decide +kernel
theorem dX8_filledPatrolAt_29 : decode cX8_filledPatrolAt 29 = .ok (.iinc 3 1, 3) := by decide +kernel
theorem dX8_filledPatrolAt_32 : decode cX8_filledPatrolAt 32 = .ok (.iinc 4 1, 3) := by decide +kernel
theorem dX8_filledPatrolAt_35 : decode cX8_filledPatrolAt 35 = .ok (.goto (-30), 3) := by decide +kernel
theorem dX8_filledPatrolAt_38 : decode cX8_filledPatrolAt 38 = .ok (.iconst (-1), 1) := by decide +kernel
theorem dX8_filledPatrolAt_39 : decode cX8_filledPatrolAt 39 = .ok (.ireturn, 1) := by decide +kernel
theorem dX8_comeInOrWait_0 : decode cX8_comeInOrWait 0 = .ok (.aload_n 0, 1) := by decide +kernel
theorem dX8_comeInOrWait_1 : decode cX8_comeInOrWait 1 = .ok (.aload_n 2, 1) := by decide +kernel
theorem dX8_comeInOrWait_2 : decode cX8_comeInOrWait 2 = .ok (.getfield 112, 3) := by decide +kernel
theorem dX8_comeInOrWait_5 : decode cX8_comeInOrWait 5 = .ok (.invokevirtual 280, 3) := by decide +kernel
theorem dX8_comeInOrWait_8 : decode cX8_comeInOrWait 8 = .ok (.aload_n 2, 1) := by decide +kernel
theorem dX8_comeInOrWait_9 : decode cX8_comeInOrWait 9 = .ok (.getfield 310, 3) := by decide +kernel
theorem dX8_comeInOrWait_12 : decode cX8_comeInOrWait 12 = .ok (.if_icmp .ge 14, 3) := by decide +kernel
theorem dX8_comeInOrWait_15 : decode cX8_comeInOrWait 15 = .ok (.aload_n 0, 1) := by decide +kernel
theorem dX8_comeInOrWait_16 : decode cX8_comeInOrWait 16 = .ok (.aload_n 1, 1) := by decide +kernel
theorem dX8_comeInOrWait_17 : decode cX8_comeInOrWait 17 = .ok (.aload_n 2, 1) := by decide +kernel
theorem dX8_comeInOrWait_18 : decode cX8_comeInOrWait 18 = .ok (.getfield 112, 3) := by decide +kernel
theorem dX8_comeInOrWait_21 : decode cX8_comeInOrWait 21 = .ok (.invokevirtual 313, 3) := by decide +kernel
theorem dX8_comeInOrWait_24 : decode cX8_comeInOrWait 24 = .ok (.iconst 0, 1) := by decide +kernel
theorem dX8_comeInOrWait_25 : decode cX8_comeInOrWait 25 = .ok (.ireturn, 1) := by decide +kernel
theorem dX8_comeInOrWait_26 : decode cX8_comeInOrWait 26 = .ok (.aload_n 1, 1) := by decide +kernel
theorem dX8_comeInOrWait_27 : decode cX8_comeInOrWait 27 = .ok (.aload_n 2, 1) := by decide +kernel
theorem dX8_comeInOrWait_28 : decode cX8_comeInOrWait 28 = .ok (.getfield 112, 3) := by decide +kernel
theorem dX8_comeInOrWait_31 : decode cX8_comeInOrWait 31 = .ok (.putfield 75, 3) := by decide +kernel
theorem dX8_comeInOrWait_34 : decode cX8_comeInOrWait 34 = .ok (.aload_n 1, 1) := by decide +kernel
theorem dX8_comeInOrWait_35 : decode cX8_comeInOrWait 35 = .ok (.aload_n 0, 1) := by decide +kernel
theorem dX8_comeInOrWait_36 : decode cX8_comeInOrWait 36 = .ok (.getfield 36, 3) := by decide +kernel
theorem dX8_comeInOrWait_39 : decode cX8_comeInOrWait 39 = .ok (.putfield 317, 3) := by decide +kernel
theorem dX8_comeInOrWait_42 : decode cX8_comeInOrWait 42 = .ok (.aload_n 0, 1) := by decide +kernel
theorem dX8_comeInOrWait_43 : decode cX8_comeInOrWait 43 = .ok (.dup, 1) := by decide +kernel
theorem dX8_comeInOrWait_44 : decode cX8_comeInOrWait 44 = .ok (.getfield 36, 3) := by decide +kernel
theorem dX8_comeInOrWait_47 : decode cX8_comeInOrWait 47 = .ok (.iconst 1, 1) := by decide +kernel
theorem dX8_comeInOrWait_48 : decode cX8_comeInOrWait 48 = .ok (.iadd, 1) := by decide +kernel
theorem dX8_comeInOrWait_49 : decode cX8_comeInOrWait 49 = .ok (.putfield 36, 3) := by decide +kernel
theorem dX8_comeInOrWait_52 : decode cX8_comeInOrWait 52 = .ok (.aload_n 0, 1) := by decide +kernel
theorem dX8_comeInOrWait_53 : decode cX8_comeInOrWait 53 = .ok (.aload_n 2, 1) := by decide +kernel
theorem dX8_comeInOrWait_54 : decode cX8_comeInOrWait 54 = .ok (.getfield 112, 3) := by decide +kernel
theorem dX8_comeInOrWait_57 : decode cX8_comeInOrWait 57 = .ok (.invokevirtual 277, 3) := by decide +kernel
theorem dX8_comeInOrWait_60 : decode cX8_comeInOrWait 60 = .ok (.ireturn, 1) := by decide +kernel
theorem dX8_comeIn_0 : decode cX8_comeIn 0 = .ok (.aload_n 1, 1) := by decide +kernel
theorem dX8_comeIn_1 : decode cX8_comeIn 1 = .ok (.aload_n 0, 1) := by decide +kernel
theorem dX8_comeIn_2 : decode cX8_comeIn 2 = .ok (.iload_n 2, 1) := by decide +kernel
theorem dX8_comeIn_3 : decode cX8_comeIn 3 = .ok (.invokevirtual 320, 3) := by decide +kernel
theorem dX8_comeIn_6 : decode cX8_comeIn 6 = .ok (.putfield 109, 3) := by decide +kernel
theorem dX8_comeIn_9 : decode cX8_comeIn 9 = .ok (.aload_n 1, 1) := by decide +kernel
theorem dX8_comeIn_10 : decode cX8_comeIn 10 = .ok (.iload_n 2, 1) := by decide +kernel
theorem dX8_comeIn_11 : decode cX8_comeIn 11 = .ok (.putfield 72, 3) := by decide +kernel
theorem dX8_comeIn_14 : decode cX8_comeIn 14 = .ok (.aload_n 1, 1) := by decide +kernel
theorem dX8_comeIn_15 : decode cX8_comeIn 15 = .ok (.iconst (-1), 1) := by decide +kernel
theorem dX8_comeIn_16 : decode cX8_comeIn 16 = .ok (.putfield 75, 3) := by decide +kernel
theorem dX8_comeIn_19 : decode cX8_comeIn 19 = .ok (.return_, 1) := by decide +kernel
theorem dX8_letFirstIn_0 : decode cX8_letFirstIn 0 = .ok (.aload_n 0, 1) := by decide +kernel
theorem dX8_letFirstIn_1 : decode cX8_letFirstIn 1 = .ok (.iload_n 1, 1) := by decide +kernel
theorem dX8_letFirstIn_2 : decode cX8_letFirstIn 2 = .ok (.invokevirtual 323, 3) := by decide +kernel
theorem dX8_letFirstIn_5 : decode cX8_letFirstIn 5 = .ok (.astore_n 2, 1) := by decide +kernel
theorem dX8_letFirstIn_6 : decode cX8_letFirstIn 6 = .ok (.aload_n 2, 1) := by decide +kernel
theorem dX8_letFirstIn_7 : decode cX8_letFirstIn 7 = .ok (.ifnonnull 5, 3) := by decide +kernel
theorem dX8_letFirstIn_10 : decode cX8_letFirstIn 10 = .ok (.iconst (-1), 1) := by decide +kernel
theorem dX8_letFirstIn_11 : decode cX8_letFirstIn 11 = .ok (.ireturn, 1) := by decide +kernel
theorem dX8_letFirstIn_12 : decode cX8_letFirstIn 12 = .ok (.aload_n 0, 1) := by decide +kernel
theorem dX8_letFirstIn_13 : decode cX8_letFirstIn 13 = .ok (.aload_n 2, 1) := by decide +kernel
theorem dX8_letFirstIn_14 : decode cX8_letFirstIn 14 = .ok (.iload_n 1, 1) := by decide +kernel
theorem dX8_letFirstIn_15 : decode cX8_letFirstIn 15 = .ok (.invokevirtual 313, 3) := by decide +kernel
theorem dX8_letFirstIn_18 : decode cX8_letFirstIn 18 = .ok (.aload_n 2, 1) := by decide +kernel
theorem dX8_letFirstIn_19 : decode cX8_letFirstIn 19 = .ok (.getfield 326, 3) := by decide +kernel
theorem dX8_letFirstIn_22 : decode cX8_letFirstIn 22 = .ok (.ireturn, 1) := by decide +kernel
theorem dX8_firstWaiting_0 : decode cX8_firstWaiting 0 = .ok (.aconst_null, 1) := by decide +kernel
theorem dX8_firstWaiting_1 : decode cX8_firstWaiting 1 = .ok (.astore_n 2, 1) := by decide +kernel
theorem dX8_firstWaiting_2 : decode cX8_firstWaiting 2 = .ok (.iconst 0, 1) := by decide +kernel
theorem dX8_firstWaiting_3 : decode cX8_firstWaiting 3 = .ok (.istore_n 3, 1) := by decide +kernel
theorem dX8_firstWaiting_4 : decode cX8_firstWaiting 4 = .ok (.iload_n 3, 1) := by decide +kernel
theorem dX8_firstWaiting_5 : decode cX8_firstWaiting 5 = .ok (.aload_n 0, 1) := by decide +kernel
theorem dX8_firstWaiting_6 : decode cX8_firstWaiting 6 = .ok (.getfield 16, 3) := by decide +kernel
theorem dX8_firstWaiting_9 : decode cX8_firstWaiting 9 = .ok (.invokevirtual 43, 3) := by decide +kernel
theorem dX8_firstWaiting_12 : decode cX8_firstWaiting 12 = .ok (.if_icmp .ge 50, 3) := by decide +kernel
theorem dX8_firstWaiting_15 : decode cX8_firstWaiting 15 = .ok (.aload_n 0, 1) := by decide +kernel
theorem dX8_firstWaiting_16 : decode cX8_firstWaiting 16 = .ok (.getfield 16, 3) := by decide +kernel
theorem dX8_firstWaiting_19 : decode cX8_firstWaiting 19 = .ok (.iload_n 3, 1) := by decide +kernel
theorem dX8_firstWaiting_20 : decode cX8_firstWaiting 20 = .ok (.invokevirtual 124, 3) := by decide +kernel
theorem dX8_firstWaiting_23 : decode cX8_firstWaiting 23 = .ok (.checkcast 60, 3) := by decide +kernel
theorem dX8_firstWaiting_26 : decode cX8_firstWaiting 26 = .ok (.astore 4, 2) := by decide +kernel
theorem dX8_firstWaiting_28 : decode cX8_firstWaiting 28 = .ok (.aload 4, 2) := by decide +kernel
theorem dX8_firstWaiting_30 : decode cX8_firstWaiting 30 = .ok (.getfield 75, 3) := by decide +kernel
theorem dX8_firstWaiting_33 : decode cX8_firstWaiting 33 = .ok (.iload_n 1, 1) := by decide +kernel
theorem dX8_firstWaiting_34 : decode cX8_firstWaiting 34 = .ok (.if_icmp .ne 22, 3) := by decide +kernel
theorem dX8_firstWaiting_37 : decode cX8_firstWaiting 37 = .ok (.aload_n 2, 1) := by decide +kernel
theorem dX8_firstWaiting_38 : decode cX8_firstWaiting 38 = .ok (.ifnull 15, 3) := by decide +kernel
theorem dX8_firstWaiting_41 : decode cX8_firstWaiting 41 = .ok (.aload 4, 2) := by decide +kernel
theorem dX8_firstWaiting_43 : decode cX8_firstWaiting 43 = .ok (.getfield 317, 3) := by decide +kernel
theorem dX8_firstWaiting_46 : decode cX8_firstWaiting 46 = .ok (.aload_n 2, 1) := by decide +kernel
theorem dX8_firstWaiting_47 : decode cX8_firstWaiting 47 = .ok (.getfield 317, 3) := by decide +kernel
theorem dX8_firstWaiting_50 : decode cX8_firstWaiting 50 = .ok (.if_icmp .ge 6, 3) := by decide +kernel
theorem dX8_firstWaiting_53 : decode cX8_firstWaiting 53 = .ok (.aload 4, 2) := by decide +kernel
theorem dX8_firstWaiting_55 : decode cX8_firstWaiting 55 = .ok (.astore_n 2, 1) := by decide +kernel
theorem dX8_firstWaiting_56 : decode cX8_firstWaiting 56 = .ok (.iinc 3 1, 3) := by decide +kernel
theorem dX8_firstWaiting_59 : decode cX8_firstWaiting 59 = .ok (.goto (-55), 3) := by decide +kernel
theorem dX8_firstWaiting_62 : decode cX8_firstWaiting 62 = .ok (.aload_n 2, 1) := by decide +kernel
theorem dX8_firstWaiting_63 : decode cX8_firstWaiting 63 = .ok (.areturn, 1) := by decide +kernel
theorem dX8_sendOutByAge_0 : decode cX8_sendOutByAge 0 = .ok (.iconst 0, 1) := by decide +kernel
theorem dX8_sendOutByAge_1 : decode cX8_sendOutByAge 1 = .ok (.istore_n 1, 1) := by decide +kernel
theorem dX8_sendOutByAge_2 : decode cX8_sendOutByAge 2 = .ok (.iconst 0, 1) := by decide +kernel
theorem dX8_sendOutByAge_3 : decode cX8_sendOutByAge 3 = .ok (.istore_n 2, 1) := by decide +kernel
theorem dX8_sendOutByAge_4 : decode cX8_sendOutByAge 4 = .ok (.iload_n 2, 1) := by decide +kernel
theorem dX8_sendOutByAge_5 : decode cX8_sendOutByAge 5 = .ok (.aload_n 0, 1) := by decide +kernel
theorem dX8_sendOutByAge_6 : decode cX8_sendOutByAge 6 = .ok (.getfield 10, 3) := by decide +kernel
theorem dX8_sendOutByAge_9 : decode cX8_sendOutByAge 9 = .ok (.invokevirtual 43, 3) := by decide +kernel
theorem dX8_sendOutByAge_12 : decode cX8_sendOutByAge 12 = .ok (.if_icmp .ge 27, 3) := by decide +kernel
theorem dX8_sendOutByAge_15 : decode cX8_sendOutByAge 15 = .ok (.iload_n 1, 1) := by decide +kernel
theorem dX8_sendOutByAge_16 : decode cX8_sendOutByAge 16 = .ok (.aload_n 0, 1) := by decide +kernel
theorem dX8_sendOutByAge_17 : decode cX8_sendOutByAge 17 = .ok (.aload_n 0, 1) := by decide +kernel
theorem dX8_sendOutByAge_18 : decode cX8_sendOutByAge 18 = .ok (.getfield 10, 3) := by decide +kernel
theorem dX8_sendOutByAge_21 : decode cX8_sendOutByAge 21 = .ok (.iload_n 2, 1) := by decide +kernel
theorem dX8_sendOutByAge_22 : decode cX8_sendOutByAge 22 = .ok (.invokevirtual 124, 3) := by decide +kernel
theorem dX8_sendOutByAge_25 : decode cX8_sendOutByAge 25 = .ok (.checkcast 51, 3) := by decide +kernel
theorem dX8_sendOutByAge_28 : decode cX8_sendOutByAge 28 = .ok (.invokevirtual 327, 3) := by decide +kernel
theorem dX8_sendOutByAge_31 : decode cX8_sendOutByAge 31 = .ok (.ior, 1) := by decide +kernel
theorem dX8_sendOutByAge_32 : decode cX8_sendOutByAge 32 = .ok (.istore_n 1, 1) := by decide +kernel
theorem dX8_sendOutByAge_33 : decode cX8_sendOutByAge 33 = .ok (.iinc 2 1, 3) := by decide +kernel
theorem dX8_sendOutByAge_36 : decode cX8_sendOutByAge 36 = .ok (.goto (-32), 3) := by decide +kernel
theorem dX8_sendOutByAge_39 : decode cX8_sendOutByAge 39 = .ok (.iload_n 1, 1) := by decide +kernel
theorem dX8_sendOutByAge_40 : decode cX8_sendOutByAge 40 = .ok (.ireturn, 1) := by decide +kernel
theorem dX8_sendOutOf_0 : decode cX8_sendOutOf 0 = .ok (.iconst 0, 1) := by decide +kernel
theorem dX8_sendOutOf_1 : decode cX8_sendOutOf 1 = .ok (.istore_n 2, 1) := by decide +kernel
theorem dX8_sendOutOf_2 : decode cX8_sendOutOf 2 = .ok (.iconst 0, 1) := by decide +kernel
theorem dX8_sendOutOf_3 : decode cX8_sendOutOf 3 = .ok (.istore_n 3, 1) := by decide +kernel
theorem dX8_sendOutOf_4 : decode cX8_sendOutOf 4 = .ok (.iload_n 3, 1) := by decide +kernel
theorem dX8_sendOutOf_5 : decode cX8_sendOutOf 5 = .ok (.aload_n 0, 1) := by decide +kernel
theorem dX8_sendOutOf_6 : decode cX8_sendOutOf 6 = .ok (.getfield 16, 3) := by decide +kernel
theorem dX8_sendOutOf_9 : decode cX8_sendOutOf 9 = .ok (.invokevirtual 43, 3) := by decide +kernel
theorem dX8_sendOutOf_12 : decode cX8_sendOutOf 12 = .ok (.if_icmp .ge 77, 3) := by decide +kernel
theorem dX8_sendOutOf_15 : decode cX8_sendOutOf 15 = .ok (.aload_n 0, 1) := by decide +kernel
theorem dX8_sendOutOf_16 : decode cX8_sendOutOf 16 = .ok (.getfield 16, 3) := by decide +kernel
theorem dX8_sendOutOf_19 : decode cX8_sendOutOf 19 = .ok (.iload_n 3, 1) := by decide +kernel
theorem dX8_sendOutOf_20 : decode cX8_sendOutOf 20 = .ok (.invokevirtual 124, 3) := by decide +kernel
theorem dX8_sendOutOf_23 : decode cX8_sendOutOf 23 = .ok (.checkcast 60, 3) := by decide +kernel
theorem dX8_sendOutOf_26 : decode cX8_sendOutOf 26 = .ok (.astore 4, 2) := by decide +kernel
theorem dX8_sendOutOf_28 : decode cX8_sendOutOf 28 = .ok (.aload_n 1, 1) := by decide +kernel
theorem dX8_sendOutOf_29 : decode cX8_sendOutOf 29 = .ok (.aload 4, 2) := by decide +kernel
theorem dX8_sendOutOf_31 : decode cX8_sendOutOf 31 = .ok (.getfield 85, 3) := by decide +kernel
theorem dX8_sendOutOf_34 : decode cX8_sendOutOf 34 = .ok (.invokevirtual 88, 3) := by decide +kernel
theorem dX8_sendOutOf_37 : decode cX8_sendOutOf 37 = .ok (.ifCond .ne 46, 3) := by decide +kernel
theorem dX8_sendOutOf_40 : decode cX8_sendOutOf 40 = .ok (.aload 4, 2) := by decide +kernel
theorem dX8_sendOutOf_42 : decode cX8_sendOutOf 42 = .ok (.getfield 72, 3) := by decide +kernel
theorem dX8_sendOutOf_45 : decode cX8_sendOutOf 45 = .ok (.aload_n 1, 1) := by decide +kernel
theorem dX8_sendOutOf_46 : decode cX8_sendOutOf 46 = .ok (.getfield 112, 3) := by decide +kernel
theorem dX8_sendOutOf_49 : decode cX8_sendOutOf 49 = .ok (.if_icmp .ne 17, 3) := by decide +kernel
theorem dX8_sendOutOf_52 : decode cX8_sendOutOf 52 = .ok (.iload_n 2, 1) := by decide +kernel
theorem dX8_sendOutOf_53 : decode cX8_sendOutOf 53 = .ok (.iconst 1, 1) := by decide +kernel
theorem dX8_sendOutOf_54 : decode cX8_sendOutOf 54 = .ok (.iload_n 3, 1) := by decide +kernel
theorem dX8_sendOutOf_55 : decode cX8_sendOutOf 55 = .ok (.ishl, 1) := by decide +kernel
theorem dX8_sendOutOf_56 : decode cX8_sendOutOf 56 = .ok (.ior, 1) := by decide +kernel
theorem dX8_sendOutOf_57 : decode cX8_sendOutOf 57 = .ok (.istore_n 2, 1) := by decide +kernel
theorem dX8_sendOutOf_58 : decode cX8_sendOutOf 58 = .ok (.aload 4, 2) := by decide +kernel
theorem dX8_sendOutOf_60 : decode cX8_sendOutOf 60 = .ok (.invokevirtual 100, 3) := by decide +kernel
theorem dX8_sendOutOf_63 : decode cX8_sendOutOf 63 = .ok (.goto 20, 3) := by decide +kernel
theorem dX8_sendOutOf_66 : decode cX8_sendOutOf 66 = .ok (.aload 4, 2) := by decide +kernel
theorem dX8_sendOutOf_68 : decode cX8_sendOutOf 68 = .ok (.getfield 75, 3) := by decide +kernel
theorem dX8_sendOutOf_71 : decode cX8_sendOutOf 71 = .ok (.aload_n 1, 1) := by decide +kernel
theorem dX8_sendOutOf_72 : decode cX8_sendOutOf 72 = .ok (.getfield 112, 3) := by decide +kernel
theorem dX8_sendOutOf_75 : decode cX8_sendOutOf 75 = .ok (.if_icmp .ne 8, 3) := by decide +kernel
theorem dX8_sendOutOf_78 : decode cX8_sendOutOf 78 = .ok (.aload 4, 2) := by decide +kernel
theorem dX8_sendOutOf_80 : decode cX8_sendOutOf 80 = .ok (.invokevirtual 100, 3) := by decide +kernel
theorem dX8_sendOutOf_83 : decode cX8_sendOutOf 83 = .ok (.iinc 3 1, 3) := by decide +kernel
theorem dX8_sendOutOf_86 : decode cX8_sendOutOf 86 = .ok (.goto (-82), 3) := by decide +kernel
theorem dX8_sendOutOf_89 : decode cX8_sendOutOf 89 = .ok (.iload_n 2, 1) := by decide +kernel
theorem dX8_sendOutOf_90 : decode cX8_sendOutOf 90 = .ok (.ireturn, 1) := by decide +kernel
theorem dX8_fillUp_0 : decode cX8_fillUp 0 = .ok (.aload_n 1, 1) := by decide +kernel
theorem dX8_fillUp_1 : decode cX8_fillUp 1 = .ok (.getfield 310, 3) := by decide +kernel
theorem dX8_fillUp_4 : decode cX8_fillUp 4 = .ok (.aload_n 0, 1) := by decide +kernel
theorem dX8_fillUp_5 : decode cX8_fillUp 5 = .ok (.aload_n 1, 1) := by decide +kernel
theorem dX8_fillUp_6 : decode cX8_fillUp 6 = .ok (.getfield 112, 3) := by decide +kernel
theorem dX8_fillUp_9 : decode cX8_fillUp 9 = .ok (.invokevirtual 280, 3) := by decide +kernel
theorem dX8_fillUp_12 : decode cX8_fillUp 12 = .ok (.isub, 1) := by decide +kernel
theorem dX8_fillUp_13 : decode cX8_fillUp 13 = .ok (.istore_n 2, 1) := by decide +kernel
theorem dX8_fillUp_14 : decode cX8_fillUp 14 = .ok (.iconst 0, 1) := by decide +kernel
theorem dX8_fillUp_15 : decode cX8_fillUp 15 = .ok (.istore_n 3, 1) := by decide +kernel
theorem dX8_fillUp_16 : decode cX8_fillUp 16 = .ok (.iload_n 3, 1) := by decide +kernel
theorem dX8_fillUp_17 : decode cX8_fillUp 17 = .ok (.iload_n 2, 1) := by decide +kernel
theorem dX8_fillUp_18 : decode cX8_fillUp 18 = .ok (.if_icmp .ge 18, 3) := by decide +kernel
theorem dX8_fillUp_21 : decode cX8_fillUp 21 = .ok (.aload_n 0, 1) := by decide +kernel
theorem dX8_fillUp_22 : decode cX8_fillUp 22 = .ok (.aload_n 1, 1) := by decide +kernel
theorem dX8_fillUp_23 : decode cX8_fillUp 23 = .ok (.getfield 112, 3) := by decide +kernel
theorem dX8_fillUp_26 : decode cX8_fillUp 26 = .ok (.invokevirtual 103, 3) := by decide +kernel
theorem dX8_fillUp_29 : decode cX8_fillUp 29 = .ok (.pop, 1) := by decide +kernel
theorem dX8_fillUp_30 : decode cX8_fillUp 30 = .ok (.iinc 3 1, 3) := by decide +kernel
theorem dX8_fillUp_33 : decode cX8_fillUp 33 = .ok (.goto (-17), 3) := by decide +kernel
theorem dX8_fillUp_36 : decode cX8_fillUp 36 = .ok (.return_, 1) := by decide +kernel
theorem dX8_moveUp_0 : decode cX8_moveUp 0 = .ok (.iconst 0, 1) := by decide +kernel
theorem dX8_moveUp_1 : decode cX8_moveUp 1 = .ok (.istore_n 2, 1) := by decide +kernel
theorem dX8_moveUp_2 : decode cX8_moveUp 2 = .ok (.iload_n 2, 1) := by decide +kernel
theorem dX8_moveUp_3 : decode cX8_moveUp 3 = .ok (.aload_n 0, 1) := by decide +kernel
theorem dX8_moveUp_4 : decode cX8_moveUp 4 = .ok (.getfield 10, 3) := by decide +kernel
theorem dX8_moveUp_7 : decode cX8_moveUp 7 = .ok (.invokevirtual 43, 3) := by decide +kernel
theorem dX8_moveUp_10 : decode cX8_moveUp 10 = .ok (.if_icmp .ge 48, 3) := by decide +kernel
theorem dX8_moveUp_13 : decode cX8_moveUp 13 = .ok (.aload_n 0, 1) := by decide +kernel
theorem dX8_moveUp_14 : decode cX8_moveUp 14 = .ok (.getfield 10, 3) := by decide +kernel
theorem dX8_moveUp_17 : decode cX8_moveUp 17 = .ok (.iload_n 2, 1) := by decide +kernel
theorem dX8_moveUp_18 : decode cX8_moveUp 18 = .ok (.invokevirtual 124, 3) := by decide +kernel
theorem dX8_moveUp_21 : decode cX8_moveUp 21 = .ok (.checkcast 51, 3) := by decide +kernel
theorem dX8_moveUp_24 : decode cX8_moveUp 24 = .ok (.aload_n 1, 1) := by decide +kernel
theorem dX8_moveUp_25 : decode cX8_moveUp 25 = .ok (.getfield 85, 3) := by decide +kernel
theorem dX8_moveUp_28 : decode cX8_moveUp 28 = .ok (.invokevirtual 88, 3) := by decide +kernel
theorem dX8_moveUp_31 : decode cX8_moveUp 31 = .ok (.ifCond .eq 21, 3) := by decide +kernel
theorem dX8_moveUp_34 : decode cX8_moveUp 34 = .ok (.aload_n 0, 1) := by decide +kernel
theorem dX8_moveUp_35 : decode cX8_moveUp 35 = .ok (.aload_n 1, 1) := by decide +kernel
theorem dX8_moveUp_36 : decode cX8_moveUp 36 = .ok (.aload_n 0, 1) := by decide +kernel
theorem dX8_moveUp_37 : decode cX8_moveUp 37 = .ok (.getfield 10, 3) := by decide +kernel
theorem dX8_moveUp_40 : decode cX8_moveUp 40 = .ok (.iload_n 2, 1) := by decide +kernel
theorem dX8_moveUp_41 : decode cX8_moveUp 41 = .ok (.invokevirtual 124, 3) := by decide +kernel
theorem dX8_moveUp_44 : decode cX8_moveUp 44 = .ok (.checkcast 51, 3) := by decide +kernel
theorem dX8_moveUp_47 : decode cX8_moveUp 47 = .ok (.invokevirtual 94, 3) := by decide +kernel
theorem dX8_moveUp_50 : decode cX8_moveUp 50 = .ok (.pop, 1) := by decide +kernel
theorem dX8_moveUp_51 : decode cX8_moveUp 51 = .ok (.return_, 1) := by decide +kernel
theorem dX8_moveUp_52 : decode cX8_moveUp 52 = .ok (.iinc 2 1, 3) := by decide +kernel
theorem dX8_moveUp_55 : decode cX8_moveUp 55 = .ok (.goto (-53), 3) := by decide +kernel
theorem dX8_moveUp_58 : decode cX8_moveUp 58 = .ok (.return_, 1) := by decide +kernel
theorem dX8_childrenPerLeader_0 : decode cX8_childrenPerLeader 0 = .ok (.iload_n 0, 1) := by decide +kernel
theorem dX8_childrenPerLeader_1 : decode cX8_childrenPerLeader 1 = .ok (.tableswitch 34 1 3 #[27, 29, 31], 27) := by decide +kernel
theorem dX8_childrenPerLeader_28 : decode cX8_childrenPerLeader 28 = .ok (.iconst 4, 1) := by decide +kernel
theorem dX8_childrenPerLeader_29 : decode cX8_childrenPerLeader 29 = .ok (.ireturn, 1) := by decide +kernel
theorem dX8_childrenPerLeader_30 : decode cX8_childrenPerLeader 30 = .ok (.iconst 3, 1) := by decide +kernel
theorem dX8_childrenPerLeader_31 : decode cX8_childrenPerLeader 31 = .ok (.ireturn, 1) := by decide +kernel
theorem dX8_childrenPerLeader_32 : decode cX8_childrenPerLeader 32 = .ok (.bipush 6, 2) := by decide +kernel
theorem dX8_childrenPerLeader_34 : decode cX8_childrenPerLeader 34 = .ok (.ireturn, 1) := by decide +kernel
theorem dX8_childrenPerLeader_35 : decode cX8_childrenPerLeader 35 = .ok (.bipush 8, 2) := by decide +kernel
theorem dX8_childrenPerLeader_37 : decode cX8_childrenPerLeader 37 = .ok (.ireturn, 1) := by decide +kernel
theorem dX8_isElsewhere_0 : decode cX8_isElsewhere 0 = .ok (.iconst 0, 1) := by decide +kernel
theorem dX8_isElsewhere_1 : decode cX8_isElsewhere 1 = .ok (.istore_n 3, 1) := by decide +kernel
theorem dX8_isElsewhere_2 : decode cX8_isElsewhere 2 = .ok (.iload_n 3, 1) := by decide +kernel
theorem dX8_isElsewhere_3 : decode cX8_isElsewhere 3 = .ok (.aload_n 0, 1) := by decide +kernel
theorem dX8_isElsewhere_4 : decode cX8_isElsewhere 4 = .ok (.getfield 22, 3) := by decide +kernel
theorem dX8_isElsewhere_7 : decode cX8_isElsewhere 7 = .ok (.invokevirtual 43, 3) := by decide +kernel
theorem dX8_isElsewhere_10 : decode cX8_isElsewhere 10 = .ok (.if_icmp .ge 51, 3) := by decide +kernel
theorem dX8_isElsewhere_13 : decode cX8_isElsewhere 13 = .ok (.aload_n 0, 1) := by decide +kernel
theorem dX8_isElsewhere_14 : decode cX8_isElsewhere 14 = .ok (.getfield 22, 3) := by decide +kernel
theorem dX8_isElsewhere_17 : decode cX8_isElsewhere 17 = .ok (.iload_n 3, 1) := by decide +kernel
theorem dX8_isElsewhere_18 : decode cX8_isElsewhere 18 = .ok (.invokevirtual 124, 3) := by decide +kernel
theorem dX8_isElsewhere_21 : decode cX8_isElsewhere 21 = .ok (.checkcast 223, 3) := by decide +kernel
theorem dX8_isElsewhere_24 : decode cX8_isElsewhere 24 = .ok (.astore 4, 2) := by decide +kernel
theorem dX8_isElsewhere_26 : decode cX8_isElsewhere 26 = .ok (.aload 4, 2) := by decide +kernel
theorem dX8_isElsewhere_28 : decode cX8_isElsewhere 28 = .ok (.aload_n 1, 1) := by decide +kernel
theorem dX8_isElsewhere_29 : decode cX8_isElsewhere 29 = .ok (.if_acmp .eq 26, 3) := by decide +kernel
theorem dX8_isElsewhere_32 : decode cX8_isElsewhere 32 = .ok (.aload 4, 2) := by decide +kernel
theorem dX8_isElsewhere_34 : decode cX8_isElsewhere 34 = .ok (.getfield 236, 3) := by decide +kernel
theorem dX8_isElsewhere_37 : decode cX8_isElsewhere 37 = .ok (.iload_n 2, 1) := by decide +kernel
theorem dX8_isElsewhere_38 : decode cX8_isElsewhere 38 = .ok (.invokestatic 135, 3) := by decide +kernel
theorem dX8_isElsewhere_41 : decode cX8_isElsewhere 41 = .ok (.ifCond .eq 14, 3) := by decide +kernel
theorem dX8_isElsewhere_44 : decode cX8_isElsewhere 44 = .ok (.aload 4, 2) := by decide +kernel
theorem dX8_isElsewhere_46 : decode cX8_isElsewhere 46 = .ok (.aload_n 1, 1) := by decide +kernel
theorem dX8_isElsewhere_47 : decode cX8_isElsewhere 47 = .ok (.invokevirtual 331, 3) := by decide +kernel
theorem dX8_isElsewhere_50 : decode cX8_isElsewhere 50 = .ok (.ifCond .eq 5, 3) := by decide +kernel
theorem dX8_isElsewhere_53 : decode cX8_isElsewhere 53 = .ok (.iconst 1, 1) := by decide +kernel
theorem dX8_isElsewhere_54 : decode cX8_isElsewhere 54 = .ok (.ireturn, 1) := by decide +kernel
theorem dX8_isElsewhere_55 : decode cX8_isElsewhere 55 = .ok (.iinc 3 1, 3) := by decide +kernel
theorem dX8_isElsewhere_58 : decode cX8_isElsewhere 58 = .ok (.goto (-56), 3) := by decide +kernel
theorem dX8_isElsewhere_61 : decode cX8_isElsewhere 61 = .ok (.iconst 0, 1) := by decide +kernel
theorem dX8_isElsewhere_62 : decode cX8_isElsewhere 62 = .ok (.ireturn, 1) := by decide +kernel
theorem dX8_needOf_0 : decode cX8_needOf 0 = .ok (.iconst 0, 1) := by decide +kernel
theorem dX8_needOf_1 : decode cX8_needOf 1 = .ok (.istore_n 2, 1) := by decide +kernel
theorem dX8_needOf_2 : decode cX8_needOf 2 = .ok (.iconst 0, 1) := by decide +kernel
theorem dX8_needOf_3 : decode cX8_needOf 3 = .ok (.istore_n 3, 1) := by decide +kernel
theorem dX8_needOf_4 : decode cX8_needOf 4 = .ok (.iconst 0, 1) := by decide +kernel
theorem dX8_needOf_5 : decode cX8_needOf 5 = .ok (.istore 4, 2) := by decide +kernel
theorem dX8_needOf_7 : decode cX8_needOf 7 = .ok (.iload 4, 2) := by decide +kernel
theorem dX8_needOf_9 : decode cX8_needOf 9 = .ok (.aload_n 0, 1) := by decide +kernel
theorem dX8_needOf_10 : decode cX8_needOf 10 = .ok (.getfield 19, 3) := by decide +kernel
theorem dX8_needOf_13 : decode cX8_needOf 13 = .ok (.invokevirtual 43, 3) := by decide +kernel
theorem dX8_needOf_16 : decode cX8_needOf 16 = .ok (.if_icmp .ge 75, 3) := by decide +kernel
theorem dX8_needOf_19 : decode cX8_needOf 19 = .ok (.aload_n 0, 1) := by decide +kernel
theorem dX8_needOf_20 : decode cX8_needOf 20 = .ok (.getfield 19, 3) := by decide +kernel
theorem dX8_needOf_23 : decode cX8_needOf 23 = .ok (.iload 4, 2) := by decide +kernel
theorem dX8_needOf_25 : decode cX8_needOf 25 = .ok (.invokevirtual 124, 3) := by decide +kernel
theorem dX8_needOf_28 : decode cX8_needOf 28 = .ok (.checkcast 148, 3) := by decide +kernel
theorem dX8_needOf_31 : decode cX8_needOf 31 = .ok (.aload_n 1, 1) := by decide +kernel
theorem dX8_needOf_32 : decode cX8_needOf 32 = .ok (.getfield 335, 3) := by decide +kernel
theorem dX8_needOf_35 : decode cX8_needOf 35 = .ok (.aload_n 1, 1) := by decide +kernel
theorem dX8_needOf_36 : decode cX8_needOf 36 = .ok (.getfield 338, 3) := by decide +kernel
theorem dX8_needOf_39 : decode cX8_needOf 39 = .ok (.invokevirtual 341, 3) := by decide +kernel
theorem dX8_needOf_42 : decode cX8_needOf 42 = .ok (.ifCond .eq 10, 3) := by decide +kernel
theorem dX8_needOf_45 : decode cX8_needOf 45 = .ok (.iload_n 2, 1) := by decide +kernel
theorem dX8_needOf_46 : decode cX8_needOf 46 = .ok (.iconst 1, 1) := by decide +kernel
theorem dX8_needOf_47 : decode cX8_needOf 47 = .ok (.iload 4, 2) := by decide +kernel
theorem dX8_needOf_49 : decode cX8_needOf 49 = .ok (.ishl, 1) := by decide +kernel
theorem dX8_needOf_50 : decode cX8_needOf 50 = .ok (.ior, 1) := by decide +kernel
theorem dX8_needOf_51 : decode cX8_needOf 51 = .ok (.istore_n 2, 1) := by decide +kernel
theorem dX8_needOf_52 : decode cX8_needOf 52 = .ok (.aload_n 0, 1) := by decide +kernel
theorem dX8_needOf_53 : decode cX8_needOf 53 = .ok (.getfield 19, 3) := by decide +kernel
theorem dX8_needOf_56 : decode cX8_needOf 56 = .ok (.iload 4, 2) := by decide +kernel
theorem dX8_needOf_58 : decode cX8_needOf 58 = .ok (.invokevirtual 124, 3) := by decide +kernel
theorem dX8_needOf_61 : decode cX8_needOf 61 = .ok (.checkcast 148, 3) := by decide +kernel
theorem dX8_needOf_64 : decode cX8_needOf 64 = .ok (.aload_n 1, 1) := by decide +kernel
theorem dX8_needOf_65 : decode cX8_needOf 65 = .ok (.getfield 344, 3) := by decide +kernel
theorem dX8_needOf_68 : decode cX8_needOf 68 = .ok (.aload_n 1, 1) := by decide +kernel
theorem dX8_needOf_69 : decode cX8_needOf 69 = .ok (.getfield 338, 3) := by decide +kernel
theorem dX8_needOf_72 : decode cX8_needOf 72 = .ok (.invokevirtual 347, 3) := by decide +kernel
theorem dX8_needOf_75 : decode cX8_needOf 75 = .ok (.ifCond .eq 10, 3) := by decide +kernel
theorem dX8_needOf_78 : decode cX8_needOf 78 = .ok (.iload_n 3, 1) := by decide +kernel
theorem dX8_needOf_79 : decode cX8_needOf 79 = .ok (.iconst 1, 1) := by decide +kernel
theorem dX8_needOf_80 : decode cX8_needOf 80 = .ok (.iload 4, 2) := by decide +kernel
theorem dX8_needOf_82 : decode cX8_needOf 82 = .ok (.ishl, 1) := by decide +kernel
theorem dX8_needOf_83 : decode cX8_needOf 83 = .ok (.ior, 1) := by decide +kernel
theorem dX8_needOf_84 : decode cX8_needOf 84 = .ok (.istore_n 3, 1) := by decide +kernel
theorem dX8_needOf_85 : decode cX8_needOf 85 = .ok (.iinc 4 1, 3) := by decide +kernel
theorem dX8_needOf_88 : decode cX8_needOf 88 = .ok (.goto (-81), 3) := by decide +kernel
theorem dX8_needOf_91 : decode cX8_needOf 91 = .ok (.new 243, 3) := by decide +kernel
theorem dX8_needOf_94 : decode cX8_needOf 94 = .ok (.dup, 1) := by decide +kernel
theorem dX8_needOf_95 : decode cX8_needOf 95 = .ok (.aload_n 0, 1) := by decide +kernel
theorem dX8_needOf_96 : decode cX8_needOf 96 = .ok (.aload_n 1, 1) := by decide +kernel
theorem dX8_needOf_97 : decode cX8_needOf 97 = .ok (.getfield 350, 3) := by decide +kernel
theorem dX8_needOf_100 : decode cX8_needOf 100 = .ok (.invokevirtual 280, 3) := by decide +kernel
theorem dX8_needOf_103 : decode cX8_needOf 103 = .ok (.aload_n 1, 1) := by decide +kernel
theorem dX8_needOf_104 : decode cX8_needOf 104 = .ok (.getfield 344, 3) := by decide +kernel
theorem dX8_needOf_107 : decode cX8_needOf 107 = .ok (.invokestatic 351, 3) := by decide +kernel
theorem dX8_needOf_110 : decode cX8_needOf 110 = .ok (.iload_n 2, 1) := by decide +kernel
theorem dX8_needOf_111 : decode cX8_needOf 111 = .ok (.iload_n 3, 1) := by decide +kernel
theorem dX8_needOf_112 : decode cX8_needOf 112 = .ok (.invokespecial 354, 3) := by decide +kernel
theorem dX8_needOf_115 : decode cX8_needOf 115 = .ok (.areturn, 1) := by decide +kernel
theorem dX8_eventsIn_0 : decode cX8_eventsIn 0 = .ok (.iconst 0, 1) := by decide +kernel
theorem dX8_eventsIn_1 : decode cX8_eventsIn 1 = .ok (.istore_n 3, 1) := by decide +kernel
theorem dX8_eventsIn_2 : decode cX8_eventsIn 2 = .ok (.iconst 0, 1) := by decide +kernel
theorem dX8_eventsIn_3 : decode cX8_eventsIn 3 = .ok (.istore 4, 2) := by decide +kernel
theorem dX8_eventsIn_5 : decode cX8_eventsIn 5 = .ok (.iload 4, 2) := by decide +kernel
theorem dX8_eventsIn_7 : decode cX8_eventsIn 7 = .ok (.aload_n 0, 1) := by decide +kernel
theorem dX8_eventsIn_8 : decode cX8_eventsIn 8 = .ok (.getfield 22, 3) := by decide +kernel
theorem dX8_eventsIn_11 : decode cX8_eventsIn 11 = .ok (.invokevirtual 43, 3) := by decide +kernel
theorem dX8_eventsIn_14 : decode cX8_eventsIn 14 = .ok (.if_icmp .ge 32, 3) := by decide +kernel
theorem dX8_eventsIn_17 : decode cX8_eventsIn 17 = .ok (.aload_n 0, 1) := by decide +kernel
theorem dX8_eventsIn_18 : decode cX8_eventsIn 18 = .ok (.getfield 22, 3) := by decide +kernel
theorem dX8_eventsIn_21 : decode cX8_eventsIn 21 = .ok (.iload 4, 2) := by decide +kernel
theorem dX8_eventsIn_23 : decode cX8_eventsIn 23 = .ok (.invokevirtual 124, 3) := by decide +kernel
theorem dX8_eventsIn_26 : decode cX8_eventsIn 26 = .ok (.checkcast 223, 3) := by decide +kernel
theorem dX8_eventsIn_29 : decode cX8_eventsIn 29 = .ok (.iload_n 1, 1) := by decide +kernel
theorem dX8_eventsIn_30 : decode cX8_eventsIn 30 = .ok (.iload_n 2, 1) := by decide +kernel
theorem dX8_eventsIn_31 : decode cX8_eventsIn 31 = .ok (.invokevirtual 355, 3) := by decide +kernel
theorem dX8_eventsIn_34 : decode cX8_eventsIn 34 = .ok (.ifCond .eq 6, 3) := by decide +kernel
theorem dX8_eventsIn_37 : decode cX8_eventsIn 37 = .ok (.iinc 3 1, 3) := by decide +kernel
theorem dX8_eventsIn_40 : decode cX8_eventsIn 40 = .ok (.iinc 4 1, 3) := by decide +kernel
theorem dX8_eventsIn_43 : decode cX8_eventsIn 43 = .ok (.goto (-38), 3) := by decide +kernel
theorem dX8_eventsIn_46 : decode cX8_eventsIn 46 = .ok (.iload_n 3, 1) := by decide +kernel
theorem dX8_eventsIn_47 : decode cX8_eventsIn 47 = .ok (.ireturn, 1) := by decide +kernel
theorem dX8_needsIn_0 : decode cX8_needsIn 0 = .ok (.new 7, 3) := by decide +kernel
theorem dX8_needsIn_3 : decode cX8_needsIn 3 = .ok (.dup, 1) := by decide +kernel
theorem dX8_needsIn_4 : decode cX8_needsIn 4 = .ok (.invokespecial 9, 3) := by decide +kernel
theorem dX8_needsIn_7 : decode cX8_needsIn 7 = .ok (.astore_n 3, 1) := by decide +kernel
theorem dX8_needsIn_8 : decode cX8_needsIn 8 = .ok (.iconst 0, 1) := by decide +kernel
theorem dX8_needsIn_9 : decode cX8_needsIn 9 = .ok (.istore 4, 2) := by decide +kernel
theorem dX8_needsIn_11 : decode cX8_needsIn 11 = .ok (.iload 4, 2) := by decide +kernel
theorem dX8_needsIn_13 : decode cX8_needsIn 13 = .ok (.aload_n 0, 1) := by decide +kernel
theorem dX8_needsIn_14 : decode cX8_needsIn 14 = .ok (.getfield 22, 3) := by decide +kernel
theorem dX8_needsIn_17 : decode cX8_needsIn 17 = .ok (.invokevirtual 43, 3) := by decide +kernel
theorem dX8_needsIn_20 : decode cX8_needsIn 20 = .ok (.if_icmp .ge 50, 3) := by decide +kernel
theorem dX8_needsIn_23 : decode cX8_needsIn 23 = .ok (.aload_n 0, 1) := by decide +kernel
theorem dX8_needsIn_24 : decode cX8_needsIn 24 = .ok (.getfield 22, 3) := by decide +kernel
theorem dX8_needsIn_27 : decode cX8_needsIn 27 = .ok (.iload 4, 2) := by decide +kernel
theorem dX8_needsIn_29 : decode cX8_needsIn 29 = .ok (.invokevirtual 124, 3) := by decide +kernel
theorem dX8_needsIn_32 : decode cX8_needsIn 32 = .ok (.checkcast 223, 3) := by decide +kernel
theorem dX8_needsIn_35 : decode cX8_needsIn 35 = .ok (.iload_n 1, 1) := by decide +kernel
theorem dX8_needsIn_36 : decode cX8_needsIn 36 = .ok (.iload_n 2, 1) := by decide +kernel
theorem dX8_needsIn_37 : decode cX8_needsIn 37 = .ok (.invokevirtual 355, 3) := by decide +kernel
theorem dX8_needsIn_40 : decode cX8_needsIn 40 = .ok (.ifCond .eq 24, 3) := by decide +kernel
theorem dX8_needsIn_43 : decode cX8_needsIn 43 = .ok (.aload_n 3, 1) := by decide +kernel
theorem dX8_needsIn_44 : decode cX8_needsIn 44 = .ok (.aload_n 0, 1) := by decide +kernel
theorem dX8_needsIn_45 : decode cX8_needsIn 45 = .ok (.aload_n 0, 1) := by decide +kernel
theorem dX8_needsIn_46 : decode cX8_needsIn 46 = .ok (.getfield 22, 3) := by decide +kernel
theorem dX8_needsIn_49 : decode cX8_needsIn 49 = .ok (.iload 4, 2) := by decide +kernel
theorem dX8_needsIn_51 : decode cX8_needsIn 51 = .ok (.invokevirtual 124, 3) := by decide +kernel
theorem dX8_needsIn_54 : decode cX8_needsIn 54 = .ok (.checkcast 223, 3) := by decide +kernel
theorem dX8_needsIn_57 : decode cX8_needsIn 57 = .ok (.invokevirtual 238, 3) := by decide +kernel
theorem dX8_needsIn_60 : decode cX8_needsIn 60 = .ok (.invokevirtual 56, 3) := by decide +kernel
theorem dX8_needsIn_63 : decode cX8_needsIn 63 = .ok (.pop, 1) := by decide +kernel
theorem dX8_needsIn_64 : decode cX8_needsIn 64 = .ok (.iinc 4 1, 3) := by decide +kernel
theorem dX8_needsIn_67 : decode cX8_needsIn 67 = .ok (.goto (-56), 3) := by decide +kernel
theorem dX8_needsIn_70 : decode cX8_needsIn 70 = .ok (.aload_n 3, 1) := by decide +kernel
theorem dX8_needsIn_71 : decode cX8_needsIn 71 = .ok (.areturn, 1) := by decide +kernel
theorem dX8_canShare_0 : decode cX8_canShare 0 = .ok (.iload_n 1, 1) := by decide +kernel
theorem dX8_canShare_1 : decode cX8_canShare 1 = .ok (.ifCond .lt 11, 3) := by decide +kernel
theorem dX8_canShare_4 : decode cX8_canShare 4 = .ok (.iload_n 1, 1) := by decide +kernel
theorem dX8_canShare_5 : decode cX8_canShare 5 = .ok (.aload_n 0, 1) := by decide +kernel
theorem dX8_canShare_6 : decode cX8_canShare 6 = .ok (.invokevirtual 43, 3) := by decide +kernel
theorem dX8_canShare_9 : decode cX8_canShare 9 = .ok (.if_icmp .lt 5, 3) := by decide +kernel
theorem dX8_canShare_12 : decode cX8_canShare 12 = .ok (.iconst 1, 1) := by decide +kernel
theorem dX8_canShare_13 : decode cX8_canShare 13 = .ok (.ireturn, 1) := by decide +kernel
theorem dX8_canShare_14 : decode cX8_canShare 14 = .ok (.aload_n 0, 1) := by decide +kernel
theorem dX8_canShare_15 : decode cX8_canShare 15 = .ok (.iload_n 1, 1) := by decide +kernel
theorem dX8_canShare_16 : decode cX8_canShare 16 = .ok (.invokevirtual 124, 3) := by decide +kernel
theorem dX8_canShare_19 : decode cX8_canShare 19 = .ok (.checkcast 243, 3) := by decide +kernel
theorem dX8_canShare_22 : decode cX8_canShare 22 = .ok (.astore_n 3, 1) := by decide +kernel
theorem dX8_canShare_23 : decode cX8_canShare 23 = .ok (.iload_n 2, 1) := by decide +kernel
theorem dX8_canShare_24 : decode cX8_canShare 24 = .ok (.aload_n 3, 1) := by decide +kernel
theorem dX8_canShare_25 : decode cX8_canShare 25 = .ok (.getfield 358, 3) := by decide +kernel
theorem dX8_canShare_28 : decode cX8_canShare 28 = .ok (.iand, 1) := by decide +kernel
theorem dX8_canShare_29 : decode cX8_canShare 29 = .ok (.istore 4, 2) := by decide +kernel
theorem dX8_canShare_31 : decode cX8_canShare 31 = .ok (.aload_n 3, 1) := by decide +kernel
theorem dX8_canShare_32 : decode cX8_canShare 32 = .ok (.iload 4, 2) := by decide +kernel
theorem dX8_canShare_34 : decode cX8_canShare 34 = .ok (.invokevirtual 242, 3) := by decide +kernel
theorem dX8_canShare_37 : decode cX8_canShare 37 = .ok (.ifCond .eq 5, 3) := by decide +kernel
theorem dX8_canShare_40 : decode cX8_canShare 40 = .ok (.iconst 0, 1) := by decide +kernel
theorem dX8_canShare_41 : decode cX8_canShare 41 = .ok (.ireturn, 1) := by decide +kernel
theorem dX8_canShare_42 : decode cX8_canShare 42 = .ok (.iconst 1, 1) := by decide +kernel
theorem dX8_canShare_43 : decode cX8_canShare 43 = .ok (.iload 4, 2) := by decide +kernel
theorem dX8_canShare_45 : decode cX8_canShare 45 = .ok (.invokestatic 143, 3) := by decide +kernel
theorem dX8_canShare_48 : decode cX8_canShare 48 = .ok (.ishl, 1) := by decide +kernel
theorem dX8_canShare_49 : decode cX8_canShare 49 = .ok (.istore 5, 2) := by decide +kernel
theorem dX8_canShare_51 : decode cX8_canShare 51 = .ok (.iconst 0, 1) := by decide +kernel
theorem dX8_canShare_52 : decode cX8_canShare 52 = .ok (.istore 6, 2) := by decide +kernel
theorem dX8_canShare_54 : decode cX8_canShare 54 = .ok (.iconst 0, 1) := by decide +kernel
theorem dX8_canShare_55 : decode cX8_canShare 55 = .ok (.istore 7, 2) := by decide +kernel
theorem dX8_canShare_57 : decode cX8_canShare 57 = .ok (.iload 7, 2) := by decide +kernel
theorem dX8_canShare_59 : decode cX8_canShare 59 = .ok (.iload 5, 2) := by decide +kernel
theorem dX8_canShare_61 : decode cX8_canShare 61 = .ok (.if_icmp .ge 58, 3) := by decide +kernel
theorem dX8_canShare_64 : decode cX8_canShare 64 = .ok (.iload 6, 2) := by decide +kernel
theorem dX8_canShare_66 : decode cX8_canShare 66 = .ok (.invokestatic 143, 3) := by decide +kernel
theorem dX8_canShare_69 : decode cX8_canShare 69 = .ok (.aload_n 3, 1) := by decide +kernel
theorem dX8_canShare_70 : decode cX8_canShare 70 = .ok (.getfield 361, 3) := by decide +kernel
theorem dX8_canShare_73 : decode cX8_canShare 73 = .ok (.if_icmp .ne 30, 3) := by decide +kernel
theorem dX8_canShare_76 : decode cX8_canShare 76 = .ok (.aload_n 3, 1) := by decide +kernel
theorem dX8_canShare_77 : decode cX8_canShare 77 = .ok (.iload 6, 2) := by decide +kernel
theorem dX8_canShare_79 : decode cX8_canShare 79 = .ok (.invokevirtual 242, 3) := by decide +kernel
theorem dX8_canShare_82 : decode cX8_canShare 82 = .ok (.ifCond .ne 21, 3) := by decide +kernel
theorem dX8_canShare_85 : decode cX8_canShare 85 = .ok (.aload_n 0, 1) := by decide +kernel
theorem dX8_canShare_86 : decode cX8_canShare 86 = .ok (.iload_n 1, 1) := by decide +kernel
theorem dX8_canShare_87 : decode cX8_canShare 87 = .ok (.iconst 1, 1) := by decide +kernel
theorem dX8_canShare_88 : decode cX8_canShare 88 = .ok (.iadd, 1) := by decide +kernel
theorem dX8_canShare_89 : decode cX8_canShare 89 = .ok (.iload_n 2, 1) := by decide +kernel
theorem dX8_canShare_90 : decode cX8_canShare 90 = .ok (.iload 6, 2) := by decide +kernel
theorem dX8_canShare_92 : decode cX8_canShare 92 = .ok (.iconst (-1), 1) := by decide +kernel
theorem dX8_canShare_93 : decode cX8_canShare 93 = .ok (.ixor, 1) := by decide +kernel
theorem dX8_canShare_94 : decode cX8_canShare 94 = .ok (.iand, 1) := by decide +kernel
theorem dX8_canShare_95 : decode cX8_canShare 95 = .ok (.invokestatic 256, 3) := by decide +kernel
theorem dX8_canShare_98 : decode cX8_canShare 98 = .ok (.ifCond .eq 5, 3) := by decide +kernel
theorem dX8_canShare_101 : decode cX8_canShare 101 = .ok (.iconst 1, 1) := by decide +kernel
theorem dX8_canShare_102 : decode cX8_canShare 102 = .ok (.ireturn, 1) := by decide +kernel
theorem dX8_canShare_103 : decode cX8_canShare 103 = .ok (.iload 6, 2) := by decide +kernel
theorem dX8_canShare_105 : decode cX8_canShare 105 = .ok (.iload 4, 2) := by decide +kernel
theorem dX8_canShare_107 : decode cX8_canShare 107 = .ok (.isub, 1) := by decide +kernel
theorem dX8_canShare_108 : decode cX8_canShare 108 = .ok (.iload 4, 2) := by decide +kernel
theorem dX8_canShare_110 : decode cX8_canShare 110 = .ok (.iand, 1) := by decide +kernel
theorem dX8_canShare_111 : decode cX8_canShare 111 = .ok (.istore 6, 2) := by decide +kernel
theorem dX8_canShare_113 : decode cX8_canShare 113 = .ok (.iinc 7 1, 3) := by decide +kernel
theorem dX8_canShare_116 : decode cX8_canShare 116 = .ok (.goto (-59), 3) := by decide +kernel
theorem dX8_canShare_119 : decode cX8_canShare 119 = .ok (.iconst 0, 1) := by decide +kernel
theorem dX8_canShare_120 : decode cX8_canShare 120 = .ok (.ireturn, 1) := by decide +kernel
