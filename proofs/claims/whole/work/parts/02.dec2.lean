theorem dX10_of_0 : decode cX10_of 0 = .ok (.aload_n 0, 1) := by decide +kernel
theorem dX10_of_1 : decode cX10_of 1 = .ok (.iload_n 1, 1) := by decide +kernel
theorem dX10_of_2 : decode cX10_of 2 = .ok (.invokevirtual 81, 3) := by decide +kernel
theorem dX10_of_5 : decode cX10_of 5 = .ok (.ifCond .eq 13, 3) := by decide +kernel
theorem dX10_of_8 : decode cX10_of 8 = .ok (.iload_n 2, 1) := by decide +kernel
theorem dX10_of_9 : decode cX10_of 9 = .ok (.i2l, 1) := by decide +kernel
theorem dX10_of_10 : decode cX10_of 10 = .ok (.iconst 0, 1) := by decide +kernel
theorem dX10_of_11 : decode cX10_of 11 = .ok (.iconst 5, 1) := by decide +kernel
theorem dX10_of_12 : decode cX10_of 12 = .ok (.invokestatic 41, 3) := by decide +kernel
theorem dX10_of_15 : decode cX10_of 15 = .ok (.ifCond .ne 10, 3) := by decide +kernel
theorem dX10_of_18 : decode cX10_of 18 = .ok (.aload_n 0, 1) := by decide +kernel
theorem dX10_of_19 : decode cX10_of 19 = .ok (.ldc 35, 2) := by decide +kernel
theorem dX10_of_21 : decode cX10_of 21 = .ok (.invokevirtual 37, 3) := by decide +kernel
theorem dX10_of_24 : decode cX10_of 24 = .ok (.ireturn, 1) := by decide +kernel
theorem dX10_of_25 : decode cX10_of 25 = .ok (.iload_n 2, 1) := by decide +kernel
theorem dX10_of_26 : decode cX10_of 26 = .ok (.iconst 4, 1) := by decide +kernel
theorem dX10_of_27 : decode cX10_of 27 = .ok (.if_icmp .ge 12, 3) := by decide +kernel
theorem dX10_of_30 : decode cX10_of 30 = .ok (.aload_n 0, 1) := by decide +kernel
theorem dX10_of_31 : decode cX10_of 31 = .ok (.iload_n 1, 1) := by decide +kernel
theorem dX10_of_32 : decode cX10_of 32 = .ok (.iload_n 2, 1) := by decide +kernel
theorem dX10_of_33 : decode cX10_of 33 = .ok (.invokevirtual 45, 3) := by decide +kernel
theorem dX10_of_36 : decode cX10_of 36 = .ok (.goto 21, 3) := by decide +kernel
theorem dX10_of_39 : decode cX10_of 39 = .ok (.iload_n 2, 1) := by decide +kernel
theorem dX10_of_40 : decode cX10_of 40 = .ok (.iconst 4, 1) := by decide +kernel
theorem dX10_of_41 : decode cX10_of 41 = .ok (.if_icmp .ne 11, 3) := by decide +kernel
theorem dX10_of_44 : decode cX10_of 44 = .ok (.aload_n 0, 1) := by decide +kernel
theorem dX10_of_45 : decode cX10_of 45 = .ok (.iload_n 1, 1) := by decide +kernel
theorem dX10_of_46 : decode cX10_of 46 = .ok (.invokevirtual 84, 3) := by decide +kernel
theorem dX10_of_49 : decode cX10_of 49 = .ok (.goto 8, 3) := by decide +kernel
theorem dX10_of_52 : decode cX10_of 52 = .ok (.aload_n 0, 1) := by decide +kernel
theorem dX10_of_53 : decode cX10_of 53 = .ok (.iload_n 1, 1) := by decide +kernel
theorem dX10_of_54 : decode cX10_of 54 = .ok (.invokevirtual 87, 3) := by decide +kernel
theorem dX10_of_57 : decode cX10_of 57 = .ok (.ireturn, 1) := by decide +kernel
theorem dX10_by_0 : decode cX10_by 0 = .ok (.aload_n 0, 1) := by decide +kernel
theorem dX10_by_1 : decode cX10_by 1 = .ok (.iload_n 1, 1) := by decide +kernel
theorem dX10_by_2 : decode cX10_by 2 = .ok (.invokevirtual 81, 3) := by decide +kernel
theorem dX10_by_5 : decode cX10_by 5 = .ok (.ifCond .eq 20, 3) := by decide +kernel
theorem dX10_by_8 : decode cX10_by 8 = .ok (.iload_n 2, 1) := by decide +kernel
theorem dX10_by_9 : decode cX10_by 9 = .ok (.invokestatic 49, 3) := by decide +kernel
theorem dX10_by_12 : decode cX10_by 12 = .ok (.ifCond .eq 13, 3) := by decide +kernel
theorem dX10_by_15 : decode cX10_by 15 = .ok (.iload_n 3, 1) := by decide +kernel
theorem dX10_by_16 : decode cX10_by 16 = .ok (.i2l, 1) := by decide +kernel
theorem dX10_by_17 : decode cX10_by 17 = .ok (.iconst 0, 1) := by decide +kernel
theorem dX10_by_18 : decode cX10_by 18 = .ok (.iconst 1, 1) := by decide +kernel
theorem dX10_by_19 : decode cX10_by 19 = .ok (.invokestatic 41, 3) := by decide +kernel
theorem dX10_by_22 : decode cX10_by 22 = .ok (.ifCond .ne 10, 3) := by decide +kernel
theorem dX10_by_25 : decode cX10_by 25 = .ok (.aload_n 0, 1) := by decide +kernel
theorem dX10_by_26 : decode cX10_by 26 = .ok (.ldc 35, 2) := by decide +kernel
theorem dX10_by_28 : decode cX10_by 28 = .ok (.invokevirtual 37, 3) := by decide +kernel
theorem dX10_by_31 : decode cX10_by 31 = .ok (.ireturn, 1) := by decide +kernel
theorem dX10_by_32 : decode cX10_by 32 = .ok (.iload_n 3, 1) := by decide +kernel
theorem dX10_by_33 : decode cX10_by 33 = .ok (.ifCond .ne 17, 3) := by decide +kernel
theorem dX10_by_36 : decode cX10_by 36 = .ok (.aload_n 0, 1) := by decide +kernel
theorem dX10_by_37 : decode cX10_by 37 = .ok (.iload_n 1, 1) := by decide +kernel
theorem dX10_by_38 : decode cX10_by 38 = .ok (.aload_n 0, 1) := by decide +kernel
theorem dX10_by_39 : decode cX10_by 39 = .ok (.iload_n 2, 1) := by decide +kernel
theorem dX10_by_40 : decode cX10_by 40 = .ok (.iconst 0, 1) := by decide +kernel
theorem dX10_by_41 : decode cX10_by 41 = .ok (.invokevirtual 63, 3) := by decide +kernel
theorem dX10_by_44 : decode cX10_by 44 = .ok (.invokevirtual 90, 3) := by decide +kernel
theorem dX10_by_47 : decode cX10_by 47 = .ok (.goto 14, 3) := by decide +kernel
theorem dX10_by_50 : decode cX10_by 50 = .ok (.aload_n 0, 1) := by decide +kernel
theorem dX10_by_51 : decode cX10_by 51 = .ok (.iload_n 1, 1) := by decide +kernel
theorem dX10_by_52 : decode cX10_by 52 = .ok (.aload_n 0, 1) := by decide +kernel
theorem dX10_by_53 : decode cX10_by 53 = .ok (.iload_n 2, 1) := by decide +kernel
theorem dX10_by_54 : decode cX10_by 54 = .ok (.iconst 0, 1) := by decide +kernel
theorem dX10_by_55 : decode cX10_by 55 = .ok (.invokevirtual 63, 3) := by decide +kernel
theorem dX10_by_58 : decode cX10_by 58 = .ok (.invokevirtual 93, 3) := by decide +kernel
theorem dX10_by_61 : decode cX10_by 61 = .ok (.ireturn, 1) := by decide +kernel
theorem dX10_set_0 : decode cX10_set 0 = .ok (.aload_n 0, 1) := by decide +kernel
theorem dX10_set_1 : decode cX10_set 1 = .ok (.iload_n 1, 1) := by decide +kernel
theorem dX10_set_2 : decode cX10_set 2 = .ok (.invokevirtual 81, 3) := by decide +kernel
theorem dX10_set_5 : decode cX10_set 5 = .ok (.ifCond .eq 57, 3) := by decide +kernel
theorem dX10_set_8 : decode cX10_set 8 = .ok (.iload_n 2, 1) := by decide +kernel
theorem dX10_set_9 : decode cX10_set 9 = .ok (.i2l, 1) := by decide +kernel
theorem dX10_set_10 : decode cX10_set 10 = .ok (.iconst 1, 1) := by decide +kernel
theorem dX10_set_11 : decode cX10_set 11 = .ok (.iconst 3, 1) := by decide +kernel
theorem dX10_set_12 : decode cX10_set 12 = .ok (.invokestatic 41, 3) := by decide +kernel
theorem dX10_set_15 : decode cX10_set 15 = .ok (.ifCond .eq 47, 3) := by decide +kernel
theorem dX10_set_18 : decode cX10_set 18 = .ok (.iload_n 3, 1) := by decide +kernel
theorem dX10_set_19 : decode cX10_set 19 = .ok (.i2l, 1) := by decide +kernel
theorem dX10_set_20 : decode cX10_set 20 = .ok (.iload_n 2, 1) := by decide +kernel
theorem dX10_set_21 : decode cX10_set 21 = .ok (.iconst 2, 1) := by decide +kernel
theorem dX10_set_22 : decode cX10_set 22 = .ok (.if_icmp .ne 7, 3) := by decide +kernel
theorem dX10_set_25 : decode cX10_set 25 = .ok (.iconst (-1), 1) := by decide +kernel
theorem dX10_set_26 : decode cX10_set 26 = .ok (.goto 4, 3) := by decide +kernel
theorem dX10_set_29 : decode cX10_set 29 = .ok (.iconst 0, 1) := by decide +kernel
theorem dX10_set_30 : decode cX10_set 30 = .ok (.iload_n 2, 1) := by decide +kernel
theorem dX10_set_31 : decode cX10_set 31 = .ok (.iconst 1, 1) := by decide +kernel
theorem dX10_set_32 : decode cX10_set 32 = .ok (.if_icmp .ne 8, 3) := by decide +kernel
theorem dX10_set_35 : decode cX10_set 35 = .ok (.bipush 100, 2) := by decide +kernel
theorem dX10_set_37 : decode cX10_set 37 = .ok (.goto 15, 3) := by decide +kernel
theorem dX10_set_40 : decode cX10_set 40 = .ok (.iload_n 2, 1) := by decide +kernel
theorem dX10_set_41 : decode cX10_set 41 = .ok (.iconst 2, 1) := by decide +kernel
theorem dX10_set_42 : decode cX10_set 42 = .ok (.if_icmp .ne 7, 3) := by decide +kernel
theorem dX10_set_45 : decode cX10_set 45 = .ok (.iconst 5, 1) := by decide +kernel
theorem dX10_set_46 : decode cX10_set 46 = .ok (.goto 6, 3) := by decide +kernel
theorem dX10_set_49 : decode cX10_set 49 = .ok (.sipush 999, 3) := by decide +kernel
theorem dX10_set_52 : decode cX10_set 52 = .ok (.invokestatic 41, 3) := by decide +kernel
theorem dX10_set_55 : decode cX10_set 55 = .ok (.ifCond .eq 7, 3) := by decide +kernel
theorem dX10_set_58 : decode cX10_set 58 = .ok (.iconst 1, 1) := by decide +kernel
theorem dX10_set_59 : decode cX10_set 59 = .ok (.goto 4, 3) := by decide +kernel
theorem dX10_set_62 : decode cX10_set 62 = .ok (.iconst 0, 1) := by decide +kernel
theorem dX10_set_63 : decode cX10_set 63 = .ok (.istore 4, 2) := by decide +kernel
theorem dX10_set_65 : decode cX10_set 65 = .ok (.iload 4, 2) := by decide +kernel
theorem dX10_set_67 : decode cX10_set 67 = .ok (.ifCond .eq 19, 3) := by decide +kernel
theorem dX10_set_70 : decode cX10_set 70 = .ok (.aload_n 0, 1) := by decide +kernel
theorem dX10_set_71 : decode cX10_set 71 = .ok (.bipush 20, 2) := by decide +kernel
theorem dX10_set_73 : decode cX10_set 73 = .ok (.iconst 4, 1) := by decide +kernel
theorem dX10_set_74 : decode cX10_set 74 = .ok (.iload_n 1, 1) := by decide +kernel
theorem dX10_set_75 : decode cX10_set 75 = .ok (.imul, 1) := by decide +kernel
theorem dX10_set_76 : decode cX10_set 76 = .ok (.iadd, 1) := by decide +kernel
theorem dX10_set_77 : decode cX10_set 77 = .ok (.iload_n 2, 1) := by decide +kernel
theorem dX10_set_78 : decode cX10_set 78 = .ok (.iadd, 1) := by decide +kernel
theorem dX10_set_79 : decode cX10_set 79 = .ok (.iload_n 3, 1) := by decide +kernel
theorem dX10_set_80 : decode cX10_set 80 = .ok (.invokevirtual 57, 3) := by decide +kernel
theorem dX10_set_83 : decode cX10_set 83 = .ok (.goto 9, 3) := by decide +kernel
theorem dX10_set_86 : decode cX10_set 86 = .ok (.aload_n 0, 1) := by decide +kernel
theorem dX10_set_87 : decode cX10_set 87 = .ok (.ldc 35, 2) := by decide +kernel
theorem dX10_set_89 : decode cX10_set 89 = .ok (.invokevirtual 37, 3) := by decide +kernel
theorem dX10_set_92 : decode cX10_set 92 = .ok (.ireturn, 1) := by decide +kernel
theorem dX10_turn_0 : decode cX10_turn 0 = .ok (.aload_n 0, 1) := by decide +kernel
theorem dX10_turn_1 : decode cX10_turn 1 = .ok (.iload_n 1, 1) := by decide +kernel
theorem dX10_turn_2 : decode cX10_turn 2 = .ok (.invokevirtual 81, 3) := by decide +kernel
theorem dX10_turn_5 : decode cX10_turn 5 = .ok (.ifCond .eq 27, 3) := by decide +kernel
theorem dX10_turn_8 : decode cX10_turn 8 = .ok (.iload_n 2, 1) := by decide +kernel
theorem dX10_turn_9 : decode cX10_turn 9 = .ok (.i2l, 1) := by decide +kernel
theorem dX10_turn_10 : decode cX10_turn 10 = .ok (.iconst 0, 1) := by decide +kernel
theorem dX10_turn_11 : decode cX10_turn 11 = .ok (.iconst 5, 1) := by decide +kernel
theorem dX10_turn_12 : decode cX10_turn 12 = .ok (.invokestatic 41, 3) := by decide +kernel
theorem dX10_turn_15 : decode cX10_turn 15 = .ok (.ifCond .eq 17, 3) := by decide +kernel
theorem dX10_turn_18 : decode cX10_turn 18 = .ok (.aload_n 0, 1) := by decide +kernel
theorem dX10_turn_19 : decode cX10_turn 19 = .ok (.bipush 20, 2) := by decide +kernel
theorem dX10_turn_21 : decode cX10_turn 21 = .ok (.iconst 4, 1) := by decide +kernel
theorem dX10_turn_22 : decode cX10_turn 22 = .ok (.iload_n 1, 1) := by decide +kernel
theorem dX10_turn_23 : decode cX10_turn 23 = .ok (.imul, 1) := by decide +kernel
theorem dX10_turn_24 : decode cX10_turn 24 = .ok (.iadd, 1) := by decide +kernel
theorem dX10_turn_25 : decode cX10_turn 25 = .ok (.iload_n 2, 1) := by decide +kernel
theorem dX10_turn_26 : decode cX10_turn 26 = .ok (.invokevirtual 57, 3) := by decide +kernel
theorem dX10_turn_29 : decode cX10_turn 29 = .ok (.goto 9, 3) := by decide +kernel
theorem dX10_turn_32 : decode cX10_turn 32 = .ok (.aload_n 0, 1) := by decide +kernel
theorem dX10_turn_33 : decode cX10_turn 33 = .ok (.ldc 35, 2) := by decide +kernel
theorem dX10_turn_35 : decode cX10_turn 35 = .ok (.invokevirtual 37, 3) := by decide +kernel
theorem dX10_turn_38 : decode cX10_turn 38 = .ok (.ireturn, 1) := by decide +kernel
theorem dX10_as_0 : decode cX10_as 0 = .ok (.aload_n 0, 1) := by decide +kernel
theorem dX10_as_1 : decode cX10_as 1 = .ok (.iload_n 1, 1) := by decide +kernel
theorem dX10_as_2 : decode cX10_as 2 = .ok (.invokevirtual 81, 3) := by decide +kernel
theorem dX10_as_5 : decode cX10_as 5 = .ok (.ifCond .eq 13, 3) := by decide +kernel
theorem dX10_as_8 : decode cX10_as 8 = .ok (.iload_n 2, 1) := by decide +kernel
theorem dX10_as_9 : decode cX10_as 9 = .ok (.i2l, 1) := by decide +kernel
theorem dX10_as_10 : decode cX10_as 10 = .ok (.iconst 0, 1) := by decide +kernel
theorem dX10_as_11 : decode cX10_as 11 = .ok (.iconst 5, 1) := by decide +kernel
theorem dX10_as_12 : decode cX10_as 12 = .ok (.invokestatic 41, 3) := by decide +kernel
theorem dX10_as_15 : decode cX10_as 15 = .ok (.ifCond .ne 10, 3) := by decide +kernel
theorem dX10_as_18 : decode cX10_as 18 = .ok (.aload_n 0, 1) := by decide +kernel
theorem dX10_as_19 : decode cX10_as 19 = .ok (.ldc 35, 2) := by decide +kernel
theorem dX10_as_21 : decode cX10_as 21 = .ok (.invokevirtual 37, 3) := by decide +kernel
theorem dX10_as_24 : decode cX10_as 24 = .ok (.ireturn, 1) := by decide +kernel
theorem dX10_as_25 : decode cX10_as 25 = .ok (.aload_n 0, 1) := by decide +kernel
theorem dX10_as_26 : decode cX10_as 26 = .ok (.iload_n 1, 1) := by decide +kernel
theorem dX10_as_27 : decode cX10_as 27 = .ok (.iconst 0, 1) := by decide +kernel
theorem dX10_as_28 : decode cX10_as 28 = .ok (.invokevirtual 45, 3) := by decide +kernel
theorem dX10_as_31 : decode cX10_as 31 = .ok (.istore_n 3, 1) := by decide +kernel
theorem dX10_as_32 : decode cX10_as 32 = .ok (.iload_n 2, 1) := by decide +kernel
theorem dX10_as_33 : decode cX10_as 33 = .ok (.ifCond .eq 28, 3) := by decide +kernel
theorem dX10_as_36 : decode cX10_as 36 = .ok (.iload_n 2, 1) := by decide +kernel
theorem dX10_as_37 : decode cX10_as 37 = .ok (.iload_n 3, 1) := by decide +kernel
theorem dX10_as_38 : decode cX10_as 38 = .ok (.if_icmp .eq 23, 3) := by decide +kernel
theorem dX10_as_41 : decode cX10_as 41 = .ok (.iload_n 2, 1) := by decide +kernel
theorem dX10_as_42 : decode cX10_as 42 = .ok (.iconst 1, 1) := by decide +kernel
theorem dX10_as_43 : decode cX10_as 43 = .ok (.if_icmp .ne 8, 3) := by decide +kernel
theorem dX10_as_46 : decode cX10_as 46 = .ok (.iload_n 3, 1) := by decide +kernel
theorem dX10_as_47 : decode cX10_as 47 = .ok (.iconst 4, 1) := by decide +kernel
theorem dX10_as_48 : decode cX10_as 48 = .ok (.if_icmp .eq 13, 3) := by decide +kernel
theorem dX10_as_51 : decode cX10_as 51 = .ok (.iload_n 2, 1) := by decide +kernel
theorem dX10_as_52 : decode cX10_as 52 = .ok (.iconst 2, 1) := by decide +kernel
theorem dX10_as_53 : decode cX10_as 53 = .ok (.if_icmp .ne 12, 3) := by decide +kernel
theorem dX10_as_56 : decode cX10_as 56 = .ok (.iload_n 3, 1) := by decide +kernel
theorem dX10_as_57 : decode cX10_as 57 = .ok (.iconst 5, 1) := by decide +kernel
theorem dX10_as_58 : decode cX10_as 58 = .ok (.if_icmp .ne 7, 3) := by decide +kernel
theorem dX10_as_61 : decode cX10_as 61 = .ok (.iconst 1, 1) := by decide +kernel
theorem dX10_as_62 : decode cX10_as 62 = .ok (.goto 4, 3) := by decide +kernel
theorem dX10_as_65 : decode cX10_as 65 = .ok (.iconst 0, 1) := by decide +kernel
theorem dX10_as_66 : decode cX10_as 66 = .ok (.istore 4, 2) := by decide +kernel
theorem dX10_as_68 : decode cX10_as 68 = .ok (.iload 4, 2) := by decide +kernel
theorem dX10_as_70 : decode cX10_as 70 = .ok (.ifCond .eq 12, 3) := by decide +kernel
theorem dX10_as_73 : decode cX10_as 73 = .ok (.aload_n 0, 1) := by decide +kernel
theorem dX10_as_74 : decode cX10_as 74 = .ok (.iload_n 1, 1) := by decide +kernel
theorem dX10_as_75 : decode cX10_as 75 = .ok (.iconst 1, 1) := by decide +kernel
theorem dX10_as_76 : decode cX10_as 76 = .ok (.invokevirtual 45, 3) := by decide +kernel
theorem dX10_as_79 : decode cX10_as 79 = .ok (.goto 9, 3) := by decide +kernel
theorem dX10_as_82 : decode cX10_as 82 = .ok (.aload_n 0, 1) := by decide +kernel
theorem dX10_as_83 : decode cX10_as 83 = .ok (.ldc 96, 2) := by decide +kernel
theorem dX10_as_85 : decode cX10_as 85 = .ok (.invokevirtual 37, 3) := by decide +kernel
theorem dX10_as_88 : decode cX10_as 88 = .ok (.ireturn, 1) := by decide +kernel
theorem dX10_canLeave_0 : decode cX10_canLeave 0 = .ok (.aload_n 0, 1) := by decide +kernel
theorem dX10_canLeave_1 : decode cX10_canLeave 1 = .ok (.iload_n 1, 1) := by decide +kernel
theorem dX10_canLeave_2 : decode cX10_canLeave 2 = .ok (.iconst 2, 1) := by decide +kernel
theorem dX10_canLeave_3 : decode cX10_canLeave 3 = .ok (.invokevirtual 45, 3) := by decide +kernel
theorem dX10_canLeave_6 : decode cX10_canLeave 6 = .ok (.ifCond .lt 15, 3) := by decide +kernel
theorem dX10_canLeave_9 : decode cX10_canLeave 9 = .ok (.aload_n 0, 1) := by decide +kernel
theorem dX10_canLeave_10 : decode cX10_canLeave 10 = .ok (.iload_n 1, 1) := by decide +kernel
theorem dX10_canLeave_11 : decode cX10_canLeave 11 = .ok (.invokevirtual 60, 3) := by decide +kernel
theorem dX10_canLeave_14 : decode cX10_canLeave 14 = .ok (.ifCond .ne 7, 3) := by decide +kernel
theorem dX10_canLeave_17 : decode cX10_canLeave 17 = .ok (.iconst 1, 1) := by decide +kernel
theorem dX10_canLeave_18 : decode cX10_canLeave 18 = .ok (.goto 4, 3) := by decide +kernel
theorem dX10_canLeave_21 : decode cX10_canLeave 21 = .ok (.iconst 0, 1) := by decide +kernel
theorem dX10_canLeave_22 : decode cX10_canLeave 22 = .ok (.ireturn, 1) := by decide +kernel
theorem dX10_leaves_0 : decode cX10_leaves 0 = .ok (.aload_n 0, 1) := by decide +kernel
theorem dX10_leaves_1 : decode cX10_leaves 1 = .ok (.iload_n 1, 1) := by decide +kernel
theorem dX10_leaves_2 : decode cX10_leaves 2 = .ok (.iconst 2, 1) := by decide +kernel
theorem dX10_leaves_3 : decode cX10_leaves 3 = .ok (.invokevirtual 45, 3) := by decide +kernel
theorem dX10_leaves_6 : decode cX10_leaves 6 = .ok (.istore_n 2, 1) := by decide +kernel
theorem dX10_leaves_7 : decode cX10_leaves 7 = .ok (.aload_n 0, 1) := by decide +kernel
theorem dX10_leaves_8 : decode cX10_leaves 8 = .ok (.iload_n 1, 1) := by decide +kernel
theorem dX10_leaves_9 : decode cX10_leaves 9 = .ok (.iconst 2, 1) := by decide +kernel
theorem dX10_leaves_10 : decode cX10_leaves 10 = .ok (.iconst (-1), 1) := by decide +kernel
theorem dX10_leaves_11 : decode cX10_leaves 11 = .ok (.invokevirtual 72, 3) := by decide +kernel
theorem dX10_leaves_14 : decode cX10_leaves 14 = .ok (.aload_n 0, 1) := by decide +kernel
theorem dX10_leaves_15 : decode cX10_leaves 15 = .ok (.iload_n 1, 1) := by decide +kernel
theorem dX10_leaves_16 : decode cX10_leaves 16 = .ok (.iconst 3, 1) := by decide +kernel
theorem dX10_leaves_17 : decode cX10_leaves 17 = .ok (.iconst 0, 1) := by decide +kernel
theorem dX10_leaves_18 : decode cX10_leaves 18 = .ok (.invokevirtual 72, 3) := by decide +kernel
theorem dX10_leaves_21 : decode cX10_leaves 21 = .ok (.aload_n 0, 1) := by decide +kernel
theorem dX10_leaves_22 : decode cX10_leaves 22 = .ok (.iload_n 2, 1) := by decide +kernel
theorem dX10_leaves_23 : decode cX10_leaves 23 = .ok (.iconst 1, 1) := by decide +kernel
theorem dX10_leaves_24 : decode cX10_leaves 24 = .ok (.iconst 4, 1) := by decide +kernel
theorem dX10_leaves_25 : decode cX10_leaves 25 = .ok (.invokevirtual 97, 3) := by decide +kernel
theorem dX10_leaves_28 : decode cX10_leaves 28 = .ok (.iload_n 2, 1) := by decide +kernel
theorem dX10_leaves_29 : decode cX10_leaves 29 = .ok (.ireturn, 1) := by decide +kernel
theorem dX10_leave_0 : decode cX10_leave 0 = .ok (.aload_n 0, 1) := by decide +kernel
theorem dX10_leave_1 : decode cX10_leave 1 = .ok (.iload_n 1, 1) := by decide +kernel
theorem dX10_leave_2 : decode cX10_leave 2 = .ok (.invokevirtual 81, 3) := by decide +kernel
theorem dX10_leave_5 : decode cX10_leave 5 = .ok (.ifCond .ne 10, 3) := by decide +kernel
theorem dX10_leave_8 : decode cX10_leave 8 = .ok (.aload_n 0, 1) := by decide +kernel
theorem dX10_leave_9 : decode cX10_leave 9 = .ok (.ldc 35, 2) := by decide +kernel
theorem dX10_leave_11 : decode cX10_leave 11 = .ok (.invokevirtual 37, 3) := by decide +kernel
theorem dX10_leave_14 : decode cX10_leave 14 = .ok (.ireturn, 1) := by decide +kernel
theorem dX10_leave_15 : decode cX10_leave 15 = .ok (.aload_n 0, 1) := by decide +kernel
theorem dX10_leave_16 : decode cX10_leave 16 = .ok (.iload_n 1, 1) := by decide +kernel
theorem dX10_leave_17 : decode cX10_leave 17 = .ok (.invokevirtual 100, 3) := by decide +kernel
theorem dX10_leave_20 : decode cX10_leave 20 = .ok (.ifCond .eq 11, 3) := by decide +kernel
theorem dX10_leave_23 : decode cX10_leave 23 = .ok (.aload_n 0, 1) := by decide +kernel
theorem dX10_leave_24 : decode cX10_leave 24 = .ok (.iload_n 1, 1) := by decide +kernel
theorem dX10_leave_25 : decode cX10_leave 25 = .ok (.invokevirtual 103, 3) := by decide +kernel
theorem dX10_leave_28 : decode cX10_leave 28 = .ok (.goto 9, 3) := by decide +kernel
theorem dX10_leave_31 : decode cX10_leave 31 = .ok (.aload_n 0, 1) := by decide +kernel
theorem dX10_leave_32 : decode cX10_leave 32 = .ok (.ldc 106, 2) := by decide +kernel
theorem dX10_leave_34 : decode cX10_leave 34 = .ok (.invokevirtual 37, 3) := by decide +kernel
theorem dX10_leave_37 : decode cX10_leave 37 = .ok (.ireturn, 1) := by decide +kernel
theorem dX10_winner_0 : decode cX10_winner 0 = .ok (.iconst (-1), 1) := by decide +kernel
theorem dX10_winner_1 : decode cX10_winner 1 = .ok (.istore_n 2, 1) := by decide +kernel
theorem dX10_winner_2 : decode cX10_winner 2 = .ok (.iconst 0, 1) := by decide +kernel
theorem dX10_winner_3 : decode cX10_winner 3 = .ok (.istore_n 3, 1) := by decide +kernel
theorem dX10_winner_4 : decode cX10_winner 4 = .ok (.iconst 0, 1) := by decide +kernel
theorem dX10_winner_5 : decode cX10_winner 5 = .ok (.istore 4, 2) := by decide +kernel
theorem dX10_winner_7 : decode cX10_winner 7 = .ok (.iload 4, 2) := by decide +kernel
theorem dX10_winner_9 : decode cX10_winner 9 = .ok (.bipush 6, 2) := by decide +kernel
theorem dX10_winner_11 : decode cX10_winner 11 = .ok (.if_icmp .ge 74, 3) := by decide +kernel
theorem dX10_winner_14 : decode cX10_winner 14 = .ok (.aload_n 0, 1) := by decide +kernel
theorem dX10_winner_15 : decode cX10_winner 15 = .ok (.iload_n 1, 1) := by decide +kernel
theorem dX10_winner_16 : decode cX10_winner 16 = .ok (.aload_n 0, 1) := by decide +kernel
theorem dX10_winner_17 : decode cX10_winner 17 = .ok (.iload 4, 2) := by decide +kernel
theorem dX10_winner_19 : decode cX10_winner 19 = .ok (.iconst 0, 1) := by decide +kernel
theorem dX10_winner_20 : decode cX10_winner 20 = .ok (.invokevirtual 63, 3) := by decide +kernel
theorem dX10_winner_23 : decode cX10_winner 23 = .ok (.invokevirtual 93, 3) := by decide +kernel
theorem dX10_winner_26 : decode cX10_winner 26 = .ok (.istore 5, 2) := by decide +kernel
theorem dX10_winner_28 : decode cX10_winner 28 = .ok (.aload_n 0, 1) := by decide +kernel
theorem dX10_winner_29 : decode cX10_winner 29 = .ok (.iload 4, 2) := by decide +kernel
theorem dX10_winner_31 : decode cX10_winner 31 = .ok (.invokevirtual 69, 3) := by decide +kernel
theorem dX10_winner_34 : decode cX10_winner 34 = .ok (.iconst 2, 1) := by decide +kernel
theorem dX10_winner_35 : decode cX10_winner 35 = .ok (.if_icmp .ge 17, 3) := by decide +kernel
theorem dX10_winner_38 : decode cX10_winner 38 = .ok (.iload_n 2, 1) := by decide +kernel
theorem dX10_winner_39 : decode cX10_winner 39 = .ok (.ifCond .lt 9, 3) := by decide +kernel
theorem dX10_winner_42 : decode cX10_winner 42 = .ok (.iload 5, 2) := by decide +kernel
theorem dX10_winner_44 : decode cX10_winner 44 = .ok (.iload_n 3, 1) := by decide +kernel
theorem dX10_winner_45 : decode cX10_winner 45 = .ok (.if_icmp .le 7, 3) := by decide +kernel
theorem dX10_winner_48 : decode cX10_winner 48 = .ok (.iconst 1, 1) := by decide +kernel
theorem dX10_winner_49 : decode cX10_winner 49 = .ok (.goto 4, 3) := by decide +kernel
theorem dX10_winner_52 : decode cX10_winner 52 = .ok (.iconst 0, 1) := by decide +kernel
theorem dX10_winner_53 : decode cX10_winner 53 = .ok (.istore 6, 2) := by decide +kernel
theorem dX10_winner_55 : decode cX10_winner 55 = .ok (.iload 6, 2) := by decide +kernel
theorem dX10_winner_57 : decode cX10_winner 57 = .ok (.ifCond .eq 8, 3) := by decide +kernel
theorem dX10_winner_60 : decode cX10_winner 60 = .ok (.iload 4, 2) := by decide +kernel
theorem dX10_winner_62 : decode cX10_winner 62 = .ok (.goto 4, 3) := by decide +kernel
theorem dX10_winner_65 : decode cX10_winner 65 = .ok (.iload_n 2, 1) := by decide +kernel
theorem dX10_winner_66 : decode cX10_winner 66 = .ok (.istore_n 2, 1) := by decide +kernel
theorem dX10_winner_67 : decode cX10_winner 67 = .ok (.iload 6, 2) := by decide +kernel
theorem dX10_winner_69 : decode cX10_winner 69 = .ok (.ifCond .eq 8, 3) := by decide +kernel
theorem dX10_winner_72 : decode cX10_winner 72 = .ok (.iload 5, 2) := by decide +kernel
theorem dX10_winner_74 : decode cX10_winner 74 = .ok (.goto 4, 3) := by decide +kernel
theorem dX10_winner_77 : decode cX10_winner 77 = .ok (.iload_n 3, 1) := by decide +kernel
theorem dX10_winner_78 : decode cX10_winner 78 = .ok (.istore_n 3, 1) := by decide +kernel
theorem dX10_winner_79 : decode cX10_winner 79 = .ok (.iinc 4 1, 3) := by decide +kernel
theorem dX10_winner_82 : decode cX10_winner 82 = .ok (.goto (-75), 3) := by decide +kernel
theorem dX10_winner_85 : decode cX10_winner 85 = .ok (.iload_n 2, 1) := by decide +kernel
theorem dX10_winner_86 : decode cX10_winner 86 = .ok (.ifCond .lt 16, 3) := by decide +kernel
theorem dX10_winner_89 : decode cX10_winner 89 = .ok (.iload_n 3, 1) := by decide +kernel
theorem dX10_winner_90 : decode cX10_winner 90 = .ok (.aload_n 0, 1) := by decide +kernel
theorem dX10_winner_91 : decode cX10_winner 91 = .ok (.iload_n 1, 1) := by decide +kernel
theorem dX10_winner_92 : decode cX10_winner 92 = .ok (.invokevirtual 87, 3) := by decide +kernel
theorem dX10_winner_95 : decode cX10_winner 95 = .ok (.if_icmp .lt 7, 3) := by decide +kernel
theorem dX10_winner_98 : decode cX10_winner 98 = .ok (.iload_n 2, 1) := by decide +kernel
theorem dX10_winner_99 : decode cX10_winner 99 = .ok (.goto 4, 3) := by decide +kernel
theorem dX10_winner_102 : decode cX10_winner 102 = .ok (.iconst (-1), 1) := by decide +kernel
theorem dX10_winner_103 : decode cX10_winner 103 = .ok (.ireturn, 1) := by decide +kernel
theorem dX10_goesTo_0 : decode cX10_goesTo 0 = .ok (.aload_n 0, 1) := by decide +kernel
theorem dX10_goesTo_1 : decode cX10_goesTo 1 = .ok (.iload_n 1, 1) := by decide +kernel
theorem dX10_goesTo_2 : decode cX10_goesTo 2 = .ok (.invokevirtual 81, 3) := by decide +kernel
theorem dX10_goesTo_5 : decode cX10_goesTo 5 = .ok (.ifCond .ne 10, 3) := by decide +kernel
theorem dX10_goesTo_8 : decode cX10_goesTo 8 = .ok (.aload_n 0, 1) := by decide +kernel
theorem dX10_goesTo_9 : decode cX10_goesTo 9 = .ok (.ldc 35, 2) := by decide +kernel
theorem dX10_goesTo_11 : decode cX10_goesTo 11 = .ok (.invokevirtual 37, 3) := by decide +kernel
theorem dX10_goesTo_14 : decode cX10_goesTo 14 = .ok (.ireturn, 1) := by decide +kernel
theorem dX10_goesTo_15 : decode cX10_goesTo 15 = .ok (.aload_n 0, 1) := by decide +kernel
theorem dX10_goesTo_16 : decode cX10_goesTo 16 = .ok (.iload_n 1, 1) := by decide +kernel
theorem dX10_goesTo_17 : decode cX10_goesTo 17 = .ok (.iconst 2, 1) := by decide +kernel
theorem dX10_goesTo_18 : decode cX10_goesTo 18 = .ok (.invokevirtual 45, 3) := by decide +kernel
theorem dX10_goesTo_21 : decode cX10_goesTo 21 = .ok (.ifCond .ge 11, 3) := by decide +kernel
theorem dX10_goesTo_24 : decode cX10_goesTo 24 = .ok (.aload_n 0, 1) := by decide +kernel
theorem dX10_goesTo_25 : decode cX10_goesTo 25 = .ok (.iload_n 1, 1) := by decide +kernel
theorem dX10_goesTo_26 : decode cX10_goesTo 26 = .ok (.invokevirtual 60, 3) := by decide +kernel
theorem dX10_goesTo_29 : decode cX10_goesTo 29 = .ok (.ifCond .eq 12, 3) := by decide +kernel
theorem dX10_goesTo_32 : decode cX10_goesTo 32 = .ok (.aload_n 0, 1) := by decide +kernel
theorem dX10_goesTo_33 : decode cX10_goesTo 33 = .ok (.ldc 106, 2) := by decide +kernel
theorem dX10_goesTo_35 : decode cX10_goesTo 35 = .ok (.invokevirtual 37, 3) := by decide +kernel
theorem dX10_goesTo_38 : decode cX10_goesTo 38 = .ok (.goto 12, 3) := by decide +kernel
theorem dX10_goesTo_41 : decode cX10_goesTo 41 = .ok (.aload_n 0, 1) := by decide +kernel
theorem dX10_goesTo_42 : decode cX10_goesTo 42 = .ok (.aload_n 0, 1) := by decide +kernel
theorem dX10_goesTo_43 : decode cX10_goesTo 43 = .ok (.iload_n 1, 1) := by decide +kernel
theorem dX10_goesTo_44 : decode cX10_goesTo 44 = .ok (.invokevirtual 107, 3) := by decide +kernel
theorem dX10_goesTo_47 : decode cX10_goesTo 47 = .ok (.invokevirtual 110, 3) := by decide +kernel
theorem dX10_goesTo_50 : decode cX10_goesTo 50 = .ok (.ireturn, 1) := by decide +kernel
theorem dX10_worksOn_0 : decode cX10_worksOn 0 = .ok (.aload_n 0, 1) := by decide +kernel
theorem dX10_worksOn_1 : decode cX10_worksOn 1 = .ok (.iload_n 1, 1) := by decide +kernel
theorem dX10_worksOn_2 : decode cX10_worksOn 2 = .ok (.iconst 2, 1) := by decide +kernel
theorem dX10_worksOn_3 : decode cX10_worksOn 3 = .ok (.invokevirtual 45, 3) := by decide +kernel
theorem dX10_worksOn_6 : decode cX10_worksOn 6 = .ok (.istore_n 2, 1) := by decide +kernel
theorem dX10_worksOn_7 : decode cX10_worksOn 7 = .ok (.aload_n 0, 1) := by decide +kernel
theorem dX10_worksOn_8 : decode cX10_worksOn 8 = .ok (.iload_n 1, 1) := by decide +kernel
theorem dX10_worksOn_9 : decode cX10_worksOn 9 = .ok (.iconst 1, 1) := by decide +kernel
theorem dX10_worksOn_10 : decode cX10_worksOn 10 = .ok (.aload_n 0, 1) := by decide +kernel
theorem dX10_worksOn_11 : decode cX10_worksOn 11 = .ok (.iload_n 1, 1) := by decide +kernel
theorem dX10_worksOn_12 : decode cX10_worksOn 12 = .ok (.iconst 1, 1) := by decide +kernel
theorem dX10_worksOn_13 : decode cX10_worksOn 13 = .ok (.invokevirtual 45, 3) := by decide +kernel
theorem dX10_worksOn_16 : decode cX10_worksOn 16 = .ok (.aload_n 0, 1) := by decide +kernel
theorem dX10_worksOn_17 : decode cX10_worksOn 17 = .ok (.iload_n 1, 1) := by decide +kernel
theorem dX10_worksOn_18 : decode cX10_worksOn 18 = .ok (.aload_n 0, 1) := by decide +kernel
theorem dX10_worksOn_19 : decode cX10_worksOn 19 = .ok (.iload_n 2, 1) := by decide +kernel
theorem dX10_worksOn_20 : decode cX10_worksOn 20 = .ok (.iconst 0, 1) := by decide +kernel
theorem dX10_worksOn_21 : decode cX10_worksOn 21 = .ok (.invokevirtual 63, 3) := by decide +kernel
theorem dX10_worksOn_24 : decode cX10_worksOn 24 = .ok (.invokevirtual 90, 3) := by decide +kernel
theorem dX10_worksOn_27 : decode cX10_worksOn 27 = .ok (.iadd, 1) := by decide +kernel
theorem dX10_worksOn_28 : decode cX10_worksOn 28 = .ok (.iconst 0, 1) := by decide +kernel
theorem dX10_worksOn_29 : decode cX10_worksOn 29 = .ok (.bipush 100, 2) := by decide +kernel
theorem dX10_worksOn_31 : decode cX10_worksOn 31 = .ok (.invokestatic 113, 3) := by decide +kernel
theorem dX10_worksOn_34 : decode cX10_worksOn 34 = .ok (.invokevirtual 72, 3) := by decide +kernel
theorem dX10_worksOn_37 : decode cX10_worksOn 37 = .ok (.aload_n 0, 1) := by decide +kernel
theorem dX10_worksOn_38 : decode cX10_worksOn 38 = .ok (.iload_n 1, 1) := by decide +kernel
theorem dX10_worksOn_39 : decode cX10_worksOn 39 = .ok (.invokevirtual 60, 3) := by decide +kernel
theorem dX10_worksOn_42 : decode cX10_worksOn 42 = .ok (.ifCond .eq 45, 3) := by decide +kernel
theorem dX10_worksOn_45 : decode cX10_worksOn 45 = .ok (.aload_n 0, 1) := by decide +kernel
theorem dX10_worksOn_46 : decode cX10_worksOn 46 = .ok (.iload_n 2, 1) := by decide +kernel
theorem dX10_worksOn_47 : decode cX10_worksOn 47 = .ok (.iconst 2, 1) := by decide +kernel
theorem dX10_worksOn_48 : decode cX10_worksOn 48 = .ok (.aload_n 0, 1) := by decide +kernel
theorem dX10_worksOn_49 : decode cX10_worksOn 49 = .ok (.iload_n 2, 1) := by decide +kernel
theorem dX10_worksOn_50 : decode cX10_worksOn 50 = .ok (.iconst 2, 1) := by decide +kernel
theorem dX10_worksOn_51 : decode cX10_worksOn 51 = .ok (.invokevirtual 63, 3) := by decide +kernel
theorem dX10_worksOn_54 : decode cX10_worksOn 54 = .ok (.iconst 1, 1) := by decide +kernel
theorem dX10_worksOn_55 : decode cX10_worksOn 55 = .ok (.iadd, 1) := by decide +kernel
theorem dX10_worksOn_56 : decode cX10_worksOn 56 = .ok (.iconst 0, 1) := by decide +kernel
theorem dX10_worksOn_57 : decode cX10_worksOn 57 = .ok (.sipush 999, 3) := by decide +kernel
theorem dX10_worksOn_60 : decode cX10_worksOn 60 = .ok (.invokestatic 113, 3) := by decide +kernel
theorem dX10_worksOn_63 : decode cX10_worksOn 63 = .ok (.invokevirtual 97, 3) := by decide +kernel
theorem dX10_worksOn_66 : decode cX10_worksOn 66 = .ok (.aload_n 0, 1) := by decide +kernel
theorem dX10_worksOn_67 : decode cX10_worksOn 67 = .ok (.iload_n 2, 1) := by decide +kernel
theorem dX10_worksOn_68 : decode cX10_worksOn 68 = .ok (.iconst 1, 1) := by decide +kernel
theorem dX10_worksOn_69 : decode cX10_worksOn 69 = .ok (.aload_n 0, 1) := by decide +kernel
theorem dX10_worksOn_70 : decode cX10_worksOn 70 = .ok (.iload_n 2, 1) := by decide +kernel
theorem dX10_worksOn_71 : decode cX10_worksOn 71 = .ok (.iconst 1, 1) := by decide +kernel
theorem dX10_worksOn_72 : decode cX10_worksOn 72 = .ok (.invokevirtual 63, 3) := by decide +kernel
theorem dX10_worksOn_75 : decode cX10_worksOn 75 = .ok (.iconst 2, 1) := by decide +kernel
theorem dX10_worksOn_76 : decode cX10_worksOn 76 = .ok (.iadd, 1) := by decide +kernel
theorem dX10_worksOn_77 : decode cX10_worksOn 77 = .ok (.iconst 0, 1) := by decide +kernel
theorem dX10_worksOn_78 : decode cX10_worksOn 78 = .ok (.bipush 9, 2) := by decide +kernel
theorem dX10_worksOn_80 : decode cX10_worksOn 80 = .ok (.invokestatic 113, 3) := by decide +kernel
theorem dX10_worksOn_83 : decode cX10_worksOn 83 = .ok (.invokevirtual 97, 3) := by decide +kernel
theorem dX10_worksOn_86 : decode cX10_worksOn 86 = .ok (.return_, 1) := by decide +kernel
theorem dX10_worksOn_87 : decode cX10_worksOn 87 = .ok (.aload_n 0, 1) := by decide +kernel
theorem dX10_worksOn_88 : decode cX10_worksOn 88 = .ok (.iload_n 2, 1) := by decide +kernel
theorem dX10_worksOn_89 : decode cX10_worksOn 89 = .ok (.iconst 1, 1) := by decide +kernel
theorem dX10_worksOn_90 : decode cX10_worksOn 90 = .ok (.invokevirtual 63, 3) := by decide +kernel
theorem dX10_worksOn_93 : decode cX10_worksOn 93 = .ok (.aload_n 0, 1) := by decide +kernel
theorem dX10_worksOn_94 : decode cX10_worksOn 94 = .ok (.iload_n 1, 1) := by decide +kernel
theorem dX10_worksOn_95 : decode cX10_worksOn 95 = .ok (.invokevirtual 84, 3) := by decide +kernel
theorem dX10_worksOn_98 : decode cX10_worksOn 98 = .ok (.isub, 1) := by decide +kernel
theorem dX10_worksOn_99 : decode cX10_worksOn 99 = .ok (.istore_n 3, 1) := by decide +kernel
theorem dX10_worksOn_100 : decode cX10_worksOn 100 = .ok (.aload_n 0, 1) := by decide +kernel
theorem dX10_worksOn_101 : decode cX10_worksOn 101 = .ok (.iload_n 2, 1) := by decide +kernel
theorem dX10_worksOn_102 : decode cX10_worksOn 102 = .ok (.iconst 1, 1) := by decide +kernel
theorem dX10_worksOn_103 : decode cX10_worksOn 103 = .ok (.iload_n 3, 1) := by decide +kernel
theorem dX10_worksOn_104 : decode cX10_worksOn 104 = .ok (.invokevirtual 97, 3) := by decide +kernel
theorem dX10_worksOn_107 : decode cX10_worksOn 107 = .ok (.iload_n 3, 1) := by decide +kernel
theorem dX10_worksOn_108 : decode cX10_worksOn 108 = .ok (.ifCond .gt 10, 3) := by decide +kernel
theorem dX10_worksOn_111 : decode cX10_worksOn 111 = .ok (.aload_n 0, 1) := by decide +kernel
theorem dX10_worksOn_112 : decode cX10_worksOn 112 = .ok (.iload_n 1, 1) := by decide +kernel
theorem dX10_worksOn_113 : decode cX10_worksOn 113 = .ok (.invokevirtual 103, 3) := by decide +kernel
theorem dX10_worksOn_116 : decode cX10_worksOn 116 = .ok (.istore 4, 2) := by decide +kernel
theorem dX10_worksOn_118 : decode cX10_worksOn 118 = .ok (.return_, 1) := by decide +kernel
theorem dX10_goes_0 : decode cX10_goes 0 = .ok (.iconst 0, 1) := by decide +kernel
theorem dX10_goes_1 : decode cX10_goes 1 = .ok (.istore_n 1, 1) := by decide +kernel
theorem dX10_goes_2 : decode cX10_goes 2 = .ok (.iload_n 1, 1) := by decide +kernel
theorem dX10_goes_3 : decode cX10_goes 3 = .ok (.aload_n 0, 1) := by decide +kernel
theorem dX10_goes_4 : decode cX10_goes 4 = .ok (.getfield 9, 3) := by decide +kernel
theorem dX10_goes_7 : decode cX10_goes 7 = .ok (.iconst 1, 1) := by decide +kernel
theorem dX10_goes_8 : decode cX10_goes 8 = .ok (.iaload, 1) := by decide +kernel
theorem dX10_goes_9 : decode cX10_goes 9 = .ok (.if_icmp .ge 22, 3) := by decide +kernel
theorem dX10_goes_12 : decode cX10_goes 12 = .ok (.aload_n 0, 1) := by decide +kernel
theorem dX10_goes_13 : decode cX10_goes 13 = .ok (.iload_n 1, 1) := by decide +kernel
theorem dX10_goes_14 : decode cX10_goes 14 = .ok (.invokevirtual 100, 3) := by decide +kernel
theorem dX10_goes_17 : decode cX10_goes 17 = .ok (.ifCond .eq 8, 3) := by decide +kernel
theorem dX10_goes_20 : decode cX10_goes 20 = .ok (.aload_n 0, 1) := by decide +kernel
theorem dX10_goes_21 : decode cX10_goes 21 = .ok (.iload_n 1, 1) := by decide +kernel
theorem dX10_goes_22 : decode cX10_goes 22 = .ok (.invokevirtual 117, 3) := by decide +kernel
theorem dX10_goes_25 : decode cX10_goes 25 = .ok (.iinc 1 1, 3) := by decide +kernel
theorem dX10_goes_28 : decode cX10_goes 28 = .ok (.goto (-26), 3) := by decide +kernel
theorem dX10_goes_31 : decode cX10_goes 31 = .ok (.iconst 0, 1) := by decide +kernel
theorem dX10_goes_32 : decode cX10_goes 32 = .ok (.istore_n 1, 1) := by decide +kernel
theorem dX10_goes_33 : decode cX10_goes 33 = .ok (.iload_n 1, 1) := by decide +kernel
theorem dX10_goes_34 : decode cX10_goes 34 = .ok (.aload_n 0, 1) := by decide +kernel
theorem dX10_goes_35 : decode cX10_goes 35 = .ok (.getfield 9, 3) := by decide +kernel
theorem dX10_goes_38 : decode cX10_goes 38 = .ok (.iconst 1, 1) := by decide +kernel
theorem dX10_goes_39 : decode cX10_goes 39 = .ok (.iaload, 1) := by decide +kernel
theorem dX10_goes_40 : decode cX10_goes 40 = .ok (.if_icmp .ge 58, 3) := by decide +kernel
theorem dX10_goes_43 : decode cX10_goes 43 = .ok (.aload_n 0, 1) := by decide +kernel
theorem dX10_goes_44 : decode cX10_goes 44 = .ok (.iload_n 1, 1) := by decide +kernel
theorem dX10_goes_45 : decode cX10_goes 45 = .ok (.iconst 2, 1) := by decide +kernel
theorem dX10_goes_46 : decode cX10_goes 46 = .ok (.invokevirtual 45, 3) := by decide +kernel
theorem dX10_goes_49 : decode cX10_goes 49 = .ok (.ifCond .ge 43, 3) := by decide +kernel
theorem dX10_goes_52 : decode cX10_goes 52 = .ok (.aload_n 0, 1) := by decide +kernel
theorem dX10_goes_53 : decode cX10_goes 53 = .ok (.iload_n 1, 1) := by decide +kernel
theorem dX10_goes_54 : decode cX10_goes 54 = .ok (.invokevirtual 60, 3) := by decide +kernel
theorem dX10_goes_57 : decode cX10_goes 57 = .ok (.ifCond .ne 35, 3) := by decide +kernel
theorem dX10_goes_60 : decode cX10_goes 60 = .ok (.aload_n 0, 1) := by decide +kernel
theorem dX10_goes_61 : decode cX10_goes 61 = .ok (.iload_n 1, 1) := by decide +kernel
theorem dX10_goes_62 : decode cX10_goes 62 = .ok (.iconst 3, 1) := by decide +kernel
theorem dX10_goes_63 : decode cX10_goes 63 = .ok (.aload_n 0, 1) := by decide +kernel
theorem dX10_goes_64 : decode cX10_goes 64 = .ok (.iload_n 1, 1) := by decide +kernel
theorem dX10_goes_65 : decode cX10_goes 65 = .ok (.iconst 3, 1) := by decide +kernel
theorem dX10_goes_66 : decode cX10_goes 66 = .ok (.invokevirtual 45, 3) := by decide +kernel
theorem dX10_goes_69 : decode cX10_goes 69 = .ok (.iconst 1, 1) := by decide +kernel
theorem dX10_goes_70 : decode cX10_goes 70 = .ok (.iadd, 1) := by decide +kernel
theorem dX10_goes_71 : decode cX10_goes 71 = .ok (.iconst 0, 1) := by decide +kernel
theorem dX10_goes_72 : decode cX10_goes 72 = .ok (.sipush 999, 3) := by decide +kernel
theorem dX10_goes_75 : decode cX10_goes 75 = .ok (.invokestatic 113, 3) := by decide +kernel
theorem dX10_goes_78 : decode cX10_goes 78 = .ok (.invokevirtual 72, 3) := by decide +kernel
theorem dX10_goes_81 : decode cX10_goes 81 = .ok (.aload_n 0, 1) := by decide +kernel
theorem dX10_goes_82 : decode cX10_goes 82 = .ok (.iload_n 1, 1) := by decide +kernel
theorem dX10_goes_83 : decode cX10_goes 83 = .ok (.iconst 2, 1) := by decide +kernel
theorem dX10_goes_84 : decode cX10_goes 84 = .ok (.aload_n 0, 1) := by decide +kernel
theorem dX10_goes_85 : decode cX10_goes 85 = .ok (.iload_n 1, 1) := by decide +kernel
theorem dX10_goes_86 : decode cX10_goes 86 = .ok (.invokevirtual 107, 3) := by decide +kernel
theorem dX10_goes_89 : decode cX10_goes 89 = .ok (.invokevirtual 72, 3) := by decide +kernel
theorem dX10_goes_92 : decode cX10_goes 92 = .ok (.iinc 1 1, 3) := by decide +kernel
theorem dX10_goes_95 : decode cX10_goes 95 = .ok (.goto (-62), 3) := by decide +kernel
theorem dX10_goes_98 : decode cX10_goes 98 = .ok (.aload_n 0, 1) := by decide +kernel
theorem dX10_goes_99 : decode cX10_goes 99 = .ok (.getfield 9, 3) := by decide +kernel
theorem dX10_goes_102 : decode cX10_goes 102 = .ok (.iconst 0, 1) := by decide +kernel
theorem dX10_goes_103 : decode cX10_goes 103 = .ok (.dup2, 1) := by decide +kernel
theorem dX10_goes_104 : decode cX10_goes 104 = .ok (.iaload, 1) := by decide +kernel
theorem dX10_goes_105 : decode cX10_goes 105 = .ok (.iconst 1, 1) := by decide +kernel
theorem dX10_goes_106 : decode cX10_goes 106 = .ok (.iadd, 1) := by decide +kernel
theorem dX10_goes_107 : decode cX10_goes 107 = .ok (.iastore, 1) := by decide +kernel
theorem dX10_goes_108 : decode cX10_goes 108 = .ok (.return_, 1) := by decide +kernel
theorem dX10_goesFor_0 : decode cX10_goesFor 0 = .ok (.iconst 0, 1) := by decide +kernel
theorem dX10_goesFor_1 : decode cX10_goesFor 1 = .ok (.istore_n 2, 1) := by decide +kernel
theorem dX10_goesFor_2 : decode cX10_goesFor 2 = .ok (.iload_n 2, 1) := by decide +kernel
theorem dX10_goesFor_3 : decode cX10_goesFor 3 = .ok (.iload_n 1, 1) := by decide +kernel
theorem dX10_goesFor_4 : decode cX10_goesFor 4 = .ok (.if_icmp .ge 13, 3) := by decide +kernel
theorem dX10_goesFor_7 : decode cX10_goesFor 7 = .ok (.aload_n 0, 1) := by decide +kernel
theorem dX10_goesFor_8 : decode cX10_goesFor 8 = .ok (.invokevirtual 121, 3) := by decide +kernel
theorem dX10_goesFor_11 : decode cX10_goesFor 11 = .ok (.iinc 2 1, 3) := by decide +kernel
theorem dX10_goesFor_14 : decode cX10_goesFor 14 = .ok (.goto (-12), 3) := by decide +kernel
theorem dX10_goesFor_17 : decode cX10_goesFor 17 = .ok (.return_, 1) := by decide +kernel
theorem dX10_doneOnes_0 : decode cX10_doneOnes 0 = .ok (.iconst 0, 1) := by decide +kernel
theorem dX10_doneOnes_1 : decode cX10_doneOnes 1 = .ok (.istore_n 1, 1) := by decide +kernel
theorem dX10_doneOnes_2 : decode cX10_doneOnes 2 = .ok (.iconst 0, 1) := by decide +kernel
theorem dX10_doneOnes_3 : decode cX10_doneOnes 3 = .ok (.istore_n 2, 1) := by decide +kernel
theorem dX10_doneOnes_4 : decode cX10_doneOnes 4 = .ok (.iload_n 2, 1) := by decide +kernel
theorem dX10_doneOnes_5 : decode cX10_doneOnes 5 = .ok (.aload_n 0, 1) := by decide +kernel
theorem dX10_doneOnes_6 : decode cX10_doneOnes 6 = .ok (.getfield 9, 3) := by decide +kernel
theorem dX10_doneOnes_9 : decode cX10_doneOnes 9 = .ok (.iconst 1, 1) := by decide +kernel
theorem dX10_doneOnes_10 : decode cX10_doneOnes 10 = .ok (.iaload, 1) := by decide +kernel
theorem dX10_doneOnes_11 : decode cX10_doneOnes 11 = .ok (.if_icmp .ge 27, 3) := by decide +kernel
theorem dX10_doneOnes_14 : decode cX10_doneOnes 14 = .ok (.iload_n 1, 1) := by decide +kernel
theorem dX10_doneOnes_15 : decode cX10_doneOnes 15 = .ok (.aload_n 0, 1) := by decide +kernel
theorem dX10_doneOnes_16 : decode cX10_doneOnes 16 = .ok (.iload_n 2, 1) := by decide +kernel
theorem dX10_doneOnes_17 : decode cX10_doneOnes 17 = .ok (.invokevirtual 60, 3) := by decide +kernel
theorem dX10_doneOnes_20 : decode cX10_doneOnes 20 = .ok (.ifCond .eq 9, 3) := by decide +kernel
theorem dX10_doneOnes_23 : decode cX10_doneOnes 23 = .ok (.iconst 1, 1) := by decide +kernel
theorem dX10_doneOnes_24 : decode cX10_doneOnes 24 = .ok (.iload_n 2, 1) := by decide +kernel
theorem dX10_doneOnes_25 : decode cX10_doneOnes 25 = .ok (.ishl, 1) := by decide +kernel
theorem dX10_doneOnes_26 : decode cX10_doneOnes 26 = .ok (.goto 4, 3) := by decide +kernel
theorem dX10_doneOnes_29 : decode cX10_doneOnes 29 = .ok (.iconst 0, 1) := by decide +kernel
theorem dX10_doneOnes_30 : decode cX10_doneOnes 30 = .ok (.ior, 1) := by decide +kernel
theorem dX10_doneOnes_31 : decode cX10_doneOnes 31 = .ok (.istore_n 1, 1) := by decide +kernel
theorem dX10_doneOnes_32 : decode cX10_doneOnes 32 = .ok (.iinc 2 1, 3) := by decide +kernel
theorem dX10_doneOnes_35 : decode cX10_doneOnes 35 = .ok (.goto (-31), 3) := by decide +kernel
theorem dX10_doneOnes_38 : decode cX10_doneOnes 38 = .ok (.iload_n 1, 1) := by decide +kernel
theorem dX10_doneOnes_39 : decode cX10_doneOnes 39 = .ok (.ireturn, 1) := by decide +kernel
theorem dX10_areDone_0 : decode cX10_areDone 0 = .ok (.aload_n 0, 1) := by decide +kernel
theorem dX10_areDone_1 : decode cX10_areDone 1 = .ok (.invokevirtual 124, 3) := by decide +kernel
theorem dX10_areDone_4 : decode cX10_areDone 4 = .ok (.iconst 1, 1) := by decide +kernel
theorem dX10_areDone_5 : decode cX10_areDone 5 = .ok (.aload_n 0, 1) := by decide +kernel
theorem dX10_areDone_6 : decode cX10_areDone 6 = .ok (.getfield 9, 3) := by decide +kernel
theorem dX10_areDone_9 : decode cX10_areDone 9 = .ok (.iconst 1, 1) := by decide +kernel
theorem dX10_areDone_10 : decode cX10_areDone 10 = .ok (.iaload, 1) := by decide +kernel
theorem dX10_areDone_11 : decode cX10_areDone 11 = .ok (.ishl, 1) := by decide +kernel
theorem dX10_areDone_12 : decode cX10_areDone 12 = .ok (.iconst 1, 1) := by decide +kernel
theorem dX10_areDone_13 : decode cX10_areDone 13 = .ok (.isub, 1) := by decide +kernel
theorem dX10_areDone_14 : decode cX10_areDone 14 = .ok (.if_icmp .ne 7, 3) := by decide +kernel
theorem dX10_areDone_17 : decode cX10_areDone 17 = .ok (.iconst 1, 1) := by decide +kernel
theorem dX10_areDone_18 : decode cX10_areDone 18 = .ok (.goto 4, 3) := by decide +kernel
theorem dX10_areDone_21 : decode cX10_areDone 21 = .ok (.iconst 0, 1) := by decide +kernel
theorem dX10_areDone_22 : decode cX10_areDone 22 = .ok (.ireturn, 1) := by decide +kernel
theorem dX10_years_0 : decode cX10_years 0 = .ok (.iload_n 1, 1) := by decide +kernel
theorem dX10_years_1 : decode cX10_years 1 = .ok (.i2l, 1) := by decide +kernel
theorem dX10_years_2 : decode cX10_years 2 = .ok (.iconst 1, 1) := by decide +kernel
theorem dX10_years_3 : decode cX10_years 3 = .ok (.bipush 60, 2) := by decide +kernel
theorem dX10_years_5 : decode cX10_years 5 = .ok (.invokestatic 41, 3) := by decide +kernel
theorem dX10_years_8 : decode cX10_years 8 = .ok (.ifCond .ne 10, 3) := by decide +kernel
theorem dX10_years_11 : decode cX10_years 11 = .ok (.aload_n 0, 1) := by decide +kernel
theorem dX10_years_12 : decode cX10_years 12 = .ok (.ldc 35, 2) := by decide +kernel
theorem dX10_years_14 : decode cX10_years 14 = .ok (.invokevirtual 37, 3) := by decide +kernel
theorem dX10_years_17 : decode cX10_years 17 = .ok (.ireturn, 1) := by decide +kernel
theorem dX10_years_18 : decode cX10_years 18 = .ok (.aload_n 0, 1) := by decide +kernel
theorem dX10_years_19 : decode cX10_years 19 = .ok (.getfield 9, 3) := by decide +kernel
theorem dX10_years_22 : decode cX10_years 22 = .ok (.iconst 0, 1) := by decide +kernel
theorem dX10_years_23 : decode cX10_years 23 = .ok (.iaload, 1) := by decide +kernel
theorem dX10_years_24 : decode cX10_years 24 = .ok (.iload_n 1, 1) := by decide +kernel
theorem dX10_years_25 : decode cX10_years 25 = .ok (.iadd, 1) := by decide +kernel
theorem dX10_years_26 : decode cX10_years 26 = .ok (.sipush 9999, 3) := by decide +kernel
theorem dX10_years_29 : decode cX10_years 29 = .ok (.if_icmp .le 10, 3) := by decide +kernel
theorem dX10_years_32 : decode cX10_years 32 = .ok (.aload_n 0, 1) := by decide +kernel
theorem dX10_years_33 : decode cX10_years 33 = .ok (.ldc 106, 2) := by decide +kernel
theorem dX10_years_35 : decode cX10_years 35 = .ok (.invokevirtual 37, 3) := by decide +kernel
theorem dX10_years_38 : decode cX10_years 38 = .ok (.ireturn, 1) := by decide +kernel
theorem dX10_years_39 : decode cX10_years 39 = .ok (.aload_n 0, 1) := by decide +kernel
theorem dX10_years_40 : decode cX10_years 40 = .ok (.iload_n 1, 1) := by decide +kernel
theorem dX10_years_41 : decode cX10_years 41 = .ok (.invokevirtual 128, 3) := by decide +kernel
theorem dX10_years_44 : decode cX10_years 44 = .ok (.aload_n 0, 1) := by decide +kernel
theorem dX10_years_45 : decode cX10_years 45 = .ok (.invokevirtual 124, 3) := by decide +kernel
theorem dX10_years_48 : decode cX10_years 48 = .ok (.ireturn, 1) := by decide +kernel
theorem dX10_sums_0 : decode cX10_sums 0 = .ok (.iconst 0, 1) := by decide +kernel
theorem dX10_sums_1 : decode cX10_sums 1 = .ok (.istore_n 2, 1) := by decide +kernel
theorem dX10_sums_2 : decode cX10_sums 2 = .ok (.iconst 0, 1) := by decide +kernel
theorem dX10_sums_3 : decode cX10_sums 3 = .ok (.istore_n 3, 1) := by decide +kernel
theorem dX10_sums_4 : decode cX10_sums 4 = .ok (.iload_n 3, 1) := by decide +kernel
theorem dX10_sums_5 : decode cX10_sums 5 = .ok (.aload_n 0, 1) := by decide +kernel
theorem dX10_sums_6 : decode cX10_sums 6 = .ok (.getfield 9, 3) := by decide +kernel
theorem dX10_sums_9 : decode cX10_sums 9 = .ok (.iconst 1, 1) := by decide +kernel
theorem dX10_sums_10 : decode cX10_sums 10 = .ok (.iaload, 1) := by decide +kernel
theorem dX10_sums_11 : decode cX10_sums 11 = .ok (.if_icmp .ge 18, 3) := by decide +kernel
theorem dX10_sums_14 : decode cX10_sums 14 = .ok (.iload_n 2, 1) := by decide +kernel
theorem dX10_sums_15 : decode cX10_sums 15 = .ok (.aload_n 0, 1) := by decide +kernel
theorem dX10_sums_16 : decode cX10_sums 16 = .ok (.iload_n 3, 1) := by decide +kernel
theorem dX10_sums_17 : decode cX10_sums 17 = .ok (.iload_n 1, 1) := by decide +kernel
theorem dX10_sums_18 : decode cX10_sums 18 = .ok (.invokevirtual 45, 3) := by decide +kernel
theorem dX10_sums_21 : decode cX10_sums 21 = .ok (.iadd, 1) := by decide +kernel
theorem dX10_sums_22 : decode cX10_sums 22 = .ok (.istore_n 2, 1) := by decide +kernel
theorem dX10_sums_23 : decode cX10_sums 23 = .ok (.iinc 3 1, 3) := by decide +kernel
theorem dX10_sums_26 : decode cX10_sums 26 = .ok (.goto (-22), 3) := by decide +kernel
theorem dX10_sums_29 : decode cX10_sums 29 = .ok (.iload_n 2, 1) := by decide +kernel
theorem dX10_sums_30 : decode cX10_sums 30 = .ok (.ireturn, 1) := by decide +kernel
theorem dX10_allMade_0 : decode cX10_allMade 0 = .ok (.iconst 0, 1) := by decide +kernel
theorem dX10_allMade_1 : decode cX10_allMade 1 = .ok (.istore_n 1, 1) := by decide +kernel
theorem dX10_allMade_2 : decode cX10_allMade 2 = .ok (.iconst 0, 1) := by decide +kernel
theorem dX10_allMade_3 : decode cX10_allMade 3 = .ok (.istore_n 2, 1) := by decide +kernel
theorem dX10_allMade_4 : decode cX10_allMade 4 = .ok (.iload_n 2, 1) := by decide +kernel
theorem dX10_allMade_5 : decode cX10_allMade 5 = .ok (.bipush 6, 2) := by decide +kernel
theorem dX10_allMade_7 : decode cX10_allMade 7 = .ok (.if_icmp .ge 18, 3) := by decide +kernel
theorem dX10_allMade_10 : decode cX10_allMade 10 = .ok (.iload_n 1, 1) := by decide +kernel
theorem dX10_allMade_11 : decode cX10_allMade 11 = .ok (.aload_n 0, 1) := by decide +kernel
theorem dX10_allMade_12 : decode cX10_allMade 12 = .ok (.iload_n 2, 1) := by decide +kernel
theorem dX10_allMade_13 : decode cX10_allMade 13 = .ok (.iconst 2, 1) := by decide +kernel
theorem dX10_allMade_14 : decode cX10_allMade 14 = .ok (.invokevirtual 63, 3) := by decide +kernel
theorem dX10_allMade_17 : decode cX10_allMade 17 = .ok (.iadd, 1) := by decide +kernel
theorem dX10_allMade_18 : decode cX10_allMade 18 = .ok (.istore_n 1, 1) := by decide +kernel
theorem dX10_allMade_19 : decode cX10_allMade 19 = .ok (.iinc 2 1, 3) := by decide +kernel
theorem dX10_allMade_22 : decode cX10_allMade 22 = .ok (.goto (-18), 3) := by decide +kernel
theorem dX10_allMade_25 : decode cX10_allMade 25 = .ok (.iload_n 1, 1) := by decide +kernel
theorem dX10_allMade_26 : decode cX10_allMade 26 = .ok (.ireturn, 1) := by decide +kernel
theorem dX10_now_0 : decode cX10_now 0 = .ok (.iload_n 1, 1) := by decide +kernel
theorem dX10_now_1 : decode cX10_now 1 = .ok (.tableswitch 64 0 4 #[35, 42, 47, 53, 59], 35) := by decide +kernel
theorem dX10_now_36 : decode cX10_now 36 = .ok (.aload_n 0, 1) := by decide +kernel
theorem dX10_now_37 : decode cX10_now 37 = .ok (.getfield 9, 3) := by decide +kernel
theorem dX10_now_40 : decode cX10_now 40 = .ok (.iconst 0, 1) := by decide +kernel
theorem dX10_now_41 : decode cX10_now 41 = .ok (.iaload, 1) := by decide +kernel
theorem dX10_now_42 : decode cX10_now 42 = .ok (.ireturn, 1) := by decide +kernel
theorem dX10_now_43 : decode cX10_now 43 = .ok (.aload_n 0, 1) := by decide +kernel
theorem dX10_now_44 : decode cX10_now 44 = .ok (.invokevirtual 124, 3) := by decide +kernel
theorem dX10_now_47 : decode cX10_now 47 = .ok (.ireturn, 1) := by decide +kernel
theorem dX10_now_48 : decode cX10_now 48 = .ok (.aload_n 0, 1) := by decide +kernel
theorem dX10_now_49 : decode cX10_now 49 = .ok (.iconst (-1), 1) := by decide +kernel
theorem dX10_now_50 : decode cX10_now 50 = .ok (.invokevirtual 66, 3) := by decide +kernel
theorem dX10_now_53 : decode cX10_now 53 = .ok (.ireturn, 1) := by decide +kernel
theorem dX10_now_54 : decode cX10_now 54 = .ok (.aload_n 0, 1) := by decide +kernel
theorem dX10_now_55 : decode cX10_now 55 = .ok (.iconst 1, 1) := by decide +kernel
theorem dX10_now_56 : decode cX10_now 56 = .ok (.invokevirtual 131, 3) := by decide +kernel
theorem dX10_now_59 : decode cX10_now 59 = .ok (.ireturn, 1) := by decide +kernel
theorem dX10_now_60 : decode cX10_now 60 = .ok (.aload_n 0, 1) := by decide +kernel
theorem dX10_now_61 : decode cX10_now 61 = .ok (.invokevirtual 134, 3) := by decide +kernel
theorem dX10_now_64 : decode cX10_now 64 = .ok (.ireturn, 1) := by decide +kernel
theorem dX10_now_65 : decode cX10_now 65 = .ok (.aload_n 0, 1) := by decide +kernel
theorem dX10_now_66 : decode cX10_now 66 = .ok (.ldc 35, 2) := by decide +kernel
theorem dX10_now_68 : decode cX10_now 68 = .ok (.invokevirtual 37, 3) := by decide +kernel
theorem dX10_now_71 : decode cX10_now 71 = .ok (.ireturn, 1) := by decide +kernel
theorem dX10_thinks_0 : decode cX10_thinks 0 = .ok (.aload_n 0, 1) := by decide +kernel
theorem dX10_thinks_1 : decode cX10_thinks 1 = .ok (.getfield 9, 3) := by decide +kernel
theorem dX10_thinks_4 : decode cX10_thinks 4 = .ok (.aload_n 0, 1) := by decide +kernel
theorem dX10_thinks_5 : decode cX10_thinks 5 = .ok (.getfield 16, 3) := by decide +kernel
theorem dX10_thinks_8 : decode cX10_thinks 8 = .ok (.invokestatic 137, 3) := by decide +kernel
theorem dX10_thinks_11 : decode cX10_thinks 11 = .ok (.return_, 1) := by decide +kernel
theorem dX10_putsBack_0 : decode cX10_putsBack 0 = .ok (.aload_n 0, 1) := by decide +kernel
theorem dX10_putsBack_1 : decode cX10_putsBack 1 = .ok (.getfield 16, 3) := by decide +kernel
theorem dX10_putsBack_4 : decode cX10_putsBack 4 = .ok (.aload_n 0, 1) := by decide +kernel
theorem dX10_putsBack_5 : decode cX10_putsBack 5 = .ok (.getfield 9, 3) := by decide +kernel
theorem dX10_putsBack_8 : decode cX10_putsBack 8 = .ok (.invokestatic 137, 3) := by decide +kernel
theorem dX10_putsBack_11 : decode cX10_putsBack 11 = .ok (.return_, 1) := by decide +kernel
theorem dX10_on_0 : decode cX10_on 0 = .ok (.aload_n 0, 1) := by decide +kernel
theorem dX10_on_1 : decode cX10_on 1 = .ok (.iload_n 1, 1) := by decide +kernel
theorem dX10_on_2 : decode cX10_on 2 = .ok (.invokevirtual 81, 3) := by decide +kernel
theorem dX10_on_5 : decode cX10_on 5 = .ok (.ifCond .eq 24, 3) := by decide +kernel
theorem dX10_on_8 : decode cX10_on 8 = .ok (.iload_n 2, 1) := by decide +kernel
theorem dX10_on_9 : decode cX10_on 9 = .ok (.i2l, 1) := by decide +kernel
theorem dX10_on_10 : decode cX10_on 10 = .ok (.iconst 0, 1) := by decide +kernel
theorem dX10_on_11 : decode cX10_on 11 = .ok (.bipush 100, 2) := by decide +kernel
theorem dX10_on_13 : decode cX10_on 13 = .ok (.invokestatic 41, 3) := by decide +kernel
theorem dX10_on_16 : decode cX10_on 16 = .ok (.ifCond .eq 13, 3) := by decide +kernel
theorem dX10_on_19 : decode cX10_on 19 = .ok (.iload_n 3, 1) := by decide +kernel
theorem dX10_on_20 : decode cX10_on 20 = .ok (.i2l, 1) := by decide +kernel
theorem dX10_on_21 : decode cX10_on 21 = .ok (.iconst 0, 1) := by decide +kernel
theorem dX10_on_22 : decode cX10_on 22 = .ok (.iconst 2, 1) := by decide +kernel
theorem dX10_on_23 : decode cX10_on 23 = .ok (.invokestatic 41, 3) := by decide +kernel
theorem dX10_on_26 : decode cX10_on 26 = .ok (.ifCond .ne 10, 3) := by decide +kernel
theorem dX10_on_29 : decode cX10_on 29 = .ok (.aload_n 0, 1) := by decide +kernel
theorem dX10_on_30 : decode cX10_on 30 = .ok (.ldc 35, 2) := by decide +kernel
theorem dX10_on_32 : decode cX10_on 32 = .ok (.invokevirtual 37, 3) := by decide +kernel
theorem dX10_on_35 : decode cX10_on 35 = .ok (.ireturn, 1) := by decide +kernel
theorem dX10_on_36 : decode cX10_on 36 = .ok (.aload_n 0, 1) := by decide +kernel
theorem dX10_on_37 : decode cX10_on 37 = .ok (.invokevirtual 141, 3) := by decide +kernel
theorem dX10_on_40 : decode cX10_on 40 = .ok (.aload_n 0, 1) := by decide +kernel
theorem dX10_on_41 : decode cX10_on 41 = .ok (.iload_n 2, 1) := by decide +kernel
theorem dX10_on_42 : decode cX10_on 42 = .ok (.invokevirtual 128, 3) := by decide +kernel
theorem dX10_on_45 : decode cX10_on 45 = .ok (.aload_n 0, 1) := by decide +kernel
theorem dX10_on_46 : decode cX10_on 46 = .ok (.iload_n 1, 1) := by decide +kernel
theorem dX10_on_47 : decode cX10_on 47 = .ok (.iconst 1, 1) := by decide +kernel
theorem dX10_on_48 : decode cX10_on 48 = .ok (.iload_n 3, 1) := by decide +kernel
theorem dX10_on_49 : decode cX10_on 49 = .ok (.iadd, 1) := by decide +kernel
theorem dX10_on_50 : decode cX10_on 50 = .ok (.invokevirtual 45, 3) := by decide +kernel
theorem dX10_on_53 : decode cX10_on 53 = .ok (.istore 4, 2) := by decide +kernel
theorem dX10_on_55 : decode cX10_on 55 = .ok (.aload_n 0, 1) := by decide +kernel
theorem dX10_on_56 : decode cX10_on 56 = .ok (.invokevirtual 144, 3) := by decide +kernel
theorem dX10_on_59 : decode cX10_on 59 = .ok (.iload 4, 2) := by decide +kernel
theorem dX10_on_61 : decode cX10_on 61 = .ok (.ireturn, 1) := by decide +kernel
theorem dX10_then_0 : decode cX10_then 0 = .ok (.iload_n 1, 1) := by decide +kernel
theorem dX10_then_1 : decode cX10_then 1 = .ok (.invokestatic 49, 3) := by decide +kernel
theorem dX10_then_4 : decode cX10_then 4 = .ok (.ifCond .eq 24, 3) := by decide +kernel
theorem dX10_then_7 : decode cX10_then 7 = .ok (.iload_n 2, 1) := by decide +kernel
theorem dX10_then_8 : decode cX10_then 8 = .ok (.i2l, 1) := by decide +kernel
theorem dX10_then_9 : decode cX10_then 9 = .ok (.iconst 0, 1) := by decide +kernel
theorem dX10_then_10 : decode cX10_then 10 = .ok (.bipush 100, 2) := by decide +kernel
theorem dX10_then_12 : decode cX10_then 12 = .ok (.invokestatic 41, 3) := by decide +kernel
theorem dX10_then_15 : decode cX10_then 15 = .ok (.ifCond .eq 13, 3) := by decide +kernel
theorem dX10_then_18 : decode cX10_then 18 = .ok (.iload_n 3, 1) := by decide +kernel
theorem dX10_then_19 : decode cX10_then 19 = .ok (.i2l, 1) := by decide +kernel
theorem dX10_then_20 : decode cX10_then 20 = .ok (.iconst 0, 1) := by decide +kernel
theorem dX10_then_21 : decode cX10_then 21 = .ok (.iconst 1, 1) := by decide +kernel
theorem dX10_then_22 : decode cX10_then 22 = .ok (.invokestatic 41, 3) := by decide +kernel
theorem dX10_then_25 : decode cX10_then 25 = .ok (.ifCond .ne 10, 3) := by decide +kernel
theorem dX10_then_28 : decode cX10_then 28 = .ok (.aload_n 0, 1) := by decide +kernel
theorem dX10_then_29 : decode cX10_then 29 = .ok (.ldc 35, 2) := by decide +kernel
theorem dX10_then_31 : decode cX10_then 31 = .ok (.invokevirtual 37, 3) := by decide +kernel
theorem dX10_then_34 : decode cX10_then 34 = .ok (.ireturn, 1) := by decide +kernel
theorem dX10_then_35 : decode cX10_then 35 = .ok (.aload_n 0, 1) := by decide +kernel
theorem dX10_then_36 : decode cX10_then 36 = .ok (.invokevirtual 141, 3) := by decide +kernel
theorem dX10_then_39 : decode cX10_then 39 = .ok (.aload_n 0, 1) := by decide +kernel
theorem dX10_then_40 : decode cX10_then 40 = .ok (.iload_n 2, 1) := by decide +kernel
theorem dX10_then_41 : decode cX10_then 41 = .ok (.invokevirtual 128, 3) := by decide +kernel
theorem dX10_then_44 : decode cX10_then 44 = .ok (.aload_n 0, 1) := by decide +kernel
theorem dX10_then_45 : decode cX10_then 45 = .ok (.iload_n 1, 1) := by decide +kernel
theorem dX10_then_46 : decode cX10_then 46 = .ok (.iconst 1, 1) := by decide +kernel
theorem dX10_then_47 : decode cX10_then 47 = .ok (.iload_n 3, 1) := by decide +kernel
theorem dX10_then_48 : decode cX10_then 48 = .ok (.iadd, 1) := by decide +kernel
theorem dX10_then_49 : decode cX10_then 49 = .ok (.invokevirtual 63, 3) := by decide +kernel
theorem dX10_then_52 : decode cX10_then 52 = .ok (.istore 4, 2) := by decide +kernel
theorem dX10_then_54 : decode cX10_then 54 = .ok (.aload_n 0, 1) := by decide +kernel
theorem dX10_then_55 : decode cX10_then 55 = .ok (.invokevirtual 144, 3) := by decide +kernel
theorem dX10_then_58 : decode cX10_then 58 = .ok (.iload 4, 2) := by decide +kernel
theorem dX10_then_60 : decode cX10_then 60 = .ok (.ireturn, 1) := by decide +kernel
theorem dX10_doneIn_0 : decode cX10_doneIn 0 = .ok (.iconst 0, 1) := by decide +kernel
theorem dX10_doneIn_1 : decode cX10_doneIn 1 = .ok (.istore_n 3, 1) := by decide +kernel
theorem dX10_doneIn_2 : decode cX10_doneIn 2 = .ok (.iload_n 3, 1) := by decide +kernel
theorem dX10_doneIn_3 : decode cX10_doneIn 3 = .ok (.iload_n 2, 1) := by decide +kernel
theorem dX10_doneIn_4 : decode cX10_doneIn 4 = .ok (.if_icmp .gt 21, 3) := by decide +kernel
theorem dX10_doneIn_7 : decode cX10_doneIn 7 = .ok (.aload_n 0, 1) := by decide +kernel
theorem dX10_doneIn_8 : decode cX10_doneIn 8 = .ok (.iload_n 1, 1) := by decide +kernel
theorem dX10_doneIn_9 : decode cX10_doneIn 9 = .ok (.invokevirtual 60, 3) := by decide +kernel
theorem dX10_doneIn_12 : decode cX10_doneIn 12 = .ok (.ifCond .ne 13, 3) := by decide +kernel
theorem dX10_doneIn_15 : decode cX10_doneIn 15 = .ok (.aload_n 0, 1) := by decide +kernel
theorem dX10_doneIn_16 : decode cX10_doneIn 16 = .ok (.invokevirtual 121, 3) := by decide +kernel
theorem dX10_doneIn_19 : decode cX10_doneIn 19 = .ok (.iinc 3 1, 3) := by decide +kernel
theorem dX10_doneIn_22 : decode cX10_doneIn 22 = .ok (.goto (-20), 3) := by decide +kernel
theorem dX10_doneIn_25 : decode cX10_doneIn 25 = .ok (.aload_n 0, 1) := by decide +kernel
theorem dX10_doneIn_26 : decode cX10_doneIn 26 = .ok (.invokevirtual 144, 3) := by decide +kernel
theorem dX10_doneIn_29 : decode cX10_doneIn 29 = .ok (.iload_n 3, 1) := by decide +kernel
theorem dX10_doneIn_30 : decode cX10_doneIn 30 = .ok (.iload_n 2, 1) := by decide +kernel
theorem dX10_doneIn_31 : decode cX10_doneIn 31 = .ok (.if_icmp .le 7, 3) := by decide +kernel
theorem dX10_doneIn_34 : decode cX10_doneIn 34 = .ok (.iconst (-1), 1) := by decide +kernel
theorem dX10_doneIn_35 : decode cX10_doneIn 35 = .ok (.goto 4, 3) := by decide +kernel
theorem dX10_doneIn_38 : decode cX10_doneIn 38 = .ok (.iload_n 3, 1) := by decide +kernel
theorem dX10_doneIn_39 : decode cX10_doneIn 39 = .ok (.ireturn, 1) := by decide +kernel
theorem dX10_finished_0 : decode cX10_finished 0 = .ok (.aload_n 0, 1) := by decide +kernel
theorem dX10_finished_1 : decode cX10_finished 1 = .ok (.iload_n 1, 1) := by decide +kernel
theorem dX10_finished_2 : decode cX10_finished 2 = .ok (.invokevirtual 81, 3) := by decide +kernel
theorem dX10_finished_5 : decode cX10_finished 5 = .ok (.ifCond .ne 10, 3) := by decide +kernel
theorem dX10_finished_8 : decode cX10_finished 8 = .ok (.aload_n 0, 1) := by decide +kernel
theorem dX10_finished_9 : decode cX10_finished 9 = .ok (.ldc 35, 2) := by decide +kernel
theorem dX10_finished_11 : decode cX10_finished 11 = .ok (.invokevirtual 37, 3) := by decide +kernel
theorem dX10_finished_14 : decode cX10_finished 14 = .ok (.ireturn, 1) := by decide +kernel
theorem dX10_finished_15 : decode cX10_finished 15 = .ok (.aload_n 0, 1) := by decide +kernel
theorem dX10_finished_16 : decode cX10_finished 16 = .ok (.invokevirtual 141, 3) := by decide +kernel
theorem dX10_finished_19 : decode cX10_finished 19 = .ok (.aload_n 0, 1) := by decide +kernel
theorem dX10_finished_20 : decode cX10_finished 20 = .ok (.aload_n 0, 1) := by decide +kernel
theorem dX10_finished_21 : decode cX10_finished 21 = .ok (.iload_n 1, 1) := by decide +kernel
theorem dX10_finished_22 : decode cX10_finished 22 = .ok (.sipush 200, 3) := by decide +kernel
theorem dX10_finished_25 : decode cX10_finished 25 = .ok (.invokevirtual 147, 3) := by decide +kernel
theorem dX10_finished_28 : decode cX10_finished 28 = .ok (.invokevirtual 110, 3) := by decide +kernel
theorem dX10_finished_31 : decode cX10_finished 31 = .ok (.ireturn, 1) := by decide +kernel
theorem dX10_comes_0 : decode cX10_comes 0 = .ok (.aload_n 0, 1) := by decide +kernel
theorem dX10_comes_1 : decode cX10_comes 1 = .ok (.iload_n 1, 1) := by decide +kernel
theorem dX10_comes_2 : decode cX10_comes 2 = .ok (.invokevirtual 81, 3) := by decide +kernel
theorem dX10_comes_5 : decode cX10_comes 5 = .ok (.ifCond .eq 10, 3) := by decide +kernel
theorem dX10_comes_8 : decode cX10_comes 8 = .ok (.iload_n 2, 1) := by decide +kernel
theorem dX10_comes_9 : decode cX10_comes 9 = .ok (.invokestatic 49, 3) := by decide +kernel
theorem dX10_comes_12 : decode cX10_comes 12 = .ok (.ifCond .ne 10, 3) := by decide +kernel
theorem dX10_comes_15 : decode cX10_comes 15 = .ok (.aload_n 0, 1) := by decide +kernel
theorem dX10_comes_16 : decode cX10_comes 16 = .ok (.ldc 35, 2) := by decide +kernel
theorem dX10_comes_18 : decode cX10_comes 18 = .ok (.invokevirtual 37, 3) := by decide +kernel
theorem dX10_comes_21 : decode cX10_comes 21 = .ok (.ireturn, 1) := by decide +kernel
theorem dX10_comes_22 : decode cX10_comes 22 = .ok (.aload_n 0, 1) := by decide +kernel
theorem dX10_comes_23 : decode cX10_comes 23 = .ok (.invokevirtual 141, 3) := by decide +kernel
theorem dX10_comes_26 : decode cX10_comes 26 = .ok (.iconst 0, 1) := by decide +kernel
theorem dX10_comes_27 : decode cX10_comes 27 = .ok (.istore_n 3, 1) := by decide +kernel
theorem dX10_comes_28 : decode cX10_comes 28 = .ok (.iload_n 3, 1) := by decide +kernel
theorem dX10_comes_29 : decode cX10_comes 29 = .ok (.sipush 200, 3) := by decide +kernel
theorem dX10_comes_32 : decode cX10_comes 32 = .ok (.if_icmp .gt 23, 3) := by decide +kernel
theorem dX10_comes_35 : decode cX10_comes 35 = .ok (.aload_n 0, 1) := by decide +kernel
theorem dX10_comes_36 : decode cX10_comes 36 = .ok (.iload_n 1, 1) := by decide +kernel
theorem dX10_comes_37 : decode cX10_comes 37 = .ok (.iconst 2, 1) := by decide +kernel
theorem dX10_comes_38 : decode cX10_comes 38 = .ok (.invokevirtual 45, 3) := by decide +kernel
theorem dX10_comes_41 : decode cX10_comes 41 = .ok (.iload_n 2, 1) := by decide +kernel
theorem dX10_comes_42 : decode cX10_comes 42 = .ok (.if_icmp .eq 13, 3) := by decide +kernel
theorem dX10_comes_45 : decode cX10_comes 45 = .ok (.aload_n 0, 1) := by decide +kernel
theorem dX10_comes_46 : decode cX10_comes 46 = .ok (.invokevirtual 121, 3) := by decide +kernel
theorem dX10_comes_49 : decode cX10_comes 49 = .ok (.iinc 3 1, 3) := by decide +kernel
theorem dX10_comes_52 : decode cX10_comes 52 = .ok (.goto (-24), 3) := by decide +kernel
theorem dX10_comes_55 : decode cX10_comes 55 = .ok (.aload_n 0, 1) := by decide +kernel
theorem dX10_comes_56 : decode cX10_comes 56 = .ok (.invokevirtual 144, 3) := by decide +kernel
theorem dX10_comes_59 : decode cX10_comes 59 = .ok (.iload_n 3, 1) := by decide +kernel
theorem dX10_comes_60 : decode cX10_comes 60 = .ok (.sipush 200, 3) := by decide +kernel
theorem dX10_comes_63 : decode cX10_comes 63 = .ok (.if_icmp .le 12, 3) := by decide +kernel
theorem dX10_comes_66 : decode cX10_comes 66 = .ok (.aload_n 0, 1) := by decide +kernel
theorem dX10_comes_67 : decode cX10_comes 67 = .ok (.ldc 36, 2) := by decide +kernel
theorem dX10_comes_69 : decode cX10_comes 69 = .ok (.invokevirtual 37, 3) := by decide +kernel
theorem dX10_comes_72 : decode cX10_comes 72 = .ok (.goto 4, 3) := by decide +kernel
theorem dX10_comes_75 : decode cX10_comes 75 = .ok (.iload_n 3, 1) := by decide +kernel
theorem dX10_comes_76 : decode cX10_comes 76 = .ok (.ireturn, 1) := by decide +kernel
theorem dX10_all_0 : decode cX10_all 0 = .ok (.aload_n 0, 1) := by decide +kernel
theorem dX10_all_1 : decode cX10_all 1 = .ok (.invokevirtual 141, 3) := by decide +kernel
theorem dX10_all_4 : decode cX10_all 4 = .ok (.iconst 0, 1) := by decide +kernel
theorem dX10_all_5 : decode cX10_all 5 = .ok (.istore_n 1, 1) := by decide +kernel
theorem dX10_all_6 : decode cX10_all 6 = .ok (.iload_n 1, 1) := by decide +kernel
theorem dX10_all_7 : decode cX10_all 7 = .ok (.sipush 200, 3) := by decide +kernel
theorem dX10_all_10 : decode cX10_all 10 = .ok (.if_icmp .gt 20, 3) := by decide +kernel
theorem dX10_all_13 : decode cX10_all 13 = .ok (.aload_n 0, 1) := by decide +kernel
theorem dX10_all_14 : decode cX10_all 14 = .ok (.invokevirtual 150, 3) := by decide +kernel
theorem dX10_all_17 : decode cX10_all 17 = .ok (.ifCond .ne 13, 3) := by decide +kernel
theorem dX10_all_20 : decode cX10_all 20 = .ok (.aload_n 0, 1) := by decide +kernel
theorem dX10_all_21 : decode cX10_all 21 = .ok (.invokevirtual 121, 3) := by decide +kernel
theorem dX10_all_24 : decode cX10_all 24 = .ok (.iinc 1 1, 3) := by decide +kernel
theorem dX10_all_27 : decode cX10_all 27 = .ok (.goto (-21), 3) := by decide +kernel
theorem dX10_all_30 : decode cX10_all 30 = .ok (.aload_n 0, 1) := by decide +kernel
theorem dX10_all_31 : decode cX10_all 31 = .ok (.invokevirtual 144, 3) := by decide +kernel
theorem dX10_all_34 : decode cX10_all 34 = .ok (.iload_n 1, 1) := by decide +kernel
theorem dX10_all_35 : decode cX10_all 35 = .ok (.sipush 200, 3) := by decide +kernel
theorem dX10_all_38 : decode cX10_all 38 = .ok (.if_icmp .le 12, 3) := by decide +kernel
theorem dX10_all_41 : decode cX10_all 41 = .ok (.aload_n 0, 1) := by decide +kernel
theorem dX10_all_42 : decode cX10_all 42 = .ok (.ldc 36, 2) := by decide +kernel
theorem dX10_all_44 : decode cX10_all 44 = .ok (.invokevirtual 37, 3) := by decide +kernel
theorem dX10_all_47 : decode cX10_all 47 = .ok (.goto 4, 3) := by decide +kernel
theorem dX10_all_50 : decode cX10_all 50 = .ok (.iload_n 1, 1) := by decide +kernel
theorem dX10_all_51 : decode cX10_all 51 = .ok (.ireturn, 1) := by decide +kernel
theorem dX10_soonestBy_0 : decode cX10_soonestBy 0 = .ok (.aload_n 0, 1) := by decide +kernel
theorem dX10_soonestBy_1 : decode cX10_soonestBy 1 = .ok (.invokevirtual 141, 3) := by decide +kernel
theorem dX10_soonestBy_4 : decode cX10_soonestBy 4 = .ok (.iconst (-1), 1) := by decide +kernel
theorem dX10_soonestBy_5 : decode cX10_soonestBy 5 = .ok (.istore 4, 2) := by decide +kernel
theorem dX10_soonestBy_7 : decode cX10_soonestBy 7 = .ok (.iconst 0, 1) := by decide +kernel
theorem dX10_soonestBy_8 : decode cX10_soonestBy 8 = .ok (.istore 5, 2) := by decide +kernel
theorem dX10_soonestBy_10 : decode cX10_soonestBy 10 = .ok (.iconst 0, 1) := by decide +kernel
theorem dX10_soonestBy_11 : decode cX10_soonestBy 11 = .ok (.istore 6, 2) := by decide +kernel
theorem dX10_soonestBy_13 : decode cX10_soonestBy 13 = .ok (.iload 6, 2) := by decide +kernel
theorem dX10_soonestBy_15 : decode cX10_soonestBy 15 = .ok (.iload_n 2, 1) := by decide +kernel
theorem dX10_soonestBy_16 : decode cX10_soonestBy 16 = .ok (.if_icmp .ge 78, 3) := by decide +kernel
theorem dX10_soonestBy_19 : decode cX10_soonestBy 19 = .ok (.aload_n 0, 1) := by decide +kernel
theorem dX10_soonestBy_20 : decode cX10_soonestBy 20 = .ok (.getfield 9, 3) := by decide +kernel
theorem dX10_soonestBy_23 : decode cX10_soonestBy 23 = .ok (.iload_n 1, 1) := by decide +kernel
theorem dX10_soonestBy_24 : decode cX10_soonestBy 24 = .ok (.iload 6, 2) := by decide +kernel
theorem dX10_soonestBy_26 : decode cX10_soonestBy 26 = .ok (.iastore, 1) := by decide +kernel
theorem dX10_soonestBy_27 : decode cX10_soonestBy 27 = .ok (.aload_n 0, 1) := by decide +kernel
theorem dX10_soonestBy_28 : decode cX10_soonestBy 28 = .ok (.iload_n 3, 1) := by decide +kernel
theorem dX10_soonestBy_29 : decode cX10_soonestBy 29 = .ok (.bipush 100, 2) := by decide +kernel
theorem dX10_soonestBy_31 : decode cX10_soonestBy 31 = .ok (.invokevirtual 147, 3) := by decide +kernel
theorem dX10_soonestBy_34 : decode cX10_soonestBy 34 = .ok (.istore 7, 2) := by decide +kernel
theorem dX10_soonestBy_36 : decode cX10_soonestBy 36 = .ok (.iload 7, 2) := by decide +kernel
theorem dX10_soonestBy_38 : decode cX10_soonestBy 38 = .ok (.ifCond .lt 19, 3) := by decide +kernel
theorem dX10_soonestBy_41 : decode cX10_soonestBy 41 = .ok (.iload 4, 2) := by decide +kernel
theorem dX10_soonestBy_43 : decode cX10_soonestBy 43 = .ok (.ifCond .lt 10, 3) := by decide +kernel
theorem dX10_soonestBy_46 : decode cX10_soonestBy 46 = .ok (.iload 7, 2) := by decide +kernel
theorem dX10_soonestBy_48 : decode cX10_soonestBy 48 = .ok (.iload 5, 2) := by decide +kernel
theorem dX10_soonestBy_50 : decode cX10_soonestBy 50 = .ok (.if_icmp .ge 7, 3) := by decide +kernel
theorem dX10_soonestBy_53 : decode cX10_soonestBy 53 = .ok (.iconst 1, 1) := by decide +kernel
theorem dX10_soonestBy_54 : decode cX10_soonestBy 54 = .ok (.goto 4, 3) := by decide +kernel
theorem dX10_soonestBy_57 : decode cX10_soonestBy 57 = .ok (.iconst 0, 1) := by decide +kernel
theorem dX10_soonestBy_58 : decode cX10_soonestBy 58 = .ok (.istore 8, 2) := by decide +kernel
theorem dX10_soonestBy_60 : decode cX10_soonestBy 60 = .ok (.iload 8, 2) := by decide +kernel
theorem dX10_soonestBy_62 : decode cX10_soonestBy 62 = .ok (.ifCond .eq 8, 3) := by decide +kernel
theorem dX10_soonestBy_65 : decode cX10_soonestBy 65 = .ok (.iload 6, 2) := by decide +kernel
theorem dX10_soonestBy_67 : decode cX10_soonestBy 67 = .ok (.goto 5, 3) := by decide +kernel
theorem dX10_soonestBy_70 : decode cX10_soonestBy 70 = .ok (.iload 4, 2) := by decide +kernel
theorem dX10_soonestBy_72 : decode cX10_soonestBy 72 = .ok (.istore 4, 2) := by decide +kernel
theorem dX10_soonestBy_74 : decode cX10_soonestBy 74 = .ok (.iload 8, 2) := by decide +kernel
theorem dX10_soonestBy_76 : decode cX10_soonestBy 76 = .ok (.ifCond .eq 8, 3) := by decide +kernel
theorem dX10_soonestBy_79 : decode cX10_soonestBy 79 = .ok (.iload 7, 2) := by decide +kernel
theorem dX10_soonestBy_81 : decode cX10_soonestBy 81 = .ok (.goto 5, 3) := by decide +kernel
theorem dX10_soonestBy_84 : decode cX10_soonestBy 84 = .ok (.iload 5, 2) := by decide +kernel
theorem dX10_soonestBy_86 : decode cX10_soonestBy 86 = .ok (.istore 5, 2) := by decide +kernel
theorem dX10_soonestBy_88 : decode cX10_soonestBy 88 = .ok (.iinc 6 1, 3) := by decide +kernel
theorem dX10_soonestBy_91 : decode cX10_soonestBy 91 = .ok (.goto (-78), 3) := by decide +kernel
theorem dX10_soonestBy_94 : decode cX10_soonestBy 94 = .ok (.iload 4, 2) := by decide +kernel
theorem dX10_soonestBy_96 : decode cX10_soonestBy 96 = .ok (.ireturn, 1) := by decide +kernel
theorem dX10_give_0 : decode cX10_give 0 = .ok (.aload_n 0, 1) := by decide +kernel
theorem dX10_give_1 : decode cX10_give 1 = .ok (.iload_n 1, 1) := by decide +kernel
theorem dX10_give_2 : decode cX10_give 2 = .ok (.invokevirtual 81, 3) := by decide +kernel
theorem dX10_give_5 : decode cX10_give 5 = .ok (.ifCond .ne 10, 3) := by decide +kernel
theorem dX10_give_8 : decode cX10_give 8 = .ok (.aload_n 0, 1) := by decide +kernel
theorem dX10_give_9 : decode cX10_give 9 = .ok (.ldc 35, 2) := by decide +kernel
theorem dX10_give_11 : decode cX10_give 11 = .ok (.invokevirtual 37, 3) := by decide +kernel
theorem dX10_give_14 : decode cX10_give 14 = .ok (.ireturn, 1) := by decide +kernel
theorem dX10_give_15 : decode cX10_give 15 = .ok (.aload_n 0, 1) := by decide +kernel
theorem dX10_give_16 : decode cX10_give 16 = .ok (.iload_n 1, 1) := by decide +kernel
theorem dX10_give_17 : decode cX10_give 17 = .ok (.invokevirtual 60, 3) := by decide +kernel
theorem dX10_give_20 : decode cX10_give 20 = .ok (.ifCond .eq 12, 3) := by decide +kernel
theorem dX10_give_23 : decode cX10_give 23 = .ok (.aload_n 0, 1) := by decide +kernel
theorem dX10_give_24 : decode cX10_give 24 = .ok (.ldc 106, 2) := by decide +kernel
theorem dX10_give_26 : decode cX10_give 26 = .ok (.invokevirtual 37, 3) := by decide +kernel
theorem dX10_give_29 : decode cX10_give 29 = .ok (.goto 22, 3) := by decide +kernel
theorem dX10_give_32 : decode cX10_give 32 = .ok (.aload_n 0, 1) := by decide +kernel
theorem dX10_give_33 : decode cX10_give 33 = .ok (.aload_n 0, 1) := by decide +kernel
theorem dX10_give_34 : decode cX10_give 34 = .ok (.bipush 20, 2) := by decide +kernel
theorem dX10_give_36 : decode cX10_give 36 = .ok (.iconst 4, 1) := by decide +kernel
theorem dX10_give_37 : decode cX10_give 37 = .ok (.iload_n 1, 1) := by decide +kernel
theorem dX10_give_38 : decode cX10_give 38 = .ok (.imul, 1) := by decide +kernel
theorem dX10_give_39 : decode cX10_give 39 = .ok (.iadd, 1) := by decide +kernel
theorem dX10_give_40 : decode cX10_give 40 = .ok (.iconst 2, 1) := by decide +kernel
theorem dX10_give_41 : decode cX10_give 41 = .ok (.iadd, 1) := by decide +kernel
theorem dX10_give_42 : decode cX10_give 42 = .ok (.bipush 6, 2) := by decide +kernel
theorem dX10_give_44 : decode cX10_give 44 = .ok (.iload_n 1, 1) := by decide +kernel
theorem dX10_give_45 : decode cX10_give 45 = .ok (.invokevirtual 154, 3) := by decide +kernel
theorem dX10_give_48 : decode cX10_give 48 = .ok (.invokevirtual 110, 3) := by decide +kernel
theorem dX10_give_51 : decode cX10_give 51 = .ok (.ireturn, 1) := by decide +kernel
theorem dX10_kind_0 : decode cX10_kind 0 = .ok (.aload_n 0, 1) := by decide +kernel
theorem dX10_kind_1 : decode cX10_kind 1 = .ok (.iload_n 1, 1) := by decide +kernel
theorem dX10_kind_2 : decode cX10_kind 2 = .ok (.invokevirtual 81, 3) := by decide +kernel
theorem dX10_kind_5 : decode cX10_kind 5 = .ok (.ifCond .eq 23, 3) := by decide +kernel
theorem dX10_kind_8 : decode cX10_kind 8 = .ok (.aload_n 0, 1) := by decide +kernel
theorem dX10_kind_9 : decode cX10_kind 9 = .ok (.aload_n 0, 1) := by decide +kernel
theorem dX10_kind_10 : decode cX10_kind 10 = .ok (.bipush 20, 2) := by decide +kernel
theorem dX10_kind_12 : decode cX10_kind 12 = .ok (.iconst 4, 1) := by decide +kernel
theorem dX10_kind_13 : decode cX10_kind 13 = .ok (.iload_n 1, 1) := by decide +kernel
theorem dX10_kind_14 : decode cX10_kind 14 = .ok (.imul, 1) := by decide +kernel
theorem dX10_kind_15 : decode cX10_kind 15 = .ok (.iadd, 1) := by decide +kernel
theorem dX10_kind_16 : decode cX10_kind 16 = .ok (.bipush 6, 2) := by decide +kernel
theorem dX10_kind_18 : decode cX10_kind 18 = .ok (.iload_n 1, 1) := by decide +kernel
theorem dX10_kind_19 : decode cX10_kind 19 = .ok (.invokevirtual 154, 3) := by decide +kernel
theorem dX10_kind_22 : decode cX10_kind 22 = .ok (.invokevirtual 110, 3) := by decide +kernel
theorem dX10_kind_25 : decode cX10_kind 25 = .ok (.goto 9, 3) := by decide +kernel
theorem dX10_kind_28 : decode cX10_kind 28 = .ok (.aload_n 0, 1) := by decide +kernel
theorem dX10_kind_29 : decode cX10_kind 29 = .ok (.ldc 35, 2) := by decide +kernel
theorem dX10_kind_31 : decode cX10_kind 31 = .ok (.invokevirtual 37, 3) := by decide +kernel
theorem dX10_kind_34 : decode cX10_kind 34 = .ok (.ireturn, 1) := by decide +kernel
theorem dX10_zeal_0 : decode cX10_zeal 0 = .ok (.iload_n 1, 1) := by decide +kernel
theorem dX10_zeal_1 : decode cX10_zeal 1 = .ok (.invokestatic 49, 3) := by decide +kernel
theorem dX10_zeal_4 : decode cX10_zeal 4 = .ok (.ifCond .eq 26, 3) := by decide +kernel
theorem dX10_zeal_7 : decode cX10_zeal 7 = .ok (.iload_n 2, 1) := by decide +kernel
theorem dX10_zeal_8 : decode cX10_zeal 8 = .ok (.i2l, 1) := by decide +kernel
theorem dX10_zeal_9 : decode cX10_zeal 9 = .ok (.iconst 1, 1) := by decide +kernel
theorem dX10_zeal_10 : decode cX10_zeal 10 = .ok (.bipush 60, 2) := by decide +kernel
theorem dX10_zeal_12 : decode cX10_zeal 12 = .ok (.invokestatic 41, 3) := by decide +kernel
theorem dX10_zeal_15 : decode cX10_zeal 15 = .ok (.ifCond .eq 15, 3) := by decide +kernel
theorem dX10_zeal_18 : decode cX10_zeal 18 = .ok (.iload_n 3, 1) := by decide +kernel
theorem dX10_zeal_19 : decode cX10_zeal 19 = .ok (.i2l, 1) := by decide +kernel
theorem dX10_zeal_20 : decode cX10_zeal 20 = .ok (.iconst 0, 1) := by decide +kernel
theorem dX10_zeal_21 : decode cX10_zeal 21 = .ok (.sipush 999, 3) := by decide +kernel
theorem dX10_zeal_24 : decode cX10_zeal 24 = .ok (.invokestatic 41, 3) := by decide +kernel
theorem dX10_zeal_27 : decode cX10_zeal 27 = .ok (.ifCond .ne 10, 3) := by decide +kernel
theorem dX10_zeal_30 : decode cX10_zeal 30 = .ok (.aload_n 0, 1) := by decide +kernel
theorem dX10_zeal_31 : decode cX10_zeal 31 = .ok (.ldc 35, 2) := by decide +kernel
theorem dX10_zeal_33 : decode cX10_zeal 33 = .ok (.invokevirtual 37, 3) := by decide +kernel
theorem dX10_zeal_36 : decode cX10_zeal 36 = .ok (.ireturn, 1) := by decide +kernel
theorem dX10_zeal_37 : decode cX10_zeal 37 = .ok (.aload_n 0, 1) := by decide +kernel
theorem dX10_zeal_38 : decode cX10_zeal 38 = .ok (.invokevirtual 141, 3) := by decide +kernel
theorem dX10_zeal_41 : decode cX10_zeal 41 = .ok (.iconst (-1), 1) := by decide +kernel
theorem dX10_zeal_42 : decode cX10_zeal 42 = .ok (.istore 4, 2) := by decide +kernel
theorem dX10_zeal_44 : decode cX10_zeal 44 = .ok (.iconst 0, 1) := by decide +kernel
theorem dX10_zeal_45 : decode cX10_zeal 45 = .ok (.istore 5, 2) := by decide +kernel
theorem dX10_zeal_47 : decode cX10_zeal 47 = .ok (.iload 5, 2) := by decide +kernel
theorem dX10_zeal_49 : decode cX10_zeal 49 = .ok (.bipush 9, 2) := by decide +kernel
theorem dX10_zeal_51 : decode cX10_zeal 51 = .ok (.if_icmp .gt 49, 3) := by decide +kernel
theorem dX10_zeal_54 : decode cX10_zeal 54 = .ok (.iload 4, 2) := by decide +kernel
theorem dX10_zeal_56 : decode cX10_zeal 56 = .ok (.ifCond .ge 44, 3) := by decide +kernel
theorem dX10_zeal_59 : decode cX10_zeal 59 = .ok (.aload_n 0, 1) := by decide +kernel
theorem dX10_zeal_60 : decode cX10_zeal 60 = .ok (.iload_n 1, 1) := by decide +kernel
theorem dX10_zeal_61 : decode cX10_zeal 61 = .ok (.iconst 1, 1) := by decide +kernel
theorem dX10_zeal_62 : decode cX10_zeal 62 = .ok (.iload 5, 2) := by decide +kernel
theorem dX10_zeal_64 : decode cX10_zeal 64 = .ok (.invokevirtual 97, 3) := by decide +kernel
theorem dX10_zeal_67 : decode cX10_zeal 67 = .ok (.aload_n 0, 1) := by decide +kernel
theorem dX10_zeal_68 : decode cX10_zeal 68 = .ok (.iload_n 2, 1) := by decide +kernel
theorem dX10_zeal_69 : decode cX10_zeal 69 = .ok (.invokevirtual 128, 3) := by decide +kernel
theorem dX10_zeal_72 : decode cX10_zeal 72 = .ok (.aload_n 0, 1) := by decide +kernel
theorem dX10_zeal_73 : decode cX10_zeal 73 = .ok (.iload_n 1, 1) := by decide +kernel
theorem dX10_zeal_74 : decode cX10_zeal 74 = .ok (.iconst 2, 1) := by decide +kernel
theorem dX10_zeal_75 : decode cX10_zeal 75 = .ok (.invokevirtual 63, 3) := by decide +kernel
theorem dX10_zeal_78 : decode cX10_zeal 78 = .ok (.iload_n 3, 1) := by decide +kernel
theorem dX10_zeal_79 : decode cX10_zeal 79 = .ok (.if_icmp .lt 8, 3) := by decide +kernel
theorem dX10_zeal_82 : decode cX10_zeal 82 = .ok (.iload 5, 2) := by decide +kernel
theorem dX10_zeal_84 : decode cX10_zeal 84 = .ok (.goto 4, 3) := by decide +kernel
theorem dX10_zeal_87 : decode cX10_zeal 87 = .ok (.iconst (-1), 1) := by decide +kernel
theorem dX10_zeal_88 : decode cX10_zeal 88 = .ok (.istore 4, 2) := by decide +kernel
theorem dX10_zeal_90 : decode cX10_zeal 90 = .ok (.aload_n 0, 1) := by decide +kernel
theorem dX10_zeal_91 : decode cX10_zeal 91 = .ok (.invokevirtual 144, 3) := by decide +kernel
theorem dX10_zeal_94 : decode cX10_zeal 94 = .ok (.iinc 5 1, 3) := by decide +kernel
theorem dX10_zeal_97 : decode cX10_zeal 97 = .ok (.goto (-50), 3) := by decide +kernel
theorem dX10_zeal_100 : decode cX10_zeal 100 = .ok (.aload_n 0, 1) := by decide +kernel
theorem dX10_zeal_101 : decode cX10_zeal 101 = .ok (.iload 4, 2) := by decide +kernel
theorem dX10_zeal_103 : decode cX10_zeal 103 = .ok (.invokevirtual 110, 3) := by decide +kernel
theorem dX10_zeal_106 : decode cX10_zeal 106 = .ok (.ireturn, 1) := by decide +kernel
theorem dX10_skill_0 : decode cX10_skill 0 = .ok (.iload_n 1, 1) := by decide +kernel
theorem dX10_skill_1 : decode cX10_skill 1 = .ok (.invokestatic 49, 3) := by decide +kernel
theorem dX10_skill_4 : decode cX10_skill 4 = .ok (.ifCond .eq 14, 3) := by decide +kernel
theorem dX10_skill_7 : decode cX10_skill 7 = .ok (.iload_n 2, 1) := by decide +kernel
theorem dX10_skill_8 : decode cX10_skill 8 = .ok (.i2l, 1) := by decide +kernel
theorem dX10_skill_9 : decode cX10_skill 9 = .ok (.iconst 1, 1) := by decide +kernel
theorem dX10_skill_10 : decode cX10_skill 10 = .ok (.bipush 60, 2) := by decide +kernel
theorem dX10_skill_12 : decode cX10_skill 12 = .ok (.invokestatic 41, 3) := by decide +kernel
theorem dX10_skill_15 : decode cX10_skill 15 = .ok (.ifCond .ne 10, 3) := by decide +kernel
theorem dX10_skill_18 : decode cX10_skill 18 = .ok (.aload_n 0, 1) := by decide +kernel
theorem dX10_skill_19 : decode cX10_skill 19 = .ok (.ldc 35, 2) := by decide +kernel
theorem dX10_skill_21 : decode cX10_skill 21 = .ok (.invokevirtual 37, 3) := by decide +kernel
theorem dX10_skill_24 : decode cX10_skill 24 = .ok (.ireturn, 1) := by decide +kernel
theorem dX10_skill_25 : decode cX10_skill 25 = .ok (.aload_n 0, 1) := by decide +kernel
theorem dX10_skill_26 : decode cX10_skill 26 = .ok (.invokevirtual 141, 3) := by decide +kernel
theorem dX10_skill_29 : decode cX10_skill 29 = .ok (.iconst (-1), 1) := by decide +kernel
theorem dX10_skill_30 : decode cX10_skill 30 = .ok (.istore_n 3, 1) := by decide +kernel
theorem dX10_skill_31 : decode cX10_skill 31 = .ok (.iconst 0, 1) := by decide +kernel
theorem dX10_skill_32 : decode cX10_skill 32 = .ok (.istore 4, 2) := by decide +kernel
theorem dX10_skill_34 : decode cX10_skill 34 = .ok (.iload 4, 2) := by decide +kernel
theorem dX10_skill_36 : decode cX10_skill 36 = .ok (.bipush 20, 2) := by decide +kernel
theorem dX10_skill_38 : decode cX10_skill 38 = .ok (.if_icmp .gt 44, 3) := by decide +kernel
theorem dX10_skill_41 : decode cX10_skill 41 = .ok (.iload_n 3, 1) := by decide +kernel
theorem dX10_skill_42 : decode cX10_skill 42 = .ok (.ifCond .ge 40, 3) := by decide +kernel
theorem dX10_skill_45 : decode cX10_skill 45 = .ok (.aload_n 0, 1) := by decide +kernel
theorem dX10_skill_46 : decode cX10_skill 46 = .ok (.iload_n 1, 1) := by decide +kernel
theorem dX10_skill_47 : decode cX10_skill 47 = .ok (.iconst 0, 1) := by decide +kernel
theorem dX10_skill_48 : decode cX10_skill 48 = .ok (.iload 4, 2) := by decide +kernel
theorem dX10_skill_50 : decode cX10_skill 50 = .ok (.invokevirtual 97, 3) := by decide +kernel
theorem dX10_skill_53 : decode cX10_skill 53 = .ok (.aload_n 0, 1) := by decide +kernel
theorem dX10_skill_54 : decode cX10_skill 54 = .ok (.iload_n 2, 1) := by decide +kernel
theorem dX10_skill_55 : decode cX10_skill 55 = .ok (.invokevirtual 128, 3) := by decide +kernel
theorem dX10_skill_58 : decode cX10_skill 58 = .ok (.aload_n 0, 1) := by decide +kernel
theorem dX10_skill_59 : decode cX10_skill 59 = .ok (.invokevirtual 150, 3) := by decide +kernel
theorem dX10_skill_62 : decode cX10_skill 62 = .ok (.ifCond .eq 8, 3) := by decide +kernel
theorem dX10_skill_65 : decode cX10_skill 65 = .ok (.iload 4, 2) := by decide +kernel
theorem dX10_skill_67 : decode cX10_skill 67 = .ok (.goto 4, 3) := by decide +kernel
theorem dX10_skill_70 : decode cX10_skill 70 = .ok (.iconst (-1), 1) := by decide +kernel
theorem dX10_skill_71 : decode cX10_skill 71 = .ok (.istore_n 3, 1) := by decide +kernel
theorem dX10_skill_72 : decode cX10_skill 72 = .ok (.aload_n 0, 1) := by decide +kernel
theorem dX10_skill_73 : decode cX10_skill 73 = .ok (.invokevirtual 144, 3) := by decide +kernel
theorem dX10_skill_76 : decode cX10_skill 76 = .ok (.iinc 4 1, 3) := by decide +kernel
theorem dX10_skill_79 : decode cX10_skill 79 = .ok (.goto (-45), 3) := by decide +kernel
theorem dX10_skill_82 : decode cX10_skill 82 = .ok (.aload_n 0, 1) := by decide +kernel
theorem dX10_skill_83 : decode cX10_skill 83 = .ok (.iload_n 3, 1) := by decide +kernel
theorem dX10_skill_84 : decode cX10_skill 84 = .ok (.invokevirtual 110, 3) := by decide +kernel
theorem dX10_skill_87 : decode cX10_skill 87 = .ok (.ireturn, 1) := by decide +kernel
theorem dX10_maker_0 : decode cX10_maker 0 = .ok (.iload_n 1, 1) := by decide +kernel
theorem dX10_maker_1 : decode cX10_maker 1 = .ok (.i2l, 1) := by decide +kernel
theorem dX10_maker_2 : decode cX10_maker 2 = .ok (.iconst 0, 1) := by decide +kernel
theorem dX10_maker_3 : decode cX10_maker 3 = .ok (.bipush 100, 2) := by decide +kernel
theorem dX10_maker_5 : decode cX10_maker 5 = .ok (.invokestatic 41, 3) := by decide +kernel
theorem dX10_maker_8 : decode cX10_maker 8 = .ok (.ifCond .ne 10, 3) := by decide +kernel
theorem dX10_maker_11 : decode cX10_maker 11 = .ok (.aload_n 0, 1) := by decide +kernel
theorem dX10_maker_12 : decode cX10_maker 12 = .ok (.ldc 35, 2) := by decide +kernel
theorem dX10_maker_14 : decode cX10_maker 14 = .ok (.invokevirtual 37, 3) := by decide +kernel
theorem dX10_maker_17 : decode cX10_maker 17 = .ok (.ireturn, 1) := by decide +kernel
theorem dX10_maker_18 : decode cX10_maker 18 = .ok (.aload_n 0, 1) := by decide +kernel
theorem dX10_maker_19 : decode cX10_maker 19 = .ok (.invokevirtual 141, 3) := by decide +kernel
theorem dX10_maker_22 : decode cX10_maker 22 = .ok (.aload_n 0, 1) := by decide +kernel
theorem dX10_maker_23 : decode cX10_maker 23 = .ok (.iload_n 1, 1) := by decide +kernel
theorem dX10_maker_24 : decode cX10_maker 24 = .ok (.invokevirtual 128, 3) := by decide +kernel
theorem dX10_maker_27 : decode cX10_maker 27 = .ok (.iconst 0, 1) := by decide +kernel
theorem dX10_maker_28 : decode cX10_maker 28 = .ok (.istore_n 2, 1) := by decide +kernel
theorem dX10_maker_29 : decode cX10_maker 29 = .ok (.iconst 1, 1) := by decide +kernel
theorem dX10_maker_30 : decode cX10_maker 30 = .ok (.istore_n 3, 1) := by decide +kernel
theorem dX10_maker_31 : decode cX10_maker 31 = .ok (.iload_n 3, 1) := by decide +kernel
theorem dX10_maker_32 : decode cX10_maker 32 = .ok (.bipush 6, 2) := by decide +kernel
theorem dX10_maker_34 : decode cX10_maker 34 = .ok (.if_icmp .ge 30, 3) := by decide +kernel
theorem dX10_maker_37 : decode cX10_maker 37 = .ok (.aload_n 0, 1) := by decide +kernel
theorem dX10_maker_38 : decode cX10_maker 38 = .ok (.iload_n 3, 1) := by decide +kernel
theorem dX10_maker_39 : decode cX10_maker 39 = .ok (.iconst 2, 1) := by decide +kernel
theorem dX10_maker_40 : decode cX10_maker 40 = .ok (.invokevirtual 63, 3) := by decide +kernel
theorem dX10_maker_43 : decode cX10_maker 43 = .ok (.aload_n 0, 1) := by decide +kernel
theorem dX10_maker_44 : decode cX10_maker 44 = .ok (.iload_n 2, 1) := by decide +kernel
theorem dX10_maker_45 : decode cX10_maker 45 = .ok (.iconst 2, 1) := by decide +kernel
theorem dX10_maker_46 : decode cX10_maker 46 = .ok (.invokevirtual 63, 3) := by decide +kernel
theorem dX10_maker_49 : decode cX10_maker 49 = .ok (.if_icmp .le 7, 3) := by decide +kernel
theorem dX10_maker_52 : decode cX10_maker 52 = .ok (.iload_n 3, 1) := by decide +kernel
theorem dX10_maker_53 : decode cX10_maker 53 = .ok (.goto 4, 3) := by decide +kernel
theorem dX10_maker_56 : decode cX10_maker 56 = .ok (.iload_n 2, 1) := by decide +kernel
theorem dX10_maker_57 : decode cX10_maker 57 = .ok (.istore_n 2, 1) := by decide +kernel
theorem dX10_maker_58 : decode cX10_maker 58 = .ok (.iinc 3 1, 3) := by decide +kernel
theorem dX10_maker_61 : decode cX10_maker 61 = .ok (.goto (-30), 3) := by decide +kernel
theorem dX10_maker_64 : decode cX10_maker 64 = .ok (.aload_n 0, 1) := by decide +kernel
theorem dX10_maker_65 : decode cX10_maker 65 = .ok (.invokevirtual 144, 3) := by decide +kernel
theorem dX10_maker_68 : decode cX10_maker 68 = .ok (.iload_n 2, 1) := by decide +kernel
theorem dX10_maker_69 : decode cX10_maker 69 = .ok (.ireturn, 1) := by decide +kernel
theorem dX10_drop_0 : decode cX10_drop 0 = .ok (.iload_n 1, 1) := by decide +kernel
theorem dX10_drop_1 : decode cX10_drop 1 = .ok (.i2l, 1) := by decide +kernel
theorem dX10_drop_2 : decode cX10_drop 2 = .ok (.iconst 1, 1) := by decide +kernel
theorem dX10_drop_3 : decode cX10_drop 3 = .ok (.bipush 30, 2) := by decide +kernel
theorem dX10_drop_5 : decode cX10_drop 5 = .ok (.invokestatic 41, 3) := by decide +kernel
theorem dX10_drop_8 : decode cX10_drop 8 = .ok (.ifCond .ne 10, 3) := by decide +kernel
theorem dX10_drop_11 : decode cX10_drop 11 = .ok (.aload_n 0, 1) := by decide +kernel
theorem dX10_drop_12 : decode cX10_drop 12 = .ok (.ldc 35, 2) := by decide +kernel
theorem dX10_drop_14 : decode cX10_drop 14 = .ok (.invokevirtual 37, 3) := by decide +kernel
theorem dX10_drop_17 : decode cX10_drop 17 = .ok (.ireturn, 1) := by decide +kernel
theorem dX10_drop_18 : decode cX10_drop 18 = .ok (.aload_n 0, 1) := by decide +kernel
theorem dX10_drop_19 : decode cX10_drop 19 = .ok (.invokevirtual 141, 3) := by decide +kernel
theorem dX10_drop_22 : decode cX10_drop 22 = .ok (.iconst (-1), 1) := by decide +kernel
theorem dX10_drop_23 : decode cX10_drop 23 = .ok (.istore_n 2, 1) := by decide +kernel
theorem dX10_drop_24 : decode cX10_drop 24 = .ok (.iconst (-1), 1) := by decide +kernel
theorem dX10_drop_25 : decode cX10_drop 25 = .ok (.istore_n 3, 1) := by decide +kernel
theorem dX10_drop_26 : decode cX10_drop 26 = .ok (.iconst 0, 1) := by decide +kernel
theorem dX10_drop_27 : decode cX10_drop 27 = .ok (.istore 4, 2) := by decide +kernel
theorem dX10_drop_29 : decode cX10_drop 29 = .ok (.iload 4, 2) := by decide +kernel
theorem dX10_drop_31 : decode cX10_drop 31 = .ok (.aload_n 0, 1) := by decide +kernel
theorem dX10_drop_32 : decode cX10_drop 32 = .ok (.getfield 9, 3) := by decide +kernel
theorem dX10_drop_35 : decode cX10_drop 35 = .ok (.iconst 1, 1) := by decide +kernel
theorem dX10_drop_36 : decode cX10_drop 36 = .ok (.iaload, 1) := by decide +kernel
theorem dX10_drop_37 : decode cX10_drop 37 = .ok (.if_icmp .ge 68, 3) := by decide +kernel
theorem dX10_drop_40 : decode cX10_drop 40 = .ok (.aload_n 0, 1) := by decide +kernel
theorem dX10_drop_41 : decode cX10_drop 41 = .ok (.iload 4, 2) := by decide +kernel
theorem dX10_drop_43 : decode cX10_drop 43 = .ok (.invokevirtual 100, 3) := by decide +kernel
theorem dX10_drop_46 : decode cX10_drop 46 = .ok (.ifCond .eq 53, 3) := by decide +kernel
theorem dX10_drop_49 : decode cX10_drop 49 = .ok (.aload_n 0, 1) := by decide +kernel
theorem dX10_drop_50 : decode cX10_drop 50 = .ok (.iload 4, 2) := by decide +kernel
theorem dX10_drop_52 : decode cX10_drop 52 = .ok (.invokevirtual 103, 3) := by decide +kernel
theorem dX10_drop_55 : decode cX10_drop 55 = .ok (.istore 5, 2) := by decide +kernel
theorem dX10_drop_57 : decode cX10_drop 57 = .ok (.aload_n 0, 1) := by decide +kernel
theorem dX10_drop_58 : decode cX10_drop 58 = .ok (.iload_n 1, 1) := by decide +kernel
theorem dX10_drop_59 : decode cX10_drop 59 = .ok (.invokevirtual 128, 3) := by decide +kernel
theorem dX10_drop_62 : decode cX10_drop 62 = .ok (.aload_n 0, 1) := by decide +kernel
theorem dX10_drop_63 : decode cX10_drop 63 = .ok (.iconst 1, 1) := by decide +kernel
theorem dX10_drop_64 : decode cX10_drop 64 = .ok (.invokevirtual 131, 3) := by decide +kernel
theorem dX10_drop_67 : decode cX10_drop 67 = .ok (.istore 6, 2) := by decide +kernel
theorem dX10_drop_69 : decode cX10_drop 69 = .ok (.aload_n 0, 1) := by decide +kernel
theorem dX10_drop_70 : decode cX10_drop 70 = .ok (.invokevirtual 144, 3) := by decide +kernel
theorem dX10_drop_73 : decode cX10_drop 73 = .ok (.iload 6, 2) := by decide +kernel
theorem dX10_drop_75 : decode cX10_drop 75 = .ok (.iload_n 3, 1) := by decide +kernel
theorem dX10_drop_76 : decode cX10_drop 76 = .ok (.if_icmp .le 8, 3) := by decide +kernel
theorem dX10_drop_79 : decode cX10_drop 79 = .ok (.iload 4, 2) := by decide +kernel
theorem dX10_drop_81 : decode cX10_drop 81 = .ok (.goto 4, 3) := by decide +kernel
theorem dX10_drop_84 : decode cX10_drop 84 = .ok (.iload_n 2, 1) := by decide +kernel
theorem dX10_drop_85 : decode cX10_drop 85 = .ok (.istore_n 2, 1) := by decide +kernel
theorem dX10_drop_86 : decode cX10_drop 86 = .ok (.iload 6, 2) := by decide +kernel
theorem dX10_drop_88 : decode cX10_drop 88 = .ok (.iload_n 3, 1) := by decide +kernel
theorem dX10_drop_89 : decode cX10_drop 89 = .ok (.if_icmp .le 8, 3) := by decide +kernel
theorem dX10_drop_92 : decode cX10_drop 92 = .ok (.iload 6, 2) := by decide +kernel
theorem dX10_drop_94 : decode cX10_drop 94 = .ok (.goto 4, 3) := by decide +kernel
theorem dX10_drop_97 : decode cX10_drop 97 = .ok (.iload_n 3, 1) := by decide +kernel
theorem dX10_drop_98 : decode cX10_drop 98 = .ok (.istore_n 3, 1) := by decide +kernel
theorem dX10_drop_99 : decode cX10_drop 99 = .ok (.iinc 4 1, 3) := by decide +kernel
theorem dX10_drop_102 : decode cX10_drop 102 = .ok (.goto (-73), 3) := by decide +kernel
theorem dX10_drop_105 : decode cX10_drop 105 = .ok (.aload_n 0, 1) := by decide +kernel
theorem dX10_drop_106 : decode cX10_drop 106 = .ok (.iload_n 2, 1) := by decide +kernel
theorem dX10_drop_107 : decode cX10_drop 107 = .ok (.invokevirtual 110, 3) := by decide +kernel
theorem dX10_drop_110 : decode cX10_drop 110 = .ok (.ireturn, 1) := by decide +kernel
theorem dX10_feed_0 : decode cX10_feed 0 = .ok (.iload_n 2, 1) := by decide +kernel
theorem dX10_feed_1 : decode cX10_feed 1 = .ok (.i2l, 1) := by decide +kernel
theorem dX10_feed_2 : decode cX10_feed 2 = .ok (.iconst 1, 1) := by decide +kernel
theorem dX10_feed_3 : decode cX10_feed 3 = .ok (.iconst 4, 1) := by decide +kernel
theorem dX10_feed_4 : decode cX10_feed 4 = .ok (.invokestatic 41, 3) := by decide +kernel
theorem dX10_feed_7 : decode cX10_feed 7 = .ok (.ifCond .ne 10, 3) := by decide +kernel
theorem dX10_feed_10 : decode cX10_feed 10 = .ok (.aload_n 0, 1) := by decide +kernel
theorem dX10_feed_11 : decode cX10_feed 11 = .ok (.ldc 35, 2) := by decide +kernel
theorem dX10_feed_13 : decode cX10_feed 13 = .ok (.invokevirtual 37, 3) := by decide +kernel
theorem dX10_feed_16 : decode cX10_feed 16 = .ok (.ireturn, 1) := by decide +kernel
theorem dX10_feed_17 : decode cX10_feed 17 = .ok (.aload_n 0, 1) := by decide +kernel
theorem dX10_feed_18 : decode cX10_feed 18 = .ok (.getfield 157, 3) := by decide +kernel
theorem dX10_feed_21 : decode cX10_feed 21 = .ok (.iload_n 2, 1) := by decide +kernel
theorem dX10_feed_22 : decode cX10_feed 22 = .ok (.iadd, 1) := by decide +kernel
theorem dX10_feed_23 : decode cX10_feed 23 = .ok (.bipush 120, 2) := by decide +kernel
theorem dX10_feed_25 : decode cX10_feed 25 = .ok (.if_icmp .le 10, 3) := by decide +kernel
theorem dX10_feed_28 : decode cX10_feed 28 = .ok (.aload_n 0, 1) := by decide +kernel
theorem dX10_feed_29 : decode cX10_feed 29 = .ok (.ldc 76, 2) := by decide +kernel
theorem dX10_feed_31 : decode cX10_feed 31 = .ok (.invokevirtual 37, 3) := by decide +kernel
theorem dX10_feed_34 : decode cX10_feed 34 = .ok (.ireturn, 1) := by decide +kernel
theorem dX10_feed_35 : decode cX10_feed 35 = .ok (.iload_n 2, 1) := by decide +kernel
theorem dX10_feed_36 : decode cX10_feed 36 = .ok (.iconst 1, 1) := by decide +kernel
theorem dX10_feed_37 : decode cX10_feed 37 = .ok (.isub, 1) := by decide +kernel
theorem dX10_feed_38 : decode cX10_feed 38 = .ok (.istore_n 3, 1) := by decide +kernel
theorem dX10_feed_39 : decode cX10_feed 39 = .ok (.iload_n 3, 1) := by decide +kernel
theorem dX10_feed_40 : decode cX10_feed 40 = .ok (.ifCond .lt 38, 3) := by decide +kernel
theorem dX10_feed_43 : decode cX10_feed 43 = .ok (.aload_n 0, 1) := by decide +kernel
theorem dX10_feed_44 : decode cX10_feed 44 = .ok (.getfield 22, 3) := by decide +kernel
theorem dX10_feed_47 : decode cX10_feed 47 = .ok (.aload_n 0, 1) := by decide +kernel
theorem dX10_feed_48 : decode cX10_feed 48 = .ok (.getfield 157, 3) := by decide +kernel
theorem dX10_feed_51 : decode cX10_feed 51 = .ok (.iload_n 1, 1) := by decide +kernel
theorem dX10_feed_52 : decode cX10_feed 52 = .ok (.bipush 8, 2) := by decide +kernel
theorem dX10_feed_54 : decode cX10_feed 54 = .ok (.iload_n 3, 1) := by decide +kernel
theorem dX10_feed_55 : decode cX10_feed 55 = .ok (.imul, 1) := by decide +kernel
theorem dX10_feed_56 : decode cX10_feed 56 = .ok (.ishr, 1) := by decide +kernel
theorem dX10_feed_57 : decode cX10_feed 57 = .ok (.sipush 255, 3) := by decide +kernel
theorem dX10_feed_60 : decode cX10_feed 60 = .ok (.iand, 1) := by decide +kernel
theorem dX10_feed_61 : decode cX10_feed 61 = .ok (.iastore, 1) := by decide +kernel
theorem dX10_feed_62 : decode cX10_feed 62 = .ok (.aload_n 0, 1) := by decide +kernel
theorem dX10_feed_63 : decode cX10_feed 63 = .ok (.dup, 1) := by decide +kernel
theorem dX10_feed_64 : decode cX10_feed 64 = .ok (.getfield 157, 3) := by decide +kernel
theorem dX10_feed_67 : decode cX10_feed 67 = .ok (.iconst 1, 1) := by decide +kernel
theorem dX10_feed_68 : decode cX10_feed 68 = .ok (.iadd, 1) := by decide +kernel
theorem dX10_feed_69 : decode cX10_feed 69 = .ok (.putfield 157, 3) := by decide +kernel
theorem dX10_feed_72 : decode cX10_feed 72 = .ok (.iinc 3 (-1), 3) := by decide +kernel
theorem dX10_feed_75 : decode cX10_feed 75 = .ok (.goto (-36), 3) := by decide +kernel
theorem dX10_feed_78 : decode cX10_feed 78 = .ok (.aload_n 0, 1) := by decide +kernel
theorem dX10_feed_79 : decode cX10_feed 79 = .ok (.getfield 157, 3) := by decide +kernel
theorem dX10_feed_82 : decode cX10_feed 82 = .ok (.ireturn, 1) := by decide +kernel
theorem dX10_wipe_0 : decode cX10_wipe 0 = .ok (.aload_n 0, 1) := by decide +kernel
theorem dX10_wipe_1 : decode cX10_wipe 1 = .ok (.getfield 157, 3) := by decide +kernel
theorem dX10_wipe_4 : decode cX10_wipe 4 = .ok (.istore_n 1, 1) := by decide +kernel
theorem dX10_wipe_5 : decode cX10_wipe 5 = .ok (.aload_n 0, 1) := by decide +kernel
theorem dX10_wipe_6 : decode cX10_wipe 6 = .ok (.iconst 0, 1) := by decide +kernel
theorem dX10_wipe_7 : decode cX10_wipe 7 = .ok (.putfield 157, 3) := by decide +kernel
theorem dX10_wipe_10 : decode cX10_wipe 10 = .ok (.iload_n 1, 1) := by decide +kernel
theorem dX10_wipe_11 : decode cX10_wipe 11 = .ok (.ireturn, 1) := by decide +kernel
theorem dX10_isByte_0 : decode cX10_isByte 0 = .ok (.iload_n 1, 1) := by decide +kernel
theorem dX10_isByte_1 : decode cX10_isByte 1 = .ok (.aload_n 0, 1) := by decide +kernel
theorem dX10_isByte_2 : decode cX10_isByte 2 = .ok (.getfield 157, 3) := by decide +kernel
theorem dX10_isByte_5 : decode cX10_isByte 5 = .ok (.if_icmp .ge 22, 3) := by decide +kernel
theorem dX10_isByte_8 : decode cX10_isByte 8 = .ok (.aload_n 0, 1) := by decide +kernel
theorem dX10_isByte_9 : decode cX10_isByte 9 = .ok (.getfield 22, 3) := by decide +kernel
theorem dX10_isByte_12 : decode cX10_isByte 12 = .ok (.iload_n 1, 1) := by decide +kernel
theorem dX10_isByte_13 : decode cX10_isByte 13 = .ok (.iaload, 1) := by decide +kernel
theorem dX10_isByte_14 : decode cX10_isByte 14 = .ok (.i2l, 1) := by decide +kernel
theorem dX10_isByte_15 : decode cX10_isByte 15 = .ok (.iload_n 2, 1) := by decide +kernel
theorem dX10_isByte_16 : decode cX10_isByte 16 = .ok (.iload_n 3, 1) := by decide +kernel
theorem dX10_isByte_17 : decode cX10_isByte 17 = .ok (.invokestatic 41, 3) := by decide +kernel
theorem dX10_isByte_20 : decode cX10_isByte 20 = .ok (.ifCond .eq 7, 3) := by decide +kernel
theorem dX10_isByte_23 : decode cX10_isByte 23 = .ok (.iconst 1, 1) := by decide +kernel
theorem dX10_isByte_24 : decode cX10_isByte 24 = .ok (.goto 4, 3) := by decide +kernel
theorem dX10_isByte_27 : decode cX10_isByte 27 = .ok (.iconst 0, 1) := by decide +kernel
theorem dX10_isByte_28 : decode cX10_isByte 28 = .ok (.ireturn, 1) := by decide +kernel
theorem dX10_isName_0 : decode cX10_isName 0 = .ok (.iload_n 2, 1) := by decide +kernel
theorem dX10_isName_1 : decode cX10_isName 1 = .ok (.bipush 7, 2) := by decide +kernel
theorem dX10_isName_3 : decode cX10_isName 3 = .ok (.if_icmp .gt 26, 3) := by decide +kernel
theorem dX10_isName_6 : decode cX10_isName 6 = .ok (.iload_n 2, 1) := by decide +kernel
theorem dX10_isName_7 : decode cX10_isName 7 = .ok (.bipush 7, 2) := by decide +kernel
theorem dX10_isName_9 : decode cX10_isName 9 = .ok (.if_icmp .eq 16, 3) := by decide +kernel
theorem dX10_isName_12 : decode cX10_isName 12 = .ok (.getstatic 161, 3) := by decide +kernel
theorem dX10_isName_15 : decode cX10_isName 15 = .ok (.bipush 7, 2) := by decide +kernel
theorem dX10_isName_17 : decode cX10_isName 17 = .ok (.iload_n 1, 1) := by decide +kernel
theorem dX10_isName_18 : decode cX10_isName 18 = .ok (.imul, 1) := by decide +kernel
theorem dX10_isName_19 : decode cX10_isName 19 = .ok (.iload_n 2, 1) := by decide +kernel
theorem dX10_isName_20 : decode cX10_isName 20 = .ok (.iadd, 1) := by decide +kernel
theorem dX10_isName_21 : decode cX10_isName 21 = .ok (.iaload, 1) := by decide +kernel
theorem dX10_isName_22 : decode cX10_isName 22 = .ok (.ifCond .ne 7, 3) := by decide +kernel
theorem dX10_isName_25 : decode cX10_isName 25 = .ok (.iconst 1, 1) := by decide +kernel
theorem dX10_isName_26 : decode cX10_isName 26 = .ok (.goto 4, 3) := by decide +kernel
theorem dX10_isName_29 : decode cX10_isName 29 = .ok (.iconst 0, 1) := by decide +kernel
theorem dX10_isName_30 : decode cX10_isName 30 = .ok (.istore_n 3, 1) := by decide +kernel
theorem dX10_isName_31 : decode cX10_isName 31 = .ok (.iconst 0, 1) := by decide +kernel
theorem dX10_isName_32 : decode cX10_isName 32 = .ok (.istore 4, 2) := by decide +kernel
theorem dX10_isName_34 : decode cX10_isName 34 = .ok (.iload 4, 2) := by decide +kernel
theorem dX10_isName_36 : decode cX10_isName 36 = .ok (.iload_n 2, 1) := by decide +kernel
theorem dX10_isName_37 : decode cX10_isName 37 = .ok (.if_icmp .ge 45, 3) := by decide +kernel
theorem dX10_isName_40 : decode cX10_isName 40 = .ok (.iload_n 3, 1) := by decide +kernel
theorem dX10_isName_41 : decode cX10_isName 41 = .ok (.ifCond .eq 41, 3) := by decide +kernel
theorem dX10_isName_44 : decode cX10_isName 44 = .ok (.getstatic 161, 3) := by decide +kernel
theorem dX10_isName_47 : decode cX10_isName 47 = .ok (.bipush 7, 2) := by decide +kernel
theorem dX10_isName_49 : decode cX10_isName 49 = .ok (.iload_n 1, 1) := by decide +kernel
theorem dX10_isName_50 : decode cX10_isName 50 = .ok (.imul, 1) := by decide +kernel
theorem dX10_isName_51 : decode cX10_isName 51 = .ok (.iload 4, 2) := by decide +kernel
theorem dX10_isName_53 : decode cX10_isName 53 = .ok (.iadd, 1) := by decide +kernel
theorem dX10_isName_54 : decode cX10_isName 54 = .ok (.iaload, 1) := by decide +kernel
theorem dX10_isName_55 : decode cX10_isName 55 = .ok (.aload_n 0, 1) := by decide +kernel
theorem dX10_isName_56 : decode cX10_isName 56 = .ok (.getfield 22, 3) := by decide +kernel
theorem dX10_isName_59 : decode cX10_isName 59 = .ok (.aload_n 0, 1) := by decide +kernel
theorem dX10_isName_60 : decode cX10_isName 60 = .ok (.getfield 164, 3) := by decide +kernel
theorem dX10_isName_63 : decode cX10_isName 63 = .ok (.iload 4, 2) := by decide +kernel
theorem dX10_isName_65 : decode cX10_isName 65 = .ok (.iadd, 1) := by decide +kernel
theorem dX10_isName_66 : decode cX10_isName 66 = .ok (.iaload, 1) := by decide +kernel
theorem dX10_isName_67 : decode cX10_isName 67 = .ok (.if_icmp .ne 7, 3) := by decide +kernel
theorem dX10_isName_70 : decode cX10_isName 70 = .ok (.iconst 1, 1) := by decide +kernel
theorem dX10_isName_71 : decode cX10_isName 71 = .ok (.goto 4, 3) := by decide +kernel
theorem dX10_isName_74 : decode cX10_isName 74 = .ok (.iconst 0, 1) := by decide +kernel
theorem dX10_isName_75 : decode cX10_isName 75 = .ok (.istore_n 3, 1) := by decide +kernel
theorem dX10_isName_76 : decode cX10_isName 76 = .ok (.iinc 4 1, 3) := by decide +kernel
theorem dX10_isName_79 : decode cX10_isName 79 = .ok (.goto (-45), 3) := by decide +kernel
theorem dX10_isName_82 : decode cX10_isName 82 = .ok (.iload_n 3, 1) := by decide +kernel
theorem dX10_isName_83 : decode cX10_isName 83 = .ok (.ireturn, 1) := by decide +kernel
theorem dX10_wordHere_0 : decode cX10_wordHere 0 = .ok (.iconst 0, 1) := by decide +kernel
theorem dX10_wordHere_1 : decode cX10_wordHere 1 = .ok (.istore_n 1, 1) := by decide +kernel
theorem dX10_wordHere_2 : decode cX10_wordHere 2 = .ok (.iload_n 1, 1) := by decide +kernel
theorem dX10_wordHere_3 : decode cX10_wordHere 3 = .ok (.bipush 10, 2) := by decide +kernel
theorem dX10_wordHere_5 : decode cX10_wordHere 5 = .ok (.if_icmp .ge 26, 3) := by decide +kernel
theorem dX10_wordHere_8 : decode cX10_wordHere 8 = .ok (.aload_n 0, 1) := by decide +kernel
theorem dX10_wordHere_9 : decode cX10_wordHere 9 = .ok (.iload_n 1, 1) := by decide +kernel
theorem dX10_wordHere_10 : decode cX10_wordHere 10 = .ok (.aload_n 0, 1) := by decide +kernel
theorem dX10_wordHere_11 : decode cX10_wordHere 11 = .ok (.getfield 167, 3) := by decide +kernel
theorem dX10_wordHere_14 : decode cX10_wordHere 14 = .ok (.aload_n 0, 1) := by decide +kernel
theorem dX10_wordHere_15 : decode cX10_wordHere 15 = .ok (.getfield 164, 3) := by decide +kernel
theorem dX10_wordHere_18 : decode cX10_wordHere 18 = .ok (.isub, 1) := by decide +kernel
theorem dX10_wordHere_19 : decode cX10_wordHere 19 = .ok (.invokevirtual 170, 3) := by decide +kernel
theorem dX10_wordHere_22 : decode cX10_wordHere 22 = .ok (.ifCond .ne 9, 3) := by decide +kernel
theorem dX10_wordHere_25 : decode cX10_wordHere 25 = .ok (.iinc 1 1, 3) := by decide +kernel
theorem dX10_wordHere_28 : decode cX10_wordHere 28 = .ok (.goto (-26), 3) := by decide +kernel
theorem dX10_wordHere_31 : decode cX10_wordHere 31 = .ok (.iload_n 1, 1) := by decide +kernel
theorem dX10_wordHere_32 : decode cX10_wordHere 32 = .ok (.bipush 10, 2) := by decide +kernel
theorem dX10_wordHere_34 : decode cX10_wordHere 34 = .ok (.if_icmp .ge 7, 3) := by decide +kernel
theorem dX10_wordHere_37 : decode cX10_wordHere 37 = .ok (.iload_n 1, 1) := by decide +kernel
theorem dX10_wordHere_38 : decode cX10_wordHere 38 = .ok (.goto 5, 3) := by decide +kernel
theorem dX10_wordHere_41 : decode cX10_wordHere 41 = .ok (.bipush 23, 2) := by decide +kernel
theorem dX10_wordHere_43 : decode cX10_wordHere 43 = .ok (.ireturn, 1) := by decide +kernel
theorem dX10_reads_0 : decode cX10_reads 0 = .ok (.aload_n 0, 1) := by decide +kernel
theorem dX10_reads_1 : decode cX10_reads 1 = .ok (.aload_n 0, 1) := by decide +kernel
theorem dX10_reads_2 : decode cX10_reads 2 = .ok (.getfield 167, 3) := by decide +kernel
theorem dX10_reads_5 : decode cX10_reads 5 = .ok (.bipush 32, 2) := by decide +kernel
theorem dX10_reads_7 : decode cX10_reads 7 = .ok (.bipush 32, 2) := by decide +kernel
theorem dX10_reads_9 : decode cX10_reads 9 = .ok (.invokevirtual 173, 3) := by decide +kernel
theorem dX10_reads_12 : decode cX10_reads 12 = .ok (.ifCond .eq 16, 3) := by decide +kernel
theorem dX10_reads_15 : decode cX10_reads 15 = .ok (.aload_n 0, 1) := by decide +kernel
theorem dX10_reads_16 : decode cX10_reads 16 = .ok (.dup, 1) := by decide +kernel
theorem dX10_reads_17 : decode cX10_reads 17 = .ok (.getfield 167, 3) := by decide +kernel
theorem dX10_reads_20 : decode cX10_reads 20 = .ok (.iconst 1, 1) := by decide +kernel
theorem dX10_reads_21 : decode cX10_reads 21 = .ok (.iadd, 1) := by decide +kernel
theorem dX10_reads_22 : decode cX10_reads 22 = .ok (.putfield 167, 3) := by decide +kernel
theorem dX10_reads_25 : decode cX10_reads 25 = .ok (.goto (-25), 3) := by decide +kernel
theorem dX10_reads_28 : decode cX10_reads 28 = .ok (.aload_n 0, 1) := by decide +kernel
theorem dX10_reads_29 : decode cX10_reads 29 = .ok (.aload_n 0, 1) := by decide +kernel
theorem dX10_reads_30 : decode cX10_reads 30 = .ok (.getfield 167, 3) := by decide +kernel
theorem dX10_reads_33 : decode cX10_reads 33 = .ok (.putfield 164, 3) := by decide +kernel
theorem dX10_reads_36 : decode cX10_reads 36 = .ok (.aload_n 0, 1) := by decide +kernel
theorem dX10_reads_37 : decode cX10_reads 37 = .ok (.iconst 0, 1) := by decide +kernel
theorem dX10_reads_38 : decode cX10_reads 38 = .ok (.putfield 177, 3) := by decide +kernel
theorem dX10_reads_41 : decode cX10_reads 41 = .ok (.aload_n 0, 1) := by decide +kernel
theorem dX10_reads_42 : decode cX10_reads 42 = .ok (.getfield 167, 3) := by decide +kernel
theorem dX10_reads_45 : decode cX10_reads 45 = .ok (.aload_n 0, 1) := by decide +kernel
theorem dX10_reads_46 : decode cX10_reads 46 = .ok (.getfield 157, 3) := by decide +kernel
theorem dX10_reads_49 : decode cX10_reads 49 = .ok (.if_icmp .ne 12, 3) := by decide +kernel
theorem dX10_reads_52 : decode cX10_reads 52 = .ok (.aload_n 0, 1) := by decide +kernel
theorem dX10_reads_53 : decode cX10_reads 53 = .ok (.bipush 22, 2) := by decide +kernel
theorem dX10_reads_55 : decode cX10_reads 55 = .ok (.putfield 180, 3) := by decide +kernel
theorem dX10_reads_58 : decode cX10_reads 58 = .ok (.goto 186, 3) := by decide +kernel
theorem dX10_reads_61 : decode cX10_reads 61 = .ok (.aload_n 0, 1) := by decide +kernel
theorem dX10_reads_62 : decode cX10_reads 62 = .ok (.aload_n 0, 1) := by decide +kernel
theorem dX10_reads_63 : decode cX10_reads 63 = .ok (.getfield 167, 3) := by decide +kernel
theorem dX10_reads_66 : decode cX10_reads 66 = .ok (.bipush 97, 2) := by decide +kernel
theorem dX10_reads_68 : decode cX10_reads 68 = .ok (.bipush 122, 2) := by decide +kernel
theorem dX10_reads_70 : decode cX10_reads 70 = .ok (.invokevirtual 173, 3) := by decide +kernel
theorem dX10_reads_73 : decode cX10_reads 73 = .ok (.ifCond .eq 42, 3) := by decide +kernel
theorem dX10_reads_76 : decode cX10_reads 76 = .ok (.aload_n 0, 1) := by decide +kernel
theorem dX10_reads_77 : decode cX10_reads 77 = .ok (.aload_n 0, 1) := by decide +kernel
theorem dX10_reads_78 : decode cX10_reads 78 = .ok (.getfield 167, 3) := by decide +kernel
theorem dX10_reads_81 : decode cX10_reads 81 = .ok (.bipush 97, 2) := by decide +kernel
theorem dX10_reads_83 : decode cX10_reads 83 = .ok (.bipush 122, 2) := by decide +kernel
theorem dX10_reads_85 : decode cX10_reads 85 = .ok (.invokevirtual 173, 3) := by decide +kernel
theorem dX10_reads_88 : decode cX10_reads 88 = .ok (.ifCond .eq 16, 3) := by decide +kernel
theorem dX10_reads_91 : decode cX10_reads 91 = .ok (.aload_n 0, 1) := by decide +kernel
theorem dX10_reads_92 : decode cX10_reads 92 = .ok (.dup, 1) := by decide +kernel
theorem dX10_reads_93 : decode cX10_reads 93 = .ok (.getfield 167, 3) := by decide +kernel
theorem dX10_reads_96 : decode cX10_reads 96 = .ok (.iconst 1, 1) := by decide +kernel
theorem dX10_reads_97 : decode cX10_reads 97 = .ok (.iadd, 1) := by decide +kernel
theorem dX10_reads_98 : decode cX10_reads 98 = .ok (.putfield 167, 3) := by decide +kernel
theorem dX10_reads_101 : decode cX10_reads 101 = .ok (.goto (-25), 3) := by decide +kernel
theorem dX10_reads_104 : decode cX10_reads 104 = .ok (.aload_n 0, 1) := by decide +kernel
theorem dX10_reads_105 : decode cX10_reads 105 = .ok (.aload_n 0, 1) := by decide +kernel
theorem dX10_reads_106 : decode cX10_reads 106 = .ok (.invokevirtual 183, 3) := by decide +kernel
theorem dX10_reads_109 : decode cX10_reads 109 = .ok (.putfield 180, 3) := by decide +kernel
theorem dX10_reads_112 : decode cX10_reads 112 = .ok (.goto 132, 3) := by decide +kernel
theorem dX10_reads_115 : decode cX10_reads 115 = .ok (.aload_n 0, 1) := by decide +kernel
theorem dX10_reads_116 : decode cX10_reads 116 = .ok (.aload_n 0, 1) := by decide +kernel
theorem dX10_reads_117 : decode cX10_reads 117 = .ok (.getfield 167, 3) := by decide +kernel
theorem dX10_reads_120 : decode cX10_reads 120 = .ok (.bipush 48, 2) := by decide +kernel
theorem dX10_reads_122 : decode cX10_reads 122 = .ok (.bipush 57, 2) := by decide +kernel
theorem dX10_reads_124 : decode cX10_reads 124 = .ok (.invokevirtual 173, 3) := by decide +kernel
theorem dX10_reads_127 : decode cX10_reads 127 = .ok (.ifCond .eq 81, 3) := by decide +kernel
theorem dX10_reads_130 : decode cX10_reads 130 = .ok (.aload_n 0, 1) := by decide +kernel
theorem dX10_reads_131 : decode cX10_reads 131 = .ok (.aload_n 0, 1) := by decide +kernel
theorem dX10_reads_132 : decode cX10_reads 132 = .ok (.getfield 167, 3) := by decide +kernel
theorem dX10_reads_135 : decode cX10_reads 135 = .ok (.bipush 48, 2) := by decide +kernel
theorem dX10_reads_137 : decode cX10_reads 137 = .ok (.bipush 57, 2) := by decide +kernel
theorem dX10_reads_139 : decode cX10_reads 139 = .ok (.invokevirtual 173, 3) := by decide +kernel
theorem dX10_reads_142 : decode cX10_reads 142 = .ok (.ifCond .eq 57, 3) := by decide +kernel
theorem dX10_reads_145 : decode cX10_reads 145 = .ok (.aload_n 0, 1) := by decide +kernel
theorem dX10_reads_146 : decode cX10_reads 146 = .ok (.aload_n 0, 1) := by decide +kernel
theorem dX10_reads_147 : decode cX10_reads 147 = .ok (.getfield 177, 3) := by decide +kernel
theorem dX10_reads_150 : decode cX10_reads 150 = .ok (.sipush 999, 3) := by decide +kernel
theorem dX10_reads_153 : decode cX10_reads 153 = .ok (.if_icmp .le 10, 3) := by decide +kernel
theorem dX10_reads_156 : decode cX10_reads 156 = .ok (.aload_n 0, 1) := by decide +kernel
theorem dX10_reads_157 : decode cX10_reads 157 = .ok (.getfield 177, 3) := by decide +kernel
theorem dX10_reads_160 : decode cX10_reads 160 = .ok (.goto 23, 3) := by decide +kernel
theorem dX10_reads_163 : decode cX10_reads 163 = .ok (.bipush 10, 2) := by decide +kernel
theorem dX10_reads_165 : decode cX10_reads 165 = .ok (.aload_n 0, 1) := by decide +kernel
theorem dX10_reads_166 : decode cX10_reads 166 = .ok (.getfield 177, 3) := by decide +kernel
theorem dX10_reads_169 : decode cX10_reads 169 = .ok (.imul, 1) := by decide +kernel
theorem dX10_reads_170 : decode cX10_reads 170 = .ok (.aload_n 0, 1) := by decide +kernel
theorem dX10_reads_171 : decode cX10_reads 171 = .ok (.getfield 22, 3) := by decide +kernel
theorem dX10_reads_174 : decode cX10_reads 174 = .ok (.aload_n 0, 1) := by decide +kernel
theorem dX10_reads_175 : decode cX10_reads 175 = .ok (.getfield 167, 3) := by decide +kernel
theorem dX10_reads_178 : decode cX10_reads 178 = .ok (.iaload, 1) := by decide +kernel
theorem dX10_reads_179 : decode cX10_reads 179 = .ok (.iadd, 1) := by decide +kernel
theorem dX10_reads_180 : decode cX10_reads 180 = .ok (.bipush 48, 2) := by decide +kernel
theorem dX10_reads_182 : decode cX10_reads 182 = .ok (.isub, 1) := by decide +kernel
theorem dX10_reads_183 : decode cX10_reads 183 = .ok (.putfield 177, 3) := by decide +kernel
theorem dX10_reads_186 : decode cX10_reads 186 = .ok (.aload_n 0, 1) := by decide +kernel
theorem dX10_reads_187 : decode cX10_reads 187 = .ok (.dup, 1) := by decide +kernel
theorem dX10_reads_188 : decode cX10_reads 188 = .ok (.getfield 167, 3) := by decide +kernel
theorem dX10_reads_191 : decode cX10_reads 191 = .ok (.iconst 1, 1) := by decide +kernel
theorem dX10_reads_192 : decode cX10_reads 192 = .ok (.iadd, 1) := by decide +kernel
theorem dX10_reads_193 : decode cX10_reads 193 = .ok (.putfield 167, 3) := by decide +kernel
theorem dX10_reads_196 : decode cX10_reads 196 = .ok (.goto (-66), 3) := by decide +kernel
theorem dX10_reads_199 : decode cX10_reads 199 = .ok (.aload_n 0, 1) := by decide +kernel
theorem dX10_reads_200 : decode cX10_reads 200 = .ok (.bipush 20, 2) := by decide +kernel
theorem dX10_reads_202 : decode cX10_reads 202 = .ok (.putfield 180, 3) := by decide +kernel
theorem dX10_reads_205 : decode cX10_reads 205 = .ok (.goto 39, 3) := by decide +kernel
theorem dX10_reads_208 : decode cX10_reads 208 = .ok (.aload_n 0, 1) := by decide +kernel
theorem dX10_reads_209 : decode cX10_reads 209 = .ok (.aload_n 0, 1) := by decide +kernel
theorem dX10_reads_210 : decode cX10_reads 210 = .ok (.aload_n 0, 1) := by decide +kernel
theorem dX10_reads_211 : decode cX10_reads 211 = .ok (.getfield 167, 3) := by decide +kernel
theorem dX10_reads_214 : decode cX10_reads 214 = .ok (.bipush 59, 2) := by decide +kernel
theorem dX10_reads_216 : decode cX10_reads 216 = .ok (.bipush 59, 2) := by decide +kernel
theorem dX10_reads_218 : decode cX10_reads 218 = .ok (.invokevirtual 173, 3) := by decide +kernel
theorem dX10_reads_221 : decode cX10_reads 221 = .ok (.ifCond .eq 8, 3) := by decide +kernel
theorem dX10_reads_224 : decode cX10_reads 224 = .ok (.bipush 21, 2) := by decide +kernel
theorem dX10_reads_226 : decode cX10_reads 226 = .ok (.goto 5, 3) := by decide +kernel
theorem dX10_reads_229 : decode cX10_reads 229 = .ok (.bipush 23, 2) := by decide +kernel
theorem dX10_reads_231 : decode cX10_reads 231 = .ok (.putfield 180, 3) := by decide +kernel
theorem dX10_reads_234 : decode cX10_reads 234 = .ok (.aload_n 0, 1) := by decide +kernel
theorem dX10_reads_235 : decode cX10_reads 235 = .ok (.dup, 1) := by decide +kernel
theorem dX10_reads_236 : decode cX10_reads 236 = .ok (.getfield 167, 3) := by decide +kernel
theorem dX10_reads_239 : decode cX10_reads 239 = .ok (.iconst 1, 1) := by decide +kernel
theorem dX10_reads_240 : decode cX10_reads 240 = .ok (.iadd, 1) := by decide +kernel
theorem dX10_reads_241 : decode cX10_reads 241 = .ok (.putfield 167, 3) := by decide +kernel
theorem dX10_reads_244 : decode cX10_reads 244 = .ok (.return_, 1) := by decide +kernel
theorem dX10_passes_0 : decode cX10_passes 0 = .ok (.aload_n 0, 1) := by decide +kernel
theorem dX10_passes_1 : decode cX10_passes 1 = .ok (.getfield 186, 3) := by decide +kernel
theorem dX10_passes_4 : decode cX10_passes 4 = .ok (.ifCond .ne 11, 3) := by decide +kernel
theorem dX10_passes_7 : decode cX10_passes 7 = .ok (.aload_n 0, 1) := by decide +kernel
theorem dX10_passes_8 : decode cX10_passes 8 = .ok (.getfield 180, 3) := by decide +kernel
theorem dX10_passes_11 : decode cX10_passes 11 = .ok (.iload_n 1, 1) := by decide +kernel
theorem dX10_passes_12 : decode cX10_passes 12 = .ok (.if_icmp .eq 5, 3) := by decide +kernel
theorem dX10_passes_15 : decode cX10_passes 15 = .ok (.iconst 0, 1) := by decide +kernel
theorem dX10_passes_16 : decode cX10_passes 16 = .ok (.ireturn, 1) := by decide +kernel
theorem dX10_passes_17 : decode cX10_passes 17 = .ok (.aload_n 0, 1) := by decide +kernel
theorem dX10_passes_18 : decode cX10_passes 18 = .ok (.invokevirtual 190, 3) := by decide +kernel
theorem dX10_passes_21 : decode cX10_passes 21 = .ok (.iconst 1, 1) := by decide +kernel
theorem dX10_passes_22 : decode cX10_passes 22 = .ok (.ireturn, 1) := by decide +kernel
theorem dX10_number_0 : decode cX10_number 0 = .ok (.aload_n 0, 1) := by decide +kernel
theorem dX10_number_1 : decode cX10_number 1 = .ok (.getfield 177, 3) := by decide +kernel
theorem dX10_number_4 : decode cX10_number 4 = .ok (.istore_n 3, 1) := by decide +kernel
theorem dX10_number_5 : decode cX10_number 5 = .ok (.aload_n 0, 1) := by decide +kernel
theorem dX10_number_6 : decode cX10_number 6 = .ok (.aload_n 0, 1) := by decide +kernel
theorem dX10_number_7 : decode cX10_number 7 = .ok (.getfield 186, 3) := by decide +kernel
theorem dX10_number_10 : decode cX10_number 10 = .ok (.ifCond .ne 22, 3) := by decide +kernel
theorem dX10_number_13 : decode cX10_number 13 = .ok (.aload_n 0, 1) := by decide +kernel
theorem dX10_number_14 : decode cX10_number 14 = .ok (.getfield 180, 3) := by decide +kernel
theorem dX10_number_17 : decode cX10_number 17 = .ok (.bipush 20, 2) := by decide +kernel
theorem dX10_number_19 : decode cX10_number 19 = .ok (.if_icmp .ne 13, 3) := by decide +kernel
theorem dX10_number_22 : decode cX10_number 22 = .ok (.iload_n 3, 1) := by decide +kernel
theorem dX10_number_23 : decode cX10_number 23 = .ok (.i2l, 1) := by decide +kernel
theorem dX10_number_24 : decode cX10_number 24 = .ok (.iload_n 1, 1) := by decide +kernel
theorem dX10_number_25 : decode cX10_number 25 = .ok (.iload_n 2, 1) := by decide +kernel
theorem dX10_number_26 : decode cX10_number 26 = .ok (.invokestatic 41, 3) := by decide +kernel
theorem dX10_number_29 : decode cX10_number 29 = .ok (.ifCond .ne 7, 3) := by decide +kernel
theorem dX10_number_32 : decode cX10_number 32 = .ok (.iconst 1, 1) := by decide +kernel
theorem dX10_number_33 : decode cX10_number 33 = .ok (.goto 4, 3) := by decide +kernel
theorem dX10_number_36 : decode cX10_number 36 = .ok (.iconst 0, 1) := by decide +kernel
theorem dX10_number_37 : decode cX10_number 37 = .ok (.putfield 186, 3) := by decide +kernel
theorem dX10_number_40 : decode cX10_number 40 = .ok (.aload_n 0, 1) := by decide +kernel
theorem dX10_number_41 : decode cX10_number 41 = .ok (.getfield 186, 3) := by decide +kernel
theorem dX10_number_44 : decode cX10_number 44 = .ok (.ifCond .ne 7, 3) := by decide +kernel
theorem dX10_number_47 : decode cX10_number 47 = .ok (.aload_n 0, 1) := by decide +kernel
theorem dX10_number_48 : decode cX10_number 48 = .ok (.invokevirtual 190, 3) := by decide +kernel
theorem dX10_number_51 : decode cX10_number 51 = .ok (.iload_n 3, 1) := by decide +kernel
theorem dX10_number_52 : decode cX10_number 52 = .ok (.ireturn, 1) := by decide +kernel
theorem dX10_perhaps_0 : decode cX10_perhaps 0 = .ok (.aload_n 0, 1) := by decide +kernel
theorem dX10_perhaps_1 : decode cX10_perhaps 1 = .ok (.iload_n 1, 1) := by decide +kernel
theorem dX10_perhaps_2 : decode cX10_perhaps 2 = .ok (.invokevirtual 193, 3) := by decide +kernel
theorem dX10_perhaps_5 : decode cX10_perhaps 5 = .ok (.ifCond .eq 12, 3) := by decide +kernel
theorem dX10_perhaps_8 : decode cX10_perhaps 8 = .ok (.aload_n 0, 1) := by decide +kernel
theorem dX10_perhaps_9 : decode cX10_perhaps 9 = .ok (.iload_n 2, 1) := by decide +kernel
theorem dX10_perhaps_10 : decode cX10_perhaps 10 = .ok (.iload_n 3, 1) := by decide +kernel
theorem dX10_perhaps_11 : decode cX10_perhaps 11 = .ok (.invokevirtual 196, 3) := by decide +kernel
theorem dX10_perhaps_14 : decode cX10_perhaps 14 = .ok (.goto 5, 3) := by decide +kernel
theorem dX10_perhaps_17 : decode cX10_perhaps 17 = .ok (.iload 4, 2) := by decide +kernel
theorem dX10_perhaps_19 : decode cX10_perhaps 19 = .ok (.ireturn, 1) := by decide +kernel
theorem dX10_thingItem_0 : decode cX10_thingItem 0 = .ok (.aload_n 0, 1) := by decide +kernel
theorem dX10_thingItem_1 : decode cX10_thingItem 1 = .ok (.getfield 180, 3) := by decide +kernel
theorem dX10_thingItem_4 : decode cX10_thingItem 4 = .ok (.istore_n 1, 1) := by decide +kernel
theorem dX10_thingItem_5 : decode cX10_thingItem 5 = .ok (.aload_n 0, 1) := by decide +kernel
theorem dX10_thingItem_6 : decode cX10_thingItem 6 = .ok (.aload_n 0, 1) := by decide +kernel
theorem dX10_thingItem_7 : decode cX10_thingItem 7 = .ok (.getfield 9, 3) := by decide +kernel
theorem dX10_thingItem_10 : decode cX10_thingItem 10 = .ok (.iconst 1, 1) := by decide +kernel
theorem dX10_thingItem_11 : decode cX10_thingItem 11 = .ok (.iaload, 1) := by decide +kernel
theorem dX10_thingItem_12 : decode cX10_thingItem 12 = .ok (.bipush 8, 2) := by decide +kernel
theorem dX10_thingItem_14 : decode cX10_thingItem 14 = .ok (.if_icmp .ne 7, 3) := by decide +kernel
theorem dX10_thingItem_17 : decode cX10_thingItem 17 = .ok (.iconst 1, 1) := by decide +kernel
theorem dX10_thingItem_18 : decode cX10_thingItem 18 = .ok (.goto 4, 3) := by decide +kernel
theorem dX10_thingItem_21 : decode cX10_thingItem 21 = .ok (.iconst 0, 1) := by decide +kernel
theorem dX10_thingItem_22 : decode cX10_thingItem 22 = .ok (.putfield 186, 3) := by decide +kernel
theorem dX10_thingItem_25 : decode cX10_thingItem 25 = .ok (.aload_n 0, 1) := by decide +kernel
theorem dX10_thingItem_26 : decode cX10_thingItem 26 = .ok (.getfield 186, 3) := by decide +kernel
theorem dX10_thingItem_29 : decode cX10_thingItem 29 = .ok (.ifCond .eq 4, 3) := by decide +kernel
theorem dX10_thingItem_32 : decode cX10_thingItem 32 = .ok (.return_, 1) := by decide +kernel
theorem dX10_thingItem_33 : decode cX10_thingItem 33 = .ok (.aload_n 0, 1) := by decide +kernel
theorem dX10_thingItem_34 : decode cX10_thingItem 34 = .ok (.invokevirtual 190, 3) := by decide +kernel
theorem dX10_thingItem_37 : decode cX10_thingItem 37 = .ok (.aload_n 0, 1) := by decide +kernel
theorem dX10_thingItem_38 : decode cX10_thingItem 38 = .ok (.iconst 0, 1) := by decide +kernel
theorem dX10_thingItem_39 : decode cX10_thingItem 39 = .ok (.bipush 99, 2) := by decide +kernel
theorem dX10_thingItem_41 : decode cX10_thingItem 41 = .ok (.invokevirtual 196, 3) := by decide +kernel
theorem dX10_thingItem_44 : decode cX10_thingItem 44 = .ok (.istore_n 2, 1) := by decide +kernel
theorem dX10_thingItem_45 : decode cX10_thingItem 45 = .ok (.aload_n 0, 1) := by decide +kernel
theorem dX10_thingItem_46 : decode cX10_thingItem 46 = .ok (.bipush 6, 2) := by decide +kernel
theorem dX10_thingItem_48 : decode cX10_thingItem 48 = .ok (.iconst 0, 1) := by decide +kernel
theorem dX10_thingItem_49 : decode cX10_thingItem 49 = .ok (.iconst 5, 1) := by decide +kernel
theorem dX10_thingItem_50 : decode cX10_thingItem 50 = .ok (.iconst (-1), 1) := by decide +kernel
theorem dX10_thingItem_51 : decode cX10_thingItem 51 = .ok (.invokevirtual 199, 3) := by decide +kernel
theorem dX10_thingItem_54 : decode cX10_thingItem 54 = .ok (.istore_n 3, 1) := by decide +kernel
theorem dX10_thingItem_55 : decode cX10_thingItem 55 = .ok (.aload_n 0, 1) := by decide +kernel
theorem dX10_thingItem_56 : decode cX10_thingItem 56 = .ok (.bipush 7, 2) := by decide +kernel
theorem dX10_thingItem_58 : decode cX10_thingItem 58 = .ok (.iconst 0, 1) := by decide +kernel
theorem dX10_thingItem_59 : decode cX10_thingItem 59 = .ok (.sipush 999, 3) := by decide +kernel
theorem dX10_thingItem_62 : decode cX10_thingItem 62 = .ok (.iconst 0, 1) := by decide +kernel
theorem dX10_thingItem_63 : decode cX10_thingItem 63 = .ok (.invokevirtual 199, 3) := by decide +kernel
theorem dX10_thingItem_66 : decode cX10_thingItem 66 = .ok (.istore 4, 2) := by decide +kernel
theorem dX10_thingItem_68 : decode cX10_thingItem 68 = .ok (.aload_n 0, 1) := by decide +kernel
theorem dX10_thingItem_69 : decode cX10_thingItem 69 = .ok (.getfield 186, 3) := by decide +kernel
theorem dX10_thingItem_72 : decode cX10_thingItem 72 = .ok (.ifCond .ne 14, 3) := by decide +kernel
theorem dX10_thingItem_75 : decode cX10_thingItem 75 = .ok (.aload_n 0, 1) := by decide +kernel
theorem dX10_thingItem_76 : decode cX10_thingItem 76 = .ok (.iload_n 1, 1) := by decide +kernel
theorem dX10_thingItem_77 : decode cX10_thingItem 77 = .ok (.iload_n 2, 1) := by decide +kernel
theorem dX10_thingItem_78 : decode cX10_thingItem 78 = .ok (.iload_n 3, 1) := by decide +kernel
theorem dX10_thingItem_79 : decode cX10_thingItem 79 = .ok (.iload 4, 2) := by decide +kernel
theorem dX10_thingItem_81 : decode cX10_thingItem 81 = .ok (.invokevirtual 77, 3) := by decide +kernel
theorem dX10_thingItem_84 : decode cX10_thingItem 84 = .ok (.istore 5, 2) := by decide +kernel
theorem dX10_thingItem_86 : decode cX10_thingItem 86 = .ok (.return_, 1) := by decide +kernel
theorem dX10_personItem_0 : decode cX10_personItem 0 = .ok (.aload_n 0, 1) := by decide +kernel
theorem dX10_personItem_1 : decode cX10_personItem 1 = .ok (.getfield 180, 3) := by decide +kernel
theorem dX10_personItem_4 : decode cX10_personItem 4 = .ok (.bipush 8, 2) := by decide +kernel
theorem dX10_personItem_6 : decode cX10_personItem 6 = .ok (.if_icmp .ne 7, 3) := by decide +kernel
theorem dX10_personItem_9 : decode cX10_personItem 9 = .ok (.iconst 0, 1) := by decide +kernel
theorem dX10_personItem_10 : decode cX10_personItem 10 = .ok (.goto 4, 3) := by decide +kernel
theorem dX10_personItem_13 : decode cX10_personItem 13 = .ok (.iconst 1, 1) := by decide +kernel
theorem dX10_personItem_14 : decode cX10_personItem 14 = .ok (.istore_n 1, 1) := by decide +kernel
theorem dX10_personItem_15 : decode cX10_personItem 15 = .ok (.aload_n 0, 1) := by decide +kernel
theorem dX10_personItem_16 : decode cX10_personItem 16 = .ok (.invokevirtual 190, 3) := by decide +kernel
theorem dX10_personItem_19 : decode cX10_personItem 19 = .ok (.aload_n 0, 1) := by decide +kernel
theorem dX10_personItem_20 : decode cX10_personItem 20 = .ok (.iconst 0, 1) := by decide +kernel
theorem dX10_personItem_21 : decode cX10_personItem 21 = .ok (.iconst 5, 1) := by decide +kernel
theorem dX10_personItem_22 : decode cX10_personItem 22 = .ok (.invokevirtual 196, 3) := by decide +kernel
theorem dX10_personItem_25 : decode cX10_personItem 25 = .ok (.istore_n 2, 1) := by decide +kernel
theorem dX10_personItem_26 : decode cX10_personItem 26 = .ok (.aload_n 0, 1) := by decide +kernel
theorem dX10_personItem_27 : decode cX10_personItem 27 = .ok (.iconst 0, 1) := by decide +kernel
theorem dX10_personItem_28 : decode cX10_personItem 28 = .ok (.iload_n 1, 1) := by decide +kernel
theorem dX10_personItem_29 : decode cX10_personItem 29 = .ok (.ifCond .ne 8, 3) := by decide +kernel
theorem dX10_personItem_32 : decode cX10_personItem 32 = .ok (.bipush 20, 2) := by decide +kernel
theorem dX10_personItem_34 : decode cX10_personItem 34 = .ok (.goto 5, 3) := by decide +kernel
theorem dX10_personItem_37 : decode cX10_personItem 37 = .ok (.bipush 9, 2) := by decide +kernel
theorem dX10_personItem_39 : decode cX10_personItem 39 = .ok (.invokevirtual 196, 3) := by decide +kernel
theorem dX10_personItem_42 : decode cX10_personItem 42 = .ok (.istore_n 3, 1) := by decide +kernel
theorem dX10_personItem_43 : decode cX10_personItem 43 = .ok (.aload_n 0, 1) := by decide +kernel
theorem dX10_personItem_44 : decode cX10_personItem 44 = .ok (.getfield 186, 3) := by decide +kernel
theorem dX10_personItem_47 : decode cX10_personItem 47 = .ok (.ifCond .ne 10, 3) := by decide +kernel
theorem dX10_personItem_50 : decode cX10_personItem 50 = .ok (.aload_n 0, 1) := by decide +kernel
theorem dX10_personItem_51 : decode cX10_personItem 51 = .ok (.iload_n 2, 1) := by decide +kernel
theorem dX10_personItem_52 : decode cX10_personItem 52 = .ok (.iload_n 1, 1) := by decide +kernel
theorem dX10_personItem_53 : decode cX10_personItem 53 = .ok (.iload_n 3, 1) := by decide +kernel
theorem dX10_personItem_54 : decode cX10_personItem 54 = .ok (.invokevirtual 97, 3) := by decide +kernel
theorem dX10_personItem_57 : decode cX10_personItem 57 = .ok (.return_, 1) := by decide +kernel
theorem dX10_item_0 : decode cX10_item 0 = .ok (.aload_n 0, 1) := by decide +kernel
theorem dX10_item_1 : decode cX10_item 1 = .ok (.getfield 180, 3) := by decide +kernel
theorem dX10_item_4 : decode cX10_item 4 = .ok (.iconst 5, 1) := by decide +kernel
theorem dX10_item_5 : decode cX10_item 5 = .ok (.if_icmp .gt 10, 3) := by decide +kernel
theorem dX10_item_8 : decode cX10_item 8 = .ok (.aload_n 0, 1) := by decide +kernel
theorem dX10_item_9 : decode cX10_item 9 = .ok (.invokevirtual 202, 3) := by decide +kernel
theorem dX10_item_12 : decode cX10_item 12 = .ok (.goto 33, 3) := by decide +kernel
theorem dX10_item_15 : decode cX10_item 15 = .ok (.aload_n 0, 1) := by decide +kernel
theorem dX10_item_16 : decode cX10_item 16 = .ok (.getfield 180, 3) := by decide +kernel
theorem dX10_item_19 : decode cX10_item 19 = .ok (.bipush 8, 2) := by decide +kernel
theorem dX10_item_21 : decode cX10_item 21 = .ok (.if_icmp .eq 12, 3) := by decide +kernel
theorem dX10_item_24 : decode cX10_item 24 = .ok (.aload_n 0, 1) := by decide +kernel
theorem dX10_item_25 : decode cX10_item 25 = .ok (.getfield 180, 3) := by decide +kernel
theorem dX10_item_28 : decode cX10_item 28 = .ok (.bipush 9, 2) := by decide +kernel
theorem dX10_item_30 : decode cX10_item 30 = .ok (.if_icmp .ne 10, 3) := by decide +kernel
theorem dX10_item_33 : decode cX10_item 33 = .ok (.aload_n 0, 1) := by decide +kernel
theorem dX10_item_34 : decode cX10_item 34 = .ok (.invokevirtual 205, 3) := by decide +kernel
theorem dX10_item_37 : decode cX10_item 37 = .ok (.goto 8, 3) := by decide +kernel
theorem dX10_item_40 : decode cX10_item 40 = .ok (.aload_n 0, 1) := by decide +kernel
theorem dX10_item_41 : decode cX10_item 41 = .ok (.iconst 1, 1) := by decide +kernel
theorem dX10_item_42 : decode cX10_item 42 = .ok (.putfield 186, 3) := by decide +kernel
theorem dX10_item_45 : decode cX10_item 45 = .ok (.return_, 1) := by decide +kernel
theorem dX10_common_0 : decode cX10_common 0 = .ok (.aload_n 0, 1) := by decide +kernel
theorem dX10_common_1 : decode cX10_common 1 = .ok (.invokevirtual 141, 3) := by decide +kernel
theorem dX10_common_4 : decode cX10_common 4 = .ok (.aload_n 0, 1) := by decide +kernel
theorem dX10_common_5 : decode cX10_common 5 = .ok (.iconst 0, 1) := by decide +kernel
theorem dX10_common_6 : decode cX10_common 6 = .ok (.putfield 167, 3) := by decide +kernel
theorem dX10_common_9 : decode cX10_common 9 = .ok (.aload_n 0, 1) := by decide +kernel
theorem dX10_common_10 : decode cX10_common 10 = .ok (.iconst 0, 1) := by decide +kernel
theorem dX10_common_11 : decode cX10_common 11 = .ok (.putfield 186, 3) := by decide +kernel
theorem dX10_common_14 : decode cX10_common 14 = .ok (.aload_n 0, 1) := by decide +kernel
theorem dX10_common_15 : decode cX10_common 15 = .ok (.invokevirtual 190, 3) := by decide +kernel
theorem dX10_common_18 : decode cX10_common 18 = .ok (.aload_n 0, 1) := by decide +kernel
theorem dX10_common_19 : decode cX10_common 19 = .ok (.invokevirtual 208, 3) := by decide +kernel
theorem dX10_common_22 : decode cX10_common 22 = .ok (.iconst 1, 1) := by decide +kernel
theorem dX10_common_23 : decode cX10_common 23 = .ok (.istore_n 1, 1) := by decide +kernel
theorem dX10_common_24 : decode cX10_common 24 = .ok (.aload_n 0, 1) := by decide +kernel
theorem dX10_common_25 : decode cX10_common 25 = .ok (.bipush 21, 2) := by decide +kernel
theorem dX10_common_27 : decode cX10_common 27 = .ok (.invokevirtual 193, 3) := by decide +kernel
theorem dX10_common_30 : decode cX10_common 30 = .ok (.ifCond .eq 13, 3) := by decide +kernel
theorem dX10_common_33 : decode cX10_common 33 = .ok (.aload_n 0, 1) := by decide +kernel
theorem dX10_common_34 : decode cX10_common 34 = .ok (.invokevirtual 208, 3) := by decide +kernel
theorem dX10_common_37 : decode cX10_common 37 = .ok (.iinc 1 1, 3) := by decide +kernel
theorem dX10_common_40 : decode cX10_common 40 = .ok (.goto (-16), 3) := by decide +kernel
theorem dX10_common_43 : decode cX10_common 43 = .ok (.aload_n 0, 1) := by decide +kernel
theorem dX10_common_44 : decode cX10_common 44 = .ok (.aload_n 0, 1) := by decide +kernel
theorem dX10_common_45 : decode cX10_common 45 = .ok (.getfield 186, 3) := by decide +kernel
theorem dX10_common_48 : decode cX10_common 48 = .ok (.ifCond .ne 12, 3) := by decide +kernel
theorem dX10_common_51 : decode cX10_common 51 = .ok (.aload_n 0, 1) := by decide +kernel
theorem dX10_common_52 : decode cX10_common 52 = .ok (.getfield 180, 3) := by decide +kernel
theorem dX10_common_55 : decode cX10_common 55 = .ok (.bipush 22, 2) := by decide +kernel
theorem dX10_common_57 : decode cX10_common 57 = .ok (.if_icmp .eq 7, 3) := by decide +kernel
theorem dX10_common_60 : decode cX10_common 60 = .ok (.iconst 1, 1) := by decide +kernel
theorem dX10_common_61 : decode cX10_common 61 = .ok (.goto 4, 3) := by decide +kernel
theorem dX10_common_64 : decode cX10_common 64 = .ok (.iconst 0, 1) := by decide +kernel
theorem dX10_common_65 : decode cX10_common 65 = .ok (.putfield 186, 3) := by decide +kernel
theorem dX10_common_68 : decode cX10_common 68 = .ok (.aload_n 0, 1) := by decide +kernel
theorem dX10_common_69 : decode cX10_common 69 = .ok (.iconst 0, 1) := by decide +kernel
theorem dX10_common_70 : decode cX10_common 70 = .ok (.putfield 157, 3) := by decide +kernel
theorem dX10_common_73 : decode cX10_common 73 = .ok (.aload_n 0, 1) := by decide +kernel
theorem dX10_common_74 : decode cX10_common 74 = .ok (.getfield 186, 3) := by decide +kernel
theorem dX10_common_77 : decode cX10_common 77 = .ok (.ifCond .ne 5, 3) := by decide +kernel
theorem dX10_common_80 : decode cX10_common 80 = .ok (.iload_n 1, 1) := by decide +kernel
theorem dX10_common_81 : decode cX10_common 81 = .ok (.ireturn, 1) := by decide +kernel
theorem dX10_common_82 : decode cX10_common 82 = .ok (.aload_n 0, 1) := by decide +kernel
theorem dX10_common_83 : decode cX10_common 83 = .ok (.invokevirtual 144, 3) := by decide +kernel
theorem dX10_common_86 : decode cX10_common 86 = .ok (.iconst (-1), 1) := by decide +kernel
theorem dX10_common_87 : decode cX10_common 87 = .ok (.aload_n 0, 1) := by decide +kernel
theorem dX10_common_88 : decode cX10_common 88 = .ok (.getfield 164, 3) := by decide +kernel
theorem dX10_common_91 : decode cX10_common 91 = .ok (.isub, 1) := by decide +kernel
theorem dX10_common_92 : decode cX10_common 92 = .ok (.ireturn, 1) := by decide +kernel
theorem dX10_isSheet_0 : decode cX10_isSheet 0 = .ok (.iload_n 0, 1) := by decide +kernel
theorem dX10_isSheet_1 : decode cX10_isSheet 1 = .ok (.i2l, 1) := by decide +kernel
theorem dX10_isSheet_2 : decode cX10_isSheet 2 = .ok (.iconst 0, 1) := by decide +kernel
theorem dX10_isSheet_3 : decode cX10_isSheet 3 = .ok (.iconst 3, 1) := by decide +kernel
theorem dX10_isSheet_4 : decode cX10_isSheet 4 = .ok (.invokestatic 41, 3) := by decide +kernel
theorem dX10_isSheet_7 : decode cX10_isSheet 7 = .ok (.ireturn, 1) := by decide +kernel
theorem dX10_sheet_0 : decode cX10_sheet 0 = .ok (.iload_n 1, 1) := by decide +kernel
theorem dX10_sheet_1 : decode cX10_sheet 1 = .ok (.invokestatic 211, 3) := by decide +kernel
theorem dX10_sheet_4 : decode cX10_sheet 4 = .ok (.ifCond .eq 25, 3) := by decide +kernel
theorem dX10_sheet_7 : decode cX10_sheet 7 = .ok (.iload_n 2, 1) := by decide +kernel
theorem dX10_sheet_8 : decode cX10_sheet 8 = .ok (.ifCond .eq 28, 3) := by decide +kernel
theorem dX10_sheet_11 : decode cX10_sheet 11 = .ok (.iload_n 2, 1) := by decide +kernel
theorem dX10_sheet_12 : decode cX10_sheet 12 = .ok (.bipush 8, 2) := by decide +kernel
theorem dX10_sheet_14 : decode cX10_sheet 14 = .ok (.if_icmp .eq 22, 3) := by decide +kernel
theorem dX10_sheet_17 : decode cX10_sheet 17 = .ok (.iload_n 2, 1) := by decide +kernel
theorem dX10_sheet_18 : decode cX10_sheet 18 = .ok (.bipush 16, 2) := by decide +kernel
theorem dX10_sheet_20 : decode cX10_sheet 20 = .ok (.if_icmp .eq 16, 3) := by decide +kernel
theorem dX10_sheet_23 : decode cX10_sheet 23 = .ok (.iload_n 2, 1) := by decide +kernel
theorem dX10_sheet_24 : decode cX10_sheet 24 = .ok (.bipush 64, 2) := by decide +kernel
theorem dX10_sheet_26 : decode cX10_sheet 26 = .ok (.if_icmp .eq 10, 3) := by decide +kernel
theorem dX10_sheet_29 : decode cX10_sheet 29 = .ok (.aload_n 0, 1) := by decide +kernel
theorem dX10_sheet_30 : decode cX10_sheet 30 = .ok (.ldc 35, 2) := by decide +kernel
theorem dX10_sheet_32 : decode cX10_sheet 32 = .ok (.invokevirtual 37, 3) := by decide +kernel
theorem dX10_sheet_35 : decode cX10_sheet 35 = .ok (.ireturn, 1) := by decide +kernel
theorem dX10_sheet_36 : decode cX10_sheet 36 = .ok (.iload_n 3, 1) := by decide +kernel
theorem dX10_sheet_37 : decode cX10_sheet 37 = .ok (.ifCond .ge 10, 3) := by decide +kernel
theorem dX10_sheet_40 : decode cX10_sheet 40 = .ok (.aload_n 0, 1) := by decide +kernel
theorem dX10_sheet_41 : decode cX10_sheet 41 = .ok (.ldc 214, 2) := by decide +kernel
theorem dX10_sheet_43 : decode cX10_sheet 43 = .ok (.invokevirtual 37, 3) := by decide +kernel
theorem dX10_sheet_46 : decode cX10_sheet 46 = .ok (.ireturn, 1) := by decide +kernel
theorem dX10_sheet_47 : decode cX10_sheet 47 = .ok (.iload_n 3, 1) := by decide +kernel
theorem dX10_sheet_48 : decode cX10_sheet 48 = .ok (.bipush 40, 2) := by decide +kernel
theorem dX10_sheet_50 : decode cX10_sheet 50 = .ok (.if_icmp .le 10, 3) := by decide +kernel
theorem dX10_sheet_53 : decode cX10_sheet 53 = .ok (.aload_n 0, 1) := by decide +kernel
theorem dX10_sheet_54 : decode cX10_sheet 54 = .ok (.ldc 35, 2) := by decide +kernel
theorem dX10_sheet_56 : decode cX10_sheet 56 = .ok (.invokevirtual 37, 3) := by decide +kernel
theorem dX10_sheet_59 : decode cX10_sheet 59 = .ok (.ireturn, 1) := by decide +kernel
theorem dX10_sheet_60 : decode cX10_sheet 60 = .ok (.aload_n 0, 1) := by decide +kernel
theorem dX10_sheet_61 : decode cX10_sheet 61 = .ok (.getfield 25, 3) := by decide +kernel
theorem dX10_sheet_64 : decode cX10_sheet 64 = .ok (.iload_n 1, 1) := by decide +kernel
theorem dX10_sheet_65 : decode cX10_sheet 65 = .ok (.iload_n 2, 1) := by decide +kernel
theorem dX10_sheet_66 : decode cX10_sheet 66 = .ok (.iastore, 1) := by decide +kernel
theorem dX10_sheet_67 : decode cX10_sheet 67 = .ok (.aload_n 0, 1) := by decide +kernel
theorem dX10_sheet_68 : decode cX10_sheet 68 = .ok (.getfield 28, 3) := by decide +kernel
theorem dX10_sheet_71 : decode cX10_sheet 71 = .ok (.iload_n 1, 1) := by decide +kernel
theorem dX10_sheet_72 : decode cX10_sheet 72 = .ok (.iload_n 2, 1) := by decide +kernel
theorem dX10_sheet_73 : decode cX10_sheet 73 = .ok (.ifCond .ne 7, 3) := by decide +kernel
theorem dX10_sheet_76 : decode cX10_sheet 76 = .ok (.iconst 0, 1) := by decide +kernel
theorem dX10_sheet_77 : decode cX10_sheet 77 = .ok (.goto 4, 3) := by decide +kernel
theorem dX10_sheet_80 : decode cX10_sheet 80 = .ok (.iload_n 3, 1) := by decide +kernel
theorem dX10_sheet_81 : decode cX10_sheet 81 = .ok (.iastore, 1) := by decide +kernel
theorem dX10_sheet_82 : decode cX10_sheet 82 = .ok (.iconst 0, 1) := by decide +kernel
theorem dX10_sheet_83 : decode cX10_sheet 83 = .ok (.istore 4, 2) := by decide +kernel
theorem dX10_sheet_85 : decode cX10_sheet 85 = .ok (.iload 4, 2) := by decide +kernel
theorem dX10_sheet_87 : decode cX10_sheet 87 = .ok (.bipush 40, 2) := by decide +kernel
theorem dX10_sheet_89 : decode cX10_sheet 89 = .ok (.if_icmp .ge 22, 3) := by decide +kernel
theorem dX10_sheet_92 : decode cX10_sheet 92 = .ok (.aload_n 0, 1) := by decide +kernel
theorem dX10_sheet_93 : decode cX10_sheet 93 = .ok (.getfield 31, 3) := by decide +kernel
theorem dX10_sheet_96 : decode cX10_sheet 96 = .ok (.bipush 40, 2) := by decide +kernel
theorem dX10_sheet_98 : decode cX10_sheet 98 = .ok (.iload_n 1, 1) := by decide +kernel
theorem dX10_sheet_99 : decode cX10_sheet 99 = .ok (.imul, 1) := by decide +kernel
theorem dX10_sheet_100 : decode cX10_sheet 100 = .ok (.iload 4, 2) := by decide +kernel
theorem dX10_sheet_102 : decode cX10_sheet 102 = .ok (.iadd, 1) := by decide +kernel
theorem dX10_sheet_103 : decode cX10_sheet 103 = .ok (.lconst 0, 1) := by decide +kernel
theorem dX10_sheet_104 : decode cX10_sheet 104 = .ok (.lastore, 1) := by decide +kernel
theorem dX10_sheet_105 : decode cX10_sheet 105 = .ok (.iinc 4 1, 3) := by decide +kernel
theorem dX10_sheet_108 : decode cX10_sheet 108 = .ok (.goto (-23), 3) := by decide +kernel
theorem dX10_sheet_111 : decode cX10_sheet 111 = .ok (.aload_n 0, 1) := by decide +kernel
theorem dX10_sheet_112 : decode cX10_sheet 112 = .ok (.getfield 28, 3) := by decide +kernel
theorem dX10_sheet_115 : decode cX10_sheet 115 = .ok (.iload_n 1, 1) := by decide +kernel
theorem dX10_sheet_116 : decode cX10_sheet 116 = .ok (.iaload, 1) := by decide +kernel
theorem dX10_sheet_117 : decode cX10_sheet 117 = .ok (.ireturn, 1) := by decide +kernel
theorem dX10_notThere_0 : decode cX10_notThere 0 = .ok (.iload_n 1, 1) := by decide +kernel
theorem dX10_notThere_1 : decode cX10_notThere 1 = .ok (.invokestatic 211, 3) := by decide +kernel
theorem dX10_notThere_4 : decode cX10_notThere 4 = .ok (.ifCond .ne 8, 3) := by decide +kernel
theorem dX10_notThere_7 : decode cX10_notThere 7 = .ok (.ldc 35, 2) := by decide +kernel
theorem dX10_notThere_9 : decode cX10_notThere 9 = .ok (.goto 18, 3) := by decide +kernel
theorem dX10_notThere_12 : decode cX10_notThere 12 = .ok (.aload_n 0, 1) := by decide +kernel
theorem dX10_notThere_13 : decode cX10_notThere 13 = .ok (.getfield 25, 3) := by decide +kernel
theorem dX10_notThere_16 : decode cX10_notThere 16 = .ok (.iload_n 1, 1) := by decide +kernel
theorem dX10_notThere_17 : decode cX10_notThere 17 = .ok (.iaload, 1) := by decide +kernel
theorem dX10_notThere_18 : decode cX10_notThere 18 = .ok (.ifCond .ne 8, 3) := by decide +kernel
theorem dX10_notThere_21 : decode cX10_notThere 21 = .ok (.ldc 215, 2) := by decide +kernel
theorem dX10_notThere_23 : decode cX10_notThere 23 = .ok (.goto 4, 3) := by decide +kernel
theorem dX10_notThere_26 : decode cX10_notThere 26 = .ok (.iconst 0, 1) := by decide +kernel
theorem dX10_notThere_27 : decode cX10_notThere 27 = .ok (.ireturn, 1) := by decide +kernel
theorem dX10_cutTo_0 : decode cX10_cutTo 0 = .ok (.iload_n 0, 1) := by decide +kernel
theorem dX10_cutTo_1 : decode cX10_cutTo 1 = .ok (.bipush 8, 2) := by decide +kernel
theorem dX10_cutTo_3 : decode cX10_cutTo 3 = .ok (.if_icmp .ne 10, 3) := by decide +kernel
theorem dX10_cutTo_6 : decode cX10_cutTo 6 = .ok (.lload_n 1, 1) := by decide +kernel
theorem dX10_cutTo_7 : decode cX10_cutTo 7 = .ok (.l2i, 1) := by decide +kernel
theorem dX10_cutTo_8 : decode cX10_cutTo 8 = .ok (.i2b, 1) := by decide +kernel
theorem dX10_cutTo_9 : decode cX10_cutTo 9 = .ok (.i2l, 1) := by decide +kernel
theorem dX10_cutTo_10 : decode cX10_cutTo 10 = .ok (.goto 17, 3) := by decide +kernel
theorem dX10_cutTo_13 : decode cX10_cutTo 13 = .ok (.iload_n 0, 1) := by decide +kernel
theorem dX10_cutTo_14 : decode cX10_cutTo 14 = .ok (.bipush 16, 2) := by decide +kernel
theorem dX10_cutTo_16 : decode cX10_cutTo 16 = .ok (.if_icmp .ne 10, 3) := by decide +kernel
theorem dX10_cutTo_19 : decode cX10_cutTo 19 = .ok (.lload_n 1, 1) := by decide +kernel
theorem dX10_cutTo_20 : decode cX10_cutTo 20 = .ok (.l2i, 1) := by decide +kernel
theorem dX10_cutTo_21 : decode cX10_cutTo 21 = .ok (.i2s, 1) := by decide +kernel
theorem dX10_cutTo_22 : decode cX10_cutTo 22 = .ok (.i2l, 1) := by decide +kernel
theorem dX10_cutTo_23 : decode cX10_cutTo 23 = .ok (.goto 4, 3) := by decide +kernel
theorem dX10_cutTo_26 : decode cX10_cutTo 26 = .ok (.lload_n 1, 1) := by decide +kernel
theorem dX10_cutTo_27 : decode cX10_cutTo 27 = .ok (.lreturn, 1) := by decide +kernel
theorem dX10_write_0 : decode cX10_write 0 = .ok (.aload_n 0, 1) := by decide +kernel
theorem dX10_write_1 : decode cX10_write 1 = .ok (.iload_n 1, 1) := by decide +kernel
theorem dX10_write_2 : decode cX10_write 2 = .ok (.invokevirtual 216, 3) := by decide +kernel
theorem dX10_write_5 : decode cX10_write 5 = .ok (.istore 5, 2) := by decide +kernel
theorem dX10_write_7 : decode cX10_write 7 = .ok (.iload 5, 2) := by decide +kernel
theorem dX10_write_9 : decode cX10_write 9 = .ok (.ifCond .ne 24, 3) := by decide +kernel
theorem dX10_write_12 : decode cX10_write 12 = .ok (.iload_n 2, 1) := by decide +kernel
theorem dX10_write_13 : decode cX10_write 13 = .ok (.i2l, 1) := by decide +kernel
theorem dX10_write_14 : decode cX10_write 14 = .ok (.iconst 0, 1) := by decide +kernel
theorem dX10_write_15 : decode cX10_write 15 = .ok (.aload_n 0, 1) := by decide +kernel
theorem dX10_write_16 : decode cX10_write 16 = .ok (.getfield 28, 3) := by decide +kernel
theorem dX10_write_19 : decode cX10_write 19 = .ok (.iload_n 1, 1) := by decide +kernel
theorem dX10_write_20 : decode cX10_write 20 = .ok (.iaload, 1) := by decide +kernel
theorem dX10_write_21 : decode cX10_write 21 = .ok (.iconst 1, 1) := by decide +kernel
theorem dX10_write_22 : decode cX10_write 22 = .ok (.isub, 1) := by decide +kernel
theorem dX10_write_23 : decode cX10_write 23 = .ok (.invokestatic 41, 3) := by decide +kernel
theorem dX10_write_26 : decode cX10_write 26 = .ok (.ifCond .ne 7, 3) := by decide +kernel
theorem dX10_write_29 : decode cX10_write 29 = .ok (.ldc 35, 2) := by decide +kernel
theorem dX10_write_31 : decode cX10_write 31 = .ok (.istore 5, 2) := by decide +kernel
theorem dX10_write_33 : decode cX10_write 33 = .ok (.iload 5, 2) := by decide +kernel
theorem dX10_write_35 : decode cX10_write 35 = .ok (.ifCond .eq 11, 3) := by decide +kernel
theorem dX10_write_38 : decode cX10_write 38 = .ok (.aload_n 0, 1) := by decide +kernel
theorem dX10_write_39 : decode cX10_write 39 = .ok (.iload 5, 2) := by decide +kernel
theorem dX10_write_41 : decode cX10_write 41 = .ok (.invokevirtual 37, 3) := by decide +kernel
theorem dX10_write_44 : decode cX10_write 44 = .ok (.i2l, 1) := by decide +kernel
theorem dX10_write_45 : decode cX10_write 45 = .ok (.lreturn, 1) := by decide +kernel
theorem dX10_write_46 : decode cX10_write 46 = .ok (.aload_n 0, 1) := by decide +kernel
theorem dX10_write_47 : decode cX10_write 47 = .ok (.getfield 31, 3) := by decide +kernel
theorem dX10_write_50 : decode cX10_write 50 = .ok (.bipush 40, 2) := by decide +kernel
theorem dX10_write_52 : decode cX10_write 52 = .ok (.iload_n 1, 1) := by decide +kernel
theorem dX10_write_53 : decode cX10_write 53 = .ok (.imul, 1) := by decide +kernel
theorem dX10_write_54 : decode cX10_write 54 = .ok (.iload_n 2, 1) := by decide +kernel
theorem dX10_write_55 : decode cX10_write 55 = .ok (.iadd, 1) := by decide +kernel
theorem dX10_write_56 : decode cX10_write 56 = .ok (.laload, 1) := by decide +kernel
theorem dX10_write_57 : decode cX10_write 57 = .ok (.lstore 6, 2) := by decide +kernel
theorem dX10_write_59 : decode cX10_write 59 = .ok (.aload_n 0, 1) := by decide +kernel
theorem dX10_write_60 : decode cX10_write 60 = .ok (.getfield 31, 3) := by decide +kernel
theorem dX10_write_63 : decode cX10_write 63 = .ok (.bipush 40, 2) := by decide +kernel
theorem dX10_write_65 : decode cX10_write 65 = .ok (.iload_n 1, 1) := by decide +kernel
theorem dX10_write_66 : decode cX10_write 66 = .ok (.imul, 1) := by decide +kernel
theorem dX10_write_67 : decode cX10_write 67 = .ok (.iload_n 2, 1) := by decide +kernel
theorem dX10_write_68 : decode cX10_write 68 = .ok (.iadd, 1) := by decide +kernel
theorem dX10_write_69 : decode cX10_write 69 = .ok (.aload_n 0, 1) := by decide +kernel
theorem dX10_write_70 : decode cX10_write 70 = .ok (.getfield 25, 3) := by decide +kernel
theorem dX10_write_73 : decode cX10_write 73 = .ok (.iload_n 1, 1) := by decide +kernel
theorem dX10_write_74 : decode cX10_write 74 = .ok (.iaload, 1) := by decide +kernel
theorem dX10_write_75 : decode cX10_write 75 = .ok (.lload_n 3, 1) := by decide +kernel
theorem dX10_write_76 : decode cX10_write 76 = .ok (.invokestatic 219, 3) := by decide +kernel
theorem dX10_write_79 : decode cX10_write 79 = .ok (.lastore, 1) := by decide +kernel
theorem dX10_write_80 : decode cX10_write 80 = .ok (.lload 6, 2) := by decide +kernel
theorem dX10_write_82 : decode cX10_write 82 = .ok (.lreturn, 1) := by decide +kernel
