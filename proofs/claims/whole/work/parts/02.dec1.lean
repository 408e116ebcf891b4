theorem dX9_years_0 : decode cX9_years 0 = .ok (.iload_n 1, 1) := by decide +kernel
theorem dX9_years_1 : decode cX9_years 1 = .ok (.iconst 1, 1) := by decide +kernel
theorem dX9_years_2 : decode cX9_years 2 = .ok (.bipush 60, 2) := by decide +kernel
theorem dX9_years_4 : decode cX9_years 4 = .ok (.invokestatic 87, 3) := by decide +kernel
theorem dX9_years_7 : decode cX9_years 7 = .ok (.ifCond .ne 10, 3) := by decide +kernel
theorem dX9_years_10 : decode cX9_years 10 = .ok (.aload_n 0, 1) := by decide +kernel
theorem dX9_years_11 : decode cX9_years 11 = .ok (.ldc 82, 2) := by decide +kernel
theorem dX9_years_13 : decode cX9_years 13 = .ok (.invokevirtual 83, 3) := by decide +kernel
theorem dX9_years_16 : decode cX9_years 16 = .ok (.ireturn, 1) := by decide +kernel
theorem dX9_years_17 : decode cX9_years 17 = .ok (.aload_n 0, 1) := by decide +kernel
theorem dX9_years_18 : decode cX9_years 18 = .ok (.getfield 44, 3) := by decide +kernel
theorem dX9_years_21 : decode cX9_years 21 = .ok (.getfield 188, 3) := by decide +kernel
theorem dX9_years_24 : decode cX9_years 24 = .ok (.iload_n 1, 1) := by decide +kernel
theorem dX9_years_25 : decode cX9_years 25 = .ok (.iadd, 1) := by decide +kernel
theorem dX9_years_26 : decode cX9_years 26 = .ok (.sipush 9999, 3) := by decide +kernel
theorem dX9_years_29 : decode cX9_years 29 = .ok (.if_icmp .le 10, 3) := by decide +kernel
theorem dX9_years_32 : decode cX9_years 32 = .ok (.aload_n 0, 1) := by decide +kernel
theorem dX9_years_33 : decode cX9_years 33 = .ok (.ldc 173, 2) := by decide +kernel
theorem dX9_years_35 : decode cX9_years 35 = .ok (.invokevirtual 83, 3) := by decide +kernel
theorem dX9_years_38 : decode cX9_years 38 = .ok (.ireturn, 1) := by decide +kernel
theorem dX9_years_39 : decode cX9_years 39 = .ok (.aload_n 0, 1) := by decide +kernel
theorem dX9_years_40 : decode cX9_years 40 = .ok (.getfield 44, 3) := by decide +kernel
theorem dX9_years_43 : decode cX9_years 43 = .ok (.iload_n 1, 1) := by decide +kernel
theorem dX9_years_44 : decode cX9_years 44 = .ok (.invokevirtual 191, 3) := by decide +kernel
theorem dX9_years_47 : decode cX9_years 47 = .ok (.aload_n 0, 1) := by decide +kernel
theorem dX9_years_48 : decode cX9_years 48 = .ok (.getfield 44, 3) := by decide +kernel
theorem dX9_years_51 : decode cX9_years 51 = .ok (.invokevirtual 107, 3) := by decide +kernel
theorem dX9_years_54 : decode cX9_years 54 = .ok (.ireturn, 1) := by decide +kernel
theorem dX9_now_0 : decode cX9_now 0 = .ok (.iload_n 1, 1) := by decide +kernel
theorem dX9_now_1 : decode cX9_now 1 = .ok (.tableswitch 76 0 4 #[35, 43, 51, 60, 68], 35) := by decide +kernel
theorem dX9_now_36 : decode cX9_now 36 = .ok (.aload_n 0, 1) := by decide +kernel
theorem dX9_now_37 : decode cX9_now 37 = .ok (.getfield 44, 3) := by decide +kernel
theorem dX9_now_40 : decode cX9_now 40 = .ok (.getfield 188, 3) := by decide +kernel
theorem dX9_now_43 : decode cX9_now 43 = .ok (.ireturn, 1) := by decide +kernel
theorem dX9_now_44 : decode cX9_now 44 = .ok (.aload_n 0, 1) := by decide +kernel
theorem dX9_now_45 : decode cX9_now 45 = .ok (.getfield 44, 3) := by decide +kernel
theorem dX9_now_48 : decode cX9_now 48 = .ok (.invokevirtual 107, 3) := by decide +kernel
theorem dX9_now_51 : decode cX9_now 51 = .ok (.ireturn, 1) := by decide +kernel
theorem dX9_now_52 : decode cX9_now 52 = .ok (.aload_n 0, 1) := by decide +kernel
theorem dX9_now_53 : decode cX9_now 53 = .ok (.getfield 44, 3) := by decide +kernel
theorem dX9_now_56 : decode cX9_now 56 = .ok (.iconst (-1), 1) := by decide +kernel
theorem dX9_now_57 : decode cX9_now 57 = .ok (.invokevirtual 104, 3) := by decide +kernel
theorem dX9_now_60 : decode cX9_now 60 = .ok (.ireturn, 1) := by decide +kernel
theorem dX9_now_61 : decode cX9_now 61 = .ok (.aload_n 0, 1) := by decide +kernel
theorem dX9_now_62 : decode cX9_now 62 = .ok (.getfield 44, 3) := by decide +kernel
theorem dX9_now_65 : decode cX9_now 65 = .ok (.invokevirtual 194, 3) := by decide +kernel
theorem dX9_now_68 : decode cX9_now 68 = .ok (.ireturn, 1) := by decide +kernel
theorem dX9_now_69 : decode cX9_now 69 = .ok (.aload_n 0, 1) := by decide +kernel
theorem dX9_now_70 : decode cX9_now 70 = .ok (.getfield 44, 3) := by decide +kernel
theorem dX9_now_73 : decode cX9_now 73 = .ok (.invokevirtual 197, 3) := by decide +kernel
theorem dX9_now_76 : decode cX9_now 76 = .ok (.ireturn, 1) := by decide +kernel
theorem dX9_now_77 : decode cX9_now 77 = .ok (.aload_n 0, 1) := by decide +kernel
theorem dX9_now_78 : decode cX9_now 78 = .ok (.ldc 82, 2) := by decide +kernel
theorem dX9_now_80 : decode cX9_now 80 = .ok (.invokevirtual 83, 3) := by decide +kernel
theorem dX9_now_83 : decode cX9_now 83 = .ok (.ireturn, 1) := by decide +kernel
theorem dX9_on_0 : decode cX9_on 0 = .ok (.aload_n 0, 1) := by decide +kernel
theorem dX9_on_1 : decode cX9_on 1 = .ok (.iload_n 1, 1) := by decide +kernel
theorem dX9_on_2 : decode cX9_on 2 = .ok (.invokevirtual 132, 3) := by decide +kernel
theorem dX9_on_5 : decode cX9_on 5 = .ok (.ifCond .eq 22, 3) := by decide +kernel
theorem dX9_on_8 : decode cX9_on 8 = .ok (.iload_n 2, 1) := by decide +kernel
theorem dX9_on_9 : decode cX9_on 9 = .ok (.iconst 0, 1) := by decide +kernel
theorem dX9_on_10 : decode cX9_on 10 = .ok (.bipush 100, 2) := by decide +kernel
theorem dX9_on_12 : decode cX9_on 12 = .ok (.invokestatic 87, 3) := by decide +kernel
theorem dX9_on_15 : decode cX9_on 15 = .ok (.ifCond .eq 12, 3) := by decide +kernel
theorem dX9_on_18 : decode cX9_on 18 = .ok (.iload_n 3, 1) := by decide +kernel
theorem dX9_on_19 : decode cX9_on 19 = .ok (.iconst 0, 1) := by decide +kernel
theorem dX9_on_20 : decode cX9_on 20 = .ok (.iconst 2, 1) := by decide +kernel
theorem dX9_on_21 : decode cX9_on 21 = .ok (.invokestatic 87, 3) := by decide +kernel
theorem dX9_on_24 : decode cX9_on 24 = .ok (.ifCond .ne 10, 3) := by decide +kernel
theorem dX9_on_27 : decode cX9_on 27 = .ok (.aload_n 0, 1) := by decide +kernel
theorem dX9_on_28 : decode cX9_on 28 = .ok (.ldc 82, 2) := by decide +kernel
theorem dX9_on_30 : decode cX9_on 30 = .ok (.invokevirtual 83, 3) := by decide +kernel
theorem dX9_on_33 : decode cX9_on 33 = .ok (.ireturn, 1) := by decide +kernel
theorem dX9_on_34 : decode cX9_on 34 = .ok (.aload_n 0, 1) := by decide +kernel
theorem dX9_on_35 : decode cX9_on 35 = .ok (.getfield 50, 3) := by decide +kernel
theorem dX9_on_38 : decode cX9_on 38 = .ok (.aload_n 0, 1) := by decide +kernel
theorem dX9_on_39 : decode cX9_on 39 = .ok (.getfield 44, 3) := by decide +kernel
theorem dX9_on_42 : decode cX9_on 42 = .ok (.invokevirtual 200, 3) := by decide +kernel
theorem dX9_on_45 : decode cX9_on 45 = .ok (.aload_n 0, 1) := by decide +kernel
theorem dX9_on_46 : decode cX9_on 46 = .ok (.getfield 50, 3) := by decide +kernel
theorem dX9_on_49 : decode cX9_on 49 = .ok (.iload_n 2, 1) := by decide +kernel
theorem dX9_on_50 : decode cX9_on 50 = .ok (.invokevirtual 191, 3) := by decide +kernel
theorem dX9_on_53 : decode cX9_on 53 = .ok (.iload_n 3, 1) := by decide +kernel
theorem dX9_on_54 : decode cX9_on 54 = .ok (.lookupswitch 46 #[(0, 26), (1, 36)], 26) := by decide +kernel
theorem dX9_on_80 : decode cX9_on 80 = .ok (.aload_n 0, 1) := by decide +kernel
theorem dX9_on_81 : decode cX9_on 81 = .ok (.getfield 50, 3) := by decide +kernel
theorem dX9_on_84 : decode cX9_on 84 = .ok (.getfield 138, 3) := by decide +kernel
theorem dX9_on_87 : decode cX9_on 87 = .ok (.iload_n 1, 1) := by decide +kernel
theorem dX9_on_88 : decode cX9_on 88 = .ok (.iaload, 1) := by decide +kernel
theorem dX9_on_89 : decode cX9_on 89 = .ok (.ireturn, 1) := by decide +kernel
theorem dX9_on_90 : decode cX9_on 90 = .ok (.aload_n 0, 1) := by decide +kernel
theorem dX9_on_91 : decode cX9_on 91 = .ok (.getfield 50, 3) := by decide +kernel
theorem dX9_on_94 : decode cX9_on 94 = .ok (.getfield 141, 3) := by decide +kernel
theorem dX9_on_97 : decode cX9_on 97 = .ok (.iload_n 1, 1) := by decide +kernel
theorem dX9_on_98 : decode cX9_on 98 = .ok (.iaload, 1) := by decide +kernel
theorem dX9_on_99 : decode cX9_on 99 = .ok (.ireturn, 1) := by decide +kernel
theorem dX9_on_100 : decode cX9_on 100 = .ok (.aload_n 0, 1) := by decide +kernel
theorem dX9_on_101 : decode cX9_on 101 = .ok (.getfield 50, 3) := by decide +kernel
theorem dX9_on_104 : decode cX9_on 104 = .ok (.getfield 144, 3) := by decide +kernel
theorem dX9_on_107 : decode cX9_on 107 = .ok (.iload_n 1, 1) := by decide +kernel
theorem dX9_on_108 : decode cX9_on 108 = .ok (.iaload, 1) := by decide +kernel
theorem dX9_on_109 : decode cX9_on 109 = .ok (.ireturn, 1) := by decide +kernel
theorem dX9_then_0 : decode cX9_then 0 = .ok (.iload_n 1, 1) := by decide +kernel
theorem dX9_then_1 : decode cX9_then 1 = .ok (.invokestatic 78, 3) := by decide +kernel
theorem dX9_then_4 : decode cX9_then 4 = .ok (.ifCond .eq 22, 3) := by decide +kernel
theorem dX9_then_7 : decode cX9_then 7 = .ok (.iload_n 2, 1) := by decide +kernel
theorem dX9_then_8 : decode cX9_then 8 = .ok (.iconst 0, 1) := by decide +kernel
theorem dX9_then_9 : decode cX9_then 9 = .ok (.bipush 100, 2) := by decide +kernel
theorem dX9_then_11 : decode cX9_then 11 = .ok (.invokestatic 87, 3) := by decide +kernel
theorem dX9_then_14 : decode cX9_then 14 = .ok (.ifCond .eq 12, 3) := by decide +kernel
theorem dX9_then_17 : decode cX9_then 17 = .ok (.iload_n 3, 1) := by decide +kernel
theorem dX9_then_18 : decode cX9_then 18 = .ok (.iconst 0, 1) := by decide +kernel
theorem dX9_then_19 : decode cX9_then 19 = .ok (.iconst 1, 1) := by decide +kernel
theorem dX9_then_20 : decode cX9_then 20 = .ok (.invokestatic 87, 3) := by decide +kernel
theorem dX9_then_23 : decode cX9_then 23 = .ok (.ifCond .ne 10, 3) := by decide +kernel
theorem dX9_then_26 : decode cX9_then 26 = .ok (.aload_n 0, 1) := by decide +kernel
theorem dX9_then_27 : decode cX9_then 27 = .ok (.ldc 82, 2) := by decide +kernel
theorem dX9_then_29 : decode cX9_then 29 = .ok (.invokevirtual 83, 3) := by decide +kernel
theorem dX9_then_32 : decode cX9_then 32 = .ok (.ireturn, 1) := by decide +kernel
theorem dX9_then_33 : decode cX9_then 33 = .ok (.aload_n 0, 1) := by decide +kernel
theorem dX9_then_34 : decode cX9_then 34 = .ok (.getfield 50, 3) := by decide +kernel
theorem dX9_then_37 : decode cX9_then 37 = .ok (.aload_n 0, 1) := by decide +kernel
theorem dX9_then_38 : decode cX9_then 38 = .ok (.getfield 44, 3) := by decide +kernel
theorem dX9_then_41 : decode cX9_then 41 = .ok (.invokevirtual 200, 3) := by decide +kernel
theorem dX9_then_44 : decode cX9_then 44 = .ok (.aload_n 0, 1) := by decide +kernel
theorem dX9_then_45 : decode cX9_then 45 = .ok (.getfield 50, 3) := by decide +kernel
theorem dX9_then_48 : decode cX9_then 48 = .ok (.iload_n 2, 1) := by decide +kernel
theorem dX9_then_49 : decode cX9_then 49 = .ok (.invokevirtual 191, 3) := by decide +kernel
theorem dX9_then_52 : decode cX9_then 52 = .ok (.iload_n 3, 1) := by decide +kernel
theorem dX9_then_53 : decode cX9_then 53 = .ok (.ifCond .ne 15, 3) := by decide +kernel
theorem dX9_then_56 : decode cX9_then 56 = .ok (.aload_n 0, 1) := by decide +kernel
theorem dX9_then_57 : decode cX9_then 57 = .ok (.getfield 50, 3) := by decide +kernel
theorem dX9_then_60 : decode cX9_then 60 = .ok (.getfield 98, 3) := by decide +kernel
theorem dX9_then_63 : decode cX9_then 63 = .ok (.iload_n 1, 1) := by decide +kernel
theorem dX9_then_64 : decode cX9_then 64 = .ok (.iaload, 1) := by decide +kernel
theorem dX9_then_65 : decode cX9_then 65 = .ok (.goto 12, 3) := by decide +kernel
theorem dX9_then_68 : decode cX9_then 68 = .ok (.aload_n 0, 1) := by decide +kernel
theorem dX9_then_69 : decode cX9_then 69 = .ok (.getfield 50, 3) := by decide +kernel
theorem dX9_then_72 : decode cX9_then 72 = .ok (.getfield 101, 3) := by decide +kernel
theorem dX9_then_75 : decode cX9_then 75 = .ok (.iload_n 1, 1) := by decide +kernel
theorem dX9_then_76 : decode cX9_then 76 = .ok (.iaload, 1) := by decide +kernel
theorem dX9_then_77 : decode cX9_then 77 = .ok (.ireturn, 1) := by decide +kernel
theorem dX9_finished_0 : decode cX9_finished 0 = .ok (.aload_n 0, 1) := by decide +kernel
theorem dX9_finished_1 : decode cX9_finished 1 = .ok (.iload_n 1, 1) := by decide +kernel
theorem dX9_finished_2 : decode cX9_finished 2 = .ok (.invokevirtual 132, 3) := by decide +kernel
theorem dX9_finished_5 : decode cX9_finished 5 = .ok (.ifCond .ne 10, 3) := by decide +kernel
theorem dX9_finished_8 : decode cX9_finished 8 = .ok (.aload_n 0, 1) := by decide +kernel
theorem dX9_finished_9 : decode cX9_finished 9 = .ok (.ldc 82, 2) := by decide +kernel
theorem dX9_finished_11 : decode cX9_finished 11 = .ok (.invokevirtual 83, 3) := by decide +kernel
theorem dX9_finished_14 : decode cX9_finished 14 = .ok (.ireturn, 1) := by decide +kernel
theorem dX9_finished_15 : decode cX9_finished 15 = .ok (.aload_n 0, 1) := by decide +kernel
theorem dX9_finished_16 : decode cX9_finished 16 = .ok (.getfield 50, 3) := by decide +kernel
theorem dX9_finished_19 : decode cX9_finished 19 = .ok (.aload_n 0, 1) := by decide +kernel
theorem dX9_finished_20 : decode cX9_finished 20 = .ok (.getfield 44, 3) := by decide +kernel
theorem dX9_finished_23 : decode cX9_finished 23 = .ok (.invokevirtual 200, 3) := by decide +kernel
theorem dX9_finished_26 : decode cX9_finished 26 = .ok (.aload_n 0, 1) := by decide +kernel
theorem dX9_finished_27 : decode cX9_finished 27 = .ok (.iload_n 1, 1) := by decide +kernel
theorem dX9_finished_28 : decode cX9_finished 28 = .ok (.sipush 200, 3) := by decide +kernel
theorem dX9_finished_31 : decode cX9_finished 31 = .ok (.invokevirtual 204, 3) := by decide +kernel
theorem dX9_finished_34 : decode cX9_finished 34 = .ok (.istore_n 2, 1) := by decide +kernel
theorem dX9_finished_35 : decode cX9_finished 35 = .ok (.iload_n 2, 1) := by decide +kernel
theorem dX9_finished_36 : decode cX9_finished 36 = .ok (.ifCond .ge 12, 3) := by decide +kernel
theorem dX9_finished_39 : decode cX9_finished 39 = .ok (.aload_n 0, 1) := by decide +kernel
theorem dX9_finished_40 : decode cX9_finished 40 = .ok (.ldc 187, 2) := by decide +kernel
theorem dX9_finished_42 : decode cX9_finished 42 = .ok (.invokevirtual 83, 3) := by decide +kernel
theorem dX9_finished_45 : decode cX9_finished 45 = .ok (.goto 4, 3) := by decide +kernel
theorem dX9_finished_48 : decode cX9_finished 48 = .ok (.iload_n 2, 1) := by decide +kernel
theorem dX9_finished_49 : decode cX9_finished 49 = .ok (.ireturn, 1) := by decide +kernel
theorem dX9_comes_0 : decode cX9_comes 0 = .ok (.aload_n 0, 1) := by decide +kernel
theorem dX9_comes_1 : decode cX9_comes 1 = .ok (.iload_n 1, 1) := by decide +kernel
theorem dX9_comes_2 : decode cX9_comes 2 = .ok (.invokevirtual 132, 3) := by decide +kernel
theorem dX9_comes_5 : decode cX9_comes 5 = .ok (.ifCond .eq 10, 3) := by decide +kernel
theorem dX9_comes_8 : decode cX9_comes 8 = .ok (.iload_n 2, 1) := by decide +kernel
theorem dX9_comes_9 : decode cX9_comes 9 = .ok (.invokestatic 78, 3) := by decide +kernel
theorem dX9_comes_12 : decode cX9_comes 12 = .ok (.ifCond .ne 10, 3) := by decide +kernel
theorem dX9_comes_15 : decode cX9_comes 15 = .ok (.aload_n 0, 1) := by decide +kernel
theorem dX9_comes_16 : decode cX9_comes 16 = .ok (.ldc 82, 2) := by decide +kernel
theorem dX9_comes_18 : decode cX9_comes 18 = .ok (.invokevirtual 83, 3) := by decide +kernel
theorem dX9_comes_21 : decode cX9_comes 21 = .ok (.ireturn, 1) := by decide +kernel
theorem dX9_comes_22 : decode cX9_comes 22 = .ok (.aload_n 0, 1) := by decide +kernel
theorem dX9_comes_23 : decode cX9_comes 23 = .ok (.getfield 50, 3) := by decide +kernel
theorem dX9_comes_26 : decode cX9_comes 26 = .ok (.aload_n 0, 1) := by decide +kernel
theorem dX9_comes_27 : decode cX9_comes 27 = .ok (.getfield 44, 3) := by decide +kernel
theorem dX9_comes_30 : decode cX9_comes 30 = .ok (.invokevirtual 200, 3) := by decide +kernel
theorem dX9_comes_33 : decode cX9_comes 33 = .ok (.iconst 0, 1) := by decide +kernel
theorem dX9_comes_34 : decode cX9_comes 34 = .ok (.istore_n 3, 1) := by decide +kernel
theorem dX9_comes_35 : decode cX9_comes 35 = .ok (.iload_n 3, 1) := by decide +kernel
theorem dX9_comes_36 : decode cX9_comes 36 = .ok (.sipush 200, 3) := by decide +kernel
theorem dX9_comes_39 : decode cX9_comes 39 = .ok (.if_icmp .gt 31, 3) := by decide +kernel
theorem dX9_comes_42 : decode cX9_comes 42 = .ok (.aload_n 0, 1) := by decide +kernel
theorem dX9_comes_43 : decode cX9_comes 43 = .ok (.getfield 50, 3) := by decide +kernel
theorem dX9_comes_46 : decode cX9_comes 46 = .ok (.getfield 141, 3) := by decide +kernel
theorem dX9_comes_49 : decode cX9_comes 49 = .ok (.iload_n 1, 1) := by decide +kernel
theorem dX9_comes_50 : decode cX9_comes 50 = .ok (.iaload, 1) := by decide +kernel
theorem dX9_comes_51 : decode cX9_comes 51 = .ok (.iload_n 2, 1) := by decide +kernel
theorem dX9_comes_52 : decode cX9_comes 52 = .ok (.if_icmp .ne 5, 3) := by decide +kernel
theorem dX9_comes_55 : decode cX9_comes 55 = .ok (.iload_n 3, 1) := by decide +kernel
theorem dX9_comes_56 : decode cX9_comes 56 = .ok (.ireturn, 1) := by decide +kernel
theorem dX9_comes_57 : decode cX9_comes 57 = .ok (.aload_n 0, 1) := by decide +kernel
theorem dX9_comes_58 : decode cX9_comes 58 = .ok (.getfield 50, 3) := by decide +kernel
theorem dX9_comes_61 : decode cX9_comes 61 = .ok (.invokevirtual 207, 3) := by decide +kernel
theorem dX9_comes_64 : decode cX9_comes 64 = .ok (.iinc 3 1, 3) := by decide +kernel
theorem dX9_comes_67 : decode cX9_comes 67 = .ok (.goto (-32), 3) := by decide +kernel
theorem dX9_comes_70 : decode cX9_comes 70 = .ok (.aload_n 0, 1) := by decide +kernel
theorem dX9_comes_71 : decode cX9_comes 71 = .ok (.ldc 187, 2) := by decide +kernel
theorem dX9_comes_73 : decode cX9_comes 73 = .ok (.invokevirtual 83, 3) := by decide +kernel
theorem dX9_comes_76 : decode cX9_comes 76 = .ok (.ireturn, 1) := by decide +kernel
theorem dX9_all_0 : decode cX9_all 0 = .ok (.aload_n 0, 1) := by decide +kernel
theorem dX9_all_1 : decode cX9_all 1 = .ok (.getfield 50, 3) := by decide +kernel
theorem dX9_all_4 : decode cX9_all 4 = .ok (.aload_n 0, 1) := by decide +kernel
theorem dX9_all_5 : decode cX9_all 5 = .ok (.getfield 44, 3) := by decide +kernel
theorem dX9_all_8 : decode cX9_all 8 = .ok (.invokevirtual 200, 3) := by decide +kernel
theorem dX9_all_11 : decode cX9_all 11 = .ok (.iconst 0, 1) := by decide +kernel
theorem dX9_all_12 : decode cX9_all 12 = .ok (.istore_n 1, 1) := by decide +kernel
theorem dX9_all_13 : decode cX9_all 13 = .ok (.iload_n 1, 1) := by decide +kernel
theorem dX9_all_14 : decode cX9_all 14 = .ok (.sipush 200, 3) := by decide +kernel
theorem dX9_all_17 : decode cX9_all 17 = .ok (.if_icmp .gt 28, 3) := by decide +kernel
theorem dX9_all_20 : decode cX9_all 20 = .ok (.aload_n 0, 1) := by decide +kernel
theorem dX9_all_21 : decode cX9_all 21 = .ok (.getfield 50, 3) := by decide +kernel
theorem dX9_all_24 : decode cX9_all 24 = .ok (.invokevirtual 210, 3) := by decide +kernel
theorem dX9_all_27 : decode cX9_all 27 = .ok (.ifCond .eq 5, 3) := by decide +kernel
theorem dX9_all_30 : decode cX9_all 30 = .ok (.iload_n 1, 1) := by decide +kernel
theorem dX9_all_31 : decode cX9_all 31 = .ok (.ireturn, 1) := by decide +kernel
theorem dX9_all_32 : decode cX9_all 32 = .ok (.aload_n 0, 1) := by decide +kernel
theorem dX9_all_33 : decode cX9_all 33 = .ok (.getfield 50, 3) := by decide +kernel
theorem dX9_all_36 : decode cX9_all 36 = .ok (.invokevirtual 207, 3) := by decide +kernel
theorem dX9_all_39 : decode cX9_all 39 = .ok (.iinc 1 1, 3) := by decide +kernel
theorem dX9_all_42 : decode cX9_all 42 = .ok (.goto (-29), 3) := by decide +kernel
theorem dX9_all_45 : decode cX9_all 45 = .ok (.aload_n 0, 1) := by decide +kernel
theorem dX9_all_46 : decode cX9_all 46 = .ok (.ldc 187, 2) := by decide +kernel
theorem dX9_all_48 : decode cX9_all 48 = .ok (.invokevirtual 83, 3) := by decide +kernel
theorem dX9_all_51 : decode cX9_all 51 = .ok (.ireturn, 1) := by decide +kernel
theorem dX9_give_0 : decode cX9_give 0 = .ok (.aload_n 0, 1) := by decide +kernel
theorem dX9_give_1 : decode cX9_give 1 = .ok (.iload_n 1, 1) := by decide +kernel
theorem dX9_give_2 : decode cX9_give 2 = .ok (.invokevirtual 132, 3) := by decide +kernel
theorem dX9_give_5 : decode cX9_give 5 = .ok (.ifCond .ne 10, 3) := by decide +kernel
theorem dX9_give_8 : decode cX9_give 8 = .ok (.aload_n 0, 1) := by decide +kernel
theorem dX9_give_9 : decode cX9_give 9 = .ok (.ldc 82, 2) := by decide +kernel
theorem dX9_give_11 : decode cX9_give 11 = .ok (.invokevirtual 83, 3) := by decide +kernel
theorem dX9_give_14 : decode cX9_give 14 = .ok (.ireturn, 1) := by decide +kernel
theorem dX9_give_15 : decode cX9_give 15 = .ok (.aload_n 0, 1) := by decide +kernel
theorem dX9_give_16 : decode cX9_give 16 = .ok (.getfield 44, 3) := by decide +kernel
theorem dX9_give_19 : decode cX9_give 19 = .ok (.iload_n 1, 1) := by decide +kernel
theorem dX9_give_20 : decode cX9_give 20 = .ok (.invokevirtual 213, 3) := by decide +kernel
theorem dX9_give_23 : decode cX9_give 23 = .ok (.ifCond .eq 10, 3) := by decide +kernel
theorem dX9_give_26 : decode cX9_give 26 = .ok (.aload_n 0, 1) := by decide +kernel
theorem dX9_give_27 : decode cX9_give 27 = .ok (.ldc 173, 2) := by decide +kernel
theorem dX9_give_29 : decode cX9_give 29 = .ok (.invokevirtual 83, 3) := by decide +kernel
theorem dX9_give_32 : decode cX9_give 32 = .ok (.ireturn, 1) := by decide +kernel
theorem dX9_give_33 : decode cX9_give 33 = .ok (.iconst (-1), 1) := by decide +kernel
theorem dX9_give_34 : decode cX9_give 34 = .ok (.istore_n 2, 1) := by decide +kernel
theorem dX9_give_35 : decode cX9_give 35 = .ok (.bipush 101, 2) := by decide +kernel
theorem dX9_give_37 : decode cX9_give 37 = .ok (.istore_n 3, 1) := by decide +kernel
theorem dX9_give_38 : decode cX9_give 38 = .ok (.iconst 0, 1) := by decide +kernel
theorem dX9_give_39 : decode cX9_give 39 = .ok (.istore 4, 2) := by decide +kernel
theorem dX9_give_41 : decode cX9_give 41 = .ok (.iload 4, 2) := by decide +kernel
theorem dX9_give_43 : decode cX9_give 43 = .ok (.bipush 6, 2) := by decide +kernel
theorem dX9_give_45 : decode cX9_give 45 = .ok (.if_icmp .ge 52, 3) := by decide +kernel
theorem dX9_give_48 : decode cX9_give 48 = .ok (.aload_n 0, 1) := by decide +kernel
theorem dX9_give_49 : decode cX9_give 49 = .ok (.getfield 50, 3) := by decide +kernel
theorem dX9_give_52 : decode cX9_give 52 = .ok (.aload_n 0, 1) := by decide +kernel
theorem dX9_give_53 : decode cX9_give 53 = .ok (.getfield 44, 3) := by decide +kernel
theorem dX9_give_56 : decode cX9_give 56 = .ok (.invokevirtual 200, 3) := by decide +kernel
theorem dX9_give_59 : decode cX9_give 59 = .ok (.aload_n 0, 1) := by decide +kernel
theorem dX9_give_60 : decode cX9_give 60 = .ok (.getfield 50, 3) := by decide +kernel
theorem dX9_give_63 : decode cX9_give 63 = .ok (.getfield 141, 3) := by decide +kernel
theorem dX9_give_66 : decode cX9_give 66 = .ok (.iload_n 1, 1) := by decide +kernel
theorem dX9_give_67 : decode cX9_give 67 = .ok (.iload 4, 2) := by decide +kernel
theorem dX9_give_69 : decode cX9_give 69 = .ok (.iastore, 1) := by decide +kernel
theorem dX9_give_70 : decode cX9_give 70 = .ok (.aload_n 0, 1) := by decide +kernel
theorem dX9_give_71 : decode cX9_give 71 = .ok (.iload_n 1, 1) := by decide +kernel
theorem dX9_give_72 : decode cX9_give 72 = .ok (.iload_n 3, 1) := by decide +kernel
theorem dX9_give_73 : decode cX9_give 73 = .ok (.iconst 1, 1) := by decide +kernel
theorem dX9_give_74 : decode cX9_give 74 = .ok (.isub, 1) := by decide +kernel
theorem dX9_give_75 : decode cX9_give 75 = .ok (.invokevirtual 204, 3) := by decide +kernel
theorem dX9_give_78 : decode cX9_give 78 = .ok (.istore 5, 2) := by decide +kernel
theorem dX9_give_80 : decode cX9_give 80 = .ok (.iload 5, 2) := by decide +kernel
theorem dX9_give_82 : decode cX9_give 82 = .ok (.ifCond .lt 9, 3) := by decide +kernel
theorem dX9_give_85 : decode cX9_give 85 = .ok (.iload 4, 2) := by decide +kernel
theorem dX9_give_87 : decode cX9_give 87 = .ok (.istore_n 2, 1) := by decide +kernel
theorem dX9_give_88 : decode cX9_give 88 = .ok (.iload 5, 2) := by decide +kernel
theorem dX9_give_90 : decode cX9_give 90 = .ok (.istore_n 3, 1) := by decide +kernel
theorem dX9_give_91 : decode cX9_give 91 = .ok (.iinc 4 1, 3) := by decide +kernel
theorem dX9_give_94 : decode cX9_give 94 = .ok (.goto (-53), 3) := by decide +kernel
theorem dX9_give_97 : decode cX9_give 97 = .ok (.iload_n 2, 1) := by decide +kernel
theorem dX9_give_98 : decode cX9_give 98 = .ok (.ifCond .ge 12, 3) := by decide +kernel
theorem dX9_give_101 : decode cX9_give 101 = .ok (.aload_n 0, 1) := by decide +kernel
theorem dX9_give_102 : decode cX9_give 102 = .ok (.ldc 187, 2) := by decide +kernel
theorem dX9_give_104 : decode cX9_give 104 = .ok (.invokevirtual 83, 3) := by decide +kernel
theorem dX9_give_107 : decode cX9_give 107 = .ok (.goto 4, 3) := by decide +kernel
theorem dX9_give_110 : decode cX9_give 110 = .ok (.iload_n 2, 1) := by decide +kernel
theorem dX9_give_111 : decode cX9_give 111 = .ok (.ireturn, 1) := by decide +kernel
theorem dX9_kind_0 : decode cX9_kind 0 = .ok (.aload_n 0, 1) := by decide +kernel
theorem dX9_kind_1 : decode cX9_kind 1 = .ok (.iload_n 1, 1) := by decide +kernel
theorem dX9_kind_2 : decode cX9_kind 2 = .ok (.invokevirtual 132, 3) := by decide +kernel
theorem dX9_kind_5 : decode cX9_kind 5 = .ok (.ifCond .ne 10, 3) := by decide +kernel
theorem dX9_kind_8 : decode cX9_kind 8 = .ok (.aload_n 0, 1) := by decide +kernel
theorem dX9_kind_9 : decode cX9_kind 9 = .ok (.ldc 82, 2) := by decide +kernel
theorem dX9_kind_11 : decode cX9_kind 11 = .ok (.invokevirtual 83, 3) := by decide +kernel
theorem dX9_kind_14 : decode cX9_kind 14 = .ok (.ireturn, 1) := by decide +kernel
theorem dX9_kind_15 : decode cX9_kind 15 = .ok (.iconst (-1), 1) := by decide +kernel
theorem dX9_kind_16 : decode cX9_kind 16 = .ok (.istore_n 2, 1) := by decide +kernel
theorem dX9_kind_17 : decode cX9_kind 17 = .ok (.bipush 101, 2) := by decide +kernel
theorem dX9_kind_19 : decode cX9_kind 19 = .ok (.istore_n 3, 1) := by decide +kernel
theorem dX9_kind_20 : decode cX9_kind 20 = .ok (.iconst 0, 1) := by decide +kernel
theorem dX9_kind_21 : decode cX9_kind 21 = .ok (.istore 4, 2) := by decide +kernel
theorem dX9_kind_23 : decode cX9_kind 23 = .ok (.iload 4, 2) := by decide +kernel
theorem dX9_kind_25 : decode cX9_kind 25 = .ok (.bipush 6, 2) := by decide +kernel
theorem dX9_kind_27 : decode cX9_kind 27 = .ok (.if_icmp .ge 52, 3) := by decide +kernel
theorem dX9_kind_30 : decode cX9_kind 30 = .ok (.aload_n 0, 1) := by decide +kernel
theorem dX9_kind_31 : decode cX9_kind 31 = .ok (.getfield 50, 3) := by decide +kernel
theorem dX9_kind_34 : decode cX9_kind 34 = .ok (.aload_n 0, 1) := by decide +kernel
theorem dX9_kind_35 : decode cX9_kind 35 = .ok (.getfield 44, 3) := by decide +kernel
theorem dX9_kind_38 : decode cX9_kind 38 = .ok (.invokevirtual 200, 3) := by decide +kernel
theorem dX9_kind_41 : decode cX9_kind 41 = .ok (.aload_n 0, 1) := by decide +kernel
theorem dX9_kind_42 : decode cX9_kind 42 = .ok (.getfield 50, 3) := by decide +kernel
theorem dX9_kind_45 : decode cX9_kind 45 = .ok (.getfield 135, 3) := by decide +kernel
theorem dX9_kind_48 : decode cX9_kind 48 = .ok (.iload_n 1, 1) := by decide +kernel
theorem dX9_kind_49 : decode cX9_kind 49 = .ok (.iload 4, 2) := by decide +kernel
theorem dX9_kind_51 : decode cX9_kind 51 = .ok (.iastore, 1) := by decide +kernel
theorem dX9_kind_52 : decode cX9_kind 52 = .ok (.aload_n 0, 1) := by decide +kernel
theorem dX9_kind_53 : decode cX9_kind 53 = .ok (.iload_n 1, 1) := by decide +kernel
theorem dX9_kind_54 : decode cX9_kind 54 = .ok (.iload_n 3, 1) := by decide +kernel
theorem dX9_kind_55 : decode cX9_kind 55 = .ok (.iconst 1, 1) := by decide +kernel
theorem dX9_kind_56 : decode cX9_kind 56 = .ok (.isub, 1) := by decide +kernel
theorem dX9_kind_57 : decode cX9_kind 57 = .ok (.invokevirtual 204, 3) := by decide +kernel
theorem dX9_kind_60 : decode cX9_kind 60 = .ok (.istore 5, 2) := by decide +kernel
theorem dX9_kind_62 : decode cX9_kind 62 = .ok (.iload 5, 2) := by decide +kernel
theorem dX9_kind_64 : decode cX9_kind 64 = .ok (.ifCond .lt 9, 3) := by decide +kernel
theorem dX9_kind_67 : decode cX9_kind 67 = .ok (.iload 4, 2) := by decide +kernel
theorem dX9_kind_69 : decode cX9_kind 69 = .ok (.istore_n 2, 1) := by decide +kernel
theorem dX9_kind_70 : decode cX9_kind 70 = .ok (.iload 5, 2) := by decide +kernel
theorem dX9_kind_72 : decode cX9_kind 72 = .ok (.istore_n 3, 1) := by decide +kernel
theorem dX9_kind_73 : decode cX9_kind 73 = .ok (.iinc 4 1, 3) := by decide +kernel
theorem dX9_kind_76 : decode cX9_kind 76 = .ok (.goto (-53), 3) := by decide +kernel
theorem dX9_kind_79 : decode cX9_kind 79 = .ok (.iload_n 2, 1) := by decide +kernel
theorem dX9_kind_80 : decode cX9_kind 80 = .ok (.ifCond .ge 12, 3) := by decide +kernel
theorem dX9_kind_83 : decode cX9_kind 83 = .ok (.aload_n 0, 1) := by decide +kernel
theorem dX9_kind_84 : decode cX9_kind 84 = .ok (.ldc 187, 2) := by decide +kernel
theorem dX9_kind_86 : decode cX9_kind 86 = .ok (.invokevirtual 83, 3) := by decide +kernel
theorem dX9_kind_89 : decode cX9_kind 89 = .ok (.goto 4, 3) := by decide +kernel
theorem dX9_kind_92 : decode cX9_kind 92 = .ok (.iload_n 2, 1) := by decide +kernel
theorem dX9_kind_93 : decode cX9_kind 93 = .ok (.ireturn, 1) := by decide +kernel
theorem dX9_zeal_0 : decode cX9_zeal 0 = .ok (.iload_n 1, 1) := by decide +kernel
theorem dX9_zeal_1 : decode cX9_zeal 1 = .ok (.invokestatic 78, 3) := by decide +kernel
theorem dX9_zeal_4 : decode cX9_zeal 4 = .ok (.ifCond .eq 24, 3) := by decide +kernel
theorem dX9_zeal_7 : decode cX9_zeal 7 = .ok (.iload_n 2, 1) := by decide +kernel
theorem dX9_zeal_8 : decode cX9_zeal 8 = .ok (.iconst 1, 1) := by decide +kernel
theorem dX9_zeal_9 : decode cX9_zeal 9 = .ok (.bipush 60, 2) := by decide +kernel
theorem dX9_zeal_11 : decode cX9_zeal 11 = .ok (.invokestatic 87, 3) := by decide +kernel
theorem dX9_zeal_14 : decode cX9_zeal 14 = .ok (.ifCond .eq 14, 3) := by decide +kernel
theorem dX9_zeal_17 : decode cX9_zeal 17 = .ok (.iload_n 3, 1) := by decide +kernel
theorem dX9_zeal_18 : decode cX9_zeal 18 = .ok (.iconst 0, 1) := by decide +kernel
theorem dX9_zeal_19 : decode cX9_zeal 19 = .ok (.sipush 999, 3) := by decide +kernel
theorem dX9_zeal_22 : decode cX9_zeal 22 = .ok (.invokestatic 87, 3) := by decide +kernel
theorem dX9_zeal_25 : decode cX9_zeal 25 = .ok (.ifCond .ne 10, 3) := by decide +kernel
theorem dX9_zeal_28 : decode cX9_zeal 28 = .ok (.aload_n 0, 1) := by decide +kernel
theorem dX9_zeal_29 : decode cX9_zeal 29 = .ok (.ldc 82, 2) := by decide +kernel
theorem dX9_zeal_31 : decode cX9_zeal 31 = .ok (.invokevirtual 83, 3) := by decide +kernel
theorem dX9_zeal_34 : decode cX9_zeal 34 = .ok (.ireturn, 1) := by decide +kernel
theorem dX9_zeal_35 : decode cX9_zeal 35 = .ok (.iconst 0, 1) := by decide +kernel
theorem dX9_zeal_36 : decode cX9_zeal 36 = .ok (.istore 4, 2) := by decide +kernel
theorem dX9_zeal_38 : decode cX9_zeal 38 = .ok (.iload 4, 2) := by decide +kernel
theorem dX9_zeal_40 : decode cX9_zeal 40 = .ok (.bipush 9, 2) := by decide +kernel
theorem dX9_zeal_42 : decode cX9_zeal 42 = .ok (.if_icmp .gt 55, 3) := by decide +kernel
theorem dX9_zeal_45 : decode cX9_zeal 45 = .ok (.aload_n 0, 1) := by decide +kernel
theorem dX9_zeal_46 : decode cX9_zeal 46 = .ok (.getfield 50, 3) := by decide +kernel
theorem dX9_zeal_49 : decode cX9_zeal 49 = .ok (.aload_n 0, 1) := by decide +kernel
theorem dX9_zeal_50 : decode cX9_zeal 50 = .ok (.getfield 44, 3) := by decide +kernel
theorem dX9_zeal_53 : decode cX9_zeal 53 = .ok (.invokevirtual 200, 3) := by decide +kernel
theorem dX9_zeal_56 : decode cX9_zeal 56 = .ok (.aload_n 0, 1) := by decide +kernel
theorem dX9_zeal_57 : decode cX9_zeal 57 = .ok (.getfield 50, 3) := by decide +kernel
theorem dX9_zeal_60 : decode cX9_zeal 60 = .ok (.getfield 98, 3) := by decide +kernel
theorem dX9_zeal_63 : decode cX9_zeal 63 = .ok (.iload_n 1, 1) := by decide +kernel
theorem dX9_zeal_64 : decode cX9_zeal 64 = .ok (.iload 4, 2) := by decide +kernel
theorem dX9_zeal_66 : decode cX9_zeal 66 = .ok (.iastore, 1) := by decide +kernel
theorem dX9_zeal_67 : decode cX9_zeal 67 = .ok (.aload_n 0, 1) := by decide +kernel
theorem dX9_zeal_68 : decode cX9_zeal 68 = .ok (.getfield 50, 3) := by decide +kernel
theorem dX9_zeal_71 : decode cX9_zeal 71 = .ok (.iload_n 2, 1) := by decide +kernel
theorem dX9_zeal_72 : decode cX9_zeal 72 = .ok (.invokevirtual 191, 3) := by decide +kernel
theorem dX9_zeal_75 : decode cX9_zeal 75 = .ok (.aload_n 0, 1) := by decide +kernel
theorem dX9_zeal_76 : decode cX9_zeal 76 = .ok (.getfield 50, 3) := by decide +kernel
theorem dX9_zeal_79 : decode cX9_zeal 79 = .ok (.getfield 101, 3) := by decide +kernel
theorem dX9_zeal_82 : decode cX9_zeal 82 = .ok (.iload_n 1, 1) := by decide +kernel
theorem dX9_zeal_83 : decode cX9_zeal 83 = .ok (.iaload, 1) := by decide +kernel
theorem dX9_zeal_84 : decode cX9_zeal 84 = .ok (.iload_n 3, 1) := by decide +kernel
theorem dX9_zeal_85 : decode cX9_zeal 85 = .ok (.if_icmp .lt 6, 3) := by decide +kernel
theorem dX9_zeal_88 : decode cX9_zeal 88 = .ok (.iload 4, 2) := by decide +kernel
theorem dX9_zeal_90 : decode cX9_zeal 90 = .ok (.ireturn, 1) := by decide +kernel
theorem dX9_zeal_91 : decode cX9_zeal 91 = .ok (.iinc 4 1, 3) := by decide +kernel
theorem dX9_zeal_94 : decode cX9_zeal 94 = .ok (.goto (-56), 3) := by decide +kernel
theorem dX9_zeal_97 : decode cX9_zeal 97 = .ok (.aload_n 0, 1) := by decide +kernel
theorem dX9_zeal_98 : decode cX9_zeal 98 = .ok (.ldc 187, 2) := by decide +kernel
theorem dX9_zeal_100 : decode cX9_zeal 100 = .ok (.invokevirtual 83, 3) := by decide +kernel
theorem dX9_zeal_103 : decode cX9_zeal 103 = .ok (.ireturn, 1) := by decide +kernel
theorem dX9_skill_0 : decode cX9_skill 0 = .ok (.iload_n 1, 1) := by decide +kernel
theorem dX9_skill_1 : decode cX9_skill 1 = .ok (.invokestatic 78, 3) := by decide +kernel
theorem dX9_skill_4 : decode cX9_skill 4 = .ok (.ifCond .eq 13, 3) := by decide +kernel
theorem dX9_skill_7 : decode cX9_skill 7 = .ok (.iload_n 2, 1) := by decide +kernel
theorem dX9_skill_8 : decode cX9_skill 8 = .ok (.iconst 1, 1) := by decide +kernel
theorem dX9_skill_9 : decode cX9_skill 9 = .ok (.bipush 60, 2) := by decide +kernel
theorem dX9_skill_11 : decode cX9_skill 11 = .ok (.invokestatic 87, 3) := by decide +kernel
theorem dX9_skill_14 : decode cX9_skill 14 = .ok (.ifCond .ne 10, 3) := by decide +kernel
theorem dX9_skill_17 : decode cX9_skill 17 = .ok (.aload_n 0, 1) := by decide +kernel
theorem dX9_skill_18 : decode cX9_skill 18 = .ok (.ldc 82, 2) := by decide +kernel
theorem dX9_skill_20 : decode cX9_skill 20 = .ok (.invokevirtual 83, 3) := by decide +kernel
theorem dX9_skill_23 : decode cX9_skill 23 = .ok (.ireturn, 1) := by decide +kernel
theorem dX9_skill_24 : decode cX9_skill 24 = .ok (.iconst 0, 1) := by decide +kernel
theorem dX9_skill_25 : decode cX9_skill 25 = .ok (.istore_n 3, 1) := by decide +kernel
theorem dX9_skill_26 : decode cX9_skill 26 = .ok (.iload_n 3, 1) := by decide +kernel
theorem dX9_skill_27 : decode cX9_skill 27 = .ok (.bipush 20, 2) := by decide +kernel
theorem dX9_skill_29 : decode cX9_skill 29 = .ok (.if_icmp .gt 50, 3) := by decide +kernel
theorem dX9_skill_32 : decode cX9_skill 32 = .ok (.aload_n 0, 1) := by decide +kernel
theorem dX9_skill_33 : decode cX9_skill 33 = .ok (.getfield 50, 3) := by decide +kernel
theorem dX9_skill_36 : decode cX9_skill 36 = .ok (.aload_n 0, 1) := by decide +kernel
theorem dX9_skill_37 : decode cX9_skill 37 = .ok (.getfield 44, 3) := by decide +kernel
theorem dX9_skill_40 : decode cX9_skill 40 = .ok (.invokevirtual 200, 3) := by decide +kernel
theorem dX9_skill_43 : decode cX9_skill 43 = .ok (.aload_n 0, 1) := by decide +kernel
theorem dX9_skill_44 : decode cX9_skill 44 = .ok (.getfield 50, 3) := by decide +kernel
theorem dX9_skill_47 : decode cX9_skill 47 = .ok (.getfield 91, 3) := by decide +kernel
theorem dX9_skill_50 : decode cX9_skill 50 = .ok (.iload_n 1, 1) := by decide +kernel
theorem dX9_skill_51 : decode cX9_skill 51 = .ok (.iload_n 3, 1) := by decide +kernel
theorem dX9_skill_52 : decode cX9_skill 52 = .ok (.iastore, 1) := by decide +kernel
theorem dX9_skill_53 : decode cX9_skill 53 = .ok (.aload_n 0, 1) := by decide +kernel
theorem dX9_skill_54 : decode cX9_skill 54 = .ok (.getfield 50, 3) := by decide +kernel
theorem dX9_skill_57 : decode cX9_skill 57 = .ok (.iload_n 2, 1) := by decide +kernel
theorem dX9_skill_58 : decode cX9_skill 58 = .ok (.invokevirtual 191, 3) := by decide +kernel
theorem dX9_skill_61 : decode cX9_skill 61 = .ok (.aload_n 0, 1) := by decide +kernel
theorem dX9_skill_62 : decode cX9_skill 62 = .ok (.getfield 50, 3) := by decide +kernel
theorem dX9_skill_65 : decode cX9_skill 65 = .ok (.invokevirtual 210, 3) := by decide +kernel
theorem dX9_skill_68 : decode cX9_skill 68 = .ok (.ifCond .eq 5, 3) := by decide +kernel
theorem dX9_skill_71 : decode cX9_skill 71 = .ok (.iload_n 3, 1) := by decide +kernel
theorem dX9_skill_72 : decode cX9_skill 72 = .ok (.ireturn, 1) := by decide +kernel
theorem dX9_skill_73 : decode cX9_skill 73 = .ok (.iinc 3 1, 3) := by decide +kernel
theorem dX9_skill_76 : decode cX9_skill 76 = .ok (.goto (-50), 3) := by decide +kernel
theorem dX9_skill_79 : decode cX9_skill 79 = .ok (.aload_n 0, 1) := by decide +kernel
theorem dX9_skill_80 : decode cX9_skill 80 = .ok (.ldc 187, 2) := by decide +kernel
theorem dX9_skill_82 : decode cX9_skill 82 = .ok (.invokevirtual 83, 3) := by decide +kernel
theorem dX9_skill_85 : decode cX9_skill 85 = .ok (.ireturn, 1) := by decide +kernel
theorem dX9_maker_0 : decode cX9_maker 0 = .ok (.iload_n 1, 1) := by decide +kernel
theorem dX9_maker_1 : decode cX9_maker 1 = .ok (.iconst 0, 1) := by decide +kernel
theorem dX9_maker_2 : decode cX9_maker 2 = .ok (.bipush 100, 2) := by decide +kernel
theorem dX9_maker_4 : decode cX9_maker 4 = .ok (.invokestatic 87, 3) := by decide +kernel
theorem dX9_maker_7 : decode cX9_maker 7 = .ok (.ifCond .ne 10, 3) := by decide +kernel
theorem dX9_maker_10 : decode cX9_maker 10 = .ok (.aload_n 0, 1) := by decide +kernel
theorem dX9_maker_11 : decode cX9_maker 11 = .ok (.ldc 82, 2) := by decide +kernel
theorem dX9_maker_13 : decode cX9_maker 13 = .ok (.invokevirtual 83, 3) := by decide +kernel
theorem dX9_maker_16 : decode cX9_maker 16 = .ok (.ireturn, 1) := by decide +kernel
theorem dX9_maker_17 : decode cX9_maker 17 = .ok (.aload_n 0, 1) := by decide +kernel
theorem dX9_maker_18 : decode cX9_maker 18 = .ok (.getfield 50, 3) := by decide +kernel
theorem dX9_maker_21 : decode cX9_maker 21 = .ok (.aload_n 0, 1) := by decide +kernel
theorem dX9_maker_22 : decode cX9_maker 22 = .ok (.getfield 44, 3) := by decide +kernel
theorem dX9_maker_25 : decode cX9_maker 25 = .ok (.invokevirtual 200, 3) := by decide +kernel
theorem dX9_maker_28 : decode cX9_maker 28 = .ok (.aload_n 0, 1) := by decide +kernel
theorem dX9_maker_29 : decode cX9_maker 29 = .ok (.getfield 50, 3) := by decide +kernel
theorem dX9_maker_32 : decode cX9_maker 32 = .ok (.iload_n 1, 1) := by decide +kernel
theorem dX9_maker_33 : decode cX9_maker 33 = .ok (.invokevirtual 191, 3) := by decide +kernel
theorem dX9_maker_36 : decode cX9_maker 36 = .ok (.iconst 0, 1) := by decide +kernel
theorem dX9_maker_37 : decode cX9_maker 37 = .ok (.istore_n 2, 1) := by decide +kernel
theorem dX9_maker_38 : decode cX9_maker 38 = .ok (.iconst 1, 1) := by decide +kernel
theorem dX9_maker_39 : decode cX9_maker 39 = .ok (.istore_n 3, 1) := by decide +kernel
theorem dX9_maker_40 : decode cX9_maker 40 = .ok (.iload_n 3, 1) := by decide +kernel
theorem dX9_maker_41 : decode cX9_maker 41 = .ok (.bipush 6, 2) := by decide +kernel
theorem dX9_maker_43 : decode cX9_maker 43 = .ok (.if_icmp .ge 32, 3) := by decide +kernel
theorem dX9_maker_46 : decode cX9_maker 46 = .ok (.aload_n 0, 1) := by decide +kernel
theorem dX9_maker_47 : decode cX9_maker 47 = .ok (.getfield 50, 3) := by decide +kernel
theorem dX9_maker_50 : decode cX9_maker 50 = .ok (.getfield 101, 3) := by decide +kernel
theorem dX9_maker_53 : decode cX9_maker 53 = .ok (.iload_n 3, 1) := by decide +kernel
theorem dX9_maker_54 : decode cX9_maker 54 = .ok (.iaload, 1) := by decide +kernel
theorem dX9_maker_55 : decode cX9_maker 55 = .ok (.aload_n 0, 1) := by decide +kernel
theorem dX9_maker_56 : decode cX9_maker 56 = .ok (.getfield 50, 3) := by decide +kernel
theorem dX9_maker_59 : decode cX9_maker 59 = .ok (.getfield 101, 3) := by decide +kernel
theorem dX9_maker_62 : decode cX9_maker 62 = .ok (.iload_n 2, 1) := by decide +kernel
theorem dX9_maker_63 : decode cX9_maker 63 = .ok (.iaload, 1) := by decide +kernel
theorem dX9_maker_64 : decode cX9_maker 64 = .ok (.if_icmp .le 5, 3) := by decide +kernel
theorem dX9_maker_67 : decode cX9_maker 67 = .ok (.iload_n 3, 1) := by decide +kernel
theorem dX9_maker_68 : decode cX9_maker 68 = .ok (.istore_n 2, 1) := by decide +kernel
theorem dX9_maker_69 : decode cX9_maker 69 = .ok (.iinc 3 1, 3) := by decide +kernel
theorem dX9_maker_72 : decode cX9_maker 72 = .ok (.goto (-32), 3) := by decide +kernel
theorem dX9_maker_75 : decode cX9_maker 75 = .ok (.iload_n 2, 1) := by decide +kernel
theorem dX9_maker_76 : decode cX9_maker 76 = .ok (.ireturn, 1) := by decide +kernel
theorem dX9_drop_0 : decode cX9_drop 0 = .ok (.iload_n 1, 1) := by decide +kernel
theorem dX9_drop_1 : decode cX9_drop 1 = .ok (.iconst 1, 1) := by decide +kernel
theorem dX9_drop_2 : decode cX9_drop 2 = .ok (.bipush 30, 2) := by decide +kernel
theorem dX9_drop_4 : decode cX9_drop 4 = .ok (.invokestatic 87, 3) := by decide +kernel
theorem dX9_drop_7 : decode cX9_drop 7 = .ok (.ifCond .ne 10, 3) := by decide +kernel
theorem dX9_drop_10 : decode cX9_drop 10 = .ok (.aload_n 0, 1) := by decide +kernel
theorem dX9_drop_11 : decode cX9_drop 11 = .ok (.ldc 82, 2) := by decide +kernel
theorem dX9_drop_13 : decode cX9_drop 13 = .ok (.invokevirtual 83, 3) := by decide +kernel
theorem dX9_drop_16 : decode cX9_drop 16 = .ok (.ireturn, 1) := by decide +kernel
theorem dX9_drop_17 : decode cX9_drop 17 = .ok (.iconst (-1), 1) := by decide +kernel
theorem dX9_drop_18 : decode cX9_drop 18 = .ok (.istore_n 2, 1) := by decide +kernel
theorem dX9_drop_19 : decode cX9_drop 19 = .ok (.iconst (-1), 1) := by decide +kernel
theorem dX9_drop_20 : decode cX9_drop 20 = .ok (.istore_n 3, 1) := by decide +kernel
theorem dX9_drop_21 : decode cX9_drop 21 = .ok (.iconst 0, 1) := by decide +kernel
theorem dX9_drop_22 : decode cX9_drop 22 = .ok (.istore 4, 2) := by decide +kernel
theorem dX9_drop_24 : decode cX9_drop 24 = .ok (.iload 4, 2) := by decide +kernel
theorem dX9_drop_26 : decode cX9_drop 26 = .ok (.aload_n 0, 1) := by decide +kernel
theorem dX9_drop_27 : decode cX9_drop 27 = .ok (.getfield 44, 3) := by decide +kernel
theorem dX9_drop_30 : decode cX9_drop 30 = .ok (.getfield 124, 3) := by decide +kernel
theorem dX9_drop_33 : decode cX9_drop 33 = .ok (.if_icmp .ge 70, 3) := by decide +kernel
theorem dX9_drop_36 : decode cX9_drop 36 = .ok (.aload_n 0, 1) := by decide +kernel
theorem dX9_drop_37 : decode cX9_drop 37 = .ok (.getfield 44, 3) := by decide +kernel
theorem dX9_drop_40 : decode cX9_drop 40 = .ok (.iload 4, 2) := by decide +kernel
theorem dX9_drop_42 : decode cX9_drop 42 = .ok (.invokevirtual 170, 3) := by decide +kernel
theorem dX9_drop_45 : decode cX9_drop 45 = .ok (.ifCond .eq 52, 3) := by decide +kernel
theorem dX9_drop_48 : decode cX9_drop 48 = .ok (.aload_n 0, 1) := by decide +kernel
theorem dX9_drop_49 : decode cX9_drop 49 = .ok (.getfield 50, 3) := by decide +kernel
theorem dX9_drop_52 : decode cX9_drop 52 = .ok (.aload_n 0, 1) := by decide +kernel
theorem dX9_drop_53 : decode cX9_drop 53 = .ok (.getfield 44, 3) := by decide +kernel
theorem dX9_drop_56 : decode cX9_drop 56 = .ok (.invokevirtual 200, 3) := by decide +kernel
theorem dX9_drop_59 : decode cX9_drop 59 = .ok (.aload_n 0, 1) := by decide +kernel
theorem dX9_drop_60 : decode cX9_drop 60 = .ok (.getfield 50, 3) := by decide +kernel
theorem dX9_drop_63 : decode cX9_drop 63 = .ok (.iload 4, 2) := by decide +kernel
theorem dX9_drop_65 : decode cX9_drop 65 = .ok (.invokevirtual 174, 3) := by decide +kernel
theorem dX9_drop_68 : decode cX9_drop 68 = .ok (.aload_n 0, 1) := by decide +kernel
theorem dX9_drop_69 : decode cX9_drop 69 = .ok (.getfield 50, 3) := by decide +kernel
theorem dX9_drop_72 : decode cX9_drop 72 = .ok (.iload_n 1, 1) := by decide +kernel
theorem dX9_drop_73 : decode cX9_drop 73 = .ok (.invokevirtual 191, 3) := by decide +kernel
theorem dX9_drop_76 : decode cX9_drop 76 = .ok (.aload_n 0, 1) := by decide +kernel
theorem dX9_drop_77 : decode cX9_drop 77 = .ok (.getfield 50, 3) := by decide +kernel
theorem dX9_drop_80 : decode cX9_drop 80 = .ok (.invokevirtual 194, 3) := by decide +kernel
theorem dX9_drop_83 : decode cX9_drop 83 = .ok (.istore 5, 2) := by decide +kernel
theorem dX9_drop_85 : decode cX9_drop 85 = .ok (.iload 5, 2) := by decide +kernel
theorem dX9_drop_87 : decode cX9_drop 87 = .ok (.iload_n 3, 1) := by decide +kernel
theorem dX9_drop_88 : decode cX9_drop 88 = .ok (.if_icmp .le 9, 3) := by decide +kernel
theorem dX9_drop_91 : decode cX9_drop 91 = .ok (.iload 4, 2) := by decide +kernel
theorem dX9_drop_93 : decode cX9_drop 93 = .ok (.istore_n 2, 1) := by decide +kernel
theorem dX9_drop_94 : decode cX9_drop 94 = .ok (.iload 5, 2) := by decide +kernel
theorem dX9_drop_96 : decode cX9_drop 96 = .ok (.istore_n 3, 1) := by decide +kernel
theorem dX9_drop_97 : decode cX9_drop 97 = .ok (.iinc 4 1, 3) := by decide +kernel
theorem dX9_drop_100 : decode cX9_drop 100 = .ok (.goto (-76), 3) := by decide +kernel
theorem dX9_drop_103 : decode cX9_drop 103 = .ok (.iload_n 2, 1) := by decide +kernel
theorem dX9_drop_104 : decode cX9_drop 104 = .ok (.ifCond .ge 12, 3) := by decide +kernel
theorem dX9_drop_107 : decode cX9_drop 107 = .ok (.aload_n 0, 1) := by decide +kernel
theorem dX9_drop_108 : decode cX9_drop 108 = .ok (.ldc 187, 2) := by decide +kernel
theorem dX9_drop_110 : decode cX9_drop 110 = .ok (.invokevirtual 83, 3) := by decide +kernel
theorem dX9_drop_113 : decode cX9_drop 113 = .ok (.goto 4, 3) := by decide +kernel
theorem dX9_drop_116 : decode cX9_drop 116 = .ok (.iload_n 2, 1) := by decide +kernel
theorem dX9_drop_117 : decode cX9_drop 117 = .ok (.ireturn, 1) := by decide +kernel
theorem dX9_feed_0 : decode cX9_feed 0 = .ok (.iload_n 2, 1) := by decide +kernel
theorem dX9_feed_1 : decode cX9_feed 1 = .ok (.iconst 1, 1) := by decide +kernel
theorem dX9_feed_2 : decode cX9_feed 2 = .ok (.iconst 4, 1) := by decide +kernel
theorem dX9_feed_3 : decode cX9_feed 3 = .ok (.invokestatic 87, 3) := by decide +kernel
theorem dX9_feed_6 : decode cX9_feed 6 = .ok (.ifCond .ne 10, 3) := by decide +kernel
theorem dX9_feed_9 : decode cX9_feed 9 = .ok (.aload_n 0, 1) := by decide +kernel
theorem dX9_feed_10 : decode cX9_feed 10 = .ok (.ldc 82, 2) := by decide +kernel
theorem dX9_feed_12 : decode cX9_feed 12 = .ok (.invokevirtual 83, 3) := by decide +kernel
theorem dX9_feed_15 : decode cX9_feed 15 = .ok (.ireturn, 1) := by decide +kernel
theorem dX9_feed_16 : decode cX9_feed 16 = .ok (.aload_n 0, 1) := by decide +kernel
theorem dX9_feed_17 : decode cX9_feed 17 = .ok (.getfield 63, 3) := by decide +kernel
theorem dX9_feed_20 : decode cX9_feed 20 = .ok (.iload_n 2, 1) := by decide +kernel
theorem dX9_feed_21 : decode cX9_feed 21 = .ok (.invokevirtual 216, 3) := by decide +kernel
theorem dX9_feed_24 : decode cX9_feed 24 = .ok (.ifCond .ne 10, 3) := by decide +kernel
theorem dX9_feed_27 : decode cX9_feed 27 = .ok (.aload_n 0, 1) := by decide +kernel
theorem dX9_feed_28 : decode cX9_feed 28 = .ok (.ldc 123, 2) := by decide +kernel
theorem dX9_feed_30 : decode cX9_feed 30 = .ok (.invokevirtual 83, 3) := by decide +kernel
theorem dX9_feed_33 : decode cX9_feed 33 = .ok (.ireturn, 1) := by decide +kernel
theorem dX9_feed_34 : decode cX9_feed 34 = .ok (.aload_n 0, 1) := by decide +kernel
theorem dX9_feed_35 : decode cX9_feed 35 = .ok (.getfield 63, 3) := by decide +kernel
theorem dX9_feed_38 : decode cX9_feed 38 = .ok (.iload_n 1, 1) := by decide +kernel
theorem dX9_feed_39 : decode cX9_feed 39 = .ok (.iload_n 2, 1) := by decide +kernel
theorem dX9_feed_40 : decode cX9_feed 40 = .ok (.invokevirtual 219, 3) := by decide +kernel
theorem dX9_feed_43 : decode cX9_feed 43 = .ok (.aload_n 0, 1) := by decide +kernel
theorem dX9_feed_44 : decode cX9_feed 44 = .ok (.getfield 63, 3) := by decide +kernel
theorem dX9_feed_47 : decode cX9_feed 47 = .ok (.getfield 223, 3) := by decide +kernel
theorem dX9_feed_50 : decode cX9_feed 50 = .ok (.ireturn, 1) := by decide +kernel
theorem dX9_wipe_0 : decode cX9_wipe 0 = .ok (.aload_n 0, 1) := by decide +kernel
theorem dX9_wipe_1 : decode cX9_wipe 1 = .ok (.getfield 63, 3) := by decide +kernel
theorem dX9_wipe_4 : decode cX9_wipe 4 = .ok (.getfield 223, 3) := by decide +kernel
theorem dX9_wipe_7 : decode cX9_wipe 7 = .ok (.istore_n 1, 1) := by decide +kernel
theorem dX9_wipe_8 : decode cX9_wipe 8 = .ok (.aload_n 0, 1) := by decide +kernel
theorem dX9_wipe_9 : decode cX9_wipe 9 = .ok (.getfield 63, 3) := by decide +kernel
theorem dX9_wipe_12 : decode cX9_wipe 12 = .ok (.iconst 0, 1) := by decide +kernel
theorem dX9_wipe_13 : decode cX9_wipe 13 = .ok (.putfield 223, 3) := by decide +kernel
theorem dX9_wipe_16 : decode cX9_wipe 16 = .ok (.iload_n 1, 1) := by decide +kernel
theorem dX9_wipe_17 : decode cX9_wipe 17 = .ok (.ireturn, 1) := by decide +kernel
theorem dX9_common_0 : decode cX9_common 0 = .ok (.aload_n 0, 1) := by decide +kernel
theorem dX9_common_1 : decode cX9_common 1 = .ok (.getfield 50, 3) := by decide +kernel
theorem dX9_common_4 : decode cX9_common 4 = .ok (.aload_n 0, 1) := by decide +kernel
theorem dX9_common_5 : decode cX9_common 5 = .ok (.getfield 44, 3) := by decide +kernel
theorem dX9_common_8 : decode cX9_common 8 = .ok (.invokevirtual 200, 3) := by decide +kernel
theorem dX9_common_11 : decode cX9_common 11 = .ok (.aload_n 0, 1) := by decide +kernel
theorem dX9_common_12 : decode cX9_common 12 = .ok (.getfield 63, 3) := by decide +kernel
theorem dX9_common_15 : decode cX9_common 15 = .ok (.aload_n 0, 1) := by decide +kernel
theorem dX9_common_16 : decode cX9_common 16 = .ok (.getfield 50, 3) := by decide +kernel
theorem dX9_common_19 : decode cX9_common 19 = .ok (.invokevirtual 226, 3) := by decide +kernel
theorem dX9_common_22 : decode cX9_common 22 = .ok (.istore_n 1, 1) := by decide +kernel
theorem dX9_common_23 : decode cX9_common 23 = .ok (.aload_n 0, 1) := by decide +kernel
theorem dX9_common_24 : decode cX9_common 24 = .ok (.getfield 63, 3) := by decide +kernel
theorem dX9_common_27 : decode cX9_common 27 = .ok (.iconst 0, 1) := by decide +kernel
theorem dX9_common_28 : decode cX9_common 28 = .ok (.putfield 223, 3) := by decide +kernel
theorem dX9_common_31 : decode cX9_common 31 = .ok (.iload_n 1, 1) := by decide +kernel
theorem dX9_common_32 : decode cX9_common 32 = .ok (.ifCond .lt 14, 3) := by decide +kernel
theorem dX9_common_35 : decode cX9_common 35 = .ok (.aload_n 0, 1) := by decide +kernel
theorem dX9_common_36 : decode cX9_common 36 = .ok (.getfield 44, 3) := by decide +kernel
theorem dX9_common_39 : decode cX9_common 39 = .ok (.aload_n 0, 1) := by decide +kernel
theorem dX9_common_40 : decode cX9_common 40 = .ok (.getfield 50, 3) := by decide +kernel
theorem dX9_common_43 : decode cX9_common 43 = .ok (.invokevirtual 200, 3) := by decide +kernel
theorem dX9_common_46 : decode cX9_common 46 = .ok (.iload_n 1, 1) := by decide +kernel
theorem dX9_common_47 : decode cX9_common 47 = .ok (.ireturn, 1) := by decide +kernel
theorem dX9_sheet_0 : decode cX9_sheet 0 = .ok (.iload_n 1, 1) := by decide +kernel
theorem dX9_sheet_1 : decode cX9_sheet 1 = .ok (.invokestatic 230, 3) := by decide +kernel
theorem dX9_sheet_4 : decode cX9_sheet 4 = .ok (.ifCond .eq 10, 3) := by decide +kernel
theorem dX9_sheet_7 : decode cX9_sheet 7 = .ok (.iload_n 2, 1) := by decide +kernel
theorem dX9_sheet_8 : decode cX9_sheet 8 = .ok (.invokestatic 233, 3) := by decide +kernel
theorem dX9_sheet_11 : decode cX9_sheet 11 = .ok (.ifCond .ne 10, 3) := by decide +kernel
theorem dX9_sheet_14 : decode cX9_sheet 14 = .ok (.aload_n 0, 1) := by decide +kernel
theorem dX9_sheet_15 : decode cX9_sheet 15 = .ok (.ldc 82, 2) := by decide +kernel
theorem dX9_sheet_17 : decode cX9_sheet 17 = .ok (.invokevirtual 83, 3) := by decide +kernel
theorem dX9_sheet_20 : decode cX9_sheet 20 = .ok (.ireturn, 1) := by decide +kernel
theorem dX9_sheet_21 : decode cX9_sheet 21 = .ok (.iload_n 3, 1) := by decide +kernel
theorem dX9_sheet_22 : decode cX9_sheet 22 = .ok (.ifCond .ge 10, 3) := by decide +kernel
theorem dX9_sheet_25 : decode cX9_sheet 25 = .ok (.aload_n 0, 1) := by decide +kernel
theorem dX9_sheet_26 : decode cX9_sheet 26 = .ok (.ldc 236, 2) := by decide +kernel
theorem dX9_sheet_28 : decode cX9_sheet 28 = .ok (.invokevirtual 83, 3) := by decide +kernel
theorem dX9_sheet_31 : decode cX9_sheet 31 = .ok (.ireturn, 1) := by decide +kernel
theorem dX9_sheet_32 : decode cX9_sheet 32 = .ok (.iload_n 3, 1) := by decide +kernel
theorem dX9_sheet_33 : decode cX9_sheet 33 = .ok (.bipush 40, 2) := by decide +kernel
theorem dX9_sheet_35 : decode cX9_sheet 35 = .ok (.if_icmp .le 10, 3) := by decide +kernel
theorem dX9_sheet_38 : decode cX9_sheet 38 = .ok (.aload_n 0, 1) := by decide +kernel
theorem dX9_sheet_39 : decode cX9_sheet 39 = .ok (.ldc 82, 2) := by decide +kernel
theorem dX9_sheet_41 : decode cX9_sheet 41 = .ok (.invokevirtual 83, 3) := by decide +kernel
theorem dX9_sheet_44 : decode cX9_sheet 44 = .ok (.ireturn, 1) := by decide +kernel
theorem dX9_sheet_45 : decode cX9_sheet 45 = .ok (.aload_n 0, 1) := by decide +kernel
theorem dX9_sheet_46 : decode cX9_sheet 46 = .ok (.getfield 69, 3) := by decide +kernel
theorem dX9_sheet_49 : decode cX9_sheet 49 = .ok (.iload_n 1, 1) := by decide +kernel
theorem dX9_sheet_50 : decode cX9_sheet 50 = .ok (.aaload, 1) := by decide +kernel
theorem dX9_sheet_51 : decode cX9_sheet 51 = .ok (.iload_n 2, 1) := by decide +kernel
theorem dX9_sheet_52 : decode cX9_sheet 52 = .ok (.iload_n 3, 1) := by decide +kernel
theorem dX9_sheet_53 : decode cX9_sheet 53 = .ok (.invokevirtual 237, 3) := by decide +kernel
theorem dX9_sheet_56 : decode cX9_sheet 56 = .ok (.aload_n 0, 1) := by decide +kernel
theorem dX9_sheet_57 : decode cX9_sheet 57 = .ok (.getfield 69, 3) := by decide +kernel
theorem dX9_sheet_60 : decode cX9_sheet 60 = .ok (.iload_n 1, 1) := by decide +kernel
theorem dX9_sheet_61 : decode cX9_sheet 61 = .ok (.aaload, 1) := by decide +kernel
theorem dX9_sheet_62 : decode cX9_sheet 62 = .ok (.getfield 240, 3) := by decide +kernel
theorem dX9_sheet_65 : decode cX9_sheet 65 = .ok (.ireturn, 1) := by decide +kernel
theorem dX9_write_0 : decode cX9_write 0 = .ok (.iload_n 1, 1) := by decide +kernel
theorem dX9_write_1 : decode cX9_write 1 = .ok (.invokestatic 230, 3) := by decide +kernel
theorem dX9_write_4 : decode cX9_write 4 = .ok (.ifCond .ne 11, 3) := by decide +kernel
theorem dX9_write_7 : decode cX9_write 7 = .ok (.aload_n 0, 1) := by decide +kernel
theorem dX9_write_8 : decode cX9_write 8 = .ok (.ldc 82, 2) := by decide +kernel
theorem dX9_write_10 : decode cX9_write 10 = .ok (.invokevirtual 83, 3) := by decide +kernel
theorem dX9_write_13 : decode cX9_write 13 = .ok (.i2l, 1) := by decide +kernel
theorem dX9_write_14 : decode cX9_write 14 = .ok (.lreturn, 1) := by decide +kernel
theorem dX9_write_15 : decode cX9_write 15 = .ok (.aload_n 0, 1) := by decide +kernel
theorem dX9_write_16 : decode cX9_write 16 = .ok (.getfield 69, 3) := by decide +kernel
theorem dX9_write_19 : decode cX9_write 19 = .ok (.iload_n 1, 1) := by decide +kernel
theorem dX9_write_20 : decode cX9_write 20 = .ok (.aaload, 1) := by decide +kernel
theorem dX9_write_21 : decode cX9_write 21 = .ok (.astore 5, 2) := by decide +kernel
theorem dX9_write_23 : decode cX9_write 23 = .ok (.aload 5, 2) := by decide +kernel
theorem dX9_write_25 : decode cX9_write 25 = .ok (.invokevirtual 241, 3) := by decide +kernel
theorem dX9_write_28 : decode cX9_write 28 = .ok (.ifCond .eq 11, 3) := by decide +kernel
theorem dX9_write_31 : decode cX9_write 31 = .ok (.aload_n 0, 1) := by decide +kernel
theorem dX9_write_32 : decode cX9_write 32 = .ok (.ldc 244, 2) := by decide +kernel
theorem dX9_write_34 : decode cX9_write 34 = .ok (.invokevirtual 83, 3) := by decide +kernel
theorem dX9_write_37 : decode cX9_write 37 = .ok (.i2l, 1) := by decide +kernel
theorem dX9_write_38 : decode cX9_write 38 = .ok (.lreturn, 1) := by decide +kernel
theorem dX9_write_39 : decode cX9_write 39 = .ok (.iload_n 2, 1) := by decide +kernel
theorem dX9_write_40 : decode cX9_write 40 = .ok (.iconst 0, 1) := by decide +kernel
theorem dX9_write_41 : decode cX9_write 41 = .ok (.aload 5, 2) := by decide +kernel
theorem dX9_write_43 : decode cX9_write 43 = .ok (.getfield 240, 3) := by decide +kernel
theorem dX9_write_46 : decode cX9_write 46 = .ok (.iconst 1, 1) := by decide +kernel
theorem dX9_write_47 : decode cX9_write 47 = .ok (.isub, 1) := by decide +kernel
theorem dX9_write_48 : decode cX9_write 48 = .ok (.invokestatic 87, 3) := by decide +kernel
theorem dX9_write_51 : decode cX9_write 51 = .ok (.ifCond .ne 11, 3) := by decide +kernel
theorem dX9_write_54 : decode cX9_write 54 = .ok (.aload_n 0, 1) := by decide +kernel
theorem dX9_write_55 : decode cX9_write 55 = .ok (.ldc 82, 2) := by decide +kernel
theorem dX9_write_57 : decode cX9_write 57 = .ok (.invokevirtual 83, 3) := by decide +kernel
theorem dX9_write_60 : decode cX9_write 60 = .ok (.i2l, 1) := by decide +kernel
theorem dX9_write_61 : decode cX9_write 61 = .ok (.lreturn, 1) := by decide +kernel
theorem dX9_write_62 : decode cX9_write 62 = .ok (.aload 5, 2) := by decide +kernel
theorem dX9_write_64 : decode cX9_write 64 = .ok (.getfield 245, 3) := by decide +kernel
theorem dX9_write_67 : decode cX9_write 67 = .ok (.iload_n 2, 1) := by decide +kernel
theorem dX9_write_68 : decode cX9_write 68 = .ok (.laload, 1) := by decide +kernel
theorem dX9_write_69 : decode cX9_write 69 = .ok (.lstore 6, 2) := by decide +kernel
theorem dX9_write_71 : decode cX9_write 71 = .ok (.aload 5, 2) := by decide +kernel
theorem dX9_write_73 : decode cX9_write 73 = .ok (.iload_n 2, 1) := by decide +kernel
theorem dX9_write_74 : decode cX9_write 74 = .ok (.lload_n 3, 1) := by decide +kernel
theorem dX9_write_75 : decode cX9_write 75 = .ok (.invokevirtual 249, 3) := by decide +kernel
theorem dX9_write_78 : decode cX9_write 78 = .ok (.lload 6, 2) := by decide +kernel
theorem dX9_write_80 : decode cX9_write 80 = .ok (.lreturn, 1) := by decide +kernel
theorem dX9_copy_0 : decode cX9_copy 0 = .ok (.iload_n 1, 1) := by decide +kernel
theorem dX9_copy_1 : decode cX9_copy 1 = .ok (.invokestatic 230, 3) := by decide +kernel
theorem dX9_copy_4 : decode cX9_copy 4 = .ok (.ifCond .eq 10, 3) := by decide +kernel
theorem dX9_copy_7 : decode cX9_copy 7 = .ok (.iload_n 3, 1) := by decide +kernel
theorem dX9_copy_8 : decode cX9_copy 8 = .ok (.invokestatic 230, 3) := by decide +kernel
theorem dX9_copy_11 : decode cX9_copy 11 = .ok (.ifCond .ne 10, 3) := by decide +kernel
theorem dX9_copy_14 : decode cX9_copy 14 = .ok (.aload_n 0, 1) := by decide +kernel
theorem dX9_copy_15 : decode cX9_copy 15 = .ok (.ldc 82, 2) := by decide +kernel
theorem dX9_copy_17 : decode cX9_copy 17 = .ok (.invokevirtual 83, 3) := by decide +kernel
theorem dX9_copy_20 : decode cX9_copy 20 = .ok (.ireturn, 1) := by decide +kernel
theorem dX9_copy_21 : decode cX9_copy 21 = .ok (.aload_n 0, 1) := by decide +kernel
theorem dX9_copy_22 : decode cX9_copy 22 = .ok (.getfield 69, 3) := by decide +kernel
theorem dX9_copy_25 : decode cX9_copy 25 = .ok (.iload_n 1, 1) := by decide +kernel
theorem dX9_copy_26 : decode cX9_copy 26 = .ok (.aaload, 1) := by decide +kernel
theorem dX9_copy_27 : decode cX9_copy 27 = .ok (.astore 6, 2) := by decide +kernel
theorem dX9_copy_29 : decode cX9_copy 29 = .ok (.aload_n 0, 1) := by decide +kernel
theorem dX9_copy_30 : decode cX9_copy 30 = .ok (.getfield 69, 3) := by decide +kernel
theorem dX9_copy_33 : decode cX9_copy 33 = .ok (.iload_n 3, 1) := by decide +kernel
theorem dX9_copy_34 : decode cX9_copy 34 = .ok (.aaload, 1) := by decide +kernel
theorem dX9_copy_35 : decode cX9_copy 35 = .ok (.astore 7, 2) := by decide +kernel
theorem dX9_copy_37 : decode cX9_copy 37 = .ok (.aload 6, 2) := by decide +kernel
theorem dX9_copy_39 : decode cX9_copy 39 = .ok (.invokevirtual 241, 3) := by decide +kernel
theorem dX9_copy_42 : decode cX9_copy 42 = .ok (.ifCond .ne 11, 3) := by decide +kernel
theorem dX9_copy_45 : decode cX9_copy 45 = .ok (.aload 7, 2) := by decide +kernel
theorem dX9_copy_47 : decode cX9_copy 47 = .ok (.invokevirtual 241, 3) := by decide +kernel
theorem dX9_copy_50 : decode cX9_copy 50 = .ok (.ifCond .eq 10, 3) := by decide +kernel
theorem dX9_copy_53 : decode cX9_copy 53 = .ok (.aload_n 0, 1) := by decide +kernel
theorem dX9_copy_54 : decode cX9_copy 54 = .ok (.ldc 244, 2) := by decide +kernel
theorem dX9_copy_56 : decode cX9_copy 56 = .ok (.invokevirtual 83, 3) := by decide +kernel
theorem dX9_copy_59 : decode cX9_copy 59 = .ok (.ireturn, 1) := by decide +kernel
theorem dX9_copy_60 : decode cX9_copy 60 = .ok (.aload 6, 2) := by decide +kernel
theorem dX9_copy_62 : decode cX9_copy 62 = .ok (.getfield 253, 3) := by decide +kernel
theorem dX9_copy_65 : decode cX9_copy 65 = .ok (.aload 7, 2) := by decide +kernel
theorem dX9_copy_67 : decode cX9_copy 67 = .ok (.getfield 253, 3) := by decide +kernel
theorem dX9_copy_70 : decode cX9_copy 70 = .ok (.if_icmp .eq 10, 3) := by decide +kernel
theorem dX9_copy_73 : decode cX9_copy 73 = .ok (.aload_n 0, 1) := by decide +kernel
theorem dX9_copy_74 : decode cX9_copy 74 = .ok (.ldc 169, 2) := by decide +kernel
theorem dX9_copy_76 : decode cX9_copy 76 = .ok (.invokevirtual 83, 3) := by decide +kernel
theorem dX9_copy_79 : decode cX9_copy 79 = .ok (.ireturn, 1) := by decide +kernel
theorem dX9_copy_80 : decode cX9_copy 80 = .ok (.aload 6, 2) := by decide +kernel
theorem dX9_copy_82 : decode cX9_copy 82 = .ok (.iload_n 2, 1) := by decide +kernel
theorem dX9_copy_83 : decode cX9_copy 83 = .ok (.iload 5, 2) := by decide +kernel
theorem dX9_copy_85 : decode cX9_copy 85 = .ok (.invokevirtual 256, 3) := by decide +kernel
theorem dX9_copy_88 : decode cX9_copy 88 = .ok (.ifCond .eq 15, 3) := by decide +kernel
theorem dX9_copy_91 : decode cX9_copy 91 = .ok (.aload 7, 2) := by decide +kernel
theorem dX9_copy_93 : decode cX9_copy 93 = .ok (.iload 4, 2) := by decide +kernel
theorem dX9_copy_95 : decode cX9_copy 95 = .ok (.iload 5, 2) := by decide +kernel
theorem dX9_copy_97 : decode cX9_copy 97 = .ok (.invokevirtual 256, 3) := by decide +kernel
theorem dX9_copy_100 : decode cX9_copy 100 = .ok (.ifCond .ne 10, 3) := by decide +kernel
theorem dX9_copy_103 : decode cX9_copy 103 = .ok (.aload_n 0, 1) := by decide +kernel
theorem dX9_copy_104 : decode cX9_copy 104 = .ok (.ldc 82, 2) := by decide +kernel
theorem dX9_copy_106 : decode cX9_copy 106 = .ok (.invokevirtual 83, 3) := by decide +kernel
theorem dX9_copy_109 : decode cX9_copy 109 = .ok (.ireturn, 1) := by decide +kernel
theorem dX9_copy_110 : decode cX9_copy 110 = .ok (.aload 6, 2) := by decide +kernel
theorem dX9_copy_112 : decode cX9_copy 112 = .ok (.getfield 245, 3) := by decide +kernel
theorem dX9_copy_115 : decode cX9_copy 115 = .ok (.iload_n 2, 1) := by decide +kernel
theorem dX9_copy_116 : decode cX9_copy 116 = .ok (.aload 7, 2) := by decide +kernel
theorem dX9_copy_118 : decode cX9_copy 118 = .ok (.getfield 245, 3) := by decide +kernel
theorem dX9_copy_121 : decode cX9_copy 121 = .ok (.iload 4, 2) := by decide +kernel
theorem dX9_copy_123 : decode cX9_copy 123 = .ok (.iload 5, 2) := by decide +kernel
theorem dX9_copy_125 : decode cX9_copy 125 = .ok (.invokestatic 259, 3) := by decide +kernel
theorem dX9_copy_128 : decode cX9_copy 128 = .ok (.iload 5, 2) := by decide +kernel
theorem dX9_copy_130 : decode cX9_copy 130 = .ok (.ireturn, 1) := by decide +kernel
theorem dX9_lays_0 : decode cX9_lays 0 = .ok (.iload_n 1, 1) := by decide +kernel
theorem dX9_lays_1 : decode cX9_lays 1 = .ok (.invokestatic 230, 3) := by decide +kernel
theorem dX9_lays_4 : decode cX9_lays 4 = .ok (.ifCond .ne 10, 3) := by decide +kernel
theorem dX9_lays_7 : decode cX9_lays 7 = .ok (.aload_n 0, 1) := by decide +kernel
theorem dX9_lays_8 : decode cX9_lays 8 = .ok (.ldc 82, 2) := by decide +kernel
theorem dX9_lays_10 : decode cX9_lays 10 = .ok (.invokevirtual 83, 3) := by decide +kernel
theorem dX9_lays_13 : decode cX9_lays 13 = .ok (.ireturn, 1) := by decide +kernel
theorem dX9_lays_14 : decode cX9_lays 14 = .ok (.aload_n 0, 1) := by decide +kernel
theorem dX9_lays_15 : decode cX9_lays 15 = .ok (.getfield 69, 3) := by decide +kernel
theorem dX9_lays_18 : decode cX9_lays 18 = .ok (.iload_n 1, 1) := by decide +kernel
theorem dX9_lays_19 : decode cX9_lays 19 = .ok (.aaload, 1) := by decide +kernel
theorem dX9_lays_20 : decode cX9_lays 20 = .ok (.astore_n 2, 1) := by decide +kernel
theorem dX9_lays_21 : decode cX9_lays 21 = .ok (.aload_n 2, 1) := by decide +kernel
theorem dX9_lays_22 : decode cX9_lays 22 = .ok (.invokevirtual 241, 3) := by decide +kernel
theorem dX9_lays_25 : decode cX9_lays 25 = .ok (.ifCond .eq 10, 3) := by decide +kernel
theorem dX9_lays_28 : decode cX9_lays 28 = .ok (.aload_n 0, 1) := by decide +kernel
theorem dX9_lays_29 : decode cX9_lays 29 = .ok (.ldc 244, 2) := by decide +kernel
theorem dX9_lays_31 : decode cX9_lays 31 = .ok (.invokevirtual 83, 3) := by decide +kernel
theorem dX9_lays_34 : decode cX9_lays 34 = .ok (.ireturn, 1) := by decide +kernel
theorem dX9_lays_35 : decode cX9_lays 35 = .ok (.iconst 0, 1) := by decide +kernel
theorem dX9_lays_36 : decode cX9_lays 36 = .ok (.istore_n 3, 1) := by decide +kernel
theorem dX9_lays_37 : decode cX9_lays 37 = .ok (.iconst 0, 1) := by decide +kernel
theorem dX9_lays_38 : decode cX9_lays 38 = .ok (.istore 4, 2) := by decide +kernel
theorem dX9_lays_40 : decode cX9_lays 40 = .ok (.iload 4, 2) := by decide +kernel
theorem dX9_lays_42 : decode cX9_lays 42 = .ok (.bipush 6, 2) := by decide +kernel
theorem dX9_lays_44 : decode cX9_lays 44 = .ok (.if_icmp .ge 59, 3) := by decide +kernel
theorem dX9_lays_47 : decode cX9_lays 47 = .ok (.iload 4, 2) := by decide +kernel
theorem dX9_lays_49 : decode cX9_lays 49 = .ok (.aload_n 2, 1) := by decide +kernel
theorem dX9_lays_50 : decode cX9_lays 50 = .ok (.getfield 240, 3) := by decide +kernel
theorem dX9_lays_53 : decode cX9_lays 53 = .ok (.if_icmp .ge 50, 3) := by decide +kernel
theorem dX9_lays_56 : decode cX9_lays 56 = .ok (.aload_n 2, 1) := by decide +kernel
theorem dX9_lays_57 : decode cX9_lays 57 = .ok (.getfield 245, 3) := by decide +kernel
theorem dX9_lays_60 : decode cX9_lays 60 = .ok (.iload 4, 2) := by decide +kernel
theorem dX9_lays_62 : decode cX9_lays 62 = .ok (.laload, 1) := by decide +kernel
theorem dX9_lays_63 : decode cX9_lays 63 = .ok (.lstore 5, 2) := by decide +kernel
theorem dX9_lays_65 : decode cX9_lays 65 = .ok (.lload 5, 2) := by decide +kernel
theorem dX9_lays_67 : decode cX9_lays 67 = .ok (.lconst 0, 1) := by decide +kernel
theorem dX9_lays_68 : decode cX9_lays 68 = .ok (.lcmp, 1) := by decide +kernel
theorem dX9_lays_69 : decode cX9_lays 69 = .ok (.ifCond .lt 28, 3) := by decide +kernel
theorem dX9_lays_72 : decode cX9_lays 72 = .ok (.lload 5, 2) := by decide +kernel
theorem dX9_lays_74 : decode cX9_lays 74 = .ok (.ldc2_w 265, 3) := by decide +kernel
theorem dX9_lays_77 : decode cX9_lays 77 = .ok (.lcmp, 1) := by decide +kernel
theorem dX9_lays_78 : decode cX9_lays 78 = .ok (.ifCond .gt 19, 3) := by decide +kernel
theorem dX9_lays_81 : decode cX9_lays 81 = .ok (.aload_n 0, 1) := by decide +kernel
theorem dX9_lays_82 : decode cX9_lays 82 = .ok (.getfield 44, 3) := by decide +kernel
theorem dX9_lays_85 : decode cX9_lays 85 = .ok (.getfield 91, 3) := by decide +kernel
theorem dX9_lays_88 : decode cX9_lays 88 = .ok (.iload 4, 2) := by decide +kernel
theorem dX9_lays_90 : decode cX9_lays 90 = .ok (.lload 5, 2) := by decide +kernel
theorem dX9_lays_92 : decode cX9_lays 92 = .ok (.l2i, 1) := by decide +kernel
theorem dX9_lays_93 : decode cX9_lays 93 = .ok (.iastore, 1) := by decide +kernel
theorem dX9_lays_94 : decode cX9_lays 94 = .ok (.iinc 3 1, 3) := by decide +kernel
theorem dX9_lays_97 : decode cX9_lays 97 = .ok (.iinc 4 1, 3) := by decide +kernel
theorem dX9_lays_100 : decode cX9_lays 100 = .ok (.goto (-60), 3) := by decide +kernel
theorem dX9_lays_103 : decode cX9_lays 103 = .ok (.iload_n 3, 1) := by decide +kernel
theorem dX9_lays_104 : decode cX9_lays 104 = .ok (.ireturn, 1) := by decide +kernel
theorem dX9_book_0 : decode cX9_book 0 = .ok (.iload_n 1, 1) := by decide +kernel
theorem dX9_book_1 : decode cX9_book 1 = .ok (.invokestatic 230, 3) := by decide +kernel
theorem dX9_book_4 : decode cX9_book 4 = .ok (.ifCond .ne 10, 3) := by decide +kernel
theorem dX9_book_7 : decode cX9_book 7 = .ok (.aload_n 0, 1) := by decide +kernel
theorem dX9_book_8 : decode cX9_book 8 = .ok (.ldc 82, 2) := by decide +kernel
theorem dX9_book_10 : decode cX9_book 10 = .ok (.invokevirtual 83, 3) := by decide +kernel
theorem dX9_book_13 : decode cX9_book 13 = .ok (.ireturn, 1) := by decide +kernel
theorem dX9_book_14 : decode cX9_book 14 = .ok (.aload_n 0, 1) := by decide +kernel
theorem dX9_book_15 : decode cX9_book 15 = .ok (.getfield 69, 3) := by decide +kernel
theorem dX9_book_18 : decode cX9_book 18 = .ok (.iload_n 1, 1) := by decide +kernel
theorem dX9_book_19 : decode cX9_book 19 = .ok (.aaload, 1) := by decide +kernel
theorem dX9_book_20 : decode cX9_book 20 = .ok (.astore_n 3, 1) := by decide +kernel
theorem dX9_book_21 : decode cX9_book 21 = .ok (.aload_n 3, 1) := by decide +kernel
theorem dX9_book_22 : decode cX9_book 22 = .ok (.invokevirtual 241, 3) := by decide +kernel
theorem dX9_book_25 : decode cX9_book 25 = .ok (.ifCond .eq 10, 3) := by decide +kernel
theorem dX9_book_28 : decode cX9_book 28 = .ok (.aload_n 0, 1) := by decide +kernel
theorem dX9_book_29 : decode cX9_book 29 = .ok (.ldc 244, 2) := by decide +kernel
theorem dX9_book_31 : decode cX9_book 31 = .ok (.invokevirtual 83, 3) := by decide +kernel
theorem dX9_book_34 : decode cX9_book 34 = .ok (.ireturn, 1) := by decide +kernel
theorem dX9_book_35 : decode cX9_book 35 = .ok (.aload_n 0, 1) := by decide +kernel
theorem dX9_book_36 : decode cX9_book 36 = .ok (.iload_n 2, 1) := by decide +kernel
theorem dX9_book_37 : decode cX9_book 37 = .ok (.invokevirtual 132, 3) := by decide +kernel
theorem dX9_book_40 : decode cX9_book 40 = .ok (.ifCond .ne 10, 3) := by decide +kernel
theorem dX9_book_43 : decode cX9_book 43 = .ok (.aload_n 0, 1) := by decide +kernel
theorem dX9_book_44 : decode cX9_book 44 = .ok (.ldc 82, 2) := by decide +kernel
theorem dX9_book_46 : decode cX9_book 46 = .ok (.invokevirtual 83, 3) := by decide +kernel
theorem dX9_book_49 : decode cX9_book 49 = .ok (.ireturn, 1) := by decide +kernel
theorem dX9_book_50 : decode cX9_book 50 = .ok (.aload_n 0, 1) := by decide +kernel
theorem dX9_book_51 : decode cX9_book 51 = .ok (.getfield 50, 3) := by decide +kernel
theorem dX9_book_54 : decode cX9_book 54 = .ok (.aload_n 0, 1) := by decide +kernel
theorem dX9_book_55 : decode cX9_book 55 = .ok (.getfield 44, 3) := by decide +kernel
theorem dX9_book_58 : decode cX9_book 58 = .ok (.invokevirtual 200, 3) := by decide +kernel
theorem dX9_book_61 : decode cX9_book 61 = .ok (.iconst 0, 1) := by decide +kernel
theorem dX9_book_62 : decode cX9_book 62 = .ok (.istore 4, 2) := by decide +kernel
theorem dX9_book_64 : decode cX9_book 64 = .ok (.iload 4, 2) := by decide +kernel
theorem dX9_book_66 : decode cX9_book 66 = .ok (.aload_n 3, 1) := by decide +kernel
theorem dX9_book_67 : decode cX9_book 67 = .ok (.getfield 240, 3) := by decide +kernel
theorem dX9_book_70 : decode cX9_book 70 = .ok (.if_icmp .ge 32, 3) := by decide +kernel
theorem dX9_book_73 : decode cX9_book 73 = .ok (.aload_n 3, 1) := by decide +kernel
theorem dX9_book_74 : decode cX9_book 74 = .ok (.iload 4, 2) := by decide +kernel
theorem dX9_book_76 : decode cX9_book 76 = .ok (.aload_n 0, 1) := by decide +kernel
theorem dX9_book_77 : decode cX9_book 77 = .ok (.getfield 50, 3) := by decide +kernel
theorem dX9_book_80 : decode cX9_book 80 = .ok (.getfield 138, 3) := by decide +kernel
theorem dX9_book_83 : decode cX9_book 83 = .ok (.iload_n 2, 1) := by decide +kernel
theorem dX9_book_84 : decode cX9_book 84 = .ok (.iaload, 1) := by decide +kernel
theorem dX9_book_85 : decode cX9_book 85 = .ok (.i2l, 1) := by decide +kernel
theorem dX9_book_86 : decode cX9_book 86 = .ok (.invokevirtual 249, 3) := by decide +kernel
theorem dX9_book_89 : decode cX9_book 89 = .ok (.aload_n 0, 1) := by decide +kernel
theorem dX9_book_90 : decode cX9_book 90 = .ok (.getfield 50, 3) := by decide +kernel
theorem dX9_book_93 : decode cX9_book 93 = .ok (.invokevirtual 207, 3) := by decide +kernel
theorem dX9_book_96 : decode cX9_book 96 = .ok (.iinc 4 1, 3) := by decide +kernel
theorem dX9_book_99 : decode cX9_book 99 = .ok (.goto (-35), 3) := by decide +kernel
theorem dX9_book_102 : decode cX9_book 102 = .ok (.aload_n 3, 1) := by decide +kernel
theorem dX9_book_103 : decode cX9_book 103 = .ok (.getfield 240, 3) := by decide +kernel
theorem dX9_book_106 : decode cX9_book 106 = .ok (.ireturn, 1) := by decide +kernel
theorem dX9_read_0 : decode cX9_read 0 = .ok (.iload_n 1, 1) := by decide +kernel
theorem dX9_read_1 : decode cX9_read 1 = .ok (.invokestatic 230, 3) := by decide +kernel
theorem dX9_read_4 : decode cX9_read 4 = .ok (.ifCond .ne 10, 3) := by decide +kernel
theorem dX9_read_7 : decode cX9_read 7 = .ok (.aload_n 0, 1) := by decide +kernel
theorem dX9_read_8 : decode cX9_read 8 = .ok (.ldc 82, 2) := by decide +kernel
theorem dX9_read_10 : decode cX9_read 10 = .ok (.invokevirtual 83, 3) := by decide +kernel
theorem dX9_read_13 : decode cX9_read 13 = .ok (.ireturn, 1) := by decide +kernel
theorem dX9_read_14 : decode cX9_read 14 = .ok (.aload_n 0, 1) := by decide +kernel
theorem dX9_read_15 : decode cX9_read 15 = .ok (.getfield 69, 3) := by decide +kernel
theorem dX9_read_18 : decode cX9_read 18 = .ok (.iload_n 1, 1) := by decide +kernel
theorem dX9_read_19 : decode cX9_read 19 = .ok (.aaload, 1) := by decide +kernel
theorem dX9_read_20 : decode cX9_read 20 = .ok (.astore 4, 2) := by decide +kernel
theorem dX9_read_22 : decode cX9_read 22 = .ok (.aload 4, 2) := by decide +kernel
theorem dX9_read_24 : decode cX9_read 24 = .ok (.invokevirtual 241, 3) := by decide +kernel
theorem dX9_read_27 : decode cX9_read 27 = .ok (.ifCond .eq 10, 3) := by decide +kernel
theorem dX9_read_30 : decode cX9_read 30 = .ok (.aload_n 0, 1) := by decide +kernel
theorem dX9_read_31 : decode cX9_read 31 = .ok (.ldc 244, 2) := by decide +kernel
theorem dX9_read_33 : decode cX9_read 33 = .ok (.invokevirtual 83, 3) := by decide +kernel
theorem dX9_read_36 : decode cX9_read 36 = .ok (.ireturn, 1) := by decide +kernel
theorem dX9_read_37 : decode cX9_read 37 = .ok (.aload_n 0, 1) := by decide +kernel
theorem dX9_read_38 : decode cX9_read 38 = .ok (.iload_n 2, 1) := by decide +kernel
theorem dX9_read_39 : decode cX9_read 39 = .ok (.invokevirtual 132, 3) := by decide +kernel
theorem dX9_read_42 : decode cX9_read 42 = .ok (.ifCond .eq 10, 3) := by decide +kernel
theorem dX9_read_45 : decode cX9_read 45 = .ok (.iload_n 3, 1) := by decide +kernel
theorem dX9_read_46 : decode cX9_read 46 = .ok (.invokestatic 78, 3) := by decide +kernel
theorem dX9_read_49 : decode cX9_read 49 = .ok (.ifCond .ne 10, 3) := by decide +kernel
theorem dX9_read_52 : decode cX9_read 52 = .ok (.aload_n 0, 1) := by decide +kernel
theorem dX9_read_53 : decode cX9_read 53 = .ok (.ldc 82, 2) := by decide +kernel
theorem dX9_read_55 : decode cX9_read 55 = .ok (.invokevirtual 83, 3) := by decide +kernel
theorem dX9_read_58 : decode cX9_read 58 = .ok (.ireturn, 1) := by decide +kernel
theorem dX9_read_59 : decode cX9_read 59 = .ok (.iconst 0, 1) := by decide +kernel
theorem dX9_read_60 : decode cX9_read 60 = .ok (.istore 5, 2) := by decide +kernel
theorem dX9_read_62 : decode cX9_read 62 = .ok (.iconst 0, 1) := by decide +kernel
theorem dX9_read_63 : decode cX9_read 63 = .ok (.istore 6, 2) := by decide +kernel
theorem dX9_read_65 : decode cX9_read 65 = .ok (.iload 6, 2) := by decide +kernel
theorem dX9_read_67 : decode cX9_read 67 = .ok (.bipush 6, 2) := by decide +kernel
theorem dX9_read_69 : decode cX9_read 69 = .ok (.if_icmp .ge 71, 3) := by decide +kernel
theorem dX9_read_72 : decode cX9_read 72 = .ok (.iconst 0, 1) := by decide +kernel
theorem dX9_read_73 : decode cX9_read 73 = .ok (.istore 7, 2) := by decide +kernel
theorem dX9_read_75 : decode cX9_read 75 = .ok (.iload 7, 2) := by decide +kernel
theorem dX9_read_77 : decode cX9_read 77 = .ok (.bipush 20, 2) := by decide +kernel
theorem dX9_read_79 : decode cX9_read 79 = .ok (.if_icmp .gt 55, 3) := by decide +kernel
theorem dX9_read_82 : decode cX9_read 82 = .ok (.aload_n 0, 1) := by decide +kernel
theorem dX9_read_83 : decode cX9_read 83 = .ok (.getfield 50, 3) := by decide +kernel
theorem dX9_read_86 : decode cX9_read 86 = .ok (.aload_n 0, 1) := by decide +kernel
theorem dX9_read_87 : decode cX9_read 87 = .ok (.getfield 44, 3) := by decide +kernel
theorem dX9_read_90 : decode cX9_read 90 = .ok (.invokevirtual 200, 3) := by decide +kernel
theorem dX9_read_93 : decode cX9_read 93 = .ok (.aload_n 0, 1) := by decide +kernel
theorem dX9_read_94 : decode cX9_read 94 = .ok (.getfield 50, 3) := by decide +kernel
theorem dX9_read_97 : decode cX9_read 97 = .ok (.getfield 135, 3) := by decide +kernel
theorem dX9_read_100 : decode cX9_read 100 = .ok (.iload_n 2, 1) := by decide +kernel
theorem dX9_read_101 : decode cX9_read 101 = .ok (.iload 6, 2) := by decide +kernel
theorem dX9_read_103 : decode cX9_read 103 = .ok (.iastore, 1) := by decide +kernel
theorem dX9_read_104 : decode cX9_read 104 = .ok (.aload_n 0, 1) := by decide +kernel
theorem dX9_read_105 : decode cX9_read 105 = .ok (.getfield 50, 3) := by decide +kernel
theorem dX9_read_108 : decode cX9_read 108 = .ok (.getfield 91, 3) := by decide +kernel
theorem dX9_read_111 : decode cX9_read 111 = .ok (.iload_n 3, 1) := by decide +kernel
theorem dX9_read_112 : decode cX9_read 112 = .ok (.iload 7, 2) := by decide +kernel
theorem dX9_read_114 : decode cX9_read 114 = .ok (.iastore, 1) := by decide +kernel
theorem dX9_read_115 : decode cX9_read 115 = .ok (.aload_n 0, 1) := by decide +kernel
theorem dX9_read_116 : decode cX9_read 116 = .ok (.aload 4, 2) := by decide +kernel
theorem dX9_read_118 : decode cX9_read 118 = .ok (.iload_n 2, 1) := by decide +kernel
theorem dX9_read_119 : decode cX9_read 119 = .ok (.invokevirtual 267, 3) := by decide +kernel
theorem dX9_read_122 : decode cX9_read 122 = .ok (.ifCond .eq 6, 3) := by decide +kernel
theorem dX9_read_125 : decode cX9_read 125 = .ok (.iinc 5 1, 3) := by decide +kernel
theorem dX9_read_128 : decode cX9_read 128 = .ok (.iinc 7 1, 3) := by decide +kernel
theorem dX9_read_131 : decode cX9_read 131 = .ok (.goto (-56), 3) := by decide +kernel
theorem dX9_read_134 : decode cX9_read 134 = .ok (.iinc 6 1, 3) := by decide +kernel
theorem dX9_read_137 : decode cX9_read 137 = .ok (.goto (-72), 3) := by decide +kernel
theorem dX9_read_140 : decode cX9_read 140 = .ok (.iload 5, 2) := by decide +kernel
theorem dX9_read_142 : decode cX9_read 142 = .ok (.ireturn, 1) := by decide +kernel
theorem dX9_image_0 : decode cX9_image 0 = .ok (.aload_n 0, 1) := by decide +kernel
theorem dX9_image_1 : decode cX9_image 1 = .ok (.getfield 53, 3) := by decide +kernel
theorem dX9_image_4 : decode cX9_image 4 = .ok (.aload_n 0, 1) := by decide +kernel
theorem dX9_image_5 : decode cX9_image 5 = .ok (.getfield 44, 3) := by decide +kernel
theorem dX9_image_8 : decode cX9_image 8 = .ok (.invokevirtual 200, 3) := by decide +kernel
theorem dX9_image_11 : decode cX9_image 11 = .ok (.aload_n 0, 1) := by decide +kernel
theorem dX9_image_12 : decode cX9_image 12 = .ok (.iconst 1, 1) := by decide +kernel
theorem dX9_image_13 : decode cX9_image 13 = .ok (.putfield 56, 3) := by decide +kernel
theorem dX9_image_16 : decode cX9_image 16 = .ok (.iconst 1, 1) := by decide +kernel
theorem dX9_image_17 : decode cX9_image 17 = .ok (.ireturn, 1) := by decide +kernel
theorem dX9_undo_0 : decode cX9_undo 0 = .ok (.aload_n 0, 1) := by decide +kernel
theorem dX9_undo_1 : decode cX9_undo 1 = .ok (.getfield 56, 3) := by decide +kernel
theorem dX9_undo_4 : decode cX9_undo 4 = .ok (.ifCond .ne 10, 3) := by decide +kernel
theorem dX9_undo_7 : decode cX9_undo 7 = .ok (.aload_n 0, 1) := by decide +kernel
theorem dX9_undo_8 : decode cX9_undo 8 = .ok (.ldc 187, 2) := by decide +kernel
theorem dX9_undo_10 : decode cX9_undo 10 = .ok (.invokevirtual 83, 3) := by decide +kernel
theorem dX9_undo_13 : decode cX9_undo 13 = .ok (.ireturn, 1) := by decide +kernel
theorem dX9_undo_14 : decode cX9_undo 14 = .ok (.aload_n 0, 1) := by decide +kernel
theorem dX9_undo_15 : decode cX9_undo 15 = .ok (.getfield 44, 3) := by decide +kernel
theorem dX9_undo_18 : decode cX9_undo 18 = .ok (.aload_n 0, 1) := by decide +kernel
theorem dX9_undo_19 : decode cX9_undo 19 = .ok (.getfield 53, 3) := by decide +kernel
theorem dX9_undo_22 : decode cX9_undo 22 = .ok (.invokevirtual 200, 3) := by decide +kernel
theorem dX9_undo_25 : decode cX9_undo 25 = .ok (.aload_n 0, 1) := by decide +kernel
theorem dX9_undo_26 : decode cX9_undo 26 = .ok (.getfield 44, 3) := by decide +kernel
theorem dX9_undo_29 : decode cX9_undo 29 = .ok (.getfield 124, 3) := by decide +kernel
theorem dX9_undo_32 : decode cX9_undo 32 = .ok (.ireturn, 1) := by decide +kernel
theorem dX9_tear_0 : decode cX9_tear 0 = .ok (.aload_n 0, 1) := by decide +kernel
theorem dX9_tear_1 : decode cX9_tear 1 = .ok (.getfield 56, 3) := by decide +kernel
theorem dX9_tear_4 : decode cX9_tear 4 = .ok (.ifCond .eq 7, 3) := by decide +kernel
theorem dX9_tear_7 : decode cX9_tear 7 = .ok (.iconst 1, 1) := by decide +kernel
theorem dX9_tear_8 : decode cX9_tear 8 = .ok (.goto 4, 3) := by decide +kernel
theorem dX9_tear_11 : decode cX9_tear 11 = .ok (.iconst 0, 1) := by decide +kernel
theorem dX9_tear_12 : decode cX9_tear 12 = .ok (.istore_n 1, 1) := by decide +kernel
theorem dX9_tear_13 : decode cX9_tear 13 = .ok (.aload_n 0, 1) := by decide +kernel
theorem dX9_tear_14 : decode cX9_tear 14 = .ok (.iconst 0, 1) := by decide +kernel
theorem dX9_tear_15 : decode cX9_tear 15 = .ok (.putfield 56, 3) := by decide +kernel
theorem dX9_tear_18 : decode cX9_tear 18 = .ok (.iload_n 1, 1) := by decide +kernel
theorem dX9_tear_19 : decode cX9_tear 19 = .ok (.ireturn, 1) := by decide +kernel
theorem dX9_count_0 : decode cX9_count 0 = .ok (.iload_n 1, 1) := by decide +kernel
theorem dX9_count_1 : decode cX9_count 1 = .ok (.tableswitch 66 0 3 #[31, 39, 47, 58], 31) := by decide +kernel
theorem dX9_count_32 : decode cX9_count 32 = .ok (.aload_n 0, 1) := by decide +kernel
theorem dX9_count_33 : decode cX9_count 33 = .ok (.getfield 44, 3) := by decide +kernel
theorem dX9_count_36 : decode cX9_count 36 = .ok (.getfield 124, 3) := by decide +kernel
theorem dX9_count_39 : decode cX9_count 39 = .ok (.ireturn, 1) := by decide +kernel
theorem dX9_count_40 : decode cX9_count 40 = .ok (.aload_n 0, 1) := by decide +kernel
theorem dX9_count_41 : decode cX9_count 41 = .ok (.getfield 63, 3) := by decide +kernel
theorem dX9_count_44 : decode cX9_count 44 = .ok (.getfield 223, 3) := by decide +kernel
theorem dX9_count_47 : decode cX9_count 47 = .ok (.ireturn, 1) := by decide +kernel
theorem dX9_count_48 : decode cX9_count 48 = .ok (.aload_n 0, 1) := by decide +kernel
theorem dX9_count_49 : decode cX9_count 49 = .ok (.getfield 44, 3) := by decide +kernel
theorem dX9_count_52 : decode cX9_count 52 = .ok (.invokevirtual 107, 3) := by decide +kernel
theorem dX9_count_55 : decode cX9_count 55 = .ok (.invokestatic 111, 3) := by decide +kernel
theorem dX9_count_58 : decode cX9_count 58 = .ok (.ireturn, 1) := by decide +kernel
theorem dX9_count_59 : decode cX9_count 59 = .ok (.aload_n 0, 1) := by decide +kernel
theorem dX9_count_60 : decode cX9_count 60 = .ok (.getfield 44, 3) := by decide +kernel
theorem dX9_count_63 : decode cX9_count 63 = .ok (.invokevirtual 271, 3) := by decide +kernel
theorem dX9_count_66 : decode cX9_count 66 = .ok (.ireturn, 1) := by decide +kernel
theorem dX9_count_67 : decode cX9_count 67 = .ok (.aload_n 0, 1) := by decide +kernel
theorem dX9_count_68 : decode cX9_count 68 = .ok (.ldc 82, 2) := by decide +kernel
theorem dX9_count_70 : decode cX9_count 70 = .ok (.invokevirtual 83, 3) := by decide +kernel
theorem dX9_count_73 : decode cX9_count 73 = .ok (.ireturn, 1) := by decide +kernel
theorem dX9_status_0 : decode cX9_status 0 = .ok (.iload_n 1, 1) := by decide +kernel
theorem dX9_status_1 : decode cX9_status 1 = .ok (.iconst (-1), 1) := by decide +kernel
theorem dX9_status_2 : decode cX9_status 2 = .ok (.if_icmp .ne 13, 3) := by decide +kernel
theorem dX9_status_5 : decode cX9_status 5 = .ok (.aload_n 0, 1) := by decide +kernel
theorem dX9_status_6 : decode cX9_status 6 = .ok (.getfield 74, 3) := by decide +kernel
theorem dX9_status_9 : decode cX9_status 9 = .ok (.bipush 7, 2) := by decide +kernel
theorem dX9_status_11 : decode cX9_status 11 = .ok (.invokestatic 274, 3) := by decide +kernel
theorem dX9_status_14 : decode cX9_status 14 = .ok (.ireturn, 1) := by decide +kernel
theorem dX9_status_15 : decode cX9_status 15 = .ok (.iload_n 1, 1) := by decide +kernel
theorem dX9_status_16 : decode cX9_status 16 = .ok (.iconst 0, 1) := by decide +kernel
theorem dX9_status_17 : decode cX9_status 17 = .ok (.bipush 6, 2) := by decide +kernel
theorem dX9_status_19 : decode cX9_status 19 = .ok (.invokestatic 87, 3) := by decide +kernel
theorem dX9_status_22 : decode cX9_status 22 = .ok (.ifCond .ne 10, 3) := by decide +kernel
theorem dX9_status_25 : decode cX9_status 25 = .ok (.aload_n 0, 1) := by decide +kernel
theorem dX9_status_26 : decode cX9_status 26 = .ok (.ldc 82, 2) := by decide +kernel
theorem dX9_status_28 : decode cX9_status 28 = .ok (.invokevirtual 83, 3) := by decide +kernel
theorem dX9_status_31 : decode cX9_status 31 = .ok (.ireturn, 1) := by decide +kernel
theorem dX9_status_32 : decode cX9_status 32 = .ok (.aload_n 0, 1) := by decide +kernel
theorem dX9_status_33 : decode cX9_status 33 = .ok (.getfield 74, 3) := by decide +kernel
theorem dX9_status_36 : decode cX9_status 36 = .ok (.iload_n 1, 1) := by decide +kernel
theorem dX9_status_37 : decode cX9_status 37 = .ok (.iaload, 1) := by decide +kernel
theorem dX9_status_38 : decode cX9_status 38 = .ok (.ireturn, 1) := by decide +kernel
theorem dX9_found_0 : decode cX9_found 0 = .ok (.ldc 82, 2) := by decide +kernel
theorem dX9_found_2 : decode cX9_found 2 = .ok (.iload_n 1, 1) := by decide +kernel
theorem dX9_found_3 : decode cX9_found 3 = .ok (.isub, 1) := by decide +kernel
theorem dX9_found_4 : decode cX9_found 4 = .ok (.istore_n 2, 1) := by decide +kernel
theorem dX9_found_5 : decode cX9_found 5 = .ok (.iload_n 2, 1) := by decide +kernel
theorem dX9_found_6 : decode cX9_found 6 = .ok (.iconst 0, 1) := by decide +kernel
theorem dX9_found_7 : decode cX9_found 7 = .ok (.bipush 6, 2) := by decide +kernel
theorem dX9_found_9 : decode cX9_found 9 = .ok (.invokestatic 87, 3) := by decide +kernel
theorem dX9_found_12 : decode cX9_found 12 = .ok (.ifCond .eq 13, 3) := by decide +kernel
theorem dX9_found_15 : decode cX9_found 15 = .ok (.aload_n 0, 1) := by decide +kernel
theorem dX9_found_16 : decode cX9_found 16 = .ok (.getfield 74, 3) := by decide +kernel
theorem dX9_found_19 : decode cX9_found 19 = .ok (.iload_n 2, 1) := by decide +kernel
theorem dX9_found_20 : decode cX9_found 20 = .ok (.dup2, 1) := by decide +kernel
theorem dX9_found_21 : decode cX9_found 21 = .ok (.iaload, 1) := by decide +kernel
theorem dX9_found_22 : decode cX9_found 22 = .ok (.iconst 1, 1) := by decide +kernel
theorem dX9_found_23 : decode cX9_found 23 = .ok (.iadd, 1) := by decide +kernel
theorem dX9_found_24 : decode cX9_found 24 = .ok (.iastore, 1) := by decide +kernel
theorem dX9_found_25 : decode cX9_found 25 = .ok (.iload_n 1, 1) := by decide +kernel
theorem dX9_found_26 : decode cX9_found 26 = .ok (.ireturn, 1) := by decide +kernel
theorem dX9_isThing_0 : decode cX9_isThing 0 = .ok (.iload_n 1, 1) := by decide +kernel
theorem dX9_isThing_1 : decode cX9_isThing 1 = .ok (.iconst 0, 1) := by decide +kernel
theorem dX9_isThing_2 : decode cX9_isThing 2 = .ok (.aload_n 0, 1) := by decide +kernel
theorem dX9_isThing_3 : decode cX9_isThing 3 = .ok (.getfield 44, 3) := by decide +kernel
theorem dX9_isThing_6 : decode cX9_isThing 6 = .ok (.getfield 124, 3) := by decide +kernel
theorem dX9_isThing_9 : decode cX9_isThing 9 = .ok (.iconst 1, 1) := by decide +kernel
theorem dX9_isThing_10 : decode cX9_isThing 10 = .ok (.isub, 1) := by decide +kernel
theorem dX9_isThing_11 : decode cX9_isThing 11 = .ok (.invokestatic 87, 3) := by decide +kernel
theorem dX9_isThing_14 : decode cX9_isThing 14 = .ok (.ireturn, 1) := by decide +kernel
theorem dX9_trialYearsToFinish_0 : decode cX9_trialYearsToFinish 0 = .ok (.iconst 0, 1) := by decide +kernel
theorem dX9_trialYearsToFinish_1 : decode cX9_trialYearsToFinish 1 = .ok (.istore_n 3, 1) := by decide +kernel
theorem dX9_trialYearsToFinish_2 : decode cX9_trialYearsToFinish 2 = .ok (.iload_n 3, 1) := by decide +kernel
theorem dX9_trialYearsToFinish_3 : decode cX9_trialYearsToFinish 3 = .ok (.iload_n 2, 1) := by decide +kernel
theorem dX9_trialYearsToFinish_4 : decode cX9_trialYearsToFinish 4 = .ok (.if_icmp .gt 29, 3) := by decide +kernel
theorem dX9_trialYearsToFinish_7 : decode cX9_trialYearsToFinish 7 = .ok (.aload_n 0, 1) := by decide +kernel
theorem dX9_trialYearsToFinish_8 : decode cX9_trialYearsToFinish 8 = .ok (.getfield 50, 3) := by decide +kernel
theorem dX9_trialYearsToFinish_11 : decode cX9_trialYearsToFinish 11 = .ok (.iload_n 1, 1) := by decide +kernel
theorem dX9_trialYearsToFinish_12 : decode cX9_trialYearsToFinish 12 = .ok (.invokevirtual 213, 3) := by decide +kernel
theorem dX9_trialYearsToFinish_15 : decode cX9_trialYearsToFinish 15 = .ok (.ifCond .eq 5, 3) := by decide +kernel
theorem dX9_trialYearsToFinish_18 : decode cX9_trialYearsToFinish 18 = .ok (.iload_n 3, 1) := by decide +kernel
theorem dX9_trialYearsToFinish_19 : decode cX9_trialYearsToFinish 19 = .ok (.ireturn, 1) := by decide +kernel
theorem dX9_trialYearsToFinish_20 : decode cX9_trialYearsToFinish 20 = .ok (.aload_n 0, 1) := by decide +kernel
theorem dX9_trialYearsToFinish_21 : decode cX9_trialYearsToFinish 21 = .ok (.getfield 50, 3) := by decide +kernel
theorem dX9_trialYearsToFinish_24 : decode cX9_trialYearsToFinish 24 = .ok (.invokevirtual 207, 3) := by decide +kernel
theorem dX9_trialYearsToFinish_27 : decode cX9_trialYearsToFinish 27 = .ok (.iinc 3 1, 3) := by decide +kernel
theorem dX9_trialYearsToFinish_30 : decode cX9_trialYearsToFinish 30 = .ok (.goto (-28), 3) := by decide +kernel
theorem dX9_trialYearsToFinish_33 : decode cX9_trialYearsToFinish 33 = .ok (.iconst (-1), 1) := by decide +kernel
theorem dX9_trialYearsToFinish_34 : decode cX9_trialYearsToFinish 34 = .ok (.ireturn, 1) := by decide +kernel
theorem dX9_trialGoesAsTold_0 : decode cX9_trialGoesAsTold 0 = .ok (.iconst 0, 1) := by decide +kernel
theorem dX9_trialGoesAsTold_1 : decode cX9_trialGoesAsTold 1 = .ok (.istore_n 3, 1) := by decide +kernel
theorem dX9_trialGoesAsTold_2 : decode cX9_trialGoesAsTold 2 = .ok (.iload_n 3, 1) := by decide +kernel
theorem dX9_trialGoesAsTold_3 : decode cX9_trialGoesAsTold 3 = .ok (.aload_n 1, 1) := by decide +kernel
theorem dX9_trialGoesAsTold_4 : decode cX9_trialGoesAsTold 4 = .ok (.getfield 240, 3) := by decide +kernel
theorem dX9_trialGoesAsTold_7 : decode cX9_trialGoesAsTold 7 = .ok (.if_icmp .ge 38, 3) := by decide +kernel
theorem dX9_trialGoesAsTold_10 : decode cX9_trialGoesAsTold 10 = .ok (.aload_n 1, 1) := by decide +kernel
theorem dX9_trialGoesAsTold_11 : decode cX9_trialGoesAsTold 11 = .ok (.getfield 245, 3) := by decide +kernel
theorem dX9_trialGoesAsTold_14 : decode cX9_trialGoesAsTold 14 = .ok (.iload_n 3, 1) := by decide +kernel
theorem dX9_trialGoesAsTold_15 : decode cX9_trialGoesAsTold 15 = .ok (.laload, 1) := by decide +kernel
theorem dX9_trialGoesAsTold_16 : decode cX9_trialGoesAsTold 16 = .ok (.aload_n 0, 1) := by decide +kernel
theorem dX9_trialGoesAsTold_17 : decode cX9_trialGoesAsTold 17 = .ok (.getfield 50, 3) := by decide +kernel
theorem dX9_trialGoesAsTold_20 : decode cX9_trialGoesAsTold 20 = .ok (.getfield 138, 3) := by decide +kernel
theorem dX9_trialGoesAsTold_23 : decode cX9_trialGoesAsTold 23 = .ok (.iload_n 2, 1) := by decide +kernel
theorem dX9_trialGoesAsTold_24 : decode cX9_trialGoesAsTold 24 = .ok (.iaload, 1) := by decide +kernel
theorem dX9_trialGoesAsTold_25 : decode cX9_trialGoesAsTold 25 = .ok (.i2l, 1) := by decide +kernel
theorem dX9_trialGoesAsTold_26 : decode cX9_trialGoesAsTold 26 = .ok (.lcmp, 1) := by decide +kernel
theorem dX9_trialGoesAsTold_27 : decode cX9_trialGoesAsTold 27 = .ok (.ifCond .eq 5, 3) := by decide +kernel
theorem dX9_trialGoesAsTold_30 : decode cX9_trialGoesAsTold 30 = .ok (.iconst 0, 1) := by decide +kernel
theorem dX9_trialGoesAsTold_31 : decode cX9_trialGoesAsTold 31 = .ok (.ireturn, 1) := by decide +kernel
theorem dX9_trialGoesAsTold_32 : decode cX9_trialGoesAsTold 32 = .ok (.aload_n 0, 1) := by decide +kernel
theorem dX9_trialGoesAsTold_33 : decode cX9_trialGoesAsTold 33 = .ok (.getfield 50, 3) := by decide +kernel
theorem dX9_trialGoesAsTold_36 : decode cX9_trialGoesAsTold 36 = .ok (.invokevirtual 207, 3) := by decide +kernel
theorem dX9_trialGoesAsTold_39 : decode cX9_trialGoesAsTold 39 = .ok (.iinc 3 1, 3) := by decide +kernel
theorem dX9_trialGoesAsTold_42 : decode cX9_trialGoesAsTold 42 = .ok (.goto (-40), 3) := by decide +kernel
theorem dX9_trialGoesAsTold_45 : decode cX9_trialGoesAsTold 45 = .ok (.iconst 1, 1) := by decide +kernel
theorem dX9_trialGoesAsTold_46 : decode cX9_trialGoesAsTold 46 = .ok (.ireturn, 1) := by decide +kernel
theorem dX9_isWithin_0 : decode cX9_isWithin 0 = .ok (.iload_n 0, 1) := by decide +kernel
theorem dX9_isWithin_1 : decode cX9_isWithin 1 = .ok (.iload_n 1, 1) := by decide +kernel
theorem dX9_isWithin_2 : decode cX9_isWithin 2 = .ok (.if_icmp .lt 12, 3) := by decide +kernel
theorem dX9_isWithin_5 : decode cX9_isWithin 5 = .ok (.iload_n 0, 1) := by decide +kernel
theorem dX9_isWithin_6 : decode cX9_isWithin 6 = .ok (.iload_n 2, 1) := by decide +kernel
theorem dX9_isWithin_7 : decode cX9_isWithin 7 = .ok (.if_icmp .gt 7, 3) := by decide +kernel
theorem dX9_isWithin_10 : decode cX9_isWithin 10 = .ok (.iconst 1, 1) := by decide +kernel
theorem dX9_isWithin_11 : decode cX9_isWithin 11 = .ok (.goto 4, 3) := by decide +kernel
theorem dX9_isWithin_14 : decode cX9_isWithin 14 = .ok (.iconst 0, 1) := by decide +kernel
theorem dX9_isWithin_15 : decode cX9_isWithin 15 = .ok (.ireturn, 1) := by decide +kernel
theorem dX9_isPerson_0 : decode cX9_isPerson 0 = .ok (.iload_n 0, 1) := by decide +kernel
theorem dX9_isPerson_1 : decode cX9_isPerson 1 = .ok (.iconst 0, 1) := by decide +kernel
theorem dX9_isPerson_2 : decode cX9_isPerson 2 = .ok (.iconst 5, 1) := by decide +kernel
theorem dX9_isPerson_3 : decode cX9_isPerson 3 = .ok (.invokestatic 87, 3) := by decide +kernel
theorem dX9_isPerson_6 : decode cX9_isPerson 6 = .ok (.ireturn, 1) := by decide +kernel
theorem dX9_isKind_0 : decode cX9_isKind 0 = .ok (.iload_n 0, 1) := by decide +kernel
theorem dX9_isKind_1 : decode cX9_isKind 1 = .ok (.iconst 0, 1) := by decide +kernel
theorem dX9_isKind_2 : decode cX9_isKind 2 = .ok (.iconst 5, 1) := by decide +kernel
theorem dX9_isKind_3 : decode cX9_isKind 3 = .ok (.invokestatic 87, 3) := by decide +kernel
theorem dX9_isKind_6 : decode cX9_isKind 6 = .ok (.ireturn, 1) := by decide +kernel
theorem dX9_isSheet_0 : decode cX9_isSheet 0 = .ok (.iload_n 0, 1) := by decide +kernel
theorem dX9_isSheet_1 : decode cX9_isSheet 1 = .ok (.iconst 0, 1) := by decide +kernel
theorem dX9_isSheet_2 : decode cX9_isSheet 2 = .ok (.iconst 3, 1) := by decide +kernel
theorem dX9_isSheet_3 : decode cX9_isSheet 3 = .ok (.invokestatic 87, 3) := by decide +kernel
theorem dX9_isSheet_6 : decode cX9_isSheet 6 = .ok (.ireturn, 1) := by decide +kernel
theorem dX9_isWidth_0 : decode cX9_isWidth 0 = .ok (.iload_n 0, 1) := by decide +kernel
theorem dX9_isWidth_1 : decode cX9_isWidth 1 = .ok (.ifCond .eq 21, 3) := by decide +kernel
theorem dX9_isWidth_4 : decode cX9_isWidth 4 = .ok (.iload_n 0, 1) := by decide +kernel
theorem dX9_isWidth_5 : decode cX9_isWidth 5 = .ok (.bipush 8, 2) := by decide +kernel
theorem dX9_isWidth_7 : decode cX9_isWidth 7 = .ok (.if_icmp .eq 15, 3) := by decide +kernel
theorem dX9_isWidth_10 : decode cX9_isWidth 10 = .ok (.iload_n 0, 1) := by decide +kernel
theorem dX9_isWidth_11 : decode cX9_isWidth 11 = .ok (.bipush 16, 2) := by decide +kernel
theorem dX9_isWidth_13 : decode cX9_isWidth 13 = .ok (.if_icmp .eq 9, 3) := by decide +kernel
theorem dX9_isWidth_16 : decode cX9_isWidth 16 = .ok (.iload_n 0, 1) := by decide +kernel
theorem dX9_isWidth_17 : decode cX9_isWidth 17 = .ok (.bipush 64, 2) := by decide +kernel
theorem dX9_isWidth_19 : decode cX9_isWidth 19 = .ok (.if_icmp .ne 7, 3) := by decide +kernel
theorem dX9_isWidth_22 : decode cX9_isWidth 22 = .ok (.iconst 1, 1) := by decide +kernel
theorem dX9_isWidth_23 : decode cX9_isWidth 23 = .ok (.goto 4, 3) := by decide +kernel
theorem dX9_isWidth_26 : decode cX9_isWidth 26 = .ok (.iconst 0, 1) := by decide +kernel
theorem dX9_isWidth_27 : decode cX9_isWidth 27 = .ok (.ireturn, 1) := by decide +kernel
theorem dX9_isOrIsUnder_0 : decode cX9_isOrIsUnder 0 = .ok (.iload_n 0, 1) := by decide +kernel
theorem dX9_isOrIsUnder_1 : decode cX9_isOrIsUnder 1 = .ok (.istore_n 2, 1) := by decide +kernel
theorem dX9_isOrIsUnder_2 : decode cX9_isOrIsUnder 2 = .ok (.iconst 0, 1) := by decide +kernel
theorem dX9_isOrIsUnder_3 : decode cX9_isOrIsUnder 3 = .ok (.istore_n 3, 1) := by decide +kernel
theorem dX9_isOrIsUnder_4 : decode cX9_isOrIsUnder 4 = .ok (.iload_n 3, 1) := by decide +kernel
theorem dX9_isOrIsUnder_5 : decode cX9_isOrIsUnder 5 = .ok (.bipush 6, 2) := by decide +kernel
theorem dX9_isOrIsUnder_7 : decode cX9_isOrIsUnder 7 = .ok (.if_icmp .ge 29, 3) := by decide +kernel
theorem dX9_isOrIsUnder_10 : decode cX9_isOrIsUnder 10 = .ok (.iload_n 2, 1) := by decide +kernel
theorem dX9_isOrIsUnder_11 : decode cX9_isOrIsUnder 11 = .ok (.invokestatic 116, 3) := by decide +kernel
theorem dX9_isOrIsUnder_14 : decode cX9_isOrIsUnder 14 = .ok (.ifCond .eq 22, 3) := by decide +kernel
theorem dX9_isOrIsUnder_17 : decode cX9_isOrIsUnder 17 = .ok (.iload_n 2, 1) := by decide +kernel
theorem dX9_isOrIsUnder_18 : decode cX9_isOrIsUnder 18 = .ok (.iload_n 1, 1) := by decide +kernel
theorem dX9_isOrIsUnder_19 : decode cX9_isOrIsUnder 19 = .ok (.if_icmp .ne 5, 3) := by decide +kernel
theorem dX9_isOrIsUnder_22 : decode cX9_isOrIsUnder 22 = .ok (.iconst 1, 1) := by decide +kernel
theorem dX9_isOrIsUnder_23 : decode cX9_isOrIsUnder 23 = .ok (.ireturn, 1) := by decide +kernel
theorem dX9_isOrIsUnder_24 : decode cX9_isOrIsUnder 24 = .ok (.getstatic 278, 3) := by decide +kernel
theorem dX9_isOrIsUnder_27 : decode cX9_isOrIsUnder 27 = .ok (.iload_n 2, 1) := by decide +kernel
theorem dX9_isOrIsUnder_28 : decode cX9_isOrIsUnder 28 = .ok (.iaload, 1) := by decide +kernel
theorem dX9_isOrIsUnder_29 : decode cX9_isOrIsUnder 29 = .ok (.istore_n 2, 1) := by decide +kernel
theorem dX9_isOrIsUnder_30 : decode cX9_isOrIsUnder 30 = .ok (.iinc 3 1, 3) := by decide +kernel
theorem dX9_isOrIsUnder_33 : decode cX9_isOrIsUnder 33 = .ok (.goto (-29), 3) := by decide +kernel
theorem dX9_isOrIsUnder_36 : decode cX9_isOrIsUnder 36 = .ok (.iconst 0, 1) := by decide +kernel
theorem dX9_isOrIsUnder_37 : decode cX9_isOrIsUnder 37 = .ok (.ireturn, 1) := by decide +kernel
theorem dX9_exchange_0 : decode cX9_exchange 0 = .ok (.aload_n 0, 1) := by decide +kernel
theorem dX9_exchange_1 : decode cX9_exchange 1 = .ok (.iload_n 1, 1) := by decide +kernel
theorem dX9_exchange_2 : decode cX9_exchange 2 = .ok (.iaload, 1) := by decide +kernel
theorem dX9_exchange_3 : decode cX9_exchange 3 = .ok (.istore_n 3, 1) := by decide +kernel
theorem dX9_exchange_4 : decode cX9_exchange 4 = .ok (.aload_n 0, 1) := by decide +kernel
theorem dX9_exchange_5 : decode cX9_exchange 5 = .ok (.iload_n 1, 1) := by decide +kernel
theorem dX9_exchange_6 : decode cX9_exchange 6 = .ok (.iload_n 2, 1) := by decide +kernel
theorem dX9_exchange_7 : decode cX9_exchange 7 = .ok (.iastore, 1) := by decide +kernel
theorem dX9_exchange_8 : decode cX9_exchange 8 = .ok (.iload_n 3, 1) := by decide +kernel
theorem dX9_exchange_9 : decode cX9_exchange 9 = .ok (.ireturn, 1) := by decide +kernel
theorem dX9_sum_0 : decode cX9_sum 0 = .ok (.iconst 0, 1) := by decide +kernel
theorem dX9_sum_1 : decode cX9_sum 1 = .ok (.istore_n 2, 1) := by decide +kernel
theorem dX9_sum_2 : decode cX9_sum 2 = .ok (.iconst 0, 1) := by decide +kernel
theorem dX9_sum_3 : decode cX9_sum 3 = .ok (.istore_n 3, 1) := by decide +kernel
theorem dX9_sum_4 : decode cX9_sum 4 = .ok (.iload_n 3, 1) := by decide +kernel
theorem dX9_sum_5 : decode cX9_sum 5 = .ok (.iload_n 1, 1) := by decide +kernel
theorem dX9_sum_6 : decode cX9_sum 6 = .ok (.if_icmp .ge 21, 3) := by decide +kernel
theorem dX9_sum_9 : decode cX9_sum 9 = .ok (.iload_n 3, 1) := by decide +kernel
theorem dX9_sum_10 : decode cX9_sum 10 = .ok (.aload_n 0, 1) := by decide +kernel
theorem dX9_sum_11 : decode cX9_sum 11 = .ok (.arraylength, 1) := by decide +kernel
theorem dX9_sum_12 : decode cX9_sum 12 = .ok (.if_icmp .ge 15, 3) := by decide +kernel
theorem dX9_sum_15 : decode cX9_sum 15 = .ok (.iload_n 2, 1) := by decide +kernel
theorem dX9_sum_16 : decode cX9_sum 16 = .ok (.aload_n 0, 1) := by decide +kernel
theorem dX9_sum_17 : decode cX9_sum 17 = .ok (.iload_n 3, 1) := by decide +kernel
theorem dX9_sum_18 : decode cX9_sum 18 = .ok (.iaload, 1) := by decide +kernel
theorem dX9_sum_19 : decode cX9_sum 19 = .ok (.iadd, 1) := by decide +kernel
theorem dX9_sum_20 : decode cX9_sum 20 = .ok (.istore_n 2, 1) := by decide +kernel
theorem dX9_sum_21 : decode cX9_sum 21 = .ok (.iinc 3 1, 3) := by decide +kernel
theorem dX9_sum_24 : decode cX9_sum 24 = .ok (.goto (-20), 3) := by decide +kernel
theorem dX9_sum_27 : decode cX9_sum 27 = .ok (.iload_n 2, 1) := by decide +kernel
theorem dX9_sum_28 : decode cX9_sum 28 = .ok (.ireturn, 1) := by decide +kernel
theorem dX10_init_0 : decode cX10_init 0 = .ok (.aload_n 0, 1) := by decide +kernel
theorem dX10_init_1 : decode cX10_init 1 = .ok (.invokespecial 3, 3) := by decide +kernel
theorem dX10_init_4 : decode cX10_init 4 = .ok (.aload_n 0, 1) := by decide +kernel
theorem dX10_init_5 : decode cX10_init 5 = .ok (.bipush 52, 2) := by decide +kernel
theorem dX10_init_7 : decode cX10_init 7 = .ok (.newarray .int, 2) := by decide +kernel
theorem dX10_init_9 : decode cX10_init 9 = .ok (.putfield 9, 3) := by decide +kernel
theorem dX10_init_12 : decode cX10_init 12 = .ok (.aload_n 0, 1) := by decide +kernel
theorem dX10_init_13 : decode cX10_init 13 = .ok (.bipush 52, 2) := by decide +kernel
theorem dX10_init_15 : decode cX10_init 15 = .ok (.newarray .int, 2) := by decide +kernel
theorem dX10_init_17 : decode cX10_init 17 = .ok (.putfield 13, 3) := by decide +kernel
theorem dX10_init_20 : decode cX10_init 20 = .ok (.aload_n 0, 1) := by decide +kernel
theorem dX10_init_21 : decode cX10_init 21 = .ok (.bipush 52, 2) := by decide +kernel
theorem dX10_init_23 : decode cX10_init 23 = .ok (.newarray .int, 2) := by decide +kernel
theorem dX10_init_25 : decode cX10_init 25 = .ok (.putfield 16, 3) := by decide +kernel
theorem dX10_init_28 : decode cX10_init 28 = .ok (.aload_n 0, 1) := by decide +kernel
theorem dX10_init_29 : decode cX10_init 29 = .ok (.bipush 7, 2) := by decide +kernel
theorem dX10_init_31 : decode cX10_init 31 = .ok (.newarray .int, 2) := by decide +kernel
theorem dX10_init_33 : decode cX10_init 33 = .ok (.putfield 19, 3) := by decide +kernel
theorem dX10_init_36 : decode cX10_init 36 = .ok (.aload_n 0, 1) := by decide +kernel
theorem dX10_init_37 : decode cX10_init 37 = .ok (.bipush 120, 2) := by decide +kernel
theorem dX10_init_39 : decode cX10_init 39 = .ok (.newarray .int, 2) := by decide +kernel
theorem dX10_init_41 : decode cX10_init 41 = .ok (.putfield 22, 3) := by decide +kernel
theorem dX10_init_44 : decode cX10_init 44 = .ok (.aload_n 0, 1) := by decide +kernel
theorem dX10_init_45 : decode cX10_init 45 = .ok (.iconst 4, 1) := by decide +kernel
theorem dX10_init_46 : decode cX10_init 46 = .ok (.newarray .int, 2) := by decide +kernel
theorem dX10_init_48 : decode cX10_init 48 = .ok (.putfield 25, 3) := by decide +kernel
theorem dX10_init_51 : decode cX10_init 51 = .ok (.aload_n 0, 1) := by decide +kernel
theorem dX10_init_52 : decode cX10_init 52 = .ok (.iconst 4, 1) := by decide +kernel
theorem dX10_init_53 : decode cX10_init 53 = .ok (.newarray .int, 2) := by decide +kernel
theorem dX10_init_55 : decode cX10_init 55 = .ok (.putfield 28, 3) := by decide +kernel
theorem dX10_init_58 : decode cX10_init 58 = .ok (.aload_n 0, 1) := by decide +kernel
theorem dX10_init_59 : decode cX10_init 59 = .ok (.sipush 160, 3) := by decide +kernel
theorem dX10_init_62 : decode cX10_init 62 = .ok (.newarray .long, 2) := by decide +kernel
theorem dX10_init_64 : decode cX10_init 64 = .ok (.putfield 31, 3) := by decide +kernel
theorem dX10_init_67 : decode cX10_init 67 = .ok (.iconst 0, 1) := by decide +kernel
theorem dX10_init_68 : decode cX10_init 68 = .ok (.istore_n 1, 1) := by decide +kernel
theorem dX10_init_69 : decode cX10_init 69 = .ok (.iload_n 1, 1) := by decide +kernel
theorem dX10_init_70 : decode cX10_init 70 = .ok (.bipush 6, 2) := by decide +kernel
theorem dX10_init_72 : decode cX10_init 72 = .ok (.if_icmp .ge 33, 3) := by decide +kernel
theorem dX10_init_75 : decode cX10_init 75 = .ok (.aload_n 0, 1) := by decide +kernel
theorem dX10_init_76 : decode cX10_init 76 = .ok (.getfield 9, 3) := by decide +kernel
theorem dX10_init_79 : decode cX10_init 79 = .ok (.iconst 2, 1) := by decide +kernel
theorem dX10_init_80 : decode cX10_init 80 = .ok (.iconst 3, 1) := by decide +kernel
theorem dX10_init_81 : decode cX10_init 81 = .ok (.iload_n 1, 1) := by decide +kernel
theorem dX10_init_82 : decode cX10_init 82 = .ok (.imul, 1) := by decide +kernel
theorem dX10_init_83 : decode cX10_init 83 = .ok (.iadd, 1) := by decide +kernel
theorem dX10_init_84 : decode cX10_init 84 = .ok (.iconst 5, 1) := by decide +kernel
theorem dX10_init_85 : decode cX10_init 85 = .ok (.iastore, 1) := by decide +kernel
theorem dX10_init_86 : decode cX10_init 86 = .ok (.aload_n 0, 1) := by decide +kernel
theorem dX10_init_87 : decode cX10_init 87 = .ok (.getfield 9, 3) := by decide +kernel
theorem dX10_init_90 : decode cX10_init 90 = .ok (.iconst 2, 1) := by decide +kernel
theorem dX10_init_91 : decode cX10_init 91 = .ok (.iconst 3, 1) := by decide +kernel
theorem dX10_init_92 : decode cX10_init 92 = .ok (.iload_n 1, 1) := by decide +kernel
theorem dX10_init_93 : decode cX10_init 93 = .ok (.imul, 1) := by decide +kernel
theorem dX10_init_94 : decode cX10_init 94 = .ok (.iadd, 1) := by decide +kernel
theorem dX10_init_95 : decode cX10_init 95 = .ok (.iconst 1, 1) := by decide +kernel
theorem dX10_init_96 : decode cX10_init 96 = .ok (.iadd, 1) := by decide +kernel
theorem dX10_init_97 : decode cX10_init 97 = .ok (.iconst 4, 1) := by decide +kernel
theorem dX10_init_98 : decode cX10_init 98 = .ok (.iastore, 1) := by decide +kernel
theorem dX10_init_99 : decode cX10_init 99 = .ok (.iinc 1 1, 3) := by decide +kernel
theorem dX10_init_102 : decode cX10_init 102 = .ok (.goto (-33), 3) := by decide +kernel
theorem dX10_init_105 : decode cX10_init 105 = .ok (.return_, 1) := by decide +kernel
theorem dX10_finds_0 : decode cX10_finds 0 = .ok (.aload_n 0, 1) := by decide +kernel
theorem dX10_finds_1 : decode cX10_finds 1 = .ok (.getfield 19, 3) := by decide +kernel
theorem dX10_finds_4 : decode cX10_finds 4 = .ok (.ldc 35, 2) := by decide +kernel
theorem dX10_finds_6 : decode cX10_finds 6 = .ok (.iload_n 1, 1) := by decide +kernel
theorem dX10_finds_7 : decode cX10_finds 7 = .ok (.isub, 1) := by decide +kernel
theorem dX10_finds_8 : decode cX10_finds 8 = .ok (.dup2, 1) := by decide +kernel
theorem dX10_finds_9 : decode cX10_finds 9 = .ok (.iaload, 1) := by decide +kernel
theorem dX10_finds_10 : decode cX10_finds 10 = .ok (.iconst 1, 1) := by decide +kernel
theorem dX10_finds_11 : decode cX10_finds 11 = .ok (.iadd, 1) := by decide +kernel
theorem dX10_finds_12 : decode cX10_finds 12 = .ok (.iastore, 1) := by decide +kernel
theorem dX10_finds_13 : decode cX10_finds 13 = .ok (.iload_n 1, 1) := by decide +kernel
theorem dX10_finds_14 : decode cX10_finds 14 = .ok (.ireturn, 1) := by decide +kernel
theorem dX10_orNone_0 : decode cX10_orNone 0 = .ok (.iload_n 1, 1) := by decide +kernel
theorem dX10_orNone_1 : decode cX10_orNone 1 = .ok (.ifCond .ge 12, 3) := by decide +kernel
theorem dX10_orNone_4 : decode cX10_orNone 4 = .ok (.aload_n 0, 1) := by decide +kernel
theorem dX10_orNone_5 : decode cX10_orNone 5 = .ok (.ldc 36, 2) := by decide +kernel
theorem dX10_orNone_7 : decode cX10_orNone 7 = .ok (.invokevirtual 37, 3) := by decide +kernel
theorem dX10_orNone_10 : decode cX10_orNone 10 = .ok (.goto 4, 3) := by decide +kernel
theorem dX10_orNone_13 : decode cX10_orNone 13 = .ok (.iload_n 1, 1) := by decide +kernel
theorem dX10_orNone_14 : decode cX10_orNone 14 = .ok (.ireturn, 1) := by decide +kernel
theorem dX10_in_0 : decode cX10_in 0 = .ok (.lload_n 0, 1) := by decide +kernel
theorem dX10_in_1 : decode cX10_in 1 = .ok (.iload_n 2, 1) := by decide +kernel
theorem dX10_in_2 : decode cX10_in 2 = .ok (.i2l, 1) := by decide +kernel
theorem dX10_in_3 : decode cX10_in 3 = .ok (.lcmp, 1) := by decide +kernel
theorem dX10_in_4 : decode cX10_in 4 = .ok (.ifCond .lt 14, 3) := by decide +kernel
theorem dX10_in_7 : decode cX10_in 7 = .ok (.lload_n 0, 1) := by decide +kernel
theorem dX10_in_8 : decode cX10_in 8 = .ok (.iload_n 3, 1) := by decide +kernel
theorem dX10_in_9 : decode cX10_in 9 = .ok (.i2l, 1) := by decide +kernel
theorem dX10_in_10 : decode cX10_in 10 = .ok (.lcmp, 1) := by decide +kernel
theorem dX10_in_11 : decode cX10_in 11 = .ok (.ifCond .gt 7, 3) := by decide +kernel
theorem dX10_in_14 : decode cX10_in 14 = .ok (.iconst 1, 1) := by decide +kernel
theorem dX10_in_15 : decode cX10_in 15 = .ok (.goto 4, 3) := by decide +kernel
theorem dX10_in_18 : decode cX10_in 18 = .ok (.iconst 0, 1) := by decide +kernel
theorem dX10_in_19 : decode cX10_in 19 = .ok (.ireturn, 1) := by decide +kernel
theorem dX10_held_0 : decode cX10_held 0 = .ok (.iload_n 0, 1) := by decide +kernel
theorem dX10_held_1 : decode cX10_held 1 = .ok (.iload_n 1, 1) := by decide +kernel
theorem dX10_held_2 : decode cX10_held 2 = .ok (.if_icmp .ge 7, 3) := by decide +kernel
theorem dX10_held_5 : decode cX10_held 5 = .ok (.iload_n 1, 1) := by decide +kernel
theorem dX10_held_6 : decode cX10_held 6 = .ok (.goto 13, 3) := by decide +kernel
theorem dX10_held_9 : decode cX10_held 9 = .ok (.iload_n 0, 1) := by decide +kernel
theorem dX10_held_10 : decode cX10_held 10 = .ok (.iload_n 2, 1) := by decide +kernel
theorem dX10_held_11 : decode cX10_held 11 = .ok (.if_icmp .le 7, 3) := by decide +kernel
theorem dX10_held_14 : decode cX10_held 14 = .ok (.iload_n 2, 1) := by decide +kernel
theorem dX10_held_15 : decode cX10_held 15 = .ok (.goto 4, 3) := by decide +kernel
theorem dX10_held_18 : decode cX10_held 18 = .ok (.iload_n 0, 1) := by decide +kernel
theorem dX10_held_19 : decode cX10_held 19 = .ok (.ireturn, 1) := by decide +kernel
theorem dX10_copyAll_0 : decode cX10_copyAll 0 = .ok (.iconst 0, 1) := by decide +kernel
theorem dX10_copyAll_1 : decode cX10_copyAll 1 = .ok (.istore_n 2, 1) := by decide +kernel
theorem dX10_copyAll_2 : decode cX10_copyAll 2 = .ok (.iload_n 2, 1) := by decide +kernel
theorem dX10_copyAll_3 : decode cX10_copyAll 3 = .ok (.bipush 52, 2) := by decide +kernel
theorem dX10_copyAll_5 : decode cX10_copyAll 5 = .ok (.if_icmp .ge 15, 3) := by decide +kernel
theorem dX10_copyAll_8 : decode cX10_copyAll 8 = .ok (.aload_n 1, 1) := by decide +kernel
theorem dX10_copyAll_9 : decode cX10_copyAll 9 = .ok (.iload_n 2, 1) := by decide +kernel
theorem dX10_copyAll_10 : decode cX10_copyAll 10 = .ok (.aload_n 0, 1) := by decide +kernel
theorem dX10_copyAll_11 : decode cX10_copyAll 11 = .ok (.iload_n 2, 1) := by decide +kernel
theorem dX10_copyAll_12 : decode cX10_copyAll 12 = .ok (.iaload, 1) := by decide +kernel
theorem dX10_copyAll_13 : decode cX10_copyAll 13 = .ok (.iastore, 1) := by decide +kernel
theorem dX10_copyAll_14 : decode cX10_copyAll 14 = .ok (.iinc 2 1, 3) := by decide +kernel
theorem dX10_copyAll_17 : decode cX10_copyAll 17 = .ok (.goto (-15), 3) := by decide +kernel
theorem dX10_copyAll_20 : decode cX10_copyAll 20 = .ok (.return_, 1) := by decide +kernel
theorem dX10_becomes_0 : decode cX10_becomes 0 = .ok (.aload_n 0, 1) := by decide +kernel
theorem dX10_becomes_1 : decode cX10_becomes 1 = .ok (.getfield 9, 3) := by decide +kernel
theorem dX10_becomes_4 : decode cX10_becomes 4 = .ok (.iload_n 1, 1) := by decide +kernel
theorem dX10_becomes_5 : decode cX10_becomes 5 = .ok (.iaload, 1) := by decide +kernel
theorem dX10_becomes_6 : decode cX10_becomes 6 = .ok (.istore_n 3, 1) := by decide +kernel
theorem dX10_becomes_7 : decode cX10_becomes 7 = .ok (.aload_n 0, 1) := by decide +kernel
theorem dX10_becomes_8 : decode cX10_becomes 8 = .ok (.getfield 9, 3) := by decide +kernel
theorem dX10_becomes_11 : decode cX10_becomes 11 = .ok (.iload_n 1, 1) := by decide +kernel
theorem dX10_becomes_12 : decode cX10_becomes 12 = .ok (.iload_n 2, 1) := by decide +kernel
theorem dX10_becomes_13 : decode cX10_becomes 13 = .ok (.iastore, 1) := by decide +kernel
theorem dX10_becomes_14 : decode cX10_becomes 14 = .ok (.iload_n 3, 1) := by decide +kernel
theorem dX10_becomes_15 : decode cX10_becomes 15 = .ok (.ireturn, 1) := by decide +kernel
theorem dX10_isThing_0 : decode cX10_isThing 0 = .ok (.iload_n 1, 1) := by decide +kernel
theorem dX10_isThing_1 : decode cX10_isThing 1 = .ok (.i2l, 1) := by decide +kernel
theorem dX10_isThing_2 : decode cX10_isThing 2 = .ok (.iconst 0, 1) := by decide +kernel
theorem dX10_isThing_3 : decode cX10_isThing 3 = .ok (.aload_n 0, 1) := by decide +kernel
theorem dX10_isThing_4 : decode cX10_isThing 4 = .ok (.getfield 9, 3) := by decide +kernel
theorem dX10_isThing_7 : decode cX10_isThing 7 = .ok (.iconst 1, 1) := by decide +kernel
theorem dX10_isThing_8 : decode cX10_isThing 8 = .ok (.iaload, 1) := by decide +kernel
theorem dX10_isThing_9 : decode cX10_isThing 9 = .ok (.iconst 1, 1) := by decide +kernel
theorem dX10_isThing_10 : decode cX10_isThing 10 = .ok (.isub, 1) := by decide +kernel
theorem dX10_isThing_11 : decode cX10_isThing 11 = .ok (.invokestatic 41, 3) := by decide +kernel
theorem dX10_isThing_14 : decode cX10_isThing 14 = .ok (.ireturn, 1) := by decide +kernel
theorem dX10_isPerson_0 : decode cX10_isPerson 0 = .ok (.iload_n 0, 1) := by decide +kernel
theorem dX10_isPerson_1 : decode cX10_isPerson 1 = .ok (.i2l, 1) := by decide +kernel
theorem dX10_isPerson_2 : decode cX10_isPerson 2 = .ok (.iconst 0, 1) := by decide +kernel
theorem dX10_isPerson_3 : decode cX10_isPerson 3 = .ok (.iconst 5, 1) := by decide +kernel
theorem dX10_isPerson_4 : decode cX10_isPerson 4 = .ok (.invokestatic 41, 3) := by decide +kernel
theorem dX10_isPerson_7 : decode cX10_isPerson 7 = .ok (.ireturn, 1) := by decide +kernel
theorem dX10_it_0 : decode cX10_it 0 = .ok (.aload_n 0, 1) := by decide +kernel
theorem dX10_it_1 : decode cX10_it 1 = .ok (.getfield 9, 3) := by decide +kernel
theorem dX10_it_4 : decode cX10_it 4 = .ok (.bipush 20, 2) := by decide +kernel
theorem dX10_it_6 : decode cX10_it 6 = .ok (.iconst 4, 1) := by decide +kernel
theorem dX10_it_7 : decode cX10_it 7 = .ok (.iload_n 1, 1) := by decide +kernel
theorem dX10_it_8 : decode cX10_it 8 = .ok (.imul, 1) := by decide +kernel
theorem dX10_it_9 : decode cX10_it 9 = .ok (.iadd, 1) := by decide +kernel
theorem dX10_it_10 : decode cX10_it 10 = .ok (.iload_n 2, 1) := by decide +kernel
theorem dX10_it_11 : decode cX10_it 11 = .ok (.iadd, 1) := by decide +kernel
theorem dX10_it_12 : decode cX10_it 12 = .ok (.iaload, 1) := by decide +kernel
theorem dX10_it_13 : decode cX10_it 13 = .ok (.ireturn, 1) := by decide +kernel
theorem dX10_put_0 : decode cX10_put 0 = .ok (.aload_n 0, 1) := by decide +kernel
theorem dX10_put_1 : decode cX10_put 1 = .ok (.getfield 9, 3) := by decide +kernel
theorem dX10_put_4 : decode cX10_put 4 = .ok (.bipush 20, 2) := by decide +kernel
theorem dX10_put_6 : decode cX10_put 6 = .ok (.iconst 4, 1) := by decide +kernel
theorem dX10_put_7 : decode cX10_put 7 = .ok (.iload_n 1, 1) := by decide +kernel
theorem dX10_put_8 : decode cX10_put 8 = .ok (.imul, 1) := by decide +kernel
theorem dX10_put_9 : decode cX10_put 9 = .ok (.iadd, 1) := by decide +kernel
theorem dX10_put_10 : decode cX10_put 10 = .ok (.iload_n 2, 1) := by decide +kernel
theorem dX10_put_11 : decode cX10_put 11 = .ok (.iadd, 1) := by decide +kernel
theorem dX10_put_12 : decode cX10_put 12 = .ok (.iload_n 3, 1) := by decide +kernel
theorem dX10_put_13 : decode cX10_put 13 = .ok (.iastore, 1) := by decide +kernel
theorem dX10_put_14 : decode cX10_put 14 = .ok (.return_, 1) := by decide +kernel
theorem dX10_his_0 : decode cX10_his 0 = .ok (.aload_n 0, 1) := by decide +kernel
theorem dX10_his_1 : decode cX10_his 1 = .ok (.getfield 9, 3) := by decide +kernel
theorem dX10_his_4 : decode cX10_his 4 = .ok (.iconst 2, 1) := by decide +kernel
theorem dX10_his_5 : decode cX10_his 5 = .ok (.iconst 3, 1) := by decide +kernel
theorem dX10_his_6 : decode cX10_his 6 = .ok (.iload_n 1, 1) := by decide +kernel
theorem dX10_his_7 : decode cX10_his 7 = .ok (.imul, 1) := by decide +kernel
theorem dX10_his_8 : decode cX10_his 8 = .ok (.iadd, 1) := by decide +kernel
theorem dX10_his_9 : decode cX10_his 9 = .ok (.iload_n 2, 1) := by decide +kernel
theorem dX10_his_10 : decode cX10_his 10 = .ok (.iadd, 1) := by decide +kernel
theorem dX10_his_11 : decode cX10_his 11 = .ok (.iaload, 1) := by decide +kernel
theorem dX10_his_12 : decode cX10_his 12 = .ok (.ireturn, 1) := by decide +kernel
theorem dX10_gets_0 : decode cX10_gets 0 = .ok (.aload_n 0, 1) := by decide +kernel
theorem dX10_gets_1 : decode cX10_gets 1 = .ok (.getfield 9, 3) := by decide +kernel
theorem dX10_gets_4 : decode cX10_gets 4 = .ok (.iconst 2, 1) := by decide +kernel
theorem dX10_gets_5 : decode cX10_gets 5 = .ok (.iconst 3, 1) := by decide +kernel
theorem dX10_gets_6 : decode cX10_gets 6 = .ok (.iload_n 1, 1) := by decide +kernel
theorem dX10_gets_7 : decode cX10_gets 7 = .ok (.imul, 1) := by decide +kernel
theorem dX10_gets_8 : decode cX10_gets 8 = .ok (.iadd, 1) := by decide +kernel
theorem dX10_gets_9 : decode cX10_gets 9 = .ok (.iload_n 2, 1) := by decide +kernel
theorem dX10_gets_10 : decode cX10_gets 10 = .ok (.iadd, 1) := by decide +kernel
theorem dX10_gets_11 : decode cX10_gets 11 = .ok (.iload_n 3, 1) := by decide +kernel
theorem dX10_gets_12 : decode cX10_gets 12 = .ok (.iastore, 1) := by decide +kernel
theorem dX10_gets_13 : decode cX10_gets 13 = .ok (.return_, 1) := by decide +kernel
theorem dX10_isDone_0 : decode cX10_isDone 0 = .ok (.aload_n 0, 1) := by decide +kernel
theorem dX10_isDone_1 : decode cX10_isDone 1 = .ok (.iload_n 1, 1) := by decide +kernel
theorem dX10_isDone_2 : decode cX10_isDone 2 = .ok (.iconst 1, 1) := by decide +kernel
theorem dX10_isDone_3 : decode cX10_isDone 3 = .ok (.invokevirtual 45, 3) := by decide +kernel
theorem dX10_isDone_6 : decode cX10_isDone 6 = .ok (.bipush 100, 2) := by decide +kernel
theorem dX10_isDone_8 : decode cX10_isDone 8 = .ok (.if_icmp .ne 7, 3) := by decide +kernel
theorem dX10_isDone_11 : decode cX10_isDone 11 = .ok (.iconst 1, 1) := by decide +kernel
theorem dX10_isDone_12 : decode cX10_isDone 12 = .ok (.goto 4, 3) := by decide +kernel
theorem dX10_isDone_15 : decode cX10_isDone 15 = .ok (.iconst 0, 1) := by decide +kernel
theorem dX10_isDone_16 : decode cX10_isDone 16 = .ok (.ireturn, 1) := by decide +kernel
theorem dX10_mayBe_0 : decode cX10_mayBe 0 = .ok (.iload_n 0, 1) := by decide +kernel
theorem dX10_mayBe_1 : decode cX10_mayBe 1 = .ok (.i2l, 1) := by decide +kernel
theorem dX10_mayBe_2 : decode cX10_mayBe 2 = .ok (.iconst 0, 1) := by decide +kernel
theorem dX10_mayBe_3 : decode cX10_mayBe 3 = .ok (.iconst 2, 1) := by decide +kernel
theorem dX10_mayBe_4 : decode cX10_mayBe 4 = .ok (.invokestatic 41, 3) := by decide +kernel
theorem dX10_mayBe_7 : decode cX10_mayBe 7 = .ok (.ifCond .eq 38, 3) := by decide +kernel
theorem dX10_mayBe_10 : decode cX10_mayBe 10 = .ok (.iload_n 1, 1) := by decide +kernel
theorem dX10_mayBe_11 : decode cX10_mayBe 11 = .ok (.i2l, 1) := by decide +kernel
theorem dX10_mayBe_12 : decode cX10_mayBe 12 = .ok (.iconst 0, 1) := by decide +kernel
theorem dX10_mayBe_13 : decode cX10_mayBe 13 = .ok (.iload_n 0, 1) := by decide +kernel
theorem dX10_mayBe_14 : decode cX10_mayBe 14 = .ok (.ifCond .ne 8, 3) := by decide +kernel
theorem dX10_mayBe_17 : decode cX10_mayBe 17 = .ok (.bipush 20, 2) := by decide +kernel
theorem dX10_mayBe_19 : decode cX10_mayBe 19 = .ok (.goto 16, 3) := by decide +kernel
theorem dX10_mayBe_22 : decode cX10_mayBe 22 = .ok (.iload_n 0, 1) := by decide +kernel
theorem dX10_mayBe_23 : decode cX10_mayBe 23 = .ok (.iconst 1, 1) := by decide +kernel
theorem dX10_mayBe_24 : decode cX10_mayBe 24 = .ok (.if_icmp .ne 8, 3) := by decide +kernel
theorem dX10_mayBe_27 : decode cX10_mayBe 27 = .ok (.bipush 9, 2) := by decide +kernel
theorem dX10_mayBe_29 : decode cX10_mayBe 29 = .ok (.goto 6, 3) := by decide +kernel
theorem dX10_mayBe_32 : decode cX10_mayBe 32 = .ok (.sipush 999, 3) := by decide +kernel
theorem dX10_mayBe_35 : decode cX10_mayBe 35 = .ok (.invokestatic 41, 3) := by decide +kernel
theorem dX10_mayBe_38 : decode cX10_mayBe 38 = .ok (.ifCond .eq 7, 3) := by decide +kernel
theorem dX10_mayBe_41 : decode cX10_mayBe 41 = .ok (.iconst 1, 1) := by decide +kernel
theorem dX10_mayBe_42 : decode cX10_mayBe 42 = .ok (.goto 4, 3) := by decide +kernel
theorem dX10_mayBe_45 : decode cX10_mayBe 45 = .ok (.iconst 0, 1) := by decide +kernel
theorem dX10_mayBe_46 : decode cX10_mayBe 46 = .ok (.ireturn, 1) := by decide +kernel
theorem dX10_person_0 : decode cX10_person 0 = .ok (.iload_n 1, 1) := by decide +kernel
theorem dX10_person_1 : decode cX10_person 1 = .ok (.invokestatic 49, 3) := by decide +kernel
theorem dX10_person_4 : decode cX10_person 4 = .ok (.ifCond .eq 26, 3) := by decide +kernel
theorem dX10_person_7 : decode cX10_person 7 = .ok (.iload_n 2, 1) := by decide +kernel
theorem dX10_person_8 : decode cX10_person 8 = .ok (.iload_n 3, 1) := by decide +kernel
theorem dX10_person_9 : decode cX10_person 9 = .ok (.invokestatic 53, 3) := by decide +kernel
theorem dX10_person_12 : decode cX10_person 12 = .ok (.ifCond .eq 18, 3) := by decide +kernel
theorem dX10_person_15 : decode cX10_person 15 = .ok (.aload_n 0, 1) := by decide +kernel
theorem dX10_person_16 : decode cX10_person 16 = .ok (.iconst 2, 1) := by decide +kernel
theorem dX10_person_17 : decode cX10_person 17 = .ok (.iconst 3, 1) := by decide +kernel
theorem dX10_person_18 : decode cX10_person 18 = .ok (.iload_n 1, 1) := by decide +kernel
theorem dX10_person_19 : decode cX10_person 19 = .ok (.imul, 1) := by decide +kernel
theorem dX10_person_20 : decode cX10_person 20 = .ok (.iadd, 1) := by decide +kernel
theorem dX10_person_21 : decode cX10_person 21 = .ok (.iload_n 2, 1) := by decide +kernel
theorem dX10_person_22 : decode cX10_person 22 = .ok (.iadd, 1) := by decide +kernel
theorem dX10_person_23 : decode cX10_person 23 = .ok (.iload_n 3, 1) := by decide +kernel
theorem dX10_person_24 : decode cX10_person 24 = .ok (.invokevirtual 57, 3) := by decide +kernel
theorem dX10_person_27 : decode cX10_person 27 = .ok (.goto 9, 3) := by decide +kernel
theorem dX10_person_30 : decode cX10_person 30 = .ok (.aload_n 0, 1) := by decide +kernel
theorem dX10_person_31 : decode cX10_person 31 = .ok (.ldc 35, 2) := by decide +kernel
theorem dX10_person_33 : decode cX10_person 33 = .ok (.invokevirtual 37, 3) := by decide +kernel
theorem dX10_person_36 : decode cX10_person 36 = .ok (.ireturn, 1) := by decide +kernel
theorem dX10_withOf_0 : decode cX10_withOf 0 = .ok (.iconst 0, 1) := by decide +kernel
theorem dX10_withOf_1 : decode cX10_withOf 1 = .ok (.istore_n 2, 1) := by decide +kernel
theorem dX10_withOf_2 : decode cX10_withOf 2 = .ok (.iconst 0, 1) := by decide +kernel
theorem dX10_withOf_3 : decode cX10_withOf 3 = .ok (.istore_n 3, 1) := by decide +kernel
theorem dX10_withOf_4 : decode cX10_withOf 4 = .ok (.iload_n 3, 1) := by decide +kernel
theorem dX10_withOf_5 : decode cX10_withOf 5 = .ok (.aload_n 0, 1) := by decide +kernel
theorem dX10_withOf_6 : decode cX10_withOf 6 = .ok (.getfield 9, 3) := by decide +kernel
theorem dX10_withOf_9 : decode cX10_withOf 9 = .ok (.iconst 1, 1) := by decide +kernel
theorem dX10_withOf_10 : decode cX10_withOf 10 = .ok (.iaload, 1) := by decide +kernel
theorem dX10_withOf_11 : decode cX10_withOf 11 = .ok (.if_icmp .ge 29, 3) := by decide +kernel
theorem dX10_withOf_14 : decode cX10_withOf 14 = .ok (.iload_n 2, 1) := by decide +kernel
theorem dX10_withOf_15 : decode cX10_withOf 15 = .ok (.aload_n 0, 1) := by decide +kernel
theorem dX10_withOf_16 : decode cX10_withOf 16 = .ok (.iload_n 3, 1) := by decide +kernel
theorem dX10_withOf_17 : decode cX10_withOf 17 = .ok (.iconst 2, 1) := by decide +kernel
theorem dX10_withOf_18 : decode cX10_withOf 18 = .ok (.invokevirtual 45, 3) := by decide +kernel
theorem dX10_withOf_21 : decode cX10_withOf 21 = .ok (.iload_n 1, 1) := by decide +kernel
theorem dX10_withOf_22 : decode cX10_withOf 22 = .ok (.if_icmp .ne 9, 3) := by decide +kernel
theorem dX10_withOf_25 : decode cX10_withOf 25 = .ok (.iconst 1, 1) := by decide +kernel
theorem dX10_withOf_26 : decode cX10_withOf 26 = .ok (.iload_n 3, 1) := by decide +kernel
theorem dX10_withOf_27 : decode cX10_withOf 27 = .ok (.ishl, 1) := by decide +kernel
theorem dX10_withOf_28 : decode cX10_withOf 28 = .ok (.goto 4, 3) := by decide +kernel
theorem dX10_withOf_31 : decode cX10_withOf 31 = .ok (.iconst 0, 1) := by decide +kernel
theorem dX10_withOf_32 : decode cX10_withOf 32 = .ok (.ior, 1) := by decide +kernel
theorem dX10_withOf_33 : decode cX10_withOf 33 = .ok (.istore_n 2, 1) := by decide +kernel
theorem dX10_withOf_34 : decode cX10_withOf 34 = .ok (.iinc 3 1, 3) := by decide +kernel
theorem dX10_withOf_37 : decode cX10_withOf 37 = .ok (.goto (-33), 3) := by decide +kernel
theorem dX10_withOf_40 : decode cX10_withOf 40 = .ok (.iload_n 2, 1) := by decide +kernel
theorem dX10_withOf_41 : decode cX10_withOf 41 = .ok (.ireturn, 1) := by decide +kernel
theorem dX10_openOf_0 : decode cX10_openOf 0 = .ok (.iconst 0, 1) := by decide +kernel
theorem dX10_openOf_1 : decode cX10_openOf 1 = .ok (.istore_n 2, 1) := by decide +kernel
theorem dX10_openOf_2 : decode cX10_openOf 2 = .ok (.iconst 0, 1) := by decide +kernel
theorem dX10_openOf_3 : decode cX10_openOf 3 = .ok (.istore_n 3, 1) := by decide +kernel
theorem dX10_openOf_4 : decode cX10_openOf 4 = .ok (.iload_n 3, 1) := by decide +kernel
theorem dX10_openOf_5 : decode cX10_openOf 5 = .ok (.aload_n 0, 1) := by decide +kernel
theorem dX10_openOf_6 : decode cX10_openOf 6 = .ok (.getfield 9, 3) := by decide +kernel
theorem dX10_openOf_9 : decode cX10_openOf 9 = .ok (.iconst 1, 1) := by decide +kernel
theorem dX10_openOf_10 : decode cX10_openOf 10 = .ok (.iaload, 1) := by decide +kernel
theorem dX10_openOf_11 : decode cX10_openOf 11 = .ok (.if_icmp .ge 35, 3) := by decide +kernel
theorem dX10_openOf_14 : decode cX10_openOf 14 = .ok (.iload_n 2, 1) := by decide +kernel
theorem dX10_openOf_15 : decode cX10_openOf 15 = .ok (.aload_n 0, 1) := by decide +kernel
theorem dX10_openOf_16 : decode cX10_openOf 16 = .ok (.iload_n 3, 1) := by decide +kernel
theorem dX10_openOf_17 : decode cX10_openOf 17 = .ok (.iconst 2, 1) := by decide +kernel
theorem dX10_openOf_18 : decode cX10_openOf 18 = .ok (.invokevirtual 45, 3) := by decide +kernel
theorem dX10_openOf_21 : decode cX10_openOf 21 = .ok (.iload_n 1, 1) := by decide +kernel
theorem dX10_openOf_22 : decode cX10_openOf 22 = .ok (.if_icmp .ne 15, 3) := by decide +kernel
theorem dX10_openOf_25 : decode cX10_openOf 25 = .ok (.aload_n 0, 1) := by decide +kernel
theorem dX10_openOf_26 : decode cX10_openOf 26 = .ok (.iload_n 3, 1) := by decide +kernel
theorem dX10_openOf_27 : decode cX10_openOf 27 = .ok (.invokevirtual 60, 3) := by decide +kernel
theorem dX10_openOf_30 : decode cX10_openOf 30 = .ok (.ifCond .ne 7, 3) := by decide +kernel
theorem dX10_openOf_33 : decode cX10_openOf 33 = .ok (.iconst 1, 1) := by decide +kernel
theorem dX10_openOf_34 : decode cX10_openOf 34 = .ok (.goto 4, 3) := by decide +kernel
theorem dX10_openOf_37 : decode cX10_openOf 37 = .ok (.iconst 0, 1) := by decide +kernel
theorem dX10_openOf_38 : decode cX10_openOf 38 = .ok (.iadd, 1) := by decide +kernel
theorem dX10_openOf_39 : decode cX10_openOf 39 = .ok (.istore_n 2, 1) := by decide +kernel
theorem dX10_openOf_40 : decode cX10_openOf 40 = .ok (.iinc 3 1, 3) := by decide +kernel
theorem dX10_openOf_43 : decode cX10_openOf 43 = .ok (.goto (-39), 3) := by decide +kernel
theorem dX10_openOf_46 : decode cX10_openOf 46 = .ok (.iload_n 2, 1) := by decide +kernel
theorem dX10_openOf_47 : decode cX10_openOf 47 = .ok (.ireturn, 1) := by decide +kernel
theorem dX10_personOf_0 : decode cX10_personOf 0 = .ok (.iload_n 1, 1) := by decide +kernel
theorem dX10_personOf_1 : decode cX10_personOf 1 = .ok (.invokestatic 49, 3) := by decide +kernel
theorem dX10_personOf_4 : decode cX10_personOf 4 = .ok (.ifCond .eq 13, 3) := by decide +kernel
theorem dX10_personOf_7 : decode cX10_personOf 7 = .ok (.iload_n 2, 1) := by decide +kernel
theorem dX10_personOf_8 : decode cX10_personOf 8 = .ok (.i2l, 1) := by decide +kernel
theorem dX10_personOf_9 : decode cX10_personOf 9 = .ok (.iconst 0, 1) := by decide +kernel
theorem dX10_personOf_10 : decode cX10_personOf 10 = .ok (.iconst 4, 1) := by decide +kernel
theorem dX10_personOf_11 : decode cX10_personOf 11 = .ok (.invokestatic 41, 3) := by decide +kernel
theorem dX10_personOf_14 : decode cX10_personOf 14 = .ok (.ifCond .ne 10, 3) := by decide +kernel
theorem dX10_personOf_17 : decode cX10_personOf 17 = .ok (.aload_n 0, 1) := by decide +kernel
theorem dX10_personOf_18 : decode cX10_personOf 18 = .ok (.ldc 35, 2) := by decide +kernel
theorem dX10_personOf_20 : decode cX10_personOf 20 = .ok (.invokevirtual 37, 3) := by decide +kernel
theorem dX10_personOf_23 : decode cX10_personOf 23 = .ok (.ireturn, 1) := by decide +kernel
theorem dX10_personOf_24 : decode cX10_personOf 24 = .ok (.iload_n 2, 1) := by decide +kernel
theorem dX10_personOf_25 : decode cX10_personOf 25 = .ok (.iconst 3, 1) := by decide +kernel
theorem dX10_personOf_26 : decode cX10_personOf 26 = .ok (.if_icmp .ge 12, 3) := by decide +kernel
theorem dX10_personOf_29 : decode cX10_personOf 29 = .ok (.aload_n 0, 1) := by decide +kernel
theorem dX10_personOf_30 : decode cX10_personOf 30 = .ok (.iload_n 1, 1) := by decide +kernel
theorem dX10_personOf_31 : decode cX10_personOf 31 = .ok (.iload_n 2, 1) := by decide +kernel
theorem dX10_personOf_32 : decode cX10_personOf 32 = .ok (.invokevirtual 63, 3) := by decide +kernel
theorem dX10_personOf_35 : decode cX10_personOf 35 = .ok (.goto 21, 3) := by decide +kernel
theorem dX10_personOf_38 : decode cX10_personOf 38 = .ok (.iload_n 2, 1) := by decide +kernel
theorem dX10_personOf_39 : decode cX10_personOf 39 = .ok (.iconst 3, 1) := by decide +kernel
theorem dX10_personOf_40 : decode cX10_personOf 40 = .ok (.if_icmp .ne 11, 3) := by decide +kernel
theorem dX10_personOf_43 : decode cX10_personOf 43 = .ok (.aload_n 0, 1) := by decide +kernel
theorem dX10_personOf_44 : decode cX10_personOf 44 = .ok (.iload_n 1, 1) := by decide +kernel
theorem dX10_personOf_45 : decode cX10_personOf 45 = .ok (.invokevirtual 66, 3) := by decide +kernel
theorem dX10_personOf_48 : decode cX10_personOf 48 = .ok (.goto 8, 3) := by decide +kernel
theorem dX10_personOf_51 : decode cX10_personOf 51 = .ok (.aload_n 0, 1) := by decide +kernel
theorem dX10_personOf_52 : decode cX10_personOf 52 = .ok (.iload_n 1, 1) := by decide +kernel
theorem dX10_personOf_53 : decode cX10_personOf 53 = .ok (.invokevirtual 69, 3) := by decide +kernel
theorem dX10_personOf_56 : decode cX10_personOf 56 = .ok (.ireturn, 1) := by decide +kernel
theorem dX10_goesOn_0 : decode cX10_goesOn 0 = .ok (.aload_n 0, 1) := by decide +kernel
theorem dX10_goesOn_1 : decode cX10_goesOn 1 = .ok (.iload_n 1, 1) := by decide +kernel
theorem dX10_goesOn_2 : decode cX10_goesOn 2 = .ok (.iconst 1, 1) := by decide +kernel
theorem dX10_goesOn_3 : decode cX10_goesOn 3 = .ok (.invokevirtual 45, 3) := by decide +kernel
theorem dX10_goesOn_6 : decode cX10_goesOn 6 = .ok (.istore_n 3, 1) := by decide +kernel
theorem dX10_goesOn_7 : decode cX10_goesOn 7 = .ok (.iload_n 3, 1) := by decide +kernel
theorem dX10_goesOn_8 : decode cX10_goesOn 8 = .ok (.bipush 50, 2) := by decide +kernel
theorem dX10_goesOn_10 : decode cX10_goesOn 10 = .ok (.if_icmp .ge 9, 3) := by decide +kernel
theorem dX10_goesOn_13 : decode cX10_goesOn 13 = .ok (.iload_n 2, 1) := by decide +kernel
theorem dX10_goesOn_14 : decode cX10_goesOn 14 = .ok (.iconst 3, 1) := by decide +kernel
theorem dX10_goesOn_15 : decode cX10_goesOn 15 = .ok (.iadd, 1) := by decide +kernel
theorem dX10_goesOn_16 : decode cX10_goesOn 16 = .ok (.goto 4, 3) := by decide +kernel
theorem dX10_goesOn_19 : decode cX10_goesOn 19 = .ok (.iload_n 2, 1) := by decide +kernel
theorem dX10_goesOn_20 : decode cX10_goesOn 20 = .ok (.istore 4, 2) := by decide +kernel
theorem dX10_goesOn_22 : decode cX10_goesOn 22 = .ok (.aload_n 0, 1) := by decide +kernel
theorem dX10_goesOn_23 : decode cX10_goesOn 23 = .ok (.iload_n 1, 1) := by decide +kernel
theorem dX10_goesOn_24 : decode cX10_goesOn 24 = .ok (.iconst 0, 1) := by decide +kernel
theorem dX10_goesOn_25 : decode cX10_goesOn 25 = .ok (.invokevirtual 45, 3) := by decide +kernel
theorem dX10_goesOn_28 : decode cX10_goesOn 28 = .ok (.tableswitch 82 1 5 #[36, 40, 43, 55, 61], 36) := by decide +kernel
theorem dX10_goesOn_64 : decode cX10_goesOn 64 = .ok (.iload_n 2, 1) := by decide +kernel
theorem dX10_goesOn_65 : decode cX10_goesOn 65 = .ok (.iconst 2, 1) := by decide +kernel
theorem dX10_goesOn_66 : decode cX10_goesOn 66 = .ok (.idiv, 1) := by decide +kernel
theorem dX10_goesOn_67 : decode cX10_goesOn 67 = .ok (.ireturn, 1) := by decide +kernel
theorem dX10_goesOn_68 : decode cX10_goesOn 68 = .ok (.iload 4, 2) := by decide +kernel
theorem dX10_goesOn_70 : decode cX10_goesOn 70 = .ok (.ireturn, 1) := by decide +kernel
theorem dX10_goesOn_71 : decode cX10_goesOn 71 = .ok (.iload_n 3, 1) := by decide +kernel
theorem dX10_goesOn_72 : decode cX10_goesOn 72 = .ok (.bipush 99, 2) := by decide +kernel
theorem dX10_goesOn_74 : decode cX10_goesOn 74 = .ok (.if_icmp .ne 7, 3) := by decide +kernel
theorem dX10_goesOn_77 : decode cX10_goesOn 77 = .ok (.iconst 0, 1) := by decide +kernel
theorem dX10_goesOn_78 : decode cX10_goesOn 78 = .ok (.goto 4, 3) := by decide +kernel
theorem dX10_goesOn_81 : decode cX10_goesOn 81 = .ok (.iconst 1, 1) := by decide +kernel
theorem dX10_goesOn_82 : decode cX10_goesOn 82 = .ok (.ireturn, 1) := by decide +kernel
theorem dX10_goesOn_83 : decode cX10_goesOn 83 = .ok (.iload_n 2, 1) := by decide +kernel
theorem dX10_goesOn_84 : decode cX10_goesOn 84 = .ok (.iconst 2, 1) := by decide +kernel
theorem dX10_goesOn_85 : decode cX10_goesOn 85 = .ok (.idiv, 1) := by decide +kernel
theorem dX10_goesOn_86 : decode cX10_goesOn 86 = .ok (.iconst 2, 1) := by decide +kernel
theorem dX10_goesOn_87 : decode cX10_goesOn 87 = .ok (.iadd, 1) := by decide +kernel
theorem dX10_goesOn_88 : decode cX10_goesOn 88 = .ok (.ireturn, 1) := by decide +kernel
theorem dX10_goesOn_89 : decode cX10_goesOn 89 = .ok (.aload_n 0, 1) := by decide +kernel
theorem dX10_goesOn_90 : decode cX10_goesOn 90 = .ok (.iload_n 1, 1) := by decide +kernel
theorem dX10_goesOn_91 : decode cX10_goesOn 91 = .ok (.iconst 3, 1) := by decide +kernel
theorem dX10_goesOn_92 : decode cX10_goesOn 92 = .ok (.invokevirtual 45, 3) := by decide +kernel
theorem dX10_goesOn_95 : decode cX10_goesOn 95 = .ok (.bipush 10, 2) := by decide +kernel
theorem dX10_goesOn_97 : decode cX10_goesOn 97 = .ok (.if_icmp .le 10, 3) := by decide +kernel
theorem dX10_goesOn_100 : decode cX10_goesOn 100 = .ok (.iconst 2, 1) := by decide +kernel
theorem dX10_goesOn_101 : decode cX10_goesOn 101 = .ok (.iload 4, 2) := by decide +kernel
theorem dX10_goesOn_103 : decode cX10_goesOn 103 = .ok (.imul, 1) := by decide +kernel
theorem dX10_goesOn_104 : decode cX10_goesOn 104 = .ok (.goto 5, 3) := by decide +kernel
theorem dX10_goesOn_107 : decode cX10_goesOn 107 = .ok (.iload 4, 2) := by decide +kernel
theorem dX10_goesOn_109 : decode cX10_goesOn 109 = .ok (.ireturn, 1) := by decide +kernel
theorem dX10_goesOn_110 : decode cX10_goesOn 110 = .ok (.iload_n 2, 1) := by decide +kernel
theorem dX10_goesOn_111 : decode cX10_goesOn 111 = .ok (.ireturn, 1) := by decide +kernel
theorem dX10_tires_0 : decode cX10_tires 0 = .ok (.aload_n 0, 1) := by decide +kernel
theorem dX10_tires_1 : decode cX10_tires 1 = .ok (.iload_n 1, 1) := by decide +kernel
theorem dX10_tires_2 : decode cX10_tires 2 = .ok (.iconst 0, 1) := by decide +kernel
theorem dX10_tires_3 : decode cX10_tires 3 = .ok (.invokevirtual 45, 3) := by decide +kernel
theorem dX10_tires_6 : decode cX10_tires 6 = .ok (.tableswitch 38 1 5 #[34, 38, 36, 34, 36], 34) := by decide +kernel
theorem dX10_tires_40 : decode cX10_tires 40 = .ok (.iconst 2, 1) := by decide +kernel
theorem dX10_tires_41 : decode cX10_tires 41 = .ok (.ireturn, 1) := by decide +kernel
theorem dX10_tires_42 : decode cX10_tires 42 = .ok (.iconst 0, 1) := by decide +kernel
theorem dX10_tires_43 : decode cX10_tires 43 = .ok (.ireturn, 1) := by decide +kernel
theorem dX10_tires_44 : decode cX10_tires 44 = .ok (.iconst 1, 1) := by decide +kernel
theorem dX10_tires_45 : decode cX10_tires 45 = .ok (.ireturn, 1) := by decide +kernel
theorem dX10_bids_0 : decode cX10_bids 0 = .ok (.aload_n 0, 1) := by decide +kernel
theorem dX10_bids_1 : decode cX10_bids 1 = .ok (.iload_n 1, 1) := by decide +kernel
theorem dX10_bids_2 : decode cX10_bids 2 = .ok (.iconst 1, 1) := by decide +kernel
theorem dX10_bids_3 : decode cX10_bids 3 = .ok (.invokevirtual 45, 3) := by decide +kernel
theorem dX10_bids_6 : decode cX10_bids 6 = .ok (.bipush 70, 2) := by decide +kernel
theorem dX10_bids_8 : decode cX10_bids 8 = .ok (.if_icmp .le 9, 3) := by decide +kernel
theorem dX10_bids_11 : decode cX10_bids 11 = .ok (.iconst 3, 1) := by decide +kernel
theorem dX10_bids_12 : decode cX10_bids 12 = .ok (.iload_n 2, 1) := by decide +kernel
theorem dX10_bids_13 : decode cX10_bids 13 = .ok (.imul, 1) := by decide +kernel
theorem dX10_bids_14 : decode cX10_bids 14 = .ok (.goto 6, 3) := by decide +kernel
theorem dX10_bids_17 : decode cX10_bids 17 = .ok (.iconst 2, 1) := by decide +kernel
theorem dX10_bids_18 : decode cX10_bids 18 = .ok (.iload_n 2, 1) := by decide +kernel
theorem dX10_bids_19 : decode cX10_bids 19 = .ok (.imul, 1) := by decide +kernel
theorem dX10_bids_20 : decode cX10_bids 20 = .ok (.istore_n 3, 1) := by decide +kernel
theorem dX10_bids_21 : decode cX10_bids 21 = .ok (.aload_n 0, 1) := by decide +kernel
theorem dX10_bids_22 : decode cX10_bids 22 = .ok (.iload_n 1, 1) := by decide +kernel
theorem dX10_bids_23 : decode cX10_bids 23 = .ok (.iconst 0, 1) := by decide +kernel
theorem dX10_bids_24 : decode cX10_bids 24 = .ok (.invokevirtual 45, 3) := by decide +kernel
theorem dX10_bids_27 : decode cX10_bids 27 = .ok (.tableswitch 54 1 5 #[33, 35, 37, 42, 35], 33) := by decide +kernel
theorem dX10_bids_60 : decode cX10_bids 60 = .ok (.iload_n 2, 1) := by decide +kernel
theorem dX10_bids_61 : decode cX10_bids 61 = .ok (.ireturn, 1) := by decide +kernel
theorem dX10_bids_62 : decode cX10_bids 62 = .ok (.iload_n 3, 1) := by decide +kernel
theorem dX10_bids_63 : decode cX10_bids 63 = .ok (.ireturn, 1) := by decide +kernel
theorem dX10_bids_64 : decode cX10_bids 64 = .ok (.bipush 20, 2) := by decide +kernel
theorem dX10_bids_66 : decode cX10_bids 66 = .ok (.iload_n 2, 1) := by decide +kernel
theorem dX10_bids_67 : decode cX10_bids 67 = .ok (.isub, 1) := by decide +kernel
theorem dX10_bids_68 : decode cX10_bids 68 = .ok (.ireturn, 1) := by decide +kernel
theorem dX10_bids_69 : decode cX10_bids 69 = .ok (.iload_n 2, 1) := by decide +kernel
theorem dX10_bids_70 : decode cX10_bids 70 = .ok (.aload_n 0, 1) := by decide +kernel
theorem dX10_bids_71 : decode cX10_bids 71 = .ok (.iload_n 1, 1) := by decide +kernel
theorem dX10_bids_72 : decode cX10_bids 72 = .ok (.iconst 3, 1) := by decide +kernel
theorem dX10_bids_73 : decode cX10_bids 73 = .ok (.invokevirtual 45, 3) := by decide +kernel
theorem dX10_bids_76 : decode cX10_bids 76 = .ok (.bipush 10, 2) := by decide +kernel
theorem dX10_bids_78 : decode cX10_bids 78 = .ok (.idiv, 1) := by decide +kernel
theorem dX10_bids_79 : decode cX10_bids 79 = .ok (.iadd, 1) := by decide +kernel
theorem dX10_bids_80 : decode cX10_bids 80 = .ok (.ireturn, 1) := by decide +kernel
theorem dX10_bids_81 : decode cX10_bids 81 = .ok (.iconst 2, 1) := by decide +kernel
theorem dX10_bids_82 : decode cX10_bids 82 = .ok (.iload_n 2, 1) := by decide +kernel
theorem dX10_bids_83 : decode cX10_bids 83 = .ok (.imul, 1) := by decide +kernel
theorem dX10_bids_84 : decode cX10_bids 84 = .ok (.ireturn, 1) := by decide +kernel
theorem dX10_asked_0 : decode cX10_asked 0 = .ok (.aload_n 0, 1) := by decide +kernel
theorem dX10_asked_1 : decode cX10_asked 1 = .ok (.iload_n 1, 1) := by decide +kernel
theorem dX10_asked_2 : decode cX10_asked 2 = .ok (.iconst 0, 1) := by decide +kernel
theorem dX10_asked_3 : decode cX10_asked 3 = .ok (.invokevirtual 45, 3) := by decide +kernel
theorem dX10_asked_6 : decode cX10_asked 6 = .ok (.tableswitch 74 1 5 #[34, 74, 59, 34, 61], 34) := by decide +kernel
theorem dX10_asked_40 : decode cX10_asked 40 = .ok (.aload_n 0, 1) := by decide +kernel
theorem dX10_asked_41 : decode cX10_asked 41 = .ok (.iload_n 1, 1) := by decide +kernel
theorem dX10_asked_42 : decode cX10_asked 42 = .ok (.iconst 3, 1) := by decide +kernel
theorem dX10_asked_43 : decode cX10_asked 43 = .ok (.invokevirtual 45, 3) := by decide +kernel
theorem dX10_asked_46 : decode cX10_asked 46 = .ok (.bipush 7, 2) := by decide +kernel
theorem dX10_asked_48 : decode cX10_asked 48 = .ok (.if_icmp .ge 15, 3) := by decide +kernel
theorem dX10_asked_51 : decode cX10_asked 51 = .ok (.bipush 8, 2) := by decide +kernel
theorem dX10_asked_53 : decode cX10_asked 53 = .ok (.aload_n 0, 1) := by decide +kernel
theorem dX10_asked_54 : decode cX10_asked 54 = .ok (.iload_n 1, 1) := by decide +kernel
theorem dX10_asked_55 : decode cX10_asked 55 = .ok (.iconst 3, 1) := by decide +kernel
theorem dX10_asked_56 : decode cX10_asked 56 = .ok (.invokevirtual 45, 3) := by decide +kernel
theorem dX10_asked_59 : decode cX10_asked 59 = .ok (.isub, 1) := by decide +kernel
theorem dX10_asked_60 : decode cX10_asked 60 = .ok (.goto 4, 3) := by decide +kernel
theorem dX10_asked_63 : decode cX10_asked 63 = .ok (.iconst 1, 1) := by decide +kernel
theorem dX10_asked_64 : decode cX10_asked 64 = .ok (.ireturn, 1) := by decide +kernel
theorem dX10_asked_65 : decode cX10_asked 65 = .ok (.iconst 1, 1) := by decide +kernel
theorem dX10_asked_66 : decode cX10_asked 66 = .ok (.ireturn, 1) := by decide +kernel
theorem dX10_asked_67 : decode cX10_asked 67 = .ok (.bipush 8, 2) := by decide +kernel
theorem dX10_asked_69 : decode cX10_asked 69 = .ok (.aload_n 0, 1) := by decide +kernel
theorem dX10_asked_70 : decode cX10_asked 70 = .ok (.iload_n 1, 1) := by decide +kernel
theorem dX10_asked_71 : decode cX10_asked 71 = .ok (.iconst 1, 1) := by decide +kernel
theorem dX10_asked_72 : decode cX10_asked 72 = .ok (.invokevirtual 45, 3) := by decide +kernel
theorem dX10_asked_75 : decode cX10_asked 75 = .ok (.bipush 10, 2) := by decide +kernel
theorem dX10_asked_77 : decode cX10_asked 77 = .ok (.idiv, 1) := by decide +kernel
theorem dX10_asked_78 : decode cX10_asked 78 = .ok (.iadd, 1) := by decide +kernel
theorem dX10_asked_79 : decode cX10_asked 79 = .ok (.ireturn, 1) := by decide +kernel
theorem dX10_asked_80 : decode cX10_asked 80 = .ok (.bipush 8, 2) := by decide +kernel
theorem dX10_asked_82 : decode cX10_asked 82 = .ok (.ireturn, 1) := by decide +kernel
theorem dX10_comesAs_0 : decode cX10_comesAs 0 = .ok (.aload_n 0, 1) := by decide +kernel
theorem dX10_comesAs_1 : decode cX10_comesAs 1 = .ok (.getfield 9, 3) := by decide +kernel
theorem dX10_comesAs_4 : decode cX10_comesAs 4 = .ok (.iconst 1, 1) := by decide +kernel
theorem dX10_comesAs_5 : decode cX10_comesAs 5 = .ok (.iaload, 1) := by decide +kernel
theorem dX10_comesAs_6 : decode cX10_comesAs 6 = .ok (.istore 5, 2) := by decide +kernel
theorem dX10_comesAs_8 : decode cX10_comesAs 8 = .ok (.aload_n 0, 1) := by decide +kernel
theorem dX10_comesAs_9 : decode cX10_comesAs 9 = .ok (.getfield 9, 3) := by decide +kernel
theorem dX10_comesAs_12 : decode cX10_comesAs 12 = .ok (.iconst 1, 1) := by decide +kernel
theorem dX10_comesAs_13 : decode cX10_comesAs 13 = .ok (.dup2, 1) := by decide +kernel
theorem dX10_comesAs_14 : decode cX10_comesAs 14 = .ok (.iaload, 1) := by decide +kernel
theorem dX10_comesAs_15 : decode cX10_comesAs 15 = .ok (.iconst 1, 1) := by decide +kernel
theorem dX10_comesAs_16 : decode cX10_comesAs 16 = .ok (.iadd, 1) := by decide +kernel
theorem dX10_comesAs_17 : decode cX10_comesAs 17 = .ok (.iastore, 1) := by decide +kernel
theorem dX10_comesAs_18 : decode cX10_comesAs 18 = .ok (.aload_n 0, 1) := by decide +kernel
theorem dX10_comesAs_19 : decode cX10_comesAs 19 = .ok (.iload 5, 2) := by decide +kernel
theorem dX10_comesAs_21 : decode cX10_comesAs 21 = .ok (.iconst 0, 1) := by decide +kernel
theorem dX10_comesAs_22 : decode cX10_comesAs 22 = .ok (.iload_n 1, 1) := by decide +kernel
theorem dX10_comesAs_23 : decode cX10_comesAs 23 = .ok (.invokevirtual 72, 3) := by decide +kernel
theorem dX10_comesAs_26 : decode cX10_comesAs 26 = .ok (.aload_n 0, 1) := by decide +kernel
theorem dX10_comesAs_27 : decode cX10_comesAs 27 = .ok (.iload 5, 2) := by decide +kernel
theorem dX10_comesAs_29 : decode cX10_comesAs 29 = .ok (.iconst 1, 1) := by decide +kernel
theorem dX10_comesAs_30 : decode cX10_comesAs 30 = .ok (.iload_n 2, 1) := by decide +kernel
theorem dX10_comesAs_31 : decode cX10_comesAs 31 = .ok (.invokevirtual 72, 3) := by decide +kernel
theorem dX10_comesAs_34 : decode cX10_comesAs 34 = .ok (.aload_n 0, 1) := by decide +kernel
theorem dX10_comesAs_35 : decode cX10_comesAs 35 = .ok (.iload 5, 2) := by decide +kernel
theorem dX10_comesAs_37 : decode cX10_comesAs 37 = .ok (.iconst 2, 1) := by decide +kernel
theorem dX10_comesAs_38 : decode cX10_comesAs 38 = .ok (.iload_n 3, 1) := by decide +kernel
theorem dX10_comesAs_39 : decode cX10_comesAs 39 = .ok (.invokevirtual 72, 3) := by decide +kernel
theorem dX10_comesAs_42 : decode cX10_comesAs 42 = .ok (.aload_n 0, 1) := by decide +kernel
theorem dX10_comesAs_43 : decode cX10_comesAs 43 = .ok (.iload 5, 2) := by decide +kernel
theorem dX10_comesAs_45 : decode cX10_comesAs 45 = .ok (.iconst 3, 1) := by decide +kernel
theorem dX10_comesAs_46 : decode cX10_comesAs 46 = .ok (.iload 4, 2) := by decide +kernel
theorem dX10_comesAs_48 : decode cX10_comesAs 48 = .ok (.invokevirtual 72, 3) := by decide +kernel
theorem dX10_comesAs_51 : decode cX10_comesAs 51 = .ok (.iload 5, 2) := by decide +kernel
theorem dX10_comesAs_53 : decode cX10_comesAs 53 = .ok (.ireturn, 1) := by decide +kernel
theorem dX10_thing_0 : decode cX10_thing 0 = .ok (.iload_n 1, 1) := by decide +kernel
theorem dX10_thing_1 : decode cX10_thing 1 = .ok (.i2l, 1) := by decide +kernel
theorem dX10_thing_2 : decode cX10_thing 2 = .ok (.iconst 0, 1) := by decide +kernel
theorem dX10_thing_3 : decode cX10_thing 3 = .ok (.iconst 5, 1) := by decide +kernel
theorem dX10_thing_4 : decode cX10_thing 4 = .ok (.invokestatic 41, 3) := by decide +kernel
theorem dX10_thing_7 : decode cX10_thing 7 = .ok (.ifCond .eq 14, 3) := by decide +kernel
theorem dX10_thing_10 : decode cX10_thing 10 = .ok (.iload_n 2, 1) := by decide +kernel
theorem dX10_thing_11 : decode cX10_thing 11 = .ok (.i2l, 1) := by decide +kernel
theorem dX10_thing_12 : decode cX10_thing 12 = .ok (.iconst 0, 1) := by decide +kernel
theorem dX10_thing_13 : decode cX10_thing 13 = .ok (.bipush 99, 2) := by decide +kernel
theorem dX10_thing_15 : decode cX10_thing 15 = .ok (.invokestatic 41, 3) := by decide +kernel
theorem dX10_thing_18 : decode cX10_thing 18 = .ok (.ifCond .ne 10, 3) := by decide +kernel
theorem dX10_thing_21 : decode cX10_thing 21 = .ok (.aload_n 0, 1) := by decide +kernel
theorem dX10_thing_22 : decode cX10_thing 22 = .ok (.ldc 35, 2) := by decide +kernel
theorem dX10_thing_24 : decode cX10_thing 24 = .ok (.invokevirtual 37, 3) := by decide +kernel
theorem dX10_thing_27 : decode cX10_thing 27 = .ok (.ireturn, 1) := by decide +kernel
theorem dX10_thing_28 : decode cX10_thing 28 = .ok (.aload_n 0, 1) := by decide +kernel
theorem dX10_thing_29 : decode cX10_thing 29 = .ok (.getfield 9, 3) := by decide +kernel
theorem dX10_thing_32 : decode cX10_thing 32 = .ok (.iconst 1, 1) := by decide +kernel
theorem dX10_thing_33 : decode cX10_thing 33 = .ok (.iaload, 1) := by decide +kernel
theorem dX10_thing_34 : decode cX10_thing 34 = .ok (.bipush 8, 2) := by decide +kernel
theorem dX10_thing_36 : decode cX10_thing 36 = .ok (.if_icmp .ne 12, 3) := by decide +kernel
theorem dX10_thing_39 : decode cX10_thing 39 = .ok (.aload_n 0, 1) := by decide +kernel
theorem dX10_thing_40 : decode cX10_thing 40 = .ok (.ldc 76, 2) := by decide +kernel
theorem dX10_thing_42 : decode cX10_thing 42 = .ok (.invokevirtual 37, 3) := by decide +kernel
theorem dX10_thing_45 : decode cX10_thing 45 = .ok (.goto 11, 3) := by decide +kernel
theorem dX10_thing_48 : decode cX10_thing 48 = .ok (.aload_n 0, 1) := by decide +kernel
theorem dX10_thing_49 : decode cX10_thing 49 = .ok (.iload_n 1, 1) := by decide +kernel
theorem dX10_thing_50 : decode cX10_thing 50 = .ok (.iload_n 2, 1) := by decide +kernel
theorem dX10_thing_51 : decode cX10_thing 51 = .ok (.iconst (-1), 1) := by decide +kernel
theorem dX10_thing_52 : decode cX10_thing 52 = .ok (.iconst 0, 1) := by decide +kernel
theorem dX10_thing_53 : decode cX10_thing 53 = .ok (.invokevirtual 77, 3) := by decide +kernel
theorem dX10_thing_56 : decode cX10_thing 56 = .ok (.ireturn, 1) := by decide +kernel
