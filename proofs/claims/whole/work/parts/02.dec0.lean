theorem dX0_init_0 : decode cX0_init 0 = .ok (.aload_n 0, 1) := by decide +kernel
theorem dX0_init_1 : decode cX0_init 1 = .ok (.aload_n 1, 1) := by decide +kernel
theorem dX0_init_2 : decode cX0_init 2 = .ok (.invokespecial 1, 3) := by decide +kernel
theorem dX0_init_5 : decode cX0_init 5 = .ok (.return_, 1) := by decide +kernel
theorem dX0_goesOn_0 : decode cX0_goesOn 0 = .ok (.aload_n 0, 1) := by decide +kernel
theorem dX0_goesOn_1 : decode cX0_goesOn 1 = .ok (.iload_n 1, 1) := by decide +kernel
theorem dX0_goesOn_2 : decode cX0_goesOn 2 = .ok (.iload_n 2, 1) := by decide +kernel
theorem dX0_goesOn_3 : decode cX0_goesOn 3 = .ok (.iload_n 3, 1) := by decide +kernel
theorem dX0_goesOn_4 : decode cX0_goesOn 4 = .ok (.invokespecial 7, 3) := by decide +kernel
theorem dX0_goesOn_7 : decode cX0_goesOn 7 = .ok (.iconst 2, 1) := by decide +kernel
theorem dX0_goesOn_8 : decode cX0_goesOn 8 = .ok (.idiv, 1) := by decide +kernel
theorem dX0_goesOn_9 : decode cX0_goesOn 9 = .ok (.ireturn, 1) := by decide +kernel
theorem dX0_tires_0 : decode cX0_tires 0 = .ok (.aload_n 0, 1) := by decide +kernel
theorem dX0_tires_1 : decode cX0_tires 1 = .ok (.invokespecial 11, 3) := by decide +kernel
theorem dX0_tires_4 : decode cX0_tires 4 = .ok (.iconst 1, 1) := by decide +kernel
theorem dX0_tires_5 : decode cX0_tires 5 = .ok (.iadd, 1) := by decide +kernel
theorem dX0_tires_6 : decode cX0_tires 6 = .ok (.ireturn, 1) := by decide +kernel
theorem dX0_bid_0 : decode cX0_bid 0 = .ok (.iload_n 1, 1) := by decide +kernel
theorem dX0_bid_1 : decode cX0_bid 1 = .ok (.ireturn, 1) := by decide +kernel
theorem dX0_asked_0 : decode cX0_asked 0 = .ok (.iconst 1, 1) := by decide +kernel
theorem dX0_asked_1 : decode cX0_asked 1 = .ok (.aload_n 0, 1) := by decide +kernel
theorem dX0_asked_2 : decode cX0_asked 2 = .ok (.iload_n 1, 1) := by decide +kernel
theorem dX0_asked_3 : decode cX0_asked 3 = .ok (.iload_n 2, 1) := by decide +kernel
theorem dX0_asked_4 : decode cX0_asked 4 = .ok (.invokespecial 15, 3) := by decide +kernel
theorem dX0_asked_7 : decode cX0_asked 7 = .ok (.iload_n 2, 1) := by decide +kernel
theorem dX0_asked_8 : decode cX0_asked 8 = .ok (.isub, 1) := by decide +kernel
theorem dX0_asked_9 : decode cX0_asked 9 = .ok (.invokestatic 19, 3) := by decide +kernel
theorem dX0_asked_12 : decode cX0_asked 12 = .ok (.ireturn, 1) := by decide +kernel
theorem dX1_init_0 : decode cX1_init 0 = .ok (.aload_n 0, 1) := by decide +kernel
theorem dX1_init_1 : decode cX1_init 1 = .ok (.aload_n 1, 1) := by decide +kernel
theorem dX1_init_2 : decode cX1_init 2 = .ok (.invokespecial 1, 3) := by decide +kernel
theorem dX1_init_5 : decode cX1_init 5 = .ok (.return_, 1) := by decide +kernel
theorem dX1_goesOn_0 : decode cX1_goesOn 0 = .ok (.aload_n 0, 1) := by decide +kernel
theorem dX1_goesOn_1 : decode cX1_goesOn 1 = .ok (.iload_n 1, 1) := by decide +kernel
theorem dX1_goesOn_2 : decode cX1_goesOn 2 = .ok (.iload_n 2, 1) := by decide +kernel
theorem dX1_goesOn_3 : decode cX1_goesOn 3 = .ok (.iload_n 3, 1) := by decide +kernel
theorem dX1_goesOn_4 : decode cX1_goesOn 4 = .ok (.invokespecial 7, 3) := by decide +kernel
theorem dX1_goesOn_7 : decode cX1_goesOn 7 = .ok (.iconst 2, 1) := by decide +kernel
theorem dX1_goesOn_8 : decode cX1_goesOn 8 = .ok (.iadd, 1) := by decide +kernel
theorem dX1_goesOn_9 : decode cX1_goesOn 9 = .ok (.ireturn, 1) := by decide +kernel
theorem dX1_bid_0 : decode cX1_bid 0 = .ok (.aload_n 0, 1) := by decide +kernel
theorem dX1_bid_1 : decode cX1_bid 1 = .ok (.iload_n 1, 1) := by decide +kernel
theorem dX1_bid_2 : decode cX1_bid 2 = .ok (.iload_n 2, 1) := by decide +kernel
theorem dX1_bid_3 : decode cX1_bid 3 = .ok (.iload_n 3, 1) := by decide +kernel
theorem dX1_bid_4 : decode cX1_bid 4 = .ok (.invokespecial 11, 3) := by decide +kernel
theorem dX1_bid_7 : decode cX1_bid 7 = .ok (.iload_n 3, 1) := by decide +kernel
theorem dX1_bid_8 : decode cX1_bid 8 = .ok (.bipush 10, 2) := by decide +kernel
theorem dX1_bid_10 : decode cX1_bid 10 = .ok (.idiv, 1) := by decide +kernel
theorem dX1_bid_11 : decode cX1_bid 11 = .ok (.iadd, 1) := by decide +kernel
theorem dX1_bid_12 : decode cX1_bid 12 = .ok (.ireturn, 1) := by decide +kernel
theorem dX2_init_0 : decode cX2_init 0 = .ok (.aload_n 0, 1) := by decide +kernel
theorem dX2_init_1 : decode cX2_init 1 = .ok (.invokespecial 3, 3) := by decide +kernel
theorem dX2_init_4 : decode cX2_init 4 = .ok (.aload_n 0, 1) := by decide +kernel
theorem dX2_init_5 : decode cX2_init 5 = .ok (.bipush 6, 2) := by decide +kernel
theorem dX2_init_7 : decode cX2_init 7 = .ok (.newarray .int, 2) := by decide +kernel
theorem dX2_init_9 : decode cX2_init 9 = .ok (.putfield 9, 3) := by decide +kernel
theorem dX2_init_12 : decode cX2_init 12 = .ok (.aload_n 0, 1) := by decide +kernel
theorem dX2_init_13 : decode cX2_init 13 = .ok (.bipush 6, 2) := by decide +kernel
theorem dX2_init_15 : decode cX2_init 15 = .ok (.newarray .int, 2) := by decide +kernel
theorem dX2_init_17 : decode cX2_init 17 = .ok (.putfield 15, 3) := by decide +kernel
theorem dX2_init_20 : decode cX2_init 20 = .ok (.aload_n 0, 1) := by decide +kernel
theorem dX2_init_21 : decode cX2_init 21 = .ok (.bipush 6, 2) := by decide +kernel
theorem dX2_init_23 : decode cX2_init 23 = .ok (.newarray .int, 2) := by decide +kernel
theorem dX2_init_25 : decode cX2_init 25 = .ok (.putfield 18, 3) := by decide +kernel
theorem dX2_init_28 : decode cX2_init 28 = .ok (.aload_n 0, 1) := by decide +kernel
theorem dX2_init_29 : decode cX2_init 29 = .ok (.bipush 8, 2) := by decide +kernel
theorem dX2_init_31 : decode cX2_init 31 = .ok (.newarray .int, 2) := by decide +kernel
theorem dX2_init_33 : decode cX2_init 33 = .ok (.putfield 21, 3) := by decide +kernel
theorem dX2_init_36 : decode cX2_init 36 = .ok (.aload_n 0, 1) := by decide +kernel
theorem dX2_init_37 : decode cX2_init 37 = .ok (.bipush 8, 2) := by decide +kernel
theorem dX2_init_39 : decode cX2_init 39 = .ok (.newarray .int, 2) := by decide +kernel
theorem dX2_init_41 : decode cX2_init 41 = .ok (.putfield 24, 3) := by decide +kernel
theorem dX2_init_44 : decode cX2_init 44 = .ok (.aload_n 0, 1) := by decide +kernel
theorem dX2_init_45 : decode cX2_init 45 = .ok (.bipush 8, 2) := by decide +kernel
theorem dX2_init_47 : decode cX2_init 47 = .ok (.newarray .int, 2) := by decide +kernel
theorem dX2_init_49 : decode cX2_init 49 = .ok (.putfield 27, 3) := by decide +kernel
theorem dX2_init_52 : decode cX2_init 52 = .ok (.aload_n 0, 1) := by decide +kernel
theorem dX2_init_53 : decode cX2_init 53 = .ok (.bipush 8, 2) := by decide +kernel
theorem dX2_init_55 : decode cX2_init 55 = .ok (.newarray .int, 2) := by decide +kernel
theorem dX2_init_57 : decode cX2_init 57 = .ok (.putfield 30, 3) := by decide +kernel
theorem dX2_init_60 : decode cX2_init 60 = .ok (.aload_n 0, 1) := by decide +kernel
theorem dX2_init_61 : decode cX2_init 61 = .ok (.bipush 6, 2) := by decide +kernel
theorem dX2_init_63 : decode cX2_init 63 = .ok (.newarray .int, 2) := by decide +kernel
theorem dX2_init_65 : decode cX2_init 65 = .ok (.putfield 33, 3) := by decide +kernel
theorem dX2_init_68 : decode cX2_init 68 = .ok (.aload_n 0, 1) := by decide +kernel
theorem dX2_init_69 : decode cX2_init 69 = .ok (.aload_n 1, 1) := by decide +kernel
theorem dX2_init_70 : decode cX2_init 70 = .ok (.putfield 36, 3) := by decide +kernel
theorem dX2_init_73 : decode cX2_init 73 = .ok (.aload_n 0, 1) := by decide +kernel
theorem dX2_init_74 : decode cX2_init 74 = .ok (.getfield 9, 3) := by decide +kernel
theorem dX2_init_77 : decode cX2_init 77 = .ok (.iconst 5, 1) := by decide +kernel
theorem dX2_init_78 : decode cX2_init 78 = .ok (.invokestatic 40, 3) := by decide +kernel
theorem dX2_init_81 : decode cX2_init 81 = .ok (.aload_n 0, 1) := by decide +kernel
theorem dX2_init_82 : decode cX2_init 82 = .ok (.getfield 15, 3) := by decide +kernel
theorem dX2_init_85 : decode cX2_init 85 = .ok (.iconst 4, 1) := by decide +kernel
theorem dX2_init_86 : decode cX2_init 86 = .ok (.invokestatic 40, 3) := by decide +kernel
theorem dX2_init_89 : decode cX2_init 89 = .ok (.return_, 1) := by decide +kernel
theorem dX2_become_0 : decode cX2_become 0 = .ok (.aload_n 1, 1) := by decide +kernel
theorem dX2_become_1 : decode cX2_become 1 = .ok (.getfield 9, 3) := by decide +kernel
theorem dX2_become_4 : decode cX2_become 4 = .ok (.iconst 0, 1) := by decide +kernel
theorem dX2_become_5 : decode cX2_become 5 = .ok (.aload_n 0, 1) := by decide +kernel
theorem dX2_become_6 : decode cX2_become 6 = .ok (.getfield 9, 3) := by decide +kernel
theorem dX2_become_9 : decode cX2_become 9 = .ok (.iconst 0, 1) := by decide +kernel
theorem dX2_become_10 : decode cX2_become 10 = .ok (.bipush 6, 2) := by decide +kernel
theorem dX2_become_12 : decode cX2_become 12 = .ok (.invokestatic 46, 3) := by decide +kernel
theorem dX2_become_15 : decode cX2_become 15 = .ok (.aload_n 1, 1) := by decide +kernel
theorem dX2_become_16 : decode cX2_become 16 = .ok (.getfield 15, 3) := by decide +kernel
theorem dX2_become_19 : decode cX2_become 19 = .ok (.iconst 0, 1) := by decide +kernel
theorem dX2_become_20 : decode cX2_become 20 = .ok (.aload_n 0, 1) := by decide +kernel
theorem dX2_become_21 : decode cX2_become 21 = .ok (.getfield 15, 3) := by decide +kernel
theorem dX2_become_24 : decode cX2_become 24 = .ok (.iconst 0, 1) := by decide +kernel
theorem dX2_become_25 : decode cX2_become 25 = .ok (.bipush 6, 2) := by decide +kernel
theorem dX2_become_27 : decode cX2_become 27 = .ok (.invokestatic 46, 3) := by decide +kernel
theorem dX2_become_30 : decode cX2_become 30 = .ok (.aload_n 1, 1) := by decide +kernel
theorem dX2_become_31 : decode cX2_become 31 = .ok (.getfield 18, 3) := by decide +kernel
theorem dX2_become_34 : decode cX2_become 34 = .ok (.iconst 0, 1) := by decide +kernel
theorem dX2_become_35 : decode cX2_become 35 = .ok (.aload_n 0, 1) := by decide +kernel
theorem dX2_become_36 : decode cX2_become 36 = .ok (.getfield 18, 3) := by decide +kernel
theorem dX2_become_39 : decode cX2_become 39 = .ok (.iconst 0, 1) := by decide +kernel
theorem dX2_become_40 : decode cX2_become 40 = .ok (.bipush 6, 2) := by decide +kernel
theorem dX2_become_42 : decode cX2_become 42 = .ok (.invokestatic 46, 3) := by decide +kernel
theorem dX2_become_45 : decode cX2_become 45 = .ok (.aload_n 1, 1) := by decide +kernel
theorem dX2_become_46 : decode cX2_become 46 = .ok (.getfield 21, 3) := by decide +kernel
theorem dX2_become_49 : decode cX2_become 49 = .ok (.iconst 0, 1) := by decide +kernel
theorem dX2_become_50 : decode cX2_become 50 = .ok (.aload_n 0, 1) := by decide +kernel
theorem dX2_become_51 : decode cX2_become 51 = .ok (.getfield 21, 3) := by decide +kernel
theorem dX2_become_54 : decode cX2_become 54 = .ok (.iconst 0, 1) := by decide +kernel
theorem dX2_become_55 : decode cX2_become 55 = .ok (.bipush 8, 2) := by decide +kernel
theorem dX2_become_57 : decode cX2_become 57 = .ok (.invokestatic 46, 3) := by decide +kernel
theorem dX2_become_60 : decode cX2_become 60 = .ok (.aload_n 1, 1) := by decide +kernel
theorem dX2_become_61 : decode cX2_become 61 = .ok (.getfield 24, 3) := by decide +kernel
theorem dX2_become_64 : decode cX2_become 64 = .ok (.iconst 0, 1) := by decide +kernel
theorem dX2_become_65 : decode cX2_become 65 = .ok (.aload_n 0, 1) := by decide +kernel
theorem dX2_become_66 : decode cX2_become 66 = .ok (.getfield 24, 3) := by decide +kernel
theorem dX2_become_69 : decode cX2_become 69 = .ok (.iconst 0, 1) := by decide +kernel
theorem dX2_become_70 : decode cX2_become 70 = .ok (.bipush 8, 2) := by decide +kernel
theorem dX2_become_72 : decode cX2_become 72 = .ok (.invokestatic 46, 3) := by decide +kernel
theorem dX2_become_75 : decode cX2_become 75 = .ok (.aload_n 1, 1) := by decide +kernel
theorem dX2_become_76 : decode cX2_become 76 = .ok (.getfield 27, 3) := by decide +kernel
theorem dX2_become_79 : decode cX2_become 79 = .ok (.iconst 0, 1) := by decide +kernel
theorem dX2_become_80 : decode cX2_become 80 = .ok (.aload_n 0, 1) := by decide +kernel
theorem dX2_become_81 : decode cX2_become 81 = .ok (.getfield 27, 3) := by decide +kernel
theorem dX2_become_84 : decode cX2_become 84 = .ok (.iconst 0, 1) := by decide +kernel
theorem dX2_become_85 : decode cX2_become 85 = .ok (.bipush 8, 2) := by decide +kernel
theorem dX2_become_87 : decode cX2_become 87 = .ok (.invokestatic 46, 3) := by decide +kernel
theorem dX2_become_90 : decode cX2_become 90 = .ok (.aload_n 1, 1) := by decide +kernel
theorem dX2_become_91 : decode cX2_become 91 = .ok (.getfield 30, 3) := by decide +kernel
theorem dX2_become_94 : decode cX2_become 94 = .ok (.iconst 0, 1) := by decide +kernel
theorem dX2_become_95 : decode cX2_become 95 = .ok (.aload_n 0, 1) := by decide +kernel
theorem dX2_become_96 : decode cX2_become 96 = .ok (.getfield 30, 3) := by decide +kernel
theorem dX2_become_99 : decode cX2_become 99 = .ok (.iconst 0, 1) := by decide +kernel
theorem dX2_become_100 : decode cX2_become 100 = .ok (.bipush 8, 2) := by decide +kernel
theorem dX2_become_102 : decode cX2_become 102 = .ok (.invokestatic 46, 3) := by decide +kernel
theorem dX2_become_105 : decode cX2_become 105 = .ok (.aload_n 0, 1) := by decide +kernel
theorem dX2_become_106 : decode cX2_become 106 = .ok (.aload_n 1, 1) := by decide +kernel
theorem dX2_become_107 : decode cX2_become 107 = .ok (.getfield 52, 3) := by decide +kernel
theorem dX2_become_110 : decode cX2_become 110 = .ok (.putfield 52, 3) := by decide +kernel
theorem dX2_become_113 : decode cX2_become 113 = .ok (.aload_n 0, 1) := by decide +kernel
theorem dX2_become_114 : decode cX2_become 114 = .ok (.aload_n 1, 1) := by decide +kernel
theorem dX2_become_115 : decode cX2_become 115 = .ok (.getfield 56, 3) := by decide +kernel
theorem dX2_become_118 : decode cX2_become 118 = .ok (.putfield 56, 3) := by decide +kernel
theorem dX2_become_121 : decode cX2_become 121 = .ok (.return_, 1) := by decide +kernel
theorem dX2_isFull_0 : decode cX2_isFull 0 = .ok (.aload_n 0, 1) := by decide +kernel
theorem dX2_isFull_1 : decode cX2_isFull 1 = .ok (.getfield 56, 3) := by decide +kernel
theorem dX2_isFull_4 : decode cX2_isFull 4 = .ok (.bipush 8, 2) := by decide +kernel
theorem dX2_isFull_6 : decode cX2_isFull 6 = .ok (.if_icmp .lt 7, 3) := by decide +kernel
theorem dX2_isFull_9 : decode cX2_isFull 9 = .ok (.iconst 1, 1) := by decide +kernel
theorem dX2_isFull_10 : decode cX2_isFull 10 = .ok (.goto 4, 3) := by decide +kernel
theorem dX2_isFull_13 : decode cX2_isFull 13 = .ok (.iconst 0, 1) := by decide +kernel
theorem dX2_isFull_14 : decode cX2_isFull 14 = .ok (.ireturn, 1) := by decide +kernel
theorem dX2_add_0 : decode cX2_add 0 = .ok (.aload_n 0, 1) := by decide +kernel
theorem dX2_add_1 : decode cX2_add 1 = .ok (.invokevirtual 59, 3) := by decide +kernel
theorem dX2_add_4 : decode cX2_add 4 = .ok (.ifCond .eq 4, 3) := by decide +kernel
theorem dX2_add_7 : decode cX2_add 7 = .ok (.return_, 1) := by decide +kernel
theorem dX2_add_8 : decode cX2_add 8 = .ok (.aload_n 0, 1) := by decide +kernel
theorem dX2_add_9 : decode cX2_add 9 = .ok (.getfield 21, 3) := by decide +kernel
theorem dX2_add_12 : decode cX2_add 12 = .ok (.aload_n 0, 1) := by decide +kernel
theorem dX2_add_13 : decode cX2_add 13 = .ok (.getfield 56, 3) := by decide +kernel
theorem dX2_add_16 : decode cX2_add 16 = .ok (.iload_n 1, 1) := by decide +kernel
theorem dX2_add_17 : decode cX2_add 17 = .ok (.iastore, 1) := by decide +kernel
theorem dX2_add_18 : decode cX2_add 18 = .ok (.aload_n 0, 1) := by decide +kernel
theorem dX2_add_19 : decode cX2_add 19 = .ok (.getfield 24, 3) := by decide +kernel
theorem dX2_add_22 : decode cX2_add 22 = .ok (.aload_n 0, 1) := by decide +kernel
theorem dX2_add_23 : decode cX2_add 23 = .ok (.getfield 56, 3) := by decide +kernel
theorem dX2_add_26 : decode cX2_add 26 = .ok (.iload_n 2, 1) := by decide +kernel
theorem dX2_add_27 : decode cX2_add 27 = .ok (.iastore, 1) := by decide +kernel
theorem dX2_add_28 : decode cX2_add 28 = .ok (.aload_n 0, 1) := by decide +kernel
theorem dX2_add_29 : decode cX2_add 29 = .ok (.getfield 27, 3) := by decide +kernel
theorem dX2_add_32 : decode cX2_add 32 = .ok (.aload_n 0, 1) := by decide +kernel
theorem dX2_add_33 : decode cX2_add 33 = .ok (.getfield 56, 3) := by decide +kernel
theorem dX2_add_36 : decode cX2_add 36 = .ok (.iload_n 3, 1) := by decide +kernel
theorem dX2_add_37 : decode cX2_add 37 = .ok (.iastore, 1) := by decide +kernel
theorem dX2_add_38 : decode cX2_add 38 = .ok (.aload_n 0, 1) := by decide +kernel
theorem dX2_add_39 : decode cX2_add 39 = .ok (.getfield 30, 3) := by decide +kernel
theorem dX2_add_42 : decode cX2_add 42 = .ok (.aload_n 0, 1) := by decide +kernel
theorem dX2_add_43 : decode cX2_add 43 = .ok (.getfield 56, 3) := by decide +kernel
theorem dX2_add_46 : decode cX2_add 46 = .ok (.iload 4, 2) := by decide +kernel
theorem dX2_add_48 : decode cX2_add 48 = .ok (.iastore, 1) := by decide +kernel
theorem dX2_add_49 : decode cX2_add 49 = .ok (.aload_n 0, 1) := by decide +kernel
theorem dX2_add_50 : decode cX2_add 50 = .ok (.dup, 1) := by decide +kernel
theorem dX2_add_51 : decode cX2_add 51 = .ok (.getfield 56, 3) := by decide +kernel
theorem dX2_add_54 : decode cX2_add 54 = .ok (.iconst 1, 1) := by decide +kernel
theorem dX2_add_55 : decode cX2_add 55 = .ok (.iadd, 1) := by decide +kernel
theorem dX2_add_56 : decode cX2_add 56 = .ok (.putfield 56, 3) := by decide +kernel
theorem dX2_add_59 : decode cX2_add 59 = .ok (.return_, 1) := by decide +kernel
theorem dX2_natureOf_0 : decode cX2_natureOf 0 = .ok (.aload_n 0, 1) := by decide +kernel
theorem dX2_natureOf_1 : decode cX2_natureOf 1 = .ok (.getfield 36, 3) := by decide +kernel
theorem dX2_natureOf_4 : decode cX2_natureOf 4 = .ok (.aload_n 0, 1) := by decide +kernel
theorem dX2_natureOf_5 : decode cX2_natureOf 5 = .ok (.getfield 21, 3) := by decide +kernel
theorem dX2_natureOf_8 : decode cX2_natureOf 8 = .ok (.iload_n 1, 1) := by decide +kernel
theorem dX2_natureOf_9 : decode cX2_natureOf 9 = .ok (.iaload, 1) := by decide +kernel
theorem dX2_natureOf_10 : decode cX2_natureOf 10 = .ok (.aaload, 1) := by decide +kernel
theorem dX2_natureOf_11 : decode cX2_natureOf 11 = .ok (.areturn, 1) := by decide +kernel
theorem dX2_isFinished_0 : decode cX2_isFinished 0 = .ok (.aload_n 0, 1) := by decide +kernel
theorem dX2_isFinished_1 : decode cX2_isFinished 1 = .ok (.getfield 24, 3) := by decide +kernel
theorem dX2_isFinished_4 : decode cX2_isFinished 4 = .ok (.iload_n 1, 1) := by decide +kernel
theorem dX2_isFinished_5 : decode cX2_isFinished 5 = .ok (.iaload, 1) := by decide +kernel
theorem dX2_isFinished_6 : decode cX2_isFinished 6 = .ok (.bipush 100, 2) := by decide +kernel
theorem dX2_isFinished_8 : decode cX2_isFinished 8 = .ok (.if_icmp .lt 7, 3) := by decide +kernel
theorem dX2_isFinished_11 : decode cX2_isFinished 11 = .ok (.iconst 1, 1) := by decide +kernel
theorem dX2_isFinished_12 : decode cX2_isFinished 12 = .ok (.goto 4, 3) := by decide +kernel
theorem dX2_isFinished_15 : decode cX2_isFinished 15 = .ok (.iconst 0, 1) := by decide +kernel
theorem dX2_isFinished_16 : decode cX2_isFinished 16 = .ok (.ireturn, 1) := by decide +kernel
theorem dX2_canBeLeft_0 : decode cX2_canBeLeft 0 = .ok (.aload_n 0, 1) := by decide +kernel
theorem dX2_canBeLeft_1 : decode cX2_canBeLeft 1 = .ok (.getfield 27, 3) := by decide +kernel
theorem dX2_canBeLeft_4 : decode cX2_canBeLeft 4 = .ok (.iload_n 1, 1) := by decide +kernel
theorem dX2_canBeLeft_5 : decode cX2_canBeLeft 5 = .ok (.iaload, 1) := by decide +kernel
theorem dX2_canBeLeft_6 : decode cX2_canBeLeft 6 = .ok (.iconst (-1), 1) := by decide +kernel
theorem dX2_canBeLeft_7 : decode cX2_canBeLeft 7 = .ok (.if_icmp .eq 15, 3) := by decide +kernel
theorem dX2_canBeLeft_10 : decode cX2_canBeLeft 10 = .ok (.aload_n 0, 1) := by decide +kernel
theorem dX2_canBeLeft_11 : decode cX2_canBeLeft 11 = .ok (.iload_n 1, 1) := by decide +kernel
theorem dX2_canBeLeft_12 : decode cX2_canBeLeft 12 = .ok (.invokevirtual 63, 3) := by decide +kernel
theorem dX2_canBeLeft_15 : decode cX2_canBeLeft 15 = .ok (.ifCond .ne 7, 3) := by decide +kernel
theorem dX2_canBeLeft_18 : decode cX2_canBeLeft 18 = .ok (.iconst 1, 1) := by decide +kernel
theorem dX2_canBeLeft_19 : decode cX2_canBeLeft 19 = .ok (.goto 4, 3) := by decide +kernel
theorem dX2_canBeLeft_22 : decode cX2_canBeLeft 22 = .ok (.iconst 0, 1) := by decide +kernel
theorem dX2_canBeLeft_23 : decode cX2_canBeLeft 23 = .ok (.ireturn, 1) := by decide +kernel
theorem dX2_isForTheFair_0 : decode cX2_isForTheFair 0 = .ok (.aload_n 0, 1) := by decide +kernel
theorem dX2_isForTheFair_1 : decode cX2_isForTheFair 1 = .ok (.getfield 27, 3) := by decide +kernel
theorem dX2_isForTheFair_4 : decode cX2_isForTheFair 4 = .ok (.iload_n 1, 1) := by decide +kernel
theorem dX2_isForTheFair_5 : decode cX2_isForTheFair 5 = .ok (.iaload, 1) := by decide +kernel
theorem dX2_isForTheFair_6 : decode cX2_isForTheFair 6 = .ok (.iconst (-1), 1) := by decide +kernel
theorem dX2_isForTheFair_7 : decode cX2_isForTheFair 7 = .ok (.if_icmp .ne 15, 3) := by decide +kernel
theorem dX2_isForTheFair_10 : decode cX2_isForTheFair 10 = .ok (.aload_n 0, 1) := by decide +kernel
theorem dX2_isForTheFair_11 : decode cX2_isForTheFair 11 = .ok (.iload_n 1, 1) := by decide +kernel
theorem dX2_isForTheFair_12 : decode cX2_isForTheFair 12 = .ok (.invokevirtual 63, 3) := by decide +kernel
theorem dX2_isForTheFair_15 : decode cX2_isForTheFair 15 = .ok (.ifCond .ne 7, 3) := by decide +kernel
theorem dX2_isForTheFair_18 : decode cX2_isForTheFair 18 = .ok (.iconst 1, 1) := by decide +kernel
theorem dX2_isForTheFair_19 : decode cX2_isForTheFair 19 = .ok (.goto 4, 3) := by decide +kernel
theorem dX2_isForTheFair_22 : decode cX2_isForTheFair 22 = .ok (.iconst 0, 1) := by decide +kernel
theorem dX2_isForTheFair_23 : decode cX2_isForTheFair 23 = .ok (.ireturn, 1) := by decide +kernel
theorem dX2_letGo_0 : decode cX2_letGo 0 = .ok (.aload_n 0, 1) := by decide +kernel
theorem dX2_letGo_1 : decode cX2_letGo 1 = .ok (.getfield 15, 3) := by decide +kernel
theorem dX2_letGo_4 : decode cX2_letGo 4 = .ok (.aload_n 0, 1) := by decide +kernel
theorem dX2_letGo_5 : decode cX2_letGo 5 = .ok (.getfield 27, 3) := by decide +kernel
theorem dX2_letGo_8 : decode cX2_letGo 8 = .ok (.iload_n 1, 1) := by decide +kernel
theorem dX2_letGo_9 : decode cX2_letGo 9 = .ok (.iaload, 1) := by decide +kernel
theorem dX2_letGo_10 : decode cX2_letGo 10 = .ok (.iconst 4, 1) := by decide +kernel
theorem dX2_letGo_11 : decode cX2_letGo 11 = .ok (.iastore, 1) := by decide +kernel
theorem dX2_letGo_12 : decode cX2_letGo 12 = .ok (.aload_n 0, 1) := by decide +kernel
theorem dX2_letGo_13 : decode cX2_letGo 13 = .ok (.getfield 27, 3) := by decide +kernel
theorem dX2_letGo_16 : decode cX2_letGo 16 = .ok (.iload_n 1, 1) := by decide +kernel
theorem dX2_letGo_17 : decode cX2_letGo 17 = .ok (.iconst (-1), 1) := by decide +kernel
theorem dX2_letGo_18 : decode cX2_letGo 18 = .ok (.iastore, 1) := by decide +kernel
theorem dX2_letGo_19 : decode cX2_letGo 19 = .ok (.aload_n 0, 1) := by decide +kernel
theorem dX2_letGo_20 : decode cX2_letGo 20 = .ok (.getfield 30, 3) := by decide +kernel
theorem dX2_letGo_23 : decode cX2_letGo 23 = .ok (.iload_n 1, 1) := by decide +kernel
theorem dX2_letGo_24 : decode cX2_letGo 24 = .ok (.iconst 0, 1) := by decide +kernel
theorem dX2_letGo_25 : decode cX2_letGo 25 = .ok (.iastore, 1) := by decide +kernel
theorem dX2_letGo_26 : decode cX2_letGo 26 = .ok (.return_, 1) := by decide +kernel
theorem dX2_goYears_0 : decode cX2_goYears 0 = .ok (.iconst 0, 1) := by decide +kernel
theorem dX2_goYears_1 : decode cX2_goYears 1 = .ok (.istore_n 2, 1) := by decide +kernel
theorem dX2_goYears_2 : decode cX2_goYears 2 = .ok (.iload_n 2, 1) := by decide +kernel
theorem dX2_goYears_3 : decode cX2_goYears 3 = .ok (.iload_n 1, 1) := by decide +kernel
theorem dX2_goYears_4 : decode cX2_goYears 4 = .ok (.if_icmp .ge 13, 3) := by decide +kernel
theorem dX2_goYears_7 : decode cX2_goYears 7 = .ok (.aload_n 0, 1) := by decide +kernel
theorem dX2_goYears_8 : decode cX2_goYears 8 = .ok (.invokevirtual 67, 3) := by decide +kernel
theorem dX2_goYears_11 : decode cX2_goYears 11 = .ok (.iinc 2 1, 3) := by decide +kernel
theorem dX2_goYears_14 : decode cX2_goYears 14 = .ok (.goto (-12), 3) := by decide +kernel
theorem dX2_goYears_17 : decode cX2_goYears 17 = .ok (.return_, 1) := by decide +kernel
theorem dX2_goYear_0 : decode cX2_goYear 0 = .ok (.iconst 0, 1) := by decide +kernel
theorem dX2_goYear_1 : decode cX2_goYear 1 = .ok (.istore_n 1, 1) := by decide +kernel
theorem dX2_goYear_2 : decode cX2_goYear 2 = .ok (.iload_n 1, 1) := by decide +kernel
theorem dX2_goYear_3 : decode cX2_goYear 3 = .ok (.aload_n 0, 1) := by decide +kernel
theorem dX2_goYear_4 : decode cX2_goYear 4 = .ok (.getfield 56, 3) := by decide +kernel
theorem dX2_goYear_7 : decode cX2_goYear 7 = .ok (.if_icmp .ge 22, 3) := by decide +kernel
theorem dX2_goYear_10 : decode cX2_goYear 10 = .ok (.aload_n 0, 1) := by decide +kernel
theorem dX2_goYear_11 : decode cX2_goYear 11 = .ok (.iload_n 1, 1) := by decide +kernel
theorem dX2_goYear_12 : decode cX2_goYear 12 = .ok (.invokevirtual 70, 3) := by decide +kernel
theorem dX2_goYear_15 : decode cX2_goYear 15 = .ok (.ifCond .eq 8, 3) := by decide +kernel
theorem dX2_goYear_18 : decode cX2_goYear 18 = .ok (.aload_n 0, 1) := by decide +kernel
theorem dX2_goYear_19 : decode cX2_goYear 19 = .ok (.iload_n 1, 1) := by decide +kernel
theorem dX2_goYear_20 : decode cX2_goYear 20 = .ok (.invokevirtual 73, 3) := by decide +kernel
theorem dX2_goYear_23 : decode cX2_goYear 23 = .ok (.iinc 1 1, 3) := by decide +kernel
theorem dX2_goYear_26 : decode cX2_goYear 26 = .ok (.goto (-24), 3) := by decide +kernel
theorem dX2_goYear_29 : decode cX2_goYear 29 = .ok (.aload_n 0, 1) := by decide +kernel
theorem dX2_goYear_30 : decode cX2_goYear 30 = .ok (.invokevirtual 77, 3) := by decide +kernel
theorem dX2_goYear_33 : decode cX2_goYear 33 = .ok (.iconst 0, 1) := by decide +kernel
theorem dX2_goYear_34 : decode cX2_goYear 34 = .ok (.istore_n 1, 1) := by decide +kernel
theorem dX2_goYear_35 : decode cX2_goYear 35 = .ok (.iload_n 1, 1) := by decide +kernel
theorem dX2_goYear_36 : decode cX2_goYear 36 = .ok (.aload_n 0, 1) := by decide +kernel
theorem dX2_goYear_37 : decode cX2_goYear 37 = .ok (.getfield 56, 3) := by decide +kernel
theorem dX2_goYear_40 : decode cX2_goYear 40 = .ok (.if_icmp .ge 22, 3) := by decide +kernel
theorem dX2_goYear_43 : decode cX2_goYear 43 = .ok (.aload_n 0, 1) := by decide +kernel
theorem dX2_goYear_44 : decode cX2_goYear 44 = .ok (.iload_n 1, 1) := by decide +kernel
theorem dX2_goYear_45 : decode cX2_goYear 45 = .ok (.invokevirtual 80, 3) := by decide +kernel
theorem dX2_goYear_48 : decode cX2_goYear 48 = .ok (.ifCond .eq 8, 3) := by decide +kernel
theorem dX2_goYear_51 : decode cX2_goYear 51 = .ok (.aload_n 0, 1) := by decide +kernel
theorem dX2_goYear_52 : decode cX2_goYear 52 = .ok (.iload_n 1, 1) := by decide +kernel
theorem dX2_goYear_53 : decode cX2_goYear 53 = .ok (.invokevirtual 83, 3) := by decide +kernel
theorem dX2_goYear_56 : decode cX2_goYear 56 = .ok (.iinc 1 1, 3) := by decide +kernel
theorem dX2_goYear_59 : decode cX2_goYear 59 = .ok (.goto (-24), 3) := by decide +kernel
theorem dX2_goYear_62 : decode cX2_goYear 62 = .ok (.aload_n 0, 1) := by decide +kernel
theorem dX2_goYear_63 : decode cX2_goYear 63 = .ok (.dup, 1) := by decide +kernel
theorem dX2_goYear_64 : decode cX2_goYear 64 = .ok (.getfield 52, 3) := by decide +kernel
theorem dX2_goYear_67 : decode cX2_goYear 67 = .ok (.iconst 1, 1) := by decide +kernel
theorem dX2_goYear_68 : decode cX2_goYear 68 = .ok (.iadd, 1) := by decide +kernel
theorem dX2_goYear_69 : decode cX2_goYear 69 = .ok (.putfield 52, 3) := by decide +kernel
theorem dX2_goYear_72 : decode cX2_goYear 72 = .ok (.return_, 1) := by decide +kernel
theorem dX2_workOn_0 : decode cX2_workOn 0 = .ok (.aload_n 0, 1) := by decide +kernel
theorem dX2_workOn_1 : decode cX2_workOn 1 = .ok (.getfield 27, 3) := by decide +kernel
theorem dX2_workOn_4 : decode cX2_workOn 4 = .ok (.iload_n 1, 1) := by decide +kernel
theorem dX2_workOn_5 : decode cX2_workOn 5 = .ok (.iaload, 1) := by decide +kernel
theorem dX2_workOn_6 : decode cX2_workOn 6 = .ok (.istore_n 2, 1) := by decide +kernel
theorem dX2_workOn_7 : decode cX2_workOn 7 = .ok (.aload_n 0, 1) := by decide +kernel
theorem dX2_workOn_8 : decode cX2_workOn 8 = .ok (.iload_n 1, 1) := by decide +kernel
theorem dX2_workOn_9 : decode cX2_workOn 9 = .ok (.invokevirtual 86, 3) := by decide +kernel
theorem dX2_workOn_12 : decode cX2_workOn 12 = .ok (.astore_n 3, 1) := by decide +kernel
theorem dX2_workOn_13 : decode cX2_workOn 13 = .ok (.aload_n 3, 1) := by decide +kernel
theorem dX2_workOn_14 : decode cX2_workOn 14 = .ok (.aload_n 0, 1) := by decide +kernel
theorem dX2_workOn_15 : decode cX2_workOn 15 = .ok (.getfield 9, 3) := by decide +kernel
theorem dX2_workOn_18 : decode cX2_workOn 18 = .ok (.iload_n 2, 1) := by decide +kernel
theorem dX2_workOn_19 : decode cX2_workOn 19 = .ok (.iaload, 1) := by decide +kernel
theorem dX2_workOn_20 : decode cX2_workOn 20 = .ok (.aload_n 0, 1) := by decide +kernel
theorem dX2_workOn_21 : decode cX2_workOn 21 = .ok (.getfield 24, 3) := by decide +kernel
theorem dX2_workOn_24 : decode cX2_workOn 24 = .ok (.iload_n 1, 1) := by decide +kernel
theorem dX2_workOn_25 : decode cX2_workOn 25 = .ok (.iaload, 1) := by decide +kernel
theorem dX2_workOn_26 : decode cX2_workOn 26 = .ok (.aload_n 0, 1) := by decide +kernel
theorem dX2_workOn_27 : decode cX2_workOn 27 = .ok (.getfield 30, 3) := by decide +kernel
theorem dX2_workOn_30 : decode cX2_workOn 30 = .ok (.iload_n 1, 1) := by decide +kernel
theorem dX2_workOn_31 : decode cX2_workOn 31 = .ok (.iaload, 1) := by decide +kernel
theorem dX2_workOn_32 : decode cX2_workOn 32 = .ok (.invokevirtual 90, 3) := by decide +kernel
theorem dX2_workOn_35 : decode cX2_workOn 35 = .ok (.istore 4, 2) := by decide +kernel
theorem dX2_workOn_37 : decode cX2_workOn 37 = .ok (.aload_n 0, 1) := by decide +kernel
theorem dX2_workOn_38 : decode cX2_workOn 38 = .ok (.getfield 24, 3) := by decide +kernel
theorem dX2_workOn_41 : decode cX2_workOn 41 = .ok (.iload_n 1, 1) := by decide +kernel
theorem dX2_workOn_42 : decode cX2_workOn 42 = .ok (.bipush 100, 2) := by decide +kernel
theorem dX2_workOn_44 : decode cX2_workOn 44 = .ok (.aload_n 0, 1) := by decide +kernel
theorem dX2_workOn_45 : decode cX2_workOn 45 = .ok (.getfield 24, 3) := by decide +kernel
theorem dX2_workOn_48 : decode cX2_workOn 48 = .ok (.iload_n 1, 1) := by decide +kernel
theorem dX2_workOn_49 : decode cX2_workOn 49 = .ok (.iaload, 1) := by decide +kernel
theorem dX2_workOn_50 : decode cX2_workOn 50 = .ok (.iload 4, 2) := by decide +kernel
theorem dX2_workOn_52 : decode cX2_workOn 52 = .ok (.iadd, 1) := by decide +kernel
theorem dX2_workOn_53 : decode cX2_workOn 53 = .ok (.invokestatic 96, 3) := by decide +kernel
theorem dX2_workOn_56 : decode cX2_workOn 56 = .ok (.iastore, 1) := by decide +kernel
theorem dX2_workOn_57 : decode cX2_workOn 57 = .ok (.aload_n 0, 1) := by decide +kernel
theorem dX2_workOn_58 : decode cX2_workOn 58 = .ok (.iload_n 1, 1) := by decide +kernel
theorem dX2_workOn_59 : decode cX2_workOn 59 = .ok (.invokevirtual 63, 3) := by decide +kernel
theorem dX2_workOn_62 : decode cX2_workOn 62 = .ok (.ifCond .eq 43, 3) := by decide +kernel
theorem dX2_workOn_65 : decode cX2_workOn 65 = .ok (.aload_n 0, 1) := by decide +kernel
theorem dX2_workOn_66 : decode cX2_workOn 66 = .ok (.getfield 18, 3) := by decide +kernel
theorem dX2_workOn_69 : decode cX2_workOn 69 = .ok (.iload_n 2, 1) := by decide +kernel
theorem dX2_workOn_70 : decode cX2_workOn 70 = .ok (.sipush 999, 3) := by decide +kernel
theorem dX2_workOn_73 : decode cX2_workOn 73 = .ok (.aload_n 0, 1) := by decide +kernel
theorem dX2_workOn_74 : decode cX2_workOn 74 = .ok (.getfield 18, 3) := by decide +kernel
theorem dX2_workOn_77 : decode cX2_workOn 77 = .ok (.iload_n 2, 1) := by decide +kernel
theorem dX2_workOn_78 : decode cX2_workOn 78 = .ok (.iaload, 1) := by decide +kernel
theorem dX2_workOn_79 : decode cX2_workOn 79 = .ok (.iconst 1, 1) := by decide +kernel
theorem dX2_workOn_80 : decode cX2_workOn 80 = .ok (.iadd, 1) := by decide +kernel
theorem dX2_workOn_81 : decode cX2_workOn 81 = .ok (.invokestatic 96, 3) := by decide +kernel
theorem dX2_workOn_84 : decode cX2_workOn 84 = .ok (.iastore, 1) := by decide +kernel
theorem dX2_workOn_85 : decode cX2_workOn 85 = .ok (.aload_n 0, 1) := by decide +kernel
theorem dX2_workOn_86 : decode cX2_workOn 86 = .ok (.getfield 15, 3) := by decide +kernel
theorem dX2_workOn_89 : decode cX2_workOn 89 = .ok (.iload_n 2, 1) := by decide +kernel
theorem dX2_workOn_90 : decode cX2_workOn 90 = .ok (.bipush 9, 2) := by decide +kernel
theorem dX2_workOn_92 : decode cX2_workOn 92 = .ok (.aload_n 0, 1) := by decide +kernel
theorem dX2_workOn_93 : decode cX2_workOn 93 = .ok (.getfield 15, 3) := by decide +kernel
theorem dX2_workOn_96 : decode cX2_workOn 96 = .ok (.iload_n 2, 1) := by decide +kernel
theorem dX2_workOn_97 : decode cX2_workOn 97 = .ok (.iaload, 1) := by decide +kernel
theorem dX2_workOn_98 : decode cX2_workOn 98 = .ok (.iconst 2, 1) := by decide +kernel
theorem dX2_workOn_99 : decode cX2_workOn 99 = .ok (.iadd, 1) := by decide +kernel
theorem dX2_workOn_100 : decode cX2_workOn 100 = .ok (.invokestatic 96, 3) := by decide +kernel
theorem dX2_workOn_103 : decode cX2_workOn 103 = .ok (.iastore, 1) := by decide +kernel
theorem dX2_workOn_104 : decode cX2_workOn 104 = .ok (.return_, 1) := by decide +kernel
theorem dX2_workOn_105 : decode cX2_workOn 105 = .ok (.aload_n 0, 1) := by decide +kernel
theorem dX2_workOn_106 : decode cX2_workOn 106 = .ok (.getfield 15, 3) := by decide +kernel
theorem dX2_workOn_109 : decode cX2_workOn 109 = .ok (.iload_n 2, 1) := by decide +kernel
theorem dX2_workOn_110 : decode cX2_workOn 110 = .ok (.dup2, 1) := by decide +kernel
theorem dX2_workOn_111 : decode cX2_workOn 111 = .ok (.iaload, 1) := by decide +kernel
theorem dX2_workOn_112 : decode cX2_workOn 112 = .ok (.aload_n 3, 1) := by decide +kernel
theorem dX2_workOn_113 : decode cX2_workOn 113 = .ok (.invokevirtual 102, 3) := by decide +kernel
theorem dX2_workOn_116 : decode cX2_workOn 116 = .ok (.isub, 1) := by decide +kernel
theorem dX2_workOn_117 : decode cX2_workOn 117 = .ok (.iastore, 1) := by decide +kernel
theorem dX2_workOn_118 : decode cX2_workOn 118 = .ok (.aload_n 0, 1) := by decide +kernel
theorem dX2_workOn_119 : decode cX2_workOn 119 = .ok (.getfield 15, 3) := by decide +kernel
theorem dX2_workOn_122 : decode cX2_workOn 122 = .ok (.iload_n 2, 1) := by decide +kernel
theorem dX2_workOn_123 : decode cX2_workOn 123 = .ok (.iaload, 1) := by decide +kernel
theorem dX2_workOn_124 : decode cX2_workOn 124 = .ok (.ifCond .gt 8, 3) := by decide +kernel
theorem dX2_workOn_127 : decode cX2_workOn 127 = .ok (.aload_n 0, 1) := by decide +kernel
theorem dX2_workOn_128 : decode cX2_workOn 128 = .ok (.iload_n 1, 1) := by decide +kernel
theorem dX2_workOn_129 : decode cX2_workOn 129 = .ok (.invokevirtual 106, 3) := by decide +kernel
theorem dX2_workOn_132 : decode cX2_workOn 132 = .ok (.return_, 1) := by decide +kernel
theorem dX2_countHeld_0 : decode cX2_countHeld 0 = .ok (.aload_n 0, 1) := by decide +kernel
theorem dX2_countHeld_1 : decode cX2_countHeld 1 = .ok (.getfield 33, 3) := by decide +kernel
theorem dX2_countHeld_4 : decode cX2_countHeld 4 = .ok (.iconst 0, 1) := by decide +kernel
theorem dX2_countHeld_5 : decode cX2_countHeld 5 = .ok (.invokestatic 40, 3) := by decide +kernel
theorem dX2_countHeld_8 : decode cX2_countHeld 8 = .ok (.iconst 0, 1) := by decide +kernel
theorem dX2_countHeld_9 : decode cX2_countHeld 9 = .ok (.istore_n 1, 1) := by decide +kernel
theorem dX2_countHeld_10 : decode cX2_countHeld 10 = .ok (.iload_n 1, 1) := by decide +kernel
theorem dX2_countHeld_11 : decode cX2_countHeld 11 = .ok (.aload_n 0, 1) := by decide +kernel
theorem dX2_countHeld_12 : decode cX2_countHeld 12 = .ok (.getfield 56, 3) := by decide +kernel
theorem dX2_countHeld_15 : decode cX2_countHeld 15 = .ok (.if_icmp .ge 32, 3) := by decide +kernel
theorem dX2_countHeld_18 : decode cX2_countHeld 18 = .ok (.aload_n 0, 1) := by decide +kernel
theorem dX2_countHeld_19 : decode cX2_countHeld 19 = .ok (.iload_n 1, 1) := by decide +kernel
theorem dX2_countHeld_20 : decode cX2_countHeld 20 = .ok (.invokevirtual 70, 3) := by decide +kernel
theorem dX2_countHeld_23 : decode cX2_countHeld 23 = .ok (.ifCond .eq 18, 3) := by decide +kernel
theorem dX2_countHeld_26 : decode cX2_countHeld 26 = .ok (.aload_n 0, 1) := by decide +kernel
theorem dX2_countHeld_27 : decode cX2_countHeld 27 = .ok (.getfield 33, 3) := by decide +kernel
theorem dX2_countHeld_30 : decode cX2_countHeld 30 = .ok (.aload_n 0, 1) := by decide +kernel
theorem dX2_countHeld_31 : decode cX2_countHeld 31 = .ok (.getfield 27, 3) := by decide +kernel
theorem dX2_countHeld_34 : decode cX2_countHeld 34 = .ok (.iload_n 1, 1) := by decide +kernel
theorem dX2_countHeld_35 : decode cX2_countHeld 35 = .ok (.iaload, 1) := by decide +kernel
theorem dX2_countHeld_36 : decode cX2_countHeld 36 = .ok (.dup2, 1) := by decide +kernel
theorem dX2_countHeld_37 : decode cX2_countHeld 37 = .ok (.iaload, 1) := by decide +kernel
theorem dX2_countHeld_38 : decode cX2_countHeld 38 = .ok (.iconst 1, 1) := by decide +kernel
theorem dX2_countHeld_39 : decode cX2_countHeld 39 = .ok (.iadd, 1) := by decide +kernel
theorem dX2_countHeld_40 : decode cX2_countHeld 40 = .ok (.iastore, 1) := by decide +kernel
theorem dX2_countHeld_41 : decode cX2_countHeld 41 = .ok (.iinc 1 1, 3) := by decide +kernel
theorem dX2_countHeld_44 : decode cX2_countHeld 44 = .ok (.goto (-34), 3) := by decide +kernel
theorem dX2_countHeld_47 : decode cX2_countHeld 47 = .ok (.return_, 1) := by decide +kernel
theorem dX2_offer_0 : decode cX2_offer 0 = .ok (.aload_n 0, 1) := by decide +kernel
theorem dX2_offer_1 : decode cX2_offer 1 = .ok (.getfield 30, 3) := by decide +kernel
theorem dX2_offer_4 : decode cX2_offer 4 = .ok (.iload_n 1, 1) := by decide +kernel
theorem dX2_offer_5 : decode cX2_offer 5 = .ok (.sipush 999, 3) := by decide +kernel
theorem dX2_offer_8 : decode cX2_offer 8 = .ok (.aload_n 0, 1) := by decide +kernel
theorem dX2_offer_9 : decode cX2_offer 9 = .ok (.getfield 30, 3) := by decide +kernel
theorem dX2_offer_12 : decode cX2_offer 12 = .ok (.iload_n 1, 1) := by decide +kernel
theorem dX2_offer_13 : decode cX2_offer 13 = .ok (.iaload, 1) := by decide +kernel
theorem dX2_offer_14 : decode cX2_offer 14 = .ok (.iconst 1, 1) := by decide +kernel
theorem dX2_offer_15 : decode cX2_offer 15 = .ok (.iadd, 1) := by decide +kernel
theorem dX2_offer_16 : decode cX2_offer 16 = .ok (.invokestatic 96, 3) := by decide +kernel
theorem dX2_offer_19 : decode cX2_offer 19 = .ok (.iastore, 1) := by decide +kernel
theorem dX2_offer_20 : decode cX2_offer 20 = .ok (.aload_n 0, 1) := by decide +kernel
theorem dX2_offer_21 : decode cX2_offer 21 = .ok (.iload_n 1, 1) := by decide +kernel
theorem dX2_offer_22 : decode cX2_offer 22 = .ok (.invokevirtual 109, 3) := by decide +kernel
theorem dX2_offer_25 : decode cX2_offer 25 = .ok (.istore_n 2, 1) := by decide +kernel
theorem dX2_offer_26 : decode cX2_offer 26 = .ok (.iload_n 2, 1) := by decide +kernel
theorem dX2_offer_27 : decode cX2_offer 27 = .ok (.iconst (-1), 1) := by decide +kernel
theorem dX2_offer_28 : decode cX2_offer 28 = .ok (.if_icmp .eq 20, 3) := by decide +kernel
theorem dX2_offer_31 : decode cX2_offer 31 = .ok (.aload_n 0, 1) := by decide +kernel
theorem dX2_offer_32 : decode cX2_offer 32 = .ok (.getfield 27, 3) := by decide +kernel
theorem dX2_offer_35 : decode cX2_offer 35 = .ok (.iload_n 1, 1) := by decide +kernel
theorem dX2_offer_36 : decode cX2_offer 36 = .ok (.iload_n 2, 1) := by decide +kernel
theorem dX2_offer_37 : decode cX2_offer 37 = .ok (.iastore, 1) := by decide +kernel
theorem dX2_offer_38 : decode cX2_offer 38 = .ok (.aload_n 0, 1) := by decide +kernel
theorem dX2_offer_39 : decode cX2_offer 39 = .ok (.getfield 33, 3) := by decide +kernel
theorem dX2_offer_42 : decode cX2_offer 42 = .ok (.iload_n 2, 1) := by decide +kernel
theorem dX2_offer_43 : decode cX2_offer 43 = .ok (.dup2, 1) := by decide +kernel
theorem dX2_offer_44 : decode cX2_offer 44 = .ok (.iaload, 1) := by decide +kernel
theorem dX2_offer_45 : decode cX2_offer 45 = .ok (.iconst 1, 1) := by decide +kernel
theorem dX2_offer_46 : decode cX2_offer 46 = .ok (.iadd, 1) := by decide +kernel
theorem dX2_offer_47 : decode cX2_offer 47 = .ok (.iastore, 1) := by decide +kernel
theorem dX2_offer_48 : decode cX2_offer 48 = .ok (.return_, 1) := by decide +kernel
theorem dX2_takerOf_0 : decode cX2_takerOf 0 = .ok (.aload_n 0, 1) := by decide +kernel
theorem dX2_takerOf_1 : decode cX2_takerOf 1 = .ok (.iload_n 1, 1) := by decide +kernel
theorem dX2_takerOf_2 : decode cX2_takerOf 2 = .ok (.invokevirtual 86, 3) := by decide +kernel
theorem dX2_takerOf_5 : decode cX2_takerOf 5 = .ok (.astore_n 2, 1) := by decide +kernel
theorem dX2_takerOf_6 : decode cX2_takerOf 6 = .ok (.aload_n 0, 1) := by decide +kernel
theorem dX2_takerOf_7 : decode cX2_takerOf 7 = .ok (.getfield 24, 3) := by decide +kernel
theorem dX2_takerOf_10 : decode cX2_takerOf 10 = .ok (.iload_n 1, 1) := by decide +kernel
theorem dX2_takerOf_11 : decode cX2_takerOf 11 = .ok (.iaload, 1) := by decide +kernel
theorem dX2_takerOf_12 : decode cX2_takerOf 12 = .ok (.istore_n 3, 1) := by decide +kernel
theorem dX2_takerOf_13 : decode cX2_takerOf 13 = .ok (.aload_n 0, 1) := by decide +kernel
theorem dX2_takerOf_14 : decode cX2_takerOf 14 = .ok (.getfield 30, 3) := by decide +kernel
theorem dX2_takerOf_17 : decode cX2_takerOf 17 = .ok (.iload_n 1, 1) := by decide +kernel
theorem dX2_takerOf_18 : decode cX2_takerOf 18 = .ok (.iaload, 1) := by decide +kernel
theorem dX2_takerOf_19 : decode cX2_takerOf 19 = .ok (.istore 4, 2) := by decide +kernel
theorem dX2_takerOf_21 : decode cX2_takerOf 21 = .ok (.iconst (-1), 1) := by decide +kernel
theorem dX2_takerOf_22 : decode cX2_takerOf 22 = .ok (.istore 5, 2) := by decide +kernel
theorem dX2_takerOf_24 : decode cX2_takerOf 24 = .ok (.iconst (-1), 1) := by decide +kernel
theorem dX2_takerOf_25 : decode cX2_takerOf 25 = .ok (.istore 6, 2) := by decide +kernel
theorem dX2_takerOf_27 : decode cX2_takerOf 27 = .ok (.iconst 0, 1) := by decide +kernel
theorem dX2_takerOf_28 : decode cX2_takerOf 28 = .ok (.istore 7, 2) := by decide +kernel
theorem dX2_takerOf_30 : decode cX2_takerOf 30 = .ok (.iload 7, 2) := by decide +kernel
theorem dX2_takerOf_32 : decode cX2_takerOf 32 = .ok (.bipush 6, 2) := by decide +kernel
theorem dX2_takerOf_34 : decode cX2_takerOf 34 = .ok (.if_icmp .ge 55, 3) := by decide +kernel
theorem dX2_takerOf_37 : decode cX2_takerOf 37 = .ok (.aload_n 0, 1) := by decide +kernel
theorem dX2_takerOf_38 : decode cX2_takerOf 38 = .ok (.getfield 33, 3) := by decide +kernel
theorem dX2_takerOf_41 : decode cX2_takerOf 41 = .ok (.iload 7, 2) := by decide +kernel
theorem dX2_takerOf_43 : decode cX2_takerOf 43 = .ok (.iaload, 1) := by decide +kernel
theorem dX2_takerOf_44 : decode cX2_takerOf 44 = .ok (.iconst 2, 1) := by decide +kernel
theorem dX2_takerOf_45 : decode cX2_takerOf 45 = .ok (.if_icmp .ge 20, 3) := by decide +kernel
theorem dX2_takerOf_48 : decode cX2_takerOf 48 = .ok (.aload_n 2, 1) := by decide +kernel
theorem dX2_takerOf_49 : decode cX2_takerOf 49 = .ok (.aload_n 0, 1) := by decide +kernel
theorem dX2_takerOf_50 : decode cX2_takerOf 50 = .ok (.getfield 9, 3) := by decide +kernel
theorem dX2_takerOf_53 : decode cX2_takerOf 53 = .ok (.iload 7, 2) := by decide +kernel
theorem dX2_takerOf_55 : decode cX2_takerOf 55 = .ok (.iaload, 1) := by decide +kernel
theorem dX2_takerOf_56 : decode cX2_takerOf 56 = .ok (.iload_n 3, 1) := by decide +kernel
theorem dX2_takerOf_57 : decode cX2_takerOf 57 = .ok (.iload 4, 2) := by decide +kernel
theorem dX2_takerOf_59 : decode cX2_takerOf 59 = .ok (.invokevirtual 113, 3) := by decide +kernel
theorem dX2_takerOf_62 : decode cX2_takerOf 62 = .ok (.goto 4, 3) := by decide +kernel
theorem dX2_takerOf_65 : decode cX2_takerOf 65 = .ok (.iconst (-1), 1) := by decide +kernel
theorem dX2_takerOf_66 : decode cX2_takerOf 66 = .ok (.istore 8, 2) := by decide +kernel
theorem dX2_takerOf_68 : decode cX2_takerOf 68 = .ok (.iload 8, 2) := by decide +kernel
theorem dX2_takerOf_70 : decode cX2_takerOf 70 = .ok (.iload 6, 2) := by decide +kernel
theorem dX2_takerOf_72 : decode cX2_takerOf 72 = .ok (.if_icmp .le 11, 3) := by decide +kernel
theorem dX2_takerOf_75 : decode cX2_takerOf 75 = .ok (.iload 7, 2) := by decide +kernel
theorem dX2_takerOf_77 : decode cX2_takerOf 77 = .ok (.istore 5, 2) := by decide +kernel
theorem dX2_takerOf_79 : decode cX2_takerOf 79 = .ok (.iload 8, 2) := by decide +kernel
theorem dX2_takerOf_81 : decode cX2_takerOf 81 = .ok (.istore 6, 2) := by decide +kernel
theorem dX2_takerOf_83 : decode cX2_takerOf 83 = .ok (.iinc 7 1, 3) := by decide +kernel
theorem dX2_takerOf_86 : decode cX2_takerOf 86 = .ok (.goto (-56), 3) := by decide +kernel
theorem dX2_takerOf_89 : decode cX2_takerOf 89 = .ok (.iload 6, 2) := by decide +kernel
theorem dX2_takerOf_91 : decode cX2_takerOf 91 = .ok (.aload_n 2, 1) := by decide +kernel
theorem dX2_takerOf_92 : decode cX2_takerOf 92 = .ok (.iload_n 3, 1) := by decide +kernel
theorem dX2_takerOf_93 : decode cX2_takerOf 93 = .ok (.iload 4, 2) := by decide +kernel
theorem dX2_takerOf_95 : decode cX2_takerOf 95 = .ok (.invokevirtual 116, 3) := by decide +kernel
theorem dX2_takerOf_98 : decode cX2_takerOf 98 = .ok (.if_icmp .lt 8, 3) := by decide +kernel
theorem dX2_takerOf_101 : decode cX2_takerOf 101 = .ok (.iload 5, 2) := by decide +kernel
theorem dX2_takerOf_103 : decode cX2_takerOf 103 = .ok (.goto 4, 3) := by decide +kernel
theorem dX2_takerOf_106 : decode cX2_takerOf 106 = .ok (.iconst (-1), 1) := by decide +kernel
theorem dX2_takerOf_107 : decode cX2_takerOf 107 = .ok (.ireturn, 1) := by decide +kernel
theorem dX2_finishedSet_0 : decode cX2_finishedSet 0 = .ok (.iconst 0, 1) := by decide +kernel
theorem dX2_finishedSet_1 : decode cX2_finishedSet 1 = .ok (.istore_n 1, 1) := by decide +kernel
theorem dX2_finishedSet_2 : decode cX2_finishedSet 2 = .ok (.iconst 0, 1) := by decide +kernel
theorem dX2_finishedSet_3 : decode cX2_finishedSet 3 = .ok (.istore_n 2, 1) := by decide +kernel
theorem dX2_finishedSet_4 : decode cX2_finishedSet 4 = .ok (.iload_n 2, 1) := by decide +kernel
theorem dX2_finishedSet_5 : decode cX2_finishedSet 5 = .ok (.aload_n 0, 1) := by decide +kernel
theorem dX2_finishedSet_6 : decode cX2_finishedSet 6 = .ok (.getfield 56, 3) := by decide +kernel
theorem dX2_finishedSet_9 : decode cX2_finishedSet 9 = .ok (.if_icmp .ge 23, 3) := by decide +kernel
theorem dX2_finishedSet_12 : decode cX2_finishedSet 12 = .ok (.aload_n 0, 1) := by decide +kernel
theorem dX2_finishedSet_13 : decode cX2_finishedSet 13 = .ok (.iload_n 2, 1) := by decide +kernel
theorem dX2_finishedSet_14 : decode cX2_finishedSet 14 = .ok (.invokevirtual 63, 3) := by decide +kernel
theorem dX2_finishedSet_17 : decode cX2_finishedSet 17 = .ok (.ifCond .eq 9, 3) := by decide +kernel
theorem dX2_finishedSet_20 : decode cX2_finishedSet 20 = .ok (.iload_n 1, 1) := by decide +kernel
theorem dX2_finishedSet_21 : decode cX2_finishedSet 21 = .ok (.iconst 1, 1) := by decide +kernel
theorem dX2_finishedSet_22 : decode cX2_finishedSet 22 = .ok (.iload_n 2, 1) := by decide +kernel
theorem dX2_finishedSet_23 : decode cX2_finishedSet 23 = .ok (.ishl, 1) := by decide +kernel
theorem dX2_finishedSet_24 : decode cX2_finishedSet 24 = .ok (.ior, 1) := by decide +kernel
theorem dX2_finishedSet_25 : decode cX2_finishedSet 25 = .ok (.istore_n 1, 1) := by decide +kernel
theorem dX2_finishedSet_26 : decode cX2_finishedSet 26 = .ok (.iinc 2 1, 3) := by decide +kernel
theorem dX2_finishedSet_29 : decode cX2_finishedSet 29 = .ok (.goto (-25), 3) := by decide +kernel
theorem dX2_finishedSet_32 : decode cX2_finishedSet 32 = .ok (.iload_n 1, 1) := by decide +kernel
theorem dX2_finishedSet_33 : decode cX2_finishedSet 33 = .ok (.ireturn, 1) := by decide +kernel
theorem dX2_isAllFinished_0 : decode cX2_isAllFinished 0 = .ok (.aload_n 0, 1) := by decide +kernel
theorem dX2_isAllFinished_1 : decode cX2_isAllFinished 1 = .ok (.invokevirtual 119, 3) := by decide +kernel
theorem dX2_isAllFinished_4 : decode cX2_isAllFinished 4 = .ok (.iconst 1, 1) := by decide +kernel
theorem dX2_isAllFinished_5 : decode cX2_isAllFinished 5 = .ok (.aload_n 0, 1) := by decide +kernel
theorem dX2_isAllFinished_6 : decode cX2_isAllFinished 6 = .ok (.getfield 56, 3) := by decide +kernel
theorem dX2_isAllFinished_9 : decode cX2_isAllFinished 9 = .ok (.ishl, 1) := by decide +kernel
theorem dX2_isAllFinished_10 : decode cX2_isAllFinished 10 = .ok (.iconst 1, 1) := by decide +kernel
theorem dX2_isAllFinished_11 : decode cX2_isAllFinished 11 = .ok (.isub, 1) := by decide +kernel
theorem dX2_isAllFinished_12 : decode cX2_isAllFinished 12 = .ok (.if_icmp .ne 7, 3) := by decide +kernel
theorem dX2_isAllFinished_15 : decode cX2_isAllFinished 15 = .ok (.iconst 1, 1) := by decide +kernel
theorem dX2_isAllFinished_16 : decode cX2_isAllFinished 16 = .ok (.goto 4, 3) := by decide +kernel
theorem dX2_isAllFinished_19 : decode cX2_isAllFinished 19 = .ok (.iconst 0, 1) := by decide +kernel
theorem dX2_isAllFinished_20 : decode cX2_isAllFinished 20 = .ok (.ireturn, 1) := by decide +kernel
theorem dX2_heldSet_0 : decode cX2_heldSet 0 = .ok (.iconst 0, 1) := by decide +kernel
theorem dX2_heldSet_1 : decode cX2_heldSet 1 = .ok (.istore_n 2, 1) := by decide +kernel
theorem dX2_heldSet_2 : decode cX2_heldSet 2 = .ok (.iconst 0, 1) := by decide +kernel
theorem dX2_heldSet_3 : decode cX2_heldSet 3 = .ok (.istore_n 3, 1) := by decide +kernel
theorem dX2_heldSet_4 : decode cX2_heldSet 4 = .ok (.iload_n 3, 1) := by decide +kernel
theorem dX2_heldSet_5 : decode cX2_heldSet 5 = .ok (.aload_n 0, 1) := by decide +kernel
theorem dX2_heldSet_6 : decode cX2_heldSet 6 = .ok (.getfield 56, 3) := by decide +kernel
theorem dX2_heldSet_9 : decode cX2_heldSet 9 = .ok (.if_icmp .ge 25, 3) := by decide +kernel
theorem dX2_heldSet_12 : decode cX2_heldSet 12 = .ok (.aload_n 0, 1) := by decide +kernel
theorem dX2_heldSet_13 : decode cX2_heldSet 13 = .ok (.getfield 27, 3) := by decide +kernel
theorem dX2_heldSet_16 : decode cX2_heldSet 16 = .ok (.iload_n 3, 1) := by decide +kernel
theorem dX2_heldSet_17 : decode cX2_heldSet 17 = .ok (.iaload, 1) := by decide +kernel
theorem dX2_heldSet_18 : decode cX2_heldSet 18 = .ok (.iload_n 1, 1) := by decide +kernel
theorem dX2_heldSet_19 : decode cX2_heldSet 19 = .ok (.if_icmp .ne 9, 3) := by decide +kernel
theorem dX2_heldSet_22 : decode cX2_heldSet 22 = .ok (.iload_n 2, 1) := by decide +kernel
theorem dX2_heldSet_23 : decode cX2_heldSet 23 = .ok (.iconst 1, 1) := by decide +kernel
theorem dX2_heldSet_24 : decode cX2_heldSet 24 = .ok (.iload_n 3, 1) := by decide +kernel
theorem dX2_heldSet_25 : decode cX2_heldSet 25 = .ok (.ishl, 1) := by decide +kernel
theorem dX2_heldSet_26 : decode cX2_heldSet 26 = .ok (.ior, 1) := by decide +kernel
theorem dX2_heldSet_27 : decode cX2_heldSet 27 = .ok (.istore_n 2, 1) := by decide +kernel
theorem dX2_heldSet_28 : decode cX2_heldSet 28 = .ok (.iinc 3 1, 3) := by decide +kernel
theorem dX2_heldSet_31 : decode cX2_heldSet 31 = .ok (.goto (-27), 3) := by decide +kernel
theorem dX2_heldSet_34 : decode cX2_heldSet 34 = .ok (.iload_n 2, 1) := by decide +kernel
theorem dX2_heldSet_35 : decode cX2_heldSet 35 = .ok (.ireturn, 1) := by decide +kernel
theorem dX2_doneOfAll_0 : decode cX2_doneOfAll 0 = .ok (.aload_n 0, 1) := by decide +kernel
theorem dX2_doneOfAll_1 : decode cX2_doneOfAll 1 = .ok (.getfield 24, 3) := by decide +kernel
theorem dX2_doneOfAll_4 : decode cX2_doneOfAll 4 = .ok (.aload_n 0, 1) := by decide +kernel
theorem dX2_doneOfAll_5 : decode cX2_doneOfAll 5 = .ok (.getfield 56, 3) := by decide +kernel
theorem dX2_doneOfAll_8 : decode cX2_doneOfAll 8 = .ok (.invokestatic 122, 3) := by decide +kernel
theorem dX2_doneOfAll_11 : decode cX2_doneOfAll 11 = .ok (.ireturn, 1) := by decide +kernel
theorem dX2_dustOfAll_0 : decode cX2_dustOfAll 0 = .ok (.aload_n 0, 1) := by decide +kernel
theorem dX2_dustOfAll_1 : decode cX2_dustOfAll 1 = .ok (.getfield 30, 3) := by decide +kernel
theorem dX2_dustOfAll_4 : decode cX2_dustOfAll 4 = .ok (.aload_n 0, 1) := by decide +kernel
theorem dX2_dustOfAll_5 : decode cX2_dustOfAll 5 = .ok (.getfield 56, 3) := by decide +kernel
theorem dX2_dustOfAll_8 : decode cX2_dustOfAll 8 = .ok (.invokestatic 122, 3) := by decide +kernel
theorem dX2_dustOfAll_11 : decode cX2_dustOfAll 11 = .ok (.ireturn, 1) := by decide +kernel
theorem dX2_madeOfAll_0 : decode cX2_madeOfAll 0 = .ok (.aload_n 0, 1) := by decide +kernel
theorem dX2_madeOfAll_1 : decode cX2_madeOfAll 1 = .ok (.getfield 18, 3) := by decide +kernel
theorem dX2_madeOfAll_4 : decode cX2_madeOfAll 4 = .ok (.bipush 6, 2) := by decide +kernel
theorem dX2_madeOfAll_6 : decode cX2_madeOfAll 6 = .ok (.invokestatic 122, 3) := by decide +kernel
theorem dX2_madeOfAll_9 : decode cX2_madeOfAll 9 = .ok (.ireturn, 1) := by decide +kernel
theorem dX3_init_0 : decode cX3_init 0 = .ok (.aload_n 0, 1) := by decide +kernel
theorem dX3_init_1 : decode cX3_init 1 = .ok (.aload_n 1, 1) := by decide +kernel
theorem dX3_init_2 : decode cX3_init 2 = .ok (.invokespecial 1, 3) := by decide +kernel
theorem dX3_init_5 : decode cX3_init 5 = .ok (.return_, 1) := by decide +kernel
theorem dX3_goesOn_0 : decode cX3_goesOn 0 = .ok (.aload_n 0, 1) := by decide +kernel
theorem dX3_goesOn_1 : decode cX3_goesOn 1 = .ok (.iload_n 1, 1) := by decide +kernel
theorem dX3_goesOn_2 : decode cX3_goesOn 2 = .ok (.iload_n 2, 1) := by decide +kernel
theorem dX3_goesOn_3 : decode cX3_goesOn 3 = .ok (.iload_n 3, 1) := by decide +kernel
theorem dX3_goesOn_4 : decode cX3_goesOn 4 = .ok (.invokespecial 7, 3) := by decide +kernel
theorem dX3_goesOn_7 : decode cX3_goesOn 7 = .ok (.iload_n 2, 1) := by decide +kernel
theorem dX3_goesOn_8 : decode cX3_goesOn 8 = .ok (.bipush 50, 2) := by decide +kernel
theorem dX3_goesOn_10 : decode cX3_goesOn 10 = .ok (.if_icmp .ge 7, 3) := by decide +kernel
theorem dX3_goesOn_13 : decode cX3_goesOn 13 = .ok (.iconst 3, 1) := by decide +kernel
theorem dX3_goesOn_14 : decode cX3_goesOn 14 = .ok (.goto 4, 3) := by decide +kernel
theorem dX3_goesOn_17 : decode cX3_goesOn 17 = .ok (.iconst 0, 1) := by decide +kernel
theorem dX3_goesOn_18 : decode cX3_goesOn 18 = .ok (.iadd, 1) := by decide +kernel
theorem dX3_goesOn_19 : decode cX3_goesOn 19 = .ok (.ireturn, 1) := by decide +kernel
theorem dX3_bid_0 : decode cX3_bid 0 = .ok (.aload_n 0, 1) := by decide +kernel
theorem dX3_bid_1 : decode cX3_bid 1 = .ok (.iload_n 1, 1) := by decide +kernel
theorem dX3_bid_2 : decode cX3_bid 2 = .ok (.iload_n 2, 1) := by decide +kernel
theorem dX3_bid_3 : decode cX3_bid 3 = .ok (.iload_n 3, 1) := by decide +kernel
theorem dX3_bid_4 : decode cX3_bid 4 = .ok (.invokespecial 11, 3) := by decide +kernel
theorem dX3_bid_7 : decode cX3_bid 7 = .ok (.iload_n 2, 1) := by decide +kernel
theorem dX3_bid_8 : decode cX3_bid 8 = .ok (.bipush 70, 2) := by decide +kernel
theorem dX3_bid_10 : decode cX3_bid 10 = .ok (.if_icmp .le 7, 3) := by decide +kernel
theorem dX3_bid_13 : decode cX3_bid 13 = .ok (.iload_n 1, 1) := by decide +kernel
theorem dX3_bid_14 : decode cX3_bid 14 = .ok (.goto 4, 3) := by decide +kernel
theorem dX3_bid_17 : decode cX3_bid 17 = .ok (.iconst 0, 1) := by decide +kernel
theorem dX3_bid_18 : decode cX3_bid 18 = .ok (.iadd, 1) := by decide +kernel
theorem dX3_bid_19 : decode cX3_bid 19 = .ok (.ireturn, 1) := by decide +kernel
theorem dX4_init_0 : decode cX4_init 0 = .ok (.aload_n 0, 1) := by decide +kernel
theorem dX4_init_1 : decode cX4_init 1 = .ok (.invokespecial 1, 3) := by decide +kernel
theorem dX4_init_4 : decode cX4_init 4 = .ok (.aload_n 0, 1) := by decide +kernel
theorem dX4_init_5 : decode cX4_init 5 = .ok (.aload_n 1, 1) := by decide +kernel
theorem dX4_init_6 : decode cX4_init 6 = .ok (.putfield 7, 3) := by decide +kernel
theorem dX4_init_9 : decode cX4_init 9 = .ok (.return_, 1) := by decide +kernel
theorem dX4_goesOn_0 : decode cX4_goesOn 0 = .ok (.iload_n 1, 1) := by decide +kernel
theorem dX4_goesOn_1 : decode cX4_goesOn 1 = .ok (.ireturn, 1) := by decide +kernel
theorem dX4_tires_0 : decode cX4_tires 0 = .ok (.iconst 1, 1) := by decide +kernel
theorem dX4_tires_1 : decode cX4_tires 1 = .ok (.ireturn, 1) := by decide +kernel
theorem dX4_bid_0 : decode cX4_bid 0 = .ok (.iconst 2, 1) := by decide +kernel
theorem dX4_bid_1 : decode cX4_bid 1 = .ok (.iload_n 1, 1) := by decide +kernel
theorem dX4_bid_2 : decode cX4_bid 2 = .ok (.imul, 1) := by decide +kernel
theorem dX4_bid_3 : decode cX4_bid 3 = .ok (.ireturn, 1) := by decide +kernel
theorem dX4_asked_0 : decode cX4_asked 0 = .ok (.bipush 8, 2) := by decide +kernel
theorem dX4_asked_2 : decode cX4_asked 2 = .ok (.ireturn, 1) := by decide +kernel
theorem dX5_init_0 : decode cX5_init 0 = .ok (.aload_n 0, 1) := by decide +kernel
theorem dX5_init_1 : decode cX5_init 1 = .ok (.aload_n 1, 1) := by decide +kernel
theorem dX5_init_2 : decode cX5_init 2 = .ok (.invokespecial 1, 3) := by decide +kernel
theorem dX5_init_5 : decode cX5_init 5 = .ok (.return_, 1) := by decide +kernel
theorem dX5_goesOn_0 : decode cX5_goesOn 0 = .ok (.aload_n 0, 1) := by decide +kernel
theorem dX5_goesOn_1 : decode cX5_goesOn 1 = .ok (.iload_n 1, 1) := by decide +kernel
theorem dX5_goesOn_2 : decode cX5_goesOn 2 = .ok (.iload_n 2, 1) := by decide +kernel
theorem dX5_goesOn_3 : decode cX5_goesOn 3 = .ok (.iload_n 3, 1) := by decide +kernel
theorem dX5_goesOn_4 : decode cX5_goesOn 4 = .ok (.invokespecial 7, 3) := by decide +kernel
theorem dX5_goesOn_7 : decode cX5_goesOn 7 = .ok (.istore 4, 2) := by decide +kernel
theorem dX5_goesOn_9 : decode cX5_goesOn 9 = .ok (.iload_n 3, 1) := by decide +kernel
theorem dX5_goesOn_10 : decode cX5_goesOn 10 = .ok (.bipush 10, 2) := by decide +kernel
theorem dX5_goesOn_12 : decode cX5_goesOn 12 = .ok (.if_icmp .le 10, 3) := by decide +kernel
theorem dX5_goesOn_15 : decode cX5_goesOn 15 = .ok (.iconst 2, 1) := by decide +kernel
theorem dX5_goesOn_16 : decode cX5_goesOn 16 = .ok (.iload 4, 2) := by decide +kernel
theorem dX5_goesOn_18 : decode cX5_goesOn 18 = .ok (.imul, 1) := by decide +kernel
theorem dX5_goesOn_19 : decode cX5_goesOn 19 = .ok (.goto 5, 3) := by decide +kernel
theorem dX5_goesOn_22 : decode cX5_goesOn 22 = .ok (.iload 4, 2) := by decide +kernel
theorem dX5_goesOn_24 : decode cX5_goesOn 24 = .ok (.ireturn, 1) := by decide +kernel
theorem dX5_tires_0 : decode cX5_tires 0 = .ok (.aload_n 0, 1) := by decide +kernel
theorem dX5_tires_1 : decode cX5_tires 1 = .ok (.invokespecial 11, 3) := by decide +kernel
theorem dX5_tires_4 : decode cX5_tires 4 = .ok (.iconst 1, 1) := by decide +kernel
theorem dX5_tires_5 : decode cX5_tires 5 = .ok (.isub, 1) := by decide +kernel
theorem dX5_tires_6 : decode cX5_tires 6 = .ok (.ireturn, 1) := by decide +kernel
theorem dX5_asked_0 : decode cX5_asked 0 = .ok (.aload_n 0, 1) := by decide +kernel
theorem dX5_asked_1 : decode cX5_asked 1 = .ok (.iload_n 1, 1) := by decide +kernel
theorem dX5_asked_2 : decode cX5_asked 2 = .ok (.iload_n 2, 1) := by decide +kernel
theorem dX5_asked_3 : decode cX5_asked 3 = .ok (.invokespecial 15, 3) := by decide +kernel
theorem dX5_asked_6 : decode cX5_asked 6 = .ok (.iload_n 1, 1) := by decide +kernel
theorem dX5_asked_7 : decode cX5_asked 7 = .ok (.bipush 10, 2) := by decide +kernel
theorem dX5_asked_9 : decode cX5_asked 9 = .ok (.idiv, 1) := by decide +kernel
theorem dX5_asked_10 : decode cX5_asked 10 = .ok (.iadd, 1) := by decide +kernel
theorem dX5_asked_11 : decode cX5_asked 11 = .ok (.ireturn, 1) := by decide +kernel
theorem dX6_init_0 : decode cX6_init 0 = .ok (.aload_n 0, 1) := by decide +kernel
theorem dX6_init_1 : decode cX6_init 1 = .ok (.aload_n 1, 1) := by decide +kernel
theorem dX6_init_2 : decode cX6_init 2 = .ok (.invokespecial 1, 3) := by decide +kernel
theorem dX6_init_5 : decode cX6_init 5 = .ok (.return_, 1) := by decide +kernel
theorem dX6_goesOn_0 : decode cX6_goesOn 0 = .ok (.iload_n 2, 1) := by decide +kernel
theorem dX6_goesOn_1 : decode cX6_goesOn 1 = .ok (.bipush 99, 2) := by decide +kernel
theorem dX6_goesOn_3 : decode cX6_goesOn 3 = .ok (.if_icmp .ne 7, 3) := by decide +kernel
theorem dX6_goesOn_6 : decode cX6_goesOn 6 = .ok (.iconst 0, 1) := by decide +kernel
theorem dX6_goesOn_7 : decode cX6_goesOn 7 = .ok (.goto 4, 3) := by decide +kernel
theorem dX6_goesOn_10 : decode cX6_goesOn 10 = .ok (.iconst 1, 1) := by decide +kernel
theorem dX6_goesOn_11 : decode cX6_goesOn 11 = .ok (.ireturn, 1) := by decide +kernel
theorem dX6_tires_0 : decode cX6_tires 0 = .ok (.iconst 0, 1) := by decide +kernel
theorem dX6_tires_1 : decode cX6_tires 1 = .ok (.ireturn, 1) := by decide +kernel
theorem dX6_bid_0 : decode cX6_bid 0 = .ok (.bipush 20, 2) := by decide +kernel
theorem dX6_bid_2 : decode cX6_bid 2 = .ok (.iload_n 1, 1) := by decide +kernel
theorem dX6_bid_3 : decode cX6_bid 3 = .ok (.isub, 1) := by decide +kernel
theorem dX6_bid_4 : decode cX6_bid 4 = .ok (.ireturn, 1) := by decide +kernel
theorem dX6_asked_0 : decode cX6_asked 0 = .ok (.iconst 1, 1) := by decide +kernel
theorem dX6_asked_1 : decode cX6_asked 1 = .ok (.ireturn, 1) := by decide +kernel
theorem dX7_init_0 : decode cX7_init 0 = .ok (.aload_n 0, 1) := by decide +kernel
theorem dX7_init_1 : decode cX7_init 1 = .ok (.invokespecial 3, 3) := by decide +kernel
theorem dX7_init_4 : decode cX7_init 4 = .ok (.aload_n 0, 1) := by decide +kernel
theorem dX7_init_5 : decode cX7_init 5 = .ok (.bipush 40, 2) := by decide +kernel
theorem dX7_init_7 : decode cX7_init 7 = .ok (.newarray .long, 2) := by decide +kernel
theorem dX7_init_9 : decode cX7_init 9 = .ok (.putfield 9, 3) := by decide +kernel
theorem dX7_init_12 : decode cX7_init 12 = .ok (.return_, 1) := by decide +kernel
theorem dX7_begin_0 : decode cX7_begin 0 = .ok (.aload_n 0, 1) := by decide +kernel
theorem dX7_begin_1 : decode cX7_begin 1 = .ok (.iload_n 1, 1) := by decide +kernel
theorem dX7_begin_2 : decode cX7_begin 2 = .ok (.putfield 15, 3) := by decide +kernel
theorem dX7_begin_5 : decode cX7_begin 5 = .ok (.aload_n 0, 1) := by decide +kernel
theorem dX7_begin_6 : decode cX7_begin 6 = .ok (.iload_n 1, 1) := by decide +kernel
theorem dX7_begin_7 : decode cX7_begin 7 = .ok (.ifCond .ne 7, 3) := by decide +kernel
theorem dX7_begin_10 : decode cX7_begin 10 = .ok (.iconst 0, 1) := by decide +kernel
theorem dX7_begin_11 : decode cX7_begin 11 = .ok (.goto 4, 3) := by decide +kernel
theorem dX7_begin_14 : decode cX7_begin 14 = .ok (.iload_n 2, 1) := by decide +kernel
theorem dX7_begin_15 : decode cX7_begin 15 = .ok (.putfield 19, 3) := by decide +kernel
theorem dX7_begin_18 : decode cX7_begin 18 = .ok (.aload_n 0, 1) := by decide +kernel
theorem dX7_begin_19 : decode cX7_begin 19 = .ok (.getfield 9, 3) := by decide +kernel
theorem dX7_begin_22 : decode cX7_begin 22 = .ok (.lconst 0, 1) := by decide +kernel
theorem dX7_begin_23 : decode cX7_begin 23 = .ok (.invokestatic 22, 3) := by decide +kernel
theorem dX7_begin_26 : decode cX7_begin 26 = .ok (.return_, 1) := by decide +kernel
theorem dX7_isMissing_0 : decode cX7_isMissing 0 = .ok (.aload_n 0, 1) := by decide +kernel
theorem dX7_isMissing_1 : decode cX7_isMissing 1 = .ok (.getfield 15, 3) := by decide +kernel
theorem dX7_isMissing_4 : decode cX7_isMissing 4 = .ok (.ifCond .ne 7, 3) := by decide +kernel
theorem dX7_isMissing_7 : decode cX7_isMissing 7 = .ok (.iconst 1, 1) := by decide +kernel
theorem dX7_isMissing_8 : decode cX7_isMissing 8 = .ok (.goto 4, 3) := by decide +kernel
theorem dX7_isMissing_11 : decode cX7_isMissing 11 = .ok (.iconst 0, 1) := by decide +kernel
theorem dX7_isMissing_12 : decode cX7_isMissing 12 = .ok (.ireturn, 1) := by decide +kernel
theorem dX7_put_0 : decode cX7_put 0 = .ok (.aload_n 0, 1) := by decide +kernel
theorem dX7_put_1 : decode cX7_put 1 = .ok (.getfield 9, 3) := by decide +kernel
theorem dX7_put_4 : decode cX7_put 4 = .ok (.iload_n 1, 1) := by decide +kernel
theorem dX7_put_5 : decode cX7_put 5 = .ok (.aload_n 0, 1) := by decide +kernel
theorem dX7_put_6 : decode cX7_put 6 = .ok (.getfield 15, 3) := by decide +kernel
theorem dX7_put_9 : decode cX7_put 9 = .ok (.bipush 8, 2) := by decide +kernel
theorem dX7_put_11 : decode cX7_put 11 = .ok (.if_icmp .ne 10, 3) := by decide +kernel
theorem dX7_put_14 : decode cX7_put 14 = .ok (.lload_n 2, 1) := by decide +kernel
theorem dX7_put_15 : decode cX7_put 15 = .ok (.l2i, 1) := by decide +kernel
theorem dX7_put_16 : decode cX7_put 16 = .ok (.i2b, 1) := by decide +kernel
theorem dX7_put_17 : decode cX7_put 17 = .ok (.i2l, 1) := by decide +kernel
theorem dX7_put_18 : decode cX7_put 18 = .ok (.goto 20, 3) := by decide +kernel
theorem dX7_put_21 : decode cX7_put 21 = .ok (.aload_n 0, 1) := by decide +kernel
theorem dX7_put_22 : decode cX7_put 22 = .ok (.getfield 15, 3) := by decide +kernel
theorem dX7_put_25 : decode cX7_put 25 = .ok (.bipush 16, 2) := by decide +kernel
theorem dX7_put_27 : decode cX7_put 27 = .ok (.if_icmp .ne 10, 3) := by decide +kernel
theorem dX7_put_30 : decode cX7_put 30 = .ok (.lload_n 2, 1) := by decide +kernel
theorem dX7_put_31 : decode cX7_put 31 = .ok (.l2i, 1) := by decide +kernel
theorem dX7_put_32 : decode cX7_put 32 = .ok (.i2s, 1) := by decide +kernel
theorem dX7_put_33 : decode cX7_put 33 = .ok (.i2l, 1) := by decide +kernel
theorem dX7_put_34 : decode cX7_put 34 = .ok (.goto 4, 3) := by decide +kernel
theorem dX7_put_37 : decode cX7_put 37 = .ok (.lload_n 2, 1) := by decide +kernel
theorem dX7_put_38 : decode cX7_put 38 = .ok (.lastore, 1) := by decide +kernel
theorem dX7_put_39 : decode cX7_put 39 = .ok (.return_, 1) := by decide +kernel
theorem dX7_hasSpan_0 : decode cX7_hasSpan 0 = .ok (.iload_n 1, 1) := by decide +kernel
theorem dX7_hasSpan_1 : decode cX7_hasSpan 1 = .ok (.ifCond .lt 29, 3) := by decide +kernel
theorem dX7_hasSpan_4 : decode cX7_hasSpan 4 = .ok (.iload_n 2, 1) := by decide +kernel
theorem dX7_hasSpan_5 : decode cX7_hasSpan 5 = .ok (.ifCond .lt 25, 3) := by decide +kernel
theorem dX7_hasSpan_8 : decode cX7_hasSpan 8 = .ok (.iload_n 2, 1) := by decide +kernel
theorem dX7_hasSpan_9 : decode cX7_hasSpan 9 = .ok (.aload_n 0, 1) := by decide +kernel
theorem dX7_hasSpan_10 : decode cX7_hasSpan 10 = .ok (.getfield 19, 3) := by decide +kernel
theorem dX7_hasSpan_13 : decode cX7_hasSpan 13 = .ok (.if_icmp .gt 17, 3) := by decide +kernel
theorem dX7_hasSpan_16 : decode cX7_hasSpan 16 = .ok (.iload_n 1, 1) := by decide +kernel
theorem dX7_hasSpan_17 : decode cX7_hasSpan 17 = .ok (.aload_n 0, 1) := by decide +kernel
theorem dX7_hasSpan_18 : decode cX7_hasSpan 18 = .ok (.getfield 19, 3) := by decide +kernel
theorem dX7_hasSpan_21 : decode cX7_hasSpan 21 = .ok (.iload_n 2, 1) := by decide +kernel
theorem dX7_hasSpan_22 : decode cX7_hasSpan 22 = .ok (.isub, 1) := by decide +kernel
theorem dX7_hasSpan_23 : decode cX7_hasSpan 23 = .ok (.if_icmp .gt 7, 3) := by decide +kernel
theorem dX7_hasSpan_26 : decode cX7_hasSpan 26 = .ok (.iconst 1, 1) := by decide +kernel
theorem dX7_hasSpan_27 : decode cX7_hasSpan 27 = .ok (.goto 4, 3) := by decide +kernel
theorem dX7_hasSpan_30 : decode cX7_hasSpan 30 = .ok (.iconst 0, 1) := by decide +kernel
theorem dX7_hasSpan_31 : decode cX7_hasSpan 31 = .ok (.ireturn, 1) := by decide +kernel
theorem dX8_init_0 : decode cX8_init 0 = .ok (.aload_n 0, 1) := by decide +kernel
theorem dX8_init_1 : decode cX8_init 1 = .ok (.invokespecial 3, 3) := by decide +kernel
theorem dX8_init_4 : decode cX8_init 4 = .ok (.aload_n 0, 1) := by decide +kernel
theorem dX8_init_5 : decode cX8_init 5 = .ok (.bipush 120, 2) := by decide +kernel
theorem dX8_init_7 : decode cX8_init 7 = .ok (.newarray .byte, 2) := by decide +kernel
theorem dX8_init_9 : decode cX8_init 9 = .ok (.putfield 9, 3) := by decide +kernel
theorem dX8_init_12 : decode cX8_init 12 = .ok (.aload_n 0, 1) := by decide +kernel
theorem dX8_init_13 : decode cX8_init 13 = .ok (.aload_n 1, 1) := by decide +kernel
theorem dX8_init_14 : decode cX8_init 14 = .ok (.putfield 15, 3) := by decide +kernel
theorem dX8_init_17 : decode cX8_init 17 = .ok (.return_, 1) := by decide +kernel
theorem dX8_hasRoomFor_0 : decode cX8_hasRoomFor 0 = .ok (.aload_n 0, 1) := by decide +kernel
theorem dX8_hasRoomFor_1 : decode cX8_hasRoomFor 1 = .ok (.getfield 19, 3) := by decide +kernel
theorem dX8_hasRoomFor_4 : decode cX8_hasRoomFor 4 = .ok (.iload_n 1, 1) := by decide +kernel
theorem dX8_hasRoomFor_5 : decode cX8_hasRoomFor 5 = .ok (.iadd, 1) := by decide +kernel
theorem dX8_hasRoomFor_6 : decode cX8_hasRoomFor 6 = .ok (.bipush 120, 2) := by decide +kernel
theorem dX8_hasRoomFor_8 : decode cX8_hasRoomFor 8 = .ok (.if_icmp .gt 7, 3) := by decide +kernel
theorem dX8_hasRoomFor_11 : decode cX8_hasRoomFor 11 = .ok (.iconst 1, 1) := by decide +kernel
theorem dX8_hasRoomFor_12 : decode cX8_hasRoomFor 12 = .ok (.goto 4, 3) := by decide +kernel
theorem dX8_hasRoomFor_15 : decode cX8_hasRoomFor 15 = .ok (.iconst 0, 1) := by decide +kernel
theorem dX8_hasRoomFor_16 : decode cX8_hasRoomFor 16 = .ok (.ireturn, 1) := by decide +kernel
theorem dX8_append_0 : decode cX8_append 0 = .ok (.iload_n 2, 1) := by decide +kernel
theorem dX8_append_1 : decode cX8_append 1 = .ok (.iconst 1, 1) := by decide +kernel
theorem dX8_append_2 : decode cX8_append 2 = .ok (.isub, 1) := by decide +kernel
theorem dX8_append_3 : decode cX8_append 3 = .ok (.istore_n 3, 1) := by decide +kernel
theorem dX8_append_4 : decode cX8_append 4 = .ok (.iload_n 3, 1) := by decide +kernel
theorem dX8_append_5 : decode cX8_append 5 = .ok (.ifCond .lt 44, 3) := by decide +kernel
theorem dX8_append_8 : decode cX8_append 8 = .ok (.aload_n 0, 1) := by decide +kernel
theorem dX8_append_9 : decode cX8_append 9 = .ok (.getfield 19, 3) := by decide +kernel
theorem dX8_append_12 : decode cX8_append 12 = .ok (.bipush 120, 2) := by decide +kernel
theorem dX8_append_14 : decode cX8_append 14 = .ok (.if_icmp .ge 35, 3) := by decide +kernel
theorem dX8_append_17 : decode cX8_append 17 = .ok (.aload_n 0, 1) := by decide +kernel
theorem dX8_append_18 : decode cX8_append 18 = .ok (.getfield 9, 3) := by decide +kernel
theorem dX8_append_21 : decode cX8_append 21 = .ok (.aload_n 0, 1) := by decide +kernel
theorem dX8_append_22 : decode cX8_append 22 = .ok (.getfield 19, 3) := by decide +kernel
theorem dX8_append_25 : decode cX8_append 25 = .ok (.iload_n 1, 1) := by decide +kernel
theorem dX8_append_26 : decode cX8_append 26 = .ok (.bipush 8, 2) := by decide +kernel
theorem dX8_append_28 : decode cX8_append 28 = .ok (.iload_n 3, 1) := by decide +kernel
theorem dX8_append_29 : decode cX8_append 29 = .ok (.imul, 1) := by decide +kernel
theorem dX8_append_30 : decode cX8_append 30 = .ok (.ishr, 1) := by decide +kernel
theorem dX8_append_31 : decode cX8_append 31 = .ok (.i2b, 1) := by decide +kernel
theorem dX8_append_32 : decode cX8_append 32 = .ok (.bastore, 1) := by decide +kernel
theorem dX8_append_33 : decode cX8_append 33 = .ok (.aload_n 0, 1) := by decide +kernel
theorem dX8_append_34 : decode cX8_append 34 = .ok (.dup, 1) := by decide +kernel
theorem dX8_append_35 : decode cX8_append 35 = .ok (.getfield 19, 3) := by decide +kernel
theorem dX8_append_38 : decode cX8_append 38 = .ok (.iconst 1, 1) := by decide +kernel
theorem dX8_append_39 : decode cX8_append 39 = .ok (.iadd, 1) := by decide +kernel
theorem dX8_append_40 : decode cX8_append 40 = .ok (.putfield 19, 3) := by decide +kernel
theorem dX8_append_43 : decode cX8_append 43 = .ok (.iinc 3 (-1), 3) := by decide +kernel
theorem dX8_append_46 : decode cX8_append 46 = .ok (.goto (-42), 3) := by decide +kernel
theorem dX8_append_49 : decode cX8_append 49 = .ok (.return_, 1) := by decide +kernel
theorem dX8_tellTo_0 : decode cX8_tellTo 0 = .ok (.aload_n 0, 1) := by decide +kernel
theorem dX8_tellTo_1 : decode cX8_tellTo 1 = .ok (.iconst 0, 1) := by decide +kernel
theorem dX8_tellTo_2 : decode cX8_tellTo 2 = .ok (.putfield 23, 3) := by decide +kernel
theorem dX8_tellTo_5 : decode cX8_tellTo 5 = .ok (.aload_n 0, 1) := by decide +kernel
theorem dX8_tellTo_6 : decode cX8_tellTo 6 = .ok (.invokevirtual 26, 3) := by decide +kernel
theorem dX8_tellTo_9 : decode cX8_tellTo 9 = .ok (.iconst 1, 1) := by decide +kernel
theorem dX8_tellTo_10 : decode cX8_tellTo 10 = .ok (.istore_n 2, 1) := by decide +kernel
theorem dX8_tellTo_11 : decode cX8_tellTo 11 = .ok (.iload_n 2, 1) := by decide +kernel
theorem dX8_tellTo_12 : decode cX8_tellTo 12 = .ok (.bipush 120, 2) := by decide +kernel
theorem dX8_tellTo_14 : decode cX8_tellTo 14 = .ok (.if_icmp .gt 52, 3) := by decide +kernel
theorem dX8_tellTo_17 : decode cX8_tellTo 17 = .ok (.aload_n 0, 1) := by decide +kernel
theorem dX8_tellTo_18 : decode cX8_tellTo 18 = .ok (.aload_n 1, 1) := by decide +kernel
theorem dX8_tellTo_19 : decode cX8_tellTo 19 = .ok (.invokevirtual 29, 3) := by decide +kernel
theorem dX8_tellTo_22 : decode cX8_tellTo 22 = .ok (.ifCond .ne 10, 3) := by decide +kernel
theorem dX8_tellTo_25 : decode cX8_tellTo 25 = .ok (.iconst (-1), 1) := by decide +kernel
theorem dX8_tellTo_26 : decode cX8_tellTo 26 = .ok (.aload_n 0, 1) := by decide +kernel
theorem dX8_tellTo_27 : decode cX8_tellTo 27 = .ok (.getfield 33, 3) := by decide +kernel
theorem dX8_tellTo_30 : decode cX8_tellTo 30 = .ok (.isub, 1) := by decide +kernel
theorem dX8_tellTo_31 : decode cX8_tellTo 31 = .ok (.ireturn, 1) := by decide +kernel
theorem dX8_tellTo_32 : decode cX8_tellTo 32 = .ok (.aload_n 0, 1) := by decide +kernel
theorem dX8_tellTo_33 : decode cX8_tellTo 33 = .ok (.getfield 36, 3) := by decide +kernel
theorem dX8_tellTo_36 : decode cX8_tellTo 36 = .ok (.ifCond .ne 5, 3) := by decide +kernel
theorem dX8_tellTo_39 : decode cX8_tellTo 39 = .ok (.iload_n 2, 1) := by decide +kernel
theorem dX8_tellTo_40 : decode cX8_tellTo 40 = .ok (.ireturn, 1) := by decide +kernel
theorem dX8_tellTo_41 : decode cX8_tellTo 41 = .ok (.aload_n 0, 1) := by decide +kernel
theorem dX8_tellTo_42 : decode cX8_tellTo 42 = .ok (.getfield 36, 3) := by decide +kernel
theorem dX8_tellTo_45 : decode cX8_tellTo 45 = .ok (.iconst 3, 1) := by decide +kernel
theorem dX8_tellTo_46 : decode cX8_tellTo 46 = .ok (.if_icmp .eq 10, 3) := by decide +kernel
theorem dX8_tellTo_49 : decode cX8_tellTo 49 = .ok (.iconst (-1), 1) := by decide +kernel
theorem dX8_tellTo_50 : decode cX8_tellTo 50 = .ok (.aload_n 0, 1) := by decide +kernel
theorem dX8_tellTo_51 : decode cX8_tellTo 51 = .ok (.getfield 33, 3) := by decide +kernel
theorem dX8_tellTo_54 : decode cX8_tellTo 54 = .ok (.isub, 1) := by decide +kernel
theorem dX8_tellTo_55 : decode cX8_tellTo 55 = .ok (.ireturn, 1) := by decide +kernel
theorem dX8_tellTo_56 : decode cX8_tellTo 56 = .ok (.aload_n 0, 1) := by decide +kernel
theorem dX8_tellTo_57 : decode cX8_tellTo 57 = .ok (.invokevirtual 26, 3) := by decide +kernel
theorem dX8_tellTo_60 : decode cX8_tellTo 60 = .ok (.iinc 2 1, 3) := by decide +kernel
theorem dX8_tellTo_63 : decode cX8_tellTo 63 = .ok (.goto (-52), 3) := by decide +kernel
theorem dX8_tellTo_66 : decode cX8_tellTo 66 = .ok (.iconst (-1), 1) := by decide +kernel
theorem dX8_tellTo_67 : decode cX8_tellTo 67 = .ok (.aload_n 0, 1) := by decide +kernel
theorem dX8_tellTo_68 : decode cX8_tellTo 68 = .ok (.getfield 33, 3) := by decide +kernel
theorem dX8_tellTo_71 : decode cX8_tellTo 71 = .ok (.isub, 1) := by decide +kernel
theorem dX8_tellTo_72 : decode cX8_tellTo 72 = .ok (.ireturn, 1) := by decide +kernel
theorem dX8_takeItem_0 : decode cX8_takeItem 0 = .ok (.aload_n 0, 1) := by decide +kernel
theorem dX8_takeItem_1 : decode cX8_takeItem 1 = .ok (.invokevirtual 39, 3) := by decide +kernel
theorem dX8_takeItem_4 : decode cX8_takeItem 4 = .ok (.istore_n 2, 1) := by decide +kernel
theorem dX8_takeItem_5 : decode cX8_takeItem 5 = .ok (.iload_n 2, 1) := by decide +kernel
theorem dX8_takeItem_6 : decode cX8_takeItem 6 = .ok (.ifCond .lt 10, 3) := by decide +kernel
theorem dX8_takeItem_9 : decode cX8_takeItem 9 = .ok (.aload_n 0, 1) := by decide +kernel
theorem dX8_takeItem_10 : decode cX8_takeItem 10 = .ok (.aload_n 1, 1) := by decide +kernel
theorem dX8_takeItem_11 : decode cX8_takeItem 11 = .ok (.iload_n 2, 1) := by decide +kernel
theorem dX8_takeItem_12 : decode cX8_takeItem 12 = .ok (.invokevirtual 43, 3) := by decide +kernel
theorem dX8_takeItem_15 : decode cX8_takeItem 15 = .ok (.ireturn, 1) := by decide +kernel
theorem dX8_takeItem_16 : decode cX8_takeItem 16 = .ok (.aload_n 0, 1) := by decide +kernel
theorem dX8_takeItem_17 : decode cX8_takeItem 17 = .ok (.ldc 47, 2) := by decide +kernel
theorem dX8_takeItem_19 : decode cX8_takeItem 19 = .ok (.invokevirtual 49, 3) := by decide +kernel
theorem dX8_takeItem_22 : decode cX8_takeItem 22 = .ok (.ifCond .eq 14, 3) := by decide +kernel
theorem dX8_takeItem_25 : decode cX8_takeItem 25 = .ok (.aload_n 0, 1) := by decide +kernel
theorem dX8_takeItem_26 : decode cX8_takeItem 26 = .ok (.aload_n 1, 1) := by decide +kernel
theorem dX8_takeItem_27 : decode cX8_takeItem 27 = .ok (.getfield 53, 3) := by decide +kernel
theorem dX8_takeItem_30 : decode cX8_takeItem 30 = .ok (.bipush 20, 2) := by decide +kernel
theorem dX8_takeItem_32 : decode cX8_takeItem 32 = .ok (.invokevirtual 59, 3) := by decide +kernel
theorem dX8_takeItem_35 : decode cX8_takeItem 35 = .ok (.ireturn, 1) := by decide +kernel
theorem dX8_takeItem_36 : decode cX8_takeItem 36 = .ok (.aload_n 0, 1) := by decide +kernel
theorem dX8_takeItem_37 : decode cX8_takeItem 37 = .ok (.ldc 63, 2) := by decide +kernel
theorem dX8_takeItem_39 : decode cX8_takeItem 39 = .ok (.invokevirtual 49, 3) := by decide +kernel
theorem dX8_takeItem_42 : decode cX8_takeItem 42 = .ok (.ifCond .eq 14, 3) := by decide +kernel
theorem dX8_takeItem_45 : decode cX8_takeItem 45 = .ok (.aload_n 0, 1) := by decide +kernel
theorem dX8_takeItem_46 : decode cX8_takeItem 46 = .ok (.aload_n 1, 1) := by decide +kernel
theorem dX8_takeItem_47 : decode cX8_takeItem 47 = .ok (.getfield 65, 3) := by decide +kernel
theorem dX8_takeItem_50 : decode cX8_takeItem 50 = .ok (.bipush 9, 2) := by decide +kernel
theorem dX8_takeItem_52 : decode cX8_takeItem 52 = .ok (.invokevirtual 59, 3) := by decide +kernel
theorem dX8_takeItem_55 : decode cX8_takeItem 55 = .ok (.ireturn, 1) := by decide +kernel
theorem dX8_takeItem_56 : decode cX8_takeItem 56 = .ok (.iconst 0, 1) := by decide +kernel
theorem dX8_takeItem_57 : decode cX8_takeItem 57 = .ok (.ireturn, 1) := by decide +kernel
theorem dX8_takeThing_0 : decode cX8_takeThing 0 = .ok (.aload_n 1, 1) := by decide +kernel
theorem dX8_takeThing_1 : decode cX8_takeThing 1 = .ok (.invokevirtual 68, 3) := by decide +kernel
theorem dX8_takeThing_4 : decode cX8_takeThing 4 = .ok (.ifCond .eq 5, 3) := by decide +kernel
theorem dX8_takeThing_7 : decode cX8_takeThing 7 = .ok (.iconst 0, 1) := by decide +kernel
theorem dX8_takeThing_8 : decode cX8_takeThing 8 = .ok (.ireturn, 1) := by decide +kernel
theorem dX8_takeThing_9 : decode cX8_takeThing 9 = .ok (.aload_n 0, 1) := by decide +kernel
theorem dX8_takeThing_10 : decode cX8_takeThing 10 = .ok (.invokevirtual 26, 3) := by decide +kernel
theorem dX8_takeThing_13 : decode cX8_takeThing 13 = .ok (.aload_n 0, 1) := by decide +kernel
theorem dX8_takeThing_14 : decode cX8_takeThing 14 = .ok (.bipush 99, 2) := by decide +kernel
theorem dX8_takeThing_16 : decode cX8_takeThing 16 = .ok (.invokevirtual 72, 3) := by decide +kernel
theorem dX8_takeThing_19 : decode cX8_takeThing 19 = .ok (.istore_n 3, 1) := by decide +kernel
theorem dX8_takeThing_20 : decode cX8_takeThing 20 = .ok (.iload_n 3, 1) := by decide +kernel
theorem dX8_takeThing_21 : decode cX8_takeThing 21 = .ok (.ifCond .ge 5, 3) := by decide +kernel
theorem dX8_takeThing_24 : decode cX8_takeThing 24 = .ok (.iconst 0, 1) := by decide +kernel
theorem dX8_takeThing_25 : decode cX8_takeThing 25 = .ok (.ireturn, 1) := by decide +kernel
theorem dX8_takeThing_26 : decode cX8_takeThing 26 = .ok (.iconst (-1), 1) := by decide +kernel
theorem dX8_takeThing_27 : decode cX8_takeThing 27 = .ok (.istore 4, 2) := by decide +kernel
theorem dX8_takeThing_29 : decode cX8_takeThing 29 = .ok (.aload_n 0, 1) := by decide +kernel
theorem dX8_takeThing_30 : decode cX8_takeThing 30 = .ok (.ldc 76, 2) := by decide +kernel
theorem dX8_takeThing_32 : decode cX8_takeThing 32 = .ok (.invokevirtual 49, 3) := by decide +kernel
theorem dX8_takeThing_35 : decode cX8_takeThing 35 = .ok (.ifCond .eq 21, 3) := by decide +kernel
theorem dX8_takeThing_38 : decode cX8_takeThing 38 = .ok (.aload_n 0, 1) := by decide +kernel
theorem dX8_takeThing_39 : decode cX8_takeThing 39 = .ok (.invokevirtual 26, 3) := by decide +kernel
theorem dX8_takeThing_42 : decode cX8_takeThing 42 = .ok (.aload_n 0, 1) := by decide +kernel
theorem dX8_takeThing_43 : decode cX8_takeThing 43 = .ok (.iconst 5, 1) := by decide +kernel
theorem dX8_takeThing_44 : decode cX8_takeThing 44 = .ok (.invokevirtual 72, 3) := by decide +kernel
theorem dX8_takeThing_47 : decode cX8_takeThing 47 = .ok (.istore 4, 2) := by decide +kernel
theorem dX8_takeThing_49 : decode cX8_takeThing 49 = .ok (.iload 4, 2) := by decide +kernel
theorem dX8_takeThing_51 : decode cX8_takeThing 51 = .ok (.ifCond .ge 5, 3) := by decide +kernel
theorem dX8_takeThing_54 : decode cX8_takeThing 54 = .ok (.iconst 0, 1) := by decide +kernel
theorem dX8_takeThing_55 : decode cX8_takeThing 55 = .ok (.ireturn, 1) := by decide +kernel
theorem dX8_takeThing_56 : decode cX8_takeThing 56 = .ok (.iconst 0, 1) := by decide +kernel
theorem dX8_takeThing_57 : decode cX8_takeThing 57 = .ok (.istore 5, 2) := by decide +kernel
theorem dX8_takeThing_59 : decode cX8_takeThing 59 = .ok (.aload_n 0, 1) := by decide +kernel
theorem dX8_takeThing_60 : decode cX8_takeThing 60 = .ok (.ldc 78, 2) := by decide +kernel
theorem dX8_takeThing_62 : decode cX8_takeThing 62 = .ok (.invokevirtual 49, 3) := by decide +kernel
theorem dX8_takeThing_65 : decode cX8_takeThing 65 = .ok (.ifCond .eq 23, 3) := by decide +kernel
theorem dX8_takeThing_68 : decode cX8_takeThing 68 = .ok (.aload_n 0, 1) := by decide +kernel
theorem dX8_takeThing_69 : decode cX8_takeThing 69 = .ok (.invokevirtual 26, 3) := by decide +kernel
theorem dX8_takeThing_72 : decode cX8_takeThing 72 = .ok (.aload_n 0, 1) := by decide +kernel
theorem dX8_takeThing_73 : decode cX8_takeThing 73 = .ok (.sipush 999, 3) := by decide +kernel
theorem dX8_takeThing_76 : decode cX8_takeThing 76 = .ok (.invokevirtual 72, 3) := by decide +kernel
theorem dX8_takeThing_79 : decode cX8_takeThing 79 = .ok (.istore 5, 2) := by decide +kernel
theorem dX8_takeThing_81 : decode cX8_takeThing 81 = .ok (.iload 5, 2) := by decide +kernel
theorem dX8_takeThing_83 : decode cX8_takeThing 83 = .ok (.ifCond .ge 5, 3) := by decide +kernel
theorem dX8_takeThing_86 : decode cX8_takeThing 86 = .ok (.iconst 0, 1) := by decide +kernel
theorem dX8_takeThing_87 : decode cX8_takeThing 87 = .ok (.ireturn, 1) := by decide +kernel
theorem dX8_takeThing_88 : decode cX8_takeThing 88 = .ok (.aload_n 1, 1) := by decide +kernel
theorem dX8_takeThing_89 : decode cX8_takeThing 89 = .ok (.iload_n 2, 1) := by decide +kernel
theorem dX8_takeThing_90 : decode cX8_takeThing 90 = .ok (.iload_n 3, 1) := by decide +kernel
theorem dX8_takeThing_91 : decode cX8_takeThing 91 = .ok (.iload 4, 2) := by decide +kernel
theorem dX8_takeThing_93 : decode cX8_takeThing 93 = .ok (.iload 5, 2) := by decide +kernel
theorem dX8_takeThing_95 : decode cX8_takeThing 95 = .ok (.invokevirtual 80, 3) := by decide +kernel
theorem dX8_takeThing_98 : decode cX8_takeThing 98 = .ok (.iconst 1, 1) := by decide +kernel
theorem dX8_takeThing_99 : decode cX8_takeThing 99 = .ok (.ireturn, 1) := by decide +kernel
theorem dX8_takeTrait_0 : decode cX8_takeTrait 0 = .ok (.aload_n 0, 1) := by decide +kernel
theorem dX8_takeTrait_1 : decode cX8_takeTrait 1 = .ok (.invokevirtual 26, 3) := by decide +kernel
theorem dX8_takeTrait_4 : decode cX8_takeTrait 4 = .ok (.aload_n 0, 1) := by decide +kernel
theorem dX8_takeTrait_5 : decode cX8_takeTrait 5 = .ok (.iconst 5, 1) := by decide +kernel
theorem dX8_takeTrait_6 : decode cX8_takeTrait 6 = .ok (.invokevirtual 72, 3) := by decide +kernel
theorem dX8_takeTrait_9 : decode cX8_takeTrait 9 = .ok (.istore_n 3, 1) := by decide +kernel
theorem dX8_takeTrait_10 : decode cX8_takeTrait 10 = .ok (.iload_n 3, 1) := by decide +kernel
theorem dX8_takeTrait_11 : decode cX8_takeTrait 11 = .ok (.ifCond .lt 9, 3) := by decide +kernel
theorem dX8_takeTrait_14 : decode cX8_takeTrait 14 = .ok (.iload_n 3, 1) := by decide +kernel
theorem dX8_takeTrait_15 : decode cX8_takeTrait 15 = .ok (.aload_n 1, 1) := by decide +kernel
theorem dX8_takeTrait_16 : decode cX8_takeTrait 16 = .ok (.arraylength, 1) := by decide +kernel
theorem dX8_takeTrait_17 : decode cX8_takeTrait 17 = .ok (.if_icmp .lt 5, 3) := by decide +kernel
theorem dX8_takeTrait_20 : decode cX8_takeTrait 20 = .ok (.iconst 0, 1) := by decide +kernel
theorem dX8_takeTrait_21 : decode cX8_takeTrait 21 = .ok (.ireturn, 1) := by decide +kernel
theorem dX8_takeTrait_22 : decode cX8_takeTrait 22 = .ok (.aload_n 0, 1) := by decide +kernel
theorem dX8_takeTrait_23 : decode cX8_takeTrait 23 = .ok (.iload_n 2, 1) := by decide +kernel
theorem dX8_takeTrait_24 : decode cX8_takeTrait 24 = .ok (.invokevirtual 72, 3) := by decide +kernel
theorem dX8_takeTrait_27 : decode cX8_takeTrait 27 = .ok (.istore 4, 2) := by decide +kernel
theorem dX8_takeTrait_29 : decode cX8_takeTrait 29 = .ok (.iload 4, 2) := by decide +kernel
theorem dX8_takeTrait_31 : decode cX8_takeTrait 31 = .ok (.ifCond .ge 5, 3) := by decide +kernel
theorem dX8_takeTrait_34 : decode cX8_takeTrait 34 = .ok (.iconst 0, 1) := by decide +kernel
theorem dX8_takeTrait_35 : decode cX8_takeTrait 35 = .ok (.ireturn, 1) := by decide +kernel
theorem dX8_takeTrait_36 : decode cX8_takeTrait 36 = .ok (.aload_n 1, 1) := by decide +kernel
theorem dX8_takeTrait_37 : decode cX8_takeTrait 37 = .ok (.iload_n 3, 1) := by decide +kernel
theorem dX8_takeTrait_38 : decode cX8_takeTrait 38 = .ok (.iload 4, 2) := by decide +kernel
theorem dX8_takeTrait_40 : decode cX8_takeTrait 40 = .ok (.iastore, 1) := by decide +kernel
theorem dX8_takeTrait_41 : decode cX8_takeTrait 41 = .ok (.iconst 1, 1) := by decide +kernel
theorem dX8_takeTrait_42 : decode cX8_takeTrait 42 = .ok (.ireturn, 1) := by decide +kernel
theorem dX8_takeNumber_0 : decode cX8_takeNumber 0 = .ok (.aload_n 0, 1) := by decide +kernel
theorem dX8_takeNumber_1 : decode cX8_takeNumber 1 = .ok (.getfield 36, 3) := by decide +kernel
theorem dX8_takeNumber_4 : decode cX8_takeNumber 4 = .ok (.iconst 2, 1) := by decide +kernel
theorem dX8_takeNumber_5 : decode cX8_takeNumber 5 = .ok (.if_icmp .ne 10, 3) := by decide +kernel
theorem dX8_takeNumber_8 : decode cX8_takeNumber 8 = .ok (.aload_n 0, 1) := by decide +kernel
theorem dX8_takeNumber_9 : decode cX8_takeNumber 9 = .ok (.invokevirtual 84, 3) := by decide +kernel
theorem dX8_takeNumber_12 : decode cX8_takeNumber 12 = .ok (.goto 4, 3) := by decide +kernel
theorem dX8_takeNumber_15 : decode cX8_takeNumber 15 = .ok (.iconst (-1), 1) := by decide +kernel
theorem dX8_takeNumber_16 : decode cX8_takeNumber 16 = .ok (.istore_n 2, 1) := by decide +kernel
theorem dX8_takeNumber_17 : decode cX8_takeNumber 17 = .ok (.iload_n 2, 1) := by decide +kernel
theorem dX8_takeNumber_18 : decode cX8_takeNumber 18 = .ok (.ifCond .lt 8, 3) := by decide +kernel
theorem dX8_takeNumber_21 : decode cX8_takeNumber 21 = .ok (.iload_n 2, 1) := by decide +kernel
theorem dX8_takeNumber_22 : decode cX8_takeNumber 22 = .ok (.iload_n 1, 1) := by decide +kernel
theorem dX8_takeNumber_23 : decode cX8_takeNumber 23 = .ok (.if_icmp .le 5, 3) := by decide +kernel
theorem dX8_takeNumber_26 : decode cX8_takeNumber 26 = .ok (.iconst (-1), 1) := by decide +kernel
theorem dX8_takeNumber_27 : decode cX8_takeNumber 27 = .ok (.ireturn, 1) := by decide +kernel
theorem dX8_takeNumber_28 : decode cX8_takeNumber 28 = .ok (.aload_n 0, 1) := by decide +kernel
theorem dX8_takeNumber_29 : decode cX8_takeNumber 29 = .ok (.invokevirtual 26, 3) := by decide +kernel
theorem dX8_takeNumber_32 : decode cX8_takeNumber 32 = .ok (.iload_n 2, 1) := by decide +kernel
theorem dX8_takeNumber_33 : decode cX8_takeNumber 33 = .ok (.ireturn, 1) := by decide +kernel
theorem dX8_kindAtHand_0 : decode cX8_kindAtHand 0 = .ok (.iconst 0, 1) := by decide +kernel
theorem dX8_kindAtHand_1 : decode cX8_kindAtHand 1 = .ok (.istore_n 1, 1) := by decide +kernel
theorem dX8_kindAtHand_2 : decode cX8_kindAtHand 2 = .ok (.iload_n 1, 1) := by decide +kernel
theorem dX8_kindAtHand_3 : decode cX8_kindAtHand 3 = .ok (.aload_n 0, 1) := by decide +kernel
theorem dX8_kindAtHand_4 : decode cX8_kindAtHand 4 = .ok (.getfield 15, 3) := by decide +kernel
theorem dX8_kindAtHand_7 : decode cX8_kindAtHand 7 = .ok (.arraylength, 1) := by decide +kernel
theorem dX8_kindAtHand_8 : decode cX8_kindAtHand 8 = .ok (.if_icmp .ge 27, 3) := by decide +kernel
theorem dX8_kindAtHand_11 : decode cX8_kindAtHand 11 = .ok (.aload_n 0, 1) := by decide +kernel
theorem dX8_kindAtHand_12 : decode cX8_kindAtHand 12 = .ok (.aload_n 0, 1) := by decide +kernel
theorem dX8_kindAtHand_13 : decode cX8_kindAtHand 13 = .ok (.getfield 15, 3) := by decide +kernel
theorem dX8_kindAtHand_16 : decode cX8_kindAtHand 16 = .ok (.iload_n 1, 1) := by decide +kernel
theorem dX8_kindAtHand_17 : decode cX8_kindAtHand 17 = .ok (.aaload, 1) := by decide +kernel
theorem dX8_kindAtHand_18 : decode cX8_kindAtHand 18 = .ok (.getfield 87, 3) := by decide +kernel
theorem dX8_kindAtHand_21 : decode cX8_kindAtHand 21 = .ok (.invokevirtual 49, 3) := by decide +kernel
theorem dX8_kindAtHand_24 : decode cX8_kindAtHand 24 = .ok (.ifCond .eq 5, 3) := by decide +kernel
theorem dX8_kindAtHand_27 : decode cX8_kindAtHand 27 = .ok (.iload_n 1, 1) := by decide +kernel
theorem dX8_kindAtHand_28 : decode cX8_kindAtHand 28 = .ok (.ireturn, 1) := by decide +kernel
theorem dX8_kindAtHand_29 : decode cX8_kindAtHand 29 = .ok (.iinc 1 1, 3) := by decide +kernel
theorem dX8_kindAtHand_32 : decode cX8_kindAtHand 32 = .ok (.goto (-30), 3) := by decide +kernel
theorem dX8_kindAtHand_35 : decode cX8_kindAtHand 35 = .ok (.iconst (-1), 1) := by decide +kernel
theorem dX8_kindAtHand_36 : decode cX8_kindAtHand 36 = .ok (.ireturn, 1) := by decide +kernel
theorem dX8_isAtWord_0 : decode cX8_isAtWord 0 = .ok (.aload_n 0, 1) := by decide +kernel
theorem dX8_isAtWord_1 : decode cX8_isAtWord 1 = .ok (.getfield 36, 3) := by decide +kernel
theorem dX8_isAtWord_4 : decode cX8_isAtWord 4 = .ok (.iconst 1, 1) := by decide +kernel
theorem dX8_isAtWord_5 : decode cX8_isAtWord 5 = .ok (.if_icmp .ne 19, 3) := by decide +kernel
theorem dX8_isAtWord_8 : decode cX8_isAtWord 8 = .ok (.aload_n 0, 1) := by decide +kernel
theorem dX8_isAtWord_9 : decode cX8_isAtWord 9 = .ok (.getfield 23, 3) := by decide +kernel
theorem dX8_isAtWord_12 : decode cX8_isAtWord 12 = .ok (.aload_n 0, 1) := by decide +kernel
theorem dX8_isAtWord_13 : decode cX8_isAtWord 13 = .ok (.getfield 33, 3) := by decide +kernel
theorem dX8_isAtWord_16 : decode cX8_isAtWord 16 = .ok (.isub, 1) := by decide +kernel
theorem dX8_isAtWord_17 : decode cX8_isAtWord 17 = .ok (.aload_n 1, 1) := by decide +kernel
theorem dX8_isAtWord_18 : decode cX8_isAtWord 18 = .ok (.invokevirtual 93, 3) := by decide +kernel
theorem dX8_isAtWord_21 : decode cX8_isAtWord 21 = .ok (.if_icmp .eq 5, 3) := by decide +kernel
theorem dX8_isAtWord_24 : decode cX8_isAtWord 24 = .ok (.iconst 0, 1) := by decide +kernel
theorem dX8_isAtWord_25 : decode cX8_isAtWord 25 = .ok (.ireturn, 1) := by decide +kernel
theorem dX8_isAtWord_26 : decode cX8_isAtWord 26 = .ok (.iconst 0, 1) := by decide +kernel
theorem dX8_isAtWord_27 : decode cX8_isAtWord 27 = .ok (.istore_n 2, 1) := by decide +kernel
theorem dX8_isAtWord_28 : decode cX8_isAtWord 28 = .ok (.iload_n 2, 1) := by decide +kernel
theorem dX8_isAtWord_29 : decode cX8_isAtWord 29 = .ok (.aload_n 1, 1) := by decide +kernel
theorem dX8_isAtWord_30 : decode cX8_isAtWord 30 = .ok (.invokevirtual 93, 3) := by decide +kernel
theorem dX8_isAtWord_33 : decode cX8_isAtWord 33 = .ok (.if_icmp .ge 30, 3) := by decide +kernel
theorem dX8_isAtWord_36 : decode cX8_isAtWord 36 = .ok (.aload_n 0, 1) := by decide +kernel
theorem dX8_isAtWord_37 : decode cX8_isAtWord 37 = .ok (.getfield 9, 3) := by decide +kernel
theorem dX8_isAtWord_40 : decode cX8_isAtWord 40 = .ok (.aload_n 0, 1) := by decide +kernel
theorem dX8_isAtWord_41 : decode cX8_isAtWord 41 = .ok (.getfield 33, 3) := by decide +kernel
theorem dX8_isAtWord_44 : decode cX8_isAtWord 44 = .ok (.iload_n 2, 1) := by decide +kernel
theorem dX8_isAtWord_45 : decode cX8_isAtWord 45 = .ok (.iadd, 1) := by decide +kernel
theorem dX8_isAtWord_46 : decode cX8_isAtWord 46 = .ok (.baload, 1) := by decide +kernel
theorem dX8_isAtWord_47 : decode cX8_isAtWord 47 = .ok (.aload_n 1, 1) := by decide +kernel
theorem dX8_isAtWord_48 : decode cX8_isAtWord 48 = .ok (.iload_n 2, 1) := by decide +kernel
theorem dX8_isAtWord_49 : decode cX8_isAtWord 49 = .ok (.invokevirtual 97, 3) := by decide +kernel
theorem dX8_isAtWord_52 : decode cX8_isAtWord 52 = .ok (.if_icmp .eq 5, 3) := by decide +kernel
theorem dX8_isAtWord_55 : decode cX8_isAtWord 55 = .ok (.iconst 0, 1) := by decide +kernel
theorem dX8_isAtWord_56 : decode cX8_isAtWord 56 = .ok (.ireturn, 1) := by decide +kernel
theorem dX8_isAtWord_57 : decode cX8_isAtWord 57 = .ok (.iinc 2 1, 3) := by decide +kernel
theorem dX8_isAtWord_60 : decode cX8_isAtWord 60 = .ok (.goto (-32), 3) := by decide +kernel
theorem dX8_isAtWord_63 : decode cX8_isAtWord 63 = .ok (.iconst 1, 1) := by decide +kernel
theorem dX8_isAtWord_64 : decode cX8_isAtWord 64 = .ok (.ireturn, 1) := by decide +kernel
theorem dX8_nextToken_0 : decode cX8_nextToken 0 = .ok (.aload_n 0, 1) := by decide +kernel
theorem dX8_nextToken_1 : decode cX8_nextToken 1 = .ok (.aload_n 0, 1) := by decide +kernel
theorem dX8_nextToken_2 : decode cX8_nextToken 2 = .ok (.getfield 23, 3) := by decide +kernel
theorem dX8_nextToken_5 : decode cX8_nextToken 5 = .ok (.putfield 33, 3) := by decide +kernel
theorem dX8_nextToken_8 : decode cX8_nextToken 8 = .ok (.aload_n 0, 1) := by decide +kernel
theorem dX8_nextToken_9 : decode cX8_nextToken 9 = .ok (.getfield 33, 3) := by decide +kernel
theorem dX8_nextToken_12 : decode cX8_nextToken 12 = .ok (.aload_n 0, 1) := by decide +kernel
theorem dX8_nextToken_13 : decode cX8_nextToken 13 = .ok (.getfield 19, 3) := by decide +kernel
theorem dX8_nextToken_16 : decode cX8_nextToken 16 = .ok (.if_icmp .ge 30, 3) := by decide +kernel
theorem dX8_nextToken_19 : decode cX8_nextToken 19 = .ok (.aload_n 0, 1) := by decide +kernel
theorem dX8_nextToken_20 : decode cX8_nextToken 20 = .ok (.getfield 9, 3) := by decide +kernel
theorem dX8_nextToken_23 : decode cX8_nextToken 23 = .ok (.aload_n 0, 1) := by decide +kernel
theorem dX8_nextToken_24 : decode cX8_nextToken 24 = .ok (.getfield 33, 3) := by decide +kernel
theorem dX8_nextToken_27 : decode cX8_nextToken 27 = .ok (.baload, 1) := by decide +kernel
theorem dX8_nextToken_28 : decode cX8_nextToken 28 = .ok (.bipush 32, 2) := by decide +kernel
theorem dX8_nextToken_30 : decode cX8_nextToken 30 = .ok (.if_icmp .ne 16, 3) := by decide +kernel
theorem dX8_nextToken_33 : decode cX8_nextToken 33 = .ok (.aload_n 0, 1) := by decide +kernel
theorem dX8_nextToken_34 : decode cX8_nextToken 34 = .ok (.dup, 1) := by decide +kernel
theorem dX8_nextToken_35 : decode cX8_nextToken 35 = .ok (.getfield 33, 3) := by decide +kernel
theorem dX8_nextToken_38 : decode cX8_nextToken 38 = .ok (.iconst 1, 1) := by decide +kernel
theorem dX8_nextToken_39 : decode cX8_nextToken 39 = .ok (.iadd, 1) := by decide +kernel
theorem dX8_nextToken_40 : decode cX8_nextToken 40 = .ok (.putfield 33, 3) := by decide +kernel
theorem dX8_nextToken_43 : decode cX8_nextToken 43 = .ok (.goto (-35), 3) := by decide +kernel
theorem dX8_nextToken_46 : decode cX8_nextToken 46 = .ok (.aload_n 0, 1) := by decide +kernel
theorem dX8_nextToken_47 : decode cX8_nextToken 47 = .ok (.aload_n 0, 1) := by decide +kernel
theorem dX8_nextToken_48 : decode cX8_nextToken 48 = .ok (.getfield 33, 3) := by decide +kernel
theorem dX8_nextToken_51 : decode cX8_nextToken 51 = .ok (.aload_n 0, 1) := by decide +kernel
theorem dX8_nextToken_52 : decode cX8_nextToken 52 = .ok (.getfield 19, 3) := by decide +kernel
theorem dX8_nextToken_55 : decode cX8_nextToken 55 = .ok (.if_icmp .ge 18, 3) := by decide +kernel
theorem dX8_nextToken_58 : decode cX8_nextToken 58 = .ok (.aload_n 0, 1) := by decide +kernel
theorem dX8_nextToken_59 : decode cX8_nextToken 59 = .ok (.getfield 9, 3) := by decide +kernel
theorem dX8_nextToken_62 : decode cX8_nextToken 62 = .ok (.aload_n 0, 1) := by decide +kernel
theorem dX8_nextToken_63 : decode cX8_nextToken 63 = .ok (.getfield 33, 3) := by decide +kernel
theorem dX8_nextToken_66 : decode cX8_nextToken 66 = .ok (.baload, 1) := by decide +kernel
theorem dX8_nextToken_67 : decode cX8_nextToken 67 = .ok (.invokestatic 101, 3) := by decide +kernel
theorem dX8_nextToken_70 : decode cX8_nextToken 70 = .ok (.goto 4, 3) := by decide +kernel
theorem dX8_nextToken_73 : decode cX8_nextToken 73 = .ok (.iconst 0, 1) := by decide +kernel
theorem dX8_nextToken_74 : decode cX8_nextToken 74 = .ok (.putfield 36, 3) := by decide +kernel
theorem dX8_nextToken_77 : decode cX8_nextToken 77 = .ok (.aload_n 0, 1) := by decide +kernel
theorem dX8_nextToken_78 : decode cX8_nextToken 78 = .ok (.aload_n 0, 1) := by decide +kernel
theorem dX8_nextToken_79 : decode cX8_nextToken 79 = .ok (.getfield 36, 3) := by decide +kernel
theorem dX8_nextToken_82 : decode cX8_nextToken 82 = .ok (.ifCond .ne 10, 3) := by decide +kernel
theorem dX8_nextToken_85 : decode cX8_nextToken 85 = .ok (.aload_n 0, 1) := by decide +kernel
theorem dX8_nextToken_86 : decode cX8_nextToken 86 = .ok (.getfield 33, 3) := by decide +kernel
theorem dX8_nextToken_89 : decode cX8_nextToken 89 = .ok (.goto 9, 3) := by decide +kernel
theorem dX8_nextToken_92 : decode cX8_nextToken 92 = .ok (.aload_n 0, 1) := by decide +kernel
theorem dX8_nextToken_93 : decode cX8_nextToken 93 = .ok (.getfield 33, 3) := by decide +kernel
theorem dX8_nextToken_96 : decode cX8_nextToken 96 = .ok (.iconst 1, 1) := by decide +kernel
theorem dX8_nextToken_97 : decode cX8_nextToken 97 = .ok (.iadd, 1) := by decide +kernel
theorem dX8_nextToken_98 : decode cX8_nextToken 98 = .ok (.putfield 23, 3) := by decide +kernel
theorem dX8_nextToken_101 : decode cX8_nextToken 101 = .ok (.aload_n 0, 1) := by decide +kernel
theorem dX8_nextToken_102 : decode cX8_nextToken 102 = .ok (.getfield 36, 3) := by decide +kernel
theorem dX8_nextToken_105 : decode cX8_nextToken 105 = .ok (.iconst 1, 1) := by decide +kernel
theorem dX8_nextToken_106 : decode cX8_nextToken 106 = .ok (.if_icmp .eq 11, 3) := by decide +kernel
theorem dX8_nextToken_109 : decode cX8_nextToken 109 = .ok (.aload_n 0, 1) := by decide +kernel
theorem dX8_nextToken_110 : decode cX8_nextToken 110 = .ok (.getfield 36, 3) := by decide +kernel
theorem dX8_nextToken_113 : decode cX8_nextToken 113 = .ok (.iconst 2, 1) := by decide +kernel
theorem dX8_nextToken_114 : decode cX8_nextToken 114 = .ok (.if_icmp .ne 46, 3) := by decide +kernel
theorem dX8_nextToken_117 : decode cX8_nextToken 117 = .ok (.aload_n 0, 1) := by decide +kernel
theorem dX8_nextToken_118 : decode cX8_nextToken 118 = .ok (.getfield 23, 3) := by decide +kernel
theorem dX8_nextToken_121 : decode cX8_nextToken 121 = .ok (.aload_n 0, 1) := by decide +kernel
theorem dX8_nextToken_122 : decode cX8_nextToken 122 = .ok (.getfield 19, 3) := by decide +kernel
theorem dX8_nextToken_125 : decode cX8_nextToken 125 = .ok (.if_icmp .ge 35, 3) := by decide +kernel
theorem dX8_nextToken_128 : decode cX8_nextToken 128 = .ok (.aload_n 0, 1) := by decide +kernel
theorem dX8_nextToken_129 : decode cX8_nextToken 129 = .ok (.getfield 9, 3) := by decide +kernel
theorem dX8_nextToken_132 : decode cX8_nextToken 132 = .ok (.aload_n 0, 1) := by decide +kernel
theorem dX8_nextToken_133 : decode cX8_nextToken 133 = .ok (.getfield 23, 3) := by decide +kernel
theorem dX8_nextToken_136 : decode cX8_nextToken 136 = .ok (.baload, 1) := by decide +kernel
theorem dX8_nextToken_137 : decode cX8_nextToken 137 = .ok (.invokestatic 101, 3) := by decide +kernel
theorem dX8_nextToken_140 : decode cX8_nextToken 140 = .ok (.aload_n 0, 1) := by decide +kernel
theorem dX8_nextToken_141 : decode cX8_nextToken 141 = .ok (.getfield 36, 3) := by decide +kernel
theorem dX8_nextToken_144 : decode cX8_nextToken 144 = .ok (.if_icmp .ne 16, 3) := by decide +kernel
theorem dX8_nextToken_147 : decode cX8_nextToken 147 = .ok (.aload_n 0, 1) := by decide +kernel
theorem dX8_nextToken_148 : decode cX8_nextToken 148 = .ok (.dup, 1) := by decide +kernel
theorem dX8_nextToken_149 : decode cX8_nextToken 149 = .ok (.getfield 23, 3) := by decide +kernel
theorem dX8_nextToken_152 : decode cX8_nextToken 152 = .ok (.iconst 1, 1) := by decide +kernel
theorem dX8_nextToken_153 : decode cX8_nextToken 153 = .ok (.iadd, 1) := by decide +kernel
theorem dX8_nextToken_154 : decode cX8_nextToken 154 = .ok (.putfield 23, 3) := by decide +kernel
theorem dX8_nextToken_157 : decode cX8_nextToken 157 = .ok (.goto (-40), 3) := by decide +kernel
theorem dX8_nextToken_160 : decode cX8_nextToken 160 = .ok (.return_, 1) := by decide +kernel
theorem dX8_sortOf_0 : decode cX8_sortOf 0 = .ok (.iload_n 0, 1) := by decide +kernel
theorem dX8_sortOf_1 : decode cX8_sortOf 1 = .ok (.bipush 97, 2) := by decide +kernel
theorem dX8_sortOf_3 : decode cX8_sortOf 3 = .ok (.if_icmp .lt 11, 3) := by decide +kernel
theorem dX8_sortOf_6 : decode cX8_sortOf 6 = .ok (.iload_n 0, 1) := by decide +kernel
theorem dX8_sortOf_7 : decode cX8_sortOf 7 = .ok (.bipush 122, 2) := by decide +kernel
theorem dX8_sortOf_9 : decode cX8_sortOf 9 = .ok (.if_icmp .gt 5, 3) := by decide +kernel
theorem dX8_sortOf_12 : decode cX8_sortOf 12 = .ok (.iconst 1, 1) := by decide +kernel
theorem dX8_sortOf_13 : decode cX8_sortOf 13 = .ok (.ireturn, 1) := by decide +kernel
theorem dX8_sortOf_14 : decode cX8_sortOf 14 = .ok (.iload_n 0, 1) := by decide +kernel
theorem dX8_sortOf_15 : decode cX8_sortOf 15 = .ok (.bipush 48, 2) := by decide +kernel
theorem dX8_sortOf_17 : decode cX8_sortOf 17 = .ok (.if_icmp .lt 11, 3) := by decide +kernel
theorem dX8_sortOf_20 : decode cX8_sortOf 20 = .ok (.iload_n 0, 1) := by decide +kernel
theorem dX8_sortOf_21 : decode cX8_sortOf 21 = .ok (.bipush 57, 2) := by decide +kernel
theorem dX8_sortOf_23 : decode cX8_sortOf 23 = .ok (.if_icmp .gt 5, 3) := by decide +kernel
theorem dX8_sortOf_26 : decode cX8_sortOf 26 = .ok (.iconst 2, 1) := by decide +kernel
theorem dX8_sortOf_27 : decode cX8_sortOf 27 = .ok (.ireturn, 1) := by decide +kernel
theorem dX8_sortOf_28 : decode cX8_sortOf 28 = .ok (.iload_n 0, 1) := by decide +kernel
theorem dX8_sortOf_29 : decode cX8_sortOf 29 = .ok (.bipush 59, 2) := by decide +kernel
theorem dX8_sortOf_31 : decode cX8_sortOf 31 = .ok (.if_icmp .ne 7, 3) := by decide +kernel
theorem dX8_sortOf_34 : decode cX8_sortOf 34 = .ok (.iconst 3, 1) := by decide +kernel
theorem dX8_sortOf_35 : decode cX8_sortOf 35 = .ok (.goto 4, 3) := by decide +kernel
theorem dX8_sortOf_38 : decode cX8_sortOf 38 = .ok (.iconst 4, 1) := by decide +kernel
theorem dX8_sortOf_39 : decode cX8_sortOf 39 = .ok (.ireturn, 1) := by decide +kernel
theorem dX8_valueAtHand_0 : decode cX8_valueAtHand 0 = .ok (.iconst 0, 1) := by decide +kernel
theorem dX8_valueAtHand_1 : decode cX8_valueAtHand 1 = .ok (.istore_n 1, 1) := by decide +kernel
theorem dX8_valueAtHand_2 : decode cX8_valueAtHand 2 = .ok (.aload_n 0, 1) := by decide +kernel
theorem dX8_valueAtHand_3 : decode cX8_valueAtHand 3 = .ok (.getfield 33, 3) := by decide +kernel
theorem dX8_valueAtHand_6 : decode cX8_valueAtHand 6 = .ok (.istore_n 2, 1) := by decide +kernel
theorem dX8_valueAtHand_7 : decode cX8_valueAtHand 7 = .ok (.iload_n 2, 1) := by decide +kernel
theorem dX8_valueAtHand_8 : decode cX8_valueAtHand 8 = .ok (.aload_n 0, 1) := by decide +kernel
theorem dX8_valueAtHand_9 : decode cX8_valueAtHand 9 = .ok (.getfield 23, 3) := by decide +kernel
theorem dX8_valueAtHand_12 : decode cX8_valueAtHand 12 = .ok (.if_icmp .ge 30, 3) := by decide +kernel
theorem dX8_valueAtHand_15 : decode cX8_valueAtHand 15 = .ok (.sipush 1000, 3) := by decide +kernel
theorem dX8_valueAtHand_18 : decode cX8_valueAtHand 18 = .ok (.bipush 10, 2) := by decide +kernel
theorem dX8_valueAtHand_20 : decode cX8_valueAtHand 20 = .ok (.iload_n 1, 1) := by decide +kernel
theorem dX8_valueAtHand_21 : decode cX8_valueAtHand 21 = .ok (.imul, 1) := by decide +kernel
theorem dX8_valueAtHand_22 : decode cX8_valueAtHand 22 = .ok (.aload_n 0, 1) := by decide +kernel
theorem dX8_valueAtHand_23 : decode cX8_valueAtHand 23 = .ok (.getfield 9, 3) := by decide +kernel
theorem dX8_valueAtHand_26 : decode cX8_valueAtHand 26 = .ok (.iload_n 2, 1) := by decide +kernel
theorem dX8_valueAtHand_27 : decode cX8_valueAtHand 27 = .ok (.baload, 1) := by decide +kernel
theorem dX8_valueAtHand_28 : decode cX8_valueAtHand 28 = .ok (.iadd, 1) := by decide +kernel
theorem dX8_valueAtHand_29 : decode cX8_valueAtHand 29 = .ok (.bipush 48, 2) := by decide +kernel
theorem dX8_valueAtHand_31 : decode cX8_valueAtHand 31 = .ok (.isub, 1) := by decide +kernel
theorem dX8_valueAtHand_32 : decode cX8_valueAtHand 32 = .ok (.invokestatic 104, 3) := by decide +kernel
theorem dX8_valueAtHand_35 : decode cX8_valueAtHand 35 = .ok (.istore_n 1, 1) := by decide +kernel
theorem dX8_valueAtHand_36 : decode cX8_valueAtHand 36 = .ok (.iinc 2 1, 3) := by decide +kernel
theorem dX8_valueAtHand_39 : decode cX8_valueAtHand 39 = .ok (.goto (-32), 3) := by decide +kernel
theorem dX8_valueAtHand_42 : decode cX8_valueAtHand 42 = .ok (.iload_n 1, 1) := by decide +kernel
theorem dX8_valueAtHand_43 : decode cX8_valueAtHand 43 = .ok (.ireturn, 1) := by decide +kernel
theorem dX9_init_0 : decode cX9_init 0 = .ok (.aload_n 0, 1) := by decide +kernel
theorem dX9_init_1 : decode cX9_init 1 = .ok (.invokespecial 1, 3) := by decide +kernel
theorem dX9_init_4 : decode cX9_init 4 = .ok (.bipush 6, 2) := by decide +kernel
theorem dX9_init_6 : decode cX9_init 6 = .ok (.anewarray 7, 3) := by decide +kernel
theorem dX9_init_9 : decode cX9_init 9 = .ok (.dup, 1) := by decide +kernel
theorem dX9_init_10 : decode cX9_init 10 = .ok (.iconst 0, 1) := by decide +kernel
theorem dX9_init_11 : decode cX9_init 11 = .ok (.new 7, 3) := by decide +kernel
theorem dX9_init_14 : decode cX9_init 14 = .ok (.dup, 1) := by decide +kernel
theorem dX9_init_15 : decode cX9_init 15 = .ok (.ldc 9, 2) := by decide +kernel
theorem dX9_init_17 : decode cX9_init 17 = .ok (.invokespecial 11, 3) := by decide +kernel
theorem dX9_init_20 : decode cX9_init 20 = .ok (.aastore, 1) := by decide +kernel
theorem dX9_init_21 : decode cX9_init 21 = .ok (.dup, 1) := by decide +kernel
theorem dX9_init_22 : decode cX9_init 22 = .ok (.iconst 1, 1) := by decide +kernel
theorem dX9_init_23 : decode cX9_init 23 = .ok (.new 14, 3) := by decide +kernel
theorem dX9_init_26 : decode cX9_init 26 = .ok (.dup, 1) := by decide +kernel
theorem dX9_init_27 : decode cX9_init 27 = .ok (.ldc 16, 2) := by decide +kernel
theorem dX9_init_29 : decode cX9_init 29 = .ok (.invokespecial 18, 3) := by decide +kernel
theorem dX9_init_32 : decode cX9_init 32 = .ok (.aastore, 1) := by decide +kernel
theorem dX9_init_33 : decode cX9_init 33 = .ok (.dup, 1) := by decide +kernel
theorem dX9_init_34 : decode cX9_init 34 = .ok (.iconst 2, 1) := by decide +kernel
theorem dX9_init_35 : decode cX9_init 35 = .ok (.new 19, 3) := by decide +kernel
theorem dX9_init_38 : decode cX9_init 38 = .ok (.dup, 1) := by decide +kernel
theorem dX9_init_39 : decode cX9_init 39 = .ok (.ldc 21, 2) := by decide +kernel
theorem dX9_init_41 : decode cX9_init 41 = .ok (.invokespecial 23, 3) := by decide +kernel
theorem dX9_init_44 : decode cX9_init 44 = .ok (.aastore, 1) := by decide +kernel
theorem dX9_init_45 : decode cX9_init 45 = .ok (.dup, 1) := by decide +kernel
theorem dX9_init_46 : decode cX9_init 46 = .ok (.iconst 3, 1) := by decide +kernel
theorem dX9_init_47 : decode cX9_init 47 = .ok (.new 24, 3) := by decide +kernel
theorem dX9_init_50 : decode cX9_init 50 = .ok (.dup, 1) := by decide +kernel
theorem dX9_init_51 : decode cX9_init 51 = .ok (.ldc 26, 2) := by decide +kernel
theorem dX9_init_53 : decode cX9_init 53 = .ok (.invokespecial 28, 3) := by decide +kernel
theorem dX9_init_56 : decode cX9_init 56 = .ok (.aastore, 1) := by decide +kernel
theorem dX9_init_57 : decode cX9_init 57 = .ok (.dup, 1) := by decide +kernel
theorem dX9_init_58 : decode cX9_init 58 = .ok (.iconst 4, 1) := by decide +kernel
theorem dX9_init_59 : decode cX9_init 59 = .ok (.new 29, 3) := by decide +kernel
theorem dX9_init_62 : decode cX9_init 62 = .ok (.dup, 1) := by decide +kernel
theorem dX9_init_63 : decode cX9_init 63 = .ok (.ldc 31, 2) := by decide +kernel
theorem dX9_init_65 : decode cX9_init 65 = .ok (.invokespecial 33, 3) := by decide +kernel
theorem dX9_init_68 : decode cX9_init 68 = .ok (.aastore, 1) := by decide +kernel
theorem dX9_init_69 : decode cX9_init 69 = .ok (.dup, 1) := by decide +kernel
theorem dX9_init_70 : decode cX9_init 70 = .ok (.iconst 5, 1) := by decide +kernel
theorem dX9_init_71 : decode cX9_init 71 = .ok (.new 34, 3) := by decide +kernel
theorem dX9_init_74 : decode cX9_init 74 = .ok (.dup, 1) := by decide +kernel
theorem dX9_init_75 : decode cX9_init 75 = .ok (.ldc 36, 2) := by decide +kernel
theorem dX9_init_77 : decode cX9_init 77 = .ok (.invokespecial 38, 3) := by decide +kernel
theorem dX9_init_80 : decode cX9_init 80 = .ok (.aastore, 1) := by decide +kernel
theorem dX9_init_81 : decode cX9_init 81 = .ok (.astore_n 1, 1) := by decide +kernel
theorem dX9_init_82 : decode cX9_init 82 = .ok (.aload_n 0, 1) := by decide +kernel
theorem dX9_init_83 : decode cX9_init 83 = .ok (.new 39, 3) := by decide +kernel
theorem dX9_init_86 : decode cX9_init 86 = .ok (.dup, 1) := by decide +kernel
theorem dX9_init_87 : decode cX9_init 87 = .ok (.aload_n 1, 1) := by decide +kernel
theorem dX9_init_88 : decode cX9_init 88 = .ok (.invokespecial 41, 3) := by decide +kernel
theorem dX9_init_91 : decode cX9_init 91 = .ok (.putfield 44, 3) := by decide +kernel
theorem dX9_init_94 : decode cX9_init 94 = .ok (.aload_n 0, 1) := by decide +kernel
theorem dX9_init_95 : decode cX9_init 95 = .ok (.new 39, 3) := by decide +kernel
theorem dX9_init_98 : decode cX9_init 98 = .ok (.dup, 1) := by decide +kernel
theorem dX9_init_99 : decode cX9_init 99 = .ok (.aload_n 1, 1) := by decide +kernel
theorem dX9_init_100 : decode cX9_init 100 = .ok (.invokespecial 41, 3) := by decide +kernel
theorem dX9_init_103 : decode cX9_init 103 = .ok (.putfield 50, 3) := by decide +kernel
theorem dX9_init_106 : decode cX9_init 106 = .ok (.aload_n 0, 1) := by decide +kernel
theorem dX9_init_107 : decode cX9_init 107 = .ok (.new 39, 3) := by decide +kernel
theorem dX9_init_110 : decode cX9_init 110 = .ok (.dup, 1) := by decide +kernel
theorem dX9_init_111 : decode cX9_init 111 = .ok (.aload_n 1, 1) := by decide +kernel
theorem dX9_init_112 : decode cX9_init 112 = .ok (.invokespecial 41, 3) := by decide +kernel
theorem dX9_init_115 : decode cX9_init 115 = .ok (.putfield 53, 3) := by decide +kernel
theorem dX9_init_118 : decode cX9_init 118 = .ok (.aload_n 0, 1) := by decide +kernel
theorem dX9_init_119 : decode cX9_init 119 = .ok (.iconst 0, 1) := by decide +kernel
theorem dX9_init_120 : decode cX9_init 120 = .ok (.putfield 56, 3) := by decide +kernel
theorem dX9_init_123 : decode cX9_init 123 = .ok (.aload_n 0, 1) := by decide +kernel
theorem dX9_init_124 : decode cX9_init 124 = .ok (.new 60, 3) := by decide +kernel
theorem dX9_init_127 : decode cX9_init 127 = .ok (.dup, 1) := by decide +kernel
theorem dX9_init_128 : decode cX9_init 128 = .ok (.aload_n 1, 1) := by decide +kernel
theorem dX9_init_129 : decode cX9_init 129 = .ok (.invokespecial 62, 3) := by decide +kernel
theorem dX9_init_132 : decode cX9_init 132 = .ok (.putfield 63, 3) := by decide +kernel
theorem dX9_init_135 : decode cX9_init 135 = .ok (.aload_n 0, 1) := by decide +kernel
theorem dX9_init_136 : decode cX9_init 136 = .ok (.iconst 4, 1) := by decide +kernel
theorem dX9_init_137 : decode cX9_init 137 = .ok (.anewarray 67, 3) := by decide +kernel
theorem dX9_init_140 : decode cX9_init 140 = .ok (.putfield 69, 3) := by decide +kernel
theorem dX9_init_143 : decode cX9_init 143 = .ok (.iconst 0, 1) := by decide +kernel
theorem dX9_init_144 : decode cX9_init 144 = .ok (.istore_n 2, 1) := by decide +kernel
theorem dX9_init_145 : decode cX9_init 145 = .ok (.iload_n 2, 1) := by decide +kernel
theorem dX9_init_146 : decode cX9_init 146 = .ok (.iconst 4, 1) := by decide +kernel
theorem dX9_init_147 : decode cX9_init 147 = .ok (.if_icmp .ge 22, 3) := by decide +kernel
theorem dX9_init_150 : decode cX9_init 150 = .ok (.aload_n 0, 1) := by decide +kernel
theorem dX9_init_151 : decode cX9_init 151 = .ok (.getfield 69, 3) := by decide +kernel
theorem dX9_init_154 : decode cX9_init 154 = .ok (.iload_n 2, 1) := by decide +kernel
theorem dX9_init_155 : decode cX9_init 155 = .ok (.new 67, 3) := by decide +kernel
theorem dX9_init_158 : decode cX9_init 158 = .ok (.dup, 1) := by decide +kernel
theorem dX9_init_159 : decode cX9_init 159 = .ok (.invokespecial 73, 3) := by decide +kernel
theorem dX9_init_162 : decode cX9_init 162 = .ok (.aastore, 1) := by decide +kernel
theorem dX9_init_163 : decode cX9_init 163 = .ok (.iinc 2 1, 3) := by decide +kernel
theorem dX9_init_166 : decode cX9_init 166 = .ok (.goto (-21), 3) := by decide +kernel
theorem dX9_init_169 : decode cX9_init 169 = .ok (.aload_n 0, 1) := by decide +kernel
theorem dX9_init_170 : decode cX9_init 170 = .ok (.bipush 7, 2) := by decide +kernel
theorem dX9_init_172 : decode cX9_init 172 = .ok (.newarray .int, 2) := by decide +kernel
theorem dX9_init_174 : decode cX9_init 174 = .ok (.putfield 74, 3) := by decide +kernel
theorem dX9_init_177 : decode cX9_init 177 = .ok (.return_, 1) := by decide +kernel
theorem dX9_person_0 : decode cX9_person 0 = .ok (.iload_n 1, 1) := by decide +kernel
theorem dX9_person_1 : decode cX9_person 1 = .ok (.invokestatic 78, 3) := by decide +kernel
theorem dX9_person_4 : decode cX9_person 4 = .ok (.ifCond .ne 10, 3) := by decide +kernel
theorem dX9_person_7 : decode cX9_person 7 = .ok (.aload_n 0, 1) := by decide +kernel
theorem dX9_person_8 : decode cX9_person 8 = .ok (.ldc 82, 2) := by decide +kernel
theorem dX9_person_10 : decode cX9_person 10 = .ok (.invokevirtual 83, 3) := by decide +kernel
theorem dX9_person_13 : decode cX9_person 13 = .ok (.ireturn, 1) := by decide +kernel
theorem dX9_person_14 : decode cX9_person 14 = .ok (.iload_n 2, 1) := by decide +kernel
theorem dX9_person_15 : decode cX9_person 15 = .ok (.tableswitch 122 0 2 #[25, 57, 89], 25) := by decide +kernel
theorem dX9_person_40 : decode cX9_person 40 = .ok (.iload_n 3, 1) := by decide +kernel
theorem dX9_person_41 : decode cX9_person 41 = .ok (.iconst 0, 1) := by decide +kernel
theorem dX9_person_42 : decode cX9_person 42 = .ok (.bipush 20, 2) := by decide +kernel
theorem dX9_person_44 : decode cX9_person 44 = .ok (.invokestatic 87, 3) := by decide +kernel
theorem dX9_person_47 : decode cX9_person 47 = .ok (.ifCond .eq 18, 3) := by decide +kernel
theorem dX9_person_50 : decode cX9_person 50 = .ok (.aload_n 0, 1) := by decide +kernel
theorem dX9_person_51 : decode cX9_person 51 = .ok (.getfield 44, 3) := by decide +kernel
theorem dX9_person_54 : decode cX9_person 54 = .ok (.getfield 91, 3) := by decide +kernel
theorem dX9_person_57 : decode cX9_person 57 = .ok (.iload_n 1, 1) := by decide +kernel
theorem dX9_person_58 : decode cX9_person 58 = .ok (.iload_n 3, 1) := by decide +kernel
theorem dX9_person_59 : decode cX9_person 59 = .ok (.invokestatic 94, 3) := by decide +kernel
theorem dX9_person_62 : decode cX9_person 62 = .ok (.goto 9, 3) := by decide +kernel
theorem dX9_person_65 : decode cX9_person 65 = .ok (.aload_n 0, 1) := by decide +kernel
theorem dX9_person_66 : decode cX9_person 66 = .ok (.ldc 82, 2) := by decide +kernel
theorem dX9_person_68 : decode cX9_person 68 = .ok (.invokevirtual 83, 3) := by decide +kernel
theorem dX9_person_71 : decode cX9_person 71 = .ok (.ireturn, 1) := by decide +kernel
theorem dX9_person_72 : decode cX9_person 72 = .ok (.iload_n 3, 1) := by decide +kernel
theorem dX9_person_73 : decode cX9_person 73 = .ok (.iconst 0, 1) := by decide +kernel
theorem dX9_person_74 : decode cX9_person 74 = .ok (.bipush 9, 2) := by decide +kernel
theorem dX9_person_76 : decode cX9_person 76 = .ok (.invokestatic 87, 3) := by decide +kernel
theorem dX9_person_79 : decode cX9_person 79 = .ok (.ifCond .eq 18, 3) := by decide +kernel
theorem dX9_person_82 : decode cX9_person 82 = .ok (.aload_n 0, 1) := by decide +kernel
theorem dX9_person_83 : decode cX9_person 83 = .ok (.getfield 44, 3) := by decide +kernel
theorem dX9_person_86 : decode cX9_person 86 = .ok (.getfield 98, 3) := by decide +kernel
theorem dX9_person_89 : decode cX9_person 89 = .ok (.iload_n 1, 1) := by decide +kernel
theorem dX9_person_90 : decode cX9_person 90 = .ok (.iload_n 3, 1) := by decide +kernel
theorem dX9_person_91 : decode cX9_person 91 = .ok (.invokestatic 94, 3) := by decide +kernel
theorem dX9_person_94 : decode cX9_person 94 = .ok (.goto 9, 3) := by decide +kernel
theorem dX9_person_97 : decode cX9_person 97 = .ok (.aload_n 0, 1) := by decide +kernel
theorem dX9_person_98 : decode cX9_person 98 = .ok (.ldc 82, 2) := by decide +kernel
theorem dX9_person_100 : decode cX9_person 100 = .ok (.invokevirtual 83, 3) := by decide +kernel
theorem dX9_person_103 : decode cX9_person 103 = .ok (.ireturn, 1) := by decide +kernel
theorem dX9_person_104 : decode cX9_person 104 = .ok (.iload_n 3, 1) := by decide +kernel
theorem dX9_person_105 : decode cX9_person 105 = .ok (.iconst 0, 1) := by decide +kernel
theorem dX9_person_106 : decode cX9_person 106 = .ok (.sipush 999, 3) := by decide +kernel
theorem dX9_person_109 : decode cX9_person 109 = .ok (.invokestatic 87, 3) := by decide +kernel
theorem dX9_person_112 : decode cX9_person 112 = .ok (.ifCond .eq 18, 3) := by decide +kernel
theorem dX9_person_115 : decode cX9_person 115 = .ok (.aload_n 0, 1) := by decide +kernel
theorem dX9_person_116 : decode cX9_person 116 = .ok (.getfield 44, 3) := by decide +kernel
theorem dX9_person_119 : decode cX9_person 119 = .ok (.getfield 101, 3) := by decide +kernel
theorem dX9_person_122 : decode cX9_person 122 = .ok (.iload_n 1, 1) := by decide +kernel
theorem dX9_person_123 : decode cX9_person 123 = .ok (.iload_n 3, 1) := by decide +kernel
theorem dX9_person_124 : decode cX9_person 124 = .ok (.invokestatic 94, 3) := by decide +kernel
theorem dX9_person_127 : decode cX9_person 127 = .ok (.goto 9, 3) := by decide +kernel
theorem dX9_person_130 : decode cX9_person 130 = .ok (.aload_n 0, 1) := by decide +kernel
theorem dX9_person_131 : decode cX9_person 131 = .ok (.ldc 82, 2) := by decide +kernel
theorem dX9_person_133 : decode cX9_person 133 = .ok (.invokevirtual 83, 3) := by decide +kernel
theorem dX9_person_136 : decode cX9_person 136 = .ok (.ireturn, 1) := by decide +kernel
theorem dX9_person_137 : decode cX9_person 137 = .ok (.aload_n 0, 1) := by decide +kernel
theorem dX9_person_138 : decode cX9_person 138 = .ok (.ldc 82, 2) := by decide +kernel
theorem dX9_person_140 : decode cX9_person 140 = .ok (.invokevirtual 83, 3) := by decide +kernel
theorem dX9_person_143 : decode cX9_person 143 = .ok (.ireturn, 1) := by decide +kernel
theorem dX9_personOf_0 : decode cX9_personOf 0 = .ok (.iload_n 1, 1) := by decide +kernel
theorem dX9_personOf_1 : decode cX9_personOf 1 = .ok (.invokestatic 78, 3) := by decide +kernel
theorem dX9_personOf_4 : decode cX9_personOf 4 = .ok (.ifCond .ne 10, 3) := by decide +kernel
theorem dX9_personOf_7 : decode cX9_personOf 7 = .ok (.aload_n 0, 1) := by decide +kernel
theorem dX9_personOf_8 : decode cX9_personOf 8 = .ok (.ldc 82, 2) := by decide +kernel
theorem dX9_personOf_10 : decode cX9_personOf 10 = .ok (.invokevirtual 83, 3) := by decide +kernel
theorem dX9_personOf_13 : decode cX9_personOf 13 = .ok (.ireturn, 1) := by decide +kernel
theorem dX9_personOf_14 : decode cX9_personOf 14 = .ok (.iload_n 2, 1) := by decide +kernel
theorem dX9_personOf_15 : decode cX9_personOf 15 = .ok (.tableswitch 94 0 4 #[33, 43, 53, 63, 72], 33) := by decide +kernel
theorem dX9_personOf_48 : decode cX9_personOf 48 = .ok (.aload_n 0, 1) := by decide +kernel
theorem dX9_personOf_49 : decode cX9_personOf 49 = .ok (.getfield 44, 3) := by decide +kernel
theorem dX9_personOf_52 : decode cX9_personOf 52 = .ok (.getfield 91, 3) := by decide +kernel
theorem dX9_personOf_55 : decode cX9_personOf 55 = .ok (.iload_n 1, 1) := by decide +kernel
theorem dX9_personOf_56 : decode cX9_personOf 56 = .ok (.iaload, 1) := by decide +kernel
theorem dX9_personOf_57 : decode cX9_personOf 57 = .ok (.ireturn, 1) := by decide +kernel
theorem dX9_personOf_58 : decode cX9_personOf 58 = .ok (.aload_n 0, 1) := by decide +kernel
theorem dX9_personOf_59 : decode cX9_personOf 59 = .ok (.getfield 44, 3) := by decide +kernel
theorem dX9_personOf_62 : decode cX9_personOf 62 = .ok (.getfield 98, 3) := by decide +kernel
theorem dX9_personOf_65 : decode cX9_personOf 65 = .ok (.iload_n 1, 1) := by decide +kernel
theorem dX9_personOf_66 : decode cX9_personOf 66 = .ok (.iaload, 1) := by decide +kernel
theorem dX9_personOf_67 : decode cX9_personOf 67 = .ok (.ireturn, 1) := by decide +kernel
theorem dX9_personOf_68 : decode cX9_personOf 68 = .ok (.aload_n 0, 1) := by decide +kernel
theorem dX9_personOf_69 : decode cX9_personOf 69 = .ok (.getfield 44, 3) := by decide +kernel
theorem dX9_personOf_72 : decode cX9_personOf 72 = .ok (.getfield 101, 3) := by decide +kernel
theorem dX9_personOf_75 : decode cX9_personOf 75 = .ok (.iload_n 1, 1) := by decide +kernel
theorem dX9_personOf_76 : decode cX9_personOf 76 = .ok (.iaload, 1) := by decide +kernel
theorem dX9_personOf_77 : decode cX9_personOf 77 = .ok (.ireturn, 1) := by decide +kernel
theorem dX9_personOf_78 : decode cX9_personOf 78 = .ok (.aload_n 0, 1) := by decide +kernel
theorem dX9_personOf_79 : decode cX9_personOf 79 = .ok (.getfield 44, 3) := by decide +kernel
theorem dX9_personOf_82 : decode cX9_personOf 82 = .ok (.iload_n 1, 1) := by decide +kernel
theorem dX9_personOf_83 : decode cX9_personOf 83 = .ok (.invokevirtual 104, 3) := by decide +kernel
theorem dX9_personOf_86 : decode cX9_personOf 86 = .ok (.ireturn, 1) := by decide +kernel
theorem dX9_personOf_87 : decode cX9_personOf 87 = .ok (.aload_n 0, 1) := by decide +kernel
theorem dX9_personOf_88 : decode cX9_personOf 88 = .ok (.getfield 44, 3) := by decide +kernel
theorem dX9_personOf_91 : decode cX9_personOf 91 = .ok (.iload_n 1, 1) := by decide +kernel
theorem dX9_personOf_92 : decode cX9_personOf 92 = .ok (.invokevirtual 104, 3) := by decide +kernel
theorem dX9_personOf_95 : decode cX9_personOf 95 = .ok (.aload_n 0, 1) := by decide +kernel
theorem dX9_personOf_96 : decode cX9_personOf 96 = .ok (.getfield 44, 3) := by decide +kernel
theorem dX9_personOf_99 : decode cX9_personOf 99 = .ok (.invokevirtual 107, 3) := by decide +kernel
theorem dX9_personOf_102 : decode cX9_personOf 102 = .ok (.iconst (-1), 1) := by decide +kernel
theorem dX9_personOf_103 : decode cX9_personOf 103 = .ok (.ixor, 1) := by decide +kernel
theorem dX9_personOf_104 : decode cX9_personOf 104 = .ok (.iand, 1) := by decide +kernel
theorem dX9_personOf_105 : decode cX9_personOf 105 = .ok (.invokestatic 111, 3) := by decide +kernel
theorem dX9_personOf_108 : decode cX9_personOf 108 = .ok (.ireturn, 1) := by decide +kernel
theorem dX9_personOf_109 : decode cX9_personOf 109 = .ok (.aload_n 0, 1) := by decide +kernel
theorem dX9_personOf_110 : decode cX9_personOf 110 = .ok (.ldc 82, 2) := by decide +kernel
theorem dX9_personOf_112 : decode cX9_personOf 112 = .ok (.invokevirtual 83, 3) := by decide +kernel
theorem dX9_personOf_115 : decode cX9_personOf 115 = .ok (.ireturn, 1) := by decide +kernel
theorem dX9_thing_0 : decode cX9_thing 0 = .ok (.iload_n 1, 1) := by decide +kernel
theorem dX9_thing_1 : decode cX9_thing 1 = .ok (.invokestatic 116, 3) := by decide +kernel
theorem dX9_thing_4 : decode cX9_thing 4 = .ok (.ifCond .eq 13, 3) := by decide +kernel
theorem dX9_thing_7 : decode cX9_thing 7 = .ok (.iload_n 2, 1) := by decide +kernel
theorem dX9_thing_8 : decode cX9_thing 8 = .ok (.iconst 0, 1) := by decide +kernel
theorem dX9_thing_9 : decode cX9_thing 9 = .ok (.bipush 99, 2) := by decide +kernel
theorem dX9_thing_11 : decode cX9_thing 11 = .ok (.invokestatic 87, 3) := by decide +kernel
theorem dX9_thing_14 : decode cX9_thing 14 = .ok (.ifCond .ne 10, 3) := by decide +kernel
theorem dX9_thing_17 : decode cX9_thing 17 = .ok (.aload_n 0, 1) := by decide +kernel
theorem dX9_thing_18 : decode cX9_thing 18 = .ok (.ldc 82, 2) := by decide +kernel
theorem dX9_thing_20 : decode cX9_thing 20 = .ok (.invokevirtual 83, 3) := by decide +kernel
theorem dX9_thing_23 : decode cX9_thing 23 = .ok (.ireturn, 1) := by decide +kernel
theorem dX9_thing_24 : decode cX9_thing 24 = .ok (.aload_n 0, 1) := by decide +kernel
theorem dX9_thing_25 : decode cX9_thing 25 = .ok (.getfield 44, 3) := by decide +kernel
theorem dX9_thing_28 : decode cX9_thing 28 = .ok (.invokevirtual 119, 3) := by decide +kernel
theorem dX9_thing_31 : decode cX9_thing 31 = .ok (.ifCond .eq 10, 3) := by decide +kernel
theorem dX9_thing_34 : decode cX9_thing 34 = .ok (.aload_n 0, 1) := by decide +kernel
theorem dX9_thing_35 : decode cX9_thing 35 = .ok (.ldc 123, 2) := by decide +kernel
theorem dX9_thing_37 : decode cX9_thing 37 = .ok (.invokevirtual 83, 3) := by decide +kernel
theorem dX9_thing_40 : decode cX9_thing 40 = .ok (.ireturn, 1) := by decide +kernel
theorem dX9_thing_41 : decode cX9_thing 41 = .ok (.aload_n 0, 1) := by decide +kernel
theorem dX9_thing_42 : decode cX9_thing 42 = .ok (.getfield 44, 3) := by decide +kernel
theorem dX9_thing_45 : decode cX9_thing 45 = .ok (.getfield 124, 3) := by decide +kernel
theorem dX9_thing_48 : decode cX9_thing 48 = .ok (.istore_n 3, 1) := by decide +kernel
theorem dX9_thing_49 : decode cX9_thing 49 = .ok (.aload_n 0, 1) := by decide +kernel
theorem dX9_thing_50 : decode cX9_thing 50 = .ok (.getfield 44, 3) := by decide +kernel
theorem dX9_thing_53 : decode cX9_thing 53 = .ok (.iload_n 1, 1) := by decide +kernel
theorem dX9_thing_54 : decode cX9_thing 54 = .ok (.iload_n 2, 1) := by decide +kernel
theorem dX9_thing_55 : decode cX9_thing 55 = .ok (.iconst (-1), 1) := by decide +kernel
theorem dX9_thing_56 : decode cX9_thing 56 = .ok (.iconst 0, 1) := by decide +kernel
theorem dX9_thing_57 : decode cX9_thing 57 = .ok (.invokevirtual 128, 3) := by decide +kernel
theorem dX9_thing_60 : decode cX9_thing 60 = .ok (.iload_n 3, 1) := by decide +kernel
theorem dX9_thing_61 : decode cX9_thing 61 = .ok (.ireturn, 1) := by decide +kernel
theorem dX9_of_0 : decode cX9_of 0 = .ok (.aload_n 0, 1) := by decide +kernel
theorem dX9_of_1 : decode cX9_of 1 = .ok (.iload_n 1, 1) := by decide +kernel
theorem dX9_of_2 : decode cX9_of 2 = .ok (.invokevirtual 132, 3) := by decide +kernel
theorem dX9_of_5 : decode cX9_of 5 = .ok (.ifCond .ne 10, 3) := by decide +kernel
theorem dX9_of_8 : decode cX9_of 8 = .ok (.aload_n 0, 1) := by decide +kernel
theorem dX9_of_9 : decode cX9_of 9 = .ok (.ldc 82, 2) := by decide +kernel
theorem dX9_of_11 : decode cX9_of 11 = .ok (.invokevirtual 83, 3) := by decide +kernel
theorem dX9_of_14 : decode cX9_of 14 = .ok (.ireturn, 1) := by decide +kernel
theorem dX9_of_15 : decode cX9_of 15 = .ok (.iload_n 2, 1) := by decide +kernel
theorem dX9_of_16 : decode cX9_of 16 = .ok (.tableswitch 122 0 5 #[40, 50, 60, 70, 80, 92], 40) := by decide +kernel
theorem dX9_of_56 : decode cX9_of 56 = .ok (.aload_n 0, 1) := by decide +kernel
theorem dX9_of_57 : decode cX9_of 57 = .ok (.getfield 44, 3) := by decide +kernel
theorem dX9_of_60 : decode cX9_of 60 = .ok (.getfield 135, 3) := by decide +kernel
theorem dX9_of_63 : decode cX9_of 63 = .ok (.iload_n 1, 1) := by decide +kernel
theorem dX9_of_64 : decode cX9_of 64 = .ok (.iaload, 1) := by decide +kernel
theorem dX9_of_65 : decode cX9_of 65 = .ok (.ireturn, 1) := by decide +kernel
theorem dX9_of_66 : decode cX9_of 66 = .ok (.aload_n 0, 1) := by decide +kernel
theorem dX9_of_67 : decode cX9_of 67 = .ok (.getfield 44, 3) := by decide +kernel
theorem dX9_of_70 : decode cX9_of 70 = .ok (.getfield 138, 3) := by decide +kernel
theorem dX9_of_73 : decode cX9_of 73 = .ok (.iload_n 1, 1) := by decide +kernel
theorem dX9_of_74 : decode cX9_of 74 = .ok (.iaload, 1) := by decide +kernel
theorem dX9_of_75 : decode cX9_of 75 = .ok (.ireturn, 1) := by decide +kernel
theorem dX9_of_76 : decode cX9_of 76 = .ok (.aload_n 0, 1) := by decide +kernel
theorem dX9_of_77 : decode cX9_of 77 = .ok (.getfield 44, 3) := by decide +kernel
theorem dX9_of_80 : decode cX9_of 80 = .ok (.getfield 141, 3) := by decide +kernel
theorem dX9_of_83 : decode cX9_of 83 = .ok (.iload_n 1, 1) := by decide +kernel
theorem dX9_of_84 : decode cX9_of 84 = .ok (.iaload, 1) := by decide +kernel
theorem dX9_of_85 : decode cX9_of 85 = .ok (.ireturn, 1) := by decide +kernel
theorem dX9_of_86 : decode cX9_of 86 = .ok (.aload_n 0, 1) := by decide +kernel
theorem dX9_of_87 : decode cX9_of 87 = .ok (.getfield 44, 3) := by decide +kernel
theorem dX9_of_90 : decode cX9_of 90 = .ok (.getfield 144, 3) := by decide +kernel
theorem dX9_of_93 : decode cX9_of 93 = .ok (.iload_n 1, 1) := by decide +kernel
theorem dX9_of_94 : decode cX9_of 94 = .ok (.iaload, 1) := by decide +kernel
theorem dX9_of_95 : decode cX9_of 95 = .ok (.ireturn, 1) := by decide +kernel
theorem dX9_of_96 : decode cX9_of 96 = .ok (.aload_n 0, 1) := by decide +kernel
theorem dX9_of_97 : decode cX9_of 97 = .ok (.getfield 44, 3) := by decide +kernel
theorem dX9_of_100 : decode cX9_of 100 = .ok (.iload_n 1, 1) := by decide +kernel
theorem dX9_of_101 : decode cX9_of 101 = .ok (.invokevirtual 147, 3) := by decide +kernel
theorem dX9_of_104 : decode cX9_of 104 = .ok (.invokevirtual 151, 3) := by decide +kernel
theorem dX9_of_107 : decode cX9_of 107 = .ok (.ireturn, 1) := by decide +kernel
theorem dX9_of_108 : decode cX9_of 108 = .ok (.aload_n 0, 1) := by decide +kernel
theorem dX9_of_109 : decode cX9_of 109 = .ok (.getfield 44, 3) := by decide +kernel
theorem dX9_of_112 : decode cX9_of 112 = .ok (.iload_n 1, 1) := by decide +kernel
theorem dX9_of_113 : decode cX9_of 113 = .ok (.invokevirtual 147, 3) := by decide +kernel
theorem dX9_of_116 : decode cX9_of 116 = .ok (.aload_n 0, 1) := by decide +kernel
theorem dX9_of_117 : decode cX9_of 117 = .ok (.getfield 44, 3) := by decide +kernel
theorem dX9_of_120 : decode cX9_of 120 = .ok (.getfield 138, 3) := by decide +kernel
theorem dX9_of_123 : decode cX9_of 123 = .ok (.iload_n 1, 1) := by decide +kernel
theorem dX9_of_124 : decode cX9_of 124 = .ok (.iaload, 1) := by decide +kernel
theorem dX9_of_125 : decode cX9_of 125 = .ok (.aload_n 0, 1) := by decide +kernel
theorem dX9_of_126 : decode cX9_of 126 = .ok (.getfield 44, 3) := by decide +kernel
theorem dX9_of_129 : decode cX9_of 129 = .ok (.getfield 144, 3) := by decide +kernel
theorem dX9_of_132 : decode cX9_of 132 = .ok (.iload_n 1, 1) := by decide +kernel
theorem dX9_of_133 : decode cX9_of 133 = .ok (.iaload, 1) := by decide +kernel
theorem dX9_of_134 : decode cX9_of 134 = .ok (.invokevirtual 154, 3) := by decide +kernel
theorem dX9_of_137 : decode cX9_of 137 = .ok (.ireturn, 1) := by decide +kernel
theorem dX9_of_138 : decode cX9_of 138 = .ok (.aload_n 0, 1) := by decide +kernel
theorem dX9_of_139 : decode cX9_of 139 = .ok (.ldc 82, 2) := by decide +kernel
theorem dX9_of_141 : decode cX9_of 141 = .ok (.invokevirtual 83, 3) := by decide +kernel
theorem dX9_of_144 : decode cX9_of 144 = .ok (.ireturn, 1) := by decide +kernel
theorem dX9_by_0 : decode cX9_by 0 = .ok (.aload_n 0, 1) := by decide +kernel
theorem dX9_by_1 : decode cX9_by 1 = .ok (.iload_n 1, 1) := by decide +kernel
theorem dX9_by_2 : decode cX9_by 2 = .ok (.invokevirtual 132, 3) := by decide +kernel
theorem dX9_by_5 : decode cX9_by 5 = .ok (.ifCond .eq 10, 3) := by decide +kernel
theorem dX9_by_8 : decode cX9_by 8 = .ok (.iload_n 2, 1) := by decide +kernel
theorem dX9_by_9 : decode cX9_by 9 = .ok (.invokestatic 78, 3) := by decide +kernel
theorem dX9_by_12 : decode cX9_by 12 = .ok (.ifCond .ne 10, 3) := by decide +kernel
theorem dX9_by_15 : decode cX9_by 15 = .ok (.aload_n 0, 1) := by decide +kernel
theorem dX9_by_16 : decode cX9_by 16 = .ok (.ldc 82, 2) := by decide +kernel
theorem dX9_by_18 : decode cX9_by 18 = .ok (.invokevirtual 83, 3) := by decide +kernel
theorem dX9_by_21 : decode cX9_by 21 = .ok (.ireturn, 1) := by decide +kernel
theorem dX9_by_22 : decode cX9_by 22 = .ok (.aload_n 0, 1) := by decide +kernel
theorem dX9_by_23 : decode cX9_by 23 = .ok (.getfield 44, 3) := by decide +kernel
theorem dX9_by_26 : decode cX9_by 26 = .ok (.iload_n 1, 1) := by decide +kernel
theorem dX9_by_27 : decode cX9_by 27 = .ok (.invokevirtual 147, 3) := by decide +kernel
theorem dX9_by_30 : decode cX9_by 30 = .ok (.astore 4, 2) := by decide +kernel
theorem dX9_by_32 : decode cX9_by 32 = .ok (.aload_n 0, 1) := by decide +kernel
theorem dX9_by_33 : decode cX9_by 33 = .ok (.getfield 44, 3) := by decide +kernel
theorem dX9_by_36 : decode cX9_by 36 = .ok (.getfield 91, 3) := by decide +kernel
theorem dX9_by_39 : decode cX9_by 39 = .ok (.iload_n 2, 1) := by decide +kernel
theorem dX9_by_40 : decode cX9_by 40 = .ok (.iaload, 1) := by decide +kernel
theorem dX9_by_41 : decode cX9_by 41 = .ok (.istore 5, 2) := by decide +kernel
theorem dX9_by_43 : decode cX9_by 43 = .ok (.iload_n 3, 1) := by decide +kernel
theorem dX9_by_44 : decode cX9_by 44 = .ok (.lookupswitch 80 #[(0, 28), (1, 54)], 28) := by decide +kernel
theorem dX9_by_72 : decode cX9_by 72 = .ok (.aload 4, 2) := by decide +kernel
theorem dX9_by_74 : decode cX9_by 74 = .ok (.iload 5, 2) := by decide +kernel
theorem dX9_by_76 : decode cX9_by 76 = .ok (.aload_n 0, 1) := by decide +kernel
theorem dX9_by_77 : decode cX9_by 77 = .ok (.getfield 44, 3) := by decide +kernel
theorem dX9_by_80 : decode cX9_by 80 = .ok (.getfield 138, 3) := by decide +kernel
theorem dX9_by_83 : decode cX9_by 83 = .ok (.iload_n 1, 1) := by decide +kernel
theorem dX9_by_84 : decode cX9_by 84 = .ok (.iaload, 1) := by decide +kernel
theorem dX9_by_85 : decode cX9_by 85 = .ok (.aload_n 0, 1) := by decide +kernel
theorem dX9_by_86 : decode cX9_by 86 = .ok (.getfield 44, 3) := by decide +kernel
theorem dX9_by_89 : decode cX9_by 89 = .ok (.getfield 144, 3) := by decide +kernel
theorem dX9_by_92 : decode cX9_by 92 = .ok (.iload_n 1, 1) := by decide +kernel
theorem dX9_by_93 : decode cX9_by 93 = .ok (.iaload, 1) := by decide +kernel
theorem dX9_by_94 : decode cX9_by 94 = .ok (.invokevirtual 158, 3) := by decide +kernel
theorem dX9_by_97 : decode cX9_by 97 = .ok (.ireturn, 1) := by decide +kernel
theorem dX9_by_98 : decode cX9_by 98 = .ok (.aload 4, 2) := by decide +kernel
theorem dX9_by_100 : decode cX9_by 100 = .ok (.iload 5, 2) := by decide +kernel
theorem dX9_by_102 : decode cX9_by 102 = .ok (.aload_n 0, 1) := by decide +kernel
theorem dX9_by_103 : decode cX9_by 103 = .ok (.getfield 44, 3) := by decide +kernel
theorem dX9_by_106 : decode cX9_by 106 = .ok (.getfield 138, 3) := by decide +kernel
theorem dX9_by_109 : decode cX9_by 109 = .ok (.iload_n 1, 1) := by decide +kernel
theorem dX9_by_110 : decode cX9_by 110 = .ok (.iaload, 1) := by decide +kernel
theorem dX9_by_111 : decode cX9_by 111 = .ok (.aload_n 0, 1) := by decide +kernel
theorem dX9_by_112 : decode cX9_by 112 = .ok (.getfield 44, 3) := by decide +kernel
theorem dX9_by_115 : decode cX9_by 115 = .ok (.getfield 144, 3) := by decide +kernel
theorem dX9_by_118 : decode cX9_by 118 = .ok (.iload_n 1, 1) := by decide +kernel
theorem dX9_by_119 : decode cX9_by 119 = .ok (.iaload, 1) := by decide +kernel
theorem dX9_by_120 : decode cX9_by 120 = .ok (.invokevirtual 162, 3) := by decide +kernel
theorem dX9_by_123 : decode cX9_by 123 = .ok (.ireturn, 1) := by decide +kernel
theorem dX9_by_124 : decode cX9_by 124 = .ok (.aload_n 0, 1) := by decide +kernel
theorem dX9_by_125 : decode cX9_by 125 = .ok (.ldc 82, 2) := by decide +kernel
theorem dX9_by_127 : decode cX9_by 127 = .ok (.invokevirtual 83, 3) := by decide +kernel
theorem dX9_by_130 : decode cX9_by 130 = .ok (.ireturn, 1) := by decide +kernel
theorem dX9_set_0 : decode cX9_set 0 = .ok (.aload_n 0, 1) := by decide +kernel
theorem dX9_set_1 : decode cX9_set 1 = .ok (.iload_n 1, 1) := by decide +kernel
theorem dX9_set_2 : decode cX9_set 2 = .ok (.invokevirtual 132, 3) := by decide +kernel
theorem dX9_set_5 : decode cX9_set 5 = .ok (.ifCond .ne 10, 3) := by decide +kernel
theorem dX9_set_8 : decode cX9_set 8 = .ok (.aload_n 0, 1) := by decide +kernel
theorem dX9_set_9 : decode cX9_set 9 = .ok (.ldc 82, 2) := by decide +kernel
theorem dX9_set_11 : decode cX9_set 11 = .ok (.invokevirtual 83, 3) := by decide +kernel
theorem dX9_set_14 : decode cX9_set 14 = .ok (.ireturn, 1) := by decide +kernel
theorem dX9_set_15 : decode cX9_set 15 = .ok (.iload_n 2, 1) := by decide +kernel
theorem dX9_set_16 : decode cX9_set 16 = .ok (.tableswitch 124 1 3 #[28, 60, 91], 28) := by decide +kernel
theorem dX9_set_44 : decode cX9_set 44 = .ok (.iload_n 3, 1) := by decide +kernel
theorem dX9_set_45 : decode cX9_set 45 = .ok (.iconst 0, 1) := by decide +kernel
theorem dX9_set_46 : decode cX9_set 46 = .ok (.bipush 100, 2) := by decide +kernel
theorem dX9_set_48 : decode cX9_set 48 = .ok (.invokestatic 87, 3) := by decide +kernel
theorem dX9_set_51 : decode cX9_set 51 = .ok (.ifCond .eq 18, 3) := by decide +kernel
theorem dX9_set_54 : decode cX9_set 54 = .ok (.aload_n 0, 1) := by decide +kernel
theorem dX9_set_55 : decode cX9_set 55 = .ok (.getfield 44, 3) := by decide +kernel
theorem dX9_set_58 : decode cX9_set 58 = .ok (.getfield 138, 3) := by decide +kernel
theorem dX9_set_61 : decode cX9_set 61 = .ok (.iload_n 1, 1) := by decide +kernel
theorem dX9_set_62 : decode cX9_set 62 = .ok (.iload_n 3, 1) := by decide +kernel
theorem dX9_set_63 : decode cX9_set 63 = .ok (.invokestatic 94, 3) := by decide +kernel
theorem dX9_set_66 : decode cX9_set 66 = .ok (.goto 9, 3) := by decide +kernel
theorem dX9_set_69 : decode cX9_set 69 = .ok (.aload_n 0, 1) := by decide +kernel
theorem dX9_set_70 : decode cX9_set 70 = .ok (.ldc 82, 2) := by decide +kernel
theorem dX9_set_72 : decode cX9_set 72 = .ok (.invokevirtual 83, 3) := by decide +kernel
theorem dX9_set_75 : decode cX9_set 75 = .ok (.ireturn, 1) := by decide +kernel
theorem dX9_set_76 : decode cX9_set 76 = .ok (.iload_n 3, 1) := by decide +kernel
theorem dX9_set_77 : decode cX9_set 77 = .ok (.iconst (-1), 1) := by decide +kernel
theorem dX9_set_78 : decode cX9_set 78 = .ok (.iconst 5, 1) := by decide +kernel
theorem dX9_set_79 : decode cX9_set 79 = .ok (.invokestatic 87, 3) := by decide +kernel
theorem dX9_set_82 : decode cX9_set 82 = .ok (.ifCond .eq 18, 3) := by decide +kernel
theorem dX9_set_85 : decode cX9_set 85 = .ok (.aload_n 0, 1) := by decide +kernel
theorem dX9_set_86 : decode cX9_set 86 = .ok (.getfield 44, 3) := by decide +kernel
theorem dX9_set_89 : decode cX9_set 89 = .ok (.getfield 141, 3) := by decide +kernel
theorem dX9_set_92 : decode cX9_set 92 = .ok (.iload_n 1, 1) := by decide +kernel
theorem dX9_set_93 : decode cX9_set 93 = .ok (.iload_n 3, 1) := by decide +kernel
theorem dX9_set_94 : decode cX9_set 94 = .ok (.invokestatic 94, 3) := by decide +kernel
theorem dX9_set_97 : decode cX9_set 97 = .ok (.goto 9, 3) := by decide +kernel
theorem dX9_set_100 : decode cX9_set 100 = .ok (.aload_n 0, 1) := by decide +kernel
theorem dX9_set_101 : decode cX9_set 101 = .ok (.ldc 82, 2) := by decide +kernel
theorem dX9_set_103 : decode cX9_set 103 = .ok (.invokevirtual 83, 3) := by decide +kernel
theorem dX9_set_106 : decode cX9_set 106 = .ok (.ireturn, 1) := by decide +kernel
theorem dX9_set_107 : decode cX9_set 107 = .ok (.iload_n 3, 1) := by decide +kernel
theorem dX9_set_108 : decode cX9_set 108 = .ok (.iconst 0, 1) := by decide +kernel
theorem dX9_set_109 : decode cX9_set 109 = .ok (.sipush 999, 3) := by decide +kernel
theorem dX9_set_112 : decode cX9_set 112 = .ok (.invokestatic 87, 3) := by decide +kernel
theorem dX9_set_115 : decode cX9_set 115 = .ok (.ifCond .eq 18, 3) := by decide +kernel
theorem dX9_set_118 : decode cX9_set 118 = .ok (.aload_n 0, 1) := by decide +kernel
theorem dX9_set_119 : decode cX9_set 119 = .ok (.getfield 44, 3) := by decide +kernel
theorem dX9_set_122 : decode cX9_set 122 = .ok (.getfield 144, 3) := by decide +kernel
theorem dX9_set_125 : decode cX9_set 125 = .ok (.iload_n 1, 1) := by decide +kernel
theorem dX9_set_126 : decode cX9_set 126 = .ok (.iload_n 3, 1) := by decide +kernel
theorem dX9_set_127 : decode cX9_set 127 = .ok (.invokestatic 94, 3) := by decide +kernel
theorem dX9_set_130 : decode cX9_set 130 = .ok (.goto 9, 3) := by decide +kernel
theorem dX9_set_133 : decode cX9_set 133 = .ok (.aload_n 0, 1) := by decide +kernel
theorem dX9_set_134 : decode cX9_set 134 = .ok (.ldc 82, 2) := by decide +kernel
theorem dX9_set_136 : decode cX9_set 136 = .ok (.invokevirtual 83, 3) := by decide +kernel
theorem dX9_set_139 : decode cX9_set 139 = .ok (.ireturn, 1) := by decide +kernel
theorem dX9_set_140 : decode cX9_set 140 = .ok (.aload_n 0, 1) := by decide +kernel
theorem dX9_set_141 : decode cX9_set 141 = .ok (.ldc 82, 2) := by decide +kernel
theorem dX9_set_143 : decode cX9_set 143 = .ok (.invokevirtual 83, 3) := by decide +kernel
theorem dX9_set_146 : decode cX9_set 146 = .ok (.ireturn, 1) := by decide +kernel
theorem dX9_turn_0 : decode cX9_turn 0 = .ok (.aload_n 0, 1) := by decide +kernel
theorem dX9_turn_1 : decode cX9_turn 1 = .ok (.iload_n 1, 1) := by decide +kernel
theorem dX9_turn_2 : decode cX9_turn 2 = .ok (.invokevirtual 132, 3) := by decide +kernel
theorem dX9_turn_5 : decode cX9_turn 5 = .ok (.ifCond .eq 10, 3) := by decide +kernel
theorem dX9_turn_8 : decode cX9_turn 8 = .ok (.iload_n 2, 1) := by decide +kernel
theorem dX9_turn_9 : decode cX9_turn 9 = .ok (.invokestatic 116, 3) := by decide +kernel
theorem dX9_turn_12 : decode cX9_turn 12 = .ok (.ifCond .ne 10, 3) := by decide +kernel
theorem dX9_turn_15 : decode cX9_turn 15 = .ok (.aload_n 0, 1) := by decide +kernel
theorem dX9_turn_16 : decode cX9_turn 16 = .ok (.ldc 82, 2) := by decide +kernel
theorem dX9_turn_18 : decode cX9_turn 18 = .ok (.invokevirtual 83, 3) := by decide +kernel
theorem dX9_turn_21 : decode cX9_turn 21 = .ok (.ireturn, 1) := by decide +kernel
theorem dX9_turn_22 : decode cX9_turn 22 = .ok (.aload_n 0, 1) := by decide +kernel
theorem dX9_turn_23 : decode cX9_turn 23 = .ok (.getfield 44, 3) := by decide +kernel
theorem dX9_turn_26 : decode cX9_turn 26 = .ok (.getfield 135, 3) := by decide +kernel
theorem dX9_turn_29 : decode cX9_turn 29 = .ok (.iload_n 1, 1) := by decide +kernel
theorem dX9_turn_30 : decode cX9_turn 30 = .ok (.iload_n 2, 1) := by decide +kernel
theorem dX9_turn_31 : decode cX9_turn 31 = .ok (.invokestatic 94, 3) := by decide +kernel
theorem dX9_turn_34 : decode cX9_turn 34 = .ok (.ireturn, 1) := by decide +kernel
theorem dX9_as_0 : decode cX9_as 0 = .ok (.aload_n 0, 1) := by decide +kernel
theorem dX9_as_1 : decode cX9_as 1 = .ok (.iload_n 1, 1) := by decide +kernel
theorem dX9_as_2 : decode cX9_as 2 = .ok (.invokevirtual 132, 3) := by decide +kernel
theorem dX9_as_5 : decode cX9_as 5 = .ok (.ifCond .eq 10, 3) := by decide +kernel
theorem dX9_as_8 : decode cX9_as 8 = .ok (.iload_n 2, 1) := by decide +kernel
theorem dX9_as_9 : decode cX9_as 9 = .ok (.invokestatic 116, 3) := by decide +kernel
theorem dX9_as_12 : decode cX9_as 12 = .ok (.ifCond .ne 10, 3) := by decide +kernel
theorem dX9_as_15 : decode cX9_as 15 = .ok (.aload_n 0, 1) := by decide +kernel
theorem dX9_as_16 : decode cX9_as 16 = .ok (.ldc 82, 2) := by decide +kernel
theorem dX9_as_18 : decode cX9_as 18 = .ok (.invokevirtual 83, 3) := by decide +kernel
theorem dX9_as_21 : decode cX9_as 21 = .ok (.ireturn, 1) := by decide +kernel
theorem dX9_as_22 : decode cX9_as 22 = .ok (.aload_n 0, 1) := by decide +kernel
theorem dX9_as_23 : decode cX9_as 23 = .ok (.getfield 44, 3) := by decide +kernel
theorem dX9_as_26 : decode cX9_as 26 = .ok (.getfield 135, 3) := by decide +kernel
theorem dX9_as_29 : decode cX9_as 29 = .ok (.iload_n 1, 1) := by decide +kernel
theorem dX9_as_30 : decode cX9_as 30 = .ok (.iaload, 1) := by decide +kernel
theorem dX9_as_31 : decode cX9_as 31 = .ok (.iload_n 2, 1) := by decide +kernel
theorem dX9_as_32 : decode cX9_as 32 = .ok (.invokestatic 165, 3) := by decide +kernel
theorem dX9_as_35 : decode cX9_as 35 = .ok (.ifCond .ne 10, 3) := by decide +kernel
theorem dX9_as_38 : decode cX9_as 38 = .ok (.aload_n 0, 1) := by decide +kernel
theorem dX9_as_39 : decode cX9_as 39 = .ok (.ldc 169, 2) := by decide +kernel
theorem dX9_as_41 : decode cX9_as 41 = .ok (.invokevirtual 83, 3) := by decide +kernel
theorem dX9_as_44 : decode cX9_as 44 = .ok (.ireturn, 1) := by decide +kernel
theorem dX9_as_45 : decode cX9_as 45 = .ok (.aload_n 0, 1) := by decide +kernel
theorem dX9_as_46 : decode cX9_as 46 = .ok (.getfield 44, 3) := by decide +kernel
theorem dX9_as_49 : decode cX9_as 49 = .ok (.getfield 138, 3) := by decide +kernel
theorem dX9_as_52 : decode cX9_as 52 = .ok (.iload_n 1, 1) := by decide +kernel
theorem dX9_as_53 : decode cX9_as 53 = .ok (.iaload, 1) := by decide +kernel
theorem dX9_as_54 : decode cX9_as 54 = .ok (.ireturn, 1) := by decide +kernel
theorem dX9_leave_0 : decode cX9_leave 0 = .ok (.aload_n 0, 1) := by decide +kernel
theorem dX9_leave_1 : decode cX9_leave 1 = .ok (.iload_n 1, 1) := by decide +kernel
theorem dX9_leave_2 : decode cX9_leave 2 = .ok (.invokevirtual 132, 3) := by decide +kernel
theorem dX9_leave_5 : decode cX9_leave 5 = .ok (.ifCond .ne 10, 3) := by decide +kernel
theorem dX9_leave_8 : decode cX9_leave 8 = .ok (.aload_n 0, 1) := by decide +kernel
theorem dX9_leave_9 : decode cX9_leave 9 = .ok (.ldc 82, 2) := by decide +kernel
theorem dX9_leave_11 : decode cX9_leave 11 = .ok (.invokevirtual 83, 3) := by decide +kernel
theorem dX9_leave_14 : decode cX9_leave 14 = .ok (.ireturn, 1) := by decide +kernel
theorem dX9_leave_15 : decode cX9_leave 15 = .ok (.aload_n 0, 1) := by decide +kernel
theorem dX9_leave_16 : decode cX9_leave 16 = .ok (.getfield 44, 3) := by decide +kernel
theorem dX9_leave_19 : decode cX9_leave 19 = .ok (.iload_n 1, 1) := by decide +kernel
theorem dX9_leave_20 : decode cX9_leave 20 = .ok (.invokevirtual 170, 3) := by decide +kernel
theorem dX9_leave_23 : decode cX9_leave 23 = .ok (.ifCond .ne 10, 3) := by decide +kernel
theorem dX9_leave_26 : decode cX9_leave 26 = .ok (.aload_n 0, 1) := by decide +kernel
theorem dX9_leave_27 : decode cX9_leave 27 = .ok (.ldc 173, 2) := by decide +kernel
theorem dX9_leave_29 : decode cX9_leave 29 = .ok (.invokevirtual 83, 3) := by decide +kernel
theorem dX9_leave_32 : decode cX9_leave 32 = .ok (.ireturn, 1) := by decide +kernel
theorem dX9_leave_33 : decode cX9_leave 33 = .ok (.aload_n 0, 1) := by decide +kernel
theorem dX9_leave_34 : decode cX9_leave 34 = .ok (.getfield 44, 3) := by decide +kernel
theorem dX9_leave_37 : decode cX9_leave 37 = .ok (.getfield 141, 3) := by decide +kernel
theorem dX9_leave_40 : decode cX9_leave 40 = .ok (.iload_n 1, 1) := by decide +kernel
theorem dX9_leave_41 : decode cX9_leave 41 = .ok (.iaload, 1) := by decide +kernel
theorem dX9_leave_42 : decode cX9_leave 42 = .ok (.istore_n 2, 1) := by decide +kernel
theorem dX9_leave_43 : decode cX9_leave 43 = .ok (.aload_n 0, 1) := by decide +kernel
theorem dX9_leave_44 : decode cX9_leave 44 = .ok (.getfield 44, 3) := by decide +kernel
theorem dX9_leave_47 : decode cX9_leave 47 = .ok (.iload_n 1, 1) := by decide +kernel
theorem dX9_leave_48 : decode cX9_leave 48 = .ok (.invokevirtual 174, 3) := by decide +kernel
theorem dX9_leave_51 : decode cX9_leave 51 = .ok (.iload_n 2, 1) := by decide +kernel
theorem dX9_leave_52 : decode cX9_leave 52 = .ok (.ireturn, 1) := by decide +kernel
theorem dX9_goesTo_0 : decode cX9_goesTo 0 = .ok (.aload_n 0, 1) := by decide +kernel
theorem dX9_goesTo_1 : decode cX9_goesTo 1 = .ok (.iload_n 1, 1) := by decide +kernel
theorem dX9_goesTo_2 : decode cX9_goesTo 2 = .ok (.invokevirtual 132, 3) := by decide +kernel
theorem dX9_goesTo_5 : decode cX9_goesTo 5 = .ok (.ifCond .ne 10, 3) := by decide +kernel
theorem dX9_goesTo_8 : decode cX9_goesTo 8 = .ok (.aload_n 0, 1) := by decide +kernel
theorem dX9_goesTo_9 : decode cX9_goesTo 9 = .ok (.ldc 82, 2) := by decide +kernel
theorem dX9_goesTo_11 : decode cX9_goesTo 11 = .ok (.invokevirtual 83, 3) := by decide +kernel
theorem dX9_goesTo_14 : decode cX9_goesTo 14 = .ok (.ireturn, 1) := by decide +kernel
theorem dX9_goesTo_15 : decode cX9_goesTo 15 = .ok (.aload_n 0, 1) := by decide +kernel
theorem dX9_goesTo_16 : decode cX9_goesTo 16 = .ok (.getfield 44, 3) := by decide +kernel
theorem dX9_goesTo_19 : decode cX9_goesTo 19 = .ok (.iload_n 1, 1) := by decide +kernel
theorem dX9_goesTo_20 : decode cX9_goesTo 20 = .ok (.invokevirtual 178, 3) := by decide +kernel
theorem dX9_goesTo_23 : decode cX9_goesTo 23 = .ok (.ifCond .ne 10, 3) := by decide +kernel
theorem dX9_goesTo_26 : decode cX9_goesTo 26 = .ok (.aload_n 0, 1) := by decide +kernel
theorem dX9_goesTo_27 : decode cX9_goesTo 27 = .ok (.ldc 173, 2) := by decide +kernel
theorem dX9_goesTo_29 : decode cX9_goesTo 29 = .ok (.invokevirtual 83, 3) := by decide +kernel
theorem dX9_goesTo_32 : decode cX9_goesTo 32 = .ok (.ireturn, 1) := by decide +kernel
theorem dX9_goesTo_33 : decode cX9_goesTo 33 = .ok (.aload_n 0, 1) := by decide +kernel
theorem dX9_goesTo_34 : decode cX9_goesTo 34 = .ok (.getfield 44, 3) := by decide +kernel
theorem dX9_goesTo_37 : decode cX9_goesTo 37 = .ok (.invokevirtual 181, 3) := by decide +kernel
theorem dX9_goesTo_40 : decode cX9_goesTo 40 = .ok (.aload_n 0, 1) := by decide +kernel
theorem dX9_goesTo_41 : decode cX9_goesTo 41 = .ok (.getfield 44, 3) := by decide +kernel
theorem dX9_goesTo_44 : decode cX9_goesTo 44 = .ok (.iload_n 1, 1) := by decide +kernel
theorem dX9_goesTo_45 : decode cX9_goesTo 45 = .ok (.invokevirtual 184, 3) := by decide +kernel
theorem dX9_goesTo_48 : decode cX9_goesTo 48 = .ok (.istore_n 2, 1) := by decide +kernel
theorem dX9_goesTo_49 : decode cX9_goesTo 49 = .ok (.iload_n 2, 1) := by decide +kernel
theorem dX9_goesTo_50 : decode cX9_goesTo 50 = .ok (.iconst (-1), 1) := by decide +kernel
theorem dX9_goesTo_51 : decode cX9_goesTo 51 = .ok (.if_icmp .ne 12, 3) := by decide +kernel
theorem dX9_goesTo_54 : decode cX9_goesTo 54 = .ok (.aload_n 0, 1) := by decide +kernel
theorem dX9_goesTo_55 : decode cX9_goesTo 55 = .ok (.ldc 187, 2) := by decide +kernel
theorem dX9_goesTo_57 : decode cX9_goesTo 57 = .ok (.invokevirtual 83, 3) := by decide +kernel
theorem dX9_goesTo_60 : decode cX9_goesTo 60 = .ok (.goto 4, 3) := by decide +kernel
theorem dX9_goesTo_63 : decode cX9_goesTo 63 = .ok (.iload_n 2, 1) := by decide +kernel
theorem dX9_goesTo_64 : decode cX9_goesTo 64 = .ok (.ireturn, 1) := by decide +kernel
