theorem dX0_init_0 : decode cX0_init 0 = .ok (.aload_n 0, 1) := by decide +kernel
theorem dX0_init_1 : decode cX0_init 1 = .ok (.invokespecial 3, 3) := by decide +kernel
theorem dX0_init_4 : decode cX0_init 4 = .ok (.aload_n 0, 1) := by decide +kernel
theorem dX0_init_5 : decode cX0_init 5 = .ok (.bipush 40, 2) := by decide +kernel
theorem dX0_init_7 : decode cX0_init 7 = .ok (.newarray .int, 2) := by decide +kernel
theorem dX0_init_9 : decode cX0_init 9 = .ok (.putfield 9, 3) := by decide +kernel
theorem dX0_init_12 : decode cX0_init 12 = .ok (.aload_n 0, 1) := by decide +kernel
theorem dX0_init_13 : decode cX0_init 13 = .ok (.bipush 40, 2) := by decide +kernel
theorem dX0_init_15 : decode cX0_init 15 = .ok (.newarray .int, 2) := by decide +kernel
theorem dX0_init_17 : decode cX0_init 17 = .ok (.putfield 15, 3) := by decide +kernel
theorem dX0_init_20 : decode cX0_init 20 = .ok (.aload_n 0, 1) := by decide +kernel
theorem dX0_init_21 : decode cX0_init 21 = .ok (.iconst 0, 1) := by decide +kernel
theorem dX0_init_22 : decode cX0_init 22 = .ok (.putfield 18, 3) := by decide +kernel
theorem dX0_init_25 : decode cX0_init 25 = .ok (.return_, 1) := by decide +kernel
theorem dX0_isFull_0 : decode cX0_isFull 0 = .ok (.aload_n 0, 1) := by decide +kernel
theorem dX0_isFull_1 : decode cX0_isFull 1 = .ok (.getfield 18, 3) := by decide +kernel
theorem dX0_isFull_4 : decode cX0_isFull 4 = .ok (.bipush 40, 2) := by decide +kernel
theorem dX0_isFull_6 : decode cX0_isFull 6 = .ok (.if_icmp .lt 7, 3) := by decide +kernel
theorem dX0_isFull_9 : decode cX0_isFull 9 = .ok (.iconst 1, 1) := by decide +kernel
theorem dX0_isFull_10 : decode cX0_isFull 10 = .ok (.goto 4, 3) := by decide +kernel
theorem dX0_isFull_13 : decode cX0_isFull 13 = .ok (.iconst 0, 1) := by decide +kernel
theorem dX0_isFull_14 : decode cX0_isFull 14 = .ok (.ireturn, 1) := by decide +kernel
theorem dX0_countBelow_0 : decode cX0_countBelow 0 = .ok (.iconst 0, 1) := by decide +kernel
theorem dX0_countBelow_1 : decode cX0_countBelow 1 = .ok (.istore_n 2, 1) := by decide +kernel
theorem dX0_countBelow_2 : decode cX0_countBelow 2 = .ok (.bipush 32, 2) := by decide +kernel
theorem dX0_countBelow_4 : decode cX0_countBelow 4 = .ok (.istore_n 3, 1) := by decide +kernel
theorem dX0_countBelow_5 : decode cX0_countBelow 5 = .ok (.iload_n 3, 1) := by decide +kernel
theorem dX0_countBelow_6 : decode cX0_countBelow 6 = .ok (.ifCond .le 40, 3) := by decide +kernel
theorem dX0_countBelow_9 : decode cX0_countBelow 9 = .ok (.iload_n 2, 1) := by decide +kernel
theorem dX0_countBelow_10 : decode cX0_countBelow 10 = .ok (.iload_n 3, 1) := by decide +kernel
theorem dX0_countBelow_11 : decode cX0_countBelow 11 = .ok (.iadd, 1) := by decide +kernel
theorem dX0_countBelow_12 : decode cX0_countBelow 12 = .ok (.istore 4, 2) := by decide +kernel
theorem dX0_countBelow_14 : decode cX0_countBelow 14 = .ok (.iload 4, 2) := by decide +kernel
theorem dX0_countBelow_16 : decode cX0_countBelow 16 = .ok (.aload_n 0, 1) := by decide +kernel
theorem dX0_countBelow_17 : decode cX0_countBelow 17 = .ok (.getfield 18, 3) := by decide +kernel
theorem dX0_countBelow_20 : decode cX0_countBelow 20 = .ok (.if_icmp .gt 19, 3) := by decide +kernel
theorem dX0_countBelow_23 : decode cX0_countBelow 23 = .ok (.aload_n 0, 1) := by decide +kernel
theorem dX0_countBelow_24 : decode cX0_countBelow 24 = .ok (.getfield 9, 3) := by decide +kernel
theorem dX0_countBelow_27 : decode cX0_countBelow 27 = .ok (.iload 4, 2) := by decide +kernel
theorem dX0_countBelow_29 : decode cX0_countBelow 29 = .ok (.iconst 1, 1) := by decide +kernel
theorem dX0_countBelow_30 : decode cX0_countBelow 30 = .ok (.isub, 1) := by decide +kernel
theorem dX0_countBelow_31 : decode cX0_countBelow 31 = .ok (.iaload, 1) := by decide +kernel
theorem dX0_countBelow_32 : decode cX0_countBelow 32 = .ok (.iload_n 1, 1) := by decide +kernel
theorem dX0_countBelow_33 : decode cX0_countBelow 33 = .ok (.if_icmp .ge 6, 3) := by decide +kernel
theorem dX0_countBelow_36 : decode cX0_countBelow 36 = .ok (.iload 4, 2) := by decide +kernel
theorem dX0_countBelow_38 : decode cX0_countBelow 38 = .ok (.istore_n 2, 1) := by decide +kernel
theorem dX0_countBelow_39 : decode cX0_countBelow 39 = .ok (.iload_n 3, 1) := by decide +kernel
theorem dX0_countBelow_40 : decode cX0_countBelow 40 = .ok (.iconst 2, 1) := by decide +kernel
theorem dX0_countBelow_41 : decode cX0_countBelow 41 = .ok (.idiv, 1) := by decide +kernel
theorem dX0_countBelow_42 : decode cX0_countBelow 42 = .ok (.istore_n 3, 1) := by decide +kernel
theorem dX0_countBelow_43 : decode cX0_countBelow 43 = .ok (.goto (-38), 3) := by decide +kernel
theorem dX0_countBelow_46 : decode cX0_countBelow 46 = .ok (.iload_n 2, 1) := by decide +kernel
theorem dX0_countBelow_47 : decode cX0_countBelow 47 = .ok (.ireturn, 1) := by decide +kernel
theorem dX0_wordOf_0 : decode cX0_wordOf 0 = .ok (.aload_n 0, 1) := by decide +kernel
theorem dX0_wordOf_1 : decode cX0_wordOf 1 = .ok (.iload_n 1, 1) := by decide +kernel
theorem dX0_wordOf_2 : decode cX0_wordOf 2 = .ok (.invokevirtual 22, 3) := by decide +kernel
theorem dX0_wordOf_5 : decode cX0_wordOf 5 = .ok (.istore_n 2, 1) := by decide +kernel
theorem dX0_wordOf_6 : decode cX0_wordOf 6 = .ok (.iload_n 2, 1) := by decide +kernel
theorem dX0_wordOf_7 : decode cX0_wordOf 7 = .ok (.aload_n 0, 1) := by decide +kernel
theorem dX0_wordOf_8 : decode cX0_wordOf 8 = .ok (.getfield 18, 3) := by decide +kernel
theorem dX0_wordOf_11 : decode cX0_wordOf 11 = .ok (.if_icmp .ge 22, 3) := by decide +kernel
theorem dX0_wordOf_14 : decode cX0_wordOf 14 = .ok (.aload_n 0, 1) := by decide +kernel
theorem dX0_wordOf_15 : decode cX0_wordOf 15 = .ok (.getfield 9, 3) := by decide +kernel
theorem dX0_wordOf_18 : decode cX0_wordOf 18 = .ok (.iload_n 2, 1) := by decide +kernel
theorem dX0_wordOf_19 : decode cX0_wordOf 19 = .ok (.iaload, 1) := by decide +kernel
theorem dX0_wordOf_20 : decode cX0_wordOf 20 = .ok (.iload_n 1, 1) := by decide +kernel
theorem dX0_wordOf_21 : decode cX0_wordOf 21 = .ok (.if_icmp .ne 12, 3) := by decide +kernel
theorem dX0_wordOf_24 : decode cX0_wordOf 24 = .ok (.aload_n 0, 1) := by decide +kernel
theorem dX0_wordOf_25 : decode cX0_wordOf 25 = .ok (.getfield 15, 3) := by decide +kernel
theorem dX0_wordOf_28 : decode cX0_wordOf 28 = .ok (.iload_n 2, 1) := by decide +kernel
theorem dX0_wordOf_29 : decode cX0_wordOf 29 = .ok (.iaload, 1) := by decide +kernel
theorem dX0_wordOf_30 : decode cX0_wordOf 30 = .ok (.goto 4, 3) := by decide +kernel
theorem dX0_wordOf_33 : decode cX0_wordOf 33 = .ok (.iconst (-1), 1) := by decide +kernel
theorem dX0_wordOf_34 : decode cX0_wordOf 34 = .ok (.ireturn, 1) := by decide +kernel
theorem dX0_put_0 : decode cX0_put 0 = .ok (.aload_n 0, 1) := by decide +kernel
theorem dX0_put_1 : decode cX0_put 1 = .ok (.iload_n 1, 1) := by decide +kernel
theorem dX0_put_2 : decode cX0_put 2 = .ok (.invokevirtual 22, 3) := by decide +kernel
theorem dX0_put_5 : decode cX0_put 5 = .ok (.istore_n 3, 1) := by decide +kernel
theorem dX0_put_6 : decode cX0_put 6 = .ok (.iload_n 3, 1) := by decide +kernel
theorem dX0_put_7 : decode cX0_put 7 = .ok (.aload_n 0, 1) := by decide +kernel
theorem dX0_put_8 : decode cX0_put 8 = .ok (.getfield 18, 3) := by decide +kernel
theorem dX0_put_11 : decode cX0_put 11 = .ok (.if_icmp .ge 21, 3) := by decide +kernel
theorem dX0_put_14 : decode cX0_put 14 = .ok (.aload_n 0, 1) := by decide +kernel
theorem dX0_put_15 : decode cX0_put 15 = .ok (.getfield 9, 3) := by decide +kernel
theorem dX0_put_18 : decode cX0_put 18 = .ok (.iload_n 3, 1) := by decide +kernel
theorem dX0_put_19 : decode cX0_put 19 = .ok (.iaload, 1) := by decide +kernel
theorem dX0_put_20 : decode cX0_put 20 = .ok (.iload_n 1, 1) := by decide +kernel
theorem dX0_put_21 : decode cX0_put 21 = .ok (.if_icmp .ne 11, 3) := by decide +kernel
theorem dX0_put_24 : decode cX0_put 24 = .ok (.aload_n 0, 1) := by decide +kernel
theorem dX0_put_25 : decode cX0_put 25 = .ok (.getfield 15, 3) := by decide +kernel
theorem dX0_put_28 : decode cX0_put 28 = .ok (.iload_n 3, 1) := by decide +kernel
theorem dX0_put_29 : decode cX0_put 29 = .ok (.iload_n 2, 1) := by decide +kernel
theorem dX0_put_30 : decode cX0_put 30 = .ok (.iastore, 1) := by decide +kernel
theorem dX0_put_31 : decode cX0_put 31 = .ok (.return_, 1) := by decide +kernel
theorem dX0_put_32 : decode cX0_put 32 = .ok (.aload_n 0, 1) := by decide +kernel
theorem dX0_put_33 : decode cX0_put 33 = .ok (.getfield 18, 3) := by decide +kernel
theorem dX0_put_36 : decode cX0_put 36 = .ok (.bipush 40, 2) := by decide +kernel
theorem dX0_put_38 : decode cX0_put 38 = .ok (.if_icmp .lt 4, 3) := by decide +kernel
theorem dX0_put_41 : decode cX0_put 41 = .ok (.return_, 1) := by decide +kernel
theorem dX0_put_42 : decode cX0_put 42 = .ok (.aload_n 0, 1) := by decide +kernel
theorem dX0_put_43 : decode cX0_put 43 = .ok (.getfield 18, 3) := by decide +kernel
theorem dX0_put_46 : decode cX0_put 46 = .ok (.istore 4, 2) := by decide +kernel
theorem dX0_put_48 : decode cX0_put 48 = .ok (.iload 4, 2) := by decide +kernel
theorem dX0_put_50 : decode cX0_put 50 = .ok (.iload_n 3, 1) := by decide +kernel
theorem dX0_put_51 : decode cX0_put 51 = .ok (.if_icmp .le 41, 3) := by decide +kernel
theorem dX0_put_54 : decode cX0_put 54 = .ok (.aload_n 0, 1) := by decide +kernel
theorem dX0_put_55 : decode cX0_put 55 = .ok (.getfield 9, 3) := by decide +kernel
theorem dX0_put_58 : decode cX0_put 58 = .ok (.iload 4, 2) := by decide +kernel
theorem dX0_put_60 : decode cX0_put 60 = .ok (.aload_n 0, 1) := by decide +kernel
theorem dX0_put_61 : decode cX0_put 61 = .ok (.getfield 9, 3) := by decide +kernel
theorem dX0_put_64 : decode cX0_put 64 = .ok (.iload 4, 2) := by decide +kernel
theorem dX0_put_66 : decode cX0_put 66 = .ok (.iconst 1, 1) := by decide +kernel
theorem dX0_put_67 : decode cX0_put 67 = .ok (.isub, 1) := by decide +kernel
theorem dX0_put_68 : decode cX0_put 68 = .ok (.iaload, 1) := by decide +kernel
theorem dX0_put_69 : decode cX0_put 69 = .ok (.iastore, 1) := by decide +kernel
theorem dX0_put_70 : decode cX0_put 70 = .ok (.aload_n 0, 1) := by decide +kernel
theorem dX0_put_71 : decode cX0_put 71 = .ok (.getfield 15, 3) := by decide +kernel
theorem dX0_put_74 : decode cX0_put 74 = .ok (.iload 4, 2) := by decide +kernel
theorem dX0_put_76 : decode cX0_put 76 = .ok (.aload_n 0, 1) := by decide +kernel
theorem dX0_put_77 : decode cX0_put 77 = .ok (.getfield 15, 3) := by decide +kernel
theorem dX0_put_80 : decode cX0_put 80 = .ok (.iload 4, 2) := by decide +kernel
theorem dX0_put_82 : decode cX0_put 82 = .ok (.iconst 1, 1) := by decide +kernel
theorem dX0_put_83 : decode cX0_put 83 = .ok (.isub, 1) := by decide +kernel
theorem dX0_put_84 : decode cX0_put 84 = .ok (.iaload, 1) := by decide +kernel
theorem dX0_put_85 : decode cX0_put 85 = .ok (.iastore, 1) := by decide +kernel
theorem dX0_put_86 : decode cX0_put 86 = .ok (.iinc 4 (-1), 3) := by decide +kernel
theorem dX0_put_89 : decode cX0_put 89 = .ok (.goto (-41), 3) := by decide +kernel
theorem dX0_put_92 : decode cX0_put 92 = .ok (.aload_n 0, 1) := by decide +kernel
theorem dX0_put_93 : decode cX0_put 93 = .ok (.getfield 9, 3) := by decide +kernel
theorem dX0_put_96 : decode cX0_put 96 = .ok (.iload_n 3, 1) := by decide +kernel
theorem dX0_put_97 : decode cX0_put 97 = .ok (.iload_n 1, 1) := by decide +kernel
theorem dX0_put_98 : decode cX0_put 98 = .ok (.iastore, 1) := by decide +kernel
theorem dX0_put_99 : decode cX0_put 99 = .ok (.aload_n 0, 1) := by decide +kernel
theorem dX0_put_100 : decode cX0_put 100 = .ok (.getfield 15, 3) := by decide +kernel
theorem dX0_put_103 : decode cX0_put 103 = .ok (.iload_n 3, 1) := by decide +kernel
theorem dX0_put_104 : decode cX0_put 104 = .ok (.iload_n 2, 1) := by decide +kernel
theorem dX0_put_105 : decode cX0_put 105 = .ok (.iastore, 1) := by decide +kernel
theorem dX0_put_106 : decode cX0_put 106 = .ok (.aload_n 0, 1) := by decide +kernel
theorem dX0_put_107 : decode cX0_put 107 = .ok (.dup, 1) := by decide +kernel
theorem dX0_put_108 : decode cX0_put 108 = .ok (.getfield 18, 3) := by decide +kernel
theorem dX0_put_111 : decode cX0_put 111 = .ok (.iconst 1, 1) := by decide +kernel
theorem dX0_put_112 : decode cX0_put 112 = .ok (.iadd, 1) := by decide +kernel
theorem dX0_put_113 : decode cX0_put 113 = .ok (.putfield 18, 3) := by decide +kernel
theorem dX0_put_116 : decode cX0_put 116 = .ok (.return_, 1) := by decide +kernel
theorem dX1_init_0 : decode cX1_init 0 = .ok (.aload_n 0, 1) := by decide +kernel
theorem dX1_init_1 : decode cX1_init 1 = .ok (.invokespecial 3, 3) := by decide +kernel
theorem dX1_init_4 : decode cX1_init 4 = .ok (.aload_n 0, 1) := by decide +kernel
theorem dX1_init_5 : decode cX1_init 5 = .ok (.iconst 0, 1) := by decide +kernel
theorem dX1_init_6 : decode cX1_init 6 = .ok (.putfield 9, 3) := by decide +kernel
theorem dX1_init_9 : decode cX1_init 9 = .ok (.aload_n 0, 1) := by decide +kernel
theorem dX1_init_10 : decode cX1_init 10 = .ok (.iconst 0, 1) := by decide +kernel
theorem dX1_init_11 : decode cX1_init 11 = .ok (.putfield 15, 3) := by decide +kernel
theorem dX1_init_14 : decode cX1_init 14 = .ok (.aload_n 0, 1) := by decide +kernel
theorem dX1_init_15 : decode cX1_init 15 = .ok (.iconst 0, 1) := by decide +kernel
theorem dX1_init_16 : decode cX1_init 16 = .ok (.putfield 18, 3) := by decide +kernel
theorem dX1_init_19 : decode cX1_init 19 = .ok (.aload_n 0, 1) := by decide +kernel
theorem dX1_init_20 : decode cX1_init 20 = .ok (.iconst 0, 1) := by decide +kernel
theorem dX1_init_21 : decode cX1_init 21 = .ok (.putfield 21, 3) := by decide +kernel
theorem dX1_init_24 : decode cX1_init 24 = .ok (.aload_n 0, 1) := by decide +kernel
theorem dX1_init_25 : decode cX1_init 25 = .ok (.iconst (-1), 1) := by decide +kernel
theorem dX1_init_26 : decode cX1_init 26 = .ok (.putfield 24, 3) := by decide +kernel
theorem dX1_init_29 : decode cX1_init 29 = .ok (.aload_n 0, 1) := by decide +kernel
theorem dX1_init_30 : decode cX1_init 30 = .ok (.iconst 0, 1) := by decide +kernel
theorem dX1_init_31 : decode cX1_init 31 = .ok (.putfield 27, 3) := by decide +kernel
theorem dX1_init_34 : decode cX1_init 34 = .ok (.aload_n 0, 1) := by decide +kernel
theorem dX1_init_35 : decode cX1_init 35 = .ok (.iconst 0, 1) := by decide +kernel
theorem dX1_init_36 : decode cX1_init 36 = .ok (.putfield 30, 3) := by decide +kernel
theorem dX1_init_39 : decode cX1_init 39 = .ok (.return_, 1) := by decide +kernel
theorem dX1_start_0 : decode cX1_start 0 = .ok (.aload_n 0, 1) := by decide +kernel
theorem dX1_start_1 : decode cX1_start 1 = .ok (.iload_n 1, 1) := by decide +kernel
theorem dX1_start_2 : decode cX1_start 2 = .ok (.putfield 9, 3) := by decide +kernel
theorem dX1_start_5 : decode cX1_start 5 = .ok (.aload_n 0, 1) := by decide +kernel
theorem dX1_start_6 : decode cX1_start 6 = .ok (.iload_n 2, 1) := by decide +kernel
theorem dX1_start_7 : decode cX1_start 7 = .ok (.putfield 15, 3) := by decide +kernel
theorem dX1_start_10 : decode cX1_start 10 = .ok (.aload_n 0, 1) := by decide +kernel
theorem dX1_start_11 : decode cX1_start 11 = .ok (.iload_n 3, 1) := by decide +kernel
theorem dX1_start_12 : decode cX1_start 12 = .ok (.putfield 18, 3) := by decide +kernel
theorem dX1_start_15 : decode cX1_start 15 = .ok (.aload_n 0, 1) := by decide +kernel
theorem dX1_start_16 : decode cX1_start 16 = .ok (.iload 4, 2) := by decide +kernel
theorem dX1_start_18 : decode cX1_start 18 = .ok (.putfield 21, 3) := by decide +kernel
theorem dX1_start_21 : decode cX1_start 21 = .ok (.aload_n 0, 1) := by decide +kernel
theorem dX1_start_22 : decode cX1_start 22 = .ok (.iconst (-1), 1) := by decide +kernel
theorem dX1_start_23 : decode cX1_start 23 = .ok (.putfield 24, 3) := by decide +kernel
theorem dX1_start_26 : decode cX1_start 26 = .ok (.aload_n 0, 1) := by decide +kernel
theorem dX1_start_27 : decode cX1_start 27 = .ok (.iconst 0, 1) := by decide +kernel
theorem dX1_start_28 : decode cX1_start 28 = .ok (.putfield 27, 3) := by decide +kernel
theorem dX1_start_31 : decode cX1_start 31 = .ok (.aload_n 0, 1) := by decide +kernel
theorem dX1_start_32 : decode cX1_start 32 = .ok (.iconst 0, 1) := by decide +kernel
theorem dX1_start_33 : decode cX1_start 33 = .ok (.putfield 30, 3) := by decide +kernel
theorem dX1_start_36 : decode cX1_start 36 = .ok (.return_, 1) := by decide +kernel
theorem dX1_set_0 : decode cX1_set 0 = .ok (.aload_n 0, 1) := by decide +kernel
theorem dX1_set_1 : decode cX1_set 1 = .ok (.iload_n 1, 1) := by decide +kernel
theorem dX1_set_2 : decode cX1_set 2 = .ok (.iconst 2, 1) := by decide +kernel
theorem dX1_set_3 : decode cX1_set 3 = .ok (.idiv, 1) := by decide +kernel
theorem dX1_set_4 : decode cX1_set 4 = .ok (.putfield 21, 3) := by decide +kernel
theorem dX1_set_7 : decode cX1_set 7 = .ok (.aload_n 0, 1) := by decide +kernel
theorem dX1_set_8 : decode cX1_set 8 = .ok (.iload_n 1, 1) := by decide +kernel
theorem dX1_set_9 : decode cX1_set 9 = .ok (.iconst 2, 1) := by decide +kernel
theorem dX1_set_10 : decode cX1_set 10 = .ok (.irem, 1) := by decide +kernel
theorem dX1_set_11 : decode cX1_set 11 = .ok (.iconst 1, 1) := by decide +kernel
theorem dX1_set_12 : decode cX1_set 12 = .ok (.if_icmp .ne 7, 3) := by decide +kernel
theorem dX1_set_15 : decode cX1_set 15 = .ok (.iload_n 2, 1) := by decide +kernel
theorem dX1_set_16 : decode cX1_set 16 = .ok (.goto 4, 3) := by decide +kernel
theorem dX1_set_19 : decode cX1_set 19 = .ok (.iconst (-1), 1) := by decide +kernel
theorem dX1_set_20 : decode cX1_set 20 = .ok (.putfield 24, 3) := by decide +kernel
theorem dX1_set_23 : decode cX1_set 23 = .ok (.return_, 1) := by decide +kernel
theorem dX1_has_0 : decode cX1_has 0 = .ok (.aload_n 0, 1) := by decide +kernel
theorem dX1_has_1 : decode cX1_has 1 = .ok (.getfield 21, 3) := by decide +kernel
theorem dX1_has_4 : decode cX1_has 4 = .ok (.iload_n 1, 1) := by decide +kernel
theorem dX1_has_5 : decode cX1_has 5 = .ok (.iand, 1) := by decide +kernel
theorem dX1_has_6 : decode cX1_has 6 = .ok (.ifCond .eq 7, 3) := by decide +kernel
theorem dX1_has_9 : decode cX1_has 9 = .ok (.iconst 1, 1) := by decide +kernel
theorem dX1_has_10 : decode cX1_has 10 = .ok (.goto 4, 3) := by decide +kernel
theorem dX1_has_13 : decode cX1_has 13 = .ok (.iconst 0, 1) := by decide +kernel
theorem dX1_has_14 : decode cX1_has 14 = .ok (.ireturn, 1) := by decide +kernel
theorem dX2_init_0 : decode cX2_init 0 = .ok (.aload_n 0, 1) := by decide +kernel
theorem dX2_init_1 : decode cX2_init 1 = .ok (.invokespecial 3, 3) := by decide +kernel
theorem dX2_init_4 : decode cX2_init 4 = .ok (.aload_n 0, 1) := by decide +kernel
theorem dX2_init_5 : decode cX2_init 5 = .ok (.bipush 6, 2) := by decide +kernel
theorem dX2_init_7 : decode cX2_init 7 = .ok (.newarray .int, 2) := by decide +kernel
theorem dX2_init_9 : decode cX2_init 9 = .ok (.putfield 9, 3) := by decide +kernel
theorem dX2_init_12 : decode cX2_init 12 = .ok (.aload_n 0, 1) := by decide +kernel
theorem dX2_init_13 : decode cX2_init 13 = .ok (.bipush 6, 2) := by decide +kernel
theorem dX2_init_15 : decode cX2_init 15 = .ok (.newarray .int, 2) := by decide +kernel
theorem dX2_init_17 : decode cX2_init 17 = .ok (.putfield 15, 3) := by decide +kernel
theorem dX2_init_20 : decode cX2_init 20 = .ok (.aload_n 0, 1) := by decide +kernel
theorem dX2_init_21 : decode cX2_init 21 = .ok (.lconst 0, 1) := by decide +kernel
theorem dX2_init_22 : decode cX2_init 22 = .ok (.putfield 18, 3) := by decide +kernel
theorem dX2_init_25 : decode cX2_init 25 = .ok (.iconst 0, 1) := by decide +kernel
theorem dX2_init_26 : decode cX2_init 26 = .ok (.istore_n 1, 1) := by decide +kernel
theorem dX2_init_27 : decode cX2_init 27 = .ok (.iload_n 1, 1) := by decide +kernel
theorem dX2_init_28 : decode cX2_init 28 = .ok (.bipush 6, 2) := by decide +kernel
theorem dX2_init_30 : decode cX2_init 30 = .ok (.if_icmp .ge 17, 3) := by decide +kernel
theorem dX2_init_33 : decode cX2_init 33 = .ok (.aload_n 0, 1) := by decide +kernel
theorem dX2_init_34 : decode cX2_init 34 = .ok (.getfield 9, 3) := by decide +kernel
theorem dX2_init_37 : decode cX2_init 37 = .ok (.iload_n 1, 1) := by decide +kernel
theorem dX2_init_38 : decode cX2_init 38 = .ok (.bipush 10, 2) := by decide +kernel
theorem dX2_init_40 : decode cX2_init 40 = .ok (.iastore, 1) := by decide +kernel
theorem dX2_init_41 : decode cX2_init 41 = .ok (.iinc 1 1, 3) := by decide +kernel
theorem dX2_init_44 : decode cX2_init 44 = .ok (.goto (-17), 3) := by decide +kernel
theorem dX2_init_47 : decode cX2_init 47 = .ok (.return_, 1) := by decide +kernel
theorem dX2_clear_0 : decode cX2_clear 0 = .ok (.iconst 0, 1) := by decide +kernel
theorem dX2_clear_1 : decode cX2_clear 1 = .ok (.istore_n 1, 1) := by decide +kernel
theorem dX2_clear_2 : decode cX2_clear 2 = .ok (.iload_n 1, 1) := by decide +kernel
theorem dX2_clear_3 : decode cX2_clear 3 = .ok (.bipush 6, 2) := by decide +kernel
theorem dX2_clear_5 : decode cX2_clear 5 = .ok (.if_icmp .ge 16, 3) := by decide +kernel
theorem dX2_clear_8 : decode cX2_clear 8 = .ok (.aload_n 0, 1) := by decide +kernel
theorem dX2_clear_9 : decode cX2_clear 9 = .ok (.getfield 15, 3) := by decide +kernel
theorem dX2_clear_12 : decode cX2_clear 12 = .ok (.iload_n 1, 1) := by decide +kernel
theorem dX2_clear_13 : decode cX2_clear 13 = .ok (.iconst 0, 1) := by decide +kernel
theorem dX2_clear_14 : decode cX2_clear 14 = .ok (.iastore, 1) := by decide +kernel
theorem dX2_clear_15 : decode cX2_clear 15 = .ok (.iinc 1 1, 3) := by decide +kernel
theorem dX2_clear_18 : decode cX2_clear 18 = .ok (.goto (-16), 3) := by decide +kernel
theorem dX2_clear_21 : decode cX2_clear 21 = .ok (.aload_n 0, 1) := by decide +kernel
theorem dX2_clear_22 : decode cX2_clear 22 = .ok (.lconst 0, 1) := by decide +kernel
theorem dX2_clear_23 : decode cX2_clear 23 = .ok (.putfield 18, 3) := by decide +kernel
theorem dX2_clear_26 : decode cX2_clear 26 = .ok (.return_, 1) := by decide +kernel
theorem dX2_add_0 : decode cX2_add 0 = .ok (.lload_n 1, 1) := by decide +kernel
theorem dX2_add_1 : decode cX2_add 1 = .ok (.lstore_n 3, 1) := by decide +kernel
theorem dX2_add_2 : decode cX2_add 2 = .ok (.iconst 0, 1) := by decide +kernel
theorem dX2_add_3 : decode cX2_add 3 = .ok (.istore 5, 2) := by decide +kernel
theorem dX2_add_5 : decode cX2_add 5 = .ok (.iload 5, 2) := by decide +kernel
theorem dX2_add_7 : decode cX2_add 7 = .ok (.bipush 6, 2) := by decide +kernel
theorem dX2_add_9 : decode cX2_add 9 = .ok (.if_icmp .ge 79, 3) := by decide +kernel
theorem dX2_add_12 : decode cX2_add 12 = .ok (.aload_n 0, 1) := by decide +kernel
theorem dX2_add_13 : decode cX2_add 13 = .ok (.getfield 9, 3) := by decide +kernel
theorem dX2_add_16 : decode cX2_add 16 = .ok (.iload 5, 2) := by decide +kernel
theorem dX2_add_18 : decode cX2_add 18 = .ok (.iaload, 1) := by decide +kernel
theorem dX2_add_19 : decode cX2_add 19 = .ok (.iconst 2, 1) := by decide +kernel
theorem dX2_add_20 : decode cX2_add 20 = .ok (.invokestatic 22, 3) := by decide +kernel
theorem dX2_add_23 : decode cX2_add 23 = .ok (.istore 6, 2) := by decide +kernel
theorem dX2_add_25 : decode cX2_add 25 = .ok (.aload_n 0, 1) := by decide +kernel
theorem dX2_add_26 : decode cX2_add 26 = .ok (.getfield 15, 3) := by decide +kernel
theorem dX2_add_29 : decode cX2_add 29 = .ok (.iload 5, 2) := by decide +kernel
theorem dX2_add_31 : decode cX2_add 31 = .ok (.iaload, 1) := by decide +kernel
theorem dX2_add_32 : decode cX2_add 32 = .ok (.i2l, 1) := by decide +kernel
theorem dX2_add_33 : decode cX2_add 33 = .ok (.lload_n 3, 1) := by decide +kernel
theorem dX2_add_34 : decode cX2_add 34 = .ok (.iload 6, 2) := by decide +kernel
theorem dX2_add_36 : decode cX2_add 36 = .ok (.i2l, 1) := by decide +kernel
theorem dX2_add_37 : decode cX2_add 37 = .ok (.invokestatic 28, 3) := by decide +kernel
theorem dX2_add_40 : decode cX2_add 40 = .ok (.ladd, 1) := by decide +kernel
theorem dX2_add_41 : decode cX2_add 41 = .ok (.lstore 7, 2) := by decide +kernel
theorem dX2_add_43 : decode cX2_add 43 = .ok (.lload_n 3, 1) := by decide +kernel
theorem dX2_add_44 : decode cX2_add 44 = .ok (.iload 6, 2) := by decide +kernel
theorem dX2_add_46 : decode cX2_add 46 = .ok (.i2l, 1) := by decide +kernel
theorem dX2_add_47 : decode cX2_add 47 = .ok (.invokestatic 32, 3) := by decide +kernel
theorem dX2_add_50 : decode cX2_add 50 = .ok (.lstore_n 3, 1) := by decide +kernel
theorem dX2_add_51 : decode cX2_add 51 = .ok (.lload 7, 2) := by decide +kernel
theorem dX2_add_53 : decode cX2_add 53 = .ok (.iload 6, 2) := by decide +kernel
theorem dX2_add_55 : decode cX2_add 55 = .ok (.i2l, 1) := by decide +kernel
theorem dX2_add_56 : decode cX2_add 56 = .ok (.lcmp, 1) := by decide +kernel
theorem dX2_add_57 : decode cX2_add 57 = .ok (.ifCond .lt 15, 3) := by decide +kernel
theorem dX2_add_60 : decode cX2_add 60 = .ok (.lload 7, 2) := by decide +kernel
theorem dX2_add_62 : decode cX2_add 62 = .ok (.iload 6, 2) := by decide +kernel
theorem dX2_add_64 : decode cX2_add 64 = .ok (.i2l, 1) := by decide +kernel
theorem dX2_add_65 : decode cX2_add 65 = .ok (.lsub, 1) := by decide +kernel
theorem dX2_add_66 : decode cX2_add 66 = .ok (.lstore 7, 2) := by decide +kernel
theorem dX2_add_68 : decode cX2_add 68 = .ok (.lload_n 3, 1) := by decide +kernel
theorem dX2_add_69 : decode cX2_add 69 = .ok (.lconst 1, 1) := by decide +kernel
theorem dX2_add_70 : decode cX2_add 70 = .ok (.ladd, 1) := by decide +kernel
theorem dX2_add_71 : decode cX2_add 71 = .ok (.lstore_n 3, 1) := by decide +kernel
theorem dX2_add_72 : decode cX2_add 72 = .ok (.aload_n 0, 1) := by decide +kernel
theorem dX2_add_73 : decode cX2_add 73 = .ok (.getfield 15, 3) := by decide +kernel
theorem dX2_add_76 : decode cX2_add 76 = .ok (.iload 5, 2) := by decide +kernel
theorem dX2_add_78 : decode cX2_add 78 = .ok (.lload 7, 2) := by decide +kernel
theorem dX2_add_80 : decode cX2_add 80 = .ok (.l2i, 1) := by decide +kernel
theorem dX2_add_81 : decode cX2_add 81 = .ok (.iastore, 1) := by decide +kernel
theorem dX2_add_82 : decode cX2_add 82 = .ok (.iinc 5 1, 3) := by decide +kernel
theorem dX2_add_85 : decode cX2_add 85 = .ok (.goto (-80), 3) := by decide +kernel
theorem dX2_add_88 : decode cX2_add 88 = .ok (.aload_n 0, 1) := by decide +kernel
theorem dX2_add_89 : decode cX2_add 89 = .ok (.dup, 1) := by decide +kernel
theorem dX2_add_90 : decode cX2_add 90 = .ok (.getfield 18, 3) := by decide +kernel
theorem dX2_add_93 : decode cX2_add 93 = .ok (.lload_n 3, 1) := by decide +kernel
theorem dX2_add_94 : decode cX2_add 94 = .ok (.ladd, 1) := by decide +kernel
theorem dX2_add_95 : decode cX2_add 95 = .ok (.putfield 18, 3) := by decide +kernel
theorem dX2_add_98 : decode cX2_add 98 = .ok (.lload_n 3, 1) := by decide +kernel
theorem dX2_add_99 : decode cX2_add 99 = .ok (.lreturn, 1) := by decide +kernel
theorem dX2_total_0 : decode cX2_total 0 = .ok (.lconst 0, 1) := by decide +kernel
theorem dX2_total_1 : decode cX2_total 1 = .ok (.lstore_n 1, 1) := by decide +kernel
theorem dX2_total_2 : decode cX2_total 2 = .ok (.lconst 1, 1) := by decide +kernel
theorem dX2_total_3 : decode cX2_total 3 = .ok (.lstore_n 3, 1) := by decide +kernel
theorem dX2_total_4 : decode cX2_total 4 = .ok (.iconst 0, 1) := by decide +kernel
theorem dX2_total_5 : decode cX2_total 5 = .ok (.istore 5, 2) := by decide +kernel
theorem dX2_total_7 : decode cX2_total 7 = .ok (.iload 5, 2) := by decide +kernel
theorem dX2_total_9 : decode cX2_total 9 = .ok (.bipush 6, 2) := by decide +kernel
theorem dX2_total_11 : decode cX2_total 11 = .ok (.if_icmp .ge 33, 3) := by decide +kernel
theorem dX2_total_14 : decode cX2_total 14 = .ok (.lload_n 1, 1) := by decide +kernel
theorem dX2_total_15 : decode cX2_total 15 = .ok (.aload_n 0, 1) := by decide +kernel
theorem dX2_total_16 : decode cX2_total 16 = .ok (.getfield 15, 3) := by decide +kernel
theorem dX2_total_19 : decode cX2_total 19 = .ok (.iload 5, 2) := by decide +kernel
theorem dX2_total_21 : decode cX2_total 21 = .ok (.iaload, 1) := by decide +kernel
theorem dX2_total_22 : decode cX2_total 22 = .ok (.i2l, 1) := by decide +kernel
theorem dX2_total_23 : decode cX2_total 23 = .ok (.lload_n 3, 1) := by decide +kernel
theorem dX2_total_24 : decode cX2_total 24 = .ok (.lmul, 1) := by decide +kernel
theorem dX2_total_25 : decode cX2_total 25 = .ok (.ladd, 1) := by decide +kernel
theorem dX2_total_26 : decode cX2_total 26 = .ok (.lstore_n 1, 1) := by decide +kernel
theorem dX2_total_27 : decode cX2_total 27 = .ok (.lload_n 3, 1) := by decide +kernel
theorem dX2_total_28 : decode cX2_total 28 = .ok (.aload_n 0, 1) := by decide +kernel
theorem dX2_total_29 : decode cX2_total 29 = .ok (.getfield 9, 3) := by decide +kernel
theorem dX2_total_32 : decode cX2_total 32 = .ok (.iload 5, 2) := by decide +kernel
theorem dX2_total_34 : decode cX2_total 34 = .ok (.iaload, 1) := by decide +kernel
theorem dX2_total_35 : decode cX2_total 35 = .ok (.i2l, 1) := by decide +kernel
theorem dX2_total_36 : decode cX2_total 36 = .ok (.lmul, 1) := by decide +kernel
theorem dX2_total_37 : decode cX2_total 37 = .ok (.lstore_n 3, 1) := by decide +kernel
theorem dX2_total_38 : decode cX2_total 38 = .ok (.iinc 5 1, 3) := by decide +kernel
theorem dX2_total_41 : decode cX2_total 41 = .ok (.goto (-34), 3) := by decide +kernel
theorem dX2_total_44 : decode cX2_total 44 = .ok (.lload_n 1, 1) := by decide +kernel
theorem dX2_total_45 : decode cX2_total 45 = .ok (.lreturn, 1) := by decide +kernel
theorem dX3_init_0 : decode cX3_init 0 = .ok (.aload_n 0, 1) := by decide +kernel
theorem dX3_init_1 : decode cX3_init 1 = .ok (.invokespecial 3, 3) := by decide +kernel
theorem dX3_init_4 : decode cX3_init 4 = .ok (.aload_n 0, 1) := by decide +kernel
theorem dX3_init_5 : decode cX3_init 5 = .ok (.bipush 30, 2) := by decide +kernel
theorem dX3_init_7 : decode cX3_init 7 = .ok (.newarray .int, 2) := by decide +kernel
theorem dX3_init_9 : decode cX3_init 9 = .ok (.putfield 9, 3) := by decide +kernel
theorem dX3_init_12 : decode cX3_init 12 = .ok (.aload_n 0, 1) := by decide +kernel
theorem dX3_init_13 : decode cX3_init 13 = .ok (.bipush 30, 2) := by decide +kernel
theorem dX3_init_15 : decode cX3_init 15 = .ok (.newarray .int, 2) := by decide +kernel
theorem dX3_init_17 : decode cX3_init 17 = .ok (.putfield 15, 3) := by decide +kernel
theorem dX3_init_20 : decode cX3_init 20 = .ok (.aload_n 0, 1) := by decide +kernel
theorem dX3_init_21 : decode cX3_init 21 = .ok (.bipush 30, 2) := by decide +kernel
theorem dX3_init_23 : decode cX3_init 23 = .ok (.newarray .int, 2) := by decide +kernel
theorem dX3_init_25 : decode cX3_init 25 = .ok (.putfield 18, 3) := by decide +kernel
theorem dX3_init_28 : decode cX3_init 28 = .ok (.aload_n 0, 1) := by decide +kernel
theorem dX3_init_29 : decode cX3_init 29 = .ok (.iconst 0, 1) := by decide +kernel
theorem dX3_init_30 : decode cX3_init 30 = .ok (.putfield 21, 3) := by decide +kernel
theorem dX3_init_33 : decode cX3_init 33 = .ok (.return_, 1) := by decide +kernel
theorem dX3_isFull_0 : decode cX3_isFull 0 = .ok (.aload_n 0, 1) := by decide +kernel
theorem dX3_isFull_1 : decode cX3_isFull 1 = .ok (.getfield 21, 3) := by decide +kernel
theorem dX3_isFull_4 : decode cX3_isFull 4 = .ok (.bipush 30, 2) := by decide +kernel
theorem dX3_isFull_6 : decode cX3_isFull 6 = .ok (.if_icmp .lt 7, 3) := by decide +kernel
theorem dX3_isFull_9 : decode cX3_isFull 9 = .ok (.iconst 1, 1) := by decide +kernel
theorem dX3_isFull_10 : decode cX3_isFull 10 = .ok (.goto 4, 3) := by decide +kernel
theorem dX3_isFull_13 : decode cX3_isFull 13 = .ok (.iconst 0, 1) := by decide +kernel
theorem dX3_isFull_14 : decode cX3_isFull 14 = .ok (.ireturn, 1) := by decide +kernel
theorem dX3_placeOf_0 : decode cX3_placeOf 0 = .ok (.iconst 0, 1) := by decide +kernel
theorem dX3_placeOf_1 : decode cX3_placeOf 1 = .ok (.istore_n 3, 1) := by decide +kernel
theorem dX3_placeOf_2 : decode cX3_placeOf 2 = .ok (.iload_n 3, 1) := by decide +kernel
theorem dX3_placeOf_3 : decode cX3_placeOf 3 = .ok (.aload_n 0, 1) := by decide +kernel
theorem dX3_placeOf_4 : decode cX3_placeOf 4 = .ok (.getfield 21, 3) := by decide +kernel
theorem dX3_placeOf_7 : decode cX3_placeOf 7 = .ok (.if_icmp .ge 31, 3) := by decide +kernel
theorem dX3_placeOf_10 : decode cX3_placeOf 10 = .ok (.aload_n 0, 1) := by decide +kernel
theorem dX3_placeOf_11 : decode cX3_placeOf 11 = .ok (.getfield 9, 3) := by decide +kernel
theorem dX3_placeOf_14 : decode cX3_placeOf 14 = .ok (.iload_n 3, 1) := by decide +kernel
theorem dX3_placeOf_15 : decode cX3_placeOf 15 = .ok (.iaload, 1) := by decide +kernel
theorem dX3_placeOf_16 : decode cX3_placeOf 16 = .ok (.iload_n 1, 1) := by decide +kernel
theorem dX3_placeOf_17 : decode cX3_placeOf 17 = .ok (.if_icmp .ne 15, 3) := by decide +kernel
theorem dX3_placeOf_20 : decode cX3_placeOf 20 = .ok (.aload_n 0, 1) := by decide +kernel
theorem dX3_placeOf_21 : decode cX3_placeOf 21 = .ok (.getfield 15, 3) := by decide +kernel
theorem dX3_placeOf_24 : decode cX3_placeOf 24 = .ok (.iload_n 3, 1) := by decide +kernel
theorem dX3_placeOf_25 : decode cX3_placeOf 25 = .ok (.iaload, 1) := by decide +kernel
theorem dX3_placeOf_26 : decode cX3_placeOf 26 = .ok (.iload_n 2, 1) := by decide +kernel
theorem dX3_placeOf_27 : decode cX3_placeOf 27 = .ok (.if_icmp .ne 5, 3) := by decide +kernel
theorem dX3_placeOf_30 : decode cX3_placeOf 30 = .ok (.iload_n 3, 1) := by decide +kernel
theorem dX3_placeOf_31 : decode cX3_placeOf 31 = .ok (.ireturn, 1) := by decide +kernel
theorem dX3_placeOf_32 : decode cX3_placeOf 32 = .ok (.iinc 3 1, 3) := by decide +kernel
theorem dX3_placeOf_35 : decode cX3_placeOf 35 = .ok (.goto (-33), 3) := by decide +kernel
theorem dX3_placeOf_38 : decode cX3_placeOf 38 = .ok (.iconst (-1), 1) := by decide +kernel
theorem dX3_placeOf_39 : decode cX3_placeOf 39 = .ok (.ireturn, 1) := by decide +kernel
theorem dX3_formOf_0 : decode cX3_formOf 0 = .ok (.aload_n 0, 1) := by decide +kernel
theorem dX3_formOf_1 : decode cX3_formOf 1 = .ok (.iload_n 1, 1) := by decide +kernel
theorem dX3_formOf_2 : decode cX3_formOf 2 = .ok (.iload_n 2, 1) := by decide +kernel
theorem dX3_formOf_3 : decode cX3_formOf 3 = .ok (.invokevirtual 25, 3) := by decide +kernel
theorem dX3_formOf_6 : decode cX3_formOf 6 = .ok (.istore_n 3, 1) := by decide +kernel
theorem dX3_formOf_7 : decode cX3_formOf 7 = .ok (.iload_n 3, 1) := by decide +kernel
theorem dX3_formOf_8 : decode cX3_formOf 8 = .ok (.iconst (-1), 1) := by decide +kernel
theorem dX3_formOf_9 : decode cX3_formOf 9 = .ok (.if_icmp .ne 7, 3) := by decide +kernel
theorem dX3_formOf_12 : decode cX3_formOf 12 = .ok (.iconst (-1), 1) := by decide +kernel
theorem dX3_formOf_13 : decode cX3_formOf 13 = .ok (.goto 9, 3) := by decide +kernel
theorem dX3_formOf_16 : decode cX3_formOf 16 = .ok (.aload_n 0, 1) := by decide +kernel
theorem dX3_formOf_17 : decode cX3_formOf 17 = .ok (.getfield 18, 3) := by decide +kernel
theorem dX3_formOf_20 : decode cX3_formOf 20 = .ok (.iload_n 3, 1) := by decide +kernel
theorem dX3_formOf_21 : decode cX3_formOf 21 = .ok (.iaload, 1) := by decide +kernel
theorem dX3_formOf_22 : decode cX3_formOf 22 = .ok (.ireturn, 1) := by decide +kernel
theorem dX3_put_0 : decode cX3_put 0 = .ok (.aload_n 0, 1) := by decide +kernel
theorem dX3_put_1 : decode cX3_put 1 = .ok (.iload_n 1, 1) := by decide +kernel
theorem dX3_put_2 : decode cX3_put 2 = .ok (.iload_n 2, 1) := by decide +kernel
theorem dX3_put_3 : decode cX3_put 3 = .ok (.invokevirtual 25, 3) := by decide +kernel
theorem dX3_put_6 : decode cX3_put 6 = .ok (.istore 4, 2) := by decide +kernel
theorem dX3_put_8 : decode cX3_put 8 = .ok (.iload 4, 2) := by decide +kernel
theorem dX3_put_10 : decode cX3_put 10 = .ok (.iconst (-1), 1) := by decide +kernel
theorem dX3_put_11 : decode cX3_put 11 = .ok (.if_icmp .eq 14, 3) := by decide +kernel
theorem dX3_put_14 : decode cX3_put 14 = .ok (.aload_n 0, 1) := by decide +kernel
theorem dX3_put_15 : decode cX3_put 15 = .ok (.getfield 18, 3) := by decide +kernel
theorem dX3_put_18 : decode cX3_put 18 = .ok (.iload 4, 2) := by decide +kernel
theorem dX3_put_20 : decode cX3_put 20 = .ok (.iload_n 3, 1) := by decide +kernel
theorem dX3_put_21 : decode cX3_put 21 = .ok (.iastore, 1) := by decide +kernel
theorem dX3_put_22 : decode cX3_put 22 = .ok (.goto 52, 3) := by decide +kernel
theorem dX3_put_25 : decode cX3_put 25 = .ok (.aload_n 0, 1) := by decide +kernel
theorem dX3_put_26 : decode cX3_put 26 = .ok (.getfield 21, 3) := by decide +kernel
theorem dX3_put_29 : decode cX3_put 29 = .ok (.bipush 30, 2) := by decide +kernel
theorem dX3_put_31 : decode cX3_put 31 = .ok (.if_icmp .ge 43, 3) := by decide +kernel
theorem dX3_put_34 : decode cX3_put 34 = .ok (.aload_n 0, 1) := by decide +kernel
theorem dX3_put_35 : decode cX3_put 35 = .ok (.getfield 9, 3) := by decide +kernel
theorem dX3_put_38 : decode cX3_put 38 = .ok (.aload_n 0, 1) := by decide +kernel
theorem dX3_put_39 : decode cX3_put 39 = .ok (.getfield 21, 3) := by decide +kernel
theorem dX3_put_42 : decode cX3_put 42 = .ok (.iload_n 1, 1) := by decide +kernel
theorem dX3_put_43 : decode cX3_put 43 = .ok (.iastore, 1) := by decide +kernel
theorem dX3_put_44 : decode cX3_put 44 = .ok (.aload_n 0, 1) := by decide +kernel
theorem dX3_put_45 : decode cX3_put 45 = .ok (.getfield 15, 3) := by decide +kernel
theorem dX3_put_48 : decode cX3_put 48 = .ok (.aload_n 0, 1) := by decide +kernel
theorem dX3_put_49 : decode cX3_put 49 = .ok (.getfield 21, 3) := by decide +kernel
theorem dX3_put_52 : decode cX3_put 52 = .ok (.iload_n 2, 1) := by decide +kernel
theorem dX3_put_53 : decode cX3_put 53 = .ok (.iastore, 1) := by decide +kernel
theorem dX3_put_54 : decode cX3_put 54 = .ok (.aload_n 0, 1) := by decide +kernel
theorem dX3_put_55 : decode cX3_put 55 = .ok (.getfield 18, 3) := by decide +kernel
theorem dX3_put_58 : decode cX3_put 58 = .ok (.aload_n 0, 1) := by decide +kernel
theorem dX3_put_59 : decode cX3_put 59 = .ok (.getfield 21, 3) := by decide +kernel
theorem dX3_put_62 : decode cX3_put 62 = .ok (.iload_n 3, 1) := by decide +kernel
theorem dX3_put_63 : decode cX3_put 63 = .ok (.iastore, 1) := by decide +kernel
theorem dX3_put_64 : decode cX3_put 64 = .ok (.aload_n 0, 1) := by decide +kernel
theorem dX3_put_65 : decode cX3_put 65 = .ok (.dup, 1) := by decide +kernel
theorem dX3_put_66 : decode cX3_put 66 = .ok (.getfield 21, 3) := by decide +kernel
theorem dX3_put_69 : decode cX3_put 69 = .ok (.iconst 1, 1) := by decide +kernel
theorem dX3_put_70 : decode cX3_put 70 = .ok (.iadd, 1) := by decide +kernel
theorem dX3_put_71 : decode cX3_put 71 = .ok (.putfield 21, 3) := by decide +kernel
theorem dX3_put_74 : decode cX3_put 74 = .ok (.return_, 1) := by decide +kernel
theorem dX4_init_0 : decode cX4_init 0 = .ok (.aload_n 0, 1) := by decide +kernel
theorem dX4_init_1 : decode cX4_init 1 = .ok (.invokespecial 3, 3) := by decide +kernel
theorem dX4_init_4 : decode cX4_init 4 = .ok (.aload_n 0, 1) := by decide +kernel
theorem dX4_init_5 : decode cX4_init 5 = .ok (.new 9, 3) := by decide +kernel
theorem dX4_init_8 : decode cX4_init 8 = .ok (.dup, 1) := by decide +kernel
theorem dX4_init_9 : decode cX4_init 9 = .ok (.invokespecial 11, 3) := by decide +kernel
theorem dX4_init_12 : decode cX4_init 12 = .ok (.putfield 12, 3) := by decide +kernel
theorem dX4_init_15 : decode cX4_init 15 = .ok (.aload_n 0, 1) := by decide +kernel
theorem dX4_init_16 : decode cX4_init 16 = .ok (.iconst 5, 1) := by decide +kernel
theorem dX4_init_17 : decode cX4_init 17 = .ok (.anewarray 18, 3) := by decide +kernel
theorem dX4_init_20 : decode cX4_init 20 = .ok (.putfield 20, 3) := by decide +kernel
theorem dX4_init_23 : decode cX4_init 23 = .ok (.aload_n 0, 1) := by decide +kernel
theorem dX4_init_24 : decode cX4_init 24 = .ok (.iconst 0, 1) := by decide +kernel
theorem dX4_init_25 : decode cX4_init 25 = .ok (.putfield 24, 3) := by decide +kernel
theorem dX4_init_28 : decode cX4_init 28 = .ok (.aload_n 0, 1) := by decide +kernel
theorem dX4_init_29 : decode cX4_init 29 = .ok (.new 28, 3) := by decide +kernel
theorem dX4_init_32 : decode cX4_init 32 = .ok (.dup, 1) := by decide +kernel
theorem dX4_init_33 : decode cX4_init 33 = .ok (.invokespecial 30, 3) := by decide +kernel
theorem dX4_init_36 : decode cX4_init 36 = .ok (.putfield 31, 3) := by decide +kernel
theorem dX4_init_39 : decode cX4_init 39 = .ok (.aload_n 0, 1) := by decide +kernel
theorem dX4_init_40 : decode cX4_init 40 = .ok (.iconst (-1), 1) := by decide +kernel
theorem dX4_init_41 : decode cX4_init 41 = .ok (.putfield 35, 3) := by decide +kernel
theorem dX4_init_44 : decode cX4_init 44 = .ok (.aload_n 0, 1) := by decide +kernel
theorem dX4_init_45 : decode cX4_init 45 = .ok (.bipush 6, 2) := by decide +kernel
theorem dX4_init_47 : decode cX4_init 47 = .ok (.newarray .int, 2) := by decide +kernel
theorem dX4_init_49 : decode cX4_init 49 = .ok (.putfield 38, 3) := by decide +kernel
theorem dX4_init_52 : decode cX4_init 52 = .ok (.aload_n 0, 1) := by decide +kernel
theorem dX4_init_53 : decode cX4_init 53 = .ok (.bipush 6, 2) := by decide +kernel
theorem dX4_init_55 : decode cX4_init 55 = .ok (.newarray .int, 2) := by decide +kernel
theorem dX4_init_57 : decode cX4_init 57 = .ok (.putfield 42, 3) := by decide +kernel
theorem dX4_init_60 : decode cX4_init 60 = .ok (.aload_n 0, 1) := by decide +kernel
theorem dX4_init_61 : decode cX4_init 61 = .ok (.bipush 6, 2) := by decide +kernel
theorem dX4_init_63 : decode cX4_init 63 = .ok (.newarray .int, 2) := by decide +kernel
theorem dX4_init_65 : decode cX4_init 65 = .ok (.putfield 45, 3) := by decide +kernel
theorem dX4_init_68 : decode cX4_init 68 = .ok (.aload_n 0, 1) := by decide +kernel
theorem dX4_init_69 : decode cX4_init 69 = .ok (.iconst 0, 1) := by decide +kernel
theorem dX4_init_70 : decode cX4_init 70 = .ok (.putfield 48, 3) := by decide +kernel
theorem dX4_init_73 : decode cX4_init 73 = .ok (.iconst 0, 1) := by decide +kernel
theorem dX4_init_74 : decode cX4_init 74 = .ok (.istore_n 1, 1) := by decide +kernel
theorem dX4_init_75 : decode cX4_init 75 = .ok (.iload_n 1, 1) := by decide +kernel
theorem dX4_init_76 : decode cX4_init 76 = .ok (.iconst 5, 1) := by decide +kernel
theorem dX4_init_77 : decode cX4_init 77 = .ok (.if_icmp .ge 22, 3) := by decide +kernel
theorem dX4_init_80 : decode cX4_init 80 = .ok (.aload_n 0, 1) := by decide +kernel
theorem dX4_init_81 : decode cX4_init 81 = .ok (.getfield 20, 3) := by decide +kernel
theorem dX4_init_84 : decode cX4_init 84 = .ok (.iload_n 1, 1) := by decide +kernel
theorem dX4_init_85 : decode cX4_init 85 = .ok (.new 18, 3) := by decide +kernel
theorem dX4_init_88 : decode cX4_init 88 = .ok (.dup, 1) := by decide +kernel
theorem dX4_init_89 : decode cX4_init 89 = .ok (.invokespecial 51, 3) := by decide +kernel
theorem dX4_init_92 : decode cX4_init 92 = .ok (.aastore, 1) := by decide +kernel
theorem dX4_init_93 : decode cX4_init 93 = .ok (.iinc 1 1, 3) := by decide +kernel
theorem dX4_init_96 : decode cX4_init 96 = .ok (.goto (-21), 3) := by decide +kernel
theorem dX4_init_99 : decode cX4_init 99 = .ok (.return_, 1) := by decide +kernel
theorem dX4_clear_0 : decode cX4_clear 0 = .ok (.aload_n 0, 1) := by decide +kernel
theorem dX4_clear_1 : decode cX4_clear 1 = .ok (.getfield 12, 3) := by decide +kernel
theorem dX4_clear_4 : decode cX4_clear 4 = .ok (.iconst 0, 1) := by decide +kernel
theorem dX4_clear_5 : decode cX4_clear 5 = .ok (.putfield 52, 3) := by decide +kernel
theorem dX4_clear_8 : decode cX4_clear 8 = .ok (.aload_n 0, 1) := by decide +kernel
theorem dX4_clear_9 : decode cX4_clear 9 = .ok (.iconst 0, 1) := by decide +kernel
theorem dX4_clear_10 : decode cX4_clear 10 = .ok (.putfield 24, 3) := by decide +kernel
theorem dX4_clear_13 : decode cX4_clear 13 = .ok (.aload_n 0, 1) := by decide +kernel
theorem dX4_clear_14 : decode cX4_clear 14 = .ok (.getfield 31, 3) := by decide +kernel
theorem dX4_clear_17 : decode cX4_clear 17 = .ok (.iconst 0, 1) := by decide +kernel
theorem dX4_clear_18 : decode cX4_clear 18 = .ok (.putfield 55, 3) := by decide +kernel
theorem dX4_clear_21 : decode cX4_clear 21 = .ok (.aload_n 0, 1) := by decide +kernel
theorem dX4_clear_22 : decode cX4_clear 22 = .ok (.iconst (-1), 1) := by decide +kernel
theorem dX4_clear_23 : decode cX4_clear 23 = .ok (.putfield 35, 3) := by decide +kernel
theorem dX4_clear_26 : decode cX4_clear 26 = .ok (.aload_n 0, 1) := by decide +kernel
theorem dX4_clear_27 : decode cX4_clear 27 = .ok (.iconst 0, 1) := by decide +kernel
theorem dX4_clear_28 : decode cX4_clear 28 = .ok (.putfield 48, 3) := by decide +kernel
theorem dX4_clear_31 : decode cX4_clear 31 = .ok (.return_, 1) := by decide +kernel
theorem dX4_hasBase_0 : decode cX4_hasBase 0 = .ok (.iconst 0, 1) := by decide +kernel
theorem dX4_hasBase_1 : decode cX4_hasBase 1 = .ok (.istore_n 2, 1) := by decide +kernel
theorem dX4_hasBase_2 : decode cX4_hasBase 2 = .ok (.iload_n 2, 1) := by decide +kernel
theorem dX4_hasBase_3 : decode cX4_hasBase 3 = .ok (.aload_n 0, 1) := by decide +kernel
theorem dX4_hasBase_4 : decode cX4_hasBase 4 = .ok (.getfield 24, 3) := by decide +kernel
theorem dX4_hasBase_7 : decode cX4_hasBase 7 = .ok (.if_icmp .ge 24, 3) := by decide +kernel
theorem dX4_hasBase_10 : decode cX4_hasBase 10 = .ok (.aload_n 0, 1) := by decide +kernel
theorem dX4_hasBase_11 : decode cX4_hasBase 11 = .ok (.getfield 20, 3) := by decide +kernel
theorem dX4_hasBase_14 : decode cX4_hasBase 14 = .ok (.iload_n 2, 1) := by decide +kernel
theorem dX4_hasBase_15 : decode cX4_hasBase 15 = .ok (.aaload, 1) := by decide +kernel
theorem dX4_hasBase_16 : decode cX4_hasBase 16 = .ok (.getfield 56, 3) := by decide +kernel
theorem dX4_hasBase_19 : decode cX4_hasBase 19 = .ok (.iload_n 1, 1) := by decide +kernel
theorem dX4_hasBase_20 : decode cX4_hasBase 20 = .ok (.if_icmp .ne 5, 3) := by decide +kernel
theorem dX4_hasBase_23 : decode cX4_hasBase 23 = .ok (.iconst 1, 1) := by decide +kernel
theorem dX4_hasBase_24 : decode cX4_hasBase 24 = .ok (.ireturn, 1) := by decide +kernel
theorem dX4_hasBase_25 : decode cX4_hasBase 25 = .ok (.iinc 2 1, 3) := by decide +kernel
theorem dX4_hasBase_28 : decode cX4_hasBase 28 = .ok (.goto (-26), 3) := by decide +kernel
theorem dX4_hasBase_31 : decode cX4_hasBase 31 = .ok (.iconst 0, 1) := by decide +kernel
theorem dX4_hasBase_32 : decode cX4_hasBase 32 = .ok (.ireturn, 1) := by decide +kernel
theorem dX4_addBase_0 : decode cX4_addBase 0 = .ok (.aload_n 0, 1) := by decide +kernel
theorem dX4_addBase_1 : decode cX4_addBase 1 = .ok (.getfield 24, 3) := by decide +kernel
theorem dX4_addBase_4 : decode cX4_addBase 4 = .ok (.istore 5, 2) := by decide +kernel
theorem dX4_addBase_6 : decode cX4_addBase 6 = .ok (.iload 5, 2) := by decide +kernel
theorem dX4_addBase_8 : decode cX4_addBase 8 = .ok (.iconst 5, 1) := by decide +kernel
theorem dX4_addBase_9 : decode cX4_addBase 9 = .ok (.if_icmp .ge 28, 3) := by decide +kernel
theorem dX4_addBase_12 : decode cX4_addBase 12 = .ok (.aload_n 0, 1) := by decide +kernel
theorem dX4_addBase_13 : decode cX4_addBase 13 = .ok (.getfield 20, 3) := by decide +kernel
theorem dX4_addBase_16 : decode cX4_addBase 16 = .ok (.iload 5, 2) := by decide +kernel
theorem dX4_addBase_18 : decode cX4_addBase 18 = .ok (.aaload, 1) := by decide +kernel
theorem dX4_addBase_19 : decode cX4_addBase 19 = .ok (.iload_n 1, 1) := by decide +kernel
theorem dX4_addBase_20 : decode cX4_addBase 20 = .ok (.iload_n 2, 1) := by decide +kernel
theorem dX4_addBase_21 : decode cX4_addBase 21 = .ok (.iload_n 3, 1) := by decide +kernel
theorem dX4_addBase_22 : decode cX4_addBase 22 = .ok (.iload 4, 2) := by decide +kernel
theorem dX4_addBase_24 : decode cX4_addBase 24 = .ok (.invokevirtual 59, 3) := by decide +kernel
theorem dX4_addBase_27 : decode cX4_addBase 27 = .ok (.aload_n 0, 1) := by decide +kernel
theorem dX4_addBase_28 : decode cX4_addBase 28 = .ok (.dup, 1) := by decide +kernel
theorem dX4_addBase_29 : decode cX4_addBase 29 = .ok (.getfield 24, 3) := by decide +kernel
theorem dX4_addBase_32 : decode cX4_addBase 32 = .ok (.iconst 1, 1) := by decide +kernel
theorem dX4_addBase_33 : decode cX4_addBase 33 = .ok (.iadd, 1) := by decide +kernel
theorem dX4_addBase_34 : decode cX4_addBase 34 = .ok (.putfield 24, 3) := by decide +kernel
theorem dX4_addBase_37 : decode cX4_addBase 37 = .ok (.iload 5, 2) := by decide +kernel
theorem dX4_addBase_39 : decode cX4_addBase 39 = .ok (.ireturn, 1) := by decide +kernel
theorem dX4_addSeam_0 : decode cX4_addSeam 0 = .ok (.aload_n 0, 1) := by decide +kernel
theorem dX4_addSeam_1 : decode cX4_addSeam 1 = .ok (.getfield 48, 3) := by decide +kernel
theorem dX4_addSeam_4 : decode cX4_addSeam 4 = .ok (.bipush 6, 2) := by decide +kernel
theorem dX4_addSeam_6 : decode cX4_addSeam 6 = .ok (.if_icmp .ge 43, 3) := by decide +kernel
theorem dX4_addSeam_9 : decode cX4_addSeam 9 = .ok (.aload_n 0, 1) := by decide +kernel
theorem dX4_addSeam_10 : decode cX4_addSeam 10 = .ok (.getfield 38, 3) := by decide +kernel
theorem dX4_addSeam_13 : decode cX4_addSeam 13 = .ok (.aload_n 0, 1) := by decide +kernel
theorem dX4_addSeam_14 : decode cX4_addSeam 14 = .ok (.getfield 48, 3) := by decide +kernel
theorem dX4_addSeam_17 : decode cX4_addSeam 17 = .ok (.iload_n 1, 1) := by decide +kernel
theorem dX4_addSeam_18 : decode cX4_addSeam 18 = .ok (.iastore, 1) := by decide +kernel
theorem dX4_addSeam_19 : decode cX4_addSeam 19 = .ok (.aload_n 0, 1) := by decide +kernel
theorem dX4_addSeam_20 : decode cX4_addSeam 20 = .ok (.getfield 42, 3) := by decide +kernel
theorem dX4_addSeam_23 : decode cX4_addSeam 23 = .ok (.aload_n 0, 1) := by decide +kernel
theorem dX4_addSeam_24 : decode cX4_addSeam 24 = .ok (.getfield 48, 3) := by decide +kernel
theorem dX4_addSeam_27 : decode cX4_addSeam 27 = .ok (.iload_n 2, 1) := by decide +kernel
theorem dX4_addSeam_28 : decode cX4_addSeam 28 = .ok (.iastore, 1) := by decide +kernel
theorem dX4_addSeam_29 : decode cX4_addSeam 29 = .ok (.aload_n 0, 1) := by decide +kernel
theorem dX4_addSeam_30 : decode cX4_addSeam 30 = .ok (.getfield 45, 3) := by decide +kernel
theorem dX4_addSeam_33 : decode cX4_addSeam 33 = .ok (.aload_n 0, 1) := by decide +kernel
theorem dX4_addSeam_34 : decode cX4_addSeam 34 = .ok (.getfield 48, 3) := by decide +kernel
theorem dX4_addSeam_37 : decode cX4_addSeam 37 = .ok (.iload_n 3, 1) := by decide +kernel
theorem dX4_addSeam_38 : decode cX4_addSeam 38 = .ok (.iastore, 1) := by decide +kernel
theorem dX4_addSeam_39 : decode cX4_addSeam 39 = .ok (.aload_n 0, 1) := by decide +kernel
theorem dX4_addSeam_40 : decode cX4_addSeam 40 = .ok (.dup, 1) := by decide +kernel
theorem dX4_addSeam_41 : decode cX4_addSeam 41 = .ok (.getfield 48, 3) := by decide +kernel
theorem dX4_addSeam_44 : decode cX4_addSeam 44 = .ok (.iconst 1, 1) := by decide +kernel
theorem dX4_addSeam_45 : decode cX4_addSeam 45 = .ok (.iadd, 1) := by decide +kernel
theorem dX4_addSeam_46 : decode cX4_addSeam 46 = .ok (.putfield 48, 3) := by decide +kernel
theorem dX4_addSeam_49 : decode cX4_addSeam 49 = .ok (.return_, 1) := by decide +kernel
theorem dX4_speak_0 : decode cX4_speak 0 = .ok (.aload_n 3, 1) := by decide +kernel
theorem dX4_speak_1 : decode cX4_speak 1 = .ok (.invokevirtual 70, 3) := by decide +kernel
theorem dX4_speak_4 : decode cX4_speak 4 = .ok (.aload_n 0, 1) := by decide +kernel
theorem dX4_speak_5 : decode cX4_speak 5 = .ok (.aload_n 0, 1) := by decide +kernel
theorem dX4_speak_6 : decode cX4_speak 6 = .ok (.iload_n 1, 1) := by decide +kernel
theorem dX4_speak_7 : decode cX4_speak 7 = .ok (.iload_n 2, 1) := by decide +kernel
theorem dX4_speak_8 : decode cX4_speak 8 = .ok (.aload_n 3, 1) := by decide +kernel
theorem dX4_speak_9 : decode cX4_speak 9 = .ok (.invokevirtual 75, 3) := by decide +kernel
theorem dX4_speak_12 : decode cX4_speak 12 = .ok (.aload_n 3, 1) := by decide +kernel
theorem dX4_speak_13 : decode cX4_speak 13 = .ok (.invokevirtual 79, 3) := by decide +kernel
theorem dX4_speak_16 : decode cX4_speak 16 = .ok (.ireturn, 1) := by decide +kernel
theorem dX4_speakFraction_0 : decode cX4_speakFraction 0 = .ok (.aload 4, 2) := by decide +kernel
theorem dX4_speakFraction_2 : decode cX4_speakFraction 2 = .ok (.invokevirtual 70, 3) := by decide +kernel
theorem dX4_speakFraction_5 : decode cX4_speakFraction 5 = .ok (.aload_n 0, 1) := by decide +kernel
theorem dX4_speakFraction_6 : decode cX4_speakFraction 6 = .ok (.iload_n 1, 1) := by decide +kernel
theorem dX4_speakFraction_7 : decode cX4_speakFraction 7 = .ok (.iload_n 3, 1) := by decide +kernel
theorem dX4_speakFraction_8 : decode cX4_speakFraction 8 = .ok (.aload 4, 2) := by decide +kernel
theorem dX4_speakFraction_10 : decode cX4_speakFraction 10 = .ok (.invokevirtual 75, 3) := by decide +kernel
theorem dX4_speakFraction_13 : decode cX4_speakFraction 13 = .ok (.ifCond .eq 18, 3) := by decide +kernel
theorem dX4_speakFraction_16 : decode cX4_speakFraction 16 = .ok (.aload_n 0, 1) := by decide +kernel
theorem dX4_speakFraction_17 : decode cX4_speakFraction 17 = .ok (.iload_n 2, 1) := by decide +kernel
theorem dX4_speakFraction_18 : decode cX4_speakFraction 18 = .ok (.iconst 3, 1) := by decide +kernel
theorem dX4_speakFraction_19 : decode cX4_speakFraction 19 = .ok (.aload 4, 2) := by decide +kernel
theorem dX4_speakFraction_21 : decode cX4_speakFraction 21 = .ok (.invokevirtual 75, 3) := by decide +kernel
theorem dX4_speakFraction_24 : decode cX4_speakFraction 24 = .ok (.ifCond .eq 7, 3) := by decide +kernel
theorem dX4_speakFraction_27 : decode cX4_speakFraction 27 = .ok (.iconst 1, 1) := by decide +kernel
theorem dX4_speakFraction_28 : decode cX4_speakFraction 28 = .ok (.goto 4, 3) := by decide +kernel
theorem dX4_speakFraction_31 : decode cX4_speakFraction 31 = .ok (.iconst 0, 1) := by decide +kernel
theorem dX4_speakFraction_32 : decode cX4_speakFraction 32 = .ok (.istore 5, 2) := by decide +kernel
theorem dX4_speakFraction_34 : decode cX4_speakFraction 34 = .ok (.aload_n 0, 1) := by decide +kernel
theorem dX4_speakFraction_35 : decode cX4_speakFraction 35 = .ok (.iload 5, 2) := by decide +kernel
theorem dX4_speakFraction_37 : decode cX4_speakFraction 37 = .ok (.aload 4, 2) := by decide +kernel
theorem dX4_speakFraction_39 : decode cX4_speakFraction 39 = .ok (.invokevirtual 79, 3) := by decide +kernel
theorem dX4_speakFraction_42 : decode cX4_speakFraction 42 = .ok (.ireturn, 1) := by decide +kernel
theorem dX4_endSaying_0 : decode cX4_endSaying 0 = .ok (.iload_n 1, 1) := by decide +kernel
theorem dX4_endSaying_1 : decode cX4_endSaying 1 = .ok (.ifCond .ne 9, 3) := by decide +kernel
theorem dX4_endSaying_4 : decode cX4_endSaying 4 = .ok (.aload_n 2, 1) := by decide +kernel
theorem dX4_endSaying_5 : decode cX4_endSaying 5 = .ok (.invokevirtual 70, 3) := by decide +kernel
theorem dX4_endSaying_8 : decode cX4_endSaying 8 = .ok (.iconst 0, 1) := by decide +kernel
theorem dX4_endSaying_9 : decode cX4_endSaying 9 = .ok (.ireturn, 1) := by decide +kernel
theorem dX4_endSaying_10 : decode cX4_endSaying 10 = .ok (.iconst 0, 1) := by decide +kernel
theorem dX4_endSaying_11 : decode cX4_endSaying 11 = .ok (.istore_n 3, 1) := by decide +kernel
theorem dX4_endSaying_12 : decode cX4_endSaying 12 = .ok (.iload_n 3, 1) := by decide +kernel
theorem dX4_endSaying_13 : decode cX4_endSaying 13 = .ok (.aload_n 0, 1) := by decide +kernel
theorem dX4_endSaying_14 : decode cX4_endSaying 14 = .ok (.getfield 48, 3) := by decide +kernel
theorem dX4_endSaying_17 : decode cX4_endSaying 17 = .ok (.if_icmp .ge 31, 3) := by decide +kernel
theorem dX4_endSaying_20 : decode cX4_endSaying 20 = .ok (.aload_n 2, 1) := by decide +kernel
theorem dX4_endSaying_21 : decode cX4_endSaying 21 = .ok (.aload_n 0, 1) := by decide +kernel
theorem dX4_endSaying_22 : decode cX4_endSaying 22 = .ok (.getfield 38, 3) := by decide +kernel
theorem dX4_endSaying_25 : decode cX4_endSaying 25 = .ok (.iload_n 3, 1) := by decide +kernel
theorem dX4_endSaying_26 : decode cX4_endSaying 26 = .ok (.iaload, 1) := by decide +kernel
theorem dX4_endSaying_27 : decode cX4_endSaying 27 = .ok (.aload_n 0, 1) := by decide +kernel
theorem dX4_endSaying_28 : decode cX4_endSaying 28 = .ok (.getfield 42, 3) := by decide +kernel
theorem dX4_endSaying_31 : decode cX4_endSaying 31 = .ok (.iload_n 3, 1) := by decide +kernel
theorem dX4_endSaying_32 : decode cX4_endSaying 32 = .ok (.iaload, 1) := by decide +kernel
theorem dX4_endSaying_33 : decode cX4_endSaying 33 = .ok (.aload_n 0, 1) := by decide +kernel
theorem dX4_endSaying_34 : decode cX4_endSaying 34 = .ok (.getfield 45, 3) := by decide +kernel
theorem dX4_endSaying_37 : decode cX4_endSaying 37 = .ok (.iload_n 3, 1) := by decide +kernel
theorem dX4_endSaying_38 : decode cX4_endSaying 38 = .ok (.iaload, 1) := by decide +kernel
theorem dX4_endSaying_39 : decode cX4_endSaying 39 = .ok (.invokevirtual 83, 3) := by decide +kernel
theorem dX4_endSaying_42 : decode cX4_endSaying 42 = .ok (.iinc 3 1, 3) := by decide +kernel
theorem dX4_endSaying_45 : decode cX4_endSaying 45 = .ok (.goto (-33), 3) := by decide +kernel
theorem dX4_endSaying_48 : decode cX4_endSaying 48 = .ok (.iconst 1, 1) := by decide +kernel
theorem dX4_endSaying_49 : decode cX4_endSaying 49 = .ok (.ireturn, 1) := by decide +kernel
theorem dX4_addNameFor_0 : decode cX4_addNameFor 0 = .ok (.aload_n 0, 1) := by decide +kernel
theorem dX4_addNameFor_1 : decode cX4_addNameFor 1 = .ok (.iload_n 1, 1) := by decide +kernel
theorem dX4_addNameFor_2 : decode cX4_addNameFor 2 = .ok (.aload_n 3, 1) := by decide +kernel
theorem dX4_addNameFor_3 : decode cX4_addNameFor 3 = .ok (.iconst 0, 1) := by decide +kernel
theorem dX4_addNameFor_4 : decode cX4_addNameFor 4 = .ok (.invokevirtual 87, 3) := by decide +kernel
theorem dX4_addNameFor_7 : decode cX4_addNameFor 7 = .ok (.ifCond .ne 5, 3) := by decide +kernel
theorem dX4_addNameFor_10 : decode cX4_addNameFor 10 = .ok (.iconst 0, 1) := by decide +kernel
theorem dX4_addNameFor_11 : decode cX4_addNameFor 11 = .ok (.ireturn, 1) := by decide +kernel
theorem dX4_addNameFor_12 : decode cX4_addNameFor 12 = .ok (.aload_n 0, 1) := by decide +kernel
theorem dX4_addNameFor_13 : decode cX4_addNameFor 13 = .ok (.getfield 31, 3) := by decide +kernel
theorem dX4_addNameFor_16 : decode cX4_addNameFor 16 = .ok (.aload_n 3, 1) := by decide +kernel
theorem dX4_addNameFor_17 : decode cX4_addNameFor 17 = .ok (.invokevirtual 91, 3) := by decide +kernel
theorem dX4_addNameFor_20 : decode cX4_addNameFor 20 = .ok (.iload_n 2, 1) := by decide +kernel
theorem dX4_addNameFor_21 : decode cX4_addNameFor 21 = .ok (.invokevirtual 95, 3) := by decide +kernel
theorem dX4_addNameFor_24 : decode cX4_addNameFor 24 = .ok (.istore 4, 2) := by decide +kernel
theorem dX4_addNameFor_26 : decode cX4_addNameFor 26 = .ok (.iload 4, 2) := by decide +kernel
theorem dX4_addNameFor_28 : decode cX4_addNameFor 28 = .ok (.iconst (-1), 1) := by decide +kernel
theorem dX4_addNameFor_29 : decode cX4_addNameFor 29 = .ok (.if_icmp .eq 11, 3) := by decide +kernel
theorem dX4_addNameFor_32 : decode cX4_addNameFor 32 = .ok (.aload_n 3, 1) := by decide +kernel
theorem dX4_addNameFor_33 : decode cX4_addNameFor 33 = .ok (.iload 4, 2) := by decide +kernel
theorem dX4_addNameFor_35 : decode cX4_addNameFor 35 = .ok (.invokevirtual 99, 3) := by decide +kernel
theorem dX4_addNameFor_38 : decode cX4_addNameFor 38 = .ok (.iconst 1, 1) := by decide +kernel
theorem dX4_addNameFor_39 : decode cX4_addNameFor 39 = .ok (.ireturn, 1) := by decide +kernel
theorem dX4_addNameFor_40 : decode cX4_addNameFor 40 = .ok (.iload_n 2, 1) := by decide +kernel
theorem dX4_addNameFor_41 : decode cX4_addNameFor 41 = .ok (.iconst 3, 1) := by decide +kernel
theorem dX4_addNameFor_42 : decode cX4_addNameFor 42 = .ok (.if_icmp .ne 14, 3) := by decide +kernel
theorem dX4_addNameFor_45 : decode cX4_addNameFor 45 = .ok (.aload_n 0, 1) := by decide +kernel
theorem dX4_addNameFor_46 : decode cX4_addNameFor 46 = .ok (.getfield 35, 3) := by decide +kernel
theorem dX4_addNameFor_49 : decode cX4_addNameFor 49 = .ok (.aload_n 3, 1) := by decide +kernel
theorem dX4_addNameFor_50 : decode cX4_addNameFor 50 = .ok (.invokestatic 103, 3) := by decide +kernel
theorem dX4_addNameFor_53 : decode cX4_addNameFor 53 = .ok (.ifCond .eq 7, 3) := by decide +kernel
theorem dX4_addNameFor_56 : decode cX4_addNameFor 56 = .ok (.iconst 1, 1) := by decide +kernel
theorem dX4_addNameFor_57 : decode cX4_addNameFor 57 = .ok (.goto 4, 3) := by decide +kernel
theorem dX4_addNameFor_60 : decode cX4_addNameFor 60 = .ok (.iconst 0, 1) := by decide +kernel
theorem dX4_addNameFor_61 : decode cX4_addNameFor 61 = .ok (.ireturn, 1) := by decide +kernel
theorem dX4_addUnlessNone_0 : decode cX4_addUnlessNone 0 = .ok (.iload_n 0, 1) := by decide +kernel
theorem dX4_addUnlessNone_1 : decode cX4_addUnlessNone 1 = .ok (.iconst (-1), 1) := by decide +kernel
theorem dX4_addUnlessNone_2 : decode cX4_addUnlessNone 2 = .ok (.if_icmp .eq 11, 3) := by decide +kernel
theorem dX4_addUnlessNone_5 : decode cX4_addUnlessNone 5 = .ok (.aload_n 1, 1) := by decide +kernel
theorem dX4_addUnlessNone_6 : decode cX4_addUnlessNone 6 = .ok (.iload_n 0, 1) := by decide +kernel
theorem dX4_addUnlessNone_7 : decode cX4_addUnlessNone 7 = .ok (.invokevirtual 107, 3) := by decide +kernel
theorem dX4_addUnlessNone_10 : decode cX4_addUnlessNone 10 = .ok (.ifCond .eq 7, 3) := by decide +kernel
theorem dX4_addUnlessNone_13 : decode cX4_addUnlessNone 13 = .ok (.iconst 1, 1) := by decide +kernel
theorem dX4_addUnlessNone_14 : decode cX4_addUnlessNone 14 = .ok (.goto 4, 3) := by decide +kernel
theorem dX4_addUnlessNone_17 : decode cX4_addUnlessNone 17 = .ok (.iconst 0, 1) := by decide +kernel
theorem dX4_addUnlessNone_18 : decode cX4_addUnlessNone 18 = .ok (.ireturn, 1) := by decide +kernel
theorem dX4_addName_0 : decode cX4_addName 0 = .ok (.iload_n 3, 1) := by decide +kernel
theorem dX4_addName_1 : decode cX4_addName 1 = .ok (.bipush 40, 2) := by decide +kernel
theorem dX4_addName_3 : decode cX4_addName 3 = .ok (.if_icmp .le 5, 3) := by decide +kernel
theorem dX4_addName_6 : decode cX4_addName 6 = .ok (.iconst 0, 1) := by decide +kernel
theorem dX4_addName_7 : decode cX4_addName 7 = .ok (.ireturn, 1) := by decide +kernel
theorem dX4_addName_8 : decode cX4_addName 8 = .ok (.aload_n 0, 1) := by decide +kernel
theorem dX4_addName_9 : decode cX4_addName 9 = .ok (.getfield 12, 3) := by decide +kernel
theorem dX4_addName_12 : decode cX4_addName 12 = .ok (.iload_n 1, 1) := by decide +kernel
theorem dX4_addName_13 : decode cX4_addName 13 = .ok (.invokevirtual 111, 3) := by decide +kernel
theorem dX4_addName_16 : decode cX4_addName 16 = .ok (.istore 4, 2) := by decide +kernel
theorem dX4_addName_18 : decode cX4_addName 18 = .ok (.iload 4, 2) := by decide +kernel
theorem dX4_addName_20 : decode cX4_addName 20 = .ok (.iconst (-1), 1) := by decide +kernel
theorem dX4_addName_21 : decode cX4_addName 21 = .ok (.if_icmp .eq 10, 3) := by decide +kernel
theorem dX4_addName_24 : decode cX4_addName 24 = .ok (.aload_n 2, 1) := by decide +kernel
theorem dX4_addName_25 : decode cX4_addName 25 = .ok (.iload 4, 2) := by decide +kernel
theorem dX4_addName_27 : decode cX4_addName 27 = .ok (.invokevirtual 107, 3) := by decide +kernel
theorem dX4_addName_30 : decode cX4_addName 30 = .ok (.ireturn, 1) := by decide +kernel
theorem dX4_addName_31 : decode cX4_addName 31 = .ok (.aload_n 0, 1) := by decide +kernel
theorem dX4_addName_32 : decode cX4_addName 32 = .ok (.iload_n 1, 1) := by decide +kernel
theorem dX4_addName_33 : decode cX4_addName 33 = .ok (.invokevirtual 114, 3) := by decide +kernel
theorem dX4_addName_36 : decode cX4_addName 36 = .ok (.astore 5, 2) := by decide +kernel
theorem dX4_addName_38 : decode cX4_addName 38 = .ok (.aload 5, 2) := by decide +kernel
theorem dX4_addName_40 : decode cX4_addName 40 = .ok (.ifnull 12, 3) := by decide +kernel
theorem dX4_addName_43 : decode cX4_addName 43 = .ok (.aload 5, 2) := by decide +kernel
theorem dX4_addName_45 : decode cX4_addName 45 = .ok (.getfield 56, 3) := by decide +kernel
theorem dX4_addName_48 : decode cX4_addName 48 = .ok (.iconst 2, 1) := by decide +kernel
theorem dX4_addName_49 : decode cX4_addName 49 = .ok (.if_icmp .ge 5, 3) := by decide +kernel
theorem dX4_addName_52 : decode cX4_addName 52 = .ok (.iconst 0, 1) := by decide +kernel
theorem dX4_addName_53 : decode cX4_addName 53 = .ok (.ireturn, 1) := by decide +kernel
theorem dX4_addName_54 : decode cX4_addName 54 = .ok (.iload_n 1, 1) := by decide +kernel
theorem dX4_addName_55 : decode cX4_addName 55 = .ok (.aload 5, 2) := by decide +kernel
theorem dX4_addName_57 : decode cX4_addName 57 = .ok (.getfield 56, 3) := by decide +kernel
theorem dX4_addName_60 : decode cX4_addName 60 = .ok (.idiv, 1) := by decide +kernel
theorem dX4_addName_61 : decode cX4_addName 61 = .ok (.istore 6, 2) := by decide +kernel
theorem dX4_addName_63 : decode cX4_addName 63 = .ok (.iload_n 1, 1) := by decide +kernel
theorem dX4_addName_64 : decode cX4_addName 64 = .ok (.aload 5, 2) := by decide +kernel
theorem dX4_addName_66 : decode cX4_addName 66 = .ok (.getfield 56, 3) := by decide +kernel
theorem dX4_addName_69 : decode cX4_addName 69 = .ok (.irem, 1) := by decide +kernel
theorem dX4_addName_70 : decode cX4_addName 70 = .ok (.istore 7, 2) := by decide +kernel
theorem dX4_addName_72 : decode cX4_addName 72 = .ok (.iload 7, 2) := by decide +kernel
theorem dX4_addName_74 : decode cX4_addName 74 = .ok (.ifCond .ne 14, 3) := by decide +kernel
theorem dX4_addName_77 : decode cX4_addName 77 = .ok (.aload_n 0, 1) := by decide +kernel
theorem dX4_addName_78 : decode cX4_addName 78 = .ok (.aload 5, 2) := by decide +kernel
theorem dX4_addName_80 : decode cX4_addName 80 = .ok (.iload 6, 2) := by decide +kernel
theorem dX4_addName_82 : decode cX4_addName 82 = .ok (.aload_n 2, 1) := by decide +kernel
theorem dX4_addName_83 : decode cX4_addName 83 = .ok (.iload_n 3, 1) := by decide +kernel
theorem dX4_addName_84 : decode cX4_addName 84 = .ok (.invokevirtual 118, 3) := by decide +kernel
theorem dX4_addName_87 : decode cX4_addName 87 = .ok (.ireturn, 1) := by decide +kernel
theorem dX4_addName_88 : decode cX4_addName 88 = .ok (.aload 5, 2) := by decide +kernel
theorem dX4_addName_90 : decode cX4_addName 90 = .ok (.getfield 56, 3) := by decide +kernel
theorem dX4_addName_93 : decode cX4_addName 93 = .ok (.iload 7, 2) := by decide +kernel
theorem dX4_addName_95 : decode cX4_addName 95 = .ok (.isub, 1) := by decide +kernel
theorem dX4_addName_96 : decode cX4_addName 96 = .ok (.istore 8, 2) := by decide +kernel
theorem dX4_addName_98 : decode cX4_addName 98 = .ok (.iload 8, 2) := by decide +kernel
theorem dX4_addName_100 : decode cX4_addName 100 = .ok (.aload 5, 2) := by decide +kernel
theorem dX4_addName_102 : decode cX4_addName 102 = .ok (.getfield 122, 3) := by decide +kernel
theorem dX4_addName_105 : decode cX4_addName 105 = .ok (.if_icmp .gt 49, 3) := by decide +kernel
theorem dX4_addName_108 : decode cX4_addName 108 = .ok (.aload_n 0, 1) := by decide +kernel
theorem dX4_addName_109 : decode cX4_addName 109 = .ok (.iload 8, 2) := by decide +kernel
theorem dX4_addName_111 : decode cX4_addName 111 = .ok (.aload_n 2, 1) := by decide +kernel
theorem dX4_addName_112 : decode cX4_addName 112 = .ok (.iload_n 3, 1) := by decide +kernel
theorem dX4_addName_113 : decode cX4_addName 113 = .ok (.iconst 1, 1) := by decide +kernel
theorem dX4_addName_114 : decode cX4_addName 114 = .ok (.iadd, 1) := by decide +kernel
theorem dX4_addName_115 : decode cX4_addName 115 = .ok (.invokevirtual 87, 3) := by decide +kernel
theorem dX4_addName_118 : decode cX4_addName 118 = .ok (.ifCond .eq 34, 3) := by decide +kernel
theorem dX4_addName_121 : decode cX4_addName 121 = .ok (.aload_n 2, 1) := by decide +kernel
theorem dX4_addName_122 : decode cX4_addName 122 = .ok (.aload 5, 2) := by decide +kernel
theorem dX4_addName_124 : decode cX4_addName 124 = .ok (.getfield 125, 3) := by decide +kernel
theorem dX4_addName_127 : decode cX4_addName 127 = .ok (.invokevirtual 107, 3) := by decide +kernel
theorem dX4_addName_130 : decode cX4_addName 130 = .ok (.ifCond .eq 22, 3) := by decide +kernel
theorem dX4_addName_133 : decode cX4_addName 133 = .ok (.aload_n 0, 1) := by decide +kernel
theorem dX4_addName_134 : decode cX4_addName 134 = .ok (.aload 5, 2) := by decide +kernel
theorem dX4_addName_136 : decode cX4_addName 136 = .ok (.iload 6, 2) := by decide +kernel
theorem dX4_addName_138 : decode cX4_addName 138 = .ok (.iconst 1, 1) := by decide +kernel
theorem dX4_addName_139 : decode cX4_addName 139 = .ok (.iadd, 1) := by decide +kernel
theorem dX4_addName_140 : decode cX4_addName 140 = .ok (.aload_n 2, 1) := by decide +kernel
theorem dX4_addName_141 : decode cX4_addName 141 = .ok (.iload_n 3, 1) := by decide +kernel
theorem dX4_addName_142 : decode cX4_addName 142 = .ok (.invokevirtual 118, 3) := by decide +kernel
theorem dX4_addName_145 : decode cX4_addName 145 = .ok (.ifCond .eq 7, 3) := by decide +kernel
theorem dX4_addName_148 : decode cX4_addName 148 = .ok (.iconst 1, 1) := by decide +kernel
theorem dX4_addName_149 : decode cX4_addName 149 = .ok (.goto 4, 3) := by decide +kernel
theorem dX4_addName_152 : decode cX4_addName 152 = .ok (.iconst 0, 1) := by decide +kernel
theorem dX4_addName_153 : decode cX4_addName 153 = .ok (.ireturn, 1) := by decide +kernel
theorem dX4_addName_154 : decode cX4_addName 154 = .ok (.aload 5, 2) := by decide +kernel
theorem dX4_addName_156 : decode cX4_addName 156 = .ok (.bipush 8, 2) := by decide +kernel
theorem dX4_addName_158 : decode cX4_addName 158 = .ok (.invokevirtual 128, 3) := by decide +kernel
theorem dX4_addName_161 : decode cX4_addName 161 = .ok (.ifCond .ne 12, 3) := by decide +kernel
theorem dX4_addName_164 : decode cX4_addName 164 = .ok (.aload 5, 2) := by decide +kernel
theorem dX4_addName_166 : decode cX4_addName 166 = .ok (.iconst 4, 1) := by decide +kernel
theorem dX4_addName_167 : decode cX4_addName 167 = .ok (.invokevirtual 128, 3) := by decide +kernel
theorem dX4_addName_170 : decode cX4_addName 170 = .ok (.ifCond .eq 64, 3) := by decide +kernel
theorem dX4_addName_173 : decode cX4_addName 173 = .ok (.aload_n 0, 1) := by decide +kernel
theorem dX4_addName_174 : decode cX4_addName 174 = .ok (.iload 7, 2) := by decide +kernel
theorem dX4_addName_176 : decode cX4_addName 176 = .ok (.aload_n 2, 1) := by decide +kernel
theorem dX4_addName_177 : decode cX4_addName 177 = .ok (.iload_n 3, 1) := by decide +kernel
theorem dX4_addName_178 : decode cX4_addName 178 = .ok (.iconst 1, 1) := by decide +kernel
theorem dX4_addName_179 : decode cX4_addName 179 = .ok (.iadd, 1) := by decide +kernel
theorem dX4_addName_180 : decode cX4_addName 180 = .ok (.invokevirtual 87, 3) := by decide +kernel
theorem dX4_addName_183 : decode cX4_addName 183 = .ok (.ifCond .eq 49, 3) := by decide +kernel
theorem dX4_addName_186 : decode cX4_addName 186 = .ok (.aload 5, 2) := by decide +kernel
theorem dX4_addName_188 : decode cX4_addName 188 = .ok (.getfield 131, 3) := by decide +kernel
theorem dX4_addName_191 : decode cX4_addName 191 = .ok (.aload_n 2, 1) := by decide +kernel
theorem dX4_addName_192 : decode cX4_addName 192 = .ok (.invokestatic 103, 3) := by decide +kernel
theorem dX4_addName_195 : decode cX4_addName 195 = .ok (.ifCond .eq 37, 3) := by decide +kernel
theorem dX4_addName_198 : decode cX4_addName 198 = .ok (.aload_n 0, 1) := by decide +kernel
theorem dX4_addName_199 : decode cX4_addName 199 = .ok (.aload 5, 2) := by decide +kernel
theorem dX4_addName_201 : decode cX4_addName 201 = .ok (.aload 5, 2) := by decide +kernel
theorem dX4_addName_203 : decode cX4_addName 203 = .ok (.bipush 8, 2) := by decide +kernel
theorem dX4_addName_205 : decode cX4_addName 205 = .ok (.invokevirtual 128, 3) := by decide +kernel
theorem dX4_addName_208 : decode cX4_addName 208 = .ok (.ifCond .eq 10, 3) := by decide +kernel
theorem dX4_addName_211 : decode cX4_addName 211 = .ok (.iload 6, 2) := by decide +kernel
theorem dX4_addName_213 : decode cX4_addName 213 = .ok (.iconst 1, 1) := by decide +kernel
theorem dX4_addName_214 : decode cX4_addName 214 = .ok (.iadd, 1) := by decide +kernel
theorem dX4_addName_215 : decode cX4_addName 215 = .ok (.goto 5, 3) := by decide +kernel
theorem dX4_addName_218 : decode cX4_addName 218 = .ok (.iload 6, 2) := by decide +kernel
theorem dX4_addName_220 : decode cX4_addName 220 = .ok (.aload_n 2, 1) := by decide +kernel
theorem dX4_addName_221 : decode cX4_addName 221 = .ok (.iload_n 3, 1) := by decide +kernel
theorem dX4_addName_222 : decode cX4_addName 222 = .ok (.invokevirtual 118, 3) := by decide +kernel
theorem dX4_addName_225 : decode cX4_addName 225 = .ok (.ifCond .eq 7, 3) := by decide +kernel
theorem dX4_addName_228 : decode cX4_addName 228 = .ok (.iconst 1, 1) := by decide +kernel
theorem dX4_addName_229 : decode cX4_addName 229 = .ok (.goto 4, 3) := by decide +kernel
theorem dX4_addName_232 : decode cX4_addName 232 = .ok (.iconst 0, 1) := by decide +kernel
theorem dX4_addName_233 : decode cX4_addName 233 = .ok (.ireturn, 1) := by decide +kernel
theorem dX4_addName_234 : decode cX4_addName 234 = .ok (.aload_n 0, 1) := by decide +kernel
theorem dX4_addName_235 : decode cX4_addName 235 = .ok (.aload 5, 2) := by decide +kernel
theorem dX4_addName_237 : decode cX4_addName 237 = .ok (.iload 6, 2) := by decide +kernel
theorem dX4_addName_239 : decode cX4_addName 239 = .ok (.aload_n 2, 1) := by decide +kernel
theorem dX4_addName_240 : decode cX4_addName 240 = .ok (.iload_n 3, 1) := by decide +kernel
theorem dX4_addName_241 : decode cX4_addName 241 = .ok (.invokevirtual 118, 3) := by decide +kernel
theorem dX4_addName_244 : decode cX4_addName 244 = .ok (.ifCond .eq 32, 3) := by decide +kernel
theorem dX4_addName_247 : decode cX4_addName 247 = .ok (.aload 5, 2) := by decide +kernel
theorem dX4_addName_249 : decode cX4_addName 249 = .ok (.getfield 131, 3) := by decide +kernel
theorem dX4_addName_252 : decode cX4_addName 252 = .ok (.aload_n 2, 1) := by decide +kernel
theorem dX4_addName_253 : decode cX4_addName 253 = .ok (.invokestatic 103, 3) := by decide +kernel
theorem dX4_addName_256 : decode cX4_addName 256 = .ok (.ifCond .eq 20, 3) := by decide +kernel
theorem dX4_addName_259 : decode cX4_addName 259 = .ok (.aload_n 0, 1) := by decide +kernel
theorem dX4_addName_260 : decode cX4_addName 260 = .ok (.iload 7, 2) := by decide +kernel
theorem dX4_addName_262 : decode cX4_addName 262 = .ok (.aload_n 2, 1) := by decide +kernel
theorem dX4_addName_263 : decode cX4_addName 263 = .ok (.iload_n 3, 1) := by decide +kernel
theorem dX4_addName_264 : decode cX4_addName 264 = .ok (.iconst 1, 1) := by decide +kernel
theorem dX4_addName_265 : decode cX4_addName 265 = .ok (.iadd, 1) := by decide +kernel
theorem dX4_addName_266 : decode cX4_addName 266 = .ok (.invokevirtual 87, 3) := by decide +kernel
theorem dX4_addName_269 : decode cX4_addName 269 = .ok (.ifCond .eq 7, 3) := by decide +kernel
theorem dX4_addName_272 : decode cX4_addName 272 = .ok (.iconst 1, 1) := by decide +kernel
theorem dX4_addName_273 : decode cX4_addName 273 = .ok (.goto 4, 3) := by decide +kernel
theorem dX4_addName_276 : decode cX4_addName 276 = .ok (.iconst 0, 1) := by decide +kernel
theorem dX4_addName_277 : decode cX4_addName 277 = .ok (.ireturn, 1) := by decide +kernel
theorem dX4_addProduct_0 : decode cX4_addProduct 0 = .ok (.iload_n 2, 1) := by decide +kernel
theorem dX4_addProduct_1 : decode cX4_addProduct 1 = .ok (.aload_n 1, 1) := by decide +kernel
theorem dX4_addProduct_2 : decode cX4_addProduct 2 = .ok (.getfield 134, 3) := by decide +kernel
theorem dX4_addProduct_5 : decode cX4_addProduct 5 = .ok (.if_icmp .le 5, 3) := by decide +kernel
theorem dX4_addProduct_8 : decode cX4_addProduct 8 = .ok (.iconst 0, 1) := by decide +kernel
theorem dX4_addProduct_9 : decode cX4_addProduct 9 = .ok (.ireturn, 1) := by decide +kernel
theorem dX4_addProduct_10 : decode cX4_addProduct 10 = .ok (.iload_n 2, 1) := by decide +kernel
theorem dX4_addProduct_11 : decode cX4_addProduct 11 = .ok (.iconst 1, 1) := by decide +kernel
theorem dX4_addProduct_12 : decode cX4_addProduct 12 = .ok (.if_icmp .ne 20, 3) := by decide +kernel
theorem dX4_addProduct_15 : decode cX4_addProduct 15 = .ok (.aload_n 1, 1) := by decide +kernel
theorem dX4_addProduct_16 : decode cX4_addProduct 16 = .ok (.iconst 1, 1) := by decide +kernel
theorem dX4_addProduct_17 : decode cX4_addProduct 17 = .ok (.invokevirtual 128, 3) := by decide +kernel
theorem dX4_addProduct_20 : decode cX4_addProduct 20 = .ok (.ifCond .ne 12, 3) := by decide +kernel
theorem dX4_addProduct_23 : decode cX4_addProduct 23 = .ok (.aload_n 3, 1) := by decide +kernel
theorem dX4_addProduct_24 : decode cX4_addProduct 24 = .ok (.aload_n 1, 1) := by decide +kernel
theorem dX4_addProduct_25 : decode cX4_addProduct 25 = .ok (.getfield 67, 3) := by decide +kernel
theorem dX4_addProduct_28 : decode cX4_addProduct 28 = .ok (.invokevirtual 107, 3) := by decide +kernel
theorem dX4_addProduct_31 : decode cX4_addProduct 31 = .ok (.ireturn, 1) := by decide +kernel
theorem dX4_addProduct_32 : decode cX4_addProduct 32 = .ok (.aload_n 1, 1) := by decide +kernel
theorem dX4_addProduct_33 : decode cX4_addProduct 33 = .ok (.iconst 2, 1) := by decide +kernel
theorem dX4_addProduct_34 : decode cX4_addProduct 34 = .ok (.invokevirtual 128, 3) := by decide +kernel
theorem dX4_addProduct_37 : decode cX4_addProduct 37 = .ok (.ifCond .eq 33, 3) := by decide +kernel
theorem dX4_addProduct_40 : decode cX4_addProduct 40 = .ok (.aload_n 3, 1) := by decide +kernel
theorem dX4_addProduct_41 : decode cX4_addProduct 41 = .ok (.aload_n 1, 1) := by decide +kernel
theorem dX4_addProduct_42 : decode cX4_addProduct 42 = .ok (.getfield 67, 3) := by decide +kernel
theorem dX4_addProduct_45 : decode cX4_addProduct 45 = .ok (.invokevirtual 107, 3) := by decide +kernel
theorem dX4_addProduct_48 : decode cX4_addProduct 48 = .ok (.ifCond .eq 20, 3) := by decide +kernel
theorem dX4_addProduct_51 : decode cX4_addProduct 51 = .ok (.aload_n 0, 1) := by decide +kernel
theorem dX4_addProduct_52 : decode cX4_addProduct 52 = .ok (.iload_n 2, 1) := by decide +kernel
theorem dX4_addProduct_53 : decode cX4_addProduct 53 = .ok (.aload_n 3, 1) := by decide +kernel
theorem dX4_addProduct_54 : decode cX4_addProduct 54 = .ok (.iload 4, 2) := by decide +kernel
theorem dX4_addProduct_56 : decode cX4_addProduct 56 = .ok (.iconst 1, 1) := by decide +kernel
theorem dX4_addProduct_57 : decode cX4_addProduct 57 = .ok (.iadd, 1) := by decide +kernel
theorem dX4_addProduct_58 : decode cX4_addProduct 58 = .ok (.invokevirtual 87, 3) := by decide +kernel
theorem dX4_addProduct_61 : decode cX4_addProduct 61 = .ok (.ifCond .eq 7, 3) := by decide +kernel
theorem dX4_addProduct_64 : decode cX4_addProduct 64 = .ok (.iconst 1, 1) := by decide +kernel
theorem dX4_addProduct_65 : decode cX4_addProduct 65 = .ok (.goto 4, 3) := by decide +kernel
theorem dX4_addProduct_68 : decode cX4_addProduct 68 = .ok (.iconst 0, 1) := by decide +kernel
theorem dX4_addProduct_69 : decode cX4_addProduct 69 = .ok (.ireturn, 1) := by decide +kernel
theorem dX4_addProduct_70 : decode cX4_addProduct 70 = .ok (.aload_n 0, 1) := by decide +kernel
theorem dX4_addProduct_71 : decode cX4_addProduct 71 = .ok (.iload_n 2, 1) := by decide +kernel
theorem dX4_addProduct_72 : decode cX4_addProduct 72 = .ok (.aload_n 3, 1) := by decide +kernel
theorem dX4_addProduct_73 : decode cX4_addProduct 73 = .ok (.iload 4, 2) := by decide +kernel
theorem dX4_addProduct_75 : decode cX4_addProduct 75 = .ok (.iconst 1, 1) := by decide +kernel
theorem dX4_addProduct_76 : decode cX4_addProduct 76 = .ok (.iadd, 1) := by decide +kernel
theorem dX4_addProduct_77 : decode cX4_addProduct 77 = .ok (.invokevirtual 87, 3) := by decide +kernel
theorem dX4_addProduct_80 : decode cX4_addProduct 80 = .ok (.ifCond .eq 18, 3) := by decide +kernel
theorem dX4_addProduct_83 : decode cX4_addProduct 83 = .ok (.aload_n 3, 1) := by decide +kernel
theorem dX4_addProduct_84 : decode cX4_addProduct 84 = .ok (.aload_n 1, 1) := by decide +kernel
theorem dX4_addProduct_85 : decode cX4_addProduct 85 = .ok (.getfield 67, 3) := by decide +kernel
theorem dX4_addProduct_88 : decode cX4_addProduct 88 = .ok (.invokevirtual 107, 3) := by decide +kernel
theorem dX4_addProduct_91 : decode cX4_addProduct 91 = .ok (.ifCond .eq 7, 3) := by decide +kernel
theorem dX4_addProduct_94 : decode cX4_addProduct 94 = .ok (.iconst 1, 1) := by decide +kernel
theorem dX4_addProduct_95 : decode cX4_addProduct 95 = .ok (.goto 4, 3) := by decide +kernel
theorem dX4_addProduct_98 : decode cX4_addProduct 98 = .ok (.iconst 0, 1) := by decide +kernel
theorem dX4_addProduct_99 : decode cX4_addProduct 99 = .ok (.ireturn, 1) := by decide +kernel
theorem dX4_greatestUpTo_0 : decode cX4_greatestUpTo 0 = .ok (.aconst_null, 1) := by decide +kernel
theorem dX4_greatestUpTo_1 : decode cX4_greatestUpTo 1 = .ok (.astore_n 2, 1) := by decide +kernel
theorem dX4_greatestUpTo_2 : decode cX4_greatestUpTo 2 = .ok (.iconst 0, 1) := by decide +kernel
theorem dX4_greatestUpTo_3 : decode cX4_greatestUpTo 3 = .ok (.istore_n 3, 1) := by decide +kernel
theorem dX4_greatestUpTo_4 : decode cX4_greatestUpTo 4 = .ok (.iload_n 3, 1) := by decide +kernel
theorem dX4_greatestUpTo_5 : decode cX4_greatestUpTo 5 = .ok (.aload_n 0, 1) := by decide +kernel
theorem dX4_greatestUpTo_6 : decode cX4_greatestUpTo 6 = .ok (.getfield 24, 3) := by decide +kernel
theorem dX4_greatestUpTo_9 : decode cX4_greatestUpTo 9 = .ok (.if_icmp .ge 45, 3) := by decide +kernel
theorem dX4_greatestUpTo_12 : decode cX4_greatestUpTo 12 = .ok (.aload_n 0, 1) := by decide +kernel
theorem dX4_greatestUpTo_13 : decode cX4_greatestUpTo 13 = .ok (.getfield 20, 3) := by decide +kernel
theorem dX4_greatestUpTo_16 : decode cX4_greatestUpTo 16 = .ok (.iload_n 3, 1) := by decide +kernel
theorem dX4_greatestUpTo_17 : decode cX4_greatestUpTo 17 = .ok (.aaload, 1) := by decide +kernel
theorem dX4_greatestUpTo_18 : decode cX4_greatestUpTo 18 = .ok (.astore 4, 2) := by decide +kernel
theorem dX4_greatestUpTo_20 : decode cX4_greatestUpTo 20 = .ok (.aload 4, 2) := by decide +kernel
theorem dX4_greatestUpTo_22 : decode cX4_greatestUpTo 22 = .ok (.getfield 56, 3) := by decide +kernel
theorem dX4_greatestUpTo_25 : decode cX4_greatestUpTo 25 = .ok (.iload_n 1, 1) := by decide +kernel
theorem dX4_greatestUpTo_26 : decode cX4_greatestUpTo 26 = .ok (.if_icmp .gt 22, 3) := by decide +kernel
theorem dX4_greatestUpTo_29 : decode cX4_greatestUpTo 29 = .ok (.aload_n 2, 1) := by decide +kernel
theorem dX4_greatestUpTo_30 : decode cX4_greatestUpTo 30 = .ok (.ifnull 15, 3) := by decide +kernel
theorem dX4_greatestUpTo_33 : decode cX4_greatestUpTo 33 = .ok (.aload 4, 2) := by decide +kernel
theorem dX4_greatestUpTo_35 : decode cX4_greatestUpTo 35 = .ok (.getfield 56, 3) := by decide +kernel
theorem dX4_greatestUpTo_38 : decode cX4_greatestUpTo 38 = .ok (.aload_n 2, 1) := by decide +kernel
theorem dX4_greatestUpTo_39 : decode cX4_greatestUpTo 39 = .ok (.getfield 56, 3) := by decide +kernel
theorem dX4_greatestUpTo_42 : decode cX4_greatestUpTo 42 = .ok (.if_icmp .le 6, 3) := by decide +kernel
theorem dX4_greatestUpTo_45 : decode cX4_greatestUpTo 45 = .ok (.aload 4, 2) := by decide +kernel
theorem dX4_greatestUpTo_47 : decode cX4_greatestUpTo 47 = .ok (.astore_n 2, 1) := by decide +kernel
theorem dX4_greatestUpTo_48 : decode cX4_greatestUpTo 48 = .ok (.iinc 3 1, 3) := by decide +kernel
theorem dX4_greatestUpTo_51 : decode cX4_greatestUpTo 51 = .ok (.goto (-47), 3) := by decide +kernel
theorem dX4_greatestUpTo_54 : decode cX4_greatestUpTo 54 = .ok (.aload_n 2, 1) := by decide +kernel
theorem dX4_greatestUpTo_55 : decode cX4_greatestUpTo 55 = .ok (.areturn, 1) := by decide +kernel
theorem dX5_init_0 : decode cX5_init 0 = .ok (.aload_n 0, 1) := by decide +kernel
theorem dX5_init_1 : decode cX5_init 1 = .ok (.invokespecial 3, 3) := by decide +kernel
theorem dX5_init_4 : decode cX5_init 4 = .ok (.aload_n 0, 1) := by decide +kernel
theorem dX5_init_5 : decode cX5_init 5 = .ok (.sipush 256, 3) := by decide +kernel
theorem dX5_init_8 : decode cX5_init 8 = .ok (.newarray .int, 2) := by decide +kernel
theorem dX5_init_10 : decode cX5_init 10 = .ok (.putfield 9, 3) := by decide +kernel
theorem dX5_init_13 : decode cX5_init 13 = .ok (.aload_n 0, 1) := by decide +kernel
theorem dX5_init_14 : decode cX5_init 14 = .ok (.sipush 1000, 3) := by decide +kernel
theorem dX5_init_17 : decode cX5_init 17 = .ok (.newarray .int, 2) := by decide +kernel
theorem dX5_init_19 : decode cX5_init 19 = .ok (.putfield 15, 3) := by decide +kernel
theorem dX5_init_22 : decode cX5_init 22 = .ok (.aload_n 0, 1) := by decide +kernel
theorem dX5_init_23 : decode cX5_init 23 = .ok (.sipush 1000, 3) := by decide +kernel
theorem dX5_init_26 : decode cX5_init 26 = .ok (.newarray .int, 2) := by decide +kernel
theorem dX5_init_28 : decode cX5_init 28 = .ok (.putfield 18, 3) := by decide +kernel
theorem dX5_init_31 : decode cX5_init 31 = .ok (.return_, 1) := by decide +kernel
theorem dX5_clear_0 : decode cX5_clear 0 = .ok (.aload_n 0, 1) := by decide +kernel
theorem dX5_clear_1 : decode cX5_clear 1 = .ok (.getfield 9, 3) := by decide +kernel
theorem dX5_clear_4 : decode cX5_clear 4 = .ok (.iconst (-1), 1) := by decide +kernel
theorem dX5_clear_5 : decode cX5_clear 5 = .ok (.invokestatic 21, 3) := by decide +kernel
theorem dX5_clear_8 : decode cX5_clear 8 = .ok (.return_, 1) := by decide +kernel
theorem dX5_put_0 : decode cX5_put 0 = .ok (.iload_n 2, 1) := by decide +kernel
theorem dX5_put_1 : decode cX5_put 1 = .ok (.sipush 255, 3) := by decide +kernel
theorem dX5_put_4 : decode cX5_put 4 = .ok (.iand, 1) := by decide +kernel
theorem dX5_put_5 : decode cX5_put 5 = .ok (.istore_n 3, 1) := by decide +kernel
theorem dX5_put_6 : decode cX5_put 6 = .ok (.iload_n 1, 1) := by decide +kernel
theorem dX5_put_7 : decode cX5_put 7 = .ok (.ifCond .lt 36, 3) := by decide +kernel
theorem dX5_put_10 : decode cX5_put 10 = .ok (.iload_n 1, 1) := by decide +kernel
theorem dX5_put_11 : decode cX5_put 11 = .ok (.sipush 999, 3) := by decide +kernel
theorem dX5_put_14 : decode cX5_put 14 = .ok (.if_icmp .gt 29, 3) := by decide +kernel
theorem dX5_put_17 : decode cX5_put 17 = .ok (.aload_n 0, 1) := by decide +kernel
theorem dX5_put_18 : decode cX5_put 18 = .ok (.getfield 18, 3) := by decide +kernel
theorem dX5_put_21 : decode cX5_put 21 = .ok (.iload_n 1, 1) := by decide +kernel
theorem dX5_put_22 : decode cX5_put 22 = .ok (.iload_n 2, 1) := by decide +kernel
theorem dX5_put_23 : decode cX5_put 23 = .ok (.iastore, 1) := by decide +kernel
theorem dX5_put_24 : decode cX5_put 24 = .ok (.aload_n 0, 1) := by decide +kernel
theorem dX5_put_25 : decode cX5_put 25 = .ok (.getfield 15, 3) := by decide +kernel
theorem dX5_put_28 : decode cX5_put 28 = .ok (.iload_n 1, 1) := by decide +kernel
theorem dX5_put_29 : decode cX5_put 29 = .ok (.aload_n 0, 1) := by decide +kernel
theorem dX5_put_30 : decode cX5_put 30 = .ok (.getfield 9, 3) := by decide +kernel
theorem dX5_put_33 : decode cX5_put 33 = .ok (.iload_n 3, 1) := by decide +kernel
theorem dX5_put_34 : decode cX5_put 34 = .ok (.iaload, 1) := by decide +kernel
theorem dX5_put_35 : decode cX5_put 35 = .ok (.iastore, 1) := by decide +kernel
theorem dX5_put_36 : decode cX5_put 36 = .ok (.aload_n 0, 1) := by decide +kernel
theorem dX5_put_37 : decode cX5_put 37 = .ok (.getfield 9, 3) := by decide +kernel
theorem dX5_put_40 : decode cX5_put 40 = .ok (.iload_n 3, 1) := by decide +kernel
theorem dX5_put_41 : decode cX5_put 41 = .ok (.iload_n 1, 1) := by decide +kernel
theorem dX5_put_42 : decode cX5_put 42 = .ok (.iastore, 1) := by decide +kernel
theorem dX5_put_43 : decode cX5_put 43 = .ok (.return_, 1) := by decide +kernel
theorem dX5_firstIn_0 : decode cX5_firstIn 0 = .ok (.aload_n 0, 1) := by decide +kernel
theorem dX5_firstIn_1 : decode cX5_firstIn 1 = .ok (.getfield 9, 3) := by decide +kernel
theorem dX5_firstIn_4 : decode cX5_firstIn 4 = .ok (.iload_n 1, 1) := by decide +kernel
theorem dX5_firstIn_5 : decode cX5_firstIn 5 = .ok (.sipush 255, 3) := by decide +kernel
theorem dX5_firstIn_8 : decode cX5_firstIn 8 = .ok (.iand, 1) := by decide +kernel
theorem dX5_firstIn_9 : decode cX5_firstIn 9 = .ok (.iaload, 1) := by decide +kernel
theorem dX5_firstIn_10 : decode cX5_firstIn 10 = .ok (.ireturn, 1) := by decide +kernel
theorem dX5_behind_0 : decode cX5_behind 0 = .ok (.iload_n 1, 1) := by decide +kernel
theorem dX5_behind_1 : decode cX5_behind 1 = .ok (.ifCond .lt 19, 3) := by decide +kernel
theorem dX5_behind_4 : decode cX5_behind 4 = .ok (.iload_n 1, 1) := by decide +kernel
theorem dX5_behind_5 : decode cX5_behind 5 = .ok (.sipush 999, 3) := by decide +kernel
theorem dX5_behind_8 : decode cX5_behind 8 = .ok (.if_icmp .gt 12, 3) := by decide +kernel
theorem dX5_behind_11 : decode cX5_behind 11 = .ok (.aload_n 0, 1) := by decide +kernel
theorem dX5_behind_12 : decode cX5_behind 12 = .ok (.getfield 15, 3) := by decide +kernel
theorem dX5_behind_15 : decode cX5_behind 15 = .ok (.iload_n 1, 1) := by decide +kernel
theorem dX5_behind_16 : decode cX5_behind 16 = .ok (.iaload, 1) := by decide +kernel
theorem dX5_behind_17 : decode cX5_behind 17 = .ok (.goto 4, 3) := by decide +kernel
theorem dX5_behind_20 : decode cX5_behind 20 = .ok (.iconst (-1), 1) := by decide +kernel
theorem dX5_behind_21 : decode cX5_behind 21 = .ok (.ireturn, 1) := by decide +kernel
theorem dX5_markOf_0 : decode cX5_markOf 0 = .ok (.iload_n 1, 1) := by decide +kernel
theorem dX5_markOf_1 : decode cX5_markOf 1 = .ok (.ifCond .lt 19, 3) := by decide +kernel
theorem dX5_markOf_4 : decode cX5_markOf 4 = .ok (.iload_n 1, 1) := by decide +kernel
theorem dX5_markOf_5 : decode cX5_markOf 5 = .ok (.sipush 999, 3) := by decide +kernel
theorem dX5_markOf_8 : decode cX5_markOf 8 = .ok (.if_icmp .gt 12, 3) := by decide +kernel
theorem dX5_markOf_11 : decode cX5_markOf 11 = .ok (.aload_n 0, 1) := by decide +kernel
theorem dX5_markOf_12 : decode cX5_markOf 12 = .ok (.getfield 18, 3) := by decide +kernel
theorem dX5_markOf_15 : decode cX5_markOf 15 = .ok (.iload_n 1, 1) := by decide +kernel
theorem dX5_markOf_16 : decode cX5_markOf 16 = .ok (.iaload, 1) := by decide +kernel
theorem dX5_markOf_17 : decode cX5_markOf 17 = .ok (.goto 4, 3) := by decide +kernel
theorem dX5_markOf_20 : decode cX5_markOf 20 = .ok (.iconst (-1), 1) := by decide +kernel
theorem dX5_markOf_21 : decode cX5_markOf 21 = .ok (.ireturn, 1) := by decide +kernel
theorem dX6_init_0 : decode cX6_init 0 = .ok (.aload_n 0, 1) := by decide +kernel
theorem dX6_init_1 : decode cX6_init 1 = .ok (.invokespecial 3, 3) := by decide +kernel
theorem dX6_init_4 : decode cX6_init 4 = .ok (.aload_n 0, 1) := by decide +kernel
theorem dX6_init_5 : decode cX6_init 5 = .ok (.bipush 20, 2) := by decide +kernel
theorem dX6_init_7 : decode cX6_init 7 = .ok (.newarray .int, 2) := by decide +kernel
theorem dX6_init_9 : decode cX6_init 9 = .ok (.putfield 9, 3) := by decide +kernel
theorem dX6_init_12 : decode cX6_init 12 = .ok (.aload_n 0, 1) := by decide +kernel
theorem dX6_init_13 : decode cX6_init 13 = .ok (.iconst 0, 1) := by decide +kernel
theorem dX6_init_14 : decode cX6_init 14 = .ok (.putfield 15, 3) := by decide +kernel
theorem dX6_init_17 : decode cX6_init 17 = .ok (.return_, 1) := by decide +kernel
theorem dX6_clear_0 : decode cX6_clear 0 = .ok (.aload_n 0, 1) := by decide +kernel
theorem dX6_clear_1 : decode cX6_clear 1 = .ok (.iconst 0, 1) := by decide +kernel
theorem dX6_clear_2 : decode cX6_clear 2 = .ok (.putfield 15, 3) := by decide +kernel
theorem dX6_clear_5 : decode cX6_clear 5 = .ok (.return_, 1) := by decide +kernel
theorem dX6_add_0 : decode cX6_add 0 = .ok (.aload_n 0, 1) := by decide +kernel
theorem dX6_add_1 : decode cX6_add 1 = .ok (.getfield 15, 3) := by decide +kernel
theorem dX6_add_4 : decode cX6_add 4 = .ok (.bipush 20, 2) := by decide +kernel
theorem dX6_add_6 : decode cX6_add 6 = .ok (.if_icmp .lt 5, 3) := by decide +kernel
theorem dX6_add_9 : decode cX6_add 9 = .ok (.iconst 0, 1) := by decide +kernel
theorem dX6_add_10 : decode cX6_add 10 = .ok (.ireturn, 1) := by decide +kernel
theorem dX6_add_11 : decode cX6_add 11 = .ok (.aload_n 0, 1) := by decide +kernel
theorem dX6_add_12 : decode cX6_add 12 = .ok (.getfield 9, 3) := by decide +kernel
theorem dX6_add_15 : decode cX6_add 15 = .ok (.aload_n 0, 1) := by decide +kernel
theorem dX6_add_16 : decode cX6_add 16 = .ok (.getfield 15, 3) := by decide +kernel
theorem dX6_add_19 : decode cX6_add 19 = .ok (.iload_n 1, 1) := by decide +kernel
theorem dX6_add_20 : decode cX6_add 20 = .ok (.iastore, 1) := by decide +kernel
theorem dX6_add_21 : decode cX6_add 21 = .ok (.aload_n 0, 1) := by decide +kernel
theorem dX6_add_22 : decode cX6_add 22 = .ok (.dup, 1) := by decide +kernel
theorem dX6_add_23 : decode cX6_add 23 = .ok (.getfield 15, 3) := by decide +kernel
theorem dX6_add_26 : decode cX6_add 26 = .ok (.iconst 1, 1) := by decide +kernel
theorem dX6_add_27 : decode cX6_add 27 = .ok (.iadd, 1) := by decide +kernel
theorem dX6_add_28 : decode cX6_add 28 = .ok (.putfield 15, 3) := by decide +kernel
theorem dX6_add_31 : decode cX6_add 31 = .ok (.iconst 1, 1) := by decide +kernel
theorem dX6_add_32 : decode cX6_add 32 = .ok (.ireturn, 1) := by decide +kernel
theorem dX6_wordAt_0 : decode cX6_wordAt 0 = .ok (.iload_n 1, 1) := by decide +kernel
theorem dX6_wordAt_1 : decode cX6_wordAt 1 = .ok (.ifCond .lt 20, 3) := by decide +kernel
theorem dX6_wordAt_4 : decode cX6_wordAt 4 = .ok (.iload_n 1, 1) := by decide +kernel
theorem dX6_wordAt_5 : decode cX6_wordAt 5 = .ok (.aload_n 0, 1) := by decide +kernel
theorem dX6_wordAt_6 : decode cX6_wordAt 6 = .ok (.getfield 15, 3) := by decide +kernel
theorem dX6_wordAt_9 : decode cX6_wordAt 9 = .ok (.if_icmp .ge 12, 3) := by decide +kernel
theorem dX6_wordAt_12 : decode cX6_wordAt 12 = .ok (.aload_n 0, 1) := by decide +kernel
theorem dX6_wordAt_13 : decode cX6_wordAt 13 = .ok (.getfield 9, 3) := by decide +kernel
theorem dX6_wordAt_16 : decode cX6_wordAt 16 = .ok (.iload_n 1, 1) := by decide +kernel
theorem dX6_wordAt_17 : decode cX6_wordAt 17 = .ok (.iaload, 1) := by decide +kernel
theorem dX6_wordAt_18 : decode cX6_wordAt 18 = .ok (.goto 4, 3) := by decide +kernel
theorem dX6_wordAt_21 : decode cX6_wordAt 21 = .ok (.iconst (-1), 1) := by decide +kernel
theorem dX6_wordAt_22 : decode cX6_wordAt 22 = .ok (.ireturn, 1) := by decide +kernel
theorem dX6_last_0 : decode cX6_last 0 = .ok (.aload_n 0, 1) := by decide +kernel
theorem dX6_last_1 : decode cX6_last 1 = .ok (.aload_n 0, 1) := by decide +kernel
theorem dX6_last_2 : decode cX6_last 2 = .ok (.getfield 15, 3) := by decide +kernel
theorem dX6_last_5 : decode cX6_last 5 = .ok (.iconst 1, 1) := by decide +kernel
theorem dX6_last_6 : decode cX6_last 6 = .ok (.isub, 1) := by decide +kernel
theorem dX6_last_7 : decode cX6_last 7 = .ok (.invokevirtual 19, 3) := by decide +kernel
theorem dX6_last_10 : decode cX6_last 10 = .ok (.ireturn, 1) := by decide +kernel
theorem dX6_setLast_0 : decode cX6_setLast 0 = .ok (.aload_n 0, 1) := by decide +kernel
theorem dX6_setLast_1 : decode cX6_setLast 1 = .ok (.getfield 15, 3) := by decide +kernel
theorem dX6_setLast_4 : decode cX6_setLast 4 = .ok (.ifCond .le 15, 3) := by decide +kernel
theorem dX6_setLast_7 : decode cX6_setLast 7 = .ok (.aload_n 0, 1) := by decide +kernel
theorem dX6_setLast_8 : decode cX6_setLast 8 = .ok (.getfield 9, 3) := by decide +kernel
theorem dX6_setLast_11 : decode cX6_setLast 11 = .ok (.aload_n 0, 1) := by decide +kernel
theorem dX6_setLast_12 : decode cX6_setLast 12 = .ok (.getfield 15, 3) := by decide +kernel
theorem dX6_setLast_15 : decode cX6_setLast 15 = .ok (.iconst 1, 1) := by decide +kernel
theorem dX6_setLast_16 : decode cX6_setLast 16 = .ok (.isub, 1) := by decide +kernel
theorem dX6_setLast_17 : decode cX6_setLast 17 = .ok (.iload_n 1, 1) := by decide +kernel
theorem dX6_setLast_18 : decode cX6_setLast 18 = .ok (.iastore, 1) := by decide +kernel
theorem dX6_setLast_19 : decode cX6_setLast 19 = .ok (.return_, 1) := by decide +kernel
theorem dX6_has_0 : decode cX6_has 0 = .ok (.iconst 0, 1) := by decide +kernel
theorem dX6_has_1 : decode cX6_has 1 = .ok (.istore_n 2, 1) := by decide +kernel
theorem dX6_has_2 : decode cX6_has 2 = .ok (.iload_n 2, 1) := by decide +kernel
theorem dX6_has_3 : decode cX6_has 3 = .ok (.aload_n 0, 1) := by decide +kernel
theorem dX6_has_4 : decode cX6_has 4 = .ok (.getfield 15, 3) := by decide +kernel
theorem dX6_has_7 : decode cX6_has 7 = .ok (.if_icmp .ge 21, 3) := by decide +kernel
theorem dX6_has_10 : decode cX6_has 10 = .ok (.aload_n 0, 1) := by decide +kernel
theorem dX6_has_11 : decode cX6_has 11 = .ok (.getfield 9, 3) := by decide +kernel
theorem dX6_has_14 : decode cX6_has 14 = .ok (.iload_n 2, 1) := by decide +kernel
theorem dX6_has_15 : decode cX6_has 15 = .ok (.iaload, 1) := by decide +kernel
theorem dX6_has_16 : decode cX6_has 16 = .ok (.iload_n 1, 1) := by decide +kernel
theorem dX6_has_17 : decode cX6_has 17 = .ok (.if_icmp .ne 5, 3) := by decide +kernel
theorem dX6_has_20 : decode cX6_has 20 = .ok (.iconst 1, 1) := by decide +kernel
theorem dX6_has_21 : decode cX6_has 21 = .ok (.ireturn, 1) := by decide +kernel
theorem dX6_has_22 : decode cX6_has 22 = .ok (.iinc 2 1, 3) := by decide +kernel
theorem dX6_has_25 : decode cX6_has 25 = .ok (.goto (-23), 3) := by decide +kernel
theorem dX6_has_28 : decode cX6_has 28 = .ok (.iconst 0, 1) := by decide +kernel
theorem dX6_has_29 : decode cX6_has 29 = .ok (.ireturn, 1) := by decide +kernel
theorem dX6_copy_0 : decode cX6_copy 0 = .ok (.iconst 0, 1) := by decide +kernel
theorem dX6_copy_1 : decode cX6_copy 1 = .ok (.istore_n 2, 1) := by decide +kernel
theorem dX6_copy_2 : decode cX6_copy 2 = .ok (.iload_n 2, 1) := by decide +kernel
theorem dX6_copy_3 : decode cX6_copy 3 = .ok (.aload_n 1, 1) := by decide +kernel
theorem dX6_copy_4 : decode cX6_copy 4 = .ok (.getfield 15, 3) := by decide +kernel
theorem dX6_copy_7 : decode cX6_copy 7 = .ok (.if_icmp .ge 21, 3) := by decide +kernel
theorem dX6_copy_10 : decode cX6_copy 10 = .ok (.aload_n 0, 1) := by decide +kernel
theorem dX6_copy_11 : decode cX6_copy 11 = .ok (.getfield 9, 3) := by decide +kernel
theorem dX6_copy_14 : decode cX6_copy 14 = .ok (.iload_n 2, 1) := by decide +kernel
theorem dX6_copy_15 : decode cX6_copy 15 = .ok (.aload_n 1, 1) := by decide +kernel
theorem dX6_copy_16 : decode cX6_copy 16 = .ok (.getfield 9, 3) := by decide +kernel
theorem dX6_copy_19 : decode cX6_copy 19 = .ok (.iload_n 2, 1) := by decide +kernel
theorem dX6_copy_20 : decode cX6_copy 20 = .ok (.iaload, 1) := by decide +kernel
theorem dX6_copy_21 : decode cX6_copy 21 = .ok (.iastore, 1) := by decide +kernel
theorem dX6_copy_22 : decode cX6_copy 22 = .ok (.iinc 2 1, 3) := by decide +kernel
theorem dX6_copy_25 : decode cX6_copy 25 = .ok (.goto (-23), 3) := by decide +kernel
theorem dX6_copy_28 : decode cX6_copy 28 = .ok (.aload_n 0, 1) := by decide +kernel
theorem dX6_copy_29 : decode cX6_copy 29 = .ok (.aload_n 1, 1) := by decide +kernel
theorem dX6_copy_30 : decode cX6_copy 30 = .ok (.getfield 15, 3) := by decide +kernel
theorem dX6_copy_33 : decode cX6_copy 33 = .ok (.putfield 15, 3) := by decide +kernel
theorem dX6_copy_36 : decode cX6_copy 36 = .ok (.return_, 1) := by decide +kernel
theorem dX6_same_0 : decode cX6_same 0 = .ok (.aload_n 0, 1) := by decide +kernel
theorem dX6_same_1 : decode cX6_same 1 = .ok (.getfield 15, 3) := by decide +kernel
theorem dX6_same_4 : decode cX6_same 4 = .ok (.aload_n 1, 1) := by decide +kernel
theorem dX6_same_5 : decode cX6_same 5 = .ok (.getfield 15, 3) := by decide +kernel
theorem dX6_same_8 : decode cX6_same 8 = .ok (.if_icmp .eq 5, 3) := by decide +kernel
theorem dX6_same_11 : decode cX6_same 11 = .ok (.iconst 0, 1) := by decide +kernel
theorem dX6_same_12 : decode cX6_same 12 = .ok (.ireturn, 1) := by decide +kernel
theorem dX6_same_13 : decode cX6_same 13 = .ok (.iconst 0, 1) := by decide +kernel
theorem dX6_same_14 : decode cX6_same 14 = .ok (.istore_n 2, 1) := by decide +kernel
theorem dX6_same_15 : decode cX6_same 15 = .ok (.iload_n 2, 1) := by decide +kernel
theorem dX6_same_16 : decode cX6_same 16 = .ok (.aload_n 0, 1) := by decide +kernel
theorem dX6_same_17 : decode cX6_same 17 = .ok (.getfield 15, 3) := by decide +kernel
theorem dX6_same_20 : decode cX6_same 20 = .ok (.if_icmp .ge 26, 3) := by decide +kernel
theorem dX6_same_23 : decode cX6_same 23 = .ok (.aload_n 0, 1) := by decide +kernel
theorem dX6_same_24 : decode cX6_same 24 = .ok (.getfield 9, 3) := by decide +kernel
theorem dX6_same_27 : decode cX6_same 27 = .ok (.iload_n 2, 1) := by decide +kernel
theorem dX6_same_28 : decode cX6_same 28 = .ok (.iaload, 1) := by decide +kernel
theorem dX6_same_29 : decode cX6_same 29 = .ok (.aload_n 1, 1) := by decide +kernel
theorem dX6_same_30 : decode cX6_same 30 = .ok (.getfield 9, 3) := by decide +kernel
theorem dX6_same_33 : decode cX6_same 33 = .ok (.iload_n 2, 1) := by decide +kernel
theorem dX6_same_34 : decode cX6_same 34 = .ok (.iaload, 1) := by decide +kernel
theorem dX6_same_35 : decode cX6_same 35 = .ok (.if_icmp .eq 5, 3) := by decide +kernel
theorem dX6_same_38 : decode cX6_same 38 = .ok (.iconst 0, 1) := by decide +kernel
theorem dX6_same_39 : decode cX6_same 39 = .ok (.ireturn, 1) := by decide +kernel
theorem dX6_same_40 : decode cX6_same 40 = .ok (.iinc 2 1, 3) := by decide +kernel
theorem dX6_same_43 : decode cX6_same 43 = .ok (.goto (-28), 3) := by decide +kernel
theorem dX6_same_46 : decode cX6_same 46 = .ok (.iconst 1, 1) := by decide +kernel
theorem dX6_same_47 : decode cX6_same 47 = .ok (.ireturn, 1) := by decide +kernel
theorem dX6_agrees_0 : decode cX6_agrees 0 = .ok (.aload_n 0, 1) := by decide +kernel
theorem dX6_agrees_1 : decode cX6_agrees 1 = .ok (.getfield 15, 3) := by decide +kernel
theorem dX6_agrees_4 : decode cX6_agrees 4 = .ok (.aload_n 1, 1) := by decide +kernel
theorem dX6_agrees_5 : decode cX6_agrees 5 = .ok (.getfield 15, 3) := by decide +kernel
theorem dX6_agrees_8 : decode cX6_agrees 8 = .ok (.if_icmp .eq 5, 3) := by decide +kernel
theorem dX6_agrees_11 : decode cX6_agrees 11 = .ok (.iconst 0, 1) := by decide +kernel
theorem dX6_agrees_12 : decode cX6_agrees 12 = .ok (.ireturn, 1) := by decide +kernel
theorem dX6_agrees_13 : decode cX6_agrees 13 = .ok (.iconst 0, 1) := by decide +kernel
theorem dX6_agrees_14 : decode cX6_agrees 14 = .ok (.istore_n 2, 1) := by decide +kernel
theorem dX6_agrees_15 : decode cX6_agrees 15 = .ok (.iload_n 2, 1) := by decide +kernel
theorem dX6_agrees_16 : decode cX6_agrees 16 = .ok (.aload_n 0, 1) := by decide +kernel
theorem dX6_agrees_17 : decode cX6_agrees 17 = .ok (.getfield 15, 3) := by decide +kernel
theorem dX6_agrees_20 : decode cX6_agrees 20 = .ok (.if_icmp .ge 36, 3) := by decide +kernel
theorem dX6_agrees_23 : decode cX6_agrees 23 = .ok (.aload_n 1, 1) := by decide +kernel
theorem dX6_agrees_24 : decode cX6_agrees 24 = .ok (.getfield 9, 3) := by decide +kernel
theorem dX6_agrees_27 : decode cX6_agrees 27 = .ok (.iload_n 2, 1) := by decide +kernel
theorem dX6_agrees_28 : decode cX6_agrees 28 = .ok (.iaload, 1) := by decide +kernel
theorem dX6_agrees_29 : decode cX6_agrees 29 = .ok (.iconst (-1), 1) := by decide +kernel
theorem dX6_agrees_30 : decode cX6_agrees 30 = .ok (.if_icmp .eq 20, 3) := by decide +kernel
theorem dX6_agrees_33 : decode cX6_agrees 33 = .ok (.aload_n 1, 1) := by decide +kernel
theorem dX6_agrees_34 : decode cX6_agrees 34 = .ok (.getfield 9, 3) := by decide +kernel
theorem dX6_agrees_37 : decode cX6_agrees 37 = .ok (.iload_n 2, 1) := by decide +kernel
theorem dX6_agrees_38 : decode cX6_agrees 38 = .ok (.iaload, 1) := by decide +kernel
theorem dX6_agrees_39 : decode cX6_agrees 39 = .ok (.aload_n 0, 1) := by decide +kernel
theorem dX6_agrees_40 : decode cX6_agrees 40 = .ok (.getfield 9, 3) := by decide +kernel
theorem dX6_agrees_43 : decode cX6_agrees 43 = .ok (.iload_n 2, 1) := by decide +kernel
theorem dX6_agrees_44 : decode cX6_agrees 44 = .ok (.iaload, 1) := by decide +kernel
theorem dX6_agrees_45 : decode cX6_agrees 45 = .ok (.if_icmp .eq 5, 3) := by decide +kernel
theorem dX6_agrees_48 : decode cX6_agrees 48 = .ok (.iconst 0, 1) := by decide +kernel
theorem dX6_agrees_49 : decode cX6_agrees 49 = .ok (.ireturn, 1) := by decide +kernel
theorem dX6_agrees_50 : decode cX6_agrees 50 = .ok (.iinc 2 1, 3) := by decide +kernel
theorem dX6_agrees_53 : decode cX6_agrees 53 = .ok (.goto (-38), 3) := by decide +kernel
theorem dX6_agrees_56 : decode cX6_agrees 56 = .ok (.iconst 1, 1) := by decide +kernel
theorem dX6_agrees_57 : decode cX6_agrees 57 = .ok (.ireturn, 1) := by decide +kernel
theorem dX6_melt_0 : decode cX6_melt 0 = .ok (.iconst 0, 1) := by decide +kernel
theorem dX6_melt_1 : decode cX6_melt 1 = .ok (.istore 4, 2) := by decide +kernel
theorem dX6_melt_3 : decode cX6_melt 3 = .ok (.iconst 0, 1) := by decide +kernel
theorem dX6_melt_4 : decode cX6_melt 4 = .ok (.istore 5, 2) := by decide +kernel
theorem dX6_melt_6 : decode cX6_melt 6 = .ok (.iload 5, 2) := by decide +kernel
theorem dX6_melt_8 : decode cX6_melt 8 = .ok (.aload_n 0, 1) := by decide +kernel
theorem dX6_melt_9 : decode cX6_melt 9 = .ok (.getfield 15, 3) := by decide +kernel
theorem dX6_melt_12 : decode cX6_melt 12 = .ok (.if_icmp .ge 89, 3) := by decide +kernel
theorem dX6_melt_15 : decode cX6_melt 15 = .ok (.iload 5, 2) := by decide +kernel
theorem dX6_melt_17 : decode cX6_melt 17 = .ok (.iconst 1, 1) := by decide +kernel
theorem dX6_melt_18 : decode cX6_melt 18 = .ok (.iadd, 1) := by decide +kernel
theorem dX6_melt_19 : decode cX6_melt 19 = .ok (.aload_n 0, 1) := by decide +kernel
theorem dX6_melt_20 : decode cX6_melt 20 = .ok (.getfield 15, 3) := by decide +kernel
theorem dX6_melt_23 : decode cX6_melt 23 = .ok (.if_icmp .ge 31, 3) := by decide +kernel
theorem dX6_melt_26 : decode cX6_melt 26 = .ok (.aload_n 0, 1) := by decide +kernel
theorem dX6_melt_27 : decode cX6_melt 27 = .ok (.getfield 9, 3) := by decide +kernel
theorem dX6_melt_30 : decode cX6_melt 30 = .ok (.iload 5, 2) := by decide +kernel
theorem dX6_melt_32 : decode cX6_melt 32 = .ok (.iaload, 1) := by decide +kernel
theorem dX6_melt_33 : decode cX6_melt 33 = .ok (.iload_n 1, 1) := by decide +kernel
theorem dX6_melt_34 : decode cX6_melt 34 = .ok (.if_icmp .ne 20, 3) := by decide +kernel
theorem dX6_melt_37 : decode cX6_melt 37 = .ok (.aload_n 0, 1) := by decide +kernel
theorem dX6_melt_38 : decode cX6_melt 38 = .ok (.getfield 9, 3) := by decide +kernel
theorem dX6_melt_41 : decode cX6_melt 41 = .ok (.iload 5, 2) := by decide +kernel
theorem dX6_melt_43 : decode cX6_melt 43 = .ok (.iconst 1, 1) := by decide +kernel
theorem dX6_melt_44 : decode cX6_melt 44 = .ok (.iadd, 1) := by decide +kernel
theorem dX6_melt_45 : decode cX6_melt 45 = .ok (.iaload, 1) := by decide +kernel
theorem dX6_melt_46 : decode cX6_melt 46 = .ok (.iload_n 2, 1) := by decide +kernel
theorem dX6_melt_47 : decode cX6_melt 47 = .ok (.if_icmp .ne 7, 3) := by decide +kernel
theorem dX6_melt_50 : decode cX6_melt 50 = .ok (.iconst 1, 1) := by decide +kernel
theorem dX6_melt_51 : decode cX6_melt 51 = .ok (.goto 4, 3) := by decide +kernel
theorem dX6_melt_54 : decode cX6_melt 54 = .ok (.iconst 0, 1) := by decide +kernel
theorem dX6_melt_55 : decode cX6_melt 55 = .ok (.istore 6, 2) := by decide +kernel
theorem dX6_melt_57 : decode cX6_melt 57 = .ok (.aload_n 0, 1) := by decide +kernel
theorem dX6_melt_58 : decode cX6_melt 58 = .ok (.getfield 9, 3) := by decide +kernel
theorem dX6_melt_61 : decode cX6_melt 61 = .ok (.iload 4, 2) := by decide +kernel
theorem dX6_melt_63 : decode cX6_melt 63 = .ok (.iload 6, 2) := by decide +kernel
theorem dX6_melt_65 : decode cX6_melt 65 = .ok (.ifCond .eq 7, 3) := by decide +kernel
theorem dX6_melt_68 : decode cX6_melt 68 = .ok (.iload_n 3, 1) := by decide +kernel
theorem dX6_melt_69 : decode cX6_melt 69 = .ok (.goto 10, 3) := by decide +kernel
theorem dX6_melt_72 : decode cX6_melt 72 = .ok (.aload_n 0, 1) := by decide +kernel
theorem dX6_melt_73 : decode cX6_melt 73 = .ok (.getfield 9, 3) := by decide +kernel
theorem dX6_melt_76 : decode cX6_melt 76 = .ok (.iload 5, 2) := by decide +kernel
theorem dX6_melt_78 : decode cX6_melt 78 = .ok (.iaload, 1) := by decide +kernel
theorem dX6_melt_79 : decode cX6_melt 79 = .ok (.iastore, 1) := by decide +kernel
theorem dX6_melt_80 : decode cX6_melt 80 = .ok (.iinc 4 1, 3) := by decide +kernel
theorem dX6_melt_83 : decode cX6_melt 83 = .ok (.iload 5, 2) := by decide +kernel
theorem dX6_melt_85 : decode cX6_melt 85 = .ok (.iload 6, 2) := by decide +kernel
theorem dX6_melt_87 : decode cX6_melt 87 = .ok (.ifCond .eq 7, 3) := by decide +kernel
theorem dX6_melt_90 : decode cX6_melt 90 = .ok (.iconst 2, 1) := by decide +kernel
theorem dX6_melt_91 : decode cX6_melt 91 = .ok (.goto 4, 3) := by decide +kernel
theorem dX6_melt_94 : decode cX6_melt 94 = .ok (.iconst 1, 1) := by decide +kernel
theorem dX6_melt_95 : decode cX6_melt 95 = .ok (.iadd, 1) := by decide +kernel
theorem dX6_melt_96 : decode cX6_melt 96 = .ok (.istore 5, 2) := by decide +kernel
theorem dX6_melt_98 : decode cX6_melt 98 = .ok (.goto (-92), 3) := by decide +kernel
theorem dX6_melt_101 : decode cX6_melt 101 = .ok (.aload_n 0, 1) := by decide +kernel
theorem dX6_melt_102 : decode cX6_melt 102 = .ok (.iload 4, 2) := by decide +kernel
theorem dX6_melt_104 : decode cX6_melt 104 = .ok (.putfield 15, 3) := by decide +kernel
theorem dX6_melt_107 : decode cX6_melt 107 = .ok (.return_, 1) := by decide +kernel
theorem dX6_mark_0 : decode cX6_mark 0 = .ok (.aload_n 0, 1) := by decide +kernel
theorem dX6_mark_1 : decode cX6_mark 1 = .ok (.getfield 15, 3) := by decide +kernel
theorem dX6_mark_4 : decode cX6_mark 4 = .ok (.istore_n 1, 1) := by decide +kernel
theorem dX6_mark_5 : decode cX6_mark 5 = .ok (.iconst 0, 1) := by decide +kernel
theorem dX6_mark_6 : decode cX6_mark 6 = .ok (.istore_n 2, 1) := by decide +kernel
theorem dX6_mark_7 : decode cX6_mark 7 = .ok (.iload_n 2, 1) := by decide +kernel
theorem dX6_mark_8 : decode cX6_mark 8 = .ok (.aload_n 0, 1) := by decide +kernel
theorem dX6_mark_9 : decode cX6_mark 9 = .ok (.getfield 15, 3) := by decide +kernel
theorem dX6_mark_12 : decode cX6_mark 12 = .ok (.if_icmp .ge 22, 3) := by decide +kernel
theorem dX6_mark_15 : decode cX6_mark 15 = .ok (.iload_n 1, 1) := by decide +kernel
theorem dX6_mark_16 : decode cX6_mark 16 = .ok (.sipush 211, 3) := by decide +kernel
theorem dX6_mark_19 : decode cX6_mark 19 = .ok (.imul, 1) := by decide +kernel
theorem dX6_mark_20 : decode cX6_mark 20 = .ok (.aload_n 0, 1) := by decide +kernel
theorem dX6_mark_21 : decode cX6_mark 21 = .ok (.getfield 9, 3) := by decide +kernel
theorem dX6_mark_24 : decode cX6_mark 24 = .ok (.iload_n 2, 1) := by decide +kernel
theorem dX6_mark_25 : decode cX6_mark 25 = .ok (.iaload, 1) := by decide +kernel
theorem dX6_mark_26 : decode cX6_mark 26 = .ok (.iadd, 1) := by decide +kernel
theorem dX6_mark_27 : decode cX6_mark 27 = .ok (.istore_n 1, 1) := by decide +kernel
theorem dX6_mark_28 : decode cX6_mark 28 = .ok (.iinc 2 1, 3) := by decide +kernel
theorem dX6_mark_31 : decode cX6_mark 31 = .ok (.goto (-24), 3) := by decide +kernel
theorem dX6_mark_34 : decode cX6_mark 34 = .ok (.iload_n 1, 1) := by decide +kernel
theorem dX6_mark_35 : decode cX6_mark 35 = .ok (.ireturn, 1) := by decide +kernel
theorem dX7_init_0 : decode cX7_init 0 = .ok (.aload_n 0, 1) := by decide +kernel
theorem dX7_init_1 : decode cX7_init 1 = .ok (.invokespecial 1, 3) := by decide +kernel
theorem dX7_init_4 : decode cX7_init 4 = .ok (.aload_n 0, 1) := by decide +kernel
theorem dX7_init_5 : decode cX7_init 5 = .ok (.iconst 4, 1) := by decide +kernel
theorem dX7_init_6 : decode cX7_init 6 = .ok (.anewarray 9, 3) := by decide +kernel
theorem dX7_init_9 : decode cX7_init 9 = .ok (.putfield 11, 3) := by decide +kernel
theorem dX7_init_12 : decode cX7_init 12 = .ok (.aload_n 0, 1) := by decide +kernel
theorem dX7_init_13 : decode cX7_init 13 = .ok (.new 15, 3) := by decide +kernel
theorem dX7_init_16 : decode cX7_init 16 = .ok (.dup, 1) := by decide +kernel
theorem dX7_init_17 : decode cX7_init 17 = .ok (.invokespecial 17, 3) := by decide +kernel
theorem dX7_init_20 : decode cX7_init 20 = .ok (.putfield 18, 3) := by decide +kernel
theorem dX7_init_23 : decode cX7_init 23 = .ok (.aload_n 0, 1) := by decide +kernel
theorem dX7_init_24 : decode cX7_init 24 = .ok (.new 15, 3) := by decide +kernel
theorem dX7_init_27 : decode cX7_init 27 = .ok (.dup, 1) := by decide +kernel
theorem dX7_init_28 : decode cX7_init 28 = .ok (.invokespecial 17, 3) := by decide +kernel
theorem dX7_init_31 : decode cX7_init 31 = .ok (.putfield 22, 3) := by decide +kernel
theorem dX7_init_34 : decode cX7_init 34 = .ok (.aload_n 0, 1) := by decide +kernel
theorem dX7_init_35 : decode cX7_init 35 = .ok (.new 15, 3) := by decide +kernel
theorem dX7_init_38 : decode cX7_init 38 = .ok (.dup, 1) := by decide +kernel
theorem dX7_init_39 : decode cX7_init 39 = .ok (.invokespecial 17, 3) := by decide +kernel
theorem dX7_init_42 : decode cX7_init 42 = .ok (.putfield 25, 3) := by decide +kernel
theorem dX7_init_45 : decode cX7_init 45 = .ok (.aload_n 0, 1) := by decide +kernel
theorem dX7_init_46 : decode cX7_init 46 = .ok (.new 15, 3) := by decide +kernel
theorem dX7_init_49 : decode cX7_init 49 = .ok (.dup, 1) := by decide +kernel
theorem dX7_init_50 : decode cX7_init 50 = .ok (.invokespecial 17, 3) := by decide +kernel
theorem dX7_init_53 : decode cX7_init 53 = .ok (.putfield 28, 3) := by decide +kernel
theorem dX7_init_56 : decode cX7_init 56 = .ok (.aload_n 0, 1) := by decide +kernel
theorem dX7_init_57 : decode cX7_init 57 = .ok (.sipush 4000, 3) := by decide +kernel
theorem dX7_init_60 : decode cX7_init 60 = .ok (.newarray .int, 2) := by decide +kernel
theorem dX7_init_62 : decode cX7_init 62 = .ok (.putfield 31, 3) := by decide +kernel
theorem dX7_init_65 : decode cX7_init 65 = .ok (.aload_n 0, 1) := by decide +kernel
theorem dX7_init_66 : decode cX7_init 66 = .ok (.bipush 20, 2) := by decide +kernel
theorem dX7_init_68 : decode cX7_init 68 = .ok (.newarray .int, 2) := by decide +kernel
theorem dX7_init_70 : decode cX7_init 70 = .ok (.putfield 35, 3) := by decide +kernel
theorem dX7_init_73 : decode cX7_init 73 = .ok (.aload_n 0, 1) := by decide +kernel
theorem dX7_init_74 : decode cX7_init 74 = .ok (.new 38, 3) := by decide +kernel
theorem dX7_init_77 : decode cX7_init 77 = .ok (.dup, 1) := by decide +kernel
theorem dX7_init_78 : decode cX7_init 78 = .ok (.invokespecial 40, 3) := by decide +kernel
theorem dX7_init_81 : decode cX7_init 81 = .ok (.putfield 41, 3) := by decide +kernel
theorem dX7_init_84 : decode cX7_init 84 = .ok (.aload_n 0, 1) := by decide +kernel
theorem dX7_init_85 : decode cX7_init 85 = .ok (.bipush 20, 2) := by decide +kernel
theorem dX7_init_87 : decode cX7_init 87 = .ok (.newarray .int, 2) := by decide +kernel
theorem dX7_init_89 : decode cX7_init 89 = .ok (.putfield 45, 3) := by decide +kernel
theorem dX7_init_92 : decode cX7_init 92 = .ok (.aload_n 0, 1) := by decide +kernel
theorem dX7_init_93 : decode cX7_init 93 = .ok (.bipush 20, 2) := by decide +kernel
theorem dX7_init_95 : decode cX7_init 95 = .ok (.anewarray 15, 3) := by decide +kernel
theorem dX7_init_98 : decode cX7_init 98 = .ok (.putfield 48, 3) := by decide +kernel
theorem dX7_init_101 : decode cX7_init 101 = .ok (.aload_n 0, 1) := by decide +kernel
theorem dX7_init_102 : decode cX7_init 102 = .ok (.iconst 0, 1) := by decide +kernel
theorem dX7_init_103 : decode cX7_init 103 = .ok (.putfield 52, 3) := by decide +kernel
theorem dX7_init_106 : decode cX7_init 106 = .ok (.aload_n 0, 1) := by decide +kernel
theorem dX7_init_107 : decode cX7_init 107 = .ok (.bipush 32, 2) := by decide +kernel
theorem dX7_init_109 : decode cX7_init 109 = .ok (.newarray .int, 2) := by decide +kernel
theorem dX7_init_111 : decode cX7_init 111 = .ok (.putfield 56, 3) := by decide +kernel
theorem dX7_init_114 : decode cX7_init 114 = .ok (.aload_n 0, 1) := by decide +kernel
theorem dX7_init_115 : decode cX7_init 115 = .ok (.bipush 32, 2) := by decide +kernel
theorem dX7_init_117 : decode cX7_init 117 = .ok (.anewarray 15, 3) := by decide +kernel
theorem dX7_init_120 : decode cX7_init 120 = .ok (.putfield 59, 3) := by decide +kernel
theorem dX7_init_123 : decode cX7_init 123 = .ok (.aload_n 0, 1) := by decide +kernel
theorem dX7_init_124 : decode cX7_init 124 = .ok (.new 62, 3) := by decide +kernel
theorem dX7_init_127 : decode cX7_init 127 = .ok (.dup, 1) := by decide +kernel
theorem dX7_init_128 : decode cX7_init 128 = .ok (.invokespecial 64, 3) := by decide +kernel
theorem dX7_init_131 : decode cX7_init 131 = .ok (.putfield 65, 3) := by decide +kernel
theorem dX7_init_134 : decode cX7_init 134 = .ok (.iconst 0, 1) := by decide +kernel
theorem dX7_init_135 : decode cX7_init 135 = .ok (.istore_n 1, 1) := by decide +kernel
theorem dX7_init_136 : decode cX7_init 136 = .ok (.iload_n 1, 1) := by decide +kernel
theorem dX7_init_137 : decode cX7_init 137 = .ok (.iconst 4, 1) := by decide +kernel
theorem dX7_init_138 : decode cX7_init 138 = .ok (.if_icmp .ge 22, 3) := by decide +kernel
theorem dX7_init_141 : decode cX7_init 141 = .ok (.aload_n 0, 1) := by decide +kernel
theorem dX7_init_142 : decode cX7_init 142 = .ok (.getfield 11, 3) := by decide +kernel
theorem dX7_init_145 : decode cX7_init 145 = .ok (.iload_n 1, 1) := by decide +kernel
theorem dX7_init_146 : decode cX7_init 146 = .ok (.new 9, 3) := by decide +kernel
theorem dX7_init_149 : decode cX7_init 149 = .ok (.dup, 1) := by decide +kernel
theorem dX7_init_150 : decode cX7_init 150 = .ok (.invokespecial 69, 3) := by decide +kernel
theorem dX7_init_153 : decode cX7_init 153 = .ok (.aastore, 1) := by decide +kernel
theorem dX7_init_154 : decode cX7_init 154 = .ok (.iinc 1 1, 3) := by decide +kernel
theorem dX7_init_157 : decode cX7_init 157 = .ok (.goto (-21), 3) := by decide +kernel
theorem dX7_init_160 : decode cX7_init 160 = .ok (.iconst 0, 1) := by decide +kernel
theorem dX7_init_161 : decode cX7_init 161 = .ok (.istore_n 1, 1) := by decide +kernel
theorem dX7_init_162 : decode cX7_init 162 = .ok (.iload_n 1, 1) := by decide +kernel
theorem dX7_init_163 : decode cX7_init 163 = .ok (.bipush 20, 2) := by decide +kernel
theorem dX7_init_165 : decode cX7_init 165 = .ok (.if_icmp .ge 22, 3) := by decide +kernel
theorem dX7_init_168 : decode cX7_init 168 = .ok (.aload_n 0, 1) := by decide +kernel
theorem dX7_init_169 : decode cX7_init 169 = .ok (.getfield 48, 3) := by decide +kernel
theorem dX7_init_172 : decode cX7_init 172 = .ok (.iload_n 1, 1) := by decide +kernel
theorem dX7_init_173 : decode cX7_init 173 = .ok (.new 15, 3) := by decide +kernel
theorem dX7_init_176 : decode cX7_init 176 = .ok (.dup, 1) := by decide +kernel
theorem dX7_init_177 : decode cX7_init 177 = .ok (.invokespecial 17, 3) := by decide +kernel
theorem dX7_init_180 : decode cX7_init 180 = .ok (.aastore, 1) := by decide +kernel
theorem dX7_init_181 : decode cX7_init 181 = .ok (.iinc 1 1, 3) := by decide +kernel
theorem dX7_init_184 : decode cX7_init 184 = .ok (.goto (-22), 3) := by decide +kernel
theorem dX7_init_187 : decode cX7_init 187 = .ok (.iconst 0, 1) := by decide +kernel
theorem dX7_init_188 : decode cX7_init 188 = .ok (.istore_n 1, 1) := by decide +kernel
theorem dX7_init_189 : decode cX7_init 189 = .ok (.iload_n 1, 1) := by decide +kernel
theorem dX7_init_190 : decode cX7_init 190 = .ok (.bipush 32, 2) := by decide +kernel
theorem dX7_init_192 : decode cX7_init 192 = .ok (.if_icmp .ge 22, 3) := by decide +kernel
theorem dX7_init_195 : decode cX7_init 195 = .ok (.aload_n 0, 1) := by decide +kernel
theorem dX7_init_196 : decode cX7_init 196 = .ok (.getfield 59, 3) := by decide +kernel
theorem dX7_init_199 : decode cX7_init 199 = .ok (.iload_n 1, 1) := by decide +kernel
theorem dX7_init_200 : decode cX7_init 200 = .ok (.new 15, 3) := by decide +kernel
theorem dX7_init_203 : decode cX7_init 203 = .ok (.dup, 1) := by decide +kernel
theorem dX7_init_204 : decode cX7_init 204 = .ok (.invokespecial 17, 3) := by decide +kernel
theorem dX7_init_207 : decode cX7_init 207 = .ok (.aastore, 1) := by decide +kernel
theorem dX7_init_208 : decode cX7_init 208 = .ok (.iinc 1 1, 3) := by decide +kernel
theorem dX7_init_211 : decode cX7_init 211 = .ok (.goto (-22), 3) := by decide +kernel
theorem dX7_init_214 : decode cX7_init 214 = .ok (.return_, 1) := by decide +kernel
theorem dX7_atom_0 : decode cX7_atom 0 = .ok (.aload_n 0, 1) := by decide +kernel
theorem dX7_atom_1 : decode cX7_atom 1 = .ok (.iload_n 1, 1) := by decide +kernel
theorem dX7_atom_2 : decode cX7_atom 2 = .ok (.invokevirtual 70, 3) := by decide +kernel
theorem dX7_atom_5 : decode cX7_atom 5 = .ok (.getfield 74, 3) := by decide +kernel
theorem dX7_atom_8 : decode cX7_atom 8 = .ok (.astore 4, 2) := by decide +kernel
theorem dX7_atom_10 : decode cX7_atom 10 = .ok (.iload_n 3, 1) := by decide +kernel
theorem dX7_atom_11 : decode cX7_atom 11 = .ok (.invokestatic 78, 3) := by decide +kernel
theorem dX7_atom_14 : decode cX7_atom 14 = .ok (.iload_n 2, 1) := by decide +kernel
theorem dX7_atom_15 : decode cX7_atom 15 = .ok (.iconst 0, 1) := by decide +kernel
theorem dX7_atom_16 : decode cX7_atom 16 = .ok (.sipush 9999, 3) := by decide +kernel
theorem dX7_atom_19 : decode cX7_atom 19 = .ok (.invokestatic 82, 3) := by decide +kernel
theorem dX7_atom_22 : decode cX7_atom 22 = .ok (.aload 4, 2) := by decide +kernel
theorem dX7_atom_24 : decode cX7_atom 24 = .ok (.iload_n 2, 1) := by decide +kernel
theorem dX7_atom_25 : decode cX7_atom 25 = .ok (.invokevirtual 86, 3) := by decide +kernel
theorem dX7_atom_28 : decode cX7_atom 28 = .ok (.istore 5, 2) := by decide +kernel
theorem dX7_atom_30 : decode cX7_atom 30 = .ok (.iload 5, 2) := by decide +kernel
theorem dX7_atom_32 : decode cX7_atom 32 = .ok (.iconst (-1), 1) := by decide +kernel
theorem dX7_atom_33 : decode cX7_atom 33 = .ok (.if_icmp .ne 21, 3) := by decide +kernel
theorem dX7_atom_36 : decode cX7_atom 36 = .ok (.aload 4, 2) := by decide +kernel
theorem dX7_atom_38 : decode cX7_atom 38 = .ok (.invokevirtual 92, 3) := by decide +kernel
theorem dX7_atom_41 : decode cX7_atom 41 = .ok (.ifCond .eq 13, 3) := by decide +kernel
theorem dX7_atom_44 : decode cX7_atom 44 = .ok (.new 96, 3) := by decide +kernel
theorem dX7_atom_47 : decode cX7_atom 47 = .ok (.dup, 1) := by decide +kernel
theorem dX7_atom_48 : decode cX7_atom 48 = .ok (.ldc 98, 2) := by decide +kernel
theorem dX7_atom_50 : decode cX7_atom 50 = .ok (.invokespecial 100, 3) := by decide +kernel
theorem dX7_atom_53 : decode cX7_atom 53 = .ok (.athrow, 1) := by decide +kernel
theorem dX7_atom_54 : decode cX7_atom 54 = .ok (.aload 4, 2) := by decide +kernel
theorem dX7_atom_56 : decode cX7_atom 56 = .ok (.iload_n 2, 1) := by decide +kernel
theorem dX7_atom_57 : decode cX7_atom 57 = .ok (.iload_n 3, 1) := by decide +kernel
theorem dX7_atom_58 : decode cX7_atom 58 = .ok (.invokevirtual 103, 3) := by decide +kernel
theorem dX7_atom_61 : decode cX7_atom 61 = .ok (.iload 5, 2) := by decide +kernel
theorem dX7_atom_63 : decode cX7_atom 63 = .ok (.ireturn, 1) := by decide +kernel
theorem dX7_base_0 : decode cX7_base 0 = .ok (.aload_n 0, 1) := by decide +kernel
theorem dX7_base_1 : decode cX7_base 1 = .ok (.iload_n 1, 1) := by decide +kernel
theorem dX7_base_2 : decode cX7_base 2 = .ok (.invokevirtual 70, 3) := by decide +kernel
theorem dX7_base_5 : decode cX7_base 5 = .ok (.astore 6, 2) := by decide +kernel
theorem dX7_base_7 : decode cX7_base 7 = .ok (.iload_n 3, 1) := by decide +kernel
theorem dX7_base_8 : decode cX7_base 8 = .ok (.invokestatic 78, 3) := by decide +kernel
theorem dX7_base_11 : decode cX7_base 11 = .ok (.iload_n 2, 1) := by decide +kernel
theorem dX7_base_12 : decode cX7_base 12 = .ok (.iconst 2, 1) := by decide +kernel
theorem dX7_base_13 : decode cX7_base 13 = .ok (.sipush 5000, 3) := by decide +kernel
theorem dX7_base_16 : decode cX7_base 16 = .ok (.invokestatic 82, 3) := by decide +kernel
theorem dX7_base_19 : decode cX7_base 19 = .ok (.iload 4, 2) := by decide +kernel
theorem dX7_base_21 : decode cX7_base 21 = .ok (.iconst 1, 1) := by decide +kernel
theorem dX7_base_22 : decode cX7_base 22 = .ok (.bipush 99, 2) := by decide +kernel
theorem dX7_base_24 : decode cX7_base 24 = .ok (.invokestatic 82, 3) := by decide +kernel
theorem dX7_base_27 : decode cX7_base 27 = .ok (.iload 5, 2) := by decide +kernel
theorem dX7_base_29 : decode cX7_base 29 = .ok (.iconst 0, 1) := by decide +kernel
theorem dX7_base_30 : decode cX7_base 30 = .ok (.bipush 15, 2) := by decide +kernel
theorem dX7_base_32 : decode cX7_base 32 = .ok (.invokestatic 82, 3) := by decide +kernel
theorem dX7_base_35 : decode cX7_base 35 = .ok (.aload 6, 2) := by decide +kernel
theorem dX7_base_37 : decode cX7_base 37 = .ok (.getfield 110, 3) := by decide +kernel
theorem dX7_base_40 : decode cX7_base 40 = .ok (.iconst 5, 1) := by decide +kernel
theorem dX7_base_41 : decode cX7_base 41 = .ok (.if_icmp .ge 12, 3) := by decide +kernel
theorem dX7_base_44 : decode cX7_base 44 = .ok (.aload 6, 2) := by decide +kernel
theorem dX7_base_46 : decode cX7_base 46 = .ok (.iload_n 2, 1) := by decide +kernel
theorem dX7_base_47 : decode cX7_base 47 = .ok (.invokevirtual 113, 3) := by decide +kernel
theorem dX7_base_50 : decode cX7_base 50 = .ok (.ifCond .eq 13, 3) := by decide +kernel
theorem dX7_base_53 : decode cX7_base 53 = .ok (.new 96, 3) := by decide +kernel
theorem dX7_base_56 : decode cX7_base 56 = .ok (.dup, 1) := by decide +kernel
theorem dX7_base_57 : decode cX7_base 57 = .ok (.ldc 117, 2) := by decide +kernel
theorem dX7_base_59 : decode cX7_base 59 = .ok (.invokespecial 100, 3) := by decide +kernel
theorem dX7_base_62 : decode cX7_base 62 = .ok (.athrow, 1) := by decide +kernel
theorem dX7_base_63 : decode cX7_base 63 = .ok (.aload 6, 2) := by decide +kernel
theorem dX7_base_65 : decode cX7_base 65 = .ok (.iload_n 2, 1) := by decide +kernel
theorem dX7_base_66 : decode cX7_base 66 = .ok (.iload_n 3, 1) := by decide +kernel
theorem dX7_base_67 : decode cX7_base 67 = .ok (.iload 4, 2) := by decide +kernel
theorem dX7_base_69 : decode cX7_base 69 = .ok (.iload 5, 2) := by decide +kernel
theorem dX7_base_71 : decode cX7_base 71 = .ok (.invokevirtual 119, 3) := by decide +kernel
theorem dX7_base_74 : decode cX7_base 74 = .ok (.ireturn, 1) := by decide +kernel
theorem dX7_joint_0 : decode cX7_joint 0 = .ok (.aload_n 0, 1) := by decide +kernel
theorem dX7_joint_1 : decode cX7_joint 1 = .ok (.iload_n 1, 1) := by decide +kernel
theorem dX7_joint_2 : decode cX7_joint 2 = .ok (.invokevirtual 70, 3) := by decide +kernel
theorem dX7_joint_5 : decode cX7_joint 5 = .ok (.iload_n 2, 1) := by decide +kernel
theorem dX7_joint_6 : decode cX7_joint 6 = .ok (.invokestatic 123, 3) := by decide +kernel
theorem dX7_joint_9 : decode cX7_joint 9 = .ok (.astore 4, 2) := by decide +kernel
theorem dX7_joint_11 : decode cX7_joint 11 = .ok (.iload_n 3, 1) := by decide +kernel
theorem dX7_joint_12 : decode cX7_joint 12 = .ok (.invokestatic 127, 3) := by decide +kernel
theorem dX7_joint_15 : decode cX7_joint 15 = .ok (.aload 4, 2) := by decide +kernel
theorem dX7_joint_17 : decode cX7_joint 17 = .ok (.getfield 130, 3) := by decide +kernel
theorem dX7_joint_20 : decode cX7_joint 20 = .ok (.istore 5, 2) := by decide +kernel
theorem dX7_joint_22 : decode cX7_joint 22 = .ok (.aload 4, 2) := by decide +kernel
theorem dX7_joint_24 : decode cX7_joint 24 = .ok (.iload_n 3, 1) := by decide +kernel
theorem dX7_joint_25 : decode cX7_joint 25 = .ok (.putfield 130, 3) := by decide +kernel
theorem dX7_joint_28 : decode cX7_joint 28 = .ok (.iload 5, 2) := by decide +kernel
theorem dX7_joint_30 : decode cX7_joint 30 = .ok (.ireturn, 1) := by decide +kernel
theorem dX7_less_0 : decode cX7_less 0 = .ok (.aload_n 0, 1) := by decide +kernel
theorem dX7_less_1 : decode cX7_less 1 = .ok (.iload_n 1, 1) := by decide +kernel
theorem dX7_less_2 : decode cX7_less 2 = .ok (.invokevirtual 70, 3) := by decide +kernel
theorem dX7_less_5 : decode cX7_less 5 = .ok (.iload_n 2, 1) := by decide +kernel
theorem dX7_less_6 : decode cX7_less 6 = .ok (.invokestatic 123, 3) := by decide +kernel
theorem dX7_less_9 : decode cX7_less 9 = .ok (.astore 5, 2) := by decide +kernel
theorem dX7_less_11 : decode cX7_less 11 = .ok (.iload 4, 2) := by decide +kernel
theorem dX7_less_13 : decode cX7_less 13 = .ok (.invokestatic 78, 3) := by decide +kernel
theorem dX7_less_16 : decode cX7_less 16 = .ok (.iload_n 3, 1) := by decide +kernel
theorem dX7_less_17 : decode cX7_less 17 = .ok (.iconst 0, 1) := by decide +kernel
theorem dX7_less_18 : decode cX7_less 18 = .ok (.bipush 9, 2) := by decide +kernel
theorem dX7_less_20 : decode cX7_less 20 = .ok (.invokestatic 82, 3) := by decide +kernel
theorem dX7_less_23 : decode cX7_less 23 = .ok (.aload 5, 2) := by decide +kernel
theorem dX7_less_25 : decode cX7_less 25 = .ok (.getfield 135, 3) := by decide +kernel
theorem dX7_less_28 : decode cX7_less 28 = .ok (.istore 6, 2) := by decide +kernel
theorem dX7_less_30 : decode cX7_less 30 = .ok (.aload 5, 2) := by decide +kernel
theorem dX7_less_32 : decode cX7_less 32 = .ok (.iload_n 3, 1) := by decide +kernel
theorem dX7_less_33 : decode cX7_less 33 = .ok (.putfield 135, 3) := by decide +kernel
theorem dX7_less_36 : decode cX7_less 36 = .ok (.aload 5, 2) := by decide +kernel
theorem dX7_less_38 : decode cX7_less 38 = .ok (.iload 4, 2) := by decide +kernel
theorem dX7_less_40 : decode cX7_less 40 = .ok (.putfield 138, 3) := by decide +kernel
theorem dX7_less_43 : decode cX7_less 43 = .ok (.iload 6, 2) := by decide +kernel
theorem dX7_less_45 : decode cX7_less 45 = .ok (.ireturn, 1) := by decide +kernel
theorem dX7_form_0 : decode cX7_form 0 = .ok (.aload_n 0, 1) := by decide +kernel
theorem dX7_form_1 : decode cX7_form 1 = .ok (.iload_n 1, 1) := by decide +kernel
theorem dX7_form_2 : decode cX7_form 2 = .ok (.invokevirtual 70, 3) := by decide +kernel
theorem dX7_form_5 : decode cX7_form 5 = .ok (.getfield 141, 3) := by decide +kernel
theorem dX7_form_8 : decode cX7_form 8 = .ok (.astore 5, 2) := by decide +kernel
theorem dX7_form_10 : decode cX7_form 10 = .ok (.iload_n 2, 1) := by decide +kernel
theorem dX7_form_11 : decode cX7_form 11 = .ok (.invokestatic 78, 3) := by decide +kernel
theorem dX7_form_14 : decode cX7_form 14 = .ok (.iload 4, 2) := by decide +kernel
theorem dX7_form_16 : decode cX7_form 16 = .ok (.invokestatic 78, 3) := by decide +kernel
theorem dX7_form_19 : decode cX7_form 19 = .ok (.iload_n 3, 1) := by decide +kernel
theorem dX7_form_20 : decode cX7_form 20 = .ok (.iconst 0, 1) := by decide +kernel
theorem dX7_form_21 : decode cX7_form 21 = .ok (.iconst 3, 1) := by decide +kernel
theorem dX7_form_22 : decode cX7_form 22 = .ok (.invokestatic 82, 3) := by decide +kernel
theorem dX7_form_25 : decode cX7_form 25 = .ok (.aload 5, 2) := by decide +kernel
theorem dX7_form_27 : decode cX7_form 27 = .ok (.iload_n 2, 1) := by decide +kernel
theorem dX7_form_28 : decode cX7_form 28 = .ok (.iload_n 3, 1) := by decide +kernel
theorem dX7_form_29 : decode cX7_form 29 = .ok (.invokevirtual 145, 3) := by decide +kernel
theorem dX7_form_32 : decode cX7_form 32 = .ok (.istore 6, 2) := by decide +kernel
theorem dX7_form_34 : decode cX7_form 34 = .ok (.iload 6, 2) := by decide +kernel
theorem dX7_form_36 : decode cX7_form 36 = .ok (.iconst (-1), 1) := by decide +kernel
theorem dX7_form_37 : decode cX7_form 37 = .ok (.if_icmp .ne 21, 3) := by decide +kernel
theorem dX7_form_40 : decode cX7_form 40 = .ok (.aload 5, 2) := by decide +kernel
theorem dX7_form_42 : decode cX7_form 42 = .ok (.invokevirtual 151, 3) := by decide +kernel
theorem dX7_form_45 : decode cX7_form 45 = .ok (.ifCond .eq 13, 3) := by decide +kernel
theorem dX7_form_48 : decode cX7_form 48 = .ok (.new 96, 3) := by decide +kernel
theorem dX7_form_51 : decode cX7_form 51 = .ok (.dup, 1) := by decide +kernel
theorem dX7_form_52 : decode cX7_form 52 = .ok (.ldc 152, 2) := by decide +kernel
theorem dX7_form_54 : decode cX7_form 54 = .ok (.invokespecial 100, 3) := by decide +kernel
theorem dX7_form_57 : decode cX7_form 57 = .ok (.athrow, 1) := by decide +kernel
theorem dX7_form_58 : decode cX7_form 58 = .ok (.aload 5, 2) := by decide +kernel
theorem dX7_form_60 : decode cX7_form 60 = .ok (.iload_n 2, 1) := by decide +kernel
theorem dX7_form_61 : decode cX7_form 61 = .ok (.iload_n 3, 1) := by decide +kernel
theorem dX7_form_62 : decode cX7_form 62 = .ok (.iload 4, 2) := by decide +kernel
theorem dX7_form_64 : decode cX7_form 64 = .ok (.invokevirtual 154, 3) := by decide +kernel
theorem dX7_form_67 : decode cX7_form 67 = .ok (.iload 6, 2) := by decide +kernel
theorem dX7_form_69 : decode cX7_form 69 = .ok (.ireturn, 1) := by decide +kernel
theorem dX7_ordinal_0 : decode cX7_ordinal 0 = .ok (.aload_n 0, 1) := by decide +kernel
theorem dX7_ordinal_1 : decode cX7_ordinal 1 = .ok (.iload_n 1, 1) := by decide +kernel
theorem dX7_ordinal_2 : decode cX7_ordinal 2 = .ok (.invokevirtual 70, 3) := by decide +kernel
theorem dX7_ordinal_5 : decode cX7_ordinal 5 = .ok (.astore_n 3, 1) := by decide +kernel
theorem dX7_ordinal_6 : decode cX7_ordinal 6 = .ok (.iload_n 2, 1) := by decide +kernel
theorem dX7_ordinal_7 : decode cX7_ordinal 7 = .ok (.invokestatic 127, 3) := by decide +kernel
theorem dX7_ordinal_10 : decode cX7_ordinal 10 = .ok (.aload_n 3, 1) := by decide +kernel
theorem dX7_ordinal_11 : decode cX7_ordinal 11 = .ok (.getfield 156, 3) := by decide +kernel
theorem dX7_ordinal_14 : decode cX7_ordinal 14 = .ok (.istore 4, 2) := by decide +kernel
theorem dX7_ordinal_16 : decode cX7_ordinal 16 = .ok (.aload_n 3, 1) := by decide +kernel
theorem dX7_ordinal_17 : decode cX7_ordinal 17 = .ok (.iload_n 2, 1) := by decide +kernel
theorem dX7_ordinal_18 : decode cX7_ordinal 18 = .ok (.putfield 156, 3) := by decide +kernel
theorem dX7_ordinal_21 : decode cX7_ordinal 21 = .ok (.iload 4, 2) := by decide +kernel
theorem dX7_ordinal_23 : decode cX7_ordinal 23 = .ok (.ireturn, 1) := by decide +kernel
theorem dX7_seam_0 : decode cX7_seam 0 = .ok (.aload_n 0, 1) := by decide +kernel
theorem dX7_seam_1 : decode cX7_seam 1 = .ok (.iload_n 1, 1) := by decide +kernel
theorem dX7_seam_2 : decode cX7_seam 2 = .ok (.invokevirtual 70, 3) := by decide +kernel
theorem dX7_seam_5 : decode cX7_seam 5 = .ok (.astore 5, 2) := by decide +kernel
theorem dX7_seam_7 : decode cX7_seam 7 = .ok (.iload_n 2, 1) := by decide +kernel
theorem dX7_seam_8 : decode cX7_seam 8 = .ok (.invokestatic 78, 3) := by decide +kernel
theorem dX7_seam_11 : decode cX7_seam 11 = .ok (.iload_n 3, 1) := by decide +kernel
theorem dX7_seam_12 : decode cX7_seam 12 = .ok (.invokestatic 78, 3) := by decide +kernel
theorem dX7_seam_15 : decode cX7_seam 15 = .ok (.iload 4, 2) := by decide +kernel
theorem dX7_seam_17 : decode cX7_seam 17 = .ok (.invokestatic 78, 3) := by decide +kernel
theorem dX7_seam_20 : decode cX7_seam 20 = .ok (.aload 5, 2) := by decide +kernel
theorem dX7_seam_22 : decode cX7_seam 22 = .ok (.getfield 159, 3) := by decide +kernel
theorem dX7_seam_25 : decode cX7_seam 25 = .ok (.bipush 6, 2) := by decide +kernel
theorem dX7_seam_27 : decode cX7_seam 27 = .ok (.if_icmp .lt 13, 3) := by decide +kernel
theorem dX7_seam_30 : decode cX7_seam 30 = .ok (.new 96, 3) := by decide +kernel
theorem dX7_seam_33 : decode cX7_seam 33 = .ok (.dup, 1) := by decide +kernel
theorem dX7_seam_34 : decode cX7_seam 34 = .ok (.ldc 162, 2) := by decide +kernel
theorem dX7_seam_36 : decode cX7_seam 36 = .ok (.invokespecial 100, 3) := by decide +kernel
theorem dX7_seam_39 : decode cX7_seam 39 = .ok (.athrow, 1) := by decide +kernel
theorem dX7_seam_40 : decode cX7_seam 40 = .ok (.aload 5, 2) := by decide +kernel
theorem dX7_seam_42 : decode cX7_seam 42 = .ok (.iload_n 2, 1) := by decide +kernel
theorem dX7_seam_43 : decode cX7_seam 43 = .ok (.iload_n 3, 1) := by decide +kernel
theorem dX7_seam_44 : decode cX7_seam 44 = .ok (.iload 4, 2) := by decide +kernel
theorem dX7_seam_46 : decode cX7_seam 46 = .ok (.invokevirtual 164, 3) := by decide +kernel
theorem dX7_seam_49 : decode cX7_seam 49 = .ok (.aload 5, 2) := by decide +kernel
theorem dX7_seam_51 : decode cX7_seam 51 = .ok (.getfield 159, 3) := by decide +kernel
theorem dX7_seam_54 : decode cX7_seam 54 = .ok (.ireturn, 1) := by decide +kernel
theorem dX7_empty_0 : decode cX7_empty 0 = .ok (.aload_n 0, 1) := by decide +kernel
theorem dX7_empty_1 : decode cX7_empty 1 = .ok (.iload_n 1, 1) := by decide +kernel
theorem dX7_empty_2 : decode cX7_empty 2 = .ok (.invokevirtual 70, 3) := by decide +kernel
theorem dX7_empty_5 : decode cX7_empty 5 = .ok (.astore_n 2, 1) := by decide +kernel
theorem dX7_empty_6 : decode cX7_empty 6 = .ok (.aload_n 2, 1) := by decide +kernel
theorem dX7_empty_7 : decode cX7_empty 7 = .ok (.getfield 74, 3) := by decide +kernel
theorem dX7_empty_10 : decode cX7_empty 10 = .ok (.getfield 167, 3) := by decide +kernel
theorem dX7_empty_13 : decode cX7_empty 13 = .ok (.aload_n 2, 1) := by decide +kernel
theorem dX7_empty_14 : decode cX7_empty 14 = .ok (.getfield 110, 3) := by decide +kernel
theorem dX7_empty_17 : decode cX7_empty 17 = .ok (.iadd, 1) := by decide +kernel
theorem dX7_empty_18 : decode cX7_empty 18 = .ok (.istore_n 3, 1) := by decide +kernel
theorem dX7_empty_19 : decode cX7_empty 19 = .ok (.aload_n 2, 1) := by decide +kernel
theorem dX7_empty_20 : decode cX7_empty 20 = .ok (.invokevirtual 170, 3) := by decide +kernel
theorem dX7_empty_23 : decode cX7_empty 23 = .ok (.iload_n 3, 1) := by decide +kernel
theorem dX7_empty_24 : decode cX7_empty 24 = .ok (.ireturn, 1) := by decide +kernel
theorem dX7_say_0 : decode cX7_say 0 = .ok (.aload_n 0, 1) := by decide +kernel
theorem dX7_say_1 : decode cX7_say 1 = .ok (.iload_n 1, 1) := by decide +kernel
theorem dX7_say_2 : decode cX7_say 2 = .ok (.invokevirtual 70, 3) := by decide +kernel
theorem dX7_say_5 : decode cX7_say 5 = .ok (.astore 4, 2) := by decide +kernel
theorem dX7_say_7 : decode cX7_say 7 = .ok (.iload_n 3, 1) := by decide +kernel
theorem dX7_say_8 : decode cX7_say 8 = .ok (.invokestatic 173, 3) := by decide +kernel
theorem dX7_say_11 : decode cX7_say 11 = .ok (.iload_n 2, 1) := by decide +kernel
theorem dX7_say_12 : decode cX7_say 12 = .ok (.iconst 0, 1) := by decide +kernel
theorem dX7_say_13 : decode cX7_say 13 = .ok (.sipush 9999, 3) := by decide +kernel
theorem dX7_say_16 : decode cX7_say 16 = .ok (.invokestatic 82, 3) := by decide +kernel
theorem dX7_say_19 : decode cX7_say 19 = .ok (.aload 4, 2) := by decide +kernel
theorem dX7_say_21 : decode cX7_say 21 = .ok (.iload_n 2, 1) := by decide +kernel
theorem dX7_say_22 : decode cX7_say 22 = .ok (.iload_n 3, 1) := by decide +kernel
theorem dX7_say_23 : decode cX7_say 23 = .ok (.aload_n 0, 1) := by decide +kernel
theorem dX7_say_24 : decode cX7_say 24 = .ok (.getfield 18, 3) := by decide +kernel
theorem dX7_say_27 : decode cX7_say 27 = .ok (.invokevirtual 176, 3) := by decide +kernel
theorem dX7_say_30 : decode cX7_say 30 = .ok (.pop, 1) := by decide +kernel
theorem dX7_say_31 : decode cX7_say 31 = .ok (.aload_n 0, 1) := by decide +kernel
theorem dX7_say_32 : decode cX7_say 32 = .ok (.getfield 18, 3) := by decide +kernel
theorem dX7_say_35 : decode cX7_say 35 = .ok (.getfield 180, 3) := by decide +kernel
theorem dX7_say_38 : decode cX7_say 38 = .ok (.ireturn, 1) := by decide +kernel
theorem dX7_sayOrdinal_0 : decode cX7_sayOrdinal 0 = .ok (.aload_n 0, 1) := by decide +kernel
theorem dX7_sayOrdinal_1 : decode cX7_sayOrdinal 1 = .ok (.iload_n 1, 1) := by decide +kernel
theorem dX7_sayOrdinal_2 : decode cX7_sayOrdinal 2 = .ok (.invokevirtual 70, 3) := by decide +kernel
theorem dX7_sayOrdinal_5 : decode cX7_sayOrdinal 5 = .ok (.astore_n 3, 1) := by decide +kernel
theorem dX7_sayOrdinal_6 : decode cX7_sayOrdinal 6 = .ok (.iload_n 2, 1) := by decide +kernel
theorem dX7_sayOrdinal_7 : decode cX7_sayOrdinal 7 = .ok (.iconst 0, 1) := by decide +kernel
theorem dX7_sayOrdinal_8 : decode cX7_sayOrdinal 8 = .ok (.sipush 9999, 3) := by decide +kernel
theorem dX7_sayOrdinal_11 : decode cX7_sayOrdinal 11 = .ok (.invokestatic 82, 3) := by decide +kernel
theorem dX7_sayOrdinal_14 : decode cX7_sayOrdinal 14 = .ok (.aload_n 3, 1) := by decide +kernel
theorem dX7_sayOrdinal_15 : decode cX7_sayOrdinal 15 = .ok (.iload_n 2, 1) := by decide +kernel
theorem dX7_sayOrdinal_16 : decode cX7_sayOrdinal 16 = .ok (.iconst 3, 1) := by decide +kernel
theorem dX7_sayOrdinal_17 : decode cX7_sayOrdinal 17 = .ok (.aload_n 0, 1) := by decide +kernel
theorem dX7_sayOrdinal_18 : decode cX7_sayOrdinal 18 = .ok (.getfield 18, 3) := by decide +kernel
theorem dX7_sayOrdinal_21 : decode cX7_sayOrdinal 21 = .ok (.invokevirtual 176, 3) := by decide +kernel
theorem dX7_sayOrdinal_24 : decode cX7_sayOrdinal 24 = .ok (.pop, 1) := by decide +kernel
theorem dX7_sayOrdinal_25 : decode cX7_sayOrdinal 25 = .ok (.aload_n 0, 1) := by decide +kernel
theorem dX7_sayOrdinal_26 : decode cX7_sayOrdinal 26 = .ok (.getfield 18, 3) := by decide +kernel
theorem dX7_sayOrdinal_29 : decode cX7_sayOrdinal 29 = .ok (.getfield 180, 3) := by decide +kernel
theorem dX7_sayOrdinal_32 : decode cX7_sayOrdinal 32 = .ok (.ireturn, 1) := by decide +kernel
theorem dX7_sayFraction_0 : decode cX7_sayFraction 0 = .ok (.aload_n 0, 1) := by decide +kernel
theorem dX7_sayFraction_1 : decode cX7_sayFraction 1 = .ok (.iload_n 1, 1) := by decide +kernel
theorem dX7_sayFraction_2 : decode cX7_sayFraction 2 = .ok (.invokevirtual 70, 3) := by decide +kernel
theorem dX7_sayFraction_5 : decode cX7_sayFraction 5 = .ok (.astore 5, 2) := by decide +kernel
theorem dX7_sayFraction_7 : decode cX7_sayFraction 7 = .ok (.iload 4, 2) := by decide +kernel
theorem dX7_sayFraction_9 : decode cX7_sayFraction 9 = .ok (.invokestatic 173, 3) := by decide +kernel
theorem dX7_sayFraction_12 : decode cX7_sayFraction 12 = .ok (.iload_n 2, 1) := by decide +kernel
theorem dX7_sayFraction_13 : decode cX7_sayFraction 13 = .ok (.iconst 0, 1) := by decide +kernel
theorem dX7_sayFraction_14 : decode cX7_sayFraction 14 = .ok (.sipush 9999, 3) := by decide +kernel
theorem dX7_sayFraction_17 : decode cX7_sayFraction 17 = .ok (.invokestatic 82, 3) := by decide +kernel
theorem dX7_sayFraction_20 : decode cX7_sayFraction 20 = .ok (.iload_n 3, 1) := by decide +kernel
theorem dX7_sayFraction_21 : decode cX7_sayFraction 21 = .ok (.iconst 1, 1) := by decide +kernel
theorem dX7_sayFraction_22 : decode cX7_sayFraction 22 = .ok (.sipush 9999, 3) := by decide +kernel
theorem dX7_sayFraction_25 : decode cX7_sayFraction 25 = .ok (.invokestatic 82, 3) := by decide +kernel
theorem dX7_sayFraction_28 : decode cX7_sayFraction 28 = .ok (.aload 5, 2) := by decide +kernel
theorem dX7_sayFraction_30 : decode cX7_sayFraction 30 = .ok (.iload_n 2, 1) := by decide +kernel
theorem dX7_sayFraction_31 : decode cX7_sayFraction 31 = .ok (.iload_n 3, 1) := by decide +kernel
theorem dX7_sayFraction_32 : decode cX7_sayFraction 32 = .ok (.iload 4, 2) := by decide +kernel
theorem dX7_sayFraction_34 : decode cX7_sayFraction 34 = .ok (.aload_n 0, 1) := by decide +kernel
theorem dX7_sayFraction_35 : decode cX7_sayFraction 35 = .ok (.getfield 18, 3) := by decide +kernel
theorem dX7_sayFraction_38 : decode cX7_sayFraction 38 = .ok (.invokevirtual 181, 3) := by decide +kernel
theorem dX7_sayFraction_41 : decode cX7_sayFraction 41 = .ok (.pop, 1) := by decide +kernel
theorem dX7_sayFraction_42 : decode cX7_sayFraction 42 = .ok (.aload_n 0, 1) := by decide +kernel
theorem dX7_sayFraction_43 : decode cX7_sayFraction 43 = .ok (.getfield 18, 3) := by decide +kernel
theorem dX7_sayFraction_46 : decode cX7_sayFraction 46 = .ok (.getfield 180, 3) := by decide +kernel
theorem dX7_sayFraction_49 : decode cX7_sayFraction 49 = .ok (.ireturn, 1) := by decide +kernel
theorem dX7_said_0 : decode cX7_said 0 = .ok (.iload_n 1, 1) := by decide +kernel
theorem dX7_said_1 : decode cX7_said 1 = .ok (.ifCond .lt 14, 3) := by decide +kernel
theorem dX7_said_4 : decode cX7_said 4 = .ok (.iload_n 1, 1) := by decide +kernel
theorem dX7_said_5 : decode cX7_said 5 = .ok (.aload_n 0, 1) := by decide +kernel
theorem dX7_said_6 : decode cX7_said 6 = .ok (.getfield 18, 3) := by decide +kernel
theorem dX7_said_9 : decode cX7_said 9 = .ok (.getfield 180, 3) := by decide +kernel
theorem dX7_said_12 : decode cX7_said 12 = .ok (.if_icmp .lt 13, 3) := by decide +kernel
theorem dX7_said_15 : decode cX7_said 15 = .ok (.new 185, 3) := by decide +kernel
theorem dX7_said_18 : decode cX7_said 18 = .ok (.dup, 1) := by decide +kernel
theorem dX7_said_19 : decode cX7_said 19 = .ok (.ldc 187, 2) := by decide +kernel
theorem dX7_said_21 : decode cX7_said 21 = .ok (.invokespecial 189, 3) := by decide +kernel
theorem dX7_said_24 : decode cX7_said 24 = .ok (.athrow, 1) := by decide +kernel
theorem dX7_said_25 : decode cX7_said 25 = .ok (.aload_n 0, 1) := by decide +kernel
theorem dX7_said_26 : decode cX7_said 26 = .ok (.getfield 18, 3) := by decide +kernel
theorem dX7_said_29 : decode cX7_said 29 = .ok (.iload_n 1, 1) := by decide +kernel
theorem dX7_said_30 : decode cX7_said 30 = .ok (.invokevirtual 190, 3) := by decide +kernel
theorem dX7_said_33 : decode cX7_said 33 = .ok (.ireturn, 1) := by decide +kernel
theorem dX7_hear_0 : decode cX7_hear 0 = .ok (.iload_n 1, 1) := by decide +kernel
theorem dX7_hear_1 : decode cX7_hear 1 = .ok (.invokestatic 127, 3) := by decide +kernel
theorem dX7_hear_4 : decode cX7_hear 4 = .ok (.aload_n 0, 1) := by decide +kernel
theorem dX7_hear_5 : decode cX7_hear 5 = .ok (.getfield 22, 3) := by decide +kernel
theorem dX7_hear_8 : decode cX7_hear 8 = .ok (.iload_n 1, 1) := by decide +kernel
theorem dX7_hear_9 : decode cX7_hear 9 = .ok (.invokevirtual 193, 3) := by decide +kernel
theorem dX7_hear_12 : decode cX7_hear 12 = .ok (.ifCond .ne 13, 3) := by decide +kernel
theorem dX7_hear_15 : decode cX7_hear 15 = .ok (.new 96, 3) := by decide +kernel
theorem dX7_hear_18 : decode cX7_hear 18 = .ok (.dup, 1) := by decide +kernel
theorem dX7_hear_19 : decode cX7_hear 19 = .ok (.ldc 196, 2) := by decide +kernel
theorem dX7_hear_21 : decode cX7_hear 21 = .ok (.invokespecial 100, 3) := by decide +kernel
theorem dX7_hear_24 : decode cX7_hear 24 = .ok (.athrow, 1) := by decide +kernel
theorem dX7_hear_25 : decode cX7_hear 25 = .ok (.aload_n 0, 1) := by decide +kernel
theorem dX7_hear_26 : decode cX7_hear 26 = .ok (.getfield 22, 3) := by decide +kernel
theorem dX7_hear_29 : decode cX7_hear 29 = .ok (.getfield 180, 3) := by decide +kernel
theorem dX7_hear_32 : decode cX7_hear 32 = .ok (.ireturn, 1) := by decide +kernel
theorem dX7_hearSaid_0 : decode cX7_hearSaid 0 = .ok (.aload_n 0, 1) := by decide +kernel
theorem dX7_hearSaid_1 : decode cX7_hearSaid 1 = .ok (.getfield 22, 3) := by decide +kernel
theorem dX7_hearSaid_4 : decode cX7_hearSaid 4 = .ok (.aload_n 0, 1) := by decide +kernel
theorem dX7_hearSaid_5 : decode cX7_hearSaid 5 = .ok (.getfield 18, 3) := by decide +kernel
theorem dX7_hearSaid_8 : decode cX7_hearSaid 8 = .ok (.invokevirtual 198, 3) := by decide +kernel
theorem dX7_hearSaid_11 : decode cX7_hearSaid 11 = .ok (.aload_n 0, 1) := by decide +kernel
theorem dX7_hearSaid_12 : decode cX7_hearSaid 12 = .ok (.getfield 22, 3) := by decide +kernel
theorem dX7_hearSaid_15 : decode cX7_hearSaid 15 = .ok (.getfield 180, 3) := by decide +kernel
theorem dX7_hearSaid_18 : decode cX7_hearSaid 18 = .ok (.ireturn, 1) := by decide +kernel
theorem dX7_forget_0 : decode cX7_forget 0 = .ok (.aload_n 0, 1) := by decide +kernel
theorem dX7_forget_1 : decode cX7_forget 1 = .ok (.getfield 22, 3) := by decide +kernel
theorem dX7_forget_4 : decode cX7_forget 4 = .ok (.getfield 180, 3) := by decide +kernel
theorem dX7_forget_7 : decode cX7_forget 7 = .ok (.istore_n 1, 1) := by decide +kernel
theorem dX7_forget_8 : decode cX7_forget 8 = .ok (.aload_n 0, 1) := by decide +kernel
theorem dX7_forget_9 : decode cX7_forget 9 = .ok (.getfield 22, 3) := by decide +kernel
theorem dX7_forget_12 : decode cX7_forget 12 = .ok (.invokevirtual 202, 3) := by decide +kernel
theorem dX7_forget_15 : decode cX7_forget 15 = .ok (.iload_n 1, 1) := by decide +kernel
theorem dX7_forget_16 : decode cX7_forget 16 = .ok (.ireturn, 1) := by decide +kernel
theorem dX7_fits_0 : decode cX7_fits 0 = .ok (.aload_n 0, 1) := by decide +kernel
theorem dX7_fits_1 : decode cX7_fits 1 = .ok (.iload_n 1, 1) := by decide +kernel
theorem dX7_fits_2 : decode cX7_fits 2 = .ok (.iload_n 2, 1) := by decide +kernel
theorem dX7_fits_3 : decode cX7_fits 3 = .ok (.iload_n 3, 1) := by decide +kernel
theorem dX7_fits_4 : decode cX7_fits 4 = .ok (.invokevirtual 203, 3) := by decide +kernel
theorem dX7_fits_7 : decode cX7_fits 7 = .ok (.astore 4, 2) := by decide +kernel
theorem dX7_fits_9 : decode cX7_fits 9 = .ok (.iconst 0, 1) := by decide +kernel
theorem dX7_fits_10 : decode cX7_fits 10 = .ok (.istore 5, 2) := by decide +kernel
theorem dX7_fits_12 : decode cX7_fits 12 = .ok (.iconst 0, 1) := by decide +kernel
theorem dX7_fits_13 : decode cX7_fits 13 = .ok (.istore 6, 2) := by decide +kernel
theorem dX7_fits_15 : decode cX7_fits 15 = .ok (.iload 6, 2) := by decide +kernel
theorem dX7_fits_17 : decode cX7_fits 17 = .ok (.iload_n 3, 1) := by decide +kernel
theorem dX7_fits_18 : decode cX7_fits 18 = .ok (.if_icmp .gt 24, 3) := by decide +kernel
theorem dX7_fits_21 : decode cX7_fits 21 = .ok (.aload_n 0, 1) := by decide +kernel
theorem dX7_fits_22 : decode cX7_fits 22 = .ok (.aload 4, 2) := by decide +kernel
theorem dX7_fits_24 : decode cX7_fits 24 = .ok (.iload 6, 2) := by decide +kernel
theorem dX7_fits_26 : decode cX7_fits 26 = .ok (.iload_n 2, 1) := by decide +kernel
theorem dX7_fits_27 : decode cX7_fits 27 = .ok (.invokevirtual 207, 3) := by decide +kernel
theorem dX7_fits_30 : decode cX7_fits 30 = .ok (.ifCond .eq 6, 3) := by decide +kernel
theorem dX7_fits_33 : decode cX7_fits 33 = .ok (.iinc 5 1, 3) := by decide +kernel
theorem dX7_fits_36 : decode cX7_fits 36 = .ok (.iinc 6 1, 3) := by decide +kernel
theorem dX7_fits_39 : decode cX7_fits 39 = .ok (.goto (-24), 3) := by decide +kernel
theorem dX7_fits_42 : decode cX7_fits 42 = .ok (.iload 5, 2) := by decide +kernel
theorem dX7_fits_44 : decode cX7_fits 44 = .ok (.ireturn, 1) := by decide +kernel
theorem dX7_fit_0 : decode cX7_fit 0 = .ok (.aload_n 0, 1) := by decide +kernel
theorem dX7_fit_1 : decode cX7_fit 1 = .ok (.iload_n 1, 1) := by decide +kernel
theorem dX7_fit_2 : decode cX7_fit 2 = .ok (.iload_n 2, 1) := by decide +kernel
theorem dX7_fit_3 : decode cX7_fit 3 = .ok (.iload_n 3, 1) := by decide +kernel
theorem dX7_fit_4 : decode cX7_fit 4 = .ok (.invokevirtual 203, 3) := by decide +kernel
theorem dX7_fit_7 : decode cX7_fit 7 = .ok (.astore 5, 2) := by decide +kernel
theorem dX7_fit_9 : decode cX7_fit 9 = .ok (.iload 4, 2) := by decide +kernel
theorem dX7_fit_11 : decode cX7_fit 11 = .ok (.ifCond .ge 13, 3) := by decide +kernel
theorem dX7_fit_14 : decode cX7_fit 14 = .ok (.new 211, 3) := by decide +kernel
theorem dX7_fit_17 : decode cX7_fit 17 = .ok (.dup, 1) := by decide +kernel
theorem dX7_fit_18 : decode cX7_fit 18 = .ok (.ldc 213, 2) := by decide +kernel
theorem dX7_fit_20 : decode cX7_fit 20 = .ok (.invokespecial 215, 3) := by decide +kernel
theorem dX7_fit_23 : decode cX7_fit 23 = .ok (.athrow, 1) := by decide +kernel
theorem dX7_fit_24 : decode cX7_fit 24 = .ok (.iconst 0, 1) := by decide +kernel
theorem dX7_fit_25 : decode cX7_fit 25 = .ok (.istore 6, 2) := by decide +kernel
theorem dX7_fit_27 : decode cX7_fit 27 = .ok (.iconst 0, 1) := by decide +kernel
theorem dX7_fit_28 : decode cX7_fit 28 = .ok (.istore 7, 2) := by decide +kernel
theorem dX7_fit_30 : decode cX7_fit 30 = .ok (.iload 7, 2) := by decide +kernel
theorem dX7_fit_32 : decode cX7_fit 32 = .ok (.iload_n 3, 1) := by decide +kernel
theorem dX7_fit_33 : decode cX7_fit 33 = .ok (.if_icmp .gt 34, 3) := by decide +kernel
theorem dX7_fit_36 : decode cX7_fit 36 = .ok (.aload_n 0, 1) := by decide +kernel
theorem dX7_fit_37 : decode cX7_fit 37 = .ok (.aload 5, 2) := by decide +kernel
theorem dX7_fit_39 : decode cX7_fit 39 = .ok (.iload 7, 2) := by decide +kernel
theorem dX7_fit_41 : decode cX7_fit 41 = .ok (.iload_n 2, 1) := by decide +kernel
theorem dX7_fit_42 : decode cX7_fit 42 = .ok (.invokevirtual 207, 3) := by decide +kernel
theorem dX7_fit_45 : decode cX7_fit 45 = .ok (.ifCond .eq 16, 3) := by decide +kernel
theorem dX7_fit_48 : decode cX7_fit 48 = .ok (.iload 6, 2) := by decide +kernel
theorem dX7_fit_50 : decode cX7_fit 50 = .ok (.iload 4, 2) := by decide +kernel
theorem dX7_fit_52 : decode cX7_fit 52 = .ok (.if_icmp .ne 6, 3) := by decide +kernel
theorem dX7_fit_55 : decode cX7_fit 55 = .ok (.iload 7, 2) := by decide +kernel
theorem dX7_fit_57 : decode cX7_fit 57 = .ok (.ireturn, 1) := by decide +kernel
theorem dX7_fit_58 : decode cX7_fit 58 = .ok (.iinc 6 1, 3) := by decide +kernel
theorem dX7_fit_61 : decode cX7_fit 61 = .ok (.iinc 7 1, 3) := by decide +kernel
theorem dX7_fit_64 : decode cX7_fit 64 = .ok (.goto (-34), 3) := by decide +kernel
theorem dX7_fit_67 : decode cX7_fit 67 = .ok (.iconst (-1), 1) := by decide +kernel
theorem dX7_fit_68 : decode cX7_fit 68 = .ok (.ireturn, 1) := by decide +kernel
theorem dX7_askWord_0 : decode cX7_askWord 0 = .ok (.aload_n 0, 1) := by decide +kernel
theorem dX7_askWord_1 : decode cX7_askWord 1 = .ok (.iload_n 1, 1) := by decide +kernel
theorem dX7_askWord_2 : decode cX7_askWord 2 = .ok (.iload_n 2, 1) := by decide +kernel
theorem dX7_askWord_3 : decode cX7_askWord 3 = .ok (.iload_n 3, 1) := by decide +kernel
theorem dX7_askWord_4 : decode cX7_askWord 4 = .ok (.invokevirtual 203, 3) := by decide +kernel
theorem dX7_askWord_7 : decode cX7_askWord 7 = .ok (.astore 4, 2) := by decide +kernel
theorem dX7_askWord_9 : decode cX7_askWord 9 = .ok (.aload_n 0, 1) := by decide +kernel
theorem dX7_askWord_10 : decode cX7_askWord 10 = .ok (.getfield 31, 3) := by decide +kernel
theorem dX7_askWord_13 : decode cX7_askWord 13 = .ok (.iconst 0, 1) := by decide +kernel
theorem dX7_askWord_14 : decode cX7_askWord 14 = .ok (.invokestatic 216, 3) := by decide +kernel
theorem dX7_askWord_17 : decode cX7_askWord 17 = .ok (.aload_n 0, 1) := by decide +kernel
theorem dX7_askWord_18 : decode cX7_askWord 18 = .ok (.getfield 35, 3) := by decide +kernel
theorem dX7_askWord_21 : decode cX7_askWord 21 = .ok (.iconst 0, 1) := by decide +kernel
theorem dX7_askWord_22 : decode cX7_askWord 22 = .ok (.invokestatic 216, 3) := by decide +kernel
theorem dX7_askWord_25 : decode cX7_askWord 25 = .ok (.iconst 0, 1) := by decide +kernel
theorem dX7_askWord_26 : decode cX7_askWord 26 = .ok (.istore 5, 2) := by decide +kernel
theorem dX7_askWord_28 : decode cX7_askWord 28 = .ok (.iconst 0, 1) := by decide +kernel
theorem dX7_askWord_29 : decode cX7_askWord 29 = .ok (.istore 6, 2) := by decide +kernel
theorem dX7_askWord_31 : decode cX7_askWord 31 = .ok (.iload 6, 2) := by decide +kernel
theorem dX7_askWord_33 : decode cX7_askWord 33 = .ok (.iload_n 3, 1) := by decide +kernel
theorem dX7_askWord_34 : decode cX7_askWord 34 = .ok (.if_icmp .gt 28, 3) := by decide +kernel
theorem dX7_askWord_37 : decode cX7_askWord 37 = .ok (.aload_n 0, 1) := by decide +kernel
theorem dX7_askWord_38 : decode cX7_askWord 38 = .ok (.aload 4, 2) := by decide +kernel
theorem dX7_askWord_40 : decode cX7_askWord 40 = .ok (.iload 6, 2) := by decide +kernel
theorem dX7_askWord_42 : decode cX7_askWord 42 = .ok (.iload_n 2, 1) := by decide +kernel
theorem dX7_askWord_43 : decode cX7_askWord 43 = .ok (.invokevirtual 207, 3) := by decide +kernel
theorem dX7_askWord_46 : decode cX7_askWord 46 = .ok (.ifCond .eq 10, 3) := by decide +kernel
theorem dX7_askWord_49 : decode cX7_askWord 49 = .ok (.iinc 5 1, 3) := by decide +kernel
theorem dX7_askWord_52 : decode cX7_askWord 52 = .ok (.aload_n 0, 1) := by decide +kernel
theorem dX7_askWord_53 : decode cX7_askWord 53 = .ok (.invokevirtual 222, 3) := by decide +kernel
theorem dX7_askWord_56 : decode cX7_askWord 56 = .ok (.iinc 6 1, 3) := by decide +kernel
theorem dX7_askWord_59 : decode cX7_askWord 59 = .ok (.goto (-28), 3) := by decide +kernel
theorem dX7_askWord_62 : decode cX7_askWord 62 = .ok (.iload 5, 2) := by decide +kernel
theorem dX7_askWord_64 : decode cX7_askWord 64 = .ok (.iconst 2, 1) := by decide +kernel
theorem dX7_askWord_65 : decode cX7_askWord 65 = .ok (.if_icmp .ge 7, 3) := by decide +kernel
theorem dX7_askWord_68 : decode cX7_askWord 68 = .ok (.iconst (-1), 1) := by decide +kernel
theorem dX7_askWord_69 : decode cX7_askWord 69 = .ok (.goto 7, 3) := by decide +kernel
theorem dX7_askWord_72 : decode cX7_askWord 72 = .ok (.aload_n 0, 1) := by decide +kernel
theorem dX7_askWord_73 : decode cX7_askWord 73 = .ok (.invokevirtual 225, 3) := by decide +kernel
theorem dX7_askWord_76 : decode cX7_askWord 76 = .ok (.ireturn, 1) := by decide +kernel
theorem dX7_gap_0 : decode cX7_gap 0 = .ok (.aload_n 0, 1) := by decide +kernel
theorem dX7_gap_1 : decode cX7_gap 1 = .ok (.iload_n 1, 1) := by decide +kernel
theorem dX7_gap_2 : decode cX7_gap 2 = .ok (.invokevirtual 70, 3) := by decide +kernel
theorem dX7_gap_5 : decode cX7_gap 5 = .ok (.astore_n 3, 1) := by decide +kernel
theorem dX7_gap_6 : decode cX7_gap 6 = .ok (.iload_n 2, 1) := by decide +kernel
theorem dX7_gap_7 : decode cX7_gap 7 = .ok (.iconst 0, 1) := by decide +kernel
theorem dX7_gap_8 : decode cX7_gap 8 = .ok (.sipush 999, 3) := by decide +kernel
theorem dX7_gap_11 : decode cX7_gap 11 = .ok (.invokestatic 82, 3) := by decide +kernel
theorem dX7_gap_14 : decode cX7_gap 14 = .ok (.iconst 0, 1) := by decide +kernel
theorem dX7_gap_15 : decode cX7_gap 15 = .ok (.istore 4, 2) := by decide +kernel
theorem dX7_gap_17 : decode cX7_gap 17 = .ok (.iload 4, 2) := by decide +kernel
theorem dX7_gap_19 : decode cX7_gap 19 = .ok (.iload_n 2, 1) := by decide +kernel
theorem dX7_gap_20 : decode cX7_gap 20 = .ok (.if_icmp .gt 26, 3) := by decide +kernel
theorem dX7_gap_23 : decode cX7_gap 23 = .ok (.aload_n 3, 1) := by decide +kernel
theorem dX7_gap_24 : decode cX7_gap 24 = .ok (.iload 4, 2) := by decide +kernel
theorem dX7_gap_26 : decode cX7_gap 26 = .ok (.iconst 0, 1) := by decide +kernel
theorem dX7_gap_27 : decode cX7_gap 27 = .ok (.aload_n 0, 1) := by decide +kernel
theorem dX7_gap_28 : decode cX7_gap 28 = .ok (.getfield 25, 3) := by decide +kernel
theorem dX7_gap_31 : decode cX7_gap 31 = .ok (.invokevirtual 176, 3) := by decide +kernel
theorem dX7_gap_34 : decode cX7_gap 34 = .ok (.ifCond .ne 6, 3) := by decide +kernel
theorem dX7_gap_37 : decode cX7_gap 37 = .ok (.iload 4, 2) := by decide +kernel
theorem dX7_gap_39 : decode cX7_gap 39 = .ok (.ireturn, 1) := by decide +kernel
theorem dX7_gap_40 : decode cX7_gap 40 = .ok (.iinc 4 1, 3) := by decide +kernel
theorem dX7_gap_43 : decode cX7_gap 43 = .ok (.goto (-26), 3) := by decide +kernel
theorem dX7_gap_46 : decode cX7_gap 46 = .ok (.iconst (-1), 1) := by decide +kernel
theorem dX7_gap_47 : decode cX7_gap 47 = .ok (.ireturn, 1) := by decide +kernel
theorem dX7_clash_0 : decode cX7_clash 0 = .ok (.aload_n 0, 1) := by decide +kernel
theorem dX7_clash_1 : decode cX7_clash 1 = .ok (.iload_n 1, 1) := by decide +kernel
theorem dX7_clash_2 : decode cX7_clash 2 = .ok (.iload_n 2, 1) := by decide +kernel
theorem dX7_clash_3 : decode cX7_clash 3 = .ok (.iload_n 3, 1) := by decide +kernel
theorem dX7_clash_4 : decode cX7_clash 4 = .ok (.invokevirtual 203, 3) := by decide +kernel
theorem dX7_clash_7 : decode cX7_clash 7 = .ok (.astore 4, 2) := by decide +kernel
theorem dX7_clash_9 : decode cX7_clash 9 = .ok (.aload_n 0, 1) := by decide +kernel
theorem dX7_clash_10 : decode cX7_clash 10 = .ok (.getfield 41, 3) := by decide +kernel
theorem dX7_clash_13 : decode cX7_clash 13 = .ok (.invokevirtual 229, 3) := by decide +kernel
theorem dX7_clash_16 : decode cX7_clash 16 = .ok (.iconst 0, 1) := by decide +kernel
theorem dX7_clash_17 : decode cX7_clash 17 = .ok (.istore 5, 2) := by decide +kernel
theorem dX7_clash_19 : decode cX7_clash 19 = .ok (.iload 5, 2) := by decide +kernel
theorem dX7_clash_21 : decode cX7_clash 21 = .ok (.iload_n 3, 1) := by decide +kernel
theorem dX7_clash_22 : decode cX7_clash 22 = .ok (.if_icmp .gt 59, 3) := by decide +kernel
theorem dX7_clash_25 : decode cX7_clash 25 = .ok (.aload 4, 2) := by decide +kernel
theorem dX7_clash_27 : decode cX7_clash 27 = .ok (.iload 5, 2) := by decide +kernel
theorem dX7_clash_29 : decode cX7_clash 29 = .ok (.iload_n 2, 1) := by decide +kernel
theorem dX7_clash_30 : decode cX7_clash 30 = .ok (.aload_n 0, 1) := by decide +kernel
theorem dX7_clash_31 : decode cX7_clash 31 = .ok (.getfield 25, 3) := by decide +kernel
theorem dX7_clash_34 : decode cX7_clash 34 = .ok (.invokevirtual 176, 3) := by decide +kernel
theorem dX7_clash_37 : decode cX7_clash 37 = .ok (.ifCond .eq 38, 3) := by decide +kernel
theorem dX7_clash_40 : decode cX7_clash 40 = .ok (.aload_n 0, 1) := by decide +kernel
theorem dX7_clash_41 : decode cX7_clash 41 = .ok (.getfield 25, 3) := by decide +kernel
theorem dX7_clash_44 : decode cX7_clash 44 = .ok (.invokevirtual 230, 3) := by decide +kernel
theorem dX7_clash_47 : decode cX7_clash 47 = .ok (.istore 6, 2) := by decide +kernel
theorem dX7_clash_49 : decode cX7_clash 49 = .ok (.aload_n 0, 1) := by decide +kernel
theorem dX7_clash_50 : decode cX7_clash 50 = .ok (.aload 4, 2) := by decide +kernel
theorem dX7_clash_52 : decode cX7_clash 52 = .ok (.iload_n 2, 1) := by decide +kernel
theorem dX7_clash_53 : decode cX7_clash 53 = .ok (.iload 6, 2) := by decide +kernel
theorem dX7_clash_55 : decode cX7_clash 55 = .ok (.invokevirtual 233, 3) := by decide +kernel
theorem dX7_clash_58 : decode cX7_clash 58 = .ok (.ifCond .eq 6, 3) := by decide +kernel
theorem dX7_clash_61 : decode cX7_clash 61 = .ok (.iload 5, 2) := by decide +kernel
theorem dX7_clash_63 : decode cX7_clash 63 = .ok (.ireturn, 1) := by decide +kernel
theorem dX7_clash_64 : decode cX7_clash 64 = .ok (.aload_n 0, 1) := by decide +kernel
theorem dX7_clash_65 : decode cX7_clash 65 = .ok (.getfield 41, 3) := by decide +kernel
theorem dX7_clash_68 : decode cX7_clash 68 = .ok (.iload 5, 2) := by decide +kernel
theorem dX7_clash_70 : decode cX7_clash 70 = .ok (.iload 6, 2) := by decide +kernel
theorem dX7_clash_72 : decode cX7_clash 72 = .ok (.invokevirtual 236, 3) := by decide +kernel
theorem dX7_clash_75 : decode cX7_clash 75 = .ok (.iinc 5 1, 3) := by decide +kernel
theorem dX7_clash_78 : decode cX7_clash 78 = .ok (.goto (-59), 3) := by decide +kernel
theorem dX7_clash_81 : decode cX7_clash 81 = .ok (.iconst (-1), 1) := by decide +kernel
theorem dX7_clash_82 : decode cX7_clash 82 = .ok (.ireturn, 1) := by decide +kernel
theorem dX7_example_0 : decode cX7_example 0 = .ok (.iload_n 1, 1) := by decide +kernel
theorem dX7_example_1 : decode cX7_example 1 = .ok (.iconst 0, 1) := by decide +kernel
theorem dX7_example_2 : decode cX7_example 2 = .ok (.sipush 9999, 3) := by decide +kernel
theorem dX7_example_5 : decode cX7_example 5 = .ok (.invokestatic 82, 3) := by decide +kernel
theorem dX7_example_8 : decode cX7_example 8 = .ok (.aload_n 0, 1) := by decide +kernel
theorem dX7_example_9 : decode cX7_example 9 = .ok (.getfield 52, 3) := by decide +kernel
theorem dX7_example_12 : decode cX7_example 12 = .ok (.bipush 20, 2) := by decide +kernel
theorem dX7_example_14 : decode cX7_example 14 = .ok (.if_icmp .ge 24, 3) := by decide +kernel
theorem dX7_example_17 : decode cX7_example 17 = .ok (.aload_n 0, 1) := by decide +kernel
theorem dX7_example_18 : decode cX7_example 18 = .ok (.getfield 22, 3) := by decide +kernel
theorem dX7_example_21 : decode cX7_example 21 = .ok (.getfield 180, 3) := by decide +kernel
theorem dX7_example_24 : decode cX7_example 24 = .ok (.ifCond .eq 14, 3) := by decide +kernel
theorem dX7_example_27 : decode cX7_example 27 = .ok (.aload_n 0, 1) := by decide +kernel
theorem dX7_example_28 : decode cX7_example 28 = .ok (.getfield 22, 3) := by decide +kernel
theorem dX7_example_31 : decode cX7_example 31 = .ok (.iconst (-1), 1) := by decide +kernel
theorem dX7_example_32 : decode cX7_example 32 = .ok (.invokevirtual 237, 3) := by decide +kernel
theorem dX7_example_35 : decode cX7_example 35 = .ok (.ifCond .eq 13, 3) := by decide +kernel
theorem dX7_example_38 : decode cX7_example 38 = .ok (.new 96, 3) := by decide +kernel
theorem dX7_example_41 : decode cX7_example 41 = .ok (.dup, 1) := by decide +kernel
theorem dX7_example_42 : decode cX7_example 42 = .ok (.ldc 240, 2) := by decide +kernel
theorem dX7_example_44 : decode cX7_example 44 = .ok (.invokespecial 100, 3) := by decide +kernel
theorem dX7_example_47 : decode cX7_example 47 = .ok (.athrow, 1) := by decide +kernel
theorem dX7_example_48 : decode cX7_example 48 = .ok (.aload_n 0, 1) := by decide +kernel
theorem dX7_example_49 : decode cX7_example 49 = .ok (.getfield 45, 3) := by decide +kernel
theorem dX7_example_52 : decode cX7_example 52 = .ok (.aload_n 0, 1) := by decide +kernel
theorem dX7_example_53 : decode cX7_example 53 = .ok (.getfield 52, 3) := by decide +kernel
theorem dX7_example_56 : decode cX7_example 56 = .ok (.iload_n 1, 1) := by decide +kernel
theorem dX7_example_57 : decode cX7_example 57 = .ok (.iastore, 1) := by decide +kernel
theorem dX7_example_58 : decode cX7_example 58 = .ok (.aload_n 0, 1) := by decide +kernel
theorem dX7_example_59 : decode cX7_example 59 = .ok (.getfield 48, 3) := by decide +kernel
theorem dX7_example_62 : decode cX7_example 62 = .ok (.aload_n 0, 1) := by decide +kernel
theorem dX7_example_63 : decode cX7_example 63 = .ok (.getfield 52, 3) := by decide +kernel
theorem dX7_example_66 : decode cX7_example 66 = .ok (.aaload, 1) := by decide +kernel
theorem dX7_example_67 : decode cX7_example 67 = .ok (.aload_n 0, 1) := by decide +kernel
theorem dX7_example_68 : decode cX7_example 68 = .ok (.getfield 22, 3) := by decide +kernel
theorem dX7_example_71 : decode cX7_example 71 = .ok (.invokevirtual 198, 3) := by decide +kernel
theorem dX7_example_74 : decode cX7_example 74 = .ok (.aload_n 0, 1) := by decide +kernel
theorem dX7_example_75 : decode cX7_example 75 = .ok (.dup, 1) := by decide +kernel
theorem dX7_example_76 : decode cX7_example 76 = .ok (.getfield 52, 3) := by decide +kernel
theorem dX7_example_79 : decode cX7_example 79 = .ok (.iconst 1, 1) := by decide +kernel
theorem dX7_example_80 : decode cX7_example 80 = .ok (.iadd, 1) := by decide +kernel
theorem dX7_example_81 : decode cX7_example 81 = .ok (.putfield 52, 3) := by decide +kernel
theorem dX7_example_84 : decode cX7_example 84 = .ok (.aload_n 0, 1) := by decide +kernel
theorem dX7_example_85 : decode cX7_example 85 = .ok (.getfield 52, 3) := by decide +kernel
theorem dX7_example_88 : decode cX7_example 88 = .ok (.ireturn, 1) := by decide +kernel
theorem dX7_dropExamples_0 : decode cX7_dropExamples 0 = .ok (.aload_n 0, 1) := by decide +kernel
theorem dX7_dropExamples_1 : decode cX7_dropExamples 1 = .ok (.getfield 52, 3) := by decide +kernel
theorem dX7_dropExamples_4 : decode cX7_dropExamples 4 = .ok (.istore_n 1, 1) := by decide +kernel
theorem dX7_dropExamples_5 : decode cX7_dropExamples 5 = .ok (.aload_n 0, 1) := by decide +kernel
theorem dX7_dropExamples_6 : decode cX7_dropExamples 6 = .ok (.iconst 0, 1) := by decide +kernel
theorem dX7_dropExamples_7 : decode cX7_dropExamples 7 = .ok (.putfield 52, 3) := by decide +kernel
theorem dX7_dropExamples_10 : decode cX7_dropExamples 10 = .ok (.iload_n 1, 1) := by decide +kernel
theorem dX7_dropExamples_11 : decode cX7_dropExamples 11 = .ok (.ireturn, 1) := by decide +kernel
theorem dX7_settings_0 : decode cX7_settings 0 = .ok (.aload_n 0, 1) := by decide +kernel
theorem dX7_settings_1 : decode cX7_settings 1 = .ok (.iload_n 1, 1) := by decide +kernel
theorem dX7_settings_2 : decode cX7_settings 2 = .ok (.invokevirtual 70, 3) := by decide +kernel
theorem dX7_settings_5 : decode cX7_settings 5 = .ok (.astore 4, 2) := by decide +kernel
theorem dX7_settings_7 : decode cX7_settings 7 = .ok (.aload 4, 2) := by decide +kernel
theorem dX7_settings_9 : decode cX7_settings 9 = .ok (.iload_n 2, 1) := by decide +kernel
theorem dX7_settings_10 : decode cX7_settings 10 = .ok (.invokestatic 123, 3) := by decide +kernel
theorem dX7_settings_13 : decode cX7_settings 13 = .ok (.astore 5, 2) := by decide +kernel
theorem dX7_settings_15 : decode cX7_settings 15 = .ok (.iload_n 3, 1) := by decide +kernel
theorem dX7_settings_16 : decode cX7_settings 16 = .ok (.invokestatic 78, 3) := by decide +kernel
theorem dX7_settings_19 : decode cX7_settings 19 = .ok (.aload_n 0, 1) := by decide +kernel
theorem dX7_settings_20 : decode cX7_settings 20 = .ok (.aload 4, 2) := by decide +kernel
theorem dX7_settings_22 : decode cX7_settings 22 = .ok (.aload 5, 2) := by decide +kernel
theorem dX7_settings_24 : decode cX7_settings 24 = .ok (.iload_n 3, 1) := by decide +kernel
theorem dX7_settings_25 : decode cX7_settings 25 = .ok (.invokevirtual 242, 3) := by decide +kernel
theorem dX7_settings_28 : decode cX7_settings 28 = .ok (.ireturn, 1) := by decide +kernel
theorem dX7_learn_0 : decode cX7_learn 0 = .ok (.aload_n 0, 1) := by decide +kernel
theorem dX7_learn_1 : decode cX7_learn 1 = .ok (.iload_n 1, 1) := by decide +kernel
theorem dX7_learn_2 : decode cX7_learn 2 = .ok (.invokevirtual 70, 3) := by decide +kernel
theorem dX7_learn_5 : decode cX7_learn 5 = .ok (.astore 4, 2) := by decide +kernel
theorem dX7_learn_7 : decode cX7_learn 7 = .ok (.aload 4, 2) := by decide +kernel
theorem dX7_learn_9 : decode cX7_learn 9 = .ok (.iload_n 2, 1) := by decide +kernel
theorem dX7_learn_10 : decode cX7_learn 10 = .ok (.invokestatic 123, 3) := by decide +kernel
theorem dX7_learn_13 : decode cX7_learn 13 = .ok (.astore 5, 2) := by decide +kernel
theorem dX7_learn_15 : decode cX7_learn 15 = .ok (.iload_n 3, 1) := by decide +kernel
theorem dX7_learn_16 : decode cX7_learn 16 = .ok (.invokestatic 78, 3) := by decide +kernel
theorem dX7_learn_19 : decode cX7_learn 19 = .ok (.aload_n 0, 1) := by decide +kernel
theorem dX7_learn_20 : decode cX7_learn 20 = .ok (.aload 4, 2) := by decide +kernel
theorem dX7_learn_22 : decode cX7_learn 22 = .ok (.aload 5, 2) := by decide +kernel
theorem dX7_learn_24 : decode cX7_learn 24 = .ok (.iload_n 3, 1) := by decide +kernel
theorem dX7_learn_25 : decode cX7_learn 25 = .ok (.invokevirtual 242, 3) := by decide +kernel
theorem dX7_learn_28 : decode cX7_learn 28 = .ok (.ifCond .ne 13, 3) := by decide +kernel
theorem dX7_learn_31 : decode cX7_learn 31 = .ok (.new 96, 3) := by decide +kernel
theorem dX7_learn_34 : decode cX7_learn 34 = .ok (.dup, 1) := by decide +kernel
theorem dX7_learn_35 : decode cX7_learn 35 = .ok (.ldc 246, 2) := by decide +kernel
theorem dX7_learn_37 : decode cX7_learn 37 = .ok (.invokespecial 100, 3) := by decide +kernel
theorem dX7_learn_40 : decode cX7_learn 40 = .ok (.athrow, 1) := by decide +kernel
theorem dX7_learn_41 : decode cX7_learn 41 = .ok (.aload_n 0, 1) := by decide +kernel
theorem dX7_learn_42 : decode cX7_learn 42 = .ok (.getfield 56, 3) := by decide +kernel
theorem dX7_learn_45 : decode cX7_learn 45 = .ok (.iconst 0, 1) := by decide +kernel
theorem dX7_learn_46 : decode cX7_learn 46 = .ok (.iaload, 1) := by decide +kernel
theorem dX7_learn_47 : decode cX7_learn 47 = .ok (.istore 6, 2) := by decide +kernel
theorem dX7_learn_49 : decode cX7_learn 49 = .ok (.aload 5, 2) := by decide +kernel
theorem dX7_learn_51 : decode cX7_learn 51 = .ok (.iload 6, 2) := by decide +kernel
theorem dX7_learn_53 : decode cX7_learn 53 = .ok (.iload_n 3, 1) := by decide +kernel
theorem dX7_learn_54 : decode cX7_learn 54 = .ok (.invokevirtual 248, 3) := by decide +kernel
theorem dX7_learn_57 : decode cX7_learn 57 = .ok (.iload 6, 2) := by decide +kernel
theorem dX7_learn_59 : decode cX7_learn 59 = .ok (.ireturn, 1) := by decide +kernel
theorem dX7_askNumber_0 : decode cX7_askNumber 0 = .ok (.aload_n 0, 1) := by decide +kernel
theorem dX7_askNumber_1 : decode cX7_askNumber 1 = .ok (.iload_n 1, 1) := by decide +kernel
theorem dX7_askNumber_2 : decode cX7_askNumber 2 = .ok (.invokevirtual 70, 3) := by decide +kernel
theorem dX7_askNumber_5 : decode cX7_askNumber 5 = .ok (.astore 5, 2) := by decide +kernel
theorem dX7_askNumber_7 : decode cX7_askNumber 7 = .ok (.aload 5, 2) := by decide +kernel
theorem dX7_askNumber_9 : decode cX7_askNumber 9 = .ok (.iload_n 2, 1) := by decide +kernel
theorem dX7_askNumber_10 : decode cX7_askNumber 10 = .ok (.invokestatic 123, 3) := by decide +kernel
theorem dX7_askNumber_13 : decode cX7_askNumber 13 = .ok (.astore 6, 2) := by decide +kernel
theorem dX7_askNumber_15 : decode cX7_askNumber 15 = .ok (.iload_n 3, 1) := by decide +kernel
theorem dX7_askNumber_16 : decode cX7_askNumber 16 = .ok (.invokestatic 78, 3) := by decide +kernel
theorem dX7_askNumber_19 : decode cX7_askNumber 19 = .ok (.iload 4, 2) := by decide +kernel
theorem dX7_askNumber_21 : decode cX7_askNumber 21 = .ok (.iconst 0, 1) := by decide +kernel
theorem dX7_askNumber_22 : decode cX7_askNumber 22 = .ok (.bipush 99, 2) := by decide +kernel
theorem dX7_askNumber_24 : decode cX7_askNumber 24 = .ok (.invokestatic 82, 3) := by decide +kernel
theorem dX7_askNumber_27 : decode cX7_askNumber 27 = .ok (.aload_n 0, 1) := by decide +kernel
theorem dX7_askNumber_28 : decode cX7_askNumber 28 = .ok (.aload 5, 2) := by decide +kernel
theorem dX7_askNumber_30 : decode cX7_askNumber 30 = .ok (.aload 6, 2) := by decide +kernel
theorem dX7_askNumber_32 : decode cX7_askNumber 32 = .ok (.iload_n 3, 1) := by decide +kernel
theorem dX7_askNumber_33 : decode cX7_askNumber 33 = .ok (.invokevirtual 242, 3) := by decide +kernel
theorem dX7_askNumber_36 : decode cX7_askNumber 36 = .ok (.istore 7, 2) := by decide +kernel
theorem dX7_askNumber_38 : decode cX7_askNumber 38 = .ok (.iconst (-1), 1) := by decide +kernel
theorem dX7_askNumber_39 : decode cX7_askNumber 39 = .ok (.istore 8, 2) := by decide +kernel
theorem dX7_askNumber_41 : decode cX7_askNumber 41 = .ok (.iload 7, 2) := by decide +kernel
theorem dX7_askNumber_43 : decode cX7_askNumber 43 = .ok (.istore 9, 2) := by decide +kernel
theorem dX7_askNumber_45 : decode cX7_askNumber 45 = .ok (.iconst 0, 1) := by decide +kernel
theorem dX7_askNumber_46 : decode cX7_askNumber 46 = .ok (.istore 10, 2) := by decide +kernel
theorem dX7_askNumber_48 : decode cX7_askNumber 48 = .ok (.iload 10, 2) := by decide +kernel
theorem dX7_askNumber_50 : decode cX7_askNumber 50 = .ok (.iload 4, 2) := by decide +kernel
theorem dX7_askNumber_52 : decode cX7_askNumber 52 = .ok (.if_icmp .gt 45, 3) := by decide +kernel
theorem dX7_askNumber_55 : decode cX7_askNumber 55 = .ok (.aload_n 0, 1) := by decide +kernel
theorem dX7_askNumber_56 : decode cX7_askNumber 56 = .ok (.aload 5, 2) := by decide +kernel
theorem dX7_askNumber_58 : decode cX7_askNumber 58 = .ok (.aload 6, 2) := by decide +kernel
theorem dX7_askNumber_60 : decode cX7_askNumber 60 = .ok (.iload_n 3, 1) := by decide +kernel
theorem dX7_askNumber_61 : decode cX7_askNumber 61 = .ok (.iload 10, 2) := by decide +kernel
theorem dX7_askNumber_63 : decode cX7_askNumber 63 = .ok (.iload 7, 2) := by decide +kernel
theorem dX7_askNumber_65 : decode cX7_askNumber 65 = .ok (.invokevirtual 251, 3) := by decide +kernel
theorem dX7_askNumber_68 : decode cX7_askNumber 68 = .ok (.aload_n 0, 1) := by decide +kernel
theorem dX7_askNumber_69 : decode cX7_askNumber 69 = .ok (.iload 7, 2) := by decide +kernel
theorem dX7_askNumber_71 : decode cX7_askNumber 71 = .ok (.invokevirtual 255, 3) := by decide +kernel
theorem dX7_askNumber_74 : decode cX7_askNumber 74 = .ok (.istore 11, 2) := by decide +kernel
theorem dX7_askNumber_76 : decode cX7_askNumber 76 = .ok (.iload 11, 2) := by decide +kernel
theorem dX7_askNumber_78 : decode cX7_askNumber 78 = .ok (.iload 9, 2) := by decide +kernel
theorem dX7_askNumber_80 : decode cX7_askNumber 80 = .ok (.if_icmp .ge 11, 3) := by decide +kernel
theorem dX7_askNumber_83 : decode cX7_askNumber 83 = .ok (.iload 11, 2) := by decide +kernel
theorem dX7_askNumber_85 : decode cX7_askNumber 85 = .ok (.istore 9, 2) := by decide +kernel
theorem dX7_askNumber_87 : decode cX7_askNumber 87 = .ok (.iload 10, 2) := by decide +kernel
theorem dX7_askNumber_89 : decode cX7_askNumber 89 = .ok (.istore 8, 2) := by decide +kernel
theorem dX7_askNumber_91 : decode cX7_askNumber 91 = .ok (.iinc 10 1, 3) := by decide +kernel
theorem dX7_askNumber_94 : decode cX7_askNumber 94 = .ok (.goto (-46), 3) := by decide +kernel
theorem dX7_askNumber_97 : decode cX7_askNumber 97 = .ok (.iload 8, 2) := by decide +kernel
theorem dX7_askNumber_99 : decode cX7_askNumber 99 = .ok (.ireturn, 1) := by decide +kernel
theorem dX7_baseTold_0 : decode cX7_baseTold 0 = .ok (.aload_n 0, 1) := by decide +kernel
theorem dX7_baseTold_1 : decode cX7_baseTold 1 = .ok (.iload_n 1, 1) := by decide +kernel
theorem dX7_baseTold_2 : decode cX7_baseTold 2 = .ok (.invokevirtual 70, 3) := by decide +kernel
theorem dX7_baseTold_5 : decode cX7_baseTold 5 = .ok (.iload_n 2, 1) := by decide +kernel
theorem dX7_baseTold_6 : decode cX7_baseTold 6 = .ok (.invokestatic 123, 3) := by decide +kernel
theorem dX7_baseTold_9 : decode cX7_baseTold 9 = .ok (.astore 4, 2) := by decide +kernel
theorem dX7_baseTold_11 : decode cX7_baseTold 11 = .ok (.iload_n 3, 1) := by decide +kernel
theorem dX7_baseTold_12 : decode cX7_baseTold 12 = .ok (.tableswitch 86 0 6 #[44, 50, 56, 62, 68, 74, 80], 44) := by decide +kernel
theorem dX7_baseTold_56 : decode cX7_baseTold 56 = .ok (.aload 4, 2) := by decide +kernel
theorem dX7_baseTold_58 : decode cX7_baseTold 58 = .ok (.getfield 258, 3) := by decide +kernel
theorem dX7_baseTold_61 : decode cX7_baseTold 61 = .ok (.ireturn, 1) := by decide +kernel
theorem dX7_baseTold_62 : decode cX7_baseTold 62 = .ok (.aload 4, 2) := by decide +kernel
theorem dX7_baseTold_64 : decode cX7_baseTold 64 = .ok (.getfield 261, 3) := by decide +kernel
theorem dX7_baseTold_67 : decode cX7_baseTold 67 = .ok (.ireturn, 1) := by decide +kernel
theorem dX7_baseTold_68 : decode cX7_baseTold 68 = .ok (.aload 4, 2) := by decide +kernel
theorem dX7_baseTold_70 : decode cX7_baseTold 70 = .ok (.getfield 264, 3) := by decide +kernel
theorem dX7_baseTold_73 : decode cX7_baseTold 73 = .ok (.ireturn, 1) := by decide +kernel
theorem dX7_baseTold_74 : decode cX7_baseTold 74 = .ok (.aload 4, 2) := by decide +kernel
theorem dX7_baseTold_76 : decode cX7_baseTold 76 = .ok (.getfield 267, 3) := by decide +kernel
theorem dX7_baseTold_79 : decode cX7_baseTold 79 = .ok (.ireturn, 1) := by decide +kernel
theorem dX7_baseTold_80 : decode cX7_baseTold 80 = .ok (.aload 4, 2) := by decide +kernel
theorem dX7_baseTold_82 : decode cX7_baseTold 82 = .ok (.getfield 130, 3) := by decide +kernel
theorem dX7_baseTold_85 : decode cX7_baseTold 85 = .ok (.ireturn, 1) := by decide +kernel
theorem dX7_baseTold_86 : decode cX7_baseTold 86 = .ok (.aload 4, 2) := by decide +kernel
theorem dX7_baseTold_88 : decode cX7_baseTold 88 = .ok (.getfield 135, 3) := by decide +kernel
theorem dX7_baseTold_91 : decode cX7_baseTold 91 = .ok (.ireturn, 1) := by decide +kernel
theorem dX7_baseTold_92 : decode cX7_baseTold 92 = .ok (.aload 4, 2) := by decide +kernel
theorem dX7_baseTold_94 : decode cX7_baseTold 94 = .ok (.getfield 138, 3) := by decide +kernel
theorem dX7_baseTold_97 : decode cX7_baseTold 97 = .ok (.ireturn, 1) := by decide +kernel
theorem dX7_baseTold_98 : decode cX7_baseTold 98 = .ok (.new 211, 3) := by decide +kernel
theorem dX7_baseTold_101 : decode cX7_baseTold 101 = .ok (.dup, 1) := by decide +kernel
theorem dX7_baseTold_102 : decode cX7_baseTold 102 = .ok (.ldc_w 270, 3) := by decide +kernel
theorem dX7_baseTold_105 : decode cX7_baseTold 105 = .ok (.invokespecial 215, 3) := by decide +kernel
theorem dX7_baseTold_108 : decode cX7_baseTold 108 = .ok (.athrow, 1) := by decide +kernel
theorem dX7_cord_0 : decode cX7_cord 0 = .ok (.iload_n 1, 1) := by decide +kernel
theorem dX7_cord_1 : decode cX7_cord 1 = .ok (.invokestatic 275, 3) := by decide +kernel
theorem dX7_cord_4 : decode cX7_cord 4 = .ok (.iload_n 2, 1) := by decide +kernel
theorem dX7_cord_5 : decode cX7_cord 5 = .ok (.iconst 2, 1) := by decide +kernel
theorem dX7_cord_6 : decode cX7_cord 6 = .ok (.bipush 60, 2) := by decide +kernel
theorem dX7_cord_8 : decode cX7_cord 8 = .ok (.invokestatic 82, 3) := by decide +kernel
theorem dX7_cord_11 : decode cX7_cord 11 = .ok (.aload_n 0, 1) := by decide +kernel
theorem dX7_cord_12 : decode cX7_cord 12 = .ok (.getfield 65, 3) := by decide +kernel
theorem dX7_cord_15 : decode cX7_cord 15 = .ok (.getfield 278, 3) := by decide +kernel
theorem dX7_cord_18 : decode cX7_cord 18 = .ok (.iload_n 1, 1) := by decide +kernel
theorem dX7_cord_19 : decode cX7_cord 19 = .ok (.iaload, 1) := by decide +kernel
theorem dX7_cord_20 : decode cX7_cord 20 = .ok (.istore_n 3, 1) := by decide +kernel
theorem dX7_cord_21 : decode cX7_cord 21 = .ok (.aload_n 0, 1) := by decide +kernel
theorem dX7_cord_22 : decode cX7_cord 22 = .ok (.getfield 65, 3) := by decide +kernel
theorem dX7_cord_25 : decode cX7_cord 25 = .ok (.getfield 278, 3) := by decide +kernel
theorem dX7_cord_28 : decode cX7_cord 28 = .ok (.iload_n 1, 1) := by decide +kernel
theorem dX7_cord_29 : decode cX7_cord 29 = .ok (.iload_n 2, 1) := by decide +kernel
theorem dX7_cord_30 : decode cX7_cord 30 = .ok (.iastore, 1) := by decide +kernel
theorem dX7_cord_31 : decode cX7_cord 31 = .ok (.aload_n 0, 1) := by decide +kernel
theorem dX7_cord_32 : decode cX7_cord 32 = .ok (.getfield 65, 3) := by decide +kernel
theorem dX7_cord_35 : decode cX7_cord 35 = .ok (.invokevirtual 281, 3) := by decide +kernel
theorem dX7_cord_38 : decode cX7_cord 38 = .ok (.iload_n 3, 1) := by decide +kernel
theorem dX7_cord_39 : decode cX7_cord 39 = .ok (.ireturn, 1) := by decide +kernel
theorem dX7_count_0 : decode cX7_count 0 = .ok (.aload_n 0, 1) := by decide +kernel
theorem dX7_count_1 : decode cX7_count 1 = .ok (.getfield 65, 3) := by decide +kernel
theorem dX7_count_4 : decode cX7_count 4 = .ok (.lload_n 1, 1) := by decide +kernel
theorem dX7_count_5 : decode cX7_count 5 = .ok (.invokevirtual 282, 3) := by decide +kernel
theorem dX7_count_8 : decode cX7_count 8 = .ok (.lreturn, 1) := by decide +kernel
theorem dX7_knots_0 : decode cX7_knots 0 = .ok (.iload_n 1, 1) := by decide +kernel
theorem dX7_knots_1 : decode cX7_knots 1 = .ok (.invokestatic 275, 3) := by decide +kernel
theorem dX7_knots_4 : decode cX7_knots 4 = .ok (.aload_n 0, 1) := by decide +kernel
theorem dX7_knots_5 : decode cX7_knots 5 = .ok (.getfield 65, 3) := by decide +kernel
theorem dX7_knots_8 : decode cX7_knots 8 = .ok (.getfield 285, 3) := by decide +kernel
theorem dX7_knots_11 : decode cX7_knots 11 = .ok (.iload_n 1, 1) := by decide +kernel
theorem dX7_knots_12 : decode cX7_knots 12 = .ok (.iaload, 1) := by decide +kernel
theorem dX7_knots_13 : decode cX7_knots 13 = .ok (.ireturn, 1) := by decide +kernel
theorem dX7_lost_0 : decode cX7_lost 0 = .ok (.aload_n 0, 1) := by decide +kernel
theorem dX7_lost_1 : decode cX7_lost 1 = .ok (.getfield 65, 3) := by decide +kernel
theorem dX7_lost_4 : decode cX7_lost 4 = .ok (.getfield 288, 3) := by decide +kernel
theorem dX7_lost_7 : decode cX7_lost 7 = .ok (.lreturn, 1) := by decide +kernel
theorem dX7_shown_0 : decode cX7_shown 0 = .ok (.aload_n 0, 1) := by decide +kernel
theorem dX7_shown_1 : decode cX7_shown 1 = .ok (.getfield 65, 3) := by decide +kernel
theorem dX7_shown_4 : decode cX7_shown 4 = .ok (.invokevirtual 292, 3) := by decide +kernel
theorem dX7_shown_7 : decode cX7_shown 7 = .ok (.lreturn, 1) := by decide +kernel
theorem dX7_grammarAt_0 : decode cX7_grammarAt 0 = .ok (.iload_n 1, 1) := by decide +kernel
theorem dX7_grammarAt_1 : decode cX7_grammarAt 1 = .ok (.ifCond .lt 8, 3) := by decide +kernel
theorem dX7_grammarAt_4 : decode cX7_grammarAt 4 = .ok (.iload_n 1, 1) := by decide +kernel
theorem dX7_grammarAt_5 : decode cX7_grammarAt 5 = .ok (.iconst 4, 1) := by decide +kernel
theorem dX7_grammarAt_6 : decode cX7_grammarAt 6 = .ok (.if_icmp .lt 14, 3) := by decide +kernel
theorem dX7_grammarAt_9 : decode cX7_grammarAt 9 = .ok (.new 185, 3) := by decide +kernel
theorem dX7_grammarAt_12 : decode cX7_grammarAt 12 = .ok (.dup, 1) := by decide +kernel
theorem dX7_grammarAt_13 : decode cX7_grammarAt 13 = .ok (.ldc_w 296, 3) := by decide +kernel
theorem dX7_grammarAt_16 : decode cX7_grammarAt 16 = .ok (.invokespecial 189, 3) := by decide +kernel
theorem dX7_grammarAt_19 : decode cX7_grammarAt 19 = .ok (.athrow, 1) := by decide +kernel
theorem dX7_grammarAt_20 : decode cX7_grammarAt 20 = .ok (.aload_n 0, 1) := by decide +kernel
theorem dX7_grammarAt_21 : decode cX7_grammarAt 21 = .ok (.getfield 11, 3) := by decide +kernel
theorem dX7_grammarAt_24 : decode cX7_grammarAt 24 = .ok (.iload_n 1, 1) := by decide +kernel
theorem dX7_grammarAt_25 : decode cX7_grammarAt 25 = .ok (.aaload, 1) := by decide +kernel
theorem dX7_grammarAt_26 : decode cX7_grammarAt 26 = .ok (.areturn, 1) := by decide +kernel
theorem dX7_grammarToHear_0 : decode cX7_grammarToHear 0 = .ok (.aload_n 0, 1) := by decide +kernel
theorem dX7_grammarToHear_1 : decode cX7_grammarToHear 1 = .ok (.iload_n 1, 1) := by decide +kernel
theorem dX7_grammarToHear_2 : decode cX7_grammarToHear 2 = .ok (.invokevirtual 70, 3) := by decide +kernel
theorem dX7_grammarToHear_5 : decode cX7_grammarToHear 5 = .ok (.astore 4, 2) := by decide +kernel
theorem dX7_grammarToHear_7 : decode cX7_grammarToHear 7 = .ok (.iload_n 2, 1) := by decide +kernel
theorem dX7_grammarToHear_8 : decode cX7_grammarToHear 8 = .ok (.invokestatic 173, 3) := by decide +kernel
theorem dX7_grammarToHear_11 : decode cX7_grammarToHear 11 = .ok (.iload_n 3, 1) := by decide +kernel
theorem dX7_grammarToHear_12 : decode cX7_grammarToHear 12 = .ok (.iconst 0, 1) := by decide +kernel
theorem dX7_grammarToHear_13 : decode cX7_grammarToHear 13 = .ok (.sipush 999, 3) := by decide +kernel
theorem dX7_grammarToHear_16 : decode cX7_grammarToHear 16 = .ok (.invokestatic 82, 3) := by decide +kernel
theorem dX7_grammarToHear_19 : decode cX7_grammarToHear 19 = .ok (.aload 4, 2) := by decide +kernel
theorem dX7_grammarToHear_21 : decode cX7_grammarToHear 21 = .ok (.areturn, 1) := by decide +kernel
theorem dX7_baseAt_0 : decode cX7_baseAt 0 = .ok (.iload_n 1, 1) := by decide +kernel
theorem dX7_baseAt_1 : decode cX7_baseAt 1 = .ok (.ifCond .lt 11, 3) := by decide +kernel
theorem dX7_baseAt_4 : decode cX7_baseAt 4 = .ok (.iload_n 1, 1) := by decide +kernel
theorem dX7_baseAt_5 : decode cX7_baseAt 5 = .ok (.aload_n 0, 1) := by decide +kernel
theorem dX7_baseAt_6 : decode cX7_baseAt 6 = .ok (.getfield 110, 3) := by decide +kernel
theorem dX7_baseAt_9 : decode cX7_baseAt 9 = .ok (.if_icmp .lt 14, 3) := by decide +kernel
theorem dX7_baseAt_12 : decode cX7_baseAt 12 = .ok (.new 185, 3) := by decide +kernel
theorem dX7_baseAt_15 : decode cX7_baseAt 15 = .ok (.dup, 1) := by decide +kernel
theorem dX7_baseAt_16 : decode cX7_baseAt 16 = .ok (.ldc_w 298, 3) := by decide +kernel
theorem dX7_baseAt_19 : decode cX7_baseAt 19 = .ok (.invokespecial 189, 3) := by decide +kernel
theorem dX7_baseAt_22 : decode cX7_baseAt 22 = .ok (.athrow, 1) := by decide +kernel
theorem dX7_baseAt_23 : decode cX7_baseAt 23 = .ok (.aload_n 0, 1) := by decide +kernel
theorem dX7_baseAt_24 : decode cX7_baseAt 24 = .ok (.getfield 300, 3) := by decide +kernel
theorem dX7_baseAt_27 : decode cX7_baseAt 27 = .ok (.iload_n 1, 1) := by decide +kernel
theorem dX7_baseAt_28 : decode cX7_baseAt 28 = .ok (.aaload, 1) := by decide +kernel
theorem dX7_baseAt_29 : decode cX7_baseAt 29 = .ok (.areturn, 1) := by decide +kernel
theorem dX7_needWord_0 : decode cX7_needWord 0 = .ok (.iload_n 0, 1) := by decide +kernel
theorem dX7_needWord_1 : decode cX7_needWord 1 = .ok (.ifCond .lt 10, 3) := by decide +kernel
theorem dX7_needWord_4 : decode cX7_needWord 4 = .ok (.iload_n 0, 1) := by decide +kernel
theorem dX7_needWord_5 : decode cX7_needWord 5 = .ok (.sipush 200, 3) := by decide +kernel
theorem dX7_needWord_8 : decode cX7_needWord 8 = .ok (.if_icmp .lt 14, 3) := by decide +kernel
theorem dX7_needWord_11 : decode cX7_needWord 11 = .ok (.new 185, 3) := by decide +kernel
theorem dX7_needWord_14 : decode cX7_needWord 14 = .ok (.dup, 1) := by decide +kernel
theorem dX7_needWord_15 : decode cX7_needWord 15 = .ok (.ldc_w 303, 3) := by decide +kernel
theorem dX7_needWord_18 : decode cX7_needWord 18 = .ok (.invokespecial 189, 3) := by decide +kernel
theorem dX7_needWord_21 : decode cX7_needWord 21 = .ok (.athrow, 1) := by decide +kernel
theorem dX7_needWord_22 : decode cX7_needWord 22 = .ok (.return_, 1) := by decide +kernel
theorem dX7_needWordOrNone_0 : decode cX7_needWordOrNone 0 = .ok (.iload_n 0, 1) := by decide +kernel
theorem dX7_needWordOrNone_1 : decode cX7_needWordOrNone 1 = .ok (.iconst (-1), 1) := by decide +kernel
theorem dX7_needWordOrNone_2 : decode cX7_needWordOrNone 2 = .ok (.if_icmp .eq 7, 3) := by decide +kernel
theorem dX7_needWordOrNone_5 : decode cX7_needWordOrNone 5 = .ok (.iload_n 0, 1) := by decide +kernel
theorem dX7_needWordOrNone_6 : decode cX7_needWordOrNone 6 = .ok (.invokestatic 78, 3) := by decide +kernel
theorem dX7_needWordOrNone_9 : decode cX7_needWordOrNone 9 = .ok (.return_, 1) := by decide +kernel
theorem dX7_needClass_0 : decode cX7_needClass 0 = .ok (.iload_n 0, 1) := by decide +kernel
theorem dX7_needClass_1 : decode cX7_needClass 1 = .ok (.ifCond .lt 8, 3) := by decide +kernel
theorem dX7_needClass_4 : decode cX7_needClass 4 = .ok (.iload_n 0, 1) := by decide +kernel
theorem dX7_needClass_5 : decode cX7_needClass 5 = .ok (.iconst 3, 1) := by decide +kernel
theorem dX7_needClass_6 : decode cX7_needClass 6 = .ok (.if_icmp .lt 14, 3) := by decide +kernel
theorem dX7_needClass_9 : decode cX7_needClass 9 = .ok (.new 185, 3) := by decide +kernel
theorem dX7_needClass_12 : decode cX7_needClass 12 = .ok (.dup, 1) := by decide +kernel
theorem dX7_needClass_13 : decode cX7_needClass 13 = .ok (.ldc_w 305, 3) := by decide +kernel
theorem dX7_needClass_16 : decode cX7_needClass 16 = .ok (.invokespecial 189, 3) := by decide +kernel
theorem dX7_needClass_19 : decode cX7_needClass 19 = .ok (.athrow, 1) := by decide +kernel
theorem dX7_needClass_20 : decode cX7_needClass 20 = .ok (.return_, 1) := by decide +kernel
theorem dX7_needCord_0 : decode cX7_needCord 0 = .ok (.iload_n 0, 1) := by decide +kernel
theorem dX7_needCord_1 : decode cX7_needCord 1 = .ok (.ifCond .lt 9, 3) := by decide +kernel
theorem dX7_needCord_4 : decode cX7_needCord 4 = .ok (.iload_n 0, 1) := by decide +kernel
theorem dX7_needCord_5 : decode cX7_needCord 5 = .ok (.bipush 6, 2) := by decide +kernel
theorem dX7_needCord_7 : decode cX7_needCord 7 = .ok (.if_icmp .lt 14, 3) := by decide +kernel
theorem dX7_needCord_10 : decode cX7_needCord 10 = .ok (.new 185, 3) := by decide +kernel
theorem dX7_needCord_13 : decode cX7_needCord 13 = .ok (.dup, 1) := by decide +kernel
theorem dX7_needCord_14 : decode cX7_needCord 14 = .ok (.ldc_w 307, 3) := by decide +kernel
theorem dX7_needCord_17 : decode cX7_needCord 17 = .ok (.invokespecial 189, 3) := by decide +kernel
theorem dX7_needCord_20 : decode cX7_needCord 20 = .ok (.athrow, 1) := by decide +kernel
theorem dX7_needCord_21 : decode cX7_needCord 21 = .ok (.return_, 1) := by decide +kernel
theorem dX7_needRange_0 : decode cX7_needRange 0 = .ok (.iload_n 0, 1) := by decide +kernel
theorem dX7_needRange_1 : decode cX7_needRange 1 = .ok (.iload_n 1, 1) := by decide +kernel
theorem dX7_needRange_2 : decode cX7_needRange 2 = .ok (.if_icmp .lt 8, 3) := by decide +kernel
theorem dX7_needRange_5 : decode cX7_needRange 5 = .ok (.iload_n 0, 1) := by decide +kernel
theorem dX7_needRange_6 : decode cX7_needRange 6 = .ok (.iload_n 2, 1) := by decide +kernel
theorem dX7_needRange_7 : decode cX7_needRange 7 = .ok (.if_icmp .le 14, 3) := by decide +kernel
theorem dX7_needRange_10 : decode cX7_needRange 10 = .ok (.new 211, 3) := by decide +kernel
theorem dX7_needRange_13 : decode cX7_needRange 13 = .ok (.dup, 1) := by decide +kernel
theorem dX7_needRange_14 : decode cX7_needRange 14 = .ok (.ldc_w 309, 3) := by decide +kernel
theorem dX7_needRange_17 : decode cX7_needRange 17 = .ok (.invokespecial 215, 3) := by decide +kernel
theorem dX7_needRange_20 : decode cX7_needRange 20 = .ok (.athrow, 1) := by decide +kernel
theorem dX7_needRange_21 : decode cX7_needRange 21 = .ok (.return_, 1) := by decide +kernel
theorem dX7_isHeard_0 : decode cX7_isHeard 0 = .ok (.aload_n 1, 1) := by decide +kernel
theorem dX7_isHeard_1 : decode cX7_isHeard 1 = .ok (.iload_n 2, 1) := by decide +kernel
theorem dX7_isHeard_2 : decode cX7_isHeard 2 = .ok (.iload_n 3, 1) := by decide +kernel
theorem dX7_isHeard_3 : decode cX7_isHeard 3 = .ok (.aload_n 0, 1) := by decide +kernel
theorem dX7_isHeard_4 : decode cX7_isHeard 4 = .ok (.getfield 25, 3) := by decide +kernel
theorem dX7_isHeard_7 : decode cX7_isHeard 7 = .ok (.invokevirtual 176, 3) := by decide +kernel
theorem dX7_isHeard_10 : decode cX7_isHeard 10 = .ok (.ifCond .eq 21, 3) := by decide +kernel
theorem dX7_isHeard_13 : decode cX7_isHeard 13 = .ok (.aload_n 0, 1) := by decide +kernel
theorem dX7_isHeard_14 : decode cX7_isHeard 14 = .ok (.getfield 25, 3) := by decide +kernel
theorem dX7_isHeard_17 : decode cX7_isHeard 17 = .ok (.aload_n 0, 1) := by decide +kernel
theorem dX7_isHeard_18 : decode cX7_isHeard 18 = .ok (.getfield 22, 3) := by decide +kernel
theorem dX7_isHeard_21 : decode cX7_isHeard 21 = .ok (.invokevirtual 311, 3) := by decide +kernel
theorem dX7_isHeard_24 : decode cX7_isHeard 24 = .ok (.ifCond .eq 7, 3) := by decide +kernel
theorem dX7_isHeard_27 : decode cX7_isHeard 27 = .ok (.iconst 1, 1) := by decide +kernel
theorem dX7_isHeard_28 : decode cX7_isHeard 28 = .ok (.goto 4, 3) := by decide +kernel
theorem dX7_isHeard_31 : decode cX7_isHeard 31 = .ok (.iconst 0, 1) := by decide +kernel
theorem dX7_isHeard_32 : decode cX7_isHeard 32 = .ok (.ireturn, 1) := by decide +kernel
theorem dX7_tallySpoken_0 : decode cX7_tallySpoken 0 = .ok (.iconst 0, 1) := by decide +kernel
theorem dX7_tallySpoken_1 : decode cX7_tallySpoken 1 = .ok (.istore_n 1, 1) := by decide +kernel
theorem dX7_tallySpoken_2 : decode cX7_tallySpoken 2 = .ok (.iload_n 1, 1) := by decide +kernel
theorem dX7_tallySpoken_3 : decode cX7_tallySpoken 3 = .ok (.aload_n 0, 1) := by decide +kernel
theorem dX7_tallySpoken_4 : decode cX7_tallySpoken 4 = .ok (.getfield 22, 3) := by decide +kernel
theorem dX7_tallySpoken_7 : decode cX7_tallySpoken 7 = .ok (.getfield 180, 3) := by decide +kernel
theorem dX7_tallySpoken_10 : decode cX7_tallySpoken 10 = .ok (.if_icmp .ge 80, 3) := by decide +kernel
theorem dX7_tallySpoken_13 : decode cX7_tallySpoken 13 = .ok (.aload_n 0, 1) := by decide +kernel
theorem dX7_tallySpoken_14 : decode cX7_tallySpoken 14 = .ok (.getfield 25, 3) := by decide +kernel
theorem dX7_tallySpoken_17 : decode cX7_tallySpoken 17 = .ok (.iload_n 1, 1) := by decide +kernel
theorem dX7_tallySpoken_18 : decode cX7_tallySpoken 18 = .ok (.invokevirtual 190, 3) := by decide +kernel
theorem dX7_tallySpoken_21 : decode cX7_tallySpoken 21 = .ok (.istore_n 2, 1) := by decide +kernel
theorem dX7_tallySpoken_22 : decode cX7_tallySpoken 22 = .ok (.iload_n 2, 1) := by decide +kernel
theorem dX7_tallySpoken_23 : decode cX7_tallySpoken 23 = .ok (.ifCond .lt 61, 3) := by decide +kernel
theorem dX7_tallySpoken_26 : decode cX7_tallySpoken 26 = .ok (.iload_n 2, 1) := by decide +kernel
theorem dX7_tallySpoken_27 : decode cX7_tallySpoken 27 = .ok (.sipush 200, 3) := by decide +kernel
theorem dX7_tallySpoken_30 : decode cX7_tallySpoken 30 = .ok (.if_icmp .ge 54, 3) := by decide +kernel
theorem dX7_tallySpoken_33 : decode cX7_tallySpoken 33 = .ok (.aload_n 0, 1) := by decide +kernel
theorem dX7_tallySpoken_34 : decode cX7_tallySpoken 34 = .ok (.getfield 22, 3) := by decide +kernel
theorem dX7_tallySpoken_37 : decode cX7_tallySpoken 37 = .ok (.iload_n 1, 1) := by decide +kernel
theorem dX7_tallySpoken_38 : decode cX7_tallySpoken 38 = .ok (.invokevirtual 190, 3) := by decide +kernel
theorem dX7_tallySpoken_41 : decode cX7_tallySpoken 41 = .ok (.iconst (-1), 1) := by decide +kernel
theorem dX7_tallySpoken_42 : decode cX7_tallySpoken 42 = .ok (.if_icmp .ne 42, 3) := by decide +kernel
theorem dX7_tallySpoken_45 : decode cX7_tallySpoken 45 = .ok (.iload_n 1, 1) := by decide +kernel
theorem dX7_tallySpoken_46 : decode cX7_tallySpoken 46 = .ok (.sipush 200, 3) := by decide +kernel
theorem dX7_tallySpoken_49 : decode cX7_tallySpoken 49 = .ok (.imul, 1) := by decide +kernel
theorem dX7_tallySpoken_50 : decode cX7_tallySpoken 50 = .ok (.iload_n 2, 1) := by decide +kernel
theorem dX7_tallySpoken_51 : decode cX7_tallySpoken 51 = .ok (.iadd, 1) := by decide +kernel
theorem dX7_tallySpoken_52 : decode cX7_tallySpoken 52 = .ok (.istore_n 3, 1) := by decide +kernel
theorem dX7_tallySpoken_53 : decode cX7_tallySpoken 53 = .ok (.aload_n 0, 1) := by decide +kernel
theorem dX7_tallySpoken_54 : decode cX7_tallySpoken 54 = .ok (.getfield 31, 3) := by decide +kernel
theorem dX7_tallySpoken_57 : decode cX7_tallySpoken 57 = .ok (.iload_n 3, 1) := by decide +kernel
theorem dX7_tallySpoken_58 : decode cX7_tallySpoken 58 = .ok (.dup2, 1) := by decide +kernel
theorem dX7_tallySpoken_59 : decode cX7_tallySpoken 59 = .ok (.iaload, 1) := by decide +kernel
theorem dX7_tallySpoken_60 : decode cX7_tallySpoken 60 = .ok (.iconst 1, 1) := by decide +kernel
theorem dX7_tallySpoken_61 : decode cX7_tallySpoken 61 = .ok (.iadd, 1) := by decide +kernel
theorem dX7_tallySpoken_62 : decode cX7_tallySpoken 62 = .ok (.iastore, 1) := by decide +kernel
theorem dX7_tallySpoken_63 : decode cX7_tallySpoken 63 = .ok (.aload_n 0, 1) := by decide +kernel
theorem dX7_tallySpoken_64 : decode cX7_tallySpoken 64 = .ok (.getfield 35, 3) := by decide +kernel
theorem dX7_tallySpoken_67 : decode cX7_tallySpoken 67 = .ok (.iload_n 1, 1) := by decide +kernel
theorem dX7_tallySpoken_68 : decode cX7_tallySpoken 68 = .ok (.aload_n 0, 1) := by decide +kernel
theorem dX7_tallySpoken_69 : decode cX7_tallySpoken 69 = .ok (.getfield 35, 3) := by decide +kernel
theorem dX7_tallySpoken_72 : decode cX7_tallySpoken 72 = .ok (.iload_n 1, 1) := by decide +kernel
theorem dX7_tallySpoken_73 : decode cX7_tallySpoken 73 = .ok (.iaload, 1) := by decide +kernel
theorem dX7_tallySpoken_74 : decode cX7_tallySpoken 74 = .ok (.aload_n 0, 1) := by decide +kernel
theorem dX7_tallySpoken_75 : decode cX7_tallySpoken 75 = .ok (.getfield 31, 3) := by decide +kernel
theorem dX7_tallySpoken_78 : decode cX7_tallySpoken 78 = .ok (.iload_n 3, 1) := by decide +kernel
theorem dX7_tallySpoken_79 : decode cX7_tallySpoken 79 = .ok (.iaload, 1) := by decide +kernel
theorem dX7_tallySpoken_80 : decode cX7_tallySpoken 80 = .ok (.invokestatic 315, 3) := by decide +kernel
theorem dX7_tallySpoken_83 : decode cX7_tallySpoken 83 = .ok (.iastore, 1) := by decide +kernel
theorem dX7_tallySpoken_84 : decode cX7_tallySpoken 84 = .ok (.iinc 1 1, 3) := by decide +kernel
theorem dX7_tallySpoken_87 : decode cX7_tallySpoken 87 = .ok (.goto (-85), 3) := by decide +kernel
theorem dX7_tallySpoken_90 : decode cX7_tallySpoken 90 = .ok (.return_, 1) := by decide +kernel
theorem dX7_placeOfLeastTally_0 : decode cX7_placeOfLeastTally 0 = .ok (.iconst (-1), 1) := by decide +kernel
theorem dX7_placeOfLeastTally_1 : decode cX7_placeOfLeastTally 1 = .ok (.istore_n 1, 1) := by decide +kernel
theorem dX7_placeOfLeastTally_2 : decode cX7_placeOfLeastTally 2 = .ok (.iconst 0, 1) := by decide +kernel
theorem dX7_placeOfLeastTally_3 : decode cX7_placeOfLeastTally 3 = .ok (.istore_n 2, 1) := by decide +kernel
theorem dX7_placeOfLeastTally_4 : decode cX7_placeOfLeastTally 4 = .ok (.iconst 0, 1) := by decide +kernel
theorem dX7_placeOfLeastTally_5 : decode cX7_placeOfLeastTally 5 = .ok (.istore_n 3, 1) := by decide +kernel
theorem dX7_placeOfLeastTally_6 : decode cX7_placeOfLeastTally 6 = .ok (.iload_n 3, 1) := by decide +kernel
theorem dX7_placeOfLeastTally_7 : decode cX7_placeOfLeastTally 7 = .ok (.aload_n 0, 1) := by decide +kernel
theorem dX7_placeOfLeastTally_8 : decode cX7_placeOfLeastTally 8 = .ok (.getfield 22, 3) := by decide +kernel
theorem dX7_placeOfLeastTally_11 : decode cX7_placeOfLeastTally 11 = .ok (.getfield 180, 3) := by decide +kernel
theorem dX7_placeOfLeastTally_14 : decode cX7_placeOfLeastTally 14 = .ok (.if_icmp .ge 45, 3) := by decide +kernel
theorem dX7_placeOfLeastTally_17 : decode cX7_placeOfLeastTally 17 = .ok (.aload_n 0, 1) := by decide +kernel
theorem dX7_placeOfLeastTally_18 : decode cX7_placeOfLeastTally 18 = .ok (.getfield 22, 3) := by decide +kernel
theorem dX7_placeOfLeastTally_21 : decode cX7_placeOfLeastTally 21 = .ok (.iload_n 3, 1) := by decide +kernel
theorem dX7_placeOfLeastTally_22 : decode cX7_placeOfLeastTally 22 = .ok (.invokevirtual 190, 3) := by decide +kernel
theorem dX7_placeOfLeastTally_25 : decode cX7_placeOfLeastTally 25 = .ok (.iconst (-1), 1) := by decide +kernel
theorem dX7_placeOfLeastTally_26 : decode cX7_placeOfLeastTally 26 = .ok (.if_icmp .ne 27, 3) := by decide +kernel
theorem dX7_placeOfLeastTally_29 : decode cX7_placeOfLeastTally 29 = .ok (.iload_n 1, 1) := by decide +kernel
theorem dX7_placeOfLeastTally_30 : decode cX7_placeOfLeastTally 30 = .ok (.iconst (-1), 1) := by decide +kernel
theorem dX7_placeOfLeastTally_31 : decode cX7_placeOfLeastTally 31 = .ok (.if_icmp .eq 13, 3) := by decide +kernel
theorem dX7_placeOfLeastTally_34 : decode cX7_placeOfLeastTally 34 = .ok (.aload_n 0, 1) := by decide +kernel
theorem dX7_placeOfLeastTally_35 : decode cX7_placeOfLeastTally 35 = .ok (.getfield 35, 3) := by decide +kernel
theorem dX7_placeOfLeastTally_38 : decode cX7_placeOfLeastTally 38 = .ok (.iload_n 3, 1) := by decide +kernel
theorem dX7_placeOfLeastTally_39 : decode cX7_placeOfLeastTally 39 = .ok (.iaload, 1) := by decide +kernel
theorem dX7_placeOfLeastTally_40 : decode cX7_placeOfLeastTally 40 = .ok (.iload_n 2, 1) := by decide +kernel
theorem dX7_placeOfLeastTally_41 : decode cX7_placeOfLeastTally 41 = .ok (.if_icmp .ge 12, 3) := by decide +kernel
theorem dX7_placeOfLeastTally_44 : decode cX7_placeOfLeastTally 44 = .ok (.aload_n 0, 1) := by decide +kernel
theorem dX7_placeOfLeastTally_45 : decode cX7_placeOfLeastTally 45 = .ok (.getfield 35, 3) := by decide +kernel
theorem dX7_placeOfLeastTally_48 : decode cX7_placeOfLeastTally 48 = .ok (.iload_n 3, 1) := by decide +kernel
theorem dX7_placeOfLeastTally_49 : decode cX7_placeOfLeastTally 49 = .ok (.iaload, 1) := by decide +kernel
theorem dX7_placeOfLeastTally_50 : decode cX7_placeOfLeastTally 50 = .ok (.istore_n 2, 1) := by decide +kernel
theorem dX7_placeOfLeastTally_51 : decode cX7_placeOfLeastTally 51 = .ok (.iload_n 3, 1) := by decide +kernel
theorem dX7_placeOfLeastTally_52 : decode cX7_placeOfLeastTally 52 = .ok (.istore_n 1, 1) := by decide +kernel
theorem dX7_placeOfLeastTally_53 : decode cX7_placeOfLeastTally 53 = .ok (.iinc 3 1, 3) := by decide +kernel
theorem dX7_placeOfLeastTally_56 : decode cX7_placeOfLeastTally 56 = .ok (.goto (-50), 3) := by decide +kernel
theorem dX7_placeOfLeastTally_59 : decode cX7_placeOfLeastTally 59 = .ok (.iload_n 1, 1) := by decide +kernel
theorem dX7_placeOfLeastTally_60 : decode cX7_placeOfLeastTally 60 = .ok (.ireturn, 1) := by decide +kernel
theorem dX7_isSpokenLower_0 : decode cX7_isSpokenLower 0 = .ok (.aload_n 0, 1) := by decide +kernel
theorem dX7_isSpokenLower_1 : decode cX7_isSpokenLower 1 = .ok (.getfield 41, 3) := by decide +kernel
theorem dX7_isSpokenLower_4 : decode cX7_isSpokenLower 4 = .ok (.iload_n 3, 1) := by decide +kernel
theorem dX7_isSpokenLower_5 : decode cX7_isSpokenLower 5 = .ok (.invokevirtual 320, 3) := by decide +kernel
theorem dX7_isSpokenLower_8 : decode cX7_isSpokenLower 8 = .ok (.istore 4, 2) := by decide +kernel
theorem dX7_isSpokenLower_10 : decode cX7_isSpokenLower 10 = .ok (.iconst 0, 1) := by decide +kernel
theorem dX7_isSpokenLower_11 : decode cX7_isSpokenLower 11 = .ok (.istore 5, 2) := by decide +kernel
theorem dX7_isSpokenLower_13 : decode cX7_isSpokenLower 13 = .ok (.iload 5, 2) := by decide +kernel
theorem dX7_isSpokenLower_15 : decode cX7_isSpokenLower 15 = .ok (.sipush 999, 3) := by decide +kernel
theorem dX7_isSpokenLower_18 : decode cX7_isSpokenLower 18 = .ok (.if_icmp .gt 69, 3) := by decide +kernel
theorem dX7_isSpokenLower_21 : decode cX7_isSpokenLower 21 = .ok (.iload 4, 2) := by decide +kernel
theorem dX7_isSpokenLower_23 : decode cX7_isSpokenLower 23 = .ok (.iconst (-1), 1) := by decide +kernel
theorem dX7_isSpokenLower_24 : decode cX7_isSpokenLower 24 = .ok (.if_icmp .eq 63, 3) := by decide +kernel
theorem dX7_isSpokenLower_27 : decode cX7_isSpokenLower 27 = .ok (.aload_n 0, 1) := by decide +kernel
theorem dX7_isSpokenLower_28 : decode cX7_isSpokenLower 28 = .ok (.getfield 41, 3) := by decide +kernel
theorem dX7_isSpokenLower_31 : decode cX7_isSpokenLower 31 = .ok (.iload 4, 2) := by decide +kernel
theorem dX7_isSpokenLower_33 : decode cX7_isSpokenLower 33 = .ok (.invokevirtual 323, 3) := by decide +kernel
theorem dX7_isSpokenLower_36 : decode cX7_isSpokenLower 36 = .ok (.iload_n 3, 1) := by decide +kernel
theorem dX7_isSpokenLower_37 : decode cX7_isSpokenLower 37 = .ok (.if_icmp .ne 33, 3) := by decide +kernel
theorem dX7_isSpokenLower_40 : decode cX7_isSpokenLower 40 = .ok (.aload_n 1, 1) := by decide +kernel
theorem dX7_isSpokenLower_41 : decode cX7_isSpokenLower 41 = .ok (.iload 4, 2) := by decide +kernel
theorem dX7_isSpokenLower_43 : decode cX7_isSpokenLower 43 = .ok (.iload_n 2, 1) := by decide +kernel
theorem dX7_isSpokenLower_44 : decode cX7_isSpokenLower 44 = .ok (.aload_n 0, 1) := by decide +kernel
theorem dX7_isSpokenLower_45 : decode cX7_isSpokenLower 45 = .ok (.getfield 28, 3) := by decide +kernel
theorem dX7_isSpokenLower_48 : decode cX7_isSpokenLower 48 = .ok (.invokevirtual 176, 3) := by decide +kernel
theorem dX7_isSpokenLower_51 : decode cX7_isSpokenLower 51 = .ok (.ifCond .eq 19, 3) := by decide +kernel
theorem dX7_isSpokenLower_54 : decode cX7_isSpokenLower 54 = .ok (.aload_n 0, 1) := by decide +kernel
theorem dX7_isSpokenLower_55 : decode cX7_isSpokenLower 55 = .ok (.getfield 28, 3) := by decide +kernel
theorem dX7_isSpokenLower_58 : decode cX7_isSpokenLower 58 = .ok (.aload_n 0, 1) := by decide +kernel
theorem dX7_isSpokenLower_59 : decode cX7_isSpokenLower 59 = .ok (.getfield 25, 3) := by decide +kernel
theorem dX7_isSpokenLower_62 : decode cX7_isSpokenLower 62 = .ok (.invokevirtual 326, 3) := by decide +kernel
theorem dX7_isSpokenLower_65 : decode cX7_isSpokenLower 65 = .ok (.ifCond .eq 5, 3) := by decide +kernel
theorem dX7_isSpokenLower_68 : decode cX7_isSpokenLower 68 = .ok (.iconst 1, 1) := by decide +kernel
theorem dX7_isSpokenLower_69 : decode cX7_isSpokenLower 69 = .ok (.ireturn, 1) := by decide +kernel
theorem dX7_isSpokenLower_70 : decode cX7_isSpokenLower 70 = .ok (.aload_n 0, 1) := by decide +kernel
theorem dX7_isSpokenLower_71 : decode cX7_isSpokenLower 71 = .ok (.getfield 41, 3) := by decide +kernel
theorem dX7_isSpokenLower_74 : decode cX7_isSpokenLower 74 = .ok (.iload 4, 2) := by decide +kernel
theorem dX7_isSpokenLower_76 : decode cX7_isSpokenLower 76 = .ok (.invokevirtual 329, 3) := by decide +kernel
theorem dX7_isSpokenLower_79 : decode cX7_isSpokenLower 79 = .ok (.istore 4, 2) := by decide +kernel
theorem dX7_isSpokenLower_81 : decode cX7_isSpokenLower 81 = .ok (.iinc 5 1, 3) := by decide +kernel
theorem dX7_isSpokenLower_84 : decode cX7_isSpokenLower 84 = .ok (.goto (-71), 3) := by decide +kernel
theorem dX7_isSpokenLower_87 : decode cX7_isSpokenLower 87 = .ok (.iconst 0, 1) := by decide +kernel
theorem dX7_isSpokenLower_88 : decode cX7_isSpokenLower 88 = .ok (.ireturn, 1) := by decide +kernel
theorem dX7_findSettings_0 : decode cX7_findSettings 0 = .ok (.aload_n 2, 1) := by decide +kernel
theorem dX7_findSettings_1 : decode cX7_findSettings 1 = .ok (.getfield 267, 3) := by decide +kernel
theorem dX7_findSettings_4 : decode cX7_findSettings 4 = .ok (.istore 4, 2) := by decide +kernel
theorem dX7_findSettings_6 : decode cX7_findSettings 6 = .ok (.aload_n 2, 1) := by decide +kernel
theorem dX7_findSettings_7 : decode cX7_findSettings 7 = .ok (.getfield 130, 3) := by decide +kernel
theorem dX7_findSettings_10 : decode cX7_findSettings 10 = .ok (.istore 5, 2) := by decide +kernel
theorem dX7_findSettings_12 : decode cX7_findSettings 12 = .ok (.iconst 0, 1) := by decide +kernel
theorem dX7_findSettings_13 : decode cX7_findSettings 13 = .ok (.istore 6, 2) := by decide +kernel
theorem dX7_findSettings_15 : decode cX7_findSettings 15 = .ok (.iconst 0, 1) := by decide +kernel
theorem dX7_findSettings_16 : decode cX7_findSettings 16 = .ok (.istore 7, 2) := by decide +kernel
theorem dX7_findSettings_18 : decode cX7_findSettings 18 = .ok (.iload 7, 2) := by decide +kernel
theorem dX7_findSettings_20 : decode cX7_findSettings 20 = .ok (.bipush 32, 2) := by decide +kernel
theorem dX7_findSettings_22 : decode cX7_findSettings 22 = .ok (.if_icmp .ge 36, 3) := by decide +kernel
theorem dX7_findSettings_25 : decode cX7_findSettings 25 = .ok (.aload_n 2, 1) := by decide +kernel
theorem dX7_findSettings_26 : decode cX7_findSettings 26 = .ok (.iload 7, 2) := by decide +kernel
theorem dX7_findSettings_28 : decode cX7_findSettings 28 = .ok (.iload_n 3, 1) := by decide +kernel
theorem dX7_findSettings_29 : decode cX7_findSettings 29 = .ok (.invokevirtual 248, 3) := by decide +kernel
theorem dX7_findSettings_32 : decode cX7_findSettings 32 = .ok (.aload_n 0, 1) := by decide +kernel
theorem dX7_findSettings_33 : decode cX7_findSettings 33 = .ok (.aload_n 1, 1) := by decide +kernel
theorem dX7_findSettings_34 : decode cX7_findSettings 34 = .ok (.invokevirtual 332, 3) := by decide +kernel
theorem dX7_findSettings_37 : decode cX7_findSettings 37 = .ok (.ifCond .eq 15, 3) := by decide +kernel
theorem dX7_findSettings_40 : decode cX7_findSettings 40 = .ok (.aload_n 0, 1) := by decide +kernel
theorem dX7_findSettings_41 : decode cX7_findSettings 41 = .ok (.getfield 56, 3) := by decide +kernel
theorem dX7_findSettings_44 : decode cX7_findSettings 44 = .ok (.iload 6, 2) := by decide +kernel
theorem dX7_findSettings_46 : decode cX7_findSettings 46 = .ok (.iload 7, 2) := by decide +kernel
theorem dX7_findSettings_48 : decode cX7_findSettings 48 = .ok (.iastore, 1) := by decide +kernel
theorem dX7_findSettings_49 : decode cX7_findSettings 49 = .ok (.iinc 6 1, 3) := by decide +kernel
theorem dX7_findSettings_52 : decode cX7_findSettings 52 = .ok (.iinc 7 1, 3) := by decide +kernel
theorem dX7_findSettings_55 : decode cX7_findSettings 55 = .ok (.goto (-37), 3) := by decide +kernel
theorem dX7_findSettings_58 : decode cX7_findSettings 58 = .ok (.aload_n 2, 1) := by decide +kernel
theorem dX7_findSettings_59 : decode cX7_findSettings 59 = .ok (.iload 4, 2) := by decide +kernel
theorem dX7_findSettings_61 : decode cX7_findSettings 61 = .ok (.putfield 267, 3) := by decide +kernel
theorem dX7_findSettings_64 : decode cX7_findSettings 64 = .ok (.aload_n 2, 1) := by decide +kernel
theorem dX7_findSettings_65 : decode cX7_findSettings 65 = .ok (.iload 5, 2) := by decide +kernel
theorem dX7_findSettings_67 : decode cX7_findSettings 67 = .ok (.putfield 130, 3) := by decide +kernel
theorem dX7_findSettings_70 : decode cX7_findSettings 70 = .ok (.iload 6, 2) := by decide +kernel
theorem dX7_findSettings_72 : decode cX7_findSettings 72 = .ok (.ireturn, 1) := by decide +kernel
theorem dX7_meetsExamples_0 : decode cX7_meetsExamples 0 = .ok (.iconst 0, 1) := by decide +kernel
theorem dX7_meetsExamples_1 : decode cX7_meetsExamples 1 = .ok (.istore_n 2, 1) := by decide +kernel
theorem dX7_meetsExamples_2 : decode cX7_meetsExamples 2 = .ok (.iload_n 2, 1) := by decide +kernel
theorem dX7_meetsExamples_3 : decode cX7_meetsExamples 3 = .ok (.aload_n 0, 1) := by decide +kernel
theorem dX7_meetsExamples_4 : decode cX7_meetsExamples 4 = .ok (.getfield 52, 3) := by decide +kernel
theorem dX7_meetsExamples_7 : decode cX7_meetsExamples 7 = .ok (.if_icmp .ge 45, 3) := by decide +kernel
theorem dX7_meetsExamples_10 : decode cX7_meetsExamples 10 = .ok (.aload_n 1, 1) := by decide +kernel
theorem dX7_meetsExamples_11 : decode cX7_meetsExamples 11 = .ok (.aload_n 0, 1) := by decide +kernel
theorem dX7_meetsExamples_12 : decode cX7_meetsExamples 12 = .ok (.getfield 45, 3) := by decide +kernel
theorem dX7_meetsExamples_15 : decode cX7_meetsExamples 15 = .ok (.iload_n 2, 1) := by decide +kernel
theorem dX7_meetsExamples_16 : decode cX7_meetsExamples 16 = .ok (.iaload, 1) := by decide +kernel
theorem dX7_meetsExamples_17 : decode cX7_meetsExamples 17 = .ok (.iconst 0, 1) := by decide +kernel
theorem dX7_meetsExamples_18 : decode cX7_meetsExamples 18 = .ok (.aload_n 0, 1) := by decide +kernel
theorem dX7_meetsExamples_19 : decode cX7_meetsExamples 19 = .ok (.getfield 25, 3) := by decide +kernel
theorem dX7_meetsExamples_22 : decode cX7_meetsExamples 22 = .ok (.invokevirtual 176, 3) := by decide +kernel
theorem dX7_meetsExamples_25 : decode cX7_meetsExamples 25 = .ok (.ifCond .eq 19, 3) := by decide +kernel
theorem dX7_meetsExamples_28 : decode cX7_meetsExamples 28 = .ok (.aload_n 0, 1) := by decide +kernel
theorem dX7_meetsExamples_29 : decode cX7_meetsExamples 29 = .ok (.getfield 25, 3) := by decide +kernel
theorem dX7_meetsExamples_32 : decode cX7_meetsExamples 32 = .ok (.aload_n 0, 1) := by decide +kernel
theorem dX7_meetsExamples_33 : decode cX7_meetsExamples 33 = .ok (.getfield 48, 3) := by decide +kernel
theorem dX7_meetsExamples_36 : decode cX7_meetsExamples 36 = .ok (.iload_n 2, 1) := by decide +kernel
theorem dX7_meetsExamples_37 : decode cX7_meetsExamples 37 = .ok (.aaload, 1) := by decide +kernel
theorem dX7_meetsExamples_38 : decode cX7_meetsExamples 38 = .ok (.invokevirtual 326, 3) := by decide +kernel
theorem dX7_meetsExamples_41 : decode cX7_meetsExamples 41 = .ok (.ifCond .ne 5, 3) := by decide +kernel
theorem dX7_meetsExamples_44 : decode cX7_meetsExamples 44 = .ok (.iconst 0, 1) := by decide +kernel
theorem dX7_meetsExamples_45 : decode cX7_meetsExamples 45 = .ok (.ireturn, 1) := by decide +kernel
theorem dX7_meetsExamples_46 : decode cX7_meetsExamples 46 = .ok (.iinc 2 1, 3) := by decide +kernel
theorem dX7_meetsExamples_49 : decode cX7_meetsExamples 49 = .ok (.goto (-47), 3) := by decide +kernel
theorem dX7_meetsExamples_52 : decode cX7_meetsExamples 52 = .ok (.iconst 1, 1) := by decide +kernel
theorem dX7_meetsExamples_53 : decode cX7_meetsExamples 53 = .ok (.ireturn, 1) := by decide +kernel
theorem dX7_speakBySettings_0 : decode cX7_speakBySettings 0 = .ok (.aload_n 2, 1) := by decide +kernel
theorem dX7_speakBySettings_1 : decode cX7_speakBySettings 1 = .ok (.getfield 267, 3) := by decide +kernel
theorem dX7_speakBySettings_4 : decode cX7_speakBySettings 4 = .ok (.istore 6, 2) := by decide +kernel
theorem dX7_speakBySettings_6 : decode cX7_speakBySettings 6 = .ok (.aload_n 2, 1) := by decide +kernel
theorem dX7_speakBySettings_7 : decode cX7_speakBySettings 7 = .ok (.getfield 130, 3) := by decide +kernel
theorem dX7_speakBySettings_10 : decode cX7_speakBySettings 10 = .ok (.istore 7, 2) := by decide +kernel
theorem dX7_speakBySettings_12 : decode cX7_speakBySettings 12 = .ok (.iconst 0, 1) := by decide +kernel
theorem dX7_speakBySettings_13 : decode cX7_speakBySettings 13 = .ok (.istore 8, 2) := by decide +kernel
theorem dX7_speakBySettings_15 : decode cX7_speakBySettings 15 = .ok (.iload 8, 2) := by decide +kernel
theorem dX7_speakBySettings_17 : decode cX7_speakBySettings 17 = .ok (.iload 5, 2) := by decide +kernel
theorem dX7_speakBySettings_19 : decode cX7_speakBySettings 19 = .ok (.if_icmp .ge 36, 3) := by decide +kernel
theorem dX7_speakBySettings_22 : decode cX7_speakBySettings 22 = .ok (.aload_n 2, 1) := by decide +kernel
theorem dX7_speakBySettings_23 : decode cX7_speakBySettings 23 = .ok (.aload_n 0, 1) := by decide +kernel
theorem dX7_speakBySettings_24 : decode cX7_speakBySettings 24 = .ok (.getfield 56, 3) := by decide +kernel
theorem dX7_speakBySettings_27 : decode cX7_speakBySettings 27 = .ok (.iload 8, 2) := by decide +kernel
theorem dX7_speakBySettings_29 : decode cX7_speakBySettings 29 = .ok (.iaload, 1) := by decide +kernel
theorem dX7_speakBySettings_30 : decode cX7_speakBySettings 30 = .ok (.iload_n 3, 1) := by decide +kernel
theorem dX7_speakBySettings_31 : decode cX7_speakBySettings 31 = .ok (.invokevirtual 248, 3) := by decide +kernel
theorem dX7_speakBySettings_34 : decode cX7_speakBySettings 34 = .ok (.aload_n 1, 1) := by decide +kernel
theorem dX7_speakBySettings_35 : decode cX7_speakBySettings 35 = .ok (.iload 4, 2) := by decide +kernel
theorem dX7_speakBySettings_37 : decode cX7_speakBySettings 37 = .ok (.iconst 0, 1) := by decide +kernel
theorem dX7_speakBySettings_38 : decode cX7_speakBySettings 38 = .ok (.aload_n 0, 1) := by decide +kernel
theorem dX7_speakBySettings_39 : decode cX7_speakBySettings 39 = .ok (.getfield 59, 3) := by decide +kernel
theorem dX7_speakBySettings_42 : decode cX7_speakBySettings 42 = .ok (.iload 8, 2) := by decide +kernel
theorem dX7_speakBySettings_44 : decode cX7_speakBySettings 44 = .ok (.aaload, 1) := by decide +kernel
theorem dX7_speakBySettings_45 : decode cX7_speakBySettings 45 = .ok (.invokevirtual 176, 3) := by decide +kernel
theorem dX7_speakBySettings_48 : decode cX7_speakBySettings 48 = .ok (.pop, 1) := by decide +kernel
theorem dX7_speakBySettings_49 : decode cX7_speakBySettings 49 = .ok (.iinc 8 1, 3) := by decide +kernel
theorem dX7_speakBySettings_52 : decode cX7_speakBySettings 52 = .ok (.goto (-37), 3) := by decide +kernel
theorem dX7_speakBySettings_55 : decode cX7_speakBySettings 55 = .ok (.aload_n 2, 1) := by decide +kernel
theorem dX7_speakBySettings_56 : decode cX7_speakBySettings 56 = .ok (.iload 6, 2) := by decide +kernel
theorem dX7_speakBySettings_58 : decode cX7_speakBySettings 58 = .ok (.putfield 267, 3) := by decide +kernel
theorem dX7_speakBySettings_61 : decode cX7_speakBySettings 61 = .ok (.aload_n 2, 1) := by decide +kernel
theorem dX7_speakBySettings_62 : decode cX7_speakBySettings 62 = .ok (.iload 7, 2) := by decide +kernel
theorem dX7_speakBySettings_64 : decode cX7_speakBySettings 64 = .ok (.putfield 130, 3) := by decide +kernel
theorem dX7_speakBySettings_67 : decode cX7_speakBySettings 67 = .ok (.return_, 1) := by decide +kernel
theorem dX7_greatestAlike_0 : decode cX7_greatestAlike 0 = .ok (.iconst 0, 1) := by decide +kernel
theorem dX7_greatestAlike_1 : decode cX7_greatestAlike 1 = .ok (.istore_n 2, 1) := by decide +kernel
theorem dX7_greatestAlike_2 : decode cX7_greatestAlike 2 = .ok (.iconst 0, 1) := by decide +kernel
theorem dX7_greatestAlike_3 : decode cX7_greatestAlike 3 = .ok (.istore_n 3, 1) := by decide +kernel
theorem dX7_greatestAlike_4 : decode cX7_greatestAlike 4 = .ok (.iload_n 3, 1) := by decide +kernel
theorem dX7_greatestAlike_5 : decode cX7_greatestAlike 5 = .ok (.iload_n 1, 1) := by decide +kernel
theorem dX7_greatestAlike_6 : decode cX7_greatestAlike 6 = .ok (.iload_n 2, 1) := by decide +kernel
theorem dX7_greatestAlike_7 : decode cX7_greatestAlike 7 = .ok (.isub, 1) := by decide +kernel
theorem dX7_greatestAlike_8 : decode cX7_greatestAlike 8 = .ok (.if_icmp .ge 58, 3) := by decide +kernel
theorem dX7_greatestAlike_11 : decode cX7_greatestAlike 11 = .ok (.iconst 1, 1) := by decide +kernel
theorem dX7_greatestAlike_12 : decode cX7_greatestAlike 12 = .ok (.istore 4, 2) := by decide +kernel
theorem dX7_greatestAlike_14 : decode cX7_greatestAlike 14 = .ok (.iload_n 3, 1) := by decide +kernel
theorem dX7_greatestAlike_15 : decode cX7_greatestAlike 15 = .ok (.iconst 1, 1) := by decide +kernel
theorem dX7_greatestAlike_16 : decode cX7_greatestAlike 16 = .ok (.iadd, 1) := by decide +kernel
theorem dX7_greatestAlike_17 : decode cX7_greatestAlike 17 = .ok (.istore 5, 2) := by decide +kernel
theorem dX7_greatestAlike_19 : decode cX7_greatestAlike 19 = .ok (.iload 5, 2) := by decide +kernel
theorem dX7_greatestAlike_21 : decode cX7_greatestAlike 21 = .ok (.iload_n 1, 1) := by decide +kernel
theorem dX7_greatestAlike_22 : decode cX7_greatestAlike 22 = .ok (.if_icmp .ge 31, 3) := by decide +kernel
theorem dX7_greatestAlike_25 : decode cX7_greatestAlike 25 = .ok (.aload_n 0, 1) := by decide +kernel
theorem dX7_greatestAlike_26 : decode cX7_greatestAlike 26 = .ok (.getfield 59, 3) := by decide +kernel
theorem dX7_greatestAlike_29 : decode cX7_greatestAlike 29 = .ok (.iload 5, 2) := by decide +kernel
theorem dX7_greatestAlike_31 : decode cX7_greatestAlike 31 = .ok (.aaload, 1) := by decide +kernel
theorem dX7_greatestAlike_32 : decode cX7_greatestAlike 32 = .ok (.aload_n 0, 1) := by decide +kernel
theorem dX7_greatestAlike_33 : decode cX7_greatestAlike 33 = .ok (.getfield 59, 3) := by decide +kernel
theorem dX7_greatestAlike_36 : decode cX7_greatestAlike 36 = .ok (.iload_n 3, 1) := by decide +kernel
theorem dX7_greatestAlike_37 : decode cX7_greatestAlike 37 = .ok (.aaload, 1) := by decide +kernel
theorem dX7_greatestAlike_38 : decode cX7_greatestAlike 38 = .ok (.invokevirtual 326, 3) := by decide +kernel
theorem dX7_greatestAlike_41 : decode cX7_greatestAlike 41 = .ok (.ifCond .eq 6, 3) := by decide +kernel
theorem dX7_greatestAlike_44 : decode cX7_greatestAlike 44 = .ok (.iinc 4 1, 3) := by decide +kernel
theorem dX7_greatestAlike_47 : decode cX7_greatestAlike 47 = .ok (.iinc 5 1, 3) := by decide +kernel
theorem dX7_greatestAlike_50 : decode cX7_greatestAlike 50 = .ok (.goto (-31), 3) := by decide +kernel
theorem dX7_greatestAlike_53 : decode cX7_greatestAlike 53 = .ok (.iload_n 2, 1) := by decide +kernel
theorem dX7_greatestAlike_54 : decode cX7_greatestAlike 54 = .ok (.iload 4, 2) := by decide +kernel
theorem dX7_greatestAlike_56 : decode cX7_greatestAlike 56 = .ok (.invokestatic 315, 3) := by decide +kernel
theorem dX7_greatestAlike_59 : decode cX7_greatestAlike 59 = .ok (.istore_n 2, 1) := by decide +kernel
theorem dX7_greatestAlike_60 : decode cX7_greatestAlike 60 = .ok (.iinc 3 1, 3) := by decide +kernel
theorem dX7_greatestAlike_63 : decode cX7_greatestAlike 63 = .ok (.goto (-59), 3) := by decide +kernel
theorem dX7_greatestAlike_66 : decode cX7_greatestAlike 66 = .ok (.iload_n 2, 1) := by decide +kernel
theorem dX7_greatestAlike_67 : decode cX7_greatestAlike 67 = .ok (.ireturn, 1) := by decide +kernel
theorem dJ9_floorDiv_f86c9_0 : decode cJ9_floorDiv_f86c9 0 = .ok (.lload_n 0, 1) := by decide +kernel
theorem dJ9_floorDiv_f86c9_1 : decode cJ9_floorDiv_f86c9 1 = .ok (.lload_n 2, 1) := by decide +kernel
theorem dJ9_floorDiv_f86c9_2 : decode cJ9_floorDiv_f86c9 2 = .ok (.ldiv, 1) := by decide +kernel
theorem dJ9_floorDiv_f86c9_3 : decode cJ9_floorDiv_f86c9 3 = .ok (.lstore 4, 2) := by decide +kernel
theorem dJ9_floorDiv_f86c9_5 : decode cJ9_floorDiv_f86c9 5 = .ok (.lload_n 0, 1) := by decide +kernel
theorem dJ9_floorDiv_f86c9_6 : decode cJ9_floorDiv_f86c9 6 = .ok (.lload_n 2, 1) := by decide +kernel
theorem dJ9_floorDiv_f86c9_7 : decode cJ9_floorDiv_f86c9 7 = .ok (.lxor, 1) := by decide +kernel
theorem dJ9_floorDiv_f86c9_8 : decode cJ9_floorDiv_f86c9 8 = .ok (.lconst 0, 1) := by decide +kernel
theorem dJ9_floorDiv_f86c9_9 : decode cJ9_floorDiv_f86c9 9 = .ok (.lcmp, 1) := by decide +kernel
theorem dJ9_floorDiv_f86c9_10 : decode cJ9_floorDiv_f86c9 10 = .ok (.ifCond .ge 17, 3) := by decide +kernel
theorem dJ9_floorDiv_f86c9_13 : decode cJ9_floorDiv_f86c9 13 = .ok (.lload 4, 2) := by decide +kernel
theorem dJ9_floorDiv_f86c9_15 : decode cJ9_floorDiv_f86c9 15 = .ok (.lload_n 2, 1) := by decide +kernel
theorem dJ9_floorDiv_f86c9_16 : decode cJ9_floorDiv_f86c9 16 = .ok (.lmul, 1) := by decide +kernel
theorem dJ9_floorDiv_f86c9_17 : decode cJ9_floorDiv_f86c9 17 = .ok (.lload_n 0, 1) := by decide +kernel
theorem dJ9_floorDiv_f86c9_18 : decode cJ9_floorDiv_f86c9 18 = .ok (.lcmp, 1) := by decide +kernel
theorem dJ9_floorDiv_f86c9_19 : decode cJ9_floorDiv_f86c9 19 = .ok (.ifCond .eq 8, 3) := by decide +kernel
theorem dJ9_floorDiv_f86c9_22 : decode cJ9_floorDiv_f86c9 22 = .ok (.lload 4, 2) := by decide +kernel
theorem dJ9_floorDiv_f86c9_24 : decode cJ9_floorDiv_f86c9 24 = .ok (.lconst 1, 1) := by decide +kernel
theorem dJ9_floorDiv_f86c9_25 : decode cJ9_floorDiv_f86c9 25 = .ok (.lsub, 1) := by decide +kernel
theorem dJ9_floorDiv_f86c9_26 : decode cJ9_floorDiv_f86c9 26 = .ok (.lreturn, 1) := by decide +kernel
theorem dJ9_floorDiv_f86c9_27 : decode cJ9_floorDiv_f86c9 27 = .ok (.lload 4, 2) := by decide +kernel
theorem dJ9_floorDiv_f86c9_29 : decode cJ9_floorDiv_f86c9 29 = .ok (.lreturn, 1) := by decide +kernel
theorem dJ9_floorMod_f86c9_0 : decode cJ9_floorMod_f86c9 0 = .ok (.lload_n 0, 1) := by decide +kernel
theorem dJ9_floorMod_f86c9_1 : decode cJ9_floorMod_f86c9 1 = .ok (.lload_n 2, 1) := by decide +kernel
theorem dJ9_floorMod_f86c9_2 : decode cJ9_floorMod_f86c9 2 = .ok (.lrem, 1) := by decide +kernel
theorem dJ9_floorMod_f86c9_3 : decode cJ9_floorMod_f86c9 3 = .ok (.lstore 4, 2) := by decide +kernel
theorem dJ9_floorMod_f86c9_5 : decode cJ9_floorMod_f86c9 5 = .ok (.lload_n 0, 1) := by decide +kernel
theorem dJ9_floorMod_f86c9_6 : decode cJ9_floorMod_f86c9 6 = .ok (.lload_n 2, 1) := by decide +kernel
theorem dJ9_floorMod_f86c9_7 : decode cJ9_floorMod_f86c9 7 = .ok (.lxor, 1) := by decide +kernel
theorem dJ9_floorMod_f86c9_8 : decode cJ9_floorMod_f86c9 8 = .ok (.lconst 0, 1) := by decide +kernel
theorem dJ9_floorMod_f86c9_9 : decode cJ9_floorMod_f86c9 9 = .ok (.lcmp, 1) := by decide +kernel
theorem dJ9_floorMod_f86c9_10 : decode cJ9_floorMod_f86c9 10 = .ok (.ifCond .ge 15, 3) := by decide +kernel
theorem dJ9_floorMod_f86c9_13 : decode cJ9_floorMod_f86c9 13 = .ok (.lload 4, 2) := by decide +kernel
theorem dJ9_floorMod_f86c9_15 : decode cJ9_floorMod_f86c9 15 = .ok (.lconst 0, 1) := by decide +kernel
theorem dJ9_floorMod_f86c9_16 : decode cJ9_floorMod_f86c9 16 = .ok (.lcmp, 1) := by decide +kernel
theorem dJ9_floorMod_f86c9_17 : decode cJ9_floorMod_f86c9 17 = .ok (.ifCond .eq 8, 3) := by decide +kernel
theorem dJ9_floorMod_f86c9_20 : decode cJ9_floorMod_f86c9 20 = .ok (.lload 4, 2) := by decide +kernel
theorem dJ9_floorMod_f86c9_22 : decode cJ9_floorMod_f86c9 22 = .ok (.lload_n 2, 1) := by decide +kernel
theorem dJ9_floorMod_f86c9_23 : decode cJ9_floorMod_f86c9 23 = .ok (.ladd, 1) := by decide +kernel
theorem dJ9_floorMod_f86c9_24 : decode cJ9_floorMod_f86c9 24 = .ok (.lreturn, 1) := by decide +kernel
theorem dJ9_floorMod_f86c9_25 : decode cJ9_floorMod_f86c9 25 = .ok (.lload 4, 2) := by decide +kernel
theorem dJ9_floorMod_f86c9_27 : decode cJ9_floorMod_f86c9 27 = .ok (.lreturn, 1) := by decide +kernel
theorem dJ9_max_7cf53_0 : decode cJ9_max_7cf53 0 = .ok (.iload_n 0, 1) := by decide +kernel
theorem dJ9_max_7cf53_1 : decode cJ9_max_7cf53 1 = .ok (.iload_n 1, 1) := by decide +kernel
theorem dJ9_max_7cf53_2 : decode cJ9_max_7cf53 2 = .ok (.if_icmp .lt 7, 3) := by decide +kernel
theorem dJ9_max_7cf53_5 : decode cJ9_max_7cf53 5 = .ok (.iload_n 0, 1) := by decide +kernel
theorem dJ9_max_7cf53_6 : decode cJ9_max_7cf53 6 = .ok (.goto 4, 3) := by decide +kernel
theorem dJ9_max_7cf53_9 : decode cJ9_max_7cf53 9 = .ok (.iload_n 1, 1) := by decide +kernel
theorem dJ9_max_7cf53_10 : decode cJ9_max_7cf53 10 = .ok (.ireturn, 1) := by decide +kernel
theorem dJ7_fill_53178_0 : decode cJ7_fill_53178 0 = .ok (.iconst 0, 1) := by decide +kernel
theorem dJ7_fill_53178_1 : decode cJ7_fill_53178 1 = .ok (.istore_n 2, 1) := by decide +kernel
theorem dJ7_fill_53178_2 : decode cJ7_fill_53178 2 = .ok (.aload_n 0, 1) := by decide +kernel
theorem dJ7_fill_53178_3 : decode cJ7_fill_53178 3 = .ok (.arraylength, 1) := by decide +kernel
theorem dJ7_fill_53178_4 : decode cJ7_fill_53178 4 = .ok (.istore_n 3, 1) := by decide +kernel
theorem dJ7_fill_53178_5 : decode cJ7_fill_53178 5 = .ok (.iload_n 2, 1) := by decide +kernel
theorem dJ7_fill_53178_6 : decode cJ7_fill_53178 6 = .ok (.iload_n 3, 1) := by decide +kernel
theorem dJ7_fill_53178_7 : decode cJ7_fill_53178 7 = .ok (.if_icmp .ge 13, 3) := by decide +kernel
theorem dJ7_fill_53178_10 : decode cJ7_fill_53178 10 = .ok (.aload_n 0, 1) := by decide +kernel
theorem dJ7_fill_53178_11 : decode cJ7_fill_53178 11 = .ok (.iload_n 2, 1) := by decide +kernel
theorem dJ7_fill_53178_12 : decode cJ7_fill_53178 12 = .ok (.iload_n 1, 1) := by decide +kernel
theorem dJ7_fill_53178_13 : decode cJ7_fill_53178 13 = .ok (.iastore, 1) := by decide +kernel
theorem dJ7_fill_53178_14 : decode cJ7_fill_53178 14 = .ok (.iinc 2 1, 3) := by decide +kernel
theorem dJ7_fill_53178_17 : decode cJ7_fill_53178 17 = .ok (.goto (-12), 3) := by decide +kernel
theorem dJ7_fill_53178_20 : decode cJ7_fill_53178 20 = .ok (.return_, 1) := by decide +kernel
theorem dL_draw_0 : decode cL_draw 0 = .ok (.iload_n 1, 1) := by decide +kernel
theorem dL_draw_1 : decode cL_draw 1 = .ok (.aload_n 0, 1) := by decide +kernel
theorem dL_draw_2 : decode cL_draw 2 = .ok (.arraylength, 1) := by decide +kernel
theorem dL_draw_3 : decode cL_draw 3 = .ok (.if_icmp .ge 9, 3) := by decide +kernel
theorem dL_draw_6 : decode cL_draw 6 = .ok (.aload_n 0, 1) := by decide +kernel
theorem dL_draw_7 : decode cL_draw 7 = .ok (.iload_n 1, 1) := by decide +kernel
theorem dL_draw_8 : decode cL_draw 8 = .ok (.iaload, 1) := by decide +kernel
theorem dL_draw_9 : decode cL_draw 9 = .ok (.goto 14, 3) := by decide +kernel
theorem dL_draw_12 : decode cL_draw 12 = .ok (.ldc 7, 2) := by decide +kernel
theorem dL_draw_14 : decode cL_draw 14 = .ok (.iload_n 1, 1) := by decide +kernel
theorem dL_draw_15 : decode cL_draw 15 = .ok (.sipush 859, 3) := by decide +kernel
theorem dL_draw_18 : decode cL_draw 18 = .ok (.iadd, 1) := by decide +kernel
theorem dL_draw_19 : decode cL_draw 19 = .ok (.imul, 1) := by decide +kernel
theorem dL_draw_20 : decode cL_draw 20 = .ok (.ldc 8, 2) := by decide +kernel
theorem dL_draw_22 : decode cL_draw 22 = .ok (.iadd, 1) := by decide +kernel
theorem dL_draw_23 : decode cL_draw 23 = .ok (.istore_n 3, 1) := by decide +kernel
theorem dL_draw_24 : decode cL_draw 24 = .ok (.iload_n 3, 1) := by decide +kernel
theorem dL_draw_25 : decode cL_draw 25 = .ok (.ldc 9, 2) := by decide +kernel
theorem dL_draw_27 : decode cL_draw 27 = .ok (.iand, 1) := by decide +kernel
theorem dL_draw_28 : decode cL_draw 28 = .ok (.iload_n 2, 1) := by decide +kernel
theorem dL_draw_29 : decode cL_draw 29 = .ok (.irem, 1) := by decide +kernel
theorem dL_draw_30 : decode cL_draw 30 = .ok (.ireturn, 1) := by decide +kernel
theorem dL_asks_0 : decode cL_asks 0 = .ok (.iload_n 1, 1) := by decide +kernel
theorem dL_asks_1 : decode cL_asks 1 = .ok (.ifCond .ne 14, 3) := by decide +kernel
theorem dL_asks_4 : decode cL_asks 4 = .ok (.aload_n 0, 1) := by decide +kernel
theorem dL_asks_5 : decode cL_asks 5 = .ok (.iload_n 2, 1) := by decide +kernel
theorem dL_asks_6 : decode cL_asks 6 = .ok (.iload_n 3, 1) := by decide +kernel
theorem dL_asks_7 : decode cL_asks 7 = .ok (.iload 4, 2) := by decide +kernel
theorem dL_asks_9 : decode cL_asks 9 = .ok (.invokevirtual 10, 3) := by decide +kernel
theorem dL_asks_12 : decode cL_asks 12 = .ok (.goto 124, 3) := by decide +kernel
theorem dL_asks_15 : decode cL_asks 15 = .ok (.iload_n 1, 1) := by decide +kernel
theorem dL_asks_16 : decode cL_asks 16 = .ok (.iconst 1, 1) := by decide +kernel
theorem dL_asks_17 : decode cL_asks 17 = .ok (.if_icmp .ne 18, 3) := by decide +kernel
theorem dL_asks_20 : decode cL_asks 20 = .ok (.aload_n 0, 1) := by decide +kernel
theorem dL_asks_21 : decode cL_asks 21 = .ok (.iload_n 2, 1) := by decide +kernel
theorem dL_asks_22 : decode cL_asks 22 = .ok (.iload_n 3, 1) := by decide +kernel
theorem dL_asks_23 : decode cL_asks 23 = .ok (.iload 4, 2) := by decide +kernel
theorem dL_asks_25 : decode cL_asks 25 = .ok (.iload 5, 2) := by decide +kernel
theorem dL_asks_27 : decode cL_asks 27 = .ok (.iload 6, 2) := by decide +kernel
theorem dL_asks_29 : decode cL_asks 29 = .ok (.invokevirtual 16, 3) := by decide +kernel
theorem dL_asks_32 : decode cL_asks 32 = .ok (.goto 104, 3) := by decide +kernel
theorem dL_asks_35 : decode cL_asks 35 = .ok (.iload_n 1, 1) := by decide +kernel
theorem dL_asks_36 : decode cL_asks 36 = .ok (.iconst 2, 1) := by decide +kernel
theorem dL_asks_37 : decode cL_asks 37 = .ok (.if_icmp .ne 16, 3) := by decide +kernel
theorem dL_asks_40 : decode cL_asks 40 = .ok (.aload_n 0, 1) := by decide +kernel
theorem dL_asks_41 : decode cL_asks 41 = .ok (.iload_n 2, 1) := by decide +kernel
theorem dL_asks_42 : decode cL_asks 42 = .ok (.iload_n 3, 1) := by decide +kernel
theorem dL_asks_43 : decode cL_asks 43 = .ok (.iload 4, 2) := by decide +kernel
theorem dL_asks_45 : decode cL_asks 45 = .ok (.iload 5, 2) := by decide +kernel
theorem dL_asks_47 : decode cL_asks 47 = .ok (.invokevirtual 20, 3) := by decide +kernel
theorem dL_asks_50 : decode cL_asks 50 = .ok (.goto 86, 3) := by decide +kernel
theorem dL_asks_53 : decode cL_asks 53 = .ok (.iload_n 1, 1) := by decide +kernel
theorem dL_asks_54 : decode cL_asks 54 = .ok (.iconst 3, 1) := by decide +kernel
theorem dL_asks_55 : decode cL_asks 55 = .ok (.if_icmp .ne 16, 3) := by decide +kernel
theorem dL_asks_58 : decode cL_asks 58 = .ok (.aload_n 0, 1) := by decide +kernel
theorem dL_asks_59 : decode cL_asks 59 = .ok (.iload_n 2, 1) := by decide +kernel
theorem dL_asks_60 : decode cL_asks 60 = .ok (.iload_n 3, 1) := by decide +kernel
theorem dL_asks_61 : decode cL_asks 61 = .ok (.iload 4, 2) := by decide +kernel
theorem dL_asks_63 : decode cL_asks 63 = .ok (.iload 5, 2) := by decide +kernel
theorem dL_asks_65 : decode cL_asks 65 = .ok (.invokevirtual 24, 3) := by decide +kernel
theorem dL_asks_68 : decode cL_asks 68 = .ok (.goto 68, 3) := by decide +kernel
theorem dL_asks_71 : decode cL_asks 71 = .ok (.iload_n 1, 1) := by decide +kernel
