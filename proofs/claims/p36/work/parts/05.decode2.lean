theorem dL_asks_72 : decode cL_asks 72 = .ok (.iconst 4, 1) := by decide +kernel
theorem dL_asks_73 : decode cL_asks 73 = .ok (.if_icmp .ne 11, 3) := by decide +kernel
theorem dL_asks_76 : decode cL_asks 76 = .ok (.aload_n 0, 1) := by decide +kernel
theorem dL_asks_77 : decode cL_asks 77 = .ok (.iload_n 2, 1) := by decide +kernel
theorem dL_asks_78 : decode cL_asks 78 = .ok (.invokevirtual 27, 3) := by decide +kernel
theorem dL_asks_81 : decode cL_asks 81 = .ok (.goto 55, 3) := by decide +kernel
theorem dL_asks_84 : decode cL_asks 84 = .ok (.iload_n 1, 1) := by decide +kernel
theorem dL_asks_85 : decode cL_asks 85 = .ok (.iconst 5, 1) := by decide +kernel
theorem dL_asks_86 : decode cL_asks 86 = .ok (.if_icmp .ne 11, 3) := by decide +kernel
theorem dL_asks_89 : decode cL_asks 89 = .ok (.aload_n 0, 1) := by decide +kernel
theorem dL_asks_90 : decode cL_asks 90 = .ok (.iload_n 2, 1) := by decide +kernel
theorem dL_asks_91 : decode cL_asks 91 = .ok (.invokevirtual 31, 3) := by decide +kernel
theorem dL_asks_94 : decode cL_asks 94 = .ok (.goto 42, 3) := by decide +kernel
theorem dL_asks_97 : decode cL_asks 97 = .ok (.iload_n 1, 1) := by decide +kernel
theorem dL_asks_98 : decode cL_asks 98 = .ok (.bipush 6, 2) := by decide +kernel
theorem dL_asks_100 : decode cL_asks 100 = .ok (.if_icmp .ne 11, 3) := by decide +kernel
theorem dL_asks_103 : decode cL_asks 103 = .ok (.aload_n 0, 1) := by decide +kernel
theorem dL_asks_104 : decode cL_asks 104 = .ok (.iload_n 2, 1) := by decide +kernel
theorem dL_asks_105 : decode cL_asks 105 = .ok (.invokevirtual 34, 3) := by decide +kernel
theorem dL_asks_108 : decode cL_asks 108 = .ok (.goto 28, 3) := by decide +kernel
theorem dL_asks_111 : decode cL_asks 111 = .ok (.iload_n 1, 1) := by decide +kernel
theorem dL_asks_112 : decode cL_asks 112 = .ok (.bipush 7, 2) := by decide +kernel
theorem dL_asks_114 : decode cL_asks 114 = .ok (.if_icmp .ne 14, 3) := by decide +kernel
theorem dL_asks_117 : decode cL_asks 117 = .ok (.aload_n 0, 1) := by decide +kernel
theorem dL_asks_118 : decode cL_asks 118 = .ok (.iload_n 2, 1) := by decide +kernel
theorem dL_asks_119 : decode cL_asks 119 = .ok (.iload_n 3, 1) := by decide +kernel
theorem dL_asks_120 : decode cL_asks 120 = .ok (.iload 4, 2) := by decide +kernel
theorem dL_asks_122 : decode cL_asks 122 = .ok (.invokevirtual 37, 3) := by decide +kernel
theorem dL_asks_125 : decode cL_asks 125 = .ok (.goto 11, 3) := by decide +kernel
theorem dL_asks_128 : decode cL_asks 128 = .ok (.aload_n 0, 1) := by decide +kernel
theorem dL_asks_129 : decode cL_asks 129 = .ok (.iload_n 2, 1) := by decide +kernel
theorem dL_asks_130 : decode cL_asks 130 = .ok (.iload_n 3, 1) := by decide +kernel
theorem dL_asks_131 : decode cL_asks 131 = .ok (.iload 4, 2) := by decide +kernel
theorem dL_asks_133 : decode cL_asks 133 = .ok (.invokevirtual 40, 3) := by decide +kernel
theorem dL_asks_136 : decode cL_asks 136 = .ok (.ireturn, 1) := by decide +kernel
theorem dL_asks_137 : decode cL_asks 137 = .ok (.astore 7, 2) := by decide +kernel
theorem dL_asks_139 : decode cL_asks 139 = .ok (.ldc 45, 2) := by decide +kernel
theorem dL_asks_141 : decode cL_asks 141 = .ok (.ireturn, 1) := by decide +kernel
theorem dL_asks_142 : decode cL_asks 142 = .ok (.astore 7, 2) := by decide +kernel
theorem dL_asks_144 : decode cL_asks 144 = .ok (.ldc 48, 2) := by decide +kernel
theorem dL_asks_146 : decode cL_asks 146 = .ok (.ireturn, 1) := by decide +kernel
theorem dL_asks_147 : decode cL_asks 147 = .ok (.astore 7, 2) := by decide +kernel
theorem dL_asks_149 : decode cL_asks 149 = .ok (.ldc 51, 2) := by decide +kernel
theorem dL_asks_151 : decode cL_asks 151 = .ok (.ireturn, 1) := by decide +kernel
theorem dL_keeps_0 : decode cL_keeps 0 = .ok (.aload_n 0, 1) := by decide +kernel
theorem dL_keeps_1 : decode cL_keeps 1 = .ok (.iconst 4, 1) := by decide +kernel
theorem dL_keeps_2 : decode cL_keeps 2 = .ok (.iload_n 1, 1) := by decide +kernel
theorem dL_keeps_3 : decode cL_keeps 3 = .ok (.iconst 0, 1) := by decide +kernel
theorem dL_keeps_4 : decode cL_keeps 4 = .ok (.iconst 0, 1) := by decide +kernel
theorem dL_keeps_5 : decode cL_keeps 5 = .ok (.iconst 0, 1) := by decide +kernel
theorem dL_keeps_6 : decode cL_keeps 6 = .ok (.iconst 0, 1) := by decide +kernel
theorem dL_keeps_7 : decode cL_keeps 7 = .ok (.invokestatic 52, 3) := by decide +kernel
theorem dL_keeps_10 : decode cL_keeps 10 = .ok (.ldc 45, 2) := by decide +kernel
theorem dL_keeps_12 : decode cL_keeps 12 = .ok (.if_icmp .ne 22, 3) := by decide +kernel
theorem dL_keeps_15 : decode cL_keeps 15 = .ok (.aload_n 0, 1) := by decide +kernel
theorem dL_keeps_16 : decode cL_keeps 16 = .ok (.iconst 4, 1) := by decide +kernel
theorem dL_keeps_17 : decode cL_keeps 17 = .ok (.iconst (-1), 1) := by decide +kernel
theorem dL_keeps_18 : decode cL_keeps 18 = .ok (.iconst 0, 1) := by decide +kernel
theorem dL_keeps_19 : decode cL_keeps 19 = .ok (.iconst 0, 1) := by decide +kernel
theorem dL_keeps_20 : decode cL_keeps 20 = .ok (.iconst 0, 1) := by decide +kernel
theorem dL_keeps_21 : decode cL_keeps 21 = .ok (.iconst 0, 1) := by decide +kernel
theorem dL_keeps_22 : decode cL_keeps 22 = .ok (.invokestatic 52, 3) := by decide +kernel
theorem dL_keeps_25 : decode cL_keeps 25 = .ok (.ldc 45, 2) := by decide +kernel
theorem dL_keeps_27 : decode cL_keeps 27 = .ok (.if_icmp .ne 7, 3) := by decide +kernel
theorem dL_keeps_30 : decode cL_keeps 30 = .ok (.iconst 1, 1) := by decide +kernel
theorem dL_keeps_31 : decode cL_keeps 31 = .ok (.goto 4, 3) := by decide +kernel
theorem dL_keeps_34 : decode cL_keeps 34 = .ok (.iconst 0, 1) := by decide +kernel
theorem dL_keeps_35 : decode cL_keeps 35 = .ok (.istore_n 3, 1) := by decide +kernel
theorem dL_keeps_36 : decode cL_keeps 36 = .ok (.iconst 0, 1) := by decide +kernel
theorem dL_keeps_37 : decode cL_keeps 37 = .ok (.istore 4, 2) := by decide +kernel
theorem dL_keeps_39 : decode cL_keeps 39 = .ok (.iload 4, 2) := by decide +kernel
theorem dL_keeps_41 : decode cL_keeps 41 = .ok (.iload_n 1, 1) := by decide +kernel
theorem dL_keeps_42 : decode cL_keeps 42 = .ok (.if_icmp .ge 51, 3) := by decide +kernel
theorem dL_keeps_45 : decode cL_keeps 45 = .ok (.iload_n 3, 1) := by decide +kernel
theorem dL_keeps_46 : decode cL_keeps 46 = .ok (.ifCond .eq 47, 3) := by decide +kernel
theorem dL_keeps_49 : decode cL_keeps 49 = .ok (.aload_n 2, 1) := by decide +kernel
theorem dL_keeps_50 : decode cL_keeps 50 = .ok (.iload 4, 2) := by decide +kernel
theorem dL_keeps_52 : decode cL_keeps 52 = .ok (.aload_n 0, 1) := by decide +kernel
theorem dL_keeps_53 : decode cL_keeps 53 = .ok (.iconst 4, 1) := by decide +kernel
theorem dL_keeps_54 : decode cL_keeps 54 = .ok (.iload 4, 2) := by decide +kernel
theorem dL_keeps_56 : decode cL_keeps 56 = .ok (.iconst 0, 1) := by decide +kernel
theorem dL_keeps_57 : decode cL_keeps 57 = .ok (.iconst 0, 1) := by decide +kernel
theorem dL_keeps_58 : decode cL_keeps 58 = .ok (.iconst 0, 1) := by decide +kernel
theorem dL_keeps_59 : decode cL_keeps 59 = .ok (.iconst 0, 1) := by decide +kernel
theorem dL_keeps_60 : decode cL_keeps 60 = .ok (.invokestatic 52, 3) := by decide +kernel
theorem dL_keeps_63 : decode cL_keeps 63 = .ok (.iastore, 1) := by decide +kernel
theorem dL_keeps_64 : decode cL_keeps 64 = .ok (.aload_n 2, 1) := by decide +kernel
theorem dL_keeps_65 : decode cL_keeps 65 = .ok (.iload 4, 2) := by decide +kernel
theorem dL_keeps_67 : decode cL_keeps 67 = .ok (.iaload, 1) := by decide +kernel
theorem dL_keeps_68 : decode cL_keeps 68 = .ok (.ifCond .lt 17, 3) := by decide +kernel
theorem dL_keeps_71 : decode cL_keeps 71 = .ok (.aload_n 2, 1) := by decide +kernel
theorem dL_keeps_72 : decode cL_keeps 72 = .ok (.iload 4, 2) := by decide +kernel
theorem dL_keeps_74 : decode cL_keeps 74 = .ok (.iaload, 1) := by decide +kernel
theorem dL_keeps_75 : decode cL_keeps 75 = .ok (.sipush 200, 3) := by decide +kernel
theorem dL_keeps_78 : decode cL_keeps 78 = .ok (.if_icmp .ge 7, 3) := by decide +kernel
theorem dL_keeps_81 : decode cL_keeps 81 = .ok (.iconst 1, 1) := by decide +kernel
theorem dL_keeps_82 : decode cL_keeps 82 = .ok (.goto 4, 3) := by decide +kernel
theorem dL_keeps_85 : decode cL_keeps 85 = .ok (.iconst 0, 1) := by decide +kernel
theorem dL_keeps_86 : decode cL_keeps 86 = .ok (.istore_n 3, 1) := by decide +kernel
theorem dL_keeps_87 : decode cL_keeps 87 = .ok (.iinc 4 1, 3) := by decide +kernel
theorem dL_keeps_90 : decode cL_keeps 90 = .ok (.goto (-51), 3) := by decide +kernel
theorem dL_keeps_93 : decode cL_keeps 93 = .ok (.iload_n 3, 1) := by decide +kernel
theorem dL_keeps_94 : decode cL_keeps 94 = .ok (.ireturn, 1) := by decide +kernel
theorem dL_isSame_0 : decode cL_isSame 0 = .ok (.iconst 1, 1) := by decide +kernel
theorem dL_isSame_1 : decode cL_isSame 1 = .ok (.istore_n 3, 1) := by decide +kernel
theorem dL_isSame_2 : decode cL_isSame 2 = .ok (.iconst 0, 1) := by decide +kernel
theorem dL_isSame_3 : decode cL_isSame 3 = .ok (.istore 4, 2) := by decide +kernel
theorem dL_isSame_5 : decode cL_isSame 5 = .ok (.iload 4, 2) := by decide +kernel
theorem dL_isSame_7 : decode cL_isSame 7 = .ok (.iload_n 1, 1) := by decide +kernel
theorem dL_isSame_8 : decode cL_isSame 8 = .ok (.if_icmp .ge 32, 3) := by decide +kernel
theorem dL_isSame_11 : decode cL_isSame 11 = .ok (.iload_n 3, 1) := by decide +kernel
theorem dL_isSame_12 : decode cL_isSame 12 = .ok (.ifCond .eq 28, 3) := by decide +kernel
theorem dL_isSame_15 : decode cL_isSame 15 = .ok (.aload_n 0, 1) := by decide +kernel
theorem dL_isSame_16 : decode cL_isSame 16 = .ok (.iload 4, 2) := by decide +kernel
theorem dL_isSame_18 : decode cL_isSame 18 = .ok (.invokevirtual 27, 3) := by decide +kernel
theorem dL_isSame_21 : decode cL_isSame 21 = .ok (.aload_n 2, 1) := by decide +kernel
theorem dL_isSame_22 : decode cL_isSame 22 = .ok (.iload 4, 2) := by decide +kernel
theorem dL_isSame_24 : decode cL_isSame 24 = .ok (.iaload, 1) := by decide +kernel
theorem dL_isSame_25 : decode cL_isSame 25 = .ok (.if_icmp .ne 7, 3) := by decide +kernel
theorem dL_isSame_28 : decode cL_isSame 28 = .ok (.iconst 1, 1) := by decide +kernel
theorem dL_isSame_29 : decode cL_isSame 29 = .ok (.goto 4, 3) := by decide +kernel
theorem dL_isSame_32 : decode cL_isSame 32 = .ok (.iconst 0, 1) := by decide +kernel
theorem dL_isSame_33 : decode cL_isSame 33 = .ok (.istore_n 3, 1) := by decide +kernel
theorem dL_isSame_34 : decode cL_isSame 34 = .ok (.iinc 4 1, 3) := by decide +kernel
theorem dL_isSame_37 : decode cL_isSame 37 = .ok (.goto (-32), 3) := by decide +kernel
theorem dL_isSame_40 : decode cL_isSame 40 = .ok (.iload_n 3, 1) := by decide +kernel
theorem dL_isSame_41 : decode cL_isSame 41 = .ok (.ireturn, 1) := by decide +kernel
theorem dL_isSaying_0 : decode cL_isSaying 0 = .ok (.bipush 20, 2) := by decide +kernel
theorem dL_isSaying_2 : decode cL_isSaying 2 = .ok (.newarray .int, 2) := by decide +kernel
theorem dL_isSaying_4 : decode cL_isSaying 4 = .ok (.astore 4, 2) := by decide +kernel
theorem dL_isSaying_6 : decode cL_isSaying 6 = .ok (.aload_n 0, 1) := by decide +kernel
theorem dL_isSaying_7 : decode cL_isSaying 7 = .ok (.iload_n 1, 1) := by decide +kernel
theorem dL_isSaying_8 : decode cL_isSaying 8 = .ok (.iload_n 2, 1) := by decide +kernel
theorem dL_isSaying_9 : decode cL_isSaying 9 = .ok (.iload_n 3, 1) := by decide +kernel
theorem dL_isSaying_10 : decode cL_isSaying 10 = .ok (.invokevirtual 58, 3) := by decide +kernel
theorem dL_isSaying_13 : decode cL_isSaying 13 = .ok (.istore 5, 2) := by decide +kernel
theorem dL_isSaying_15 : decode cL_isSaying 15 = .ok (.iload 5, 2) := by decide +kernel
theorem dL_isSaying_17 : decode cL_isSaying 17 = .ok (.ifCond .lt 25, 3) := by decide +kernel
theorem dL_isSaying_20 : decode cL_isSaying 20 = .ok (.iload 5, 2) := by decide +kernel
theorem dL_isSaying_22 : decode cL_isSaying 22 = .ok (.bipush 20, 2) := by decide +kernel
theorem dL_isSaying_24 : decode cL_isSaying 24 = .ok (.if_icmp .gt 18, 3) := by decide +kernel
theorem dL_isSaying_27 : decode cL_isSaying 27 = .ok (.aload_n 0, 1) := by decide +kernel
theorem dL_isSaying_28 : decode cL_isSaying 28 = .ok (.iload 5, 2) := by decide +kernel
theorem dL_isSaying_30 : decode cL_isSaying 30 = .ok (.aload 4, 2) := by decide +kernel
theorem dL_isSaying_32 : decode cL_isSaying 32 = .ok (.invokestatic 61, 3) := by decide +kernel
theorem dL_isSaying_35 : decode cL_isSaying 35 = .ok (.ifCond .eq 7, 3) := by decide +kernel
theorem dL_isSaying_38 : decode cL_isSaying 38 = .ok (.iconst 1, 1) := by decide +kernel
theorem dL_isSaying_39 : decode cL_isSaying 39 = .ok (.goto 4, 3) := by decide +kernel
theorem dL_isSaying_42 : decode cL_isSaying 42 = .ok (.iconst 0, 1) := by decide +kernel
theorem dL_isSaying_43 : decode cL_isSaying 43 = .ok (.istore 6, 2) := by decide +kernel
theorem dL_isSaying_45 : decode cL_isSaying 45 = .ok (.iload 6, 2) := by decide +kernel
theorem dL_isSaying_47 : decode cL_isSaying 47 = .ok (.ifCond .eq 30, 3) := by decide +kernel
theorem dL_isSaying_50 : decode cL_isSaying 50 = .ok (.aload_n 0, 1) := by decide +kernel
theorem dL_isSaying_51 : decode cL_isSaying 51 = .ok (.iload_n 1, 1) := by decide +kernel
theorem dL_isSaying_52 : decode cL_isSaying 52 = .ok (.iload_n 2, 1) := by decide +kernel
theorem dL_isSaying_53 : decode cL_isSaying 53 = .ok (.iload_n 3, 1) := by decide +kernel
theorem dL_isSaying_54 : decode cL_isSaying 54 = .ok (.invokevirtual 58, 3) := by decide +kernel
theorem dL_isSaying_57 : decode cL_isSaying 57 = .ok (.iload 5, 2) := by decide +kernel
theorem dL_isSaying_59 : decode cL_isSaying 59 = .ok (.if_icmp .ne 18, 3) := by decide +kernel
theorem dL_isSaying_62 : decode cL_isSaying 62 = .ok (.aload_n 0, 1) := by decide +kernel
theorem dL_isSaying_63 : decode cL_isSaying 63 = .ok (.iload 5, 2) := by decide +kernel
theorem dL_isSaying_65 : decode cL_isSaying 65 = .ok (.aload 4, 2) := by decide +kernel
theorem dL_isSaying_67 : decode cL_isSaying 67 = .ok (.invokestatic 65, 3) := by decide +kernel
theorem dL_isSaying_70 : decode cL_isSaying 70 = .ok (.ifCond .eq 7, 3) := by decide +kernel
theorem dL_isSaying_73 : decode cL_isSaying 73 = .ok (.iconst 1, 1) := by decide +kernel
theorem dL_isSaying_74 : decode cL_isSaying 74 = .ok (.goto 4, 3) := by decide +kernel
theorem dL_isSaying_77 : decode cL_isSaying 77 = .ok (.iconst 0, 1) := by decide +kernel
theorem dL_isSaying_78 : decode cL_isSaying 78 = .ok (.istore 6, 2) := by decide +kernel
theorem dL_isSaying_80 : decode cL_isSaying 80 = .ok (.aload_n 0, 1) := by decide +kernel
theorem dL_isSaying_81 : decode cL_isSaying 81 = .ok (.iload_n 1, 1) := by decide +kernel
theorem dL_isSaying_82 : decode cL_isSaying 82 = .ok (.iload_n 2, 1) := by decide +kernel
theorem dL_isSaying_83 : decode cL_isSaying 83 = .ok (.invokevirtual 68, 3) := by decide +kernel
theorem dL_isSaying_86 : decode cL_isSaying 86 = .ok (.istore 7, 2) := by decide +kernel
theorem dL_isSaying_88 : decode cL_isSaying 88 = .ok (.iload 6, 2) := by decide +kernel
theorem dL_isSaying_90 : decode cL_isSaying 90 = .ok (.ifCond .eq 29, 3) := by decide +kernel
theorem dL_isSaying_93 : decode cL_isSaying 93 = .ok (.iload 7, 2) := by decide +kernel
theorem dL_isSaying_95 : decode cL_isSaying 95 = .ok (.ifCond .lt 24, 3) := by decide +kernel
theorem dL_isSaying_98 : decode cL_isSaying 98 = .ok (.iload 7, 2) := by decide +kernel
theorem dL_isSaying_100 : decode cL_isSaying 100 = .ok (.bipush 20, 2) := by decide +kernel
theorem dL_isSaying_102 : decode cL_isSaying 102 = .ok (.if_icmp .gt 17, 3) := by decide +kernel
theorem dL_isSaying_105 : decode cL_isSaying 105 = .ok (.iload 5, 2) := by decide +kernel
theorem dL_isSaying_107 : decode cL_isSaying 107 = .ok (.ifCond .gt 8, 3) := by decide +kernel
theorem dL_isSaying_110 : decode cL_isSaying 110 = .ok (.iload 7, 2) := by decide +kernel
theorem dL_isSaying_112 : decode cL_isSaying 112 = .ok (.ifCond .ne 7, 3) := by decide +kernel
theorem dL_isSaying_115 : decode cL_isSaying 115 = .ok (.iconst 1, 1) := by decide +kernel
theorem dL_isSaying_116 : decode cL_isSaying 116 = .ok (.goto 4, 3) := by decide +kernel
theorem dL_isSaying_119 : decode cL_isSaying 119 = .ok (.iconst 0, 1) := by decide +kernel
theorem dL_isSaying_120 : decode cL_isSaying 120 = .ok (.istore 6, 2) := by decide +kernel
theorem dL_isSaying_122 : decode cL_isSaying 122 = .ok (.aload_n 0, 1) := by decide +kernel
theorem dL_isSaying_123 : decode cL_isSaying 123 = .ok (.iload_n 1, 1) := by decide +kernel
theorem dL_isSaying_124 : decode cL_isSaying 124 = .ok (.iload_n 2, 1) := by decide +kernel
theorem dL_isSaying_125 : decode cL_isSaying 125 = .ok (.iload_n 2, 1) := by decide +kernel
theorem dL_isSaying_126 : decode cL_isSaying 126 = .ok (.iconst 1, 1) := by decide +kernel
theorem dL_isSaying_127 : decode cL_isSaying 127 = .ok (.iadd, 1) := by decide +kernel
theorem dL_isSaying_128 : decode cL_isSaying 128 = .ok (.iload_n 3, 1) := by decide +kernel
theorem dL_isSaying_129 : decode cL_isSaying 129 = .ok (.invokevirtual 72, 3) := by decide +kernel
theorem dL_isSaying_132 : decode cL_isSaying 132 = .ok (.istore 8, 2) := by decide +kernel
theorem dL_isSaying_134 : decode cL_isSaying 134 = .ok (.iload 6, 2) := by decide +kernel
theorem dL_isSaying_136 : decode cL_isSaying 136 = .ok (.ifCond .eq 29, 3) := by decide +kernel
theorem dL_isSaying_139 : decode cL_isSaying 139 = .ok (.iload 8, 2) := by decide +kernel
theorem dL_isSaying_141 : decode cL_isSaying 141 = .ok (.ifCond .lt 24, 3) := by decide +kernel
theorem dL_isSaying_144 : decode cL_isSaying 144 = .ok (.iload 8, 2) := by decide +kernel
theorem dL_isSaying_146 : decode cL_isSaying 146 = .ok (.bipush 20, 2) := by decide +kernel
theorem dL_isSaying_148 : decode cL_isSaying 148 = .ok (.if_icmp .gt 17, 3) := by decide +kernel
theorem dL_isSaying_151 : decode cL_isSaying 151 = .ok (.iload 5, 2) := by decide +kernel
theorem dL_isSaying_153 : decode cL_isSaying 153 = .ok (.ifCond .gt 8, 3) := by decide +kernel
theorem dL_isSaying_156 : decode cL_isSaying 156 = .ok (.iload 8, 2) := by decide +kernel
theorem dL_isSaying_158 : decode cL_isSaying 158 = .ok (.ifCond .ne 7, 3) := by decide +kernel
theorem dL_isSaying_161 : decode cL_isSaying 161 = .ok (.iconst 1, 1) := by decide +kernel
theorem dL_isSaying_162 : decode cL_isSaying 162 = .ok (.goto 4, 3) := by decide +kernel
theorem dL_isSaying_165 : decode cL_isSaying 165 = .ok (.iconst 0, 1) := by decide +kernel
theorem dL_isSaying_166 : decode cL_isSaying 166 = .ok (.ireturn, 1) := by decide +kernel
theorem dL_hears_0 : decode cL_hears 0 = .ok (.aload_n 0, 1) := by decide +kernel
theorem dL_hears_1 : decode cL_hears 1 = .ok (.iload_n 1, 1) := by decide +kernel
theorem dL_hears_2 : decode cL_hears 2 = .ok (.iload_n 2, 1) := by decide +kernel
theorem dL_hears_3 : decode cL_hears 3 = .ok (.iload_n 3, 1) := by decide +kernel
theorem dL_hears_4 : decode cL_hears 4 = .ok (.invokevirtual 58, 3) := by decide +kernel
theorem dL_hears_7 : decode cL_hears 7 = .ok (.istore 6, 2) := by decide +kernel
theorem dL_hears_9 : decode cL_hears 9 = .ok (.aload_n 0, 1) := by decide +kernel
theorem dL_hears_10 : decode cL_hears 10 = .ok (.invokevirtual 75, 3) := by decide +kernel
theorem dL_hears_13 : decode cL_hears 13 = .ok (.istore 7, 2) := by decide +kernel
theorem dL_hears_15 : decode cL_hears 15 = .ok (.iload 6, 2) := by decide +kernel
theorem dL_hears_17 : decode cL_hears 17 = .ok (.ifCond .ne 66, 3) := by decide +kernel
theorem dL_hears_20 : decode cL_hears 20 = .ok (.iload 7, 2) := by decide +kernel
theorem dL_hears_22 : decode cL_hears 22 = .ok (.ifCond .ne 59, 3) := by decide +kernel
theorem dL_hears_25 : decode cL_hears 25 = .ok (.aload_n 0, 1) := by decide +kernel
theorem dL_hears_26 : decode cL_hears 26 = .ok (.iload_n 1, 1) := by decide +kernel
theorem dL_hears_27 : decode cL_hears 27 = .ok (.iload_n 3, 1) := by decide +kernel
theorem dL_hears_28 : decode cL_hears 28 = .ok (.iload 4, 2) := by decide +kernel
theorem dL_hears_30 : decode cL_hears 30 = .ok (.invokevirtual 79, 3) := by decide +kernel
theorem dL_hears_33 : decode cL_hears 33 = .ok (.ifCond .ne 48, 3) := by decide +kernel
theorem dL_hears_36 : decode cL_hears 36 = .ok (.aload_n 0, 1) := by decide +kernel
theorem dL_hears_37 : decode cL_hears 37 = .ok (.iload_n 1, 1) := by decide +kernel
theorem dL_hears_38 : decode cL_hears 38 = .ok (.iload_n 3, 1) := by decide +kernel
theorem dL_hears_39 : decode cL_hears 39 = .ok (.iload 4, 2) := by decide +kernel
theorem dL_hears_41 : decode cL_hears 41 = .ok (.invokevirtual 82, 3) := by decide +kernel
theorem dL_hears_44 : decode cL_hears 44 = .ok (.iconst (-1), 1) := by decide +kernel
theorem dL_hears_45 : decode cL_hears 45 = .ok (.if_icmp .ne 36, 3) := by decide +kernel
theorem dL_hears_48 : decode cL_hears 48 = .ok (.aload_n 0, 1) := by decide +kernel
theorem dL_hears_49 : decode cL_hears 49 = .ok (.iload_n 1, 1) := by decide +kernel
theorem dL_hears_50 : decode cL_hears 50 = .ok (.iload_n 3, 1) := by decide +kernel
theorem dL_hears_51 : decode cL_hears 51 = .ok (.iload 4, 2) := by decide +kernel
theorem dL_hears_53 : decode cL_hears 53 = .ok (.iconst 0, 1) := by decide +kernel
theorem dL_hears_54 : decode cL_hears 54 = .ok (.invokevirtual 85, 3) := by decide +kernel
theorem dL_hears_57 : decode cL_hears 57 = .ok (.iconst (-1), 1) := by decide +kernel
theorem dL_hears_58 : decode cL_hears 58 = .ok (.if_icmp .ne 23, 3) := by decide +kernel
theorem dL_hears_61 : decode cL_hears 61 = .ok (.aload_n 0, 1) := by decide +kernel
theorem dL_hears_62 : decode cL_hears 62 = .ok (.bipush 6, 2) := by decide +kernel
theorem dL_hears_64 : decode cL_hears 64 = .ok (.iload_n 2, 1) := by decide +kernel
theorem dL_hears_65 : decode cL_hears 65 = .ok (.iconst 0, 1) := by decide +kernel
theorem dL_hears_66 : decode cL_hears 66 = .ok (.iconst 0, 1) := by decide +kernel
theorem dL_hears_67 : decode cL_hears 67 = .ok (.iconst 0, 1) := by decide +kernel
theorem dL_hears_68 : decode cL_hears 68 = .ok (.iconst 0, 1) := by decide +kernel
theorem dL_hears_69 : decode cL_hears 69 = .ok (.invokestatic 52, 3) := by decide +kernel
theorem dL_hears_72 : decode cL_hears 72 = .ok (.ldc 51, 2) := by decide +kernel
theorem dL_hears_74 : decode cL_hears 74 = .ok (.if_icmp .ne 7, 3) := by decide +kernel
theorem dL_hears_77 : decode cL_hears 77 = .ok (.iconst 1, 1) := by decide +kernel
theorem dL_hears_78 : decode cL_hears 78 = .ok (.goto 4, 3) := by decide +kernel
theorem dL_hears_81 : decode cL_hears 81 = .ok (.iconst 0, 1) := by decide +kernel
theorem dL_hears_82 : decode cL_hears 82 = .ok (.ireturn, 1) := by decide +kernel
theorem dL_hears_83 : decode cL_hears 83 = .ok (.bipush 20, 2) := by decide +kernel
theorem dL_hears_85 : decode cL_hears 85 = .ok (.newarray .int, 2) := by decide +kernel
theorem dL_hears_87 : decode cL_hears 87 = .ok (.astore 8, 2) := by decide +kernel
theorem dL_hears_89 : decode cL_hears 89 = .ok (.iconst 0, 1) := by decide +kernel
theorem dL_hears_90 : decode cL_hears 90 = .ok (.istore 9, 2) := by decide +kernel
theorem dL_hears_92 : decode cL_hears 92 = .ok (.iconst (-1), 1) := by decide +kernel
theorem dL_hears_93 : decode cL_hears 93 = .ok (.istore 10, 2) := by decide +kernel
theorem dL_hears_95 : decode cL_hears 95 = .ok (.aload_n 0, 1) := by decide +kernel
theorem dL_hears_96 : decode cL_hears 96 = .ok (.iload 6, 2) := by decide +kernel
theorem dL_hears_98 : decode cL_hears 98 = .ok (.aload 8, 2) := by decide +kernel
theorem dL_hears_100 : decode cL_hears 100 = .ok (.invokestatic 61, 3) := by decide +kernel
theorem dL_hears_103 : decode cL_hears 103 = .ok (.istore 11, 2) := by decide +kernel
theorem dL_hears_105 : decode cL_hears 105 = .ok (.iconst 0, 1) := by decide +kernel
theorem dL_hears_106 : decode cL_hears 106 = .ok (.istore 12, 2) := by decide +kernel
theorem dL_hears_108 : decode cL_hears 108 = .ok (.iload 12, 2) := by decide +kernel
theorem dL_hears_110 : decode cL_hears 110 = .ok (.iload 4, 2) := by decide +kernel
theorem dL_hears_112 : decode cL_hears 112 = .ok (.if_icmp .gt 74, 3) := by decide +kernel
theorem dL_hears_115 : decode cL_hears 115 = .ok (.aload_n 0, 1) := by decide +kernel
theorem dL_hears_116 : decode cL_hears 116 = .ok (.iload_n 1, 1) := by decide +kernel
theorem dL_hears_117 : decode cL_hears 117 = .ok (.iload 12, 2) := by decide +kernel
theorem dL_hears_119 : decode cL_hears 119 = .ok (.iload_n 3, 1) := by decide +kernel
theorem dL_hears_120 : decode cL_hears 120 = .ok (.invokevirtual 58, 3) := by decide +kernel
theorem dL_hears_123 : decode cL_hears 123 = .ok (.iload 6, 2) := by decide +kernel
theorem dL_hears_125 : decode cL_hears 125 = .ok (.if_icmp .ne 18, 3) := by decide +kernel
theorem dL_hears_128 : decode cL_hears 128 = .ok (.aload_n 0, 1) := by decide +kernel
theorem dL_hears_129 : decode cL_hears 129 = .ok (.iload 6, 2) := by decide +kernel
theorem dL_hears_131 : decode cL_hears 131 = .ok (.aload 8, 2) := by decide +kernel
theorem dL_hears_133 : decode cL_hears 133 = .ok (.invokestatic 65, 3) := by decide +kernel
theorem dL_hears_136 : decode cL_hears 136 = .ok (.ifCond .eq 7, 3) := by decide +kernel
theorem dL_hears_139 : decode cL_hears 139 = .ok (.iconst 1, 1) := by decide +kernel
theorem dL_hears_140 : decode cL_hears 140 = .ok (.goto 4, 3) := by decide +kernel
theorem dL_hears_143 : decode cL_hears 143 = .ok (.iconst 0, 1) := by decide +kernel
theorem dL_hears_144 : decode cL_hears 144 = .ok (.istore 13, 2) := by decide +kernel
theorem dL_hears_146 : decode cL_hears 146 = .ok (.iload 13, 2) := by decide +kernel
theorem dL_hears_148 : decode cL_hears 148 = .ok (.ifCond .eq 13, 3) := by decide +kernel
theorem dL_hears_151 : decode cL_hears 151 = .ok (.iload 10, 2) := by decide +kernel
theorem dL_hears_153 : decode cL_hears 153 = .ok (.ifCond .ge 8, 3) := by decide +kernel
theorem dL_hears_156 : decode cL_hears 156 = .ok (.iload 12, 2) := by decide +kernel
theorem dL_hears_158 : decode cL_hears 158 = .ok (.goto 5, 3) := by decide +kernel
theorem dL_hears_161 : decode cL_hears 161 = .ok (.iload 10, 2) := by decide +kernel
theorem dL_hears_163 : decode cL_hears 163 = .ok (.istore 10, 2) := by decide +kernel
theorem dL_hears_165 : decode cL_hears 165 = .ok (.iload 9, 2) := by decide +kernel
theorem dL_hears_167 : decode cL_hears 167 = .ok (.iload 13, 2) := by decide +kernel
theorem dL_hears_169 : decode cL_hears 169 = .ok (.ifCond .eq 7, 3) := by decide +kernel
theorem dL_hears_172 : decode cL_hears 172 = .ok (.iconst 1, 1) := by decide +kernel
theorem dL_hears_173 : decode cL_hears 173 = .ok (.goto 4, 3) := by decide +kernel
theorem dL_hears_176 : decode cL_hears 176 = .ok (.iconst 0, 1) := by decide +kernel
theorem dL_hears_177 : decode cL_hears 177 = .ok (.iadd, 1) := by decide +kernel
theorem dL_hears_178 : decode cL_hears 178 = .ok (.istore 9, 2) := by decide +kernel
theorem dL_hears_180 : decode cL_hears 180 = .ok (.iinc 12 1, 3) := by decide +kernel
theorem dL_hears_183 : decode cL_hears 183 = .ok (.goto (-75), 3) := by decide +kernel
theorem dL_hears_186 : decode cL_hears 186 = .ok (.iload 11, 2) := by decide +kernel
theorem dL_hears_188 : decode cL_hears 188 = .ok (.ifCond .eq 78, 3) := by decide +kernel
theorem dL_hears_191 : decode cL_hears 191 = .ok (.iload 7, 2) := by decide +kernel
theorem dL_hears_193 : decode cL_hears 193 = .ok (.iload 6, 2) := by decide +kernel
theorem dL_hears_195 : decode cL_hears 195 = .ok (.if_icmp .ne 71, 3) := by decide +kernel
theorem dL_hears_198 : decode cL_hears 198 = .ok (.aload_n 0, 1) := by decide +kernel
theorem dL_hears_199 : decode cL_hears 199 = .ok (.iload_n 1, 1) := by decide +kernel
theorem dL_hears_200 : decode cL_hears 200 = .ok (.iload_n 3, 1) := by decide +kernel
theorem dL_hears_201 : decode cL_hears 201 = .ok (.iload 4, 2) := by decide +kernel
theorem dL_hears_203 : decode cL_hears 203 = .ok (.invokevirtual 79, 3) := by decide +kernel
theorem dL_hears_206 : decode cL_hears 206 = .ok (.iload 9, 2) := by decide +kernel
theorem dL_hears_208 : decode cL_hears 208 = .ok (.if_icmp .ne 58, 3) := by decide +kernel
theorem dL_hears_211 : decode cL_hears 211 = .ok (.aload_n 0, 1) := by decide +kernel
theorem dL_hears_212 : decode cL_hears 212 = .ok (.iload_n 1, 1) := by decide +kernel
theorem dL_hears_213 : decode cL_hears 213 = .ok (.iload_n 3, 1) := by decide +kernel
theorem dL_hears_214 : decode cL_hears 214 = .ok (.iload 4, 2) := by decide +kernel
theorem dL_hears_216 : decode cL_hears 216 = .ok (.iconst 0, 1) := by decide +kernel
theorem dL_hears_217 : decode cL_hears 217 = .ok (.invokevirtual 85, 3) := by decide +kernel
theorem dL_hears_220 : decode cL_hears 220 = .ok (.iload 10, 2) := by decide +kernel
theorem dL_hears_222 : decode cL_hears 222 = .ok (.if_icmp .ne 44, 3) := by decide +kernel
theorem dL_hears_225 : decode cL_hears 225 = .ok (.aload_n 0, 1) := by decide +kernel
theorem dL_hears_226 : decode cL_hears 226 = .ok (.iload_n 1, 1) := by decide +kernel
theorem dL_hears_227 : decode cL_hears 227 = .ok (.iload_n 3, 1) := by decide +kernel
theorem dL_hears_228 : decode cL_hears 228 = .ok (.iload 4, 2) := by decide +kernel
theorem dL_hears_230 : decode cL_hears 230 = .ok (.iload 9, 2) := by decide +kernel
theorem dL_hears_232 : decode cL_hears 232 = .ok (.invokevirtual 85, 3) := by decide +kernel
theorem dL_hears_235 : decode cL_hears 235 = .ok (.iconst (-1), 1) := by decide +kernel
theorem dL_hears_236 : decode cL_hears 236 = .ok (.if_icmp .ne 30, 3) := by decide +kernel
theorem dL_hears_239 : decode cL_hears 239 = .ok (.aload_n 0, 1) := by decide +kernel
theorem dL_hears_240 : decode cL_hears 240 = .ok (.iload_n 1, 1) := by decide +kernel
theorem dL_hears_241 : decode cL_hears 241 = .ok (.iload_n 3, 1) := by decide +kernel
theorem dL_hears_242 : decode cL_hears 242 = .ok (.iload 4, 2) := by decide +kernel
theorem dL_hears_244 : decode cL_hears 244 = .ok (.invokevirtual 82, 3) := by decide +kernel
theorem dL_hears_247 : decode cL_hears 247 = .ok (.iconst (-1), 1) := by decide +kernel
theorem dL_hears_248 : decode cL_hears 248 = .ok (.if_icmp .ne 18, 3) := by decide +kernel
theorem dL_hears_251 : decode cL_hears 251 = .ok (.iload_n 2, 1) := by decide +kernel
theorem dL_hears_252 : decode cL_hears 252 = .ok (.iload 4, 2) := by decide +kernel
theorem dL_hears_254 : decode cL_hears 254 = .ok (.if_icmp .gt 8, 3) := by decide +kernel
theorem dL_hears_257 : decode cL_hears 257 = .ok (.iload 9, 2) := by decide +kernel
theorem dL_hears_259 : decode cL_hears 259 = .ok (.ifCond .le 7, 3) := by decide +kernel
theorem dL_hears_262 : decode cL_hears 262 = .ok (.iconst 1, 1) := by decide +kernel
theorem dL_hears_263 : decode cL_hears 263 = .ok (.goto 4, 3) := by decide +kernel
theorem dL_hears_266 : decode cL_hears 266 = .ok (.iconst 0, 1) := by decide +kernel
theorem dL_hears_267 : decode cL_hears 267 = .ok (.istore 12, 2) := by decide +kernel
theorem dL_hears_269 : decode cL_hears 269 = .ok (.aload_n 0, 1) := by decide +kernel
theorem dL_hears_270 : decode cL_hears 270 = .ok (.iload_n 1, 1) := by decide +kernel
theorem dL_hears_271 : decode cL_hears 271 = .ok (.iload_n 2, 1) := by decide +kernel
theorem dL_hears_272 : decode cL_hears 272 = .ok (.iload_n 3, 1) := by decide +kernel
theorem dL_hears_273 : decode cL_hears 273 = .ok (.invokevirtual 58, 3) := by decide +kernel
theorem dL_hears_276 : decode cL_hears 276 = .ok (.iload 6, 2) := by decide +kernel
theorem dL_hears_278 : decode cL_hears 278 = .ok (.if_icmp .ne 16, 3) := by decide +kernel
theorem dL_hears_281 : decode cL_hears 281 = .ok (.aload_n 0, 1) := by decide +kernel
theorem dL_hears_282 : decode cL_hears 282 = .ok (.invokevirtual 88, 3) := by decide +kernel
theorem dL_hears_285 : decode cL_hears 285 = .ok (.iload 6, 2) := by decide +kernel
theorem dL_hears_287 : decode cL_hears 287 = .ok (.if_icmp .ne 7, 3) := by decide +kernel
theorem dL_hears_290 : decode cL_hears 290 = .ok (.iconst 1, 1) := by decide +kernel
theorem dL_hears_291 : decode cL_hears 291 = .ok (.goto 4, 3) := by decide +kernel
theorem dL_hears_294 : decode cL_hears 294 = .ok (.iconst 0, 1) := by decide +kernel
theorem dL_hears_295 : decode cL_hears 295 = .ok (.istore 13, 2) := by decide +kernel
theorem dL_hears_297 : decode cL_hears 297 = .ok (.iconst 0, 1) := by decide +kernel
theorem dL_hears_298 : decode cL_hears 298 = .ok (.istore 14, 2) := by decide +kernel
theorem dL_hears_300 : decode cL_hears 300 = .ok (.iload 14, 2) := by decide +kernel
theorem dL_hears_302 : decode cL_hears 302 = .ok (.iload 6, 2) := by decide +kernel
theorem dL_hears_304 : decode cL_hears 304 = .ok (.if_icmp .ge 61, 3) := by decide +kernel
theorem dL_hears_307 : decode cL_hears 307 = .ok (.iload 12, 2) := by decide +kernel
theorem dL_hears_309 : decode cL_hears 309 = .ok (.ifCond .eq 56, 3) := by decide +kernel
theorem dL_hears_312 : decode cL_hears 312 = .ok (.aload_n 0, 1) := by decide +kernel
theorem dL_hears_313 : decode cL_hears 313 = .ok (.iload 14, 2) := by decide +kernel
theorem dL_hears_315 : decode cL_hears 315 = .ok (.invokevirtual 27, 3) := by decide +kernel
theorem dL_hears_318 : decode cL_hears 318 = .ok (.istore 15, 2) := by decide +kernel
theorem dL_hears_320 : decode cL_hears 320 = .ok (.aload_n 0, 1) := by decide +kernel
theorem dL_hears_321 : decode cL_hears 321 = .ok (.iconst 5, 1) := by decide +kernel
theorem dL_hears_322 : decode cL_hears 322 = .ok (.iload 14, 2) := by decide +kernel
theorem dL_hears_324 : decode cL_hears 324 = .ok (.iload 5, 2) := by decide +kernel
theorem dL_hears_326 : decode cL_hears 326 = .ok (.iload 6, 2) := by decide +kernel
theorem dL_hears_328 : decode cL_hears 328 = .ok (.irem, 1) := by decide +kernel
theorem dL_hears_329 : decode cL_hears 329 = .ok (.if_icmp .ne 7, 3) := by decide +kernel
theorem dL_hears_332 : decode cL_hears 332 = .ok (.iconst (-1), 1) := by decide +kernel
theorem dL_hears_333 : decode cL_hears 333 = .ok (.goto 5, 3) := by decide +kernel
theorem dL_hears_336 : decode cL_hears 336 = .ok (.iload 15, 2) := by decide +kernel
theorem dL_hears_338 : decode cL_hears 338 = .ok (.iconst 0, 1) := by decide +kernel
theorem dL_hears_339 : decode cL_hears 339 = .ok (.iconst 0, 1) := by decide +kernel
theorem dL_hears_340 : decode cL_hears 340 = .ok (.iconst 0, 1) := by decide +kernel
theorem dL_hears_341 : decode cL_hears 341 = .ok (.iconst 0, 1) := by decide +kernel
theorem dL_hears_342 : decode cL_hears 342 = .ok (.invokestatic 52, 3) := by decide +kernel
theorem dL_hears_345 : decode cL_hears 345 = .ok (.iload 14, 2) := by decide +kernel
theorem dL_hears_347 : decode cL_hears 347 = .ok (.iconst 1, 1) := by decide +kernel
theorem dL_hears_348 : decode cL_hears 348 = .ok (.iadd, 1) := by decide +kernel
theorem dL_hears_349 : decode cL_hears 349 = .ok (.if_icmp .ne 7, 3) := by decide +kernel
theorem dL_hears_352 : decode cL_hears 352 = .ok (.iconst 1, 1) := by decide +kernel
theorem dL_hears_353 : decode cL_hears 353 = .ok (.goto 4, 3) := by decide +kernel
theorem dL_hears_356 : decode cL_hears 356 = .ok (.iconst 0, 1) := by decide +kernel
theorem dL_hears_357 : decode cL_hears 357 = .ok (.istore 12, 2) := by decide +kernel
theorem dL_hears_359 : decode cL_hears 359 = .ok (.iinc 14 1, 3) := by decide +kernel
theorem dL_hears_362 : decode cL_hears 362 = .ok (.goto (-62), 3) := by decide +kernel
theorem dL_hears_365 : decode cL_hears 365 = .ok (.aload_n 0, 1) := by decide +kernel
theorem dL_hears_366 : decode cL_hears 366 = .ok (.iload_n 1, 1) := by decide +kernel
theorem dL_hears_367 : decode cL_hears 367 = .ok (.iload_n 3, 1) := by decide +kernel
theorem dL_hears_368 : decode cL_hears 368 = .ok (.iload 4, 2) := by decide +kernel
theorem dL_hears_370 : decode cL_hears 370 = .ok (.invokevirtual 79, 3) := by decide +kernel
theorem dL_hears_373 : decode cL_hears 373 = .ok (.istore 14, 2) := by decide +kernel
theorem dL_hears_375 : decode cL_hears 375 = .ok (.aload_n 0, 1) := by decide +kernel
theorem dL_hears_376 : decode cL_hears 376 = .ok (.iload_n 1, 1) := by decide +kernel
theorem dL_hears_377 : decode cL_hears 377 = .ok (.iload_n 3, 1) := by decide +kernel
theorem dL_hears_378 : decode cL_hears 378 = .ok (.iload 4, 2) := by decide +kernel
theorem dL_hears_380 : decode cL_hears 380 = .ok (.invokevirtual 82, 3) := by decide +kernel
theorem dL_hears_383 : decode cL_hears 383 = .ok (.istore 15, 2) := by decide +kernel
theorem dL_hears_385 : decode cL_hears 385 = .ok (.iload 12, 2) := by decide +kernel
theorem dL_hears_387 : decode cL_hears 387 = .ok (.ifCond .eq 55, 3) := by decide +kernel
theorem dL_hears_390 : decode cL_hears 390 = .ok (.iload 13, 2) := by decide +kernel
theorem dL_hears_392 : decode cL_hears 392 = .ok (.ifCond .eq 50, 3) := by decide +kernel
theorem dL_hears_395 : decode cL_hears 395 = .ok (.iload 14, 2) := by decide +kernel
theorem dL_hears_397 : decode cL_hears 397 = .ok (.iload 9, 2) := by decide +kernel
theorem dL_hears_399 : decode cL_hears 399 = .ok (.if_icmp .lt 43, 3) := by decide +kernel
theorem dL_hears_402 : decode cL_hears 402 = .ok (.iload 15, 2) := by decide +kernel
theorem dL_hears_404 : decode cL_hears 404 = .ok (.iload 14, 2) := by decide +kernel
theorem dL_hears_406 : decode cL_hears 406 = .ok (.iconst 1, 1) := by decide +kernel
theorem dL_hears_407 : decode cL_hears 407 = .ok (.if_icmp .le 11, 3) := by decide +kernel
theorem dL_hears_410 : decode cL_hears 410 = .ok (.iload 5, 2) := by decide +kernel
theorem dL_hears_412 : decode cL_hears 412 = .ok (.iload 6, 2) := by decide +kernel
theorem dL_hears_414 : decode cL_hears 414 = .ok (.irem, 1) := by decide +kernel
theorem dL_hears_415 : decode cL_hears 415 = .ok (.goto 4, 3) := by decide +kernel
theorem dL_hears_418 : decode cL_hears 418 = .ok (.iconst (-1), 1) := by decide +kernel
theorem dL_hears_419 : decode cL_hears 419 = .ok (.if_icmp .ne 23, 3) := by decide +kernel
theorem dL_hears_422 : decode cL_hears 422 = .ok (.aload_n 0, 1) := by decide +kernel
theorem dL_hears_423 : decode cL_hears 423 = .ok (.bipush 6, 2) := by decide +kernel
theorem dL_hears_425 : decode cL_hears 425 = .ok (.iload_n 2, 1) := by decide +kernel
theorem dL_hears_426 : decode cL_hears 426 = .ok (.iconst 0, 1) := by decide +kernel
theorem dL_hears_427 : decode cL_hears 427 = .ok (.iconst 0, 1) := by decide +kernel
theorem dL_hears_428 : decode cL_hears 428 = .ok (.iconst 0, 1) := by decide +kernel
theorem dL_hears_429 : decode cL_hears 429 = .ok (.iconst 0, 1) := by decide +kernel
theorem dL_hears_430 : decode cL_hears 430 = .ok (.invokestatic 52, 3) := by decide +kernel
theorem dL_hears_433 : decode cL_hears 433 = .ok (.ldc 51, 2) := by decide +kernel
theorem dL_hears_435 : decode cL_hears 435 = .ok (.if_icmp .ne 7, 3) := by decide +kernel
theorem dL_hears_438 : decode cL_hears 438 = .ok (.iconst 1, 1) := by decide +kernel
theorem dL_hears_439 : decode cL_hears 439 = .ok (.goto 4, 3) := by decide +kernel
theorem dL_hears_442 : decode cL_hears 442 = .ok (.iconst 0, 1) := by decide +kernel
theorem dL_hears_443 : decode cL_hears 443 = .ok (.ireturn, 1) := by decide +kernel
theorem dL_gaps_0 : decode cL_gaps 0 = .ok (.aload_n 0, 1) := by decide +kernel
theorem dL_gaps_1 : decode cL_gaps 1 = .ok (.iload_n 1, 1) := by decide +kernel
theorem dL_gaps_2 : decode cL_gaps 2 = .ok (.iload_n 3, 1) := by decide +kernel
theorem dL_gaps_3 : decode cL_gaps 3 = .ok (.invokevirtual 91, 3) := by decide +kernel
theorem dL_gaps_6 : decode cL_gaps 6 = .ok (.istore 4, 2) := by decide +kernel
theorem dL_gaps_8 : decode cL_gaps 8 = .ok (.iload 4, 2) := by decide +kernel
theorem dL_gaps_10 : decode cL_gaps 10 = .ok (.iconst (-1), 1) := by decide +kernel
theorem dL_gaps_11 : decode cL_gaps 11 = .ok (.if_icmp .lt 13, 3) := by decide +kernel
theorem dL_gaps_14 : decode cL_gaps 14 = .ok (.iload 4, 2) := by decide +kernel
theorem dL_gaps_16 : decode cL_gaps 16 = .ok (.iload_n 3, 1) := by decide +kernel
theorem dL_gaps_17 : decode cL_gaps 17 = .ok (.if_icmp .gt 7, 3) := by decide +kernel
theorem dL_gaps_20 : decode cL_gaps 20 = .ok (.iconst 1, 1) := by decide +kernel
theorem dL_gaps_21 : decode cL_gaps 21 = .ok (.goto 4, 3) := by decide +kernel
theorem dL_gaps_24 : decode cL_gaps 24 = .ok (.iconst 0, 1) := by decide +kernel
theorem dL_gaps_25 : decode cL_gaps 25 = .ok (.istore 5, 2) := by decide +kernel
theorem dL_gaps_27 : decode cL_gaps 27 = .ok (.iconst 0, 1) := by decide +kernel
theorem dL_gaps_28 : decode cL_gaps 28 = .ok (.istore 6, 2) := by decide +kernel
theorem dL_gaps_30 : decode cL_gaps 30 = .ok (.iload 6, 2) := by decide +kernel
theorem dL_gaps_32 : decode cL_gaps 32 = .ok (.iload_n 3, 1) := by decide +kernel
theorem dL_gaps_33 : decode cL_gaps 33 = .ok (.if_icmp .gt 59, 3) := by decide +kernel
theorem dL_gaps_36 : decode cL_gaps 36 = .ok (.iload 5, 2) := by decide +kernel
theorem dL_gaps_38 : decode cL_gaps 38 = .ok (.ifCond .eq 54, 3) := by decide +kernel
theorem dL_gaps_41 : decode cL_gaps 41 = .ok (.aload_n 0, 1) := by decide +kernel
theorem dL_gaps_42 : decode cL_gaps 42 = .ok (.iload_n 1, 1) := by decide +kernel
theorem dL_gaps_43 : decode cL_gaps 43 = .ok (.iload 6, 2) := by decide +kernel
theorem dL_gaps_45 : decode cL_gaps 45 = .ok (.iload_n 2, 1) := by decide +kernel
theorem dL_gaps_46 : decode cL_gaps 46 = .ok (.invokevirtual 58, 3) := by decide +kernel
theorem dL_gaps_49 : decode cL_gaps 49 = .ok (.ifCond .le 18, 3) := by decide +kernel
theorem dL_gaps_52 : decode cL_gaps 52 = .ok (.iload 4, 2) := by decide +kernel
theorem dL_gaps_54 : decode cL_gaps 54 = .ok (.iload 6, 2) := by decide +kernel
theorem dL_gaps_56 : decode cL_gaps 56 = .ok (.if_icmp .eq 7, 3) := by decide +kernel
theorem dL_gaps_59 : decode cL_gaps 59 = .ok (.iconst 1, 1) := by decide +kernel
theorem dL_gaps_60 : decode cL_gaps 60 = .ok (.goto 24, 3) := by decide +kernel
theorem dL_gaps_63 : decode cL_gaps 63 = .ok (.iconst 0, 1) := by decide +kernel
theorem dL_gaps_64 : decode cL_gaps 64 = .ok (.goto 20, 3) := by decide +kernel
theorem dL_gaps_67 : decode cL_gaps 67 = .ok (.iload 4, 2) := by decide +kernel
theorem dL_gaps_69 : decode cL_gaps 69 = .ok (.ifCond .lt 14, 3) := by decide +kernel
theorem dL_gaps_72 : decode cL_gaps 72 = .ok (.iload 4, 2) := by decide +kernel
theorem dL_gaps_74 : decode cL_gaps 74 = .ok (.iload 6, 2) := by decide +kernel
theorem dL_gaps_76 : decode cL_gaps 76 = .ok (.if_icmp .gt 7, 3) := by decide +kernel
theorem dL_gaps_79 : decode cL_gaps 79 = .ok (.iconst 1, 1) := by decide +kernel
theorem dL_gaps_80 : decode cL_gaps 80 = .ok (.goto 4, 3) := by decide +kernel
theorem dL_gaps_83 : decode cL_gaps 83 = .ok (.iconst 0, 1) := by decide +kernel
theorem dL_gaps_84 : decode cL_gaps 84 = .ok (.istore 5, 2) := by decide +kernel
theorem dL_gaps_86 : decode cL_gaps 86 = .ok (.iinc 6 1, 3) := by decide +kernel
theorem dL_gaps_89 : decode cL_gaps 89 = .ok (.goto (-59), 3) := by decide +kernel
theorem dL_gaps_92 : decode cL_gaps 92 = .ok (.aload_n 0, 1) := by decide +kernel
theorem dL_gaps_93 : decode cL_gaps 93 = .ok (.iload_n 1, 1) := by decide +kernel
theorem dL_gaps_94 : decode cL_gaps 94 = .ok (.iload_n 2, 1) := by decide +kernel
theorem dL_gaps_95 : decode cL_gaps 95 = .ok (.iload_n 3, 1) := by decide +kernel
theorem dL_gaps_96 : decode cL_gaps 96 = .ok (.invokevirtual 94, 3) := by decide +kernel
theorem dL_gaps_99 : decode cL_gaps 99 = .ok (.istore 6, 2) := by decide +kernel
theorem dL_gaps_101 : decode cL_gaps 101 = .ok (.iload 6, 2) := by decide +kernel
theorem dL_gaps_103 : decode cL_gaps 103 = .ok (.ifCond .lt 8, 3) := by decide +kernel
theorem dL_gaps_106 : decode cL_gaps 106 = .ok (.iload 5, 2) := by decide +kernel
theorem dL_gaps_108 : decode cL_gaps 108 = .ok (.ifCond .ne 20, 3) := by decide +kernel
theorem dL_gaps_111 : decode cL_gaps 111 = .ok (.iload 5, 2) := by decide +kernel
theorem dL_gaps_113 : decode cL_gaps 113 = .ok (.ifCond .eq 13, 3) := by decide +kernel
theorem dL_gaps_116 : decode cL_gaps 116 = .ok (.iload 6, 2) := by decide +kernel
theorem dL_gaps_118 : decode cL_gaps 118 = .ok (.iconst (-1), 1) := by decide +kernel
theorem dL_gaps_119 : decode cL_gaps 119 = .ok (.if_icmp .ne 7, 3) := by decide +kernel
theorem dL_gaps_122 : decode cL_gaps 122 = .ok (.iconst 1, 1) := by decide +kernel
theorem dL_gaps_123 : decode cL_gaps 123 = .ok (.goto 4, 3) := by decide +kernel
theorem dL_gaps_126 : decode cL_gaps 126 = .ok (.iconst 0, 1) := by decide +kernel
theorem dL_gaps_127 : decode cL_gaps 127 = .ok (.ireturn, 1) := by decide +kernel
theorem dL_gaps_128 : decode cL_gaps 128 = .ok (.bipush 20, 2) := by decide +kernel
theorem dL_gaps_130 : decode cL_gaps 130 = .ok (.newarray .int, 2) := by decide +kernel
theorem dL_gaps_132 : decode cL_gaps 132 = .ok (.astore 7, 2) := by decide +kernel
theorem dL_gaps_134 : decode cL_gaps 134 = .ok (.aload_n 0, 1) := by decide +kernel
theorem dL_gaps_135 : decode cL_gaps 135 = .ok (.iload_n 1, 1) := by decide +kernel
theorem dL_gaps_136 : decode cL_gaps 136 = .ok (.iload 6, 2) := by decide +kernel
theorem dL_gaps_138 : decode cL_gaps 138 = .ok (.iload_n 2, 1) := by decide +kernel
theorem dL_gaps_139 : decode cL_gaps 139 = .ok (.invokevirtual 58, 3) := by decide +kernel
theorem dL_gaps_142 : decode cL_gaps 142 = .ok (.istore 8, 2) := by decide +kernel
theorem dL_gaps_144 : decode cL_gaps 144 = .ok (.iconst 0, 1) := by decide +kernel
theorem dL_gaps_145 : decode cL_gaps 145 = .ok (.istore 9, 2) := by decide +kernel
theorem dL_gaps_147 : decode cL_gaps 147 = .ok (.aload_n 0, 1) := by decide +kernel
theorem dL_gaps_148 : decode cL_gaps 148 = .ok (.iload 8, 2) := by decide +kernel
theorem dL_gaps_150 : decode cL_gaps 150 = .ok (.aload 7, 2) := by decide +kernel
theorem dL_gaps_152 : decode cL_gaps 152 = .ok (.invokestatic 61, 3) := by decide +kernel
theorem dL_gaps_155 : decode cL_gaps 155 = .ok (.istore 5, 2) := by decide +kernel
theorem dL_gaps_157 : decode cL_gaps 157 = .ok (.iconst 0, 1) := by decide +kernel
theorem dL_gaps_158 : decode cL_gaps 158 = .ok (.istore 10, 2) := by decide +kernel
theorem dL_gaps_160 : decode cL_gaps 160 = .ok (.iload 10, 2) := by decide +kernel
theorem dL_gaps_162 : decode cL_gaps 162 = .ok (.iload 6, 2) := by decide +kernel
theorem dL_gaps_164 : decode cL_gaps 164 = .ok (.if_icmp .ge 43, 3) := by decide +kernel
theorem dL_gaps_167 : decode cL_gaps 167 = .ok (.iload 9, 2) := by decide +kernel
theorem dL_gaps_169 : decode cL_gaps 169 = .ok (.aload_n 0, 1) := by decide +kernel
theorem dL_gaps_170 : decode cL_gaps 170 = .ok (.iload_n 1, 1) := by decide +kernel
theorem dL_gaps_171 : decode cL_gaps 171 = .ok (.iload 10, 2) := by decide +kernel
theorem dL_gaps_173 : decode cL_gaps 173 = .ok (.iload_n 2, 1) := by decide +kernel
theorem dL_gaps_174 : decode cL_gaps 174 = .ok (.invokevirtual 58, 3) := by decide +kernel
theorem dL_gaps_177 : decode cL_gaps 177 = .ok (.iload 8, 2) := by decide +kernel
theorem dL_gaps_179 : decode cL_gaps 179 = .ok (.if_icmp .ne 18, 3) := by decide +kernel
theorem dL_gaps_182 : decode cL_gaps 182 = .ok (.aload_n 0, 1) := by decide +kernel
theorem dL_gaps_183 : decode cL_gaps 183 = .ok (.iload 8, 2) := by decide +kernel
theorem dL_gaps_185 : decode cL_gaps 185 = .ok (.aload 7, 2) := by decide +kernel
theorem dL_gaps_187 : decode cL_gaps 187 = .ok (.invokestatic 65, 3) := by decide +kernel
theorem dL_gaps_190 : decode cL_gaps 190 = .ok (.ifCond .eq 7, 3) := by decide +kernel
theorem dL_gaps_193 : decode cL_gaps 193 = .ok (.iconst 1, 1) := by decide +kernel
theorem dL_gaps_194 : decode cL_gaps 194 = .ok (.goto 4, 3) := by decide +kernel
theorem dL_gaps_197 : decode cL_gaps 197 = .ok (.iconst 0, 1) := by decide +kernel
theorem dL_gaps_198 : decode cL_gaps 198 = .ok (.iadd, 1) := by decide +kernel
theorem dL_gaps_199 : decode cL_gaps 199 = .ok (.istore 9, 2) := by decide +kernel
theorem dL_gaps_201 : decode cL_gaps 201 = .ok (.iinc 10 1, 3) := by decide +kernel
theorem dL_gaps_204 : decode cL_gaps 204 = .ok (.goto (-44), 3) := by decide +kernel
theorem dL_gaps_207 : decode cL_gaps 207 = .ok (.iload 5, 2) := by decide +kernel
theorem dL_gaps_209 : decode cL_gaps 209 = .ok (.ifCond .eq 24, 3) := by decide +kernel
theorem dL_gaps_212 : decode cL_gaps 212 = .ok (.iload 8, 2) := by decide +kernel
theorem dL_gaps_214 : decode cL_gaps 214 = .ok (.ifCond .le 19, 3) := by decide +kernel
theorem dL_gaps_217 : decode cL_gaps 217 = .ok (.iload 9, 2) := by decide +kernel
theorem dL_gaps_219 : decode cL_gaps 219 = .ok (.iconst 1, 1) := by decide +kernel
theorem dL_gaps_220 : decode cL_gaps 220 = .ok (.if_icmp .ne 13, 3) := by decide +kernel
theorem dL_gaps_223 : decode cL_gaps 223 = .ok (.iload 6, 2) := by decide +kernel
theorem dL_gaps_225 : decode cL_gaps 225 = .ok (.iload_n 3, 1) := by decide +kernel
theorem dL_gaps_226 : decode cL_gaps 226 = .ok (.if_icmp .gt 7, 3) := by decide +kernel
theorem dL_gaps_229 : decode cL_gaps 229 = .ok (.iconst 1, 1) := by decide +kernel
theorem dL_gaps_230 : decode cL_gaps 230 = .ok (.goto 4, 3) := by decide +kernel
theorem dL_gaps_233 : decode cL_gaps 233 = .ok (.iconst 0, 1) := by decide +kernel
theorem dL_gaps_234 : decode cL_gaps 234 = .ok (.ireturn, 1) := by decide +kernel
theorem dL_learns_0 : decode cL_learns 0 = .ok (.aload_n 0, 1) := by decide +kernel
theorem dL_learns_1 : decode cL_learns 1 = .ok (.iload_n 1, 1) := by decide +kernel
theorem dL_learns_2 : decode cL_learns 2 = .ok (.iload_n 2, 1) := by decide +kernel
theorem dL_learns_3 : decode cL_learns 3 = .ok (.iconst 3, 1) := by decide +kernel
theorem dL_learns_4 : decode cL_learns 4 = .ok (.invokevirtual 97, 3) := by decide +kernel
theorem dL_learns_7 : decode cL_learns 7 = .ok (.istore 5, 2) := by decide +kernel
theorem dL_learns_9 : decode cL_learns 9 = .ok (.aload_n 0, 1) := by decide +kernel
theorem dL_learns_10 : decode cL_learns 10 = .ok (.iload_n 1, 1) := by decide +kernel
theorem dL_learns_11 : decode cL_learns 11 = .ok (.iload_n 2, 1) := by decide +kernel
theorem dL_learns_12 : decode cL_learns 12 = .ok (.iconst 4, 1) := by decide +kernel
theorem dL_learns_13 : decode cL_learns 13 = .ok (.invokevirtual 97, 3) := by decide +kernel
theorem dL_learns_16 : decode cL_learns 16 = .ok (.istore 6, 2) := by decide +kernel
theorem dL_learns_18 : decode cL_learns 18 = .ok (.aload_n 0, 1) := by decide +kernel
theorem dL_learns_19 : decode cL_learns 19 = .ok (.invokevirtual 100, 3) := by decide +kernel
theorem dL_learns_22 : decode cL_learns 22 = .ok (.istore 7, 2) := by decide +kernel
theorem dL_learns_24 : decode cL_learns 24 = .ok (.aload_n 0, 1) := by decide +kernel
theorem dL_learns_25 : decode cL_learns 25 = .ok (.iload_n 1, 1) := by decide +kernel
theorem dL_learns_26 : decode cL_learns 26 = .ok (.iload_n 2, 1) := by decide +kernel
theorem dL_learns_27 : decode cL_learns 27 = .ok (.iload_n 3, 1) := by decide +kernel
theorem dL_learns_28 : decode cL_learns 28 = .ok (.invokevirtual 103, 3) := by decide +kernel
theorem dL_learns_31 : decode cL_learns 31 = .ok (.bipush 32, 2) := by decide +kernel
theorem dL_learns_33 : decode cL_learns 33 = .ok (.if_icmp .ne 12, 3) := by decide +kernel
theorem dL_learns_36 : decode cL_learns 36 = .ok (.iload 7, 2) := by decide +kernel
theorem dL_learns_38 : decode cL_learns 38 = .ok (.ifCond .lt 7, 3) := by decide +kernel
theorem dL_learns_41 : decode cL_learns 41 = .ok (.iconst 1, 1) := by decide +kernel
theorem dL_learns_42 : decode cL_learns 42 = .ok (.goto 4, 3) := by decide +kernel
theorem dL_learns_45 : decode cL_learns 45 = .ok (.iconst 0, 1) := by decide +kernel
theorem dL_learns_46 : decode cL_learns 46 = .ok (.istore 8, 2) := by decide +kernel
theorem dL_learns_48 : decode cL_learns 48 = .ok (.iconst 0, 1) := by decide +kernel
theorem dL_learns_49 : decode cL_learns 49 = .ok (.istore 9, 2) := by decide +kernel
theorem dL_learns_51 : decode cL_learns 51 = .ok (.iconst 0, 1) := by decide +kernel
theorem dL_learns_52 : decode cL_learns 52 = .ok (.istore 10, 2) := by decide +kernel
theorem dL_learns_54 : decode cL_learns 54 = .ok (.iload 10, 2) := by decide +kernel
theorem dL_learns_56 : decode cL_learns 56 = .ok (.iconst 4, 1) := by decide +kernel
theorem dL_learns_57 : decode cL_learns 57 = .ok (.if_icmp .ge 74, 3) := by decide +kernel
theorem dL_learns_60 : decode cL_learns 60 = .ok (.iload 4, 2) := by decide +kernel
theorem dL_learns_62 : decode cL_learns 62 = .ok (.iconst 1, 1) := by decide +kernel
theorem dL_learns_63 : decode cL_learns 63 = .ok (.bipush 7, 2) := by decide +kernel
theorem dL_learns_65 : decode cL_learns 65 = .ok (.iload 10, 2) := by decide +kernel
theorem dL_learns_67 : decode cL_learns 67 = .ok (.imul, 1) := by decide +kernel
theorem dL_learns_68 : decode cL_learns 68 = .ok (.iadd, 1) := by decide +kernel
theorem dL_learns_69 : decode cL_learns 69 = .ok (.idiv, 1) := by decide +kernel
theorem dL_learns_70 : decode cL_learns 70 = .ok (.bipush 120, 2) := by decide +kernel
theorem dL_learns_72 : decode cL_learns 72 = .ok (.irem, 1) := by decide +kernel
theorem dL_learns_73 : decode cL_learns 73 = .ok (.istore 11, 2) := by decide +kernel
theorem dL_learns_75 : decode cL_learns 75 = .ok (.aload_n 0, 1) := by decide +kernel
theorem dL_learns_76 : decode cL_learns 76 = .ok (.iload_n 1, 1) := by decide +kernel
theorem dL_learns_77 : decode cL_learns 77 = .ok (.iload 11, 2) := by decide +kernel
theorem dL_learns_79 : decode cL_learns 79 = .ok (.iconst 0, 1) := by decide +kernel
theorem dL_learns_80 : decode cL_learns 80 = .ok (.invokevirtual 58, 3) := by decide +kernel
theorem dL_learns_83 : decode cL_learns 83 = .ok (.ifCond .le 42, 3) := by decide +kernel
theorem dL_learns_86 : decode cL_learns 86 = .ok (.aload_n 0, 1) := by decide +kernel
theorem dL_learns_87 : decode cL_learns 87 = .ok (.invokevirtual 75, 3) := by decide +kernel
theorem dL_learns_90 : decode cL_learns 90 = .ok (.ifCond .le 35, 3) := by decide +kernel
theorem dL_learns_93 : decode cL_learns 93 = .ok (.iinc 9 1, 3) := by decide +kernel
theorem dL_learns_96 : decode cL_learns 96 = .ok (.iload 8, 2) := by decide +kernel
theorem dL_learns_98 : decode cL_learns 98 = .ok (.ifCond .eq 24, 3) := by decide +kernel
theorem dL_learns_101 : decode cL_learns 101 = .ok (.aload_n 0, 1) := by decide +kernel
theorem dL_learns_102 : decode cL_learns 102 = .ok (.bipush 6, 2) := by decide +kernel
theorem dL_learns_104 : decode cL_learns 104 = .ok (.iload 11, 2) := by decide +kernel
theorem dL_learns_106 : decode cL_learns 106 = .ok (.iconst 0, 1) := by decide +kernel
theorem dL_learns_107 : decode cL_learns 107 = .ok (.iconst 0, 1) := by decide +kernel
theorem dL_learns_108 : decode cL_learns 108 = .ok (.iconst 0, 1) := by decide +kernel
theorem dL_learns_109 : decode cL_learns 109 = .ok (.iconst 0, 1) := by decide +kernel
theorem dL_learns_110 : decode cL_learns 110 = .ok (.invokestatic 52, 3) := by decide +kernel
theorem dL_learns_113 : decode cL_learns 113 = .ok (.iload 9, 2) := by decide +kernel
theorem dL_learns_115 : decode cL_learns 115 = .ok (.if_icmp .ne 7, 3) := by decide +kernel
theorem dL_learns_118 : decode cL_learns 118 = .ok (.iconst 1, 1) := by decide +kernel
theorem dL_learns_119 : decode cL_learns 119 = .ok (.goto 4, 3) := by decide +kernel
theorem dL_learns_122 : decode cL_learns 122 = .ok (.iconst 0, 1) := by decide +kernel
theorem dL_learns_123 : decode cL_learns 123 = .ok (.istore 8, 2) := by decide +kernel
theorem dL_learns_125 : decode cL_learns 125 = .ok (.iinc 10 1, 3) := by decide +kernel
theorem dL_learns_128 : decode cL_learns 128 = .ok (.goto (-74), 3) := by decide +kernel
theorem dL_learns_131 : decode cL_learns 131 = .ok (.aload_n 0, 1) := by decide +kernel
theorem dL_learns_132 : decode cL_learns 132 = .ok (.iload_n 1, 1) := by decide +kernel
theorem dL_learns_133 : decode cL_learns 133 = .ok (.iload_n 2, 1) := by decide +kernel
theorem dL_learns_134 : decode cL_learns 134 = .ok (.iload_n 3, 1) := by decide +kernel
theorem dL_learns_135 : decode cL_learns 135 = .ok (.invokevirtual 103, 3) := by decide +kernel
theorem dL_learns_138 : decode cL_learns 138 = .ok (.istore 10, 2) := by decide +kernel
theorem dL_learns_140 : decode cL_learns 140 = .ok (.aload_n 0, 1) := by decide +kernel
theorem dL_learns_141 : decode cL_learns 141 = .ok (.iload_n 1, 1) := by decide +kernel
theorem dL_learns_142 : decode cL_learns 142 = .ok (.iload_n 2, 1) := by decide +kernel
theorem dL_learns_143 : decode cL_learns 143 = .ok (.iload_n 3, 1) := by decide +kernel
theorem dL_learns_144 : decode cL_learns 144 = .ok (.bipush 30, 2) := by decide +kernel
theorem dL_learns_146 : decode cL_learns 146 = .ok (.invokevirtual 106, 3) := by decide +kernel
theorem dL_learns_149 : decode cL_learns 149 = .ok (.istore 11, 2) := by decide +kernel
theorem dL_learns_151 : decode cL_learns 151 = .ok (.iload 8, 2) := by decide +kernel
theorem dL_learns_153 : decode cL_learns 153 = .ok (.ifCond .eq 84, 3) := by decide +kernel
theorem dL_learns_156 : decode cL_learns 156 = .ok (.iload 10, 2) := by decide +kernel
theorem dL_learns_158 : decode cL_learns 158 = .ok (.ifCond .lt 79, 3) := by decide +kernel
theorem dL_learns_161 : decode cL_learns 161 = .ok (.iload 10, 2) := by decide +kernel
theorem dL_learns_163 : decode cL_learns 163 = .ok (.bipush 32, 2) := by decide +kernel
theorem dL_learns_165 : decode cL_learns 165 = .ok (.if_icmp .gt 72, 3) := by decide +kernel
theorem dL_learns_168 : decode cL_learns 168 = .ok (.iload 11, 2) := by decide +kernel
theorem dL_learns_170 : decode cL_learns 170 = .ok (.iconst (-1), 1) := by decide +kernel
theorem dL_learns_171 : decode cL_learns 171 = .ok (.if_icmp .lt 66, 3) := by decide +kernel
theorem dL_learns_174 : decode cL_learns 174 = .ok (.iload 11, 2) := by decide +kernel
theorem dL_learns_176 : decode cL_learns 176 = .ok (.bipush 30, 2) := by decide +kernel
theorem dL_learns_178 : decode cL_learns 178 = .ok (.if_icmp .gt 59, 3) := by decide +kernel
theorem dL_learns_181 : decode cL_learns 181 = .ok (.iload 10, 2) := by decide +kernel
theorem dL_learns_183 : decode cL_learns 183 = .ok (.iconst 1, 1) := by decide +kernel
theorem dL_learns_184 : decode cL_learns 184 = .ok (.if_icmp .gt 9, 3) := by decide +kernel
theorem dL_learns_187 : decode cL_learns 187 = .ok (.iload 11, 2) := by decide +kernel
theorem dL_learns_189 : decode cL_learns 189 = .ok (.iconst (-1), 1) := by decide +kernel
theorem dL_learns_190 : decode cL_learns 190 = .ok (.if_icmp .ne 47, 3) := by decide +kernel
theorem dL_learns_193 : decode cL_learns 193 = .ok (.aload_n 0, 1) := by decide +kernel
theorem dL_learns_194 : decode cL_learns 194 = .ok (.iload_n 1, 1) := by decide +kernel
theorem dL_learns_195 : decode cL_learns 195 = .ok (.iload_n 2, 1) := by decide +kernel
theorem dL_learns_196 : decode cL_learns 196 = .ok (.iconst 3, 1) := by decide +kernel
theorem dL_learns_197 : decode cL_learns 197 = .ok (.invokevirtual 97, 3) := by decide +kernel
theorem dL_learns_200 : decode cL_learns 200 = .ok (.iload 5, 2) := by decide +kernel
theorem dL_learns_202 : decode cL_learns 202 = .ok (.if_icmp .ne 35, 3) := by decide +kernel
theorem dL_learns_205 : decode cL_learns 205 = .ok (.aload_n 0, 1) := by decide +kernel
theorem dL_learns_206 : decode cL_learns 206 = .ok (.iload_n 1, 1) := by decide +kernel
theorem dL_learns_207 : decode cL_learns 207 = .ok (.iload_n 2, 1) := by decide +kernel
theorem dL_learns_208 : decode cL_learns 208 = .ok (.iconst 4, 1) := by decide +kernel
theorem dL_learns_209 : decode cL_learns 209 = .ok (.invokevirtual 97, 3) := by decide +kernel
theorem dL_learns_212 : decode cL_learns 212 = .ok (.iload 6, 2) := by decide +kernel
theorem dL_learns_214 : decode cL_learns 214 = .ok (.if_icmp .ne 23, 3) := by decide +kernel
theorem dL_learns_217 : decode cL_learns 217 = .ok (.iload 6, 2) := by decide +kernel
theorem dL_learns_219 : decode cL_learns 219 = .ok (.ifCond .lt 9, 3) := by decide +kernel
theorem dL_learns_222 : decode cL_learns 222 = .ok (.iload 6, 2) := by decide +kernel
theorem dL_learns_224 : decode cL_learns 224 = .ok (.iload_n 3, 1) := by decide +kernel
theorem dL_learns_225 : decode cL_learns 225 = .ok (.if_icmp .ne 8, 3) := by decide +kernel
theorem dL_learns_228 : decode cL_learns 228 = .ok (.iload 10, 2) := by decide +kernel
theorem dL_learns_230 : decode cL_learns 230 = .ok (.ifCond .le 7, 3) := by decide +kernel
theorem dL_learns_233 : decode cL_learns 233 = .ok (.iconst 1, 1) := by decide +kernel
theorem dL_learns_234 : decode cL_learns 234 = .ok (.goto 4, 3) := by decide +kernel
theorem dL_learns_237 : decode cL_learns 237 = .ok (.iconst 0, 1) := by decide +kernel
theorem dL_learns_238 : decode cL_learns 238 = .ok (.istore 8, 2) := by decide +kernel
theorem dL_learns_240 : decode cL_learns 240 = .ok (.aload_n 0, 1) := by decide +kernel
theorem dL_learns_241 : decode cL_learns 241 = .ok (.bipush 7, 2) := by decide +kernel
theorem dL_learns_243 : decode cL_learns 243 = .ok (.iload_n 1, 1) := by decide +kernel
theorem dL_learns_244 : decode cL_learns 244 = .ok (.iload_n 2, 1) := by decide +kernel
theorem dL_learns_245 : decode cL_learns 245 = .ok (.iload_n 3, 1) := by decide +kernel
theorem dL_learns_246 : decode cL_learns 246 = .ok (.iconst 0, 1) := by decide +kernel
theorem dL_learns_247 : decode cL_learns 247 = .ok (.iconst 0, 1) := by decide +kernel
theorem dL_learns_248 : decode cL_learns 248 = .ok (.invokestatic 52, 3) := by decide +kernel
theorem dL_learns_251 : decode cL_learns 251 = .ok (.istore 12, 2) := by decide +kernel
theorem dL_learns_253 : decode cL_learns 253 = .ok (.iload 12, 2) := by decide +kernel
theorem dL_learns_255 : decode cL_learns 255 = .ok (.ldc 51, 2) := by decide +kernel
theorem dL_learns_257 : decode cL_learns 257 = .ok (.if_icmp .eq 8, 3) := by decide +kernel
theorem dL_learns_260 : decode cL_learns 260 = .ok (.iload 8, 2) := by decide +kernel
theorem dL_learns_262 : decode cL_learns 262 = .ok (.ifCond .ne 28, 3) := by decide +kernel
theorem dL_learns_265 : decode cL_learns 265 = .ok (.iload 8, 2) := by decide +kernel
theorem dL_learns_267 : decode cL_learns 267 = .ok (.ifCond .eq 21, 3) := by decide +kernel
theorem dL_learns_270 : decode cL_learns 270 = .ok (.iload 10, 2) := by decide +kernel
theorem dL_learns_272 : decode cL_learns 272 = .ok (.ifCond .ne 16, 3) := by decide +kernel
theorem dL_learns_275 : decode cL_learns 275 = .ok (.aload_n 0, 1) := by decide +kernel
theorem dL_learns_276 : decode cL_learns 276 = .ok (.invokevirtual 100, 3) := by decide +kernel
theorem dL_learns_279 : decode cL_learns 279 = .ok (.iload 9, 2) := by decide +kernel
theorem dL_learns_281 : decode cL_learns 281 = .ok (.if_icmp .ne 7, 3) := by decide +kernel
theorem dL_learns_284 : decode cL_learns 284 = .ok (.iconst 1, 1) := by decide +kernel
theorem dL_learns_285 : decode cL_learns 285 = .ok (.goto 4, 3) := by decide +kernel
theorem dL_learns_288 : decode cL_learns 288 = .ok (.iconst 0, 1) := by decide +kernel
theorem dL_learns_289 : decode cL_learns 289 = .ok (.ireturn, 1) := by decide +kernel
theorem dL_learns_290 : decode cL_learns 290 = .ok (.iload 10, 2) := by decide +kernel
theorem dL_learns_292 : decode cL_learns 292 = .ok (.ifCond .le 99, 3) := by decide +kernel
theorem dL_learns_295 : decode cL_learns 295 = .ok (.iload 12, 2) := by decide +kernel
theorem dL_learns_297 : decode cL_learns 297 = .ok (.ifCond .lt 94, 3) := by decide +kernel
theorem dL_learns_300 : decode cL_learns 300 = .ok (.iload 12, 2) := by decide +kernel
theorem dL_learns_302 : decode cL_learns 302 = .ok (.bipush 32, 2) := by decide +kernel
theorem dL_learns_304 : decode cL_learns 304 = .ok (.if_icmp .ge 87, 3) := by decide +kernel
theorem dL_learns_307 : decode cL_learns 307 = .ok (.aload_n 0, 1) := by decide +kernel
theorem dL_learns_308 : decode cL_learns 308 = .ok (.iload_n 1, 1) := by decide +kernel
theorem dL_learns_309 : decode cL_learns 309 = .ok (.iload_n 2, 1) := by decide +kernel
theorem dL_learns_310 : decode cL_learns 310 = .ok (.iconst 3, 1) := by decide +kernel
theorem dL_learns_311 : decode cL_learns 311 = .ok (.invokevirtual 97, 3) := by decide +kernel
theorem dL_learns_314 : decode cL_learns 314 = .ok (.iload 12, 2) := by decide +kernel
theorem dL_learns_316 : decode cL_learns 316 = .ok (.iconst 2, 1) := by decide +kernel
theorem dL_learns_317 : decode cL_learns 317 = .ok (.idiv, 1) := by decide +kernel
theorem dL_learns_318 : decode cL_learns 318 = .ok (.if_icmp .ne 73, 3) := by decide +kernel
theorem dL_learns_321 : decode cL_learns 321 = .ok (.aload_n 0, 1) := by decide +kernel
theorem dL_learns_322 : decode cL_learns 322 = .ok (.iload_n 1, 1) := by decide +kernel
theorem dL_learns_323 : decode cL_learns 323 = .ok (.iload_n 2, 1) := by decide +kernel
theorem dL_learns_324 : decode cL_learns 324 = .ok (.iconst 4, 1) := by decide +kernel
theorem dL_learns_325 : decode cL_learns 325 = .ok (.invokevirtual 97, 3) := by decide +kernel
theorem dL_learns_328 : decode cL_learns 328 = .ok (.iload 12, 2) := by decide +kernel
theorem dL_learns_330 : decode cL_learns 330 = .ok (.iconst 2, 1) := by decide +kernel
theorem dL_learns_331 : decode cL_learns 331 = .ok (.irem, 1) := by decide +kernel
theorem dL_learns_332 : decode cL_learns 332 = .ok (.iconst 1, 1) := by decide +kernel
theorem dL_learns_333 : decode cL_learns 333 = .ok (.if_icmp .ne 7, 3) := by decide +kernel
theorem dL_learns_336 : decode cL_learns 336 = .ok (.iload_n 3, 1) := by decide +kernel
theorem dL_learns_337 : decode cL_learns 337 = .ok (.goto 4, 3) := by decide +kernel
theorem dL_learns_340 : decode cL_learns 340 = .ok (.iconst (-1), 1) := by decide +kernel
theorem dL_learns_341 : decode cL_learns 341 = .ok (.if_icmp .ne 50, 3) := by decide +kernel
theorem dL_learns_344 : decode cL_learns 344 = .ok (.iload 6, 2) := by decide +kernel
theorem dL_learns_346 : decode cL_learns 346 = .ok (.ifCond .lt 9, 3) := by decide +kernel
theorem dL_learns_349 : decode cL_learns 349 = .ok (.iload 6, 2) := by decide +kernel
theorem dL_learns_351 : decode cL_learns 351 = .ok (.iload_n 3, 1) := by decide +kernel
theorem dL_learns_352 : decode cL_learns 352 = .ok (.if_icmp .ne 23, 3) := by decide +kernel
theorem dL_learns_355 : decode cL_learns 355 = .ok (.iload 12, 2) := by decide +kernel
theorem dL_learns_357 : decode cL_learns 357 = .ok (.iconst 2, 1) := by decide +kernel
theorem dL_learns_358 : decode cL_learns 358 = .ok (.iload 5, 2) := by decide +kernel
theorem dL_learns_360 : decode cL_learns 360 = .ok (.imul, 1) := by decide +kernel
theorem dL_learns_361 : decode cL_learns 361 = .ok (.iload 6, 2) := by decide +kernel
theorem dL_learns_363 : decode cL_learns 363 = .ok (.ifCond .lt 7, 3) := by decide +kernel
theorem dL_learns_366 : decode cL_learns 366 = .ok (.iconst 1, 1) := by decide +kernel
theorem dL_learns_367 : decode cL_learns 367 = .ok (.goto 4, 3) := by decide +kernel
theorem dL_learns_370 : decode cL_learns 370 = .ok (.iconst 0, 1) := by decide +kernel
theorem dL_learns_371 : decode cL_learns 371 = .ok (.iadd, 1) := by decide +kernel
theorem dL_learns_372 : decode cL_learns 372 = .ok (.if_icmp .gt 19, 3) := by decide +kernel
theorem dL_learns_375 : decode cL_learns 375 = .ok (.aload_n 0, 1) := by decide +kernel
theorem dL_learns_376 : decode cL_learns 376 = .ok (.iload_n 1, 1) := by decide +kernel
theorem dL_learns_377 : decode cL_learns 377 = .ok (.iload_n 2, 1) := by decide +kernel
theorem dL_learns_378 : decode cL_learns 378 = .ok (.iload_n 3, 1) := by decide +kernel
theorem dL_learns_379 : decode cL_learns 379 = .ok (.invokevirtual 103, 3) := by decide +kernel
theorem dL_learns_382 : decode cL_learns 382 = .ok (.iload 10, 2) := by decide +kernel
theorem dL_learns_384 : decode cL_learns 384 = .ok (.if_icmp .ne 7, 3) := by decide +kernel
theorem dL_learns_387 : decode cL_learns 387 = .ok (.iconst 1, 1) := by decide +kernel
theorem dL_learns_388 : decode cL_learns 388 = .ok (.goto 4, 3) := by decide +kernel
theorem dL_learns_391 : decode cL_learns 391 = .ok (.iconst 0, 1) := by decide +kernel
theorem dL_learns_392 : decode cL_learns 392 = .ok (.istore 8, 2) := by decide +kernel
theorem dL_learns_394 : decode cL_learns 394 = .ok (.iload 8, 2) := by decide +kernel
theorem dL_learns_396 : decode cL_learns 396 = .ok (.ifCond .eq 16, 3) := by decide +kernel
theorem dL_learns_399 : decode cL_learns 399 = .ok (.aload_n 0, 1) := by decide +kernel
theorem dL_learns_400 : decode cL_learns 400 = .ok (.invokevirtual 100, 3) := by decide +kernel
theorem dL_learns_403 : decode cL_learns 403 = .ok (.iload 9, 2) := by decide +kernel
theorem dL_learns_405 : decode cL_learns 405 = .ok (.if_icmp .ne 7, 3) := by decide +kernel
theorem dL_learns_408 : decode cL_learns 408 = .ok (.iconst 1, 1) := by decide +kernel
theorem dL_learns_409 : decode cL_learns 409 = .ok (.goto 4, 3) := by decide +kernel
theorem dL_learns_412 : decode cL_learns 412 = .ok (.iconst 0, 1) := by decide +kernel
theorem dL_learns_413 : decode cL_learns 413 = .ok (.ireturn, 1) := by decide +kernel
theorem dL_cords_0 : decode cL_cords 0 = .ok (.iconst 1, 1) := by decide +kernel
theorem dL_cords_1 : decode cL_cords 1 = .ok (.istore_n 3, 1) := by decide +kernel
theorem dL_cords_2 : decode cL_cords 2 = .ok (.lconst 1, 1) := by decide +kernel
theorem dL_cords_3 : decode cL_cords 3 = .ok (.lstore 4, 2) := by decide +kernel
theorem dL_cords_5 : decode cL_cords 5 = .ok (.iconst 0, 1) := by decide +kernel
theorem dL_cords_6 : decode cL_cords 6 = .ok (.istore 6, 2) := by decide +kernel
theorem dL_cords_8 : decode cL_cords 8 = .ok (.iload 6, 2) := by decide +kernel
theorem dL_cords_10 : decode cL_cords 10 = .ok (.bipush 6, 2) := by decide +kernel
theorem dL_cords_12 : decode cL_cords 12 = .ok (.if_icmp .ge 54, 3) := by decide +kernel
theorem dL_cords_15 : decode cL_cords 15 = .ok (.iconst 2, 1) := by decide +kernel
theorem dL_cords_16 : decode cL_cords 16 = .ok (.aload_n 1, 1) := by decide +kernel
theorem dL_cords_17 : decode cL_cords 17 = .ok (.iload_n 2, 1) := by decide +kernel
theorem dL_cords_18 : decode cL_cords 18 = .ok (.iload 6, 2) := by decide +kernel
theorem dL_cords_20 : decode cL_cords 20 = .ok (.iadd, 1) := by decide +kernel
theorem dL_cords_21 : decode cL_cords 21 = .ok (.bipush 59, 2) := by decide +kernel
theorem dL_cords_23 : decode cL_cords 23 = .ok (.invokestatic 109, 3) := by decide +kernel
theorem dL_cords_26 : decode cL_cords 26 = .ok (.iadd, 1) := by decide +kernel
theorem dL_cords_27 : decode cL_cords 27 = .ok (.istore 7, 2) := by decide +kernel
theorem dL_cords_29 : decode cL_cords 29 = .ok (.lload 4, 2) := by decide +kernel
theorem dL_cords_31 : decode cL_cords 31 = .ok (.iload 7, 2) := by decide +kernel
theorem dL_cords_33 : decode cL_cords 33 = .ok (.i2l, 1) := by decide +kernel
theorem dL_cords_34 : decode cL_cords 34 = .ok (.lmul, 1) := by decide +kernel
theorem dL_cords_35 : decode cL_cords 35 = .ok (.lstore 4, 2) := by decide +kernel
theorem dL_cords_37 : decode cL_cords 37 = .ok (.iload_n 3, 1) := by decide +kernel
theorem dL_cords_38 : decode cL_cords 38 = .ok (.ifCond .eq 20, 3) := by decide +kernel
theorem dL_cords_41 : decode cL_cords 41 = .ok (.aload_n 0, 1) := by decide +kernel
theorem dL_cords_42 : decode cL_cords 42 = .ok (.iload 6, 2) := by decide +kernel
theorem dL_cords_44 : decode cL_cords 44 = .ok (.iload 7, 2) := by decide +kernel
theorem dL_cords_46 : decode cL_cords 46 = .ok (.invokevirtual 113, 3) := by decide +kernel
theorem dL_cords_49 : decode cL_cords 49 = .ok (.bipush 10, 2) := by decide +kernel
theorem dL_cords_51 : decode cL_cords 51 = .ok (.if_icmp .ne 7, 3) := by decide +kernel
theorem dL_cords_54 : decode cL_cords 54 = .ok (.iconst 1, 1) := by decide +kernel
theorem dL_cords_55 : decode cL_cords 55 = .ok (.goto 4, 3) := by decide +kernel
theorem dL_cords_58 : decode cL_cords 58 = .ok (.iconst 0, 1) := by decide +kernel
theorem dL_cords_59 : decode cL_cords 59 = .ok (.istore_n 3, 1) := by decide +kernel
theorem dL_cords_60 : decode cL_cords 60 = .ok (.iinc 6 1, 3) := by decide +kernel
theorem dL_cords_63 : decode cL_cords 63 = .ok (.goto (-55), 3) := by decide +kernel
theorem dL_cords_66 : decode cL_cords 66 = .ok (.lconst 0, 1) := by decide +kernel
theorem dL_cords_67 : decode cL_cords 67 = .ok (.lstore 6, 2) := by decide +kernel
theorem dL_cords_69 : decode cL_cords 69 = .ok (.iconst 0, 1) := by decide +kernel
theorem dL_cords_70 : decode cL_cords 70 = .ok (.istore 8, 2) := by decide +kernel
theorem dL_cords_72 : decode cL_cords 72 = .ok (.iload 8, 2) := by decide +kernel
theorem dL_cords_74 : decode cL_cords 74 = .ok (.bipush 20, 2) := by decide +kernel
theorem dL_cords_76 : decode cL_cords 76 = .ok (.if_icmp .ge 185, 3) := by decide +kernel
theorem dL_cords_79 : decode cL_cords 79 = .ok (.iload_n 3, 1) := by decide +kernel
theorem dL_cords_80 : decode cL_cords 80 = .ok (.ifCond .eq 181, 3) := by decide +kernel
theorem dL_cords_83 : decode cL_cords 83 = .ok (.aload_n 1, 1) := by decide +kernel
theorem dL_cords_84 : decode cL_cords 84 = .ok (.iload_n 2, 1) := by decide +kernel
theorem dL_cords_85 : decode cL_cords 85 = .ok (.bipush 6, 2) := by decide +kernel
theorem dL_cords_87 : decode cL_cords 87 = .ok (.iadd, 1) := by decide +kernel
theorem dL_cords_88 : decode cL_cords 88 = .ok (.iconst 2, 1) := by decide +kernel
theorem dL_cords_89 : decode cL_cords 89 = .ok (.iload 8, 2) := by decide +kernel
theorem dL_cords_91 : decode cL_cords 91 = .ok (.imul, 1) := by decide +kernel
theorem dL_cords_92 : decode cL_cords 92 = .ok (.iadd, 1) := by decide +kernel
theorem dL_cords_93 : decode cL_cords 93 = .ok (.ldc 116, 2) := by decide +kernel
theorem dL_cords_95 : decode cL_cords 95 = .ok (.invokestatic 109, 3) := by decide +kernel
theorem dL_cords_98 : decode cL_cords 98 = .ok (.i2l, 1) := by decide +kernel
theorem dL_cords_99 : decode cL_cords 99 = .ok (.ldc2_w 117, 3) := by decide +kernel
theorem dL_cords_102 : decode cL_cords 102 = .ok (.lsub, 1) := by decide +kernel
theorem dL_cords_103 : decode cL_cords 103 = .ok (.lstore 9, 2) := by decide +kernel
theorem dL_cords_105 : decode cL_cords 105 = .ok (.lload 9, 2) := by decide +kernel
theorem dL_cords_107 : decode cL_cords 107 = .ok (.iload 8, 2) := by decide +kernel
theorem dL_cords_109 : decode cL_cords 109 = .ok (.iconst 3, 1) := by decide +kernel
theorem dL_cords_110 : decode cL_cords 110 = .ok (.irem, 1) := by decide +kernel
theorem dL_cords_111 : decode cL_cords 111 = .ok (.ifCond .ne 24, 3) := by decide +kernel
theorem dL_cords_114 : decode cL_cords 114 = .ok (.iconst 1, 1) := by decide +kernel
theorem dL_cords_115 : decode cL_cords 115 = .ok (.aload_n 1, 1) := by decide +kernel
theorem dL_cords_116 : decode cL_cords 116 = .ok (.iload_n 2, 1) := by decide +kernel
theorem dL_cords_117 : decode cL_cords 117 = .ok (.bipush 7, 2) := by decide +kernel
theorem dL_cords_119 : decode cL_cords 119 = .ok (.iadd, 1) := by decide +kernel
theorem dL_cords_120 : decode cL_cords 120 = .ok (.iconst 2, 1) := by decide +kernel
theorem dL_cords_121 : decode cL_cords 121 = .ok (.iload 8, 2) := by decide +kernel
theorem dL_cords_123 : decode cL_cords 123 = .ok (.imul, 1) := by decide +kernel
theorem dL_cords_124 : decode cL_cords 124 = .ok (.iadd, 1) := by decide +kernel
theorem dL_cords_125 : decode cL_cords 125 = .ok (.ldc 116, 2) := by decide +kernel
theorem dL_cords_127 : decode cL_cords 127 = .ok (.invokestatic 109, 3) := by decide +kernel
theorem dL_cords_130 : decode cL_cords 130 = .ok (.iadd, 1) := by decide +kernel
theorem dL_cords_131 : decode cL_cords 131 = .ok (.i2l, 1) := by decide +kernel
theorem dL_cords_132 : decode cL_cords 132 = .ok (.goto 8, 3) := by decide +kernel
theorem dL_cords_135 : decode cL_cords 135 = .ok (.iload 8, 2) := by decide +kernel
theorem dL_cords_137 : decode cL_cords 137 = .ok (.iconst 3, 1) := by decide +kernel
theorem dL_cords_138 : decode cL_cords 138 = .ok (.irem, 1) := by decide +kernel
theorem dL_cords_139 : decode cL_cords 139 = .ok (.i2l, 1) := by decide +kernel
theorem dL_cords_140 : decode cL_cords 140 = .ok (.lmul, 1) := by decide +kernel
theorem dL_cords_141 : decode cL_cords 141 = .ok (.lstore 9, 2) := by decide +kernel
theorem dL_cords_143 : decode cL_cords 143 = .ok (.aload_n 0, 1) := by decide +kernel
theorem dL_cords_144 : decode cL_cords 144 = .ok (.invokevirtual 119, 3) := by decide +kernel
theorem dL_cords_147 : decode cL_cords 147 = .ok (.lstore 11, 2) := by decide +kernel
theorem dL_cords_149 : decode cL_cords 149 = .ok (.aload_n 0, 1) := by decide +kernel
theorem dL_cords_150 : decode cL_cords 150 = .ok (.lload 9, 2) := by decide +kernel
theorem dL_cords_152 : decode cL_cords 152 = .ok (.invokevirtual 123, 3) := by decide +kernel
theorem dL_cords_155 : decode cL_cords 155 = .ok (.lstore 13, 2) := by decide +kernel
theorem dL_cords_157 : decode cL_cords 157 = .ok (.lload 6, 2) := by decide +kernel
theorem dL_cords_159 : decode cL_cords 159 = .ok (.lload 9, 2) := by decide +kernel
theorem dL_cords_161 : decode cL_cords 161 = .ok (.ladd, 1) := by decide +kernel
theorem dL_cords_162 : decode cL_cords 162 = .ok (.lstore 6, 2) := by decide +kernel
theorem dL_cords_164 : decode cL_cords 164 = .ok (.aload_n 0, 1) := by decide +kernel
theorem dL_cords_165 : decode cL_cords 165 = .ok (.invokevirtual 119, 3) := by decide +kernel
theorem dL_cords_168 : decode cL_cords 168 = .ok (.lload 11, 2) := by decide +kernel
theorem dL_cords_170 : decode cL_cords 170 = .ok (.lload 13, 2) := by decide +kernel
theorem dL_cords_172 : decode cL_cords 172 = .ok (.ladd, 1) := by decide +kernel
theorem dL_cords_173 : decode cL_cords 173 = .ok (.lcmp, 1) := by decide +kernel
theorem dL_cords_174 : decode cL_cords 174 = .ok (.ifCond .ne 44, 3) := by decide +kernel
theorem dL_cords_177 : decode cL_cords 177 = .ok (.aload_n 0, 1) := by decide +kernel
theorem dL_cords_178 : decode cL_cords 178 = .ok (.invokevirtual 127, 3) := by decide +kernel
theorem dL_cords_181 : decode cL_cords 181 = .ok (.lconst 0, 1) := by decide +kernel
theorem dL_cords_182 : decode cL_cords 182 = .ok (.lcmp, 1) := by decide +kernel
theorem dL_cords_183 : decode cL_cords 183 = .ok (.ifCond .lt 35, 3) := by decide +kernel
theorem dL_cords_186 : decode cL_cords 186 = .ok (.aload_n 0, 1) := by decide +kernel
theorem dL_cords_187 : decode cL_cords 187 = .ok (.invokevirtual 127, 3) := by decide +kernel
theorem dL_cords_190 : decode cL_cords 190 = .ok (.lload 4, 2) := by decide +kernel
theorem dL_cords_192 : decode cL_cords 192 = .ok (.lcmp, 1) := by decide +kernel
theorem dL_cords_193 : decode cL_cords 193 = .ok (.ifCond .ge 25, 3) := by decide +kernel
theorem dL_cords_196 : decode cL_cords 196 = .ok (.aload_n 0, 1) := by decide +kernel
theorem dL_cords_197 : decode cL_cords 197 = .ok (.invokevirtual 127, 3) := by decide +kernel
theorem dL_cords_200 : decode cL_cords 200 = .ok (.aload_n 0, 1) := by decide +kernel
theorem dL_cords_201 : decode cL_cords 201 = .ok (.invokevirtual 119, 3) := by decide +kernel
theorem dL_cords_204 : decode cL_cords 204 = .ok (.lload 4, 2) := by decide +kernel
theorem dL_cords_206 : decode cL_cords 206 = .ok (.lmul, 1) := by decide +kernel
theorem dL_cords_207 : decode cL_cords 207 = .ok (.ladd, 1) := by decide +kernel
theorem dL_cords_208 : decode cL_cords 208 = .ok (.lload 6, 2) := by decide +kernel
theorem dL_cords_210 : decode cL_cords 210 = .ok (.lcmp, 1) := by decide +kernel
theorem dL_cords_211 : decode cL_cords 211 = .ok (.ifCond .ne 7, 3) := by decide +kernel
theorem dL_cords_214 : decode cL_cords 214 = .ok (.iconst 1, 1) := by decide +kernel
theorem dL_cords_215 : decode cL_cords 215 = .ok (.goto 4, 3) := by decide +kernel
theorem dL_cords_218 : decode cL_cords 218 = .ok (.iconst 0, 1) := by decide +kernel
theorem dL_cords_219 : decode cL_cords 219 = .ok (.istore_n 3, 1) := by decide +kernel
theorem dL_cords_220 : decode cL_cords 220 = .ok (.iconst 0, 1) := by decide +kernel
theorem dL_cords_221 : decode cL_cords 221 = .ok (.istore 15, 2) := by decide +kernel
theorem dL_cords_223 : decode cL_cords 223 = .ok (.iload 15, 2) := by decide +kernel
theorem dL_cords_225 : decode cL_cords 225 = .ok (.bipush 6, 2) := by decide +kernel
theorem dL_cords_227 : decode cL_cords 227 = .ok (.if_icmp .ge 28, 3) := by decide +kernel
theorem dL_cords_230 : decode cL_cords 230 = .ok (.iload_n 3, 1) := by decide +kernel
theorem dL_cords_231 : decode cL_cords 231 = .ok (.ifCond .eq 16, 3) := by decide +kernel
theorem dL_cords_234 : decode cL_cords 234 = .ok (.aload_n 0, 1) := by decide +kernel
theorem dL_cords_235 : decode cL_cords 235 = .ok (.iload 15, 2) := by decide +kernel
theorem dL_cords_237 : decode cL_cords 237 = .ok (.invokevirtual 130, 3) := by decide +kernel
theorem dL_cords_240 : decode cL_cords 240 = .ok (.ifCond .lt 7, 3) := by decide +kernel
theorem dL_cords_243 : decode cL_cords 243 = .ok (.iconst 1, 1) := by decide +kernel
theorem dL_cords_244 : decode cL_cords 244 = .ok (.goto 4, 3) := by decide +kernel
theorem dL_cords_247 : decode cL_cords 247 = .ok (.iconst 0, 1) := by decide +kernel
theorem dL_cords_248 : decode cL_cords 248 = .ok (.istore_n 3, 1) := by decide +kernel
theorem dL_cords_249 : decode cL_cords 249 = .ok (.iinc 15 1, 3) := by decide +kernel
theorem dL_cords_252 : decode cL_cords 252 = .ok (.goto (-29), 3) := by decide +kernel
theorem dL_cords_255 : decode cL_cords 255 = .ok (.iinc 8 1, 3) := by decide +kernel
theorem dL_cords_258 : decode cL_cords 258 = .ok (.goto (-186), 3) := by decide +kernel
theorem dL_cords_261 : decode cL_cords 261 = .ok (.iload_n 3, 1) := by decide +kernel
theorem dL_cords_262 : decode cL_cords 262 = .ok (.ifCond .eq 36, 3) := by decide +kernel
theorem dL_cords_265 : decode cL_cords 265 = .ok (.aload_n 0, 1) := by decide +kernel
theorem dL_cords_266 : decode cL_cords 266 = .ok (.iconst 3, 1) := by decide +kernel
theorem dL_cords_267 : decode cL_cords 267 = .ok (.bipush 10, 2) := by decide +kernel
theorem dL_cords_269 : decode cL_cords 269 = .ok (.invokevirtual 113, 3) := by decide +kernel
theorem dL_cords_272 : decode cL_cords 272 = .ok (.iconst 2, 1) := by decide +kernel
theorem dL_cords_273 : decode cL_cords 273 = .ok (.if_icmp .lt 25, 3) := by decide +kernel
theorem dL_cords_276 : decode cL_cords 276 = .ok (.aload_n 0, 1) := by decide +kernel
theorem dL_cords_277 : decode cL_cords 277 = .ok (.invokevirtual 127, 3) := by decide +kernel
theorem dL_cords_280 : decode cL_cords 280 = .ok (.lconst 0, 1) := by decide +kernel
theorem dL_cords_281 : decode cL_cords 281 = .ok (.lcmp, 1) := by decide +kernel
theorem dL_cords_282 : decode cL_cords 282 = .ok (.ifCond .ne 16, 3) := by decide +kernel
theorem dL_cords_285 : decode cL_cords 285 = .ok (.aload_n 0, 1) := by decide +kernel
theorem dL_cords_286 : decode cL_cords 286 = .ok (.invokevirtual 119, 3) := by decide +kernel
theorem dL_cords_289 : decode cL_cords 289 = .ok (.lconst 0, 1) := by decide +kernel
theorem dL_cords_290 : decode cL_cords 290 = .ok (.lcmp, 1) := by decide +kernel
theorem dL_cords_291 : decode cL_cords 291 = .ok (.ifCond .ne 7, 3) := by decide +kernel
theorem dL_cords_294 : decode cL_cords 294 = .ok (.iconst 1, 1) := by decide +kernel
theorem dL_cords_295 : decode cL_cords 295 = .ok (.goto 4, 3) := by decide +kernel
theorem dL_cords_298 : decode cL_cords 298 = .ok (.iconst 0, 1) := by decide +kernel
theorem dL_cords_299 : decode cL_cords 299 = .ok (.ireturn, 1) := by decide +kernel
theorem dL_grammar_0 : decode cL_grammar 0 = .ok (.iconst 2, 1) := by decide +kernel
theorem dL_grammar_1 : decode cL_grammar 1 = .ok (.aload_n 2, 1) := by decide +kernel
theorem dL_grammar_2 : decode cL_grammar 2 = .ok (.iload_n 3, 1) := by decide +kernel
theorem dL_grammar_3 : decode cL_grammar 3 = .ok (.bipush 11, 2) := by decide +kernel
theorem dL_grammar_5 : decode cL_grammar 5 = .ok (.invokestatic 109, 3) := by decide +kernel
theorem dL_grammar_8 : decode cL_grammar 8 = .ok (.iadd, 1) := by decide +kernel
theorem dL_grammar_9 : decode cL_grammar 9 = .ok (.istore 4, 2) := by decide +kernel
theorem dL_grammar_11 : decode cL_grammar 11 = .ok (.aload_n 0, 1) := by decide +kernel
theorem dL_grammar_12 : decode cL_grammar 12 = .ok (.iload_n 1, 1) := by decide +kernel
theorem dL_grammar_13 : decode cL_grammar 13 = .ok (.invokevirtual 133, 3) := by decide +kernel
theorem dL_grammar_16 : decode cL_grammar 16 = .ok (.ifCond .lt 16, 3) := by decide +kernel
theorem dL_grammar_19 : decode cL_grammar 19 = .ok (.aload_n 0, 1) := by decide +kernel
theorem dL_grammar_20 : decode cL_grammar 20 = .ok (.iload_n 1, 1) := by decide +kernel
theorem dL_grammar_21 : decode cL_grammar 21 = .ok (.iconst 5, 1) := by decide +kernel
theorem dL_grammar_22 : decode cL_grammar 22 = .ok (.invokevirtual 91, 3) := by decide +kernel
theorem dL_grammar_25 : decode cL_grammar 25 = .ok (.ifCond .ne 7, 3) := by decide +kernel
theorem dL_grammar_28 : decode cL_grammar 28 = .ok (.iconst 1, 1) := by decide +kernel
theorem dL_grammar_29 : decode cL_grammar 29 = .ok (.goto 4, 3) := by decide +kernel
theorem dL_grammar_32 : decode cL_grammar 32 = .ok (.iconst 0, 1) := by decide +kernel
theorem dL_grammar_33 : decode cL_grammar 33 = .ok (.istore 5, 2) := by decide +kernel
theorem dL_grammar_35 : decode cL_grammar 35 = .ok (.iconst 0, 1) := by decide +kernel
theorem dL_grammar_36 : decode cL_grammar 36 = .ok (.istore 6, 2) := by decide +kernel
theorem dL_grammar_38 : decode cL_grammar 38 = .ok (.iload 6, 2) := by decide +kernel
theorem dL_grammar_40 : decode cL_grammar 40 = .ok (.iload 4, 2) := by decide +kernel
theorem dL_grammar_42 : decode cL_grammar 42 = .ok (.if_icmp .gt 51, 3) := by decide +kernel
theorem dL_grammar_45 : decode cL_grammar 45 = .ok (.iload 5, 2) := by decide +kernel
theorem dL_grammar_47 : decode cL_grammar 47 = .ok (.ifCond .eq 37, 3) := by decide +kernel
theorem dL_grammar_50 : decode cL_grammar 50 = .ok (.aload_n 0, 1) := by decide +kernel
theorem dL_grammar_51 : decode cL_grammar 51 = .ok (.iconst 0, 1) := by decide +kernel
theorem dL_grammar_52 : decode cL_grammar 52 = .ok (.iload_n 1, 1) := by decide +kernel
theorem dL_grammar_53 : decode cL_grammar 53 = .ok (.iload 6, 2) := by decide +kernel
theorem dL_grammar_55 : decode cL_grammar 55 = .ok (.iconst 1, 1) := by decide +kernel
theorem dL_grammar_56 : decode cL_grammar 56 = .ok (.iload 6, 2) := by decide +kernel
theorem dL_grammar_58 : decode cL_grammar 58 = .ok (.iadd, 1) := by decide +kernel
theorem dL_grammar_59 : decode cL_grammar 59 = .ok (.aload_n 2, 1) := by decide +kernel
theorem dL_grammar_60 : decode cL_grammar 60 = .ok (.iload_n 3, 1) := by decide +kernel
theorem dL_grammar_61 : decode cL_grammar 61 = .ok (.iconst 1, 1) := by decide +kernel
theorem dL_grammar_62 : decode cL_grammar 62 = .ok (.iadd, 1) := by decide +kernel
theorem dL_grammar_63 : decode cL_grammar 63 = .ok (.iload 6, 2) := by decide +kernel
theorem dL_grammar_65 : decode cL_grammar 65 = .ok (.iadd, 1) := by decide +kernel
theorem dL_grammar_66 : decode cL_grammar 66 = .ok (.iconst 2, 1) := by decide +kernel
theorem dL_grammar_67 : decode cL_grammar 67 = .ok (.invokestatic 109, 3) := by decide +kernel
theorem dL_grammar_70 : decode cL_grammar 70 = .ok (.iadd, 1) := by decide +kernel
theorem dL_grammar_71 : decode cL_grammar 71 = .ok (.iconst 0, 1) := by decide +kernel
theorem dL_grammar_72 : decode cL_grammar 72 = .ok (.iconst 0, 1) := by decide +kernel
theorem dL_grammar_73 : decode cL_grammar 73 = .ok (.invokestatic 52, 3) := by decide +kernel
theorem dL_grammar_76 : decode cL_grammar 76 = .ok (.iconst (-1), 1) := by decide +kernel
theorem dL_grammar_77 : decode cL_grammar 77 = .ok (.if_icmp .ne 7, 3) := by decide +kernel
theorem dL_grammar_80 : decode cL_grammar 80 = .ok (.iconst 1, 1) := by decide +kernel
theorem dL_grammar_81 : decode cL_grammar 81 = .ok (.goto 4, 3) := by decide +kernel
theorem dL_grammar_84 : decode cL_grammar 84 = .ok (.iconst 0, 1) := by decide +kernel
theorem dL_grammar_85 : decode cL_grammar 85 = .ok (.istore 5, 2) := by decide +kernel
theorem dL_grammar_87 : decode cL_grammar 87 = .ok (.iinc 6 1, 3) := by decide +kernel
theorem dL_grammar_90 : decode cL_grammar 90 = .ok (.goto (-52), 3) := by decide +kernel
theorem dL_grammar_93 : decode cL_grammar 93 = .ok (.iload 4, 2) := by decide +kernel
theorem dL_grammar_95 : decode cL_grammar 95 = .ok (.iconst 1, 1) := by decide +kernel
theorem dL_grammar_96 : decode cL_grammar 96 = .ok (.iadd, 1) := by decide +kernel
theorem dL_grammar_97 : decode cL_grammar 97 = .ok (.aload_n 2, 1) := by decide +kernel
theorem dL_grammar_98 : decode cL_grammar 98 = .ok (.iload_n 3, 1) := by decide +kernel
theorem dL_grammar_99 : decode cL_grammar 99 = .ok (.bipush 14, 2) := by decide +kernel
theorem dL_grammar_101 : decode cL_grammar 101 = .ok (.iadd, 1) := by decide +kernel
theorem dL_grammar_102 : decode cL_grammar 102 = .ok (.iconst 2, 1) := by decide +kernel
theorem dL_grammar_103 : decode cL_grammar 103 = .ok (.invokestatic 109, 3) := by decide +kernel
theorem dL_grammar_106 : decode cL_grammar 106 = .ok (.isub, 1) := by decide +kernel
theorem dL_grammar_107 : decode cL_grammar 107 = .ok (.istore 6, 2) := by decide +kernel
theorem dL_grammar_109 : decode cL_grammar 109 = .ok (.iload 5, 2) := by decide +kernel
theorem dL_grammar_111 : decode cL_grammar 111 = .ok (.ifCond .eq 126, 3) := by decide +kernel
theorem dL_grammar_114 : decode cL_grammar 114 = .ok (.aload_n 0, 1) := by decide +kernel
theorem dL_grammar_115 : decode cL_grammar 115 = .ok (.iconst 1, 1) := by decide +kernel
theorem dL_grammar_116 : decode cL_grammar 116 = .ok (.iload_n 1, 1) := by decide +kernel
theorem dL_grammar_117 : decode cL_grammar 117 = .ok (.iload 6, 2) := by decide +kernel
theorem dL_grammar_119 : decode cL_grammar 119 = .ok (.iconst 2, 1) := by decide +kernel
theorem dL_grammar_120 : decode cL_grammar 120 = .ok (.if_icmp .ge 7, 3) := by decide +kernel
theorem dL_grammar_123 : decode cL_grammar 123 = .ok (.iconst 2, 1) := by decide +kernel
theorem dL_grammar_124 : decode cL_grammar 124 = .ok (.goto 5, 3) := by decide +kernel
theorem dL_grammar_127 : decode cL_grammar 127 = .ok (.iload 6, 2) := by decide +kernel
theorem dL_grammar_129 : decode cL_grammar 129 = .ok (.bipush 30, 2) := by decide +kernel
theorem dL_grammar_131 : decode cL_grammar 131 = .ok (.iconst 1, 1) := by decide +kernel
theorem dL_grammar_132 : decode cL_grammar 132 = .ok (.aload_n 2, 1) := by decide +kernel
theorem dL_grammar_133 : decode cL_grammar 133 = .ok (.iload_n 3, 1) := by decide +kernel
theorem dL_grammar_134 : decode cL_grammar 134 = .ok (.bipush 15, 2) := by decide +kernel
theorem dL_grammar_136 : decode cL_grammar 136 = .ok (.iadd, 1) := by decide +kernel
theorem dL_grammar_137 : decode cL_grammar 137 = .ok (.bipush 12, 2) := by decide +kernel
theorem dL_grammar_139 : decode cL_grammar 139 = .ok (.invokestatic 109, 3) := by decide +kernel
theorem dL_grammar_142 : decode cL_grammar 142 = .ok (.iadd, 1) := by decide +kernel
theorem dL_grammar_143 : decode cL_grammar 143 = .ok (.aload_n 2, 1) := by decide +kernel
theorem dL_grammar_144 : decode cL_grammar 144 = .ok (.iload_n 3, 1) := by decide +kernel
theorem dL_grammar_145 : decode cL_grammar 145 = .ok (.bipush 16, 2) := by decide +kernel
theorem dL_grammar_147 : decode cL_grammar 147 = .ok (.iadd, 1) := by decide +kernel
theorem dL_grammar_148 : decode cL_grammar 148 = .ok (.bipush 16, 2) := by decide +kernel
theorem dL_grammar_150 : decode cL_grammar 150 = .ok (.invokestatic 109, 3) := by decide +kernel
theorem dL_grammar_153 : decode cL_grammar 153 = .ok (.invokestatic 52, 3) := by decide +kernel
theorem dL_grammar_156 : decode cL_grammar 156 = .ok (.ifCond .ne 81, 3) := by decide +kernel
theorem dL_grammar_159 : decode cL_grammar 159 = .ok (.aload_n 0, 1) := by decide +kernel
theorem dL_grammar_160 : decode cL_grammar 160 = .ok (.iconst 1, 1) := by decide +kernel
theorem dL_grammar_161 : decode cL_grammar 161 = .ok (.iload_n 1, 1) := by decide +kernel
theorem dL_grammar_162 : decode cL_grammar 162 = .ok (.iload 6, 2) := by decide +kernel
theorem dL_grammar_164 : decode cL_grammar 164 = .ok (.iconst 2, 1) := by decide +kernel
theorem dL_grammar_165 : decode cL_grammar 165 = .ok (.if_icmp .ge 7, 3) := by decide +kernel
theorem dL_grammar_168 : decode cL_grammar 168 = .ok (.iconst 2, 1) := by decide +kernel
theorem dL_grammar_169 : decode cL_grammar 169 = .ok (.goto 5, 3) := by decide +kernel
theorem dL_grammar_172 : decode cL_grammar 172 = .ok (.iload 6, 2) := by decide +kernel
theorem dL_grammar_174 : decode cL_grammar 174 = .ok (.bipush 31, 2) := by decide +kernel
theorem dL_grammar_176 : decode cL_grammar 176 = .ok (.iconst 1, 1) := by decide +kernel
theorem dL_grammar_177 : decode cL_grammar 177 = .ok (.iconst 1, 1) := by decide +kernel
theorem dL_grammar_178 : decode cL_grammar 178 = .ok (.invokestatic 52, 3) := by decide +kernel
theorem dL_grammar_181 : decode cL_grammar 181 = .ok (.ldc 51, 2) := by decide +kernel
theorem dL_grammar_183 : decode cL_grammar 183 = .ok (.if_icmp .ne 54, 3) := by decide +kernel
theorem dL_grammar_186 : decode cL_grammar 186 = .ok (.aload_n 0, 1) := by decide +kernel
theorem dL_grammar_187 : decode cL_grammar 187 = .ok (.iconst 1, 1) := by decide +kernel
theorem dL_grammar_188 : decode cL_grammar 188 = .ok (.iload_n 1, 1) := by decide +kernel
theorem dL_grammar_189 : decode cL_grammar 189 = .ok (.bipush 40, 2) := by decide +kernel
theorem dL_grammar_191 : decode cL_grammar 191 = .ok (.aload_n 2, 1) := by decide +kernel
theorem dL_grammar_192 : decode cL_grammar 192 = .ok (.iload_n 3, 1) := by decide +kernel
theorem dL_grammar_193 : decode cL_grammar 193 = .ok (.bipush 17, 2) := by decide +kernel
theorem dL_grammar_195 : decode cL_grammar 195 = .ok (.iadd, 1) := by decide +kernel
theorem dL_grammar_196 : decode cL_grammar 196 = .ok (.bipush 60, 2) := by decide +kernel
theorem dL_grammar_198 : decode cL_grammar 198 = .ok (.invokestatic 109, 3) := by decide +kernel
theorem dL_grammar_201 : decode cL_grammar 201 = .ok (.iadd, 1) := by decide +kernel
theorem dL_grammar_202 : decode cL_grammar 202 = .ok (.bipush 31, 2) := by decide +kernel
theorem dL_grammar_204 : decode cL_grammar 204 = .ok (.iconst 1, 1) := by decide +kernel
theorem dL_grammar_205 : decode cL_grammar 205 = .ok (.aload_n 2, 1) := by decide +kernel
theorem dL_grammar_206 : decode cL_grammar 206 = .ok (.iload_n 3, 1) := by decide +kernel
theorem dL_grammar_207 : decode cL_grammar 207 = .ok (.bipush 18, 2) := by decide +kernel
theorem dL_grammar_209 : decode cL_grammar 209 = .ok (.iadd, 1) := by decide +kernel
theorem dL_grammar_210 : decode cL_grammar 210 = .ok (.bipush 99, 2) := by decide +kernel
theorem dL_grammar_212 : decode cL_grammar 212 = .ok (.invokestatic 109, 3) := by decide +kernel
theorem dL_grammar_215 : decode cL_grammar 215 = .ok (.iadd, 1) := by decide +kernel
theorem dL_grammar_216 : decode cL_grammar 216 = .ok (.aload_n 2, 1) := by decide +kernel
theorem dL_grammar_217 : decode cL_grammar 217 = .ok (.iload_n 3, 1) := by decide +kernel
theorem dL_grammar_218 : decode cL_grammar 218 = .ok (.bipush 19, 2) := by decide +kernel
theorem dL_grammar_220 : decode cL_grammar 220 = .ok (.iadd, 1) := by decide +kernel
theorem dL_grammar_221 : decode cL_grammar 221 = .ok (.bipush 16, 2) := by decide +kernel
theorem dL_grammar_223 : decode cL_grammar 223 = .ok (.invokestatic 109, 3) := by decide +kernel
theorem dL_grammar_226 : decode cL_grammar 226 = .ok (.invokestatic 52, 3) := by decide +kernel
theorem dL_grammar_229 : decode cL_grammar 229 = .ok (.iconst 1, 1) := by decide +kernel
theorem dL_grammar_230 : decode cL_grammar 230 = .ok (.if_icmp .ne 7, 3) := by decide +kernel
theorem dL_grammar_233 : decode cL_grammar 233 = .ok (.iconst 1, 1) := by decide +kernel
theorem dL_grammar_234 : decode cL_grammar 234 = .ok (.goto 4, 3) := by decide +kernel
theorem dL_grammar_237 : decode cL_grammar 237 = .ok (.iconst 0, 1) := by decide +kernel
theorem dL_grammar_238 : decode cL_grammar 238 = .ok (.istore 5, 2) := by decide +kernel
theorem dL_grammar_240 : decode cL_grammar 240 = .ok (.iload 5, 2) := by decide +kernel
theorem dL_grammar_242 : decode cL_grammar 242 = .ok (.ifCond .eq 69, 3) := by decide +kernel
theorem dL_grammar_245 : decode cL_grammar 245 = .ok (.aload_n 0, 1) := by decide +kernel
theorem dL_grammar_246 : decode cL_grammar 246 = .ok (.bipush 8, 2) := by decide +kernel
theorem dL_grammar_248 : decode cL_grammar 248 = .ok (.iload_n 1, 1) := by decide +kernel
theorem dL_grammar_249 : decode cL_grammar 249 = .ok (.aload_n 2, 1) := by decide +kernel
theorem dL_grammar_250 : decode cL_grammar 250 = .ok (.iload_n 3, 1) := by decide +kernel
theorem dL_grammar_251 : decode cL_grammar 251 = .ok (.bipush 20, 2) := by decide +kernel
theorem dL_grammar_253 : decode cL_grammar 253 = .ok (.iadd, 1) := by decide +kernel
theorem dL_grammar_254 : decode cL_grammar 254 = .ok (.iconst 2, 1) := by decide +kernel
theorem dL_grammar_255 : decode cL_grammar 255 = .ok (.invokestatic 109, 3) := by decide +kernel
theorem dL_grammar_258 : decode cL_grammar 258 = .ok (.bipush 40, 2) := by decide +kernel
theorem dL_grammar_260 : decode cL_grammar 260 = .ok (.aload_n 2, 1) := by decide +kernel
theorem dL_grammar_261 : decode cL_grammar 261 = .ok (.iload_n 3, 1) := by decide +kernel
theorem dL_grammar_262 : decode cL_grammar 262 = .ok (.bipush 21, 2) := by decide +kernel
theorem dL_grammar_264 : decode cL_grammar 264 = .ok (.iadd, 1) := by decide +kernel
theorem dL_grammar_265 : decode cL_grammar 265 = .ok (.iconst 2, 1) := by decide +kernel
theorem dL_grammar_266 : decode cL_grammar 266 = .ok (.invokestatic 109, 3) := by decide +kernel
theorem dL_grammar_269 : decode cL_grammar 269 = .ok (.iadd, 1) := by decide +kernel
theorem dL_grammar_270 : decode cL_grammar 270 = .ok (.iconst 0, 1) := by decide +kernel
theorem dL_grammar_271 : decode cL_grammar 271 = .ok (.iconst 0, 1) := by decide +kernel
theorem dL_grammar_272 : decode cL_grammar 272 = .ok (.invokestatic 52, 3) := by decide +kernel
theorem dL_grammar_275 : decode cL_grammar 275 = .ok (.iconst (-1), 1) := by decide +kernel
theorem dL_grammar_276 : decode cL_grammar 276 = .ok (.if_icmp .ne 35, 3) := by decide +kernel
theorem dL_grammar_279 : decode cL_grammar 279 = .ok (.aload_n 0, 1) := by decide +kernel
theorem dL_grammar_280 : decode cL_grammar 280 = .ok (.iload_n 1, 1) := by decide +kernel
theorem dL_grammar_281 : decode cL_grammar 281 = .ok (.aload_n 2, 1) := by decide +kernel
theorem dL_grammar_282 : decode cL_grammar 282 = .ok (.iload_n 3, 1) := by decide +kernel
theorem dL_grammar_283 : decode cL_grammar 283 = .ok (.bipush 22, 2) := by decide +kernel
theorem dL_grammar_285 : decode cL_grammar 285 = .ok (.iadd, 1) := by decide +kernel
theorem dL_grammar_286 : decode cL_grammar 286 = .ok (.iconst 2, 1) := by decide +kernel
theorem dL_grammar_287 : decode cL_grammar 287 = .ok (.invokestatic 109, 3) := by decide +kernel
theorem dL_grammar_290 : decode cL_grammar 290 = .ok (.aload_n 2, 1) := by decide +kernel
theorem dL_grammar_291 : decode cL_grammar 291 = .ok (.iload_n 3, 1) := by decide +kernel
theorem dL_grammar_292 : decode cL_grammar 292 = .ok (.bipush 23, 2) := by decide +kernel
theorem dL_grammar_294 : decode cL_grammar 294 = .ok (.iadd, 1) := by decide +kernel
theorem dL_grammar_295 : decode cL_grammar 295 = .ok (.iconst 4, 1) := by decide +kernel
theorem dL_grammar_296 : decode cL_grammar 296 = .ok (.invokestatic 109, 3) := by decide +kernel
theorem dL_grammar_299 : decode cL_grammar 299 = .ok (.bipush 41, 2) := by decide +kernel
theorem dL_grammar_301 : decode cL_grammar 301 = .ok (.invokevirtual 136, 3) := by decide +kernel
theorem dL_grammar_304 : decode cL_grammar 304 = .ok (.ifCond .ne 7, 3) := by decide +kernel
theorem dL_grammar_307 : decode cL_grammar 307 = .ok (.iconst 1, 1) := by decide +kernel
theorem dL_grammar_308 : decode cL_grammar 308 = .ok (.goto 4, 3) := by decide +kernel
theorem dL_grammar_311 : decode cL_grammar 311 = .ok (.iconst 0, 1) := by decide +kernel
theorem dL_grammar_312 : decode cL_grammar 312 = .ok (.istore 5, 2) := by decide +kernel
theorem dL_grammar_314 : decode cL_grammar 314 = .ok (.iconst 0, 1) := by decide +kernel
theorem dL_grammar_315 : decode cL_grammar 315 = .ok (.istore 7, 2) := by decide +kernel
theorem dL_grammar_317 : decode cL_grammar 317 = .ok (.iload 7, 2) := by decide +kernel
theorem dL_grammar_319 : decode cL_grammar 319 = .ok (.iconst 4, 1) := by decide +kernel
theorem dL_grammar_320 : decode cL_grammar 320 = .ok (.if_icmp .ge 134, 3) := by decide +kernel
theorem dL_grammar_323 : decode cL_grammar 323 = .ok (.iload 5, 2) := by decide +kernel
theorem dL_grammar_325 : decode cL_grammar 325 = .ok (.ifCond .eq 120, 3) := by decide +kernel
theorem dL_grammar_328 : decode cL_grammar 328 = .ok (.aload_n 0, 1) := by decide +kernel
theorem dL_grammar_329 : decode cL_grammar 329 = .ok (.iconst 2, 1) := by decide +kernel
theorem dL_grammar_330 : decode cL_grammar 330 = .ok (.iload_n 1, 1) := by decide +kernel
theorem dL_grammar_331 : decode cL_grammar 331 = .ok (.aload_n 2, 1) := by decide +kernel
theorem dL_grammar_332 : decode cL_grammar 332 = .ok (.iload_n 3, 1) := by decide +kernel
theorem dL_grammar_333 : decode cL_grammar 333 = .ok (.bipush 24, 2) := by decide +kernel
theorem dL_grammar_335 : decode cL_grammar 335 = .ok (.iadd, 1) := by decide +kernel
theorem dL_grammar_336 : decode cL_grammar 336 = .ok (.iconst 3, 1) := by decide +kernel
theorem dL_grammar_337 : decode cL_grammar 337 = .ok (.iload 7, 2) := by decide +kernel
theorem dL_grammar_339 : decode cL_grammar 339 = .ok (.imul, 1) := by decide +kernel
theorem dL_grammar_340 : decode cL_grammar 340 = .ok (.iadd, 1) := by decide +kernel
theorem dL_grammar_341 : decode cL_grammar 341 = .ok (.bipush 32, 2) := by decide +kernel
theorem dL_grammar_343 : decode cL_grammar 343 = .ok (.invokestatic 109, 3) := by decide +kernel
theorem dL_grammar_346 : decode cL_grammar 346 = .ok (.aload_n 2, 1) := by decide +kernel
theorem dL_grammar_347 : decode cL_grammar 347 = .ok (.iload_n 3, 1) := by decide +kernel
theorem dL_grammar_348 : decode cL_grammar 348 = .ok (.bipush 25, 2) := by decide +kernel
theorem dL_grammar_350 : decode cL_grammar 350 = .ok (.iadd, 1) := by decide +kernel
theorem dL_grammar_351 : decode cL_grammar 351 = .ok (.iconst 3, 1) := by decide +kernel
theorem dL_grammar_352 : decode cL_grammar 352 = .ok (.iload 7, 2) := by decide +kernel
theorem dL_grammar_354 : decode cL_grammar 354 = .ok (.imul, 1) := by decide +kernel
theorem dL_grammar_355 : decode cL_grammar 355 = .ok (.iadd, 1) := by decide +kernel
theorem dL_grammar_356 : decode cL_grammar 356 = .ok (.iconst 4, 1) := by decide +kernel
theorem dL_grammar_357 : decode cL_grammar 357 = .ok (.invokestatic 109, 3) := by decide +kernel
theorem dL_grammar_360 : decode cL_grammar 360 = .ok (.bipush 50, 2) := by decide +kernel
theorem dL_grammar_362 : decode cL_grammar 362 = .ok (.aload_n 2, 1) := by decide +kernel
theorem dL_grammar_363 : decode cL_grammar 363 = .ok (.iload_n 3, 1) := by decide +kernel
theorem dL_grammar_364 : decode cL_grammar 364 = .ok (.bipush 26, 2) := by decide +kernel
theorem dL_grammar_366 : decode cL_grammar 366 = .ok (.iadd, 1) := by decide +kernel
theorem dL_grammar_367 : decode cL_grammar 367 = .ok (.iconst 3, 1) := by decide +kernel
theorem dL_grammar_368 : decode cL_grammar 368 = .ok (.iload 7, 2) := by decide +kernel
theorem dL_grammar_370 : decode cL_grammar 370 = .ok (.imul, 1) := by decide +kernel
theorem dL_grammar_371 : decode cL_grammar 371 = .ok (.iadd, 1) := by decide +kernel
theorem dL_grammar_372 : decode cL_grammar 372 = .ok (.bipush 9, 2) := by decide +kernel
theorem dL_grammar_374 : decode cL_grammar 374 = .ok (.invokestatic 109, 3) := by decide +kernel
theorem dL_grammar_377 : decode cL_grammar 377 = .ok (.iadd, 1) := by decide +kernel
theorem dL_grammar_378 : decode cL_grammar 378 = .ok (.iconst 0, 1) := by decide +kernel
theorem dL_grammar_379 : decode cL_grammar 379 = .ok (.invokestatic 52, 3) := by decide +kernel
theorem dL_grammar_382 : decode cL_grammar 382 = .ok (.iconst (-1), 1) := by decide +kernel
theorem dL_grammar_383 : decode cL_grammar 383 = .ok (.if_icmp .lt 62, 3) := by decide +kernel
theorem dL_grammar_386 : decode cL_grammar 386 = .ok (.aload_n 0, 1) := by decide +kernel
theorem dL_grammar_387 : decode cL_grammar 387 = .ok (.iconst 3, 1) := by decide +kernel
theorem dL_grammar_388 : decode cL_grammar 388 = .ok (.iload_n 1, 1) := by decide +kernel
theorem dL_grammar_389 : decode cL_grammar 389 = .ok (.iconst 1, 1) := by decide +kernel
theorem dL_grammar_390 : decode cL_grammar 390 = .ok (.aload_n 2, 1) := by decide +kernel
theorem dL_grammar_391 : decode cL_grammar 391 = .ok (.iload_n 3, 1) := by decide +kernel
theorem dL_grammar_392 : decode cL_grammar 392 = .ok (.bipush 36, 2) := by decide +kernel
theorem dL_grammar_394 : decode cL_grammar 394 = .ok (.iadd, 1) := by decide +kernel
theorem dL_grammar_395 : decode cL_grammar 395 = .ok (.iconst 2, 1) := by decide +kernel
theorem dL_grammar_396 : decode cL_grammar 396 = .ok (.iload 7, 2) := by decide +kernel
theorem dL_grammar_398 : decode cL_grammar 398 = .ok (.imul, 1) := by decide +kernel
theorem dL_grammar_399 : decode cL_grammar 399 = .ok (.iadd, 1) := by decide +kernel
theorem dL_grammar_400 : decode cL_grammar 400 = .ok (.bipush 12, 2) := by decide +kernel
theorem dL_grammar_402 : decode cL_grammar 402 = .ok (.invokestatic 109, 3) := by decide +kernel
theorem dL_grammar_405 : decode cL_grammar 405 = .ok (.iadd, 1) := by decide +kernel
theorem dL_grammar_406 : decode cL_grammar 406 = .ok (.bipush 30, 2) := by decide +kernel
theorem dL_grammar_408 : decode cL_grammar 408 = .ok (.iload 7, 2) := by decide +kernel
theorem dL_grammar_410 : decode cL_grammar 410 = .ok (.iconst 2, 1) := by decide +kernel
theorem dL_grammar_411 : decode cL_grammar 411 = .ok (.irem, 1) := by decide +kernel
theorem dL_grammar_412 : decode cL_grammar 412 = .ok (.iadd, 1) := by decide +kernel
theorem dL_grammar_413 : decode cL_grammar 413 = .ok (.iconst 1, 1) := by decide +kernel
theorem dL_grammar_414 : decode cL_grammar 414 = .ok (.aload_n 2, 1) := by decide +kernel
theorem dL_grammar_415 : decode cL_grammar 415 = .ok (.iload_n 3, 1) := by decide +kernel
theorem dL_grammar_416 : decode cL_grammar 416 = .ok (.bipush 37, 2) := by decide +kernel
theorem dL_grammar_418 : decode cL_grammar 418 = .ok (.iadd, 1) := by decide +kernel
theorem dL_grammar_419 : decode cL_grammar 419 = .ok (.iconst 2, 1) := by decide +kernel
theorem dL_grammar_420 : decode cL_grammar 420 = .ok (.iload 7, 2) := by decide +kernel
theorem dL_grammar_422 : decode cL_grammar 422 = .ok (.imul, 1) := by decide +kernel
theorem dL_grammar_423 : decode cL_grammar 423 = .ok (.iadd, 1) := by decide +kernel
theorem dL_grammar_424 : decode cL_grammar 424 = .ok (.bipush 9, 2) := by decide +kernel
theorem dL_grammar_426 : decode cL_grammar 426 = .ok (.invokestatic 109, 3) := by decide +kernel
theorem dL_grammar_429 : decode cL_grammar 429 = .ok (.iadd, 1) := by decide +kernel
theorem dL_grammar_430 : decode cL_grammar 430 = .ok (.iconst 0, 1) := by decide +kernel
theorem dL_grammar_431 : decode cL_grammar 431 = .ok (.invokestatic 52, 3) := by decide +kernel
theorem dL_grammar_434 : decode cL_grammar 434 = .ok (.iload 7, 2) := by decide +kernel
theorem dL_grammar_436 : decode cL_grammar 436 = .ok (.iconst 1, 1) := by decide +kernel
theorem dL_grammar_437 : decode cL_grammar 437 = .ok (.iadd, 1) := by decide +kernel
theorem dL_grammar_438 : decode cL_grammar 438 = .ok (.if_icmp .ne 7, 3) := by decide +kernel
theorem dL_grammar_441 : decode cL_grammar 441 = .ok (.iconst 1, 1) := by decide +kernel
theorem dL_grammar_442 : decode cL_grammar 442 = .ok (.goto 4, 3) := by decide +kernel
theorem dL_grammar_445 : decode cL_grammar 445 = .ok (.iconst 0, 1) := by decide +kernel
theorem dL_grammar_446 : decode cL_grammar 446 = .ok (.istore 5, 2) := by decide +kernel
theorem dL_grammar_448 : decode cL_grammar 448 = .ok (.iinc 7 1, 3) := by decide +kernel
theorem dL_grammar_451 : decode cL_grammar 451 = .ok (.goto (-134), 3) := by decide +kernel
theorem dL_grammar_454 : decode cL_grammar 454 = .ok (.iload 5, 2) := by decide +kernel
theorem dL_grammar_456 : decode cL_grammar 456 = .ok (.ifCond .eq 27, 3) := by decide +kernel
theorem dL_grammar_459 : decode cL_grammar 459 = .ok (.aload_n 0, 1) := by decide +kernel
theorem dL_grammar_460 : decode cL_grammar 460 = .ok (.iload_n 1, 1) := by decide +kernel
theorem dL_grammar_461 : decode cL_grammar 461 = .ok (.aload_n 2, 1) := by decide +kernel
theorem dL_grammar_462 : decode cL_grammar 462 = .ok (.iload_n 3, 1) := by decide +kernel
theorem dL_grammar_463 : decode cL_grammar 463 = .ok (.bipush 44, 2) := by decide +kernel
theorem dL_grammar_465 : decode cL_grammar 465 = .ok (.iadd, 1) := by decide +kernel
theorem dL_grammar_466 : decode cL_grammar 466 = .ok (.iconst 3, 1) := by decide +kernel
theorem dL_grammar_467 : decode cL_grammar 467 = .ok (.invokestatic 109, 3) := by decide +kernel
theorem dL_grammar_470 : decode cL_grammar 470 = .ok (.iconst 1, 1) := by decide +kernel
theorem dL_grammar_471 : decode cL_grammar 471 = .ok (.isub, 1) := by decide +kernel
theorem dL_grammar_472 : decode cL_grammar 472 = .ok (.invokevirtual 139, 3) := by decide +kernel
theorem dL_grammar_475 : decode cL_grammar 475 = .ok (.iconst (-1), 1) := by decide +kernel
theorem dL_grammar_476 : decode cL_grammar 476 = .ok (.if_icmp .ne 7, 3) := by decide +kernel
theorem dL_grammar_479 : decode cL_grammar 479 = .ok (.iconst 1, 1) := by decide +kernel
theorem dL_grammar_480 : decode cL_grammar 480 = .ok (.goto 4, 3) := by decide +kernel
theorem dL_grammar_483 : decode cL_grammar 483 = .ok (.iconst 0, 1) := by decide +kernel
theorem dL_grammar_484 : decode cL_grammar 484 = .ok (.ireturn, 1) := by decide +kernel
theorem dL_babel_0 : decode cL_babel 0 = .ok (.new 11, 3) := by decide +kernel
theorem dL_babel_3 : decode cL_babel 3 = .ok (.dup, 1) := by decide +kernel
theorem dL_babel_4 : decode cL_babel 4 = .ok (.invokespecial 142, 3) := by decide +kernel
theorem dL_babel_7 : decode cL_babel 7 = .ok (.astore_n 2, 1) := by decide +kernel
theorem dL_babel_8 : decode cL_babel 8 = .ok (.iconst 1, 1) := by decide +kernel
theorem dL_babel_9 : decode cL_babel 9 = .ok (.istore_n 3, 1) := by decide +kernel
theorem dL_babel_10 : decode cL_babel 10 = .ok (.iconst 0, 1) := by decide +kernel
theorem dL_babel_11 : decode cL_babel 11 = .ok (.istore 4, 2) := by decide +kernel
theorem dL_babel_13 : decode cL_babel 13 = .ok (.iload 4, 2) := by decide +kernel
theorem dL_babel_15 : decode cL_babel 15 = .ok (.iconst 4, 1) := by decide +kernel
theorem dL_babel_16 : decode cL_babel 16 = .ok (.if_icmp .ge 201, 3) := by decide +kernel
theorem dL_babel_19 : decode cL_babel 19 = .ok (.iload_n 3, 1) := by decide +kernel
theorem dL_babel_20 : decode cL_babel 20 = .ok (.ifCond .eq 197, 3) := by decide +kernel
theorem dL_babel_23 : decode cL_babel 23 = .ok (.iload_n 1, 1) := by decide +kernel
theorem dL_babel_24 : decode cL_babel 24 = .ok (.bipush 30, 2) := by decide +kernel
theorem dL_babel_26 : decode cL_babel 26 = .ok (.iload 4, 2) := by decide +kernel
theorem dL_babel_28 : decode cL_babel 28 = .ok (.imul, 1) := by decide +kernel
theorem dL_babel_29 : decode cL_babel 29 = .ok (.iadd, 1) := by decide +kernel
theorem dL_babel_30 : decode cL_babel 30 = .ok (.istore 5, 2) := by decide +kernel
theorem dL_babel_32 : decode cL_babel 32 = .ok (.aload_n 2, 1) := by decide +kernel
theorem dL_babel_33 : decode cL_babel 33 = .ok (.iload 4, 2) := by decide +kernel
theorem dL_babel_35 : decode cL_babel 35 = .ok (.aload_n 0, 1) := by decide +kernel
theorem dL_babel_36 : decode cL_babel 36 = .ok (.iload 5, 2) := by decide +kernel
theorem dL_babel_38 : decode cL_babel 38 = .ok (.invokestatic 143, 3) := by decide +kernel
theorem dL_babel_41 : decode cL_babel 41 = .ok (.istore_n 3, 1) := by decide +kernel
theorem dL_babel_42 : decode cL_babel 42 = .ok (.iconst 0, 1) := by decide +kernel
theorem dL_babel_43 : decode cL_babel 43 = .ok (.istore 6, 2) := by decide +kernel
theorem dL_babel_45 : decode cL_babel 45 = .ok (.iload 6, 2) := by decide +kernel
theorem dL_babel_47 : decode cL_babel 47 = .ok (.bipush 6, 2) := by decide +kernel
theorem dL_babel_49 : decode cL_babel 49 = .ok (.if_icmp .ge 99, 3) := by decide +kernel
theorem dL_babel_52 : decode cL_babel 52 = .ok (.iload_n 3, 1) := by decide +kernel
theorem dL_babel_53 : decode cL_babel 53 = .ok (.ifCond .eq 95, 3) := by decide +kernel
theorem dL_babel_56 : decode cL_babel 56 = .ok (.aload_n 0, 1) := by decide +kernel
theorem dL_babel_57 : decode cL_babel 57 = .ok (.iload 5, 2) := by decide +kernel
theorem dL_babel_59 : decode cL_babel 59 = .ok (.bipush 45, 2) := by decide +kernel
theorem dL_babel_61 : decode cL_babel 61 = .ok (.iadd, 1) := by decide +kernel
theorem dL_babel_62 : decode cL_babel 62 = .ok (.iconst 2, 1) := by decide +kernel
theorem dL_babel_63 : decode cL_babel 63 = .ok (.iload 6, 2) := by decide +kernel
theorem dL_babel_65 : decode cL_babel 65 = .ok (.imul, 1) := by decide +kernel
theorem dL_babel_66 : decode cL_babel 66 = .ok (.iadd, 1) := by decide +kernel
theorem dL_babel_67 : decode cL_babel 67 = .ok (.ldc 116, 2) := by decide +kernel
theorem dL_babel_69 : decode cL_babel 69 = .ok (.invokestatic 109, 3) := by decide +kernel
theorem dL_babel_72 : decode cL_babel 72 = .ok (.istore 7, 2) := by decide +kernel
theorem dL_babel_74 : decode cL_babel 74 = .ok (.aload_n 2, 1) := by decide +kernel
theorem dL_babel_75 : decode cL_babel 75 = .ok (.iload 4, 2) := by decide +kernel
theorem dL_babel_77 : decode cL_babel 77 = .ok (.iload 7, 2) := by decide +kernel
theorem dL_babel_79 : decode cL_babel 79 = .ok (.sipush 4000, 3) := by decide +kernel
theorem dL_babel_82 : decode cL_babel 82 = .ok (.irem, 1) := by decide +kernel
theorem dL_babel_83 : decode cL_babel 83 = .ok (.iload 7, 2) := by decide +kernel
theorem dL_babel_85 : decode cL_babel 85 = .ok (.sipush 4000, 3) := by decide +kernel
theorem dL_babel_88 : decode cL_babel 88 = .ok (.idiv, 1) := by decide +kernel
theorem dL_babel_89 : decode cL_babel 89 = .ok (.iconst 3, 1) := by decide +kernel
theorem dL_babel_90 : decode cL_babel 90 = .ok (.irem, 1) := by decide +kernel
theorem dL_babel_91 : decode cL_babel 91 = .ok (.invokestatic 147, 3) := by decide +kernel
theorem dL_babel_94 : decode cL_babel 94 = .ok (.ifCond .eq 46, 3) := by decide +kernel
theorem dL_babel_97 : decode cL_babel 97 = .ok (.aload_n 2, 1) := by decide +kernel
theorem dL_babel_98 : decode cL_babel 98 = .ok (.iload 4, 2) := by decide +kernel
theorem dL_babel_100 : decode cL_babel 100 = .ok (.iload 7, 2) := by decide +kernel
theorem dL_babel_102 : decode cL_babel 102 = .ok (.bipush 70, 2) := by decide +kernel
theorem dL_babel_104 : decode cL_babel 104 = .ok (.irem, 1) := by decide +kernel
theorem dL_babel_105 : decode cL_babel 105 = .ok (.iload 7, 2) := by decide +kernel
theorem dL_babel_107 : decode cL_babel 107 = .ok (.bipush 70, 2) := by decide +kernel
theorem dL_babel_109 : decode cL_babel 109 = .ok (.idiv, 1) := by decide +kernel
theorem dL_babel_110 : decode cL_babel 110 = .ok (.iconst 3, 1) := by decide +kernel
theorem dL_babel_111 : decode cL_babel 111 = .ok (.irem, 1) := by decide +kernel
theorem dL_babel_112 : decode cL_babel 112 = .ok (.bipush 60, 2) := by decide +kernel
theorem dL_babel_114 : decode cL_babel 114 = .ok (.aload_n 0, 1) := by decide +kernel
theorem dL_babel_115 : decode cL_babel 115 = .ok (.iload 5, 2) := by decide +kernel
theorem dL_babel_117 : decode cL_babel 117 = .ok (.bipush 46, 2) := by decide +kernel
theorem dL_babel_119 : decode cL_babel 119 = .ok (.iadd, 1) := by decide +kernel
theorem dL_babel_120 : decode cL_babel 120 = .ok (.iconst 2, 1) := by decide +kernel
theorem dL_babel_121 : decode cL_babel 121 = .ok (.iload 6, 2) := by decide +kernel
theorem dL_babel_123 : decode cL_babel 123 = .ok (.imul, 1) := by decide +kernel
theorem dL_babel_124 : decode cL_babel 124 = .ok (.iadd, 1) := by decide +kernel
theorem dL_babel_125 : decode cL_babel 125 = .ok (.bipush 20, 2) := by decide +kernel
theorem dL_babel_127 : decode cL_babel 127 = .ok (.invokestatic 109, 3) := by decide +kernel
theorem dL_babel_130 : decode cL_babel 130 = .ok (.invokestatic 151, 3) := by decide +kernel
theorem dL_babel_133 : decode cL_babel 133 = .ok (.ifCond .eq 7, 3) := by decide +kernel
theorem dL_babel_136 : decode cL_babel 136 = .ok (.iconst 1, 1) := by decide +kernel
theorem dL_babel_137 : decode cL_babel 137 = .ok (.goto 4, 3) := by decide +kernel
theorem dL_babel_140 : decode cL_babel 140 = .ok (.iconst 0, 1) := by decide +kernel
theorem dL_babel_141 : decode cL_babel 141 = .ok (.istore_n 3, 1) := by decide +kernel
theorem dL_babel_142 : decode cL_babel 142 = .ok (.iinc 6 1, 3) := by decide +kernel
theorem dL_babel_145 : decode cL_babel 145 = .ok (.goto (-100), 3) := by decide +kernel
theorem dL_babel_148 : decode cL_babel 148 = .ok (.iload_n 3, 1) := by decide +kernel
theorem dL_babel_149 : decode cL_babel 149 = .ok (.ifCond .eq 60, 3) := by decide +kernel
theorem dL_babel_152 : decode cL_babel 152 = .ok (.aload_n 2, 1) := by decide +kernel
theorem dL_babel_153 : decode cL_babel 153 = .ok (.iload 4, 2) := by decide +kernel
theorem dL_babel_155 : decode cL_babel 155 = .ok (.aload_n 0, 1) := by decide +kernel
theorem dL_babel_156 : decode cL_babel 156 = .ok (.iload 5, 2) := by decide +kernel
theorem dL_babel_158 : decode cL_babel 158 = .ok (.bipush 57, 2) := by decide +kernel
theorem dL_babel_160 : decode cL_babel 160 = .ok (.iadd, 1) := by decide +kernel
theorem dL_babel_161 : decode cL_babel 161 = .ok (.iconst 3, 1) := by decide +kernel
theorem dL_babel_162 : decode cL_babel 162 = .ok (.invokestatic 109, 3) := by decide +kernel
theorem dL_babel_165 : decode cL_babel 165 = .ok (.bipush 60, 2) := by decide +kernel
theorem dL_babel_167 : decode cL_babel 167 = .ok (.invokestatic 155, 3) := by decide +kernel
theorem dL_babel_170 : decode cL_babel 170 = .ok (.ifCond .eq 39, 3) := by decide +kernel
theorem dL_babel_173 : decode cL_babel 173 = .ok (.aload_n 2, 1) := by decide +kernel
theorem dL_babel_174 : decode cL_babel 174 = .ok (.iload 4, 2) := by decide +kernel
theorem dL_babel_176 : decode cL_babel 176 = .ok (.aload_n 0, 1) := by decide +kernel
theorem dL_babel_177 : decode cL_babel 177 = .ok (.iload 5, 2) := by decide +kernel
theorem dL_babel_179 : decode cL_babel 179 = .ok (.bipush 58, 2) := by decide +kernel
theorem dL_babel_181 : decode cL_babel 181 = .ok (.iadd, 1) := by decide +kernel
theorem dL_babel_182 : decode cL_babel 182 = .ok (.iconst 2, 1) := by decide +kernel
theorem dL_babel_183 : decode cL_babel 183 = .ok (.invokestatic 109, 3) := by decide +kernel
theorem dL_babel_186 : decode cL_babel 186 = .ok (.bipush 43, 2) := by decide +kernel
theorem dL_babel_188 : decode cL_babel 188 = .ok (.aload_n 0, 1) := by decide +kernel
theorem dL_babel_189 : decode cL_babel 189 = .ok (.iload 5, 2) := by decide +kernel
theorem dL_babel_191 : decode cL_babel 191 = .ok (.bipush 59, 2) := by decide +kernel
theorem dL_babel_193 : decode cL_babel 193 = .ok (.iadd, 1) := by decide +kernel
theorem dL_babel_194 : decode cL_babel 194 = .ok (.ldc 116, 2) := by decide +kernel
theorem dL_babel_196 : decode cL_babel 196 = .ok (.invokestatic 109, 3) := by decide +kernel
theorem dL_babel_199 : decode cL_babel 199 = .ok (.invokestatic 158, 3) := by decide +kernel
theorem dL_babel_202 : decode cL_babel 202 = .ok (.ifCond .eq 7, 3) := by decide +kernel
theorem dL_babel_205 : decode cL_babel 205 = .ok (.iconst 1, 1) := by decide +kernel
theorem dL_babel_206 : decode cL_babel 206 = .ok (.goto 4, 3) := by decide +kernel
theorem dL_babel_209 : decode cL_babel 209 = .ok (.iconst 0, 1) := by decide +kernel
theorem dL_babel_210 : decode cL_babel 210 = .ok (.istore_n 3, 1) := by decide +kernel
theorem dL_babel_211 : decode cL_babel 211 = .ok (.iinc 4 3, 3) := by decide +kernel
theorem dL_babel_214 : decode cL_babel 214 = .ok (.goto (-201), 3) := by decide +kernel
theorem dL_babel_217 : decode cL_babel 217 = .ok (.iload_n 3, 1) := by decide +kernel
theorem dL_babel_218 : decode cL_babel 218 = .ok (.ifCond .eq 20, 3) := by decide +kernel
theorem dL_babel_221 : decode cL_babel 221 = .ok (.aload_n 2, 1) := by decide +kernel
theorem dL_babel_222 : decode cL_babel 222 = .ok (.aload_n 0, 1) := by decide +kernel
theorem dL_babel_223 : decode cL_babel 223 = .ok (.iload_n 1, 1) := by decide +kernel
theorem dL_babel_224 : decode cL_babel 224 = .ok (.sipush 150, 3) := by decide +kernel
theorem dL_babel_227 : decode cL_babel 227 = .ok (.iadd, 1) := by decide +kernel
theorem dL_babel_228 : decode cL_babel 228 = .ok (.invokestatic 162, 3) := by decide +kernel
theorem dL_babel_231 : decode cL_babel 231 = .ok (.ifCond .eq 7, 3) := by decide +kernel
theorem dL_babel_234 : decode cL_babel 234 = .ok (.iconst 1, 1) := by decide +kernel
theorem dL_babel_235 : decode cL_babel 235 = .ok (.goto 4, 3) := by decide +kernel
theorem dL_babel_238 : decode cL_babel 238 = .ok (.iconst 0, 1) := by decide +kernel
theorem dL_babel_239 : decode cL_babel 239 = .ok (.ireturn, 1) := by decide +kernel
theorem dL_law_0 : decode cL_law 0 = .ok (.aload_n 0, 1) := by decide +kernel
theorem dL_law_1 : decode cL_law 1 = .ok (.iconst 0, 1) := by decide +kernel
theorem dL_law_2 : decode cL_law 2 = .ok (.invokestatic 166, 3) := by decide +kernel
theorem dL_law_5 : decode cL_law 5 = .ok (.ifCond .eq 17, 3) := by decide +kernel
theorem dL_law_8 : decode cL_law 8 = .ok (.aload_n 0, 1) := by decide +kernel
theorem dL_law_9 : decode cL_law 9 = .ok (.sipush 200, 3) := by decide +kernel
theorem dL_law_12 : decode cL_law 12 = .ok (.invokestatic 166, 3) := by decide +kernel
theorem dL_law_15 : decode cL_law 15 = .ok (.ifCond .eq 7, 3) := by decide +kernel
theorem dL_law_18 : decode cL_law 18 = .ok (.iconst 1, 1) := by decide +kernel
theorem dL_law_19 : decode cL_law 19 = .ok (.goto 4, 3) := by decide +kernel
theorem dL_law_22 : decode cL_law 22 = .ok (.iconst 0, 1) := by decide +kernel
theorem dL_law_23 : decode cL_law 23 = .ok (.ireturn, 1) := by decide +kernel
