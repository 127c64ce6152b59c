theorem dX6_init_0 : decode cX6_init 0 = .ok (.aload_n 0, 1) := by decide +kernel
theorem dX6_init_1 : decode cX6_init 1 = .ok (.invokespecial 1, 3) := by decide +kernel
theorem dX6_init_4 : decode cX6_init 4 = .ok (.aload_n 0, 1) := by decide +kernel
theorem dX6_init_5 : decode cX6_init 5 = .ok (.bipush 67, 2) := by decide +kernel
theorem dX6_init_7 : decode cX6_init 7 = .ok (.newarray .int, 2) := by decide +kernel
theorem dX6_init_9 : decode cX6_init 9 = .ok (.putfield 7, 3) := by decide +kernel
theorem dX6_init_12 : decode cX6_init 12 = .ok (.aload_n 0, 1) := by decide +kernel
theorem dX6_init_13 : decode cX6_init 13 = .ok (.bipush 67, 2) := by decide +kernel
theorem dX6_init_15 : decode cX6_init 15 = .ok (.newarray .int, 2) := by decide +kernel
theorem dX6_init_17 : decode cX6_init 17 = .ok (.putfield 13, 3) := by decide +kernel
theorem dX6_init_20 : decode cX6_init 20 = .ok (.aload_n 0, 1) := by decide +kernel
theorem dX6_init_21 : decode cX6_init 21 = .ok (.sipush 536, 3) := by decide +kernel
theorem dX6_init_24 : decode cX6_init 24 = .ok (.newarray .int, 2) := by decide +kernel
theorem dX6_init_26 : decode cX6_init 26 = .ok (.putfield 16, 3) := by decide +kernel
theorem dX6_init_29 : decode cX6_init 29 = .ok (.aload_n 0, 1) := by decide +kernel
theorem dX6_init_30 : decode cX6_init 30 = .ok (.sipush 134, 3) := by decide +kernel
theorem dX6_init_33 : decode cX6_init 33 = .ok (.newarray .int, 2) := by decide +kernel
theorem dX6_init_35 : decode cX6_init 35 = .ok (.putfield 19, 3) := by decide +kernel
theorem dX6_init_38 : decode cX6_init 38 = .ok (.aload_n 0, 1) := by decide +kernel
theorem dX6_init_39 : decode cX6_init 39 = .ok (.iconst 2, 1) := by decide +kernel
theorem dX6_init_40 : decode cX6_init 40 = .ok (.newarray .boolean, 2) := by decide +kernel
theorem dX6_init_42 : decode cX6_init 42 = .ok (.putfield 22, 3) := by decide +kernel
theorem dX6_init_45 : decode cX6_init 45 = .ok (.aload_n 0, 1) := by decide +kernel
theorem dX6_init_46 : decode cX6_init 46 = .ok (.bipush 49, 2) := by decide +kernel
theorem dX6_init_48 : decode cX6_init 48 = .ok (.newarray .long, 2) := by decide +kernel
theorem dX6_init_50 : decode cX6_init 50 = .ok (.putfield 26, 3) := by decide +kernel
theorem dX6_init_53 : decode cX6_init 53 = .ok (.aload_n 0, 1) := by decide +kernel
theorem dX6_init_54 : decode cX6_init 54 = .ok (.sipush 4374, 3) := by decide +kernel
theorem dX6_init_57 : decode cX6_init 57 = .ok (.newarray .int, 2) := by decide +kernel
theorem dX6_init_59 : decode cX6_init 59 = .ok (.putfield 30, 3) := by decide +kernel
theorem dX6_init_62 : decode cX6_init 62 = .ok (.aload_n 0, 1) := by decide +kernel
theorem dX6_init_63 : decode cX6_init 63 = .ok (.sipush 4374, 3) := by decide +kernel
theorem dX6_init_66 : decode cX6_init 66 = .ok (.newarray .int, 2) := by decide +kernel
theorem dX6_init_68 : decode cX6_init 68 = .ok (.putfield 33, 3) := by decide +kernel
theorem dX6_init_71 : decode cX6_init 71 = .ok (.aload_n 0, 1) := by decide +kernel
theorem dX6_init_72 : decode cX6_init 72 = .ok (.sipush 4374, 3) := by decide +kernel
theorem dX6_init_75 : decode cX6_init 75 = .ok (.newarray .int, 2) := by decide +kernel
theorem dX6_init_77 : decode cX6_init 77 = .ok (.putfield 36, 3) := by decide +kernel
theorem dX6_init_80 : decode cX6_init 80 = .ok (.aload_n 0, 1) := by decide +kernel
theorem dX6_init_81 : decode cX6_init 81 = .ok (.ldc 39, 2) := by decide +kernel
theorem dX6_init_83 : decode cX6_init 83 = .ok (.newarray .int, 2) := by decide +kernel
theorem dX6_init_85 : decode cX6_init 85 = .ok (.putfield 40, 3) := by decide +kernel
theorem dX6_init_88 : decode cX6_init 88 = .ok (.aload_n 0, 1) := by decide +kernel
theorem dX6_init_89 : decode cX6_init 89 = .ok (.sipush 4374, 3) := by decide +kernel
theorem dX6_init_92 : decode cX6_init 92 = .ok (.newarray .int, 2) := by decide +kernel
theorem dX6_init_94 : decode cX6_init 94 = .ok (.putfield 43, 3) := by decide +kernel
theorem dX6_init_97 : decode cX6_init 97 = .ok (.aload_n 0, 1) := by decide +kernel
theorem dX6_init_98 : decode cX6_init 98 = .ok (.bipush 40, 2) := by decide +kernel
theorem dX6_init_100 : decode cX6_init 100 = .ok (.newarray .int, 2) := by decide +kernel
theorem dX6_init_102 : decode cX6_init 102 = .ok (.putfield 46, 3) := by decide +kernel
theorem dX6_init_105 : decode cX6_init 105 = .ok (.aload_n 0, 1) := by decide +kernel
theorem dX6_init_106 : decode cX6_init 106 = .ok (.sipush 400, 3) := by decide +kernel
theorem dX6_init_109 : decode cX6_init 109 = .ok (.newarray .int, 2) := by decide +kernel
theorem dX6_init_111 : decode cX6_init 111 = .ok (.putfield 49, 3) := by decide +kernel
theorem dX6_init_114 : decode cX6_init 114 = .ok (.aload_n 0, 1) := by decide +kernel
theorem dX6_init_115 : decode cX6_init 115 = .ok (.iconst (-1), 1) := by decide +kernel
theorem dX6_init_116 : decode cX6_init 116 = .ok (.putfield 52, 3) := by decide +kernel
theorem dX6_init_119 : decode cX6_init 119 = .ok (.aload_n 0, 1) := by decide +kernel
theorem dX6_init_120 : decode cX6_init 120 = .ok (.iconst 4, 1) := by decide +kernel
theorem dX6_init_121 : decode cX6_init 121 = .ok (.newarray .int, 2) := by decide +kernel
theorem dX6_init_123 : decode cX6_init 123 = .ok (.putfield 56, 3) := by decide +kernel
theorem dX6_init_126 : decode cX6_init 126 = .ok (.aload_n 0, 1) := by decide +kernel
theorem dX6_init_127 : decode cX6_init 127 = .ok (.sipush 200, 3) := by decide +kernel
theorem dX6_init_130 : decode cX6_init 130 = .ok (.newarray .int, 2) := by decide +kernel
theorem dX6_init_132 : decode cX6_init 132 = .ok (.putfield 59, 3) := by decide +kernel
theorem dX6_init_135 : decode cX6_init 135 = .ok (.aload_n 0, 1) := by decide +kernel
theorem dX6_init_136 : decode cX6_init 136 = .ok (.getfield 7, 3) := by decide +kernel
theorem dX6_init_139 : decode cX6_init 139 = .ok (.invokestatic 62, 3) := by decide +kernel
theorem dX6_init_142 : decode cX6_init 142 = .ok (.aload_n 0, 1) := by decide +kernel
theorem dX6_init_143 : decode cX6_init 143 = .ok (.getfield 7, 3) := by decide +kernel
theorem dX6_init_146 : decode cX6_init 146 = .ok (.iconst 0, 1) := by decide +kernel
theorem dX6_init_147 : decode cX6_init 147 = .ok (.sipush 300, 3) := by decide +kernel
theorem dX6_init_150 : decode cX6_init 150 = .ok (.iastore, 1) := by decide +kernel
theorem dX6_init_151 : decode cX6_init 151 = .ok (.aload_n 0, 1) := by decide +kernel
theorem dX6_init_152 : decode cX6_init 152 = .ok (.getfield 7, 3) := by decide +kernel
theorem dX6_init_155 : decode cX6_init 155 = .ok (.iconst 1, 1) := by decide +kernel
theorem dX6_init_156 : decode cX6_init 156 = .ok (.bipush 12, 2) := by decide +kernel
theorem dX6_init_158 : decode cX6_init 158 = .ok (.iastore, 1) := by decide +kernel
theorem dX6_init_159 : decode cX6_init 159 = .ok (.aload_n 0, 1) := by decide +kernel
theorem dX6_init_160 : decode cX6_init 160 = .ok (.getfield 7, 3) := by decide +kernel
theorem dX6_init_163 : decode cX6_init 163 = .ok (.iconst 2, 1) := by decide +kernel
theorem dX6_init_164 : decode cX6_init 164 = .ok (.bipush 30, 2) := by decide +kernel
theorem dX6_init_166 : decode cX6_init 166 = .ok (.iastore, 1) := by decide +kernel
theorem dX6_init_167 : decode cX6_init 167 = .ok (.return_, 1) := by decide +kernel
theorem dX6_thrown_0 : decode cX6_thrown 0 = .ok (.aload_n 0, 1) := by decide +kernel
theorem dX6_thrown_1 : decode cX6_thrown 1 = .ok (.getfield 66, 3) := by decide +kernel
theorem dX6_thrown_4 : decode cX6_thrown 4 = .ok (.ireturn, 1) := by decide +kernel
theorem dX6_begins_0 : decode cX6_begins 0 = .ok (.iconst 0, 1) := by decide +kernel
theorem dX6_begins_1 : decode cX6_begins 1 = .ok (.istore_n 1, 1) := by decide +kernel
theorem dX6_begins_2 : decode cX6_begins 2 = .ok (.iload_n 1, 1) := by decide +kernel
theorem dX6_begins_3 : decode cX6_begins 3 = .ok (.bipush 67, 2) := by decide +kernel
theorem dX6_begins_5 : decode cX6_begins 5 = .ok (.if_icmp .ge 13, 3) := by decide +kernel
theorem dX6_begins_8 : decode cX6_begins 8 = .ok (.aload_n 0, 1) := by decide +kernel
theorem dX6_begins_9 : decode cX6_begins 9 = .ok (.iload_n 1, 1) := by decide +kernel
theorem dX6_begins_10 : decode cX6_begins 10 = .ok (.iconst 0, 1) := by decide +kernel
theorem dX6_begins_11 : decode cX6_begins 11 = .ok (.iastore, 1) := by decide +kernel
theorem dX6_begins_12 : decode cX6_begins 12 = .ok (.iinc 1 1, 3) := by decide +kernel
theorem dX6_begins_15 : decode cX6_begins 15 = .ok (.goto (-13), 3) := by decide +kernel
theorem dX6_begins_18 : decode cX6_begins 18 = .ok (.aload_n 0, 1) := by decide +kernel
theorem dX6_begins_19 : decode cX6_begins 19 = .ok (.iconst 4, 1) := by decide +kernel
theorem dX6_begins_20 : decode cX6_begins 20 = .ok (.iconst 1, 1) := by decide +kernel
theorem dX6_begins_21 : decode cX6_begins 21 = .ok (.iastore, 1) := by decide +kernel
theorem dX6_begins_22 : decode cX6_begins 22 = .ok (.aload_n 0, 1) := by decide +kernel
theorem dX6_begins_23 : decode cX6_begins 23 = .ok (.iconst 5, 1) := by decide +kernel
theorem dX6_begins_24 : decode cX6_begins 24 = .ok (.iconst 1, 1) := by decide +kernel
theorem dX6_begins_25 : decode cX6_begins 25 = .ok (.iastore, 1) := by decide +kernel
theorem dX6_begins_26 : decode cX6_begins 26 = .ok (.aload_n 0, 1) := by decide +kernel
theorem dX6_begins_27 : decode cX6_begins 27 = .ok (.bipush 6, 2) := by decide +kernel
theorem dX6_begins_29 : decode cX6_begins 29 = .ok (.iconst 1, 1) := by decide +kernel
theorem dX6_begins_30 : decode cX6_begins 30 = .ok (.iastore, 1) := by decide +kernel
theorem dX6_begins_31 : decode cX6_begins 31 = .ok (.aload_n 0, 1) := by decide +kernel
theorem dX6_begins_32 : decode cX6_begins 32 = .ok (.bipush 7, 2) := by decide +kernel
theorem dX6_begins_34 : decode cX6_begins 34 = .ok (.iconst 2, 1) := by decide +kernel
theorem dX6_begins_35 : decode cX6_begins 35 = .ok (.iastore, 1) := by decide +kernel
theorem dX6_begins_36 : decode cX6_begins 36 = .ok (.aload_n 0, 1) := by decide +kernel
theorem dX6_begins_37 : decode cX6_begins 37 = .ok (.bipush 8, 2) := by decide +kernel
theorem dX6_begins_39 : decode cX6_begins 39 = .ok (.iconst 1, 1) := by decide +kernel
theorem dX6_begins_40 : decode cX6_begins 40 = .ok (.iastore, 1) := by decide +kernel
theorem dX6_begins_41 : decode cX6_begins 41 = .ok (.return_, 1) := by decide +kernel
theorem dX6_isIn_0 : decode cX6_isIn 0 = .ok (.lload_n 0, 1) := by decide +kernel
theorem dX6_isIn_1 : decode cX6_isIn 1 = .ok (.lload_n 2, 1) := by decide +kernel
theorem dX6_isIn_2 : decode cX6_isIn 2 = .ok (.lcmp, 1) := by decide +kernel
theorem dX6_isIn_3 : decode cX6_isIn 3 = .ok (.ifCond .lt 14, 3) := by decide +kernel
theorem dX6_isIn_6 : decode cX6_isIn 6 = .ok (.lload_n 0, 1) := by decide +kernel
theorem dX6_isIn_7 : decode cX6_isIn 7 = .ok (.lload 4, 2) := by decide +kernel
theorem dX6_isIn_9 : decode cX6_isIn 9 = .ok (.lcmp, 1) := by decide +kernel
theorem dX6_isIn_10 : decode cX6_isIn 10 = .ok (.ifCond .gt 7, 3) := by decide +kernel
theorem dX6_isIn_13 : decode cX6_isIn 13 = .ok (.iconst 1, 1) := by decide +kernel
theorem dX6_isIn_14 : decode cX6_isIn 14 = .ok (.goto 4, 3) := by decide +kernel
theorem dX6_isIn_17 : decode cX6_isIn 17 = .ok (.iconst 0, 1) := by decide +kernel
theorem dX6_isIn_18 : decode cX6_isIn 18 = .ok (.ireturn, 1) := by decide +kernel
theorem dX6_passes_0 : decode cX6_passes 0 = .ok (.aload_n 0, 1) := by decide +kernel
theorem dX6_passes_1 : decode cX6_passes 1 = .ok (.iload_n 1, 1) := by decide +kernel
theorem dX6_passes_2 : decode cX6_passes 2 = .ok (.ifCond .ne 7, 3) := by decide +kernel
theorem dX6_passes_5 : decode cX6_passes 5 = .ok (.iconst 1, 1) := by decide +kernel
theorem dX6_passes_6 : decode cX6_passes 6 = .ok (.goto 12, 3) := by decide +kernel
theorem dX6_passes_9 : decode cX6_passes 9 = .ok (.iload_n 2, 1) := by decide +kernel
theorem dX6_passes_10 : decode cX6_passes 10 = .ok (.ifCond .ne 7, 3) := by decide +kernel
theorem dX6_passes_13 : decode cX6_passes 13 = .ok (.iconst 2, 1) := by decide +kernel
theorem dX6_passes_14 : decode cX6_passes 14 = .ok (.goto 4, 3) := by decide +kernel
theorem dX6_passes_17 : decode cX6_passes 17 = .ok (.iconst 0, 1) := by decide +kernel
theorem dX6_passes_18 : decode cX6_passes 18 = .ok (.putfield 66, 3) := by decide +kernel
theorem dX6_passes_21 : decode cX6_passes 21 = .ok (.aload_n 0, 1) := by decide +kernel
theorem dX6_passes_22 : decode cX6_passes 22 = .ok (.getfield 66, 3) := by decide +kernel
theorem dX6_passes_25 : decode cX6_passes 25 = .ok (.ifCond .ne 7, 3) := by decide +kernel
theorem dX6_passes_28 : decode cX6_passes 28 = .ok (.iconst 1, 1) := by decide +kernel
theorem dX6_passes_29 : decode cX6_passes 29 = .ok (.goto 4, 3) := by decide +kernel
theorem dX6_passes_32 : decode cX6_passes 32 = .ok (.iconst 0, 1) := by decide +kernel
theorem dX6_passes_33 : decode cX6_passes 33 = .ok (.ireturn, 1) := by decide +kernel
theorem dX6_copies_0 : decode cX6_copies 0 = .ok (.iconst 0, 1) := by decide +kernel
theorem dX6_copies_1 : decode cX6_copies 1 = .ok (.istore 4, 2) := by decide +kernel
theorem dX6_copies_3 : decode cX6_copies 3 = .ok (.iload 4, 2) := by decide +kernel
theorem dX6_copies_5 : decode cX6_copies 5 = .ok (.bipush 67, 2) := by decide +kernel
theorem dX6_copies_7 : decode cX6_copies 7 = .ok (.if_icmp .ge 21, 3) := by decide +kernel
theorem dX6_copies_10 : decode cX6_copies 10 = .ok (.aload_n 2, 1) := by decide +kernel
theorem dX6_copies_11 : decode cX6_copies 11 = .ok (.iload_n 3, 1) := by decide +kernel
theorem dX6_copies_12 : decode cX6_copies 12 = .ok (.iload 4, 2) := by decide +kernel
theorem dX6_copies_14 : decode cX6_copies 14 = .ok (.iadd, 1) := by decide +kernel
theorem dX6_copies_15 : decode cX6_copies 15 = .ok (.aload_n 0, 1) := by decide +kernel
theorem dX6_copies_16 : decode cX6_copies 16 = .ok (.iload_n 1, 1) := by decide +kernel
theorem dX6_copies_17 : decode cX6_copies 17 = .ok (.iload 4, 2) := by decide +kernel
theorem dX6_copies_19 : decode cX6_copies 19 = .ok (.iadd, 1) := by decide +kernel
theorem dX6_copies_20 : decode cX6_copies 20 = .ok (.iaload, 1) := by decide +kernel
theorem dX6_copies_21 : decode cX6_copies 21 = .ok (.iastore, 1) := by decide +kernel
theorem dX6_copies_22 : decode cX6_copies 22 = .ok (.iinc 4 1, 3) := by decide +kernel
theorem dX6_copies_25 : decode cX6_copies 25 = .ok (.goto (-22), 3) := by decide +kernel
theorem dX6_copies_28 : decode cX6_copies 28 = .ok (.return_, 1) := by decide +kernel
theorem dX6_keeps_0 : decode cX6_keeps 0 = .ok (.aload_n 0, 1) := by decide +kernel
theorem dX6_keeps_1 : decode cX6_keeps 1 = .ok (.getfield 69, 3) := by decide +kernel
theorem dX6_keeps_4 : decode cX6_keeps 4 = .ok (.bipush 8, 2) := by decide +kernel
theorem dX6_keeps_6 : decode cX6_keeps 6 = .ok (.if_icmp .ne 43, 3) := by decide +kernel
theorem dX6_keeps_9 : decode cX6_keeps 9 = .ok (.iconst 0, 1) := by decide +kernel
theorem dX6_keeps_10 : decode cX6_keeps 10 = .ok (.istore_n 1, 1) := by decide +kernel
theorem dX6_keeps_11 : decode cX6_keeps 11 = .ok (.iload_n 1, 1) := by decide +kernel
theorem dX6_keeps_12 : decode cX6_keeps 12 = .ok (.sipush 469, 3) := by decide +kernel
theorem dX6_keeps_15 : decode cX6_keeps 15 = .ok (.if_icmp .ge 24, 3) := by decide +kernel
theorem dX6_keeps_18 : decode cX6_keeps 18 = .ok (.aload_n 0, 1) := by decide +kernel
theorem dX6_keeps_19 : decode cX6_keeps 19 = .ok (.getfield 16, 3) := by decide +kernel
theorem dX6_keeps_22 : decode cX6_keeps 22 = .ok (.iload_n 1, 1) := by decide +kernel
theorem dX6_keeps_23 : decode cX6_keeps 23 = .ok (.aload_n 0, 1) := by decide +kernel
theorem dX6_keeps_24 : decode cX6_keeps 24 = .ok (.getfield 16, 3) := by decide +kernel
theorem dX6_keeps_27 : decode cX6_keeps 27 = .ok (.iload_n 1, 1) := by decide +kernel
theorem dX6_keeps_28 : decode cX6_keeps 28 = .ok (.bipush 67, 2) := by decide +kernel
theorem dX6_keeps_30 : decode cX6_keeps 30 = .ok (.iadd, 1) := by decide +kernel
theorem dX6_keeps_31 : decode cX6_keeps 31 = .ok (.iaload, 1) := by decide +kernel
theorem dX6_keeps_32 : decode cX6_keeps 32 = .ok (.iastore, 1) := by decide +kernel
theorem dX6_keeps_33 : decode cX6_keeps 33 = .ok (.iinc 1 1, 3) := by decide +kernel
theorem dX6_keeps_36 : decode cX6_keeps 36 = .ok (.goto (-25), 3) := by decide +kernel
theorem dX6_keeps_39 : decode cX6_keeps 39 = .ok (.aload_n 0, 1) := by decide +kernel
theorem dX6_keeps_40 : decode cX6_keeps 40 = .ok (.dup, 1) := by decide +kernel
theorem dX6_keeps_41 : decode cX6_keeps 41 = .ok (.getfield 69, 3) := by decide +kernel
theorem dX6_keeps_44 : decode cX6_keeps 44 = .ok (.iconst 1, 1) := by decide +kernel
theorem dX6_keeps_45 : decode cX6_keeps 45 = .ok (.isub, 1) := by decide +kernel
theorem dX6_keeps_46 : decode cX6_keeps 46 = .ok (.putfield 69, 3) := by decide +kernel
theorem dX6_keeps_49 : decode cX6_keeps 49 = .ok (.aload_n 0, 1) := by decide +kernel
theorem dX6_keeps_50 : decode cX6_keeps 50 = .ok (.getfield 7, 3) := by decide +kernel
theorem dX6_keeps_53 : decode cX6_keeps 53 = .ok (.iconst 0, 1) := by decide +kernel
theorem dX6_keeps_54 : decode cX6_keeps 54 = .ok (.aload_n 0, 1) := by decide +kernel
theorem dX6_keeps_55 : decode cX6_keeps 55 = .ok (.getfield 16, 3) := by decide +kernel
theorem dX6_keeps_58 : decode cX6_keeps 58 = .ok (.bipush 67, 2) := by decide +kernel
theorem dX6_keeps_60 : decode cX6_keeps 60 = .ok (.aload_n 0, 1) := by decide +kernel
theorem dX6_keeps_61 : decode cX6_keeps 61 = .ok (.getfield 69, 3) := by decide +kernel
theorem dX6_keeps_64 : decode cX6_keeps 64 = .ok (.imul, 1) := by decide +kernel
theorem dX6_keeps_65 : decode cX6_keeps 65 = .ok (.invokestatic 72, 3) := by decide +kernel
theorem dX6_keeps_68 : decode cX6_keeps 68 = .ok (.aload_n 0, 1) := by decide +kernel
theorem dX6_keeps_69 : decode cX6_keeps 69 = .ok (.dup, 1) := by decide +kernel
theorem dX6_keeps_70 : decode cX6_keeps 70 = .ok (.getfield 69, 3) := by decide +kernel
theorem dX6_keeps_73 : decode cX6_keeps 73 = .ok (.iconst 1, 1) := by decide +kernel
theorem dX6_keeps_74 : decode cX6_keeps 74 = .ok (.iadd, 1) := by decide +kernel
theorem dX6_keeps_75 : decode cX6_keeps 75 = .ok (.putfield 69, 3) := by decide +kernel
theorem dX6_keeps_78 : decode cX6_keeps 78 = .ok (.return_, 1) := by decide +kernel
theorem dX6_power_0 : decode cX6_power 0 = .ok (.iconst 1, 1) := by decide +kernel
theorem dX6_power_1 : decode cX6_power 1 = .ok (.istore_n 1, 1) := by decide +kernel
theorem dX6_power_2 : decode cX6_power 2 = .ok (.iconst 0, 1) := by decide +kernel
theorem dX6_power_3 : decode cX6_power 3 = .ok (.istore_n 2, 1) := by decide +kernel
theorem dX6_power_4 : decode cX6_power 4 = .ok (.iload_n 2, 1) := by decide +kernel
theorem dX6_power_5 : decode cX6_power 5 = .ok (.aload_n 0, 1) := by decide +kernel
theorem dX6_power_6 : decode cX6_power 6 = .ok (.getfield 7, 3) := by decide +kernel
theorem dX6_power_9 : decode cX6_power 9 = .ok (.iconst 3, 1) := by decide +kernel
theorem dX6_power_10 : decode cX6_power 10 = .ok (.iaload, 1) := by decide +kernel
theorem dX6_power_11 : decode cX6_power 11 = .ok (.if_icmp .ge 13, 3) := by decide +kernel
theorem dX6_power_14 : decode cX6_power 14 = .ok (.iload_n 1, 1) := by decide +kernel
theorem dX6_power_15 : decode cX6_power 15 = .ok (.iconst 3, 1) := by decide +kernel
theorem dX6_power_16 : decode cX6_power 16 = .ok (.imul, 1) := by decide +kernel
theorem dX6_power_17 : decode cX6_power 17 = .ok (.istore_n 1, 1) := by decide +kernel
theorem dX6_power_18 : decode cX6_power 18 = .ok (.iinc 2 1, 3) := by decide +kernel
theorem dX6_power_21 : decode cX6_power 21 = .ok (.goto (-17), 3) := by decide +kernel
theorem dX6_power_24 : decode cX6_power 24 = .ok (.iload_n 1, 1) := by decide +kernel
theorem dX6_power_25 : decode cX6_power 25 = .ok (.ireturn, 1) := by decide +kernel
theorem dX6_many_0 : decode cX6_many 0 = .ok (.iconst 2, 1) := by decide +kernel
theorem dX6_many_1 : decode cX6_many 1 = .ok (.aload_n 0, 1) := by decide +kernel
theorem dX6_many_2 : decode cX6_many 2 = .ok (.invokevirtual 76, 3) := by decide +kernel
theorem dX6_many_5 : decode cX6_many 5 = .ok (.imul, 1) := by decide +kernel
theorem dX6_many_6 : decode cX6_many 6 = .ok (.ireturn, 1) := by decide +kernel
theorem dX6_isPlay_0 : decode cX6_isPlay 0 = .ok (.iload_n 1, 1) := by decide +kernel
theorem dX6_isPlay_1 : decode cX6_isPlay 1 = .ok (.i2l, 1) := by decide +kernel
theorem dX6_isPlay_2 : decode cX6_isPlay 2 = .ok (.lconst 0, 1) := by decide +kernel
theorem dX6_isPlay_3 : decode cX6_isPlay 3 = .ok (.aload_n 0, 1) := by decide +kernel
theorem dX6_isPlay_4 : decode cX6_isPlay 4 = .ok (.invokevirtual 80, 3) := by decide +kernel
theorem dX6_isPlay_7 : decode cX6_isPlay 7 = .ok (.iconst 1, 1) := by decide +kernel
theorem dX6_isPlay_8 : decode cX6_isPlay 8 = .ok (.isub, 1) := by decide +kernel
theorem dX6_isPlay_9 : decode cX6_isPlay 9 = .ok (.i2l, 1) := by decide +kernel
theorem dX6_isPlay_10 : decode cX6_isPlay 10 = .ok (.invokestatic 83, 3) := by decide +kernel
theorem dX6_isPlay_13 : decode cX6_isPlay 13 = .ok (.ireturn, 1) := by decide +kernel
theorem dX6_isHole_0 : decode cX6_isHole 0 = .ok (.iload_n 1, 1) := by decide +kernel
theorem dX6_isHole_1 : decode cX6_isHole 1 = .ok (.i2l, 1) := by decide +kernel
theorem dX6_isHole_2 : decode cX6_isHole 2 = .ok (.lconst 0, 1) := by decide +kernel
theorem dX6_isHole_3 : decode cX6_isHole 3 = .ok (.aload_n 0, 1) := by decide +kernel
theorem dX6_isHole_4 : decode cX6_isHole 4 = .ok (.getfield 7, 3) := by decide +kernel
theorem dX6_isHole_7 : decode cX6_isHole 7 = .ok (.iconst 3, 1) := by decide +kernel
theorem dX6_isHole_8 : decode cX6_isHole 8 = .ok (.iaload, 1) := by decide +kernel
theorem dX6_isHole_9 : decode cX6_isHole 9 = .ok (.iconst 1, 1) := by decide +kernel
theorem dX6_isHole_10 : decode cX6_isHole 10 = .ok (.isub, 1) := by decide +kernel
theorem dX6_isHole_11 : decode cX6_isHole 11 = .ok (.i2l, 1) := by decide +kernel
theorem dX6_isHole_12 : decode cX6_isHole 12 = .ok (.invokestatic 83, 3) := by decide +kernel
theorem dX6_isHole_15 : decode cX6_isHole 15 = .ok (.ireturn, 1) := by decide +kernel
theorem dX6_isStrong_0 : decode cX6_isStrong 0 = .ok (.iload_n 1, 1) := by decide +kernel
theorem dX6_isStrong_1 : decode cX6_isStrong 1 = .ok (.aload_n 0, 1) := by decide +kernel
theorem dX6_isStrong_2 : decode cX6_isStrong 2 = .ok (.invokevirtual 76, 3) := by decide +kernel
theorem dX6_isStrong_5 : decode cX6_isStrong 5 = .ok (.if_icmp .lt 7, 3) := by decide +kernel
theorem dX6_isStrong_8 : decode cX6_isStrong 8 = .ok (.iconst 1, 1) := by decide +kernel
theorem dX6_isStrong_9 : decode cX6_isStrong 9 = .ok (.goto 4, 3) := by decide +kernel
theorem dX6_isStrong_12 : decode cX6_isStrong 12 = .ok (.iconst 0, 1) := by decide +kernel
theorem dX6_isStrong_13 : decode cX6_isStrong 13 = .ok (.ireturn, 1) := by decide +kernel
theorem dX6_coverOf_0 : decode cX6_coverOf 0 = .ok (.iload_n 1, 1) := by decide +kernel
theorem dX6_coverOf_1 : decode cX6_coverOf 1 = .ok (.istore_n 3, 1) := by decide +kernel
theorem dX6_coverOf_2 : decode cX6_coverOf 2 = .ok (.iconst 0, 1) := by decide +kernel
theorem dX6_coverOf_3 : decode cX6_coverOf 3 = .ok (.istore 4, 2) := by decide +kernel
theorem dX6_coverOf_5 : decode cX6_coverOf 5 = .ok (.iload 4, 2) := by decide +kernel
theorem dX6_coverOf_7 : decode cX6_coverOf 7 = .ok (.iload_n 2, 1) := by decide +kernel
theorem dX6_coverOf_8 : decode cX6_coverOf 8 = .ok (.if_icmp .ge 13, 3) := by decide +kernel
theorem dX6_coverOf_11 : decode cX6_coverOf 11 = .ok (.iload_n 3, 1) := by decide +kernel
theorem dX6_coverOf_12 : decode cX6_coverOf 12 = .ok (.iconst 3, 1) := by decide +kernel
theorem dX6_coverOf_13 : decode cX6_coverOf 13 = .ok (.idiv, 1) := by decide +kernel
theorem dX6_coverOf_14 : decode cX6_coverOf 14 = .ok (.istore_n 3, 1) := by decide +kernel
theorem dX6_coverOf_15 : decode cX6_coverOf 15 = .ok (.iinc 4 1, 3) := by decide +kernel
theorem dX6_coverOf_18 : decode cX6_coverOf 18 = .ok (.goto (-13), 3) := by decide +kernel
theorem dX6_coverOf_21 : decode cX6_coverOf 21 = .ok (.iload_n 3, 1) := by decide +kernel
theorem dX6_coverOf_22 : decode cX6_coverOf 22 = .ok (.iconst 3, 1) := by decide +kernel
theorem dX6_coverOf_23 : decode cX6_coverOf 23 = .ok (.irem, 1) := by decide +kernel
theorem dX6_coverOf_24 : decode cX6_coverOf 24 = .ok (.ireturn, 1) := by decide +kernel
theorem dX6_placeOf_0 : decode cX6_placeOf 0 = .ok (.aload_n 0, 1) := by decide +kernel
theorem dX6_placeOf_1 : decode cX6_placeOf 1 = .ok (.getfield 7, 3) := by decide +kernel
theorem dX6_placeOf_4 : decode cX6_placeOf 4 = .ok (.bipush 13, 2) := by decide +kernel
theorem dX6_placeOf_6 : decode cX6_placeOf 6 = .ok (.iconst 2, 1) := by decide +kernel
theorem dX6_placeOf_7 : decode cX6_placeOf 7 = .ok (.iload_n 1, 1) := by decide +kernel
theorem dX6_placeOf_8 : decode cX6_placeOf 8 = .ok (.imul, 1) := by decide +kernel
theorem dX6_placeOf_9 : decode cX6_placeOf 9 = .ok (.iadd, 1) := by decide +kernel
theorem dX6_placeOf_10 : decode cX6_placeOf 10 = .ok (.iaload, 1) := by decide +kernel
theorem dX6_placeOf_11 : decode cX6_placeOf 11 = .ok (.ireturn, 1) := by decide +kernel
theorem dX6_sizeOf_0 : decode cX6_sizeOf 0 = .ok (.aload_n 0, 1) := by decide +kernel
theorem dX6_sizeOf_1 : decode cX6_sizeOf 1 = .ok (.getfield 7, 3) := by decide +kernel
theorem dX6_sizeOf_4 : decode cX6_sizeOf 4 = .ok (.bipush 13, 2) := by decide +kernel
theorem dX6_sizeOf_6 : decode cX6_sizeOf 6 = .ok (.iconst 2, 1) := by decide +kernel
theorem dX6_sizeOf_7 : decode cX6_sizeOf 7 = .ok (.iload_n 1, 1) := by decide +kernel
theorem dX6_sizeOf_8 : decode cX6_sizeOf 8 = .ok (.imul, 1) := by decide +kernel
theorem dX6_sizeOf_9 : decode cX6_sizeOf 9 = .ok (.iadd, 1) := by decide +kernel
theorem dX6_sizeOf_10 : decode cX6_sizeOf 10 = .ok (.iconst 1, 1) := by decide +kernel
theorem dX6_sizeOf_11 : decode cX6_sizeOf 11 = .ok (.iadd, 1) := by decide +kernel
theorem dX6_sizeOf_12 : decode cX6_sizeOf 12 = .ok (.iaload, 1) := by decide +kernel
theorem dX6_sizeOf_13 : decode cX6_sizeOf 13 = .ok (.ireturn, 1) := by decide +kernel
theorem dX6_whole_0 : decode cX6_whole 0 = .ok (.bipush 10, 2) := by decide +kernel
theorem dX6_whole_2 : decode cX6_whole 2 = .ok (.aload_n 0, 1) := by decide +kernel
theorem dX6_whole_3 : decode cX6_whole 3 = .ok (.getfield 7, 3) := by decide +kernel
theorem dX6_whole_6 : decode cX6_whole 6 = .ok (.iconst 0, 1) := by decide +kernel
theorem dX6_whole_7 : decode cX6_whole 7 = .ok (.iaload, 1) := by decide +kernel
theorem dX6_whole_8 : decode cX6_whole 8 = .ok (.imul, 1) := by decide +kernel
theorem dX6_whole_9 : decode cX6_whole 9 = .ok (.bipush 6, 2) := by decide +kernel
theorem dX6_whole_11 : decode cX6_whole 11 = .ok (.aload_n 0, 1) := by decide +kernel
theorem dX6_whole_12 : decode cX6_whole 12 = .ok (.getfield 7, 3) := by decide +kernel
theorem dX6_whole_15 : decode cX6_whole 15 = .ok (.iconst 1, 1) := by decide +kernel
theorem dX6_whole_16 : decode cX6_whole 16 = .ok (.iaload, 1) := by decide +kernel
theorem dX6_whole_17 : decode cX6_whole 17 = .ok (.imul, 1) := by decide +kernel
theorem dX6_whole_18 : decode cX6_whole 18 = .ok (.iadd, 1) := by decide +kernel
theorem dX6_whole_19 : decode cX6_whole 19 = .ok (.ireturn, 1) := by decide +kernel
theorem dX6_soundingOf_0 : decode cX6_soundingOf 0 = .ok (.aload_n 0, 1) := by decide +kernel
theorem dX6_soundingOf_1 : decode cX6_soundingOf 1 = .ok (.invokevirtual 87, 3) := by decide +kernel
theorem dX6_soundingOf_4 : decode cX6_soundingOf 4 = .ok (.istore_n 2, 1) := by decide +kernel
theorem dX6_soundingOf_5 : decode cX6_soundingOf 5 = .ok (.aload_n 0, 1) := by decide +kernel
theorem dX6_soundingOf_6 : decode cX6_soundingOf 6 = .ok (.getfield 7, 3) := by decide +kernel
theorem dX6_soundingOf_9 : decode cX6_soundingOf 9 = .ok (.iconst 3, 1) := by decide +kernel
theorem dX6_soundingOf_10 : decode cX6_soundingOf 10 = .ok (.iaload, 1) := by decide +kernel
theorem dX6_soundingOf_11 : decode cX6_soundingOf 11 = .ok (.iconst 1, 1) := by decide +kernel
theorem dX6_soundingOf_12 : decode cX6_soundingOf 12 = .ok (.isub, 1) := by decide +kernel
theorem dX6_soundingOf_13 : decode cX6_soundingOf 13 = .ok (.istore_n 3, 1) := by decide +kernel
theorem dX6_soundingOf_14 : decode cX6_soundingOf 14 = .ok (.iload_n 3, 1) := by decide +kernel
theorem dX6_soundingOf_15 : decode cX6_soundingOf 15 = .ok (.ifCond .lt 98, 3) := by decide +kernel
theorem dX6_soundingOf_18 : decode cX6_soundingOf 18 = .ok (.aload_n 0, 1) := by decide +kernel
theorem dX6_soundingOf_19 : decode cX6_soundingOf 19 = .ok (.iload_n 1, 1) := by decide +kernel
theorem dX6_soundingOf_20 : decode cX6_soundingOf 20 = .ok (.iload_n 3, 1) := by decide +kernel
theorem dX6_soundingOf_21 : decode cX6_soundingOf 21 = .ok (.invokevirtual 90, 3) := by decide +kernel
theorem dX6_soundingOf_24 : decode cX6_soundingOf 24 = .ok (.istore 4, 2) := by decide +kernel
theorem dX6_soundingOf_26 : decode cX6_soundingOf 26 = .ok (.iload 4, 2) := by decide +kernel
theorem dX6_soundingOf_28 : decode cX6_soundingOf 28 = .ok (.iconst 2, 1) := by decide +kernel
theorem dX6_soundingOf_29 : decode cX6_soundingOf 29 = .ok (.if_icmp .ne 6, 3) := by decide +kernel
theorem dX6_soundingOf_32 : decode cX6_soundingOf 32 = .ok (.goto 75, 3) := by decide +kernel
theorem dX6_soundingOf_35 : decode cX6_soundingOf 35 = .ok (.iload 4, 2) := by decide +kernel
theorem dX6_soundingOf_37 : decode cX6_soundingOf 37 = .ok (.ifCond .ne 11, 3) := by decide +kernel
theorem dX6_soundingOf_40 : decode cX6_soundingOf 40 = .ok (.aload_n 0, 1) := by decide +kernel
theorem dX6_soundingOf_41 : decode cX6_soundingOf 41 = .ok (.iload_n 3, 1) := by decide +kernel
theorem dX6_soundingOf_42 : decode cX6_soundingOf 42 = .ok (.invokevirtual 94, 3) := by decide +kernel
theorem dX6_soundingOf_45 : decode cX6_soundingOf 45 = .ok (.goto 12, 3) := by decide +kernel
theorem dX6_soundingOf_48 : decode cX6_soundingOf 48 = .ok (.aload_n 0, 1) := by decide +kernel
theorem dX6_soundingOf_49 : decode cX6_soundingOf 49 = .ok (.iload_n 3, 1) := by decide +kernel
theorem dX6_soundingOf_50 : decode cX6_soundingOf 50 = .ok (.invokevirtual 94, 3) := by decide +kernel
theorem dX6_soundingOf_53 : decode cX6_soundingOf 53 = .ok (.iconst 1, 1) := by decide +kernel
theorem dX6_soundingOf_54 : decode cX6_soundingOf 54 = .ok (.iadd, 1) := by decide +kernel
theorem dX6_soundingOf_55 : decode cX6_soundingOf 55 = .ok (.iconst 2, 1) := by decide +kernel
theorem dX6_soundingOf_56 : decode cX6_soundingOf 56 = .ok (.idiv, 1) := by decide +kernel
theorem dX6_soundingOf_57 : decode cX6_soundingOf 57 = .ok (.istore 5, 2) := by decide +kernel
theorem dX6_soundingOf_59 : decode cX6_soundingOf 59 = .ok (.bipush 10, 2) := by decide +kernel
theorem dX6_soundingOf_61 : decode cX6_soundingOf 61 = .ok (.aload_n 0, 1) := by decide +kernel
theorem dX6_soundingOf_62 : decode cX6_soundingOf 62 = .ok (.iload_n 3, 1) := by decide +kernel
theorem dX6_soundingOf_63 : decode cX6_soundingOf 63 = .ok (.invokevirtual 98, 3) := by decide +kernel
theorem dX6_soundingOf_66 : decode cX6_soundingOf 66 = .ok (.imul, 1) := by decide +kernel
theorem dX6_soundingOf_67 : decode cX6_soundingOf 67 = .ok (.iconst 5, 1) := by decide +kernel
theorem dX6_soundingOf_68 : decode cX6_soundingOf 68 = .ok (.aload_n 0, 1) := by decide +kernel
theorem dX6_soundingOf_69 : decode cX6_soundingOf 69 = .ok (.getfield 7, 3) := by decide +kernel
theorem dX6_soundingOf_72 : decode cX6_soundingOf 72 = .ok (.iconst 1, 1) := by decide +kernel
theorem dX6_soundingOf_73 : decode cX6_soundingOf 73 = .ok (.iaload, 1) := by decide +kernel
theorem dX6_soundingOf_74 : decode cX6_soundingOf 74 = .ok (.imul, 1) := by decide +kernel
theorem dX6_soundingOf_75 : decode cX6_soundingOf 75 = .ok (.aload_n 0, 1) := by decide +kernel
theorem dX6_soundingOf_76 : decode cX6_soundingOf 76 = .ok (.getfield 7, 3) := by decide +kernel
theorem dX6_soundingOf_79 : decode cX6_soundingOf 79 = .ok (.iconst 1, 1) := by decide +kernel
theorem dX6_soundingOf_80 : decode cX6_soundingOf 80 = .ok (.iaload, 1) := by decide +kernel
theorem dX6_soundingOf_81 : decode cX6_soundingOf 81 = .ok (.imul, 1) := by decide +kernel
theorem dX6_soundingOf_82 : decode cX6_soundingOf 82 = .ok (.iload 5, 2) := by decide +kernel
theorem dX6_soundingOf_84 : decode cX6_soundingOf 84 = .ok (.idiv, 1) := by decide +kernel
theorem dX6_soundingOf_85 : decode cX6_soundingOf 85 = .ok (.iadd, 1) := by decide +kernel
theorem dX6_soundingOf_86 : decode cX6_soundingOf 86 = .ok (.istore 6, 2) := by decide +kernel
theorem dX6_soundingOf_88 : decode cX6_soundingOf 88 = .ok (.iload 6, 2) := by decide +kernel
theorem dX6_soundingOf_90 : decode cX6_soundingOf 90 = .ok (.iload_n 2, 1) := by decide +kernel
theorem dX6_soundingOf_91 : decode cX6_soundingOf 91 = .ok (.if_icmp .ge 16, 3) := by decide +kernel
theorem dX6_soundingOf_94 : decode cX6_soundingOf 94 = .ok (.iload 6, 2) := by decide +kernel
theorem dX6_soundingOf_96 : decode cX6_soundingOf 96 = .ok (.iload_n 2, 1) := by decide +kernel
theorem dX6_soundingOf_97 : decode cX6_soundingOf 97 = .ok (.iload 6, 2) := by decide +kernel
theorem dX6_soundingOf_99 : decode cX6_soundingOf 99 = .ok (.isub, 1) := by decide +kernel
theorem dX6_soundingOf_100 : decode cX6_soundingOf 100 = .ok (.iconst 1, 1) := by decide +kernel
theorem dX6_soundingOf_101 : decode cX6_soundingOf 101 = .ok (.iload 5, 2) := by decide +kernel
theorem dX6_soundingOf_103 : decode cX6_soundingOf 103 = .ok (.iadd, 1) := by decide +kernel
theorem dX6_soundingOf_104 : decode cX6_soundingOf 104 = .ok (.idiv, 1) := by decide +kernel
theorem dX6_soundingOf_105 : decode cX6_soundingOf 105 = .ok (.iadd, 1) := by decide +kernel
theorem dX6_soundingOf_106 : decode cX6_soundingOf 106 = .ok (.istore_n 2, 1) := by decide +kernel
theorem dX6_soundingOf_107 : decode cX6_soundingOf 107 = .ok (.iinc 3 (-1), 3) := by decide +kernel
theorem dX6_soundingOf_110 : decode cX6_soundingOf 110 = .ok (.goto (-96), 3) := by decide +kernel
theorem dX6_soundingOf_113 : decode cX6_soundingOf 113 = .ok (.iload_n 2, 1) := by decide +kernel
theorem dX6_soundingOf_114 : decode cX6_soundingOf 114 = .ok (.ireturn, 1) := by decide +kernel
theorem dX6_laysSteps_0 : decode cX6_laysSteps 0 = .ok (.aload_n 0, 1) := by decide +kernel
theorem dX6_laysSteps_1 : decode cX6_laysSteps 1 = .ok (.getfield 26, 3) := by decide +kernel
theorem dX6_laysSteps_4 : decode cX6_laysSteps 4 = .ok (.iconst 0, 1) := by decide +kernel
theorem dX6_laysSteps_5 : decode cX6_laysSteps 5 = .ok (.ldc2_w 101, 3) := by decide +kernel
theorem dX6_laysSteps_8 : decode cX6_laysSteps 8 = .ok (.aload_n 0, 1) := by decide +kernel
theorem dX6_laysSteps_9 : decode cX6_laysSteps 9 = .ok (.invokevirtual 87, 3) := by decide +kernel
theorem dX6_laysSteps_12 : decode cX6_laysSteps 12 = .ok (.i2l, 1) := by decide +kernel
theorem dX6_laysSteps_13 : decode cX6_laysSteps 13 = .ok (.lmul, 1) := by decide +kernel
theorem dX6_laysSteps_14 : decode cX6_laysSteps 14 = .ok (.lastore, 1) := by decide +kernel
theorem dX6_laysSteps_15 : decode cX6_laysSteps 15 = .ok (.iconst 1, 1) := by decide +kernel
theorem dX6_laysSteps_16 : decode cX6_laysSteps 16 = .ok (.istore_n 1, 1) := by decide +kernel
theorem dX6_laysSteps_17 : decode cX6_laysSteps 17 = .ok (.iload_n 1, 1) := by decide +kernel
theorem dX6_laysSteps_18 : decode cX6_laysSteps 18 = .ok (.bipush 49, 2) := by decide +kernel
theorem dX6_laysSteps_20 : decode cX6_laysSteps 20 = .ok (.if_icmp .ge 31, 3) := by decide +kernel
theorem dX6_laysSteps_23 : decode cX6_laysSteps 23 = .ok (.aload_n 0, 1) := by decide +kernel
theorem dX6_laysSteps_24 : decode cX6_laysSteps 24 = .ok (.getfield 26, 3) := by decide +kernel
theorem dX6_laysSteps_27 : decode cX6_laysSteps 27 = .ok (.iload_n 1, 1) := by decide +kernel
theorem dX6_laysSteps_28 : decode cX6_laysSteps 28 = .ok (.aload_n 0, 1) := by decide +kernel
theorem dX6_laysSteps_29 : decode cX6_laysSteps 29 = .ok (.getfield 26, 3) := by decide +kernel
theorem dX6_laysSteps_32 : decode cX6_laysSteps 32 = .ok (.iload_n 1, 1) := by decide +kernel
theorem dX6_laysSteps_33 : decode cX6_laysSteps 33 = .ok (.iconst 1, 1) := by decide +kernel
theorem dX6_laysSteps_34 : decode cX6_laysSteps 34 = .ok (.isub, 1) := by decide +kernel
theorem dX6_laysSteps_35 : decode cX6_laysSteps 35 = .ok (.laload, 1) := by decide +kernel
theorem dX6_laysSteps_36 : decode cX6_laysSteps 36 = .ok (.ldc2_w 103, 3) := by decide +kernel
theorem dX6_laysSteps_39 : decode cX6_laysSteps 39 = .ok (.lmul, 1) := by decide +kernel
theorem dX6_laysSteps_40 : decode cX6_laysSteps 40 = .ok (.ldc2_w 105, 3) := by decide +kernel
theorem dX6_laysSteps_43 : decode cX6_laysSteps 43 = .ok (.ldiv, 1) := by decide +kernel
theorem dX6_laysSteps_44 : decode cX6_laysSteps 44 = .ok (.lastore, 1) := by decide +kernel
theorem dX6_laysSteps_45 : decode cX6_laysSteps 45 = .ok (.iinc 1 1, 3) := by decide +kernel
theorem dX6_laysSteps_48 : decode cX6_laysSteps 48 = .ok (.goto (-31), 3) := by decide +kernel
theorem dX6_laysSteps_51 : decode cX6_laysSteps 51 = .ok (.return_, 1) := by decide +kernel
theorem dX6_centsOf_0 : decode cX6_centsOf 0 = .ok (.ldc2_w 101, 3) := by decide +kernel
theorem dX6_centsOf_3 : decode cX6_centsOf 3 = .ok (.aload_n 0, 1) := by decide +kernel
theorem dX6_centsOf_4 : decode cX6_centsOf 4 = .ok (.iload_n 1, 1) := by decide +kernel
theorem dX6_centsOf_5 : decode cX6_centsOf 5 = .ok (.invokevirtual 107, 3) := by decide +kernel
theorem dX6_centsOf_8 : decode cX6_centsOf 8 = .ok (.i2l, 1) := by decide +kernel
theorem dX6_centsOf_9 : decode cX6_centsOf 9 = .ok (.lmul, 1) := by decide +kernel
theorem dX6_centsOf_10 : decode cX6_centsOf 10 = .ok (.lstore_n 2, 1) := by decide +kernel
theorem dX6_centsOf_11 : decode cX6_centsOf 11 = .ok (.iconst 0, 1) := by decide +kernel
theorem dX6_centsOf_12 : decode cX6_centsOf 12 = .ok (.istore 4, 2) := by decide +kernel
theorem dX6_centsOf_14 : decode cX6_centsOf 14 = .ok (.iload 4, 2) := by decide +kernel
theorem dX6_centsOf_16 : decode cX6_centsOf 16 = .ok (.bipush 47, 2) := by decide +kernel
theorem dX6_centsOf_18 : decode cX6_centsOf 18 = .ok (.if_icmp .ge 23, 3) := by decide +kernel
theorem dX6_centsOf_21 : decode cX6_centsOf 21 = .ok (.aload_n 0, 1) := by decide +kernel
theorem dX6_centsOf_22 : decode cX6_centsOf 22 = .ok (.getfield 26, 3) := by decide +kernel
theorem dX6_centsOf_25 : decode cX6_centsOf 25 = .ok (.iload 4, 2) := by decide +kernel
theorem dX6_centsOf_27 : decode cX6_centsOf 27 = .ok (.iconst 1, 1) := by decide +kernel
theorem dX6_centsOf_28 : decode cX6_centsOf 28 = .ok (.iadd, 1) := by decide +kernel
theorem dX6_centsOf_29 : decode cX6_centsOf 29 = .ok (.laload, 1) := by decide +kernel
theorem dX6_centsOf_30 : decode cX6_centsOf 30 = .ok (.lload_n 2, 1) := by decide +kernel
theorem dX6_centsOf_31 : decode cX6_centsOf 31 = .ok (.lcmp, 1) := by decide +kernel
theorem dX6_centsOf_32 : decode cX6_centsOf 32 = .ok (.ifCond .lt 9, 3) := by decide +kernel
theorem dX6_centsOf_35 : decode cX6_centsOf 35 = .ok (.iinc 4 1, 3) := by decide +kernel
theorem dX6_centsOf_38 : decode cX6_centsOf 38 = .ok (.goto (-24), 3) := by decide +kernel
theorem dX6_centsOf_41 : decode cX6_centsOf 41 = .ok (.ldc2_w 110, 3) := by decide +kernel
theorem dX6_centsOf_44 : decode cX6_centsOf 44 = .ok (.iload 4, 2) := by decide +kernel
theorem dX6_centsOf_46 : decode cX6_centsOf 46 = .ok (.i2l, 1) := by decide +kernel
theorem dX6_centsOf_47 : decode cX6_centsOf 47 = .ok (.lmul, 1) := by decide +kernel
theorem dX6_centsOf_48 : decode cX6_centsOf 48 = .ok (.ldc2_w 110, 3) := by decide +kernel
theorem dX6_centsOf_51 : decode cX6_centsOf 51 = .ok (.aload_n 0, 1) := by decide +kernel
theorem dX6_centsOf_52 : decode cX6_centsOf 52 = .ok (.getfield 26, 3) := by decide +kernel
theorem dX6_centsOf_55 : decode cX6_centsOf 55 = .ok (.iload 4, 2) := by decide +kernel
theorem dX6_centsOf_57 : decode cX6_centsOf 57 = .ok (.laload, 1) := by decide +kernel
theorem dX6_centsOf_58 : decode cX6_centsOf 58 = .ok (.lload_n 2, 1) := by decide +kernel
theorem dX6_centsOf_59 : decode cX6_centsOf 59 = .ok (.lsub, 1) := by decide +kernel
theorem dX6_centsOf_60 : decode cX6_centsOf 60 = .ok (.lmul, 1) := by decide +kernel
theorem dX6_centsOf_61 : decode cX6_centsOf 61 = .ok (.aload_n 0, 1) := by decide +kernel
theorem dX6_centsOf_62 : decode cX6_centsOf 62 = .ok (.getfield 26, 3) := by decide +kernel
theorem dX6_centsOf_65 : decode cX6_centsOf 65 = .ok (.iload 4, 2) := by decide +kernel
theorem dX6_centsOf_67 : decode cX6_centsOf 67 = .ok (.laload, 1) := by decide +kernel
theorem dX6_centsOf_68 : decode cX6_centsOf 68 = .ok (.aload_n 0, 1) := by decide +kernel
theorem dX6_centsOf_69 : decode cX6_centsOf 69 = .ok (.getfield 26, 3) := by decide +kernel
theorem dX6_centsOf_72 : decode cX6_centsOf 72 = .ok (.iload 4, 2) := by decide +kernel
theorem dX6_centsOf_74 : decode cX6_centsOf 74 = .ok (.iconst 1, 1) := by decide +kernel
theorem dX6_centsOf_75 : decode cX6_centsOf 75 = .ok (.iadd, 1) := by decide +kernel
theorem dX6_centsOf_76 : decode cX6_centsOf 76 = .ok (.laload, 1) := by decide +kernel
theorem dX6_centsOf_77 : decode cX6_centsOf 77 = .ok (.lsub, 1) := by decide +kernel
theorem dX6_centsOf_78 : decode cX6_centsOf 78 = .ok (.ldiv, 1) := by decide +kernel
theorem dX6_centsOf_79 : decode cX6_centsOf 79 = .ok (.ladd, 1) := by decide +kernel
theorem dX6_centsOf_80 : decode cX6_centsOf 80 = .ok (.lstore 5, 2) := by decide +kernel
theorem dX6_centsOf_82 : decode cX6_centsOf 82 = .ok (.ldc2_w 112, 3) := by decide +kernel
theorem dX6_centsOf_85 : decode cX6_centsOf 85 = .ok (.lload 5, 2) := by decide +kernel
theorem dX6_centsOf_87 : decode cX6_centsOf 87 = .ok (.invokestatic 114, 3) := by decide +kernel
theorem dX6_centsOf_90 : decode cX6_centsOf 90 = .ok (.l2i, 1) := by decide +kernel
theorem dX6_centsOf_91 : decode cX6_centsOf 91 = .ok (.aload_n 0, 1) := by decide +kernel
theorem dX6_centsOf_92 : decode cX6_centsOf 92 = .ok (.iload_n 1, 1) := by decide +kernel
theorem dX6_centsOf_93 : decode cX6_centsOf 93 = .ok (.invokevirtual 120, 3) := by decide +kernel
theorem dX6_centsOf_96 : decode cX6_centsOf 96 = .ok (.ifCond .eq 9, 3) := by decide +kernel
theorem dX6_centsOf_99 : decode cX6_centsOf 99 = .ok (.sipush 1200, 3) := by decide +kernel
theorem dX6_centsOf_102 : decode cX6_centsOf 102 = .ok (.goto 4, 3) := by decide +kernel
theorem dX6_centsOf_105 : decode cX6_centsOf 105 = .ok (.iconst 0, 1) := by decide +kernel
theorem dX6_centsOf_106 : decode cX6_centsOf 106 = .ok (.iadd, 1) := by decide +kernel
theorem dX6_centsOf_107 : decode cX6_centsOf 107 = .ok (.ireturn, 1) := by decide +kernel
theorem dX6_toneOf_0 : decode cX6_toneOf 0 = .ok (.iload_n 1, 1) := by decide +kernel
theorem dX6_toneOf_1 : decode cX6_toneOf 1 = .ok (.bipush 50, 2) := by decide +kernel
theorem dX6_toneOf_3 : decode cX6_toneOf 3 = .ok (.iadd, 1) := by decide +kernel
theorem dX6_toneOf_4 : decode cX6_toneOf 4 = .ok (.bipush 100, 2) := by decide +kernel
theorem dX6_toneOf_6 : decode cX6_toneOf 6 = .ok (.idiv, 1) := by decide +kernel
theorem dX6_toneOf_7 : decode cX6_toneOf 7 = .ok (.istore_n 2, 1) := by decide +kernel
theorem dX6_toneOf_8 : decode cX6_toneOf 8 = .ok (.iload_n 1, 1) := by decide +kernel
theorem dX6_toneOf_9 : decode cX6_toneOf 9 = .ok (.bipush 100, 2) := by decide +kernel
theorem dX6_toneOf_11 : decode cX6_toneOf 11 = .ok (.iload_n 2, 1) := by decide +kernel
theorem dX6_toneOf_12 : decode cX6_toneOf 12 = .ok (.imul, 1) := by decide +kernel
theorem dX6_toneOf_13 : decode cX6_toneOf 13 = .ok (.isub, 1) := by decide +kernel
theorem dX6_toneOf_14 : decode cX6_toneOf 14 = .ok (.istore_n 3, 1) := by decide +kernel
theorem dX6_toneOf_15 : decode cX6_toneOf 15 = .ok (.iload_n 2, 1) := by decide +kernel
theorem dX6_toneOf_16 : decode cX6_toneOf 16 = .ok (.bipush 25, 2) := by decide +kernel
theorem dX6_toneOf_18 : decode cX6_toneOf 18 = .ok (.if_icmp .ge 30, 3) := by decide +kernel
theorem dX6_toneOf_21 : decode cX6_toneOf 21 = .ok (.iload_n 3, 1) := by decide +kernel
theorem dX6_toneOf_22 : decode cX6_toneOf 22 = .ok (.i2l, 1) := by decide +kernel
theorem dX6_toneOf_23 : decode cX6_toneOf 23 = .ok (.aload_n 0, 1) := by decide +kernel
theorem dX6_toneOf_24 : decode cX6_toneOf 24 = .ok (.getfield 7, 3) := by decide +kernel
theorem dX6_toneOf_27 : decode cX6_toneOf 27 = .ok (.iconst 2, 1) := by decide +kernel
theorem dX6_toneOf_28 : decode cX6_toneOf 28 = .ok (.iaload, 1) := by decide +kernel
theorem dX6_toneOf_29 : decode cX6_toneOf 29 = .ok (.ineg, 1) := by decide +kernel
theorem dX6_toneOf_30 : decode cX6_toneOf 30 = .ok (.i2l, 1) := by decide +kernel
theorem dX6_toneOf_31 : decode cX6_toneOf 31 = .ok (.aload_n 0, 1) := by decide +kernel
theorem dX6_toneOf_32 : decode cX6_toneOf 32 = .ok (.getfield 7, 3) := by decide +kernel
theorem dX6_toneOf_35 : decode cX6_toneOf 35 = .ok (.iconst 2, 1) := by decide +kernel
theorem dX6_toneOf_36 : decode cX6_toneOf 36 = .ok (.iaload, 1) := by decide +kernel
theorem dX6_toneOf_37 : decode cX6_toneOf 37 = .ok (.i2l, 1) := by decide +kernel
theorem dX6_toneOf_38 : decode cX6_toneOf 38 = .ok (.invokestatic 83, 3) := by decide +kernel
theorem dX6_toneOf_41 : decode cX6_toneOf 41 = .ok (.ifCond .eq 7, 3) := by decide +kernel
theorem dX6_toneOf_44 : decode cX6_toneOf 44 = .ok (.iconst 1, 1) := by decide +kernel
theorem dX6_toneOf_45 : decode cX6_toneOf 45 = .ok (.goto 4, 3) := by decide +kernel
theorem dX6_toneOf_48 : decode cX6_toneOf 48 = .ok (.iconst 0, 1) := by decide +kernel
theorem dX6_toneOf_49 : decode cX6_toneOf 49 = .ok (.istore 4, 2) := by decide +kernel
theorem dX6_toneOf_51 : decode cX6_toneOf 51 = .ok (.iload 4, 2) := by decide +kernel
theorem dX6_toneOf_53 : decode cX6_toneOf 53 = .ok (.ifCond .eq 7, 3) := by decide +kernel
theorem dX6_toneOf_56 : decode cX6_toneOf 56 = .ok (.iload_n 2, 1) := by decide +kernel
theorem dX6_toneOf_57 : decode cX6_toneOf 57 = .ok (.goto 4, 3) := by decide +kernel
theorem dX6_toneOf_60 : decode cX6_toneOf 60 = .ok (.iconst (-1), 1) := by decide +kernel
theorem dX6_toneOf_61 : decode cX6_toneOf 61 = .ok (.ireturn, 1) := by decide +kernel
theorem dX6_manyHow_0 : decode cX6_manyHow 0 = .ok (.iconst 0, 1) := by decide +kernel
theorem dX6_manyHow_1 : decode cX6_manyHow 1 = .ok (.istore_n 3, 1) := by decide +kernel
theorem dX6_manyHow_2 : decode cX6_manyHow 2 = .ok (.iconst 0, 1) := by decide +kernel
theorem dX6_manyHow_3 : decode cX6_manyHow 3 = .ok (.istore 4, 2) := by decide +kernel
theorem dX6_manyHow_5 : decode cX6_manyHow 5 = .ok (.iload 4, 2) := by decide +kernel
theorem dX6_manyHow_7 : decode cX6_manyHow 7 = .ok (.aload_n 0, 1) := by decide +kernel
theorem dX6_manyHow_8 : decode cX6_manyHow 8 = .ok (.getfield 7, 3) := by decide +kernel
theorem dX6_manyHow_11 : decode cX6_manyHow 11 = .ok (.iconst 3, 1) := by decide +kernel
theorem dX6_manyHow_12 : decode cX6_manyHow 12 = .ok (.iaload, 1) := by decide +kernel
theorem dX6_manyHow_13 : decode cX6_manyHow 13 = .ok (.if_icmp .ge 28, 3) := by decide +kernel
theorem dX6_manyHow_16 : decode cX6_manyHow 16 = .ok (.iload_n 3, 1) := by decide +kernel
theorem dX6_manyHow_17 : decode cX6_manyHow 17 = .ok (.aload_n 0, 1) := by decide +kernel
theorem dX6_manyHow_18 : decode cX6_manyHow 18 = .ok (.iload_n 1, 1) := by decide +kernel
theorem dX6_manyHow_19 : decode cX6_manyHow 19 = .ok (.iload 4, 2) := by decide +kernel
theorem dX6_manyHow_21 : decode cX6_manyHow 21 = .ok (.invokevirtual 90, 3) := by decide +kernel
theorem dX6_manyHow_24 : decode cX6_manyHow 24 = .ok (.iload_n 2, 1) := by decide +kernel
theorem dX6_manyHow_25 : decode cX6_manyHow 25 = .ok (.if_icmp .ne 7, 3) := by decide +kernel
theorem dX6_manyHow_28 : decode cX6_manyHow 28 = .ok (.iconst 1, 1) := by decide +kernel
theorem dX6_manyHow_29 : decode cX6_manyHow 29 = .ok (.goto 4, 3) := by decide +kernel
theorem dX6_manyHow_32 : decode cX6_manyHow 32 = .ok (.iconst 0, 1) := by decide +kernel
theorem dX6_manyHow_33 : decode cX6_manyHow 33 = .ok (.iadd, 1) := by decide +kernel
theorem dX6_manyHow_34 : decode cX6_manyHow 34 = .ok (.istore_n 3, 1) := by decide +kernel
theorem dX6_manyHow_35 : decode cX6_manyHow 35 = .ok (.iinc 4 1, 3) := by decide +kernel
theorem dX6_manyHow_38 : decode cX6_manyHow 38 = .ok (.goto (-33), 3) := by decide +kernel
theorem dX6_manyHow_41 : decode cX6_manyHow 41 = .ok (.iload_n 3, 1) := by decide +kernel
theorem dX6_manyHow_42 : decode cX6_manyHow 42 = .ok (.ireturn, 1) := by decide +kernel
theorem dX6_crossesOf_0 : decode cX6_crossesOf 0 = .ok (.iconst 0, 1) := by decide +kernel
theorem dX6_crossesOf_1 : decode cX6_crossesOf 1 = .ok (.istore_n 2, 1) := by decide +kernel
theorem dX6_crossesOf_2 : decode cX6_crossesOf 2 = .ok (.iconst 0, 1) := by decide +kernel
theorem dX6_crossesOf_3 : decode cX6_crossesOf 3 = .ok (.istore_n 3, 1) := by decide +kernel
theorem dX6_crossesOf_4 : decode cX6_crossesOf 4 = .ok (.iconst 0, 1) := by decide +kernel
theorem dX6_crossesOf_5 : decode cX6_crossesOf 5 = .ok (.istore 4, 2) := by decide +kernel
theorem dX6_crossesOf_7 : decode cX6_crossesOf 7 = .ok (.iload 4, 2) := by decide +kernel
theorem dX6_crossesOf_9 : decode cX6_crossesOf 9 = .ok (.aload_n 0, 1) := by decide +kernel
theorem dX6_crossesOf_10 : decode cX6_crossesOf 10 = .ok (.getfield 7, 3) := by decide +kernel
theorem dX6_crossesOf_13 : decode cX6_crossesOf 13 = .ok (.iconst 3, 1) := by decide +kernel
theorem dX6_crossesOf_14 : decode cX6_crossesOf 14 = .ok (.iaload, 1) := by decide +kernel
theorem dX6_crossesOf_15 : decode cX6_crossesOf 15 = .ok (.if_icmp .ge 52, 3) := by decide +kernel
theorem dX6_crossesOf_18 : decode cX6_crossesOf 18 = .ok (.aload_n 0, 1) := by decide +kernel
theorem dX6_crossesOf_19 : decode cX6_crossesOf 19 = .ok (.iload_n 1, 1) := by decide +kernel
theorem dX6_crossesOf_20 : decode cX6_crossesOf 20 = .ok (.iload 4, 2) := by decide +kernel
theorem dX6_crossesOf_22 : decode cX6_crossesOf 22 = .ok (.invokevirtual 90, 3) := by decide +kernel
theorem dX6_crossesOf_25 : decode cX6_crossesOf 25 = .ok (.istore 5, 2) := by decide +kernel
theorem dX6_crossesOf_27 : decode cX6_crossesOf 27 = .ok (.iload_n 2, 1) := by decide +kernel
theorem dX6_crossesOf_28 : decode cX6_crossesOf 28 = .ok (.iload 5, 2) := by decide +kernel
theorem dX6_crossesOf_30 : decode cX6_crossesOf 30 = .ok (.iconst 2, 1) := by decide +kernel
theorem dX6_crossesOf_31 : decode cX6_crossesOf 31 = .ok (.if_icmp .ne 11, 3) := by decide +kernel
theorem dX6_crossesOf_34 : decode cX6_crossesOf 34 = .ok (.iload_n 3, 1) := by decide +kernel
theorem dX6_crossesOf_35 : decode cX6_crossesOf 35 = .ok (.ifCond .eq 7, 3) := by decide +kernel
theorem dX6_crossesOf_38 : decode cX6_crossesOf 38 = .ok (.iconst 1, 1) := by decide +kernel
theorem dX6_crossesOf_39 : decode cX6_crossesOf 39 = .ok (.goto 4, 3) := by decide +kernel
theorem dX6_crossesOf_42 : decode cX6_crossesOf 42 = .ok (.iconst 0, 1) := by decide +kernel
theorem dX6_crossesOf_43 : decode cX6_crossesOf 43 = .ok (.iadd, 1) := by decide +kernel
theorem dX6_crossesOf_44 : decode cX6_crossesOf 44 = .ok (.istore_n 2, 1) := by decide +kernel
theorem dX6_crossesOf_45 : decode cX6_crossesOf 45 = .ok (.iload_n 3, 1) := by decide +kernel
theorem dX6_crossesOf_46 : decode cX6_crossesOf 46 = .ok (.ifCond .ne 9, 3) := by decide +kernel
theorem dX6_crossesOf_49 : decode cX6_crossesOf 49 = .ok (.iload 5, 2) := by decide +kernel
theorem dX6_crossesOf_51 : decode cX6_crossesOf 51 = .ok (.iconst 2, 1) := by decide +kernel
theorem dX6_crossesOf_52 : decode cX6_crossesOf 52 = .ok (.if_icmp .eq 7, 3) := by decide +kernel
theorem dX6_crossesOf_55 : decode cX6_crossesOf 55 = .ok (.iconst 1, 1) := by decide +kernel
theorem dX6_crossesOf_56 : decode cX6_crossesOf 56 = .ok (.goto 4, 3) := by decide +kernel
theorem dX6_crossesOf_59 : decode cX6_crossesOf 59 = .ok (.iconst 0, 1) := by decide +kernel
theorem dX6_crossesOf_60 : decode cX6_crossesOf 60 = .ok (.istore_n 3, 1) := by decide +kernel
theorem dX6_crossesOf_61 : decode cX6_crossesOf 61 = .ok (.iinc 4 1, 3) := by decide +kernel
theorem dX6_crossesOf_64 : decode cX6_crossesOf 64 = .ok (.goto (-57), 3) := by decide +kernel
theorem dX6_crossesOf_67 : decode cX6_crossesOf 67 = .ok (.iload_n 2, 1) := by decide +kernel
theorem dX6_crossesOf_68 : decode cX6_crossesOf 68 = .ok (.ireturn, 1) := by decide +kernel
theorem dX6_laysPlays_0 : decode cX6_laysPlays 0 = .ok (.aload_n 0, 1) := by decide +kernel
theorem dX6_laysPlays_1 : decode cX6_laysPlays 1 = .ok (.invokevirtual 124, 3) := by decide +kernel
theorem dX6_laysPlays_4 : decode cX6_laysPlays 4 = .ok (.aload_n 0, 1) := by decide +kernel
theorem dX6_laysPlays_5 : decode cX6_laysPlays 5 = .ok (.invokevirtual 80, 3) := by decide +kernel
theorem dX6_laysPlays_8 : decode cX6_laysPlays 8 = .ok (.istore_n 1, 1) := by decide +kernel
theorem dX6_laysPlays_9 : decode cX6_laysPlays 9 = .ok (.iconst 0, 1) := by decide +kernel
theorem dX6_laysPlays_10 : decode cX6_laysPlays 10 = .ok (.istore_n 2, 1) := by decide +kernel
theorem dX6_laysPlays_11 : decode cX6_laysPlays 11 = .ok (.iload_n 2, 1) := by decide +kernel
theorem dX6_laysPlays_12 : decode cX6_laysPlays 12 = .ok (.iload_n 1, 1) := by decide +kernel
theorem dX6_laysPlays_13 : decode cX6_laysPlays 13 = .ok (.if_icmp .ge 47, 3) := by decide +kernel
theorem dX6_laysPlays_16 : decode cX6_laysPlays 16 = .ok (.aload_n 0, 1) := by decide +kernel
theorem dX6_laysPlays_17 : decode cX6_laysPlays 17 = .ok (.getfield 30, 3) := by decide +kernel
theorem dX6_laysPlays_20 : decode cX6_laysPlays 20 = .ok (.iload_n 2, 1) := by decide +kernel
theorem dX6_laysPlays_21 : decode cX6_laysPlays 21 = .ok (.aload_n 0, 1) := by decide +kernel
theorem dX6_laysPlays_22 : decode cX6_laysPlays 22 = .ok (.aload_n 0, 1) := by decide +kernel
theorem dX6_laysPlays_23 : decode cX6_laysPlays 23 = .ok (.iload_n 2, 1) := by decide +kernel
theorem dX6_laysPlays_24 : decode cX6_laysPlays 24 = .ok (.invokevirtual 127, 3) := by decide +kernel
theorem dX6_laysPlays_27 : decode cX6_laysPlays 27 = .ok (.invokevirtual 130, 3) := by decide +kernel
theorem dX6_laysPlays_30 : decode cX6_laysPlays 30 = .ok (.iastore, 1) := by decide +kernel
theorem dX6_laysPlays_31 : decode cX6_laysPlays 31 = .ok (.aload_n 0, 1) := by decide +kernel
theorem dX6_laysPlays_32 : decode cX6_laysPlays 32 = .ok (.getfield 33, 3) := by decide +kernel
theorem dX6_laysPlays_35 : decode cX6_laysPlays 35 = .ok (.iload_n 2, 1) := by decide +kernel
theorem dX6_laysPlays_36 : decode cX6_laysPlays 36 = .ok (.aload_n 0, 1) := by decide +kernel
theorem dX6_laysPlays_37 : decode cX6_laysPlays 37 = .ok (.iload_n 2, 1) := by decide +kernel
theorem dX6_laysPlays_38 : decode cX6_laysPlays 38 = .ok (.iconst 1, 1) := by decide +kernel
theorem dX6_laysPlays_39 : decode cX6_laysPlays 39 = .ok (.invokevirtual 133, 3) := by decide +kernel
theorem dX6_laysPlays_42 : decode cX6_laysPlays 42 = .ok (.iastore, 1) := by decide +kernel
theorem dX6_laysPlays_43 : decode cX6_laysPlays 43 = .ok (.aload_n 0, 1) := by decide +kernel
theorem dX6_laysPlays_44 : decode cX6_laysPlays 44 = .ok (.getfield 36, 3) := by decide +kernel
theorem dX6_laysPlays_47 : decode cX6_laysPlays 47 = .ok (.iload_n 2, 1) := by decide +kernel
theorem dX6_laysPlays_48 : decode cX6_laysPlays 48 = .ok (.aload_n 0, 1) := by decide +kernel
theorem dX6_laysPlays_49 : decode cX6_laysPlays 49 = .ok (.iload_n 2, 1) := by decide +kernel
theorem dX6_laysPlays_50 : decode cX6_laysPlays 50 = .ok (.invokevirtual 136, 3) := by decide +kernel
theorem dX6_laysPlays_53 : decode cX6_laysPlays 53 = .ok (.iastore, 1) := by decide +kernel
theorem dX6_laysPlays_54 : decode cX6_laysPlays 54 = .ok (.iinc 2 1, 3) := by decide +kernel
theorem dX6_laysPlays_57 : decode cX6_laysPlays 57 = .ok (.goto (-46), 3) := by decide +kernel
theorem dX6_laysPlays_60 : decode cX6_laysPlays 60 = .ok (.return_, 1) := by decide +kernel
theorem dX6_isGood_0 : decode cX6_isGood 0 = .ok (.aload_n 0, 1) := by decide +kernel
theorem dX6_isGood_1 : decode cX6_isGood 1 = .ok (.getfield 30, 3) := by decide +kernel
theorem dX6_isGood_4 : decode cX6_isGood 4 = .ok (.iload_n 1, 1) := by decide +kernel
theorem dX6_isGood_5 : decode cX6_isGood 5 = .ok (.iaload, 1) := by decide +kernel
theorem dX6_isGood_6 : decode cX6_isGood 6 = .ok (.iload_n 2, 1) := by decide +kernel
theorem dX6_isGood_7 : decode cX6_isGood 7 = .ok (.if_icmp .ne 28, 3) := by decide +kernel
theorem dX6_isGood_10 : decode cX6_isGood 10 = .ok (.aload_n 0, 1) := by decide +kernel
theorem dX6_isGood_11 : decode cX6_isGood 11 = .ok (.getfield 33, 3) := by decide +kernel
theorem dX6_isGood_14 : decode cX6_isGood 14 = .ok (.iload_n 1, 1) := by decide +kernel
theorem dX6_isGood_15 : decode cX6_isGood 15 = .ok (.iaload, 1) := by decide +kernel
theorem dX6_isGood_16 : decode cX6_isGood 16 = .ok (.iload_n 3, 1) := by decide +kernel
theorem dX6_isGood_17 : decode cX6_isGood 17 = .ok (.if_icmp .gt 18, 3) := by decide +kernel
theorem dX6_isGood_20 : decode cX6_isGood 20 = .ok (.aload_n 0, 1) := by decide +kernel
theorem dX6_isGood_21 : decode cX6_isGood 21 = .ok (.getfield 36, 3) := by decide +kernel
theorem dX6_isGood_24 : decode cX6_isGood 24 = .ok (.iload_n 1, 1) := by decide +kernel
theorem dX6_isGood_25 : decode cX6_isGood 25 = .ok (.iaload, 1) := by decide +kernel
theorem dX6_isGood_26 : decode cX6_isGood 26 = .ok (.iload 4, 2) := by decide +kernel
theorem dX6_isGood_28 : decode cX6_isGood 28 = .ok (.if_icmp .gt 7, 3) := by decide +kernel
theorem dX6_isGood_31 : decode cX6_isGood 31 = .ok (.iconst 1, 1) := by decide +kernel
theorem dX6_isGood_32 : decode cX6_isGood 32 = .ok (.goto 4, 3) := by decide +kernel
theorem dX6_isGood_35 : decode cX6_isGood 35 = .ok (.iconst 0, 1) := by decide +kernel
theorem dX6_isGood_36 : decode cX6_isGood 36 = .ok (.ireturn, 1) := by decide +kernel
theorem dX6_isEasyOf_0 : decode cX6_isEasyOf 0 = .ok (.aload_n 0, 1) := by decide +kernel
theorem dX6_isEasyOf_1 : decode cX6_isEasyOf 1 = .ok (.iload_n 1, 1) := by decide +kernel
theorem dX6_isEasyOf_2 : decode cX6_isEasyOf 2 = .ok (.iload_n 2, 1) := by decide +kernel
theorem dX6_isEasyOf_3 : decode cX6_isEasyOf 3 = .ok (.aload_n 0, 1) := by decide +kernel
theorem dX6_isEasyOf_4 : decode cX6_isEasyOf 4 = .ok (.getfield 7, 3) := by decide +kernel
theorem dX6_isEasyOf_7 : decode cX6_isEasyOf 7 = .ok (.iconst 4, 1) := by decide +kernel
theorem dX6_isEasyOf_8 : decode cX6_isEasyOf 8 = .ok (.iaload, 1) := by decide +kernel
theorem dX6_isEasyOf_9 : decode cX6_isEasyOf 9 = .ok (.aload_n 0, 1) := by decide +kernel
theorem dX6_isEasyOf_10 : decode cX6_isEasyOf 10 = .ok (.getfield 7, 3) := by decide +kernel
theorem dX6_isEasyOf_13 : decode cX6_isEasyOf 13 = .ok (.iconst 5, 1) := by decide +kernel
theorem dX6_isEasyOf_14 : decode cX6_isEasyOf 14 = .ok (.iaload, 1) := by decide +kernel
theorem dX6_isEasyOf_15 : decode cX6_isEasyOf 15 = .ok (.invokevirtual 139, 3) := by decide +kernel
theorem dX6_isEasyOf_18 : decode cX6_isEasyOf 18 = .ok (.ireturn, 1) := by decide +kernel
theorem dX6_costOf_0 : decode cX6_costOf 0 = .ok (.aload_n 0, 1) := by decide +kernel
theorem dX6_costOf_1 : decode cX6_costOf 1 = .ok (.iload_n 1, 1) := by decide +kernel
theorem dX6_costOf_2 : decode cX6_costOf 2 = .ok (.invokevirtual 120, 3) := by decide +kernel
theorem dX6_costOf_5 : decode cX6_costOf 5 = .ok (.aload_n 0, 1) := by decide +kernel
theorem dX6_costOf_6 : decode cX6_costOf 6 = .ok (.iload_n 2, 1) := by decide +kernel
theorem dX6_costOf_7 : decode cX6_costOf 7 = .ok (.invokevirtual 120, 3) := by decide +kernel
theorem dX6_costOf_10 : decode cX6_costOf 10 = .ok (.if_icmp .ne 7, 3) := by decide +kernel
theorem dX6_costOf_13 : decode cX6_costOf 13 = .ok (.iconst 0, 1) := by decide +kernel
theorem dX6_costOf_14 : decode cX6_costOf 14 = .ok (.goto 10, 3) := by decide +kernel
theorem dX6_costOf_17 : decode cX6_costOf 17 = .ok (.aload_n 0, 1) := by decide +kernel
theorem dX6_costOf_18 : decode cX6_costOf 18 = .ok (.getfield 7, 3) := by decide +kernel
theorem dX6_costOf_21 : decode cX6_costOf 21 = .ok (.bipush 8, 2) := by decide +kernel
theorem dX6_costOf_23 : decode cX6_costOf 23 = .ok (.iaload, 1) := by decide +kernel
theorem dX6_costOf_24 : decode cX6_costOf 24 = .ok (.istore_n 3, 1) := by decide +kernel
theorem dX6_costOf_25 : decode cX6_costOf 25 = .ok (.iconst 0, 1) := by decide +kernel
theorem dX6_costOf_26 : decode cX6_costOf 26 = .ok (.istore 4, 2) := by decide +kernel
theorem dX6_costOf_28 : decode cX6_costOf 28 = .ok (.iload 4, 2) := by decide +kernel
theorem dX6_costOf_30 : decode cX6_costOf 30 = .ok (.aload_n 0, 1) := by decide +kernel
theorem dX6_costOf_31 : decode cX6_costOf 31 = .ok (.getfield 7, 3) := by decide +kernel
theorem dX6_costOf_34 : decode cX6_costOf 34 = .ok (.iconst 3, 1) := by decide +kernel
theorem dX6_costOf_35 : decode cX6_costOf 35 = .ok (.iaload, 1) := by decide +kernel
theorem dX6_costOf_36 : decode cX6_costOf 36 = .ok (.if_icmp .ge 66, 3) := by decide +kernel
theorem dX6_costOf_39 : decode cX6_costOf 39 = .ok (.aload_n 0, 1) := by decide +kernel
theorem dX6_costOf_40 : decode cX6_costOf 40 = .ok (.iload_n 1, 1) := by decide +kernel
theorem dX6_costOf_41 : decode cX6_costOf 41 = .ok (.iload 4, 2) := by decide +kernel
theorem dX6_costOf_43 : decode cX6_costOf 43 = .ok (.invokevirtual 90, 3) := by decide +kernel
theorem dX6_costOf_46 : decode cX6_costOf 46 = .ok (.istore 5, 2) := by decide +kernel
theorem dX6_costOf_48 : decode cX6_costOf 48 = .ok (.aload_n 0, 1) := by decide +kernel
theorem dX6_costOf_49 : decode cX6_costOf 49 = .ok (.iload_n 2, 1) := by decide +kernel
theorem dX6_costOf_50 : decode cX6_costOf 50 = .ok (.iload 4, 2) := by decide +kernel
theorem dX6_costOf_52 : decode cX6_costOf 52 = .ok (.invokevirtual 90, 3) := by decide +kernel
theorem dX6_costOf_55 : decode cX6_costOf 55 = .ok (.istore 6, 2) := by decide +kernel
theorem dX6_costOf_57 : decode cX6_costOf 57 = .ok (.iload 5, 2) := by decide +kernel
theorem dX6_costOf_59 : decode cX6_costOf 59 = .ok (.iload 6, 2) := by decide +kernel
theorem dX6_costOf_61 : decode cX6_costOf 61 = .ok (.if_icmp .eq 35, 3) := by decide +kernel
theorem dX6_costOf_64 : decode cX6_costOf 64 = .ok (.iload_n 3, 1) := by decide +kernel
theorem dX6_costOf_65 : decode cX6_costOf 65 = .ok (.iload 5, 2) := by decide +kernel
theorem dX6_costOf_67 : decode cX6_costOf 67 = .ok (.iconst 1, 1) := by decide +kernel
theorem dX6_costOf_68 : decode cX6_costOf 68 = .ok (.if_icmp .eq 9, 3) := by decide +kernel
theorem dX6_costOf_71 : decode cX6_costOf 71 = .ok (.iload 6, 2) := by decide +kernel
theorem dX6_costOf_73 : decode cX6_costOf 73 = .ok (.iconst 1, 1) := by decide +kernel
theorem dX6_costOf_74 : decode cX6_costOf 74 = .ok (.if_icmp .ne 13, 3) := by decide +kernel
theorem dX6_costOf_77 : decode cX6_costOf 77 = .ok (.aload_n 0, 1) := by decide +kernel
theorem dX6_costOf_78 : decode cX6_costOf 78 = .ok (.getfield 7, 3) := by decide +kernel
theorem dX6_costOf_81 : decode cX6_costOf 81 = .ok (.bipush 7, 2) := by decide +kernel
theorem dX6_costOf_83 : decode cX6_costOf 83 = .ok (.iaload, 1) := by decide +kernel
theorem dX6_costOf_84 : decode cX6_costOf 84 = .ok (.goto 10, 3) := by decide +kernel
theorem dX6_costOf_87 : decode cX6_costOf 87 = .ok (.aload_n 0, 1) := by decide +kernel
theorem dX6_costOf_88 : decode cX6_costOf 88 = .ok (.getfield 7, 3) := by decide +kernel
theorem dX6_costOf_91 : decode cX6_costOf 91 = .ok (.bipush 6, 2) := by decide +kernel
theorem dX6_costOf_93 : decode cX6_costOf 93 = .ok (.iaload, 1) := by decide +kernel
theorem dX6_costOf_94 : decode cX6_costOf 94 = .ok (.iadd, 1) := by decide +kernel
theorem dX6_costOf_95 : decode cX6_costOf 95 = .ok (.istore_n 3, 1) := by decide +kernel
theorem dX6_costOf_96 : decode cX6_costOf 96 = .ok (.iinc 4 1, 3) := by decide +kernel
theorem dX6_costOf_99 : decode cX6_costOf 99 = .ok (.goto (-71), 3) := by decide +kernel
theorem dX6_costOf_102 : decode cX6_costOf 102 = .ok (.iload_n 3, 1) := by decide +kernel
theorem dX6_costOf_103 : decode cX6_costOf 103 = .ok (.ireturn, 1) := by decide +kernel
theorem dX6_fingersOf_0 : decode cX6_fingersOf 0 = .ok (.iconst 0, 1) := by decide +kernel
theorem dX6_fingersOf_1 : decode cX6_fingersOf 1 = .ok (.istore_n 3, 1) := by decide +kernel
theorem dX6_fingersOf_2 : decode cX6_fingersOf 2 = .ok (.iconst 0, 1) := by decide +kernel
theorem dX6_fingersOf_3 : decode cX6_fingersOf 3 = .ok (.istore 4, 2) := by decide +kernel
theorem dX6_fingersOf_5 : decode cX6_fingersOf 5 = .ok (.iload 4, 2) := by decide +kernel
theorem dX6_fingersOf_7 : decode cX6_fingersOf 7 = .ok (.aload_n 0, 1) := by decide +kernel
theorem dX6_fingersOf_8 : decode cX6_fingersOf 8 = .ok (.getfield 7, 3) := by decide +kernel
theorem dX6_fingersOf_11 : decode cX6_fingersOf 11 = .ok (.iconst 3, 1) := by decide +kernel
theorem dX6_fingersOf_12 : decode cX6_fingersOf 12 = .ok (.iaload, 1) := by decide +kernel
theorem dX6_fingersOf_13 : decode cX6_fingersOf 13 = .ok (.if_icmp .ge 34, 3) := by decide +kernel
theorem dX6_fingersOf_16 : decode cX6_fingersOf 16 = .ok (.iload_n 3, 1) := by decide +kernel
theorem dX6_fingersOf_17 : decode cX6_fingersOf 17 = .ok (.aload_n 0, 1) := by decide +kernel
theorem dX6_fingersOf_18 : decode cX6_fingersOf 18 = .ok (.iload_n 1, 1) := by decide +kernel
theorem dX6_fingersOf_19 : decode cX6_fingersOf 19 = .ok (.iload 4, 2) := by decide +kernel
theorem dX6_fingersOf_21 : decode cX6_fingersOf 21 = .ok (.invokevirtual 90, 3) := by decide +kernel
theorem dX6_fingersOf_24 : decode cX6_fingersOf 24 = .ok (.aload_n 0, 1) := by decide +kernel
theorem dX6_fingersOf_25 : decode cX6_fingersOf 25 = .ok (.iload_n 2, 1) := by decide +kernel
theorem dX6_fingersOf_26 : decode cX6_fingersOf 26 = .ok (.iload 4, 2) := by decide +kernel
theorem dX6_fingersOf_28 : decode cX6_fingersOf 28 = .ok (.invokevirtual 90, 3) := by decide +kernel
theorem dX6_fingersOf_31 : decode cX6_fingersOf 31 = .ok (.if_icmp .ne 7, 3) := by decide +kernel
theorem dX6_fingersOf_34 : decode cX6_fingersOf 34 = .ok (.iconst 0, 1) := by decide +kernel
theorem dX6_fingersOf_35 : decode cX6_fingersOf 35 = .ok (.goto 4, 3) := by decide +kernel
theorem dX6_fingersOf_38 : decode cX6_fingersOf 38 = .ok (.iconst 1, 1) := by decide +kernel
theorem dX6_fingersOf_39 : decode cX6_fingersOf 39 = .ok (.iadd, 1) := by decide +kernel
theorem dX6_fingersOf_40 : decode cX6_fingersOf 40 = .ok (.istore_n 3, 1) := by decide +kernel
theorem dX6_fingersOf_41 : decode cX6_fingersOf 41 = .ok (.iinc 4 1, 3) := by decide +kernel
theorem dX6_fingersOf_44 : decode cX6_fingersOf 44 = .ok (.goto (-39), 3) := by decide +kernel
theorem dX6_fingersOf_47 : decode cX6_fingersOf 47 = .ok (.iload_n 3, 1) := by decide +kernel
theorem dX6_fingersOf_48 : decode cX6_fingersOf 48 = .ok (.ireturn, 1) := by decide +kernel
theorem dX6_toneAt_0 : decode cX6_toneAt 0 = .ok (.aload_n 0, 1) := by decide +kernel
theorem dX6_toneAt_1 : decode cX6_toneAt 1 = .ok (.getfield 7, 3) := by decide +kernel
theorem dX6_toneAt_4 : decode cX6_toneAt 4 = .ok (.bipush 27, 2) := by decide +kernel
theorem dX6_toneAt_6 : decode cX6_toneAt 6 = .ok (.iload_n 1, 1) := by decide +kernel
theorem dX6_toneAt_7 : decode cX6_toneAt 7 = .ok (.iadd, 1) := by decide +kernel
theorem dX6_toneAt_8 : decode cX6_toneAt 8 = .ok (.iaload, 1) := by decide +kernel
theorem dX6_toneAt_9 : decode cX6_toneAt 9 = .ok (.ireturn, 1) := by decide +kernel
theorem dX6_isNoted_0 : decode cX6_isNoted 0 = .ok (.iload_n 1, 1) := by decide +kernel
theorem dX6_isNoted_1 : decode cX6_isNoted 1 = .ok (.aload_n 0, 1) := by decide +kernel
theorem dX6_isNoted_2 : decode cX6_isNoted 2 = .ok (.getfield 7, 3) := by decide +kernel
theorem dX6_isNoted_5 : decode cX6_isNoted 5 = .ok (.bipush 9, 2) := by decide +kernel
theorem dX6_isNoted_7 : decode cX6_isNoted 7 = .ok (.iaload, 1) := by decide +kernel
theorem dX6_isNoted_8 : decode cX6_isNoted 8 = .ok (.if_icmp .ge 16, 3) := by decide +kernel
theorem dX6_isNoted_11 : decode cX6_isNoted 11 = .ok (.aload_n 0, 1) := by decide +kernel
theorem dX6_isNoted_12 : decode cX6_isNoted 12 = .ok (.iload_n 1, 1) := by decide +kernel
theorem dX6_isNoted_13 : decode cX6_isNoted 13 = .ok (.invokevirtual 143, 3) := by decide +kernel
theorem dX6_isNoted_16 : decode cX6_isNoted 16 = .ok (.iconst (-1), 1) := by decide +kernel
theorem dX6_isNoted_17 : decode cX6_isNoted 17 = .ok (.if_icmp .eq 7, 3) := by decide +kernel
theorem dX6_isNoted_20 : decode cX6_isNoted 20 = .ok (.iconst 1, 1) := by decide +kernel
theorem dX6_isNoted_21 : decode cX6_isNoted 21 = .ok (.goto 4, 3) := by decide +kernel
theorem dX6_isNoted_24 : decode cX6_isNoted 24 = .ok (.iconst 0, 1) := by decide +kernel
theorem dX6_isNoted_25 : decode cX6_isNoted 25 = .ok (.ireturn, 1) := by decide +kernel
theorem dX6_least_0 : decode cX6_least 0 = .ok (.iload_n 0, 1) := by decide +kernel
theorem dX6_least_1 : decode cX6_least 1 = .ok (.iload_n 1, 1) := by decide +kernel
theorem dX6_least_2 : decode cX6_least 2 = .ok (.iload_n 2, 1) := by decide +kernel
theorem dX6_least_3 : decode cX6_least 3 = .ok (.invokestatic 146, 3) := by decide +kernel
theorem dX6_least_6 : decode cX6_least 6 = .ok (.invokestatic 146, 3) := by decide +kernel
theorem dX6_least_9 : decode cX6_least 9 = .ok (.ireturn, 1) := by decide +kernel
theorem dX6_spreads_0 : decode cX6_spreads 0 = .ok (.iconst 1, 1) := by decide +kernel
theorem dX6_spreads_1 : decode cX6_spreads 1 = .ok (.istore_n 2, 1) := by decide +kernel
theorem dX6_spreads_2 : decode cX6_spreads 2 = .ok (.iconst 0, 1) := by decide +kernel
theorem dX6_spreads_3 : decode cX6_spreads 3 = .ok (.istore_n 3, 1) := by decide +kernel
theorem dX6_spreads_4 : decode cX6_spreads 4 = .ok (.iload_n 3, 1) := by decide +kernel
theorem dX6_spreads_5 : decode cX6_spreads 5 = .ok (.aload_n 0, 1) := by decide +kernel
theorem dX6_spreads_6 : decode cX6_spreads 6 = .ok (.getfield 7, 3) := by decide +kernel
theorem dX6_spreads_9 : decode cX6_spreads 9 = .ok (.iconst 3, 1) := by decide +kernel
theorem dX6_spreads_10 : decode cX6_spreads 10 = .ok (.iaload, 1) := by decide +kernel
theorem dX6_spreads_11 : decode cX6_spreads 11 = .ok (.if_icmp .ge 175, 3) := by decide +kernel
theorem dX6_spreads_14 : decode cX6_spreads 14 = .ok (.iconst 0, 1) := by decide +kernel
theorem dX6_spreads_15 : decode cX6_spreads 15 = .ok (.istore 4, 2) := by decide +kernel
theorem dX6_spreads_17 : decode cX6_spreads 17 = .ok (.iload 4, 2) := by decide +kernel
theorem dX6_spreads_19 : decode cX6_spreads 19 = .ok (.iload_n 1, 1) := by decide +kernel
theorem dX6_spreads_20 : decode cX6_spreads 20 = .ok (.if_icmp .ge 156, 3) := by decide +kernel
theorem dX6_spreads_23 : decode cX6_spreads 23 = .ok (.iload 4, 2) := by decide +kernel
theorem dX6_spreads_25 : decode cX6_spreads 25 = .ok (.iload_n 2, 1) := by decide +kernel
theorem dX6_spreads_26 : decode cX6_spreads 26 = .ok (.idiv, 1) := by decide +kernel
theorem dX6_spreads_27 : decode cX6_spreads 27 = .ok (.iconst 3, 1) := by decide +kernel
theorem dX6_spreads_28 : decode cX6_spreads 28 = .ok (.irem, 1) := by decide +kernel
theorem dX6_spreads_29 : decode cX6_spreads 29 = .ok (.ifCond .eq 6, 3) := by decide +kernel
theorem dX6_spreads_32 : decode cX6_spreads 32 = .ok (.goto 138, 3) := by decide +kernel
theorem dX6_spreads_35 : decode cX6_spreads 35 = .ok (.aload_n 0, 1) := by decide +kernel
theorem dX6_spreads_36 : decode cX6_spreads 36 = .ok (.getfield 43, 3) := by decide +kernel
theorem dX6_spreads_39 : decode cX6_spreads 39 = .ok (.iload 4, 2) := by decide +kernel
theorem dX6_spreads_41 : decode cX6_spreads 41 = .ok (.iaload, 1) := by decide +kernel
theorem dX6_spreads_42 : decode cX6_spreads 42 = .ok (.istore 5, 2) := by decide +kernel
theorem dX6_spreads_44 : decode cX6_spreads 44 = .ok (.aload_n 0, 1) := by decide +kernel
theorem dX6_spreads_45 : decode cX6_spreads 45 = .ok (.getfield 43, 3) := by decide +kernel
theorem dX6_spreads_48 : decode cX6_spreads 48 = .ok (.iload 4, 2) := by decide +kernel
theorem dX6_spreads_50 : decode cX6_spreads 50 = .ok (.iload_n 2, 1) := by decide +kernel
theorem dX6_spreads_51 : decode cX6_spreads 51 = .ok (.iadd, 1) := by decide +kernel
theorem dX6_spreads_52 : decode cX6_spreads 52 = .ok (.iaload, 1) := by decide +kernel
theorem dX6_spreads_53 : decode cX6_spreads 53 = .ok (.istore 6, 2) := by decide +kernel
theorem dX6_spreads_55 : decode cX6_spreads 55 = .ok (.aload_n 0, 1) := by decide +kernel
theorem dX6_spreads_56 : decode cX6_spreads 56 = .ok (.getfield 43, 3) := by decide +kernel
theorem dX6_spreads_59 : decode cX6_spreads 59 = .ok (.iload 4, 2) := by decide +kernel
theorem dX6_spreads_61 : decode cX6_spreads 61 = .ok (.iconst 2, 1) := by decide +kernel
theorem dX6_spreads_62 : decode cX6_spreads 62 = .ok (.iload_n 2, 1) := by decide +kernel
theorem dX6_spreads_63 : decode cX6_spreads 63 = .ok (.imul, 1) := by decide +kernel
theorem dX6_spreads_64 : decode cX6_spreads 64 = .ok (.iadd, 1) := by decide +kernel
theorem dX6_spreads_65 : decode cX6_spreads 65 = .ok (.iaload, 1) := by decide +kernel
theorem dX6_spreads_66 : decode cX6_spreads 66 = .ok (.istore 7, 2) := by decide +kernel
theorem dX6_spreads_68 : decode cX6_spreads 68 = .ok (.aload_n 0, 1) := by decide +kernel
theorem dX6_spreads_69 : decode cX6_spreads 69 = .ok (.getfield 43, 3) := by decide +kernel
theorem dX6_spreads_72 : decode cX6_spreads 72 = .ok (.iload 4, 2) := by decide +kernel
theorem dX6_spreads_74 : decode cX6_spreads 74 = .ok (.iload 5, 2) := by decide +kernel
theorem dX6_spreads_76 : decode cX6_spreads 76 = .ok (.iload 6, 2) := by decide +kernel
theorem dX6_spreads_78 : decode cX6_spreads 78 = .ok (.aload_n 0, 1) := by decide +kernel
theorem dX6_spreads_79 : decode cX6_spreads 79 = .ok (.getfield 7, 3) := by decide +kernel
theorem dX6_spreads_82 : decode cX6_spreads 82 = .ok (.bipush 7, 2) := by decide +kernel
theorem dX6_spreads_84 : decode cX6_spreads 84 = .ok (.iaload, 1) := by decide +kernel
theorem dX6_spreads_85 : decode cX6_spreads 85 = .ok (.iadd, 1) := by decide +kernel
theorem dX6_spreads_86 : decode cX6_spreads 86 = .ok (.iload 7, 2) := by decide +kernel
theorem dX6_spreads_88 : decode cX6_spreads 88 = .ok (.aload_n 0, 1) := by decide +kernel
theorem dX6_spreads_89 : decode cX6_spreads 89 = .ok (.getfield 7, 3) := by decide +kernel
theorem dX6_spreads_92 : decode cX6_spreads 92 = .ok (.bipush 6, 2) := by decide +kernel
theorem dX6_spreads_94 : decode cX6_spreads 94 = .ok (.iaload, 1) := by decide +kernel
theorem dX6_spreads_95 : decode cX6_spreads 95 = .ok (.iadd, 1) := by decide +kernel
theorem dX6_spreads_96 : decode cX6_spreads 96 = .ok (.invokestatic 148, 3) := by decide +kernel
theorem dX6_spreads_99 : decode cX6_spreads 99 = .ok (.iastore, 1) := by decide +kernel
theorem dX6_spreads_100 : decode cX6_spreads 100 = .ok (.aload_n 0, 1) := by decide +kernel
theorem dX6_spreads_101 : decode cX6_spreads 101 = .ok (.getfield 43, 3) := by decide +kernel
theorem dX6_spreads_104 : decode cX6_spreads 104 = .ok (.iload 4, 2) := by decide +kernel
theorem dX6_spreads_106 : decode cX6_spreads 106 = .ok (.iload_n 2, 1) := by decide +kernel
theorem dX6_spreads_107 : decode cX6_spreads 107 = .ok (.iadd, 1) := by decide +kernel
theorem dX6_spreads_108 : decode cX6_spreads 108 = .ok (.iload 6, 2) := by decide +kernel
theorem dX6_spreads_110 : decode cX6_spreads 110 = .ok (.iload 5, 2) := by decide +kernel
theorem dX6_spreads_112 : decode cX6_spreads 112 = .ok (.aload_n 0, 1) := by decide +kernel
theorem dX6_spreads_113 : decode cX6_spreads 113 = .ok (.getfield 7, 3) := by decide +kernel
theorem dX6_spreads_116 : decode cX6_spreads 116 = .ok (.bipush 7, 2) := by decide +kernel
theorem dX6_spreads_118 : decode cX6_spreads 118 = .ok (.iaload, 1) := by decide +kernel
theorem dX6_spreads_119 : decode cX6_spreads 119 = .ok (.iadd, 1) := by decide +kernel
theorem dX6_spreads_120 : decode cX6_spreads 120 = .ok (.iload 7, 2) := by decide +kernel
theorem dX6_spreads_122 : decode cX6_spreads 122 = .ok (.aload_n 0, 1) := by decide +kernel
theorem dX6_spreads_123 : decode cX6_spreads 123 = .ok (.getfield 7, 3) := by decide +kernel
theorem dX6_spreads_126 : decode cX6_spreads 126 = .ok (.bipush 7, 2) := by decide +kernel
theorem dX6_spreads_128 : decode cX6_spreads 128 = .ok (.iaload, 1) := by decide +kernel
theorem dX6_spreads_129 : decode cX6_spreads 129 = .ok (.iadd, 1) := by decide +kernel
theorem dX6_spreads_130 : decode cX6_spreads 130 = .ok (.invokestatic 148, 3) := by decide +kernel
theorem dX6_spreads_133 : decode cX6_spreads 133 = .ok (.iastore, 1) := by decide +kernel
theorem dX6_spreads_134 : decode cX6_spreads 134 = .ok (.aload_n 0, 1) := by decide +kernel
theorem dX6_spreads_135 : decode cX6_spreads 135 = .ok (.getfield 43, 3) := by decide +kernel
theorem dX6_spreads_138 : decode cX6_spreads 138 = .ok (.iload 4, 2) := by decide +kernel
theorem dX6_spreads_140 : decode cX6_spreads 140 = .ok (.iconst 2, 1) := by decide +kernel
theorem dX6_spreads_141 : decode cX6_spreads 141 = .ok (.iload_n 2, 1) := by decide +kernel
theorem dX6_spreads_142 : decode cX6_spreads 142 = .ok (.imul, 1) := by decide +kernel
theorem dX6_spreads_143 : decode cX6_spreads 143 = .ok (.iadd, 1) := by decide +kernel
theorem dX6_spreads_144 : decode cX6_spreads 144 = .ok (.iload 7, 2) := by decide +kernel
theorem dX6_spreads_146 : decode cX6_spreads 146 = .ok (.iload 5, 2) := by decide +kernel
theorem dX6_spreads_148 : decode cX6_spreads 148 = .ok (.aload_n 0, 1) := by decide +kernel
theorem dX6_spreads_149 : decode cX6_spreads 149 = .ok (.getfield 7, 3) := by decide +kernel
theorem dX6_spreads_152 : decode cX6_spreads 152 = .ok (.bipush 6, 2) := by decide +kernel
theorem dX6_spreads_154 : decode cX6_spreads 154 = .ok (.iaload, 1) := by decide +kernel
theorem dX6_spreads_155 : decode cX6_spreads 155 = .ok (.iadd, 1) := by decide +kernel
theorem dX6_spreads_156 : decode cX6_spreads 156 = .ok (.iload 6, 2) := by decide +kernel
theorem dX6_spreads_158 : decode cX6_spreads 158 = .ok (.aload_n 0, 1) := by decide +kernel
theorem dX6_spreads_159 : decode cX6_spreads 159 = .ok (.getfield 7, 3) := by decide +kernel
theorem dX6_spreads_162 : decode cX6_spreads 162 = .ok (.bipush 7, 2) := by decide +kernel
theorem dX6_spreads_164 : decode cX6_spreads 164 = .ok (.iaload, 1) := by decide +kernel
theorem dX6_spreads_165 : decode cX6_spreads 165 = .ok (.iadd, 1) := by decide +kernel
theorem dX6_spreads_166 : decode cX6_spreads 166 = .ok (.invokestatic 148, 3) := by decide +kernel
theorem dX6_spreads_169 : decode cX6_spreads 169 = .ok (.iastore, 1) := by decide +kernel
theorem dX6_spreads_170 : decode cX6_spreads 170 = .ok (.iinc 4 1, 3) := by decide +kernel
theorem dX6_spreads_173 : decode cX6_spreads 173 = .ok (.goto (-156), 3) := by decide +kernel
theorem dX6_spreads_176 : decode cX6_spreads 176 = .ok (.iload_n 2, 1) := by decide +kernel
theorem dX6_spreads_177 : decode cX6_spreads 177 = .ok (.iconst 3, 1) := by decide +kernel
theorem dX6_spreads_178 : decode cX6_spreads 178 = .ok (.imul, 1) := by decide +kernel
theorem dX6_spreads_179 : decode cX6_spreads 179 = .ok (.istore_n 2, 1) := by decide +kernel
theorem dX6_spreads_180 : decode cX6_spreads 180 = .ok (.iinc 3 1, 3) := by decide +kernel
theorem dX6_spreads_183 : decode cX6_spreads 183 = .ok (.goto (-179), 3) := by decide +kernel
theorem dX6_spreads_186 : decode cX6_spreads 186 = .ok (.iconst 0, 1) := by decide +kernel
theorem dX6_spreads_187 : decode cX6_spreads 187 = .ok (.istore_n 3, 1) := by decide +kernel
theorem dX6_spreads_188 : decode cX6_spreads 188 = .ok (.iload_n 3, 1) := by decide +kernel
theorem dX6_spreads_189 : decode cX6_spreads 189 = .ok (.iload_n 2, 1) := by decide +kernel
theorem dX6_spreads_190 : decode cX6_spreads 190 = .ok (.if_icmp .ge 71, 3) := by decide +kernel
theorem dX6_spreads_193 : decode cX6_spreads 193 = .ok (.aload_n 0, 1) := by decide +kernel
theorem dX6_spreads_194 : decode cX6_spreads 194 = .ok (.getfield 43, 3) := by decide +kernel
theorem dX6_spreads_197 : decode cX6_spreads 197 = .ok (.iload_n 3, 1) := by decide +kernel
theorem dX6_spreads_198 : decode cX6_spreads 198 = .ok (.iaload, 1) := by decide +kernel
theorem dX6_spreads_199 : decode cX6_spreads 199 = .ok (.istore 4, 2) := by decide +kernel
theorem dX6_spreads_201 : decode cX6_spreads 201 = .ok (.aload_n 0, 1) := by decide +kernel
theorem dX6_spreads_202 : decode cX6_spreads 202 = .ok (.getfield 43, 3) := by decide +kernel
theorem dX6_spreads_205 : decode cX6_spreads 205 = .ok (.iload_n 3, 1) := by decide +kernel
theorem dX6_spreads_206 : decode cX6_spreads 206 = .ok (.iload_n 2, 1) := by decide +kernel
theorem dX6_spreads_207 : decode cX6_spreads 207 = .ok (.iadd, 1) := by decide +kernel
theorem dX6_spreads_208 : decode cX6_spreads 208 = .ok (.iaload, 1) := by decide +kernel
theorem dX6_spreads_209 : decode cX6_spreads 209 = .ok (.istore 5, 2) := by decide +kernel
theorem dX6_spreads_211 : decode cX6_spreads 211 = .ok (.aload_n 0, 1) := by decide +kernel
theorem dX6_spreads_212 : decode cX6_spreads 212 = .ok (.getfield 43, 3) := by decide +kernel
theorem dX6_spreads_215 : decode cX6_spreads 215 = .ok (.iload_n 3, 1) := by decide +kernel
theorem dX6_spreads_216 : decode cX6_spreads 216 = .ok (.iload 4, 2) := by decide +kernel
theorem dX6_spreads_218 : decode cX6_spreads 218 = .ok (.iload 5, 2) := by decide +kernel
theorem dX6_spreads_220 : decode cX6_spreads 220 = .ok (.aload_n 0, 1) := by decide +kernel
theorem dX6_spreads_221 : decode cX6_spreads 221 = .ok (.getfield 7, 3) := by decide +kernel
theorem dX6_spreads_224 : decode cX6_spreads 224 = .ok (.bipush 8, 2) := by decide +kernel
theorem dX6_spreads_226 : decode cX6_spreads 226 = .ok (.iaload, 1) := by decide +kernel
theorem dX6_spreads_227 : decode cX6_spreads 227 = .ok (.iadd, 1) := by decide +kernel
theorem dX6_spreads_228 : decode cX6_spreads 228 = .ok (.invokestatic 146, 3) := by decide +kernel
theorem dX6_spreads_231 : decode cX6_spreads 231 = .ok (.iastore, 1) := by decide +kernel
theorem dX6_spreads_232 : decode cX6_spreads 232 = .ok (.aload_n 0, 1) := by decide +kernel
theorem dX6_spreads_233 : decode cX6_spreads 233 = .ok (.getfield 43, 3) := by decide +kernel
theorem dX6_spreads_236 : decode cX6_spreads 236 = .ok (.iload_n 3, 1) := by decide +kernel
theorem dX6_spreads_237 : decode cX6_spreads 237 = .ok (.iload_n 2, 1) := by decide +kernel
theorem dX6_spreads_238 : decode cX6_spreads 238 = .ok (.iadd, 1) := by decide +kernel
theorem dX6_spreads_239 : decode cX6_spreads 239 = .ok (.iload 5, 2) := by decide +kernel
theorem dX6_spreads_241 : decode cX6_spreads 241 = .ok (.iload 4, 2) := by decide +kernel
theorem dX6_spreads_243 : decode cX6_spreads 243 = .ok (.aload_n 0, 1) := by decide +kernel
theorem dX6_spreads_244 : decode cX6_spreads 244 = .ok (.getfield 7, 3) := by decide +kernel
theorem dX6_spreads_247 : decode cX6_spreads 247 = .ok (.bipush 8, 2) := by decide +kernel
theorem dX6_spreads_249 : decode cX6_spreads 249 = .ok (.iaload, 1) := by decide +kernel
theorem dX6_spreads_250 : decode cX6_spreads 250 = .ok (.iadd, 1) := by decide +kernel
theorem dX6_spreads_251 : decode cX6_spreads 251 = .ok (.invokestatic 146, 3) := by decide +kernel
theorem dX6_spreads_254 : decode cX6_spreads 254 = .ok (.iastore, 1) := by decide +kernel
theorem dX6_spreads_255 : decode cX6_spreads 255 = .ok (.iinc 3 1, 3) := by decide +kernel
theorem dX6_spreads_258 : decode cX6_spreads 258 = .ok (.goto (-70), 3) := by decide +kernel
theorem dX6_spreads_261 : decode cX6_spreads 261 = .ok (.return_, 1) := by decide +kernel
theorem dX6_reckons_0 : decode cX6_reckons 0 = .ok (.aload_n 0, 1) := by decide +kernel
theorem dX6_reckons_1 : decode cX6_reckons 1 = .ok (.invokevirtual 80, 3) := by decide +kernel
theorem dX6_reckons_4 : decode cX6_reckons 4 = .ok (.istore 5, 2) := by decide +kernel
theorem dX6_reckons_6 : decode cX6_reckons 6 = .ok (.iconst 1, 1) := by decide +kernel
theorem dX6_reckons_7 : decode cX6_reckons 7 = .ok (.istore 6, 2) := by decide +kernel
theorem dX6_reckons_9 : decode cX6_reckons 9 = .ok (.aload_n 0, 1) := by decide +kernel
theorem dX6_reckons_10 : decode cX6_reckons 10 = .ok (.getfield 7, 3) := by decide +kernel
theorem dX6_reckons_13 : decode cX6_reckons 13 = .ok (.bipush 9, 2) := by decide +kernel
theorem dX6_reckons_15 : decode cX6_reckons 15 = .ok (.iaload, 1) := by decide +kernel
theorem dX6_reckons_16 : decode cX6_reckons 16 = .ok (.iconst 1, 1) := by decide +kernel
theorem dX6_reckons_17 : decode cX6_reckons 17 = .ok (.isub, 1) := by decide +kernel
theorem dX6_reckons_18 : decode cX6_reckons 18 = .ok (.istore 7, 2) := by decide +kernel
theorem dX6_reckons_20 : decode cX6_reckons 20 = .ok (.iload 7, 2) := by decide +kernel
theorem dX6_reckons_22 : decode cX6_reckons 22 = .ok (.iload_n 1, 1) := by decide +kernel
theorem dX6_reckons_23 : decode cX6_reckons 23 = .ok (.if_icmp .lt 181, 3) := by decide +kernel
theorem dX6_reckons_26 : decode cX6_reckons 26 = .ok (.iload 6, 2) := by decide +kernel
theorem dX6_reckons_28 : decode cX6_reckons 28 = .ok (.ifCond .eq 176, 3) := by decide +kernel
theorem dX6_reckons_31 : decode cX6_reckons 31 = .ok (.aload_n 0, 1) := by decide +kernel
theorem dX6_reckons_32 : decode cX6_reckons 32 = .ok (.iload 7, 2) := by decide +kernel
theorem dX6_reckons_34 : decode cX6_reckons 34 = .ok (.invokevirtual 152, 3) := by decide +kernel
theorem dX6_reckons_37 : decode cX6_reckons 37 = .ok (.ifCond .ne 6, 3) := by decide +kernel
theorem dX6_reckons_40 : decode cX6_reckons 40 = .ok (.goto 158, 3) := by decide +kernel
theorem dX6_reckons_43 : decode cX6_reckons 43 = .ok (.aload_n 0, 1) := by decide +kernel
theorem dX6_reckons_44 : decode cX6_reckons 44 = .ok (.iload 7, 2) := by decide +kernel
theorem dX6_reckons_46 : decode cX6_reckons 46 = .ok (.iconst 1, 1) := by decide +kernel
theorem dX6_reckons_47 : decode cX6_reckons 47 = .ok (.iadd, 1) := by decide +kernel
theorem dX6_reckons_48 : decode cX6_reckons 48 = .ok (.invokevirtual 152, 3) := by decide +kernel
theorem dX6_reckons_51 : decode cX6_reckons 51 = .ok (.istore 8, 2) := by decide +kernel
theorem dX6_reckons_53 : decode cX6_reckons 53 = .ok (.iconst 0, 1) := by decide +kernel
theorem dX6_reckons_54 : decode cX6_reckons 54 = .ok (.istore 9, 2) := by decide +kernel
theorem dX6_reckons_56 : decode cX6_reckons 56 = .ok (.iload 9, 2) := by decide +kernel
theorem dX6_reckons_58 : decode cX6_reckons 58 = .ok (.iload 5, 2) := by decide +kernel
theorem dX6_reckons_60 : decode cX6_reckons 60 = .ok (.if_icmp .ge 41, 3) := by decide +kernel
theorem dX6_reckons_63 : decode cX6_reckons 63 = .ok (.aload_n 0, 1) := by decide +kernel
theorem dX6_reckons_64 : decode cX6_reckons 64 = .ok (.getfield 43, 3) := by decide +kernel
theorem dX6_reckons_67 : decode cX6_reckons 67 = .ok (.iload 9, 2) := by decide +kernel
theorem dX6_reckons_69 : decode cX6_reckons 69 = .ok (.iload 8, 2) := by decide +kernel
theorem dX6_reckons_71 : decode cX6_reckons 71 = .ok (.ifCond .eq 22, 3) := by decide +kernel
theorem dX6_reckons_74 : decode cX6_reckons 74 = .ok (.aload_n 0, 1) := by decide +kernel
theorem dX6_reckons_75 : decode cX6_reckons 75 = .ok (.getfield 40, 3) := by decide +kernel
theorem dX6_reckons_78 : decode cX6_reckons 78 = .ok (.sipush 4374, 3) := by decide +kernel
theorem dX6_reckons_81 : decode cX6_reckons 81 = .ok (.iload 7, 2) := by decide +kernel
theorem dX6_reckons_83 : decode cX6_reckons 83 = .ok (.iconst 1, 1) := by decide +kernel
theorem dX6_reckons_84 : decode cX6_reckons 84 = .ok (.iadd, 1) := by decide +kernel
theorem dX6_reckons_85 : decode cX6_reckons 85 = .ok (.imul, 1) := by decide +kernel
theorem dX6_reckons_86 : decode cX6_reckons 86 = .ok (.iload 9, 2) := by decide +kernel
theorem dX6_reckons_88 : decode cX6_reckons 88 = .ok (.iadd, 1) := by decide +kernel
theorem dX6_reckons_89 : decode cX6_reckons 89 = .ok (.iaload, 1) := by decide +kernel
theorem dX6_reckons_90 : decode cX6_reckons 90 = .ok (.goto 4, 3) := by decide +kernel
theorem dX6_reckons_93 : decode cX6_reckons 93 = .ok (.iconst 0, 1) := by decide +kernel
theorem dX6_reckons_94 : decode cX6_reckons 94 = .ok (.iastore, 1) := by decide +kernel
theorem dX6_reckons_95 : decode cX6_reckons 95 = .ok (.iinc 9 1, 3) := by decide +kernel
theorem dX6_reckons_98 : decode cX6_reckons 98 = .ok (.goto (-42), 3) := by decide +kernel
theorem dX6_reckons_101 : decode cX6_reckons 101 = .ok (.iload 8, 2) := by decide +kernel
theorem dX6_reckons_103 : decode cX6_reckons 103 = .ok (.ifCond .eq 9, 3) := by decide +kernel
theorem dX6_reckons_106 : decode cX6_reckons 106 = .ok (.aload_n 0, 1) := by decide +kernel
theorem dX6_reckons_107 : decode cX6_reckons 107 = .ok (.iload 5, 2) := by decide +kernel
theorem dX6_reckons_109 : decode cX6_reckons 109 = .ok (.invokevirtual 155, 3) := by decide +kernel
theorem dX6_reckons_112 : decode cX6_reckons 112 = .ok (.iconst 0, 1) := by decide +kernel
theorem dX6_reckons_113 : decode cX6_reckons 113 = .ok (.istore 6, 2) := by decide +kernel
theorem dX6_reckons_115 : decode cX6_reckons 115 = .ok (.iconst 0, 1) := by decide +kernel
theorem dX6_reckons_116 : decode cX6_reckons 116 = .ok (.istore 9, 2) := by decide +kernel
theorem dX6_reckons_118 : decode cX6_reckons 118 = .ok (.iload 9, 2) := by decide +kernel
theorem dX6_reckons_120 : decode cX6_reckons 120 = .ok (.iload 5, 2) := by decide +kernel
theorem dX6_reckons_122 : decode cX6_reckons 122 = .ok (.if_icmp .ge 76, 3) := by decide +kernel
theorem dX6_reckons_125 : decode cX6_reckons 125 = .ok (.aload_n 0, 1) := by decide +kernel
theorem dX6_reckons_126 : decode cX6_reckons 126 = .ok (.iload 9, 2) := by decide +kernel
theorem dX6_reckons_128 : decode cX6_reckons 128 = .ok (.aload_n 0, 1) := by decide +kernel
theorem dX6_reckons_129 : decode cX6_reckons 129 = .ok (.iload 7, 2) := by decide +kernel
theorem dX6_reckons_131 : decode cX6_reckons 131 = .ok (.invokevirtual 143, 3) := by decide +kernel
theorem dX6_reckons_134 : decode cX6_reckons 134 = .ok (.iload_n 2, 1) := by decide +kernel
theorem dX6_reckons_135 : decode cX6_reckons 135 = .ok (.iadd, 1) := by decide +kernel
theorem dX6_reckons_136 : decode cX6_reckons 136 = .ok (.iload_n 3, 1) := by decide +kernel
theorem dX6_reckons_137 : decode cX6_reckons 137 = .ok (.iload 4, 2) := by decide +kernel
theorem dX6_reckons_139 : decode cX6_reckons 139 = .ok (.invokevirtual 139, 3) := by decide +kernel
theorem dX6_reckons_142 : decode cX6_reckons 142 = .ok (.istore 10, 2) := by decide +kernel
theorem dX6_reckons_144 : decode cX6_reckons 144 = .ok (.aload_n 0, 1) := by decide +kernel
theorem dX6_reckons_145 : decode cX6_reckons 145 = .ok (.getfield 40, 3) := by decide +kernel
theorem dX6_reckons_148 : decode cX6_reckons 148 = .ok (.sipush 4374, 3) := by decide +kernel
theorem dX6_reckons_151 : decode cX6_reckons 151 = .ok (.iload 7, 2) := by decide +kernel
theorem dX6_reckons_153 : decode cX6_reckons 153 = .ok (.imul, 1) := by decide +kernel
theorem dX6_reckons_154 : decode cX6_reckons 154 = .ok (.iload 9, 2) := by decide +kernel
theorem dX6_reckons_156 : decode cX6_reckons 156 = .ok (.iadd, 1) := by decide +kernel
theorem dX6_reckons_157 : decode cX6_reckons 157 = .ok (.iload 10, 2) := by decide +kernel
theorem dX6_reckons_159 : decode cX6_reckons 159 = .ok (.ifCond .eq 13, 3) := by decide +kernel
theorem dX6_reckons_162 : decode cX6_reckons 162 = .ok (.aload_n 0, 1) := by decide +kernel
theorem dX6_reckons_163 : decode cX6_reckons 163 = .ok (.getfield 43, 3) := by decide +kernel
theorem dX6_reckons_166 : decode cX6_reckons 166 = .ok (.iload 9, 2) := by decide +kernel
theorem dX6_reckons_168 : decode cX6_reckons 168 = .ok (.iaload, 1) := by decide +kernel
theorem dX6_reckons_169 : decode cX6_reckons 169 = .ok (.goto 5, 3) := by decide +kernel
theorem dX6_reckons_172 : decode cX6_reckons 172 = .ok (.ldc 159, 2) := by decide +kernel
theorem dX6_reckons_174 : decode cX6_reckons 174 = .ok (.iastore, 1) := by decide +kernel
theorem dX6_reckons_175 : decode cX6_reckons 175 = .ok (.iload 6, 2) := by decide +kernel
theorem dX6_reckons_177 : decode cX6_reckons 177 = .ok (.ifCond .ne 8, 3) := by decide +kernel
theorem dX6_reckons_180 : decode cX6_reckons 180 = .ok (.iload 10, 2) := by decide +kernel
theorem dX6_reckons_182 : decode cX6_reckons 182 = .ok (.ifCond .eq 7, 3) := by decide +kernel
theorem dX6_reckons_185 : decode cX6_reckons 185 = .ok (.iconst 1, 1) := by decide +kernel
theorem dX6_reckons_186 : decode cX6_reckons 186 = .ok (.goto 4, 3) := by decide +kernel
theorem dX6_reckons_189 : decode cX6_reckons 189 = .ok (.iconst 0, 1) := by decide +kernel
theorem dX6_reckons_190 : decode cX6_reckons 190 = .ok (.istore 6, 2) := by decide +kernel
theorem dX6_reckons_192 : decode cX6_reckons 192 = .ok (.iinc 9 1, 3) := by decide +kernel
theorem dX6_reckons_195 : decode cX6_reckons 195 = .ok (.goto (-77), 3) := by decide +kernel
theorem dX6_reckons_198 : decode cX6_reckons 198 = .ok (.iinc 7 (-1), 3) := by decide +kernel
theorem dX6_reckons_201 : decode cX6_reckons 201 = .ok (.goto (-181), 3) := by decide +kernel
theorem dX6_reckons_204 : decode cX6_reckons 204 = .ok (.iload 6, 2) := by decide +kernel
theorem dX6_reckons_206 : decode cX6_reckons 206 = .ok (.ireturn, 1) := by decide +kernel
theorem dX6_firstOf_0 : decode cX6_firstOf 0 = .ok (.aload_n 0, 1) := by decide +kernel
theorem dX6_firstOf_1 : decode cX6_firstOf 1 = .ok (.invokevirtual 80, 3) := by decide +kernel
theorem dX6_firstOf_4 : decode cX6_firstOf 4 = .ok (.istore_n 3, 1) := by decide +kernel
theorem dX6_firstOf_5 : decode cX6_firstOf 5 = .ok (.iconst (-1), 1) := by decide +kernel
theorem dX6_firstOf_6 : decode cX6_firstOf 6 = .ok (.istore 4, 2) := by decide +kernel
theorem dX6_firstOf_8 : decode cX6_firstOf 8 = .ok (.iconst 0, 1) := by decide +kernel
theorem dX6_firstOf_9 : decode cX6_firstOf 9 = .ok (.istore 5, 2) := by decide +kernel
theorem dX6_firstOf_11 : decode cX6_firstOf 11 = .ok (.iconst 0, 1) := by decide +kernel
theorem dX6_firstOf_12 : decode cX6_firstOf 12 = .ok (.istore 6, 2) := by decide +kernel
theorem dX6_firstOf_14 : decode cX6_firstOf 14 = .ok (.iload 6, 2) := by decide +kernel
theorem dX6_firstOf_16 : decode cX6_firstOf 16 = .ok (.iload_n 3, 1) := by decide +kernel
theorem dX6_firstOf_17 : decode cX6_firstOf 17 = .ok (.if_icmp .ge 76, 3) := by decide +kernel
theorem dX6_firstOf_20 : decode cX6_firstOf 20 = .ok (.aload_n 0, 1) := by decide +kernel
theorem dX6_firstOf_21 : decode cX6_firstOf 21 = .ok (.getfield 40, 3) := by decide +kernel
theorem dX6_firstOf_24 : decode cX6_firstOf 24 = .ok (.sipush 4374, 3) := by decide +kernel
theorem dX6_firstOf_27 : decode cX6_firstOf 27 = .ok (.iload_n 1, 1) := by decide +kernel
theorem dX6_firstOf_28 : decode cX6_firstOf 28 = .ok (.imul, 1) := by decide +kernel
theorem dX6_firstOf_29 : decode cX6_firstOf 29 = .ok (.iload 6, 2) := by decide +kernel
theorem dX6_firstOf_31 : decode cX6_firstOf 31 = .ok (.iadd, 1) := by decide +kernel
theorem dX6_firstOf_32 : decode cX6_firstOf 32 = .ok (.iaload, 1) := by decide +kernel
theorem dX6_firstOf_33 : decode cX6_firstOf 33 = .ok (.istore 7, 2) := by decide +kernel
theorem dX6_firstOf_35 : decode cX6_firstOf 35 = .ok (.iload 7, 2) := by decide +kernel
theorem dX6_firstOf_37 : decode cX6_firstOf 37 = .ok (.ldc 159, 2) := by decide +kernel
theorem dX6_firstOf_39 : decode cX6_firstOf 39 = .ok (.if_icmp .lt 6, 3) := by decide +kernel
theorem dX6_firstOf_42 : decode cX6_firstOf 42 = .ok (.goto 45, 3) := by decide +kernel
theorem dX6_firstOf_45 : decode cX6_firstOf 45 = .ok (.iload 7, 2) := by decide +kernel
theorem dX6_firstOf_47 : decode cX6_firstOf 47 = .ok (.iload_n 2, 1) := by decide +kernel
theorem dX6_firstOf_48 : decode cX6_firstOf 48 = .ok (.iconst (-1), 1) := by decide +kernel
theorem dX6_firstOf_49 : decode cX6_firstOf 49 = .ok (.if_icmp .ne 7, 3) := by decide +kernel
theorem dX6_firstOf_52 : decode cX6_firstOf 52 = .ok (.iconst 0, 1) := by decide +kernel
theorem dX6_firstOf_53 : decode cX6_firstOf 53 = .ok (.goto 10, 3) := by decide +kernel
theorem dX6_firstOf_56 : decode cX6_firstOf 56 = .ok (.aload_n 0, 1) := by decide +kernel
theorem dX6_firstOf_57 : decode cX6_firstOf 57 = .ok (.iload_n 2, 1) := by decide +kernel
theorem dX6_firstOf_58 : decode cX6_firstOf 58 = .ok (.iload 6, 2) := by decide +kernel
theorem dX6_firstOf_60 : decode cX6_firstOf 60 = .ok (.invokevirtual 160, 3) := by decide +kernel
theorem dX6_firstOf_63 : decode cX6_firstOf 63 = .ok (.iadd, 1) := by decide +kernel
theorem dX6_firstOf_64 : decode cX6_firstOf 64 = .ok (.istore 8, 2) := by decide +kernel
theorem dX6_firstOf_66 : decode cX6_firstOf 66 = .ok (.iload 4, 2) := by decide +kernel
theorem dX6_firstOf_68 : decode cX6_firstOf 68 = .ok (.iconst (-1), 1) := by decide +kernel
theorem dX6_firstOf_69 : decode cX6_firstOf 69 = .ok (.if_icmp .eq 10, 3) := by decide +kernel
theorem dX6_firstOf_72 : decode cX6_firstOf 72 = .ok (.iload 8, 2) := by decide +kernel
theorem dX6_firstOf_74 : decode cX6_firstOf 74 = .ok (.iload 5, 2) := by decide +kernel
theorem dX6_firstOf_76 : decode cX6_firstOf 76 = .ok (.if_icmp .ge 11, 3) := by decide +kernel
theorem dX6_firstOf_79 : decode cX6_firstOf 79 = .ok (.iload 6, 2) := by decide +kernel
theorem dX6_firstOf_81 : decode cX6_firstOf 81 = .ok (.istore 4, 2) := by decide +kernel
theorem dX6_firstOf_83 : decode cX6_firstOf 83 = .ok (.iload 8, 2) := by decide +kernel
theorem dX6_firstOf_85 : decode cX6_firstOf 85 = .ok (.istore 5, 2) := by decide +kernel
theorem dX6_firstOf_87 : decode cX6_firstOf 87 = .ok (.iinc 6 1, 3) := by decide +kernel
theorem dX6_firstOf_90 : decode cX6_firstOf 90 = .ok (.goto (-76), 3) := by decide +kernel
theorem dX6_firstOf_93 : decode cX6_firstOf 93 = .ok (.iload 4, 2) := by decide +kernel
theorem dX6_firstOf_95 : decode cX6_firstOf 95 = .ok (.ireturn, 1) := by decide +kernel
theorem dX6_isTone_0 : decode cX6_isTone 0 = .ok (.iload_n 1, 1) := by decide +kernel
theorem dX6_isTone_1 : decode cX6_isTone 1 = .ok (.i2l, 1) := by decide +kernel
theorem dX6_isTone_2 : decode cX6_isTone 2 = .ok (.lconst 0, 1) := by decide +kernel
theorem dX6_isTone_3 : decode cX6_isTone 3 = .ok (.ldc2_w 163, 3) := by decide +kernel
theorem dX6_isTone_6 : decode cX6_isTone 6 = .ok (.invokestatic 83, 3) := by decide +kernel
theorem dX6_isTone_9 : decode cX6_isTone 9 = .ok (.ireturn, 1) := by decide +kernel
theorem dX6_canShift_0 : decode cX6_canShift 0 = .ok (.iconst 1, 1) := by decide +kernel
theorem dX6_canShift_1 : decode cX6_canShift 1 = .ok (.istore_n 2, 1) := by decide +kernel
theorem dX6_canShift_2 : decode cX6_canShift 2 = .ok (.iconst 0, 1) := by decide +kernel
theorem dX6_canShift_3 : decode cX6_canShift 3 = .ok (.istore_n 3, 1) := by decide +kernel
theorem dX6_canShift_4 : decode cX6_canShift 4 = .ok (.iload_n 3, 1) := by decide +kernel
theorem dX6_canShift_5 : decode cX6_canShift 5 = .ok (.aload_n 0, 1) := by decide +kernel
theorem dX6_canShift_6 : decode cX6_canShift 6 = .ok (.getfield 7, 3) := by decide +kernel
theorem dX6_canShift_9 : decode cX6_canShift 9 = .ok (.bipush 9, 2) := by decide +kernel
theorem dX6_canShift_11 : decode cX6_canShift 11 = .ok (.iaload, 1) := by decide +kernel
theorem dX6_canShift_12 : decode cX6_canShift 12 = .ok (.if_icmp .ge 41, 3) := by decide +kernel
theorem dX6_canShift_15 : decode cX6_canShift 15 = .ok (.iload_n 2, 1) := by decide +kernel
theorem dX6_canShift_16 : decode cX6_canShift 16 = .ok (.ifCond .eq 29, 3) := by decide +kernel
theorem dX6_canShift_19 : decode cX6_canShift 19 = .ok (.aload_n 0, 1) := by decide +kernel
theorem dX6_canShift_20 : decode cX6_canShift 20 = .ok (.iload_n 3, 1) := by decide +kernel
theorem dX6_canShift_21 : decode cX6_canShift 21 = .ok (.invokevirtual 152, 3) := by decide +kernel
theorem dX6_canShift_24 : decode cX6_canShift 24 = .ok (.ifCond .eq 17, 3) := by decide +kernel
theorem dX6_canShift_27 : decode cX6_canShift 27 = .ok (.aload_n 0, 1) := by decide +kernel
theorem dX6_canShift_28 : decode cX6_canShift 28 = .ok (.aload_n 0, 1) := by decide +kernel
theorem dX6_canShift_29 : decode cX6_canShift 29 = .ok (.iload_n 3, 1) := by decide +kernel
theorem dX6_canShift_30 : decode cX6_canShift 30 = .ok (.invokevirtual 143, 3) := by decide +kernel
theorem dX6_canShift_33 : decode cX6_canShift 33 = .ok (.iload_n 1, 1) := by decide +kernel
theorem dX6_canShift_34 : decode cX6_canShift 34 = .ok (.iadd, 1) := by decide +kernel
theorem dX6_canShift_35 : decode cX6_canShift 35 = .ok (.invokevirtual 165, 3) := by decide +kernel
theorem dX6_canShift_38 : decode cX6_canShift 38 = .ok (.ifCond .eq 7, 3) := by decide +kernel
theorem dX6_canShift_41 : decode cX6_canShift 41 = .ok (.iconst 1, 1) := by decide +kernel
theorem dX6_canShift_42 : decode cX6_canShift 42 = .ok (.goto 4, 3) := by decide +kernel
theorem dX6_canShift_45 : decode cX6_canShift 45 = .ok (.iconst 0, 1) := by decide +kernel
theorem dX6_canShift_46 : decode cX6_canShift 46 = .ok (.istore_n 2, 1) := by decide +kernel
theorem dX6_canShift_47 : decode cX6_canShift 47 = .ok (.iinc 3 1, 3) := by decide +kernel
theorem dX6_canShift_50 : decode cX6_canShift 50 = .ok (.goto (-46), 3) := by decide +kernel
theorem dX6_canShift_53 : decode cX6_canShift 53 = .ok (.iload_n 2, 1) := by decide +kernel
theorem dX6_canShift_54 : decode cX6_canShift 54 = .ok (.ireturn, 1) := by decide +kernel
theorem dX6_costFor_0 : decode cX6_costFor 0 = .ok (.aload_n 0, 1) := by decide +kernel
theorem dX6_costFor_1 : decode cX6_costFor 1 = .ok (.iload_n 1, 1) := by decide +kernel
theorem dX6_costFor_2 : decode cX6_costFor 2 = .ok (.invokevirtual 168, 3) := by decide +kernel
theorem dX6_costFor_5 : decode cX6_costFor 5 = .ok (.ifCond .eq 14, 3) := by decide +kernel
theorem dX6_costFor_8 : decode cX6_costFor 8 = .ok (.aload_n 0, 1) := by decide +kernel
theorem dX6_costFor_9 : decode cX6_costFor 9 = .ok (.iconst 0, 1) := by decide +kernel
theorem dX6_costFor_10 : decode cX6_costFor 10 = .ok (.iload_n 1, 1) := by decide +kernel
theorem dX6_costFor_11 : decode cX6_costFor 11 = .ok (.iload_n 2, 1) := by decide +kernel
theorem dX6_costFor_12 : decode cX6_costFor 12 = .ok (.iload_n 3, 1) := by decide +kernel
theorem dX6_costFor_13 : decode cX6_costFor 13 = .ok (.invokevirtual 171, 3) := by decide +kernel
theorem dX6_costFor_16 : decode cX6_costFor 16 = .ok (.ifCond .ne 5, 3) := by decide +kernel
theorem dX6_costFor_19 : decode cX6_costFor 19 = .ok (.iconst (-1), 1) := by decide +kernel
theorem dX6_costFor_20 : decode cX6_costFor 20 = .ok (.ireturn, 1) := by decide +kernel
theorem dX6_costFor_21 : decode cX6_costFor 21 = .ok (.iconst 0, 1) := by decide +kernel
theorem dX6_costFor_22 : decode cX6_costFor 22 = .ok (.istore 4, 2) := by decide +kernel
theorem dX6_costFor_24 : decode cX6_costFor 24 = .ok (.iconst 0, 1) := by decide +kernel
theorem dX6_costFor_25 : decode cX6_costFor 25 = .ok (.istore 5, 2) := by decide +kernel
theorem dX6_costFor_27 : decode cX6_costFor 27 = .ok (.iload 5, 2) := by decide +kernel
theorem dX6_costFor_29 : decode cX6_costFor 29 = .ok (.aload_n 0, 1) := by decide +kernel
theorem dX6_costFor_30 : decode cX6_costFor 30 = .ok (.getfield 7, 3) := by decide +kernel
theorem dX6_costFor_33 : decode cX6_costFor 33 = .ok (.bipush 9, 2) := by decide +kernel
theorem dX6_costFor_35 : decode cX6_costFor 35 = .ok (.iaload, 1) := by decide +kernel
theorem dX6_costFor_36 : decode cX6_costFor 36 = .ok (.if_icmp .ge 58, 3) := by decide +kernel
theorem dX6_costFor_39 : decode cX6_costFor 39 = .ok (.aload_n 0, 1) := by decide +kernel
theorem dX6_costFor_40 : decode cX6_costFor 40 = .ok (.iload 5, 2) := by decide +kernel
theorem dX6_costFor_42 : decode cX6_costFor 42 = .ok (.invokevirtual 152, 3) := by decide +kernel
theorem dX6_costFor_45 : decode cX6_costFor 45 = .ok (.ifCond .eq 43, 3) := by decide +kernel
theorem dX6_costFor_48 : decode cX6_costFor 48 = .ok (.iload 5, 2) := by decide +kernel
theorem dX6_costFor_50 : decode cX6_costFor 50 = .ok (.ifCond .eq 14, 3) := by decide +kernel
theorem dX6_costFor_53 : decode cX6_costFor 53 = .ok (.aload_n 0, 1) := by decide +kernel
theorem dX6_costFor_54 : decode cX6_costFor 54 = .ok (.iload 5, 2) := by decide +kernel
theorem dX6_costFor_56 : decode cX6_costFor 56 = .ok (.iconst 1, 1) := by decide +kernel
theorem dX6_costFor_57 : decode cX6_costFor 57 = .ok (.isub, 1) := by decide +kernel
theorem dX6_costFor_58 : decode cX6_costFor 58 = .ok (.invokevirtual 152, 3) := by decide +kernel
theorem dX6_costFor_61 : decode cX6_costFor 61 = .ok (.ifCond .ne 27, 3) := by decide +kernel
theorem dX6_costFor_64 : decode cX6_costFor 64 = .ok (.iload 4, 2) := by decide +kernel
theorem dX6_costFor_66 : decode cX6_costFor 66 = .ok (.aload_n 0, 1) := by decide +kernel
theorem dX6_costFor_67 : decode cX6_costFor 67 = .ok (.getfield 40, 3) := by decide +kernel
theorem dX6_costFor_70 : decode cX6_costFor 70 = .ok (.sipush 4374, 3) := by decide +kernel
theorem dX6_costFor_73 : decode cX6_costFor 73 = .ok (.iload 5, 2) := by decide +kernel
theorem dX6_costFor_75 : decode cX6_costFor 75 = .ok (.imul, 1) := by decide +kernel
theorem dX6_costFor_76 : decode cX6_costFor 76 = .ok (.aload_n 0, 1) := by decide +kernel
theorem dX6_costFor_77 : decode cX6_costFor 77 = .ok (.iload 5, 2) := by decide +kernel
theorem dX6_costFor_79 : decode cX6_costFor 79 = .ok (.iconst (-1), 1) := by decide +kernel
theorem dX6_costFor_80 : decode cX6_costFor 80 = .ok (.invokevirtual 174, 3) := by decide +kernel
theorem dX6_costFor_83 : decode cX6_costFor 83 = .ok (.iadd, 1) := by decide +kernel
theorem dX6_costFor_84 : decode cX6_costFor 84 = .ok (.iaload, 1) := by decide +kernel
theorem dX6_costFor_85 : decode cX6_costFor 85 = .ok (.iadd, 1) := by decide +kernel
theorem dX6_costFor_86 : decode cX6_costFor 86 = .ok (.istore 4, 2) := by decide +kernel
theorem dX6_costFor_88 : decode cX6_costFor 88 = .ok (.iinc 5 1, 3) := by decide +kernel
theorem dX6_costFor_91 : decode cX6_costFor 91 = .ok (.goto (-64), 3) := by decide +kernel
theorem dX6_costFor_94 : decode cX6_costFor 94 = .ok (.iload 4, 2) := by decide +kernel
theorem dX6_costFor_96 : decode cX6_costFor 96 = .ok (.ireturn, 1) := by decide +kernel
theorem dX6_findsWay_0 : decode cX6_findsWay 0 = .ok (.aload_n 0, 1) := by decide +kernel
theorem dX6_findsWay_1 : decode cX6_findsWay 1 = .ok (.invokevirtual 177, 3) := by decide +kernel
theorem dX6_findsWay_4 : decode cX6_findsWay 4 = .ok (.aload_n 0, 1) := by decide +kernel
theorem dX6_findsWay_5 : decode cX6_findsWay 5 = .ok (.iconst 0, 1) := by decide +kernel
theorem dX6_findsWay_6 : decode cX6_findsWay 6 = .ok (.iconst 0, 1) := by decide +kernel
theorem dX6_findsWay_7 : decode cX6_findsWay 7 = .ok (.aload_n 0, 1) := by decide +kernel
theorem dX6_findsWay_8 : decode cX6_findsWay 8 = .ok (.getfield 7, 3) := by decide +kernel
theorem dX6_findsWay_11 : decode cX6_findsWay 11 = .ok (.iconst 4, 1) := by decide +kernel
theorem dX6_findsWay_12 : decode cX6_findsWay 12 = .ok (.iaload, 1) := by decide +kernel
theorem dX6_findsWay_13 : decode cX6_findsWay 13 = .ok (.aload_n 0, 1) := by decide +kernel
theorem dX6_findsWay_14 : decode cX6_findsWay 14 = .ok (.getfield 7, 3) := by decide +kernel
theorem dX6_findsWay_17 : decode cX6_findsWay 17 = .ok (.iconst 5, 1) := by decide +kernel
theorem dX6_findsWay_18 : decode cX6_findsWay 18 = .ok (.iaload, 1) := by decide +kernel
theorem dX6_findsWay_19 : decode cX6_findsWay 19 = .ok (.invokevirtual 171, 3) := by decide +kernel
theorem dX6_findsWay_22 : decode cX6_findsWay 22 = .ok (.ifCond .ne 5, 3) := by decide +kernel
theorem dX6_findsWay_25 : decode cX6_findsWay 25 = .ok (.iconst 0, 1) := by decide +kernel
theorem dX6_findsWay_26 : decode cX6_findsWay 26 = .ok (.ireturn, 1) := by decide +kernel
theorem dX6_findsWay_27 : decode cX6_findsWay 27 = .ok (.iconst 0, 1) := by decide +kernel
theorem dX6_findsWay_28 : decode cX6_findsWay 28 = .ok (.istore_n 1, 1) := by decide +kernel
theorem dX6_findsWay_29 : decode cX6_findsWay 29 = .ok (.iload_n 1, 1) := by decide +kernel
theorem dX6_findsWay_30 : decode cX6_findsWay 30 = .ok (.aload_n 0, 1) := by decide +kernel
theorem dX6_findsWay_31 : decode cX6_findsWay 31 = .ok (.getfield 7, 3) := by decide +kernel
theorem dX6_findsWay_34 : decode cX6_findsWay 34 = .ok (.bipush 9, 2) := by decide +kernel
theorem dX6_findsWay_36 : decode cX6_findsWay 36 = .ok (.iaload, 1) := by decide +kernel
theorem dX6_findsWay_37 : decode cX6_findsWay 37 = .ok (.if_icmp .ge 48, 3) := by decide +kernel
theorem dX6_findsWay_40 : decode cX6_findsWay 40 = .ok (.aload_n 0, 1) := by decide +kernel
theorem dX6_findsWay_41 : decode cX6_findsWay 41 = .ok (.getfield 46, 3) := by decide +kernel
theorem dX6_findsWay_44 : decode cX6_findsWay 44 = .ok (.iload_n 1, 1) := by decide +kernel
theorem dX6_findsWay_45 : decode cX6_findsWay 45 = .ok (.aload_n 0, 1) := by decide +kernel
theorem dX6_findsWay_46 : decode cX6_findsWay 46 = .ok (.iload_n 1, 1) := by decide +kernel
theorem dX6_findsWay_47 : decode cX6_findsWay 47 = .ok (.invokevirtual 152, 3) := by decide +kernel
theorem dX6_findsWay_50 : decode cX6_findsWay 50 = .ok (.ifCond .eq 27, 3) := by decide +kernel
theorem dX6_findsWay_53 : decode cX6_findsWay 53 = .ok (.aload_n 0, 1) := by decide +kernel
theorem dX6_findsWay_54 : decode cX6_findsWay 54 = .ok (.iload_n 1, 1) := by decide +kernel
theorem dX6_findsWay_55 : decode cX6_findsWay 55 = .ok (.iload_n 1, 1) := by decide +kernel
theorem dX6_findsWay_56 : decode cX6_findsWay 56 = .ok (.ifCond .ne 7, 3) := by decide +kernel
theorem dX6_findsWay_59 : decode cX6_findsWay 59 = .ok (.iconst (-1), 1) := by decide +kernel
theorem dX6_findsWay_60 : decode cX6_findsWay 60 = .ok (.goto 11, 3) := by decide +kernel
theorem dX6_findsWay_63 : decode cX6_findsWay 63 = .ok (.aload_n 0, 1) := by decide +kernel
theorem dX6_findsWay_64 : decode cX6_findsWay 64 = .ok (.getfield 46, 3) := by decide +kernel
theorem dX6_findsWay_67 : decode cX6_findsWay 67 = .ok (.iload_n 1, 1) := by decide +kernel
theorem dX6_findsWay_68 : decode cX6_findsWay 68 = .ok (.iconst 1, 1) := by decide +kernel
theorem dX6_findsWay_69 : decode cX6_findsWay 69 = .ok (.isub, 1) := by decide +kernel
theorem dX6_findsWay_70 : decode cX6_findsWay 70 = .ok (.iaload, 1) := by decide +kernel
theorem dX6_findsWay_71 : decode cX6_findsWay 71 = .ok (.invokevirtual 174, 3) := by decide +kernel
theorem dX6_findsWay_74 : decode cX6_findsWay 74 = .ok (.goto 4, 3) := by decide +kernel
theorem dX6_findsWay_77 : decode cX6_findsWay 77 = .ok (.iconst (-1), 1) := by decide +kernel
theorem dX6_findsWay_78 : decode cX6_findsWay 78 = .ok (.iastore, 1) := by decide +kernel
theorem dX6_findsWay_79 : decode cX6_findsWay 79 = .ok (.iinc 1 1, 3) := by decide +kernel
theorem dX6_findsWay_82 : decode cX6_findsWay 82 = .ok (.goto (-53), 3) := by decide +kernel
theorem dX6_findsWay_85 : decode cX6_findsWay 85 = .ok (.iconst 1, 1) := by decide +kernel
theorem dX6_findsWay_86 : decode cX6_findsWay 86 = .ok (.ireturn, 1) := by decide +kernel
theorem dX6_changeTo_0 : decode cX6_changeTo 0 = .ok (.iload_n 1, 1) := by decide +kernel
theorem dX6_changeTo_1 : decode cX6_changeTo 1 = .ok (.ifCond .eq 25, 3) := by decide +kernel
theorem dX6_changeTo_4 : decode cX6_changeTo 4 = .ok (.aload_n 0, 1) := by decide +kernel
theorem dX6_changeTo_5 : decode cX6_changeTo 5 = .ok (.getfield 46, 3) := by decide +kernel
theorem dX6_changeTo_8 : decode cX6_changeTo 8 = .ok (.iload_n 1, 1) := by decide +kernel
theorem dX6_changeTo_9 : decode cX6_changeTo 9 = .ok (.iaload, 1) := by decide +kernel
theorem dX6_changeTo_10 : decode cX6_changeTo 10 = .ok (.iconst (-1), 1) := by decide +kernel
theorem dX6_changeTo_11 : decode cX6_changeTo 11 = .ok (.if_icmp .eq 15, 3) := by decide +kernel
theorem dX6_changeTo_14 : decode cX6_changeTo 14 = .ok (.aload_n 0, 1) := by decide +kernel
theorem dX6_changeTo_15 : decode cX6_changeTo 15 = .ok (.getfield 46, 3) := by decide +kernel
theorem dX6_changeTo_18 : decode cX6_changeTo 18 = .ok (.iload_n 1, 1) := by decide +kernel
theorem dX6_changeTo_19 : decode cX6_changeTo 19 = .ok (.iconst 1, 1) := by decide +kernel
theorem dX6_changeTo_20 : decode cX6_changeTo 20 = .ok (.isub, 1) := by decide +kernel
theorem dX6_changeTo_21 : decode cX6_changeTo 21 = .ok (.iaload, 1) := by decide +kernel
theorem dX6_changeTo_22 : decode cX6_changeTo 22 = .ok (.iconst (-1), 1) := by decide +kernel
theorem dX6_changeTo_23 : decode cX6_changeTo 23 = .ok (.if_icmp .ne 7, 3) := by decide +kernel
theorem dX6_changeTo_26 : decode cX6_changeTo 26 = .ok (.iconst 0, 1) := by decide +kernel
theorem dX6_changeTo_27 : decode cX6_changeTo 27 = .ok (.goto 21, 3) := by decide +kernel
theorem dX6_changeTo_30 : decode cX6_changeTo 30 = .ok (.aload_n 0, 1) := by decide +kernel
theorem dX6_changeTo_31 : decode cX6_changeTo 31 = .ok (.aload_n 0, 1) := by decide +kernel
theorem dX6_changeTo_32 : decode cX6_changeTo 32 = .ok (.getfield 46, 3) := by decide +kernel
theorem dX6_changeTo_35 : decode cX6_changeTo 35 = .ok (.iload_n 1, 1) := by decide +kernel
theorem dX6_changeTo_36 : decode cX6_changeTo 36 = .ok (.iconst 1, 1) := by decide +kernel
theorem dX6_changeTo_37 : decode cX6_changeTo 37 = .ok (.isub, 1) := by decide +kernel
theorem dX6_changeTo_38 : decode cX6_changeTo 38 = .ok (.iaload, 1) := by decide +kernel
theorem dX6_changeTo_39 : decode cX6_changeTo 39 = .ok (.aload_n 0, 1) := by decide +kernel
theorem dX6_changeTo_40 : decode cX6_changeTo 40 = .ok (.getfield 46, 3) := by decide +kernel
theorem dX6_changeTo_43 : decode cX6_changeTo 43 = .ok (.iload_n 1, 1) := by decide +kernel
theorem dX6_changeTo_44 : decode cX6_changeTo 44 = .ok (.iaload, 1) := by decide +kernel
theorem dX6_changeTo_45 : decode cX6_changeTo 45 = .ok (.invokevirtual 160, 3) := by decide +kernel
theorem dX6_changeTo_48 : decode cX6_changeTo 48 = .ok (.ireturn, 1) := by decide +kernel
theorem dX6_easyAt_0 : decode cX6_easyAt 0 = .ok (.aload_n 0, 1) := by decide +kernel
theorem dX6_easyAt_1 : decode cX6_easyAt 1 = .ok (.invokevirtual 80, 3) := by decide +kernel
theorem dX6_easyAt_4 : decode cX6_easyAt 4 = .ok (.istore_n 3, 1) := by decide +kernel
theorem dX6_easyAt_5 : decode cX6_easyAt 5 = .ok (.iload_n 2, 1) := by decide +kernel
theorem dX6_easyAt_6 : decode cX6_easyAt 6 = .ok (.istore 4, 2) := by decide +kernel
theorem dX6_easyAt_8 : decode cX6_easyAt 8 = .ok (.iconst 0, 1) := by decide +kernel
theorem dX6_easyAt_9 : decode cX6_easyAt 9 = .ok (.istore 5, 2) := by decide +kernel
theorem dX6_easyAt_11 : decode cX6_easyAt 11 = .ok (.iload 5, 2) := by decide +kernel
theorem dX6_easyAt_13 : decode cX6_easyAt 13 = .ok (.iload_n 3, 1) := by decide +kernel
theorem dX6_easyAt_14 : decode cX6_easyAt 14 = .ok (.if_icmp .ge 38, 3) := by decide +kernel
theorem dX6_easyAt_17 : decode cX6_easyAt 17 = .ok (.iload 4, 2) := by decide +kernel
theorem dX6_easyAt_19 : decode cX6_easyAt 19 = .ok (.ifCond .lt 33, 3) := by decide +kernel
theorem dX6_easyAt_22 : decode cX6_easyAt 22 = .ok (.aload_n 0, 1) := by decide +kernel
theorem dX6_easyAt_23 : decode cX6_easyAt 23 = .ok (.iload 5, 2) := by decide +kernel
theorem dX6_easyAt_25 : decode cX6_easyAt 25 = .ok (.iload_n 1, 1) := by decide +kernel
theorem dX6_easyAt_26 : decode cX6_easyAt 26 = .ok (.invokevirtual 180, 3) := by decide +kernel
theorem dX6_easyAt_29 : decode cX6_easyAt 29 = .ok (.ifCond .ne 6, 3) := by decide +kernel
theorem dX6_easyAt_32 : decode cX6_easyAt 32 = .ok (.goto 14, 3) := by decide +kernel
theorem dX6_easyAt_35 : decode cX6_easyAt 35 = .ok (.iload 4, 2) := by decide +kernel
theorem dX6_easyAt_37 : decode cX6_easyAt 37 = .ok (.ifCond .ne 6, 3) := by decide +kernel
theorem dX6_easyAt_40 : decode cX6_easyAt 40 = .ok (.iload 5, 2) := by decide +kernel
theorem dX6_easyAt_42 : decode cX6_easyAt 42 = .ok (.ireturn, 1) := by decide +kernel
theorem dX6_easyAt_43 : decode cX6_easyAt 43 = .ok (.iinc 4 (-1), 3) := by decide +kernel
theorem dX6_easyAt_46 : decode cX6_easyAt 46 = .ok (.iinc 5 1, 3) := by decide +kernel
theorem dX6_easyAt_49 : decode cX6_easyAt 49 = .ok (.goto (-38), 3) := by decide +kernel
theorem dX6_easyAt_52 : decode cX6_easyAt 52 = .ok (.iconst (-1), 1) := by decide +kernel
theorem dX6_easyAt_53 : decode cX6_easyAt 53 = .ok (.ireturn, 1) := by decide +kernel
theorem dX6_easyMany_0 : decode cX6_easyMany 0 = .ok (.aload_n 0, 1) := by decide +kernel
theorem dX6_easyMany_1 : decode cX6_easyMany 1 = .ok (.invokevirtual 80, 3) := by decide +kernel
theorem dX6_easyMany_4 : decode cX6_easyMany 4 = .ok (.istore_n 2, 1) := by decide +kernel
theorem dX6_easyMany_5 : decode cX6_easyMany 5 = .ok (.iconst 0, 1) := by decide +kernel
theorem dX6_easyMany_6 : decode cX6_easyMany 6 = .ok (.istore_n 3, 1) := by decide +kernel
theorem dX6_easyMany_7 : decode cX6_easyMany 7 = .ok (.iconst 0, 1) := by decide +kernel
theorem dX6_easyMany_8 : decode cX6_easyMany 8 = .ok (.istore 4, 2) := by decide +kernel
theorem dX6_easyMany_10 : decode cX6_easyMany 10 = .ok (.iload 4, 2) := by decide +kernel
theorem dX6_easyMany_12 : decode cX6_easyMany 12 = .ok (.iload_n 2, 1) := by decide +kernel
theorem dX6_easyMany_13 : decode cX6_easyMany 13 = .ok (.if_icmp .ge 27, 3) := by decide +kernel
theorem dX6_easyMany_16 : decode cX6_easyMany 16 = .ok (.iload_n 3, 1) := by decide +kernel
theorem dX6_easyMany_17 : decode cX6_easyMany 17 = .ok (.aload_n 0, 1) := by decide +kernel
theorem dX6_easyMany_18 : decode cX6_easyMany 18 = .ok (.iload 4, 2) := by decide +kernel
theorem dX6_easyMany_20 : decode cX6_easyMany 20 = .ok (.iload_n 1, 1) := by decide +kernel
theorem dX6_easyMany_21 : decode cX6_easyMany 21 = .ok (.invokevirtual 180, 3) := by decide +kernel
theorem dX6_easyMany_24 : decode cX6_easyMany 24 = .ok (.ifCond .eq 7, 3) := by decide +kernel
theorem dX6_easyMany_27 : decode cX6_easyMany 27 = .ok (.iconst 1, 1) := by decide +kernel
theorem dX6_easyMany_28 : decode cX6_easyMany 28 = .ok (.goto 4, 3) := by decide +kernel
theorem dX6_easyMany_31 : decode cX6_easyMany 31 = .ok (.iconst 0, 1) := by decide +kernel
theorem dX6_easyMany_32 : decode cX6_easyMany 32 = .ok (.iadd, 1) := by decide +kernel
theorem dX6_easyMany_33 : decode cX6_easyMany 33 = .ok (.istore_n 3, 1) := by decide +kernel
theorem dX6_easyMany_34 : decode cX6_easyMany 34 = .ok (.iinc 4 1, 3) := by decide +kernel
theorem dX6_easyMany_37 : decode cX6_easyMany 37 = .ok (.goto (-27), 3) := by decide +kernel
theorem dX6_easyMany_40 : decode cX6_easyMany 40 = .ok (.iload_n 3, 1) := by decide +kernel
theorem dX6_easyMany_41 : decode cX6_easyMany 41 = .ok (.ireturn, 1) := by decide +kernel
theorem dX6_bytesIn_0 : decode cX6_bytesIn 0 = .ok (.iconst 0, 1) := by decide +kernel
theorem dX6_bytesIn_1 : decode cX6_bytesIn 1 = .ok (.istore_n 2, 1) := by decide +kernel
theorem dX6_bytesIn_2 : decode cX6_bytesIn 2 = .ok (.bipush 56, 2) := by decide +kernel
theorem dX6_bytesIn_4 : decode cX6_bytesIn 4 = .ok (.istore_n 3, 1) := by decide +kernel
theorem dX6_bytesIn_5 : decode cX6_bytesIn 5 = .ok (.iload_n 3, 1) := by decide +kernel
theorem dX6_bytesIn_6 : decode cX6_bytesIn 6 = .ok (.ifCond .lt 29, 3) := by decide +kernel
theorem dX6_bytesIn_9 : decode cX6_bytesIn 9 = .ok (.iload_n 2, 1) := by decide +kernel
theorem dX6_bytesIn_10 : decode cX6_bytesIn 10 = .ok (.lload_n 0, 1) := by decide +kernel
theorem dX6_bytesIn_11 : decode cX6_bytesIn 11 = .ok (.iload_n 3, 1) := by decide +kernel
theorem dX6_bytesIn_12 : decode cX6_bytesIn 12 = .ok (.lshr, 1) := by decide +kernel
theorem dX6_bytesIn_13 : decode cX6_bytesIn 13 = .ok (.ldc2_w 184, 3) := by decide +kernel
theorem dX6_bytesIn_16 : decode cX6_bytesIn 16 = .ok (.land, 1) := by decide +kernel
theorem dX6_bytesIn_17 : decode cX6_bytesIn 17 = .ok (.lconst 0, 1) := by decide +kernel
theorem dX6_bytesIn_18 : decode cX6_bytesIn 18 = .ok (.lcmp, 1) := by decide +kernel
theorem dX6_bytesIn_19 : decode cX6_bytesIn 19 = .ok (.ifCond .eq 7, 3) := by decide +kernel
theorem dX6_bytesIn_22 : decode cX6_bytesIn 22 = .ok (.iconst 1, 1) := by decide +kernel
theorem dX6_bytesIn_23 : decode cX6_bytesIn 23 = .ok (.goto 4, 3) := by decide +kernel
theorem dX6_bytesIn_26 : decode cX6_bytesIn 26 = .ok (.iconst 0, 1) := by decide +kernel
theorem dX6_bytesIn_27 : decode cX6_bytesIn 27 = .ok (.iadd, 1) := by decide +kernel
theorem dX6_bytesIn_28 : decode cX6_bytesIn 28 = .ok (.istore_n 2, 1) := by decide +kernel
theorem dX6_bytesIn_29 : decode cX6_bytesIn 29 = .ok (.iinc 3 (-8), 3) := by decide +kernel
theorem dX6_bytesIn_32 : decode cX6_bytesIn 32 = .ok (.goto (-27), 3) := by decide +kernel
theorem dX6_bytesIn_35 : decode cX6_bytesIn 35 = .ok (.iload_n 2, 1) := by decide +kernel
theorem dX6_bytesIn_36 : decode cX6_bytesIn 36 = .ok (.ireturn, 1) := by decide +kernel
theorem dX6_append_0 : decode cX6_append 0 = .ok (.aload_n 0, 1) := by decide +kernel
theorem dX6_append_1 : decode cX6_append 1 = .ok (.iconst 0, 1) := by decide +kernel
theorem dX6_append_2 : decode cX6_append 2 = .ok (.putfield 66, 3) := by decide +kernel
theorem dX6_append_5 : decode cX6_append 5 = .ok (.aload_n 0, 1) := by decide +kernel
theorem dX6_append_6 : decode cX6_append 6 = .ok (.getfield 186, 3) := by decide +kernel
theorem dX6_append_9 : decode cX6_append 9 = .ok (.lload_n 1, 1) := by decide +kernel
theorem dX6_append_10 : decode cX6_append 10 = .ok (.invokestatic 189, 3) := by decide +kernel
theorem dX6_append_13 : decode cX6_append 13 = .ok (.iadd, 1) := by decide +kernel
theorem dX6_append_14 : decode cX6_append 14 = .ok (.sipush 400, 3) := by decide +kernel
theorem dX6_append_17 : decode cX6_append 17 = .ok (.if_icmp .le 6, 3) := by decide +kernel
theorem dX6_append_20 : decode cX6_append 20 = .ok (.bipush (-2), 2) := by decide +kernel
theorem dX6_append_22 : decode cX6_append 22 = .ok (.ireturn, 1) := by decide +kernel
theorem dX6_append_23 : decode cX6_append 23 = .ok (.bipush 56, 2) := by decide +kernel
theorem dX6_append_25 : decode cX6_append 25 = .ok (.istore_n 3, 1) := by decide +kernel
theorem dX6_append_26 : decode cX6_append 26 = .ok (.iload_n 3, 1) := by decide +kernel
theorem dX6_append_27 : decode cX6_append 27 = .ok (.ifCond .lt 45, 3) := by decide +kernel
theorem dX6_append_30 : decode cX6_append 30 = .ok (.lload_n 1, 1) := by decide +kernel
theorem dX6_append_31 : decode cX6_append 31 = .ok (.iload_n 3, 1) := by decide +kernel
theorem dX6_append_32 : decode cX6_append 32 = .ok (.lshr, 1) := by decide +kernel
theorem dX6_append_33 : decode cX6_append 33 = .ok (.ldc2_w 184, 3) := by decide +kernel
theorem dX6_append_36 : decode cX6_append 36 = .ok (.land, 1) := by decide +kernel
theorem dX6_append_37 : decode cX6_append 37 = .ok (.l2i, 1) := by decide +kernel
theorem dX6_append_38 : decode cX6_append 38 = .ok (.istore 4, 2) := by decide +kernel
theorem dX6_append_40 : decode cX6_append 40 = .ok (.iload 4, 2) := by decide +kernel
theorem dX6_append_42 : decode cX6_append 42 = .ok (.ifCond .eq 24, 3) := by decide +kernel
theorem dX6_append_45 : decode cX6_append 45 = .ok (.aload_n 0, 1) := by decide +kernel
theorem dX6_append_46 : decode cX6_append 46 = .ok (.getfield 49, 3) := by decide +kernel
theorem dX6_append_49 : decode cX6_append 49 = .ok (.aload_n 0, 1) := by decide +kernel
theorem dX6_append_50 : decode cX6_append 50 = .ok (.getfield 186, 3) := by decide +kernel
theorem dX6_append_53 : decode cX6_append 53 = .ok (.iload 4, 2) := by decide +kernel
theorem dX6_append_55 : decode cX6_append 55 = .ok (.iastore, 1) := by decide +kernel
theorem dX6_append_56 : decode cX6_append 56 = .ok (.aload_n 0, 1) := by decide +kernel
theorem dX6_append_57 : decode cX6_append 57 = .ok (.dup, 1) := by decide +kernel
theorem dX6_append_58 : decode cX6_append 58 = .ok (.getfield 186, 3) := by decide +kernel
theorem dX6_append_61 : decode cX6_append 61 = .ok (.iconst 1, 1) := by decide +kernel
theorem dX6_append_62 : decode cX6_append 62 = .ok (.iadd, 1) := by decide +kernel
theorem dX6_append_63 : decode cX6_append 63 = .ok (.putfield 186, 3) := by decide +kernel
theorem dX6_append_66 : decode cX6_append 66 = .ok (.iinc 3 (-8), 3) := by decide +kernel
theorem dX6_append_69 : decode cX6_append 69 = .ok (.goto (-43), 3) := by decide +kernel
theorem dX6_append_72 : decode cX6_append 72 = .ok (.aload_n 0, 1) := by decide +kernel
theorem dX6_append_73 : decode cX6_append 73 = .ok (.getfield 186, 3) := by decide +kernel
theorem dX6_append_76 : decode cX6_append 76 = .ok (.ireturn, 1) := by decide +kernel
theorem dX6_byteAt_0 : decode cX6_byteAt 0 = .ok (.iload_n 1, 1) := by decide +kernel
theorem dX6_byteAt_1 : decode cX6_byteAt 1 = .ok (.aload_n 0, 1) := by decide +kernel
theorem dX6_byteAt_2 : decode cX6_byteAt 2 = .ok (.getfield 186, 3) := by decide +kernel
theorem dX6_byteAt_5 : decode cX6_byteAt 5 = .ok (.if_icmp .ge 12, 3) := by decide +kernel
theorem dX6_byteAt_8 : decode cX6_byteAt 8 = .ok (.aload_n 0, 1) := by decide +kernel
theorem dX6_byteAt_9 : decode cX6_byteAt 9 = .ok (.getfield 49, 3) := by decide +kernel
theorem dX6_byteAt_12 : decode cX6_byteAt 12 = .ok (.iload_n 1, 1) := by decide +kernel
theorem dX6_byteAt_13 : decode cX6_byteAt 13 = .ok (.iaload, 1) := by decide +kernel
theorem dX6_byteAt_14 : decode cX6_byteAt 14 = .ok (.goto 4, 3) := by decide +kernel
theorem dX6_byteAt_17 : decode cX6_byteAt 17 = .ok (.iconst (-1), 1) := by decide +kernel
theorem dX6_byteAt_18 : decode cX6_byteAt 18 = .ok (.ireturn, 1) := by decide +kernel
theorem dX6_fails_0 : decode cX6_fails 0 = .ok (.aload_n 0, 1) := by decide +kernel
theorem dX6_fails_1 : decode cX6_fails 1 = .ok (.getfield 193, 3) := by decide +kernel
theorem dX6_fails_4 : decode cX6_fails 4 = .ok (.ifCond .ne 13, 3) := by decide +kernel
theorem dX6_fails_7 : decode cX6_fails 7 = .ok (.aload_n 0, 1) := by decide +kernel
theorem dX6_fails_8 : decode cX6_fails 8 = .ok (.iload_n 1, 1) := by decide +kernel
theorem dX6_fails_9 : decode cX6_fails 9 = .ok (.putfield 193, 3) := by decide +kernel
theorem dX6_fails_12 : decode cX6_fails 12 = .ok (.aload_n 0, 1) := by decide +kernel
theorem dX6_fails_13 : decode cX6_fails 13 = .ok (.iload_n 2, 1) := by decide +kernel
theorem dX6_fails_14 : decode cX6_fails 14 = .ok (.putfield 196, 3) := by decide +kernel
theorem dX6_fails_17 : decode cX6_fails 17 = .ok (.return_, 1) := by decide +kernel
theorem dX6_isFine_0 : decode cX6_isFine 0 = .ok (.aload_n 0, 1) := by decide +kernel
theorem dX6_isFine_1 : decode cX6_isFine 1 = .ok (.getfield 193, 3) := by decide +kernel
theorem dX6_isFine_4 : decode cX6_isFine 4 = .ok (.ifCond .ne 7, 3) := by decide +kernel
theorem dX6_isFine_7 : decode cX6_isFine 7 = .ok (.iconst 1, 1) := by decide +kernel
theorem dX6_isFine_8 : decode cX6_isFine 8 = .ok (.goto 4, 3) := by decide +kernel
theorem dX6_isFine_11 : decode cX6_isFine 11 = .ok (.iconst 0, 1) := by decide +kernel
theorem dX6_isFine_12 : decode cX6_isFine 12 = .ok (.ireturn, 1) := by decide +kernel
theorem dX6_looks_0 : decode cX6_looks 0 = .ok (.aload_n 0, 1) := by decide +kernel
theorem dX6_looks_1 : decode cX6_looks 1 = .ok (.aload_n 0, 1) := by decide +kernel
theorem dX6_looks_2 : decode cX6_looks 2 = .ok (.getfield 199, 3) := by decide +kernel
theorem dX6_looks_5 : decode cX6_looks 5 = .ok (.invokevirtual 202, 3) := by decide +kernel
theorem dX6_looks_8 : decode cX6_looks 8 = .ok (.bipush 32, 2) := by decide +kernel
theorem dX6_looks_10 : decode cX6_looks 10 = .ok (.if_icmp .ne 16, 3) := by decide +kernel
theorem dX6_looks_13 : decode cX6_looks 13 = .ok (.aload_n 0, 1) := by decide +kernel
theorem dX6_looks_14 : decode cX6_looks 14 = .ok (.dup, 1) := by decide +kernel
theorem dX6_looks_15 : decode cX6_looks 15 = .ok (.getfield 199, 3) := by decide +kernel
theorem dX6_looks_18 : decode cX6_looks 18 = .ok (.iconst 1, 1) := by decide +kernel
theorem dX6_looks_19 : decode cX6_looks 19 = .ok (.iadd, 1) := by decide +kernel
theorem dX6_looks_20 : decode cX6_looks 20 = .ok (.putfield 199, 3) := by decide +kernel
theorem dX6_looks_23 : decode cX6_looks 23 = .ok (.goto (-23), 3) := by decide +kernel
theorem dX6_looks_26 : decode cX6_looks 26 = .ok (.aload_n 0, 1) := by decide +kernel
theorem dX6_looks_27 : decode cX6_looks 27 = .ok (.aload_n 0, 1) := by decide +kernel
theorem dX6_looks_28 : decode cX6_looks 28 = .ok (.getfield 199, 3) := by decide +kernel
theorem dX6_looks_31 : decode cX6_looks 31 = .ok (.putfield 205, 3) := by decide +kernel
theorem dX6_looks_34 : decode cX6_looks 34 = .ok (.aload_n 0, 1) := by decide +kernel
theorem dX6_looks_35 : decode cX6_looks 35 = .ok (.aload_n 0, 1) := by decide +kernel
theorem dX6_looks_36 : decode cX6_looks 36 = .ok (.getfield 199, 3) := by decide +kernel
theorem dX6_looks_39 : decode cX6_looks 39 = .ok (.invokevirtual 202, 3) := by decide +kernel
theorem dX6_looks_42 : decode cX6_looks 42 = .ok (.ireturn, 1) := by decide +kernel
theorem dX6_isLetter_0 : decode cX6_isLetter 0 = .ok (.iload_n 0, 1) := by decide +kernel
theorem dX6_isLetter_1 : decode cX6_isLetter 1 = .ok (.i2l, 1) := by decide +kernel
theorem dX6_isLetter_2 : decode cX6_isLetter 2 = .ok (.ldc2_w 208, 3) := by decide +kernel
theorem dX6_isLetter_5 : decode cX6_isLetter 5 = .ok (.ldc2_w 210, 3) := by decide +kernel
theorem dX6_isLetter_8 : decode cX6_isLetter 8 = .ok (.invokestatic 83, 3) := by decide +kernel
theorem dX6_isLetter_11 : decode cX6_isLetter 11 = .ok (.ireturn, 1) := by decide +kernel
theorem dX6_isDigit_0 : decode cX6_isDigit 0 = .ok (.iload_n 0, 1) := by decide +kernel
theorem dX6_isDigit_1 : decode cX6_isDigit 1 = .ok (.i2l, 1) := by decide +kernel
theorem dX6_isDigit_2 : decode cX6_isDigit 2 = .ok (.ldc2_w 212, 3) := by decide +kernel
theorem dX6_isDigit_5 : decode cX6_isDigit 5 = .ok (.ldc2_w 214, 3) := by decide +kernel
theorem dX6_isDigit_8 : decode cX6_isDigit 8 = .ok (.invokestatic 83, 3) := by decide +kernel
theorem dX6_isDigit_11 : decode cX6_isDigit 11 = .ok (.ireturn, 1) := by decide +kernel
theorem dX6_word_0 : decode cX6_word 0 = .ok (.aload_n 0, 1) := by decide +kernel
theorem dX6_word_1 : decode cX6_word 1 = .ok (.invokevirtual 216, 3) := by decide +kernel
theorem dX6_word_4 : decode cX6_word 4 = .ok (.pop, 1) := by decide +kernel
theorem dX6_word_5 : decode cX6_word 5 = .ok (.aload_n 0, 1) := by decide +kernel
theorem dX6_word_6 : decode cX6_word 6 = .ok (.aload_n 0, 1) := by decide +kernel
theorem dX6_word_7 : decode cX6_word 7 = .ok (.getfield 199, 3) := by decide +kernel
theorem dX6_word_10 : decode cX6_word 10 = .ok (.invokevirtual 202, 3) := by decide +kernel
theorem dX6_word_13 : decode cX6_word 13 = .ok (.invokestatic 219, 3) := by decide +kernel
theorem dX6_word_16 : decode cX6_word 16 = .ok (.ifCond .eq 16, 3) := by decide +kernel
theorem dX6_word_19 : decode cX6_word 19 = .ok (.aload_n 0, 1) := by decide +kernel
theorem dX6_word_20 : decode cX6_word 20 = .ok (.dup, 1) := by decide +kernel
theorem dX6_word_21 : decode cX6_word 21 = .ok (.getfield 199, 3) := by decide +kernel
theorem dX6_word_24 : decode cX6_word 24 = .ok (.iconst 1, 1) := by decide +kernel
theorem dX6_word_25 : decode cX6_word 25 = .ok (.iadd, 1) := by decide +kernel
theorem dX6_word_26 : decode cX6_word 26 = .ok (.putfield 199, 3) := by decide +kernel
theorem dX6_word_29 : decode cX6_word 29 = .ok (.goto (-24), 3) := by decide +kernel
theorem dX6_word_32 : decode cX6_word 32 = .ok (.return_, 1) := by decide +kernel
theorem dX6_was_0 : decode cX6_was 0 = .ok (.aload_n 0, 1) := by decide +kernel
theorem dX6_was_1 : decode cX6_was 1 = .ok (.getfield 199, 3) := by decide +kernel
theorem dX6_was_4 : decode cX6_was 4 = .ok (.aload_n 0, 1) := by decide +kernel
theorem dX6_was_5 : decode cX6_was 5 = .ok (.getfield 205, 3) := by decide +kernel
theorem dX6_was_8 : decode cX6_was 8 = .ok (.isub, 1) := by decide +kernel
theorem dX6_was_9 : decode cX6_was 9 = .ok (.aload_n 1, 1) := by decide +kernel
theorem dX6_was_10 : decode cX6_was 10 = .ok (.invokevirtual 222, 3) := by decide +kernel
theorem dX6_was_13 : decode cX6_was 13 = .ok (.if_icmp .ne 7, 3) := by decide +kernel
theorem dX6_was_16 : decode cX6_was 16 = .ok (.iconst 1, 1) := by decide +kernel
theorem dX6_was_17 : decode cX6_was 17 = .ok (.goto 4, 3) := by decide +kernel
theorem dX6_was_20 : decode cX6_was 20 = .ok (.iconst 0, 1) := by decide +kernel
theorem dX6_was_21 : decode cX6_was 21 = .ok (.istore_n 2, 1) := by decide +kernel
theorem dX6_was_22 : decode cX6_was 22 = .ok (.iconst 0, 1) := by decide +kernel
theorem dX6_was_23 : decode cX6_was 23 = .ok (.istore_n 3, 1) := by decide +kernel
theorem dX6_was_24 : decode cX6_was 24 = .ok (.iload_n 3, 1) := by decide +kernel
theorem dX6_was_25 : decode cX6_was 25 = .ok (.aload_n 1, 1) := by decide +kernel
theorem dX6_was_26 : decode cX6_was 26 = .ok (.invokevirtual 222, 3) := by decide +kernel
theorem dX6_was_29 : decode cX6_was 29 = .ok (.if_icmp .ge 38, 3) := by decide +kernel
theorem dX6_was_32 : decode cX6_was 32 = .ok (.iload_n 2, 1) := by decide +kernel
theorem dX6_was_33 : decode cX6_was 33 = .ok (.ifCond .eq 34, 3) := by decide +kernel
theorem dX6_was_36 : decode cX6_was 36 = .ok (.aload_n 0, 1) := by decide +kernel
theorem dX6_was_37 : decode cX6_was 37 = .ok (.getfield 49, 3) := by decide +kernel
theorem dX6_was_40 : decode cX6_was 40 = .ok (.aload_n 0, 1) := by decide +kernel
theorem dX6_was_41 : decode cX6_was 41 = .ok (.getfield 205, 3) := by decide +kernel
theorem dX6_was_44 : decode cX6_was 44 = .ok (.iload_n 3, 1) := by decide +kernel
theorem dX6_was_45 : decode cX6_was 45 = .ok (.iadd, 1) := by decide +kernel
theorem dX6_was_46 : decode cX6_was 46 = .ok (.iaload, 1) := by decide +kernel
theorem dX6_was_47 : decode cX6_was 47 = .ok (.aload_n 1, 1) := by decide +kernel
theorem dX6_was_48 : decode cX6_was 48 = .ok (.iload_n 3, 1) := by decide +kernel
theorem dX6_was_49 : decode cX6_was 49 = .ok (.invokevirtual 226, 3) := by decide +kernel
theorem dX6_was_52 : decode cX6_was 52 = .ok (.if_icmp .ne 7, 3) := by decide +kernel
theorem dX6_was_55 : decode cX6_was 55 = .ok (.iconst 1, 1) := by decide +kernel
theorem dX6_was_56 : decode cX6_was 56 = .ok (.goto 4, 3) := by decide +kernel
theorem dX6_was_59 : decode cX6_was 59 = .ok (.iconst 0, 1) := by decide +kernel
theorem dX6_was_60 : decode cX6_was 60 = .ok (.istore_n 2, 1) := by decide +kernel
theorem dX6_was_61 : decode cX6_was 61 = .ok (.iinc 3 1, 3) := by decide +kernel
theorem dX6_was_64 : decode cX6_was 64 = .ok (.goto (-40), 3) := by decide +kernel
theorem dX6_was_67 : decode cX6_was 67 = .ok (.iload_n 2, 1) := by decide +kernel
theorem dX6_was_68 : decode cX6_was 68 = .ok (.ireturn, 1) := by decide +kernel
theorem dX6_number_0 : decode cX6_number 0 = .ok (.aload_n 0, 1) := by decide +kernel
theorem dX6_number_1 : decode cX6_number 1 = .ok (.invokevirtual 230, 3) := by decide +kernel
theorem dX6_number_4 : decode cX6_number 4 = .ok (.ifCond .ne 5, 3) := by decide +kernel
theorem dX6_number_7 : decode cX6_number 7 = .ok (.iload_n 1, 1) := by decide +kernel
theorem dX6_number_8 : decode cX6_number 8 = .ok (.ireturn, 1) := by decide +kernel
theorem dX6_number_9 : decode cX6_number 9 = .ok (.aload_n 0, 1) := by decide +kernel
theorem dX6_number_10 : decode cX6_number 10 = .ok (.invokevirtual 216, 3) := by decide +kernel
theorem dX6_number_13 : decode cX6_number 13 = .ok (.invokestatic 234, 3) := by decide +kernel
theorem dX6_number_16 : decode cX6_number 16 = .ok (.ifCond .ne 14, 3) := by decide +kernel
theorem dX6_number_19 : decode cX6_number 19 = .ok (.aload_n 0, 1) := by decide +kernel
theorem dX6_number_20 : decode cX6_number 20 = .ok (.iconst 1, 1) := by decide +kernel
theorem dX6_number_21 : decode cX6_number 21 = .ok (.aload_n 0, 1) := by decide +kernel
theorem dX6_number_22 : decode cX6_number 22 = .ok (.getfield 205, 3) := by decide +kernel
theorem dX6_number_25 : decode cX6_number 25 = .ok (.invokevirtual 237, 3) := by decide +kernel
theorem dX6_number_28 : decode cX6_number 28 = .ok (.iload_n 1, 1) := by decide +kernel
theorem dX6_number_29 : decode cX6_number 29 = .ok (.ireturn, 1) := by decide +kernel
theorem dX6_number_30 : decode cX6_number 30 = .ok (.iconst 0, 1) := by decide +kernel
theorem dX6_number_31 : decode cX6_number 31 = .ok (.istore_n 3, 1) := by decide +kernel
theorem dX6_number_32 : decode cX6_number 32 = .ok (.aload_n 0, 1) := by decide +kernel
theorem dX6_number_33 : decode cX6_number 33 = .ok (.aload_n 0, 1) := by decide +kernel
theorem dX6_number_34 : decode cX6_number 34 = .ok (.getfield 199, 3) := by decide +kernel
theorem dX6_number_37 : decode cX6_number 37 = .ok (.invokevirtual 202, 3) := by decide +kernel
theorem dX6_number_40 : decode cX6_number 40 = .ok (.invokestatic 234, 3) := by decide +kernel
theorem dX6_number_43 : decode cX6_number 43 = .ok (.ifCond .eq 38, 3) := by decide +kernel
theorem dX6_number_46 : decode cX6_number 46 = .ok (.ldc 159, 2) := by decide +kernel
theorem dX6_number_48 : decode cX6_number 48 = .ok (.bipush 10, 2) := by decide +kernel
theorem dX6_number_50 : decode cX6_number 50 = .ok (.iload_n 3, 1) := by decide +kernel
theorem dX6_number_51 : decode cX6_number 51 = .ok (.imul, 1) := by decide +kernel
theorem dX6_number_52 : decode cX6_number 52 = .ok (.aload_n 0, 1) := by decide +kernel
theorem dX6_number_53 : decode cX6_number 53 = .ok (.aload_n 0, 1) := by decide +kernel
theorem dX6_number_54 : decode cX6_number 54 = .ok (.getfield 199, 3) := by decide +kernel
theorem dX6_number_57 : decode cX6_number 57 = .ok (.invokevirtual 202, 3) := by decide +kernel
theorem dX6_number_60 : decode cX6_number 60 = .ok (.iadd, 1) := by decide +kernel
theorem dX6_number_61 : decode cX6_number 61 = .ok (.bipush 48, 2) := by decide +kernel
theorem dX6_number_63 : decode cX6_number 63 = .ok (.isub, 1) := by decide +kernel
theorem dX6_number_64 : decode cX6_number 64 = .ok (.invokestatic 146, 3) := by decide +kernel
theorem dX6_number_67 : decode cX6_number 67 = .ok (.istore_n 3, 1) := by decide +kernel
theorem dX6_number_68 : decode cX6_number 68 = .ok (.aload_n 0, 1) := by decide +kernel
theorem dX6_number_69 : decode cX6_number 69 = .ok (.dup, 1) := by decide +kernel
theorem dX6_number_70 : decode cX6_number 70 = .ok (.getfield 199, 3) := by decide +kernel
theorem dX6_number_73 : decode cX6_number 73 = .ok (.iconst 1, 1) := by decide +kernel
theorem dX6_number_74 : decode cX6_number 74 = .ok (.iadd, 1) := by decide +kernel
theorem dX6_number_75 : decode cX6_number 75 = .ok (.putfield 199, 3) := by decide +kernel
theorem dX6_number_78 : decode cX6_number 78 = .ok (.goto (-46), 3) := by decide +kernel
theorem dX6_number_81 : decode cX6_number 81 = .ok (.iload_n 3, 1) := by decide +kernel
theorem dX6_number_82 : decode cX6_number 82 = .ok (.i2l, 1) := by decide +kernel
theorem dX6_number_83 : decode cX6_number 83 = .ok (.iload_n 1, 1) := by decide +kernel
theorem dX6_number_84 : decode cX6_number 84 = .ok (.i2l, 1) := by decide +kernel
theorem dX6_number_85 : decode cX6_number 85 = .ok (.iload_n 2, 1) := by decide +kernel
theorem dX6_number_86 : decode cX6_number 86 = .ok (.i2l, 1) := by decide +kernel
theorem dX6_number_87 : decode cX6_number 87 = .ok (.invokestatic 83, 3) := by decide +kernel
theorem dX6_number_90 : decode cX6_number 90 = .ok (.ifCond .ne 12, 3) := by decide +kernel
theorem dX6_number_93 : decode cX6_number 93 = .ok (.aload_n 0, 1) := by decide +kernel
theorem dX6_number_94 : decode cX6_number 94 = .ok (.iconst 2, 1) := by decide +kernel
theorem dX6_number_95 : decode cX6_number 95 = .ok (.aload_n 0, 1) := by decide +kernel
theorem dX6_number_96 : decode cX6_number 96 = .ok (.getfield 205, 3) := by decide +kernel
theorem dX6_number_99 : decode cX6_number 99 = .ok (.invokevirtual 237, 3) := by decide +kernel
theorem dX6_number_102 : decode cX6_number 102 = .ok (.aload_n 0, 1) := by decide +kernel
theorem dX6_number_103 : decode cX6_number 103 = .ok (.invokevirtual 230, 3) := by decide +kernel
theorem dX6_number_106 : decode cX6_number 106 = .ok (.ifCond .eq 7, 3) := by decide +kernel
theorem dX6_number_109 : decode cX6_number 109 = .ok (.iload_n 3, 1) := by decide +kernel
theorem dX6_number_110 : decode cX6_number 110 = .ok (.goto 4, 3) := by decide +kernel
theorem dX6_number_113 : decode cX6_number 113 = .ok (.iload_n 1, 1) := by decide +kernel
theorem dX6_number_114 : decode cX6_number 114 = .ok (.ireturn, 1) := by decide +kernel
theorem dX6_reads_0 : decode cX6_reads 0 = .ok (.aload_n 0, 1) := by decide +kernel
theorem dX6_reads_1 : decode cX6_reads 1 = .ok (.invokevirtual 241, 3) := by decide +kernel
theorem dX6_reads_4 : decode cX6_reads 4 = .ok (.aload_n 0, 1) := by decide +kernel
theorem dX6_reads_5 : decode cX6_reads 5 = .ok (.ldc 244, 2) := by decide +kernel
theorem dX6_reads_7 : decode cX6_reads 7 = .ok (.invokevirtual 246, 3) := by decide +kernel
theorem dX6_reads_10 : decode cX6_reads 10 = .ok (.ifCond .ne 12, 3) := by decide +kernel
theorem dX6_reads_13 : decode cX6_reads 13 = .ok (.aload_n 0, 1) := by decide +kernel
theorem dX6_reads_14 : decode cX6_reads 14 = .ok (.iconst 1, 1) := by decide +kernel
theorem dX6_reads_15 : decode cX6_reads 15 = .ok (.aload_n 0, 1) := by decide +kernel
theorem dX6_reads_16 : decode cX6_reads 16 = .ok (.getfield 205, 3) := by decide +kernel
theorem dX6_reads_19 : decode cX6_reads 19 = .ok (.invokevirtual 237, 3) := by decide +kernel
theorem dX6_reads_22 : decode cX6_reads 22 = .ok (.aload_n 0, 1) := by decide +kernel
theorem dX6_reads_23 : decode cX6_reads 23 = .ok (.getfield 13, 3) := by decide +kernel
theorem dX6_reads_26 : decode cX6_reads 26 = .ok (.iconst 0, 1) := by decide +kernel
theorem dX6_reads_27 : decode cX6_reads 27 = .ok (.aload_n 0, 1) := by decide +kernel
theorem dX6_reads_28 : decode cX6_reads 28 = .ok (.sipush 200, 3) := by decide +kernel
theorem dX6_reads_31 : decode cX6_reads 31 = .ok (.sipush 600, 3) := by decide +kernel
theorem dX6_reads_34 : decode cX6_reads 34 = .ok (.invokevirtual 250, 3) := by decide +kernel
theorem dX6_reads_37 : decode cX6_reads 37 = .ok (.iastore, 1) := by decide +kernel
theorem dX6_reads_38 : decode cX6_reads 38 = .ok (.aload_n 0, 1) := by decide +kernel
theorem dX6_reads_39 : decode cX6_reads 39 = .ok (.getfield 13, 3) := by decide +kernel
theorem dX6_reads_42 : decode cX6_reads 42 = .ok (.iconst 1, 1) := by decide +kernel
theorem dX6_reads_43 : decode cX6_reads 43 = .ok (.aload_n 0, 1) := by decide +kernel
theorem dX6_reads_44 : decode cX6_reads 44 = .ok (.iconst 5, 1) := by decide +kernel
theorem dX6_reads_45 : decode cX6_reads 45 = .ok (.bipush 20, 2) := by decide +kernel
theorem dX6_reads_47 : decode cX6_reads 47 = .ok (.invokevirtual 250, 3) := by decide +kernel
theorem dX6_reads_50 : decode cX6_reads 50 = .ok (.iastore, 1) := by decide +kernel
theorem dX6_reads_51 : decode cX6_reads 51 = .ok (.aload_n 0, 1) := by decide +kernel
theorem dX6_reads_52 : decode cX6_reads 52 = .ok (.getfield 13, 3) := by decide +kernel
theorem dX6_reads_55 : decode cX6_reads 55 = .ok (.iconst 2, 1) := by decide +kernel
theorem dX6_reads_56 : decode cX6_reads 56 = .ok (.aload_n 0, 1) := by decide +kernel
theorem dX6_reads_57 : decode cX6_reads 57 = .ok (.iconst 5, 1) := by decide +kernel
theorem dX6_reads_58 : decode cX6_reads 58 = .ok (.bipush 49, 2) := by decide +kernel
theorem dX6_reads_60 : decode cX6_reads 60 = .ok (.invokevirtual 250, 3) := by decide +kernel
theorem dX6_reads_63 : decode cX6_reads 63 = .ok (.iastore, 1) := by decide +kernel
theorem dX6_reads_64 : decode cX6_reads 64 = .ok (.iconst 0, 1) := by decide +kernel
theorem dX6_reads_65 : decode cX6_reads 65 = .ok (.istore_n 1, 1) := by decide +kernel
theorem dX6_reads_66 : decode cX6_reads 66 = .ok (.aload_n 0, 1) := by decide +kernel
theorem dX6_reads_67 : decode cX6_reads 67 = .ok (.invokevirtual 230, 3) := by decide +kernel
theorem dX6_reads_70 : decode cX6_reads 70 = .ok (.ifCond .eq 211, 3) := by decide +kernel
theorem dX6_reads_73 : decode cX6_reads 73 = .ok (.aload_n 0, 1) := by decide +kernel
theorem dX6_reads_74 : decode cX6_reads 74 = .ok (.invokevirtual 216, 3) := by decide +kernel
theorem dX6_reads_77 : decode cX6_reads 77 = .ok (.iconst (-1), 1) := by decide +kernel
theorem dX6_reads_78 : decode cX6_reads 78 = .ok (.if_icmp .eq 203, 3) := by decide +kernel
theorem dX6_reads_81 : decode cX6_reads 81 = .ok (.aload_n 0, 1) := by decide +kernel
theorem dX6_reads_82 : decode cX6_reads 82 = .ok (.aload_n 0, 1) := by decide +kernel
theorem dX6_reads_83 : decode cX6_reads 83 = .ok (.getfield 199, 3) := by decide +kernel
theorem dX6_reads_86 : decode cX6_reads 86 = .ok (.invokevirtual 202, 3) := by decide +kernel
theorem dX6_reads_89 : decode cX6_reads 89 = .ok (.bipush 59, 2) := by decide +kernel
theorem dX6_reads_91 : decode cX6_reads 91 = .ok (.if_icmp .eq 13, 3) := by decide +kernel
theorem dX6_reads_94 : decode cX6_reads 94 = .ok (.aload_n 0, 1) := by decide +kernel
theorem dX6_reads_95 : decode cX6_reads 95 = .ok (.iconst 1, 1) := by decide +kernel
theorem dX6_reads_96 : decode cX6_reads 96 = .ok (.aload_n 0, 1) := by decide +kernel
theorem dX6_reads_97 : decode cX6_reads 97 = .ok (.getfield 205, 3) := by decide +kernel
theorem dX6_reads_100 : decode cX6_reads 100 = .ok (.invokevirtual 237, 3) := by decide +kernel
theorem dX6_reads_103 : decode cX6_reads 103 = .ok (.return_, 1) := by decide +kernel
theorem dX6_reads_104 : decode cX6_reads 104 = .ok (.aload_n 0, 1) := by decide +kernel
theorem dX6_reads_105 : decode cX6_reads 105 = .ok (.dup, 1) := by decide +kernel
theorem dX6_reads_106 : decode cX6_reads 106 = .ok (.getfield 199, 3) := by decide +kernel
theorem dX6_reads_109 : decode cX6_reads 109 = .ok (.iconst 1, 1) := by decide +kernel
theorem dX6_reads_110 : decode cX6_reads 110 = .ok (.iadd, 1) := by decide +kernel
theorem dX6_reads_111 : decode cX6_reads 111 = .ok (.putfield 199, 3) := by decide +kernel
theorem dX6_reads_114 : decode cX6_reads 114 = .ok (.aload_n 0, 1) := by decide +kernel
theorem dX6_reads_115 : decode cX6_reads 115 = .ok (.dup, 1) := by decide +kernel
theorem dX6_reads_116 : decode cX6_reads 116 = .ok (.getfield 253, 3) := by decide +kernel
theorem dX6_reads_119 : decode cX6_reads 119 = .ok (.iconst 1, 1) := by decide +kernel
theorem dX6_reads_120 : decode cX6_reads 120 = .ok (.iadd, 1) := by decide +kernel
theorem dX6_reads_121 : decode cX6_reads 121 = .ok (.putfield 253, 3) := by decide +kernel
theorem dX6_reads_124 : decode cX6_reads 124 = .ok (.aload_n 0, 1) := by decide +kernel
theorem dX6_reads_125 : decode cX6_reads 125 = .ok (.invokevirtual 241, 3) := by decide +kernel
theorem dX6_reads_128 : decode cX6_reads 128 = .ok (.aload_n 0, 1) := by decide +kernel
theorem dX6_reads_129 : decode cX6_reads 129 = .ok (.ldc_w 256, 3) := by decide +kernel
theorem dX6_reads_132 : decode cX6_reads 132 = .ok (.invokevirtual 246, 3) := by decide +kernel
theorem dX6_reads_135 : decode cX6_reads 135 = .ok (.ifCond .eq 10, 3) := by decide +kernel
theorem dX6_reads_138 : decode cX6_reads 138 = .ok (.aload_n 0, 1) := by decide +kernel
theorem dX6_reads_139 : decode cX6_reads 139 = .ok (.invokevirtual 258, 3) := by decide +kernel
theorem dX6_reads_142 : decode cX6_reads 142 = .ok (.goto (-76), 3) := by decide +kernel
theorem dX6_reads_145 : decode cX6_reads 145 = .ok (.aload_n 0, 1) := by decide +kernel
theorem dX6_reads_146 : decode cX6_reads 146 = .ok (.ldc_w 261, 3) := by decide +kernel
theorem dX6_reads_149 : decode cX6_reads 149 = .ok (.invokevirtual 246, 3) := by decide +kernel
theorem dX6_reads_152 : decode cX6_reads 152 = .ok (.ifCond .eq 30, 3) := by decide +kernel
theorem dX6_reads_155 : decode cX6_reads 155 = .ok (.aload_n 0, 1) := by decide +kernel
theorem dX6_reads_156 : decode cX6_reads 156 = .ok (.getfield 13, 3) := by decide +kernel
theorem dX6_reads_159 : decode cX6_reads 159 = .ok (.iconst 4, 1) := by decide +kernel
theorem dX6_reads_160 : decode cX6_reads 160 = .ok (.aload_n 0, 1) := by decide +kernel
theorem dX6_reads_161 : decode cX6_reads 161 = .ok (.iconst 0, 1) := by decide +kernel
theorem dX6_reads_162 : decode cX6_reads 162 = .ok (.iconst 2, 1) := by decide +kernel
theorem dX6_reads_163 : decode cX6_reads 163 = .ok (.invokevirtual 250, 3) := by decide +kernel
theorem dX6_reads_166 : decode cX6_reads 166 = .ok (.iastore, 1) := by decide +kernel
theorem dX6_reads_167 : decode cX6_reads 167 = .ok (.aload_n 0, 1) := by decide +kernel
theorem dX6_reads_168 : decode cX6_reads 168 = .ok (.getfield 13, 3) := by decide +kernel
theorem dX6_reads_171 : decode cX6_reads 171 = .ok (.iconst 5, 1) := by decide +kernel
theorem dX6_reads_172 : decode cX6_reads 172 = .ok (.aload_n 0, 1) := by decide +kernel
theorem dX6_reads_173 : decode cX6_reads 173 = .ok (.iconst 0, 1) := by decide +kernel
theorem dX6_reads_174 : decode cX6_reads 174 = .ok (.iconst 3, 1) := by decide +kernel
theorem dX6_reads_175 : decode cX6_reads 175 = .ok (.invokevirtual 250, 3) := by decide +kernel
theorem dX6_reads_178 : decode cX6_reads 178 = .ok (.iastore, 1) := by decide +kernel
theorem dX6_reads_179 : decode cX6_reads 179 = .ok (.goto (-113), 3) := by decide +kernel
theorem dX6_reads_182 : decode cX6_reads 182 = .ok (.aload_n 0, 1) := by decide +kernel
theorem dX6_reads_183 : decode cX6_reads 183 = .ok (.ldc_w 263, 3) := by decide +kernel
theorem dX6_reads_186 : decode cX6_reads 186 = .ok (.invokevirtual 246, 3) := by decide +kernel
theorem dX6_reads_189 : decode cX6_reads 189 = .ok (.ifCond .eq 48, 3) := by decide +kernel
theorem dX6_reads_192 : decode cX6_reads 192 = .ok (.aload_n 0, 1) := by decide +kernel
theorem dX6_reads_193 : decode cX6_reads 193 = .ok (.getfield 13, 3) := by decide +kernel
theorem dX6_reads_196 : decode cX6_reads 196 = .ok (.bipush 6, 2) := by decide +kernel
theorem dX6_reads_198 : decode cX6_reads 198 = .ok (.aload_n 0, 1) := by decide +kernel
theorem dX6_reads_199 : decode cX6_reads 199 = .ok (.iconst 1, 1) := by decide +kernel
theorem dX6_reads_200 : decode cX6_reads 200 = .ok (.bipush 9, 2) := by decide +kernel
theorem dX6_reads_202 : decode cX6_reads 202 = .ok (.invokevirtual 250, 3) := by decide +kernel
theorem dX6_reads_205 : decode cX6_reads 205 = .ok (.iastore, 1) := by decide +kernel
theorem dX6_reads_206 : decode cX6_reads 206 = .ok (.aload_n 0, 1) := by decide +kernel
theorem dX6_reads_207 : decode cX6_reads 207 = .ok (.getfield 13, 3) := by decide +kernel
theorem dX6_reads_210 : decode cX6_reads 210 = .ok (.bipush 7, 2) := by decide +kernel
theorem dX6_reads_212 : decode cX6_reads 212 = .ok (.aload_n 0, 1) := by decide +kernel
theorem dX6_reads_213 : decode cX6_reads 213 = .ok (.iconst 1, 1) := by decide +kernel
theorem dX6_reads_214 : decode cX6_reads 214 = .ok (.bipush 9, 2) := by decide +kernel
theorem dX6_reads_216 : decode cX6_reads 216 = .ok (.invokevirtual 250, 3) := by decide +kernel
theorem dX6_reads_219 : decode cX6_reads 219 = .ok (.iastore, 1) := by decide +kernel
theorem dX6_reads_220 : decode cX6_reads 220 = .ok (.aload_n 0, 1) := by decide +kernel
theorem dX6_reads_221 : decode cX6_reads 221 = .ok (.getfield 13, 3) := by decide +kernel
theorem dX6_reads_224 : decode cX6_reads 224 = .ok (.bipush 8, 2) := by decide +kernel
theorem dX6_reads_226 : decode cX6_reads 226 = .ok (.aload_n 0, 1) := by decide +kernel
theorem dX6_reads_227 : decode cX6_reads 227 = .ok (.iconst 0, 1) := by decide +kernel
theorem dX6_reads_228 : decode cX6_reads 228 = .ok (.bipush 9, 2) := by decide +kernel
theorem dX6_reads_230 : decode cX6_reads 230 = .ok (.invokevirtual 250, 3) := by decide +kernel
theorem dX6_reads_233 : decode cX6_reads 233 = .ok (.iastore, 1) := by decide +kernel
theorem dX6_reads_234 : decode cX6_reads 234 = .ok (.goto (-168), 3) := by decide +kernel
theorem dX6_reads_237 : decode cX6_reads 237 = .ok (.aload_n 0, 1) := by decide +kernel
theorem dX6_reads_238 : decode cX6_reads 238 = .ok (.ldc_w 265, 3) := by decide +kernel
theorem dX6_reads_241 : decode cX6_reads 241 = .ok (.invokevirtual 246, 3) := by decide +kernel
theorem dX6_reads_244 : decode cX6_reads 244 = .ok (.ifCond .eq 25, 3) := by decide +kernel
theorem dX6_reads_247 : decode cX6_reads 247 = .ok (.iload_n 1, 1) := by decide +kernel
theorem dX6_reads_248 : decode cX6_reads 248 = .ok (.ifCond .eq 12, 3) := by decide +kernel
theorem dX6_reads_251 : decode cX6_reads 251 = .ok (.aload_n 0, 1) := by decide +kernel
theorem dX6_reads_252 : decode cX6_reads 252 = .ok (.iconst 3, 1) := by decide +kernel
theorem dX6_reads_253 : decode cX6_reads 253 = .ok (.aload_n 0, 1) := by decide +kernel
theorem dX6_reads_254 : decode cX6_reads 254 = .ok (.getfield 205, 3) := by decide +kernel
theorem dX6_reads_257 : decode cX6_reads 257 = .ok (.invokevirtual 237, 3) := by decide +kernel
theorem dX6_reads_260 : decode cX6_reads 260 = .ok (.iconst 1, 1) := by decide +kernel
theorem dX6_reads_261 : decode cX6_reads 261 = .ok (.istore_n 1, 1) := by decide +kernel
theorem dX6_reads_262 : decode cX6_reads 262 = .ok (.aload_n 0, 1) := by decide +kernel
theorem dX6_reads_263 : decode cX6_reads 263 = .ok (.invokevirtual 267, 3) := by decide +kernel
theorem dX6_reads_266 : decode cX6_reads 266 = .ok (.goto (-200), 3) := by decide +kernel
theorem dX6_reads_269 : decode cX6_reads 269 = .ok (.aload_n 0, 1) := by decide +kernel
theorem dX6_reads_270 : decode cX6_reads 270 = .ok (.iconst 1, 1) := by decide +kernel
theorem dX6_reads_271 : decode cX6_reads 271 = .ok (.aload_n 0, 1) := by decide +kernel
theorem dX6_reads_272 : decode cX6_reads 272 = .ok (.getfield 205, 3) := by decide +kernel
theorem dX6_reads_275 : decode cX6_reads 275 = .ok (.invokevirtual 237, 3) := by decide +kernel
theorem dX6_reads_278 : decode cX6_reads 278 = .ok (.goto (-212), 3) := by decide +kernel
theorem dX6_reads_281 : decode cX6_reads 281 = .ok (.return_, 1) := by decide +kernel
theorem dX6_readsHole_0 : decode cX6_readsHole 0 = .ok (.aload_n 0, 1) := by decide +kernel
theorem dX6_readsHole_1 : decode cX6_readsHole 1 = .ok (.getfield 13, 3) := by decide +kernel
theorem dX6_readsHole_4 : decode cX6_readsHole 4 = .ok (.iconst 3, 1) := by decide +kernel
theorem dX6_readsHole_5 : decode cX6_readsHole 5 = .ok (.iaload, 1) := by decide +kernel
theorem dX6_readsHole_6 : decode cX6_readsHole 6 = .ok (.istore_n 1, 1) := by decide +kernel
theorem dX6_readsHole_7 : decode cX6_readsHole 7 = .ok (.iload_n 1, 1) := by decide +kernel
theorem dX6_readsHole_8 : decode cX6_readsHole 8 = .ok (.bipush 7, 2) := by decide +kernel
theorem dX6_readsHole_10 : decode cX6_readsHole 10 = .ok (.if_icmp .ne 13, 3) := by decide +kernel
theorem dX6_readsHole_13 : decode cX6_readsHole 13 = .ok (.aload_n 0, 1) := by decide +kernel
theorem dX6_readsHole_14 : decode cX6_readsHole 14 = .ok (.iconst 3, 1) := by decide +kernel
theorem dX6_readsHole_15 : decode cX6_readsHole 15 = .ok (.aload_n 0, 1) := by decide +kernel
theorem dX6_readsHole_16 : decode cX6_readsHole 16 = .ok (.getfield 205, 3) := by decide +kernel
theorem dX6_readsHole_19 : decode cX6_readsHole 19 = .ok (.invokevirtual 237, 3) := by decide +kernel
theorem dX6_readsHole_22 : decode cX6_readsHole 22 = .ok (.return_, 1) := by decide +kernel
theorem dX6_readsHole_23 : decode cX6_readsHole 23 = .ok (.iload_n 1, 1) := by decide +kernel
theorem dX6_readsHole_24 : decode cX6_readsHole 24 = .ok (.ifCond .ne 7, 3) := by decide +kernel
theorem dX6_readsHole_27 : decode cX6_readsHole 27 = .ok (.iconst 0, 1) := by decide +kernel
theorem dX6_readsHole_28 : decode cX6_readsHole 28 = .ok (.goto 16, 3) := by decide +kernel
theorem dX6_readsHole_31 : decode cX6_readsHole 31 = .ok (.aload_n 0, 1) := by decide +kernel
theorem dX6_readsHole_32 : decode cX6_readsHole 32 = .ok (.getfield 13, 3) := by decide +kernel
theorem dX6_readsHole_35 : decode cX6_readsHole 35 = .ok (.bipush 13, 2) := by decide +kernel
theorem dX6_readsHole_37 : decode cX6_readsHole 37 = .ok (.iconst 2, 1) := by decide +kernel
theorem dX6_readsHole_38 : decode cX6_readsHole 38 = .ok (.iload_n 1, 1) := by decide +kernel
theorem dX6_readsHole_39 : decode cX6_readsHole 39 = .ok (.imul, 1) := by decide +kernel
theorem dX6_readsHole_40 : decode cX6_readsHole 40 = .ok (.iadd, 1) := by decide +kernel
theorem dX6_readsHole_41 : decode cX6_readsHole 41 = .ok (.iconst 2, 1) := by decide +kernel
theorem dX6_readsHole_42 : decode cX6_readsHole 42 = .ok (.isub, 1) := by decide +kernel
theorem dX6_readsHole_43 : decode cX6_readsHole 43 = .ok (.iaload, 1) := by decide +kernel
theorem dX6_readsHole_44 : decode cX6_readsHole 44 = .ok (.istore_n 2, 1) := by decide +kernel
theorem dX6_readsHole_45 : decode cX6_readsHole 45 = .ok (.aload_n 0, 1) := by decide +kernel
theorem dX6_readsHole_46 : decode cX6_readsHole 46 = .ok (.getfield 13, 3) := by decide +kernel
theorem dX6_readsHole_49 : decode cX6_readsHole 49 = .ok (.bipush 13, 2) := by decide +kernel
theorem dX6_readsHole_51 : decode cX6_readsHole 51 = .ok (.iconst 2, 1) := by decide +kernel
theorem dX6_readsHole_52 : decode cX6_readsHole 52 = .ok (.iload_n 1, 1) := by decide +kernel
theorem dX6_readsHole_53 : decode cX6_readsHole 53 = .ok (.imul, 1) := by decide +kernel
theorem dX6_readsHole_54 : decode cX6_readsHole 54 = .ok (.iadd, 1) := by decide +kernel
theorem dX6_readsHole_55 : decode cX6_readsHole 55 = .ok (.aload_n 0, 1) := by decide +kernel
theorem dX6_readsHole_56 : decode cX6_readsHole 56 = .ok (.iload_n 2, 1) := by decide +kernel
theorem dX6_readsHole_57 : decode cX6_readsHole 57 = .ok (.iconst 1, 1) := by decide +kernel
theorem dX6_readsHole_58 : decode cX6_readsHole 58 = .ok (.iadd, 1) := by decide +kernel
theorem dX6_readsHole_59 : decode cX6_readsHole 59 = .ok (.aload_n 0, 1) := by decide +kernel
theorem dX6_readsHole_60 : decode cX6_readsHole 60 = .ok (.getfield 13, 3) := by decide +kernel
theorem dX6_readsHole_63 : decode cX6_readsHole 63 = .ok (.iconst 0, 1) := by decide +kernel
theorem dX6_readsHole_64 : decode cX6_readsHole 64 = .ok (.iaload, 1) := by decide +kernel
theorem dX6_readsHole_65 : decode cX6_readsHole 65 = .ok (.iconst 1, 1) := by decide +kernel
theorem dX6_readsHole_66 : decode cX6_readsHole 66 = .ok (.isub, 1) := by decide +kernel
theorem dX6_readsHole_67 : decode cX6_readsHole 67 = .ok (.invokevirtual 250, 3) := by decide +kernel
theorem dX6_readsHole_70 : decode cX6_readsHole 70 = .ok (.iastore, 1) := by decide +kernel
theorem dX6_readsHole_71 : decode cX6_readsHole 71 = .ok (.aload_n 0, 1) := by decide +kernel
theorem dX6_readsHole_72 : decode cX6_readsHole 72 = .ok (.getfield 13, 3) := by decide +kernel
theorem dX6_readsHole_75 : decode cX6_readsHole 75 = .ok (.bipush 13, 2) := by decide +kernel
theorem dX6_readsHole_77 : decode cX6_readsHole 77 = .ok (.iconst 2, 1) := by decide +kernel
theorem dX6_readsHole_78 : decode cX6_readsHole 78 = .ok (.iload_n 1, 1) := by decide +kernel
theorem dX6_readsHole_79 : decode cX6_readsHole 79 = .ok (.imul, 1) := by decide +kernel
theorem dX6_readsHole_80 : decode cX6_readsHole 80 = .ok (.iadd, 1) := by decide +kernel
theorem dX6_readsHole_81 : decode cX6_readsHole 81 = .ok (.iconst 1, 1) := by decide +kernel
theorem dX6_readsHole_82 : decode cX6_readsHole 82 = .ok (.iadd, 1) := by decide +kernel
theorem dX6_readsHole_83 : decode cX6_readsHole 83 = .ok (.aload_n 0, 1) := by decide +kernel
theorem dX6_readsHole_84 : decode cX6_readsHole 84 = .ok (.iconst 2, 1) := by decide +kernel
theorem dX6_readsHole_85 : decode cX6_readsHole 85 = .ok (.bipush 15, 2) := by decide +kernel
theorem dX6_readsHole_87 : decode cX6_readsHole 87 = .ok (.invokevirtual 250, 3) := by decide +kernel
theorem dX6_readsHole_90 : decode cX6_readsHole 90 = .ok (.iastore, 1) := by decide +kernel
theorem dX6_readsHole_91 : decode cX6_readsHole 91 = .ok (.aload_n 0, 1) := by decide +kernel
theorem dX6_readsHole_92 : decode cX6_readsHole 92 = .ok (.getfield 13, 3) := by decide +kernel
theorem dX6_readsHole_95 : decode cX6_readsHole 95 = .ok (.iconst 3, 1) := by decide +kernel
theorem dX6_readsHole_96 : decode cX6_readsHole 96 = .ok (.dup2, 1) := by decide +kernel
theorem dX6_readsHole_97 : decode cX6_readsHole 97 = .ok (.iaload, 1) := by decide +kernel
theorem dX6_readsHole_98 : decode cX6_readsHole 98 = .ok (.iconst 1, 1) := by decide +kernel
theorem dX6_readsHole_99 : decode cX6_readsHole 99 = .ok (.iadd, 1) := by decide +kernel
theorem dX6_readsHole_100 : decode cX6_readsHole 100 = .ok (.iastore, 1) := by decide +kernel
theorem dX6_readsHole_101 : decode cX6_readsHole 101 = .ok (.return_, 1) := by decide +kernel
theorem dX6_notes_0 : decode cX6_notes 0 = .ok (.aload_n 0, 1) := by decide +kernel
theorem dX6_notes_1 : decode cX6_notes 1 = .ok (.invokevirtual 230, 3) := by decide +kernel
theorem dX6_notes_4 : decode cX6_notes 4 = .ok (.ifCond .ne 4, 3) := by decide +kernel
theorem dX6_notes_7 : decode cX6_notes 7 = .ok (.return_, 1) := by decide +kernel
theorem dX6_notes_8 : decode cX6_notes 8 = .ok (.aload_n 0, 1) := by decide +kernel
theorem dX6_notes_9 : decode cX6_notes 9 = .ok (.getfield 13, 3) := by decide +kernel
theorem dX6_notes_12 : decode cX6_notes 12 = .ok (.bipush 9, 2) := by decide +kernel
theorem dX6_notes_14 : decode cX6_notes 14 = .ok (.iaload, 1) := by decide +kernel
theorem dX6_notes_15 : decode cX6_notes 15 = .ok (.bipush 40, 2) := by decide +kernel
theorem dX6_notes_17 : decode cX6_notes 17 = .ok (.if_icmp .ne 13, 3) := by decide +kernel
theorem dX6_notes_20 : decode cX6_notes 20 = .ok (.aload_n 0, 1) := by decide +kernel
theorem dX6_notes_21 : decode cX6_notes 21 = .ok (.iconst 4, 1) := by decide +kernel
theorem dX6_notes_22 : decode cX6_notes 22 = .ok (.aload_n 0, 1) := by decide +kernel
theorem dX6_notes_23 : decode cX6_notes 23 = .ok (.getfield 205, 3) := by decide +kernel
theorem dX6_notes_26 : decode cX6_notes 26 = .ok (.invokevirtual 237, 3) := by decide +kernel
theorem dX6_notes_29 : decode cX6_notes 29 = .ok (.return_, 1) := by decide +kernel
theorem dX6_notes_30 : decode cX6_notes 30 = .ok (.aload_n 0, 1) := by decide +kernel
theorem dX6_notes_31 : decode cX6_notes 31 = .ok (.getfield 13, 3) := by decide +kernel
theorem dX6_notes_34 : decode cX6_notes 34 = .ok (.bipush 27, 2) := by decide +kernel
theorem dX6_notes_36 : decode cX6_notes 36 = .ok (.aload_n 0, 1) := by decide +kernel
theorem dX6_notes_37 : decode cX6_notes 37 = .ok (.getfield 13, 3) := by decide +kernel
theorem dX6_notes_40 : decode cX6_notes 40 = .ok (.bipush 9, 2) := by decide +kernel
theorem dX6_notes_42 : decode cX6_notes 42 = .ok (.iaload, 1) := by decide +kernel
theorem dX6_notes_43 : decode cX6_notes 43 = .ok (.iadd, 1) := by decide +kernel
theorem dX6_notes_44 : decode cX6_notes 44 = .ok (.iload_n 1, 1) := by decide +kernel
theorem dX6_notes_45 : decode cX6_notes 45 = .ok (.iastore, 1) := by decide +kernel
theorem dX6_notes_46 : decode cX6_notes 46 = .ok (.aload_n 0, 1) := by decide +kernel
theorem dX6_notes_47 : decode cX6_notes 47 = .ok (.getfield 13, 3) := by decide +kernel
theorem dX6_notes_50 : decode cX6_notes 50 = .ok (.bipush 9, 2) := by decide +kernel
theorem dX6_notes_52 : decode cX6_notes 52 = .ok (.dup2, 1) := by decide +kernel
theorem dX6_notes_53 : decode cX6_notes 53 = .ok (.iaload, 1) := by decide +kernel
theorem dX6_notes_54 : decode cX6_notes 54 = .ok (.iconst 1, 1) := by decide +kernel
theorem dX6_notes_55 : decode cX6_notes 55 = .ok (.iadd, 1) := by decide +kernel
theorem dX6_notes_56 : decode cX6_notes 56 = .ok (.iastore, 1) := by decide +kernel
theorem dX6_notes_57 : decode cX6_notes 57 = .ok (.return_, 1) := by decide +kernel
theorem dX6_repeats_0 : decode cX6_repeats 0 = .ok (.aload_n 0, 1) := by decide +kernel
theorem dX6_repeats_1 : decode cX6_repeats 1 = .ok (.iconst 1, 1) := by decide +kernel
theorem dX6_repeats_2 : decode cX6_repeats 2 = .ok (.bipush 9, 2) := by decide +kernel
theorem dX6_repeats_4 : decode cX6_repeats 4 = .ok (.invokevirtual 250, 3) := by decide +kernel
theorem dX6_repeats_7 : decode cX6_repeats 7 = .ok (.istore_n 2, 1) := by decide +kernel
theorem dX6_repeats_8 : decode cX6_repeats 8 = .ok (.aload_n 0, 1) := by decide +kernel
theorem dX6_repeats_9 : decode cX6_repeats 9 = .ok (.getfield 13, 3) := by decide +kernel
theorem dX6_repeats_12 : decode cX6_repeats 12 = .ok (.bipush 9, 2) := by decide +kernel
theorem dX6_repeats_14 : decode cX6_repeats 14 = .ok (.iaload, 1) := by decide +kernel
theorem dX6_repeats_15 : decode cX6_repeats 15 = .ok (.iload_n 1, 1) := by decide +kernel
theorem dX6_repeats_16 : decode cX6_repeats 16 = .ok (.isub, 1) := by decide +kernel
theorem dX6_repeats_17 : decode cX6_repeats 17 = .ok (.istore_n 3, 1) := by decide +kernel
theorem dX6_repeats_18 : decode cX6_repeats 18 = .ok (.aload_n 0, 1) := by decide +kernel
theorem dX6_repeats_19 : decode cX6_repeats 19 = .ok (.invokevirtual 230, 3) := by decide +kernel
theorem dX6_repeats_22 : decode cX6_repeats 22 = .ok (.ifCond .ne 4, 3) := by decide +kernel
theorem dX6_repeats_25 : decode cX6_repeats 25 = .ok (.return_, 1) := by decide +kernel
theorem dX6_repeats_26 : decode cX6_repeats 26 = .ok (.aload_n 0, 1) := by decide +kernel
theorem dX6_repeats_27 : decode cX6_repeats 27 = .ok (.getfield 13, 3) := by decide +kernel
theorem dX6_repeats_30 : decode cX6_repeats 30 = .ok (.bipush 9, 2) := by decide +kernel
theorem dX6_repeats_32 : decode cX6_repeats 32 = .ok (.iaload, 1) := by decide +kernel
theorem dX6_repeats_33 : decode cX6_repeats 33 = .ok (.iload_n 2, 1) := by decide +kernel
theorem dX6_repeats_34 : decode cX6_repeats 34 = .ok (.iconst 1, 1) := by decide +kernel
theorem dX6_repeats_35 : decode cX6_repeats 35 = .ok (.isub, 1) := by decide +kernel
theorem dX6_repeats_36 : decode cX6_repeats 36 = .ok (.iload_n 3, 1) := by decide +kernel
theorem dX6_repeats_37 : decode cX6_repeats 37 = .ok (.imul, 1) := by decide +kernel
theorem dX6_repeats_38 : decode cX6_repeats 38 = .ok (.iadd, 1) := by decide +kernel
theorem dX6_repeats_39 : decode cX6_repeats 39 = .ok (.bipush 40, 2) := by decide +kernel
theorem dX6_repeats_41 : decode cX6_repeats 41 = .ok (.if_icmp .le 13, 3) := by decide +kernel
theorem dX6_repeats_44 : decode cX6_repeats 44 = .ok (.aload_n 0, 1) := by decide +kernel
theorem dX6_repeats_45 : decode cX6_repeats 45 = .ok (.iconst 4, 1) := by decide +kernel
theorem dX6_repeats_46 : decode cX6_repeats 46 = .ok (.aload_n 0, 1) := by decide +kernel
theorem dX6_repeats_47 : decode cX6_repeats 47 = .ok (.getfield 205, 3) := by decide +kernel
theorem dX6_repeats_50 : decode cX6_repeats 50 = .ok (.invokevirtual 237, 3) := by decide +kernel
theorem dX6_repeats_53 : decode cX6_repeats 53 = .ok (.return_, 1) := by decide +kernel
theorem dX6_repeats_54 : decode cX6_repeats 54 = .ok (.iconst 0, 1) := by decide +kernel
theorem dX6_repeats_55 : decode cX6_repeats 55 = .ok (.istore 4, 2) := by decide +kernel
theorem dX6_repeats_57 : decode cX6_repeats 57 = .ok (.iload 4, 2) := by decide +kernel
theorem dX6_repeats_59 : decode cX6_repeats 59 = .ok (.iload_n 2, 1) := by decide +kernel
theorem dX6_repeats_60 : decode cX6_repeats 60 = .ok (.iconst 1, 1) := by decide +kernel
theorem dX6_repeats_61 : decode cX6_repeats 61 = .ok (.isub, 1) := by decide +kernel
theorem dX6_repeats_62 : decode cX6_repeats 62 = .ok (.iload_n 3, 1) := by decide +kernel
theorem dX6_repeats_63 : decode cX6_repeats 63 = .ok (.imul, 1) := by decide +kernel
theorem dX6_repeats_64 : decode cX6_repeats 64 = .ok (.if_icmp .ge 52, 3) := by decide +kernel
theorem dX6_repeats_67 : decode cX6_repeats 67 = .ok (.aload_n 0, 1) := by decide +kernel
theorem dX6_repeats_68 : decode cX6_repeats 68 = .ok (.getfield 13, 3) := by decide +kernel
theorem dX6_repeats_71 : decode cX6_repeats 71 = .ok (.bipush 27, 2) := by decide +kernel
theorem dX6_repeats_73 : decode cX6_repeats 73 = .ok (.aload_n 0, 1) := by decide +kernel
theorem dX6_repeats_74 : decode cX6_repeats 74 = .ok (.getfield 13, 3) := by decide +kernel
theorem dX6_repeats_77 : decode cX6_repeats 77 = .ok (.bipush 9, 2) := by decide +kernel
theorem dX6_repeats_79 : decode cX6_repeats 79 = .ok (.iaload, 1) := by decide +kernel
theorem dX6_repeats_80 : decode cX6_repeats 80 = .ok (.iadd, 1) := by decide +kernel
theorem dX6_repeats_81 : decode cX6_repeats 81 = .ok (.aload_n 0, 1) := by decide +kernel
theorem dX6_repeats_82 : decode cX6_repeats 82 = .ok (.getfield 13, 3) := by decide +kernel
theorem dX6_repeats_85 : decode cX6_repeats 85 = .ok (.bipush 27, 2) := by decide +kernel
theorem dX6_repeats_87 : decode cX6_repeats 87 = .ok (.aload_n 0, 1) := by decide +kernel
theorem dX6_repeats_88 : decode cX6_repeats 88 = .ok (.getfield 13, 3) := by decide +kernel
theorem dX6_repeats_91 : decode cX6_repeats 91 = .ok (.bipush 9, 2) := by decide +kernel
theorem dX6_repeats_93 : decode cX6_repeats 93 = .ok (.iaload, 1) := by decide +kernel
theorem dX6_repeats_94 : decode cX6_repeats 94 = .ok (.iadd, 1) := by decide +kernel
theorem dX6_repeats_95 : decode cX6_repeats 95 = .ok (.iload_n 3, 1) := by decide +kernel
theorem dX6_repeats_96 : decode cX6_repeats 96 = .ok (.isub, 1) := by decide +kernel
theorem dX6_repeats_97 : decode cX6_repeats 97 = .ok (.iaload, 1) := by decide +kernel
theorem dX6_repeats_98 : decode cX6_repeats 98 = .ok (.iastore, 1) := by decide +kernel
theorem dX6_repeats_99 : decode cX6_repeats 99 = .ok (.aload_n 0, 1) := by decide +kernel
theorem dX6_repeats_100 : decode cX6_repeats 100 = .ok (.getfield 13, 3) := by decide +kernel
theorem dX6_repeats_103 : decode cX6_repeats 103 = .ok (.bipush 9, 2) := by decide +kernel
theorem dX6_repeats_105 : decode cX6_repeats 105 = .ok (.dup2, 1) := by decide +kernel
theorem dX6_repeats_106 : decode cX6_repeats 106 = .ok (.iaload, 1) := by decide +kernel
theorem dX6_repeats_107 : decode cX6_repeats 107 = .ok (.iconst 1, 1) := by decide +kernel
theorem dX6_repeats_108 : decode cX6_repeats 108 = .ok (.iadd, 1) := by decide +kernel
theorem dX6_repeats_109 : decode cX6_repeats 109 = .ok (.iastore, 1) := by decide +kernel
theorem dX6_repeats_110 : decode cX6_repeats 110 = .ok (.iinc 4 1, 3) := by decide +kernel
theorem dX6_repeats_113 : decode cX6_repeats 113 = .ok (.goto (-56), 3) := by decide +kernel
theorem dX6_repeats_116 : decode cX6_repeats 116 = .ok (.return_, 1) := by decide +kernel
theorem dX6_readsTune_0 : decode cX6_readsTune 0 = .ok (.iconst 0, 1) := by decide +kernel
theorem dX6_readsTune_1 : decode cX6_readsTune 1 = .ok (.istore_n 1, 1) := by decide +kernel
theorem dX6_readsTune_2 : decode cX6_readsTune 2 = .ok (.iconst 1, 1) := by decide +kernel
theorem dX6_readsTune_3 : decode cX6_readsTune 3 = .ok (.istore_n 2, 1) := by decide +kernel
theorem dX6_readsTune_4 : decode cX6_readsTune 4 = .ok (.iconst 1, 1) := by decide +kernel
theorem dX6_readsTune_5 : decode cX6_readsTune 5 = .ok (.istore_n 3, 1) := by decide +kernel
theorem dX6_readsTune_6 : decode cX6_readsTune 6 = .ok (.iload_n 3, 1) := by decide +kernel
theorem dX6_readsTune_7 : decode cX6_readsTune 7 = .ok (.ifCond .eq 201, 3) := by decide +kernel
theorem dX6_readsTune_10 : decode cX6_readsTune 10 = .ok (.aload_n 0, 1) := by decide +kernel
theorem dX6_readsTune_11 : decode cX6_readsTune 11 = .ok (.invokevirtual 230, 3) := by decide +kernel
theorem dX6_readsTune_14 : decode cX6_readsTune 14 = .ok (.ifCond .eq 194, 3) := by decide +kernel
theorem dX6_readsTune_17 : decode cX6_readsTune 17 = .ok (.aload_n 0, 1) := by decide +kernel
theorem dX6_readsTune_18 : decode cX6_readsTune 18 = .ok (.invokevirtual 216, 3) := by decide +kernel
theorem dX6_readsTune_21 : decode cX6_readsTune 21 = .ok (.istore 4, 2) := by decide +kernel
theorem dX6_readsTune_23 : decode cX6_readsTune 23 = .ok (.iload 4, 2) := by decide +kernel
theorem dX6_readsTune_25 : decode cX6_readsTune 25 = .ok (.invokestatic 234, 3) := by decide +kernel
theorem dX6_readsTune_28 : decode cX6_readsTune 28 = .ok (.ifCond .eq 23, 3) := by decide +kernel
theorem dX6_readsTune_31 : decode cX6_readsTune 31 = .ok (.aload_n 0, 1) := by decide +kernel
theorem dX6_readsTune_32 : decode cX6_readsTune 32 = .ok (.iconst 0, 1) := by decide +kernel
theorem dX6_readsTune_33 : decode cX6_readsTune 33 = .ok (.bipush 24, 2) := by decide +kernel
theorem dX6_readsTune_35 : decode cX6_readsTune 35 = .ok (.invokevirtual 250, 3) := by decide +kernel
theorem dX6_readsTune_38 : decode cX6_readsTune 38 = .ok (.istore 5, 2) := by decide +kernel
theorem dX6_readsTune_40 : decode cX6_readsTune 40 = .ok (.aload_n 0, 1) := by decide +kernel
theorem dX6_readsTune_41 : decode cX6_readsTune 41 = .ok (.iload 5, 2) := by decide +kernel
theorem dX6_readsTune_43 : decode cX6_readsTune 43 = .ok (.invokevirtual 270, 3) := by decide +kernel
theorem dX6_readsTune_46 : decode cX6_readsTune 46 = .ok (.iconst 0, 1) := by decide +kernel
theorem dX6_readsTune_47 : decode cX6_readsTune 47 = .ok (.istore_n 2, 1) := by decide +kernel
theorem dX6_readsTune_48 : decode cX6_readsTune 48 = .ok (.goto 157, 3) := by decide +kernel
theorem dX6_readsTune_51 : decode cX6_readsTune 51 = .ok (.iload 4, 2) := by decide +kernel
theorem dX6_readsTune_53 : decode cX6_readsTune 53 = .ok (.invokestatic 219, 3) := by decide +kernel
theorem dX6_readsTune_56 : decode cX6_readsTune 56 = .ok (.ifCond .eq 36, 3) := by decide +kernel
theorem dX6_readsTune_59 : decode cX6_readsTune 59 = .ok (.aload_n 0, 1) := by decide +kernel
theorem dX6_readsTune_60 : decode cX6_readsTune 60 = .ok (.invokevirtual 241, 3) := by decide +kernel
theorem dX6_readsTune_63 : decode cX6_readsTune 63 = .ok (.aload_n 0, 1) := by decide +kernel
theorem dX6_readsTune_64 : decode cX6_readsTune 64 = .ok (.ldc_w 273, 3) := by decide +kernel
theorem dX6_readsTune_67 : decode cX6_readsTune 67 = .ok (.invokevirtual 246, 3) := by decide +kernel
theorem dX6_readsTune_70 : decode cX6_readsTune 70 = .ok (.ifCond .ne 12, 3) := by decide +kernel
theorem dX6_readsTune_73 : decode cX6_readsTune 73 = .ok (.aload_n 0, 1) := by decide +kernel
theorem dX6_readsTune_74 : decode cX6_readsTune 74 = .ok (.iconst 1, 1) := by decide +kernel
theorem dX6_readsTune_75 : decode cX6_readsTune 75 = .ok (.aload_n 0, 1) := by decide +kernel
theorem dX6_readsTune_76 : decode cX6_readsTune 76 = .ok (.getfield 205, 3) := by decide +kernel
theorem dX6_readsTune_79 : decode cX6_readsTune 79 = .ok (.invokevirtual 237, 3) := by decide +kernel
theorem dX6_readsTune_82 : decode cX6_readsTune 82 = .ok (.aload_n 0, 1) := by decide +kernel
theorem dX6_readsTune_83 : decode cX6_readsTune 83 = .ok (.iconst (-1), 1) := by decide +kernel
theorem dX6_readsTune_84 : decode cX6_readsTune 84 = .ok (.invokevirtual 270, 3) := by decide +kernel
theorem dX6_readsTune_87 : decode cX6_readsTune 87 = .ok (.iconst 0, 1) := by decide +kernel
theorem dX6_readsTune_88 : decode cX6_readsTune 88 = .ok (.istore_n 2, 1) := by decide +kernel
theorem dX6_readsTune_89 : decode cX6_readsTune 89 = .ok (.goto 116, 3) := by decide +kernel
theorem dX6_readsTune_92 : decode cX6_readsTune 92 = .ok (.iload 4, 2) := by decide +kernel
theorem dX6_readsTune_94 : decode cX6_readsTune 94 = .ok (.bipush 40, 2) := by decide +kernel
theorem dX6_readsTune_96 : decode cX6_readsTune 96 = .ok (.if_icmp .ne 49, 3) := by decide +kernel
theorem dX6_readsTune_99 : decode cX6_readsTune 99 = .ok (.iload_n 1, 1) := by decide +kernel
theorem dX6_readsTune_100 : decode cX6_readsTune 100 = .ok (.iconst 4, 1) := by decide +kernel
theorem dX6_readsTune_101 : decode cX6_readsTune 101 = .ok (.if_icmp .ne 13, 3) := by decide +kernel
theorem dX6_readsTune_104 : decode cX6_readsTune 104 = .ok (.aload_n 0, 1) := by decide +kernel
theorem dX6_readsTune_105 : decode cX6_readsTune 105 = .ok (.iconst 3, 1) := by decide +kernel
theorem dX6_readsTune_106 : decode cX6_readsTune 106 = .ok (.aload_n 0, 1) := by decide +kernel
theorem dX6_readsTune_107 : decode cX6_readsTune 107 = .ok (.getfield 205, 3) := by decide +kernel
theorem dX6_readsTune_110 : decode cX6_readsTune 110 = .ok (.invokevirtual 237, 3) := by decide +kernel
theorem dX6_readsTune_113 : decode cX6_readsTune 113 = .ok (.return_, 1) := by decide +kernel
theorem dX6_readsTune_114 : decode cX6_readsTune 114 = .ok (.aload_n 0, 1) := by decide +kernel
theorem dX6_readsTune_115 : decode cX6_readsTune 115 = .ok (.getfield 56, 3) := by decide +kernel
theorem dX6_readsTune_118 : decode cX6_readsTune 118 = .ok (.iload_n 1, 1) := by decide +kernel
theorem dX6_readsTune_119 : decode cX6_readsTune 119 = .ok (.aload_n 0, 1) := by decide +kernel
theorem dX6_readsTune_120 : decode cX6_readsTune 120 = .ok (.getfield 13, 3) := by decide +kernel
theorem dX6_readsTune_123 : decode cX6_readsTune 123 = .ok (.bipush 9, 2) := by decide +kernel
theorem dX6_readsTune_125 : decode cX6_readsTune 125 = .ok (.iaload, 1) := by decide +kernel
theorem dX6_readsTune_126 : decode cX6_readsTune 126 = .ok (.iastore, 1) := by decide +kernel
theorem dX6_readsTune_127 : decode cX6_readsTune 127 = .ok (.iinc 1 1, 3) := by decide +kernel
theorem dX6_readsTune_130 : decode cX6_readsTune 130 = .ok (.aload_n 0, 1) := by decide +kernel
theorem dX6_readsTune_131 : decode cX6_readsTune 131 = .ok (.dup, 1) := by decide +kernel
theorem dX6_readsTune_132 : decode cX6_readsTune 132 = .ok (.getfield 199, 3) := by decide +kernel
theorem dX6_readsTune_135 : decode cX6_readsTune 135 = .ok (.iconst 1, 1) := by decide +kernel
theorem dX6_readsTune_136 : decode cX6_readsTune 136 = .ok (.iadd, 1) := by decide +kernel
theorem dX6_readsTune_137 : decode cX6_readsTune 137 = .ok (.putfield 199, 3) := by decide +kernel
theorem dX6_readsTune_140 : decode cX6_readsTune 140 = .ok (.iconst 1, 1) := by decide +kernel
theorem dX6_readsTune_141 : decode cX6_readsTune 141 = .ok (.istore_n 2, 1) := by decide +kernel
theorem dX6_readsTune_142 : decode cX6_readsTune 142 = .ok (.goto 63, 3) := by decide +kernel
theorem dX6_readsTune_145 : decode cX6_readsTune 145 = .ok (.iload 4, 2) := by decide +kernel
theorem dX6_readsTune_147 : decode cX6_readsTune 147 = .ok (.bipush 41, 2) := by decide +kernel
theorem dX6_readsTune_149 : decode cX6_readsTune 149 = .ok (.if_icmp .ne 37, 3) := by decide +kernel
theorem dX6_readsTune_152 : decode cX6_readsTune 152 = .ok (.iload_n 1, 1) := by decide +kernel
theorem dX6_readsTune_153 : decode cX6_readsTune 153 = .ok (.ifCond .le 33, 3) := by decide +kernel
theorem dX6_readsTune_156 : decode cX6_readsTune 156 = .ok (.iload_n 2, 1) := by decide +kernel
theorem dX6_readsTune_157 : decode cX6_readsTune 157 = .ok (.ifCond .ne 29, 3) := by decide +kernel
theorem dX6_readsTune_160 : decode cX6_readsTune 160 = .ok (.aload_n 0, 1) := by decide +kernel
theorem dX6_readsTune_161 : decode cX6_readsTune 161 = .ok (.dup, 1) := by decide +kernel
theorem dX6_readsTune_162 : decode cX6_readsTune 162 = .ok (.getfield 199, 3) := by decide +kernel
theorem dX6_readsTune_165 : decode cX6_readsTune 165 = .ok (.iconst 1, 1) := by decide +kernel
theorem dX6_readsTune_166 : decode cX6_readsTune 166 = .ok (.iadd, 1) := by decide +kernel
theorem dX6_readsTune_167 : decode cX6_readsTune 167 = .ok (.putfield 199, 3) := by decide +kernel
theorem dX6_readsTune_170 : decode cX6_readsTune 170 = .ok (.iinc 1 (-1), 3) := by decide +kernel
theorem dX6_readsTune_173 : decode cX6_readsTune 173 = .ok (.aload_n 0, 1) := by decide +kernel
theorem dX6_readsTune_174 : decode cX6_readsTune 174 = .ok (.aload_n 0, 1) := by decide +kernel
theorem dX6_readsTune_175 : decode cX6_readsTune 175 = .ok (.getfield 56, 3) := by decide +kernel
theorem dX6_readsTune_178 : decode cX6_readsTune 178 = .ok (.iload_n 1, 1) := by decide +kernel
theorem dX6_readsTune_179 : decode cX6_readsTune 179 = .ok (.iaload, 1) := by decide +kernel
theorem dX6_readsTune_180 : decode cX6_readsTune 180 = .ok (.invokevirtual 274, 3) := by decide +kernel
theorem dX6_readsTune_183 : decode cX6_readsTune 183 = .ok (.goto 22, 3) := by decide +kernel
theorem dX6_readsTune_186 : decode cX6_readsTune 186 = .ok (.iload_n 2, 1) := by decide +kernel
theorem dX6_readsTune_187 : decode cX6_readsTune 187 = .ok (.ifCond .ne 7, 3) := by decide +kernel
theorem dX6_readsTune_190 : decode cX6_readsTune 190 = .ok (.iload_n 1, 1) := by decide +kernel
theorem dX6_readsTune_191 : decode cX6_readsTune 191 = .ok (.ifCond .le 12, 3) := by decide +kernel
theorem dX6_readsTune_194 : decode cX6_readsTune 194 = .ok (.aload_n 0, 1) := by decide +kernel
theorem dX6_readsTune_195 : decode cX6_readsTune 195 = .ok (.iconst 1, 1) := by decide +kernel
theorem dX6_readsTune_196 : decode cX6_readsTune 196 = .ok (.aload_n 0, 1) := by decide +kernel
theorem dX6_readsTune_197 : decode cX6_readsTune 197 = .ok (.getfield 205, 3) := by decide +kernel
theorem dX6_readsTune_200 : decode cX6_readsTune 200 = .ok (.invokevirtual 237, 3) := by decide +kernel
theorem dX6_readsTune_203 : decode cX6_readsTune 203 = .ok (.iconst 0, 1) := by decide +kernel
