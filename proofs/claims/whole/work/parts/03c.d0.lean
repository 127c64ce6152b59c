theorem dX0_init_0 : decode cX0_init 0 = .ok (.aload_n 0, 1) := by decide +kernel
theorem dX0_init_1 : decode cX0_init 1 = .ok (.invokespecial 3, 3) := by decide +kernel
theorem dX0_init_4 : decode cX0_init 4 = .ok (.aload_n 0, 1) := by decide +kernel
theorem dX0_init_5 : decode cX0_init 5 = .ok (.bipush 26, 2) := by decide +kernel
theorem dX0_init_7 : decode cX0_init 7 = .ok (.newarray .int, 2) := by decide +kernel
theorem dX0_init_9 : decode cX0_init 9 = .ok (.putfield 9, 3) := by decide +kernel
theorem dX0_init_12 : decode cX0_init 12 = .ok (.aload_n 0, 1) := by decide +kernel
theorem dX0_init_13 : decode cX0_init 13 = .ok (.bipush 25, 2) := by decide +kernel
theorem dX0_init_15 : decode cX0_init 15 = .ok (.newarray .int, 2) := by decide +kernel
theorem dX0_init_17 : decode cX0_init 17 = .ok (.putfield 15, 3) := by decide +kernel
theorem dX0_init_20 : decode cX0_init 20 = .ok (.aload_n 0, 1) := by decide +kernel
theorem dX0_init_21 : decode cX0_init 21 = .ok (.bipush 25, 2) := by decide +kernel
theorem dX0_init_23 : decode cX0_init 23 = .ok (.newarray .int, 2) := by decide +kernel
theorem dX0_init_25 : decode cX0_init 25 = .ok (.putfield 18, 3) := by decide +kernel
theorem dX0_init_28 : decode cX0_init 28 = .ok (.aload_n 0, 1) := by decide +kernel
theorem dX0_init_29 : decode cX0_init 29 = .ok (.bipush 25, 2) := by decide +kernel
theorem dX0_init_31 : decode cX0_init 31 = .ok (.newarray .int, 2) := by decide +kernel
theorem dX0_init_33 : decode cX0_init 33 = .ok (.putfield 21, 3) := by decide +kernel
theorem dX0_init_36 : decode cX0_init 36 = .ok (.aload_n 0, 1) := by decide +kernel
theorem dX0_init_37 : decode cX0_init 37 = .ok (.iconst 2, 1) := by decide +kernel
theorem dX0_init_38 : decode cX0_init 38 = .ok (.newarray .int, 2) := by decide +kernel
theorem dX0_init_40 : decode cX0_init 40 = .ok (.putfield 24, 3) := by decide +kernel
theorem dX0_init_43 : decode cX0_init 43 = .ok (.aload_n 0, 1) := by decide +kernel
theorem dX0_init_44 : decode cX0_init 44 = .ok (.iconst 2, 1) := by decide +kernel
theorem dX0_init_45 : decode cX0_init 45 = .ok (.newarray .int, 2) := by decide +kernel
theorem dX0_init_47 : decode cX0_init 47 = .ok (.putfield 27, 3) := by decide +kernel
theorem dX0_init_50 : decode cX0_init 50 = .ok (.aload_n 0, 1) := by decide +kernel
theorem dX0_init_51 : decode cX0_init 51 = .ok (.iconst 2, 1) := by decide +kernel
theorem dX0_init_52 : decode cX0_init 52 = .ok (.newarray .int, 2) := by decide +kernel
theorem dX0_init_54 : decode cX0_init 54 = .ok (.putfield 30, 3) := by decide +kernel
theorem dX0_init_57 : decode cX0_init 57 = .ok (.return_, 1) := by decide +kernel
theorem dX0_choose_0 : decode cX0_choose 0 = .ok (.iconst 2, 1) := by decide +kernel
theorem dX0_choose_1 : decode cX0_choose 1 = .ok (.aload_n 1, 1) := by decide +kernel
theorem dX0_choose_2 : decode cX0_choose 2 = .ok (.getfield 33, 3) := by decide +kernel
theorem dX0_choose_5 : decode cX0_choose 5 = .ok (.imul, 1) := by decide +kernel
theorem dX0_choose_6 : decode cX0_choose 6 = .ok (.istore 5, 2) := by decide +kernel
theorem dX0_choose_8 : decode cX0_choose 8 = .ok (.iload 5, 2) := by decide +kernel
theorem dX0_choose_10 : decode cX0_choose 10 = .ok (.aload_n 0, 1) := by decide +kernel
theorem dX0_choose_11 : decode cX0_choose 11 = .ok (.getfield 27, 3) := by decide +kernel
theorem dX0_choose_14 : decode cX0_choose 14 = .ok (.arraylength, 1) := by decide +kernel
theorem dX0_choose_15 : decode cX0_choose 15 = .ok (.if_icmp .le 27, 3) := by decide +kernel
theorem dX0_choose_18 : decode cX0_choose 18 = .ok (.aload_n 0, 1) := by decide +kernel
theorem dX0_choose_19 : decode cX0_choose 19 = .ok (.iload 5, 2) := by decide +kernel
theorem dX0_choose_21 : decode cX0_choose 21 = .ok (.newarray .int, 2) := by decide +kernel
theorem dX0_choose_23 : decode cX0_choose 23 = .ok (.putfield 24, 3) := by decide +kernel
theorem dX0_choose_26 : decode cX0_choose 26 = .ok (.aload_n 0, 1) := by decide +kernel
theorem dX0_choose_27 : decode cX0_choose 27 = .ok (.iload 5, 2) := by decide +kernel
theorem dX0_choose_29 : decode cX0_choose 29 = .ok (.newarray .int, 2) := by decide +kernel
theorem dX0_choose_31 : decode cX0_choose 31 = .ok (.putfield 27, 3) := by decide +kernel
theorem dX0_choose_34 : decode cX0_choose 34 = .ok (.aload_n 0, 1) := by decide +kernel
theorem dX0_choose_35 : decode cX0_choose 35 = .ok (.iload 5, 2) := by decide +kernel
theorem dX0_choose_37 : decode cX0_choose 37 = .ok (.newarray .int, 2) := by decide +kernel
theorem dX0_choose_39 : decode cX0_choose 39 = .ok (.putfield 30, 3) := by decide +kernel
theorem dX0_choose_42 : decode cX0_choose 42 = .ok (.iconst 0, 1) := by decide +kernel
theorem dX0_choose_43 : decode cX0_choose 43 = .ok (.istore 6, 2) := by decide +kernel
theorem dX0_choose_45 : decode cX0_choose 45 = .ok (.iload 6, 2) := by decide +kernel
theorem dX0_choose_47 : decode cX0_choose 47 = .ok (.bipush 25, 2) := by decide +kernel
theorem dX0_choose_49 : decode cX0_choose 49 = .ok (.if_icmp .ge 39, 3) := by decide +kernel
theorem dX0_choose_52 : decode cX0_choose 52 = .ok (.aload_n 0, 1) := by decide +kernel
theorem dX0_choose_53 : decode cX0_choose 53 = .ok (.getfield 18, 3) := by decide +kernel
theorem dX0_choose_56 : decode cX0_choose 56 = .ok (.iload 6, 2) := by decide +kernel
theorem dX0_choose_58 : decode cX0_choose 58 = .ok (.iconst 0, 1) := by decide +kernel
theorem dX0_choose_59 : decode cX0_choose 59 = .ok (.invokestatic 39, 3) := by decide +kernel
theorem dX0_choose_62 : decode cX0_choose 62 = .ok (.aload_n 0, 1) := by decide +kernel
theorem dX0_choose_63 : decode cX0_choose 63 = .ok (.getfield 21, 3) := by decide +kernel
theorem dX0_choose_66 : decode cX0_choose 66 = .ok (.iload 6, 2) := by decide +kernel
theorem dX0_choose_68 : decode cX0_choose 68 = .ok (.iconst 0, 1) := by decide +kernel
theorem dX0_choose_69 : decode cX0_choose 69 = .ok (.invokestatic 39, 3) := by decide +kernel
theorem dX0_choose_72 : decode cX0_choose 72 = .ok (.aload_n 0, 1) := by decide +kernel
theorem dX0_choose_73 : decode cX0_choose 73 = .ok (.getfield 15, 3) := by decide +kernel
theorem dX0_choose_76 : decode cX0_choose 76 = .ok (.iload 6, 2) := by decide +kernel
theorem dX0_choose_78 : decode cX0_choose 78 = .ok (.iconst 0, 1) := by decide +kernel
theorem dX0_choose_79 : decode cX0_choose 79 = .ok (.invokestatic 39, 3) := by decide +kernel
theorem dX0_choose_82 : decode cX0_choose 82 = .ok (.iinc 6 1, 3) := by decide +kernel
theorem dX0_choose_85 : decode cX0_choose 85 = .ok (.goto (-40), 3) := by decide +kernel
theorem dX0_choose_88 : decode cX0_choose 88 = .ok (.iconst 0, 1) := by decide +kernel
theorem dX0_choose_89 : decode cX0_choose 89 = .ok (.istore 6, 2) := by decide +kernel
theorem dX0_choose_91 : decode cX0_choose 91 = .ok (.iload 6, 2) := by decide +kernel
theorem dX0_choose_93 : decode cX0_choose 93 = .ok (.iload 5, 2) := by decide +kernel
theorem dX0_choose_95 : decode cX0_choose 95 = .ok (.if_icmp .ge 51, 3) := by decide +kernel
theorem dX0_choose_98 : decode cX0_choose 98 = .ok (.aload_n 1, 1) := by decide +kernel
theorem dX0_choose_99 : decode cX0_choose 99 = .ok (.iload 6, 2) := by decide +kernel
theorem dX0_choose_101 : decode cX0_choose 101 = .ok (.invokevirtual 43, 3) := by decide +kernel
theorem dX0_choose_104 : decode cX0_choose 104 = .ok (.iload_n 2, 1) := by decide +kernel
theorem dX0_choose_105 : decode cX0_choose 105 = .ok (.invokestatic 47, 3) := by decide +kernel
theorem dX0_choose_108 : decode cX0_choose 108 = .ok (.istore 7, 2) := by decide +kernel
theorem dX0_choose_110 : decode cX0_choose 110 = .ok (.aload_n 0, 1) := by decide +kernel
theorem dX0_choose_111 : decode cX0_choose 111 = .ok (.getfield 24, 3) := by decide +kernel
theorem dX0_choose_114 : decode cX0_choose 114 = .ok (.iload 6, 2) := by decide +kernel
theorem dX0_choose_116 : decode cX0_choose 116 = .ok (.aload_n 0, 1) := by decide +kernel
theorem dX0_choose_117 : decode cX0_choose 117 = .ok (.aload_n 1, 1) := by decide +kernel
theorem dX0_choose_118 : decode cX0_choose 118 = .ok (.iload 6, 2) := by decide +kernel
theorem dX0_choose_120 : decode cX0_choose 120 = .ok (.iload 7, 2) := by decide +kernel
theorem dX0_choose_122 : decode cX0_choose 122 = .ok (.iload_n 3, 1) := by decide +kernel
theorem dX0_choose_123 : decode cX0_choose 123 = .ok (.iload 4, 2) := by decide +kernel
theorem dX0_choose_125 : decode cX0_choose 125 = .ok (.invokevirtual 51, 3) := by decide +kernel
theorem dX0_choose_128 : decode cX0_choose 128 = .ok (.ifCond .eq 8, 3) := by decide +kernel
theorem dX0_choose_131 : decode cX0_choose 131 = .ok (.iload 7, 2) := by decide +kernel
theorem dX0_choose_133 : decode cX0_choose 133 = .ok (.goto 4, 3) := by decide +kernel
theorem dX0_choose_136 : decode cX0_choose 136 = .ok (.iconst (-1), 1) := by decide +kernel
theorem dX0_choose_137 : decode cX0_choose 137 = .ok (.invokestatic 39, 3) := by decide +kernel
theorem dX0_choose_140 : decode cX0_choose 140 = .ok (.iinc 6 1, 3) := by decide +kernel
theorem dX0_choose_143 : decode cX0_choose 143 = .ok (.goto (-52), 3) := by decide +kernel
theorem dX0_choose_146 : decode cX0_choose 146 = .ok (.aload_n 0, 1) := by decide +kernel
theorem dX0_choose_147 : decode cX0_choose 147 = .ok (.invokevirtual 55, 3) := by decide +kernel
theorem dX0_choose_150 : decode cX0_choose 150 = .ok (.iconst 0, 1) := by decide +kernel
theorem dX0_choose_151 : decode cX0_choose 151 = .ok (.istore 6, 2) := by decide +kernel
theorem dX0_choose_153 : decode cX0_choose 153 = .ok (.iload 6, 2) := by decide +kernel
theorem dX0_choose_155 : decode cX0_choose 155 = .ok (.iload 5, 2) := by decide +kernel
theorem dX0_choose_157 : decode cX0_choose 157 = .ok (.if_icmp .ge 25, 3) := by decide +kernel
theorem dX0_choose_160 : decode cX0_choose 160 = .ok (.aload_n 0, 1) := by decide +kernel
theorem dX0_choose_161 : decode cX0_choose 161 = .ok (.iload 6, 2) := by decide +kernel
theorem dX0_choose_163 : decode cX0_choose 163 = .ok (.aload_n 0, 1) := by decide +kernel
theorem dX0_choose_164 : decode cX0_choose 164 = .ok (.getfield 24, 3) := by decide +kernel
theorem dX0_choose_167 : decode cX0_choose 167 = .ok (.iload 6, 2) := by decide +kernel
theorem dX0_choose_169 : decode cX0_choose 169 = .ok (.invokestatic 58, 3) := by decide +kernel
theorem dX0_choose_172 : decode cX0_choose 172 = .ok (.aload_n 1, 1) := by decide +kernel
theorem dX0_choose_173 : decode cX0_choose 173 = .ok (.invokevirtual 62, 3) := by decide +kernel
theorem dX0_choose_176 : decode cX0_choose 176 = .ok (.iinc 6 1, 3) := by decide +kernel
theorem dX0_choose_179 : decode cX0_choose 179 = .ok (.goto (-26), 3) := by decide +kernel
theorem dX0_choose_182 : decode cX0_choose 182 = .ok (.return_, 1) := by decide +kernel
theorem dX0_countIfEasy_0 : decode cX0_countIfEasy 0 = .ok (.iload_n 3, 1) := by decide +kernel
theorem dX0_countIfEasy_1 : decode cX0_countIfEasy 1 = .ok (.iconst (-1), 1) := by decide +kernel
theorem dX0_countIfEasy_2 : decode cX0_countIfEasy 2 = .ok (.if_icmp .ne 5, 3) := by decide +kernel
theorem dX0_countIfEasy_5 : decode cX0_countIfEasy 5 = .ok (.iconst 0, 1) := by decide +kernel
theorem dX0_countIfEasy_6 : decode cX0_countIfEasy 6 = .ok (.ireturn, 1) := by decide +kernel
theorem dX0_countIfEasy_7 : decode cX0_countIfEasy 7 = .ok (.aload_n 0, 1) := by decide +kernel
theorem dX0_countIfEasy_8 : decode cX0_countIfEasy 8 = .ok (.getfield 18, 3) := by decide +kernel
theorem dX0_countIfEasy_11 : decode cX0_countIfEasy 11 = .ok (.iload_n 3, 1) := by decide +kernel
theorem dX0_countIfEasy_12 : decode cX0_countIfEasy 12 = .ok (.aload_n 0, 1) := by decide +kernel
theorem dX0_countIfEasy_13 : decode cX0_countIfEasy 13 = .ok (.getfield 18, 3) := by decide +kernel
theorem dX0_countIfEasy_16 : decode cX0_countIfEasy 16 = .ok (.iload_n 3, 1) := by decide +kernel
theorem dX0_countIfEasy_17 : decode cX0_countIfEasy 17 = .ok (.invokestatic 58, 3) := by decide +kernel
theorem dX0_countIfEasy_20 : decode cX0_countIfEasy 20 = .ok (.iconst 1, 1) := by decide +kernel
theorem dX0_countIfEasy_21 : decode cX0_countIfEasy 21 = .ok (.iadd, 1) := by decide +kernel
theorem dX0_countIfEasy_22 : decode cX0_countIfEasy 22 = .ok (.invokestatic 39, 3) := by decide +kernel
theorem dX0_countIfEasy_25 : decode cX0_countIfEasy 25 = .ok (.aload_n 1, 1) := by decide +kernel
theorem dX0_countIfEasy_26 : decode cX0_countIfEasy 26 = .ok (.getfield 66, 3) := by decide +kernel
theorem dX0_countIfEasy_29 : decode cX0_countIfEasy 29 = .ok (.aload_n 1, 1) := by decide +kernel
theorem dX0_countIfEasy_30 : decode cX0_countIfEasy 30 = .ok (.iload_n 2, 1) := by decide +kernel
theorem dX0_countIfEasy_31 : decode cX0_countIfEasy 31 = .ok (.invokevirtual 69, 3) := by decide +kernel
theorem dX0_countIfEasy_34 : decode cX0_countIfEasy 34 = .ok (.invokestatic 58, 3) := by decide +kernel
theorem dX0_countIfEasy_37 : decode cX0_countIfEasy 37 = .ok (.istore 6, 2) := by decide +kernel
theorem dX0_countIfEasy_39 : decode cX0_countIfEasy 39 = .ok (.aload_n 1, 1) := by decide +kernel
theorem dX0_countIfEasy_40 : decode cX0_countIfEasy 40 = .ok (.getfield 72, 3) := by decide +kernel
theorem dX0_countIfEasy_43 : decode cX0_countIfEasy 43 = .ok (.aload_n 1, 1) := by decide +kernel
theorem dX0_countIfEasy_44 : decode cX0_countIfEasy 44 = .ok (.iload_n 2, 1) := by decide +kernel
theorem dX0_countIfEasy_45 : decode cX0_countIfEasy 45 = .ok (.invokevirtual 69, 3) := by decide +kernel
theorem dX0_countIfEasy_48 : decode cX0_countIfEasy 48 = .ok (.invokestatic 58, 3) := by decide +kernel
theorem dX0_countIfEasy_51 : decode cX0_countIfEasy 51 = .ok (.istore 7, 2) := by decide +kernel
theorem dX0_countIfEasy_53 : decode cX0_countIfEasy 53 = .ok (.iload 6, 2) := by decide +kernel
theorem dX0_countIfEasy_55 : decode cX0_countIfEasy 55 = .ok (.iconst 2, 1) := by decide +kernel
theorem dX0_countIfEasy_56 : decode cX0_countIfEasy 56 = .ok (.if_icmp .gt 33, 3) := by decide +kernel
theorem dX0_countIfEasy_59 : decode cX0_countIfEasy 59 = .ok (.iload 7, 2) := by decide +kernel
theorem dX0_countIfEasy_61 : decode cX0_countIfEasy 61 = .ok (.iconst 3, 1) := by decide +kernel
theorem dX0_countIfEasy_62 : decode cX0_countIfEasy 62 = .ok (.if_icmp .gt 27, 3) := by decide +kernel
theorem dX0_countIfEasy_65 : decode cX0_countIfEasy 65 = .ok (.aload_n 0, 1) := by decide +kernel
theorem dX0_countIfEasy_66 : decode cX0_countIfEasy 66 = .ok (.getfield 21, 3) := by decide +kernel
theorem dX0_countIfEasy_69 : decode cX0_countIfEasy 69 = .ok (.iload_n 3, 1) := by decide +kernel
theorem dX0_countIfEasy_70 : decode cX0_countIfEasy 70 = .ok (.aload_n 0, 1) := by decide +kernel
theorem dX0_countIfEasy_71 : decode cX0_countIfEasy 71 = .ok (.getfield 21, 3) := by decide +kernel
theorem dX0_countIfEasy_74 : decode cX0_countIfEasy 74 = .ok (.iload_n 3, 1) := by decide +kernel
theorem dX0_countIfEasy_75 : decode cX0_countIfEasy 75 = .ok (.invokestatic 58, 3) := by decide +kernel
theorem dX0_countIfEasy_78 : decode cX0_countIfEasy 78 = .ok (.iload 6, 2) := by decide +kernel
theorem dX0_countIfEasy_80 : decode cX0_countIfEasy 80 = .ok (.iload 7, 2) := by decide +kernel
theorem dX0_countIfEasy_82 : decode cX0_countIfEasy 82 = .ok (.invokestatic 75, 3) := by decide +kernel
theorem dX0_countIfEasy_85 : decode cX0_countIfEasy 85 = .ok (.ior, 1) := by decide +kernel
theorem dX0_countIfEasy_86 : decode cX0_countIfEasy 86 = .ok (.invokestatic 39, 3) := by decide +kernel
theorem dX0_countIfEasy_89 : decode cX0_countIfEasy 89 = .ok (.iload 6, 2) := by decide +kernel
theorem dX0_countIfEasy_91 : decode cX0_countIfEasy 91 = .ok (.iload 4, 2) := by decide +kernel
theorem dX0_countIfEasy_93 : decode cX0_countIfEasy 93 = .ok (.if_icmp .gt 10, 3) := by decide +kernel
theorem dX0_countIfEasy_96 : decode cX0_countIfEasy 96 = .ok (.iload 7, 2) := by decide +kernel
theorem dX0_countIfEasy_98 : decode cX0_countIfEasy 98 = .ok (.iload 5, 2) := by decide +kernel
theorem dX0_countIfEasy_100 : decode cX0_countIfEasy 100 = .ok (.if_icmp .le 5, 3) := by decide +kernel
theorem dX0_countIfEasy_103 : decode cX0_countIfEasy 103 = .ok (.iconst 0, 1) := by decide +kernel
theorem dX0_countIfEasy_104 : decode cX0_countIfEasy 104 = .ok (.ireturn, 1) := by decide +kernel
theorem dX0_countIfEasy_105 : decode cX0_countIfEasy 105 = .ok (.aload_n 0, 1) := by decide +kernel
theorem dX0_countIfEasy_106 : decode cX0_countIfEasy 106 = .ok (.getfield 15, 3) := by decide +kernel
theorem dX0_countIfEasy_109 : decode cX0_countIfEasy 109 = .ok (.iload_n 3, 1) := by decide +kernel
theorem dX0_countIfEasy_110 : decode cX0_countIfEasy 110 = .ok (.aload_n 0, 1) := by decide +kernel
theorem dX0_countIfEasy_111 : decode cX0_countIfEasy 111 = .ok (.getfield 15, 3) := by decide +kernel
theorem dX0_countIfEasy_114 : decode cX0_countIfEasy 114 = .ok (.iload_n 3, 1) := by decide +kernel
theorem dX0_countIfEasy_115 : decode cX0_countIfEasy 115 = .ok (.invokestatic 58, 3) := by decide +kernel
theorem dX0_countIfEasy_118 : decode cX0_countIfEasy 118 = .ok (.iconst 1, 1) := by decide +kernel
theorem dX0_countIfEasy_119 : decode cX0_countIfEasy 119 = .ok (.iadd, 1) := by decide +kernel
theorem dX0_countIfEasy_120 : decode cX0_countIfEasy 120 = .ok (.invokestatic 39, 3) := by decide +kernel
theorem dX0_countIfEasy_123 : decode cX0_countIfEasy 123 = .ok (.iconst 1, 1) := by decide +kernel
theorem dX0_countIfEasy_124 : decode cX0_countIfEasy 124 = .ok (.ireturn, 1) := by decide +kernel
theorem dX0_layFirsts_0 : decode cX0_layFirsts 0 = .ok (.iconst 0, 1) := by decide +kernel
theorem dX0_layFirsts_1 : decode cX0_layFirsts 1 = .ok (.istore_n 1, 1) := by decide +kernel
theorem dX0_layFirsts_2 : decode cX0_layFirsts 2 = .ok (.iconst 0, 1) := by decide +kernel
theorem dX0_layFirsts_3 : decode cX0_layFirsts 3 = .ok (.istore_n 2, 1) := by decide +kernel
theorem dX0_layFirsts_4 : decode cX0_layFirsts 4 = .ok (.iload_n 2, 1) := by decide +kernel
theorem dX0_layFirsts_5 : decode cX0_layFirsts 5 = .ok (.bipush 25, 2) := by decide +kernel
theorem dX0_layFirsts_7 : decode cX0_layFirsts 7 = .ok (.if_icmp .ge 40, 3) := by decide +kernel
theorem dX0_layFirsts_10 : decode cX0_layFirsts 10 = .ok (.aload_n 0, 1) := by decide +kernel
theorem dX0_layFirsts_11 : decode cX0_layFirsts 11 = .ok (.getfield 15, 3) := by decide +kernel
theorem dX0_layFirsts_14 : decode cX0_layFirsts 14 = .ok (.iload_n 2, 1) := by decide +kernel
theorem dX0_layFirsts_15 : decode cX0_layFirsts 15 = .ok (.invokestatic 58, 3) := by decide +kernel
theorem dX0_layFirsts_18 : decode cX0_layFirsts 18 = .ok (.istore_n 3, 1) := by decide +kernel
theorem dX0_layFirsts_19 : decode cX0_layFirsts 19 = .ok (.aload_n 0, 1) := by decide +kernel
theorem dX0_layFirsts_20 : decode cX0_layFirsts 20 = .ok (.getfield 9, 3) := by decide +kernel
theorem dX0_layFirsts_23 : decode cX0_layFirsts 23 = .ok (.iload_n 2, 1) := by decide +kernel
theorem dX0_layFirsts_24 : decode cX0_layFirsts 24 = .ok (.iload_n 1, 1) := by decide +kernel
theorem dX0_layFirsts_25 : decode cX0_layFirsts 25 = .ok (.invokestatic 39, 3) := by decide +kernel
theorem dX0_layFirsts_28 : decode cX0_layFirsts 28 = .ok (.aload_n 0, 1) := by decide +kernel
theorem dX0_layFirsts_29 : decode cX0_layFirsts 29 = .ok (.getfield 15, 3) := by decide +kernel
theorem dX0_layFirsts_32 : decode cX0_layFirsts 32 = .ok (.iload_n 2, 1) := by decide +kernel
theorem dX0_layFirsts_33 : decode cX0_layFirsts 33 = .ok (.iload_n 1, 1) := by decide +kernel
theorem dX0_layFirsts_34 : decode cX0_layFirsts 34 = .ok (.invokestatic 39, 3) := by decide +kernel
theorem dX0_layFirsts_37 : decode cX0_layFirsts 37 = .ok (.iload_n 1, 1) := by decide +kernel
theorem dX0_layFirsts_38 : decode cX0_layFirsts 38 = .ok (.iload_n 3, 1) := by decide +kernel
theorem dX0_layFirsts_39 : decode cX0_layFirsts 39 = .ok (.iadd, 1) := by decide +kernel
theorem dX0_layFirsts_40 : decode cX0_layFirsts 40 = .ok (.istore_n 1, 1) := by decide +kernel
theorem dX0_layFirsts_41 : decode cX0_layFirsts 41 = .ok (.iinc 2 1, 3) := by decide +kernel
theorem dX0_layFirsts_44 : decode cX0_layFirsts 44 = .ok (.goto (-40), 3) := by decide +kernel
theorem dX0_layFirsts_47 : decode cX0_layFirsts 47 = .ok (.aload_n 0, 1) := by decide +kernel
theorem dX0_layFirsts_48 : decode cX0_layFirsts 48 = .ok (.getfield 9, 3) := by decide +kernel
theorem dX0_layFirsts_51 : decode cX0_layFirsts 51 = .ok (.bipush 25, 2) := by decide +kernel
theorem dX0_layFirsts_53 : decode cX0_layFirsts 53 = .ok (.iload_n 1, 1) := by decide +kernel
theorem dX0_layFirsts_54 : decode cX0_layFirsts 54 = .ok (.invokestatic 39, 3) := by decide +kernel
theorem dX0_layFirsts_57 : decode cX0_layFirsts 57 = .ok (.return_, 1) := by decide +kernel
theorem dX0_place_0 : decode cX0_place 0 = .ok (.iload_n 2, 1) := by decide +kernel
theorem dX0_place_1 : decode cX0_place 1 = .ok (.iconst (-1), 1) := by decide +kernel
theorem dX0_place_2 : decode cX0_place 2 = .ok (.if_icmp .ne 4, 3) := by decide +kernel
theorem dX0_place_5 : decode cX0_place 5 = .ok (.return_, 1) := by decide +kernel
theorem dX0_place_6 : decode cX0_place 6 = .ok (.aload_n 0, 1) := by decide +kernel
theorem dX0_place_7 : decode cX0_place 7 = .ok (.getfield 15, 3) := by decide +kernel
theorem dX0_place_10 : decode cX0_place 10 = .ok (.iload_n 2, 1) := by decide +kernel
theorem dX0_place_11 : decode cX0_place 11 = .ok (.invokestatic 58, 3) := by decide +kernel
theorem dX0_place_14 : decode cX0_place 14 = .ok (.istore 4, 2) := by decide +kernel
theorem dX0_place_16 : decode cX0_place 16 = .ok (.aload_n 0, 1) := by decide +kernel
theorem dX0_place_17 : decode cX0_place 17 = .ok (.getfield 27, 3) := by decide +kernel
theorem dX0_place_20 : decode cX0_place 20 = .ok (.iload 4, 2) := by decide +kernel
theorem dX0_place_22 : decode cX0_place 22 = .ok (.iload_n 1, 1) := by decide +kernel
theorem dX0_place_23 : decode cX0_place 23 = .ok (.invokestatic 39, 3) := by decide +kernel
theorem dX0_place_26 : decode cX0_place 26 = .ok (.aload_n 0, 1) := by decide +kernel
theorem dX0_place_27 : decode cX0_place 27 = .ok (.getfield 30, 3) := by decide +kernel
theorem dX0_place_30 : decode cX0_place 30 = .ok (.iload 4, 2) := by decide +kernel
theorem dX0_place_32 : decode cX0_place 32 = .ok (.aload_n 3, 1) := by decide +kernel
theorem dX0_place_33 : decode cX0_place 33 = .ok (.iload_n 1, 1) := by decide +kernel
theorem dX0_place_34 : decode cX0_place 34 = .ok (.invokevirtual 78, 3) := by decide +kernel
theorem dX0_place_37 : decode cX0_place 37 = .ok (.invokestatic 39, 3) := by decide +kernel
theorem dX0_place_40 : decode cX0_place 40 = .ok (.aload_n 0, 1) := by decide +kernel
theorem dX0_place_41 : decode cX0_place 41 = .ok (.getfield 15, 3) := by decide +kernel
theorem dX0_place_44 : decode cX0_place 44 = .ok (.iload_n 2, 1) := by decide +kernel
theorem dX0_place_45 : decode cX0_place 45 = .ok (.iload 4, 2) := by decide +kernel
theorem dX0_place_47 : decode cX0_place 47 = .ok (.iconst 1, 1) := by decide +kernel
theorem dX0_place_48 : decode cX0_place 48 = .ok (.iadd, 1) := by decide +kernel
theorem dX0_place_49 : decode cX0_place 49 = .ok (.invokestatic 39, 3) := by decide +kernel
theorem dX0_place_52 : decode cX0_place 52 = .ok (.return_, 1) := by decide +kernel
theorem dX0_firstOf_0 : decode cX0_firstOf 0 = .ok (.aload_n 0, 1) := by decide +kernel
theorem dX0_firstOf_1 : decode cX0_firstOf 1 = .ok (.getfield 9, 3) := by decide +kernel
theorem dX0_firstOf_4 : decode cX0_firstOf 4 = .ok (.iload_n 1, 1) := by decide +kernel
theorem dX0_firstOf_5 : decode cX0_firstOf 5 = .ok (.invokestatic 58, 3) := by decide +kernel
theorem dX0_firstOf_8 : decode cX0_firstOf 8 = .ok (.ireturn, 1) := by decide +kernel
theorem dX0_countOf_0 : decode cX0_countOf 0 = .ok (.iload_n 1, 1) := by decide +kernel
theorem dX0_countOf_1 : decode cX0_countOf 1 = .ok (.invokestatic 81, 3) := by decide +kernel
theorem dX0_countOf_4 : decode cX0_countOf 4 = .ok (.ifCond .eq 25, 3) := by decide +kernel
theorem dX0_countOf_7 : decode cX0_countOf 7 = .ok (.aload_n 0, 1) := by decide +kernel
theorem dX0_countOf_8 : decode cX0_countOf 8 = .ok (.getfield 9, 3) := by decide +kernel
theorem dX0_countOf_11 : decode cX0_countOf 11 = .ok (.iload_n 1, 1) := by decide +kernel
theorem dX0_countOf_12 : decode cX0_countOf 12 = .ok (.iconst 1, 1) := by decide +kernel
theorem dX0_countOf_13 : decode cX0_countOf 13 = .ok (.iadd, 1) := by decide +kernel
theorem dX0_countOf_14 : decode cX0_countOf 14 = .ok (.invokestatic 58, 3) := by decide +kernel
theorem dX0_countOf_17 : decode cX0_countOf 17 = .ok (.aload_n 0, 1) := by decide +kernel
theorem dX0_countOf_18 : decode cX0_countOf 18 = .ok (.getfield 9, 3) := by decide +kernel
theorem dX0_countOf_21 : decode cX0_countOf 21 = .ok (.iload_n 1, 1) := by decide +kernel
theorem dX0_countOf_22 : decode cX0_countOf 22 = .ok (.invokestatic 58, 3) := by decide +kernel
theorem dX0_countOf_25 : decode cX0_countOf 25 = .ok (.isub, 1) := by decide +kernel
theorem dX0_countOf_26 : decode cX0_countOf 26 = .ok (.goto 4, 3) := by decide +kernel
theorem dX0_countOf_29 : decode cX0_countOf 29 = .ok (.iconst 0, 1) := by decide +kernel
theorem dX0_countOf_30 : decode cX0_countOf 30 = .ok (.ireturn, 1) := by decide +kernel
theorem dX0_limitBit_0 : decode cX0_limitBit 0 = .ok (.iconst 1, 1) := by decide +kernel
theorem dX0_limitBit_1 : decode cX0_limitBit 1 = .ok (.iload_n 0, 1) := by decide +kernel
theorem dX0_limitBit_2 : decode cX0_limitBit 2 = .ok (.iconst 4, 1) := by decide +kernel
theorem dX0_limitBit_3 : decode cX0_limitBit 3 = .ok (.imul, 1) := by decide +kernel
theorem dX0_limitBit_4 : decode cX0_limitBit 4 = .ok (.iload_n 1, 1) := by decide +kernel
theorem dX0_limitBit_5 : decode cX0_limitBit 5 = .ok (.iadd, 1) := by decide +kernel
theorem dX0_limitBit_6 : decode cX0_limitBit 6 = .ok (.ishl, 1) := by decide +kernel
theorem dX0_limitBit_7 : decode cX0_limitBit 7 = .ok (.ireturn, 1) := by decide +kernel
theorem dX0_isPossible_0 : decode cX0_isPossible 0 = .ok (.iconst 0, 1) := by decide +kernel
theorem dX0_isPossible_1 : decode cX0_isPossible 1 = .ok (.istore 4, 2) := by decide +kernel
theorem dX0_isPossible_3 : decode cX0_isPossible 3 = .ok (.iload 4, 2) := by decide +kernel
theorem dX0_isPossible_5 : decode cX0_isPossible 5 = .ok (.iload_n 2, 1) := by decide +kernel
theorem dX0_isPossible_6 : decode cX0_isPossible 6 = .ok (.if_icmp .gt 45, 3) := by decide +kernel
theorem dX0_isPossible_9 : decode cX0_isPossible 9 = .ok (.iconst 0, 1) := by decide +kernel
theorem dX0_isPossible_10 : decode cX0_isPossible 10 = .ok (.istore 5, 2) := by decide +kernel
theorem dX0_isPossible_12 : decode cX0_isPossible 12 = .ok (.iload 5, 2) := by decide +kernel
theorem dX0_isPossible_14 : decode cX0_isPossible 14 = .ok (.iload_n 3, 1) := by decide +kernel
theorem dX0_isPossible_15 : decode cX0_isPossible 15 = .ok (.if_icmp .gt 30, 3) := by decide +kernel
theorem dX0_isPossible_18 : decode cX0_isPossible 18 = .ok (.aload_n 0, 1) := by decide +kernel
theorem dX0_isPossible_19 : decode cX0_isPossible 19 = .ok (.getfield 21, 3) := by decide +kernel
theorem dX0_isPossible_22 : decode cX0_isPossible 22 = .ok (.iload_n 1, 1) := by decide +kernel
theorem dX0_isPossible_23 : decode cX0_isPossible 23 = .ok (.invokestatic 58, 3) := by decide +kernel
theorem dX0_isPossible_26 : decode cX0_isPossible 26 = .ok (.iload 4, 2) := by decide +kernel
theorem dX0_isPossible_28 : decode cX0_isPossible 28 = .ok (.iload 5, 2) := by decide +kernel
theorem dX0_isPossible_30 : decode cX0_isPossible 30 = .ok (.invokestatic 75, 3) := by decide +kernel
theorem dX0_isPossible_33 : decode cX0_isPossible 33 = .ok (.iand, 1) := by decide +kernel
theorem dX0_isPossible_34 : decode cX0_isPossible 34 = .ok (.ifCond .eq 5, 3) := by decide +kernel
theorem dX0_isPossible_37 : decode cX0_isPossible 37 = .ok (.iconst 1, 1) := by decide +kernel
theorem dX0_isPossible_38 : decode cX0_isPossible 38 = .ok (.ireturn, 1) := by decide +kernel
theorem dX0_isPossible_39 : decode cX0_isPossible 39 = .ok (.iinc 5 1, 3) := by decide +kernel
theorem dX0_isPossible_42 : decode cX0_isPossible 42 = .ok (.goto (-30), 3) := by decide +kernel
theorem dX0_isPossible_45 : decode cX0_isPossible 45 = .ok (.iinc 4 1, 3) := by decide +kernel
theorem dX0_isPossible_48 : decode cX0_isPossible 48 = .ok (.goto (-45), 3) := by decide +kernel
theorem dX0_isPossible_51 : decode cX0_isPossible 51 = .ok (.iconst 0, 1) := by decide +kernel
theorem dX0_isPossible_52 : decode cX0_isPossible 52 = .ok (.ireturn, 1) := by decide +kernel
theorem dX0_lackingFrom_0 : decode cX0_lackingFrom 0 = .ok (.iload_n 2, 1) := by decide +kernel
theorem dX0_lackingFrom_1 : decode cX0_lackingFrom 1 = .ok (.istore 4, 2) := by decide +kernel
theorem dX0_lackingFrom_3 : decode cX0_lackingFrom 3 = .ok (.iload 4, 2) := by decide +kernel
theorem dX0_lackingFrom_5 : decode cX0_lackingFrom 5 = .ok (.aload_n 1, 1) := by decide +kernel
theorem dX0_lackingFrom_6 : decode cX0_lackingFrom 6 = .ok (.getfield 85, 3) := by decide +kernel
theorem dX0_lackingFrom_9 : decode cX0_lackingFrom 9 = .ok (.if_icmp .ge 39, 3) := by decide +kernel
theorem dX0_lackingFrom_12 : decode cX0_lackingFrom 12 = .ok (.aload_n 1, 1) := by decide +kernel
theorem dX0_lackingFrom_13 : decode cX0_lackingFrom 13 = .ok (.iload 4, 2) := by decide +kernel
theorem dX0_lackingFrom_15 : decode cX0_lackingFrom 15 = .ok (.invokevirtual 90, 3) := by decide +kernel
theorem dX0_lackingFrom_18 : decode cX0_lackingFrom 18 = .ok (.ifCond .ne 24, 3) := by decide +kernel
theorem dX0_lackingFrom_21 : decode cX0_lackingFrom 21 = .ok (.aload_n 0, 1) := by decide +kernel
theorem dX0_lackingFrom_22 : decode cX0_lackingFrom 22 = .ok (.aload_n 1, 1) := by decide +kernel
theorem dX0_lackingFrom_23 : decode cX0_lackingFrom 23 = .ok (.getfield 93, 3) := by decide +kernel
theorem dX0_lackingFrom_26 : decode cX0_lackingFrom 26 = .ok (.iload 4, 2) := by decide +kernel
theorem dX0_lackingFrom_28 : decode cX0_lackingFrom 28 = .ok (.invokestatic 58, 3) := by decide +kernel
theorem dX0_lackingFrom_31 : decode cX0_lackingFrom 31 = .ok (.iload_n 3, 1) := by decide +kernel
theorem dX0_lackingFrom_32 : decode cX0_lackingFrom 32 = .ok (.iadd, 1) := by decide +kernel
theorem dX0_lackingFrom_33 : decode cX0_lackingFrom 33 = .ok (.invokevirtual 96, 3) := by decide +kernel
theorem dX0_lackingFrom_36 : decode cX0_lackingFrom 36 = .ok (.ifCond .ne 6, 3) := by decide +kernel
theorem dX0_lackingFrom_39 : decode cX0_lackingFrom 39 = .ok (.iload 4, 2) := by decide +kernel
theorem dX0_lackingFrom_41 : decode cX0_lackingFrom 41 = .ok (.ireturn, 1) := by decide +kernel
theorem dX0_lackingFrom_42 : decode cX0_lackingFrom 42 = .ok (.iinc 4 1, 3) := by decide +kernel
theorem dX0_lackingFrom_45 : decode cX0_lackingFrom 45 = .ok (.goto (-42), 3) := by decide +kernel
theorem dX0_lackingFrom_48 : decode cX0_lackingFrom 48 = .ok (.iconst (-1), 1) := by decide +kernel
theorem dX0_lackingFrom_49 : decode cX0_lackingFrom 49 = .ok (.ireturn, 1) := by decide +kernel
theorem dX1_init_0 : decode cX1_init 0 = .ok (.aload_n 0, 1) := by decide +kernel
theorem dX1_init_1 : decode cX1_init 1 = .ok (.invokespecial 3, 3) := by decide +kernel
theorem dX1_init_4 : decode cX1_init 4 = .ok (.aload_n 0, 1) := by decide +kernel
theorem dX1_init_5 : decode cX1_init 5 = .ok (.iconst 1, 1) := by decide +kernel
theorem dX1_init_6 : decode cX1_init 6 = .ok (.putfield 9, 3) := by decide +kernel
theorem dX1_init_9 : decode cX1_init 9 = .ok (.aload_n 0, 1) := by decide +kernel
theorem dX1_init_10 : decode cX1_init 10 = .ok (.iconst 1, 1) := by decide +kernel
theorem dX1_init_11 : decode cX1_init 11 = .ok (.newarray .int, 2) := by decide +kernel
theorem dX1_init_13 : decode cX1_init 13 = .ok (.putfield 15, 3) := by decide +kernel
theorem dX1_init_16 : decode cX1_init 16 = .ok (.aload_n 0, 1) := by decide +kernel
theorem dX1_init_17 : decode cX1_init 17 = .ok (.iconst 1, 1) := by decide +kernel
theorem dX1_init_18 : decode cX1_init 18 = .ok (.newarray .int, 2) := by decide +kernel
theorem dX1_init_20 : decode cX1_init 20 = .ok (.putfield 19, 3) := by decide +kernel
theorem dX1_init_23 : decode cX1_init 23 = .ok (.aload_n 0, 1) := by decide +kernel
theorem dX1_init_24 : decode cX1_init 24 = .ok (.iconst 1, 1) := by decide +kernel
theorem dX1_init_25 : decode cX1_init 25 = .ok (.newarray .int, 2) := by decide +kernel
theorem dX1_init_27 : decode cX1_init 27 = .ok (.putfield 22, 3) := by decide +kernel
theorem dX1_init_30 : decode cX1_init 30 = .ok (.aload_n 0, 1) := by decide +kernel
theorem dX1_init_31 : decode cX1_init 31 = .ok (.iconst 1, 1) := by decide +kernel
theorem dX1_init_32 : decode cX1_init 32 = .ok (.newarray .int, 2) := by decide +kernel
theorem dX1_init_34 : decode cX1_init 34 = .ok (.putfield 25, 3) := by decide +kernel
theorem dX1_init_37 : decode cX1_init 37 = .ok (.aload_n 0, 1) := by decide +kernel
theorem dX1_init_38 : decode cX1_init 38 = .ok (.iconst 1, 1) := by decide +kernel
theorem dX1_init_39 : decode cX1_init 39 = .ok (.newarray .int, 2) := by decide +kernel
theorem dX1_init_41 : decode cX1_init 41 = .ok (.putfield 28, 3) := by decide +kernel
theorem dX1_init_44 : decode cX1_init 44 = .ok (.aload_n 0, 1) := by decide +kernel
theorem dX1_init_45 : decode cX1_init 45 = .ok (.bipush 49, 2) := by decide +kernel
theorem dX1_init_47 : decode cX1_init 47 = .ok (.newarray .int, 2) := by decide +kernel
theorem dX1_init_49 : decode cX1_init 49 = .ok (.putfield 31, 3) := by decide +kernel
theorem dX1_init_52 : decode cX1_init 52 = .ok (.return_, 1) := by decide +kernel
theorem dX1_reckon_0 : decode cX1_reckon 0 = .ok (.aload_n 0, 1) := by decide +kernel
theorem dX1_reckon_1 : decode cX1_reckon 1 = .ok (.aload_n 1, 1) := by decide +kernel
theorem dX1_reckon_2 : decode cX1_reckon 2 = .ok (.invokevirtual 34, 3) := by decide +kernel
theorem dX1_reckon_5 : decode cX1_reckon 5 = .ok (.putfield 9, 3) := by decide +kernel
theorem dX1_reckon_8 : decode cX1_reckon 8 = .ok (.aload_n 0, 1) := by decide +kernel
theorem dX1_reckon_9 : decode cX1_reckon 9 = .ok (.getfield 9, 3) := by decide +kernel
theorem dX1_reckon_12 : decode cX1_reckon 12 = .ok (.aload_n 0, 1) := by decide +kernel
theorem dX1_reckon_13 : decode cX1_reckon 13 = .ok (.getfield 15, 3) := by decide +kernel
theorem dX1_reckon_16 : decode cX1_reckon 16 = .ok (.arraylength, 1) := by decide +kernel
theorem dX1_reckon_17 : decode cX1_reckon 17 = .ok (.if_icmp .le 11, 3) := by decide +kernel
theorem dX1_reckon_20 : decode cX1_reckon 20 = .ok (.aload_n 0, 1) := by decide +kernel
theorem dX1_reckon_21 : decode cX1_reckon 21 = .ok (.aload_n 0, 1) := by decide +kernel
theorem dX1_reckon_22 : decode cX1_reckon 22 = .ok (.getfield 9, 3) := by decide +kernel
theorem dX1_reckon_25 : decode cX1_reckon 25 = .ok (.invokevirtual 40, 3) := by decide +kernel
theorem dX1_reckon_28 : decode cX1_reckon 28 = .ok (.bipush 10, 2) := by decide +kernel
theorem dX1_reckon_30 : decode cX1_reckon 30 = .ok (.aload_n 1, 1) := by decide +kernel
theorem dX1_reckon_31 : decode cX1_reckon 31 = .ok (.getfield 44, 3) := by decide +kernel
theorem dX1_reckon_34 : decode cX1_reckon 34 = .ok (.imul, 1) := by decide +kernel
theorem dX1_reckon_35 : decode cX1_reckon 35 = .ok (.bipush 6, 2) := by decide +kernel
theorem dX1_reckon_37 : decode cX1_reckon 37 = .ok (.aload_n 1, 1) := by decide +kernel
theorem dX1_reckon_38 : decode cX1_reckon 38 = .ok (.getfield 47, 3) := by decide +kernel
theorem dX1_reckon_41 : decode cX1_reckon 41 = .ok (.imul, 1) := by decide +kernel
theorem dX1_reckon_42 : decode cX1_reckon 42 = .ok (.iadd, 1) := by decide +kernel
theorem dX1_reckon_43 : decode cX1_reckon 43 = .ok (.istore_n 2, 1) := by decide +kernel
theorem dX1_reckon_44 : decode cX1_reckon 44 = .ok (.aload_n 0, 1) := by decide +kernel
theorem dX1_reckon_45 : decode cX1_reckon 45 = .ok (.aload_n 1, 1) := by decide +kernel
theorem dX1_reckon_46 : decode cX1_reckon 46 = .ok (.iload_n 2, 1) := by decide +kernel
theorem dX1_reckon_47 : decode cX1_reckon 47 = .ok (.invokevirtual 50, 3) := by decide +kernel
theorem dX1_reckon_50 : decode cX1_reckon 50 = .ok (.aload_n 0, 1) := by decide +kernel
theorem dX1_reckon_51 : decode cX1_reckon 51 = .ok (.iload_n 2, 1) := by decide +kernel
theorem dX1_reckon_52 : decode cX1_reckon 52 = .ok (.invokevirtual 54, 3) := by decide +kernel
theorem dX1_reckon_55 : decode cX1_reckon 55 = .ok (.iconst 0, 1) := by decide +kernel
theorem dX1_reckon_56 : decode cX1_reckon 56 = .ok (.istore_n 3, 1) := by decide +kernel
theorem dX1_reckon_57 : decode cX1_reckon 57 = .ok (.iload_n 3, 1) := by decide +kernel
theorem dX1_reckon_58 : decode cX1_reckon 58 = .ok (.aload_n 0, 1) := by decide +kernel
theorem dX1_reckon_59 : decode cX1_reckon 59 = .ok (.getfield 9, 3) := by decide +kernel
theorem dX1_reckon_62 : decode cX1_reckon 62 = .ok (.if_icmp .ge 29, 3) := by decide +kernel
theorem dX1_reckon_65 : decode cX1_reckon 65 = .ok (.aload_n 0, 1) := by decide +kernel
theorem dX1_reckon_66 : decode cX1_reckon 66 = .ok (.getfield 28, 3) := by decide +kernel
theorem dX1_reckon_69 : decode cX1_reckon 69 = .ok (.iload_n 3, 1) := by decide +kernel
theorem dX1_reckon_70 : decode cX1_reckon 70 = .ok (.aload_n 0, 1) := by decide +kernel
theorem dX1_reckon_71 : decode cX1_reckon 71 = .ok (.aload_n 0, 1) := by decide +kernel
theorem dX1_reckon_72 : decode cX1_reckon 72 = .ok (.getfield 25, 3) := by decide +kernel
theorem dX1_reckon_75 : decode cX1_reckon 75 = .ok (.iload_n 3, 1) := by decide +kernel
theorem dX1_reckon_76 : decode cX1_reckon 76 = .ok (.invokestatic 57, 3) := by decide +kernel
theorem dX1_reckon_79 : decode cX1_reckon 79 = .ok (.invokevirtual 61, 3) := by decide +kernel
theorem dX1_reckon_82 : decode cX1_reckon 82 = .ok (.invokestatic 65, 3) := by decide +kernel
theorem dX1_reckon_85 : decode cX1_reckon 85 = .ok (.iinc 3 1, 3) := by decide +kernel
theorem dX1_reckon_88 : decode cX1_reckon 88 = .ok (.goto (-31), 3) := by decide +kernel
theorem dX1_reckon_91 : decode cX1_reckon 91 = .ok (.return_, 1) := by decide +kernel
theorem dX1_growTo_0 : decode cX1_growTo 0 = .ok (.aload_n 0, 1) := by decide +kernel
theorem dX1_growTo_1 : decode cX1_growTo 1 = .ok (.iload_n 1, 1) := by decide +kernel
theorem dX1_growTo_2 : decode cX1_growTo 2 = .ok (.newarray .int, 2) := by decide +kernel
theorem dX1_growTo_4 : decode cX1_growTo 4 = .ok (.putfield 15, 3) := by decide +kernel
theorem dX1_growTo_7 : decode cX1_growTo 7 = .ok (.aload_n 0, 1) := by decide +kernel
theorem dX1_growTo_8 : decode cX1_growTo 8 = .ok (.iload_n 1, 1) := by decide +kernel
theorem dX1_growTo_9 : decode cX1_growTo 9 = .ok (.newarray .int, 2) := by decide +kernel
theorem dX1_growTo_11 : decode cX1_growTo 11 = .ok (.putfield 19, 3) := by decide +kernel
theorem dX1_growTo_14 : decode cX1_growTo 14 = .ok (.aload_n 0, 1) := by decide +kernel
theorem dX1_growTo_15 : decode cX1_growTo 15 = .ok (.iload_n 1, 1) := by decide +kernel
theorem dX1_growTo_16 : decode cX1_growTo 16 = .ok (.newarray .int, 2) := by decide +kernel
theorem dX1_growTo_18 : decode cX1_growTo 18 = .ok (.putfield 22, 3) := by decide +kernel
theorem dX1_growTo_21 : decode cX1_growTo 21 = .ok (.aload_n 0, 1) := by decide +kernel
theorem dX1_growTo_22 : decode cX1_growTo 22 = .ok (.iload_n 1, 1) := by decide +kernel
theorem dX1_growTo_23 : decode cX1_growTo 23 = .ok (.newarray .int, 2) := by decide +kernel
theorem dX1_growTo_25 : decode cX1_growTo 25 = .ok (.putfield 25, 3) := by decide +kernel
theorem dX1_growTo_28 : decode cX1_growTo 28 = .ok (.aload_n 0, 1) := by decide +kernel
theorem dX1_growTo_29 : decode cX1_growTo 29 = .ok (.iload_n 1, 1) := by decide +kernel
theorem dX1_growTo_30 : decode cX1_growTo 30 = .ok (.newarray .int, 2) := by decide +kernel
theorem dX1_growTo_32 : decode cX1_growTo 32 = .ok (.putfield 28, 3) := by decide +kernel
theorem dX1_growTo_35 : decode cX1_growTo 35 = .ok (.iconst 0, 1) := by decide +kernel
theorem dX1_growTo_36 : decode cX1_growTo 36 = .ok (.istore_n 2, 1) := by decide +kernel
theorem dX1_growTo_37 : decode cX1_growTo 37 = .ok (.iload_n 2, 1) := by decide +kernel
theorem dX1_growTo_38 : decode cX1_growTo 38 = .ok (.bipush 7, 2) := by decide +kernel
theorem dX1_growTo_40 : decode cX1_growTo 40 = .ok (.if_icmp .ge 51, 3) := by decide +kernel
theorem dX1_growTo_43 : decode cX1_growTo 43 = .ok (.getstatic 69, 3) := by decide +kernel
theorem dX1_growTo_46 : decode cX1_growTo 46 = .ok (.iload_n 2, 1) := by decide +kernel
theorem dX1_growTo_47 : decode cX1_growTo 47 = .ok (.invokestatic 57, 3) := by decide +kernel
theorem dX1_growTo_50 : decode cX1_growTo 50 = .ok (.iload_n 1, 1) := by decide +kernel
theorem dX1_growTo_51 : decode cX1_growTo 51 = .ok (.if_icmp .ge 40, 3) := by decide +kernel
theorem dX1_growTo_54 : decode cX1_growTo 54 = .ok (.getstatic 69, 3) := by decide +kernel
theorem dX1_growTo_57 : decode cX1_growTo 57 = .ok (.iload_n 2, 1) := by decide +kernel
theorem dX1_growTo_58 : decode cX1_growTo 58 = .ok (.invokestatic 57, 3) := by decide +kernel
theorem dX1_growTo_61 : decode cX1_growTo 61 = .ok (.istore_n 3, 1) := by decide +kernel
theorem dX1_growTo_62 : decode cX1_growTo 62 = .ok (.iconst 0, 1) := by decide +kernel
theorem dX1_growTo_63 : decode cX1_growTo 63 = .ok (.istore 4, 2) := by decide +kernel
theorem dX1_growTo_65 : decode cX1_growTo 65 = .ok (.iload 4, 2) := by decide +kernel
theorem dX1_growTo_67 : decode cX1_growTo 67 = .ok (.iload_n 3, 1) := by decide +kernel
theorem dX1_growTo_68 : decode cX1_growTo 68 = .ok (.if_icmp .ge 17, 3) := by decide +kernel
theorem dX1_growTo_71 : decode cX1_growTo 71 = .ok (.aload_n 0, 1) := by decide +kernel
theorem dX1_growTo_72 : decode cX1_growTo 72 = .ok (.iload 4, 2) := by decide +kernel
theorem dX1_growTo_74 : decode cX1_growTo 74 = .ok (.iload_n 3, 1) := by decide +kernel
theorem dX1_growTo_75 : decode cX1_growTo 75 = .ok (.iload_n 2, 1) := by decide +kernel
theorem dX1_growTo_76 : decode cX1_growTo 76 = .ok (.invokevirtual 72, 3) := by decide +kernel
theorem dX1_growTo_79 : decode cX1_growTo 79 = .ok (.iinc 4 1, 3) := by decide +kernel
theorem dX1_growTo_82 : decode cX1_growTo 82 = .ok (.goto (-17), 3) := by decide +kernel
theorem dX1_growTo_85 : decode cX1_growTo 85 = .ok (.iinc 2 1, 3) := by decide +kernel
theorem dX1_growTo_88 : decode cX1_growTo 88 = .ok (.goto (-51), 3) := by decide +kernel
theorem dX1_growTo_91 : decode cX1_growTo 91 = .ok (.return_, 1) := by decide +kernel
theorem dX1_layCovers_0 : decode cX1_layCovers 0 = .ok (.iload_n 1, 1) := by decide +kernel
theorem dX1_layCovers_1 : decode cX1_layCovers 1 = .ok (.iload_n 2, 1) := by decide +kernel
theorem dX1_layCovers_2 : decode cX1_layCovers 2 = .ok (.iadd, 1) := by decide +kernel
theorem dX1_layCovers_3 : decode cX1_layCovers 3 = .ok (.istore 4, 2) := by decide +kernel
theorem dX1_layCovers_5 : decode cX1_layCovers 5 = .ok (.aload_n 0, 1) := by decide +kernel
theorem dX1_layCovers_6 : decode cX1_layCovers 6 = .ok (.getfield 15, 3) := by decide +kernel
theorem dX1_layCovers_9 : decode cX1_layCovers 9 = .ok (.iload 4, 2) := by decide +kernel
theorem dX1_layCovers_11 : decode cX1_layCovers 11 = .ok (.aload_n 0, 1) := by decide +kernel
theorem dX1_layCovers_12 : decode cX1_layCovers 12 = .ok (.getfield 15, 3) := by decide +kernel
theorem dX1_layCovers_15 : decode cX1_layCovers 15 = .ok (.iload_n 1, 1) := by decide +kernel
theorem dX1_layCovers_16 : decode cX1_layCovers 16 = .ok (.invokestatic 57, 3) := by decide +kernel
theorem dX1_layCovers_19 : decode cX1_layCovers 19 = .ok (.iconst 1, 1) := by decide +kernel
theorem dX1_layCovers_20 : decode cX1_layCovers 20 = .ok (.iload_n 3, 1) := by decide +kernel
theorem dX1_layCovers_21 : decode cX1_layCovers 21 = .ok (.ishl, 1) := by decide +kernel
theorem dX1_layCovers_22 : decode cX1_layCovers 22 = .ok (.ior, 1) := by decide +kernel
theorem dX1_layCovers_23 : decode cX1_layCovers 23 = .ok (.invokestatic 65, 3) := by decide +kernel
theorem dX1_layCovers_26 : decode cX1_layCovers 26 = .ok (.aload_n 0, 1) := by decide +kernel
theorem dX1_layCovers_27 : decode cX1_layCovers 27 = .ok (.getfield 19, 3) := by decide +kernel
theorem dX1_layCovers_30 : decode cX1_layCovers 30 = .ok (.iload 4, 2) := by decide +kernel
theorem dX1_layCovers_32 : decode cX1_layCovers 32 = .ok (.aload_n 0, 1) := by decide +kernel
theorem dX1_layCovers_33 : decode cX1_layCovers 33 = .ok (.getfield 19, 3) := by decide +kernel
theorem dX1_layCovers_36 : decode cX1_layCovers 36 = .ok (.iload_n 1, 1) := by decide +kernel
theorem dX1_layCovers_37 : decode cX1_layCovers 37 = .ok (.invokestatic 57, 3) := by decide +kernel
theorem dX1_layCovers_40 : decode cX1_layCovers 40 = .ok (.iconst 1, 1) := by decide +kernel
theorem dX1_layCovers_41 : decode cX1_layCovers 41 = .ok (.iadd, 1) := by decide +kernel
theorem dX1_layCovers_42 : decode cX1_layCovers 42 = .ok (.invokestatic 65, 3) := by decide +kernel
theorem dX1_layCovers_45 : decode cX1_layCovers 45 = .ok (.aload_n 0, 1) := by decide +kernel
theorem dX1_layCovers_46 : decode cX1_layCovers 46 = .ok (.getfield 22, 3) := by decide +kernel
theorem dX1_layCovers_49 : decode cX1_layCovers 49 = .ok (.iload 4, 2) := by decide +kernel
theorem dX1_layCovers_51 : decode cX1_layCovers 51 = .ok (.aload_n 0, 1) := by decide +kernel
theorem dX1_layCovers_52 : decode cX1_layCovers 52 = .ok (.getfield 22, 3) := by decide +kernel
theorem dX1_layCovers_55 : decode cX1_layCovers 55 = .ok (.iload_n 1, 1) := by decide +kernel
theorem dX1_layCovers_56 : decode cX1_layCovers 56 = .ok (.invokestatic 57, 3) := by decide +kernel
theorem dX1_layCovers_59 : decode cX1_layCovers 59 = .ok (.invokestatic 65, 3) := by decide +kernel
theorem dX1_layCovers_62 : decode cX1_layCovers 62 = .ok (.iload 4, 2) := by decide +kernel
theorem dX1_layCovers_64 : decode cX1_layCovers 64 = .ok (.iload_n 2, 1) := by decide +kernel
theorem dX1_layCovers_65 : decode cX1_layCovers 65 = .ok (.iadd, 1) := by decide +kernel
theorem dX1_layCovers_66 : decode cX1_layCovers 66 = .ok (.istore 5, 2) := by decide +kernel
theorem dX1_layCovers_68 : decode cX1_layCovers 68 = .ok (.iload_n 1, 1) := by decide +kernel
theorem dX1_layCovers_69 : decode cX1_layCovers 69 = .ok (.iload_n 2, 1) := by decide +kernel
theorem dX1_layCovers_70 : decode cX1_layCovers 70 = .ok (.iconst 1, 1) := by decide +kernel
theorem dX1_layCovers_71 : decode cX1_layCovers 71 = .ok (.isub, 1) := by decide +kernel
theorem dX1_layCovers_72 : decode cX1_layCovers 72 = .ok (.if_icmp .ne 7, 3) := by decide +kernel
theorem dX1_layCovers_75 : decode cX1_layCovers 75 = .ok (.iconst 1, 1) := by decide +kernel
theorem dX1_layCovers_76 : decode cX1_layCovers 76 = .ok (.goto 4, 3) := by decide +kernel
theorem dX1_layCovers_79 : decode cX1_layCovers 79 = .ok (.iconst 0, 1) := by decide +kernel
theorem dX1_layCovers_80 : decode cX1_layCovers 80 = .ok (.istore 6, 2) := by decide +kernel
theorem dX1_layCovers_82 : decode cX1_layCovers 82 = .ok (.aload_n 0, 1) := by decide +kernel
theorem dX1_layCovers_83 : decode cX1_layCovers 83 = .ok (.getfield 15, 3) := by decide +kernel
theorem dX1_layCovers_86 : decode cX1_layCovers 86 = .ok (.iload 5, 2) := by decide +kernel
theorem dX1_layCovers_88 : decode cX1_layCovers 88 = .ok (.aload_n 0, 1) := by decide +kernel
theorem dX1_layCovers_89 : decode cX1_layCovers 89 = .ok (.getfield 15, 3) := by decide +kernel
theorem dX1_layCovers_92 : decode cX1_layCovers 92 = .ok (.iload_n 1, 1) := by decide +kernel
theorem dX1_layCovers_93 : decode cX1_layCovers 93 = .ok (.invokestatic 57, 3) := by decide +kernel
theorem dX1_layCovers_96 : decode cX1_layCovers 96 = .ok (.iconst 1, 1) := by decide +kernel
theorem dX1_layCovers_97 : decode cX1_layCovers 97 = .ok (.iload_n 3, 1) := by decide +kernel
theorem dX1_layCovers_98 : decode cX1_layCovers 98 = .ok (.bipush 7, 2) := by decide +kernel
theorem dX1_layCovers_100 : decode cX1_layCovers 100 = .ok (.iadd, 1) := by decide +kernel
theorem dX1_layCovers_101 : decode cX1_layCovers 101 = .ok (.ishl, 1) := by decide +kernel
theorem dX1_layCovers_102 : decode cX1_layCovers 102 = .ok (.ior, 1) := by decide +kernel
theorem dX1_layCovers_103 : decode cX1_layCovers 103 = .ok (.invokestatic 65, 3) := by decide +kernel
theorem dX1_layCovers_106 : decode cX1_layCovers 106 = .ok (.aload_n 0, 1) := by decide +kernel
theorem dX1_layCovers_107 : decode cX1_layCovers 107 = .ok (.getfield 19, 3) := by decide +kernel
theorem dX1_layCovers_110 : decode cX1_layCovers 110 = .ok (.iload 5, 2) := by decide +kernel
theorem dX1_layCovers_112 : decode cX1_layCovers 112 = .ok (.aload_n 0, 1) := by decide +kernel
theorem dX1_layCovers_113 : decode cX1_layCovers 113 = .ok (.getfield 19, 3) := by decide +kernel
theorem dX1_layCovers_116 : decode cX1_layCovers 116 = .ok (.iload_n 1, 1) := by decide +kernel
theorem dX1_layCovers_117 : decode cX1_layCovers 117 = .ok (.invokestatic 57, 3) := by decide +kernel
theorem dX1_layCovers_120 : decode cX1_layCovers 120 = .ok (.invokestatic 65, 3) := by decide +kernel
theorem dX1_layCovers_123 : decode cX1_layCovers 123 = .ok (.aload_n 0, 1) := by decide +kernel
theorem dX1_layCovers_124 : decode cX1_layCovers 124 = .ok (.getfield 22, 3) := by decide +kernel
theorem dX1_layCovers_127 : decode cX1_layCovers 127 = .ok (.iload 5, 2) := by decide +kernel
theorem dX1_layCovers_129 : decode cX1_layCovers 129 = .ok (.aload_n 0, 1) := by decide +kernel
theorem dX1_layCovers_130 : decode cX1_layCovers 130 = .ok (.getfield 22, 3) := by decide +kernel
theorem dX1_layCovers_133 : decode cX1_layCovers 133 = .ok (.iload_n 1, 1) := by decide +kernel
theorem dX1_layCovers_134 : decode cX1_layCovers 134 = .ok (.invokestatic 57, 3) := by decide +kernel
theorem dX1_layCovers_137 : decode cX1_layCovers 137 = .ok (.iload 6, 2) := by decide +kernel
theorem dX1_layCovers_139 : decode cX1_layCovers 139 = .ok (.ifCond .eq 7, 3) := by decide +kernel
theorem dX1_layCovers_142 : decode cX1_layCovers 142 = .ok (.iconst 0, 1) := by decide +kernel
theorem dX1_layCovers_143 : decode cX1_layCovers 143 = .ok (.goto 4, 3) := by decide +kernel
theorem dX1_layCovers_146 : decode cX1_layCovers 146 = .ok (.iconst 1, 1) := by decide +kernel
theorem dX1_layCovers_147 : decode cX1_layCovers 147 = .ok (.iadd, 1) := by decide +kernel
theorem dX1_layCovers_148 : decode cX1_layCovers 148 = .ok (.invokestatic 65, 3) := by decide +kernel
theorem dX1_layCovers_151 : decode cX1_layCovers 151 = .ok (.return_, 1) := by decide +kernel
theorem dX1_layLengths_0 : decode cX1_layLengths 0 = .ok (.aload_n 0, 1) := by decide +kernel
theorem dX1_layLengths_1 : decode cX1_layLengths 1 = .ok (.getfield 25, 3) := by decide +kernel
theorem dX1_layLengths_4 : decode cX1_layLengths 4 = .ok (.iconst 0, 1) := by decide +kernel
theorem dX1_layLengths_5 : decode cX1_layLengths 5 = .ok (.iload_n 2, 1) := by decide +kernel
theorem dX1_layLengths_6 : decode cX1_layLengths 6 = .ok (.invokestatic 65, 3) := by decide +kernel
theorem dX1_layLengths_9 : decode cX1_layLengths 9 = .ok (.aload_n 1, 1) := by decide +kernel
theorem dX1_layLengths_10 : decode cX1_layLengths 10 = .ok (.getfield 76, 3) := by decide +kernel
theorem dX1_layLengths_13 : decode cX1_layLengths 13 = .ok (.iconst 1, 1) := by decide +kernel
theorem dX1_layLengths_14 : decode cX1_layLengths 14 = .ok (.isub, 1) := by decide +kernel
theorem dX1_layLengths_15 : decode cX1_layLengths 15 = .ok (.istore_n 3, 1) := by decide +kernel
theorem dX1_layLengths_16 : decode cX1_layLengths 16 = .ok (.iload_n 3, 1) := by decide +kernel
theorem dX1_layLengths_17 : decode cX1_layLengths 17 = .ok (.ifCond .lt 144, 3) := by decide +kernel
theorem dX1_layLengths_20 : decode cX1_layLengths 20 = .ok (.iconst 1, 1) := by decide +kernel
theorem dX1_layLengths_21 : decode cX1_layLengths 21 = .ok (.getstatic 69, 3) := by decide +kernel
theorem dX1_layLengths_24 : decode cX1_layLengths 24 = .ok (.iload_n 3, 1) := by decide +kernel
theorem dX1_layLengths_25 : decode cX1_layLengths 25 = .ok (.invokestatic 57, 3) := by decide +kernel
theorem dX1_layLengths_28 : decode cX1_layLengths 28 = .ok (.invokestatic 79, 3) := by decide +kernel
theorem dX1_layLengths_31 : decode cX1_layLengths 31 = .ok (.istore 4, 2) := by decide +kernel
theorem dX1_layLengths_33 : decode cX1_layLengths 33 = .ok (.aload_n 1, 1) := by decide +kernel
theorem dX1_layLengths_34 : decode cX1_layLengths 34 = .ok (.getfield 85, 3) := by decide +kernel
theorem dX1_layLengths_37 : decode cX1_layLengths 37 = .ok (.iload_n 3, 1) := by decide +kernel
theorem dX1_layLengths_38 : decode cX1_layLengths 38 = .ok (.invokestatic 57, 3) := by decide +kernel
theorem dX1_layLengths_41 : decode cX1_layLengths 41 = .ok (.istore 5, 2) := by decide +kernel
theorem dX1_layLengths_43 : decode cX1_layLengths 43 = .ok (.aload_n 1, 1) := by decide +kernel
theorem dX1_layLengths_44 : decode cX1_layLengths 44 = .ok (.getfield 88, 3) := by decide +kernel
theorem dX1_layLengths_47 : decode cX1_layLengths 47 = .ok (.iload_n 3, 1) := by decide +kernel
theorem dX1_layLengths_48 : decode cX1_layLengths 48 = .ok (.invokestatic 57, 3) := by decide +kernel
theorem dX1_layLengths_51 : decode cX1_layLengths 51 = .ok (.istore 6, 2) := by decide +kernel
theorem dX1_layLengths_53 : decode cX1_layLengths 53 = .ok (.iconst 0, 1) := by decide +kernel
theorem dX1_layLengths_54 : decode cX1_layLengths 54 = .ok (.istore 7, 2) := by decide +kernel
theorem dX1_layLengths_56 : decode cX1_layLengths 56 = .ok (.iload 7, 2) := by decide +kernel
theorem dX1_layLengths_58 : decode cX1_layLengths 58 = .ok (.aload_n 0, 1) := by decide +kernel
theorem dX1_layLengths_59 : decode cX1_layLengths 59 = .ok (.getfield 9, 3) := by decide +kernel
theorem dX1_layLengths_62 : decode cX1_layLengths 62 = .ok (.if_icmp .ge 93, 3) := by decide +kernel
theorem dX1_layLengths_65 : decode cX1_layLengths 65 = .ok (.aload_n 0, 1) := by decide +kernel
theorem dX1_layLengths_66 : decode cX1_layLengths 66 = .ok (.getfield 25, 3) := by decide +kernel
theorem dX1_layLengths_69 : decode cX1_layLengths 69 = .ok (.iload 7, 2) := by decide +kernel
theorem dX1_layLengths_71 : decode cX1_layLengths 71 = .ok (.invokestatic 57, 3) := by decide +kernel
theorem dX1_layLengths_74 : decode cX1_layLengths 74 = .ok (.istore 8, 2) := by decide +kernel
theorem dX1_layLengths_76 : decode cX1_layLengths 76 = .ok (.aload_n 0, 1) := by decide +kernel
theorem dX1_layLengths_77 : decode cX1_layLengths 77 = .ok (.getfield 25, 3) := by decide +kernel
theorem dX1_layLengths_80 : decode cX1_layLengths 80 = .ok (.iload 7, 2) := by decide +kernel
theorem dX1_layLengths_82 : decode cX1_layLengths 82 = .ok (.aload_n 1, 1) := by decide +kernel
theorem dX1_layLengths_83 : decode cX1_layLengths 83 = .ok (.getfield 47, 3) := by decide +kernel
theorem dX1_layLengths_86 : decode cX1_layLengths 86 = .ok (.iload 6, 2) := by decide +kernel
theorem dX1_layLengths_88 : decode cX1_layLengths 88 = .ok (.iload 5, 2) := by decide +kernel
theorem dX1_layLengths_90 : decode cX1_layLengths 90 = .ok (.iload 8, 2) := by decide +kernel
theorem dX1_layLengths_92 : decode cX1_layLengths 92 = .ok (.invokestatic 91, 3) := by decide +kernel
theorem dX1_layLengths_95 : decode cX1_layLengths 95 = .ok (.invokestatic 65, 3) := by decide +kernel
theorem dX1_layLengths_98 : decode cX1_layLengths 98 = .ok (.aload_n 0, 1) := by decide +kernel
theorem dX1_layLengths_99 : decode cX1_layLengths 99 = .ok (.getfield 25, 3) := by decide +kernel
theorem dX1_layLengths_102 : decode cX1_layLengths 102 = .ok (.iload 7, 2) := by decide +kernel
theorem dX1_layLengths_104 : decode cX1_layLengths 104 = .ok (.iload 4, 2) := by decide +kernel
theorem dX1_layLengths_106 : decode cX1_layLengths 106 = .ok (.iadd, 1) := by decide +kernel
theorem dX1_layLengths_107 : decode cX1_layLengths 107 = .ok (.aload_n 1, 1) := by decide +kernel
theorem dX1_layLengths_108 : decode cX1_layLengths 108 = .ok (.getfield 47, 3) := by decide +kernel
theorem dX1_layLengths_111 : decode cX1_layLengths 111 = .ok (.iload 6, 2) := by decide +kernel
theorem dX1_layLengths_113 : decode cX1_layLengths 113 = .ok (.iload 5, 2) := by decide +kernel
theorem dX1_layLengths_115 : decode cX1_layLengths 115 = .ok (.iconst 1, 1) := by decide +kernel
theorem dX1_layLengths_116 : decode cX1_layLengths 116 = .ok (.iadd, 1) := by decide +kernel
theorem dX1_layLengths_117 : decode cX1_layLengths 117 = .ok (.iconst 2, 1) := by decide +kernel
theorem dX1_layLengths_118 : decode cX1_layLengths 118 = .ok (.idiv, 1) := by decide +kernel
theorem dX1_layLengths_119 : decode cX1_layLengths 119 = .ok (.iload 8, 2) := by decide +kernel
theorem dX1_layLengths_121 : decode cX1_layLengths 121 = .ok (.invokestatic 91, 3) := by decide +kernel
theorem dX1_layLengths_124 : decode cX1_layLengths 124 = .ok (.invokestatic 65, 3) := by decide +kernel
theorem dX1_layLengths_127 : decode cX1_layLengths 127 = .ok (.aload_n 0, 1) := by decide +kernel
theorem dX1_layLengths_128 : decode cX1_layLengths 128 = .ok (.getfield 25, 3) := by decide +kernel
theorem dX1_layLengths_131 : decode cX1_layLengths 131 = .ok (.iload 7, 2) := by decide +kernel
theorem dX1_layLengths_133 : decode cX1_layLengths 133 = .ok (.iconst 2, 1) := by decide +kernel
theorem dX1_layLengths_134 : decode cX1_layLengths 134 = .ok (.iload 4, 2) := by decide +kernel
theorem dX1_layLengths_136 : decode cX1_layLengths 136 = .ok (.imul, 1) := by decide +kernel
theorem dX1_layLengths_137 : decode cX1_layLengths 137 = .ok (.iadd, 1) := by decide +kernel
theorem dX1_layLengths_138 : decode cX1_layLengths 138 = .ok (.iload 8, 2) := by decide +kernel
theorem dX1_layLengths_140 : decode cX1_layLengths 140 = .ok (.invokestatic 65, 3) := by decide +kernel
theorem dX1_layLengths_143 : decode cX1_layLengths 143 = .ok (.iload 7, 2) := by decide +kernel
theorem dX1_layLengths_145 : decode cX1_layLengths 145 = .ok (.iconst 3, 1) := by decide +kernel
theorem dX1_layLengths_146 : decode cX1_layLengths 146 = .ok (.iload 4, 2) := by decide +kernel
theorem dX1_layLengths_148 : decode cX1_layLengths 148 = .ok (.imul, 1) := by decide +kernel
theorem dX1_layLengths_149 : decode cX1_layLengths 149 = .ok (.iadd, 1) := by decide +kernel
theorem dX1_layLengths_150 : decode cX1_layLengths 150 = .ok (.istore 7, 2) := by decide +kernel
theorem dX1_layLengths_152 : decode cX1_layLengths 152 = .ok (.goto (-96), 3) := by decide +kernel
theorem dX1_layLengths_155 : decode cX1_layLengths 155 = .ok (.iinc 3 (-1), 3) := by decide +kernel
theorem dX1_layLengths_158 : decode cX1_layLengths 158 = .ok (.goto (-142), 3) := by decide +kernel
theorem dX1_layLengths_161 : decode cX1_layLengths 161 = .ok (.return_, 1) := by decide +kernel
theorem dX1_lengthBy_0 : decode cX1_lengthBy 0 = .ok (.bipush 10, 2) := by decide +kernel
theorem dX1_lengthBy_2 : decode cX1_lengthBy 2 = .ok (.iload_n 1, 1) := by decide +kernel
theorem dX1_lengthBy_3 : decode cX1_lengthBy 3 = .ok (.imul, 1) := by decide +kernel
theorem dX1_lengthBy_4 : decode cX1_lengthBy 4 = .ok (.iconst 5, 1) := by decide +kernel
theorem dX1_lengthBy_5 : decode cX1_lengthBy 5 = .ok (.iload_n 0, 1) := by decide +kernel
theorem dX1_lengthBy_6 : decode cX1_lengthBy 6 = .ok (.imul, 1) := by decide +kernel
theorem dX1_lengthBy_7 : decode cX1_lengthBy 7 = .ok (.iload_n 0, 1) := by decide +kernel
theorem dX1_lengthBy_8 : decode cX1_lengthBy 8 = .ok (.imul, 1) := by decide +kernel
theorem dX1_lengthBy_9 : decode cX1_lengthBy 9 = .ok (.iload_n 2, 1) := by decide +kernel
theorem dX1_lengthBy_10 : decode cX1_lengthBy 10 = .ok (.invokestatic 95, 3) := by decide +kernel
theorem dX1_lengthBy_13 : decode cX1_lengthBy 13 = .ok (.iadd, 1) := by decide +kernel
theorem dX1_lengthBy_14 : decode cX1_lengthBy 14 = .ok (.istore 4, 2) := by decide +kernel
theorem dX1_lengthBy_16 : decode cX1_lengthBy 16 = .ok (.iload 4, 2) := by decide +kernel
theorem dX1_lengthBy_18 : decode cX1_lengthBy 18 = .ok (.iload_n 3, 1) := by decide +kernel
theorem dX1_lengthBy_19 : decode cX1_lengthBy 19 = .ok (.if_icmp .ge 19, 3) := by decide +kernel
theorem dX1_lengthBy_22 : decode cX1_lengthBy 22 = .ok (.iload 4, 2) := by decide +kernel
theorem dX1_lengthBy_24 : decode cX1_lengthBy 24 = .ok (.iload_n 3, 1) := by decide +kernel
theorem dX1_lengthBy_25 : decode cX1_lengthBy 25 = .ok (.iload 4, 2) := by decide +kernel
theorem dX1_lengthBy_27 : decode cX1_lengthBy 27 = .ok (.isub, 1) := by decide +kernel
theorem dX1_lengthBy_28 : decode cX1_lengthBy 28 = .ok (.iconst 1, 1) := by decide +kernel
theorem dX1_lengthBy_29 : decode cX1_lengthBy 29 = .ok (.iload_n 2, 1) := by decide +kernel
theorem dX1_lengthBy_30 : decode cX1_lengthBy 30 = .ok (.iadd, 1) := by decide +kernel
theorem dX1_lengthBy_31 : decode cX1_lengthBy 31 = .ok (.invokestatic 95, 3) := by decide +kernel
theorem dX1_lengthBy_34 : decode cX1_lengthBy 34 = .ok (.iadd, 1) := by decide +kernel
theorem dX1_lengthBy_35 : decode cX1_lengthBy 35 = .ok (.goto 4, 3) := by decide +kernel
theorem dX1_lengthBy_38 : decode cX1_lengthBy 38 = .ok (.iload_n 3, 1) := by decide +kernel
theorem dX1_lengthBy_39 : decode cX1_lengthBy 39 = .ok (.ireturn, 1) := by decide +kernel
theorem dX1_laySteps_0 : decode cX1_laySteps 0 = .ok (.ldc2_w 98, 3) := by decide +kernel
theorem dX1_laySteps_3 : decode cX1_laySteps 3 = .ok (.iload_n 1, 1) := by decide +kernel
theorem dX1_laySteps_4 : decode cX1_laySteps 4 = .ok (.i2l, 1) := by decide +kernel
theorem dX1_laySteps_5 : decode cX1_laySteps 5 = .ok (.lmul, 1) := by decide +kernel
theorem dX1_laySteps_6 : decode cX1_laySteps 6 = .ok (.lstore_n 2, 1) := by decide +kernel
theorem dX1_laySteps_7 : decode cX1_laySteps 7 = .ok (.iconst 0, 1) := by decide +kernel
theorem dX1_laySteps_8 : decode cX1_laySteps 8 = .ok (.istore 4, 2) := by decide +kernel
theorem dX1_laySteps_10 : decode cX1_laySteps 10 = .ok (.iload 4, 2) := by decide +kernel
theorem dX1_laySteps_12 : decode cX1_laySteps 12 = .ok (.bipush 48, 2) := by decide +kernel
theorem dX1_laySteps_14 : decode cX1_laySteps 14 = .ok (.if_icmp .gt 30, 3) := by decide +kernel
theorem dX1_laySteps_17 : decode cX1_laySteps 17 = .ok (.aload_n 0, 1) := by decide +kernel
theorem dX1_laySteps_18 : decode cX1_laySteps 18 = .ok (.getfield 31, 3) := by decide +kernel
theorem dX1_laySteps_21 : decode cX1_laySteps 21 = .ok (.iload 4, 2) := by decide +kernel
theorem dX1_laySteps_23 : decode cX1_laySteps 23 = .ok (.lload_n 2, 1) := by decide +kernel
theorem dX1_laySteps_24 : decode cX1_laySteps 24 = .ok (.l2i, 1) := by decide +kernel
theorem dX1_laySteps_25 : decode cX1_laySteps 25 = .ok (.invokestatic 65, 3) := by decide +kernel
theorem dX1_laySteps_28 : decode cX1_laySteps 28 = .ok (.lload_n 2, 1) := by decide +kernel
theorem dX1_laySteps_29 : decode cX1_laySteps 29 = .ok (.ldc2_w 100, 3) := by decide +kernel
theorem dX1_laySteps_32 : decode cX1_laySteps 32 = .ok (.lmul, 1) := by decide +kernel
theorem dX1_laySteps_33 : decode cX1_laySteps 33 = .ok (.ldc2_w 102, 3) := by decide +kernel
theorem dX1_laySteps_36 : decode cX1_laySteps 36 = .ok (.ldiv, 1) := by decide +kernel
theorem dX1_laySteps_37 : decode cX1_laySteps 37 = .ok (.lstore_n 2, 1) := by decide +kernel
theorem dX1_laySteps_38 : decode cX1_laySteps 38 = .ok (.iinc 4 1, 3) := by decide +kernel
theorem dX1_laySteps_41 : decode cX1_laySteps 41 = .ok (.goto (-31), 3) := by decide +kernel
theorem dX1_laySteps_44 : decode cX1_laySteps 44 = .ok (.return_, 1) := by decide +kernel
theorem dX1_pitchOf_0 : decode cX1_pitchOf 0 = .ok (.sipush 1000, 3) := by decide +kernel
theorem dX1_pitchOf_3 : decode cX1_pitchOf 3 = .ok (.iload_n 1, 1) := by decide +kernel
theorem dX1_pitchOf_4 : decode cX1_pitchOf 4 = .ok (.imul, 1) := by decide +kernel
theorem dX1_pitchOf_5 : decode cX1_pitchOf 5 = .ok (.istore_n 2, 1) := by decide +kernel
theorem dX1_pitchOf_6 : decode cX1_pitchOf 6 = .ok (.iconst 0, 1) := by decide +kernel
theorem dX1_pitchOf_7 : decode cX1_pitchOf 7 = .ok (.istore_n 3, 1) := by decide +kernel
theorem dX1_pitchOf_8 : decode cX1_pitchOf 8 = .ok (.iload_n 3, 1) := by decide +kernel
theorem dX1_pitchOf_9 : decode cX1_pitchOf 9 = .ok (.bipush 47, 2) := by decide +kernel
theorem dX1_pitchOf_11 : decode cX1_pitchOf 11 = .ok (.if_icmp .ge 23, 3) := by decide +kernel
theorem dX1_pitchOf_14 : decode cX1_pitchOf 14 = .ok (.aload_n 0, 1) := by decide +kernel
theorem dX1_pitchOf_15 : decode cX1_pitchOf 15 = .ok (.getfield 31, 3) := by decide +kernel
theorem dX1_pitchOf_18 : decode cX1_pitchOf 18 = .ok (.iload_n 3, 1) := by decide +kernel
theorem dX1_pitchOf_19 : decode cX1_pitchOf 19 = .ok (.iconst 1, 1) := by decide +kernel
theorem dX1_pitchOf_20 : decode cX1_pitchOf 20 = .ok (.iadd, 1) := by decide +kernel
theorem dX1_pitchOf_21 : decode cX1_pitchOf 21 = .ok (.invokestatic 57, 3) := by decide +kernel
theorem dX1_pitchOf_24 : decode cX1_pitchOf 24 = .ok (.iload_n 2, 1) := by decide +kernel
theorem dX1_pitchOf_25 : decode cX1_pitchOf 25 = .ok (.if_icmp .lt 9, 3) := by decide +kernel
theorem dX1_pitchOf_28 : decode cX1_pitchOf 28 = .ok (.iinc 3 1, 3) := by decide +kernel
theorem dX1_pitchOf_31 : decode cX1_pitchOf 31 = .ok (.goto (-23), 3) := by decide +kernel
theorem dX1_pitchOf_34 : decode cX1_pitchOf 34 = .ok (.aload_n 0, 1) := by decide +kernel
theorem dX1_pitchOf_35 : decode cX1_pitchOf 35 = .ok (.getfield 31, 3) := by decide +kernel
theorem dX1_pitchOf_38 : decode cX1_pitchOf 38 = .ok (.iload_n 3, 1) := by decide +kernel
theorem dX1_pitchOf_39 : decode cX1_pitchOf 39 = .ok (.invokestatic 57, 3) := by decide +kernel
theorem dX1_pitchOf_42 : decode cX1_pitchOf 42 = .ok (.istore 4, 2) := by decide +kernel
theorem dX1_pitchOf_44 : decode cX1_pitchOf 44 = .ok (.bipush 100, 2) := by decide +kernel
theorem dX1_pitchOf_46 : decode cX1_pitchOf 46 = .ok (.iload_n 3, 1) := by decide +kernel
theorem dX1_pitchOf_47 : decode cX1_pitchOf 47 = .ok (.imul, 1) := by decide +kernel
theorem dX1_pitchOf_48 : decode cX1_pitchOf 48 = .ok (.bipush 100, 2) := by decide +kernel
theorem dX1_pitchOf_50 : decode cX1_pitchOf 50 = .ok (.iload 4, 2) := by decide +kernel
theorem dX1_pitchOf_52 : decode cX1_pitchOf 52 = .ok (.iload_n 2, 1) := by decide +kernel
theorem dX1_pitchOf_53 : decode cX1_pitchOf 53 = .ok (.isub, 1) := by decide +kernel
theorem dX1_pitchOf_54 : decode cX1_pitchOf 54 = .ok (.imul, 1) := by decide +kernel
theorem dX1_pitchOf_55 : decode cX1_pitchOf 55 = .ok (.iload 4, 2) := by decide +kernel
theorem dX1_pitchOf_57 : decode cX1_pitchOf 57 = .ok (.aload_n 0, 1) := by decide +kernel
theorem dX1_pitchOf_58 : decode cX1_pitchOf 58 = .ok (.getfield 31, 3) := by decide +kernel
theorem dX1_pitchOf_61 : decode cX1_pitchOf 61 = .ok (.iload_n 3, 1) := by decide +kernel
theorem dX1_pitchOf_62 : decode cX1_pitchOf 62 = .ok (.iconst 1, 1) := by decide +kernel
theorem dX1_pitchOf_63 : decode cX1_pitchOf 63 = .ok (.iadd, 1) := by decide +kernel
theorem dX1_pitchOf_64 : decode cX1_pitchOf 64 = .ok (.invokestatic 57, 3) := by decide +kernel
theorem dX1_pitchOf_67 : decode cX1_pitchOf 67 = .ok (.isub, 1) := by decide +kernel
theorem dX1_pitchOf_68 : decode cX1_pitchOf 68 = .ok (.invokestatic 95, 3) := by decide +kernel
theorem dX1_pitchOf_71 : decode cX1_pitchOf 71 = .ok (.iadd, 1) := by decide +kernel
theorem dX1_pitchOf_72 : decode cX1_pitchOf 72 = .ok (.istore 5, 2) := by decide +kernel
theorem dX1_pitchOf_74 : decode cX1_pitchOf 74 = .ok (.iload 5, 2) := by decide +kernel
theorem dX1_pitchOf_76 : decode cX1_pitchOf 76 = .ok (.sipush 4800, 3) := by decide +kernel
theorem dX1_pitchOf_79 : decode cX1_pitchOf 79 = .ok (.invokestatic 104, 3) := by decide +kernel
theorem dX1_pitchOf_82 : decode cX1_pitchOf 82 = .ok (.ireturn, 1) := by decide +kernel
theorem dX1_fingeringOf_0 : decode cX1_fingeringOf 0 = .ok (.iload_n 1, 1) := by decide +kernel
theorem dX1_fingeringOf_1 : decode cX1_fingeringOf 1 = .ok (.aload_n 0, 1) := by decide +kernel
theorem dX1_fingeringOf_2 : decode cX1_fingeringOf 2 = .ok (.getfield 9, 3) := by decide +kernel
theorem dX1_fingeringOf_5 : decode cX1_fingeringOf 5 = .ok (.if_icmp .ge 7, 3) := by decide +kernel
theorem dX1_fingeringOf_8 : decode cX1_fingeringOf 8 = .ok (.iload_n 1, 1) := by decide +kernel
theorem dX1_fingeringOf_9 : decode cX1_fingeringOf 9 = .ok (.goto 9, 3) := by decide +kernel
theorem dX1_fingeringOf_12 : decode cX1_fingeringOf 12 = .ok (.iload_n 1, 1) := by decide +kernel
theorem dX1_fingeringOf_13 : decode cX1_fingeringOf 13 = .ok (.aload_n 0, 1) := by decide +kernel
theorem dX1_fingeringOf_14 : decode cX1_fingeringOf 14 = .ok (.getfield 9, 3) := by decide +kernel
theorem dX1_fingeringOf_17 : decode cX1_fingeringOf 17 = .ok (.isub, 1) := by decide +kernel
theorem dX1_fingeringOf_18 : decode cX1_fingeringOf 18 = .ok (.ireturn, 1) := by decide +kernel
theorem dX1_centsOf_0 : decode cX1_centsOf 0 = .ok (.aload_n 0, 1) := by decide +kernel
theorem dX1_centsOf_1 : decode cX1_centsOf 1 = .ok (.getfield 28, 3) := by decide +kernel
theorem dX1_centsOf_4 : decode cX1_centsOf 4 = .ok (.aload_n 0, 1) := by decide +kernel
theorem dX1_centsOf_5 : decode cX1_centsOf 5 = .ok (.iload_n 1, 1) := by decide +kernel
theorem dX1_centsOf_6 : decode cX1_centsOf 6 = .ok (.invokevirtual 107, 3) := by decide +kernel
theorem dX1_centsOf_9 : decode cX1_centsOf 9 = .ok (.invokestatic 57, 3) := by decide +kernel
theorem dX1_centsOf_12 : decode cX1_centsOf 12 = .ok (.iload_n 1, 1) := by decide +kernel
theorem dX1_centsOf_13 : decode cX1_centsOf 13 = .ok (.aload_n 0, 1) := by decide +kernel
theorem dX1_centsOf_14 : decode cX1_centsOf 14 = .ok (.getfield 9, 3) := by decide +kernel
theorem dX1_centsOf_17 : decode cX1_centsOf 17 = .ok (.if_icmp .ge 7, 3) := by decide +kernel
theorem dX1_centsOf_20 : decode cX1_centsOf 20 = .ok (.iconst 0, 1) := by decide +kernel
theorem dX1_centsOf_21 : decode cX1_centsOf 21 = .ok (.goto 6, 3) := by decide +kernel
theorem dX1_centsOf_24 : decode cX1_centsOf 24 = .ok (.sipush 1200, 3) := by decide +kernel
theorem dX1_centsOf_27 : decode cX1_centsOf 27 = .ok (.iadd, 1) := by decide +kernel
theorem dX1_centsOf_28 : decode cX1_centsOf 28 = .ok (.ireturn, 1) := by decide +kernel
theorem dX1_codeOf_0 : decode cX1_codeOf 0 = .ok (.aload_n 0, 1) := by decide +kernel
theorem dX1_codeOf_1 : decode cX1_codeOf 1 = .ok (.getfield 15, 3) := by decide +kernel
theorem dX1_codeOf_4 : decode cX1_codeOf 4 = .ok (.aload_n 0, 1) := by decide +kernel
theorem dX1_codeOf_5 : decode cX1_codeOf 5 = .ok (.iload_n 1, 1) := by decide +kernel
theorem dX1_codeOf_6 : decode cX1_codeOf 6 = .ok (.invokevirtual 107, 3) := by decide +kernel
theorem dX1_codeOf_9 : decode cX1_codeOf 9 = .ok (.invokestatic 57, 3) := by decide +kernel
theorem dX1_codeOf_12 : decode cX1_codeOf 12 = .ok (.iload_n 1, 1) := by decide +kernel
theorem dX1_codeOf_13 : decode cX1_codeOf 13 = .ok (.aload_n 0, 1) := by decide +kernel
theorem dX1_codeOf_14 : decode cX1_codeOf 14 = .ok (.getfield 9, 3) := by decide +kernel
theorem dX1_codeOf_17 : decode cX1_codeOf 17 = .ok (.if_icmp .ge 7, 3) := by decide +kernel
theorem dX1_codeOf_20 : decode cX1_codeOf 20 = .ok (.iconst 0, 1) := by decide +kernel
theorem dX1_codeOf_21 : decode cX1_codeOf 21 = .ok (.goto 6, 3) := by decide +kernel
theorem dX1_codeOf_24 : decode cX1_codeOf 24 = .ok (.sipush 16384, 3) := by decide +kernel
theorem dX1_codeOf_27 : decode cX1_codeOf 27 = .ok (.ior, 1) := by decide +kernel
theorem dX1_codeOf_28 : decode cX1_codeOf 28 = .ok (.ireturn, 1) := by decide +kernel
theorem dX2_init_0 : decode cX2_init 0 = .ok (.aload_n 0, 1) := by decide +kernel
theorem dX2_init_1 : decode cX2_init 1 = .ok (.invokespecial 3, 3) := by decide +kernel
theorem dX2_init_4 : decode cX2_init 4 = .ok (.aload_n 0, 1) := by decide +kernel
theorem dX2_init_5 : decode cX2_init 5 = .ok (.sipush 400, 3) := by decide +kernel
theorem dX2_init_8 : decode cX2_init 8 = .ok (.newarray .int, 2) := by decide +kernel
theorem dX2_init_10 : decode cX2_init 10 = .ok (.putfield 9, 3) := by decide +kernel
theorem dX2_init_13 : decode cX2_init 13 = .ok (.aload_n 0, 1) := by decide +kernel
theorem dX2_init_14 : decode cX2_init 14 = .ok (.iconst 0, 1) := by decide +kernel
theorem dX2_init_15 : decode cX2_init 15 = .ok (.putfield 15, 3) := by decide +kernel
theorem dX2_init_18 : decode cX2_init 18 = .ok (.aload_n 0, 1) := by decide +kernel
theorem dX2_init_19 : decode cX2_init 19 = .ok (.iconst 0, 1) := by decide +kernel
theorem dX2_init_20 : decode cX2_init 20 = .ok (.putfield 19, 3) := by decide +kernel
theorem dX2_init_23 : decode cX2_init 23 = .ok (.aload_n 0, 1) := by decide +kernel
theorem dX2_init_24 : decode cX2_init 24 = .ok (.iconst 0, 1) := by decide +kernel
theorem dX2_init_25 : decode cX2_init 25 = .ok (.putfield 22, 3) := by decide +kernel
theorem dX2_init_28 : decode cX2_init 28 = .ok (.aload_n 0, 1) := by decide +kernel
theorem dX2_init_29 : decode cX2_init 29 = .ok (.iconst 0, 1) := by decide +kernel
theorem dX2_init_30 : decode cX2_init 30 = .ok (.putfield 25, 3) := by decide +kernel
theorem dX2_init_33 : decode cX2_init 33 = .ok (.aload_n 0, 1) := by decide +kernel
theorem dX2_init_34 : decode cX2_init 34 = .ok (.new 28, 3) := by decide +kernel
theorem dX2_init_37 : decode cX2_init 37 = .ok (.dup, 1) := by decide +kernel
theorem dX2_init_38 : decode cX2_init 38 = .ok (.invokespecial 30, 3) := by decide +kernel
theorem dX2_init_41 : decode cX2_init 41 = .ok (.putfield 31, 3) := by decide +kernel
theorem dX2_init_44 : decode cX2_init 44 = .ok (.aload_n 0, 1) := by decide +kernel
theorem dX2_init_45 : decode cX2_init 45 = .ok (.iconst 0, 1) := by decide +kernel
theorem dX2_init_46 : decode cX2_init 46 = .ok (.putfield 35, 3) := by decide +kernel
theorem dX2_init_49 : decode cX2_init 49 = .ok (.aload_n 0, 1) := by decide +kernel
theorem dX2_init_50 : decode cX2_init 50 = .ok (.iconst 0, 1) := by decide +kernel
theorem dX2_init_51 : decode cX2_init 51 = .ok (.putfield 38, 3) := by decide +kernel
theorem dX2_init_54 : decode cX2_init 54 = .ok (.aload_n 0, 1) := by decide +kernel
theorem dX2_init_55 : decode cX2_init 55 = .ok (.iconst 0, 1) := by decide +kernel
theorem dX2_init_56 : decode cX2_init 56 = .ok (.putfield 41, 3) := by decide +kernel
theorem dX2_init_59 : decode cX2_init 59 = .ok (.aload_n 0, 1) := by decide +kernel
theorem dX2_init_60 : decode cX2_init 60 = .ok (.iconst 0, 1) := by decide +kernel
theorem dX2_init_61 : decode cX2_init 61 = .ok (.putfield 44, 3) := by decide +kernel
theorem dX2_init_64 : decode cX2_init 64 = .ok (.aload_n 0, 1) := by decide +kernel
theorem dX2_init_65 : decode cX2_init 65 = .ok (.iconst 0, 1) := by decide +kernel
theorem dX2_init_66 : decode cX2_init 66 = .ok (.putfield 48, 3) := by decide +kernel
theorem dX2_init_69 : decode cX2_init 69 = .ok (.aload_n 0, 1) := by decide +kernel
theorem dX2_init_70 : decode cX2_init 70 = .ok (.iconst 4, 1) := by decide +kernel
theorem dX2_init_71 : decode cX2_init 71 = .ok (.newarray .int, 2) := by decide +kernel
theorem dX2_init_73 : decode cX2_init 73 = .ok (.putfield 51, 3) := by decide +kernel
theorem dX2_init_76 : decode cX2_init 76 = .ok (.return_, 1) := by decide +kernel
theorem dX2_take_0 : decode cX2_take 0 = .ok (.iconst 0, 1) := by decide +kernel
theorem dX2_take_1 : decode cX2_take 1 = .ok (.istore_n 3, 1) := by decide +kernel
theorem dX2_take_2 : decode cX2_take 2 = .ok (.bipush 56, 2) := by decide +kernel
theorem dX2_take_4 : decode cX2_take 4 = .ok (.istore 4, 2) := by decide +kernel
theorem dX2_take_6 : decode cX2_take 6 = .ok (.iload 4, 2) := by decide +kernel
theorem dX2_take_8 : decode cX2_take 8 = .ok (.ifCond .lt 30, 3) := by decide +kernel
theorem dX2_take_11 : decode cX2_take 11 = .ok (.iload_n 3, 1) := by decide +kernel
theorem dX2_take_12 : decode cX2_take 12 = .ok (.lload_n 1, 1) := by decide +kernel
theorem dX2_take_13 : decode cX2_take 13 = .ok (.iload 4, 2) := by decide +kernel
theorem dX2_take_15 : decode cX2_take 15 = .ok (.lushr, 1) := by decide +kernel
theorem dX2_take_16 : decode cX2_take 16 = .ok (.ldc2_w 54, 3) := by decide +kernel
theorem dX2_take_19 : decode cX2_take 19 = .ok (.land, 1) := by decide +kernel
theorem dX2_take_20 : decode cX2_take 20 = .ok (.lconst 0, 1) := by decide +kernel
theorem dX2_take_21 : decode cX2_take 21 = .ok (.lcmp, 1) := by decide +kernel
theorem dX2_take_22 : decode cX2_take 22 = .ok (.ifCond .ne 7, 3) := by decide +kernel
theorem dX2_take_25 : decode cX2_take 25 = .ok (.iconst 0, 1) := by decide +kernel
theorem dX2_take_26 : decode cX2_take 26 = .ok (.goto 4, 3) := by decide +kernel
theorem dX2_take_29 : decode cX2_take 29 = .ok (.iconst 1, 1) := by decide +kernel
theorem dX2_take_30 : decode cX2_take 30 = .ok (.iadd, 1) := by decide +kernel
theorem dX2_take_31 : decode cX2_take 31 = .ok (.istore_n 3, 1) := by decide +kernel
theorem dX2_take_32 : decode cX2_take 32 = .ok (.iinc 4 (-8), 3) := by decide +kernel
theorem dX2_take_35 : decode cX2_take 35 = .ok (.goto (-29), 3) := by decide +kernel
theorem dX2_take_38 : decode cX2_take 38 = .ok (.aload_n 0, 1) := by decide +kernel
theorem dX2_take_39 : decode cX2_take 39 = .ok (.getfield 15, 3) := by decide +kernel
theorem dX2_take_42 : decode cX2_take 42 = .ok (.iload_n 3, 1) := by decide +kernel
theorem dX2_take_43 : decode cX2_take 43 = .ok (.iadd, 1) := by decide +kernel
theorem dX2_take_44 : decode cX2_take 44 = .ok (.sipush 400, 3) := by decide +kernel
theorem dX2_take_47 : decode cX2_take 47 = .ok (.if_icmp .le 5, 3) := by decide +kernel
theorem dX2_take_50 : decode cX2_take 50 = .ok (.iconst 0, 1) := by decide +kernel
theorem dX2_take_51 : decode cX2_take 51 = .ok (.ireturn, 1) := by decide +kernel
theorem dX2_take_52 : decode cX2_take 52 = .ok (.bipush 56, 2) := by decide +kernel
theorem dX2_take_54 : decode cX2_take 54 = .ok (.istore 4, 2) := by decide +kernel
theorem dX2_take_56 : decode cX2_take 56 = .ok (.iload 4, 2) := by decide +kernel
theorem dX2_take_58 : decode cX2_take 58 = .ok (.ifCond .lt 48, 3) := by decide +kernel
theorem dX2_take_61 : decode cX2_take 61 = .ok (.lload_n 1, 1) := by decide +kernel
theorem dX2_take_62 : decode cX2_take 62 = .ok (.iload 4, 2) := by decide +kernel
theorem dX2_take_64 : decode cX2_take 64 = .ok (.lushr, 1) := by decide +kernel
theorem dX2_take_65 : decode cX2_take 65 = .ok (.ldc2_w 54, 3) := by decide +kernel
theorem dX2_take_68 : decode cX2_take 68 = .ok (.land, 1) := by decide +kernel
theorem dX2_take_69 : decode cX2_take 69 = .ok (.l2i, 1) := by decide +kernel
theorem dX2_take_70 : decode cX2_take 70 = .ok (.istore 5, 2) := by decide +kernel
theorem dX2_take_72 : decode cX2_take 72 = .ok (.iload 5, 2) := by decide +kernel
theorem dX2_take_74 : decode cX2_take 74 = .ok (.ifCond .eq 26, 3) := by decide +kernel
theorem dX2_take_77 : decode cX2_take 77 = .ok (.aload_n 0, 1) := by decide +kernel
theorem dX2_take_78 : decode cX2_take 78 = .ok (.getfield 9, 3) := by decide +kernel
theorem dX2_take_81 : decode cX2_take 81 = .ok (.aload_n 0, 1) := by decide +kernel
theorem dX2_take_82 : decode cX2_take 82 = .ok (.getfield 15, 3) := by decide +kernel
theorem dX2_take_85 : decode cX2_take 85 = .ok (.iload 5, 2) := by decide +kernel
theorem dX2_take_87 : decode cX2_take 87 = .ok (.invokestatic 56, 3) := by decide +kernel
theorem dX2_take_90 : decode cX2_take 90 = .ok (.aload_n 0, 1) := by decide +kernel
theorem dX2_take_91 : decode cX2_take 91 = .ok (.dup, 1) := by decide +kernel
theorem dX2_take_92 : decode cX2_take 92 = .ok (.getfield 15, 3) := by decide +kernel
theorem dX2_take_95 : decode cX2_take 95 = .ok (.iconst 1, 1) := by decide +kernel
theorem dX2_take_96 : decode cX2_take 96 = .ok (.iadd, 1) := by decide +kernel
theorem dX2_take_97 : decode cX2_take 97 = .ok (.putfield 15, 3) := by decide +kernel
theorem dX2_take_100 : decode cX2_take 100 = .ok (.iinc 4 (-8), 3) := by decide +kernel
theorem dX2_take_103 : decode cX2_take 103 = .ok (.goto (-47), 3) := by decide +kernel
theorem dX2_take_106 : decode cX2_take 106 = .ok (.iconst 1, 1) := by decide +kernel
theorem dX2_take_107 : decode cX2_take 107 = .ok (.ireturn, 1) := by decide +kernel
theorem dX2_read_0 : decode cX2_read 0 = .ok (.aload_n 0, 1) := by decide +kernel
theorem dX2_read_1 : decode cX2_read 1 = .ok (.iconst 0, 1) := by decide +kernel
theorem dX2_read_2 : decode cX2_read 2 = .ok (.putfield 19, 3) := by decide +kernel
theorem dX2_read_5 : decode cX2_read 5 = .ok (.aload_n 0, 1) := by decide +kernel
theorem dX2_read_6 : decode cX2_read 6 = .ok (.iconst 0, 1) := by decide +kernel
theorem dX2_read_7 : decode cX2_read 7 = .ok (.putfield 22, 3) := by decide +kernel
theorem dX2_read_10 : decode cX2_read 10 = .ok (.aload_n 0, 1) := by decide +kernel
theorem dX2_read_11 : decode cX2_read 11 = .ok (.iconst 0, 1) := by decide +kernel
theorem dX2_read_12 : decode cX2_read 12 = .ok (.putfield 25, 3) := by decide +kernel
theorem dX2_read_15 : decode cX2_read 15 = .ok (.aload_n 0, 1) := by decide +kernel
theorem dX2_read_16 : decode cX2_read 16 = .ok (.iconst 0, 1) := by decide +kernel
theorem dX2_read_17 : decode cX2_read 17 = .ok (.putfield 35, 3) := by decide +kernel
theorem dX2_read_20 : decode cX2_read 20 = .ok (.aload_n 0, 1) := by decide +kernel
theorem dX2_read_21 : decode cX2_read 21 = .ok (.iconst 0, 1) := by decide +kernel
theorem dX2_read_22 : decode cX2_read 22 = .ok (.putfield 44, 3) := by decide +kernel
theorem dX2_read_25 : decode cX2_read 25 = .ok (.aload_n 0, 1) := by decide +kernel
theorem dX2_read_26 : decode cX2_read 26 = .ok (.getfield 31, 3) := by decide +kernel
theorem dX2_read_29 : decode cX2_read 29 = .ok (.invokevirtual 60, 3) := by decide +kernel
theorem dX2_read_32 : decode cX2_read 32 = .ok (.aload_n 0, 1) := by decide +kernel
theorem dX2_read_33 : decode cX2_read 33 = .ok (.invokevirtual 63, 3) := by decide +kernel
theorem dX2_read_36 : decode cX2_read 36 = .ok (.istore_n 1, 1) := by decide +kernel
theorem dX2_read_37 : decode cX2_read 37 = .ok (.iconst 0, 1) := by decide +kernel
theorem dX2_read_38 : decode cX2_read 38 = .ok (.istore_n 2, 1) := by decide +kernel
theorem dX2_read_39 : decode cX2_read 39 = .ok (.iload_n 2, 1) := by decide +kernel
theorem dX2_read_40 : decode cX2_read 40 = .ok (.sipush 400, 3) := by decide +kernel
theorem dX2_read_43 : decode cX2_read 43 = .ok (.if_icmp .ge 40, 3) := by decide +kernel
theorem dX2_read_46 : decode cX2_read 46 = .ok (.iload_n 1, 1) := by decide +kernel
theorem dX2_read_47 : decode cX2_read 47 = .ok (.ifCond .eq 36, 3) := by decide +kernel
theorem dX2_read_50 : decode cX2_read 50 = .ok (.aload_n 0, 1) := by decide +kernel
theorem dX2_read_51 : decode cX2_read 51 = .ok (.invokevirtual 67, 3) := by decide +kernel
theorem dX2_read_54 : decode cX2_read 54 = .ok (.ifCond .ne 29, 3) := by decide +kernel
theorem dX2_read_57 : decode cX2_read 57 = .ok (.aload_n 0, 1) := by decide +kernel
theorem dX2_read_58 : decode cX2_read 58 = .ok (.invokevirtual 70, 3) := by decide +kernel
theorem dX2_read_61 : decode cX2_read 61 = .ok (.ifCond .eq 14, 3) := by decide +kernel
theorem dX2_read_64 : decode cX2_read 64 = .ok (.aload_n 0, 1) := by decide +kernel
theorem dX2_read_65 : decode cX2_read 65 = .ok (.invokevirtual 73, 3) := by decide +kernel
theorem dX2_read_68 : decode cX2_read 68 = .ok (.ifCond .eq 7, 3) := by decide +kernel
theorem dX2_read_71 : decode cX2_read 71 = .ok (.iconst 1, 1) := by decide +kernel
theorem dX2_read_72 : decode cX2_read 72 = .ok (.goto 4, 3) := by decide +kernel
theorem dX2_read_75 : decode cX2_read 75 = .ok (.iconst 0, 1) := by decide +kernel
theorem dX2_read_76 : decode cX2_read 76 = .ok (.istore_n 1, 1) := by decide +kernel
theorem dX2_read_77 : decode cX2_read 77 = .ok (.iinc 2 1, 3) := by decide +kernel
theorem dX2_read_80 : decode cX2_read 80 = .ok (.goto (-41), 3) := by decide +kernel
theorem dX2_read_83 : decode cX2_read 83 = .ok (.iload_n 1, 1) := by decide +kernel
theorem dX2_read_84 : decode cX2_read 84 = .ok (.ireturn, 1) := by decide +kernel
theorem dX2_fail_0 : decode cX2_fail 0 = .ok (.aload_n 0, 1) := by decide +kernel
theorem dX2_fail_1 : decode cX2_fail 1 = .ok (.iload_n 1, 1) := by decide +kernel
theorem dX2_fail_2 : decode cX2_fail 2 = .ok (.putfield 19, 3) := by decide +kernel
theorem dX2_fail_5 : decode cX2_fail 5 = .ok (.aload_n 0, 1) := by decide +kernel
theorem dX2_fail_6 : decode cX2_fail 6 = .ok (.iload_n 2, 1) := by decide +kernel
theorem dX2_fail_7 : decode cX2_fail 7 = .ok (.putfield 22, 3) := by decide +kernel
theorem dX2_fail_10 : decode cX2_fail 10 = .ok (.iconst 0, 1) := by decide +kernel
theorem dX2_fail_11 : decode cX2_fail 11 = .ok (.ireturn, 1) := by decide +kernel
theorem dX2_sign_0 : decode cX2_sign 0 = .ok (.aload_n 0, 1) := by decide +kernel
theorem dX2_sign_1 : decode cX2_sign 1 = .ok (.getfield 35, 3) := by decide +kernel
theorem dX2_sign_4 : decode cX2_sign 4 = .ok (.ifCond .lt 38, 3) := by decide +kernel
theorem dX2_sign_7 : decode cX2_sign 7 = .ok (.aload_n 0, 1) := by decide +kernel
theorem dX2_sign_8 : decode cX2_sign 8 = .ok (.getfield 35, 3) := by decide +kernel
theorem dX2_sign_11 : decode cX2_sign 11 = .ok (.aload_n 0, 1) := by decide +kernel
theorem dX2_sign_12 : decode cX2_sign 12 = .ok (.getfield 15, 3) := by decide +kernel
theorem dX2_sign_15 : decode cX2_sign 15 = .ok (.if_icmp .ge 27, 3) := by decide +kernel
theorem dX2_sign_18 : decode cX2_sign 18 = .ok (.aload_n 0, 1) := by decide +kernel
theorem dX2_sign_19 : decode cX2_sign 19 = .ok (.getfield 35, 3) := by decide +kernel
theorem dX2_sign_22 : decode cX2_sign 22 = .ok (.aload_n 0, 1) := by decide +kernel
theorem dX2_sign_23 : decode cX2_sign 23 = .ok (.getfield 9, 3) := by decide +kernel
theorem dX2_sign_26 : decode cX2_sign 26 = .ok (.arraylength, 1) := by decide +kernel
theorem dX2_sign_27 : decode cX2_sign 27 = .ok (.if_icmp .ge 15, 3) := by decide +kernel
theorem dX2_sign_30 : decode cX2_sign 30 = .ok (.aload_n 0, 1) := by decide +kernel
theorem dX2_sign_31 : decode cX2_sign 31 = .ok (.getfield 9, 3) := by decide +kernel
theorem dX2_sign_34 : decode cX2_sign 34 = .ok (.aload_n 0, 1) := by decide +kernel
theorem dX2_sign_35 : decode cX2_sign 35 = .ok (.getfield 35, 3) := by decide +kernel
theorem dX2_sign_38 : decode cX2_sign 38 = .ok (.iaload, 1) := by decide +kernel
theorem dX2_sign_39 : decode cX2_sign 39 = .ok (.goto 4, 3) := by decide +kernel
theorem dX2_sign_42 : decode cX2_sign 42 = .ok (.iconst (-1), 1) := by decide +kernel
theorem dX2_sign_43 : decode cX2_sign 43 = .ok (.ireturn, 1) := by decide +kernel
theorem dX2_isDigit_0 : decode cX2_isDigit 0 = .ok (.iload_n 0, 1) := by decide +kernel
theorem dX2_isDigit_1 : decode cX2_isDigit 1 = .ok (.bipush 48, 2) := by decide +kernel
theorem dX2_isDigit_3 : decode cX2_isDigit 3 = .ok (.if_icmp .lt 13, 3) := by decide +kernel
theorem dX2_isDigit_6 : decode cX2_isDigit 6 = .ok (.iload_n 0, 1) := by decide +kernel
theorem dX2_isDigit_7 : decode cX2_isDigit 7 = .ok (.bipush 57, 2) := by decide +kernel
theorem dX2_isDigit_9 : decode cX2_isDigit 9 = .ok (.if_icmp .gt 7, 3) := by decide +kernel
theorem dX2_isDigit_12 : decode cX2_isDigit 12 = .ok (.iconst 1, 1) := by decide +kernel
theorem dX2_isDigit_13 : decode cX2_isDigit 13 = .ok (.goto 4, 3) := by decide +kernel
theorem dX2_isDigit_16 : decode cX2_isDigit 16 = .ok (.iconst 0, 1) := by decide +kernel
theorem dX2_isDigit_17 : decode cX2_isDigit 17 = .ok (.ireturn, 1) := by decide +kernel
theorem dX2_isLetter_0 : decode cX2_isLetter 0 = .ok (.iload_n 0, 1) := by decide +kernel
theorem dX2_isLetter_1 : decode cX2_isLetter 1 = .ok (.bipush 97, 2) := by decide +kernel
theorem dX2_isLetter_3 : decode cX2_isLetter 3 = .ok (.if_icmp .lt 13, 3) := by decide +kernel
theorem dX2_isLetter_6 : decode cX2_isLetter 6 = .ok (.iload_n 0, 1) := by decide +kernel
theorem dX2_isLetter_7 : decode cX2_isLetter 7 = .ok (.bipush 122, 2) := by decide +kernel
theorem dX2_isLetter_9 : decode cX2_isLetter 9 = .ok (.if_icmp .gt 7, 3) := by decide +kernel
theorem dX2_isLetter_12 : decode cX2_isLetter 12 = .ok (.iconst 1, 1) := by decide +kernel
theorem dX2_isLetter_13 : decode cX2_isLetter 13 = .ok (.goto 4, 3) := by decide +kernel
theorem dX2_isLetter_16 : decode cX2_isLetter 16 = .ok (.iconst 0, 1) := by decide +kernel
theorem dX2_isLetter_17 : decode cX2_isLetter 17 = .ok (.ireturn, 1) := by decide +kernel
theorem dX2_skipSpaces_0 : decode cX2_skipSpaces 0 = .ok (.aload_n 0, 1) := by decide +kernel
theorem dX2_skipSpaces_1 : decode cX2_skipSpaces 1 = .ok (.getfield 15, 3) := by decide +kernel
theorem dX2_skipSpaces_4 : decode cX2_skipSpaces 4 = .ok (.aload_n 0, 1) := by decide +kernel
theorem dX2_skipSpaces_5 : decode cX2_skipSpaces 5 = .ok (.getfield 9, 3) := by decide +kernel
theorem dX2_skipSpaces_8 : decode cX2_skipSpaces 8 = .ok (.arraylength, 1) := by decide +kernel
theorem dX2_skipSpaces_9 : decode cX2_skipSpaces 9 = .ok (.invokestatic 76, 3) := by decide +kernel
theorem dX2_skipSpaces_12 : decode cX2_skipSpaces 12 = .ok (.istore_n 1, 1) := by decide +kernel
theorem dX2_skipSpaces_13 : decode cX2_skipSpaces 13 = .ok (.aload_n 0, 1) := by decide +kernel
theorem dX2_skipSpaces_14 : decode cX2_skipSpaces 14 = .ok (.getfield 35, 3) := by decide +kernel
theorem dX2_skipSpaces_17 : decode cX2_skipSpaces 17 = .ok (.ifCond .lt 38, 3) := by decide +kernel
theorem dX2_skipSpaces_20 : decode cX2_skipSpaces 20 = .ok (.aload_n 0, 1) := by decide +kernel
theorem dX2_skipSpaces_21 : decode cX2_skipSpaces 21 = .ok (.getfield 35, 3) := by decide +kernel
theorem dX2_skipSpaces_24 : decode cX2_skipSpaces 24 = .ok (.iload_n 1, 1) := by decide +kernel
theorem dX2_skipSpaces_25 : decode cX2_skipSpaces 25 = .ok (.if_icmp .ge 30, 3) := by decide +kernel
theorem dX2_skipSpaces_28 : decode cX2_skipSpaces 28 = .ok (.aload_n 0, 1) := by decide +kernel
theorem dX2_skipSpaces_29 : decode cX2_skipSpaces 29 = .ok (.getfield 9, 3) := by decide +kernel
theorem dX2_skipSpaces_32 : decode cX2_skipSpaces 32 = .ok (.aload_n 0, 1) := by decide +kernel
theorem dX2_skipSpaces_33 : decode cX2_skipSpaces 33 = .ok (.getfield 35, 3) := by decide +kernel
theorem dX2_skipSpaces_36 : decode cX2_skipSpaces 36 = .ok (.iaload, 1) := by decide +kernel
theorem dX2_skipSpaces_37 : decode cX2_skipSpaces 37 = .ok (.bipush 32, 2) := by decide +kernel
theorem dX2_skipSpaces_39 : decode cX2_skipSpaces 39 = .ok (.if_icmp .ne 16, 3) := by decide +kernel
theorem dX2_skipSpaces_42 : decode cX2_skipSpaces 42 = .ok (.aload_n 0, 1) := by decide +kernel
theorem dX2_skipSpaces_43 : decode cX2_skipSpaces 43 = .ok (.dup, 1) := by decide +kernel
theorem dX2_skipSpaces_44 : decode cX2_skipSpaces 44 = .ok (.getfield 35, 3) := by decide +kernel
theorem dX2_skipSpaces_47 : decode cX2_skipSpaces 47 = .ok (.iconst 1, 1) := by decide +kernel
theorem dX2_skipSpaces_48 : decode cX2_skipSpaces 48 = .ok (.iadd, 1) := by decide +kernel
theorem dX2_skipSpaces_49 : decode cX2_skipSpaces 49 = .ok (.putfield 35, 3) := by decide +kernel
theorem dX2_skipSpaces_52 : decode cX2_skipSpaces 52 = .ok (.goto (-39), 3) := by decide +kernel
theorem dX2_skipSpaces_55 : decode cX2_skipSpaces 55 = .ok (.return_, 1) := by decide +kernel
theorem dX2_isAtEnd_0 : decode cX2_isAtEnd 0 = .ok (.aload_n 0, 1) := by decide +kernel
theorem dX2_isAtEnd_1 : decode cX2_isAtEnd 1 = .ok (.invokevirtual 82, 3) := by decide +kernel
theorem dX2_isAtEnd_4 : decode cX2_isAtEnd 4 = .ok (.aload_n 0, 1) := by decide +kernel
theorem dX2_isAtEnd_5 : decode cX2_isAtEnd 5 = .ok (.getfield 35, 3) := by decide +kernel
theorem dX2_isAtEnd_8 : decode cX2_isAtEnd 8 = .ok (.aload_n 0, 1) := by decide +kernel
theorem dX2_isAtEnd_9 : decode cX2_isAtEnd 9 = .ok (.getfield 15, 3) := by decide +kernel
theorem dX2_isAtEnd_12 : decode cX2_isAtEnd 12 = .ok (.if_icmp .lt 7, 3) := by decide +kernel
theorem dX2_isAtEnd_15 : decode cX2_isAtEnd 15 = .ok (.iconst 1, 1) := by decide +kernel
theorem dX2_isAtEnd_16 : decode cX2_isAtEnd 16 = .ok (.goto 4, 3) := by decide +kernel
theorem dX2_isAtEnd_19 : decode cX2_isAtEnd 19 = .ok (.iconst 0, 1) := by decide +kernel
theorem dX2_isAtEnd_20 : decode cX2_isAtEnd 20 = .ok (.ireturn, 1) := by decide +kernel
theorem dX2_readSemicolon_0 : decode cX2_readSemicolon 0 = .ok (.aload_n 0, 1) := by decide +kernel
theorem dX2_readSemicolon_1 : decode cX2_readSemicolon 1 = .ok (.invokevirtual 85, 3) := by decide +kernel
theorem dX2_readSemicolon_4 : decode cX2_readSemicolon 4 = .ok (.bipush 59, 2) := by decide +kernel
theorem dX2_readSemicolon_6 : decode cX2_readSemicolon 6 = .ok (.if_icmp .eq 13, 3) := by decide +kernel
theorem dX2_readSemicolon_9 : decode cX2_readSemicolon 9 = .ok (.aload_n 0, 1) := by decide +kernel
theorem dX2_readSemicolon_10 : decode cX2_readSemicolon 10 = .ok (.iconst 1, 1) := by decide +kernel
theorem dX2_readSemicolon_11 : decode cX2_readSemicolon 11 = .ok (.aload_n 0, 1) := by decide +kernel
theorem dX2_readSemicolon_12 : decode cX2_readSemicolon 12 = .ok (.getfield 35, 3) := by decide +kernel
theorem dX2_readSemicolon_15 : decode cX2_readSemicolon 15 = .ok (.invokevirtual 89, 3) := by decide +kernel
theorem dX2_readSemicolon_18 : decode cX2_readSemicolon 18 = .ok (.ireturn, 1) := by decide +kernel
theorem dX2_readSemicolon_19 : decode cX2_readSemicolon 19 = .ok (.aload_n 0, 1) := by decide +kernel
theorem dX2_readSemicolon_20 : decode cX2_readSemicolon 20 = .ok (.dup, 1) := by decide +kernel
theorem dX2_readSemicolon_21 : decode cX2_readSemicolon 21 = .ok (.getfield 35, 3) := by decide +kernel
theorem dX2_readSemicolon_24 : decode cX2_readSemicolon 24 = .ok (.iconst 1, 1) := by decide +kernel
theorem dX2_readSemicolon_25 : decode cX2_readSemicolon 25 = .ok (.iadd, 1) := by decide +kernel
theorem dX2_readSemicolon_26 : decode cX2_readSemicolon 26 = .ok (.putfield 35, 3) := by decide +kernel
theorem dX2_readSemicolon_29 : decode cX2_readSemicolon 29 = .ok (.aload_n 0, 1) := by decide +kernel
theorem dX2_readSemicolon_30 : decode cX2_readSemicolon 30 = .ok (.dup, 1) := by decide +kernel
theorem dX2_readSemicolon_31 : decode cX2_readSemicolon 31 = .ok (.getfield 25, 3) := by decide +kernel
theorem dX2_readSemicolon_34 : decode cX2_readSemicolon 34 = .ok (.iconst 1, 1) := by decide +kernel
theorem dX2_readSemicolon_35 : decode cX2_readSemicolon 35 = .ok (.iadd, 1) := by decide +kernel
theorem dX2_readSemicolon_36 : decode cX2_readSemicolon 36 = .ok (.putfield 25, 3) := by decide +kernel
theorem dX2_readSemicolon_39 : decode cX2_readSemicolon 39 = .ok (.iconst 1, 1) := by decide +kernel
theorem dX2_readSemicolon_40 : decode cX2_readSemicolon 40 = .ok (.ireturn, 1) := by decide +kernel
theorem dX2_readWord_0 : decode cX2_readWord 0 = .ok (.aload_n 0, 1) := by decide +kernel
theorem dX2_readWord_1 : decode cX2_readWord 1 = .ok (.invokevirtual 82, 3) := by decide +kernel
theorem dX2_readWord_4 : decode cX2_readWord 4 = .ok (.aload_n 0, 1) := by decide +kernel
theorem dX2_readWord_5 : decode cX2_readWord 5 = .ok (.aload_n 0, 1) := by decide +kernel
theorem dX2_readWord_6 : decode cX2_readWord 6 = .ok (.getfield 35, 3) := by decide +kernel
theorem dX2_readWord_9 : decode cX2_readWord 9 = .ok (.putfield 38, 3) := by decide +kernel
theorem dX2_readWord_12 : decode cX2_readWord 12 = .ok (.aload_n 0, 1) := by decide +kernel
theorem dX2_readWord_13 : decode cX2_readWord 13 = .ok (.getfield 35, 3) := by decide +kernel
theorem dX2_readWord_16 : decode cX2_readWord 16 = .ok (.aload_n 0, 1) := by decide +kernel
theorem dX2_readWord_17 : decode cX2_readWord 17 = .ok (.getfield 15, 3) := by decide +kernel
theorem dX2_readWord_20 : decode cX2_readWord 20 = .ok (.if_icmp .ge 26, 3) := by decide +kernel
theorem dX2_readWord_23 : decode cX2_readWord 23 = .ok (.aload_n 0, 1) := by decide +kernel
theorem dX2_readWord_24 : decode cX2_readWord 24 = .ok (.invokevirtual 85, 3) := by decide +kernel
theorem dX2_readWord_27 : decode cX2_readWord 27 = .ok (.invokestatic 93, 3) := by decide +kernel
theorem dX2_readWord_30 : decode cX2_readWord 30 = .ok (.ifCond .eq 16, 3) := by decide +kernel
theorem dX2_readWord_33 : decode cX2_readWord 33 = .ok (.aload_n 0, 1) := by decide +kernel
theorem dX2_readWord_34 : decode cX2_readWord 34 = .ok (.dup, 1) := by decide +kernel
theorem dX2_readWord_35 : decode cX2_readWord 35 = .ok (.getfield 35, 3) := by decide +kernel
theorem dX2_readWord_38 : decode cX2_readWord 38 = .ok (.iconst 1, 1) := by decide +kernel
theorem dX2_readWord_39 : decode cX2_readWord 39 = .ok (.iadd, 1) := by decide +kernel
theorem dX2_readWord_40 : decode cX2_readWord 40 = .ok (.putfield 35, 3) := by decide +kernel
theorem dX2_readWord_43 : decode cX2_readWord 43 = .ok (.goto (-31), 3) := by decide +kernel
theorem dX2_readWord_46 : decode cX2_readWord 46 = .ok (.return_, 1) := by decide +kernel
theorem dX2_isWord_0 : decode cX2_isWord 0 = .ok (.aload_n 0, 1) := by decide +kernel
theorem dX2_isWord_1 : decode cX2_isWord 1 = .ok (.getfield 35, 3) := by decide +kernel
theorem dX2_isWord_4 : decode cX2_isWord 4 = .ok (.aload_n 0, 1) := by decide +kernel
theorem dX2_isWord_5 : decode cX2_isWord 5 = .ok (.getfield 38, 3) := by decide +kernel
theorem dX2_isWord_8 : decode cX2_isWord 8 = .ok (.isub, 1) := by decide +kernel
theorem dX2_isWord_9 : decode cX2_isWord 9 = .ok (.aload_n 1, 1) := by decide +kernel
theorem dX2_isWord_10 : decode cX2_isWord 10 = .ok (.invokevirtual 97, 3) := by decide +kernel
theorem dX2_isWord_13 : decode cX2_isWord 13 = .ok (.if_icmp .eq 5, 3) := by decide +kernel
theorem dX2_isWord_16 : decode cX2_isWord 16 = .ok (.iconst 0, 1) := by decide +kernel
theorem dX2_isWord_17 : decode cX2_isWord 17 = .ok (.ireturn, 1) := by decide +kernel
theorem dX2_isWord_18 : decode cX2_isWord 18 = .ok (.iconst 0, 1) := by decide +kernel
theorem dX2_isWord_19 : decode cX2_isWord 19 = .ok (.istore_n 2, 1) := by decide +kernel
theorem dX2_isWord_20 : decode cX2_isWord 20 = .ok (.iload_n 2, 1) := by decide +kernel
theorem dX2_isWord_21 : decode cX2_isWord 21 = .ok (.aload_n 1, 1) := by decide +kernel
theorem dX2_isWord_22 : decode cX2_isWord 22 = .ok (.invokevirtual 97, 3) := by decide +kernel
theorem dX2_isWord_25 : decode cX2_isWord 25 = .ok (.if_icmp .ge 32, 3) := by decide +kernel
theorem dX2_isWord_28 : decode cX2_isWord 28 = .ok (.aload_n 0, 1) := by decide +kernel
theorem dX2_isWord_29 : decode cX2_isWord 29 = .ok (.getfield 9, 3) := by decide +kernel
theorem dX2_isWord_32 : decode cX2_isWord 32 = .ok (.aload_n 0, 1) := by decide +kernel
theorem dX2_isWord_33 : decode cX2_isWord 33 = .ok (.getfield 38, 3) := by decide +kernel
theorem dX2_isWord_36 : decode cX2_isWord 36 = .ok (.iload_n 2, 1) := by decide +kernel
theorem dX2_isWord_37 : decode cX2_isWord 37 = .ok (.iadd, 1) := by decide +kernel
theorem dX2_isWord_38 : decode cX2_isWord 38 = .ok (.invokestatic 102, 3) := by decide +kernel
theorem dX2_isWord_41 : decode cX2_isWord 41 = .ok (.aload_n 1, 1) := by decide +kernel
theorem dX2_isWord_42 : decode cX2_isWord 42 = .ok (.iload_n 2, 1) := by decide +kernel
theorem dX2_isWord_43 : decode cX2_isWord 43 = .ok (.invokevirtual 106, 3) := by decide +kernel
theorem dX2_isWord_46 : decode cX2_isWord 46 = .ok (.if_icmp .eq 5, 3) := by decide +kernel
theorem dX2_isWord_49 : decode cX2_isWord 49 = .ok (.iconst 0, 1) := by decide +kernel
theorem dX2_isWord_50 : decode cX2_isWord 50 = .ok (.ireturn, 1) := by decide +kernel
theorem dX2_isWord_51 : decode cX2_isWord 51 = .ok (.iinc 2 1, 3) := by decide +kernel
theorem dX2_isWord_54 : decode cX2_isWord 54 = .ok (.goto (-34), 3) := by decide +kernel
theorem dX2_isWord_57 : decode cX2_isWord 57 = .ok (.iconst 1, 1) := by decide +kernel
theorem dX2_isWord_58 : decode cX2_isWord 58 = .ok (.ireturn, 1) := by decide +kernel
theorem dX2_readNumber_0 : decode cX2_readNumber 0 = .ok (.aload_n 0, 1) := by decide +kernel
theorem dX2_readNumber_1 : decode cX2_readNumber 1 = .ok (.invokevirtual 82, 3) := by decide +kernel
theorem dX2_readNumber_4 : decode cX2_readNumber 4 = .ok (.aload_n 0, 1) := by decide +kernel
theorem dX2_readNumber_5 : decode cX2_readNumber 5 = .ok (.aload_n 0, 1) := by decide +kernel
theorem dX2_readNumber_6 : decode cX2_readNumber 6 = .ok (.getfield 35, 3) := by decide +kernel
theorem dX2_readNumber_9 : decode cX2_readNumber 9 = .ok (.putfield 38, 3) := by decide +kernel
theorem dX2_readNumber_12 : decode cX2_readNumber 12 = .ok (.aload_n 0, 1) := by decide +kernel
theorem dX2_readNumber_13 : decode cX2_readNumber 13 = .ok (.invokevirtual 85, 3) := by decide +kernel
theorem dX2_readNumber_16 : decode cX2_readNumber 16 = .ok (.invokestatic 110, 3) := by decide +kernel
theorem dX2_readNumber_19 : decode cX2_readNumber 19 = .ok (.ifCond .ne 13, 3) := by decide +kernel
theorem dX2_readNumber_22 : decode cX2_readNumber 22 = .ok (.aload_n 0, 1) := by decide +kernel
theorem dX2_readNumber_23 : decode cX2_readNumber 23 = .ok (.iconst 1, 1) := by decide +kernel
theorem dX2_readNumber_24 : decode cX2_readNumber 24 = .ok (.aload_n 0, 1) := by decide +kernel
theorem dX2_readNumber_25 : decode cX2_readNumber 25 = .ok (.getfield 35, 3) := by decide +kernel
theorem dX2_readNumber_28 : decode cX2_readNumber 28 = .ok (.invokevirtual 89, 3) := by decide +kernel
theorem dX2_readNumber_31 : decode cX2_readNumber 31 = .ok (.ireturn, 1) := by decide +kernel
theorem dX2_readNumber_32 : decode cX2_readNumber 32 = .ok (.aload_n 0, 1) := by decide +kernel
theorem dX2_readNumber_33 : decode cX2_readNumber 33 = .ok (.iconst 0, 1) := by decide +kernel
theorem dX2_readNumber_34 : decode cX2_readNumber 34 = .ok (.putfield 41, 3) := by decide +kernel
theorem dX2_readNumber_37 : decode cX2_readNumber 37 = .ok (.aload_n 0, 1) := by decide +kernel
theorem dX2_readNumber_38 : decode cX2_readNumber 38 = .ok (.getfield 35, 3) := by decide +kernel
theorem dX2_readNumber_41 : decode cX2_readNumber 41 = .ok (.aload_n 0, 1) := by decide +kernel
theorem dX2_readNumber_42 : decode cX2_readNumber 42 = .ok (.getfield 15, 3) := by decide +kernel
theorem dX2_readNumber_45 : decode cX2_readNumber 45 = .ok (.if_icmp .ge 50, 3) := by decide +kernel
theorem dX2_readNumber_48 : decode cX2_readNumber 48 = .ok (.aload_n 0, 1) := by decide +kernel
theorem dX2_readNumber_49 : decode cX2_readNumber 49 = .ok (.invokevirtual 85, 3) := by decide +kernel
theorem dX2_readNumber_52 : decode cX2_readNumber 52 = .ok (.invokestatic 110, 3) := by decide +kernel
theorem dX2_readNumber_55 : decode cX2_readNumber 55 = .ok (.ifCond .eq 40, 3) := by decide +kernel
theorem dX2_readNumber_58 : decode cX2_readNumber 58 = .ok (.aload_n 0, 1) := by decide +kernel
theorem dX2_readNumber_59 : decode cX2_readNumber 59 = .ok (.bipush 10, 2) := by decide +kernel
theorem dX2_readNumber_61 : decode cX2_readNumber 61 = .ok (.aload_n 0, 1) := by decide +kernel
theorem dX2_readNumber_62 : decode cX2_readNumber 62 = .ok (.getfield 41, 3) := by decide +kernel
theorem dX2_readNumber_65 : decode cX2_readNumber 65 = .ok (.imul, 1) := by decide +kernel
theorem dX2_readNumber_66 : decode cX2_readNumber 66 = .ok (.aload_n 0, 1) := by decide +kernel
theorem dX2_readNumber_67 : decode cX2_readNumber 67 = .ok (.invokevirtual 85, 3) := by decide +kernel
theorem dX2_readNumber_70 : decode cX2_readNumber 70 = .ok (.iadd, 1) := by decide +kernel
theorem dX2_readNumber_71 : decode cX2_readNumber 71 = .ok (.bipush 48, 2) := by decide +kernel
theorem dX2_readNumber_73 : decode cX2_readNumber 73 = .ok (.isub, 1) := by decide +kernel
theorem dX2_readNumber_74 : decode cX2_readNumber 74 = .ok (.ldc 113, 2) := by decide +kernel
theorem dX2_readNumber_76 : decode cX2_readNumber 76 = .ok (.invokestatic 76, 3) := by decide +kernel
theorem dX2_readNumber_79 : decode cX2_readNumber 79 = .ok (.putfield 41, 3) := by decide +kernel
theorem dX2_readNumber_82 : decode cX2_readNumber 82 = .ok (.aload_n 0, 1) := by decide +kernel
theorem dX2_readNumber_83 : decode cX2_readNumber 83 = .ok (.dup, 1) := by decide +kernel
theorem dX2_readNumber_84 : decode cX2_readNumber 84 = .ok (.getfield 35, 3) := by decide +kernel
theorem dX2_readNumber_87 : decode cX2_readNumber 87 = .ok (.iconst 1, 1) := by decide +kernel
theorem dX2_readNumber_88 : decode cX2_readNumber 88 = .ok (.iadd, 1) := by decide +kernel
theorem dX2_readNumber_89 : decode cX2_readNumber 89 = .ok (.putfield 35, 3) := by decide +kernel
theorem dX2_readNumber_92 : decode cX2_readNumber 92 = .ok (.goto (-55), 3) := by decide +kernel
theorem dX2_readNumber_95 : decode cX2_readNumber 95 = .ok (.aload_n 0, 1) := by decide +kernel
theorem dX2_readNumber_96 : decode cX2_readNumber 96 = .ok (.getfield 41, 3) := by decide +kernel
theorem dX2_readNumber_99 : decode cX2_readNumber 99 = .ok (.iload_n 1, 1) := by decide +kernel
theorem dX2_readNumber_100 : decode cX2_readNumber 100 = .ok (.if_icmp .lt 11, 3) := by decide +kernel
theorem dX2_readNumber_103 : decode cX2_readNumber 103 = .ok (.aload_n 0, 1) := by decide +kernel
theorem dX2_readNumber_104 : decode cX2_readNumber 104 = .ok (.getfield 41, 3) := by decide +kernel
theorem dX2_readNumber_107 : decode cX2_readNumber 107 = .ok (.iload_n 2, 1) := by decide +kernel
theorem dX2_readNumber_108 : decode cX2_readNumber 108 = .ok (.if_icmp .le 15, 3) := by decide +kernel
theorem dX2_readNumber_111 : decode cX2_readNumber 111 = .ok (.aload_n 0, 1) := by decide +kernel
theorem dX2_readNumber_112 : decode cX2_readNumber 112 = .ok (.iconst 2, 1) := by decide +kernel
theorem dX2_readNumber_113 : decode cX2_readNumber 113 = .ok (.aload_n 0, 1) := by decide +kernel
theorem dX2_readNumber_114 : decode cX2_readNumber 114 = .ok (.getfield 38, 3) := by decide +kernel
theorem dX2_readNumber_117 : decode cX2_readNumber 117 = .ok (.invokevirtual 89, 3) := by decide +kernel
theorem dX2_readNumber_120 : decode cX2_readNumber 120 = .ok (.ifCond .eq 7, 3) := by decide +kernel
theorem dX2_readNumber_123 : decode cX2_readNumber 123 = .ok (.iconst 1, 1) := by decide +kernel
theorem dX2_readNumber_124 : decode cX2_readNumber 124 = .ok (.goto 4, 3) := by decide +kernel
theorem dX2_readNumber_127 : decode cX2_readNumber 127 = .ok (.iconst 0, 1) := by decide +kernel
theorem dX2_readNumber_128 : decode cX2_readNumber 128 = .ok (.ireturn, 1) := by decide +kernel
theorem dX2_readWhistle_0 : decode cX2_readWhistle 0 = .ok (.aload_n 0, 1) := by decide +kernel
theorem dX2_readWhistle_1 : decode cX2_readWhistle 1 = .ok (.invokevirtual 114, 3) := by decide +kernel
theorem dX2_readWhistle_4 : decode cX2_readWhistle 4 = .ok (.aload_n 0, 1) := by decide +kernel
theorem dX2_readWhistle_5 : decode cX2_readWhistle 5 = .ok (.ldc 117, 2) := by decide +kernel
theorem dX2_readWhistle_7 : decode cX2_readWhistle 7 = .ok (.invokevirtual 119, 3) := by decide +kernel
theorem dX2_readWhistle_10 : decode cX2_readWhistle 10 = .ok (.ifCond .ne 13, 3) := by decide +kernel
theorem dX2_readWhistle_13 : decode cX2_readWhistle 13 = .ok (.aload_n 0, 1) := by decide +kernel
theorem dX2_readWhistle_14 : decode cX2_readWhistle 14 = .ok (.iconst 1, 1) := by decide +kernel
theorem dX2_readWhistle_15 : decode cX2_readWhistle 15 = .ok (.aload_n 0, 1) := by decide +kernel
theorem dX2_readWhistle_16 : decode cX2_readWhistle 16 = .ok (.getfield 38, 3) := by decide +kernel
theorem dX2_readWhistle_19 : decode cX2_readWhistle 19 = .ok (.invokevirtual 89, 3) := by decide +kernel
theorem dX2_readWhistle_22 : decode cX2_readWhistle 22 = .ok (.ireturn, 1) := by decide +kernel
theorem dX2_readWhistle_23 : decode cX2_readWhistle 23 = .ok (.aload_n 0, 1) := by decide +kernel
theorem dX2_readWhistle_24 : decode cX2_readWhistle 24 = .ok (.sipush 200, 3) := by decide +kernel
theorem dX2_readWhistle_27 : decode cX2_readWhistle 27 = .ok (.sipush 600, 3) := by decide +kernel
theorem dX2_readWhistle_30 : decode cX2_readWhistle 30 = .ok (.invokevirtual 123, 3) := by decide +kernel
theorem dX2_readWhistle_33 : decode cX2_readWhistle 33 = .ok (.ifCond .ne 5, 3) := by decide +kernel
theorem dX2_readWhistle_36 : decode cX2_readWhistle 36 = .ok (.iconst 0, 1) := by decide +kernel
theorem dX2_readWhistle_37 : decode cX2_readWhistle 37 = .ok (.ireturn, 1) := by decide +kernel
theorem dX2_readWhistle_38 : decode cX2_readWhistle 38 = .ok (.aload_n 0, 1) := by decide +kernel
theorem dX2_readWhistle_39 : decode cX2_readWhistle 39 = .ok (.getfield 31, 3) := by decide +kernel
theorem dX2_readWhistle_42 : decode cX2_readWhistle 42 = .ok (.aload_n 0, 1) := by decide +kernel
theorem dX2_readWhistle_43 : decode cX2_readWhistle 43 = .ok (.getfield 41, 3) := by decide +kernel
theorem dX2_readWhistle_46 : decode cX2_readWhistle 46 = .ok (.putfield 126, 3) := by decide +kernel
theorem dX2_readWhistle_49 : decode cX2_readWhistle 49 = .ok (.aload_n 0, 1) := by decide +kernel
theorem dX2_readWhistle_50 : decode cX2_readWhistle 50 = .ok (.iconst 5, 1) := by decide +kernel
theorem dX2_readWhistle_51 : decode cX2_readWhistle 51 = .ok (.bipush 20, 2) := by decide +kernel
theorem dX2_readWhistle_53 : decode cX2_readWhistle 53 = .ok (.invokevirtual 123, 3) := by decide +kernel
theorem dX2_readWhistle_56 : decode cX2_readWhistle 56 = .ok (.ifCond .ne 5, 3) := by decide +kernel
theorem dX2_readWhistle_59 : decode cX2_readWhistle 59 = .ok (.iconst 0, 1) := by decide +kernel
theorem dX2_readWhistle_60 : decode cX2_readWhistle 60 = .ok (.ireturn, 1) := by decide +kernel
theorem dX2_readWhistle_61 : decode cX2_readWhistle 61 = .ok (.aload_n 0, 1) := by decide +kernel
theorem dX2_readWhistle_62 : decode cX2_readWhistle 62 = .ok (.getfield 31, 3) := by decide +kernel
theorem dX2_readWhistle_65 : decode cX2_readWhistle 65 = .ok (.aload_n 0, 1) := by decide +kernel
theorem dX2_readWhistle_66 : decode cX2_readWhistle 66 = .ok (.getfield 41, 3) := by decide +kernel
theorem dX2_readWhistle_69 : decode cX2_readWhistle 69 = .ok (.putfield 128, 3) := by decide +kernel
theorem dX2_readWhistle_72 : decode cX2_readWhistle 72 = .ok (.aload_n 0, 1) := by decide +kernel
theorem dX2_readWhistle_73 : decode cX2_readWhistle 73 = .ok (.iconst 5, 1) := by decide +kernel
theorem dX2_readWhistle_74 : decode cX2_readWhistle 74 = .ok (.bipush 49, 2) := by decide +kernel
theorem dX2_readWhistle_76 : decode cX2_readWhistle 76 = .ok (.invokevirtual 123, 3) := by decide +kernel
theorem dX2_readWhistle_79 : decode cX2_readWhistle 79 = .ok (.ifCond .ne 5, 3) := by decide +kernel
theorem dX2_readWhistle_82 : decode cX2_readWhistle 82 = .ok (.iconst 0, 1) := by decide +kernel
theorem dX2_readWhistle_83 : decode cX2_readWhistle 83 = .ok (.ireturn, 1) := by decide +kernel
theorem dX2_readWhistle_84 : decode cX2_readWhistle 84 = .ok (.aload_n 0, 1) := by decide +kernel
theorem dX2_readWhistle_85 : decode cX2_readWhistle 85 = .ok (.getfield 31, 3) := by decide +kernel
theorem dX2_readWhistle_88 : decode cX2_readWhistle 88 = .ok (.aload_n 0, 1) := by decide +kernel
theorem dX2_readWhistle_89 : decode cX2_readWhistle 89 = .ok (.getfield 41, 3) := by decide +kernel
theorem dX2_readWhistle_92 : decode cX2_readWhistle 92 = .ok (.putfield 131, 3) := by decide +kernel
theorem dX2_readWhistle_95 : decode cX2_readWhistle 95 = .ok (.iconst 1, 1) := by decide +kernel
theorem dX2_readWhistle_96 : decode cX2_readWhistle 96 = .ok (.ireturn, 1) := by decide +kernel
theorem dX2_readStatement_0 : decode cX2_readStatement 0 = .ok (.aload_n 0, 1) := by decide +kernel
theorem dX2_readStatement_1 : decode cX2_readStatement 1 = .ok (.invokevirtual 114, 3) := by decide +kernel
theorem dX2_readStatement_4 : decode cX2_readStatement 4 = .ok (.aload_n 0, 1) := by decide +kernel
theorem dX2_readStatement_5 : decode cX2_readStatement 5 = .ok (.ldc 134, 2) := by decide +kernel
theorem dX2_readStatement_7 : decode cX2_readStatement 7 = .ok (.invokevirtual 119, 3) := by decide +kernel
theorem dX2_readStatement_10 : decode cX2_readStatement 10 = .ok (.ifCond .eq 8, 3) := by decide +kernel
theorem dX2_readStatement_13 : decode cX2_readStatement 13 = .ok (.aload_n 0, 1) := by decide +kernel
theorem dX2_readStatement_14 : decode cX2_readStatement 14 = .ok (.invokevirtual 136, 3) := by decide +kernel
theorem dX2_readStatement_17 : decode cX2_readStatement 17 = .ok (.ireturn, 1) := by decide +kernel
theorem dX2_readStatement_18 : decode cX2_readStatement 18 = .ok (.aload_n 0, 1) := by decide +kernel
theorem dX2_readStatement_19 : decode cX2_readStatement 19 = .ok (.ldc 139, 2) := by decide +kernel
theorem dX2_readStatement_21 : decode cX2_readStatement 21 = .ok (.invokevirtual 119, 3) := by decide +kernel
theorem dX2_readStatement_24 : decode cX2_readStatement 24 = .ok (.ifCond .eq 8, 3) := by decide +kernel
theorem dX2_readStatement_27 : decode cX2_readStatement 27 = .ok (.aload_n 0, 1) := by decide +kernel
theorem dX2_readStatement_28 : decode cX2_readStatement 28 = .ok (.invokevirtual 141, 3) := by decide +kernel
theorem dX2_readStatement_31 : decode cX2_readStatement 31 = .ok (.ireturn, 1) := by decide +kernel
theorem dX2_readStatement_32 : decode cX2_readStatement 32 = .ok (.aload_n 0, 1) := by decide +kernel
theorem dX2_readStatement_33 : decode cX2_readStatement 33 = .ok (.ldc 144, 2) := by decide +kernel
theorem dX2_readStatement_35 : decode cX2_readStatement 35 = .ok (.invokevirtual 119, 3) := by decide +kernel
theorem dX2_readStatement_38 : decode cX2_readStatement 38 = .ok (.ifCond .eq 8, 3) := by decide +kernel
theorem dX2_readStatement_41 : decode cX2_readStatement 41 = .ok (.aload_n 0, 1) := by decide +kernel
theorem dX2_readStatement_42 : decode cX2_readStatement 42 = .ok (.invokevirtual 146, 3) := by decide +kernel
theorem dX2_readStatement_45 : decode cX2_readStatement 45 = .ok (.ireturn, 1) := by decide +kernel
theorem dX2_readStatement_46 : decode cX2_readStatement 46 = .ok (.aload_n 0, 1) := by decide +kernel
theorem dX2_readStatement_47 : decode cX2_readStatement 47 = .ok (.ldc 149, 2) := by decide +kernel
theorem dX2_readStatement_49 : decode cX2_readStatement 49 = .ok (.invokevirtual 119, 3) := by decide +kernel
theorem dX2_readStatement_52 : decode cX2_readStatement 52 = .ok (.ifCond .eq 8, 3) := by decide +kernel
theorem dX2_readStatement_55 : decode cX2_readStatement 55 = .ok (.aload_n 0, 1) := by decide +kernel
theorem dX2_readStatement_56 : decode cX2_readStatement 56 = .ok (.invokevirtual 151, 3) := by decide +kernel
theorem dX2_readStatement_59 : decode cX2_readStatement 59 = .ok (.ireturn, 1) := by decide +kernel
theorem dX2_readStatement_60 : decode cX2_readStatement 60 = .ok (.aload_n 0, 1) := by decide +kernel
theorem dX2_readStatement_61 : decode cX2_readStatement 61 = .ok (.iconst 1, 1) := by decide +kernel
theorem dX2_readStatement_62 : decode cX2_readStatement 62 = .ok (.aload_n 0, 1) := by decide +kernel
theorem dX2_readStatement_63 : decode cX2_readStatement 63 = .ok (.getfield 38, 3) := by decide +kernel
theorem dX2_readStatement_66 : decode cX2_readStatement 66 = .ok (.invokevirtual 89, 3) := by decide +kernel
theorem dX2_readStatement_69 : decode cX2_readStatement 69 = .ok (.ireturn, 1) := by decide +kernel
theorem dX2_readHole_0 : decode cX2_readHole 0 = .ok (.aload_n 0, 1) := by decide +kernel
theorem dX2_readHole_1 : decode cX2_readHole 1 = .ok (.getfield 31, 3) := by decide +kernel
theorem dX2_readHole_4 : decode cX2_readHole 4 = .ok (.getfield 154, 3) := by decide +kernel
theorem dX2_readHole_7 : decode cX2_readHole 7 = .ok (.bipush 7, 2) := by decide +kernel
theorem dX2_readHole_9 : decode cX2_readHole 9 = .ok (.if_icmp .lt 13, 3) := by decide +kernel
theorem dX2_readHole_12 : decode cX2_readHole 12 = .ok (.aload_n 0, 1) := by decide +kernel
theorem dX2_readHole_13 : decode cX2_readHole 13 = .ok (.iconst 3, 1) := by decide +kernel
theorem dX2_readHole_14 : decode cX2_readHole 14 = .ok (.aload_n 0, 1) := by decide +kernel
theorem dX2_readHole_15 : decode cX2_readHole 15 = .ok (.getfield 38, 3) := by decide +kernel
theorem dX2_readHole_18 : decode cX2_readHole 18 = .ok (.invokevirtual 89, 3) := by decide +kernel
theorem dX2_readHole_21 : decode cX2_readHole 21 = .ok (.ireturn, 1) := by decide +kernel
theorem dX2_readHole_22 : decode cX2_readHole 22 = .ok (.aload_n 0, 1) := by decide +kernel
theorem dX2_readHole_23 : decode cX2_readHole 23 = .ok (.getfield 31, 3) := by decide +kernel
theorem dX2_readHole_26 : decode cX2_readHole 26 = .ok (.getfield 154, 3) := by decide +kernel
theorem dX2_readHole_29 : decode cX2_readHole 29 = .ok (.ifCond .ne 7, 3) := by decide +kernel
theorem dX2_readHole_32 : decode cX2_readHole 32 = .ok (.iconst 1, 1) := by decide +kernel
theorem dX2_readHole_33 : decode cX2_readHole 33 = .ok (.goto 24, 3) := by decide +kernel
theorem dX2_readHole_36 : decode cX2_readHole 36 = .ok (.aload_n 0, 1) := by decide +kernel
theorem dX2_readHole_37 : decode cX2_readHole 37 = .ok (.getfield 31, 3) := by decide +kernel
theorem dX2_readHole_40 : decode cX2_readHole 40 = .ok (.getfield 157, 3) := by decide +kernel
theorem dX2_readHole_43 : decode cX2_readHole 43 = .ok (.aload_n 0, 1) := by decide +kernel
theorem dX2_readHole_44 : decode cX2_readHole 44 = .ok (.getfield 31, 3) := by decide +kernel
theorem dX2_readHole_47 : decode cX2_readHole 47 = .ok (.getfield 154, 3) := by decide +kernel
theorem dX2_readHole_50 : decode cX2_readHole 50 = .ok (.iconst 1, 1) := by decide +kernel
theorem dX2_readHole_51 : decode cX2_readHole 51 = .ok (.isub, 1) := by decide +kernel
theorem dX2_readHole_52 : decode cX2_readHole 52 = .ok (.invokestatic 102, 3) := by decide +kernel
theorem dX2_readHole_55 : decode cX2_readHole 55 = .ok (.iconst 1, 1) := by decide +kernel
theorem dX2_readHole_56 : decode cX2_readHole 56 = .ok (.iadd, 1) := by decide +kernel
theorem dX2_readHole_57 : decode cX2_readHole 57 = .ok (.istore_n 1, 1) := by decide +kernel
theorem dX2_readHole_58 : decode cX2_readHole 58 = .ok (.aload_n 0, 1) := by decide +kernel
theorem dX2_readHole_59 : decode cX2_readHole 59 = .ok (.iload_n 1, 1) := by decide +kernel
theorem dX2_readHole_60 : decode cX2_readHole 60 = .ok (.aload_n 0, 1) := by decide +kernel
theorem dX2_readHole_61 : decode cX2_readHole 61 = .ok (.getfield 31, 3) := by decide +kernel
theorem dX2_readHole_64 : decode cX2_readHole 64 = .ok (.getfield 126, 3) := by decide +kernel
theorem dX2_readHole_67 : decode cX2_readHole 67 = .ok (.iconst 1, 1) := by decide +kernel
theorem dX2_readHole_68 : decode cX2_readHole 68 = .ok (.isub, 1) := by decide +kernel
theorem dX2_readHole_69 : decode cX2_readHole 69 = .ok (.invokevirtual 123, 3) := by decide +kernel
theorem dX2_readHole_72 : decode cX2_readHole 72 = .ok (.ifCond .ne 5, 3) := by decide +kernel
theorem dX2_readHole_75 : decode cX2_readHole 75 = .ok (.iconst 0, 1) := by decide +kernel
theorem dX2_readHole_76 : decode cX2_readHole 76 = .ok (.ireturn, 1) := by decide +kernel
theorem dX2_readHole_77 : decode cX2_readHole 77 = .ok (.aload_n 0, 1) := by decide +kernel
theorem dX2_readHole_78 : decode cX2_readHole 78 = .ok (.getfield 31, 3) := by decide +kernel
theorem dX2_readHole_81 : decode cX2_readHole 81 = .ok (.getfield 157, 3) := by decide +kernel
theorem dX2_readHole_84 : decode cX2_readHole 84 = .ok (.aload_n 0, 1) := by decide +kernel
theorem dX2_readHole_85 : decode cX2_readHole 85 = .ok (.getfield 31, 3) := by decide +kernel
theorem dX2_readHole_88 : decode cX2_readHole 88 = .ok (.getfield 154, 3) := by decide +kernel
theorem dX2_readHole_91 : decode cX2_readHole 91 = .ok (.aload_n 0, 1) := by decide +kernel
theorem dX2_readHole_92 : decode cX2_readHole 92 = .ok (.getfield 41, 3) := by decide +kernel
theorem dX2_readHole_95 : decode cX2_readHole 95 = .ok (.invokestatic 56, 3) := by decide +kernel
theorem dX2_readHole_98 : decode cX2_readHole 98 = .ok (.aload_n 0, 1) := by decide +kernel
theorem dX2_readHole_99 : decode cX2_readHole 99 = .ok (.iconst 2, 1) := by decide +kernel
theorem dX2_readHole_100 : decode cX2_readHole 100 = .ok (.bipush 15, 2) := by decide +kernel
theorem dX2_readHole_102 : decode cX2_readHole 102 = .ok (.invokevirtual 123, 3) := by decide +kernel
theorem dX2_readHole_105 : decode cX2_readHole 105 = .ok (.ifCond .ne 5, 3) := by decide +kernel
theorem dX2_readHole_108 : decode cX2_readHole 108 = .ok (.iconst 0, 1) := by decide +kernel
theorem dX2_readHole_109 : decode cX2_readHole 109 = .ok (.ireturn, 1) := by decide +kernel
theorem dX2_readHole_110 : decode cX2_readHole 110 = .ok (.aload_n 0, 1) := by decide +kernel
theorem dX2_readHole_111 : decode cX2_readHole 111 = .ok (.getfield 31, 3) := by decide +kernel
theorem dX2_readHole_114 : decode cX2_readHole 114 = .ok (.getfield 160, 3) := by decide +kernel
theorem dX2_readHole_117 : decode cX2_readHole 117 = .ok (.aload_n 0, 1) := by decide +kernel
theorem dX2_readHole_118 : decode cX2_readHole 118 = .ok (.getfield 31, 3) := by decide +kernel
theorem dX2_readHole_121 : decode cX2_readHole 121 = .ok (.getfield 154, 3) := by decide +kernel
theorem dX2_readHole_124 : decode cX2_readHole 124 = .ok (.aload_n 0, 1) := by decide +kernel
theorem dX2_readHole_125 : decode cX2_readHole 125 = .ok (.getfield 41, 3) := by decide +kernel
theorem dX2_readHole_128 : decode cX2_readHole 128 = .ok (.invokestatic 56, 3) := by decide +kernel
theorem dX2_readHole_131 : decode cX2_readHole 131 = .ok (.aload_n 0, 1) := by decide +kernel
theorem dX2_readHole_132 : decode cX2_readHole 132 = .ok (.getfield 31, 3) := by decide +kernel
theorem dX2_readHole_135 : decode cX2_readHole 135 = .ok (.dup, 1) := by decide +kernel
theorem dX2_readHole_136 : decode cX2_readHole 136 = .ok (.getfield 154, 3) := by decide +kernel
theorem dX2_readHole_139 : decode cX2_readHole 139 = .ok (.iconst 1, 1) := by decide +kernel
theorem dX2_readHole_140 : decode cX2_readHole 140 = .ok (.iadd, 1) := by decide +kernel
theorem dX2_readHole_141 : decode cX2_readHole 141 = .ok (.putfield 154, 3) := by decide +kernel
theorem dX2_readHole_144 : decode cX2_readHole 144 = .ok (.iconst 1, 1) := by decide +kernel
theorem dX2_readHole_145 : decode cX2_readHole 145 = .ok (.ireturn, 1) := by decide +kernel
theorem dX2_readLimit_0 : decode cX2_readLimit 0 = .ok (.aload_n 0, 1) := by decide +kernel
theorem dX2_readLimit_1 : decode cX2_readLimit 1 = .ok (.iconst 0, 1) := by decide +kernel
theorem dX2_readLimit_2 : decode cX2_readLimit 2 = .ok (.iconst 2, 1) := by decide +kernel
theorem dX2_readLimit_3 : decode cX2_readLimit 3 = .ok (.invokevirtual 123, 3) := by decide +kernel
theorem dX2_readLimit_6 : decode cX2_readLimit 6 = .ok (.ifCond .ne 5, 3) := by decide +kernel
theorem dX2_readLimit_9 : decode cX2_readLimit 9 = .ok (.iconst 0, 1) := by decide +kernel
theorem dX2_readLimit_10 : decode cX2_readLimit 10 = .ok (.ireturn, 1) := by decide +kernel
theorem dX2_readLimit_11 : decode cX2_readLimit 11 = .ok (.aload_n 0, 1) := by decide +kernel
theorem dX2_readLimit_12 : decode cX2_readLimit 12 = .ok (.getfield 31, 3) := by decide +kernel
theorem dX2_readLimit_15 : decode cX2_readLimit 15 = .ok (.aload_n 0, 1) := by decide +kernel
theorem dX2_readLimit_16 : decode cX2_readLimit 16 = .ok (.getfield 41, 3) := by decide +kernel
theorem dX2_readLimit_19 : decode cX2_readLimit 19 = .ok (.putfield 163, 3) := by decide +kernel
theorem dX2_readLimit_22 : decode cX2_readLimit 22 = .ok (.aload_n 0, 1) := by decide +kernel
theorem dX2_readLimit_23 : decode cX2_readLimit 23 = .ok (.iconst 0, 1) := by decide +kernel
theorem dX2_readLimit_24 : decode cX2_readLimit 24 = .ok (.iconst 3, 1) := by decide +kernel
theorem dX2_readLimit_25 : decode cX2_readLimit 25 = .ok (.invokevirtual 123, 3) := by decide +kernel
theorem dX2_readLimit_28 : decode cX2_readLimit 28 = .ok (.ifCond .ne 5, 3) := by decide +kernel
theorem dX2_readLimit_31 : decode cX2_readLimit 31 = .ok (.iconst 0, 1) := by decide +kernel
theorem dX2_readLimit_32 : decode cX2_readLimit 32 = .ok (.ireturn, 1) := by decide +kernel
theorem dX2_readLimit_33 : decode cX2_readLimit 33 = .ok (.aload_n 0, 1) := by decide +kernel
theorem dX2_readLimit_34 : decode cX2_readLimit 34 = .ok (.getfield 31, 3) := by decide +kernel
theorem dX2_readLimit_37 : decode cX2_readLimit 37 = .ok (.aload_n 0, 1) := by decide +kernel
theorem dX2_readLimit_38 : decode cX2_readLimit 38 = .ok (.getfield 41, 3) := by decide +kernel
theorem dX2_readLimit_41 : decode cX2_readLimit 41 = .ok (.putfield 166, 3) := by decide +kernel
theorem dX2_readLimit_44 : decode cX2_readLimit 44 = .ok (.iconst 1, 1) := by decide +kernel
theorem dX2_readLimit_45 : decode cX2_readLimit 45 = .ok (.ireturn, 1) := by decide +kernel
theorem dX2_readCost_0 : decode cX2_readCost 0 = .ok (.aload_n 0, 1) := by decide +kernel
theorem dX2_readCost_1 : decode cX2_readCost 1 = .ok (.iconst 1, 1) := by decide +kernel
theorem dX2_readCost_2 : decode cX2_readCost 2 = .ok (.bipush 9, 2) := by decide +kernel
theorem dX2_readCost_4 : decode cX2_readCost 4 = .ok (.invokevirtual 123, 3) := by decide +kernel
theorem dX2_readCost_7 : decode cX2_readCost 7 = .ok (.ifCond .ne 5, 3) := by decide +kernel
theorem dX2_readCost_10 : decode cX2_readCost 10 = .ok (.iconst 0, 1) := by decide +kernel
theorem dX2_readCost_11 : decode cX2_readCost 11 = .ok (.ireturn, 1) := by decide +kernel
theorem dX2_readCost_12 : decode cX2_readCost 12 = .ok (.aload_n 0, 1) := by decide +kernel
theorem dX2_readCost_13 : decode cX2_readCost 13 = .ok (.getfield 31, 3) := by decide +kernel
theorem dX2_readCost_16 : decode cX2_readCost 16 = .ok (.aload_n 0, 1) := by decide +kernel
theorem dX2_readCost_17 : decode cX2_readCost 17 = .ok (.getfield 41, 3) := by decide +kernel
theorem dX2_readCost_20 : decode cX2_readCost 20 = .ok (.putfield 169, 3) := by decide +kernel
theorem dX2_readCost_23 : decode cX2_readCost 23 = .ok (.aload_n 0, 1) := by decide +kernel
theorem dX2_readCost_24 : decode cX2_readCost 24 = .ok (.iconst 1, 1) := by decide +kernel
theorem dX2_readCost_25 : decode cX2_readCost 25 = .ok (.bipush 9, 2) := by decide +kernel
theorem dX2_readCost_27 : decode cX2_readCost 27 = .ok (.invokevirtual 123, 3) := by decide +kernel
theorem dX2_readCost_30 : decode cX2_readCost 30 = .ok (.ifCond .ne 5, 3) := by decide +kernel
theorem dX2_readCost_33 : decode cX2_readCost 33 = .ok (.iconst 0, 1) := by decide +kernel
theorem dX2_readCost_34 : decode cX2_readCost 34 = .ok (.ireturn, 1) := by decide +kernel
theorem dX2_readCost_35 : decode cX2_readCost 35 = .ok (.aload_n 0, 1) := by decide +kernel
theorem dX2_readCost_36 : decode cX2_readCost 36 = .ok (.getfield 31, 3) := by decide +kernel
theorem dX2_readCost_39 : decode cX2_readCost 39 = .ok (.aload_n 0, 1) := by decide +kernel
theorem dX2_readCost_40 : decode cX2_readCost 40 = .ok (.getfield 41, 3) := by decide +kernel
theorem dX2_readCost_43 : decode cX2_readCost 43 = .ok (.putfield 172, 3) := by decide +kernel
theorem dX2_readCost_46 : decode cX2_readCost 46 = .ok (.aload_n 0, 1) := by decide +kernel
theorem dX2_readCost_47 : decode cX2_readCost 47 = .ok (.iconst 0, 1) := by decide +kernel
theorem dX2_readCost_48 : decode cX2_readCost 48 = .ok (.bipush 9, 2) := by decide +kernel
theorem dX2_readCost_50 : decode cX2_readCost 50 = .ok (.invokevirtual 123, 3) := by decide +kernel
theorem dX2_readCost_53 : decode cX2_readCost 53 = .ok (.ifCond .ne 5, 3) := by decide +kernel
theorem dX2_readCost_56 : decode cX2_readCost 56 = .ok (.iconst 0, 1) := by decide +kernel
theorem dX2_readCost_57 : decode cX2_readCost 57 = .ok (.ireturn, 1) := by decide +kernel
theorem dX2_readCost_58 : decode cX2_readCost 58 = .ok (.aload_n 0, 1) := by decide +kernel
theorem dX2_readCost_59 : decode cX2_readCost 59 = .ok (.getfield 31, 3) := by decide +kernel
theorem dX2_readCost_62 : decode cX2_readCost 62 = .ok (.aload_n 0, 1) := by decide +kernel
theorem dX2_readCost_63 : decode cX2_readCost 63 = .ok (.getfield 41, 3) := by decide +kernel
theorem dX2_readCost_66 : decode cX2_readCost 66 = .ok (.putfield 175, 3) := by decide +kernel
theorem dX2_readCost_69 : decode cX2_readCost 69 = .ok (.iconst 1, 1) := by decide +kernel
theorem dX2_readCost_70 : decode cX2_readCost 70 = .ok (.ireturn, 1) := by decide +kernel
theorem dX2_readTune_0 : decode cX2_readTune 0 = .ok (.aload_n 0, 1) := by decide +kernel
theorem dX2_readTune_1 : decode cX2_readTune 1 = .ok (.getfield 44, 3) := by decide +kernel
theorem dX2_readTune_4 : decode cX2_readTune 4 = .ok (.ifCond .eq 13, 3) := by decide +kernel
theorem dX2_readTune_7 : decode cX2_readTune 7 = .ok (.aload_n 0, 1) := by decide +kernel
theorem dX2_readTune_8 : decode cX2_readTune 8 = .ok (.iconst 3, 1) := by decide +kernel
theorem dX2_readTune_9 : decode cX2_readTune 9 = .ok (.aload_n 0, 1) := by decide +kernel
theorem dX2_readTune_10 : decode cX2_readTune 10 = .ok (.getfield 38, 3) := by decide +kernel
theorem dX2_readTune_13 : decode cX2_readTune 13 = .ok (.invokevirtual 89, 3) := by decide +kernel
theorem dX2_readTune_16 : decode cX2_readTune 16 = .ok (.ireturn, 1) := by decide +kernel
theorem dX2_readTune_17 : decode cX2_readTune 17 = .ok (.aload_n 0, 1) := by decide +kernel
theorem dX2_readTune_18 : decode cX2_readTune 18 = .ok (.iconst 1, 1) := by decide +kernel
theorem dX2_readTune_19 : decode cX2_readTune 19 = .ok (.putfield 44, 3) := by decide +kernel
theorem dX2_readTune_22 : decode cX2_readTune 22 = .ok (.aload_n 0, 1) := by decide +kernel
theorem dX2_readTune_23 : decode cX2_readTune 23 = .ok (.iconst 0, 1) := by decide +kernel
theorem dX2_readTune_24 : decode cX2_readTune 24 = .ok (.putfield 48, 3) := by decide +kernel
theorem dX2_readTune_27 : decode cX2_readTune 27 = .ok (.iconst 1, 1) := by decide +kernel
theorem dX2_readTune_28 : decode cX2_readTune 28 = .ok (.istore_n 1, 1) := by decide +kernel
theorem dX2_readTune_29 : decode cX2_readTune 29 = .ok (.iconst 1, 1) := by decide +kernel
theorem dX2_readTune_30 : decode cX2_readTune 30 = .ok (.istore_n 2, 1) := by decide +kernel
theorem dX2_readTune_31 : decode cX2_readTune 31 = .ok (.iconst 0, 1) := by decide +kernel
theorem dX2_readTune_32 : decode cX2_readTune 32 = .ok (.istore_n 3, 1) := by decide +kernel
theorem dX2_readTune_33 : decode cX2_readTune 33 = .ok (.iload_n 3, 1) := by decide +kernel
theorem dX2_readTune_34 : decode cX2_readTune 34 = .ok (.sipush 400, 3) := by decide +kernel
theorem dX2_readTune_37 : decode cX2_readTune 37 = .ok (.if_icmp .ge 159, 3) := by decide +kernel
theorem dX2_readTune_40 : decode cX2_readTune 40 = .ok (.iload_n 2, 1) := by decide +kernel
theorem dX2_readTune_41 : decode cX2_readTune 41 = .ok (.ifCond .eq 155, 3) := by decide +kernel
theorem dX2_readTune_44 : decode cX2_readTune 44 = .ok (.aload_n 0, 1) := by decide +kernel
theorem dX2_readTune_45 : decode cX2_readTune 45 = .ok (.invokevirtual 82, 3) := by decide +kernel
theorem dX2_readTune_48 : decode cX2_readTune 48 = .ok (.aload_n 0, 1) := by decide +kernel
theorem dX2_readTune_49 : decode cX2_readTune 49 = .ok (.invokevirtual 85, 3) := by decide +kernel
theorem dX2_readTune_52 : decode cX2_readTune 52 = .ok (.istore 4, 2) := by decide +kernel
theorem dX2_readTune_54 : decode cX2_readTune 54 = .ok (.iload 4, 2) := by decide +kernel
theorem dX2_readTune_56 : decode cX2_readTune 56 = .ok (.invokestatic 110, 3) := by decide +kernel
theorem dX2_readTune_59 : decode cX2_readTune 59 = .ok (.ifCond .eq 33, 3) := by decide +kernel
theorem dX2_readTune_62 : decode cX2_readTune 62 = .ok (.aload_n 0, 1) := by decide +kernel
theorem dX2_readTune_63 : decode cX2_readTune 63 = .ok (.iconst 0, 1) := by decide +kernel
theorem dX2_readTune_64 : decode cX2_readTune 64 = .ok (.bipush 24, 2) := by decide +kernel
theorem dX2_readTune_66 : decode cX2_readTune 66 = .ok (.invokevirtual 123, 3) := by decide +kernel
theorem dX2_readTune_69 : decode cX2_readTune 69 = .ok (.ifCond .eq 18, 3) := by decide +kernel
theorem dX2_readTune_72 : decode cX2_readTune 72 = .ok (.aload_n 0, 1) := by decide +kernel
theorem dX2_readTune_73 : decode cX2_readTune 73 = .ok (.aload_n 0, 1) := by decide +kernel
theorem dX2_readTune_74 : decode cX2_readTune 74 = .ok (.getfield 41, 3) := by decide +kernel
theorem dX2_readTune_77 : decode cX2_readTune 77 = .ok (.invokevirtual 178, 3) := by decide +kernel
theorem dX2_readTune_80 : decode cX2_readTune 80 = .ok (.ifCond .eq 7, 3) := by decide +kernel
theorem dX2_readTune_83 : decode cX2_readTune 83 = .ok (.iconst 1, 1) := by decide +kernel
theorem dX2_readTune_84 : decode cX2_readTune 84 = .ok (.goto 4, 3) := by decide +kernel
theorem dX2_readTune_87 : decode cX2_readTune 87 = .ok (.iconst 0, 1) := by decide +kernel
theorem dX2_readTune_88 : decode cX2_readTune 88 = .ok (.istore_n 2, 1) := by decide +kernel
theorem dX2_readTune_89 : decode cX2_readTune 89 = .ok (.goto 88, 3) := by decide +kernel
theorem dX2_readTune_92 : decode cX2_readTune 92 = .ok (.iload 4, 2) := by decide +kernel
theorem dX2_readTune_94 : decode cX2_readTune 94 = .ok (.invokestatic 93, 3) := by decide +kernel
theorem dX2_readTune_97 : decode cX2_readTune 97 = .ok (.ifCond .eq 11, 3) := by decide +kernel
theorem dX2_readTune_100 : decode cX2_readTune 100 = .ok (.aload_n 0, 1) := by decide +kernel
theorem dX2_readTune_101 : decode cX2_readTune 101 = .ok (.invokevirtual 181, 3) := by decide +kernel
theorem dX2_readTune_104 : decode cX2_readTune 104 = .ok (.istore_n 2, 1) := by decide +kernel
theorem dX2_readTune_105 : decode cX2_readTune 105 = .ok (.goto 72, 3) := by decide +kernel
theorem dX2_readTune_108 : decode cX2_readTune 108 = .ok (.iload 4, 2) := by decide +kernel
theorem dX2_readTune_110 : decode cX2_readTune 110 = .ok (.bipush 40, 2) := by decide +kernel
theorem dX2_readTune_112 : decode cX2_readTune 112 = .ok (.if_icmp .ne 11, 3) := by decide +kernel
theorem dX2_readTune_115 : decode cX2_readTune 115 = .ok (.aload_n 0, 1) := by decide +kernel
theorem dX2_readTune_116 : decode cX2_readTune 116 = .ok (.invokevirtual 184, 3) := by decide +kernel
theorem dX2_readTune_119 : decode cX2_readTune 119 = .ok (.istore_n 2, 1) := by decide +kernel
theorem dX2_readTune_120 : decode cX2_readTune 120 = .ok (.goto 57, 3) := by decide +kernel
theorem dX2_readTune_123 : decode cX2_readTune 123 = .ok (.iload_n 1, 1) := by decide +kernel
theorem dX2_readTune_124 : decode cX2_readTune 124 = .ok (.ifCond .eq 13, 3) := by decide +kernel
theorem dX2_readTune_127 : decode cX2_readTune 127 = .ok (.aload_n 0, 1) := by decide +kernel
theorem dX2_readTune_128 : decode cX2_readTune 128 = .ok (.iconst 1, 1) := by decide +kernel
theorem dX2_readTune_129 : decode cX2_readTune 129 = .ok (.aload_n 0, 1) := by decide +kernel
theorem dX2_readTune_130 : decode cX2_readTune 130 = .ok (.getfield 35, 3) := by decide +kernel
theorem dX2_readTune_133 : decode cX2_readTune 133 = .ok (.invokevirtual 89, 3) := by decide +kernel
theorem dX2_readTune_136 : decode cX2_readTune 136 = .ok (.ireturn, 1) := by decide +kernel
theorem dX2_readTune_137 : decode cX2_readTune 137 = .ok (.iload 4, 2) := by decide +kernel
theorem dX2_readTune_139 : decode cX2_readTune 139 = .ok (.bipush 41, 2) := by decide +kernel
theorem dX2_readTune_141 : decode cX2_readTune 141 = .ok (.if_icmp .ne 11, 3) := by decide +kernel
theorem dX2_readTune_144 : decode cX2_readTune 144 = .ok (.aload_n 0, 1) := by decide +kernel
theorem dX2_readTune_145 : decode cX2_readTune 145 = .ok (.invokevirtual 187, 3) := by decide +kernel
theorem dX2_readTune_148 : decode cX2_readTune 148 = .ok (.istore_n 2, 1) := by decide +kernel
theorem dX2_readTune_149 : decode cX2_readTune 149 = .ok (.goto 28, 3) := by decide +kernel
theorem dX2_readTune_152 : decode cX2_readTune 152 = .ok (.aload_n 0, 1) := by decide +kernel
theorem dX2_readTune_153 : decode cX2_readTune 153 = .ok (.getfield 48, 3) := by decide +kernel
theorem dX2_readTune_156 : decode cX2_readTune 156 = .ok (.ifCond .eq 15, 3) := by decide +kernel
theorem dX2_readTune_159 : decode cX2_readTune 159 = .ok (.aload_n 0, 1) := by decide +kernel
theorem dX2_readTune_160 : decode cX2_readTune 160 = .ok (.iconst 1, 1) := by decide +kernel
theorem dX2_readTune_161 : decode cX2_readTune 161 = .ok (.aload_n 0, 1) := by decide +kernel
theorem dX2_readTune_162 : decode cX2_readTune 162 = .ok (.getfield 35, 3) := by decide +kernel
theorem dX2_readTune_165 : decode cX2_readTune 165 = .ok (.invokevirtual 89, 3) := by decide +kernel
theorem dX2_readTune_168 : decode cX2_readTune 168 = .ok (.ifCond .eq 7, 3) := by decide +kernel
theorem dX2_readTune_171 : decode cX2_readTune 171 = .ok (.iconst 1, 1) := by decide +kernel
theorem dX2_readTune_172 : decode cX2_readTune 172 = .ok (.goto 4, 3) := by decide +kernel
theorem dX2_readTune_175 : decode cX2_readTune 175 = .ok (.iconst 0, 1) := by decide +kernel
theorem dX2_readTune_176 : decode cX2_readTune 176 = .ok (.ireturn, 1) := by decide +kernel
theorem dX2_readTune_177 : decode cX2_readTune 177 = .ok (.iload 4, 2) := by decide +kernel
theorem dX2_readTune_179 : decode cX2_readTune 179 = .ok (.bipush 40, 2) := by decide +kernel
theorem dX2_readTune_181 : decode cX2_readTune 181 = .ok (.if_icmp .ne 7, 3) := by decide +kernel
theorem dX2_readTune_184 : decode cX2_readTune 184 = .ok (.iconst 1, 1) := by decide +kernel
theorem dX2_readTune_185 : decode cX2_readTune 185 = .ok (.goto 4, 3) := by decide +kernel
theorem dX2_readTune_188 : decode cX2_readTune 188 = .ok (.iconst 0, 1) := by decide +kernel
theorem dX2_readTune_189 : decode cX2_readTune 189 = .ok (.istore_n 1, 1) := by decide +kernel
theorem dX2_readTune_190 : decode cX2_readTune 190 = .ok (.iinc 3 1, 3) := by decide +kernel
theorem dX2_readTune_193 : decode cX2_readTune 193 = .ok (.goto (-160), 3) := by decide +kernel
theorem dX2_readTune_196 : decode cX2_readTune 196 = .ok (.iload_n 2, 1) := by decide +kernel
theorem dX2_readTune_197 : decode cX2_readTune 197 = .ok (.ifCond .eq 19, 3) := by decide +kernel
theorem dX2_readTune_200 : decode cX2_readTune 200 = .ok (.aload_n 0, 1) := by decide +kernel
theorem dX2_readTune_201 : decode cX2_readTune 201 = .ok (.iconst 1, 1) := by decide +kernel
theorem dX2_readTune_202 : decode cX2_readTune 202 = .ok (.aload_n 0, 1) := by decide +kernel
theorem dX2_readTune_203 : decode cX2_readTune 203 = .ok (.getfield 35, 3) := by decide +kernel
theorem dX2_readTune_206 : decode cX2_readTune 206 = .ok (.invokevirtual 89, 3) := by decide +kernel
theorem dX2_readTune_209 : decode cX2_readTune 209 = .ok (.ifCond .eq 7, 3) := by decide +kernel
theorem dX2_readTune_212 : decode cX2_readTune 212 = .ok (.iconst 1, 1) := by decide +kernel
theorem dX2_readTune_213 : decode cX2_readTune 213 = .ok (.goto 4, 3) := by decide +kernel
theorem dX2_readTune_216 : decode cX2_readTune 216 = .ok (.iconst 0, 1) := by decide +kernel
theorem dX2_readTune_217 : decode cX2_readTune 217 = .ok (.ireturn, 1) := by decide +kernel
theorem dX2_readRest_0 : decode cX2_readRest 0 = .ok (.aload_n 0, 1) := by decide +kernel
theorem dX2_readRest_1 : decode cX2_readRest 1 = .ok (.invokevirtual 114, 3) := by decide +kernel
theorem dX2_readRest_4 : decode cX2_readRest 4 = .ok (.aload_n 0, 1) := by decide +kernel
theorem dX2_readRest_5 : decode cX2_readRest 5 = .ok (.ldc 190, 2) := by decide +kernel
theorem dX2_readRest_7 : decode cX2_readRest 7 = .ok (.invokevirtual 119, 3) := by decide +kernel
theorem dX2_readRest_10 : decode cX2_readRest 10 = .ok (.ifCond .eq 11, 3) := by decide +kernel
theorem dX2_readRest_13 : decode cX2_readRest 13 = .ok (.aload_n 0, 1) := by decide +kernel
theorem dX2_readRest_14 : decode cX2_readRest 14 = .ok (.iconst (-1), 1) := by decide +kernel
theorem dX2_readRest_15 : decode cX2_readRest 15 = .ok (.invokevirtual 178, 3) := by decide +kernel
theorem dX2_readRest_18 : decode cX2_readRest 18 = .ok (.goto 12, 3) := by decide +kernel
theorem dX2_readRest_21 : decode cX2_readRest 21 = .ok (.aload_n 0, 1) := by decide +kernel
theorem dX2_readRest_22 : decode cX2_readRest 22 = .ok (.iconst 1, 1) := by decide +kernel
theorem dX2_readRest_23 : decode cX2_readRest 23 = .ok (.aload_n 0, 1) := by decide +kernel
theorem dX2_readRest_24 : decode cX2_readRest 24 = .ok (.getfield 38, 3) := by decide +kernel
theorem dX2_readRest_27 : decode cX2_readRest 27 = .ok (.invokevirtual 89, 3) := by decide +kernel
theorem dX2_readRest_30 : decode cX2_readRest 30 = .ok (.ireturn, 1) := by decide +kernel
theorem dX2_takeNote_0 : decode cX2_takeNote 0 = .ok (.aload_n 0, 1) := by decide +kernel
theorem dX2_takeNote_1 : decode cX2_takeNote 1 = .ok (.getfield 31, 3) := by decide +kernel
theorem dX2_takeNote_4 : decode cX2_takeNote 4 = .ok (.getfield 192, 3) := by decide +kernel
theorem dX2_takeNote_7 : decode cX2_takeNote 7 = .ok (.bipush 40, 2) := by decide +kernel
theorem dX2_takeNote_9 : decode cX2_takeNote 9 = .ok (.if_icmp .lt 13, 3) := by decide +kernel
theorem dX2_takeNote_12 : decode cX2_takeNote 12 = .ok (.aload_n 0, 1) := by decide +kernel
theorem dX2_takeNote_13 : decode cX2_takeNote 13 = .ok (.iconst 4, 1) := by decide +kernel
theorem dX2_takeNote_14 : decode cX2_takeNote 14 = .ok (.aload_n 0, 1) := by decide +kernel
theorem dX2_takeNote_15 : decode cX2_takeNote 15 = .ok (.getfield 38, 3) := by decide +kernel
theorem dX2_takeNote_18 : decode cX2_takeNote 18 = .ok (.invokevirtual 89, 3) := by decide +kernel
theorem dX2_takeNote_21 : decode cX2_takeNote 21 = .ok (.ireturn, 1) := by decide +kernel
theorem dX2_takeNote_22 : decode cX2_takeNote 22 = .ok (.aload_n 0, 1) := by decide +kernel
theorem dX2_takeNote_23 : decode cX2_takeNote 23 = .ok (.getfield 31, 3) := by decide +kernel
theorem dX2_takeNote_26 : decode cX2_takeNote 26 = .ok (.getfield 195, 3) := by decide +kernel
theorem dX2_takeNote_29 : decode cX2_takeNote 29 = .ok (.aload_n 0, 1) := by decide +kernel
theorem dX2_takeNote_30 : decode cX2_takeNote 30 = .ok (.getfield 31, 3) := by decide +kernel
theorem dX2_takeNote_33 : decode cX2_takeNote 33 = .ok (.getfield 192, 3) := by decide +kernel
theorem dX2_takeNote_36 : decode cX2_takeNote 36 = .ok (.iload_n 1, 1) := by decide +kernel
theorem dX2_takeNote_37 : decode cX2_takeNote 37 = .ok (.invokestatic 56, 3) := by decide +kernel
theorem dX2_takeNote_40 : decode cX2_takeNote 40 = .ok (.aload_n 0, 1) := by decide +kernel
theorem dX2_takeNote_41 : decode cX2_takeNote 41 = .ok (.getfield 31, 3) := by decide +kernel
theorem dX2_takeNote_44 : decode cX2_takeNote 44 = .ok (.dup, 1) := by decide +kernel
theorem dX2_takeNote_45 : decode cX2_takeNote 45 = .ok (.getfield 192, 3) := by decide +kernel
theorem dX2_takeNote_48 : decode cX2_takeNote 48 = .ok (.iconst 1, 1) := by decide +kernel
theorem dX2_takeNote_49 : decode cX2_takeNote 49 = .ok (.iadd, 1) := by decide +kernel
theorem dX2_takeNote_50 : decode cX2_takeNote 50 = .ok (.putfield 192, 3) := by decide +kernel
theorem dX2_takeNote_53 : decode cX2_takeNote 53 = .ok (.iconst 1, 1) := by decide +kernel
theorem dX2_takeNote_54 : decode cX2_takeNote 54 = .ok (.ireturn, 1) := by decide +kernel
theorem dX2_readOpening_0 : decode cX2_readOpening 0 = .ok (.aload_n 0, 1) := by decide +kernel
theorem dX2_readOpening_1 : decode cX2_readOpening 1 = .ok (.getfield 48, 3) := by decide +kernel
theorem dX2_readOpening_4 : decode cX2_readOpening 4 = .ok (.iconst 4, 1) := by decide +kernel
theorem dX2_readOpening_5 : decode cX2_readOpening 5 = .ok (.if_icmp .lt 13, 3) := by decide +kernel
theorem dX2_readOpening_8 : decode cX2_readOpening 8 = .ok (.aload_n 0, 1) := by decide +kernel
theorem dX2_readOpening_9 : decode cX2_readOpening 9 = .ok (.iconst 3, 1) := by decide +kernel
theorem dX2_readOpening_10 : decode cX2_readOpening 10 = .ok (.aload_n 0, 1) := by decide +kernel
theorem dX2_readOpening_11 : decode cX2_readOpening 11 = .ok (.getfield 35, 3) := by decide +kernel
theorem dX2_readOpening_14 : decode cX2_readOpening 14 = .ok (.invokevirtual 89, 3) := by decide +kernel
theorem dX2_readOpening_17 : decode cX2_readOpening 17 = .ok (.ireturn, 1) := by decide +kernel
theorem dX2_readOpening_18 : decode cX2_readOpening 18 = .ok (.aload_n 0, 1) := by decide +kernel
theorem dX2_readOpening_19 : decode cX2_readOpening 19 = .ok (.getfield 51, 3) := by decide +kernel
theorem dX2_readOpening_22 : decode cX2_readOpening 22 = .ok (.aload_n 0, 1) := by decide +kernel
theorem dX2_readOpening_23 : decode cX2_readOpening 23 = .ok (.getfield 48, 3) := by decide +kernel
theorem dX2_readOpening_26 : decode cX2_readOpening 26 = .ok (.aload_n 0, 1) := by decide +kernel
theorem dX2_readOpening_27 : decode cX2_readOpening 27 = .ok (.getfield 31, 3) := by decide +kernel
theorem dX2_readOpening_30 : decode cX2_readOpening 30 = .ok (.getfield 192, 3) := by decide +kernel
theorem dX2_readOpening_33 : decode cX2_readOpening 33 = .ok (.invokestatic 56, 3) := by decide +kernel
theorem dX2_readOpening_36 : decode cX2_readOpening 36 = .ok (.aload_n 0, 1) := by decide +kernel
theorem dX2_readOpening_37 : decode cX2_readOpening 37 = .ok (.dup, 1) := by decide +kernel
theorem dX2_readOpening_38 : decode cX2_readOpening 38 = .ok (.getfield 48, 3) := by decide +kernel
theorem dX2_readOpening_41 : decode cX2_readOpening 41 = .ok (.iconst 1, 1) := by decide +kernel
theorem dX2_readOpening_42 : decode cX2_readOpening 42 = .ok (.iadd, 1) := by decide +kernel
theorem dX2_readOpening_43 : decode cX2_readOpening 43 = .ok (.putfield 48, 3) := by decide +kernel
theorem dX2_readOpening_46 : decode cX2_readOpening 46 = .ok (.aload_n 0, 1) := by decide +kernel
theorem dX2_readOpening_47 : decode cX2_readOpening 47 = .ok (.dup, 1) := by decide +kernel
theorem dX2_readOpening_48 : decode cX2_readOpening 48 = .ok (.getfield 35, 3) := by decide +kernel
theorem dX2_readOpening_51 : decode cX2_readOpening 51 = .ok (.iconst 1, 1) := by decide +kernel
theorem dX2_readOpening_52 : decode cX2_readOpening 52 = .ok (.iadd, 1) := by decide +kernel
theorem dX2_readOpening_53 : decode cX2_readOpening 53 = .ok (.putfield 35, 3) := by decide +kernel
theorem dX2_readOpening_56 : decode cX2_readOpening 56 = .ok (.iconst 1, 1) := by decide +kernel
theorem dX2_readOpening_57 : decode cX2_readOpening 57 = .ok (.ireturn, 1) := by decide +kernel
theorem dX2_readClosing_0 : decode cX2_readClosing 0 = .ok (.aload_n 0, 1) := by decide +kernel
theorem dX2_readClosing_1 : decode cX2_readClosing 1 = .ok (.getfield 48, 3) := by decide +kernel
theorem dX2_readClosing_4 : decode cX2_readClosing 4 = .ok (.ifCond .ne 13, 3) := by decide +kernel
theorem dX2_readClosing_7 : decode cX2_readClosing 7 = .ok (.aload_n 0, 1) := by decide +kernel
theorem dX2_readClosing_8 : decode cX2_readClosing 8 = .ok (.iconst 1, 1) := by decide +kernel
theorem dX2_readClosing_9 : decode cX2_readClosing 9 = .ok (.aload_n 0, 1) := by decide +kernel
theorem dX2_readClosing_10 : decode cX2_readClosing 10 = .ok (.getfield 35, 3) := by decide +kernel
theorem dX2_readClosing_13 : decode cX2_readClosing 13 = .ok (.invokevirtual 89, 3) := by decide +kernel
theorem dX2_readClosing_16 : decode cX2_readClosing 16 = .ok (.ireturn, 1) := by decide +kernel
theorem dX2_readClosing_17 : decode cX2_readClosing 17 = .ok (.aload_n 0, 1) := by decide +kernel
theorem dX2_readClosing_18 : decode cX2_readClosing 18 = .ok (.dup, 1) := by decide +kernel
theorem dX2_readClosing_19 : decode cX2_readClosing 19 = .ok (.getfield 48, 3) := by decide +kernel
theorem dX2_readClosing_22 : decode cX2_readClosing 22 = .ok (.iconst 1, 1) := by decide +kernel
theorem dX2_readClosing_23 : decode cX2_readClosing 23 = .ok (.isub, 1) := by decide +kernel
theorem dX2_readClosing_24 : decode cX2_readClosing 24 = .ok (.putfield 48, 3) := by decide +kernel
theorem dX2_readClosing_27 : decode cX2_readClosing 27 = .ok (.aload_n 0, 1) := by decide +kernel
theorem dX2_readClosing_28 : decode cX2_readClosing 28 = .ok (.dup, 1) := by decide +kernel
theorem dX2_readClosing_29 : decode cX2_readClosing 29 = .ok (.getfield 35, 3) := by decide +kernel
theorem dX2_readClosing_32 : decode cX2_readClosing 32 = .ok (.iconst 1, 1) := by decide +kernel
theorem dX2_readClosing_33 : decode cX2_readClosing 33 = .ok (.iadd, 1) := by decide +kernel
theorem dX2_readClosing_34 : decode cX2_readClosing 34 = .ok (.putfield 35, 3) := by decide +kernel
theorem dX2_readClosing_37 : decode cX2_readClosing 37 = .ok (.aload_n 0, 1) := by decide +kernel
theorem dX2_readClosing_38 : decode cX2_readClosing 38 = .ok (.iconst 1, 1) := by decide +kernel
theorem dX2_readClosing_39 : decode cX2_readClosing 39 = .ok (.bipush 9, 2) := by decide +kernel
theorem dX2_readClosing_41 : decode cX2_readClosing 41 = .ok (.invokevirtual 123, 3) := by decide +kernel
theorem dX2_readClosing_44 : decode cX2_readClosing 44 = .ok (.ifCond .ne 5, 3) := by decide +kernel
theorem dX2_readClosing_47 : decode cX2_readClosing 47 = .ok (.iconst 0, 1) := by decide +kernel
theorem dX2_readClosing_48 : decode cX2_readClosing 48 = .ok (.ireturn, 1) := by decide +kernel
theorem dX2_readClosing_49 : decode cX2_readClosing 49 = .ok (.aload_n 0, 1) := by decide +kernel
theorem dX2_readClosing_50 : decode cX2_readClosing 50 = .ok (.getfield 51, 3) := by decide +kernel
theorem dX2_readClosing_53 : decode cX2_readClosing 53 = .ok (.aload_n 0, 1) := by decide +kernel
theorem dX2_readClosing_54 : decode cX2_readClosing 54 = .ok (.getfield 48, 3) := by decide +kernel
theorem dX2_readClosing_57 : decode cX2_readClosing 57 = .ok (.invokestatic 102, 3) := by decide +kernel
theorem dX2_readClosing_60 : decode cX2_readClosing 60 = .ok (.istore_n 1, 1) := by decide +kernel
theorem dX2_readClosing_61 : decode cX2_readClosing 61 = .ok (.aload_n 0, 1) := by decide +kernel
theorem dX2_readClosing_62 : decode cX2_readClosing 62 = .ok (.getfield 31, 3) := by decide +kernel
theorem dX2_readClosing_65 : decode cX2_readClosing 65 = .ok (.getfield 192, 3) := by decide +kernel
theorem dX2_readClosing_68 : decode cX2_readClosing 68 = .ok (.iload_n 1, 1) := by decide +kernel
theorem dX2_readClosing_69 : decode cX2_readClosing 69 = .ok (.isub, 1) := by decide +kernel
theorem dX2_readClosing_70 : decode cX2_readClosing 70 = .ok (.istore_n 2, 1) := by decide +kernel
theorem dX2_readClosing_71 : decode cX2_readClosing 71 = .ok (.iload_n 1, 1) := by decide +kernel
theorem dX2_readClosing_72 : decode cX2_readClosing 72 = .ok (.iload_n 2, 1) := by decide +kernel
theorem dX2_readClosing_73 : decode cX2_readClosing 73 = .ok (.aload_n 0, 1) := by decide +kernel
theorem dX2_readClosing_74 : decode cX2_readClosing 74 = .ok (.getfield 41, 3) := by decide +kernel
theorem dX2_readClosing_77 : decode cX2_readClosing 77 = .ok (.imul, 1) := by decide +kernel
theorem dX2_readClosing_78 : decode cX2_readClosing 78 = .ok (.iadd, 1) := by decide +kernel
theorem dX2_readClosing_79 : decode cX2_readClosing 79 = .ok (.bipush 40, 2) := by decide +kernel
theorem dX2_readClosing_81 : decode cX2_readClosing 81 = .ok (.if_icmp .le 13, 3) := by decide +kernel
theorem dX2_readClosing_84 : decode cX2_readClosing 84 = .ok (.aload_n 0, 1) := by decide +kernel
theorem dX2_readClosing_85 : decode cX2_readClosing 85 = .ok (.iconst 4, 1) := by decide +kernel
theorem dX2_readClosing_86 : decode cX2_readClosing 86 = .ok (.aload_n 0, 1) := by decide +kernel
theorem dX2_readClosing_87 : decode cX2_readClosing 87 = .ok (.getfield 38, 3) := by decide +kernel
theorem dX2_readClosing_90 : decode cX2_readClosing 90 = .ok (.invokevirtual 89, 3) := by decide +kernel
theorem dX2_readClosing_93 : decode cX2_readClosing 93 = .ok (.ireturn, 1) := by decide +kernel
theorem dX2_readClosing_94 : decode cX2_readClosing 94 = .ok (.iconst 0, 1) := by decide +kernel
theorem dX2_readClosing_95 : decode cX2_readClosing 95 = .ok (.istore_n 3, 1) := by decide +kernel
theorem dX2_readClosing_96 : decode cX2_readClosing 96 = .ok (.iload_n 3, 1) := by decide +kernel
theorem dX2_readClosing_97 : decode cX2_readClosing 97 = .ok (.iload_n 2, 1) := by decide +kernel
theorem dX2_readClosing_98 : decode cX2_readClosing 98 = .ok (.aload_n 0, 1) := by decide +kernel
theorem dX2_readClosing_99 : decode cX2_readClosing 99 = .ok (.getfield 41, 3) := by decide +kernel
theorem dX2_readClosing_102 : decode cX2_readClosing 102 = .ok (.iconst 1, 1) := by decide +kernel
theorem dX2_readClosing_103 : decode cX2_readClosing 103 = .ok (.isub, 1) := by decide +kernel
theorem dX2_readClosing_104 : decode cX2_readClosing 104 = .ok (.imul, 1) := by decide +kernel
theorem dX2_readClosing_105 : decode cX2_readClosing 105 = .ok (.if_icmp .ge 58, 3) := by decide +kernel
theorem dX2_readClosing_108 : decode cX2_readClosing 108 = .ok (.aload_n 0, 1) := by decide +kernel
theorem dX2_readClosing_109 : decode cX2_readClosing 109 = .ok (.getfield 31, 3) := by decide +kernel
theorem dX2_readClosing_112 : decode cX2_readClosing 112 = .ok (.getfield 195, 3) := by decide +kernel
theorem dX2_readClosing_115 : decode cX2_readClosing 115 = .ok (.aload_n 0, 1) := by decide +kernel
theorem dX2_readClosing_116 : decode cX2_readClosing 116 = .ok (.getfield 31, 3) := by decide +kernel
theorem dX2_readClosing_119 : decode cX2_readClosing 119 = .ok (.getfield 192, 3) := by decide +kernel
theorem dX2_readClosing_122 : decode cX2_readClosing 122 = .ok (.aload_n 0, 1) := by decide +kernel
theorem dX2_readClosing_123 : decode cX2_readClosing 123 = .ok (.getfield 31, 3) := by decide +kernel
theorem dX2_readClosing_126 : decode cX2_readClosing 126 = .ok (.getfield 195, 3) := by decide +kernel
theorem dX2_readClosing_129 : decode cX2_readClosing 129 = .ok (.aload_n 0, 1) := by decide +kernel
theorem dX2_readClosing_130 : decode cX2_readClosing 130 = .ok (.getfield 31, 3) := by decide +kernel
theorem dX2_readClosing_133 : decode cX2_readClosing 133 = .ok (.getfield 192, 3) := by decide +kernel
theorem dX2_readClosing_136 : decode cX2_readClosing 136 = .ok (.iload_n 2, 1) := by decide +kernel
theorem dX2_readClosing_137 : decode cX2_readClosing 137 = .ok (.isub, 1) := by decide +kernel
theorem dX2_readClosing_138 : decode cX2_readClosing 138 = .ok (.invokestatic 102, 3) := by decide +kernel
theorem dX2_readClosing_141 : decode cX2_readClosing 141 = .ok (.invokestatic 56, 3) := by decide +kernel
theorem dX2_readClosing_144 : decode cX2_readClosing 144 = .ok (.aload_n 0, 1) := by decide +kernel
theorem dX2_readClosing_145 : decode cX2_readClosing 145 = .ok (.getfield 31, 3) := by decide +kernel
theorem dX2_readClosing_148 : decode cX2_readClosing 148 = .ok (.dup, 1) := by decide +kernel
theorem dX2_readClosing_149 : decode cX2_readClosing 149 = .ok (.getfield 192, 3) := by decide +kernel
theorem dX2_readClosing_152 : decode cX2_readClosing 152 = .ok (.iconst 1, 1) := by decide +kernel
theorem dX2_readClosing_153 : decode cX2_readClosing 153 = .ok (.iadd, 1) := by decide +kernel
theorem dX2_readClosing_154 : decode cX2_readClosing 154 = .ok (.putfield 192, 3) := by decide +kernel
theorem dX2_readClosing_157 : decode cX2_readClosing 157 = .ok (.iinc 3 1, 3) := by decide +kernel
theorem dX2_readClosing_160 : decode cX2_readClosing 160 = .ok (.goto (-64), 3) := by decide +kernel
theorem dX2_readClosing_163 : decode cX2_readClosing 163 = .ok (.iconst 1, 1) := by decide +kernel
theorem dX2_readClosing_164 : decode cX2_readClosing 164 = .ok (.ireturn, 1) := by decide +kernel
