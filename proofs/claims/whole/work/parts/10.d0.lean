theorem dX0_init_0 : decode cX0_init 0 = .ok (.aload_n 0, 1) := by decide +kernel
theorem dX0_init_1 : decode cX0_init 1 = .ok (.invokespecial 3, 3) := by decide +kernel
theorem dX0_init_4 : decode cX0_init 4 = .ok (.aload_n 0, 1) := by decide +kernel
theorem dX0_init_5 : decode cX0_init 5 = .ok (.bipush 26, 2) := by decide +kernel
theorem dX0_init_7 : decode cX0_init 7 = .ok (.newarray .int, 2) := by decide +kernel
theorem dX0_init_9 : decode cX0_init 9 = .ok (.putfield 9, 3) := by decide +kernel
theorem dX0_init_12 : decode cX0_init 12 = .ok (.aload_n 0, 1) := by decide +kernel
theorem dX0_init_13 : decode cX0_init 13 = .ok (.bipush 25, 2) := by decide +kernel
theorem dX0_init_15 : decode cX0_init 15 = .ok (.newarray .int, 2) := by decide +kernel
theorem dX0_init_17 : decode cX0_init 17 = .ok (.putfield 15, 3) := by decide +kernel
theorem dX0_init_20 : decode cX0_init 20 = .ok (.aload_n 0, 1) := by decide +kernel
theorem dX0_init_21 : decode cX0_init 21 = .ok (.bipush 25, 2) := by decide +kernel
theorem dX0_init_23 : decode cX0_init 23 = .ok (.newarray .int, 2) := by decide +kernel
theorem dX0_init_25 : decode cX0_init 25 = .ok (.putfield 18, 3) := by decide +kernel
theorem dX0_init_28 : decode cX0_init 28 = .ok (.aload_n 0, 1) := by decide +kernel
theorem dX0_init_29 : decode cX0_init 29 = .ok (.bipush 25, 2) := by decide +kernel
theorem dX0_init_31 : decode cX0_init 31 = .ok (.newarray .int, 2) := by decide +kernel
theorem dX0_init_33 : decode cX0_init 33 = .ok (.putfield 21, 3) := by decide +kernel
theorem dX0_init_36 : decode cX0_init 36 = .ok (.aload_n 0, 1) := by decide +kernel
theorem dX0_init_37 : decode cX0_init 37 = .ok (.iconst 2, 1) := by decide +kernel
theorem dX0_init_38 : decode cX0_init 38 = .ok (.newarray .int, 2) := by decide +kernel
theorem dX0_init_40 : decode cX0_init 40 = .ok (.putfield 24, 3) := by decide +kernel
theorem dX0_init_43 : decode cX0_init 43 = .ok (.aload_n 0, 1) := by decide +kernel
theorem dX0_init_44 : decode cX0_init 44 = .ok (.iconst 2, 1) := by decide +kernel
theorem dX0_init_45 : decode cX0_init 45 = .ok (.newarray .int, 2) := by decide +kernel
theorem dX0_init_47 : decode cX0_init 47 = .ok (.putfield 27, 3) := by decide +kernel
theorem dX0_init_50 : decode cX0_init 50 = .ok (.aload_n 0, 1) := by decide +kernel
theorem dX0_init_51 : decode cX0_init 51 = .ok (.iconst 2, 1) := by decide +kernel
theorem dX0_init_52 : decode cX0_init 52 = .ok (.newarray .int, 2) := by decide +kernel
theorem dX0_init_54 : decode cX0_init 54 = .ok (.putfield 30, 3) := by decide +kernel
theorem dX0_init_57 : decode cX0_init 57 = .ok (.return_, 1) := by decide +kernel
theorem dX0_choose_0 : decode cX0_choose 0 = .ok (.iconst 2, 1) := by decide +kernel
theorem dX0_choose_1 : decode cX0_choose 1 = .ok (.aload_n 1, 1) := by decide +kernel
theorem dX0_choose_2 : decode cX0_choose 2 = .ok (.getfield 33, 3) := by decide +kernel
theorem dX0_choose_5 : decode cX0_choose 5 = .ok (.imul, 1) := by decide +kernel
theorem dX0_choose_6 : decode cX0_choose 6 = .ok (.istore 5, 2) := by decide +kernel
theorem dX0_choose_8 : decode cX0_choose 8 = .ok (.iload 5, 2) := by decide +kernel
theorem dX0_choose_10 : decode cX0_choose 10 = .ok (.aload_n 0, 1) := by decide +kernel
theorem dX0_choose_11 : decode cX0_choose 11 = .ok (.getfield 27, 3) := by decide +kernel
theorem dX0_choose_14 : decode cX0_choose 14 = .ok (.arraylength, 1) := by decide +kernel
theorem dX0_choose_15 : decode cX0_choose 15 = .ok (.if_icmp .le 27, 3) := by decide +kernel
theorem dX0_choose_18 : decode cX0_choose 18 = .ok (.aload_n 0, 1) := by decide +kernel
theorem dX0_choose_19 : decode cX0_choose 19 = .ok (.iload 5, 2) := by decide +kernel
theorem dX0_choose_21 : decode cX0_choose 21 = .ok (.newarray .int, 2) := by decide +kernel
theorem dX0_choose_23 : decode cX0_choose 23 = .ok (.putfield 24, 3) := by decide +kernel
theorem dX0_choose_26 : decode cX0_choose 26 = .ok (.aload_n 0, 1) := by decide +kernel
theorem dX0_choose_27 : decode cX0_choose 27 = .ok (.iload 5, 2) := by decide +kernel
theorem dX0_choose_29 : decode cX0_choose 29 = .ok (.newarray .int, 2) := by decide +kernel
theorem dX0_choose_31 : decode cX0_choose 31 = .ok (.putfield 27, 3) := by decide +kernel
theorem dX0_choose_34 : decode cX0_choose 34 = .ok (.aload_n 0, 1) := by decide +kernel
theorem dX0_choose_35 : decode cX0_choose 35 = .ok (.iload 5, 2) := by decide +kernel
theorem dX0_choose_37 : decode cX0_choose 37 = .ok (.newarray .int, 2) := by decide +kernel
theorem dX0_choose_39 : decode cX0_choose 39 = .ok (.putfield 30, 3) := by decide +kernel
theorem dX0_choose_42 : decode cX0_choose 42 = .ok (.iconst 0, 1) := by decide +kernel
theorem dX0_choose_43 : decode cX0_choose 43 = .ok (.istore 6, 2) := by decide +kernel
theorem dX0_choose_45 : decode cX0_choose 45 = .ok (.iload 6, 2) := by decide +kernel
theorem dX0_choose_47 : decode cX0_choose 47 = .ok (.bipush 25, 2) := by decide +kernel
theorem dX0_choose_49 : decode cX0_choose 49 = .ok (.if_icmp .ge 39, 3) := by decide +kernel
theorem dX0_choose_52 : decode cX0_choose 52 = .ok (.aload_n 0, 1) := by decide +kernel
theorem dX0_choose_53 : decode cX0_choose 53 = .ok (.getfield 18, 3) := by decide +kernel
theorem dX0_choose_56 : decode cX0_choose 56 = .ok (.iload 6, 2) := by decide +kernel
theorem dX0_choose_58 : decode cX0_choose 58 = .ok (.iconst 0, 1) := by decide +kernel
theorem dX0_choose_59 : decode cX0_choose 59 = .ok (.invokestatic 39, 3) := by decide +kernel
theorem dX0_choose_62 : decode cX0_choose 62 = .ok (.aload_n 0, 1) := by decide +kernel
theorem dX0_choose_63 : decode cX0_choose 63 = .ok (.getfield 21, 3) := by decide +kernel
theorem dX0_choose_66 : decode cX0_choose 66 = .ok (.iload 6, 2) := by decide +kernel
theorem dX0_choose_68 : decode cX0_choose 68 = .ok (.iconst 0, 1) := by decide +kernel
theorem dX0_choose_69 : decode cX0_choose 69 = .ok (.invokestatic 39, 3) := by decide +kernel
theorem dX0_choose_72 : decode cX0_choose 72 = .ok (.aload_n 0, 1) := by decide +kernel
theorem dX0_choose_73 : decode cX0_choose 73 = .ok (.getfield 15, 3) := by decide +kernel
theorem dX0_choose_76 : decode cX0_choose 76 = .ok (.iload 6, 2) := by decide +kernel
theorem dX0_choose_78 : decode cX0_choose 78 = .ok (.iconst 0, 1) := by decide +kernel
theorem dX0_choose_79 : decode cX0_choose 79 = .ok (.invokestatic 39, 3) := by decide +kernel
theorem dX0_choose_82 : decode cX0_choose 82 = .ok (.iinc 6 1, 3) := by decide +kernel
theorem dX0_choose_85 : decode cX0_choose 85 = .ok (.goto (-40), 3) := by decide +kernel
theorem dX0_choose_88 : decode cX0_choose 88 = .ok (.iconst 0, 1) := by decide +kernel
theorem dX0_choose_89 : decode cX0_choose 89 = .ok (.istore 6, 2) := by decide +kernel
theorem dX0_choose_91 : decode cX0_choose 91 = .ok (.iload 6, 2) := by decide +kernel
theorem dX0_choose_93 : decode cX0_choose 93 = .ok (.iload 5, 2) := by decide +kernel
theorem dX0_choose_95 : decode cX0_choose 95 = .ok (.if_icmp .ge 51, 3) := by decide +kernel
theorem dX0_choose_98 : decode cX0_choose 98 = .ok (.aload_n 1, 1) := by decide +kernel
theorem dX0_choose_99 : decode cX0_choose 99 = .ok (.iload 6, 2) := by decide +kernel
theorem dX0_choose_101 : decode cX0_choose 101 = .ok (.invokevirtual 43, 3) := by decide +kernel
theorem dX0_choose_104 : decode cX0_choose 104 = .ok (.iload_n 2, 1) := by decide +kernel
theorem dX0_choose_105 : decode cX0_choose 105 = .ok (.invokestatic 47, 3) := by decide +kernel
theorem dX0_choose_108 : decode cX0_choose 108 = .ok (.istore 7, 2) := by decide +kernel
theorem dX0_choose_110 : decode cX0_choose 110 = .ok (.aload_n 0, 1) := by decide +kernel
theorem dX0_choose_111 : decode cX0_choose 111 = .ok (.getfield 24, 3) := by decide +kernel
theorem dX0_choose_114 : decode cX0_choose 114 = .ok (.iload 6, 2) := by decide +kernel
theorem dX0_choose_116 : decode cX0_choose 116 = .ok (.aload_n 0, 1) := by decide +kernel
theorem dX0_choose_117 : decode cX0_choose 117 = .ok (.aload_n 1, 1) := by decide +kernel
theorem dX0_choose_118 : decode cX0_choose 118 = .ok (.iload 6, 2) := by decide +kernel
theorem dX0_choose_120 : decode cX0_choose 120 = .ok (.iload 7, 2) := by decide +kernel
theorem dX0_choose_122 : decode cX0_choose 122 = .ok (.iload_n 3, 1) := by decide +kernel
theorem dX0_choose_123 : decode cX0_choose 123 = .ok (.iload 4, 2) := by decide +kernel
theorem dX0_choose_125 : decode cX0_choose 125 = .ok (.invokevirtual 51, 3) := by decide +kernel
theorem dX0_choose_128 : decode cX0_choose 128 = .ok (.ifCond .eq 8, 3) := by decide +kernel
theorem dX0_choose_131 : decode cX0_choose 131 = .ok (.iload 7, 2) := by decide +kernel
theorem dX0_choose_133 : decode cX0_choose 133 = .ok (.goto 4, 3) := by decide +kernel
theorem dX0_choose_136 : decode cX0_choose 136 = .ok (.iconst (-1), 1) := by decide +kernel
theorem dX0_choose_137 : decode cX0_choose 137 = .ok (.invokestatic 39, 3) := by decide +kernel
theorem dX0_choose_140 : decode cX0_choose 140 = .ok (.iinc 6 1, 3) := by decide +kernel
theorem dX0_choose_143 : decode cX0_choose 143 = .ok (.goto (-52), 3) := by decide +kernel
theorem dX0_choose_146 : decode cX0_choose 146 = .ok (.aload_n 0, 1) := by decide +kernel
theorem dX0_choose_147 : decode cX0_choose 147 = .ok (.invokevirtual 55, 3) := by decide +kernel
theorem dX0_choose_150 : decode cX0_choose 150 = .ok (.iconst 0, 1) := by decide +kernel
theorem dX0_choose_151 : decode cX0_choose 151 = .ok (.istore 6, 2) := by decide +kernel
theorem dX0_choose_153 : decode cX0_choose 153 = .ok (.iload 6, 2) := by decide +kernel
theorem dX0_choose_155 : decode cX0_choose 155 = .ok (.iload 5, 2) := by decide +kernel
theorem dX0_choose_157 : decode cX0_choose 157 = .ok (.if_icmp .ge 25, 3) := by decide +kernel
theorem dX0_choose_160 : decode cX0_choose 160 = .ok (.aload_n 0, 1) := by decide +kernel
theorem dX0_choose_161 : decode cX0_choose 161 = .ok (.iload 6, 2) := by decide +kernel
theorem dX0_choose_163 : decode cX0_choose 163 = .ok (.aload_n 0, 1) := by decide +kernel
theorem dX0_choose_164 : decode cX0_choose 164 = .ok (.getfield 24, 3) := by decide +kernel
theorem dX0_choose_167 : decode cX0_choose 167 = .ok (.iload 6, 2) := by decide +kernel
theorem dX0_choose_169 : decode cX0_choose 169 = .ok (.invokestatic 58, 3) := by decide +kernel
theorem dX0_choose_172 : decode cX0_choose 172 = .ok (.aload_n 1, 1) := by decide +kernel
theorem dX0_choose_173 : decode cX0_choose 173 = .ok (.invokevirtual 62, 3) := by decide +kernel
theorem dX0_choose_176 : decode cX0_choose 176 = .ok (.iinc 6 1, 3) := by decide +kernel
theorem dX0_choose_179 : decode cX0_choose 179 = .ok (.goto (-26), 3) := by decide +kernel
theorem dX0_choose_182 : decode cX0_choose 182 = .ok (.return_, 1) := by decide +kernel
theorem dX0_countIfEasy_0 : decode cX0_countIfEasy 0 = .ok (.iload_n 3, 1) := by decide +kernel
theorem dX0_countIfEasy_1 : decode cX0_countIfEasy 1 = .ok (.iconst (-1), 1) := by decide +kernel
theorem dX0_countIfEasy_2 : decode cX0_countIfEasy 2 = .ok (.if_icmp .ne 5, 3) := by decide +kernel
theorem dX0_countIfEasy_5 : decode cX0_countIfEasy 5 = .ok (.iconst 0, 1) := by decide +kernel
theorem dX0_countIfEasy_6 : decode cX0_countIfEasy 6 = .ok (.ireturn, 1) := by decide +kernel
theorem dX0_countIfEasy_7 : decode cX0_countIfEasy 7 = .ok (.aload_n 0, 1) := by decide +kernel
theorem dX0_countIfEasy_8 : decode cX0_countIfEasy 8 = .ok (.getfield 18, 3) := by decide +kernel
theorem dX0_countIfEasy_11 : decode cX0_countIfEasy 11 = .ok (.iload_n 3, 1) := by decide +kernel
theorem dX0_countIfEasy_12 : decode cX0_countIfEasy 12 = .ok (.aload_n 0, 1) := by decide +kernel
theorem dX0_countIfEasy_13 : decode cX0_countIfEasy 13 = .ok (.getfield 18, 3) := by decide +kernel
theorem dX0_countIfEasy_16 : decode cX0_countIfEasy 16 = .ok (.iload_n 3, 1) := by decide +kernel
theorem dX0_countIfEasy_17 : decode cX0_countIfEasy 17 = .ok (.invokestatic 58, 3) := by decide +kernel
theorem dX0_countIfEasy_20 : decode cX0_countIfEasy 20 = .ok (.iconst 1, 1) := by decide +kernel
theorem dX0_countIfEasy_21 : decode cX0_countIfEasy 21 = .ok (.iadd, 1) := by decide +kernel
theorem dX0_countIfEasy_22 : decode cX0_countIfEasy 22 = .ok (.invokestatic 39, 3) := by decide +kernel
theorem dX0_countIfEasy_25 : decode cX0_countIfEasy 25 = .ok (.aload_n 1, 1) := by decide +kernel
theorem dX0_countIfEasy_26 : decode cX0_countIfEasy 26 = .ok (.getfield 66, 3) := by decide +kernel
theorem dX0_countIfEasy_29 : decode cX0_countIfEasy 29 = .ok (.aload_n 1, 1) := by decide +kernel
theorem dX0_countIfEasy_30 : decode cX0_countIfEasy 30 = .ok (.iload_n 2, 1) := by decide +kernel
theorem dX0_countIfEasy_31 : decode cX0_countIfEasy 31 = .ok (.invokevirtual 69, 3) := by decide +kernel
theorem dX0_countIfEasy_34 : decode cX0_countIfEasy 34 = .ok (.invokestatic 58, 3) := by decide +kernel
theorem dX0_countIfEasy_37 : decode cX0_countIfEasy 37 = .ok (.istore 6, 2) := by decide +kernel
theorem dX0_countIfEasy_39 : decode cX0_countIfEasy 39 = .ok (.aload_n 1, 1) := by decide +kernel
theorem dX0_countIfEasy_40 : decode cX0_countIfEasy 40 = .ok (.getfield 72, 3) := by decide +kernel
theorem dX0_countIfEasy_43 : decode cX0_countIfEasy 43 = .ok (.aload_n 1, 1) := by decide +kernel
theorem dX0_countIfEasy_44 : decode cX0_countIfEasy 44 = .ok (.iload_n 2, 1) := by decide +kernel
theorem dX0_countIfEasy_45 : decode cX0_countIfEasy 45 = .ok (.invokevirtual 69, 3) := by decide +kernel
theorem dX0_countIfEasy_48 : decode cX0_countIfEasy 48 = .ok (.invokestatic 58, 3) := by decide +kernel
theorem dX0_countIfEasy_51 : decode cX0_countIfEasy 51 = .ok (.istore 7, 2) := by decide +kernel
theorem dX0_countIfEasy_53 : decode cX0_countIfEasy 53 = .ok (.iload 6, 2) := by decide +kernel
theorem dX0_countIfEasy_55 : decode cX0_countIfEasy 55 = .ok (.iconst 2, 1) := by decide +kernel
theorem dX0_countIfEasy_56 : decode cX0_countIfEasy 56 = .ok (.if_icmp .gt 33, 3) := by decide +kernel
theorem dX0_countIfEasy_59 : decode cX0_countIfEasy 59 = .ok (.iload 7, 2) := by decide +kernel
theorem dX0_countIfEasy_61 : decode cX0_countIfEasy 61 = .ok (.iconst 3, 1) := by decide +kernel
theorem dX0_countIfEasy_62 : decode cX0_countIfEasy 62 = .ok (.if_icmp .gt 27, 3) := by decide +kernel
theorem dX0_countIfEasy_65 : decode cX0_countIfEasy 65 = .ok (.aload_n 0, 1) := by decide +kernel
theorem dX0_countIfEasy_66 : decode cX0_countIfEasy 66 = .ok (.getfield 21, 3) := by decide +kernel
theorem dX0_countIfEasy_69 : decode cX0_countIfEasy 69 = .ok (.iload_n 3, 1) := by decide +kernel
theorem dX0_countIfEasy_70 : decode cX0_countIfEasy 70 = .ok (.aload_n 0, 1) := by decide +kernel
theorem dX0_countIfEasy_71 : decode cX0_countIfEasy 71 = .ok (.getfield 21, 3) := by decide +kernel
theorem dX0_countIfEasy_74 : decode cX0_countIfEasy 74 = .ok (.iload_n 3, 1) := by decide +kernel
theorem dX0_countIfEasy_75 : decode cX0_countIfEasy 75 = .ok (.invokestatic 58, 3) := by decide +kernel
theorem dX0_countIfEasy_78 : decode cX0_countIfEasy 78 = .ok (.iload 6, 2) := by decide +kernel
theorem dX0_countIfEasy_80 : decode cX0_countIfEasy 80 = .ok (.iload 7, 2) := by decide +kernel
theorem dX0_countIfEasy_82 : decode cX0_countIfEasy 82 = .ok (.invokestatic 75, 3) := by decide +kernel
theorem dX0_countIfEasy_85 : decode cX0_countIfEasy 85 = .ok (.ior, 1) := by decide +kernel
theorem dX0_countIfEasy_86 : decode cX0_countIfEasy 86 = .ok (.invokestatic 39, 3) := by decide +kernel
theorem dX0_countIfEasy_89 : decode cX0_countIfEasy 89 = .ok (.iload 6, 2) := by decide +kernel
theorem dX0_countIfEasy_91 : decode cX0_countIfEasy 91 = .ok (.iload 4, 2) := by decide +kernel
theorem dX0_countIfEasy_93 : decode cX0_countIfEasy 93 = .ok (.if_icmp .gt 10, 3) := by decide +kernel
theorem dX0_countIfEasy_96 : decode cX0_countIfEasy 96 = .ok (.iload 7, 2) := by decide +kernel
theorem dX0_countIfEasy_98 : decode cX0_countIfEasy 98 = .ok (.iload 5, 2) := by decide +kernel
theorem dX0_countIfEasy_100 : decode cX0_countIfEasy 100 = .ok (.if_icmp .le 5, 3) := by decide +kernel
theorem dX0_countIfEasy_103 : decode cX0_countIfEasy 103 = .ok (.iconst 0, 1) := by decide +kernel
theorem dX0_countIfEasy_104 : decode cX0_countIfEasy 104 = .ok (.ireturn, 1) := by decide +kernel
theorem dX0_countIfEasy_105 : decode cX0_countIfEasy 105 = .ok (.aload_n 0, 1) := by decide +kernel
theorem dX0_countIfEasy_106 : decode cX0_countIfEasy 106 = .ok (.getfield 15, 3) := by decide +kernel
theorem dX0_countIfEasy_109 : decode cX0_countIfEasy 109 = .ok (.iload_n 3, 1) := by decide +kernel
theorem dX0_countIfEasy_110 : decode cX0_countIfEasy 110 = .ok (.aload_n 0, 1) := by decide +kernel
theorem dX0_countIfEasy_111 : decode cX0_countIfEasy 111 = .ok (.getfield 15, 3) := by decide +kernel
theorem dX0_countIfEasy_114 : decode cX0_countIfEasy 114 = .ok (.iload_n 3, 1) := by decide +kernel
theorem dX0_countIfEasy_115 : decode cX0_countIfEasy 115 = .ok (.invokestatic 58, 3) := by decide +kernel
theorem dX0_countIfEasy_118 : decode cX0_countIfEasy 118 = .ok (.iconst 1, 1) := by decide +kernel
theorem dX0_countIfEasy_119 : decode cX0_countIfEasy 119 = .ok (.iadd, 1) := by decide +kernel
theorem dX0_countIfEasy_120 : decode cX0_countIfEasy 120 = .ok (.invokestatic 39, 3) := by decide +kernel
theorem dX0_countIfEasy_123 : decode cX0_countIfEasy 123 = .ok (.iconst 1, 1) := by decide +kernel
theorem dX0_countIfEasy_124 : decode cX0_countIfEasy 124 = .ok (.ireturn, 1) := by decide +kernel
theorem dX0_layFirsts_0 : decode cX0_layFirsts 0 = .ok (.iconst 0, 1) := by decide +kernel
theorem dX0_layFirsts_1 : decode cX0_layFirsts 1 = .ok (.istore_n 1, 1) := by decide +kernel
theorem dX0_layFirsts_2 : decode cX0_layFirsts 2 = .ok (.iconst 0, 1) := by decide +kernel
theorem dX0_layFirsts_3 : decode cX0_layFirsts 3 = .ok (.istore_n 2, 1) := by decide +kernel
theorem dX0_layFirsts_4 : decode cX0_layFirsts 4 = .ok (.iload_n 2, 1) := by decide +kernel
theorem dX0_layFirsts_5 : decode cX0_layFirsts 5 = .ok (.bipush 25, 2) := by decide +kernel
theorem dX0_layFirsts_7 : decode cX0_layFirsts 7 = .ok (.if_icmp .ge 40, 3) := by decide +kernel
theorem dX0_layFirsts_10 : decode cX0_layFirsts 10 = .ok (.aload_n 0, 1) := by decide +kernel
theorem dX0_layFirsts_11 : decode cX0_layFirsts 11 = .ok (.getfield 15, 3) := by decide +kernel
theorem dX0_layFirsts_14 : decode cX0_layFirsts 14 = .ok (.iload_n 2, 1) := by decide +kernel
theorem dX0_layFirsts_15 : decode cX0_layFirsts 15 = .ok (.invokestatic 58, 3) := by decide +kernel
theorem dX0_layFirsts_18 : decode cX0_layFirsts 18 = .ok (.istore_n 3, 1) := by decide +kernel
theorem dX0_layFirsts_19 : decode cX0_layFirsts 19 = .ok (.aload_n 0, 1) := by decide +kernel
theorem dX0_layFirsts_20 : decode cX0_layFirsts 20 = .ok (.getfield 9, 3) := by decide +kernel
theorem dX0_layFirsts_23 : decode cX0_layFirsts 23 = .ok (.iload_n 2, 1) := by decide +kernel
theorem dX0_layFirsts_24 : decode cX0_layFirsts 24 = .ok (.iload_n 1, 1) := by decide +kernel
theorem dX0_layFirsts_25 : decode cX0_layFirsts 25 = .ok (.invokestatic 39, 3) := by decide +kernel
theorem dX0_layFirsts_28 : decode cX0_layFirsts 28 = .ok (.aload_n 0, 1) := by decide +kernel
theorem dX0_layFirsts_29 : decode cX0_layFirsts 29 = .ok (.getfield 15, 3) := by decide +kernel
theorem dX0_layFirsts_32 : decode cX0_layFirsts 32 = .ok (.iload_n 2, 1) := by decide +kernel
theorem dX0_layFirsts_33 : decode cX0_layFirsts 33 = .ok (.iload_n 1, 1) := by decide +kernel
theorem dX0_layFirsts_34 : decode cX0_layFirsts 34 = .ok (.invokestatic 39, 3) := by decide +kernel
theorem dX0_layFirsts_37 : decode cX0_layFirsts 37 = .ok (.iload_n 1, 1) := by decide +kernel
theorem dX0_layFirsts_38 : decode cX0_layFirsts 38 = .ok (.iload_n 3, 1) := by decide +kernel
theorem dX0_layFirsts_39 : decode cX0_layFirsts 39 = .ok (.iadd, 1) := by decide +kernel
theorem dX0_layFirsts_40 : decode cX0_layFirsts 40 = .ok (.istore_n 1, 1) := by decide +kernel
theorem dX0_layFirsts_41 : decode cX0_layFirsts 41 = .ok (.iinc 2 1, 3) := by decide +kernel
theorem dX0_layFirsts_44 : decode cX0_layFirsts 44 = .ok (.goto (-40), 3) := by decide +kernel
theorem dX0_layFirsts_47 : decode cX0_layFirsts 47 = .ok (.aload_n 0, 1) := by decide +kernel
theorem dX0_layFirsts_48 : decode cX0_layFirsts 48 = .ok (.getfield 9, 3) := by decide +kernel
theorem dX0_layFirsts_51 : decode cX0_layFirsts 51 = .ok (.bipush 25, 2) := by decide +kernel
theorem dX0_layFirsts_53 : decode cX0_layFirsts 53 = .ok (.iload_n 1, 1) := by decide +kernel
theorem dX0_layFirsts_54 : decode cX0_layFirsts 54 = .ok (.invokestatic 39, 3) := by decide +kernel
theorem dX0_layFirsts_57 : decode cX0_layFirsts 57 = .ok (.return_, 1) := by decide +kernel
theorem dX0_place_0 : decode cX0_place 0 = .ok (.iload_n 2, 1) := by decide +kernel
theorem dX0_place_1 : decode cX0_place 1 = .ok (.iconst (-1), 1) := by decide +kernel
theorem dX0_place_2 : decode cX0_place 2 = .ok (.if_icmp .ne 4, 3) := by decide +kernel
theorem dX0_place_5 : decode cX0_place 5 = .ok (.return_, 1) := by decide +kernel
theorem dX0_place_6 : decode cX0_place 6 = .ok (.aload_n 0, 1) := by decide +kernel
theorem dX0_place_7 : decode cX0_place 7 = .ok (.getfield 15, 3) := by decide +kernel
theorem dX0_place_10 : decode cX0_place 10 = .ok (.iload_n 2, 1) := by decide +kernel
theorem dX0_place_11 : decode cX0_place 11 = .ok (.invokestatic 58, 3) := by decide +kernel
theorem dX0_place_14 : decode cX0_place 14 = .ok (.istore 4, 2) := by decide +kernel
theorem dX0_place_16 : decode cX0_place 16 = .ok (.aload_n 0, 1) := by decide +kernel
theorem dX0_place_17 : decode cX0_place 17 = .ok (.getfield 27, 3) := by decide +kernel
theorem dX0_place_20 : decode cX0_place 20 = .ok (.iload 4, 2) := by decide +kernel
theorem dX0_place_22 : decode cX0_place 22 = .ok (.iload_n 1, 1) := by decide +kernel
theorem dX0_place_23 : decode cX0_place 23 = .ok (.invokestatic 39, 3) := by decide +kernel
theorem dX0_place_26 : decode cX0_place 26 = .ok (.aload_n 0, 1) := by decide +kernel
theorem dX0_place_27 : decode cX0_place 27 = .ok (.getfield 30, 3) := by decide +kernel
theorem dX0_place_30 : decode cX0_place 30 = .ok (.iload 4, 2) := by decide +kernel
theorem dX0_place_32 : decode cX0_place 32 = .ok (.aload_n 3, 1) := by decide +kernel
theorem dX0_place_33 : decode cX0_place 33 = .ok (.iload_n 1, 1) := by decide +kernel
theorem dX0_place_34 : decode cX0_place 34 = .ok (.invokevirtual 78, 3) := by decide +kernel
theorem dX0_place_37 : decode cX0_place 37 = .ok (.invokestatic 39, 3) := by decide +kernel
theorem dX0_place_40 : decode cX0_place 40 = .ok (.aload_n 0, 1) := by decide +kernel
theorem dX0_place_41 : decode cX0_place 41 = .ok (.getfield 15, 3) := by decide +kernel
theorem dX0_place_44 : decode cX0_place 44 = .ok (.iload_n 2, 1) := by decide +kernel
theorem dX0_place_45 : decode cX0_place 45 = .ok (.iload 4, 2) := by decide +kernel
theorem dX0_place_47 : decode cX0_place 47 = .ok (.iconst 1, 1) := by decide +kernel
theorem dX0_place_48 : decode cX0_place 48 = .ok (.iadd, 1) := by decide +kernel
theorem dX0_place_49 : decode cX0_place 49 = .ok (.invokestatic 39, 3) := by decide +kernel
theorem dX0_place_52 : decode cX0_place 52 = .ok (.return_, 1) := by decide +kernel
theorem dX0_firstOf_0 : decode cX0_firstOf 0 = .ok (.aload_n 0, 1) := by decide +kernel
theorem dX0_firstOf_1 : decode cX0_firstOf 1 = .ok (.getfield 9, 3) := by decide +kernel
theorem dX0_firstOf_4 : decode cX0_firstOf 4 = .ok (.iload_n 1, 1) := by decide +kernel
theorem dX0_firstOf_5 : decode cX0_firstOf 5 = .ok (.invokestatic 58, 3) := by decide +kernel
theorem dX0_firstOf_8 : decode cX0_firstOf 8 = .ok (.ireturn, 1) := by decide +kernel
theorem dX0_countOf_0 : decode cX0_countOf 0 = .ok (.iload_n 1, 1) := by decide +kernel
theorem dX0_countOf_1 : decode cX0_countOf 1 = .ok (.invokestatic 81, 3) := by decide +kernel
theorem dX0_countOf_4 : decode cX0_countOf 4 = .ok (.ifCond .eq 25, 3) := by decide +kernel
theorem dX0_countOf_7 : decode cX0_countOf 7 = .ok (.aload_n 0, 1) := by decide +kernel
theorem dX0_countOf_8 : decode cX0_countOf 8 = .ok (.getfield 9, 3) := by decide +kernel
theorem dX0_countOf_11 : decode cX0_countOf 11 = .ok (.iload_n 1, 1) := by decide +kernel
theorem dX0_countOf_12 : decode cX0_countOf 12 = .ok (.iconst 1, 1) := by decide +kernel
theorem dX0_countOf_13 : decode cX0_countOf 13 = .ok (.iadd, 1) := by decide +kernel
theorem dX0_countOf_14 : decode cX0_countOf 14 = .ok (.invokestatic 58, 3) := by decide +kernel
theorem dX0_countOf_17 : decode cX0_countOf 17 = .ok (.aload_n 0, 1) := by decide +kernel
theorem dX0_countOf_18 : decode cX0_countOf 18 = .ok (.getfield 9, 3) := by decide +kernel
theorem dX0_countOf_21 : decode cX0_countOf 21 = .ok (.iload_n 1, 1) := by decide +kernel
theorem dX0_countOf_22 : decode cX0_countOf 22 = .ok (.invokestatic 58, 3) := by decide +kernel
theorem dX0_countOf_25 : decode cX0_countOf 25 = .ok (.isub, 1) := by decide +kernel
theorem dX0_countOf_26 : decode cX0_countOf 26 = .ok (.goto 4, 3) := by decide +kernel
theorem dX0_countOf_29 : decode cX0_countOf 29 = .ok (.iconst 0, 1) := by decide +kernel
theorem dX0_countOf_30 : decode cX0_countOf 30 = .ok (.ireturn, 1) := by decide +kernel
theorem dX0_limitBit_0 : decode cX0_limitBit 0 = .ok (.iconst 1, 1) := by decide +kernel
theorem dX0_limitBit_1 : decode cX0_limitBit 1 = .ok (.iload_n 0, 1) := by decide +kernel
theorem dX0_limitBit_2 : decode cX0_limitBit 2 = .ok (.iconst 4, 1) := by decide +kernel
theorem dX0_limitBit_3 : decode cX0_limitBit 3 = .ok (.imul, 1) := by decide +kernel
theorem dX0_limitBit_4 : decode cX0_limitBit 4 = .ok (.iload_n 1, 1) := by decide +kernel
theorem dX0_limitBit_5 : decode cX0_limitBit 5 = .ok (.iadd, 1) := by decide +kernel
theorem dX0_limitBit_6 : decode cX0_limitBit 6 = .ok (.ishl, 1) := by decide +kernel
theorem dX0_limitBit_7 : decode cX0_limitBit 7 = .ok (.ireturn, 1) := by decide +kernel
theorem dX0_isPossible_0 : decode cX0_isPossible 0 = .ok (.iconst 0, 1) := by decide +kernel
theorem dX0_isPossible_1 : decode cX0_isPossible 1 = .ok (.istore 4, 2) := by decide +kernel
theorem dX0_isPossible_3 : decode cX0_isPossible 3 = .ok (.iload 4, 2) := by decide +kernel
theorem dX0_isPossible_5 : decode cX0_isPossible 5 = .ok (.iload_n 2, 1) := by decide +kernel
theorem dX0_isPossible_6 : decode cX0_isPossible 6 = .ok (.if_icmp .gt 45, 3) := by decide +kernel
theorem dX0_isPossible_9 : decode cX0_isPossible 9 = .ok (.iconst 0, 1) := by decide +kernel
theorem dX0_isPossible_10 : decode cX0_isPossible 10 = .ok (.istore 5, 2) := by decide +kernel
theorem dX0_isPossible_12 : decode cX0_isPossible 12 = .ok (.iload 5, 2) := by decide +kernel
theorem dX0_isPossible_14 : decode cX0_isPossible 14 = .ok (.iload_n 3, 1) := by decide +kernel
theorem dX0_isPossible_15 : decode cX0_isPossible 15 = .ok (.if_icmp .gt 30, 3) := by decide +kernel
theorem dX0_isPossible_18 : decode cX0_isPossible 18 = .ok (.aload_n 0, 1) := by decide +kernel
theorem dX0_isPossible_19 : decode cX0_isPossible 19 = .ok (.getfield 21, 3) := by decide +kernel
theorem dX0_isPossible_22 : decode cX0_isPossible 22 = .ok (.iload_n 1, 1) := by decide +kernel
theorem dX0_isPossible_23 : decode cX0_isPossible 23 = .ok (.invokestatic 58, 3) := by decide +kernel
theorem dX0_isPossible_26 : decode cX0_isPossible 26 = .ok (.iload 4, 2) := by decide +kernel
theorem dX0_isPossible_28 : decode cX0_isPossible 28 = .ok (.iload 5, 2) := by decide +kernel
theorem dX0_isPossible_30 : decode cX0_isPossible 30 = .ok (.invokestatic 75, 3) := by decide +kernel
theorem dX0_isPossible_33 : decode cX0_isPossible 33 = .ok (.iand, 1) := by decide +kernel
theorem dX0_isPossible_34 : decode cX0_isPossible 34 = .ok (.ifCond .eq 5, 3) := by decide +kernel
theorem dX0_isPossible_37 : decode cX0_isPossible 37 = .ok (.iconst 1, 1) := by decide +kernel
theorem dX0_isPossible_38 : decode cX0_isPossible 38 = .ok (.ireturn, 1) := by decide +kernel
theorem dX0_isPossible_39 : decode cX0_isPossible 39 = .ok (.iinc 5 1, 3) := by decide +kernel
theorem dX0_isPossible_42 : decode cX0_isPossible 42 = .ok (.goto (-30), 3) := by decide +kernel
theorem dX0_isPossible_45 : decode cX0_isPossible 45 = .ok (.iinc 4 1, 3) := by decide +kernel
theorem dX0_isPossible_48 : decode cX0_isPossible 48 = .ok (.goto (-45), 3) := by decide +kernel
theorem dX0_isPossible_51 : decode cX0_isPossible 51 = .ok (.iconst 0, 1) := by decide +kernel
theorem dX0_isPossible_52 : decode cX0_isPossible 52 = .ok (.ireturn, 1) := by decide +kernel
theorem dX0_lackingFrom_0 : decode cX0_lackingFrom 0 = .ok (.iload_n 2, 1) := by decide +kernel
theorem dX0_lackingFrom_1 : decode cX0_lackingFrom 1 = .ok (.istore 4, 2) := by decide +kernel
theorem dX0_lackingFrom_3 : decode cX0_lackingFrom 3 = .ok (.iload 4, 2) := by decide +kernel
theorem dX0_lackingFrom_5 : decode cX0_lackingFrom 5 = .ok (.aload_n 1, 1) := by decide +kernel
theorem dX0_lackingFrom_6 : decode cX0_lackingFrom 6 = .ok (.getfield 85, 3) := by decide +kernel
theorem dX0_lackingFrom_9 : decode cX0_lackingFrom 9 = .ok (.if_icmp .ge 39, 3) := by decide +kernel
theorem dX0_lackingFrom_12 : decode cX0_lackingFrom 12 = .ok (.aload_n 1, 1) := by decide +kernel
theorem dX0_lackingFrom_13 : decode cX0_lackingFrom 13 = .ok (.iload 4, 2) := by decide +kernel
theorem dX0_lackingFrom_15 : decode cX0_lackingFrom 15 = .ok (.invokevirtual 90, 3) := by decide +kernel
theorem dX0_lackingFrom_18 : decode cX0_lackingFrom 18 = .ok (.ifCond .ne 24, 3) := by decide +kernel
theorem dX0_lackingFrom_21 : decode cX0_lackingFrom 21 = .ok (.aload_n 0, 1) := by decide +kernel
theorem dX0_lackingFrom_22 : decode cX0_lackingFrom 22 = .ok (.aload_n 1, 1) := by decide +kernel
theorem dX0_lackingFrom_23 : decode cX0_lackingFrom 23 = .ok (.getfield 93, 3) := by decide +kernel
theorem dX0_lackingFrom_26 : decode cX0_lackingFrom 26 = .ok (.iload 4, 2) := by decide +kernel
theorem dX0_lackingFrom_28 : decode cX0_lackingFrom 28 = .ok (.invokestatic 58, 3) := by decide +kernel
theorem dX0_lackingFrom_31 : decode cX0_lackingFrom 31 = .ok (.iload_n 3, 1) := by decide +kernel
theorem dX0_lackingFrom_32 : decode cX0_lackingFrom 32 = .ok (.iadd, 1) := by decide +kernel
theorem dX0_lackingFrom_33 : decode cX0_lackingFrom 33 = .ok (.invokevirtual 96, 3) := by decide +kernel
theorem dX0_lackingFrom_36 : decode cX0_lackingFrom 36 = .ok (.ifCond .ne 6, 3) := by decide +kernel
theorem dX0_lackingFrom_39 : decode cX0_lackingFrom 39 = .ok (.iload 4, 2) := by decide +kernel
theorem dX0_lackingFrom_41 : decode cX0_lackingFrom 41 = .ok (.ireturn, 1) := by decide +kernel
theorem dX0_lackingFrom_42 : decode cX0_lackingFrom 42 = .ok (.iinc 4 1, 3) := by decide +kernel
theorem dX0_lackingFrom_45 : decode cX0_lackingFrom 45 = .ok (.goto (-42), 3) := by decide +kernel
theorem dX0_lackingFrom_48 : decode cX0_lackingFrom 48 = .ok (.iconst (-1), 1) := by decide +kernel
theorem dX0_lackingFrom_49 : decode cX0_lackingFrom 49 = .ok (.ireturn, 1) := by decide +kernel
