theorem dX5_init_0 : decode cX5_init 0 = .ok (.aload_n 0, 1) := by decide +kernel
theorem dX5_init_1 : decode cX5_init 1 = .ok (.invokespecial 1, 3) := by decide +kernel
theorem dX5_init_4 : decode cX5_init 4 = .ok (.aload_n 0, 1) := by decide +kernel
theorem dX5_init_5 : decode cX5_init 5 = .ok (.new 7, 3) := by decide +kernel
theorem dX5_init_8 : decode cX5_init 8 = .ok (.dup, 1) := by decide +kernel
theorem dX5_init_9 : decode cX5_init 9 = .ok (.invokespecial 9, 3) := by decide +kernel
theorem dX5_init_12 : decode cX5_init 12 = .ok (.putfield 10, 3) := by decide +kernel
theorem dX5_init_15 : decode cX5_init 15 = .ok (.aload_n 0, 1) := by decide +kernel
theorem dX5_init_16 : decode cX5_init 16 = .ok (.bipush 8, 2) := by decide +kernel
theorem dX5_init_18 : decode cX5_init 18 = .ok (.anewarray 7, 3) := by decide +kernel
theorem dX5_init_21 : decode cX5_init 21 = .ok (.putfield 16, 3) := by decide +kernel
theorem dX5_init_24 : decode cX5_init 24 = .ok (.aload_n 0, 1) := by decide +kernel
theorem dX5_init_25 : decode cX5_init 25 = .ok (.bipush 8, 2) := by decide +kernel
theorem dX5_init_27 : decode cX5_init 27 = .ok (.newarray .int, 2) := by decide +kernel
theorem dX5_init_29 : decode cX5_init 29 = .ok (.putfield 20, 3) := by decide +kernel
theorem dX5_init_32 : decode cX5_init 32 = .ok (.aload_n 0, 1) := by decide +kernel
theorem dX5_init_33 : decode cX5_init 33 = .ok (.iconst 0, 1) := by decide +kernel
theorem dX5_init_34 : decode cX5_init 34 = .ok (.putfield 24, 3) := by decide +kernel
theorem dX5_init_37 : decode cX5_init 37 = .ok (.aload_n 0, 1) := by decide +kernel
theorem dX5_init_38 : decode cX5_init 38 = .ok (.iconst 0, 1) := by decide +kernel
theorem dX5_init_39 : decode cX5_init 39 = .ok (.putfield 28, 3) := by decide +kernel
theorem dX5_init_42 : decode cX5_init 42 = .ok (.aload_n 0, 1) := by decide +kernel
theorem dX5_init_43 : decode cX5_init 43 = .ok (.iconst 2, 1) := by decide +kernel
theorem dX5_init_44 : decode cX5_init 44 = .ok (.anewarray 7, 3) := by decide +kernel
theorem dX5_init_47 : decode cX5_init 47 = .ok (.putfield 31, 3) := by decide +kernel
theorem dX5_init_50 : decode cX5_init 50 = .ok (.aload_n 0, 1) := by decide +kernel
theorem dX5_init_51 : decode cX5_init 51 = .ok (.iconst 2, 1) := by decide +kernel
theorem dX5_init_52 : decode cX5_init 52 = .ok (.newarray .int, 2) := by decide +kernel
theorem dX5_init_54 : decode cX5_init 54 = .ok (.putfield 34, 3) := by decide +kernel
theorem dX5_init_57 : decode cX5_init 57 = .ok (.aload_n 0, 1) := by decide +kernel
theorem dX5_init_58 : decode cX5_init 58 = .ok (.new 37, 3) := by decide +kernel
theorem dX5_init_61 : decode cX5_init 61 = .ok (.dup, 1) := by decide +kernel
theorem dX5_init_62 : decode cX5_init 62 = .ok (.invokespecial 39, 3) := by decide +kernel
theorem dX5_init_65 : decode cX5_init 65 = .ok (.putfield 40, 3) := by decide +kernel
theorem dX5_init_68 : decode cX5_init 68 = .ok (.aload_n 0, 1) := by decide +kernel
theorem dX5_init_69 : decode cX5_init 69 = .ok (.bipush 120, 2) := by decide +kernel
theorem dX5_init_71 : decode cX5_init 71 = .ok (.newarray .int, 2) := by decide +kernel
theorem dX5_init_73 : decode cX5_init 73 = .ok (.putfield 44, 3) := by decide +kernel
theorem dX5_init_76 : decode cX5_init 76 = .ok (.aload_n 0, 1) := by decide +kernel
theorem dX5_init_77 : decode cX5_init 77 = .ok (.iconst 0, 1) := by decide +kernel
theorem dX5_init_78 : decode cX5_init 78 = .ok (.putfield 47, 3) := by decide +kernel
theorem dX5_init_81 : decode cX5_init 81 = .ok (.aload_n 0, 1) := by decide +kernel
theorem dX5_init_82 : decode cX5_init 82 = .ok (.new 50, 3) := by decide +kernel
theorem dX5_init_85 : decode cX5_init 85 = .ok (.dup, 1) := by decide +kernel
theorem dX5_init_86 : decode cX5_init 86 = .ok (.invokespecial 52, 3) := by decide +kernel
theorem dX5_init_89 : decode cX5_init 89 = .ok (.putfield 53, 3) := by decide +kernel
theorem dX5_init_92 : decode cX5_init 92 = .ok (.aload_n 0, 1) := by decide +kernel
theorem dX5_init_93 : decode cX5_init 93 = .ok (.new 57, 3) := by decide +kernel
theorem dX5_init_96 : decode cX5_init 96 = .ok (.dup, 1) := by decide +kernel
theorem dX5_init_97 : decode cX5_init 97 = .ok (.invokespecial 59, 3) := by decide +kernel
theorem dX5_init_100 : decode cX5_init 100 = .ok (.putfield 60, 3) := by decide +kernel
theorem dX5_init_103 : decode cX5_init 103 = .ok (.aload_n 0, 1) := by decide +kernel
theorem dX5_init_104 : decode cX5_init 104 = .ok (.new 57, 3) := by decide +kernel
theorem dX5_init_107 : decode cX5_init 107 = .ok (.dup, 1) := by decide +kernel
theorem dX5_init_108 : decode cX5_init 108 = .ok (.invokespecial 59, 3) := by decide +kernel
theorem dX5_init_111 : decode cX5_init 111 = .ok (.putfield 64, 3) := by decide +kernel
theorem dX5_init_114 : decode cX5_init 114 = .ok (.aload_n 0, 1) := by decide +kernel
theorem dX5_init_115 : decode cX5_init 115 = .ok (.new 67, 3) := by decide +kernel
theorem dX5_init_118 : decode cX5_init 118 = .ok (.dup, 1) := by decide +kernel
theorem dX5_init_119 : decode cX5_init 119 = .ok (.invokespecial 69, 3) := by decide +kernel
theorem dX5_init_122 : decode cX5_init 122 = .ok (.putfield 70, 3) := by decide +kernel
theorem dX5_init_125 : decode cX5_init 125 = .ok (.aload_n 0, 1) := by decide +kernel
theorem dX5_init_126 : decode cX5_init 126 = .ok (.new 67, 3) := by decide +kernel
theorem dX5_init_129 : decode cX5_init 129 = .ok (.dup, 1) := by decide +kernel
theorem dX5_init_130 : decode cX5_init 130 = .ok (.invokespecial 69, 3) := by decide +kernel
theorem dX5_init_133 : decode cX5_init 133 = .ok (.putfield 74, 3) := by decide +kernel
theorem dX5_init_136 : decode cX5_init 136 = .ok (.aload_n 0, 1) := by decide +kernel
theorem dX5_init_137 : decode cX5_init 137 = .ok (.iconst 0, 1) := by decide +kernel
theorem dX5_init_138 : decode cX5_init 138 = .ok (.putfield 77, 3) := by decide +kernel
theorem dX5_init_141 : decode cX5_init 141 = .ok (.iconst 0, 1) := by decide +kernel
theorem dX5_init_142 : decode cX5_init 142 = .ok (.istore_n 1, 1) := by decide +kernel
theorem dX5_init_143 : decode cX5_init 143 = .ok (.iload_n 1, 1) := by decide +kernel
theorem dX5_init_144 : decode cX5_init 144 = .ok (.aload_n 0, 1) := by decide +kernel
theorem dX5_init_145 : decode cX5_init 145 = .ok (.getfield 16, 3) := by decide +kernel
theorem dX5_init_148 : decode cX5_init 148 = .ok (.arraylength, 1) := by decide +kernel
theorem dX5_init_149 : decode cX5_init 149 = .ok (.if_icmp .ge 22, 3) := by decide +kernel
theorem dX5_init_152 : decode cX5_init 152 = .ok (.aload_n 0, 1) := by decide +kernel
theorem dX5_init_153 : decode cX5_init 153 = .ok (.getfield 16, 3) := by decide +kernel
theorem dX5_init_156 : decode cX5_init 156 = .ok (.iload_n 1, 1) := by decide +kernel
theorem dX5_init_157 : decode cX5_init 157 = .ok (.new 7, 3) := by decide +kernel
theorem dX5_init_160 : decode cX5_init 160 = .ok (.dup, 1) := by decide +kernel
theorem dX5_init_161 : decode cX5_init 161 = .ok (.invokespecial 9, 3) := by decide +kernel
theorem dX5_init_164 : decode cX5_init 164 = .ok (.aastore, 1) := by decide +kernel
theorem dX5_init_165 : decode cX5_init 165 = .ok (.iinc 1 1, 3) := by decide +kernel
theorem dX5_init_168 : decode cX5_init 168 = .ok (.goto (-25), 3) := by decide +kernel
theorem dX5_init_171 : decode cX5_init 171 = .ok (.iconst 0, 1) := by decide +kernel
theorem dX5_init_172 : decode cX5_init 172 = .ok (.istore_n 1, 1) := by decide +kernel
theorem dX5_init_173 : decode cX5_init 173 = .ok (.iload_n 1, 1) := by decide +kernel
theorem dX5_init_174 : decode cX5_init 174 = .ok (.aload_n 0, 1) := by decide +kernel
theorem dX5_init_175 : decode cX5_init 175 = .ok (.getfield 31, 3) := by decide +kernel
theorem dX5_init_178 : decode cX5_init 178 = .ok (.arraylength, 1) := by decide +kernel
theorem dX5_init_179 : decode cX5_init 179 = .ok (.if_icmp .ge 22, 3) := by decide +kernel
theorem dX5_init_182 : decode cX5_init 182 = .ok (.aload_n 0, 1) := by decide +kernel
theorem dX5_init_183 : decode cX5_init 183 = .ok (.getfield 31, 3) := by decide +kernel
theorem dX5_init_186 : decode cX5_init 186 = .ok (.iload_n 1, 1) := by decide +kernel
theorem dX5_init_187 : decode cX5_init 187 = .ok (.new 7, 3) := by decide +kernel
theorem dX5_init_190 : decode cX5_init 190 = .ok (.dup, 1) := by decide +kernel
theorem dX5_init_191 : decode cX5_init 191 = .ok (.invokespecial 9, 3) := by decide +kernel
theorem dX5_init_194 : decode cX5_init 194 = .ok (.aastore, 1) := by decide +kernel
theorem dX5_init_195 : decode cX5_init 195 = .ok (.iinc 1 1, 3) := by decide +kernel
theorem dX5_init_198 : decode cX5_init 198 = .ok (.goto (-25), 3) := by decide +kernel
theorem dX5_init_201 : decode cX5_init 201 = .ok (.return_, 1) := by decide +kernel
theorem dX5_append_0 : decode cX5_append 0 = .ok (.aload_n 0, 1) := by decide +kernel
theorem dX5_append_1 : decode cX5_append 1 = .ok (.getfield 40, 3) := by decide +kernel
theorem dX5_append_4 : decode cX5_append 4 = .ok (.lload_n 1, 1) := by decide +kernel
theorem dX5_append_5 : decode cX5_append 5 = .ok (.invokevirtual 80, 3) := by decide +kernel
theorem dX5_append_8 : decode cX5_append 8 = .ok (.ifCond .eq 13, 3) := by decide +kernel
theorem dX5_append_11 : decode cX5_append 11 = .ok (.aload_n 0, 1) := by decide +kernel
theorem dX5_append_12 : decode cX5_append 12 = .ok (.getfield 40, 3) := by decide +kernel
theorem dX5_append_15 : decode cX5_append 15 = .ok (.getfield 84, 3) := by decide +kernel
theorem dX5_append_18 : decode cX5_append 18 = .ok (.goto 5, 3) := by decide +kernel
theorem dX5_append_21 : decode cX5_append 21 = .ok (.bipush (-2), 2) := by decide +kernel
theorem dX5_append_23 : decode cX5_append 23 = .ok (.ireturn, 1) := by decide +kernel
theorem dX5_load_0 : decode cX5_load 0 = .ok (.aload_n 0, 1) := by decide +kernel
theorem dX5_load_1 : decode cX5_load 1 = .ok (.getfield 40, 3) := by decide +kernel
theorem dX5_load_4 : decode cX5_load 4 = .ok (.invokevirtual 87, 3) := by decide +kernel
theorem dX5_load_7 : decode cX5_load 7 = .ok (.istore_n 1, 1) := by decide +kernel
theorem dX5_load_8 : decode cX5_load 8 = .ok (.aload_n 0, 1) := by decide +kernel
theorem dX5_load_9 : decode cX5_load 9 = .ok (.getfield 40, 3) := by decide +kernel
theorem dX5_load_12 : decode cX5_load 12 = .ok (.iconst 0, 1) := by decide +kernel
theorem dX5_load_13 : decode cX5_load 13 = .ok (.putfield 84, 3) := by decide +kernel
theorem dX5_load_16 : decode cX5_load 16 = .ok (.iload_n 1, 1) := by decide +kernel
theorem dX5_load_17 : decode cX5_load 17 = .ok (.ifCond .ne 14, 3) := by decide +kernel
theorem dX5_load_20 : decode cX5_load 20 = .ok (.bipush (-100), 2) := by decide +kernel
theorem dX5_load_22 : decode cX5_load 22 = .ok (.aload_n 0, 1) := by decide +kernel
theorem dX5_load_23 : decode cX5_load 23 = .ok (.getfield 40, 3) := by decide +kernel
theorem dX5_load_26 : decode cX5_load 26 = .ok (.getfield 91, 3) := by decide +kernel
theorem dX5_load_29 : decode cX5_load 29 = .ok (.isub, 1) := by decide +kernel
theorem dX5_load_30 : decode cX5_load 30 = .ok (.ireturn, 1) := by decide +kernel
theorem dX5_load_31 : decode cX5_load 31 = .ok (.aload_n 0, 1) := by decide +kernel
theorem dX5_load_32 : decode cX5_load 32 = .ok (.aload_n 0, 1) := by decide +kernel
theorem dX5_load_33 : decode cX5_load 33 = .ok (.getfield 40, 3) := by decide +kernel
theorem dX5_load_36 : decode cX5_load 36 = .ok (.getfield 94, 3) := by decide +kernel
theorem dX5_load_39 : decode cX5_load 39 = .ok (.invokevirtual 97, 3) := by decide +kernel
theorem dX5_load_42 : decode cX5_load 42 = .ok (.aload_n 0, 1) := by decide +kernel
theorem dX5_load_43 : decode cX5_load 43 = .ok (.getfield 10, 3) := by decide +kernel
theorem dX5_load_46 : decode cX5_load 46 = .ok (.getfield 101, 3) := by decide +kernel
theorem dX5_load_49 : decode cX5_load 49 = .ok (.ireturn, 1) := by decide +kernel
theorem dX5_loadError_0 : decode cX5_loadError 0 = .ok (.aload_n 0, 1) := by decide +kernel
theorem dX5_loadError_1 : decode cX5_loadError 1 = .ok (.getfield 40, 3) := by decide +kernel
theorem dX5_loadError_4 : decode cX5_loadError 4 = .ok (.getfield 104, 3) := by decide +kernel
theorem dX5_loadError_7 : decode cX5_loadError 7 = .ok (.ireturn, 1) := by decide +kernel
theorem dX5_loadStatement_0 : decode cX5_loadStatement 0 = .ok (.aload_n 0, 1) := by decide +kernel
theorem dX5_loadStatement_1 : decode cX5_loadStatement 1 = .ok (.getfield 40, 3) := by decide +kernel
theorem dX5_loadStatement_4 : decode cX5_loadStatement 4 = .ok (.getfield 104, 3) := by decide +kernel
theorem dX5_loadStatement_7 : decode cX5_loadStatement 7 = .ok (.ifCond .ne 7, 3) := by decide +kernel
theorem dX5_loadStatement_10 : decode cX5_loadStatement 10 = .ok (.iconst (-1), 1) := by decide +kernel
theorem dX5_loadStatement_11 : decode cX5_loadStatement 11 = .ok (.goto 10, 3) := by decide +kernel
theorem dX5_loadStatement_14 : decode cX5_loadStatement 14 = .ok (.aload_n 0, 1) := by decide +kernel
theorem dX5_loadStatement_15 : decode cX5_loadStatement 15 = .ok (.getfield 40, 3) := by decide +kernel
theorem dX5_loadStatement_18 : decode cX5_loadStatement 18 = .ok (.getfield 107, 3) := by decide +kernel
theorem dX5_loadStatement_21 : decode cX5_loadStatement 21 = .ok (.ireturn, 1) := by decide +kernel
theorem dX5_size_0 : decode cX5_size 0 = .ok (.aload_n 0, 1) := by decide +kernel
theorem dX5_size_1 : decode cX5_size 1 = .ok (.iload_n 1, 1) := by decide +kernel
theorem dX5_size_2 : decode cX5_size 2 = .ok (.iconst 0, 1) := by decide +kernel
theorem dX5_size_3 : decode cX5_size 3 = .ok (.bipush 15, 2) := by decide +kernel
theorem dX5_size_5 : decode cX5_size 5 = .ok (.invokevirtual 110, 3) := by decide +kernel
theorem dX5_size_8 : decode cX5_size 8 = .ok (.iload_n 1, 1) := by decide +kernel
theorem dX5_size_9 : decode cX5_size 9 = .ok (.tableswitch 203 0 14 #[75, 83, 91, 99, 107, 115, 123, 131, 139, 147, 155, 171, 179, 187, 195], 75) := by decide +kernel
theorem dX5_size_84 : decode cX5_size 84 = .ok (.aload_n 0, 1) := by decide +kernel
theorem dX5_size_85 : decode cX5_size 85 = .ok (.getfield 10, 3) := by decide +kernel
theorem dX5_size_88 : decode cX5_size 88 = .ok (.getfield 114, 3) := by decide +kernel
theorem dX5_size_91 : decode cX5_size 91 = .ok (.ireturn, 1) := by decide +kernel
theorem dX5_size_92 : decode cX5_size 92 = .ok (.aload_n 0, 1) := by decide +kernel
theorem dX5_size_93 : decode cX5_size 93 = .ok (.getfield 10, 3) := by decide +kernel
theorem dX5_size_96 : decode cX5_size 96 = .ok (.getfield 117, 3) := by decide +kernel
theorem dX5_size_99 : decode cX5_size 99 = .ok (.ireturn, 1) := by decide +kernel
theorem dX5_size_100 : decode cX5_size 100 = .ok (.aload_n 0, 1) := by decide +kernel
theorem dX5_size_101 : decode cX5_size 101 = .ok (.getfield 10, 3) := by decide +kernel
theorem dX5_size_104 : decode cX5_size 104 = .ok (.getfield 120, 3) := by decide +kernel
theorem dX5_size_107 : decode cX5_size 107 = .ok (.ireturn, 1) := by decide +kernel
theorem dX5_size_108 : decode cX5_size 108 = .ok (.aload_n 0, 1) := by decide +kernel
theorem dX5_size_109 : decode cX5_size 109 = .ok (.getfield 10, 3) := by decide +kernel
theorem dX5_size_112 : decode cX5_size 112 = .ok (.getfield 123, 3) := by decide +kernel
theorem dX5_size_115 : decode cX5_size 115 = .ok (.ireturn, 1) := by decide +kernel
theorem dX5_size_116 : decode cX5_size 116 = .ok (.aload_n 0, 1) := by decide +kernel
theorem dX5_size_117 : decode cX5_size 117 = .ok (.getfield 10, 3) := by decide +kernel
theorem dX5_size_120 : decode cX5_size 120 = .ok (.getfield 126, 3) := by decide +kernel
theorem dX5_size_123 : decode cX5_size 123 = .ok (.ireturn, 1) := by decide +kernel
theorem dX5_size_124 : decode cX5_size 124 = .ok (.aload_n 0, 1) := by decide +kernel
theorem dX5_size_125 : decode cX5_size 125 = .ok (.getfield 10, 3) := by decide +kernel
theorem dX5_size_128 : decode cX5_size 128 = .ok (.getfield 129, 3) := by decide +kernel
theorem dX5_size_131 : decode cX5_size 131 = .ok (.ireturn, 1) := by decide +kernel
theorem dX5_size_132 : decode cX5_size 132 = .ok (.aload_n 0, 1) := by decide +kernel
theorem dX5_size_133 : decode cX5_size 133 = .ok (.getfield 10, 3) := by decide +kernel
theorem dX5_size_136 : decode cX5_size 136 = .ok (.getfield 132, 3) := by decide +kernel
theorem dX5_size_139 : decode cX5_size 139 = .ok (.ireturn, 1) := by decide +kernel
theorem dX5_size_140 : decode cX5_size 140 = .ok (.aload_n 0, 1) := by decide +kernel
theorem dX5_size_141 : decode cX5_size 141 = .ok (.getfield 10, 3) := by decide +kernel
theorem dX5_size_144 : decode cX5_size 144 = .ok (.getfield 135, 3) := by decide +kernel
theorem dX5_size_147 : decode cX5_size 147 = .ok (.ireturn, 1) := by decide +kernel
theorem dX5_size_148 : decode cX5_size 148 = .ok (.aload_n 0, 1) := by decide +kernel
theorem dX5_size_149 : decode cX5_size 149 = .ok (.getfield 10, 3) := by decide +kernel
theorem dX5_size_152 : decode cX5_size 152 = .ok (.getfield 138, 3) := by decide +kernel
theorem dX5_size_155 : decode cX5_size 155 = .ok (.ireturn, 1) := by decide +kernel
theorem dX5_size_156 : decode cX5_size 156 = .ok (.aload_n 0, 1) := by decide +kernel
theorem dX5_size_157 : decode cX5_size 157 = .ok (.getfield 10, 3) := by decide +kernel
theorem dX5_size_160 : decode cX5_size 160 = .ok (.getfield 101, 3) := by decide +kernel
theorem dX5_size_163 : decode cX5_size 163 = .ok (.ireturn, 1) := by decide +kernel
theorem dX5_size_164 : decode cX5_size 164 = .ok (.aload_n 0, 1) := by decide +kernel
theorem dX5_size_165 : decode cX5_size 165 = .ok (.getfield 10, 3) := by decide +kernel
theorem dX5_size_168 : decode cX5_size 168 = .ok (.getfield 101, 3) := by decide +kernel
theorem dX5_size_171 : decode cX5_size 171 = .ok (.aload_n 0, 1) := by decide +kernel
theorem dX5_size_172 : decode cX5_size 172 = .ok (.getfield 10, 3) := by decide +kernel
theorem dX5_size_175 : decode cX5_size 175 = .ok (.invokevirtual 141, 3) := by decide +kernel
theorem dX5_size_178 : decode cX5_size 178 = .ok (.isub, 1) := by decide +kernel
theorem dX5_size_179 : decode cX5_size 179 = .ok (.ireturn, 1) := by decide +kernel
theorem dX5_size_180 : decode cX5_size 180 = .ok (.aload_n 0, 1) := by decide +kernel
theorem dX5_size_181 : decode cX5_size 181 = .ok (.getfield 10, 3) := by decide +kernel
theorem dX5_size_184 : decode cX5_size 184 = .ok (.invokevirtual 145, 3) := by decide +kernel
theorem dX5_size_187 : decode cX5_size 187 = .ok (.ireturn, 1) := by decide +kernel
theorem dX5_size_188 : decode cX5_size 188 = .ok (.aload_n 0, 1) := by decide +kernel
theorem dX5_size_189 : decode cX5_size 189 = .ok (.getfield 10, 3) := by decide +kernel
theorem dX5_size_192 : decode cX5_size 192 = .ok (.getfield 148, 3) := by decide +kernel
theorem dX5_size_195 : decode cX5_size 195 = .ok (.ireturn, 1) := by decide +kernel
theorem dX5_size_196 : decode cX5_size 196 = .ok (.aload_n 0, 1) := by decide +kernel
theorem dX5_size_197 : decode cX5_size 197 = .ok (.getfield 10, 3) := by decide +kernel
theorem dX5_size_200 : decode cX5_size 200 = .ok (.getfield 151, 3) := by decide +kernel
theorem dX5_size_203 : decode cX5_size 203 = .ok (.ireturn, 1) := by decide +kernel
theorem dX5_size_204 : decode cX5_size 204 = .ok (.aload_n 0, 1) := by decide +kernel
theorem dX5_size_205 : decode cX5_size 205 = .ok (.getfield 10, 3) := by decide +kernel
theorem dX5_size_208 : decode cX5_size 208 = .ok (.getfield 154, 3) := by decide +kernel
theorem dX5_size_211 : decode cX5_size 211 = .ok (.ireturn, 1) := by decide +kernel
theorem dX5_size_212 : decode cX5_size 212 = .ok (.aload_n 0, 1) := by decide +kernel
theorem dX5_size_213 : decode cX5_size 213 = .ok (.getfield 28, 3) := by decide +kernel
theorem dX5_size_216 : decode cX5_size 216 = .ok (.ireturn, 1) := by decide +kernel
theorem dX5_hole_0 : decode cX5_hole 0 = .ok (.aload_n 0, 1) := by decide +kernel
theorem dX5_hole_1 : decode cX5_hole 1 = .ok (.iload_n 1, 1) := by decide +kernel
theorem dX5_hole_2 : decode cX5_hole 2 = .ok (.invokevirtual 157, 3) := by decide +kernel
theorem dX5_hole_5 : decode cX5_hole 5 = .ok (.aload_n 0, 1) := by decide +kernel
theorem dX5_hole_6 : decode cX5_hole 6 = .ok (.iload_n 2, 1) := by decide +kernel
theorem dX5_hole_7 : decode cX5_hole 7 = .ok (.iconst 0, 1) := by decide +kernel
theorem dX5_hole_8 : decode cX5_hole 8 = .ok (.iconst 2, 1) := by decide +kernel
theorem dX5_hole_9 : decode cX5_hole 9 = .ok (.invokevirtual 110, 3) := by decide +kernel
theorem dX5_hole_12 : decode cX5_hole 12 = .ok (.iload_n 2, 1) := by decide +kernel
theorem dX5_hole_13 : decode cX5_hole 13 = .ok (.ifCond .ne 15, 3) := by decide +kernel
theorem dX5_hole_16 : decode cX5_hole 16 = .ok (.aload_n 0, 1) := by decide +kernel
theorem dX5_hole_17 : decode cX5_hole 17 = .ok (.getfield 10, 3) := by decide +kernel
theorem dX5_hole_20 : decode cX5_hole 20 = .ok (.getfield 161, 3) := by decide +kernel
theorem dX5_hole_23 : decode cX5_hole 23 = .ok (.iload_n 1, 1) := by decide +kernel
theorem dX5_hole_24 : decode cX5_hole 24 = .ok (.invokestatic 164, 3) := by decide +kernel
theorem dX5_hole_27 : decode cX5_hole 27 = .ok (.ireturn, 1) := by decide +kernel
theorem dX5_hole_28 : decode cX5_hole 28 = .ok (.iload_n 2, 1) := by decide +kernel
theorem dX5_hole_29 : decode cX5_hole 29 = .ok (.iconst 1, 1) := by decide +kernel
theorem dX5_hole_30 : decode cX5_hole 30 = .ok (.if_icmp .ne 17, 3) := by decide +kernel
theorem dX5_hole_33 : decode cX5_hole 33 = .ok (.aload_n 0, 1) := by decide +kernel
theorem dX5_hole_34 : decode cX5_hole 34 = .ok (.getfield 10, 3) := by decide +kernel
theorem dX5_hole_37 : decode cX5_hole 37 = .ok (.getfield 168, 3) := by decide +kernel
theorem dX5_hole_40 : decode cX5_hole 40 = .ok (.iload_n 1, 1) := by decide +kernel
theorem dX5_hole_41 : decode cX5_hole 41 = .ok (.invokestatic 164, 3) := by decide +kernel
theorem dX5_hole_44 : decode cX5_hole 44 = .ok (.goto 14, 3) := by decide +kernel
theorem dX5_hole_47 : decode cX5_hole 47 = .ok (.aload_n 0, 1) := by decide +kernel
theorem dX5_hole_48 : decode cX5_hole 48 = .ok (.getfield 10, 3) := by decide +kernel
theorem dX5_hole_51 : decode cX5_hole 51 = .ok (.getfield 148, 3) := by decide +kernel
theorem dX5_hole_54 : decode cX5_hole 54 = .ok (.iload_n 1, 1) := by decide +kernel
theorem dX5_hole_55 : decode cX5_hole 55 = .ok (.invokestatic 171, 3) := by decide +kernel
theorem dX5_hole_58 : decode cX5_hole 58 = .ok (.ireturn, 1) := by decide +kernel
theorem dX5_covered_0 : decode cX5_covered 0 = .ok (.aload_n 0, 1) := by decide +kernel
theorem dX5_covered_1 : decode cX5_covered 1 = .ok (.iload_n 1, 1) := by decide +kernel
theorem dX5_covered_2 : decode cX5_covered 2 = .ok (.invokevirtual 175, 3) := by decide +kernel
theorem dX5_covered_5 : decode cX5_covered 5 = .ok (.aload_n 0, 1) := by decide +kernel
theorem dX5_covered_6 : decode cX5_covered 6 = .ok (.iload_n 2, 1) := by decide +kernel
theorem dX5_covered_7 : decode cX5_covered 7 = .ok (.invokevirtual 157, 3) := by decide +kernel
theorem dX5_covered_10 : decode cX5_covered 10 = .ok (.iload_n 1, 1) := by decide +kernel
theorem dX5_covered_11 : decode cX5_covered 11 = .ok (.iload_n 2, 1) := by decide +kernel
theorem dX5_covered_12 : decode cX5_covered 12 = .ok (.invokestatic 171, 3) := by decide +kernel
theorem dX5_covered_15 : decode cX5_covered 15 = .ok (.ireturn, 1) := by decide +kernel
theorem dX5_sounding_0 : decode cX5_sounding 0 = .ok (.aload_n 0, 1) := by decide +kernel
theorem dX5_sounding_1 : decode cX5_sounding 1 = .ok (.iload_n 1, 1) := by decide +kernel
theorem dX5_sounding_2 : decode cX5_sounding 2 = .ok (.invokevirtual 175, 3) := by decide +kernel
theorem dX5_sounding_5 : decode cX5_sounding 5 = .ok (.aload_n 0, 1) := by decide +kernel
theorem dX5_sounding_6 : decode cX5_sounding 6 = .ok (.iconst 1, 1) := by decide +kernel
theorem dX5_sounding_7 : decode cX5_sounding 7 = .ok (.invokevirtual 178, 3) := by decide +kernel
theorem dX5_sounding_10 : decode cX5_sounding 10 = .ok (.aload_n 0, 1) := by decide +kernel
theorem dX5_sounding_11 : decode cX5_sounding 11 = .ok (.getfield 53, 3) := by decide +kernel
theorem dX5_sounding_14 : decode cX5_sounding 14 = .ok (.getfield 181, 3) := by decide +kernel
theorem dX5_sounding_17 : decode cX5_sounding 17 = .ok (.aload_n 0, 1) := by decide +kernel
theorem dX5_sounding_18 : decode cX5_sounding 18 = .ok (.getfield 53, 3) := by decide +kernel
theorem dX5_sounding_21 : decode cX5_sounding 21 = .ok (.iload_n 1, 1) := by decide +kernel
theorem dX5_sounding_22 : decode cX5_sounding 22 = .ok (.invokevirtual 184, 3) := by decide +kernel
theorem dX5_sounding_25 : decode cX5_sounding 25 = .ok (.invokestatic 164, 3) := by decide +kernel
theorem dX5_sounding_28 : decode cX5_sounding 28 = .ok (.ireturn, 1) := by decide +kernel
theorem dX5_cents_0 : decode cX5_cents 0 = .ok (.aload_n 0, 1) := by decide +kernel
theorem dX5_cents_1 : decode cX5_cents 1 = .ok (.iload_n 1, 1) := by decide +kernel
theorem dX5_cents_2 : decode cX5_cents 2 = .ok (.invokevirtual 175, 3) := by decide +kernel
theorem dX5_cents_5 : decode cX5_cents 5 = .ok (.aload_n 0, 1) := by decide +kernel
theorem dX5_cents_6 : decode cX5_cents 6 = .ok (.iconst 1, 1) := by decide +kernel
theorem dX5_cents_7 : decode cX5_cents 7 = .ok (.invokevirtual 178, 3) := by decide +kernel
theorem dX5_cents_10 : decode cX5_cents 10 = .ok (.aload_n 0, 1) := by decide +kernel
theorem dX5_cents_11 : decode cX5_cents 11 = .ok (.getfield 53, 3) := by decide +kernel
theorem dX5_cents_14 : decode cX5_cents 14 = .ok (.iload_n 1, 1) := by decide +kernel
theorem dX5_cents_15 : decode cX5_cents 15 = .ok (.invokevirtual 188, 3) := by decide +kernel
theorem dX5_cents_18 : decode cX5_cents 18 = .ok (.ireturn, 1) := by decide +kernel
theorem dX5_tone_0 : decode cX5_tone 0 = .ok (.aload_n 0, 1) := by decide +kernel
theorem dX5_tone_1 : decode cX5_tone 1 = .ok (.iload_n 1, 1) := by decide +kernel
theorem dX5_tone_2 : decode cX5_tone 2 = .ok (.invokevirtual 175, 3) := by decide +kernel
theorem dX5_tone_5 : decode cX5_tone 5 = .ok (.aload_n 0, 1) := by decide +kernel
theorem dX5_tone_6 : decode cX5_tone 6 = .ok (.iconst 1, 1) := by decide +kernel
theorem dX5_tone_7 : decode cX5_tone 7 = .ok (.invokevirtual 178, 3) := by decide +kernel
theorem dX5_tone_10 : decode cX5_tone 10 = .ok (.aload_n 0, 1) := by decide +kernel
theorem dX5_tone_11 : decode cX5_tone 11 = .ok (.getfield 53, 3) := by decide +kernel
theorem dX5_tone_14 : decode cX5_tone 14 = .ok (.iload_n 1, 1) := by decide +kernel
theorem dX5_tone_15 : decode cX5_tone 15 = .ok (.invokevirtual 188, 3) := by decide +kernel
theorem dX5_tone_18 : decode cX5_tone 18 = .ok (.aload_n 0, 1) := by decide +kernel
theorem dX5_tone_19 : decode cX5_tone 19 = .ok (.getfield 10, 3) := by decide +kernel
theorem dX5_tone_22 : decode cX5_tone 22 = .ok (.getfield 120, 3) := by decide +kernel
theorem dX5_tone_25 : decode cX5_tone 25 = .ok (.invokestatic 191, 3) := by decide +kernel
theorem dX5_tone_28 : decode cX5_tone 28 = .ok (.ireturn, 1) := by decide +kernel
theorem dX5_off_0 : decode cX5_off 0 = .ok (.aload_n 0, 1) := by decide +kernel
theorem dX5_off_1 : decode cX5_off 1 = .ok (.iload_n 1, 1) := by decide +kernel
theorem dX5_off_2 : decode cX5_off 2 = .ok (.invokevirtual 175, 3) := by decide +kernel
theorem dX5_off_5 : decode cX5_off 5 = .ok (.aload_n 0, 1) := by decide +kernel
theorem dX5_off_6 : decode cX5_off 6 = .ok (.iconst 1, 1) := by decide +kernel
theorem dX5_off_7 : decode cX5_off 7 = .ok (.invokevirtual 178, 3) := by decide +kernel
theorem dX5_off_10 : decode cX5_off 10 = .ok (.aload_n 0, 1) := by decide +kernel
theorem dX5_off_11 : decode cX5_off 11 = .ok (.getfield 53, 3) := by decide +kernel
theorem dX5_off_14 : decode cX5_off 14 = .ok (.iload_n 1, 1) := by decide +kernel
theorem dX5_off_15 : decode cX5_off 15 = .ok (.invokevirtual 188, 3) := by decide +kernel
theorem dX5_off_18 : decode cX5_off 18 = .ok (.bipush 100, 2) := by decide +kernel
theorem dX5_off_20 : decode cX5_off 20 = .ok (.irem, 1) := by decide +kernel
theorem dX5_off_21 : decode cX5_off 21 = .ok (.istore_n 2, 1) := by decide +kernel
theorem dX5_off_22 : decode cX5_off 22 = .ok (.iload_n 2, 1) := by decide +kernel
theorem dX5_off_23 : decode cX5_off 23 = .ok (.bipush 50, 2) := by decide +kernel
theorem dX5_off_25 : decode cX5_off 25 = .ok (.if_icmp .gt 7, 3) := by decide +kernel
theorem dX5_off_28 : decode cX5_off 28 = .ok (.iload_n 2, 1) := by decide +kernel
theorem dX5_off_29 : decode cX5_off 29 = .ok (.goto 7, 3) := by decide +kernel
theorem dX5_off_32 : decode cX5_off 32 = .ok (.iload_n 2, 1) := by decide +kernel
theorem dX5_off_33 : decode cX5_off 33 = .ok (.bipush 100, 2) := by decide +kernel
theorem dX5_off_35 : decode cX5_off 35 = .ok (.isub, 1) := by decide +kernel
theorem dX5_off_36 : decode cX5_off 36 = .ok (.ireturn, 1) := by decide +kernel
theorem dX5_halves_0 : decode cX5_halves 0 = .ok (.aload_n 0, 1) := by decide +kernel
theorem dX5_halves_1 : decode cX5_halves 1 = .ok (.iload_n 1, 1) := by decide +kernel
theorem dX5_halves_2 : decode cX5_halves 2 = .ok (.invokevirtual 175, 3) := by decide +kernel
theorem dX5_halves_5 : decode cX5_halves 5 = .ok (.aload_n 0, 1) := by decide +kernel
theorem dX5_halves_6 : decode cX5_halves 6 = .ok (.iconst 1, 1) := by decide +kernel
theorem dX5_halves_7 : decode cX5_halves 7 = .ok (.invokevirtual 178, 3) := by decide +kernel
theorem dX5_halves_10 : decode cX5_halves 10 = .ok (.aload_n 0, 1) := by decide +kernel
theorem dX5_halves_11 : decode cX5_halves 11 = .ok (.getfield 53, 3) := by decide +kernel
theorem dX5_halves_14 : decode cX5_halves 14 = .ok (.getfield 194, 3) := by decide +kernel
theorem dX5_halves_17 : decode cX5_halves 17 = .ok (.aload_n 0, 1) := by decide +kernel
theorem dX5_halves_18 : decode cX5_halves 18 = .ok (.getfield 53, 3) := by decide +kernel
theorem dX5_halves_21 : decode cX5_halves 21 = .ok (.iload_n 1, 1) := by decide +kernel
theorem dX5_halves_22 : decode cX5_halves 22 = .ok (.invokevirtual 184, 3) := by decide +kernel
theorem dX5_halves_25 : decode cX5_halves 25 = .ok (.invokestatic 164, 3) := by decide +kernel
theorem dX5_halves_28 : decode cX5_halves 28 = .ok (.ireturn, 1) := by decide +kernel
theorem dX5_crosses_0 : decode cX5_crosses 0 = .ok (.aload_n 0, 1) := by decide +kernel
theorem dX5_crosses_1 : decode cX5_crosses 1 = .ok (.iload_n 1, 1) := by decide +kernel
theorem dX5_crosses_2 : decode cX5_crosses 2 = .ok (.invokevirtual 175, 3) := by decide +kernel
theorem dX5_crosses_5 : decode cX5_crosses 5 = .ok (.aload_n 0, 1) := by decide +kernel
theorem dX5_crosses_6 : decode cX5_crosses 6 = .ok (.iconst 1, 1) := by decide +kernel
theorem dX5_crosses_7 : decode cX5_crosses 7 = .ok (.invokevirtual 178, 3) := by decide +kernel
theorem dX5_crosses_10 : decode cX5_crosses 10 = .ok (.aload_n 0, 1) := by decide +kernel
theorem dX5_crosses_11 : decode cX5_crosses 11 = .ok (.getfield 53, 3) := by decide +kernel
theorem dX5_crosses_14 : decode cX5_crosses 14 = .ok (.getfield 196, 3) := by decide +kernel
theorem dX5_crosses_17 : decode cX5_crosses 17 = .ok (.aload_n 0, 1) := by decide +kernel
theorem dX5_crosses_18 : decode cX5_crosses 18 = .ok (.getfield 53, 3) := by decide +kernel
theorem dX5_crosses_21 : decode cX5_crosses 21 = .ok (.iload_n 1, 1) := by decide +kernel
theorem dX5_crosses_22 : decode cX5_crosses 22 = .ok (.invokevirtual 184, 3) := by decide +kernel
theorem dX5_crosses_25 : decode cX5_crosses 25 = .ok (.invokestatic 164, 3) := by decide +kernel
theorem dX5_crosses_28 : decode cX5_crosses 28 = .ok (.ireturn, 1) := by decide +kernel
theorem dX5_isEasy_0 : decode cX5_isEasy 0 = .ok (.aload_n 0, 1) := by decide +kernel
theorem dX5_isEasy_1 : decode cX5_isEasy 1 = .ok (.iload_n 1, 1) := by decide +kernel
theorem dX5_isEasy_2 : decode cX5_isEasy 2 = .ok (.invokevirtual 175, 3) := by decide +kernel
theorem dX5_isEasy_5 : decode cX5_isEasy 5 = .ok (.aload_n 0, 1) := by decide +kernel
theorem dX5_isEasy_6 : decode cX5_isEasy 6 = .ok (.iconst 1, 1) := by decide +kernel
theorem dX5_isEasy_7 : decode cX5_isEasy 7 = .ok (.invokevirtual 178, 3) := by decide +kernel
theorem dX5_isEasy_10 : decode cX5_isEasy 10 = .ok (.aload_n 0, 1) := by decide +kernel
theorem dX5_isEasy_11 : decode cX5_isEasy 11 = .ok (.getfield 53, 3) := by decide +kernel
theorem dX5_isEasy_14 : decode cX5_isEasy 14 = .ok (.iload_n 1, 1) := by decide +kernel
theorem dX5_isEasy_15 : decode cX5_isEasy 15 = .ok (.invokevirtual 184, 3) := by decide +kernel
theorem dX5_isEasy_18 : decode cX5_isEasy 18 = .ok (.istore_n 2, 1) := by decide +kernel
theorem dX5_isEasy_19 : decode cX5_isEasy 19 = .ok (.aload_n 0, 1) := by decide +kernel
theorem dX5_isEasy_20 : decode cX5_isEasy 20 = .ok (.getfield 53, 3) := by decide +kernel
theorem dX5_isEasy_23 : decode cX5_isEasy 23 = .ok (.getfield 194, 3) := by decide +kernel
theorem dX5_isEasy_26 : decode cX5_isEasy 26 = .ok (.iload_n 2, 1) := by decide +kernel
theorem dX5_isEasy_27 : decode cX5_isEasy 27 = .ok (.invokestatic 164, 3) := by decide +kernel
theorem dX5_isEasy_30 : decode cX5_isEasy 30 = .ok (.aload_n 0, 1) := by decide +kernel
theorem dX5_isEasy_31 : decode cX5_isEasy 31 = .ok (.getfield 10, 3) := by decide +kernel
theorem dX5_isEasy_34 : decode cX5_isEasy 34 = .ok (.getfield 126, 3) := by decide +kernel
theorem dX5_isEasy_37 : decode cX5_isEasy 37 = .ok (.if_icmp .gt 28, 3) := by decide +kernel
theorem dX5_isEasy_40 : decode cX5_isEasy 40 = .ok (.aload_n 0, 1) := by decide +kernel
theorem dX5_isEasy_41 : decode cX5_isEasy 41 = .ok (.getfield 53, 3) := by decide +kernel
theorem dX5_isEasy_44 : decode cX5_isEasy 44 = .ok (.getfield 196, 3) := by decide +kernel
theorem dX5_isEasy_47 : decode cX5_isEasy 47 = .ok (.iload_n 2, 1) := by decide +kernel
theorem dX5_isEasy_48 : decode cX5_isEasy 48 = .ok (.invokestatic 164, 3) := by decide +kernel
theorem dX5_isEasy_51 : decode cX5_isEasy 51 = .ok (.aload_n 0, 1) := by decide +kernel
theorem dX5_isEasy_52 : decode cX5_isEasy 52 = .ok (.getfield 10, 3) := by decide +kernel
theorem dX5_isEasy_55 : decode cX5_isEasy 55 = .ok (.getfield 129, 3) := by decide +kernel
theorem dX5_isEasy_58 : decode cX5_isEasy 58 = .ok (.if_icmp .gt 7, 3) := by decide +kernel
theorem dX5_isEasy_61 : decode cX5_isEasy 61 = .ok (.iconst 1, 1) := by decide +kernel
theorem dX5_isEasy_62 : decode cX5_isEasy 62 = .ok (.goto 4, 3) := by decide +kernel
theorem dX5_isEasy_65 : decode cX5_isEasy 65 = .ok (.iconst 0, 1) := by decide +kernel
theorem dX5_isEasy_66 : decode cX5_isEasy 66 = .ok (.ireturn, 1) := by decide +kernel
theorem dX5_plays_0 : decode cX5_plays 0 = .ok (.aload_n 0, 1) := by decide +kernel
theorem dX5_plays_1 : decode cX5_plays 1 = .ok (.iload_n 1, 1) := by decide +kernel
theorem dX5_plays_2 : decode cX5_plays 2 = .ok (.invokevirtual 198, 3) := by decide +kernel
theorem dX5_plays_5 : decode cX5_plays 5 = .ok (.aload_n 0, 1) := by decide +kernel
theorem dX5_plays_6 : decode cX5_plays 6 = .ok (.iconst 2, 1) := by decide +kernel
theorem dX5_plays_7 : decode cX5_plays 7 = .ok (.invokevirtual 178, 3) := by decide +kernel
theorem dX5_plays_10 : decode cX5_plays 10 = .ok (.aload_n 0, 1) := by decide +kernel
theorem dX5_plays_11 : decode cX5_plays 11 = .ok (.getfield 60, 3) := by decide +kernel
theorem dX5_plays_14 : decode cX5_plays 14 = .ok (.iload_n 1, 1) := by decide +kernel
theorem dX5_plays_15 : decode cX5_plays 15 = .ok (.invokevirtual 201, 3) := by decide +kernel
theorem dX5_plays_18 : decode cX5_plays 18 = .ok (.ireturn, 1) := by decide +kernel
theorem dX5_playOf_0 : decode cX5_playOf 0 = .ok (.aload_n 0, 1) := by decide +kernel
theorem dX5_playOf_1 : decode cX5_playOf 1 = .ok (.iload_n 1, 1) := by decide +kernel
theorem dX5_playOf_2 : decode cX5_playOf 2 = .ok (.invokevirtual 198, 3) := by decide +kernel
theorem dX5_playOf_5 : decode cX5_playOf 5 = .ok (.aload_n 0, 1) := by decide +kernel
theorem dX5_playOf_6 : decode cX5_playOf 6 = .ok (.iconst 2, 1) := by decide +kernel
theorem dX5_playOf_7 : decode cX5_playOf 7 = .ok (.invokevirtual 178, 3) := by decide +kernel
theorem dX5_playOf_10 : decode cX5_playOf 10 = .ok (.iload_n 2, 1) := by decide +kernel
theorem dX5_playOf_11 : decode cX5_playOf 11 = .ok (.ifCond .lt 15, 3) := by decide +kernel
theorem dX5_playOf_14 : decode cX5_playOf 14 = .ok (.iload_n 2, 1) := by decide +kernel
theorem dX5_playOf_15 : decode cX5_playOf 15 = .ok (.aload_n 0, 1) := by decide +kernel
theorem dX5_playOf_16 : decode cX5_playOf 16 = .ok (.getfield 60, 3) := by decide +kernel
theorem dX5_playOf_19 : decode cX5_playOf 19 = .ok (.iload_n 1, 1) := by decide +kernel
theorem dX5_playOf_20 : decode cX5_playOf 20 = .ok (.invokevirtual 201, 3) := by decide +kernel
theorem dX5_playOf_23 : decode cX5_playOf 23 = .ok (.if_icmp .lt 5, 3) := by decide +kernel
theorem dX5_playOf_26 : decode cX5_playOf 26 = .ok (.iconst (-1), 1) := by decide +kernel
theorem dX5_playOf_27 : decode cX5_playOf 27 = .ok (.ireturn, 1) := by decide +kernel
theorem dX5_playOf_28 : decode cX5_playOf 28 = .ok (.aload_n 0, 1) := by decide +kernel
theorem dX5_playOf_29 : decode cX5_playOf 29 = .ok (.getfield 60, 3) := by decide +kernel
theorem dX5_playOf_32 : decode cX5_playOf 32 = .ok (.getfield 204, 3) := by decide +kernel
theorem dX5_playOf_35 : decode cX5_playOf 35 = .ok (.aload_n 0, 1) := by decide +kernel
theorem dX5_playOf_36 : decode cX5_playOf 36 = .ok (.getfield 60, 3) := by decide +kernel
theorem dX5_playOf_39 : decode cX5_playOf 39 = .ok (.iload_n 1, 1) := by decide +kernel
theorem dX5_playOf_40 : decode cX5_playOf 40 = .ok (.invokevirtual 207, 3) := by decide +kernel
theorem dX5_playOf_43 : decode cX5_playOf 43 = .ok (.iload_n 2, 1) := by decide +kernel
theorem dX5_playOf_44 : decode cX5_playOf 44 = .ok (.iadd, 1) := by decide +kernel
theorem dX5_playOf_45 : decode cX5_playOf 45 = .ok (.invokestatic 164, 3) := by decide +kernel
theorem dX5_playOf_48 : decode cX5_playOf 48 = .ok (.ireturn, 1) := by decide +kernel
theorem dX5_truest_0 : decode cX5_truest 0 = .ok (.aload_n 0, 1) := by decide +kernel
theorem dX5_truest_1 : decode cX5_truest 1 = .ok (.iload_n 1, 1) := by decide +kernel
theorem dX5_truest_2 : decode cX5_truest 2 = .ok (.invokevirtual 198, 3) := by decide +kernel
theorem dX5_truest_5 : decode cX5_truest 5 = .ok (.aload_n 0, 1) := by decide +kernel
theorem dX5_truest_6 : decode cX5_truest 6 = .ok (.iconst 2, 1) := by decide +kernel
theorem dX5_truest_7 : decode cX5_truest 7 = .ok (.invokevirtual 178, 3) := by decide +kernel
theorem dX5_truest_10 : decode cX5_truest 10 = .ok (.iconst (-1), 1) := by decide +kernel
theorem dX5_truest_11 : decode cX5_truest 11 = .ok (.istore_n 2, 1) := by decide +kernel
theorem dX5_truest_12 : decode cX5_truest 12 = .ok (.ldc 210, 2) := by decide +kernel
theorem dX5_truest_14 : decode cX5_truest 14 = .ok (.istore_n 3, 1) := by decide +kernel
theorem dX5_truest_15 : decode cX5_truest 15 = .ok (.aload_n 0, 1) := by decide +kernel
theorem dX5_truest_16 : decode cX5_truest 16 = .ok (.getfield 60, 3) := by decide +kernel
theorem dX5_truest_19 : decode cX5_truest 19 = .ok (.iload_n 1, 1) := by decide +kernel
theorem dX5_truest_20 : decode cX5_truest 20 = .ok (.iconst 1, 1) := by decide +kernel
theorem dX5_truest_21 : decode cX5_truest 21 = .ok (.iadd, 1) := by decide +kernel
theorem dX5_truest_22 : decode cX5_truest 22 = .ok (.invokevirtual 207, 3) := by decide +kernel
theorem dX5_truest_25 : decode cX5_truest 25 = .ok (.istore 4, 2) := by decide +kernel
theorem dX5_truest_27 : decode cX5_truest 27 = .ok (.aload_n 0, 1) := by decide +kernel
theorem dX5_truest_28 : decode cX5_truest 28 = .ok (.getfield 60, 3) := by decide +kernel
theorem dX5_truest_31 : decode cX5_truest 31 = .ok (.iload_n 1, 1) := by decide +kernel
theorem dX5_truest_32 : decode cX5_truest 32 = .ok (.invokevirtual 207, 3) := by decide +kernel
theorem dX5_truest_35 : decode cX5_truest 35 = .ok (.istore 5, 2) := by decide +kernel
theorem dX5_truest_37 : decode cX5_truest 37 = .ok (.iload 5, 2) := by decide +kernel
theorem dX5_truest_39 : decode cX5_truest 39 = .ok (.iload 4, 2) := by decide +kernel
theorem dX5_truest_41 : decode cX5_truest 41 = .ok (.if_icmp .ge 54, 3) := by decide +kernel
theorem dX5_truest_44 : decode cX5_truest 44 = .ok (.aload_n 0, 1) := by decide +kernel
theorem dX5_truest_45 : decode cX5_truest 45 = .ok (.getfield 60, 3) := by decide +kernel
theorem dX5_truest_48 : decode cX5_truest 48 = .ok (.getfield 204, 3) := by decide +kernel
theorem dX5_truest_51 : decode cX5_truest 51 = .ok (.iload 5, 2) := by decide +kernel
theorem dX5_truest_53 : decode cX5_truest 53 = .ok (.invokestatic 164, 3) := by decide +kernel
theorem dX5_truest_56 : decode cX5_truest 56 = .ok (.istore 6, 2) := by decide +kernel
theorem dX5_truest_58 : decode cX5_truest 58 = .ok (.aload_n 0, 1) := by decide +kernel
theorem dX5_truest_59 : decode cX5_truest 59 = .ok (.getfield 53, 3) := by decide +kernel
theorem dX5_truest_62 : decode cX5_truest 62 = .ok (.iload 6, 2) := by decide +kernel
theorem dX5_truest_64 : decode cX5_truest 64 = .ok (.invokevirtual 188, 3) := by decide +kernel
theorem dX5_truest_67 : decode cX5_truest 67 = .ok (.bipush 100, 2) := by decide +kernel
theorem dX5_truest_69 : decode cX5_truest 69 = .ok (.iload_n 1, 1) := by decide +kernel
theorem dX5_truest_70 : decode cX5_truest 70 = .ok (.imul, 1) := by decide +kernel
theorem dX5_truest_71 : decode cX5_truest 71 = .ok (.isub, 1) := by decide +kernel
theorem dX5_truest_72 : decode cX5_truest 72 = .ok (.invokestatic 211, 3) := by decide +kernel
theorem dX5_truest_75 : decode cX5_truest 75 = .ok (.istore 7, 2) := by decide +kernel
theorem dX5_truest_77 : decode cX5_truest 77 = .ok (.iload 7, 2) := by decide +kernel
theorem dX5_truest_79 : decode cX5_truest 79 = .ok (.iload_n 3, 1) := by decide +kernel
theorem dX5_truest_80 : decode cX5_truest 80 = .ok (.if_icmp .ge 9, 3) := by decide +kernel
theorem dX5_truest_83 : decode cX5_truest 83 = .ok (.iload 7, 2) := by decide +kernel
theorem dX5_truest_85 : decode cX5_truest 85 = .ok (.istore_n 3, 1) := by decide +kernel
theorem dX5_truest_86 : decode cX5_truest 86 = .ok (.iload 6, 2) := by decide +kernel
theorem dX5_truest_88 : decode cX5_truest 88 = .ok (.istore_n 2, 1) := by decide +kernel
theorem dX5_truest_89 : decode cX5_truest 89 = .ok (.iinc 5 1, 3) := by decide +kernel
theorem dX5_truest_92 : decode cX5_truest 92 = .ok (.goto (-55), 3) := by decide +kernel
theorem dX5_truest_95 : decode cX5_truest 95 = .ok (.iload_n 2, 1) := by decide +kernel
theorem dX5_truest_96 : decode cX5_truest 96 = .ok (.ireturn, 1) := by decide +kernel
theorem dX5_lacking_0 : decode cX5_lacking 0 = .ok (.aload_n 0, 1) := by decide +kernel
theorem dX5_lacking_1 : decode cX5_lacking 1 = .ok (.iconst 2, 1) := by decide +kernel
theorem dX5_lacking_2 : decode cX5_lacking 2 = .ok (.invokevirtual 178, 3) := by decide +kernel
theorem dX5_lacking_5 : decode cX5_lacking 5 = .ok (.iconst 0, 1) := by decide +kernel
theorem dX5_lacking_6 : decode cX5_lacking 6 = .ok (.istore_n 1, 1) := by decide +kernel
theorem dX5_lacking_7 : decode cX5_lacking 7 = .ok (.iconst 0, 1) := by decide +kernel
theorem dX5_lacking_8 : decode cX5_lacking 8 = .ok (.istore_n 2, 1) := by decide +kernel
theorem dX5_lacking_9 : decode cX5_lacking 9 = .ok (.iload_n 2, 1) := by decide +kernel
theorem dX5_lacking_10 : decode cX5_lacking 10 = .ok (.bipush 25, 2) := by decide +kernel
theorem dX5_lacking_12 : decode cX5_lacking 12 = .ok (.if_icmp .ge 26, 3) := by decide +kernel
theorem dX5_lacking_15 : decode cX5_lacking 15 = .ok (.aload_n 0, 1) := by decide +kernel
theorem dX5_lacking_16 : decode cX5_lacking 16 = .ok (.getfield 60, 3) := by decide +kernel
theorem dX5_lacking_19 : decode cX5_lacking 19 = .ok (.iload_n 2, 1) := by decide +kernel
theorem dX5_lacking_20 : decode cX5_lacking 20 = .ok (.invokevirtual 201, 3) := by decide +kernel
theorem dX5_lacking_23 : decode cX5_lacking 23 = .ok (.ifCond .ne 9, 3) := by decide +kernel
theorem dX5_lacking_26 : decode cX5_lacking 26 = .ok (.iload_n 1, 1) := by decide +kernel
theorem dX5_lacking_27 : decode cX5_lacking 27 = .ok (.iconst 1, 1) := by decide +kernel
theorem dX5_lacking_28 : decode cX5_lacking 28 = .ok (.iload_n 2, 1) := by decide +kernel
theorem dX5_lacking_29 : decode cX5_lacking 29 = .ok (.ishl, 1) := by decide +kernel
theorem dX5_lacking_30 : decode cX5_lacking 30 = .ok (.iadd, 1) := by decide +kernel
theorem dX5_lacking_31 : decode cX5_lacking 31 = .ok (.istore_n 1, 1) := by decide +kernel
theorem dX5_lacking_32 : decode cX5_lacking 32 = .ok (.iinc 2 1, 3) := by decide +kernel
theorem dX5_lacking_35 : decode cX5_lacking 35 = .ok (.goto (-26), 3) := by decide +kernel
theorem dX5_lacking_38 : decode cX5_lacking 38 = .ok (.iload_n 1, 1) := by decide +kernel
theorem dX5_lacking_39 : decode cX5_lacking 39 = .ok (.ireturn, 1) := by decide +kernel
theorem dX5_fingering_0 : decode cX5_fingering 0 = .ok (.aload_n 0, 1) := by decide +kernel
theorem dX5_fingering_1 : decode cX5_fingering 1 = .ok (.iload_n 1, 1) := by decide +kernel
theorem dX5_fingering_2 : decode cX5_fingering 2 = .ok (.invokevirtual 198, 3) := by decide +kernel
theorem dX5_fingering_5 : decode cX5_fingering 5 = .ok (.aload_n 0, 1) := by decide +kernel
theorem dX5_fingering_6 : decode cX5_fingering 6 = .ok (.iconst 2, 1) := by decide +kernel
theorem dX5_fingering_7 : decode cX5_fingering 7 = .ok (.invokevirtual 178, 3) := by decide +kernel
theorem dX5_fingering_10 : decode cX5_fingering 10 = .ok (.aload_n 0, 1) := by decide +kernel
theorem dX5_fingering_11 : decode cX5_fingering 11 = .ok (.getfield 60, 3) := by decide +kernel
theorem dX5_fingering_14 : decode cX5_fingering 14 = .ok (.getfield 216, 3) := by decide +kernel
theorem dX5_fingering_17 : decode cX5_fingering 17 = .ok (.iload_n 1, 1) := by decide +kernel
theorem dX5_fingering_18 : decode cX5_fingering 18 = .ok (.invokestatic 164, 3) := by decide +kernel
theorem dX5_fingering_21 : decode cX5_fingering 21 = .ok (.istore_n 2, 1) := by decide +kernel
theorem dX5_fingering_22 : decode cX5_fingering 22 = .ok (.iload_n 2, 1) := by decide +kernel
theorem dX5_fingering_23 : decode cX5_fingering 23 = .ok (.ifCond .ne 7, 3) := by decide +kernel
theorem dX5_fingering_26 : decode cX5_fingering 26 = .ok (.fconst 0, 1) := by decide +kernel
theorem dX5_fingering_27 : decode cX5_fingering 27 = .ok (.goto 15, 3) := by decide +kernel
theorem dX5_fingering_30 : decode cX5_fingering 30 = .ok (.aload_n 0, 1) := by decide +kernel
theorem dX5_fingering_31 : decode cX5_fingering 31 = .ok (.getfield 60, 3) := by decide +kernel
theorem dX5_fingering_34 : decode cX5_fingering 34 = .ok (.iload_n 1, 1) := by decide +kernel
theorem dX5_fingering_35 : decode cX5_fingering 35 = .ok (.invokevirtual 201, 3) := by decide +kernel
theorem dX5_fingering_38 : decode cX5_fingering 38 = .ok (.i2f, 1) := by decide +kernel
theorem dX5_fingering_39 : decode cX5_fingering 39 = .ok (.iload_n 2, 1) := by decide +kernel
theorem dX5_fingering_40 : decode cX5_fingering 40 = .ok (.i2f, 1) := by decide +kernel
theorem dX5_fingering_41 : decode cX5_fingering 41 = .ok (.fdiv, 1) := by decide +kernel
theorem dX5_fingering_42 : decode cX5_fingering 42 = .ok (.freturn, 1) := by decide +kernel
theorem dX5_change_0 : decode cX5_change 0 = .ok (.aload_n 0, 1) := by decide +kernel
theorem dX5_change_1 : decode cX5_change 1 = .ok (.iload_n 1, 1) := by decide +kernel
theorem dX5_change_2 : decode cX5_change 2 = .ok (.invokevirtual 175, 3) := by decide +kernel
theorem dX5_change_5 : decode cX5_change 5 = .ok (.aload_n 0, 1) := by decide +kernel
theorem dX5_change_6 : decode cX5_change 6 = .ok (.iload_n 2, 1) := by decide +kernel
theorem dX5_change_7 : decode cX5_change 7 = .ok (.invokevirtual 175, 3) := by decide +kernel
theorem dX5_change_10 : decode cX5_change 10 = .ok (.aload_n 0, 1) := by decide +kernel
theorem dX5_change_11 : decode cX5_change 11 = .ok (.iconst 1, 1) := by decide +kernel
theorem dX5_change_12 : decode cX5_change 12 = .ok (.invokevirtual 178, 3) := by decide +kernel
theorem dX5_change_15 : decode cX5_change 15 = .ok (.aload_n 0, 1) := by decide +kernel
theorem dX5_change_16 : decode cX5_change 16 = .ok (.iload_n 1, 1) := by decide +kernel
theorem dX5_change_17 : decode cX5_change 17 = .ok (.iload_n 2, 1) := by decide +kernel
theorem dX5_change_18 : decode cX5_change 18 = .ok (.invokevirtual 219, 3) := by decide +kernel
theorem dX5_change_21 : decode cX5_change 21 = .ok (.ireturn, 1) := by decide +kernel
theorem dX5_fingers_0 : decode cX5_fingers 0 = .ok (.aload_n 0, 1) := by decide +kernel
theorem dX5_fingers_1 : decode cX5_fingers 1 = .ok (.iload_n 1, 1) := by decide +kernel
theorem dX5_fingers_2 : decode cX5_fingers 2 = .ok (.invokevirtual 175, 3) := by decide +kernel
theorem dX5_fingers_5 : decode cX5_fingers 5 = .ok (.aload_n 0, 1) := by decide +kernel
theorem dX5_fingers_6 : decode cX5_fingers 6 = .ok (.iload_n 2, 1) := by decide +kernel
theorem dX5_fingers_7 : decode cX5_fingers 7 = .ok (.invokevirtual 175, 3) := by decide +kernel
theorem dX5_fingers_10 : decode cX5_fingers 10 = .ok (.aload_n 0, 1) := by decide +kernel
theorem dX5_fingers_11 : decode cX5_fingers 11 = .ok (.iconst 1, 1) := by decide +kernel
theorem dX5_fingers_12 : decode cX5_fingers 12 = .ok (.invokevirtual 178, 3) := by decide +kernel
theorem dX5_fingers_15 : decode cX5_fingers 15 = .ok (.aload_n 0, 1) := by decide +kernel
theorem dX5_fingers_16 : decode cX5_fingers 16 = .ok (.getfield 53, 3) := by decide +kernel
theorem dX5_fingers_19 : decode cX5_fingers 19 = .ok (.iload_n 1, 1) := by decide +kernel
theorem dX5_fingers_20 : decode cX5_fingers 20 = .ok (.invokevirtual 222, 3) := by decide +kernel
theorem dX5_fingers_23 : decode cX5_fingers 23 = .ok (.aload_n 0, 1) := by decide +kernel
theorem dX5_fingers_24 : decode cX5_fingers 24 = .ok (.getfield 53, 3) := by decide +kernel
theorem dX5_fingers_27 : decode cX5_fingers 27 = .ok (.iload_n 2, 1) := by decide +kernel
theorem dX5_fingers_28 : decode cX5_fingers 28 = .ok (.invokevirtual 222, 3) := by decide +kernel
theorem dX5_fingers_31 : decode cX5_fingers 31 = .ok (.invokestatic 225, 3) := by decide +kernel
theorem dX5_fingers_34 : decode cX5_fingers 34 = .ok (.invokestatic 228, 3) := by decide +kernel
theorem dX5_fingers_37 : decode cX5_fingers 37 = .ok (.ireturn, 1) := by decide +kernel
theorem dX5_nearest_0 : decode cX5_nearest 0 = .ok (.aload_n 0, 1) := by decide +kernel
theorem dX5_nearest_1 : decode cX5_nearest 1 = .ok (.iload_n 1, 1) := by decide +kernel
theorem dX5_nearest_2 : decode cX5_nearest 2 = .ok (.invokevirtual 198, 3) := by decide +kernel
theorem dX5_nearest_5 : decode cX5_nearest 5 = .ok (.aload_n 0, 1) := by decide +kernel
theorem dX5_nearest_6 : decode cX5_nearest 6 = .ok (.iconst 2, 1) := by decide +kernel
theorem dX5_nearest_7 : decode cX5_nearest 7 = .ok (.invokevirtual 178, 3) := by decide +kernel
theorem dX5_nearest_10 : decode cX5_nearest 10 = .ok (.aload_n 0, 1) := by decide +kernel
theorem dX5_nearest_11 : decode cX5_nearest 11 = .ok (.getfield 53, 3) := by decide +kernel
theorem dX5_nearest_14 : decode cX5_nearest 14 = .ok (.aload_n 0, 1) := by decide +kernel
theorem dX5_nearest_15 : decode cX5_nearest 15 = .ok (.getfield 10, 3) := by decide +kernel
theorem dX5_nearest_18 : decode cX5_nearest 18 = .ok (.getfield 148, 3) := by decide +kernel
theorem dX5_nearest_21 : decode cX5_nearest 21 = .ok (.invokevirtual 222, 3) := by decide +kernel
theorem dX5_nearest_24 : decode cX5_nearest 24 = .ok (.istore_n 2, 1) := by decide +kernel
theorem dX5_nearest_25 : decode cX5_nearest 25 = .ok (.iconst (-1), 1) := by decide +kernel
theorem dX5_nearest_26 : decode cX5_nearest 26 = .ok (.istore_n 3, 1) := by decide +kernel
theorem dX5_nearest_27 : decode cX5_nearest 27 = .ok (.ldc 210, 2) := by decide +kernel
theorem dX5_nearest_29 : decode cX5_nearest 29 = .ok (.istore 4, 2) := by decide +kernel
theorem dX5_nearest_31 : decode cX5_nearest 31 = .ok (.aload_n 0, 1) := by decide +kernel
theorem dX5_nearest_32 : decode cX5_nearest 32 = .ok (.getfield 60, 3) := by decide +kernel
theorem dX5_nearest_35 : decode cX5_nearest 35 = .ok (.iload_n 1, 1) := by decide +kernel
theorem dX5_nearest_36 : decode cX5_nearest 36 = .ok (.iconst 1, 1) := by decide +kernel
theorem dX5_nearest_37 : decode cX5_nearest 37 = .ok (.iadd, 1) := by decide +kernel
theorem dX5_nearest_38 : decode cX5_nearest 38 = .ok (.invokevirtual 207, 3) := by decide +kernel
theorem dX5_nearest_41 : decode cX5_nearest 41 = .ok (.istore 5, 2) := by decide +kernel
theorem dX5_nearest_43 : decode cX5_nearest 43 = .ok (.aload_n 0, 1) := by decide +kernel
theorem dX5_nearest_44 : decode cX5_nearest 44 = .ok (.getfield 60, 3) := by decide +kernel
theorem dX5_nearest_47 : decode cX5_nearest 47 = .ok (.iload_n 1, 1) := by decide +kernel
theorem dX5_nearest_48 : decode cX5_nearest 48 = .ok (.invokevirtual 207, 3) := by decide +kernel
theorem dX5_nearest_51 : decode cX5_nearest 51 = .ok (.istore 6, 2) := by decide +kernel
theorem dX5_nearest_53 : decode cX5_nearest 53 = .ok (.iload 6, 2) := by decide +kernel
theorem dX5_nearest_55 : decode cX5_nearest 55 = .ok (.iload 5, 2) := by decide +kernel
theorem dX5_nearest_57 : decode cX5_nearest 57 = .ok (.if_icmp .ge 55, 3) := by decide +kernel
theorem dX5_nearest_60 : decode cX5_nearest 60 = .ok (.aload_n 0, 1) := by decide +kernel
theorem dX5_nearest_61 : decode cX5_nearest 61 = .ok (.getfield 10, 3) := by decide +kernel
theorem dX5_nearest_64 : decode cX5_nearest 64 = .ok (.iload_n 2, 1) := by decide +kernel
theorem dX5_nearest_65 : decode cX5_nearest 65 = .ok (.aload_n 0, 1) := by decide +kernel
theorem dX5_nearest_66 : decode cX5_nearest 66 = .ok (.getfield 60, 3) := by decide +kernel
theorem dX5_nearest_69 : decode cX5_nearest 69 = .ok (.getfield 233, 3) := by decide +kernel
theorem dX5_nearest_72 : decode cX5_nearest 72 = .ok (.iload 6, 2) := by decide +kernel
theorem dX5_nearest_74 : decode cX5_nearest 74 = .ok (.invokestatic 164, 3) := by decide +kernel
theorem dX5_nearest_77 : decode cX5_nearest 77 = .ok (.invokevirtual 236, 3) := by decide +kernel
theorem dX5_nearest_80 : decode cX5_nearest 80 = .ok (.istore 7, 2) := by decide +kernel
theorem dX5_nearest_82 : decode cX5_nearest 82 = .ok (.iload 7, 2) := by decide +kernel
theorem dX5_nearest_84 : decode cX5_nearest 84 = .ok (.iload 4, 2) := by decide +kernel
theorem dX5_nearest_86 : decode cX5_nearest 86 = .ok (.if_icmp .ge 20, 3) := by decide +kernel
theorem dX5_nearest_89 : decode cX5_nearest 89 = .ok (.iload 7, 2) := by decide +kernel
theorem dX5_nearest_91 : decode cX5_nearest 91 = .ok (.istore 4, 2) := by decide +kernel
theorem dX5_nearest_93 : decode cX5_nearest 93 = .ok (.aload_n 0, 1) := by decide +kernel
theorem dX5_nearest_94 : decode cX5_nearest 94 = .ok (.getfield 60, 3) := by decide +kernel
theorem dX5_nearest_97 : decode cX5_nearest 97 = .ok (.getfield 204, 3) := by decide +kernel
theorem dX5_nearest_100 : decode cX5_nearest 100 = .ok (.iload 6, 2) := by decide +kernel
theorem dX5_nearest_102 : decode cX5_nearest 102 = .ok (.invokestatic 164, 3) := by decide +kernel
theorem dX5_nearest_105 : decode cX5_nearest 105 = .ok (.istore_n 3, 1) := by decide +kernel
theorem dX5_nearest_106 : decode cX5_nearest 106 = .ok (.iinc 6 1, 3) := by decide +kernel
theorem dX5_nearest_109 : decode cX5_nearest 109 = .ok (.goto (-56), 3) := by decide +kernel
theorem dX5_nearest_112 : decode cX5_nearest 112 = .ok (.iload_n 3, 1) := by decide +kernel
theorem dX5_nearest_113 : decode cX5_nearest 113 = .ok (.ireturn, 1) := by decide +kernel
theorem dX5_note_0 : decode cX5_note 0 = .ok (.aload_n 0, 1) := by decide +kernel
theorem dX5_note_1 : decode cX5_note 1 = .ok (.iload_n 1, 1) := by decide +kernel
theorem dX5_note_2 : decode cX5_note 2 = .ok (.invokevirtual 239, 3) := by decide +kernel
theorem dX5_note_5 : decode cX5_note 5 = .ok (.aload_n 0, 1) := by decide +kernel
theorem dX5_note_6 : decode cX5_note 6 = .ok (.getfield 10, 3) := by decide +kernel
theorem dX5_note_9 : decode cX5_note 9 = .ok (.getfield 242, 3) := by decide +kernel
theorem dX5_note_12 : decode cX5_note 12 = .ok (.iload_n 1, 1) := by decide +kernel
theorem dX5_note_13 : decode cX5_note 13 = .ok (.invokestatic 164, 3) := by decide +kernel
theorem dX5_note_16 : decode cX5_note 16 = .ok (.ireturn, 1) := by decide +kernel
theorem dX5_isPlayable_0 : decode cX5_isPlayable 0 = .ok (.aload_n 0, 1) := by decide +kernel
theorem dX5_isPlayable_1 : decode cX5_isPlayable 1 = .ok (.iconst 2, 1) := by decide +kernel
theorem dX5_isPlayable_2 : decode cX5_isPlayable 2 = .ok (.invokevirtual 178, 3) := by decide +kernel
theorem dX5_isPlayable_5 : decode cX5_isPlayable 5 = .ok (.aload_n 0, 1) := by decide +kernel
theorem dX5_isPlayable_6 : decode cX5_isPlayable 6 = .ok (.getfield 60, 3) := by decide +kernel
theorem dX5_isPlayable_9 : decode cX5_isPlayable 9 = .ok (.aload_n 0, 1) := by decide +kernel
theorem dX5_isPlayable_10 : decode cX5_isPlayable 10 = .ok (.getfield 10, 3) := by decide +kernel
theorem dX5_isPlayable_13 : decode cX5_isPlayable 13 = .ok (.iconst 0, 1) := by decide +kernel
theorem dX5_isPlayable_14 : decode cX5_isPlayable 14 = .ok (.iconst 0, 1) := by decide +kernel
theorem dX5_isPlayable_15 : decode cX5_isPlayable 15 = .ok (.invokevirtual 245, 3) := by decide +kernel
theorem dX5_isPlayable_18 : decode cX5_isPlayable 18 = .ok (.iconst (-1), 1) := by decide +kernel
theorem dX5_isPlayable_19 : decode cX5_isPlayable 19 = .ok (.if_icmp .ne 7, 3) := by decide +kernel
theorem dX5_isPlayable_22 : decode cX5_isPlayable 22 = .ok (.iconst 1, 1) := by decide +kernel
theorem dX5_isPlayable_23 : decode cX5_isPlayable 23 = .ok (.goto 4, 3) := by decide +kernel
theorem dX5_isPlayable_26 : decode cX5_isPlayable 26 = .ok (.iconst 0, 1) := by decide +kernel
theorem dX5_isPlayable_27 : decode cX5_isPlayable 27 = .ok (.ireturn, 1) := by decide +kernel
theorem dX5_firstLacking_0 : decode cX5_firstLacking 0 = .ok (.aload_n 0, 1) := by decide +kernel
theorem dX5_firstLacking_1 : decode cX5_firstLacking 1 = .ok (.iconst 2, 1) := by decide +kernel
theorem dX5_firstLacking_2 : decode cX5_firstLacking 2 = .ok (.invokevirtual 178, 3) := by decide +kernel
theorem dX5_firstLacking_5 : decode cX5_firstLacking 5 = .ok (.aload_n 0, 1) := by decide +kernel
theorem dX5_firstLacking_6 : decode cX5_firstLacking 6 = .ok (.getfield 60, 3) := by decide +kernel
theorem dX5_firstLacking_9 : decode cX5_firstLacking 9 = .ok (.aload_n 0, 1) := by decide +kernel
theorem dX5_firstLacking_10 : decode cX5_firstLacking 10 = .ok (.getfield 10, 3) := by decide +kernel
theorem dX5_firstLacking_13 : decode cX5_firstLacking 13 = .ok (.iconst 0, 1) := by decide +kernel
theorem dX5_firstLacking_14 : decode cX5_firstLacking 14 = .ok (.iconst 0, 1) := by decide +kernel
theorem dX5_firstLacking_15 : decode cX5_firstLacking 15 = .ok (.invokevirtual 245, 3) := by decide +kernel
theorem dX5_firstLacking_18 : decode cX5_firstLacking 18 = .ok (.ireturn, 1) := by decide +kernel
theorem dX5_cost_0 : decode cX5_cost 0 = .ok (.aload_n 0, 1) := by decide +kernel
theorem dX5_cost_1 : decode cX5_cost 1 = .ok (.iconst 3, 1) := by decide +kernel
theorem dX5_cost_2 : decode cX5_cost 2 = .ok (.invokevirtual 178, 3) := by decide +kernel
theorem dX5_cost_5 : decode cX5_cost 5 = .ok (.aload_n 0, 1) := by decide +kernel
theorem dX5_cost_6 : decode cX5_cost 6 = .ok (.getfield 70, 3) := by decide +kernel
theorem dX5_cost_9 : decode cX5_cost 9 = .ok (.getfield 249, 3) := by decide +kernel
theorem dX5_cost_12 : decode cX5_cost 12 = .ok (.ireturn, 1) := by decide +kernel
theorem dX5_wayPlay_0 : decode cX5_wayPlay 0 = .ok (.aload_n 0, 1) := by decide +kernel
theorem dX5_wayPlay_1 : decode cX5_wayPlay 1 = .ok (.iload_n 1, 1) := by decide +kernel
theorem dX5_wayPlay_2 : decode cX5_wayPlay 2 = .ok (.invokevirtual 239, 3) := by decide +kernel
theorem dX5_wayPlay_5 : decode cX5_wayPlay 5 = .ok (.aload_n 0, 1) := by decide +kernel
theorem dX5_wayPlay_6 : decode cX5_wayPlay 6 = .ok (.iconst 3, 1) := by decide +kernel
theorem dX5_wayPlay_7 : decode cX5_wayPlay 7 = .ok (.invokevirtual 178, 3) := by decide +kernel
theorem dX5_wayPlay_10 : decode cX5_wayPlay 10 = .ok (.aload_n 0, 1) := by decide +kernel
theorem dX5_wayPlay_11 : decode cX5_wayPlay 11 = .ok (.getfield 70, 3) := by decide +kernel
theorem dX5_wayPlay_14 : decode cX5_wayPlay 14 = .ok (.getfield 249, 3) := by decide +kernel
theorem dX5_wayPlay_17 : decode cX5_wayPlay 17 = .ok (.iconst (-1), 1) := by decide +kernel
theorem dX5_wayPlay_18 : decode cX5_wayPlay 18 = .ok (.if_icmp .ne 7, 3) := by decide +kernel
theorem dX5_wayPlay_21 : decode cX5_wayPlay 21 = .ok (.iconst (-1), 1) := by decide +kernel
theorem dX5_wayPlay_22 : decode cX5_wayPlay 22 = .ok (.goto 14, 3) := by decide +kernel
theorem dX5_wayPlay_25 : decode cX5_wayPlay 25 = .ok (.aload_n 0, 1) := by decide +kernel
theorem dX5_wayPlay_26 : decode cX5_wayPlay 26 = .ok (.getfield 70, 3) := by decide +kernel
theorem dX5_wayPlay_29 : decode cX5_wayPlay 29 = .ok (.getfield 252, 3) := by decide +kernel
theorem dX5_wayPlay_32 : decode cX5_wayPlay 32 = .ok (.iload_n 1, 1) := by decide +kernel
theorem dX5_wayPlay_33 : decode cX5_wayPlay 33 = .ok (.invokestatic 164, 3) := by decide +kernel
theorem dX5_wayPlay_36 : decode cX5_wayPlay 36 = .ok (.ireturn, 1) := by decide +kernel
theorem dX5_wayChange_0 : decode cX5_wayChange 0 = .ok (.aload_n 0, 1) := by decide +kernel
theorem dX5_wayChange_1 : decode cX5_wayChange 1 = .ok (.iload_n 1, 1) := by decide +kernel
theorem dX5_wayChange_2 : decode cX5_wayChange 2 = .ok (.invokevirtual 239, 3) := by decide +kernel
theorem dX5_wayChange_5 : decode cX5_wayChange 5 = .ok (.aload_n 0, 1) := by decide +kernel
theorem dX5_wayChange_6 : decode cX5_wayChange 6 = .ok (.iconst 3, 1) := by decide +kernel
theorem dX5_wayChange_7 : decode cX5_wayChange 7 = .ok (.invokevirtual 178, 3) := by decide +kernel
theorem dX5_wayChange_10 : decode cX5_wayChange 10 = .ok (.aload_n 0, 1) := by decide +kernel
theorem dX5_wayChange_11 : decode cX5_wayChange 11 = .ok (.getfield 70, 3) := by decide +kernel
theorem dX5_wayChange_14 : decode cX5_wayChange 14 = .ok (.getfield 249, 3) := by decide +kernel
theorem dX5_wayChange_17 : decode cX5_wayChange 17 = .ok (.iconst (-1), 1) := by decide +kernel
theorem dX5_wayChange_18 : decode cX5_wayChange 18 = .ok (.if_icmp .ne 7, 3) := by decide +kernel
theorem dX5_wayChange_21 : decode cX5_wayChange 21 = .ok (.iconst (-1), 1) := by decide +kernel
theorem dX5_wayChange_22 : decode cX5_wayChange 22 = .ok (.goto 15, 3) := by decide +kernel
theorem dX5_wayChange_25 : decode cX5_wayChange 25 = .ok (.aload_n 0, 1) := by decide +kernel
theorem dX5_wayChange_26 : decode cX5_wayChange 26 = .ok (.getfield 70, 3) := by decide +kernel
theorem dX5_wayChange_29 : decode cX5_wayChange 29 = .ok (.aload_n 0, 1) := by decide +kernel
theorem dX5_wayChange_30 : decode cX5_wayChange 30 = .ok (.getfield 10, 3) := by decide +kernel
theorem dX5_wayChange_33 : decode cX5_wayChange 33 = .ok (.iload_n 1, 1) := by decide +kernel
theorem dX5_wayChange_34 : decode cX5_wayChange 34 = .ok (.invokevirtual 255, 3) := by decide +kernel
theorem dX5_wayChange_37 : decode cX5_wayChange 37 = .ok (.ireturn, 1) := by decide +kernel
theorem dX5_hardest_0 : decode cX5_hardest 0 = .ok (.aload_n 0, 1) := by decide +kernel
theorem dX5_hardest_1 : decode cX5_hardest 1 = .ok (.iconst 3, 1) := by decide +kernel
theorem dX5_hardest_2 : decode cX5_hardest 2 = .ok (.invokevirtual 178, 3) := by decide +kernel
theorem dX5_hardest_5 : decode cX5_hardest 5 = .ok (.aload_n 0, 1) := by decide +kernel
theorem dX5_hardest_6 : decode cX5_hardest 6 = .ok (.getfield 70, 3) := by decide +kernel
theorem dX5_hardest_9 : decode cX5_hardest 9 = .ok (.getfield 249, 3) := by decide +kernel
theorem dX5_hardest_12 : decode cX5_hardest 12 = .ok (.iconst (-1), 1) := by decide +kernel
theorem dX5_hardest_13 : decode cX5_hardest 13 = .ok (.if_icmp .ne 5, 3) := by decide +kernel
theorem dX5_hardest_16 : decode cX5_hardest 16 = .ok (.iconst (-1), 1) := by decide +kernel
theorem dX5_hardest_17 : decode cX5_hardest 17 = .ok (.ireturn, 1) := by decide +kernel
theorem dX5_hardest_18 : decode cX5_hardest 18 = .ok (.iconst (-1), 1) := by decide +kernel
theorem dX5_hardest_19 : decode cX5_hardest 19 = .ok (.istore_n 1, 1) := by decide +kernel
theorem dX5_hardest_20 : decode cX5_hardest 20 = .ok (.iconst (-1), 1) := by decide +kernel
theorem dX5_hardest_21 : decode cX5_hardest 21 = .ok (.istore_n 2, 1) := by decide +kernel
theorem dX5_hardest_22 : decode cX5_hardest 22 = .ok (.iconst 0, 1) := by decide +kernel
theorem dX5_hardest_23 : decode cX5_hardest 23 = .ok (.istore_n 3, 1) := by decide +kernel
theorem dX5_hardest_24 : decode cX5_hardest 24 = .ok (.iload_n 3, 1) := by decide +kernel
theorem dX5_hardest_25 : decode cX5_hardest 25 = .ok (.aload_n 0, 1) := by decide +kernel
theorem dX5_hardest_26 : decode cX5_hardest 26 = .ok (.getfield 10, 3) := by decide +kernel
theorem dX5_hardest_29 : decode cX5_hardest 29 = .ok (.getfield 101, 3) := by decide +kernel
theorem dX5_hardest_32 : decode cX5_hardest 32 = .ok (.if_icmp .ge 34, 3) := by decide +kernel
theorem dX5_hardest_35 : decode cX5_hardest 35 = .ok (.aload_n 0, 1) := by decide +kernel
theorem dX5_hardest_36 : decode cX5_hardest 36 = .ok (.getfield 70, 3) := by decide +kernel
theorem dX5_hardest_39 : decode cX5_hardest 39 = .ok (.aload_n 0, 1) := by decide +kernel
theorem dX5_hardest_40 : decode cX5_hardest 40 = .ok (.getfield 10, 3) := by decide +kernel
theorem dX5_hardest_43 : decode cX5_hardest 43 = .ok (.iload_n 3, 1) := by decide +kernel
theorem dX5_hardest_44 : decode cX5_hardest 44 = .ok (.invokevirtual 255, 3) := by decide +kernel
theorem dX5_hardest_47 : decode cX5_hardest 47 = .ok (.istore 4, 2) := by decide +kernel
theorem dX5_hardest_49 : decode cX5_hardest 49 = .ok (.iload 4, 2) := by decide +kernel
theorem dX5_hardest_51 : decode cX5_hardest 51 = .ok (.iload_n 2, 1) := by decide +kernel
theorem dX5_hardest_52 : decode cX5_hardest 52 = .ok (.if_icmp .le 8, 3) := by decide +kernel
theorem dX5_hardest_55 : decode cX5_hardest 55 = .ok (.iload 4, 2) := by decide +kernel
theorem dX5_hardest_57 : decode cX5_hardest 57 = .ok (.istore_n 2, 1) := by decide +kernel
theorem dX5_hardest_58 : decode cX5_hardest 58 = .ok (.iload_n 3, 1) := by decide +kernel
theorem dX5_hardest_59 : decode cX5_hardest 59 = .ok (.istore_n 1, 1) := by decide +kernel
theorem dX5_hardest_60 : decode cX5_hardest 60 = .ok (.iinc 3 1, 3) := by decide +kernel
theorem dX5_hardest_63 : decode cX5_hardest 63 = .ok (.goto (-39), 3) := by decide +kernel
theorem dX5_hardest_66 : decode cX5_hardest 66 = .ok (.iload_n 1, 1) := by decide +kernel
theorem dX5_hardest_67 : decode cX5_hardest 67 = .ok (.ireturn, 1) := by decide +kernel
theorem dX5_moved_0 : decode cX5_moved 0 = .ok (.aload_n 0, 1) := by decide +kernel
theorem dX5_moved_1 : decode cX5_moved 1 = .ok (.iload_n 1, 1) := by decide +kernel
theorem dX5_moved_2 : decode cX5_moved 2 = .ok (.invokevirtual 157, 3) := by decide +kernel
theorem dX5_moved_5 : decode cX5_moved 5 = .ok (.aload_n 0, 1) := by decide +kernel
theorem dX5_moved_6 : decode cX5_moved 6 = .ok (.iconst 3, 1) := by decide +kernel
theorem dX5_moved_7 : decode cX5_moved 7 = .ok (.invokevirtual 178, 3) := by decide +kernel
theorem dX5_moved_10 : decode cX5_moved 10 = .ok (.aload_n 0, 1) := by decide +kernel
theorem dX5_moved_11 : decode cX5_moved 11 = .ok (.getfield 70, 3) := by decide +kernel
theorem dX5_moved_14 : decode cX5_moved 14 = .ok (.getfield 249, 3) := by decide +kernel
theorem dX5_moved_17 : decode cX5_moved 17 = .ok (.iconst (-1), 1) := by decide +kernel
theorem dX5_moved_18 : decode cX5_moved 18 = .ok (.if_icmp .ne 5, 3) := by decide +kernel
theorem dX5_moved_21 : decode cX5_moved 21 = .ok (.iconst (-1), 1) := by decide +kernel
theorem dX5_moved_22 : decode cX5_moved 22 = .ok (.ireturn, 1) := by decide +kernel
theorem dX5_moved_23 : decode cX5_moved 23 = .ok (.iconst 0, 1) := by decide +kernel
theorem dX5_moved_24 : decode cX5_moved 24 = .ok (.istore_n 2, 1) := by decide +kernel
theorem dX5_moved_25 : decode cX5_moved 25 = .ok (.iconst 1, 1) := by decide +kernel
theorem dX5_moved_26 : decode cX5_moved 26 = .ok (.istore_n 3, 1) := by decide +kernel
theorem dX5_moved_27 : decode cX5_moved 27 = .ok (.iload_n 3, 1) := by decide +kernel
theorem dX5_moved_28 : decode cX5_moved 28 = .ok (.aload_n 0, 1) := by decide +kernel
theorem dX5_moved_29 : decode cX5_moved 29 = .ok (.getfield 10, 3) := by decide +kernel
theorem dX5_moved_32 : decode cX5_moved 32 = .ok (.getfield 101, 3) := by decide +kernel
theorem dX5_moved_35 : decode cX5_moved 35 = .ok (.if_icmp .ge 58, 3) := by decide +kernel
theorem dX5_moved_38 : decode cX5_moved 38 = .ok (.aload_n 0, 1) := by decide +kernel
theorem dX5_moved_39 : decode cX5_moved 39 = .ok (.getfield 70, 3) := by decide +kernel
theorem dX5_moved_42 : decode cX5_moved 42 = .ok (.iload_n 3, 1) := by decide +kernel
theorem dX5_moved_43 : decode cX5_moved 43 = .ok (.invokevirtual 259, 3) := by decide +kernel
theorem dX5_moved_46 : decode cX5_moved 46 = .ok (.ifCond .eq 41, 3) := by decide +kernel
theorem dX5_moved_49 : decode cX5_moved 49 = .ok (.aload_n 0, 1) := by decide +kernel
theorem dX5_moved_50 : decode cX5_moved 50 = .ok (.getfield 70, 3) := by decide +kernel
theorem dX5_moved_53 : decode cX5_moved 53 = .ok (.getfield 263, 3) := by decide +kernel
theorem dX5_moved_56 : decode cX5_moved 56 = .ok (.iload_n 3, 1) := by decide +kernel
theorem dX5_moved_57 : decode cX5_moved 57 = .ok (.iconst 1, 1) := by decide +kernel
theorem dX5_moved_58 : decode cX5_moved 58 = .ok (.isub, 1) := by decide +kernel
theorem dX5_moved_59 : decode cX5_moved 59 = .ok (.invokestatic 164, 3) := by decide +kernel
theorem dX5_moved_62 : decode cX5_moved 62 = .ok (.aload_n 0, 1) := by decide +kernel
theorem dX5_moved_63 : decode cX5_moved 63 = .ok (.getfield 70, 3) := by decide +kernel
theorem dX5_moved_66 : decode cX5_moved 66 = .ok (.getfield 263, 3) := by decide +kernel
theorem dX5_moved_69 : decode cX5_moved 69 = .ok (.iload_n 3, 1) := by decide +kernel
theorem dX5_moved_70 : decode cX5_moved 70 = .ok (.invokestatic 164, 3) := by decide +kernel
theorem dX5_moved_73 : decode cX5_moved 73 = .ok (.invokestatic 225, 3) := by decide +kernel
theorem dX5_moved_76 : decode cX5_moved 76 = .ok (.istore 4, 2) := by decide +kernel
theorem dX5_moved_78 : decode cX5_moved 78 = .ok (.iload_n 2, 1) := by decide +kernel
theorem dX5_moved_79 : decode cX5_moved 79 = .ok (.iload 4, 2) := by decide +kernel
theorem dX5_moved_81 : decode cX5_moved 81 = .ok (.iload_n 1, 1) := by decide +kernel
theorem dX5_moved_82 : decode cX5_moved 82 = .ok (.ishr, 1) := by decide +kernel
theorem dX5_moved_83 : decode cX5_moved 83 = .ok (.iconst 1, 1) := by decide +kernel
theorem dX5_moved_84 : decode cX5_moved 84 = .ok (.iand, 1) := by decide +kernel
theorem dX5_moved_85 : decode cX5_moved 85 = .ok (.iadd, 1) := by decide +kernel
theorem dX5_moved_86 : decode cX5_moved 86 = .ok (.istore_n 2, 1) := by decide +kernel
theorem dX5_moved_87 : decode cX5_moved 87 = .ok (.iinc 3 1, 3) := by decide +kernel
theorem dX5_moved_90 : decode cX5_moved 90 = .ok (.goto (-63), 3) := by decide +kernel
theorem dX5_moved_93 : decode cX5_moved 93 = .ok (.iload_n 2, 1) := by decide +kernel
theorem dX5_moved_94 : decode cX5_moved 94 = .ok (.ireturn, 1) := by decide +kernel
theorem dX5_idle_0 : decode cX5_idle 0 = .ok (.aload_n 0, 1) := by decide +kernel
theorem dX5_idle_1 : decode cX5_idle 1 = .ok (.iconst 3, 1) := by decide +kernel
theorem dX5_idle_2 : decode cX5_idle 2 = .ok (.invokevirtual 178, 3) := by decide +kernel
theorem dX5_idle_5 : decode cX5_idle 5 = .ok (.aload_n 0, 1) := by decide +kernel
theorem dX5_idle_6 : decode cX5_idle 6 = .ok (.getfield 70, 3) := by decide +kernel
theorem dX5_idle_9 : decode cX5_idle 9 = .ok (.getfield 249, 3) := by decide +kernel
theorem dX5_idle_12 : decode cX5_idle 12 = .ok (.iconst (-1), 1) := by decide +kernel
theorem dX5_idle_13 : decode cX5_idle 13 = .ok (.if_icmp .ne 5, 3) := by decide +kernel
theorem dX5_idle_16 : decode cX5_idle 16 = .ok (.iconst (-1), 1) := by decide +kernel
theorem dX5_idle_17 : decode cX5_idle 17 = .ok (.ireturn, 1) := by decide +kernel
theorem dX5_idle_18 : decode cX5_idle 18 = .ok (.iconst (-1), 1) := by decide +kernel
theorem dX5_idle_19 : decode cX5_idle 19 = .ok (.istore_n 1, 1) := by decide +kernel
theorem dX5_idle_20 : decode cX5_idle 20 = .ok (.iconst 0, 1) := by decide +kernel
theorem dX5_idle_21 : decode cX5_idle 21 = .ok (.istore_n 2, 1) := by decide +kernel
theorem dX5_idle_22 : decode cX5_idle 22 = .ok (.iconst 0, 1) := by decide +kernel
theorem dX5_idle_23 : decode cX5_idle 23 = .ok (.istore_n 3, 1) := by decide +kernel
theorem dX5_idle_24 : decode cX5_idle 24 = .ok (.iload_n 3, 1) := by decide +kernel
theorem dX5_idle_25 : decode cX5_idle 25 = .ok (.aload_n 0, 1) := by decide +kernel
theorem dX5_idle_26 : decode cX5_idle 26 = .ok (.getfield 10, 3) := by decide +kernel
theorem dX5_idle_29 : decode cX5_idle 29 = .ok (.getfield 101, 3) := by decide +kernel
theorem dX5_idle_32 : decode cX5_idle 32 = .ok (.if_icmp .ge 49, 3) := by decide +kernel
theorem dX5_idle_35 : decode cX5_idle 35 = .ok (.aload_n 0, 1) := by decide +kernel
theorem dX5_idle_36 : decode cX5_idle 36 = .ok (.getfield 70, 3) := by decide +kernel
theorem dX5_idle_39 : decode cX5_idle 39 = .ok (.getfield 263, 3) := by decide +kernel
theorem dX5_idle_42 : decode cX5_idle 42 = .ok (.iload_n 3, 1) := by decide +kernel
theorem dX5_idle_43 : decode cX5_idle 43 = .ok (.invokestatic 164, 3) := by decide +kernel
theorem dX5_idle_46 : decode cX5_idle 46 = .ok (.istore 4, 2) := by decide +kernel
theorem dX5_idle_48 : decode cX5_idle 48 = .ok (.iload 4, 2) := by decide +kernel
theorem dX5_idle_50 : decode cX5_idle 50 = .ok (.iconst (-1), 1) := by decide +kernel
theorem dX5_idle_51 : decode cX5_idle 51 = .ok (.if_icmp .eq 24, 3) := by decide +kernel
theorem dX5_idle_54 : decode cX5_idle 54 = .ok (.iload_n 1, 1) := by decide +kernel
theorem dX5_idle_55 : decode cX5_idle 55 = .ok (.iconst (-1), 1) := by decide +kernel
theorem dX5_idle_56 : decode cX5_idle 56 = .ok (.if_icmp .ne 8, 3) := by decide +kernel
theorem dX5_idle_59 : decode cX5_idle 59 = .ok (.iload 4, 2) := by decide +kernel
theorem dX5_idle_61 : decode cX5_idle 61 = .ok (.goto 4, 3) := by decide +kernel
theorem dX5_idle_64 : decode cX5_idle 64 = .ok (.iload_n 1, 1) := by decide +kernel
theorem dX5_idle_65 : decode cX5_idle 65 = .ok (.istore_n 1, 1) := by decide +kernel
theorem dX5_idle_66 : decode cX5_idle 66 = .ok (.iload_n 2, 1) := by decide +kernel
theorem dX5_idle_67 : decode cX5_idle 67 = .ok (.iload_n 1, 1) := by decide +kernel
theorem dX5_idle_68 : decode cX5_idle 68 = .ok (.iload 4, 2) := by decide +kernel
theorem dX5_idle_70 : decode cX5_idle 70 = .ok (.invokestatic 225, 3) := by decide +kernel
theorem dX5_idle_73 : decode cX5_idle 73 = .ok (.ior, 1) := by decide +kernel
theorem dX5_idle_74 : decode cX5_idle 74 = .ok (.istore_n 2, 1) := by decide +kernel
theorem dX5_idle_75 : decode cX5_idle 75 = .ok (.iinc 3 1, 3) := by decide +kernel
theorem dX5_idle_78 : decode cX5_idle 78 = .ok (.goto (-54), 3) := by decide +kernel
theorem dX5_idle_81 : decode cX5_idle 81 = .ok (.iconst 1, 1) := by decide +kernel
theorem dX5_idle_82 : decode cX5_idle 82 = .ok (.aload_n 0, 1) := by decide +kernel
theorem dX5_idle_83 : decode cX5_idle 83 = .ok (.getfield 10, 3) := by decide +kernel
theorem dX5_idle_86 : decode cX5_idle 86 = .ok (.getfield 123, 3) := by decide +kernel
theorem dX5_idle_89 : decode cX5_idle 89 = .ok (.ishl, 1) := by decide +kernel
theorem dX5_idle_90 : decode cX5_idle 90 = .ok (.iconst 1, 1) := by decide +kernel
theorem dX5_idle_91 : decode cX5_idle 91 = .ok (.isub, 1) := by decide +kernel
theorem dX5_idle_92 : decode cX5_idle 92 = .ok (.iload_n 2, 1) := by decide +kernel
theorem dX5_idle_93 : decode cX5_idle 93 = .ok (.iconst (-1), 1) := by decide +kernel
theorem dX5_idle_94 : decode cX5_idle 94 = .ok (.ixor, 1) := by decide +kernel
theorem dX5_idle_95 : decode cX5_idle 95 = .ok (.iand, 1) := by decide +kernel
theorem dX5_idle_96 : decode cX5_idle 96 = .ok (.ireturn, 1) := by decide +kernel
theorem dX5_meanCost_0 : decode cX5_meanCost 0 = .ok (.aload_n 0, 1) := by decide +kernel
theorem dX5_meanCost_1 : decode cX5_meanCost 1 = .ok (.iconst 3, 1) := by decide +kernel
theorem dX5_meanCost_2 : decode cX5_meanCost 2 = .ok (.invokevirtual 178, 3) := by decide +kernel
theorem dX5_meanCost_5 : decode cX5_meanCost 5 = .ok (.aload_n 0, 1) := by decide +kernel
theorem dX5_meanCost_6 : decode cX5_meanCost 6 = .ok (.getfield 70, 3) := by decide +kernel
theorem dX5_meanCost_9 : decode cX5_meanCost 9 = .ok (.getfield 249, 3) := by decide +kernel
theorem dX5_meanCost_12 : decode cX5_meanCost 12 = .ok (.iconst (-1), 1) := by decide +kernel
theorem dX5_meanCost_13 : decode cX5_meanCost 13 = .ok (.if_icmp .ne 5, 3) := by decide +kernel
theorem dX5_meanCost_16 : decode cX5_meanCost 16 = .ok (.dconst 0, 1) := by decide +kernel
theorem dX5_meanCost_17 : decode cX5_meanCost 17 = .ok (.dreturn, 1) := by decide +kernel
theorem dX5_meanCost_18 : decode cX5_meanCost 18 = .ok (.iconst 0, 1) := by decide +kernel
theorem dX5_meanCost_19 : decode cX5_meanCost 19 = .ok (.istore_n 1, 1) := by decide +kernel
theorem dX5_meanCost_20 : decode cX5_meanCost 20 = .ok (.iconst 1, 1) := by decide +kernel
theorem dX5_meanCost_21 : decode cX5_meanCost 21 = .ok (.istore_n 2, 1) := by decide +kernel
theorem dX5_meanCost_22 : decode cX5_meanCost 22 = .ok (.iload_n 2, 1) := by decide +kernel
theorem dX5_meanCost_23 : decode cX5_meanCost 23 = .ok (.aload_n 0, 1) := by decide +kernel
theorem dX5_meanCost_24 : decode cX5_meanCost 24 = .ok (.getfield 10, 3) := by decide +kernel
theorem dX5_meanCost_27 : decode cX5_meanCost 27 = .ok (.getfield 101, 3) := by decide +kernel
theorem dX5_meanCost_30 : decode cX5_meanCost 30 = .ok (.if_icmp .ge 28, 3) := by decide +kernel
theorem dX5_meanCost_33 : decode cX5_meanCost 33 = .ok (.iload_n 1, 1) := by decide +kernel
theorem dX5_meanCost_34 : decode cX5_meanCost 34 = .ok (.aload_n 0, 1) := by decide +kernel
theorem dX5_meanCost_35 : decode cX5_meanCost 35 = .ok (.getfield 70, 3) := by decide +kernel
theorem dX5_meanCost_38 : decode cX5_meanCost 38 = .ok (.iload_n 2, 1) := by decide +kernel
theorem dX5_meanCost_39 : decode cX5_meanCost 39 = .ok (.invokevirtual 259, 3) := by decide +kernel
theorem dX5_meanCost_42 : decode cX5_meanCost 42 = .ok (.ifCond .eq 7, 3) := by decide +kernel
theorem dX5_meanCost_45 : decode cX5_meanCost 45 = .ok (.iconst 1, 1) := by decide +kernel
theorem dX5_meanCost_46 : decode cX5_meanCost 46 = .ok (.goto 4, 3) := by decide +kernel
theorem dX5_meanCost_49 : decode cX5_meanCost 49 = .ok (.iconst 0, 1) := by decide +kernel
theorem dX5_meanCost_50 : decode cX5_meanCost 50 = .ok (.iadd, 1) := by decide +kernel
theorem dX5_meanCost_51 : decode cX5_meanCost 51 = .ok (.istore_n 1, 1) := by decide +kernel
theorem dX5_meanCost_52 : decode cX5_meanCost 52 = .ok (.iinc 2 1, 3) := by decide +kernel
theorem dX5_meanCost_55 : decode cX5_meanCost 55 = .ok (.goto (-33), 3) := by decide +kernel
theorem dX5_meanCost_58 : decode cX5_meanCost 58 = .ok (.iload_n 1, 1) := by decide +kernel
theorem dX5_meanCost_59 : decode cX5_meanCost 59 = .ok (.ifCond .ne 7, 3) := by decide +kernel
theorem dX5_meanCost_62 : decode cX5_meanCost 62 = .ok (.dconst 0, 1) := by decide +kernel
theorem dX5_meanCost_63 : decode cX5_meanCost 63 = .ok (.goto 14, 3) := by decide +kernel
theorem dX5_meanCost_66 : decode cX5_meanCost 66 = .ok (.aload_n 0, 1) := by decide +kernel
theorem dX5_meanCost_67 : decode cX5_meanCost 67 = .ok (.getfield 70, 3) := by decide +kernel
theorem dX5_meanCost_70 : decode cX5_meanCost 70 = .ok (.getfield 249, 3) := by decide +kernel
theorem dX5_meanCost_73 : decode cX5_meanCost 73 = .ok (.i2d, 1) := by decide +kernel
theorem dX5_meanCost_74 : decode cX5_meanCost 74 = .ok (.iload_n 1, 1) := by decide +kernel
theorem dX5_meanCost_75 : decode cX5_meanCost 75 = .ok (.i2d, 1) := by decide +kernel
theorem dX5_meanCost_76 : decode cX5_meanCost 76 = .ok (.ddiv, 1) := by decide +kernel
theorem dX5_meanCost_77 : decode cX5_meanCost 77 = .ok (.dreturn, 1) := by decide +kernel
theorem dX5_costBy_0 : decode cX5_costBy 0 = .ok (.aload_n 0, 1) := by decide +kernel
theorem dX5_costBy_1 : decode cX5_costBy 1 = .ok (.iload_n 1, 1) := by decide +kernel
theorem dX5_costBy_2 : decode cX5_costBy 2 = .ok (.bipush (-12), 2) := by decide +kernel
theorem dX5_costBy_4 : decode cX5_costBy 4 = .ok (.bipush 12, 2) := by decide +kernel
theorem dX5_costBy_6 : decode cX5_costBy 6 = .ok (.invokevirtual 110, 3) := by decide +kernel
theorem dX5_costBy_9 : decode cX5_costBy 9 = .ok (.aload_n 0, 1) := by decide +kernel
theorem dX5_costBy_10 : decode cX5_costBy 10 = .ok (.iconst 2, 1) := by decide +kernel
theorem dX5_costBy_11 : decode cX5_costBy 11 = .ok (.invokevirtual 178, 3) := by decide +kernel
theorem dX5_costBy_14 : decode cX5_costBy 14 = .ok (.aload_n 0, 1) := by decide +kernel
theorem dX5_costBy_15 : decode cX5_costBy 15 = .ok (.aload_n 0, 1) := by decide +kernel
theorem dX5_costBy_16 : decode cX5_costBy 16 = .ok (.getfield 60, 3) := by decide +kernel
theorem dX5_costBy_19 : decode cX5_costBy 19 = .ok (.iload_n 1, 1) := by decide +kernel
theorem dX5_costBy_20 : decode cX5_costBy 20 = .ok (.invokevirtual 264, 3) := by decide +kernel
theorem dX5_costBy_23 : decode cX5_costBy 23 = .ok (.ireturn, 1) := by decide +kernel
theorem dX5_bestBy_0 : decode cX5_bestBy 0 = .ok (.aload_n 0, 1) := by decide +kernel
theorem dX5_bestBy_1 : decode cX5_bestBy 1 = .ok (.iconst 2, 1) := by decide +kernel
theorem dX5_bestBy_2 : decode cX5_bestBy 2 = .ok (.invokevirtual 178, 3) := by decide +kernel
theorem dX5_bestBy_5 : decode cX5_bestBy 5 = .ok (.bipush (-99), 2) := by decide +kernel
theorem dX5_bestBy_7 : decode cX5_bestBy 7 = .ok (.istore_n 1, 1) := by decide +kernel
theorem dX5_bestBy_8 : decode cX5_bestBy 8 = .ok (.ldc 210, 2) := by decide +kernel
theorem dX5_bestBy_10 : decode cX5_bestBy 10 = .ok (.istore_n 2, 1) := by decide +kernel
theorem dX5_bestBy_11 : decode cX5_bestBy 11 = .ok (.iconst 0, 1) := by decide +kernel
theorem dX5_bestBy_12 : decode cX5_bestBy 12 = .ok (.istore_n 3, 1) := by decide +kernel
theorem dX5_bestBy_13 : decode cX5_bestBy 13 = .ok (.iload_n 3, 1) := by decide +kernel
theorem dX5_bestBy_14 : decode cX5_bestBy 14 = .ok (.bipush 12, 2) := by decide +kernel
theorem dX5_bestBy_16 : decode cX5_bestBy 16 = .ok (.if_icmp .gt 63, 3) := by decide +kernel
theorem dX5_bestBy_19 : decode cX5_bestBy 19 = .ok (.iload_n 3, 1) := by decide +kernel
theorem dX5_bestBy_20 : decode cX5_bestBy 20 = .ok (.iconst 1, 1) := by decide +kernel
theorem dX5_bestBy_21 : decode cX5_bestBy 21 = .ok (.iadd, 1) := by decide +kernel
theorem dX5_bestBy_22 : decode cX5_bestBy 22 = .ok (.iconst 2, 1) := by decide +kernel
theorem dX5_bestBy_23 : decode cX5_bestBy 23 = .ok (.idiv, 1) := by decide +kernel
theorem dX5_bestBy_24 : decode cX5_bestBy 24 = .ok (.istore 4, 2) := by decide +kernel
theorem dX5_bestBy_26 : decode cX5_bestBy 26 = .ok (.iload_n 3, 1) := by decide +kernel
theorem dX5_bestBy_27 : decode cX5_bestBy 27 = .ok (.iconst 2, 1) := by decide +kernel
theorem dX5_bestBy_28 : decode cX5_bestBy 28 = .ok (.irem, 1) := by decide +kernel
theorem dX5_bestBy_29 : decode cX5_bestBy 29 = .ok (.iconst 1, 1) := by decide +kernel
theorem dX5_bestBy_30 : decode cX5_bestBy 30 = .ok (.if_icmp .ne 8, 3) := by decide +kernel
theorem dX5_bestBy_33 : decode cX5_bestBy 33 = .ok (.iload 4, 2) := by decide +kernel
theorem dX5_bestBy_35 : decode cX5_bestBy 35 = .ok (.goto 6, 3) := by decide +kernel
theorem dX5_bestBy_38 : decode cX5_bestBy 38 = .ok (.iload 4, 2) := by decide +kernel
theorem dX5_bestBy_40 : decode cX5_bestBy 40 = .ok (.ineg, 1) := by decide +kernel
theorem dX5_bestBy_41 : decode cX5_bestBy 41 = .ok (.istore 5, 2) := by decide +kernel
theorem dX5_bestBy_43 : decode cX5_bestBy 43 = .ok (.aload_n 0, 1) := by decide +kernel
theorem dX5_bestBy_44 : decode cX5_bestBy 44 = .ok (.aload_n 0, 1) := by decide +kernel
theorem dX5_bestBy_45 : decode cX5_bestBy 45 = .ok (.getfield 60, 3) := by decide +kernel
theorem dX5_bestBy_48 : decode cX5_bestBy 48 = .ok (.iload 5, 2) := by decide +kernel
theorem dX5_bestBy_50 : decode cX5_bestBy 50 = .ok (.invokevirtual 264, 3) := by decide +kernel
theorem dX5_bestBy_53 : decode cX5_bestBy 53 = .ok (.istore 6, 2) := by decide +kernel
theorem dX5_bestBy_55 : decode cX5_bestBy 55 = .ok (.iload 6, 2) := by decide +kernel
theorem dX5_bestBy_57 : decode cX5_bestBy 57 = .ok (.iconst (-1), 1) := by decide +kernel
theorem dX5_bestBy_58 : decode cX5_bestBy 58 = .ok (.if_icmp .eq 15, 3) := by decide +kernel
theorem dX5_bestBy_61 : decode cX5_bestBy 61 = .ok (.iload 6, 2) := by decide +kernel
theorem dX5_bestBy_63 : decode cX5_bestBy 63 = .ok (.iload_n 2, 1) := by decide +kernel
theorem dX5_bestBy_64 : decode cX5_bestBy 64 = .ok (.if_icmp .ge 9, 3) := by decide +kernel
theorem dX5_bestBy_67 : decode cX5_bestBy 67 = .ok (.iload 6, 2) := by decide +kernel
theorem dX5_bestBy_69 : decode cX5_bestBy 69 = .ok (.istore_n 2, 1) := by decide +kernel
theorem dX5_bestBy_70 : decode cX5_bestBy 70 = .ok (.iload 5, 2) := by decide +kernel
theorem dX5_bestBy_72 : decode cX5_bestBy 72 = .ok (.istore_n 1, 1) := by decide +kernel
theorem dX5_bestBy_73 : decode cX5_bestBy 73 = .ok (.iinc 3 1, 3) := by decide +kernel
theorem dX5_bestBy_76 : decode cX5_bestBy 76 = .ok (.goto (-63), 3) := by decide +kernel
theorem dX5_bestBy_79 : decode cX5_bestBy 79 = .ok (.iload_n 1, 1) := by decide +kernel
theorem dX5_bestBy_80 : decode cX5_bestBy 80 = .ok (.ireturn, 1) := by decide +kernel
theorem dX5_costWith_0 : decode cX5_costWith 0 = .ok (.aload_n 0, 1) := by decide +kernel
theorem dX5_costWith_1 : decode cX5_costWith 1 = .ok (.iload_n 1, 1) := by decide +kernel
theorem dX5_costWith_2 : decode cX5_costWith 2 = .ok (.iload_n 2, 1) := by decide +kernel
theorem dX5_costWith_3 : decode cX5_costWith 3 = .ok (.invokevirtual 268, 3) := by decide +kernel
theorem dX5_costWith_6 : decode cX5_costWith 6 = .ok (.aload_n 0, 1) := by decide +kernel
theorem dX5_costWith_7 : decode cX5_costWith 7 = .ok (.iconst 1, 1) := by decide +kernel
theorem dX5_costWith_8 : decode cX5_costWith 8 = .ok (.invokevirtual 178, 3) := by decide +kernel
theorem dX5_costWith_11 : decode cX5_costWith 11 = .ok (.aload_n 0, 1) := by decide +kernel
theorem dX5_costWith_12 : decode cX5_costWith 12 = .ok (.getfield 64, 3) := by decide +kernel
theorem dX5_costWith_15 : decode cX5_costWith 15 = .ok (.aload_n 0, 1) := by decide +kernel
theorem dX5_costWith_16 : decode cX5_costWith 16 = .ok (.getfield 53, 3) := by decide +kernel
theorem dX5_costWith_19 : decode cX5_costWith 19 = .ok (.aload_n 0, 1) := by decide +kernel
theorem dX5_costWith_20 : decode cX5_costWith 20 = .ok (.getfield 10, 3) := by decide +kernel
theorem dX5_costWith_23 : decode cX5_costWith 23 = .ok (.getfield 120, 3) := by decide +kernel
theorem dX5_costWith_26 : decode cX5_costWith 26 = .ok (.iload_n 1, 1) := by decide +kernel
theorem dX5_costWith_27 : decode cX5_costWith 27 = .ok (.iload_n 2, 1) := by decide +kernel
theorem dX5_costWith_28 : decode cX5_costWith 28 = .ok (.invokevirtual 272, 3) := by decide +kernel
theorem dX5_costWith_31 : decode cX5_costWith 31 = .ok (.aload_n 0, 1) := by decide +kernel
theorem dX5_costWith_32 : decode cX5_costWith 32 = .ok (.aload_n 0, 1) := by decide +kernel
theorem dX5_costWith_33 : decode cX5_costWith 33 = .ok (.getfield 64, 3) := by decide +kernel
theorem dX5_costWith_36 : decode cX5_costWith 36 = .ok (.iconst 0, 1) := by decide +kernel
theorem dX5_costWith_37 : decode cX5_costWith 37 = .ok (.invokevirtual 264, 3) := by decide +kernel
theorem dX5_costWith_40 : decode cX5_costWith 40 = .ok (.ireturn, 1) := by decide +kernel
theorem dX5_level_0 : decode cX5_level 0 = .ok (.aload_n 0, 1) := by decide +kernel
theorem dX5_level_1 : decode cX5_level 1 = .ok (.iconst 2, 1) := by decide +kernel
theorem dX5_level_2 : decode cX5_level 2 = .ok (.invokevirtual 178, 3) := by decide +kernel
theorem dX5_level_5 : decode cX5_level 5 = .ok (.iconst 0, 1) := by decide +kernel
theorem dX5_level_6 : decode cX5_level 6 = .ok (.istore_n 1, 1) := by decide +kernel
theorem dX5_level_7 : decode cX5_level 7 = .ok (.iload_n 1, 1) := by decide +kernel
theorem dX5_level_8 : decode cX5_level 8 = .ok (.iconst 5, 1) := by decide +kernel
theorem dX5_level_9 : decode cX5_level 9 = .ok (.if_icmp .gt 51, 3) := by decide +kernel
theorem dX5_level_12 : decode cX5_level 12 = .ok (.iconst 0, 1) := by decide +kernel
theorem dX5_level_13 : decode cX5_level 13 = .ok (.istore_n 2, 1) := by decide +kernel
theorem dX5_level_14 : decode cX5_level 14 = .ok (.iload_n 2, 1) := by decide +kernel
theorem dX5_level_15 : decode cX5_level 15 = .ok (.iconst 2, 1) := by decide +kernel
theorem dX5_level_16 : decode cX5_level 16 = .ok (.if_icmp .gt 38, 3) := by decide +kernel
theorem dX5_level_19 : decode cX5_level 19 = .ok (.iload_n 1, 1) := by decide +kernel
theorem dX5_level_20 : decode cX5_level 20 = .ok (.iload_n 2, 1) := by decide +kernel
theorem dX5_level_21 : decode cX5_level 21 = .ok (.isub, 1) := by decide +kernel
theorem dX5_level_22 : decode cX5_level 22 = .ok (.istore_n 3, 1) := by decide +kernel
theorem dX5_level_23 : decode cX5_level 23 = .ok (.iload_n 3, 1) := by decide +kernel
theorem dX5_level_24 : decode cX5_level 24 = .ok (.ifCond .lt 24, 3) := by decide +kernel
theorem dX5_level_27 : decode cX5_level 27 = .ok (.iload_n 3, 1) := by decide +kernel
theorem dX5_level_28 : decode cX5_level 28 = .ok (.iconst 3, 1) := by decide +kernel
theorem dX5_level_29 : decode cX5_level 29 = .ok (.if_icmp .gt 19, 3) := by decide +kernel
theorem dX5_level_32 : decode cX5_level 32 = .ok (.aload_n 0, 1) := by decide +kernel
theorem dX5_level_33 : decode cX5_level 33 = .ok (.iload_n 2, 1) := by decide +kernel
theorem dX5_level_34 : decode cX5_level 34 = .ok (.iload_n 3, 1) := by decide +kernel
theorem dX5_level_35 : decode cX5_level 35 = .ok (.invokevirtual 276, 3) := by decide +kernel
theorem dX5_level_38 : decode cX5_level 38 = .ok (.ifCond .eq 10, 3) := by decide +kernel
theorem dX5_level_41 : decode cX5_level 41 = .ok (.bipush 10, 2) := by decide +kernel
theorem dX5_level_43 : decode cX5_level 43 = .ok (.iload_n 2, 1) := by decide +kernel
theorem dX5_level_44 : decode cX5_level 44 = .ok (.imul, 1) := by decide +kernel
theorem dX5_level_45 : decode cX5_level 45 = .ok (.iload_n 3, 1) := by decide +kernel
theorem dX5_level_46 : decode cX5_level 46 = .ok (.iadd, 1) := by decide +kernel
theorem dX5_level_47 : decode cX5_level 47 = .ok (.ireturn, 1) := by decide +kernel
theorem dX5_level_48 : decode cX5_level 48 = .ok (.iinc 2 1, 3) := by decide +kernel
theorem dX5_level_51 : decode cX5_level 51 = .ok (.goto (-37), 3) := by decide +kernel
theorem dX5_level_54 : decode cX5_level 54 = .ok (.iinc 1 1, 3) := by decide +kernel
theorem dX5_level_57 : decode cX5_level 57 = .ok (.goto (-50), 3) := by decide +kernel
theorem dX5_level_60 : decode cX5_level 60 = .ok (.iconst (-1), 1) := by decide +kernel
theorem dX5_level_61 : decode cX5_level 61 = .ok (.ireturn, 1) := by decide +kernel
theorem dX5_setHole_0 : decode cX5_setHole 0 = .ok (.aload_n 0, 1) := by decide +kernel
theorem dX5_setHole_1 : decode cX5_setHole 1 = .ok (.iload_n 1, 1) := by decide +kernel
theorem dX5_setHole_2 : decode cX5_setHole 2 = .ok (.invokevirtual 157, 3) := by decide +kernel
theorem dX5_setHole_5 : decode cX5_setHole 5 = .ok (.aload_n 0, 1) := by decide +kernel
theorem dX5_setHole_6 : decode cX5_setHole 6 = .ok (.iload_n 2, 1) := by decide +kernel
theorem dX5_setHole_7 : decode cX5_setHole 7 = .ok (.iconst 1, 1) := by decide +kernel
theorem dX5_setHole_8 : decode cX5_setHole 8 = .ok (.aload_n 0, 1) := by decide +kernel
theorem dX5_setHole_9 : decode cX5_setHole 9 = .ok (.getfield 10, 3) := by decide +kernel
theorem dX5_setHole_12 : decode cX5_setHole 12 = .ok (.getfield 114, 3) := by decide +kernel
theorem dX5_setHole_15 : decode cX5_setHole 15 = .ok (.iconst 1, 1) := by decide +kernel
theorem dX5_setHole_16 : decode cX5_setHole 16 = .ok (.isub, 1) := by decide +kernel
theorem dX5_setHole_17 : decode cX5_setHole 17 = .ok (.invokevirtual 110, 3) := by decide +kernel
theorem dX5_setHole_20 : decode cX5_setHole 20 = .ok (.aload_n 0, 1) := by decide +kernel
theorem dX5_setHole_21 : decode cX5_setHole 21 = .ok (.iload_n 3, 1) := by decide +kernel
theorem dX5_setHole_22 : decode cX5_setHole 22 = .ok (.iconst 2, 1) := by decide +kernel
theorem dX5_setHole_23 : decode cX5_setHole 23 = .ok (.bipush 15, 2) := by decide +kernel
theorem dX5_setHole_25 : decode cX5_setHole 25 = .ok (.invokevirtual 110, 3) := by decide +kernel
theorem dX5_setHole_28 : decode cX5_setHole 28 = .ok (.iload_n 1, 1) := by decide +kernel
theorem dX5_setHole_29 : decode cX5_setHole 29 = .ok (.ifCond .eq 20, 3) := by decide +kernel
theorem dX5_setHole_32 : decode cX5_setHole 32 = .ok (.iload_n 2, 1) := by decide +kernel
theorem dX5_setHole_33 : decode cX5_setHole 33 = .ok (.aload_n 0, 1) := by decide +kernel
theorem dX5_setHole_34 : decode cX5_setHole 34 = .ok (.getfield 10, 3) := by decide +kernel
theorem dX5_setHole_37 : decode cX5_setHole 37 = .ok (.getfield 161, 3) := by decide +kernel
theorem dX5_setHole_40 : decode cX5_setHole 40 = .ok (.iload_n 1, 1) := by decide +kernel
theorem dX5_setHole_41 : decode cX5_setHole 41 = .ok (.iconst 1, 1) := by decide +kernel
theorem dX5_setHole_42 : decode cX5_setHole 42 = .ok (.isub, 1) := by decide +kernel
theorem dX5_setHole_43 : decode cX5_setHole 43 = .ok (.invokestatic 164, 3) := by decide +kernel
theorem dX5_setHole_46 : decode cX5_setHole 46 = .ok (.if_icmp .le 7, 3) := by decide +kernel
theorem dX5_setHole_49 : decode cX5_setHole 49 = .ok (.iconst 1, 1) := by decide +kernel
theorem dX5_setHole_50 : decode cX5_setHole 50 = .ok (.goto 4, 3) := by decide +kernel
theorem dX5_setHole_53 : decode cX5_setHole 53 = .ok (.iconst 0, 1) := by decide +kernel
theorem dX5_setHole_54 : decode cX5_setHole 54 = .ok (.istore 4, 2) := by decide +kernel
theorem dX5_setHole_56 : decode cX5_setHole 56 = .ok (.iload_n 1, 1) := by decide +kernel
theorem dX5_setHole_57 : decode cX5_setHole 57 = .ok (.aload_n 0, 1) := by decide +kernel
theorem dX5_setHole_58 : decode cX5_setHole 58 = .ok (.getfield 10, 3) := by decide +kernel
theorem dX5_setHole_61 : decode cX5_setHole 61 = .ok (.getfield 123, 3) := by decide +kernel
theorem dX5_setHole_64 : decode cX5_setHole 64 = .ok (.iconst 1, 1) := by decide +kernel
theorem dX5_setHole_65 : decode cX5_setHole 65 = .ok (.isub, 1) := by decide +kernel
theorem dX5_setHole_66 : decode cX5_setHole 66 = .ok (.if_icmp .eq 20, 3) := by decide +kernel
theorem dX5_setHole_69 : decode cX5_setHole 69 = .ok (.iload_n 2, 1) := by decide +kernel
theorem dX5_setHole_70 : decode cX5_setHole 70 = .ok (.aload_n 0, 1) := by decide +kernel
theorem dX5_setHole_71 : decode cX5_setHole 71 = .ok (.getfield 10, 3) := by decide +kernel
theorem dX5_setHole_74 : decode cX5_setHole 74 = .ok (.getfield 161, 3) := by decide +kernel
theorem dX5_setHole_77 : decode cX5_setHole 77 = .ok (.iload_n 1, 1) := by decide +kernel
theorem dX5_setHole_78 : decode cX5_setHole 78 = .ok (.iconst 1, 1) := by decide +kernel
theorem dX5_setHole_79 : decode cX5_setHole 79 = .ok (.iadd, 1) := by decide +kernel
theorem dX5_setHole_80 : decode cX5_setHole 80 = .ok (.invokestatic 164, 3) := by decide +kernel
theorem dX5_setHole_83 : decode cX5_setHole 83 = .ok (.if_icmp .ge 7, 3) := by decide +kernel
theorem dX5_setHole_86 : decode cX5_setHole 86 = .ok (.iconst 1, 1) := by decide +kernel
theorem dX5_setHole_87 : decode cX5_setHole 87 = .ok (.goto 4, 3) := by decide +kernel
theorem dX5_setHole_90 : decode cX5_setHole 90 = .ok (.iconst 0, 1) := by decide +kernel
theorem dX5_setHole_91 : decode cX5_setHole 91 = .ok (.istore 5, 2) := by decide +kernel
theorem dX5_setHole_93 : decode cX5_setHole 93 = .ok (.iload 4, 2) := by decide +kernel
theorem dX5_setHole_95 : decode cX5_setHole 95 = .ok (.ifCond .eq 8, 3) := by decide +kernel
theorem dX5_setHole_98 : decode cX5_setHole 98 = .ok (.iload 5, 2) := by decide +kernel
theorem dX5_setHole_100 : decode cX5_setHole 100 = .ok (.ifCond .ne 6, 3) := by decide +kernel
theorem dX5_setHole_103 : decode cX5_setHole 103 = .ok (.bipush (-3), 2) := by decide +kernel
theorem dX5_setHole_105 : decode cX5_setHole 105 = .ok (.ireturn, 1) := by decide +kernel
theorem dX5_setHole_106 : decode cX5_setHole 106 = .ok (.aload_n 0, 1) := by decide +kernel
theorem dX5_setHole_107 : decode cX5_setHole 107 = .ok (.iconst 0, 1) := by decide +kernel
theorem dX5_setHole_108 : decode cX5_setHole 108 = .ok (.invokevirtual 280, 3) := by decide +kernel
theorem dX5_setHole_111 : decode cX5_setHole 111 = .ok (.aload_n 0, 1) := by decide +kernel
theorem dX5_setHole_112 : decode cX5_setHole 112 = .ok (.getfield 10, 3) := by decide +kernel
theorem dX5_setHole_115 : decode cX5_setHole 115 = .ok (.getfield 161, 3) := by decide +kernel
theorem dX5_setHole_118 : decode cX5_setHole 118 = .ok (.iload_n 1, 1) := by decide +kernel
theorem dX5_setHole_119 : decode cX5_setHole 119 = .ok (.invokestatic 164, 3) := by decide +kernel
theorem dX5_setHole_122 : decode cX5_setHole 122 = .ok (.istore 6, 2) := by decide +kernel
theorem dX5_setHole_124 : decode cX5_setHole 124 = .ok (.aload_n 0, 1) := by decide +kernel
theorem dX5_setHole_125 : decode cX5_setHole 125 = .ok (.getfield 10, 3) := by decide +kernel
theorem dX5_setHole_128 : decode cX5_setHole 128 = .ok (.getfield 161, 3) := by decide +kernel
theorem dX5_setHole_131 : decode cX5_setHole 131 = .ok (.iload_n 1, 1) := by decide +kernel
theorem dX5_setHole_132 : decode cX5_setHole 132 = .ok (.iload_n 2, 1) := by decide +kernel
theorem dX5_setHole_133 : decode cX5_setHole 133 = .ok (.invokestatic 283, 3) := by decide +kernel
theorem dX5_setHole_136 : decode cX5_setHole 136 = .ok (.aload_n 0, 1) := by decide +kernel
theorem dX5_setHole_137 : decode cX5_setHole 137 = .ok (.getfield 10, 3) := by decide +kernel
theorem dX5_setHole_140 : decode cX5_setHole 140 = .ok (.getfield 168, 3) := by decide +kernel
theorem dX5_setHole_143 : decode cX5_setHole 143 = .ok (.iload_n 1, 1) := by decide +kernel
theorem dX5_setHole_144 : decode cX5_setHole 144 = .ok (.iload_n 3, 1) := by decide +kernel
theorem dX5_setHole_145 : decode cX5_setHole 145 = .ok (.invokestatic 283, 3) := by decide +kernel
theorem dX5_setHole_148 : decode cX5_setHole 148 = .ok (.iload 6, 2) := by decide +kernel
theorem dX5_setHole_150 : decode cX5_setHole 150 = .ok (.ireturn, 1) := by decide +kernel
theorem dX5_setLimits_0 : decode cX5_setLimits 0 = .ok (.aload_n 0, 1) := by decide +kernel
theorem dX5_setLimits_1 : decode cX5_setLimits 1 = .ok (.iload_n 1, 1) := by decide +kernel
theorem dX5_setLimits_2 : decode cX5_setLimits 2 = .ok (.iload_n 2, 1) := by decide +kernel
theorem dX5_setLimits_3 : decode cX5_setLimits 3 = .ok (.invokevirtual 268, 3) := by decide +kernel
theorem dX5_setLimits_6 : decode cX5_setLimits 6 = .ok (.aload_n 0, 1) := by decide +kernel
theorem dX5_setLimits_7 : decode cX5_setLimits 7 = .ok (.iconst 1, 1) := by decide +kernel
theorem dX5_setLimits_8 : decode cX5_setLimits 8 = .ok (.invokevirtual 280, 3) := by decide +kernel
theorem dX5_setLimits_11 : decode cX5_setLimits 11 = .ok (.bipush 10, 2) := by decide +kernel
theorem dX5_setLimits_13 : decode cX5_setLimits 13 = .ok (.aload_n 0, 1) := by decide +kernel
theorem dX5_setLimits_14 : decode cX5_setLimits 14 = .ok (.getfield 10, 3) := by decide +kernel
theorem dX5_setLimits_17 : decode cX5_setLimits 17 = .ok (.getfield 126, 3) := by decide +kernel
theorem dX5_setLimits_20 : decode cX5_setLimits 20 = .ok (.imul, 1) := by decide +kernel
theorem dX5_setLimits_21 : decode cX5_setLimits 21 = .ok (.aload_n 0, 1) := by decide +kernel
theorem dX5_setLimits_22 : decode cX5_setLimits 22 = .ok (.getfield 10, 3) := by decide +kernel
theorem dX5_setLimits_25 : decode cX5_setLimits 25 = .ok (.getfield 129, 3) := by decide +kernel
theorem dX5_setLimits_28 : decode cX5_setLimits 28 = .ok (.iadd, 1) := by decide +kernel
theorem dX5_setLimits_29 : decode cX5_setLimits 29 = .ok (.istore_n 3, 1) := by decide +kernel
theorem dX5_setLimits_30 : decode cX5_setLimits 30 = .ok (.aload_n 0, 1) := by decide +kernel
theorem dX5_setLimits_31 : decode cX5_setLimits 31 = .ok (.getfield 10, 3) := by decide +kernel
theorem dX5_setLimits_34 : decode cX5_setLimits 34 = .ok (.iload_n 1, 1) := by decide +kernel
theorem dX5_setLimits_35 : decode cX5_setLimits 35 = .ok (.putfield 126, 3) := by decide +kernel
theorem dX5_setLimits_38 : decode cX5_setLimits 38 = .ok (.aload_n 0, 1) := by decide +kernel
theorem dX5_setLimits_39 : decode cX5_setLimits 39 = .ok (.getfield 10, 3) := by decide +kernel
theorem dX5_setLimits_42 : decode cX5_setLimits 42 = .ok (.iload_n 2, 1) := by decide +kernel
theorem dX5_setLimits_43 : decode cX5_setLimits 43 = .ok (.putfield 129, 3) := by decide +kernel
theorem dX5_setLimits_46 : decode cX5_setLimits 46 = .ok (.iload_n 3, 1) := by decide +kernel
theorem dX5_setLimits_47 : decode cX5_setLimits 47 = .ok (.ireturn, 1) := by decide +kernel
theorem dX5_setTolerance_0 : decode cX5_setTolerance 0 = .ok (.aload_n 0, 1) := by decide +kernel
theorem dX5_setTolerance_1 : decode cX5_setTolerance 1 = .ok (.iload_n 1, 1) := by decide +kernel
theorem dX5_setTolerance_2 : decode cX5_setTolerance 2 = .ok (.iconst 5, 1) := by decide +kernel
theorem dX5_setTolerance_3 : decode cX5_setTolerance 3 = .ok (.bipush 49, 2) := by decide +kernel
theorem dX5_setTolerance_5 : decode cX5_setTolerance 5 = .ok (.invokevirtual 110, 3) := by decide +kernel
theorem dX5_setTolerance_8 : decode cX5_setTolerance 8 = .ok (.aload_n 0, 1) := by decide +kernel
theorem dX5_setTolerance_9 : decode cX5_setTolerance 9 = .ok (.iconst 1, 1) := by decide +kernel
theorem dX5_setTolerance_10 : decode cX5_setTolerance 10 = .ok (.invokevirtual 280, 3) := by decide +kernel
theorem dX5_setTolerance_13 : decode cX5_setTolerance 13 = .ok (.aload_n 0, 1) := by decide +kernel
theorem dX5_setTolerance_14 : decode cX5_setTolerance 14 = .ok (.getfield 10, 3) := by decide +kernel
theorem dX5_setTolerance_17 : decode cX5_setTolerance 17 = .ok (.getfield 120, 3) := by decide +kernel
theorem dX5_setTolerance_20 : decode cX5_setTolerance 20 = .ok (.istore_n 2, 1) := by decide +kernel
theorem dX5_setTolerance_21 : decode cX5_setTolerance 21 = .ok (.aload_n 0, 1) := by decide +kernel
theorem dX5_setTolerance_22 : decode cX5_setTolerance 22 = .ok (.getfield 10, 3) := by decide +kernel
theorem dX5_setTolerance_25 : decode cX5_setTolerance 25 = .ok (.iload_n 1, 1) := by decide +kernel
theorem dX5_setTolerance_26 : decode cX5_setTolerance 26 = .ok (.putfield 120, 3) := by decide +kernel
theorem dX5_setTolerance_29 : decode cX5_setTolerance 29 = .ok (.iload_n 2, 1) := by decide +kernel
theorem dX5_setTolerance_30 : decode cX5_setTolerance 30 = .ok (.ireturn, 1) := by decide +kernel
theorem dX5_setCosts_0 : decode cX5_setCosts 0 = .ok (.aload_n 0, 1) := by decide +kernel
theorem dX5_setCosts_1 : decode cX5_setCosts 1 = .ok (.iload_n 1, 1) := by decide +kernel
theorem dX5_setCosts_2 : decode cX5_setCosts 2 = .ok (.iconst 1, 1) := by decide +kernel
theorem dX5_setCosts_3 : decode cX5_setCosts 3 = .ok (.bipush 9, 2) := by decide +kernel
theorem dX5_setCosts_5 : decode cX5_setCosts 5 = .ok (.invokevirtual 110, 3) := by decide +kernel
theorem dX5_setCosts_8 : decode cX5_setCosts 8 = .ok (.aload_n 0, 1) := by decide +kernel
theorem dX5_setCosts_9 : decode cX5_setCosts 9 = .ok (.iload_n 2, 1) := by decide +kernel
theorem dX5_setCosts_10 : decode cX5_setCosts 10 = .ok (.iconst 1, 1) := by decide +kernel
theorem dX5_setCosts_11 : decode cX5_setCosts 11 = .ok (.bipush 9, 2) := by decide +kernel
theorem dX5_setCosts_13 : decode cX5_setCosts 13 = .ok (.invokevirtual 110, 3) := by decide +kernel
theorem dX5_setCosts_16 : decode cX5_setCosts 16 = .ok (.aload_n 0, 1) := by decide +kernel
theorem dX5_setCosts_17 : decode cX5_setCosts 17 = .ok (.iload_n 3, 1) := by decide +kernel
theorem dX5_setCosts_18 : decode cX5_setCosts 18 = .ok (.iconst 0, 1) := by decide +kernel
theorem dX5_setCosts_19 : decode cX5_setCosts 19 = .ok (.bipush 9, 2) := by decide +kernel
theorem dX5_setCosts_21 : decode cX5_setCosts 21 = .ok (.invokevirtual 110, 3) := by decide +kernel
theorem dX5_setCosts_24 : decode cX5_setCosts 24 = .ok (.aload_n 0, 1) := by decide +kernel
theorem dX5_setCosts_25 : decode cX5_setCosts 25 = .ok (.iconst 2, 1) := by decide +kernel
theorem dX5_setCosts_26 : decode cX5_setCosts 26 = .ok (.invokevirtual 280, 3) := by decide +kernel
theorem dX5_setCosts_29 : decode cX5_setCosts 29 = .ok (.aload_n 0, 1) := by decide +kernel
theorem dX5_setCosts_30 : decode cX5_setCosts 30 = .ok (.getfield 10, 3) := by decide +kernel
theorem dX5_setCosts_33 : decode cX5_setCosts 33 = .ok (.getfield 132, 3) := by decide +kernel
theorem dX5_setCosts_36 : decode cX5_setCosts 36 = .ok (.istore 4, 2) := by decide +kernel
theorem dX5_setCosts_38 : decode cX5_setCosts 38 = .ok (.aload_n 0, 1) := by decide +kernel
theorem dX5_setCosts_39 : decode cX5_setCosts 39 = .ok (.getfield 10, 3) := by decide +kernel
theorem dX5_setCosts_42 : decode cX5_setCosts 42 = .ok (.iload_n 1, 1) := by decide +kernel
theorem dX5_setCosts_43 : decode cX5_setCosts 43 = .ok (.putfield 132, 3) := by decide +kernel
theorem dX5_setCosts_46 : decode cX5_setCosts 46 = .ok (.aload_n 0, 1) := by decide +kernel
theorem dX5_setCosts_47 : decode cX5_setCosts 47 = .ok (.getfield 10, 3) := by decide +kernel
theorem dX5_setCosts_50 : decode cX5_setCosts 50 = .ok (.iload_n 2, 1) := by decide +kernel
theorem dX5_setCosts_51 : decode cX5_setCosts 51 = .ok (.putfield 135, 3) := by decide +kernel
theorem dX5_setCosts_54 : decode cX5_setCosts 54 = .ok (.aload_n 0, 1) := by decide +kernel
theorem dX5_setCosts_55 : decode cX5_setCosts 55 = .ok (.getfield 10, 3) := by decide +kernel
theorem dX5_setCosts_58 : decode cX5_setCosts 58 = .ok (.iload_n 3, 1) := by decide +kernel
theorem dX5_setCosts_59 : decode cX5_setCosts 59 = .ok (.putfield 138, 3) := by decide +kernel
theorem dX5_setCosts_62 : decode cX5_setCosts 62 = .ok (.iload 4, 2) := by decide +kernel
theorem dX5_setCosts_64 : decode cX5_setCosts 64 = .ok (.ireturn, 1) := by decide +kernel
theorem dX5_addNote_0 : decode cX5_addNote 0 = .ok (.aload_n 0, 1) := by decide +kernel
theorem dX5_addNote_1 : decode cX5_addNote 1 = .ok (.iload_n 1, 1) := by decide +kernel
theorem dX5_addNote_2 : decode cX5_addNote 2 = .ok (.iconst (-1), 1) := by decide +kernel
theorem dX5_addNote_3 : decode cX5_addNote 3 = .ok (.bipush 24, 2) := by decide +kernel
theorem dX5_addNote_5 : decode cX5_addNote 5 = .ok (.invokevirtual 110, 3) := by decide +kernel
theorem dX5_addNote_8 : decode cX5_addNote 8 = .ok (.aload_n 0, 1) := by decide +kernel
theorem dX5_addNote_9 : decode cX5_addNote 9 = .ok (.getfield 10, 3) := by decide +kernel
theorem dX5_addNote_12 : decode cX5_addNote 12 = .ok (.getfield 101, 3) := by decide +kernel
theorem dX5_addNote_15 : decode cX5_addNote 15 = .ok (.bipush 40, 2) := by decide +kernel
theorem dX5_addNote_17 : decode cX5_addNote 17 = .ok (.if_icmp .lt 6, 3) := by decide +kernel
theorem dX5_addNote_20 : decode cX5_addNote 20 = .ok (.bipush (-2), 2) := by decide +kernel
theorem dX5_addNote_22 : decode cX5_addNote 22 = .ok (.ireturn, 1) := by decide +kernel
theorem dX5_addNote_23 : decode cX5_addNote 23 = .ok (.aload_n 0, 1) := by decide +kernel
theorem dX5_addNote_24 : decode cX5_addNote 24 = .ok (.iconst 2, 1) := by decide +kernel
theorem dX5_addNote_25 : decode cX5_addNote 25 = .ok (.invokevirtual 280, 3) := by decide +kernel
theorem dX5_addNote_28 : decode cX5_addNote 28 = .ok (.aload_n 0, 1) := by decide +kernel
theorem dX5_addNote_29 : decode cX5_addNote 29 = .ok (.getfield 10, 3) := by decide +kernel
theorem dX5_addNote_32 : decode cX5_addNote 32 = .ok (.getfield 242, 3) := by decide +kernel
theorem dX5_addNote_35 : decode cX5_addNote 35 = .ok (.aload_n 0, 1) := by decide +kernel
theorem dX5_addNote_36 : decode cX5_addNote 36 = .ok (.getfield 10, 3) := by decide +kernel
theorem dX5_addNote_39 : decode cX5_addNote 39 = .ok (.getfield 101, 3) := by decide +kernel
theorem dX5_addNote_42 : decode cX5_addNote 42 = .ok (.iload_n 1, 1) := by decide +kernel
theorem dX5_addNote_43 : decode cX5_addNote 43 = .ok (.invokestatic 283, 3) := by decide +kernel
theorem dX5_addNote_46 : decode cX5_addNote 46 = .ok (.aload_n 0, 1) := by decide +kernel
theorem dX5_addNote_47 : decode cX5_addNote 47 = .ok (.getfield 10, 3) := by decide +kernel
theorem dX5_addNote_50 : decode cX5_addNote 50 = .ok (.dup, 1) := by decide +kernel
theorem dX5_addNote_51 : decode cX5_addNote 51 = .ok (.getfield 101, 3) := by decide +kernel
theorem dX5_addNote_54 : decode cX5_addNote 54 = .ok (.iconst 1, 1) := by decide +kernel
theorem dX5_addNote_55 : decode cX5_addNote 55 = .ok (.iadd, 1) := by decide +kernel
theorem dX5_addNote_56 : decode cX5_addNote 56 = .ok (.putfield 101, 3) := by decide +kernel
theorem dX5_addNote_59 : decode cX5_addNote 59 = .ok (.aload_n 0, 1) := by decide +kernel
theorem dX5_addNote_60 : decode cX5_addNote 60 = .ok (.getfield 10, 3) := by decide +kernel
theorem dX5_addNote_63 : decode cX5_addNote 63 = .ok (.getfield 101, 3) := by decide +kernel
theorem dX5_addNote_66 : decode cX5_addNote 66 = .ok (.iconst 1, 1) := by decide +kernel
theorem dX5_addNote_67 : decode cX5_addNote 67 = .ok (.isub, 1) := by decide +kernel
theorem dX5_addNote_68 : decode cX5_addNote 68 = .ok (.ireturn, 1) := by decide +kernel
theorem dX5_setNote_0 : decode cX5_setNote 0 = .ok (.aload_n 0, 1) := by decide +kernel
theorem dX5_setNote_1 : decode cX5_setNote 1 = .ok (.iload_n 1, 1) := by decide +kernel
theorem dX5_setNote_2 : decode cX5_setNote 2 = .ok (.invokevirtual 239, 3) := by decide +kernel
theorem dX5_setNote_5 : decode cX5_setNote 5 = .ok (.aload_n 0, 1) := by decide +kernel
theorem dX5_setNote_6 : decode cX5_setNote 6 = .ok (.iload_n 2, 1) := by decide +kernel
theorem dX5_setNote_7 : decode cX5_setNote 7 = .ok (.iconst (-1), 1) := by decide +kernel
theorem dX5_setNote_8 : decode cX5_setNote 8 = .ok (.bipush 24, 2) := by decide +kernel
theorem dX5_setNote_10 : decode cX5_setNote 10 = .ok (.invokevirtual 110, 3) := by decide +kernel
theorem dX5_setNote_13 : decode cX5_setNote 13 = .ok (.aload_n 0, 1) := by decide +kernel
theorem dX5_setNote_14 : decode cX5_setNote 14 = .ok (.iconst 2, 1) := by decide +kernel
theorem dX5_setNote_15 : decode cX5_setNote 15 = .ok (.invokevirtual 280, 3) := by decide +kernel
theorem dX5_setNote_18 : decode cX5_setNote 18 = .ok (.aload_n 0, 1) := by decide +kernel
theorem dX5_setNote_19 : decode cX5_setNote 19 = .ok (.getfield 10, 3) := by decide +kernel
theorem dX5_setNote_22 : decode cX5_setNote 22 = .ok (.getfield 242, 3) := by decide +kernel
theorem dX5_setNote_25 : decode cX5_setNote 25 = .ok (.iload_n 1, 1) := by decide +kernel
theorem dX5_setNote_26 : decode cX5_setNote 26 = .ok (.invokestatic 164, 3) := by decide +kernel
theorem dX5_setNote_29 : decode cX5_setNote 29 = .ok (.istore_n 3, 1) := by decide +kernel
theorem dX5_setNote_30 : decode cX5_setNote 30 = .ok (.aload_n 0, 1) := by decide +kernel
theorem dX5_setNote_31 : decode cX5_setNote 31 = .ok (.getfield 10, 3) := by decide +kernel
theorem dX5_setNote_34 : decode cX5_setNote 34 = .ok (.getfield 242, 3) := by decide +kernel
theorem dX5_setNote_37 : decode cX5_setNote 37 = .ok (.iload_n 1, 1) := by decide +kernel
theorem dX5_setNote_38 : decode cX5_setNote 38 = .ok (.iload_n 2, 1) := by decide +kernel
theorem dX5_setNote_39 : decode cX5_setNote 39 = .ok (.invokestatic 283, 3) := by decide +kernel
theorem dX5_setNote_42 : decode cX5_setNote 42 = .ok (.iload_n 3, 1) := by decide +kernel
theorem dX5_setNote_43 : decode cX5_setNote 43 = .ok (.ireturn, 1) := by decide +kernel
theorem dX5_dropNote_0 : decode cX5_dropNote 0 = .ok (.aload_n 0, 1) := by decide +kernel
theorem dX5_dropNote_1 : decode cX5_dropNote 1 = .ok (.iload_n 1, 1) := by decide +kernel
theorem dX5_dropNote_2 : decode cX5_dropNote 2 = .ok (.invokevirtual 239, 3) := by decide +kernel
theorem dX5_dropNote_5 : decode cX5_dropNote 5 = .ok (.aload_n 0, 1) := by decide +kernel
theorem dX5_dropNote_6 : decode cX5_dropNote 6 = .ok (.iconst 2, 1) := by decide +kernel
theorem dX5_dropNote_7 : decode cX5_dropNote 7 = .ok (.invokevirtual 280, 3) := by decide +kernel
theorem dX5_dropNote_10 : decode cX5_dropNote 10 = .ok (.iload_n 1, 1) := by decide +kernel
theorem dX5_dropNote_11 : decode cX5_dropNote 11 = .ok (.istore_n 2, 1) := by decide +kernel
theorem dX5_dropNote_12 : decode cX5_dropNote 12 = .ok (.iload_n 2, 1) := by decide +kernel
theorem dX5_dropNote_13 : decode cX5_dropNote 13 = .ok (.aload_n 0, 1) := by decide +kernel
theorem dX5_dropNote_14 : decode cX5_dropNote 14 = .ok (.getfield 10, 3) := by decide +kernel
theorem dX5_dropNote_17 : decode cX5_dropNote 17 = .ok (.getfield 101, 3) := by decide +kernel
theorem dX5_dropNote_20 : decode cX5_dropNote 20 = .ok (.iconst 1, 1) := by decide +kernel
theorem dX5_dropNote_21 : decode cX5_dropNote 21 = .ok (.isub, 1) := by decide +kernel
theorem dX5_dropNote_22 : decode cX5_dropNote 22 = .ok (.if_icmp .ge 33, 3) := by decide +kernel
theorem dX5_dropNote_25 : decode cX5_dropNote 25 = .ok (.aload_n 0, 1) := by decide +kernel
theorem dX5_dropNote_26 : decode cX5_dropNote 26 = .ok (.getfield 10, 3) := by decide +kernel
theorem dX5_dropNote_29 : decode cX5_dropNote 29 = .ok (.getfield 242, 3) := by decide +kernel
theorem dX5_dropNote_32 : decode cX5_dropNote 32 = .ok (.iload_n 2, 1) := by decide +kernel
theorem dX5_dropNote_33 : decode cX5_dropNote 33 = .ok (.aload_n 0, 1) := by decide +kernel
theorem dX5_dropNote_34 : decode cX5_dropNote 34 = .ok (.getfield 10, 3) := by decide +kernel
theorem dX5_dropNote_37 : decode cX5_dropNote 37 = .ok (.getfield 242, 3) := by decide +kernel
theorem dX5_dropNote_40 : decode cX5_dropNote 40 = .ok (.iload_n 2, 1) := by decide +kernel
theorem dX5_dropNote_41 : decode cX5_dropNote 41 = .ok (.iconst 1, 1) := by decide +kernel
theorem dX5_dropNote_42 : decode cX5_dropNote 42 = .ok (.iadd, 1) := by decide +kernel
theorem dX5_dropNote_43 : decode cX5_dropNote 43 = .ok (.invokestatic 164, 3) := by decide +kernel
theorem dX5_dropNote_46 : decode cX5_dropNote 46 = .ok (.invokestatic 283, 3) := by decide +kernel
theorem dX5_dropNote_49 : decode cX5_dropNote 49 = .ok (.iinc 2 1, 3) := by decide +kernel
theorem dX5_dropNote_52 : decode cX5_dropNote 52 = .ok (.goto (-40), 3) := by decide +kernel
theorem dX5_dropNote_55 : decode cX5_dropNote 55 = .ok (.aload_n 0, 1) := by decide +kernel
theorem dX5_dropNote_56 : decode cX5_dropNote 56 = .ok (.getfield 10, 3) := by decide +kernel
theorem dX5_dropNote_59 : decode cX5_dropNote 59 = .ok (.dup, 1) := by decide +kernel
theorem dX5_dropNote_60 : decode cX5_dropNote 60 = .ok (.getfield 101, 3) := by decide +kernel
theorem dX5_dropNote_63 : decode cX5_dropNote 63 = .ok (.iconst 1, 1) := by decide +kernel
theorem dX5_dropNote_64 : decode cX5_dropNote 64 = .ok (.isub, 1) := by decide +kernel
theorem dX5_dropNote_65 : decode cX5_dropNote 65 = .ok (.putfield 101, 3) := by decide +kernel
theorem dX5_dropNote_68 : decode cX5_dropNote 68 = .ok (.aload_n 0, 1) := by decide +kernel
theorem dX5_dropNote_69 : decode cX5_dropNote 69 = .ok (.getfield 10, 3) := by decide +kernel
theorem dX5_dropNote_72 : decode cX5_dropNote 72 = .ok (.getfield 154, 3) := by decide +kernel
theorem dX5_dropNote_75 : decode cX5_dropNote 75 = .ok (.iload_n 1, 1) := by decide +kernel
theorem dX5_dropNote_76 : decode cX5_dropNote 76 = .ok (.if_icmp .le 16, 3) := by decide +kernel
theorem dX5_dropNote_79 : decode cX5_dropNote 79 = .ok (.aload_n 0, 1) := by decide +kernel
theorem dX5_dropNote_80 : decode cX5_dropNote 80 = .ok (.getfield 10, 3) := by decide +kernel
theorem dX5_dropNote_83 : decode cX5_dropNote 83 = .ok (.dup, 1) := by decide +kernel
theorem dX5_dropNote_84 : decode cX5_dropNote 84 = .ok (.getfield 154, 3) := by decide +kernel
theorem dX5_dropNote_87 : decode cX5_dropNote 87 = .ok (.iconst 1, 1) := by decide +kernel
theorem dX5_dropNote_88 : decode cX5_dropNote 88 = .ok (.isub, 1) := by decide +kernel
theorem dX5_dropNote_89 : decode cX5_dropNote 89 = .ok (.putfield 154, 3) := by decide +kernel
theorem dX5_dropNote_92 : decode cX5_dropNote 92 = .ok (.aload_n 0, 1) := by decide +kernel
theorem dX5_dropNote_93 : decode cX5_dropNote 93 = .ok (.getfield 10, 3) := by decide +kernel
theorem dX5_dropNote_96 : decode cX5_dropNote 96 = .ok (.getfield 154, 3) := by decide +kernel
theorem dX5_dropNote_99 : decode cX5_dropNote 99 = .ok (.aload_n 0, 1) := by decide +kernel
theorem dX5_dropNote_100 : decode cX5_dropNote 100 = .ok (.getfield 10, 3) := by decide +kernel
theorem dX5_dropNote_103 : decode cX5_dropNote 103 = .ok (.getfield 101, 3) := by decide +kernel
theorem dX5_dropNote_106 : decode cX5_dropNote 106 = .ok (.if_icmp .lt 11, 3) := by decide +kernel
theorem dX5_dropNote_109 : decode cX5_dropNote 109 = .ok (.aload_n 0, 1) := by decide +kernel
theorem dX5_dropNote_110 : decode cX5_dropNote 110 = .ok (.getfield 10, 3) := by decide +kernel
theorem dX5_dropNote_113 : decode cX5_dropNote 113 = .ok (.iconst 0, 1) := by decide +kernel
theorem dX5_dropNote_114 : decode cX5_dropNote 114 = .ok (.putfield 154, 3) := by decide +kernel
theorem dX5_dropNote_117 : decode cX5_dropNote 117 = .ok (.aload_n 0, 1) := by decide +kernel
theorem dX5_dropNote_118 : decode cX5_dropNote 118 = .ok (.getfield 10, 3) := by decide +kernel
theorem dX5_dropNote_121 : decode cX5_dropNote 121 = .ok (.getfield 101, 3) := by decide +kernel
theorem dX5_dropNote_124 : decode cX5_dropNote 124 = .ok (.ireturn, 1) := by decide +kernel
theorem dX5_repeat_0 : decode cX5_repeat 0 = .ok (.aload_n 0, 1) := by decide +kernel
theorem dX5_repeat_1 : decode cX5_repeat 1 = .ok (.iload_n 1, 1) := by decide +kernel
theorem dX5_repeat_2 : decode cX5_repeat 2 = .ok (.invokevirtual 239, 3) := by decide +kernel
theorem dX5_repeat_5 : decode cX5_repeat 5 = .ok (.aload_n 0, 1) := by decide +kernel
theorem dX5_repeat_6 : decode cX5_repeat 6 = .ok (.iload_n 2, 1) := by decide +kernel
theorem dX5_repeat_7 : decode cX5_repeat 7 = .ok (.invokevirtual 239, 3) := by decide +kernel
theorem dX5_repeat_10 : decode cX5_repeat 10 = .ok (.iload_n 2, 1) := by decide +kernel
theorem dX5_repeat_11 : decode cX5_repeat 11 = .ok (.iload_n 1, 1) := by decide +kernel
theorem dX5_repeat_12 : decode cX5_repeat 12 = .ok (.if_icmp .ge 11, 3) := by decide +kernel
theorem dX5_repeat_15 : decode cX5_repeat 15 = .ok (.new 287, 3) := by decide +kernel
theorem dX5_repeat_18 : decode cX5_repeat 18 = .ok (.dup, 1) := by decide +kernel
theorem dX5_repeat_19 : decode cX5_repeat 19 = .ok (.invokespecial 289, 3) := by decide +kernel
theorem dX5_repeat_22 : decode cX5_repeat 22 = .ok (.athrow, 1) := by decide +kernel
theorem dX5_repeat_23 : decode cX5_repeat 23 = .ok (.iload_n 2, 1) := by decide +kernel
theorem dX5_repeat_24 : decode cX5_repeat 24 = .ok (.iload_n 1, 1) := by decide +kernel
theorem dX5_repeat_25 : decode cX5_repeat 25 = .ok (.isub, 1) := by decide +kernel
theorem dX5_repeat_26 : decode cX5_repeat 26 = .ok (.iconst 1, 1) := by decide +kernel
theorem dX5_repeat_27 : decode cX5_repeat 27 = .ok (.iadd, 1) := by decide +kernel
theorem dX5_repeat_28 : decode cX5_repeat 28 = .ok (.istore_n 3, 1) := by decide +kernel
theorem dX5_repeat_29 : decode cX5_repeat 29 = .ok (.aload_n 0, 1) := by decide +kernel
theorem dX5_repeat_30 : decode cX5_repeat 30 = .ok (.getfield 10, 3) := by decide +kernel
theorem dX5_repeat_33 : decode cX5_repeat 33 = .ok (.getfield 101, 3) := by decide +kernel
theorem dX5_repeat_36 : decode cX5_repeat 36 = .ok (.iload_n 3, 1) := by decide +kernel
theorem dX5_repeat_37 : decode cX5_repeat 37 = .ok (.iadd, 1) := by decide +kernel
theorem dX5_repeat_38 : decode cX5_repeat 38 = .ok (.bipush 40, 2) := by decide +kernel
theorem dX5_repeat_40 : decode cX5_repeat 40 = .ok (.if_icmp .le 6, 3) := by decide +kernel
theorem dX5_repeat_43 : decode cX5_repeat 43 = .ok (.bipush (-2), 2) := by decide +kernel
theorem dX5_repeat_45 : decode cX5_repeat 45 = .ok (.ireturn, 1) := by decide +kernel
theorem dX5_repeat_46 : decode cX5_repeat 46 = .ok (.aload_n 0, 1) := by decide +kernel
theorem dX5_repeat_47 : decode cX5_repeat 47 = .ok (.iconst 2, 1) := by decide +kernel
theorem dX5_repeat_48 : decode cX5_repeat 48 = .ok (.invokevirtual 280, 3) := by decide +kernel
theorem dX5_repeat_51 : decode cX5_repeat 51 = .ok (.aload_n 0, 1) := by decide +kernel
theorem dX5_repeat_52 : decode cX5_repeat 52 = .ok (.getfield 10, 3) := by decide +kernel
theorem dX5_repeat_55 : decode cX5_repeat 55 = .ok (.getfield 101, 3) := by decide +kernel
theorem dX5_repeat_58 : decode cX5_repeat 58 = .ok (.iconst 1, 1) := by decide +kernel
theorem dX5_repeat_59 : decode cX5_repeat 59 = .ok (.isub, 1) := by decide +kernel
theorem dX5_repeat_60 : decode cX5_repeat 60 = .ok (.istore 4, 2) := by decide +kernel
theorem dX5_repeat_62 : decode cX5_repeat 62 = .ok (.iload 4, 2) := by decide +kernel
theorem dX5_repeat_64 : decode cX5_repeat 64 = .ok (.iload_n 1, 1) := by decide +kernel
theorem dX5_repeat_65 : decode cX5_repeat 65 = .ok (.if_icmp .lt 35, 3) := by decide +kernel
theorem dX5_repeat_68 : decode cX5_repeat 68 = .ok (.aload_n 0, 1) := by decide +kernel
theorem dX5_repeat_69 : decode cX5_repeat 69 = .ok (.getfield 10, 3) := by decide +kernel
theorem dX5_repeat_72 : decode cX5_repeat 72 = .ok (.getfield 242, 3) := by decide +kernel
theorem dX5_repeat_75 : decode cX5_repeat 75 = .ok (.iload 4, 2) := by decide +kernel
theorem dX5_repeat_77 : decode cX5_repeat 77 = .ok (.iload_n 3, 1) := by decide +kernel
theorem dX5_repeat_78 : decode cX5_repeat 78 = .ok (.iadd, 1) := by decide +kernel
theorem dX5_repeat_79 : decode cX5_repeat 79 = .ok (.aload_n 0, 1) := by decide +kernel
theorem dX5_repeat_80 : decode cX5_repeat 80 = .ok (.getfield 10, 3) := by decide +kernel
theorem dX5_repeat_83 : decode cX5_repeat 83 = .ok (.getfield 242, 3) := by decide +kernel
theorem dX5_repeat_86 : decode cX5_repeat 86 = .ok (.iload 4, 2) := by decide +kernel
theorem dX5_repeat_88 : decode cX5_repeat 88 = .ok (.invokestatic 164, 3) := by decide +kernel
theorem dX5_repeat_91 : decode cX5_repeat 91 = .ok (.invokestatic 283, 3) := by decide +kernel
theorem dX5_repeat_94 : decode cX5_repeat 94 = .ok (.iinc 4 (-1), 3) := by decide +kernel
theorem dX5_repeat_97 : decode cX5_repeat 97 = .ok (.goto (-35), 3) := by decide +kernel
theorem dX5_repeat_100 : decode cX5_repeat 100 = .ok (.aload_n 0, 1) := by decide +kernel
theorem dX5_repeat_101 : decode cX5_repeat 101 = .ok (.getfield 10, 3) := by decide +kernel
theorem dX5_repeat_104 : decode cX5_repeat 104 = .ok (.dup, 1) := by decide +kernel
theorem dX5_repeat_105 : decode cX5_repeat 105 = .ok (.getfield 101, 3) := by decide +kernel
theorem dX5_repeat_108 : decode cX5_repeat 108 = .ok (.iload_n 3, 1) := by decide +kernel
theorem dX5_repeat_109 : decode cX5_repeat 109 = .ok (.iadd, 1) := by decide +kernel
theorem dX5_repeat_110 : decode cX5_repeat 110 = .ok (.putfield 101, 3) := by decide +kernel
theorem dX5_repeat_113 : decode cX5_repeat 113 = .ok (.aload_n 0, 1) := by decide +kernel
theorem dX5_repeat_114 : decode cX5_repeat 114 = .ok (.getfield 10, 3) := by decide +kernel
theorem dX5_repeat_117 : decode cX5_repeat 117 = .ok (.getfield 101, 3) := by decide +kernel
theorem dX5_repeat_120 : decode cX5_repeat 120 = .ok (.ireturn, 1) := by decide +kernel
theorem dX5_higher_0 : decode cX5_higher 0 = .ok (.aload_n 0, 1) := by decide +kernel
theorem dX5_higher_1 : decode cX5_higher 1 = .ok (.iload_n 1, 1) := by decide +kernel
theorem dX5_higher_2 : decode cX5_higher 2 = .ok (.bipush (-12), 2) := by decide +kernel
theorem dX5_higher_4 : decode cX5_higher 4 = .ok (.bipush 12, 2) := by decide +kernel
theorem dX5_higher_6 : decode cX5_higher 6 = .ok (.invokevirtual 110, 3) := by decide +kernel
theorem dX5_higher_9 : decode cX5_higher 9 = .ok (.iconst 0, 1) := by decide +kernel
theorem dX5_higher_10 : decode cX5_higher 10 = .ok (.istore_n 2, 1) := by decide +kernel
theorem dX5_higher_11 : decode cX5_higher 11 = .ok (.iload_n 2, 1) := by decide +kernel
theorem dX5_higher_12 : decode cX5_higher 12 = .ok (.aload_n 0, 1) := by decide +kernel
theorem dX5_higher_13 : decode cX5_higher 13 = .ok (.getfield 10, 3) := by decide +kernel
theorem dX5_higher_16 : decode cX5_higher 16 = .ok (.getfield 101, 3) := by decide +kernel
theorem dX5_higher_19 : decode cX5_higher 19 = .ok (.if_icmp .ge 38, 3) := by decide +kernel
theorem dX5_higher_22 : decode cX5_higher 22 = .ok (.aload_n 0, 1) := by decide +kernel
theorem dX5_higher_23 : decode cX5_higher 23 = .ok (.getfield 10, 3) := by decide +kernel
theorem dX5_higher_26 : decode cX5_higher 26 = .ok (.getfield 242, 3) := by decide +kernel
theorem dX5_higher_29 : decode cX5_higher 29 = .ok (.iload_n 2, 1) := by decide +kernel
theorem dX5_higher_30 : decode cX5_higher 30 = .ok (.invokestatic 164, 3) := by decide +kernel
theorem dX5_higher_33 : decode cX5_higher 33 = .ok (.istore_n 3, 1) := by decide +kernel
theorem dX5_higher_34 : decode cX5_higher 34 = .ok (.iload_n 3, 1) := by decide +kernel
theorem dX5_higher_35 : decode cX5_higher 35 = .ok (.iconst (-1), 1) := by decide +kernel
theorem dX5_higher_36 : decode cX5_higher 36 = .ok (.if_icmp .eq 15, 3) := by decide +kernel
theorem dX5_higher_39 : decode cX5_higher 39 = .ok (.iload_n 3, 1) := by decide +kernel
theorem dX5_higher_40 : decode cX5_higher 40 = .ok (.iload_n 1, 1) := by decide +kernel
theorem dX5_higher_41 : decode cX5_higher 41 = .ok (.iadd, 1) := by decide +kernel
theorem dX5_higher_42 : decode cX5_higher 42 = .ok (.invokestatic 290, 3) := by decide +kernel
theorem dX5_higher_45 : decode cX5_higher 45 = .ok (.ifCond .ne 6, 3) := by decide +kernel
theorem dX5_higher_48 : decode cX5_higher 48 = .ok (.bipush (-3), 2) := by decide +kernel
theorem dX5_higher_50 : decode cX5_higher 50 = .ok (.ireturn, 1) := by decide +kernel
theorem dX5_higher_51 : decode cX5_higher 51 = .ok (.iinc 2 1, 3) := by decide +kernel
theorem dX5_higher_54 : decode cX5_higher 54 = .ok (.goto (-43), 3) := by decide +kernel
theorem dX5_higher_57 : decode cX5_higher 57 = .ok (.aload_n 0, 1) := by decide +kernel
theorem dX5_higher_58 : decode cX5_higher 58 = .ok (.iconst 2, 1) := by decide +kernel
theorem dX5_higher_59 : decode cX5_higher 59 = .ok (.invokevirtual 280, 3) := by decide +kernel
theorem dX5_higher_62 : decode cX5_higher 62 = .ok (.iconst 0, 1) := by decide +kernel
theorem dX5_higher_63 : decode cX5_higher 63 = .ok (.istore_n 2, 1) := by decide +kernel
theorem dX5_higher_64 : decode cX5_higher 64 = .ok (.iload_n 2, 1) := by decide +kernel
theorem dX5_higher_65 : decode cX5_higher 65 = .ok (.aload_n 0, 1) := by decide +kernel
theorem dX5_higher_66 : decode cX5_higher 66 = .ok (.getfield 10, 3) := by decide +kernel
theorem dX5_higher_69 : decode cX5_higher 69 = .ok (.getfield 101, 3) := by decide +kernel
theorem dX5_higher_72 : decode cX5_higher 72 = .ok (.if_icmp .ge 44, 3) := by decide +kernel
theorem dX5_higher_75 : decode cX5_higher 75 = .ok (.aload_n 0, 1) := by decide +kernel
theorem dX5_higher_76 : decode cX5_higher 76 = .ok (.getfield 10, 3) := by decide +kernel
theorem dX5_higher_79 : decode cX5_higher 79 = .ok (.getfield 242, 3) := by decide +kernel
theorem dX5_higher_82 : decode cX5_higher 82 = .ok (.iload_n 2, 1) := by decide +kernel
theorem dX5_higher_83 : decode cX5_higher 83 = .ok (.invokestatic 164, 3) := by decide +kernel
theorem dX5_higher_86 : decode cX5_higher 86 = .ok (.istore_n 3, 1) := by decide +kernel
theorem dX5_higher_87 : decode cX5_higher 87 = .ok (.aload_n 0, 1) := by decide +kernel
theorem dX5_higher_88 : decode cX5_higher 88 = .ok (.getfield 10, 3) := by decide +kernel
theorem dX5_higher_91 : decode cX5_higher 91 = .ok (.getfield 242, 3) := by decide +kernel
theorem dX5_higher_94 : decode cX5_higher 94 = .ok (.iload_n 2, 1) := by decide +kernel
theorem dX5_higher_95 : decode cX5_higher 95 = .ok (.iload_n 3, 1) := by decide +kernel
theorem dX5_higher_96 : decode cX5_higher 96 = .ok (.iconst (-1), 1) := by decide +kernel
theorem dX5_higher_97 : decode cX5_higher 97 = .ok (.if_icmp .ne 7, 3) := by decide +kernel
theorem dX5_higher_100 : decode cX5_higher 100 = .ok (.iconst (-1), 1) := by decide +kernel
theorem dX5_higher_101 : decode cX5_higher 101 = .ok (.goto 6, 3) := by decide +kernel
theorem dX5_higher_104 : decode cX5_higher 104 = .ok (.iload_n 3, 1) := by decide +kernel
theorem dX5_higher_105 : decode cX5_higher 105 = .ok (.iload_n 1, 1) := by decide +kernel
theorem dX5_higher_106 : decode cX5_higher 106 = .ok (.iadd, 1) := by decide +kernel
theorem dX5_higher_107 : decode cX5_higher 107 = .ok (.invokestatic 283, 3) := by decide +kernel
theorem dX5_higher_110 : decode cX5_higher 110 = .ok (.iinc 2 1, 3) := by decide +kernel
theorem dX5_higher_113 : decode cX5_higher 113 = .ok (.goto (-49), 3) := by decide +kernel
theorem dX5_higher_116 : decode cX5_higher 116 = .ok (.aload_n 0, 1) := by decide +kernel
theorem dX5_higher_117 : decode cX5_higher 117 = .ok (.getfield 10, 3) := by decide +kernel
theorem dX5_higher_120 : decode cX5_higher 120 = .ok (.invokevirtual 141, 3) := by decide +kernel
theorem dX5_higher_123 : decode cX5_higher 123 = .ok (.ireturn, 1) := by decide +kernel
theorem dX5_cover_0 : decode cX5_cover 0 = .ok (.aload_n 0, 1) := by decide +kernel
theorem dX5_cover_1 : decode cX5_cover 1 = .ok (.iload_n 1, 1) := by decide +kernel
theorem dX5_cover_2 : decode cX5_cover 2 = .ok (.invokevirtual 157, 3) := by decide +kernel
theorem dX5_cover_5 : decode cX5_cover 5 = .ok (.aload_n 0, 1) := by decide +kernel
theorem dX5_cover_6 : decode cX5_cover 6 = .ok (.iload_n 2, 1) := by decide +kernel
theorem dX5_cover_7 : decode cX5_cover 7 = .ok (.iconst 0, 1) := by decide +kernel
theorem dX5_cover_8 : decode cX5_cover 8 = .ok (.iconst 2, 1) := by decide +kernel
theorem dX5_cover_9 : decode cX5_cover 9 = .ok (.invokevirtual 110, 3) := by decide +kernel
theorem dX5_cover_12 : decode cX5_cover 12 = .ok (.aload_n 0, 1) := by decide +kernel
theorem dX5_cover_13 : decode cX5_cover 13 = .ok (.iconst 1, 1) := by decide +kernel
theorem dX5_cover_14 : decode cX5_cover 14 = .ok (.invokevirtual 178, 3) := by decide +kernel
theorem dX5_cover_17 : decode cX5_cover 17 = .ok (.aload_n 0, 1) := by decide +kernel
theorem dX5_cover_18 : decode cX5_cover 18 = .ok (.iconst 3, 1) := by decide +kernel
theorem dX5_cover_19 : decode cX5_cover 19 = .ok (.invokevirtual 280, 3) := by decide +kernel
theorem dX5_cover_22 : decode cX5_cover 22 = .ok (.aload_n 0, 1) := by decide +kernel
theorem dX5_cover_23 : decode cX5_cover 23 = .ok (.aload_n 0, 1) := by decide +kernel
theorem dX5_cover_24 : decode cX5_cover 24 = .ok (.getfield 10, 3) := by decide +kernel
theorem dX5_cover_27 : decode cX5_cover 27 = .ok (.getfield 148, 3) := by decide +kernel
theorem dX5_cover_30 : decode cX5_cover 30 = .ok (.iload_n 2, 1) := by decide +kernel
theorem dX5_cover_31 : decode cX5_cover 31 = .ok (.aload_n 0, 1) := by decide +kernel
theorem dX5_cover_32 : decode cX5_cover 32 = .ok (.getfield 10, 3) := by decide +kernel
theorem dX5_cover_35 : decode cX5_cover 35 = .ok (.getfield 148, 3) := by decide +kernel
theorem dX5_cover_38 : decode cX5_cover 38 = .ok (.iload_n 1, 1) := by decide +kernel
theorem dX5_cover_39 : decode cX5_cover 39 = .ok (.invokestatic 171, 3) := by decide +kernel
theorem dX5_cover_42 : decode cX5_cover 42 = .ok (.isub, 1) := by decide +kernel
theorem dX5_cover_43 : decode cX5_cover 43 = .ok (.getstatic 293, 3) := by decide +kernel
theorem dX5_cover_46 : decode cX5_cover 46 = .ok (.iload_n 1, 1) := by decide +kernel
theorem dX5_cover_47 : decode cX5_cover 47 = .ok (.invokestatic 164, 3) := by decide +kernel
theorem dX5_cover_50 : decode cX5_cover 50 = .ok (.imul, 1) := by decide +kernel
theorem dX5_cover_51 : decode cX5_cover 51 = .ok (.iadd, 1) := by decide +kernel
theorem dX5_cover_52 : decode cX5_cover 52 = .ok (.invokevirtual 296, 3) := by decide +kernel
theorem dX5_cover_55 : decode cX5_cover 55 = .ok (.aload_n 0, 1) := by decide +kernel
theorem dX5_cover_56 : decode cX5_cover 56 = .ok (.getfield 10, 3) := by decide +kernel
theorem dX5_cover_59 : decode cX5_cover 59 = .ok (.getfield 148, 3) := by decide +kernel
theorem dX5_cover_62 : decode cX5_cover 62 = .ok (.ireturn, 1) := by decide +kernel
theorem dX5_blow_0 : decode cX5_blow 0 = .ok (.aload_n 0, 1) := by decide +kernel
theorem dX5_blow_1 : decode cX5_blow 1 = .ok (.iconst 1, 1) := by decide +kernel
theorem dX5_blow_2 : decode cX5_blow 2 = .ok (.invokevirtual 178, 3) := by decide +kernel
theorem dX5_blow_5 : decode cX5_blow 5 = .ok (.aload_n 0, 1) := by decide +kernel
theorem dX5_blow_6 : decode cX5_blow 6 = .ok (.iconst 3, 1) := by decide +kernel
theorem dX5_blow_7 : decode cX5_blow 7 = .ok (.invokevirtual 280, 3) := by decide +kernel
theorem dX5_blow_10 : decode cX5_blow 10 = .ok (.aload_n 0, 1) := by decide +kernel
theorem dX5_blow_11 : decode cX5_blow 11 = .ok (.getfield 10, 3) := by decide +kernel
theorem dX5_blow_14 : decode cX5_blow 14 = .ok (.invokevirtual 299, 3) := by decide +kernel
theorem dX5_blow_17 : decode cX5_blow 17 = .ok (.istore_n 2, 1) := by decide +kernel
theorem dX5_blow_18 : decode cX5_blow 18 = .ok (.aload_n 0, 1) := by decide +kernel
theorem dX5_blow_19 : decode cX5_blow 19 = .ok (.getfield 10, 3) := by decide +kernel
theorem dX5_blow_22 : decode cX5_blow 22 = .ok (.getfield 148, 3) := by decide +kernel
theorem dX5_blow_25 : decode cX5_blow 25 = .ok (.iload_n 2, 1) := by decide +kernel
theorem dX5_blow_26 : decode cX5_blow 26 = .ok (.if_icmp .lt 15, 3) := by decide +kernel
theorem dX5_blow_29 : decode cX5_blow 29 = .ok (.aload_n 0, 1) := by decide +kernel
theorem dX5_blow_30 : decode cX5_blow 30 = .ok (.getfield 10, 3) := by decide +kernel
theorem dX5_blow_33 : decode cX5_blow 33 = .ok (.getfield 148, 3) := by decide +kernel
theorem dX5_blow_36 : decode cX5_blow 36 = .ok (.iload_n 2, 1) := by decide +kernel
theorem dX5_blow_37 : decode cX5_blow 37 = .ok (.isub, 1) := by decide +kernel
theorem dX5_blow_38 : decode cX5_blow 38 = .ok (.goto 10, 3) := by decide +kernel
theorem dX5_blow_41 : decode cX5_blow 41 = .ok (.aload_n 0, 1) := by decide +kernel
theorem dX5_blow_42 : decode cX5_blow 42 = .ok (.getfield 10, 3) := by decide +kernel
theorem dX5_blow_45 : decode cX5_blow 45 = .ok (.getfield 148, 3) := by decide +kernel
theorem dX5_blow_48 : decode cX5_blow 48 = .ok (.istore_n 3, 1) := by decide +kernel
theorem dX5_blow_49 : decode cX5_blow 49 = .ok (.aload_n 0, 1) := by decide +kernel
theorem dX5_blow_50 : decode cX5_blow 50 = .ok (.iload_n 1, 1) := by decide +kernel
theorem dX5_blow_51 : decode cX5_blow 51 = .ok (.ifCond .eq 9, 3) := by decide +kernel
theorem dX5_blow_54 : decode cX5_blow 54 = .ok (.iload_n 3, 1) := by decide +kernel
theorem dX5_blow_55 : decode cX5_blow 55 = .ok (.iload_n 2, 1) := by decide +kernel
theorem dX5_blow_56 : decode cX5_blow 56 = .ok (.iadd, 1) := by decide +kernel
theorem dX5_blow_57 : decode cX5_blow 57 = .ok (.goto 4, 3) := by decide +kernel
theorem dX5_blow_60 : decode cX5_blow 60 = .ok (.iload_n 3, 1) := by decide +kernel
theorem dX5_blow_61 : decode cX5_blow 61 = .ok (.invokevirtual 296, 3) := by decide +kernel
theorem dX5_blow_64 : decode cX5_blow 64 = .ok (.aload_n 0, 1) := by decide +kernel
theorem dX5_blow_65 : decode cX5_blow 65 = .ok (.getfield 10, 3) := by decide +kernel
theorem dX5_blow_68 : decode cX5_blow 68 = .ok (.getfield 148, 3) := by decide +kernel
theorem dX5_blow_71 : decode cX5_blow 71 = .ok (.ireturn, 1) := by decide +kernel
theorem dX5_step_0 : decode cX5_step 0 = .ok (.aload_n 0, 1) := by decide +kernel
theorem dX5_step_1 : decode cX5_step 1 = .ok (.iconst 2, 1) := by decide +kernel
theorem dX5_step_2 : decode cX5_step 2 = .ok (.invokevirtual 178, 3) := by decide +kernel
theorem dX5_step_5 : decode cX5_step 5 = .ok (.aload_n 0, 1) := by decide +kernel
theorem dX5_step_6 : decode cX5_step 6 = .ok (.getfield 10, 3) := by decide +kernel
theorem dX5_step_9 : decode cX5_step 9 = .ok (.getfield 101, 3) := by decide +kernel
theorem dX5_step_12 : decode cX5_step 12 = .ok (.ifCond .eq 26, 3) := by decide +kernel
theorem dX5_step_15 : decode cX5_step 15 = .ok (.aload_n 0, 1) := by decide +kernel
theorem dX5_step_16 : decode cX5_step 16 = .ok (.getfield 60, 3) := by decide +kernel
theorem dX5_step_19 : decode cX5_step 19 = .ok (.aload_n 0, 1) := by decide +kernel
theorem dX5_step_20 : decode cX5_step 20 = .ok (.getfield 10, 3) := by decide +kernel
theorem dX5_step_23 : decode cX5_step 23 = .ok (.aload_n 0, 1) := by decide +kernel
theorem dX5_step_24 : decode cX5_step 24 = .ok (.getfield 10, 3) := by decide +kernel
theorem dX5_step_27 : decode cX5_step 27 = .ok (.getfield 154, 3) := by decide +kernel
theorem dX5_step_30 : decode cX5_step 30 = .ok (.iconst 0, 1) := by decide +kernel
theorem dX5_step_31 : decode cX5_step 31 = .ok (.invokevirtual 245, 3) := by decide +kernel
theorem dX5_step_34 : decode cX5_step 34 = .ok (.iconst (-1), 1) := by decide +kernel
theorem dX5_step_35 : decode cX5_step 35 = .ok (.if_icmp .eq 6, 3) := by decide +kernel
theorem dX5_step_38 : decode cX5_step 38 = .ok (.bipush (-3), 2) := by decide +kernel
theorem dX5_step_40 : decode cX5_step 40 = .ok (.ireturn, 1) := by decide +kernel
theorem dX5_step_41 : decode cX5_step 41 = .ok (.aload_n 0, 1) := by decide +kernel
theorem dX5_step_42 : decode cX5_step 42 = .ok (.iconst 3, 1) := by decide +kernel
theorem dX5_step_43 : decode cX5_step 43 = .ok (.invokevirtual 280, 3) := by decide +kernel
theorem dX5_step_46 : decode cX5_step 46 = .ok (.aload_n 0, 1) := by decide +kernel
theorem dX5_step_47 : decode cX5_step 47 = .ok (.getfield 10, 3) := by decide +kernel
theorem dX5_step_50 : decode cX5_step 50 = .ok (.getfield 242, 3) := by decide +kernel
theorem dX5_step_53 : decode cX5_step 53 = .ok (.aload_n 0, 1) := by decide +kernel
theorem dX5_step_54 : decode cX5_step 54 = .ok (.getfield 10, 3) := by decide +kernel
theorem dX5_step_57 : decode cX5_step 57 = .ok (.getfield 154, 3) := by decide +kernel
theorem dX5_step_60 : decode cX5_step 60 = .ok (.invokestatic 164, 3) := by decide +kernel
theorem dX5_step_63 : decode cX5_step 63 = .ok (.istore_n 1, 1) := by decide +kernel
theorem dX5_step_64 : decode cX5_step 64 = .ok (.iload_n 1, 1) := by decide +kernel
theorem dX5_step_65 : decode cX5_step 65 = .ok (.iconst (-1), 1) := by decide +kernel
theorem dX5_step_66 : decode cX5_step 66 = .ok (.if_icmp .eq 61, 3) := by decide +kernel
theorem dX5_step_69 : decode cX5_step 69 = .ok (.aload_n 0, 1) := by decide +kernel
theorem dX5_step_70 : decode cX5_step 70 = .ok (.iconst 3, 1) := by decide +kernel
theorem dX5_step_71 : decode cX5_step 71 = .ok (.invokevirtual 178, 3) := by decide +kernel
theorem dX5_step_74 : decode cX5_step 74 = .ok (.aload_n 0, 1) := by decide +kernel
theorem dX5_step_75 : decode cX5_step 75 = .ok (.getfield 70, 3) := by decide +kernel
theorem dX5_step_78 : decode cX5_step 78 = .ok (.aload_n 0, 1) := by decide +kernel
theorem dX5_step_79 : decode cX5_step 79 = .ok (.getfield 10, 3) := by decide +kernel
theorem dX5_step_82 : decode cX5_step 82 = .ok (.aload_n 0, 1) := by decide +kernel
theorem dX5_step_83 : decode cX5_step 83 = .ok (.getfield 60, 3) := by decide +kernel
theorem dX5_step_86 : decode cX5_step 86 = .ok (.aload_n 0, 1) := by decide +kernel
theorem dX5_step_87 : decode cX5_step 87 = .ok (.getfield 10, 3) := by decide +kernel
theorem dX5_step_90 : decode cX5_step 90 = .ok (.getfield 154, 3) := by decide +kernel
theorem dX5_step_93 : decode cX5_step 93 = .ok (.iload_n 1, 1) := by decide +kernel
theorem dX5_step_94 : decode cX5_step 94 = .ok (.aload_n 0, 1) := by decide +kernel
theorem dX5_step_95 : decode cX5_step 95 = .ok (.getfield 53, 3) := by decide +kernel
theorem dX5_step_98 : decode cX5_step 98 = .ok (.aload_n 0, 1) := by decide +kernel
theorem dX5_step_99 : decode cX5_step 99 = .ok (.getfield 10, 3) := by decide +kernel
theorem dX5_step_102 : decode cX5_step 102 = .ok (.getfield 148, 3) := by decide +kernel
theorem dX5_step_105 : decode cX5_step 105 = .ok (.invokevirtual 222, 3) := by decide +kernel
theorem dX5_step_108 : decode cX5_step 108 = .ok (.invokevirtual 302, 3) := by decide +kernel
theorem dX5_step_111 : decode cX5_step 111 = .ok (.istore_n 2, 1) := by decide +kernel
theorem dX5_step_112 : decode cX5_step 112 = .ok (.aload_n 0, 1) := by decide +kernel
theorem dX5_step_113 : decode cX5_step 113 = .ok (.aload_n 0, 1) := by decide +kernel
theorem dX5_step_114 : decode cX5_step 114 = .ok (.getfield 60, 3) := by decide +kernel
theorem dX5_step_117 : decode cX5_step 117 = .ok (.getfield 204, 3) := by decide +kernel
theorem dX5_step_120 : decode cX5_step 120 = .ok (.iload_n 2, 1) := by decide +kernel
theorem dX5_step_121 : decode cX5_step 121 = .ok (.invokestatic 164, 3) := by decide +kernel
theorem dX5_step_124 : decode cX5_step 124 = .ok (.invokevirtual 296, 3) := by decide +kernel
theorem dX5_step_127 : decode cX5_step 127 = .ok (.aload_n 0, 1) := by decide +kernel
theorem dX5_step_128 : decode cX5_step 128 = .ok (.getfield 10, 3) := by decide +kernel
theorem dX5_step_131 : decode cX5_step 131 = .ok (.aload_n 0, 1) := by decide +kernel
theorem dX5_step_132 : decode cX5_step 132 = .ok (.getfield 10, 3) := by decide +kernel
theorem dX5_step_135 : decode cX5_step 135 = .ok (.getfield 154, 3) := by decide +kernel
theorem dX5_step_138 : decode cX5_step 138 = .ok (.iconst 1, 1) := by decide +kernel
theorem dX5_step_139 : decode cX5_step 139 = .ok (.iadd, 1) := by decide +kernel
theorem dX5_step_140 : decode cX5_step 140 = .ok (.aload_n 0, 1) := by decide +kernel
theorem dX5_step_141 : decode cX5_step 141 = .ok (.getfield 10, 3) := by decide +kernel
theorem dX5_step_144 : decode cX5_step 144 = .ok (.getfield 101, 3) := by decide +kernel
theorem dX5_step_147 : decode cX5_step 147 = .ok (.if_icmp .ge 15, 3) := by decide +kernel
theorem dX5_step_150 : decode cX5_step 150 = .ok (.aload_n 0, 1) := by decide +kernel
theorem dX5_step_151 : decode cX5_step 151 = .ok (.getfield 10, 3) := by decide +kernel
theorem dX5_step_154 : decode cX5_step 154 = .ok (.getfield 154, 3) := by decide +kernel
theorem dX5_step_157 : decode cX5_step 157 = .ok (.iconst 1, 1) := by decide +kernel
theorem dX5_step_158 : decode cX5_step 158 = .ok (.iadd, 1) := by decide +kernel
theorem dX5_step_159 : decode cX5_step 159 = .ok (.goto 4, 3) := by decide +kernel
theorem dX5_step_162 : decode cX5_step 162 = .ok (.iconst 0, 1) := by decide +kernel
theorem dX5_step_163 : decode cX5_step 163 = .ok (.putfield 154, 3) := by decide +kernel
theorem dX5_step_166 : decode cX5_step 166 = .ok (.aload_n 0, 1) := by decide +kernel
theorem dX5_step_167 : decode cX5_step 167 = .ok (.getfield 10, 3) := by decide +kernel
theorem dX5_step_170 : decode cX5_step 170 = .ok (.getfield 148, 3) := by decide +kernel
theorem dX5_step_173 : decode cX5_step 173 = .ok (.ireturn, 1) := by decide +kernel
theorem dX5_rewind_0 : decode cX5_rewind 0 = .ok (.iload_n 1, 1) := by decide +kernel
theorem dX5_rewind_1 : decode cX5_rewind 1 = .ok (.ifCond .eq 8, 3) := by decide +kernel
theorem dX5_rewind_4 : decode cX5_rewind 4 = .ok (.aload_n 0, 1) := by decide +kernel
theorem dX5_rewind_5 : decode cX5_rewind 5 = .ok (.iload_n 1, 1) := by decide +kernel
theorem dX5_rewind_6 : decode cX5_rewind 6 = .ok (.invokevirtual 239, 3) := by decide +kernel
theorem dX5_rewind_9 : decode cX5_rewind 9 = .ok (.aload_n 0, 1) := by decide +kernel
theorem dX5_rewind_10 : decode cX5_rewind 10 = .ok (.iconst 3, 1) := by decide +kernel
theorem dX5_rewind_11 : decode cX5_rewind 11 = .ok (.invokevirtual 280, 3) := by decide +kernel
theorem dX5_rewind_14 : decode cX5_rewind 14 = .ok (.aload_n 0, 1) := by decide +kernel
theorem dX5_rewind_15 : decode cX5_rewind 15 = .ok (.getfield 10, 3) := by decide +kernel
theorem dX5_rewind_18 : decode cX5_rewind 18 = .ok (.getfield 154, 3) := by decide +kernel
theorem dX5_rewind_21 : decode cX5_rewind 21 = .ok (.istore_n 2, 1) := by decide +kernel
theorem dX5_rewind_22 : decode cX5_rewind 22 = .ok (.aload_n 0, 1) := by decide +kernel
theorem dX5_rewind_23 : decode cX5_rewind 23 = .ok (.getfield 10, 3) := by decide +kernel
theorem dX5_rewind_26 : decode cX5_rewind 26 = .ok (.iload_n 1, 1) := by decide +kernel
theorem dX5_rewind_27 : decode cX5_rewind 27 = .ok (.putfield 154, 3) := by decide +kernel
theorem dX5_rewind_30 : decode cX5_rewind 30 = .ok (.iload_n 2, 1) := by decide +kernel
theorem dX5_rewind_31 : decode cX5_rewind 31 = .ok (.ireturn, 1) := by decide +kernel
theorem dX5_writePlay_0 : decode cX5_writePlay 0 = .ok (.aload_n 0, 1) := by decide +kernel
theorem dX5_writePlay_1 : decode cX5_writePlay 1 = .ok (.iload_n 1, 1) := by decide +kernel
theorem dX5_writePlay_2 : decode cX5_writePlay 2 = .ok (.invokevirtual 175, 3) := by decide +kernel
theorem dX5_writePlay_5 : decode cX5_writePlay 5 = .ok (.aload_n 0, 1) := by decide +kernel
theorem dX5_writePlay_6 : decode cX5_writePlay 6 = .ok (.iconst 0, 1) := by decide +kernel
theorem dX5_writePlay_7 : decode cX5_writePlay 7 = .ok (.putfield 47, 3) := by decide +kernel
theorem dX5_writePlay_10 : decode cX5_writePlay 10 = .ok (.iconst 0, 1) := by decide +kernel
theorem dX5_writePlay_11 : decode cX5_writePlay 11 = .ok (.istore_n 2, 1) := by decide +kernel
theorem dX5_writePlay_12 : decode cX5_writePlay 12 = .ok (.iload_n 2, 1) := by decide +kernel
theorem dX5_writePlay_13 : decode cX5_writePlay 13 = .ok (.aload_n 0, 1) := by decide +kernel
theorem dX5_writePlay_14 : decode cX5_writePlay 14 = .ok (.getfield 10, 3) := by decide +kernel
theorem dX5_writePlay_17 : decode cX5_writePlay 17 = .ok (.getfield 123, 3) := by decide +kernel
theorem dX5_writePlay_20 : decode cX5_writePlay 20 = .ok (.if_icmp .ge 40, 3) := by decide +kernel
theorem dX5_writePlay_23 : decode cX5_writePlay 23 = .ok (.iload_n 1, 1) := by decide +kernel
theorem dX5_writePlay_24 : decode cX5_writePlay 24 = .ok (.iload_n 2, 1) := by decide +kernel
theorem dX5_writePlay_25 : decode cX5_writePlay 25 = .ok (.invokestatic 171, 3) := by decide +kernel
theorem dX5_writePlay_28 : decode cX5_writePlay 28 = .ok (.istore_n 3, 1) := by decide +kernel
theorem dX5_writePlay_29 : decode cX5_writePlay 29 = .ok (.aload_n 0, 1) := by decide +kernel
theorem dX5_writePlay_30 : decode cX5_writePlay 30 = .ok (.iload_n 3, 1) := by decide +kernel
theorem dX5_writePlay_31 : decode cX5_writePlay 31 = .ok (.ifCond .ne 8, 3) := by decide +kernel
theorem dX5_writePlay_34 : decode cX5_writePlay 34 = .ok (.bipush 111, 2) := by decide +kernel
theorem dX5_writePlay_36 : decode cX5_writePlay 36 = .ok (.goto 15, 3) := by decide +kernel
theorem dX5_writePlay_39 : decode cX5_writePlay 39 = .ok (.iload_n 3, 1) := by decide +kernel
theorem dX5_writePlay_40 : decode cX5_writePlay 40 = .ok (.iconst 1, 1) := by decide +kernel
theorem dX5_writePlay_41 : decode cX5_writePlay 41 = .ok (.if_icmp .ne 8, 3) := by decide +kernel
theorem dX5_writePlay_44 : decode cX5_writePlay 44 = .ok (.bipush 104, 2) := by decide +kernel
theorem dX5_writePlay_46 : decode cX5_writePlay 46 = .ok (.goto 5, 3) := by decide +kernel
theorem dX5_writePlay_49 : decode cX5_writePlay 49 = .ok (.bipush 120, 2) := by decide +kernel
theorem dX5_writePlay_51 : decode cX5_writePlay 51 = .ok (.invokevirtual 306, 3) := by decide +kernel
theorem dX5_writePlay_54 : decode cX5_writePlay 54 = .ok (.iinc 2 1, 3) := by decide +kernel
theorem dX5_writePlay_57 : decode cX5_writePlay 57 = .ok (.goto (-45), 3) := by decide +kernel
theorem dX5_writePlay_60 : decode cX5_writePlay 60 = .ok (.iload_n 1, 1) := by decide +kernel
theorem dX5_writePlay_61 : decode cX5_writePlay 61 = .ok (.aload_n 0, 1) := by decide +kernel
theorem dX5_writePlay_62 : decode cX5_writePlay 62 = .ok (.getfield 10, 3) := by decide +kernel
theorem dX5_writePlay_65 : decode cX5_writePlay 65 = .ok (.invokevirtual 299, 3) := by decide +kernel
theorem dX5_writePlay_68 : decode cX5_writePlay 68 = .ok (.if_icmp .lt 9, 3) := by decide +kernel
theorem dX5_writePlay_71 : decode cX5_writePlay 71 = .ok (.aload_n 0, 1) := by decide +kernel
theorem dX5_writePlay_72 : decode cX5_writePlay 72 = .ok (.bipush 43, 2) := by decide +kernel
theorem dX5_writePlay_74 : decode cX5_writePlay 74 = .ok (.invokevirtual 306, 3) := by decide +kernel
theorem dX5_writePlay_77 : decode cX5_writePlay 77 = .ok (.aload_n 0, 1) := by decide +kernel
theorem dX5_writePlay_78 : decode cX5_writePlay 78 = .ok (.getfield 47, 3) := by decide +kernel
theorem dX5_writePlay_81 : decode cX5_writePlay 81 = .ok (.ireturn, 1) := by decide +kernel
theorem dX5_writeTune_0 : decode cX5_writeTune 0 = .ok (.aload_n 0, 1) := by decide +kernel
theorem dX5_writeTune_1 : decode cX5_writeTune 1 = .ok (.iconst 0, 1) := by decide +kernel
theorem dX5_writeTune_2 : decode cX5_writeTune 2 = .ok (.putfield 47, 3) := by decide +kernel
theorem dX5_writeTune_5 : decode cX5_writeTune 5 = .ok (.iconst 0, 1) := by decide +kernel
theorem dX5_writeTune_6 : decode cX5_writeTune 6 = .ok (.istore_n 1, 1) := by decide +kernel
theorem dX5_writeTune_7 : decode cX5_writeTune 7 = .ok (.iload_n 1, 1) := by decide +kernel
theorem dX5_writeTune_8 : decode cX5_writeTune 8 = .ok (.aload_n 0, 1) := by decide +kernel
theorem dX5_writeTune_9 : decode cX5_writeTune 9 = .ok (.getfield 10, 3) := by decide +kernel
theorem dX5_writeTune_12 : decode cX5_writeTune 12 = .ok (.getfield 101, 3) := by decide +kernel
theorem dX5_writeTune_15 : decode cX5_writeTune 15 = .ok (.if_icmp .ge 73, 3) := by decide +kernel
theorem dX5_writeTune_18 : decode cX5_writeTune 18 = .ok (.iload_n 1, 1) := by decide +kernel
theorem dX5_writeTune_19 : decode cX5_writeTune 19 = .ok (.ifCond .le 9, 3) := by decide +kernel
theorem dX5_writeTune_22 : decode cX5_writeTune 22 = .ok (.aload_n 0, 1) := by decide +kernel
theorem dX5_writeTune_23 : decode cX5_writeTune 23 = .ok (.bipush 32, 2) := by decide +kernel
theorem dX5_writeTune_25 : decode cX5_writeTune 25 = .ok (.invokevirtual 306, 3) := by decide +kernel
theorem dX5_writeTune_28 : decode cX5_writeTune 28 = .ok (.aload_n 0, 1) := by decide +kernel
theorem dX5_writeTune_29 : decode cX5_writeTune 29 = .ok (.getfield 10, 3) := by decide +kernel
theorem dX5_writeTune_32 : decode cX5_writeTune 32 = .ok (.getfield 242, 3) := by decide +kernel
theorem dX5_writeTune_35 : decode cX5_writeTune 35 = .ok (.iload_n 1, 1) := by decide +kernel
theorem dX5_writeTune_36 : decode cX5_writeTune 36 = .ok (.invokestatic 164, 3) := by decide +kernel
theorem dX5_writeTune_39 : decode cX5_writeTune 39 = .ok (.istore_n 2, 1) := by decide +kernel
theorem dX5_writeTune_40 : decode cX5_writeTune 40 = .ok (.iload_n 2, 1) := by decide +kernel
theorem dX5_writeTune_41 : decode cX5_writeTune 41 = .ok (.iconst (-1), 1) := by decide +kernel
theorem dX5_writeTune_42 : decode cX5_writeTune 42 = .ok (.if_icmp .ne 12, 3) := by decide +kernel
theorem dX5_writeTune_45 : decode cX5_writeTune 45 = .ok (.aload_n 0, 1) := by decide +kernel
theorem dX5_writeTune_46 : decode cX5_writeTune 46 = .ok (.bipush 114, 2) := by decide +kernel
theorem dX5_writeTune_48 : decode cX5_writeTune 48 = .ok (.invokevirtual 306, 3) := by decide +kernel
theorem dX5_writeTune_51 : decode cX5_writeTune 51 = .ok (.goto 31, 3) := by decide +kernel
theorem dX5_writeTune_54 : decode cX5_writeTune 54 = .ok (.iload_n 2, 1) := by decide +kernel
theorem dX5_writeTune_55 : decode cX5_writeTune 55 = .ok (.bipush 10, 2) := by decide +kernel
theorem dX5_writeTune_57 : decode cX5_writeTune 57 = .ok (.if_icmp .lt 14, 3) := by decide +kernel
theorem dX5_writeTune_60 : decode cX5_writeTune 60 = .ok (.aload_n 0, 1) := by decide +kernel
theorem dX5_writeTune_61 : decode cX5_writeTune 61 = .ok (.bipush 48, 2) := by decide +kernel
theorem dX5_writeTune_63 : decode cX5_writeTune 63 = .ok (.iload_n 2, 1) := by decide +kernel
theorem dX5_writeTune_64 : decode cX5_writeTune 64 = .ok (.bipush 10, 2) := by decide +kernel
theorem dX5_writeTune_66 : decode cX5_writeTune 66 = .ok (.idiv, 1) := by decide +kernel
theorem dX5_writeTune_67 : decode cX5_writeTune 67 = .ok (.iadd, 1) := by decide +kernel
theorem dX5_writeTune_68 : decode cX5_writeTune 68 = .ok (.invokevirtual 306, 3) := by decide +kernel
theorem dX5_writeTune_71 : decode cX5_writeTune 71 = .ok (.aload_n 0, 1) := by decide +kernel
theorem dX5_writeTune_72 : decode cX5_writeTune 72 = .ok (.bipush 48, 2) := by decide +kernel
theorem dX5_writeTune_74 : decode cX5_writeTune 74 = .ok (.iload_n 2, 1) := by decide +kernel
theorem dX5_writeTune_75 : decode cX5_writeTune 75 = .ok (.bipush 10, 2) := by decide +kernel
theorem dX5_writeTune_77 : decode cX5_writeTune 77 = .ok (.irem, 1) := by decide +kernel
theorem dX5_writeTune_78 : decode cX5_writeTune 78 = .ok (.iadd, 1) := by decide +kernel
theorem dX5_writeTune_79 : decode cX5_writeTune 79 = .ok (.invokevirtual 306, 3) := by decide +kernel
theorem dX5_writeTune_82 : decode cX5_writeTune 82 = .ok (.iinc 1 1, 3) := by decide +kernel
theorem dX5_writeTune_85 : decode cX5_writeTune 85 = .ok (.goto (-78), 3) := by decide +kernel
theorem dX5_writeTune_88 : decode cX5_writeTune 88 = .ok (.aload_n 0, 1) := by decide +kernel
theorem dX5_writeTune_89 : decode cX5_writeTune 89 = .ok (.getfield 47, 3) := by decide +kernel
theorem dX5_writeTune_92 : decode cX5_writeTune 92 = .ok (.ireturn, 1) := by decide +kernel
theorem dX5_outputByte_0 : decode cX5_outputByte 0 = .ok (.iload_n 1, 1) := by decide +kernel
theorem dX5_outputByte_1 : decode cX5_outputByte 1 = .ok (.ifCond .lt 22, 3) := by decide +kernel
theorem dX5_outputByte_4 : decode cX5_outputByte 4 = .ok (.iload_n 1, 1) := by decide +kernel
theorem dX5_outputByte_5 : decode cX5_outputByte 5 = .ok (.aload_n 0, 1) := by decide +kernel
theorem dX5_outputByte_6 : decode cX5_outputByte 6 = .ok (.getfield 47, 3) := by decide +kernel
theorem dX5_outputByte_9 : decode cX5_outputByte 9 = .ok (.if_icmp .ge 14, 3) := by decide +kernel
theorem dX5_outputByte_12 : decode cX5_outputByte 12 = .ok (.aload_n 0, 1) := by decide +kernel
theorem dX5_outputByte_13 : decode cX5_outputByte 13 = .ok (.getfield 44, 3) := by decide +kernel
theorem dX5_outputByte_16 : decode cX5_outputByte 16 = .ok (.iload_n 1, 1) := by decide +kernel
theorem dX5_outputByte_17 : decode cX5_outputByte 17 = .ok (.invokestatic 164, 3) := by decide +kernel
theorem dX5_outputByte_20 : decode cX5_outputByte 20 = .ok (.goto 4, 3) := by decide +kernel
theorem dX5_outputByte_23 : decode cX5_outputByte 23 = .ok (.iconst (-1), 1) := by decide +kernel
theorem dX5_outputByte_24 : decode cX5_outputByte 24 = .ok (.ireturn, 1) := by decide +kernel
theorem dX5_undo_0 : decode cX5_undo 0 = .ok (.aload_n 0, 1) := by decide +kernel
theorem dX5_undo_1 : decode cX5_undo 1 = .ok (.getfield 28, 3) := by decide +kernel
theorem dX5_undo_4 : decode cX5_undo 4 = .ok (.ifCond .ne 5, 3) := by decide +kernel
theorem dX5_undo_7 : decode cX5_undo 7 = .ok (.iconst (-1), 1) := by decide +kernel
theorem dX5_undo_8 : decode cX5_undo 8 = .ok (.ireturn, 1) := by decide +kernel
theorem dX5_undo_9 : decode cX5_undo 9 = .ok (.aload_n 0, 1) := by decide +kernel
theorem dX5_undo_10 : decode cX5_undo 10 = .ok (.dup, 1) := by decide +kernel
theorem dX5_undo_11 : decode cX5_undo 11 = .ok (.getfield 28, 3) := by decide +kernel
theorem dX5_undo_14 : decode cX5_undo 14 = .ok (.iconst 1, 1) := by decide +kernel
theorem dX5_undo_15 : decode cX5_undo 15 = .ok (.isub, 1) := by decide +kernel
theorem dX5_undo_16 : decode cX5_undo 16 = .ok (.putfield 28, 3) := by decide +kernel
theorem dX5_undo_19 : decode cX5_undo 19 = .ok (.aload_n 0, 1) := by decide +kernel
theorem dX5_undo_20 : decode cX5_undo 20 = .ok (.aload_n 0, 1) := by decide +kernel
theorem dX5_undo_21 : decode cX5_undo 21 = .ok (.getfield 24, 3) := by decide +kernel
theorem dX5_undo_24 : decode cX5_undo 24 = .ok (.bipush 8, 2) := by decide +kernel
theorem dX5_undo_26 : decode cX5_undo 26 = .ok (.iadd, 1) := by decide +kernel
theorem dX5_undo_27 : decode cX5_undo 27 = .ok (.iconst 1, 1) := by decide +kernel
theorem dX5_undo_28 : decode cX5_undo 28 = .ok (.isub, 1) := by decide +kernel
theorem dX5_undo_29 : decode cX5_undo 29 = .ok (.bipush 8, 2) := by decide +kernel
theorem dX5_undo_31 : decode cX5_undo 31 = .ok (.irem, 1) := by decide +kernel
theorem dX5_undo_32 : decode cX5_undo 32 = .ok (.putfield 24, 3) := by decide +kernel
theorem dX5_undo_35 : decode cX5_undo 35 = .ok (.aload_n 0, 1) := by decide +kernel
theorem dX5_undo_36 : decode cX5_undo 36 = .ok (.getfield 16, 3) := by decide +kernel
theorem dX5_undo_39 : decode cX5_undo 39 = .ok (.aload_n 0, 1) := by decide +kernel
theorem dX5_undo_40 : decode cX5_undo 40 = .ok (.getfield 24, 3) := by decide +kernel
theorem dX5_undo_43 : decode cX5_undo 43 = .ok (.invokestatic 309, 3) := by decide +kernel
theorem dX5_undo_46 : decode cX5_undo 46 = .ok (.astore_n 1, 1) := by decide +kernel
theorem dX5_undo_47 : decode cX5_undo 47 = .ok (.aload_n 1, 1) := by decide +kernel
theorem dX5_undo_48 : decode cX5_undo 48 = .ok (.ifnull 11, 3) := by decide +kernel
theorem dX5_undo_51 : decode cX5_undo 51 = .ok (.aload_n 0, 1) := by decide +kernel
theorem dX5_undo_52 : decode cX5_undo 52 = .ok (.getfield 10, 3) := by decide +kernel
theorem dX5_undo_55 : decode cX5_undo 55 = .ok (.aload_n 1, 1) := by decide +kernel
theorem dX5_undo_56 : decode cX5_undo 56 = .ok (.invokevirtual 313, 3) := by decide +kernel
theorem dX5_undo_59 : decode cX5_undo 59 = .ok (.aload_n 0, 1) := by decide +kernel
theorem dX5_undo_60 : decode cX5_undo 60 = .ok (.aload_n 0, 1) := by decide +kernel
theorem dX5_undo_61 : decode cX5_undo 61 = .ok (.getfield 77, 3) := by decide +kernel
theorem dX5_undo_64 : decode cX5_undo 64 = .ok (.aload_n 0, 1) := by decide +kernel
theorem dX5_undo_65 : decode cX5_undo 65 = .ok (.getfield 20, 3) := by decide +kernel
theorem dX5_undo_68 : decode cX5_undo 68 = .ok (.aload_n 0, 1) := by decide +kernel
theorem dX5_undo_69 : decode cX5_undo 69 = .ok (.getfield 24, 3) := by decide +kernel
theorem dX5_undo_72 : decode cX5_undo 72 = .ok (.invokestatic 164, 3) := by decide +kernel
theorem dX5_undo_75 : decode cX5_undo 75 = .ok (.invokestatic 316, 3) := by decide +kernel
theorem dX5_undo_78 : decode cX5_undo 78 = .ok (.putfield 77, 3) := by decide +kernel
theorem dX5_undo_81 : decode cX5_undo 81 = .ok (.aload_n 0, 1) := by decide +kernel
theorem dX5_undo_82 : decode cX5_undo 82 = .ok (.getfield 28, 3) := by decide +kernel
theorem dX5_undo_85 : decode cX5_undo 85 = .ok (.ireturn, 1) := by decide +kernel
theorem dX5_saveSnapshot_0 : decode cX5_saveSnapshot 0 = .ok (.aload_n 0, 1) := by decide +kernel
theorem dX5_saveSnapshot_1 : decode cX5_saveSnapshot 1 = .ok (.iload_n 1, 1) := by decide +kernel
theorem dX5_saveSnapshot_2 : decode cX5_saveSnapshot 2 = .ok (.iconst 0, 1) := by decide +kernel
theorem dX5_saveSnapshot_3 : decode cX5_saveSnapshot 3 = .ok (.iconst 1, 1) := by decide +kernel
theorem dX5_saveSnapshot_4 : decode cX5_saveSnapshot 4 = .ok (.invokevirtual 110, 3) := by decide +kernel
theorem dX5_saveSnapshot_7 : decode cX5_saveSnapshot 7 = .ok (.aload_n 0, 1) := by decide +kernel
theorem dX5_saveSnapshot_8 : decode cX5_saveSnapshot 8 = .ok (.getfield 31, 3) := by decide +kernel
theorem dX5_saveSnapshot_11 : decode cX5_saveSnapshot 11 = .ok (.iload_n 1, 1) := by decide +kernel
theorem dX5_saveSnapshot_12 : decode cX5_saveSnapshot 12 = .ok (.invokestatic 309, 3) := by decide +kernel
theorem dX5_saveSnapshot_15 : decode cX5_saveSnapshot 15 = .ok (.astore_n 2, 1) := by decide +kernel
theorem dX5_saveSnapshot_16 : decode cX5_saveSnapshot 16 = .ok (.aload_n 2, 1) := by decide +kernel
theorem dX5_saveSnapshot_17 : decode cX5_saveSnapshot 17 = .ok (.ifnull 20, 3) := by decide +kernel
theorem dX5_saveSnapshot_20 : decode cX5_saveSnapshot 20 = .ok (.aload_n 2, 1) := by decide +kernel
theorem dX5_saveSnapshot_21 : decode cX5_saveSnapshot 21 = .ok (.aload_n 0, 1) := by decide +kernel
theorem dX5_saveSnapshot_22 : decode cX5_saveSnapshot 22 = .ok (.getfield 10, 3) := by decide +kernel
theorem dX5_saveSnapshot_25 : decode cX5_saveSnapshot 25 = .ok (.invokevirtual 313, 3) := by decide +kernel
theorem dX5_saveSnapshot_28 : decode cX5_saveSnapshot 28 = .ok (.aload_n 0, 1) := by decide +kernel
theorem dX5_saveSnapshot_29 : decode cX5_saveSnapshot 29 = .ok (.getfield 34, 3) := by decide +kernel
theorem dX5_saveSnapshot_32 : decode cX5_saveSnapshot 32 = .ok (.iload_n 1, 1) := by decide +kernel
theorem dX5_saveSnapshot_33 : decode cX5_saveSnapshot 33 = .ok (.iconst 1, 1) := by decide +kernel
theorem dX5_saveSnapshot_34 : decode cX5_saveSnapshot 34 = .ok (.invokestatic 283, 3) := by decide +kernel
theorem dX5_saveSnapshot_37 : decode cX5_saveSnapshot 37 = .ok (.aload_n 0, 1) := by decide +kernel
theorem dX5_saveSnapshot_38 : decode cX5_saveSnapshot 38 = .ok (.getfield 10, 3) := by decide +kernel
theorem dX5_saveSnapshot_41 : decode cX5_saveSnapshot 41 = .ok (.getfield 101, 3) := by decide +kernel
theorem dX5_saveSnapshot_44 : decode cX5_saveSnapshot 44 = .ok (.ireturn, 1) := by decide +kernel
theorem dX5_restoreSnapshot_0 : decode cX5_restoreSnapshot 0 = .ok (.aload_n 0, 1) := by decide +kernel
theorem dX5_restoreSnapshot_1 : decode cX5_restoreSnapshot 1 = .ok (.iload_n 1, 1) := by decide +kernel
theorem dX5_restoreSnapshot_2 : decode cX5_restoreSnapshot 2 = .ok (.iconst 0, 1) := by decide +kernel
theorem dX5_restoreSnapshot_3 : decode cX5_restoreSnapshot 3 = .ok (.iconst 1, 1) := by decide +kernel
theorem dX5_restoreSnapshot_4 : decode cX5_restoreSnapshot 4 = .ok (.invokevirtual 110, 3) := by decide +kernel
theorem dX5_restoreSnapshot_7 : decode cX5_restoreSnapshot 7 = .ok (.aload_n 0, 1) := by decide +kernel
theorem dX5_restoreSnapshot_8 : decode cX5_restoreSnapshot 8 = .ok (.getfield 31, 3) := by decide +kernel
theorem dX5_restoreSnapshot_11 : decode cX5_restoreSnapshot 11 = .ok (.iload_n 1, 1) := by decide +kernel
theorem dX5_restoreSnapshot_12 : decode cX5_restoreSnapshot 12 = .ok (.invokestatic 309, 3) := by decide +kernel
theorem dX5_restoreSnapshot_15 : decode cX5_restoreSnapshot 15 = .ok (.astore_n 2, 1) := by decide +kernel
theorem dX5_restoreSnapshot_16 : decode cX5_restoreSnapshot 16 = .ok (.aload_n 2, 1) := by decide +kernel
theorem dX5_restoreSnapshot_17 : decode cX5_restoreSnapshot 17 = .ok (.ifnull 14, 3) := by decide +kernel
theorem dX5_restoreSnapshot_20 : decode cX5_restoreSnapshot 20 = .ok (.aload_n 0, 1) := by decide +kernel
theorem dX5_restoreSnapshot_21 : decode cX5_restoreSnapshot 21 = .ok (.getfield 34, 3) := by decide +kernel
theorem dX5_restoreSnapshot_24 : decode cX5_restoreSnapshot 24 = .ok (.iload_n 1, 1) := by decide +kernel
theorem dX5_restoreSnapshot_25 : decode cX5_restoreSnapshot 25 = .ok (.invokestatic 164, 3) := by decide +kernel
theorem dX5_restoreSnapshot_28 : decode cX5_restoreSnapshot 28 = .ok (.ifCond .ne 5, 3) := by decide +kernel
theorem dX5_restoreSnapshot_31 : decode cX5_restoreSnapshot 31 = .ok (.iconst (-1), 1) := by decide +kernel
theorem dX5_restoreSnapshot_32 : decode cX5_restoreSnapshot 32 = .ok (.ireturn, 1) := by decide +kernel
theorem dX5_restoreSnapshot_33 : decode cX5_restoreSnapshot 33 = .ok (.aload_n 0, 1) := by decide +kernel
theorem dX5_restoreSnapshot_34 : decode cX5_restoreSnapshot 34 = .ok (.aload_n 2, 1) := by decide +kernel
theorem dX5_restoreSnapshot_35 : decode cX5_restoreSnapshot 35 = .ok (.invokevirtual 97, 3) := by decide +kernel
theorem dX5_restoreSnapshot_38 : decode cX5_restoreSnapshot 38 = .ok (.aload_n 0, 1) := by decide +kernel
theorem dX5_restoreSnapshot_39 : decode cX5_restoreSnapshot 39 = .ok (.getfield 10, 3) := by decide +kernel
theorem dX5_restoreSnapshot_42 : decode cX5_restoreSnapshot 42 = .ok (.getfield 101, 3) := by decide +kernel
theorem dX5_restoreSnapshot_45 : decode cX5_restoreSnapshot 45 = .ok (.ireturn, 1) := by decide +kernel
theorem dX5_needRange_0 : decode cX5_needRange 0 = .ok (.iload_n 1, 1) := by decide +kernel
theorem dX5_needRange_1 : decode cX5_needRange 1 = .ok (.iload_n 2, 1) := by decide +kernel
theorem dX5_needRange_2 : decode cX5_needRange 2 = .ok (.if_icmp .lt 8, 3) := by decide +kernel
theorem dX5_needRange_5 : decode cX5_needRange 5 = .ok (.iload_n 1, 1) := by decide +kernel
theorem dX5_needRange_6 : decode cX5_needRange 6 = .ok (.iload_n 3, 1) := by decide +kernel
theorem dX5_needRange_7 : decode cX5_needRange 7 = .ok (.if_icmp .le 11, 3) := by decide +kernel
theorem dX5_needRange_10 : decode cX5_needRange 10 = .ok (.new 287, 3) := by decide +kernel
theorem dX5_needRange_13 : decode cX5_needRange 13 = .ok (.dup, 1) := by decide +kernel
theorem dX5_needRange_14 : decode cX5_needRange 14 = .ok (.invokespecial 289, 3) := by decide +kernel
theorem dX5_needRange_17 : decode cX5_needRange 17 = .ok (.athrow, 1) := by decide +kernel
theorem dX5_needRange_18 : decode cX5_needRange 18 = .ok (.return_, 1) := by decide +kernel
theorem dX5_needTone_0 : decode cX5_needTone 0 = .ok (.aload_n 0, 1) := by decide +kernel
theorem dX5_needTone_1 : decode cX5_needTone 1 = .ok (.iload_n 1, 1) := by decide +kernel
theorem dX5_needTone_2 : decode cX5_needTone 2 = .ok (.iconst 0, 1) := by decide +kernel
theorem dX5_needTone_3 : decode cX5_needTone 3 = .ok (.bipush 24, 2) := by decide +kernel
theorem dX5_needTone_5 : decode cX5_needTone 5 = .ok (.invokevirtual 110, 3) := by decide +kernel
theorem dX5_needTone_8 : decode cX5_needTone 8 = .ok (.return_, 1) := by decide +kernel
theorem dX5_needLimits_0 : decode cX5_needLimits 0 = .ok (.aload_n 0, 1) := by decide +kernel
theorem dX5_needLimits_1 : decode cX5_needLimits 1 = .ok (.iload_n 1, 1) := by decide +kernel
theorem dX5_needLimits_2 : decode cX5_needLimits 2 = .ok (.iconst 0, 1) := by decide +kernel
theorem dX5_needLimits_3 : decode cX5_needLimits 3 = .ok (.iconst 2, 1) := by decide +kernel
theorem dX5_needLimits_4 : decode cX5_needLimits 4 = .ok (.invokevirtual 110, 3) := by decide +kernel
theorem dX5_needLimits_7 : decode cX5_needLimits 7 = .ok (.aload_n 0, 1) := by decide +kernel
theorem dX5_needLimits_8 : decode cX5_needLimits 8 = .ok (.iload_n 2, 1) := by decide +kernel
theorem dX5_needLimits_9 : decode cX5_needLimits 9 = .ok (.iconst 0, 1) := by decide +kernel
theorem dX5_needLimits_10 : decode cX5_needLimits 10 = .ok (.iconst 3, 1) := by decide +kernel
theorem dX5_needLimits_11 : decode cX5_needLimits 11 = .ok (.invokevirtual 110, 3) := by decide +kernel
theorem dX5_needLimits_14 : decode cX5_needLimits 14 = .ok (.return_, 1) := by decide +kernel
theorem dX5_needIndex_0 : decode cX5_needIndex 0 = .ok (.iload_n 1, 1) := by decide +kernel
theorem dX5_needIndex_1 : decode cX5_needIndex 1 = .ok (.ifCond .lt 8, 3) := by decide +kernel
theorem dX5_needIndex_4 : decode cX5_needIndex 4 = .ok (.iload_n 1, 1) := by decide +kernel
theorem dX5_needIndex_5 : decode cX5_needIndex 5 = .ok (.iload_n 2, 1) := by decide +kernel
theorem dX5_needIndex_6 : decode cX5_needIndex 6 = .ok (.if_icmp .lt 11, 3) := by decide +kernel
theorem dX5_needIndex_9 : decode cX5_needIndex 9 = .ok (.new 319, 3) := by decide +kernel
theorem dX5_needIndex_12 : decode cX5_needIndex 12 = .ok (.dup, 1) := by decide +kernel
theorem dX5_needIndex_13 : decode cX5_needIndex 13 = .ok (.invokespecial 321, 3) := by decide +kernel
theorem dX5_needIndex_16 : decode cX5_needIndex 16 = .ok (.athrow, 1) := by decide +kernel
theorem dX5_needIndex_17 : decode cX5_needIndex 17 = .ok (.return_, 1) := by decide +kernel
theorem dX5_needPlay_0 : decode cX5_needPlay 0 = .ok (.aload_n 0, 1) := by decide +kernel
theorem dX5_needPlay_1 : decode cX5_needPlay 1 = .ok (.iload_n 1, 1) := by decide +kernel
theorem dX5_needPlay_2 : decode cX5_needPlay 2 = .ok (.aload_n 0, 1) := by decide +kernel
theorem dX5_needPlay_3 : decode cX5_needPlay 3 = .ok (.getfield 10, 3) := by decide +kernel
theorem dX5_needPlay_6 : decode cX5_needPlay 6 = .ok (.invokevirtual 145, 3) := by decide +kernel
theorem dX5_needPlay_9 : decode cX5_needPlay 9 = .ok (.invokevirtual 322, 3) := by decide +kernel
theorem dX5_needPlay_12 : decode cX5_needPlay 12 = .ok (.return_, 1) := by decide +kernel
theorem dX5_needHole_0 : decode cX5_needHole 0 = .ok (.aload_n 0, 1) := by decide +kernel
theorem dX5_needHole_1 : decode cX5_needHole 1 = .ok (.iload_n 1, 1) := by decide +kernel
theorem dX5_needHole_2 : decode cX5_needHole 2 = .ok (.aload_n 0, 1) := by decide +kernel
theorem dX5_needHole_3 : decode cX5_needHole 3 = .ok (.getfield 10, 3) := by decide +kernel
theorem dX5_needHole_6 : decode cX5_needHole 6 = .ok (.getfield 123, 3) := by decide +kernel
theorem dX5_needHole_9 : decode cX5_needHole 9 = .ok (.invokevirtual 322, 3) := by decide +kernel
theorem dX5_needHole_12 : decode cX5_needHole 12 = .ok (.return_, 1) := by decide +kernel
theorem dX5_needNote_0 : decode cX5_needNote 0 = .ok (.aload_n 0, 1) := by decide +kernel
theorem dX5_needNote_1 : decode cX5_needNote 1 = .ok (.iload_n 1, 1) := by decide +kernel
theorem dX5_needNote_2 : decode cX5_needNote 2 = .ok (.aload_n 0, 1) := by decide +kernel
theorem dX5_needNote_3 : decode cX5_needNote 3 = .ok (.getfield 10, 3) := by decide +kernel
theorem dX5_needNote_6 : decode cX5_needNote 6 = .ok (.getfield 101, 3) := by decide +kernel
theorem dX5_needNote_9 : decode cX5_needNote 9 = .ok (.invokevirtual 322, 3) := by decide +kernel
theorem dX5_needNote_12 : decode cX5_needNote 12 = .ok (.return_, 1) := by decide +kernel
theorem dX5_remember_0 : decode cX5_remember 0 = .ok (.aload_n 0, 1) := by decide +kernel
theorem dX5_remember_1 : decode cX5_remember 1 = .ok (.getfield 16, 3) := by decide +kernel
theorem dX5_remember_4 : decode cX5_remember 4 = .ok (.aload_n 0, 1) := by decide +kernel
theorem dX5_remember_5 : decode cX5_remember 5 = .ok (.getfield 24, 3) := by decide +kernel
theorem dX5_remember_8 : decode cX5_remember 8 = .ok (.invokestatic 309, 3) := by decide +kernel
theorem dX5_remember_11 : decode cX5_remember 11 = .ok (.astore_n 2, 1) := by decide +kernel
theorem dX5_remember_12 : decode cX5_remember 12 = .ok (.aload_n 2, 1) := by decide +kernel
theorem dX5_remember_13 : decode cX5_remember 13 = .ok (.ifnull 11, 3) := by decide +kernel
theorem dX5_remember_16 : decode cX5_remember 16 = .ok (.aload_n 2, 1) := by decide +kernel
theorem dX5_remember_17 : decode cX5_remember 17 = .ok (.aload_n 0, 1) := by decide +kernel
theorem dX5_remember_18 : decode cX5_remember 18 = .ok (.getfield 10, 3) := by decide +kernel
theorem dX5_remember_21 : decode cX5_remember 21 = .ok (.invokevirtual 313, 3) := by decide +kernel
theorem dX5_remember_24 : decode cX5_remember 24 = .ok (.aload_n 0, 1) := by decide +kernel
theorem dX5_remember_25 : decode cX5_remember 25 = .ok (.getfield 20, 3) := by decide +kernel
theorem dX5_remember_28 : decode cX5_remember 28 = .ok (.aload_n 0, 1) := by decide +kernel
theorem dX5_remember_29 : decode cX5_remember 29 = .ok (.getfield 24, 3) := by decide +kernel
theorem dX5_remember_32 : decode cX5_remember 32 = .ok (.iload_n 1, 1) := by decide +kernel
theorem dX5_remember_33 : decode cX5_remember 33 = .ok (.invokestatic 283, 3) := by decide +kernel
theorem dX5_remember_36 : decode cX5_remember 36 = .ok (.aload_n 0, 1) := by decide +kernel
theorem dX5_remember_37 : decode cX5_remember 37 = .ok (.aload_n 0, 1) := by decide +kernel
theorem dX5_remember_38 : decode cX5_remember 38 = .ok (.getfield 24, 3) := by decide +kernel
theorem dX5_remember_41 : decode cX5_remember 41 = .ok (.iconst 1, 1) := by decide +kernel
theorem dX5_remember_42 : decode cX5_remember 42 = .ok (.iadd, 1) := by decide +kernel
theorem dX5_remember_43 : decode cX5_remember 43 = .ok (.bipush 8, 2) := by decide +kernel
theorem dX5_remember_45 : decode cX5_remember 45 = .ok (.irem, 1) := by decide +kernel
theorem dX5_remember_46 : decode cX5_remember 46 = .ok (.putfield 24, 3) := by decide +kernel
theorem dX5_remember_49 : decode cX5_remember 49 = .ok (.aload_n 0, 1) := by decide +kernel
theorem dX5_remember_50 : decode cX5_remember 50 = .ok (.aload_n 0, 1) := by decide +kernel
theorem dX5_remember_51 : decode cX5_remember 51 = .ok (.getfield 28, 3) := by decide +kernel
theorem dX5_remember_54 : decode cX5_remember 54 = .ok (.iconst 1, 1) := by decide +kernel
theorem dX5_remember_55 : decode cX5_remember 55 = .ok (.iadd, 1) := by decide +kernel
theorem dX5_remember_56 : decode cX5_remember 56 = .ok (.bipush 8, 2) := by decide +kernel
theorem dX5_remember_58 : decode cX5_remember 58 = .ok (.invokestatic 316, 3) := by decide +kernel
theorem dX5_remember_61 : decode cX5_remember 61 = .ok (.putfield 28, 3) := by decide +kernel
theorem dX5_remember_64 : decode cX5_remember 64 = .ok (.aload_n 0, 1) := by decide +kernel
theorem dX5_remember_65 : decode cX5_remember 65 = .ok (.aload_n 0, 1) := by decide +kernel
theorem dX5_remember_66 : decode cX5_remember 66 = .ok (.getfield 77, 3) := by decide +kernel
theorem dX5_remember_69 : decode cX5_remember 69 = .ok (.iload_n 1, 1) := by decide +kernel
theorem dX5_remember_70 : decode cX5_remember 70 = .ok (.invokestatic 316, 3) := by decide +kernel
theorem dX5_remember_73 : decode cX5_remember 73 = .ok (.putfield 77, 3) := by decide +kernel
theorem dX5_remember_76 : decode cX5_remember 76 = .ok (.return_, 1) := by decide +kernel
theorem dX5_replaceAll_0 : decode cX5_replaceAll 0 = .ok (.aload_n 0, 1) := by decide +kernel
theorem dX5_replaceAll_1 : decode cX5_replaceAll 1 = .ok (.getfield 10, 3) := by decide +kernel
theorem dX5_replaceAll_4 : decode cX5_replaceAll 4 = .ok (.aload_n 1, 1) := by decide +kernel
theorem dX5_replaceAll_5 : decode cX5_replaceAll 5 = .ok (.invokevirtual 313, 3) := by decide +kernel
theorem dX5_replaceAll_8 : decode cX5_replaceAll 8 = .ok (.aload_n 0, 1) := by decide +kernel
theorem dX5_replaceAll_9 : decode cX5_replaceAll 9 = .ok (.iconst 0, 1) := by decide +kernel
theorem dX5_replaceAll_10 : decode cX5_replaceAll 10 = .ok (.putfield 28, 3) := by decide +kernel
theorem dX5_replaceAll_13 : decode cX5_replaceAll 13 = .ok (.aload_n 0, 1) := by decide +kernel
theorem dX5_replaceAll_14 : decode cX5_replaceAll 14 = .ok (.iconst 0, 1) := by decide +kernel
theorem dX5_replaceAll_15 : decode cX5_replaceAll 15 = .ok (.putfield 77, 3) := by decide +kernel
theorem dX5_replaceAll_18 : decode cX5_replaceAll 18 = .ok (.return_, 1) := by decide +kernel
theorem dX5_freshen_0 : decode cX5_freshen 0 = .ok (.iload_n 1, 1) := by decide +kernel
theorem dX5_freshen_1 : decode cX5_freshen 1 = .ok (.iconst 1, 1) := by decide +kernel
theorem dX5_freshen_2 : decode cX5_freshen 2 = .ok (.if_icmp .lt 27, 3) := by decide +kernel
theorem dX5_freshen_5 : decode cX5_freshen 5 = .ok (.aload_n 0, 1) := by decide +kernel
theorem dX5_freshen_6 : decode cX5_freshen 6 = .ok (.getfield 77, 3) := by decide +kernel
theorem dX5_freshen_9 : decode cX5_freshen 9 = .ok (.iconst 1, 1) := by decide +kernel
theorem dX5_freshen_10 : decode cX5_freshen 10 = .ok (.if_icmp .ge 19, 3) := by decide +kernel
theorem dX5_freshen_13 : decode cX5_freshen 13 = .ok (.aload_n 0, 1) := by decide +kernel
theorem dX5_freshen_14 : decode cX5_freshen 14 = .ok (.getfield 53, 3) := by decide +kernel
theorem dX5_freshen_17 : decode cX5_freshen 17 = .ok (.aload_n 0, 1) := by decide +kernel
theorem dX5_freshen_18 : decode cX5_freshen 18 = .ok (.getfield 10, 3) := by decide +kernel
theorem dX5_freshen_21 : decode cX5_freshen 21 = .ok (.invokevirtual 325, 3) := by decide +kernel
theorem dX5_freshen_24 : decode cX5_freshen 24 = .ok (.aload_n 0, 1) := by decide +kernel
theorem dX5_freshen_25 : decode cX5_freshen 25 = .ok (.iconst 1, 1) := by decide +kernel
theorem dX5_freshen_26 : decode cX5_freshen 26 = .ok (.putfield 77, 3) := by decide +kernel
theorem dX5_freshen_29 : decode cX5_freshen 29 = .ok (.iload_n 1, 1) := by decide +kernel
theorem dX5_freshen_30 : decode cX5_freshen 30 = .ok (.iconst 2, 1) := by decide +kernel
theorem dX5_freshen_31 : decode cX5_freshen 31 = .ok (.if_icmp .lt 48, 3) := by decide +kernel
theorem dX5_freshen_34 : decode cX5_freshen 34 = .ok (.aload_n 0, 1) := by decide +kernel
theorem dX5_freshen_35 : decode cX5_freshen 35 = .ok (.getfield 77, 3) := by decide +kernel
theorem dX5_freshen_38 : decode cX5_freshen 38 = .ok (.iconst 2, 1) := by decide +kernel
theorem dX5_freshen_39 : decode cX5_freshen 39 = .ok (.if_icmp .ge 40, 3) := by decide +kernel
theorem dX5_freshen_42 : decode cX5_freshen 42 = .ok (.aload_n 0, 1) := by decide +kernel
theorem dX5_freshen_43 : decode cX5_freshen 43 = .ok (.getfield 60, 3) := by decide +kernel
theorem dX5_freshen_46 : decode cX5_freshen 46 = .ok (.aload_n 0, 1) := by decide +kernel
theorem dX5_freshen_47 : decode cX5_freshen 47 = .ok (.getfield 53, 3) := by decide +kernel
theorem dX5_freshen_50 : decode cX5_freshen 50 = .ok (.aload_n 0, 1) := by decide +kernel
theorem dX5_freshen_51 : decode cX5_freshen 51 = .ok (.getfield 10, 3) := by decide +kernel
theorem dX5_freshen_54 : decode cX5_freshen 54 = .ok (.getfield 120, 3) := by decide +kernel
theorem dX5_freshen_57 : decode cX5_freshen 57 = .ok (.aload_n 0, 1) := by decide +kernel
theorem dX5_freshen_58 : decode cX5_freshen 58 = .ok (.getfield 10, 3) := by decide +kernel
theorem dX5_freshen_61 : decode cX5_freshen 61 = .ok (.getfield 126, 3) := by decide +kernel
theorem dX5_freshen_64 : decode cX5_freshen 64 = .ok (.aload_n 0, 1) := by decide +kernel
theorem dX5_freshen_65 : decode cX5_freshen 65 = .ok (.getfield 10, 3) := by decide +kernel
theorem dX5_freshen_68 : decode cX5_freshen 68 = .ok (.getfield 129, 3) := by decide +kernel
theorem dX5_freshen_71 : decode cX5_freshen 71 = .ok (.invokevirtual 272, 3) := by decide +kernel
theorem dX5_freshen_74 : decode cX5_freshen 74 = .ok (.aload_n 0, 1) := by decide +kernel
theorem dX5_freshen_75 : decode cX5_freshen 75 = .ok (.iconst 2, 1) := by decide +kernel
theorem dX5_freshen_76 : decode cX5_freshen 76 = .ok (.putfield 77, 3) := by decide +kernel
theorem dX5_freshen_79 : decode cX5_freshen 79 = .ok (.iload_n 1, 1) := by decide +kernel
theorem dX5_freshen_80 : decode cX5_freshen 80 = .ok (.iconst 3, 1) := by decide +kernel
theorem dX5_freshen_81 : decode cX5_freshen 81 = .ok (.if_icmp .lt 32, 3) := by decide +kernel
theorem dX5_freshen_84 : decode cX5_freshen 84 = .ok (.aload_n 0, 1) := by decide +kernel
theorem dX5_freshen_85 : decode cX5_freshen 85 = .ok (.getfield 77, 3) := by decide +kernel
theorem dX5_freshen_88 : decode cX5_freshen 88 = .ok (.iconst 3, 1) := by decide +kernel
theorem dX5_freshen_89 : decode cX5_freshen 89 = .ok (.if_icmp .ge 24, 3) := by decide +kernel
theorem dX5_freshen_92 : decode cX5_freshen 92 = .ok (.aload_n 0, 1) := by decide +kernel
theorem dX5_freshen_93 : decode cX5_freshen 93 = .ok (.getfield 70, 3) := by decide +kernel
theorem dX5_freshen_96 : decode cX5_freshen 96 = .ok (.aload_n 0, 1) := by decide +kernel
theorem dX5_freshen_97 : decode cX5_freshen 97 = .ok (.getfield 10, 3) := by decide +kernel
theorem dX5_freshen_100 : decode cX5_freshen 100 = .ok (.aload_n 0, 1) := by decide +kernel
theorem dX5_freshen_101 : decode cX5_freshen 101 = .ok (.getfield 60, 3) := by decide +kernel
theorem dX5_freshen_104 : decode cX5_freshen 104 = .ok (.iconst 0, 1) := by decide +kernel
theorem dX5_freshen_105 : decode cX5_freshen 105 = .ok (.invokevirtual 328, 3) := by decide +kernel
theorem dX5_freshen_108 : decode cX5_freshen 108 = .ok (.aload_n 0, 1) := by decide +kernel
theorem dX5_freshen_109 : decode cX5_freshen 109 = .ok (.iconst 3, 1) := by decide +kernel
theorem dX5_freshen_110 : decode cX5_freshen 110 = .ok (.putfield 77, 3) := by decide +kernel
theorem dX5_freshen_113 : decode cX5_freshen 113 = .ok (.return_, 1) := by decide +kernel
theorem dX5_changeCost_0 : decode cX5_changeCost 0 = .ok (.aload_n 0, 1) := by decide +kernel
theorem dX5_changeCost_1 : decode cX5_changeCost 1 = .ok (.getfield 10, 3) := by decide +kernel
theorem dX5_changeCost_4 : decode cX5_changeCost 4 = .ok (.aload_n 0, 1) := by decide +kernel
theorem dX5_changeCost_5 : decode cX5_changeCost 5 = .ok (.getfield 53, 3) := by decide +kernel
theorem dX5_changeCost_8 : decode cX5_changeCost 8 = .ok (.iload_n 1, 1) := by decide +kernel
theorem dX5_changeCost_9 : decode cX5_changeCost 9 = .ok (.invokevirtual 222, 3) := by decide +kernel
theorem dX5_changeCost_12 : decode cX5_changeCost 12 = .ok (.aload_n 0, 1) := by decide +kernel
theorem dX5_changeCost_13 : decode cX5_changeCost 13 = .ok (.getfield 53, 3) := by decide +kernel
theorem dX5_changeCost_16 : decode cX5_changeCost 16 = .ok (.iload_n 2, 1) := by decide +kernel
theorem dX5_changeCost_17 : decode cX5_changeCost 17 = .ok (.invokevirtual 222, 3) := by decide +kernel
theorem dX5_changeCost_20 : decode cX5_changeCost 20 = .ok (.invokevirtual 236, 3) := by decide +kernel
theorem dX5_changeCost_23 : decode cX5_changeCost 23 = .ok (.ireturn, 1) := by decide +kernel
theorem dX5_turnTo_0 : decode cX5_turnTo 0 = .ok (.aload_n 0, 1) := by decide +kernel
theorem dX5_turnTo_1 : decode cX5_turnTo 1 = .ok (.getfield 10, 3) := by decide +kernel
theorem dX5_turnTo_4 : decode cX5_turnTo 4 = .ok (.dup, 1) := by decide +kernel
theorem dX5_turnTo_5 : decode cX5_turnTo 5 = .ok (.getfield 151, 3) := by decide +kernel
theorem dX5_turnTo_8 : decode cX5_turnTo 8 = .ok (.aload_n 0, 1) := by decide +kernel
theorem dX5_turnTo_9 : decode cX5_turnTo 9 = .ok (.aload_n 0, 1) := by decide +kernel
theorem dX5_turnTo_10 : decode cX5_turnTo 10 = .ok (.getfield 10, 3) := by decide +kernel
theorem dX5_turnTo_13 : decode cX5_turnTo 13 = .ok (.getfield 148, 3) := by decide +kernel
theorem dX5_turnTo_16 : decode cX5_turnTo 16 = .ok (.iload_n 1, 1) := by decide +kernel
theorem dX5_turnTo_17 : decode cX5_turnTo 17 = .ok (.invokevirtual 219, 3) := by decide +kernel
theorem dX5_turnTo_20 : decode cX5_turnTo 20 = .ok (.iadd, 1) := by decide +kernel
theorem dX5_turnTo_21 : decode cX5_turnTo 21 = .ok (.putfield 151, 3) := by decide +kernel
theorem dX5_turnTo_24 : decode cX5_turnTo 24 = .ok (.aload_n 0, 1) := by decide +kernel
theorem dX5_turnTo_25 : decode cX5_turnTo 25 = .ok (.getfield 10, 3) := by decide +kernel
theorem dX5_turnTo_28 : decode cX5_turnTo 28 = .ok (.iload_n 1, 1) := by decide +kernel
theorem dX5_turnTo_29 : decode cX5_turnTo 29 = .ok (.putfield 148, 3) := by decide +kernel
theorem dX5_turnTo_32 : decode cX5_turnTo 32 = .ok (.return_, 1) := by decide +kernel
theorem dX5_otherCost_0 : decode cX5_otherCost 0 = .ok (.aload_n 1, 1) := by decide +kernel
theorem dX5_otherCost_1 : decode cX5_otherCost 1 = .ok (.aload_n 0, 1) := by decide +kernel
theorem dX5_otherCost_2 : decode cX5_otherCost 2 = .ok (.getfield 10, 3) := by decide +kernel
theorem dX5_otherCost_5 : decode cX5_otherCost 5 = .ok (.iconst 0, 1) := by decide +kernel
theorem dX5_otherCost_6 : decode cX5_otherCost 6 = .ok (.iload_n 2, 1) := by decide +kernel
theorem dX5_otherCost_7 : decode cX5_otherCost 7 = .ok (.invokevirtual 245, 3) := by decide +kernel
theorem dX5_otherCost_10 : decode cX5_otherCost 10 = .ok (.iconst (-1), 1) := by decide +kernel
theorem dX5_otherCost_11 : decode cX5_otherCost 11 = .ok (.if_icmp .eq 5, 3) := by decide +kernel
theorem dX5_otherCost_14 : decode cX5_otherCost 14 = .ok (.iconst (-1), 1) := by decide +kernel
theorem dX5_otherCost_15 : decode cX5_otherCost 15 = .ok (.ireturn, 1) := by decide +kernel
theorem dX5_otherCost_16 : decode cX5_otherCost 16 = .ok (.aload_n 0, 1) := by decide +kernel
theorem dX5_otherCost_17 : decode cX5_otherCost 17 = .ok (.getfield 74, 3) := by decide +kernel
theorem dX5_otherCost_20 : decode cX5_otherCost 20 = .ok (.aload_n 0, 1) := by decide +kernel
theorem dX5_otherCost_21 : decode cX5_otherCost 21 = .ok (.getfield 10, 3) := by decide +kernel
theorem dX5_otherCost_24 : decode cX5_otherCost 24 = .ok (.aload_n 1, 1) := by decide +kernel
theorem dX5_otherCost_25 : decode cX5_otherCost 25 = .ok (.iload_n 2, 1) := by decide +kernel
theorem dX5_otherCost_26 : decode cX5_otherCost 26 = .ok (.invokevirtual 328, 3) := by decide +kernel
theorem dX5_otherCost_29 : decode cX5_otherCost 29 = .ok (.aload_n 0, 1) := by decide +kernel
theorem dX5_otherCost_30 : decode cX5_otherCost 30 = .ok (.getfield 74, 3) := by decide +kernel
theorem dX5_otherCost_33 : decode cX5_otherCost 33 = .ok (.getfield 249, 3) := by decide +kernel
theorem dX5_otherCost_36 : decode cX5_otherCost 36 = .ok (.ireturn, 1) := by decide +kernel
theorem dX5_isPlayableWithin_0 : decode cX5_isPlayableWithin 0 = .ok (.iconst 0, 1) := by decide +kernel
theorem dX5_isPlayableWithin_1 : decode cX5_isPlayableWithin 1 = .ok (.istore_n 3, 1) := by decide +kernel
theorem dX5_isPlayableWithin_2 : decode cX5_isPlayableWithin 2 = .ok (.iload_n 3, 1) := by decide +kernel
theorem dX5_isPlayableWithin_3 : decode cX5_isPlayableWithin 3 = .ok (.aload_n 0, 1) := by decide +kernel
theorem dX5_isPlayableWithin_4 : decode cX5_isPlayableWithin 4 = .ok (.getfield 10, 3) := by decide +kernel
theorem dX5_isPlayableWithin_7 : decode cX5_isPlayableWithin 7 = .ok (.getfield 101, 3) := by decide +kernel
theorem dX5_isPlayableWithin_10 : decode cX5_isPlayableWithin 10 = .ok (.if_icmp .ge 44, 3) := by decide +kernel
theorem dX5_isPlayableWithin_13 : decode cX5_isPlayableWithin 13 = .ok (.aload_n 0, 1) := by decide +kernel
theorem dX5_isPlayableWithin_14 : decode cX5_isPlayableWithin 14 = .ok (.getfield 10, 3) := by decide +kernel
theorem dX5_isPlayableWithin_17 : decode cX5_isPlayableWithin 17 = .ok (.getfield 242, 3) := by decide +kernel
theorem dX5_isPlayableWithin_20 : decode cX5_isPlayableWithin 20 = .ok (.iload_n 3, 1) := by decide +kernel
theorem dX5_isPlayableWithin_21 : decode cX5_isPlayableWithin 21 = .ok (.invokestatic 164, 3) := by decide +kernel
theorem dX5_isPlayableWithin_24 : decode cX5_isPlayableWithin 24 = .ok (.istore 4, 2) := by decide +kernel
theorem dX5_isPlayableWithin_26 : decode cX5_isPlayableWithin 26 = .ok (.iload 4, 2) := by decide +kernel
theorem dX5_isPlayableWithin_28 : decode cX5_isPlayableWithin 28 = .ok (.iconst (-1), 1) := by decide +kernel
theorem dX5_isPlayableWithin_29 : decode cX5_isPlayableWithin 29 = .ok (.if_icmp .eq 19, 3) := by decide +kernel
theorem dX5_isPlayableWithin_32 : decode cX5_isPlayableWithin 32 = .ok (.aload_n 0, 1) := by decide +kernel
theorem dX5_isPlayableWithin_33 : decode cX5_isPlayableWithin 33 = .ok (.getfield 60, 3) := by decide +kernel
theorem dX5_isPlayableWithin_36 : decode cX5_isPlayableWithin 36 = .ok (.iload 4, 2) := by decide +kernel
theorem dX5_isPlayableWithin_38 : decode cX5_isPlayableWithin 38 = .ok (.iload_n 1, 1) := by decide +kernel
theorem dX5_isPlayableWithin_39 : decode cX5_isPlayableWithin 39 = .ok (.iload_n 2, 1) := by decide +kernel
theorem dX5_isPlayableWithin_40 : decode cX5_isPlayableWithin 40 = .ok (.invokevirtual 332, 3) := by decide +kernel
theorem dX5_isPlayableWithin_43 : decode cX5_isPlayableWithin 43 = .ok (.ifCond .ne 5, 3) := by decide +kernel
theorem dX5_isPlayableWithin_46 : decode cX5_isPlayableWithin 46 = .ok (.iconst 0, 1) := by decide +kernel
theorem dX5_isPlayableWithin_47 : decode cX5_isPlayableWithin 47 = .ok (.ireturn, 1) := by decide +kernel
theorem dX5_isPlayableWithin_48 : decode cX5_isPlayableWithin 48 = .ok (.iinc 3 1, 3) := by decide +kernel
theorem dX5_isPlayableWithin_51 : decode cX5_isPlayableWithin 51 = .ok (.goto (-49), 3) := by decide +kernel
theorem dX5_isPlayableWithin_54 : decode cX5_isPlayableWithin 54 = .ok (.iconst 1, 1) := by decide +kernel
theorem dX5_isPlayableWithin_55 : decode cX5_isPlayableWithin 55 = .ok (.ireturn, 1) := by decide +kernel
theorem dX5_write_0 : decode cX5_write 0 = .ok (.aload_n 0, 1) := by decide +kernel
theorem dX5_write_1 : decode cX5_write 1 = .ok (.getfield 44, 3) := by decide +kernel
theorem dX5_write_4 : decode cX5_write 4 = .ok (.aload_n 0, 1) := by decide +kernel
theorem dX5_write_5 : decode cX5_write 5 = .ok (.getfield 47, 3) := by decide +kernel
theorem dX5_write_8 : decode cX5_write 8 = .ok (.iload_n 1, 1) := by decide +kernel
theorem dX5_write_9 : decode cX5_write 9 = .ok (.invokestatic 283, 3) := by decide +kernel
theorem dX5_write_12 : decode cX5_write 12 = .ok (.aload_n 0, 1) := by decide +kernel
theorem dX5_write_13 : decode cX5_write 13 = .ok (.dup, 1) := by decide +kernel
theorem dX5_write_14 : decode cX5_write 14 = .ok (.getfield 47, 3) := by decide +kernel
theorem dX5_write_17 : decode cX5_write 17 = .ok (.iconst 1, 1) := by decide +kernel
theorem dX5_write_18 : decode cX5_write 18 = .ok (.iadd, 1) := by decide +kernel
theorem dX5_write_19 : decode cX5_write 19 = .ok (.putfield 47, 3) := by decide +kernel
theorem dX5_write_22 : decode cX5_write 22 = .ok (.return_, 1) := by decide +kernel
theorem dX5_stateAt_0 : decode cX5_stateAt 0 = .ok (.iload_n 1, 1) := by decide +kernel
theorem dX5_stateAt_1 : decode cX5_stateAt 1 = .ok (.ifCond .lt 15, 3) := by decide +kernel
theorem dX5_stateAt_4 : decode cX5_stateAt 4 = .ok (.iload_n 1, 1) := by decide +kernel
theorem dX5_stateAt_5 : decode cX5_stateAt 5 = .ok (.aload_n 0, 1) := by decide +kernel
theorem dX5_stateAt_6 : decode cX5_stateAt 6 = .ok (.arraylength, 1) := by decide +kernel
theorem dX5_stateAt_7 : decode cX5_stateAt 7 = .ok (.if_icmp .ge 9, 3) := by decide +kernel
theorem dX5_stateAt_10 : decode cX5_stateAt 10 = .ok (.aload_n 0, 1) := by decide +kernel
theorem dX5_stateAt_11 : decode cX5_stateAt 11 = .ok (.iload_n 1, 1) := by decide +kernel
theorem dX5_stateAt_12 : decode cX5_stateAt 12 = .ok (.aaload, 1) := by decide +kernel
theorem dX5_stateAt_13 : decode cX5_stateAt 13 = .ok (.goto 4, 3) := by decide +kernel
theorem dX5_stateAt_16 : decode cX5_stateAt 16 = .ok (.aconst_null, 1) := by decide +kernel
theorem dX5_stateAt_17 : decode cX5_stateAt 17 = .ok (.areturn, 1) := by decide +kernel
theorem dX5_at_0 : decode cX5_at 0 = .ok (.iload_n 1, 1) := by decide +kernel
theorem dX5_at_1 : decode cX5_at 1 = .ok (.ifCond .lt 15, 3) := by decide +kernel
theorem dX5_at_4 : decode cX5_at 4 = .ok (.iload_n 1, 1) := by decide +kernel
theorem dX5_at_5 : decode cX5_at 5 = .ok (.aload_n 0, 1) := by decide +kernel
theorem dX5_at_6 : decode cX5_at 6 = .ok (.arraylength, 1) := by decide +kernel
theorem dX5_at_7 : decode cX5_at 7 = .ok (.if_icmp .ge 9, 3) := by decide +kernel
theorem dX5_at_10 : decode cX5_at 10 = .ok (.aload_n 0, 1) := by decide +kernel
theorem dX5_at_11 : decode cX5_at 11 = .ok (.iload_n 1, 1) := by decide +kernel
theorem dX5_at_12 : decode cX5_at 12 = .ok (.iaload, 1) := by decide +kernel
theorem dX5_at_13 : decode cX5_at 13 = .ok (.goto 4, 3) := by decide +kernel
theorem dX5_at_16 : decode cX5_at 16 = .ok (.iconst 0, 1) := by decide +kernel
theorem dX5_at_17 : decode cX5_at 17 = .ok (.ireturn, 1) := by decide +kernel
theorem dX5_put_0 : decode cX5_put 0 = .ok (.iload_n 1, 1) := by decide +kernel
theorem dX5_put_1 : decode cX5_put 1 = .ok (.ifCond .lt 13, 3) := by decide +kernel
theorem dX5_put_4 : decode cX5_put 4 = .ok (.iload_n 1, 1) := by decide +kernel
theorem dX5_put_5 : decode cX5_put 5 = .ok (.aload_n 0, 1) := by decide +kernel
theorem dX5_put_6 : decode cX5_put 6 = .ok (.arraylength, 1) := by decide +kernel
theorem dX5_put_7 : decode cX5_put 7 = .ok (.if_icmp .ge 7, 3) := by decide +kernel
theorem dX5_put_10 : decode cX5_put 10 = .ok (.aload_n 0, 1) := by decide +kernel
theorem dX5_put_11 : decode cX5_put 11 = .ok (.iload_n 1, 1) := by decide +kernel
theorem dX5_put_12 : decode cX5_put 12 = .ok (.iload_n 2, 1) := by decide +kernel
theorem dX5_put_13 : decode cX5_put 13 = .ok (.iastore, 1) := by decide +kernel
theorem dX5_put_14 : decode cX5_put 14 = .ok (.return_, 1) := by decide +kernel
theorem dX5_quotient_0 : decode cX5_quotient 0 = .ok (.iload_n 1, 1) := by decide +kernel
theorem dX5_quotient_1 : decode cX5_quotient 1 = .ok (.ifCond .le 9, 3) := by decide +kernel
theorem dX5_quotient_4 : decode cX5_quotient 4 = .ok (.iload_n 0, 1) := by decide +kernel
theorem dX5_quotient_5 : decode cX5_quotient 5 = .ok (.iload_n 1, 1) := by decide +kernel
theorem dX5_quotient_6 : decode cX5_quotient 6 = .ok (.idiv, 1) := by decide +kernel
theorem dX5_quotient_7 : decode cX5_quotient 7 = .ok (.goto 4, 3) := by decide +kernel
theorem dX5_quotient_10 : decode cX5_quotient 10 = .ok (.iconst 0, 1) := by decide +kernel
theorem dX5_quotient_11 : decode cX5_quotient 11 = .ok (.ireturn, 1) := by decide +kernel
theorem dX5_isTone_0 : decode cX5_isTone 0 = .ok (.iload_n 0, 1) := by decide +kernel
theorem dX5_isTone_1 : decode cX5_isTone 1 = .ok (.ifCond .lt 13, 3) := by decide +kernel
theorem dX5_isTone_4 : decode cX5_isTone 4 = .ok (.iload_n 0, 1) := by decide +kernel
theorem dX5_isTone_5 : decode cX5_isTone 5 = .ok (.bipush 25, 2) := by decide +kernel
theorem dX5_isTone_7 : decode cX5_isTone 7 = .ok (.if_icmp .ge 7, 3) := by decide +kernel
theorem dX5_isTone_10 : decode cX5_isTone 10 = .ok (.iconst 1, 1) := by decide +kernel
theorem dX5_isTone_11 : decode cX5_isTone 11 = .ok (.goto 4, 3) := by decide +kernel
theorem dX5_isTone_14 : decode cX5_isTone 14 = .ok (.iconst 0, 1) := by decide +kernel
theorem dX5_isTone_15 : decode cX5_isTone 15 = .ok (.ireturn, 1) := by decide +kernel
theorem dX5_coverOf_0 : decode cX5_coverOf 0 = .ok (.iload_n 0, 1) := by decide +kernel
theorem dX5_coverOf_1 : decode cX5_coverOf 1 = .ok (.getstatic 293, 3) := by decide +kernel
theorem dX5_coverOf_4 : decode cX5_coverOf 4 = .ok (.iload_n 1, 1) := by decide +kernel
theorem dX5_coverOf_5 : decode cX5_coverOf 5 = .ok (.invokestatic 164, 3) := by decide +kernel
theorem dX5_coverOf_8 : decode cX5_coverOf 8 = .ok (.invokestatic 336, 3) := by decide +kernel
theorem dX5_coverOf_11 : decode cX5_coverOf 11 = .ok (.iconst 3, 1) := by decide +kernel
theorem dX5_coverOf_12 : decode cX5_coverOf 12 = .ok (.irem, 1) := by decide +kernel
theorem dX5_coverOf_13 : decode cX5_coverOf 13 = .ok (.ireturn, 1) := by decide +kernel
theorem dX5_toneOf_0 : decode cX5_toneOf 0 = .ok (.iload_n 0, 1) := by decide +kernel
theorem dX5_toneOf_1 : decode cX5_toneOf 1 = .ok (.bipush 50, 2) := by decide +kernel
theorem dX5_toneOf_3 : decode cX5_toneOf 3 = .ok (.iadd, 1) := by decide +kernel
theorem dX5_toneOf_4 : decode cX5_toneOf 4 = .ok (.bipush 100, 2) := by decide +kernel
theorem dX5_toneOf_6 : decode cX5_toneOf 6 = .ok (.idiv, 1) := by decide +kernel
theorem dX5_toneOf_7 : decode cX5_toneOf 7 = .ok (.istore_n 2, 1) := by decide +kernel
theorem dX5_toneOf_8 : decode cX5_toneOf 8 = .ok (.iload_n 2, 1) := by decide +kernel
theorem dX5_toneOf_9 : decode cX5_toneOf 9 = .ok (.invokestatic 290, 3) := by decide +kernel
theorem dX5_toneOf_12 : decode cX5_toneOf 12 = .ok (.ifCond .eq 20, 3) := by decide +kernel
theorem dX5_toneOf_15 : decode cX5_toneOf 15 = .ok (.iload_n 0, 1) := by decide +kernel
theorem dX5_toneOf_16 : decode cX5_toneOf 16 = .ok (.bipush 100, 2) := by decide +kernel
theorem dX5_toneOf_18 : decode cX5_toneOf 18 = .ok (.iload_n 2, 1) := by decide +kernel
theorem dX5_toneOf_19 : decode cX5_toneOf 19 = .ok (.imul, 1) := by decide +kernel
theorem dX5_toneOf_20 : decode cX5_toneOf 20 = .ok (.isub, 1) := by decide +kernel
theorem dX5_toneOf_21 : decode cX5_toneOf 21 = .ok (.invokestatic 211, 3) := by decide +kernel
theorem dX5_toneOf_24 : decode cX5_toneOf 24 = .ok (.iload_n 1, 1) := by decide +kernel
theorem dX5_toneOf_25 : decode cX5_toneOf 25 = .ok (.if_icmp .gt 7, 3) := by decide +kernel
theorem dX5_toneOf_28 : decode cX5_toneOf 28 = .ok (.iload_n 2, 1) := by decide +kernel
theorem dX5_toneOf_29 : decode cX5_toneOf 29 = .ok (.goto 4, 3) := by decide +kernel
theorem dX5_toneOf_32 : decode cX5_toneOf 32 = .ok (.iconst (-1), 1) := by decide +kernel
theorem dX5_toneOf_33 : decode cX5_toneOf 33 = .ok (.ireturn, 1) := by decide +kernel
theorem dX5_differingHoles_0 : decode cX5_differingHoles 0 = .ok (.iload_n 0, 1) := by decide +kernel
theorem dX5_differingHoles_1 : decode cX5_differingHoles 1 = .ok (.iload_n 1, 1) := by decide +kernel
theorem dX5_differingHoles_2 : decode cX5_differingHoles 2 = .ok (.ixor, 1) := by decide +kernel
theorem dX5_differingHoles_3 : decode cX5_differingHoles 3 = .ok (.istore_n 2, 1) := by decide +kernel
theorem dX5_differingHoles_4 : decode cX5_differingHoles 4 = .ok (.iload_n 2, 1) := by decide +kernel
theorem dX5_differingHoles_5 : decode cX5_differingHoles 5 = .ok (.iload_n 2, 1) := by decide +kernel
theorem dX5_differingHoles_6 : decode cX5_differingHoles 6 = .ok (.bipush 7, 2) := by decide +kernel
theorem dX5_differingHoles_8 : decode cX5_differingHoles 8 = .ok (.ishr, 1) := by decide +kernel
theorem dX5_differingHoles_9 : decode cX5_differingHoles 9 = .ok (.ior, 1) := by decide +kernel
theorem dX5_differingHoles_10 : decode cX5_differingHoles 10 = .ok (.bipush 127, 2) := by decide +kernel
theorem dX5_differingHoles_12 : decode cX5_differingHoles 12 = .ok (.iand, 1) := by decide +kernel
theorem dX5_differingHoles_13 : decode cX5_differingHoles 13 = .ok (.ireturn, 1) := by decide +kernel
