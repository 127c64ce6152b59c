theorem dX3_init_0 : decode cX3_init 0 = .ok (.aload_n 0, 1) := by decide +kernel
theorem dX3_init_1 : decode cX3_init 1 = .ok (.invokespecial 3, 3) := by decide +kernel
theorem dX3_init_4 : decode cX3_init 4 = .ok (.aload_n 0, 1) := by decide +kernel
theorem dX3_init_5 : decode cX3_init 5 = .ok (.sipush 300, 3) := by decide +kernel
theorem dX3_init_8 : decode cX3_init 8 = .ok (.putfield 9, 3) := by decide +kernel
theorem dX3_init_11 : decode cX3_init 11 = .ok (.aload_n 0, 1) := by decide +kernel
theorem dX3_init_12 : decode cX3_init 12 = .ok (.bipush 12, 2) := by decide +kernel
theorem dX3_init_14 : decode cX3_init 14 = .ok (.putfield 15, 3) := by decide +kernel
theorem dX3_init_17 : decode cX3_init 17 = .ok (.aload_n 0, 1) := by decide +kernel
theorem dX3_init_18 : decode cX3_init 18 = .ok (.bipush 30, 2) := by decide +kernel
theorem dX3_init_20 : decode cX3_init 20 = .ok (.putfield 18, 3) := by decide +kernel
theorem dX3_init_23 : decode cX3_init 23 = .ok (.aload_n 0, 1) := by decide +kernel
theorem dX3_init_24 : decode cX3_init 24 = .ok (.iconst 1, 1) := by decide +kernel
theorem dX3_init_25 : decode cX3_init 25 = .ok (.putfield 21, 3) := by decide +kernel
theorem dX3_init_28 : decode cX3_init 28 = .ok (.aload_n 0, 1) := by decide +kernel
theorem dX3_init_29 : decode cX3_init 29 = .ok (.iconst 1, 1) := by decide +kernel
theorem dX3_init_30 : decode cX3_init 30 = .ok (.putfield 24, 3) := by decide +kernel
theorem dX3_init_33 : decode cX3_init 33 = .ok (.aload_n 0, 1) := by decide +kernel
theorem dX3_init_34 : decode cX3_init 34 = .ok (.iconst 1, 1) := by decide +kernel
theorem dX3_init_35 : decode cX3_init 35 = .ok (.putfield 27, 3) := by decide +kernel
theorem dX3_init_38 : decode cX3_init 38 = .ok (.aload_n 0, 1) := by decide +kernel
theorem dX3_init_39 : decode cX3_init 39 = .ok (.iconst 2, 1) := by decide +kernel
theorem dX3_init_40 : decode cX3_init 40 = .ok (.putfield 30, 3) := by decide +kernel
theorem dX3_init_43 : decode cX3_init 43 = .ok (.aload_n 0, 1) := by decide +kernel
theorem dX3_init_44 : decode cX3_init 44 = .ok (.iconst 1, 1) := by decide +kernel
theorem dX3_init_45 : decode cX3_init 45 = .ok (.putfield 33, 3) := by decide +kernel
theorem dX3_init_48 : decode cX3_init 48 = .ok (.aload_n 0, 1) := by decide +kernel
theorem dX3_init_49 : decode cX3_init 49 = .ok (.iconst 0, 1) := by decide +kernel
theorem dX3_init_50 : decode cX3_init 50 = .ok (.putfield 36, 3) := by decide +kernel
theorem dX3_init_53 : decode cX3_init 53 = .ok (.aload_n 0, 1) := by decide +kernel
theorem dX3_init_54 : decode cX3_init 54 = .ok (.iconst 0, 1) := by decide +kernel
theorem dX3_init_55 : decode cX3_init 55 = .ok (.putfield 39, 3) := by decide +kernel
theorem dX3_init_58 : decode cX3_init 58 = .ok (.aload_n 0, 1) := by decide +kernel
theorem dX3_init_59 : decode cX3_init 59 = .ok (.iconst 0, 1) := by decide +kernel
theorem dX3_init_60 : decode cX3_init 60 = .ok (.putfield 42, 3) := by decide +kernel
theorem dX3_init_63 : decode cX3_init 63 = .ok (.aload_n 0, 1) := by decide +kernel
theorem dX3_init_64 : decode cX3_init 64 = .ok (.iconst 0, 1) := by decide +kernel
theorem dX3_init_65 : decode cX3_init 65 = .ok (.putfield 45, 3) := by decide +kernel
theorem dX3_init_68 : decode cX3_init 68 = .ok (.aload_n 0, 1) := by decide +kernel
theorem dX3_init_69 : decode cX3_init 69 = .ok (.iconst 0, 1) := by decide +kernel
theorem dX3_init_70 : decode cX3_init 70 = .ok (.putfield 48, 3) := by decide +kernel
theorem dX3_init_73 : decode cX3_init 73 = .ok (.aload_n 0, 1) := by decide +kernel
theorem dX3_init_74 : decode cX3_init 74 = .ok (.bipush 7, 2) := by decide +kernel
theorem dX3_init_76 : decode cX3_init 76 = .ok (.newarray .int, 2) := by decide +kernel
theorem dX3_init_78 : decode cX3_init 78 = .ok (.putfield 51, 3) := by decide +kernel
theorem dX3_init_81 : decode cX3_init 81 = .ok (.aload_n 0, 1) := by decide +kernel
theorem dX3_init_82 : decode cX3_init 82 = .ok (.bipush 7, 2) := by decide +kernel
theorem dX3_init_84 : decode cX3_init 84 = .ok (.newarray .int, 2) := by decide +kernel
theorem dX3_init_86 : decode cX3_init 86 = .ok (.putfield 55, 3) := by decide +kernel
theorem dX3_init_89 : decode cX3_init 89 = .ok (.aload_n 0, 1) := by decide +kernel
theorem dX3_init_90 : decode cX3_init 90 = .ok (.bipush 40, 2) := by decide +kernel
theorem dX3_init_92 : decode cX3_init 92 = .ok (.newarray .int, 2) := by decide +kernel
theorem dX3_init_94 : decode cX3_init 94 = .ok (.putfield 58, 3) := by decide +kernel
theorem dX3_init_97 : decode cX3_init 97 = .ok (.return_, 1) := by decide +kernel
theorem dX3_beginAnew_0 : decode cX3_beginAnew 0 = .ok (.aload_n 0, 1) := by decide +kernel
theorem dX3_beginAnew_1 : decode cX3_beginAnew 1 = .ok (.iconst 1, 1) := by decide +kernel
theorem dX3_beginAnew_2 : decode cX3_beginAnew 2 = .ok (.putfield 21, 3) := by decide +kernel
theorem dX3_beginAnew_5 : decode cX3_beginAnew 5 = .ok (.aload_n 0, 1) := by decide +kernel
theorem dX3_beginAnew_6 : decode cX3_beginAnew 6 = .ok (.iconst 1, 1) := by decide +kernel
theorem dX3_beginAnew_7 : decode cX3_beginAnew 7 = .ok (.putfield 24, 3) := by decide +kernel
theorem dX3_beginAnew_10 : decode cX3_beginAnew 10 = .ok (.aload_n 0, 1) := by decide +kernel
theorem dX3_beginAnew_11 : decode cX3_beginAnew 11 = .ok (.iconst 1, 1) := by decide +kernel
theorem dX3_beginAnew_12 : decode cX3_beginAnew 12 = .ok (.putfield 27, 3) := by decide +kernel
theorem dX3_beginAnew_15 : decode cX3_beginAnew 15 = .ok (.aload_n 0, 1) := by decide +kernel
theorem dX3_beginAnew_16 : decode cX3_beginAnew 16 = .ok (.iconst 2, 1) := by decide +kernel
theorem dX3_beginAnew_17 : decode cX3_beginAnew 17 = .ok (.putfield 30, 3) := by decide +kernel
theorem dX3_beginAnew_20 : decode cX3_beginAnew 20 = .ok (.aload_n 0, 1) := by decide +kernel
theorem dX3_beginAnew_21 : decode cX3_beginAnew 21 = .ok (.iconst 1, 1) := by decide +kernel
theorem dX3_beginAnew_22 : decode cX3_beginAnew 22 = .ok (.putfield 33, 3) := by decide +kernel
theorem dX3_beginAnew_25 : decode cX3_beginAnew 25 = .ok (.aload_n 0, 1) := by decide +kernel
theorem dX3_beginAnew_26 : decode cX3_beginAnew 26 = .ok (.iconst 0, 1) := by decide +kernel
theorem dX3_beginAnew_27 : decode cX3_beginAnew 27 = .ok (.putfield 36, 3) := by decide +kernel
theorem dX3_beginAnew_30 : decode cX3_beginAnew 30 = .ok (.aload_n 0, 1) := by decide +kernel
theorem dX3_beginAnew_31 : decode cX3_beginAnew 31 = .ok (.iconst 0, 1) := by decide +kernel
theorem dX3_beginAnew_32 : decode cX3_beginAnew 32 = .ok (.putfield 39, 3) := by decide +kernel
theorem dX3_beginAnew_35 : decode cX3_beginAnew 35 = .ok (.aload_n 0, 1) := by decide +kernel
theorem dX3_beginAnew_36 : decode cX3_beginAnew 36 = .ok (.iconst 0, 1) := by decide +kernel
theorem dX3_beginAnew_37 : decode cX3_beginAnew 37 = .ok (.putfield 42, 3) := by decide +kernel
theorem dX3_beginAnew_40 : decode cX3_beginAnew 40 = .ok (.aload_n 0, 1) := by decide +kernel
theorem dX3_beginAnew_41 : decode cX3_beginAnew 41 = .ok (.iconst 0, 1) := by decide +kernel
theorem dX3_beginAnew_42 : decode cX3_beginAnew 42 = .ok (.putfield 45, 3) := by decide +kernel
theorem dX3_beginAnew_45 : decode cX3_beginAnew 45 = .ok (.aload_n 0, 1) := by decide +kernel
theorem dX3_beginAnew_46 : decode cX3_beginAnew 46 = .ok (.iconst 0, 1) := by decide +kernel
theorem dX3_beginAnew_47 : decode cX3_beginAnew 47 = .ok (.putfield 48, 3) := by decide +kernel
theorem dX3_beginAnew_50 : decode cX3_beginAnew 50 = .ok (.return_, 1) := by decide +kernel
theorem dX3_copyFrom_0 : decode cX3_copyFrom 0 = .ok (.aload_n 0, 1) := by decide +kernel
theorem dX3_copyFrom_1 : decode cX3_copyFrom 1 = .ok (.aload_n 1, 1) := by decide +kernel
theorem dX3_copyFrom_2 : decode cX3_copyFrom 2 = .ok (.getfield 9, 3) := by decide +kernel
theorem dX3_copyFrom_5 : decode cX3_copyFrom 5 = .ok (.putfield 9, 3) := by decide +kernel
theorem dX3_copyFrom_8 : decode cX3_copyFrom 8 = .ok (.aload_n 0, 1) := by decide +kernel
theorem dX3_copyFrom_9 : decode cX3_copyFrom 9 = .ok (.aload_n 1, 1) := by decide +kernel
theorem dX3_copyFrom_10 : decode cX3_copyFrom 10 = .ok (.getfield 15, 3) := by decide +kernel
theorem dX3_copyFrom_13 : decode cX3_copyFrom 13 = .ok (.putfield 15, 3) := by decide +kernel
theorem dX3_copyFrom_16 : decode cX3_copyFrom 16 = .ok (.aload_n 0, 1) := by decide +kernel
theorem dX3_copyFrom_17 : decode cX3_copyFrom 17 = .ok (.aload_n 1, 1) := by decide +kernel
theorem dX3_copyFrom_18 : decode cX3_copyFrom 18 = .ok (.getfield 18, 3) := by decide +kernel
theorem dX3_copyFrom_21 : decode cX3_copyFrom 21 = .ok (.putfield 18, 3) := by decide +kernel
theorem dX3_copyFrom_24 : decode cX3_copyFrom 24 = .ok (.aload_n 0, 1) := by decide +kernel
theorem dX3_copyFrom_25 : decode cX3_copyFrom 25 = .ok (.aload_n 1, 1) := by decide +kernel
theorem dX3_copyFrom_26 : decode cX3_copyFrom 26 = .ok (.getfield 21, 3) := by decide +kernel
theorem dX3_copyFrom_29 : decode cX3_copyFrom 29 = .ok (.putfield 21, 3) := by decide +kernel
theorem dX3_copyFrom_32 : decode cX3_copyFrom 32 = .ok (.aload_n 0, 1) := by decide +kernel
theorem dX3_copyFrom_33 : decode cX3_copyFrom 33 = .ok (.aload_n 1, 1) := by decide +kernel
theorem dX3_copyFrom_34 : decode cX3_copyFrom 34 = .ok (.getfield 24, 3) := by decide +kernel
theorem dX3_copyFrom_37 : decode cX3_copyFrom 37 = .ok (.putfield 24, 3) := by decide +kernel
theorem dX3_copyFrom_40 : decode cX3_copyFrom 40 = .ok (.aload_n 0, 1) := by decide +kernel
theorem dX3_copyFrom_41 : decode cX3_copyFrom 41 = .ok (.aload_n 1, 1) := by decide +kernel
theorem dX3_copyFrom_42 : decode cX3_copyFrom 42 = .ok (.getfield 27, 3) := by decide +kernel
theorem dX3_copyFrom_45 : decode cX3_copyFrom 45 = .ok (.putfield 27, 3) := by decide +kernel
theorem dX3_copyFrom_48 : decode cX3_copyFrom 48 = .ok (.aload_n 0, 1) := by decide +kernel
theorem dX3_copyFrom_49 : decode cX3_copyFrom 49 = .ok (.aload_n 1, 1) := by decide +kernel
theorem dX3_copyFrom_50 : decode cX3_copyFrom 50 = .ok (.getfield 30, 3) := by decide +kernel
theorem dX3_copyFrom_53 : decode cX3_copyFrom 53 = .ok (.putfield 30, 3) := by decide +kernel
theorem dX3_copyFrom_56 : decode cX3_copyFrom 56 = .ok (.aload_n 0, 1) := by decide +kernel
theorem dX3_copyFrom_57 : decode cX3_copyFrom 57 = .ok (.aload_n 1, 1) := by decide +kernel
theorem dX3_copyFrom_58 : decode cX3_copyFrom 58 = .ok (.getfield 33, 3) := by decide +kernel
theorem dX3_copyFrom_61 : decode cX3_copyFrom 61 = .ok (.putfield 33, 3) := by decide +kernel
theorem dX3_copyFrom_64 : decode cX3_copyFrom 64 = .ok (.aload_n 0, 1) := by decide +kernel
theorem dX3_copyFrom_65 : decode cX3_copyFrom 65 = .ok (.aload_n 1, 1) := by decide +kernel
theorem dX3_copyFrom_66 : decode cX3_copyFrom 66 = .ok (.getfield 36, 3) := by decide +kernel
theorem dX3_copyFrom_69 : decode cX3_copyFrom 69 = .ok (.putfield 36, 3) := by decide +kernel
theorem dX3_copyFrom_72 : decode cX3_copyFrom 72 = .ok (.aload_n 0, 1) := by decide +kernel
theorem dX3_copyFrom_73 : decode cX3_copyFrom 73 = .ok (.aload_n 1, 1) := by decide +kernel
theorem dX3_copyFrom_74 : decode cX3_copyFrom 74 = .ok (.getfield 39, 3) := by decide +kernel
theorem dX3_copyFrom_77 : decode cX3_copyFrom 77 = .ok (.putfield 39, 3) := by decide +kernel
theorem dX3_copyFrom_80 : decode cX3_copyFrom 80 = .ok (.aload_n 0, 1) := by decide +kernel
theorem dX3_copyFrom_81 : decode cX3_copyFrom 81 = .ok (.aload_n 1, 1) := by decide +kernel
theorem dX3_copyFrom_82 : decode cX3_copyFrom 82 = .ok (.getfield 42, 3) := by decide +kernel
theorem dX3_copyFrom_85 : decode cX3_copyFrom 85 = .ok (.putfield 42, 3) := by decide +kernel
theorem dX3_copyFrom_88 : decode cX3_copyFrom 88 = .ok (.aload_n 0, 1) := by decide +kernel
theorem dX3_copyFrom_89 : decode cX3_copyFrom 89 = .ok (.aload_n 1, 1) := by decide +kernel
theorem dX3_copyFrom_90 : decode cX3_copyFrom 90 = .ok (.getfield 45, 3) := by decide +kernel
theorem dX3_copyFrom_93 : decode cX3_copyFrom 93 = .ok (.putfield 45, 3) := by decide +kernel
theorem dX3_copyFrom_96 : decode cX3_copyFrom 96 = .ok (.aload_n 0, 1) := by decide +kernel
theorem dX3_copyFrom_97 : decode cX3_copyFrom 97 = .ok (.aload_n 1, 1) := by decide +kernel
theorem dX3_copyFrom_98 : decode cX3_copyFrom 98 = .ok (.getfield 48, 3) := by decide +kernel
theorem dX3_copyFrom_101 : decode cX3_copyFrom 101 = .ok (.putfield 48, 3) := by decide +kernel
theorem dX3_copyFrom_104 : decode cX3_copyFrom 104 = .ok (.aload_n 1, 1) := by decide +kernel
theorem dX3_copyFrom_105 : decode cX3_copyFrom 105 = .ok (.getfield 51, 3) := by decide +kernel
theorem dX3_copyFrom_108 : decode cX3_copyFrom 108 = .ok (.aload_n 0, 1) := by decide +kernel
theorem dX3_copyFrom_109 : decode cX3_copyFrom 109 = .ok (.getfield 51, 3) := by decide +kernel
theorem dX3_copyFrom_112 : decode cX3_copyFrom 112 = .ok (.aload_n 0, 1) := by decide +kernel
theorem dX3_copyFrom_113 : decode cX3_copyFrom 113 = .ok (.getfield 36, 3) := by decide +kernel
theorem dX3_copyFrom_116 : decode cX3_copyFrom 116 = .ok (.invokestatic 61, 3) := by decide +kernel
theorem dX3_copyFrom_119 : decode cX3_copyFrom 119 = .ok (.aload_n 1, 1) := by decide +kernel
theorem dX3_copyFrom_120 : decode cX3_copyFrom 120 = .ok (.getfield 55, 3) := by decide +kernel
theorem dX3_copyFrom_123 : decode cX3_copyFrom 123 = .ok (.aload_n 0, 1) := by decide +kernel
theorem dX3_copyFrom_124 : decode cX3_copyFrom 124 = .ok (.getfield 55, 3) := by decide +kernel
theorem dX3_copyFrom_127 : decode cX3_copyFrom 127 = .ok (.aload_n 0, 1) := by decide +kernel
theorem dX3_copyFrom_128 : decode cX3_copyFrom 128 = .ok (.getfield 36, 3) := by decide +kernel
theorem dX3_copyFrom_131 : decode cX3_copyFrom 131 = .ok (.invokestatic 61, 3) := by decide +kernel
theorem dX3_copyFrom_134 : decode cX3_copyFrom 134 = .ok (.aload_n 1, 1) := by decide +kernel
theorem dX3_copyFrom_135 : decode cX3_copyFrom 135 = .ok (.getfield 58, 3) := by decide +kernel
theorem dX3_copyFrom_138 : decode cX3_copyFrom 138 = .ok (.aload_n 0, 1) := by decide +kernel
theorem dX3_copyFrom_139 : decode cX3_copyFrom 139 = .ok (.getfield 58, 3) := by decide +kernel
theorem dX3_copyFrom_142 : decode cX3_copyFrom 142 = .ok (.aload_n 0, 1) := by decide +kernel
theorem dX3_copyFrom_143 : decode cX3_copyFrom 143 = .ok (.getfield 39, 3) := by decide +kernel
theorem dX3_copyFrom_146 : decode cX3_copyFrom 146 = .ok (.invokestatic 61, 3) := by decide +kernel
theorem dX3_copyFrom_149 : decode cX3_copyFrom 149 = .ok (.return_, 1) := by decide +kernel
theorem dX3_copyRow_0 : decode cX3_copyRow 0 = .ok (.iconst 0, 1) := by decide +kernel
theorem dX3_copyRow_1 : decode cX3_copyRow 1 = .ok (.istore_n 3, 1) := by decide +kernel
theorem dX3_copyRow_2 : decode cX3_copyRow 2 = .ok (.iload_n 3, 1) := by decide +kernel
theorem dX3_copyRow_3 : decode cX3_copyRow 3 = .ok (.iload_n 2, 1) := by decide +kernel
theorem dX3_copyRow_4 : decode cX3_copyRow 4 = .ok (.if_icmp .ge 19, 3) := by decide +kernel
theorem dX3_copyRow_7 : decode cX3_copyRow 7 = .ok (.aload_n 1, 1) := by decide +kernel
theorem dX3_copyRow_8 : decode cX3_copyRow 8 = .ok (.iload_n 3, 1) := by decide +kernel
theorem dX3_copyRow_9 : decode cX3_copyRow 9 = .ok (.aload_n 0, 1) := by decide +kernel
theorem dX3_copyRow_10 : decode cX3_copyRow 10 = .ok (.iload_n 3, 1) := by decide +kernel
theorem dX3_copyRow_11 : decode cX3_copyRow 11 = .ok (.invokestatic 65, 3) := by decide +kernel
theorem dX3_copyRow_14 : decode cX3_copyRow 14 = .ok (.invokestatic 69, 3) := by decide +kernel
theorem dX3_copyRow_17 : decode cX3_copyRow 17 = .ok (.iinc 3 1, 3) := by decide +kernel
theorem dX3_copyRow_20 : decode cX3_copyRow 20 = .ok (.goto (-18), 3) := by decide +kernel
theorem dX3_copyRow_23 : decode cX3_copyRow 23 = .ok (.return_, 1) := by decide +kernel
theorem dX3_fingeringCount_0 : decode cX3_fingeringCount 0 = .ok (.getstatic 73, 3) := by decide +kernel
theorem dX3_fingeringCount_3 : decode cX3_fingeringCount 3 = .ok (.aload_n 0, 1) := by decide +kernel
theorem dX3_fingeringCount_4 : decode cX3_fingeringCount 4 = .ok (.getfield 36, 3) := by decide +kernel
theorem dX3_fingeringCount_7 : decode cX3_fingeringCount 7 = .ok (.invokestatic 65, 3) := by decide +kernel
theorem dX3_fingeringCount_10 : decode cX3_fingeringCount 10 = .ok (.ireturn, 1) := by decide +kernel
theorem dX3_playCount_0 : decode cX3_playCount 0 = .ok (.iconst 2, 1) := by decide +kernel
theorem dX3_playCount_1 : decode cX3_playCount 1 = .ok (.getstatic 73, 3) := by decide +kernel
theorem dX3_playCount_4 : decode cX3_playCount 4 = .ok (.aload_n 0, 1) := by decide +kernel
theorem dX3_playCount_5 : decode cX3_playCount 5 = .ok (.getfield 36, 3) := by decide +kernel
theorem dX3_playCount_8 : decode cX3_playCount 8 = .ok (.invokestatic 65, 3) := by decide +kernel
theorem dX3_playCount_11 : decode cX3_playCount 11 = .ok (.imul, 1) := by decide +kernel
theorem dX3_playCount_12 : decode cX3_playCount 12 = .ok (.ireturn, 1) := by decide +kernel
theorem dX3_isRest_0 : decode cX3_isRest 0 = .ok (.aload_n 0, 1) := by decide +kernel
theorem dX3_isRest_1 : decode cX3_isRest 1 = .ok (.getfield 58, 3) := by decide +kernel
theorem dX3_isRest_4 : decode cX3_isRest 4 = .ok (.iload_n 1, 1) := by decide +kernel
theorem dX3_isRest_5 : decode cX3_isRest 5 = .ok (.invokestatic 65, 3) := by decide +kernel
theorem dX3_isRest_8 : decode cX3_isRest 8 = .ok (.iconst (-1), 1) := by decide +kernel
theorem dX3_isRest_9 : decode cX3_isRest 9 = .ok (.if_icmp .ne 7, 3) := by decide +kernel
theorem dX3_isRest_12 : decode cX3_isRest 12 = .ok (.iconst 1, 1) := by decide +kernel
theorem dX3_isRest_13 : decode cX3_isRest 13 = .ok (.goto 4, 3) := by decide +kernel
theorem dX3_isRest_16 : decode cX3_isRest 16 = .ok (.iconst 0, 1) := by decide +kernel
theorem dX3_isRest_17 : decode cX3_isRest 17 = .ok (.ireturn, 1) := by decide +kernel
theorem dX3_soundingNotes_0 : decode cX3_soundingNotes 0 = .ok (.iconst 0, 1) := by decide +kernel
theorem dX3_soundingNotes_1 : decode cX3_soundingNotes 1 = .ok (.istore_n 1, 1) := by decide +kernel
theorem dX3_soundingNotes_2 : decode cX3_soundingNotes 2 = .ok (.iconst 0, 1) := by decide +kernel
theorem dX3_soundingNotes_3 : decode cX3_soundingNotes 3 = .ok (.istore_n 2, 1) := by decide +kernel
theorem dX3_soundingNotes_4 : decode cX3_soundingNotes 4 = .ok (.iload_n 2, 1) := by decide +kernel
theorem dX3_soundingNotes_5 : decode cX3_soundingNotes 5 = .ok (.aload_n 0, 1) := by decide +kernel
theorem dX3_soundingNotes_6 : decode cX3_soundingNotes 6 = .ok (.getfield 39, 3) := by decide +kernel
theorem dX3_soundingNotes_9 : decode cX3_soundingNotes 9 = .ok (.if_icmp .ge 25, 3) := by decide +kernel
theorem dX3_soundingNotes_12 : decode cX3_soundingNotes 12 = .ok (.iload_n 1, 1) := by decide +kernel
theorem dX3_soundingNotes_13 : decode cX3_soundingNotes 13 = .ok (.aload_n 0, 1) := by decide +kernel
theorem dX3_soundingNotes_14 : decode cX3_soundingNotes 14 = .ok (.iload_n 2, 1) := by decide +kernel
theorem dX3_soundingNotes_15 : decode cX3_soundingNotes 15 = .ok (.invokevirtual 76, 3) := by decide +kernel
theorem dX3_soundingNotes_18 : decode cX3_soundingNotes 18 = .ok (.ifCond .eq 7, 3) := by decide +kernel
theorem dX3_soundingNotes_21 : decode cX3_soundingNotes 21 = .ok (.iconst 0, 1) := by decide +kernel
theorem dX3_soundingNotes_22 : decode cX3_soundingNotes 22 = .ok (.goto 4, 3) := by decide +kernel
theorem dX3_soundingNotes_25 : decode cX3_soundingNotes 25 = .ok (.iconst 1, 1) := by decide +kernel
theorem dX3_soundingNotes_26 : decode cX3_soundingNotes 26 = .ok (.iadd, 1) := by decide +kernel
theorem dX3_soundingNotes_27 : decode cX3_soundingNotes 27 = .ok (.istore_n 1, 1) := by decide +kernel
theorem dX3_soundingNotes_28 : decode cX3_soundingNotes 28 = .ok (.iinc 2 1, 3) := by decide +kernel
theorem dX3_soundingNotes_31 : decode cX3_soundingNotes 31 = .ok (.goto (-27), 3) := by decide +kernel
theorem dX3_soundingNotes_34 : decode cX3_soundingNotes 34 = .ok (.iload_n 1, 1) := by decide +kernel
theorem dX3_soundingNotes_35 : decode cX3_soundingNotes 35 = .ok (.ireturn, 1) := by decide +kernel
theorem dX3_priceOf_0 : decode cX3_priceOf 0 = .ok (.iload_n 1, 1) := by decide +kernel
theorem dX3_priceOf_1 : decode cX3_priceOf 1 = .ok (.iload_n 2, 1) := by decide +kernel
theorem dX3_priceOf_2 : decode cX3_priceOf 2 = .ok (.invokestatic 80, 3) := by decide +kernel
theorem dX3_priceOf_5 : decode cX3_priceOf 5 = .ok (.istore_n 3, 1) := by decide +kernel
theorem dX3_priceOf_6 : decode cX3_priceOf 6 = .ok (.iload_n 3, 1) := by decide +kernel
theorem dX3_priceOf_7 : decode cX3_priceOf 7 = .ok (.iload_n 1, 1) := by decide +kernel
theorem dX3_priceOf_8 : decode cX3_priceOf 8 = .ok (.iload_n 2, 1) := by decide +kernel
theorem dX3_priceOf_9 : decode cX3_priceOf 9 = .ok (.ior, 1) := by decide +kernel
theorem dX3_priceOf_10 : decode cX3_priceOf 10 = .ok (.iand, 1) := by decide +kernel
theorem dX3_priceOf_11 : decode cX3_priceOf 11 = .ok (.invokestatic 84, 3) := by decide +kernel
theorem dX3_priceOf_14 : decode cX3_priceOf 14 = .ok (.istore 4, 2) := by decide +kernel
theorem dX3_priceOf_16 : decode cX3_priceOf 16 = .ok (.iload_n 3, 1) := by decide +kernel
theorem dX3_priceOf_17 : decode cX3_priceOf 17 = .ok (.invokestatic 84, 3) := by decide +kernel
theorem dX3_priceOf_20 : decode cX3_priceOf 20 = .ok (.iload 4, 2) := by decide +kernel
theorem dX3_priceOf_22 : decode cX3_priceOf 22 = .ok (.isub, 1) := by decide +kernel
theorem dX3_priceOf_23 : decode cX3_priceOf 23 = .ok (.istore 5, 2) := by decide +kernel
theorem dX3_priceOf_25 : decode cX3_priceOf 25 = .ok (.aload_n 0, 1) := by decide +kernel
theorem dX3_priceOf_26 : decode cX3_priceOf 26 = .ok (.getfield 27, 3) := by decide +kernel
theorem dX3_priceOf_29 : decode cX3_priceOf 29 = .ok (.iload 5, 2) := by decide +kernel
theorem dX3_priceOf_31 : decode cX3_priceOf 31 = .ok (.imul, 1) := by decide +kernel
theorem dX3_priceOf_32 : decode cX3_priceOf 32 = .ok (.aload_n 0, 1) := by decide +kernel
theorem dX3_priceOf_33 : decode cX3_priceOf 33 = .ok (.getfield 30, 3) := by decide +kernel
theorem dX3_priceOf_36 : decode cX3_priceOf 36 = .ok (.iload 4, 2) := by decide +kernel
theorem dX3_priceOf_38 : decode cX3_priceOf 38 = .ok (.imul, 1) := by decide +kernel
theorem dX3_priceOf_39 : decode cX3_priceOf 39 = .ok (.iadd, 1) := by decide +kernel
theorem dX3_priceOf_40 : decode cX3_priceOf 40 = .ok (.aload_n 0, 1) := by decide +kernel
theorem dX3_priceOf_41 : decode cX3_priceOf 41 = .ok (.getfield 33, 3) := by decide +kernel
theorem dX3_priceOf_44 : decode cX3_priceOf 44 = .ok (.iload_n 1, 1) := by decide +kernel
theorem dX3_priceOf_45 : decode cX3_priceOf 45 = .ok (.iload_n 2, 1) := by decide +kernel
theorem dX3_priceOf_46 : decode cX3_priceOf 46 = .ok (.ixor, 1) := by decide +kernel
theorem dX3_priceOf_47 : decode cX3_priceOf 47 = .ok (.bipush 14, 2) := by decide +kernel
theorem dX3_priceOf_49 : decode cX3_priceOf 49 = .ok (.ishr, 1) := by decide +kernel
theorem dX3_priceOf_50 : decode cX3_priceOf 50 = .ok (.iconst 1, 1) := by decide +kernel
theorem dX3_priceOf_51 : decode cX3_priceOf 51 = .ok (.iand, 1) := by decide +kernel
theorem dX3_priceOf_52 : decode cX3_priceOf 52 = .ok (.imul, 1) := by decide +kernel
theorem dX3_priceOf_53 : decode cX3_priceOf 53 = .ok (.iadd, 1) := by decide +kernel
theorem dX3_priceOf_54 : decode cX3_priceOf 54 = .ok (.ireturn, 1) := by decide +kernel
theorem dX4_init_0 : decode cX4_init 0 = .ok (.aload_n 0, 1) := by decide +kernel
theorem dX4_init_1 : decode cX4_init 1 = .ok (.invokespecial 3, 3) := by decide +kernel
theorem dX4_init_4 : decode cX4_init 4 = .ok (.aload_n 0, 1) := by decide +kernel
theorem dX4_init_5 : decode cX4_init 5 = .ok (.iconst 0, 1) := by decide +kernel
theorem dX4_init_6 : decode cX4_init 6 = .ok (.putfield 9, 3) := by decide +kernel
theorem dX4_init_9 : decode cX4_init 9 = .ok (.aload_n 0, 1) := by decide +kernel
theorem dX4_init_10 : decode cX4_init 10 = .ok (.bipush 40, 2) := by decide +kernel
theorem dX4_init_12 : decode cX4_init 12 = .ok (.newarray .int, 2) := by decide +kernel
theorem dX4_init_14 : decode cX4_init 14 = .ok (.putfield 15, 3) := by decide +kernel
theorem dX4_init_17 : decode cX4_init 17 = .ok (.aload_n 0, 1) := by decide +kernel
theorem dX4_init_18 : decode cX4_init 18 = .ok (.bipush 40, 2) := by decide +kernel
theorem dX4_init_20 : decode cX4_init 20 = .ok (.newarray .int, 2) := by decide +kernel
theorem dX4_init_22 : decode cX4_init 22 = .ok (.putfield 19, 3) := by decide +kernel
theorem dX4_init_25 : decode cX4_init 25 = .ok (.aload_n 0, 1) := by decide +kernel
theorem dX4_init_26 : decode cX4_init 26 = .ok (.bipush 40, 2) := by decide +kernel
theorem dX4_init_28 : decode cX4_init 28 = .ok (.newarray .int, 2) := by decide +kernel
theorem dX4_init_30 : decode cX4_init 30 = .ok (.putfield 22, 3) := by decide +kernel
theorem dX4_init_33 : decode cX4_init 33 = .ok (.aload_n 0, 1) := by decide +kernel
theorem dX4_init_34 : decode cX4_init 34 = .ok (.iconst 2, 1) := by decide +kernel
theorem dX4_init_35 : decode cX4_init 35 = .ok (.newarray .int, 2) := by decide +kernel
theorem dX4_init_37 : decode cX4_init 37 = .ok (.putfield 25, 3) := by decide +kernel
theorem dX4_init_40 : decode cX4_init 40 = .ok (.aload_n 0, 1) := by decide +kernel
theorem dX4_init_41 : decode cX4_init 41 = .ok (.iconst 2, 1) := by decide +kernel
theorem dX4_init_42 : decode cX4_init 42 = .ok (.newarray .int, 2) := by decide +kernel
theorem dX4_init_44 : decode cX4_init 44 = .ok (.putfield 28, 3) := by decide +kernel
theorem dX4_init_47 : decode cX4_init 47 = .ok (.return_, 1) := by decide +kernel
theorem dX4_find_0 : decode cX4_find 0 = .ok (.aload_n 0, 1) := by decide +kernel
theorem dX4_find_1 : decode cX4_find 1 = .ok (.aload_n 1, 1) := by decide +kernel
theorem dX4_find_2 : decode cX4_find 2 = .ok (.aload_n 2, 1) := by decide +kernel
theorem dX4_find_3 : decode cX4_find 3 = .ok (.iload_n 3, 1) := by decide +kernel
theorem dX4_find_4 : decode cX4_find 4 = .ok (.invokevirtual 31, 3) := by decide +kernel
theorem dX4_find_7 : decode cX4_find 7 = .ok (.aload_n 1, 1) := by decide +kernel
theorem dX4_find_8 : decode cX4_find 8 = .ok (.getfield 35, 3) := by decide +kernel
theorem dX4_find_11 : decode cX4_find 11 = .ok (.iconst 1, 1) := by decide +kernel
theorem dX4_find_12 : decode cX4_find 12 = .ok (.isub, 1) := by decide +kernel
theorem dX4_find_13 : decode cX4_find 13 = .ok (.istore 4, 2) := by decide +kernel
theorem dX4_find_15 : decode cX4_find 15 = .ok (.iload 4, 2) := by decide +kernel
theorem dX4_find_17 : decode cX4_find 17 = .ok (.ifCond .lt 27, 3) := by decide +kernel
theorem dX4_find_20 : decode cX4_find 20 = .ok (.aload_n 1, 1) := by decide +kernel
theorem dX4_find_21 : decode cX4_find 21 = .ok (.iload 4, 2) := by decide +kernel
theorem dX4_find_23 : decode cX4_find 23 = .ok (.invokevirtual 40, 3) := by decide +kernel
theorem dX4_find_26 : decode cX4_find 26 = .ok (.ifCond .ne 12, 3) := by decide +kernel
theorem dX4_find_29 : decode cX4_find 29 = .ok (.aload_n 0, 1) := by decide +kernel
theorem dX4_find_30 : decode cX4_find 30 = .ok (.aload_n 1, 1) := by decide +kernel
theorem dX4_find_31 : decode cX4_find 31 = .ok (.aload_n 2, 1) := by decide +kernel
theorem dX4_find_32 : decode cX4_find 32 = .ok (.iload 4, 2) := by decide +kernel
theorem dX4_find_34 : decode cX4_find 34 = .ok (.iload_n 3, 1) := by decide +kernel
theorem dX4_find_35 : decode cX4_find 35 = .ok (.invokevirtual 44, 3) := by decide +kernel
theorem dX4_find_38 : decode cX4_find 38 = .ok (.iinc 4 (-1), 3) := by decide +kernel
theorem dX4_find_41 : decode cX4_find 41 = .ok (.goto (-26), 3) := by decide +kernel
theorem dX4_find_44 : decode cX4_find 44 = .ok (.aload_n 0, 1) := by decide +kernel
theorem dX4_find_45 : decode cX4_find 45 = .ok (.iconst 0, 1) := by decide +kernel
theorem dX4_find_46 : decode cX4_find 46 = .ok (.putfield 9, 3) := by decide +kernel
theorem dX4_find_49 : decode cX4_find 49 = .ok (.iconst 0, 1) := by decide +kernel
theorem dX4_find_50 : decode cX4_find 50 = .ok (.istore 4, 2) := by decide +kernel
theorem dX4_find_52 : decode cX4_find 52 = .ok (.iload 4, 2) := by decide +kernel
theorem dX4_find_54 : decode cX4_find 54 = .ok (.aload_n 1, 1) := by decide +kernel
theorem dX4_find_55 : decode cX4_find 55 = .ok (.getfield 35, 3) := by decide +kernel
theorem dX4_find_58 : decode cX4_find 58 = .ok (.if_icmp .ge 26, 3) := by decide +kernel
theorem dX4_find_61 : decode cX4_find 61 = .ok (.aload_n 0, 1) := by decide +kernel
theorem dX4_find_62 : decode cX4_find 62 = .ok (.getfield 9, 3) := by decide +kernel
theorem dX4_find_65 : decode cX4_find 65 = .ok (.iconst (-1), 1) := by decide +kernel
theorem dX4_find_66 : decode cX4_find 66 = .ok (.if_icmp .eq 18, 3) := by decide +kernel
theorem dX4_find_69 : decode cX4_find 69 = .ok (.aload_n 0, 1) := by decide +kernel
theorem dX4_find_70 : decode cX4_find 70 = .ok (.aload_n 1, 1) := by decide +kernel
theorem dX4_find_71 : decode cX4_find 71 = .ok (.aload_n 2, 1) := by decide +kernel
theorem dX4_find_72 : decode cX4_find 72 = .ok (.iload 4, 2) := by decide +kernel
theorem dX4_find_74 : decode cX4_find 74 = .ok (.iload_n 3, 1) := by decide +kernel
theorem dX4_find_75 : decode cX4_find 75 = .ok (.invokevirtual 48, 3) := by decide +kernel
theorem dX4_find_78 : decode cX4_find 78 = .ok (.iinc 4 1, 3) := by decide +kernel
theorem dX4_find_81 : decode cX4_find 81 = .ok (.goto (-29), 3) := by decide +kernel
theorem dX4_find_84 : decode cX4_find 84 = .ok (.return_, 1) := by decide +kernel
theorem dX4_layRows_0 : decode cX4_layRows 0 = .ok (.iconst 0, 1) := by decide +kernel
theorem dX4_layRows_1 : decode cX4_layRows 1 = .ok (.istore 4, 2) := by decide +kernel
theorem dX4_layRows_3 : decode cX4_layRows 3 = .ok (.iconst 0, 1) := by decide +kernel
theorem dX4_layRows_4 : decode cX4_layRows 4 = .ok (.istore 5, 2) := by decide +kernel
theorem dX4_layRows_6 : decode cX4_layRows 6 = .ok (.iload 5, 2) := by decide +kernel
theorem dX4_layRows_8 : decode cX4_layRows 8 = .ok (.aload_n 1, 1) := by decide +kernel
theorem dX4_layRows_9 : decode cX4_layRows 9 = .ok (.getfield 35, 3) := by decide +kernel
theorem dX4_layRows_12 : decode cX4_layRows 12 = .ok (.if_icmp .ge 53, 3) := by decide +kernel
theorem dX4_layRows_15 : decode cX4_layRows 15 = .ok (.aload_n 0, 1) := by decide +kernel
theorem dX4_layRows_16 : decode cX4_layRows 16 = .ok (.getfield 22, 3) := by decide +kernel
theorem dX4_layRows_19 : decode cX4_layRows 19 = .ok (.iload 5, 2) := by decide +kernel
theorem dX4_layRows_21 : decode cX4_layRows 21 = .ok (.iload 4, 2) := by decide +kernel
theorem dX4_layRows_23 : decode cX4_layRows 23 = .ok (.invokestatic 51, 3) := by decide +kernel
theorem dX4_layRows_26 : decode cX4_layRows 26 = .ok (.iload 4, 2) := by decide +kernel
theorem dX4_layRows_28 : decode cX4_layRows 28 = .ok (.aload_n 1, 1) := by decide +kernel
theorem dX4_layRows_29 : decode cX4_layRows 29 = .ok (.iload 5, 2) := by decide +kernel
theorem dX4_layRows_31 : decode cX4_layRows 31 = .ok (.invokevirtual 40, 3) := by decide +kernel
theorem dX4_layRows_34 : decode cX4_layRows 34 = .ok (.ifCond .eq 7, 3) := by decide +kernel
theorem dX4_layRows_37 : decode cX4_layRows 37 = .ok (.iconst 0, 1) := by decide +kernel
theorem dX4_layRows_38 : decode cX4_layRows 38 = .ok (.goto 18, 3) := by decide +kernel
theorem dX4_layRows_41 : decode cX4_layRows 41 = .ok (.aload_n 2, 1) := by decide +kernel
theorem dX4_layRows_42 : decode cX4_layRows 42 = .ok (.aload_n 1, 1) := by decide +kernel
theorem dX4_layRows_43 : decode cX4_layRows 43 = .ok (.getfield 55, 3) := by decide +kernel
theorem dX4_layRows_46 : decode cX4_layRows 46 = .ok (.iload 5, 2) := by decide +kernel
theorem dX4_layRows_48 : decode cX4_layRows 48 = .ok (.invokestatic 58, 3) := by decide +kernel
theorem dX4_layRows_51 : decode cX4_layRows 51 = .ok (.iload_n 3, 1) := by decide +kernel
theorem dX4_layRows_52 : decode cX4_layRows 52 = .ok (.iadd, 1) := by decide +kernel
theorem dX4_layRows_53 : decode cX4_layRows 53 = .ok (.invokevirtual 62, 3) := by decide +kernel
theorem dX4_layRows_56 : decode cX4_layRows 56 = .ok (.iadd, 1) := by decide +kernel
theorem dX4_layRows_57 : decode cX4_layRows 57 = .ok (.istore 4, 2) := by decide +kernel
theorem dX4_layRows_59 : decode cX4_layRows 59 = .ok (.iinc 5 1, 3) := by decide +kernel
theorem dX4_layRows_62 : decode cX4_layRows 62 = .ok (.goto (-56), 3) := by decide +kernel
theorem dX4_layRows_65 : decode cX4_layRows 65 = .ok (.iload 4, 2) := by decide +kernel
theorem dX4_layRows_67 : decode cX4_layRows 67 = .ok (.aload_n 0, 1) := by decide +kernel
theorem dX4_layRows_68 : decode cX4_layRows 68 = .ok (.getfield 25, 3) := by decide +kernel
theorem dX4_layRows_71 : decode cX4_layRows 71 = .ok (.arraylength, 1) := by decide +kernel
theorem dX4_layRows_72 : decode cX4_layRows 72 = .ok (.if_icmp .le 21, 3) := by decide +kernel
theorem dX4_layRows_75 : decode cX4_layRows 75 = .ok (.aload_n 0, 1) := by decide +kernel
theorem dX4_layRows_76 : decode cX4_layRows 76 = .ok (.iload 4, 2) := by decide +kernel
theorem dX4_layRows_78 : decode cX4_layRows 78 = .ok (.iconst 2, 1) := by decide +kernel
theorem dX4_layRows_79 : decode cX4_layRows 79 = .ok (.aload_n 0, 1) := by decide +kernel
theorem dX4_layRows_80 : decode cX4_layRows 80 = .ok (.getfield 25, 3) := by decide +kernel
theorem dX4_layRows_83 : decode cX4_layRows 83 = .ok (.arraylength, 1) := by decide +kernel
theorem dX4_layRows_84 : decode cX4_layRows 84 = .ok (.imul, 1) := by decide +kernel
theorem dX4_layRows_85 : decode cX4_layRows 85 = .ok (.invokestatic 68, 3) := by decide +kernel
theorem dX4_layRows_88 : decode cX4_layRows 88 = .ok (.newarray .int, 2) := by decide +kernel
theorem dX4_layRows_90 : decode cX4_layRows 90 = .ok (.putfield 25, 3) := by decide +kernel
theorem dX4_layRows_93 : decode cX4_layRows 93 = .ok (.return_, 1) := by decide +kernel
theorem dX4_reckonRow_0 : decode cX4_reckonRow 0 = .ok (.aload_n 1, 1) := by decide +kernel
theorem dX4_reckonRow_1 : decode cX4_reckonRow 1 = .ok (.getfield 55, 3) := by decide +kernel
theorem dX4_reckonRow_4 : decode cX4_reckonRow 4 = .ok (.iload_n 3, 1) := by decide +kernel
theorem dX4_reckonRow_5 : decode cX4_reckonRow 5 = .ok (.invokestatic 58, 3) := by decide +kernel
theorem dX4_reckonRow_8 : decode cX4_reckonRow 8 = .ok (.iload 4, 2) := by decide +kernel
theorem dX4_reckonRow_10 : decode cX4_reckonRow 10 = .ok (.iadd, 1) := by decide +kernel
theorem dX4_reckonRow_11 : decode cX4_reckonRow 11 = .ok (.istore 5, 2) := by decide +kernel
theorem dX4_reckonRow_13 : decode cX4_reckonRow 13 = .ok (.aload_n 2, 1) := by decide +kernel
theorem dX4_reckonRow_14 : decode cX4_reckonRow 14 = .ok (.iload 5, 2) := by decide +kernel
theorem dX4_reckonRow_16 : decode cX4_reckonRow 16 = .ok (.invokevirtual 62, 3) := by decide +kernel
theorem dX4_reckonRow_19 : decode cX4_reckonRow 19 = .ok (.istore 6, 2) := by decide +kernel
theorem dX4_reckonRow_21 : decode cX4_reckonRow 21 = .ok (.iload_n 3, 1) := by decide +kernel
theorem dX4_reckonRow_22 : decode cX4_reckonRow 22 = .ok (.iconst 1, 1) := by decide +kernel
theorem dX4_reckonRow_23 : decode cX4_reckonRow 23 = .ok (.iadd, 1) := by decide +kernel
theorem dX4_reckonRow_24 : decode cX4_reckonRow 24 = .ok (.aload_n 1, 1) := by decide +kernel
theorem dX4_reckonRow_25 : decode cX4_reckonRow 25 = .ok (.getfield 35, 3) := by decide +kernel
theorem dX4_reckonRow_28 : decode cX4_reckonRow 28 = .ok (.if_icmp .ge 13, 3) := by decide +kernel
theorem dX4_reckonRow_31 : decode cX4_reckonRow 31 = .ok (.aload_n 1, 1) := by decide +kernel
theorem dX4_reckonRow_32 : decode cX4_reckonRow 32 = .ok (.iload_n 3, 1) := by decide +kernel
theorem dX4_reckonRow_33 : decode cX4_reckonRow 33 = .ok (.iconst 1, 1) := by decide +kernel
theorem dX4_reckonRow_34 : decode cX4_reckonRow 34 = .ok (.iadd, 1) := by decide +kernel
theorem dX4_reckonRow_35 : decode cX4_reckonRow 35 = .ok (.invokevirtual 40, 3) := by decide +kernel
theorem dX4_reckonRow_38 : decode cX4_reckonRow 38 = .ok (.ifCond .eq 39, 3) := by decide +kernel
theorem dX4_reckonRow_41 : decode cX4_reckonRow 41 = .ok (.iconst 0, 1) := by decide +kernel
theorem dX4_reckonRow_42 : decode cX4_reckonRow 42 = .ok (.istore 7, 2) := by decide +kernel
theorem dX4_reckonRow_44 : decode cX4_reckonRow 44 = .ok (.iload 7, 2) := by decide +kernel
theorem dX4_reckonRow_46 : decode cX4_reckonRow 46 = .ok (.iload 6, 2) := by decide +kernel
theorem dX4_reckonRow_48 : decode cX4_reckonRow 48 = .ok (.if_icmp .ge 28, 3) := by decide +kernel
theorem dX4_reckonRow_51 : decode cX4_reckonRow 51 = .ok (.aload_n 0, 1) := by decide +kernel
theorem dX4_reckonRow_52 : decode cX4_reckonRow 52 = .ok (.getfield 25, 3) := by decide +kernel
theorem dX4_reckonRow_55 : decode cX4_reckonRow 55 = .ok (.aload_n 0, 1) := by decide +kernel
theorem dX4_reckonRow_56 : decode cX4_reckonRow 56 = .ok (.getfield 22, 3) := by decide +kernel
theorem dX4_reckonRow_59 : decode cX4_reckonRow 59 = .ok (.iload_n 3, 1) := by decide +kernel
theorem dX4_reckonRow_60 : decode cX4_reckonRow 60 = .ok (.invokestatic 58, 3) := by decide +kernel
theorem dX4_reckonRow_63 : decode cX4_reckonRow 63 = .ok (.iload 7, 2) := by decide +kernel
theorem dX4_reckonRow_65 : decode cX4_reckonRow 65 = .ok (.iadd, 1) := by decide +kernel
theorem dX4_reckonRow_66 : decode cX4_reckonRow 66 = .ok (.iconst 0, 1) := by decide +kernel
theorem dX4_reckonRow_67 : decode cX4_reckonRow 67 = .ok (.invokestatic 51, 3) := by decide +kernel
theorem dX4_reckonRow_70 : decode cX4_reckonRow 70 = .ok (.iinc 7 1, 3) := by decide +kernel
theorem dX4_reckonRow_73 : decode cX4_reckonRow 73 = .ok (.goto (-29), 3) := by decide +kernel
theorem dX4_reckonRow_76 : decode cX4_reckonRow 76 = .ok (.return_, 1) := by decide +kernel
theorem dX4_reckonRow_77 : decode cX4_reckonRow 77 = .ok (.aload_n 1, 1) := by decide +kernel
theorem dX4_reckonRow_78 : decode cX4_reckonRow 78 = .ok (.getfield 55, 3) := by decide +kernel
theorem dX4_reckonRow_81 : decode cX4_reckonRow 81 = .ok (.iload_n 3, 1) := by decide +kernel
theorem dX4_reckonRow_82 : decode cX4_reckonRow 82 = .ok (.iconst 1, 1) := by decide +kernel
theorem dX4_reckonRow_83 : decode cX4_reckonRow 83 = .ok (.iadd, 1) := by decide +kernel
theorem dX4_reckonRow_84 : decode cX4_reckonRow 84 = .ok (.invokestatic 58, 3) := by decide +kernel
theorem dX4_reckonRow_87 : decode cX4_reckonRow 87 = .ok (.iload 4, 2) := by decide +kernel
theorem dX4_reckonRow_89 : decode cX4_reckonRow 89 = .ok (.iadd, 1) := by decide +kernel
theorem dX4_reckonRow_90 : decode cX4_reckonRow 90 = .ok (.istore 7, 2) := by decide +kernel
theorem dX4_reckonRow_92 : decode cX4_reckonRow 92 = .ok (.iconst 3, 1) := by decide +kernel
theorem dX4_reckonRow_93 : decode cX4_reckonRow 93 = .ok (.iload 6, 2) := by decide +kernel
theorem dX4_reckonRow_95 : decode cX4_reckonRow 95 = .ok (.imul, 1) := by decide +kernel
theorem dX4_reckonRow_96 : decode cX4_reckonRow 96 = .ok (.aload_n 2, 1) := by decide +kernel
theorem dX4_reckonRow_97 : decode cX4_reckonRow 97 = .ok (.iload 7, 2) := by decide +kernel
theorem dX4_reckonRow_99 : decode cX4_reckonRow 99 = .ok (.invokevirtual 62, 3) := by decide +kernel
theorem dX4_reckonRow_102 : decode cX4_reckonRow 102 = .ok (.imul, 1) := by decide +kernel
theorem dX4_reckonRow_103 : decode cX4_reckonRow 103 = .ok (.aload_n 1, 1) := by decide +kernel
theorem dX4_reckonRow_104 : decode cX4_reckonRow 104 = .ok (.invokevirtual 74, 3) := by decide +kernel
theorem dX4_reckonRow_107 : decode cX4_reckonRow 107 = .ok (.aload_n 1, 1) := by decide +kernel
theorem dX4_reckonRow_108 : decode cX4_reckonRow 108 = .ok (.getfield 78, 3) := by decide +kernel
theorem dX4_reckonRow_111 : decode cX4_reckonRow 111 = .ok (.iconst 1, 1) := by decide +kernel
theorem dX4_reckonRow_112 : decode cX4_reckonRow 112 = .ok (.iadd, 1) := by decide +kernel
theorem dX4_reckonRow_113 : decode cX4_reckonRow 113 = .ok (.imul, 1) := by decide +kernel
theorem dX4_reckonRow_114 : decode cX4_reckonRow 114 = .ok (.if_icmp .gt 17, 3) := by decide +kernel
theorem dX4_reckonRow_117 : decode cX4_reckonRow 117 = .ok (.aload_n 0, 1) := by decide +kernel
theorem dX4_reckonRow_118 : decode cX4_reckonRow 118 = .ok (.aload_n 1, 1) := by decide +kernel
theorem dX4_reckonRow_119 : decode cX4_reckonRow 119 = .ok (.aload_n 2, 1) := by decide +kernel
theorem dX4_reckonRow_120 : decode cX4_reckonRow 120 = .ok (.iload_n 3, 1) := by decide +kernel
theorem dX4_reckonRow_121 : decode cX4_reckonRow 121 = .ok (.iload 5, 2) := by decide +kernel
theorem dX4_reckonRow_123 : decode cX4_reckonRow 123 = .ok (.iload 7, 2) := by decide +kernel
theorem dX4_reckonRow_125 : decode cX4_reckonRow 125 = .ok (.invokevirtual 81, 3) := by decide +kernel
theorem dX4_reckonRow_128 : decode cX4_reckonRow 128 = .ok (.goto 14, 3) := by decide +kernel
theorem dX4_reckonRow_131 : decode cX4_reckonRow 131 = .ok (.aload_n 0, 1) := by decide +kernel
theorem dX4_reckonRow_132 : decode cX4_reckonRow 132 = .ok (.aload_n 1, 1) := by decide +kernel
theorem dX4_reckonRow_133 : decode cX4_reckonRow 133 = .ok (.aload_n 2, 1) := by decide +kernel
theorem dX4_reckonRow_134 : decode cX4_reckonRow 134 = .ok (.iload_n 3, 1) := by decide +kernel
theorem dX4_reckonRow_135 : decode cX4_reckonRow 135 = .ok (.iload 5, 2) := by decide +kernel
theorem dX4_reckonRow_137 : decode cX4_reckonRow 137 = .ok (.iload 7, 2) := by decide +kernel
theorem dX4_reckonRow_139 : decode cX4_reckonRow 139 = .ok (.invokevirtual 85, 3) := by decide +kernel
theorem dX4_reckonRow_142 : decode cX4_reckonRow 142 = .ok (.return_, 1) := by decide +kernel
theorem dX4_reckonByPairs_0 : decode cX4_reckonByPairs 0 = .ok (.aload_n 2, 1) := by decide +kernel
theorem dX4_reckonByPairs_1 : decode cX4_reckonByPairs 1 = .ok (.iload 4, 2) := by decide +kernel
theorem dX4_reckonByPairs_3 : decode cX4_reckonByPairs 3 = .ok (.invokevirtual 88, 3) := by decide +kernel
theorem dX4_reckonByPairs_6 : decode cX4_reckonByPairs 6 = .ok (.istore 6, 2) := by decide +kernel
theorem dX4_reckonByPairs_8 : decode cX4_reckonByPairs 8 = .ok (.aload_n 2, 1) := by decide +kernel
theorem dX4_reckonByPairs_9 : decode cX4_reckonByPairs 9 = .ok (.iload 4, 2) := by decide +kernel
theorem dX4_reckonByPairs_11 : decode cX4_reckonByPairs 11 = .ok (.invokevirtual 62, 3) := by decide +kernel
theorem dX4_reckonByPairs_14 : decode cX4_reckonByPairs 14 = .ok (.istore 7, 2) := by decide +kernel
theorem dX4_reckonByPairs_16 : decode cX4_reckonByPairs 16 = .ok (.aload_n 2, 1) := by decide +kernel
theorem dX4_reckonByPairs_17 : decode cX4_reckonByPairs 17 = .ok (.iload 5, 2) := by decide +kernel
theorem dX4_reckonByPairs_19 : decode cX4_reckonByPairs 19 = .ok (.invokevirtual 88, 3) := by decide +kernel
theorem dX4_reckonByPairs_22 : decode cX4_reckonByPairs 22 = .ok (.istore 8, 2) := by decide +kernel
theorem dX4_reckonByPairs_24 : decode cX4_reckonByPairs 24 = .ok (.aload_n 2, 1) := by decide +kernel
theorem dX4_reckonByPairs_25 : decode cX4_reckonByPairs 25 = .ok (.iload 5, 2) := by decide +kernel
theorem dX4_reckonByPairs_27 : decode cX4_reckonByPairs 27 = .ok (.invokevirtual 62, 3) := by decide +kernel
theorem dX4_reckonByPairs_30 : decode cX4_reckonByPairs 30 = .ok (.istore 9, 2) := by decide +kernel
theorem dX4_reckonByPairs_32 : decode cX4_reckonByPairs 32 = .ok (.aload_n 0, 1) := by decide +kernel
theorem dX4_reckonByPairs_33 : decode cX4_reckonByPairs 33 = .ok (.getfield 22, 3) := by decide +kernel
theorem dX4_reckonByPairs_36 : decode cX4_reckonByPairs 36 = .ok (.iload_n 3, 1) := by decide +kernel
theorem dX4_reckonByPairs_37 : decode cX4_reckonByPairs 37 = .ok (.iconst 1, 1) := by decide +kernel
theorem dX4_reckonByPairs_38 : decode cX4_reckonByPairs 38 = .ok (.iadd, 1) := by decide +kernel
theorem dX4_reckonByPairs_39 : decode cX4_reckonByPairs 39 = .ok (.invokestatic 58, 3) := by decide +kernel
theorem dX4_reckonByPairs_42 : decode cX4_reckonByPairs 42 = .ok (.istore 10, 2) := by decide +kernel
theorem dX4_reckonByPairs_44 : decode cX4_reckonByPairs 44 = .ok (.iconst 0, 1) := by decide +kernel
theorem dX4_reckonByPairs_45 : decode cX4_reckonByPairs 45 = .ok (.istore 11, 2) := by decide +kernel
theorem dX4_reckonByPairs_47 : decode cX4_reckonByPairs 47 = .ok (.iload 11, 2) := by decide +kernel
theorem dX4_reckonByPairs_49 : decode cX4_reckonByPairs 49 = .ok (.iload 7, 2) := by decide +kernel
theorem dX4_reckonByPairs_51 : decode cX4_reckonByPairs 51 = .ok (.if_icmp .ge 105, 3) := by decide +kernel
theorem dX4_reckonByPairs_54 : decode cX4_reckonByPairs 54 = .ok (.aload_n 2, 1) := by decide +kernel
theorem dX4_reckonByPairs_55 : decode cX4_reckonByPairs 55 = .ok (.getfield 91, 3) := by decide +kernel
theorem dX4_reckonByPairs_58 : decode cX4_reckonByPairs 58 = .ok (.iload 6, 2) := by decide +kernel
theorem dX4_reckonByPairs_60 : decode cX4_reckonByPairs 60 = .ok (.iload 11, 2) := by decide +kernel
theorem dX4_reckonByPairs_62 : decode cX4_reckonByPairs 62 = .ok (.iadd, 1) := by decide +kernel
theorem dX4_reckonByPairs_63 : decode cX4_reckonByPairs 63 = .ok (.invokestatic 58, 3) := by decide +kernel
theorem dX4_reckonByPairs_66 : decode cX4_reckonByPairs 66 = .ok (.istore 12, 2) := by decide +kernel
theorem dX4_reckonByPairs_68 : decode cX4_reckonByPairs 68 = .ok (.ldc 92, 2) := by decide +kernel
theorem dX4_reckonByPairs_70 : decode cX4_reckonByPairs 70 = .ok (.istore 13, 2) := by decide +kernel
theorem dX4_reckonByPairs_72 : decode cX4_reckonByPairs 72 = .ok (.iconst 0, 1) := by decide +kernel
theorem dX4_reckonByPairs_73 : decode cX4_reckonByPairs 73 = .ok (.istore 14, 2) := by decide +kernel
theorem dX4_reckonByPairs_75 : decode cX4_reckonByPairs 75 = .ok (.iload 14, 2) := by decide +kernel
theorem dX4_reckonByPairs_77 : decode cX4_reckonByPairs 77 = .ok (.iload 9, 2) := by decide +kernel
theorem dX4_reckonByPairs_79 : decode cX4_reckonByPairs 79 = .ok (.if_icmp .ge 51, 3) := by decide +kernel
theorem dX4_reckonByPairs_82 : decode cX4_reckonByPairs 82 = .ok (.aload_n 1, 1) := by decide +kernel
theorem dX4_reckonByPairs_83 : decode cX4_reckonByPairs 83 = .ok (.iload 12, 2) := by decide +kernel
theorem dX4_reckonByPairs_85 : decode cX4_reckonByPairs 85 = .ok (.aload_n 2, 1) := by decide +kernel
theorem dX4_reckonByPairs_86 : decode cX4_reckonByPairs 86 = .ok (.getfield 91, 3) := by decide +kernel
theorem dX4_reckonByPairs_89 : decode cX4_reckonByPairs 89 = .ok (.iload 8, 2) := by decide +kernel
theorem dX4_reckonByPairs_91 : decode cX4_reckonByPairs 91 = .ok (.iload 14, 2) := by decide +kernel
theorem dX4_reckonByPairs_93 : decode cX4_reckonByPairs 93 = .ok (.iadd, 1) := by decide +kernel
theorem dX4_reckonByPairs_94 : decode cX4_reckonByPairs 94 = .ok (.invokestatic 58, 3) := by decide +kernel
theorem dX4_reckonByPairs_97 : decode cX4_reckonByPairs 97 = .ok (.invokevirtual 93, 3) := by decide +kernel
theorem dX4_reckonByPairs_100 : decode cX4_reckonByPairs 100 = .ok (.aload_n 0, 1) := by decide +kernel
theorem dX4_reckonByPairs_101 : decode cX4_reckonByPairs 101 = .ok (.getfield 25, 3) := by decide +kernel
theorem dX4_reckonByPairs_104 : decode cX4_reckonByPairs 104 = .ok (.iload 10, 2) := by decide +kernel
theorem dX4_reckonByPairs_106 : decode cX4_reckonByPairs 106 = .ok (.iload 14, 2) := by decide +kernel
theorem dX4_reckonByPairs_108 : decode cX4_reckonByPairs 108 = .ok (.iadd, 1) := by decide +kernel
theorem dX4_reckonByPairs_109 : decode cX4_reckonByPairs 109 = .ok (.invokestatic 58, 3) := by decide +kernel
theorem dX4_reckonByPairs_112 : decode cX4_reckonByPairs 112 = .ok (.iadd, 1) := by decide +kernel
theorem dX4_reckonByPairs_113 : decode cX4_reckonByPairs 113 = .ok (.istore 15, 2) := by decide +kernel
theorem dX4_reckonByPairs_115 : decode cX4_reckonByPairs 115 = .ok (.iload 13, 2) := by decide +kernel
theorem dX4_reckonByPairs_117 : decode cX4_reckonByPairs 117 = .ok (.iload 15, 2) := by decide +kernel
theorem dX4_reckonByPairs_119 : decode cX4_reckonByPairs 119 = .ok (.invokestatic 96, 3) := by decide +kernel
theorem dX4_reckonByPairs_122 : decode cX4_reckonByPairs 122 = .ok (.istore 13, 2) := by decide +kernel
theorem dX4_reckonByPairs_124 : decode cX4_reckonByPairs 124 = .ok (.iinc 14 1, 3) := by decide +kernel
theorem dX4_reckonByPairs_127 : decode cX4_reckonByPairs 127 = .ok (.goto (-52), 3) := by decide +kernel
theorem dX4_reckonByPairs_130 : decode cX4_reckonByPairs 130 = .ok (.aload_n 0, 1) := by decide +kernel
theorem dX4_reckonByPairs_131 : decode cX4_reckonByPairs 131 = .ok (.getfield 25, 3) := by decide +kernel
theorem dX4_reckonByPairs_134 : decode cX4_reckonByPairs 134 = .ok (.aload_n 0, 1) := by decide +kernel
theorem dX4_reckonByPairs_135 : decode cX4_reckonByPairs 135 = .ok (.getfield 22, 3) := by decide +kernel
theorem dX4_reckonByPairs_138 : decode cX4_reckonByPairs 138 = .ok (.iload_n 3, 1) := by decide +kernel
theorem dX4_reckonByPairs_139 : decode cX4_reckonByPairs 139 = .ok (.invokestatic 58, 3) := by decide +kernel
theorem dX4_reckonByPairs_142 : decode cX4_reckonByPairs 142 = .ok (.iload 11, 2) := by decide +kernel
theorem dX4_reckonByPairs_144 : decode cX4_reckonByPairs 144 = .ok (.iadd, 1) := by decide +kernel
theorem dX4_reckonByPairs_145 : decode cX4_reckonByPairs 145 = .ok (.iload 13, 2) := by decide +kernel
theorem dX4_reckonByPairs_147 : decode cX4_reckonByPairs 147 = .ok (.invokestatic 51, 3) := by decide +kernel
theorem dX4_reckonByPairs_150 : decode cX4_reckonByPairs 150 = .ok (.iinc 11 1, 3) := by decide +kernel
theorem dX4_reckonByPairs_153 : decode cX4_reckonByPairs 153 = .ok (.goto (-106), 3) := by decide +kernel
theorem dX4_reckonByPairs_156 : decode cX4_reckonByPairs 156 = .ok (.return_, 1) := by decide +kernel
theorem dX4_reckonByHoles_0 : decode cX4_reckonByHoles 0 = .ok (.aload_n 1, 1) := by decide +kernel
theorem dX4_reckonByHoles_1 : decode cX4_reckonByHoles 1 = .ok (.invokevirtual 74, 3) := by decide +kernel
theorem dX4_reckonByHoles_4 : decode cX4_reckonByHoles 4 = .ok (.istore 6, 2) := by decide +kernel
theorem dX4_reckonByHoles_6 : decode cX4_reckonByHoles 6 = .ok (.iload 6, 2) := by decide +kernel
theorem dX4_reckonByHoles_8 : decode cX4_reckonByHoles 8 = .ok (.aload_n 0, 1) := by decide +kernel
theorem dX4_reckonByHoles_9 : decode cX4_reckonByHoles 9 = .ok (.getfield 28, 3) := by decide +kernel
theorem dX4_reckonByHoles_12 : decode cX4_reckonByHoles 12 = .ok (.arraylength, 1) := by decide +kernel
theorem dX4_reckonByHoles_13 : decode cX4_reckonByHoles 13 = .ok (.if_icmp .le 11, 3) := by decide +kernel
theorem dX4_reckonByHoles_16 : decode cX4_reckonByHoles 16 = .ok (.aload_n 0, 1) := by decide +kernel
theorem dX4_reckonByHoles_17 : decode cX4_reckonByHoles 17 = .ok (.iload 6, 2) := by decide +kernel
theorem dX4_reckonByHoles_19 : decode cX4_reckonByHoles 19 = .ok (.newarray .int, 2) := by decide +kernel
theorem dX4_reckonByHoles_21 : decode cX4_reckonByHoles 21 = .ok (.putfield 28, 3) := by decide +kernel
theorem dX4_reckonByHoles_24 : decode cX4_reckonByHoles 24 = .ok (.iconst 0, 1) := by decide +kernel
theorem dX4_reckonByHoles_25 : decode cX4_reckonByHoles 25 = .ok (.istore 7, 2) := by decide +kernel
theorem dX4_reckonByHoles_27 : decode cX4_reckonByHoles 27 = .ok (.iload 7, 2) := by decide +kernel
theorem dX4_reckonByHoles_29 : decode cX4_reckonByHoles 29 = .ok (.iload 6, 2) := by decide +kernel
theorem dX4_reckonByHoles_31 : decode cX4_reckonByHoles 31 = .ok (.if_icmp .ge 20, 3) := by decide +kernel
theorem dX4_reckonByHoles_34 : decode cX4_reckonByHoles 34 = .ok (.aload_n 0, 1) := by decide +kernel
theorem dX4_reckonByHoles_35 : decode cX4_reckonByHoles 35 = .ok (.getfield 28, 3) := by decide +kernel
theorem dX4_reckonByHoles_38 : decode cX4_reckonByHoles 38 = .ok (.iload 7, 2) := by decide +kernel
theorem dX4_reckonByHoles_40 : decode cX4_reckonByHoles 40 = .ok (.ldc 92, 2) := by decide +kernel
theorem dX4_reckonByHoles_42 : decode cX4_reckonByHoles 42 = .ok (.invokestatic 51, 3) := by decide +kernel
theorem dX4_reckonByHoles_45 : decode cX4_reckonByHoles 45 = .ok (.iinc 7 1, 3) := by decide +kernel
theorem dX4_reckonByHoles_48 : decode cX4_reckonByHoles 48 = .ok (.goto (-21), 3) := by decide +kernel
theorem dX4_reckonByHoles_51 : decode cX4_reckonByHoles 51 = .ok (.aload_n 2, 1) := by decide +kernel
theorem dX4_reckonByHoles_52 : decode cX4_reckonByHoles 52 = .ok (.iload 5, 2) := by decide +kernel
theorem dX4_reckonByHoles_54 : decode cX4_reckonByHoles 54 = .ok (.invokevirtual 62, 3) := by decide +kernel
theorem dX4_reckonByHoles_57 : decode cX4_reckonByHoles 57 = .ok (.istore 7, 2) := by decide +kernel
theorem dX4_reckonByHoles_59 : decode cX4_reckonByHoles 59 = .ok (.iconst 0, 1) := by decide +kernel
theorem dX4_reckonByHoles_60 : decode cX4_reckonByHoles 60 = .ok (.istore 8, 2) := by decide +kernel
theorem dX4_reckonByHoles_62 : decode cX4_reckonByHoles 62 = .ok (.iload 8, 2) := by decide +kernel
theorem dX4_reckonByHoles_64 : decode cX4_reckonByHoles 64 = .ok (.iload 7, 2) := by decide +kernel
theorem dX4_reckonByHoles_66 : decode cX4_reckonByHoles 66 = .ok (.if_icmp .ge 52, 3) := by decide +kernel
theorem dX4_reckonByHoles_69 : decode cX4_reckonByHoles 69 = .ok (.aload_n 0, 1) := by decide +kernel
theorem dX4_reckonByHoles_70 : decode cX4_reckonByHoles 70 = .ok (.getfield 28, 3) := by decide +kernel
theorem dX4_reckonByHoles_73 : decode cX4_reckonByHoles 73 = .ok (.aload_n 2, 1) := by decide +kernel
theorem dX4_reckonByHoles_74 : decode cX4_reckonByHoles 74 = .ok (.getfield 99, 3) := by decide +kernel
theorem dX4_reckonByHoles_77 : decode cX4_reckonByHoles 77 = .ok (.aload_n 2, 1) := by decide +kernel
theorem dX4_reckonByHoles_78 : decode cX4_reckonByHoles 78 = .ok (.iload 5, 2) := by decide +kernel
theorem dX4_reckonByHoles_80 : decode cX4_reckonByHoles 80 = .ok (.invokevirtual 88, 3) := by decide +kernel
theorem dX4_reckonByHoles_83 : decode cX4_reckonByHoles 83 = .ok (.iload 8, 2) := by decide +kernel
theorem dX4_reckonByHoles_85 : decode cX4_reckonByHoles 85 = .ok (.iadd, 1) := by decide +kernel
theorem dX4_reckonByHoles_86 : decode cX4_reckonByHoles 86 = .ok (.invokestatic 58, 3) := by decide +kernel
theorem dX4_reckonByHoles_89 : decode cX4_reckonByHoles 89 = .ok (.aload_n 0, 1) := by decide +kernel
theorem dX4_reckonByHoles_90 : decode cX4_reckonByHoles 90 = .ok (.getfield 25, 3) := by decide +kernel
theorem dX4_reckonByHoles_93 : decode cX4_reckonByHoles 93 = .ok (.aload_n 0, 1) := by decide +kernel
theorem dX4_reckonByHoles_94 : decode cX4_reckonByHoles 94 = .ok (.getfield 22, 3) := by decide +kernel
theorem dX4_reckonByHoles_97 : decode cX4_reckonByHoles 97 = .ok (.iload_n 3, 1) := by decide +kernel
theorem dX4_reckonByHoles_98 : decode cX4_reckonByHoles 98 = .ok (.iconst 1, 1) := by decide +kernel
theorem dX4_reckonByHoles_99 : decode cX4_reckonByHoles 99 = .ok (.iadd, 1) := by decide +kernel
theorem dX4_reckonByHoles_100 : decode cX4_reckonByHoles 100 = .ok (.invokestatic 58, 3) := by decide +kernel
theorem dX4_reckonByHoles_103 : decode cX4_reckonByHoles 103 = .ok (.iload 8, 2) := by decide +kernel
theorem dX4_reckonByHoles_105 : decode cX4_reckonByHoles 105 = .ok (.iadd, 1) := by decide +kernel
theorem dX4_reckonByHoles_106 : decode cX4_reckonByHoles 106 = .ok (.invokestatic 58, 3) := by decide +kernel
theorem dX4_reckonByHoles_109 : decode cX4_reckonByHoles 109 = .ok (.invokestatic 51, 3) := by decide +kernel
theorem dX4_reckonByHoles_112 : decode cX4_reckonByHoles 112 = .ok (.iinc 8 1, 3) := by decide +kernel
theorem dX4_reckonByHoles_115 : decode cX4_reckonByHoles 115 = .ok (.goto (-53), 3) := by decide +kernel
theorem dX4_reckonByHoles_118 : decode cX4_reckonByHoles 118 = .ok (.iconst 0, 1) := by decide +kernel
theorem dX4_reckonByHoles_119 : decode cX4_reckonByHoles 119 = .ok (.istore 8, 2) := by decide +kernel
theorem dX4_reckonByHoles_121 : decode cX4_reckonByHoles 121 = .ok (.iload 8, 2) := by decide +kernel
theorem dX4_reckonByHoles_123 : decode cX4_reckonByHoles 123 = .ok (.aload_n 1, 1) := by decide +kernel
theorem dX4_reckonByHoles_124 : decode cX4_reckonByHoles 124 = .ok (.getfield 78, 3) := by decide +kernel
theorem dX4_reckonByHoles_127 : decode cX4_reckonByHoles 127 = .ok (.if_icmp .ge 18, 3) := by decide +kernel
theorem dX4_reckonByHoles_130 : decode cX4_reckonByHoles 130 = .ok (.aload_n 0, 1) := by decide +kernel
theorem dX4_reckonByHoles_131 : decode cX4_reckonByHoles 131 = .ok (.aload_n 1, 1) := by decide +kernel
theorem dX4_reckonByHoles_132 : decode cX4_reckonByHoles 132 = .ok (.iload 8, 2) := by decide +kernel
theorem dX4_reckonByHoles_134 : decode cX4_reckonByHoles 134 = .ok (.iload 6, 2) := by decide +kernel
theorem dX4_reckonByHoles_136 : decode cX4_reckonByHoles 136 = .ok (.invokevirtual 102, 3) := by decide +kernel
theorem dX4_reckonByHoles_139 : decode cX4_reckonByHoles 139 = .ok (.iinc 8 1, 3) := by decide +kernel
theorem dX4_reckonByHoles_142 : decode cX4_reckonByHoles 142 = .ok (.goto (-21), 3) := by decide +kernel
theorem dX4_reckonByHoles_145 : decode cX4_reckonByHoles 145 = .ok (.aload_n 0, 1) := by decide +kernel
theorem dX4_reckonByHoles_146 : decode cX4_reckonByHoles 146 = .ok (.aload_n 1, 1) := by decide +kernel
theorem dX4_reckonByHoles_147 : decode cX4_reckonByHoles 147 = .ok (.getfield 106, 3) := by decide +kernel
theorem dX4_reckonByHoles_150 : decode cX4_reckonByHoles 150 = .ok (.aload_n 1, 1) := by decide +kernel
theorem dX4_reckonByHoles_151 : decode cX4_reckonByHoles 151 = .ok (.invokevirtual 109, 3) := by decide +kernel
theorem dX4_reckonByHoles_154 : decode cX4_reckonByHoles 154 = .ok (.invokevirtual 112, 3) := by decide +kernel
theorem dX4_reckonByHoles_157 : decode cX4_reckonByHoles 157 = .ok (.aload_n 2, 1) := by decide +kernel
theorem dX4_reckonByHoles_158 : decode cX4_reckonByHoles 158 = .ok (.iload 4, 2) := by decide +kernel
theorem dX4_reckonByHoles_160 : decode cX4_reckonByHoles 160 = .ok (.invokevirtual 62, 3) := by decide +kernel
theorem dX4_reckonByHoles_163 : decode cX4_reckonByHoles 163 = .ok (.istore 8, 2) := by decide +kernel
theorem dX4_reckonByHoles_165 : decode cX4_reckonByHoles 165 = .ok (.iconst 0, 1) := by decide +kernel
theorem dX4_reckonByHoles_166 : decode cX4_reckonByHoles 166 = .ok (.istore 9, 2) := by decide +kernel
theorem dX4_reckonByHoles_168 : decode cX4_reckonByHoles 168 = .ok (.iload 9, 2) := by decide +kernel
theorem dX4_reckonByHoles_170 : decode cX4_reckonByHoles 170 = .ok (.iload 8, 2) := by decide +kernel
theorem dX4_reckonByHoles_172 : decode cX4_reckonByHoles 172 = .ok (.if_icmp .ge 50, 3) := by decide +kernel
theorem dX4_reckonByHoles_175 : decode cX4_reckonByHoles 175 = .ok (.aload_n 0, 1) := by decide +kernel
theorem dX4_reckonByHoles_176 : decode cX4_reckonByHoles 176 = .ok (.getfield 25, 3) := by decide +kernel
theorem dX4_reckonByHoles_179 : decode cX4_reckonByHoles 179 = .ok (.aload_n 0, 1) := by decide +kernel
theorem dX4_reckonByHoles_180 : decode cX4_reckonByHoles 180 = .ok (.getfield 22, 3) := by decide +kernel
theorem dX4_reckonByHoles_183 : decode cX4_reckonByHoles 183 = .ok (.iload_n 3, 1) := by decide +kernel
theorem dX4_reckonByHoles_184 : decode cX4_reckonByHoles 184 = .ok (.invokestatic 58, 3) := by decide +kernel
theorem dX4_reckonByHoles_187 : decode cX4_reckonByHoles 187 = .ok (.iload 9, 2) := by decide +kernel
theorem dX4_reckonByHoles_189 : decode cX4_reckonByHoles 189 = .ok (.iadd, 1) := by decide +kernel
theorem dX4_reckonByHoles_190 : decode cX4_reckonByHoles 190 = .ok (.aload_n 0, 1) := by decide +kernel
theorem dX4_reckonByHoles_191 : decode cX4_reckonByHoles 191 = .ok (.getfield 28, 3) := by decide +kernel
theorem dX4_reckonByHoles_194 : decode cX4_reckonByHoles 194 = .ok (.aload_n 2, 1) := by decide +kernel
theorem dX4_reckonByHoles_195 : decode cX4_reckonByHoles 195 = .ok (.getfield 99, 3) := by decide +kernel
theorem dX4_reckonByHoles_198 : decode cX4_reckonByHoles 198 = .ok (.aload_n 2, 1) := by decide +kernel
theorem dX4_reckonByHoles_199 : decode cX4_reckonByHoles 199 = .ok (.iload 4, 2) := by decide +kernel
theorem dX4_reckonByHoles_201 : decode cX4_reckonByHoles 201 = .ok (.invokevirtual 88, 3) := by decide +kernel
theorem dX4_reckonByHoles_204 : decode cX4_reckonByHoles 204 = .ok (.iload 9, 2) := by decide +kernel
theorem dX4_reckonByHoles_206 : decode cX4_reckonByHoles 206 = .ok (.iadd, 1) := by decide +kernel
theorem dX4_reckonByHoles_207 : decode cX4_reckonByHoles 207 = .ok (.invokestatic 58, 3) := by decide +kernel
theorem dX4_reckonByHoles_210 : decode cX4_reckonByHoles 210 = .ok (.invokestatic 58, 3) := by decide +kernel
theorem dX4_reckonByHoles_213 : decode cX4_reckonByHoles 213 = .ok (.invokestatic 51, 3) := by decide +kernel
theorem dX4_reckonByHoles_216 : decode cX4_reckonByHoles 216 = .ok (.iinc 9 1, 3) := by decide +kernel
theorem dX4_reckonByHoles_219 : decode cX4_reckonByHoles 219 = .ok (.goto (-51), 3) := by decide +kernel
theorem dX4_reckonByHoles_222 : decode cX4_reckonByHoles 222 = .ok (.return_, 1) := by decide +kernel
theorem dX4_spreadHole_0 : decode cX4_spreadHole 0 = .ok (.iconst 1, 1) := by decide +kernel
theorem dX4_spreadHole_1 : decode cX4_spreadHole 1 = .ok (.getstatic 116, 3) := by decide +kernel
theorem dX4_spreadHole_4 : decode cX4_spreadHole 4 = .ok (.iload_n 2, 1) := by decide +kernel
theorem dX4_spreadHole_5 : decode cX4_spreadHole 5 = .ok (.invokestatic 58, 3) := by decide +kernel
theorem dX4_spreadHole_8 : decode cX4_spreadHole 8 = .ok (.invokestatic 68, 3) := by decide +kernel
theorem dX4_spreadHole_11 : decode cX4_spreadHole 11 = .ok (.istore 4, 2) := by decide +kernel
theorem dX4_spreadHole_13 : decode cX4_spreadHole 13 = .ok (.iconst 0, 1) := by decide +kernel
theorem dX4_spreadHole_14 : decode cX4_spreadHole 14 = .ok (.istore 5, 2) := by decide +kernel
theorem dX4_spreadHole_16 : decode cX4_spreadHole 16 = .ok (.iload 5, 2) := by decide +kernel
theorem dX4_spreadHole_18 : decode cX4_spreadHole 18 = .ok (.iload_n 3, 1) := by decide +kernel
theorem dX4_spreadHole_19 : decode cX4_spreadHole 19 = .ok (.if_icmp .ge 171, 3) := by decide +kernel
theorem dX4_spreadHole_22 : decode cX4_spreadHole 22 = .ok (.iload 5, 2) := by decide +kernel
theorem dX4_spreadHole_24 : decode cX4_spreadHole 24 = .ok (.istore 6, 2) := by decide +kernel
theorem dX4_spreadHole_26 : decode cX4_spreadHole 26 = .ok (.iload 6, 2) := by decide +kernel
theorem dX4_spreadHole_28 : decode cX4_spreadHole 28 = .ok (.iload 5, 2) := by decide +kernel
theorem dX4_spreadHole_30 : decode cX4_spreadHole 30 = .ok (.iload 4, 2) := by decide +kernel
theorem dX4_spreadHole_32 : decode cX4_spreadHole 32 = .ok (.iadd, 1) := by decide +kernel
theorem dX4_spreadHole_33 : decode cX4_spreadHole 33 = .ok (.if_icmp .ge 145, 3) := by decide +kernel
theorem dX4_spreadHole_36 : decode cX4_spreadHole 36 = .ok (.aload_n 0, 1) := by decide +kernel
theorem dX4_spreadHole_37 : decode cX4_spreadHole 37 = .ok (.getfield 28, 3) := by decide +kernel
theorem dX4_spreadHole_40 : decode cX4_spreadHole 40 = .ok (.iload 6, 2) := by decide +kernel
theorem dX4_spreadHole_42 : decode cX4_spreadHole 42 = .ok (.invokestatic 58, 3) := by decide +kernel
theorem dX4_spreadHole_45 : decode cX4_spreadHole 45 = .ok (.istore 7, 2) := by decide +kernel
theorem dX4_spreadHole_47 : decode cX4_spreadHole 47 = .ok (.aload_n 0, 1) := by decide +kernel
theorem dX4_spreadHole_48 : decode cX4_spreadHole 48 = .ok (.getfield 28, 3) := by decide +kernel
theorem dX4_spreadHole_51 : decode cX4_spreadHole 51 = .ok (.iload 6, 2) := by decide +kernel
theorem dX4_spreadHole_53 : decode cX4_spreadHole 53 = .ok (.iload 4, 2) := by decide +kernel
theorem dX4_spreadHole_55 : decode cX4_spreadHole 55 = .ok (.iadd, 1) := by decide +kernel
theorem dX4_spreadHole_56 : decode cX4_spreadHole 56 = .ok (.invokestatic 58, 3) := by decide +kernel
theorem dX4_spreadHole_59 : decode cX4_spreadHole 59 = .ok (.istore 8, 2) := by decide +kernel
theorem dX4_spreadHole_61 : decode cX4_spreadHole 61 = .ok (.aload_n 0, 1) := by decide +kernel
theorem dX4_spreadHole_62 : decode cX4_spreadHole 62 = .ok (.getfield 28, 3) := by decide +kernel
theorem dX4_spreadHole_65 : decode cX4_spreadHole 65 = .ok (.iload 6, 2) := by decide +kernel
theorem dX4_spreadHole_67 : decode cX4_spreadHole 67 = .ok (.iconst 2, 1) := by decide +kernel
theorem dX4_spreadHole_68 : decode cX4_spreadHole 68 = .ok (.iload 4, 2) := by decide +kernel
theorem dX4_spreadHole_70 : decode cX4_spreadHole 70 = .ok (.imul, 1) := by decide +kernel
theorem dX4_spreadHole_71 : decode cX4_spreadHole 71 = .ok (.iadd, 1) := by decide +kernel
theorem dX4_spreadHole_72 : decode cX4_spreadHole 72 = .ok (.invokestatic 58, 3) := by decide +kernel
theorem dX4_spreadHole_75 : decode cX4_spreadHole 75 = .ok (.istore 9, 2) := by decide +kernel
theorem dX4_spreadHole_77 : decode cX4_spreadHole 77 = .ok (.iload 8, 2) := by decide +kernel
theorem dX4_spreadHole_79 : decode cX4_spreadHole 79 = .ok (.aload_n 1, 1) := by decide +kernel
theorem dX4_spreadHole_80 : decode cX4_spreadHole 80 = .ok (.getfield 119, 3) := by decide +kernel
theorem dX4_spreadHole_83 : decode cX4_spreadHole 83 = .ok (.iadd, 1) := by decide +kernel
theorem dX4_spreadHole_84 : decode cX4_spreadHole 84 = .ok (.istore 10, 2) := by decide +kernel
theorem dX4_spreadHole_86 : decode cX4_spreadHole 86 = .ok (.aload_n 0, 1) := by decide +kernel
theorem dX4_spreadHole_87 : decode cX4_spreadHole 87 = .ok (.getfield 28, 3) := by decide +kernel
theorem dX4_spreadHole_90 : decode cX4_spreadHole 90 = .ok (.iload 6, 2) := by decide +kernel
theorem dX4_spreadHole_92 : decode cX4_spreadHole 92 = .ok (.iload 7, 2) := by decide +kernel
theorem dX4_spreadHole_94 : decode cX4_spreadHole 94 = .ok (.iload 10, 2) := by decide +kernel
theorem dX4_spreadHole_96 : decode cX4_spreadHole 96 = .ok (.iload 9, 2) := by decide +kernel
theorem dX4_spreadHole_98 : decode cX4_spreadHole 98 = .ok (.aload_n 1, 1) := by decide +kernel
theorem dX4_spreadHole_99 : decode cX4_spreadHole 99 = .ok (.getfield 122, 3) := by decide +kernel
theorem dX4_spreadHole_102 : decode cX4_spreadHole 102 = .ok (.iadd, 1) := by decide +kernel
theorem dX4_spreadHole_103 : decode cX4_spreadHole 103 = .ok (.invokestatic 96, 3) := by decide +kernel
theorem dX4_spreadHole_106 : decode cX4_spreadHole 106 = .ok (.invokestatic 96, 3) := by decide +kernel
theorem dX4_spreadHole_109 : decode cX4_spreadHole 109 = .ok (.invokestatic 51, 3) := by decide +kernel
theorem dX4_spreadHole_112 : decode cX4_spreadHole 112 = .ok (.aload_n 0, 1) := by decide +kernel
theorem dX4_spreadHole_113 : decode cX4_spreadHole 113 = .ok (.getfield 28, 3) := by decide +kernel
theorem dX4_spreadHole_116 : decode cX4_spreadHole 116 = .ok (.iload 6, 2) := by decide +kernel
theorem dX4_spreadHole_118 : decode cX4_spreadHole 118 = .ok (.iload 4, 2) := by decide +kernel
theorem dX4_spreadHole_120 : decode cX4_spreadHole 120 = .ok (.iadd, 1) := by decide +kernel
theorem dX4_spreadHole_121 : decode cX4_spreadHole 121 = .ok (.iload 8, 2) := by decide +kernel
theorem dX4_spreadHole_123 : decode cX4_spreadHole 123 = .ok (.iload 7, 2) := by decide +kernel
theorem dX4_spreadHole_125 : decode cX4_spreadHole 125 = .ok (.iload 9, 2) := by decide +kernel
theorem dX4_spreadHole_127 : decode cX4_spreadHole 127 = .ok (.invokestatic 96, 3) := by decide +kernel
theorem dX4_spreadHole_130 : decode cX4_spreadHole 130 = .ok (.aload_n 1, 1) := by decide +kernel
theorem dX4_spreadHole_131 : decode cX4_spreadHole 131 = .ok (.getfield 119, 3) := by decide +kernel
theorem dX4_spreadHole_134 : decode cX4_spreadHole 134 = .ok (.iadd, 1) := by decide +kernel
theorem dX4_spreadHole_135 : decode cX4_spreadHole 135 = .ok (.invokestatic 96, 3) := by decide +kernel
theorem dX4_spreadHole_138 : decode cX4_spreadHole 138 = .ok (.invokestatic 51, 3) := by decide +kernel
theorem dX4_spreadHole_141 : decode cX4_spreadHole 141 = .ok (.aload_n 0, 1) := by decide +kernel
theorem dX4_spreadHole_142 : decode cX4_spreadHole 142 = .ok (.getfield 28, 3) := by decide +kernel
theorem dX4_spreadHole_145 : decode cX4_spreadHole 145 = .ok (.iload 6, 2) := by decide +kernel
theorem dX4_spreadHole_147 : decode cX4_spreadHole 147 = .ok (.iconst 2, 1) := by decide +kernel
theorem dX4_spreadHole_148 : decode cX4_spreadHole 148 = .ok (.iload 4, 2) := by decide +kernel
theorem dX4_spreadHole_150 : decode cX4_spreadHole 150 = .ok (.imul, 1) := by decide +kernel
theorem dX4_spreadHole_151 : decode cX4_spreadHole 151 = .ok (.iadd, 1) := by decide +kernel
theorem dX4_spreadHole_152 : decode cX4_spreadHole 152 = .ok (.iload 9, 2) := by decide +kernel
theorem dX4_spreadHole_154 : decode cX4_spreadHole 154 = .ok (.iload 10, 2) := by decide +kernel
theorem dX4_spreadHole_156 : decode cX4_spreadHole 156 = .ok (.iload 7, 2) := by decide +kernel
theorem dX4_spreadHole_158 : decode cX4_spreadHole 158 = .ok (.aload_n 1, 1) := by decide +kernel
theorem dX4_spreadHole_159 : decode cX4_spreadHole 159 = .ok (.getfield 122, 3) := by decide +kernel
theorem dX4_spreadHole_162 : decode cX4_spreadHole 162 = .ok (.iadd, 1) := by decide +kernel
theorem dX4_spreadHole_163 : decode cX4_spreadHole 163 = .ok (.invokestatic 96, 3) := by decide +kernel
theorem dX4_spreadHole_166 : decode cX4_spreadHole 166 = .ok (.invokestatic 96, 3) := by decide +kernel
theorem dX4_spreadHole_169 : decode cX4_spreadHole 169 = .ok (.invokestatic 51, 3) := by decide +kernel
theorem dX4_spreadHole_172 : decode cX4_spreadHole 172 = .ok (.iinc 6 1, 3) := by decide +kernel
theorem dX4_spreadHole_175 : decode cX4_spreadHole 175 = .ok (.goto (-149), 3) := by decide +kernel
theorem dX4_spreadHole_178 : decode cX4_spreadHole 178 = .ok (.iload 5, 2) := by decide +kernel
theorem dX4_spreadHole_180 : decode cX4_spreadHole 180 = .ok (.iconst 3, 1) := by decide +kernel
theorem dX4_spreadHole_181 : decode cX4_spreadHole 181 = .ok (.iload 4, 2) := by decide +kernel
theorem dX4_spreadHole_183 : decode cX4_spreadHole 183 = .ok (.imul, 1) := by decide +kernel
theorem dX4_spreadHole_184 : decode cX4_spreadHole 184 = .ok (.iadd, 1) := by decide +kernel
theorem dX4_spreadHole_185 : decode cX4_spreadHole 185 = .ok (.istore 5, 2) := by decide +kernel
theorem dX4_spreadHole_187 : decode cX4_spreadHole 187 = .ok (.goto (-171), 3) := by decide +kernel
theorem dX4_spreadHole_190 : decode cX4_spreadHole 190 = .ok (.return_, 1) := by decide +kernel
theorem dX4_spreadBreath_0 : decode cX4_spreadBreath 0 = .ok (.iconst 0, 1) := by decide +kernel
theorem dX4_spreadBreath_1 : decode cX4_spreadBreath 1 = .ok (.istore_n 3, 1) := by decide +kernel
theorem dX4_spreadBreath_2 : decode cX4_spreadBreath 2 = .ok (.iload_n 3, 1) := by decide +kernel
theorem dX4_spreadBreath_3 : decode cX4_spreadBreath 3 = .ok (.iload_n 2, 1) := by decide +kernel
theorem dX4_spreadBreath_4 : decode cX4_spreadBreath 4 = .ok (.if_icmp .ge 67, 3) := by decide +kernel
theorem dX4_spreadBreath_7 : decode cX4_spreadBreath 7 = .ok (.aload_n 0, 1) := by decide +kernel
theorem dX4_spreadBreath_8 : decode cX4_spreadBreath 8 = .ok (.getfield 28, 3) := by decide +kernel
theorem dX4_spreadBreath_11 : decode cX4_spreadBreath 11 = .ok (.iload_n 3, 1) := by decide +kernel
theorem dX4_spreadBreath_12 : decode cX4_spreadBreath 12 = .ok (.invokestatic 58, 3) := by decide +kernel
theorem dX4_spreadBreath_15 : decode cX4_spreadBreath 15 = .ok (.istore 4, 2) := by decide +kernel
theorem dX4_spreadBreath_17 : decode cX4_spreadBreath 17 = .ok (.aload_n 0, 1) := by decide +kernel
theorem dX4_spreadBreath_18 : decode cX4_spreadBreath 18 = .ok (.getfield 28, 3) := by decide +kernel
theorem dX4_spreadBreath_21 : decode cX4_spreadBreath 21 = .ok (.iload_n 3, 1) := by decide +kernel
theorem dX4_spreadBreath_22 : decode cX4_spreadBreath 22 = .ok (.iload_n 2, 1) := by decide +kernel
theorem dX4_spreadBreath_23 : decode cX4_spreadBreath 23 = .ok (.iadd, 1) := by decide +kernel
theorem dX4_spreadBreath_24 : decode cX4_spreadBreath 24 = .ok (.invokestatic 58, 3) := by decide +kernel
theorem dX4_spreadBreath_27 : decode cX4_spreadBreath 27 = .ok (.istore 5, 2) := by decide +kernel
theorem dX4_spreadBreath_29 : decode cX4_spreadBreath 29 = .ok (.aload_n 0, 1) := by decide +kernel
theorem dX4_spreadBreath_30 : decode cX4_spreadBreath 30 = .ok (.getfield 28, 3) := by decide +kernel
theorem dX4_spreadBreath_33 : decode cX4_spreadBreath 33 = .ok (.iload_n 3, 1) := by decide +kernel
theorem dX4_spreadBreath_34 : decode cX4_spreadBreath 34 = .ok (.iload 4, 2) := by decide +kernel
theorem dX4_spreadBreath_36 : decode cX4_spreadBreath 36 = .ok (.iload 5, 2) := by decide +kernel
theorem dX4_spreadBreath_38 : decode cX4_spreadBreath 38 = .ok (.iload_n 1, 1) := by decide +kernel
theorem dX4_spreadBreath_39 : decode cX4_spreadBreath 39 = .ok (.iadd, 1) := by decide +kernel
theorem dX4_spreadBreath_40 : decode cX4_spreadBreath 40 = .ok (.invokestatic 96, 3) := by decide +kernel
theorem dX4_spreadBreath_43 : decode cX4_spreadBreath 43 = .ok (.invokestatic 51, 3) := by decide +kernel
theorem dX4_spreadBreath_46 : decode cX4_spreadBreath 46 = .ok (.aload_n 0, 1) := by decide +kernel
theorem dX4_spreadBreath_47 : decode cX4_spreadBreath 47 = .ok (.getfield 28, 3) := by decide +kernel
theorem dX4_spreadBreath_50 : decode cX4_spreadBreath 50 = .ok (.iload_n 3, 1) := by decide +kernel
theorem dX4_spreadBreath_51 : decode cX4_spreadBreath 51 = .ok (.iload_n 2, 1) := by decide +kernel
theorem dX4_spreadBreath_52 : decode cX4_spreadBreath 52 = .ok (.iadd, 1) := by decide +kernel
theorem dX4_spreadBreath_53 : decode cX4_spreadBreath 53 = .ok (.iload 5, 2) := by decide +kernel
theorem dX4_spreadBreath_55 : decode cX4_spreadBreath 55 = .ok (.iload 4, 2) := by decide +kernel
theorem dX4_spreadBreath_57 : decode cX4_spreadBreath 57 = .ok (.iload_n 1, 1) := by decide +kernel
theorem dX4_spreadBreath_58 : decode cX4_spreadBreath 58 = .ok (.iadd, 1) := by decide +kernel
theorem dX4_spreadBreath_59 : decode cX4_spreadBreath 59 = .ok (.invokestatic 96, 3) := by decide +kernel
theorem dX4_spreadBreath_62 : decode cX4_spreadBreath 62 = .ok (.invokestatic 51, 3) := by decide +kernel
theorem dX4_spreadBreath_65 : decode cX4_spreadBreath 65 = .ok (.iinc 3 1, 3) := by decide +kernel
theorem dX4_spreadBreath_68 : decode cX4_spreadBreath 68 = .ok (.goto (-66), 3) := by decide +kernel
theorem dX4_spreadBreath_71 : decode cX4_spreadBreath 71 = .ok (.return_, 1) := by decide +kernel
theorem dX4_chooseAt_0 : decode cX4_chooseAt 0 = .ok (.aload_n 1, 1) := by decide +kernel
theorem dX4_chooseAt_1 : decode cX4_chooseAt 1 = .ok (.iload_n 3, 1) := by decide +kernel
theorem dX4_chooseAt_2 : decode cX4_chooseAt 2 = .ok (.invokevirtual 40, 3) := by decide +kernel
theorem dX4_chooseAt_5 : decode cX4_chooseAt 5 = .ok (.ifCond .eq 22, 3) := by decide +kernel
theorem dX4_chooseAt_8 : decode cX4_chooseAt 8 = .ok (.aload_n 0, 1) := by decide +kernel
theorem dX4_chooseAt_9 : decode cX4_chooseAt 9 = .ok (.getfield 15, 3) := by decide +kernel
theorem dX4_chooseAt_12 : decode cX4_chooseAt 12 = .ok (.iload_n 3, 1) := by decide +kernel
theorem dX4_chooseAt_13 : decode cX4_chooseAt 13 = .ok (.iconst (-1), 1) := by decide +kernel
theorem dX4_chooseAt_14 : decode cX4_chooseAt 14 = .ok (.invokestatic 51, 3) := by decide +kernel
theorem dX4_chooseAt_17 : decode cX4_chooseAt 17 = .ok (.aload_n 0, 1) := by decide +kernel
theorem dX4_chooseAt_18 : decode cX4_chooseAt 18 = .ok (.getfield 19, 3) := by decide +kernel
theorem dX4_chooseAt_21 : decode cX4_chooseAt 21 = .ok (.iload_n 3, 1) := by decide +kernel
theorem dX4_chooseAt_22 : decode cX4_chooseAt 22 = .ok (.iconst (-1), 1) := by decide +kernel
theorem dX4_chooseAt_23 : decode cX4_chooseAt 23 = .ok (.invokestatic 51, 3) := by decide +kernel
theorem dX4_chooseAt_26 : decode cX4_chooseAt 26 = .ok (.return_, 1) := by decide +kernel
theorem dX4_chooseAt_27 : decode cX4_chooseAt 27 = .ok (.iload_n 3, 1) := by decide +kernel
theorem dX4_chooseAt_28 : decode cX4_chooseAt 28 = .ok (.ifCond .ne 7, 3) := by decide +kernel
theorem dX4_chooseAt_31 : decode cX4_chooseAt 31 = .ok (.iconst (-1), 1) := by decide +kernel
theorem dX4_chooseAt_32 : decode cX4_chooseAt 32 = .ok (.goto 13, 3) := by decide +kernel
theorem dX4_chooseAt_35 : decode cX4_chooseAt 35 = .ok (.aload_n 0, 1) := by decide +kernel
theorem dX4_chooseAt_36 : decode cX4_chooseAt 36 = .ok (.getfield 19, 3) := by decide +kernel
theorem dX4_chooseAt_39 : decode cX4_chooseAt 39 = .ok (.iload_n 3, 1) := by decide +kernel
theorem dX4_chooseAt_40 : decode cX4_chooseAt 40 = .ok (.iconst 1, 1) := by decide +kernel
theorem dX4_chooseAt_41 : decode cX4_chooseAt 41 = .ok (.isub, 1) := by decide +kernel
theorem dX4_chooseAt_42 : decode cX4_chooseAt 42 = .ok (.invokestatic 58, 3) := by decide +kernel
theorem dX4_chooseAt_45 : decode cX4_chooseAt 45 = .ok (.istore 5, 2) := by decide +kernel
theorem dX4_chooseAt_47 : decode cX4_chooseAt 47 = .ok (.aload_n 0, 1) := by decide +kernel
theorem dX4_chooseAt_48 : decode cX4_chooseAt 48 = .ok (.aload_n 1, 1) := by decide +kernel
theorem dX4_chooseAt_49 : decode cX4_chooseAt 49 = .ok (.aload_n 2, 1) := by decide +kernel
theorem dX4_chooseAt_50 : decode cX4_chooseAt 50 = .ok (.iload_n 3, 1) := by decide +kernel
theorem dX4_chooseAt_51 : decode cX4_chooseAt 51 = .ok (.aload_n 1, 1) := by decide +kernel
theorem dX4_chooseAt_52 : decode cX4_chooseAt 52 = .ok (.getfield 55, 3) := by decide +kernel
theorem dX4_chooseAt_55 : decode cX4_chooseAt 55 = .ok (.iload_n 3, 1) := by decide +kernel
theorem dX4_chooseAt_56 : decode cX4_chooseAt 56 = .ok (.invokestatic 58, 3) := by decide +kernel
theorem dX4_chooseAt_59 : decode cX4_chooseAt 59 = .ok (.iload 4, 2) := by decide +kernel
theorem dX4_chooseAt_61 : decode cX4_chooseAt 61 = .ok (.iadd, 1) := by decide +kernel
theorem dX4_chooseAt_62 : decode cX4_chooseAt 62 = .ok (.iload 5, 2) := by decide +kernel
theorem dX4_chooseAt_64 : decode cX4_chooseAt 64 = .ok (.invokevirtual 125, 3) := by decide +kernel
theorem dX4_chooseAt_67 : decode cX4_chooseAt 67 = .ok (.istore 6, 2) := by decide +kernel
theorem dX4_chooseAt_69 : decode cX4_chooseAt 69 = .ok (.iload 6, 2) := by decide +kernel
theorem dX4_chooseAt_71 : decode cX4_chooseAt 71 = .ok (.iconst (-1), 1) := by decide +kernel
theorem dX4_chooseAt_72 : decode cX4_chooseAt 72 = .ok (.if_icmp .ne 9, 3) := by decide +kernel
theorem dX4_chooseAt_75 : decode cX4_chooseAt 75 = .ok (.aload_n 0, 1) := by decide +kernel
theorem dX4_chooseAt_76 : decode cX4_chooseAt 76 = .ok (.iconst (-1), 1) := by decide +kernel
theorem dX4_chooseAt_77 : decode cX4_chooseAt 77 = .ok (.putfield 9, 3) := by decide +kernel
theorem dX4_chooseAt_80 : decode cX4_chooseAt 80 = .ok (.return_, 1) := by decide +kernel
theorem dX4_chooseAt_81 : decode cX4_chooseAt 81 = .ok (.aload_n 0, 1) := by decide +kernel
theorem dX4_chooseAt_82 : decode cX4_chooseAt 82 = .ok (.getfield 15, 3) := by decide +kernel
theorem dX4_chooseAt_85 : decode cX4_chooseAt 85 = .ok (.iload_n 3, 1) := by decide +kernel
theorem dX4_chooseAt_86 : decode cX4_chooseAt 86 = .ok (.aload_n 2, 1) := by decide +kernel
theorem dX4_chooseAt_87 : decode cX4_chooseAt 87 = .ok (.getfield 99, 3) := by decide +kernel
theorem dX4_chooseAt_90 : decode cX4_chooseAt 90 = .ok (.iload 6, 2) := by decide +kernel
theorem dX4_chooseAt_92 : decode cX4_chooseAt 92 = .ok (.invokestatic 58, 3) := by decide +kernel
theorem dX4_chooseAt_95 : decode cX4_chooseAt 95 = .ok (.invokestatic 51, 3) := by decide +kernel
theorem dX4_chooseAt_98 : decode cX4_chooseAt 98 = .ok (.aload_n 0, 1) := by decide +kernel
theorem dX4_chooseAt_99 : decode cX4_chooseAt 99 = .ok (.getfield 19, 3) := by decide +kernel
theorem dX4_chooseAt_102 : decode cX4_chooseAt 102 = .ok (.iload_n 3, 1) := by decide +kernel
theorem dX4_chooseAt_103 : decode cX4_chooseAt 103 = .ok (.aload_n 2, 1) := by decide +kernel
theorem dX4_chooseAt_104 : decode cX4_chooseAt 104 = .ok (.getfield 91, 3) := by decide +kernel
theorem dX4_chooseAt_107 : decode cX4_chooseAt 107 = .ok (.iload 6, 2) := by decide +kernel
theorem dX4_chooseAt_109 : decode cX4_chooseAt 109 = .ok (.invokestatic 58, 3) := by decide +kernel
theorem dX4_chooseAt_112 : decode cX4_chooseAt 112 = .ok (.invokestatic 51, 3) := by decide +kernel
theorem dX4_chooseAt_115 : decode cX4_chooseAt 115 = .ok (.aload_n 0, 1) := by decide +kernel
theorem dX4_chooseAt_116 : decode cX4_chooseAt 116 = .ok (.dup, 1) := by decide +kernel
theorem dX4_chooseAt_117 : decode cX4_chooseAt 117 = .ok (.getfield 9, 3) := by decide +kernel
theorem dX4_chooseAt_120 : decode cX4_chooseAt 120 = .ok (.aload_n 0, 1) := by decide +kernel
theorem dX4_chooseAt_121 : decode cX4_chooseAt 121 = .ok (.aload_n 1, 1) := by decide +kernel
theorem dX4_chooseAt_122 : decode cX4_chooseAt 122 = .ok (.iload_n 3, 1) := by decide +kernel
theorem dX4_chooseAt_123 : decode cX4_chooseAt 123 = .ok (.invokevirtual 129, 3) := by decide +kernel
theorem dX4_chooseAt_126 : decode cX4_chooseAt 126 = .ok (.iadd, 1) := by decide +kernel
theorem dX4_chooseAt_127 : decode cX4_chooseAt 127 = .ok (.putfield 9, 3) := by decide +kernel
theorem dX4_chooseAt_130 : decode cX4_chooseAt 130 = .ok (.return_, 1) := by decide +kernel
theorem dX4_pick_0 : decode cX4_pick 0 = .ok (.aload_n 2, 1) := by decide +kernel
theorem dX4_pick_1 : decode cX4_pick 1 = .ok (.iload 4, 2) := by decide +kernel
theorem dX4_pick_3 : decode cX4_pick 3 = .ok (.invokevirtual 88, 3) := by decide +kernel
theorem dX4_pick_6 : decode cX4_pick 6 = .ok (.istore 6, 2) := by decide +kernel
theorem dX4_pick_8 : decode cX4_pick 8 = .ok (.aload_n 2, 1) := by decide +kernel
theorem dX4_pick_9 : decode cX4_pick 9 = .ok (.iload 4, 2) := by decide +kernel
theorem dX4_pick_11 : decode cX4_pick 11 = .ok (.invokevirtual 62, 3) := by decide +kernel
theorem dX4_pick_14 : decode cX4_pick 14 = .ok (.istore 7, 2) := by decide +kernel
theorem dX4_pick_16 : decode cX4_pick 16 = .ok (.iconst (-1), 1) := by decide +kernel
theorem dX4_pick_17 : decode cX4_pick 17 = .ok (.istore 8, 2) := by decide +kernel
theorem dX4_pick_19 : decode cX4_pick 19 = .ok (.ldc 133, 2) := by decide +kernel
theorem dX4_pick_21 : decode cX4_pick 21 = .ok (.istore 9, 2) := by decide +kernel
theorem dX4_pick_23 : decode cX4_pick 23 = .ok (.iconst 0, 1) := by decide +kernel
theorem dX4_pick_24 : decode cX4_pick 24 = .ok (.istore 10, 2) := by decide +kernel
theorem dX4_pick_26 : decode cX4_pick 26 = .ok (.iload 10, 2) := by decide +kernel
theorem dX4_pick_28 : decode cX4_pick 28 = .ok (.iload 7, 2) := by decide +kernel
theorem dX4_pick_30 : decode cX4_pick 30 = .ok (.if_icmp .ge 76, 3) := by decide +kernel
theorem dX4_pick_33 : decode cX4_pick 33 = .ok (.aload_n 0, 1) := by decide +kernel
theorem dX4_pick_34 : decode cX4_pick 34 = .ok (.getfield 25, 3) := by decide +kernel
theorem dX4_pick_37 : decode cX4_pick 37 = .ok (.aload_n 0, 1) := by decide +kernel
theorem dX4_pick_38 : decode cX4_pick 38 = .ok (.getfield 22, 3) := by decide +kernel
theorem dX4_pick_41 : decode cX4_pick 41 = .ok (.iload_n 3, 1) := by decide +kernel
theorem dX4_pick_42 : decode cX4_pick 42 = .ok (.invokestatic 58, 3) := by decide +kernel
theorem dX4_pick_45 : decode cX4_pick 45 = .ok (.iload 10, 2) := by decide +kernel
theorem dX4_pick_47 : decode cX4_pick 47 = .ok (.iadd, 1) := by decide +kernel
theorem dX4_pick_48 : decode cX4_pick 48 = .ok (.invokestatic 58, 3) := by decide +kernel
theorem dX4_pick_51 : decode cX4_pick 51 = .ok (.istore 11, 2) := by decide +kernel
theorem dX4_pick_53 : decode cX4_pick 53 = .ok (.iload 5, 2) := by decide +kernel
theorem dX4_pick_55 : decode cX4_pick 55 = .ok (.iconst (-1), 1) := by decide +kernel
theorem dX4_pick_56 : decode cX4_pick 56 = .ok (.if_icmp .eq 26, 3) := by decide +kernel
theorem dX4_pick_59 : decode cX4_pick 59 = .ok (.iload 11, 2) := by decide +kernel
theorem dX4_pick_61 : decode cX4_pick 61 = .ok (.aload_n 1, 1) := by decide +kernel
theorem dX4_pick_62 : decode cX4_pick 62 = .ok (.iload 5, 2) := by decide +kernel
theorem dX4_pick_64 : decode cX4_pick 64 = .ok (.aload_n 2, 1) := by decide +kernel
theorem dX4_pick_65 : decode cX4_pick 65 = .ok (.getfield 91, 3) := by decide +kernel
theorem dX4_pick_68 : decode cX4_pick 68 = .ok (.iload 6, 2) := by decide +kernel
theorem dX4_pick_70 : decode cX4_pick 70 = .ok (.iload 10, 2) := by decide +kernel
theorem dX4_pick_72 : decode cX4_pick 72 = .ok (.iadd, 1) := by decide +kernel
theorem dX4_pick_73 : decode cX4_pick 73 = .ok (.invokestatic 58, 3) := by decide +kernel
theorem dX4_pick_76 : decode cX4_pick 76 = .ok (.invokevirtual 93, 3) := by decide +kernel
theorem dX4_pick_79 : decode cX4_pick 79 = .ok (.iadd, 1) := by decide +kernel
theorem dX4_pick_80 : decode cX4_pick 80 = .ok (.istore 11, 2) := by decide +kernel
theorem dX4_pick_82 : decode cX4_pick 82 = .ok (.iload 11, 2) := by decide +kernel
theorem dX4_pick_84 : decode cX4_pick 84 = .ok (.iload 9, 2) := by decide +kernel
theorem dX4_pick_86 : decode cX4_pick 86 = .ok (.if_icmp .ge 14, 3) := by decide +kernel
theorem dX4_pick_89 : decode cX4_pick 89 = .ok (.iload 11, 2) := by decide +kernel
theorem dX4_pick_91 : decode cX4_pick 91 = .ok (.istore 9, 2) := by decide +kernel
theorem dX4_pick_93 : decode cX4_pick 93 = .ok (.iload 6, 2) := by decide +kernel
theorem dX4_pick_95 : decode cX4_pick 95 = .ok (.iload 10, 2) := by decide +kernel
theorem dX4_pick_97 : decode cX4_pick 97 = .ok (.iadd, 1) := by decide +kernel
theorem dX4_pick_98 : decode cX4_pick 98 = .ok (.istore 8, 2) := by decide +kernel
theorem dX4_pick_100 : decode cX4_pick 100 = .ok (.iinc 10 1, 3) := by decide +kernel
theorem dX4_pick_103 : decode cX4_pick 103 = .ok (.goto (-77), 3) := by decide +kernel
theorem dX4_pick_106 : decode cX4_pick 106 = .ok (.iload 8, 2) := by decide +kernel
theorem dX4_pick_108 : decode cX4_pick 108 = .ok (.ireturn, 1) := by decide +kernel
theorem dX4_isChangeTo_0 : decode cX4_isChangeTo 0 = .ok (.iload_n 1, 1) := by decide +kernel
theorem dX4_isChangeTo_1 : decode cX4_isChangeTo 1 = .ok (.ifCond .le 33, 3) := by decide +kernel
theorem dX4_isChangeTo_4 : decode cX4_isChangeTo 4 = .ok (.aload_n 0, 1) := by decide +kernel
theorem dX4_isChangeTo_5 : decode cX4_isChangeTo 5 = .ok (.getfield 19, 3) := by decide +kernel
theorem dX4_isChangeTo_8 : decode cX4_isChangeTo 8 = .ok (.iload_n 1, 1) := by decide +kernel
theorem dX4_isChangeTo_9 : decode cX4_isChangeTo 9 = .ok (.iconst 1, 1) := by decide +kernel
theorem dX4_isChangeTo_10 : decode cX4_isChangeTo 10 = .ok (.isub, 1) := by decide +kernel
theorem dX4_isChangeTo_11 : decode cX4_isChangeTo 11 = .ok (.invokestatic 58, 3) := by decide +kernel
theorem dX4_isChangeTo_14 : decode cX4_isChangeTo 14 = .ok (.iconst (-1), 1) := by decide +kernel
theorem dX4_isChangeTo_15 : decode cX4_isChangeTo 15 = .ok (.if_icmp .eq 19, 3) := by decide +kernel
theorem dX4_isChangeTo_18 : decode cX4_isChangeTo 18 = .ok (.aload_n 0, 1) := by decide +kernel
theorem dX4_isChangeTo_19 : decode cX4_isChangeTo 19 = .ok (.getfield 19, 3) := by decide +kernel
theorem dX4_isChangeTo_22 : decode cX4_isChangeTo 22 = .ok (.iload_n 1, 1) := by decide +kernel
theorem dX4_isChangeTo_23 : decode cX4_isChangeTo 23 = .ok (.invokestatic 58, 3) := by decide +kernel
theorem dX4_isChangeTo_26 : decode cX4_isChangeTo 26 = .ok (.iconst (-1), 1) := by decide +kernel
theorem dX4_isChangeTo_27 : decode cX4_isChangeTo 27 = .ok (.if_icmp .eq 7, 3) := by decide +kernel
theorem dX4_isChangeTo_30 : decode cX4_isChangeTo 30 = .ok (.iconst 1, 1) := by decide +kernel
theorem dX4_isChangeTo_31 : decode cX4_isChangeTo 31 = .ok (.goto 4, 3) := by decide +kernel
theorem dX4_isChangeTo_34 : decode cX4_isChangeTo 34 = .ok (.iconst 0, 1) := by decide +kernel
theorem dX4_isChangeTo_35 : decode cX4_isChangeTo 35 = .ok (.ireturn, 1) := by decide +kernel
theorem dX4_priceTo_0 : decode cX4_priceTo 0 = .ok (.aload_n 0, 1) := by decide +kernel
theorem dX4_priceTo_1 : decode cX4_priceTo 1 = .ok (.iload_n 2, 1) := by decide +kernel
theorem dX4_priceTo_2 : decode cX4_priceTo 2 = .ok (.invokevirtual 134, 3) := by decide +kernel
theorem dX4_priceTo_5 : decode cX4_priceTo 5 = .ok (.ifCond .eq 28, 3) := by decide +kernel
theorem dX4_priceTo_8 : decode cX4_priceTo 8 = .ok (.aload_n 1, 1) := by decide +kernel
theorem dX4_priceTo_9 : decode cX4_priceTo 9 = .ok (.aload_n 0, 1) := by decide +kernel
theorem dX4_priceTo_10 : decode cX4_priceTo 10 = .ok (.getfield 19, 3) := by decide +kernel
theorem dX4_priceTo_13 : decode cX4_priceTo 13 = .ok (.iload_n 2, 1) := by decide +kernel
theorem dX4_priceTo_14 : decode cX4_priceTo 14 = .ok (.iconst 1, 1) := by decide +kernel
theorem dX4_priceTo_15 : decode cX4_priceTo 15 = .ok (.isub, 1) := by decide +kernel
theorem dX4_priceTo_16 : decode cX4_priceTo 16 = .ok (.invokestatic 58, 3) := by decide +kernel
theorem dX4_priceTo_19 : decode cX4_priceTo 19 = .ok (.aload_n 0, 1) := by decide +kernel
theorem dX4_priceTo_20 : decode cX4_priceTo 20 = .ok (.getfield 19, 3) := by decide +kernel
theorem dX4_priceTo_23 : decode cX4_priceTo 23 = .ok (.iload_n 2, 1) := by decide +kernel
theorem dX4_priceTo_24 : decode cX4_priceTo 24 = .ok (.invokestatic 58, 3) := by decide +kernel
theorem dX4_priceTo_27 : decode cX4_priceTo 27 = .ok (.invokevirtual 93, 3) := by decide +kernel
theorem dX4_priceTo_30 : decode cX4_priceTo 30 = .ok (.goto 4, 3) := by decide +kernel
theorem dX4_priceTo_33 : decode cX4_priceTo 33 = .ok (.iconst 0, 1) := by decide +kernel
theorem dX4_priceTo_34 : decode cX4_priceTo 34 = .ok (.ireturn, 1) := by decide +kernel
theorem dJ6_bitCount_0f7a4_0 : decode cJ6_bitCount_0f7a4 0 = .ok (.iload_n 0, 1) := by decide +kernel
theorem dJ6_bitCount_0f7a4_1 : decode cJ6_bitCount_0f7a4 1 = .ok (.iload_n 0, 1) := by decide +kernel
theorem dJ6_bitCount_0f7a4_2 : decode cJ6_bitCount_0f7a4 2 = .ok (.iconst 1, 1) := by decide +kernel
theorem dJ6_bitCount_0f7a4_3 : decode cJ6_bitCount_0f7a4 3 = .ok (.iushr, 1) := by decide +kernel
theorem dJ6_bitCount_0f7a4_4 : decode cJ6_bitCount_0f7a4 4 = .ok (.ldc_w 265, 3) := by decide +kernel
theorem dJ6_bitCount_0f7a4_7 : decode cJ6_bitCount_0f7a4 7 = .ok (.iand, 1) := by decide +kernel
theorem dJ6_bitCount_0f7a4_8 : decode cJ6_bitCount_0f7a4 8 = .ok (.isub, 1) := by decide +kernel
theorem dJ6_bitCount_0f7a4_9 : decode cJ6_bitCount_0f7a4 9 = .ok (.istore_n 0, 1) := by decide +kernel
theorem dJ6_bitCount_0f7a4_10 : decode cJ6_bitCount_0f7a4 10 = .ok (.iload_n 0, 1) := by decide +kernel
theorem dJ6_bitCount_0f7a4_11 : decode cJ6_bitCount_0f7a4 11 = .ok (.ldc_w 266, 3) := by decide +kernel
theorem dJ6_bitCount_0f7a4_14 : decode cJ6_bitCount_0f7a4 14 = .ok (.iand, 1) := by decide +kernel
theorem dJ6_bitCount_0f7a4_15 : decode cJ6_bitCount_0f7a4 15 = .ok (.iload_n 0, 1) := by decide +kernel
theorem dJ6_bitCount_0f7a4_16 : decode cJ6_bitCount_0f7a4 16 = .ok (.iconst 2, 1) := by decide +kernel
theorem dJ6_bitCount_0f7a4_17 : decode cJ6_bitCount_0f7a4 17 = .ok (.iushr, 1) := by decide +kernel
theorem dJ6_bitCount_0f7a4_18 : decode cJ6_bitCount_0f7a4 18 = .ok (.ldc_w 266, 3) := by decide +kernel
theorem dJ6_bitCount_0f7a4_21 : decode cJ6_bitCount_0f7a4 21 = .ok (.iand, 1) := by decide +kernel
theorem dJ6_bitCount_0f7a4_22 : decode cJ6_bitCount_0f7a4 22 = .ok (.iadd, 1) := by decide +kernel
theorem dJ6_bitCount_0f7a4_23 : decode cJ6_bitCount_0f7a4 23 = .ok (.istore_n 0, 1) := by decide +kernel
theorem dJ6_bitCount_0f7a4_24 : decode cJ6_bitCount_0f7a4 24 = .ok (.iload_n 0, 1) := by decide +kernel
theorem dJ6_bitCount_0f7a4_25 : decode cJ6_bitCount_0f7a4 25 = .ok (.iload_n 0, 1) := by decide +kernel
theorem dJ6_bitCount_0f7a4_26 : decode cJ6_bitCount_0f7a4 26 = .ok (.iconst 4, 1) := by decide +kernel
theorem dJ6_bitCount_0f7a4_27 : decode cJ6_bitCount_0f7a4 27 = .ok (.iushr, 1) := by decide +kernel
theorem dJ6_bitCount_0f7a4_28 : decode cJ6_bitCount_0f7a4 28 = .ok (.iadd, 1) := by decide +kernel
theorem dJ6_bitCount_0f7a4_29 : decode cJ6_bitCount_0f7a4 29 = .ok (.ldc_w 267, 3) := by decide +kernel
theorem dJ6_bitCount_0f7a4_32 : decode cJ6_bitCount_0f7a4 32 = .ok (.iand, 1) := by decide +kernel
theorem dJ6_bitCount_0f7a4_33 : decode cJ6_bitCount_0f7a4 33 = .ok (.istore_n 0, 1) := by decide +kernel
theorem dJ6_bitCount_0f7a4_34 : decode cJ6_bitCount_0f7a4 34 = .ok (.iload_n 0, 1) := by decide +kernel
theorem dJ6_bitCount_0f7a4_35 : decode cJ6_bitCount_0f7a4 35 = .ok (.iload_n 0, 1) := by decide +kernel
theorem dJ6_bitCount_0f7a4_36 : decode cJ6_bitCount_0f7a4 36 = .ok (.bipush 8, 2) := by decide +kernel
theorem dJ6_bitCount_0f7a4_38 : decode cJ6_bitCount_0f7a4 38 = .ok (.iushr, 1) := by decide +kernel
theorem dJ6_bitCount_0f7a4_39 : decode cJ6_bitCount_0f7a4 39 = .ok (.iadd, 1) := by decide +kernel
theorem dJ6_bitCount_0f7a4_40 : decode cJ6_bitCount_0f7a4 40 = .ok (.istore_n 0, 1) := by decide +kernel
theorem dJ6_bitCount_0f7a4_41 : decode cJ6_bitCount_0f7a4 41 = .ok (.iload_n 0, 1) := by decide +kernel
theorem dJ6_bitCount_0f7a4_42 : decode cJ6_bitCount_0f7a4 42 = .ok (.iload_n 0, 1) := by decide +kernel
theorem dJ6_bitCount_0f7a4_43 : decode cJ6_bitCount_0f7a4 43 = .ok (.bipush 16, 2) := by decide +kernel
theorem dJ6_bitCount_0f7a4_45 : decode cJ6_bitCount_0f7a4 45 = .ok (.iushr, 1) := by decide +kernel
theorem dJ6_bitCount_0f7a4_46 : decode cJ6_bitCount_0f7a4 46 = .ok (.iadd, 1) := by decide +kernel
theorem dJ6_bitCount_0f7a4_47 : decode cJ6_bitCount_0f7a4 47 = .ok (.istore_n 0, 1) := by decide +kernel
theorem dJ6_bitCount_0f7a4_48 : decode cJ6_bitCount_0f7a4 48 = .ok (.iload_n 0, 1) := by decide +kernel
theorem dJ6_bitCount_0f7a4_49 : decode cJ6_bitCount_0f7a4 49 = .ok (.bipush 63, 2) := by decide +kernel
theorem dJ6_bitCount_0f7a4_51 : decode cJ6_bitCount_0f7a4 51 = .ok (.iand, 1) := by decide +kernel
theorem dJ6_bitCount_0f7a4_52 : decode cJ6_bitCount_0f7a4 52 = .ok (.ireturn, 1) := by decide +kernel
theorem dJ9_abs_0f7a4_0 : decode cJ9_abs_0f7a4 0 = .ok (.iload_n 0, 1) := by decide +kernel
theorem dJ9_abs_0f7a4_1 : decode cJ9_abs_0f7a4 1 = .ok (.ifCond .ge 8, 3) := by decide +kernel
theorem dJ9_abs_0f7a4_4 : decode cJ9_abs_0f7a4 4 = .ok (.iload_n 0, 1) := by decide +kernel
theorem dJ9_abs_0f7a4_5 : decode cJ9_abs_0f7a4 5 = .ok (.ineg, 1) := by decide +kernel
theorem dJ9_abs_0f7a4_6 : decode cJ9_abs_0f7a4 6 = .ok (.goto 4, 3) := by decide +kernel
theorem dJ9_abs_0f7a4_9 : decode cJ9_abs_0f7a4 9 = .ok (.iload_n 0, 1) := by decide +kernel
theorem dJ9_abs_0f7a4_10 : decode cJ9_abs_0f7a4 10 = .ok (.ireturn, 1) := by decide +kernel
theorem dJ9_max_7cf53_0 : decode cJ9_max_7cf53 0 = .ok (.iload_n 0, 1) := by decide +kernel
theorem dJ9_max_7cf53_1 : decode cJ9_max_7cf53 1 = .ok (.iload_n 1, 1) := by decide +kernel
theorem dJ9_max_7cf53_2 : decode cJ9_max_7cf53 2 = .ok (.if_icmp .lt 7, 3) := by decide +kernel
theorem dJ9_max_7cf53_5 : decode cJ9_max_7cf53 5 = .ok (.iload_n 0, 1) := by decide +kernel
theorem dJ9_max_7cf53_6 : decode cJ9_max_7cf53 6 = .ok (.goto 4, 3) := by decide +kernel
theorem dJ9_max_7cf53_9 : decode cJ9_max_7cf53 9 = .ok (.iload_n 1, 1) := by decide +kernel
theorem dJ9_max_7cf53_10 : decode cJ9_max_7cf53 10 = .ok (.ireturn, 1) := by decide +kernel
theorem dJ9_min_7cf53_0 : decode cJ9_min_7cf53 0 = .ok (.iload_n 0, 1) := by decide +kernel
theorem dJ9_min_7cf53_1 : decode cJ9_min_7cf53 1 = .ok (.iload_n 1, 1) := by decide +kernel
theorem dJ9_min_7cf53_2 : decode cJ9_min_7cf53 2 = .ok (.if_icmp .gt 7, 3) := by decide +kernel
theorem dJ9_min_7cf53_5 : decode cJ9_min_7cf53 5 = .ok (.iload_n 0, 1) := by decide +kernel
theorem dJ9_min_7cf53_6 : decode cJ9_min_7cf53 6 = .ok (.goto 4, 3) := by decide +kernel
theorem dJ9_min_7cf53_9 : decode cJ9_min_7cf53 9 = .ok (.iload_n 1, 1) := by decide +kernel
theorem dJ9_min_7cf53_10 : decode cJ9_min_7cf53 10 = .ok (.ireturn, 1) := by decide +kernel
theorem dJ9_min_f86c9_0 : decode cJ9_min_f86c9 0 = .ok (.lload_n 0, 1) := by decide +kernel
theorem dJ9_min_f86c9_1 : decode cJ9_min_f86c9 1 = .ok (.lload_n 2, 1) := by decide +kernel
theorem dJ9_min_f86c9_2 : decode cJ9_min_f86c9 2 = .ok (.lcmp, 1) := by decide +kernel
theorem dJ9_min_f86c9_3 : decode cJ9_min_f86c9 3 = .ok (.ifCond .gt 7, 3) := by decide +kernel
theorem dJ9_min_f86c9_6 : decode cJ9_min_f86c9 6 = .ok (.lload_n 0, 1) := by decide +kernel
theorem dJ9_min_f86c9_7 : decode cJ9_min_f86c9 7 = .ok (.goto 4, 3) := by decide +kernel
theorem dJ9_min_f86c9_10 : decode cJ9_min_f86c9 10 = .ok (.lload_n 2, 1) := by decide +kernel
theorem dJ9_min_f86c9_11 : decode cJ9_min_f86c9 11 = .ok (.lreturn, 1) := by decide +kernel
theorem dJ0_length_8abf5_0 : decode cJ0_length_8abf5 0 = .ok (.aload_n 0, 1) := by decide +kernel
theorem dJ0_length_8abf5_1 : decode cJ0_length_8abf5 1 = .ok (.getfield 9, 3) := by decide +kernel
theorem dJ0_length_8abf5_4 : decode cJ0_length_8abf5 4 = .ok (.arraylength, 1) := by decide +kernel
theorem dJ0_length_8abf5_5 : decode cJ0_length_8abf5 5 = .ok (.aload_n 0, 1) := by decide +kernel
theorem dJ0_length_8abf5_6 : decode cJ0_length_8abf5 6 = .ok (.invokevirtual 335, 3) := by decide +kernel
theorem dJ0_length_8abf5_9 : decode cJ0_length_8abf5 9 = .ok (.ishr, 1) := by decide +kernel
theorem dJ0_length_8abf5_10 : decode cJ0_length_8abf5 10 = .ok (.ireturn, 1) := by decide +kernel
theorem dJ0_charAt_5068e_0 : decode cJ0_charAt_5068e 0 = .ok (.aload_n 0, 1) := by decide +kernel
theorem dJ0_charAt_5068e_1 : decode cJ0_charAt_5068e 1 = .ok (.invokevirtual 492, 3) := by decide +kernel
theorem dJ0_charAt_5068e_4 : decode cJ0_charAt_5068e 4 = .ok (.ifCond .eq 12, 3) := by decide +kernel
theorem dJ0_charAt_5068e_7 : decode cJ0_charAt_5068e 7 = .ok (.aload_n 0, 1) := by decide +kernel
theorem dJ0_charAt_5068e_8 : decode cJ0_charAt_5068e 8 = .ok (.getfield 9, 3) := by decide +kernel
theorem dJ0_charAt_5068e_11 : decode cJ0_charAt_5068e 11 = .ok (.iload_n 1, 1) := by decide +kernel
theorem dJ0_charAt_5068e_12 : decode cJ0_charAt_5068e 12 = .ok (.invokestatic 495, 3) := by decide +kernel
theorem dJ0_charAt_5068e_15 : decode cJ0_charAt_5068e 15 = .ok (.ireturn, 1) := by decide +kernel
theorem dJ0_charAt_5068e_16 : decode cJ0_charAt_5068e 16 = .ok (.aload_n 0, 1) := by decide +kernel
theorem dJ0_charAt_5068e_17 : decode cJ0_charAt_5068e 17 = .ok (.getfield 9, 3) := by decide +kernel
theorem dJ0_charAt_5068e_20 : decode cJ0_charAt_5068e 20 = .ok (.iload_n 1, 1) := by decide +kernel
theorem dJ0_charAt_5068e_21 : decode cJ0_charAt_5068e 21 = .ok (.invokestatic 498, 3) := by decide +kernel
theorem dJ0_charAt_5068e_24 : decode cJ0_charAt_5068e 24 = .ok (.ireturn, 1) := by decide +kernel
theorem dJ0_coder_7d493_0 : decode cJ0_coder_7d493 0 = .ok (.getstatic 38, 3) := by decide +kernel
theorem dJ0_coder_7d493_3 : decode cJ0_coder_7d493 3 = .ok (.ifCond .eq 10, 3) := by decide +kernel
theorem dJ0_coder_7d493_6 : decode cJ0_coder_7d493 6 = .ok (.aload_n 0, 1) := by decide +kernel
theorem dJ0_coder_7d493_7 : decode cJ0_coder_7d493 7 = .ok (.getfield 15, 3) := by decide +kernel
theorem dJ0_coder_7d493_10 : decode cJ0_coder_7d493 10 = .ok (.goto 4, 3) := by decide +kernel
theorem dJ0_coder_7d493_13 : decode cJ0_coder_7d493 13 = .ok (.iconst 1, 1) := by decide +kernel
theorem dJ0_coder_7d493_14 : decode cJ0_coder_7d493 14 = .ok (.ireturn, 1) := by decide +kernel
theorem dJ0_isLatin1_aae02_0 : decode cJ0_isLatin1_aae02 0 = .ok (.getstatic 38, 3) := by decide +kernel
theorem dJ0_isLatin1_aae02_3 : decode cJ0_isLatin1_aae02 3 = .ok (.ifCond .eq 14, 3) := by decide +kernel
theorem dJ0_isLatin1_aae02_6 : decode cJ0_isLatin1_aae02 6 = .ok (.aload_n 0, 1) := by decide +kernel
theorem dJ0_isLatin1_aae02_7 : decode cJ0_isLatin1_aae02 7 = .ok (.getfield 15, 3) := by decide +kernel
theorem dJ0_isLatin1_aae02_10 : decode cJ0_isLatin1_aae02 10 = .ok (.ifCond .ne 7, 3) := by decide +kernel
theorem dJ0_isLatin1_aae02_13 : decode cJ0_isLatin1_aae02 13 = .ok (.iconst 1, 1) := by decide +kernel
theorem dJ0_isLatin1_aae02_14 : decode cJ0_isLatin1_aae02 14 = .ok (.goto 4, 3) := by decide +kernel
theorem dJ0_isLatin1_aae02_17 : decode cJ0_isLatin1_aae02 17 = .ok (.iconst 0, 1) := by decide +kernel
theorem dJ0_isLatin1_aae02_18 : decode cJ0_isLatin1_aae02 18 = .ok (.ireturn, 1) := by decide +kernel
theorem dJ0_checkIndex_df160_0 : decode cJ0_checkIndex_df160 0 = .ok (.iload_n 0, 1) := by decide +kernel
theorem dJ0_checkIndex_df160_1 : decode cJ0_checkIndex_df160 1 = .ok (.iload_n 1, 1) := by decide +kernel
theorem dJ0_checkIndex_df160_2 : decode cJ0_checkIndex_df160 2 = .ok (.getstatic 1053, 3) := by decide +kernel
theorem dJ0_checkIndex_df160_5 : decode cJ0_checkIndex_df160 5 = .ok (.invokestatic 1059, 3) := by decide +kernel
theorem dJ0_checkIndex_df160_8 : decode cJ0_checkIndex_df160 8 = .ok (.pop, 1) := by decide +kernel
theorem dJ0_checkIndex_df160_9 : decode cJ0_checkIndex_df160 9 = .ok (.return_, 1) := by decide +kernel
theorem dJ1_charAt_3b067_0 : decode cJ1_charAt_3b067 0 = .ok (.iload_n 1, 1) := by decide +kernel
theorem dJ1_charAt_3b067_1 : decode cJ1_charAt_3b067 1 = .ok (.aload_n 0, 1) := by decide +kernel
theorem dJ1_charAt_3b067_2 : decode cJ1_charAt_3b067 2 = .ok (.arraylength, 1) := by decide +kernel
theorem dJ1_charAt_3b067_3 : decode cJ1_charAt_3b067 3 = .ok (.invokestatic 9, 3) := by decide +kernel
theorem dJ1_charAt_3b067_6 : decode cJ1_charAt_3b067 6 = .ok (.aload_n 0, 1) := by decide +kernel
theorem dJ1_charAt_3b067_7 : decode cJ1_charAt_3b067 7 = .ok (.iload_n 1, 1) := by decide +kernel
theorem dJ1_charAt_3b067_8 : decode cJ1_charAt_3b067 8 = .ok (.baload, 1) := by decide +kernel
theorem dJ1_charAt_3b067_9 : decode cJ1_charAt_3b067 9 = .ok (.sipush 255, 3) := by decide +kernel
theorem dJ1_charAt_3b067_12 : decode cJ1_charAt_3b067 12 = .ok (.iand, 1) := by decide +kernel
theorem dJ1_charAt_3b067_13 : decode cJ1_charAt_3b067 13 = .ok (.i2c, 1) := by decide +kernel
theorem dJ1_charAt_3b067_14 : decode cJ1_charAt_3b067 14 = .ok (.ireturn, 1) := by decide +kernel
theorem dJ2_getChar_3b067_0 : decode cJ2_getChar_3b067 0 = .ok (.getstatic 44, 3) := by decide +kernel
theorem dJ2_getChar_3b067_3 : decode cJ2_getChar_3b067 3 = .ok (.ifCond .ne 25, 3) := by decide +kernel
theorem dJ2_getChar_3b067_6 : decode cJ2_getChar_3b067 6 = .ok (.iload_n 1, 1) := by decide +kernel
theorem dJ2_getChar_3b067_7 : decode cJ2_getChar_3b067 7 = .ok (.ifCond .lt 11, 3) := by decide +kernel
theorem dJ2_getChar_3b067_10 : decode cJ2_getChar_3b067 10 = .ok (.iload_n 1, 1) := by decide +kernel
theorem dJ2_getChar_3b067_11 : decode cJ2_getChar_3b067 11 = .ok (.aload_n 0, 1) := by decide +kernel
theorem dJ2_getChar_3b067_12 : decode cJ2_getChar_3b067 12 = .ok (.invokestatic 48, 3) := by decide +kernel
theorem dJ2_getChar_3b067_15 : decode cJ2_getChar_3b067 15 = .ok (.if_icmp .lt 13, 3) := by decide +kernel
theorem dJ2_getChar_3b067_18 : decode cJ2_getChar_3b067 18 = .ok (.new 52, 3) := by decide +kernel
theorem dJ2_getChar_3b067_21 : decode cJ2_getChar_3b067 21 = .ok (.dup, 1) := by decide +kernel
theorem dJ2_getChar_3b067_22 : decode cJ2_getChar_3b067 22 = .ok (.ldc 54, 2) := by decide +kernel
theorem dJ2_getChar_3b067_24 : decode cJ2_getChar_3b067 24 = .ok (.invokespecial 56, 3) := by decide +kernel
theorem dJ2_getChar_3b067_27 : decode cJ2_getChar_3b067 27 = .ok (.athrow, 1) := by decide +kernel
theorem dJ2_getChar_3b067_28 : decode cJ2_getChar_3b067 28 = .ok (.iload_n 1, 1) := by decide +kernel
theorem dJ2_getChar_3b067_29 : decode cJ2_getChar_3b067 29 = .ok (.iconst 1, 1) := by decide +kernel
theorem dJ2_getChar_3b067_30 : decode cJ2_getChar_3b067 30 = .ok (.ishl, 1) := by decide +kernel
theorem dJ2_getChar_3b067_31 : decode cJ2_getChar_3b067 31 = .ok (.istore_n 1, 1) := by decide +kernel
theorem dJ2_getChar_3b067_32 : decode cJ2_getChar_3b067 32 = .ok (.aload_n 0, 1) := by decide +kernel
theorem dJ2_getChar_3b067_33 : decode cJ2_getChar_3b067 33 = .ok (.iload_n 1, 1) := by decide +kernel
theorem dJ2_getChar_3b067_34 : decode cJ2_getChar_3b067 34 = .ok (.iinc 1 1, 3) := by decide +kernel
theorem dJ2_getChar_3b067_37 : decode cJ2_getChar_3b067 37 = .ok (.baload, 1) := by decide +kernel
theorem dJ2_getChar_3b067_38 : decode cJ2_getChar_3b067 38 = .ok (.sipush 255, 3) := by decide +kernel
theorem dJ2_getChar_3b067_41 : decode cJ2_getChar_3b067 41 = .ok (.iand, 1) := by decide +kernel
theorem dJ2_getChar_3b067_42 : decode cJ2_getChar_3b067 42 = .ok (.getstatic 59, 3) := by decide +kernel
theorem dJ2_getChar_3b067_45 : decode cJ2_getChar_3b067 45 = .ok (.ishl, 1) := by decide +kernel
theorem dJ2_getChar_3b067_46 : decode cJ2_getChar_3b067 46 = .ok (.aload_n 0, 1) := by decide +kernel
theorem dJ2_getChar_3b067_47 : decode cJ2_getChar_3b067 47 = .ok (.iload_n 1, 1) := by decide +kernel
theorem dJ2_getChar_3b067_48 : decode cJ2_getChar_3b067 48 = .ok (.baload, 1) := by decide +kernel
theorem dJ2_getChar_3b067_49 : decode cJ2_getChar_3b067 49 = .ok (.sipush 255, 3) := by decide +kernel
theorem dJ2_getChar_3b067_52 : decode cJ2_getChar_3b067 52 = .ok (.iand, 1) := by decide +kernel
theorem dJ2_getChar_3b067_53 : decode cJ2_getChar_3b067 53 = .ok (.getstatic 63, 3) := by decide +kernel
theorem dJ2_getChar_3b067_56 : decode cJ2_getChar_3b067 56 = .ok (.ishl, 1) := by decide +kernel
theorem dJ2_getChar_3b067_57 : decode cJ2_getChar_3b067 57 = .ok (.ior, 1) := by decide +kernel
theorem dJ2_getChar_3b067_58 : decode cJ2_getChar_3b067 58 = .ok (.i2c, 1) := by decide +kernel
theorem dJ2_getChar_3b067_59 : decode cJ2_getChar_3b067 59 = .ok (.ireturn, 1) := by decide +kernel
theorem dJ2_length_9d52b_0 : decode cJ2_length_9d52b 0 = .ok (.aload_n 0, 1) := by decide +kernel
theorem dJ2_length_9d52b_1 : decode cJ2_length_9d52b 1 = .ok (.arraylength, 1) := by decide +kernel
theorem dJ2_length_9d52b_2 : decode cJ2_length_9d52b 2 = .ok (.iconst 1, 1) := by decide +kernel
theorem dJ2_length_9d52b_3 : decode cJ2_length_9d52b 3 = .ok (.ishr, 1) := by decide +kernel
theorem dJ2_length_9d52b_4 : decode cJ2_length_9d52b 4 = .ok (.ireturn, 1) := by decide +kernel
theorem dJ2_charAt_3b067_0 : decode cJ2_charAt_3b067 0 = .ok (.iload_n 1, 1) := by decide +kernel
theorem dJ2_charAt_3b067_1 : decode cJ2_charAt_3b067 1 = .ok (.aload_n 0, 1) := by decide +kernel
theorem dJ2_charAt_3b067_2 : decode cJ2_charAt_3b067 2 = .ok (.invokestatic 67, 3) := by decide +kernel
theorem dJ2_charAt_3b067_5 : decode cJ2_charAt_3b067 5 = .ok (.aload_n 0, 1) := by decide +kernel
theorem dJ2_charAt_3b067_6 : decode cJ2_charAt_3b067 6 = .ok (.iload_n 1, 1) := by decide +kernel
theorem dJ2_charAt_3b067_7 : decode cJ2_charAt_3b067 7 = .ok (.invokestatic 71, 3) := by decide +kernel
theorem dJ2_charAt_3b067_10 : decode cJ2_charAt_3b067 10 = .ok (.ireturn, 1) := by decide +kernel
theorem dJ2_checkIndex_2214a_0 : decode cJ2_checkIndex_2214a 0 = .ok (.iload_n 0, 1) := by decide +kernel
theorem dJ2_checkIndex_2214a_1 : decode cJ2_checkIndex_2214a 1 = .ok (.aload_n 1, 1) := by decide +kernel
theorem dJ2_checkIndex_2214a_2 : decode cJ2_checkIndex_2214a 2 = .ok (.invokestatic 48, 3) := by decide +kernel
theorem dJ2_checkIndex_2214a_5 : decode cJ2_checkIndex_2214a 5 = .ok (.invokestatic 414, 3) := by decide +kernel
theorem dJ2_checkIndex_2214a_8 : decode cJ2_checkIndex_2214a 8 = .ok (.return_, 1) := by decide +kernel
theorem dJ3_checkIndex_8e157_0 : decode cJ3_checkIndex_8e157 0 = .ok (.iload_n 0, 1) := by decide +kernel
theorem dJ3_checkIndex_8e157_1 : decode cJ3_checkIndex_8e157 1 = .ok (.ifCond .lt 8, 3) := by decide +kernel
theorem dJ3_checkIndex_8e157_4 : decode cJ3_checkIndex_8e157 4 = .ok (.iload_n 0, 1) := by decide +kernel
theorem dJ3_checkIndex_8e157_5 : decode cJ3_checkIndex_8e157 5 = .ok (.iload_n 1, 1) := by decide +kernel
theorem dJ3_checkIndex_8e157_6 : decode cJ3_checkIndex_8e157 6 = .ok (.if_icmp .lt 10, 3) := by decide +kernel
theorem dJ3_checkIndex_8e157_9 : decode cJ3_checkIndex_8e157 9 = .ok (.aload_n 2, 1) := by decide +kernel
theorem dJ3_checkIndex_8e157_10 : decode cJ3_checkIndex_8e157 10 = .ok (.iload_n 0, 1) := by decide +kernel
theorem dJ3_checkIndex_8e157_11 : decode cJ3_checkIndex_8e157 11 = .ok (.iload_n 1, 1) := by decide +kernel
theorem dJ3_checkIndex_8e157_12 : decode cJ3_checkIndex_8e157 12 = .ok (.invokestatic 95, 3) := by decide +kernel
theorem dJ3_checkIndex_8e157_15 : decode cJ3_checkIndex_8e157 15 = .ok (.athrow, 1) := by decide +kernel
theorem dJ3_checkIndex_8e157_16 : decode cJ3_checkIndex_8e157 16 = .ok (.iload_n 0, 1) := by decide +kernel
theorem dJ3_checkIndex_8e157_17 : decode cJ3_checkIndex_8e157 17 = .ok (.ireturn, 1) := by decide +kernel
