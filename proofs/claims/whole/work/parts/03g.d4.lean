theorem dX6_readsTune_204 : decode cX6_readsTune 204 = .ok (.istore_n 3, 1) := by decide +kernel
theorem dX6_readsTune_205 : decode cX6_readsTune 205 = .ok (.goto (-199), 3) := by decide +kernel
theorem dX6_readsTune_208 : decode cX6_readsTune 208 = .ok (.return_, 1) := by decide +kernel
theorem dX6_load_0 : decode cX6_load 0 = .ok (.aload_n 0, 1) := by decide +kernel
theorem dX6_load_1 : decode cX6_load 1 = .ok (.iconst 0, 1) := by decide +kernel
theorem dX6_load_2 : decode cX6_load 2 = .ok (.putfield 66, 3) := by decide +kernel
theorem dX6_load_5 : decode cX6_load 5 = .ok (.aload_n 0, 1) := by decide +kernel
theorem dX6_load_6 : decode cX6_load 6 = .ok (.iconst 0, 1) := by decide +kernel
theorem dX6_load_7 : decode cX6_load 7 = .ok (.putfield 199, 3) := by decide +kernel
theorem dX6_load_10 : decode cX6_load 10 = .ok (.aload_n 0, 1) := by decide +kernel
theorem dX6_load_11 : decode cX6_load 11 = .ok (.iconst 0, 1) := by decide +kernel
theorem dX6_load_12 : decode cX6_load 12 = .ok (.putfield 193, 3) := by decide +kernel
theorem dX6_load_15 : decode cX6_load 15 = .ok (.aload_n 0, 1) := by decide +kernel
theorem dX6_load_16 : decode cX6_load 16 = .ok (.iconst 0, 1) := by decide +kernel
theorem dX6_load_17 : decode cX6_load 17 = .ok (.putfield 196, 3) := by decide +kernel
theorem dX6_load_20 : decode cX6_load 20 = .ok (.aload_n 0, 1) := by decide +kernel
theorem dX6_load_21 : decode cX6_load 21 = .ok (.iconst 0, 1) := by decide +kernel
theorem dX6_load_22 : decode cX6_load 22 = .ok (.putfield 253, 3) := by decide +kernel
theorem dX6_load_25 : decode cX6_load 25 = .ok (.aload_n 0, 1) := by decide +kernel
theorem dX6_load_26 : decode cX6_load 26 = .ok (.getfield 13, 3) := by decide +kernel
theorem dX6_load_29 : decode cX6_load 29 = .ok (.invokestatic 62, 3) := by decide +kernel
theorem dX6_load_32 : decode cX6_load 32 = .ok (.aload_n 0, 1) := by decide +kernel
theorem dX6_load_33 : decode cX6_load 33 = .ok (.invokevirtual 277, 3) := by decide +kernel
theorem dX6_load_36 : decode cX6_load 36 = .ok (.aload_n 0, 1) := by decide +kernel
theorem dX6_load_37 : decode cX6_load 37 = .ok (.iconst 0, 1) := by decide +kernel
theorem dX6_load_38 : decode cX6_load 38 = .ok (.putfield 186, 3) := by decide +kernel
theorem dX6_load_41 : decode cX6_load 41 = .ok (.aload_n 0, 1) := by decide +kernel
theorem dX6_load_42 : decode cX6_load 42 = .ok (.aload_n 0, 1) := by decide +kernel
theorem dX6_load_43 : decode cX6_load 43 = .ok (.getfield 193, 3) := by decide +kernel
theorem dX6_load_46 : decode cX6_load 46 = .ok (.putfield 280, 3) := by decide +kernel
theorem dX6_load_49 : decode cX6_load 49 = .ok (.aload_n 0, 1) := by decide +kernel
theorem dX6_load_50 : decode cX6_load 50 = .ok (.aload_n 0, 1) := by decide +kernel
theorem dX6_load_51 : decode cX6_load 51 = .ok (.invokevirtual 230, 3) := by decide +kernel
theorem dX6_load_54 : decode cX6_load 54 = .ok (.ifCond .eq 7, 3) := by decide +kernel
theorem dX6_load_57 : decode cX6_load 57 = .ok (.iconst (-1), 1) := by decide +kernel
theorem dX6_load_58 : decode cX6_load 58 = .ok (.goto 7, 3) := by decide +kernel
theorem dX6_load_61 : decode cX6_load 61 = .ok (.aload_n 0, 1) := by decide +kernel
theorem dX6_load_62 : decode cX6_load 62 = .ok (.getfield 253, 3) := by decide +kernel
theorem dX6_load_65 : decode cX6_load 65 = .ok (.putfield 52, 3) := by decide +kernel
theorem dX6_load_68 : decode cX6_load 68 = .ok (.aload_n 0, 1) := by decide +kernel
theorem dX6_load_69 : decode cX6_load 69 = .ok (.invokevirtual 230, 3) := by decide +kernel
theorem dX6_load_72 : decode cX6_load 72 = .ok (.ifCond .ne 11, 3) := by decide +kernel
theorem dX6_load_75 : decode cX6_load 75 = .ok (.bipush (-100), 2) := by decide +kernel
theorem dX6_load_77 : decode cX6_load 77 = .ok (.aload_n 0, 1) := by decide +kernel
theorem dX6_load_78 : decode cX6_load 78 = .ok (.getfield 196, 3) := by decide +kernel
theorem dX6_load_81 : decode cX6_load 81 = .ok (.isub, 1) := by decide +kernel
theorem dX6_load_82 : decode cX6_load 82 = .ok (.ireturn, 1) := by decide +kernel
theorem dX6_load_83 : decode cX6_load 83 = .ok (.aload_n 0, 1) := by decide +kernel
theorem dX6_load_84 : decode cX6_load 84 = .ok (.getfield 13, 3) := by decide +kernel
theorem dX6_load_87 : decode cX6_load 87 = .ok (.iconst 0, 1) := by decide +kernel
theorem dX6_load_88 : decode cX6_load 88 = .ok (.aload_n 0, 1) := by decide +kernel
theorem dX6_load_89 : decode cX6_load 89 = .ok (.getfield 7, 3) := by decide +kernel
theorem dX6_load_92 : decode cX6_load 92 = .ok (.iconst 0, 1) := by decide +kernel
theorem dX6_load_93 : decode cX6_load 93 = .ok (.invokestatic 72, 3) := by decide +kernel
theorem dX6_load_96 : decode cX6_load 96 = .ok (.aload_n 0, 1) := by decide +kernel
theorem dX6_load_97 : decode cX6_load 97 = .ok (.iconst 0, 1) := by decide +kernel
theorem dX6_load_98 : decode cX6_load 98 = .ok (.putfield 69, 3) := by decide +kernel
theorem dX6_load_101 : decode cX6_load 101 = .ok (.aload_n 0, 1) := by decide +kernel
theorem dX6_load_102 : decode cX6_load 102 = .ok (.getfield 7, 3) := by decide +kernel
theorem dX6_load_105 : decode cX6_load 105 = .ok (.bipush 9, 2) := by decide +kernel
theorem dX6_load_107 : decode cX6_load 107 = .ok (.iaload, 1) := by decide +kernel
theorem dX6_load_108 : decode cX6_load 108 = .ok (.ireturn, 1) := by decide +kernel
theorem dX6_loadError_0 : decode cX6_loadError 0 = .ok (.aload_n 0, 1) := by decide +kernel
theorem dX6_loadError_1 : decode cX6_loadError 1 = .ok (.iconst 0, 1) := by decide +kernel
theorem dX6_loadError_2 : decode cX6_loadError 2 = .ok (.putfield 66, 3) := by decide +kernel
theorem dX6_loadError_5 : decode cX6_loadError 5 = .ok (.aload_n 0, 1) := by decide +kernel
theorem dX6_loadError_6 : decode cX6_loadError 6 = .ok (.getfield 280, 3) := by decide +kernel
theorem dX6_loadError_9 : decode cX6_loadError 9 = .ok (.ireturn, 1) := by decide +kernel
theorem dX6_loadStatement_0 : decode cX6_loadStatement 0 = .ok (.aload_n 0, 1) := by decide +kernel
theorem dX6_loadStatement_1 : decode cX6_loadStatement 1 = .ok (.iconst 0, 1) := by decide +kernel
theorem dX6_loadStatement_2 : decode cX6_loadStatement 2 = .ok (.putfield 66, 3) := by decide +kernel
theorem dX6_loadStatement_5 : decode cX6_loadStatement 5 = .ok (.aload_n 0, 1) := by decide +kernel
theorem dX6_loadStatement_6 : decode cX6_loadStatement 6 = .ok (.getfield 52, 3) := by decide +kernel
theorem dX6_loadStatement_9 : decode cX6_loadStatement 9 = .ok (.ireturn, 1) := by decide +kernel
theorem dX6_rests_0 : decode cX6_rests 0 = .ok (.iconst 0, 1) := by decide +kernel
theorem dX6_rests_1 : decode cX6_rests 1 = .ok (.istore_n 1, 1) := by decide +kernel
theorem dX6_rests_2 : decode cX6_rests 2 = .ok (.iconst 0, 1) := by decide +kernel
theorem dX6_rests_3 : decode cX6_rests 3 = .ok (.istore_n 2, 1) := by decide +kernel
theorem dX6_rests_4 : decode cX6_rests 4 = .ok (.iload_n 2, 1) := by decide +kernel
theorem dX6_rests_5 : decode cX6_rests 5 = .ok (.aload_n 0, 1) := by decide +kernel
theorem dX6_rests_6 : decode cX6_rests 6 = .ok (.getfield 7, 3) := by decide +kernel
theorem dX6_rests_9 : decode cX6_rests 9 = .ok (.bipush 9, 2) := by decide +kernel
theorem dX6_rests_11 : decode cX6_rests 11 = .ok (.iaload, 1) := by decide +kernel
theorem dX6_rests_12 : decode cX6_rests 12 = .ok (.if_icmp .ge 25, 3) := by decide +kernel
theorem dX6_rests_15 : decode cX6_rests 15 = .ok (.iload_n 1, 1) := by decide +kernel
theorem dX6_rests_16 : decode cX6_rests 16 = .ok (.aload_n 0, 1) := by decide +kernel
theorem dX6_rests_17 : decode cX6_rests 17 = .ok (.iload_n 2, 1) := by decide +kernel
theorem dX6_rests_18 : decode cX6_rests 18 = .ok (.invokevirtual 152, 3) := by decide +kernel
theorem dX6_rests_21 : decode cX6_rests 21 = .ok (.ifCond .eq 7, 3) := by decide +kernel
theorem dX6_rests_24 : decode cX6_rests 24 = .ok (.iconst 0, 1) := by decide +kernel
theorem dX6_rests_25 : decode cX6_rests 25 = .ok (.goto 4, 3) := by decide +kernel
theorem dX6_rests_28 : decode cX6_rests 28 = .ok (.iconst 1, 1) := by decide +kernel
theorem dX6_rests_29 : decode cX6_rests 29 = .ok (.iadd, 1) := by decide +kernel
theorem dX6_rests_30 : decode cX6_rests 30 = .ok (.istore_n 1, 1) := by decide +kernel
theorem dX6_rests_31 : decode cX6_rests 31 = .ok (.iinc 2 1, 3) := by decide +kernel
theorem dX6_rests_34 : decode cX6_rests 34 = .ok (.goto (-30), 3) := by decide +kernel
theorem dX6_rests_37 : decode cX6_rests 37 = .ok (.iload_n 1, 1) := by decide +kernel
theorem dX6_rests_38 : decode cX6_rests 38 = .ok (.ireturn, 1) := by decide +kernel
theorem dX6_size_0 : decode cX6_size 0 = .ok (.aload_n 0, 1) := by decide +kernel
theorem dX6_size_1 : decode cX6_size 1 = .ok (.iload_n 1, 1) := by decide +kernel
theorem dX6_size_2 : decode cX6_size 2 = .ok (.i2l, 1) := by decide +kernel
theorem dX6_size_3 : decode cX6_size 3 = .ok (.lconst 0, 1) := by decide +kernel
theorem dX6_size_4 : decode cX6_size 4 = .ok (.ldc2_w 283, 3) := by decide +kernel
theorem dX6_size_7 : decode cX6_size 7 = .ok (.invokestatic 83, 3) := by decide +kernel
theorem dX6_size_10 : decode cX6_size 10 = .ok (.iconst 1, 1) := by decide +kernel
theorem dX6_size_11 : decode cX6_size 11 = .ok (.invokevirtual 285, 3) := by decide +kernel
theorem dX6_size_14 : decode cX6_size 14 = .ok (.ifCond .ne 5, 3) := by decide +kernel
theorem dX6_size_17 : decode cX6_size 17 = .ok (.iconst 0, 1) := by decide +kernel
theorem dX6_size_18 : decode cX6_size 18 = .ok (.ireturn, 1) := by decide +kernel
theorem dX6_size_19 : decode cX6_size 19 = .ok (.iload_n 1, 1) := by decide +kernel
theorem dX6_size_20 : decode cX6_size 20 = .ok (.tableswitch 79 10 15 #[40, 45, 50, 58, 66, 74], 40) := by decide +kernel
theorem dX6_size_60 : decode cX6_size 60 = .ok (.aload_n 0, 1) := by decide +kernel
theorem dX6_size_61 : decode cX6_size 61 = .ok (.invokevirtual 289, 3) := by decide +kernel
theorem dX6_size_64 : decode cX6_size 64 = .ok (.ireturn, 1) := by decide +kernel
theorem dX6_size_65 : decode cX6_size 65 = .ok (.aload_n 0, 1) := by decide +kernel
theorem dX6_size_66 : decode cX6_size 66 = .ok (.invokevirtual 80, 3) := by decide +kernel
theorem dX6_size_69 : decode cX6_size 69 = .ok (.ireturn, 1) := by decide +kernel
theorem dX6_size_70 : decode cX6_size 70 = .ok (.aload_n 0, 1) := by decide +kernel
theorem dX6_size_71 : decode cX6_size 71 = .ok (.getfield 7, 3) := by decide +kernel
theorem dX6_size_74 : decode cX6_size 74 = .ok (.bipush 10, 2) := by decide +kernel
theorem dX6_size_76 : decode cX6_size 76 = .ok (.iaload, 1) := by decide +kernel
theorem dX6_size_77 : decode cX6_size 77 = .ok (.ireturn, 1) := by decide +kernel
theorem dX6_size_78 : decode cX6_size 78 = .ok (.aload_n 0, 1) := by decide +kernel
theorem dX6_size_79 : decode cX6_size 79 = .ok (.getfield 7, 3) := by decide +kernel
theorem dX6_size_82 : decode cX6_size 82 = .ok (.bipush 11, 2) := by decide +kernel
theorem dX6_size_84 : decode cX6_size 84 = .ok (.iaload, 1) := by decide +kernel
theorem dX6_size_85 : decode cX6_size 85 = .ok (.ireturn, 1) := by decide +kernel
theorem dX6_size_86 : decode cX6_size 86 = .ok (.aload_n 0, 1) := by decide +kernel
theorem dX6_size_87 : decode cX6_size 87 = .ok (.getfield 7, 3) := by decide +kernel
theorem dX6_size_90 : decode cX6_size 90 = .ok (.bipush 12, 2) := by decide +kernel
theorem dX6_size_92 : decode cX6_size 92 = .ok (.iaload, 1) := by decide +kernel
theorem dX6_size_93 : decode cX6_size 93 = .ok (.ireturn, 1) := by decide +kernel
theorem dX6_size_94 : decode cX6_size 94 = .ok (.aload_n 0, 1) := by decide +kernel
theorem dX6_size_95 : decode cX6_size 95 = .ok (.getfield 69, 3) := by decide +kernel
theorem dX6_size_98 : decode cX6_size 98 = .ok (.ireturn, 1) := by decide +kernel
theorem dX6_size_99 : decode cX6_size 99 = .ok (.aload_n 0, 1) := by decide +kernel
theorem dX6_size_100 : decode cX6_size 100 = .ok (.getfield 7, 3) := by decide +kernel
theorem dX6_size_103 : decode cX6_size 103 = .ok (.iload_n 1, 1) := by decide +kernel
theorem dX6_size_104 : decode cX6_size 104 = .ok (.iaload, 1) := by decide +kernel
theorem dX6_size_105 : decode cX6_size 105 = .ok (.ireturn, 1) := by decide +kernel
theorem dX6_hole_0 : decode cX6_hole 0 = .ok (.aload_n 0, 1) := by decide +kernel
theorem dX6_hole_1 : decode cX6_hole 1 = .ok (.aload_n 0, 1) := by decide +kernel
theorem dX6_hole_2 : decode cX6_hole 2 = .ok (.iload_n 1, 1) := by decide +kernel
theorem dX6_hole_3 : decode cX6_hole 3 = .ok (.invokevirtual 292, 3) := by decide +kernel
theorem dX6_hole_6 : decode cX6_hole 6 = .ok (.iload_n 2, 1) := by decide +kernel
theorem dX6_hole_7 : decode cX6_hole 7 = .ok (.i2l, 1) := by decide +kernel
theorem dX6_hole_8 : decode cX6_hole 8 = .ok (.lconst 0, 1) := by decide +kernel
theorem dX6_hole_9 : decode cX6_hole 9 = .ok (.ldc2_w 295, 3) := by decide +kernel
theorem dX6_hole_12 : decode cX6_hole 12 = .ok (.invokestatic 83, 3) := by decide +kernel
theorem dX6_hole_15 : decode cX6_hole 15 = .ok (.invokevirtual 285, 3) := by decide +kernel
theorem dX6_hole_18 : decode cX6_hole 18 = .ok (.ifCond .ne 5, 3) := by decide +kernel
theorem dX6_hole_21 : decode cX6_hole 21 = .ok (.iconst 0, 1) := by decide +kernel
theorem dX6_hole_22 : decode cX6_hole 22 = .ok (.ireturn, 1) := by decide +kernel
theorem dX6_hole_23 : decode cX6_hole 23 = .ok (.iload_n 2, 1) := by decide +kernel
theorem dX6_hole_24 : decode cX6_hole 24 = .ok (.ifCond .ne 11, 3) := by decide +kernel
theorem dX6_hole_27 : decode cX6_hole 27 = .ok (.aload_n 0, 1) := by decide +kernel
theorem dX6_hole_28 : decode cX6_hole 28 = .ok (.iload_n 1, 1) := by decide +kernel
theorem dX6_hole_29 : decode cX6_hole 29 = .ok (.invokevirtual 98, 3) := by decide +kernel
theorem dX6_hole_32 : decode cX6_hole 32 = .ok (.goto 28, 3) := by decide +kernel
theorem dX6_hole_35 : decode cX6_hole 35 = .ok (.iload_n 2, 1) := by decide +kernel
theorem dX6_hole_36 : decode cX6_hole 36 = .ok (.iconst 1, 1) := by decide +kernel
theorem dX6_hole_37 : decode cX6_hole 37 = .ok (.if_icmp .ne 11, 3) := by decide +kernel
theorem dX6_hole_40 : decode cX6_hole 40 = .ok (.aload_n 0, 1) := by decide +kernel
theorem dX6_hole_41 : decode cX6_hole 41 = .ok (.iload_n 1, 1) := by decide +kernel
theorem dX6_hole_42 : decode cX6_hole 42 = .ok (.invokevirtual 94, 3) := by decide +kernel
theorem dX6_hole_45 : decode cX6_hole 45 = .ok (.goto 15, 3) := by decide +kernel
theorem dX6_hole_48 : decode cX6_hole 48 = .ok (.aload_n 0, 1) := by decide +kernel
theorem dX6_hole_49 : decode cX6_hole 49 = .ok (.aload_n 0, 1) := by decide +kernel
theorem dX6_hole_50 : decode cX6_hole 50 = .ok (.getfield 7, 3) := by decide +kernel
theorem dX6_hole_53 : decode cX6_hole 53 = .ok (.bipush 10, 2) := by decide +kernel
theorem dX6_hole_55 : decode cX6_hole 55 = .ok (.iaload, 1) := by decide +kernel
theorem dX6_hole_56 : decode cX6_hole 56 = .ok (.iload_n 1, 1) := by decide +kernel
theorem dX6_hole_57 : decode cX6_hole 57 = .ok (.invokevirtual 90, 3) := by decide +kernel
theorem dX6_hole_60 : decode cX6_hole 60 = .ok (.ireturn, 1) := by decide +kernel
theorem dX6_covered_0 : decode cX6_covered 0 = .ok (.aload_n 0, 1) := by decide +kernel
theorem dX6_covered_1 : decode cX6_covered 1 = .ok (.aload_n 0, 1) := by decide +kernel
theorem dX6_covered_2 : decode cX6_covered 2 = .ok (.iload_n 1, 1) := by decide +kernel
theorem dX6_covered_3 : decode cX6_covered 3 = .ok (.invokevirtual 297, 3) := by decide +kernel
theorem dX6_covered_6 : decode cX6_covered 6 = .ok (.ifCond .eq 15, 3) := by decide +kernel
theorem dX6_covered_9 : decode cX6_covered 9 = .ok (.aload_n 0, 1) := by decide +kernel
theorem dX6_covered_10 : decode cX6_covered 10 = .ok (.iload_n 2, 1) := by decide +kernel
theorem dX6_covered_11 : decode cX6_covered 11 = .ok (.invokevirtual 292, 3) := by decide +kernel
theorem dX6_covered_14 : decode cX6_covered 14 = .ok (.ifCond .eq 7, 3) := by decide +kernel
theorem dX6_covered_17 : decode cX6_covered 17 = .ok (.iconst 1, 1) := by decide +kernel
theorem dX6_covered_18 : decode cX6_covered 18 = .ok (.goto 4, 3) := by decide +kernel
theorem dX6_covered_21 : decode cX6_covered 21 = .ok (.iconst 0, 1) := by decide +kernel
theorem dX6_covered_22 : decode cX6_covered 22 = .ok (.iconst 1, 1) := by decide +kernel
theorem dX6_covered_23 : decode cX6_covered 23 = .ok (.invokevirtual 285, 3) := by decide +kernel
theorem dX6_covered_26 : decode cX6_covered 26 = .ok (.ifCond .eq 12, 3) := by decide +kernel
theorem dX6_covered_29 : decode cX6_covered 29 = .ok (.aload_n 0, 1) := by decide +kernel
theorem dX6_covered_30 : decode cX6_covered 30 = .ok (.iload_n 1, 1) := by decide +kernel
theorem dX6_covered_31 : decode cX6_covered 31 = .ok (.iload_n 2, 1) := by decide +kernel
theorem dX6_covered_32 : decode cX6_covered 32 = .ok (.invokevirtual 90, 3) := by decide +kernel
theorem dX6_covered_35 : decode cX6_covered 35 = .ok (.goto 4, 3) := by decide +kernel
theorem dX6_covered_38 : decode cX6_covered 38 = .ok (.iconst 0, 1) := by decide +kernel
theorem dX6_covered_39 : decode cX6_covered 39 = .ok (.ireturn, 1) := by decide +kernel
theorem dX6_mayPlay_0 : decode cX6_mayPlay 0 = .ok (.aload_n 0, 1) := by decide +kernel
theorem dX6_mayPlay_1 : decode cX6_mayPlay 1 = .ok (.aload_n 0, 1) := by decide +kernel
theorem dX6_mayPlay_2 : decode cX6_mayPlay 2 = .ok (.iload_n 1, 1) := by decide +kernel
theorem dX6_mayPlay_3 : decode cX6_mayPlay 3 = .ok (.invokevirtual 297, 3) := by decide +kernel
theorem dX6_mayPlay_6 : decode cX6_mayPlay 6 = .ok (.iconst 1, 1) := by decide +kernel
theorem dX6_mayPlay_7 : decode cX6_mayPlay 7 = .ok (.invokevirtual 285, 3) := by decide +kernel
theorem dX6_mayPlay_10 : decode cX6_mayPlay 10 = .ok (.ireturn, 1) := by decide +kernel
theorem dX6_sounding_0 : decode cX6_sounding 0 = .ok (.aload_n 0, 1) := by decide +kernel
theorem dX6_sounding_1 : decode cX6_sounding 1 = .ok (.iload_n 1, 1) := by decide +kernel
theorem dX6_sounding_2 : decode cX6_sounding 2 = .ok (.invokevirtual 300, 3) := by decide +kernel
theorem dX6_sounding_5 : decode cX6_sounding 5 = .ok (.ifCond .eq 11, 3) := by decide +kernel
theorem dX6_sounding_8 : decode cX6_sounding 8 = .ok (.aload_n 0, 1) := by decide +kernel
theorem dX6_sounding_9 : decode cX6_sounding 9 = .ok (.iload_n 1, 1) := by decide +kernel
theorem dX6_sounding_10 : decode cX6_sounding 10 = .ok (.invokevirtual 107, 3) := by decide +kernel
theorem dX6_sounding_13 : decode cX6_sounding 13 = .ok (.goto 4, 3) := by decide +kernel
theorem dX6_sounding_16 : decode cX6_sounding 16 = .ok (.iconst 0, 1) := by decide +kernel
theorem dX6_sounding_17 : decode cX6_sounding 17 = .ok (.ireturn, 1) := by decide +kernel
theorem dX6_pitch_0 : decode cX6_pitch 0 = .ok (.aload_n 0, 1) := by decide +kernel
theorem dX6_pitch_1 : decode cX6_pitch 1 = .ok (.invokevirtual 124, 3) := by decide +kernel
theorem dX6_pitch_4 : decode cX6_pitch 4 = .ok (.aload_n 0, 1) := by decide +kernel
theorem dX6_pitch_5 : decode cX6_pitch 5 = .ok (.iload_n 1, 1) := by decide +kernel
theorem dX6_pitch_6 : decode cX6_pitch 6 = .ok (.invokevirtual 127, 3) := by decide +kernel
theorem dX6_pitch_9 : decode cX6_pitch 9 = .ok (.ireturn, 1) := by decide +kernel
theorem dX6_cents_0 : decode cX6_cents 0 = .ok (.aload_n 0, 1) := by decide +kernel
theorem dX6_cents_1 : decode cX6_cents 1 = .ok (.iload_n 1, 1) := by decide +kernel
theorem dX6_cents_2 : decode cX6_cents 2 = .ok (.invokevirtual 300, 3) := by decide +kernel
theorem dX6_cents_5 : decode cX6_cents 5 = .ok (.ifCond .eq 11, 3) := by decide +kernel
theorem dX6_cents_8 : decode cX6_cents 8 = .ok (.aload_n 0, 1) := by decide +kernel
theorem dX6_cents_9 : decode cX6_cents 9 = .ok (.iload_n 1, 1) := by decide +kernel
theorem dX6_cents_10 : decode cX6_cents 10 = .ok (.invokevirtual 303, 3) := by decide +kernel
theorem dX6_cents_13 : decode cX6_cents 13 = .ok (.goto 4, 3) := by decide +kernel
theorem dX6_cents_16 : decode cX6_cents 16 = .ok (.iconst 0, 1) := by decide +kernel
theorem dX6_cents_17 : decode cX6_cents 17 = .ok (.ireturn, 1) := by decide +kernel
theorem dX6_tone_0 : decode cX6_tone 0 = .ok (.aload_n 0, 1) := by decide +kernel
theorem dX6_tone_1 : decode cX6_tone 1 = .ok (.iload_n 1, 1) := by decide +kernel
theorem dX6_tone_2 : decode cX6_tone 2 = .ok (.invokevirtual 300, 3) := by decide +kernel
theorem dX6_tone_5 : decode cX6_tone 5 = .ok (.ifCond .eq 15, 3) := by decide +kernel
theorem dX6_tone_8 : decode cX6_tone 8 = .ok (.aload_n 0, 1) := by decide +kernel
theorem dX6_tone_9 : decode cX6_tone 9 = .ok (.aload_n 0, 1) := by decide +kernel
theorem dX6_tone_10 : decode cX6_tone 10 = .ok (.iload_n 1, 1) := by decide +kernel
theorem dX6_tone_11 : decode cX6_tone 11 = .ok (.invokevirtual 303, 3) := by decide +kernel
theorem dX6_tone_14 : decode cX6_tone 14 = .ok (.invokevirtual 130, 3) := by decide +kernel
theorem dX6_tone_17 : decode cX6_tone 17 = .ok (.goto 4, 3) := by decide +kernel
theorem dX6_tone_20 : decode cX6_tone 20 = .ok (.iconst 0, 1) := by decide +kernel
theorem dX6_tone_21 : decode cX6_tone 21 = .ok (.ireturn, 1) := by decide +kernel
theorem dX6_offOf_0 : decode cX6_offOf 0 = .ok (.iload_n 1, 1) := by decide +kernel
theorem dX6_offOf_1 : decode cX6_offOf 1 = .ok (.bipush 100, 2) := by decide +kernel
theorem dX6_offOf_3 : decode cX6_offOf 3 = .ok (.irem, 1) := by decide +kernel
theorem dX6_offOf_4 : decode cX6_offOf 4 = .ok (.istore_n 2, 1) := by decide +kernel
theorem dX6_offOf_5 : decode cX6_offOf 5 = .ok (.iload_n 2, 1) := by decide +kernel
theorem dX6_offOf_6 : decode cX6_offOf 6 = .ok (.bipush 50, 2) := by decide +kernel
theorem dX6_offOf_8 : decode cX6_offOf 8 = .ok (.if_icmp .gt 7, 3) := by decide +kernel
theorem dX6_offOf_11 : decode cX6_offOf 11 = .ok (.iload_n 2, 1) := by decide +kernel
theorem dX6_offOf_12 : decode cX6_offOf 12 = .ok (.goto 7, 3) := by decide +kernel
theorem dX6_offOf_15 : decode cX6_offOf 15 = .ok (.iload_n 2, 1) := by decide +kernel
theorem dX6_offOf_16 : decode cX6_offOf 16 = .ok (.bipush 100, 2) := by decide +kernel
theorem dX6_offOf_18 : decode cX6_offOf 18 = .ok (.isub, 1) := by decide +kernel
theorem dX6_offOf_19 : decode cX6_offOf 19 = .ok (.ireturn, 1) := by decide +kernel
theorem dX6_off_0 : decode cX6_off 0 = .ok (.aload_n 0, 1) := by decide +kernel
theorem dX6_off_1 : decode cX6_off 1 = .ok (.iload_n 1, 1) := by decide +kernel
theorem dX6_off_2 : decode cX6_off 2 = .ok (.invokevirtual 300, 3) := by decide +kernel
theorem dX6_off_5 : decode cX6_off 5 = .ok (.ifCond .eq 15, 3) := by decide +kernel
theorem dX6_off_8 : decode cX6_off 8 = .ok (.aload_n 0, 1) := by decide +kernel
theorem dX6_off_9 : decode cX6_off 9 = .ok (.aload_n 0, 1) := by decide +kernel
theorem dX6_off_10 : decode cX6_off 10 = .ok (.iload_n 1, 1) := by decide +kernel
theorem dX6_off_11 : decode cX6_off 11 = .ok (.invokevirtual 303, 3) := by decide +kernel
theorem dX6_off_14 : decode cX6_off 14 = .ok (.invokevirtual 306, 3) := by decide +kernel
theorem dX6_off_17 : decode cX6_off 17 = .ok (.goto 4, 3) := by decide +kernel
theorem dX6_off_20 : decode cX6_off 20 = .ok (.iconst 0, 1) := by decide +kernel
theorem dX6_off_21 : decode cX6_off 21 = .ok (.ireturn, 1) := by decide +kernel
theorem dX6_halves_0 : decode cX6_halves 0 = .ok (.aload_n 0, 1) := by decide +kernel
theorem dX6_halves_1 : decode cX6_halves 1 = .ok (.iload_n 1, 1) := by decide +kernel
theorem dX6_halves_2 : decode cX6_halves 2 = .ok (.invokevirtual 300, 3) := by decide +kernel
theorem dX6_halves_5 : decode cX6_halves 5 = .ok (.ifCond .eq 12, 3) := by decide +kernel
theorem dX6_halves_8 : decode cX6_halves 8 = .ok (.aload_n 0, 1) := by decide +kernel
theorem dX6_halves_9 : decode cX6_halves 9 = .ok (.iload_n 1, 1) := by decide +kernel
theorem dX6_halves_10 : decode cX6_halves 10 = .ok (.iconst 1, 1) := by decide +kernel
theorem dX6_halves_11 : decode cX6_halves 11 = .ok (.invokevirtual 133, 3) := by decide +kernel
theorem dX6_halves_14 : decode cX6_halves 14 = .ok (.goto 4, 3) := by decide +kernel
theorem dX6_halves_17 : decode cX6_halves 17 = .ok (.iconst 0, 1) := by decide +kernel
theorem dX6_halves_18 : decode cX6_halves 18 = .ok (.ireturn, 1) := by decide +kernel
theorem dX6_crosses_0 : decode cX6_crosses 0 = .ok (.aload_n 0, 1) := by decide +kernel
theorem dX6_crosses_1 : decode cX6_crosses 1 = .ok (.iload_n 1, 1) := by decide +kernel
theorem dX6_crosses_2 : decode cX6_crosses 2 = .ok (.invokevirtual 300, 3) := by decide +kernel
theorem dX6_crosses_5 : decode cX6_crosses 5 = .ok (.ifCond .eq 11, 3) := by decide +kernel
theorem dX6_crosses_8 : decode cX6_crosses 8 = .ok (.aload_n 0, 1) := by decide +kernel
theorem dX6_crosses_9 : decode cX6_crosses 9 = .ok (.iload_n 1, 1) := by decide +kernel
theorem dX6_crosses_10 : decode cX6_crosses 10 = .ok (.invokevirtual 136, 3) := by decide +kernel
theorem dX6_crosses_13 : decode cX6_crosses 13 = .ok (.goto 4, 3) := by decide +kernel
theorem dX6_crosses_16 : decode cX6_crosses 16 = .ok (.iconst 0, 1) := by decide +kernel
theorem dX6_crosses_17 : decode cX6_crosses 17 = .ok (.ireturn, 1) := by decide +kernel
theorem dX6_isEasy_0 : decode cX6_isEasy 0 = .ok (.aload_n 0, 1) := by decide +kernel
theorem dX6_isEasy_1 : decode cX6_isEasy 1 = .ok (.iload_n 1, 1) := by decide +kernel
theorem dX6_isEasy_2 : decode cX6_isEasy 2 = .ok (.invokevirtual 300, 3) := by decide +kernel
theorem dX6_isEasy_5 : decode cX6_isEasy 5 = .ok (.ifCond .eq 36, 3) := by decide +kernel
theorem dX6_isEasy_8 : decode cX6_isEasy 8 = .ok (.aload_n 0, 1) := by decide +kernel
theorem dX6_isEasy_9 : decode cX6_isEasy 9 = .ok (.iload_n 1, 1) := by decide +kernel
theorem dX6_isEasy_10 : decode cX6_isEasy 10 = .ok (.iconst 1, 1) := by decide +kernel
theorem dX6_isEasy_11 : decode cX6_isEasy 11 = .ok (.invokevirtual 133, 3) := by decide +kernel
theorem dX6_isEasy_14 : decode cX6_isEasy 14 = .ok (.aload_n 0, 1) := by decide +kernel
theorem dX6_isEasy_15 : decode cX6_isEasy 15 = .ok (.getfield 7, 3) := by decide +kernel
theorem dX6_isEasy_18 : decode cX6_isEasy 18 = .ok (.iconst 4, 1) := by decide +kernel
theorem dX6_isEasy_19 : decode cX6_isEasy 19 = .ok (.iaload, 1) := by decide +kernel
theorem dX6_isEasy_20 : decode cX6_isEasy 20 = .ok (.if_icmp .gt 21, 3) := by decide +kernel
theorem dX6_isEasy_23 : decode cX6_isEasy 23 = .ok (.aload_n 0, 1) := by decide +kernel
theorem dX6_isEasy_24 : decode cX6_isEasy 24 = .ok (.iload_n 1, 1) := by decide +kernel
theorem dX6_isEasy_25 : decode cX6_isEasy 25 = .ok (.invokevirtual 136, 3) := by decide +kernel
theorem dX6_isEasy_28 : decode cX6_isEasy 28 = .ok (.aload_n 0, 1) := by decide +kernel
theorem dX6_isEasy_29 : decode cX6_isEasy 29 = .ok (.getfield 7, 3) := by decide +kernel
theorem dX6_isEasy_32 : decode cX6_isEasy 32 = .ok (.iconst 5, 1) := by decide +kernel
theorem dX6_isEasy_33 : decode cX6_isEasy 33 = .ok (.iaload, 1) := by decide +kernel
theorem dX6_isEasy_34 : decode cX6_isEasy 34 = .ok (.if_icmp .gt 7, 3) := by decide +kernel
theorem dX6_isEasy_37 : decode cX6_isEasy 37 = .ok (.iconst 1, 1) := by decide +kernel
theorem dX6_isEasy_38 : decode cX6_isEasy 38 = .ok (.goto 4, 3) := by decide +kernel
theorem dX6_isEasy_41 : decode cX6_isEasy 41 = .ok (.iconst 0, 1) := by decide +kernel
theorem dX6_isEasy_42 : decode cX6_isEasy 42 = .ok (.ireturn, 1) := by decide +kernel
theorem dX6_mayTone_0 : decode cX6_mayTone 0 = .ok (.aload_n 0, 1) := by decide +kernel
theorem dX6_mayTone_1 : decode cX6_mayTone 1 = .ok (.aload_n 0, 1) := by decide +kernel
theorem dX6_mayTone_2 : decode cX6_mayTone 2 = .ok (.iload_n 1, 1) := by decide +kernel
theorem dX6_mayTone_3 : decode cX6_mayTone 3 = .ok (.invokevirtual 165, 3) := by decide +kernel
theorem dX6_mayTone_6 : decode cX6_mayTone 6 = .ok (.iconst 1, 1) := by decide +kernel
theorem dX6_mayTone_7 : decode cX6_mayTone 7 = .ok (.invokevirtual 285, 3) := by decide +kernel
theorem dX6_mayTone_10 : decode cX6_mayTone 10 = .ok (.ireturn, 1) := by decide +kernel
theorem dX6_plays_0 : decode cX6_plays 0 = .ok (.aload_n 0, 1) := by decide +kernel
theorem dX6_plays_1 : decode cX6_plays 1 = .ok (.iload_n 1, 1) := by decide +kernel
theorem dX6_plays_2 : decode cX6_plays 2 = .ok (.invokevirtual 309, 3) := by decide +kernel
theorem dX6_plays_5 : decode cX6_plays 5 = .ok (.ifCond .ne 5, 3) := by decide +kernel
theorem dX6_plays_8 : decode cX6_plays 8 = .ok (.iconst 0, 1) := by decide +kernel
theorem dX6_plays_9 : decode cX6_plays 9 = .ok (.ireturn, 1) := by decide +kernel
theorem dX6_plays_10 : decode cX6_plays 10 = .ok (.aload_n 0, 1) := by decide +kernel
theorem dX6_plays_11 : decode cX6_plays 11 = .ok (.invokevirtual 177, 3) := by decide +kernel
theorem dX6_plays_14 : decode cX6_plays 14 = .ok (.aload_n 0, 1) := by decide +kernel
theorem dX6_plays_15 : decode cX6_plays 15 = .ok (.iload_n 1, 1) := by decide +kernel
theorem dX6_plays_16 : decode cX6_plays 16 = .ok (.invokevirtual 312, 3) := by decide +kernel
theorem dX6_plays_19 : decode cX6_plays 19 = .ok (.ireturn, 1) := by decide +kernel
theorem dX6_playOf_0 : decode cX6_playOf 0 = .ok (.aload_n 0, 1) := by decide +kernel
theorem dX6_playOf_1 : decode cX6_playOf 1 = .ok (.iload_n 1, 1) := by decide +kernel
theorem dX6_playOf_2 : decode cX6_playOf 2 = .ok (.invokevirtual 309, 3) := by decide +kernel
theorem dX6_playOf_5 : decode cX6_playOf 5 = .ok (.ifCond .ne 5, 3) := by decide +kernel
theorem dX6_playOf_8 : decode cX6_playOf 8 = .ok (.iconst 0, 1) := by decide +kernel
theorem dX6_playOf_9 : decode cX6_playOf 9 = .ok (.ireturn, 1) := by decide +kernel
theorem dX6_playOf_10 : decode cX6_playOf 10 = .ok (.aload_n 0, 1) := by decide +kernel
theorem dX6_playOf_11 : decode cX6_playOf 11 = .ok (.invokevirtual 177, 3) := by decide +kernel
theorem dX6_playOf_14 : decode cX6_playOf 14 = .ok (.aload_n 0, 1) := by decide +kernel
theorem dX6_playOf_15 : decode cX6_playOf 15 = .ok (.iload_n 1, 1) := by decide +kernel
theorem dX6_playOf_16 : decode cX6_playOf 16 = .ok (.iload_n 2, 1) := by decide +kernel
theorem dX6_playOf_17 : decode cX6_playOf 17 = .ok (.invokevirtual 315, 3) := by decide +kernel
theorem dX6_playOf_20 : decode cX6_playOf 20 = .ok (.ireturn, 1) := by decide +kernel
theorem dX6_truest_0 : decode cX6_truest 0 = .ok (.aload_n 0, 1) := by decide +kernel
theorem dX6_truest_1 : decode cX6_truest 1 = .ok (.iload_n 1, 1) := by decide +kernel
theorem dX6_truest_2 : decode cX6_truest 2 = .ok (.invokevirtual 309, 3) := by decide +kernel
theorem dX6_truest_5 : decode cX6_truest 5 = .ok (.ifCond .ne 5, 3) := by decide +kernel
theorem dX6_truest_8 : decode cX6_truest 8 = .ok (.iconst 0, 1) := by decide +kernel
theorem dX6_truest_9 : decode cX6_truest 9 = .ok (.ireturn, 1) := by decide +kernel
theorem dX6_truest_10 : decode cX6_truest 10 = .ok (.aload_n 0, 1) := by decide +kernel
theorem dX6_truest_11 : decode cX6_truest 11 = .ok (.invokevirtual 177, 3) := by decide +kernel
theorem dX6_truest_14 : decode cX6_truest 14 = .ok (.aload_n 0, 1) := by decide +kernel
theorem dX6_truest_15 : decode cX6_truest 15 = .ok (.invokevirtual 80, 3) := by decide +kernel
theorem dX6_truest_18 : decode cX6_truest 18 = .ok (.istore_n 2, 1) := by decide +kernel
theorem dX6_truest_19 : decode cX6_truest 19 = .ok (.iconst (-1), 1) := by decide +kernel
theorem dX6_truest_20 : decode cX6_truest 20 = .ok (.istore_n 3, 1) := by decide +kernel
theorem dX6_truest_21 : decode cX6_truest 21 = .ok (.iconst 0, 1) := by decide +kernel
theorem dX6_truest_22 : decode cX6_truest 22 = .ok (.istore 4, 2) := by decide +kernel
theorem dX6_truest_24 : decode cX6_truest 24 = .ok (.iconst 0, 1) := by decide +kernel
theorem dX6_truest_25 : decode cX6_truest 25 = .ok (.istore 5, 2) := by decide +kernel
theorem dX6_truest_27 : decode cX6_truest 27 = .ok (.iload 5, 2) := by decide +kernel
theorem dX6_truest_29 : decode cX6_truest 29 = .ok (.iload_n 2, 1) := by decide +kernel
theorem dX6_truest_30 : decode cX6_truest 30 = .ok (.if_icmp .ge 56, 3) := by decide +kernel
theorem dX6_truest_33 : decode cX6_truest 33 = .ok (.aload_n 0, 1) := by decide +kernel
theorem dX6_truest_34 : decode cX6_truest 34 = .ok (.iload 5, 2) := by decide +kernel
theorem dX6_truest_36 : decode cX6_truest 36 = .ok (.iload_n 1, 1) := by decide +kernel
theorem dX6_truest_37 : decode cX6_truest 37 = .ok (.invokevirtual 180, 3) := by decide +kernel
theorem dX6_truest_40 : decode cX6_truest 40 = .ok (.ifCond .ne 6, 3) := by decide +kernel
theorem dX6_truest_43 : decode cX6_truest 43 = .ok (.goto 37, 3) := by decide +kernel
theorem dX6_truest_46 : decode cX6_truest 46 = .ok (.aload_n 0, 1) := by decide +kernel
theorem dX6_truest_47 : decode cX6_truest 47 = .ok (.aload_n 0, 1) := by decide +kernel
theorem dX6_truest_48 : decode cX6_truest 48 = .ok (.iload 5, 2) := by decide +kernel
theorem dX6_truest_50 : decode cX6_truest 50 = .ok (.invokevirtual 127, 3) := by decide +kernel
theorem dX6_truest_53 : decode cX6_truest 53 = .ok (.invokevirtual 306, 3) := by decide +kernel
theorem dX6_truest_56 : decode cX6_truest 56 = .ok (.invokestatic 318, 3) := by decide +kernel
theorem dX6_truest_59 : decode cX6_truest 59 = .ok (.istore 6, 2) := by decide +kernel
theorem dX6_truest_61 : decode cX6_truest 61 = .ok (.iload_n 3, 1) := by decide +kernel
theorem dX6_truest_62 : decode cX6_truest 62 = .ok (.iconst (-1), 1) := by decide +kernel
theorem dX6_truest_63 : decode cX6_truest 63 = .ok (.if_icmp .eq 10, 3) := by decide +kernel
theorem dX6_truest_66 : decode cX6_truest 66 = .ok (.iload 6, 2) := by decide +kernel
theorem dX6_truest_68 : decode cX6_truest 68 = .ok (.iload 4, 2) := by decide +kernel
theorem dX6_truest_70 : decode cX6_truest 70 = .ok (.if_icmp .ge 10, 3) := by decide +kernel
theorem dX6_truest_73 : decode cX6_truest 73 = .ok (.iload 5, 2) := by decide +kernel
theorem dX6_truest_75 : decode cX6_truest 75 = .ok (.istore_n 3, 1) := by decide +kernel
theorem dX6_truest_76 : decode cX6_truest 76 = .ok (.iload 6, 2) := by decide +kernel
theorem dX6_truest_78 : decode cX6_truest 78 = .ok (.istore 4, 2) := by decide +kernel
theorem dX6_truest_80 : decode cX6_truest 80 = .ok (.iinc 5 1, 3) := by decide +kernel
theorem dX6_truest_83 : decode cX6_truest 83 = .ok (.goto (-56), 3) := by decide +kernel
theorem dX6_truest_86 : decode cX6_truest 86 = .ok (.iload_n 3, 1) := by decide +kernel
theorem dX6_truest_87 : decode cX6_truest 87 = .ok (.ireturn, 1) := by decide +kernel
theorem dX6_lacking_0 : decode cX6_lacking 0 = .ok (.aload_n 0, 1) := by decide +kernel
theorem dX6_lacking_1 : decode cX6_lacking 1 = .ok (.iconst 0, 1) := by decide +kernel
theorem dX6_lacking_2 : decode cX6_lacking 2 = .ok (.putfield 66, 3) := by decide +kernel
theorem dX6_lacking_5 : decode cX6_lacking 5 = .ok (.aload_n 0, 1) := by decide +kernel
theorem dX6_lacking_6 : decode cX6_lacking 6 = .ok (.invokevirtual 177, 3) := by decide +kernel
theorem dX6_lacking_9 : decode cX6_lacking 9 = .ok (.iconst 0, 1) := by decide +kernel
theorem dX6_lacking_10 : decode cX6_lacking 10 = .ok (.istore_n 1, 1) := by decide +kernel
theorem dX6_lacking_11 : decode cX6_lacking 11 = .ok (.iconst 0, 1) := by decide +kernel
theorem dX6_lacking_12 : decode cX6_lacking 12 = .ok (.istore_n 2, 1) := by decide +kernel
theorem dX6_lacking_13 : decode cX6_lacking 13 = .ok (.iload_n 2, 1) := by decide +kernel
theorem dX6_lacking_14 : decode cX6_lacking 14 = .ok (.bipush 25, 2) := by decide +kernel
theorem dX6_lacking_16 : decode cX6_lacking 16 = .ok (.if_icmp .ge 29, 3) := by decide +kernel
theorem dX6_lacking_19 : decode cX6_lacking 19 = .ok (.iload_n 1, 1) := by decide +kernel
theorem dX6_lacking_20 : decode cX6_lacking 20 = .ok (.aload_n 0, 1) := by decide +kernel
theorem dX6_lacking_21 : decode cX6_lacking 21 = .ok (.iload_n 2, 1) := by decide +kernel
theorem dX6_lacking_22 : decode cX6_lacking 22 = .ok (.iconst 0, 1) := by decide +kernel
theorem dX6_lacking_23 : decode cX6_lacking 23 = .ok (.invokevirtual 315, 3) := by decide +kernel
theorem dX6_lacking_26 : decode cX6_lacking 26 = .ok (.iconst (-1), 1) := by decide +kernel
theorem dX6_lacking_27 : decode cX6_lacking 27 = .ok (.if_icmp .ne 9, 3) := by decide +kernel
theorem dX6_lacking_30 : decode cX6_lacking 30 = .ok (.iconst 1, 1) := by decide +kernel
theorem dX6_lacking_31 : decode cX6_lacking 31 = .ok (.iload_n 2, 1) := by decide +kernel
theorem dX6_lacking_32 : decode cX6_lacking 32 = .ok (.ishl, 1) := by decide +kernel
theorem dX6_lacking_33 : decode cX6_lacking 33 = .ok (.goto 4, 3) := by decide +kernel
theorem dX6_lacking_36 : decode cX6_lacking 36 = .ok (.iconst 0, 1) := by decide +kernel
theorem dX6_lacking_37 : decode cX6_lacking 37 = .ok (.ior, 1) := by decide +kernel
theorem dX6_lacking_38 : decode cX6_lacking 38 = .ok (.istore_n 1, 1) := by decide +kernel
theorem dX6_lacking_39 : decode cX6_lacking 39 = .ok (.iinc 2 1, 3) := by decide +kernel
theorem dX6_lacking_42 : decode cX6_lacking 42 = .ok (.goto (-29), 3) := by decide +kernel
theorem dX6_lacking_45 : decode cX6_lacking 45 = .ok (.iload_n 1, 1) := by decide +kernel
theorem dX6_lacking_46 : decode cX6_lacking 46 = .ok (.ireturn, 1) := by decide +kernel
theorem dX6_mayPlays_0 : decode cX6_mayPlays 0 = .ok (.aload_n 0, 1) := by decide +kernel
theorem dX6_mayPlays_1 : decode cX6_mayPlays 1 = .ok (.aload_n 0, 1) := by decide +kernel
theorem dX6_mayPlays_2 : decode cX6_mayPlays 2 = .ok (.iload_n 1, 1) := by decide +kernel
theorem dX6_mayPlays_3 : decode cX6_mayPlays 3 = .ok (.invokevirtual 297, 3) := by decide +kernel
theorem dX6_mayPlays_6 : decode cX6_mayPlays 6 = .ok (.ifCond .eq 15, 3) := by decide +kernel
theorem dX6_mayPlays_9 : decode cX6_mayPlays 9 = .ok (.aload_n 0, 1) := by decide +kernel
theorem dX6_mayPlays_10 : decode cX6_mayPlays 10 = .ok (.iload_n 2, 1) := by decide +kernel
theorem dX6_mayPlays_11 : decode cX6_mayPlays 11 = .ok (.invokevirtual 297, 3) := by decide +kernel
theorem dX6_mayPlays_14 : decode cX6_mayPlays 14 = .ok (.ifCond .eq 7, 3) := by decide +kernel
theorem dX6_mayPlays_17 : decode cX6_mayPlays 17 = .ok (.iconst 1, 1) := by decide +kernel
theorem dX6_mayPlays_18 : decode cX6_mayPlays 18 = .ok (.goto 4, 3) := by decide +kernel
theorem dX6_mayPlays_21 : decode cX6_mayPlays 21 = .ok (.iconst 0, 1) := by decide +kernel
theorem dX6_mayPlays_22 : decode cX6_mayPlays 22 = .ok (.iconst 1, 1) := by decide +kernel
theorem dX6_mayPlays_23 : decode cX6_mayPlays 23 = .ok (.invokevirtual 285, 3) := by decide +kernel
theorem dX6_mayPlays_26 : decode cX6_mayPlays 26 = .ok (.ireturn, 1) := by decide +kernel
theorem dX6_change_0 : decode cX6_change 0 = .ok (.aload_n 0, 1) := by decide +kernel
theorem dX6_change_1 : decode cX6_change 1 = .ok (.iload_n 1, 1) := by decide +kernel
theorem dX6_change_2 : decode cX6_change 2 = .ok (.iload_n 2, 1) := by decide +kernel
theorem dX6_change_3 : decode cX6_change 3 = .ok (.invokevirtual 321, 3) := by decide +kernel
theorem dX6_change_6 : decode cX6_change 6 = .ok (.ifCond .eq 12, 3) := by decide +kernel
theorem dX6_change_9 : decode cX6_change 9 = .ok (.aload_n 0, 1) := by decide +kernel
theorem dX6_change_10 : decode cX6_change 10 = .ok (.iload_n 1, 1) := by decide +kernel
theorem dX6_change_11 : decode cX6_change 11 = .ok (.iload_n 2, 1) := by decide +kernel
theorem dX6_change_12 : decode cX6_change 12 = .ok (.invokevirtual 160, 3) := by decide +kernel
theorem dX6_change_15 : decode cX6_change 15 = .ok (.goto 4, 3) := by decide +kernel
theorem dX6_change_18 : decode cX6_change 18 = .ok (.iconst 0, 1) := by decide +kernel
theorem dX6_change_19 : decode cX6_change 19 = .ok (.ireturn, 1) := by decide +kernel
theorem dX6_fingers_0 : decode cX6_fingers 0 = .ok (.aload_n 0, 1) := by decide +kernel
theorem dX6_fingers_1 : decode cX6_fingers 1 = .ok (.iload_n 1, 1) := by decide +kernel
theorem dX6_fingers_2 : decode cX6_fingers 2 = .ok (.iload_n 2, 1) := by decide +kernel
theorem dX6_fingers_3 : decode cX6_fingers 3 = .ok (.invokevirtual 321, 3) := by decide +kernel
theorem dX6_fingers_6 : decode cX6_fingers 6 = .ok (.ifCond .eq 12, 3) := by decide +kernel
theorem dX6_fingers_9 : decode cX6_fingers 9 = .ok (.aload_n 0, 1) := by decide +kernel
theorem dX6_fingers_10 : decode cX6_fingers 10 = .ok (.iload_n 1, 1) := by decide +kernel
theorem dX6_fingers_11 : decode cX6_fingers 11 = .ok (.iload_n 2, 1) := by decide +kernel
theorem dX6_fingers_12 : decode cX6_fingers 12 = .ok (.invokevirtual 324, 3) := by decide +kernel
theorem dX6_fingers_15 : decode cX6_fingers 15 = .ok (.goto 4, 3) := by decide +kernel
theorem dX6_fingers_18 : decode cX6_fingers 18 = .ok (.iconst 0, 1) := by decide +kernel
theorem dX6_fingers_19 : decode cX6_fingers 19 = .ok (.ireturn, 1) := by decide +kernel
theorem dX6_nearest_0 : decode cX6_nearest 0 = .ok (.aload_n 0, 1) := by decide +kernel
theorem dX6_nearest_1 : decode cX6_nearest 1 = .ok (.iload_n 1, 1) := by decide +kernel
theorem dX6_nearest_2 : decode cX6_nearest 2 = .ok (.invokevirtual 309, 3) := by decide +kernel
theorem dX6_nearest_5 : decode cX6_nearest 5 = .ok (.ifCond .ne 5, 3) := by decide +kernel
theorem dX6_nearest_8 : decode cX6_nearest 8 = .ok (.iconst 0, 1) := by decide +kernel
theorem dX6_nearest_9 : decode cX6_nearest 9 = .ok (.ireturn, 1) := by decide +kernel
theorem dX6_nearest_10 : decode cX6_nearest 10 = .ok (.aload_n 0, 1) := by decide +kernel
theorem dX6_nearest_11 : decode cX6_nearest 11 = .ok (.invokevirtual 177, 3) := by decide +kernel
theorem dX6_nearest_14 : decode cX6_nearest 14 = .ok (.aload_n 0, 1) := by decide +kernel
theorem dX6_nearest_15 : decode cX6_nearest 15 = .ok (.invokevirtual 80, 3) := by decide +kernel
theorem dX6_nearest_18 : decode cX6_nearest 18 = .ok (.istore_n 2, 1) := by decide +kernel
theorem dX6_nearest_19 : decode cX6_nearest 19 = .ok (.iconst (-1), 1) := by decide +kernel
theorem dX6_nearest_20 : decode cX6_nearest 20 = .ok (.istore_n 3, 1) := by decide +kernel
theorem dX6_nearest_21 : decode cX6_nearest 21 = .ok (.iconst 0, 1) := by decide +kernel
theorem dX6_nearest_22 : decode cX6_nearest 22 = .ok (.istore 4, 2) := by decide +kernel
theorem dX6_nearest_24 : decode cX6_nearest 24 = .ok (.iconst 0, 1) := by decide +kernel
theorem dX6_nearest_25 : decode cX6_nearest 25 = .ok (.istore 5, 2) := by decide +kernel
theorem dX6_nearest_27 : decode cX6_nearest 27 = .ok (.iload 5, 2) := by decide +kernel
theorem dX6_nearest_29 : decode cX6_nearest 29 = .ok (.iload_n 2, 1) := by decide +kernel
theorem dX6_nearest_30 : decode cX6_nearest 30 = .ok (.if_icmp .ge 56, 3) := by decide +kernel
theorem dX6_nearest_33 : decode cX6_nearest 33 = .ok (.aload_n 0, 1) := by decide +kernel
theorem dX6_nearest_34 : decode cX6_nearest 34 = .ok (.iload 5, 2) := by decide +kernel
theorem dX6_nearest_36 : decode cX6_nearest 36 = .ok (.iload_n 1, 1) := by decide +kernel
theorem dX6_nearest_37 : decode cX6_nearest 37 = .ok (.invokevirtual 180, 3) := by decide +kernel
theorem dX6_nearest_40 : decode cX6_nearest 40 = .ok (.ifCond .ne 6, 3) := by decide +kernel
theorem dX6_nearest_43 : decode cX6_nearest 43 = .ok (.goto 37, 3) := by decide +kernel
theorem dX6_nearest_46 : decode cX6_nearest 46 = .ok (.aload_n 0, 1) := by decide +kernel
theorem dX6_nearest_47 : decode cX6_nearest 47 = .ok (.aload_n 0, 1) := by decide +kernel
theorem dX6_nearest_48 : decode cX6_nearest 48 = .ok (.getfield 7, 3) := by decide +kernel
theorem dX6_nearest_51 : decode cX6_nearest 51 = .ok (.bipush 10, 2) := by decide +kernel
theorem dX6_nearest_53 : decode cX6_nearest 53 = .ok (.iaload, 1) := by decide +kernel
theorem dX6_nearest_54 : decode cX6_nearest 54 = .ok (.iload 5, 2) := by decide +kernel
theorem dX6_nearest_56 : decode cX6_nearest 56 = .ok (.invokevirtual 160, 3) := by decide +kernel
theorem dX6_nearest_59 : decode cX6_nearest 59 = .ok (.istore 6, 2) := by decide +kernel
theorem dX6_nearest_61 : decode cX6_nearest 61 = .ok (.iload_n 3, 1) := by decide +kernel
theorem dX6_nearest_62 : decode cX6_nearest 62 = .ok (.iconst (-1), 1) := by decide +kernel
theorem dX6_nearest_63 : decode cX6_nearest 63 = .ok (.if_icmp .eq 10, 3) := by decide +kernel
theorem dX6_nearest_66 : decode cX6_nearest 66 = .ok (.iload 6, 2) := by decide +kernel
theorem dX6_nearest_68 : decode cX6_nearest 68 = .ok (.iload 4, 2) := by decide +kernel
theorem dX6_nearest_70 : decode cX6_nearest 70 = .ok (.if_icmp .ge 10, 3) := by decide +kernel
theorem dX6_nearest_73 : decode cX6_nearest 73 = .ok (.iload 5, 2) := by decide +kernel
theorem dX6_nearest_75 : decode cX6_nearest 75 = .ok (.istore_n 3, 1) := by decide +kernel
theorem dX6_nearest_76 : decode cX6_nearest 76 = .ok (.iload 6, 2) := by decide +kernel
theorem dX6_nearest_78 : decode cX6_nearest 78 = .ok (.istore 4, 2) := by decide +kernel
theorem dX6_nearest_80 : decode cX6_nearest 80 = .ok (.iinc 5 1, 3) := by decide +kernel
theorem dX6_nearest_83 : decode cX6_nearest 83 = .ok (.goto (-56), 3) := by decide +kernel
theorem dX6_nearest_86 : decode cX6_nearest 86 = .ok (.iload_n 3, 1) := by decide +kernel
theorem dX6_nearest_87 : decode cX6_nearest 87 = .ok (.ireturn, 1) := by decide +kernel
theorem dX6_isNote_0 : decode cX6_isNote 0 = .ok (.iload_n 1, 1) := by decide +kernel
theorem dX6_isNote_1 : decode cX6_isNote 1 = .ok (.i2l, 1) := by decide +kernel
theorem dX6_isNote_2 : decode cX6_isNote 2 = .ok (.lconst 0, 1) := by decide +kernel
theorem dX6_isNote_3 : decode cX6_isNote 3 = .ok (.aload_n 0, 1) := by decide +kernel
theorem dX6_isNote_4 : decode cX6_isNote 4 = .ok (.getfield 7, 3) := by decide +kernel
theorem dX6_isNote_7 : decode cX6_isNote 7 = .ok (.bipush 9, 2) := by decide +kernel
theorem dX6_isNote_9 : decode cX6_isNote 9 = .ok (.iaload, 1) := by decide +kernel
theorem dX6_isNote_10 : decode cX6_isNote 10 = .ok (.iconst 1, 1) := by decide +kernel
theorem dX6_isNote_11 : decode cX6_isNote 11 = .ok (.isub, 1) := by decide +kernel
theorem dX6_isNote_12 : decode cX6_isNote 12 = .ok (.i2l, 1) := by decide +kernel
theorem dX6_isNote_13 : decode cX6_isNote 13 = .ok (.invokestatic 83, 3) := by decide +kernel
theorem dX6_isNote_16 : decode cX6_isNote 16 = .ok (.ireturn, 1) := by decide +kernel
theorem dX6_mayNote_0 : decode cX6_mayNote 0 = .ok (.aload_n 0, 1) := by decide +kernel
theorem dX6_mayNote_1 : decode cX6_mayNote 1 = .ok (.aload_n 0, 1) := by decide +kernel
theorem dX6_mayNote_2 : decode cX6_mayNote 2 = .ok (.iload_n 1, 1) := by decide +kernel
theorem dX6_mayNote_3 : decode cX6_mayNote 3 = .ok (.invokevirtual 327, 3) := by decide +kernel
theorem dX6_mayNote_6 : decode cX6_mayNote 6 = .ok (.iconst 1, 1) := by decide +kernel
theorem dX6_mayNote_7 : decode cX6_mayNote 7 = .ok (.invokevirtual 285, 3) := by decide +kernel
theorem dX6_mayNote_10 : decode cX6_mayNote 10 = .ok (.ireturn, 1) := by decide +kernel
theorem dX6_note_0 : decode cX6_note 0 = .ok (.aload_n 0, 1) := by decide +kernel
theorem dX6_note_1 : decode cX6_note 1 = .ok (.iload_n 1, 1) := by decide +kernel
theorem dX6_note_2 : decode cX6_note 2 = .ok (.invokevirtual 330, 3) := by decide +kernel
theorem dX6_note_5 : decode cX6_note 5 = .ok (.ifCond .eq 11, 3) := by decide +kernel
theorem dX6_note_8 : decode cX6_note 8 = .ok (.aload_n 0, 1) := by decide +kernel
theorem dX6_note_9 : decode cX6_note 9 = .ok (.iload_n 1, 1) := by decide +kernel
theorem dX6_note_10 : decode cX6_note 10 = .ok (.invokevirtual 143, 3) := by decide +kernel
theorem dX6_note_13 : decode cX6_note 13 = .ok (.goto 4, 3) := by decide +kernel
theorem dX6_note_16 : decode cX6_note 16 = .ok (.iconst 0, 1) := by decide +kernel
theorem dX6_note_17 : decode cX6_note 17 = .ok (.ireturn, 1) := by decide +kernel
theorem dX6_lackingFrom_0 : decode cX6_lackingFrom 0 = .ok (.iload_n 1, 1) := by decide +kernel
theorem dX6_lackingFrom_1 : decode cX6_lackingFrom 1 = .ok (.istore_n 2, 1) := by decide +kernel
theorem dX6_lackingFrom_2 : decode cX6_lackingFrom 2 = .ok (.iload_n 2, 1) := by decide +kernel
theorem dX6_lackingFrom_3 : decode cX6_lackingFrom 3 = .ok (.aload_n 0, 1) := by decide +kernel
theorem dX6_lackingFrom_4 : decode cX6_lackingFrom 4 = .ok (.getfield 7, 3) := by decide +kernel
theorem dX6_lackingFrom_7 : decode cX6_lackingFrom 7 = .ok (.bipush 9, 2) := by decide +kernel
theorem dX6_lackingFrom_9 : decode cX6_lackingFrom 9 = .ok (.iaload, 1) := by decide +kernel
theorem dX6_lackingFrom_10 : decode cX6_lackingFrom 10 = .ok (.if_icmp .ge 33, 3) := by decide +kernel
theorem dX6_lackingFrom_13 : decode cX6_lackingFrom 13 = .ok (.aload_n 0, 1) := by decide +kernel
theorem dX6_lackingFrom_14 : decode cX6_lackingFrom 14 = .ok (.iload_n 2, 1) := by decide +kernel
theorem dX6_lackingFrom_15 : decode cX6_lackingFrom 15 = .ok (.invokevirtual 152, 3) := by decide +kernel
theorem dX6_lackingFrom_18 : decode cX6_lackingFrom 18 = .ok (.ifCond .eq 19, 3) := by decide +kernel
theorem dX6_lackingFrom_21 : decode cX6_lackingFrom 21 = .ok (.aload_n 0, 1) := by decide +kernel
theorem dX6_lackingFrom_22 : decode cX6_lackingFrom 22 = .ok (.aload_n 0, 1) := by decide +kernel
theorem dX6_lackingFrom_23 : decode cX6_lackingFrom 23 = .ok (.iload_n 2, 1) := by decide +kernel
theorem dX6_lackingFrom_24 : decode cX6_lackingFrom 24 = .ok (.invokevirtual 143, 3) := by decide +kernel
theorem dX6_lackingFrom_27 : decode cX6_lackingFrom 27 = .ok (.iconst 0, 1) := by decide +kernel
theorem dX6_lackingFrom_28 : decode cX6_lackingFrom 28 = .ok (.invokevirtual 315, 3) := by decide +kernel
theorem dX6_lackingFrom_31 : decode cX6_lackingFrom 31 = .ok (.iconst (-1), 1) := by decide +kernel
theorem dX6_lackingFrom_32 : decode cX6_lackingFrom 32 = .ok (.if_icmp .ne 5, 3) := by decide +kernel
theorem dX6_lackingFrom_35 : decode cX6_lackingFrom 35 = .ok (.iload_n 2, 1) := by decide +kernel
theorem dX6_lackingFrom_36 : decode cX6_lackingFrom 36 = .ok (.ireturn, 1) := by decide +kernel
theorem dX6_lackingFrom_37 : decode cX6_lackingFrom 37 = .ok (.iinc 2 1, 3) := by decide +kernel
theorem dX6_lackingFrom_40 : decode cX6_lackingFrom 40 = .ok (.goto (-38), 3) := by decide +kernel
theorem dX6_lackingFrom_43 : decode cX6_lackingFrom 43 = .ok (.iconst (-1), 1) := by decide +kernel
theorem dX6_lackingFrom_44 : decode cX6_lackingFrom 44 = .ok (.ireturn, 1) := by decide +kernel
theorem dX6_isPlayable_0 : decode cX6_isPlayable 0 = .ok (.aload_n 0, 1) := by decide +kernel
theorem dX6_isPlayable_1 : decode cX6_isPlayable 1 = .ok (.iconst 0, 1) := by decide +kernel
theorem dX6_isPlayable_2 : decode cX6_isPlayable 2 = .ok (.putfield 66, 3) := by decide +kernel
theorem dX6_isPlayable_5 : decode cX6_isPlayable 5 = .ok (.aload_n 0, 1) := by decide +kernel
theorem dX6_isPlayable_6 : decode cX6_isPlayable 6 = .ok (.invokevirtual 177, 3) := by decide +kernel
theorem dX6_isPlayable_9 : decode cX6_isPlayable 9 = .ok (.aload_n 0, 1) := by decide +kernel
theorem dX6_isPlayable_10 : decode cX6_isPlayable 10 = .ok (.iconst 0, 1) := by decide +kernel
theorem dX6_isPlayable_11 : decode cX6_isPlayable 11 = .ok (.invokevirtual 333, 3) := by decide +kernel
theorem dX6_isPlayable_14 : decode cX6_isPlayable 14 = .ok (.iconst (-1), 1) := by decide +kernel
theorem dX6_isPlayable_15 : decode cX6_isPlayable 15 = .ok (.if_icmp .ne 7, 3) := by decide +kernel
theorem dX6_isPlayable_18 : decode cX6_isPlayable 18 = .ok (.iconst 1, 1) := by decide +kernel
theorem dX6_isPlayable_19 : decode cX6_isPlayable 19 = .ok (.goto 4, 3) := by decide +kernel
theorem dX6_isPlayable_22 : decode cX6_isPlayable 22 = .ok (.iconst 0, 1) := by decide +kernel
theorem dX6_isPlayable_23 : decode cX6_isPlayable 23 = .ok (.ireturn, 1) := by decide +kernel
theorem dX6_firstLacking_0 : decode cX6_firstLacking 0 = .ok (.aload_n 0, 1) := by decide +kernel
theorem dX6_firstLacking_1 : decode cX6_firstLacking 1 = .ok (.iconst 0, 1) := by decide +kernel
theorem dX6_firstLacking_2 : decode cX6_firstLacking 2 = .ok (.putfield 66, 3) := by decide +kernel
theorem dX6_firstLacking_5 : decode cX6_firstLacking 5 = .ok (.aload_n 0, 1) := by decide +kernel
theorem dX6_firstLacking_6 : decode cX6_firstLacking 6 = .ok (.invokevirtual 177, 3) := by decide +kernel
theorem dX6_firstLacking_9 : decode cX6_firstLacking 9 = .ok (.aload_n 0, 1) := by decide +kernel
theorem dX6_firstLacking_10 : decode cX6_firstLacking 10 = .ok (.iconst 0, 1) := by decide +kernel
theorem dX6_firstLacking_11 : decode cX6_firstLacking 11 = .ok (.invokevirtual 333, 3) := by decide +kernel
theorem dX6_firstLacking_14 : decode cX6_firstLacking 14 = .ok (.ireturn, 1) := by decide +kernel
theorem dX6_cost_0 : decode cX6_cost 0 = .ok (.aload_n 0, 1) := by decide +kernel
theorem dX6_cost_1 : decode cX6_cost 1 = .ok (.iconst 0, 1) := by decide +kernel
theorem dX6_cost_2 : decode cX6_cost 2 = .ok (.putfield 66, 3) := by decide +kernel
theorem dX6_cost_5 : decode cX6_cost 5 = .ok (.aload_n 0, 1) := by decide +kernel
theorem dX6_cost_6 : decode cX6_cost 6 = .ok (.invokevirtual 177, 3) := by decide +kernel
theorem dX6_cost_9 : decode cX6_cost 9 = .ok (.aload_n 0, 1) := by decide +kernel
theorem dX6_cost_10 : decode cX6_cost 10 = .ok (.iconst 0, 1) := by decide +kernel
theorem dX6_cost_11 : decode cX6_cost 11 = .ok (.aload_n 0, 1) := by decide +kernel
theorem dX6_cost_12 : decode cX6_cost 12 = .ok (.getfield 7, 3) := by decide +kernel
theorem dX6_cost_15 : decode cX6_cost 15 = .ok (.iconst 4, 1) := by decide +kernel
theorem dX6_cost_16 : decode cX6_cost 16 = .ok (.iaload, 1) := by decide +kernel
theorem dX6_cost_17 : decode cX6_cost 17 = .ok (.aload_n 0, 1) := by decide +kernel
theorem dX6_cost_18 : decode cX6_cost 18 = .ok (.getfield 7, 3) := by decide +kernel
theorem dX6_cost_21 : decode cX6_cost 21 = .ok (.iconst 5, 1) := by decide +kernel
theorem dX6_cost_22 : decode cX6_cost 22 = .ok (.iaload, 1) := by decide +kernel
theorem dX6_cost_23 : decode cX6_cost 23 = .ok (.invokevirtual 336, 3) := by decide +kernel
theorem dX6_cost_26 : decode cX6_cost 26 = .ok (.ireturn, 1) := by decide +kernel
theorem dX6_wayPlay_0 : decode cX6_wayPlay 0 = .ok (.aload_n 0, 1) := by decide +kernel
theorem dX6_wayPlay_1 : decode cX6_wayPlay 1 = .ok (.iload_n 1, 1) := by decide +kernel
theorem dX6_wayPlay_2 : decode cX6_wayPlay 2 = .ok (.invokevirtual 330, 3) := by decide +kernel
theorem dX6_wayPlay_5 : decode cX6_wayPlay 5 = .ok (.ifCond .ne 5, 3) := by decide +kernel
theorem dX6_wayPlay_8 : decode cX6_wayPlay 8 = .ok (.iconst 0, 1) := by decide +kernel
theorem dX6_wayPlay_9 : decode cX6_wayPlay 9 = .ok (.ireturn, 1) := by decide +kernel
theorem dX6_wayPlay_10 : decode cX6_wayPlay 10 = .ok (.aload_n 0, 1) := by decide +kernel
theorem dX6_wayPlay_11 : decode cX6_wayPlay 11 = .ok (.invokevirtual 339, 3) := by decide +kernel
theorem dX6_wayPlay_14 : decode cX6_wayPlay 14 = .ok (.ifCond .eq 12, 3) := by decide +kernel
theorem dX6_wayPlay_17 : decode cX6_wayPlay 17 = .ok (.aload_n 0, 1) := by decide +kernel
theorem dX6_wayPlay_18 : decode cX6_wayPlay 18 = .ok (.getfield 46, 3) := by decide +kernel
theorem dX6_wayPlay_21 : decode cX6_wayPlay 21 = .ok (.iload_n 1, 1) := by decide +kernel
theorem dX6_wayPlay_22 : decode cX6_wayPlay 22 = .ok (.iaload, 1) := by decide +kernel
theorem dX6_wayPlay_23 : decode cX6_wayPlay 23 = .ok (.goto 4, 3) := by decide +kernel
theorem dX6_wayPlay_26 : decode cX6_wayPlay 26 = .ok (.iconst (-1), 1) := by decide +kernel
theorem dX6_wayPlay_27 : decode cX6_wayPlay 27 = .ok (.ireturn, 1) := by decide +kernel
theorem dX6_wayChange_0 : decode cX6_wayChange 0 = .ok (.aload_n 0, 1) := by decide +kernel
theorem dX6_wayChange_1 : decode cX6_wayChange 1 = .ok (.iload_n 1, 1) := by decide +kernel
theorem dX6_wayChange_2 : decode cX6_wayChange 2 = .ok (.invokevirtual 330, 3) := by decide +kernel
theorem dX6_wayChange_5 : decode cX6_wayChange 5 = .ok (.ifCond .ne 5, 3) := by decide +kernel
theorem dX6_wayChange_8 : decode cX6_wayChange 8 = .ok (.iconst 0, 1) := by decide +kernel
theorem dX6_wayChange_9 : decode cX6_wayChange 9 = .ok (.ireturn, 1) := by decide +kernel
theorem dX6_wayChange_10 : decode cX6_wayChange 10 = .ok (.aload_n 0, 1) := by decide +kernel
theorem dX6_wayChange_11 : decode cX6_wayChange 11 = .ok (.invokevirtual 339, 3) := by decide +kernel
theorem dX6_wayChange_14 : decode cX6_wayChange 14 = .ok (.ifCond .eq 11, 3) := by decide +kernel
theorem dX6_wayChange_17 : decode cX6_wayChange 17 = .ok (.aload_n 0, 1) := by decide +kernel
theorem dX6_wayChange_18 : decode cX6_wayChange 18 = .ok (.iload_n 1, 1) := by decide +kernel
theorem dX6_wayChange_19 : decode cX6_wayChange 19 = .ok (.invokevirtual 342, 3) := by decide +kernel
theorem dX6_wayChange_22 : decode cX6_wayChange 22 = .ok (.goto 4, 3) := by decide +kernel
theorem dX6_wayChange_25 : decode cX6_wayChange 25 = .ok (.iconst (-1), 1) := by decide +kernel
theorem dX6_wayChange_26 : decode cX6_wayChange 26 = .ok (.ireturn, 1) := by decide +kernel
theorem dX6_hardest_0 : decode cX6_hardest 0 = .ok (.aload_n 0, 1) := by decide +kernel
theorem dX6_hardest_1 : decode cX6_hardest 1 = .ok (.iconst 0, 1) := by decide +kernel
theorem dX6_hardest_2 : decode cX6_hardest 2 = .ok (.putfield 66, 3) := by decide +kernel
theorem dX6_hardest_5 : decode cX6_hardest 5 = .ok (.aload_n 0, 1) := by decide +kernel
theorem dX6_hardest_6 : decode cX6_hardest 6 = .ok (.invokevirtual 339, 3) := by decide +kernel
theorem dX6_hardest_9 : decode cX6_hardest 9 = .ok (.ifCond .ne 5, 3) := by decide +kernel
theorem dX6_hardest_12 : decode cX6_hardest 12 = .ok (.iconst (-1), 1) := by decide +kernel
theorem dX6_hardest_13 : decode cX6_hardest 13 = .ok (.ireturn, 1) := by decide +kernel
theorem dX6_hardest_14 : decode cX6_hardest 14 = .ok (.iconst (-1), 1) := by decide +kernel
theorem dX6_hardest_15 : decode cX6_hardest 15 = .ok (.istore_n 1, 1) := by decide +kernel
theorem dX6_hardest_16 : decode cX6_hardest 16 = .ok (.iconst (-1), 1) := by decide +kernel
theorem dX6_hardest_17 : decode cX6_hardest 17 = .ok (.istore_n 2, 1) := by decide +kernel
theorem dX6_hardest_18 : decode cX6_hardest 18 = .ok (.iconst 0, 1) := by decide +kernel
theorem dX6_hardest_19 : decode cX6_hardest 19 = .ok (.istore_n 3, 1) := by decide +kernel
theorem dX6_hardest_20 : decode cX6_hardest 20 = .ok (.iload_n 3, 1) := by decide +kernel
theorem dX6_hardest_21 : decode cX6_hardest 21 = .ok (.aload_n 0, 1) := by decide +kernel
theorem dX6_hardest_22 : decode cX6_hardest 22 = .ok (.getfield 7, 3) := by decide +kernel
theorem dX6_hardest_25 : decode cX6_hardest 25 = .ok (.bipush 9, 2) := by decide +kernel
theorem dX6_hardest_27 : decode cX6_hardest 27 = .ok (.iaload, 1) := by decide +kernel
theorem dX6_hardest_28 : decode cX6_hardest 28 = .ok (.if_icmp .ge 27, 3) := by decide +kernel
theorem dX6_hardest_31 : decode cX6_hardest 31 = .ok (.aload_n 0, 1) := by decide +kernel
theorem dX6_hardest_32 : decode cX6_hardest 32 = .ok (.iload_n 3, 1) := by decide +kernel
theorem dX6_hardest_33 : decode cX6_hardest 33 = .ok (.invokevirtual 342, 3) := by decide +kernel
theorem dX6_hardest_36 : decode cX6_hardest 36 = .ok (.istore 4, 2) := by decide +kernel
theorem dX6_hardest_38 : decode cX6_hardest 38 = .ok (.iload 4, 2) := by decide +kernel
theorem dX6_hardest_40 : decode cX6_hardest 40 = .ok (.iload_n 2, 1) := by decide +kernel
theorem dX6_hardest_41 : decode cX6_hardest 41 = .ok (.if_icmp .le 8, 3) := by decide +kernel
theorem dX6_hardest_44 : decode cX6_hardest 44 = .ok (.iload_n 3, 1) := by decide +kernel
theorem dX6_hardest_45 : decode cX6_hardest 45 = .ok (.istore_n 1, 1) := by decide +kernel
theorem dX6_hardest_46 : decode cX6_hardest 46 = .ok (.iload 4, 2) := by decide +kernel
theorem dX6_hardest_48 : decode cX6_hardest 48 = .ok (.istore_n 2, 1) := by decide +kernel
theorem dX6_hardest_49 : decode cX6_hardest 49 = .ok (.iinc 3 1, 3) := by decide +kernel
theorem dX6_hardest_52 : decode cX6_hardest 52 = .ok (.goto (-32), 3) := by decide +kernel
theorem dX6_hardest_55 : decode cX6_hardest 55 = .ok (.iload_n 1, 1) := by decide +kernel
theorem dX6_hardest_56 : decode cX6_hardest 56 = .ok (.ireturn, 1) := by decide +kernel
theorem dX6_isChange_0 : decode cX6_isChange 0 = .ok (.iload_n 1, 1) := by decide +kernel
theorem dX6_isChange_1 : decode cX6_isChange 1 = .ok (.ifCond .le 25, 3) := by decide +kernel
theorem dX6_isChange_4 : decode cX6_isChange 4 = .ok (.aload_n 0, 1) := by decide +kernel
theorem dX6_isChange_5 : decode cX6_isChange 5 = .ok (.iload_n 1, 1) := by decide +kernel
theorem dX6_isChange_6 : decode cX6_isChange 6 = .ok (.invokevirtual 152, 3) := by decide +kernel
theorem dX6_isChange_9 : decode cX6_isChange 9 = .ok (.ifCond .eq 17, 3) := by decide +kernel
theorem dX6_isChange_12 : decode cX6_isChange 12 = .ok (.aload_n 0, 1) := by decide +kernel
theorem dX6_isChange_13 : decode cX6_isChange 13 = .ok (.iload_n 1, 1) := by decide +kernel
theorem dX6_isChange_14 : decode cX6_isChange 14 = .ok (.iconst 1, 1) := by decide +kernel
theorem dX6_isChange_15 : decode cX6_isChange 15 = .ok (.isub, 1) := by decide +kernel
theorem dX6_isChange_16 : decode cX6_isChange 16 = .ok (.invokevirtual 152, 3) := by decide +kernel
theorem dX6_isChange_19 : decode cX6_isChange 19 = .ok (.ifCond .eq 7, 3) := by decide +kernel
theorem dX6_isChange_22 : decode cX6_isChange 22 = .ok (.iconst 1, 1) := by decide +kernel
theorem dX6_isChange_23 : decode cX6_isChange 23 = .ok (.goto 4, 3) := by decide +kernel
theorem dX6_isChange_26 : decode cX6_isChange 26 = .ok (.iconst 0, 1) := by decide +kernel
theorem dX6_isChange_27 : decode cX6_isChange 27 = .ok (.ireturn, 1) := by decide +kernel
theorem dX6_moved_0 : decode cX6_moved 0 = .ok (.aload_n 0, 1) := by decide +kernel
theorem dX6_moved_1 : decode cX6_moved 1 = .ok (.aload_n 0, 1) := by decide +kernel
theorem dX6_moved_2 : decode cX6_moved 2 = .ok (.iload_n 1, 1) := by decide +kernel
theorem dX6_moved_3 : decode cX6_moved 3 = .ok (.invokevirtual 292, 3) := by decide +kernel
theorem dX6_moved_6 : decode cX6_moved 6 = .ok (.iconst 1, 1) := by decide +kernel
theorem dX6_moved_7 : decode cX6_moved 7 = .ok (.invokevirtual 285, 3) := by decide +kernel
theorem dX6_moved_10 : decode cX6_moved 10 = .ok (.ifCond .ne 5, 3) := by decide +kernel
theorem dX6_moved_13 : decode cX6_moved 13 = .ok (.iconst 0, 1) := by decide +kernel
theorem dX6_moved_14 : decode cX6_moved 14 = .ok (.ireturn, 1) := by decide +kernel
theorem dX6_moved_15 : decode cX6_moved 15 = .ok (.aload_n 0, 1) := by decide +kernel
theorem dX6_moved_16 : decode cX6_moved 16 = .ok (.invokevirtual 339, 3) := by decide +kernel
theorem dX6_moved_19 : decode cX6_moved 19 = .ok (.ifCond .ne 5, 3) := by decide +kernel
theorem dX6_moved_22 : decode cX6_moved 22 = .ok (.iconst (-1), 1) := by decide +kernel
theorem dX6_moved_23 : decode cX6_moved 23 = .ok (.ireturn, 1) := by decide +kernel
theorem dX6_moved_24 : decode cX6_moved 24 = .ok (.iconst 0, 1) := by decide +kernel
theorem dX6_moved_25 : decode cX6_moved 25 = .ok (.istore_n 2, 1) := by decide +kernel
theorem dX6_moved_26 : decode cX6_moved 26 = .ok (.iconst 1, 1) := by decide +kernel
theorem dX6_moved_27 : decode cX6_moved 27 = .ok (.istore_n 3, 1) := by decide +kernel
theorem dX6_moved_28 : decode cX6_moved 28 = .ok (.iload_n 3, 1) := by decide +kernel
theorem dX6_moved_29 : decode cX6_moved 29 = .ok (.aload_n 0, 1) := by decide +kernel
theorem dX6_moved_30 : decode cX6_moved 30 = .ok (.getfield 7, 3) := by decide +kernel
theorem dX6_moved_33 : decode cX6_moved 33 = .ok (.bipush 9, 2) := by decide +kernel
theorem dX6_moved_35 : decode cX6_moved 35 = .ok (.iaload, 1) := by decide +kernel
theorem dX6_moved_36 : decode cX6_moved 36 = .ok (.if_icmp .ge 52, 3) := by decide +kernel
theorem dX6_moved_39 : decode cX6_moved 39 = .ok (.iload_n 2, 1) := by decide +kernel
theorem dX6_moved_40 : decode cX6_moved 40 = .ok (.aload_n 0, 1) := by decide +kernel
theorem dX6_moved_41 : decode cX6_moved 41 = .ok (.iload_n 3, 1) := by decide +kernel
theorem dX6_moved_42 : decode cX6_moved 42 = .ok (.invokevirtual 345, 3) := by decide +kernel
theorem dX6_moved_45 : decode cX6_moved 45 = .ok (.ifCond .eq 34, 3) := by decide +kernel
theorem dX6_moved_48 : decode cX6_moved 48 = .ok (.aload_n 0, 1) := by decide +kernel
theorem dX6_moved_49 : decode cX6_moved 49 = .ok (.aload_n 0, 1) := by decide +kernel
theorem dX6_moved_50 : decode cX6_moved 50 = .ok (.getfield 46, 3) := by decide +kernel
theorem dX6_moved_53 : decode cX6_moved 53 = .ok (.iload_n 3, 1) := by decide +kernel
theorem dX6_moved_54 : decode cX6_moved 54 = .ok (.iaload, 1) := by decide +kernel
theorem dX6_moved_55 : decode cX6_moved 55 = .ok (.iload_n 1, 1) := by decide +kernel
theorem dX6_moved_56 : decode cX6_moved 56 = .ok (.invokevirtual 90, 3) := by decide +kernel
theorem dX6_moved_59 : decode cX6_moved 59 = .ok (.aload_n 0, 1) := by decide +kernel
theorem dX6_moved_60 : decode cX6_moved 60 = .ok (.aload_n 0, 1) := by decide +kernel
theorem dX6_moved_61 : decode cX6_moved 61 = .ok (.getfield 46, 3) := by decide +kernel
theorem dX6_moved_64 : decode cX6_moved 64 = .ok (.iload_n 3, 1) := by decide +kernel
theorem dX6_moved_65 : decode cX6_moved 65 = .ok (.iconst 1, 1) := by decide +kernel
theorem dX6_moved_66 : decode cX6_moved 66 = .ok (.isub, 1) := by decide +kernel
theorem dX6_moved_67 : decode cX6_moved 67 = .ok (.iaload, 1) := by decide +kernel
theorem dX6_moved_68 : decode cX6_moved 68 = .ok (.iload_n 1, 1) := by decide +kernel
theorem dX6_moved_69 : decode cX6_moved 69 = .ok (.invokevirtual 90, 3) := by decide +kernel
theorem dX6_moved_72 : decode cX6_moved 72 = .ok (.if_icmp .eq 7, 3) := by decide +kernel
theorem dX6_moved_75 : decode cX6_moved 75 = .ok (.iconst 1, 1) := by decide +kernel
theorem dX6_moved_76 : decode cX6_moved 76 = .ok (.goto 4, 3) := by decide +kernel
theorem dX6_moved_79 : decode cX6_moved 79 = .ok (.iconst 0, 1) := by decide +kernel
theorem dX6_moved_80 : decode cX6_moved 80 = .ok (.iadd, 1) := by decide +kernel
theorem dX6_moved_81 : decode cX6_moved 81 = .ok (.istore_n 2, 1) := by decide +kernel
theorem dX6_moved_82 : decode cX6_moved 82 = .ok (.iinc 3 1, 3) := by decide +kernel
theorem dX6_moved_85 : decode cX6_moved 85 = .ok (.goto (-57), 3) := by decide +kernel
theorem dX6_moved_88 : decode cX6_moved 88 = .ok (.iload_n 2, 1) := by decide +kernel
theorem dX6_moved_89 : decode cX6_moved 89 = .ok (.ireturn, 1) := by decide +kernel
theorem dX6_idle_0 : decode cX6_idle 0 = .ok (.aload_n 0, 1) := by decide +kernel
theorem dX6_idle_1 : decode cX6_idle 1 = .ok (.iconst 0, 1) := by decide +kernel
theorem dX6_idle_2 : decode cX6_idle 2 = .ok (.putfield 66, 3) := by decide +kernel
theorem dX6_idle_5 : decode cX6_idle 5 = .ok (.aload_n 0, 1) := by decide +kernel
theorem dX6_idle_6 : decode cX6_idle 6 = .ok (.invokevirtual 339, 3) := by decide +kernel
theorem dX6_idle_9 : decode cX6_idle 9 = .ok (.ifCond .ne 5, 3) := by decide +kernel
theorem dX6_idle_12 : decode cX6_idle 12 = .ok (.iconst (-1), 1) := by decide +kernel
theorem dX6_idle_13 : decode cX6_idle 13 = .ok (.ireturn, 1) := by decide +kernel
theorem dX6_idle_14 : decode cX6_idle 14 = .ok (.iconst 0, 1) := by decide +kernel
theorem dX6_idle_15 : decode cX6_idle 15 = .ok (.istore_n 1, 1) := by decide +kernel
theorem dX6_idle_16 : decode cX6_idle 16 = .ok (.iconst 0, 1) := by decide +kernel
theorem dX6_idle_17 : decode cX6_idle 17 = .ok (.istore_n 2, 1) := by decide +kernel
theorem dX6_idle_18 : decode cX6_idle 18 = .ok (.iload_n 2, 1) := by decide +kernel
theorem dX6_idle_19 : decode cX6_idle 19 = .ok (.aload_n 0, 1) := by decide +kernel
theorem dX6_idle_20 : decode cX6_idle 20 = .ok (.getfield 7, 3) := by decide +kernel
theorem dX6_idle_23 : decode cX6_idle 23 = .ok (.iconst 3, 1) := by decide +kernel
theorem dX6_idle_24 : decode cX6_idle 24 = .ok (.iaload, 1) := by decide +kernel
theorem dX6_idle_25 : decode cX6_idle 25 = .ok (.if_icmp .ge 102, 3) := by decide +kernel
theorem dX6_idle_28 : decode cX6_idle 28 = .ok (.iconst (-1), 1) := by decide +kernel
theorem dX6_idle_29 : decode cX6_idle 29 = .ok (.istore_n 3, 1) := by decide +kernel
theorem dX6_idle_30 : decode cX6_idle 30 = .ok (.iconst 1, 1) := by decide +kernel
theorem dX6_idle_31 : decode cX6_idle 31 = .ok (.istore 4, 2) := by decide +kernel
theorem dX6_idle_33 : decode cX6_idle 33 = .ok (.iconst 0, 1) := by decide +kernel
theorem dX6_idle_34 : decode cX6_idle 34 = .ok (.istore 5, 2) := by decide +kernel
theorem dX6_idle_36 : decode cX6_idle 36 = .ok (.iload 5, 2) := by decide +kernel
theorem dX6_idle_38 : decode cX6_idle 38 = .ok (.aload_n 0, 1) := by decide +kernel
theorem dX6_idle_39 : decode cX6_idle 39 = .ok (.getfield 7, 3) := by decide +kernel
theorem dX6_idle_42 : decode cX6_idle 42 = .ok (.bipush 9, 2) := by decide +kernel
theorem dX6_idle_44 : decode cX6_idle 44 = .ok (.iaload, 1) := by decide +kernel
theorem dX6_idle_45 : decode cX6_idle 45 = .ok (.if_icmp .ge 61, 3) := by decide +kernel
theorem dX6_idle_48 : decode cX6_idle 48 = .ok (.aload_n 0, 1) := by decide +kernel
theorem dX6_idle_49 : decode cX6_idle 49 = .ok (.iload 5, 2) := by decide +kernel
theorem dX6_idle_51 : decode cX6_idle 51 = .ok (.invokevirtual 152, 3) := by decide +kernel
theorem dX6_idle_54 : decode cX6_idle 54 = .ok (.ifCond .ne 6, 3) := by decide +kernel
theorem dX6_idle_57 : decode cX6_idle 57 = .ok (.goto 43, 3) := by decide +kernel
theorem dX6_idle_60 : decode cX6_idle 60 = .ok (.aload_n 0, 1) := by decide +kernel
theorem dX6_idle_61 : decode cX6_idle 61 = .ok (.aload_n 0, 1) := by decide +kernel
theorem dX6_idle_62 : decode cX6_idle 62 = .ok (.getfield 46, 3) := by decide +kernel
theorem dX6_idle_65 : decode cX6_idle 65 = .ok (.iload 5, 2) := by decide +kernel
theorem dX6_idle_67 : decode cX6_idle 67 = .ok (.iaload, 1) := by decide +kernel
theorem dX6_idle_68 : decode cX6_idle 68 = .ok (.iload_n 2, 1) := by decide +kernel
theorem dX6_idle_69 : decode cX6_idle 69 = .ok (.invokevirtual 90, 3) := by decide +kernel
theorem dX6_idle_72 : decode cX6_idle 72 = .ok (.istore 6, 2) := by decide +kernel
theorem dX6_idle_74 : decode cX6_idle 74 = .ok (.iload 4, 2) := by decide +kernel
theorem dX6_idle_76 : decode cX6_idle 76 = .ok (.ifCond .eq 18, 3) := by decide +kernel
theorem dX6_idle_79 : decode cX6_idle 79 = .ok (.iload_n 3, 1) := by decide +kernel
theorem dX6_idle_80 : decode cX6_idle 80 = .ok (.iconst (-1), 1) := by decide +kernel
theorem dX6_idle_81 : decode cX6_idle 81 = .ok (.if_icmp .eq 9, 3) := by decide +kernel
theorem dX6_idle_84 : decode cX6_idle 84 = .ok (.iload_n 3, 1) := by decide +kernel
theorem dX6_idle_85 : decode cX6_idle 85 = .ok (.iload 6, 2) := by decide +kernel
theorem dX6_idle_87 : decode cX6_idle 87 = .ok (.if_icmp .ne 7, 3) := by decide +kernel
theorem dX6_idle_90 : decode cX6_idle 90 = .ok (.iconst 1, 1) := by decide +kernel
theorem dX6_idle_91 : decode cX6_idle 91 = .ok (.goto 4, 3) := by decide +kernel
theorem dX6_idle_94 : decode cX6_idle 94 = .ok (.iconst 0, 1) := by decide +kernel
theorem dX6_idle_95 : decode cX6_idle 95 = .ok (.istore 4, 2) := by decide +kernel
theorem dX6_idle_97 : decode cX6_idle 97 = .ok (.iload 6, 2) := by decide +kernel
theorem dX6_idle_99 : decode cX6_idle 99 = .ok (.istore_n 3, 1) := by decide +kernel
theorem dX6_idle_100 : decode cX6_idle 100 = .ok (.iinc 5 1, 3) := by decide +kernel
theorem dX6_idle_103 : decode cX6_idle 103 = .ok (.goto (-67), 3) := by decide +kernel
theorem dX6_idle_106 : decode cX6_idle 106 = .ok (.iload_n 1, 1) := by decide +kernel
theorem dX6_idle_107 : decode cX6_idle 107 = .ok (.iload 4, 2) := by decide +kernel
theorem dX6_idle_109 : decode cX6_idle 109 = .ok (.ifCond .eq 9, 3) := by decide +kernel
theorem dX6_idle_112 : decode cX6_idle 112 = .ok (.iconst 1, 1) := by decide +kernel
theorem dX6_idle_113 : decode cX6_idle 113 = .ok (.iload_n 2, 1) := by decide +kernel
theorem dX6_idle_114 : decode cX6_idle 114 = .ok (.ishl, 1) := by decide +kernel
theorem dX6_idle_115 : decode cX6_idle 115 = .ok (.goto 4, 3) := by decide +kernel
theorem dX6_idle_118 : decode cX6_idle 118 = .ok (.iconst 0, 1) := by decide +kernel
theorem dX6_idle_119 : decode cX6_idle 119 = .ok (.ior, 1) := by decide +kernel
theorem dX6_idle_120 : decode cX6_idle 120 = .ok (.istore_n 1, 1) := by decide +kernel
theorem dX6_idle_121 : decode cX6_idle 121 = .ok (.iinc 2 1, 3) := by decide +kernel
theorem dX6_idle_124 : decode cX6_idle 124 = .ok (.goto (-106), 3) := by decide +kernel
theorem dX6_idle_127 : decode cX6_idle 127 = .ok (.iload_n 1, 1) := by decide +kernel
theorem dX6_idle_128 : decode cX6_idle 128 = .ok (.ireturn, 1) := by decide +kernel
theorem dX6_costBy_0 : decode cX6_costBy 0 = .ok (.aload_n 0, 1) := by decide +kernel
theorem dX6_costBy_1 : decode cX6_costBy 1 = .ok (.iload_n 1, 1) := by decide +kernel
theorem dX6_costBy_2 : decode cX6_costBy 2 = .ok (.i2l, 1) := by decide +kernel
theorem dX6_costBy_3 : decode cX6_costBy 3 = .ok (.ldc2_w 348, 3) := by decide +kernel
theorem dX6_costBy_6 : decode cX6_costBy 6 = .ok (.ldc2_w 350, 3) := by decide +kernel
theorem dX6_costBy_9 : decode cX6_costBy 9 = .ok (.invokestatic 83, 3) := by decide +kernel
theorem dX6_costBy_12 : decode cX6_costBy 12 = .ok (.iconst 1, 1) := by decide +kernel
theorem dX6_costBy_13 : decode cX6_costBy 13 = .ok (.invokevirtual 285, 3) := by decide +kernel
theorem dX6_costBy_16 : decode cX6_costBy 16 = .ok (.ifCond .ne 5, 3) := by decide +kernel
theorem dX6_costBy_19 : decode cX6_costBy 19 = .ok (.iconst 0, 1) := by decide +kernel
theorem dX6_costBy_20 : decode cX6_costBy 20 = .ok (.ireturn, 1) := by decide +kernel
theorem dX6_costBy_21 : decode cX6_costBy 21 = .ok (.aload_n 0, 1) := by decide +kernel
theorem dX6_costBy_22 : decode cX6_costBy 22 = .ok (.invokevirtual 177, 3) := by decide +kernel
theorem dX6_costBy_25 : decode cX6_costBy 25 = .ok (.aload_n 0, 1) := by decide +kernel
theorem dX6_costBy_26 : decode cX6_costBy 26 = .ok (.iload_n 1, 1) := by decide +kernel
theorem dX6_costBy_27 : decode cX6_costBy 27 = .ok (.aload_n 0, 1) := by decide +kernel
theorem dX6_costBy_28 : decode cX6_costBy 28 = .ok (.getfield 7, 3) := by decide +kernel
theorem dX6_costBy_31 : decode cX6_costBy 31 = .ok (.iconst 4, 1) := by decide +kernel
theorem dX6_costBy_32 : decode cX6_costBy 32 = .ok (.iaload, 1) := by decide +kernel
theorem dX6_costBy_33 : decode cX6_costBy 33 = .ok (.aload_n 0, 1) := by decide +kernel
theorem dX6_costBy_34 : decode cX6_costBy 34 = .ok (.getfield 7, 3) := by decide +kernel
theorem dX6_costBy_37 : decode cX6_costBy 37 = .ok (.iconst 5, 1) := by decide +kernel
theorem dX6_costBy_38 : decode cX6_costBy 38 = .ok (.iaload, 1) := by decide +kernel
theorem dX6_costBy_39 : decode cX6_costBy 39 = .ok (.invokevirtual 336, 3) := by decide +kernel
theorem dX6_costBy_42 : decode cX6_costBy 42 = .ok (.ireturn, 1) := by decide +kernel
theorem dX6_bestBy_0 : decode cX6_bestBy 0 = .ok (.aload_n 0, 1) := by decide +kernel
theorem dX6_bestBy_1 : decode cX6_bestBy 1 = .ok (.iconst 0, 1) := by decide +kernel
theorem dX6_bestBy_2 : decode cX6_bestBy 2 = .ok (.putfield 66, 3) := by decide +kernel
theorem dX6_bestBy_5 : decode cX6_bestBy 5 = .ok (.aload_n 0, 1) := by decide +kernel
theorem dX6_bestBy_6 : decode cX6_bestBy 6 = .ok (.invokevirtual 177, 3) := by decide +kernel
theorem dX6_bestBy_9 : decode cX6_bestBy 9 = .ok (.bipush (-99), 2) := by decide +kernel
theorem dX6_bestBy_11 : decode cX6_bestBy 11 = .ok (.istore_n 1, 1) := by decide +kernel
theorem dX6_bestBy_12 : decode cX6_bestBy 12 = .ok (.iconst 0, 1) := by decide +kernel
theorem dX6_bestBy_13 : decode cX6_bestBy 13 = .ok (.istore_n 2, 1) := by decide +kernel
theorem dX6_bestBy_14 : decode cX6_bestBy 14 = .ok (.iconst 0, 1) := by decide +kernel
theorem dX6_bestBy_15 : decode cX6_bestBy 15 = .ok (.istore_n 3, 1) := by decide +kernel
theorem dX6_bestBy_16 : decode cX6_bestBy 16 = .ok (.iload_n 3, 1) := by decide +kernel
theorem dX6_bestBy_17 : decode cX6_bestBy 17 = .ok (.bipush 13, 2) := by decide +kernel
theorem dX6_bestBy_19 : decode cX6_bestBy 19 = .ok (.if_icmp .ge 74, 3) := by decide +kernel
theorem dX6_bestBy_22 : decode cX6_bestBy 22 = .ok (.iload_n 3, 1) := by decide +kernel
theorem dX6_bestBy_23 : decode cX6_bestBy 23 = .ok (.iconst 2, 1) := by decide +kernel
theorem dX6_bestBy_24 : decode cX6_bestBy 24 = .ok (.irem, 1) := by decide +kernel
theorem dX6_bestBy_25 : decode cX6_bestBy 25 = .ok (.iconst 1, 1) := by decide +kernel
theorem dX6_bestBy_26 : decode cX6_bestBy 26 = .ok (.if_icmp .ne 11, 3) := by decide +kernel
theorem dX6_bestBy_29 : decode cX6_bestBy 29 = .ok (.iload_n 3, 1) := by decide +kernel
theorem dX6_bestBy_30 : decode cX6_bestBy 30 = .ok (.iconst 1, 1) := by decide +kernel
theorem dX6_bestBy_31 : decode cX6_bestBy 31 = .ok (.iadd, 1) := by decide +kernel
theorem dX6_bestBy_32 : decode cX6_bestBy 32 = .ok (.iconst 2, 1) := by decide +kernel
theorem dX6_bestBy_33 : decode cX6_bestBy 33 = .ok (.idiv, 1) := by decide +kernel
theorem dX6_bestBy_34 : decode cX6_bestBy 34 = .ok (.goto 7, 3) := by decide +kernel
theorem dX6_bestBy_37 : decode cX6_bestBy 37 = .ok (.iload_n 3, 1) := by decide +kernel
theorem dX6_bestBy_38 : decode cX6_bestBy 38 = .ok (.ineg, 1) := by decide +kernel
theorem dX6_bestBy_39 : decode cX6_bestBy 39 = .ok (.iconst 2, 1) := by decide +kernel
theorem dX6_bestBy_40 : decode cX6_bestBy 40 = .ok (.idiv, 1) := by decide +kernel
theorem dX6_bestBy_41 : decode cX6_bestBy 41 = .ok (.istore 4, 2) := by decide +kernel
theorem dX6_bestBy_43 : decode cX6_bestBy 43 = .ok (.aload_n 0, 1) := by decide +kernel
theorem dX6_bestBy_44 : decode cX6_bestBy 44 = .ok (.iload 4, 2) := by decide +kernel
theorem dX6_bestBy_46 : decode cX6_bestBy 46 = .ok (.aload_n 0, 1) := by decide +kernel
theorem dX6_bestBy_47 : decode cX6_bestBy 47 = .ok (.getfield 7, 3) := by decide +kernel
theorem dX6_bestBy_50 : decode cX6_bestBy 50 = .ok (.iconst 4, 1) := by decide +kernel
theorem dX6_bestBy_51 : decode cX6_bestBy 51 = .ok (.iaload, 1) := by decide +kernel
theorem dX6_bestBy_52 : decode cX6_bestBy 52 = .ok (.aload_n 0, 1) := by decide +kernel
theorem dX6_bestBy_53 : decode cX6_bestBy 53 = .ok (.getfield 7, 3) := by decide +kernel
theorem dX6_bestBy_56 : decode cX6_bestBy 56 = .ok (.iconst 5, 1) := by decide +kernel
theorem dX6_bestBy_57 : decode cX6_bestBy 57 = .ok (.iaload, 1) := by decide +kernel
theorem dX6_bestBy_58 : decode cX6_bestBy 58 = .ok (.invokevirtual 336, 3) := by decide +kernel
theorem dX6_bestBy_61 : decode cX6_bestBy 61 = .ok (.istore 5, 2) := by decide +kernel
theorem dX6_bestBy_63 : decode cX6_bestBy 63 = .ok (.iload 5, 2) := by decide +kernel
theorem dX6_bestBy_65 : decode cX6_bestBy 65 = .ok (.iconst (-1), 1) := by decide +kernel
theorem dX6_bestBy_66 : decode cX6_bestBy 66 = .ok (.if_icmp .eq 21, 3) := by decide +kernel
theorem dX6_bestBy_69 : decode cX6_bestBy 69 = .ok (.iload_n 1, 1) := by decide +kernel
theorem dX6_bestBy_70 : decode cX6_bestBy 70 = .ok (.bipush (-99), 2) := by decide +kernel
theorem dX6_bestBy_72 : decode cX6_bestBy 72 = .ok (.if_icmp .eq 9, 3) := by decide +kernel
theorem dX6_bestBy_75 : decode cX6_bestBy 75 = .ok (.iload 5, 2) := by decide +kernel
theorem dX6_bestBy_77 : decode cX6_bestBy 77 = .ok (.iload_n 2, 1) := by decide +kernel
theorem dX6_bestBy_78 : decode cX6_bestBy 78 = .ok (.if_icmp .ge 9, 3) := by decide +kernel
theorem dX6_bestBy_81 : decode cX6_bestBy 81 = .ok (.iload 4, 2) := by decide +kernel
theorem dX6_bestBy_83 : decode cX6_bestBy 83 = .ok (.istore_n 1, 1) := by decide +kernel
theorem dX6_bestBy_84 : decode cX6_bestBy 84 = .ok (.iload 5, 2) := by decide +kernel
theorem dX6_bestBy_86 : decode cX6_bestBy 86 = .ok (.istore_n 2, 1) := by decide +kernel
theorem dX6_bestBy_87 : decode cX6_bestBy 87 = .ok (.iinc 3 1, 3) := by decide +kernel
theorem dX6_bestBy_90 : decode cX6_bestBy 90 = .ok (.goto (-74), 3) := by decide +kernel
theorem dX6_bestBy_93 : decode cX6_bestBy 93 = .ok (.iload_n 1, 1) := by decide +kernel
theorem dX6_bestBy_94 : decode cX6_bestBy 94 = .ok (.ireturn, 1) := by decide +kernel
theorem dX6_areLimits_0 : decode cX6_areLimits 0 = .ok (.iload_n 0, 1) := by decide +kernel
theorem dX6_areLimits_1 : decode cX6_areLimits 1 = .ok (.i2l, 1) := by decide +kernel
theorem dX6_areLimits_2 : decode cX6_areLimits 2 = .ok (.lconst 0, 1) := by decide +kernel
theorem dX6_areLimits_3 : decode cX6_areLimits 3 = .ok (.ldc2_w 295, 3) := by decide +kernel
theorem dX6_areLimits_6 : decode cX6_areLimits 6 = .ok (.invokestatic 83, 3) := by decide +kernel
theorem dX6_areLimits_9 : decode cX6_areLimits 9 = .ok (.ifCond .eq 19, 3) := by decide +kernel
theorem dX6_areLimits_12 : decode cX6_areLimits 12 = .ok (.iload_n 1, 1) := by decide +kernel
theorem dX6_areLimits_13 : decode cX6_areLimits 13 = .ok (.i2l, 1) := by decide +kernel
theorem dX6_areLimits_14 : decode cX6_areLimits 14 = .ok (.lconst 0, 1) := by decide +kernel
theorem dX6_areLimits_15 : decode cX6_areLimits 15 = .ok (.ldc2_w 352, 3) := by decide +kernel
theorem dX6_areLimits_18 : decode cX6_areLimits 18 = .ok (.invokestatic 83, 3) := by decide +kernel
theorem dX6_areLimits_21 : decode cX6_areLimits 21 = .ok (.ifCond .eq 7, 3) := by decide +kernel
theorem dX6_areLimits_24 : decode cX6_areLimits 24 = .ok (.iconst 1, 1) := by decide +kernel
theorem dX6_areLimits_25 : decode cX6_areLimits 25 = .ok (.goto 4, 3) := by decide +kernel
theorem dX6_areLimits_28 : decode cX6_areLimits 28 = .ok (.iconst 0, 1) := by decide +kernel
theorem dX6_areLimits_29 : decode cX6_areLimits 29 = .ok (.ireturn, 1) := by decide +kernel
theorem dX6_costWith_0 : decode cX6_costWith 0 = .ok (.aload_n 0, 1) := by decide +kernel
theorem dX6_costWith_1 : decode cX6_costWith 1 = .ok (.iload_n 1, 1) := by decide +kernel
theorem dX6_costWith_2 : decode cX6_costWith 2 = .ok (.iload_n 2, 1) := by decide +kernel
theorem dX6_costWith_3 : decode cX6_costWith 3 = .ok (.invokestatic 354, 3) := by decide +kernel
theorem dX6_costWith_6 : decode cX6_costWith 6 = .ok (.iconst 1, 1) := by decide +kernel
theorem dX6_costWith_7 : decode cX6_costWith 7 = .ok (.invokevirtual 285, 3) := by decide +kernel
theorem dX6_costWith_10 : decode cX6_costWith 10 = .ok (.ifCond .ne 5, 3) := by decide +kernel
theorem dX6_costWith_13 : decode cX6_costWith 13 = .ok (.iconst 0, 1) := by decide +kernel
theorem dX6_costWith_14 : decode cX6_costWith 14 = .ok (.ireturn, 1) := by decide +kernel
theorem dX6_costWith_15 : decode cX6_costWith 15 = .ok (.aload_n 0, 1) := by decide +kernel
theorem dX6_costWith_16 : decode cX6_costWith 16 = .ok (.invokevirtual 177, 3) := by decide +kernel
theorem dX6_costWith_19 : decode cX6_costWith 19 = .ok (.aload_n 0, 1) := by decide +kernel
theorem dX6_costWith_20 : decode cX6_costWith 20 = .ok (.iconst 0, 1) := by decide +kernel
theorem dX6_costWith_21 : decode cX6_costWith 21 = .ok (.iload_n 1, 1) := by decide +kernel
theorem dX6_costWith_22 : decode cX6_costWith 22 = .ok (.iload_n 2, 1) := by decide +kernel
theorem dX6_costWith_23 : decode cX6_costWith 23 = .ok (.invokevirtual 336, 3) := by decide +kernel
theorem dX6_costWith_26 : decode cX6_costWith 26 = .ok (.ireturn, 1) := by decide +kernel
theorem dX6_hasPlay_0 : decode cX6_hasPlay 0 = .ok (.aload_n 0, 1) := by decide +kernel
theorem dX6_hasPlay_1 : decode cX6_hasPlay 1 = .ok (.invokevirtual 80, 3) := by decide +kernel
theorem dX6_hasPlay_4 : decode cX6_hasPlay 4 = .ok (.istore 4, 2) := by decide +kernel
theorem dX6_hasPlay_6 : decode cX6_hasPlay 6 = .ok (.iconst 0, 1) := by decide +kernel
theorem dX6_hasPlay_7 : decode cX6_hasPlay 7 = .ok (.istore 5, 2) := by decide +kernel
theorem dX6_hasPlay_9 : decode cX6_hasPlay 9 = .ok (.iload 5, 2) := by decide +kernel
theorem dX6_hasPlay_11 : decode cX6_hasPlay 11 = .ok (.iload 4, 2) := by decide +kernel
theorem dX6_hasPlay_13 : decode cX6_hasPlay 13 = .ok (.if_icmp .ge 23, 3) := by decide +kernel
theorem dX6_hasPlay_16 : decode cX6_hasPlay 16 = .ok (.aload_n 0, 1) := by decide +kernel
theorem dX6_hasPlay_17 : decode cX6_hasPlay 17 = .ok (.iload 5, 2) := by decide +kernel
theorem dX6_hasPlay_19 : decode cX6_hasPlay 19 = .ok (.iload_n 1, 1) := by decide +kernel
theorem dX6_hasPlay_20 : decode cX6_hasPlay 20 = .ok (.iload_n 2, 1) := by decide +kernel
theorem dX6_hasPlay_21 : decode cX6_hasPlay 21 = .ok (.iload_n 3, 1) := by decide +kernel
theorem dX6_hasPlay_22 : decode cX6_hasPlay 22 = .ok (.invokevirtual 139, 3) := by decide +kernel
theorem dX6_hasPlay_25 : decode cX6_hasPlay 25 = .ok (.ifCond .eq 5, 3) := by decide +kernel
theorem dX6_hasPlay_28 : decode cX6_hasPlay 28 = .ok (.iconst 1, 1) := by decide +kernel
theorem dX6_hasPlay_29 : decode cX6_hasPlay 29 = .ok (.ireturn, 1) := by decide +kernel
theorem dX6_hasPlay_30 : decode cX6_hasPlay 30 = .ok (.iinc 5 1, 3) := by decide +kernel
theorem dX6_hasPlay_33 : decode cX6_hasPlay 33 = .ok (.goto (-24), 3) := by decide +kernel
theorem dX6_hasPlay_36 : decode cX6_hasPlay 36 = .ok (.iconst 0, 1) := by decide +kernel
theorem dX6_hasPlay_37 : decode cX6_hasPlay 37 = .ok (.ireturn, 1) := by decide +kernel
theorem dX6_isPlayableWith_0 : decode cX6_isPlayableWith 0 = .ok (.iconst 1, 1) := by decide +kernel
theorem dX6_isPlayableWith_1 : decode cX6_isPlayableWith 1 = .ok (.istore_n 3, 1) := by decide +kernel
theorem dX6_isPlayableWith_2 : decode cX6_isPlayableWith 2 = .ok (.iconst 0, 1) := by decide +kernel
theorem dX6_isPlayableWith_3 : decode cX6_isPlayableWith 3 = .ok (.istore 4, 2) := by decide +kernel
theorem dX6_isPlayableWith_5 : decode cX6_isPlayableWith 5 = .ok (.iload 4, 2) := by decide +kernel
theorem dX6_isPlayableWith_7 : decode cX6_isPlayableWith 7 = .ok (.aload_n 0, 1) := by decide +kernel
theorem dX6_isPlayableWith_8 : decode cX6_isPlayableWith 8 = .ok (.getfield 7, 3) := by decide +kernel
theorem dX6_isPlayableWith_11 : decode cX6_isPlayableWith 11 = .ok (.bipush 9, 2) := by decide +kernel
theorem dX6_isPlayableWith_13 : decode cX6_isPlayableWith 13 = .ok (.iaload, 1) := by decide +kernel
theorem dX6_isPlayableWith_14 : decode cX6_isPlayableWith 14 = .ok (.if_icmp .ge 43, 3) := by decide +kernel
theorem dX6_isPlayableWith_17 : decode cX6_isPlayableWith 17 = .ok (.iload_n 3, 1) := by decide +kernel
theorem dX6_isPlayableWith_18 : decode cX6_isPlayableWith 18 = .ok (.ifCond .eq 39, 3) := by decide +kernel
theorem dX6_isPlayableWith_21 : decode cX6_isPlayableWith 21 = .ok (.aload_n 0, 1) := by decide +kernel
theorem dX6_isPlayableWith_22 : decode cX6_isPlayableWith 22 = .ok (.iload 4, 2) := by decide +kernel
theorem dX6_isPlayableWith_24 : decode cX6_isPlayableWith 24 = .ok (.invokevirtual 152, 3) := by decide +kernel
theorem dX6_isPlayableWith_27 : decode cX6_isPlayableWith 27 = .ok (.ifCond .eq 18, 3) := by decide +kernel
theorem dX6_isPlayableWith_30 : decode cX6_isPlayableWith 30 = .ok (.aload_n 0, 1) := by decide +kernel
theorem dX6_isPlayableWith_31 : decode cX6_isPlayableWith 31 = .ok (.aload_n 0, 1) := by decide +kernel
theorem dX6_isPlayableWith_32 : decode cX6_isPlayableWith 32 = .ok (.iload 4, 2) := by decide +kernel
theorem dX6_isPlayableWith_34 : decode cX6_isPlayableWith 34 = .ok (.invokevirtual 143, 3) := by decide +kernel
theorem dX6_isPlayableWith_37 : decode cX6_isPlayableWith 37 = .ok (.iload_n 1, 1) := by decide +kernel
theorem dX6_isPlayableWith_38 : decode cX6_isPlayableWith 38 = .ok (.iload_n 2, 1) := by decide +kernel
theorem dX6_isPlayableWith_39 : decode cX6_isPlayableWith 39 = .ok (.invokevirtual 357, 3) := by decide +kernel
theorem dX6_isPlayableWith_42 : decode cX6_isPlayableWith 42 = .ok (.ifCond .eq 7, 3) := by decide +kernel
theorem dX6_isPlayableWith_45 : decode cX6_isPlayableWith 45 = .ok (.iconst 1, 1) := by decide +kernel
theorem dX6_isPlayableWith_46 : decode cX6_isPlayableWith 46 = .ok (.goto 4, 3) := by decide +kernel
theorem dX6_isPlayableWith_49 : decode cX6_isPlayableWith 49 = .ok (.iconst 0, 1) := by decide +kernel
theorem dX6_isPlayableWith_50 : decode cX6_isPlayableWith 50 = .ok (.istore_n 3, 1) := by decide +kernel
theorem dX6_isPlayableWith_51 : decode cX6_isPlayableWith 51 = .ok (.iinc 4 1, 3) := by decide +kernel
theorem dX6_isPlayableWith_54 : decode cX6_isPlayableWith 54 = .ok (.goto (-49), 3) := by decide +kernel
theorem dX6_isPlayableWith_57 : decode cX6_isPlayableWith 57 = .ok (.iload_n 3, 1) := by decide +kernel
theorem dX6_isPlayableWith_58 : decode cX6_isPlayableWith 58 = .ok (.ireturn, 1) := by decide +kernel
theorem dX6_level_0 : decode cX6_level 0 = .ok (.aload_n 0, 1) := by decide +kernel
theorem dX6_level_1 : decode cX6_level 1 = .ok (.iconst 0, 1) := by decide +kernel
theorem dX6_level_2 : decode cX6_level 2 = .ok (.putfield 66, 3) := by decide +kernel
theorem dX6_level_5 : decode cX6_level 5 = .ok (.aload_n 0, 1) := by decide +kernel
theorem dX6_level_6 : decode cX6_level 6 = .ok (.invokevirtual 177, 3) := by decide +kernel
theorem dX6_level_9 : decode cX6_level 9 = .ok (.iconst 0, 1) := by decide +kernel
theorem dX6_level_10 : decode cX6_level 10 = .ok (.istore_n 1, 1) := by decide +kernel
theorem dX6_level_11 : decode cX6_level 11 = .ok (.iload_n 1, 1) := by decide +kernel
theorem dX6_level_12 : decode cX6_level 12 = .ok (.iconst 5, 1) := by decide +kernel
theorem dX6_level_13 : decode cX6_level 13 = .ok (.if_icmp .gt 53, 3) := by decide +kernel
theorem dX6_level_16 : decode cX6_level 16 = .ok (.iconst 0, 1) := by decide +kernel
theorem dX6_level_17 : decode cX6_level 17 = .ok (.istore_n 2, 1) := by decide +kernel
theorem dX6_level_18 : decode cX6_level 18 = .ok (.iload_n 2, 1) := by decide +kernel
theorem dX6_level_19 : decode cX6_level 19 = .ok (.iconst 2, 1) := by decide +kernel
theorem dX6_level_20 : decode cX6_level 20 = .ok (.iload_n 1, 1) := by decide +kernel
theorem dX6_level_21 : decode cX6_level 21 = .ok (.invokestatic 146, 3) := by decide +kernel
theorem dX6_level_24 : decode cX6_level 24 = .ok (.if_icmp .gt 36, 3) := by decide +kernel
theorem dX6_level_27 : decode cX6_level 27 = .ok (.iload_n 1, 1) := by decide +kernel
theorem dX6_level_28 : decode cX6_level 28 = .ok (.iload_n 2, 1) := by decide +kernel
theorem dX6_level_29 : decode cX6_level 29 = .ok (.isub, 1) := by decide +kernel
theorem dX6_level_30 : decode cX6_level 30 = .ok (.iconst 3, 1) := by decide +kernel
theorem dX6_level_31 : decode cX6_level 31 = .ok (.if_icmp .gt 23, 3) := by decide +kernel
theorem dX6_level_34 : decode cX6_level 34 = .ok (.aload_n 0, 1) := by decide +kernel
theorem dX6_level_35 : decode cX6_level 35 = .ok (.iload_n 2, 1) := by decide +kernel
theorem dX6_level_36 : decode cX6_level 36 = .ok (.iload_n 1, 1) := by decide +kernel
theorem dX6_level_37 : decode cX6_level 37 = .ok (.iload_n 2, 1) := by decide +kernel
theorem dX6_level_38 : decode cX6_level 38 = .ok (.isub, 1) := by decide +kernel
theorem dX6_level_39 : decode cX6_level 39 = .ok (.invokevirtual 361, 3) := by decide +kernel
theorem dX6_level_42 : decode cX6_level 42 = .ok (.ifCond .eq 12, 3) := by decide +kernel
theorem dX6_level_45 : decode cX6_level 45 = .ok (.bipush 10, 2) := by decide +kernel
theorem dX6_level_47 : decode cX6_level 47 = .ok (.iload_n 2, 1) := by decide +kernel
theorem dX6_level_48 : decode cX6_level 48 = .ok (.imul, 1) := by decide +kernel
theorem dX6_level_49 : decode cX6_level 49 = .ok (.iload_n 1, 1) := by decide +kernel
theorem dX6_level_50 : decode cX6_level 50 = .ok (.iadd, 1) := by decide +kernel
theorem dX6_level_51 : decode cX6_level 51 = .ok (.iload_n 2, 1) := by decide +kernel
theorem dX6_level_52 : decode cX6_level 52 = .ok (.isub, 1) := by decide +kernel
theorem dX6_level_53 : decode cX6_level 53 = .ok (.ireturn, 1) := by decide +kernel
theorem dX6_level_54 : decode cX6_level 54 = .ok (.iinc 2 1, 3) := by decide +kernel
theorem dX6_level_57 : decode cX6_level 57 = .ok (.goto (-39), 3) := by decide +kernel
theorem dX6_level_60 : decode cX6_level 60 = .ok (.iinc 1 1, 3) := by decide +kernel
theorem dX6_level_63 : decode cX6_level 63 = .ok (.goto (-52), 3) := by decide +kernel
theorem dX6_level_66 : decode cX6_level 66 = .ok (.iconst (-1), 1) := by decide +kernel
theorem dX6_level_67 : decode cX6_level 67 = .ok (.ireturn, 1) := by decide +kernel
theorem dX6_becomes_0 : decode cX6_becomes 0 = .ok (.aload_n 0, 1) := by decide +kernel
theorem dX6_becomes_1 : decode cX6_becomes 1 = .ok (.invokevirtual 364, 3) := by decide +kernel
theorem dX6_becomes_4 : decode cX6_becomes 4 = .ok (.aload_n 0, 1) := by decide +kernel
theorem dX6_becomes_5 : decode cX6_becomes 5 = .ok (.getfield 7, 3) := by decide +kernel
theorem dX6_becomes_8 : decode cX6_becomes 8 = .ok (.iload_n 1, 1) := by decide +kernel
theorem dX6_becomes_9 : decode cX6_becomes 9 = .ok (.iaload, 1) := by decide +kernel
theorem dX6_becomes_10 : decode cX6_becomes 10 = .ok (.istore_n 3, 1) := by decide +kernel
theorem dX6_becomes_11 : decode cX6_becomes 11 = .ok (.aload_n 0, 1) := by decide +kernel
theorem dX6_becomes_12 : decode cX6_becomes 12 = .ok (.getfield 7, 3) := by decide +kernel
theorem dX6_becomes_15 : decode cX6_becomes 15 = .ok (.iload_n 1, 1) := by decide +kernel
theorem dX6_becomes_16 : decode cX6_becomes 16 = .ok (.iload_n 2, 1) := by decide +kernel
theorem dX6_becomes_17 : decode cX6_becomes 17 = .ok (.iastore, 1) := by decide +kernel
theorem dX6_becomes_18 : decode cX6_becomes 18 = .ok (.iload_n 3, 1) := by decide +kernel
theorem dX6_becomes_19 : decode cX6_becomes 19 = .ok (.ireturn, 1) := by decide +kernel
theorem dX6_setHole_0 : decode cX6_setHole 0 = .ok (.aload_n 0, 1) := by decide +kernel
theorem dX6_setHole_1 : decode cX6_setHole 1 = .ok (.aload_n 0, 1) := by decide +kernel
theorem dX6_setHole_2 : decode cX6_setHole 2 = .ok (.iload_n 1, 1) := by decide +kernel
theorem dX6_setHole_3 : decode cX6_setHole 3 = .ok (.invokevirtual 292, 3) := by decide +kernel
theorem dX6_setHole_6 : decode cX6_setHole 6 = .ok (.iload_n 2, 1) := by decide +kernel
theorem dX6_setHole_7 : decode cX6_setHole 7 = .ok (.i2l, 1) := by decide +kernel
theorem dX6_setHole_8 : decode cX6_setHole 8 = .ok (.lconst 1, 1) := by decide +kernel
theorem dX6_setHole_9 : decode cX6_setHole 9 = .ok (.aload_n 0, 1) := by decide +kernel
theorem dX6_setHole_10 : decode cX6_setHole 10 = .ok (.getfield 7, 3) := by decide +kernel
theorem dX6_setHole_13 : decode cX6_setHole 13 = .ok (.iconst 0, 1) := by decide +kernel
theorem dX6_setHole_14 : decode cX6_setHole 14 = .ok (.iaload, 1) := by decide +kernel
theorem dX6_setHole_15 : decode cX6_setHole 15 = .ok (.iconst 1, 1) := by decide +kernel
theorem dX6_setHole_16 : decode cX6_setHole 16 = .ok (.isub, 1) := by decide +kernel
theorem dX6_setHole_17 : decode cX6_setHole 17 = .ok (.i2l, 1) := by decide +kernel
theorem dX6_setHole_18 : decode cX6_setHole 18 = .ok (.invokestatic 83, 3) := by decide +kernel
theorem dX6_setHole_21 : decode cX6_setHole 21 = .ok (.ifCond .eq 21, 3) := by decide +kernel
theorem dX6_setHole_24 : decode cX6_setHole 24 = .ok (.iload_n 3, 1) := by decide +kernel
theorem dX6_setHole_25 : decode cX6_setHole 25 = .ok (.i2l, 1) := by decide +kernel
theorem dX6_setHole_26 : decode cX6_setHole 26 = .ok (.ldc2_w 295, 3) := by decide +kernel
theorem dX6_setHole_29 : decode cX6_setHole 29 = .ok (.ldc2_w 283, 3) := by decide +kernel
theorem dX6_setHole_32 : decode cX6_setHole 32 = .ok (.invokestatic 83, 3) := by decide +kernel
theorem dX6_setHole_35 : decode cX6_setHole 35 = .ok (.ifCond .eq 7, 3) := by decide +kernel
theorem dX6_setHole_38 : decode cX6_setHole 38 = .ok (.iconst 1, 1) := by decide +kernel
theorem dX6_setHole_39 : decode cX6_setHole 39 = .ok (.goto 4, 3) := by decide +kernel
theorem dX6_setHole_42 : decode cX6_setHole 42 = .ok (.iconst 0, 1) := by decide +kernel
theorem dX6_setHole_43 : decode cX6_setHole 43 = .ok (.invokevirtual 285, 3) := by decide +kernel
theorem dX6_setHole_46 : decode cX6_setHole 46 = .ok (.ifCond .ne 5, 3) := by decide +kernel
theorem dX6_setHole_49 : decode cX6_setHole 49 = .ok (.iconst 0, 1) := by decide +kernel
theorem dX6_setHole_50 : decode cX6_setHole 50 = .ok (.ireturn, 1) := by decide +kernel
theorem dX6_setHole_51 : decode cX6_setHole 51 = .ok (.iload_n 1, 1) := by decide +kernel
theorem dX6_setHole_52 : decode cX6_setHole 52 = .ok (.ifCond .eq 14, 3) := by decide +kernel
theorem dX6_setHole_55 : decode cX6_setHole 55 = .ok (.aload_n 0, 1) := by decide +kernel
theorem dX6_setHole_56 : decode cX6_setHole 56 = .ok (.iload_n 1, 1) := by decide +kernel
theorem dX6_setHole_57 : decode cX6_setHole 57 = .ok (.iconst 1, 1) := by decide +kernel
theorem dX6_setHole_58 : decode cX6_setHole 58 = .ok (.isub, 1) := by decide +kernel
theorem dX6_setHole_59 : decode cX6_setHole 59 = .ok (.invokevirtual 98, 3) := by decide +kernel
theorem dX6_setHole_62 : decode cX6_setHole 62 = .ok (.iload_n 2, 1) := by decide +kernel
theorem dX6_setHole_63 : decode cX6_setHole 63 = .ok (.if_icmp .ge 7, 3) := by decide +kernel
theorem dX6_setHole_66 : decode cX6_setHole 66 = .ok (.iconst 1, 1) := by decide +kernel
theorem dX6_setHole_67 : decode cX6_setHole 67 = .ok (.goto 4, 3) := by decide +kernel
theorem dX6_setHole_70 : decode cX6_setHole 70 = .ok (.iconst 0, 1) := by decide +kernel
theorem dX6_setHole_71 : decode cX6_setHole 71 = .ok (.istore 4, 2) := by decide +kernel
theorem dX6_setHole_73 : decode cX6_setHole 73 = .ok (.iload_n 1, 1) := by decide +kernel
theorem dX6_setHole_74 : decode cX6_setHole 74 = .ok (.aload_n 0, 1) := by decide +kernel
theorem dX6_setHole_75 : decode cX6_setHole 75 = .ok (.getfield 7, 3) := by decide +kernel
theorem dX6_setHole_78 : decode cX6_setHole 78 = .ok (.iconst 3, 1) := by decide +kernel
theorem dX6_setHole_79 : decode cX6_setHole 79 = .ok (.iaload, 1) := by decide +kernel
theorem dX6_setHole_80 : decode cX6_setHole 80 = .ok (.iconst 1, 1) := by decide +kernel
theorem dX6_setHole_81 : decode cX6_setHole 81 = .ok (.isub, 1) := by decide +kernel
theorem dX6_setHole_82 : decode cX6_setHole 82 = .ok (.if_icmp .eq 14, 3) := by decide +kernel
theorem dX6_setHole_85 : decode cX6_setHole 85 = .ok (.iload_n 2, 1) := by decide +kernel
theorem dX6_setHole_86 : decode cX6_setHole 86 = .ok (.aload_n 0, 1) := by decide +kernel
theorem dX6_setHole_87 : decode cX6_setHole 87 = .ok (.iload_n 1, 1) := by decide +kernel
theorem dX6_setHole_88 : decode cX6_setHole 88 = .ok (.iconst 1, 1) := by decide +kernel
theorem dX6_setHole_89 : decode cX6_setHole 89 = .ok (.iadd, 1) := by decide +kernel
theorem dX6_setHole_90 : decode cX6_setHole 90 = .ok (.invokevirtual 98, 3) := by decide +kernel
theorem dX6_setHole_93 : decode cX6_setHole 93 = .ok (.if_icmp .ge 7, 3) := by decide +kernel
theorem dX6_setHole_96 : decode cX6_setHole 96 = .ok (.iconst 1, 1) := by decide +kernel
theorem dX6_setHole_97 : decode cX6_setHole 97 = .ok (.goto 4, 3) := by decide +kernel
theorem dX6_setHole_100 : decode cX6_setHole 100 = .ok (.iconst 0, 1) := by decide +kernel
theorem dX6_setHole_101 : decode cX6_setHole 101 = .ok (.istore 5, 2) := by decide +kernel
theorem dX6_setHole_103 : decode cX6_setHole 103 = .ok (.iload 4, 2) := by decide +kernel
theorem dX6_setHole_105 : decode cX6_setHole 105 = .ok (.ifCond .eq 8, 3) := by decide +kernel
theorem dX6_setHole_108 : decode cX6_setHole 108 = .ok (.iload 5, 2) := by decide +kernel
theorem dX6_setHole_110 : decode cX6_setHole 110 = .ok (.ifCond .ne 6, 3) := by decide +kernel
theorem dX6_setHole_113 : decode cX6_setHole 113 = .ok (.bipush (-3), 2) := by decide +kernel
theorem dX6_setHole_115 : decode cX6_setHole 115 = .ok (.ireturn, 1) := by decide +kernel
theorem dX6_setHole_116 : decode cX6_setHole 116 = .ok (.aload_n 0, 1) := by decide +kernel
theorem dX6_setHole_117 : decode cX6_setHole 117 = .ok (.bipush 13, 2) := by decide +kernel
theorem dX6_setHole_119 : decode cX6_setHole 119 = .ok (.iconst 2, 1) := by decide +kernel
theorem dX6_setHole_120 : decode cX6_setHole 120 = .ok (.iload_n 1, 1) := by decide +kernel
theorem dX6_setHole_121 : decode cX6_setHole 121 = .ok (.imul, 1) := by decide +kernel
theorem dX6_setHole_122 : decode cX6_setHole 122 = .ok (.iadd, 1) := by decide +kernel
theorem dX6_setHole_123 : decode cX6_setHole 123 = .ok (.iload_n 2, 1) := by decide +kernel
theorem dX6_setHole_124 : decode cX6_setHole 124 = .ok (.invokevirtual 367, 3) := by decide +kernel
theorem dX6_setHole_127 : decode cX6_setHole 127 = .ok (.istore 6, 2) := by decide +kernel
theorem dX6_setHole_129 : decode cX6_setHole 129 = .ok (.aload_n 0, 1) := by decide +kernel
theorem dX6_setHole_130 : decode cX6_setHole 130 = .ok (.getfield 7, 3) := by decide +kernel
theorem dX6_setHole_133 : decode cX6_setHole 133 = .ok (.bipush 13, 2) := by decide +kernel
theorem dX6_setHole_135 : decode cX6_setHole 135 = .ok (.iconst 2, 1) := by decide +kernel
theorem dX6_setHole_136 : decode cX6_setHole 136 = .ok (.iload_n 1, 1) := by decide +kernel
theorem dX6_setHole_137 : decode cX6_setHole 137 = .ok (.imul, 1) := by decide +kernel
theorem dX6_setHole_138 : decode cX6_setHole 138 = .ok (.iadd, 1) := by decide +kernel
theorem dX6_setHole_139 : decode cX6_setHole 139 = .ok (.iconst 1, 1) := by decide +kernel
theorem dX6_setHole_140 : decode cX6_setHole 140 = .ok (.iadd, 1) := by decide +kernel
theorem dX6_setHole_141 : decode cX6_setHole 141 = .ok (.iload_n 3, 1) := by decide +kernel
theorem dX6_setHole_142 : decode cX6_setHole 142 = .ok (.iastore, 1) := by decide +kernel
theorem dX6_setHole_143 : decode cX6_setHole 143 = .ok (.iload 6, 2) := by decide +kernel
theorem dX6_setHole_145 : decode cX6_setHole 145 = .ok (.ireturn, 1) := by decide +kernel
theorem dX6_setLimits_0 : decode cX6_setLimits 0 = .ok (.aload_n 0, 1) := by decide +kernel
theorem dX6_setLimits_1 : decode cX6_setLimits 1 = .ok (.iload_n 1, 1) := by decide +kernel
theorem dX6_setLimits_2 : decode cX6_setLimits 2 = .ok (.iload_n 2, 1) := by decide +kernel
theorem dX6_setLimits_3 : decode cX6_setLimits 3 = .ok (.invokestatic 354, 3) := by decide +kernel
theorem dX6_setLimits_6 : decode cX6_setLimits 6 = .ok (.iconst 1, 1) := by decide +kernel
theorem dX6_setLimits_7 : decode cX6_setLimits 7 = .ok (.invokevirtual 285, 3) := by decide +kernel
theorem dX6_setLimits_10 : decode cX6_setLimits 10 = .ok (.ifCond .ne 5, 3) := by decide +kernel
theorem dX6_setLimits_13 : decode cX6_setLimits 13 = .ok (.iconst 0, 1) := by decide +kernel
theorem dX6_setLimits_14 : decode cX6_setLimits 14 = .ok (.ireturn, 1) := by decide +kernel
theorem dX6_setLimits_15 : decode cX6_setLimits 15 = .ok (.bipush 10, 2) := by decide +kernel
theorem dX6_setLimits_17 : decode cX6_setLimits 17 = .ok (.aload_n 0, 1) := by decide +kernel
theorem dX6_setLimits_18 : decode cX6_setLimits 18 = .ok (.getfield 7, 3) := by decide +kernel
theorem dX6_setLimits_21 : decode cX6_setLimits 21 = .ok (.iconst 4, 1) := by decide +kernel
theorem dX6_setLimits_22 : decode cX6_setLimits 22 = .ok (.iaload, 1) := by decide +kernel
theorem dX6_setLimits_23 : decode cX6_setLimits 23 = .ok (.imul, 1) := by decide +kernel
theorem dX6_setLimits_24 : decode cX6_setLimits 24 = .ok (.aload_n 0, 1) := by decide +kernel
theorem dX6_setLimits_25 : decode cX6_setLimits 25 = .ok (.getfield 7, 3) := by decide +kernel
theorem dX6_setLimits_28 : decode cX6_setLimits 28 = .ok (.iconst 5, 1) := by decide +kernel
theorem dX6_setLimits_29 : decode cX6_setLimits 29 = .ok (.iaload, 1) := by decide +kernel
theorem dX6_setLimits_30 : decode cX6_setLimits 30 = .ok (.iadd, 1) := by decide +kernel
theorem dX6_setLimits_31 : decode cX6_setLimits 31 = .ok (.istore_n 3, 1) := by decide +kernel
theorem dX6_setLimits_32 : decode cX6_setLimits 32 = .ok (.aload_n 0, 1) := by decide +kernel
theorem dX6_setLimits_33 : decode cX6_setLimits 33 = .ok (.iconst 4, 1) := by decide +kernel
theorem dX6_setLimits_34 : decode cX6_setLimits 34 = .ok (.iload_n 1, 1) := by decide +kernel
theorem dX6_setLimits_35 : decode cX6_setLimits 35 = .ok (.invokevirtual 367, 3) := by decide +kernel
theorem dX6_setLimits_38 : decode cX6_setLimits 38 = .ok (.istore 4, 2) := by decide +kernel
theorem dX6_setLimits_40 : decode cX6_setLimits 40 = .ok (.aload_n 0, 1) := by decide +kernel
theorem dX6_setLimits_41 : decode cX6_setLimits 41 = .ok (.getfield 7, 3) := by decide +kernel
theorem dX6_setLimits_44 : decode cX6_setLimits 44 = .ok (.iconst 5, 1) := by decide +kernel
theorem dX6_setLimits_45 : decode cX6_setLimits 45 = .ok (.iload_n 2, 1) := by decide +kernel
theorem dX6_setLimits_46 : decode cX6_setLimits 46 = .ok (.iastore, 1) := by decide +kernel
theorem dX6_setLimits_47 : decode cX6_setLimits 47 = .ok (.iload_n 3, 1) := by decide +kernel
theorem dX6_setLimits_48 : decode cX6_setLimits 48 = .ok (.ireturn, 1) := by decide +kernel
theorem dX6_setTolerance_0 : decode cX6_setTolerance 0 = .ok (.aload_n 0, 1) := by decide +kernel
theorem dX6_setTolerance_1 : decode cX6_setTolerance 1 = .ok (.iload_n 1, 1) := by decide +kernel
theorem dX6_setTolerance_2 : decode cX6_setTolerance 2 = .ok (.i2l, 1) := by decide +kernel
theorem dX6_setTolerance_3 : decode cX6_setTolerance 3 = .ok (.ldc2_w 370, 3) := by decide +kernel
theorem dX6_setTolerance_6 : decode cX6_setTolerance 6 = .ok (.ldc2_w 372, 3) := by decide +kernel
theorem dX6_setTolerance_9 : decode cX6_setTolerance 9 = .ok (.invokestatic 83, 3) := by decide +kernel
theorem dX6_setTolerance_12 : decode cX6_setTolerance 12 = .ok (.iconst 1, 1) := by decide +kernel
theorem dX6_setTolerance_13 : decode cX6_setTolerance 13 = .ok (.invokevirtual 285, 3) := by decide +kernel
theorem dX6_setTolerance_16 : decode cX6_setTolerance 16 = .ok (.ifCond .eq 12, 3) := by decide +kernel
theorem dX6_setTolerance_19 : decode cX6_setTolerance 19 = .ok (.aload_n 0, 1) := by decide +kernel
theorem dX6_setTolerance_20 : decode cX6_setTolerance 20 = .ok (.iconst 2, 1) := by decide +kernel
theorem dX6_setTolerance_21 : decode cX6_setTolerance 21 = .ok (.iload_n 1, 1) := by decide +kernel
theorem dX6_setTolerance_22 : decode cX6_setTolerance 22 = .ok (.invokevirtual 367, 3) := by decide +kernel
theorem dX6_setTolerance_25 : decode cX6_setTolerance 25 = .ok (.goto 4, 3) := by decide +kernel
theorem dX6_setTolerance_28 : decode cX6_setTolerance 28 = .ok (.iconst 0, 1) := by decide +kernel
theorem dX6_setTolerance_29 : decode cX6_setTolerance 29 = .ok (.ireturn, 1) := by decide +kernel
theorem dX6_setCosts_0 : decode cX6_setCosts 0 = .ok (.aload_n 0, 1) := by decide +kernel
theorem dX6_setCosts_1 : decode cX6_setCosts 1 = .ok (.iload_n 1, 1) := by decide +kernel
theorem dX6_setCosts_2 : decode cX6_setCosts 2 = .ok (.i2l, 1) := by decide +kernel
theorem dX6_setCosts_3 : decode cX6_setCosts 3 = .ok (.lconst 1, 1) := by decide +kernel
theorem dX6_setCosts_4 : decode cX6_setCosts 4 = .ok (.ldc2_w 374, 3) := by decide +kernel
theorem dX6_setCosts_7 : decode cX6_setCosts 7 = .ok (.invokestatic 83, 3) := by decide +kernel
theorem dX6_setCosts_10 : decode cX6_setCosts 10 = .ok (.ifCond .eq 31, 3) := by decide +kernel
theorem dX6_setCosts_13 : decode cX6_setCosts 13 = .ok (.iload_n 2, 1) := by decide +kernel
theorem dX6_setCosts_14 : decode cX6_setCosts 14 = .ok (.i2l, 1) := by decide +kernel
theorem dX6_setCosts_15 : decode cX6_setCosts 15 = .ok (.lconst 1, 1) := by decide +kernel
theorem dX6_setCosts_16 : decode cX6_setCosts 16 = .ok (.ldc2_w 374, 3) := by decide +kernel
theorem dX6_setCosts_19 : decode cX6_setCosts 19 = .ok (.invokestatic 83, 3) := by decide +kernel
theorem dX6_setCosts_22 : decode cX6_setCosts 22 = .ok (.ifCond .eq 19, 3) := by decide +kernel
theorem dX6_setCosts_25 : decode cX6_setCosts 25 = .ok (.iload_n 3, 1) := by decide +kernel
theorem dX6_setCosts_26 : decode cX6_setCosts 26 = .ok (.i2l, 1) := by decide +kernel
theorem dX6_setCosts_27 : decode cX6_setCosts 27 = .ok (.lconst 0, 1) := by decide +kernel
theorem dX6_setCosts_28 : decode cX6_setCosts 28 = .ok (.ldc2_w 374, 3) := by decide +kernel
theorem dX6_setCosts_31 : decode cX6_setCosts 31 = .ok (.invokestatic 83, 3) := by decide +kernel
theorem dX6_setCosts_34 : decode cX6_setCosts 34 = .ok (.ifCond .eq 7, 3) := by decide +kernel
theorem dX6_setCosts_37 : decode cX6_setCosts 37 = .ok (.iconst 1, 1) := by decide +kernel
theorem dX6_setCosts_38 : decode cX6_setCosts 38 = .ok (.goto 4, 3) := by decide +kernel
theorem dX6_setCosts_41 : decode cX6_setCosts 41 = .ok (.iconst 0, 1) := by decide +kernel
theorem dX6_setCosts_42 : decode cX6_setCosts 42 = .ok (.iconst 1, 1) := by decide +kernel
theorem dX6_setCosts_43 : decode cX6_setCosts 43 = .ok (.invokevirtual 285, 3) := by decide +kernel
theorem dX6_setCosts_46 : decode cX6_setCosts 46 = .ok (.ifCond .ne 5, 3) := by decide +kernel
theorem dX6_setCosts_49 : decode cX6_setCosts 49 = .ok (.iconst 0, 1) := by decide +kernel
theorem dX6_setCosts_50 : decode cX6_setCosts 50 = .ok (.ireturn, 1) := by decide +kernel
theorem dX6_setCosts_51 : decode cX6_setCosts 51 = .ok (.aload_n 0, 1) := by decide +kernel
theorem dX6_setCosts_52 : decode cX6_setCosts 52 = .ok (.bipush 6, 2) := by decide +kernel
theorem dX6_setCosts_54 : decode cX6_setCosts 54 = .ok (.iload_n 1, 1) := by decide +kernel
theorem dX6_setCosts_55 : decode cX6_setCosts 55 = .ok (.invokevirtual 367, 3) := by decide +kernel
theorem dX6_setCosts_58 : decode cX6_setCosts 58 = .ok (.istore 4, 2) := by decide +kernel
theorem dX6_setCosts_60 : decode cX6_setCosts 60 = .ok (.aload_n 0, 1) := by decide +kernel
theorem dX6_setCosts_61 : decode cX6_setCosts 61 = .ok (.getfield 7, 3) := by decide +kernel
theorem dX6_setCosts_64 : decode cX6_setCosts 64 = .ok (.bipush 7, 2) := by decide +kernel
theorem dX6_setCosts_66 : decode cX6_setCosts 66 = .ok (.iload_n 2, 1) := by decide +kernel
theorem dX6_setCosts_67 : decode cX6_setCosts 67 = .ok (.iastore, 1) := by decide +kernel
theorem dX6_setCosts_68 : decode cX6_setCosts 68 = .ok (.aload_n 0, 1) := by decide +kernel
theorem dX6_setCosts_69 : decode cX6_setCosts 69 = .ok (.getfield 7, 3) := by decide +kernel
theorem dX6_setCosts_72 : decode cX6_setCosts 72 = .ok (.bipush 8, 2) := by decide +kernel
theorem dX6_setCosts_74 : decode cX6_setCosts 74 = .ok (.iload_n 3, 1) := by decide +kernel
theorem dX6_setCosts_75 : decode cX6_setCosts 75 = .ok (.iastore, 1) := by decide +kernel
theorem dX6_setCosts_76 : decode cX6_setCosts 76 = .ok (.iload 4, 2) := by decide +kernel
theorem dX6_setCosts_78 : decode cX6_setCosts 78 = .ok (.ireturn, 1) := by decide +kernel
theorem dX6_isToneOrRest_0 : decode cX6_isToneOrRest 0 = .ok (.iload_n 1, 1) := by decide +kernel
theorem dX6_isToneOrRest_1 : decode cX6_isToneOrRest 1 = .ok (.iconst (-1), 1) := by decide +kernel
theorem dX6_isToneOrRest_2 : decode cX6_isToneOrRest 2 = .ok (.if_icmp .eq 11, 3) := by decide +kernel
theorem dX6_isToneOrRest_5 : decode cX6_isToneOrRest 5 = .ok (.aload_n 0, 1) := by decide +kernel
theorem dX6_isToneOrRest_6 : decode cX6_isToneOrRest 6 = .ok (.iload_n 1, 1) := by decide +kernel
theorem dX6_isToneOrRest_7 : decode cX6_isToneOrRest 7 = .ok (.invokevirtual 165, 3) := by decide +kernel
theorem dX6_isToneOrRest_10 : decode cX6_isToneOrRest 10 = .ok (.ifCond .eq 7, 3) := by decide +kernel
theorem dX6_isToneOrRest_13 : decode cX6_isToneOrRest 13 = .ok (.iconst 1, 1) := by decide +kernel
theorem dX6_isToneOrRest_14 : decode cX6_isToneOrRest 14 = .ok (.goto 4, 3) := by decide +kernel
theorem dX6_isToneOrRest_17 : decode cX6_isToneOrRest 17 = .ok (.iconst 0, 1) := by decide +kernel
theorem dX6_isToneOrRest_18 : decode cX6_isToneOrRest 18 = .ok (.ireturn, 1) := by decide +kernel
theorem dX6_addNote_0 : decode cX6_addNote 0 = .ok (.aload_n 0, 1) := by decide +kernel
theorem dX6_addNote_1 : decode cX6_addNote 1 = .ok (.aload_n 0, 1) := by decide +kernel
theorem dX6_addNote_2 : decode cX6_addNote 2 = .ok (.iload_n 1, 1) := by decide +kernel
theorem dX6_addNote_3 : decode cX6_addNote 3 = .ok (.invokevirtual 376, 3) := by decide +kernel
theorem dX6_addNote_6 : decode cX6_addNote 6 = .ok (.iconst 1, 1) := by decide +kernel
theorem dX6_addNote_7 : decode cX6_addNote 7 = .ok (.invokevirtual 285, 3) := by decide +kernel
theorem dX6_addNote_10 : decode cX6_addNote 10 = .ok (.ifCond .ne 5, 3) := by decide +kernel
theorem dX6_addNote_13 : decode cX6_addNote 13 = .ok (.iconst 0, 1) := by decide +kernel
theorem dX6_addNote_14 : decode cX6_addNote 14 = .ok (.ireturn, 1) := by decide +kernel
theorem dX6_addNote_15 : decode cX6_addNote 15 = .ok (.aload_n 0, 1) := by decide +kernel
theorem dX6_addNote_16 : decode cX6_addNote 16 = .ok (.getfield 7, 3) := by decide +kernel
theorem dX6_addNote_19 : decode cX6_addNote 19 = .ok (.bipush 9, 2) := by decide +kernel
theorem dX6_addNote_21 : decode cX6_addNote 21 = .ok (.iaload, 1) := by decide +kernel
theorem dX6_addNote_22 : decode cX6_addNote 22 = .ok (.bipush 40, 2) := by decide +kernel
theorem dX6_addNote_24 : decode cX6_addNote 24 = .ok (.if_icmp .ne 6, 3) := by decide +kernel
theorem dX6_addNote_27 : decode cX6_addNote 27 = .ok (.bipush (-2), 2) := by decide +kernel
theorem dX6_addNote_29 : decode cX6_addNote 29 = .ok (.ireturn, 1) := by decide +kernel
theorem dX6_addNote_30 : decode cX6_addNote 30 = .ok (.aload_n 0, 1) := by decide +kernel
theorem dX6_addNote_31 : decode cX6_addNote 31 = .ok (.invokevirtual 364, 3) := by decide +kernel
theorem dX6_addNote_34 : decode cX6_addNote 34 = .ok (.aload_n 0, 1) := by decide +kernel
theorem dX6_addNote_35 : decode cX6_addNote 35 = .ok (.getfield 7, 3) := by decide +kernel
theorem dX6_addNote_38 : decode cX6_addNote 38 = .ok (.bipush 27, 2) := by decide +kernel
theorem dX6_addNote_40 : decode cX6_addNote 40 = .ok (.aload_n 0, 1) := by decide +kernel
theorem dX6_addNote_41 : decode cX6_addNote 41 = .ok (.getfield 7, 3) := by decide +kernel
theorem dX6_addNote_44 : decode cX6_addNote 44 = .ok (.bipush 9, 2) := by decide +kernel
theorem dX6_addNote_46 : decode cX6_addNote 46 = .ok (.iaload, 1) := by decide +kernel
theorem dX6_addNote_47 : decode cX6_addNote 47 = .ok (.iadd, 1) := by decide +kernel
theorem dX6_addNote_48 : decode cX6_addNote 48 = .ok (.iload_n 1, 1) := by decide +kernel
theorem dX6_addNote_49 : decode cX6_addNote 49 = .ok (.iastore, 1) := by decide +kernel
theorem dX6_addNote_50 : decode cX6_addNote 50 = .ok (.aload_n 0, 1) := by decide +kernel
theorem dX6_addNote_51 : decode cX6_addNote 51 = .ok (.getfield 7, 3) := by decide +kernel
theorem dX6_addNote_54 : decode cX6_addNote 54 = .ok (.bipush 9, 2) := by decide +kernel
theorem dX6_addNote_56 : decode cX6_addNote 56 = .ok (.dup2, 1) := by decide +kernel
theorem dX6_addNote_57 : decode cX6_addNote 57 = .ok (.iaload, 1) := by decide +kernel
theorem dX6_addNote_58 : decode cX6_addNote 58 = .ok (.iconst 1, 1) := by decide +kernel
theorem dX6_addNote_59 : decode cX6_addNote 59 = .ok (.iadd, 1) := by decide +kernel
theorem dX6_addNote_60 : decode cX6_addNote 60 = .ok (.iastore, 1) := by decide +kernel
theorem dX6_addNote_61 : decode cX6_addNote 61 = .ok (.aload_n 0, 1) := by decide +kernel
theorem dX6_addNote_62 : decode cX6_addNote 62 = .ok (.getfield 7, 3) := by decide +kernel
theorem dX6_addNote_65 : decode cX6_addNote 65 = .ok (.bipush 9, 2) := by decide +kernel
theorem dX6_addNote_67 : decode cX6_addNote 67 = .ok (.iaload, 1) := by decide +kernel
theorem dX6_addNote_68 : decode cX6_addNote 68 = .ok (.iconst 1, 1) := by decide +kernel
theorem dX6_addNote_69 : decode cX6_addNote 69 = .ok (.isub, 1) := by decide +kernel
theorem dX6_addNote_70 : decode cX6_addNote 70 = .ok (.ireturn, 1) := by decide +kernel
theorem dX6_setNote_0 : decode cX6_setNote 0 = .ok (.aload_n 0, 1) := by decide +kernel
theorem dX6_setNote_1 : decode cX6_setNote 1 = .ok (.aload_n 0, 1) := by decide +kernel
theorem dX6_setNote_2 : decode cX6_setNote 2 = .ok (.iload_n 1, 1) := by decide +kernel
theorem dX6_setNote_3 : decode cX6_setNote 3 = .ok (.invokevirtual 327, 3) := by decide +kernel
theorem dX6_setNote_6 : decode cX6_setNote 6 = .ok (.aload_n 0, 1) := by decide +kernel
theorem dX6_setNote_7 : decode cX6_setNote 7 = .ok (.iload_n 2, 1) := by decide +kernel
theorem dX6_setNote_8 : decode cX6_setNote 8 = .ok (.invokevirtual 376, 3) := by decide +kernel
theorem dX6_setNote_11 : decode cX6_setNote 11 = .ok (.invokevirtual 285, 3) := by decide +kernel
theorem dX6_setNote_14 : decode cX6_setNote 14 = .ok (.ifCond .eq 15, 3) := by decide +kernel
theorem dX6_setNote_17 : decode cX6_setNote 17 = .ok (.aload_n 0, 1) := by decide +kernel
theorem dX6_setNote_18 : decode cX6_setNote 18 = .ok (.bipush 27, 2) := by decide +kernel
theorem dX6_setNote_20 : decode cX6_setNote 20 = .ok (.iload_n 1, 1) := by decide +kernel
theorem dX6_setNote_21 : decode cX6_setNote 21 = .ok (.iadd, 1) := by decide +kernel
theorem dX6_setNote_22 : decode cX6_setNote 22 = .ok (.iload_n 2, 1) := by decide +kernel
theorem dX6_setNote_23 : decode cX6_setNote 23 = .ok (.invokevirtual 367, 3) := by decide +kernel
theorem dX6_setNote_26 : decode cX6_setNote 26 = .ok (.goto 4, 3) := by decide +kernel
theorem dX6_setNote_29 : decode cX6_setNote 29 = .ok (.iconst 0, 1) := by decide +kernel
theorem dX6_setNote_30 : decode cX6_setNote 30 = .ok (.ireturn, 1) := by decide +kernel
theorem dX6_dropNote_0 : decode cX6_dropNote 0 = .ok (.aload_n 0, 1) := by decide +kernel
theorem dX6_dropNote_1 : decode cX6_dropNote 1 = .ok (.iload_n 1, 1) := by decide +kernel
theorem dX6_dropNote_2 : decode cX6_dropNote 2 = .ok (.invokevirtual 330, 3) := by decide +kernel
theorem dX6_dropNote_5 : decode cX6_dropNote 5 = .ok (.ifCond .ne 5, 3) := by decide +kernel
theorem dX6_dropNote_8 : decode cX6_dropNote 8 = .ok (.iconst 0, 1) := by decide +kernel
theorem dX6_dropNote_9 : decode cX6_dropNote 9 = .ok (.ireturn, 1) := by decide +kernel
theorem dX6_dropNote_10 : decode cX6_dropNote 10 = .ok (.aload_n 0, 1) := by decide +kernel
theorem dX6_dropNote_11 : decode cX6_dropNote 11 = .ok (.invokevirtual 364, 3) := by decide +kernel
theorem dX6_dropNote_14 : decode cX6_dropNote 14 = .ok (.iload_n 1, 1) := by decide +kernel
theorem dX6_dropNote_15 : decode cX6_dropNote 15 = .ok (.istore_n 2, 1) := by decide +kernel
theorem dX6_dropNote_16 : decode cX6_dropNote 16 = .ok (.iload_n 2, 1) := by decide +kernel
theorem dX6_dropNote_17 : decode cX6_dropNote 17 = .ok (.iconst 1, 1) := by decide +kernel
theorem dX6_dropNote_18 : decode cX6_dropNote 18 = .ok (.iadd, 1) := by decide +kernel
theorem dX6_dropNote_19 : decode cX6_dropNote 19 = .ok (.aload_n 0, 1) := by decide +kernel
theorem dX6_dropNote_20 : decode cX6_dropNote 20 = .ok (.getfield 7, 3) := by decide +kernel
theorem dX6_dropNote_23 : decode cX6_dropNote 23 = .ok (.bipush 9, 2) := by decide +kernel
theorem dX6_dropNote_25 : decode cX6_dropNote 25 = .ok (.iaload, 1) := by decide +kernel
theorem dX6_dropNote_26 : decode cX6_dropNote 26 = .ok (.if_icmp .ge 29, 3) := by decide +kernel
theorem dX6_dropNote_29 : decode cX6_dropNote 29 = .ok (.aload_n 0, 1) := by decide +kernel
theorem dX6_dropNote_30 : decode cX6_dropNote 30 = .ok (.getfield 7, 3) := by decide +kernel
theorem dX6_dropNote_33 : decode cX6_dropNote 33 = .ok (.bipush 27, 2) := by decide +kernel
theorem dX6_dropNote_35 : decode cX6_dropNote 35 = .ok (.iload_n 2, 1) := by decide +kernel
theorem dX6_dropNote_36 : decode cX6_dropNote 36 = .ok (.iadd, 1) := by decide +kernel
theorem dX6_dropNote_37 : decode cX6_dropNote 37 = .ok (.aload_n 0, 1) := by decide +kernel
theorem dX6_dropNote_38 : decode cX6_dropNote 38 = .ok (.getfield 7, 3) := by decide +kernel
theorem dX6_dropNote_41 : decode cX6_dropNote 41 = .ok (.bipush 27, 2) := by decide +kernel
theorem dX6_dropNote_43 : decode cX6_dropNote 43 = .ok (.iload_n 2, 1) := by decide +kernel
theorem dX6_dropNote_44 : decode cX6_dropNote 44 = .ok (.iadd, 1) := by decide +kernel
theorem dX6_dropNote_45 : decode cX6_dropNote 45 = .ok (.iconst 1, 1) := by decide +kernel
theorem dX6_dropNote_46 : decode cX6_dropNote 46 = .ok (.iadd, 1) := by decide +kernel
theorem dX6_dropNote_47 : decode cX6_dropNote 47 = .ok (.iaload, 1) := by decide +kernel
theorem dX6_dropNote_48 : decode cX6_dropNote 48 = .ok (.iastore, 1) := by decide +kernel
theorem dX6_dropNote_49 : decode cX6_dropNote 49 = .ok (.iinc 2 1, 3) := by decide +kernel
theorem dX6_dropNote_52 : decode cX6_dropNote 52 = .ok (.goto (-36), 3) := by decide +kernel
theorem dX6_dropNote_55 : decode cX6_dropNote 55 = .ok (.aload_n 0, 1) := by decide +kernel
theorem dX6_dropNote_56 : decode cX6_dropNote 56 = .ok (.getfield 7, 3) := by decide +kernel
theorem dX6_dropNote_59 : decode cX6_dropNote 59 = .ok (.bipush 9, 2) := by decide +kernel
theorem dX6_dropNote_61 : decode cX6_dropNote 61 = .ok (.dup2, 1) := by decide +kernel
theorem dX6_dropNote_62 : decode cX6_dropNote 62 = .ok (.iaload, 1) := by decide +kernel
theorem dX6_dropNote_63 : decode cX6_dropNote 63 = .ok (.iconst 1, 1) := by decide +kernel
theorem dX6_dropNote_64 : decode cX6_dropNote 64 = .ok (.isub, 1) := by decide +kernel
theorem dX6_dropNote_65 : decode cX6_dropNote 65 = .ok (.iastore, 1) := by decide +kernel
theorem dX6_dropNote_66 : decode cX6_dropNote 66 = .ok (.aload_n 0, 1) := by decide +kernel
theorem dX6_dropNote_67 : decode cX6_dropNote 67 = .ok (.getfield 7, 3) := by decide +kernel
theorem dX6_dropNote_70 : decode cX6_dropNote 70 = .ok (.bipush 27, 2) := by decide +kernel
theorem dX6_dropNote_72 : decode cX6_dropNote 72 = .ok (.aload_n 0, 1) := by decide +kernel
theorem dX6_dropNote_73 : decode cX6_dropNote 73 = .ok (.getfield 7, 3) := by decide +kernel
theorem dX6_dropNote_76 : decode cX6_dropNote 76 = .ok (.bipush 9, 2) := by decide +kernel
theorem dX6_dropNote_78 : decode cX6_dropNote 78 = .ok (.iaload, 1) := by decide +kernel
theorem dX6_dropNote_79 : decode cX6_dropNote 79 = .ok (.iadd, 1) := by decide +kernel
theorem dX6_dropNote_80 : decode cX6_dropNote 80 = .ok (.iconst 0, 1) := by decide +kernel
theorem dX6_dropNote_81 : decode cX6_dropNote 81 = .ok (.iastore, 1) := by decide +kernel
theorem dX6_dropNote_82 : decode cX6_dropNote 82 = .ok (.aload_n 0, 1) := by decide +kernel
theorem dX6_dropNote_83 : decode cX6_dropNote 83 = .ok (.getfield 7, 3) := by decide +kernel
theorem dX6_dropNote_86 : decode cX6_dropNote 86 = .ok (.bipush 12, 2) := by decide +kernel
theorem dX6_dropNote_88 : decode cX6_dropNote 88 = .ok (.dup2, 1) := by decide +kernel
theorem dX6_dropNote_89 : decode cX6_dropNote 89 = .ok (.iaload, 1) := by decide +kernel
theorem dX6_dropNote_90 : decode cX6_dropNote 90 = .ok (.aload_n 0, 1) := by decide +kernel
theorem dX6_dropNote_91 : decode cX6_dropNote 91 = .ok (.getfield 7, 3) := by decide +kernel
theorem dX6_dropNote_94 : decode cX6_dropNote 94 = .ok (.bipush 12, 2) := by decide +kernel
theorem dX6_dropNote_96 : decode cX6_dropNote 96 = .ok (.iaload, 1) := by decide +kernel
theorem dX6_dropNote_97 : decode cX6_dropNote 97 = .ok (.iload_n 1, 1) := by decide +kernel
theorem dX6_dropNote_98 : decode cX6_dropNote 98 = .ok (.if_icmp .le 7, 3) := by decide +kernel
theorem dX6_dropNote_101 : decode cX6_dropNote 101 = .ok (.iconst 1, 1) := by decide +kernel
theorem dX6_dropNote_102 : decode cX6_dropNote 102 = .ok (.goto 4, 3) := by decide +kernel
theorem dX6_dropNote_105 : decode cX6_dropNote 105 = .ok (.iconst 0, 1) := by decide +kernel
theorem dX6_dropNote_106 : decode cX6_dropNote 106 = .ok (.isub, 1) := by decide +kernel
theorem dX6_dropNote_107 : decode cX6_dropNote 107 = .ok (.iastore, 1) := by decide +kernel
theorem dX6_dropNote_108 : decode cX6_dropNote 108 = .ok (.aload_n 0, 1) := by decide +kernel
theorem dX6_dropNote_109 : decode cX6_dropNote 109 = .ok (.getfield 7, 3) := by decide +kernel
theorem dX6_dropNote_112 : decode cX6_dropNote 112 = .ok (.bipush 12, 2) := by decide +kernel
theorem dX6_dropNote_114 : decode cX6_dropNote 114 = .ok (.aload_n 0, 1) := by decide +kernel
theorem dX6_dropNote_115 : decode cX6_dropNote 115 = .ok (.getfield 7, 3) := by decide +kernel
theorem dX6_dropNote_118 : decode cX6_dropNote 118 = .ok (.bipush 12, 2) := by decide +kernel
theorem dX6_dropNote_120 : decode cX6_dropNote 120 = .ok (.iaload, 1) := by decide +kernel
theorem dX6_dropNote_121 : decode cX6_dropNote 121 = .ok (.aload_n 0, 1) := by decide +kernel
theorem dX6_dropNote_122 : decode cX6_dropNote 122 = .ok (.getfield 7, 3) := by decide +kernel
theorem dX6_dropNote_125 : decode cX6_dropNote 125 = .ok (.bipush 9, 2) := by decide +kernel
theorem dX6_dropNote_127 : decode cX6_dropNote 127 = .ok (.iaload, 1) := by decide +kernel
theorem dX6_dropNote_128 : decode cX6_dropNote 128 = .ok (.if_icmp .ge 13, 3) := by decide +kernel
theorem dX6_dropNote_131 : decode cX6_dropNote 131 = .ok (.aload_n 0, 1) := by decide +kernel
theorem dX6_dropNote_132 : decode cX6_dropNote 132 = .ok (.getfield 7, 3) := by decide +kernel
theorem dX6_dropNote_135 : decode cX6_dropNote 135 = .ok (.bipush 12, 2) := by decide +kernel
theorem dX6_dropNote_137 : decode cX6_dropNote 137 = .ok (.iaload, 1) := by decide +kernel
theorem dX6_dropNote_138 : decode cX6_dropNote 138 = .ok (.goto 4, 3) := by decide +kernel
theorem dX6_dropNote_141 : decode cX6_dropNote 141 = .ok (.iconst 0, 1) := by decide +kernel
theorem dX6_dropNote_142 : decode cX6_dropNote 142 = .ok (.iastore, 1) := by decide +kernel
theorem dX6_dropNote_143 : decode cX6_dropNote 143 = .ok (.aload_n 0, 1) := by decide +kernel
theorem dX6_dropNote_144 : decode cX6_dropNote 144 = .ok (.getfield 7, 3) := by decide +kernel
theorem dX6_dropNote_147 : decode cX6_dropNote 147 = .ok (.bipush 9, 2) := by decide +kernel
theorem dX6_dropNote_149 : decode cX6_dropNote 149 = .ok (.iaload, 1) := by decide +kernel
theorem dX6_dropNote_150 : decode cX6_dropNote 150 = .ok (.ireturn, 1) := by decide +kernel
theorem dX6_repeat_0 : decode cX6_repeat 0 = .ok (.aload_n 0, 1) := by decide +kernel
theorem dX6_repeat_1 : decode cX6_repeat 1 = .ok (.aload_n 0, 1) := by decide +kernel
theorem dX6_repeat_2 : decode cX6_repeat 2 = .ok (.iload_n 1, 1) := by decide +kernel
theorem dX6_repeat_3 : decode cX6_repeat 3 = .ok (.invokevirtual 327, 3) := by decide +kernel
theorem dX6_repeat_6 : decode cX6_repeat 6 = .ok (.ifCond .eq 15, 3) := by decide +kernel
theorem dX6_repeat_9 : decode cX6_repeat 9 = .ok (.aload_n 0, 1) := by decide +kernel
theorem dX6_repeat_10 : decode cX6_repeat 10 = .ok (.iload_n 2, 1) := by decide +kernel
theorem dX6_repeat_11 : decode cX6_repeat 11 = .ok (.invokevirtual 327, 3) := by decide +kernel
theorem dX6_repeat_14 : decode cX6_repeat 14 = .ok (.ifCond .eq 7, 3) := by decide +kernel
theorem dX6_repeat_17 : decode cX6_repeat 17 = .ok (.iconst 1, 1) := by decide +kernel
theorem dX6_repeat_18 : decode cX6_repeat 18 = .ok (.goto 4, 3) := by decide +kernel
theorem dX6_repeat_21 : decode cX6_repeat 21 = .ok (.iconst 0, 1) := by decide +kernel
theorem dX6_repeat_22 : decode cX6_repeat 22 = .ok (.iload_n 1, 1) := by decide +kernel
theorem dX6_repeat_23 : decode cX6_repeat 23 = .ok (.iload_n 2, 1) := by decide +kernel
theorem dX6_repeat_24 : decode cX6_repeat 24 = .ok (.if_icmp .gt 7, 3) := by decide +kernel
theorem dX6_repeat_27 : decode cX6_repeat 27 = .ok (.iconst 1, 1) := by decide +kernel
theorem dX6_repeat_28 : decode cX6_repeat 28 = .ok (.goto 4, 3) := by decide +kernel
theorem dX6_repeat_31 : decode cX6_repeat 31 = .ok (.iconst 0, 1) := by decide +kernel
theorem dX6_repeat_32 : decode cX6_repeat 32 = .ok (.invokevirtual 285, 3) := by decide +kernel
theorem dX6_repeat_35 : decode cX6_repeat 35 = .ok (.ifCond .ne 5, 3) := by decide +kernel
theorem dX6_repeat_38 : decode cX6_repeat 38 = .ok (.iconst 0, 1) := by decide +kernel
theorem dX6_repeat_39 : decode cX6_repeat 39 = .ok (.ireturn, 1) := by decide +kernel
theorem dX6_repeat_40 : decode cX6_repeat 40 = .ok (.iload_n 2, 1) := by decide +kernel
theorem dX6_repeat_41 : decode cX6_repeat 41 = .ok (.iload_n 1, 1) := by decide +kernel
theorem dX6_repeat_42 : decode cX6_repeat 42 = .ok (.isub, 1) := by decide +kernel
theorem dX6_repeat_43 : decode cX6_repeat 43 = .ok (.iconst 1, 1) := by decide +kernel
theorem dX6_repeat_44 : decode cX6_repeat 44 = .ok (.iadd, 1) := by decide +kernel
theorem dX6_repeat_45 : decode cX6_repeat 45 = .ok (.istore_n 3, 1) := by decide +kernel
theorem dX6_repeat_46 : decode cX6_repeat 46 = .ok (.aload_n 0, 1) := by decide +kernel
theorem dX6_repeat_47 : decode cX6_repeat 47 = .ok (.getfield 7, 3) := by decide +kernel
theorem dX6_repeat_50 : decode cX6_repeat 50 = .ok (.bipush 9, 2) := by decide +kernel
theorem dX6_repeat_52 : decode cX6_repeat 52 = .ok (.iaload, 1) := by decide +kernel
theorem dX6_repeat_53 : decode cX6_repeat 53 = .ok (.iload_n 3, 1) := by decide +kernel
theorem dX6_repeat_54 : decode cX6_repeat 54 = .ok (.iadd, 1) := by decide +kernel
theorem dX6_repeat_55 : decode cX6_repeat 55 = .ok (.bipush 40, 2) := by decide +kernel
theorem dX6_repeat_57 : decode cX6_repeat 57 = .ok (.if_icmp .le 6, 3) := by decide +kernel
theorem dX6_repeat_60 : decode cX6_repeat 60 = .ok (.bipush (-2), 2) := by decide +kernel
theorem dX6_repeat_62 : decode cX6_repeat 62 = .ok (.ireturn, 1) := by decide +kernel
theorem dX6_repeat_63 : decode cX6_repeat 63 = .ok (.aload_n 0, 1) := by decide +kernel
theorem dX6_repeat_64 : decode cX6_repeat 64 = .ok (.invokevirtual 364, 3) := by decide +kernel
theorem dX6_repeat_67 : decode cX6_repeat 67 = .ok (.aload_n 0, 1) := by decide +kernel
theorem dX6_repeat_68 : decode cX6_repeat 68 = .ok (.getfield 7, 3) := by decide +kernel
theorem dX6_repeat_71 : decode cX6_repeat 71 = .ok (.bipush 9, 2) := by decide +kernel
theorem dX6_repeat_73 : decode cX6_repeat 73 = .ok (.iaload, 1) := by decide +kernel
theorem dX6_repeat_74 : decode cX6_repeat 74 = .ok (.iconst 1, 1) := by decide +kernel
theorem dX6_repeat_75 : decode cX6_repeat 75 = .ok (.isub, 1) := by decide +kernel
theorem dX6_repeat_76 : decode cX6_repeat 76 = .ok (.istore 4, 2) := by decide +kernel
theorem dX6_repeat_78 : decode cX6_repeat 78 = .ok (.iload 4, 2) := by decide +kernel
theorem dX6_repeat_80 : decode cX6_repeat 80 = .ok (.iload_n 2, 1) := by decide +kernel
theorem dX6_repeat_81 : decode cX6_repeat 81 = .ok (.if_icmp .le 31, 3) := by decide +kernel
theorem dX6_repeat_84 : decode cX6_repeat 84 = .ok (.aload_n 0, 1) := by decide +kernel
theorem dX6_repeat_85 : decode cX6_repeat 85 = .ok (.getfield 7, 3) := by decide +kernel
theorem dX6_repeat_88 : decode cX6_repeat 88 = .ok (.bipush 27, 2) := by decide +kernel
theorem dX6_repeat_90 : decode cX6_repeat 90 = .ok (.iload 4, 2) := by decide +kernel
theorem dX6_repeat_92 : decode cX6_repeat 92 = .ok (.iadd, 1) := by decide +kernel
theorem dX6_repeat_93 : decode cX6_repeat 93 = .ok (.iload_n 3, 1) := by decide +kernel
theorem dX6_repeat_94 : decode cX6_repeat 94 = .ok (.iadd, 1) := by decide +kernel
theorem dX6_repeat_95 : decode cX6_repeat 95 = .ok (.aload_n 0, 1) := by decide +kernel
theorem dX6_repeat_96 : decode cX6_repeat 96 = .ok (.getfield 7, 3) := by decide +kernel
theorem dX6_repeat_99 : decode cX6_repeat 99 = .ok (.bipush 27, 2) := by decide +kernel
theorem dX6_repeat_101 : decode cX6_repeat 101 = .ok (.iload 4, 2) := by decide +kernel
theorem dX6_repeat_103 : decode cX6_repeat 103 = .ok (.iadd, 1) := by decide +kernel
theorem dX6_repeat_104 : decode cX6_repeat 104 = .ok (.iaload, 1) := by decide +kernel
theorem dX6_repeat_105 : decode cX6_repeat 105 = .ok (.iastore, 1) := by decide +kernel
theorem dX6_repeat_106 : decode cX6_repeat 106 = .ok (.iinc 4 (-1), 3) := by decide +kernel
theorem dX6_repeat_109 : decode cX6_repeat 109 = .ok (.goto (-31), 3) := by decide +kernel
theorem dX6_repeat_112 : decode cX6_repeat 112 = .ok (.iconst 0, 1) := by decide +kernel
theorem dX6_repeat_113 : decode cX6_repeat 113 = .ok (.istore 4, 2) := by decide +kernel
theorem dX6_repeat_115 : decode cX6_repeat 115 = .ok (.iload 4, 2) := by decide +kernel
theorem dX6_repeat_117 : decode cX6_repeat 117 = .ok (.iload_n 3, 1) := by decide +kernel
theorem dX6_repeat_118 : decode cX6_repeat 118 = .ok (.if_icmp .ge 35, 3) := by decide +kernel
theorem dX6_repeat_121 : decode cX6_repeat 121 = .ok (.aload_n 0, 1) := by decide +kernel
theorem dX6_repeat_122 : decode cX6_repeat 122 = .ok (.getfield 7, 3) := by decide +kernel
theorem dX6_repeat_125 : decode cX6_repeat 125 = .ok (.bipush 27, 2) := by decide +kernel
theorem dX6_repeat_127 : decode cX6_repeat 127 = .ok (.iload_n 2, 1) := by decide +kernel
theorem dX6_repeat_128 : decode cX6_repeat 128 = .ok (.iadd, 1) := by decide +kernel
theorem dX6_repeat_129 : decode cX6_repeat 129 = .ok (.iconst 1, 1) := by decide +kernel
theorem dX6_repeat_130 : decode cX6_repeat 130 = .ok (.iadd, 1) := by decide +kernel
theorem dX6_repeat_131 : decode cX6_repeat 131 = .ok (.iload 4, 2) := by decide +kernel
theorem dX6_repeat_133 : decode cX6_repeat 133 = .ok (.iadd, 1) := by decide +kernel
theorem dX6_repeat_134 : decode cX6_repeat 134 = .ok (.aload_n 0, 1) := by decide +kernel
theorem dX6_repeat_135 : decode cX6_repeat 135 = .ok (.getfield 7, 3) := by decide +kernel
theorem dX6_repeat_138 : decode cX6_repeat 138 = .ok (.bipush 27, 2) := by decide +kernel
theorem dX6_repeat_140 : decode cX6_repeat 140 = .ok (.iload_n 1, 1) := by decide +kernel
theorem dX6_repeat_141 : decode cX6_repeat 141 = .ok (.iadd, 1) := by decide +kernel
theorem dX6_repeat_142 : decode cX6_repeat 142 = .ok (.iload 4, 2) := by decide +kernel
theorem dX6_repeat_144 : decode cX6_repeat 144 = .ok (.iadd, 1) := by decide +kernel
theorem dX6_repeat_145 : decode cX6_repeat 145 = .ok (.iaload, 1) := by decide +kernel
theorem dX6_repeat_146 : decode cX6_repeat 146 = .ok (.iastore, 1) := by decide +kernel
theorem dX6_repeat_147 : decode cX6_repeat 147 = .ok (.iinc 4 1, 3) := by decide +kernel
theorem dX6_repeat_150 : decode cX6_repeat 150 = .ok (.goto (-35), 3) := by decide +kernel
theorem dX6_repeat_153 : decode cX6_repeat 153 = .ok (.aload_n 0, 1) := by decide +kernel
theorem dX6_repeat_154 : decode cX6_repeat 154 = .ok (.getfield 7, 3) := by decide +kernel
theorem dX6_repeat_157 : decode cX6_repeat 157 = .ok (.bipush 9, 2) := by decide +kernel
theorem dX6_repeat_159 : decode cX6_repeat 159 = .ok (.dup2, 1) := by decide +kernel
theorem dX6_repeat_160 : decode cX6_repeat 160 = .ok (.iaload, 1) := by decide +kernel
theorem dX6_repeat_161 : decode cX6_repeat 161 = .ok (.iload_n 3, 1) := by decide +kernel
theorem dX6_repeat_162 : decode cX6_repeat 162 = .ok (.iadd, 1) := by decide +kernel
theorem dX6_repeat_163 : decode cX6_repeat 163 = .ok (.iastore, 1) := by decide +kernel
theorem dX6_repeat_164 : decode cX6_repeat 164 = .ok (.aload_n 0, 1) := by decide +kernel
theorem dX6_repeat_165 : decode cX6_repeat 165 = .ok (.getfield 7, 3) := by decide +kernel
theorem dX6_repeat_168 : decode cX6_repeat 168 = .ok (.bipush 9, 2) := by decide +kernel
theorem dX6_repeat_170 : decode cX6_repeat 170 = .ok (.iaload, 1) := by decide +kernel
theorem dX6_repeat_171 : decode cX6_repeat 171 = .ok (.ireturn, 1) := by decide +kernel
theorem dX6_higher_0 : decode cX6_higher 0 = .ok (.aload_n 0, 1) := by decide +kernel
theorem dX6_higher_1 : decode cX6_higher 1 = .ok (.iload_n 1, 1) := by decide +kernel
theorem dX6_higher_2 : decode cX6_higher 2 = .ok (.i2l, 1) := by decide +kernel
theorem dX6_higher_3 : decode cX6_higher 3 = .ok (.ldc2_w 348, 3) := by decide +kernel
theorem dX6_higher_6 : decode cX6_higher 6 = .ok (.ldc2_w 350, 3) := by decide +kernel
theorem dX6_higher_9 : decode cX6_higher 9 = .ok (.invokestatic 83, 3) := by decide +kernel
theorem dX6_higher_12 : decode cX6_higher 12 = .ok (.iconst 1, 1) := by decide +kernel
theorem dX6_higher_13 : decode cX6_higher 13 = .ok (.invokevirtual 285, 3) := by decide +kernel
theorem dX6_higher_16 : decode cX6_higher 16 = .ok (.ifCond .ne 5, 3) := by decide +kernel
theorem dX6_higher_19 : decode cX6_higher 19 = .ok (.iconst 0, 1) := by decide +kernel
theorem dX6_higher_20 : decode cX6_higher 20 = .ok (.ireturn, 1) := by decide +kernel
theorem dX6_higher_21 : decode cX6_higher 21 = .ok (.aload_n 0, 1) := by decide +kernel
theorem dX6_higher_22 : decode cX6_higher 22 = .ok (.iload_n 1, 1) := by decide +kernel
theorem dX6_higher_23 : decode cX6_higher 23 = .ok (.invokevirtual 168, 3) := by decide +kernel
theorem dX6_higher_26 : decode cX6_higher 26 = .ok (.ifCond .ne 6, 3) := by decide +kernel
theorem dX6_higher_29 : decode cX6_higher 29 = .ok (.bipush (-3), 2) := by decide +kernel
theorem dX6_higher_31 : decode cX6_higher 31 = .ok (.ireturn, 1) := by decide +kernel
theorem dX6_higher_32 : decode cX6_higher 32 = .ok (.aload_n 0, 1) := by decide +kernel
theorem dX6_higher_33 : decode cX6_higher 33 = .ok (.invokevirtual 364, 3) := by decide +kernel
theorem dX6_higher_36 : decode cX6_higher 36 = .ok (.iconst 0, 1) := by decide +kernel
theorem dX6_higher_37 : decode cX6_higher 37 = .ok (.istore_n 2, 1) := by decide +kernel
theorem dX6_higher_38 : decode cX6_higher 38 = .ok (.iload_n 2, 1) := by decide +kernel
theorem dX6_higher_39 : decode cX6_higher 39 = .ok (.aload_n 0, 1) := by decide +kernel
theorem dX6_higher_40 : decode cX6_higher 40 = .ok (.getfield 7, 3) := by decide +kernel
theorem dX6_higher_43 : decode cX6_higher 43 = .ok (.bipush 9, 2) := by decide +kernel
theorem dX6_higher_45 : decode cX6_higher 45 = .ok (.iaload, 1) := by decide +kernel
theorem dX6_higher_46 : decode cX6_higher 46 = .ok (.if_icmp .ge 34, 3) := by decide +kernel
theorem dX6_higher_49 : decode cX6_higher 49 = .ok (.aload_n 0, 1) := by decide +kernel
theorem dX6_higher_50 : decode cX6_higher 50 = .ok (.getfield 7, 3) := by decide +kernel
theorem dX6_higher_53 : decode cX6_higher 53 = .ok (.bipush 27, 2) := by decide +kernel
theorem dX6_higher_55 : decode cX6_higher 55 = .ok (.iload_n 2, 1) := by decide +kernel
theorem dX6_higher_56 : decode cX6_higher 56 = .ok (.iadd, 1) := by decide +kernel
theorem dX6_higher_57 : decode cX6_higher 57 = .ok (.dup2, 1) := by decide +kernel
theorem dX6_higher_58 : decode cX6_higher 58 = .ok (.iaload, 1) := by decide +kernel
theorem dX6_higher_59 : decode cX6_higher 59 = .ok (.aload_n 0, 1) := by decide +kernel
theorem dX6_higher_60 : decode cX6_higher 60 = .ok (.iload_n 2, 1) := by decide +kernel
theorem dX6_higher_61 : decode cX6_higher 61 = .ok (.invokevirtual 152, 3) := by decide +kernel
theorem dX6_higher_64 : decode cX6_higher 64 = .ok (.ifCond .eq 7, 3) := by decide +kernel
theorem dX6_higher_67 : decode cX6_higher 67 = .ok (.iload_n 1, 1) := by decide +kernel
theorem dX6_higher_68 : decode cX6_higher 68 = .ok (.goto 4, 3) := by decide +kernel
theorem dX6_higher_71 : decode cX6_higher 71 = .ok (.iconst 0, 1) := by decide +kernel
theorem dX6_higher_72 : decode cX6_higher 72 = .ok (.iadd, 1) := by decide +kernel
theorem dX6_higher_73 : decode cX6_higher 73 = .ok (.iastore, 1) := by decide +kernel
theorem dX6_higher_74 : decode cX6_higher 74 = .ok (.iinc 2 1, 3) := by decide +kernel
theorem dX6_higher_77 : decode cX6_higher 77 = .ok (.goto (-39), 3) := by decide +kernel
theorem dX6_higher_80 : decode cX6_higher 80 = .ok (.aload_n 0, 1) := by decide +kernel
theorem dX6_higher_81 : decode cX6_higher 81 = .ok (.getfield 7, 3) := by decide +kernel
theorem dX6_higher_84 : decode cX6_higher 84 = .ok (.bipush 9, 2) := by decide +kernel
theorem dX6_higher_86 : decode cX6_higher 86 = .ok (.iaload, 1) := by decide +kernel
theorem dX6_higher_87 : decode cX6_higher 87 = .ok (.aload_n 0, 1) := by decide +kernel
theorem dX6_higher_88 : decode cX6_higher 88 = .ok (.invokevirtual 289, 3) := by decide +kernel
theorem dX6_higher_91 : decode cX6_higher 91 = .ok (.isub, 1) := by decide +kernel
theorem dX6_higher_92 : decode cX6_higher 92 = .ok (.ireturn, 1) := by decide +kernel
theorem dX6_plays0_0 : decode cX6_plays0 0 = .ok (.aload_n 0, 1) := by decide +kernel
theorem dX6_plays0_1 : decode cX6_plays0 1 = .ok (.aload_n 0, 1) := by decide +kernel
theorem dX6_plays0_2 : decode cX6_plays0 2 = .ok (.getfield 7, 3) := by decide +kernel
theorem dX6_plays0_5 : decode cX6_plays0 5 = .ok (.bipush 10, 2) := by decide +kernel
theorem dX6_plays0_7 : decode cX6_plays0 7 = .ok (.iaload, 1) := by decide +kernel
theorem dX6_plays0_8 : decode cX6_plays0 8 = .ok (.iload_n 1, 1) := by decide +kernel
theorem dX6_plays0_9 : decode cX6_plays0 9 = .ok (.invokevirtual 160, 3) := by decide +kernel
theorem dX6_plays0_12 : decode cX6_plays0 12 = .ok (.istore_n 2, 1) := by decide +kernel
theorem dX6_plays0_13 : decode cX6_plays0 13 = .ok (.aload_n 0, 1) := by decide +kernel
theorem dX6_plays0_14 : decode cX6_plays0 14 = .ok (.getfield 7, 3) := by decide +kernel
theorem dX6_plays0_17 : decode cX6_plays0 17 = .ok (.bipush 11, 2) := by decide +kernel
theorem dX6_plays0_19 : decode cX6_plays0 19 = .ok (.dup2, 1) := by decide +kernel
theorem dX6_plays0_20 : decode cX6_plays0 20 = .ok (.iaload, 1) := by decide +kernel
theorem dX6_plays0_21 : decode cX6_plays0 21 = .ok (.iload_n 2, 1) := by decide +kernel
theorem dX6_plays0_22 : decode cX6_plays0 22 = .ok (.iadd, 1) := by decide +kernel
theorem dX6_plays0_23 : decode cX6_plays0 23 = .ok (.iastore, 1) := by decide +kernel
theorem dX6_plays0_24 : decode cX6_plays0 24 = .ok (.aload_n 0, 1) := by decide +kernel
theorem dX6_plays0_25 : decode cX6_plays0 25 = .ok (.getfield 7, 3) := by decide +kernel
theorem dX6_plays0_28 : decode cX6_plays0 28 = .ok (.bipush 10, 2) := by decide +kernel
theorem dX6_plays0_30 : decode cX6_plays0 30 = .ok (.iload_n 1, 1) := by decide +kernel
theorem dX6_plays0_31 : decode cX6_plays0 31 = .ok (.iastore, 1) := by decide +kernel
theorem dX6_plays0_32 : decode cX6_plays0 32 = .ok (.iload_n 1, 1) := by decide +kernel
theorem dX6_plays0_33 : decode cX6_plays0 33 = .ok (.ireturn, 1) := by decide +kernel
theorem dX6_cover_0 : decode cX6_cover 0 = .ok (.aload_n 0, 1) := by decide +kernel
theorem dX6_cover_1 : decode cX6_cover 1 = .ok (.aload_n 0, 1) := by decide +kernel
theorem dX6_cover_2 : decode cX6_cover 2 = .ok (.iload_n 1, 1) := by decide +kernel
theorem dX6_cover_3 : decode cX6_cover 3 = .ok (.invokevirtual 292, 3) := by decide +kernel
theorem dX6_cover_6 : decode cX6_cover 6 = .ok (.iload_n 2, 1) := by decide +kernel
theorem dX6_cover_7 : decode cX6_cover 7 = .ok (.i2l, 1) := by decide +kernel
theorem dX6_cover_8 : decode cX6_cover 8 = .ok (.lconst 0, 1) := by decide +kernel
theorem dX6_cover_9 : decode cX6_cover 9 = .ok (.ldc2_w 295, 3) := by decide +kernel
theorem dX6_cover_12 : decode cX6_cover 12 = .ok (.invokestatic 83, 3) := by decide +kernel
theorem dX6_cover_15 : decode cX6_cover 15 = .ok (.invokevirtual 285, 3) := by decide +kernel
theorem dX6_cover_18 : decode cX6_cover 18 = .ok (.ifCond .ne 5, 3) := by decide +kernel
theorem dX6_cover_21 : decode cX6_cover 21 = .ok (.iconst 0, 1) := by decide +kernel
theorem dX6_cover_22 : decode cX6_cover 22 = .ok (.ireturn, 1) := by decide +kernel
theorem dX6_cover_23 : decode cX6_cover 23 = .ok (.aload_n 0, 1) := by decide +kernel
theorem dX6_cover_24 : decode cX6_cover 24 = .ok (.invokevirtual 364, 3) := by decide +kernel
theorem dX6_cover_27 : decode cX6_cover 27 = .ok (.iconst 1, 1) := by decide +kernel
theorem dX6_cover_28 : decode cX6_cover 28 = .ok (.istore_n 3, 1) := by decide +kernel
theorem dX6_cover_29 : decode cX6_cover 29 = .ok (.iconst 0, 1) := by decide +kernel
theorem dX6_cover_30 : decode cX6_cover 30 = .ok (.istore 4, 2) := by decide +kernel
theorem dX6_cover_32 : decode cX6_cover 32 = .ok (.iload 4, 2) := by decide +kernel
theorem dX6_cover_34 : decode cX6_cover 34 = .ok (.iload_n 1, 1) := by decide +kernel
theorem dX6_cover_35 : decode cX6_cover 35 = .ok (.if_icmp .ge 13, 3) := by decide +kernel
theorem dX6_cover_38 : decode cX6_cover 38 = .ok (.iload_n 3, 1) := by decide +kernel
theorem dX6_cover_39 : decode cX6_cover 39 = .ok (.iconst 3, 1) := by decide +kernel
theorem dX6_cover_40 : decode cX6_cover 40 = .ok (.imul, 1) := by decide +kernel
theorem dX6_cover_41 : decode cX6_cover 41 = .ok (.istore_n 3, 1) := by decide +kernel
theorem dX6_cover_42 : decode cX6_cover 42 = .ok (.iinc 4 1, 3) := by decide +kernel
theorem dX6_cover_45 : decode cX6_cover 45 = .ok (.goto (-13), 3) := by decide +kernel
theorem dX6_cover_48 : decode cX6_cover 48 = .ok (.aload_n 0, 1) := by decide +kernel
theorem dX6_cover_49 : decode cX6_cover 49 = .ok (.aload_n 0, 1) := by decide +kernel
theorem dX6_cover_50 : decode cX6_cover 50 = .ok (.getfield 7, 3) := by decide +kernel
theorem dX6_cover_53 : decode cX6_cover 53 = .ok (.bipush 10, 2) := by decide +kernel
theorem dX6_cover_55 : decode cX6_cover 55 = .ok (.iaload, 1) := by decide +kernel
theorem dX6_cover_56 : decode cX6_cover 56 = .ok (.iload_n 3, 1) := by decide +kernel
theorem dX6_cover_57 : decode cX6_cover 57 = .ok (.iload_n 2, 1) := by decide +kernel
theorem dX6_cover_58 : decode cX6_cover 58 = .ok (.aload_n 0, 1) := by decide +kernel
theorem dX6_cover_59 : decode cX6_cover 59 = .ok (.aload_n 0, 1) := by decide +kernel
theorem dX6_cover_60 : decode cX6_cover 60 = .ok (.getfield 7, 3) := by decide +kernel
theorem dX6_cover_63 : decode cX6_cover 63 = .ok (.bipush 10, 2) := by decide +kernel
theorem dX6_cover_65 : decode cX6_cover 65 = .ok (.iaload, 1) := by decide +kernel
theorem dX6_cover_66 : decode cX6_cover 66 = .ok (.iload_n 1, 1) := by decide +kernel
theorem dX6_cover_67 : decode cX6_cover 67 = .ok (.invokevirtual 90, 3) := by decide +kernel
theorem dX6_cover_70 : decode cX6_cover 70 = .ok (.isub, 1) := by decide +kernel
theorem dX6_cover_71 : decode cX6_cover 71 = .ok (.imul, 1) := by decide +kernel
theorem dX6_cover_72 : decode cX6_cover 72 = .ok (.iadd, 1) := by decide +kernel
theorem dX6_cover_73 : decode cX6_cover 73 = .ok (.invokevirtual 379, 3) := by decide +kernel
theorem dX6_cover_76 : decode cX6_cover 76 = .ok (.ireturn, 1) := by decide +kernel
theorem dX6_blow_0 : decode cX6_blow 0 = .ok (.aload_n 0, 1) := by decide +kernel
theorem dX6_blow_1 : decode cX6_blow 1 = .ok (.iconst 0, 1) := by decide +kernel
theorem dX6_blow_2 : decode cX6_blow 2 = .ok (.putfield 66, 3) := by decide +kernel
theorem dX6_blow_5 : decode cX6_blow 5 = .ok (.aload_n 0, 1) := by decide +kernel
theorem dX6_blow_6 : decode cX6_blow 6 = .ok (.invokevirtual 364, 3) := by decide +kernel
theorem dX6_blow_9 : decode cX6_blow 9 = .ok (.aload_n 0, 1) := by decide +kernel
theorem dX6_blow_10 : decode cX6_blow 10 = .ok (.getfield 7, 3) := by decide +kernel
theorem dX6_blow_13 : decode cX6_blow 13 = .ok (.bipush 10, 2) := by decide +kernel
theorem dX6_blow_15 : decode cX6_blow 15 = .ok (.iaload, 1) := by decide +kernel
theorem dX6_blow_16 : decode cX6_blow 16 = .ok (.aload_n 0, 1) := by decide +kernel
theorem dX6_blow_17 : decode cX6_blow 17 = .ok (.invokevirtual 76, 3) := by decide +kernel
theorem dX6_blow_20 : decode cX6_blow 20 = .ok (.irem, 1) := by decide +kernel
theorem dX6_blow_21 : decode cX6_blow 21 = .ok (.istore_n 2, 1) := by decide +kernel
theorem dX6_blow_22 : decode cX6_blow 22 = .ok (.aload_n 0, 1) := by decide +kernel
theorem dX6_blow_23 : decode cX6_blow 23 = .ok (.iload_n 1, 1) := by decide +kernel
theorem dX6_blow_24 : decode cX6_blow 24 = .ok (.ifCond .eq 12, 3) := by decide +kernel
theorem dX6_blow_27 : decode cX6_blow 27 = .ok (.iload_n 2, 1) := by decide +kernel
theorem dX6_blow_28 : decode cX6_blow 28 = .ok (.aload_n 0, 1) := by decide +kernel
theorem dX6_blow_29 : decode cX6_blow 29 = .ok (.invokevirtual 76, 3) := by decide +kernel
theorem dX6_blow_32 : decode cX6_blow 32 = .ok (.iadd, 1) := by decide +kernel
theorem dX6_blow_33 : decode cX6_blow 33 = .ok (.goto 4, 3) := by decide +kernel
theorem dX6_blow_36 : decode cX6_blow 36 = .ok (.iload_n 2, 1) := by decide +kernel
theorem dX6_blow_37 : decode cX6_blow 37 = .ok (.invokevirtual 379, 3) := by decide +kernel
theorem dX6_blow_40 : decode cX6_blow 40 = .ok (.ireturn, 1) := by decide +kernel
theorem dX6_step_0 : decode cX6_step 0 = .ok (.aload_n 0, 1) := by decide +kernel
theorem dX6_step_1 : decode cX6_step 1 = .ok (.iconst 0, 1) := by decide +kernel
theorem dX6_step_2 : decode cX6_step 2 = .ok (.putfield 66, 3) := by decide +kernel
theorem dX6_step_5 : decode cX6_step 5 = .ok (.aload_n 0, 1) := by decide +kernel
theorem dX6_step_6 : decode cX6_step 6 = .ok (.getfield 7, 3) := by decide +kernel
theorem dX6_step_9 : decode cX6_step 9 = .ok (.bipush 9, 2) := by decide +kernel
theorem dX6_step_11 : decode cX6_step 11 = .ok (.iaload, 1) := by decide +kernel
theorem dX6_step_12 : decode cX6_step 12 = .ok (.ifCond .ne 6, 3) := by decide +kernel
theorem dX6_step_15 : decode cX6_step 15 = .ok (.bipush (-3), 2) := by decide +kernel
theorem dX6_step_17 : decode cX6_step 17 = .ok (.ireturn, 1) := by decide +kernel
theorem dX6_step_18 : decode cX6_step 18 = .ok (.aload_n 0, 1) := by decide +kernel
theorem dX6_step_19 : decode cX6_step 19 = .ok (.invokevirtual 177, 3) := by decide +kernel
theorem dX6_step_22 : decode cX6_step 22 = .ok (.aload_n 0, 1) := by decide +kernel
theorem dX6_step_23 : decode cX6_step 23 = .ok (.aload_n 0, 1) := by decide +kernel
theorem dX6_step_24 : decode cX6_step 24 = .ok (.getfield 7, 3) := by decide +kernel
theorem dX6_step_27 : decode cX6_step 27 = .ok (.bipush 12, 2) := by decide +kernel
theorem dX6_step_29 : decode cX6_step 29 = .ok (.iaload, 1) := by decide +kernel
theorem dX6_step_30 : decode cX6_step 30 = .ok (.iconst 0, 1) := by decide +kernel
theorem dX6_step_31 : decode cX6_step 31 = .ok (.aload_n 0, 1) := by decide +kernel
theorem dX6_step_32 : decode cX6_step 32 = .ok (.getfield 7, 3) := by decide +kernel
theorem dX6_step_35 : decode cX6_step 35 = .ok (.iconst 4, 1) := by decide +kernel
theorem dX6_step_36 : decode cX6_step 36 = .ok (.iaload, 1) := by decide +kernel
theorem dX6_step_37 : decode cX6_step 37 = .ok (.aload_n 0, 1) := by decide +kernel
theorem dX6_step_38 : decode cX6_step 38 = .ok (.getfield 7, 3) := by decide +kernel
theorem dX6_step_41 : decode cX6_step 41 = .ok (.iconst 5, 1) := by decide +kernel
theorem dX6_step_42 : decode cX6_step 42 = .ok (.iaload, 1) := by decide +kernel
theorem dX6_step_43 : decode cX6_step 43 = .ok (.invokevirtual 171, 3) := by decide +kernel
theorem dX6_step_46 : decode cX6_step 46 = .ok (.ifCond .ne 6, 3) := by decide +kernel
theorem dX6_step_49 : decode cX6_step 49 = .ok (.bipush (-3), 2) := by decide +kernel
theorem dX6_step_51 : decode cX6_step 51 = .ok (.ireturn, 1) := by decide +kernel
theorem dX6_step_52 : decode cX6_step 52 = .ok (.aload_n 0, 1) := by decide +kernel
theorem dX6_step_53 : decode cX6_step 53 = .ok (.aload_n 0, 1) := by decide +kernel
theorem dX6_step_54 : decode cX6_step 54 = .ok (.getfield 7, 3) := by decide +kernel
theorem dX6_step_57 : decode cX6_step 57 = .ok (.bipush 12, 2) := by decide +kernel
theorem dX6_step_59 : decode cX6_step 59 = .ok (.iaload, 1) := by decide +kernel
theorem dX6_step_60 : decode cX6_step 60 = .ok (.invokevirtual 152, 3) := by decide +kernel
theorem dX6_step_63 : decode cX6_step 63 = .ok (.ifCond .eq 24, 3) := by decide +kernel
theorem dX6_step_66 : decode cX6_step 66 = .ok (.aload_n 0, 1) := by decide +kernel
theorem dX6_step_67 : decode cX6_step 67 = .ok (.aload_n 0, 1) := by decide +kernel
theorem dX6_step_68 : decode cX6_step 68 = .ok (.getfield 7, 3) := by decide +kernel
theorem dX6_step_71 : decode cX6_step 71 = .ok (.bipush 12, 2) := by decide +kernel
theorem dX6_step_73 : decode cX6_step 73 = .ok (.iaload, 1) := by decide +kernel
theorem dX6_step_74 : decode cX6_step 74 = .ok (.aload_n 0, 1) := by decide +kernel
theorem dX6_step_75 : decode cX6_step 75 = .ok (.getfield 7, 3) := by decide +kernel
theorem dX6_step_78 : decode cX6_step 78 = .ok (.bipush 10, 2) := by decide +kernel
theorem dX6_step_80 : decode cX6_step 80 = .ok (.iaload, 1) := by decide +kernel
theorem dX6_step_81 : decode cX6_step 81 = .ok (.invokevirtual 174, 3) := by decide +kernel
theorem dX6_step_84 : decode cX6_step 84 = .ok (.goto 10, 3) := by decide +kernel
theorem dX6_step_87 : decode cX6_step 87 = .ok (.aload_n 0, 1) := by decide +kernel
theorem dX6_step_88 : decode cX6_step 88 = .ok (.getfield 7, 3) := by decide +kernel
theorem dX6_step_91 : decode cX6_step 91 = .ok (.bipush 10, 2) := by decide +kernel
theorem dX6_step_93 : decode cX6_step 93 = .ok (.iaload, 1) := by decide +kernel
theorem dX6_step_94 : decode cX6_step 94 = .ok (.istore_n 1, 1) := by decide +kernel
theorem dX6_step_95 : decode cX6_step 95 = .ok (.aload_n 0, 1) := by decide +kernel
theorem dX6_step_96 : decode cX6_step 96 = .ok (.invokevirtual 364, 3) := by decide +kernel
theorem dX6_step_99 : decode cX6_step 99 = .ok (.aload_n 0, 1) := by decide +kernel
theorem dX6_step_100 : decode cX6_step 100 = .ok (.getfield 7, 3) := by decide +kernel
theorem dX6_step_103 : decode cX6_step 103 = .ok (.bipush 12, 2) := by decide +kernel
theorem dX6_step_105 : decode cX6_step 105 = .ok (.aload_n 0, 1) := by decide +kernel
theorem dX6_step_106 : decode cX6_step 106 = .ok (.getfield 7, 3) := by decide +kernel
theorem dX6_step_109 : decode cX6_step 109 = .ok (.bipush 12, 2) := by decide +kernel
theorem dX6_step_111 : decode cX6_step 111 = .ok (.iaload, 1) := by decide +kernel
theorem dX6_step_112 : decode cX6_step 112 = .ok (.iconst 1, 1) := by decide +kernel
theorem dX6_step_113 : decode cX6_step 113 = .ok (.iadd, 1) := by decide +kernel
theorem dX6_step_114 : decode cX6_step 114 = .ok (.aload_n 0, 1) := by decide +kernel
theorem dX6_step_115 : decode cX6_step 115 = .ok (.getfield 7, 3) := by decide +kernel
theorem dX6_step_118 : decode cX6_step 118 = .ok (.bipush 9, 2) := by decide +kernel
theorem dX6_step_120 : decode cX6_step 120 = .ok (.iaload, 1) := by decide +kernel
theorem dX6_step_121 : decode cX6_step 121 = .ok (.irem, 1) := by decide +kernel
theorem dX6_step_122 : decode cX6_step 122 = .ok (.iastore, 1) := by decide +kernel
theorem dX6_step_123 : decode cX6_step 123 = .ok (.aload_n 0, 1) := by decide +kernel
theorem dX6_step_124 : decode cX6_step 124 = .ok (.iload_n 1, 1) := by decide +kernel
theorem dX6_step_125 : decode cX6_step 125 = .ok (.invokevirtual 379, 3) := by decide +kernel
theorem dX6_step_128 : decode cX6_step 128 = .ok (.ireturn, 1) := by decide +kernel
theorem dX6_rewind_0 : decode cX6_rewind 0 = .ok (.aload_n 0, 1) := by decide +kernel
theorem dX6_rewind_1 : decode cX6_rewind 1 = .ok (.iload_n 1, 1) := by decide +kernel
theorem dX6_rewind_2 : decode cX6_rewind 2 = .ok (.ifCond .eq 11, 3) := by decide +kernel
theorem dX6_rewind_5 : decode cX6_rewind 5 = .ok (.aload_n 0, 1) := by decide +kernel
theorem dX6_rewind_6 : decode cX6_rewind 6 = .ok (.iload_n 1, 1) := by decide +kernel
theorem dX6_rewind_7 : decode cX6_rewind 7 = .ok (.invokevirtual 327, 3) := by decide +kernel
theorem dX6_rewind_10 : decode cX6_rewind 10 = .ok (.ifCond .eq 7, 3) := by decide +kernel
theorem dX6_rewind_13 : decode cX6_rewind 13 = .ok (.iconst 1, 1) := by decide +kernel
theorem dX6_rewind_14 : decode cX6_rewind 14 = .ok (.goto 4, 3) := by decide +kernel
theorem dX6_rewind_17 : decode cX6_rewind 17 = .ok (.iconst 0, 1) := by decide +kernel
theorem dX6_rewind_18 : decode cX6_rewind 18 = .ok (.iconst 1, 1) := by decide +kernel
theorem dX6_rewind_19 : decode cX6_rewind 19 = .ok (.invokevirtual 285, 3) := by decide +kernel
theorem dX6_rewind_22 : decode cX6_rewind 22 = .ok (.ifCond .eq 13, 3) := by decide +kernel
theorem dX6_rewind_25 : decode cX6_rewind 25 = .ok (.aload_n 0, 1) := by decide +kernel
theorem dX6_rewind_26 : decode cX6_rewind 26 = .ok (.bipush 12, 2) := by decide +kernel
theorem dX6_rewind_28 : decode cX6_rewind 28 = .ok (.iload_n 1, 1) := by decide +kernel
theorem dX6_rewind_29 : decode cX6_rewind 29 = .ok (.invokevirtual 367, 3) := by decide +kernel
theorem dX6_rewind_32 : decode cX6_rewind 32 = .ok (.goto 4, 3) := by decide +kernel
theorem dX6_rewind_35 : decode cX6_rewind 35 = .ok (.iconst 0, 1) := by decide +kernel
theorem dX6_rewind_36 : decode cX6_rewind 36 = .ok (.ireturn, 1) := by decide +kernel
theorem dX6_meanCost_0 : decode cX6_meanCost 0 = .ok (.aload_n 0, 1) := by decide +kernel
theorem dX6_meanCost_1 : decode cX6_meanCost 1 = .ok (.iconst 0, 1) := by decide +kernel
theorem dX6_meanCost_2 : decode cX6_meanCost 2 = .ok (.putfield 66, 3) := by decide +kernel
theorem dX6_meanCost_5 : decode cX6_meanCost 5 = .ok (.aload_n 0, 1) := by decide +kernel
theorem dX6_meanCost_6 : decode cX6_meanCost 6 = .ok (.invokevirtual 177, 3) := by decide +kernel
theorem dX6_meanCost_9 : decode cX6_meanCost 9 = .ok (.aload_n 0, 1) := by decide +kernel
theorem dX6_meanCost_10 : decode cX6_meanCost 10 = .ok (.iconst 0, 1) := by decide +kernel
theorem dX6_meanCost_11 : decode cX6_meanCost 11 = .ok (.aload_n 0, 1) := by decide +kernel
theorem dX6_meanCost_12 : decode cX6_meanCost 12 = .ok (.getfield 7, 3) := by decide +kernel
theorem dX6_meanCost_15 : decode cX6_meanCost 15 = .ok (.iconst 4, 1) := by decide +kernel
theorem dX6_meanCost_16 : decode cX6_meanCost 16 = .ok (.iaload, 1) := by decide +kernel
theorem dX6_meanCost_17 : decode cX6_meanCost 17 = .ok (.aload_n 0, 1) := by decide +kernel
theorem dX6_meanCost_18 : decode cX6_meanCost 18 = .ok (.getfield 7, 3) := by decide +kernel
theorem dX6_meanCost_21 : decode cX6_meanCost 21 = .ok (.iconst 5, 1) := by decide +kernel
theorem dX6_meanCost_22 : decode cX6_meanCost 22 = .ok (.iaload, 1) := by decide +kernel
theorem dX6_meanCost_23 : decode cX6_meanCost 23 = .ok (.invokevirtual 336, 3) := by decide +kernel
theorem dX6_meanCost_26 : decode cX6_meanCost 26 = .ok (.istore_n 1, 1) := by decide +kernel
theorem dX6_meanCost_27 : decode cX6_meanCost 27 = .ok (.iconst 0, 1) := by decide +kernel
theorem dX6_meanCost_28 : decode cX6_meanCost 28 = .ok (.istore_n 2, 1) := by decide +kernel
theorem dX6_meanCost_29 : decode cX6_meanCost 29 = .ok (.iconst 1, 1) := by decide +kernel
theorem dX6_meanCost_30 : decode cX6_meanCost 30 = .ok (.istore_n 3, 1) := by decide +kernel
theorem dX6_meanCost_31 : decode cX6_meanCost 31 = .ok (.iload_n 3, 1) := by decide +kernel
theorem dX6_meanCost_32 : decode cX6_meanCost 32 = .ok (.aload_n 0, 1) := by decide +kernel
theorem dX6_meanCost_33 : decode cX6_meanCost 33 = .ok (.getfield 7, 3) := by decide +kernel
theorem dX6_meanCost_36 : decode cX6_meanCost 36 = .ok (.bipush 9, 2) := by decide +kernel
theorem dX6_meanCost_38 : decode cX6_meanCost 38 = .ok (.iaload, 1) := by decide +kernel
theorem dX6_meanCost_39 : decode cX6_meanCost 39 = .ok (.if_icmp .ge 25, 3) := by decide +kernel
theorem dX6_meanCost_42 : decode cX6_meanCost 42 = .ok (.iload_n 2, 1) := by decide +kernel
theorem dX6_meanCost_43 : decode cX6_meanCost 43 = .ok (.aload_n 0, 1) := by decide +kernel
theorem dX6_meanCost_44 : decode cX6_meanCost 44 = .ok (.iload_n 3, 1) := by decide +kernel
theorem dX6_meanCost_45 : decode cX6_meanCost 45 = .ok (.invokevirtual 345, 3) := by decide +kernel
theorem dX6_meanCost_48 : decode cX6_meanCost 48 = .ok (.ifCond .eq 7, 3) := by decide +kernel
theorem dX6_meanCost_51 : decode cX6_meanCost 51 = .ok (.iconst 1, 1) := by decide +kernel
theorem dX6_meanCost_52 : decode cX6_meanCost 52 = .ok (.goto 4, 3) := by decide +kernel
theorem dX6_meanCost_55 : decode cX6_meanCost 55 = .ok (.iconst 0, 1) := by decide +kernel
theorem dX6_meanCost_56 : decode cX6_meanCost 56 = .ok (.iadd, 1) := by decide +kernel
theorem dX6_meanCost_57 : decode cX6_meanCost 57 = .ok (.istore_n 2, 1) := by decide +kernel
theorem dX6_meanCost_58 : decode cX6_meanCost 58 = .ok (.iinc 3 1, 3) := by decide +kernel
theorem dX6_meanCost_61 : decode cX6_meanCost 61 = .ok (.goto (-30), 3) := by decide +kernel
theorem dX6_meanCost_64 : decode cX6_meanCost 64 = .ok (.iload_n 1, 1) := by decide +kernel
theorem dX6_meanCost_65 : decode cX6_meanCost 65 = .ok (.iconst (-1), 1) := by decide +kernel
theorem dX6_meanCost_66 : decode cX6_meanCost 66 = .ok (.if_icmp .eq 7, 3) := by decide +kernel
theorem dX6_meanCost_69 : decode cX6_meanCost 69 = .ok (.iload_n 2, 1) := by decide +kernel
theorem dX6_meanCost_70 : decode cX6_meanCost 70 = .ok (.ifCond .ne 7, 3) := by decide +kernel
theorem dX6_meanCost_73 : decode cX6_meanCost 73 = .ok (.dconst 0, 1) := by decide +kernel
theorem dX6_meanCost_74 : decode cX6_meanCost 74 = .ok (.goto 8, 3) := by decide +kernel
theorem dX6_meanCost_77 : decode cX6_meanCost 77 = .ok (.iload_n 1, 1) := by decide +kernel
theorem dX6_meanCost_78 : decode cX6_meanCost 78 = .ok (.i2d, 1) := by decide +kernel
theorem dX6_meanCost_79 : decode cX6_meanCost 79 = .ok (.iload_n 2, 1) := by decide +kernel
theorem dX6_meanCost_80 : decode cX6_meanCost 80 = .ok (.i2d, 1) := by decide +kernel
theorem dX6_meanCost_81 : decode cX6_meanCost 81 = .ok (.ddiv, 1) := by decide +kernel
theorem dX6_meanCost_82 : decode cX6_meanCost 82 = .ok (.dreturn, 1) := by decide +kernel
theorem dX6_fingering_0 : decode cX6_fingering 0 = .ok (.aload_n 0, 1) := by decide +kernel
theorem dX6_fingering_1 : decode cX6_fingering 1 = .ok (.iload_n 1, 1) := by decide +kernel
theorem dX6_fingering_2 : decode cX6_fingering 2 = .ok (.invokevirtual 309, 3) := by decide +kernel
theorem dX6_fingering_5 : decode cX6_fingering 5 = .ok (.ifCond .ne 5, 3) := by decide +kernel
theorem dX6_fingering_8 : decode cX6_fingering 8 = .ok (.fconst 0, 1) := by decide +kernel
theorem dX6_fingering_9 : decode cX6_fingering 9 = .ok (.freturn, 1) := by decide +kernel
theorem dX6_fingering_10 : decode cX6_fingering 10 = .ok (.aload_n 0, 1) := by decide +kernel
theorem dX6_fingering_11 : decode cX6_fingering 11 = .ok (.invokevirtual 177, 3) := by decide +kernel
theorem dX6_fingering_14 : decode cX6_fingering 14 = .ok (.aload_n 0, 1) := by decide +kernel
theorem dX6_fingering_15 : decode cX6_fingering 15 = .ok (.invokevirtual 80, 3) := by decide +kernel
theorem dX6_fingering_18 : decode cX6_fingering 18 = .ok (.istore_n 2, 1) := by decide +kernel
theorem dX6_fingering_19 : decode cX6_fingering 19 = .ok (.iconst 0, 1) := by decide +kernel
theorem dX6_fingering_20 : decode cX6_fingering 20 = .ok (.istore_n 3, 1) := by decide +kernel
theorem dX6_fingering_21 : decode cX6_fingering 21 = .ok (.iconst 0, 1) := by decide +kernel
theorem dX6_fingering_22 : decode cX6_fingering 22 = .ok (.istore 4, 2) := by decide +kernel
theorem dX6_fingering_24 : decode cX6_fingering 24 = .ok (.iload 4, 2) := by decide +kernel
theorem dX6_fingering_26 : decode cX6_fingering 26 = .ok (.iload_n 2, 1) := by decide +kernel
theorem dX6_fingering_27 : decode cX6_fingering 27 = .ok (.if_icmp .ge 28, 3) := by decide +kernel
theorem dX6_fingering_30 : decode cX6_fingering 30 = .ok (.iload_n 3, 1) := by decide +kernel
theorem dX6_fingering_31 : decode cX6_fingering 31 = .ok (.aload_n 0, 1) := by decide +kernel
theorem dX6_fingering_32 : decode cX6_fingering 32 = .ok (.getfield 30, 3) := by decide +kernel
theorem dX6_fingering_35 : decode cX6_fingering 35 = .ok (.iload 4, 2) := by decide +kernel
theorem dX6_fingering_37 : decode cX6_fingering 37 = .ok (.iaload, 1) := by decide +kernel
theorem dX6_fingering_38 : decode cX6_fingering 38 = .ok (.iload_n 1, 1) := by decide +kernel
theorem dX6_fingering_39 : decode cX6_fingering 39 = .ok (.if_icmp .ne 7, 3) := by decide +kernel
theorem dX6_fingering_42 : decode cX6_fingering 42 = .ok (.iconst 1, 1) := by decide +kernel
theorem dX6_fingering_43 : decode cX6_fingering 43 = .ok (.goto 4, 3) := by decide +kernel
theorem dX6_fingering_46 : decode cX6_fingering 46 = .ok (.iconst 0, 1) := by decide +kernel
theorem dX6_fingering_47 : decode cX6_fingering 47 = .ok (.iadd, 1) := by decide +kernel
theorem dX6_fingering_48 : decode cX6_fingering 48 = .ok (.istore_n 3, 1) := by decide +kernel
theorem dX6_fingering_49 : decode cX6_fingering 49 = .ok (.iinc 4 1, 3) := by decide +kernel
theorem dX6_fingering_52 : decode cX6_fingering 52 = .ok (.goto (-28), 3) := by decide +kernel
theorem dX6_fingering_55 : decode cX6_fingering 55 = .ok (.iload_n 3, 1) := by decide +kernel
theorem dX6_fingering_56 : decode cX6_fingering 56 = .ok (.ifCond .ne 7, 3) := by decide +kernel
theorem dX6_fingering_59 : decode cX6_fingering 59 = .ok (.fconst 0, 1) := by decide +kernel
theorem dX6_fingering_60 : decode cX6_fingering 60 = .ok (.goto 12, 3) := by decide +kernel
theorem dX6_fingering_63 : decode cX6_fingering 63 = .ok (.aload_n 0, 1) := by decide +kernel
theorem dX6_fingering_64 : decode cX6_fingering 64 = .ok (.iload_n 1, 1) := by decide +kernel
theorem dX6_fingering_65 : decode cX6_fingering 65 = .ok (.invokevirtual 312, 3) := by decide +kernel
theorem dX6_fingering_68 : decode cX6_fingering 68 = .ok (.i2f, 1) := by decide +kernel
theorem dX6_fingering_69 : decode cX6_fingering 69 = .ok (.iload_n 3, 1) := by decide +kernel
theorem dX6_fingering_70 : decode cX6_fingering 70 = .ok (.i2f, 1) := by decide +kernel
theorem dX6_fingering_71 : decode cX6_fingering 71 = .ok (.fdiv, 1) := by decide +kernel
theorem dX6_fingering_72 : decode cX6_fingering 72 = .ok (.freturn, 1) := by decide +kernel
theorem dX6_writes_0 : decode cX6_writes 0 = .ok (.aload_n 0, 1) := by decide +kernel
theorem dX6_writes_1 : decode cX6_writes 1 = .ok (.getfield 59, 3) := by decide +kernel
theorem dX6_writes_4 : decode cX6_writes 4 = .ok (.aload_n 0, 1) := by decide +kernel
theorem dX6_writes_5 : decode cX6_writes 5 = .ok (.getfield 382, 3) := by decide +kernel
theorem dX6_writes_8 : decode cX6_writes 8 = .ok (.iload_n 1, 1) := by decide +kernel
theorem dX6_writes_9 : decode cX6_writes 9 = .ok (.iastore, 1) := by decide +kernel
theorem dX6_writes_10 : decode cX6_writes 10 = .ok (.aload_n 0, 1) := by decide +kernel
theorem dX6_writes_11 : decode cX6_writes 11 = .ok (.dup, 1) := by decide +kernel
theorem dX6_writes_12 : decode cX6_writes 12 = .ok (.getfield 382, 3) := by decide +kernel
theorem dX6_writes_15 : decode cX6_writes 15 = .ok (.iconst 1, 1) := by decide +kernel
theorem dX6_writes_16 : decode cX6_writes 16 = .ok (.iadd, 1) := by decide +kernel
theorem dX6_writes_17 : decode cX6_writes 17 = .ok (.putfield 382, 3) := by decide +kernel
theorem dX6_writes_20 : decode cX6_writes 20 = .ok (.return_, 1) := by decide +kernel
theorem dX6_writePlay_0 : decode cX6_writePlay 0 = .ok (.aload_n 0, 1) := by decide +kernel
theorem dX6_writePlay_1 : decode cX6_writePlay 1 = .ok (.iload_n 1, 1) := by decide +kernel
theorem dX6_writePlay_2 : decode cX6_writePlay 2 = .ok (.invokevirtual 300, 3) := by decide +kernel
theorem dX6_writePlay_5 : decode cX6_writePlay 5 = .ok (.ifCond .ne 5, 3) := by decide +kernel
theorem dX6_writePlay_8 : decode cX6_writePlay 8 = .ok (.iconst 0, 1) := by decide +kernel
theorem dX6_writePlay_9 : decode cX6_writePlay 9 = .ok (.ireturn, 1) := by decide +kernel
theorem dX6_writePlay_10 : decode cX6_writePlay 10 = .ok (.aload_n 0, 1) := by decide +kernel
theorem dX6_writePlay_11 : decode cX6_writePlay 11 = .ok (.iconst 0, 1) := by decide +kernel
theorem dX6_writePlay_12 : decode cX6_writePlay 12 = .ok (.putfield 382, 3) := by decide +kernel
theorem dX6_writePlay_15 : decode cX6_writePlay 15 = .ok (.iconst 0, 1) := by decide +kernel
theorem dX6_writePlay_16 : decode cX6_writePlay 16 = .ok (.istore_n 2, 1) := by decide +kernel
theorem dX6_writePlay_17 : decode cX6_writePlay 17 = .ok (.iload_n 2, 1) := by decide +kernel
theorem dX6_writePlay_18 : decode cX6_writePlay 18 = .ok (.aload_n 0, 1) := by decide +kernel
theorem dX6_writePlay_19 : decode cX6_writePlay 19 = .ok (.getfield 7, 3) := by decide +kernel
theorem dX6_writePlay_22 : decode cX6_writePlay 22 = .ok (.iconst 3, 1) := by decide +kernel
theorem dX6_writePlay_23 : decode cX6_writePlay 23 = .ok (.iaload, 1) := by decide +kernel
theorem dX6_writePlay_24 : decode cX6_writePlay 24 = .ok (.if_icmp .ge 41, 3) := by decide +kernel
theorem dX6_writePlay_27 : decode cX6_writePlay 27 = .ok (.aload_n 0, 1) := by decide +kernel
theorem dX6_writePlay_28 : decode cX6_writePlay 28 = .ok (.iload_n 1, 1) := by decide +kernel
theorem dX6_writePlay_29 : decode cX6_writePlay 29 = .ok (.iload_n 2, 1) := by decide +kernel
theorem dX6_writePlay_30 : decode cX6_writePlay 30 = .ok (.invokevirtual 90, 3) := by decide +kernel
theorem dX6_writePlay_33 : decode cX6_writePlay 33 = .ok (.istore_n 3, 1) := by decide +kernel
theorem dX6_writePlay_34 : decode cX6_writePlay 34 = .ok (.aload_n 0, 1) := by decide +kernel
theorem dX6_writePlay_35 : decode cX6_writePlay 35 = .ok (.iload_n 3, 1) := by decide +kernel
theorem dX6_writePlay_36 : decode cX6_writePlay 36 = .ok (.ifCond .ne 8, 3) := by decide +kernel
theorem dX6_writePlay_39 : decode cX6_writePlay 39 = .ok (.bipush 111, 2) := by decide +kernel
theorem dX6_writePlay_41 : decode cX6_writePlay 41 = .ok (.goto 15, 3) := by decide +kernel
theorem dX6_writePlay_44 : decode cX6_writePlay 44 = .ok (.iload_n 3, 1) := by decide +kernel
theorem dX6_writePlay_45 : decode cX6_writePlay 45 = .ok (.iconst 1, 1) := by decide +kernel
theorem dX6_writePlay_46 : decode cX6_writePlay 46 = .ok (.if_icmp .ne 8, 3) := by decide +kernel
theorem dX6_writePlay_49 : decode cX6_writePlay 49 = .ok (.bipush 104, 2) := by decide +kernel
theorem dX6_writePlay_51 : decode cX6_writePlay 51 = .ok (.goto 5, 3) := by decide +kernel
theorem dX6_writePlay_54 : decode cX6_writePlay 54 = .ok (.bipush 120, 2) := by decide +kernel
theorem dX6_writePlay_56 : decode cX6_writePlay 56 = .ok (.invokevirtual 385, 3) := by decide +kernel
theorem dX6_writePlay_59 : decode cX6_writePlay 59 = .ok (.iinc 2 1, 3) := by decide +kernel
theorem dX6_writePlay_62 : decode cX6_writePlay 62 = .ok (.goto (-45), 3) := by decide +kernel
theorem dX6_writePlay_65 : decode cX6_writePlay 65 = .ok (.aload_n 0, 1) := by decide +kernel
theorem dX6_writePlay_66 : decode cX6_writePlay 66 = .ok (.iload_n 1, 1) := by decide +kernel
theorem dX6_writePlay_67 : decode cX6_writePlay 67 = .ok (.invokevirtual 120, 3) := by decide +kernel
theorem dX6_writePlay_70 : decode cX6_writePlay 70 = .ok (.ifCond .eq 9, 3) := by decide +kernel
theorem dX6_writePlay_73 : decode cX6_writePlay 73 = .ok (.aload_n 0, 1) := by decide +kernel
theorem dX6_writePlay_74 : decode cX6_writePlay 74 = .ok (.bipush 43, 2) := by decide +kernel
theorem dX6_writePlay_76 : decode cX6_writePlay 76 = .ok (.invokevirtual 385, 3) := by decide +kernel
theorem dX6_writePlay_79 : decode cX6_writePlay 79 = .ok (.aload_n 0, 1) := by decide +kernel
theorem dX6_writePlay_80 : decode cX6_writePlay 80 = .ok (.getfield 382, 3) := by decide +kernel
theorem dX6_writePlay_83 : decode cX6_writePlay 83 = .ok (.ireturn, 1) := by decide +kernel
theorem dX6_writesTone_0 : decode cX6_writesTone 0 = .ok (.iload_n 1, 1) := by decide +kernel
theorem dX6_writesTone_1 : decode cX6_writesTone 1 = .ok (.iconst (-1), 1) := by decide +kernel
theorem dX6_writesTone_2 : decode cX6_writesTone 2 = .ok (.if_icmp .ne 10, 3) := by decide +kernel
theorem dX6_writesTone_5 : decode cX6_writesTone 5 = .ok (.aload_n 0, 1) := by decide +kernel
theorem dX6_writesTone_6 : decode cX6_writesTone 6 = .ok (.bipush 114, 2) := by decide +kernel
theorem dX6_writesTone_8 : decode cX6_writesTone 8 = .ok (.invokevirtual 385, 3) := by decide +kernel
theorem dX6_writesTone_11 : decode cX6_writesTone 11 = .ok (.return_, 1) := by decide +kernel
theorem dX6_writesTone_12 : decode cX6_writesTone 12 = .ok (.iload_n 1, 1) := by decide +kernel
theorem dX6_writesTone_13 : decode cX6_writesTone 13 = .ok (.bipush 9, 2) := by decide +kernel
theorem dX6_writesTone_15 : decode cX6_writesTone 15 = .ok (.if_icmp .le 14, 3) := by decide +kernel
theorem dX6_writesTone_18 : decode cX6_writesTone 18 = .ok (.aload_n 0, 1) := by decide +kernel
theorem dX6_writesTone_19 : decode cX6_writesTone 19 = .ok (.bipush 48, 2) := by decide +kernel
theorem dX6_writesTone_21 : decode cX6_writesTone 21 = .ok (.iload_n 1, 1) := by decide +kernel
theorem dX6_writesTone_22 : decode cX6_writesTone 22 = .ok (.bipush 10, 2) := by decide +kernel
theorem dX6_writesTone_24 : decode cX6_writesTone 24 = .ok (.idiv, 1) := by decide +kernel
theorem dX6_writesTone_25 : decode cX6_writesTone 25 = .ok (.iadd, 1) := by decide +kernel
theorem dX6_writesTone_26 : decode cX6_writesTone 26 = .ok (.invokevirtual 385, 3) := by decide +kernel
theorem dX6_writesTone_29 : decode cX6_writesTone 29 = .ok (.aload_n 0, 1) := by decide +kernel
theorem dX6_writesTone_30 : decode cX6_writesTone 30 = .ok (.bipush 48, 2) := by decide +kernel
theorem dX6_writesTone_32 : decode cX6_writesTone 32 = .ok (.iload_n 1, 1) := by decide +kernel
theorem dX6_writesTone_33 : decode cX6_writesTone 33 = .ok (.bipush 10, 2) := by decide +kernel
theorem dX6_writesTone_35 : decode cX6_writesTone 35 = .ok (.irem, 1) := by decide +kernel
theorem dX6_writesTone_36 : decode cX6_writesTone 36 = .ok (.iadd, 1) := by decide +kernel
theorem dX6_writesTone_37 : decode cX6_writesTone 37 = .ok (.invokevirtual 385, 3) := by decide +kernel
theorem dX6_writesTone_40 : decode cX6_writesTone 40 = .ok (.return_, 1) := by decide +kernel
theorem dX6_writeTune_0 : decode cX6_writeTune 0 = .ok (.aload_n 0, 1) := by decide +kernel
theorem dX6_writeTune_1 : decode cX6_writeTune 1 = .ok (.iconst 0, 1) := by decide +kernel
theorem dX6_writeTune_2 : decode cX6_writeTune 2 = .ok (.putfield 66, 3) := by decide +kernel
theorem dX6_writeTune_5 : decode cX6_writeTune 5 = .ok (.aload_n 0, 1) := by decide +kernel
theorem dX6_writeTune_6 : decode cX6_writeTune 6 = .ok (.iconst 0, 1) := by decide +kernel
theorem dX6_writeTune_7 : decode cX6_writeTune 7 = .ok (.putfield 382, 3) := by decide +kernel
theorem dX6_writeTune_10 : decode cX6_writeTune 10 = .ok (.iconst 0, 1) := by decide +kernel
theorem dX6_writeTune_11 : decode cX6_writeTune 11 = .ok (.istore_n 1, 1) := by decide +kernel
theorem dX6_writeTune_12 : decode cX6_writeTune 12 = .ok (.iload_n 1, 1) := by decide +kernel
theorem dX6_writeTune_13 : decode cX6_writeTune 13 = .ok (.aload_n 0, 1) := by decide +kernel
theorem dX6_writeTune_14 : decode cX6_writeTune 14 = .ok (.getfield 7, 3) := by decide +kernel
theorem dX6_writeTune_17 : decode cX6_writeTune 17 = .ok (.bipush 9, 2) := by decide +kernel
theorem dX6_writeTune_19 : decode cX6_writeTune 19 = .ok (.iaload, 1) := by decide +kernel
theorem dX6_writeTune_20 : decode cX6_writeTune 20 = .ok (.if_icmp .ge 28, 3) := by decide +kernel
theorem dX6_writeTune_23 : decode cX6_writeTune 23 = .ok (.iload_n 1, 1) := by decide +kernel
theorem dX6_writeTune_24 : decode cX6_writeTune 24 = .ok (.ifCond .le 9, 3) := by decide +kernel
theorem dX6_writeTune_27 : decode cX6_writeTune 27 = .ok (.aload_n 0, 1) := by decide +kernel
theorem dX6_writeTune_28 : decode cX6_writeTune 28 = .ok (.bipush 32, 2) := by decide +kernel
theorem dX6_writeTune_30 : decode cX6_writeTune 30 = .ok (.invokevirtual 385, 3) := by decide +kernel
theorem dX6_writeTune_33 : decode cX6_writeTune 33 = .ok (.aload_n 0, 1) := by decide +kernel
theorem dX6_writeTune_34 : decode cX6_writeTune 34 = .ok (.aload_n 0, 1) := by decide +kernel
theorem dX6_writeTune_35 : decode cX6_writeTune 35 = .ok (.iload_n 1, 1) := by decide +kernel
theorem dX6_writeTune_36 : decode cX6_writeTune 36 = .ok (.invokevirtual 143, 3) := by decide +kernel
theorem dX6_writeTune_39 : decode cX6_writeTune 39 = .ok (.invokevirtual 388, 3) := by decide +kernel
theorem dX6_writeTune_42 : decode cX6_writeTune 42 = .ok (.iinc 1 1, 3) := by decide +kernel
theorem dX6_writeTune_45 : decode cX6_writeTune 45 = .ok (.goto (-33), 3) := by decide +kernel
theorem dX6_writeTune_48 : decode cX6_writeTune 48 = .ok (.aload_n 0, 1) := by decide +kernel
theorem dX6_writeTune_49 : decode cX6_writeTune 49 = .ok (.getfield 382, 3) := by decide +kernel
theorem dX6_writeTune_52 : decode cX6_writeTune 52 = .ok (.ireturn, 1) := by decide +kernel
theorem dX6_outputByte_0 : decode cX6_outputByte 0 = .ok (.aload_n 0, 1) := by decide +kernel
theorem dX6_outputByte_1 : decode cX6_outputByte 1 = .ok (.iconst 0, 1) := by decide +kernel
theorem dX6_outputByte_2 : decode cX6_outputByte 2 = .ok (.putfield 66, 3) := by decide +kernel
theorem dX6_outputByte_5 : decode cX6_outputByte 5 = .ok (.iload_n 1, 1) := by decide +kernel
theorem dX6_outputByte_6 : decode cX6_outputByte 6 = .ok (.i2l, 1) := by decide +kernel
theorem dX6_outputByte_7 : decode cX6_outputByte 7 = .ok (.lconst 0, 1) := by decide +kernel
theorem dX6_outputByte_8 : decode cX6_outputByte 8 = .ok (.aload_n 0, 1) := by decide +kernel
theorem dX6_outputByte_9 : decode cX6_outputByte 9 = .ok (.getfield 382, 3) := by decide +kernel
theorem dX6_outputByte_12 : decode cX6_outputByte 12 = .ok (.iconst 1, 1) := by decide +kernel
theorem dX6_outputByte_13 : decode cX6_outputByte 13 = .ok (.isub, 1) := by decide +kernel
theorem dX6_outputByte_14 : decode cX6_outputByte 14 = .ok (.i2l, 1) := by decide +kernel
theorem dX6_outputByte_15 : decode cX6_outputByte 15 = .ok (.invokestatic 83, 3) := by decide +kernel
theorem dX6_outputByte_18 : decode cX6_outputByte 18 = .ok (.ifCond .eq 12, 3) := by decide +kernel
theorem dX6_outputByte_21 : decode cX6_outputByte 21 = .ok (.aload_n 0, 1) := by decide +kernel
theorem dX6_outputByte_22 : decode cX6_outputByte 22 = .ok (.getfield 59, 3) := by decide +kernel
theorem dX6_outputByte_25 : decode cX6_outputByte 25 = .ok (.iload_n 1, 1) := by decide +kernel
theorem dX6_outputByte_26 : decode cX6_outputByte 26 = .ok (.iaload, 1) := by decide +kernel
theorem dX6_outputByte_27 : decode cX6_outputByte 27 = .ok (.goto 4, 3) := by decide +kernel
theorem dX6_outputByte_30 : decode cX6_outputByte 30 = .ok (.iconst (-1), 1) := by decide +kernel
theorem dX6_outputByte_31 : decode cX6_outputByte 31 = .ok (.ireturn, 1) := by decide +kernel
theorem dX6_undo_0 : decode cX6_undo 0 = .ok (.aload_n 0, 1) := by decide +kernel
theorem dX6_undo_1 : decode cX6_undo 1 = .ok (.iconst 0, 1) := by decide +kernel
theorem dX6_undo_2 : decode cX6_undo 2 = .ok (.putfield 66, 3) := by decide +kernel
theorem dX6_undo_5 : decode cX6_undo 5 = .ok (.aload_n 0, 1) := by decide +kernel
theorem dX6_undo_6 : decode cX6_undo 6 = .ok (.getfield 69, 3) := by decide +kernel
theorem dX6_undo_9 : decode cX6_undo 9 = .ok (.ifCond .ne 5, 3) := by decide +kernel
theorem dX6_undo_12 : decode cX6_undo 12 = .ok (.iconst (-1), 1) := by decide +kernel
theorem dX6_undo_13 : decode cX6_undo 13 = .ok (.ireturn, 1) := by decide +kernel
theorem dX6_undo_14 : decode cX6_undo 14 = .ok (.aload_n 0, 1) := by decide +kernel
theorem dX6_undo_15 : decode cX6_undo 15 = .ok (.dup, 1) := by decide +kernel
theorem dX6_undo_16 : decode cX6_undo 16 = .ok (.getfield 69, 3) := by decide +kernel
theorem dX6_undo_19 : decode cX6_undo 19 = .ok (.iconst 1, 1) := by decide +kernel
theorem dX6_undo_20 : decode cX6_undo 20 = .ok (.isub, 1) := by decide +kernel
theorem dX6_undo_21 : decode cX6_undo 21 = .ok (.putfield 69, 3) := by decide +kernel
theorem dX6_undo_24 : decode cX6_undo 24 = .ok (.aload_n 0, 1) := by decide +kernel
theorem dX6_undo_25 : decode cX6_undo 25 = .ok (.getfield 16, 3) := by decide +kernel
theorem dX6_undo_28 : decode cX6_undo 28 = .ok (.bipush 67, 2) := by decide +kernel
theorem dX6_undo_30 : decode cX6_undo 30 = .ok (.aload_n 0, 1) := by decide +kernel
theorem dX6_undo_31 : decode cX6_undo 31 = .ok (.getfield 69, 3) := by decide +kernel
theorem dX6_undo_34 : decode cX6_undo 34 = .ok (.imul, 1) := by decide +kernel
theorem dX6_undo_35 : decode cX6_undo 35 = .ok (.aload_n 0, 1) := by decide +kernel
theorem dX6_undo_36 : decode cX6_undo 36 = .ok (.getfield 7, 3) := by decide +kernel
theorem dX6_undo_39 : decode cX6_undo 39 = .ok (.iconst 0, 1) := by decide +kernel
theorem dX6_undo_40 : decode cX6_undo 40 = .ok (.invokestatic 72, 3) := by decide +kernel
theorem dX6_undo_43 : decode cX6_undo 43 = .ok (.aload_n 0, 1) := by decide +kernel
theorem dX6_undo_44 : decode cX6_undo 44 = .ok (.getfield 69, 3) := by decide +kernel
theorem dX6_undo_47 : decode cX6_undo 47 = .ok (.ireturn, 1) := by decide +kernel
theorem dX6_saveSnapshot_0 : decode cX6_saveSnapshot 0 = .ok (.aload_n 0, 1) := by decide +kernel
theorem dX6_saveSnapshot_1 : decode cX6_saveSnapshot 1 = .ok (.iload_n 1, 1) := by decide +kernel
theorem dX6_saveSnapshot_2 : decode cX6_saveSnapshot 2 = .ok (.i2l, 1) := by decide +kernel
theorem dX6_saveSnapshot_3 : decode cX6_saveSnapshot 3 = .ok (.lconst 0, 1) := by decide +kernel
theorem dX6_saveSnapshot_4 : decode cX6_saveSnapshot 4 = .ok (.lconst 1, 1) := by decide +kernel
theorem dX6_saveSnapshot_5 : decode cX6_saveSnapshot 5 = .ok (.invokestatic 83, 3) := by decide +kernel
theorem dX6_saveSnapshot_8 : decode cX6_saveSnapshot 8 = .ok (.iconst 1, 1) := by decide +kernel
theorem dX6_saveSnapshot_9 : decode cX6_saveSnapshot 9 = .ok (.invokevirtual 285, 3) := by decide +kernel
theorem dX6_saveSnapshot_12 : decode cX6_saveSnapshot 12 = .ok (.ifCond .ne 5, 3) := by decide +kernel
theorem dX6_saveSnapshot_15 : decode cX6_saveSnapshot 15 = .ok (.iconst 0, 1) := by decide +kernel
theorem dX6_saveSnapshot_16 : decode cX6_saveSnapshot 16 = .ok (.ireturn, 1) := by decide +kernel
theorem dX6_saveSnapshot_17 : decode cX6_saveSnapshot 17 = .ok (.aload_n 0, 1) := by decide +kernel
theorem dX6_saveSnapshot_18 : decode cX6_saveSnapshot 18 = .ok (.getfield 7, 3) := by decide +kernel
theorem dX6_saveSnapshot_21 : decode cX6_saveSnapshot 21 = .ok (.iconst 0, 1) := by decide +kernel
theorem dX6_saveSnapshot_22 : decode cX6_saveSnapshot 22 = .ok (.aload_n 0, 1) := by decide +kernel
theorem dX6_saveSnapshot_23 : decode cX6_saveSnapshot 23 = .ok (.getfield 19, 3) := by decide +kernel
theorem dX6_saveSnapshot_26 : decode cX6_saveSnapshot 26 = .ok (.bipush 67, 2) := by decide +kernel
theorem dX6_saveSnapshot_28 : decode cX6_saveSnapshot 28 = .ok (.iload_n 1, 1) := by decide +kernel
theorem dX6_saveSnapshot_29 : decode cX6_saveSnapshot 29 = .ok (.imul, 1) := by decide +kernel
theorem dX6_saveSnapshot_30 : decode cX6_saveSnapshot 30 = .ok (.invokestatic 72, 3) := by decide +kernel
theorem dX6_saveSnapshot_33 : decode cX6_saveSnapshot 33 = .ok (.aload_n 0, 1) := by decide +kernel
theorem dX6_saveSnapshot_34 : decode cX6_saveSnapshot 34 = .ok (.getfield 22, 3) := by decide +kernel
theorem dX6_saveSnapshot_37 : decode cX6_saveSnapshot 37 = .ok (.iload_n 1, 1) := by decide +kernel
theorem dX6_saveSnapshot_38 : decode cX6_saveSnapshot 38 = .ok (.iconst 1, 1) := by decide +kernel
theorem dX6_saveSnapshot_39 : decode cX6_saveSnapshot 39 = .ok (.bastore, 1) := by decide +kernel
theorem dX6_saveSnapshot_40 : decode cX6_saveSnapshot 40 = .ok (.aload_n 0, 1) := by decide +kernel
theorem dX6_saveSnapshot_41 : decode cX6_saveSnapshot 41 = .ok (.getfield 7, 3) := by decide +kernel
theorem dX6_saveSnapshot_44 : decode cX6_saveSnapshot 44 = .ok (.bipush 9, 2) := by decide +kernel
theorem dX6_saveSnapshot_46 : decode cX6_saveSnapshot 46 = .ok (.iaload, 1) := by decide +kernel
theorem dX6_saveSnapshot_47 : decode cX6_saveSnapshot 47 = .ok (.ireturn, 1) := by decide +kernel
theorem dX6_restoreSnapshot_0 : decode cX6_restoreSnapshot 0 = .ok (.aload_n 0, 1) := by decide +kernel
theorem dX6_restoreSnapshot_1 : decode cX6_restoreSnapshot 1 = .ok (.iload_n 1, 1) := by decide +kernel
theorem dX6_restoreSnapshot_2 : decode cX6_restoreSnapshot 2 = .ok (.i2l, 1) := by decide +kernel
theorem dX6_restoreSnapshot_3 : decode cX6_restoreSnapshot 3 = .ok (.lconst 0, 1) := by decide +kernel
theorem dX6_restoreSnapshot_4 : decode cX6_restoreSnapshot 4 = .ok (.lconst 1, 1) := by decide +kernel
theorem dX6_restoreSnapshot_5 : decode cX6_restoreSnapshot 5 = .ok (.invokestatic 83, 3) := by decide +kernel
theorem dX6_restoreSnapshot_8 : decode cX6_restoreSnapshot 8 = .ok (.iconst 1, 1) := by decide +kernel
theorem dX6_restoreSnapshot_9 : decode cX6_restoreSnapshot 9 = .ok (.invokevirtual 285, 3) := by decide +kernel
theorem dX6_restoreSnapshot_12 : decode cX6_restoreSnapshot 12 = .ok (.ifCond .ne 5, 3) := by decide +kernel
theorem dX6_restoreSnapshot_15 : decode cX6_restoreSnapshot 15 = .ok (.iconst 0, 1) := by decide +kernel
theorem dX6_restoreSnapshot_16 : decode cX6_restoreSnapshot 16 = .ok (.ireturn, 1) := by decide +kernel
theorem dX6_restoreSnapshot_17 : decode cX6_restoreSnapshot 17 = .ok (.aload_n 0, 1) := by decide +kernel
theorem dX6_restoreSnapshot_18 : decode cX6_restoreSnapshot 18 = .ok (.getfield 22, 3) := by decide +kernel
theorem dX6_restoreSnapshot_21 : decode cX6_restoreSnapshot 21 = .ok (.iload_n 1, 1) := by decide +kernel
theorem dX6_restoreSnapshot_22 : decode cX6_restoreSnapshot 22 = .ok (.baload, 1) := by decide +kernel
theorem dX6_restoreSnapshot_23 : decode cX6_restoreSnapshot 23 = .ok (.ifCond .ne 5, 3) := by decide +kernel
theorem dX6_restoreSnapshot_26 : decode cX6_restoreSnapshot 26 = .ok (.iconst (-1), 1) := by decide +kernel
theorem dX6_restoreSnapshot_27 : decode cX6_restoreSnapshot 27 = .ok (.ireturn, 1) := by decide +kernel
theorem dX6_restoreSnapshot_28 : decode cX6_restoreSnapshot 28 = .ok (.aload_n 0, 1) := by decide +kernel
theorem dX6_restoreSnapshot_29 : decode cX6_restoreSnapshot 29 = .ok (.getfield 19, 3) := by decide +kernel
theorem dX6_restoreSnapshot_32 : decode cX6_restoreSnapshot 32 = .ok (.bipush 67, 2) := by decide +kernel
theorem dX6_restoreSnapshot_34 : decode cX6_restoreSnapshot 34 = .ok (.iload_n 1, 1) := by decide +kernel
theorem dX6_restoreSnapshot_35 : decode cX6_restoreSnapshot 35 = .ok (.imul, 1) := by decide +kernel
theorem dX6_restoreSnapshot_36 : decode cX6_restoreSnapshot 36 = .ok (.aload_n 0, 1) := by decide +kernel
theorem dX6_restoreSnapshot_37 : decode cX6_restoreSnapshot 37 = .ok (.getfield 7, 3) := by decide +kernel
theorem dX6_restoreSnapshot_40 : decode cX6_restoreSnapshot 40 = .ok (.iconst 0, 1) := by decide +kernel
theorem dX6_restoreSnapshot_41 : decode cX6_restoreSnapshot 41 = .ok (.invokestatic 72, 3) := by decide +kernel
theorem dX6_restoreSnapshot_44 : decode cX6_restoreSnapshot 44 = .ok (.aload_n 0, 1) := by decide +kernel
theorem dX6_restoreSnapshot_45 : decode cX6_restoreSnapshot 45 = .ok (.iconst 0, 1) := by decide +kernel
theorem dX6_restoreSnapshot_46 : decode cX6_restoreSnapshot 46 = .ok (.putfield 69, 3) := by decide +kernel
theorem dX6_restoreSnapshot_49 : decode cX6_restoreSnapshot 49 = .ok (.aload_n 0, 1) := by decide +kernel
theorem dX6_restoreSnapshot_50 : decode cX6_restoreSnapshot 50 = .ok (.getfield 7, 3) := by decide +kernel
theorem dX6_restoreSnapshot_53 : decode cX6_restoreSnapshot 53 = .ok (.bipush 9, 2) := by decide +kernel
theorem dX6_restoreSnapshot_55 : decode cX6_restoreSnapshot 55 = .ok (.iaload, 1) := by decide +kernel
theorem dX6_restoreSnapshot_56 : decode cX6_restoreSnapshot 56 = .ok (.ireturn, 1) := by decide +kernel
