theorem dL_size_0 : decode cL_size 0 = .ok (.aload_n 2, 1) := by decide +kernel
theorem dL_size_1 : decode cL_size 1 = .ok (.iconst 0, 1) := by decide +kernel
theorem dL_size_2 : decode cL_size 2 = .ok (.aload_n 0, 1) := by decide +kernel
theorem dL_size_3 : decode cL_size 3 = .ok (.iload_n 1, 1) := by decide +kernel
theorem dL_size_4 : decode cL_size 4 = .ok (.invokevirtual 7, 3) := by decide +kernel
theorem dL_size_7 : decode cL_size 7 = .ok (.i2l, 1) := by decide +kernel
theorem dL_size_8 : decode cL_size 8 = .ok (.lastore, 1) := by decide +kernel
theorem dL_size_9 : decode cL_size 9 = .ok (.goto 6, 3) := by decide +kernel
theorem dL_size_12 : decode cL_size 12 = .ok (.astore_n 3, 1) := by decide +kernel
theorem dL_size_13 : decode cL_size 13 = .ok (.iconst 1, 1) := by decide +kernel
theorem dL_size_14 : decode cL_size 14 = .ok (.ireturn, 1) := by decide +kernel
theorem dL_size_15 : decode cL_size 15 = .ok (.iconst 0, 1) := by decide +kernel
theorem dL_size_16 : decode cL_size 16 = .ok (.ireturn, 1) := by decide +kernel
theorem dL_hole_0 : decode cL_hole 0 = .ok (.aload_n 3, 1) := by decide +kernel
theorem dL_hole_1 : decode cL_hole 1 = .ok (.iconst 0, 1) := by decide +kernel
theorem dL_hole_2 : decode cL_hole 2 = .ok (.aload_n 0, 1) := by decide +kernel
theorem dL_hole_3 : decode cL_hole 3 = .ok (.iload_n 1, 1) := by decide +kernel
theorem dL_hole_4 : decode cL_hole 4 = .ok (.iload_n 2, 1) := by decide +kernel
theorem dL_hole_5 : decode cL_hole 5 = .ok (.invokevirtual 15, 3) := by decide +kernel
theorem dL_hole_8 : decode cL_hole 8 = .ok (.i2l, 1) := by decide +kernel
theorem dL_hole_9 : decode cL_hole 9 = .ok (.lastore, 1) := by decide +kernel
theorem dL_hole_10 : decode cL_hole 10 = .ok (.goto 11, 3) := by decide +kernel
theorem dL_hole_13 : decode cL_hole 13 = .ok (.astore 4, 2) := by decide +kernel
theorem dL_hole_15 : decode cL_hole 15 = .ok (.iconst 1, 1) := by decide +kernel
theorem dL_hole_16 : decode cL_hole 16 = .ok (.ireturn, 1) := by decide +kernel
theorem dL_hole_17 : decode cL_hole 17 = .ok (.astore 4, 2) := by decide +kernel
theorem dL_hole_19 : decode cL_hole 19 = .ok (.iconst 2, 1) := by decide +kernel
theorem dL_hole_20 : decode cL_hole 20 = .ok (.ireturn, 1) := by decide +kernel
theorem dL_hole_21 : decode cL_hole 21 = .ok (.iconst 0, 1) := by decide +kernel
theorem dL_hole_22 : decode cL_hole 22 = .ok (.ireturn, 1) := by decide +kernel
theorem dL_covered_0 : decode cL_covered 0 = .ok (.aload_n 3, 1) := by decide +kernel
theorem dL_covered_1 : decode cL_covered 1 = .ok (.iconst 0, 1) := by decide +kernel
theorem dL_covered_2 : decode cL_covered 2 = .ok (.aload_n 0, 1) := by decide +kernel
theorem dL_covered_3 : decode cL_covered 3 = .ok (.iload_n 1, 1) := by decide +kernel
theorem dL_covered_4 : decode cL_covered 4 = .ok (.iload_n 2, 1) := by decide +kernel
theorem dL_covered_5 : decode cL_covered 5 = .ok (.invokevirtual 21, 3) := by decide +kernel
theorem dL_covered_8 : decode cL_covered 8 = .ok (.i2l, 1) := by decide +kernel
theorem dL_covered_9 : decode cL_covered 9 = .ok (.lastore, 1) := by decide +kernel
theorem dL_covered_10 : decode cL_covered 10 = .ok (.goto 7, 3) := by decide +kernel
theorem dL_covered_13 : decode cL_covered 13 = .ok (.astore 4, 2) := by decide +kernel
theorem dL_covered_15 : decode cL_covered 15 = .ok (.iconst 1, 1) := by decide +kernel
theorem dL_covered_16 : decode cL_covered 16 = .ok (.ireturn, 1) := by decide +kernel
theorem dL_covered_17 : decode cL_covered 17 = .ok (.iconst 0, 1) := by decide +kernel
theorem dL_covered_18 : decode cL_covered 18 = .ok (.ireturn, 1) := by decide +kernel
theorem dL_sounding_0 : decode cL_sounding 0 = .ok (.aload_n 2, 1) := by decide +kernel
theorem dL_sounding_1 : decode cL_sounding 1 = .ok (.iconst 0, 1) := by decide +kernel
theorem dL_sounding_2 : decode cL_sounding 2 = .ok (.aload_n 0, 1) := by decide +kernel
theorem dL_sounding_3 : decode cL_sounding 3 = .ok (.iload_n 1, 1) := by decide +kernel
theorem dL_sounding_4 : decode cL_sounding 4 = .ok (.invokevirtual 24, 3) := by decide +kernel
theorem dL_sounding_7 : decode cL_sounding 7 = .ok (.i2l, 1) := by decide +kernel
theorem dL_sounding_8 : decode cL_sounding 8 = .ok (.lastore, 1) := by decide +kernel
theorem dL_sounding_9 : decode cL_sounding 9 = .ok (.goto 6, 3) := by decide +kernel
theorem dL_sounding_12 : decode cL_sounding 12 = .ok (.astore_n 3, 1) := by decide +kernel
theorem dL_sounding_13 : decode cL_sounding 13 = .ok (.iconst 1, 1) := by decide +kernel
theorem dL_sounding_14 : decode cL_sounding 14 = .ok (.ireturn, 1) := by decide +kernel
theorem dL_sounding_15 : decode cL_sounding 15 = .ok (.iconst 0, 1) := by decide +kernel
theorem dL_sounding_16 : decode cL_sounding 16 = .ok (.ireturn, 1) := by decide +kernel
theorem dL_cents_0 : decode cL_cents 0 = .ok (.aload_n 2, 1) := by decide +kernel
theorem dL_cents_1 : decode cL_cents 1 = .ok (.iconst 0, 1) := by decide +kernel
theorem dL_cents_2 : decode cL_cents 2 = .ok (.aload_n 0, 1) := by decide +kernel
theorem dL_cents_3 : decode cL_cents 3 = .ok (.iload_n 1, 1) := by decide +kernel
theorem dL_cents_4 : decode cL_cents 4 = .ok (.invokevirtual 27, 3) := by decide +kernel
theorem dL_cents_7 : decode cL_cents 7 = .ok (.i2l, 1) := by decide +kernel
theorem dL_cents_8 : decode cL_cents 8 = .ok (.lastore, 1) := by decide +kernel
theorem dL_cents_9 : decode cL_cents 9 = .ok (.goto 6, 3) := by decide +kernel
theorem dL_cents_12 : decode cL_cents 12 = .ok (.astore_n 3, 1) := by decide +kernel
theorem dL_cents_13 : decode cL_cents 13 = .ok (.iconst 1, 1) := by decide +kernel
theorem dL_cents_14 : decode cL_cents 14 = .ok (.ireturn, 1) := by decide +kernel
theorem dL_cents_15 : decode cL_cents 15 = .ok (.iconst 0, 1) := by decide +kernel
theorem dL_cents_16 : decode cL_cents 16 = .ok (.ireturn, 1) := by decide +kernel
theorem dL_tone_0 : decode cL_tone 0 = .ok (.aload_n 2, 1) := by decide +kernel
theorem dL_tone_1 : decode cL_tone 1 = .ok (.iconst 0, 1) := by decide +kernel
theorem dL_tone_2 : decode cL_tone 2 = .ok (.aload_n 0, 1) := by decide +kernel
theorem dL_tone_3 : decode cL_tone 3 = .ok (.iload_n 1, 1) := by decide +kernel
theorem dL_tone_4 : decode cL_tone 4 = .ok (.invokevirtual 30, 3) := by decide +kernel
theorem dL_tone_7 : decode cL_tone 7 = .ok (.i2l, 1) := by decide +kernel
theorem dL_tone_8 : decode cL_tone 8 = .ok (.lastore, 1) := by decide +kernel
theorem dL_tone_9 : decode cL_tone 9 = .ok (.goto 6, 3) := by decide +kernel
theorem dL_tone_12 : decode cL_tone 12 = .ok (.astore_n 3, 1) := by decide +kernel
theorem dL_tone_13 : decode cL_tone 13 = .ok (.iconst 1, 1) := by decide +kernel
theorem dL_tone_14 : decode cL_tone 14 = .ok (.ireturn, 1) := by decide +kernel
theorem dL_tone_15 : decode cL_tone 15 = .ok (.iconst 0, 1) := by decide +kernel
theorem dL_tone_16 : decode cL_tone 16 = .ok (.ireturn, 1) := by decide +kernel
theorem dL_off_0 : decode cL_off 0 = .ok (.aload_n 2, 1) := by decide +kernel
theorem dL_off_1 : decode cL_off 1 = .ok (.iconst 0, 1) := by decide +kernel
theorem dL_off_2 : decode cL_off 2 = .ok (.aload_n 0, 1) := by decide +kernel
theorem dL_off_3 : decode cL_off 3 = .ok (.iload_n 1, 1) := by decide +kernel
theorem dL_off_4 : decode cL_off 4 = .ok (.invokevirtual 33, 3) := by decide +kernel
theorem dL_off_7 : decode cL_off 7 = .ok (.i2l, 1) := by decide +kernel
theorem dL_off_8 : decode cL_off 8 = .ok (.lastore, 1) := by decide +kernel
theorem dL_off_9 : decode cL_off 9 = .ok (.goto 6, 3) := by decide +kernel
theorem dL_off_12 : decode cL_off 12 = .ok (.astore_n 3, 1) := by decide +kernel
theorem dL_off_13 : decode cL_off 13 = .ok (.iconst 1, 1) := by decide +kernel
theorem dL_off_14 : decode cL_off 14 = .ok (.ireturn, 1) := by decide +kernel
theorem dL_off_15 : decode cL_off 15 = .ok (.iconst 0, 1) := by decide +kernel
theorem dL_off_16 : decode cL_off 16 = .ok (.ireturn, 1) := by decide +kernel
theorem dL_halves_0 : decode cL_halves 0 = .ok (.aload_n 2, 1) := by decide +kernel
theorem dL_halves_1 : decode cL_halves 1 = .ok (.iconst 0, 1) := by decide +kernel
theorem dL_halves_2 : decode cL_halves 2 = .ok (.aload_n 0, 1) := by decide +kernel
theorem dL_halves_3 : decode cL_halves 3 = .ok (.iload_n 1, 1) := by decide +kernel
theorem dL_halves_4 : decode cL_halves 4 = .ok (.invokevirtual 36, 3) := by decide +kernel
theorem dL_halves_7 : decode cL_halves 7 = .ok (.i2l, 1) := by decide +kernel
theorem dL_halves_8 : decode cL_halves 8 = .ok (.lastore, 1) := by decide +kernel
theorem dL_halves_9 : decode cL_halves 9 = .ok (.goto 6, 3) := by decide +kernel
theorem dL_halves_12 : decode cL_halves 12 = .ok (.astore_n 3, 1) := by decide +kernel
theorem dL_halves_13 : decode cL_halves 13 = .ok (.iconst 1, 1) := by decide +kernel
theorem dL_halves_14 : decode cL_halves 14 = .ok (.ireturn, 1) := by decide +kernel
theorem dL_halves_15 : decode cL_halves 15 = .ok (.iconst 0, 1) := by decide +kernel
theorem dL_halves_16 : decode cL_halves 16 = .ok (.ireturn, 1) := by decide +kernel
theorem dL_crosses_0 : decode cL_crosses 0 = .ok (.aload_n 2, 1) := by decide +kernel
theorem dL_crosses_1 : decode cL_crosses 1 = .ok (.iconst 0, 1) := by decide +kernel
theorem dL_crosses_2 : decode cL_crosses 2 = .ok (.aload_n 0, 1) := by decide +kernel
theorem dL_crosses_3 : decode cL_crosses 3 = .ok (.iload_n 1, 1) := by decide +kernel
theorem dL_crosses_4 : decode cL_crosses 4 = .ok (.invokevirtual 39, 3) := by decide +kernel
theorem dL_crosses_7 : decode cL_crosses 7 = .ok (.i2l, 1) := by decide +kernel
theorem dL_crosses_8 : decode cL_crosses 8 = .ok (.lastore, 1) := by decide +kernel
theorem dL_crosses_9 : decode cL_crosses 9 = .ok (.goto 6, 3) := by decide +kernel
theorem dL_crosses_12 : decode cL_crosses 12 = .ok (.astore_n 3, 1) := by decide +kernel
theorem dL_crosses_13 : decode cL_crosses 13 = .ok (.iconst 1, 1) := by decide +kernel
theorem dL_crosses_14 : decode cL_crosses 14 = .ok (.ireturn, 1) := by decide +kernel
theorem dL_crosses_15 : decode cL_crosses 15 = .ok (.iconst 0, 1) := by decide +kernel
theorem dL_crosses_16 : decode cL_crosses 16 = .ok (.ireturn, 1) := by decide +kernel
theorem dL_isEasy_0 : decode cL_isEasy 0 = .ok (.aload_n 2, 1) := by decide +kernel
theorem dL_isEasy_1 : decode cL_isEasy 1 = .ok (.iconst 0, 1) := by decide +kernel
theorem dL_isEasy_2 : decode cL_isEasy 2 = .ok (.aload_n 0, 1) := by decide +kernel
theorem dL_isEasy_3 : decode cL_isEasy 3 = .ok (.iload_n 1, 1) := by decide +kernel
theorem dL_isEasy_4 : decode cL_isEasy 4 = .ok (.invokevirtual 42, 3) := by decide +kernel
theorem dL_isEasy_7 : decode cL_isEasy 7 = .ok (.ifCond .eq 7, 3) := by decide +kernel
theorem dL_isEasy_10 : decode cL_isEasy 10 = .ok (.lconst 1, 1) := by decide +kernel
theorem dL_isEasy_11 : decode cL_isEasy 11 = .ok (.goto 4, 3) := by decide +kernel
theorem dL_isEasy_14 : decode cL_isEasy 14 = .ok (.lconst 0, 1) := by decide +kernel
theorem dL_isEasy_15 : decode cL_isEasy 15 = .ok (.lastore, 1) := by decide +kernel
theorem dL_isEasy_16 : decode cL_isEasy 16 = .ok (.goto 6, 3) := by decide +kernel
theorem dL_isEasy_19 : decode cL_isEasy 19 = .ok (.astore_n 3, 1) := by decide +kernel
theorem dL_isEasy_20 : decode cL_isEasy 20 = .ok (.iconst 1, 1) := by decide +kernel
theorem dL_isEasy_21 : decode cL_isEasy 21 = .ok (.ireturn, 1) := by decide +kernel
theorem dL_isEasy_22 : decode cL_isEasy 22 = .ok (.iconst 0, 1) := by decide +kernel
theorem dL_isEasy_23 : decode cL_isEasy 23 = .ok (.ireturn, 1) := by decide +kernel
theorem dL_plays_0 : decode cL_plays 0 = .ok (.aload_n 2, 1) := by decide +kernel
theorem dL_plays_1 : decode cL_plays 1 = .ok (.iconst 0, 1) := by decide +kernel
theorem dL_plays_2 : decode cL_plays 2 = .ok (.aload_n 0, 1) := by decide +kernel
theorem dL_plays_3 : decode cL_plays 3 = .ok (.iload_n 1, 1) := by decide +kernel
theorem dL_plays_4 : decode cL_plays 4 = .ok (.invokevirtual 46, 3) := by decide +kernel
theorem dL_plays_7 : decode cL_plays 7 = .ok (.i2l, 1) := by decide +kernel
theorem dL_plays_8 : decode cL_plays 8 = .ok (.lastore, 1) := by decide +kernel
theorem dL_plays_9 : decode cL_plays 9 = .ok (.goto 6, 3) := by decide +kernel
theorem dL_plays_12 : decode cL_plays 12 = .ok (.astore_n 3, 1) := by decide +kernel
theorem dL_plays_13 : decode cL_plays 13 = .ok (.iconst 1, 1) := by decide +kernel
theorem dL_plays_14 : decode cL_plays 14 = .ok (.ireturn, 1) := by decide +kernel
theorem dL_plays_15 : decode cL_plays 15 = .ok (.iconst 0, 1) := by decide +kernel
theorem dL_plays_16 : decode cL_plays 16 = .ok (.ireturn, 1) := by decide +kernel
theorem dL_playOf_0 : decode cL_playOf 0 = .ok (.aload_n 3, 1) := by decide +kernel
theorem dL_playOf_1 : decode cL_playOf 1 = .ok (.iconst 0, 1) := by decide +kernel
theorem dL_playOf_2 : decode cL_playOf 2 = .ok (.aload_n 0, 1) := by decide +kernel
theorem dL_playOf_3 : decode cL_playOf 3 = .ok (.iload_n 1, 1) := by decide +kernel
theorem dL_playOf_4 : decode cL_playOf 4 = .ok (.iload_n 2, 1) := by decide +kernel
theorem dL_playOf_5 : decode cL_playOf 5 = .ok (.invokevirtual 49, 3) := by decide +kernel
theorem dL_playOf_8 : decode cL_playOf 8 = .ok (.i2l, 1) := by decide +kernel
theorem dL_playOf_9 : decode cL_playOf 9 = .ok (.lastore, 1) := by decide +kernel
theorem dL_playOf_10 : decode cL_playOf 10 = .ok (.goto 7, 3) := by decide +kernel
theorem dL_playOf_13 : decode cL_playOf 13 = .ok (.astore 4, 2) := by decide +kernel
theorem dL_playOf_15 : decode cL_playOf 15 = .ok (.iconst 1, 1) := by decide +kernel
theorem dL_playOf_16 : decode cL_playOf 16 = .ok (.ireturn, 1) := by decide +kernel
theorem dL_playOf_17 : decode cL_playOf 17 = .ok (.iconst 0, 1) := by decide +kernel
theorem dL_playOf_18 : decode cL_playOf 18 = .ok (.ireturn, 1) := by decide +kernel
theorem dL_truest_0 : decode cL_truest 0 = .ok (.aload_n 2, 1) := by decide +kernel
theorem dL_truest_1 : decode cL_truest 1 = .ok (.iconst 0, 1) := by decide +kernel
theorem dL_truest_2 : decode cL_truest 2 = .ok (.aload_n 0, 1) := by decide +kernel
theorem dL_truest_3 : decode cL_truest 3 = .ok (.iload_n 1, 1) := by decide +kernel
theorem dL_truest_4 : decode cL_truest 4 = .ok (.invokevirtual 52, 3) := by decide +kernel
theorem dL_truest_7 : decode cL_truest 7 = .ok (.i2l, 1) := by decide +kernel
theorem dL_truest_8 : decode cL_truest 8 = .ok (.lastore, 1) := by decide +kernel
theorem dL_truest_9 : decode cL_truest 9 = .ok (.goto 6, 3) := by decide +kernel
theorem dL_truest_12 : decode cL_truest 12 = .ok (.astore_n 3, 1) := by decide +kernel
theorem dL_truest_13 : decode cL_truest 13 = .ok (.iconst 1, 1) := by decide +kernel
theorem dL_truest_14 : decode cL_truest 14 = .ok (.ireturn, 1) := by decide +kernel
theorem dL_truest_15 : decode cL_truest 15 = .ok (.iconst 0, 1) := by decide +kernel
theorem dL_truest_16 : decode cL_truest 16 = .ok (.ireturn, 1) := by decide +kernel
theorem dL_change_0 : decode cL_change 0 = .ok (.aload_n 3, 1) := by decide +kernel
theorem dL_change_1 : decode cL_change 1 = .ok (.iconst 0, 1) := by decide +kernel
theorem dL_change_2 : decode cL_change 2 = .ok (.aload_n 0, 1) := by decide +kernel
theorem dL_change_3 : decode cL_change 3 = .ok (.iload_n 1, 1) := by decide +kernel
theorem dL_change_4 : decode cL_change 4 = .ok (.iload_n 2, 1) := by decide +kernel
theorem dL_change_5 : decode cL_change 5 = .ok (.invokevirtual 55, 3) := by decide +kernel
theorem dL_change_8 : decode cL_change 8 = .ok (.i2l, 1) := by decide +kernel
theorem dL_change_9 : decode cL_change 9 = .ok (.lastore, 1) := by decide +kernel
theorem dL_change_10 : decode cL_change 10 = .ok (.goto 7, 3) := by decide +kernel
theorem dL_change_13 : decode cL_change 13 = .ok (.astore 4, 2) := by decide +kernel
theorem dL_change_15 : decode cL_change 15 = .ok (.iconst 1, 1) := by decide +kernel
theorem dL_change_16 : decode cL_change 16 = .ok (.ireturn, 1) := by decide +kernel
theorem dL_change_17 : decode cL_change 17 = .ok (.iconst 0, 1) := by decide +kernel
theorem dL_change_18 : decode cL_change 18 = .ok (.ireturn, 1) := by decide +kernel
theorem dL_fingers_0 : decode cL_fingers 0 = .ok (.aload_n 3, 1) := by decide +kernel
theorem dL_fingers_1 : decode cL_fingers 1 = .ok (.iconst 0, 1) := by decide +kernel
theorem dL_fingers_2 : decode cL_fingers 2 = .ok (.aload_n 0, 1) := by decide +kernel
theorem dL_fingers_3 : decode cL_fingers 3 = .ok (.iload_n 1, 1) := by decide +kernel
theorem dL_fingers_4 : decode cL_fingers 4 = .ok (.iload_n 2, 1) := by decide +kernel
theorem dL_fingers_5 : decode cL_fingers 5 = .ok (.invokevirtual 58, 3) := by decide +kernel
theorem dL_fingers_8 : decode cL_fingers 8 = .ok (.i2l, 1) := by decide +kernel
theorem dL_fingers_9 : decode cL_fingers 9 = .ok (.lastore, 1) := by decide +kernel
theorem dL_fingers_10 : decode cL_fingers 10 = .ok (.goto 7, 3) := by decide +kernel
theorem dL_fingers_13 : decode cL_fingers 13 = .ok (.astore 4, 2) := by decide +kernel
theorem dL_fingers_15 : decode cL_fingers 15 = .ok (.iconst 1, 1) := by decide +kernel
theorem dL_fingers_16 : decode cL_fingers 16 = .ok (.ireturn, 1) := by decide +kernel
theorem dL_fingers_17 : decode cL_fingers 17 = .ok (.iconst 0, 1) := by decide +kernel
theorem dL_fingers_18 : decode cL_fingers 18 = .ok (.ireturn, 1) := by decide +kernel
theorem dL_nearest_0 : decode cL_nearest 0 = .ok (.aload_n 2, 1) := by decide +kernel
theorem dL_nearest_1 : decode cL_nearest 1 = .ok (.iconst 0, 1) := by decide +kernel
theorem dL_nearest_2 : decode cL_nearest 2 = .ok (.aload_n 0, 1) := by decide +kernel
theorem dL_nearest_3 : decode cL_nearest 3 = .ok (.iload_n 1, 1) := by decide +kernel
theorem dL_nearest_4 : decode cL_nearest 4 = .ok (.invokevirtual 61, 3) := by decide +kernel
theorem dL_nearest_7 : decode cL_nearest 7 = .ok (.i2l, 1) := by decide +kernel
theorem dL_nearest_8 : decode cL_nearest 8 = .ok (.lastore, 1) := by decide +kernel
theorem dL_nearest_9 : decode cL_nearest 9 = .ok (.goto 6, 3) := by decide +kernel
theorem dL_nearest_12 : decode cL_nearest 12 = .ok (.astore_n 3, 1) := by decide +kernel
theorem dL_nearest_13 : decode cL_nearest 13 = .ok (.iconst 1, 1) := by decide +kernel
theorem dL_nearest_14 : decode cL_nearest 14 = .ok (.ireturn, 1) := by decide +kernel
theorem dL_nearest_15 : decode cL_nearest 15 = .ok (.iconst 0, 1) := by decide +kernel
theorem dL_nearest_16 : decode cL_nearest 16 = .ok (.ireturn, 1) := by decide +kernel
theorem dL_note_0 : decode cL_note 0 = .ok (.aload_n 2, 1) := by decide +kernel
theorem dL_note_1 : decode cL_note 1 = .ok (.iconst 0, 1) := by decide +kernel
theorem dL_note_2 : decode cL_note 2 = .ok (.aload_n 0, 1) := by decide +kernel
theorem dL_note_3 : decode cL_note 3 = .ok (.iload_n 1, 1) := by decide +kernel
theorem dL_note_4 : decode cL_note 4 = .ok (.invokevirtual 64, 3) := by decide +kernel
theorem dL_note_7 : decode cL_note 7 = .ok (.i2l, 1) := by decide +kernel
theorem dL_note_8 : decode cL_note 8 = .ok (.lastore, 1) := by decide +kernel
theorem dL_note_9 : decode cL_note 9 = .ok (.goto 6, 3) := by decide +kernel
theorem dL_note_12 : decode cL_note 12 = .ok (.astore_n 3, 1) := by decide +kernel
theorem dL_note_13 : decode cL_note 13 = .ok (.iconst 1, 1) := by decide +kernel
theorem dL_note_14 : decode cL_note 14 = .ok (.ireturn, 1) := by decide +kernel
theorem dL_note_15 : decode cL_note 15 = .ok (.iconst 0, 1) := by decide +kernel
theorem dL_note_16 : decode cL_note 16 = .ok (.ireturn, 1) := by decide +kernel
theorem dL_wayPlay_0 : decode cL_wayPlay 0 = .ok (.aload_n 2, 1) := by decide +kernel
theorem dL_wayPlay_1 : decode cL_wayPlay 1 = .ok (.iconst 0, 1) := by decide +kernel
theorem dL_wayPlay_2 : decode cL_wayPlay 2 = .ok (.aload_n 0, 1) := by decide +kernel
theorem dL_wayPlay_3 : decode cL_wayPlay 3 = .ok (.iload_n 1, 1) := by decide +kernel
theorem dL_wayPlay_4 : decode cL_wayPlay 4 = .ok (.invokevirtual 67, 3) := by decide +kernel
theorem dL_wayPlay_7 : decode cL_wayPlay 7 = .ok (.i2l, 1) := by decide +kernel
theorem dL_wayPlay_8 : decode cL_wayPlay 8 = .ok (.lastore, 1) := by decide +kernel
theorem dL_wayPlay_9 : decode cL_wayPlay 9 = .ok (.goto 6, 3) := by decide +kernel
theorem dL_wayPlay_12 : decode cL_wayPlay 12 = .ok (.astore_n 3, 1) := by decide +kernel
theorem dL_wayPlay_13 : decode cL_wayPlay 13 = .ok (.iconst 1, 1) := by decide +kernel
theorem dL_wayPlay_14 : decode cL_wayPlay 14 = .ok (.ireturn, 1) := by decide +kernel
theorem dL_wayPlay_15 : decode cL_wayPlay 15 = .ok (.iconst 0, 1) := by decide +kernel
theorem dL_wayPlay_16 : decode cL_wayPlay 16 = .ok (.ireturn, 1) := by decide +kernel
theorem dL_wayChange_0 : decode cL_wayChange 0 = .ok (.aload_n 2, 1) := by decide +kernel
theorem dL_wayChange_1 : decode cL_wayChange 1 = .ok (.iconst 0, 1) := by decide +kernel
theorem dL_wayChange_2 : decode cL_wayChange 2 = .ok (.aload_n 0, 1) := by decide +kernel
theorem dL_wayChange_3 : decode cL_wayChange 3 = .ok (.iload_n 1, 1) := by decide +kernel
theorem dL_wayChange_4 : decode cL_wayChange 4 = .ok (.invokevirtual 70, 3) := by decide +kernel
theorem dL_wayChange_7 : decode cL_wayChange 7 = .ok (.i2l, 1) := by decide +kernel
theorem dL_wayChange_8 : decode cL_wayChange 8 = .ok (.lastore, 1) := by decide +kernel
theorem dL_wayChange_9 : decode cL_wayChange 9 = .ok (.goto 6, 3) := by decide +kernel
theorem dL_wayChange_12 : decode cL_wayChange 12 = .ok (.astore_n 3, 1) := by decide +kernel
theorem dL_wayChange_13 : decode cL_wayChange 13 = .ok (.iconst 1, 1) := by decide +kernel
theorem dL_wayChange_14 : decode cL_wayChange 14 = .ok (.ireturn, 1) := by decide +kernel
theorem dL_wayChange_15 : decode cL_wayChange 15 = .ok (.iconst 0, 1) := by decide +kernel
theorem dL_wayChange_16 : decode cL_wayChange 16 = .ok (.ireturn, 1) := by decide +kernel
theorem dL_moved_0 : decode cL_moved 0 = .ok (.aload_n 2, 1) := by decide +kernel
theorem dL_moved_1 : decode cL_moved 1 = .ok (.iconst 0, 1) := by decide +kernel
theorem dL_moved_2 : decode cL_moved 2 = .ok (.aload_n 0, 1) := by decide +kernel
theorem dL_moved_3 : decode cL_moved 3 = .ok (.iload_n 1, 1) := by decide +kernel
theorem dL_moved_4 : decode cL_moved 4 = .ok (.invokevirtual 73, 3) := by decide +kernel
theorem dL_moved_7 : decode cL_moved 7 = .ok (.i2l, 1) := by decide +kernel
theorem dL_moved_8 : decode cL_moved 8 = .ok (.lastore, 1) := by decide +kernel
theorem dL_moved_9 : decode cL_moved 9 = .ok (.goto 6, 3) := by decide +kernel
theorem dL_moved_12 : decode cL_moved 12 = .ok (.astore_n 3, 1) := by decide +kernel
theorem dL_moved_13 : decode cL_moved 13 = .ok (.iconst 1, 1) := by decide +kernel
theorem dL_moved_14 : decode cL_moved 14 = .ok (.ireturn, 1) := by decide +kernel
theorem dL_moved_15 : decode cL_moved 15 = .ok (.iconst 0, 1) := by decide +kernel
theorem dL_moved_16 : decode cL_moved 16 = .ok (.ireturn, 1) := by decide +kernel
theorem dL_costBy_0 : decode cL_costBy 0 = .ok (.aload_n 2, 1) := by decide +kernel
theorem dL_costBy_1 : decode cL_costBy 1 = .ok (.iconst 0, 1) := by decide +kernel
theorem dL_costBy_2 : decode cL_costBy 2 = .ok (.aload_n 0, 1) := by decide +kernel
theorem dL_costBy_3 : decode cL_costBy 3 = .ok (.iload_n 1, 1) := by decide +kernel
theorem dL_costBy_4 : decode cL_costBy 4 = .ok (.invokevirtual 76, 3) := by decide +kernel
theorem dL_costBy_7 : decode cL_costBy 7 = .ok (.i2l, 1) := by decide +kernel
theorem dL_costBy_8 : decode cL_costBy 8 = .ok (.lastore, 1) := by decide +kernel
theorem dL_costBy_9 : decode cL_costBy 9 = .ok (.goto 6, 3) := by decide +kernel
theorem dL_costBy_12 : decode cL_costBy 12 = .ok (.astore_n 3, 1) := by decide +kernel
theorem dL_costBy_13 : decode cL_costBy 13 = .ok (.iconst 1, 1) := by decide +kernel
theorem dL_costBy_14 : decode cL_costBy 14 = .ok (.ireturn, 1) := by decide +kernel
theorem dL_costBy_15 : decode cL_costBy 15 = .ok (.iconst 0, 1) := by decide +kernel
theorem dL_costBy_16 : decode cL_costBy 16 = .ok (.ireturn, 1) := by decide +kernel
theorem dL_costWith_0 : decode cL_costWith 0 = .ok (.aload_n 3, 1) := by decide +kernel
theorem dL_costWith_1 : decode cL_costWith 1 = .ok (.iconst 0, 1) := by decide +kernel
theorem dL_costWith_2 : decode cL_costWith 2 = .ok (.aload_n 0, 1) := by decide +kernel
theorem dL_costWith_3 : decode cL_costWith 3 = .ok (.iload_n 1, 1) := by decide +kernel
theorem dL_costWith_4 : decode cL_costWith 4 = .ok (.iload_n 2, 1) := by decide +kernel
theorem dL_costWith_5 : decode cL_costWith 5 = .ok (.invokevirtual 79, 3) := by decide +kernel
theorem dL_costWith_8 : decode cL_costWith 8 = .ok (.i2l, 1) := by decide +kernel
theorem dL_costWith_9 : decode cL_costWith 9 = .ok (.lastore, 1) := by decide +kernel
theorem dL_costWith_10 : decode cL_costWith 10 = .ok (.goto 7, 3) := by decide +kernel
theorem dL_costWith_13 : decode cL_costWith 13 = .ok (.astore 4, 2) := by decide +kernel
theorem dL_costWith_15 : decode cL_costWith 15 = .ok (.iconst 1, 1) := by decide +kernel
theorem dL_costWith_16 : decode cL_costWith 16 = .ok (.ireturn, 1) := by decide +kernel
theorem dL_costWith_17 : decode cL_costWith 17 = .ok (.iconst 0, 1) := by decide +kernel
theorem dL_costWith_18 : decode cL_costWith 18 = .ok (.ireturn, 1) := by decide +kernel
theorem dL_setHole_0 : decode cL_setHole 0 = .ok (.aload 4, 2) := by decide +kernel
theorem dL_setHole_2 : decode cL_setHole 2 = .ok (.iconst 0, 1) := by decide +kernel
theorem dL_setHole_3 : decode cL_setHole 3 = .ok (.aload_n 0, 1) := by decide +kernel
theorem dL_setHole_4 : decode cL_setHole 4 = .ok (.iload_n 1, 1) := by decide +kernel
theorem dL_setHole_5 : decode cL_setHole 5 = .ok (.iload_n 2, 1) := by decide +kernel
theorem dL_setHole_6 : decode cL_setHole 6 = .ok (.iload_n 3, 1) := by decide +kernel
theorem dL_setHole_7 : decode cL_setHole 7 = .ok (.invokevirtual 82, 3) := by decide +kernel
theorem dL_setHole_10 : decode cL_setHole 10 = .ok (.i2l, 1) := by decide +kernel
theorem dL_setHole_11 : decode cL_setHole 11 = .ok (.lastore, 1) := by decide +kernel
theorem dL_setHole_12 : decode cL_setHole 12 = .ok (.goto 11, 3) := by decide +kernel
theorem dL_setHole_15 : decode cL_setHole 15 = .ok (.astore 5, 2) := by decide +kernel
theorem dL_setHole_17 : decode cL_setHole 17 = .ok (.iconst 1, 1) := by decide +kernel
theorem dL_setHole_18 : decode cL_setHole 18 = .ok (.ireturn, 1) := by decide +kernel
theorem dL_setHole_19 : decode cL_setHole 19 = .ok (.astore 5, 2) := by decide +kernel
theorem dL_setHole_21 : decode cL_setHole 21 = .ok (.iconst 2, 1) := by decide +kernel
theorem dL_setHole_22 : decode cL_setHole 22 = .ok (.ireturn, 1) := by decide +kernel
theorem dL_setHole_23 : decode cL_setHole 23 = .ok (.iconst 0, 1) := by decide +kernel
theorem dL_setHole_24 : decode cL_setHole 24 = .ok (.ireturn, 1) := by decide +kernel
theorem dL_setLimits_0 : decode cL_setLimits 0 = .ok (.aload_n 3, 1) := by decide +kernel
theorem dL_setLimits_1 : decode cL_setLimits 1 = .ok (.iconst 0, 1) := by decide +kernel
theorem dL_setLimits_2 : decode cL_setLimits 2 = .ok (.aload_n 0, 1) := by decide +kernel
theorem dL_setLimits_3 : decode cL_setLimits 3 = .ok (.iload_n 1, 1) := by decide +kernel
theorem dL_setLimits_4 : decode cL_setLimits 4 = .ok (.iload_n 2, 1) := by decide +kernel
theorem dL_setLimits_5 : decode cL_setLimits 5 = .ok (.invokevirtual 86, 3) := by decide +kernel
theorem dL_setLimits_8 : decode cL_setLimits 8 = .ok (.i2l, 1) := by decide +kernel
theorem dL_setLimits_9 : decode cL_setLimits 9 = .ok (.lastore, 1) := by decide +kernel
theorem dL_setLimits_10 : decode cL_setLimits 10 = .ok (.goto 7, 3) := by decide +kernel
theorem dL_setLimits_13 : decode cL_setLimits 13 = .ok (.astore 4, 2) := by decide +kernel
theorem dL_setLimits_15 : decode cL_setLimits 15 = .ok (.iconst 1, 1) := by decide +kernel
theorem dL_setLimits_16 : decode cL_setLimits 16 = .ok (.ireturn, 1) := by decide +kernel
theorem dL_setLimits_17 : decode cL_setLimits 17 = .ok (.iconst 0, 1) := by decide +kernel
theorem dL_setLimits_18 : decode cL_setLimits 18 = .ok (.ireturn, 1) := by decide +kernel
theorem dL_setTolerance_0 : decode cL_setTolerance 0 = .ok (.aload_n 2, 1) := by decide +kernel
theorem dL_setTolerance_1 : decode cL_setTolerance 1 = .ok (.iconst 0, 1) := by decide +kernel
theorem dL_setTolerance_2 : decode cL_setTolerance 2 = .ok (.aload_n 0, 1) := by decide +kernel
theorem dL_setTolerance_3 : decode cL_setTolerance 3 = .ok (.iload_n 1, 1) := by decide +kernel
theorem dL_setTolerance_4 : decode cL_setTolerance 4 = .ok (.invokevirtual 89, 3) := by decide +kernel
theorem dL_setTolerance_7 : decode cL_setTolerance 7 = .ok (.i2l, 1) := by decide +kernel
theorem dL_setTolerance_8 : decode cL_setTolerance 8 = .ok (.lastore, 1) := by decide +kernel
theorem dL_setTolerance_9 : decode cL_setTolerance 9 = .ok (.goto 6, 3) := by decide +kernel
theorem dL_setTolerance_12 : decode cL_setTolerance 12 = .ok (.astore_n 3, 1) := by decide +kernel
theorem dL_setTolerance_13 : decode cL_setTolerance 13 = .ok (.iconst 1, 1) := by decide +kernel
theorem dL_setTolerance_14 : decode cL_setTolerance 14 = .ok (.ireturn, 1) := by decide +kernel
theorem dL_setTolerance_15 : decode cL_setTolerance 15 = .ok (.iconst 0, 1) := by decide +kernel
theorem dL_setTolerance_16 : decode cL_setTolerance 16 = .ok (.ireturn, 1) := by decide +kernel
theorem dL_setCosts_0 : decode cL_setCosts 0 = .ok (.aload 4, 2) := by decide +kernel
theorem dL_setCosts_2 : decode cL_setCosts 2 = .ok (.iconst 0, 1) := by decide +kernel
theorem dL_setCosts_3 : decode cL_setCosts 3 = .ok (.aload_n 0, 1) := by decide +kernel
theorem dL_setCosts_4 : decode cL_setCosts 4 = .ok (.iload_n 1, 1) := by decide +kernel
theorem dL_setCosts_5 : decode cL_setCosts 5 = .ok (.iload_n 2, 1) := by decide +kernel
theorem dL_setCosts_6 : decode cL_setCosts 6 = .ok (.iload_n 3, 1) := by decide +kernel
theorem dL_setCosts_7 : decode cL_setCosts 7 = .ok (.invokevirtual 92, 3) := by decide +kernel
theorem dL_setCosts_10 : decode cL_setCosts 10 = .ok (.i2l, 1) := by decide +kernel
theorem dL_setCosts_11 : decode cL_setCosts 11 = .ok (.lastore, 1) := by decide +kernel
theorem dL_setCosts_12 : decode cL_setCosts 12 = .ok (.goto 7, 3) := by decide +kernel
theorem dL_setCosts_15 : decode cL_setCosts 15 = .ok (.astore 5, 2) := by decide +kernel
theorem dL_setCosts_17 : decode cL_setCosts 17 = .ok (.iconst 1, 1) := by decide +kernel
theorem dL_setCosts_18 : decode cL_setCosts 18 = .ok (.ireturn, 1) := by decide +kernel
theorem dL_setCosts_19 : decode cL_setCosts 19 = .ok (.iconst 0, 1) := by decide +kernel
theorem dL_setCosts_20 : decode cL_setCosts 20 = .ok (.ireturn, 1) := by decide +kernel
theorem dL_addNote_0 : decode cL_addNote 0 = .ok (.aload_n 2, 1) := by decide +kernel
theorem dL_addNote_1 : decode cL_addNote 1 = .ok (.iconst 0, 1) := by decide +kernel
theorem dL_addNote_2 : decode cL_addNote 2 = .ok (.aload_n 0, 1) := by decide +kernel
theorem dL_addNote_3 : decode cL_addNote 3 = .ok (.iload_n 1, 1) := by decide +kernel
theorem dL_addNote_4 : decode cL_addNote 4 = .ok (.invokevirtual 95, 3) := by decide +kernel
theorem dL_addNote_7 : decode cL_addNote 7 = .ok (.i2l, 1) := by decide +kernel
theorem dL_addNote_8 : decode cL_addNote 8 = .ok (.lastore, 1) := by decide +kernel
theorem dL_addNote_9 : decode cL_addNote 9 = .ok (.goto 6, 3) := by decide +kernel
theorem dL_addNote_12 : decode cL_addNote 12 = .ok (.astore_n 3, 1) := by decide +kernel
theorem dL_addNote_13 : decode cL_addNote 13 = .ok (.iconst 1, 1) := by decide +kernel
theorem dL_addNote_14 : decode cL_addNote 14 = .ok (.ireturn, 1) := by decide +kernel
theorem dL_addNote_15 : decode cL_addNote 15 = .ok (.iconst 0, 1) := by decide +kernel
theorem dL_addNote_16 : decode cL_addNote 16 = .ok (.ireturn, 1) := by decide +kernel
theorem dL_setNote_0 : decode cL_setNote 0 = .ok (.aload_n 3, 1) := by decide +kernel
theorem dL_setNote_1 : decode cL_setNote 1 = .ok (.iconst 0, 1) := by decide +kernel
theorem dL_setNote_2 : decode cL_setNote 2 = .ok (.aload_n 0, 1) := by decide +kernel
theorem dL_setNote_3 : decode cL_setNote 3 = .ok (.iload_n 1, 1) := by decide +kernel
theorem dL_setNote_4 : decode cL_setNote 4 = .ok (.iload_n 2, 1) := by decide +kernel
theorem dL_setNote_5 : decode cL_setNote 5 = .ok (.invokevirtual 98, 3) := by decide +kernel
theorem dL_setNote_8 : decode cL_setNote 8 = .ok (.i2l, 1) := by decide +kernel
theorem dL_setNote_9 : decode cL_setNote 9 = .ok (.lastore, 1) := by decide +kernel
theorem dL_setNote_10 : decode cL_setNote 10 = .ok (.goto 11, 3) := by decide +kernel
theorem dL_setNote_13 : decode cL_setNote 13 = .ok (.astore 4, 2) := by decide +kernel
theorem dL_setNote_15 : decode cL_setNote 15 = .ok (.iconst 1, 1) := by decide +kernel
theorem dL_setNote_16 : decode cL_setNote 16 = .ok (.ireturn, 1) := by decide +kernel
theorem dL_setNote_17 : decode cL_setNote 17 = .ok (.astore 4, 2) := by decide +kernel
theorem dL_setNote_19 : decode cL_setNote 19 = .ok (.iconst 2, 1) := by decide +kernel
theorem dL_setNote_20 : decode cL_setNote 20 = .ok (.ireturn, 1) := by decide +kernel
theorem dL_setNote_21 : decode cL_setNote 21 = .ok (.iconst 0, 1) := by decide +kernel
theorem dL_setNote_22 : decode cL_setNote 22 = .ok (.ireturn, 1) := by decide +kernel
theorem dL_dropNote_0 : decode cL_dropNote 0 = .ok (.aload_n 2, 1) := by decide +kernel
theorem dL_dropNote_1 : decode cL_dropNote 1 = .ok (.iconst 0, 1) := by decide +kernel
theorem dL_dropNote_2 : decode cL_dropNote 2 = .ok (.aload_n 0, 1) := by decide +kernel
theorem dL_dropNote_3 : decode cL_dropNote 3 = .ok (.iload_n 1, 1) := by decide +kernel
theorem dL_dropNote_4 : decode cL_dropNote 4 = .ok (.invokevirtual 101, 3) := by decide +kernel
theorem dL_dropNote_7 : decode cL_dropNote 7 = .ok (.i2l, 1) := by decide +kernel
theorem dL_dropNote_8 : decode cL_dropNote 8 = .ok (.lastore, 1) := by decide +kernel
theorem dL_dropNote_9 : decode cL_dropNote 9 = .ok (.goto 6, 3) := by decide +kernel
theorem dL_dropNote_12 : decode cL_dropNote 12 = .ok (.astore_n 3, 1) := by decide +kernel
theorem dL_dropNote_13 : decode cL_dropNote 13 = .ok (.iconst 1, 1) := by decide +kernel
theorem dL_dropNote_14 : decode cL_dropNote 14 = .ok (.ireturn, 1) := by decide +kernel
theorem dL_dropNote_15 : decode cL_dropNote 15 = .ok (.iconst 0, 1) := by decide +kernel
theorem dL_dropNote_16 : decode cL_dropNote 16 = .ok (.ireturn, 1) := by decide +kernel
theorem dL_repeat_0 : decode cL_repeat 0 = .ok (.aload_n 3, 1) := by decide +kernel
theorem dL_repeat_1 : decode cL_repeat 1 = .ok (.iconst 0, 1) := by decide +kernel
theorem dL_repeat_2 : decode cL_repeat 2 = .ok (.aload_n 0, 1) := by decide +kernel
theorem dL_repeat_3 : decode cL_repeat 3 = .ok (.iload_n 1, 1) := by decide +kernel
theorem dL_repeat_4 : decode cL_repeat 4 = .ok (.iload_n 2, 1) := by decide +kernel
theorem dL_repeat_5 : decode cL_repeat 5 = .ok (.invokevirtual 104, 3) := by decide +kernel
theorem dL_repeat_8 : decode cL_repeat 8 = .ok (.i2l, 1) := by decide +kernel
theorem dL_repeat_9 : decode cL_repeat 9 = .ok (.lastore, 1) := by decide +kernel
theorem dL_repeat_10 : decode cL_repeat 10 = .ok (.goto 11, 3) := by decide +kernel
theorem dL_repeat_13 : decode cL_repeat 13 = .ok (.astore 4, 2) := by decide +kernel
theorem dL_repeat_15 : decode cL_repeat 15 = .ok (.iconst 1, 1) := by decide +kernel
theorem dL_repeat_16 : decode cL_repeat 16 = .ok (.ireturn, 1) := by decide +kernel
theorem dL_repeat_17 : decode cL_repeat 17 = .ok (.astore 4, 2) := by decide +kernel
theorem dL_repeat_19 : decode cL_repeat 19 = .ok (.iconst 2, 1) := by decide +kernel
theorem dL_repeat_20 : decode cL_repeat 20 = .ok (.ireturn, 1) := by decide +kernel
theorem dL_repeat_21 : decode cL_repeat 21 = .ok (.iconst 0, 1) := by decide +kernel
theorem dL_repeat_22 : decode cL_repeat 22 = .ok (.ireturn, 1) := by decide +kernel
theorem dL_higher_0 : decode cL_higher 0 = .ok (.aload_n 2, 1) := by decide +kernel
theorem dL_higher_1 : decode cL_higher 1 = .ok (.iconst 0, 1) := by decide +kernel
theorem dL_higher_2 : decode cL_higher 2 = .ok (.aload_n 0, 1) := by decide +kernel
theorem dL_higher_3 : decode cL_higher 3 = .ok (.iload_n 1, 1) := by decide +kernel
theorem dL_higher_4 : decode cL_higher 4 = .ok (.invokevirtual 107, 3) := by decide +kernel
theorem dL_higher_7 : decode cL_higher 7 = .ok (.i2l, 1) := by decide +kernel
theorem dL_higher_8 : decode cL_higher 8 = .ok (.lastore, 1) := by decide +kernel
theorem dL_higher_9 : decode cL_higher 9 = .ok (.goto 6, 3) := by decide +kernel
theorem dL_higher_12 : decode cL_higher 12 = .ok (.astore_n 3, 1) := by decide +kernel
theorem dL_higher_13 : decode cL_higher 13 = .ok (.iconst 1, 1) := by decide +kernel
theorem dL_higher_14 : decode cL_higher 14 = .ok (.ireturn, 1) := by decide +kernel
theorem dL_higher_15 : decode cL_higher 15 = .ok (.iconst 0, 1) := by decide +kernel
theorem dL_higher_16 : decode cL_higher 16 = .ok (.ireturn, 1) := by decide +kernel
theorem dL_cover_0 : decode cL_cover 0 = .ok (.aload_n 3, 1) := by decide +kernel
theorem dL_cover_1 : decode cL_cover 1 = .ok (.iconst 0, 1) := by decide +kernel
theorem dL_cover_2 : decode cL_cover 2 = .ok (.aload_n 0, 1) := by decide +kernel
theorem dL_cover_3 : decode cL_cover 3 = .ok (.iload_n 1, 1) := by decide +kernel
theorem dL_cover_4 : decode cL_cover 4 = .ok (.iload_n 2, 1) := by decide +kernel
theorem dL_cover_5 : decode cL_cover 5 = .ok (.invokevirtual 110, 3) := by decide +kernel
theorem dL_cover_8 : decode cL_cover 8 = .ok (.i2l, 1) := by decide +kernel
theorem dL_cover_9 : decode cL_cover 9 = .ok (.lastore, 1) := by decide +kernel
theorem dL_cover_10 : decode cL_cover 10 = .ok (.goto 11, 3) := by decide +kernel
theorem dL_cover_13 : decode cL_cover 13 = .ok (.astore 4, 2) := by decide +kernel
theorem dL_cover_15 : decode cL_cover 15 = .ok (.iconst 1, 1) := by decide +kernel
theorem dL_cover_16 : decode cL_cover 16 = .ok (.ireturn, 1) := by decide +kernel
theorem dL_cover_17 : decode cL_cover 17 = .ok (.astore 4, 2) := by decide +kernel
theorem dL_cover_19 : decode cL_cover 19 = .ok (.iconst 2, 1) := by decide +kernel
theorem dL_cover_20 : decode cL_cover 20 = .ok (.ireturn, 1) := by decide +kernel
theorem dL_cover_21 : decode cL_cover 21 = .ok (.iconst 0, 1) := by decide +kernel
theorem dL_cover_22 : decode cL_cover 22 = .ok (.ireturn, 1) := by decide +kernel
theorem dL_rewind_0 : decode cL_rewind 0 = .ok (.aload_n 2, 1) := by decide +kernel
theorem dL_rewind_1 : decode cL_rewind 1 = .ok (.iconst 0, 1) := by decide +kernel
theorem dL_rewind_2 : decode cL_rewind 2 = .ok (.aload_n 0, 1) := by decide +kernel
theorem dL_rewind_3 : decode cL_rewind 3 = .ok (.iload_n 1, 1) := by decide +kernel
theorem dL_rewind_4 : decode cL_rewind 4 = .ok (.invokevirtual 113, 3) := by decide +kernel
theorem dL_rewind_7 : decode cL_rewind 7 = .ok (.i2l, 1) := by decide +kernel
theorem dL_rewind_8 : decode cL_rewind 8 = .ok (.lastore, 1) := by decide +kernel
theorem dL_rewind_9 : decode cL_rewind 9 = .ok (.goto 6, 3) := by decide +kernel
theorem dL_rewind_12 : decode cL_rewind 12 = .ok (.astore_n 3, 1) := by decide +kernel
theorem dL_rewind_13 : decode cL_rewind 13 = .ok (.iconst 1, 1) := by decide +kernel
theorem dL_rewind_14 : decode cL_rewind 14 = .ok (.ireturn, 1) := by decide +kernel
theorem dL_rewind_15 : decode cL_rewind 15 = .ok (.iconst 0, 1) := by decide +kernel
theorem dL_rewind_16 : decode cL_rewind 16 = .ok (.ireturn, 1) := by decide +kernel
theorem dL_fingering_0 : decode cL_fingering 0 = .ok (.aload_n 2, 1) := by decide +kernel
theorem dL_fingering_1 : decode cL_fingering 1 = .ok (.iconst 0, 1) := by decide +kernel
theorem dL_fingering_2 : decode cL_fingering 2 = .ok (.aload_n 0, 1) := by decide +kernel
theorem dL_fingering_3 : decode cL_fingering 3 = .ok (.iload_n 1, 1) := by decide +kernel
theorem dL_fingering_4 : decode cL_fingering 4 = .ok (.invokevirtual 116, 3) := by decide +kernel
theorem dL_fingering_7 : decode cL_fingering 7 = .ok (.f2d, 1) := by decide +kernel
theorem dL_fingering_8 : decode cL_fingering 8 = .ok (.dastore, 1) := by decide +kernel
theorem dL_fingering_9 : decode cL_fingering 9 = .ok (.goto 6, 3) := by decide +kernel
theorem dL_fingering_12 : decode cL_fingering 12 = .ok (.astore_n 3, 1) := by decide +kernel
theorem dL_fingering_13 : decode cL_fingering 13 = .ok (.iconst 1, 1) := by decide +kernel
theorem dL_fingering_14 : decode cL_fingering 14 = .ok (.ireturn, 1) := by decide +kernel
theorem dL_fingering_15 : decode cL_fingering 15 = .ok (.iconst 0, 1) := by decide +kernel
theorem dL_fingering_16 : decode cL_fingering 16 = .ok (.ireturn, 1) := by decide +kernel
theorem dL_writePlay_0 : decode cL_writePlay 0 = .ok (.aload_n 2, 1) := by decide +kernel
theorem dL_writePlay_1 : decode cL_writePlay 1 = .ok (.iconst 0, 1) := by decide +kernel
theorem dL_writePlay_2 : decode cL_writePlay 2 = .ok (.aload_n 0, 1) := by decide +kernel
theorem dL_writePlay_3 : decode cL_writePlay 3 = .ok (.iload_n 1, 1) := by decide +kernel
theorem dL_writePlay_4 : decode cL_writePlay 4 = .ok (.invokevirtual 120, 3) := by decide +kernel
theorem dL_writePlay_7 : decode cL_writePlay 7 = .ok (.i2l, 1) := by decide +kernel
theorem dL_writePlay_8 : decode cL_writePlay 8 = .ok (.lastore, 1) := by decide +kernel
theorem dL_writePlay_9 : decode cL_writePlay 9 = .ok (.goto 6, 3) := by decide +kernel
theorem dL_writePlay_12 : decode cL_writePlay 12 = .ok (.astore_n 3, 1) := by decide +kernel
theorem dL_writePlay_13 : decode cL_writePlay 13 = .ok (.iconst 1, 1) := by decide +kernel
theorem dL_writePlay_14 : decode cL_writePlay 14 = .ok (.ireturn, 1) := by decide +kernel
theorem dL_writePlay_15 : decode cL_writePlay 15 = .ok (.iconst 0, 1) := by decide +kernel
theorem dL_writePlay_16 : decode cL_writePlay 16 = .ok (.ireturn, 1) := by decide +kernel
theorem dL_saveSnapshot_0 : decode cL_saveSnapshot 0 = .ok (.aload_n 2, 1) := by decide +kernel
theorem dL_saveSnapshot_1 : decode cL_saveSnapshot 1 = .ok (.iconst 0, 1) := by decide +kernel
theorem dL_saveSnapshot_2 : decode cL_saveSnapshot 2 = .ok (.aload_n 0, 1) := by decide +kernel
theorem dL_saveSnapshot_3 : decode cL_saveSnapshot 3 = .ok (.iload_n 1, 1) := by decide +kernel
theorem dL_saveSnapshot_4 : decode cL_saveSnapshot 4 = .ok (.invokevirtual 123, 3) := by decide +kernel
theorem dL_saveSnapshot_7 : decode cL_saveSnapshot 7 = .ok (.i2l, 1) := by decide +kernel
theorem dL_saveSnapshot_8 : decode cL_saveSnapshot 8 = .ok (.lastore, 1) := by decide +kernel
theorem dL_saveSnapshot_9 : decode cL_saveSnapshot 9 = .ok (.goto 6, 3) := by decide +kernel
theorem dL_saveSnapshot_12 : decode cL_saveSnapshot 12 = .ok (.astore_n 3, 1) := by decide +kernel
theorem dL_saveSnapshot_13 : decode cL_saveSnapshot 13 = .ok (.iconst 1, 1) := by decide +kernel
theorem dL_saveSnapshot_14 : decode cL_saveSnapshot 14 = .ok (.ireturn, 1) := by decide +kernel
theorem dL_saveSnapshot_15 : decode cL_saveSnapshot 15 = .ok (.iconst 0, 1) := by decide +kernel
theorem dL_saveSnapshot_16 : decode cL_saveSnapshot 16 = .ok (.ireturn, 1) := by decide +kernel
theorem dL_restoreSnapshot_0 : decode cL_restoreSnapshot 0 = .ok (.aload_n 2, 1) := by decide +kernel
theorem dL_restoreSnapshot_1 : decode cL_restoreSnapshot 1 = .ok (.iconst 0, 1) := by decide +kernel
theorem dL_restoreSnapshot_2 : decode cL_restoreSnapshot 2 = .ok (.aload_n 0, 1) := by decide +kernel
theorem dL_restoreSnapshot_3 : decode cL_restoreSnapshot 3 = .ok (.iload_n 1, 1) := by decide +kernel
theorem dL_restoreSnapshot_4 : decode cL_restoreSnapshot 4 = .ok (.invokevirtual 126, 3) := by decide +kernel
theorem dL_restoreSnapshot_7 : decode cL_restoreSnapshot 7 = .ok (.i2l, 1) := by decide +kernel
theorem dL_restoreSnapshot_8 : decode cL_restoreSnapshot 8 = .ok (.lastore, 1) := by decide +kernel
theorem dL_restoreSnapshot_9 : decode cL_restoreSnapshot 9 = .ok (.goto 6, 3) := by decide +kernel
theorem dL_restoreSnapshot_12 : decode cL_restoreSnapshot 12 = .ok (.astore_n 3, 1) := by decide +kernel
theorem dL_restoreSnapshot_13 : decode cL_restoreSnapshot 13 = .ok (.iconst 1, 1) := by decide +kernel
theorem dL_restoreSnapshot_14 : decode cL_restoreSnapshot 14 = .ok (.ireturn, 1) := by decide +kernel
theorem dL_restoreSnapshot_15 : decode cL_restoreSnapshot 15 = .ok (.iconst 0, 1) := by decide +kernel
theorem dL_restoreSnapshot_16 : decode cL_restoreSnapshot 16 = .ok (.ireturn, 1) := by decide +kernel
