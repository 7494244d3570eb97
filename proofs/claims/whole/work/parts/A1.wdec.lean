/-! the law's own methods: decode rows -/
theorem dL_append_0 : decode cL_append 0 = .ok (.aload 6, 2) := by decide +kernel
theorem dL_append_2 : decode cL_append 2 = .ok (.iconst 0, 1) := by decide +kernel
theorem dL_append_3 : decode cL_append 3 = .ok (.aload_n 0, 1) := by decide +kernel
theorem dL_append_4 : decode cL_append 4 = .ok (.iload_n 1, 1) := by decide +kernel
theorem dL_append_5 : decode cL_append 5 = .ok (.iload_n 2, 1) := by decide +kernel
theorem dL_append_6 : decode cL_append 6 = .ok (.iload_n 3, 1) := by decide +kernel
theorem dL_append_7 : decode cL_append 7 = .ok (.iload 4, 2) := by decide +kernel
theorem dL_append_9 : decode cL_append 9 = .ok (.iload 5, 2) := by decide +kernel
theorem dL_append_11 : decode cL_append 11 = .ok (.invokevirtual 7, 3) := by decide +kernel
theorem dL_append_14 : decode cL_append 14 = .ok (.i2l, 1) := by decide +kernel
theorem dL_append_15 : decode cL_append 15 = .ok (.lastore, 1) := by decide +kernel
theorem dL_append_16 : decode cL_append 16 = .ok (.goto 7, 3) := by decide +kernel
theorem dL_append_19 : decode cL_append 19 = .ok (.astore 7, 2) := by decide +kernel
theorem dL_append_21 : decode cL_append 21 = .ok (.iconst 1, 1) := by decide +kernel
theorem dL_append_22 : decode cL_append 22 = .ok (.ireturn, 1) := by decide +kernel
theorem dL_append_23 : decode cL_append 23 = .ok (.iconst 0, 1) := by decide +kernel
theorem dL_append_24 : decode cL_append 24 = .ok (.ireturn, 1) := by decide +kernel
theorem cw_L_append : Cond.codeWith yL_append cL_append 8 (some .int) [(0, 16, 19, 13)] ∈ AL := al_mem 913 (by decide +kernel) (by decide +kernel)
theorem dL_truncate_0 : decode cL_truncate 0 = .ok (.aload_n 2, 1) := by decide +kernel
theorem dL_truncate_1 : decode cL_truncate 1 = .ok (.iconst 0, 1) := by decide +kernel
theorem dL_truncate_2 : decode cL_truncate 2 = .ok (.aload_n 0, 1) := by decide +kernel
theorem dL_truncate_3 : decode cL_truncate 3 = .ok (.iload_n 1, 1) := by decide +kernel
theorem dL_truncate_4 : decode cL_truncate 4 = .ok (.invokevirtual 15, 3) := by decide +kernel
theorem dL_truncate_7 : decode cL_truncate 7 = .ok (.i2l, 1) := by decide +kernel
theorem dL_truncate_8 : decode cL_truncate 8 = .ok (.lastore, 1) := by decide +kernel
theorem dL_truncate_9 : decode cL_truncate 9 = .ok (.goto 6, 3) := by decide +kernel
theorem dL_truncate_12 : decode cL_truncate 12 = .ok (.astore_n 3, 1) := by decide +kernel
theorem dL_truncate_13 : decode cL_truncate 13 = .ok (.iconst 1, 1) := by decide +kernel
theorem dL_truncate_14 : decode cL_truncate 14 = .ok (.ireturn, 1) := by decide +kernel
theorem dL_truncate_15 : decode cL_truncate 15 = .ok (.iconst 0, 1) := by decide +kernel
theorem dL_truncate_16 : decode cL_truncate 16 = .ok (.ireturn, 1) := by decide +kernel
theorem cw_L_truncate : Cond.codeWith yL_truncate cL_truncate 4 (some .int) [(0, 9, 12, 19)] ∈ AL := al_mem 996 (by decide +kernel) (by decide +kernel)
theorem dL_isPin_0 : decode cL_isPin 0 = .ok (.aload 4, 2) := by decide +kernel
theorem dL_isPin_2 : decode cL_isPin 2 = .ok (.iconst 0, 1) := by decide +kernel
theorem dL_isPin_3 : decode cL_isPin 3 = .ok (.aload_n 0, 1) := by decide +kernel
theorem dL_isPin_4 : decode cL_isPin 4 = .ok (.iload_n 1, 1) := by decide +kernel
theorem dL_isPin_5 : decode cL_isPin 5 = .ok (.iload_n 2, 1) := by decide +kernel
theorem dL_isPin_6 : decode cL_isPin 6 = .ok (.iload_n 3, 1) := by decide +kernel
theorem dL_isPin_7 : decode cL_isPin 7 = .ok (.invokevirtual 21, 3) := by decide +kernel
theorem dL_isPin_10 : decode cL_isPin 10 = .ok (.ifCond .eq 7, 3) := by decide +kernel
theorem dL_isPin_13 : decode cL_isPin 13 = .ok (.lconst 1, 1) := by decide +kernel
theorem dL_isPin_14 : decode cL_isPin 14 = .ok (.goto 4, 3) := by decide +kernel
theorem dL_isPin_17 : decode cL_isPin 17 = .ok (.lconst 0, 1) := by decide +kernel
theorem dL_isPin_18 : decode cL_isPin 18 = .ok (.lastore, 1) := by decide +kernel
theorem dL_isPin_19 : decode cL_isPin 19 = .ok (.goto 7, 3) := by decide +kernel
theorem dL_isPin_22 : decode cL_isPin 22 = .ok (.astore 5, 2) := by decide +kernel
theorem dL_isPin_24 : decode cL_isPin 24 = .ok (.iconst 1, 1) := by decide +kernel
theorem dL_isPin_25 : decode cL_isPin 25 = .ok (.ireturn, 1) := by decide +kernel
theorem dL_isPin_26 : decode cL_isPin 26 = .ok (.iconst 0, 1) := by decide +kernel
theorem dL_isPin_27 : decode cL_isPin 27 = .ok (.ireturn, 1) := by decide +kernel
theorem cw_L_isPin : Cond.codeWith yL_isPin cL_isPin 6 (some .int) [(0, 19, 22, 25)] ∈ AL := al_mem 1020 (by decide +kernel) (by decide +kernel)
theorem dL_pinCount_0 : decode cL_pinCount 0 = .ok (.aload_n 2, 1) := by decide +kernel
theorem dL_pinCount_1 : decode cL_pinCount 1 = .ok (.iconst 0, 1) := by decide +kernel
theorem dL_pinCount_2 : decode cL_pinCount 2 = .ok (.aload_n 0, 1) := by decide +kernel
theorem dL_pinCount_3 : decode cL_pinCount 3 = .ok (.iload_n 1, 1) := by decide +kernel
theorem dL_pinCount_4 : decode cL_pinCount 4 = .ok (.invokevirtual 27, 3) := by decide +kernel
theorem dL_pinCount_7 : decode cL_pinCount 7 = .ok (.i2l, 1) := by decide +kernel
theorem dL_pinCount_8 : decode cL_pinCount 8 = .ok (.lastore, 1) := by decide +kernel
theorem dL_pinCount_9 : decode cL_pinCount 9 = .ok (.goto 6, 3) := by decide +kernel
theorem dL_pinCount_12 : decode cL_pinCount 12 = .ok (.astore_n 3, 1) := by decide +kernel
theorem dL_pinCount_13 : decode cL_pinCount 13 = .ok (.iconst 1, 1) := by decide +kernel
theorem dL_pinCount_14 : decode cL_pinCount 14 = .ok (.ireturn, 1) := by decide +kernel
theorem dL_pinCount_15 : decode cL_pinCount 15 = .ok (.iconst 0, 1) := by decide +kernel
theorem dL_pinCount_16 : decode cL_pinCount 16 = .ok (.ireturn, 1) := by decide +kernel
theorem cw_L_pinCount : Cond.codeWith yL_pinCount cL_pinCount 4 (some .int) [(0, 9, 12, 25)] ∈ AL := al_mem 1051 (by decide +kernel) (by decide +kernel)
theorem dL_chord_0 : decode cL_chord 0 = .ok (.aload_n 3, 1) := by decide +kernel
theorem dL_chord_1 : decode cL_chord 1 = .ok (.iconst 0, 1) := by decide +kernel
theorem dL_chord_2 : decode cL_chord 2 = .ok (.aload_n 0, 1) := by decide +kernel
theorem dL_chord_3 : decode cL_chord 3 = .ok (.iload_n 1, 1) := by decide +kernel
theorem dL_chord_4 : decode cL_chord 4 = .ok (.iload_n 2, 1) := by decide +kernel
theorem dL_chord_5 : decode cL_chord 5 = .ok (.invokevirtual 30, 3) := by decide +kernel
theorem dL_chord_8 : decode cL_chord 8 = .ok (.i2l, 1) := by decide +kernel
theorem dL_chord_9 : decode cL_chord 9 = .ok (.lastore, 1) := by decide +kernel
theorem dL_chord_10 : decode cL_chord 10 = .ok (.goto 7, 3) := by decide +kernel
theorem dL_chord_13 : decode cL_chord 13 = .ok (.astore 4, 2) := by decide +kernel
theorem dL_chord_15 : decode cL_chord 15 = .ok (.iconst 1, 1) := by decide +kernel
theorem dL_chord_16 : decode cL_chord 16 = .ok (.ireturn, 1) := by decide +kernel
theorem dL_chord_17 : decode cL_chord 17 = .ok (.iconst 0, 1) := by decide +kernel
theorem dL_chord_18 : decode cL_chord 18 = .ok (.ireturn, 1) := by decide +kernel
theorem cw_L_chord : Cond.codeWith yL_chord cL_chord 5 (some .int) [(0, 10, 13, 25)] ∈ AL := al_mem 1069 (by decide +kernel) (by decide +kernel)
theorem dL_distance_0 : decode cL_distance 0 = .ok (.aload 4, 2) := by decide +kernel
theorem dL_distance_2 : decode cL_distance 2 = .ok (.iconst 0, 1) := by decide +kernel
theorem dL_distance_3 : decode cL_distance 3 = .ok (.aload_n 0, 1) := by decide +kernel
theorem dL_distance_4 : decode cL_distance 4 = .ok (.iload_n 1, 1) := by decide +kernel
theorem dL_distance_5 : decode cL_distance 5 = .ok (.iload_n 2, 1) := by decide +kernel
theorem dL_distance_6 : decode cL_distance 6 = .ok (.iload_n 3, 1) := by decide +kernel
theorem dL_distance_7 : decode cL_distance 7 = .ok (.invokevirtual 34, 3) := by decide +kernel
theorem dL_distance_10 : decode cL_distance 10 = .ok (.i2l, 1) := by decide +kernel
theorem dL_distance_11 : decode cL_distance 11 = .ok (.lastore, 1) := by decide +kernel
theorem dL_distance_12 : decode cL_distance 12 = .ok (.goto 11, 3) := by decide +kernel
theorem dL_distance_15 : decode cL_distance 15 = .ok (.astore 5, 2) := by decide +kernel
theorem dL_distance_17 : decode cL_distance 17 = .ok (.iconst 1, 1) := by decide +kernel
theorem dL_distance_18 : decode cL_distance 18 = .ok (.ireturn, 1) := by decide +kernel
theorem dL_distance_19 : decode cL_distance 19 = .ok (.astore 5, 2) := by decide +kernel
theorem dL_distance_21 : decode cL_distance 21 = .ok (.iconst 2, 1) := by decide +kernel
theorem dL_distance_22 : decode cL_distance 22 = .ok (.ireturn, 1) := by decide +kernel
theorem dL_distance_23 : decode cL_distance 23 = .ok (.iconst 0, 1) := by decide +kernel
theorem dL_distance_24 : decode cL_distance 24 = .ok (.ireturn, 1) := by decide +kernel
theorem cw_L_distance : Cond.codeWith yL_distance cL_distance 6 (some .int) [(0, 12, 15, 25), (0, 12, 19, 38)] ∈ AL := al_mem 1083 (by decide +kernel) (by decide +kernel)
theorem dL_closePins_0 : decode cL_closePins 0 = .ok (.aload_n 2, 1) := by decide +kernel
theorem dL_closePins_1 : decode cL_closePins 1 = .ok (.iconst 0, 1) := by decide +kernel
theorem dL_closePins_2 : decode cL_closePins 2 = .ok (.aload_n 0, 1) := by decide +kernel
theorem dL_closePins_3 : decode cL_closePins 3 = .ok (.iload_n 1, 1) := by decide +kernel
theorem dL_closePins_4 : decode cL_closePins 4 = .ok (.invokevirtual 40, 3) := by decide +kernel
theorem dL_closePins_7 : decode cL_closePins 7 = .ok (.i2l, 1) := by decide +kernel
theorem dL_closePins_8 : decode cL_closePins 8 = .ok (.lastore, 1) := by decide +kernel
theorem dL_closePins_9 : decode cL_closePins 9 = .ok (.goto 6, 3) := by decide +kernel
theorem dL_closePins_12 : decode cL_closePins 12 = .ok (.astore_n 3, 1) := by decide +kernel
theorem dL_closePins_13 : decode cL_closePins 13 = .ok (.iconst 1, 1) := by decide +kernel
theorem dL_closePins_14 : decode cL_closePins 14 = .ok (.ireturn, 1) := by decide +kernel
theorem dL_closePins_15 : decode cL_closePins 15 = .ok (.iconst 0, 1) := by decide +kernel
theorem dL_closePins_16 : decode cL_closePins 16 = .ok (.ireturn, 1) := by decide +kernel
theorem cw_L_closePins : Cond.codeWith yL_closePins cL_closePins 4 (some .int) [(0, 9, 12, 25)] ∈ AL := al_mem 1111 (by decide +kernel) (by decide +kernel)
theorem dL_longestRest_0 : decode cL_longestRest 0 = .ok (.aload_n 2, 1) := by decide +kernel
theorem dL_longestRest_1 : decode cL_longestRest 1 = .ok (.iconst 0, 1) := by decide +kernel
theorem dL_longestRest_2 : decode cL_longestRest 2 = .ok (.aload_n 0, 1) := by decide +kernel
theorem dL_longestRest_3 : decode cL_longestRest 3 = .ok (.iload_n 1, 1) := by decide +kernel
theorem dL_longestRest_4 : decode cL_longestRest 4 = .ok (.invokevirtual 43, 3) := by decide +kernel
theorem dL_longestRest_7 : decode cL_longestRest 7 = .ok (.i2l, 1) := by decide +kernel
theorem dL_longestRest_8 : decode cL_longestRest 8 = .ok (.lastore, 1) := by decide +kernel
theorem dL_longestRest_9 : decode cL_longestRest 9 = .ok (.goto 6, 3) := by decide +kernel
theorem dL_longestRest_12 : decode cL_longestRest 12 = .ok (.astore_n 3, 1) := by decide +kernel
theorem dL_longestRest_13 : decode cL_longestRest 13 = .ok (.iconst 1, 1) := by decide +kernel
theorem dL_longestRest_14 : decode cL_longestRest 14 = .ok (.ireturn, 1) := by decide +kernel
theorem dL_longestRest_15 : decode cL_longestRest 15 = .ok (.iconst 0, 1) := by decide +kernel
theorem dL_longestRest_16 : decode cL_longestRest 16 = .ok (.ireturn, 1) := by decide +kernel
theorem cw_L_longestRest : Cond.codeWith yL_longestRest cL_longestRest 4 (some .int) [(0, 9, 12, 25)] ∈ AL := al_mem 1127 (by decide +kernel) (by decide +kernel)
theorem dL_soundingPitch_0 : decode cL_soundingPitch 0 = .ok (.aload_n 2, 1) := by decide +kernel
theorem dL_soundingPitch_1 : decode cL_soundingPitch 1 = .ok (.iconst 0, 1) := by decide +kernel
theorem dL_soundingPitch_2 : decode cL_soundingPitch 2 = .ok (.aload_n 0, 1) := by decide +kernel
theorem dL_soundingPitch_3 : decode cL_soundingPitch 3 = .ok (.iload_n 1, 1) := by decide +kernel
theorem dL_soundingPitch_4 : decode cL_soundingPitch 4 = .ok (.invokevirtual 46, 3) := by decide +kernel
theorem dL_soundingPitch_7 : decode cL_soundingPitch 7 = .ok (.i2l, 1) := by decide +kernel
theorem dL_soundingPitch_8 : decode cL_soundingPitch 8 = .ok (.lastore, 1) := by decide +kernel
theorem dL_soundingPitch_9 : decode cL_soundingPitch 9 = .ok (.goto 6, 3) := by decide +kernel
theorem dL_soundingPitch_12 : decode cL_soundingPitch 12 = .ok (.astore_n 3, 1) := by decide +kernel
theorem dL_soundingPitch_13 : decode cL_soundingPitch 13 = .ok (.iconst 1, 1) := by decide +kernel
theorem dL_soundingPitch_14 : decode cL_soundingPitch 14 = .ok (.ireturn, 1) := by decide +kernel
theorem dL_soundingPitch_15 : decode cL_soundingPitch 15 = .ok (.iconst 0, 1) := by decide +kernel
theorem dL_soundingPitch_16 : decode cL_soundingPitch 16 = .ok (.ireturn, 1) := by decide +kernel
theorem cw_L_soundingPitch : Cond.codeWith yL_soundingPitch cL_soundingPitch 4 (some .int) [(0, 9, 12, 25)] ∈ AL := al_mem 1141 (by decide +kernel) (by decide +kernel)
theorem dL_bendOf_0 : decode cL_bendOf 0 = .ok (.aload_n 2, 1) := by decide +kernel
theorem dL_bendOf_1 : decode cL_bendOf 1 = .ok (.iconst 0, 1) := by decide +kernel
theorem dL_bendOf_2 : decode cL_bendOf 2 = .ok (.aload_n 0, 1) := by decide +kernel
theorem dL_bendOf_3 : decode cL_bendOf 3 = .ok (.iload_n 1, 1) := by decide +kernel
theorem dL_bendOf_4 : decode cL_bendOf 4 = .ok (.invokevirtual 49, 3) := by decide +kernel
theorem dL_bendOf_7 : decode cL_bendOf 7 = .ok (.i2l, 1) := by decide +kernel
theorem dL_bendOf_8 : decode cL_bendOf 8 = .ok (.lastore, 1) := by decide +kernel
theorem dL_bendOf_9 : decode cL_bendOf 9 = .ok (.goto 6, 3) := by decide +kernel
theorem dL_bendOf_12 : decode cL_bendOf 12 = .ok (.astore_n 3, 1) := by decide +kernel
theorem dL_bendOf_13 : decode cL_bendOf 13 = .ok (.iconst 1, 1) := by decide +kernel
theorem dL_bendOf_14 : decode cL_bendOf 14 = .ok (.ireturn, 1) := by decide +kernel
theorem dL_bendOf_15 : decode cL_bendOf 15 = .ok (.iconst 0, 1) := by decide +kernel
theorem dL_bendOf_16 : decode cL_bendOf 16 = .ok (.ireturn, 1) := by decide +kernel
theorem cw_L_bendOf : Cond.codeWith yL_bendOf cL_bendOf 4 (some .int) [(0, 9, 12, 25)] ∈ AL := al_mem 1149 (by decide +kernel) (by decide +kernel)
theorem dL_gap_0 : decode cL_gap 0 = .ok (.aload_n 2, 1) := by decide +kernel
theorem dL_gap_1 : decode cL_gap 1 = .ok (.iconst 0, 1) := by decide +kernel
theorem dL_gap_2 : decode cL_gap 2 = .ok (.aload_n 0, 1) := by decide +kernel
theorem dL_gap_3 : decode cL_gap 3 = .ok (.iload_n 1, 1) := by decide +kernel
theorem dL_gap_4 : decode cL_gap 4 = .ok (.invokevirtual 52, 3) := by decide +kernel
theorem dL_gap_7 : decode cL_gap 7 = .ok (.i2l, 1) := by decide +kernel
theorem dL_gap_8 : decode cL_gap 8 = .ok (.lastore, 1) := by decide +kernel
theorem dL_gap_9 : decode cL_gap 9 = .ok (.goto 6, 3) := by decide +kernel
theorem dL_gap_12 : decode cL_gap 12 = .ok (.astore_n 3, 1) := by decide +kernel
theorem dL_gap_13 : decode cL_gap 13 = .ok (.iconst 1, 1) := by decide +kernel
theorem dL_gap_14 : decode cL_gap 14 = .ok (.ireturn, 1) := by decide +kernel
theorem dL_gap_15 : decode cL_gap 15 = .ok (.iconst 0, 1) := by decide +kernel
theorem dL_gap_16 : decode cL_gap 16 = .ok (.ireturn, 1) := by decide +kernel
theorem cw_L_gap : Cond.codeWith yL_gap cL_gap 4 (some .int) [(0, 9, 12, 25)] ∈ AL := al_mem 1156 (by decide +kernel) (by decide +kernel)
theorem dL_wear_0 : decode cL_wear 0 = .ok (.aload_n 2, 1) := by decide +kernel
theorem dL_wear_1 : decode cL_wear 1 = .ok (.iconst 0, 1) := by decide +kernel
theorem dL_wear_2 : decode cL_wear 2 = .ok (.aload_n 0, 1) := by decide +kernel
theorem dL_wear_3 : decode cL_wear 3 = .ok (.iload_n 1, 1) := by decide +kernel
theorem dL_wear_4 : decode cL_wear 4 = .ok (.invokevirtual 55, 3) := by decide +kernel
theorem dL_wear_7 : decode cL_wear 7 = .ok (.i2l, 1) := by decide +kernel
theorem dL_wear_8 : decode cL_wear 8 = .ok (.lastore, 1) := by decide +kernel
theorem dL_wear_9 : decode cL_wear 9 = .ok (.goto 6, 3) := by decide +kernel
theorem dL_wear_12 : decode cL_wear 12 = .ok (.astore_n 3, 1) := by decide +kernel
theorem dL_wear_13 : decode cL_wear 13 = .ok (.iconst 1, 1) := by decide +kernel
theorem dL_wear_14 : decode cL_wear 14 = .ok (.ireturn, 1) := by decide +kernel
theorem dL_wear_15 : decode cL_wear 15 = .ok (.iconst 0, 1) := by decide +kernel
theorem dL_wear_16 : decode cL_wear 16 = .ok (.ireturn, 1) := by decide +kernel
theorem cw_L_wear : Cond.codeWith yL_wear cL_wear 4 (some .int) [(0, 9, 12, 25)] ∈ AL := al_mem 1163 (by decide +kernel) (by decide +kernel)
theorem dL_silence_0 : decode cL_silence 0 = .ok (.aload_n 2, 1) := by decide +kernel
theorem dL_silence_1 : decode cL_silence 1 = .ok (.iconst 0, 1) := by decide +kernel
theorem dL_silence_2 : decode cL_silence 2 = .ok (.aload_n 0, 1) := by decide +kernel
theorem dL_silence_3 : decode cL_silence 3 = .ok (.iload_n 1, 1) := by decide +kernel
theorem dL_silence_4 : decode cL_silence 4 = .ok (.invokevirtual 58, 3) := by decide +kernel
theorem dL_silence_7 : decode cL_silence 7 = .ok (.i2l, 1) := by decide +kernel
theorem dL_silence_8 : decode cL_silence 8 = .ok (.lastore, 1) := by decide +kernel
theorem dL_silence_9 : decode cL_silence 9 = .ok (.goto 6, 3) := by decide +kernel
theorem dL_silence_12 : decode cL_silence 12 = .ok (.astore_n 3, 1) := by decide +kernel
theorem dL_silence_13 : decode cL_silence 13 = .ok (.iconst 1, 1) := by decide +kernel
theorem dL_silence_14 : decode cL_silence 14 = .ok (.ireturn, 1) := by decide +kernel
theorem dL_silence_15 : decode cL_silence 15 = .ok (.iconst 0, 1) := by decide +kernel
theorem dL_silence_16 : decode cL_silence 16 = .ok (.ireturn, 1) := by decide +kernel
theorem cw_L_silence : Cond.codeWith yL_silence cL_silence 4 (some .int) [(0, 9, 12, 25)] ∈ AL := al_mem 1170 (by decide +kernel) (by decide +kernel)
theorem dL_isBroken_0 : decode cL_isBroken 0 = .ok (.aload_n 2, 1) := by decide +kernel
theorem dL_isBroken_1 : decode cL_isBroken 1 = .ok (.iconst 0, 1) := by decide +kernel
theorem dL_isBroken_2 : decode cL_isBroken 2 = .ok (.aload_n 0, 1) := by decide +kernel
theorem dL_isBroken_3 : decode cL_isBroken 3 = .ok (.iload_n 1, 1) := by decide +kernel
theorem dL_isBroken_4 : decode cL_isBroken 4 = .ok (.invokevirtual 61, 3) := by decide +kernel
theorem dL_isBroken_7 : decode cL_isBroken 7 = .ok (.ifCond .eq 7, 3) := by decide +kernel
theorem dL_isBroken_10 : decode cL_isBroken 10 = .ok (.lconst 1, 1) := by decide +kernel
theorem dL_isBroken_11 : decode cL_isBroken 11 = .ok (.goto 4, 3) := by decide +kernel
theorem dL_isBroken_14 : decode cL_isBroken 14 = .ok (.lconst 0, 1) := by decide +kernel
theorem dL_isBroken_15 : decode cL_isBroken 15 = .ok (.lastore, 1) := by decide +kernel
theorem dL_isBroken_16 : decode cL_isBroken 16 = .ok (.goto 6, 3) := by decide +kernel
theorem dL_isBroken_19 : decode cL_isBroken 19 = .ok (.astore_n 3, 1) := by decide +kernel
theorem dL_isBroken_20 : decode cL_isBroken 20 = .ok (.iconst 1, 1) := by decide +kernel
theorem dL_isBroken_21 : decode cL_isBroken 21 = .ok (.ireturn, 1) := by decide +kernel
theorem dL_isBroken_22 : decode cL_isBroken 22 = .ok (.iconst 0, 1) := by decide +kernel
theorem dL_isBroken_23 : decode cL_isBroken 23 = .ok (.ireturn, 1) := by decide +kernel
theorem cw_L_isBroken : Cond.codeWith yL_isBroken cL_isBroken 4 (some .int) [(0, 16, 19, 25)] ∈ AL := al_mem 1177 (by decide +kernel) (by decide +kernel)
theorem dL_nextSound_0 : decode cL_nextSound 0 = .ok (.aload_n 2, 1) := by decide +kernel
theorem dL_nextSound_1 : decode cL_nextSound 1 = .ok (.iconst 0, 1) := by decide +kernel
theorem dL_nextSound_2 : decode cL_nextSound 2 = .ok (.aload_n 0, 1) := by decide +kernel
theorem dL_nextSound_3 : decode cL_nextSound 3 = .ok (.iload_n 1, 1) := by decide +kernel
theorem dL_nextSound_4 : decode cL_nextSound 4 = .ok (.invokevirtual 65, 3) := by decide +kernel
theorem dL_nextSound_7 : decode cL_nextSound 7 = .ok (.i2l, 1) := by decide +kernel
theorem dL_nextSound_8 : decode cL_nextSound 8 = .ok (.lastore, 1) := by decide +kernel
theorem dL_nextSound_9 : decode cL_nextSound 9 = .ok (.goto 6, 3) := by decide +kernel
theorem dL_nextSound_12 : decode cL_nextSound 12 = .ok (.astore_n 3, 1) := by decide +kernel
theorem dL_nextSound_13 : decode cL_nextSound 13 = .ok (.iconst 1, 1) := by decide +kernel
theorem dL_nextSound_14 : decode cL_nextSound 14 = .ok (.ireturn, 1) := by decide +kernel
theorem dL_nextSound_15 : decode cL_nextSound 15 = .ok (.iconst 0, 1) := by decide +kernel
theorem dL_nextSound_16 : decode cL_nextSound 16 = .ok (.ireturn, 1) := by decide +kernel
theorem cw_L_nextSound : Cond.codeWith yL_nextSound cL_nextSound 4 (some .int) [(0, 9, 12, 25)] ∈ AL := al_mem 1184 (by decide +kernel) (by decide +kernel)
theorem dL_meanPitch_0 : decode cL_meanPitch 0 = .ok (.aload_n 2, 1) := by decide +kernel
theorem dL_meanPitch_1 : decode cL_meanPitch 1 = .ok (.iconst 0, 1) := by decide +kernel
theorem dL_meanPitch_2 : decode cL_meanPitch 2 = .ok (.aload_n 0, 1) := by decide +kernel
theorem dL_meanPitch_3 : decode cL_meanPitch 3 = .ok (.iload_n 1, 1) := by decide +kernel
theorem dL_meanPitch_4 : decode cL_meanPitch 4 = .ok (.invokevirtual 68, 3) := by decide +kernel
theorem dL_meanPitch_7 : decode cL_meanPitch 7 = .ok (.dastore, 1) := by decide +kernel
theorem dL_meanPitch_8 : decode cL_meanPitch 8 = .ok (.goto 6, 3) := by decide +kernel
theorem dL_meanPitch_11 : decode cL_meanPitch 11 = .ok (.astore_n 3, 1) := by decide +kernel
theorem dL_meanPitch_12 : decode cL_meanPitch 12 = .ok (.iconst 1, 1) := by decide +kernel
theorem dL_meanPitch_13 : decode cL_meanPitch 13 = .ok (.ireturn, 1) := by decide +kernel
theorem dL_meanPitch_14 : decode cL_meanPitch 14 = .ok (.iconst 0, 1) := by decide +kernel
theorem dL_meanPitch_15 : decode cL_meanPitch 15 = .ok (.ireturn, 1) := by decide +kernel
theorem cw_L_meanPitch : Cond.codeWith yL_meanPitch cL_meanPitch 4 (some .int) [(0, 8, 11, 25)] ∈ AL := al_mem 1192 (by decide +kernel) (by decide +kernel)
theorem dL_density_0 : decode cL_density 0 = .ok (.aload_n 2, 1) := by decide +kernel
theorem dL_density_1 : decode cL_density 1 = .ok (.iconst 0, 1) := by decide +kernel
theorem dL_density_2 : decode cL_density 2 = .ok (.aload_n 0, 1) := by decide +kernel
theorem dL_density_3 : decode cL_density 3 = .ok (.iload_n 1, 1) := by decide +kernel
theorem dL_density_4 : decode cL_density 4 = .ok (.invokevirtual 72, 3) := by decide +kernel
theorem dL_density_7 : decode cL_density 7 = .ok (.f2d, 1) := by decide +kernel
theorem dL_density_8 : decode cL_density 8 = .ok (.dastore, 1) := by decide +kernel
theorem dL_density_9 : decode cL_density 9 = .ok (.goto 6, 3) := by decide +kernel
theorem dL_density_12 : decode cL_density 12 = .ok (.astore_n 3, 1) := by decide +kernel
theorem dL_density_13 : decode cL_density 13 = .ok (.iconst 1, 1) := by decide +kernel
theorem dL_density_14 : decode cL_density 14 = .ok (.ireturn, 1) := by decide +kernel
theorem dL_density_15 : decode cL_density 15 = .ok (.iconst 0, 1) := by decide +kernel
theorem dL_density_16 : decode cL_density 16 = .ok (.ireturn, 1) := by decide +kernel
theorem cw_L_density : Cond.codeWith yL_density cL_density 4 (some .int) [(0, 9, 12, 25)] ∈ AL := al_mem 1206 (by decide +kernel) (by decide +kernel)
theorem dL_stepsUntilBroken_0 : decode cL_stepsUntilBroken 0 = .ok (.aload_n 2, 1) := by decide +kernel
theorem dL_stepsUntilBroken_1 : decode cL_stepsUntilBroken 1 = .ok (.iconst 0, 1) := by decide +kernel
theorem dL_stepsUntilBroken_2 : decode cL_stepsUntilBroken 2 = .ok (.aload_n 0, 1) := by decide +kernel
theorem dL_stepsUntilBroken_3 : decode cL_stepsUntilBroken 3 = .ok (.iload_n 1, 1) := by decide +kernel
theorem dL_stepsUntilBroken_4 : decode cL_stepsUntilBroken 4 = .ok (.invokevirtual 76, 3) := by decide +kernel
theorem dL_stepsUntilBroken_7 : decode cL_stepsUntilBroken 7 = .ok (.i2l, 1) := by decide +kernel
theorem dL_stepsUntilBroken_8 : decode cL_stepsUntilBroken 8 = .ok (.lastore, 1) := by decide +kernel
theorem dL_stepsUntilBroken_9 : decode cL_stepsUntilBroken 9 = .ok (.goto 6, 3) := by decide +kernel
theorem dL_stepsUntilBroken_12 : decode cL_stepsUntilBroken 12 = .ok (.astore_n 3, 1) := by decide +kernel
theorem dL_stepsUntilBroken_13 : decode cL_stepsUntilBroken 13 = .ok (.iconst 1, 1) := by decide +kernel
theorem dL_stepsUntilBroken_14 : decode cL_stepsUntilBroken 14 = .ok (.ireturn, 1) := by decide +kernel
theorem dL_stepsUntilBroken_15 : decode cL_stepsUntilBroken 15 = .ok (.iconst 0, 1) := by decide +kernel
theorem dL_stepsUntilBroken_16 : decode cL_stepsUntilBroken 16 = .ok (.ireturn, 1) := by decide +kernel
theorem cw_L_stepsUntilBroken : Cond.codeWith yL_stepsUntilBroken cL_stepsUntilBroken 4 (some .int) [(0, 9, 12, 25)] ∈ AL := al_mem 1213 (by decide +kernel) (by decide +kernel)
theorem dL_notesIn_0 : decode cL_notesIn 0 = .ok (.aload_n 2, 1) := by decide +kernel
theorem dL_notesIn_1 : decode cL_notesIn 1 = .ok (.iconst 0, 1) := by decide +kernel
theorem dL_notesIn_2 : decode cL_notesIn 2 = .ok (.aload_n 0, 1) := by decide +kernel
theorem dL_notesIn_3 : decode cL_notesIn 3 = .ok (.iload_n 1, 1) := by decide +kernel
theorem dL_notesIn_4 : decode cL_notesIn 4 = .ok (.invokevirtual 79, 3) := by decide +kernel
theorem dL_notesIn_7 : decode cL_notesIn 7 = .ok (.i2l, 1) := by decide +kernel
theorem dL_notesIn_8 : decode cL_notesIn 8 = .ok (.lastore, 1) := by decide +kernel
theorem dL_notesIn_9 : decode cL_notesIn 9 = .ok (.goto 6, 3) := by decide +kernel
theorem dL_notesIn_12 : decode cL_notesIn 12 = .ok (.astore_n 3, 1) := by decide +kernel
theorem dL_notesIn_13 : decode cL_notesIn 13 = .ok (.iconst 1, 1) := by decide +kernel
theorem dL_notesIn_14 : decode cL_notesIn 14 = .ok (.ireturn, 1) := by decide +kernel
theorem dL_notesIn_15 : decode cL_notesIn 15 = .ok (.iconst 0, 1) := by decide +kernel
theorem dL_notesIn_16 : decode cL_notesIn 16 = .ok (.ireturn, 1) := by decide +kernel
theorem cw_L_notesIn : Cond.codeWith yL_notesIn cL_notesIn 4 (some .int) [(0, 9, 12, 19)] ∈ AL := al_mem 1221 (by decide +kernel) (by decide +kernel)
theorem dL_squeaksIn_0 : decode cL_squeaksIn 0 = .ok (.aload_n 2, 1) := by decide +kernel
theorem dL_squeaksIn_1 : decode cL_squeaksIn 1 = .ok (.iconst 0, 1) := by decide +kernel
theorem dL_squeaksIn_2 : decode cL_squeaksIn 2 = .ok (.aload_n 0, 1) := by decide +kernel
theorem dL_squeaksIn_3 : decode cL_squeaksIn 3 = .ok (.iload_n 1, 1) := by decide +kernel
theorem dL_squeaksIn_4 : decode cL_squeaksIn 4 = .ok (.invokevirtual 82, 3) := by decide +kernel
theorem dL_squeaksIn_7 : decode cL_squeaksIn 7 = .ok (.i2l, 1) := by decide +kernel
theorem dL_squeaksIn_8 : decode cL_squeaksIn 8 = .ok (.lastore, 1) := by decide +kernel
theorem dL_squeaksIn_9 : decode cL_squeaksIn 9 = .ok (.goto 6, 3) := by decide +kernel
theorem dL_squeaksIn_12 : decode cL_squeaksIn 12 = .ok (.astore_n 3, 1) := by decide +kernel
theorem dL_squeaksIn_13 : decode cL_squeaksIn 13 = .ok (.iconst 1, 1) := by decide +kernel
theorem dL_squeaksIn_14 : decode cL_squeaksIn 14 = .ok (.ireturn, 1) := by decide +kernel
theorem dL_squeaksIn_15 : decode cL_squeaksIn 15 = .ok (.iconst 0, 1) := by decide +kernel
theorem dL_squeaksIn_16 : decode cL_squeaksIn 16 = .ok (.ireturn, 1) := by decide +kernel
theorem cw_L_squeaksIn : Cond.codeWith yL_squeaksIn cL_squeaksIn 4 (some .int) [(0, 9, 12, 19)] ∈ AL := al_mem 1229 (by decide +kernel) (by decide +kernel)
theorem dL_addPin_0 : decode cL_addPin 0 = .ok (.aload 4, 2) := by decide +kernel
theorem dL_addPin_2 : decode cL_addPin 2 = .ok (.iconst 0, 1) := by decide +kernel
theorem dL_addPin_3 : decode cL_addPin 3 = .ok (.aload_n 0, 1) := by decide +kernel
theorem dL_addPin_4 : decode cL_addPin 4 = .ok (.iload_n 1, 1) := by decide +kernel
theorem dL_addPin_5 : decode cL_addPin 5 = .ok (.iload_n 2, 1) := by decide +kernel
theorem dL_addPin_6 : decode cL_addPin 6 = .ok (.iload_n 3, 1) := by decide +kernel
theorem dL_addPin_7 : decode cL_addPin 7 = .ok (.invokevirtual 85, 3) := by decide +kernel
theorem dL_addPin_10 : decode cL_addPin 10 = .ok (.i2l, 1) := by decide +kernel
theorem dL_addPin_11 : decode cL_addPin 11 = .ok (.lastore, 1) := by decide +kernel
theorem dL_addPin_12 : decode cL_addPin 12 = .ok (.goto 11, 3) := by decide +kernel
theorem dL_addPin_15 : decode cL_addPin 15 = .ok (.astore 5, 2) := by decide +kernel
theorem dL_addPin_17 : decode cL_addPin 17 = .ok (.iconst 1, 1) := by decide +kernel
theorem dL_addPin_18 : decode cL_addPin 18 = .ok (.ireturn, 1) := by decide +kernel
theorem dL_addPin_19 : decode cL_addPin 19 = .ok (.astore 5, 2) := by decide +kernel
theorem dL_addPin_21 : decode cL_addPin 21 = .ok (.iconst 2, 1) := by decide +kernel
theorem dL_addPin_22 : decode cL_addPin 22 = .ok (.ireturn, 1) := by decide +kernel
theorem dL_addPin_23 : decode cL_addPin 23 = .ok (.iconst 0, 1) := by decide +kernel
theorem dL_addPin_24 : decode cL_addPin 24 = .ok (.ireturn, 1) := by decide +kernel
theorem cw_L_addPin : Cond.codeWith yL_addPin cL_addPin 6 (some .int) [(0, 12, 15, 25), (0, 12, 19, 13)] ∈ AL := al_mem 1236 (by decide +kernel) (by decide +kernel)
theorem dL_removePin_0 : decode cL_removePin 0 = .ok (.aload 4, 2) := by decide +kernel
theorem dL_removePin_2 : decode cL_removePin 2 = .ok (.iconst 0, 1) := by decide +kernel
theorem dL_removePin_3 : decode cL_removePin 3 = .ok (.aload_n 0, 1) := by decide +kernel
theorem dL_removePin_4 : decode cL_removePin 4 = .ok (.iload_n 1, 1) := by decide +kernel
theorem dL_removePin_5 : decode cL_removePin 5 = .ok (.iload_n 2, 1) := by decide +kernel
theorem dL_removePin_6 : decode cL_removePin 6 = .ok (.iload_n 3, 1) := by decide +kernel
theorem dL_removePin_7 : decode cL_removePin 7 = .ok (.invokevirtual 88, 3) := by decide +kernel
theorem dL_removePin_10 : decode cL_removePin 10 = .ok (.i2l, 1) := by decide +kernel
theorem dL_removePin_11 : decode cL_removePin 11 = .ok (.lastore, 1) := by decide +kernel
theorem dL_removePin_12 : decode cL_removePin 12 = .ok (.goto 11, 3) := by decide +kernel
theorem dL_removePin_15 : decode cL_removePin 15 = .ok (.astore 5, 2) := by decide +kernel
theorem dL_removePin_17 : decode cL_removePin 17 = .ok (.iconst 1, 1) := by decide +kernel
theorem dL_removePin_18 : decode cL_removePin 18 = .ok (.ireturn, 1) := by decide +kernel
theorem dL_removePin_19 : decode cL_removePin 19 = .ok (.astore 5, 2) := by decide +kernel
theorem dL_removePin_21 : decode cL_removePin 21 = .ok (.iconst 2, 1) := by decide +kernel
theorem dL_removePin_22 : decode cL_removePin 22 = .ok (.ireturn, 1) := by decide +kernel
theorem dL_removePin_23 : decode cL_removePin 23 = .ok (.iconst 0, 1) := by decide +kernel
theorem dL_removePin_24 : decode cL_removePin 24 = .ok (.ireturn, 1) := by decide +kernel
theorem cw_L_removePin : Cond.codeWith yL_removePin cL_removePin 6 (some .int) [(0, 12, 15, 25), (0, 12, 19, 13)] ∈ AL := al_mem 1245 (by decide +kernel) (by decide +kernel)
theorem dL_shift_0 : decode cL_shift 0 = .ok (.aload_n 3, 1) := by decide +kernel
theorem dL_shift_1 : decode cL_shift 1 = .ok (.iconst 0, 1) := by decide +kernel
theorem dL_shift_2 : decode cL_shift 2 = .ok (.aload_n 0, 1) := by decide +kernel
theorem dL_shift_3 : decode cL_shift 3 = .ok (.iload_n 1, 1) := by decide +kernel
theorem dL_shift_4 : decode cL_shift 4 = .ok (.iload_n 2, 1) := by decide +kernel
theorem dL_shift_5 : decode cL_shift 5 = .ok (.invokevirtual 91, 3) := by decide +kernel
theorem dL_shift_8 : decode cL_shift 8 = .ok (.i2l, 1) := by decide +kernel
theorem dL_shift_9 : decode cL_shift 9 = .ok (.lastore, 1) := by decide +kernel
theorem dL_shift_10 : decode cL_shift 10 = .ok (.goto 11, 3) := by decide +kernel
theorem dL_shift_13 : decode cL_shift 13 = .ok (.astore 4, 2) := by decide +kernel
theorem dL_shift_15 : decode cL_shift 15 = .ok (.iconst 1, 1) := by decide +kernel
theorem dL_shift_16 : decode cL_shift 16 = .ok (.ireturn, 1) := by decide +kernel
theorem dL_shift_17 : decode cL_shift 17 = .ok (.astore 4, 2) := by decide +kernel
theorem dL_shift_19 : decode cL_shift 19 = .ok (.iconst 2, 1) := by decide +kernel
theorem dL_shift_20 : decode cL_shift 20 = .ok (.ireturn, 1) := by decide +kernel
theorem dL_shift_21 : decode cL_shift 21 = .ok (.iconst 0, 1) := by decide +kernel
theorem dL_shift_22 : decode cL_shift 22 = .ok (.ireturn, 1) := by decide +kernel
theorem cw_L_shift : Cond.codeWith yL_shift cL_shift 5 (some .int) [(0, 10, 13, 25), (0, 10, 17, 19)] ∈ AL := al_mem 1254 (by decide +kernel) (by decide +kernel)
theorem dL_transpose_0 : decode cL_transpose 0 = .ok (.aload_n 3, 1) := by decide +kernel
theorem dL_transpose_1 : decode cL_transpose 1 = .ok (.iconst 0, 1) := by decide +kernel
theorem dL_transpose_2 : decode cL_transpose 2 = .ok (.aload_n 0, 1) := by decide +kernel
theorem dL_transpose_3 : decode cL_transpose 3 = .ok (.iload_n 1, 1) := by decide +kernel
theorem dL_transpose_4 : decode cL_transpose 4 = .ok (.iload_n 2, 1) := by decide +kernel
theorem dL_transpose_5 : decode cL_transpose 5 = .ok (.invokevirtual 94, 3) := by decide +kernel
theorem dL_transpose_8 : decode cL_transpose 8 = .ok (.i2l, 1) := by decide +kernel
theorem dL_transpose_9 : decode cL_transpose 9 = .ok (.lastore, 1) := by decide +kernel
theorem dL_transpose_10 : decode cL_transpose 10 = .ok (.goto 15, 3) := by decide +kernel
theorem dL_transpose_13 : decode cL_transpose 13 = .ok (.astore 4, 2) := by decide +kernel
theorem dL_transpose_15 : decode cL_transpose 15 = .ok (.iconst 1, 1) := by decide +kernel
theorem dL_transpose_16 : decode cL_transpose 16 = .ok (.ireturn, 1) := by decide +kernel
theorem dL_transpose_17 : decode cL_transpose 17 = .ok (.astore 4, 2) := by decide +kernel
theorem dL_transpose_19 : decode cL_transpose 19 = .ok (.iconst 2, 1) := by decide +kernel
theorem dL_transpose_20 : decode cL_transpose 20 = .ok (.ireturn, 1) := by decide +kernel
theorem dL_transpose_21 : decode cL_transpose 21 = .ok (.astore 4, 2) := by decide +kernel
theorem dL_transpose_23 : decode cL_transpose 23 = .ok (.iconst 3, 1) := by decide +kernel
theorem dL_transpose_24 : decode cL_transpose 24 = .ok (.ireturn, 1) := by decide +kernel
theorem dL_transpose_25 : decode cL_transpose 25 = .ok (.iconst 0, 1) := by decide +kernel
theorem dL_transpose_26 : decode cL_transpose 26 = .ok (.ireturn, 1) := by decide +kernel
theorem cw_L_transpose : Cond.codeWith yL_transpose cL_transpose 5 (some .int) [(0, 10, 13, 25), (0, 10, 17, 19), (0, 10, 21, 13)] ∈ AL := al_mem 1272 (by decide +kernel) (by decide +kernel)
theorem dL_copyTune_0 : decode cL_copyTune 0 = .ok (.aload_n 3, 1) := by decide +kernel
theorem dL_copyTune_1 : decode cL_copyTune 1 = .ok (.iconst 0, 1) := by decide +kernel
theorem dL_copyTune_2 : decode cL_copyTune 2 = .ok (.aload_n 0, 1) := by decide +kernel
theorem dL_copyTune_3 : decode cL_copyTune 3 = .ok (.iload_n 1, 1) := by decide +kernel
theorem dL_copyTune_4 : decode cL_copyTune 4 = .ok (.iload_n 2, 1) := by decide +kernel
theorem dL_copyTune_5 : decode cL_copyTune 5 = .ok (.invokevirtual 97, 3) := by decide +kernel
theorem dL_copyTune_8 : decode cL_copyTune 8 = .ok (.i2l, 1) := by decide +kernel
theorem dL_copyTune_9 : decode cL_copyTune 9 = .ok (.lastore, 1) := by decide +kernel
theorem dL_copyTune_10 : decode cL_copyTune 10 = .ok (.goto 11, 3) := by decide +kernel
theorem dL_copyTune_13 : decode cL_copyTune 13 = .ok (.astore 4, 2) := by decide +kernel
theorem dL_copyTune_15 : decode cL_copyTune 15 = .ok (.iconst 1, 1) := by decide +kernel
theorem dL_copyTune_16 : decode cL_copyTune 16 = .ok (.ireturn, 1) := by decide +kernel
theorem dL_copyTune_17 : decode cL_copyTune 17 = .ok (.astore 4, 2) := by decide +kernel
theorem dL_copyTune_19 : decode cL_copyTune 19 = .ok (.iconst 2, 1) := by decide +kernel
theorem dL_copyTune_20 : decode cL_copyTune 20 = .ok (.ireturn, 1) := by decide +kernel
theorem dL_copyTune_21 : decode cL_copyTune 21 = .ok (.iconst 0, 1) := by decide +kernel
theorem dL_copyTune_22 : decode cL_copyTune 22 = .ok (.ireturn, 1) := by decide +kernel
theorem cw_L_copyTune : Cond.codeWith yL_copyTune cL_copyTune 5 (some .int) [(0, 10, 13, 25), (0, 10, 17, 19)] ∈ AL := al_mem 1287 (by decide +kernel) (by decide +kernel)
theorem dL_selectTune_0 : decode cL_selectTune 0 = .ok (.aload_n 2, 1) := by decide +kernel
theorem dL_selectTune_1 : decode cL_selectTune 1 = .ok (.iconst 0, 1) := by decide +kernel
theorem dL_selectTune_2 : decode cL_selectTune 2 = .ok (.aload_n 0, 1) := by decide +kernel
theorem dL_selectTune_3 : decode cL_selectTune 3 = .ok (.iload_n 1, 1) := by decide +kernel
theorem dL_selectTune_4 : decode cL_selectTune 4 = .ok (.invokevirtual 100, 3) := by decide +kernel
theorem dL_selectTune_7 : decode cL_selectTune 7 = .ok (.i2l, 1) := by decide +kernel
theorem dL_selectTune_8 : decode cL_selectTune 8 = .ok (.lastore, 1) := by decide +kernel
theorem dL_selectTune_9 : decode cL_selectTune 9 = .ok (.goto 6, 3) := by decide +kernel
theorem dL_selectTune_12 : decode cL_selectTune 12 = .ok (.astore_n 3, 1) := by decide +kernel
theorem dL_selectTune_13 : decode cL_selectTune 13 = .ok (.iconst 1, 1) := by decide +kernel
theorem dL_selectTune_14 : decode cL_selectTune 14 = .ok (.ireturn, 1) := by decide +kernel
theorem dL_selectTune_15 : decode cL_selectTune 15 = .ok (.iconst 0, 1) := by decide +kernel
theorem dL_selectTune_16 : decode cL_selectTune 16 = .ok (.ireturn, 1) := by decide +kernel
theorem cw_L_selectTune : Cond.codeWith yL_selectTune cL_selectTune 4 (some .int) [(0, 9, 12, 25)] ∈ AL := al_mem 1298 (by decide +kernel) (by decide +kernel)
theorem dL_setGap_0 : decode cL_setGap 0 = .ok (.aload_n 3, 1) := by decide +kernel
theorem dL_setGap_1 : decode cL_setGap 1 = .ok (.iconst 0, 1) := by decide +kernel
theorem dL_setGap_2 : decode cL_setGap 2 = .ok (.aload_n 0, 1) := by decide +kernel
theorem dL_setGap_3 : decode cL_setGap 3 = .ok (.iload_n 1, 1) := by decide +kernel
theorem dL_setGap_4 : decode cL_setGap 4 = .ok (.iload_n 2, 1) := by decide +kernel
theorem dL_setGap_5 : decode cL_setGap 5 = .ok (.invokevirtual 103, 3) := by decide +kernel
theorem dL_setGap_8 : decode cL_setGap 8 = .ok (.i2l, 1) := by decide +kernel
theorem dL_setGap_9 : decode cL_setGap 9 = .ok (.lastore, 1) := by decide +kernel
theorem dL_setGap_10 : decode cL_setGap 10 = .ok (.goto 11, 3) := by decide +kernel
theorem dL_setGap_13 : decode cL_setGap 13 = .ok (.astore 4, 2) := by decide +kernel
theorem dL_setGap_15 : decode cL_setGap 15 = .ok (.iconst 1, 1) := by decide +kernel
theorem dL_setGap_16 : decode cL_setGap 16 = .ok (.ireturn, 1) := by decide +kernel
theorem dL_setGap_17 : decode cL_setGap 17 = .ok (.astore 4, 2) := by decide +kernel
theorem dL_setGap_19 : decode cL_setGap 19 = .ok (.iconst 2, 1) := by decide +kernel
theorem dL_setGap_20 : decode cL_setGap 20 = .ok (.ireturn, 1) := by decide +kernel
theorem dL_setGap_21 : decode cL_setGap 21 = .ok (.iconst 0, 1) := by decide +kernel
theorem dL_setGap_22 : decode cL_setGap 22 = .ok (.ireturn, 1) := by decide +kernel
theorem cw_L_setGap : Cond.codeWith yL_setGap cL_setGap 5 (some .int) [(0, 10, 13, 25), (0, 10, 17, 19)] ∈ AL := al_mem 1305 (by decide +kernel) (by decide +kernel)
theorem dL_bend_0 : decode cL_bend 0 = .ok (.aload_n 3, 1) := by decide +kernel
theorem dL_bend_1 : decode cL_bend 1 = .ok (.iconst 0, 1) := by decide +kernel
theorem dL_bend_2 : decode cL_bend 2 = .ok (.aload_n 0, 1) := by decide +kernel
theorem dL_bend_3 : decode cL_bend 3 = .ok (.iload_n 1, 1) := by decide +kernel
theorem dL_bend_4 : decode cL_bend 4 = .ok (.iload_n 2, 1) := by decide +kernel
theorem dL_bend_5 : decode cL_bend 5 = .ok (.invokevirtual 106, 3) := by decide +kernel
theorem dL_bend_8 : decode cL_bend 8 = .ok (.i2l, 1) := by decide +kernel
theorem dL_bend_9 : decode cL_bend 9 = .ok (.lastore, 1) := by decide +kernel
theorem dL_bend_10 : decode cL_bend 10 = .ok (.goto 15, 3) := by decide +kernel
theorem dL_bend_13 : decode cL_bend 13 = .ok (.astore 4, 2) := by decide +kernel
theorem dL_bend_15 : decode cL_bend 15 = .ok (.iconst 1, 1) := by decide +kernel
theorem dL_bend_16 : decode cL_bend 16 = .ok (.ireturn, 1) := by decide +kernel
theorem dL_bend_17 : decode cL_bend 17 = .ok (.astore 4, 2) := by decide +kernel
theorem dL_bend_19 : decode cL_bend 19 = .ok (.iconst 2, 1) := by decide +kernel
theorem dL_bend_20 : decode cL_bend 20 = .ok (.ireturn, 1) := by decide +kernel
theorem dL_bend_21 : decode cL_bend 21 = .ok (.astore 4, 2) := by decide +kernel
theorem dL_bend_23 : decode cL_bend 23 = .ok (.iconst 3, 1) := by decide +kernel
theorem dL_bend_24 : decode cL_bend 24 = .ok (.ireturn, 1) := by decide +kernel
theorem dL_bend_25 : decode cL_bend 25 = .ok (.iconst 0, 1) := by decide +kernel
theorem dL_bend_26 : decode cL_bend 26 = .ok (.ireturn, 1) := by decide +kernel
theorem cw_L_bend : Cond.codeWith yL_bend cL_bend 5 (some .int) [(0, 10, 13, 25), (0, 10, 17, 19), (0, 10, 21, 13)] ∈ AL := al_mem 1313 (by decide +kernel) (by decide +kernel)
theorem dL_replaceTooth_0 : decode cL_replaceTooth 0 = .ok (.aload_n 2, 1) := by decide +kernel
theorem dL_replaceTooth_1 : decode cL_replaceTooth 1 = .ok (.iconst 0, 1) := by decide +kernel
theorem dL_replaceTooth_2 : decode cL_replaceTooth 2 = .ok (.aload_n 0, 1) := by decide +kernel
theorem dL_replaceTooth_3 : decode cL_replaceTooth 3 = .ok (.iload_n 1, 1) := by decide +kernel
theorem dL_replaceTooth_4 : decode cL_replaceTooth 4 = .ok (.invokevirtual 109, 3) := by decide +kernel
theorem dL_replaceTooth_7 : decode cL_replaceTooth 7 = .ok (.i2l, 1) := by decide +kernel
theorem dL_replaceTooth_8 : decode cL_replaceTooth 8 = .ok (.lastore, 1) := by decide +kernel
theorem dL_replaceTooth_9 : decode cL_replaceTooth 9 = .ok (.goto 6, 3) := by decide +kernel
theorem dL_replaceTooth_12 : decode cL_replaceTooth 12 = .ok (.astore_n 3, 1) := by decide +kernel
theorem dL_replaceTooth_13 : decode cL_replaceTooth 13 = .ok (.iconst 1, 1) := by decide +kernel
theorem dL_replaceTooth_14 : decode cL_replaceTooth 14 = .ok (.ireturn, 1) := by decide +kernel
theorem dL_replaceTooth_15 : decode cL_replaceTooth 15 = .ok (.iconst 0, 1) := by decide +kernel
theorem dL_replaceTooth_16 : decode cL_replaceTooth 16 = .ok (.ireturn, 1) := by decide +kernel
theorem cw_L_replaceTooth : Cond.codeWith yL_replaceTooth cL_replaceTooth 4 (some .int) [(0, 9, 12, 25)] ∈ AL := al_mem 1322 (by decide +kernel) (by decide +kernel)
theorem dL_setVane_0 : decode cL_setVane 0 = .ok (.aload_n 2, 1) := by decide +kernel
theorem dL_setVane_1 : decode cL_setVane 1 = .ok (.iconst 0, 1) := by decide +kernel
theorem dL_setVane_2 : decode cL_setVane 2 = .ok (.aload_n 0, 1) := by decide +kernel
theorem dL_setVane_3 : decode cL_setVane 3 = .ok (.iload_n 1, 1) := by decide +kernel
theorem dL_setVane_4 : decode cL_setVane 4 = .ok (.invokevirtual 112, 3) := by decide +kernel
theorem dL_setVane_7 : decode cL_setVane 7 = .ok (.i2l, 1) := by decide +kernel
theorem dL_setVane_8 : decode cL_setVane 8 = .ok (.lastore, 1) := by decide +kernel
theorem dL_setVane_9 : decode cL_setVane 9 = .ok (.goto 6, 3) := by decide +kernel
theorem dL_setVane_12 : decode cL_setVane 12 = .ok (.astore_n 3, 1) := by decide +kernel
theorem dL_setVane_13 : decode cL_setVane 13 = .ok (.iconst 1, 1) := by decide +kernel
theorem dL_setVane_14 : decode cL_setVane 14 = .ok (.ireturn, 1) := by decide +kernel
theorem dL_setVane_15 : decode cL_setVane 15 = .ok (.iconst 0, 1) := by decide +kernel
theorem dL_setVane_16 : decode cL_setVane 16 = .ok (.ireturn, 1) := by decide +kernel
theorem cw_L_setVane : Cond.codeWith yL_setVane cL_setVane 4 (some .int) [(0, 9, 12, 19)] ∈ AL := al_mem 1330 (by decide +kernel) (by decide +kernel)
theorem dL_wind_0 : decode cL_wind 0 = .ok (.aload_n 2, 1) := by decide +kernel
theorem dL_wind_1 : decode cL_wind 1 = .ok (.iconst 0, 1) := by decide +kernel
theorem dL_wind_2 : decode cL_wind 2 = .ok (.aload_n 0, 1) := by decide +kernel
theorem dL_wind_3 : decode cL_wind 3 = .ok (.iload_n 1, 1) := by decide +kernel
theorem dL_wind_4 : decode cL_wind 4 = .ok (.invokevirtual 115, 3) := by decide +kernel
theorem dL_wind_7 : decode cL_wind 7 = .ok (.i2l, 1) := by decide +kernel
theorem dL_wind_8 : decode cL_wind 8 = .ok (.lastore, 1) := by decide +kernel
theorem dL_wind_9 : decode cL_wind 9 = .ok (.goto 9, 3) := by decide +kernel
theorem dL_wind_12 : decode cL_wind 12 = .ok (.astore_n 3, 1) := by decide +kernel
theorem dL_wind_13 : decode cL_wind 13 = .ok (.iconst 1, 1) := by decide +kernel
theorem dL_wind_14 : decode cL_wind 14 = .ok (.ireturn, 1) := by decide +kernel
theorem dL_wind_15 : decode cL_wind 15 = .ok (.astore_n 3, 1) := by decide +kernel
theorem dL_wind_16 : decode cL_wind 16 = .ok (.iconst 2, 1) := by decide +kernel
theorem dL_wind_17 : decode cL_wind 17 = .ok (.ireturn, 1) := by decide +kernel
theorem dL_wind_18 : decode cL_wind 18 = .ok (.iconst 0, 1) := by decide +kernel
theorem dL_wind_19 : decode cL_wind 19 = .ok (.ireturn, 1) := by decide +kernel
theorem cw_L_wind : Cond.codeWith yL_wind cL_wind 4 (some .int) [(0, 9, 12, 19), (0, 9, 15, 13)] ∈ AL := al_mem 1337 (by decide +kernel) (by decide +kernel)
theorem dL_play_0 : decode cL_play 0 = .ok (.aload_n 2, 1) := by decide +kernel
theorem dL_play_1 : decode cL_play 1 = .ok (.iconst 0, 1) := by decide +kernel
theorem dL_play_2 : decode cL_play 2 = .ok (.aload_n 0, 1) := by decide +kernel
theorem dL_play_3 : decode cL_play 3 = .ok (.iload_n 1, 1) := by decide +kernel
theorem dL_play_4 : decode cL_play 4 = .ok (.invokevirtual 118, 3) := by decide +kernel
theorem dL_play_7 : decode cL_play 7 = .ok (.i2l, 1) := by decide +kernel
theorem dL_play_8 : decode cL_play 8 = .ok (.lastore, 1) := by decide +kernel
theorem dL_play_9 : decode cL_play 9 = .ok (.goto 9, 3) := by decide +kernel
theorem dL_play_12 : decode cL_play 12 = .ok (.astore_n 3, 1) := by decide +kernel
theorem dL_play_13 : decode cL_play 13 = .ok (.iconst 1, 1) := by decide +kernel
theorem dL_play_14 : decode cL_play 14 = .ok (.ireturn, 1) := by decide +kernel
theorem dL_play_15 : decode cL_play 15 = .ok (.astore_n 3, 1) := by decide +kernel
theorem dL_play_16 : decode cL_play 16 = .ok (.iconst 2, 1) := by decide +kernel
theorem dL_play_17 : decode cL_play 17 = .ok (.ireturn, 1) := by decide +kernel
theorem dL_play_18 : decode cL_play 18 = .ok (.iconst 0, 1) := by decide +kernel
theorem dL_play_19 : decode cL_play 19 = .ok (.ireturn, 1) := by decide +kernel
theorem cw_L_play : Cond.codeWith yL_play cL_play 4 (some .int) [(0, 9, 12, 19), (0, 9, 15, 13)] ∈ AL := al_mem 1345 (by decide +kernel) (by decide +kernel)
theorem dL_writePins_0 : decode cL_writePins 0 = .ok (.aload_n 3, 1) := by decide +kernel
theorem dL_writePins_1 : decode cL_writePins 1 = .ok (.iconst 0, 1) := by decide +kernel
theorem dL_writePins_2 : decode cL_writePins 2 = .ok (.aload_n 0, 1) := by decide +kernel
theorem dL_writePins_3 : decode cL_writePins 3 = .ok (.iload_n 1, 1) := by decide +kernel
theorem dL_writePins_4 : decode cL_writePins 4 = .ok (.iload_n 2, 1) := by decide +kernel
theorem dL_writePins_5 : decode cL_writePins 5 = .ok (.invokevirtual 121, 3) := by decide +kernel
theorem dL_writePins_8 : decode cL_writePins 8 = .ok (.i2l, 1) := by decide +kernel
theorem dL_writePins_9 : decode cL_writePins 9 = .ok (.lastore, 1) := by decide +kernel
theorem dL_writePins_10 : decode cL_writePins 10 = .ok (.goto 7, 3) := by decide +kernel
theorem dL_writePins_13 : decode cL_writePins 13 = .ok (.astore 4, 2) := by decide +kernel
theorem dL_writePins_15 : decode cL_writePins 15 = .ok (.iconst 1, 1) := by decide +kernel
theorem dL_writePins_16 : decode cL_writePins 16 = .ok (.ireturn, 1) := by decide +kernel
theorem dL_writePins_17 : decode cL_writePins 17 = .ok (.iconst 0, 1) := by decide +kernel
theorem dL_writePins_18 : decode cL_writePins 18 = .ok (.ireturn, 1) := by decide +kernel
theorem cw_L_writePins : Cond.codeWith yL_writePins cL_writePins 5 (some .int) [(0, 10, 13, 25)] ∈ AL := al_mem 1353 (by decide +kernel) (by decide +kernel)
theorem dL_undo_0 : decode cL_undo 0 = .ok (.aload_n 1, 1) := by decide +kernel
theorem dL_undo_1 : decode cL_undo 1 = .ok (.iconst 0, 1) := by decide +kernel
theorem dL_undo_2 : decode cL_undo 2 = .ok (.aload_n 0, 1) := by decide +kernel
theorem dL_undo_3 : decode cL_undo 3 = .ok (.invokevirtual 124, 3) := by decide +kernel
theorem dL_undo_6 : decode cL_undo 6 = .ok (.i2l, 1) := by decide +kernel
theorem dL_undo_7 : decode cL_undo 7 = .ok (.lastore, 1) := by decide +kernel
theorem dL_undo_8 : decode cL_undo 8 = .ok (.goto 6, 3) := by decide +kernel
theorem dL_undo_11 : decode cL_undo 11 = .ok (.astore_n 2, 1) := by decide +kernel
theorem dL_undo_12 : decode cL_undo 12 = .ok (.iconst 1, 1) := by decide +kernel
theorem dL_undo_13 : decode cL_undo 13 = .ok (.ireturn, 1) := by decide +kernel
theorem dL_undo_14 : decode cL_undo 14 = .ok (.iconst 0, 1) := by decide +kernel
theorem dL_undo_15 : decode cL_undo 15 = .ok (.ireturn, 1) := by decide +kernel
theorem cw_L_undo : Cond.codeWith yL_undo cL_undo 3 (some .int) [(0, 8, 11, 13)] ∈ AL := al_mem 1361 (by decide +kernel) (by decide +kernel)
theorem dL_save_0 : decode cL_save 0 = .ok (.aload_n 2, 1) := by decide +kernel
theorem dL_save_1 : decode cL_save 1 = .ok (.iconst 0, 1) := by decide +kernel
theorem dL_save_2 : decode cL_save 2 = .ok (.aload_n 0, 1) := by decide +kernel
theorem dL_save_3 : decode cL_save 3 = .ok (.iload_n 1, 1) := by decide +kernel
theorem dL_save_4 : decode cL_save 4 = .ok (.invokevirtual 128, 3) := by decide +kernel
theorem dL_save_7 : decode cL_save 7 = .ok (.i2l, 1) := by decide +kernel
theorem dL_save_8 : decode cL_save 8 = .ok (.lastore, 1) := by decide +kernel
theorem dL_save_9 : decode cL_save 9 = .ok (.goto 6, 3) := by decide +kernel
theorem dL_save_12 : decode cL_save 12 = .ok (.astore_n 3, 1) := by decide +kernel
theorem dL_save_13 : decode cL_save 13 = .ok (.iconst 1, 1) := by decide +kernel
theorem dL_save_14 : decode cL_save 14 = .ok (.ireturn, 1) := by decide +kernel
theorem dL_save_15 : decode cL_save 15 = .ok (.iconst 0, 1) := by decide +kernel
theorem dL_save_16 : decode cL_save 16 = .ok (.ireturn, 1) := by decide +kernel
theorem cw_L_save : Cond.codeWith yL_save cL_save 4 (some .int) [(0, 9, 12, 25)] ∈ AL := al_mem 1372 (by decide +kernel) (by decide +kernel)
theorem dL_restore_0 : decode cL_restore 0 = .ok (.aload_n 2, 1) := by decide +kernel
theorem dL_restore_1 : decode cL_restore 1 = .ok (.iconst 0, 1) := by decide +kernel
theorem dL_restore_2 : decode cL_restore 2 = .ok (.aload_n 0, 1) := by decide +kernel
theorem dL_restore_3 : decode cL_restore 3 = .ok (.iload_n 1, 1) := by decide +kernel
theorem dL_restore_4 : decode cL_restore 4 = .ok (.invokevirtual 131, 3) := by decide +kernel
theorem dL_restore_7 : decode cL_restore 7 = .ok (.i2l, 1) := by decide +kernel
theorem dL_restore_8 : decode cL_restore 8 = .ok (.lastore, 1) := by decide +kernel
theorem dL_restore_9 : decode cL_restore 9 = .ok (.goto 9, 3) := by decide +kernel
theorem dL_restore_12 : decode cL_restore 12 = .ok (.astore_n 3, 1) := by decide +kernel
theorem dL_restore_13 : decode cL_restore 13 = .ok (.iconst 1, 1) := by decide +kernel
theorem dL_restore_14 : decode cL_restore 14 = .ok (.ireturn, 1) := by decide +kernel
theorem dL_restore_15 : decode cL_restore 15 = .ok (.astore_n 3, 1) := by decide +kernel
theorem dL_restore_16 : decode cL_restore 16 = .ok (.iconst 2, 1) := by decide +kernel
theorem dL_restore_17 : decode cL_restore 17 = .ok (.ireturn, 1) := by decide +kernel
theorem dL_restore_18 : decode cL_restore 18 = .ok (.iconst 0, 1) := by decide +kernel
theorem dL_restore_19 : decode cL_restore 19 = .ok (.ireturn, 1) := by decide +kernel
theorem cw_L_restore : Cond.codeWith yL_restore cL_restore 4 (some .int) [(0, 9, 12, 25), (0, 9, 15, 38)] ∈ AL := al_mem 1382 (by decide +kernel) (by decide +kernel)
