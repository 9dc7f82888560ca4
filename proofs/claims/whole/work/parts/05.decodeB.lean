theorem dX5_thrown_0 : decode cX5_thrown 0 = .ok (.aload_n 0, 1) := by decide +kernel
theorem dX5_thrown_1 : decode cX5_thrown 1 = .ok (.getfield 1, 3) := by decide +kernel
theorem dX5_thrown_4 : decode cX5_thrown 4 = .ok (.ireturn, 1) := by decide +kernel
theorem dX5_within_0 : decode cX5_within 0 = .ok (.lload_n 0, 1) := by decide +kernel
theorem dX5_within_1 : decode cX5_within 1 = .ok (.lload_n 2, 1) := by decide +kernel
theorem dX5_within_2 : decode cX5_within 2 = .ok (.lcmp, 1) := by decide +kernel
theorem dX5_within_3 : decode cX5_within 3 = .ok (.ifCond .lt 14, 3) := by decide +kernel
theorem dX5_within_6 : decode cX5_within 6 = .ok (.lload_n 0, 1) := by decide +kernel
theorem dX5_within_7 : decode cX5_within 7 = .ok (.lload 4, 2) := by decide +kernel
theorem dX5_within_9 : decode cX5_within 9 = .ok (.lcmp, 1) := by decide +kernel
theorem dX5_within_10 : decode cX5_within 10 = .ok (.ifCond .gt 7, 3) := by decide +kernel
theorem dX5_within_13 : decode cX5_within 13 = .ok (.iconst 1, 1) := by decide +kernel
theorem dX5_within_14 : decode cX5_within 14 = .ok (.goto 4, 3) := by decide +kernel
theorem dX5_within_17 : decode cX5_within 17 = .ok (.iconst 0, 1) := by decide +kernel
theorem dX5_within_18 : decode cX5_within 18 = .ok (.ireturn, 1) := by decide +kernel
theorem dX5_init_0 : decode cX5_init 0 = .ok (.aload_n 0, 1) := by decide +kernel
theorem dX5_init_1 : decode cX5_init 1 = .ok (.invokespecial 7, 3) := by decide +kernel
theorem dX5_init_4 : decode cX5_init 4 = .ok (.aload_n 0, 1) := by decide +kernel
theorem dX5_init_5 : decode cX5_init 5 = .ok (.bipush 24, 2) := by decide +kernel
theorem dX5_init_7 : decode cX5_init 7 = .ok (.putfield 13, 3) := by decide +kernel
theorem dX5_init_10 : decode cX5_init 10 = .ok (.aload_n 0, 1) := by decide +kernel
theorem dX5_init_11 : decode cX5_init 11 = .ok (.bipush 71, 2) := by decide +kernel
theorem dX5_init_13 : decode cX5_init 13 = .ok (.newarray .int, 2) := by decide +kernel
theorem dX5_init_15 : decode cX5_init 15 = .ok (.putfield 16, 3) := by decide +kernel
theorem dX5_init_18 : decode cX5_init 18 = .ok (.aload_n 0, 1) := by decide +kernel
theorem dX5_init_19 : decode cX5_init 19 = .ok (.sipush 1420, 3) := by decide +kernel
theorem dX5_init_22 : decode cX5_init 22 = .ok (.newarray .int, 2) := by decide +kernel
theorem dX5_init_24 : decode cX5_init 24 = .ok (.putfield 20, 3) := by decide +kernel
theorem dX5_init_27 : decode cX5_init 27 = .ok (.aload_n 0, 1) := by decide +kernel
theorem dX5_init_28 : decode cX5_init 28 = .ok (.bipush 120, 2) := by decide +kernel
theorem dX5_init_30 : decode cX5_init 30 = .ok (.newarray .int, 2) := by decide +kernel
theorem dX5_init_32 : decode cX5_init 32 = .ok (.putfield 23, 3) := by decide +kernel
theorem dX5_init_35 : decode cX5_init 35 = .ok (.aload_n 0, 1) := by decide +kernel
theorem dX5_init_36 : decode cX5_init 36 = .ok (.bipush 12, 2) := by decide +kernel
theorem dX5_init_38 : decode cX5_init 38 = .ok (.newarray .int, 2) := by decide +kernel
theorem dX5_init_40 : decode cX5_init 40 = .ok (.putfield 26, 3) := by decide +kernel
theorem dX5_init_43 : decode cX5_init 43 = .ok (.aload_n 0, 1) := by decide +kernel
theorem dX5_init_44 : decode cX5_init 44 = .ok (.bipush 12, 2) := by decide +kernel
theorem dX5_init_46 : decode cX5_init 46 = .ok (.newarray .int, 2) := by decide +kernel
theorem dX5_init_48 : decode cX5_init 48 = .ok (.putfield 29, 3) := by decide +kernel
theorem dX5_init_51 : decode cX5_init 51 = .ok (.aload_n 0, 1) := by decide +kernel
theorem dX5_init_52 : decode cX5_init 52 = .ok (.getfield 16, 3) := by decide +kernel
theorem dX5_init_55 : decode cX5_init 55 = .ok (.bipush 63, 2) := by decide +kernel
theorem dX5_init_57 : decode cX5_init 57 = .ok (.sipush 400, 3) := by decide +kernel
theorem dX5_init_60 : decode cX5_init 60 = .ok (.iastore, 1) := by decide +kernel
theorem dX5_init_61 : decode cX5_init 61 = .ok (.aload_n 0, 1) := by decide +kernel
theorem dX5_init_62 : decode cX5_init 62 = .ok (.getfield 16, 3) := by decide +kernel
theorem dX5_init_65 : decode cX5_init 65 = .ok (.bipush 64, 2) := by decide +kernel
theorem dX5_init_67 : decode cX5_init 67 = .ok (.bipush 100, 2) := by decide +kernel
theorem dX5_init_69 : decode cX5_init 69 = .ok (.iastore, 1) := by decide +kernel
theorem dX5_init_70 : decode cX5_init 70 = .ok (.aload_n 0, 1) := by decide +kernel
theorem dX5_init_71 : decode cX5_init 71 = .ok (.getfield 16, 3) := by decide +kernel
theorem dX5_init_74 : decode cX5_init 74 = .ok (.bipush 65, 2) := by decide +kernel
theorem dX5_init_76 : decode cX5_init 76 = .ok (.sipush 1000, 3) := by decide +kernel
theorem dX5_init_79 : decode cX5_init 79 = .ok (.iastore, 1) := by decide +kernel
theorem dX5_init_80 : decode cX5_init 80 = .ok (.aload_n 0, 1) := by decide +kernel
theorem dX5_init_81 : decode cX5_init 81 = .ok (.getfield 16, 3) := by decide +kernel
theorem dX5_init_84 : decode cX5_init 84 = .ok (.bipush 66, 2) := by decide +kernel
theorem dX5_init_86 : decode cX5_init 86 = .ok (.bipush 10, 2) := by decide +kernel
theorem dX5_init_88 : decode cX5_init 88 = .ok (.iastore, 1) := by decide +kernel
theorem dX5_init_89 : decode cX5_init 89 = .ok (.aload_n 0, 1) := by decide +kernel
theorem dX5_init_90 : decode cX5_init 90 = .ok (.getfield 16, 3) := by decide +kernel
theorem dX5_init_93 : decode cX5_init 93 = .ok (.bipush 67, 2) := by decide +kernel
theorem dX5_init_95 : decode cX5_init 95 = .ok (.bipush 10, 2) := by decide +kernel
theorem dX5_init_97 : decode cX5_init 97 = .ok (.iastore, 1) := by decide +kernel
theorem dX5_init_98 : decode cX5_init 98 = .ok (.aload_n 0, 1) := by decide +kernel
theorem dX5_init_99 : decode cX5_init 99 = .ok (.getfield 16, 3) := by decide +kernel
theorem dX5_init_102 : decode cX5_init 102 = .ok (.bipush 68, 2) := by decide +kernel
theorem dX5_init_104 : decode cX5_init 104 = .ok (.bipush 100, 2) := by decide +kernel
theorem dX5_init_106 : decode cX5_init 106 = .ok (.iastore, 1) := by decide +kernel
theorem dX5_init_107 : decode cX5_init 107 = .ok (.aload_n 0, 1) := by decide +kernel
theorem dX5_init_108 : decode cX5_init 108 = .ok (.getfield 16, 3) := by decide +kernel
theorem dX5_init_111 : decode cX5_init 111 = .ok (.bipush 69, 2) := by decide +kernel
theorem dX5_init_113 : decode cX5_init 113 = .ok (.sipush 577, 3) := by decide +kernel
theorem dX5_init_116 : decode cX5_init 116 = .ok (.iastore, 1) := by decide +kernel
theorem dX5_init_117 : decode cX5_init 117 = .ok (.aload_n 0, 1) := by decide +kernel
theorem dX5_init_118 : decode cX5_init 118 = .ok (.getfield 16, 3) := by decide +kernel
theorem dX5_init_121 : decode cX5_init 121 = .ok (.bipush 70, 2) := by decide +kernel
theorem dX5_init_123 : decode cX5_init 123 = .ok (.iconst 1, 1) := by decide +kernel
theorem dX5_init_124 : decode cX5_init 124 = .ok (.iastore, 1) := by decide +kernel
theorem dX5_init_125 : decode cX5_init 125 = .ok (.return_, 1) := by decide +kernel
theorem dX5_keeps_0 : decode cX5_keeps 0 = .ok (.aload_n 0, 1) := by decide +kernel
theorem dX5_keeps_1 : decode cX5_keeps 1 = .ok (.getfield 32, 3) := by decide +kernel
theorem dX5_keeps_4 : decode cX5_keeps 4 = .ok (.bipush 20, 2) := by decide +kernel
theorem dX5_keeps_6 : decode cX5_keeps 6 = .ok (.if_icmp .ne 43, 3) := by decide +kernel
theorem dX5_keeps_9 : decode cX5_keeps 9 = .ok (.iconst 0, 1) := by decide +kernel
theorem dX5_keeps_10 : decode cX5_keeps 10 = .ok (.istore_n 1, 1) := by decide +kernel
theorem dX5_keeps_11 : decode cX5_keeps 11 = .ok (.iload_n 1, 1) := by decide +kernel
theorem dX5_keeps_12 : decode cX5_keeps 12 = .ok (.sipush 1349, 3) := by decide +kernel
theorem dX5_keeps_15 : decode cX5_keeps 15 = .ok (.if_icmp .ge 24, 3) := by decide +kernel
theorem dX5_keeps_18 : decode cX5_keeps 18 = .ok (.aload_n 0, 1) := by decide +kernel
theorem dX5_keeps_19 : decode cX5_keeps 19 = .ok (.getfield 20, 3) := by decide +kernel
theorem dX5_keeps_22 : decode cX5_keeps 22 = .ok (.iload_n 1, 1) := by decide +kernel
theorem dX5_keeps_23 : decode cX5_keeps 23 = .ok (.aload_n 0, 1) := by decide +kernel
theorem dX5_keeps_24 : decode cX5_keeps 24 = .ok (.getfield 20, 3) := by decide +kernel
theorem dX5_keeps_27 : decode cX5_keeps 27 = .ok (.iload_n 1, 1) := by decide +kernel
theorem dX5_keeps_28 : decode cX5_keeps 28 = .ok (.bipush 71, 2) := by decide +kernel
theorem dX5_keeps_30 : decode cX5_keeps 30 = .ok (.iadd, 1) := by decide +kernel
theorem dX5_keeps_31 : decode cX5_keeps 31 = .ok (.iaload, 1) := by decide +kernel
theorem dX5_keeps_32 : decode cX5_keeps 32 = .ok (.iastore, 1) := by decide +kernel
theorem dX5_keeps_33 : decode cX5_keeps 33 = .ok (.iinc 1 1, 3) := by decide +kernel
theorem dX5_keeps_36 : decode cX5_keeps 36 = .ok (.goto (-25), 3) := by decide +kernel
theorem dX5_keeps_39 : decode cX5_keeps 39 = .ok (.aload_n 0, 1) := by decide +kernel
theorem dX5_keeps_40 : decode cX5_keeps 40 = .ok (.dup, 1) := by decide +kernel
theorem dX5_keeps_41 : decode cX5_keeps 41 = .ok (.getfield 32, 3) := by decide +kernel
theorem dX5_keeps_44 : decode cX5_keeps 44 = .ok (.iconst 1, 1) := by decide +kernel
theorem dX5_keeps_45 : decode cX5_keeps 45 = .ok (.isub, 1) := by decide +kernel
theorem dX5_keeps_46 : decode cX5_keeps 46 = .ok (.putfield 32, 3) := by decide +kernel
theorem dX5_keeps_49 : decode cX5_keeps 49 = .ok (.iconst 0, 1) := by decide +kernel
theorem dX5_keeps_50 : decode cX5_keeps 50 = .ok (.istore_n 1, 1) := by decide +kernel
theorem dX5_keeps_51 : decode cX5_keeps 51 = .ok (.iload_n 1, 1) := by decide +kernel
theorem dX5_keeps_52 : decode cX5_keeps 52 = .ok (.bipush 71, 2) := by decide +kernel
theorem dX5_keeps_54 : decode cX5_keeps 54 = .ok (.if_icmp .ge 29, 3) := by decide +kernel
theorem dX5_keeps_57 : decode cX5_keeps 57 = .ok (.aload_n 0, 1) := by decide +kernel
theorem dX5_keeps_58 : decode cX5_keeps 58 = .ok (.getfield 20, 3) := by decide +kernel
theorem dX5_keeps_61 : decode cX5_keeps 61 = .ok (.bipush 71, 2) := by decide +kernel
theorem dX5_keeps_63 : decode cX5_keeps 63 = .ok (.aload_n 0, 1) := by decide +kernel
theorem dX5_keeps_64 : decode cX5_keeps 64 = .ok (.getfield 32, 3) := by decide +kernel
theorem dX5_keeps_67 : decode cX5_keeps 67 = .ok (.imul, 1) := by decide +kernel
theorem dX5_keeps_68 : decode cX5_keeps 68 = .ok (.iload_n 1, 1) := by decide +kernel
theorem dX5_keeps_69 : decode cX5_keeps 69 = .ok (.iadd, 1) := by decide +kernel
theorem dX5_keeps_70 : decode cX5_keeps 70 = .ok (.aload_n 0, 1) := by decide +kernel
theorem dX5_keeps_71 : decode cX5_keeps 71 = .ok (.getfield 16, 3) := by decide +kernel
theorem dX5_keeps_74 : decode cX5_keeps 74 = .ok (.iload_n 1, 1) := by decide +kernel
theorem dX5_keeps_75 : decode cX5_keeps 75 = .ok (.iaload, 1) := by decide +kernel
theorem dX5_keeps_76 : decode cX5_keeps 76 = .ok (.iastore, 1) := by decide +kernel
theorem dX5_keeps_77 : decode cX5_keeps 77 = .ok (.iinc 1 1, 3) := by decide +kernel
theorem dX5_keeps_80 : decode cX5_keeps 80 = .ok (.goto (-29), 3) := by decide +kernel
theorem dX5_keeps_83 : decode cX5_keeps 83 = .ok (.aload_n 0, 1) := by decide +kernel
theorem dX5_keeps_84 : decode cX5_keeps 84 = .ok (.dup, 1) := by decide +kernel
theorem dX5_keeps_85 : decode cX5_keeps 85 = .ok (.getfield 32, 3) := by decide +kernel
theorem dX5_keeps_88 : decode cX5_keeps 88 = .ok (.iconst 1, 1) := by decide +kernel
theorem dX5_keeps_89 : decode cX5_keeps 89 = .ok (.iadd, 1) := by decide +kernel
theorem dX5_keeps_90 : decode cX5_keeps 90 = .ok (.putfield 32, 3) := by decide +kernel
theorem dX5_keeps_93 : decode cX5_keeps 93 = .ok (.return_, 1) := by decide +kernel
theorem dX5_steps_0 : decode cX5_steps 0 = .ok (.aload_n 0, 1) := by decide +kernel
theorem dX5_steps_1 : decode cX5_steps 1 = .ok (.iconst 0, 1) := by decide +kernel
theorem dX5_steps_2 : decode cX5_steps 2 = .ok (.putfield 1, 3) := by decide +kernel
theorem dX5_steps_5 : decode cX5_steps 5 = .ok (.iload_n 1, 1) := by decide +kernel
theorem dX5_steps_6 : decode cX5_steps 6 = .ok (.i2l, 1) := by decide +kernel
theorem dX5_steps_7 : decode cX5_steps 7 = .ok (.ldc2_w 35, 3) := by decide +kernel
theorem dX5_steps_10 : decode cX5_steps 10 = .ok (.ldc2_w 37, 3) := by decide +kernel
theorem dX5_steps_13 : decode cX5_steps 13 = .ok (.invokestatic 39, 3) := by decide +kernel
theorem dX5_steps_16 : decode cX5_steps 16 = .ok (.ifCond .ne 5, 3) := by decide +kernel
theorem dX5_steps_19 : decode cX5_steps 19 = .ok (.iconst (-1), 1) := by decide +kernel
theorem dX5_steps_20 : decode cX5_steps 20 = .ok (.ireturn, 1) := by decide +kernel
theorem dX5_steps_21 : decode cX5_steps 21 = .ok (.aload_n 0, 1) := by decide +kernel
theorem dX5_steps_22 : decode cX5_steps 22 = .ok (.getfield 16, 3) := by decide +kernel
theorem dX5_steps_25 : decode cX5_steps 25 = .ok (.bipush 60, 2) := by decide +kernel
theorem dX5_steps_27 : decode cX5_steps 27 = .ok (.iaload, 1) := by decide +kernel
theorem dX5_steps_28 : decode cX5_steps 28 = .ok (.istore_n 2, 1) := by decide +kernel
theorem dX5_steps_29 : decode cX5_steps 29 = .ok (.aload_n 0, 1) := by decide +kernel
theorem dX5_steps_30 : decode cX5_steps 30 = .ok (.iload_n 1, 1) := by decide +kernel
theorem dX5_steps_31 : decode cX5_steps 31 = .ok (.putfield 13, 3) := by decide +kernel
theorem dX5_steps_34 : decode cX5_steps 34 = .ok (.aload_n 0, 1) := by decide +kernel
theorem dX5_steps_35 : decode cX5_steps 35 = .ok (.getfield 16, 3) := by decide +kernel
theorem dX5_steps_38 : decode cX5_steps 38 = .ok (.bipush 60, 2) := by decide +kernel
theorem dX5_steps_40 : decode cX5_steps 40 = .ok (.iconst 0, 1) := by decide +kernel
theorem dX5_steps_41 : decode cX5_steps 41 = .ok (.iastore, 1) := by decide +kernel
theorem dX5_steps_42 : decode cX5_steps 42 = .ok (.aload_n 0, 1) := by decide +kernel
theorem dX5_steps_43 : decode cX5_steps 43 = .ok (.getfield 16, 3) := by decide +kernel
theorem dX5_steps_46 : decode cX5_steps 46 = .ok (.bipush 61, 2) := by decide +kernel
theorem dX5_steps_48 : decode cX5_steps 48 = .ok (.iconst 0, 1) := by decide +kernel
theorem dX5_steps_49 : decode cX5_steps 49 = .ok (.iastore, 1) := by decide +kernel
theorem dX5_steps_50 : decode cX5_steps 50 = .ok (.aload_n 0, 1) := by decide +kernel
theorem dX5_steps_51 : decode cX5_steps 51 = .ok (.iconst 0, 1) := by decide +kernel
theorem dX5_steps_52 : decode cX5_steps 52 = .ok (.putfield 32, 3) := by decide +kernel
theorem dX5_steps_55 : decode cX5_steps 55 = .ok (.iload_n 2, 1) := by decide +kernel
theorem dX5_steps_56 : decode cX5_steps 56 = .ok (.ireturn, 1) := by decide +kernel
theorem dX5_isSegment_0 : decode cX5_isSegment 0 = .ok (.iload_n 1, 1) := by decide +kernel
theorem dX5_isSegment_1 : decode cX5_isSegment 1 = .ok (.ifCond .lt 18, 3) := by decide +kernel
theorem dX5_isSegment_4 : decode cX5_isSegment 4 = .ok (.iload_n 1, 1) := by decide +kernel
theorem dX5_isSegment_5 : decode cX5_isSegment 5 = .ok (.aload_n 0, 1) := by decide +kernel
theorem dX5_isSegment_6 : decode cX5_isSegment 6 = .ok (.getfield 16, 3) := by decide +kernel
theorem dX5_isSegment_9 : decode cX5_isSegment 9 = .ok (.bipush 60, 2) := by decide +kernel
theorem dX5_isSegment_11 : decode cX5_isSegment 11 = .ok (.iaload, 1) := by decide +kernel
theorem dX5_isSegment_12 : decode cX5_isSegment 12 = .ok (.if_icmp .ge 7, 3) := by decide +kernel
theorem dX5_isSegment_15 : decode cX5_isSegment 15 = .ok (.iconst 1, 1) := by decide +kernel
theorem dX5_isSegment_16 : decode cX5_isSegment 16 = .ok (.goto 4, 3) := by decide +kernel
theorem dX5_isSegment_19 : decode cX5_isSegment 19 = .ok (.iconst 0, 1) := by decide +kernel
theorem dX5_isSegment_20 : decode cX5_isSegment 20 = .ok (.ireturn, 1) := by decide +kernel
theorem dX5_isMark_0 : decode cX5_isMark 0 = .ok (.iload_n 1, 1) := by decide +kernel
theorem dX5_isMark_1 : decode cX5_isMark 1 = .ok (.ifCond .lt 18, 3) := by decide +kernel
theorem dX5_isMark_4 : decode cX5_isMark 4 = .ok (.iload_n 1, 1) := by decide +kernel
theorem dX5_isMark_5 : decode cX5_isMark 5 = .ok (.aload_n 0, 1) := by decide +kernel
theorem dX5_isMark_6 : decode cX5_isMark 6 = .ok (.getfield 16, 3) := by decide +kernel
theorem dX5_isMark_9 : decode cX5_isMark 9 = .ok (.bipush 61, 2) := by decide +kernel
theorem dX5_isMark_11 : decode cX5_isMark 11 = .ok (.iaload, 1) := by decide +kernel
theorem dX5_isMark_12 : decode cX5_isMark 12 = .ok (.if_icmp .ge 7, 3) := by decide +kernel
theorem dX5_isMark_15 : decode cX5_isMark 15 = .ok (.iconst 1, 1) := by decide +kernel
theorem dX5_isMark_16 : decode cX5_isMark 16 = .ok (.goto 4, 3) := by decide +kernel
theorem dX5_isMark_19 : decode cX5_isMark 19 = .ok (.iconst 0, 1) := by decide +kernel
theorem dX5_isMark_20 : decode cX5_isMark 20 = .ok (.ireturn, 1) := by decide +kernel
theorem dX5_isStep_0 : decode cX5_isStep 0 = .ok (.iload_n 1, 1) := by decide +kernel
theorem dX5_isStep_1 : decode cX5_isStep 1 = .ok (.ifCond .lt 15, 3) := by decide +kernel
theorem dX5_isStep_4 : decode cX5_isStep 4 = .ok (.iload_n 1, 1) := by decide +kernel
theorem dX5_isStep_5 : decode cX5_isStep 5 = .ok (.aload_n 0, 1) := by decide +kernel
theorem dX5_isStep_6 : decode cX5_isStep 6 = .ok (.getfield 13, 3) := by decide +kernel
theorem dX5_isStep_9 : decode cX5_isStep 9 = .ok (.if_icmp .ge 7, 3) := by decide +kernel
theorem dX5_isStep_12 : decode cX5_isStep 12 = .ok (.iconst 1, 1) := by decide +kernel
theorem dX5_isStep_13 : decode cX5_isStep 13 = .ok (.goto 4, 3) := by decide +kernel
theorem dX5_isStep_16 : decode cX5_isStep 16 = .ok (.iconst 0, 1) := by decide +kernel
theorem dX5_isStep_17 : decode cX5_isStep 17 = .ok (.ireturn, 1) := by decide +kernel
theorem dX5_segment_0 : decode cX5_segment 0 = .ok (.aload_n 0, 1) := by decide +kernel
theorem dX5_segment_1 : decode cX5_segment 1 = .ok (.iconst 0, 1) := by decide +kernel
theorem dX5_segment_2 : decode cX5_segment 2 = .ok (.putfield 1, 3) := by decide +kernel
theorem dX5_segment_5 : decode cX5_segment 5 = .ok (.aload_n 0, 1) := by decide +kernel
theorem dX5_segment_6 : decode cX5_segment 6 = .ok (.getfield 16, 3) := by decide +kernel
theorem dX5_segment_9 : decode cX5_segment 9 = .ok (.bipush 60, 2) := by decide +kernel
theorem dX5_segment_11 : decode cX5_segment 11 = .ok (.iaload, 1) := by decide +kernel
theorem dX5_segment_12 : decode cX5_segment 12 = .ok (.istore 4, 2) := by decide +kernel
theorem dX5_segment_14 : decode cX5_segment 14 = .ok (.iload_n 1, 1) := by decide +kernel
theorem dX5_segment_15 : decode cX5_segment 15 = .ok (.i2l, 1) := by decide +kernel
theorem dX5_segment_16 : decode cX5_segment 16 = .ok (.lconst 1, 1) := by decide +kernel
theorem dX5_segment_17 : decode cX5_segment 17 = .ok (.ldc2_w 43, 3) := by decide +kernel
theorem dX5_segment_20 : decode cX5_segment 20 = .ok (.invokestatic 39, 3) := by decide +kernel
theorem dX5_segment_23 : decode cX5_segment 23 = .ok (.ifCond .eq 34, 3) := by decide +kernel
theorem dX5_segment_26 : decode cX5_segment 26 = .ok (.iload_n 2, 1) := by decide +kernel
theorem dX5_segment_27 : decode cX5_segment 27 = .ok (.i2l, 1) := by decide +kernel
theorem dX5_segment_28 : decode cX5_segment 28 = .ok (.lconst 0, 1) := by decide +kernel
theorem dX5_segment_29 : decode cX5_segment 29 = .ok (.ldc2_w 45, 3) := by decide +kernel
theorem dX5_segment_32 : decode cX5_segment 32 = .ok (.invokestatic 39, 3) := by decide +kernel
theorem dX5_segment_35 : decode cX5_segment 35 = .ok (.ifCond .eq 22, 3) := by decide +kernel
theorem dX5_segment_38 : decode cX5_segment 38 = .ok (.iload_n 3, 1) := by decide +kernel
theorem dX5_segment_39 : decode cX5_segment 39 = .ok (.i2l, 1) := by decide +kernel
theorem dX5_segment_40 : decode cX5_segment 40 = .ok (.lconst 0, 1) := by decide +kernel
theorem dX5_segment_41 : decode cX5_segment 41 = .ok (.ldc2_w 47, 3) := by decide +kernel
theorem dX5_segment_44 : decode cX5_segment 44 = .ok (.invokestatic 39, 3) := by decide +kernel
theorem dX5_segment_47 : decode cX5_segment 47 = .ok (.ifCond .eq 10, 3) := by decide +kernel
theorem dX5_segment_50 : decode cX5_segment 50 = .ok (.iload 4, 2) := by decide +kernel
theorem dX5_segment_52 : decode cX5_segment 52 = .ok (.bipush 12, 2) := by decide +kernel
theorem dX5_segment_54 : decode cX5_segment 54 = .ok (.if_icmp .ne 5, 3) := by decide +kernel
theorem dX5_segment_57 : decode cX5_segment 57 = .ok (.iconst (-1), 1) := by decide +kernel
theorem dX5_segment_58 : decode cX5_segment 58 = .ok (.ireturn, 1) := by decide +kernel
theorem dX5_segment_59 : decode cX5_segment 59 = .ok (.aload_n 0, 1) := by decide +kernel
theorem dX5_segment_60 : decode cX5_segment 60 = .ok (.invokevirtual 49, 3) := by decide +kernel
theorem dX5_segment_63 : decode cX5_segment 63 = .ok (.aload_n 0, 1) := by decide +kernel
theorem dX5_segment_64 : decode cX5_segment 64 = .ok (.getfield 16, 3) := by decide +kernel
theorem dX5_segment_67 : decode cX5_segment 67 = .ok (.iconst 0, 1) := by decide +kernel
theorem dX5_segment_68 : decode cX5_segment 68 = .ok (.iload 4, 2) := by decide +kernel
theorem dX5_segment_70 : decode cX5_segment 70 = .ok (.iadd, 1) := by decide +kernel
theorem dX5_segment_71 : decode cX5_segment 71 = .ok (.iload_n 1, 1) := by decide +kernel
theorem dX5_segment_72 : decode cX5_segment 72 = .ok (.iastore, 1) := by decide +kernel
theorem dX5_segment_73 : decode cX5_segment 73 = .ok (.aload_n 0, 1) := by decide +kernel
theorem dX5_segment_74 : decode cX5_segment 74 = .ok (.getfield 16, 3) := by decide +kernel
theorem dX5_segment_77 : decode cX5_segment 77 = .ok (.bipush 12, 2) := by decide +kernel
theorem dX5_segment_79 : decode cX5_segment 79 = .ok (.iload 4, 2) := by decide +kernel
theorem dX5_segment_81 : decode cX5_segment 81 = .ok (.iadd, 1) := by decide +kernel
theorem dX5_segment_82 : decode cX5_segment 82 = .ok (.iload_n 2, 1) := by decide +kernel
theorem dX5_segment_83 : decode cX5_segment 83 = .ok (.iastore, 1) := by decide +kernel
theorem dX5_segment_84 : decode cX5_segment 84 = .ok (.aload_n 0, 1) := by decide +kernel
theorem dX5_segment_85 : decode cX5_segment 85 = .ok (.getfield 16, 3) := by decide +kernel
theorem dX5_segment_88 : decode cX5_segment 88 = .ok (.bipush 24, 2) := by decide +kernel
theorem dX5_segment_90 : decode cX5_segment 90 = .ok (.iload 4, 2) := by decide +kernel
theorem dX5_segment_92 : decode cX5_segment 92 = .ok (.iadd, 1) := by decide +kernel
theorem dX5_segment_93 : decode cX5_segment 93 = .ok (.iload_n 3, 1) := by decide +kernel
theorem dX5_segment_94 : decode cX5_segment 94 = .ok (.iastore, 1) := by decide +kernel
theorem dX5_segment_95 : decode cX5_segment 95 = .ok (.aload_n 0, 1) := by decide +kernel
theorem dX5_segment_96 : decode cX5_segment 96 = .ok (.getfield 16, 3) := by decide +kernel
theorem dX5_segment_99 : decode cX5_segment 99 = .ok (.bipush 60, 2) := by decide +kernel
theorem dX5_segment_101 : decode cX5_segment 101 = .ok (.dup2, 1) := by decide +kernel
theorem dX5_segment_102 : decode cX5_segment 102 = .ok (.iaload, 1) := by decide +kernel
theorem dX5_segment_103 : decode cX5_segment 103 = .ok (.iconst 1, 1) := by decide +kernel
theorem dX5_segment_104 : decode cX5_segment 104 = .ok (.iadd, 1) := by decide +kernel
theorem dX5_segment_105 : decode cX5_segment 105 = .ok (.iastore, 1) := by decide +kernel
theorem dX5_segment_106 : decode cX5_segment 106 = .ok (.iload 4, 2) := by decide +kernel
theorem dX5_segment_108 : decode cX5_segment 108 = .ok (.ireturn, 1) := by decide +kernel
theorem dX5_tells_0 : decode cX5_tells 0 = .ok (.iload_n 2, 1) := by decide +kernel
theorem dX5_tells_1 : decode cX5_tells 1 = .ok (.ifCond .ne 5, 3) := by decide +kernel
theorem dX5_tells_4 : decode cX5_tells 4 = .ok (.iconst (-1), 1) := by decide +kernel
theorem dX5_tells_5 : decode cX5_tells 5 = .ok (.ireturn, 1) := by decide +kernel
theorem dX5_tells_6 : decode cX5_tells 6 = .ok (.aload_n 0, 1) := by decide +kernel
theorem dX5_tells_7 : decode cX5_tells 7 = .ok (.invokevirtual 49, 3) := by decide +kernel
theorem dX5_tells_10 : decode cX5_tells 10 = .ok (.aload_n 0, 1) := by decide +kernel
theorem dX5_tells_11 : decode cX5_tells 11 = .ok (.getfield 16, 3) := by decide +kernel
theorem dX5_tells_14 : decode cX5_tells 14 = .ok (.iload_n 1, 1) := by decide +kernel
theorem dX5_tells_15 : decode cX5_tells 15 = .ok (.iaload, 1) := by decide +kernel
theorem dX5_tells_16 : decode cX5_tells 16 = .ok (.istore 4, 2) := by decide +kernel
theorem dX5_tells_18 : decode cX5_tells 18 = .ok (.aload_n 0, 1) := by decide +kernel
theorem dX5_tells_19 : decode cX5_tells 19 = .ok (.getfield 16, 3) := by decide +kernel
theorem dX5_tells_22 : decode cX5_tells 22 = .ok (.iload_n 1, 1) := by decide +kernel
theorem dX5_tells_23 : decode cX5_tells 23 = .ok (.iload_n 3, 1) := by decide +kernel
theorem dX5_tells_24 : decode cX5_tells 24 = .ok (.iastore, 1) := by decide +kernel
theorem dX5_tells_25 : decode cX5_tells 25 = .ok (.iload 4, 2) := by decide +kernel
theorem dX5_tells_27 : decode cX5_tells 27 = .ok (.ireturn, 1) := by decide +kernel
theorem dX5_alter_0 : decode cX5_alter 0 = .ok (.aload_n 0, 1) := by decide +kernel
theorem dX5_alter_1 : decode cX5_alter 1 = .ok (.iconst 0, 1) := by decide +kernel
theorem dX5_alter_2 : decode cX5_alter 2 = .ok (.putfield 1, 3) := by decide +kernel
theorem dX5_alter_5 : decode cX5_alter 5 = .ok (.iload_n 2, 1) := by decide +kernel
theorem dX5_alter_6 : decode cX5_alter 6 = .ok (.ifCond .ne 15, 3) := by decide +kernel
theorem dX5_alter_9 : decode cX5_alter 9 = .ok (.iload_n 3, 1) := by decide +kernel
theorem dX5_alter_10 : decode cX5_alter 10 = .ok (.i2l, 1) := by decide +kernel
theorem dX5_alter_11 : decode cX5_alter 11 = .ok (.lconst 1, 1) := by decide +kernel
theorem dX5_alter_12 : decode cX5_alter 12 = .ok (.ldc2_w 43, 3) := by decide +kernel
theorem dX5_alter_15 : decode cX5_alter 15 = .ok (.invokestatic 39, 3) := by decide +kernel
theorem dX5_alter_18 : decode cX5_alter 18 = .ok (.goto 42, 3) := by decide +kernel
theorem dX5_alter_21 : decode cX5_alter 21 = .ok (.iload_n 2, 1) := by decide +kernel
theorem dX5_alter_22 : decode cX5_alter 22 = .ok (.iconst 1, 1) := by decide +kernel
theorem dX5_alter_23 : decode cX5_alter 23 = .ok (.if_icmp .ne 15, 3) := by decide +kernel
theorem dX5_alter_26 : decode cX5_alter 26 = .ok (.iload_n 3, 1) := by decide +kernel
theorem dX5_alter_27 : decode cX5_alter 27 = .ok (.i2l, 1) := by decide +kernel
theorem dX5_alter_28 : decode cX5_alter 28 = .ok (.lconst 0, 1) := by decide +kernel
theorem dX5_alter_29 : decode cX5_alter 29 = .ok (.ldc2_w 45, 3) := by decide +kernel
theorem dX5_alter_32 : decode cX5_alter 32 = .ok (.invokestatic 39, 3) := by decide +kernel
theorem dX5_alter_35 : decode cX5_alter 35 = .ok (.goto 25, 3) := by decide +kernel
theorem dX5_alter_38 : decode cX5_alter 38 = .ok (.iload_n 2, 1) := by decide +kernel
theorem dX5_alter_39 : decode cX5_alter 39 = .ok (.iconst 2, 1) := by decide +kernel
theorem dX5_alter_40 : decode cX5_alter 40 = .ok (.if_icmp .ne 19, 3) := by decide +kernel
theorem dX5_alter_43 : decode cX5_alter 43 = .ok (.iload_n 3, 1) := by decide +kernel
theorem dX5_alter_44 : decode cX5_alter 44 = .ok (.i2l, 1) := by decide +kernel
theorem dX5_alter_45 : decode cX5_alter 45 = .ok (.lconst 0, 1) := by decide +kernel
theorem dX5_alter_46 : decode cX5_alter 46 = .ok (.ldc2_w 47, 3) := by decide +kernel
theorem dX5_alter_49 : decode cX5_alter 49 = .ok (.invokestatic 39, 3) := by decide +kernel
theorem dX5_alter_52 : decode cX5_alter 52 = .ok (.ifCond .eq 7, 3) := by decide +kernel
theorem dX5_alter_55 : decode cX5_alter 55 = .ok (.iconst 1, 1) := by decide +kernel
theorem dX5_alter_56 : decode cX5_alter 56 = .ok (.goto 4, 3) := by decide +kernel
theorem dX5_alter_59 : decode cX5_alter 59 = .ok (.iconst 0, 1) := by decide +kernel
theorem dX5_alter_60 : decode cX5_alter 60 = .ok (.istore 4, 2) := by decide +kernel
theorem dX5_alter_62 : decode cX5_alter 62 = .ok (.aload_n 0, 1) := by decide +kernel
theorem dX5_alter_63 : decode cX5_alter 63 = .ok (.bipush 12, 2) := by decide +kernel
theorem dX5_alter_65 : decode cX5_alter 65 = .ok (.iload 4, 2) := by decide +kernel
theorem dX5_alter_67 : decode cX5_alter 67 = .ok (.ifCond .eq 7, 3) := by decide +kernel
theorem dX5_alter_70 : decode cX5_alter 70 = .ok (.iload_n 2, 1) := by decide +kernel
theorem dX5_alter_71 : decode cX5_alter 71 = .ok (.goto 4, 3) := by decide +kernel
theorem dX5_alter_74 : decode cX5_alter 74 = .ok (.iconst 0, 1) := by decide +kernel
theorem dX5_alter_75 : decode cX5_alter 75 = .ok (.imul, 1) := by decide +kernel
theorem dX5_alter_76 : decode cX5_alter 76 = .ok (.iload_n 1, 1) := by decide +kernel
theorem dX5_alter_77 : decode cX5_alter 77 = .ok (.iadd, 1) := by decide +kernel
theorem dX5_alter_78 : decode cX5_alter 78 = .ok (.iload 4, 2) := by decide +kernel
theorem dX5_alter_80 : decode cX5_alter 80 = .ok (.ifCond .eq 15, 3) := by decide +kernel
theorem dX5_alter_83 : decode cX5_alter 83 = .ok (.aload_n 0, 1) := by decide +kernel
theorem dX5_alter_84 : decode cX5_alter 84 = .ok (.iload_n 1, 1) := by decide +kernel
theorem dX5_alter_85 : decode cX5_alter 85 = .ok (.invokevirtual 52, 3) := by decide +kernel
theorem dX5_alter_88 : decode cX5_alter 88 = .ok (.ifCond .eq 7, 3) := by decide +kernel
theorem dX5_alter_91 : decode cX5_alter 91 = .ok (.iconst 1, 1) := by decide +kernel
theorem dX5_alter_92 : decode cX5_alter 92 = .ok (.goto 4, 3) := by decide +kernel
theorem dX5_alter_95 : decode cX5_alter 95 = .ok (.iconst 0, 1) := by decide +kernel
theorem dX5_alter_96 : decode cX5_alter 96 = .ok (.iload_n 3, 1) := by decide +kernel
theorem dX5_alter_97 : decode cX5_alter 97 = .ok (.invokevirtual 56, 3) := by decide +kernel
theorem dX5_alter_100 : decode cX5_alter 100 = .ok (.ireturn, 1) := by decide +kernel
theorem dX5_drop_0 : decode cX5_drop 0 = .ok (.aload_n 0, 1) := by decide +kernel
theorem dX5_drop_1 : decode cX5_drop 1 = .ok (.iconst 0, 1) := by decide +kernel
theorem dX5_drop_2 : decode cX5_drop 2 = .ok (.putfield 1, 3) := by decide +kernel
theorem dX5_drop_5 : decode cX5_drop 5 = .ok (.aload_n 0, 1) := by decide +kernel
theorem dX5_drop_6 : decode cX5_drop 6 = .ok (.getfield 16, 3) := by decide +kernel
theorem dX5_drop_9 : decode cX5_drop 9 = .ok (.bipush 60, 2) := by decide +kernel
theorem dX5_drop_11 : decode cX5_drop 11 = .ok (.iaload, 1) := by decide +kernel
theorem dX5_drop_12 : decode cX5_drop 12 = .ok (.ifCond .ne 5, 3) := by decide +kernel
theorem dX5_drop_15 : decode cX5_drop 15 = .ok (.iconst (-1), 1) := by decide +kernel
theorem dX5_drop_16 : decode cX5_drop 16 = .ok (.ireturn, 1) := by decide +kernel
theorem dX5_drop_17 : decode cX5_drop 17 = .ok (.aload_n 0, 1) := by decide +kernel
theorem dX5_drop_18 : decode cX5_drop 18 = .ok (.invokevirtual 49, 3) := by decide +kernel
theorem dX5_drop_21 : decode cX5_drop 21 = .ok (.aload_n 0, 1) := by decide +kernel
theorem dX5_drop_22 : decode cX5_drop 22 = .ok (.getfield 16, 3) := by decide +kernel
theorem dX5_drop_25 : decode cX5_drop 25 = .ok (.bipush 60, 2) := by decide +kernel
theorem dX5_drop_27 : decode cX5_drop 27 = .ok (.dup2, 1) := by decide +kernel
theorem dX5_drop_28 : decode cX5_drop 28 = .ok (.iaload, 1) := by decide +kernel
theorem dX5_drop_29 : decode cX5_drop 29 = .ok (.iconst 1, 1) := by decide +kernel
theorem dX5_drop_30 : decode cX5_drop 30 = .ok (.isub, 1) := by decide +kernel
theorem dX5_drop_31 : decode cX5_drop 31 = .ok (.iastore, 1) := by decide +kernel
theorem dX5_drop_32 : decode cX5_drop 32 = .ok (.aload_n 0, 1) := by decide +kernel
theorem dX5_drop_33 : decode cX5_drop 33 = .ok (.getfield 16, 3) := by decide +kernel
theorem dX5_drop_36 : decode cX5_drop 36 = .ok (.bipush 60, 2) := by decide +kernel
theorem dX5_drop_38 : decode cX5_drop 38 = .ok (.iaload, 1) := by decide +kernel
theorem dX5_drop_39 : decode cX5_drop 39 = .ok (.ireturn, 1) := by decide +kernel
theorem dX5_start_0 : decode cX5_start 0 = .ok (.aload_n 0, 1) := by decide +kernel
theorem dX5_start_1 : decode cX5_start 1 = .ok (.iconst 0, 1) := by decide +kernel
theorem dX5_start_2 : decode cX5_start 2 = .ok (.putfield 1, 3) := by decide +kernel
theorem dX5_start_5 : decode cX5_start 5 = .ok (.aload_n 0, 1) := by decide +kernel
theorem dX5_start_6 : decode cX5_start 6 = .ok (.bipush 62, 2) := by decide +kernel
theorem dX5_start_8 : decode cX5_start 8 = .ok (.iload_n 1, 1) := by decide +kernel
theorem dX5_start_9 : decode cX5_start 9 = .ok (.i2l, 1) := by decide +kernel
theorem dX5_start_10 : decode cX5_start 10 = .ok (.lconst 0, 1) := by decide +kernel
theorem dX5_start_11 : decode cX5_start 11 = .ok (.ldc2_w 45, 3) := by decide +kernel
theorem dX5_start_14 : decode cX5_start 14 = .ok (.invokestatic 39, 3) := by decide +kernel
theorem dX5_start_17 : decode cX5_start 17 = .ok (.iload_n 1, 1) := by decide +kernel
theorem dX5_start_18 : decode cX5_start 18 = .ok (.invokevirtual 56, 3) := by decide +kernel
theorem dX5_start_21 : decode cX5_start 21 = .ok (.ireturn, 1) := by decide +kernel
theorem dX5_base_0 : decode cX5_base 0 = .ok (.aload_n 0, 1) := by decide +kernel
theorem dX5_base_1 : decode cX5_base 1 = .ok (.iconst 0, 1) := by decide +kernel
theorem dX5_base_2 : decode cX5_base 2 = .ok (.putfield 1, 3) := by decide +kernel
theorem dX5_base_5 : decode cX5_base 5 = .ok (.aload_n 0, 1) := by decide +kernel
theorem dX5_base_6 : decode cX5_base 6 = .ok (.bipush 63, 2) := by decide +kernel
theorem dX5_base_8 : decode cX5_base 8 = .ok (.iload_n 1, 1) := by decide +kernel
theorem dX5_base_9 : decode cX5_base 9 = .ok (.i2l, 1) := by decide +kernel
theorem dX5_base_10 : decode cX5_base 10 = .ok (.ldc2_w 60, 3) := by decide +kernel
theorem dX5_base_13 : decode cX5_base 13 = .ok (.ldc2_w 62, 3) := by decide +kernel
theorem dX5_base_16 : decode cX5_base 16 = .ok (.invokestatic 39, 3) := by decide +kernel
theorem dX5_base_19 : decode cX5_base 19 = .ok (.iload_n 1, 1) := by decide +kernel
theorem dX5_base_20 : decode cX5_base 20 = .ok (.invokevirtual 56, 3) := by decide +kernel
theorem dX5_base_23 : decode cX5_base 23 = .ok (.ireturn, 1) := by decide +kernel
theorem dX5_roller_0 : decode cX5_roller 0 = .ok (.aload_n 0, 1) := by decide +kernel
theorem dX5_roller_1 : decode cX5_roller 1 = .ok (.iconst 0, 1) := by decide +kernel
theorem dX5_roller_2 : decode cX5_roller 2 = .ok (.putfield 1, 3) := by decide +kernel
theorem dX5_roller_5 : decode cX5_roller 5 = .ok (.aload_n 0, 1) := by decide +kernel
theorem dX5_roller_6 : decode cX5_roller 6 = .ok (.bipush 64, 2) := by decide +kernel
theorem dX5_roller_8 : decode cX5_roller 8 = .ok (.iload_n 1, 1) := by decide +kernel
theorem dX5_roller_9 : decode cX5_roller 9 = .ok (.i2l, 1) := by decide +kernel
theorem dX5_roller_10 : decode cX5_roller 10 = .ok (.lconst 1, 1) := by decide +kernel
theorem dX5_roller_11 : decode cX5_roller 11 = .ok (.ldc2_w 62, 3) := by decide +kernel
theorem dX5_roller_14 : decode cX5_roller 14 = .ok (.invokestatic 39, 3) := by decide +kernel
theorem dX5_roller_17 : decode cX5_roller 17 = .ok (.iload_n 1, 1) := by decide +kernel
theorem dX5_roller_18 : decode cX5_roller 18 = .ok (.invokevirtual 56, 3) := by decide +kernel
theorem dX5_roller_21 : decode cX5_roller 21 = .ok (.ireturn, 1) := by decide +kernel
theorem dX5_spring_0 : decode cX5_spring 0 = .ok (.aload_n 0, 1) := by decide +kernel
theorem dX5_spring_1 : decode cX5_spring 1 = .ok (.iconst 0, 1) := by decide +kernel
theorem dX5_spring_2 : decode cX5_spring 2 = .ok (.putfield 1, 3) := by decide +kernel
theorem dX5_spring_5 : decode cX5_spring 5 = .ok (.iload_n 1, 1) := by decide +kernel
theorem dX5_spring_6 : decode cX5_spring 6 = .ok (.i2l, 1) := by decide +kernel
theorem dX5_spring_7 : decode cX5_spring 7 = .ok (.lconst 0, 1) := by decide +kernel
theorem dX5_spring_8 : decode cX5_spring 8 = .ok (.ldc2_w 64, 3) := by decide +kernel
theorem dX5_spring_11 : decode cX5_spring 11 = .ok (.invokestatic 39, 3) := by decide +kernel
theorem dX5_spring_14 : decode cX5_spring 14 = .ok (.ifCond .eq 27, 3) := by decide +kernel
theorem dX5_spring_17 : decode cX5_spring 17 = .ok (.iload_n 2, 1) := by decide +kernel
theorem dX5_spring_18 : decode cX5_spring 18 = .ok (.i2l, 1) := by decide +kernel
theorem dX5_spring_19 : decode cX5_spring 19 = .ok (.lconst 0, 1) := by decide +kernel
theorem dX5_spring_20 : decode cX5_spring 20 = .ok (.ldc2_w 45, 3) := by decide +kernel
theorem dX5_spring_23 : decode cX5_spring 23 = .ok (.invokestatic 39, 3) := by decide +kernel
theorem dX5_spring_26 : decode cX5_spring 26 = .ok (.ifCond .eq 15, 3) := by decide +kernel
theorem dX5_spring_29 : decode cX5_spring 29 = .ok (.iload_n 3, 1) := by decide +kernel
theorem dX5_spring_30 : decode cX5_spring 30 = .ok (.i2l, 1) := by decide +kernel
theorem dX5_spring_31 : decode cX5_spring 31 = .ok (.lconst 1, 1) := by decide +kernel
theorem dX5_spring_32 : decode cX5_spring 32 = .ok (.ldc2_w 45, 3) := by decide +kernel
theorem dX5_spring_35 : decode cX5_spring 35 = .ok (.invokestatic 39, 3) := by decide +kernel
theorem dX5_spring_38 : decode cX5_spring 38 = .ok (.ifCond .ne 5, 3) := by decide +kernel
theorem dX5_spring_41 : decode cX5_spring 41 = .ok (.iconst 0, 1) := by decide +kernel
theorem dX5_spring_42 : decode cX5_spring 42 = .ok (.ireturn, 1) := by decide +kernel
theorem dX5_spring_43 : decode cX5_spring 43 = .ok (.aload_n 0, 1) := by decide +kernel
theorem dX5_spring_44 : decode cX5_spring 44 = .ok (.invokevirtual 49, 3) := by decide +kernel
theorem dX5_spring_47 : decode cX5_spring 47 = .ok (.aload_n 0, 1) := by decide +kernel
theorem dX5_spring_48 : decode cX5_spring 48 = .ok (.getfield 16, 3) := by decide +kernel
theorem dX5_spring_51 : decode cX5_spring 51 = .ok (.bipush 65, 2) := by decide +kernel
theorem dX5_spring_53 : decode cX5_spring 53 = .ok (.iload_n 1, 1) := by decide +kernel
theorem dX5_spring_54 : decode cX5_spring 54 = .ok (.iastore, 1) := by decide +kernel
theorem dX5_spring_55 : decode cX5_spring 55 = .ok (.aload_n 0, 1) := by decide +kernel
theorem dX5_spring_56 : decode cX5_spring 56 = .ok (.getfield 16, 3) := by decide +kernel
theorem dX5_spring_59 : decode cX5_spring 59 = .ok (.bipush 66, 2) := by decide +kernel
theorem dX5_spring_61 : decode cX5_spring 61 = .ok (.iload_n 2, 1) := by decide +kernel
theorem dX5_spring_62 : decode cX5_spring 62 = .ok (.iastore, 1) := by decide +kernel
theorem dX5_spring_63 : decode cX5_spring 63 = .ok (.aload_n 0, 1) := by decide +kernel
theorem dX5_spring_64 : decode cX5_spring 64 = .ok (.getfield 16, 3) := by decide +kernel
theorem dX5_spring_67 : decode cX5_spring 67 = .ok (.bipush 67, 2) := by decide +kernel
theorem dX5_spring_69 : decode cX5_spring 69 = .ok (.iload_n 3, 1) := by decide +kernel
theorem dX5_spring_70 : decode cX5_spring 70 = .ok (.iastore, 1) := by decide +kernel
theorem dX5_spring_71 : decode cX5_spring 71 = .ok (.iconst 1, 1) := by decide +kernel
theorem dX5_spring_72 : decode cX5_spring 72 = .ok (.ireturn, 1) := by decide +kernel
theorem dX5_speed_0 : decode cX5_speed 0 = .ok (.aload_n 0, 1) := by decide +kernel
theorem dX5_speed_1 : decode cX5_speed 1 = .ok (.iconst 0, 1) := by decide +kernel
theorem dX5_speed_2 : decode cX5_speed 2 = .ok (.putfield 1, 3) := by decide +kernel
theorem dX5_speed_5 : decode cX5_speed 5 = .ok (.aload_n 0, 1) := by decide +kernel
theorem dX5_speed_6 : decode cX5_speed 6 = .ok (.bipush 68, 2) := by decide +kernel
theorem dX5_speed_8 : decode cX5_speed 8 = .ok (.iload_n 1, 1) := by decide +kernel
theorem dX5_speed_9 : decode cX5_speed 9 = .ok (.i2l, 1) := by decide +kernel
theorem dX5_speed_10 : decode cX5_speed 10 = .ok (.lconst 0, 1) := by decide +kernel
theorem dX5_speed_11 : decode cX5_speed 11 = .ok (.ldc2_w 62, 3) := by decide +kernel
theorem dX5_speed_14 : decode cX5_speed 14 = .ok (.invokestatic 39, 3) := by decide +kernel
theorem dX5_speed_17 : decode cX5_speed 17 = .ok (.iload_n 1, 1) := by decide +kernel
theorem dX5_speed_18 : decode cX5_speed 18 = .ok (.invokevirtual 56, 3) := by decide +kernel
theorem dX5_speed_21 : decode cX5_speed 21 = .ok (.ireturn, 1) := by decide +kernel
theorem dX5_steepest_0 : decode cX5_steepest 0 = .ok (.aload_n 0, 1) := by decide +kernel
theorem dX5_steepest_1 : decode cX5_steepest 1 = .ok (.iconst 0, 1) := by decide +kernel
theorem dX5_steepest_2 : decode cX5_steepest 2 = .ok (.putfield 1, 3) := by decide +kernel
theorem dX5_steepest_5 : decode cX5_steepest 5 = .ok (.aload_n 0, 1) := by decide +kernel
theorem dX5_steepest_6 : decode cX5_steepest 6 = .ok (.bipush 69, 2) := by decide +kernel
theorem dX5_steepest_8 : decode cX5_steepest 8 = .ok (.iload_n 1, 1) := by decide +kernel
theorem dX5_steepest_9 : decode cX5_steepest 9 = .ok (.i2l, 1) := by decide +kernel
theorem dX5_steepest_10 : decode cX5_steepest 10 = .ok (.lconst 0, 1) := by decide +kernel
theorem dX5_steepest_11 : decode cX5_steepest 11 = .ok (.ldc2_w 62, 3) := by decide +kernel
theorem dX5_steepest_14 : decode cX5_steepest 14 = .ok (.invokestatic 39, 3) := by decide +kernel
theorem dX5_steepest_17 : decode cX5_steepest 17 = .ok (.iload_n 1, 1) := by decide +kernel
theorem dX5_steepest_18 : decode cX5_steepest 18 = .ok (.invokevirtual 56, 3) := by decide +kernel
theorem dX5_steepest_21 : decode cX5_steepest 21 = .ok (.ireturn, 1) := by decide +kernel
theorem dX5_slack_0 : decode cX5_slack 0 = .ok (.aload_n 0, 1) := by decide +kernel
theorem dX5_slack_1 : decode cX5_slack 1 = .ok (.iconst 0, 1) := by decide +kernel
theorem dX5_slack_2 : decode cX5_slack 2 = .ok (.putfield 1, 3) := by decide +kernel
theorem dX5_slack_5 : decode cX5_slack 5 = .ok (.aload_n 0, 1) := by decide +kernel
theorem dX5_slack_6 : decode cX5_slack 6 = .ok (.bipush 70, 2) := by decide +kernel
theorem dX5_slack_8 : decode cX5_slack 8 = .ok (.iload_n 1, 1) := by decide +kernel
theorem dX5_slack_9 : decode cX5_slack 9 = .ok (.i2l, 1) := by decide +kernel
theorem dX5_slack_10 : decode cX5_slack 10 = .ok (.lconst 0, 1) := by decide +kernel
theorem dX5_slack_11 : decode cX5_slack 11 = .ok (.ldc2_w 66, 3) := by decide +kernel
theorem dX5_slack_14 : decode cX5_slack 14 = .ok (.invokestatic 39, 3) := by decide +kernel
theorem dX5_slack_17 : decode cX5_slack 17 = .ok (.iload_n 1, 1) := by decide +kernel
theorem dX5_slack_18 : decode cX5_slack 18 = .ok (.invokevirtual 56, 3) := by decide +kernel
theorem dX5_slack_21 : decode cX5_slack 21 = .ok (.ireturn, 1) := by decide +kernel
theorem dX5_mark_0 : decode cX5_mark 0 = .ok (.aload_n 0, 1) := by decide +kernel
theorem dX5_mark_1 : decode cX5_mark 1 = .ok (.iconst 0, 1) := by decide +kernel
theorem dX5_mark_2 : decode cX5_mark 2 = .ok (.putfield 1, 3) := by decide +kernel
theorem dX5_mark_5 : decode cX5_mark 5 = .ok (.aload_n 0, 1) := by decide +kernel
theorem dX5_mark_6 : decode cX5_mark 6 = .ok (.getfield 16, 3) := by decide +kernel
theorem dX5_mark_9 : decode cX5_mark 9 = .ok (.bipush 61, 2) := by decide +kernel
theorem dX5_mark_11 : decode cX5_mark 11 = .ok (.iaload, 1) := by decide +kernel
theorem dX5_mark_12 : decode cX5_mark 12 = .ok (.istore 4, 2) := by decide +kernel
theorem dX5_mark_14 : decode cX5_mark 14 = .ok (.aload_n 0, 1) := by decide +kernel
theorem dX5_mark_15 : decode cX5_mark 15 = .ok (.iload_n 1, 1) := by decide +kernel
theorem dX5_mark_16 : decode cX5_mark 16 = .ok (.invokevirtual 68, 3) := by decide +kernel
theorem dX5_mark_19 : decode cX5_mark 19 = .ok (.ifCond .eq 34, 3) := by decide +kernel
theorem dX5_mark_22 : decode cX5_mark 22 = .ok (.iload_n 2, 1) := by decide +kernel
theorem dX5_mark_23 : decode cX5_mark 23 = .ok (.i2l, 1) := by decide +kernel
theorem dX5_mark_24 : decode cX5_mark 24 = .ok (.lconst 0, 1) := by decide +kernel
theorem dX5_mark_25 : decode cX5_mark 25 = .ok (.ldc2_w 45, 3) := by decide +kernel
theorem dX5_mark_28 : decode cX5_mark 28 = .ok (.invokestatic 39, 3) := by decide +kernel
theorem dX5_mark_31 : decode cX5_mark 31 = .ok (.ifCond .eq 22, 3) := by decide +kernel
theorem dX5_mark_34 : decode cX5_mark 34 = .ok (.iload_n 3, 1) := by decide +kernel
theorem dX5_mark_35 : decode cX5_mark 35 = .ok (.i2l, 1) := by decide +kernel
theorem dX5_mark_36 : decode cX5_mark 36 = .ok (.lconst 0, 1) := by decide +kernel
theorem dX5_mark_37 : decode cX5_mark 37 = .ok (.ldc2_w 66, 3) := by decide +kernel
theorem dX5_mark_40 : decode cX5_mark 40 = .ok (.invokestatic 39, 3) := by decide +kernel
theorem dX5_mark_43 : decode cX5_mark 43 = .ok (.ifCond .eq 10, 3) := by decide +kernel
theorem dX5_mark_46 : decode cX5_mark 46 = .ok (.iload 4, 2) := by decide +kernel
theorem dX5_mark_48 : decode cX5_mark 48 = .ok (.bipush 8, 2) := by decide +kernel
theorem dX5_mark_50 : decode cX5_mark 50 = .ok (.if_icmp .ne 5, 3) := by decide +kernel
theorem dX5_mark_53 : decode cX5_mark 53 = .ok (.iconst (-1), 1) := by decide +kernel
theorem dX5_mark_54 : decode cX5_mark 54 = .ok (.ireturn, 1) := by decide +kernel
theorem dX5_mark_55 : decode cX5_mark 55 = .ok (.aload_n 0, 1) := by decide +kernel
theorem dX5_mark_56 : decode cX5_mark 56 = .ok (.invokevirtual 49, 3) := by decide +kernel
theorem dX5_mark_59 : decode cX5_mark 59 = .ok (.aload_n 0, 1) := by decide +kernel
theorem dX5_mark_60 : decode cX5_mark 60 = .ok (.getfield 16, 3) := by decide +kernel
theorem dX5_mark_63 : decode cX5_mark 63 = .ok (.bipush 36, 2) := by decide +kernel
theorem dX5_mark_65 : decode cX5_mark 65 = .ok (.iload 4, 2) := by decide +kernel
theorem dX5_mark_67 : decode cX5_mark 67 = .ok (.iadd, 1) := by decide +kernel
theorem dX5_mark_68 : decode cX5_mark 68 = .ok (.iload_n 1, 1) := by decide +kernel
theorem dX5_mark_69 : decode cX5_mark 69 = .ok (.iastore, 1) := by decide +kernel
theorem dX5_mark_70 : decode cX5_mark 70 = .ok (.aload_n 0, 1) := by decide +kernel
theorem dX5_mark_71 : decode cX5_mark 71 = .ok (.getfield 16, 3) := by decide +kernel
theorem dX5_mark_74 : decode cX5_mark 74 = .ok (.bipush 44, 2) := by decide +kernel
theorem dX5_mark_76 : decode cX5_mark 76 = .ok (.iload 4, 2) := by decide +kernel
theorem dX5_mark_78 : decode cX5_mark 78 = .ok (.iadd, 1) := by decide +kernel
theorem dX5_mark_79 : decode cX5_mark 79 = .ok (.iload_n 2, 1) := by decide +kernel
theorem dX5_mark_80 : decode cX5_mark 80 = .ok (.iastore, 1) := by decide +kernel
theorem dX5_mark_81 : decode cX5_mark 81 = .ok (.aload_n 0, 1) := by decide +kernel
theorem dX5_mark_82 : decode cX5_mark 82 = .ok (.getfield 16, 3) := by decide +kernel
theorem dX5_mark_85 : decode cX5_mark 85 = .ok (.bipush 52, 2) := by decide +kernel
theorem dX5_mark_87 : decode cX5_mark 87 = .ok (.iload 4, 2) := by decide +kernel
theorem dX5_mark_89 : decode cX5_mark 89 = .ok (.iadd, 1) := by decide +kernel
theorem dX5_mark_90 : decode cX5_mark 90 = .ok (.iload_n 3, 1) := by decide +kernel
theorem dX5_mark_91 : decode cX5_mark 91 = .ok (.iastore, 1) := by decide +kernel
theorem dX5_mark_92 : decode cX5_mark 92 = .ok (.aload_n 0, 1) := by decide +kernel
theorem dX5_mark_93 : decode cX5_mark 93 = .ok (.getfield 16, 3) := by decide +kernel
theorem dX5_mark_96 : decode cX5_mark 96 = .ok (.bipush 61, 2) := by decide +kernel
theorem dX5_mark_98 : decode cX5_mark 98 = .ok (.dup2, 1) := by decide +kernel
theorem dX5_mark_99 : decode cX5_mark 99 = .ok (.iaload, 1) := by decide +kernel
theorem dX5_mark_100 : decode cX5_mark 100 = .ok (.iconst 1, 1) := by decide +kernel
theorem dX5_mark_101 : decode cX5_mark 101 = .ok (.iadd, 1) := by decide +kernel
theorem dX5_mark_102 : decode cX5_mark 102 = .ok (.iastore, 1) := by decide +kernel
theorem dX5_mark_103 : decode cX5_mark 103 = .ok (.iload 4, 2) := by decide +kernel
theorem dX5_mark_105 : decode cX5_mark 105 = .ok (.ireturn, 1) := by decide +kernel
theorem dX5_unmark_0 : decode cX5_unmark 0 = .ok (.aload_n 0, 1) := by decide +kernel
theorem dX5_unmark_1 : decode cX5_unmark 1 = .ok (.iconst 0, 1) := by decide +kernel
theorem dX5_unmark_2 : decode cX5_unmark 2 = .ok (.putfield 1, 3) := by decide +kernel
theorem dX5_unmark_5 : decode cX5_unmark 5 = .ok (.aload_n 0, 1) := by decide +kernel
theorem dX5_unmark_6 : decode cX5_unmark 6 = .ok (.iload_n 1, 1) := by decide +kernel
theorem dX5_unmark_7 : decode cX5_unmark 7 = .ok (.invokevirtual 71, 3) := by decide +kernel
theorem dX5_unmark_10 : decode cX5_unmark 10 = .ok (.ifCond .ne 5, 3) := by decide +kernel
theorem dX5_unmark_13 : decode cX5_unmark 13 = .ok (.iconst 0, 1) := by decide +kernel
theorem dX5_unmark_14 : decode cX5_unmark 14 = .ok (.ireturn, 1) := by decide +kernel
theorem dX5_unmark_15 : decode cX5_unmark 15 = .ok (.aload_n 0, 1) := by decide +kernel
theorem dX5_unmark_16 : decode cX5_unmark 16 = .ok (.invokevirtual 49, 3) := by decide +kernel
theorem dX5_unmark_19 : decode cX5_unmark 19 = .ok (.aload_n 0, 1) := by decide +kernel
theorem dX5_unmark_20 : decode cX5_unmark 20 = .ok (.getfield 16, 3) := by decide +kernel
theorem dX5_unmark_23 : decode cX5_unmark 23 = .ok (.bipush 61, 2) := by decide +kernel
theorem dX5_unmark_25 : decode cX5_unmark 25 = .ok (.dup2, 1) := by decide +kernel
theorem dX5_unmark_26 : decode cX5_unmark 26 = .ok (.iaload, 1) := by decide +kernel
theorem dX5_unmark_27 : decode cX5_unmark 27 = .ok (.iconst 1, 1) := by decide +kernel
theorem dX5_unmark_28 : decode cX5_unmark 28 = .ok (.isub, 1) := by decide +kernel
theorem dX5_unmark_29 : decode cX5_unmark 29 = .ok (.iastore, 1) := by decide +kernel
theorem dX5_unmark_30 : decode cX5_unmark 30 = .ok (.iload_n 1, 1) := by decide +kernel
theorem dX5_unmark_31 : decode cX5_unmark 31 = .ok (.istore_n 2, 1) := by decide +kernel
theorem dX5_unmark_32 : decode cX5_unmark 32 = .ok (.iload_n 2, 1) := by decide +kernel
theorem dX5_unmark_33 : decode cX5_unmark 33 = .ok (.aload_n 0, 1) := by decide +kernel
theorem dX5_unmark_34 : decode cX5_unmark 34 = .ok (.getfield 16, 3) := by decide +kernel
theorem dX5_unmark_37 : decode cX5_unmark 37 = .ok (.bipush 61, 2) := by decide +kernel
theorem dX5_unmark_39 : decode cX5_unmark 39 = .ok (.iaload, 1) := by decide +kernel
theorem dX5_unmark_40 : decode cX5_unmark 40 = .ok (.if_icmp .ge 69, 3) := by decide +kernel
theorem dX5_unmark_43 : decode cX5_unmark 43 = .ok (.aload_n 0, 1) := by decide +kernel
theorem dX5_unmark_44 : decode cX5_unmark 44 = .ok (.getfield 16, 3) := by decide +kernel
theorem dX5_unmark_47 : decode cX5_unmark 47 = .ok (.bipush 36, 2) := by decide +kernel
theorem dX5_unmark_49 : decode cX5_unmark 49 = .ok (.iload_n 2, 1) := by decide +kernel
theorem dX5_unmark_50 : decode cX5_unmark 50 = .ok (.iadd, 1) := by decide +kernel
theorem dX5_unmark_51 : decode cX5_unmark 51 = .ok (.aload_n 0, 1) := by decide +kernel
theorem dX5_unmark_52 : decode cX5_unmark 52 = .ok (.getfield 16, 3) := by decide +kernel
theorem dX5_unmark_55 : decode cX5_unmark 55 = .ok (.bipush 36, 2) := by decide +kernel
theorem dX5_unmark_57 : decode cX5_unmark 57 = .ok (.iload_n 2, 1) := by decide +kernel
theorem dX5_unmark_58 : decode cX5_unmark 58 = .ok (.iadd, 1) := by decide +kernel
theorem dX5_unmark_59 : decode cX5_unmark 59 = .ok (.iconst 1, 1) := by decide +kernel
theorem dX5_unmark_60 : decode cX5_unmark 60 = .ok (.iadd, 1) := by decide +kernel
theorem dX5_unmark_61 : decode cX5_unmark 61 = .ok (.iaload, 1) := by decide +kernel
theorem dX5_unmark_62 : decode cX5_unmark 62 = .ok (.iastore, 1) := by decide +kernel
theorem dX5_unmark_63 : decode cX5_unmark 63 = .ok (.aload_n 0, 1) := by decide +kernel
theorem dX5_unmark_64 : decode cX5_unmark 64 = .ok (.getfield 16, 3) := by decide +kernel
theorem dX5_unmark_67 : decode cX5_unmark 67 = .ok (.bipush 44, 2) := by decide +kernel
theorem dX5_unmark_69 : decode cX5_unmark 69 = .ok (.iload_n 2, 1) := by decide +kernel
theorem dX5_unmark_70 : decode cX5_unmark 70 = .ok (.iadd, 1) := by decide +kernel
theorem dX5_unmark_71 : decode cX5_unmark 71 = .ok (.aload_n 0, 1) := by decide +kernel
theorem dX5_unmark_72 : decode cX5_unmark 72 = .ok (.getfield 16, 3) := by decide +kernel
theorem dX5_unmark_75 : decode cX5_unmark 75 = .ok (.bipush 44, 2) := by decide +kernel
theorem dX5_unmark_77 : decode cX5_unmark 77 = .ok (.iload_n 2, 1) := by decide +kernel
theorem dX5_unmark_78 : decode cX5_unmark 78 = .ok (.iadd, 1) := by decide +kernel
theorem dX5_unmark_79 : decode cX5_unmark 79 = .ok (.iconst 1, 1) := by decide +kernel
theorem dX5_unmark_80 : decode cX5_unmark 80 = .ok (.iadd, 1) := by decide +kernel
theorem dX5_unmark_81 : decode cX5_unmark 81 = .ok (.iaload, 1) := by decide +kernel
theorem dX5_unmark_82 : decode cX5_unmark 82 = .ok (.iastore, 1) := by decide +kernel
theorem dX5_unmark_83 : decode cX5_unmark 83 = .ok (.aload_n 0, 1) := by decide +kernel
theorem dX5_unmark_84 : decode cX5_unmark 84 = .ok (.getfield 16, 3) := by decide +kernel
theorem dX5_unmark_87 : decode cX5_unmark 87 = .ok (.bipush 52, 2) := by decide +kernel
theorem dX5_unmark_89 : decode cX5_unmark 89 = .ok (.iload_n 2, 1) := by decide +kernel
theorem dX5_unmark_90 : decode cX5_unmark 90 = .ok (.iadd, 1) := by decide +kernel
theorem dX5_unmark_91 : decode cX5_unmark 91 = .ok (.aload_n 0, 1) := by decide +kernel
theorem dX5_unmark_92 : decode cX5_unmark 92 = .ok (.getfield 16, 3) := by decide +kernel
theorem dX5_unmark_95 : decode cX5_unmark 95 = .ok (.bipush 52, 2) := by decide +kernel
theorem dX5_unmark_97 : decode cX5_unmark 97 = .ok (.iload_n 2, 1) := by decide +kernel
theorem dX5_unmark_98 : decode cX5_unmark 98 = .ok (.iadd, 1) := by decide +kernel
theorem dX5_unmark_99 : decode cX5_unmark 99 = .ok (.iconst 1, 1) := by decide +kernel
theorem dX5_unmark_100 : decode cX5_unmark 100 = .ok (.iadd, 1) := by decide +kernel
theorem dX5_unmark_101 : decode cX5_unmark 101 = .ok (.iaload, 1) := by decide +kernel
theorem dX5_unmark_102 : decode cX5_unmark 102 = .ok (.iastore, 1) := by decide +kernel
theorem dX5_unmark_103 : decode cX5_unmark 103 = .ok (.iinc 2 1, 3) := by decide +kernel
theorem dX5_unmark_106 : decode cX5_unmark 106 = .ok (.goto (-74), 3) := by decide +kernel
theorem dX5_unmark_109 : decode cX5_unmark 109 = .ok (.iconst 1, 1) := by decide +kernel
theorem dX5_unmark_110 : decode cX5_unmark 110 = .ok (.ireturn, 1) := by decide +kernel
theorem dX5_back_0 : decode cX5_back 0 = .ok (.aload_n 0, 1) := by decide +kernel
theorem dX5_back_1 : decode cX5_back 1 = .ok (.iconst 0, 1) := by decide +kernel
theorem dX5_back_2 : decode cX5_back 2 = .ok (.putfield 1, 3) := by decide +kernel
theorem dX5_back_5 : decode cX5_back 5 = .ok (.aload_n 0, 1) := by decide +kernel
theorem dX5_back_6 : decode cX5_back 6 = .ok (.getfield 32, 3) := by decide +kernel
theorem dX5_back_9 : decode cX5_back 9 = .ok (.ifCond .ne 5, 3) := by decide +kernel
theorem dX5_back_12 : decode cX5_back 12 = .ok (.iconst 0, 1) := by decide +kernel
theorem dX5_back_13 : decode cX5_back 13 = .ok (.ireturn, 1) := by decide +kernel
theorem dX5_back_14 : decode cX5_back 14 = .ok (.aload_n 0, 1) := by decide +kernel
theorem dX5_back_15 : decode cX5_back 15 = .ok (.dup, 1) := by decide +kernel
theorem dX5_back_16 : decode cX5_back 16 = .ok (.getfield 32, 3) := by decide +kernel
theorem dX5_back_19 : decode cX5_back 19 = .ok (.iconst 1, 1) := by decide +kernel
theorem dX5_back_20 : decode cX5_back 20 = .ok (.isub, 1) := by decide +kernel
theorem dX5_back_21 : decode cX5_back 21 = .ok (.putfield 32, 3) := by decide +kernel
theorem dX5_back_24 : decode cX5_back 24 = .ok (.iconst 0, 1) := by decide +kernel
theorem dX5_back_25 : decode cX5_back 25 = .ok (.istore_n 1, 1) := by decide +kernel
theorem dX5_back_26 : decode cX5_back 26 = .ok (.iload_n 1, 1) := by decide +kernel
theorem dX5_back_27 : decode cX5_back 27 = .ok (.bipush 71, 2) := by decide +kernel
theorem dX5_back_29 : decode cX5_back 29 = .ok (.if_icmp .ge 29, 3) := by decide +kernel
theorem dX5_back_32 : decode cX5_back 32 = .ok (.aload_n 0, 1) := by decide +kernel
theorem dX5_back_33 : decode cX5_back 33 = .ok (.getfield 16, 3) := by decide +kernel
theorem dX5_back_36 : decode cX5_back 36 = .ok (.iload_n 1, 1) := by decide +kernel
theorem dX5_back_37 : decode cX5_back 37 = .ok (.aload_n 0, 1) := by decide +kernel
theorem dX5_back_38 : decode cX5_back 38 = .ok (.getfield 20, 3) := by decide +kernel
theorem dX5_back_41 : decode cX5_back 41 = .ok (.bipush 71, 2) := by decide +kernel
theorem dX5_back_43 : decode cX5_back 43 = .ok (.aload_n 0, 1) := by decide +kernel
theorem dX5_back_44 : decode cX5_back 44 = .ok (.getfield 32, 3) := by decide +kernel
theorem dX5_back_47 : decode cX5_back 47 = .ok (.imul, 1) := by decide +kernel
theorem dX5_back_48 : decode cX5_back 48 = .ok (.iload_n 1, 1) := by decide +kernel
theorem dX5_back_49 : decode cX5_back 49 = .ok (.iadd, 1) := by decide +kernel
theorem dX5_back_50 : decode cX5_back 50 = .ok (.iaload, 1) := by decide +kernel
theorem dX5_back_51 : decode cX5_back 51 = .ok (.iastore, 1) := by decide +kernel
theorem dX5_back_52 : decode cX5_back 52 = .ok (.iinc 1 1, 3) := by decide +kernel
theorem dX5_back_55 : decode cX5_back 55 = .ok (.goto (-29), 3) := by decide +kernel
theorem dX5_back_58 : decode cX5_back 58 = .ok (.iconst 1, 1) := by decide +kernel
theorem dX5_back_59 : decode cX5_back 59 = .ok (.ireturn, 1) := by decide +kernel
theorem dX5_comesFrom_0 : decode cX5_comesFrom 0 = .ok (.iload_n 1, 1) := by decide +kernel
theorem dX5_comesFrom_1 : decode cX5_comesFrom 1 = .ok (.ifCond .ne 13, 3) := by decide +kernel
theorem dX5_comesFrom_4 : decode cX5_comesFrom 4 = .ok (.aload_n 0, 1) := by decide +kernel
theorem dX5_comesFrom_5 : decode cX5_comesFrom 5 = .ok (.getfield 16, 3) := by decide +kernel
theorem dX5_comesFrom_8 : decode cX5_comesFrom 8 = .ok (.bipush 62, 2) := by decide +kernel
theorem dX5_comesFrom_10 : decode cX5_comesFrom 10 = .ok (.iaload, 1) := by decide +kernel
theorem dX5_comesFrom_11 : decode cX5_comesFrom 11 = .ok (.goto 14, 3) := by decide +kernel
theorem dX5_comesFrom_14 : decode cX5_comesFrom 14 = .ok (.aload_n 0, 1) := by decide +kernel
theorem dX5_comesFrom_15 : decode cX5_comesFrom 15 = .ok (.getfield 16, 3) := by decide +kernel
theorem dX5_comesFrom_18 : decode cX5_comesFrom 18 = .ok (.bipush 12, 2) := by decide +kernel
theorem dX5_comesFrom_20 : decode cX5_comesFrom 20 = .ok (.iload_n 1, 1) := by decide +kernel
theorem dX5_comesFrom_21 : decode cX5_comesFrom 21 = .ok (.iadd, 1) := by decide +kernel
theorem dX5_comesFrom_22 : decode cX5_comesFrom 22 = .ok (.iconst 1, 1) := by decide +kernel
theorem dX5_comesFrom_23 : decode cX5_comesFrom 23 = .ok (.isub, 1) := by decide +kernel
theorem dX5_comesFrom_24 : decode cX5_comesFrom 24 = .ok (.iaload, 1) := by decide +kernel
theorem dX5_comesFrom_25 : decode cX5_comesFrom 25 = .ok (.ireturn, 1) := by decide +kernel
theorem dX5_begins_0 : decode cX5_begins 0 = .ok (.iconst 0, 1) := by decide +kernel
theorem dX5_begins_1 : decode cX5_begins 1 = .ok (.istore_n 2, 1) := by decide +kernel
theorem dX5_begins_2 : decode cX5_begins 2 = .ok (.iconst 0, 1) := by decide +kernel
theorem dX5_begins_3 : decode cX5_begins 3 = .ok (.istore_n 3, 1) := by decide +kernel
theorem dX5_begins_4 : decode cX5_begins 4 = .ok (.iload_n 3, 1) := by decide +kernel
theorem dX5_begins_5 : decode cX5_begins 5 = .ok (.iload_n 1, 1) := by decide +kernel
theorem dX5_begins_6 : decode cX5_begins 6 = .ok (.if_icmp .ge 20, 3) := by decide +kernel
theorem dX5_begins_9 : decode cX5_begins 9 = .ok (.iload_n 2, 1) := by decide +kernel
theorem dX5_begins_10 : decode cX5_begins 10 = .ok (.aload_n 0, 1) := by decide +kernel
theorem dX5_begins_11 : decode cX5_begins 11 = .ok (.getfield 16, 3) := by decide +kernel
theorem dX5_begins_14 : decode cX5_begins 14 = .ok (.iconst 0, 1) := by decide +kernel
theorem dX5_begins_15 : decode cX5_begins 15 = .ok (.iload_n 3, 1) := by decide +kernel
theorem dX5_begins_16 : decode cX5_begins 16 = .ok (.iadd, 1) := by decide +kernel
theorem dX5_begins_17 : decode cX5_begins 17 = .ok (.iaload, 1) := by decide +kernel
theorem dX5_begins_18 : decode cX5_begins 18 = .ok (.iadd, 1) := by decide +kernel
theorem dX5_begins_19 : decode cX5_begins 19 = .ok (.istore_n 2, 1) := by decide +kernel
theorem dX5_begins_20 : decode cX5_begins 20 = .ok (.iinc 3 1, 3) := by decide +kernel
theorem dX5_begins_23 : decode cX5_begins 23 = .ok (.goto (-19), 3) := by decide +kernel
theorem dX5_begins_26 : decode cX5_begins 26 = .ok (.iload_n 2, 1) := by decide +kernel
theorem dX5_begins_27 : decode cX5_begins 27 = .ok (.ireturn, 1) := by decide +kernel
theorem dX5_isDwell_0 : decode cX5_isDwell 0 = .ok (.aload_n 0, 1) := by decide +kernel
theorem dX5_isDwell_1 : decode cX5_isDwell 1 = .ok (.iload_n 1, 1) := by decide +kernel
theorem dX5_isDwell_2 : decode cX5_isDwell 2 = .ok (.invokevirtual 74, 3) := by decide +kernel
theorem dX5_isDwell_5 : decode cX5_isDwell 5 = .ok (.aload_n 0, 1) := by decide +kernel
theorem dX5_isDwell_6 : decode cX5_isDwell 6 = .ok (.getfield 16, 3) := by decide +kernel
theorem dX5_isDwell_9 : decode cX5_isDwell 9 = .ok (.bipush 12, 2) := by decide +kernel
theorem dX5_isDwell_11 : decode cX5_isDwell 11 = .ok (.iload_n 1, 1) := by decide +kernel
theorem dX5_isDwell_12 : decode cX5_isDwell 12 = .ok (.iadd, 1) := by decide +kernel
theorem dX5_isDwell_13 : decode cX5_isDwell 13 = .ok (.iaload, 1) := by decide +kernel
theorem dX5_isDwell_14 : decode cX5_isDwell 14 = .ok (.if_icmp .ne 7, 3) := by decide +kernel
theorem dX5_isDwell_17 : decode cX5_isDwell 17 = .ok (.iconst 1, 1) := by decide +kernel
theorem dX5_isDwell_18 : decode cX5_isDwell 18 = .ok (.goto 4, 3) := by decide +kernel
theorem dX5_isDwell_21 : decode cX5_isDwell 21 = .ok (.iconst 0, 1) := by decide +kernel
theorem dX5_isDwell_22 : decode cX5_isDwell 22 = .ok (.ireturn, 1) := by decide +kernel
theorem dX5_isWhole_0 : decode cX5_isWhole 0 = .ok (.aload_n 0, 1) := by decide +kernel
theorem dX5_isWhole_1 : decode cX5_isWhole 1 = .ok (.getfield 16, 3) := by decide +kernel
theorem dX5_isWhole_4 : decode cX5_isWhole 4 = .ok (.bipush 60, 2) := by decide +kernel
theorem dX5_isWhole_6 : decode cX5_isWhole 6 = .ok (.iaload, 1) := by decide +kernel
theorem dX5_isWhole_7 : decode cX5_isWhole 7 = .ok (.istore_n 1, 1) := by decide +kernel
theorem dX5_isWhole_8 : decode cX5_isWhole 8 = .ok (.iload_n 1, 1) := by decide +kernel
theorem dX5_isWhole_9 : decode cX5_isWhole 9 = .ok (.ifCond .le 40, 3) := by decide +kernel
theorem dX5_isWhole_12 : decode cX5_isWhole 12 = .ok (.aload_n 0, 1) := by decide +kernel
theorem dX5_isWhole_13 : decode cX5_isWhole 13 = .ok (.iload_n 1, 1) := by decide +kernel
theorem dX5_isWhole_14 : decode cX5_isWhole 14 = .ok (.invokevirtual 78, 3) := by decide +kernel
theorem dX5_isWhole_17 : decode cX5_isWhole 17 = .ok (.aload_n 0, 1) := by decide +kernel
theorem dX5_isWhole_18 : decode cX5_isWhole 18 = .ok (.getfield 13, 3) := by decide +kernel
theorem dX5_isWhole_21 : decode cX5_isWhole 21 = .ok (.if_icmp .ne 28, 3) := by decide +kernel
theorem dX5_isWhole_24 : decode cX5_isWhole 24 = .ok (.aload_n 0, 1) := by decide +kernel
theorem dX5_isWhole_25 : decode cX5_isWhole 25 = .ok (.getfield 16, 3) := by decide +kernel
theorem dX5_isWhole_28 : decode cX5_isWhole 28 = .ok (.bipush 12, 2) := by decide +kernel
theorem dX5_isWhole_30 : decode cX5_isWhole 30 = .ok (.iload_n 1, 1) := by decide +kernel
theorem dX5_isWhole_31 : decode cX5_isWhole 31 = .ok (.iadd, 1) := by decide +kernel
theorem dX5_isWhole_32 : decode cX5_isWhole 32 = .ok (.iconst 1, 1) := by decide +kernel
theorem dX5_isWhole_33 : decode cX5_isWhole 33 = .ok (.isub, 1) := by decide +kernel
theorem dX5_isWhole_34 : decode cX5_isWhole 34 = .ok (.iaload, 1) := by decide +kernel
theorem dX5_isWhole_35 : decode cX5_isWhole 35 = .ok (.aload_n 0, 1) := by decide +kernel
theorem dX5_isWhole_36 : decode cX5_isWhole 36 = .ok (.getfield 16, 3) := by decide +kernel
theorem dX5_isWhole_39 : decode cX5_isWhole 39 = .ok (.bipush 62, 2) := by decide +kernel
theorem dX5_isWhole_41 : decode cX5_isWhole 41 = .ok (.iaload, 1) := by decide +kernel
theorem dX5_isWhole_42 : decode cX5_isWhole 42 = .ok (.if_icmp .ne 7, 3) := by decide +kernel
theorem dX5_isWhole_45 : decode cX5_isWhole 45 = .ok (.iconst 1, 1) := by decide +kernel
theorem dX5_isWhole_46 : decode cX5_isWhole 46 = .ok (.goto 4, 3) := by decide +kernel
theorem dX5_isWhole_49 : decode cX5_isWhole 49 = .ok (.iconst 0, 1) := by decide +kernel
theorem dX5_isWhole_50 : decode cX5_isWhole 50 = .ok (.ireturn, 1) := by decide +kernel
theorem dX5_of_0 : decode cX5_of 0 = .ok (.aload_n 0, 1) := by decide +kernel
theorem dX5_of_1 : decode cX5_of 1 = .ok (.iconst 0, 1) := by decide +kernel
theorem dX5_of_2 : decode cX5_of 2 = .ok (.putfield 1, 3) := by decide +kernel
theorem dX5_of_5 : decode cX5_of 5 = .ok (.aload_n 0, 1) := by decide +kernel
theorem dX5_of_6 : decode cX5_of 6 = .ok (.iload_n 1, 1) := by decide +kernel
theorem dX5_of_7 : decode cX5_of 7 = .ok (.invokevirtual 52, 3) := by decide +kernel
theorem dX5_of_10 : decode cX5_of 10 = .ok (.ifCond .ne 5, 3) := by decide +kernel
theorem dX5_of_13 : decode cX5_of 13 = .ok (.iconst (-1), 1) := by decide +kernel
theorem dX5_of_14 : decode cX5_of 14 = .ok (.ireturn, 1) := by decide +kernel
theorem dX5_of_15 : decode cX5_of 15 = .ok (.iload_n 2, 1) := by decide +kernel
theorem dX5_of_16 : decode cX5_of 16 = .ok (.tableswitch 95 0 5 #[40, 49, 59, 69, 75, 81], 40) := by decide +kernel
theorem dX5_of_56 : decode cX5_of 56 = .ok (.aload_n 0, 1) := by decide +kernel
theorem dX5_of_57 : decode cX5_of 57 = .ok (.getfield 16, 3) := by decide +kernel
theorem dX5_of_60 : decode cX5_of 60 = .ok (.iconst 0, 1) := by decide +kernel
theorem dX5_of_61 : decode cX5_of 61 = .ok (.iload_n 1, 1) := by decide +kernel
theorem dX5_of_62 : decode cX5_of 62 = .ok (.iadd, 1) := by decide +kernel
theorem dX5_of_63 : decode cX5_of 63 = .ok (.iaload, 1) := by decide +kernel
theorem dX5_of_64 : decode cX5_of 64 = .ok (.ireturn, 1) := by decide +kernel
theorem dX5_of_65 : decode cX5_of 65 = .ok (.aload_n 0, 1) := by decide +kernel
theorem dX5_of_66 : decode cX5_of 66 = .ok (.getfield 16, 3) := by decide +kernel
theorem dX5_of_69 : decode cX5_of 69 = .ok (.bipush 12, 2) := by decide +kernel
theorem dX5_of_71 : decode cX5_of 71 = .ok (.iload_n 1, 1) := by decide +kernel
theorem dX5_of_72 : decode cX5_of 72 = .ok (.iadd, 1) := by decide +kernel
theorem dX5_of_73 : decode cX5_of 73 = .ok (.iaload, 1) := by decide +kernel
theorem dX5_of_74 : decode cX5_of 74 = .ok (.ireturn, 1) := by decide +kernel
theorem dX5_of_75 : decode cX5_of 75 = .ok (.aload_n 0, 1) := by decide +kernel
theorem dX5_of_76 : decode cX5_of 76 = .ok (.getfield 16, 3) := by decide +kernel
theorem dX5_of_79 : decode cX5_of 79 = .ok (.bipush 24, 2) := by decide +kernel
theorem dX5_of_81 : decode cX5_of 81 = .ok (.iload_n 1, 1) := by decide +kernel
theorem dX5_of_82 : decode cX5_of 82 = .ok (.iadd, 1) := by decide +kernel
theorem dX5_of_83 : decode cX5_of 83 = .ok (.iaload, 1) := by decide +kernel
theorem dX5_of_84 : decode cX5_of 84 = .ok (.ireturn, 1) := by decide +kernel
theorem dX5_of_85 : decode cX5_of 85 = .ok (.aload_n 0, 1) := by decide +kernel
theorem dX5_of_86 : decode cX5_of 86 = .ok (.iload_n 1, 1) := by decide +kernel
theorem dX5_of_87 : decode cX5_of 87 = .ok (.invokevirtual 74, 3) := by decide +kernel
theorem dX5_of_90 : decode cX5_of 90 = .ok (.ireturn, 1) := by decide +kernel
theorem dX5_of_91 : decode cX5_of 91 = .ok (.aload_n 0, 1) := by decide +kernel
theorem dX5_of_92 : decode cX5_of 92 = .ok (.iload_n 1, 1) := by decide +kernel
theorem dX5_of_93 : decode cX5_of 93 = .ok (.invokevirtual 78, 3) := by decide +kernel
theorem dX5_of_96 : decode cX5_of 96 = .ok (.ireturn, 1) := by decide +kernel
theorem dX5_of_97 : decode cX5_of 97 = .ok (.aload_n 0, 1) := by decide +kernel
theorem dX5_of_98 : decode cX5_of 98 = .ok (.iload_n 1, 1) := by decide +kernel
theorem dX5_of_99 : decode cX5_of 99 = .ok (.invokevirtual 81, 3) := by decide +kernel
theorem dX5_of_102 : decode cX5_of 102 = .ok (.ifCond .eq 7, 3) := by decide +kernel
theorem dX5_of_105 : decode cX5_of 105 = .ok (.iconst 1, 1) := by decide +kernel
theorem dX5_of_106 : decode cX5_of 106 = .ok (.goto 4, 3) := by decide +kernel
theorem dX5_of_109 : decode cX5_of 109 = .ok (.iconst 0, 1) := by decide +kernel
theorem dX5_of_110 : decode cX5_of 110 = .ok (.ireturn, 1) := by decide +kernel
theorem dX5_of_111 : decode cX5_of 111 = .ok (.iconst (-1), 1) := by decide +kernel
theorem dX5_of_112 : decode cX5_of 112 = .ok (.ireturn, 1) := by decide +kernel
theorem dX5_power_0 : decode cX5_power 0 = .ok (.lconst 1, 1) := by decide +kernel
theorem dX5_power_1 : decode cX5_power 1 = .ok (.lstore_n 3, 1) := by decide +kernel
theorem dX5_power_2 : decode cX5_power 2 = .ok (.iconst 0, 1) := by decide +kernel
theorem dX5_power_3 : decode cX5_power 3 = .ok (.istore 5, 2) := by decide +kernel
theorem dX5_power_5 : decode cX5_power 5 = .ok (.iload 5, 2) := by decide +kernel
theorem dX5_power_7 : decode cX5_power 7 = .ok (.iload_n 2, 1) := by decide +kernel
theorem dX5_power_8 : decode cX5_power 8 = .ok (.if_icmp .ge 13, 3) := by decide +kernel
theorem dX5_power_11 : decode cX5_power 11 = .ok (.lload_n 3, 1) := by decide +kernel
theorem dX5_power_12 : decode cX5_power 12 = .ok (.lload_n 0, 1) := by decide +kernel
theorem dX5_power_13 : decode cX5_power 13 = .ok (.lmul, 1) := by decide +kernel
theorem dX5_power_14 : decode cX5_power 14 = .ok (.lstore_n 3, 1) := by decide +kernel
theorem dX5_power_15 : decode cX5_power 15 = .ok (.iinc 5 1, 3) := by decide +kernel
theorem dX5_power_18 : decode cX5_power 18 = .ok (.goto (-13), 3) := by decide +kernel
theorem dX5_power_21 : decode cX5_power 21 = .ok (.lload_n 3, 1) := by decide +kernel
theorem dX5_power_22 : decode cX5_power 22 = .ok (.lreturn, 1) := by decide +kernel
theorem dX5_above_0 : decode cX5_above 0 = .ok (.iload_n 0, 1) := by decide +kernel
theorem dX5_above_1 : decode cX5_above 1 = .ok (.tableswitch 95 0 2 #[27, 29, 65], 27) := by decide +kernel
theorem dX5_above_28 : decode cX5_above 28 = .ok (.lload_n 1, 1) := by decide +kernel
theorem dX5_above_29 : decode cX5_above 29 = .ok (.lreturn, 1) := by decide +kernel
theorem dX5_above_30 : decode cX5_above 30 = .ok (.ldc2_w 84, 3) := by decide +kernel
theorem dX5_above_33 : decode cX5_above 33 = .ok (.lload_n 1, 1) := by decide +kernel
theorem dX5_above_34 : decode cX5_above 34 = .ok (.lmul, 1) := by decide +kernel
theorem dX5_above_35 : decode cX5_above 35 = .ok (.lload_n 3, 1) := by decide +kernel
theorem dX5_above_36 : decode cX5_above 36 = .ok (.lcmp, 1) := by decide +kernel
theorem dX5_above_37 : decode cX5_above 37 = .ok (.ifCond .gt 13, 3) := by decide +kernel
theorem dX5_above_40 : decode cX5_above 40 = .ok (.ldc2_w 84, 3) := by decide +kernel
theorem dX5_above_43 : decode cX5_above 43 = .ok (.lload_n 1, 1) := by decide +kernel
theorem dX5_above_44 : decode cX5_above 44 = .ok (.lmul, 1) := by decide +kernel
theorem dX5_above_45 : decode cX5_above 45 = .ok (.lload_n 1, 1) := by decide +kernel
theorem dX5_above_46 : decode cX5_above 46 = .ok (.lmul, 1) := by decide +kernel
theorem dX5_above_47 : decode cX5_above 47 = .ok (.goto 18, 3) := by decide +kernel
theorem dX5_above_50 : decode cX5_above 50 = .ok (.lload_n 3, 1) := by decide +kernel
theorem dX5_above_51 : decode cX5_above 51 = .ok (.lload_n 3, 1) := by decide +kernel
theorem dX5_above_52 : decode cX5_above 52 = .ok (.lmul, 1) := by decide +kernel
theorem dX5_above_53 : decode cX5_above 53 = .ok (.ldc2_w 84, 3) := by decide +kernel
theorem dX5_above_56 : decode cX5_above 56 = .ok (.lload_n 3, 1) := by decide +kernel
theorem dX5_above_57 : decode cX5_above 57 = .ok (.lload_n 1, 1) := by decide +kernel
theorem dX5_above_58 : decode cX5_above 58 = .ok (.lsub, 1) := by decide +kernel
theorem dX5_above_59 : decode cX5_above 59 = .ok (.lmul, 1) := by decide +kernel
theorem dX5_above_60 : decode cX5_above 60 = .ok (.lload_n 3, 1) := by decide +kernel
theorem dX5_above_61 : decode cX5_above 61 = .ok (.lload_n 1, 1) := by decide +kernel
theorem dX5_above_62 : decode cX5_above 62 = .ok (.lsub, 1) := by decide +kernel
theorem dX5_above_63 : decode cX5_above 63 = .ok (.lmul, 1) := by decide +kernel
theorem dX5_above_64 : decode cX5_above 64 = .ok (.lsub, 1) := by decide +kernel
theorem dX5_above_65 : decode cX5_above 65 = .ok (.lreturn, 1) := by decide +kernel
theorem dX5_above_66 : decode cX5_above 66 = .ok (.lload_n 1, 1) := by decide +kernel
theorem dX5_above_67 : decode cX5_above 67 = .ok (.iconst 3, 1) := by decide +kernel
theorem dX5_above_68 : decode cX5_above 68 = .ok (.invokestatic 86, 3) := by decide +kernel
theorem dX5_above_71 : decode cX5_above 71 = .ok (.ldc2_w 60, 3) := by decide +kernel
theorem dX5_above_74 : decode cX5_above 74 = .ok (.lload_n 3, 1) := by decide +kernel
theorem dX5_above_75 : decode cX5_above 75 = .ok (.lmul, 1) := by decide +kernel
theorem dX5_above_76 : decode cX5_above 76 = .ok (.lload_n 3, 1) := by decide +kernel
theorem dX5_above_77 : decode cX5_above 77 = .ok (.lmul, 1) := by decide +kernel
theorem dX5_above_78 : decode cX5_above 78 = .ok (.ldc2_w 90, 3) := by decide +kernel
theorem dX5_above_81 : decode cX5_above 81 = .ok (.lload_n 1, 1) := by decide +kernel
theorem dX5_above_82 : decode cX5_above 82 = .ok (.lmul, 1) := by decide +kernel
theorem dX5_above_83 : decode cX5_above 83 = .ok (.lload_n 3, 1) := by decide +kernel
theorem dX5_above_84 : decode cX5_above 84 = .ok (.lmul, 1) := by decide +kernel
theorem dX5_above_85 : decode cX5_above 85 = .ok (.lsub, 1) := by decide +kernel
theorem dX5_above_86 : decode cX5_above 86 = .ok (.ldc2_w 92, 3) := by decide +kernel
theorem dX5_above_89 : decode cX5_above 89 = .ok (.lload_n 1, 1) := by decide +kernel
theorem dX5_above_90 : decode cX5_above 90 = .ok (.lmul, 1) := by decide +kernel
theorem dX5_above_91 : decode cX5_above 91 = .ok (.lload_n 1, 1) := by decide +kernel
theorem dX5_above_92 : decode cX5_above 92 = .ok (.lmul, 1) := by decide +kernel
theorem dX5_above_93 : decode cX5_above 93 = .ok (.ladd, 1) := by decide +kernel
theorem dX5_above_94 : decode cX5_above 94 = .ok (.lmul, 1) := by decide +kernel
theorem dX5_above_95 : decode cX5_above 95 = .ok (.lreturn, 1) := by decide +kernel
theorem dX5_above_96 : decode cX5_above 96 = .ok (.lload_n 1, 1) := by decide +kernel
theorem dX5_above_97 : decode cX5_above 97 = .ok (.iconst 4, 1) := by decide +kernel
theorem dX5_above_98 : decode cX5_above 98 = .ok (.invokestatic 86, 3) := by decide +kernel
theorem dX5_above_101 : decode cX5_above 101 = .ok (.ldc2_w 94, 3) := by decide +kernel
theorem dX5_above_104 : decode cX5_above 104 = .ok (.lload_n 3, 1) := by decide +kernel
theorem dX5_above_105 : decode cX5_above 105 = .ok (.iconst 3, 1) := by decide +kernel
theorem dX5_above_106 : decode cX5_above 106 = .ok (.invokestatic 86, 3) := by decide +kernel
theorem dX5_above_109 : decode cX5_above 109 = .ok (.lmul, 1) := by decide +kernel
theorem dX5_above_110 : decode cX5_above 110 = .ok (.ldc2_w 96, 3) := by decide +kernel
theorem dX5_above_113 : decode cX5_above 113 = .ok (.lload_n 1, 1) := by decide +kernel
theorem dX5_above_114 : decode cX5_above 114 = .ok (.lmul, 1) := by decide +kernel
theorem dX5_above_115 : decode cX5_above 115 = .ok (.lload_n 3, 1) := by decide +kernel
theorem dX5_above_116 : decode cX5_above 116 = .ok (.lmul, 1) := by decide +kernel
theorem dX5_above_117 : decode cX5_above 117 = .ok (.lload_n 3, 1) := by decide +kernel
theorem dX5_above_118 : decode cX5_above 118 = .ok (.lmul, 1) := by decide +kernel
theorem dX5_above_119 : decode cX5_above 119 = .ok (.lsub, 1) := by decide +kernel
theorem dX5_above_120 : decode cX5_above 120 = .ok (.ldc2_w 98, 3) := by decide +kernel
theorem dX5_above_123 : decode cX5_above 123 = .ok (.lload_n 1, 1) := by decide +kernel
theorem dX5_above_124 : decode cX5_above 124 = .ok (.lmul, 1) := by decide +kernel
theorem dX5_above_125 : decode cX5_above 125 = .ok (.lload_n 1, 1) := by decide +kernel
theorem dX5_above_126 : decode cX5_above 126 = .ok (.lmul, 1) := by decide +kernel
theorem dX5_above_127 : decode cX5_above 127 = .ok (.lload_n 3, 1) := by decide +kernel
theorem dX5_above_128 : decode cX5_above 128 = .ok (.lmul, 1) := by decide +kernel
theorem dX5_above_129 : decode cX5_above 129 = .ok (.ladd, 1) := by decide +kernel
theorem dX5_above_130 : decode cX5_above 130 = .ok (.ldc2_w 100, 3) := by decide +kernel
theorem dX5_above_133 : decode cX5_above 133 = .ok (.lload_n 1, 1) := by decide +kernel
theorem dX5_above_134 : decode cX5_above 134 = .ok (.iconst 3, 1) := by decide +kernel
theorem dX5_above_135 : decode cX5_above 135 = .ok (.invokestatic 86, 3) := by decide +kernel
theorem dX5_above_138 : decode cX5_above 138 = .ok (.lmul, 1) := by decide +kernel
theorem dX5_above_139 : decode cX5_above 139 = .ok (.lsub, 1) := by decide +kernel
theorem dX5_above_140 : decode cX5_above 140 = .ok (.lmul, 1) := by decide +kernel
theorem dX5_above_141 : decode cX5_above 141 = .ok (.lreturn, 1) := by decide +kernel
theorem dX5_below_0 : decode cX5_below 0 = .ok (.lload_n 1, 1) := by decide +kernel
theorem dX5_below_1 : decode cX5_below 1 = .ok (.iload_n 0, 1) := by decide +kernel
theorem dX5_below_2 : decode cX5_below 2 = .ok (.ifCond .ne 7, 3) := by decide +kernel
theorem dX5_below_5 : decode cX5_below 5 = .ok (.iconst 1, 1) := by decide +kernel
theorem dX5_below_6 : decode cX5_below 6 = .ok (.goto 23, 3) := by decide +kernel
theorem dX5_below_9 : decode cX5_below 9 = .ok (.iload_n 0, 1) := by decide +kernel
theorem dX5_below_10 : decode cX5_below 10 = .ok (.iconst 1, 1) := by decide +kernel
theorem dX5_below_11 : decode cX5_below 11 = .ok (.if_icmp .ne 7, 3) := by decide +kernel
theorem dX5_below_14 : decode cX5_below 14 = .ok (.iconst 2, 1) := by decide +kernel
theorem dX5_below_15 : decode cX5_below 15 = .ok (.goto 14, 3) := by decide +kernel
theorem dX5_below_18 : decode cX5_below 18 = .ok (.iload_n 0, 1) := by decide +kernel
theorem dX5_below_19 : decode cX5_below 19 = .ok (.iconst 2, 1) := by decide +kernel
theorem dX5_below_20 : decode cX5_below 20 = .ok (.if_icmp .ne 7, 3) := by decide +kernel
theorem dX5_below_23 : decode cX5_below 23 = .ok (.iconst 5, 1) := by decide +kernel
theorem dX5_below_24 : decode cX5_below 24 = .ok (.goto 5, 3) := by decide +kernel
theorem dX5_below_27 : decode cX5_below 27 = .ok (.bipush 7, 2) := by decide +kernel
theorem dX5_below_29 : decode cX5_below 29 = .ok (.invokestatic 86, 3) := by decide +kernel
theorem dX5_below_32 : decode cX5_below 32 = .ok (.lreturn, 1) := by decide +kernel
theorem dX5_cut_0 : decode cX5_cut 0 = .ok (.lload_n 0, 1) := by decide +kernel
theorem dX5_cut_1 : decode cX5_cut 1 = .ok (.lload_n 2, 1) := by decide +kernel
theorem dX5_cut_2 : decode cX5_cut 2 = .ok (.ldiv, 1) := by decide +kernel
theorem dX5_cut_3 : decode cX5_cut 3 = .ok (.lstore 4, 2) := by decide +kernel
theorem dX5_cut_5 : decode cX5_cut 5 = .ok (.lload_n 0, 1) := by decide +kernel
theorem dX5_cut_6 : decode cX5_cut 6 = .ok (.lload_n 2, 1) := by decide +kernel
theorem dX5_cut_7 : decode cX5_cut 7 = .ok (.lrem, 1) := by decide +kernel
theorem dX5_cut_8 : decode cX5_cut 8 = .ok (.lconst 0, 1) := by decide +kernel
theorem dX5_cut_9 : decode cX5_cut 9 = .ok (.lcmp, 1) := by decide +kernel
theorem dX5_cut_10 : decode cX5_cut 10 = .ok (.ifCond .ge 10, 3) := by decide +kernel
theorem dX5_cut_13 : decode cX5_cut 13 = .ok (.lload 4, 2) := by decide +kernel
theorem dX5_cut_15 : decode cX5_cut 15 = .ok (.lconst 1, 1) := by decide +kernel
theorem dX5_cut_16 : decode cX5_cut 16 = .ok (.lsub, 1) := by decide +kernel
theorem dX5_cut_17 : decode cX5_cut 17 = .ok (.goto 5, 3) := by decide +kernel
theorem dX5_cut_20 : decode cX5_cut 20 = .ok (.lload 4, 2) := by decide +kernel
theorem dX5_cut_22 : decode cX5_cut 22 = .ok (.lreturn, 1) := by decide +kernel
theorem dX5_lays_0 : decode cX5_lays 0 = .ok (.iconst 0, 1) := by decide +kernel
theorem dX5_lays_1 : decode cX5_lays 1 = .ok (.istore_n 1, 1) := by decide +kernel
theorem dX5_lays_2 : decode cX5_lays 2 = .ok (.iconst 0, 1) := by decide +kernel
theorem dX5_lays_3 : decode cX5_lays 3 = .ok (.istore_n 2, 1) := by decide +kernel
theorem dX5_lays_4 : decode cX5_lays 4 = .ok (.iload_n 2, 1) := by decide +kernel
theorem dX5_lays_5 : decode cX5_lays 5 = .ok (.aload_n 0, 1) := by decide +kernel
theorem dX5_lays_6 : decode cX5_lays 6 = .ok (.getfield 16, 3) := by decide +kernel
theorem dX5_lays_9 : decode cX5_lays 9 = .ok (.bipush 60, 2) := by decide +kernel
theorem dX5_lays_11 : decode cX5_lays 11 = .ok (.iaload, 1) := by decide +kernel
theorem dX5_lays_12 : decode cX5_lays 12 = .ok (.if_icmp .ge 121, 3) := by decide +kernel
theorem dX5_lays_15 : decode cX5_lays 15 = .ok (.aload_n 0, 1) := by decide +kernel
theorem dX5_lays_16 : decode cX5_lays 16 = .ok (.iload_n 2, 1) := by decide +kernel
theorem dX5_lays_17 : decode cX5_lays 17 = .ok (.invokevirtual 74, 3) := by decide +kernel
theorem dX5_lays_20 : decode cX5_lays 20 = .ok (.istore_n 3, 1) := by decide +kernel
theorem dX5_lays_21 : decode cX5_lays 21 = .ok (.aload_n 0, 1) := by decide +kernel
theorem dX5_lays_22 : decode cX5_lays 22 = .ok (.getfield 16, 3) := by decide +kernel
theorem dX5_lays_25 : decode cX5_lays 25 = .ok (.bipush 12, 2) := by decide +kernel
theorem dX5_lays_27 : decode cX5_lays 27 = .ok (.iload_n 2, 1) := by decide +kernel
theorem dX5_lays_28 : decode cX5_lays 28 = .ok (.iadd, 1) := by decide +kernel
theorem dX5_lays_29 : decode cX5_lays 29 = .ok (.iaload, 1) := by decide +kernel
theorem dX5_lays_30 : decode cX5_lays 30 = .ok (.iload_n 3, 1) := by decide +kernel
theorem dX5_lays_31 : decode cX5_lays 31 = .ok (.isub, 1) := by decide +kernel
theorem dX5_lays_32 : decode cX5_lays 32 = .ok (.i2l, 1) := by decide +kernel
theorem dX5_lays_33 : decode cX5_lays 33 = .ok (.lstore 4, 2) := by decide +kernel
theorem dX5_lays_35 : decode cX5_lays 35 = .ok (.aload_n 0, 1) := by decide +kernel
theorem dX5_lays_36 : decode cX5_lays 36 = .ok (.getfield 16, 3) := by decide +kernel
theorem dX5_lays_39 : decode cX5_lays 39 = .ok (.iconst 0, 1) := by decide +kernel
theorem dX5_lays_40 : decode cX5_lays 40 = .ok (.iload_n 2, 1) := by decide +kernel
theorem dX5_lays_41 : decode cX5_lays 41 = .ok (.iadd, 1) := by decide +kernel
theorem dX5_lays_42 : decode cX5_lays 42 = .ok (.iaload, 1) := by decide +kernel
theorem dX5_lays_43 : decode cX5_lays 43 = .ok (.istore 6, 2) := by decide +kernel
theorem dX5_lays_45 : decode cX5_lays 45 = .ok (.iconst 0, 1) := by decide +kernel
theorem dX5_lays_46 : decode cX5_lays 46 = .ok (.istore 7, 2) := by decide +kernel
theorem dX5_lays_48 : decode cX5_lays 48 = .ok (.iload 7, 2) := by decide +kernel
theorem dX5_lays_50 : decode cX5_lays 50 = .ok (.iload 6, 2) := by decide +kernel
theorem dX5_lays_52 : decode cX5_lays 52 = .ok (.if_icmp .ge 75, 3) := by decide +kernel
theorem dX5_lays_55 : decode cX5_lays 55 = .ok (.aload_n 0, 1) := by decide +kernel
theorem dX5_lays_56 : decode cX5_lays 56 = .ok (.getfield 16, 3) := by decide +kernel
theorem dX5_lays_59 : decode cX5_lays 59 = .ok (.bipush 24, 2) := by decide +kernel
theorem dX5_lays_61 : decode cX5_lays 61 = .ok (.iload_n 2, 1) := by decide +kernel
theorem dX5_lays_62 : decode cX5_lays 62 = .ok (.iadd, 1) := by decide +kernel
theorem dX5_lays_63 : decode cX5_lays 63 = .ok (.iaload, 1) := by decide +kernel
theorem dX5_lays_64 : decode cX5_lays 64 = .ok (.iload 6, 2) := by decide +kernel
theorem dX5_lays_66 : decode cX5_lays 66 = .ok (.i2l, 1) := by decide +kernel
theorem dX5_lays_67 : decode cX5_lays 67 = .ok (.invokestatic 102, 3) := by decide +kernel
theorem dX5_lays_70 : decode cX5_lays 70 = .ok (.lstore 8, 2) := by decide +kernel
theorem dX5_lays_72 : decode cX5_lays 72 = .ok (.aload_n 0, 1) := by decide +kernel
theorem dX5_lays_73 : decode cX5_lays 73 = .ok (.getfield 23, 3) := by decide +kernel
theorem dX5_lays_76 : decode cX5_lays 76 = .ok (.iload_n 1, 1) := by decide +kernel
theorem dX5_lays_77 : decode cX5_lays 77 = .ok (.iload_n 3, 1) := by decide +kernel
theorem dX5_lays_78 : decode cX5_lays 78 = .ok (.ldc2_w 84, 3) := by decide +kernel
theorem dX5_lays_81 : decode cX5_lays 81 = .ok (.lload 4, 2) := by decide +kernel
theorem dX5_lays_83 : decode cX5_lays 83 = .ok (.lmul, 1) := by decide +kernel
theorem dX5_lays_84 : decode cX5_lays 84 = .ok (.aload_n 0, 1) := by decide +kernel
theorem dX5_lays_85 : decode cX5_lays 85 = .ok (.getfield 16, 3) := by decide +kernel
theorem dX5_lays_88 : decode cX5_lays 88 = .ok (.bipush 24, 2) := by decide +kernel
theorem dX5_lays_90 : decode cX5_lays 90 = .ok (.iload_n 2, 1) := by decide +kernel
theorem dX5_lays_91 : decode cX5_lays 91 = .ok (.iadd, 1) := by decide +kernel
theorem dX5_lays_92 : decode cX5_lays 92 = .ok (.iaload, 1) := by decide +kernel
theorem dX5_lays_93 : decode cX5_lays 93 = .ok (.iload 7, 2) := by decide +kernel
theorem dX5_lays_95 : decode cX5_lays 95 = .ok (.i2l, 1) := by decide +kernel
theorem dX5_lays_96 : decode cX5_lays 96 = .ok (.iload 6, 2) := by decide +kernel
theorem dX5_lays_98 : decode cX5_lays 98 = .ok (.i2l, 1) := by decide +kernel
theorem dX5_lays_99 : decode cX5_lays 99 = .ok (.invokestatic 106, 3) := by decide +kernel
theorem dX5_lays_102 : decode cX5_lays 102 = .ok (.lmul, 1) := by decide +kernel
theorem dX5_lays_103 : decode cX5_lays 103 = .ok (.lload 8, 2) := by decide +kernel
theorem dX5_lays_105 : decode cX5_lays 105 = .ok (.ladd, 1) := by decide +kernel
theorem dX5_lays_106 : decode cX5_lays 106 = .ok (.ldc2_w 84, 3) := by decide +kernel
theorem dX5_lays_109 : decode cX5_lays 109 = .ok (.lload 8, 2) := by decide +kernel
theorem dX5_lays_111 : decode cX5_lays 111 = .ok (.lmul, 1) := by decide +kernel
theorem dX5_lays_112 : decode cX5_lays 112 = .ok (.invokestatic 110, 3) := by decide +kernel
theorem dX5_lays_115 : decode cX5_lays 115 = .ok (.l2i, 1) := by decide +kernel
theorem dX5_lays_116 : decode cX5_lays 116 = .ok (.iadd, 1) := by decide +kernel
theorem dX5_lays_117 : decode cX5_lays 117 = .ok (.iastore, 1) := by decide +kernel
theorem dX5_lays_118 : decode cX5_lays 118 = .ok (.iinc 1 1, 3) := by decide +kernel
theorem dX5_lays_121 : decode cX5_lays 121 = .ok (.iinc 7 1, 3) := by decide +kernel
theorem dX5_lays_124 : decode cX5_lays 124 = .ok (.goto (-76), 3) := by decide +kernel
theorem dX5_lays_127 : decode cX5_lays 127 = .ok (.iinc 2 1, 3) := by decide +kernel
theorem dX5_lays_130 : decode cX5_lays 130 = .ok (.goto (-126), 3) := by decide +kernel
theorem dX5_lays_133 : decode cX5_lays 133 = .ok (.return_, 1) := by decide +kernel
theorem dX5_isLaid_0 : decode cX5_isLaid 0 = .ok (.aload_n 0, 1) := by decide +kernel
theorem dX5_isLaid_1 : decode cX5_isLaid 1 = .ok (.invokevirtual 114, 3) := by decide +kernel
theorem dX5_isLaid_4 : decode cX5_isLaid 4 = .ok (.istore_n 1, 1) := by decide +kernel
theorem dX5_isLaid_5 : decode cX5_isLaid 5 = .ok (.iload_n 1, 1) := by decide +kernel
theorem dX5_isLaid_6 : decode cX5_isLaid 6 = .ok (.ifCond .eq 7, 3) := by decide +kernel
theorem dX5_isLaid_9 : decode cX5_isLaid 9 = .ok (.aload_n 0, 1) := by decide +kernel
theorem dX5_isLaid_10 : decode cX5_isLaid 10 = .ok (.invokevirtual 118, 3) := by decide +kernel
theorem dX5_isLaid_13 : decode cX5_isLaid 13 = .ok (.iload_n 1, 1) := by decide +kernel
theorem dX5_isLaid_14 : decode cX5_isLaid 14 = .ok (.ireturn, 1) := by decide +kernel
theorem dX5_liftAt_0 : decode cX5_liftAt 0 = .ok (.aload_n 0, 1) := by decide +kernel
theorem dX5_liftAt_1 : decode cX5_liftAt 1 = .ok (.getfield 23, 3) := by decide +kernel
theorem dX5_liftAt_4 : decode cX5_liftAt 4 = .ok (.iload_n 1, 1) := by decide +kernel
theorem dX5_liftAt_5 : decode cX5_liftAt 5 = .ok (.aload_n 0, 1) := by decide +kernel
theorem dX5_liftAt_6 : decode cX5_liftAt 6 = .ok (.getfield 13, 3) := by decide +kernel
theorem dX5_liftAt_9 : decode cX5_liftAt 9 = .ok (.iadd, 1) := by decide +kernel
theorem dX5_liftAt_10 : decode cX5_liftAt 10 = .ok (.aload_n 0, 1) := by decide +kernel
theorem dX5_liftAt_11 : decode cX5_liftAt 11 = .ok (.getfield 13, 3) := by decide +kernel
theorem dX5_liftAt_14 : decode cX5_liftAt 14 = .ok (.irem, 1) := by decide +kernel
theorem dX5_liftAt_15 : decode cX5_liftAt 15 = .ok (.iaload, 1) := by decide +kernel
theorem dX5_liftAt_16 : decode cX5_liftAt 16 = .ok (.ireturn, 1) := by decide +kernel
theorem dX5_diffAt_0 : decode cX5_diffAt 0 = .ok (.iload_n 2, 1) := by decide +kernel
theorem dX5_diffAt_1 : decode cX5_diffAt 1 = .ok (.lookupswitch 62 #[(1, 27), (2, 41)], 27) := by decide +kernel
theorem dX5_diffAt_28 : decode cX5_diffAt 28 = .ok (.aload_n 0, 1) := by decide +kernel
theorem dX5_diffAt_29 : decode cX5_diffAt 29 = .ok (.iload_n 1, 1) := by decide +kernel
theorem dX5_diffAt_30 : decode cX5_diffAt 30 = .ok (.iconst 1, 1) := by decide +kernel
theorem dX5_diffAt_31 : decode cX5_diffAt 31 = .ok (.iadd, 1) := by decide +kernel
theorem dX5_diffAt_32 : decode cX5_diffAt 32 = .ok (.invokevirtual 121, 3) := by decide +kernel
theorem dX5_diffAt_35 : decode cX5_diffAt 35 = .ok (.aload_n 0, 1) := by decide +kernel
theorem dX5_diffAt_36 : decode cX5_diffAt 36 = .ok (.iload_n 1, 1) := by decide +kernel
theorem dX5_diffAt_37 : decode cX5_diffAt 37 = .ok (.invokevirtual 121, 3) := by decide +kernel
theorem dX5_diffAt_40 : decode cX5_diffAt 40 = .ok (.isub, 1) := by decide +kernel
theorem dX5_diffAt_41 : decode cX5_diffAt 41 = .ok (.ireturn, 1) := by decide +kernel
theorem dX5_diffAt_42 : decode cX5_diffAt 42 = .ok (.aload_n 0, 1) := by decide +kernel
theorem dX5_diffAt_43 : decode cX5_diffAt 43 = .ok (.iload_n 1, 1) := by decide +kernel
theorem dX5_diffAt_44 : decode cX5_diffAt 44 = .ok (.iconst 1, 1) := by decide +kernel
theorem dX5_diffAt_45 : decode cX5_diffAt 45 = .ok (.invokevirtual 124, 3) := by decide +kernel
theorem dX5_diffAt_48 : decode cX5_diffAt 48 = .ok (.aload_n 0, 1) := by decide +kernel
theorem dX5_diffAt_49 : decode cX5_diffAt 49 = .ok (.iload_n 1, 1) := by decide +kernel
theorem dX5_diffAt_50 : decode cX5_diffAt 50 = .ok (.aload_n 0, 1) := by decide +kernel
theorem dX5_diffAt_51 : decode cX5_diffAt 51 = .ok (.getfield 13, 3) := by decide +kernel
theorem dX5_diffAt_54 : decode cX5_diffAt 54 = .ok (.iadd, 1) := by decide +kernel
theorem dX5_diffAt_55 : decode cX5_diffAt 55 = .ok (.iconst 1, 1) := by decide +kernel
theorem dX5_diffAt_56 : decode cX5_diffAt 56 = .ok (.isub, 1) := by decide +kernel
theorem dX5_diffAt_57 : decode cX5_diffAt 57 = .ok (.iconst 1, 1) := by decide +kernel
theorem dX5_diffAt_58 : decode cX5_diffAt 58 = .ok (.invokevirtual 124, 3) := by decide +kernel
theorem dX5_diffAt_61 : decode cX5_diffAt 61 = .ok (.isub, 1) := by decide +kernel
theorem dX5_diffAt_62 : decode cX5_diffAt 62 = .ok (.ireturn, 1) := by decide +kernel
theorem dX5_diffAt_63 : decode cX5_diffAt 63 = .ok (.aload_n 0, 1) := by decide +kernel
theorem dX5_diffAt_64 : decode cX5_diffAt 64 = .ok (.iload_n 1, 1) := by decide +kernel
theorem dX5_diffAt_65 : decode cX5_diffAt 65 = .ok (.iconst 1, 1) := by decide +kernel
theorem dX5_diffAt_66 : decode cX5_diffAt 66 = .ok (.iadd, 1) := by decide +kernel
theorem dX5_diffAt_67 : decode cX5_diffAt 67 = .ok (.iconst 2, 1) := by decide +kernel
theorem dX5_diffAt_68 : decode cX5_diffAt 68 = .ok (.invokevirtual 124, 3) := by decide +kernel
theorem dX5_diffAt_71 : decode cX5_diffAt 71 = .ok (.aload_n 0, 1) := by decide +kernel
theorem dX5_diffAt_72 : decode cX5_diffAt 72 = .ok (.iload_n 1, 1) := by decide +kernel
theorem dX5_diffAt_73 : decode cX5_diffAt 73 = .ok (.iconst 2, 1) := by decide +kernel
theorem dX5_diffAt_74 : decode cX5_diffAt 74 = .ok (.invokevirtual 124, 3) := by decide +kernel
theorem dX5_diffAt_77 : decode cX5_diffAt 77 = .ok (.isub, 1) := by decide +kernel
theorem dX5_diffAt_78 : decode cX5_diffAt 78 = .ok (.ireturn, 1) := by decide +kernel
theorem dX5_size_0 : decode cX5_size 0 = .ok (.iload_n 0, 1) := by decide +kernel
theorem dX5_size_1 : decode cX5_size 1 = .ok (.ifCond .ge 8, 3) := by decide +kernel
theorem dX5_size_4 : decode cX5_size 4 = .ok (.iload_n 0, 1) := by decide +kernel
theorem dX5_size_5 : decode cX5_size 5 = .ok (.ineg, 1) := by decide +kernel
theorem dX5_size_6 : decode cX5_size 6 = .ok (.goto 4, 3) := by decide +kernel
theorem dX5_size_9 : decode cX5_size 9 = .ok (.iload_n 0, 1) := by decide +kernel
theorem dX5_size_10 : decode cX5_size 10 = .ok (.ireturn, 1) := by decide +kernel
theorem dX5_lift_0 : decode cX5_lift 0 = .ok (.aload_n 0, 1) := by decide +kernel
theorem dX5_lift_1 : decode cX5_lift 1 = .ok (.iconst 0, 1) := by decide +kernel
theorem dX5_lift_2 : decode cX5_lift 2 = .ok (.putfield 1, 3) := by decide +kernel
theorem dX5_lift_5 : decode cX5_lift 5 = .ok (.aload_n 0, 1) := by decide +kernel
theorem dX5_lift_6 : decode cX5_lift 6 = .ok (.iload_n 1, 1) := by decide +kernel
theorem dX5_lift_7 : decode cX5_lift 7 = .ok (.invokevirtual 68, 3) := by decide +kernel
theorem dX5_lift_10 : decode cX5_lift 10 = .ok (.ifCond .eq 19, 3) := by decide +kernel
theorem dX5_lift_13 : decode cX5_lift 13 = .ok (.aload_n 0, 1) := by decide +kernel
theorem dX5_lift_14 : decode cX5_lift 14 = .ok (.invokevirtual 128, 3) := by decide +kernel
theorem dX5_lift_17 : decode cX5_lift 17 = .ok (.ifCond .eq 12, 3) := by decide +kernel
theorem dX5_lift_20 : decode cX5_lift 20 = .ok (.aload_n 0, 1) := by decide +kernel
theorem dX5_lift_21 : decode cX5_lift 21 = .ok (.getfield 23, 3) := by decide +kernel
theorem dX5_lift_24 : decode cX5_lift 24 = .ok (.iload_n 1, 1) := by decide +kernel
theorem dX5_lift_25 : decode cX5_lift 25 = .ok (.iaload, 1) := by decide +kernel
theorem dX5_lift_26 : decode cX5_lift 26 = .ok (.goto 4, 3) := by decide +kernel
theorem dX5_lift_29 : decode cX5_lift 29 = .ok (.iconst (-1), 1) := by decide +kernel
theorem dX5_lift_30 : decode cX5_lift 30 = .ok (.ireturn, 1) := by decide +kernel
theorem dX5_diff_0 : decode cX5_diff 0 = .ok (.aload_n 0, 1) := by decide +kernel
theorem dX5_diff_1 : decode cX5_diff 1 = .ok (.aload_n 0, 1) := by decide +kernel
theorem dX5_diff_2 : decode cX5_diff 2 = .ok (.iload_n 1, 1) := by decide +kernel
theorem dX5_diff_3 : decode cX5_diff 3 = .ok (.invokevirtual 68, 3) := by decide +kernel
theorem dX5_diff_6 : decode cX5_diff 6 = .ok (.ifCond .eq 26, 3) := by decide +kernel
theorem dX5_diff_9 : decode cX5_diff 9 = .ok (.iload_n 2, 1) := by decide +kernel
theorem dX5_diff_10 : decode cX5_diff 10 = .ok (.i2l, 1) := by decide +kernel
theorem dX5_diff_11 : decode cX5_diff 11 = .ok (.lconst 1, 1) := by decide +kernel
theorem dX5_diff_12 : decode cX5_diff 12 = .ok (.ldc2_w 47, 3) := by decide +kernel
theorem dX5_diff_15 : decode cX5_diff 15 = .ok (.invokestatic 39, 3) := by decide +kernel
theorem dX5_diff_18 : decode cX5_diff 18 = .ok (.ifCond .eq 14, 3) := by decide +kernel
theorem dX5_diff_21 : decode cX5_diff 21 = .ok (.aload_n 0, 1) := by decide +kernel
theorem dX5_diff_22 : decode cX5_diff 22 = .ok (.invokevirtual 128, 3) := by decide +kernel
theorem dX5_diff_25 : decode cX5_diff 25 = .ok (.ifCond .eq 7, 3) := by decide +kernel
theorem dX5_diff_28 : decode cX5_diff 28 = .ok (.iconst 0, 1) := by decide +kernel
theorem dX5_diff_29 : decode cX5_diff 29 = .ok (.goto 4, 3) := by decide +kernel
theorem dX5_diff_32 : decode cX5_diff 32 = .ok (.iconst 1, 1) := by decide +kernel
theorem dX5_diff_33 : decode cX5_diff 33 = .ok (.putfield 1, 3) := by decide +kernel
theorem dX5_diff_36 : decode cX5_diff 36 = .ok (.aload_n 0, 1) := by decide +kernel
theorem dX5_diff_37 : decode cX5_diff 37 = .ok (.getfield 1, 3) := by decide +kernel
theorem dX5_diff_40 : decode cX5_diff 40 = .ok (.ifCond .le 7, 3) := by decide +kernel
theorem dX5_diff_43 : decode cX5_diff 43 = .ok (.iconst 0, 1) := by decide +kernel
theorem dX5_diff_44 : decode cX5_diff 44 = .ok (.goto 9, 3) := by decide +kernel
theorem dX5_diff_47 : decode cX5_diff 47 = .ok (.aload_n 0, 1) := by decide +kernel
theorem dX5_diff_48 : decode cX5_diff 48 = .ok (.iload_n 1, 1) := by decide +kernel
theorem dX5_diff_49 : decode cX5_diff 49 = .ok (.iload_n 2, 1) := by decide +kernel
theorem dX5_diff_50 : decode cX5_diff 50 = .ok (.invokevirtual 124, 3) := by decide +kernel
theorem dX5_diff_53 : decode cX5_diff 53 = .ok (.ireturn, 1) := by decide +kernel
theorem dX5_greatest_0 : decode cX5_greatest 0 = .ok (.iconst 0, 1) := by decide +kernel
theorem dX5_greatest_1 : decode cX5_greatest 1 = .ok (.istore_n 2, 1) := by decide +kernel
theorem dX5_greatest_2 : decode cX5_greatest 2 = .ok (.iconst 0, 1) := by decide +kernel
theorem dX5_greatest_3 : decode cX5_greatest 3 = .ok (.istore_n 3, 1) := by decide +kernel
theorem dX5_greatest_4 : decode cX5_greatest 4 = .ok (.iload_n 3, 1) := by decide +kernel
theorem dX5_greatest_5 : decode cX5_greatest 5 = .ok (.aload_n 0, 1) := by decide +kernel
theorem dX5_greatest_6 : decode cX5_greatest 6 = .ok (.getfield 13, 3) := by decide +kernel
theorem dX5_greatest_9 : decode cX5_greatest 9 = .ok (.if_icmp .ge 33, 3) := by decide +kernel
theorem dX5_greatest_12 : decode cX5_greatest 12 = .ok (.aload_n 0, 1) := by decide +kernel
theorem dX5_greatest_13 : decode cX5_greatest 13 = .ok (.iload_n 3, 1) := by decide +kernel
theorem dX5_greatest_14 : decode cX5_greatest 14 = .ok (.iload_n 1, 1) := by decide +kernel
theorem dX5_greatest_15 : decode cX5_greatest 15 = .ok (.invokevirtual 124, 3) := by decide +kernel
theorem dX5_greatest_18 : decode cX5_greatest 18 = .ok (.invokestatic 131, 3) := by decide +kernel
theorem dX5_greatest_21 : decode cX5_greatest 21 = .ok (.istore 4, 2) := by decide +kernel
theorem dX5_greatest_23 : decode cX5_greatest 23 = .ok (.iload 4, 2) := by decide +kernel
theorem dX5_greatest_25 : decode cX5_greatest 25 = .ok (.iload_n 2, 1) := by decide +kernel
theorem dX5_greatest_26 : decode cX5_greatest 26 = .ok (.if_icmp .le 8, 3) := by decide +kernel
theorem dX5_greatest_29 : decode cX5_greatest 29 = .ok (.iload 4, 2) := by decide +kernel
theorem dX5_greatest_31 : decode cX5_greatest 31 = .ok (.goto 4, 3) := by decide +kernel
theorem dX5_greatest_34 : decode cX5_greatest 34 = .ok (.iload_n 2, 1) := by decide +kernel
theorem dX5_greatest_35 : decode cX5_greatest 35 = .ok (.istore_n 2, 1) := by decide +kernel
theorem dX5_greatest_36 : decode cX5_greatest 36 = .ok (.iinc 3 1, 3) := by decide +kernel
theorem dX5_greatest_39 : decode cX5_greatest 39 = .ok (.goto (-35), 3) := by decide +kernel
theorem dX5_greatest_42 : decode cX5_greatest 42 = .ok (.iload_n 2, 1) := by decide +kernel
theorem dX5_greatest_43 : decode cX5_greatest 43 = .ok (.ireturn, 1) := by decide +kernel
theorem dX5_most_0 : decode cX5_most 0 = .ok (.aload_n 0, 1) := by decide +kernel
theorem dX5_most_1 : decode cX5_most 1 = .ok (.iconst 0, 1) := by decide +kernel
theorem dX5_most_2 : decode cX5_most 2 = .ok (.putfield 1, 3) := by decide +kernel
theorem dX5_most_5 : decode cX5_most 5 = .ok (.iload_n 1, 1) := by decide +kernel
theorem dX5_most_6 : decode cX5_most 6 = .ok (.i2l, 1) := by decide +kernel
theorem dX5_most_7 : decode cX5_most 7 = .ok (.lconst 1, 1) := by decide +kernel
theorem dX5_most_8 : decode cX5_most 8 = .ok (.ldc2_w 47, 3) := by decide +kernel
theorem dX5_most_11 : decode cX5_most 11 = .ok (.invokestatic 39, 3) := by decide +kernel
theorem dX5_most_14 : decode cX5_most 14 = .ok (.ifCond .eq 22, 3) := by decide +kernel
theorem dX5_most_17 : decode cX5_most 17 = .ok (.iload_n 2, 1) := by decide +kernel
theorem dX5_most_18 : decode cX5_most 18 = .ok (.i2l, 1) := by decide +kernel
theorem dX5_most_19 : decode cX5_most 19 = .ok (.lconst 0, 1) := by decide +kernel
theorem dX5_most_20 : decode cX5_most 20 = .ok (.ldc2_w 84, 3) := by decide +kernel
theorem dX5_most_23 : decode cX5_most 23 = .ok (.invokestatic 39, 3) := by decide +kernel
theorem dX5_most_26 : decode cX5_most 26 = .ok (.ifCond .eq 10, 3) := by decide +kernel
theorem dX5_most_29 : decode cX5_most 29 = .ok (.aload_n 0, 1) := by decide +kernel
theorem dX5_most_30 : decode cX5_most 30 = .ok (.invokevirtual 128, 3) := by decide +kernel
theorem dX5_most_33 : decode cX5_most 33 = .ok (.ifCond .ne 5, 3) := by decide +kernel
theorem dX5_most_36 : decode cX5_most 36 = .ok (.iconst (-1), 1) := by decide +kernel
theorem dX5_most_37 : decode cX5_most 37 = .ok (.ireturn, 1) := by decide +kernel
theorem dX5_most_38 : decode cX5_most 38 = .ok (.aload_n 0, 1) := by decide +kernel
theorem dX5_most_39 : decode cX5_most 39 = .ok (.iload_n 1, 1) := by decide +kernel
theorem dX5_most_40 : decode cX5_most 40 = .ok (.invokevirtual 134, 3) := by decide +kernel
theorem dX5_most_43 : decode cX5_most 43 = .ok (.istore_n 3, 1) := by decide +kernel
theorem dX5_most_44 : decode cX5_most 44 = .ok (.iconst (-1), 1) := by decide +kernel
theorem dX5_most_45 : decode cX5_most 45 = .ok (.istore 4, 2) := by decide +kernel
theorem dX5_most_47 : decode cX5_most 47 = .ok (.iconst 0, 1) := by decide +kernel
theorem dX5_most_48 : decode cX5_most 48 = .ok (.istore 5, 2) := by decide +kernel
theorem dX5_most_50 : decode cX5_most 50 = .ok (.iconst 0, 1) := by decide +kernel
theorem dX5_most_51 : decode cX5_most 51 = .ok (.istore 6, 2) := by decide +kernel
theorem dX5_most_53 : decode cX5_most 53 = .ok (.iload 6, 2) := by decide +kernel
theorem dX5_most_55 : decode cX5_most 55 = .ok (.aload_n 0, 1) := by decide +kernel
theorem dX5_most_56 : decode cX5_most 56 = .ok (.getfield 13, 3) := by decide +kernel
theorem dX5_most_59 : decode cX5_most 59 = .ok (.if_icmp .ge 40, 3) := by decide +kernel
theorem dX5_most_62 : decode cX5_most 62 = .ok (.aload_n 0, 1) := by decide +kernel
theorem dX5_most_63 : decode cX5_most 63 = .ok (.iload 6, 2) := by decide +kernel
theorem dX5_most_65 : decode cX5_most 65 = .ok (.iload_n 1, 1) := by decide +kernel
theorem dX5_most_66 : decode cX5_most 66 = .ok (.invokevirtual 124, 3) := by decide +kernel
theorem dX5_most_69 : decode cX5_most 69 = .ok (.invokestatic 131, 3) := by decide +kernel
theorem dX5_most_72 : decode cX5_most 72 = .ok (.iload_n 3, 1) := by decide +kernel
theorem dX5_most_73 : decode cX5_most 73 = .ok (.if_icmp .ne 20, 3) := by decide +kernel
theorem dX5_most_76 : decode cX5_most 76 = .ok (.iload 4, 2) := by decide +kernel
theorem dX5_most_78 : decode cX5_most 78 = .ok (.ifCond .ge 8, 3) := by decide +kernel
theorem dX5_most_81 : decode cX5_most 81 = .ok (.iload 6, 2) := by decide +kernel
theorem dX5_most_83 : decode cX5_most 83 = .ok (.goto 5, 3) := by decide +kernel
theorem dX5_most_86 : decode cX5_most 86 = .ok (.iload 4, 2) := by decide +kernel
theorem dX5_most_88 : decode cX5_most 88 = .ok (.istore 4, 2) := by decide +kernel
theorem dX5_most_90 : decode cX5_most 90 = .ok (.iinc 5 1, 3) := by decide +kernel
theorem dX5_most_93 : decode cX5_most 93 = .ok (.iinc 6 1, 3) := by decide +kernel
theorem dX5_most_96 : decode cX5_most 96 = .ok (.goto (-43), 3) := by decide +kernel
theorem dX5_most_99 : decode cX5_most 99 = .ok (.iload_n 2, 1) := by decide +kernel
theorem dX5_most_100 : decode cX5_most 100 = .ok (.ifCond .ne 7, 3) := by decide +kernel
theorem dX5_most_103 : decode cX5_most 103 = .ok (.iload_n 3, 1) := by decide +kernel
theorem dX5_most_104 : decode cX5_most 104 = .ok (.goto 15, 3) := by decide +kernel
theorem dX5_most_107 : decode cX5_most 107 = .ok (.iload_n 2, 1) := by decide +kernel
theorem dX5_most_108 : decode cX5_most 108 = .ok (.iconst 1, 1) := by decide +kernel
theorem dX5_most_109 : decode cX5_most 109 = .ok (.if_icmp .ne 8, 3) := by decide +kernel
theorem dX5_most_112 : decode cX5_most 112 = .ok (.iload 4, 2) := by decide +kernel
theorem dX5_most_114 : decode cX5_most 114 = .ok (.goto 5, 3) := by decide +kernel
theorem dX5_most_117 : decode cX5_most 117 = .ok (.iload 5, 2) := by decide +kernel
theorem dX5_most_119 : decode cX5_most 119 = .ok (.ireturn, 1) := by decide +kernel
theorem dX5_border_0 : decode cX5_border 0 = .ok (.aload_n 0, 1) := by decide +kernel
theorem dX5_border_1 : decode cX5_border 1 = .ok (.iconst 0, 1) := by decide +kernel
theorem dX5_border_2 : decode cX5_border 2 = .ok (.putfield 1, 3) := by decide +kernel
theorem dX5_border_5 : decode cX5_border 5 = .ok (.aload_n 0, 1) := by decide +kernel
theorem dX5_border_6 : decode cX5_border 6 = .ok (.iload_n 1, 1) := by decide +kernel
theorem dX5_border_7 : decode cX5_border 7 = .ok (.invokevirtual 52, 3) := by decide +kernel
theorem dX5_border_10 : decode cX5_border 10 = .ok (.ifCond .eq 10, 3) := by decide +kernel
theorem dX5_border_13 : decode cX5_border 13 = .ok (.aload_n 0, 1) := by decide +kernel
theorem dX5_border_14 : decode cX5_border 14 = .ok (.invokevirtual 128, 3) := by decide +kernel
theorem dX5_border_17 : decode cX5_border 17 = .ok (.ifCond .ne 5, 3) := by decide +kernel
theorem dX5_border_20 : decode cX5_border 20 = .ok (.iconst (-1), 1) := by decide +kernel
theorem dX5_border_21 : decode cX5_border 21 = .ok (.ireturn, 1) := by decide +kernel
theorem dX5_border_22 : decode cX5_border 22 = .ok (.aload_n 0, 1) := by decide +kernel
theorem dX5_border_23 : decode cX5_border 23 = .ok (.iload_n 1, 1) := by decide +kernel
theorem dX5_border_24 : decode cX5_border 24 = .ok (.invokevirtual 78, 3) := by decide +kernel
theorem dX5_border_27 : decode cX5_border 27 = .ok (.istore_n 2, 1) := by decide +kernel
theorem dX5_border_28 : decode cX5_border 28 = .ok (.iconst 0, 1) := by decide +kernel
theorem dX5_border_29 : decode cX5_border 29 = .ok (.istore_n 3, 1) := by decide +kernel
theorem dX5_border_30 : decode cX5_border 30 = .ok (.iload_n 3, 1) := by decide +kernel
theorem dX5_border_31 : decode cX5_border 31 = .ok (.iconst 3, 1) := by decide +kernel
theorem dX5_border_32 : decode cX5_border 32 = .ok (.if_icmp .ge 46, 3) := by decide +kernel
theorem dX5_border_35 : decode cX5_border 35 = .ok (.aload_n 0, 1) := by decide +kernel
theorem dX5_border_36 : decode cX5_border 36 = .ok (.iload_n 2, 1) := by decide +kernel
theorem dX5_border_37 : decode cX5_border 37 = .ok (.iload_n 3, 1) := by decide +kernel
theorem dX5_border_38 : decode cX5_border 38 = .ok (.iconst 1, 1) := by decide +kernel
theorem dX5_border_39 : decode cX5_border 39 = .ok (.iadd, 1) := by decide +kernel
theorem dX5_border_40 : decode cX5_border 40 = .ok (.invokevirtual 124, 3) := by decide +kernel
theorem dX5_border_43 : decode cX5_border 43 = .ok (.aload_n 0, 1) := by decide +kernel
theorem dX5_border_44 : decode cX5_border 44 = .ok (.iload_n 2, 1) := by decide +kernel
theorem dX5_border_45 : decode cX5_border 45 = .ok (.aload_n 0, 1) := by decide +kernel
theorem dX5_border_46 : decode cX5_border 46 = .ok (.getfield 13, 3) := by decide +kernel
theorem dX5_border_49 : decode cX5_border 49 = .ok (.iadd, 1) := by decide +kernel
theorem dX5_border_50 : decode cX5_border 50 = .ok (.iconst 1, 1) := by decide +kernel
theorem dX5_border_51 : decode cX5_border 51 = .ok (.isub, 1) := by decide +kernel
theorem dX5_border_52 : decode cX5_border 52 = .ok (.iload_n 3, 1) := by decide +kernel
theorem dX5_border_53 : decode cX5_border 53 = .ok (.iconst 1, 1) := by decide +kernel
theorem dX5_border_54 : decode cX5_border 54 = .ok (.iadd, 1) := by decide +kernel
theorem dX5_border_55 : decode cX5_border 55 = .ok (.invokevirtual 124, 3) := by decide +kernel
theorem dX5_border_58 : decode cX5_border 58 = .ok (.isub, 1) := by decide +kernel
theorem dX5_border_59 : decode cX5_border 59 = .ok (.invokestatic 131, 3) := by decide +kernel
theorem dX5_border_62 : decode cX5_border 62 = .ok (.aload_n 0, 1) := by decide +kernel
theorem dX5_border_63 : decode cX5_border 63 = .ok (.getfield 16, 3) := by decide +kernel
theorem dX5_border_66 : decode cX5_border 66 = .ok (.bipush 70, 2) := by decide +kernel
theorem dX5_border_68 : decode cX5_border 68 = .ok (.iaload, 1) := by decide +kernel
theorem dX5_border_69 : decode cX5_border 69 = .ok (.if_icmp .gt 9, 3) := by decide +kernel
theorem dX5_border_72 : decode cX5_border 72 = .ok (.iinc 3 1, 3) := by decide +kernel
theorem dX5_border_75 : decode cX5_border 75 = .ok (.goto (-45), 3) := by decide +kernel
theorem dX5_border_78 : decode cX5_border 78 = .ok (.iload_n 3, 1) := by decide +kernel
theorem dX5_border_79 : decode cX5_border 79 = .ok (.ireturn, 1) := by decide +kernel
theorem dX5_farOf_0 : decode cX5_farOf 0 = .ok (.aload_n 0, 1) := by decide +kernel
theorem dX5_farOf_1 : decode cX5_farOf 1 = .ok (.getfield 16, 3) := by decide +kernel
theorem dX5_farOf_4 : decode cX5_farOf 4 = .ok (.bipush 63, 2) := by decide +kernel
theorem dX5_farOf_6 : decode cX5_farOf 6 = .ok (.iaload, 1) := by decide +kernel
theorem dX5_farOf_7 : decode cX5_farOf 7 = .ok (.aload_n 0, 1) := by decide +kernel
theorem dX5_farOf_8 : decode cX5_farOf 8 = .ok (.getfield 16, 3) := by decide +kernel
theorem dX5_farOf_11 : decode cX5_farOf 11 = .ok (.bipush 64, 2) := by decide +kernel
theorem dX5_farOf_13 : decode cX5_farOf 13 = .ok (.iaload, 1) := by decide +kernel
theorem dX5_farOf_14 : decode cX5_farOf 14 = .ok (.iadd, 1) := by decide +kernel
theorem dX5_farOf_15 : decode cX5_farOf 15 = .ok (.aload_n 0, 1) := by decide +kernel
theorem dX5_farOf_16 : decode cX5_farOf 16 = .ok (.iload_n 1, 1) := by decide +kernel
theorem dX5_farOf_17 : decode cX5_farOf 17 = .ok (.invokevirtual 121, 3) := by decide +kernel
theorem dX5_farOf_20 : decode cX5_farOf 20 = .ok (.iadd, 1) := by decide +kernel
theorem dX5_farOf_21 : decode cX5_farOf 21 = .ok (.i2l, 1) := by decide +kernel
theorem dX5_farOf_22 : decode cX5_farOf 22 = .ok (.lreturn, 1) := by decide +kernel
theorem dX5_quick_0 : decode cX5_quick 0 = .ok (.aload_n 0, 1) := by decide +kernel
theorem dX5_quick_1 : decode cX5_quick 1 = .ok (.iload_n 1, 1) := by decide +kernel
theorem dX5_quick_2 : decode cX5_quick 2 = .ok (.iconst 1, 1) := by decide +kernel
theorem dX5_quick_3 : decode cX5_quick 3 = .ok (.iadd, 1) := by decide +kernel
theorem dX5_quick_4 : decode cX5_quick 4 = .ok (.invokevirtual 121, 3) := by decide +kernel
theorem dX5_quick_7 : decode cX5_quick 7 = .ok (.aload_n 0, 1) := by decide +kernel
theorem dX5_quick_8 : decode cX5_quick 8 = .ok (.iload_n 1, 1) := by decide +kernel
theorem dX5_quick_9 : decode cX5_quick 9 = .ok (.aload_n 0, 1) := by decide +kernel
theorem dX5_quick_10 : decode cX5_quick 10 = .ok (.getfield 13, 3) := by decide +kernel
theorem dX5_quick_13 : decode cX5_quick 13 = .ok (.iadd, 1) := by decide +kernel
theorem dX5_quick_14 : decode cX5_quick 14 = .ok (.iconst 1, 1) := by decide +kernel
theorem dX5_quick_15 : decode cX5_quick 15 = .ok (.isub, 1) := by decide +kernel
theorem dX5_quick_16 : decode cX5_quick 16 = .ok (.invokevirtual 121, 3) := by decide +kernel
theorem dX5_quick_19 : decode cX5_quick 19 = .ok (.isub, 1) := by decide +kernel
theorem dX5_quick_20 : decode cX5_quick 20 = .ok (.i2l, 1) := by decide +kernel
theorem dX5_quick_21 : decode cX5_quick 21 = .ok (.ldc2_w 137, 3) := by decide +kernel
theorem dX5_quick_24 : decode cX5_quick 24 = .ok (.lmul, 1) := by decide +kernel
theorem dX5_quick_25 : decode cX5_quick 25 = .ok (.aload_n 0, 1) := by decide +kernel
theorem dX5_quick_26 : decode cX5_quick 26 = .ok (.getfield 13, 3) := by decide +kernel
theorem dX5_quick_29 : decode cX5_quick 29 = .ok (.i2l, 1) := by decide +kernel
theorem dX5_quick_30 : decode cX5_quick 30 = .ok (.lmul, 1) := by decide +kernel
theorem dX5_quick_31 : decode cX5_quick 31 = .ok (.ldc2_w 139, 3) := by decide +kernel
theorem dX5_quick_34 : decode cX5_quick 34 = .ok (.invokestatic 110, 3) := by decide +kernel
theorem dX5_quick_37 : decode cX5_quick 37 = .ok (.lreturn, 1) := by decide +kernel
theorem dX5_bent_0 : decode cX5_bent 0 = .ok (.aload_n 0, 1) := by decide +kernel
theorem dX5_bent_1 : decode cX5_bent 1 = .ok (.iload_n 1, 1) := by decide +kernel
theorem dX5_bent_2 : decode cX5_bent 2 = .ok (.iconst 2, 1) := by decide +kernel
theorem dX5_bent_3 : decode cX5_bent 3 = .ok (.invokevirtual 124, 3) := by decide +kernel
theorem dX5_bent_6 : decode cX5_bent 6 = .ok (.i2l, 1) := by decide +kernel
theorem dX5_bent_7 : decode cX5_bent 7 = .ok (.ldc2_w 141, 3) := by decide +kernel
theorem dX5_bent_10 : decode cX5_bent 10 = .ok (.lmul, 1) := by decide +kernel
theorem dX5_bent_11 : decode cX5_bent 11 = .ok (.aload_n 0, 1) := by decide +kernel
theorem dX5_bent_12 : decode cX5_bent 12 = .ok (.getfield 13, 3) := by decide +kernel
theorem dX5_bent_15 : decode cX5_bent 15 = .ok (.i2l, 1) := by decide +kernel
theorem dX5_bent_16 : decode cX5_bent 16 = .ok (.lmul, 1) := by decide +kernel
theorem dX5_bent_17 : decode cX5_bent 17 = .ok (.aload_n 0, 1) := by decide +kernel
theorem dX5_bent_18 : decode cX5_bent 18 = .ok (.getfield 13, 3) := by decide +kernel
theorem dX5_bent_21 : decode cX5_bent 21 = .ok (.i2l, 1) := by decide +kernel
theorem dX5_bent_22 : decode cX5_bent 22 = .ok (.lmul, 1) := by decide +kernel
theorem dX5_bent_23 : decode cX5_bent 23 = .ok (.ldc2_w 143, 3) := by decide +kernel
theorem dX5_bent_26 : decode cX5_bent 26 = .ok (.invokestatic 110, 3) := by decide +kernel
theorem dX5_bent_29 : decode cX5_bent 29 = .ok (.lreturn, 1) := by decide +kernel
theorem dX5_bend_0 : decode cX5_bend 0 = .ok (.aload_n 0, 1) := by decide +kernel
theorem dX5_bend_1 : decode cX5_bend 1 = .ok (.iload_n 1, 1) := by decide +kernel
theorem dX5_bend_2 : decode cX5_bend 2 = .ok (.invokevirtual 145, 3) := by decide +kernel
theorem dX5_bend_5 : decode cX5_bend 5 = .ok (.aload_n 0, 1) := by decide +kernel
theorem dX5_bend_6 : decode cX5_bend 6 = .ok (.iload_n 1, 1) := by decide +kernel
theorem dX5_bend_7 : decode cX5_bend 7 = .ok (.invokevirtual 145, 3) := by decide +kernel
theorem dX5_bend_10 : decode cX5_bend 10 = .ok (.lmul, 1) := by decide +kernel
theorem dX5_bend_11 : decode cX5_bend 11 = .ok (.ldc2_w 84, 3) := by decide +kernel
theorem dX5_bend_14 : decode cX5_bend 14 = .ok (.aload_n 0, 1) := by decide +kernel
theorem dX5_bend_15 : decode cX5_bend 15 = .ok (.iload_n 1, 1) := by decide +kernel
theorem dX5_bend_16 : decode cX5_bend 16 = .ok (.invokevirtual 149, 3) := by decide +kernel
theorem dX5_bend_19 : decode cX5_bend 19 = .ok (.lmul, 1) := by decide +kernel
theorem dX5_bend_20 : decode cX5_bend 20 = .ok (.aload_n 0, 1) := by decide +kernel
theorem dX5_bend_21 : decode cX5_bend 21 = .ok (.iload_n 1, 1) := by decide +kernel
theorem dX5_bend_22 : decode cX5_bend 22 = .ok (.invokevirtual 149, 3) := by decide +kernel
theorem dX5_bend_25 : decode cX5_bend 25 = .ok (.lmul, 1) := by decide +kernel
theorem dX5_bend_26 : decode cX5_bend 26 = .ok (.ladd, 1) := by decide +kernel
theorem dX5_bend_27 : decode cX5_bend 27 = .ok (.aload_n 0, 1) := by decide +kernel
theorem dX5_bend_28 : decode cX5_bend 28 = .ok (.iload_n 1, 1) := by decide +kernel
theorem dX5_bend_29 : decode cX5_bend 29 = .ok (.invokevirtual 145, 3) := by decide +kernel
theorem dX5_bend_32 : decode cX5_bend 32 = .ok (.aload_n 0, 1) := by decide +kernel
theorem dX5_bend_33 : decode cX5_bend 33 = .ok (.iload_n 1, 1) := by decide +kernel
theorem dX5_bend_34 : decode cX5_bend 34 = .ok (.invokevirtual 152, 3) := by decide +kernel
theorem dX5_bend_37 : decode cX5_bend 37 = .ok (.lmul, 1) := by decide +kernel
theorem dX5_bend_38 : decode cX5_bend 38 = .ok (.lsub, 1) := by decide +kernel
theorem dX5_bend_39 : decode cX5_bend 39 = .ok (.lreturn, 1) := by decide +kernel
theorem dX5_shape_0 : decode cX5_shape 0 = .ok (.aload_n 0, 1) := by decide +kernel
theorem dX5_shape_1 : decode cX5_shape 1 = .ok (.aload_n 0, 1) := by decide +kernel
theorem dX5_shape_2 : decode cX5_shape 2 = .ok (.iload_n 1, 1) := by decide +kernel
theorem dX5_shape_3 : decode cX5_shape 3 = .ok (.invokevirtual 68, 3) := by decide +kernel
theorem dX5_shape_6 : decode cX5_shape 6 = .ok (.ifCond .eq 26, 3) := by decide +kernel
theorem dX5_shape_9 : decode cX5_shape 9 = .ok (.iload_n 2, 1) := by decide +kernel
theorem dX5_shape_10 : decode cX5_shape 10 = .ok (.i2l, 1) := by decide +kernel
theorem dX5_shape_11 : decode cX5_shape 11 = .ok (.lconst 0, 1) := by decide +kernel
theorem dX5_shape_12 : decode cX5_shape 12 = .ok (.ldc2_w 47, 3) := by decide +kernel
theorem dX5_shape_15 : decode cX5_shape 15 = .ok (.invokestatic 39, 3) := by decide +kernel
theorem dX5_shape_18 : decode cX5_shape 18 = .ok (.ifCond .eq 14, 3) := by decide +kernel
theorem dX5_shape_21 : decode cX5_shape 21 = .ok (.aload_n 0, 1) := by decide +kernel
theorem dX5_shape_22 : decode cX5_shape 22 = .ok (.invokevirtual 128, 3) := by decide +kernel
theorem dX5_shape_25 : decode cX5_shape 25 = .ok (.ifCond .eq 7, 3) := by decide +kernel
theorem dX5_shape_28 : decode cX5_shape 28 = .ok (.iconst 0, 1) := by decide +kernel
theorem dX5_shape_29 : decode cX5_shape 29 = .ok (.goto 4, 3) := by decide +kernel
theorem dX5_shape_32 : decode cX5_shape 32 = .ok (.iconst 1, 1) := by decide +kernel
theorem dX5_shape_33 : decode cX5_shape 33 = .ok (.putfield 1, 3) := by decide +kernel
theorem dX5_shape_36 : decode cX5_shape 36 = .ok (.aload_n 0, 1) := by decide +kernel
theorem dX5_shape_37 : decode cX5_shape 37 = .ok (.getfield 1, 3) := by decide +kernel
theorem dX5_shape_40 : decode cX5_shape 40 = .ok (.ifCond .le 5, 3) := by decide +kernel
theorem dX5_shape_43 : decode cX5_shape 43 = .ok (.lconst 0, 1) := by decide +kernel
theorem dX5_shape_44 : decode cX5_shape 44 = .ok (.lreturn, 1) := by decide +kernel
theorem dX5_shape_45 : decode cX5_shape 45 = .ok (.iload_n 2, 1) := by decide +kernel
theorem dX5_shape_46 : decode cX5_shape 46 = .ok (.ifCond .ne 11, 3) := by decide +kernel
theorem dX5_shape_49 : decode cX5_shape 49 = .ok (.aload_n 0, 1) := by decide +kernel
theorem dX5_shape_50 : decode cX5_shape 50 = .ok (.iload_n 1, 1) := by decide +kernel
theorem dX5_shape_51 : decode cX5_shape 51 = .ok (.invokevirtual 145, 3) := by decide +kernel
theorem dX5_shape_54 : decode cX5_shape 54 = .ok (.goto 34, 3) := by decide +kernel
theorem dX5_shape_57 : decode cX5_shape 57 = .ok (.iload_n 2, 1) := by decide +kernel
theorem dX5_shape_58 : decode cX5_shape 58 = .ok (.iconst 1, 1) := by decide +kernel
theorem dX5_shape_59 : decode cX5_shape 59 = .ok (.if_icmp .ne 11, 3) := by decide +kernel
theorem dX5_shape_62 : decode cX5_shape 62 = .ok (.aload_n 0, 1) := by decide +kernel
theorem dX5_shape_63 : decode cX5_shape 63 = .ok (.iload_n 1, 1) := by decide +kernel
theorem dX5_shape_64 : decode cX5_shape 64 = .ok (.invokevirtual 149, 3) := by decide +kernel
theorem dX5_shape_67 : decode cX5_shape 67 = .ok (.goto 21, 3) := by decide +kernel
theorem dX5_shape_70 : decode cX5_shape 70 = .ok (.iload_n 2, 1) := by decide +kernel
theorem dX5_shape_71 : decode cX5_shape 71 = .ok (.iconst 2, 1) := by decide +kernel
theorem dX5_shape_72 : decode cX5_shape 72 = .ok (.if_icmp .ne 11, 3) := by decide +kernel
theorem dX5_shape_75 : decode cX5_shape 75 = .ok (.aload_n 0, 1) := by decide +kernel
theorem dX5_shape_76 : decode cX5_shape 76 = .ok (.iload_n 1, 1) := by decide +kernel
theorem dX5_shape_77 : decode cX5_shape 77 = .ok (.invokevirtual 152, 3) := by decide +kernel
theorem dX5_shape_80 : decode cX5_shape 80 = .ok (.goto 8, 3) := by decide +kernel
theorem dX5_shape_83 : decode cX5_shape 83 = .ok (.aload_n 0, 1) := by decide +kernel
theorem dX5_shape_84 : decode cX5_shape 84 = .ok (.iload_n 1, 1) := by decide +kernel
theorem dX5_shape_85 : decode cX5_shape 85 = .ok (.invokevirtual 155, 3) := by decide +kernel
theorem dX5_shape_88 : decode cX5_shape 88 = .ok (.lreturn, 1) := by decide +kernel
theorem dX5_product_0 : decode cX5_product 0 = .ok (.lload_n 0, 1) := by decide +kernel
theorem dX5_product_1 : decode cX5_product 1 = .ok (.lconst 0, 1) := by decide +kernel
theorem dX5_product_2 : decode cX5_product 2 = .ok (.lcmp, 1) := by decide +kernel
theorem dX5_product_3 : decode cX5_product 3 = .ok (.ifCond .lt 19, 3) := by decide +kernel
theorem dX5_product_6 : decode cX5_product 6 = .ok (.lload_n 2, 1) := by decide +kernel
theorem dX5_product_7 : decode cX5_product 7 = .ok (.lconst 0, 1) := by decide +kernel
theorem dX5_product_8 : decode cX5_product 8 = .ok (.lcmp, 1) := by decide +kernel
theorem dX5_product_9 : decode cX5_product 9 = .ok (.ifCond .lt 13, 3) := by decide +kernel
theorem dX5_product_12 : decode cX5_product 12 = .ok (.lload_n 0, 1) := by decide +kernel
theorem dX5_product_13 : decode cX5_product 13 = .ok (.ldc2_w 158, 3) := by decide +kernel
theorem dX5_product_16 : decode cX5_product 16 = .ok (.lload_n 2, 1) := by decide +kernel
theorem dX5_product_17 : decode cX5_product 17 = .ok (.ldiv, 1) := by decide +kernel
theorem dX5_product_18 : decode cX5_product 18 = .ok (.lcmp, 1) := by decide +kernel
theorem dX5_product_19 : decode cX5_product 19 = .ok (.ifCond .le 9, 3) := by decide +kernel
theorem dX5_product_22 : decode cX5_product 22 = .ok (.ldc2_w 160, 3) := by decide +kernel
theorem dX5_product_25 : decode cX5_product 25 = .ok (.goto 6, 3) := by decide +kernel
theorem dX5_product_28 : decode cX5_product 28 = .ok (.lload_n 0, 1) := by decide +kernel
theorem dX5_product_29 : decode cX5_product 29 = .ok (.lload_n 2, 1) := by decide +kernel
theorem dX5_product_30 : decode cX5_product 30 = .ok (.lmul, 1) := by decide +kernel
theorem dX5_product_31 : decode cX5_product 31 = .ok (.lreturn, 1) := by decide +kernel
theorem dX5_undercutAt_0 : decode cX5_undercutAt 0 = .ok (.aload_n 0, 1) := by decide +kernel
theorem dX5_undercutAt_1 : decode cX5_undercutAt 1 = .ok (.iload_n 1, 1) := by decide +kernel
theorem dX5_undercutAt_2 : decode cX5_undercutAt 2 = .ok (.invokevirtual 155, 3) := by decide +kernel
theorem dX5_undercutAt_5 : decode cX5_undercutAt 5 = .ok (.lstore_n 2, 1) := by decide +kernel
theorem dX5_undercutAt_6 : decode cX5_undercutAt 6 = .ok (.lload_n 2, 1) := by decide +kernel
theorem dX5_undercutAt_7 : decode cX5_undercutAt 7 = .ok (.lconst 0, 1) := by decide +kernel
theorem dX5_undercutAt_8 : decode cX5_undercutAt 8 = .ok (.lcmp, 1) := by decide +kernel
theorem dX5_undercutAt_9 : decode cX5_undercutAt 9 = .ok (.ifCond .gt 5, 3) := by decide +kernel
theorem dX5_undercutAt_12 : decode cX5_undercutAt 12 = .ok (.iconst 0, 1) := by decide +kernel
theorem dX5_undercutAt_13 : decode cX5_undercutAt 13 = .ok (.ireturn, 1) := by decide +kernel
theorem dX5_undercutAt_14 : decode cX5_undercutAt 14 = .ok (.aload_n 0, 1) := by decide +kernel
theorem dX5_undercutAt_15 : decode cX5_undercutAt 15 = .ok (.iload_n 1, 1) := by decide +kernel
theorem dX5_undercutAt_16 : decode cX5_undercutAt 16 = .ok (.invokevirtual 145, 3) := by decide +kernel
theorem dX5_undercutAt_19 : decode cX5_undercutAt 19 = .ok (.aload_n 0, 1) := by decide +kernel
theorem dX5_undercutAt_20 : decode cX5_undercutAt 20 = .ok (.iload_n 1, 1) := by decide +kernel
theorem dX5_undercutAt_21 : decode cX5_undercutAt 21 = .ok (.invokevirtual 145, 3) := by decide +kernel
theorem dX5_undercutAt_24 : decode cX5_undercutAt 24 = .ok (.lmul, 1) := by decide +kernel
theorem dX5_undercutAt_25 : decode cX5_undercutAt 25 = .ok (.aload_n 0, 1) := by decide +kernel
theorem dX5_undercutAt_26 : decode cX5_undercutAt 26 = .ok (.iload_n 1, 1) := by decide +kernel
theorem dX5_undercutAt_27 : decode cX5_undercutAt 27 = .ok (.invokevirtual 149, 3) := by decide +kernel
theorem dX5_undercutAt_30 : decode cX5_undercutAt 30 = .ok (.aload_n 0, 1) := by decide +kernel
theorem dX5_undercutAt_31 : decode cX5_undercutAt 31 = .ok (.iload_n 1, 1) := by decide +kernel
theorem dX5_undercutAt_32 : decode cX5_undercutAt 32 = .ok (.invokevirtual 149, 3) := by decide +kernel
theorem dX5_undercutAt_35 : decode cX5_undercutAt 35 = .ok (.lmul, 1) := by decide +kernel
theorem dX5_undercutAt_36 : decode cX5_undercutAt 36 = .ok (.ladd, 1) := by decide +kernel
theorem dX5_undercutAt_37 : decode cX5_undercutAt 37 = .ok (.lstore 4, 2) := by decide +kernel
theorem dX5_undercutAt_39 : decode cX5_undercutAt 39 = .ok (.lload 4, 2) := by decide +kernel
theorem dX5_undercutAt_41 : decode cX5_undercutAt 41 = .ok (.lload 4, 2) := by decide +kernel
theorem dX5_undercutAt_43 : decode cX5_undercutAt 43 = .ok (.invokestatic 162, 3) := by decide +kernel
theorem dX5_undercutAt_46 : decode cX5_undercutAt 46 = .ok (.lload 4, 2) := by decide +kernel
theorem dX5_undercutAt_48 : decode cX5_undercutAt 48 = .ok (.invokestatic 162, 3) := by decide +kernel
theorem dX5_undercutAt_51 : decode cX5_undercutAt 51 = .ok (.lstore 6, 2) := by decide +kernel
theorem dX5_undercutAt_53 : decode cX5_undercutAt 53 = .ok (.aload_n 0, 1) := by decide +kernel
theorem dX5_undercutAt_54 : decode cX5_undercutAt 54 = .ok (.getfield 16, 3) := by decide +kernel
theorem dX5_undercutAt_57 : decode cX5_undercutAt 57 = .ok (.bipush 64, 2) := by decide +kernel
theorem dX5_undercutAt_59 : decode cX5_undercutAt 59 = .ok (.iaload, 1) := by decide +kernel
theorem dX5_undercutAt_60 : decode cX5_undercutAt 60 = .ok (.i2l, 1) := by decide +kernel
theorem dX5_undercutAt_61 : decode cX5_undercutAt 61 = .ok (.lstore 8, 2) := by decide +kernel
theorem dX5_undercutAt_63 : decode cX5_undercutAt 63 = .ok (.lload 8, 2) := by decide +kernel
theorem dX5_undercutAt_65 : decode cX5_undercutAt 65 = .ok (.lload 8, 2) := by decide +kernel
theorem dX5_undercutAt_67 : decode cX5_undercutAt 67 = .ok (.lmul, 1) := by decide +kernel
theorem dX5_undercutAt_68 : decode cX5_undercutAt 68 = .ok (.lload_n 2, 1) := by decide +kernel
theorem dX5_undercutAt_69 : decode cX5_undercutAt 69 = .ok (.lload_n 2, 1) := by decide +kernel
theorem dX5_undercutAt_70 : decode cX5_undercutAt 70 = .ok (.invokestatic 162, 3) := by decide +kernel
theorem dX5_undercutAt_73 : decode cX5_undercutAt 73 = .ok (.invokestatic 162, 3) := by decide +kernel
theorem dX5_undercutAt_76 : decode cX5_undercutAt 76 = .ok (.lstore 10, 2) := by decide +kernel
theorem dX5_undercutAt_78 : decode cX5_undercutAt 78 = .ok (.lload 6, 2) := by decide +kernel
theorem dX5_undercutAt_80 : decode cX5_undercutAt 80 = .ok (.lconst 0, 1) := by decide +kernel
theorem dX5_undercutAt_81 : decode cX5_undercutAt 81 = .ok (.lcmp, 1) := by decide +kernel
theorem dX5_undercutAt_82 : decode cX5_undercutAt 82 = .ok (.ifCond .lt 10, 3) := by decide +kernel
theorem dX5_undercutAt_85 : decode cX5_undercutAt 85 = .ok (.lload 10, 2) := by decide +kernel
theorem dX5_undercutAt_87 : decode cX5_undercutAt 87 = .ok (.lconst 0, 1) := by decide +kernel
theorem dX5_undercutAt_88 : decode cX5_undercutAt 88 = .ok (.lcmp, 1) := by decide +kernel
theorem dX5_undercutAt_89 : decode cX5_undercutAt 89 = .ok (.ifCond .ge 7, 3) := by decide +kernel
theorem dX5_undercutAt_92 : decode cX5_undercutAt 92 = .ok (.iconst 2, 1) := by decide +kernel
theorem dX5_undercutAt_93 : decode cX5_undercutAt 93 = .ok (.goto 16, 3) := by decide +kernel
theorem dX5_undercutAt_96 : decode cX5_undercutAt 96 = .ok (.lload 6, 2) := by decide +kernel
theorem dX5_undercutAt_98 : decode cX5_undercutAt 98 = .ok (.lload 10, 2) := by decide +kernel
theorem dX5_undercutAt_100 : decode cX5_undercutAt 100 = .ok (.lcmp, 1) := by decide +kernel
theorem dX5_undercutAt_101 : decode cX5_undercutAt 101 = .ok (.ifCond .ge 7, 3) := by decide +kernel
theorem dX5_undercutAt_104 : decode cX5_undercutAt 104 = .ok (.iconst 1, 1) := by decide +kernel
theorem dX5_undercutAt_105 : decode cX5_undercutAt 105 = .ok (.goto 4, 3) := by decide +kernel
theorem dX5_undercutAt_108 : decode cX5_undercutAt 108 = .ok (.iconst 0, 1) := by decide +kernel
theorem dX5_undercutAt_109 : decode cX5_undercutAt 109 = .ok (.ireturn, 1) := by decide +kernel
theorem dX5_pressAt_0 : decode cX5_pressAt 0 = .ok (.aload_n 0, 1) := by decide +kernel
theorem dX5_pressAt_1 : decode cX5_pressAt 1 = .ok (.iload_n 1, 1) := by decide +kernel
theorem dX5_pressAt_2 : decode cX5_pressAt 2 = .ok (.invokevirtual 149, 3) := by decide +kernel
theorem dX5_pressAt_5 : decode cX5_pressAt 5 = .ok (.lstore_n 2, 1) := by decide +kernel
theorem dX5_pressAt_6 : decode cX5_pressAt 6 = .ok (.ldc2_w 165, 3) := by decide +kernel
theorem dX5_pressAt_9 : decode cX5_pressAt 9 = .ok (.lload_n 2, 1) := by decide +kernel
theorem dX5_pressAt_10 : decode cX5_pressAt 10 = .ok (.lconst 0, 1) := by decide +kernel
theorem dX5_pressAt_11 : decode cX5_pressAt 11 = .ok (.lcmp, 1) := by decide +kernel
theorem dX5_pressAt_12 : decode cX5_pressAt 12 = .ok (.ifCond .ge 8, 3) := by decide +kernel
theorem dX5_pressAt_15 : decode cX5_pressAt 15 = .ok (.lload_n 2, 1) := by decide +kernel
theorem dX5_pressAt_16 : decode cX5_pressAt 16 = .ok (.lneg, 1) := by decide +kernel
theorem dX5_pressAt_17 : decode cX5_pressAt 17 = .ok (.goto 4, 3) := by decide +kernel
theorem dX5_pressAt_20 : decode cX5_pressAt 20 = .ok (.lload_n 2, 1) := by decide +kernel
theorem dX5_pressAt_21 : decode cX5_pressAt 21 = .ok (.lmul, 1) := by decide +kernel
theorem dX5_pressAt_22 : decode cX5_pressAt 22 = .ok (.aload_n 0, 1) := by decide +kernel
theorem dX5_pressAt_23 : decode cX5_pressAt 23 = .ok (.iload_n 1, 1) := by decide +kernel
theorem dX5_pressAt_24 : decode cX5_pressAt 24 = .ok (.invokevirtual 145, 3) := by decide +kernel
theorem dX5_pressAt_27 : decode cX5_pressAt 27 = .ok (.ldiv, 1) := by decide +kernel
theorem dX5_pressAt_28 : decode cX5_pressAt 28 = .ok (.l2i, 1) := by decide +kernel
theorem dX5_pressAt_29 : decode cX5_pressAt 29 = .ok (.ireturn, 1) := by decide +kernel
theorem dX5_forceAt_0 : decode cX5_forceAt 0 = .ok (.aload_n 0, 1) := by decide +kernel
theorem dX5_forceAt_1 : decode cX5_forceAt 1 = .ok (.getfield 16, 3) := by decide +kernel
theorem dX5_forceAt_4 : decode cX5_forceAt 4 = .ok (.bipush 68, 2) := by decide +kernel
theorem dX5_forceAt_6 : decode cX5_forceAt 6 = .ok (.iaload, 1) := by decide +kernel
theorem dX5_forceAt_7 : decode cX5_forceAt 7 = .ok (.i2l, 1) := by decide +kernel
theorem dX5_forceAt_8 : decode cX5_forceAt 8 = .ok (.lstore_n 2, 1) := by decide +kernel
theorem dX5_forceAt_9 : decode cX5_forceAt 9 = .ok (.aload_n 0, 1) := by decide +kernel
theorem dX5_forceAt_10 : decode cX5_forceAt 10 = .ok (.getfield 16, 3) := by decide +kernel
theorem dX5_forceAt_13 : decode cX5_forceAt 13 = .ok (.bipush 65, 2) := by decide +kernel
theorem dX5_forceAt_15 : decode cX5_forceAt 15 = .ok (.iaload, 1) := by decide +kernel
theorem dX5_forceAt_16 : decode cX5_forceAt 16 = .ok (.i2l, 1) := by decide +kernel
theorem dX5_forceAt_17 : decode cX5_forceAt 17 = .ok (.aload_n 0, 1) := by decide +kernel
theorem dX5_forceAt_18 : decode cX5_forceAt 18 = .ok (.getfield 16, 3) := by decide +kernel
theorem dX5_forceAt_21 : decode cX5_forceAt 21 = .ok (.bipush 66, 2) := by decide +kernel
theorem dX5_forceAt_23 : decode cX5_forceAt 23 = .ok (.iaload, 1) := by decide +kernel
theorem dX5_forceAt_24 : decode cX5_forceAt 24 = .ok (.i2l, 1) := by decide +kernel
theorem dX5_forceAt_25 : decode cX5_forceAt 25 = .ok (.aload_n 0, 1) := by decide +kernel
theorem dX5_forceAt_26 : decode cX5_forceAt 26 = .ok (.iload_n 1, 1) := by decide +kernel
theorem dX5_forceAt_27 : decode cX5_forceAt 27 = .ok (.invokevirtual 121, 3) := by decide +kernel
theorem dX5_forceAt_30 : decode cX5_forceAt 30 = .ok (.i2l, 1) := by decide +kernel
theorem dX5_forceAt_31 : decode cX5_forceAt 31 = .ok (.lmul, 1) := by decide +kernel
theorem dX5_forceAt_32 : decode cX5_forceAt 32 = .ok (.ladd, 1) := by decide +kernel
theorem dX5_forceAt_33 : decode cX5_forceAt 33 = .ok (.aload_n 0, 1) := by decide +kernel
theorem dX5_forceAt_34 : decode cX5_forceAt 34 = .ok (.getfield 16, 3) := by decide +kernel
theorem dX5_forceAt_37 : decode cX5_forceAt 37 = .ok (.bipush 67, 2) := by decide +kernel
theorem dX5_forceAt_39 : decode cX5_forceAt 39 = .ok (.iaload, 1) := by decide +kernel
theorem dX5_forceAt_40 : decode cX5_forceAt 40 = .ok (.i2l, 1) := by decide +kernel
theorem dX5_forceAt_41 : decode cX5_forceAt 41 = .ok (.lload_n 2, 1) := by decide +kernel
theorem dX5_forceAt_42 : decode cX5_forceAt 42 = .ok (.lmul, 1) := by decide +kernel
theorem dX5_forceAt_43 : decode cX5_forceAt 43 = .ok (.lload_n 2, 1) := by decide +kernel
theorem dX5_forceAt_44 : decode cX5_forceAt 44 = .ok (.lmul, 1) := by decide +kernel
theorem dX5_forceAt_45 : decode cX5_forceAt 45 = .ok (.aload_n 0, 1) := by decide +kernel
theorem dX5_forceAt_46 : decode cX5_forceAt 46 = .ok (.iload_n 1, 1) := by decide +kernel
theorem dX5_forceAt_47 : decode cX5_forceAt 47 = .ok (.iconst 2, 1) := by decide +kernel
theorem dX5_forceAt_48 : decode cX5_forceAt 48 = .ok (.invokevirtual 124, 3) := by decide +kernel
theorem dX5_forceAt_51 : decode cX5_forceAt 51 = .ok (.i2l, 1) := by decide +kernel
theorem dX5_forceAt_52 : decode cX5_forceAt 52 = .ok (.lmul, 1) := by decide +kernel
theorem dX5_forceAt_53 : decode cX5_forceAt 53 = .ok (.ldc2_w 165, 3) := by decide +kernel
theorem dX5_forceAt_56 : decode cX5_forceAt 56 = .ok (.invokestatic 110, 3) := by decide +kernel
theorem dX5_forceAt_59 : decode cX5_forceAt 59 = .ok (.ladd, 1) := by decide +kernel
theorem dX5_forceAt_60 : decode cX5_forceAt 60 = .ok (.lreturn, 1) := by decide +kernel
theorem dX5_undercut_0 : decode cX5_undercut 0 = .ok (.aload_n 0, 1) := by decide +kernel
theorem dX5_undercut_1 : decode cX5_undercut 1 = .ok (.iconst 0, 1) := by decide +kernel
theorem dX5_undercut_2 : decode cX5_undercut 2 = .ok (.putfield 1, 3) := by decide +kernel
theorem dX5_undercut_5 : decode cX5_undercut 5 = .ok (.aload_n 0, 1) := by decide +kernel
theorem dX5_undercut_6 : decode cX5_undercut 6 = .ok (.iload_n 1, 1) := by decide +kernel
theorem dX5_undercut_7 : decode cX5_undercut 7 = .ok (.invokevirtual 68, 3) := by decide +kernel
theorem dX5_undercut_10 : decode cX5_undercut 10 = .ok (.ifCond .eq 18, 3) := by decide +kernel
theorem dX5_undercut_13 : decode cX5_undercut 13 = .ok (.aload_n 0, 1) := by decide +kernel
theorem dX5_undercut_14 : decode cX5_undercut 14 = .ok (.invokevirtual 128, 3) := by decide +kernel
theorem dX5_undercut_17 : decode cX5_undercut 17 = .ok (.ifCond .eq 11, 3) := by decide +kernel
theorem dX5_undercut_20 : decode cX5_undercut 20 = .ok (.aload_n 0, 1) := by decide +kernel
theorem dX5_undercut_21 : decode cX5_undercut 21 = .ok (.iload_n 1, 1) := by decide +kernel
theorem dX5_undercut_22 : decode cX5_undercut 22 = .ok (.invokevirtual 167, 3) := by decide +kernel
theorem dX5_undercut_25 : decode cX5_undercut 25 = .ok (.goto 4, 3) := by decide +kernel
theorem dX5_undercut_28 : decode cX5_undercut 28 = .ok (.iconst (-1), 1) := by decide +kernel
theorem dX5_undercut_29 : decode cX5_undercut 29 = .ok (.ireturn, 1) := by decide +kernel
theorem dX5_press_0 : decode cX5_press 0 = .ok (.aload_n 0, 1) := by decide +kernel
theorem dX5_press_1 : decode cX5_press 1 = .ok (.iconst 0, 1) := by decide +kernel
theorem dX5_press_2 : decode cX5_press 2 = .ok (.putfield 1, 3) := by decide +kernel
theorem dX5_press_5 : decode cX5_press 5 = .ok (.aload_n 0, 1) := by decide +kernel
theorem dX5_press_6 : decode cX5_press 6 = .ok (.iload_n 1, 1) := by decide +kernel
theorem dX5_press_7 : decode cX5_press 7 = .ok (.invokevirtual 68, 3) := by decide +kernel
theorem dX5_press_10 : decode cX5_press 10 = .ok (.ifCond .eq 18, 3) := by decide +kernel
theorem dX5_press_13 : decode cX5_press 13 = .ok (.aload_n 0, 1) := by decide +kernel
theorem dX5_press_14 : decode cX5_press 14 = .ok (.invokevirtual 128, 3) := by decide +kernel
theorem dX5_press_17 : decode cX5_press 17 = .ok (.ifCond .eq 11, 3) := by decide +kernel
theorem dX5_press_20 : decode cX5_press 20 = .ok (.aload_n 0, 1) := by decide +kernel
theorem dX5_press_21 : decode cX5_press 21 = .ok (.iload_n 1, 1) := by decide +kernel
theorem dX5_press_22 : decode cX5_press 22 = .ok (.invokevirtual 170, 3) := by decide +kernel
theorem dX5_press_25 : decode cX5_press 25 = .ok (.goto 4, 3) := by decide +kernel
theorem dX5_press_28 : decode cX5_press 28 = .ok (.iconst (-1), 1) := by decide +kernel
theorem dX5_press_29 : decode cX5_press 29 = .ok (.ireturn, 1) := by decide +kernel
theorem dX5_force_0 : decode cX5_force 0 = .ok (.aload_n 0, 1) := by decide +kernel
theorem dX5_force_1 : decode cX5_force 1 = .ok (.aload_n 0, 1) := by decide +kernel
theorem dX5_force_2 : decode cX5_force 2 = .ok (.iload_n 1, 1) := by decide +kernel
theorem dX5_force_3 : decode cX5_force 3 = .ok (.invokevirtual 68, 3) := by decide +kernel
theorem dX5_force_6 : decode cX5_force 6 = .ok (.ifCond .eq 14, 3) := by decide +kernel
theorem dX5_force_9 : decode cX5_force 9 = .ok (.aload_n 0, 1) := by decide +kernel
theorem dX5_force_10 : decode cX5_force 10 = .ok (.invokevirtual 128, 3) := by decide +kernel
theorem dX5_force_13 : decode cX5_force 13 = .ok (.ifCond .eq 7, 3) := by decide +kernel
theorem dX5_force_16 : decode cX5_force 16 = .ok (.iconst 0, 1) := by decide +kernel
theorem dX5_force_17 : decode cX5_force 17 = .ok (.goto 4, 3) := by decide +kernel
theorem dX5_force_20 : decode cX5_force 20 = .ok (.iconst 1, 1) := by decide +kernel
theorem dX5_force_21 : decode cX5_force 21 = .ok (.putfield 1, 3) := by decide +kernel
theorem dX5_force_24 : decode cX5_force 24 = .ok (.aload_n 0, 1) := by decide +kernel
theorem dX5_force_25 : decode cX5_force 25 = .ok (.getfield 1, 3) := by decide +kernel
theorem dX5_force_28 : decode cX5_force 28 = .ok (.ifCond .le 7, 3) := by decide +kernel
theorem dX5_force_31 : decode cX5_force 31 = .ok (.lconst 0, 1) := by decide +kernel
theorem dX5_force_32 : decode cX5_force 32 = .ok (.goto 8, 3) := by decide +kernel
theorem dX5_force_35 : decode cX5_force 35 = .ok (.aload_n 0, 1) := by decide +kernel
theorem dX5_force_36 : decode cX5_force 36 = .ok (.iload_n 1, 1) := by decide +kernel
theorem dX5_force_37 : decode cX5_force 37 = .ok (.invokevirtual 173, 3) := by decide +kernel
theorem dX5_force_40 : decode cX5_force 40 = .ok (.lreturn, 1) := by decide +kernel
theorem dX5_isBad_0 : decode cX5_isBad 0 = .ok (.iload_n 2, 1) := by decide +kernel
theorem dX5_isBad_1 : decode cX5_isBad 1 = .ok (.tableswitch 65 0 2 #[27, 27, 44], 27) := by decide +kernel
theorem dX5_isBad_28 : decode cX5_isBad 28 = .ok (.aload_n 0, 1) := by decide +kernel
theorem dX5_isBad_29 : decode cX5_isBad 29 = .ok (.iload_n 1, 1) := by decide +kernel
theorem dX5_isBad_30 : decode cX5_isBad 30 = .ok (.invokevirtual 167, 3) := by decide +kernel
theorem dX5_isBad_33 : decode cX5_isBad 33 = .ok (.iload_n 2, 1) := by decide +kernel
theorem dX5_isBad_34 : decode cX5_isBad 34 = .ok (.iconst 1, 1) := by decide +kernel
theorem dX5_isBad_35 : decode cX5_isBad 35 = .ok (.iadd, 1) := by decide +kernel
theorem dX5_isBad_36 : decode cX5_isBad 36 = .ok (.if_icmp .ne 7, 3) := by decide +kernel
theorem dX5_isBad_39 : decode cX5_isBad 39 = .ok (.iconst 1, 1) := by decide +kernel
theorem dX5_isBad_40 : decode cX5_isBad 40 = .ok (.goto 4, 3) := by decide +kernel
theorem dX5_isBad_43 : decode cX5_isBad 43 = .ok (.iconst 0, 1) := by decide +kernel
theorem dX5_isBad_44 : decode cX5_isBad 44 = .ok (.ireturn, 1) := by decide +kernel
theorem dX5_isBad_45 : decode cX5_isBad 45 = .ok (.aload_n 0, 1) := by decide +kernel
theorem dX5_isBad_46 : decode cX5_isBad 46 = .ok (.iload_n 1, 1) := by decide +kernel
theorem dX5_isBad_47 : decode cX5_isBad 47 = .ok (.invokevirtual 170, 3) := by decide +kernel
theorem dX5_isBad_50 : decode cX5_isBad 50 = .ok (.aload_n 0, 1) := by decide +kernel
theorem dX5_isBad_51 : decode cX5_isBad 51 = .ok (.getfield 16, 3) := by decide +kernel
theorem dX5_isBad_54 : decode cX5_isBad 54 = .ok (.bipush 69, 2) := by decide +kernel
theorem dX5_isBad_56 : decode cX5_isBad 56 = .ok (.iaload, 1) := by decide +kernel
theorem dX5_isBad_57 : decode cX5_isBad 57 = .ok (.if_icmp .le 7, 3) := by decide +kernel
theorem dX5_isBad_60 : decode cX5_isBad 60 = .ok (.iconst 1, 1) := by decide +kernel
theorem dX5_isBad_61 : decode cX5_isBad 61 = .ok (.goto 4, 3) := by decide +kernel
theorem dX5_isBad_64 : decode cX5_isBad 64 = .ok (.iconst 0, 1) := by decide +kernel
theorem dX5_isBad_65 : decode cX5_isBad 65 = .ok (.ireturn, 1) := by decide +kernel
theorem dX5_isBad_66 : decode cX5_isBad 66 = .ok (.aload_n 0, 1) := by decide +kernel
theorem dX5_isBad_67 : decode cX5_isBad 67 = .ok (.iload_n 1, 1) := by decide +kernel
theorem dX5_isBad_68 : decode cX5_isBad 68 = .ok (.invokevirtual 173, 3) := by decide +kernel
theorem dX5_isBad_71 : decode cX5_isBad 71 = .ok (.lconst 0, 1) := by decide +kernel
theorem dX5_isBad_72 : decode cX5_isBad 72 = .ok (.lcmp, 1) := by decide +kernel
theorem dX5_isBad_73 : decode cX5_isBad 73 = .ok (.ifCond .ge 7, 3) := by decide +kernel
theorem dX5_isBad_76 : decode cX5_isBad 76 = .ok (.iconst 1, 1) := by decide +kernel
theorem dX5_isBad_77 : decode cX5_isBad 77 = .ok (.goto 4, 3) := by decide +kernel
theorem dX5_isBad_80 : decode cX5_isBad 80 = .ok (.iconst 0, 1) := by decide +kernel
theorem dX5_isBad_81 : decode cX5_isBad 81 = .ok (.ireturn, 1) := by decide +kernel
theorem dX5_bad_0 : decode cX5_bad 0 = .ok (.aload_n 0, 1) := by decide +kernel
theorem dX5_bad_1 : decode cX5_bad 1 = .ok (.iconst 0, 1) := by decide +kernel
theorem dX5_bad_2 : decode cX5_bad 2 = .ok (.putfield 1, 3) := by decide +kernel
theorem dX5_bad_5 : decode cX5_bad 5 = .ok (.iload_n 1, 1) := by decide +kernel
theorem dX5_bad_6 : decode cX5_bad 6 = .ok (.i2l, 1) := by decide +kernel
theorem dX5_bad_7 : decode cX5_bad 7 = .ok (.lconst 0, 1) := by decide +kernel
theorem dX5_bad_8 : decode cX5_bad 8 = .ok (.ldc2_w 47, 3) := by decide +kernel
theorem dX5_bad_11 : decode cX5_bad 11 = .ok (.invokestatic 39, 3) := by decide +kernel
theorem dX5_bad_14 : decode cX5_bad 14 = .ok (.ifCond .eq 15, 3) := by decide +kernel
theorem dX5_bad_17 : decode cX5_bad 17 = .ok (.iload_n 2, 1) := by decide +kernel
theorem dX5_bad_18 : decode cX5_bad 18 = .ok (.iconst (-1), 1) := by decide +kernel
theorem dX5_bad_19 : decode cX5_bad 19 = .ok (.if_icmp .lt 10, 3) := by decide +kernel
theorem dX5_bad_22 : decode cX5_bad 22 = .ok (.aload_n 0, 1) := by decide +kernel
theorem dX5_bad_23 : decode cX5_bad 23 = .ok (.invokevirtual 128, 3) := by decide +kernel
theorem dX5_bad_26 : decode cX5_bad 26 = .ok (.ifCond .ne 5, 3) := by decide +kernel
theorem dX5_bad_29 : decode cX5_bad 29 = .ok (.iconst (-1), 1) := by decide +kernel
theorem dX5_bad_30 : decode cX5_bad 30 = .ok (.ireturn, 1) := by decide +kernel
theorem dX5_bad_31 : decode cX5_bad 31 = .ok (.iconst 0, 1) := by decide +kernel
theorem dX5_bad_32 : decode cX5_bad 32 = .ok (.istore_n 3, 1) := by decide +kernel
theorem dX5_bad_33 : decode cX5_bad 33 = .ok (.iconst 0, 1) := by decide +kernel
theorem dX5_bad_34 : decode cX5_bad 34 = .ok (.istore 4, 2) := by decide +kernel
theorem dX5_bad_36 : decode cX5_bad 36 = .ok (.iload 4, 2) := by decide +kernel
theorem dX5_bad_38 : decode cX5_bad 38 = .ok (.aload_n 0, 1) := by decide +kernel
theorem dX5_bad_39 : decode cX5_bad 39 = .ok (.getfield 13, 3) := by decide +kernel
theorem dX5_bad_42 : decode cX5_bad 42 = .ok (.if_icmp .ge 30, 3) := by decide +kernel
theorem dX5_bad_45 : decode cX5_bad 45 = .ok (.aload_n 0, 1) := by decide +kernel
theorem dX5_bad_46 : decode cX5_bad 46 = .ok (.iload 4, 2) := by decide +kernel
theorem dX5_bad_48 : decode cX5_bad 48 = .ok (.iload_n 1, 1) := by decide +kernel
theorem dX5_bad_49 : decode cX5_bad 49 = .ok (.invokevirtual 176, 3) := by decide +kernel
theorem dX5_bad_52 : decode cX5_bad 52 = .ok (.ifCond .eq 14, 3) := by decide +kernel
theorem dX5_bad_55 : decode cX5_bad 55 = .ok (.iload_n 3, 1) := by decide +kernel
theorem dX5_bad_56 : decode cX5_bad 56 = .ok (.iload_n 2, 1) := by decide +kernel
theorem dX5_bad_57 : decode cX5_bad 57 = .ok (.if_icmp .ne 6, 3) := by decide +kernel
theorem dX5_bad_60 : decode cX5_bad 60 = .ok (.iload 4, 2) := by decide +kernel
theorem dX5_bad_62 : decode cX5_bad 62 = .ok (.ireturn, 1) := by decide +kernel
theorem dX5_bad_63 : decode cX5_bad 63 = .ok (.iinc 3 1, 3) := by decide +kernel
theorem dX5_bad_66 : decode cX5_bad 66 = .ok (.iinc 4 1, 3) := by decide +kernel
theorem dX5_bad_69 : decode cX5_bad 69 = .ok (.goto (-33), 3) := by decide +kernel
theorem dX5_bad_72 : decode cX5_bad 72 = .ok (.iload_n 2, 1) := by decide +kernel
theorem dX5_bad_73 : decode cX5_bad 73 = .ok (.iconst (-1), 1) := by decide +kernel
theorem dX5_bad_74 : decode cX5_bad 74 = .ok (.if_icmp .ne 7, 3) := by decide +kernel
theorem dX5_bad_77 : decode cX5_bad 77 = .ok (.iload_n 3, 1) := by decide +kernel
theorem dX5_bad_78 : decode cX5_bad 78 = .ok (.goto 4, 3) := by decide +kernel
theorem dX5_bad_81 : decode cX5_bad 81 = .ok (.iconst (-1), 1) := by decide +kernel
theorem dX5_bad_82 : decode cX5_bad 82 = .ok (.ireturn, 1) := by decide +kernel
theorem dX5_top_0 : decode cX5_top 0 = .ok (.aload_n 0, 1) := by decide +kernel
theorem dX5_top_1 : decode cX5_top 1 = .ok (.iconst 0, 1) := by decide +kernel
theorem dX5_top_2 : decode cX5_top 2 = .ok (.putfield 1, 3) := by decide +kernel
theorem dX5_top_5 : decode cX5_top 5 = .ok (.iload_n 1, 1) := by decide +kernel
theorem dX5_top_6 : decode cX5_top 6 = .ok (.i2l, 1) := by decide +kernel
theorem dX5_top_7 : decode cX5_top 7 = .ok (.lconst 0, 1) := by decide +kernel
theorem dX5_top_8 : decode cX5_top 8 = .ok (.ldc2_w 180, 3) := by decide +kernel
theorem dX5_top_11 : decode cX5_top 11 = .ok (.invokestatic 39, 3) := by decide +kernel
theorem dX5_top_14 : decode cX5_top 14 = .ok (.ifCond .eq 10, 3) := by decide +kernel
theorem dX5_top_17 : decode cX5_top 17 = .ok (.aload_n 0, 1) := by decide +kernel
theorem dX5_top_18 : decode cX5_top 18 = .ok (.invokevirtual 128, 3) := by decide +kernel
theorem dX5_top_21 : decode cX5_top 21 = .ok (.ifCond .ne 5, 3) := by decide +kernel
theorem dX5_top_24 : decode cX5_top 24 = .ok (.iconst (-1), 1) := by decide +kernel
theorem dX5_top_25 : decode cX5_top 25 = .ok (.ireturn, 1) := by decide +kernel
theorem dX5_top_26 : decode cX5_top 26 = .ok (.iconst 0, 1) := by decide +kernel
theorem dX5_top_27 : decode cX5_top 27 = .ok (.istore_n 2, 1) := by decide +kernel
theorem dX5_top_28 : decode cX5_top 28 = .ok (.iconst 0, 1) := by decide +kernel
theorem dX5_top_29 : decode cX5_top 29 = .ok (.istore_n 3, 1) := by decide +kernel
theorem dX5_top_30 : decode cX5_top 30 = .ok (.iconst 0, 1) := by decide +kernel
theorem dX5_top_31 : decode cX5_top 31 = .ok (.istore 4, 2) := by decide +kernel
theorem dX5_top_33 : decode cX5_top 33 = .ok (.iconst 0, 1) := by decide +kernel
theorem dX5_top_34 : decode cX5_top 34 = .ok (.istore 5, 2) := by decide +kernel
theorem dX5_top_36 : decode cX5_top 36 = .ok (.iconst 0, 1) := by decide +kernel
theorem dX5_top_37 : decode cX5_top 37 = .ok (.istore 6, 2) := by decide +kernel
theorem dX5_top_39 : decode cX5_top 39 = .ok (.iload 6, 2) := by decide +kernel
theorem dX5_top_41 : decode cX5_top 41 = .ok (.aload_n 0, 1) := by decide +kernel
theorem dX5_top_42 : decode cX5_top 42 = .ok (.getfield 13, 3) := by decide +kernel
theorem dX5_top_45 : decode cX5_top 45 = .ok (.if_icmp .ge 90, 3) := by decide +kernel
theorem dX5_top_48 : decode cX5_top 48 = .ok (.aload_n 0, 1) := by decide +kernel
theorem dX5_top_49 : decode cX5_top 49 = .ok (.iload 6, 2) := by decide +kernel
theorem dX5_top_51 : decode cX5_top 51 = .ok (.invokevirtual 170, 3) := by decide +kernel
theorem dX5_top_54 : decode cX5_top 54 = .ok (.aload_n 0, 1) := by decide +kernel
theorem dX5_top_55 : decode cX5_top 55 = .ok (.iload_n 2, 1) := by decide +kernel
theorem dX5_top_56 : decode cX5_top 56 = .ok (.invokevirtual 170, 3) := by decide +kernel
theorem dX5_top_59 : decode cX5_top 59 = .ok (.if_icmp .le 8, 3) := by decide +kernel
theorem dX5_top_62 : decode cX5_top 62 = .ok (.iload 6, 2) := by decide +kernel
theorem dX5_top_64 : decode cX5_top 64 = .ok (.goto 4, 3) := by decide +kernel
theorem dX5_top_67 : decode cX5_top 67 = .ok (.iload_n 2, 1) := by decide +kernel
theorem dX5_top_68 : decode cX5_top 68 = .ok (.istore_n 2, 1) := by decide +kernel
theorem dX5_top_69 : decode cX5_top 69 = .ok (.aload_n 0, 1) := by decide +kernel
theorem dX5_top_70 : decode cX5_top 70 = .ok (.iload 6, 2) := by decide +kernel
theorem dX5_top_72 : decode cX5_top 72 = .ok (.invokevirtual 173, 3) := by decide +kernel
theorem dX5_top_75 : decode cX5_top 75 = .ok (.aload_n 0, 1) := by decide +kernel
theorem dX5_top_76 : decode cX5_top 76 = .ok (.iload_n 3, 1) := by decide +kernel
theorem dX5_top_77 : decode cX5_top 77 = .ok (.invokevirtual 173, 3) := by decide +kernel
theorem dX5_top_80 : decode cX5_top 80 = .ok (.lcmp, 1) := by decide +kernel
theorem dX5_top_81 : decode cX5_top 81 = .ok (.ifCond .ge 8, 3) := by decide +kernel
theorem dX5_top_84 : decode cX5_top 84 = .ok (.iload 6, 2) := by decide +kernel
theorem dX5_top_86 : decode cX5_top 86 = .ok (.goto 4, 3) := by decide +kernel
theorem dX5_top_89 : decode cX5_top 89 = .ok (.iload_n 3, 1) := by decide +kernel
theorem dX5_top_90 : decode cX5_top 90 = .ok (.istore_n 3, 1) := by decide +kernel
theorem dX5_top_91 : decode cX5_top 91 = .ok (.aload_n 0, 1) := by decide +kernel
theorem dX5_top_92 : decode cX5_top 92 = .ok (.getfield 23, 3) := by decide +kernel
theorem dX5_top_95 : decode cX5_top 95 = .ok (.iload 6, 2) := by decide +kernel
theorem dX5_top_97 : decode cX5_top 97 = .ok (.iaload, 1) := by decide +kernel
theorem dX5_top_98 : decode cX5_top 98 = .ok (.aload_n 0, 1) := by decide +kernel
theorem dX5_top_99 : decode cX5_top 99 = .ok (.getfield 23, 3) := by decide +kernel
theorem dX5_top_102 : decode cX5_top 102 = .ok (.iload 4, 2) := by decide +kernel
theorem dX5_top_104 : decode cX5_top 104 = .ok (.iaload, 1) := by decide +kernel
theorem dX5_top_105 : decode cX5_top 105 = .ok (.if_icmp .le 8, 3) := by decide +kernel
theorem dX5_top_108 : decode cX5_top 108 = .ok (.iload 6, 2) := by decide +kernel
theorem dX5_top_110 : decode cX5_top 110 = .ok (.goto 5, 3) := by decide +kernel
theorem dX5_top_113 : decode cX5_top 113 = .ok (.iload 4, 2) := by decide +kernel
theorem dX5_top_115 : decode cX5_top 115 = .ok (.istore 4, 2) := by decide +kernel
theorem dX5_top_117 : decode cX5_top 117 = .ok (.iload 5, 2) := by decide +kernel
theorem dX5_top_119 : decode cX5_top 119 = .ok (.aload_n 0, 1) := by decide +kernel
theorem dX5_top_120 : decode cX5_top 120 = .ok (.getfield 23, 3) := by decide +kernel
theorem dX5_top_123 : decode cX5_top 123 = .ok (.iload 6, 2) := by decide +kernel
theorem dX5_top_125 : decode cX5_top 125 = .ok (.iaload, 1) := by decide +kernel
theorem dX5_top_126 : decode cX5_top 126 = .ok (.iadd, 1) := by decide +kernel
theorem dX5_top_127 : decode cX5_top 127 = .ok (.istore 5, 2) := by decide +kernel
theorem dX5_top_129 : decode cX5_top 129 = .ok (.iinc 6 1, 3) := by decide +kernel
theorem dX5_top_132 : decode cX5_top 132 = .ok (.goto (-93), 3) := by decide +kernel
theorem dX5_top_135 : decode cX5_top 135 = .ok (.iload_n 1, 1) := by decide +kernel
theorem dX5_top_136 : decode cX5_top 136 = .ok (.tableswitch 57 0 4 #[36, 42, 44, 46, 54], 36) := by decide +kernel
theorem dX5_top_172 : decode cX5_top 172 = .ok (.aload_n 0, 1) := by decide +kernel
theorem dX5_top_173 : decode cX5_top 173 = .ok (.iload_n 2, 1) := by decide +kernel
theorem dX5_top_174 : decode cX5_top 174 = .ok (.invokevirtual 170, 3) := by decide +kernel
theorem dX5_top_177 : decode cX5_top 177 = .ok (.ireturn, 1) := by decide +kernel
theorem dX5_top_178 : decode cX5_top 178 = .ok (.iload_n 2, 1) := by decide +kernel
theorem dX5_top_179 : decode cX5_top 179 = .ok (.ireturn, 1) := by decide +kernel
theorem dX5_top_180 : decode cX5_top 180 = .ok (.iload_n 3, 1) := by decide +kernel
theorem dX5_top_181 : decode cX5_top 181 = .ok (.ireturn, 1) := by decide +kernel
theorem dX5_top_182 : decode cX5_top 182 = .ok (.aload_n 0, 1) := by decide +kernel
theorem dX5_top_183 : decode cX5_top 183 = .ok (.getfield 23, 3) := by decide +kernel
theorem dX5_top_186 : decode cX5_top 186 = .ok (.iload 4, 2) := by decide +kernel
theorem dX5_top_188 : decode cX5_top 188 = .ok (.iaload, 1) := by decide +kernel
theorem dX5_top_189 : decode cX5_top 189 = .ok (.ireturn, 1) := by decide +kernel
theorem dX5_top_190 : decode cX5_top 190 = .ok (.iload 4, 2) := by decide +kernel
theorem dX5_top_192 : decode cX5_top 192 = .ok (.ireturn, 1) := by decide +kernel
theorem dX5_top_193 : decode cX5_top 193 = .ok (.iload 5, 2) := by decide +kernel
theorem dX5_top_195 : decode cX5_top 195 = .ok (.ireturn, 1) := by decide +kernel
theorem dX5_offAt_0 : decode cX5_offAt 0 = .ok (.aload_n 0, 1) := by decide +kernel
theorem dX5_offAt_1 : decode cX5_offAt 1 = .ok (.getfield 23, 3) := by decide +kernel
theorem dX5_offAt_4 : decode cX5_offAt 4 = .ok (.aload_n 0, 1) := by decide +kernel
theorem dX5_offAt_5 : decode cX5_offAt 5 = .ok (.getfield 16, 3) := by decide +kernel
theorem dX5_offAt_8 : decode cX5_offAt 8 = .ok (.bipush 36, 2) := by decide +kernel
theorem dX5_offAt_10 : decode cX5_offAt 10 = .ok (.iload_n 1, 1) := by decide +kernel
theorem dX5_offAt_11 : decode cX5_offAt 11 = .ok (.iadd, 1) := by decide +kernel
theorem dX5_offAt_12 : decode cX5_offAt 12 = .ok (.iaload, 1) := by decide +kernel
theorem dX5_offAt_13 : decode cX5_offAt 13 = .ok (.iaload, 1) := by decide +kernel
theorem dX5_offAt_14 : decode cX5_offAt 14 = .ok (.aload_n 0, 1) := by decide +kernel
theorem dX5_offAt_15 : decode cX5_offAt 15 = .ok (.getfield 16, 3) := by decide +kernel
theorem dX5_offAt_18 : decode cX5_offAt 18 = .ok (.bipush 44, 2) := by decide +kernel
theorem dX5_offAt_20 : decode cX5_offAt 20 = .ok (.iload_n 1, 1) := by decide +kernel
theorem dX5_offAt_21 : decode cX5_offAt 21 = .ok (.iadd, 1) := by decide +kernel
theorem dX5_offAt_22 : decode cX5_offAt 22 = .ok (.iaload, 1) := by decide +kernel
theorem dX5_offAt_23 : decode cX5_offAt 23 = .ok (.isub, 1) := by decide +kernel
theorem dX5_offAt_24 : decode cX5_offAt 24 = .ok (.invokestatic 131, 3) := by decide +kernel
theorem dX5_offAt_27 : decode cX5_offAt 27 = .ok (.ireturn, 1) := by decide +kernel
theorem dX5_metNow_0 : decode cX5_metNow 0 = .ok (.iconst 0, 1) := by decide +kernel
theorem dX5_metNow_1 : decode cX5_metNow 1 = .ok (.istore_n 1, 1) := by decide +kernel
theorem dX5_metNow_2 : decode cX5_metNow 2 = .ok (.iconst 0, 1) := by decide +kernel
theorem dX5_metNow_3 : decode cX5_metNow 3 = .ok (.istore_n 2, 1) := by decide +kernel
theorem dX5_metNow_4 : decode cX5_metNow 4 = .ok (.iload_n 2, 1) := by decide +kernel
theorem dX5_metNow_5 : decode cX5_metNow 5 = .ok (.aload_n 0, 1) := by decide +kernel
theorem dX5_metNow_6 : decode cX5_metNow 6 = .ok (.getfield 16, 3) := by decide +kernel
theorem dX5_metNow_9 : decode cX5_metNow 9 = .ok (.bipush 61, 2) := by decide +kernel
theorem dX5_metNow_11 : decode cX5_metNow 11 = .ok (.iaload, 1) := by decide +kernel
theorem dX5_metNow_12 : decode cX5_metNow 12 = .ok (.if_icmp .ge 36, 3) := by decide +kernel
theorem dX5_metNow_15 : decode cX5_metNow 15 = .ok (.iload_n 1, 1) := by decide +kernel
theorem dX5_metNow_16 : decode cX5_metNow 16 = .ok (.aload_n 0, 1) := by decide +kernel
theorem dX5_metNow_17 : decode cX5_metNow 17 = .ok (.iload_n 2, 1) := by decide +kernel
theorem dX5_metNow_18 : decode cX5_metNow 18 = .ok (.invokevirtual 182, 3) := by decide +kernel
theorem dX5_metNow_21 : decode cX5_metNow 21 = .ok (.aload_n 0, 1) := by decide +kernel
theorem dX5_metNow_22 : decode cX5_metNow 22 = .ok (.getfield 16, 3) := by decide +kernel
theorem dX5_metNow_25 : decode cX5_metNow 25 = .ok (.bipush 52, 2) := by decide +kernel
theorem dX5_metNow_27 : decode cX5_metNow 27 = .ok (.iload_n 2, 1) := by decide +kernel
theorem dX5_metNow_28 : decode cX5_metNow 28 = .ok (.iadd, 1) := by decide +kernel
theorem dX5_metNow_29 : decode cX5_metNow 29 = .ok (.iaload, 1) := by decide +kernel
theorem dX5_metNow_30 : decode cX5_metNow 30 = .ok (.if_icmp .gt 9, 3) := by decide +kernel
theorem dX5_metNow_33 : decode cX5_metNow 33 = .ok (.iconst 1, 1) := by decide +kernel
theorem dX5_metNow_34 : decode cX5_metNow 34 = .ok (.iload_n 2, 1) := by decide +kernel
theorem dX5_metNow_35 : decode cX5_metNow 35 = .ok (.ishl, 1) := by decide +kernel
theorem dX5_metNow_36 : decode cX5_metNow 36 = .ok (.goto 4, 3) := by decide +kernel
theorem dX5_metNow_39 : decode cX5_metNow 39 = .ok (.iconst 0, 1) := by decide +kernel
theorem dX5_metNow_40 : decode cX5_metNow 40 = .ok (.ior, 1) := by decide +kernel
theorem dX5_metNow_41 : decode cX5_metNow 41 = .ok (.istore_n 1, 1) := by decide +kernel
theorem dX5_metNow_42 : decode cX5_metNow 42 = .ok (.iinc 2 1, 3) := by decide +kernel
theorem dX5_metNow_45 : decode cX5_metNow 45 = .ok (.goto (-41), 3) := by decide +kernel
theorem dX5_metNow_48 : decode cX5_metNow 48 = .ok (.iload_n 1, 1) := by decide +kernel
theorem dX5_metNow_49 : decode cX5_metNow 49 = .ok (.ireturn, 1) := by decide +kernel
theorem dX5_met_0 : decode cX5_met 0 = .ok (.aload_n 0, 1) := by decide +kernel
theorem dX5_met_1 : decode cX5_met 1 = .ok (.iconst 0, 1) := by decide +kernel
theorem dX5_met_2 : decode cX5_met 2 = .ok (.putfield 1, 3) := by decide +kernel
theorem dX5_met_5 : decode cX5_met 5 = .ok (.aload_n 0, 1) := by decide +kernel
theorem dX5_met_6 : decode cX5_met 6 = .ok (.invokevirtual 128, 3) := by decide +kernel
theorem dX5_met_9 : decode cX5_met 9 = .ok (.ifCond .eq 10, 3) := by decide +kernel
theorem dX5_met_12 : decode cX5_met 12 = .ok (.aload_n 0, 1) := by decide +kernel
theorem dX5_met_13 : decode cX5_met 13 = .ok (.invokevirtual 185, 3) := by decide +kernel
theorem dX5_met_16 : decode cX5_met 16 = .ok (.goto 4, 3) := by decide +kernel
theorem dX5_met_19 : decode cX5_met 19 = .ok (.iconst (-1), 1) := by decide +kernel
theorem dX5_met_20 : decode cX5_met 20 = .ok (.ireturn, 1) := by decide +kernel
theorem dX5_marked_0 : decode cX5_marked 0 = .ok (.aload_n 0, 1) := by decide +kernel
theorem dX5_marked_1 : decode cX5_marked 1 = .ok (.iconst 0, 1) := by decide +kernel
theorem dX5_marked_2 : decode cX5_marked 2 = .ok (.putfield 1, 3) := by decide +kernel
theorem dX5_marked_5 : decode cX5_marked 5 = .ok (.aload_n 0, 1) := by decide +kernel
theorem dX5_marked_6 : decode cX5_marked 6 = .ok (.iload_n 1, 1) := by decide +kernel
theorem dX5_marked_7 : decode cX5_marked 7 = .ok (.invokevirtual 71, 3) := by decide +kernel
theorem dX5_marked_10 : decode cX5_marked 10 = .ok (.ifCond .ne 5, 3) := by decide +kernel
theorem dX5_marked_13 : decode cX5_marked 13 = .ok (.iconst (-1), 1) := by decide +kernel
theorem dX5_marked_14 : decode cX5_marked 14 = .ok (.ireturn, 1) := by decide +kernel
theorem dX5_marked_15 : decode cX5_marked 15 = .ok (.iload_n 2, 1) := by decide +kernel
theorem dX5_marked_16 : decode cX5_marked 16 = .ok (.tableswitch 79 0 3 #[32, 42, 52, 62], 32) := by decide +kernel
theorem dX5_marked_48 : decode cX5_marked 48 = .ok (.aload_n 0, 1) := by decide +kernel
theorem dX5_marked_49 : decode cX5_marked 49 = .ok (.getfield 16, 3) := by decide +kernel
theorem dX5_marked_52 : decode cX5_marked 52 = .ok (.bipush 36, 2) := by decide +kernel
theorem dX5_marked_54 : decode cX5_marked 54 = .ok (.iload_n 1, 1) := by decide +kernel
theorem dX5_marked_55 : decode cX5_marked 55 = .ok (.iadd, 1) := by decide +kernel
theorem dX5_marked_56 : decode cX5_marked 56 = .ok (.iaload, 1) := by decide +kernel
theorem dX5_marked_57 : decode cX5_marked 57 = .ok (.ireturn, 1) := by decide +kernel
theorem dX5_marked_58 : decode cX5_marked 58 = .ok (.aload_n 0, 1) := by decide +kernel
theorem dX5_marked_59 : decode cX5_marked 59 = .ok (.getfield 16, 3) := by decide +kernel
theorem dX5_marked_62 : decode cX5_marked 62 = .ok (.bipush 44, 2) := by decide +kernel
theorem dX5_marked_64 : decode cX5_marked 64 = .ok (.iload_n 1, 1) := by decide +kernel
theorem dX5_marked_65 : decode cX5_marked 65 = .ok (.iadd, 1) := by decide +kernel
theorem dX5_marked_66 : decode cX5_marked 66 = .ok (.iaload, 1) := by decide +kernel
theorem dX5_marked_67 : decode cX5_marked 67 = .ok (.ireturn, 1) := by decide +kernel
theorem dX5_marked_68 : decode cX5_marked 68 = .ok (.aload_n 0, 1) := by decide +kernel
theorem dX5_marked_69 : decode cX5_marked 69 = .ok (.getfield 16, 3) := by decide +kernel
theorem dX5_marked_72 : decode cX5_marked 72 = .ok (.bipush 52, 2) := by decide +kernel
theorem dX5_marked_74 : decode cX5_marked 74 = .ok (.iload_n 1, 1) := by decide +kernel
theorem dX5_marked_75 : decode cX5_marked 75 = .ok (.iadd, 1) := by decide +kernel
theorem dX5_marked_76 : decode cX5_marked 76 = .ok (.iaload, 1) := by decide +kernel
theorem dX5_marked_77 : decode cX5_marked 77 = .ok (.ireturn, 1) := by decide +kernel
theorem dX5_marked_78 : decode cX5_marked 78 = .ok (.aload_n 0, 1) := by decide +kernel
theorem dX5_marked_79 : decode cX5_marked 79 = .ok (.invokevirtual 128, 3) := by decide +kernel
theorem dX5_marked_82 : decode cX5_marked 82 = .ok (.ifCond .eq 11, 3) := by decide +kernel
theorem dX5_marked_85 : decode cX5_marked 85 = .ok (.aload_n 0, 1) := by decide +kernel
theorem dX5_marked_86 : decode cX5_marked 86 = .ok (.iload_n 1, 1) := by decide +kernel
theorem dX5_marked_87 : decode cX5_marked 87 = .ok (.invokevirtual 182, 3) := by decide +kernel
theorem dX5_marked_90 : decode cX5_marked 90 = .ok (.goto 4, 3) := by decide +kernel
theorem dX5_marked_93 : decode cX5_marked 93 = .ok (.iconst (-1), 1) := by decide +kernel
theorem dX5_marked_94 : decode cX5_marked 94 = .ok (.ireturn, 1) := by decide +kernel
theorem dX5_marked_95 : decode cX5_marked 95 = .ok (.iconst (-1), 1) := by decide +kernel
theorem dX5_marked_96 : decode cX5_marked 96 = .ok (.ireturn, 1) := by decide +kernel
theorem dX5_isGood_0 : decode cX5_isGood 0 = .ok (.aload_n 0, 1) := by decide +kernel
theorem dX5_isGood_1 : decode cX5_isGood 1 = .ok (.invokevirtual 185, 3) := by decide +kernel
theorem dX5_isGood_4 : decode cX5_isGood 4 = .ok (.iconst 1, 1) := by decide +kernel
theorem dX5_isGood_5 : decode cX5_isGood 5 = .ok (.aload_n 0, 1) := by decide +kernel
theorem dX5_isGood_6 : decode cX5_isGood 6 = .ok (.getfield 16, 3) := by decide +kernel
theorem dX5_isGood_9 : decode cX5_isGood 9 = .ok (.bipush 61, 2) := by decide +kernel
theorem dX5_isGood_11 : decode cX5_isGood 11 = .ok (.iaload, 1) := by decide +kernel
theorem dX5_isGood_12 : decode cX5_isGood 12 = .ok (.ishl, 1) := by decide +kernel
theorem dX5_isGood_13 : decode cX5_isGood 13 = .ok (.iconst 1, 1) := by decide +kernel
theorem dX5_isGood_14 : decode cX5_isGood 14 = .ok (.isub, 1) := by decide +kernel
theorem dX5_isGood_15 : decode cX5_isGood 15 = .ok (.if_icmp .ne 7, 3) := by decide +kernel
theorem dX5_isGood_18 : decode cX5_isGood 18 = .ok (.iconst 1, 1) := by decide +kernel
theorem dX5_isGood_19 : decode cX5_isGood 19 = .ok (.goto 4, 3) := by decide +kernel
theorem dX5_isGood_22 : decode cX5_isGood 22 = .ok (.iconst 0, 1) := by decide +kernel
theorem dX5_isGood_23 : decode cX5_isGood 23 = .ok (.istore_n 1, 1) := by decide +kernel
theorem dX5_isGood_24 : decode cX5_isGood 24 = .ok (.iconst 0, 1) := by decide +kernel
theorem dX5_isGood_25 : decode cX5_isGood 25 = .ok (.istore_n 2, 1) := by decide +kernel
theorem dX5_isGood_26 : decode cX5_isGood 26 = .ok (.iload_n 2, 1) := by decide +kernel
theorem dX5_isGood_27 : decode cX5_isGood 27 = .ok (.aload_n 0, 1) := by decide +kernel
theorem dX5_isGood_28 : decode cX5_isGood 28 = .ok (.getfield 13, 3) := by decide +kernel
theorem dX5_isGood_31 : decode cX5_isGood 31 = .ok (.if_icmp .ge 45, 3) := by decide +kernel
theorem dX5_isGood_34 : decode cX5_isGood 34 = .ok (.iload_n 1, 1) := by decide +kernel
theorem dX5_isGood_35 : decode cX5_isGood 35 = .ok (.ifCond .eq 41, 3) := by decide +kernel
theorem dX5_isGood_38 : decode cX5_isGood 38 = .ok (.aload_n 0, 1) := by decide +kernel
theorem dX5_isGood_39 : decode cX5_isGood 39 = .ok (.iload_n 2, 1) := by decide +kernel
theorem dX5_isGood_40 : decode cX5_isGood 40 = .ok (.invokevirtual 167, 3) := by decide +kernel
theorem dX5_isGood_43 : decode cX5_isGood 43 = .ok (.ifCond .ne 25, 3) := by decide +kernel
theorem dX5_isGood_46 : decode cX5_isGood 46 = .ok (.aload_n 0, 1) := by decide +kernel
theorem dX5_isGood_47 : decode cX5_isGood 47 = .ok (.iload_n 2, 1) := by decide +kernel
theorem dX5_isGood_48 : decode cX5_isGood 48 = .ok (.iconst 2, 1) := by decide +kernel
theorem dX5_isGood_49 : decode cX5_isGood 49 = .ok (.invokevirtual 176, 3) := by decide +kernel
theorem dX5_isGood_52 : decode cX5_isGood 52 = .ok (.ifCond .ne 16, 3) := by decide +kernel
theorem dX5_isGood_55 : decode cX5_isGood 55 = .ok (.aload_n 0, 1) := by decide +kernel
theorem dX5_isGood_56 : decode cX5_isGood 56 = .ok (.iload_n 2, 1) := by decide +kernel
theorem dX5_isGood_57 : decode cX5_isGood 57 = .ok (.iconst 3, 1) := by decide +kernel
theorem dX5_isGood_58 : decode cX5_isGood 58 = .ok (.invokevirtual 176, 3) := by decide +kernel
theorem dX5_isGood_61 : decode cX5_isGood 61 = .ok (.ifCond .ne 7, 3) := by decide +kernel
theorem dX5_isGood_64 : decode cX5_isGood 64 = .ok (.iconst 1, 1) := by decide +kernel
theorem dX5_isGood_65 : decode cX5_isGood 65 = .ok (.goto 4, 3) := by decide +kernel
theorem dX5_isGood_68 : decode cX5_isGood 68 = .ok (.iconst 0, 1) := by decide +kernel
theorem dX5_isGood_69 : decode cX5_isGood 69 = .ok (.istore_n 1, 1) := by decide +kernel
theorem dX5_isGood_70 : decode cX5_isGood 70 = .ok (.iinc 2 1, 3) := by decide +kernel
theorem dX5_isGood_73 : decode cX5_isGood 73 = .ok (.goto (-47), 3) := by decide +kernel
theorem dX5_isGood_76 : decode cX5_isGood 76 = .ok (.iload_n 1, 1) := by decide +kernel
theorem dX5_isGood_77 : decode cX5_isGood 77 = .ok (.ireturn, 1) := by decide +kernel
theorem dX5_turned_0 : decode cX5_turned 0 = .ok (.iconst 0, 1) := by decide +kernel
theorem dX5_turned_1 : decode cX5_turned 1 = .ok (.istore_n 1, 1) := by decide +kernel
theorem dX5_turned_2 : decode cX5_turned 2 = .ok (.iconst 0, 1) := by decide +kernel
theorem dX5_turned_3 : decode cX5_turned 3 = .ok (.istore_n 2, 1) := by decide +kernel
theorem dX5_turned_4 : decode cX5_turned 4 = .ok (.iload_n 2, 1) := by decide +kernel
theorem dX5_turned_5 : decode cX5_turned 5 = .ok (.aload_n 0, 1) := by decide +kernel
theorem dX5_turned_6 : decode cX5_turned 6 = .ok (.getfield 16, 3) := by decide +kernel
theorem dX5_turned_9 : decode cX5_turned 9 = .ok (.bipush 60, 2) := by decide +kernel
theorem dX5_turned_11 : decode cX5_turned 11 = .ok (.iaload, 1) := by decide +kernel
theorem dX5_turned_12 : decode cX5_turned 12 = .ok (.if_icmp .ge 25, 3) := by decide +kernel
theorem dX5_turned_15 : decode cX5_turned 15 = .ok (.iload_n 1, 1) := by decide +kernel
theorem dX5_turned_16 : decode cX5_turned 16 = .ok (.aload_n 0, 1) := by decide +kernel
theorem dX5_turned_17 : decode cX5_turned 17 = .ok (.iload_n 2, 1) := by decide +kernel
theorem dX5_turned_18 : decode cX5_turned 18 = .ok (.invokevirtual 81, 3) := by decide +kernel
theorem dX5_turned_21 : decode cX5_turned 21 = .ok (.ifCond .eq 7, 3) := by decide +kernel
theorem dX5_turned_24 : decode cX5_turned 24 = .ok (.iconst 0, 1) := by decide +kernel
theorem dX5_turned_25 : decode cX5_turned 25 = .ok (.goto 4, 3) := by decide +kernel
theorem dX5_turned_28 : decode cX5_turned 28 = .ok (.iconst 1, 1) := by decide +kernel
theorem dX5_turned_29 : decode cX5_turned 29 = .ok (.iadd, 1) := by decide +kernel
theorem dX5_turned_30 : decode cX5_turned 30 = .ok (.istore_n 1, 1) := by decide +kernel
theorem dX5_turned_31 : decode cX5_turned 31 = .ok (.iinc 2 1, 3) := by decide +kernel
theorem dX5_turned_34 : decode cX5_turned 34 = .ok (.goto (-30), 3) := by decide +kernel
theorem dX5_turned_37 : decode cX5_turned 37 = .ok (.iload_n 1, 1) := by decide +kernel
theorem dX5_turned_38 : decode cX5_turned 38 = .ok (.ireturn, 1) := by decide +kernel
theorem dX5_gives_0 : decode cX5_gives 0 = .ok (.iload_n 2, 1) := by decide +kernel
theorem dX5_gives_1 : decode cX5_gives 1 = .ok (.istore_n 3, 1) := by decide +kernel
theorem dX5_gives_2 : decode cX5_gives 2 = .ok (.iconst 0, 1) := by decide +kernel
theorem dX5_gives_3 : decode cX5_gives 3 = .ok (.istore 4, 2) := by decide +kernel
theorem dX5_gives_5 : decode cX5_gives 5 = .ok (.iload 4, 2) := by decide +kernel
theorem dX5_gives_7 : decode cX5_gives 7 = .ok (.aload_n 0, 1) := by decide +kernel
theorem dX5_gives_8 : decode cX5_gives 8 = .ok (.getfield 16, 3) := by decide +kernel
theorem dX5_gives_11 : decode cX5_gives 11 = .ok (.bipush 60, 2) := by decide +kernel
theorem dX5_gives_13 : decode cX5_gives 13 = .ok (.iaload, 1) := by decide +kernel
theorem dX5_gives_14 : decode cX5_gives 14 = .ok (.if_icmp .ge 38, 3) := by decide +kernel
theorem dX5_gives_17 : decode cX5_gives 17 = .ok (.aload_n 0, 1) := by decide +kernel
theorem dX5_gives_18 : decode cX5_gives 18 = .ok (.iload 4, 2) := by decide +kernel
theorem dX5_gives_20 : decode cX5_gives 20 = .ok (.invokevirtual 81, 3) := by decide +kernel
theorem dX5_gives_23 : decode cX5_gives 23 = .ok (.ifCond .ne 23, 3) := by decide +kernel
theorem dX5_gives_26 : decode cX5_gives 26 = .ok (.iinc 3 (-1), 3) := by decide +kernel
theorem dX5_gives_29 : decode cX5_gives 29 = .ok (.aload_n 0, 1) := by decide +kernel
theorem dX5_gives_30 : decode cX5_gives 30 = .ok (.getfield 16, 3) := by decide +kernel
theorem dX5_gives_33 : decode cX5_gives 33 = .ok (.bipush 24, 2) := by decide +kernel
theorem dX5_gives_35 : decode cX5_gives 35 = .ok (.iload 4, 2) := by decide +kernel
theorem dX5_gives_37 : decode cX5_gives 37 = .ok (.iadd, 1) := by decide +kernel
theorem dX5_gives_38 : decode cX5_gives 38 = .ok (.iload_n 1, 1) := by decide +kernel
theorem dX5_gives_39 : decode cX5_gives 39 = .ok (.iconst 2, 1) := by decide +kernel
theorem dX5_gives_40 : decode cX5_gives 40 = .ok (.iload_n 3, 1) := by decide +kernel
theorem dX5_gives_41 : decode cX5_gives 41 = .ok (.imul, 1) := by decide +kernel
theorem dX5_gives_42 : decode cX5_gives 42 = .ok (.ishr, 1) := by decide +kernel
theorem dX5_gives_43 : decode cX5_gives 43 = .ok (.iconst 3, 1) := by decide +kernel
theorem dX5_gives_44 : decode cX5_gives 44 = .ok (.iand, 1) := by decide +kernel
theorem dX5_gives_45 : decode cX5_gives 45 = .ok (.iastore, 1) := by decide +kernel
theorem dX5_gives_46 : decode cX5_gives 46 = .ok (.iinc 4 1, 3) := by decide +kernel
theorem dX5_gives_49 : decode cX5_gives 49 = .ok (.goto (-44), 3) := by decide +kernel
theorem dX5_gives_52 : decode cX5_gives 52 = .ok (.return_, 1) := by decide +kernel
theorem dX5_takesWay_0 : decode cX5_takesWay 0 = .ok (.iconst 0, 1) := by decide +kernel
theorem dX5_takesWay_1 : decode cX5_takesWay 1 = .ok (.istore_n 1, 1) := by decide +kernel
theorem dX5_takesWay_2 : decode cX5_takesWay 2 = .ok (.iload_n 1, 1) := by decide +kernel
theorem dX5_takesWay_3 : decode cX5_takesWay 3 = .ok (.bipush 12, 2) := by decide +kernel
theorem dX5_takesWay_5 : decode cX5_takesWay 5 = .ok (.if_icmp .ge 24, 3) := by decide +kernel
theorem dX5_takesWay_8 : decode cX5_takesWay 8 = .ok (.aload_n 0, 1) := by decide +kernel
theorem dX5_takesWay_9 : decode cX5_takesWay 9 = .ok (.getfield 29, 3) := by decide +kernel
theorem dX5_takesWay_12 : decode cX5_takesWay 12 = .ok (.iload_n 1, 1) := by decide +kernel
theorem dX5_takesWay_13 : decode cX5_takesWay 13 = .ok (.aload_n 0, 1) := by decide +kernel
theorem dX5_takesWay_14 : decode cX5_takesWay 14 = .ok (.getfield 16, 3) := by decide +kernel
theorem dX5_takesWay_17 : decode cX5_takesWay 17 = .ok (.bipush 24, 2) := by decide +kernel
theorem dX5_takesWay_19 : decode cX5_takesWay 19 = .ok (.iload_n 1, 1) := by decide +kernel
theorem dX5_takesWay_20 : decode cX5_takesWay 20 = .ok (.iadd, 1) := by decide +kernel
theorem dX5_takesWay_21 : decode cX5_takesWay 21 = .ok (.iaload, 1) := by decide +kernel
theorem dX5_takesWay_22 : decode cX5_takesWay 22 = .ok (.iastore, 1) := by decide +kernel
theorem dX5_takesWay_23 : decode cX5_takesWay 23 = .ok (.iinc 1 1, 3) := by decide +kernel
theorem dX5_takesWay_26 : decode cX5_takesWay 26 = .ok (.goto (-24), 3) := by decide +kernel
theorem dX5_takesWay_29 : decode cX5_takesWay 29 = .ok (.return_, 1) := by decide +kernel
theorem dX5_laysBest_0 : decode cX5_laysBest 0 = .ok (.iconst 0, 1) := by decide +kernel
theorem dX5_laysBest_1 : decode cX5_laysBest 1 = .ok (.istore_n 2, 1) := by decide +kernel
theorem dX5_laysBest_2 : decode cX5_laysBest 2 = .ok (.iload_n 2, 1) := by decide +kernel
theorem dX5_laysBest_3 : decode cX5_laysBest 3 = .ok (.bipush 12, 2) := by decide +kernel
theorem dX5_laysBest_5 : decode cX5_laysBest 5 = .ok (.if_icmp .ge 24, 3) := by decide +kernel
theorem dX5_laysBest_8 : decode cX5_laysBest 8 = .ok (.aload_n 0, 1) := by decide +kernel
theorem dX5_laysBest_9 : decode cX5_laysBest 9 = .ok (.getfield 26, 3) := by decide +kernel
theorem dX5_laysBest_12 : decode cX5_laysBest 12 = .ok (.iload_n 2, 1) := by decide +kernel
theorem dX5_laysBest_13 : decode cX5_laysBest 13 = .ok (.aload_n 0, 1) := by decide +kernel
theorem dX5_laysBest_14 : decode cX5_laysBest 14 = .ok (.getfield 16, 3) := by decide +kernel
theorem dX5_laysBest_17 : decode cX5_laysBest 17 = .ok (.bipush 24, 2) := by decide +kernel
theorem dX5_laysBest_19 : decode cX5_laysBest 19 = .ok (.iload_n 2, 1) := by decide +kernel
theorem dX5_laysBest_20 : decode cX5_laysBest 20 = .ok (.iadd, 1) := by decide +kernel
theorem dX5_laysBest_21 : decode cX5_laysBest 21 = .ok (.iaload, 1) := by decide +kernel
theorem dX5_laysBest_22 : decode cX5_laysBest 22 = .ok (.iastore, 1) := by decide +kernel
theorem dX5_laysBest_23 : decode cX5_laysBest 23 = .ok (.iinc 2 1, 3) := by decide +kernel
theorem dX5_laysBest_26 : decode cX5_laysBest 26 = .ok (.goto (-24), 3) := by decide +kernel
theorem dX5_laysBest_29 : decode cX5_laysBest 29 = .ok (.iconst 0, 1) := by decide +kernel
theorem dX5_laysBest_30 : decode cX5_laysBest 30 = .ok (.istore_n 2, 1) := by decide +kernel
theorem dX5_laysBest_31 : decode cX5_laysBest 31 = .ok (.iload_n 2, 1) := by decide +kernel
theorem dX5_laysBest_32 : decode cX5_laysBest 32 = .ok (.iconst 1, 1) := by decide +kernel
theorem dX5_laysBest_33 : decode cX5_laysBest 33 = .ok (.iconst 2, 1) := by decide +kernel
theorem dX5_laysBest_34 : decode cX5_laysBest 34 = .ok (.iload_n 1, 1) := by decide +kernel
theorem dX5_laysBest_35 : decode cX5_laysBest 35 = .ok (.imul, 1) := by decide +kernel
theorem dX5_laysBest_36 : decode cX5_laysBest 36 = .ok (.ishl, 1) := by decide +kernel
theorem dX5_laysBest_37 : decode cX5_laysBest 37 = .ok (.if_icmp .ge 121, 3) := by decide +kernel
theorem dX5_laysBest_40 : decode cX5_laysBest 40 = .ok (.aload_n 0, 1) := by decide +kernel
theorem dX5_laysBest_41 : decode cX5_laysBest 41 = .ok (.iload_n 2, 1) := by decide +kernel
theorem dX5_laysBest_42 : decode cX5_laysBest 42 = .ok (.iload_n 1, 1) := by decide +kernel
theorem dX5_laysBest_43 : decode cX5_laysBest 43 = .ok (.invokevirtual 189, 3) := by decide +kernel
theorem dX5_laysBest_46 : decode cX5_laysBest 46 = .ok (.aload_n 0, 1) := by decide +kernel
theorem dX5_laysBest_47 : decode cX5_laysBest 47 = .ok (.invokevirtual 118, 3) := by decide +kernel
theorem dX5_laysBest_50 : decode cX5_laysBest 50 = .ok (.aload_n 0, 1) := by decide +kernel
theorem dX5_laysBest_51 : decode cX5_laysBest 51 = .ok (.invokevirtual 193, 3) := by decide +kernel
theorem dX5_laysBest_54 : decode cX5_laysBest 54 = .ok (.istore_n 3, 1) := by decide +kernel
theorem dX5_laysBest_55 : decode cX5_laysBest 55 = .ok (.aload_n 0, 1) := by decide +kernel
theorem dX5_laysBest_56 : decode cX5_laysBest 56 = .ok (.iconst 2, 1) := by decide +kernel
theorem dX5_laysBest_57 : decode cX5_laysBest 57 = .ok (.invokevirtual 134, 3) := by decide +kernel
theorem dX5_laysBest_60 : decode cX5_laysBest 60 = .ok (.istore 4, 2) := by decide +kernel
theorem dX5_laysBest_62 : decode cX5_laysBest 62 = .ok (.aload_n 0, 1) := by decide +kernel
theorem dX5_laysBest_63 : decode cX5_laysBest 63 = .ok (.iconst 3, 1) := by decide +kernel
theorem dX5_laysBest_64 : decode cX5_laysBest 64 = .ok (.invokevirtual 134, 3) := by decide +kernel
theorem dX5_laysBest_67 : decode cX5_laysBest 67 = .ok (.istore 5, 2) := by decide +kernel
theorem dX5_laysBest_69 : decode cX5_laysBest 69 = .ok (.iload 4, 2) := by decide +kernel
theorem dX5_laysBest_71 : decode cX5_laysBest 71 = .ok (.aload_n 0, 1) := by decide +kernel
theorem dX5_laysBest_72 : decode cX5_laysBest 72 = .ok (.getfield 196, 3) := by decide +kernel
theorem dX5_laysBest_75 : decode cX5_laysBest 75 = .ok (.if_icmp .lt 21, 3) := by decide +kernel
theorem dX5_laysBest_78 : decode cX5_laysBest 78 = .ok (.iload 4, 2) := by decide +kernel
theorem dX5_laysBest_80 : decode cX5_laysBest 80 = .ok (.aload_n 0, 1) := by decide +kernel
theorem dX5_laysBest_81 : decode cX5_laysBest 81 = .ok (.getfield 196, 3) := by decide +kernel
theorem dX5_laysBest_84 : decode cX5_laysBest 84 = .ok (.if_icmp .ne 16, 3) := by decide +kernel
theorem dX5_laysBest_87 : decode cX5_laysBest 87 = .ok (.iload 5, 2) := by decide +kernel
theorem dX5_laysBest_89 : decode cX5_laysBest 89 = .ok (.aload_n 0, 1) := by decide +kernel
theorem dX5_laysBest_90 : decode cX5_laysBest 90 = .ok (.getfield 199, 3) := by decide +kernel
theorem dX5_laysBest_93 : decode cX5_laysBest 93 = .ok (.if_icmp .ge 7, 3) := by decide +kernel
theorem dX5_laysBest_96 : decode cX5_laysBest 96 = .ok (.iconst 1, 1) := by decide +kernel
theorem dX5_laysBest_97 : decode cX5_laysBest 97 = .ok (.goto 4, 3) := by decide +kernel
theorem dX5_laysBest_100 : decode cX5_laysBest 100 = .ok (.iconst 0, 1) := by decide +kernel
theorem dX5_laysBest_101 : decode cX5_laysBest 101 = .ok (.istore 6, 2) := by decide +kernel
theorem dX5_laysBest_103 : decode cX5_laysBest 103 = .ok (.iload_n 2, 1) := by decide +kernel
theorem dX5_laysBest_104 : decode cX5_laysBest 104 = .ok (.ifCond .eq 27, 3) := by decide +kernel
theorem dX5_laysBest_107 : decode cX5_laysBest 107 = .ok (.iload_n 3, 1) := by decide +kernel
theorem dX5_laysBest_108 : decode cX5_laysBest 108 = .ok (.ifCond .eq 10, 3) := by decide +kernel
theorem dX5_laysBest_111 : decode cX5_laysBest 111 = .ok (.aload_n 0, 1) := by decide +kernel
theorem dX5_laysBest_112 : decode cX5_laysBest 112 = .ok (.getfield 202, 3) := by decide +kernel
theorem dX5_laysBest_115 : decode cX5_laysBest 115 = .ok (.ifCond .eq 16, 3) := by decide +kernel
theorem dX5_laysBest_118 : decode cX5_laysBest 118 = .ok (.iload_n 3, 1) := by decide +kernel
theorem dX5_laysBest_119 : decode cX5_laysBest 119 = .ok (.aload_n 0, 1) := by decide +kernel
theorem dX5_laysBest_120 : decode cX5_laysBest 120 = .ok (.getfield 202, 3) := by decide +kernel
theorem dX5_laysBest_123 : decode cX5_laysBest 123 = .ok (.if_icmp .ne 29, 3) := by decide +kernel
theorem dX5_laysBest_126 : decode cX5_laysBest 126 = .ok (.iload 6, 2) := by decide +kernel
theorem dX5_laysBest_128 : decode cX5_laysBest 128 = .ok (.ifCond .eq 24, 3) := by decide +kernel
theorem dX5_laysBest_131 : decode cX5_laysBest 131 = .ok (.aload_n 0, 1) := by decide +kernel
theorem dX5_laysBest_132 : decode cX5_laysBest 132 = .ok (.iload_n 3, 1) := by decide +kernel
theorem dX5_laysBest_133 : decode cX5_laysBest 133 = .ok (.putfield 202, 3) := by decide +kernel
theorem dX5_laysBest_136 : decode cX5_laysBest 136 = .ok (.aload_n 0, 1) := by decide +kernel
theorem dX5_laysBest_137 : decode cX5_laysBest 137 = .ok (.iload 4, 2) := by decide +kernel
theorem dX5_laysBest_139 : decode cX5_laysBest 139 = .ok (.putfield 196, 3) := by decide +kernel
theorem dX5_laysBest_142 : decode cX5_laysBest 142 = .ok (.aload_n 0, 1) := by decide +kernel
theorem dX5_laysBest_143 : decode cX5_laysBest 143 = .ok (.iload 5, 2) := by decide +kernel
theorem dX5_laysBest_145 : decode cX5_laysBest 145 = .ok (.putfield 199, 3) := by decide +kernel
theorem dX5_laysBest_148 : decode cX5_laysBest 148 = .ok (.aload_n 0, 1) := by decide +kernel
theorem dX5_laysBest_149 : decode cX5_laysBest 149 = .ok (.invokevirtual 206, 3) := by decide +kernel
theorem dX5_laysBest_152 : decode cX5_laysBest 152 = .ok (.iinc 2 1, 3) := by decide +kernel
theorem dX5_laysBest_155 : decode cX5_laysBest 155 = .ok (.goto (-124), 3) := by decide +kernel
theorem dX5_laysBest_158 : decode cX5_laysBest 158 = .ok (.iconst 0, 1) := by decide +kernel
theorem dX5_laysBest_159 : decode cX5_laysBest 159 = .ok (.istore_n 2, 1) := by decide +kernel
theorem dX5_laysBest_160 : decode cX5_laysBest 160 = .ok (.iload_n 2, 1) := by decide +kernel
theorem dX5_laysBest_161 : decode cX5_laysBest 161 = .ok (.bipush 12, 2) := by decide +kernel
theorem dX5_laysBest_163 : decode cX5_laysBest 163 = .ok (.if_icmp .ge 24, 3) := by decide +kernel
theorem dX5_laysBest_166 : decode cX5_laysBest 166 = .ok (.aload_n 0, 1) := by decide +kernel
theorem dX5_laysBest_167 : decode cX5_laysBest 167 = .ok (.getfield 16, 3) := by decide +kernel
theorem dX5_laysBest_170 : decode cX5_laysBest 170 = .ok (.bipush 24, 2) := by decide +kernel
theorem dX5_laysBest_172 : decode cX5_laysBest 172 = .ok (.iload_n 2, 1) := by decide +kernel
theorem dX5_laysBest_173 : decode cX5_laysBest 173 = .ok (.iadd, 1) := by decide +kernel
theorem dX5_laysBest_174 : decode cX5_laysBest 174 = .ok (.aload_n 0, 1) := by decide +kernel
theorem dX5_laysBest_175 : decode cX5_laysBest 175 = .ok (.getfield 26, 3) := by decide +kernel
theorem dX5_laysBest_178 : decode cX5_laysBest 178 = .ok (.iload_n 2, 1) := by decide +kernel
theorem dX5_laysBest_179 : decode cX5_laysBest 179 = .ok (.iaload, 1) := by decide +kernel
theorem dX5_laysBest_180 : decode cX5_laysBest 180 = .ok (.iastore, 1) := by decide +kernel
theorem dX5_laysBest_181 : decode cX5_laysBest 181 = .ok (.iinc 2 1, 3) := by decide +kernel
theorem dX5_laysBest_184 : decode cX5_laysBest 184 = .ok (.goto (-24), 3) := by decide +kernel
theorem dX5_laysBest_187 : decode cX5_laysBest 187 = .ok (.return_, 1) := by decide +kernel
theorem dX5_best_0 : decode cX5_best 0 = .ok (.aload_n 0, 1) := by decide +kernel
theorem dX5_best_1 : decode cX5_best 1 = .ok (.iconst 0, 1) := by decide +kernel
theorem dX5_best_2 : decode cX5_best 2 = .ok (.putfield 1, 3) := by decide +kernel
theorem dX5_best_5 : decode cX5_best 5 = .ok (.iload_n 1, 1) := by decide +kernel
theorem dX5_best_6 : decode cX5_best 6 = .ok (.i2l, 1) := by decide +kernel
theorem dX5_best_7 : decode cX5_best 7 = .ok (.lconst 0, 1) := by decide +kernel
theorem dX5_best_8 : decode cX5_best 8 = .ok (.ldc2_w 209, 3) := by decide +kernel
theorem dX5_best_11 : decode cX5_best 11 = .ok (.invokestatic 39, 3) := by decide +kernel
theorem dX5_best_14 : decode cX5_best 14 = .ok (.ifCond .eq 33, 3) := by decide +kernel
theorem dX5_best_17 : decode cX5_best 17 = .ok (.aload_n 0, 1) := by decide +kernel
theorem dX5_best_18 : decode cX5_best 18 = .ok (.invokevirtual 114, 3) := by decide +kernel
theorem dX5_best_21 : decode cX5_best 21 = .ok (.ifCond .eq 26, 3) := by decide +kernel
theorem dX5_best_24 : decode cX5_best 24 = .ok (.aload_n 0, 1) := by decide +kernel
theorem dX5_best_25 : decode cX5_best 25 = .ok (.invokevirtual 211, 3) := by decide +kernel
theorem dX5_best_28 : decode cX5_best 28 = .ok (.bipush 6, 2) := by decide +kernel
theorem dX5_best_30 : decode cX5_best 30 = .ok (.if_icmp .gt 17, 3) := by decide +kernel
theorem dX5_best_33 : decode cX5_best 33 = .ok (.iload_n 1, 1) := by decide +kernel
theorem dX5_best_34 : decode cX5_best 34 = .ok (.bipush 12, 2) := by decide +kernel
theorem dX5_best_36 : decode cX5_best 36 = .ok (.if_icmp .ge 13, 3) := by decide +kernel
theorem dX5_best_39 : decode cX5_best 39 = .ok (.aload_n 0, 1) := by decide +kernel
theorem dX5_best_40 : decode cX5_best 40 = .ok (.iload_n 1, 1) := by decide +kernel
theorem dX5_best_41 : decode cX5_best 41 = .ok (.invokevirtual 52, 3) := by decide +kernel
theorem dX5_best_44 : decode cX5_best 44 = .ok (.ifCond .ne 5, 3) := by decide +kernel
theorem dX5_best_47 : decode cX5_best 47 = .ok (.iconst (-1), 1) := by decide +kernel
theorem dX5_best_48 : decode cX5_best 48 = .ok (.ireturn, 1) := by decide +kernel
theorem dX5_best_49 : decode cX5_best 49 = .ok (.aload_n 0, 1) := by decide +kernel
theorem dX5_best_50 : decode cX5_best 50 = .ok (.aload_n 0, 1) := by decide +kernel
theorem dX5_best_51 : decode cX5_best 51 = .ok (.invokevirtual 211, 3) := by decide +kernel
theorem dX5_best_54 : decode cX5_best 54 = .ok (.invokevirtual 214, 3) := by decide +kernel
theorem dX5_best_57 : decode cX5_best 57 = .ok (.iload_n 1, 1) := by decide +kernel
theorem dX5_best_58 : decode cX5_best 58 = .ok (.bipush 12, 2) := by decide +kernel
theorem dX5_best_60 : decode cX5_best 60 = .ok (.if_icmp .ne 10, 3) := by decide +kernel
theorem dX5_best_63 : decode cX5_best 63 = .ok (.aload_n 0, 1) := by decide +kernel
theorem dX5_best_64 : decode cX5_best 64 = .ok (.getfield 196, 3) := by decide +kernel
theorem dX5_best_67 : decode cX5_best 67 = .ok (.goto 43, 3) := by decide +kernel
theorem dX5_best_70 : decode cX5_best 70 = .ok (.iload_n 1, 1) := by decide +kernel
theorem dX5_best_71 : decode cX5_best 71 = .ok (.bipush 13, 2) := by decide +kernel
theorem dX5_best_73 : decode cX5_best 73 = .ok (.if_icmp .ne 10, 3) := by decide +kernel
theorem dX5_best_76 : decode cX5_best 76 = .ok (.aload_n 0, 1) := by decide +kernel
theorem dX5_best_77 : decode cX5_best 77 = .ok (.getfield 199, 3) := by decide +kernel
theorem dX5_best_80 : decode cX5_best 80 = .ok (.goto 30, 3) := by decide +kernel
theorem dX5_best_83 : decode cX5_best 83 = .ok (.iload_n 1, 1) := by decide +kernel
theorem dX5_best_84 : decode cX5_best 84 = .ok (.bipush 14, 2) := by decide +kernel
theorem dX5_best_86 : decode cX5_best 86 = .ok (.if_icmp .ne 18, 3) := by decide +kernel
theorem dX5_best_89 : decode cX5_best 89 = .ok (.aload_n 0, 1) := by decide +kernel
theorem dX5_best_90 : decode cX5_best 90 = .ok (.getfield 202, 3) := by decide +kernel
theorem dX5_best_93 : decode cX5_best 93 = .ok (.ifCond .eq 7, 3) := by decide +kernel
theorem dX5_best_96 : decode cX5_best 96 = .ok (.iconst 1, 1) := by decide +kernel
theorem dX5_best_97 : decode cX5_best 97 = .ok (.goto 13, 3) := by decide +kernel
theorem dX5_best_100 : decode cX5_best 100 = .ok (.iconst 0, 1) := by decide +kernel
theorem dX5_best_101 : decode cX5_best 101 = .ok (.goto 9, 3) := by decide +kernel
theorem dX5_best_104 : decode cX5_best 104 = .ok (.aload_n 0, 1) := by decide +kernel
theorem dX5_best_105 : decode cX5_best 105 = .ok (.getfield 29, 3) := by decide +kernel
theorem dX5_best_108 : decode cX5_best 108 = .ok (.iload_n 1, 1) := by decide +kernel
theorem dX5_best_109 : decode cX5_best 109 = .ok (.iaload, 1) := by decide +kernel
theorem dX5_best_110 : decode cX5_best 110 = .ok (.ireturn, 1) := by decide +kernel
theorem dX5_isFree_0 : decode cX5_isFree 0 = .ok (.aload_n 0, 1) := by decide +kernel
theorem dX5_isFree_1 : decode cX5_isFree 1 = .ok (.getfield 16, 3) := by decide +kernel
theorem dX5_isFree_4 : decode cX5_isFree 4 = .ok (.iload_n 1, 1) := by decide +kernel
theorem dX5_isFree_5 : decode cX5_isFree 5 = .ok (.iaload, 1) := by decide +kernel
theorem dX5_isFree_6 : decode cX5_isFree 6 = .ok (.istore 4, 2) := by decide +kernel
theorem dX5_isFree_8 : decode cX5_isFree 8 = .ok (.aload_n 0, 1) := by decide +kernel
theorem dX5_isFree_9 : decode cX5_isFree 9 = .ok (.getfield 16, 3) := by decide +kernel
theorem dX5_isFree_12 : decode cX5_isFree 12 = .ok (.iload_n 1, 1) := by decide +kernel
theorem dX5_isFree_13 : decode cX5_isFree 13 = .ok (.iload_n 2, 1) := by decide +kernel
theorem dX5_isFree_14 : decode cX5_isFree 14 = .ok (.iastore, 1) := by decide +kernel
theorem dX5_isFree_15 : decode cX5_isFree 15 = .ok (.iconst 1, 1) := by decide +kernel
theorem dX5_isFree_16 : decode cX5_isFree 16 = .ok (.istore 5, 2) := by decide +kernel
theorem dX5_isFree_18 : decode cX5_isFree 18 = .ok (.iconst 0, 1) := by decide +kernel
theorem dX5_isFree_19 : decode cX5_isFree 19 = .ok (.istore 6, 2) := by decide +kernel
theorem dX5_isFree_21 : decode cX5_isFree 21 = .ok (.iload 6, 2) := by decide +kernel
theorem dX5_isFree_23 : decode cX5_isFree 23 = .ok (.aload_n 0, 1) := by decide +kernel
theorem dX5_isFree_24 : decode cX5_isFree 24 = .ok (.getfield 13, 3) := by decide +kernel
theorem dX5_isFree_27 : decode cX5_isFree 27 = .ok (.if_icmp .ge 52, 3) := by decide +kernel
theorem dX5_isFree_30 : decode cX5_isFree 30 = .ok (.iload 5, 2) := by decide +kernel
theorem dX5_isFree_32 : decode cX5_isFree 32 = .ok (.ifCond .eq 47, 3) := by decide +kernel
theorem dX5_isFree_35 : decode cX5_isFree 35 = .ok (.iload_n 3, 1) := by decide +kernel
theorem dX5_isFree_36 : decode cX5_isFree 36 = .ok (.ifCond .ne 20, 3) := by decide +kernel
theorem dX5_isFree_39 : decode cX5_isFree 39 = .ok (.aload_n 0, 1) := by decide +kernel
theorem dX5_isFree_40 : decode cX5_isFree 40 = .ok (.iload 6, 2) := by decide +kernel
theorem dX5_isFree_42 : decode cX5_isFree 42 = .ok (.invokevirtual 167, 3) := by decide +kernel
theorem dX5_isFree_45 : decode cX5_isFree 45 = .ok (.ifCond .ne 7, 3) := by decide +kernel
theorem dX5_isFree_48 : decode cX5_isFree 48 = .ok (.iconst 1, 1) := by decide +kernel
theorem dX5_isFree_49 : decode cX5_isFree 49 = .ok (.goto 22, 3) := by decide +kernel
theorem dX5_isFree_52 : decode cX5_isFree 52 = .ok (.iconst 0, 1) := by decide +kernel
theorem dX5_isFree_53 : decode cX5_isFree 53 = .ok (.goto 18, 3) := by decide +kernel
theorem dX5_isFree_56 : decode cX5_isFree 56 = .ok (.aload_n 0, 1) := by decide +kernel
theorem dX5_isFree_57 : decode cX5_isFree 57 = .ok (.iload 6, 2) := by decide +kernel
theorem dX5_isFree_59 : decode cX5_isFree 59 = .ok (.iload_n 3, 1) := by decide +kernel
theorem dX5_isFree_60 : decode cX5_isFree 60 = .ok (.invokevirtual 176, 3) := by decide +kernel
theorem dX5_isFree_63 : decode cX5_isFree 63 = .ok (.ifCond .ne 7, 3) := by decide +kernel
theorem dX5_isFree_66 : decode cX5_isFree 66 = .ok (.iconst 1, 1) := by decide +kernel
theorem dX5_isFree_67 : decode cX5_isFree 67 = .ok (.goto 4, 3) := by decide +kernel
theorem dX5_isFree_70 : decode cX5_isFree 70 = .ok (.iconst 0, 1) := by decide +kernel
theorem dX5_isFree_71 : decode cX5_isFree 71 = .ok (.istore 5, 2) := by decide +kernel
theorem dX5_isFree_73 : decode cX5_isFree 73 = .ok (.iinc 6 1, 3) := by decide +kernel
theorem dX5_isFree_76 : decode cX5_isFree 76 = .ok (.goto (-55), 3) := by decide +kernel
theorem dX5_isFree_79 : decode cX5_isFree 79 = .ok (.aload_n 0, 1) := by decide +kernel
theorem dX5_isFree_80 : decode cX5_isFree 80 = .ok (.getfield 16, 3) := by decide +kernel
theorem dX5_isFree_83 : decode cX5_isFree 83 = .ok (.iload_n 1, 1) := by decide +kernel
theorem dX5_isFree_84 : decode cX5_isFree 84 = .ok (.iload 4, 2) := by decide +kernel
theorem dX5_isFree_86 : decode cX5_isFree 86 = .ok (.iastore, 1) := by decide +kernel
theorem dX5_isFree_87 : decode cX5_isFree 87 = .ok (.iload 5, 2) := by decide +kernel
theorem dX5_isFree_89 : decode cX5_isFree 89 = .ok (.ireturn, 1) := by decide +kernel
theorem dX5_limit_0 : decode cX5_limit 0 = .ok (.aload_n 0, 1) := by decide +kernel
theorem dX5_limit_1 : decode cX5_limit 1 = .ok (.iconst 0, 1) := by decide +kernel
theorem dX5_limit_2 : decode cX5_limit 2 = .ok (.putfield 1, 3) := by decide +kernel
theorem dX5_limit_5 : decode cX5_limit 5 = .ok (.iload_n 1, 1) := by decide +kernel
theorem dX5_limit_6 : decode cX5_limit 6 = .ok (.i2l, 1) := by decide +kernel
theorem dX5_limit_7 : decode cX5_limit 7 = .ok (.lconst 0, 1) := by decide +kernel
theorem dX5_limit_8 : decode cX5_limit 8 = .ok (.ldc2_w 84, 3) := by decide +kernel
theorem dX5_limit_11 : decode cX5_limit 11 = .ok (.invokestatic 39, 3) := by decide +kernel
theorem dX5_limit_14 : decode cX5_limit 14 = .ok (.ifCond .eq 10, 3) := by decide +kernel
theorem dX5_limit_17 : decode cX5_limit 17 = .ok (.aload_n 0, 1) := by decide +kernel
theorem dX5_limit_18 : decode cX5_limit 18 = .ok (.invokevirtual 128, 3) := by decide +kernel
theorem dX5_limit_21 : decode cX5_limit 21 = .ok (.ifCond .ne 5, 3) := by decide +kernel
theorem dX5_limit_24 : decode cX5_limit 24 = .ok (.iconst (-1), 1) := by decide +kernel
theorem dX5_limit_25 : decode cX5_limit 25 = .ok (.ireturn, 1) := by decide +kernel
theorem dX5_limit_26 : decode cX5_limit 26 = .ok (.iconst 0, 1) := by decide +kernel
theorem dX5_limit_27 : decode cX5_limit 27 = .ok (.istore_n 2, 1) := by decide +kernel
theorem dX5_limit_28 : decode cX5_limit 28 = .ok (.iload_n 1, 1) := by decide +kernel
theorem dX5_limit_29 : decode cX5_limit 29 = .ok (.ifCond .ne 31, 3) := by decide +kernel
theorem dX5_limit_32 : decode cX5_limit 32 = .ok (.iload_n 2, 1) := by decide +kernel
theorem dX5_limit_33 : decode cX5_limit 33 = .ok (.sipush 9999, 3) := by decide +kernel
theorem dX5_limit_36 : decode cX5_limit 36 = .ok (.if_icmp .ge 22, 3) := by decide +kernel
theorem dX5_limit_39 : decode cX5_limit 39 = .ok (.aload_n 0, 1) := by decide +kernel
theorem dX5_limit_40 : decode cX5_limit 40 = .ok (.bipush 64, 2) := by decide +kernel
theorem dX5_limit_42 : decode cX5_limit 42 = .ok (.iload_n 2, 1) := by decide +kernel
theorem dX5_limit_43 : decode cX5_limit 43 = .ok (.iconst 1, 1) := by decide +kernel
theorem dX5_limit_44 : decode cX5_limit 44 = .ok (.iadd, 1) := by decide +kernel
theorem dX5_limit_45 : decode cX5_limit 45 = .ok (.iconst 0, 1) := by decide +kernel
theorem dX5_limit_46 : decode cX5_limit 46 = .ok (.invokevirtual 218, 3) := by decide +kernel
theorem dX5_limit_49 : decode cX5_limit 49 = .ok (.ifCond .eq 9, 3) := by decide +kernel
theorem dX5_limit_52 : decode cX5_limit 52 = .ok (.iinc 2 1, 3) := by decide +kernel
theorem dX5_limit_55 : decode cX5_limit 55 = .ok (.goto (-23), 3) := by decide +kernel
theorem dX5_limit_58 : decode cX5_limit 58 = .ok (.iload_n 2, 1) := by decide +kernel
theorem dX5_limit_59 : decode cX5_limit 59 = .ok (.ireturn, 1) := by decide +kernel
theorem dX5_limit_60 : decode cX5_limit 60 = .ok (.iload_n 1, 1) := by decide +kernel
theorem dX5_limit_61 : decode cX5_limit 61 = .ok (.iconst 1, 1) := by decide +kernel
theorem dX5_limit_62 : decode cX5_limit 62 = .ok (.if_icmp .ne 43, 3) := by decide +kernel
theorem dX5_limit_65 : decode cX5_limit 65 = .ok (.bipush 10, 2) := by decide +kernel
theorem dX5_limit_67 : decode cX5_limit 67 = .ok (.istore_n 2, 1) := by decide +kernel
theorem dX5_limit_68 : decode cX5_limit 68 = .ok (.iload_n 2, 1) := by decide +kernel
theorem dX5_limit_69 : decode cX5_limit 69 = .ok (.sipush 9999, 3) := by decide +kernel
theorem dX5_limit_72 : decode cX5_limit 72 = .ok (.if_icmp .gt 20, 3) := by decide +kernel
theorem dX5_limit_75 : decode cX5_limit 75 = .ok (.aload_n 0, 1) := by decide +kernel
theorem dX5_limit_76 : decode cX5_limit 76 = .ok (.bipush 63, 2) := by decide +kernel
theorem dX5_limit_78 : decode cX5_limit 78 = .ok (.iload_n 2, 1) := by decide +kernel
theorem dX5_limit_79 : decode cX5_limit 79 = .ok (.iconst 2, 1) := by decide +kernel
theorem dX5_limit_80 : decode cX5_limit 80 = .ok (.invokevirtual 218, 3) := by decide +kernel
theorem dX5_limit_83 : decode cX5_limit 83 = .ok (.ifCond .ne 9, 3) := by decide +kernel
theorem dX5_limit_86 : decode cX5_limit 86 = .ok (.iinc 2 1, 3) := by decide +kernel
theorem dX5_limit_89 : decode cX5_limit 89 = .ok (.goto (-21), 3) := by decide +kernel
theorem dX5_limit_92 : decode cX5_limit 92 = .ok (.iload_n 2, 1) := by decide +kernel
theorem dX5_limit_93 : decode cX5_limit 93 = .ok (.sipush 9999, 3) := by decide +kernel
theorem dX5_limit_96 : decode cX5_limit 96 = .ok (.if_icmp .le 7, 3) := by decide +kernel
theorem dX5_limit_99 : decode cX5_limit 99 = .ok (.iconst (-1), 1) := by decide +kernel
theorem dX5_limit_100 : decode cX5_limit 100 = .ok (.goto 4, 3) := by decide +kernel
theorem dX5_limit_103 : decode cX5_limit 103 = .ok (.iload_n 2, 1) := by decide +kernel
theorem dX5_limit_104 : decode cX5_limit 104 = .ok (.ireturn, 1) := by decide +kernel
theorem dX5_limit_105 : decode cX5_limit 105 = .ok (.sipush 9999, 3) := by decide +kernel
theorem dX5_limit_108 : decode cX5_limit 108 = .ok (.istore_n 2, 1) := by decide +kernel
theorem dX5_limit_109 : decode cX5_limit 109 = .ok (.iload_n 2, 1) := by decide +kernel
theorem dX5_limit_110 : decode cX5_limit 110 = .ok (.ifCond .lt 20, 3) := by decide +kernel
theorem dX5_limit_113 : decode cX5_limit 113 = .ok (.aload_n 0, 1) := by decide +kernel
theorem dX5_limit_114 : decode cX5_limit 114 = .ok (.bipush 68, 2) := by decide +kernel
theorem dX5_limit_116 : decode cX5_limit 116 = .ok (.iload_n 2, 1) := by decide +kernel
theorem dX5_limit_117 : decode cX5_limit 117 = .ok (.iconst 3, 1) := by decide +kernel
theorem dX5_limit_118 : decode cX5_limit 118 = .ok (.invokevirtual 218, 3) := by decide +kernel
theorem dX5_limit_121 : decode cX5_limit 121 = .ok (.ifCond .ne 9, 3) := by decide +kernel
theorem dX5_limit_124 : decode cX5_limit 124 = .ok (.iinc 2 (-1), 3) := by decide +kernel
theorem dX5_limit_127 : decode cX5_limit 127 = .ok (.goto (-18), 3) := by decide +kernel
theorem dX5_limit_130 : decode cX5_limit 130 = .ok (.iload_n 2, 1) := by decide +kernel
theorem dX5_limit_131 : decode cX5_limit 131 = .ok (.ireturn, 1) := by decide +kernel
theorem dX5_count_0 : decode cX5_count 0 = .ok (.aload_n 0, 1) := by decide +kernel
theorem dX5_count_1 : decode cX5_count 1 = .ok (.iconst 0, 1) := by decide +kernel
theorem dX5_count_2 : decode cX5_count 2 = .ok (.putfield 1, 3) := by decide +kernel
theorem dX5_count_5 : decode cX5_count 5 = .ok (.iload_n 1, 1) := by decide +kernel
theorem dX5_count_6 : decode cX5_count 6 = .ok (.tableswitch 221 0 15 #[78, 83, 91, 99, 107, 115, 123, 131, 139, 147, 155, 163, 171, 184, 204, 209], 78) := by decide +kernel
theorem dX5_count_84 : decode cX5_count 84 = .ok (.aload_n 0, 1) := by decide +kernel
theorem dX5_count_85 : decode cX5_count 85 = .ok (.getfield 13, 3) := by decide +kernel
theorem dX5_count_88 : decode cX5_count 88 = .ok (.ireturn, 1) := by decide +kernel
theorem dX5_count_89 : decode cX5_count 89 = .ok (.aload_n 0, 1) := by decide +kernel
theorem dX5_count_90 : decode cX5_count 90 = .ok (.getfield 16, 3) := by decide +kernel
theorem dX5_count_93 : decode cX5_count 93 = .ok (.bipush 60, 2) := by decide +kernel
theorem dX5_count_95 : decode cX5_count 95 = .ok (.iaload, 1) := by decide +kernel
theorem dX5_count_96 : decode cX5_count 96 = .ok (.ireturn, 1) := by decide +kernel
theorem dX5_count_97 : decode cX5_count 97 = .ok (.aload_n 0, 1) := by decide +kernel
theorem dX5_count_98 : decode cX5_count 98 = .ok (.getfield 16, 3) := by decide +kernel
theorem dX5_count_101 : decode cX5_count 101 = .ok (.bipush 62, 2) := by decide +kernel
theorem dX5_count_103 : decode cX5_count 103 = .ok (.iaload, 1) := by decide +kernel
theorem dX5_count_104 : decode cX5_count 104 = .ok (.ireturn, 1) := by decide +kernel
theorem dX5_count_105 : decode cX5_count 105 = .ok (.aload_n 0, 1) := by decide +kernel
theorem dX5_count_106 : decode cX5_count 106 = .ok (.getfield 16, 3) := by decide +kernel
theorem dX5_count_109 : decode cX5_count 109 = .ok (.bipush 63, 2) := by decide +kernel
theorem dX5_count_111 : decode cX5_count 111 = .ok (.iaload, 1) := by decide +kernel
theorem dX5_count_112 : decode cX5_count 112 = .ok (.ireturn, 1) := by decide +kernel
theorem dX5_count_113 : decode cX5_count 113 = .ok (.aload_n 0, 1) := by decide +kernel
theorem dX5_count_114 : decode cX5_count 114 = .ok (.getfield 16, 3) := by decide +kernel
theorem dX5_count_117 : decode cX5_count 117 = .ok (.bipush 64, 2) := by decide +kernel
theorem dX5_count_119 : decode cX5_count 119 = .ok (.iaload, 1) := by decide +kernel
theorem dX5_count_120 : decode cX5_count 120 = .ok (.ireturn, 1) := by decide +kernel
theorem dX5_count_121 : decode cX5_count 121 = .ok (.aload_n 0, 1) := by decide +kernel
theorem dX5_count_122 : decode cX5_count 122 = .ok (.getfield 16, 3) := by decide +kernel
theorem dX5_count_125 : decode cX5_count 125 = .ok (.bipush 65, 2) := by decide +kernel
theorem dX5_count_127 : decode cX5_count 127 = .ok (.iaload, 1) := by decide +kernel
theorem dX5_count_128 : decode cX5_count 128 = .ok (.ireturn, 1) := by decide +kernel
theorem dX5_count_129 : decode cX5_count 129 = .ok (.aload_n 0, 1) := by decide +kernel
theorem dX5_count_130 : decode cX5_count 130 = .ok (.getfield 16, 3) := by decide +kernel
theorem dX5_count_133 : decode cX5_count 133 = .ok (.bipush 66, 2) := by decide +kernel
theorem dX5_count_135 : decode cX5_count 135 = .ok (.iaload, 1) := by decide +kernel
theorem dX5_count_136 : decode cX5_count 136 = .ok (.ireturn, 1) := by decide +kernel
theorem dX5_count_137 : decode cX5_count 137 = .ok (.aload_n 0, 1) := by decide +kernel
theorem dX5_count_138 : decode cX5_count 138 = .ok (.getfield 16, 3) := by decide +kernel
theorem dX5_count_141 : decode cX5_count 141 = .ok (.bipush 67, 2) := by decide +kernel
theorem dX5_count_143 : decode cX5_count 143 = .ok (.iaload, 1) := by decide +kernel
theorem dX5_count_144 : decode cX5_count 144 = .ok (.ireturn, 1) := by decide +kernel
theorem dX5_count_145 : decode cX5_count 145 = .ok (.aload_n 0, 1) := by decide +kernel
theorem dX5_count_146 : decode cX5_count 146 = .ok (.getfield 16, 3) := by decide +kernel
theorem dX5_count_149 : decode cX5_count 149 = .ok (.bipush 68, 2) := by decide +kernel
theorem dX5_count_151 : decode cX5_count 151 = .ok (.iaload, 1) := by decide +kernel
theorem dX5_count_152 : decode cX5_count 152 = .ok (.ireturn, 1) := by decide +kernel
theorem dX5_count_153 : decode cX5_count 153 = .ok (.aload_n 0, 1) := by decide +kernel
theorem dX5_count_154 : decode cX5_count 154 = .ok (.getfield 16, 3) := by decide +kernel
theorem dX5_count_157 : decode cX5_count 157 = .ok (.bipush 69, 2) := by decide +kernel
theorem dX5_count_159 : decode cX5_count 159 = .ok (.iaload, 1) := by decide +kernel
theorem dX5_count_160 : decode cX5_count 160 = .ok (.ireturn, 1) := by decide +kernel
theorem dX5_count_161 : decode cX5_count 161 = .ok (.aload_n 0, 1) := by decide +kernel
theorem dX5_count_162 : decode cX5_count 162 = .ok (.getfield 16, 3) := by decide +kernel
theorem dX5_count_165 : decode cX5_count 165 = .ok (.bipush 70, 2) := by decide +kernel
theorem dX5_count_167 : decode cX5_count 167 = .ok (.iaload, 1) := by decide +kernel
theorem dX5_count_168 : decode cX5_count 168 = .ok (.ireturn, 1) := by decide +kernel
theorem dX5_count_169 : decode cX5_count 169 = .ok (.aload_n 0, 1) := by decide +kernel
theorem dX5_count_170 : decode cX5_count 170 = .ok (.getfield 16, 3) := by decide +kernel
theorem dX5_count_173 : decode cX5_count 173 = .ok (.bipush 61, 2) := by decide +kernel
theorem dX5_count_175 : decode cX5_count 175 = .ok (.iaload, 1) := by decide +kernel
theorem dX5_count_176 : decode cX5_count 176 = .ok (.ireturn, 1) := by decide +kernel
theorem dX5_count_177 : decode cX5_count 177 = .ok (.aload_n 0, 1) := by decide +kernel
theorem dX5_count_178 : decode cX5_count 178 = .ok (.invokevirtual 114, 3) := by decide +kernel
theorem dX5_count_181 : decode cX5_count 181 = .ok (.ifCond .eq 7, 3) := by decide +kernel
theorem dX5_count_184 : decode cX5_count 184 = .ok (.iconst 1, 1) := by decide +kernel
theorem dX5_count_185 : decode cX5_count 185 = .ok (.goto 4, 3) := by decide +kernel
theorem dX5_count_188 : decode cX5_count 188 = .ok (.iconst 0, 1) := by decide +kernel
theorem dX5_count_189 : decode cX5_count 189 = .ok (.ireturn, 1) := by decide +kernel
theorem dX5_count_190 : decode cX5_count 190 = .ok (.aload_n 0, 1) := by decide +kernel
theorem dX5_count_191 : decode cX5_count 191 = .ok (.invokevirtual 128, 3) := by decide +kernel
theorem dX5_count_194 : decode cX5_count 194 = .ok (.ifCond .eq 14, 3) := by decide +kernel
theorem dX5_count_197 : decode cX5_count 197 = .ok (.aload_n 0, 1) := by decide +kernel
theorem dX5_count_198 : decode cX5_count 198 = .ok (.invokevirtual 193, 3) := by decide +kernel
theorem dX5_count_201 : decode cX5_count 201 = .ok (.ifCond .eq 7, 3) := by decide +kernel
theorem dX5_count_204 : decode cX5_count 204 = .ok (.iconst 1, 1) := by decide +kernel
theorem dX5_count_205 : decode cX5_count 205 = .ok (.goto 4, 3) := by decide +kernel
theorem dX5_count_208 : decode cX5_count 208 = .ok (.iconst 0, 1) := by decide +kernel
theorem dX5_count_209 : decode cX5_count 209 = .ok (.ireturn, 1) := by decide +kernel
theorem dX5_count_210 : decode cX5_count 210 = .ok (.aload_n 0, 1) := by decide +kernel
theorem dX5_count_211 : decode cX5_count 211 = .ok (.getfield 32, 3) := by decide +kernel
theorem dX5_count_214 : decode cX5_count 214 = .ok (.ireturn, 1) := by decide +kernel
theorem dX5_count_215 : decode cX5_count 215 = .ok (.aload_n 0, 1) := by decide +kernel
theorem dX5_count_216 : decode cX5_count 216 = .ok (.aload_n 0, 1) := by decide +kernel
theorem dX5_count_217 : decode cX5_count 217 = .ok (.getfield 16, 3) := by decide +kernel
theorem dX5_count_220 : decode cX5_count 220 = .ok (.bipush 60, 2) := by decide +kernel
theorem dX5_count_222 : decode cX5_count 222 = .ok (.iaload, 1) := by decide +kernel
theorem dX5_count_223 : decode cX5_count 223 = .ok (.invokevirtual 78, 3) := by decide +kernel
theorem dX5_count_226 : decode cX5_count 226 = .ok (.ireturn, 1) := by decide +kernel
theorem dX5_count_227 : decode cX5_count 227 = .ok (.iconst (-1), 1) := by decide +kernel
theorem dX5_count_228 : decode cX5_count 228 = .ok (.ireturn, 1) := by decide +kernel
