theorem dX10_term0_8 : decode cX10_term0 8 = .ok (.invokevirtual 221, 3) := by decide +kernel
theorem dX10_term0_11 : decode cX10_term0 11 = .ok (.ifCond .eq 17, 3) := by decide +kernel
theorem dX10_term0_14 : decode cX10_term0 14 = .ok (.aload_n 0, 1) := by decide +kernel
theorem dX10_term0_15 : decode cX10_term0 15 = .ok (.invokevirtual 196, 3) := by decide +kernel
theorem dX10_term0_18 : decode cX10_term0 18 = .ok (.iload_n 1, 1) := by decide +kernel
theorem dX10_term0_19 : decode cX10_term0 19 = .ok (.aload_n 0, 1) := by decide +kernel
theorem dX10_term0_20 : decode cX10_term0 20 = .ok (.invokevirtual 326, 3) := by decide +kernel
theorem dX10_term0_23 : decode cX10_term0 23 = .ok (.imul, 1) := by decide +kernel
theorem dX10_term0_24 : decode cX10_term0 24 = .ok (.istore_n 1, 1) := by decide +kernel
theorem dX10_term0_25 : decode cX10_term0 25 = .ok (.goto (-20), 3) := by decide +kernel
theorem dX10_term0_28 : decode cX10_term0 28 = .ok (.iload_n 1, 1) := by decide +kernel
theorem dX10_term0_29 : decode cX10_term0 29 = .ok (.ireturn, 1) := by decide +kernel
theorem dX10_added0_0 : decode cX10_added0 0 = .ok (.aload_n 0, 1) := by decide +kernel
theorem dX10_added0_1 : decode cX10_added0 1 = .ok (.invokevirtual 329, 3) := by decide +kernel
theorem dX10_added0_4 : decode cX10_added0 4 = .ok (.istore_n 1, 1) := by decide +kernel
theorem dX10_added0_5 : decode cX10_added0 5 = .ok (.aload_n 0, 1) := by decide +kernel
theorem dX10_added0_6 : decode cX10_added0 6 = .ok (.bipush 43, 2) := by decide +kernel
theorem dX10_added0_8 : decode cX10_added0 8 = .ok (.invokevirtual 221, 3) := by decide +kernel
theorem dX10_added0_11 : decode cX10_added0 11 = .ok (.ifCond .ne 12, 3) := by decide +kernel
theorem dX10_added0_14 : decode cX10_added0 14 = .ok (.aload_n 0, 1) := by decide +kernel
theorem dX10_added0_15 : decode cX10_added0 15 = .ok (.bipush 45, 2) := by decide +kernel
theorem dX10_added0_17 : decode cX10_added0 17 = .ok (.invokevirtual 221, 3) := by decide +kernel
theorem dX10_added0_20 : decode cX10_added0 20 = .ok (.ifCond .eq 46, 3) := by decide +kernel
theorem dX10_added0_23 : decode cX10_added0 23 = .ok (.aload_n 0, 1) := by decide +kernel
theorem dX10_added0_24 : decode cX10_added0 24 = .ok (.getfield 176, 3) := by decide +kernel
theorem dX10_added0_27 : decode cX10_added0 27 = .ok (.ldc2_w 238, 3) := by decide +kernel
theorem dX10_added0_30 : decode cX10_added0 30 = .ok (.lcmp, 1) := by decide +kernel
theorem dX10_added0_31 : decode cX10_added0 31 = .ok (.ifCond .ne 7, 3) := by decide +kernel
theorem dX10_added0_34 : decode cX10_added0 34 = .ok (.iconst 1, 1) := by decide +kernel
theorem dX10_added0_35 : decode cX10_added0 35 = .ok (.goto 4, 3) := by decide +kernel
theorem dX10_added0_38 : decode cX10_added0 38 = .ok (.iconst 0, 1) := by decide +kernel
theorem dX10_added0_39 : decode cX10_added0 39 = .ok (.istore_n 2, 1) := by decide +kernel
theorem dX10_added0_40 : decode cX10_added0 40 = .ok (.aload_n 0, 1) := by decide +kernel
theorem dX10_added0_41 : decode cX10_added0 41 = .ok (.invokevirtual 196, 3) := by decide +kernel
theorem dX10_added0_44 : decode cX10_added0 44 = .ok (.aload_n 0, 1) := by decide +kernel
theorem dX10_added0_45 : decode cX10_added0 45 = .ok (.invokevirtual 329, 3) := by decide +kernel
theorem dX10_added0_48 : decode cX10_added0 48 = .ok (.istore_n 3, 1) := by decide +kernel
theorem dX10_added0_49 : decode cX10_added0 49 = .ok (.iload_n 2, 1) := by decide +kernel
theorem dX10_added0_50 : decode cX10_added0 50 = .ok (.ifCond .eq 9, 3) := by decide +kernel
theorem dX10_added0_53 : decode cX10_added0 53 = .ok (.iload_n 1, 1) := by decide +kernel
theorem dX10_added0_54 : decode cX10_added0 54 = .ok (.iload_n 3, 1) := by decide +kernel
theorem dX10_added0_55 : decode cX10_added0 55 = .ok (.iadd, 1) := by decide +kernel
theorem dX10_added0_56 : decode cX10_added0 56 = .ok (.goto 6, 3) := by decide +kernel
theorem dX10_added0_59 : decode cX10_added0 59 = .ok (.iload_n 1, 1) := by decide +kernel
theorem dX10_added0_60 : decode cX10_added0 60 = .ok (.iload_n 3, 1) := by decide +kernel
theorem dX10_added0_61 : decode cX10_added0 61 = .ok (.isub, 1) := by decide +kernel
theorem dX10_added0_62 : decode cX10_added0 62 = .ok (.istore_n 1, 1) := by decide +kernel
theorem dX10_added0_63 : decode cX10_added0 63 = .ok (.goto (-58), 3) := by decide +kernel
theorem dX10_added0_66 : decode cX10_added0 66 = .ok (.iload_n 1, 1) := by decide +kernel
theorem dX10_added0_67 : decode cX10_added0 67 = .ok (.ireturn, 1) := by decide +kernel
theorem dX10_not0_0 : decode cX10_not0 0 = .ok (.aload_n 0, 1) := by decide +kernel
theorem dX10_not0_1 : decode cX10_not0 1 = .ok (.bipush 110, 2) := by decide +kernel
theorem dX10_not0_3 : decode cX10_not0 3 = .ok (.bipush 111, 2) := by decide +kernel
theorem dX10_not0_5 : decode cX10_not0 5 = .ok (.bipush 116, 2) := by decide +kernel
theorem dX10_not0_7 : decode cX10_not0 7 = .ok (.iconst 0, 1) := by decide +kernel
theorem dX10_not0_8 : decode cX10_not0 8 = .ok (.iconst 0, 1) := by decide +kernel
theorem dX10_not0_9 : decode cX10_not0 9 = .ok (.iconst 0, 1) := by decide +kernel
theorem dX10_not0_10 : decode cX10_not0 10 = .ok (.iconst 0, 1) := by decide +kernel
theorem dX10_not0_11 : decode cX10_not0 11 = .ok (.iconst 0, 1) := by decide +kernel
theorem dX10_not0_12 : decode cX10_not0 12 = .ok (.invokevirtual 199, 3) := by decide +kernel
theorem dX10_not0_15 : decode cX10_not0 15 = .ok (.ifCond .eq 37, 3) := by decide +kernel
theorem dX10_not0_18 : decode cX10_not0 18 = .ok (.aload_n 0, 1) := by decide +kernel
theorem dX10_not0_19 : decode cX10_not0 19 = .ok (.invokevirtual 224, 3) := by decide +kernel
theorem dX10_not0_22 : decode cX10_not0 22 = .ok (.ifCond .ne 5, 3) := by decide +kernel
theorem dX10_not0_25 : decode cX10_not0 25 = .ok (.iconst 0, 1) := by decide +kernel
theorem dX10_not0_26 : decode cX10_not0 26 = .ok (.ireturn, 1) := by decide +kernel
theorem dX10_not0_27 : decode cX10_not0 27 = .ok (.aload_n 0, 1) := by decide +kernel
theorem dX10_not0_28 : decode cX10_not0 28 = .ok (.invokevirtual 317, 3) := by decide +kernel
theorem dX10_not0_31 : decode cX10_not0 31 = .ok (.istore_n 1, 1) := by decide +kernel
theorem dX10_not0_32 : decode cX10_not0 32 = .ok (.aload_n 0, 1) := by decide +kernel
theorem dX10_not0_33 : decode cX10_not0 33 = .ok (.dup, 1) := by decide +kernel
theorem dX10_not0_34 : decode cX10_not0 34 = .ok (.getfield 190, 3) := by decide +kernel
theorem dX10_not0_37 : decode cX10_not0 37 = .ok (.iconst 1, 1) := by decide +kernel
theorem dX10_not0_38 : decode cX10_not0 38 = .ok (.isub, 1) := by decide +kernel
theorem dX10_not0_39 : decode cX10_not0 39 = .ok (.putfield 190, 3) := by decide +kernel
theorem dX10_not0_42 : decode cX10_not0 42 = .ok (.iload_n 1, 1) := by decide +kernel
theorem dX10_not0_43 : decode cX10_not0 43 = .ok (.ifCond .ne 7, 3) := by decide +kernel
theorem dX10_not0_46 : decode cX10_not0 46 = .ok (.iconst 1, 1) := by decide +kernel
theorem dX10_not0_47 : decode cX10_not0 47 = .ok (.goto 4, 3) := by decide +kernel
theorem dX10_not0_50 : decode cX10_not0 50 = .ok (.iconst 0, 1) := by decide +kernel
theorem dX10_not0_51 : decode cX10_not0 51 = .ok (.ireturn, 1) := by decide +kernel
theorem dX10_not0_52 : decode cX10_not0 52 = .ok (.aload_n 0, 1) := by decide +kernel
theorem dX10_not0_53 : decode cX10_not0 53 = .ok (.invokevirtual 332, 3) := by decide +kernel
theorem dX10_not0_56 : decode cX10_not0 56 = .ok (.istore_n 1, 1) := by decide +kernel
theorem dX10_not0_57 : decode cX10_not0 57 = .ok (.aload_n 0, 1) := by decide +kernel
theorem dX10_not0_58 : decode cX10_not0 58 = .ok (.bipush 60, 2) := by decide +kernel
theorem dX10_not0_60 : decode cX10_not0 60 = .ok (.invokevirtual 221, 3) := by decide +kernel
theorem dX10_not0_63 : decode cX10_not0 63 = .ok (.ifCond .ne 14, 3) := by decide +kernel
theorem dX10_not0_66 : decode cX10_not0 66 = .ok (.aload_n 0, 1) := by decide +kernel
theorem dX10_not0_67 : decode cX10_not0 67 = .ok (.bipush 61, 2) := by decide +kernel
theorem dX10_not0_69 : decode cX10_not0 69 = .ok (.invokevirtual 221, 3) := by decide +kernel
theorem dX10_not0_72 : decode cX10_not0 72 = .ok (.ifCond .ne 5, 3) := by decide +kernel
theorem dX10_not0_75 : decode cX10_not0 75 = .ok (.iload_n 1, 1) := by decide +kernel
theorem dX10_not0_76 : decode cX10_not0 76 = .ok (.ireturn, 1) := by decide +kernel
theorem dX10_not0_77 : decode cX10_not0 77 = .ok (.aload_n 0, 1) := by decide +kernel
theorem dX10_not0_78 : decode cX10_not0 78 = .ok (.getfield 176, 3) := by decide +kernel
theorem dX10_not0_81 : decode cX10_not0 81 = .ok (.ldc2_w 243, 3) := by decide +kernel
theorem dX10_not0_84 : decode cX10_not0 84 = .ok (.lcmp, 1) := by decide +kernel
theorem dX10_not0_85 : decode cX10_not0 85 = .ok (.ifCond .ne 7, 3) := by decide +kernel
theorem dX10_not0_88 : decode cX10_not0 88 = .ok (.iconst 1, 1) := by decide +kernel
theorem dX10_not0_89 : decode cX10_not0 89 = .ok (.goto 4, 3) := by decide +kernel
theorem dX10_not0_92 : decode cX10_not0 92 = .ok (.iconst 0, 1) := by decide +kernel
theorem dX10_not0_93 : decode cX10_not0 93 = .ok (.istore_n 2, 1) := by decide +kernel
theorem dX10_not0_94 : decode cX10_not0 94 = .ok (.aload_n 0, 1) := by decide +kernel
theorem dX10_not0_95 : decode cX10_not0 95 = .ok (.invokevirtual 196, 3) := by decide +kernel
theorem dX10_not0_98 : decode cX10_not0 98 = .ok (.aload_n 0, 1) := by decide +kernel
theorem dX10_not0_99 : decode cX10_not0 99 = .ok (.invokevirtual 332, 3) := by decide +kernel
theorem dX10_not0_102 : decode cX10_not0 102 = .ok (.istore_n 3, 1) := by decide +kernel
theorem dX10_not0_103 : decode cX10_not0 103 = .ok (.iload_n 2, 1) := by decide +kernel
theorem dX10_not0_104 : decode cX10_not0 104 = .ok (.ifCond .eq 11, 3) := by decide +kernel
theorem dX10_not0_107 : decode cX10_not0 107 = .ok (.iload_n 1, 1) := by decide +kernel
theorem dX10_not0_108 : decode cX10_not0 108 = .ok (.iload_n 3, 1) := by decide +kernel
theorem dX10_not0_109 : decode cX10_not0 109 = .ok (.if_icmp .ge 15, 3) := by decide +kernel
theorem dX10_not0_112 : decode cX10_not0 112 = .ok (.goto 8, 3) := by decide +kernel
theorem dX10_not0_115 : decode cX10_not0 115 = .ok (.iload_n 1, 1) := by decide +kernel
theorem dX10_not0_116 : decode cX10_not0 116 = .ok (.iload_n 3, 1) := by decide +kernel
theorem dX10_not0_117 : decode cX10_not0 117 = .ok (.if_icmp .ne 7, 3) := by decide +kernel
theorem dX10_not0_120 : decode cX10_not0 120 = .ok (.iconst 1, 1) := by decide +kernel
theorem dX10_not0_121 : decode cX10_not0 121 = .ok (.goto 4, 3) := by decide +kernel
theorem dX10_not0_124 : decode cX10_not0 124 = .ok (.iconst 0, 1) := by decide +kernel
theorem dX10_not0_125 : decode cX10_not0 125 = .ok (.ireturn, 1) := by decide +kernel
theorem dX10_both0_0 : decode cX10_both0 0 = .ok (.aload_n 0, 1) := by decide +kernel
theorem dX10_both0_1 : decode cX10_both0 1 = .ok (.invokevirtual 335, 3) := by decide +kernel
theorem dX10_both0_4 : decode cX10_both0 4 = .ok (.istore_n 1, 1) := by decide +kernel
theorem dX10_both0_5 : decode cX10_both0 5 = .ok (.aload_n 0, 1) := by decide +kernel
theorem dX10_both0_6 : decode cX10_both0 6 = .ok (.bipush 97, 2) := by decide +kernel
theorem dX10_both0_8 : decode cX10_both0 8 = .ok (.bipush 110, 2) := by decide +kernel
theorem dX10_both0_10 : decode cX10_both0 10 = .ok (.bipush 100, 2) := by decide +kernel
theorem dX10_both0_12 : decode cX10_both0 12 = .ok (.iconst 0, 1) := by decide +kernel
theorem dX10_both0_13 : decode cX10_both0 13 = .ok (.iconst 0, 1) := by decide +kernel
theorem dX10_both0_14 : decode cX10_both0 14 = .ok (.iconst 0, 1) := by decide +kernel
theorem dX10_both0_15 : decode cX10_both0 15 = .ok (.iconst 0, 1) := by decide +kernel
theorem dX10_both0_16 : decode cX10_both0 16 = .ok (.iconst 0, 1) := by decide +kernel
theorem dX10_both0_17 : decode cX10_both0 17 = .ok (.invokevirtual 199, 3) := by decide +kernel
theorem dX10_both0_20 : decode cX10_both0 20 = .ok (.ifCond .eq 29, 3) := by decide +kernel
theorem dX10_both0_23 : decode cX10_both0 23 = .ok (.aload_n 0, 1) := by decide +kernel
theorem dX10_both0_24 : decode cX10_both0 24 = .ok (.invokevirtual 196, 3) := by decide +kernel
theorem dX10_both0_27 : decode cX10_both0 27 = .ok (.aload_n 0, 1) := by decide +kernel
theorem dX10_both0_28 : decode cX10_both0 28 = .ok (.invokevirtual 335, 3) := by decide +kernel
theorem dX10_both0_31 : decode cX10_both0 31 = .ok (.istore_n 2, 1) := by decide +kernel
theorem dX10_both0_32 : decode cX10_both0 32 = .ok (.iload_n 1, 1) := by decide +kernel
theorem dX10_both0_33 : decode cX10_both0 33 = .ok (.ifCond .eq 11, 3) := by decide +kernel
theorem dX10_both0_36 : decode cX10_both0 36 = .ok (.iload_n 2, 1) := by decide +kernel
theorem dX10_both0_37 : decode cX10_both0 37 = .ok (.ifCond .eq 7, 3) := by decide +kernel
theorem dX10_both0_40 : decode cX10_both0 40 = .ok (.iconst 1, 1) := by decide +kernel
theorem dX10_both0_41 : decode cX10_both0 41 = .ok (.goto 4, 3) := by decide +kernel
theorem dX10_both0_44 : decode cX10_both0 44 = .ok (.iconst 0, 1) := by decide +kernel
theorem dX10_both0_45 : decode cX10_both0 45 = .ok (.istore_n 1, 1) := by decide +kernel
theorem dX10_both0_46 : decode cX10_both0 46 = .ok (.goto (-41), 3) := by decide +kernel
theorem dX10_both0_49 : decode cX10_both0 49 = .ok (.iload_n 1, 1) := by decide +kernel
theorem dX10_both0_50 : decode cX10_both0 50 = .ok (.ireturn, 1) := by decide +kernel
theorem dX10_either0_0 : decode cX10_either0 0 = .ok (.aload_n 0, 1) := by decide +kernel
theorem dX10_either0_1 : decode cX10_either0 1 = .ok (.invokevirtual 338, 3) := by decide +kernel
theorem dX10_either0_4 : decode cX10_either0 4 = .ok (.istore_n 1, 1) := by decide +kernel
theorem dX10_either0_5 : decode cX10_either0 5 = .ok (.aload_n 0, 1) := by decide +kernel
theorem dX10_either0_6 : decode cX10_either0 6 = .ok (.bipush 111, 2) := by decide +kernel
theorem dX10_either0_8 : decode cX10_either0 8 = .ok (.bipush 114, 2) := by decide +kernel
theorem dX10_either0_10 : decode cX10_either0 10 = .ok (.iconst 0, 1) := by decide +kernel
theorem dX10_either0_11 : decode cX10_either0 11 = .ok (.iconst 0, 1) := by decide +kernel
theorem dX10_either0_12 : decode cX10_either0 12 = .ok (.iconst 0, 1) := by decide +kernel
theorem dX10_either0_13 : decode cX10_either0 13 = .ok (.iconst 0, 1) := by decide +kernel
theorem dX10_either0_14 : decode cX10_either0 14 = .ok (.iconst 0, 1) := by decide +kernel
theorem dX10_either0_15 : decode cX10_either0 15 = .ok (.iconst 0, 1) := by decide +kernel
theorem dX10_either0_16 : decode cX10_either0 16 = .ok (.invokevirtual 199, 3) := by decide +kernel
theorem dX10_either0_19 : decode cX10_either0 19 = .ok (.ifCond .eq 29, 3) := by decide +kernel
theorem dX10_either0_22 : decode cX10_either0 22 = .ok (.aload_n 0, 1) := by decide +kernel
theorem dX10_either0_23 : decode cX10_either0 23 = .ok (.invokevirtual 196, 3) := by decide +kernel
theorem dX10_either0_26 : decode cX10_either0 26 = .ok (.aload_n 0, 1) := by decide +kernel
theorem dX10_either0_27 : decode cX10_either0 27 = .ok (.invokevirtual 338, 3) := by decide +kernel
theorem dX10_either0_30 : decode cX10_either0 30 = .ok (.istore_n 2, 1) := by decide +kernel
theorem dX10_either0_31 : decode cX10_either0 31 = .ok (.iload_n 1, 1) := by decide +kernel
theorem dX10_either0_32 : decode cX10_either0 32 = .ok (.ifCond .ne 7, 3) := by decide +kernel
theorem dX10_either0_35 : decode cX10_either0 35 = .ok (.iload_n 2, 1) := by decide +kernel
theorem dX10_either0_36 : decode cX10_either0 36 = .ok (.ifCond .eq 7, 3) := by decide +kernel
theorem dX10_either0_39 : decode cX10_either0 39 = .ok (.iconst 1, 1) := by decide +kernel
theorem dX10_either0_40 : decode cX10_either0 40 = .ok (.goto 4, 3) := by decide +kernel
theorem dX10_either0_43 : decode cX10_either0 43 = .ok (.iconst 0, 1) := by decide +kernel
theorem dX10_either0_44 : decode cX10_either0 44 = .ok (.istore_n 1, 1) := by decide +kernel
theorem dX10_either0_45 : decode cX10_either0 45 = .ok (.goto (-40), 3) := by decide +kernel
theorem dX10_either0_48 : decode cX10_either0 48 = .ok (.iload_n 1, 1) := by decide +kernel
theorem dX10_either0_49 : decode cX10_either0 49 = .ok (.ireturn, 1) := by decide +kernel
theorem dX10_part_0 : decode cX10_part 0 = .ok (.iload_n 1, 1) := by decide +kernel
theorem dX10_part_1 : decode cX10_part 1 = .ok (.ifCond .ne 7, 3) := by decide +kernel
theorem dX10_part_4 : decode cX10_part 4 = .ok (.aload_n 0, 1) := by decide +kernel
theorem dX10_part_5 : decode cX10_part 5 = .ok (.invokevirtual 193, 3) := by decide +kernel
theorem dX10_part_8 : decode cX10_part 8 = .ok (.aload_n 0, 1) := by decide +kernel
theorem dX10_part_9 : decode cX10_part 9 = .ok (.getfield 180, 3) := by decide +kernel
theorem dX10_part_12 : decode cX10_part 12 = .ok (.ifCond .ne 7, 3) := by decide +kernel
theorem dX10_part_15 : decode cX10_part 15 = .ok (.aload_n 0, 1) := by decide +kernel
theorem dX10_part_16 : decode cX10_part 16 = .ok (.invokevirtual 196, 3) := by decide +kernel
theorem dX10_part_19 : decode cX10_part 19 = .ok (.aload_n 0, 1) := by decide +kernel
theorem dX10_part_20 : decode cX10_part 20 = .ok (.getfield 180, 3) := by decide +kernel
theorem dX10_part_23 : decode cX10_part 23 = .ok (.ifCond .eq 7, 3) := by decide +kernel
theorem dX10_part_26 : decode cX10_part 26 = .ok (.iconst 0, 1) := by decide +kernel
theorem dX10_part_27 : decode cX10_part 27 = .ok (.goto 7, 3) := by decide +kernel
theorem dX10_part_30 : decode cX10_part 30 = .ok (.aload_n 0, 1) := by decide +kernel
theorem dX10_part_31 : decode cX10_part 31 = .ok (.invokevirtual 341, 3) := by decide +kernel
theorem dX10_part_34 : decode cX10_part 34 = .ok (.istore_n 2, 1) := by decide +kernel
theorem dX10_part_35 : decode cX10_part 35 = .ok (.aload_n 0, 1) := by decide +kernel
theorem dX10_part_36 : decode cX10_part 36 = .ok (.bipush 59, 2) := by decide +kernel
theorem dX10_part_38 : decode cX10_part 38 = .ok (.invokevirtual 221, 3) := by decide +kernel
theorem dX10_part_41 : decode cX10_part 41 = .ok (.ifCond .ne 7, 3) := by decide +kernel
theorem dX10_part_44 : decode cX10_part 44 = .ok (.aload_n 0, 1) := by decide +kernel
theorem dX10_part_45 : decode cX10_part 45 = .ok (.invokevirtual 193, 3) := by decide +kernel
theorem dX10_part_48 : decode cX10_part 48 = .ok (.aload_n 0, 1) := by decide +kernel
theorem dX10_part_49 : decode cX10_part 49 = .ok (.getfield 180, 3) := by decide +kernel
theorem dX10_part_52 : decode cX10_part 52 = .ok (.ifCond .ne 7, 3) := by decide +kernel
theorem dX10_part_55 : decode cX10_part 55 = .ok (.aload_n 0, 1) := by decide +kernel
theorem dX10_part_56 : decode cX10_part 56 = .ok (.invokevirtual 196, 3) := by decide +kernel
theorem dX10_part_59 : decode cX10_part 59 = .ok (.iload_n 2, 1) := by decide +kernel
theorem dX10_part_60 : decode cX10_part 60 = .ok (.ireturn, 1) := by decide +kernel
theorem dX10_read_0 : decode cX10_read 0 = .ok (.aload_n 0, 1) := by decide +kernel
theorem dX10_read_1 : decode cX10_read 1 = .ok (.sipush 160, 3) := by decide +kernel
theorem dX10_read_4 : decode cX10_read 4 = .ok (.iload_n 1, 1) := by decide +kernel
theorem dX10_read_5 : decode cX10_read 5 = .ok (.imul, 1) := by decide +kernel
theorem dX10_read_6 : decode cX10_read 6 = .ok (.putfield 153, 3) := by decide +kernel
theorem dX10_read_9 : decode cX10_read 9 = .ok (.aload_n 0, 1) := by decide +kernel
theorem dX10_read_10 : decode cX10_read 10 = .ok (.aload_n 0, 1) := by decide +kernel
theorem dX10_read_11 : decode cX10_read 11 = .ok (.getfield 17, 3) := by decide +kernel
theorem dX10_read_14 : decode cX10_read 14 = .ok (.iload_n 1, 1) := by decide +kernel
theorem dX10_read_15 : decode cX10_read 15 = .ok (.iaload, 1) := by decide +kernel
theorem dX10_read_16 : decode cX10_read 16 = .ok (.putfield 150, 3) := by decide +kernel
theorem dX10_read_19 : decode cX10_read 19 = .ok (.aload_n 0, 1) := by decide +kernel
theorem dX10_read_20 : decode cX10_read 20 = .ok (.iconst 0, 1) := by decide +kernel
theorem dX10_read_21 : decode cX10_read 21 = .ok (.putfield 156, 3) := by decide +kernel
theorem dX10_read_24 : decode cX10_read 24 = .ok (.aload_n 0, 1) := by decide +kernel
theorem dX10_read_25 : decode cX10_read 25 = .ok (.iconst 0, 1) := by decide +kernel
theorem dX10_read_26 : decode cX10_read 26 = .ok (.putfield 190, 3) := by decide +kernel
theorem dX10_read_29 : decode cX10_read 29 = .ok (.aload_n 0, 1) := by decide +kernel
theorem dX10_read_30 : decode cX10_read 30 = .ok (.iconst 0, 1) := by decide +kernel
theorem dX10_read_31 : decode cX10_read 31 = .ok (.putfield 180, 3) := by decide +kernel
theorem dX10_read_34 : decode cX10_read 34 = .ok (.aload_n 0, 1) := by decide +kernel
theorem dX10_read_35 : decode cX10_read 35 = .ok (.invokevirtual 196, 3) := by decide +kernel
theorem dX10_read_38 : decode cX10_read 38 = .ok (.aload_n 0, 1) := by decide +kernel
theorem dX10_read_39 : decode cX10_read 39 = .ok (.aload_n 0, 1) := by decide +kernel
theorem dX10_read_40 : decode cX10_read 40 = .ok (.bipush 116, 2) := by decide +kernel
theorem dX10_read_42 : decode cX10_read 42 = .ok (.bipush 97, 2) := by decide +kernel
theorem dX10_read_44 : decode cX10_read 44 = .ok (.bipush 107, 2) := by decide +kernel
theorem dX10_read_46 : decode cX10_read 46 = .ok (.bipush 101, 2) := by decide +kernel
theorem dX10_read_48 : decode cX10_read 48 = .ok (.bipush 115, 2) := by decide +kernel
theorem dX10_read_50 : decode cX10_read 50 = .ok (.iconst 0, 1) := by decide +kernel
theorem dX10_read_51 : decode cX10_read 51 = .ok (.iconst 0, 1) := by decide +kernel
theorem dX10_read_52 : decode cX10_read 52 = .ok (.iconst 0, 1) := by decide +kernel
theorem dX10_read_53 : decode cX10_read 53 = .ok (.invokevirtual 199, 3) := by decide +kernel
theorem dX10_read_56 : decode cX10_read 56 = .ok (.invokevirtual 344, 3) := by decide +kernel
theorem dX10_read_59 : decode cX10_read 59 = .ok (.istore_n 3, 1) := by decide +kernel
theorem dX10_read_60 : decode cX10_read 60 = .ok (.aload_n 0, 1) := by decide +kernel
theorem dX10_read_61 : decode cX10_read 61 = .ok (.getfield 180, 3) := by decide +kernel
theorem dX10_read_64 : decode cX10_read 64 = .ok (.ifCond .eq 7, 3) := by decide +kernel
theorem dX10_read_67 : decode cX10_read 67 = .ok (.iconst 0, 1) := by decide +kernel
theorem dX10_read_68 : decode cX10_read 68 = .ok (.goto 24, 3) := by decide +kernel
theorem dX10_read_71 : decode cX10_read 71 = .ok (.aload_n 0, 1) := by decide +kernel
theorem dX10_read_72 : decode cX10_read 72 = .ok (.aload_n 0, 1) := by decide +kernel
theorem dX10_read_73 : decode cX10_read 73 = .ok (.bipush 119, 2) := by decide +kernel
theorem dX10_read_75 : decode cX10_read 75 = .ok (.bipush 111, 2) := by decide +kernel
theorem dX10_read_77 : decode cX10_read 77 = .ok (.bipush 114, 2) := by decide +kernel
theorem dX10_read_79 : decode cX10_read 79 = .ok (.bipush 116, 2) := by decide +kernel
theorem dX10_read_81 : decode cX10_read 81 = .ok (.bipush 104, 2) := by decide +kernel
theorem dX10_read_83 : decode cX10_read 83 = .ok (.iconst 0, 1) := by decide +kernel
theorem dX10_read_84 : decode cX10_read 84 = .ok (.iconst 0, 1) := by decide +kernel
theorem dX10_read_85 : decode cX10_read 85 = .ok (.iconst 0, 1) := by decide +kernel
theorem dX10_read_86 : decode cX10_read 86 = .ok (.invokevirtual 199, 3) := by decide +kernel
theorem dX10_read_89 : decode cX10_read 89 = .ok (.invokevirtual 344, 3) := by decide +kernel
theorem dX10_read_92 : decode cX10_read 92 = .ok (.istore 4, 2) := by decide +kernel
theorem dX10_read_94 : decode cX10_read 94 = .ok (.aload_n 0, 1) := by decide +kernel
theorem dX10_read_95 : decode cX10_read 95 = .ok (.getfield 180, 3) := by decide +kernel
theorem dX10_read_98 : decode cX10_read 98 = .ok (.ifCond .eq 7, 3) := by decide +kernel
theorem dX10_read_101 : decode cX10_read 101 = .ok (.iconst 0, 1) := by decide +kernel
theorem dX10_read_102 : decode cX10_read 102 = .ok (.goto 24, 3) := by decide +kernel
theorem dX10_read_105 : decode cX10_read 105 = .ok (.aload_n 0, 1) := by decide +kernel
theorem dX10_read_106 : decode cX10_read 106 = .ok (.aload_n 0, 1) := by decide +kernel
theorem dX10_read_107 : decode cX10_read 107 = .ok (.bipush 116, 2) := by decide +kernel
theorem dX10_read_109 : decode cX10_read 109 = .ok (.bipush 105, 2) := by decide +kernel
theorem dX10_read_111 : decode cX10_read 111 = .ok (.bipush 109, 2) := by decide +kernel
theorem dX10_read_113 : decode cX10_read 113 = .ok (.bipush 101, 2) := by decide +kernel
theorem dX10_read_115 : decode cX10_read 115 = .ok (.bipush 115, 2) := by decide +kernel
theorem dX10_read_117 : decode cX10_read 117 = .ok (.iconst 0, 1) := by decide +kernel
theorem dX10_read_118 : decode cX10_read 118 = .ok (.iconst 0, 1) := by decide +kernel
theorem dX10_read_119 : decode cX10_read 119 = .ok (.iconst 0, 1) := by decide +kernel
theorem dX10_read_120 : decode cX10_read 120 = .ok (.invokevirtual 199, 3) := by decide +kernel
theorem dX10_read_123 : decode cX10_read 123 = .ok (.invokevirtual 344, 3) := by decide +kernel
theorem dX10_read_126 : decode cX10_read 126 = .ok (.istore 5, 2) := by decide +kernel
theorem dX10_read_128 : decode cX10_read 128 = .ok (.aload_n 0, 1) := by decide +kernel
theorem dX10_read_129 : decode cX10_read 129 = .ok (.getfield 180, 3) := by decide +kernel
theorem dX10_read_132 : decode cX10_read 132 = .ok (.ifCond .ne 14, 3) := by decide +kernel
theorem dX10_read_135 : decode cX10_read 135 = .ok (.aload_n 0, 1) := by decide +kernel
theorem dX10_read_136 : decode cX10_read 136 = .ok (.getfield 165, 3) := by decide +kernel
theorem dX10_read_139 : decode cX10_read 139 = .ok (.ifCond .eq 7, 3) := by decide +kernel
theorem dX10_read_142 : decode cX10_read 142 = .ok (.aload_n 0, 1) := by decide +kernel
theorem dX10_read_143 : decode cX10_read 143 = .ok (.invokevirtual 193, 3) := by decide +kernel
theorem dX10_read_146 : decode cX10_read 146 = .ok (.iload_n 2, 1) := by decide +kernel
theorem dX10_read_147 : decode cX10_read 147 = .ok (.ifCond .ne 7, 3) := by decide +kernel
theorem dX10_read_150 : decode cX10_read 150 = .ok (.iload_n 3, 1) := by decide +kernel
theorem dX10_read_151 : decode cX10_read 151 = .ok (.goto 15, 3) := by decide +kernel
theorem dX10_read_154 : decode cX10_read 154 = .ok (.iload_n 2, 1) := by decide +kernel
theorem dX10_read_155 : decode cX10_read 155 = .ok (.iconst 1, 1) := by decide +kernel
theorem dX10_read_156 : decode cX10_read 156 = .ok (.if_icmp .ne 8, 3) := by decide +kernel
theorem dX10_read_159 : decode cX10_read 159 = .ok (.iload 4, 2) := by decide +kernel
theorem dX10_read_161 : decode cX10_read 161 = .ok (.goto 5, 3) := by decide +kernel
theorem dX10_read_164 : decode cX10_read 164 = .ok (.iload 5, 2) := by decide +kernel
theorem dX10_read_166 : decode cX10_read 166 = .ok (.ireturn, 1) := by decide +kernel
theorem dX10_text_0 : decode cX10_text 0 = .ok (.aload_n 0, 1) := by decide +kernel
theorem dX10_text_1 : decode cX10_text 1 = .ok (.getfield 70, 3) := by decide +kernel
theorem dX10_text_4 : decode cX10_text 4 = .ok (.bipush 6, 2) := by decide +kernel
theorem dX10_text_6 : decode cX10_text 6 = .ok (.if_icmp .ne 6, 3) := by decide +kernel
theorem dX10_text_9 : decode cX10_text 9 = .ok (.bipush (-4), 2) := by decide +kernel
theorem dX10_text_11 : decode cX10_text 11 = .ok (.ireturn, 1) := by decide +kernel
theorem dX10_text_12 : decode cX10_text 12 = .ok (.iconst 0, 1) := by decide +kernel
theorem dX10_text_13 : decode cX10_text 13 = .ok (.istore_n 1, 1) := by decide +kernel
theorem dX10_text_14 : decode cX10_text 14 = .ok (.iload_n 1, 1) := by decide +kernel
theorem dX10_text_15 : decode cX10_text 15 = .ok (.aload_n 0, 1) := by decide +kernel
theorem dX10_text_16 : decode cX10_text 16 = .ok (.getfield 147, 3) := by decide +kernel
theorem dX10_text_19 : decode cX10_text 19 = .ok (.if_icmp .ge 30, 3) := by decide +kernel
theorem dX10_text_22 : decode cX10_text 22 = .ok (.aload_n 0, 1) := by decide +kernel
theorem dX10_text_23 : decode cX10_text 23 = .ok (.getfield 13, 3) := by decide +kernel
theorem dX10_text_26 : decode cX10_text 26 = .ok (.sipush 160, 3) := by decide +kernel
theorem dX10_text_29 : decode cX10_text 29 = .ok (.aload_n 0, 1) := by decide +kernel
theorem dX10_text_30 : decode cX10_text 30 = .ok (.getfield 70, 3) := by decide +kernel
theorem dX10_text_33 : decode cX10_text 33 = .ok (.imul, 1) := by decide +kernel
theorem dX10_text_34 : decode cX10_text 34 = .ok (.iload_n 1, 1) := by decide +kernel
theorem dX10_text_35 : decode cX10_text 35 = .ok (.iadd, 1) := by decide +kernel
theorem dX10_text_36 : decode cX10_text 36 = .ok (.aload_n 0, 1) := by decide +kernel
theorem dX10_text_37 : decode cX10_text 37 = .ok (.getfield 20, 3) := by decide +kernel
theorem dX10_text_40 : decode cX10_text 40 = .ok (.iload_n 1, 1) := by decide +kernel
theorem dX10_text_41 : decode cX10_text 41 = .ok (.iaload, 1) := by decide +kernel
theorem dX10_text_42 : decode cX10_text 42 = .ok (.iastore, 1) := by decide +kernel
theorem dX10_text_43 : decode cX10_text 43 = .ok (.iinc 1 1, 3) := by decide +kernel
theorem dX10_text_46 : decode cX10_text 46 = .ok (.goto (-32), 3) := by decide +kernel
theorem dX10_text_49 : decode cX10_text 49 = .ok (.aload_n 0, 1) := by decide +kernel
theorem dX10_text_50 : decode cX10_text 50 = .ok (.getfield 17, 3) := by decide +kernel
theorem dX10_text_53 : decode cX10_text 53 = .ok (.aload_n 0, 1) := by decide +kernel
theorem dX10_text_54 : decode cX10_text 54 = .ok (.getfield 70, 3) := by decide +kernel
theorem dX10_text_57 : decode cX10_text 57 = .ok (.aload_n 0, 1) := by decide +kernel
theorem dX10_text_58 : decode cX10_text 58 = .ok (.getfield 147, 3) := by decide +kernel
theorem dX10_text_61 : decode cX10_text 61 = .ok (.iastore, 1) := by decide +kernel
theorem dX10_text_62 : decode cX10_text 62 = .ok (.aload_n 0, 1) := by decide +kernel
theorem dX10_text_63 : decode cX10_text 63 = .ok (.iconst 0, 1) := by decide +kernel
theorem dX10_text_64 : decode cX10_text 64 = .ok (.putfield 147, 3) := by decide +kernel
theorem dX10_text_67 : decode cX10_text 67 = .ok (.aload_n 0, 1) := by decide +kernel
theorem dX10_text_68 : decode cX10_text 68 = .ok (.aload_n 0, 1) := by decide +kernel
theorem dX10_text_69 : decode cX10_text 69 = .ok (.getfield 70, 3) := by decide +kernel
theorem dX10_text_72 : decode cX10_text 72 = .ok (.iconst 0, 1) := by decide +kernel
theorem dX10_text_73 : decode cX10_text 73 = .ok (.invokevirtual 348, 3) := by decide +kernel
theorem dX10_text_76 : decode cX10_text 76 = .ok (.istore_n 1, 1) := by decide +kernel
theorem dX10_text_77 : decode cX10_text 77 = .ok (.aload_n 0, 1) := by decide +kernel
theorem dX10_text_78 : decode cX10_text 78 = .ok (.getfield 180, 3) := by decide +kernel
theorem dX10_text_81 : decode cX10_text 81 = .ok (.ifCond .eq 11, 3) := by decide +kernel
theorem dX10_text_84 : decode cX10_text 84 = .ok (.bipush (-100), 2) := by decide +kernel
theorem dX10_text_86 : decode cX10_text 86 = .ok (.aload_n 0, 1) := by decide +kernel
theorem dX10_text_87 : decode cX10_text 87 = .ok (.getfield 184, 3) := by decide +kernel
theorem dX10_text_90 : decode cX10_text 90 = .ok (.isub, 1) := by decide +kernel
theorem dX10_text_91 : decode cX10_text 91 = .ok (.ireturn, 1) := by decide +kernel
theorem dX10_text_92 : decode cX10_text 92 = .ok (.aload_n 0, 1) := by decide +kernel
theorem dX10_text_93 : decode cX10_text 93 = .ok (.dup, 1) := by decide +kernel
theorem dX10_text_94 : decode cX10_text 94 = .ok (.getfield 70, 3) := by decide +kernel
theorem dX10_text_97 : decode cX10_text 97 = .ok (.iconst 1, 1) := by decide +kernel
theorem dX10_text_98 : decode cX10_text 98 = .ok (.iadd, 1) := by decide +kernel
theorem dX10_text_99 : decode cX10_text 99 = .ok (.putfield 70, 3) := by decide +kernel
theorem dX10_text_102 : decode cX10_text 102 = .ok (.aload_n 0, 1) := by decide +kernel
theorem dX10_text_103 : decode cX10_text 103 = .ok (.getfield 70, 3) := by decide +kernel
theorem dX10_text_106 : decode cX10_text 106 = .ok (.iconst 1, 1) := by decide +kernel
theorem dX10_text_107 : decode cX10_text 107 = .ok (.isub, 1) := by decide +kernel
theorem dX10_text_108 : decode cX10_text 108 = .ok (.ireturn, 1) := by decide +kernel
theorem dX10_force_0 : decode cX10_force 0 = .ok (.iload_n 1, 1) := by decide +kernel
theorem dX10_force_1 : decode cX10_force 1 = .ok (.i2l, 1) := by decide +kernel
theorem dX10_force_2 : decode cX10_force 2 = .ok (.lconst 0, 1) := by decide +kernel
theorem dX10_force_3 : decode cX10_force 3 = .ok (.aload_n 0, 1) := by decide +kernel
theorem dX10_force_4 : decode cX10_force 4 = .ok (.getfield 70, 3) := by decide +kernel
theorem dX10_force_7 : decode cX10_force 7 = .ok (.iconst 1, 1) := by decide +kernel
theorem dX10_force_8 : decode cX10_force 8 = .ok (.isub, 1) := by decide +kernel
theorem dX10_force_9 : decode cX10_force 9 = .ok (.i2l, 1) := by decide +kernel
theorem dX10_force_10 : decode cX10_force 10 = .ok (.invokestatic 76, 3) := by decide +kernel
theorem dX10_force_13 : decode cX10_force 13 = .ok (.ifCond .ne 6, 3) := by decide +kernel
theorem dX10_force_16 : decode cX10_force 16 = .ok (.bipush (-2), 2) := by decide +kernel
theorem dX10_force_18 : decode cX10_force 18 = .ok (.ireturn, 1) := by decide +kernel
theorem dX10_force_19 : decode cX10_force 19 = .ok (.aload_n 0, 1) := by decide +kernel
theorem dX10_force_20 : decode cX10_force 20 = .ok (.getfield 103, 3) := by decide +kernel
theorem dX10_force_23 : decode cX10_force 23 = .ok (.istore_n 2, 1) := by decide +kernel
theorem dX10_force_24 : decode cX10_force 24 = .ok (.aload_n 0, 1) := by decide +kernel
theorem dX10_force_25 : decode cX10_force 25 = .ok (.iload_n 1, 1) := by decide +kernel
theorem dX10_force_26 : decode cX10_force 26 = .ok (.putfield 103, 3) := by decide +kernel
theorem dX10_force_29 : decode cX10_force 29 = .ok (.iload_n 2, 1) := by decide +kernel
theorem dX10_force_30 : decode cX10_force 30 = .ok (.ireturn, 1) := by decide +kernel
theorem dX10_bitsOf_0 : decode cX10_bitsOf 0 = .ok (.iconst 0, 1) := by decide +kernel
theorem dX10_bitsOf_1 : decode cX10_bitsOf 1 = .ok (.istore_n 1, 1) := by decide +kernel
theorem dX10_bitsOf_2 : decode cX10_bitsOf 2 = .ok (.iload_n 0, 1) := by decide +kernel
theorem dX10_bitsOf_3 : decode cX10_bitsOf 3 = .ok (.istore_n 2, 1) := by decide +kernel
theorem dX10_bitsOf_4 : decode cX10_bitsOf 4 = .ok (.iload_n 2, 1) := by decide +kernel
theorem dX10_bitsOf_5 : decode cX10_bitsOf 5 = .ok (.ifCond .eq 15, 3) := by decide +kernel
theorem dX10_bitsOf_8 : decode cX10_bitsOf 8 = .ok (.iinc 1 1, 3) := by decide +kernel
theorem dX10_bitsOf_11 : decode cX10_bitsOf 11 = .ok (.iload_n 2, 1) := by decide +kernel
theorem dX10_bitsOf_12 : decode cX10_bitsOf 12 = .ok (.iload_n 2, 1) := by decide +kernel
theorem dX10_bitsOf_13 : decode cX10_bitsOf 13 = .ok (.iconst 1, 1) := by decide +kernel
theorem dX10_bitsOf_14 : decode cX10_bitsOf 14 = .ok (.isub, 1) := by decide +kernel
theorem dX10_bitsOf_15 : decode cX10_bitsOf 15 = .ok (.iand, 1) := by decide +kernel
theorem dX10_bitsOf_16 : decode cX10_bitsOf 16 = .ok (.istore_n 2, 1) := by decide +kernel
theorem dX10_bitsOf_17 : decode cX10_bitsOf 17 = .ok (.goto (-13), 3) := by decide +kernel
theorem dX10_bitsOf_20 : decode cX10_bitsOf 20 = .ok (.iload_n 1, 1) := by decide +kernel
theorem dX10_bitsOf_21 : decode cX10_bitsOf 21 = .ok (.ireturn, 1) := by decide +kernel
theorem dX10_knows_0 : decode cX10_knows 0 = .ok (.aload_n 0, 1) := by decide +kernel
theorem dX10_knows_1 : decode cX10_knows 1 = .ok (.getfield 29, 3) := by decide +kernel
theorem dX10_knows_4 : decode cX10_knows 4 = .ok (.iconst 5, 1) := by decide +kernel
theorem dX10_knows_5 : decode cX10_knows 5 = .ok (.iload_n 1, 1) := by decide +kernel
theorem dX10_knows_6 : decode cX10_knows 6 = .ok (.imul, 1) := by decide +kernel
theorem dX10_knows_7 : decode cX10_knows 7 = .ok (.iconst 2, 1) := by decide +kernel
theorem dX10_knows_8 : decode cX10_knows 8 = .ok (.iadd, 1) := by decide +kernel
theorem dX10_knows_9 : decode cX10_knows 9 = .ok (.iaload, 1) := by decide +kernel
theorem dX10_knows_10 : decode cX10_knows 10 = .ok (.ireturn, 1) := by decide +kernel
theorem dX10_asks_0 : decode cX10_asks 0 = .ok (.aload_n 0, 1) := by decide +kernel
theorem dX10_asks_1 : decode cX10_asks 1 = .ok (.iload_n 3, 1) := by decide +kernel
theorem dX10_asks_2 : decode cX10_asks 2 = .ok (.putfield 203, 3) := by decide +kernel
theorem dX10_asks_5 : decode cX10_asks 5 = .ok (.aload_n 0, 1) := by decide +kernel
theorem dX10_asks_6 : decode cX10_asks 6 = .ok (.aload_n 0, 1) := by decide +kernel
theorem dX10_asks_7 : decode cX10_asks 7 = .ok (.getfield 29, 3) := by decide +kernel
theorem dX10_asks_10 : decode cX10_asks 10 = .ok (.iconst 5, 1) := by decide +kernel
theorem dX10_asks_11 : decode cX10_asks 11 = .ok (.iload_n 2, 1) := by decide +kernel
theorem dX10_asks_12 : decode cX10_asks 12 = .ok (.imul, 1) := by decide +kernel
theorem dX10_asks_13 : decode cX10_asks 13 = .ok (.iaload, 1) := by decide +kernel
theorem dX10_asks_14 : decode cX10_asks 14 = .ok (.putfield 206, 3) := by decide +kernel
theorem dX10_asks_17 : decode cX10_asks 17 = .ok (.aload_n 0, 1) := by decide +kernel
theorem dX10_asks_18 : decode cX10_asks 18 = .ok (.aload_n 0, 1) := by decide +kernel
theorem dX10_asks_19 : decode cX10_asks 19 = .ok (.iload_n 2, 1) := by decide +kernel
theorem dX10_asks_20 : decode cX10_asks 20 = .ok (.invokevirtual 351, 3) := by decide +kernel
theorem dX10_asks_23 : decode cX10_asks 23 = .ok (.invokestatic 354, 3) := by decide +kernel
theorem dX10_asks_26 : decode cX10_asks 26 = .ok (.putfield 209, 3) := by decide +kernel
theorem dX10_asks_29 : decode cX10_asks 29 = .ok (.aload_n 0, 1) := by decide +kernel
theorem dX10_asks_30 : decode cX10_asks 30 = .ok (.aload_n 0, 1) := by decide +kernel
theorem dX10_asks_31 : decode cX10_asks 31 = .ok (.getfield 32, 3) := by decide +kernel
theorem dX10_asks_34 : decode cX10_asks 34 = .ok (.bipush 8, 2) := by decide +kernel
theorem dX10_asks_36 : decode cX10_asks 36 = .ok (.aload_n 0, 1) := by decide +kernel
theorem dX10_asks_37 : decode cX10_asks 37 = .ok (.getfield 29, 3) := by decide +kernel
theorem dX10_asks_40 : decode cX10_asks 40 = .ok (.iconst 5, 1) := by decide +kernel
theorem dX10_asks_41 : decode cX10_asks 41 = .ok (.iload_n 2, 1) := by decide +kernel
theorem dX10_asks_42 : decode cX10_asks 42 = .ok (.imul, 1) := by decide +kernel
theorem dX10_asks_43 : decode cX10_asks 43 = .ok (.iconst 1, 1) := by decide +kernel
theorem dX10_asks_44 : decode cX10_asks 44 = .ok (.iadd, 1) := by decide +kernel
theorem dX10_asks_45 : decode cX10_asks 45 = .ok (.iaload, 1) := by decide +kernel
theorem dX10_asks_46 : decode cX10_asks 46 = .ok (.imul, 1) := by decide +kernel
theorem dX10_asks_47 : decode cX10_asks 47 = .ok (.iload_n 3, 1) := by decide +kernel
theorem dX10_asks_48 : decode cX10_asks 48 = .ok (.iadd, 1) := by decide +kernel
theorem dX10_asks_49 : decode cX10_asks 49 = .ok (.iaload, 1) := by decide +kernel
theorem dX10_asks_50 : decode cX10_asks 50 = .ok (.putfield 212, 3) := by decide +kernel
theorem dX10_asks_53 : decode cX10_asks 53 = .ok (.aload_n 0, 1) := by decide +kernel
theorem dX10_asks_54 : decode cX10_asks 54 = .ok (.aload_n 0, 1) := by decide +kernel
theorem dX10_asks_55 : decode cX10_asks 55 = .ok (.getfield 29, 3) := by decide +kernel
theorem dX10_asks_58 : decode cX10_asks 58 = .ok (.iconst 5, 1) := by decide +kernel
theorem dX10_asks_59 : decode cX10_asks 59 = .ok (.iload_n 2, 1) := by decide +kernel
theorem dX10_asks_60 : decode cX10_asks 60 = .ok (.imul, 1) := by decide +kernel
theorem dX10_asks_61 : decode cX10_asks 61 = .ok (.iconst 1, 1) := by decide +kernel
theorem dX10_asks_62 : decode cX10_asks 62 = .ok (.iadd, 1) := by decide +kernel
theorem dX10_asks_63 : decode cX10_asks 63 = .ok (.iaload, 1) := by decide +kernel
theorem dX10_asks_64 : decode cX10_asks 64 = .ok (.iload_n 3, 1) := by decide +kernel
theorem dX10_asks_65 : decode cX10_asks 65 = .ok (.if_icmp .ne 7, 3) := by decide +kernel
theorem dX10_asks_68 : decode cX10_asks 68 = .ok (.iconst 1, 1) := by decide +kernel
theorem dX10_asks_69 : decode cX10_asks 69 = .ok (.goto 4, 3) := by decide +kernel
theorem dX10_asks_72 : decode cX10_asks 72 = .ok (.iconst 0, 1) := by decide +kernel
theorem dX10_asks_73 : decode cX10_asks 73 = .ok (.putfield 215, 3) := by decide +kernel
theorem dX10_asks_76 : decode cX10_asks 76 = .ok (.aload_n 0, 1) := by decide +kernel
theorem dX10_asks_77 : decode cX10_asks 77 = .ok (.aload_n 0, 1) := by decide +kernel
theorem dX10_asks_78 : decode cX10_asks 78 = .ok (.getfield 100, 3) := by decide +kernel
theorem dX10_asks_81 : decode cX10_asks 81 = .ok (.putfield 218, 3) := by decide +kernel
theorem dX10_asks_84 : decode cX10_asks 84 = .ok (.aload_n 0, 1) := by decide +kernel
theorem dX10_asks_85 : decode cX10_asks 85 = .ok (.aload_n 0, 1) := by decide +kernel
theorem dX10_asks_86 : decode cX10_asks 86 = .ok (.getfield 103, 3) := by decide +kernel
theorem dX10_asks_89 : decode cX10_asks 89 = .ok (.iload_n 1, 1) := by decide +kernel
theorem dX10_asks_90 : decode cX10_asks 90 = .ok (.invokevirtual 348, 3) := by decide +kernel
theorem dX10_asks_93 : decode cX10_asks 93 = .ok (.istore 4, 2) := by decide +kernel
theorem dX10_asks_95 : decode cX10_asks 95 = .ok (.iload_n 1, 1) := by decide +kernel
theorem dX10_asks_96 : decode cX10_asks 96 = .ok (.ifCond .ne 8, 3) := by decide +kernel
theorem dX10_asks_99 : decode cX10_asks 99 = .ok (.iload 4, 2) := by decide +kernel
theorem dX10_asks_101 : decode cX10_asks 101 = .ok (.goto 11, 3) := by decide +kernel
theorem dX10_asks_104 : decode cX10_asks 104 = .ok (.iload 4, 2) := by decide +kernel
theorem dX10_asks_106 : decode cX10_asks 106 = .ok (.iconst 0, 1) := by decide +kernel
theorem dX10_asks_107 : decode cX10_asks 107 = .ok (.bipush 99, 2) := by decide +kernel
theorem dX10_asks_109 : decode cX10_asks 109 = .ok (.invokestatic 357, 3) := by decide +kernel
theorem dX10_asks_112 : decode cX10_asks 112 = .ok (.ireturn, 1) := by decide +kernel
theorem dX10_takes1_0 : decode cX10_takes1 0 = .ok (.aload_n 0, 1) := by decide +kernel
theorem dX10_takes1_1 : decode cX10_takes1 1 = .ok (.getfield 26, 3) := by decide +kernel
theorem dX10_takes1_4 : decode cX10_takes1 4 = .ok (.iload_n 1, 1) := by decide +kernel
theorem dX10_takes1_5 : decode cX10_takes1 5 = .ok (.iaload, 1) := by decide +kernel
theorem dX10_takes1_6 : decode cX10_takes1 6 = .ok (.istore_n 3, 1) := by decide +kernel
theorem dX10_takes1_7 : decode cX10_takes1 7 = .ok (.iload_n 3, 1) := by decide +kernel
theorem dX10_takes1_8 : decode cX10_takes1 8 = .ok (.iconst 5, 1) := by decide +kernel
theorem dX10_takes1_9 : decode cX10_takes1 9 = .ok (.if_icmp .eq 22, 3) := by decide +kernel
theorem dX10_takes1_12 : decode cX10_takes1 12 = .ok (.iload_n 3, 1) := by decide +kernel
theorem dX10_takes1_13 : decode cX10_takes1 13 = .ok (.iconst 4, 1) := by decide +kernel
theorem dX10_takes1_14 : decode cX10_takes1 14 = .ok (.if_icmp .ne 19, 3) := by decide +kernel
theorem dX10_takes1_17 : decode cX10_takes1 17 = .ok (.aload_n 0, 1) := by decide +kernel
theorem dX10_takes1_18 : decode cX10_takes1 18 = .ok (.getfield 29, 3) := by decide +kernel
theorem dX10_takes1_21 : decode cX10_takes1 21 = .ok (.iconst 5, 1) := by decide +kernel
theorem dX10_takes1_22 : decode cX10_takes1 22 = .ok (.iload_n 1, 1) := by decide +kernel
theorem dX10_takes1_23 : decode cX10_takes1 23 = .ok (.imul, 1) := by decide +kernel
theorem dX10_takes1_24 : decode cX10_takes1 24 = .ok (.iconst 1, 1) := by decide +kernel
theorem dX10_takes1_25 : decode cX10_takes1 25 = .ok (.iadd, 1) := by decide +kernel
theorem dX10_takes1_26 : decode cX10_takes1 26 = .ok (.iaload, 1) := by decide +kernel
theorem dX10_takes1_27 : decode cX10_takes1 27 = .ok (.iload_n 2, 1) := by decide +kernel
theorem dX10_takes1_28 : decode cX10_takes1 28 = .ok (.if_icmp .ne 5, 3) := by decide +kernel
theorem dX10_takes1_31 : decode cX10_takes1 31 = .ok (.iconst 0, 1) := by decide +kernel
theorem dX10_takes1_32 : decode cX10_takes1 32 = .ok (.ireturn, 1) := by decide +kernel
theorem dX10_takes1_33 : decode cX10_takes1 33 = .ok (.iload_n 3, 1) := by decide +kernel
theorem dX10_takes1_34 : decode cX10_takes1 34 = .ok (.iconst 3, 1) := by decide +kernel
theorem dX10_takes1_35 : decode cX10_takes1 35 = .ok (.if_icmp .ne 18, 3) := by decide +kernel
theorem dX10_takes1_38 : decode cX10_takes1 38 = .ok (.iload_n 2, 1) := by decide +kernel
theorem dX10_takes1_39 : decode cX10_takes1 39 = .ok (.aload_n 0, 1) := by decide +kernel
theorem dX10_takes1_40 : decode cX10_takes1 40 = .ok (.getfield 29, 3) := by decide +kernel
theorem dX10_takes1_43 : decode cX10_takes1 43 = .ok (.iconst 5, 1) := by decide +kernel
theorem dX10_takes1_44 : decode cX10_takes1 44 = .ok (.iload_n 1, 1) := by decide +kernel
theorem dX10_takes1_45 : decode cX10_takes1 45 = .ok (.imul, 1) := by decide +kernel
theorem dX10_takes1_46 : decode cX10_takes1 46 = .ok (.iaload, 1) := by decide +kernel
theorem dX10_takes1_47 : decode cX10_takes1 47 = .ok (.bipush 8, 2) := by decide +kernel
theorem dX10_takes1_49 : decode cX10_takes1 49 = .ok (.irem, 1) := by decide +kernel
theorem dX10_takes1_50 : decode cX10_takes1 50 = .ok (.if_icmp .eq 19, 3) := by decide +kernel
theorem dX10_takes1_53 : decode cX10_takes1 53 = .ok (.iload_n 3, 1) := by decide +kernel
theorem dX10_takes1_54 : decode cX10_takes1 54 = .ok (.iconst 2, 1) := by decide +kernel
theorem dX10_takes1_55 : decode cX10_takes1 55 = .ok (.if_icmp .eq 8, 3) := by decide +kernel
theorem dX10_takes1_58 : decode cX10_takes1 58 = .ok (.iload_n 3, 1) := by decide +kernel
theorem dX10_takes1_59 : decode cX10_takes1 59 = .ok (.iconst 4, 1) := by decide +kernel
theorem dX10_takes1_60 : decode cX10_takes1 60 = .ok (.if_icmp .ne 11, 3) := by decide +kernel
theorem dX10_takes1_63 : decode cX10_takes1 63 = .ok (.iload_n 2, 1) := by decide +kernel
theorem dX10_takes1_64 : decode cX10_takes1 64 = .ok (.iconst 2, 1) := by decide +kernel
theorem dX10_takes1_65 : decode cX10_takes1 65 = .ok (.irem, 1) := by decide +kernel
theorem dX10_takes1_66 : decode cX10_takes1 66 = .ok (.ifCond .ne 5, 3) := by decide +kernel
theorem dX10_takes1_69 : decode cX10_takes1 69 = .ok (.iconst 1, 1) := by decide +kernel
theorem dX10_takes1_70 : decode cX10_takes1 70 = .ok (.ireturn, 1) := by decide +kernel
theorem dX10_takes1_71 : decode cX10_takes1 71 = .ok (.aload_n 0, 1) := by decide +kernel
theorem dX10_takes1_72 : decode cX10_takes1 72 = .ok (.iconst 0, 1) := by decide +kernel
theorem dX10_takes1_73 : decode cX10_takes1 73 = .ok (.iload_n 1, 1) := by decide +kernel
theorem dX10_takes1_74 : decode cX10_takes1 74 = .ok (.iload_n 2, 1) := by decide +kernel
theorem dX10_takes1_75 : decode cX10_takes1 75 = .ok (.invokevirtual 361, 3) := by decide +kernel
theorem dX10_takes1_78 : decode cX10_takes1 78 = .ok (.ifCond .eq 7, 3) := by decide +kernel
theorem dX10_takes1_81 : decode cX10_takes1 81 = .ok (.iconst 1, 1) := by decide +kernel
theorem dX10_takes1_82 : decode cX10_takes1 82 = .ok (.goto 4, 3) := by decide +kernel
theorem dX10_takes1_85 : decode cX10_takes1 85 = .ok (.iconst 0, 1) := by decide +kernel
theorem dX10_takes1_86 : decode cX10_takes1 86 = .ok (.istore 4, 2) := by decide +kernel
theorem dX10_takes1_88 : decode cX10_takes1 88 = .ok (.iload_n 3, 1) := by decide +kernel
theorem dX10_takes1_89 : decode cX10_takes1 89 = .ok (.iconst 1, 1) := by decide +kernel
theorem dX10_takes1_90 : decode cX10_takes1 90 = .ok (.if_icmp .eq 8, 3) := by decide +kernel
theorem dX10_takes1_93 : decode cX10_takes1 93 = .ok (.iload_n 3, 1) := by decide +kernel
theorem dX10_takes1_94 : decode cX10_takes1 94 = .ok (.iconst 3, 1) := by decide +kernel
theorem dX10_takes1_95 : decode cX10_takes1 95 = .ok (.if_icmp .ne 34, 3) := by decide +kernel
theorem dX10_takes1_98 : decode cX10_takes1 98 = .ok (.iload 4, 2) := by decide +kernel
theorem dX10_takes1_100 : decode cX10_takes1 100 = .ok (.ifCond .eq 25, 3) := by decide +kernel
theorem dX10_takes1_103 : decode cX10_takes1 103 = .ok (.aload_n 0, 1) := by decide +kernel
theorem dX10_takes1_104 : decode cX10_takes1 104 = .ok (.getfield 29, 3) := by decide +kernel
theorem dX10_takes1_107 : decode cX10_takes1 107 = .ok (.iconst 5, 1) := by decide +kernel
theorem dX10_takes1_108 : decode cX10_takes1 108 = .ok (.iload_n 1, 1) := by decide +kernel
theorem dX10_takes1_109 : decode cX10_takes1 109 = .ok (.imul, 1) := by decide +kernel
theorem dX10_takes1_110 : decode cX10_takes1 110 = .ok (.iconst 3, 1) := by decide +kernel
theorem dX10_takes1_111 : decode cX10_takes1 111 = .ok (.iadd, 1) := by decide +kernel
theorem dX10_takes1_112 : decode cX10_takes1 112 = .ok (.iaload, 1) := by decide +kernel
theorem dX10_takes1_113 : decode cX10_takes1 113 = .ok (.iload_n 2, 1) := by decide +kernel
theorem dX10_takes1_114 : decode cX10_takes1 114 = .ok (.ishr, 1) := by decide +kernel
theorem dX10_takes1_115 : decode cX10_takes1 115 = .ok (.iconst 1, 1) := by decide +kernel
theorem dX10_takes1_116 : decode cX10_takes1 116 = .ok (.iand, 1) := by decide +kernel
theorem dX10_takes1_117 : decode cX10_takes1 117 = .ok (.iconst 1, 1) := by decide +kernel
theorem dX10_takes1_118 : decode cX10_takes1 118 = .ok (.if_icmp .ne 7, 3) := by decide +kernel
theorem dX10_takes1_121 : decode cX10_takes1 121 = .ok (.iconst 1, 1) := by decide +kernel
theorem dX10_takes1_122 : decode cX10_takes1 122 = .ok (.goto 9, 3) := by decide +kernel
theorem dX10_takes1_125 : decode cX10_takes1 125 = .ok (.iconst 0, 1) := by decide +kernel
theorem dX10_takes1_126 : decode cX10_takes1 126 = .ok (.goto 5, 3) := by decide +kernel
theorem dX10_takes1_129 : decode cX10_takes1 129 = .ok (.iload 4, 2) := by decide +kernel
theorem dX10_takes1_131 : decode cX10_takes1 131 = .ok (.ireturn, 1) := by decide +kernel
theorem dX10_worthOf_0 : decode cX10_worthOf 0 = .ok (.aload_n 0, 1) := by decide +kernel
theorem dX10_worthOf_1 : decode cX10_worthOf 1 = .ok (.getfield 26, 3) := by decide +kernel
theorem dX10_worthOf_4 : decode cX10_worthOf 4 = .ok (.iload_n 1, 1) := by decide +kernel
theorem dX10_worthOf_5 : decode cX10_worthOf 5 = .ok (.iaload, 1) := by decide +kernel
theorem dX10_worthOf_6 : decode cX10_worthOf 6 = .ok (.istore_n 3, 1) := by decide +kernel
theorem dX10_worthOf_7 : decode cX10_worthOf 7 = .ok (.iload_n 3, 1) := by decide +kernel
theorem dX10_worthOf_8 : decode cX10_worthOf 8 = .ok (.iconst 5, 1) := by decide +kernel
theorem dX10_worthOf_9 : decode cX10_worthOf 9 = .ok (.if_icmp .ne 5, 3) := by decide +kernel
theorem dX10_worthOf_12 : decode cX10_worthOf 12 = .ok (.iconst 0, 1) := by decide +kernel
theorem dX10_worthOf_13 : decode cX10_worthOf 13 = .ok (.ireturn, 1) := by decide +kernel
theorem dX10_worthOf_14 : decode cX10_worthOf 14 = .ok (.aload_n 0, 1) := by decide +kernel
theorem dX10_worthOf_15 : decode cX10_worthOf 15 = .ok (.iconst 1, 1) := by decide +kernel
theorem dX10_worthOf_16 : decode cX10_worthOf 16 = .ok (.iload_n 1, 1) := by decide +kernel
theorem dX10_worthOf_17 : decode cX10_worthOf 17 = .ok (.iload_n 2, 1) := by decide +kernel
theorem dX10_worthOf_18 : decode cX10_worthOf 18 = .ok (.invokevirtual 361, 3) := by decide +kernel
theorem dX10_worthOf_21 : decode cX10_worthOf 21 = .ok (.istore 4, 2) := by decide +kernel
theorem dX10_worthOf_23 : decode cX10_worthOf 23 = .ok (.aload_n 0, 1) := by decide +kernel
theorem dX10_worthOf_24 : decode cX10_worthOf 24 = .ok (.getfield 29, 3) := by decide +kernel
theorem dX10_worthOf_27 : decode cX10_worthOf 27 = .ok (.iconst 5, 1) := by decide +kernel
theorem dX10_worthOf_28 : decode cX10_worthOf 28 = .ok (.iload_n 1, 1) := by decide +kernel
theorem dX10_worthOf_29 : decode cX10_worthOf 29 = .ok (.imul, 1) := by decide +kernel
theorem dX10_worthOf_30 : decode cX10_worthOf 30 = .ok (.iaload, 1) := by decide +kernel
theorem dX10_worthOf_31 : decode cX10_worthOf 31 = .ok (.istore 5, 2) := by decide +kernel
theorem dX10_worthOf_33 : decode cX10_worthOf 33 = .ok (.iload_n 3, 1) := by decide +kernel
theorem dX10_worthOf_34 : decode cX10_worthOf 34 = .ok (.iconst 1, 1) := by decide +kernel
theorem dX10_worthOf_35 : decode cX10_worthOf 35 = .ok (.if_icmp .ne 10, 3) := by decide +kernel
theorem dX10_worthOf_38 : decode cX10_worthOf 38 = .ok (.iconst 2, 1) := by decide +kernel
theorem dX10_worthOf_39 : decode cX10_worthOf 39 = .ok (.iload 4, 2) := by decide +kernel
theorem dX10_worthOf_41 : decode cX10_worthOf 41 = .ok (.imul, 1) := by decide +kernel
theorem dX10_worthOf_42 : decode cX10_worthOf 42 = .ok (.goto 47, 3) := by decide +kernel
theorem dX10_worthOf_45 : decode cX10_worthOf 45 = .ok (.iload_n 3, 1) := by decide +kernel
theorem dX10_worthOf_46 : decode cX10_worthOf 46 = .ok (.iconst 3, 1) := by decide +kernel
theorem dX10_worthOf_47 : decode cX10_worthOf 47 = .ok (.if_icmp .ne 12, 3) := by decide +kernel
theorem dX10_worthOf_50 : decode cX10_worthOf 50 = .ok (.iconst 2, 1) := by decide +kernel
theorem dX10_worthOf_51 : decode cX10_worthOf 51 = .ok (.iload 4, 2) := by decide +kernel
theorem dX10_worthOf_53 : decode cX10_worthOf 53 = .ok (.imul, 1) := by decide +kernel
theorem dX10_worthOf_54 : decode cX10_worthOf 54 = .ok (.iconst 5, 1) := by decide +kernel
theorem dX10_worthOf_55 : decode cX10_worthOf 55 = .ok (.iadd, 1) := by decide +kernel
theorem dX10_worthOf_56 : decode cX10_worthOf 56 = .ok (.goto 33, 3) := by decide +kernel
theorem dX10_worthOf_59 : decode cX10_worthOf 59 = .ok (.iload_n 3, 1) := by decide +kernel
theorem dX10_worthOf_60 : decode cX10_worthOf 60 = .ok (.iconst 2, 1) := by decide +kernel
theorem dX10_worthOf_61 : decode cX10_worthOf 61 = .ok (.if_icmp .ne 11, 3) := by decide +kernel
theorem dX10_worthOf_64 : decode cX10_worthOf 64 = .ok (.iload 4, 2) := by decide +kernel
theorem dX10_worthOf_66 : decode cX10_worthOf 66 = .ok (.iload 5, 2) := by decide +kernel
theorem dX10_worthOf_68 : decode cX10_worthOf 68 = .ok (.iadd, 1) := by decide +kernel
theorem dX10_worthOf_69 : decode cX10_worthOf 69 = .ok (.goto 20, 3) := by decide +kernel
theorem dX10_worthOf_72 : decode cX10_worthOf 72 = .ok (.iload_n 3, 1) := by decide +kernel
theorem dX10_worthOf_73 : decode cX10_worthOf 73 = .ok (.iconst 4, 1) := by decide +kernel
theorem dX10_worthOf_74 : decode cX10_worthOf 74 = .ok (.if_icmp .ne 13, 3) := by decide +kernel
theorem dX10_worthOf_77 : decode cX10_worthOf 77 = .ok (.iload 4, 2) := by decide +kernel
theorem dX10_worthOf_79 : decode cX10_worthOf 79 = .ok (.iload 5, 2) := by decide +kernel
theorem dX10_worthOf_81 : decode cX10_worthOf 81 = .ok (.iadd, 1) := by decide +kernel
theorem dX10_worthOf_82 : decode cX10_worthOf 82 = .ok (.iconst 2, 1) := by decide +kernel
theorem dX10_worthOf_83 : decode cX10_worthOf 83 = .ok (.idiv, 1) := by decide +kernel
theorem dX10_worthOf_84 : decode cX10_worthOf 84 = .ok (.goto 5, 3) := by decide +kernel
theorem dX10_worthOf_87 : decode cX10_worthOf 87 = .ok (.iload 4, 2) := by decide +kernel
theorem dX10_worthOf_89 : decode cX10_worthOf 89 = .ok (.iconst 0, 1) := by decide +kernel
theorem dX10_worthOf_90 : decode cX10_worthOf 90 = .ok (.sipush 999, 3) := by decide +kernel
theorem dX10_worthOf_93 : decode cX10_worthOf 93 = .ok (.invokestatic 357, 3) := by decide +kernel
theorem dX10_worthOf_96 : decode cX10_worthOf 96 = .ok (.ireturn, 1) := by decide +kernel
theorem dX10_timeOf_0 : decode cX10_timeOf 0 = .ok (.aload_n 0, 1) := by decide +kernel
theorem dX10_timeOf_1 : decode cX10_timeOf 1 = .ok (.getfield 26, 3) := by decide +kernel
theorem dX10_timeOf_4 : decode cX10_timeOf 4 = .ok (.iload_n 1, 1) := by decide +kernel
theorem dX10_timeOf_5 : decode cX10_timeOf 5 = .ok (.iaload, 1) := by decide +kernel
theorem dX10_timeOf_6 : decode cX10_timeOf 6 = .ok (.istore_n 3, 1) := by decide +kernel
theorem dX10_timeOf_7 : decode cX10_timeOf 7 = .ok (.iload_n 3, 1) := by decide +kernel
theorem dX10_timeOf_8 : decode cX10_timeOf 8 = .ok (.iconst 5, 1) := by decide +kernel
theorem dX10_timeOf_9 : decode cX10_timeOf 9 = .ok (.if_icmp .ne 6, 3) := by decide +kernel
theorem dX10_timeOf_12 : decode cX10_timeOf 12 = .ok (.bipush 20, 2) := by decide +kernel
theorem dX10_timeOf_14 : decode cX10_timeOf 14 = .ok (.ireturn, 1) := by decide +kernel
theorem dX10_timeOf_15 : decode cX10_timeOf 15 = .ok (.aload_n 0, 1) := by decide +kernel
theorem dX10_timeOf_16 : decode cX10_timeOf 16 = .ok (.iconst 2, 1) := by decide +kernel
theorem dX10_timeOf_17 : decode cX10_timeOf 17 = .ok (.iload_n 1, 1) := by decide +kernel
theorem dX10_timeOf_18 : decode cX10_timeOf 18 = .ok (.iload_n 2, 1) := by decide +kernel
theorem dX10_timeOf_19 : decode cX10_timeOf 19 = .ok (.invokevirtual 361, 3) := by decide +kernel
theorem dX10_timeOf_22 : decode cX10_timeOf 22 = .ok (.istore 4, 2) := by decide +kernel
theorem dX10_timeOf_24 : decode cX10_timeOf 24 = .ok (.iload_n 3, 1) := by decide +kernel
theorem dX10_timeOf_25 : decode cX10_timeOf 25 = .ok (.iconst 3, 1) := by decide +kernel
theorem dX10_timeOf_26 : decode cX10_timeOf 26 = .ok (.if_icmp .ne 17, 3) := by decide +kernel
theorem dX10_timeOf_29 : decode cX10_timeOf 29 = .ok (.iload 4, 2) := by decide +kernel
theorem dX10_timeOf_31 : decode cX10_timeOf 31 = .ok (.aload_n 0, 1) := by decide +kernel
theorem dX10_timeOf_32 : decode cX10_timeOf 32 = .ok (.getfield 29, 3) := by decide +kernel
theorem dX10_timeOf_35 : decode cX10_timeOf 35 = .ok (.iconst 5, 1) := by decide +kernel
theorem dX10_timeOf_36 : decode cX10_timeOf 36 = .ok (.iload_n 1, 1) := by decide +kernel
theorem dX10_timeOf_37 : decode cX10_timeOf 37 = .ok (.imul, 1) := by decide +kernel
theorem dX10_timeOf_38 : decode cX10_timeOf 38 = .ok (.iaload, 1) := by decide +kernel
theorem dX10_timeOf_39 : decode cX10_timeOf 39 = .ok (.iadd, 1) := by decide +kernel
theorem dX10_timeOf_40 : decode cX10_timeOf 40 = .ok (.goto 31, 3) := by decide +kernel
theorem dX10_timeOf_43 : decode cX10_timeOf 43 = .ok (.iload_n 3, 1) := by decide +kernel
theorem dX10_timeOf_44 : decode cX10_timeOf 44 = .ok (.iconst 2, 1) := by decide +kernel
theorem dX10_timeOf_45 : decode cX10_timeOf 45 = .ok (.if_icmp .ne 10, 3) := by decide +kernel
theorem dX10_timeOf_48 : decode cX10_timeOf 48 = .ok (.iload 4, 2) := by decide +kernel
theorem dX10_timeOf_50 : decode cX10_timeOf 50 = .ok (.iconst 2, 1) := by decide +kernel
theorem dX10_timeOf_51 : decode cX10_timeOf 51 = .ok (.idiv, 1) := by decide +kernel
theorem dX10_timeOf_52 : decode cX10_timeOf 52 = .ok (.goto 19, 3) := by decide +kernel
theorem dX10_timeOf_55 : decode cX10_timeOf 55 = .ok (.iload_n 3, 1) := by decide +kernel
theorem dX10_timeOf_56 : decode cX10_timeOf 56 = .ok (.iconst 4, 1) := by decide +kernel
theorem dX10_timeOf_57 : decode cX10_timeOf 57 = .ok (.if_icmp .ne 12, 3) := by decide +kernel
theorem dX10_timeOf_60 : decode cX10_timeOf 60 = .ok (.iload 4, 2) := by decide +kernel
theorem dX10_timeOf_62 : decode cX10_timeOf 62 = .ok (.iconst 2, 1) := by decide +kernel
theorem dX10_timeOf_63 : decode cX10_timeOf 63 = .ok (.idiv, 1) := by decide +kernel
theorem dX10_timeOf_64 : decode cX10_timeOf 64 = .ok (.iconst 1, 1) := by decide +kernel
theorem dX10_timeOf_65 : decode cX10_timeOf 65 = .ok (.iadd, 1) := by decide +kernel
theorem dX10_timeOf_66 : decode cX10_timeOf 66 = .ok (.goto 5, 3) := by decide +kernel
theorem dX10_timeOf_69 : decode cX10_timeOf 69 = .ok (.iload 4, 2) := by decide +kernel
theorem dX10_timeOf_71 : decode cX10_timeOf 71 = .ok (.iconst 0, 1) := by decide +kernel
theorem dX10_timeOf_72 : decode cX10_timeOf 72 = .ok (.sipush 999, 3) := by decide +kernel
theorem dX10_timeOf_75 : decode cX10_timeOf 75 = .ok (.invokestatic 357, 3) := by decide +kernel
theorem dX10_timeOf_78 : decode cX10_timeOf 78 = .ok (.ireturn, 1) := by decide +kernel
theorem dX10_isFree_0 : decode cX10_isFree 0 = .ok (.aload_n 0, 1) := by decide +kernel
theorem dX10_isFree_1 : decode cX10_isFree 1 = .ok (.getfield 26, 3) := by decide +kernel
theorem dX10_isFree_4 : decode cX10_isFree 4 = .ok (.iload_n 1, 1) := by decide +kernel
theorem dX10_isFree_5 : decode cX10_isFree 5 = .ok (.iaload, 1) := by decide +kernel
theorem dX10_isFree_6 : decode cX10_isFree 6 = .ok (.iconst 5, 1) := by decide +kernel
theorem dX10_isFree_7 : decode cX10_isFree 7 = .ok (.if_icmp .eq 26, 3) := by decide +kernel
theorem dX10_isFree_10 : decode cX10_isFree 10 = .ok (.aload_n 0, 1) := by decide +kernel
theorem dX10_isFree_11 : decode cX10_isFree 11 = .ok (.getfield 26, 3) := by decide +kernel
theorem dX10_isFree_14 : decode cX10_isFree 14 = .ok (.iload_n 1, 1) := by decide +kernel
theorem dX10_isFree_15 : decode cX10_isFree 15 = .ok (.iaload, 1) := by decide +kernel
theorem dX10_isFree_16 : decode cX10_isFree 16 = .ok (.iconst 4, 1) := by decide +kernel
theorem dX10_isFree_17 : decode cX10_isFree 17 = .ok (.if_icmp .ne 20, 3) := by decide +kernel
theorem dX10_isFree_20 : decode cX10_isFree 20 = .ok (.aload_n 0, 1) := by decide +kernel
theorem dX10_isFree_21 : decode cX10_isFree 21 = .ok (.getfield 29, 3) := by decide +kernel
theorem dX10_isFree_24 : decode cX10_isFree 24 = .ok (.iconst 5, 1) := by decide +kernel
theorem dX10_isFree_25 : decode cX10_isFree 25 = .ok (.iload_n 1, 1) := by decide +kernel
theorem dX10_isFree_26 : decode cX10_isFree 26 = .ok (.imul, 1) := by decide +kernel
theorem dX10_isFree_27 : decode cX10_isFree 27 = .ok (.iaload, 1) := by decide +kernel
theorem dX10_isFree_28 : decode cX10_isFree 28 = .ok (.bipush 6, 2) := by decide +kernel
theorem dX10_isFree_30 : decode cX10_isFree 30 = .ok (.if_icmp .le 7, 3) := by decide +kernel
theorem dX10_isFree_33 : decode cX10_isFree 33 = .ok (.iconst 1, 1) := by decide +kernel
theorem dX10_isFree_34 : decode cX10_isFree 34 = .ok (.goto 4, 3) := by decide +kernel
theorem dX10_isFree_37 : decode cX10_isFree 37 = .ok (.iconst 0, 1) := by decide +kernel
theorem dX10_isFree_38 : decode cX10_isFree 38 = .ok (.ireturn, 1) := by decide +kernel
theorem dX10_payOf_0 : decode cX10_payOf 0 = .ok (.aload_n 0, 1) := by decide +kernel
theorem dX10_payOf_1 : decode cX10_payOf 1 = .ok (.iload_n 2, 1) := by decide +kernel
theorem dX10_payOf_2 : decode cX10_payOf 2 = .ok (.invokevirtual 351, 3) := by decide +kernel
theorem dX10_payOf_5 : decode cX10_payOf 5 = .ok (.iload_n 3, 1) := by decide +kernel
theorem dX10_payOf_6 : decode cX10_payOf 6 = .ok (.ishr, 1) := by decide +kernel
theorem dX10_payOf_7 : decode cX10_payOf 7 = .ok (.iconst 1, 1) := by decide +kernel
theorem dX10_payOf_8 : decode cX10_payOf 8 = .ok (.iand, 1) := by decide +kernel
theorem dX10_payOf_9 : decode cX10_payOf 9 = .ok (.ifCond .eq 16, 3) := by decide +kernel
theorem dX10_payOf_12 : decode cX10_payOf 12 = .ok (.aload_n 0, 1) := by decide +kernel
theorem dX10_payOf_13 : decode cX10_payOf 13 = .ok (.iload_n 1, 1) := by decide +kernel
theorem dX10_payOf_14 : decode cX10_payOf 14 = .ok (.invokevirtual 351, 3) := by decide +kernel
theorem dX10_payOf_17 : decode cX10_payOf 17 = .ok (.iload_n 3, 1) := by decide +kernel
theorem dX10_payOf_18 : decode cX10_payOf 18 = .ok (.ishr, 1) := by decide +kernel
theorem dX10_payOf_19 : decode cX10_payOf 19 = .ok (.iconst 1, 1) := by decide +kernel
theorem dX10_payOf_20 : decode cX10_payOf 20 = .ok (.iand, 1) := by decide +kernel
theorem dX10_payOf_21 : decode cX10_payOf 21 = .ok (.iconst 1, 1) := by decide +kernel
theorem dX10_payOf_22 : decode cX10_payOf 22 = .ok (.if_icmp .ne 5, 3) := by decide +kernel
theorem dX10_payOf_25 : decode cX10_payOf 25 = .ok (.iconst (-1), 1) := by decide +kernel
theorem dX10_payOf_26 : decode cX10_payOf 26 = .ok (.ireturn, 1) := by decide +kernel
theorem dX10_payOf_27 : decode cX10_payOf 27 = .ok (.aload_n 0, 1) := by decide +kernel
theorem dX10_payOf_28 : decode cX10_payOf 28 = .ok (.iload_n 2, 1) := by decide +kernel
theorem dX10_payOf_29 : decode cX10_payOf 29 = .ok (.invokevirtual 364, 3) := by decide +kernel
theorem dX10_payOf_32 : decode cX10_payOf 32 = .ok (.ifCond .eq 6, 3) := by decide +kernel
theorem dX10_payOf_35 : decode cX10_payOf 35 = .ok (.bipush 8, 2) := by decide +kernel
theorem dX10_payOf_37 : decode cX10_payOf 37 = .ok (.ireturn, 1) := by decide +kernel
theorem dX10_payOf_38 : decode cX10_payOf 38 = .ok (.iconst (-1), 1) := by decide +kernel
theorem dX10_payOf_39 : decode cX10_payOf 39 = .ok (.istore 4, 2) := by decide +kernel
theorem dX10_payOf_41 : decode cX10_payOf 41 = .ok (.iconst 0, 1) := by decide +kernel
theorem dX10_payOf_42 : decode cX10_payOf 42 = .ok (.istore 5, 2) := by decide +kernel
theorem dX10_payOf_44 : decode cX10_payOf 44 = .ok (.iconst 0, 1) := by decide +kernel
theorem dX10_payOf_45 : decode cX10_payOf 45 = .ok (.istore 6, 2) := by decide +kernel
theorem dX10_payOf_47 : decode cX10_payOf 47 = .ok (.iload 6, 2) := by decide +kernel
theorem dX10_payOf_49 : decode cX10_payOf 49 = .ok (.bipush 8, 2) := by decide +kernel
theorem dX10_payOf_51 : decode cX10_payOf 51 = .ok (.if_icmp .ge 70, 3) := by decide +kernel
theorem dX10_payOf_54 : decode cX10_payOf 54 = .ok (.aload_n 0, 1) := by decide +kernel
theorem dX10_payOf_55 : decode cX10_payOf 55 = .ok (.iload_n 1, 1) := by decide +kernel
theorem dX10_payOf_56 : decode cX10_payOf 56 = .ok (.invokevirtual 351, 3) := by decide +kernel
theorem dX10_payOf_59 : decode cX10_payOf 59 = .ok (.aload_n 0, 1) := by decide +kernel
theorem dX10_payOf_60 : decode cX10_payOf 60 = .ok (.iload_n 2, 1) := by decide +kernel
theorem dX10_payOf_61 : decode cX10_payOf 61 = .ok (.invokevirtual 351, 3) := by decide +kernel
theorem dX10_payOf_64 : decode cX10_payOf 64 = .ok (.iconst (-1), 1) := by decide +kernel
theorem dX10_payOf_65 : decode cX10_payOf 65 = .ok (.ixor, 1) := by decide +kernel
theorem dX10_payOf_66 : decode cX10_payOf 66 = .ok (.iand, 1) := by decide +kernel
theorem dX10_payOf_67 : decode cX10_payOf 67 = .ok (.iconst 1, 1) := by decide +kernel
theorem dX10_payOf_68 : decode cX10_payOf 68 = .ok (.iload 6, 2) := by decide +kernel
theorem dX10_payOf_70 : decode cX10_payOf 70 = .ok (.ishl, 1) := by decide +kernel
theorem dX10_payOf_71 : decode cX10_payOf 71 = .ok (.iand, 1) := by decide +kernel
theorem dX10_payOf_72 : decode cX10_payOf 72 = .ok (.ifCond .eq 43, 3) := by decide +kernel
theorem dX10_payOf_75 : decode cX10_payOf 75 = .ok (.aload_n 0, 1) := by decide +kernel
theorem dX10_payOf_76 : decode cX10_payOf 76 = .ok (.iload_n 2, 1) := by decide +kernel
theorem dX10_payOf_77 : decode cX10_payOf 77 = .ok (.iload 6, 2) := by decide +kernel
theorem dX10_payOf_79 : decode cX10_payOf 79 = .ok (.invokevirtual 137, 3) := by decide +kernel
theorem dX10_payOf_82 : decode cX10_payOf 82 = .ok (.ifCond .eq 33, 3) := by decide +kernel
theorem dX10_payOf_85 : decode cX10_payOf 85 = .ok (.aload_n 0, 1) := by decide +kernel
theorem dX10_payOf_86 : decode cX10_payOf 86 = .ok (.iload_n 1, 1) := by decide +kernel
theorem dX10_payOf_87 : decode cX10_payOf 87 = .ok (.iload 6, 2) := by decide +kernel
theorem dX10_payOf_89 : decode cX10_payOf 89 = .ok (.invokevirtual 131, 3) := by decide +kernel
theorem dX10_payOf_92 : decode cX10_payOf 92 = .ok (.istore 7, 2) := by decide +kernel
theorem dX10_payOf_94 : decode cX10_payOf 94 = .ok (.iload 4, 2) := by decide +kernel
theorem dX10_payOf_96 : decode cX10_payOf 96 = .ok (.iconst (-1), 1) := by decide +kernel
theorem dX10_payOf_97 : decode cX10_payOf 97 = .ok (.if_icmp .eq 10, 3) := by decide +kernel
theorem dX10_payOf_100 : decode cX10_payOf 100 = .ok (.iload 7, 2) := by decide +kernel
theorem dX10_payOf_102 : decode cX10_payOf 102 = .ok (.iload 5, 2) := by decide +kernel
theorem dX10_payOf_104 : decode cX10_payOf 104 = .ok (.if_icmp .ge 11, 3) := by decide +kernel
theorem dX10_payOf_107 : decode cX10_payOf 107 = .ok (.iload 6, 2) := by decide +kernel
theorem dX10_payOf_109 : decode cX10_payOf 109 = .ok (.istore 4, 2) := by decide +kernel
theorem dX10_payOf_111 : decode cX10_payOf 111 = .ok (.iload 7, 2) := by decide +kernel
theorem dX10_payOf_113 : decode cX10_payOf 113 = .ok (.istore 5, 2) := by decide +kernel
theorem dX10_payOf_115 : decode cX10_payOf 115 = .ok (.iinc 6 1, 3) := by decide +kernel
theorem dX10_payOf_118 : decode cX10_payOf 118 = .ok (.goto (-71), 3) := by decide +kernel
theorem dX10_payOf_121 : decode cX10_payOf 121 = .ok (.iload 4, 2) := by decide +kernel
theorem dX10_payOf_123 : decode cX10_payOf 123 = .ok (.ireturn, 1) := by decide +kernel
theorem dX10_spends_0 : decode cX10_spends 0 = .ok (.aload_n 0, 1) := by decide +kernel
theorem dX10_spends_1 : decode cX10_spends 1 = .ok (.getfield 29, 3) := by decide +kernel
theorem dX10_spends_4 : decode cX10_spends 4 = .ok (.iconst 5, 1) := by decide +kernel
theorem dX10_spends_5 : decode cX10_spends 5 = .ok (.iload_n 1, 1) := by decide +kernel
theorem dX10_spends_6 : decode cX10_spends 6 = .ok (.imul, 1) := by decide +kernel
theorem dX10_spends_7 : decode cX10_spends 7 = .ok (.iconst 4, 1) := by decide +kernel
theorem dX10_spends_8 : decode cX10_spends 8 = .ok (.iadd, 1) := by decide +kernel
theorem dX10_spends_9 : decode cX10_spends 9 = .ok (.aload_n 0, 1) := by decide +kernel
theorem dX10_spends_10 : decode cX10_spends 10 = .ok (.getfield 29, 3) := by decide +kernel
theorem dX10_spends_13 : decode cX10_spends 13 = .ok (.iconst 5, 1) := by decide +kernel
theorem dX10_spends_14 : decode cX10_spends 14 = .ok (.iload_n 1, 1) := by decide +kernel
theorem dX10_spends_15 : decode cX10_spends 15 = .ok (.imul, 1) := by decide +kernel
theorem dX10_spends_16 : decode cX10_spends 16 = .ok (.iconst 4, 1) := by decide +kernel
theorem dX10_spends_17 : decode cX10_spends 17 = .ok (.iadd, 1) := by decide +kernel
theorem dX10_spends_18 : decode cX10_spends 18 = .ok (.iaload, 1) := by decide +kernel
theorem dX10_spends_19 : decode cX10_spends 19 = .ok (.iload_n 2, 1) := by decide +kernel
theorem dX10_spends_20 : decode cX10_spends 20 = .ok (.iadd, 1) := by decide +kernel
theorem dX10_spends_21 : decode cX10_spends 21 = .ok (.iconst 0, 1) := by decide +kernel
theorem dX10_spends_22 : decode cX10_spends 22 = .ok (.ldc_w 367, 3) := by decide +kernel
theorem dX10_spends_25 : decode cX10_spends 25 = .ok (.invokestatic 357, 3) := by decide +kernel
theorem dX10_spends_28 : decode cX10_spends 28 = .ok (.iastore, 1) := by decide +kernel
theorem dX10_spends_29 : decode cX10_spends 29 = .ok (.return_, 1) := by decide +kernel
theorem dX10_trades_0 : decode cX10_trades 0 = .ok (.aload_n 0, 1) := by decide +kernel
theorem dX10_trades_1 : decode cX10_trades 1 = .ok (.iload_n 2, 1) := by decide +kernel
theorem dX10_trades_2 : decode cX10_trades 2 = .ok (.iload_n 3, 1) := by decide +kernel
theorem dX10_trades_3 : decode cX10_trades 3 = .ok (.invokevirtual 134, 3) := by decide +kernel
theorem dX10_trades_6 : decode cX10_trades 6 = .ok (.istore 5, 2) := by decide +kernel
theorem dX10_trades_8 : decode cX10_trades 8 = .ok (.iload 4, 2) := by decide +kernel
theorem dX10_trades_10 : decode cX10_trades 10 = .ok (.bipush 8, 2) := by decide +kernel
theorem dX10_trades_12 : decode cX10_trades 12 = .ok (.if_icmp .ne 7, 3) := by decide +kernel
theorem dX10_trades_15 : decode cX10_trades 15 = .ok (.iconst 0, 1) := by decide +kernel
theorem dX10_trades_16 : decode cX10_trades 16 = .ok (.goto 10, 3) := by decide +kernel
theorem dX10_trades_19 : decode cX10_trades 19 = .ok (.aload_n 0, 1) := by decide +kernel
theorem dX10_trades_20 : decode cX10_trades 20 = .ok (.iload_n 1, 1) := by decide +kernel
theorem dX10_trades_21 : decode cX10_trades 21 = .ok (.iload 4, 2) := by decide +kernel
theorem dX10_trades_23 : decode cX10_trades 23 = .ok (.invokevirtual 134, 3) := by decide +kernel
theorem dX10_trades_26 : decode cX10_trades 26 = .ok (.istore 6, 2) := by decide +kernel
theorem dX10_trades_28 : decode cX10_trades 28 = .ok (.aload_n 0, 1) := by decide +kernel
theorem dX10_trades_29 : decode cX10_trades 29 = .ok (.iload_n 2, 1) := by decide +kernel
theorem dX10_trades_30 : decode cX10_trades 30 = .ok (.iload 5, 2) := by decide +kernel
theorem dX10_trades_32 : decode cX10_trades 32 = .ok (.invokevirtual 368, 3) := by decide +kernel
theorem dX10_trades_35 : decode cX10_trades 35 = .ok (.aload_n 0, 1) := by decide +kernel
theorem dX10_trades_36 : decode cX10_trades 36 = .ok (.iload_n 1, 1) := by decide +kernel
theorem dX10_trades_37 : decode cX10_trades 37 = .ok (.iload 6, 2) := by decide +kernel
theorem dX10_trades_39 : decode cX10_trades 39 = .ok (.invokevirtual 368, 3) := by decide +kernel
theorem dX10_trades_42 : decode cX10_trades 42 = .ok (.aload_n 0, 1) := by decide +kernel
theorem dX10_trades_43 : decode cX10_trades 43 = .ok (.getfield 29, 3) := by decide +kernel
theorem dX10_trades_46 : decode cX10_trades 46 = .ok (.iconst 5, 1) := by decide +kernel
theorem dX10_trades_47 : decode cX10_trades 47 = .ok (.iload_n 1, 1) := by decide +kernel
theorem dX10_trades_48 : decode cX10_trades 48 = .ok (.imul, 1) := by decide +kernel
theorem dX10_trades_49 : decode cX10_trades 49 = .ok (.iconst 2, 1) := by decide +kernel
theorem dX10_trades_50 : decode cX10_trades 50 = .ok (.iadd, 1) := by decide +kernel
theorem dX10_trades_51 : decode cX10_trades 51 = .ok (.dup2, 1) := by decide +kernel
theorem dX10_trades_52 : decode cX10_trades 52 = .ok (.iaload, 1) := by decide +kernel
theorem dX10_trades_53 : decode cX10_trades 53 = .ok (.iconst 1, 1) := by decide +kernel
theorem dX10_trades_54 : decode cX10_trades 54 = .ok (.iload_n 3, 1) := by decide +kernel
theorem dX10_trades_55 : decode cX10_trades 55 = .ok (.ishl, 1) := by decide +kernel
theorem dX10_trades_56 : decode cX10_trades 56 = .ok (.ior, 1) := by decide +kernel
theorem dX10_trades_57 : decode cX10_trades 57 = .ok (.iastore, 1) := by decide +kernel
theorem dX10_trades_58 : decode cX10_trades 58 = .ok (.aload_n 0, 1) := by decide +kernel
theorem dX10_trades_59 : decode cX10_trades 59 = .ok (.getfield 29, 3) := by decide +kernel
theorem dX10_trades_62 : decode cX10_trades 62 = .ok (.iconst 5, 1) := by decide +kernel
theorem dX10_trades_63 : decode cX10_trades 63 = .ok (.iload_n 2, 1) := by decide +kernel
theorem dX10_trades_64 : decode cX10_trades 64 = .ok (.imul, 1) := by decide +kernel
theorem dX10_trades_65 : decode cX10_trades 65 = .ok (.iconst 2, 1) := by decide +kernel
theorem dX10_trades_66 : decode cX10_trades 66 = .ok (.iadd, 1) := by decide +kernel
theorem dX10_trades_67 : decode cX10_trades 67 = .ok (.dup2, 1) := by decide +kernel
theorem dX10_trades_68 : decode cX10_trades 68 = .ok (.iaload, 1) := by decide +kernel
theorem dX10_trades_69 : decode cX10_trades 69 = .ok (.iload 4, 2) := by decide +kernel
theorem dX10_trades_71 : decode cX10_trades 71 = .ok (.bipush 8, 2) := by decide +kernel
theorem dX10_trades_73 : decode cX10_trades 73 = .ok (.if_icmp .ne 7, 3) := by decide +kernel
theorem dX10_trades_76 : decode cX10_trades 76 = .ok (.iconst 0, 1) := by decide +kernel
theorem dX10_trades_77 : decode cX10_trades 77 = .ok (.goto 7, 3) := by decide +kernel
theorem dX10_trades_80 : decode cX10_trades 80 = .ok (.iconst 1, 1) := by decide +kernel
theorem dX10_trades_81 : decode cX10_trades 81 = .ok (.iload 4, 2) := by decide +kernel
theorem dX10_trades_83 : decode cX10_trades 83 = .ok (.ishl, 1) := by decide +kernel
theorem dX10_trades_84 : decode cX10_trades 84 = .ok (.ior, 1) := by decide +kernel
theorem dX10_trades_85 : decode cX10_trades 85 = .ok (.iastore, 1) := by decide +kernel
theorem dX10_trades_86 : decode cX10_trades 86 = .ok (.return_, 1) := by decide +kernel
theorem dX10_pays_0 : decode cX10_pays 0 = .ok (.aload_n 0, 1) := by decide +kernel
theorem dX10_pays_1 : decode cX10_pays 1 = .ok (.iload_n 1, 1) := by decide +kernel
theorem dX10_pays_2 : decode cX10_pays 2 = .ok (.invokevirtual 84, 3) := by decide +kernel
theorem dX10_pays_5 : decode cX10_pays 5 = .ok (.ifCond .eq 33, 3) := by decide +kernel
theorem dX10_pays_8 : decode cX10_pays 8 = .ok (.aload_n 0, 1) := by decide +kernel
theorem dX10_pays_9 : decode cX10_pays 9 = .ok (.iload_n 2, 1) := by decide +kernel
theorem dX10_pays_10 : decode cX10_pays 10 = .ok (.invokevirtual 84, 3) := by decide +kernel
theorem dX10_pays_13 : decode cX10_pays 13 = .ok (.ifCond .eq 25, 3) := by decide +kernel
theorem dX10_pays_16 : decode cX10_pays 16 = .ok (.iload_n 1, 1) := by decide +kernel
theorem dX10_pays_17 : decode cX10_pays 17 = .ok (.iload_n 2, 1) := by decide +kernel
theorem dX10_pays_18 : decode cX10_pays 18 = .ok (.if_icmp .eq 20, 3) := by decide +kernel
theorem dX10_pays_21 : decode cX10_pays 21 = .ok (.iload_n 3, 1) := by decide +kernel
theorem dX10_pays_22 : decode cX10_pays 22 = .ok (.invokestatic 106, 3) := by decide +kernel
theorem dX10_pays_25 : decode cX10_pays 25 = .ok (.ifCond .eq 13, 3) := by decide +kernel
theorem dX10_pays_28 : decode cX10_pays 28 = .ok (.aload_n 0, 1) := by decide +kernel
theorem dX10_pays_29 : decode cX10_pays 29 = .ok (.iload_n 1, 1) := by decide +kernel
theorem dX10_pays_30 : decode cX10_pays 30 = .ok (.iload_n 2, 1) := by decide +kernel
theorem dX10_pays_31 : decode cX10_pays 31 = .ok (.iload_n 3, 1) := by decide +kernel
theorem dX10_pays_32 : decode cX10_pays 32 = .ok (.invokevirtual 372, 3) := by decide +kernel
theorem dX10_pays_35 : decode cX10_pays 35 = .ok (.goto 5, 3) := by decide +kernel
theorem dX10_pays_38 : decode cX10_pays 38 = .ok (.bipush (-2), 2) := by decide +kernel
theorem dX10_pays_40 : decode cX10_pays 40 = .ok (.ireturn, 1) := by decide +kernel
theorem dX10_trade_0 : decode cX10_trade 0 = .ok (.aload_n 0, 1) := by decide +kernel
theorem dX10_trade_1 : decode cX10_trade 1 = .ok (.iload_n 1, 1) := by decide +kernel
theorem dX10_trade_2 : decode cX10_trade 2 = .ok (.invokevirtual 84, 3) := by decide +kernel
theorem dX10_trade_5 : decode cX10_trade 5 = .ok (.ifCond .eq 23, 3) := by decide +kernel
theorem dX10_trade_8 : decode cX10_trade 8 = .ok (.aload_n 0, 1) := by decide +kernel
theorem dX10_trade_9 : decode cX10_trade 9 = .ok (.iload_n 2, 1) := by decide +kernel
theorem dX10_trade_10 : decode cX10_trade 10 = .ok (.invokevirtual 84, 3) := by decide +kernel
theorem dX10_trade_13 : decode cX10_trade 13 = .ok (.ifCond .eq 15, 3) := by decide +kernel
theorem dX10_trade_16 : decode cX10_trade 16 = .ok (.iload_n 1, 1) := by decide +kernel
theorem dX10_trade_17 : decode cX10_trade 17 = .ok (.iload_n 2, 1) := by decide +kernel
theorem dX10_trade_18 : decode cX10_trade 18 = .ok (.if_icmp .eq 10, 3) := by decide +kernel
theorem dX10_trade_21 : decode cX10_trade 21 = .ok (.iload_n 3, 1) := by decide +kernel
theorem dX10_trade_22 : decode cX10_trade 22 = .ok (.invokestatic 106, 3) := by decide +kernel
theorem dX10_trade_25 : decode cX10_trade 25 = .ok (.ifCond .ne 6, 3) := by decide +kernel
theorem dX10_trade_28 : decode cX10_trade 28 = .ok (.bipush (-2), 2) := by decide +kernel
theorem dX10_trade_30 : decode cX10_trade 30 = .ok (.ireturn, 1) := by decide +kernel
theorem dX10_trade_31 : decode cX10_trade 31 = .ok (.aload_n 0, 1) := by decide +kernel
theorem dX10_trade_32 : decode cX10_trade 32 = .ok (.iload_n 1, 1) := by decide +kernel
theorem dX10_trade_33 : decode cX10_trade 33 = .ok (.iload_n 2, 1) := by decide +kernel
theorem dX10_trade_34 : decode cX10_trade 34 = .ok (.iload_n 3, 1) := by decide +kernel
theorem dX10_trade_35 : decode cX10_trade 35 = .ok (.invokevirtual 372, 3) := by decide +kernel
theorem dX10_trade_38 : decode cX10_trade 38 = .ok (.istore 4, 2) := by decide +kernel
theorem dX10_trade_40 : decode cX10_trade 40 = .ok (.iload 4, 2) := by decide +kernel
theorem dX10_trade_42 : decode cX10_trade 42 = .ok (.iconst (-1), 1) := by decide +kernel
theorem dX10_trade_43 : decode cX10_trade 43 = .ok (.if_icmp .ne 6, 3) := by decide +kernel
theorem dX10_trade_46 : decode cX10_trade 46 = .ok (.bipush (-3), 2) := by decide +kernel
theorem dX10_trade_48 : decode cX10_trade 48 = .ok (.ireturn, 1) := by decide +kernel
theorem dX10_trade_49 : decode cX10_trade 49 = .ok (.aload_n 0, 1) := by decide +kernel
theorem dX10_trade_50 : decode cX10_trade 50 = .ok (.iload_n 1, 1) := by decide +kernel
theorem dX10_trade_51 : decode cX10_trade 51 = .ok (.iload_n 2, 1) := by decide +kernel
theorem dX10_trade_52 : decode cX10_trade 52 = .ok (.iload_n 3, 1) := by decide +kernel
theorem dX10_trade_53 : decode cX10_trade 53 = .ok (.iload 4, 2) := by decide +kernel
theorem dX10_trade_55 : decode cX10_trade 55 = .ok (.invokevirtual 375, 3) := by decide +kernel
theorem dX10_trade_58 : decode cX10_trade 58 = .ok (.iload 4, 2) := by decide +kernel
theorem dX10_trade_60 : decode cX10_trade 60 = .ok (.ireturn, 1) := by decide +kernel
theorem dX10_meets1_0 : decode cX10_meets1 0 = .ok (.iconst 0, 1) := by decide +kernel
theorem dX10_meets1_1 : decode cX10_meets1 1 = .ok (.istore_n 3, 1) := by decide +kernel
theorem dX10_meets1_2 : decode cX10_meets1 2 = .ok (.iload_n 3, 1) := by decide +kernel
theorem dX10_meets1_3 : decode cX10_meets1 3 = .ok (.bipush 8, 2) := by decide +kernel
theorem dX10_meets1_5 : decode cX10_meets1 5 = .ok (.if_icmp .ge 53, 3) := by decide +kernel
theorem dX10_meets1_8 : decode cX10_meets1 8 = .ok (.aload_n 0, 1) := by decide +kernel
theorem dX10_meets1_9 : decode cX10_meets1 9 = .ok (.getfield 29, 3) := by decide +kernel
theorem dX10_meets1_12 : decode cX10_meets1 12 = .ok (.iconst 5, 1) := by decide +kernel
theorem dX10_meets1_13 : decode cX10_meets1 13 = .ok (.iload_n 1, 1) := by decide +kernel
theorem dX10_meets1_14 : decode cX10_meets1 14 = .ok (.imul, 1) := by decide +kernel
theorem dX10_meets1_15 : decode cX10_meets1 15 = .ok (.iconst 3, 1) := by decide +kernel
theorem dX10_meets1_16 : decode cX10_meets1 16 = .ok (.iadd, 1) := by decide +kernel
theorem dX10_meets1_17 : decode cX10_meets1 17 = .ok (.iaload, 1) := by decide +kernel
theorem dX10_meets1_18 : decode cX10_meets1 18 = .ok (.iload_n 3, 1) := by decide +kernel
theorem dX10_meets1_19 : decode cX10_meets1 19 = .ok (.ishr, 1) := by decide +kernel
theorem dX10_meets1_20 : decode cX10_meets1 20 = .ok (.iconst 1, 1) := by decide +kernel
theorem dX10_meets1_21 : decode cX10_meets1 21 = .ok (.iand, 1) := by decide +kernel
theorem dX10_meets1_22 : decode cX10_meets1 22 = .ok (.iconst 1, 1) := by decide +kernel
theorem dX10_meets1_23 : decode cX10_meets1 23 = .ok (.if_icmp .ne 29, 3) := by decide +kernel
theorem dX10_meets1_26 : decode cX10_meets1 26 = .ok (.aload_n 0, 1) := by decide +kernel
theorem dX10_meets1_27 : decode cX10_meets1 27 = .ok (.iload_n 1, 1) := by decide +kernel
theorem dX10_meets1_28 : decode cX10_meets1 28 = .ok (.iload_n 2, 1) := by decide +kernel
theorem dX10_meets1_29 : decode cX10_meets1 29 = .ok (.iload_n 3, 1) := by decide +kernel
theorem dX10_meets1_30 : decode cX10_meets1 30 = .ok (.invokevirtual 372, 3) := by decide +kernel
theorem dX10_meets1_33 : decode cX10_meets1 33 = .ok (.istore 4, 2) := by decide +kernel
theorem dX10_meets1_35 : decode cX10_meets1 35 = .ok (.iload 4, 2) := by decide +kernel
theorem dX10_meets1_37 : decode cX10_meets1 37 = .ok (.iconst (-1), 1) := by decide +kernel
theorem dX10_meets1_38 : decode cX10_meets1 38 = .ok (.if_icmp .eq 14, 3) := by decide +kernel
theorem dX10_meets1_41 : decode cX10_meets1 41 = .ok (.aload_n 0, 1) := by decide +kernel
theorem dX10_meets1_42 : decode cX10_meets1 42 = .ok (.iload_n 1, 1) := by decide +kernel
theorem dX10_meets1_43 : decode cX10_meets1 43 = .ok (.iload_n 2, 1) := by decide +kernel
theorem dX10_meets1_44 : decode cX10_meets1 44 = .ok (.iload_n 3, 1) := by decide +kernel
theorem dX10_meets1_45 : decode cX10_meets1 45 = .ok (.iload 4, 2) := by decide +kernel
theorem dX10_meets1_47 : decode cX10_meets1 47 = .ok (.invokevirtual 375, 3) := by decide +kernel
theorem dX10_meets1_50 : decode cX10_meets1 50 = .ok (.iconst 1, 1) := by decide +kernel
theorem dX10_meets1_51 : decode cX10_meets1 51 = .ok (.ireturn, 1) := by decide +kernel
theorem dX10_meets1_52 : decode cX10_meets1 52 = .ok (.iinc 3 1, 3) := by decide +kernel
theorem dX10_meets1_55 : decode cX10_meets1 55 = .ok (.goto (-53), 3) := by decide +kernel
theorem dX10_meets1_58 : decode cX10_meets1 58 = .ok (.iconst 0, 1) := by decide +kernel
theorem dX10_meets1_59 : decode cX10_meets1 59 = .ok (.ireturn, 1) := by decide +kernel
theorem dX10_passes_0 : decode cX10_passes 0 = .ok (.iconst 0, 1) := by decide +kernel
theorem dX10_passes_1 : decode cX10_passes 1 = .ok (.istore_n 2, 1) := by decide +kernel
theorem dX10_passes_2 : decode cX10_passes 2 = .ok (.iconst 0, 1) := by decide +kernel
theorem dX10_passes_3 : decode cX10_passes 3 = .ok (.istore_n 3, 1) := by decide +kernel
theorem dX10_passes_4 : decode cX10_passes 4 = .ok (.iload_n 3, 1) := by decide +kernel
theorem dX10_passes_5 : decode cX10_passes 5 = .ok (.aload_n 0, 1) := by decide +kernel
theorem dX10_passes_6 : decode cX10_passes 6 = .ok (.getfield 73, 3) := by decide +kernel
theorem dX10_passes_9 : decode cX10_passes 9 = .ok (.if_icmp .ge 58, 3) := by decide +kernel
theorem dX10_passes_12 : decode cX10_passes 12 = .ok (.iconst 0, 1) := by decide +kernel
theorem dX10_passes_13 : decode cX10_passes 13 = .ok (.istore 4, 2) := by decide +kernel
theorem dX10_passes_15 : decode cX10_passes 15 = .ok (.iload 4, 2) := by decide +kernel
theorem dX10_passes_17 : decode cX10_passes 17 = .ok (.aload_n 0, 1) := by decide +kernel
theorem dX10_passes_18 : decode cX10_passes 18 = .ok (.getfield 73, 3) := by decide +kernel
theorem dX10_passes_21 : decode cX10_passes 21 = .ok (.if_icmp .ge 40, 3) := by decide +kernel
theorem dX10_passes_24 : decode cX10_passes 24 = .ok (.iload_n 2, 1) := by decide +kernel
theorem dX10_passes_25 : decode cX10_passes 25 = .ok (.iload_n 3, 1) := by decide +kernel
theorem dX10_passes_26 : decode cX10_passes 26 = .ok (.iload 4, 2) := by decide +kernel
theorem dX10_passes_28 : decode cX10_passes 28 = .ok (.if_icmp .eq 24, 3) := by decide +kernel
theorem dX10_passes_31 : decode cX10_passes 31 = .ok (.iload_n 3, 1) := by decide +kernel
theorem dX10_passes_32 : decode cX10_passes 32 = .ok (.iload_n 1, 1) := by decide +kernel
theorem dX10_passes_33 : decode cX10_passes 33 = .ok (.if_icmp .eq 19, 3) := by decide +kernel
theorem dX10_passes_36 : decode cX10_passes 36 = .ok (.iload 4, 2) := by decide +kernel
theorem dX10_passes_38 : decode cX10_passes 38 = .ok (.iload_n 1, 1) := by decide +kernel
theorem dX10_passes_39 : decode cX10_passes 39 = .ok (.if_icmp .eq 13, 3) := by decide +kernel
theorem dX10_passes_42 : decode cX10_passes 42 = .ok (.aload_n 0, 1) := by decide +kernel
theorem dX10_passes_43 : decode cX10_passes 43 = .ok (.iload_n 3, 1) := by decide +kernel
theorem dX10_passes_44 : decode cX10_passes 44 = .ok (.iload 4, 2) := by decide +kernel
theorem dX10_passes_46 : decode cX10_passes 46 = .ok (.invokevirtual 379, 3) := by decide +kernel
theorem dX10_passes_49 : decode cX10_passes 49 = .ok (.goto 4, 3) := by decide +kernel
theorem dX10_passes_52 : decode cX10_passes 52 = .ok (.iconst 0, 1) := by decide +kernel
theorem dX10_passes_53 : decode cX10_passes 53 = .ok (.iadd, 1) := by decide +kernel
theorem dX10_passes_54 : decode cX10_passes 54 = .ok (.istore_n 2, 1) := by decide +kernel
theorem dX10_passes_55 : decode cX10_passes 55 = .ok (.iinc 4 1, 3) := by decide +kernel
theorem dX10_passes_58 : decode cX10_passes 58 = .ok (.goto (-43), 3) := by decide +kernel
theorem dX10_passes_61 : decode cX10_passes 61 = .ok (.iinc 3 1, 3) := by decide +kernel
theorem dX10_passes_64 : decode cX10_passes 64 = .ok (.goto (-60), 3) := by decide +kernel
theorem dX10_passes_67 : decode cX10_passes 67 = .ok (.aload_n 0, 1) := by decide +kernel
theorem dX10_passes_68 : decode cX10_passes 68 = .ok (.dup, 1) := by decide +kernel
theorem dX10_passes_69 : decode cX10_passes 69 = .ok (.getfield 100, 3) := by decide +kernel
theorem dX10_passes_72 : decode cX10_passes 72 = .ok (.iconst 1, 1) := by decide +kernel
theorem dX10_passes_73 : decode cX10_passes 73 = .ok (.iadd, 1) := by decide +kernel
theorem dX10_passes_74 : decode cX10_passes 74 = .ok (.putfield 100, 3) := by decide +kernel
theorem dX10_passes_77 : decode cX10_passes 77 = .ok (.iload_n 2, 1) := by decide +kernel
theorem dX10_passes_78 : decode cX10_passes 78 = .ok (.ireturn, 1) := by decide +kernel
theorem dX10_round_0 : decode cX10_round 0 = .ok (.aload_n 0, 1) := by decide +kernel
theorem dX10_round_1 : decode cX10_round 1 = .ok (.getfield 100, 3) := by decide +kernel
theorem dX10_round_4 : decode cX10_round 4 = .ok (.sipush 999, 3) := by decide +kernel
theorem dX10_round_7 : decode cX10_round 7 = .ok (.if_icmp .ne 8, 3) := by decide +kernel
theorem dX10_round_10 : decode cX10_round 10 = .ok (.bipush (-3), 2) := by decide +kernel
theorem dX10_round_12 : decode cX10_round 12 = .ok (.goto 8, 3) := by decide +kernel
theorem dX10_round_15 : decode cX10_round 15 = .ok (.aload_n 0, 1) := by decide +kernel
theorem dX10_round_16 : decode cX10_round 16 = .ok (.iconst (-1), 1) := by decide +kernel
theorem dX10_round_17 : decode cX10_round 17 = .ok (.invokevirtual 382, 3) := by decide +kernel
theorem dX10_round_20 : decode cX10_round 20 = .ok (.ireturn, 1) := by decide +kernel
theorem dX10_laysAside_0 : decode cX10_laysAside 0 = .ok (.iconst 0, 1) := by decide +kernel
theorem dX10_laysAside_1 : decode cX10_laysAside 1 = .ok (.istore_n 1, 1) := by decide +kernel
theorem dX10_laysAside_2 : decode cX10_laysAside 2 = .ok (.iload_n 1, 1) := by decide +kernel
theorem dX10_laysAside_3 : decode cX10_laysAside 3 = .ok (.bipush 30, 2) := by decide +kernel
theorem dX10_laysAside_5 : decode cX10_laysAside 5 = .ok (.if_icmp .ge 21, 3) := by decide +kernel
theorem dX10_laysAside_8 : decode cX10_laysAside 8 = .ok (.aload_n 0, 1) := by decide +kernel
theorem dX10_laysAside_9 : decode cX10_laysAside 9 = .ok (.getfield 35, 3) := by decide +kernel
theorem dX10_laysAside_12 : decode cX10_laysAside 12 = .ok (.iload_n 1, 1) := by decide +kernel
theorem dX10_laysAside_13 : decode cX10_laysAside 13 = .ok (.aload_n 0, 1) := by decide +kernel
theorem dX10_laysAside_14 : decode cX10_laysAside 14 = .ok (.getfield 29, 3) := by decide +kernel
theorem dX10_laysAside_17 : decode cX10_laysAside 17 = .ok (.iload_n 1, 1) := by decide +kernel
theorem dX10_laysAside_18 : decode cX10_laysAside 18 = .ok (.iaload, 1) := by decide +kernel
theorem dX10_laysAside_19 : decode cX10_laysAside 19 = .ok (.iastore, 1) := by decide +kernel
theorem dX10_laysAside_20 : decode cX10_laysAside 20 = .ok (.iinc 1 1, 3) := by decide +kernel
theorem dX10_laysAside_23 : decode cX10_laysAside 23 = .ok (.goto (-21), 3) := by decide +kernel
theorem dX10_laysAside_26 : decode cX10_laysAside 26 = .ok (.aload_n 0, 1) := by decide +kernel
theorem dX10_laysAside_27 : decode cX10_laysAside 27 = .ok (.aload_n 0, 1) := by decide +kernel
theorem dX10_laysAside_28 : decode cX10_laysAside 28 = .ok (.getfield 100, 3) := by decide +kernel
theorem dX10_laysAside_31 : decode cX10_laysAside 31 = .ok (.putfield 385, 3) := by decide +kernel
theorem dX10_laysAside_34 : decode cX10_laysAside 34 = .ok (.return_, 1) := by decide +kernel
theorem dX10_laysBack_0 : decode cX10_laysBack 0 = .ok (.iconst 0, 1) := by decide +kernel
theorem dX10_laysBack_1 : decode cX10_laysBack 1 = .ok (.istore_n 1, 1) := by decide +kernel
theorem dX10_laysBack_2 : decode cX10_laysBack 2 = .ok (.iload_n 1, 1) := by decide +kernel
theorem dX10_laysBack_3 : decode cX10_laysBack 3 = .ok (.bipush 30, 2) := by decide +kernel
theorem dX10_laysBack_5 : decode cX10_laysBack 5 = .ok (.if_icmp .ge 21, 3) := by decide +kernel
theorem dX10_laysBack_8 : decode cX10_laysBack 8 = .ok (.aload_n 0, 1) := by decide +kernel
theorem dX10_laysBack_9 : decode cX10_laysBack 9 = .ok (.getfield 29, 3) := by decide +kernel
theorem dX10_laysBack_12 : decode cX10_laysBack 12 = .ok (.iload_n 1, 1) := by decide +kernel
theorem dX10_laysBack_13 : decode cX10_laysBack 13 = .ok (.aload_n 0, 1) := by decide +kernel
theorem dX10_laysBack_14 : decode cX10_laysBack 14 = .ok (.getfield 35, 3) := by decide +kernel
theorem dX10_laysBack_17 : decode cX10_laysBack 17 = .ok (.iload_n 1, 1) := by decide +kernel
theorem dX10_laysBack_18 : decode cX10_laysBack 18 = .ok (.iaload, 1) := by decide +kernel
theorem dX10_laysBack_19 : decode cX10_laysBack 19 = .ok (.iastore, 1) := by decide +kernel
theorem dX10_laysBack_20 : decode cX10_laysBack 20 = .ok (.iinc 1 1, 3) := by decide +kernel
theorem dX10_laysBack_23 : decode cX10_laysBack 23 = .ok (.goto (-21), 3) := by decide +kernel
theorem dX10_laysBack_26 : decode cX10_laysBack 26 = .ok (.aload_n 0, 1) := by decide +kernel
theorem dX10_laysBack_27 : decode cX10_laysBack 27 = .ok (.aload_n 0, 1) := by decide +kernel
theorem dX10_laysBack_28 : decode cX10_laysBack 28 = .ok (.getfield 385, 3) := by decide +kernel
theorem dX10_laysBack_31 : decode cX10_laysBack 31 = .ok (.putfield 100, 3) := by decide +kernel
theorem dX10_laysBack_34 : decode cX10_laysBack 34 = .ok (.return_, 1) := by decide +kernel
theorem dX10_knownAll_0 : decode cX10_knownAll 0 = .ok (.iconst 0, 1) := by decide +kernel
theorem dX10_knownAll_1 : decode cX10_knownAll 1 = .ok (.istore_n 1, 1) := by decide +kernel
theorem dX10_knownAll_2 : decode cX10_knownAll 2 = .ok (.iconst 0, 1) := by decide +kernel
theorem dX10_knownAll_3 : decode cX10_knownAll 3 = .ok (.istore_n 2, 1) := by decide +kernel
theorem dX10_knownAll_4 : decode cX10_knownAll 4 = .ok (.iload_n 2, 1) := by decide +kernel
theorem dX10_knownAll_5 : decode cX10_knownAll 5 = .ok (.aload_n 0, 1) := by decide +kernel
theorem dX10_knownAll_6 : decode cX10_knownAll 6 = .ok (.getfield 73, 3) := by decide +kernel
theorem dX10_knownAll_9 : decode cX10_knownAll 9 = .ok (.if_icmp .ge 20, 3) := by decide +kernel
theorem dX10_knownAll_12 : decode cX10_knownAll 12 = .ok (.iload_n 1, 1) := by decide +kernel
theorem dX10_knownAll_13 : decode cX10_knownAll 13 = .ok (.aload_n 0, 1) := by decide +kernel
theorem dX10_knownAll_14 : decode cX10_knownAll 14 = .ok (.iload_n 2, 1) := by decide +kernel
theorem dX10_knownAll_15 : decode cX10_knownAll 15 = .ok (.invokevirtual 351, 3) := by decide +kernel
theorem dX10_knownAll_18 : decode cX10_knownAll 18 = .ok (.invokestatic 354, 3) := by decide +kernel
theorem dX10_knownAll_21 : decode cX10_knownAll 21 = .ok (.iadd, 1) := by decide +kernel
theorem dX10_knownAll_22 : decode cX10_knownAll 22 = .ok (.istore_n 1, 1) := by decide +kernel
theorem dX10_knownAll_23 : decode cX10_knownAll 23 = .ok (.iinc 2 1, 3) := by decide +kernel
theorem dX10_knownAll_26 : decode cX10_knownAll 26 = .ok (.goto (-22), 3) := by decide +kernel
theorem dX10_knownAll_29 : decode cX10_knownAll 29 = .ok (.iload_n 1, 1) := by decide +kernel
theorem dX10_knownAll_30 : decode cX10_knownAll 30 = .ok (.ireturn, 1) := by decide +kernel
theorem dX10_minutesAll_0 : decode cX10_minutesAll 0 = .ok (.iconst 0, 1) := by decide +kernel
theorem dX10_minutesAll_1 : decode cX10_minutesAll 1 = .ok (.istore_n 1, 1) := by decide +kernel
theorem dX10_minutesAll_2 : decode cX10_minutesAll 2 = .ok (.iconst 0, 1) := by decide +kernel
theorem dX10_minutesAll_3 : decode cX10_minutesAll 3 = .ok (.istore_n 2, 1) := by decide +kernel
theorem dX10_minutesAll_4 : decode cX10_minutesAll 4 = .ok (.iload_n 2, 1) := by decide +kernel
theorem dX10_minutesAll_5 : decode cX10_minutesAll 5 = .ok (.aload_n 0, 1) := by decide +kernel
theorem dX10_minutesAll_6 : decode cX10_minutesAll 6 = .ok (.getfield 73, 3) := by decide +kernel
theorem dX10_minutesAll_9 : decode cX10_minutesAll 9 = .ok (.if_icmp .ge 22, 3) := by decide +kernel
theorem dX10_minutesAll_12 : decode cX10_minutesAll 12 = .ok (.iload_n 1, 1) := by decide +kernel
theorem dX10_minutesAll_13 : decode cX10_minutesAll 13 = .ok (.aload_n 0, 1) := by decide +kernel
theorem dX10_minutesAll_14 : decode cX10_minutesAll 14 = .ok (.getfield 29, 3) := by decide +kernel
theorem dX10_minutesAll_17 : decode cX10_minutesAll 17 = .ok (.iconst 5, 1) := by decide +kernel
theorem dX10_minutesAll_18 : decode cX10_minutesAll 18 = .ok (.iload_n 2, 1) := by decide +kernel
theorem dX10_minutesAll_19 : decode cX10_minutesAll 19 = .ok (.imul, 1) := by decide +kernel
theorem dX10_minutesAll_20 : decode cX10_minutesAll 20 = .ok (.iconst 4, 1) := by decide +kernel
theorem dX10_minutesAll_21 : decode cX10_minutesAll 21 = .ok (.iadd, 1) := by decide +kernel
theorem dX10_minutesAll_22 : decode cX10_minutesAll 22 = .ok (.iaload, 1) := by decide +kernel
theorem dX10_minutesAll_23 : decode cX10_minutesAll 23 = .ok (.iadd, 1) := by decide +kernel
theorem dX10_minutesAll_24 : decode cX10_minutesAll 24 = .ok (.istore_n 1, 1) := by decide +kernel
theorem dX10_minutesAll_25 : decode cX10_minutesAll 25 = .ok (.iinc 2 1, 3) := by decide +kernel
theorem dX10_minutesAll_28 : decode cX10_minutesAll 28 = .ok (.goto (-24), 3) := by decide +kernel
theorem dX10_minutesAll_31 : decode cX10_minutesAll 31 = .ok (.iload_n 1, 1) := by decide +kernel
theorem dX10_minutesAll_32 : decode cX10_minutesAll 32 = .ok (.ireturn, 1) := by decide +kernel
theorem dX10_run_0 : decode cX10_run 0 = .ok (.iload_n 1, 1) := by decide +kernel
theorem dX10_run_1 : decode cX10_run 1 = .ok (.i2l, 1) := by decide +kernel
theorem dX10_run_2 : decode cX10_run 2 = .ok (.lconst 0, 1) := by decide +kernel
theorem dX10_run_3 : decode cX10_run 3 = .ok (.ldc2_w 121, 3) := by decide +kernel
theorem dX10_run_6 : decode cX10_run 6 = .ok (.invokestatic 76, 3) := by decide +kernel
theorem dX10_run_9 : decode cX10_run 9 = .ok (.ifCond .eq 38, 3) := by decide +kernel
theorem dX10_run_12 : decode cX10_run 12 = .ok (.iload_n 2, 1) := by decide +kernel
theorem dX10_run_13 : decode cX10_run 13 = .ok (.i2l, 1) := by decide +kernel
theorem dX10_run_14 : decode cX10_run 14 = .ok (.lconst 0, 1) := by decide +kernel
theorem dX10_run_15 : decode cX10_run 15 = .ok (.lconst 1, 1) := by decide +kernel
theorem dX10_run_16 : decode cX10_run 16 = .ok (.invokestatic 76, 3) := by decide +kernel
theorem dX10_run_19 : decode cX10_run 19 = .ok (.ifCond .ne 31, 3) := by decide +kernel
theorem dX10_run_22 : decode cX10_run 22 = .ok (.iload_n 2, 1) := by decide +kernel
theorem dX10_run_23 : decode cX10_run 23 = .ok (.i2l, 1) := by decide +kernel
theorem dX10_run_24 : decode cX10_run 24 = .ok (.ldc2_w 117, 3) := by decide +kernel
theorem dX10_run_27 : decode cX10_run 27 = .ok (.ldc2_w 388, 3) := by decide +kernel
theorem dX10_run_30 : decode cX10_run 30 = .ok (.invokestatic 76, 3) := by decide +kernel
theorem dX10_run_33 : decode cX10_run 33 = .ok (.ifCond .eq 14, 3) := by decide +kernel
theorem dX10_run_36 : decode cX10_run 36 = .ok (.aload_n 0, 1) := by decide +kernel
theorem dX10_run_37 : decode cX10_run 37 = .ok (.iload_n 2, 1) := by decide +kernel
theorem dX10_run_38 : decode cX10_run 38 = .ok (.bipush 10, 2) := by decide +kernel
theorem dX10_run_40 : decode cX10_run 40 = .ok (.isub, 1) := by decide +kernel
theorem dX10_run_41 : decode cX10_run 41 = .ok (.invokevirtual 84, 3) := by decide +kernel
theorem dX10_run_44 : decode cX10_run 44 = .ok (.ifCond .ne 6, 3) := by decide +kernel
theorem dX10_run_47 : decode cX10_run 47 = .ok (.bipush (-2), 2) := by decide +kernel
theorem dX10_run_49 : decode cX10_run 49 = .ok (.ireturn, 1) := by decide +kernel
theorem dX10_run_50 : decode cX10_run 50 = .ok (.aload_n 0, 1) := by decide +kernel
theorem dX10_run_51 : decode cX10_run 51 = .ok (.invokevirtual 390, 3) := by decide +kernel
theorem dX10_run_54 : decode cX10_run 54 = .ok (.istore_n 3, 1) := by decide +kernel
theorem dX10_run_55 : decode cX10_run 55 = .ok (.aload_n 0, 1) := by decide +kernel
theorem dX10_run_56 : decode cX10_run 56 = .ok (.invokevirtual 393, 3) := by decide +kernel
theorem dX10_run_59 : decode cX10_run 59 = .ok (.iconst 0, 1) := by decide +kernel
theorem dX10_run_60 : decode cX10_run 60 = .ok (.istore 4, 2) := by decide +kernel
theorem dX10_run_62 : decode cX10_run 62 = .ok (.iload 4, 2) := by decide +kernel
theorem dX10_run_64 : decode cX10_run 64 = .ok (.iload_n 1, 1) := by decide +kernel
theorem dX10_run_65 : decode cX10_run 65 = .ok (.if_icmp .ge 15, 3) := by decide +kernel
theorem dX10_run_68 : decode cX10_run 68 = .ok (.aload_n 0, 1) := by decide +kernel
theorem dX10_run_69 : decode cX10_run 69 = .ok (.iconst (-1), 1) := by decide +kernel
theorem dX10_run_70 : decode cX10_run 70 = .ok (.invokevirtual 382, 3) := by decide +kernel
theorem dX10_run_73 : decode cX10_run 73 = .ok (.pop, 1) := by decide +kernel
theorem dX10_run_74 : decode cX10_run 74 = .ok (.iinc 4 1, 3) := by decide +kernel
theorem dX10_run_77 : decode cX10_run 77 = .ok (.goto (-15), 3) := by decide +kernel
theorem dX10_run_80 : decode cX10_run 80 = .ok (.iload_n 2, 1) := by decide +kernel
theorem dX10_run_81 : decode cX10_run 81 = .ok (.ifCond .ne 10, 3) := by decide +kernel
theorem dX10_run_84 : decode cX10_run 84 = .ok (.aload_n 0, 1) := by decide +kernel
theorem dX10_run_85 : decode cX10_run 85 = .ok (.invokevirtual 396, 3) := by decide +kernel
theorem dX10_run_88 : decode cX10_run 88 = .ok (.goto 25, 3) := by decide +kernel
theorem dX10_run_91 : decode cX10_run 91 = .ok (.iload_n 2, 1) := by decide +kernel
theorem dX10_run_92 : decode cX10_run 92 = .ok (.iconst 1, 1) := by decide +kernel
theorem dX10_run_93 : decode cX10_run 93 = .ok (.if_icmp .ne 12, 3) := by decide +kernel
theorem dX10_run_96 : decode cX10_run 96 = .ok (.aload_n 0, 1) := by decide +kernel
theorem dX10_run_97 : decode cX10_run 97 = .ok (.invokevirtual 390, 3) := by decide +kernel
theorem dX10_run_100 : decode cX10_run 100 = .ok (.iload_n 3, 1) := by decide +kernel
theorem dX10_run_101 : decode cX10_run 101 = .ok (.isub, 1) := by decide +kernel
theorem dX10_run_102 : decode cX10_run 102 = .ok (.goto 11, 3) := by decide +kernel
theorem dX10_run_105 : decode cX10_run 105 = .ok (.aload_n 0, 1) := by decide +kernel
theorem dX10_run_106 : decode cX10_run 106 = .ok (.iload_n 2, 1) := by decide +kernel
theorem dX10_run_107 : decode cX10_run 107 = .ok (.bipush 10, 2) := by decide +kernel
theorem dX10_run_109 : decode cX10_run 109 = .ok (.isub, 1) := by decide +kernel
theorem dX10_run_110 : decode cX10_run 110 = .ok (.invokevirtual 351, 3) := by decide +kernel
theorem dX10_run_113 : decode cX10_run 113 = .ok (.istore 4, 2) := by decide +kernel
theorem dX10_run_115 : decode cX10_run 115 = .ok (.aload_n 0, 1) := by decide +kernel
theorem dX10_run_116 : decode cX10_run 116 = .ok (.invokevirtual 399, 3) := by decide +kernel
theorem dX10_run_119 : decode cX10_run 119 = .ok (.iload 4, 2) := by decide +kernel
theorem dX10_run_121 : decode cX10_run 121 = .ok (.ireturn, 1) := by decide +kernel
theorem dX10_all_0 : decode cX10_all 0 = .ok (.iload_n 1, 1) := by decide +kernel
theorem dX10_all_1 : decode cX10_all 1 = .ok (.i2l, 1) := by decide +kernel
theorem dX10_all_2 : decode cX10_all 2 = .ok (.lconst 0, 1) := by decide +kernel
theorem dX10_all_3 : decode cX10_all 3 = .ok (.ldc2_w 402, 3) := by decide +kernel
theorem dX10_all_6 : decode cX10_all 6 = .ok (.invokestatic 76, 3) := by decide +kernel
theorem dX10_all_9 : decode cX10_all 9 = .ok (.ifCond .ne 6, 3) := by decide +kernel
theorem dX10_all_12 : decode cX10_all 12 = .ok (.bipush (-2), 2) := by decide +kernel
theorem dX10_all_14 : decode cX10_all 14 = .ok (.ireturn, 1) := by decide +kernel
theorem dX10_all_15 : decode cX10_all 15 = .ok (.iload_n 1, 1) := by decide +kernel
theorem dX10_all_16 : decode cX10_all 16 = .ok (.iconst 3, 1) := by decide +kernel
theorem dX10_all_17 : decode cX10_all 17 = .ok (.if_icmp .ne 27, 3) := by decide +kernel
theorem dX10_all_20 : decode cX10_all 20 = .ok (.aload_n 0, 1) := by decide +kernel
theorem dX10_all_21 : decode cX10_all 21 = .ok (.invokevirtual 393, 3) := by decide +kernel
theorem dX10_all_24 : decode cX10_all 24 = .ok (.aload_n 0, 1) := by decide +kernel
theorem dX10_all_25 : decode cX10_all 25 = .ok (.iconst (-1), 1) := by decide +kernel
theorem dX10_all_26 : decode cX10_all 26 = .ok (.invokevirtual 382, 3) := by decide +kernel
theorem dX10_all_29 : decode cX10_all 29 = .ok (.istore_n 2, 1) := by decide +kernel
theorem dX10_all_30 : decode cX10_all 30 = .ok (.aload_n 0, 1) := by decide +kernel
theorem dX10_all_31 : decode cX10_all 31 = .ok (.invokevirtual 399, 3) := by decide +kernel
theorem dX10_all_34 : decode cX10_all 34 = .ok (.iload_n 2, 1) := by decide +kernel
theorem dX10_all_35 : decode cX10_all 35 = .ok (.ifCond .ne 7, 3) := by decide +kernel
theorem dX10_all_38 : decode cX10_all 38 = .ok (.iconst 1, 1) := by decide +kernel
theorem dX10_all_39 : decode cX10_all 39 = .ok (.goto 4, 3) := by decide +kernel
theorem dX10_all_42 : decode cX10_all 42 = .ok (.iconst 0, 1) := by decide +kernel
theorem dX10_all_43 : decode cX10_all 43 = .ok (.ireturn, 1) := by decide +kernel
theorem dX10_all_44 : decode cX10_all 44 = .ok (.iconst 0, 1) := by decide +kernel
theorem dX10_all_45 : decode cX10_all 45 = .ok (.istore_n 2, 1) := by decide +kernel
theorem dX10_all_46 : decode cX10_all 46 = .ok (.sipush 255, 3) := by decide +kernel
theorem dX10_all_49 : decode cX10_all 49 = .ok (.istore_n 3, 1) := by decide +kernel
theorem dX10_all_50 : decode cX10_all 50 = .ok (.iconst 0, 1) := by decide +kernel
theorem dX10_all_51 : decode cX10_all 51 = .ok (.istore 4, 2) := by decide +kernel
theorem dX10_all_53 : decode cX10_all 53 = .ok (.iload 4, 2) := by decide +kernel
theorem dX10_all_55 : decode cX10_all 55 = .ok (.aload_n 0, 1) := by decide +kernel
theorem dX10_all_56 : decode cX10_all 56 = .ok (.getfield 73, 3) := by decide +kernel
theorem dX10_all_59 : decode cX10_all 59 = .ok (.if_icmp .ge 27, 3) := by decide +kernel
theorem dX10_all_62 : decode cX10_all 62 = .ok (.iload_n 2, 1) := by decide +kernel
theorem dX10_all_63 : decode cX10_all 63 = .ok (.aload_n 0, 1) := by decide +kernel
theorem dX10_all_64 : decode cX10_all 64 = .ok (.iload 4, 2) := by decide +kernel
theorem dX10_all_66 : decode cX10_all 66 = .ok (.invokevirtual 351, 3) := by decide +kernel
theorem dX10_all_69 : decode cX10_all 69 = .ok (.ior, 1) := by decide +kernel
theorem dX10_all_70 : decode cX10_all 70 = .ok (.istore_n 2, 1) := by decide +kernel
theorem dX10_all_71 : decode cX10_all 71 = .ok (.iload_n 3, 1) := by decide +kernel
theorem dX10_all_72 : decode cX10_all 72 = .ok (.aload_n 0, 1) := by decide +kernel
theorem dX10_all_73 : decode cX10_all 73 = .ok (.iload 4, 2) := by decide +kernel
theorem dX10_all_75 : decode cX10_all 75 = .ok (.invokevirtual 351, 3) := by decide +kernel
theorem dX10_all_78 : decode cX10_all 78 = .ok (.iand, 1) := by decide +kernel
theorem dX10_all_79 : decode cX10_all 79 = .ok (.istore_n 3, 1) := by decide +kernel
theorem dX10_all_80 : decode cX10_all 80 = .ok (.iinc 4 1, 3) := by decide +kernel
theorem dX10_all_83 : decode cX10_all 83 = .ok (.goto (-30), 3) := by decide +kernel
theorem dX10_all_86 : decode cX10_all 86 = .ok (.iload_n 1, 1) := by decide +kernel
theorem dX10_all_87 : decode cX10_all 87 = .ok (.ifCond .ne 10, 3) := by decide +kernel
theorem dX10_all_90 : decode cX10_all 90 = .ok (.aload_n 0, 1) := by decide +kernel
theorem dX10_all_91 : decode cX10_all 91 = .ok (.invokevirtual 396, 3) := by decide +kernel
theorem dX10_all_94 : decode cX10_all 94 = .ok (.goto 13, 3) := by decide +kernel
theorem dX10_all_97 : decode cX10_all 97 = .ok (.iload_n 1, 1) := by decide +kernel
theorem dX10_all_98 : decode cX10_all 98 = .ok (.iconst 1, 1) := by decide +kernel
theorem dX10_all_99 : decode cX10_all 99 = .ok (.if_icmp .ne 7, 3) := by decide +kernel
theorem dX10_all_102 : decode cX10_all 102 = .ok (.iload_n 2, 1) := by decide +kernel
theorem dX10_all_103 : decode cX10_all 103 = .ok (.goto 4, 3) := by decide +kernel
theorem dX10_all_106 : decode cX10_all 106 = .ok (.iload_n 3, 1) := by decide +kernel
theorem dX10_all_107 : decode cX10_all 107 = .ok (.ireturn, 1) := by decide +kernel
theorem dX10_soon_0 : decode cX10_soon 0 = .ok (.aload_n 0, 1) := by decide +kernel
theorem dX10_soon_1 : decode cX10_soon 1 = .ok (.iload_n 1, 1) := by decide +kernel
theorem dX10_soon_2 : decode cX10_soon 2 = .ok (.invokevirtual 84, 3) := by decide +kernel
theorem dX10_soon_5 : decode cX10_soon 5 = .ok (.ifCond .eq 10, 3) := by decide +kernel
theorem dX10_soon_8 : decode cX10_soon 8 = .ok (.iload_n 2, 1) := by decide +kernel
theorem dX10_soon_9 : decode cX10_soon 9 = .ok (.invokestatic 106, 3) := by decide +kernel
theorem dX10_soon_12 : decode cX10_soon 12 = .ok (.ifCond .ne 6, 3) := by decide +kernel
theorem dX10_soon_15 : decode cX10_soon 15 = .ok (.bipush (-2), 2) := by decide +kernel
theorem dX10_soon_17 : decode cX10_soon 17 = .ok (.ireturn, 1) := by decide +kernel
theorem dX10_soon_18 : decode cX10_soon 18 = .ok (.aload_n 0, 1) := by decide +kernel
theorem dX10_soon_19 : decode cX10_soon 19 = .ok (.invokevirtual 393, 3) := by decide +kernel
theorem dX10_soon_22 : decode cX10_soon 22 = .ok (.iconst 0, 1) := by decide +kernel
theorem dX10_soon_23 : decode cX10_soon 23 = .ok (.istore_n 3, 1) := by decide +kernel
theorem dX10_soon_24 : decode cX10_soon 24 = .ok (.iload_n 3, 1) := by decide +kernel
theorem dX10_soon_25 : decode cX10_soon 25 = .ok (.bipush 20, 2) := by decide +kernel
theorem dX10_soon_27 : decode cX10_soon 27 = .ok (.if_icmp .gt 27, 3) := by decide +kernel
theorem dX10_soon_30 : decode cX10_soon 30 = .ok (.aload_n 0, 1) := by decide +kernel
theorem dX10_soon_31 : decode cX10_soon 31 = .ok (.iload_n 1, 1) := by decide +kernel
theorem dX10_soon_32 : decode cX10_soon 32 = .ok (.invokevirtual 351, 3) := by decide +kernel
theorem dX10_soon_35 : decode cX10_soon 35 = .ok (.iload_n 2, 1) := by decide +kernel
theorem dX10_soon_36 : decode cX10_soon 36 = .ok (.ishr, 1) := by decide +kernel
theorem dX10_soon_37 : decode cX10_soon 37 = .ok (.iconst 1, 1) := by decide +kernel
theorem dX10_soon_38 : decode cX10_soon 38 = .ok (.iand, 1) := by decide +kernel
theorem dX10_soon_39 : decode cX10_soon 39 = .ok (.ifCond .ne 15, 3) := by decide +kernel
theorem dX10_soon_42 : decode cX10_soon 42 = .ok (.aload_n 0, 1) := by decide +kernel
theorem dX10_soon_43 : decode cX10_soon 43 = .ok (.iconst (-1), 1) := by decide +kernel
theorem dX10_soon_44 : decode cX10_soon 44 = .ok (.invokevirtual 382, 3) := by decide +kernel
theorem dX10_soon_47 : decode cX10_soon 47 = .ok (.pop, 1) := by decide +kernel
theorem dX10_soon_48 : decode cX10_soon 48 = .ok (.iinc 3 1, 3) := by decide +kernel
theorem dX10_soon_51 : decode cX10_soon 51 = .ok (.goto (-27), 3) := by decide +kernel
theorem dX10_soon_54 : decode cX10_soon 54 = .ok (.aload_n 0, 1) := by decide +kernel
theorem dX10_soon_55 : decode cX10_soon 55 = .ok (.invokevirtual 399, 3) := by decide +kernel
theorem dX10_soon_58 : decode cX10_soon 58 = .ok (.iload_n 3, 1) := by decide +kernel
theorem dX10_soon_59 : decode cX10_soon 59 = .ok (.bipush 20, 2) := by decide +kernel
theorem dX10_soon_61 : decode cX10_soon 61 = .ok (.if_icmp .le 7, 3) := by decide +kernel
theorem dX10_soon_64 : decode cX10_soon 64 = .ok (.iconst (-1), 1) := by decide +kernel
theorem dX10_soon_65 : decode cX10_soon 65 = .ok (.goto 4, 3) := by decide +kernel
theorem dX10_soon_68 : decode cX10_soon 68 = .ok (.iload_n 3, 1) := by decide +kernel
theorem dX10_soon_69 : decode cX10_soon 69 = .ok (.ireturn, 1) := by decide +kernel
theorem dX10_knownBy_0 : decode cX10_knownBy 0 = .ok (.aload_n 0, 1) := by decide +kernel
theorem dX10_knownBy_1 : decode cX10_knownBy 1 = .ok (.invokevirtual 393, 3) := by decide +kernel
theorem dX10_knownBy_4 : decode cX10_knownBy 4 = .ok (.aload_n 0, 1) := by decide +kernel
theorem dX10_knownBy_5 : decode cX10_knownBy 5 = .ok (.getfield 29, 3) := by decide +kernel
theorem dX10_knownBy_8 : decode cX10_knownBy 8 = .ok (.iconst 5, 1) := by decide +kernel
theorem dX10_knownBy_9 : decode cX10_knownBy 9 = .ok (.iload_n 1, 1) := by decide +kernel
theorem dX10_knownBy_10 : decode cX10_knownBy 10 = .ok (.imul, 1) := by decide +kernel
theorem dX10_knownBy_11 : decode cX10_knownBy 11 = .ok (.iconst 2, 1) := by decide +kernel
theorem dX10_knownBy_12 : decode cX10_knownBy 12 = .ok (.iadd, 1) := by decide +kernel
theorem dX10_knownBy_13 : decode cX10_knownBy 13 = .ok (.dup2, 1) := by decide +kernel
theorem dX10_knownBy_14 : decode cX10_knownBy 14 = .ok (.iaload, 1) := by decide +kernel
theorem dX10_knownBy_15 : decode cX10_knownBy 15 = .ok (.iload_n 2, 1) := by decide +kernel
theorem dX10_knownBy_16 : decode cX10_knownBy 16 = .ok (.ior, 1) := by decide +kernel
theorem dX10_knownBy_17 : decode cX10_knownBy 17 = .ok (.iastore, 1) := by decide +kernel
theorem dX10_knownBy_18 : decode cX10_knownBy 18 = .ok (.iconst 0, 1) := by decide +kernel
theorem dX10_knownBy_19 : decode cX10_knownBy 19 = .ok (.istore 4, 2) := by decide +kernel
theorem dX10_knownBy_21 : decode cX10_knownBy 21 = .ok (.iload 4, 2) := by decide +kernel
theorem dX10_knownBy_23 : decode cX10_knownBy 23 = .ok (.iload_n 3, 1) := by decide +kernel
theorem dX10_knownBy_24 : decode cX10_knownBy 24 = .ok (.if_icmp .ge 15, 3) := by decide +kernel
theorem dX10_knownBy_27 : decode cX10_knownBy 27 = .ok (.aload_n 0, 1) := by decide +kernel
theorem dX10_knownBy_28 : decode cX10_knownBy 28 = .ok (.iconst (-1), 1) := by decide +kernel
theorem dX10_knownBy_29 : decode cX10_knownBy 29 = .ok (.invokevirtual 382, 3) := by decide +kernel
theorem dX10_knownBy_32 : decode cX10_knownBy 32 = .ok (.pop, 1) := by decide +kernel
theorem dX10_knownBy_33 : decode cX10_knownBy 33 = .ok (.iinc 4 1, 3) := by decide +kernel
theorem dX10_knownBy_36 : decode cX10_knownBy 36 = .ok (.goto (-15), 3) := by decide +kernel
theorem dX10_knownBy_39 : decode cX10_knownBy 39 = .ok (.aload_n 0, 1) := by decide +kernel
theorem dX10_knownBy_40 : decode cX10_knownBy 40 = .ok (.invokevirtual 396, 3) := by decide +kernel
theorem dX10_knownBy_43 : decode cX10_knownBy 43 = .ok (.istore 4, 2) := by decide +kernel
theorem dX10_knownBy_45 : decode cX10_knownBy 45 = .ok (.aload_n 0, 1) := by decide +kernel
theorem dX10_knownBy_46 : decode cX10_knownBy 46 = .ok (.invokevirtual 399, 3) := by decide +kernel
theorem dX10_knownBy_49 : decode cX10_knownBy 49 = .ok (.iload 4, 2) := by decide +kernel
theorem dX10_knownBy_51 : decode cX10_knownBy 51 = .ok (.ireturn, 1) := by decide +kernel
theorem dX10_gift_0 : decode cX10_gift 0 = .ok (.aload_n 0, 1) := by decide +kernel
theorem dX10_gift_1 : decode cX10_gift 1 = .ok (.iload_n 1, 1) := by decide +kernel
theorem dX10_gift_2 : decode cX10_gift 2 = .ok (.invokevirtual 84, 3) := by decide +kernel
theorem dX10_gift_5 : decode cX10_gift 5 = .ok (.ifCond .eq 13, 3) := by decide +kernel
theorem dX10_gift_8 : decode cX10_gift 8 = .ok (.iload_n 2, 1) := by decide +kernel
theorem dX10_gift_9 : decode cX10_gift 9 = .ok (.i2l, 1) := by decide +kernel
theorem dX10_gift_10 : decode cX10_gift 10 = .ok (.lconst 0, 1) := by decide +kernel
theorem dX10_gift_11 : decode cX10_gift 11 = .ok (.lconst 1, 1) := by decide +kernel
theorem dX10_gift_12 : decode cX10_gift 12 = .ok (.invokestatic 76, 3) := by decide +kernel
theorem dX10_gift_15 : decode cX10_gift 15 = .ok (.ifCond .ne 6, 3) := by decide +kernel
theorem dX10_gift_18 : decode cX10_gift 18 = .ok (.bipush (-2), 2) := by decide +kernel
theorem dX10_gift_20 : decode cX10_gift 20 = .ok (.ireturn, 1) := by decide +kernel
theorem dX10_gift_21 : decode cX10_gift 21 = .ok (.iconst (-1), 1) := by decide +kernel
theorem dX10_gift_22 : decode cX10_gift 22 = .ok (.istore_n 3, 1) := by decide +kernel
theorem dX10_gift_23 : decode cX10_gift 23 = .ok (.aload_n 0, 1) := by decide +kernel
theorem dX10_gift_24 : decode cX10_gift 24 = .ok (.iload_n 1, 1) := by decide +kernel
theorem dX10_gift_25 : decode cX10_gift 25 = .ok (.iconst 0, 1) := by decide +kernel
theorem dX10_gift_26 : decode cX10_gift 26 = .ok (.bipush 8, 2) := by decide +kernel
theorem dX10_gift_28 : decode cX10_gift 28 = .ok (.invokevirtual 404, 3) := by decide +kernel
theorem dX10_gift_31 : decode cX10_gift 31 = .ok (.istore 4, 2) := by decide +kernel
theorem dX10_gift_33 : decode cX10_gift 33 = .ok (.iconst 0, 1) := by decide +kernel
theorem dX10_gift_34 : decode cX10_gift 34 = .ok (.istore 5, 2) := by decide +kernel
theorem dX10_gift_36 : decode cX10_gift 36 = .ok (.iload 5, 2) := by decide +kernel
theorem dX10_gift_38 : decode cX10_gift 38 = .ok (.bipush 8, 2) := by decide +kernel
theorem dX10_gift_40 : decode cX10_gift 40 = .ok (.if_icmp .ge 54, 3) := by decide +kernel
theorem dX10_gift_43 : decode cX10_gift 43 = .ok (.aload_n 0, 1) := by decide +kernel
theorem dX10_gift_44 : decode cX10_gift 44 = .ok (.iload_n 1, 1) := by decide +kernel
theorem dX10_gift_45 : decode cX10_gift 45 = .ok (.invokevirtual 351, 3) := by decide +kernel
theorem dX10_gift_48 : decode cX10_gift 48 = .ok (.iload 5, 2) := by decide +kernel
theorem dX10_gift_50 : decode cX10_gift 50 = .ok (.ishr, 1) := by decide +kernel
theorem dX10_gift_51 : decode cX10_gift 51 = .ok (.iconst 1, 1) := by decide +kernel
theorem dX10_gift_52 : decode cX10_gift 52 = .ok (.iand, 1) := by decide +kernel
theorem dX10_gift_53 : decode cX10_gift 53 = .ok (.iconst 1, 1) := by decide +kernel
theorem dX10_gift_54 : decode cX10_gift 54 = .ok (.if_icmp .ne 7, 3) := by decide +kernel
theorem dX10_gift_57 : decode cX10_gift 57 = .ok (.iconst (-1), 1) := by decide +kernel
theorem dX10_gift_58 : decode cX10_gift 58 = .ok (.goto 14, 3) := by decide +kernel
theorem dX10_gift_61 : decode cX10_gift 61 = .ok (.aload_n 0, 1) := by decide +kernel
theorem dX10_gift_62 : decode cX10_gift 62 = .ok (.iload_n 1, 1) := by decide +kernel
theorem dX10_gift_63 : decode cX10_gift 63 = .ok (.iconst 1, 1) := by decide +kernel
theorem dX10_gift_64 : decode cX10_gift 64 = .ok (.iload 5, 2) := by decide +kernel
theorem dX10_gift_66 : decode cX10_gift 66 = .ok (.ishl, 1) := by decide +kernel
theorem dX10_gift_67 : decode cX10_gift 67 = .ok (.bipush 8, 2) := by decide +kernel
theorem dX10_gift_69 : decode cX10_gift 69 = .ok (.invokevirtual 404, 3) := by decide +kernel
theorem dX10_gift_72 : decode cX10_gift 72 = .ok (.istore 6, 2) := by decide +kernel
theorem dX10_gift_74 : decode cX10_gift 74 = .ok (.iload 6, 2) := by decide +kernel
theorem dX10_gift_76 : decode cX10_gift 76 = .ok (.iload 4, 2) := by decide +kernel
theorem dX10_gift_78 : decode cX10_gift 78 = .ok (.if_icmp .le 10, 3) := by decide +kernel
theorem dX10_gift_81 : decode cX10_gift 81 = .ok (.iload 5, 2) := by decide +kernel
theorem dX10_gift_83 : decode cX10_gift 83 = .ok (.istore_n 3, 1) := by decide +kernel
theorem dX10_gift_84 : decode cX10_gift 84 = .ok (.iload 6, 2) := by decide +kernel
theorem dX10_gift_86 : decode cX10_gift 86 = .ok (.istore 4, 2) := by decide +kernel
theorem dX10_gift_88 : decode cX10_gift 88 = .ok (.iinc 5 1, 3) := by decide +kernel
theorem dX10_gift_91 : decode cX10_gift 91 = .ok (.goto (-55), 3) := by decide +kernel
theorem dX10_gift_94 : decode cX10_gift 94 = .ok (.iload_n 2, 1) := by decide +kernel
theorem dX10_gift_95 : decode cX10_gift 95 = .ok (.ifCond .ne 7, 3) := by decide +kernel
theorem dX10_gift_98 : decode cX10_gift 98 = .ok (.iload_n 3, 1) := by decide +kernel
theorem dX10_gift_99 : decode cX10_gift 99 = .ok (.goto 5, 3) := by decide +kernel
theorem dX10_gift_102 : decode cX10_gift 102 = .ok (.iload 4, 2) := by decide +kernel
theorem dX10_gift_104 : decode cX10_gift 104 = .ok (.ireturn, 1) := by decide +kernel
theorem dX10_missed_0 : decode cX10_missed 0 = .ok (.iload_n 1, 1) := by decide +kernel
theorem dX10_missed_1 : decode cX10_missed 1 = .ok (.i2l, 1) := by decide +kernel
theorem dX10_missed_2 : decode cX10_missed 2 = .ok (.lconst 0, 1) := by decide +kernel
theorem dX10_missed_3 : decode cX10_missed 3 = .ok (.lconst 1, 1) := by decide +kernel
theorem dX10_missed_4 : decode cX10_missed 4 = .ok (.invokestatic 76, 3) := by decide +kernel
theorem dX10_missed_7 : decode cX10_missed 7 = .ok (.ifCond .ne 6, 3) := by decide +kernel
theorem dX10_missed_10 : decode cX10_missed 10 = .ok (.bipush (-2), 2) := by decide +kernel
theorem dX10_missed_12 : decode cX10_missed 12 = .ok (.ireturn, 1) := by decide +kernel
theorem dX10_missed_13 : decode cX10_missed 13 = .ok (.iconst (-1), 1) := by decide +kernel
theorem dX10_missed_14 : decode cX10_missed 14 = .ok (.istore_n 2, 1) := by decide +kernel
theorem dX10_missed_15 : decode cX10_missed 15 = .ok (.iconst (-1), 1) := by decide +kernel
theorem dX10_missed_16 : decode cX10_missed 16 = .ok (.istore_n 3, 1) := by decide +kernel
theorem dX10_missed_17 : decode cX10_missed 17 = .ok (.iconst 0, 1) := by decide +kernel
theorem dX10_missed_18 : decode cX10_missed 18 = .ok (.istore 4, 2) := by decide +kernel
theorem dX10_missed_20 : decode cX10_missed 20 = .ok (.iload 4, 2) := by decide +kernel
theorem dX10_missed_22 : decode cX10_missed 22 = .ok (.aload_n 0, 1) := by decide +kernel
theorem dX10_missed_23 : decode cX10_missed 23 = .ok (.getfield 73, 3) := by decide +kernel
theorem dX10_missed_26 : decode cX10_missed 26 = .ok (.if_icmp .ge 92, 3) := by decide +kernel
theorem dX10_missed_29 : decode cX10_missed 29 = .ok (.aload_n 0, 1) := by decide +kernel
theorem dX10_missed_30 : decode cX10_missed 30 = .ok (.invokevirtual 396, 3) := by decide +kernel
theorem dX10_missed_33 : decode cX10_missed 33 = .ok (.aload_n 0, 1) := by decide +kernel
theorem dX10_missed_34 : decode cX10_missed 34 = .ok (.iload 4, 2) := by decide +kernel
theorem dX10_missed_36 : decode cX10_missed 36 = .ok (.invokevirtual 351, 3) := by decide +kernel
theorem dX10_missed_39 : decode cX10_missed 39 = .ok (.invokestatic 354, 3) := by decide +kernel
theorem dX10_missed_42 : decode cX10_missed 42 = .ok (.isub, 1) := by decide +kernel
theorem dX10_missed_43 : decode cX10_missed 43 = .ok (.istore 5, 2) := by decide +kernel
theorem dX10_missed_45 : decode cX10_missed 45 = .ok (.aload_n 0, 1) := by decide +kernel
theorem dX10_missed_46 : decode cX10_missed 46 = .ok (.invokevirtual 393, 3) := by decide +kernel
theorem dX10_missed_49 : decode cX10_missed 49 = .ok (.iconst 0, 1) := by decide +kernel
theorem dX10_missed_50 : decode cX10_missed 50 = .ok (.istore 6, 2) := by decide +kernel
theorem dX10_missed_52 : decode cX10_missed 52 = .ok (.iload 6, 2) := by decide +kernel
theorem dX10_missed_54 : decode cX10_missed 54 = .ok (.bipush 8, 2) := by decide +kernel
theorem dX10_missed_56 : decode cX10_missed 56 = .ok (.if_icmp .ge 16, 3) := by decide +kernel
theorem dX10_missed_59 : decode cX10_missed 59 = .ok (.aload_n 0, 1) := by decide +kernel
theorem dX10_missed_60 : decode cX10_missed 60 = .ok (.iload 4, 2) := by decide +kernel
theorem dX10_missed_62 : decode cX10_missed 62 = .ok (.invokevirtual 382, 3) := by decide +kernel
theorem dX10_missed_65 : decode cX10_missed 65 = .ok (.pop, 1) := by decide +kernel
theorem dX10_missed_66 : decode cX10_missed 66 = .ok (.iinc 6 1, 3) := by decide +kernel
theorem dX10_missed_69 : decode cX10_missed 69 = .ok (.goto (-17), 3) := by decide +kernel
theorem dX10_missed_72 : decode cX10_missed 72 = .ok (.aload_n 0, 1) := by decide +kernel
theorem dX10_missed_73 : decode cX10_missed 73 = .ok (.invokevirtual 396, 3) := by decide +kernel
theorem dX10_missed_76 : decode cX10_missed 76 = .ok (.aload_n 0, 1) := by decide +kernel
theorem dX10_missed_77 : decode cX10_missed 77 = .ok (.iload 4, 2) := by decide +kernel
theorem dX10_missed_79 : decode cX10_missed 79 = .ok (.invokevirtual 351, 3) := by decide +kernel
theorem dX10_missed_82 : decode cX10_missed 82 = .ok (.invokestatic 354, 3) := by decide +kernel
theorem dX10_missed_85 : decode cX10_missed 85 = .ok (.isub, 1) := by decide +kernel
theorem dX10_missed_86 : decode cX10_missed 86 = .ok (.iload 5, 2) := by decide +kernel
theorem dX10_missed_88 : decode cX10_missed 88 = .ok (.isub, 1) := by decide +kernel
theorem dX10_missed_89 : decode cX10_missed 89 = .ok (.istore 6, 2) := by decide +kernel
theorem dX10_missed_91 : decode cX10_missed 91 = .ok (.aload_n 0, 1) := by decide +kernel
theorem dX10_missed_92 : decode cX10_missed 92 = .ok (.invokevirtual 399, 3) := by decide +kernel
theorem dX10_missed_95 : decode cX10_missed 95 = .ok (.iload_n 2, 1) := by decide +kernel
theorem dX10_missed_96 : decode cX10_missed 96 = .ok (.iconst (-1), 1) := by decide +kernel
theorem dX10_missed_97 : decode cX10_missed 97 = .ok (.if_icmp .eq 9, 3) := by decide +kernel
theorem dX10_missed_100 : decode cX10_missed 100 = .ok (.iload 6, 2) := by decide +kernel
theorem dX10_missed_102 : decode cX10_missed 102 = .ok (.iload_n 3, 1) := by decide +kernel
theorem dX10_missed_103 : decode cX10_missed 103 = .ok (.if_icmp .ge 9, 3) := by decide +kernel
theorem dX10_missed_106 : decode cX10_missed 106 = .ok (.iload 4, 2) := by decide +kernel
theorem dX10_missed_108 : decode cX10_missed 108 = .ok (.istore_n 2, 1) := by decide +kernel
theorem dX10_missed_109 : decode cX10_missed 109 = .ok (.iload 6, 2) := by decide +kernel
theorem dX10_missed_111 : decode cX10_missed 111 = .ok (.istore_n 3, 1) := by decide +kernel
theorem dX10_missed_112 : decode cX10_missed 112 = .ok (.iinc 4 1, 3) := by decide +kernel
theorem dX10_missed_115 : decode cX10_missed 115 = .ok (.goto (-95), 3) := by decide +kernel
theorem dX10_missed_118 : decode cX10_missed 118 = .ok (.iload_n 1, 1) := by decide +kernel
theorem dX10_missed_119 : decode cX10_missed 119 = .ok (.ifCond .ne 7, 3) := by decide +kernel
theorem dX10_missed_122 : decode cX10_missed 122 = .ok (.iload_n 2, 1) := by decide +kernel
theorem dX10_missed_123 : decode cX10_missed 123 = .ok (.goto 4, 3) := by decide +kernel
theorem dX10_missed_126 : decode cX10_missed 126 = .ok (.iload_n 3, 1) := by decide +kernel
theorem dX10_missed_127 : decode cX10_missed 127 = .ok (.ireturn, 1) := by decide +kernel
theorem dX10_hoardOf_0 : decode cX10_hoardOf 0 = .ok (.iconst 0, 1) := by decide +kernel
theorem dX10_hoardOf_1 : decode cX10_hoardOf 1 = .ok (.istore_n 2, 1) := by decide +kernel
theorem dX10_hoardOf_2 : decode cX10_hoardOf 2 = .ok (.iconst 0, 1) := by decide +kernel
theorem dX10_hoardOf_3 : decode cX10_hoardOf 3 = .ok (.istore_n 3, 1) := by decide +kernel
theorem dX10_hoardOf_4 : decode cX10_hoardOf 4 = .ok (.iload_n 3, 1) := by decide +kernel
theorem dX10_hoardOf_5 : decode cX10_hoardOf 5 = .ok (.aload_n 0, 1) := by decide +kernel
theorem dX10_hoardOf_6 : decode cX10_hoardOf 6 = .ok (.getfield 73, 3) := by decide +kernel
theorem dX10_hoardOf_9 : decode cX10_hoardOf 9 = .ok (.if_icmp .ge 26, 3) := by decide +kernel
theorem dX10_hoardOf_12 : decode cX10_hoardOf 12 = .ok (.iload_n 2, 1) := by decide +kernel
theorem dX10_hoardOf_13 : decode cX10_hoardOf 13 = .ok (.iload_n 3, 1) := by decide +kernel
theorem dX10_hoardOf_14 : decode cX10_hoardOf 14 = .ok (.iload_n 1, 1) := by decide +kernel
theorem dX10_hoardOf_15 : decode cX10_hoardOf 15 = .ok (.if_icmp .ne 7, 3) := by decide +kernel
theorem dX10_hoardOf_18 : decode cX10_hoardOf 18 = .ok (.iconst 0, 1) := by decide +kernel
theorem dX10_hoardOf_19 : decode cX10_hoardOf 19 = .ok (.goto 8, 3) := by decide +kernel
theorem dX10_hoardOf_22 : decode cX10_hoardOf 22 = .ok (.aload_n 0, 1) := by decide +kernel
theorem dX10_hoardOf_23 : decode cX10_hoardOf 23 = .ok (.iload_n 3, 1) := by decide +kernel
theorem dX10_hoardOf_24 : decode cX10_hoardOf 24 = .ok (.invokevirtual 351, 3) := by decide +kernel
theorem dX10_hoardOf_27 : decode cX10_hoardOf 27 = .ok (.ior, 1) := by decide +kernel
theorem dX10_hoardOf_28 : decode cX10_hoardOf 28 = .ok (.istore_n 2, 1) := by decide +kernel
theorem dX10_hoardOf_29 : decode cX10_hoardOf 29 = .ok (.iinc 3 1, 3) := by decide +kernel
theorem dX10_hoardOf_32 : decode cX10_hoardOf 32 = .ok (.goto (-28), 3) := by decide +kernel
theorem dX10_hoardOf_35 : decode cX10_hoardOf 35 = .ok (.aload_n 0, 1) := by decide +kernel
theorem dX10_hoardOf_36 : decode cX10_hoardOf 36 = .ok (.iload_n 1, 1) := by decide +kernel
theorem dX10_hoardOf_37 : decode cX10_hoardOf 37 = .ok (.invokevirtual 351, 3) := by decide +kernel
theorem dX10_hoardOf_40 : decode cX10_hoardOf 40 = .ok (.iload_n 2, 1) := by decide +kernel
theorem dX10_hoardOf_41 : decode cX10_hoardOf 41 = .ok (.iconst (-1), 1) := by decide +kernel
theorem dX10_hoardOf_42 : decode cX10_hoardOf 42 = .ok (.ixor, 1) := by decide +kernel
theorem dX10_hoardOf_43 : decode cX10_hoardOf 43 = .ok (.iand, 1) := by decide +kernel
theorem dX10_hoardOf_44 : decode cX10_hoardOf 44 = .ok (.ireturn, 1) := by decide +kernel
theorem dX10_walks_0 : decode cX10_walks 0 = .ok (.iconst 0, 1) := by decide +kernel
theorem dX10_walks_1 : decode cX10_walks 1 = .ok (.istore_n 3, 1) := by decide +kernel
theorem dX10_walks_2 : decode cX10_walks 2 = .ok (.iload_n 3, 1) := by decide +kernel
theorem dX10_walks_3 : decode cX10_walks 3 = .ok (.bipush 8, 2) := by decide +kernel
theorem dX10_walks_5 : decode cX10_walks 5 = .ok (.if_icmp .ge 27, 3) := by decide +kernel
theorem dX10_walks_8 : decode cX10_walks 8 = .ok (.aload_n 0, 1) := by decide +kernel
theorem dX10_walks_9 : decode cX10_walks 9 = .ok (.getfield 38, 3) := by decide +kernel
theorem dX10_walks_12 : decode cX10_walks 12 = .ok (.iload_n 3, 1) := by decide +kernel
theorem dX10_walks_13 : decode cX10_walks 13 = .ok (.iload_n 3, 1) := by decide +kernel
theorem dX10_walks_14 : decode cX10_walks 14 = .ok (.iload_n 2, 1) := by decide +kernel
theorem dX10_walks_15 : decode cX10_walks 15 = .ok (.if_icmp .ne 7, 3) := by decide +kernel
theorem dX10_walks_18 : decode cX10_walks 18 = .ok (.iconst 0, 1) := by decide +kernel
theorem dX10_walks_19 : decode cX10_walks 19 = .ok (.goto 6, 3) := by decide +kernel
theorem dX10_walks_22 : decode cX10_walks 22 = .ok (.sipush 999, 3) := by decide +kernel
theorem dX10_walks_25 : decode cX10_walks 25 = .ok (.iastore, 1) := by decide +kernel
theorem dX10_walks_26 : decode cX10_walks 26 = .ok (.iinc 3 1, 3) := by decide +kernel
theorem dX10_walks_29 : decode cX10_walks 29 = .ok (.goto (-27), 3) := by decide +kernel
theorem dX10_walks_32 : decode cX10_walks 32 = .ok (.iconst 1, 1) := by decide +kernel
theorem dX10_walks_33 : decode cX10_walks 33 = .ok (.istore_n 3, 1) := by decide +kernel
theorem dX10_walks_34 : decode cX10_walks 34 = .ok (.iload_n 3, 1) := by decide +kernel
theorem dX10_walks_35 : decode cX10_walks 35 = .ok (.ifCond .eq 114, 3) := by decide +kernel
theorem dX10_walks_38 : decode cX10_walks 38 = .ok (.iconst 0, 1) := by decide +kernel
theorem dX10_walks_39 : decode cX10_walks 39 = .ok (.istore_n 3, 1) := by decide +kernel
theorem dX10_walks_40 : decode cX10_walks 40 = .ok (.iconst 0, 1) := by decide +kernel
theorem dX10_walks_41 : decode cX10_walks 41 = .ok (.istore 4, 2) := by decide +kernel
theorem dX10_walks_43 : decode cX10_walks 43 = .ok (.iload 4, 2) := by decide +kernel
theorem dX10_walks_45 : decode cX10_walks 45 = .ok (.bipush 64, 2) := by decide +kernel
theorem dX10_walks_47 : decode cX10_walks 47 = .ok (.if_icmp .ge 99, 3) := by decide +kernel
theorem dX10_walks_50 : decode cX10_walks 50 = .ok (.iload 4, 2) := by decide +kernel
theorem dX10_walks_52 : decode cX10_walks 52 = .ok (.bipush 8, 2) := by decide +kernel
theorem dX10_walks_54 : decode cX10_walks 54 = .ok (.irem, 1) := by decide +kernel
theorem dX10_walks_55 : decode cX10_walks 55 = .ok (.istore 5, 2) := by decide +kernel
theorem dX10_walks_57 : decode cX10_walks 57 = .ok (.aload_n 0, 1) := by decide +kernel
theorem dX10_walks_58 : decode cX10_walks 58 = .ok (.getfield 38, 3) := by decide +kernel
theorem dX10_walks_61 : decode cX10_walks 61 = .ok (.iload 4, 2) := by decide +kernel
theorem dX10_walks_63 : decode cX10_walks 63 = .ok (.bipush 8, 2) := by decide +kernel
theorem dX10_walks_65 : decode cX10_walks 65 = .ok (.idiv, 1) := by decide +kernel
theorem dX10_walks_66 : decode cX10_walks 66 = .ok (.iaload, 1) := by decide +kernel
theorem dX10_walks_67 : decode cX10_walks 67 = .ok (.aload_n 0, 1) := by decide +kernel
theorem dX10_walks_68 : decode cX10_walks 68 = .ok (.getfield 23, 3) := by decide +kernel
theorem dX10_walks_71 : decode cX10_walks 71 = .ok (.iload 4, 2) := by decide +kernel
theorem dX10_walks_73 : decode cX10_walks 73 = .ok (.iaload, 1) := by decide +kernel
theorem dX10_walks_74 : decode cX10_walks 74 = .ok (.iadd, 1) := by decide +kernel
theorem dX10_walks_75 : decode cX10_walks 75 = .ok (.istore 6, 2) := by decide +kernel
theorem dX10_walks_77 : decode cX10_walks 77 = .ok (.aload_n 0, 1) := by decide +kernel
theorem dX10_walks_78 : decode cX10_walks 78 = .ok (.getfield 23, 3) := by decide +kernel
theorem dX10_walks_81 : decode cX10_walks 81 = .ok (.iload 4, 2) := by decide +kernel
theorem dX10_walks_83 : decode cX10_walks 83 = .ok (.iaload, 1) := by decide +kernel
theorem dX10_walks_84 : decode cX10_walks 84 = .ok (.ifCond .le 56, 3) := by decide +kernel
theorem dX10_walks_87 : decode cX10_walks 87 = .ok (.aload_n 0, 1) := by decide +kernel
theorem dX10_walks_88 : decode cX10_walks 88 = .ok (.iload_n 1, 1) := by decide +kernel
theorem dX10_walks_89 : decode cX10_walks 89 = .ok (.invokevirtual 351, 3) := by decide +kernel
theorem dX10_walks_92 : decode cX10_walks 92 = .ok (.iload 5, 2) := by decide +kernel
theorem dX10_walks_94 : decode cX10_walks 94 = .ok (.ishr, 1) := by decide +kernel
theorem dX10_walks_95 : decode cX10_walks 95 = .ok (.iconst 1, 1) := by decide +kernel
theorem dX10_walks_96 : decode cX10_walks 96 = .ok (.iand, 1) := by decide +kernel
theorem dX10_walks_97 : decode cX10_walks 97 = .ok (.iconst 1, 1) := by decide +kernel
theorem dX10_walks_98 : decode cX10_walks 98 = .ok (.if_icmp .ne 42, 3) := by decide +kernel
theorem dX10_walks_101 : decode cX10_walks 101 = .ok (.aload_n 0, 1) := by decide +kernel
theorem dX10_walks_102 : decode cX10_walks 102 = .ok (.getfield 38, 3) := by decide +kernel
theorem dX10_walks_105 : decode cX10_walks 105 = .ok (.iload 4, 2) := by decide +kernel
theorem dX10_walks_107 : decode cX10_walks 107 = .ok (.bipush 8, 2) := by decide +kernel
theorem dX10_walks_109 : decode cX10_walks 109 = .ok (.idiv, 1) := by decide +kernel
theorem dX10_walks_110 : decode cX10_walks 110 = .ok (.iaload, 1) := by decide +kernel
theorem dX10_walks_111 : decode cX10_walks 111 = .ok (.sipush 999, 3) := by decide +kernel
theorem dX10_walks_114 : decode cX10_walks 114 = .ok (.if_icmp .ge 26, 3) := by decide +kernel
theorem dX10_walks_117 : decode cX10_walks 117 = .ok (.iload 6, 2) := by decide +kernel
theorem dX10_walks_119 : decode cX10_walks 119 = .ok (.aload_n 0, 1) := by decide +kernel
theorem dX10_walks_120 : decode cX10_walks 120 = .ok (.getfield 38, 3) := by decide +kernel
theorem dX10_walks_123 : decode cX10_walks 123 = .ok (.iload 5, 2) := by decide +kernel
theorem dX10_walks_125 : decode cX10_walks 125 = .ok (.iaload, 1) := by decide +kernel
theorem dX10_walks_126 : decode cX10_walks 126 = .ok (.if_icmp .ge 14, 3) := by decide +kernel
theorem dX10_walks_129 : decode cX10_walks 129 = .ok (.aload_n 0, 1) := by decide +kernel
theorem dX10_walks_130 : decode cX10_walks 130 = .ok (.getfield 38, 3) := by decide +kernel
theorem dX10_walks_133 : decode cX10_walks 133 = .ok (.iload 5, 2) := by decide +kernel
theorem dX10_walks_135 : decode cX10_walks 135 = .ok (.iload 6, 2) := by decide +kernel
theorem dX10_walks_137 : decode cX10_walks 137 = .ok (.iastore, 1) := by decide +kernel
theorem dX10_walks_138 : decode cX10_walks 138 = .ok (.iconst 1, 1) := by decide +kernel
theorem dX10_walks_139 : decode cX10_walks 139 = .ok (.istore_n 3, 1) := by decide +kernel
theorem dX10_walks_140 : decode cX10_walks 140 = .ok (.iinc 4 1, 3) := by decide +kernel
theorem dX10_walks_143 : decode cX10_walks 143 = .ok (.goto (-100), 3) := by decide +kernel
theorem dX10_walks_146 : decode cX10_walks 146 = .ok (.goto (-112), 3) := by decide +kernel
theorem dX10_walks_149 : decode cX10_walks 149 = .ok (.return_, 1) := by decide +kernel
theorem dX10_walk_0 : decode cX10_walk 0 = .ok (.aload_n 0, 1) := by decide +kernel
theorem dX10_walk_1 : decode cX10_walk 1 = .ok (.iload_n 1, 1) := by decide +kernel
theorem dX10_walk_2 : decode cX10_walk 2 = .ok (.invokevirtual 84, 3) := by decide +kernel
theorem dX10_walk_5 : decode cX10_walk 5 = .ok (.ifCond .eq 17, 3) := by decide +kernel
theorem dX10_walk_8 : decode cX10_walk 8 = .ok (.iload_n 2, 1) := by decide +kernel
theorem dX10_walk_9 : decode cX10_walk 9 = .ok (.invokestatic 106, 3) := by decide +kernel
theorem dX10_walk_12 : decode cX10_walk 12 = .ok (.ifCond .eq 10, 3) := by decide +kernel
theorem dX10_walk_15 : decode cX10_walk 15 = .ok (.iload_n 3, 1) := by decide +kernel
theorem dX10_walk_16 : decode cX10_walk 16 = .ok (.invokestatic 106, 3) := by decide +kernel
theorem dX10_walk_19 : decode cX10_walk 19 = .ok (.ifCond .ne 6, 3) := by decide +kernel
theorem dX10_walk_22 : decode cX10_walk 22 = .ok (.bipush (-2), 2) := by decide +kernel
theorem dX10_walk_24 : decode cX10_walk 24 = .ok (.ireturn, 1) := by decide +kernel
theorem dX10_walk_25 : decode cX10_walk 25 = .ok (.aload_n 0, 1) := by decide +kernel
theorem dX10_walk_26 : decode cX10_walk 26 = .ok (.iload_n 1, 1) := by decide +kernel
theorem dX10_walk_27 : decode cX10_walk 27 = .ok (.iload_n 2, 1) := by decide +kernel
theorem dX10_walk_28 : decode cX10_walk 28 = .ok (.invokevirtual 407, 3) := by decide +kernel
theorem dX10_walk_31 : decode cX10_walk 31 = .ok (.aload_n 0, 1) := by decide +kernel
theorem dX10_walk_32 : decode cX10_walk 32 = .ok (.getfield 38, 3) := by decide +kernel
theorem dX10_walk_35 : decode cX10_walk 35 = .ok (.iload_n 3, 1) := by decide +kernel
theorem dX10_walk_36 : decode cX10_walk 36 = .ok (.iaload, 1) := by decide +kernel
theorem dX10_walk_37 : decode cX10_walk 37 = .ok (.sipush 999, 3) := by decide +kernel
theorem dX10_walk_40 : decode cX10_walk 40 = .ok (.if_icmp .ne 7, 3) := by decide +kernel
theorem dX10_walk_43 : decode cX10_walk 43 = .ok (.iconst (-1), 1) := by decide +kernel
theorem dX10_walk_44 : decode cX10_walk 44 = .ok (.goto 9, 3) := by decide +kernel
theorem dX10_walk_47 : decode cX10_walk 47 = .ok (.aload_n 0, 1) := by decide +kernel
theorem dX10_walk_48 : decode cX10_walk 48 = .ok (.getfield 38, 3) := by decide +kernel
theorem dX10_walk_51 : decode cX10_walk 51 = .ok (.iload_n 3, 1) := by decide +kernel
theorem dX10_walk_52 : decode cX10_walk 52 = .ok (.iaload, 1) := by decide +kernel
theorem dX10_walk_53 : decode cX10_walk 53 = .ok (.ireturn, 1) := by decide +kernel
theorem dX10_reachOf_0 : decode cX10_reachOf 0 = .ok (.aload_n 0, 1) := by decide +kernel
theorem dX10_reachOf_1 : decode cX10_reachOf 1 = .ok (.iload_n 1, 1) := by decide +kernel
theorem dX10_reachOf_2 : decode cX10_reachOf 2 = .ok (.aload_n 0, 1) := by decide +kernel
theorem dX10_reachOf_3 : decode cX10_reachOf 3 = .ok (.getfield 29, 3) := by decide +kernel
theorem dX10_reachOf_6 : decode cX10_reachOf 6 = .ok (.iconst 5, 1) := by decide +kernel
theorem dX10_reachOf_7 : decode cX10_reachOf 7 = .ok (.iload_n 1, 1) := by decide +kernel
theorem dX10_reachOf_8 : decode cX10_reachOf 8 = .ok (.imul, 1) := by decide +kernel
theorem dX10_reachOf_9 : decode cX10_reachOf 9 = .ok (.iconst 1, 1) := by decide +kernel
theorem dX10_reachOf_10 : decode cX10_reachOf 10 = .ok (.iadd, 1) := by decide +kernel
theorem dX10_reachOf_11 : decode cX10_reachOf 11 = .ok (.iaload, 1) := by decide +kernel
theorem dX10_reachOf_12 : decode cX10_reachOf 12 = .ok (.invokevirtual 407, 3) := by decide +kernel
theorem dX10_reachOf_15 : decode cX10_reachOf 15 = .ok (.iconst 0, 1) := by decide +kernel
theorem dX10_reachOf_16 : decode cX10_reachOf 16 = .ok (.istore_n 2, 1) := by decide +kernel
theorem dX10_reachOf_17 : decode cX10_reachOf 17 = .ok (.iconst 0, 1) := by decide +kernel
theorem dX10_reachOf_18 : decode cX10_reachOf 18 = .ok (.istore_n 3, 1) := by decide +kernel
theorem dX10_reachOf_19 : decode cX10_reachOf 19 = .ok (.iload_n 3, 1) := by decide +kernel
theorem dX10_reachOf_20 : decode cX10_reachOf 20 = .ok (.bipush 8, 2) := by decide +kernel
theorem dX10_reachOf_22 : decode cX10_reachOf 22 = .ok (.if_icmp .ge 31, 3) := by decide +kernel
theorem dX10_reachOf_25 : decode cX10_reachOf 25 = .ok (.iload_n 2, 1) := by decide +kernel
theorem dX10_reachOf_26 : decode cX10_reachOf 26 = .ok (.aload_n 0, 1) := by decide +kernel
theorem dX10_reachOf_27 : decode cX10_reachOf 27 = .ok (.getfield 38, 3) := by decide +kernel
theorem dX10_reachOf_30 : decode cX10_reachOf 30 = .ok (.iload_n 3, 1) := by decide +kernel
theorem dX10_reachOf_31 : decode cX10_reachOf 31 = .ok (.iaload, 1) := by decide +kernel
theorem dX10_reachOf_32 : decode cX10_reachOf 32 = .ok (.sipush 999, 3) := by decide +kernel
theorem dX10_reachOf_35 : decode cX10_reachOf 35 = .ok (.if_icmp .ge 7, 3) := by decide +kernel
theorem dX10_reachOf_38 : decode cX10_reachOf 38 = .ok (.iconst 1, 1) := by decide +kernel
theorem dX10_reachOf_39 : decode cX10_reachOf 39 = .ok (.goto 4, 3) := by decide +kernel
theorem dX10_reachOf_42 : decode cX10_reachOf 42 = .ok (.iconst 0, 1) := by decide +kernel
theorem dX10_reachOf_43 : decode cX10_reachOf 43 = .ok (.iload_n 3, 1) := by decide +kernel
theorem dX10_reachOf_44 : decode cX10_reachOf 44 = .ok (.ishl, 1) := by decide +kernel
theorem dX10_reachOf_45 : decode cX10_reachOf 45 = .ok (.ior, 1) := by decide +kernel
theorem dX10_reachOf_46 : decode cX10_reachOf 46 = .ok (.istore_n 2, 1) := by decide +kernel
theorem dX10_reachOf_47 : decode cX10_reachOf 47 = .ok (.iinc 3 1, 3) := by decide +kernel
theorem dX10_reachOf_50 : decode cX10_reachOf 50 = .ok (.goto (-31), 3) := by decide +kernel
theorem dX10_reachOf_53 : decode cX10_reachOf 53 = .ok (.iload_n 2, 1) := by decide +kernel
theorem dX10_reachOf_54 : decode cX10_reachOf 54 = .ok (.ireturn, 1) := by decide +kernel
theorem dX10_firstOther_0 : decode cX10_firstOther 0 = .ok (.iconst 0, 1) := by decide +kernel
theorem dX10_firstOther_1 : decode cX10_firstOther 1 = .ok (.istore_n 3, 1) := by decide +kernel
theorem dX10_firstOther_2 : decode cX10_firstOther 2 = .ok (.iload_n 3, 1) := by decide +kernel
theorem dX10_firstOther_3 : decode cX10_firstOther 3 = .ok (.bipush 8, 2) := by decide +kernel
theorem dX10_firstOther_5 : decode cX10_firstOther 5 = .ok (.if_icmp .ge 31, 3) := by decide +kernel
theorem dX10_firstOther_8 : decode cX10_firstOther 8 = .ok (.aload_n 0, 1) := by decide +kernel
theorem dX10_firstOther_9 : decode cX10_firstOther 9 = .ok (.iload_n 2, 1) := by decide +kernel
theorem dX10_firstOther_10 : decode cX10_firstOther 10 = .ok (.iload_n 3, 1) := by decide +kernel
theorem dX10_firstOther_11 : decode cX10_firstOther 11 = .ok (.invokevirtual 131, 3) := by decide +kernel
theorem dX10_firstOther_14 : decode cX10_firstOther 14 = .ok (.aload_n 0, 1) := by decide +kernel
theorem dX10_firstOther_15 : decode cX10_firstOther 15 = .ok (.getfield 60, 3) := by decide +kernel
theorem dX10_firstOther_18 : decode cX10_firstOther 18 = .ok (.bipush 40, 2) := by decide +kernel
theorem dX10_firstOther_20 : decode cX10_firstOther 20 = .ok (.iload_n 1, 1) := by decide +kernel
theorem dX10_firstOther_21 : decode cX10_firstOther 21 = .ok (.imul, 1) := by decide +kernel
theorem dX10_firstOther_22 : decode cX10_firstOther 22 = .ok (.iload_n 3, 1) := by decide +kernel
theorem dX10_firstOther_23 : decode cX10_firstOther 23 = .ok (.iadd, 1) := by decide +kernel
theorem dX10_firstOther_24 : decode cX10_firstOther 24 = .ok (.iaload, 1) := by decide +kernel
theorem dX10_firstOther_25 : decode cX10_firstOther 25 = .ok (.if_icmp .eq 5, 3) := by decide +kernel
theorem dX10_firstOther_28 : decode cX10_firstOther 28 = .ok (.iload_n 3, 1) := by decide +kernel
theorem dX10_firstOther_29 : decode cX10_firstOther 29 = .ok (.ireturn, 1) := by decide +kernel
theorem dX10_firstOther_30 : decode cX10_firstOther 30 = .ok (.iinc 3 1, 3) := by decide +kernel
theorem dX10_firstOther_33 : decode cX10_firstOther 33 = .ok (.goto (-31), 3) := by decide +kernel
theorem dX10_firstOther_36 : decode cX10_firstOther 36 = .ok (.iconst (-1), 1) := by decide +kernel
theorem dX10_firstOther_37 : decode cX10_firstOther 37 = .ok (.ireturn, 1) := by decide +kernel
theorem dX10_likeSet_0 : decode cX10_likeSet 0 = .ok (.iconst 0, 1) := by decide +kernel
theorem dX10_likeSet_1 : decode cX10_likeSet 1 = .ok (.istore_n 2, 1) := by decide +kernel
theorem dX10_likeSet_2 : decode cX10_likeSet 2 = .ok (.iconst 0, 1) := by decide +kernel
theorem dX10_likeSet_3 : decode cX10_likeSet 3 = .ok (.istore_n 3, 1) := by decide +kernel
theorem dX10_likeSet_4 : decode cX10_likeSet 4 = .ok (.iload_n 3, 1) := by decide +kernel
theorem dX10_likeSet_5 : decode cX10_likeSet 5 = .ok (.aload_n 0, 1) := by decide +kernel
theorem dX10_likeSet_6 : decode cX10_likeSet 6 = .ok (.getfield 73, 3) := by decide +kernel
theorem dX10_likeSet_9 : decode cX10_likeSet 9 = .ok (.if_icmp .ge 29, 3) := by decide +kernel
theorem dX10_likeSet_12 : decode cX10_likeSet 12 = .ok (.iload_n 2, 1) := by decide +kernel
theorem dX10_likeSet_13 : decode cX10_likeSet 13 = .ok (.aload_n 0, 1) := by decide +kernel
theorem dX10_likeSet_14 : decode cX10_likeSet 14 = .ok (.iload_n 1, 1) := by decide +kernel
theorem dX10_likeSet_15 : decode cX10_likeSet 15 = .ok (.iload_n 3, 1) := by decide +kernel
theorem dX10_likeSet_16 : decode cX10_likeSet 16 = .ok (.invokevirtual 410, 3) := by decide +kernel
theorem dX10_likeSet_19 : decode cX10_likeSet 19 = .ok (.iconst (-1), 1) := by decide +kernel
theorem dX10_likeSet_20 : decode cX10_likeSet 20 = .ok (.if_icmp .ne 7, 3) := by decide +kernel
theorem dX10_likeSet_23 : decode cX10_likeSet 23 = .ok (.iconst 1, 1) := by decide +kernel
theorem dX10_likeSet_24 : decode cX10_likeSet 24 = .ok (.goto 4, 3) := by decide +kernel
theorem dX10_likeSet_27 : decode cX10_likeSet 27 = .ok (.iconst 0, 1) := by decide +kernel
theorem dX10_likeSet_28 : decode cX10_likeSet 28 = .ok (.iload_n 3, 1) := by decide +kernel
theorem dX10_likeSet_29 : decode cX10_likeSet 29 = .ok (.ishl, 1) := by decide +kernel
theorem dX10_likeSet_30 : decode cX10_likeSet 30 = .ok (.ior, 1) := by decide +kernel
theorem dX10_likeSet_31 : decode cX10_likeSet 31 = .ok (.istore_n 2, 1) := by decide +kernel
theorem dX10_likeSet_32 : decode cX10_likeSet 32 = .ok (.iinc 3 1, 3) := by decide +kernel
theorem dX10_likeSet_35 : decode cX10_likeSet 35 = .ok (.goto (-31), 3) := by decide +kernel
theorem dX10_likeSet_38 : decode cX10_likeSet 38 = .ok (.iload_n 2, 1) := by decide +kernel
theorem dX10_likeSet_39 : decode cX10_likeSet 39 = .ok (.ireturn, 1) := by decide +kernel
theorem dX10_tells_0 : decode cX10_tells 0 = .ok (.iload_n 1, 1) := by decide +kernel
theorem dX10_tells_1 : decode cX10_tells 1 = .ok (.invokestatic 413, 3) := by decide +kernel
theorem dX10_tells_4 : decode cX10_tells 4 = .ok (.ifCond .eq 23, 3) := by decide +kernel
theorem dX10_tells_7 : decode cX10_tells 7 = .ok (.aload_n 0, 1) := by decide +kernel
theorem dX10_tells_8 : decode cX10_tells 8 = .ok (.iload_n 2, 1) := by decide +kernel
theorem dX10_tells_9 : decode cX10_tells 9 = .ok (.invokevirtual 84, 3) := by decide +kernel
theorem dX10_tells_12 : decode cX10_tells 12 = .ok (.ifCond .eq 15, 3) := by decide +kernel
theorem dX10_tells_15 : decode cX10_tells 15 = .ok (.iload_n 3, 1) := by decide +kernel
theorem dX10_tells_16 : decode cX10_tells 16 = .ok (.i2l, 1) := by decide +kernel
theorem dX10_tells_17 : decode cX10_tells 17 = .ok (.lconst 0, 1) := by decide +kernel
theorem dX10_tells_18 : decode cX10_tells 18 = .ok (.ldc2_w 111, 3) := by decide +kernel
theorem dX10_tells_21 : decode cX10_tells 21 = .ok (.invokestatic 76, 3) := by decide +kernel
theorem dX10_tells_24 : decode cX10_tells 24 = .ok (.ifCond .ne 6, 3) := by decide +kernel
theorem dX10_tells_27 : decode cX10_tells 27 = .ok (.bipush (-2), 2) := by decide +kernel
theorem dX10_tells_29 : decode cX10_tells 29 = .ok (.ireturn, 1) := by decide +kernel
theorem dX10_tells_30 : decode cX10_tells 30 = .ok (.aload_n 0, 1) := by decide +kernel
theorem dX10_tells_31 : decode cX10_tells 31 = .ok (.getfield 50, 3) := by decide +kernel
theorem dX10_tells_34 : decode cX10_tells 34 = .ok (.iload_n 1, 1) := by decide +kernel
theorem dX10_tells_35 : decode cX10_tells 35 = .ok (.baload, 1) := by decide +kernel
theorem dX10_tells_36 : decode cX10_tells 36 = .ok (.ifCond .ne 6, 3) := by decide +kernel
theorem dX10_tells_39 : decode cX10_tells 39 = .ok (.bipush (-11), 2) := by decide +kernel
theorem dX10_tells_41 : decode cX10_tells 41 = .ok (.ireturn, 1) := by decide +kernel
theorem dX10_tells_42 : decode cX10_tells 42 = .ok (.aload_n 0, 1) := by decide +kernel
theorem dX10_tells_43 : decode cX10_tells 43 = .ok (.getfield 57, 3) := by decide +kernel
theorem dX10_tells_46 : decode cX10_tells 46 = .ok (.iload_n 1, 1) := by decide +kernel
theorem dX10_tells_47 : decode cX10_tells 47 = .ok (.iaload, 1) := by decide +kernel
theorem dX10_tells_48 : decode cX10_tells 48 = .ok (.bipush 8, 2) := by decide +kernel
theorem dX10_tells_50 : decode cX10_tells 50 = .ok (.if_icmp .eq 6, 3) := by decide +kernel
theorem dX10_tells_53 : decode cX10_tells 53 = .ok (.bipush (-2), 2) := by decide +kernel
theorem dX10_tells_55 : decode cX10_tells 55 = .ok (.ireturn, 1) := by decide +kernel
theorem dX10_tells_56 : decode cX10_tells 56 = .ok (.iload_n 3, 1) := by decide +kernel
theorem dX10_tells_57 : decode cX10_tells 57 = .ok (.ifCond .eq 8, 3) := by decide +kernel
theorem dX10_tells_60 : decode cX10_tells 60 = .ok (.iload_n 3, 1) := by decide +kernel
theorem dX10_tells_61 : decode cX10_tells 61 = .ok (.iconst 5, 1) := by decide +kernel
theorem dX10_tells_62 : decode cX10_tells 62 = .ok (.if_icmp .ne 22, 3) := by decide +kernel
theorem dX10_tells_65 : decode cX10_tells 65 = .ok (.iload_n 3, 1) := by decide +kernel
theorem dX10_tells_66 : decode cX10_tells 66 = .ok (.ifCond .ne 12, 3) := by decide +kernel
theorem dX10_tells_69 : decode cX10_tells 69 = .ok (.aload_n 0, 1) := by decide +kernel
theorem dX10_tells_70 : decode cX10_tells 70 = .ok (.iload_n 1, 1) := by decide +kernel
theorem dX10_tells_71 : decode cX10_tells 71 = .ok (.iload_n 2, 1) := by decide +kernel
theorem dX10_tells_72 : decode cX10_tells 72 = .ok (.invokevirtual 410, 3) := by decide +kernel
theorem dX10_tells_75 : decode cX10_tells 75 = .ok (.goto 8, 3) := by decide +kernel
theorem dX10_tells_78 : decode cX10_tells 78 = .ok (.aload_n 0, 1) := by decide +kernel
theorem dX10_tells_79 : decode cX10_tells 79 = .ok (.iload_n 1, 1) := by decide +kernel
theorem dX10_tells_80 : decode cX10_tells 80 = .ok (.invokevirtual 416, 3) := by decide +kernel
theorem dX10_tells_83 : decode cX10_tells 83 = .ok (.ireturn, 1) := by decide +kernel
theorem dX10_tells_84 : decode cX10_tells 84 = .ok (.iload_n 3, 1) := by decide +kernel
theorem dX10_tells_85 : decode cX10_tells 85 = .ok (.iconst 1, 1) := by decide +kernel
theorem dX10_tells_86 : decode cX10_tells 86 = .ok (.if_icmp .ne 7, 3) := by decide +kernel
theorem dX10_tells_89 : decode cX10_tells 89 = .ok (.iconst 5, 1) := by decide +kernel
theorem dX10_tells_90 : decode cX10_tells 90 = .ok (.goto 16, 3) := by decide +kernel
theorem dX10_tells_93 : decode cX10_tells 93 = .ok (.iload_n 3, 1) := by decide +kernel
theorem dX10_tells_94 : decode cX10_tells 94 = .ok (.iconst 4, 1) := by decide +kernel
theorem dX10_tells_95 : decode cX10_tells 95 = .ok (.if_icmp .ne 8, 3) := by decide +kernel
theorem dX10_tells_98 : decode cX10_tells 98 = .ok (.bipush 6, 2) := by decide +kernel
theorem dX10_tells_100 : decode cX10_tells 100 = .ok (.goto 6, 3) := by decide +kernel
theorem dX10_tells_103 : decode cX10_tells 103 = .ok (.iload_n 3, 1) := by decide +kernel
theorem dX10_tells_104 : decode cX10_tells 104 = .ok (.iconst 1, 1) := by decide +kernel
theorem dX10_tells_105 : decode cX10_tells 105 = .ok (.isub, 1) := by decide +kernel
theorem dX10_tells_106 : decode cX10_tells 106 = .ok (.istore 4, 2) := by decide +kernel
theorem dX10_tells_108 : decode cX10_tells 108 = .ok (.iload 4, 2) := by decide +kernel
theorem dX10_tells_110 : decode cX10_tells 110 = .ok (.bipush 6, 2) := by decide +kernel
theorem dX10_tells_112 : decode cX10_tells 112 = .ok (.if_icmp .ne 10, 3) := by decide +kernel
theorem dX10_tells_115 : decode cX10_tells 115 = .ok (.aload_n 0, 1) := by decide +kernel
theorem dX10_tells_116 : decode cX10_tells 116 = .ok (.getfield 103, 3) := by decide +kernel
theorem dX10_tells_119 : decode cX10_tells 119 = .ok (.goto 10, 3) := by decide +kernel
theorem dX10_tells_122 : decode cX10_tells 122 = .ok (.aload_n 0, 1) := by decide +kernel
theorem dX10_tells_123 : decode cX10_tells 123 = .ok (.iload_n 2, 1) := by decide +kernel
theorem dX10_tells_124 : decode cX10_tells 124 = .ok (.iload 4, 2) := by decide +kernel
theorem dX10_tells_126 : decode cX10_tells 126 = .ok (.invokevirtual 92, 3) := by decide +kernel
theorem dX10_tells_129 : decode cX10_tells 129 = .ok (.istore 5, 2) := by decide +kernel
theorem dX10_tells_131 : decode cX10_tells 131 = .ok (.iload 4, 2) := by decide +kernel
theorem dX10_tells_133 : decode cX10_tells 133 = .ok (.bipush 6, 2) := by decide +kernel
theorem dX10_tells_135 : decode cX10_tells 135 = .ok (.if_icmp .ne 12, 3) := by decide +kernel
theorem dX10_tells_138 : decode cX10_tells 138 = .ok (.aload_n 0, 1) := by decide +kernel
theorem dX10_tells_139 : decode cX10_tells 139 = .ok (.getfield 70, 3) := by decide +kernel
theorem dX10_tells_142 : decode cX10_tells 142 = .ok (.iconst 1, 1) := by decide +kernel
theorem dX10_tells_143 : decode cX10_tells 143 = .ok (.isub, 1) := by decide +kernel
theorem dX10_tells_144 : decode cX10_tells 144 = .ok (.goto 18, 3) := by decide +kernel
theorem dX10_tells_147 : decode cX10_tells 147 = .ok (.iload 4, 2) := by decide +kernel
theorem dX10_tells_149 : decode cX10_tells 149 = .ok (.iconst 5, 1) := by decide +kernel
theorem dX10_tells_150 : decode cX10_tells 150 = .ok (.if_icmp .ne 7, 3) := by decide +kernel
theorem dX10_tells_153 : decode cX10_tells 153 = .ok (.iconst 5, 1) := by decide +kernel
theorem dX10_tells_154 : decode cX10_tells 154 = .ok (.goto 8, 3) := by decide +kernel
theorem dX10_tells_157 : decode cX10_tells 157 = .ok (.iload 4, 2) := by decide +kernel
theorem dX10_tells_159 : decode cX10_tells 159 = .ok (.invokestatic 88, 3) := by decide +kernel
theorem dX10_tells_162 : decode cX10_tells 162 = .ok (.istore 6, 2) := by decide +kernel
theorem dX10_tells_164 : decode cX10_tells 164 = .ok (.iconst 0, 1) := by decide +kernel
theorem dX10_tells_165 : decode cX10_tells 165 = .ok (.istore 7, 2) := by decide +kernel
theorem dX10_tells_167 : decode cX10_tells 167 = .ok (.iconst 0, 1) := by decide +kernel
theorem dX10_tells_168 : decode cX10_tells 168 = .ok (.istore 8, 2) := by decide +kernel
theorem dX10_tells_170 : decode cX10_tells 170 = .ok (.iload 8, 2) := by decide +kernel
theorem dX10_tells_172 : decode cX10_tells 172 = .ok (.iload 6, 2) := by decide +kernel
theorem dX10_tells_174 : decode cX10_tells 174 = .ok (.if_icmp .gt 41, 3) := by decide +kernel
theorem dX10_tells_177 : decode cX10_tells 177 = .ok (.aload_n 0, 1) := by decide +kernel
theorem dX10_tells_178 : decode cX10_tells 178 = .ok (.iload 4, 2) := by decide +kernel
theorem dX10_tells_180 : decode cX10_tells 180 = .ok (.iload_n 2, 1) := by decide +kernel
theorem dX10_tells_181 : decode cX10_tells 181 = .ok (.iload 8, 2) := by decide +kernel
theorem dX10_tells_183 : decode cX10_tells 183 = .ok (.invokevirtual 96, 3) := by decide +kernel
theorem dX10_tells_186 : decode cX10_tells 186 = .ok (.iload 7, 2) := by decide +kernel
theorem dX10_tells_188 : decode cX10_tells 188 = .ok (.aload_n 0, 1) := by decide +kernel
theorem dX10_tells_189 : decode cX10_tells 189 = .ok (.iload_n 1, 1) := by decide +kernel
theorem dX10_tells_190 : decode cX10_tells 190 = .ok (.iload_n 2, 1) := by decide +kernel
theorem dX10_tells_191 : decode cX10_tells 191 = .ok (.invokevirtual 410, 3) := by decide +kernel
theorem dX10_tells_194 : decode cX10_tells 194 = .ok (.iconst (-1), 1) := by decide +kernel
theorem dX10_tells_195 : decode cX10_tells 195 = .ok (.if_icmp .ne 7, 3) := by decide +kernel
theorem dX10_tells_198 : decode cX10_tells 198 = .ok (.iconst 1, 1) := by decide +kernel
theorem dX10_tells_199 : decode cX10_tells 199 = .ok (.goto 4, 3) := by decide +kernel
theorem dX10_tells_202 : decode cX10_tells 202 = .ok (.iconst 0, 1) := by decide +kernel
theorem dX10_tells_203 : decode cX10_tells 203 = .ok (.iload 8, 2) := by decide +kernel
theorem dX10_tells_205 : decode cX10_tells 205 = .ok (.ishl, 1) := by decide +kernel
theorem dX10_tells_206 : decode cX10_tells 206 = .ok (.ior, 1) := by decide +kernel
theorem dX10_tells_207 : decode cX10_tells 207 = .ok (.istore 7, 2) := by decide +kernel
theorem dX10_tells_209 : decode cX10_tells 209 = .ok (.iinc 8 1, 3) := by decide +kernel
theorem dX10_tells_212 : decode cX10_tells 212 = .ok (.goto (-42), 3) := by decide +kernel
theorem dX10_tells_215 : decode cX10_tells 215 = .ok (.aload_n 0, 1) := by decide +kernel
theorem dX10_tells_216 : decode cX10_tells 216 = .ok (.iload 4, 2) := by decide +kernel
theorem dX10_tells_218 : decode cX10_tells 218 = .ok (.iload_n 2, 1) := by decide +kernel
theorem dX10_tells_219 : decode cX10_tells 219 = .ok (.iload 5, 2) := by decide +kernel
theorem dX10_tells_221 : decode cX10_tells 221 = .ok (.invokevirtual 96, 3) := by decide +kernel
theorem dX10_tells_224 : decode cX10_tells 224 = .ok (.iload 7, 2) := by decide +kernel
theorem dX10_tells_226 : decode cX10_tells 226 = .ok (.ireturn, 1) := by decide +kernel
theorem dX10_film_0 : decode cX10_film 0 = .ok (.iload_n 1, 1) := by decide +kernel
theorem dX10_film_1 : decode cX10_film 1 = .ok (.invokestatic 413, 3) := by decide +kernel
theorem dX10_film_4 : decode cX10_film 4 = .ok (.ifCond .eq 11, 3) := by decide +kernel
theorem dX10_film_7 : decode cX10_film 7 = .ok (.aload_n 0, 1) := by decide +kernel
theorem dX10_film_8 : decode cX10_film 8 = .ok (.iload_n 2, 1) := by decide +kernel
theorem dX10_film_9 : decode cX10_film 9 = .ok (.invokevirtual 84, 3) := by decide +kernel
theorem dX10_film_12 : decode cX10_film 12 = .ok (.ifCond .ne 6, 3) := by decide +kernel
theorem dX10_film_15 : decode cX10_film 15 = .ok (.bipush (-2), 2) := by decide +kernel
theorem dX10_film_17 : decode cX10_film 17 = .ok (.ireturn, 1) := by decide +kernel
theorem dX10_film_18 : decode cX10_film 18 = .ok (.aload_n 0, 1) := by decide +kernel
theorem dX10_film_19 : decode cX10_film 19 = .ok (.iload_n 1, 1) := by decide +kernel
theorem dX10_film_20 : decode cX10_film 20 = .ok (.iconst 1, 1) := by decide +kernel
theorem dX10_film_21 : decode cX10_film 21 = .ok (.bipush 8, 2) := by decide +kernel
theorem dX10_film_23 : decode cX10_film 23 = .ok (.invokevirtual 419, 3) := by decide +kernel
theorem dX10_film_26 : decode cX10_film 26 = .ok (.pop, 1) := by decide +kernel
theorem dX10_film_27 : decode cX10_film 27 = .ok (.iconst 0, 1) := by decide +kernel
theorem dX10_film_28 : decode cX10_film 28 = .ok (.istore_n 3, 1) := by decide +kernel
theorem dX10_film_29 : decode cX10_film 29 = .ok (.iconst 0, 1) := by decide +kernel
theorem dX10_film_30 : decode cX10_film 30 = .ok (.istore 4, 2) := by decide +kernel
theorem dX10_film_32 : decode cX10_film 32 = .ok (.iload 4, 2) := by decide +kernel
theorem dX10_film_34 : decode cX10_film 34 = .ok (.bipush 8, 2) := by decide +kernel
theorem dX10_film_36 : decode cX10_film 36 = .ok (.if_icmp .ge 43, 3) := by decide +kernel
theorem dX10_film_39 : decode cX10_film 39 = .ok (.aload_n 0, 1) := by decide +kernel
theorem dX10_film_40 : decode cX10_film 40 = .ok (.getfield 60, 3) := by decide +kernel
theorem dX10_film_43 : decode cX10_film 43 = .ok (.bipush 40, 2) := by decide +kernel
theorem dX10_film_45 : decode cX10_film 45 = .ok (.iload_n 1, 1) := by decide +kernel
theorem dX10_film_46 : decode cX10_film 46 = .ok (.imul, 1) := by decide +kernel
theorem dX10_film_47 : decode cX10_film 47 = .ok (.iload 4, 2) := by decide +kernel
theorem dX10_film_49 : decode cX10_film 49 = .ok (.iadd, 1) := by decide +kernel
theorem dX10_film_50 : decode cX10_film 50 = .ok (.aload_n 0, 1) := by decide +kernel
theorem dX10_film_51 : decode cX10_film 51 = .ok (.iload_n 2, 1) := by decide +kernel
theorem dX10_film_52 : decode cX10_film 52 = .ok (.iload 4, 2) := by decide +kernel
theorem dX10_film_54 : decode cX10_film 54 = .ok (.invokevirtual 131, 3) := by decide +kernel
theorem dX10_film_57 : decode cX10_film 57 = .ok (.iastore, 1) := by decide +kernel
theorem dX10_film_58 : decode cX10_film 58 = .ok (.iload_n 3, 1) := by decide +kernel
theorem dX10_film_59 : decode cX10_film 59 = .ok (.aload_n 0, 1) := by decide +kernel
theorem dX10_film_60 : decode cX10_film 60 = .ok (.getfield 60, 3) := by decide +kernel
theorem dX10_film_63 : decode cX10_film 63 = .ok (.bipush 40, 2) := by decide +kernel
theorem dX10_film_65 : decode cX10_film 65 = .ok (.iload_n 1, 1) := by decide +kernel
theorem dX10_film_66 : decode cX10_film 66 = .ok (.imul, 1) := by decide +kernel
theorem dX10_film_67 : decode cX10_film 67 = .ok (.iload 4, 2) := by decide +kernel
theorem dX10_film_69 : decode cX10_film 69 = .ok (.iadd, 1) := by decide +kernel
theorem dX10_film_70 : decode cX10_film 70 = .ok (.iaload, 1) := by decide +kernel
theorem dX10_film_71 : decode cX10_film 71 = .ok (.iadd, 1) := by decide +kernel
theorem dX10_film_72 : decode cX10_film 72 = .ok (.istore_n 3, 1) := by decide +kernel
theorem dX10_film_73 : decode cX10_film 73 = .ok (.iinc 4 1, 3) := by decide +kernel
theorem dX10_film_76 : decode cX10_film 76 = .ok (.goto (-44), 3) := by decide +kernel
theorem dX10_film_79 : decode cX10_film 79 = .ok (.iload_n 3, 1) := by decide +kernel
theorem dX10_film_80 : decode cX10_film 80 = .ok (.ireturn, 1) := by decide +kernel
theorem dX10_knownDrawn_0 : decode cX10_knownDrawn 0 = .ok (.aload_n 0, 1) := by decide +kernel
theorem dX10_knownDrawn_1 : decode cX10_knownDrawn 1 = .ok (.invokevirtual 393, 3) := by decide +kernel
theorem dX10_knownDrawn_4 : decode cX10_knownDrawn 4 = .ok (.iload_n 1, 1) := by decide +kernel
theorem dX10_knownDrawn_5 : decode cX10_knownDrawn 5 = .ok (.istore_n 2, 1) := by decide +kernel
theorem dX10_knownDrawn_6 : decode cX10_knownDrawn 6 = .ok (.iconst 0, 1) := by decide +kernel
theorem dX10_knownDrawn_7 : decode cX10_knownDrawn 7 = .ok (.istore_n 3, 1) := by decide +kernel
theorem dX10_knownDrawn_8 : decode cX10_knownDrawn 8 = .ok (.iload_n 3, 1) := by decide +kernel
theorem dX10_knownDrawn_9 : decode cX10_knownDrawn 9 = .ok (.aload_n 0, 1) := by decide +kernel
theorem dX10_knownDrawn_10 : decode cX10_knownDrawn 10 = .ok (.getfield 73, 3) := by decide +kernel
theorem dX10_knownDrawn_13 : decode cX10_knownDrawn 13 = .ok (.if_icmp .ge 37, 3) := by decide +kernel
theorem dX10_knownDrawn_16 : decode cX10_knownDrawn 16 = .ok (.iload_n 2, 1) := by decide +kernel
theorem dX10_knownDrawn_17 : decode cX10_knownDrawn 17 = .ok (.ldc_w 422, 3) := by decide +kernel
theorem dX10_knownDrawn_20 : decode cX10_knownDrawn 20 = .ok (.imul, 1) := by decide +kernel
theorem dX10_knownDrawn_21 : decode cX10_knownDrawn 21 = .ok (.sipush 12345, 3) := by decide +kernel
theorem dX10_knownDrawn_24 : decode cX10_knownDrawn 24 = .ok (.iadd, 1) := by decide +kernel
theorem dX10_knownDrawn_25 : decode cX10_knownDrawn 25 = .ok (.istore_n 2, 1) := by decide +kernel
theorem dX10_knownDrawn_26 : decode cX10_knownDrawn 26 = .ok (.aload_n 0, 1) := by decide +kernel
theorem dX10_knownDrawn_27 : decode cX10_knownDrawn 27 = .ok (.getfield 29, 3) := by decide +kernel
theorem dX10_knownDrawn_30 : decode cX10_knownDrawn 30 = .ok (.iconst 5, 1) := by decide +kernel
theorem dX10_knownDrawn_31 : decode cX10_knownDrawn 31 = .ok (.iload_n 3, 1) := by decide +kernel
theorem dX10_knownDrawn_32 : decode cX10_knownDrawn 32 = .ok (.imul, 1) := by decide +kernel
theorem dX10_knownDrawn_33 : decode cX10_knownDrawn 33 = .ok (.iconst 2, 1) := by decide +kernel
theorem dX10_knownDrawn_34 : decode cX10_knownDrawn 34 = .ok (.iadd, 1) := by decide +kernel
theorem dX10_knownDrawn_35 : decode cX10_knownDrawn 35 = .ok (.iload_n 2, 1) := by decide +kernel
theorem dX10_knownDrawn_36 : decode cX10_knownDrawn 36 = .ok (.bipush 9, 2) := by decide +kernel
theorem dX10_knownDrawn_38 : decode cX10_knownDrawn 38 = .ok (.iushr, 1) := by decide +kernel
theorem dX10_knownDrawn_39 : decode cX10_knownDrawn 39 = .ok (.sipush 256, 3) := by decide +kernel
theorem dX10_knownDrawn_42 : decode cX10_knownDrawn 42 = .ok (.irem, 1) := by decide +kernel
theorem dX10_knownDrawn_43 : decode cX10_knownDrawn 43 = .ok (.iastore, 1) := by decide +kernel
theorem dX10_knownDrawn_44 : decode cX10_knownDrawn 44 = .ok (.iinc 3 1, 3) := by decide +kernel
theorem dX10_knownDrawn_47 : decode cX10_knownDrawn 47 = .ok (.goto (-39), 3) := by decide +kernel
theorem dX10_knownDrawn_50 : decode cX10_knownDrawn 50 = .ok (.iconst 0, 1) := by decide +kernel
theorem dX10_knownDrawn_51 : decode cX10_knownDrawn 51 = .ok (.istore_n 3, 1) := by decide +kernel
theorem dX10_knownDrawn_52 : decode cX10_knownDrawn 52 = .ok (.iload_n 3, 1) := by decide +kernel
theorem dX10_knownDrawn_53 : decode cX10_knownDrawn 53 = .ok (.iconst 5, 1) := by decide +kernel
theorem dX10_knownDrawn_54 : decode cX10_knownDrawn 54 = .ok (.if_icmp .ge 15, 3) := by decide +kernel
theorem dX10_knownDrawn_57 : decode cX10_knownDrawn 57 = .ok (.aload_n 0, 1) := by decide +kernel
theorem dX10_knownDrawn_58 : decode cX10_knownDrawn 58 = .ok (.iconst (-1), 1) := by decide +kernel
theorem dX10_knownDrawn_59 : decode cX10_knownDrawn 59 = .ok (.invokevirtual 382, 3) := by decide +kernel
theorem dX10_knownDrawn_62 : decode cX10_knownDrawn 62 = .ok (.pop, 1) := by decide +kernel
theorem dX10_knownDrawn_63 : decode cX10_knownDrawn 63 = .ok (.iinc 3 1, 3) := by decide +kernel
theorem dX10_knownDrawn_66 : decode cX10_knownDrawn 66 = .ok (.goto (-14), 3) := by decide +kernel
theorem dX10_knownDrawn_69 : decode cX10_knownDrawn 69 = .ok (.aload_n 0, 1) := by decide +kernel
theorem dX10_knownDrawn_70 : decode cX10_knownDrawn 70 = .ok (.invokevirtual 396, 3) := by decide +kernel
theorem dX10_knownDrawn_73 : decode cX10_knownDrawn 73 = .ok (.istore_n 3, 1) := by decide +kernel
theorem dX10_knownDrawn_74 : decode cX10_knownDrawn 74 = .ok (.aload_n 0, 1) := by decide +kernel
theorem dX10_knownDrawn_75 : decode cX10_knownDrawn 75 = .ok (.invokevirtual 399, 3) := by decide +kernel
theorem dX10_knownDrawn_78 : decode cX10_knownDrawn 78 = .ok (.iload_n 3, 1) := by decide +kernel
theorem dX10_knownDrawn_79 : decode cX10_knownDrawn 79 = .ok (.ireturn, 1) := by decide +kernel
theorem dX10_drawn_0 : decode cX10_drawn 0 = .ok (.aload_n 0, 1) := by decide +kernel
theorem dX10_drawn_1 : decode cX10_drawn 1 = .ok (.iload_n 1, 1) := by decide +kernel
theorem dX10_drawn_2 : decode cX10_drawn 2 = .ok (.invokevirtual 423, 3) := by decide +kernel
theorem dX10_drawn_5 : decode cX10_drawn 5 = .ok (.ireturn, 1) := by decide +kernel
theorem dX10_chance_0 : decode cX10_chance 0 = .ok (.iload_n 2, 1) := by decide +kernel
theorem dX10_chance_1 : decode cX10_chance 1 = .ok (.i2l, 1) := by decide +kernel
theorem dX10_chance_2 : decode cX10_chance 2 = .ok (.lconst 1, 1) := by decide +kernel
theorem dX10_chance_3 : decode cX10_chance 3 = .ok (.ldc2_w 121, 3) := by decide +kernel
theorem dX10_chance_6 : decode cX10_chance 6 = .ok (.invokestatic 76, 3) := by decide +kernel
theorem dX10_chance_9 : decode cX10_chance 9 = .ok (.ifCond .eq 26, 3) := by decide +kernel
theorem dX10_chance_12 : decode cX10_chance 12 = .ok (.iload_n 3, 1) := by decide +kernel
theorem dX10_chance_13 : decode cX10_chance 13 = .ok (.i2l, 1) := by decide +kernel
theorem dX10_chance_14 : decode cX10_chance 14 = .ok (.lconst 0, 1) := by decide +kernel
theorem dX10_chance_15 : decode cX10_chance 15 = .ok (.ldc2_w 172, 3) := by decide +kernel
theorem dX10_chance_18 : decode cX10_chance 18 = .ok (.invokestatic 76, 3) := by decide +kernel
theorem dX10_chance_21 : decode cX10_chance 21 = .ok (.ifCond .eq 14, 3) := by decide +kernel
theorem dX10_chance_24 : decode cX10_chance 24 = .ok (.iload 4, 2) := by decide +kernel
theorem dX10_chance_26 : decode cX10_chance 26 = .ok (.i2l, 1) := by decide +kernel
theorem dX10_chance_27 : decode cX10_chance 27 = .ok (.lconst 0, 1) := by decide +kernel
theorem dX10_chance_28 : decode cX10_chance 28 = .ok (.lconst 1, 1) := by decide +kernel
theorem dX10_chance_29 : decode cX10_chance 29 = .ok (.invokestatic 76, 3) := by decide +kernel
theorem dX10_chance_32 : decode cX10_chance 32 = .ok (.ifCond .ne 7, 3) := by decide +kernel
theorem dX10_chance_35 : decode cX10_chance 35 = .ok (.ldc2_w 426, 3) := by decide +kernel
theorem dX10_chance_38 : decode cX10_chance 38 = .ok (.lreturn, 1) := by decide +kernel
theorem dX10_chance_39 : decode cX10_chance 39 = .ok (.lconst 0, 1) := by decide +kernel
theorem dX10_chance_40 : decode cX10_chance 40 = .ok (.lstore 5, 2) := by decide +kernel
theorem dX10_chance_42 : decode cX10_chance 42 = .ok (.iconst 0, 1) := by decide +kernel
theorem dX10_chance_43 : decode cX10_chance 43 = .ok (.istore 7, 2) := by decide +kernel
theorem dX10_chance_45 : decode cX10_chance 45 = .ok (.iload 7, 2) := by decide +kernel
theorem dX10_chance_47 : decode cX10_chance 47 = .ok (.iload_n 2, 1) := by decide +kernel
theorem dX10_chance_48 : decode cX10_chance 48 = .ok (.if_icmp .ge 31, 3) := by decide +kernel
theorem dX10_chance_51 : decode cX10_chance 51 = .ok (.lload 5, 2) := by decide +kernel
theorem dX10_chance_53 : decode cX10_chance 53 = .ok (.aload_n 0, 1) := by decide +kernel
theorem dX10_chance_54 : decode cX10_chance 54 = .ok (.iload_n 1, 1) := by decide +kernel
theorem dX10_chance_55 : decode cX10_chance 55 = .ok (.iload 7, 2) := by decide +kernel
theorem dX10_chance_57 : decode cX10_chance 57 = .ok (.iadd, 1) := by decide +kernel
theorem dX10_chance_58 : decode cX10_chance 58 = .ok (.invokevirtual 423, 3) := by decide +kernel
theorem dX10_chance_61 : decode cX10_chance 61 = .ok (.iload_n 3, 1) := by decide +kernel
theorem dX10_chance_62 : decode cX10_chance 62 = .ok (.if_icmp .lt 7, 3) := by decide +kernel
theorem dX10_chance_65 : decode cX10_chance 65 = .ok (.lconst 1, 1) := by decide +kernel
theorem dX10_chance_66 : decode cX10_chance 66 = .ok (.goto 4, 3) := by decide +kernel
theorem dX10_chance_69 : decode cX10_chance 69 = .ok (.lconst 0, 1) := by decide +kernel
theorem dX10_chance_70 : decode cX10_chance 70 = .ok (.ladd, 1) := by decide +kernel
theorem dX10_chance_71 : decode cX10_chance 71 = .ok (.lstore 5, 2) := by decide +kernel
theorem dX10_chance_73 : decode cX10_chance 73 = .ok (.iinc 7 1, 3) := by decide +kernel
theorem dX10_chance_76 : decode cX10_chance 76 = .ok (.goto (-31), 3) := by decide +kernel
theorem dX10_chance_79 : decode cX10_chance 79 = .ok (.lload 5, 2) := by decide +kernel
theorem dX10_chance_81 : decode cX10_chance 81 = .ok (.lstore 7, 2) := by decide +kernel
theorem dX10_chance_83 : decode cX10_chance 83 = .ok (.iload_n 2, 1) := by decide +kernel
theorem dX10_chance_84 : decode cX10_chance 84 = .ok (.i2l, 1) := by decide +kernel
theorem dX10_chance_85 : decode cX10_chance 85 = .ok (.lstore 9, 2) := by decide +kernel
theorem dX10_chance_87 : decode cX10_chance 87 = .ok (.lload 9, 2) := by decide +kernel
theorem dX10_chance_89 : decode cX10_chance 89 = .ok (.lconst 0, 1) := by decide +kernel
theorem dX10_chance_90 : decode cX10_chance 90 = .ok (.lcmp, 1) := by decide +kernel
theorem dX10_chance_91 : decode cX10_chance 91 = .ok (.ifCond .eq 21, 3) := by decide +kernel
theorem dX10_chance_94 : decode cX10_chance 94 = .ok (.lload 7, 2) := by decide +kernel
theorem dX10_chance_96 : decode cX10_chance 96 = .ok (.lload 9, 2) := by decide +kernel
theorem dX10_chance_98 : decode cX10_chance 98 = .ok (.lrem, 1) := by decide +kernel
theorem dX10_chance_99 : decode cX10_chance 99 = .ok (.lstore 11, 2) := by decide +kernel
theorem dX10_chance_101 : decode cX10_chance 101 = .ok (.lload 9, 2) := by decide +kernel
theorem dX10_chance_103 : decode cX10_chance 103 = .ok (.lstore 7, 2) := by decide +kernel
theorem dX10_chance_105 : decode cX10_chance 105 = .ok (.lload 11, 2) := by decide +kernel
theorem dX10_chance_107 : decode cX10_chance 107 = .ok (.lstore 9, 2) := by decide +kernel
theorem dX10_chance_109 : decode cX10_chance 109 = .ok (.goto (-22), 3) := by decide +kernel
theorem dX10_chance_112 : decode cX10_chance 112 = .ok (.iload 4, 2) := by decide +kernel
theorem dX10_chance_114 : decode cX10_chance 114 = .ok (.ifCond .ne 11, 3) := by decide +kernel
theorem dX10_chance_117 : decode cX10_chance 117 = .ok (.lload 5, 2) := by decide +kernel
theorem dX10_chance_119 : decode cX10_chance 119 = .ok (.lload 7, 2) := by decide +kernel
theorem dX10_chance_121 : decode cX10_chance 121 = .ok (.ldiv, 1) := by decide +kernel
theorem dX10_chance_122 : decode cX10_chance 122 = .ok (.goto 8, 3) := by decide +kernel
theorem dX10_chance_125 : decode cX10_chance 125 = .ok (.iload_n 2, 1) := by decide +kernel
theorem dX10_chance_126 : decode cX10_chance 126 = .ok (.i2l, 1) := by decide +kernel
theorem dX10_chance_127 : decode cX10_chance 127 = .ok (.lload 7, 2) := by decide +kernel
theorem dX10_chance_129 : decode cX10_chance 129 = .ok (.ldiv, 1) := by decide +kernel
theorem dX10_chance_130 : decode cX10_chance 130 = .ok (.lreturn, 1) := by decide +kernel
theorem dX10_image_0 : decode cX10_image 0 = .ok (.iconst 0, 1) := by decide +kernel
theorem dX10_image_1 : decode cX10_image 1 = .ok (.istore_n 1, 1) := by decide +kernel
theorem dX10_image_2 : decode cX10_image 2 = .ok (.iload_n 1, 1) := by decide +kernel
theorem dX10_image_3 : decode cX10_image 3 = .ok (.bipush 64, 2) := by decide +kernel
theorem dX10_image_5 : decode cX10_image 5 = .ok (.if_icmp .ge 21, 3) := by decide +kernel
theorem dX10_image_8 : decode cX10_image 8 = .ok (.aload_n 0, 1) := by decide +kernel
theorem dX10_image_9 : decode cX10_image 9 = .ok (.getfield 41, 3) := by decide +kernel
theorem dX10_image_12 : decode cX10_image 12 = .ok (.iload_n 1, 1) := by decide +kernel
theorem dX10_image_13 : decode cX10_image 13 = .ok (.aload_n 0, 1) := by decide +kernel
theorem dX10_image_14 : decode cX10_image 14 = .ok (.getfield 23, 3) := by decide +kernel
theorem dX10_image_17 : decode cX10_image 17 = .ok (.iload_n 1, 1) := by decide +kernel
theorem dX10_image_18 : decode cX10_image 18 = .ok (.iaload, 1) := by decide +kernel
theorem dX10_image_19 : decode cX10_image 19 = .ok (.iastore, 1) := by decide +kernel
theorem dX10_image_20 : decode cX10_image 20 = .ok (.iinc 1 1, 3) := by decide +kernel
theorem dX10_image_23 : decode cX10_image 23 = .ok (.goto (-21), 3) := by decide +kernel
theorem dX10_image_26 : decode cX10_image 26 = .ok (.iconst 0, 1) := by decide +kernel
theorem dX10_image_27 : decode cX10_image 27 = .ok (.istore_n 1, 1) := by decide +kernel
theorem dX10_image_28 : decode cX10_image 28 = .ok (.iload_n 1, 1) := by decide +kernel
theorem dX10_image_29 : decode cX10_image 29 = .ok (.bipush 30, 2) := by decide +kernel
theorem dX10_image_31 : decode cX10_image 31 = .ok (.if_icmp .ge 21, 3) := by decide +kernel
theorem dX10_image_34 : decode cX10_image 34 = .ok (.aload_n 0, 1) := by decide +kernel
theorem dX10_image_35 : decode cX10_image 35 = .ok (.getfield 44, 3) := by decide +kernel
theorem dX10_image_38 : decode cX10_image 38 = .ok (.iload_n 1, 1) := by decide +kernel
theorem dX10_image_39 : decode cX10_image 39 = .ok (.aload_n 0, 1) := by decide +kernel
theorem dX10_image_40 : decode cX10_image 40 = .ok (.getfield 29, 3) := by decide +kernel
theorem dX10_image_43 : decode cX10_image 43 = .ok (.iload_n 1, 1) := by decide +kernel
theorem dX10_image_44 : decode cX10_image 44 = .ok (.iaload, 1) := by decide +kernel
theorem dX10_image_45 : decode cX10_image 45 = .ok (.iastore, 1) := by decide +kernel
theorem dX10_image_46 : decode cX10_image 46 = .ok (.iinc 1 1, 3) := by decide +kernel
theorem dX10_image_49 : decode cX10_image 49 = .ok (.goto (-21), 3) := by decide +kernel
theorem dX10_image_52 : decode cX10_image 52 = .ok (.aload_n 0, 1) := by decide +kernel
theorem dX10_image_53 : decode cX10_image 53 = .ok (.aload_n 0, 1) := by decide +kernel
theorem dX10_image_54 : decode cX10_image 54 = .ok (.getfield 73, 3) := by decide +kernel
theorem dX10_image_57 : decode cX10_image 57 = .ok (.putfield 47, 3) := by decide +kernel
theorem dX10_image_60 : decode cX10_image 60 = .ok (.aload_n 0, 1) := by decide +kernel
theorem dX10_image_61 : decode cX10_image 61 = .ok (.aload_n 0, 1) := by decide +kernel
theorem dX10_image_62 : decode cX10_image 62 = .ok (.getfield 100, 3) := by decide +kernel
theorem dX10_image_65 : decode cX10_image 65 = .ok (.putfield 428, 3) := by decide +kernel
theorem dX10_image_68 : decode cX10_image 68 = .ok (.aload_n 0, 1) := by decide +kernel
theorem dX10_image_69 : decode cX10_image 69 = .ok (.aload_n 0, 1) := by decide +kernel
theorem dX10_image_70 : decode cX10_image 70 = .ok (.getfield 103, 3) := by decide +kernel
theorem dX10_image_73 : decode cX10_image 73 = .ok (.putfield 431, 3) := by decide +kernel
theorem dX10_image_76 : decode cX10_image 76 = .ok (.aload_n 0, 1) := by decide +kernel
theorem dX10_image_77 : decode cX10_image 77 = .ok (.getfield 73, 3) := by decide +kernel
theorem dX10_image_80 : decode cX10_image 80 = .ok (.ireturn, 1) := by decide +kernel
theorem dX10_back_0 : decode cX10_back 0 = .ok (.aload_n 0, 1) := by decide +kernel
theorem dX10_back_1 : decode cX10_back 1 = .ok (.getfield 47, 3) := by decide +kernel
theorem dX10_back_4 : decode cX10_back 4 = .ok (.iconst (-1), 1) := by decide +kernel
theorem dX10_back_5 : decode cX10_back 5 = .ok (.if_icmp .ne 6, 3) := by decide +kernel
theorem dX10_back_8 : decode cX10_back 8 = .ok (.bipush (-3), 2) := by decide +kernel
theorem dX10_back_10 : decode cX10_back 10 = .ok (.ireturn, 1) := by decide +kernel
theorem dX10_back_11 : decode cX10_back 11 = .ok (.iconst 0, 1) := by decide +kernel
theorem dX10_back_12 : decode cX10_back 12 = .ok (.istore_n 1, 1) := by decide +kernel
theorem dX10_back_13 : decode cX10_back 13 = .ok (.iload_n 1, 1) := by decide +kernel
theorem dX10_back_14 : decode cX10_back 14 = .ok (.bipush 64, 2) := by decide +kernel
theorem dX10_back_16 : decode cX10_back 16 = .ok (.if_icmp .ge 21, 3) := by decide +kernel
theorem dX10_back_19 : decode cX10_back 19 = .ok (.aload_n 0, 1) := by decide +kernel
theorem dX10_back_20 : decode cX10_back 20 = .ok (.getfield 23, 3) := by decide +kernel
theorem dX10_back_23 : decode cX10_back 23 = .ok (.iload_n 1, 1) := by decide +kernel
theorem dX10_back_24 : decode cX10_back 24 = .ok (.aload_n 0, 1) := by decide +kernel
theorem dX10_back_25 : decode cX10_back 25 = .ok (.getfield 41, 3) := by decide +kernel
theorem dX10_back_28 : decode cX10_back 28 = .ok (.iload_n 1, 1) := by decide +kernel
theorem dX10_back_29 : decode cX10_back 29 = .ok (.iaload, 1) := by decide +kernel
theorem dX10_back_30 : decode cX10_back 30 = .ok (.iastore, 1) := by decide +kernel
theorem dX10_back_31 : decode cX10_back 31 = .ok (.iinc 1 1, 3) := by decide +kernel
theorem dX10_back_34 : decode cX10_back 34 = .ok (.goto (-21), 3) := by decide +kernel
theorem dX10_back_37 : decode cX10_back 37 = .ok (.iconst 0, 1) := by decide +kernel
theorem dX10_back_38 : decode cX10_back 38 = .ok (.istore_n 1, 1) := by decide +kernel
theorem dX10_back_39 : decode cX10_back 39 = .ok (.iload_n 1, 1) := by decide +kernel
theorem dX10_back_40 : decode cX10_back 40 = .ok (.bipush 30, 2) := by decide +kernel
theorem dX10_back_42 : decode cX10_back 42 = .ok (.if_icmp .ge 21, 3) := by decide +kernel
theorem dX10_back_45 : decode cX10_back 45 = .ok (.aload_n 0, 1) := by decide +kernel
theorem dX10_back_46 : decode cX10_back 46 = .ok (.getfield 29, 3) := by decide +kernel
theorem dX10_back_49 : decode cX10_back 49 = .ok (.iload_n 1, 1) := by decide +kernel
theorem dX10_back_50 : decode cX10_back 50 = .ok (.aload_n 0, 1) := by decide +kernel
theorem dX10_back_51 : decode cX10_back 51 = .ok (.getfield 44, 3) := by decide +kernel
theorem dX10_back_54 : decode cX10_back 54 = .ok (.iload_n 1, 1) := by decide +kernel
theorem dX10_back_55 : decode cX10_back 55 = .ok (.iaload, 1) := by decide +kernel
theorem dX10_back_56 : decode cX10_back 56 = .ok (.iastore, 1) := by decide +kernel
theorem dX10_back_57 : decode cX10_back 57 = .ok (.iinc 1 1, 3) := by decide +kernel
theorem dX10_back_60 : decode cX10_back 60 = .ok (.goto (-21), 3) := by decide +kernel
theorem dX10_back_63 : decode cX10_back 63 = .ok (.aload_n 0, 1) := by decide +kernel
theorem dX10_back_64 : decode cX10_back 64 = .ok (.invokevirtual 63, 3) := by decide +kernel
theorem dX10_back_67 : decode cX10_back 67 = .ok (.aload_n 0, 1) := by decide +kernel
theorem dX10_back_68 : decode cX10_back 68 = .ok (.aload_n 0, 1) := by decide +kernel
theorem dX10_back_69 : decode cX10_back 69 = .ok (.getfield 47, 3) := by decide +kernel
theorem dX10_back_72 : decode cX10_back 72 = .ok (.putfield 73, 3) := by decide +kernel
theorem dX10_back_75 : decode cX10_back 75 = .ok (.aload_n 0, 1) := by decide +kernel
theorem dX10_back_76 : decode cX10_back 76 = .ok (.aload_n 0, 1) := by decide +kernel
theorem dX10_back_77 : decode cX10_back 77 = .ok (.getfield 428, 3) := by decide +kernel
theorem dX10_back_80 : decode cX10_back 80 = .ok (.putfield 100, 3) := by decide +kernel
theorem dX10_back_83 : decode cX10_back 83 = .ok (.aload_n 0, 1) := by decide +kernel
theorem dX10_back_84 : decode cX10_back 84 = .ok (.aload_n 0, 1) := by decide +kernel
theorem dX10_back_85 : decode cX10_back 85 = .ok (.getfield 431, 3) := by decide +kernel
theorem dX10_back_88 : decode cX10_back 88 = .ok (.putfield 103, 3) := by decide +kernel
theorem dX10_back_91 : decode cX10_back 91 = .ok (.aload_n 0, 1) := by decide +kernel
theorem dX10_back_92 : decode cX10_back 92 = .ok (.getfield 73, 3) := by decide +kernel
theorem dX10_back_95 : decode cX10_back 95 = .ok (.ireturn, 1) := by decide +kernel
theorem dX10_count_0 : decode cX10_count 0 = .ok (.iload_n 1, 1) := by decide +kernel
theorem dX10_count_1 : decode cX10_count 1 = .ok (.i2l, 1) := by decide +kernel
theorem dX10_count_2 : decode cX10_count 2 = .ok (.lconst 0, 1) := by decide +kernel
theorem dX10_count_3 : decode cX10_count 3 = .ok (.ldc2_w 111, 3) := by decide +kernel
theorem dX10_count_6 : decode cX10_count 6 = .ok (.invokestatic 76, 3) := by decide +kernel
theorem dX10_count_9 : decode cX10_count 9 = .ok (.ifCond .ne 6, 3) := by decide +kernel
theorem dX10_count_12 : decode cX10_count 12 = .ok (.bipush (-2), 2) := by decide +kernel
theorem dX10_count_14 : decode cX10_count 14 = .ok (.ireturn, 1) := by decide +kernel
theorem dX10_count_15 : decode cX10_count 15 = .ok (.iload_n 1, 1) := by decide +kernel
theorem dX10_count_16 : decode cX10_count 16 = .ok (.iconst 1, 1) := by decide +kernel
theorem dX10_count_17 : decode cX10_count 17 = .ok (.if_icmp .le 44, 3) := by decide +kernel
theorem dX10_count_20 : decode cX10_count 20 = .ok (.iload_n 1, 1) := by decide +kernel
theorem dX10_count_21 : decode cX10_count 21 = .ok (.iconst 2, 1) := by decide +kernel
theorem dX10_count_22 : decode cX10_count 22 = .ok (.if_icmp .ne 10, 3) := by decide +kernel
theorem dX10_count_25 : decode cX10_count 25 = .ok (.aload_n 0, 1) := by decide +kernel
theorem dX10_count_26 : decode cX10_count 26 = .ok (.invokevirtual 390, 3) := by decide +kernel
theorem dX10_count_29 : decode cX10_count 29 = .ok (.goto 31, 3) := by decide +kernel
theorem dX10_count_32 : decode cX10_count 32 = .ok (.iload_n 1, 1) := by decide +kernel
theorem dX10_count_33 : decode cX10_count 33 = .ok (.iconst 3, 1) := by decide +kernel
theorem dX10_count_34 : decode cX10_count 34 = .ok (.if_icmp .ne 10, 3) := by decide +kernel
theorem dX10_count_37 : decode cX10_count 37 = .ok (.aload_n 0, 1) := by decide +kernel
theorem dX10_count_38 : decode cX10_count 38 = .ok (.getfield 70, 3) := by decide +kernel
theorem dX10_count_41 : decode cX10_count 41 = .ok (.goto 19, 3) := by decide +kernel
theorem dX10_count_44 : decode cX10_count 44 = .ok (.iload_n 1, 1) := by decide +kernel
theorem dX10_count_45 : decode cX10_count 45 = .ok (.iconst 4, 1) := by decide +kernel
theorem dX10_count_46 : decode cX10_count 46 = .ok (.if_icmp .ne 10, 3) := by decide +kernel
theorem dX10_count_49 : decode cX10_count 49 = .ok (.aload_n 0, 1) := by decide +kernel
theorem dX10_count_50 : decode cX10_count 50 = .ok (.getfield 147, 3) := by decide +kernel
theorem dX10_count_53 : decode cX10_count 53 = .ok (.goto 7, 3) := by decide +kernel
theorem dX10_count_56 : decode cX10_count 56 = .ok (.aload_n 0, 1) := by decide +kernel
theorem dX10_count_57 : decode cX10_count 57 = .ok (.getfield 103, 3) := by decide +kernel
theorem dX10_count_60 : decode cX10_count 60 = .ok (.ireturn, 1) := by decide +kernel
theorem dX10_count_61 : decode cX10_count 61 = .ok (.iconst 0, 1) := by decide +kernel
theorem dX10_count_62 : decode cX10_count 62 = .ok (.istore_n 2, 1) := by decide +kernel
theorem dX10_count_63 : decode cX10_count 63 = .ok (.iconst 0, 1) := by decide +kernel
theorem dX10_count_64 : decode cX10_count 64 = .ok (.istore_n 3, 1) := by decide +kernel
theorem dX10_count_65 : decode cX10_count 65 = .ok (.iload_n 3, 1) := by decide +kernel
theorem dX10_count_66 : decode cX10_count 66 = .ok (.bipush 64, 2) := by decide +kernel
theorem dX10_count_68 : decode cX10_count 68 = .ok (.if_icmp .ge 37, 3) := by decide +kernel
theorem dX10_count_71 : decode cX10_count 71 = .ok (.iload_n 2, 1) := by decide +kernel
theorem dX10_count_72 : decode cX10_count 72 = .ok (.aload_n 0, 1) := by decide +kernel
theorem dX10_count_73 : decode cX10_count 73 = .ok (.getfield 23, 3) := by decide +kernel
theorem dX10_count_76 : decode cX10_count 76 = .ok (.iload_n 3, 1) := by decide +kernel
theorem dX10_count_77 : decode cX10_count 77 = .ok (.iaload, 1) := by decide +kernel
theorem dX10_count_78 : decode cX10_count 78 = .ok (.ifCond .le 18, 3) := by decide +kernel
theorem dX10_count_81 : decode cX10_count 81 = .ok (.iload_n 3, 1) := by decide +kernel
theorem dX10_count_82 : decode cX10_count 82 = .ok (.bipush 8, 2) := by decide +kernel
theorem dX10_count_84 : decode cX10_count 84 = .ok (.idiv, 1) := by decide +kernel
theorem dX10_count_85 : decode cX10_count 85 = .ok (.iload_n 3, 1) := by decide +kernel
theorem dX10_count_86 : decode cX10_count 86 = .ok (.bipush 8, 2) := by decide +kernel
theorem dX10_count_88 : decode cX10_count 88 = .ok (.irem, 1) := by decide +kernel
theorem dX10_count_89 : decode cX10_count 89 = .ok (.if_icmp .ge 7, 3) := by decide +kernel
theorem dX10_count_92 : decode cX10_count 92 = .ok (.iconst 1, 1) := by decide +kernel
theorem dX10_count_93 : decode cX10_count 93 = .ok (.goto 4, 3) := by decide +kernel
theorem dX10_count_96 : decode cX10_count 96 = .ok (.iconst 0, 1) := by decide +kernel
theorem dX10_count_97 : decode cX10_count 97 = .ok (.iadd, 1) := by decide +kernel
theorem dX10_count_98 : decode cX10_count 98 = .ok (.istore_n 2, 1) := by decide +kernel
theorem dX10_count_99 : decode cX10_count 99 = .ok (.iinc 3 1, 3) := by decide +kernel
theorem dX10_count_102 : decode cX10_count 102 = .ok (.goto (-37), 3) := by decide +kernel
theorem dX10_count_105 : decode cX10_count 105 = .ok (.iload_n 1, 1) := by decide +kernel
theorem dX10_count_106 : decode cX10_count 106 = .ok (.ifCond .ne 10, 3) := by decide +kernel
theorem dX10_count_109 : decode cX10_count 109 = .ok (.aload_n 0, 1) := by decide +kernel
theorem dX10_count_110 : decode cX10_count 110 = .ok (.getfield 73, 3) := by decide +kernel
theorem dX10_count_113 : decode cX10_count 113 = .ok (.goto 4, 3) := by decide +kernel
theorem dX10_count_116 : decode cX10_count 116 = .ok (.iload_n 2, 1) := by decide +kernel
theorem dX10_count_117 : decode cX10_count 117 = .ok (.ireturn, 1) := by decide +kernel
theorem dX10_isSheet_0 : decode cX10_isSheet 0 = .ok (.iload_n 0, 1) := by decide +kernel
theorem dX10_isSheet_1 : decode cX10_isSheet 1 = .ok (.i2l, 1) := by decide +kernel
theorem dX10_isSheet_2 : decode cX10_isSheet 2 = .ok (.lconst 0, 1) := by decide +kernel
theorem dX10_isSheet_3 : decode cX10_isSheet 3 = .ok (.ldc2_w 402, 3) := by decide +kernel
theorem dX10_isSheet_6 : decode cX10_isSheet 6 = .ok (.invokestatic 76, 3) := by decide +kernel
theorem dX10_isSheet_9 : decode cX10_isSheet 9 = .ok (.ireturn, 1) := by decide +kernel
theorem dX10_sheet_0 : decode cX10_sheet 0 = .ok (.iload_n 1, 1) := by decide +kernel
theorem dX10_sheet_1 : decode cX10_sheet 1 = .ok (.invokestatic 413, 3) := by decide +kernel
theorem dX10_sheet_4 : decode cX10_sheet 4 = .ok (.ifCond .eq 27, 3) := by decide +kernel
theorem dX10_sheet_7 : decode cX10_sheet 7 = .ok (.iload_n 2, 1) := by decide +kernel
theorem dX10_sheet_8 : decode cX10_sheet 8 = .ok (.i2l, 1) := by decide +kernel
theorem dX10_sheet_9 : decode cX10_sheet 9 = .ok (.ldc2_w 434, 3) := by decide +kernel
theorem dX10_sheet_12 : decode cX10_sheet 12 = .ok (.ldc2_w 436, 3) := by decide +kernel
theorem dX10_sheet_15 : decode cX10_sheet 15 = .ok (.invokestatic 76, 3) := by decide +kernel
theorem dX10_sheet_18 : decode cX10_sheet 18 = .ok (.ifCond .eq 13, 3) := by decide +kernel
theorem dX10_sheet_21 : decode cX10_sheet 21 = .ok (.iload_n 2, 1) := by decide +kernel
theorem dX10_sheet_22 : decode cX10_sheet 22 = .ok (.ifCond .lt 12, 3) := by decide +kernel
theorem dX10_sheet_25 : decode cX10_sheet 25 = .ok (.iload_n 3, 1) := by decide +kernel
theorem dX10_sheet_26 : decode cX10_sheet 26 = .ok (.bipush 40, 2) := by decide +kernel
theorem dX10_sheet_28 : decode cX10_sheet 28 = .ok (.if_icmp .le 6, 3) := by decide +kernel
theorem dX10_sheet_31 : decode cX10_sheet 31 = .ok (.bipush (-2), 2) := by decide +kernel
theorem dX10_sheet_33 : decode cX10_sheet 33 = .ok (.ireturn, 1) := by decide +kernel
theorem dX10_sheet_34 : decode cX10_sheet 34 = .ok (.iload_n 2, 1) := by decide +kernel
theorem dX10_sheet_35 : decode cX10_sheet 35 = .ok (.ifCond .lt 10, 3) := by decide +kernel
theorem dX10_sheet_38 : decode cX10_sheet 38 = .ok (.iload_n 3, 1) := by decide +kernel
theorem dX10_sheet_39 : decode cX10_sheet 39 = .ok (.ifCond .ge 6, 3) := by decide +kernel
theorem dX10_sheet_42 : decode cX10_sheet 42 = .ok (.bipush (-14), 2) := by decide +kernel
theorem dX10_sheet_44 : decode cX10_sheet 44 = .ok (.ireturn, 1) := by decide +kernel
theorem dX10_sheet_45 : decode cX10_sheet 45 = .ok (.aload_n 0, 1) := by decide +kernel
theorem dX10_sheet_46 : decode cX10_sheet 46 = .ok (.getfield 50, 3) := by decide +kernel
theorem dX10_sheet_49 : decode cX10_sheet 49 = .ok (.iload_n 1, 1) := by decide +kernel
theorem dX10_sheet_50 : decode cX10_sheet 50 = .ok (.iload_n 2, 1) := by decide +kernel
theorem dX10_sheet_51 : decode cX10_sheet 51 = .ok (.ifCond .lt 7, 3) := by decide +kernel
theorem dX10_sheet_54 : decode cX10_sheet 54 = .ok (.iconst 1, 1) := by decide +kernel
theorem dX10_sheet_55 : decode cX10_sheet 55 = .ok (.goto 4, 3) := by decide +kernel
theorem dX10_sheet_58 : decode cX10_sheet 58 = .ok (.iconst 0, 1) := by decide +kernel
theorem dX10_sheet_59 : decode cX10_sheet 59 = .ok (.bastore, 1) := by decide +kernel
theorem dX10_sheet_60 : decode cX10_sheet 60 = .ok (.aload_n 0, 1) := by decide +kernel
theorem dX10_sheet_61 : decode cX10_sheet 61 = .ok (.getfield 54, 3) := by decide +kernel
theorem dX10_sheet_64 : decode cX10_sheet 64 = .ok (.iload_n 1, 1) := by decide +kernel
theorem dX10_sheet_65 : decode cX10_sheet 65 = .ok (.iload_n 2, 1) := by decide +kernel
theorem dX10_sheet_66 : decode cX10_sheet 66 = .ok (.iastore, 1) := by decide +kernel
theorem dX10_sheet_67 : decode cX10_sheet 67 = .ok (.aload_n 0, 1) := by decide +kernel
theorem dX10_sheet_68 : decode cX10_sheet 68 = .ok (.getfield 57, 3) := by decide +kernel
theorem dX10_sheet_71 : decode cX10_sheet 71 = .ok (.iload_n 1, 1) := by decide +kernel
theorem dX10_sheet_72 : decode cX10_sheet 72 = .ok (.iload_n 3, 1) := by decide +kernel
theorem dX10_sheet_73 : decode cX10_sheet 73 = .ok (.iastore, 1) := by decide +kernel
theorem dX10_sheet_74 : decode cX10_sheet 74 = .ok (.iconst 0, 1) := by decide +kernel
theorem dX10_sheet_75 : decode cX10_sheet 75 = .ok (.istore 4, 2) := by decide +kernel
theorem dX10_sheet_77 : decode cX10_sheet 77 = .ok (.iload 4, 2) := by decide +kernel
theorem dX10_sheet_79 : decode cX10_sheet 79 = .ok (.iload_n 3, 1) := by decide +kernel
theorem dX10_sheet_80 : decode cX10_sheet 80 = .ok (.if_icmp .ge 26, 3) := by decide +kernel
theorem dX10_sheet_83 : decode cX10_sheet 83 = .ok (.iload_n 2, 1) := by decide +kernel
theorem dX10_sheet_84 : decode cX10_sheet 84 = .ok (.ifCond .lt 22, 3) := by decide +kernel
theorem dX10_sheet_87 : decode cX10_sheet 87 = .ok (.aload_n 0, 1) := by decide +kernel
theorem dX10_sheet_88 : decode cX10_sheet 88 = .ok (.getfield 60, 3) := by decide +kernel
theorem dX10_sheet_91 : decode cX10_sheet 91 = .ok (.bipush 40, 2) := by decide +kernel
theorem dX10_sheet_93 : decode cX10_sheet 93 = .ok (.iload_n 1, 1) := by decide +kernel
theorem dX10_sheet_94 : decode cX10_sheet 94 = .ok (.imul, 1) := by decide +kernel
theorem dX10_sheet_95 : decode cX10_sheet 95 = .ok (.iload 4, 2) := by decide +kernel
theorem dX10_sheet_97 : decode cX10_sheet 97 = .ok (.iadd, 1) := by decide +kernel
theorem dX10_sheet_98 : decode cX10_sheet 98 = .ok (.iconst 0, 1) := by decide +kernel
theorem dX10_sheet_99 : decode cX10_sheet 99 = .ok (.iastore, 1) := by decide +kernel
theorem dX10_sheet_100 : decode cX10_sheet 100 = .ok (.iinc 4 1, 3) := by decide +kernel
theorem dX10_sheet_103 : decode cX10_sheet 103 = .ok (.goto (-26), 3) := by decide +kernel
theorem dX10_sheet_106 : decode cX10_sheet 106 = .ok (.iconst 1, 1) := by decide +kernel
theorem dX10_sheet_107 : decode cX10_sheet 107 = .ok (.ireturn, 1) := by decide +kernel
theorem dX10_cell_0 : decode cX10_cell 0 = .ok (.iload_n 1, 1) := by decide +kernel
theorem dX10_cell_1 : decode cX10_cell 1 = .ok (.invokestatic 413, 3) := by decide +kernel
theorem dX10_cell_4 : decode cX10_cell 4 = .ok (.ifCond .ne 6, 3) := by decide +kernel
theorem dX10_cell_7 : decode cX10_cell 7 = .ok (.bipush (-2), 2) := by decide +kernel
theorem dX10_cell_9 : decode cX10_cell 9 = .ok (.ireturn, 1) := by decide +kernel
theorem dX10_cell_10 : decode cX10_cell 10 = .ok (.aload_n 0, 1) := by decide +kernel
theorem dX10_cell_11 : decode cX10_cell 11 = .ok (.getfield 50, 3) := by decide +kernel
theorem dX10_cell_14 : decode cX10_cell 14 = .ok (.iload_n 1, 1) := by decide +kernel
theorem dX10_cell_15 : decode cX10_cell 15 = .ok (.baload, 1) := by decide +kernel
theorem dX10_cell_16 : decode cX10_cell 16 = .ok (.ifCond .ne 6, 3) := by decide +kernel
theorem dX10_cell_19 : decode cX10_cell 19 = .ok (.bipush (-11), 2) := by decide +kernel
theorem dX10_cell_21 : decode cX10_cell 21 = .ok (.ireturn, 1) := by decide +kernel
theorem dX10_cell_22 : decode cX10_cell 22 = .ok (.iload_n 2, 1) := by decide +kernel
theorem dX10_cell_23 : decode cX10_cell 23 = .ok (.i2l, 1) := by decide +kernel
theorem dX10_cell_24 : decode cX10_cell 24 = .ok (.lconst 0, 1) := by decide +kernel
theorem dX10_cell_25 : decode cX10_cell 25 = .ok (.aload_n 0, 1) := by decide +kernel
theorem dX10_cell_26 : decode cX10_cell 26 = .ok (.getfield 57, 3) := by decide +kernel
theorem dX10_cell_29 : decode cX10_cell 29 = .ok (.iload_n 1, 1) := by decide +kernel
theorem dX10_cell_30 : decode cX10_cell 30 = .ok (.iaload, 1) := by decide +kernel
theorem dX10_cell_31 : decode cX10_cell 31 = .ok (.iconst 1, 1) := by decide +kernel
theorem dX10_cell_32 : decode cX10_cell 32 = .ok (.isub, 1) := by decide +kernel
theorem dX10_cell_33 : decode cX10_cell 33 = .ok (.i2l, 1) := by decide +kernel
theorem dX10_cell_34 : decode cX10_cell 34 = .ok (.invokestatic 76, 3) := by decide +kernel
theorem dX10_cell_37 : decode cX10_cell 37 = .ok (.ifCond .ne 6, 3) := by decide +kernel
theorem dX10_cell_40 : decode cX10_cell 40 = .ok (.bipush (-12), 2) := by decide +kernel
theorem dX10_cell_42 : decode cX10_cell 42 = .ok (.ireturn, 1) := by decide +kernel
theorem dX10_cell_43 : decode cX10_cell 43 = .ok (.aload_n 0, 1) := by decide +kernel
theorem dX10_cell_44 : decode cX10_cell 44 = .ok (.getfield 60, 3) := by decide +kernel
theorem dX10_cell_47 : decode cX10_cell 47 = .ok (.bipush 40, 2) := by decide +kernel
theorem dX10_cell_49 : decode cX10_cell 49 = .ok (.iload_n 1, 1) := by decide +kernel
theorem dX10_cell_50 : decode cX10_cell 50 = .ok (.imul, 1) := by decide +kernel
theorem dX10_cell_51 : decode cX10_cell 51 = .ok (.iload_n 2, 1) := by decide +kernel
theorem dX10_cell_52 : decode cX10_cell 52 = .ok (.iadd, 1) := by decide +kernel
theorem dX10_cell_53 : decode cX10_cell 53 = .ok (.aload_n 0, 1) := by decide +kernel
theorem dX10_cell_54 : decode cX10_cell 54 = .ok (.getfield 54, 3) := by decide +kernel
theorem dX10_cell_57 : decode cX10_cell 57 = .ok (.iload_n 1, 1) := by decide +kernel
theorem dX10_cell_58 : decode cX10_cell 58 = .ok (.iaload, 1) := by decide +kernel
theorem dX10_cell_59 : decode cX10_cell 59 = .ok (.ifCond .ne 8, 3) := by decide +kernel
theorem dX10_cell_62 : decode cX10_cell 62 = .ok (.iload_n 3, 1) := by decide +kernel
theorem dX10_cell_63 : decode cX10_cell 63 = .ok (.i2b, 1) := by decide +kernel
theorem dX10_cell_64 : decode cX10_cell 64 = .ok (.goto 19, 3) := by decide +kernel
theorem dX10_cell_67 : decode cX10_cell 67 = .ok (.aload_n 0, 1) := by decide +kernel
theorem dX10_cell_68 : decode cX10_cell 68 = .ok (.getfield 54, 3) := by decide +kernel
theorem dX10_cell_71 : decode cX10_cell 71 = .ok (.iload_n 1, 1) := by decide +kernel
theorem dX10_cell_72 : decode cX10_cell 72 = .ok (.iaload, 1) := by decide +kernel
theorem dX10_cell_73 : decode cX10_cell 73 = .ok (.iconst 1, 1) := by decide +kernel
theorem dX10_cell_74 : decode cX10_cell 74 = .ok (.if_icmp .ne 8, 3) := by decide +kernel
theorem dX10_cell_77 : decode cX10_cell 77 = .ok (.iload_n 3, 1) := by decide +kernel
theorem dX10_cell_78 : decode cX10_cell 78 = .ok (.i2s, 1) := by decide +kernel
theorem dX10_cell_79 : decode cX10_cell 79 = .ok (.goto 4, 3) := by decide +kernel
theorem dX10_cell_82 : decode cX10_cell 82 = .ok (.iload_n 3, 1) := by decide +kernel
theorem dX10_cell_83 : decode cX10_cell 83 = .ok (.iastore, 1) := by decide +kernel
theorem dX10_cell_84 : decode cX10_cell 84 = .ok (.iconst 1, 1) := by decide +kernel
theorem dX10_cell_85 : decode cX10_cell 85 = .ok (.ireturn, 1) := by decide +kernel
theorem dX10_copy_0 : decode cX10_copy 0 = .ok (.iload_n 1, 1) := by decide +kernel
theorem dX10_copy_1 : decode cX10_copy 1 = .ok (.invokestatic 413, 3) := by decide +kernel
theorem dX10_copy_4 : decode cX10_copy 4 = .ok (.ifCond .eq 10, 3) := by decide +kernel
theorem dX10_copy_7 : decode cX10_copy 7 = .ok (.iload_n 3, 1) := by decide +kernel
theorem dX10_copy_8 : decode cX10_copy 8 = .ok (.invokestatic 413, 3) := by decide +kernel
theorem dX10_copy_11 : decode cX10_copy 11 = .ok (.ifCond .ne 6, 3) := by decide +kernel
theorem dX10_copy_14 : decode cX10_copy 14 = .ok (.bipush (-2), 2) := by decide +kernel
theorem dX10_copy_16 : decode cX10_copy 16 = .ok (.ireturn, 1) := by decide +kernel
theorem dX10_copy_17 : decode cX10_copy 17 = .ok (.aload_n 0, 1) := by decide +kernel
theorem dX10_copy_18 : decode cX10_copy 18 = .ok (.getfield 50, 3) := by decide +kernel
theorem dX10_copy_21 : decode cX10_copy 21 = .ok (.iload_n 1, 1) := by decide +kernel
theorem dX10_copy_22 : decode cX10_copy 22 = .ok (.baload, 1) := by decide +kernel
theorem dX10_copy_23 : decode cX10_copy 23 = .ok (.ifCond .eq 12, 3) := by decide +kernel
theorem dX10_copy_26 : decode cX10_copy 26 = .ok (.aload_n 0, 1) := by decide +kernel
theorem dX10_copy_27 : decode cX10_copy 27 = .ok (.getfield 50, 3) := by decide +kernel
theorem dX10_copy_30 : decode cX10_copy 30 = .ok (.iload_n 3, 1) := by decide +kernel
theorem dX10_copy_31 : decode cX10_copy 31 = .ok (.baload, 1) := by decide +kernel
theorem dX10_copy_32 : decode cX10_copy 32 = .ok (.ifCond .ne 6, 3) := by decide +kernel
theorem dX10_copy_35 : decode cX10_copy 35 = .ok (.bipush (-11), 2) := by decide +kernel
theorem dX10_copy_37 : decode cX10_copy 37 = .ok (.ireturn, 1) := by decide +kernel
theorem dX10_copy_38 : decode cX10_copy 38 = .ok (.aload_n 0, 1) := by decide +kernel
theorem dX10_copy_39 : decode cX10_copy 39 = .ok (.getfield 54, 3) := by decide +kernel
theorem dX10_copy_42 : decode cX10_copy 42 = .ok (.iload_n 1, 1) := by decide +kernel
theorem dX10_copy_43 : decode cX10_copy 43 = .ok (.iaload, 1) := by decide +kernel
theorem dX10_copy_44 : decode cX10_copy 44 = .ok (.aload_n 0, 1) := by decide +kernel
theorem dX10_copy_45 : decode cX10_copy 45 = .ok (.getfield 54, 3) := by decide +kernel
theorem dX10_copy_48 : decode cX10_copy 48 = .ok (.iload_n 3, 1) := by decide +kernel
theorem dX10_copy_49 : decode cX10_copy 49 = .ok (.iaload, 1) := by decide +kernel
theorem dX10_copy_50 : decode cX10_copy 50 = .ok (.if_icmp .eq 6, 3) := by decide +kernel
theorem dX10_copy_53 : decode cX10_copy 53 = .ok (.bipush (-13), 2) := by decide +kernel
theorem dX10_copy_55 : decode cX10_copy 55 = .ok (.ireturn, 1) := by decide +kernel
theorem dX10_copy_56 : decode cX10_copy 56 = .ok (.iload 5, 2) := by decide +kernel
theorem dX10_copy_58 : decode cX10_copy 58 = .ok (.ifCond .lt 39, 3) := by decide +kernel
theorem dX10_copy_61 : decode cX10_copy 61 = .ok (.iload_n 2, 1) := by decide +kernel
theorem dX10_copy_62 : decode cX10_copy 62 = .ok (.ifCond .lt 35, 3) := by decide +kernel
theorem dX10_copy_65 : decode cX10_copy 65 = .ok (.iload 4, 2) := by decide +kernel
theorem dX10_copy_67 : decode cX10_copy 67 = .ok (.ifCond .lt 30, 3) := by decide +kernel
theorem dX10_copy_70 : decode cX10_copy 70 = .ok (.iload_n 2, 1) := by decide +kernel
theorem dX10_copy_71 : decode cX10_copy 71 = .ok (.aload_n 0, 1) := by decide +kernel
theorem dX10_copy_72 : decode cX10_copy 72 = .ok (.getfield 57, 3) := by decide +kernel
theorem dX10_copy_75 : decode cX10_copy 75 = .ok (.iload_n 1, 1) := by decide +kernel
theorem dX10_copy_76 : decode cX10_copy 76 = .ok (.iaload, 1) := by decide +kernel
theorem dX10_copy_77 : decode cX10_copy 77 = .ok (.iload 5, 2) := by decide +kernel
theorem dX10_copy_79 : decode cX10_copy 79 = .ok (.isub, 1) := by decide +kernel
theorem dX10_copy_80 : decode cX10_copy 80 = .ok (.if_icmp .gt 17, 3) := by decide +kernel
theorem dX10_copy_83 : decode cX10_copy 83 = .ok (.iload 4, 2) := by decide +kernel
theorem dX10_copy_85 : decode cX10_copy 85 = .ok (.aload_n 0, 1) := by decide +kernel
theorem dX10_copy_86 : decode cX10_copy 86 = .ok (.getfield 57, 3) := by decide +kernel
theorem dX10_copy_89 : decode cX10_copy 89 = .ok (.iload_n 3, 1) := by decide +kernel
theorem dX10_copy_90 : decode cX10_copy 90 = .ok (.iaload, 1) := by decide +kernel
theorem dX10_copy_91 : decode cX10_copy 91 = .ok (.iload 5, 2) := by decide +kernel
theorem dX10_copy_93 : decode cX10_copy 93 = .ok (.isub, 1) := by decide +kernel
theorem dX10_copy_94 : decode cX10_copy 94 = .ok (.if_icmp .le 6, 3) := by decide +kernel
theorem dX10_copy_97 : decode cX10_copy 97 = .ok (.bipush (-12), 2) := by decide +kernel
theorem dX10_copy_99 : decode cX10_copy 99 = .ok (.ireturn, 1) := by decide +kernel
theorem dX10_copy_100 : decode cX10_copy 100 = .ok (.iload_n 1, 1) := by decide +kernel
theorem dX10_copy_101 : decode cX10_copy 101 = .ok (.iload_n 3, 1) := by decide +kernel
theorem dX10_copy_102 : decode cX10_copy 102 = .ok (.if_icmp .ne 13, 3) := by decide +kernel
theorem dX10_copy_105 : decode cX10_copy 105 = .ok (.iload_n 2, 1) := by decide +kernel
theorem dX10_copy_106 : decode cX10_copy 106 = .ok (.iload 4, 2) := by decide +kernel
theorem dX10_copy_108 : decode cX10_copy 108 = .ok (.if_icmp .ge 7, 3) := by decide +kernel
theorem dX10_copy_111 : decode cX10_copy 111 = .ok (.iconst 1, 1) := by decide +kernel
theorem dX10_copy_112 : decode cX10_copy 112 = .ok (.goto 4, 3) := by decide +kernel
theorem dX10_copy_115 : decode cX10_copy 115 = .ok (.iconst 0, 1) := by decide +kernel
theorem dX10_copy_116 : decode cX10_copy 116 = .ok (.istore 6, 2) := by decide +kernel
theorem dX10_copy_118 : decode cX10_copy 118 = .ok (.iconst 0, 1) := by decide +kernel
theorem dX10_copy_119 : decode cX10_copy 119 = .ok (.istore 7, 2) := by decide +kernel
theorem dX10_copy_121 : decode cX10_copy 121 = .ok (.iload 7, 2) := by decide +kernel
theorem dX10_copy_123 : decode cX10_copy 123 = .ok (.iload 5, 2) := by decide +kernel
theorem dX10_copy_125 : decode cX10_copy 125 = .ok (.if_icmp .ge 57, 3) := by decide +kernel
theorem dX10_copy_128 : decode cX10_copy 128 = .ok (.iload 6, 2) := by decide +kernel
theorem dX10_copy_130 : decode cX10_copy 130 = .ok (.ifCond .eq 13, 3) := by decide +kernel
theorem dX10_copy_133 : decode cX10_copy 133 = .ok (.iload 5, 2) := by decide +kernel
theorem dX10_copy_135 : decode cX10_copy 135 = .ok (.iconst 1, 1) := by decide +kernel
theorem dX10_copy_136 : decode cX10_copy 136 = .ok (.isub, 1) := by decide +kernel
theorem dX10_copy_137 : decode cX10_copy 137 = .ok (.iload 7, 2) := by decide +kernel
theorem dX10_copy_139 : decode cX10_copy 139 = .ok (.isub, 1) := by decide +kernel
theorem dX10_copy_140 : decode cX10_copy 140 = .ok (.goto 5, 3) := by decide +kernel
theorem dX10_copy_143 : decode cX10_copy 143 = .ok (.iload 7, 2) := by decide +kernel
theorem dX10_copy_145 : decode cX10_copy 145 = .ok (.istore 8, 2) := by decide +kernel
theorem dX10_copy_147 : decode cX10_copy 147 = .ok (.aload_n 0, 1) := by decide +kernel
theorem dX10_copy_148 : decode cX10_copy 148 = .ok (.getfield 60, 3) := by decide +kernel
theorem dX10_copy_151 : decode cX10_copy 151 = .ok (.bipush 40, 2) := by decide +kernel
theorem dX10_copy_153 : decode cX10_copy 153 = .ok (.iload_n 3, 1) := by decide +kernel
theorem dX10_copy_154 : decode cX10_copy 154 = .ok (.imul, 1) := by decide +kernel
theorem dX10_copy_155 : decode cX10_copy 155 = .ok (.iload 4, 2) := by decide +kernel
theorem dX10_copy_157 : decode cX10_copy 157 = .ok (.iadd, 1) := by decide +kernel
theorem dX10_copy_158 : decode cX10_copy 158 = .ok (.iload 8, 2) := by decide +kernel
theorem dX10_copy_160 : decode cX10_copy 160 = .ok (.iadd, 1) := by decide +kernel
theorem dX10_copy_161 : decode cX10_copy 161 = .ok (.aload_n 0, 1) := by decide +kernel
theorem dX10_copy_162 : decode cX10_copy 162 = .ok (.getfield 60, 3) := by decide +kernel
theorem dX10_copy_165 : decode cX10_copy 165 = .ok (.bipush 40, 2) := by decide +kernel
theorem dX10_copy_167 : decode cX10_copy 167 = .ok (.iload_n 1, 1) := by decide +kernel
theorem dX10_copy_168 : decode cX10_copy 168 = .ok (.imul, 1) := by decide +kernel
theorem dX10_copy_169 : decode cX10_copy 169 = .ok (.iload_n 2, 1) := by decide +kernel
theorem dX10_copy_170 : decode cX10_copy 170 = .ok (.iadd, 1) := by decide +kernel
theorem dX10_copy_171 : decode cX10_copy 171 = .ok (.iload 8, 2) := by decide +kernel
theorem dX10_copy_173 : decode cX10_copy 173 = .ok (.iadd, 1) := by decide +kernel
theorem dX10_copy_174 : decode cX10_copy 174 = .ok (.iaload, 1) := by decide +kernel
theorem dX10_copy_175 : decode cX10_copy 175 = .ok (.iastore, 1) := by decide +kernel
theorem dX10_copy_176 : decode cX10_copy 176 = .ok (.iinc 7 1, 3) := by decide +kernel
theorem dX10_copy_179 : decode cX10_copy 179 = .ok (.goto (-58), 3) := by decide +kernel
theorem dX10_copy_182 : decode cX10_copy 182 = .ok (.iload 5, 2) := by decide +kernel
theorem dX10_copy_184 : decode cX10_copy 184 = .ok (.ireturn, 1) := by decide +kernel
theorem dX10_people_0 : decode cX10_people 0 = .ok (.iload_n 1, 1) := by decide +kernel
theorem dX10_people_1 : decode cX10_people 1 = .ok (.invokestatic 413, 3) := by decide +kernel
theorem dX10_people_4 : decode cX10_people 4 = .ok (.ifCond .eq 28, 3) := by decide +kernel
theorem dX10_people_7 : decode cX10_people 7 = .ok (.iload_n 2, 1) := by decide +kernel
theorem dX10_people_8 : decode cX10_people 8 = .ok (.i2l, 1) := by decide +kernel
theorem dX10_people_9 : decode cX10_people 9 = .ok (.lconst 0, 1) := by decide +kernel
theorem dX10_people_10 : decode cX10_people 10 = .ok (.ldc2_w 436, 3) := by decide +kernel
theorem dX10_people_13 : decode cX10_people 13 = .ok (.invokestatic 76, 3) := by decide +kernel
theorem dX10_people_16 : decode cX10_people 16 = .ok (.ifCond .eq 16, 3) := by decide +kernel
theorem dX10_people_19 : decode cX10_people 19 = .ok (.iload 4, 2) := by decide +kernel
theorem dX10_people_21 : decode cX10_people 21 = .ok (.i2l, 1) := by decide +kernel
theorem dX10_people_22 : decode cX10_people 22 = .ok (.lconst 0, 1) := by decide +kernel
theorem dX10_people_23 : decode cX10_people 23 = .ok (.ldc2_w 438, 3) := by decide +kernel
theorem dX10_people_26 : decode cX10_people 26 = .ok (.invokestatic 76, 3) := by decide +kernel
theorem dX10_people_29 : decode cX10_people 29 = .ok (.ifCond .ne 6, 3) := by decide +kernel
theorem dX10_people_32 : decode cX10_people 32 = .ok (.bipush (-2), 2) := by decide +kernel
theorem dX10_people_34 : decode cX10_people 34 = .ok (.ireturn, 1) := by decide +kernel
theorem dX10_people_35 : decode cX10_people 35 = .ok (.aload_n 0, 1) := by decide +kernel
theorem dX10_people_36 : decode cX10_people 36 = .ok (.getfield 50, 3) := by decide +kernel
theorem dX10_people_39 : decode cX10_people 39 = .ok (.iload_n 1, 1) := by decide +kernel
theorem dX10_people_40 : decode cX10_people 40 = .ok (.baload, 1) := by decide +kernel
theorem dX10_people_41 : decode cX10_people 41 = .ok (.ifCond .eq 16, 3) := by decide +kernel
theorem dX10_people_44 : decode cX10_people 44 = .ok (.aload_n 0, 1) := by decide +kernel
theorem dX10_people_45 : decode cX10_people 45 = .ok (.getfield 54, 3) := by decide +kernel
theorem dX10_people_48 : decode cX10_people 48 = .ok (.iload_n 1, 1) := by decide +kernel
theorem dX10_people_49 : decode cX10_people 49 = .ok (.iaload, 1) := by decide +kernel
theorem dX10_people_50 : decode cX10_people 50 = .ok (.iload_n 2, 1) := by decide +kernel
theorem dX10_people_51 : decode cX10_people 51 = .ok (.if_icmp .eq 6, 3) := by decide +kernel
theorem dX10_people_54 : decode cX10_people 54 = .ok (.bipush (-13), 2) := by decide +kernel
theorem dX10_people_56 : decode cX10_people 56 = .ok (.ireturn, 1) := by decide +kernel
theorem dX10_people_57 : decode cX10_people 57 = .ok (.aload_n 0, 1) := by decide +kernel
theorem dX10_people_58 : decode cX10_people 58 = .ok (.getfield 50, 3) := by decide +kernel
theorem dX10_people_61 : decode cX10_people 61 = .ok (.iload_n 1, 1) := by decide +kernel
theorem dX10_people_62 : decode cX10_people 62 = .ok (.baload, 1) := by decide +kernel
theorem dX10_people_63 : decode cX10_people 63 = .ok (.ifCond .ne 6, 3) := by decide +kernel
theorem dX10_people_66 : decode cX10_people 66 = .ok (.bipush (-11), 2) := by decide +kernel
theorem dX10_people_68 : decode cX10_people 68 = .ok (.ireturn, 1) := by decide +kernel
theorem dX10_people_69 : decode cX10_people 69 = .ok (.iconst 0, 1) := by decide +kernel
theorem dX10_people_70 : decode cX10_people 70 = .ok (.istore 5, 2) := by decide +kernel
theorem dX10_people_72 : decode cX10_people 72 = .ok (.iconst 0, 1) := by decide +kernel
theorem dX10_people_73 : decode cX10_people 73 = .ok (.istore 6, 2) := by decide +kernel
theorem dX10_people_75 : decode cX10_people 75 = .ok (.iload 6, 2) := by decide +kernel
theorem dX10_people_77 : decode cX10_people 77 = .ok (.iload 4, 2) := by decide +kernel
theorem dX10_people_79 : decode cX10_people 79 = .ok (.if_icmp .ge 88, 3) := by decide +kernel
theorem dX10_people_82 : decode cX10_people 82 = .ok (.iload_n 3, 1) := by decide +kernel
theorem dX10_people_83 : decode cX10_people 83 = .ok (.ifCond .lt 20, 3) := by decide +kernel
theorem dX10_people_86 : decode cX10_people 86 = .ok (.iload_n 3, 1) := by decide +kernel
theorem dX10_people_87 : decode cX10_people 87 = .ok (.aload_n 0, 1) := by decide +kernel
theorem dX10_people_88 : decode cX10_people 88 = .ok (.getfield 57, 3) := by decide +kernel
theorem dX10_people_91 : decode cX10_people 91 = .ok (.iload_n 1, 1) := by decide +kernel
theorem dX10_people_92 : decode cX10_people 92 = .ok (.iaload, 1) := by decide +kernel
theorem dX10_people_93 : decode cX10_people 93 = .ok (.iconst 3, 1) := by decide +kernel
theorem dX10_people_94 : decode cX10_people 94 = .ok (.iload 6, 2) := by decide +kernel
theorem dX10_people_96 : decode cX10_people 96 = .ok (.imul, 1) := by decide +kernel
theorem dX10_people_97 : decode cX10_people 97 = .ok (.isub, 1) := by decide +kernel
theorem dX10_people_98 : decode cX10_people 98 = .ok (.iconst 3, 1) := by decide +kernel
theorem dX10_people_99 : decode cX10_people 99 = .ok (.isub, 1) := by decide +kernel
theorem dX10_people_100 : decode cX10_people 100 = .ok (.if_icmp .le 6, 3) := by decide +kernel
theorem dX10_people_103 : decode cX10_people 103 = .ok (.bipush (-12), 2) := by decide +kernel
theorem dX10_people_105 : decode cX10_people 105 = .ok (.ireturn, 1) := by decide +kernel
theorem dX10_people_106 : decode cX10_people 106 = .ok (.bipush 40, 2) := by decide +kernel
theorem dX10_people_108 : decode cX10_people 108 = .ok (.iload_n 1, 1) := by decide +kernel
theorem dX10_people_109 : decode cX10_people 109 = .ok (.imul, 1) := by decide +kernel
theorem dX10_people_110 : decode cX10_people 110 = .ok (.iload_n 3, 1) := by decide +kernel
theorem dX10_people_111 : decode cX10_people 111 = .ok (.iadd, 1) := by decide +kernel
theorem dX10_people_112 : decode cX10_people 112 = .ok (.iconst 3, 1) := by decide +kernel
theorem dX10_people_113 : decode cX10_people 113 = .ok (.iload 6, 2) := by decide +kernel
theorem dX10_people_115 : decode cX10_people 115 = .ok (.imul, 1) := by decide +kernel
theorem dX10_people_116 : decode cX10_people 116 = .ok (.iadd, 1) := by decide +kernel
theorem dX10_people_117 : decode cX10_people 117 = .ok (.istore 7, 2) := by decide +kernel
theorem dX10_people_119 : decode cX10_people 119 = .ok (.iload 5, 2) := by decide +kernel
theorem dX10_people_121 : decode cX10_people 121 = .ok (.aload_n 0, 1) := by decide +kernel
theorem dX10_people_122 : decode cX10_people 122 = .ok (.aload_n 0, 1) := by decide +kernel
theorem dX10_people_123 : decode cX10_people 123 = .ok (.getfield 60, 3) := by decide +kernel
theorem dX10_people_126 : decode cX10_people 126 = .ok (.iload 7, 2) := by decide +kernel
theorem dX10_people_128 : decode cX10_people 128 = .ok (.iaload, 1) := by decide +kernel
theorem dX10_people_129 : decode cX10_people 129 = .ok (.aload_n 0, 1) := by decide +kernel
theorem dX10_people_130 : decode cX10_people 130 = .ok (.getfield 60, 3) := by decide +kernel
theorem dX10_people_133 : decode cX10_people 133 = .ok (.iload 7, 2) := by decide +kernel
theorem dX10_people_135 : decode cX10_people 135 = .ok (.iconst 1, 1) := by decide +kernel
theorem dX10_people_136 : decode cX10_people 136 = .ok (.iadd, 1) := by decide +kernel
theorem dX10_people_137 : decode cX10_people 137 = .ok (.iaload, 1) := by decide +kernel
theorem dX10_people_138 : decode cX10_people 138 = .ok (.aload_n 0, 1) := by decide +kernel
theorem dX10_people_139 : decode cX10_people 139 = .ok (.getfield 60, 3) := by decide +kernel
theorem dX10_people_142 : decode cX10_people 142 = .ok (.iload 7, 2) := by decide +kernel
theorem dX10_people_144 : decode cX10_people 144 = .ok (.iconst 2, 1) := by decide +kernel
theorem dX10_people_145 : decode cX10_people 145 = .ok (.iadd, 1) := by decide +kernel
theorem dX10_people_146 : decode cX10_people 146 = .ok (.iaload, 1) := by decide +kernel
theorem dX10_people_147 : decode cX10_people 147 = .ok (.invokevirtual 440, 3) := by decide +kernel
theorem dX10_people_150 : decode cX10_people 150 = .ok (.ifCond .lt 7, 3) := by decide +kernel
theorem dX10_people_153 : decode cX10_people 153 = .ok (.iconst 1, 1) := by decide +kernel
theorem dX10_people_154 : decode cX10_people 154 = .ok (.goto 4, 3) := by decide +kernel
theorem dX10_people_157 : decode cX10_people 157 = .ok (.iconst 0, 1) := by decide +kernel
theorem dX10_people_158 : decode cX10_people 158 = .ok (.iadd, 1) := by decide +kernel
theorem dX10_people_159 : decode cX10_people 159 = .ok (.istore 5, 2) := by decide +kernel
theorem dX10_people_161 : decode cX10_people 161 = .ok (.iinc 6 1, 3) := by decide +kernel
theorem dX10_people_164 : decode cX10_people 164 = .ok (.goto (-89), 3) := by decide +kernel
theorem dX10_people_167 : decode cX10_people 167 = .ok (.iload 5, 2) := by decide +kernel
theorem dX10_people_169 : decode cX10_people 169 = .ok (.ireturn, 1) := by decide +kernel
theorem dX10_over_0 : decode cX10_over 0 = .ok (.iload_n 0, 1) := by decide +kernel
theorem dX10_over_1 : decode cX10_over 1 = .ok (.ifCond .ne 7, 3) := by decide +kernel
theorem dX10_over_4 : decode cX10_over 4 = .ok (.iconst (-1), 1) := by decide +kernel
theorem dX10_over_5 : decode cX10_over 5 = .ok (.goto 22, 3) := by decide +kernel
theorem dX10_over_8 : decode cX10_over 8 = .ok (.iload_n 0, 1) := by decide +kernel
theorem dX10_over_9 : decode cX10_over 9 = .ok (.iconst 3, 1) := by decide +kernel
theorem dX10_over_10 : decode cX10_over 10 = .ok (.if_icmp .ne 7, 3) := by decide +kernel
theorem dX10_over_13 : decode cX10_over 13 = .ok (.iconst 1, 1) := by decide +kernel
theorem dX10_over_14 : decode cX10_over 14 = .ok (.goto 13, 3) := by decide +kernel
theorem dX10_over_17 : decode cX10_over 17 = .ok (.iload_n 0, 1) := by decide +kernel
theorem dX10_over_18 : decode cX10_over 18 = .ok (.iconst 4, 1) := by decide +kernel
theorem dX10_over_19 : decode cX10_over 19 = .ok (.if_icmp .ne 7, 3) := by decide +kernel
theorem dX10_over_22 : decode cX10_over 22 = .ok (.iconst 2, 1) := by decide +kernel
theorem dX10_over_23 : decode cX10_over 23 = .ok (.goto 4, 3) := by decide +kernel
theorem dX10_over_26 : decode cX10_over 26 = .ok (.iconst 0, 1) := by decide +kernel
theorem dX10_over_27 : decode cX10_over 27 = .ok (.ireturn, 1) := by decide +kernel
theorem dX10_taken_0 : decode cX10_taken 0 = .ok (.iload_n 2, 1) := by decide +kernel
theorem dX10_taken_1 : decode cX10_taken 1 = .ok (.i2l, 1) := by decide +kernel
theorem dX10_taken_2 : decode cX10_taken 2 = .ok (.lconst 0, 1) := by decide +kernel
theorem dX10_taken_3 : decode cX10_taken 3 = .ok (.ldc2_w 111, 3) := by decide +kernel
theorem dX10_taken_6 : decode cX10_taken 6 = .ok (.invokestatic 76, 3) := by decide +kernel
theorem dX10_taken_9 : decode cX10_taken 9 = .ok (.ifCond .ne 6, 3) := by decide +kernel
theorem dX10_taken_12 : decode cX10_taken 12 = .ok (.bipush (-2), 2) := by decide +kernel
theorem dX10_taken_14 : decode cX10_taken 14 = .ok (.ireturn, 1) := by decide +kernel
theorem dX10_taken_15 : decode cX10_taken 15 = .ok (.aload_n 0, 1) := by decide +kernel
theorem dX10_taken_16 : decode cX10_taken 16 = .ok (.iload_n 1, 1) := by decide +kernel
theorem dX10_taken_17 : decode cX10_taken 17 = .ok (.invokevirtual 84, 3) := by decide +kernel
theorem dX10_taken_20 : decode cX10_taken 20 = .ok (.ifCond .ne 6, 3) := by decide +kernel
theorem dX10_taken_23 : decode cX10_taken 23 = .ok (.bipush (-11), 2) := by decide +kernel
theorem dX10_taken_25 : decode cX10_taken 25 = .ok (.ireturn, 1) := by decide +kernel
theorem dX10_taken_26 : decode cX10_taken 26 = .ok (.aload_n 0, 1) := by decide +kernel
theorem dX10_taken_27 : decode cX10_taken 27 = .ok (.getfield 26, 3) := by decide +kernel
theorem dX10_taken_30 : decode cX10_taken 30 = .ok (.iload_n 1, 1) := by decide +kernel
theorem dX10_taken_31 : decode cX10_taken 31 = .ok (.iaload, 1) := by decide +kernel
theorem dX10_taken_32 : decode cX10_taken 32 = .ok (.istore_n 3, 1) := by decide +kernel
theorem dX10_taken_33 : decode cX10_taken 33 = .ok (.iload_n 3, 1) := by decide +kernel
theorem dX10_taken_34 : decode cX10_taken 34 = .ok (.iconst (-1), 1) := by decide +kernel
theorem dX10_taken_35 : decode cX10_taken 35 = .ok (.if_icmp .eq 16, 3) := by decide +kernel
theorem dX10_taken_38 : decode cX10_taken 38 = .ok (.iload_n 3, 1) := by decide +kernel
theorem dX10_taken_39 : decode cX10_taken 39 = .ok (.iload_n 2, 1) := by decide +kernel
theorem dX10_taken_40 : decode cX10_taken 40 = .ok (.if_icmp .eq 11, 3) := by decide +kernel
theorem dX10_taken_43 : decode cX10_taken 43 = .ok (.iload_n 3, 1) := by decide +kernel
theorem dX10_taken_44 : decode cX10_taken 44 = .ok (.invokestatic 443, 3) := by decide +kernel
theorem dX10_taken_47 : decode cX10_taken 47 = .ok (.istore_n 3, 1) := by decide +kernel
theorem dX10_taken_48 : decode cX10_taken 48 = .ok (.goto (-15), 3) := by decide +kernel
theorem dX10_taken_51 : decode cX10_taken 51 = .ok (.iload_n 3, 1) := by decide +kernel
theorem dX10_taken_52 : decode cX10_taken 52 = .ok (.iload_n 2, 1) := by decide +kernel
theorem dX10_taken_53 : decode cX10_taken 53 = .ok (.if_icmp .ne 14, 3) := by decide +kernel
theorem dX10_taken_56 : decode cX10_taken 56 = .ok (.aload_n 0, 1) := by decide +kernel
theorem dX10_taken_57 : decode cX10_taken 57 = .ok (.getfield 29, 3) := by decide +kernel
theorem dX10_taken_60 : decode cX10_taken 60 = .ok (.iconst 5, 1) := by decide +kernel
theorem dX10_taken_61 : decode cX10_taken 61 = .ok (.iload_n 1, 1) := by decide +kernel
theorem dX10_taken_62 : decode cX10_taken 62 = .ok (.imul, 1) := by decide +kernel
theorem dX10_taken_63 : decode cX10_taken 63 = .ok (.iaload, 1) := by decide +kernel
theorem dX10_taken_64 : decode cX10_taken 64 = .ok (.goto 5, 3) := by decide +kernel
theorem dX10_taken_67 : decode cX10_taken 67 = .ok (.bipush (-13), 2) := by decide +kernel
theorem dX10_taken_69 : decode cX10_taken 69 = .ok (.ireturn, 1) := by decide +kernel
