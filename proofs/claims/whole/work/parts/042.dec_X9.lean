theorem dX9_init_0 : decode cX9_init 0 = .ok (.aload_n 0, 1) := by decide +kernel
theorem dX9_init_1 : decode cX9_init 1 = .ok (.invokespecial 1, 3) := by decide +kernel
theorem dX9_init_4 : decode cX9_init 4 = .ok (.aload_n 0, 1) := by decide +kernel
theorem dX9_init_5 : decode cX9_init 5 = .ok (.new 7, 3) := by decide +kernel
theorem dX9_init_8 : decode cX9_init 8 = .ok (.dup, 1) := by decide +kernel
theorem dX9_init_9 : decode cX9_init 9 = .ok (.invokespecial 9, 3) := by decide +kernel
theorem dX9_init_12 : decode cX9_init 12 = .ok (.putfield 10, 3) := by decide +kernel
theorem dX9_init_15 : decode cX9_init 15 = .ok (.aload_n 0, 1) := by decide +kernel
theorem dX9_init_16 : decode cX9_init 16 = .ok (.new 16, 3) := by decide +kernel
theorem dX9_init_19 : decode cX9_init 19 = .ok (.dup, 1) := by decide +kernel
theorem dX9_init_20 : decode cX9_init 20 = .ok (.invokespecial 18, 3) := by decide +kernel
theorem dX9_init_23 : decode cX9_init 23 = .ok (.putfield 19, 3) := by decide +kernel
theorem dX9_init_26 : decode cX9_init 26 = .ok (.aload_n 0, 1) := by decide +kernel
theorem dX9_init_27 : decode cX9_init 27 = .ok (.new 7, 3) := by decide +kernel
theorem dX9_init_30 : decode cX9_init 30 = .ok (.dup, 1) := by decide +kernel
theorem dX9_init_31 : decode cX9_init 31 = .ok (.invokespecial 9, 3) := by decide +kernel
theorem dX9_init_34 : decode cX9_init 34 = .ok (.putfield 23, 3) := by decide +kernel
theorem dX9_init_37 : decode cX9_init 37 = .ok (.aload_n 0, 1) := by decide +kernel
theorem dX9_init_38 : decode cX9_init 38 = .ok (.new 16, 3) := by decide +kernel
theorem dX9_init_41 : decode cX9_init 41 = .ok (.dup, 1) := by decide +kernel
theorem dX9_init_42 : decode cX9_init 42 = .ok (.invokespecial 18, 3) := by decide +kernel
theorem dX9_init_45 : decode cX9_init 45 = .ok (.putfield 26, 3) := by decide +kernel
theorem dX9_init_48 : decode cX9_init 48 = .ok (.aload_n 0, 1) := by decide +kernel
theorem dX9_init_49 : decode cX9_init 49 = .ok (.iconst 0, 1) := by decide +kernel
theorem dX9_init_50 : decode cX9_init 50 = .ok (.putfield 29, 3) := by decide +kernel
theorem dX9_init_53 : decode cX9_init 53 = .ok (.aload_n 0, 1) := by decide +kernel
theorem dX9_init_54 : decode cX9_init 54 = .ok (.new 16, 3) := by decide +kernel
theorem dX9_init_57 : decode cX9_init 57 = .ok (.dup, 1) := by decide +kernel
theorem dX9_init_58 : decode cX9_init 58 = .ok (.invokespecial 18, 3) := by decide +kernel
theorem dX9_init_61 : decode cX9_init 61 = .ok (.putfield 33, 3) := by decide +kernel
theorem dX9_init_64 : decode cX9_init 64 = .ok (.aload_n 0, 1) := by decide +kernel
theorem dX9_init_65 : decode cX9_init 65 = .ok (.new 36, 3) := by decide +kernel
theorem dX9_init_68 : decode cX9_init 68 = .ok (.dup, 1) := by decide +kernel
theorem dX9_init_69 : decode cX9_init 69 = .ok (.invokespecial 38, 3) := by decide +kernel
theorem dX9_init_72 : decode cX9_init 72 = .ok (.putfield 39, 3) := by decide +kernel
theorem dX9_init_75 : decode cX9_init 75 = .ok (.aload_n 0, 1) := by decide +kernel
theorem dX9_init_76 : decode cX9_init 76 = .ok (.new 43, 3) := by decide +kernel
theorem dX9_init_79 : decode cX9_init 79 = .ok (.dup, 1) := by decide +kernel
theorem dX9_init_80 : decode cX9_init 80 = .ok (.aload_n 0, 1) := by decide +kernel
theorem dX9_init_81 : decode cX9_init 81 = .ok (.getfield 10, 3) := by decide +kernel
theorem dX9_init_84 : decode cX9_init 84 = .ok (.invokespecial 45, 3) := by decide +kernel
theorem dX9_init_87 : decode cX9_init 87 = .ok (.putfield 48, 3) := by decide +kernel
theorem dX9_init_90 : decode cX9_init 90 = .ok (.aload_n 0, 1) := by decide +kernel
theorem dX9_init_91 : decode cX9_init 91 = .ok (.new 52, 3) := by decide +kernel
theorem dX9_init_94 : decode cX9_init 94 = .ok (.dup, 1) := by decide +kernel
theorem dX9_init_95 : decode cX9_init 95 = .ok (.aload_n 0, 1) := by decide +kernel
theorem dX9_init_96 : decode cX9_init 96 = .ok (.getfield 48, 3) := by decide +kernel
theorem dX9_init_99 : decode cX9_init 99 = .ok (.invokespecial 54, 3) := by decide +kernel
theorem dX9_init_102 : decode cX9_init 102 = .ok (.putfield 57, 3) := by decide +kernel
theorem dX9_init_105 : decode cX9_init 105 = .ok (.aload_n 0, 1) := by decide +kernel
theorem dX9_init_106 : decode cX9_init 106 = .ok (.iconst 4, 1) := by decide +kernel
theorem dX9_init_107 : decode cX9_init 107 = .ok (.anewarray 61, 3) := by decide +kernel
theorem dX9_init_110 : decode cX9_init 110 = .ok (.putfield 63, 3) := by decide +kernel
theorem dX9_init_113 : decode cX9_init 113 = .ok (.aload_n 0, 1) := by decide +kernel
theorem dX9_init_114 : decode cX9_init 114 = .ok (.getfield 39, 3) := by decide +kernel
theorem dX9_init_117 : decode cX9_init 117 = .ok (.ldc 67, 2) := by decide +kernel
theorem dX9_init_119 : decode cX9_init 119 = .ok (.invokevirtual 69, 3) := by decide +kernel
theorem dX9_init_122 : decode cX9_init 122 = .ok (.aload_n 0, 1) := by decide +kernel
theorem dX9_init_123 : decode cX9_init 123 = .ok (.getfield 48, 3) := by decide +kernel
theorem dX9_init_126 : decode cX9_init 126 = .ok (.aload_n 0, 1) := by decide +kernel
theorem dX9_init_127 : decode cX9_init 127 = .ok (.getfield 39, 3) := by decide +kernel
theorem dX9_init_130 : decode cX9_init 130 = .ok (.invokevirtual 73, 3) := by decide +kernel
theorem dX9_init_133 : decode cX9_init 133 = .ok (.invokevirtual 77, 3) := by decide +kernel
theorem dX9_init_136 : decode cX9_init 136 = .ok (.pop, 1) := by decide +kernel
theorem dX9_init_137 : decode cX9_init 137 = .ok (.iconst 0, 1) := by decide +kernel
theorem dX9_init_138 : decode cX9_init 138 = .ok (.istore_n 1, 1) := by decide +kernel
theorem dX9_init_139 : decode cX9_init 139 = .ok (.iload_n 1, 1) := by decide +kernel
theorem dX9_init_140 : decode cX9_init 140 = .ok (.iconst 4, 1) := by decide +kernel
theorem dX9_init_141 : decode cX9_init 141 = .ok (.if_icmp .ge 22, 3) := by decide +kernel
theorem dX9_init_144 : decode cX9_init 144 = .ok (.aload_n 0, 1) := by decide +kernel
theorem dX9_init_145 : decode cX9_init 145 = .ok (.getfield 63, 3) := by decide +kernel
theorem dX9_init_148 : decode cX9_init 148 = .ok (.iload_n 1, 1) := by decide +kernel
theorem dX9_init_149 : decode cX9_init 149 = .ok (.new 61, 3) := by decide +kernel
theorem dX9_init_152 : decode cX9_init 152 = .ok (.dup, 1) := by decide +kernel
theorem dX9_init_153 : decode cX9_init 153 = .ok (.invokespecial 81, 3) := by decide +kernel
theorem dX9_init_156 : decode cX9_init 156 = .ok (.aastore, 1) := by decide +kernel
theorem dX9_init_157 : decode cX9_init 157 = .ok (.iinc 1 1, 3) := by decide +kernel
theorem dX9_init_160 : decode cX9_init 160 = .ok (.goto (-21), 3) := by decide +kernel
theorem dX9_init_163 : decode cX9_init 163 = .ok (.return_, 1) := by decide +kernel
theorem dX9_set_0 : decode cX9_set 0 = .ok (.iload_n 1, 1) := by decide +kernel
theorem dX9_set_1 : decode cX9_set 1 = .ok (.ifCond .lt 11, 3) := by decide +kernel
theorem dX9_set_4 : decode cX9_set 4 = .ok (.iload_n 1, 1) := by decide +kernel
theorem dX9_set_5 : decode cX9_set 5 = .ok (.getstatic 82, 3) := by decide +kernel
theorem dX9_set_8 : decode cX9_set 8 = .ok (.arraylength, 1) := by decide +kernel
theorem dX9_set_9 : decode cX9_set 9 = .ok (.if_icmp .lt 6, 3) := by decide +kernel
theorem dX9_set_12 : decode cX9_set 12 = .ok (.bipush (-2), 2) := by decide +kernel
theorem dX9_set_14 : decode cX9_set 14 = .ok (.ireturn, 1) := by decide +kernel
theorem dX9_set_15 : decode cX9_set 15 = .ok (.iload_n 1, 1) := by decide +kernel
theorem dX9_set_16 : decode cX9_set 16 = .ok (.ifCond .eq 14, 3) := by decide +kernel
theorem dX9_set_19 : decode cX9_set 19 = .ok (.aload_n 0, 1) := by decide +kernel
theorem dX9_set_20 : decode cX9_set 20 = .ok (.iload_n 2, 1) := by decide +kernel
theorem dX9_set_21 : decode cX9_set 21 = .ok (.invokevirtual 86, 3) := by decide +kernel
theorem dX9_set_24 : decode cX9_set 24 = .ok (.ifCond .ne 6, 3) := by decide +kernel
theorem dX9_set_27 : decode cX9_set 27 = .ok (.bipush (-2), 2) := by decide +kernel
theorem dX9_set_29 : decode cX9_set 29 = .ok (.ireturn, 1) := by decide +kernel
theorem dX9_set_30 : decode cX9_set 30 = .ok (.iload_n 3, 1) := by decide +kernel
theorem dX9_set_31 : decode cX9_set 31 = .ok (.ifCond .lt 12, 3) := by decide +kernel
theorem dX9_set_34 : decode cX9_set 34 = .ok (.iload_n 3, 1) := by decide +kernel
theorem dX9_set_35 : decode cX9_set 35 = .ok (.getstatic 82, 3) := by decide +kernel
theorem dX9_set_38 : decode cX9_set 38 = .ok (.iload_n 1, 1) := by decide +kernel
theorem dX9_set_39 : decode cX9_set 39 = .ok (.iaload, 1) := by decide +kernel
theorem dX9_set_40 : decode cX9_set 40 = .ok (.if_icmp .le 6, 3) := by decide +kernel
theorem dX9_set_43 : decode cX9_set 43 = .ok (.bipush (-2), 2) := by decide +kernel
theorem dX9_set_45 : decode cX9_set 45 = .ok (.ireturn, 1) := by decide +kernel
theorem dX9_set_46 : decode cX9_set 46 = .ok (.iload_n 1, 1) := by decide +kernel
theorem dX9_set_47 : decode cX9_set 47 = .ok (.ifCond .ne 23, 3) := by decide +kernel
theorem dX9_set_50 : decode cX9_set 50 = .ok (.aload_n 0, 1) := by decide +kernel
theorem dX9_set_51 : decode cX9_set 51 = .ok (.getfield 19, 3) := by decide +kernel
theorem dX9_set_54 : decode cX9_set 54 = .ok (.getfield 90, 3) := by decide +kernel
theorem dX9_set_57 : decode cX9_set 57 = .ok (.istore 4, 2) := by decide +kernel
theorem dX9_set_59 : decode cX9_set 59 = .ok (.aload_n 0, 1) := by decide +kernel
theorem dX9_set_60 : decode cX9_set 60 = .ok (.getfield 19, 3) := by decide +kernel
theorem dX9_set_63 : decode cX9_set 63 = .ok (.iload_n 3, 1) := by decide +kernel
theorem dX9_set_64 : decode cX9_set 64 = .ok (.putfield 90, 3) := by decide +kernel
theorem dX9_set_67 : decode cX9_set 67 = .ok (.iload 4, 2) := by decide +kernel
theorem dX9_set_69 : decode cX9_set 69 = .ok (.ireturn, 1) := by decide +kernel
theorem dX9_set_70 : decode cX9_set 70 = .ok (.aload_n 0, 1) := by decide +kernel
theorem dX9_set_71 : decode cX9_set 71 = .ok (.getfield 19, 3) := by decide +kernel
theorem dX9_set_74 : decode cX9_set 74 = .ok (.iload_n 1, 1) := by decide +kernel
theorem dX9_set_75 : decode cX9_set 75 = .ok (.invokevirtual 94, 3) := by decide +kernel
theorem dX9_set_78 : decode cX9_set 78 = .ok (.astore 4, 2) := by decide +kernel
theorem dX9_set_80 : decode cX9_set 80 = .ok (.aload 4, 2) := by decide +kernel
theorem dX9_set_82 : decode cX9_set 82 = .ok (.iload_n 2, 1) := by decide +kernel
theorem dX9_set_83 : decode cX9_set 83 = .ok (.iaload, 1) := by decide +kernel
theorem dX9_set_84 : decode cX9_set 84 = .ok (.istore 5, 2) := by decide +kernel
theorem dX9_set_86 : decode cX9_set 86 = .ok (.aload 4, 2) := by decide +kernel
theorem dX9_set_88 : decode cX9_set 88 = .ok (.iload_n 2, 1) := by decide +kernel
theorem dX9_set_89 : decode cX9_set 89 = .ok (.iload_n 3, 1) := by decide +kernel
theorem dX9_set_90 : decode cX9_set 90 = .ok (.iastore, 1) := by decide +kernel
theorem dX9_set_91 : decode cX9_set 91 = .ok (.iload 5, 2) := by decide +kernel
theorem dX9_set_93 : decode cX9_set 93 = .ok (.ireturn, 1) := by decide +kernel
theorem dX9_road_0 : decode cX9_road 0 = .ok (.iload_n 1, 1) := by decide +kernel
theorem dX9_road_1 : decode cX9_road 1 = .ok (.invokestatic 98, 3) := by decide +kernel
theorem dX9_road_4 : decode cX9_road 4 = .ok (.ifCond .eq 15, 3) := by decide +kernel
theorem dX9_road_7 : decode cX9_road 7 = .ok (.iload_n 2, 1) := by decide +kernel
theorem dX9_road_8 : decode cX9_road 8 = .ok (.invokestatic 98, 3) := by decide +kernel
theorem dX9_road_11 : decode cX9_road 11 = .ok (.ifCond .eq 8, 3) := by decide +kernel
theorem dX9_road_14 : decode cX9_road 14 = .ok (.iload_n 1, 1) := by decide +kernel
theorem dX9_road_15 : decode cX9_road 15 = .ok (.iload_n 2, 1) := by decide +kernel
theorem dX9_road_16 : decode cX9_road 16 = .ok (.if_icmp .ne 6, 3) := by decide +kernel
theorem dX9_road_19 : decode cX9_road 19 = .ok (.bipush (-2), 2) := by decide +kernel
theorem dX9_road_21 : decode cX9_road 21 = .ok (.ireturn, 1) := by decide +kernel
theorem dX9_road_22 : decode cX9_road 22 = .ok (.iload_n 3, 1) := by decide +kernel
theorem dX9_road_23 : decode cX9_road 23 = .ok (.ifCond .lt 9, 3) := by decide +kernel
theorem dX9_road_26 : decode cX9_road 26 = .ok (.iload_n 3, 1) := by decide +kernel
theorem dX9_road_27 : decode cX9_road 27 = .ok (.bipush 99, 2) := by decide +kernel
theorem dX9_road_29 : decode cX9_road 29 = .ok (.if_icmp .le 6, 3) := by decide +kernel
theorem dX9_road_32 : decode cX9_road 32 = .ok (.bipush (-2), 2) := by decide +kernel
theorem dX9_road_34 : decode cX9_road 34 = .ok (.ireturn, 1) := by decide +kernel
theorem dX9_road_35 : decode cX9_road 35 = .ok (.aload_n 0, 1) := by decide +kernel
theorem dX9_road_36 : decode cX9_road 36 = .ok (.getfield 10, 3) := by decide +kernel
theorem dX9_road_39 : decode cX9_road 39 = .ok (.iload_n 1, 1) := by decide +kernel
theorem dX9_road_40 : decode cX9_road 40 = .ok (.iload_n 2, 1) := by decide +kernel
theorem dX9_road_41 : decode cX9_road 41 = .ok (.iload_n 3, 1) := by decide +kernel
theorem dX9_road_42 : decode cX9_road 42 = .ok (.invokevirtual 101, 3) := by decide +kernel
theorem dX9_road_45 : decode cX9_road 45 = .ok (.ireturn, 1) := by decide +kernel
theorem dX9_person_0 : decode cX9_person 0 = .ok (.iload_n 1, 1) := by decide +kernel
theorem dX9_person_1 : decode cX9_person 1 = .ok (.invokestatic 105, 3) := by decide +kernel
theorem dX9_person_4 : decode cX9_person 4 = .ok (.ifCond .eq 13, 3) := by decide +kernel
theorem dX9_person_7 : decode cX9_person 7 = .ok (.iload_n 2, 1) := by decide +kernel
theorem dX9_person_8 : decode cX9_person 8 = .ok (.ifCond .lt 9, 3) := by decide +kernel
theorem dX9_person_11 : decode cX9_person 11 = .ok (.iload_n 2, 1) := by decide +kernel
theorem dX9_person_12 : decode cX9_person 12 = .ok (.bipush 9, 2) := by decide +kernel
theorem dX9_person_14 : decode cX9_person 14 = .ok (.if_icmp .le 6, 3) := by decide +kernel
theorem dX9_person_17 : decode cX9_person 17 = .ok (.bipush (-2), 2) := by decide +kernel
theorem dX9_person_19 : decode cX9_person 19 = .ok (.ireturn, 1) := by decide +kernel
theorem dX9_person_20 : decode cX9_person 20 = .ok (.iload_n 3, 1) := by decide +kernel
theorem dX9_person_21 : decode cX9_person 21 = .ok (.ifCond .lt 10, 3) := by decide +kernel
theorem dX9_person_24 : decode cX9_person 24 = .ok (.iload_n 3, 1) := by decide +kernel
theorem dX9_person_25 : decode cX9_person 25 = .ok (.sipush 255, 3) := by decide +kernel
theorem dX9_person_28 : decode cX9_person 28 = .ok (.if_icmp .le 6, 3) := by decide +kernel
theorem dX9_person_31 : decode cX9_person 31 = .ok (.bipush (-2), 2) := by decide +kernel
theorem dX9_person_33 : decode cX9_person 33 = .ok (.ireturn, 1) := by decide +kernel
theorem dX9_person_34 : decode cX9_person 34 = .ok (.aload_n 0, 1) := by decide +kernel
theorem dX9_person_35 : decode cX9_person 35 = .ok (.getfield 19, 3) := by decide +kernel
theorem dX9_person_38 : decode cX9_person 38 = .ok (.iload_n 1, 1) := by decide +kernel
theorem dX9_person_39 : decode cX9_person 39 = .ok (.iload_n 2, 1) := by decide +kernel
theorem dX9_person_40 : decode cX9_person 40 = .ok (.iload_n 3, 1) := by decide +kernel
theorem dX9_person_41 : decode cX9_person 41 = .ok (.invokevirtual 110, 3) := by decide +kernel
theorem dX9_person_44 : decode cX9_person 44 = .ok (.ireturn, 1) := by decide +kernel
theorem dX9_told_0 : decode cX9_told 0 = .ok (.iload_n 2, 1) := by decide +kernel
theorem dX9_told_1 : decode cX9_told 1 = .ok (.ifCond .ne 11, 3) := by decide +kernel
theorem dX9_told_4 : decode cX9_told 4 = .ok (.aload_n 0, 1) := by decide +kernel
theorem dX9_told_5 : decode cX9_told 5 = .ok (.getfield 19, 3) := by decide +kernel
theorem dX9_told_8 : decode cX9_told 8 = .ok (.getfield 90, 3) := by decide +kernel
theorem dX9_told_11 : decode cX9_told 11 = .ok (.ireturn, 1) := by decide +kernel
theorem dX9_told_12 : decode cX9_told 12 = .ok (.aload_n 0, 1) := by decide +kernel
theorem dX9_told_13 : decode cX9_told 13 = .ok (.iload_n 1, 1) := by decide +kernel
theorem dX9_told_14 : decode cX9_told 14 = .ok (.invokevirtual 86, 3) := by decide +kernel
theorem dX9_told_17 : decode cX9_told 17 = .ok (.ifCond .eq 7, 3) := by decide +kernel
theorem dX9_told_20 : decode cX9_told 20 = .ok (.iload_n 2, 1) := by decide +kernel
theorem dX9_told_21 : decode cX9_told 21 = .ok (.ifCond .ge 6, 3) := by decide +kernel
theorem dX9_told_24 : decode cX9_told 24 = .ok (.bipush (-2), 2) := by decide +kernel
theorem dX9_told_26 : decode cX9_told 26 = .ok (.ireturn, 1) := by decide +kernel
theorem dX9_told_27 : decode cX9_told 27 = .ok (.iload_n 2, 1) := by decide +kernel
theorem dX9_told_28 : decode cX9_told 28 = .ok (.bipush 6, 2) := by decide +kernel
theorem dX9_told_30 : decode cX9_told 30 = .ok (.if_icmp .gt 14, 3) := by decide +kernel
theorem dX9_told_33 : decode cX9_told 33 = .ok (.aload_n 0, 1) := by decide +kernel
theorem dX9_told_34 : decode cX9_told 34 = .ok (.getfield 19, 3) := by decide +kernel
theorem dX9_told_37 : decode cX9_told 37 = .ok (.iload_n 2, 1) := by decide +kernel
theorem dX9_told_38 : decode cX9_told 38 = .ok (.invokevirtual 94, 3) := by decide +kernel
theorem dX9_told_41 : decode cX9_told 41 = .ok (.iload_n 1, 1) := by decide +kernel
theorem dX9_told_42 : decode cX9_told 42 = .ok (.iaload, 1) := by decide +kernel
theorem dX9_told_43 : decode cX9_told 43 = .ok (.ireturn, 1) := by decide +kernel
theorem dX9_told_44 : decode cX9_told 44 = .ok (.iload_n 2, 1) := by decide +kernel
theorem dX9_told_45 : decode cX9_told 45 = .ok (.bipush 7, 2) := by decide +kernel
theorem dX9_told_47 : decode cX9_told 47 = .ok (.if_icmp .ne 12, 3) := by decide +kernel
theorem dX9_told_50 : decode cX9_told 50 = .ok (.aload_n 0, 1) := by decide +kernel
theorem dX9_told_51 : decode cX9_told 51 = .ok (.getfield 19, 3) := by decide +kernel
theorem dX9_told_54 : decode cX9_told 54 = .ok (.iload_n 1, 1) := by decide +kernel
theorem dX9_told_55 : decode cX9_told 55 = .ok (.invokevirtual 112, 3) := by decide +kernel
theorem dX9_told_58 : decode cX9_told 58 = .ok (.ireturn, 1) := by decide +kernel
theorem dX9_told_59 : decode cX9_told 59 = .ok (.iload_n 2, 1) := by decide +kernel
theorem dX9_told_60 : decode cX9_told 60 = .ok (.bipush 8, 2) := by decide +kernel
theorem dX9_told_62 : decode cX9_told 62 = .ok (.if_icmp .ne 29, 3) := by decide +kernel
theorem dX9_told_65 : decode cX9_told 65 = .ok (.aload_n 0, 1) := by decide +kernel
theorem dX9_told_66 : decode cX9_told 66 = .ok (.getfield 10, 3) := by decide +kernel
theorem dX9_told_69 : decode cX9_told 69 = .ok (.aload_n 0, 1) := by decide +kernel
theorem dX9_told_70 : decode cX9_told 70 = .ok (.getfield 19, 3) := by decide +kernel
theorem dX9_told_73 : decode cX9_told 73 = .ok (.getfield 116, 3) := by decide +kernel
theorem dX9_told_76 : decode cX9_told 76 = .ok (.iload_n 1, 1) := by decide +kernel
theorem dX9_told_77 : decode cX9_told 77 = .ok (.iaload, 1) := by decide +kernel
theorem dX9_told_78 : decode cX9_told 78 = .ok (.aload_n 0, 1) := by decide +kernel
theorem dX9_told_79 : decode cX9_told 79 = .ok (.getfield 19, 3) := by decide +kernel
theorem dX9_told_82 : decode cX9_told 82 = .ok (.getfield 119, 3) := by decide +kernel
theorem dX9_told_85 : decode cX9_told 85 = .ok (.iload_n 1, 1) := by decide +kernel
theorem dX9_told_86 : decode cX9_told 86 = .ok (.iaload, 1) := by decide +kernel
theorem dX9_told_87 : decode cX9_told 87 = .ok (.invokevirtual 122, 3) := by decide +kernel
theorem dX9_told_90 : decode cX9_told 90 = .ok (.ireturn, 1) := by decide +kernel
theorem dX9_told_91 : decode cX9_told 91 = .ok (.aload_n 0, 1) := by decide +kernel
theorem dX9_told_92 : decode cX9_told 92 = .ok (.iload_n 1, 1) := by decide +kernel
theorem dX9_told_93 : decode cX9_told 93 = .ok (.iload_n 2, 1) := by decide +kernel
theorem dX9_told_94 : decode cX9_told 94 = .ok (.bipush 10, 2) := by decide +kernel
theorem dX9_told_96 : decode cX9_told 96 = .ok (.idiv, 1) := by decide +kernel
theorem dX9_told_97 : decode cX9_told 97 = .ok (.iload_n 2, 1) := by decide +kernel
theorem dX9_told_98 : decode cX9_told 98 = .ok (.bipush 10, 2) := by decide +kernel
theorem dX9_told_100 : decode cX9_told 100 = .ok (.irem, 1) := by decide +kernel
theorem dX9_told_101 : decode cX9_told 101 = .ok (.invokevirtual 126, 3) := by decide +kernel
theorem dX9_told_104 : decode cX9_told 104 = .ok (.ireturn, 1) := by decide +kernel
theorem dX9_toldOfWay_0 : decode cX9_toldOfWay 0 = .ok (.iload_n 3, 1) := by decide +kernel
theorem dX9_toldOfWay_1 : decode cX9_toldOfWay 1 = .ok (.invokestatic 98, 3) := by decide +kernel
theorem dX9_toldOfWay_4 : decode cX9_toldOfWay 4 = .ok (.ifCond .ne 6, 3) := by decide +kernel
theorem dX9_toldOfWay_7 : decode cX9_toldOfWay 7 = .ok (.bipush (-2), 2) := by decide +kernel
theorem dX9_toldOfWay_9 : decode cX9_toldOfWay 9 = .ok (.ireturn, 1) := by decide +kernel
theorem dX9_toldOfWay_10 : decode cX9_toldOfWay 10 = .ok (.iload_n 2, 1) := by decide +kernel
theorem dX9_toldOfWay_11 : decode cX9_toldOfWay 11 = .ok (.tableswitch 75 1 3 #[25, 39, 53], 25) := by decide +kernel
theorem dX9_toldOfWay_36 : decode cX9_toldOfWay 36 = .ok (.aload_n 0, 1) := by decide +kernel
theorem dX9_toldOfWay_37 : decode cX9_toldOfWay 37 = .ok (.getfield 57, 3) := by decide +kernel
theorem dX9_toldOfWay_40 : decode cX9_toldOfWay 40 = .ok (.aload_n 0, 1) := by decide +kernel
theorem dX9_toldOfWay_41 : decode cX9_toldOfWay 41 = .ok (.getfield 19, 3) := by decide +kernel
theorem dX9_toldOfWay_44 : decode cX9_toldOfWay 44 = .ok (.iload_n 1, 1) := by decide +kernel
theorem dX9_toldOfWay_45 : decode cX9_toldOfWay 45 = .ok (.iload_n 3, 1) := by decide +kernel
theorem dX9_toldOfWay_46 : decode cX9_toldOfWay 46 = .ok (.invokevirtual 129, 3) := by decide +kernel
theorem dX9_toldOfWay_49 : decode cX9_toldOfWay 49 = .ok (.ireturn, 1) := by decide +kernel
theorem dX9_toldOfWay_50 : decode cX9_toldOfWay 50 = .ok (.aload_n 0, 1) := by decide +kernel
theorem dX9_toldOfWay_51 : decode cX9_toldOfWay 51 = .ok (.getfield 57, 3) := by decide +kernel
theorem dX9_toldOfWay_54 : decode cX9_toldOfWay 54 = .ok (.aload_n 0, 1) := by decide +kernel
theorem dX9_toldOfWay_55 : decode cX9_toldOfWay 55 = .ok (.getfield 19, 3) := by decide +kernel
theorem dX9_toldOfWay_58 : decode cX9_toldOfWay 58 = .ok (.iload_n 1, 1) := by decide +kernel
theorem dX9_toldOfWay_59 : decode cX9_toldOfWay 59 = .ok (.iload_n 3, 1) := by decide +kernel
theorem dX9_toldOfWay_60 : decode cX9_toldOfWay 60 = .ok (.invokevirtual 133, 3) := by decide +kernel
theorem dX9_toldOfWay_63 : decode cX9_toldOfWay 63 = .ok (.ireturn, 1) := by decide +kernel
theorem dX9_toldOfWay_64 : decode cX9_toldOfWay 64 = .ok (.aload_n 0, 1) := by decide +kernel
theorem dX9_toldOfWay_65 : decode cX9_toldOfWay 65 = .ok (.getfield 57, 3) := by decide +kernel
theorem dX9_toldOfWay_68 : decode cX9_toldOfWay 68 = .ok (.aload_n 0, 1) := by decide +kernel
theorem dX9_toldOfWay_69 : decode cX9_toldOfWay 69 = .ok (.getfield 19, 3) := by decide +kernel
theorem dX9_toldOfWay_72 : decode cX9_toldOfWay 72 = .ok (.iload_n 1, 1) := by decide +kernel
theorem dX9_toldOfWay_73 : decode cX9_toldOfWay 73 = .ok (.iload_n 3, 1) := by decide +kernel
theorem dX9_toldOfWay_74 : decode cX9_toldOfWay 74 = .ok (.invokevirtual 136, 3) := by decide +kernel
theorem dX9_toldOfWay_77 : decode cX9_toldOfWay 77 = .ok (.ifCond .eq 7, 3) := by decide +kernel
theorem dX9_toldOfWay_80 : decode cX9_toldOfWay 80 = .ok (.iconst 1, 1) := by decide +kernel
theorem dX9_toldOfWay_81 : decode cX9_toldOfWay 81 = .ok (.goto 4, 3) := by decide +kernel
theorem dX9_toldOfWay_84 : decode cX9_toldOfWay 84 = .ok (.iconst 0, 1) := by decide +kernel
theorem dX9_toldOfWay_85 : decode cX9_toldOfWay 85 = .ok (.ireturn, 1) := by decide +kernel
theorem dX9_toldOfWay_86 : decode cX9_toldOfWay 86 = .ok (.bipush (-2), 2) := by decide +kernel
theorem dX9_toldOfWay_88 : decode cX9_toldOfWay 88 = .ok (.ireturn, 1) := by decide +kernel
theorem dX9_feed_0 : decode cX9_feed 0 = .ok (.iload_n 1, 1) := by decide +kernel
theorem dX9_feed_1 : decode cX9_feed 1 = .ok (.ifCond .lt 10, 3) := by decide +kernel
theorem dX9_feed_4 : decode cX9_feed 4 = .ok (.iload_n 1, 1) := by decide +kernel
theorem dX9_feed_5 : decode cX9_feed 5 = .ok (.sipush 255, 3) := by decide +kernel
theorem dX9_feed_8 : decode cX9_feed 8 = .ok (.if_icmp .le 6, 3) := by decide +kernel
theorem dX9_feed_11 : decode cX9_feed 11 = .ok (.bipush (-2), 2) := by decide +kernel
theorem dX9_feed_13 : decode cX9_feed 13 = .ok (.ireturn, 1) := by decide +kernel
theorem dX9_feed_14 : decode cX9_feed 14 = .ok (.aload_n 0, 1) := by decide +kernel
theorem dX9_feed_15 : decode cX9_feed 15 = .ok (.getfield 39, 3) := by decide +kernel
theorem dX9_feed_18 : decode cX9_feed 18 = .ok (.iload_n 1, 1) := by decide +kernel
theorem dX9_feed_19 : decode cX9_feed 19 = .ok (.invokevirtual 140, 3) := by decide +kernel
theorem dX9_feed_22 : decode cX9_feed 22 = .ok (.ireturn, 1) := by decide +kernel
theorem dX9_text_0 : decode cX9_text 0 = .ok (.aload_n 0, 1) := by decide +kernel
theorem dX9_text_1 : decode cX9_text 1 = .ok (.getfield 48, 3) := by decide +kernel
theorem dX9_text_4 : decode cX9_text 4 = .ok (.getfield 142, 3) := by decide +kernel
theorem dX9_text_7 : decode cX9_text 7 = .ok (.bipush 6, 2) := by decide +kernel
theorem dX9_text_9 : decode cX9_text 9 = .ok (.if_icmp .lt 6, 3) := by decide +kernel
theorem dX9_text_12 : decode cX9_text 12 = .ok (.bipush (-4), 2) := by decide +kernel
theorem dX9_text_14 : decode cX9_text 14 = .ok (.ireturn, 1) := by decide +kernel
theorem dX9_text_15 : decode cX9_text 15 = .ok (.aload_n 0, 1) := by decide +kernel
theorem dX9_text_16 : decode cX9_text 16 = .ok (.getfield 39, 3) := by decide +kernel
theorem dX9_text_19 : decode cX9_text 19 = .ok (.invokevirtual 73, 3) := by decide +kernel
theorem dX9_text_22 : decode cX9_text 22 = .ok (.astore_n 1, 1) := by decide +kernel
theorem dX9_text_23 : decode cX9_text 23 = .ok (.aload_n 1, 1) := by decide +kernel
theorem dX9_text_24 : decode cX9_text 24 = .ok (.ifnonnull 14, 3) := by decide +kernel
theorem dX9_text_27 : decode cX9_text 27 = .ok (.bipush (-100), 2) := by decide +kernel
theorem dX9_text_29 : decode cX9_text 29 = .ok (.aload_n 0, 1) := by decide +kernel
theorem dX9_text_30 : decode cX9_text 30 = .ok (.getfield 39, 3) := by decide +kernel
theorem dX9_text_33 : decode cX9_text 33 = .ok (.getfield 145, 3) := by decide +kernel
theorem dX9_text_36 : decode cX9_text 36 = .ok (.isub, 1) := by decide +kernel
theorem dX9_text_37 : decode cX9_text 37 = .ok (.ireturn, 1) := by decide +kernel
theorem dX9_text_38 : decode cX9_text 38 = .ok (.aload_n 0, 1) := by decide +kernel
theorem dX9_text_39 : decode cX9_text 39 = .ok (.getfield 48, 3) := by decide +kernel
theorem dX9_text_42 : decode cX9_text 42 = .ok (.aload_n 1, 1) := by decide +kernel
theorem dX9_text_43 : decode cX9_text 43 = .ok (.invokevirtual 77, 3) := by decide +kernel
theorem dX9_text_46 : decode cX9_text 46 = .ok (.ireturn, 1) := by decide +kernel
theorem dX9_force_0 : decode cX9_force 0 = .ok (.iload_n 1, 1) := by decide +kernel
theorem dX9_force_1 : decode cX9_force 1 = .ok (.ifCond .lt 14, 3) := by decide +kernel
theorem dX9_force_4 : decode cX9_force 4 = .ok (.iload_n 1, 1) := by decide +kernel
theorem dX9_force_5 : decode cX9_force 5 = .ok (.aload_n 0, 1) := by decide +kernel
theorem dX9_force_6 : decode cX9_force 6 = .ok (.getfield 48, 3) := by decide +kernel
theorem dX9_force_9 : decode cX9_force 9 = .ok (.getfield 142, 3) := by decide +kernel
theorem dX9_force_12 : decode cX9_force 12 = .ok (.if_icmp .lt 6, 3) := by decide +kernel
theorem dX9_force_15 : decode cX9_force 15 = .ok (.bipush (-2), 2) := by decide +kernel
theorem dX9_force_17 : decode cX9_force 17 = .ok (.ireturn, 1) := by decide +kernel
theorem dX9_force_18 : decode cX9_force 18 = .ok (.aload_n 0, 1) := by decide +kernel
theorem dX9_force_19 : decode cX9_force 19 = .ok (.getfield 19, 3) := by decide +kernel
theorem dX9_force_22 : decode cX9_force 22 = .ok (.getfield 148, 3) := by decide +kernel
theorem dX9_force_25 : decode cX9_force 25 = .ok (.istore_n 2, 1) := by decide +kernel
theorem dX9_force_26 : decode cX9_force 26 = .ok (.aload_n 0, 1) := by decide +kernel
theorem dX9_force_27 : decode cX9_force 27 = .ok (.getfield 19, 3) := by decide +kernel
theorem dX9_force_30 : decode cX9_force 30 = .ok (.iload_n 1, 1) := by decide +kernel
theorem dX9_force_31 : decode cX9_force 31 = .ok (.putfield 148, 3) := by decide +kernel
theorem dX9_force_34 : decode cX9_force 34 = .ok (.iload_n 2, 1) := by decide +kernel
theorem dX9_force_35 : decode cX9_force 35 = .ok (.ireturn, 1) := by decide +kernel
theorem dX9_pays_0 : decode cX9_pays 0 = .ok (.aload_n 0, 1) := by decide +kernel
theorem dX9_pays_1 : decode cX9_pays 1 = .ok (.iload_n 1, 1) := by decide +kernel
theorem dX9_pays_2 : decode cX9_pays 2 = .ok (.invokevirtual 86, 3) := by decide +kernel
theorem dX9_pays_5 : decode cX9_pays 5 = .ok (.ifCond .eq 23, 3) := by decide +kernel
theorem dX9_pays_8 : decode cX9_pays 8 = .ok (.aload_n 0, 1) := by decide +kernel
theorem dX9_pays_9 : decode cX9_pays 9 = .ok (.iload_n 2, 1) := by decide +kernel
theorem dX9_pays_10 : decode cX9_pays 10 = .ok (.invokevirtual 86, 3) := by decide +kernel
theorem dX9_pays_13 : decode cX9_pays 13 = .ok (.ifCond .eq 15, 3) := by decide +kernel
theorem dX9_pays_16 : decode cX9_pays 16 = .ok (.iload_n 1, 1) := by decide +kernel
theorem dX9_pays_17 : decode cX9_pays 17 = .ok (.iload_n 2, 1) := by decide +kernel
theorem dX9_pays_18 : decode cX9_pays 18 = .ok (.if_icmp .eq 10, 3) := by decide +kernel
theorem dX9_pays_21 : decode cX9_pays 21 = .ok (.iload_n 3, 1) := by decide +kernel
theorem dX9_pays_22 : decode cX9_pays 22 = .ok (.invokestatic 98, 3) := by decide +kernel
theorem dX9_pays_25 : decode cX9_pays 25 = .ok (.ifCond .ne 6, 3) := by decide +kernel
theorem dX9_pays_28 : decode cX9_pays 28 = .ok (.bipush (-2), 2) := by decide +kernel
theorem dX9_pays_30 : decode cX9_pays 30 = .ok (.ireturn, 1) := by decide +kernel
theorem dX9_pays_31 : decode cX9_pays 31 = .ok (.aload_n 0, 1) := by decide +kernel
theorem dX9_pays_32 : decode cX9_pays 32 = .ok (.getfield 57, 3) := by decide +kernel
theorem dX9_pays_35 : decode cX9_pays 35 = .ok (.aload_n 0, 1) := by decide +kernel
theorem dX9_pays_36 : decode cX9_pays 36 = .ok (.getfield 19, 3) := by decide +kernel
theorem dX9_pays_39 : decode cX9_pays 39 = .ok (.iload_n 1, 1) := by decide +kernel
theorem dX9_pays_40 : decode cX9_pays 40 = .ok (.iload_n 2, 1) := by decide +kernel
theorem dX9_pays_41 : decode cX9_pays 41 = .ok (.iload_n 3, 1) := by decide +kernel
theorem dX9_pays_42 : decode cX9_pays 42 = .ok (.invokevirtual 151, 3) := by decide +kernel
theorem dX9_pays_45 : decode cX9_pays 45 = .ok (.ireturn, 1) := by decide +kernel
theorem dX9_trade_0 : decode cX9_trade 0 = .ok (.aload_n 0, 1) := by decide +kernel
theorem dX9_trade_1 : decode cX9_trade 1 = .ok (.iload_n 1, 1) := by decide +kernel
theorem dX9_trade_2 : decode cX9_trade 2 = .ok (.iload_n 2, 1) := by decide +kernel
theorem dX9_trade_3 : decode cX9_trade 3 = .ok (.iload_n 3, 1) := by decide +kernel
theorem dX9_trade_4 : decode cX9_trade 4 = .ok (.invokevirtual 155, 3) := by decide +kernel
theorem dX9_trade_7 : decode cX9_trade 7 = .ok (.istore 4, 2) := by decide +kernel
theorem dX9_trade_9 : decode cX9_trade 9 = .ok (.iload 4, 2) := by decide +kernel
theorem dX9_trade_11 : decode cX9_trade 11 = .ok (.bipush (-2), 2) := by decide +kernel
theorem dX9_trade_13 : decode cX9_trade 13 = .ok (.if_icmp .ne 6, 3) := by decide +kernel
theorem dX9_trade_16 : decode cX9_trade 16 = .ok (.bipush (-2), 2) := by decide +kernel
theorem dX9_trade_18 : decode cX9_trade 18 = .ok (.ireturn, 1) := by decide +kernel
theorem dX9_trade_19 : decode cX9_trade 19 = .ok (.iload 4, 2) := by decide +kernel
theorem dX9_trade_21 : decode cX9_trade 21 = .ok (.iconst (-1), 1) := by decide +kernel
theorem dX9_trade_22 : decode cX9_trade 22 = .ok (.if_icmp .ne 6, 3) := by decide +kernel
theorem dX9_trade_25 : decode cX9_trade 25 = .ok (.bipush (-3), 2) := by decide +kernel
theorem dX9_trade_27 : decode cX9_trade 27 = .ok (.ireturn, 1) := by decide +kernel
theorem dX9_trade_28 : decode cX9_trade 28 = .ok (.aload_n 0, 1) := by decide +kernel
theorem dX9_trade_29 : decode cX9_trade 29 = .ok (.getfield 57, 3) := by decide +kernel
theorem dX9_trade_32 : decode cX9_trade 32 = .ok (.aload_n 0, 1) := by decide +kernel
theorem dX9_trade_33 : decode cX9_trade 33 = .ok (.getfield 19, 3) := by decide +kernel
theorem dX9_trade_36 : decode cX9_trade 36 = .ok (.iload_n 1, 1) := by decide +kernel
theorem dX9_trade_37 : decode cX9_trade 37 = .ok (.iload_n 2, 1) := by decide +kernel
theorem dX9_trade_38 : decode cX9_trade 38 = .ok (.iload_n 3, 1) := by decide +kernel
theorem dX9_trade_39 : decode cX9_trade 39 = .ok (.iload 4, 2) := by decide +kernel
theorem dX9_trade_41 : decode cX9_trade 41 = .ok (.invokevirtual 158, 3) := by decide +kernel
theorem dX9_trade_44 : decode cX9_trade 44 = .ok (.iload 4, 2) := by decide +kernel
theorem dX9_trade_46 : decode cX9_trade 46 = .ok (.ireturn, 1) := by decide +kernel
theorem dX9_round_0 : decode cX9_round 0 = .ok (.aload_n 0, 1) := by decide +kernel
theorem dX9_round_1 : decode cX9_round 1 = .ok (.getfield 19, 3) := by decide +kernel
theorem dX9_round_4 : decode cX9_round 4 = .ok (.getfield 90, 3) := by decide +kernel
theorem dX9_round_7 : decode cX9_round 7 = .ok (.sipush 999, 3) := by decide +kernel
theorem dX9_round_10 : decode cX9_round 10 = .ok (.if_icmp .lt 6, 3) := by decide +kernel
theorem dX9_round_13 : decode cX9_round 13 = .ok (.bipush (-3), 2) := by decide +kernel
theorem dX9_round_15 : decode cX9_round 15 = .ok (.ireturn, 1) := by decide +kernel
theorem dX9_round_16 : decode cX9_round 16 = .ok (.aload_n 0, 1) := by decide +kernel
theorem dX9_round_17 : decode cX9_round 17 = .ok (.getfield 57, 3) := by decide +kernel
theorem dX9_round_20 : decode cX9_round 20 = .ok (.aload_n 0, 1) := by decide +kernel
theorem dX9_round_21 : decode cX9_round 21 = .ok (.getfield 19, 3) := by decide +kernel
theorem dX9_round_24 : decode cX9_round 24 = .ok (.iconst 1, 1) := by decide +kernel
theorem dX9_round_25 : decode cX9_round 25 = .ok (.iconst (-1), 1) := by decide +kernel
theorem dX9_round_26 : decode cX9_round 26 = .ok (.invokevirtual 162, 3) := by decide +kernel
theorem dX9_round_29 : decode cX9_round 29 = .ok (.ireturn, 1) := by decide +kernel
theorem dX9_run_0 : decode cX9_run 0 = .ok (.iload_n 1, 1) := by decide +kernel
theorem dX9_run_1 : decode cX9_run 1 = .ok (.ifCond .lt 9, 3) := by decide +kernel
theorem dX9_run_4 : decode cX9_run 4 = .ok (.iload_n 1, 1) := by decide +kernel
theorem dX9_run_5 : decode cX9_run 5 = .ok (.bipush 20, 2) := by decide +kernel
theorem dX9_run_7 : decode cX9_run 7 = .ok (.if_icmp .le 6, 3) := by decide +kernel
theorem dX9_run_10 : decode cX9_run 10 = .ok (.bipush (-2), 2) := by decide +kernel
theorem dX9_run_12 : decode cX9_run 12 = .ok (.ireturn, 1) := by decide +kernel
theorem dX9_run_13 : decode cX9_run 13 = .ok (.iload_n 2, 1) := by decide +kernel
theorem dX9_run_14 : decode cX9_run 14 = .ok (.bipush 10, 2) := by decide +kernel
theorem dX9_run_16 : decode cX9_run 16 = .ok (.if_icmp .lt 21, 3) := by decide +kernel
theorem dX9_run_19 : decode cX9_run 19 = .ok (.iload_n 2, 1) := by decide +kernel
theorem dX9_run_20 : decode cX9_run 20 = .ok (.bipush 10, 2) := by decide +kernel
theorem dX9_run_22 : decode cX9_run 22 = .ok (.aload_n 0, 1) := by decide +kernel
theorem dX9_run_23 : decode cX9_run 23 = .ok (.getfield 19, 3) := by decide +kernel
theorem dX9_run_26 : decode cX9_run 26 = .ok (.getfield 165, 3) := by decide +kernel
theorem dX9_run_29 : decode cX9_run 29 = .ok (.iadd, 1) := by decide +kernel
theorem dX9_run_30 : decode cX9_run 30 = .ok (.if_icmp .ge 7, 3) := by decide +kernel
theorem dX9_run_33 : decode cX9_run 33 = .ok (.iconst 1, 1) := by decide +kernel
theorem dX9_run_34 : decode cX9_run 34 = .ok (.goto 4, 3) := by decide +kernel
theorem dX9_run_37 : decode cX9_run 37 = .ok (.iconst 0, 1) := by decide +kernel
theorem dX9_run_38 : decode cX9_run 38 = .ok (.istore_n 3, 1) := by decide +kernel
theorem dX9_run_39 : decode cX9_run 39 = .ok (.iload_n 2, 1) := by decide +kernel
theorem dX9_run_40 : decode cX9_run 40 = .ok (.ifCond .eq 15, 3) := by decide +kernel
theorem dX9_run_43 : decode cX9_run 43 = .ok (.iload_n 2, 1) := by decide +kernel
theorem dX9_run_44 : decode cX9_run 44 = .ok (.iconst 1, 1) := by decide +kernel
theorem dX9_run_45 : decode cX9_run 45 = .ok (.if_icmp .eq 10, 3) := by decide +kernel
theorem dX9_run_48 : decode cX9_run 48 = .ok (.iload_n 3, 1) := by decide +kernel
theorem dX9_run_49 : decode cX9_run 49 = .ok (.ifCond .ne 6, 3) := by decide +kernel
theorem dX9_run_52 : decode cX9_run 52 = .ok (.bipush (-2), 2) := by decide +kernel
theorem dX9_run_54 : decode cX9_run 54 = .ok (.ireturn, 1) := by decide +kernel
theorem dX9_run_55 : decode cX9_run 55 = .ok (.aload_n 0, 1) := by decide +kernel
theorem dX9_run_56 : decode cX9_run 56 = .ok (.getfield 33, 3) := by decide +kernel
theorem dX9_run_59 : decode cX9_run 59 = .ok (.aload_n 0, 1) := by decide +kernel
theorem dX9_run_60 : decode cX9_run 60 = .ok (.getfield 19, 3) := by decide +kernel
theorem dX9_run_63 : decode cX9_run 63 = .ok (.invokevirtual 166, 3) := by decide +kernel
theorem dX9_run_66 : decode cX9_run 66 = .ok (.aload_n 0, 1) := by decide +kernel
theorem dX9_run_67 : decode cX9_run 67 = .ok (.getfield 57, 3) := by decide +kernel
theorem dX9_run_70 : decode cX9_run 70 = .ok (.aload_n 0, 1) := by decide +kernel
theorem dX9_run_71 : decode cX9_run 71 = .ok (.getfield 33, 3) := by decide +kernel
theorem dX9_run_74 : decode cX9_run 74 = .ok (.iload_n 1, 1) := by decide +kernel
theorem dX9_run_75 : decode cX9_run 75 = .ok (.iconst (-1), 1) := by decide +kernel
theorem dX9_run_76 : decode cX9_run 76 = .ok (.invokevirtual 162, 3) := by decide +kernel
theorem dX9_run_79 : decode cX9_run 79 = .ok (.pop, 1) := by decide +kernel
theorem dX9_run_80 : decode cX9_run 80 = .ok (.iload_n 3, 1) := by decide +kernel
theorem dX9_run_81 : decode cX9_run 81 = .ok (.ifCond .eq 16, 3) := by decide +kernel
theorem dX9_run_84 : decode cX9_run 84 = .ok (.aload_n 0, 1) := by decide +kernel
theorem dX9_run_85 : decode cX9_run 85 = .ok (.getfield 33, 3) := by decide +kernel
theorem dX9_run_88 : decode cX9_run 88 = .ok (.getfield 119, 3) := by decide +kernel
theorem dX9_run_91 : decode cX9_run 91 = .ok (.iload_n 2, 1) := by decide +kernel
theorem dX9_run_92 : decode cX9_run 92 = .ok (.bipush 10, 2) := by decide +kernel
theorem dX9_run_94 : decode cX9_run 94 = .ok (.isub, 1) := by decide +kernel
theorem dX9_run_95 : decode cX9_run 95 = .ok (.iaload, 1) := by decide +kernel
theorem dX9_run_96 : decode cX9_run 96 = .ok (.ireturn, 1) := by decide +kernel
theorem dX9_run_97 : decode cX9_run 97 = .ok (.iload_n 2, 1) := by decide +kernel
theorem dX9_run_98 : decode cX9_run 98 = .ok (.ifCond .ne 14, 3) := by decide +kernel
theorem dX9_run_101 : decode cX9_run 101 = .ok (.aload_n 0, 1) := by decide +kernel
theorem dX9_run_102 : decode cX9_run 102 = .ok (.getfield 33, 3) := by decide +kernel
theorem dX9_run_105 : decode cX9_run 105 = .ok (.iconst (-1), 1) := by decide +kernel
theorem dX9_run_106 : decode cX9_run 106 = .ok (.invokevirtual 170, 3) := by decide +kernel
theorem dX9_run_109 : decode cX9_run 109 = .ok (.goto 18, 3) := by decide +kernel
theorem dX9_run_112 : decode cX9_run 112 = .ok (.aload_n 0, 1) := by decide +kernel
theorem dX9_run_113 : decode cX9_run 113 = .ok (.getfield 33, 3) := by decide +kernel
theorem dX9_run_116 : decode cX9_run 116 = .ok (.invokevirtual 173, 3) := by decide +kernel
theorem dX9_run_119 : decode cX9_run 119 = .ok (.aload_n 0, 1) := by decide +kernel
theorem dX9_run_120 : decode cX9_run 120 = .ok (.getfield 19, 3) := by decide +kernel
theorem dX9_run_123 : decode cX9_run 123 = .ok (.invokevirtual 173, 3) := by decide +kernel
theorem dX9_run_126 : decode cX9_run 126 = .ok (.isub, 1) := by decide +kernel
theorem dX9_run_127 : decode cX9_run 127 = .ok (.ireturn, 1) := by decide +kernel
theorem dX9_all_0 : decode cX9_all 0 = .ok (.iload_n 1, 1) := by decide +kernel
theorem dX9_all_1 : decode cX9_all 1 = .ok (.tableswitch 90 0 3 #[31, 40, 49, 57], 31) := by decide +kernel
theorem dX9_all_32 : decode cX9_all 32 = .ok (.aload_n 0, 1) := by decide +kernel
theorem dX9_all_33 : decode cX9_all 33 = .ok (.getfield 19, 3) := by decide +kernel
theorem dX9_all_36 : decode cX9_all 36 = .ok (.iconst (-1), 1) := by decide +kernel
theorem dX9_all_37 : decode cX9_all 37 = .ok (.invokevirtual 170, 3) := by decide +kernel
theorem dX9_all_40 : decode cX9_all 40 = .ok (.ireturn, 1) := by decide +kernel
theorem dX9_all_41 : decode cX9_all 41 = .ok (.aload_n 0, 1) := by decide +kernel
theorem dX9_all_42 : decode cX9_all 42 = .ok (.getfield 19, 3) := by decide +kernel
theorem dX9_all_45 : decode cX9_all 45 = .ok (.iconst (-1), 1) := by decide +kernel
theorem dX9_all_46 : decode cX9_all 46 = .ok (.invokevirtual 177, 3) := by decide +kernel
theorem dX9_all_49 : decode cX9_all 49 = .ok (.ireturn, 1) := by decide +kernel
theorem dX9_all_50 : decode cX9_all 50 = .ok (.aload_n 0, 1) := by decide +kernel
theorem dX9_all_51 : decode cX9_all 51 = .ok (.getfield 19, 3) := by decide +kernel
theorem dX9_all_54 : decode cX9_all 54 = .ok (.invokevirtual 180, 3) := by decide +kernel
theorem dX9_all_57 : decode cX9_all 57 = .ok (.ireturn, 1) := by decide +kernel
theorem dX9_all_58 : decode cX9_all 58 = .ok (.aload_n 0, 1) := by decide +kernel
theorem dX9_all_59 : decode cX9_all 59 = .ok (.getfield 33, 3) := by decide +kernel
theorem dX9_all_62 : decode cX9_all 62 = .ok (.aload_n 0, 1) := by decide +kernel
theorem dX9_all_63 : decode cX9_all 63 = .ok (.getfield 19, 3) := by decide +kernel
theorem dX9_all_66 : decode cX9_all 66 = .ok (.invokevirtual 166, 3) := by decide +kernel
theorem dX9_all_69 : decode cX9_all 69 = .ok (.aload_n 0, 1) := by decide +kernel
theorem dX9_all_70 : decode cX9_all 70 = .ok (.getfield 57, 3) := by decide +kernel
theorem dX9_all_73 : decode cX9_all 73 = .ok (.aload_n 0, 1) := by decide +kernel
theorem dX9_all_74 : decode cX9_all 74 = .ok (.getfield 33, 3) := by decide +kernel
theorem dX9_all_77 : decode cX9_all 77 = .ok (.iconst 1, 1) := by decide +kernel
theorem dX9_all_78 : decode cX9_all 78 = .ok (.iconst (-1), 1) := by decide +kernel
theorem dX9_all_79 : decode cX9_all 79 = .ok (.invokevirtual 162, 3) := by decide +kernel
theorem dX9_all_82 : decode cX9_all 82 = .ok (.ifCond .ne 7, 3) := by decide +kernel
theorem dX9_all_85 : decode cX9_all 85 = .ok (.iconst 1, 1) := by decide +kernel
theorem dX9_all_86 : decode cX9_all 86 = .ok (.goto 4, 3) := by decide +kernel
theorem dX9_all_89 : decode cX9_all 89 = .ok (.iconst 0, 1) := by decide +kernel
theorem dX9_all_90 : decode cX9_all 90 = .ok (.ireturn, 1) := by decide +kernel
theorem dX9_all_91 : decode cX9_all 91 = .ok (.bipush (-2), 2) := by decide +kernel
theorem dX9_all_93 : decode cX9_all 93 = .ok (.ireturn, 1) := by decide +kernel
theorem dX9_soon_0 : decode cX9_soon 0 = .ok (.aload_n 0, 1) := by decide +kernel
theorem dX9_soon_1 : decode cX9_soon 1 = .ok (.iload_n 1, 1) := by decide +kernel
theorem dX9_soon_2 : decode cX9_soon 2 = .ok (.invokevirtual 86, 3) := by decide +kernel
theorem dX9_soon_5 : decode cX9_soon 5 = .ok (.ifCond .eq 10, 3) := by decide +kernel
theorem dX9_soon_8 : decode cX9_soon 8 = .ok (.iload_n 2, 1) := by decide +kernel
theorem dX9_soon_9 : decode cX9_soon 9 = .ok (.invokestatic 98, 3) := by decide +kernel
theorem dX9_soon_12 : decode cX9_soon 12 = .ok (.ifCond .ne 6, 3) := by decide +kernel
theorem dX9_soon_15 : decode cX9_soon 15 = .ok (.bipush (-2), 2) := by decide +kernel
theorem dX9_soon_17 : decode cX9_soon 17 = .ok (.ireturn, 1) := by decide +kernel
theorem dX9_soon_18 : decode cX9_soon 18 = .ok (.aload_n 0, 1) := by decide +kernel
theorem dX9_soon_19 : decode cX9_soon 19 = .ok (.getfield 33, 3) := by decide +kernel
theorem dX9_soon_22 : decode cX9_soon 22 = .ok (.aload_n 0, 1) := by decide +kernel
theorem dX9_soon_23 : decode cX9_soon 23 = .ok (.getfield 19, 3) := by decide +kernel
theorem dX9_soon_26 : decode cX9_soon 26 = .ok (.invokevirtual 166, 3) := by decide +kernel
theorem dX9_soon_29 : decode cX9_soon 29 = .ok (.iconst 0, 1) := by decide +kernel
theorem dX9_soon_30 : decode cX9_soon 30 = .ok (.istore_n 3, 1) := by decide +kernel
theorem dX9_soon_31 : decode cX9_soon 31 = .ok (.iload_n 3, 1) := by decide +kernel
theorem dX9_soon_32 : decode cX9_soon 32 = .ok (.bipush 20, 2) := by decide +kernel
theorem dX9_soon_34 : decode cX9_soon 34 = .ok (.if_icmp .ge 59, 3) := by decide +kernel
theorem dX9_soon_37 : decode cX9_soon 37 = .ok (.aload_n 0, 1) := by decide +kernel
theorem dX9_soon_38 : decode cX9_soon 38 = .ok (.getfield 33, 3) := by decide +kernel
theorem dX9_soon_41 : decode cX9_soon 41 = .ok (.iload_n 1, 1) := by decide +kernel
theorem dX9_soon_42 : decode cX9_soon 42 = .ok (.iload_n 2, 1) := by decide +kernel
theorem dX9_soon_43 : decode cX9_soon 43 = .ok (.invokevirtual 183, 3) := by decide +kernel
theorem dX9_soon_46 : decode cX9_soon 46 = .ok (.ifCond .eq 5, 3) := by decide +kernel
theorem dX9_soon_49 : decode cX9_soon 49 = .ok (.iload_n 3, 1) := by decide +kernel
theorem dX9_soon_50 : decode cX9_soon 50 = .ok (.ireturn, 1) := by decide +kernel
theorem dX9_soon_51 : decode cX9_soon 51 = .ok (.aload_n 0, 1) := by decide +kernel
theorem dX9_soon_52 : decode cX9_soon 52 = .ok (.getfield 57, 3) := by decide +kernel
theorem dX9_soon_55 : decode cX9_soon 55 = .ok (.aload_n 0, 1) := by decide +kernel
theorem dX9_soon_56 : decode cX9_soon 56 = .ok (.getfield 33, 3) := by decide +kernel
theorem dX9_soon_59 : decode cX9_soon 59 = .ok (.iconst 1, 1) := by decide +kernel
theorem dX9_soon_60 : decode cX9_soon 60 = .ok (.iconst (-1), 1) := by decide +kernel
theorem dX9_soon_61 : decode cX9_soon 61 = .ok (.invokevirtual 162, 3) := by decide +kernel
theorem dX9_soon_64 : decode cX9_soon 64 = .ok (.istore 4, 2) := by decide +kernel
theorem dX9_soon_66 : decode cX9_soon 66 = .ok (.iload 4, 2) := by decide +kernel
theorem dX9_soon_68 : decode cX9_soon 68 = .ok (.ifCond .ne 19, 3) := by decide +kernel
theorem dX9_soon_71 : decode cX9_soon 71 = .ok (.aload_n 0, 1) := by decide +kernel
theorem dX9_soon_72 : decode cX9_soon 72 = .ok (.getfield 57, 3) := by decide +kernel
theorem dX9_soon_75 : decode cX9_soon 75 = .ok (.aload_n 0, 1) := by decide +kernel
theorem dX9_soon_76 : decode cX9_soon 76 = .ok (.getfield 33, 3) := by decide +kernel
theorem dX9_soon_79 : decode cX9_soon 79 = .ok (.invokevirtual 187, 3) := by decide +kernel
theorem dX9_soon_82 : decode cX9_soon 82 = .ok (.ifCond .eq 5, 3) := by decide +kernel
theorem dX9_soon_85 : decode cX9_soon 85 = .ok (.iconst (-1), 1) := by decide +kernel
theorem dX9_soon_86 : decode cX9_soon 86 = .ok (.ireturn, 1) := by decide +kernel
theorem dX9_soon_87 : decode cX9_soon 87 = .ok (.iinc 3 1, 3) := by decide +kernel
theorem dX9_soon_90 : decode cX9_soon 90 = .ok (.goto (-59), 3) := by decide +kernel
theorem dX9_soon_93 : decode cX9_soon 93 = .ok (.aload_n 0, 1) := by decide +kernel
theorem dX9_soon_94 : decode cX9_soon 94 = .ok (.getfield 33, 3) := by decide +kernel
theorem dX9_soon_97 : decode cX9_soon 97 = .ok (.iload_n 1, 1) := by decide +kernel
theorem dX9_soon_98 : decode cX9_soon 98 = .ok (.iload_n 2, 1) := by decide +kernel
theorem dX9_soon_99 : decode cX9_soon 99 = .ok (.invokevirtual 183, 3) := by decide +kernel
theorem dX9_soon_102 : decode cX9_soon 102 = .ok (.ifCond .eq 8, 3) := by decide +kernel
theorem dX9_soon_105 : decode cX9_soon 105 = .ok (.bipush 20, 2) := by decide +kernel
theorem dX9_soon_107 : decode cX9_soon 107 = .ok (.goto 4, 3) := by decide +kernel
theorem dX9_soon_110 : decode cX9_soon 110 = .ok (.iconst (-1), 1) := by decide +kernel
theorem dX9_soon_111 : decode cX9_soon 111 = .ok (.ireturn, 1) := by decide +kernel
theorem dX9_gift_0 : decode cX9_gift 0 = .ok (.aload_n 0, 1) := by decide +kernel
theorem dX9_gift_1 : decode cX9_gift 1 = .ok (.iload_n 1, 1) := by decide +kernel
theorem dX9_gift_2 : decode cX9_gift 2 = .ok (.invokevirtual 86, 3) := by decide +kernel
theorem dX9_gift_5 : decode cX9_gift 5 = .ok (.ifCond .eq 12, 3) := by decide +kernel
theorem dX9_gift_8 : decode cX9_gift 8 = .ok (.iload_n 2, 1) := by decide +kernel
theorem dX9_gift_9 : decode cX9_gift 9 = .ok (.ifCond .lt 8, 3) := by decide +kernel
theorem dX9_gift_12 : decode cX9_gift 12 = .ok (.iload_n 2, 1) := by decide +kernel
theorem dX9_gift_13 : decode cX9_gift 13 = .ok (.iconst 1, 1) := by decide +kernel
theorem dX9_gift_14 : decode cX9_gift 14 = .ok (.if_icmp .le 6, 3) := by decide +kernel
theorem dX9_gift_17 : decode cX9_gift 17 = .ok (.bipush (-2), 2) := by decide +kernel
theorem dX9_gift_19 : decode cX9_gift 19 = .ok (.ireturn, 1) := by decide +kernel
theorem dX9_gift_20 : decode cX9_gift 20 = .ok (.iconst (-1), 1) := by decide +kernel
theorem dX9_gift_21 : decode cX9_gift 21 = .ok (.istore_n 3, 1) := by decide +kernel
theorem dX9_gift_22 : decode cX9_gift 22 = .ok (.aload_n 0, 1) := by decide +kernel
theorem dX9_gift_23 : decode cX9_gift 23 = .ok (.iload_n 1, 1) := by decide +kernel
theorem dX9_gift_24 : decode cX9_gift 24 = .ok (.iconst 0, 1) := by decide +kernel
theorem dX9_gift_25 : decode cX9_gift 25 = .ok (.invokevirtual 191, 3) := by decide +kernel
theorem dX9_gift_28 : decode cX9_gift 28 = .ok (.istore 4, 2) := by decide +kernel
theorem dX9_gift_30 : decode cX9_gift 30 = .ok (.iconst 0, 1) := by decide +kernel
theorem dX9_gift_31 : decode cX9_gift 31 = .ok (.istore 5, 2) := by decide +kernel
theorem dX9_gift_33 : decode cX9_gift 33 = .ok (.iload 5, 2) := by decide +kernel
theorem dX9_gift_35 : decode cX9_gift 35 = .ok (.bipush 8, 2) := by decide +kernel
theorem dX9_gift_37 : decode cX9_gift 37 = .ok (.if_icmp .ge 50, 3) := by decide +kernel
theorem dX9_gift_40 : decode cX9_gift 40 = .ok (.aload_n 0, 1) := by decide +kernel
theorem dX9_gift_41 : decode cX9_gift 41 = .ok (.getfield 19, 3) := by decide +kernel
theorem dX9_gift_44 : decode cX9_gift 44 = .ok (.iload_n 1, 1) := by decide +kernel
theorem dX9_gift_45 : decode cX9_gift 45 = .ok (.iload 5, 2) := by decide +kernel
theorem dX9_gift_47 : decode cX9_gift 47 = .ok (.invokevirtual 183, 3) := by decide +kernel
theorem dX9_gift_50 : decode cX9_gift 50 = .ok (.ifCond .eq 6, 3) := by decide +kernel
theorem dX9_gift_53 : decode cX9_gift 53 = .ok (.goto 28, 3) := by decide +kernel
theorem dX9_gift_56 : decode cX9_gift 56 = .ok (.aload_n 0, 1) := by decide +kernel
theorem dX9_gift_57 : decode cX9_gift 57 = .ok (.iload_n 1, 1) := by decide +kernel
theorem dX9_gift_58 : decode cX9_gift 58 = .ok (.iconst 1, 1) := by decide +kernel
theorem dX9_gift_59 : decode cX9_gift 59 = .ok (.iload 5, 2) := by decide +kernel
theorem dX9_gift_61 : decode cX9_gift 61 = .ok (.ishl, 1) := by decide +kernel
theorem dX9_gift_62 : decode cX9_gift 62 = .ok (.invokevirtual 191, 3) := by decide +kernel
theorem dX9_gift_65 : decode cX9_gift 65 = .ok (.istore 6, 2) := by decide +kernel
theorem dX9_gift_67 : decode cX9_gift 67 = .ok (.iload 6, 2) := by decide +kernel
theorem dX9_gift_69 : decode cX9_gift 69 = .ok (.iload 4, 2) := by decide +kernel
theorem dX9_gift_71 : decode cX9_gift 71 = .ok (.if_icmp .le 10, 3) := by decide +kernel
theorem dX9_gift_74 : decode cX9_gift 74 = .ok (.iload 5, 2) := by decide +kernel
theorem dX9_gift_76 : decode cX9_gift 76 = .ok (.istore_n 3, 1) := by decide +kernel
theorem dX9_gift_77 : decode cX9_gift 77 = .ok (.iload 6, 2) := by decide +kernel
theorem dX9_gift_79 : decode cX9_gift 79 = .ok (.istore 4, 2) := by decide +kernel
theorem dX9_gift_81 : decode cX9_gift 81 = .ok (.iinc 5 1, 3) := by decide +kernel
theorem dX9_gift_84 : decode cX9_gift 84 = .ok (.goto (-51), 3) := by decide +kernel
theorem dX9_gift_87 : decode cX9_gift 87 = .ok (.iload_n 2, 1) := by decide +kernel
theorem dX9_gift_88 : decode cX9_gift 88 = .ok (.ifCond .ne 7, 3) := by decide +kernel
theorem dX9_gift_91 : decode cX9_gift 91 = .ok (.iload_n 3, 1) := by decide +kernel
theorem dX9_gift_92 : decode cX9_gift 92 = .ok (.goto 5, 3) := by decide +kernel
theorem dX9_gift_95 : decode cX9_gift 95 = .ok (.iload 4, 2) := by decide +kernel
theorem dX9_gift_97 : decode cX9_gift 97 = .ok (.ireturn, 1) := by decide +kernel
theorem dX9_waysWithGift_0 : decode cX9_waysWithGift 0 = .ok (.aload_n 0, 1) := by decide +kernel
theorem dX9_waysWithGift_1 : decode cX9_waysWithGift 1 = .ok (.getfield 33, 3) := by decide +kernel
theorem dX9_waysWithGift_4 : decode cX9_waysWithGift 4 = .ok (.aload_n 0, 1) := by decide +kernel
theorem dX9_waysWithGift_5 : decode cX9_waysWithGift 5 = .ok (.getfield 19, 3) := by decide +kernel
theorem dX9_waysWithGift_8 : decode cX9_waysWithGift 8 = .ok (.invokevirtual 166, 3) := by decide +kernel
theorem dX9_waysWithGift_11 : decode cX9_waysWithGift 11 = .ok (.aload_n 0, 1) := by decide +kernel
theorem dX9_waysWithGift_12 : decode cX9_waysWithGift 12 = .ok (.getfield 33, 3) := by decide +kernel
theorem dX9_waysWithGift_15 : decode cX9_waysWithGift 15 = .ok (.getfield 119, 3) := by decide +kernel
theorem dX9_waysWithGift_18 : decode cX9_waysWithGift 18 = .ok (.iload_n 1, 1) := by decide +kernel
theorem dX9_waysWithGift_19 : decode cX9_waysWithGift 19 = .ok (.dup2, 1) := by decide +kernel
theorem dX9_waysWithGift_20 : decode cX9_waysWithGift 20 = .ok (.iaload, 1) := by decide +kernel
theorem dX9_waysWithGift_21 : decode cX9_waysWithGift 21 = .ok (.iload_n 2, 1) := by decide +kernel
theorem dX9_waysWithGift_22 : decode cX9_waysWithGift 22 = .ok (.ior, 1) := by decide +kernel
theorem dX9_waysWithGift_23 : decode cX9_waysWithGift 23 = .ok (.iastore, 1) := by decide +kernel
theorem dX9_waysWithGift_24 : decode cX9_waysWithGift 24 = .ok (.aload_n 0, 1) := by decide +kernel
theorem dX9_waysWithGift_25 : decode cX9_waysWithGift 25 = .ok (.getfield 57, 3) := by decide +kernel
theorem dX9_waysWithGift_28 : decode cX9_waysWithGift 28 = .ok (.aload_n 0, 1) := by decide +kernel
theorem dX9_waysWithGift_29 : decode cX9_waysWithGift 29 = .ok (.getfield 33, 3) := by decide +kernel
theorem dX9_waysWithGift_32 : decode cX9_waysWithGift 32 = .ok (.bipush 8, 2) := by decide +kernel
theorem dX9_waysWithGift_34 : decode cX9_waysWithGift 34 = .ok (.iconst (-1), 1) := by decide +kernel
theorem dX9_waysWithGift_35 : decode cX9_waysWithGift 35 = .ok (.invokevirtual 162, 3) := by decide +kernel
theorem dX9_waysWithGift_38 : decode cX9_waysWithGift 38 = .ok (.pop, 1) := by decide +kernel
theorem dX9_waysWithGift_39 : decode cX9_waysWithGift 39 = .ok (.aload_n 0, 1) := by decide +kernel
theorem dX9_waysWithGift_40 : decode cX9_waysWithGift 40 = .ok (.getfield 33, 3) := by decide +kernel
theorem dX9_waysWithGift_43 : decode cX9_waysWithGift 43 = .ok (.iconst (-1), 1) := by decide +kernel
theorem dX9_waysWithGift_44 : decode cX9_waysWithGift 44 = .ok (.invokevirtual 170, 3) := by decide +kernel
theorem dX9_waysWithGift_47 : decode cX9_waysWithGift 47 = .ok (.ireturn, 1) := by decide +kernel
theorem dX9_missed_0 : decode cX9_missed 0 = .ok (.iload_n 1, 1) := by decide +kernel
theorem dX9_missed_1 : decode cX9_missed 1 = .ok (.ifCond .lt 8, 3) := by decide +kernel
theorem dX9_missed_4 : decode cX9_missed 4 = .ok (.iload_n 1, 1) := by decide +kernel
theorem dX9_missed_5 : decode cX9_missed 5 = .ok (.iconst 1, 1) := by decide +kernel
theorem dX9_missed_6 : decode cX9_missed 6 = .ok (.if_icmp .le 6, 3) := by decide +kernel
theorem dX9_missed_9 : decode cX9_missed 9 = .ok (.bipush (-2), 2) := by decide +kernel
theorem dX9_missed_11 : decode cX9_missed 11 = .ok (.ireturn, 1) := by decide +kernel
theorem dX9_missed_12 : decode cX9_missed 12 = .ok (.iconst (-1), 1) := by decide +kernel
theorem dX9_missed_13 : decode cX9_missed 13 = .ok (.istore_n 2, 1) := by decide +kernel
theorem dX9_missed_14 : decode cX9_missed 14 = .ok (.iconst (-1), 1) := by decide +kernel
theorem dX9_missed_15 : decode cX9_missed 15 = .ok (.istore_n 3, 1) := by decide +kernel
theorem dX9_missed_16 : decode cX9_missed 16 = .ok (.iconst 0, 1) := by decide +kernel
theorem dX9_missed_17 : decode cX9_missed 17 = .ok (.istore 4, 2) := by decide +kernel
theorem dX9_missed_19 : decode cX9_missed 19 = .ok (.iload 4, 2) := by decide +kernel
theorem dX9_missed_21 : decode cX9_missed 21 = .ok (.aload_n 0, 1) := by decide +kernel
theorem dX9_missed_22 : decode cX9_missed 22 = .ok (.getfield 19, 3) := by decide +kernel
theorem dX9_missed_25 : decode cX9_missed 25 = .ok (.getfield 165, 3) := by decide +kernel
theorem dX9_missed_28 : decode cX9_missed 28 = .ok (.if_icmp .ge 74, 3) := by decide +kernel
theorem dX9_missed_31 : decode cX9_missed 31 = .ok (.aload_n 0, 1) := by decide +kernel
theorem dX9_missed_32 : decode cX9_missed 32 = .ok (.getfield 33, 3) := by decide +kernel
theorem dX9_missed_35 : decode cX9_missed 35 = .ok (.aload_n 0, 1) := by decide +kernel
theorem dX9_missed_36 : decode cX9_missed 36 = .ok (.getfield 19, 3) := by decide +kernel
theorem dX9_missed_39 : decode cX9_missed 39 = .ok (.invokevirtual 166, 3) := by decide +kernel
theorem dX9_missed_42 : decode cX9_missed 42 = .ok (.aload_n 0, 1) := by decide +kernel
theorem dX9_missed_43 : decode cX9_missed 43 = .ok (.getfield 57, 3) := by decide +kernel
theorem dX9_missed_46 : decode cX9_missed 46 = .ok (.aload_n 0, 1) := by decide +kernel
theorem dX9_missed_47 : decode cX9_missed 47 = .ok (.getfield 33, 3) := by decide +kernel
theorem dX9_missed_50 : decode cX9_missed 50 = .ok (.bipush 8, 2) := by decide +kernel
theorem dX9_missed_52 : decode cX9_missed 52 = .ok (.iload 4, 2) := by decide +kernel
theorem dX9_missed_54 : decode cX9_missed 54 = .ok (.invokevirtual 162, 3) := by decide +kernel
theorem dX9_missed_57 : decode cX9_missed 57 = .ok (.pop, 1) := by decide +kernel
theorem dX9_missed_58 : decode cX9_missed 58 = .ok (.aload_n 0, 1) := by decide +kernel
theorem dX9_missed_59 : decode cX9_missed 59 = .ok (.getfield 33, 3) := by decide +kernel
theorem dX9_missed_62 : decode cX9_missed 62 = .ok (.iload 4, 2) := by decide +kernel
theorem dX9_missed_64 : decode cX9_missed 64 = .ok (.invokevirtual 170, 3) := by decide +kernel
theorem dX9_missed_67 : decode cX9_missed 67 = .ok (.aload_n 0, 1) := by decide +kernel
theorem dX9_missed_68 : decode cX9_missed 68 = .ok (.getfield 19, 3) := by decide +kernel
theorem dX9_missed_71 : decode cX9_missed 71 = .ok (.iload 4, 2) := by decide +kernel
theorem dX9_missed_73 : decode cX9_missed 73 = .ok (.invokevirtual 170, 3) := by decide +kernel
theorem dX9_missed_76 : decode cX9_missed 76 = .ok (.isub, 1) := by decide +kernel
theorem dX9_missed_77 : decode cX9_missed 77 = .ok (.istore 5, 2) := by decide +kernel
theorem dX9_missed_79 : decode cX9_missed 79 = .ok (.iload_n 2, 1) := by decide +kernel
theorem dX9_missed_80 : decode cX9_missed 80 = .ok (.iconst (-1), 1) := by decide +kernel
theorem dX9_missed_81 : decode cX9_missed 81 = .ok (.if_icmp .eq 9, 3) := by decide +kernel
theorem dX9_missed_84 : decode cX9_missed 84 = .ok (.iload 5, 2) := by decide +kernel
theorem dX9_missed_86 : decode cX9_missed 86 = .ok (.iload_n 3, 1) := by decide +kernel
theorem dX9_missed_87 : decode cX9_missed 87 = .ok (.if_icmp .ge 9, 3) := by decide +kernel
theorem dX9_missed_90 : decode cX9_missed 90 = .ok (.iload 4, 2) := by decide +kernel
theorem dX9_missed_92 : decode cX9_missed 92 = .ok (.istore_n 2, 1) := by decide +kernel
theorem dX9_missed_93 : decode cX9_missed 93 = .ok (.iload 5, 2) := by decide +kernel
theorem dX9_missed_95 : decode cX9_missed 95 = .ok (.istore_n 3, 1) := by decide +kernel
theorem dX9_missed_96 : decode cX9_missed 96 = .ok (.iinc 4 1, 3) := by decide +kernel
theorem dX9_missed_99 : decode cX9_missed 99 = .ok (.goto (-80), 3) := by decide +kernel
theorem dX9_missed_102 : decode cX9_missed 102 = .ok (.iload_n 1, 1) := by decide +kernel
theorem dX9_missed_103 : decode cX9_missed 103 = .ok (.ifCond .ne 7, 3) := by decide +kernel
theorem dX9_missed_106 : decode cX9_missed 106 = .ok (.iload_n 2, 1) := by decide +kernel
theorem dX9_missed_107 : decode cX9_missed 107 = .ok (.goto 4, 3) := by decide +kernel
theorem dX9_missed_110 : decode cX9_missed 110 = .ok (.iload_n 3, 1) := by decide +kernel
theorem dX9_missed_111 : decode cX9_missed 111 = .ok (.ireturn, 1) := by decide +kernel
theorem dX9_walk_0 : decode cX9_walk 0 = .ok (.aload_n 0, 1) := by decide +kernel
theorem dX9_walk_1 : decode cX9_walk 1 = .ok (.iload_n 1, 1) := by decide +kernel
theorem dX9_walk_2 : decode cX9_walk 2 = .ok (.invokevirtual 86, 3) := by decide +kernel
theorem dX9_walk_5 : decode cX9_walk 5 = .ok (.ifCond .eq 17, 3) := by decide +kernel
theorem dX9_walk_8 : decode cX9_walk 8 = .ok (.iload_n 2, 1) := by decide +kernel
theorem dX9_walk_9 : decode cX9_walk 9 = .ok (.invokestatic 98, 3) := by decide +kernel
theorem dX9_walk_12 : decode cX9_walk 12 = .ok (.ifCond .eq 10, 3) := by decide +kernel
theorem dX9_walk_15 : decode cX9_walk 15 = .ok (.iload_n 3, 1) := by decide +kernel
theorem dX9_walk_16 : decode cX9_walk 16 = .ok (.invokestatic 98, 3) := by decide +kernel
theorem dX9_walk_19 : decode cX9_walk 19 = .ok (.ifCond .ne 6, 3) := by decide +kernel
theorem dX9_walk_22 : decode cX9_walk 22 = .ok (.bipush (-2), 2) := by decide +kernel
theorem dX9_walk_24 : decode cX9_walk 24 = .ok (.ireturn, 1) := by decide +kernel
theorem dX9_walk_25 : decode cX9_walk 25 = .ok (.aload_n 0, 1) := by decide +kernel
theorem dX9_walk_26 : decode cX9_walk 26 = .ok (.getfield 10, 3) := by decide +kernel
theorem dX9_walk_29 : decode cX9_walk 29 = .ok (.iload_n 2, 1) := by decide +kernel
theorem dX9_walk_30 : decode cX9_walk 30 = .ok (.iload_n 3, 1) := by decide +kernel
theorem dX9_walk_31 : decode cX9_walk 31 = .ok (.aload_n 0, 1) := by decide +kernel
theorem dX9_walk_32 : decode cX9_walk 32 = .ok (.getfield 19, 3) := by decide +kernel
theorem dX9_walk_35 : decode cX9_walk 35 = .ok (.getfield 119, 3) := by decide +kernel
theorem dX9_walk_38 : decode cX9_walk 38 = .ok (.iload_n 1, 1) := by decide +kernel
theorem dX9_walk_39 : decode cX9_walk 39 = .ok (.iaload, 1) := by decide +kernel
theorem dX9_walk_40 : decode cX9_walk 40 = .ok (.invokevirtual 194, 3) := by decide +kernel
theorem dX9_walk_43 : decode cX9_walk 43 = .ok (.ireturn, 1) := by decide +kernel
theorem dX9_tells_0 : decode cX9_tells 0 = .ok (.aload_n 0, 1) := by decide +kernel
theorem dX9_tells_1 : decode cX9_tells 1 = .ok (.iload_n 1, 1) := by decide +kernel
theorem dX9_tells_2 : decode cX9_tells 2 = .ok (.invokevirtual 197, 3) := by decide +kernel
theorem dX9_tells_5 : decode cX9_tells 5 = .ok (.astore 4, 2) := by decide +kernel
theorem dX9_tells_7 : decode cX9_tells 7 = .ok (.aload 4, 2) := by decide +kernel
theorem dX9_tells_9 : decode cX9_tells 9 = .ok (.ifnull 20, 3) := by decide +kernel
theorem dX9_tells_12 : decode cX9_tells 12 = .ok (.aload_n 0, 1) := by decide +kernel
theorem dX9_tells_13 : decode cX9_tells 13 = .ok (.iload_n 2, 1) := by decide +kernel
theorem dX9_tells_14 : decode cX9_tells 14 = .ok (.invokevirtual 86, 3) := by decide +kernel
theorem dX9_tells_17 : decode cX9_tells 17 = .ok (.ifCond .eq 12, 3) := by decide +kernel
theorem dX9_tells_20 : decode cX9_tells 20 = .ok (.iload_n 3, 1) := by decide +kernel
theorem dX9_tells_21 : decode cX9_tells 21 = .ok (.ifCond .lt 8, 3) := by decide +kernel
theorem dX9_tells_24 : decode cX9_tells 24 = .ok (.iload_n 3, 1) := by decide +kernel
theorem dX9_tells_25 : decode cX9_tells 25 = .ok (.iconst 5, 1) := by decide +kernel
theorem dX9_tells_26 : decode cX9_tells 26 = .ok (.if_icmp .le 6, 3) := by decide +kernel
theorem dX9_tells_29 : decode cX9_tells 29 = .ok (.bipush (-2), 2) := by decide +kernel
theorem dX9_tells_31 : decode cX9_tells 31 = .ok (.ireturn, 1) := by decide +kernel
theorem dX9_tells_32 : decode cX9_tells 32 = .ok (.aload 4, 2) := by decide +kernel
theorem dX9_tells_34 : decode cX9_tells 34 = .ok (.invokevirtual 201, 3) := by decide +kernel
theorem dX9_tells_37 : decode cX9_tells 37 = .ok (.ifCond .eq 6, 3) := by decide +kernel
theorem dX9_tells_40 : decode cX9_tells 40 = .ok (.bipush (-11), 2) := by decide +kernel
theorem dX9_tells_42 : decode cX9_tells 42 = .ok (.ireturn, 1) := by decide +kernel
theorem dX9_tells_43 : decode cX9_tells 43 = .ok (.aload 4, 2) := by decide +kernel
theorem dX9_tells_45 : decode cX9_tells 45 = .ok (.getfield 205, 3) := by decide +kernel
theorem dX9_tells_48 : decode cX9_tells 48 = .ok (.bipush 8, 2) := by decide +kernel
theorem dX9_tells_50 : decode cX9_tells 50 = .ok (.if_icmp .eq 6, 3) := by decide +kernel
theorem dX9_tells_53 : decode cX9_tells 53 = .ok (.bipush (-2), 2) := by decide +kernel
theorem dX9_tells_55 : decode cX9_tells 55 = .ok (.ireturn, 1) := by decide +kernel
theorem dX9_tells_56 : decode cX9_tells 56 = .ok (.iload_n 3, 1) := by decide +kernel
theorem dX9_tells_57 : decode cX9_tells 57 = .ok (.ifCond .ne 17, 3) := by decide +kernel
theorem dX9_tells_60 : decode cX9_tells 60 = .ok (.aload_n 0, 1) := by decide +kernel
theorem dX9_tells_61 : decode cX9_tells 61 = .ok (.aload 4, 2) := by decide +kernel
theorem dX9_tells_63 : decode cX9_tells 63 = .ok (.aload_n 0, 1) := by decide +kernel
theorem dX9_tells_64 : decode cX9_tells 64 = .ok (.getfield 19, 3) := by decide +kernel
theorem dX9_tells_67 : decode cX9_tells 67 = .ok (.iload_n 2, 1) := by decide +kernel
theorem dX9_tells_68 : decode cX9_tells 68 = .ok (.invokevirtual 206, 3) := by decide +kernel
theorem dX9_tells_71 : decode cX9_tells 71 = .ok (.goto 11, 3) := by decide +kernel
theorem dX9_tells_74 : decode cX9_tells 74 = .ok (.aload_n 0, 1) := by decide +kernel
theorem dX9_tells_75 : decode cX9_tells 75 = .ok (.aload 4, 2) := by decide +kernel
theorem dX9_tells_77 : decode cX9_tells 77 = .ok (.iload_n 2, 1) := by decide +kernel
theorem dX9_tells_78 : decode cX9_tells 78 = .ok (.iload_n 3, 1) := by decide +kernel
theorem dX9_tells_79 : decode cX9_tells 79 = .ok (.invokevirtual 210, 3) := by decide +kernel
theorem dX9_tells_82 : decode cX9_tells 82 = .ok (.ireturn, 1) := by decide +kernel
theorem dX9_firstOtherwise_0 : decode cX9_firstOtherwise 0 = .ok (.iconst 0, 1) := by decide +kernel
theorem dX9_firstOtherwise_1 : decode cX9_firstOtherwise 1 = .ok (.istore 4, 2) := by decide +kernel
theorem dX9_firstOtherwise_3 : decode cX9_firstOtherwise 3 = .ok (.iload 4, 2) := by decide +kernel
theorem dX9_firstOtherwise_5 : decode cX9_firstOtherwise 5 = .ok (.bipush 8, 2) := by decide +kernel
theorem dX9_firstOtherwise_7 : decode cX9_firstOtherwise 7 = .ok (.if_icmp .ge 33, 3) := by decide +kernel
theorem dX9_firstOtherwise_10 : decode cX9_firstOtherwise 10 = .ok (.aload_n 1, 1) := by decide +kernel
theorem dX9_firstOtherwise_11 : decode cX9_firstOtherwise 11 = .ok (.getfield 214, 3) := by decide +kernel
theorem dX9_firstOtherwise_14 : decode cX9_firstOtherwise 14 = .ok (.iload 4, 2) := by decide +kernel
theorem dX9_firstOtherwise_16 : decode cX9_firstOtherwise 16 = .ok (.iaload, 1) := by decide +kernel
theorem dX9_firstOtherwise_17 : decode cX9_firstOtherwise 17 = .ok (.aload_n 0, 1) := by decide +kernel
theorem dX9_firstOtherwise_18 : decode cX9_firstOtherwise 18 = .ok (.getfield 57, 3) := by decide +kernel
theorem dX9_firstOtherwise_21 : decode cX9_firstOtherwise 21 = .ok (.aload_n 2, 1) := by decide +kernel
theorem dX9_firstOtherwise_22 : decode cX9_firstOtherwise 22 = .ok (.iload_n 3, 1) := by decide +kernel
theorem dX9_firstOtherwise_23 : decode cX9_firstOtherwise 23 = .ok (.iload 4, 2) := by decide +kernel
theorem dX9_firstOtherwise_25 : decode cX9_firstOtherwise 25 = .ok (.invokevirtual 129, 3) := by decide +kernel
theorem dX9_firstOtherwise_28 : decode cX9_firstOtherwise 28 = .ok (.if_icmp .eq 6, 3) := by decide +kernel
theorem dX9_firstOtherwise_31 : decode cX9_firstOtherwise 31 = .ok (.iload 4, 2) := by decide +kernel
theorem dX9_firstOtherwise_33 : decode cX9_firstOtherwise 33 = .ok (.ireturn, 1) := by decide +kernel
theorem dX9_firstOtherwise_34 : decode cX9_firstOtherwise 34 = .ok (.iinc 4 1, 3) := by decide +kernel
theorem dX9_firstOtherwise_37 : decode cX9_firstOtherwise 37 = .ok (.goto (-34), 3) := by decide +kernel
theorem dX9_firstOtherwise_40 : decode cX9_firstOtherwise 40 = .ok (.iconst (-1), 1) := by decide +kernel
theorem dX9_firstOtherwise_41 : decode cX9_firstOtherwise 41 = .ok (.ireturn, 1) := by decide +kernel
theorem dX9_couldBe_0 : decode cX9_couldBe 0 = .ok (.aload_n 0, 1) := by decide +kernel
theorem dX9_couldBe_1 : decode cX9_couldBe 1 = .ok (.getfield 33, 3) := by decide +kernel
theorem dX9_couldBe_4 : decode cX9_couldBe 4 = .ok (.aload_n 0, 1) := by decide +kernel
theorem dX9_couldBe_5 : decode cX9_couldBe 5 = .ok (.getfield 19, 3) := by decide +kernel
theorem dX9_couldBe_8 : decode cX9_couldBe 8 = .ok (.invokevirtual 166, 3) := by decide +kernel
theorem dX9_couldBe_11 : decode cX9_couldBe 11 = .ok (.aload_n 0, 1) := by decide +kernel
theorem dX9_couldBe_12 : decode cX9_couldBe 12 = .ok (.iload_n 3, 1) := by decide +kernel
theorem dX9_couldBe_13 : decode cX9_couldBe 13 = .ok (.invokevirtual 217, 3) := by decide +kernel
theorem dX9_couldBe_16 : decode cX9_couldBe 16 = .ok (.istore 4, 2) := by decide +kernel
theorem dX9_couldBe_18 : decode cX9_couldBe 18 = .ok (.iconst 0, 1) := by decide +kernel
theorem dX9_couldBe_19 : decode cX9_couldBe 19 = .ok (.istore 5, 2) := by decide +kernel
theorem dX9_couldBe_21 : decode cX9_couldBe 21 = .ok (.iconst 0, 1) := by decide +kernel
theorem dX9_couldBe_22 : decode cX9_couldBe 22 = .ok (.istore 6, 2) := by decide +kernel
theorem dX9_couldBe_24 : decode cX9_couldBe 24 = .ok (.iload 6, 2) := by decide +kernel
theorem dX9_couldBe_26 : decode cX9_couldBe 26 = .ok (.iload 4, 2) := by decide +kernel
theorem dX9_couldBe_28 : decode cX9_couldBe 28 = .ok (.if_icmp .ge 124, 3) := by decide +kernel
theorem dX9_couldBe_31 : decode cX9_couldBe 31 = .ok (.iload_n 2, 1) := by decide +kernel
theorem dX9_couldBe_32 : decode cX9_couldBe 32 = .ok (.istore 7, 2) := by decide +kernel
theorem dX9_couldBe_34 : decode cX9_couldBe 34 = .ok (.iload_n 3, 1) := by decide +kernel
theorem dX9_couldBe_35 : decode cX9_couldBe 35 = .ok (.tableswitch 83 1 4 #[29, 43, 57, 71], 29) := by decide +kernel
theorem dX9_couldBe_64 : decode cX9_couldBe 64 = .ok (.aload_n 0, 1) := by decide +kernel
theorem dX9_couldBe_65 : decode cX9_couldBe 65 = .ok (.getfield 33, 3) := by decide +kernel
theorem dX9_couldBe_68 : decode cX9_couldBe 68 = .ok (.getfield 220, 3) := by decide +kernel
theorem dX9_couldBe_71 : decode cX9_couldBe 71 = .ok (.iload_n 2, 1) := by decide +kernel
theorem dX9_couldBe_72 : decode cX9_couldBe 72 = .ok (.iload 6, 2) := by decide +kernel
theorem dX9_couldBe_74 : decode cX9_couldBe 74 = .ok (.iastore, 1) := by decide +kernel
theorem dX9_couldBe_75 : decode cX9_couldBe 75 = .ok (.goto 47, 3) := by decide +kernel
theorem dX9_couldBe_78 : decode cX9_couldBe 78 = .ok (.aload_n 0, 1) := by decide +kernel
theorem dX9_couldBe_79 : decode cX9_couldBe 79 = .ok (.getfield 33, 3) := by decide +kernel
theorem dX9_couldBe_82 : decode cX9_couldBe 82 = .ok (.getfield 223, 3) := by decide +kernel
theorem dX9_couldBe_85 : decode cX9_couldBe 85 = .ok (.iload_n 2, 1) := by decide +kernel
theorem dX9_couldBe_86 : decode cX9_couldBe 86 = .ok (.iload 6, 2) := by decide +kernel
theorem dX9_couldBe_88 : decode cX9_couldBe 88 = .ok (.iastore, 1) := by decide +kernel
theorem dX9_couldBe_89 : decode cX9_couldBe 89 = .ok (.goto 33, 3) := by decide +kernel
theorem dX9_couldBe_92 : decode cX9_couldBe 92 = .ok (.aload_n 0, 1) := by decide +kernel
theorem dX9_couldBe_93 : decode cX9_couldBe 93 = .ok (.getfield 33, 3) := by decide +kernel
theorem dX9_couldBe_96 : decode cX9_couldBe 96 = .ok (.getfield 116, 3) := by decide +kernel
theorem dX9_couldBe_99 : decode cX9_couldBe 99 = .ok (.iload_n 2, 1) := by decide +kernel
theorem dX9_couldBe_100 : decode cX9_couldBe 100 = .ok (.iload 6, 2) := by decide +kernel
theorem dX9_couldBe_102 : decode cX9_couldBe 102 = .ok (.iastore, 1) := by decide +kernel
theorem dX9_couldBe_103 : decode cX9_couldBe 103 = .ok (.goto 19, 3) := by decide +kernel
theorem dX9_couldBe_106 : decode cX9_couldBe 106 = .ok (.aload_n 0, 1) := by decide +kernel
theorem dX9_couldBe_107 : decode cX9_couldBe 107 = .ok (.getfield 33, 3) := by decide +kernel
theorem dX9_couldBe_110 : decode cX9_couldBe 110 = .ok (.iload 6, 2) := by decide +kernel
theorem dX9_couldBe_112 : decode cX9_couldBe 112 = .ok (.putfield 148, 3) := by decide +kernel
theorem dX9_couldBe_115 : decode cX9_couldBe 115 = .ok (.goto 7, 3) := by decide +kernel
theorem dX9_couldBe_118 : decode cX9_couldBe 118 = .ok (.iload 6, 2) := by decide +kernel
theorem dX9_couldBe_120 : decode cX9_couldBe 120 = .ok (.istore 7, 2) := by decide +kernel
theorem dX9_couldBe_122 : decode cX9_couldBe 122 = .ok (.aload_n 0, 1) := by decide +kernel
theorem dX9_couldBe_123 : decode cX9_couldBe 123 = .ok (.aload_n 1, 1) := by decide +kernel
theorem dX9_couldBe_124 : decode cX9_couldBe 124 = .ok (.aload_n 0, 1) := by decide +kernel
theorem dX9_couldBe_125 : decode cX9_couldBe 125 = .ok (.getfield 33, 3) := by decide +kernel
theorem dX9_couldBe_128 : decode cX9_couldBe 128 = .ok (.iload 7, 2) := by decide +kernel
theorem dX9_couldBe_130 : decode cX9_couldBe 130 = .ok (.invokevirtual 206, 3) := by decide +kernel
theorem dX9_couldBe_133 : decode cX9_couldBe 133 = .ok (.iconst (-1), 1) := by decide +kernel
theorem dX9_couldBe_134 : decode cX9_couldBe 134 = .ok (.if_icmp .ne 12, 3) := by decide +kernel
theorem dX9_couldBe_137 : decode cX9_couldBe 137 = .ok (.iload 5, 2) := by decide +kernel
theorem dX9_couldBe_139 : decode cX9_couldBe 139 = .ok (.iconst 1, 1) := by decide +kernel
theorem dX9_couldBe_140 : decode cX9_couldBe 140 = .ok (.iload 6, 2) := by decide +kernel
theorem dX9_couldBe_142 : decode cX9_couldBe 142 = .ok (.ishl, 1) := by decide +kernel
theorem dX9_couldBe_143 : decode cX9_couldBe 143 = .ok (.ior, 1) := by decide +kernel
theorem dX9_couldBe_144 : decode cX9_couldBe 144 = .ok (.istore 5, 2) := by decide +kernel
theorem dX9_couldBe_146 : decode cX9_couldBe 146 = .ok (.iinc 6 1, 3) := by decide +kernel
theorem dX9_couldBe_149 : decode cX9_couldBe 149 = .ok (.goto (-125), 3) := by decide +kernel
theorem dX9_couldBe_152 : decode cX9_couldBe 152 = .ok (.iload 5, 2) := by decide +kernel
theorem dX9_couldBe_154 : decode cX9_couldBe 154 = .ok (.ireturn, 1) := by decide +kernel
theorem dX9_choicesOf_0 : decode cX9_choicesOf 0 = .ok (.iload_n 1, 1) := by decide +kernel
theorem dX9_choicesOf_1 : decode cX9_choicesOf 1 = .ok (.tableswitch 48 1 4 #[31, 34, 37, 40], 31) := by decide +kernel
theorem dX9_choicesOf_32 : decode cX9_choicesOf 32 = .ok (.bipush 6, 2) := by decide +kernel
theorem dX9_choicesOf_34 : decode cX9_choicesOf 34 = .ok (.ireturn, 1) := by decide +kernel
theorem dX9_choicesOf_35 : decode cX9_choicesOf 35 = .ok (.bipush 10, 2) := by decide +kernel
theorem dX9_choicesOf_37 : decode cX9_choicesOf 37 = .ok (.ireturn, 1) := by decide +kernel
theorem dX9_choicesOf_38 : decode cX9_choicesOf 38 = .ok (.bipush 8, 2) := by decide +kernel
theorem dX9_choicesOf_40 : decode cX9_choicesOf 40 = .ok (.ireturn, 1) := by decide +kernel
theorem dX9_choicesOf_41 : decode cX9_choicesOf 41 = .ok (.aload_n 0, 1) := by decide +kernel
theorem dX9_choicesOf_42 : decode cX9_choicesOf 42 = .ok (.getfield 48, 3) := by decide +kernel
theorem dX9_choicesOf_45 : decode cX9_choicesOf 45 = .ok (.getfield 142, 3) := by decide +kernel
theorem dX9_choicesOf_48 : decode cX9_choicesOf 48 = .ok (.ireturn, 1) := by decide +kernel
theorem dX9_choicesOf_49 : decode cX9_choicesOf 49 = .ok (.aload_n 0, 1) := by decide +kernel
theorem dX9_choicesOf_50 : decode cX9_choicesOf 50 = .ok (.getfield 19, 3) := by decide +kernel
theorem dX9_choicesOf_53 : decode cX9_choicesOf 53 = .ok (.getfield 165, 3) := by decide +kernel
theorem dX9_choicesOf_56 : decode cX9_choicesOf 56 = .ok (.ireturn, 1) := by decide +kernel
theorem dX9_film_0 : decode cX9_film 0 = .ok (.aload_n 0, 1) := by decide +kernel
theorem dX9_film_1 : decode cX9_film 1 = .ok (.iload_n 1, 1) := by decide +kernel
theorem dX9_film_2 : decode cX9_film 2 = .ok (.invokevirtual 197, 3) := by decide +kernel
theorem dX9_film_5 : decode cX9_film 5 = .ok (.astore_n 3, 1) := by decide +kernel
theorem dX9_film_6 : decode cX9_film 6 = .ok (.aload_n 3, 1) := by decide +kernel
theorem dX9_film_7 : decode cX9_film 7 = .ok (.ifnull 11, 3) := by decide +kernel
theorem dX9_film_10 : decode cX9_film 10 = .ok (.aload_n 0, 1) := by decide +kernel
theorem dX9_film_11 : decode cX9_film 11 = .ok (.iload_n 2, 1) := by decide +kernel
theorem dX9_film_12 : decode cX9_film 12 = .ok (.invokevirtual 86, 3) := by decide +kernel
theorem dX9_film_15 : decode cX9_film 15 = .ok (.ifCond .ne 6, 3) := by decide +kernel
theorem dX9_film_18 : decode cX9_film 18 = .ok (.bipush (-2), 2) := by decide +kernel
theorem dX9_film_20 : decode cX9_film 20 = .ok (.ireturn, 1) := by decide +kernel
theorem dX9_film_21 : decode cX9_film 21 = .ok (.aload_n 3, 1) := by decide +kernel
theorem dX9_film_22 : decode cX9_film 22 = .ok (.iconst 1, 1) := by decide +kernel
theorem dX9_film_23 : decode cX9_film 23 = .ok (.bipush 8, 2) := by decide +kernel
theorem dX9_film_25 : decode cX9_film 25 = .ok (.invokevirtual 226, 3) := by decide +kernel
theorem dX9_film_28 : decode cX9_film 28 = .ok (.iconst 0, 1) := by decide +kernel
theorem dX9_film_29 : decode cX9_film 29 = .ok (.istore 4, 2) := by decide +kernel
theorem dX9_film_31 : decode cX9_film 31 = .ok (.iconst 0, 1) := by decide +kernel
theorem dX9_film_32 : decode cX9_film 32 = .ok (.istore 5, 2) := by decide +kernel
theorem dX9_film_34 : decode cX9_film 34 = .ok (.iload 5, 2) := by decide +kernel
theorem dX9_film_36 : decode cX9_film 36 = .ok (.bipush 8, 2) := by decide +kernel
theorem dX9_film_38 : decode cX9_film 38 = .ok (.if_icmp .ge 40, 3) := by decide +kernel
theorem dX9_film_41 : decode cX9_film 41 = .ok (.aload_n 0, 1) := by decide +kernel
theorem dX9_film_42 : decode cX9_film 42 = .ok (.getfield 57, 3) := by decide +kernel
theorem dX9_film_45 : decode cX9_film 45 = .ok (.aload_n 0, 1) := by decide +kernel
theorem dX9_film_46 : decode cX9_film 46 = .ok (.getfield 19, 3) := by decide +kernel
theorem dX9_film_49 : decode cX9_film 49 = .ok (.iload_n 2, 1) := by decide +kernel
theorem dX9_film_50 : decode cX9_film 50 = .ok (.iload 5, 2) := by decide +kernel
theorem dX9_film_52 : decode cX9_film 52 = .ok (.invokevirtual 129, 3) := by decide +kernel
theorem dX9_film_55 : decode cX9_film 55 = .ok (.istore 6, 2) := by decide +kernel
theorem dX9_film_57 : decode cX9_film 57 = .ok (.aload_n 3, 1) := by decide +kernel
theorem dX9_film_58 : decode cX9_film 58 = .ok (.iload 5, 2) := by decide +kernel
theorem dX9_film_60 : decode cX9_film 60 = .ok (.iload 6, 2) := by decide +kernel
theorem dX9_film_62 : decode cX9_film 62 = .ok (.invokevirtual 229, 3) := by decide +kernel
theorem dX9_film_65 : decode cX9_film 65 = .ok (.iload 4, 2) := by decide +kernel
theorem dX9_film_67 : decode cX9_film 67 = .ok (.iload 6, 2) := by decide +kernel
theorem dX9_film_69 : decode cX9_film 69 = .ok (.iadd, 1) := by decide +kernel
theorem dX9_film_70 : decode cX9_film 70 = .ok (.istore 4, 2) := by decide +kernel
theorem dX9_film_72 : decode cX9_film 72 = .ok (.iinc 5 1, 3) := by decide +kernel
theorem dX9_film_75 : decode cX9_film 75 = .ok (.goto (-41), 3) := by decide +kernel
theorem dX9_film_78 : decode cX9_film 78 = .ok (.iload 4, 2) := by decide +kernel
theorem dX9_film_80 : decode cX9_film 80 = .ok (.ireturn, 1) := by decide +kernel
theorem dX9_drawn_0 : decode cX9_drawn 0 = .ok (.aload_n 0, 1) := by decide +kernel
theorem dX9_drawn_1 : decode cX9_drawn 1 = .ok (.getfield 33, 3) := by decide +kernel
theorem dX9_drawn_4 : decode cX9_drawn 4 = .ok (.aload_n 0, 1) := by decide +kernel
theorem dX9_drawn_5 : decode cX9_drawn 5 = .ok (.getfield 19, 3) := by decide +kernel
theorem dX9_drawn_8 : decode cX9_drawn 8 = .ok (.invokevirtual 166, 3) := by decide +kernel
theorem dX9_drawn_11 : decode cX9_drawn 11 = .ok (.iload_n 1, 1) := by decide +kernel
theorem dX9_drawn_12 : decode cX9_drawn 12 = .ok (.istore_n 2, 1) := by decide +kernel
theorem dX9_drawn_13 : decode cX9_drawn 13 = .ok (.iconst 0, 1) := by decide +kernel
theorem dX9_drawn_14 : decode cX9_drawn 14 = .ok (.istore_n 3, 1) := by decide +kernel
theorem dX9_drawn_15 : decode cX9_drawn 15 = .ok (.iload_n 3, 1) := by decide +kernel
theorem dX9_drawn_16 : decode cX9_drawn 16 = .ok (.aload_n 0, 1) := by decide +kernel
theorem dX9_drawn_17 : decode cX9_drawn 17 = .ok (.getfield 33, 3) := by decide +kernel
theorem dX9_drawn_20 : decode cX9_drawn 20 = .ok (.getfield 165, 3) := by decide +kernel
theorem dX9_drawn_23 : decode cX9_drawn 23 = .ok (.if_icmp .ge 35, 3) := by decide +kernel
theorem dX9_drawn_26 : decode cX9_drawn 26 = .ok (.iload_n 2, 1) := by decide +kernel
theorem dX9_drawn_27 : decode cX9_drawn 27 = .ok (.ldc 232, 2) := by decide +kernel
theorem dX9_drawn_29 : decode cX9_drawn 29 = .ok (.imul, 1) := by decide +kernel
theorem dX9_drawn_30 : decode cX9_drawn 30 = .ok (.sipush 12345, 3) := by decide +kernel
theorem dX9_drawn_33 : decode cX9_drawn 33 = .ok (.iadd, 1) := by decide +kernel
theorem dX9_drawn_34 : decode cX9_drawn 34 = .ok (.istore_n 2, 1) := by decide +kernel
theorem dX9_drawn_35 : decode cX9_drawn 35 = .ok (.aload_n 0, 1) := by decide +kernel
theorem dX9_drawn_36 : decode cX9_drawn 36 = .ok (.getfield 33, 3) := by decide +kernel
theorem dX9_drawn_39 : decode cX9_drawn 39 = .ok (.getfield 119, 3) := by decide +kernel
theorem dX9_drawn_42 : decode cX9_drawn 42 = .ok (.iload_n 3, 1) := by decide +kernel
theorem dX9_drawn_43 : decode cX9_drawn 43 = .ok (.iload_n 2, 1) := by decide +kernel
theorem dX9_drawn_44 : decode cX9_drawn 44 = .ok (.bipush 9, 2) := by decide +kernel
theorem dX9_drawn_46 : decode cX9_drawn 46 = .ok (.iushr, 1) := by decide +kernel
theorem dX9_drawn_47 : decode cX9_drawn 47 = .ok (.sipush 256, 3) := by decide +kernel
theorem dX9_drawn_50 : decode cX9_drawn 50 = .ok (.irem, 1) := by decide +kernel
theorem dX9_drawn_51 : decode cX9_drawn 51 = .ok (.iastore, 1) := by decide +kernel
theorem dX9_drawn_52 : decode cX9_drawn 52 = .ok (.iinc 3 1, 3) := by decide +kernel
theorem dX9_drawn_55 : decode cX9_drawn 55 = .ok (.goto (-40), 3) := by decide +kernel
theorem dX9_drawn_58 : decode cX9_drawn 58 = .ok (.aload_n 0, 1) := by decide +kernel
theorem dX9_drawn_59 : decode cX9_drawn 59 = .ok (.getfield 57, 3) := by decide +kernel
theorem dX9_drawn_62 : decode cX9_drawn 62 = .ok (.aload_n 0, 1) := by decide +kernel
theorem dX9_drawn_63 : decode cX9_drawn 63 = .ok (.getfield 33, 3) := by decide +kernel
theorem dX9_drawn_66 : decode cX9_drawn 66 = .ok (.iconst 5, 1) := by decide +kernel
theorem dX9_drawn_67 : decode cX9_drawn 67 = .ok (.iconst (-1), 1) := by decide +kernel
theorem dX9_drawn_68 : decode cX9_drawn 68 = .ok (.invokevirtual 162, 3) := by decide +kernel
theorem dX9_drawn_71 : decode cX9_drawn 71 = .ok (.pop, 1) := by decide +kernel
theorem dX9_drawn_72 : decode cX9_drawn 72 = .ok (.aload_n 0, 1) := by decide +kernel
theorem dX9_drawn_73 : decode cX9_drawn 73 = .ok (.getfield 33, 3) := by decide +kernel
theorem dX9_drawn_76 : decode cX9_drawn 76 = .ok (.iconst (-1), 1) := by decide +kernel
theorem dX9_drawn_77 : decode cX9_drawn 77 = .ok (.invokevirtual 170, 3) := by decide +kernel
theorem dX9_drawn_80 : decode cX9_drawn 80 = .ok (.ireturn, 1) := by decide +kernel
theorem dX9_chance_0 : decode cX9_chance 0 = .ok (.iload_n 2, 1) := by decide +kernel
theorem dX9_chance_1 : decode cX9_chance 1 = .ok (.iconst 1, 1) := by decide +kernel
theorem dX9_chance_2 : decode cX9_chance 2 = .ok (.if_icmp .lt 30, 3) := by decide +kernel
theorem dX9_chance_5 : decode cX9_chance 5 = .ok (.iload_n 2, 1) := by decide +kernel
theorem dX9_chance_6 : decode cX9_chance 6 = .ok (.bipush 20, 2) := by decide +kernel
theorem dX9_chance_8 : decode cX9_chance 8 = .ok (.if_icmp .gt 24, 3) := by decide +kernel
theorem dX9_chance_11 : decode cX9_chance 11 = .ok (.iload_n 3, 1) := by decide +kernel
theorem dX9_chance_12 : decode cX9_chance 12 = .ok (.ifCond .lt 20, 3) := by decide +kernel
theorem dX9_chance_15 : decode cX9_chance 15 = .ok (.iload_n 3, 1) := by decide +kernel
theorem dX9_chance_16 : decode cX9_chance 16 = .ok (.bipush 48, 2) := by decide +kernel
theorem dX9_chance_18 : decode cX9_chance 18 = .ok (.if_icmp .gt 14, 3) := by decide +kernel
theorem dX9_chance_21 : decode cX9_chance 21 = .ok (.iload 4, 2) := by decide +kernel
theorem dX9_chance_23 : decode cX9_chance 23 = .ok (.ifCond .lt 9, 3) := by decide +kernel
theorem dX9_chance_26 : decode cX9_chance 26 = .ok (.iload 4, 2) := by decide +kernel
theorem dX9_chance_28 : decode cX9_chance 28 = .ok (.iconst 1, 1) := by decide +kernel
theorem dX9_chance_29 : decode cX9_chance 29 = .ok (.if_icmp .le 7, 3) := by decide +kernel
theorem dX9_chance_32 : decode cX9_chance 32 = .ok (.ldc2_w 233, 3) := by decide +kernel
theorem dX9_chance_35 : decode cX9_chance 35 = .ok (.lreturn, 1) := by decide +kernel
theorem dX9_chance_36 : decode cX9_chance 36 = .ok (.iconst 0, 1) := by decide +kernel
theorem dX9_chance_37 : decode cX9_chance 37 = .ok (.istore 5, 2) := by decide +kernel
theorem dX9_chance_39 : decode cX9_chance 39 = .ok (.iconst 0, 1) := by decide +kernel
theorem dX9_chance_40 : decode cX9_chance 40 = .ok (.istore 6, 2) := by decide +kernel
theorem dX9_chance_42 : decode cX9_chance 42 = .ok (.iload 6, 2) := by decide +kernel
theorem dX9_chance_44 : decode cX9_chance 44 = .ok (.iload_n 2, 1) := by decide +kernel
theorem dX9_chance_45 : decode cX9_chance 45 = .ok (.if_icmp .ge 24, 3) := by decide +kernel
theorem dX9_chance_48 : decode cX9_chance 48 = .ok (.aload_n 0, 1) := by decide +kernel
theorem dX9_chance_49 : decode cX9_chance 49 = .ok (.iload_n 1, 1) := by decide +kernel
theorem dX9_chance_50 : decode cX9_chance 50 = .ok (.iload 6, 2) := by decide +kernel
theorem dX9_chance_52 : decode cX9_chance 52 = .ok (.iadd, 1) := by decide +kernel
theorem dX9_chance_53 : decode cX9_chance 53 = .ok (.invokevirtual 235, 3) := by decide +kernel
theorem dX9_chance_56 : decode cX9_chance 56 = .ok (.iload_n 3, 1) := by decide +kernel
theorem dX9_chance_57 : decode cX9_chance 57 = .ok (.if_icmp .lt 6, 3) := by decide +kernel
theorem dX9_chance_60 : decode cX9_chance 60 = .ok (.iinc 5 1, 3) := by decide +kernel
theorem dX9_chance_63 : decode cX9_chance 63 = .ok (.iinc 6 1, 3) := by decide +kernel
theorem dX9_chance_66 : decode cX9_chance 66 = .ok (.goto (-24), 3) := by decide +kernel
theorem dX9_chance_69 : decode cX9_chance 69 = .ok (.iload 5, 2) := by decide +kernel
theorem dX9_chance_71 : decode cX9_chance 71 = .ok (.iload_n 2, 1) := by decide +kernel
theorem dX9_chance_72 : decode cX9_chance 72 = .ok (.invokestatic 238, 3) := by decide +kernel
theorem dX9_chance_75 : decode cX9_chance 75 = .ok (.istore 6, 2) := by decide +kernel
theorem dX9_chance_77 : decode cX9_chance 77 = .ok (.iload 4, 2) := by decide +kernel
theorem dX9_chance_79 : decode cX9_chance 79 = .ok (.ifCond .ne 12, 3) := by decide +kernel
theorem dX9_chance_82 : decode cX9_chance 82 = .ok (.iload 5, 2) := by decide +kernel
theorem dX9_chance_84 : decode cX9_chance 84 = .ok (.iload 6, 2) := by decide +kernel
theorem dX9_chance_86 : decode cX9_chance 86 = .ok (.idiv, 1) := by decide +kernel
theorem dX9_chance_87 : decode cX9_chance 87 = .ok (.i2l, 1) := by decide +kernel
theorem dX9_chance_88 : decode cX9_chance 88 = .ok (.goto 8, 3) := by decide +kernel
theorem dX9_chance_91 : decode cX9_chance 91 = .ok (.iload_n 2, 1) := by decide +kernel
theorem dX9_chance_92 : decode cX9_chance 92 = .ok (.iload 6, 2) := by decide +kernel
theorem dX9_chance_94 : decode cX9_chance 94 = .ok (.idiv, 1) := by decide +kernel
theorem dX9_chance_95 : decode cX9_chance 95 = .ok (.i2l, 1) := by decide +kernel
theorem dX9_chance_96 : decode cX9_chance 96 = .ok (.lreturn, 1) := by decide +kernel
theorem dX9_greatestDivisor_0 : decode cX9_greatestDivisor 0 = .ok (.iload_n 1, 1) := by decide +kernel
theorem dX9_greatestDivisor_1 : decode cX9_greatestDivisor 1 = .ok (.istore_n 2, 1) := by decide +kernel
theorem dX9_greatestDivisor_2 : decode cX9_greatestDivisor 2 = .ok (.iload_n 2, 1) := by decide +kernel
theorem dX9_greatestDivisor_3 : decode cX9_greatestDivisor 3 = .ok (.iconst 1, 1) := by decide +kernel
theorem dX9_greatestDivisor_4 : decode cX9_greatestDivisor 4 = .ok (.if_icmp .le 23, 3) := by decide +kernel
theorem dX9_greatestDivisor_7 : decode cX9_greatestDivisor 7 = .ok (.iload_n 0, 1) := by decide +kernel
theorem dX9_greatestDivisor_8 : decode cX9_greatestDivisor 8 = .ok (.iload_n 2, 1) := by decide +kernel
theorem dX9_greatestDivisor_9 : decode cX9_greatestDivisor 9 = .ok (.irem, 1) := by decide +kernel
theorem dX9_greatestDivisor_10 : decode cX9_greatestDivisor 10 = .ok (.ifCond .ne 11, 3) := by decide +kernel
theorem dX9_greatestDivisor_13 : decode cX9_greatestDivisor 13 = .ok (.iload_n 1, 1) := by decide +kernel
theorem dX9_greatestDivisor_14 : decode cX9_greatestDivisor 14 = .ok (.iload_n 2, 1) := by decide +kernel
theorem dX9_greatestDivisor_15 : decode cX9_greatestDivisor 15 = .ok (.irem, 1) := by decide +kernel
theorem dX9_greatestDivisor_16 : decode cX9_greatestDivisor 16 = .ok (.ifCond .ne 5, 3) := by decide +kernel
theorem dX9_greatestDivisor_19 : decode cX9_greatestDivisor 19 = .ok (.iload_n 2, 1) := by decide +kernel
theorem dX9_greatestDivisor_20 : decode cX9_greatestDivisor 20 = .ok (.ireturn, 1) := by decide +kernel
theorem dX9_greatestDivisor_21 : decode cX9_greatestDivisor 21 = .ok (.iinc 2 (-1), 3) := by decide +kernel
theorem dX9_greatestDivisor_24 : decode cX9_greatestDivisor 24 = .ok (.goto (-22), 3) := by decide +kernel
theorem dX9_greatestDivisor_27 : decode cX9_greatestDivisor 27 = .ok (.iconst 1, 1) := by decide +kernel
theorem dX9_greatestDivisor_28 : decode cX9_greatestDivisor 28 = .ok (.ireturn, 1) := by decide +kernel
theorem dX9_image_0 : decode cX9_image 0 = .ok (.aload_n 0, 1) := by decide +kernel
theorem dX9_image_1 : decode cX9_image 1 = .ok (.getfield 23, 3) := by decide +kernel
theorem dX9_image_4 : decode cX9_image 4 = .ok (.aload_n 0, 1) := by decide +kernel
theorem dX9_image_5 : decode cX9_image 5 = .ok (.getfield 10, 3) := by decide +kernel
theorem dX9_image_8 : decode cX9_image 8 = .ok (.invokevirtual 241, 3) := by decide +kernel
theorem dX9_image_11 : decode cX9_image 11 = .ok (.aload_n 0, 1) := by decide +kernel
theorem dX9_image_12 : decode cX9_image 12 = .ok (.getfield 26, 3) := by decide +kernel
theorem dX9_image_15 : decode cX9_image 15 = .ok (.aload_n 0, 1) := by decide +kernel
theorem dX9_image_16 : decode cX9_image 16 = .ok (.getfield 19, 3) := by decide +kernel
theorem dX9_image_19 : decode cX9_image 19 = .ok (.invokevirtual 166, 3) := by decide +kernel
theorem dX9_image_22 : decode cX9_image 22 = .ok (.aload_n 0, 1) := by decide +kernel
theorem dX9_image_23 : decode cX9_image 23 = .ok (.iconst 1, 1) := by decide +kernel
theorem dX9_image_24 : decode cX9_image 24 = .ok (.putfield 29, 3) := by decide +kernel
theorem dX9_image_27 : decode cX9_image 27 = .ok (.aload_n 0, 1) := by decide +kernel
theorem dX9_image_28 : decode cX9_image 28 = .ok (.getfield 19, 3) := by decide +kernel
theorem dX9_image_31 : decode cX9_image 31 = .ok (.getfield 165, 3) := by decide +kernel
theorem dX9_image_34 : decode cX9_image 34 = .ok (.ireturn, 1) := by decide +kernel
theorem dX9_back_0 : decode cX9_back 0 = .ok (.aload_n 0, 1) := by decide +kernel
theorem dX9_back_1 : decode cX9_back 1 = .ok (.getfield 29, 3) := by decide +kernel
theorem dX9_back_4 : decode cX9_back 4 = .ok (.ifCond .ne 6, 3) := by decide +kernel
theorem dX9_back_7 : decode cX9_back 7 = .ok (.bipush (-3), 2) := by decide +kernel
theorem dX9_back_9 : decode cX9_back 9 = .ok (.ireturn, 1) := by decide +kernel
theorem dX9_back_10 : decode cX9_back 10 = .ok (.aload_n 0, 1) := by decide +kernel
theorem dX9_back_11 : decode cX9_back 11 = .ok (.getfield 10, 3) := by decide +kernel
theorem dX9_back_14 : decode cX9_back 14 = .ok (.aload_n 0, 1) := by decide +kernel
theorem dX9_back_15 : decode cX9_back 15 = .ok (.getfield 23, 3) := by decide +kernel
theorem dX9_back_18 : decode cX9_back 18 = .ok (.invokevirtual 241, 3) := by decide +kernel
theorem dX9_back_21 : decode cX9_back 21 = .ok (.aload_n 0, 1) := by decide +kernel
theorem dX9_back_22 : decode cX9_back 22 = .ok (.getfield 19, 3) := by decide +kernel
theorem dX9_back_25 : decode cX9_back 25 = .ok (.aload_n 0, 1) := by decide +kernel
theorem dX9_back_26 : decode cX9_back 26 = .ok (.getfield 26, 3) := by decide +kernel
theorem dX9_back_29 : decode cX9_back 29 = .ok (.invokevirtual 166, 3) := by decide +kernel
theorem dX9_back_32 : decode cX9_back 32 = .ok (.aload_n 0, 1) := by decide +kernel
theorem dX9_back_33 : decode cX9_back 33 = .ok (.getfield 19, 3) := by decide +kernel
theorem dX9_back_36 : decode cX9_back 36 = .ok (.getfield 165, 3) := by decide +kernel
theorem dX9_back_39 : decode cX9_back 39 = .ok (.ireturn, 1) := by decide +kernel
theorem dX9_count_0 : decode cX9_count 0 = .ok (.iload_n 1, 1) := by decide +kernel
theorem dX9_count_1 : decode cX9_count 1 = .ok (.tableswitch 87 0 5 #[39, 47, 55, 63, 71, 79], 39) := by decide +kernel
theorem dX9_count_40 : decode cX9_count 40 = .ok (.aload_n 0, 1) := by decide +kernel
theorem dX9_count_41 : decode cX9_count 41 = .ok (.getfield 19, 3) := by decide +kernel
theorem dX9_count_44 : decode cX9_count 44 = .ok (.getfield 165, 3) := by decide +kernel
theorem dX9_count_47 : decode cX9_count 47 = .ok (.ireturn, 1) := by decide +kernel
theorem dX9_count_48 : decode cX9_count 48 = .ok (.aload_n 0, 1) := by decide +kernel
theorem dX9_count_49 : decode cX9_count 49 = .ok (.getfield 10, 3) := by decide +kernel
theorem dX9_count_52 : decode cX9_count 52 = .ok (.invokevirtual 243, 3) := by decide +kernel
theorem dX9_count_55 : decode cX9_count 55 = .ok (.ireturn, 1) := by decide +kernel
theorem dX9_count_56 : decode cX9_count 56 = .ok (.aload_n 0, 1) := by decide +kernel
theorem dX9_count_57 : decode cX9_count 57 = .ok (.getfield 19, 3) := by decide +kernel
theorem dX9_count_60 : decode cX9_count 60 = .ok (.invokevirtual 173, 3) := by decide +kernel
theorem dX9_count_63 : decode cX9_count 63 = .ok (.ireturn, 1) := by decide +kernel
theorem dX9_count_64 : decode cX9_count 64 = .ok (.aload_n 0, 1) := by decide +kernel
theorem dX9_count_65 : decode cX9_count 65 = .ok (.getfield 48, 3) := by decide +kernel
theorem dX9_count_68 : decode cX9_count 68 = .ok (.getfield 142, 3) := by decide +kernel
theorem dX9_count_71 : decode cX9_count 71 = .ok (.ireturn, 1) := by decide +kernel
theorem dX9_count_72 : decode cX9_count 72 = .ok (.aload_n 0, 1) := by decide +kernel
theorem dX9_count_73 : decode cX9_count 73 = .ok (.getfield 39, 3) := by decide +kernel
theorem dX9_count_76 : decode cX9_count 76 = .ok (.getfield 245, 3) := by decide +kernel
theorem dX9_count_79 : decode cX9_count 79 = .ok (.ireturn, 1) := by decide +kernel
theorem dX9_count_80 : decode cX9_count 80 = .ok (.aload_n 0, 1) := by decide +kernel
theorem dX9_count_81 : decode cX9_count 81 = .ok (.getfield 19, 3) := by decide +kernel
theorem dX9_count_84 : decode cX9_count 84 = .ok (.getfield 148, 3) := by decide +kernel
theorem dX9_count_87 : decode cX9_count 87 = .ok (.ireturn, 1) := by decide +kernel
theorem dX9_count_88 : decode cX9_count 88 = .ok (.bipush (-2), 2) := by decide +kernel
theorem dX9_count_90 : decode cX9_count 90 = .ok (.ireturn, 1) := by decide +kernel
theorem dX9_sheet_0 : decode cX9_sheet 0 = .ok (.aload_n 0, 1) := by decide +kernel
theorem dX9_sheet_1 : decode cX9_sheet 1 = .ok (.iload_n 1, 1) := by decide +kernel
theorem dX9_sheet_2 : decode cX9_sheet 2 = .ok (.invokevirtual 197, 3) := by decide +kernel
theorem dX9_sheet_5 : decode cX9_sheet 5 = .ok (.astore 4, 2) := by decide +kernel
theorem dX9_sheet_7 : decode cX9_sheet 7 = .ok (.aload 4, 2) := by decide +kernel
theorem dX9_sheet_9 : decode cX9_sheet 9 = .ok (.ifnull 13, 3) := by decide +kernel
theorem dX9_sheet_12 : decode cX9_sheet 12 = .ok (.iload_n 2, 1) := by decide +kernel
theorem dX9_sheet_13 : decode cX9_sheet 13 = .ok (.iconst (-1), 1) := by decide +kernel
theorem dX9_sheet_14 : decode cX9_sheet 14 = .ok (.if_icmp .lt 8, 3) := by decide +kernel
theorem dX9_sheet_17 : decode cX9_sheet 17 = .ok (.iload_n 2, 1) := by decide +kernel
theorem dX9_sheet_18 : decode cX9_sheet 18 = .ok (.iconst 2, 1) := by decide +kernel
theorem dX9_sheet_19 : decode cX9_sheet 19 = .ok (.if_icmp .le 6, 3) := by decide +kernel
theorem dX9_sheet_22 : decode cX9_sheet 22 = .ok (.bipush (-2), 2) := by decide +kernel
theorem dX9_sheet_24 : decode cX9_sheet 24 = .ok (.ireturn, 1) := by decide +kernel
theorem dX9_sheet_25 : decode cX9_sheet 25 = .ok (.iload_n 2, 1) := by decide +kernel
theorem dX9_sheet_26 : decode cX9_sheet 26 = .ok (.iconst (-1), 1) := by decide +kernel
theorem dX9_sheet_27 : decode cX9_sheet 27 = .ok (.if_icmp .ne 12, 3) := by decide +kernel
theorem dX9_sheet_30 : decode cX9_sheet 30 = .ok (.aload 4, 2) := by decide +kernel
theorem dX9_sheet_32 : decode cX9_sheet 32 = .ok (.iconst (-1), 1) := by decide +kernel
theorem dX9_sheet_33 : decode cX9_sheet 33 = .ok (.iconst 0, 1) := by decide +kernel
theorem dX9_sheet_34 : decode cX9_sheet 34 = .ok (.invokevirtual 226, 3) := by decide +kernel
theorem dX9_sheet_37 : decode cX9_sheet 37 = .ok (.iconst 1, 1) := by decide +kernel
theorem dX9_sheet_38 : decode cX9_sheet 38 = .ok (.ireturn, 1) := by decide +kernel
theorem dX9_sheet_39 : decode cX9_sheet 39 = .ok (.iload_n 3, 1) := by decide +kernel
theorem dX9_sheet_40 : decode cX9_sheet 40 = .ok (.bipush 40, 2) := by decide +kernel
theorem dX9_sheet_42 : decode cX9_sheet 42 = .ok (.if_icmp .le 6, 3) := by decide +kernel
theorem dX9_sheet_45 : decode cX9_sheet 45 = .ok (.bipush (-2), 2) := by decide +kernel
theorem dX9_sheet_47 : decode cX9_sheet 47 = .ok (.ireturn, 1) := by decide +kernel
theorem dX9_sheet_48 : decode cX9_sheet 48 = .ok (.iload_n 3, 1) := by decide +kernel
theorem dX9_sheet_49 : decode cX9_sheet 49 = .ok (.ifCond .ge 6, 3) := by decide +kernel
theorem dX9_sheet_52 : decode cX9_sheet 52 = .ok (.bipush (-14), 2) := by decide +kernel
theorem dX9_sheet_54 : decode cX9_sheet 54 = .ok (.ireturn, 1) := by decide +kernel
theorem dX9_sheet_55 : decode cX9_sheet 55 = .ok (.aload 4, 2) := by decide +kernel
theorem dX9_sheet_57 : decode cX9_sheet 57 = .ok (.iload_n 2, 1) := by decide +kernel
theorem dX9_sheet_58 : decode cX9_sheet 58 = .ok (.iload_n 3, 1) := by decide +kernel
theorem dX9_sheet_59 : decode cX9_sheet 59 = .ok (.invokevirtual 226, 3) := by decide +kernel
theorem dX9_sheet_62 : decode cX9_sheet 62 = .ok (.iconst 1, 1) := by decide +kernel
theorem dX9_sheet_63 : decode cX9_sheet 63 = .ok (.ireturn, 1) := by decide +kernel
theorem dX9_cell_0 : decode cX9_cell 0 = .ok (.aload_n 0, 1) := by decide +kernel
theorem dX9_cell_1 : decode cX9_cell 1 = .ok (.iload_n 1, 1) := by decide +kernel
theorem dX9_cell_2 : decode cX9_cell 2 = .ok (.invokevirtual 197, 3) := by decide +kernel
theorem dX9_cell_5 : decode cX9_cell 5 = .ok (.astore 4, 2) := by decide +kernel
theorem dX9_cell_7 : decode cX9_cell 7 = .ok (.aload 4, 2) := by decide +kernel
theorem dX9_cell_9 : decode cX9_cell 9 = .ok (.ifnonnull 6, 3) := by decide +kernel
theorem dX9_cell_12 : decode cX9_cell 12 = .ok (.bipush (-2), 2) := by decide +kernel
theorem dX9_cell_14 : decode cX9_cell 14 = .ok (.ireturn, 1) := by decide +kernel
theorem dX9_cell_15 : decode cX9_cell 15 = .ok (.aload 4, 2) := by decide +kernel
theorem dX9_cell_17 : decode cX9_cell 17 = .ok (.invokevirtual 201, 3) := by decide +kernel
theorem dX9_cell_20 : decode cX9_cell 20 = .ok (.ifCond .eq 6, 3) := by decide +kernel
theorem dX9_cell_23 : decode cX9_cell 23 = .ok (.bipush (-11), 2) := by decide +kernel
theorem dX9_cell_25 : decode cX9_cell 25 = .ok (.ireturn, 1) := by decide +kernel
theorem dX9_cell_26 : decode cX9_cell 26 = .ok (.aload 4, 2) := by decide +kernel
theorem dX9_cell_28 : decode cX9_cell 28 = .ok (.iload_n 2, 1) := by decide +kernel
theorem dX9_cell_29 : decode cX9_cell 29 = .ok (.iconst 1, 1) := by decide +kernel
theorem dX9_cell_30 : decode cX9_cell 30 = .ok (.invokevirtual 246, 3) := by decide +kernel
theorem dX9_cell_33 : decode cX9_cell 33 = .ok (.ifCond .ne 6, 3) := by decide +kernel
theorem dX9_cell_36 : decode cX9_cell 36 = .ok (.bipush (-12), 2) := by decide +kernel
theorem dX9_cell_38 : decode cX9_cell 38 = .ok (.ireturn, 1) := by decide +kernel
theorem dX9_cell_39 : decode cX9_cell 39 = .ok (.aload 4, 2) := by decide +kernel
theorem dX9_cell_41 : decode cX9_cell 41 = .ok (.iload_n 2, 1) := by decide +kernel
theorem dX9_cell_42 : decode cX9_cell 42 = .ok (.iload_n 3, 1) := by decide +kernel
theorem dX9_cell_43 : decode cX9_cell 43 = .ok (.invokevirtual 229, 3) := by decide +kernel
theorem dX9_cell_46 : decode cX9_cell 46 = .ok (.iconst 1, 1) := by decide +kernel
theorem dX9_cell_47 : decode cX9_cell 47 = .ok (.ireturn, 1) := by decide +kernel
theorem dX9_copy_0 : decode cX9_copy 0 = .ok (.aload_n 0, 1) := by decide +kernel
theorem dX9_copy_1 : decode cX9_copy 1 = .ok (.iload_n 1, 1) := by decide +kernel
theorem dX9_copy_2 : decode cX9_copy 2 = .ok (.invokevirtual 197, 3) := by decide +kernel
theorem dX9_copy_5 : decode cX9_copy 5 = .ok (.astore 6, 2) := by decide +kernel
theorem dX9_copy_7 : decode cX9_copy 7 = .ok (.aload_n 0, 1) := by decide +kernel
theorem dX9_copy_8 : decode cX9_copy 8 = .ok (.iload_n 3, 1) := by decide +kernel
theorem dX9_copy_9 : decode cX9_copy 9 = .ok (.invokevirtual 197, 3) := by decide +kernel
theorem dX9_copy_12 : decode cX9_copy 12 = .ok (.astore 7, 2) := by decide +kernel
theorem dX9_copy_14 : decode cX9_copy 14 = .ok (.aload 6, 2) := by decide +kernel
theorem dX9_copy_16 : decode cX9_copy 16 = .ok (.ifnull 8, 3) := by decide +kernel
theorem dX9_copy_19 : decode cX9_copy 19 = .ok (.aload 7, 2) := by decide +kernel
theorem dX9_copy_21 : decode cX9_copy 21 = .ok (.ifnonnull 6, 3) := by decide +kernel
theorem dX9_copy_24 : decode cX9_copy 24 = .ok (.bipush (-2), 2) := by decide +kernel
theorem dX9_copy_26 : decode cX9_copy 26 = .ok (.ireturn, 1) := by decide +kernel
theorem dX9_copy_27 : decode cX9_copy 27 = .ok (.aload 6, 2) := by decide +kernel
theorem dX9_copy_29 : decode cX9_copy 29 = .ok (.invokevirtual 201, 3) := by decide +kernel
theorem dX9_copy_32 : decode cX9_copy 32 = .ok (.ifCond .ne 11, 3) := by decide +kernel
theorem dX9_copy_35 : decode cX9_copy 35 = .ok (.aload 7, 2) := by decide +kernel
theorem dX9_copy_37 : decode cX9_copy 37 = .ok (.invokevirtual 201, 3) := by decide +kernel
theorem dX9_copy_40 : decode cX9_copy 40 = .ok (.ifCond .eq 6, 3) := by decide +kernel
theorem dX9_copy_43 : decode cX9_copy 43 = .ok (.bipush (-11), 2) := by decide +kernel
theorem dX9_copy_45 : decode cX9_copy 45 = .ok (.ireturn, 1) := by decide +kernel
theorem dX9_copy_46 : decode cX9_copy 46 = .ok (.aload 6, 2) := by decide +kernel
theorem dX9_copy_48 : decode cX9_copy 48 = .ok (.getfield 249, 3) := by decide +kernel
theorem dX9_copy_51 : decode cX9_copy 51 = .ok (.aload 7, 2) := by decide +kernel
theorem dX9_copy_53 : decode cX9_copy 53 = .ok (.getfield 249, 3) := by decide +kernel
theorem dX9_copy_56 : decode cX9_copy 56 = .ok (.if_icmp .eq 6, 3) := by decide +kernel
theorem dX9_copy_59 : decode cX9_copy 59 = .ok (.bipush (-13), 2) := by decide +kernel
theorem dX9_copy_61 : decode cX9_copy 61 = .ok (.ireturn, 1) := by decide +kernel
theorem dX9_copy_62 : decode cX9_copy 62 = .ok (.aload 6, 2) := by decide +kernel
theorem dX9_copy_64 : decode cX9_copy 64 = .ok (.iload_n 2, 1) := by decide +kernel
theorem dX9_copy_65 : decode cX9_copy 65 = .ok (.iload 5, 2) := by decide +kernel
theorem dX9_copy_67 : decode cX9_copy 67 = .ok (.invokevirtual 246, 3) := by decide +kernel
theorem dX9_copy_70 : decode cX9_copy 70 = .ok (.ifCond .eq 15, 3) := by decide +kernel
theorem dX9_copy_73 : decode cX9_copy 73 = .ok (.aload 7, 2) := by decide +kernel
theorem dX9_copy_75 : decode cX9_copy 75 = .ok (.iload 4, 2) := by decide +kernel
theorem dX9_copy_77 : decode cX9_copy 77 = .ok (.iload 5, 2) := by decide +kernel
theorem dX9_copy_79 : decode cX9_copy 79 = .ok (.invokevirtual 246, 3) := by decide +kernel
theorem dX9_copy_82 : decode cX9_copy 82 = .ok (.ifCond .ne 6, 3) := by decide +kernel
theorem dX9_copy_85 : decode cX9_copy 85 = .ok (.bipush (-12), 2) := by decide +kernel
theorem dX9_copy_87 : decode cX9_copy 87 = .ok (.ireturn, 1) := by decide +kernel
theorem dX9_copy_88 : decode cX9_copy 88 = .ok (.aload 6, 2) := by decide +kernel
theorem dX9_copy_90 : decode cX9_copy 90 = .ok (.getfield 214, 3) := by decide +kernel
theorem dX9_copy_93 : decode cX9_copy 93 = .ok (.iload_n 2, 1) := by decide +kernel
theorem dX9_copy_94 : decode cX9_copy 94 = .ok (.aload 7, 2) := by decide +kernel
theorem dX9_copy_96 : decode cX9_copy 96 = .ok (.getfield 214, 3) := by decide +kernel
theorem dX9_copy_99 : decode cX9_copy 99 = .ok (.iload 4, 2) := by decide +kernel
theorem dX9_copy_101 : decode cX9_copy 101 = .ok (.iload 5, 2) := by decide +kernel
theorem dX9_copy_103 : decode cX9_copy 103 = .ok (.invokestatic 252, 3) := by decide +kernel
theorem dX9_copy_106 : decode cX9_copy 106 = .ok (.iload 5, 2) := by decide +kernel
theorem dX9_copy_108 : decode cX9_copy 108 = .ok (.ireturn, 1) := by decide +kernel
theorem dX9_people_0 : decode cX9_people 0 = .ok (.aload_n 0, 1) := by decide +kernel
theorem dX9_people_1 : decode cX9_people 1 = .ok (.iload_n 1, 1) := by decide +kernel
theorem dX9_people_2 : decode cX9_people 2 = .ok (.invokevirtual 197, 3) := by decide +kernel
theorem dX9_people_5 : decode cX9_people 5 = .ok (.astore 5, 2) := by decide +kernel
theorem dX9_people_7 : decode cX9_people 7 = .ok (.aload 5, 2) := by decide +kernel
theorem dX9_people_9 : decode cX9_people 9 = .ok (.ifnull 24, 3) := by decide +kernel
theorem dX9_people_12 : decode cX9_people 12 = .ok (.iload_n 2, 1) := by decide +kernel
theorem dX9_people_13 : decode cX9_people 13 = .ok (.ifCond .lt 20, 3) := by decide +kernel
theorem dX9_people_16 : decode cX9_people 16 = .ok (.iload_n 2, 1) := by decide +kernel
theorem dX9_people_17 : decode cX9_people 17 = .ok (.iconst 2, 1) := by decide +kernel
theorem dX9_people_18 : decode cX9_people 18 = .ok (.if_icmp .gt 15, 3) := by decide +kernel
theorem dX9_people_21 : decode cX9_people 21 = .ok (.iload 4, 2) := by decide +kernel
theorem dX9_people_23 : decode cX9_people 23 = .ok (.ifCond .lt 10, 3) := by decide +kernel
theorem dX9_people_26 : decode cX9_people 26 = .ok (.iload 4, 2) := by decide +kernel
theorem dX9_people_28 : decode cX9_people 28 = .ok (.bipush 6, 2) := by decide +kernel
theorem dX9_people_30 : decode cX9_people 30 = .ok (.if_icmp .le 6, 3) := by decide +kernel
theorem dX9_people_33 : decode cX9_people 33 = .ok (.bipush (-2), 2) := by decide +kernel
theorem dX9_people_35 : decode cX9_people 35 = .ok (.ireturn, 1) := by decide +kernel
theorem dX9_people_36 : decode cX9_people 36 = .ok (.aload 5, 2) := by decide +kernel
theorem dX9_people_38 : decode cX9_people 38 = .ok (.invokevirtual 201, 3) := by decide +kernel
theorem dX9_people_41 : decode cX9_people 41 = .ok (.ifCond .ne 15, 3) := by decide +kernel
theorem dX9_people_44 : decode cX9_people 44 = .ok (.aload 5, 2) := by decide +kernel
theorem dX9_people_46 : decode cX9_people 46 = .ok (.getfield 249, 3) := by decide +kernel
theorem dX9_people_49 : decode cX9_people 49 = .ok (.iload_n 2, 1) := by decide +kernel
theorem dX9_people_50 : decode cX9_people 50 = .ok (.if_icmp .eq 6, 3) := by decide +kernel
theorem dX9_people_53 : decode cX9_people 53 = .ok (.bipush (-13), 2) := by decide +kernel
theorem dX9_people_55 : decode cX9_people 55 = .ok (.ireturn, 1) := by decide +kernel
theorem dX9_people_56 : decode cX9_people 56 = .ok (.aload 5, 2) := by decide +kernel
theorem dX9_people_58 : decode cX9_people 58 = .ok (.invokevirtual 201, 3) := by decide +kernel
theorem dX9_people_61 : decode cX9_people 61 = .ok (.ifCond .eq 6, 3) := by decide +kernel
theorem dX9_people_64 : decode cX9_people 64 = .ok (.bipush (-11), 2) := by decide +kernel
theorem dX9_people_66 : decode cX9_people 66 = .ok (.ireturn, 1) := by decide +kernel
theorem dX9_people_67 : decode cX9_people 67 = .ok (.iconst 0, 1) := by decide +kernel
theorem dX9_people_68 : decode cX9_people 68 = .ok (.istore 6, 2) := by decide +kernel
theorem dX9_people_70 : decode cX9_people 70 = .ok (.iconst 0, 1) := by decide +kernel
theorem dX9_people_71 : decode cX9_people 71 = .ok (.istore 7, 2) := by decide +kernel
theorem dX9_people_73 : decode cX9_people 73 = .ok (.iload 7, 2) := by decide +kernel
theorem dX9_people_75 : decode cX9_people 75 = .ok (.iload 4, 2) := by decide +kernel
theorem dX9_people_77 : decode cX9_people 77 = .ok (.if_icmp .ge 69, 3) := by decide +kernel
theorem dX9_people_80 : decode cX9_people 80 = .ok (.iload_n 3, 1) := by decide +kernel
theorem dX9_people_81 : decode cX9_people 81 = .ok (.iconst 3, 1) := by decide +kernel
theorem dX9_people_82 : decode cX9_people 82 = .ok (.iload 7, 2) := by decide +kernel
theorem dX9_people_84 : decode cX9_people 84 = .ok (.imul, 1) := by decide +kernel
theorem dX9_people_85 : decode cX9_people 85 = .ok (.iadd, 1) := by decide +kernel
theorem dX9_people_86 : decode cX9_people 86 = .ok (.istore 8, 2) := by decide +kernel
theorem dX9_people_88 : decode cX9_people 88 = .ok (.aload 5, 2) := by decide +kernel
theorem dX9_people_90 : decode cX9_people 90 = .ok (.iload 8, 2) := by decide +kernel
theorem dX9_people_92 : decode cX9_people 92 = .ok (.iconst 3, 1) := by decide +kernel
theorem dX9_people_93 : decode cX9_people 93 = .ok (.invokevirtual 246, 3) := by decide +kernel
theorem dX9_people_96 : decode cX9_people 96 = .ok (.ifCond .ne 6, 3) := by decide +kernel
theorem dX9_people_99 : decode cX9_people 99 = .ok (.bipush (-12), 2) := by decide +kernel
theorem dX9_people_101 : decode cX9_people 101 = .ok (.ireturn, 1) := by decide +kernel
theorem dX9_people_102 : decode cX9_people 102 = .ok (.aload_n 0, 1) := by decide +kernel
theorem dX9_people_103 : decode cX9_people 103 = .ok (.aload 5, 2) := by decide +kernel
theorem dX9_people_105 : decode cX9_people 105 = .ok (.getfield 214, 3) := by decide +kernel
theorem dX9_people_108 : decode cX9_people 108 = .ok (.iload 8, 2) := by decide +kernel
theorem dX9_people_110 : decode cX9_people 110 = .ok (.iaload, 1) := by decide +kernel
theorem dX9_people_111 : decode cX9_people 111 = .ok (.aload 5, 2) := by decide +kernel
theorem dX9_people_113 : decode cX9_people 113 = .ok (.getfield 214, 3) := by decide +kernel
theorem dX9_people_116 : decode cX9_people 116 = .ok (.iload 8, 2) := by decide +kernel
theorem dX9_people_118 : decode cX9_people 118 = .ok (.iconst 1, 1) := by decide +kernel
theorem dX9_people_119 : decode cX9_people 119 = .ok (.iadd, 1) := by decide +kernel
theorem dX9_people_120 : decode cX9_people 120 = .ok (.iaload, 1) := by decide +kernel
theorem dX9_people_121 : decode cX9_people 121 = .ok (.aload 5, 2) := by decide +kernel
theorem dX9_people_123 : decode cX9_people 123 = .ok (.getfield 214, 3) := by decide +kernel
theorem dX9_people_126 : decode cX9_people 126 = .ok (.iload 8, 2) := by decide +kernel
theorem dX9_people_128 : decode cX9_people 128 = .ok (.iconst 2, 1) := by decide +kernel
theorem dX9_people_129 : decode cX9_people 129 = .ok (.iadd, 1) := by decide +kernel
theorem dX9_people_130 : decode cX9_people 130 = .ok (.iaload, 1) := by decide +kernel
theorem dX9_people_131 : decode cX9_people 131 = .ok (.invokevirtual 258, 3) := by decide +kernel
theorem dX9_people_134 : decode cX9_people 134 = .ok (.ifCond .lt 6, 3) := by decide +kernel
theorem dX9_people_137 : decode cX9_people 137 = .ok (.iinc 6 1, 3) := by decide +kernel
theorem dX9_people_140 : decode cX9_people 140 = .ok (.iinc 7 1, 3) := by decide +kernel
theorem dX9_people_143 : decode cX9_people 143 = .ok (.goto (-70), 3) := by decide +kernel
theorem dX9_people_146 : decode cX9_people 146 = .ok (.iload 6, 2) := by decide +kernel
theorem dX9_people_148 : decode cX9_people 148 = .ok (.ireturn, 1) := by decide +kernel
theorem dX9_taken_0 : decode cX9_taken 0 = .ok (.iload_n 2, 1) := by decide +kernel
theorem dX9_taken_1 : decode cX9_taken 1 = .ok (.invokestatic 105, 3) := by decide +kernel
theorem dX9_taken_4 : decode cX9_taken 4 = .ok (.ifCond .ne 6, 3) := by decide +kernel
theorem dX9_taken_7 : decode cX9_taken 7 = .ok (.bipush (-2), 2) := by decide +kernel
theorem dX9_taken_9 : decode cX9_taken 9 = .ok (.ireturn, 1) := by decide +kernel
theorem dX9_taken_10 : decode cX9_taken 10 = .ok (.aload_n 0, 1) := by decide +kernel
theorem dX9_taken_11 : decode cX9_taken 11 = .ok (.iload_n 1, 1) := by decide +kernel
theorem dX9_taken_12 : decode cX9_taken 12 = .ok (.invokevirtual 86, 3) := by decide +kernel
theorem dX9_taken_15 : decode cX9_taken 15 = .ok (.ifCond .ne 6, 3) := by decide +kernel
theorem dX9_taken_18 : decode cX9_taken 18 = .ok (.bipush (-11), 2) := by decide +kernel
theorem dX9_taken_20 : decode cX9_taken 20 = .ok (.ireturn, 1) := by decide +kernel
theorem dX9_taken_21 : decode cX9_taken 21 = .ok (.aload_n 0, 1) := by decide +kernel
theorem dX9_taken_22 : decode cX9_taken 22 = .ok (.getfield 19, 3) := by decide +kernel
theorem dX9_taken_25 : decode cX9_taken 25 = .ok (.getfield 220, 3) := by decide +kernel
theorem dX9_taken_28 : decode cX9_taken 28 = .ok (.iload_n 1, 1) := by decide +kernel
theorem dX9_taken_29 : decode cX9_taken 29 = .ok (.iaload, 1) := by decide +kernel
theorem dX9_taken_30 : decode cX9_taken 30 = .ok (.iload_n 2, 1) := by decide +kernel
theorem dX9_taken_31 : decode cX9_taken 31 = .ok (.invokestatic 261, 3) := by decide +kernel
theorem dX9_taken_34 : decode cX9_taken 34 = .ok (.ifCond .eq 15, 3) := by decide +kernel
theorem dX9_taken_37 : decode cX9_taken 37 = .ok (.aload_n 0, 1) := by decide +kernel
theorem dX9_taken_38 : decode cX9_taken 38 = .ok (.getfield 19, 3) := by decide +kernel
theorem dX9_taken_41 : decode cX9_taken 41 = .ok (.getfield 223, 3) := by decide +kernel
theorem dX9_taken_44 : decode cX9_taken 44 = .ok (.iload_n 1, 1) := by decide +kernel
theorem dX9_taken_45 : decode cX9_taken 45 = .ok (.iaload, 1) := by decide +kernel
theorem dX9_taken_46 : decode cX9_taken 46 = .ok (.goto 5, 3) := by decide +kernel
theorem dX9_taken_49 : decode cX9_taken 49 = .ok (.bipush (-13), 2) := by decide +kernel
theorem dX9_taken_51 : decode cX9_taken 51 = .ok (.ireturn, 1) := by decide +kernel
theorem dX9_isPerson_0 : decode cX9_isPerson 0 = .ok (.iload_n 1, 1) := by decide +kernel
theorem dX9_isPerson_1 : decode cX9_isPerson 1 = .ok (.ifCond .lt 18, 3) := by decide +kernel
theorem dX9_isPerson_4 : decode cX9_isPerson 4 = .ok (.iload_n 1, 1) := by decide +kernel
theorem dX9_isPerson_5 : decode cX9_isPerson 5 = .ok (.aload_n 0, 1) := by decide +kernel
theorem dX9_isPerson_6 : decode cX9_isPerson 6 = .ok (.getfield 19, 3) := by decide +kernel
theorem dX9_isPerson_9 : decode cX9_isPerson 9 = .ok (.getfield 165, 3) := by decide +kernel
theorem dX9_isPerson_12 : decode cX9_isPerson 12 = .ok (.if_icmp .ge 7, 3) := by decide +kernel
theorem dX9_isPerson_15 : decode cX9_isPerson 15 = .ok (.iconst 1, 1) := by decide +kernel
theorem dX9_isPerson_16 : decode cX9_isPerson 16 = .ok (.goto 4, 3) := by decide +kernel
theorem dX9_isPerson_19 : decode cX9_isPerson 19 = .ok (.iconst 0, 1) := by decide +kernel
theorem dX9_isPerson_20 : decode cX9_isPerson 20 = .ok (.ireturn, 1) := by decide +kernel
theorem dX9_isPlace_0 : decode cX9_isPlace 0 = .ok (.iload_n 0, 1) := by decide +kernel
theorem dX9_isPlace_1 : decode cX9_isPlace 1 = .ok (.ifCond .lt 13, 3) := by decide +kernel
theorem dX9_isPlace_4 : decode cX9_isPlace 4 = .ok (.iload_n 0, 1) := by decide +kernel
theorem dX9_isPlace_5 : decode cX9_isPlace 5 = .ok (.bipush 8, 2) := by decide +kernel
theorem dX9_isPlace_7 : decode cX9_isPlace 7 = .ok (.if_icmp .ge 7, 3) := by decide +kernel
theorem dX9_isPlace_10 : decode cX9_isPlace 10 = .ok (.iconst 1, 1) := by decide +kernel
theorem dX9_isPlace_11 : decode cX9_isPlace 11 = .ok (.goto 4, 3) := by decide +kernel
theorem dX9_isPlace_14 : decode cX9_isPlace 14 = .ok (.iconst 0, 1) := by decide +kernel
theorem dX9_isPlace_15 : decode cX9_isPlace 15 = .ok (.ireturn, 1) := by decide +kernel
theorem dX9_sheetOf_0 : decode cX9_sheetOf 0 = .ok (.iload_n 1, 1) := by decide +kernel
theorem dX9_sheetOf_1 : decode cX9_sheetOf 1 = .ok (.ifCond .lt 17, 3) := by decide +kernel
theorem dX9_sheetOf_4 : decode cX9_sheetOf 4 = .ok (.iload_n 1, 1) := by decide +kernel
theorem dX9_sheetOf_5 : decode cX9_sheetOf 5 = .ok (.iconst 4, 1) := by decide +kernel
theorem dX9_sheetOf_6 : decode cX9_sheetOf 6 = .ok (.if_icmp .ge 12, 3) := by decide +kernel
theorem dX9_sheetOf_9 : decode cX9_sheetOf 9 = .ok (.aload_n 0, 1) := by decide +kernel
theorem dX9_sheetOf_10 : decode cX9_sheetOf 10 = .ok (.getfield 63, 3) := by decide +kernel
theorem dX9_sheetOf_13 : decode cX9_sheetOf 13 = .ok (.iload_n 1, 1) := by decide +kernel
theorem dX9_sheetOf_14 : decode cX9_sheetOf 14 = .ok (.aaload, 1) := by decide +kernel
theorem dX9_sheetOf_15 : decode cX9_sheetOf 15 = .ok (.goto 4, 3) := by decide +kernel
theorem dX9_sheetOf_18 : decode cX9_sheetOf 18 = .ok (.aconst_null, 1) := by decide +kernel
theorem dX9_sheetOf_19 : decode cX9_sheetOf 19 = .ok (.areturn, 1) := by decide +kernel
