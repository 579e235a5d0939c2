theorem dX0_init_0 : decode cX0_init 0 = .ok (.aload_n 0, 1) := by decide +kernel
theorem dX0_init_1 : decode cX0_init 1 = .ok (.invokespecial 3, 3) := by decide +kernel
theorem dX0_init_4 : decode cX0_init 4 = .ok (.aload_n 0, 1) := by decide +kernel
theorem dX0_init_5 : decode cX0_init 5 = .ok (.iconst 0, 1) := by decide +kernel
theorem dX0_init_6 : decode cX0_init 6 = .ok (.putfield 9, 3) := by decide +kernel
theorem dX0_init_9 : decode cX0_init 9 = .ok (.aload_n 0, 1) := by decide +kernel
theorem dX0_init_10 : decode cX0_init 10 = .ok (.iconst 0, 1) := by decide +kernel
theorem dX0_init_11 : decode cX0_init 11 = .ok (.putfield 15, 3) := by decide +kernel
theorem dX0_init_14 : decode cX0_init 14 = .ok (.aload_n 0, 1) := by decide +kernel
theorem dX0_init_15 : decode cX0_init 15 = .ok (.iconst 0, 1) := by decide +kernel
theorem dX0_init_16 : decode cX0_init 16 = .ok (.putfield 18, 3) := by decide +kernel
theorem dX0_init_19 : decode cX0_init 19 = .ok (.aload_n 0, 1) := by decide +kernel
theorem dX0_init_20 : decode cX0_init 20 = .ok (.bipush 6, 2) := by decide +kernel
theorem dX0_init_22 : decode cX0_init 22 = .ok (.newarray .int, 2) := by decide +kernel
theorem dX0_init_24 : decode cX0_init 24 = .ok (.putfield 21, 3) := by decide +kernel
theorem dX0_init_27 : decode cX0_init 27 = .ok (.aload_n 0, 1) := by decide +kernel
theorem dX0_init_28 : decode cX0_init 28 = .ok (.bipush 6, 2) := by decide +kernel
theorem dX0_init_30 : decode cX0_init 30 = .ok (.newarray .int, 2) := by decide +kernel
theorem dX0_init_32 : decode cX0_init 32 = .ok (.putfield 25, 3) := by decide +kernel
theorem dX0_init_35 : decode cX0_init 35 = .ok (.aload_n 0, 1) := by decide +kernel
theorem dX0_init_36 : decode cX0_init 36 = .ok (.bipush 6, 2) := by decide +kernel
theorem dX0_init_38 : decode cX0_init 38 = .ok (.newarray .int, 2) := by decide +kernel
theorem dX0_init_40 : decode cX0_init 40 = .ok (.putfield 28, 3) := by decide +kernel
theorem dX0_init_43 : decode cX0_init 43 = .ok (.aload_n 0, 1) := by decide +kernel
theorem dX0_init_44 : decode cX0_init 44 = .ok (.bipush 6, 2) := by decide +kernel
theorem dX0_init_46 : decode cX0_init 46 = .ok (.newarray .int, 2) := by decide +kernel
theorem dX0_init_48 : decode cX0_init 48 = .ok (.putfield 31, 3) := by decide +kernel
theorem dX0_init_51 : decode cX0_init 51 = .ok (.aload_n 0, 1) := by decide +kernel
theorem dX0_init_52 : decode cX0_init 52 = .ok (.bipush 6, 2) := by decide +kernel
theorem dX0_init_54 : decode cX0_init 54 = .ok (.newarray .int, 2) := by decide +kernel
theorem dX0_init_56 : decode cX0_init 56 = .ok (.putfield 34, 3) := by decide +kernel
theorem dX0_init_59 : decode cX0_init 59 = .ok (.aload_n 0, 1) := by decide +kernel
theorem dX0_init_60 : decode cX0_init 60 = .ok (.bipush 6, 2) := by decide +kernel
theorem dX0_init_62 : decode cX0_init 62 = .ok (.newarray .int, 2) := by decide +kernel
theorem dX0_init_64 : decode cX0_init 64 = .ok (.putfield 37, 3) := by decide +kernel
theorem dX0_init_67 : decode cX0_init 67 = .ok (.return_, 1) := by decide +kernel
theorem dX0_add_0 : decode cX0_add 0 = .ok (.aload_n 0, 1) := by decide +kernel
theorem dX0_add_1 : decode cX0_add 1 = .ok (.getfield 9, 3) := by decide +kernel
theorem dX0_add_4 : decode cX0_add 4 = .ok (.bipush 6, 2) := by decide +kernel
theorem dX0_add_6 : decode cX0_add 6 = .ok (.if_icmp .lt 6, 3) := by decide +kernel
theorem dX0_add_9 : decode cX0_add 9 = .ok (.bipush (-4), 2) := by decide +kernel
theorem dX0_add_11 : decode cX0_add 11 = .ok (.ireturn, 1) := by decide +kernel
theorem dX0_add_12 : decode cX0_add 12 = .ok (.aload_n 0, 1) := by decide +kernel
theorem dX0_add_13 : decode cX0_add 13 = .ok (.getfield 21, 3) := by decide +kernel
theorem dX0_add_16 : decode cX0_add 16 = .ok (.aload_n 0, 1) := by decide +kernel
theorem dX0_add_17 : decode cX0_add 17 = .ok (.getfield 9, 3) := by decide +kernel
theorem dX0_add_20 : decode cX0_add 20 = .ok (.iload_n 1, 1) := by decide +kernel
theorem dX0_add_21 : decode cX0_add 21 = .ok (.iastore, 1) := by decide +kernel
theorem dX0_add_22 : decode cX0_add 22 = .ok (.aload_n 0, 1) := by decide +kernel
theorem dX0_add_23 : decode cX0_add 23 = .ok (.getfield 25, 3) := by decide +kernel
theorem dX0_add_26 : decode cX0_add 26 = .ok (.aload_n 0, 1) := by decide +kernel
theorem dX0_add_27 : decode cX0_add 27 = .ok (.getfield 9, 3) := by decide +kernel
theorem dX0_add_30 : decode cX0_add 30 = .ok (.iload_n 2, 1) := by decide +kernel
theorem dX0_add_31 : decode cX0_add 31 = .ok (.iastore, 1) := by decide +kernel
theorem dX0_add_32 : decode cX0_add 32 = .ok (.aload_n 0, 1) := by decide +kernel
theorem dX0_add_33 : decode cX0_add 33 = .ok (.getfield 28, 3) := by decide +kernel
theorem dX0_add_36 : decode cX0_add 36 = .ok (.aload_n 0, 1) := by decide +kernel
theorem dX0_add_37 : decode cX0_add 37 = .ok (.getfield 9, 3) := by decide +kernel
theorem dX0_add_40 : decode cX0_add 40 = .ok (.iconst 0, 1) := by decide +kernel
theorem dX0_add_41 : decode cX0_add 41 = .ok (.iastore, 1) := by decide +kernel
theorem dX0_add_42 : decode cX0_add 42 = .ok (.aload_n 0, 1) := by decide +kernel
theorem dX0_add_43 : decode cX0_add 43 = .ok (.getfield 31, 3) := by decide +kernel
theorem dX0_add_46 : decode cX0_add 46 = .ok (.aload_n 0, 1) := by decide +kernel
theorem dX0_add_47 : decode cX0_add 47 = .ok (.getfield 9, 3) := by decide +kernel
theorem dX0_add_50 : decode cX0_add 50 = .ok (.iload_n 3, 1) := by decide +kernel
theorem dX0_add_51 : decode cX0_add 51 = .ok (.iastore, 1) := by decide +kernel
theorem dX0_add_52 : decode cX0_add 52 = .ok (.aload_n 0, 1) := by decide +kernel
theorem dX0_add_53 : decode cX0_add 53 = .ok (.getfield 34, 3) := by decide +kernel
theorem dX0_add_56 : decode cX0_add 56 = .ok (.aload_n 0, 1) := by decide +kernel
theorem dX0_add_57 : decode cX0_add 57 = .ok (.getfield 9, 3) := by decide +kernel
theorem dX0_add_60 : decode cX0_add 60 = .ok (.iconst 0, 1) := by decide +kernel
theorem dX0_add_61 : decode cX0_add 61 = .ok (.iastore, 1) := by decide +kernel
theorem dX0_add_62 : decode cX0_add 62 = .ok (.aload_n 0, 1) := by decide +kernel
theorem dX0_add_63 : decode cX0_add 63 = .ok (.getfield 37, 3) := by decide +kernel
theorem dX0_add_66 : decode cX0_add 66 = .ok (.aload_n 0, 1) := by decide +kernel
theorem dX0_add_67 : decode cX0_add 67 = .ok (.getfield 9, 3) := by decide +kernel
theorem dX0_add_70 : decode cX0_add 70 = .ok (.iconst 0, 1) := by decide +kernel
theorem dX0_add_71 : decode cX0_add 71 = .ok (.iastore, 1) := by decide +kernel
theorem dX0_add_72 : decode cX0_add 72 = .ok (.aload_n 0, 1) := by decide +kernel
theorem dX0_add_73 : decode cX0_add 73 = .ok (.dup, 1) := by decide +kernel
theorem dX0_add_74 : decode cX0_add 74 = .ok (.getfield 9, 3) := by decide +kernel
theorem dX0_add_77 : decode cX0_add 77 = .ok (.dup_x1, 1) := by decide +kernel
theorem dX0_add_78 : decode cX0_add 78 = .ok (.iconst 1, 1) := by decide +kernel
theorem dX0_add_79 : decode cX0_add 79 = .ok (.iadd, 1) := by decide +kernel
theorem dX0_add_80 : decode cX0_add 80 = .ok (.putfield 9, 3) := by decide +kernel
theorem dX0_add_83 : decode cX0_add 83 = .ok (.ireturn, 1) := by decide +kernel
theorem dX0_become_0 : decode cX0_become 0 = .ok (.aload_n 0, 1) := by decide +kernel
theorem dX0_become_1 : decode cX0_become 1 = .ok (.aload_n 1, 1) := by decide +kernel
theorem dX0_become_2 : decode cX0_become 2 = .ok (.getfield 9, 3) := by decide +kernel
theorem dX0_become_5 : decode cX0_become 5 = .ok (.putfield 9, 3) := by decide +kernel
theorem dX0_become_8 : decode cX0_become 8 = .ok (.aload_n 0, 1) := by decide +kernel
theorem dX0_become_9 : decode cX0_become 9 = .ok (.aload_n 1, 1) := by decide +kernel
theorem dX0_become_10 : decode cX0_become 10 = .ok (.getfield 15, 3) := by decide +kernel
theorem dX0_become_13 : decode cX0_become 13 = .ok (.putfield 15, 3) := by decide +kernel
theorem dX0_become_16 : decode cX0_become 16 = .ok (.aload_n 0, 1) := by decide +kernel
theorem dX0_become_17 : decode cX0_become 17 = .ok (.aload_n 1, 1) := by decide +kernel
theorem dX0_become_18 : decode cX0_become 18 = .ok (.getfield 18, 3) := by decide +kernel
theorem dX0_become_21 : decode cX0_become 21 = .ok (.putfield 18, 3) := by decide +kernel
theorem dX0_become_24 : decode cX0_become 24 = .ok (.iconst 0, 1) := by decide +kernel
theorem dX0_become_25 : decode cX0_become 25 = .ok (.istore_n 2, 1) := by decide +kernel
theorem dX0_become_26 : decode cX0_become 26 = .ok (.iload_n 2, 1) := by decide +kernel
theorem dX0_become_27 : decode cX0_become 27 = .ok (.bipush 6, 2) := by decide +kernel
theorem dX0_become_29 : decode cX0_become 29 = .ok (.if_icmp .ge 81, 3) := by decide +kernel
theorem dX0_become_32 : decode cX0_become 32 = .ok (.aload_n 0, 1) := by decide +kernel
theorem dX0_become_33 : decode cX0_become 33 = .ok (.getfield 21, 3) := by decide +kernel
theorem dX0_become_36 : decode cX0_become 36 = .ok (.iload_n 2, 1) := by decide +kernel
theorem dX0_become_37 : decode cX0_become 37 = .ok (.aload_n 1, 1) := by decide +kernel
theorem dX0_become_38 : decode cX0_become 38 = .ok (.getfield 21, 3) := by decide +kernel
theorem dX0_become_41 : decode cX0_become 41 = .ok (.iload_n 2, 1) := by decide +kernel
theorem dX0_become_42 : decode cX0_become 42 = .ok (.iaload, 1) := by decide +kernel
theorem dX0_become_43 : decode cX0_become 43 = .ok (.iastore, 1) := by decide +kernel
theorem dX0_become_44 : decode cX0_become 44 = .ok (.aload_n 0, 1) := by decide +kernel
theorem dX0_become_45 : decode cX0_become 45 = .ok (.getfield 25, 3) := by decide +kernel
theorem dX0_become_48 : decode cX0_become 48 = .ok (.iload_n 2, 1) := by decide +kernel
theorem dX0_become_49 : decode cX0_become 49 = .ok (.aload_n 1, 1) := by decide +kernel
theorem dX0_become_50 : decode cX0_become 50 = .ok (.getfield 25, 3) := by decide +kernel
theorem dX0_become_53 : decode cX0_become 53 = .ok (.iload_n 2, 1) := by decide +kernel
theorem dX0_become_54 : decode cX0_become 54 = .ok (.iaload, 1) := by decide +kernel
theorem dX0_become_55 : decode cX0_become 55 = .ok (.iastore, 1) := by decide +kernel
theorem dX0_become_56 : decode cX0_become 56 = .ok (.aload_n 0, 1) := by decide +kernel
theorem dX0_become_57 : decode cX0_become 57 = .ok (.getfield 28, 3) := by decide +kernel
theorem dX0_become_60 : decode cX0_become 60 = .ok (.iload_n 2, 1) := by decide +kernel
theorem dX0_become_61 : decode cX0_become 61 = .ok (.aload_n 1, 1) := by decide +kernel
theorem dX0_become_62 : decode cX0_become 62 = .ok (.getfield 28, 3) := by decide +kernel
theorem dX0_become_65 : decode cX0_become 65 = .ok (.iload_n 2, 1) := by decide +kernel
theorem dX0_become_66 : decode cX0_become 66 = .ok (.iaload, 1) := by decide +kernel
theorem dX0_become_67 : decode cX0_become 67 = .ok (.iastore, 1) := by decide +kernel
theorem dX0_become_68 : decode cX0_become 68 = .ok (.aload_n 0, 1) := by decide +kernel
theorem dX0_become_69 : decode cX0_become 69 = .ok (.getfield 31, 3) := by decide +kernel
theorem dX0_become_72 : decode cX0_become 72 = .ok (.iload_n 2, 1) := by decide +kernel
theorem dX0_become_73 : decode cX0_become 73 = .ok (.aload_n 1, 1) := by decide +kernel
theorem dX0_become_74 : decode cX0_become 74 = .ok (.getfield 31, 3) := by decide +kernel
theorem dX0_become_77 : decode cX0_become 77 = .ok (.iload_n 2, 1) := by decide +kernel
theorem dX0_become_78 : decode cX0_become 78 = .ok (.iaload, 1) := by decide +kernel
theorem dX0_become_79 : decode cX0_become 79 = .ok (.iastore, 1) := by decide +kernel
theorem dX0_become_80 : decode cX0_become 80 = .ok (.aload_n 0, 1) := by decide +kernel
theorem dX0_become_81 : decode cX0_become 81 = .ok (.getfield 34, 3) := by decide +kernel
theorem dX0_become_84 : decode cX0_become 84 = .ok (.iload_n 2, 1) := by decide +kernel
theorem dX0_become_85 : decode cX0_become 85 = .ok (.aload_n 1, 1) := by decide +kernel
theorem dX0_become_86 : decode cX0_become 86 = .ok (.getfield 34, 3) := by decide +kernel
theorem dX0_become_89 : decode cX0_become 89 = .ok (.iload_n 2, 1) := by decide +kernel
theorem dX0_become_90 : decode cX0_become 90 = .ok (.iaload, 1) := by decide +kernel
theorem dX0_become_91 : decode cX0_become 91 = .ok (.iastore, 1) := by decide +kernel
theorem dX0_become_92 : decode cX0_become 92 = .ok (.aload_n 0, 1) := by decide +kernel
theorem dX0_become_93 : decode cX0_become 93 = .ok (.getfield 37, 3) := by decide +kernel
theorem dX0_become_96 : decode cX0_become 96 = .ok (.iload_n 2, 1) := by decide +kernel
theorem dX0_become_97 : decode cX0_become 97 = .ok (.aload_n 1, 1) := by decide +kernel
theorem dX0_become_98 : decode cX0_become 98 = .ok (.getfield 37, 3) := by decide +kernel
theorem dX0_become_101 : decode cX0_become 101 = .ok (.iload_n 2, 1) := by decide +kernel
theorem dX0_become_102 : decode cX0_become 102 = .ok (.iaload, 1) := by decide +kernel
theorem dX0_become_103 : decode cX0_become 103 = .ok (.iastore, 1) := by decide +kernel
theorem dX0_become_104 : decode cX0_become 104 = .ok (.iinc 2 1, 3) := by decide +kernel
theorem dX0_become_107 : decode cX0_become 107 = .ok (.goto (-81), 3) := by decide +kernel
theorem dX0_become_110 : decode cX0_become 110 = .ok (.return_, 1) := by decide +kernel
theorem dX0_row_0 : decode cX0_row 0 = .ok (.iload_n 1, 1) := by decide +kernel
theorem dX0_row_1 : decode cX0_row 1 = .ok (.tableswitch 60 1 5 #[35, 40, 45, 50, 55], 35) := by decide +kernel
theorem dX0_row_36 : decode cX0_row 36 = .ok (.aload_n 0, 1) := by decide +kernel
theorem dX0_row_37 : decode cX0_row 37 = .ok (.getfield 25, 3) := by decide +kernel
theorem dX0_row_40 : decode cX0_row 40 = .ok (.areturn, 1) := by decide +kernel
theorem dX0_row_41 : decode cX0_row 41 = .ok (.aload_n 0, 1) := by decide +kernel
theorem dX0_row_42 : decode cX0_row 42 = .ok (.getfield 28, 3) := by decide +kernel
theorem dX0_row_45 : decode cX0_row 45 = .ok (.areturn, 1) := by decide +kernel
theorem dX0_row_46 : decode cX0_row 46 = .ok (.aload_n 0, 1) := by decide +kernel
theorem dX0_row_47 : decode cX0_row 47 = .ok (.getfield 31, 3) := by decide +kernel
theorem dX0_row_50 : decode cX0_row 50 = .ok (.areturn, 1) := by decide +kernel
theorem dX0_row_51 : decode cX0_row 51 = .ok (.aload_n 0, 1) := by decide +kernel
theorem dX0_row_52 : decode cX0_row 52 = .ok (.getfield 34, 3) := by decide +kernel
theorem dX0_row_55 : decode cX0_row 55 = .ok (.areturn, 1) := by decide +kernel
theorem dX0_row_56 : decode cX0_row 56 = .ok (.aload_n 0, 1) := by decide +kernel
theorem dX0_row_57 : decode cX0_row 57 = .ok (.getfield 21, 3) := by decide +kernel
theorem dX0_row_60 : decode cX0_row 60 = .ok (.areturn, 1) := by decide +kernel
theorem dX0_row_61 : decode cX0_row 61 = .ok (.aload_n 0, 1) := by decide +kernel
theorem dX0_row_62 : decode cX0_row 62 = .ok (.getfield 37, 3) := by decide +kernel
theorem dX0_row_65 : decode cX0_row 65 = .ok (.areturn, 1) := by decide +kernel
theorem dX0_isKnown_0 : decode cX0_isKnown 0 = .ok (.aload_n 0, 1) := by decide +kernel
theorem dX0_isKnown_1 : decode cX0_isKnown 1 = .ok (.getfield 31, 3) := by decide +kernel
theorem dX0_isKnown_4 : decode cX0_isKnown 4 = .ok (.iload_n 1, 1) := by decide +kernel
theorem dX0_isKnown_5 : decode cX0_isKnown 5 = .ok (.iaload, 1) := by decide +kernel
theorem dX0_isKnown_6 : decode cX0_isKnown 6 = .ok (.iload_n 2, 1) := by decide +kernel
theorem dX0_isKnown_7 : decode cX0_isKnown 7 = .ok (.ishr, 1) := by decide +kernel
theorem dX0_isKnown_8 : decode cX0_isKnown 8 = .ok (.iconst 1, 1) := by decide +kernel
theorem dX0_isKnown_9 : decode cX0_isKnown 9 = .ok (.iand, 1) := by decide +kernel
theorem dX0_isKnown_10 : decode cX0_isKnown 10 = .ok (.ifCond .eq 7, 3) := by decide +kernel
theorem dX0_isKnown_13 : decode cX0_isKnown 13 = .ok (.iconst 1, 1) := by decide +kernel
theorem dX0_isKnown_14 : decode cX0_isKnown 14 = .ok (.goto 4, 3) := by decide +kernel
theorem dX0_isKnown_17 : decode cX0_isKnown 17 = .ok (.iconst 0, 1) := by decide +kernel
theorem dX0_isKnown_18 : decode cX0_isKnown 18 = .ok (.ireturn, 1) := by decide +kernel
theorem dX0_spend_0 : decode cX0_spend 0 = .ok (.aload_n 0, 1) := by decide +kernel
theorem dX0_spend_1 : decode cX0_spend 1 = .ok (.getfield 37, 3) := by decide +kernel
theorem dX0_spend_4 : decode cX0_spend 4 = .ok (.iload_n 1, 1) := by decide +kernel
theorem dX0_spend_5 : decode cX0_spend 5 = .ok (.ldc 40, 2) := by decide +kernel
theorem dX0_spend_7 : decode cX0_spend 7 = .ok (.aload_n 0, 1) := by decide +kernel
theorem dX0_spend_8 : decode cX0_spend 8 = .ok (.getfield 37, 3) := by decide +kernel
theorem dX0_spend_11 : decode cX0_spend 11 = .ok (.iload_n 1, 1) := by decide +kernel
theorem dX0_spend_12 : decode cX0_spend 12 = .ok (.iaload, 1) := by decide +kernel
theorem dX0_spend_13 : decode cX0_spend 13 = .ok (.iload_n 2, 1) := by decide +kernel
theorem dX0_spend_14 : decode cX0_spend 14 = .ok (.iadd, 1) := by decide +kernel
theorem dX0_spend_15 : decode cX0_spend 15 = .ok (.invokestatic 41, 3) := by decide +kernel
theorem dX0_spend_18 : decode cX0_spend 18 = .ok (.iastore, 1) := by decide +kernel
theorem dX0_spend_19 : decode cX0_spend 19 = .ok (.return_, 1) := by decide +kernel
theorem dX0_ways_0 : decode cX0_ways 0 = .ok (.iconst 0, 1) := by decide +kernel
theorem dX0_ways_1 : decode cX0_ways 1 = .ok (.istore_n 2, 1) := by decide +kernel
theorem dX0_ways_2 : decode cX0_ways 2 = .ok (.iconst 0, 1) := by decide +kernel
theorem dX0_ways_3 : decode cX0_ways 3 = .ok (.istore_n 3, 1) := by decide +kernel
theorem dX0_ways_4 : decode cX0_ways 4 = .ok (.iload_n 3, 1) := by decide +kernel
theorem dX0_ways_5 : decode cX0_ways 5 = .ok (.aload_n 0, 1) := by decide +kernel
theorem dX0_ways_6 : decode cX0_ways 6 = .ok (.getfield 9, 3) := by decide +kernel
theorem dX0_ways_9 : decode cX0_ways 9 = .ok (.if_icmp .ge 26, 3) := by decide +kernel
theorem dX0_ways_12 : decode cX0_ways 12 = .ok (.iload_n 3, 1) := by decide +kernel
theorem dX0_ways_13 : decode cX0_ways 13 = .ok (.iload_n 1, 1) := by decide +kernel
theorem dX0_ways_14 : decode cX0_ways 14 = .ok (.if_icmp .eq 15, 3) := by decide +kernel
theorem dX0_ways_17 : decode cX0_ways 17 = .ok (.iload_n 2, 1) := by decide +kernel
theorem dX0_ways_18 : decode cX0_ways 18 = .ok (.aload_n 0, 1) := by decide +kernel
theorem dX0_ways_19 : decode cX0_ways 19 = .ok (.getfield 31, 3) := by decide +kernel
theorem dX0_ways_22 : decode cX0_ways 22 = .ok (.iload_n 3, 1) := by decide +kernel
theorem dX0_ways_23 : decode cX0_ways 23 = .ok (.iaload, 1) := by decide +kernel
theorem dX0_ways_24 : decode cX0_ways 24 = .ok (.invokestatic 47, 3) := by decide +kernel
theorem dX0_ways_27 : decode cX0_ways 27 = .ok (.iadd, 1) := by decide +kernel
theorem dX0_ways_28 : decode cX0_ways 28 = .ok (.istore_n 2, 1) := by decide +kernel
theorem dX0_ways_29 : decode cX0_ways 29 = .ok (.iinc 3 1, 3) := by decide +kernel
theorem dX0_ways_32 : decode cX0_ways 32 = .ok (.goto (-28), 3) := by decide +kernel
theorem dX0_ways_35 : decode cX0_ways 35 = .ok (.iload_n 2, 1) := by decide +kernel
theorem dX0_ways_36 : decode cX0_ways 36 = .ok (.ireturn, 1) := by decide +kernel
theorem dX0_knownByAny_0 : decode cX0_knownByAny 0 = .ok (.iconst 0, 1) := by decide +kernel
theorem dX0_knownByAny_1 : decode cX0_knownByAny 1 = .ok (.istore_n 2, 1) := by decide +kernel
theorem dX0_knownByAny_2 : decode cX0_knownByAny 2 = .ok (.iconst 0, 1) := by decide +kernel
theorem dX0_knownByAny_3 : decode cX0_knownByAny 3 = .ok (.istore_n 3, 1) := by decide +kernel
theorem dX0_knownByAny_4 : decode cX0_knownByAny 4 = .ok (.iload_n 3, 1) := by decide +kernel
theorem dX0_knownByAny_5 : decode cX0_knownByAny 5 = .ok (.aload_n 0, 1) := by decide +kernel
theorem dX0_knownByAny_6 : decode cX0_knownByAny 6 = .ok (.getfield 9, 3) := by decide +kernel
theorem dX0_knownByAny_9 : decode cX0_knownByAny 9 = .ok (.if_icmp .ge 23, 3) := by decide +kernel
theorem dX0_knownByAny_12 : decode cX0_knownByAny 12 = .ok (.iload_n 3, 1) := by decide +kernel
theorem dX0_knownByAny_13 : decode cX0_knownByAny 13 = .ok (.iload_n 1, 1) := by decide +kernel
theorem dX0_knownByAny_14 : decode cX0_knownByAny 14 = .ok (.if_icmp .eq 12, 3) := by decide +kernel
theorem dX0_knownByAny_17 : decode cX0_knownByAny 17 = .ok (.iload_n 2, 1) := by decide +kernel
theorem dX0_knownByAny_18 : decode cX0_knownByAny 18 = .ok (.aload_n 0, 1) := by decide +kernel
theorem dX0_knownByAny_19 : decode cX0_knownByAny 19 = .ok (.getfield 31, 3) := by decide +kernel
theorem dX0_knownByAny_22 : decode cX0_knownByAny 22 = .ok (.iload_n 3, 1) := by decide +kernel
theorem dX0_knownByAny_23 : decode cX0_knownByAny 23 = .ok (.iaload, 1) := by decide +kernel
theorem dX0_knownByAny_24 : decode cX0_knownByAny 24 = .ok (.ior, 1) := by decide +kernel
theorem dX0_knownByAny_25 : decode cX0_knownByAny 25 = .ok (.istore_n 2, 1) := by decide +kernel
theorem dX0_knownByAny_26 : decode cX0_knownByAny 26 = .ok (.iinc 3 1, 3) := by decide +kernel
theorem dX0_knownByAny_29 : decode cX0_knownByAny 29 = .ok (.goto (-25), 3) := by decide +kernel
theorem dX0_knownByAny_32 : decode cX0_knownByAny 32 = .ok (.iload_n 2, 1) := by decide +kernel
theorem dX0_knownByAny_33 : decode cX0_knownByAny 33 = .ok (.ireturn, 1) := by decide +kernel
theorem dX0_knownByAll_0 : decode cX0_knownByAll 0 = .ok (.sipush 255, 3) := by decide +kernel
theorem dX0_knownByAll_3 : decode cX0_knownByAll 3 = .ok (.istore_n 1, 1) := by decide +kernel
theorem dX0_knownByAll_4 : decode cX0_knownByAll 4 = .ok (.iconst 0, 1) := by decide +kernel
theorem dX0_knownByAll_5 : decode cX0_knownByAll 5 = .ok (.istore_n 2, 1) := by decide +kernel
theorem dX0_knownByAll_6 : decode cX0_knownByAll 6 = .ok (.iload_n 2, 1) := by decide +kernel
theorem dX0_knownByAll_7 : decode cX0_knownByAll 7 = .ok (.aload_n 0, 1) := by decide +kernel
theorem dX0_knownByAll_8 : decode cX0_knownByAll 8 = .ok (.getfield 9, 3) := by decide +kernel
theorem dX0_knownByAll_11 : decode cX0_knownByAll 11 = .ok (.if_icmp .ge 18, 3) := by decide +kernel
theorem dX0_knownByAll_14 : decode cX0_knownByAll 14 = .ok (.iload_n 1, 1) := by decide +kernel
theorem dX0_knownByAll_15 : decode cX0_knownByAll 15 = .ok (.aload_n 0, 1) := by decide +kernel
theorem dX0_knownByAll_16 : decode cX0_knownByAll 16 = .ok (.getfield 31, 3) := by decide +kernel
theorem dX0_knownByAll_19 : decode cX0_knownByAll 19 = .ok (.iload_n 2, 1) := by decide +kernel
theorem dX0_knownByAll_20 : decode cX0_knownByAll 20 = .ok (.iaload, 1) := by decide +kernel
theorem dX0_knownByAll_21 : decode cX0_knownByAll 21 = .ok (.iand, 1) := by decide +kernel
theorem dX0_knownByAll_22 : decode cX0_knownByAll 22 = .ok (.istore_n 1, 1) := by decide +kernel
theorem dX0_knownByAll_23 : decode cX0_knownByAll 23 = .ok (.iinc 2 1, 3) := by decide +kernel
theorem dX0_knownByAll_26 : decode cX0_knownByAll 26 = .ok (.goto (-20), 3) := by decide +kernel
theorem dX0_knownByAll_29 : decode cX0_knownByAll 29 = .ok (.iload_n 1, 1) := by decide +kernel
theorem dX0_knownByAll_30 : decode cX0_knownByAll 30 = .ok (.ireturn, 1) := by decide +kernel
theorem dX0_hoard_0 : decode cX0_hoard 0 = .ok (.aload_n 0, 1) := by decide +kernel
theorem dX0_hoard_1 : decode cX0_hoard 1 = .ok (.getfield 31, 3) := by decide +kernel
theorem dX0_hoard_4 : decode cX0_hoard 4 = .ok (.iload_n 1, 1) := by decide +kernel
theorem dX0_hoard_5 : decode cX0_hoard 5 = .ok (.iaload, 1) := by decide +kernel
theorem dX0_hoard_6 : decode cX0_hoard 6 = .ok (.aload_n 0, 1) := by decide +kernel
theorem dX0_hoard_7 : decode cX0_hoard 7 = .ok (.iload_n 1, 1) := by decide +kernel
theorem dX0_hoard_8 : decode cX0_hoard 8 = .ok (.invokevirtual 53, 3) := by decide +kernel
theorem dX0_hoard_11 : decode cX0_hoard 11 = .ok (.iconst (-1), 1) := by decide +kernel
theorem dX0_hoard_12 : decode cX0_hoard 12 = .ok (.ixor, 1) := by decide +kernel
theorem dX0_hoard_13 : decode cX0_hoard 13 = .ok (.iand, 1) := by decide +kernel
theorem dX0_hoard_14 : decode cX0_hoard 14 = .ok (.ireturn, 1) := by decide +kernel
theorem dX0_minutesOfAll_0 : decode cX0_minutesOfAll 0 = .ok (.iconst 0, 1) := by decide +kernel
theorem dX0_minutesOfAll_1 : decode cX0_minutesOfAll 1 = .ok (.istore_n 1, 1) := by decide +kernel
theorem dX0_minutesOfAll_2 : decode cX0_minutesOfAll 2 = .ok (.iconst 0, 1) := by decide +kernel
theorem dX0_minutesOfAll_3 : decode cX0_minutesOfAll 3 = .ok (.istore_n 2, 1) := by decide +kernel
theorem dX0_minutesOfAll_4 : decode cX0_minutesOfAll 4 = .ok (.iload_n 2, 1) := by decide +kernel
theorem dX0_minutesOfAll_5 : decode cX0_minutesOfAll 5 = .ok (.aload_n 0, 1) := by decide +kernel
theorem dX0_minutesOfAll_6 : decode cX0_minutesOfAll 6 = .ok (.getfield 9, 3) := by decide +kernel
theorem dX0_minutesOfAll_9 : decode cX0_minutesOfAll 9 = .ok (.if_icmp .ge 18, 3) := by decide +kernel
theorem dX0_minutesOfAll_12 : decode cX0_minutesOfAll 12 = .ok (.iload_n 1, 1) := by decide +kernel
theorem dX0_minutesOfAll_13 : decode cX0_minutesOfAll 13 = .ok (.aload_n 0, 1) := by decide +kernel
theorem dX0_minutesOfAll_14 : decode cX0_minutesOfAll 14 = .ok (.getfield 37, 3) := by decide +kernel
theorem dX0_minutesOfAll_17 : decode cX0_minutesOfAll 17 = .ok (.iload_n 2, 1) := by decide +kernel
theorem dX0_minutesOfAll_18 : decode cX0_minutesOfAll 18 = .ok (.iaload, 1) := by decide +kernel
theorem dX0_minutesOfAll_19 : decode cX0_minutesOfAll 19 = .ok (.iadd, 1) := by decide +kernel
theorem dX0_minutesOfAll_20 : decode cX0_minutesOfAll 20 = .ok (.istore_n 1, 1) := by decide +kernel
theorem dX0_minutesOfAll_21 : decode cX0_minutesOfAll 21 = .ok (.iinc 2 1, 3) := by decide +kernel
theorem dX0_minutesOfAll_24 : decode cX0_minutesOfAll 24 = .ok (.goto (-20), 3) := by decide +kernel
theorem dX0_minutesOfAll_27 : decode cX0_minutesOfAll 27 = .ok (.iload_n 1, 1) := by decide +kernel
theorem dX0_minutesOfAll_28 : decode cX0_minutesOfAll 28 = .ok (.ireturn, 1) := by decide +kernel
theorem dX1_isKind_0 : decode cX1_isKind 0 = .ok (.iload_n 0, 1) := by decide +kernel
theorem dX1_isKind_1 : decode cX1_isKind 1 = .ok (.ifCond .lt 13, 3) := by decide +kernel
theorem dX1_isKind_4 : decode cX1_isKind 4 = .ok (.iload_n 0, 1) := by decide +kernel
theorem dX1_isKind_5 : decode cX1_isKind 5 = .ok (.bipush 6, 2) := by decide +kernel
theorem dX1_isKind_7 : decode cX1_isKind 7 = .ok (.if_icmp .ge 7, 3) := by decide +kernel
theorem dX1_isKind_10 : decode cX1_isKind 10 = .ok (.iconst 1, 1) := by decide +kernel
theorem dX1_isKind_11 : decode cX1_isKind 11 = .ok (.goto 4, 3) := by decide +kernel
theorem dX1_isKind_14 : decode cX1_isKind 14 = .ok (.iconst 0, 1) := by decide +kernel
theorem dX1_isKind_15 : decode cX1_isKind 15 = .ok (.ireturn, 1) := by decide +kernel
theorem dX1_isUnder_0 : decode cX1_isUnder 0 = .ok (.iload_n 0, 1) := by decide +kernel
theorem dX1_isUnder_1 : decode cX1_isUnder 1 = .ok (.istore_n 2, 1) := by decide +kernel
theorem dX1_isUnder_2 : decode cX1_isUnder 2 = .ok (.iconst 0, 1) := by decide +kernel
theorem dX1_isUnder_3 : decode cX1_isUnder 3 = .ok (.istore_n 3, 1) := by decide +kernel
theorem dX1_isUnder_4 : decode cX1_isUnder 4 = .ok (.iload_n 3, 1) := by decide +kernel
theorem dX1_isUnder_5 : decode cX1_isUnder 5 = .ok (.bipush 6, 2) := by decide +kernel
theorem dX1_isUnder_7 : decode cX1_isUnder 7 = .ok (.if_icmp .ge 29, 3) := by decide +kernel
theorem dX1_isUnder_10 : decode cX1_isUnder 10 = .ok (.iload_n 2, 1) := by decide +kernel
theorem dX1_isUnder_11 : decode cX1_isUnder 11 = .ok (.invokestatic 11, 3) := by decide +kernel
theorem dX1_isUnder_14 : decode cX1_isUnder 14 = .ok (.ifCond .eq 22, 3) := by decide +kernel
theorem dX1_isUnder_17 : decode cX1_isUnder 17 = .ok (.iload_n 2, 1) := by decide +kernel
theorem dX1_isUnder_18 : decode cX1_isUnder 18 = .ok (.iload_n 1, 1) := by decide +kernel
theorem dX1_isUnder_19 : decode cX1_isUnder 19 = .ok (.if_icmp .ne 5, 3) := by decide +kernel
theorem dX1_isUnder_22 : decode cX1_isUnder 22 = .ok (.iconst 1, 1) := by decide +kernel
theorem dX1_isUnder_23 : decode cX1_isUnder 23 = .ok (.ireturn, 1) := by decide +kernel
theorem dX1_isUnder_24 : decode cX1_isUnder 24 = .ok (.getstatic 15, 3) := by decide +kernel
theorem dX1_isUnder_27 : decode cX1_isUnder 27 = .ok (.iload_n 2, 1) := by decide +kernel
theorem dX1_isUnder_28 : decode cX1_isUnder 28 = .ok (.iaload, 1) := by decide +kernel
theorem dX1_isUnder_29 : decode cX1_isUnder 29 = .ok (.istore_n 2, 1) := by decide +kernel
theorem dX1_isUnder_30 : decode cX1_isUnder 30 = .ok (.iinc 3 1, 3) := by decide +kernel
theorem dX1_isUnder_33 : decode cX1_isUnder 33 = .ok (.goto (-29), 3) := by decide +kernel
theorem dX1_isUnder_36 : decode cX1_isUnder 36 = .ok (.iconst 0, 1) := by decide +kernel
theorem dX1_isUnder_37 : decode cX1_isUnder 37 = .ok (.ireturn, 1) := by decide +kernel
theorem dX1_takes_0 : decode cX1_takes 0 = .ok (.aload_n 0, 1) := by decide +kernel
theorem dX1_takes_1 : decode cX1_takes 1 = .ok (.getfield 19, 3) := by decide +kernel
theorem dX1_takes_4 : decode cX1_takes 4 = .ok (.iload_n 1, 1) := by decide +kernel
theorem dX1_takes_5 : decode cX1_takes 5 = .ok (.iaload, 1) := by decide +kernel
theorem dX1_takes_6 : decode cX1_takes 6 = .ok (.iload_n 2, 1) := by decide +kernel
theorem dX1_takes_7 : decode cX1_takes 7 = .ok (.ishr, 1) := by decide +kernel
theorem dX1_takes_8 : decode cX1_takes 8 = .ok (.iconst 1, 1) := by decide +kernel
theorem dX1_takes_9 : decode cX1_takes 9 = .ok (.iand, 1) := by decide +kernel
theorem dX1_takes_10 : decode cX1_takes 10 = .ok (.ifCond .eq 7, 3) := by decide +kernel
theorem dX1_takes_13 : decode cX1_takes 13 = .ok (.iconst 1, 1) := by decide +kernel
theorem dX1_takes_14 : decode cX1_takes 14 = .ok (.goto 4, 3) := by decide +kernel
theorem dX1_takes_17 : decode cX1_takes 17 = .ok (.iconst 0, 1) := by decide +kernel
theorem dX1_takes_18 : decode cX1_takes 18 = .ok (.istore 4, 2) := by decide +kernel
theorem dX1_takes_20 : decode cX1_takes 20 = .ok (.iload_n 2, 1) := by decide +kernel
theorem dX1_takes_21 : decode cX1_takes 21 = .ok (.iconst 2, 1) := by decide +kernel
theorem dX1_takes_22 : decode cX1_takes 22 = .ok (.irem, 1) := by decide +kernel
theorem dX1_takes_23 : decode cX1_takes 23 = .ok (.ifCond .ne 7, 3) := by decide +kernel
theorem dX1_takes_26 : decode cX1_takes 26 = .ok (.iconst 1, 1) := by decide +kernel
theorem dX1_takes_27 : decode cX1_takes 27 = .ok (.goto 4, 3) := by decide +kernel
theorem dX1_takes_30 : decode cX1_takes 30 = .ok (.iconst 0, 1) := by decide +kernel
theorem dX1_takes_31 : decode cX1_takes 31 = .ok (.istore 5, 2) := by decide +kernel
theorem dX1_takes_33 : decode cX1_takes 33 = .ok (.aload_n 0, 1) := by decide +kernel
theorem dX1_takes_34 : decode cX1_takes 34 = .ok (.getfield 24, 3) := by decide +kernel
theorem dX1_takes_37 : decode cX1_takes 37 = .ok (.iload_n 1, 1) := by decide +kernel
theorem dX1_takes_38 : decode cX1_takes 38 = .ok (.iaload, 1) := by decide +kernel
theorem dX1_takes_39 : decode cX1_takes 39 = .ok (.tableswitch 118 0 4 #[33, 35, 50, 65, 93], 33) := by decide +kernel
theorem dX1_takes_72 : decode cX1_takes 72 = .ok (.iload_n 3, 1) := by decide +kernel
theorem dX1_takes_73 : decode cX1_takes 73 = .ok (.ireturn, 1) := by decide +kernel
theorem dX1_takes_74 : decode cX1_takes 74 = .ok (.iload 4, 2) := by decide +kernel
theorem dX1_takes_76 : decode cX1_takes 76 = .ok (.ifCond .eq 11, 3) := by decide +kernel
theorem dX1_takes_79 : decode cX1_takes 79 = .ok (.iload_n 3, 1) := by decide +kernel
theorem dX1_takes_80 : decode cX1_takes 80 = .ok (.ifCond .eq 7, 3) := by decide +kernel
theorem dX1_takes_83 : decode cX1_takes 83 = .ok (.iconst 1, 1) := by decide +kernel
theorem dX1_takes_84 : decode cX1_takes 84 = .ok (.goto 4, 3) := by decide +kernel
theorem dX1_takes_87 : decode cX1_takes 87 = .ok (.iconst 0, 1) := by decide +kernel
theorem dX1_takes_88 : decode cX1_takes 88 = .ok (.ireturn, 1) := by decide +kernel
theorem dX1_takes_89 : decode cX1_takes 89 = .ok (.iload 5, 2) := by decide +kernel
theorem dX1_takes_91 : decode cX1_takes 91 = .ok (.ifCond .ne 7, 3) := by decide +kernel
theorem dX1_takes_94 : decode cX1_takes 94 = .ok (.iload_n 3, 1) := by decide +kernel
theorem dX1_takes_95 : decode cX1_takes 95 = .ok (.ifCond .eq 7, 3) := by decide +kernel
theorem dX1_takes_98 : decode cX1_takes 98 = .ok (.iconst 1, 1) := by decide +kernel
theorem dX1_takes_99 : decode cX1_takes 99 = .ok (.goto 4, 3) := by decide +kernel
theorem dX1_takes_102 : decode cX1_takes 102 = .ok (.iconst 0, 1) := by decide +kernel
theorem dX1_takes_103 : decode cX1_takes 103 = .ok (.ireturn, 1) := by decide +kernel
theorem dX1_takes_104 : decode cX1_takes 104 = .ok (.iload 4, 2) := by decide +kernel
theorem dX1_takes_106 : decode cX1_takes 106 = .ok (.ifCond .eq 7, 3) := by decide +kernel
theorem dX1_takes_109 : decode cX1_takes 109 = .ok (.iload_n 3, 1) := by decide +kernel
theorem dX1_takes_110 : decode cX1_takes 110 = .ok (.ifCond .ne 16, 3) := by decide +kernel
theorem dX1_takes_113 : decode cX1_takes 113 = .ok (.iload_n 2, 1) := by decide +kernel
theorem dX1_takes_114 : decode cX1_takes 114 = .ok (.aload_n 0, 1) := by decide +kernel
theorem dX1_takes_115 : decode cX1_takes 115 = .ok (.getfield 27, 3) := by decide +kernel
theorem dX1_takes_118 : decode cX1_takes 118 = .ok (.iload_n 1, 1) := by decide +kernel
theorem dX1_takes_119 : decode cX1_takes 119 = .ok (.iaload, 1) := by decide +kernel
theorem dX1_takes_120 : decode cX1_takes 120 = .ok (.bipush 8, 2) := by decide +kernel
theorem dX1_takes_122 : decode cX1_takes 122 = .ok (.irem, 1) := by decide +kernel
theorem dX1_takes_123 : decode cX1_takes 123 = .ok (.if_icmp .ne 7, 3) := by decide +kernel
theorem dX1_takes_126 : decode cX1_takes 126 = .ok (.iconst 1, 1) := by decide +kernel
theorem dX1_takes_127 : decode cX1_takes 127 = .ok (.goto 4, 3) := by decide +kernel
theorem dX1_takes_130 : decode cX1_takes 130 = .ok (.iconst 0, 1) := by decide +kernel
theorem dX1_takes_131 : decode cX1_takes 131 = .ok (.ireturn, 1) := by decide +kernel
theorem dX1_takes_132 : decode cX1_takes 132 = .ok (.iload 5, 2) := by decide +kernel
theorem dX1_takes_134 : decode cX1_takes 134 = .ok (.ifCond .ne 7, 3) := by decide +kernel
theorem dX1_takes_137 : decode cX1_takes 137 = .ok (.iload_n 3, 1) := by decide +kernel
theorem dX1_takes_138 : decode cX1_takes 138 = .ok (.ifCond .eq 17, 3) := by decide +kernel
theorem dX1_takes_141 : decode cX1_takes 141 = .ok (.iload_n 2, 1) := by decide +kernel
theorem dX1_takes_142 : decode cX1_takes 142 = .ok (.aload_n 0, 1) := by decide +kernel
theorem dX1_takes_143 : decode cX1_takes 143 = .ok (.getfield 30, 3) := by decide +kernel
theorem dX1_takes_146 : decode cX1_takes 146 = .ok (.iload_n 1, 1) := by decide +kernel
theorem dX1_takes_147 : decode cX1_takes 147 = .ok (.iaload, 1) := by decide +kernel
theorem dX1_takes_148 : decode cX1_takes 148 = .ok (.if_icmp .eq 7, 3) := by decide +kernel
theorem dX1_takes_151 : decode cX1_takes 151 = .ok (.iconst 1, 1) := by decide +kernel
theorem dX1_takes_152 : decode cX1_takes 152 = .ok (.goto 4, 3) := by decide +kernel
theorem dX1_takes_155 : decode cX1_takes 155 = .ok (.iconst 0, 1) := by decide +kernel
theorem dX1_takes_156 : decode cX1_takes 156 = .ok (.ireturn, 1) := by decide +kernel
theorem dX1_takes_157 : decode cX1_takes 157 = .ok (.iconst 0, 1) := by decide +kernel
theorem dX1_takes_158 : decode cX1_takes 158 = .ok (.ireturn, 1) := by decide +kernel
theorem dX1_worth_0 : decode cX1_worth 0 = .ok (.iconst 0, 1) := by decide +kernel
theorem dX1_worth_1 : decode cX1_worth 1 = .ok (.istore_n 3, 1) := by decide +kernel
theorem dX1_worth_2 : decode cX1_worth 2 = .ok (.iload_n 0, 1) := by decide +kernel
theorem dX1_worth_3 : decode cX1_worth 3 = .ok (.tableswitch 70 0 4 #[33, 38, 45, 52, 61], 33) := by decide +kernel
theorem dX1_worth_36 : decode cX1_worth 36 = .ok (.iload_n 2, 1) := by decide +kernel
theorem dX1_worth_37 : decode cX1_worth 37 = .ok (.istore_n 3, 1) := by decide +kernel
theorem dX1_worth_38 : decode cX1_worth 38 = .ok (.goto 35, 3) := by decide +kernel
theorem dX1_worth_41 : decode cX1_worth 41 = .ok (.iconst 2, 1) := by decide +kernel
theorem dX1_worth_42 : decode cX1_worth 42 = .ok (.iload_n 2, 1) := by decide +kernel
theorem dX1_worth_43 : decode cX1_worth 43 = .ok (.imul, 1) := by decide +kernel
theorem dX1_worth_44 : decode cX1_worth 44 = .ok (.istore_n 3, 1) := by decide +kernel
theorem dX1_worth_45 : decode cX1_worth 45 = .ok (.goto 28, 3) := by decide +kernel
theorem dX1_worth_48 : decode cX1_worth 48 = .ok (.iload_n 2, 1) := by decide +kernel
theorem dX1_worth_49 : decode cX1_worth 49 = .ok (.iload_n 1, 1) := by decide +kernel
theorem dX1_worth_50 : decode cX1_worth 50 = .ok (.iadd, 1) := by decide +kernel
theorem dX1_worth_51 : decode cX1_worth 51 = .ok (.istore_n 3, 1) := by decide +kernel
theorem dX1_worth_52 : decode cX1_worth 52 = .ok (.goto 21, 3) := by decide +kernel
theorem dX1_worth_55 : decode cX1_worth 55 = .ok (.iconst 2, 1) := by decide +kernel
theorem dX1_worth_56 : decode cX1_worth 56 = .ok (.iload_n 2, 1) := by decide +kernel
theorem dX1_worth_57 : decode cX1_worth 57 = .ok (.imul, 1) := by decide +kernel
theorem dX1_worth_58 : decode cX1_worth 58 = .ok (.iconst 5, 1) := by decide +kernel
theorem dX1_worth_59 : decode cX1_worth 59 = .ok (.iadd, 1) := by decide +kernel
theorem dX1_worth_60 : decode cX1_worth 60 = .ok (.istore_n 3, 1) := by decide +kernel
theorem dX1_worth_61 : decode cX1_worth 61 = .ok (.goto 12, 3) := by decide +kernel
theorem dX1_worth_64 : decode cX1_worth 64 = .ok (.iload_n 2, 1) := by decide +kernel
theorem dX1_worth_65 : decode cX1_worth 65 = .ok (.iload_n 1, 1) := by decide +kernel
theorem dX1_worth_66 : decode cX1_worth 66 = .ok (.iadd, 1) := by decide +kernel
theorem dX1_worth_67 : decode cX1_worth 67 = .ok (.iconst 2, 1) := by decide +kernel
theorem dX1_worth_68 : decode cX1_worth 68 = .ok (.idiv, 1) := by decide +kernel
theorem dX1_worth_69 : decode cX1_worth 69 = .ok (.istore_n 3, 1) := by decide +kernel
theorem dX1_worth_70 : decode cX1_worth 70 = .ok (.goto 3, 3) := by decide +kernel
theorem dX1_worth_73 : decode cX1_worth 73 = .ok (.iconst 0, 1) := by decide +kernel
theorem dX1_worth_74 : decode cX1_worth 74 = .ok (.sipush 999, 3) := by decide +kernel
theorem dX1_worth_77 : decode cX1_worth 77 = .ok (.iload_n 3, 1) := by decide +kernel
theorem dX1_worth_78 : decode cX1_worth 78 = .ok (.invokestatic 33, 3) := by decide +kernel
theorem dX1_worth_81 : decode cX1_worth 81 = .ok (.invokestatic 39, 3) := by decide +kernel
theorem dX1_worth_84 : decode cX1_worth 84 = .ok (.ireturn, 1) := by decide +kernel
theorem dX1_time_0 : decode cX1_time 0 = .ok (.bipush 20, 2) := by decide +kernel
theorem dX1_time_2 : decode cX1_time 2 = .ok (.istore_n 3, 1) := by decide +kernel
theorem dX1_time_3 : decode cX1_time 3 = .ok (.iload_n 0, 1) := by decide +kernel
theorem dX1_time_4 : decode cX1_time 4 = .ok (.tableswitch 64 0 4 #[36, 36, 41, 48, 55], 36) := by decide +kernel
theorem dX1_time_40 : decode cX1_time 40 = .ok (.iload_n 2, 1) := by decide +kernel
theorem dX1_time_41 : decode cX1_time 41 = .ok (.istore_n 3, 1) := by decide +kernel
theorem dX1_time_42 : decode cX1_time 42 = .ok (.goto 26, 3) := by decide +kernel
theorem dX1_time_45 : decode cX1_time 45 = .ok (.iload_n 2, 1) := by decide +kernel
theorem dX1_time_46 : decode cX1_time 46 = .ok (.iconst 2, 1) := by decide +kernel
theorem dX1_time_47 : decode cX1_time 47 = .ok (.idiv, 1) := by decide +kernel
theorem dX1_time_48 : decode cX1_time 48 = .ok (.istore_n 3, 1) := by decide +kernel
theorem dX1_time_49 : decode cX1_time 49 = .ok (.goto 19, 3) := by decide +kernel
theorem dX1_time_52 : decode cX1_time 52 = .ok (.iload_n 2, 1) := by decide +kernel
theorem dX1_time_53 : decode cX1_time 53 = .ok (.iload_n 1, 1) := by decide +kernel
theorem dX1_time_54 : decode cX1_time 54 = .ok (.iadd, 1) := by decide +kernel
theorem dX1_time_55 : decode cX1_time 55 = .ok (.istore_n 3, 1) := by decide +kernel
theorem dX1_time_56 : decode cX1_time 56 = .ok (.goto 12, 3) := by decide +kernel
theorem dX1_time_59 : decode cX1_time 59 = .ok (.iload_n 2, 1) := by decide +kernel
theorem dX1_time_60 : decode cX1_time 60 = .ok (.iconst 2, 1) := by decide +kernel
theorem dX1_time_61 : decode cX1_time 61 = .ok (.idiv, 1) := by decide +kernel
theorem dX1_time_62 : decode cX1_time 62 = .ok (.iconst 1, 1) := by decide +kernel
theorem dX1_time_63 : decode cX1_time 63 = .ok (.iadd, 1) := by decide +kernel
theorem dX1_time_64 : decode cX1_time 64 = .ok (.istore_n 3, 1) := by decide +kernel
theorem dX1_time_65 : decode cX1_time 65 = .ok (.goto 3, 3) := by decide +kernel
theorem dX1_time_68 : decode cX1_time 68 = .ok (.iconst 0, 1) := by decide +kernel
theorem dX1_time_69 : decode cX1_time 69 = .ok (.sipush 999, 3) := by decide +kernel
theorem dX1_time_72 : decode cX1_time 72 = .ok (.iload_n 3, 1) := by decide +kernel
theorem dX1_time_73 : decode cX1_time 73 = .ok (.invokestatic 33, 3) := by decide +kernel
theorem dX1_time_76 : decode cX1_time 76 = .ok (.invokestatic 39, 3) := by decide +kernel
theorem dX1_time_79 : decode cX1_time 79 = .ok (.ireturn, 1) := by decide +kernel
theorem dX1_tellsFree_0 : decode cX1_tellsFree 0 = .ok (.iload_n 0, 1) := by decide +kernel
theorem dX1_tellsFree_1 : decode cX1_tellsFree 1 = .ok (.iconst 5, 1) := by decide +kernel
theorem dX1_tellsFree_2 : decode cX1_tellsFree 2 = .ok (.if_icmp .eq 14, 3) := by decide +kernel
theorem dX1_tellsFree_5 : decode cX1_tellsFree 5 = .ok (.iload_n 0, 1) := by decide +kernel
theorem dX1_tellsFree_6 : decode cX1_tellsFree 6 = .ok (.iconst 4, 1) := by decide +kernel
theorem dX1_tellsFree_7 : decode cX1_tellsFree 7 = .ok (.if_icmp .ne 13, 3) := by decide +kernel
theorem dX1_tellsFree_10 : decode cX1_tellsFree 10 = .ok (.iload_n 1, 1) := by decide +kernel
theorem dX1_tellsFree_11 : decode cX1_tellsFree 11 = .ok (.bipush 6, 2) := by decide +kernel
theorem dX1_tellsFree_13 : decode cX1_tellsFree 13 = .ok (.if_icmp .le 7, 3) := by decide +kernel
theorem dX1_tellsFree_16 : decode cX1_tellsFree 16 = .ok (.iconst 1, 1) := by decide +kernel
theorem dX1_tellsFree_17 : decode cX1_tellsFree 17 = .ok (.goto 4, 3) := by decide +kernel
theorem dX1_tellsFree_20 : decode cX1_tellsFree 20 = .ok (.iconst 0, 1) := by decide +kernel
theorem dX1_tellsFree_21 : decode cX1_tellsFree 21 = .ok (.ireturn, 1) := by decide +kernel
theorem dX2_init_0 : decode cX2_init 0 = .ok (.aload_n 0, 1) := by decide +kernel
theorem dX2_init_1 : decode cX2_init 1 = .ok (.invokespecial 3, 3) := by decide +kernel
theorem dX2_init_4 : decode cX2_init 4 = .ok (.aload_n 0, 1) := by decide +kernel
theorem dX2_init_5 : decode cX2_init 5 = .ok (.aload_n 1, 1) := by decide +kernel
theorem dX2_init_6 : decode cX2_init 6 = .ok (.putfield 9, 3) := by decide +kernel
theorem dX2_init_9 : decode cX2_init 9 = .ok (.return_, 1) := by decide +kernel
theorem dX2_takes_0 : decode cX2_takes 0 = .ok (.aload_n 1, 1) := by decide +kernel
theorem dX2_takes_1 : decode cX2_takes 1 = .ok (.iload_n 2, 1) := by decide +kernel
theorem dX2_takes_2 : decode cX2_takes 2 = .ok (.iload_n 3, 1) := by decide +kernel
theorem dX2_takes_3 : decode cX2_takes 3 = .ok (.aload_n 0, 1) := by decide +kernel
theorem dX2_takes_4 : decode cX2_takes 4 = .ok (.getfield 9, 3) := by decide +kernel
theorem dX2_takes_7 : decode cX2_takes 7 = .ok (.aload_n 1, 1) := by decide +kernel
theorem dX2_takes_8 : decode cX2_takes 8 = .ok (.iload_n 2, 1) := by decide +kernel
theorem dX2_takes_9 : decode cX2_takes 9 = .ok (.iconst 0, 1) := by decide +kernel
theorem dX2_takes_10 : decode cX2_takes 10 = .ok (.iload_n 3, 1) := by decide +kernel
theorem dX2_takes_11 : decode cX2_takes 11 = .ok (.invokevirtual 17, 3) := by decide +kernel
theorem dX2_takes_14 : decode cX2_takes 14 = .ok (.ifCond .eq 7, 3) := by decide +kernel
theorem dX2_takes_17 : decode cX2_takes 17 = .ok (.iconst 1, 1) := by decide +kernel
theorem dX2_takes_18 : decode cX2_takes 18 = .ok (.goto 4, 3) := by decide +kernel
theorem dX2_takes_21 : decode cX2_takes 21 = .ok (.iconst 0, 1) := by decide +kernel
theorem dX2_takes_22 : decode cX2_takes 22 = .ok (.invokestatic 23, 3) := by decide +kernel
theorem dX2_takes_25 : decode cX2_takes 25 = .ok (.ireturn, 1) := by decide +kernel
theorem dX2_worth_0 : decode cX2_worth 0 = .ok (.aload_n 1, 1) := by decide +kernel
theorem dX2_worth_1 : decode cX2_worth 1 = .ok (.getfield 29, 3) := by decide +kernel
theorem dX2_worth_4 : decode cX2_worth 4 = .ok (.iload_n 2, 1) := by decide +kernel
theorem dX2_worth_5 : decode cX2_worth 5 = .ok (.iaload, 1) := by decide +kernel
theorem dX2_worth_6 : decode cX2_worth 6 = .ok (.aload_n 1, 1) := by decide +kernel
theorem dX2_worth_7 : decode cX2_worth 7 = .ok (.getfield 35, 3) := by decide +kernel
theorem dX2_worth_10 : decode cX2_worth 10 = .ok (.iload_n 2, 1) := by decide +kernel
theorem dX2_worth_11 : decode cX2_worth 11 = .ok (.iaload, 1) := by decide +kernel
theorem dX2_worth_12 : decode cX2_worth 12 = .ok (.aload_n 0, 1) := by decide +kernel
theorem dX2_worth_13 : decode cX2_worth 13 = .ok (.getfield 9, 3) := by decide +kernel
theorem dX2_worth_16 : decode cX2_worth 16 = .ok (.aload_n 1, 1) := by decide +kernel
theorem dX2_worth_17 : decode cX2_worth 17 = .ok (.iload_n 2, 1) := by decide +kernel
theorem dX2_worth_18 : decode cX2_worth 18 = .ok (.iconst 1, 1) := by decide +kernel
theorem dX2_worth_19 : decode cX2_worth 19 = .ok (.iload_n 3, 1) := by decide +kernel
theorem dX2_worth_20 : decode cX2_worth 20 = .ok (.invokevirtual 17, 3) := by decide +kernel
theorem dX2_worth_23 : decode cX2_worth 23 = .ok (.invokestatic 38, 3) := by decide +kernel
theorem dX2_worth_26 : decode cX2_worth 26 = .ok (.ireturn, 1) := by decide +kernel
theorem dX2_time_0 : decode cX2_time 0 = .ok (.aload_n 1, 1) := by decide +kernel
theorem dX2_time_1 : decode cX2_time 1 = .ok (.getfield 29, 3) := by decide +kernel
theorem dX2_time_4 : decode cX2_time 4 = .ok (.iload_n 2, 1) := by decide +kernel
theorem dX2_time_5 : decode cX2_time 5 = .ok (.iaload, 1) := by decide +kernel
theorem dX2_time_6 : decode cX2_time 6 = .ok (.aload_n 1, 1) := by decide +kernel
theorem dX2_time_7 : decode cX2_time 7 = .ok (.getfield 35, 3) := by decide +kernel
theorem dX2_time_10 : decode cX2_time 10 = .ok (.iload_n 2, 1) := by decide +kernel
theorem dX2_time_11 : decode cX2_time 11 = .ok (.iaload, 1) := by decide +kernel
theorem dX2_time_12 : decode cX2_time 12 = .ok (.aload_n 0, 1) := by decide +kernel
theorem dX2_time_13 : decode cX2_time 13 = .ok (.getfield 9, 3) := by decide +kernel
theorem dX2_time_16 : decode cX2_time 16 = .ok (.aload_n 1, 1) := by decide +kernel
theorem dX2_time_17 : decode cX2_time 17 = .ok (.iload_n 2, 1) := by decide +kernel
theorem dX2_time_18 : decode cX2_time 18 = .ok (.iconst 2, 1) := by decide +kernel
theorem dX2_time_19 : decode cX2_time 19 = .ok (.iload_n 3, 1) := by decide +kernel
theorem dX2_time_20 : decode cX2_time 20 = .ok (.invokevirtual 17, 3) := by decide +kernel
theorem dX2_time_23 : decode cX2_time 23 = .ok (.invokestatic 42, 3) := by decide +kernel
theorem dX2_time_26 : decode cX2_time 26 = .ok (.ireturn, 1) := by decide +kernel
theorem dX2_payment_0 : decode cX2_payment 0 = .ok (.aload_n 1, 1) := by decide +kernel
theorem dX2_payment_1 : decode cX2_payment 1 = .ok (.iload_n 3, 1) := by decide +kernel
theorem dX2_payment_2 : decode cX2_payment 2 = .ok (.iload 4, 2) := by decide +kernel
theorem dX2_payment_4 : decode cX2_payment 4 = .ok (.invokevirtual 45, 3) := by decide +kernel
theorem dX2_payment_7 : decode cX2_payment 7 = .ok (.ifCond .eq 13, 3) := by decide +kernel
theorem dX2_payment_10 : decode cX2_payment 10 = .ok (.aload_n 1, 1) := by decide +kernel
theorem dX2_payment_11 : decode cX2_payment 11 = .ok (.iload_n 2, 1) := by decide +kernel
theorem dX2_payment_12 : decode cX2_payment 12 = .ok (.iload 4, 2) := by decide +kernel
theorem dX2_payment_14 : decode cX2_payment 14 = .ok (.invokevirtual 45, 3) := by decide +kernel
theorem dX2_payment_17 : decode cX2_payment 17 = .ok (.ifCond .eq 5, 3) := by decide +kernel
theorem dX2_payment_20 : decode cX2_payment 20 = .ok (.iconst (-1), 1) := by decide +kernel
theorem dX2_payment_21 : decode cX2_payment 21 = .ok (.ireturn, 1) := by decide +kernel
theorem dX2_payment_22 : decode cX2_payment 22 = .ok (.aload_n 1, 1) := by decide +kernel
theorem dX2_payment_23 : decode cX2_payment 23 = .ok (.getfield 29, 3) := by decide +kernel
theorem dX2_payment_26 : decode cX2_payment 26 = .ok (.iload_n 3, 1) := by decide +kernel
theorem dX2_payment_27 : decode cX2_payment 27 = .ok (.iaload, 1) := by decide +kernel
theorem dX2_payment_28 : decode cX2_payment 28 = .ok (.aload_n 1, 1) := by decide +kernel
theorem dX2_payment_29 : decode cX2_payment 29 = .ok (.getfield 35, 3) := by decide +kernel
theorem dX2_payment_32 : decode cX2_payment 32 = .ok (.iload_n 3, 1) := by decide +kernel
theorem dX2_payment_33 : decode cX2_payment 33 = .ok (.iaload, 1) := by decide +kernel
theorem dX2_payment_34 : decode cX2_payment 34 = .ok (.invokestatic 49, 3) := by decide +kernel
theorem dX2_payment_37 : decode cX2_payment 37 = .ok (.ifCond .eq 6, 3) := by decide +kernel
theorem dX2_payment_40 : decode cX2_payment 40 = .ok (.bipush 8, 2) := by decide +kernel
theorem dX2_payment_42 : decode cX2_payment 42 = .ok (.ireturn, 1) := by decide +kernel
theorem dX2_payment_43 : decode cX2_payment 43 = .ok (.iconst (-1), 1) := by decide +kernel
theorem dX2_payment_44 : decode cX2_payment 44 = .ok (.istore 5, 2) := by decide +kernel
theorem dX2_payment_46 : decode cX2_payment 46 = .ok (.iconst 0, 1) := by decide +kernel
theorem dX2_payment_47 : decode cX2_payment 47 = .ok (.istore 6, 2) := by decide +kernel
theorem dX2_payment_49 : decode cX2_payment 49 = .ok (.aload_n 1, 1) := by decide +kernel
theorem dX2_payment_50 : decode cX2_payment 50 = .ok (.getfield 52, 3) := by decide +kernel
theorem dX2_payment_53 : decode cX2_payment 53 = .ok (.iload_n 2, 1) := by decide +kernel
theorem dX2_payment_54 : decode cX2_payment 54 = .ok (.iaload, 1) := by decide +kernel
theorem dX2_payment_55 : decode cX2_payment 55 = .ok (.aload_n 1, 1) := by decide +kernel
theorem dX2_payment_56 : decode cX2_payment 56 = .ok (.getfield 52, 3) := by decide +kernel
theorem dX2_payment_59 : decode cX2_payment 59 = .ok (.iload_n 3, 1) := by decide +kernel
theorem dX2_payment_60 : decode cX2_payment 60 = .ok (.iaload, 1) := by decide +kernel
theorem dX2_payment_61 : decode cX2_payment 61 = .ok (.iconst (-1), 1) := by decide +kernel
theorem dX2_payment_62 : decode cX2_payment 62 = .ok (.ixor, 1) := by decide +kernel
theorem dX2_payment_63 : decode cX2_payment 63 = .ok (.iand, 1) := by decide +kernel
theorem dX2_payment_64 : decode cX2_payment 64 = .ok (.istore 7, 2) := by decide +kernel
theorem dX2_payment_66 : decode cX2_payment 66 = .ok (.iconst 0, 1) := by decide +kernel
theorem dX2_payment_67 : decode cX2_payment 67 = .ok (.istore 8, 2) := by decide +kernel
theorem dX2_payment_69 : decode cX2_payment 69 = .ok (.iload 8, 2) := by decide +kernel
theorem dX2_payment_71 : decode cX2_payment 71 = .ok (.bipush 8, 2) := by decide +kernel
theorem dX2_payment_73 : decode cX2_payment 73 = .ok (.if_icmp .ge 64, 3) := by decide +kernel
theorem dX2_payment_76 : decode cX2_payment 76 = .ok (.iload 7, 2) := by decide +kernel
theorem dX2_payment_78 : decode cX2_payment 78 = .ok (.iload 8, 2) := by decide +kernel
theorem dX2_payment_80 : decode cX2_payment 80 = .ok (.ishr, 1) := by decide +kernel
theorem dX2_payment_81 : decode cX2_payment 81 = .ok (.iconst 1, 1) := by decide +kernel
theorem dX2_payment_82 : decode cX2_payment 82 = .ok (.iand, 1) := by decide +kernel
theorem dX2_payment_83 : decode cX2_payment 83 = .ok (.ifCond .eq 48, 3) := by decide +kernel
theorem dX2_payment_86 : decode cX2_payment 86 = .ok (.aload_n 0, 1) := by decide +kernel
theorem dX2_payment_87 : decode cX2_payment 87 = .ok (.aload_n 1, 1) := by decide +kernel
theorem dX2_payment_88 : decode cX2_payment 88 = .ok (.iload_n 3, 1) := by decide +kernel
theorem dX2_payment_89 : decode cX2_payment 89 = .ok (.iload 8, 2) := by decide +kernel
theorem dX2_payment_91 : decode cX2_payment 91 = .ok (.invokevirtual 55, 3) := by decide +kernel
theorem dX2_payment_94 : decode cX2_payment 94 = .ok (.ifCond .ne 6, 3) := by decide +kernel
theorem dX2_payment_97 : decode cX2_payment 97 = .ok (.goto 34, 3) := by decide +kernel
theorem dX2_payment_100 : decode cX2_payment 100 = .ok (.aload_n 0, 1) := by decide +kernel
theorem dX2_payment_101 : decode cX2_payment 101 = .ok (.aload_n 1, 1) := by decide +kernel
theorem dX2_payment_102 : decode cX2_payment 102 = .ok (.iload_n 2, 1) := by decide +kernel
theorem dX2_payment_103 : decode cX2_payment 103 = .ok (.iload 8, 2) := by decide +kernel
theorem dX2_payment_105 : decode cX2_payment 105 = .ok (.invokevirtual 58, 3) := by decide +kernel
theorem dX2_payment_108 : decode cX2_payment 108 = .ok (.istore 9, 2) := by decide +kernel
theorem dX2_payment_110 : decode cX2_payment 110 = .ok (.iload 5, 2) := by decide +kernel
theorem dX2_payment_112 : decode cX2_payment 112 = .ok (.iconst (-1), 1) := by decide +kernel
theorem dX2_payment_113 : decode cX2_payment 113 = .ok (.if_icmp .eq 10, 3) := by decide +kernel
theorem dX2_payment_116 : decode cX2_payment 116 = .ok (.iload 9, 2) := by decide +kernel
theorem dX2_payment_118 : decode cX2_payment 118 = .ok (.iload 6, 2) := by decide +kernel
theorem dX2_payment_120 : decode cX2_payment 120 = .ok (.if_icmp .ge 11, 3) := by decide +kernel
theorem dX2_payment_123 : decode cX2_payment 123 = .ok (.iload 8, 2) := by decide +kernel
theorem dX2_payment_125 : decode cX2_payment 125 = .ok (.istore 5, 2) := by decide +kernel
theorem dX2_payment_127 : decode cX2_payment 127 = .ok (.iload 9, 2) := by decide +kernel
theorem dX2_payment_129 : decode cX2_payment 129 = .ok (.istore 6, 2) := by decide +kernel
theorem dX2_payment_131 : decode cX2_payment 131 = .ok (.iinc 8 1, 3) := by decide +kernel
theorem dX2_payment_134 : decode cX2_payment 134 = .ok (.goto (-65), 3) := by decide +kernel
theorem dX2_payment_137 : decode cX2_payment 137 = .ok (.iload 5, 2) := by decide +kernel
theorem dX2_payment_139 : decode cX2_payment 139 = .ok (.ireturn, 1) := by decide +kernel
theorem dX2_deal_0 : decode cX2_deal 0 = .ok (.iload 5, 2) := by decide +kernel
theorem dX2_deal_2 : decode cX2_deal 2 = .ok (.bipush 8, 2) := by decide +kernel
theorem dX2_deal_4 : decode cX2_deal 4 = .ok (.if_icmp .eq 7, 3) := by decide +kernel
theorem dX2_deal_7 : decode cX2_deal 7 = .ok (.iconst 1, 1) := by decide +kernel
theorem dX2_deal_8 : decode cX2_deal 8 = .ok (.goto 4, 3) := by decide +kernel
theorem dX2_deal_11 : decode cX2_deal 11 = .ok (.iconst 0, 1) := by decide +kernel
theorem dX2_deal_12 : decode cX2_deal 12 = .ok (.istore 6, 2) := by decide +kernel
theorem dX2_deal_14 : decode cX2_deal 14 = .ok (.iload 6, 2) := by decide +kernel
theorem dX2_deal_16 : decode cX2_deal 16 = .ok (.ifCond .eq 14, 3) := by decide +kernel
theorem dX2_deal_19 : decode cX2_deal 19 = .ok (.aload_n 0, 1) := by decide +kernel
theorem dX2_deal_20 : decode cX2_deal 20 = .ok (.aload_n 1, 1) := by decide +kernel
theorem dX2_deal_21 : decode cX2_deal 21 = .ok (.iload_n 2, 1) := by decide +kernel
theorem dX2_deal_22 : decode cX2_deal 22 = .ok (.iload 5, 2) := by decide +kernel
theorem dX2_deal_24 : decode cX2_deal 24 = .ok (.invokevirtual 61, 3) := by decide +kernel
theorem dX2_deal_27 : decode cX2_deal 27 = .ok (.goto 4, 3) := by decide +kernel
theorem dX2_deal_30 : decode cX2_deal 30 = .ok (.iconst 0, 1) := by decide +kernel
theorem dX2_deal_31 : decode cX2_deal 31 = .ok (.istore 7, 2) := by decide +kernel
theorem dX2_deal_33 : decode cX2_deal 33 = .ok (.aload_n 0, 1) := by decide +kernel
theorem dX2_deal_34 : decode cX2_deal 34 = .ok (.aload_n 1, 1) := by decide +kernel
theorem dX2_deal_35 : decode cX2_deal 35 = .ok (.iload_n 3, 1) := by decide +kernel
theorem dX2_deal_36 : decode cX2_deal 36 = .ok (.iload 4, 2) := by decide +kernel
theorem dX2_deal_38 : decode cX2_deal 38 = .ok (.invokevirtual 61, 3) := by decide +kernel
theorem dX2_deal_41 : decode cX2_deal 41 = .ok (.istore 8, 2) := by decide +kernel
theorem dX2_deal_43 : decode cX2_deal 43 = .ok (.aload_n 1, 1) := by decide +kernel
theorem dX2_deal_44 : decode cX2_deal 44 = .ok (.iload_n 2, 1) := by decide +kernel
theorem dX2_deal_45 : decode cX2_deal 45 = .ok (.iload 7, 2) := by decide +kernel
theorem dX2_deal_47 : decode cX2_deal 47 = .ok (.invokevirtual 63, 3) := by decide +kernel
theorem dX2_deal_50 : decode cX2_deal 50 = .ok (.aload_n 1, 1) := by decide +kernel
theorem dX2_deal_51 : decode cX2_deal 51 = .ok (.iload_n 3, 1) := by decide +kernel
theorem dX2_deal_52 : decode cX2_deal 52 = .ok (.iload 8, 2) := by decide +kernel
theorem dX2_deal_54 : decode cX2_deal 54 = .ok (.invokevirtual 63, 3) := by decide +kernel
theorem dX2_deal_57 : decode cX2_deal 57 = .ok (.aload_n 1, 1) := by decide +kernel
theorem dX2_deal_58 : decode cX2_deal 58 = .ok (.getfield 52, 3) := by decide +kernel
theorem dX2_deal_61 : decode cX2_deal 61 = .ok (.iload_n 2, 1) := by decide +kernel
theorem dX2_deal_62 : decode cX2_deal 62 = .ok (.dup2, 1) := by decide +kernel
theorem dX2_deal_63 : decode cX2_deal 63 = .ok (.iaload, 1) := by decide +kernel
theorem dX2_deal_64 : decode cX2_deal 64 = .ok (.iconst 1, 1) := by decide +kernel
theorem dX2_deal_65 : decode cX2_deal 65 = .ok (.iload 4, 2) := by decide +kernel
theorem dX2_deal_67 : decode cX2_deal 67 = .ok (.ishl, 1) := by decide +kernel
theorem dX2_deal_68 : decode cX2_deal 68 = .ok (.ior, 1) := by decide +kernel
theorem dX2_deal_69 : decode cX2_deal 69 = .ok (.iastore, 1) := by decide +kernel
theorem dX2_deal_70 : decode cX2_deal 70 = .ok (.iload 6, 2) := by decide +kernel
theorem dX2_deal_72 : decode cX2_deal 72 = .ok (.ifCond .eq 16, 3) := by decide +kernel
theorem dX2_deal_75 : decode cX2_deal 75 = .ok (.aload_n 1, 1) := by decide +kernel
theorem dX2_deal_76 : decode cX2_deal 76 = .ok (.getfield 52, 3) := by decide +kernel
theorem dX2_deal_79 : decode cX2_deal 79 = .ok (.iload_n 3, 1) := by decide +kernel
theorem dX2_deal_80 : decode cX2_deal 80 = .ok (.dup2, 1) := by decide +kernel
theorem dX2_deal_81 : decode cX2_deal 81 = .ok (.iaload, 1) := by decide +kernel
theorem dX2_deal_82 : decode cX2_deal 82 = .ok (.iconst 1, 1) := by decide +kernel
theorem dX2_deal_83 : decode cX2_deal 83 = .ok (.iload 5, 2) := by decide +kernel
theorem dX2_deal_85 : decode cX2_deal 85 = .ok (.ishl, 1) := by decide +kernel
theorem dX2_deal_86 : decode cX2_deal 86 = .ok (.ior, 1) := by decide +kernel
theorem dX2_deal_87 : decode cX2_deal 87 = .ok (.iastore, 1) := by decide +kernel
theorem dX2_deal_88 : decode cX2_deal 88 = .ok (.return_, 1) := by decide +kernel
theorem dX2_rounds_0 : decode cX2_rounds 0 = .ok (.iconst 0, 1) := by decide +kernel
theorem dX2_rounds_1 : decode cX2_rounds 1 = .ok (.istore 4, 2) := by decide +kernel
theorem dX2_rounds_3 : decode cX2_rounds 3 = .ok (.iconst 0, 1) := by decide +kernel
theorem dX2_rounds_4 : decode cX2_rounds 4 = .ok (.istore 5, 2) := by decide +kernel
theorem dX2_rounds_6 : decode cX2_rounds 6 = .ok (.iload 5, 2) := by decide +kernel
theorem dX2_rounds_8 : decode cX2_rounds 8 = .ok (.iload_n 2, 1) := by decide +kernel
theorem dX2_rounds_9 : decode cX2_rounds 9 = .ok (.if_icmp .ge 158, 3) := by decide +kernel
theorem dX2_rounds_12 : decode cX2_rounds 12 = .ok (.iload 4, 2) := by decide +kernel
theorem dX2_rounds_14 : decode cX2_rounds 14 = .ok (.istore 6, 2) := by decide +kernel
theorem dX2_rounds_16 : decode cX2_rounds 16 = .ok (.iconst 0, 1) := by decide +kernel
theorem dX2_rounds_17 : decode cX2_rounds 17 = .ok (.istore 7, 2) := by decide +kernel
theorem dX2_rounds_19 : decode cX2_rounds 19 = .ok (.iload 7, 2) := by decide +kernel
theorem dX2_rounds_21 : decode cX2_rounds 21 = .ok (.aload_n 1, 1) := by decide +kernel
theorem dX2_rounds_22 : decode cX2_rounds 22 = .ok (.getfield 67, 3) := by decide +kernel
theorem dX2_rounds_25 : decode cX2_rounds 25 = .ok (.if_icmp .ge 108, 3) := by decide +kernel
theorem dX2_rounds_28 : decode cX2_rounds 28 = .ok (.iconst 0, 1) := by decide +kernel
theorem dX2_rounds_29 : decode cX2_rounds 29 = .ok (.istore 8, 2) := by decide +kernel
theorem dX2_rounds_31 : decode cX2_rounds 31 = .ok (.iload 8, 2) := by decide +kernel
theorem dX2_rounds_33 : decode cX2_rounds 33 = .ok (.aload_n 1, 1) := by decide +kernel
theorem dX2_rounds_34 : decode cX2_rounds 34 = .ok (.getfield 67, 3) := by decide +kernel
theorem dX2_rounds_37 : decode cX2_rounds 37 = .ok (.if_icmp .ge 90, 3) := by decide +kernel
theorem dX2_rounds_40 : decode cX2_rounds 40 = .ok (.iload 7, 2) := by decide +kernel
theorem dX2_rounds_42 : decode cX2_rounds 42 = .ok (.iload 8, 2) := by decide +kernel
theorem dX2_rounds_44 : decode cX2_rounds 44 = .ok (.if_icmp .eq 77, 3) := by decide +kernel
theorem dX2_rounds_47 : decode cX2_rounds 47 = .ok (.iload 7, 2) := by decide +kernel
theorem dX2_rounds_49 : decode cX2_rounds 49 = .ok (.iload_n 3, 1) := by decide +kernel
theorem dX2_rounds_50 : decode cX2_rounds 50 = .ok (.if_icmp .eq 71, 3) := by decide +kernel
theorem dX2_rounds_53 : decode cX2_rounds 53 = .ok (.iload 8, 2) := by decide +kernel
theorem dX2_rounds_55 : decode cX2_rounds 55 = .ok (.iload_n 3, 1) := by decide +kernel
theorem dX2_rounds_56 : decode cX2_rounds 56 = .ok (.if_icmp .ne 6, 3) := by decide +kernel
theorem dX2_rounds_59 : decode cX2_rounds 59 = .ok (.goto 62, 3) := by decide +kernel
theorem dX2_rounds_62 : decode cX2_rounds 62 = .ok (.aload_n 0, 1) := by decide +kernel
theorem dX2_rounds_63 : decode cX2_rounds 63 = .ok (.aload_n 1, 1) := by decide +kernel
theorem dX2_rounds_64 : decode cX2_rounds 64 = .ok (.iload 7, 2) := by decide +kernel
theorem dX2_rounds_66 : decode cX2_rounds 66 = .ok (.iload 8, 2) := by decide +kernel
theorem dX2_rounds_68 : decode cX2_rounds 68 = .ok (.invokevirtual 71, 3) := by decide +kernel
theorem dX2_rounds_71 : decode cX2_rounds 71 = .ok (.istore 9, 2) := by decide +kernel
theorem dX2_rounds_73 : decode cX2_rounds 73 = .ok (.iload 9, 2) := by decide +kernel
theorem dX2_rounds_75 : decode cX2_rounds 75 = .ok (.iconst (-1), 1) := by decide +kernel
theorem dX2_rounds_76 : decode cX2_rounds 76 = .ok (.if_icmp .ne 7, 3) := by decide +kernel
theorem dX2_rounds_79 : decode cX2_rounds 79 = .ok (.iconst (-1), 1) := by decide +kernel
theorem dX2_rounds_80 : decode cX2_rounds 80 = .ok (.goto 14, 3) := by decide +kernel
theorem dX2_rounds_83 : decode cX2_rounds 83 = .ok (.aload_n 0, 1) := by decide +kernel
theorem dX2_rounds_84 : decode cX2_rounds 84 = .ok (.aload_n 1, 1) := by decide +kernel
theorem dX2_rounds_85 : decode cX2_rounds 85 = .ok (.iload 7, 2) := by decide +kernel
theorem dX2_rounds_87 : decode cX2_rounds 87 = .ok (.iload 8, 2) := by decide +kernel
theorem dX2_rounds_89 : decode cX2_rounds 89 = .ok (.iload 9, 2) := by decide +kernel
theorem dX2_rounds_91 : decode cX2_rounds 91 = .ok (.invokevirtual 74, 3) := by decide +kernel
theorem dX2_rounds_94 : decode cX2_rounds 94 = .ok (.istore 10, 2) := by decide +kernel
theorem dX2_rounds_96 : decode cX2_rounds 96 = .ok (.iload 10, 2) := by decide +kernel
theorem dX2_rounds_98 : decode cX2_rounds 98 = .ok (.iconst (-1), 1) := by decide +kernel
theorem dX2_rounds_99 : decode cX2_rounds 99 = .ok (.if_icmp .ne 6, 3) := by decide +kernel
theorem dX2_rounds_102 : decode cX2_rounds 102 = .ok (.goto 19, 3) := by decide +kernel
theorem dX2_rounds_105 : decode cX2_rounds 105 = .ok (.aload_n 0, 1) := by decide +kernel
theorem dX2_rounds_106 : decode cX2_rounds 106 = .ok (.aload_n 1, 1) := by decide +kernel
theorem dX2_rounds_107 : decode cX2_rounds 107 = .ok (.iload 7, 2) := by decide +kernel
theorem dX2_rounds_109 : decode cX2_rounds 109 = .ok (.iload 8, 2) := by decide +kernel
theorem dX2_rounds_111 : decode cX2_rounds 111 = .ok (.iload 9, 2) := by decide +kernel
theorem dX2_rounds_113 : decode cX2_rounds 113 = .ok (.iload 10, 2) := by decide +kernel
theorem dX2_rounds_115 : decode cX2_rounds 115 = .ok (.invokevirtual 77, 3) := by decide +kernel
theorem dX2_rounds_118 : decode cX2_rounds 118 = .ok (.iinc 4 1, 3) := by decide +kernel
theorem dX2_rounds_121 : decode cX2_rounds 121 = .ok (.iinc 8 1, 3) := by decide +kernel
theorem dX2_rounds_124 : decode cX2_rounds 124 = .ok (.goto (-93), 3) := by decide +kernel
theorem dX2_rounds_127 : decode cX2_rounds 127 = .ok (.iinc 7 1, 3) := by decide +kernel
theorem dX2_rounds_130 : decode cX2_rounds 130 = .ok (.goto (-111), 3) := by decide +kernel
theorem dX2_rounds_133 : decode cX2_rounds 133 = .ok (.aload_n 1, 1) := by decide +kernel
theorem dX2_rounds_134 : decode cX2_rounds 134 = .ok (.dup, 1) := by decide +kernel
theorem dX2_rounds_135 : decode cX2_rounds 135 = .ok (.getfield 81, 3) := by decide +kernel
theorem dX2_rounds_138 : decode cX2_rounds 138 = .ok (.iconst 1, 1) := by decide +kernel
theorem dX2_rounds_139 : decode cX2_rounds 139 = .ok (.iadd, 1) := by decide +kernel
theorem dX2_rounds_140 : decode cX2_rounds 140 = .ok (.putfield 81, 3) := by decide +kernel
theorem dX2_rounds_143 : decode cX2_rounds 143 = .ok (.iload 4, 2) := by decide +kernel
theorem dX2_rounds_145 : decode cX2_rounds 145 = .ok (.iload 6, 2) := by decide +kernel
theorem dX2_rounds_147 : decode cX2_rounds 147 = .ok (.if_icmp .ne 14, 3) := by decide +kernel
theorem dX2_rounds_150 : decode cX2_rounds 150 = .ok (.aload_n 0, 1) := by decide +kernel
theorem dX2_rounds_151 : decode cX2_rounds 151 = .ok (.aload_n 1, 1) := by decide +kernel
theorem dX2_rounds_152 : decode cX2_rounds 152 = .ok (.invokevirtual 84, 3) := by decide +kernel
theorem dX2_rounds_155 : decode cX2_rounds 155 = .ok (.ifCond .eq 6, 3) := by decide +kernel
theorem dX2_rounds_158 : decode cX2_rounds 158 = .ok (.iload 4, 2) := by decide +kernel
theorem dX2_rounds_160 : decode cX2_rounds 160 = .ok (.ireturn, 1) := by decide +kernel
theorem dX2_rounds_161 : decode cX2_rounds 161 = .ok (.iinc 5 1, 3) := by decide +kernel
theorem dX2_rounds_164 : decode cX2_rounds 164 = .ok (.goto (-158), 3) := by decide +kernel
theorem dX2_rounds_167 : decode cX2_rounds 167 = .ok (.iload 4, 2) := by decide +kernel
theorem dX2_rounds_169 : decode cX2_rounds 169 = .ok (.ireturn, 1) := by decide +kernel
theorem dX2_restsForGood_0 : decode cX2_restsForGood 0 = .ok (.aload_n 0, 1) := by decide +kernel
theorem dX2_restsForGood_1 : decode cX2_restsForGood 1 = .ok (.getfield 9, 3) := by decide +kernel
theorem dX2_restsForGood_4 : decode cX2_restsForGood 4 = .ok (.aload_n 1, 1) := by decide +kernel
theorem dX2_restsForGood_5 : decode cX2_restsForGood 5 = .ok (.getfield 88, 3) := by decide +kernel
theorem dX2_restsForGood_8 : decode cX2_restsForGood 8 = .ok (.invokevirtual 91, 3) := by decide +kernel
theorem dX2_restsForGood_11 : decode cX2_restsForGood 11 = .ok (.ifCond .ne 7, 3) := by decide +kernel
theorem dX2_restsForGood_14 : decode cX2_restsForGood 14 = .ok (.iconst 1, 1) := by decide +kernel
theorem dX2_restsForGood_15 : decode cX2_restsForGood 15 = .ok (.goto 4, 3) := by decide +kernel
theorem dX2_restsForGood_18 : decode cX2_restsForGood 18 = .ok (.iconst 0, 1) := by decide +kernel
theorem dX2_restsForGood_19 : decode cX2_restsForGood 19 = .ok (.ireturn, 1) := by decide +kernel
theorem dX2_firstAsked_0 : decode cX2_firstAsked 0 = .ok (.aload_n 1, 1) := by decide +kernel
theorem dX2_firstAsked_1 : decode cX2_firstAsked 1 = .ok (.getfield 95, 3) := by decide +kernel
theorem dX2_firstAsked_4 : decode cX2_firstAsked 4 = .ok (.iload_n 2, 1) := by decide +kernel
theorem dX2_firstAsked_5 : decode cX2_firstAsked 5 = .ok (.iaload, 1) := by decide +kernel
theorem dX2_firstAsked_6 : decode cX2_firstAsked 6 = .ok (.aload_n 1, 1) := by decide +kernel
theorem dX2_firstAsked_7 : decode cX2_firstAsked 7 = .ok (.getfield 52, 3) := by decide +kernel
theorem dX2_firstAsked_10 : decode cX2_firstAsked 10 = .ok (.iload_n 3, 1) := by decide +kernel
theorem dX2_firstAsked_11 : decode cX2_firstAsked 11 = .ok (.iaload, 1) := by decide +kernel
theorem dX2_firstAsked_12 : decode cX2_firstAsked 12 = .ok (.iand, 1) := by decide +kernel
theorem dX2_firstAsked_13 : decode cX2_firstAsked 13 = .ok (.aload_n 1, 1) := by decide +kernel
theorem dX2_firstAsked_14 : decode cX2_firstAsked 14 = .ok (.getfield 52, 3) := by decide +kernel
theorem dX2_firstAsked_17 : decode cX2_firstAsked 17 = .ok (.iload_n 2, 1) := by decide +kernel
theorem dX2_firstAsked_18 : decode cX2_firstAsked 18 = .ok (.iaload, 1) := by decide +kernel
theorem dX2_firstAsked_19 : decode cX2_firstAsked 19 = .ok (.iconst (-1), 1) := by decide +kernel
theorem dX2_firstAsked_20 : decode cX2_firstAsked 20 = .ok (.ixor, 1) := by decide +kernel
theorem dX2_firstAsked_21 : decode cX2_firstAsked 21 = .ok (.iand, 1) := by decide +kernel
theorem dX2_firstAsked_22 : decode cX2_firstAsked 22 = .ok (.istore 4, 2) := by decide +kernel
theorem dX2_firstAsked_24 : decode cX2_firstAsked 24 = .ok (.iload 4, 2) := by decide +kernel
theorem dX2_firstAsked_26 : decode cX2_firstAsked 26 = .ok (.ifCond .ne 5, 3) := by decide +kernel
theorem dX2_firstAsked_29 : decode cX2_firstAsked 29 = .ok (.iconst (-1), 1) := by decide +kernel
theorem dX2_firstAsked_30 : decode cX2_firstAsked 30 = .ok (.ireturn, 1) := by decide +kernel
theorem dX2_firstAsked_31 : decode cX2_firstAsked 31 = .ok (.iconst 0, 1) := by decide +kernel
theorem dX2_firstAsked_32 : decode cX2_firstAsked 32 = .ok (.istore 5, 2) := by decide +kernel
theorem dX2_firstAsked_34 : decode cX2_firstAsked 34 = .ok (.iload 5, 2) := by decide +kernel
theorem dX2_firstAsked_36 : decode cX2_firstAsked 36 = .ok (.bipush 8, 2) := by decide +kernel
theorem dX2_firstAsked_38 : decode cX2_firstAsked 38 = .ok (.if_icmp .ge 22, 3) := by decide +kernel
theorem dX2_firstAsked_41 : decode cX2_firstAsked 41 = .ok (.iload 4, 2) := by decide +kernel
theorem dX2_firstAsked_43 : decode cX2_firstAsked 43 = .ok (.iload 5, 2) := by decide +kernel
theorem dX2_firstAsked_45 : decode cX2_firstAsked 45 = .ok (.ishr, 1) := by decide +kernel
theorem dX2_firstAsked_46 : decode cX2_firstAsked 46 = .ok (.iconst 1, 1) := by decide +kernel
theorem dX2_firstAsked_47 : decode cX2_firstAsked 47 = .ok (.iand, 1) := by decide +kernel
theorem dX2_firstAsked_48 : decode cX2_firstAsked 48 = .ok (.ifCond .eq 6, 3) := by decide +kernel
theorem dX2_firstAsked_51 : decode cX2_firstAsked 51 = .ok (.iload 5, 2) := by decide +kernel
theorem dX2_firstAsked_53 : decode cX2_firstAsked 53 = .ok (.ireturn, 1) := by decide +kernel
theorem dX2_firstAsked_54 : decode cX2_firstAsked 54 = .ok (.iinc 5 1, 3) := by decide +kernel
theorem dX2_firstAsked_57 : decode cX2_firstAsked 57 = .ok (.goto (-23), 3) := by decide +kernel
theorem dX2_firstAsked_60 : decode cX2_firstAsked 60 = .ok (.iconst (-1), 1) := by decide +kernel
theorem dX2_firstAsked_61 : decode cX2_firstAsked 61 = .ok (.ireturn, 1) := by decide +kernel
theorem dX3_init_0 : decode cX3_init 0 = .ok (.aload_n 0, 1) := by decide +kernel
theorem dX3_init_1 : decode cX3_init 1 = .ok (.invokespecial 3, 3) := by decide +kernel
theorem dX3_init_4 : decode cX3_init 4 = .ok (.aload_n 0, 1) := by decide +kernel
theorem dX3_init_5 : decode cX3_init 5 = .ok (.sipush 160, 3) := by decide +kernel
theorem dX3_init_8 : decode cX3_init 8 = .ok (.newarray .int, 2) := by decide +kernel
theorem dX3_init_10 : decode cX3_init 10 = .ok (.putfield 9, 3) := by decide +kernel
theorem dX3_init_13 : decode cX3_init 13 = .ok (.aload_n 0, 1) := by decide +kernel
theorem dX3_init_14 : decode cX3_init 14 = .ok (.iconst 0, 1) := by decide +kernel
theorem dX3_init_15 : decode cX3_init 15 = .ok (.putfield 15, 3) := by decide +kernel
theorem dX3_init_18 : decode cX3_init 18 = .ok (.aload_n 0, 1) := by decide +kernel
theorem dX3_init_19 : decode cX3_init 19 = .ok (.iconst (-1), 1) := by decide +kernel
theorem dX3_init_20 : decode cX3_init 20 = .ok (.putfield 19, 3) := by decide +kernel
theorem dX3_init_23 : decode cX3_init 23 = .ok (.aload_n 0, 1) := by decide +kernel
theorem dX3_init_24 : decode cX3_init 24 = .ok (.iconst 0, 1) := by decide +kernel
theorem dX3_init_25 : decode cX3_init 25 = .ok (.putfield 22, 3) := by decide +kernel
theorem dX3_init_28 : decode cX3_init 28 = .ok (.aload_n 0, 1) := by decide +kernel
theorem dX3_init_29 : decode cX3_init 29 = .ok (.iconst 0, 1) := by decide +kernel
theorem dX3_init_30 : decode cX3_init 30 = .ok (.putfield 25, 3) := by decide +kernel
theorem dX3_init_33 : decode cX3_init 33 = .ok (.aload_n 0, 1) := by decide +kernel
theorem dX3_init_34 : decode cX3_init 34 = .ok (.iconst 0, 1) := by decide +kernel
theorem dX3_init_35 : decode cX3_init 35 = .ok (.putfield 28, 3) := by decide +kernel
theorem dX3_init_38 : decode cX3_init 38 = .ok (.aload_n 0, 1) := by decide +kernel
theorem dX3_init_39 : decode cX3_init 39 = .ok (.iconst 0, 1) := by decide +kernel
theorem dX3_init_40 : decode cX3_init 40 = .ok (.putfield 31, 3) := by decide +kernel
theorem dX3_init_43 : decode cX3_init 43 = .ok (.aload_n 0, 1) := by decide +kernel
theorem dX3_init_44 : decode cX3_init 44 = .ok (.iconst 0, 1) := by decide +kernel
theorem dX3_init_45 : decode cX3_init 45 = .ok (.putfield 34, 3) := by decide +kernel
theorem dX3_init_48 : decode cX3_init 48 = .ok (.aload_n 0, 1) := by decide +kernel
theorem dX3_init_49 : decode cX3_init 49 = .ok (.sipush 160, 3) := by decide +kernel
theorem dX3_init_52 : decode cX3_init 52 = .ok (.newarray .int, 2) := by decide +kernel
theorem dX3_init_54 : decode cX3_init 54 = .ok (.putfield 37, 3) := by decide +kernel
theorem dX3_init_57 : decode cX3_init 57 = .ok (.aload_n 0, 1) := by decide +kernel
theorem dX3_init_58 : decode cX3_init 58 = .ok (.iconst 0, 1) := by decide +kernel
theorem dX3_init_59 : decode cX3_init 59 = .ok (.putfield 40, 3) := by decide +kernel
theorem dX3_init_62 : decode cX3_init 62 = .ok (.return_, 1) := by decide +kernel
theorem dX3_add_0 : decode cX3_add 0 = .ok (.aload_n 0, 1) := by decide +kernel
theorem dX3_add_1 : decode cX3_add 1 = .ok (.getfield 15, 3) := by decide +kernel
theorem dX3_add_4 : decode cX3_add 4 = .ok (.sipush 160, 3) := by decide +kernel
theorem dX3_add_7 : decode cX3_add 7 = .ok (.if_icmp .lt 6, 3) := by decide +kernel
theorem dX3_add_10 : decode cX3_add 10 = .ok (.bipush (-4), 2) := by decide +kernel
theorem dX3_add_12 : decode cX3_add 12 = .ok (.ireturn, 1) := by decide +kernel
theorem dX3_add_13 : decode cX3_add 13 = .ok (.aload_n 0, 1) := by decide +kernel
theorem dX3_add_14 : decode cX3_add 14 = .ok (.getfield 9, 3) := by decide +kernel
theorem dX3_add_17 : decode cX3_add 17 = .ok (.aload_n 0, 1) := by decide +kernel
theorem dX3_add_18 : decode cX3_add 18 = .ok (.getfield 15, 3) := by decide +kernel
theorem dX3_add_21 : decode cX3_add 21 = .ok (.iload_n 1, 1) := by decide +kernel
theorem dX3_add_22 : decode cX3_add 22 = .ok (.iastore, 1) := by decide +kernel
theorem dX3_add_23 : decode cX3_add 23 = .ok (.aload_n 0, 1) := by decide +kernel
theorem dX3_add_24 : decode cX3_add 24 = .ok (.dup, 1) := by decide +kernel
theorem dX3_add_25 : decode cX3_add 25 = .ok (.getfield 15, 3) := by decide +kernel
theorem dX3_add_28 : decode cX3_add 28 = .ok (.iconst 1, 1) := by decide +kernel
theorem dX3_add_29 : decode cX3_add 29 = .ok (.iadd, 1) := by decide +kernel
theorem dX3_add_30 : decode cX3_add 30 = .ok (.putfield 15, 3) := by decide +kernel
theorem dX3_add_33 : decode cX3_add 33 = .ok (.aload_n 0, 1) := by decide +kernel
theorem dX3_add_34 : decode cX3_add 34 = .ok (.getfield 15, 3) := by decide +kernel
theorem dX3_add_37 : decode cX3_add 37 = .ok (.ireturn, 1) := by decide +kernel
theorem dX3_write_0 : decode cX3_write 0 = .ok (.iconst 0, 1) := by decide +kernel
theorem dX3_write_1 : decode cX3_write 1 = .ok (.istore_n 2, 1) := by decide +kernel
theorem dX3_write_2 : decode cX3_write 2 = .ok (.iload_n 2, 1) := by decide +kernel
theorem dX3_write_3 : decode cX3_write 3 = .ok (.aload_n 1, 1) := by decide +kernel
theorem dX3_write_4 : decode cX3_write 4 = .ok (.invokevirtual 43, 3) := by decide +kernel
theorem dX3_write_7 : decode cX3_write 7 = .ok (.if_icmp .ge 19, 3) := by decide +kernel
theorem dX3_write_10 : decode cX3_write 10 = .ok (.aload_n 0, 1) := by decide +kernel
theorem dX3_write_11 : decode cX3_write 11 = .ok (.aload_n 1, 1) := by decide +kernel
theorem dX3_write_12 : decode cX3_write 12 = .ok (.iload_n 2, 1) := by decide +kernel
theorem dX3_write_13 : decode cX3_write 13 = .ok (.invokevirtual 48, 3) := by decide +kernel
theorem dX3_write_16 : decode cX3_write 16 = .ok (.invokevirtual 52, 3) := by decide +kernel
theorem dX3_write_19 : decode cX3_write 19 = .ok (.pop, 1) := by decide +kernel
theorem dX3_write_20 : decode cX3_write 20 = .ok (.iinc 2 1, 3) := by decide +kernel
theorem dX3_write_23 : decode cX3_write 23 = .ok (.goto (-21), 3) := by decide +kernel
theorem dX3_write_26 : decode cX3_write 26 = .ok (.return_, 1) := by decide +kernel
theorem dX3_read_0 : decode cX3_read 0 = .ok (.aload_n 0, 1) := by decide +kernel
theorem dX3_read_1 : decode cX3_read 1 = .ok (.iconst (-1), 1) := by decide +kernel
theorem dX3_read_2 : decode cX3_read 2 = .ok (.putfield 19, 3) := by decide +kernel
theorem dX3_read_5 : decode cX3_read 5 = .ok (.aload_n 0, 1) := by decide +kernel
theorem dX3_read_6 : decode cX3_read 6 = .ok (.iconst 0, 1) := by decide +kernel
theorem dX3_read_7 : decode cX3_read 7 = .ok (.putfield 31, 3) := by decide +kernel
theorem dX3_read_10 : decode cX3_read 10 = .ok (.aload_n 0, 1) := by decide +kernel
theorem dX3_read_11 : decode cX3_read 11 = .ok (.iconst 0, 1) := by decide +kernel
theorem dX3_read_12 : decode cX3_read 12 = .ok (.putfield 34, 3) := by decide +kernel
theorem dX3_read_15 : decode cX3_read 15 = .ok (.aload_n 0, 1) := by decide +kernel
theorem dX3_read_16 : decode cX3_read 16 = .ok (.iconst 0, 1) := by decide +kernel
theorem dX3_read_17 : decode cX3_read 17 = .ok (.putfield 40, 3) := by decide +kernel
theorem dX3_read_20 : decode cX3_read 20 = .ok (.aload_n 0, 1) := by decide +kernel
theorem dX3_read_21 : decode cX3_read 21 = .ok (.invokevirtual 56, 3) := by decide +kernel
theorem dX3_read_24 : decode cX3_read 24 = .ok (.aload_n 0, 1) := by decide +kernel
theorem dX3_read_25 : decode cX3_read 25 = .ok (.bipush 10, 2) := by decide +kernel
theorem dX3_read_27 : decode cX3_read 27 = .ok (.invokevirtual 59, 3) := by decide +kernel
theorem dX3_read_30 : decode cX3_read 30 = .ok (.aload_n 0, 1) := by decide +kernel
theorem dX3_read_31 : decode cX3_read 31 = .ok (.iconst 0, 1) := by decide +kernel
theorem dX3_read_32 : decode cX3_read 32 = .ok (.invokevirtual 63, 3) := by decide +kernel
theorem dX3_read_35 : decode cX3_read 35 = .ok (.aload_n 0, 1) := by decide +kernel
theorem dX3_read_36 : decode cX3_read 36 = .ok (.bipush 59, 2) := by decide +kernel
theorem dX3_read_38 : decode cX3_read 38 = .ok (.invokevirtual 59, 3) := by decide +kernel
theorem dX3_read_41 : decode cX3_read 41 = .ok (.aload_n 0, 1) := by decide +kernel
theorem dX3_read_42 : decode cX3_read 42 = .ok (.getfield 40, 3) := by decide +kernel
theorem dX3_read_45 : decode cX3_read 45 = .ok (.istore_n 1, 1) := by decide +kernel
theorem dX3_read_46 : decode cX3_read 46 = .ok (.aload_n 0, 1) := by decide +kernel
theorem dX3_read_47 : decode cX3_read 47 = .ok (.bipush 11, 2) := by decide +kernel
theorem dX3_read_49 : decode cX3_read 49 = .ok (.invokevirtual 59, 3) := by decide +kernel
theorem dX3_read_52 : decode cX3_read 52 = .ok (.aload_n 0, 1) := by decide +kernel
theorem dX3_read_53 : decode cX3_read 53 = .ok (.iconst 0, 1) := by decide +kernel
theorem dX3_read_54 : decode cX3_read 54 = .ok (.invokevirtual 63, 3) := by decide +kernel
theorem dX3_read_57 : decode cX3_read 57 = .ok (.aload_n 0, 1) := by decide +kernel
theorem dX3_read_58 : decode cX3_read 58 = .ok (.bipush 59, 2) := by decide +kernel
theorem dX3_read_60 : decode cX3_read 60 = .ok (.invokevirtual 59, 3) := by decide +kernel
theorem dX3_read_63 : decode cX3_read 63 = .ok (.aload_n 0, 1) := by decide +kernel
theorem dX3_read_64 : decode cX3_read 64 = .ok (.getfield 40, 3) := by decide +kernel
theorem dX3_read_67 : decode cX3_read 67 = .ok (.istore_n 2, 1) := by decide +kernel
theorem dX3_read_68 : decode cX3_read 68 = .ok (.aload_n 0, 1) := by decide +kernel
theorem dX3_read_69 : decode cX3_read 69 = .ok (.bipush 12, 2) := by decide +kernel
theorem dX3_read_71 : decode cX3_read 71 = .ok (.invokevirtual 59, 3) := by decide +kernel
theorem dX3_read_74 : decode cX3_read 74 = .ok (.aload_n 0, 1) := by decide +kernel
theorem dX3_read_75 : decode cX3_read 75 = .ok (.iconst 0, 1) := by decide +kernel
theorem dX3_read_76 : decode cX3_read 76 = .ok (.invokevirtual 63, 3) := by decide +kernel
theorem dX3_read_79 : decode cX3_read 79 = .ok (.aload_n 0, 1) := by decide +kernel
theorem dX3_read_80 : decode cX3_read 80 = .ok (.bipush 59, 2) := by decide +kernel
theorem dX3_read_82 : decode cX3_read 82 = .ok (.invokevirtual 59, 3) := by decide +kernel
theorem dX3_read_85 : decode cX3_read 85 = .ok (.aload_n 0, 1) := by decide +kernel
theorem dX3_read_86 : decode cX3_read 86 = .ok (.getfield 22, 3) := by decide +kernel
theorem dX3_read_89 : decode cX3_read 89 = .ok (.ifCond .eq 7, 3) := by decide +kernel
theorem dX3_read_92 : decode cX3_read 92 = .ok (.aload_n 0, 1) := by decide +kernel
theorem dX3_read_93 : decode cX3_read 93 = .ok (.invokevirtual 66, 3) := by decide +kernel
theorem dX3_read_96 : decode cX3_read 96 = .ok (.aload_n 0, 1) := by decide +kernel
theorem dX3_read_97 : decode cX3_read 97 = .ok (.iconst 0, 1) := by decide +kernel
theorem dX3_read_98 : decode cX3_read 98 = .ok (.putfield 15, 3) := by decide +kernel
theorem dX3_read_101 : decode cX3_read 101 = .ok (.aload_n 0, 1) := by decide +kernel
theorem dX3_read_102 : decode cX3_read 102 = .ok (.getfield 19, 3) := by decide +kernel
theorem dX3_read_105 : decode cX3_read 105 = .ok (.iconst (-1), 1) := by decide +kernel
theorem dX3_read_106 : decode cX3_read 106 = .ok (.if_icmp .ne 26, 3) := by decide +kernel
theorem dX3_read_109 : decode cX3_read 109 = .ok (.new 69, 3) := by decide +kernel
theorem dX3_read_112 : decode cX3_read 112 = .ok (.dup, 1) := by decide +kernel
theorem dX3_read_113 : decode cX3_read 113 = .ok (.aload_n 0, 1) := by decide +kernel
theorem dX3_read_114 : decode cX3_read 114 = .ok (.getfield 37, 3) := by decide +kernel
theorem dX3_read_117 : decode cX3_read 117 = .ok (.aload_n 0, 1) := by decide +kernel
theorem dX3_read_118 : decode cX3_read 118 = .ok (.getfield 40, 3) := by decide +kernel
theorem dX3_read_121 : decode cX3_read 121 = .ok (.invokestatic 71, 3) := by decide +kernel
theorem dX3_read_124 : decode cX3_read 124 = .ok (.iload_n 1, 1) := by decide +kernel
theorem dX3_read_125 : decode cX3_read 125 = .ok (.iload_n 2, 1) := by decide +kernel
theorem dX3_read_126 : decode cX3_read 126 = .ok (.invokespecial 77, 3) := by decide +kernel
theorem dX3_read_129 : decode cX3_read 129 = .ok (.goto 4, 3) := by decide +kernel
theorem dX3_read_132 : decode cX3_read 132 = .ok (.aconst_null, 1) := by decide +kernel
theorem dX3_read_133 : decode cX3_read 133 = .ok (.areturn, 1) := by decide +kernel
theorem dX3_phrase_0 : decode cX3_phrase 0 = .ok (.iload_n 1, 1) := by decide +kernel
theorem dX3_phrase_1 : decode cX3_phrase 1 = .ok (.iconst 5, 1) := by decide +kernel
theorem dX3_phrase_2 : decode cX3_phrase 2 = .ok (.if_icmp .lt 8, 3) := by decide +kernel
theorem dX3_phrase_5 : decode cX3_phrase 5 = .ok (.aload_n 0, 1) := by decide +kernel
theorem dX3_phrase_6 : decode cX3_phrase 6 = .ok (.invokevirtual 80, 3) := by decide +kernel
theorem dX3_phrase_9 : decode cX3_phrase 9 = .ok (.return_, 1) := by decide +kernel
theorem dX3_phrase_10 : decode cX3_phrase 10 = .ok (.iload_n 1, 1) := by decide +kernel
theorem dX3_phrase_11 : decode cX3_phrase 11 = .ok (.iconst 2, 1) := by decide +kernel
theorem dX3_phrase_12 : decode cX3_phrase 12 = .ok (.if_icmp .ne 46, 3) := by decide +kernel
theorem dX3_phrase_15 : decode cX3_phrase 15 = .ok (.aload_n 0, 1) := by decide +kernel
theorem dX3_phrase_16 : decode cX3_phrase 16 = .ok (.getfield 22, 3) := by decide +kernel
theorem dX3_phrase_19 : decode cX3_phrase 19 = .ok (.bipush 15, 2) := by decide +kernel
theorem dX3_phrase_21 : decode cX3_phrase 21 = .ok (.if_icmp .ne 37, 3) := by decide +kernel
theorem dX3_phrase_24 : decode cX3_phrase 24 = .ok (.aload_n 0, 1) := by decide +kernel
theorem dX3_phrase_25 : decode cX3_phrase 25 = .ok (.invokevirtual 83, 3) := by decide +kernel
theorem dX3_phrase_28 : decode cX3_phrase 28 = .ok (.ifCond .ne 4, 3) := by decide +kernel
theorem dX3_phrase_31 : decode cX3_phrase 31 = .ok (.return_, 1) := by decide +kernel
theorem dX3_phrase_32 : decode cX3_phrase 32 = .ok (.aload_n 0, 1) := by decide +kernel
theorem dX3_phrase_33 : decode cX3_phrase 33 = .ok (.invokevirtual 56, 3) := by decide +kernel
theorem dX3_phrase_36 : decode cX3_phrase 36 = .ok (.aload_n 0, 1) := by decide +kernel
theorem dX3_phrase_37 : decode cX3_phrase 37 = .ok (.iconst 2, 1) := by decide +kernel
theorem dX3_phrase_38 : decode cX3_phrase 38 = .ok (.invokevirtual 63, 3) := by decide +kernel
theorem dX3_phrase_41 : decode cX3_phrase 41 = .ok (.aload_n 0, 1) := by decide +kernel
theorem dX3_phrase_42 : decode cX3_phrase 42 = .ok (.dup, 1) := by decide +kernel
theorem dX3_phrase_43 : decode cX3_phrase 43 = .ok (.getfield 34, 3) := by decide +kernel
theorem dX3_phrase_46 : decode cX3_phrase 46 = .ok (.iconst 1, 1) := by decide +kernel
theorem dX3_phrase_47 : decode cX3_phrase 47 = .ok (.isub, 1) := by decide +kernel
theorem dX3_phrase_48 : decode cX3_phrase 48 = .ok (.putfield 34, 3) := by decide +kernel
theorem dX3_phrase_51 : decode cX3_phrase 51 = .ok (.aload_n 0, 1) := by decide +kernel
theorem dX3_phrase_52 : decode cX3_phrase 52 = .ok (.bipush (-9), 2) := by decide +kernel
theorem dX3_phrase_54 : decode cX3_phrase 54 = .ok (.invokevirtual 87, 3) := by decide +kernel
theorem dX3_phrase_57 : decode cX3_phrase 57 = .ok (.return_, 1) := by decide +kernel
theorem dX3_phrase_58 : decode cX3_phrase 58 = .ok (.aload_n 0, 1) := by decide +kernel
theorem dX3_phrase_59 : decode cX3_phrase 59 = .ok (.iload_n 1, 1) := by decide +kernel
theorem dX3_phrase_60 : decode cX3_phrase 60 = .ok (.iconst 1, 1) := by decide +kernel
theorem dX3_phrase_61 : decode cX3_phrase 61 = .ok (.iadd, 1) := by decide +kernel
theorem dX3_phrase_62 : decode cX3_phrase 62 = .ok (.invokevirtual 63, 3) := by decide +kernel
theorem dX3_phrase_65 : decode cX3_phrase 65 = .ok (.iload_n 1, 1) := by decide +kernel
theorem dX3_phrase_66 : decode cX3_phrase 66 = .ok (.iconst 2, 1) := by decide +kernel
theorem dX3_phrase_67 : decode cX3_phrase 67 = .ok (.if_icmp .ne 7, 3) := by decide +kernel
theorem dX3_phrase_70 : decode cX3_phrase 70 = .ok (.iconst 1, 1) := by decide +kernel
theorem dX3_phrase_71 : decode cX3_phrase 71 = .ok (.goto 6, 3) := by decide +kernel
theorem dX3_phrase_74 : decode cX3_phrase 74 = .ok (.sipush 160, 3) := by decide +kernel
theorem dX3_phrase_77 : decode cX3_phrase 77 = .ok (.istore_n 2, 1) := by decide +kernel
theorem dX3_phrase_78 : decode cX3_phrase 78 = .ok (.iconst 0, 1) := by decide +kernel
theorem dX3_phrase_79 : decode cX3_phrase 79 = .ok (.istore_n 3, 1) := by decide +kernel
theorem dX3_phrase_80 : decode cX3_phrase 80 = .ok (.iload_n 3, 1) := by decide +kernel
theorem dX3_phrase_81 : decode cX3_phrase 81 = .ok (.iload_n 2, 1) := by decide +kernel
theorem dX3_phrase_82 : decode cX3_phrase 82 = .ok (.if_icmp .ge 43, 3) := by decide +kernel
theorem dX3_phrase_85 : decode cX3_phrase 85 = .ok (.aload_n 0, 1) := by decide +kernel
theorem dX3_phrase_86 : decode cX3_phrase 86 = .ok (.iload_n 1, 1) := by decide +kernel
theorem dX3_phrase_87 : decode cX3_phrase 87 = .ok (.invokevirtual 90, 3) := by decide +kernel
theorem dX3_phrase_90 : decode cX3_phrase 90 = .ok (.istore 4, 2) := by decide +kernel
theorem dX3_phrase_92 : decode cX3_phrase 92 = .ok (.iload 4, 2) := by decide +kernel
theorem dX3_phrase_94 : decode cX3_phrase 94 = .ok (.iconst (-1), 1) := by decide +kernel
theorem dX3_phrase_95 : decode cX3_phrase 95 = .ok (.if_icmp .ne 4, 3) := by decide +kernel
theorem dX3_phrase_98 : decode cX3_phrase 98 = .ok (.return_, 1) := by decide +kernel
theorem dX3_phrase_99 : decode cX3_phrase 99 = .ok (.aload_n 0, 1) := by decide +kernel
theorem dX3_phrase_100 : decode cX3_phrase 100 = .ok (.invokevirtual 56, 3) := by decide +kernel
theorem dX3_phrase_103 : decode cX3_phrase 103 = .ok (.aload_n 0, 1) := by decide +kernel
theorem dX3_phrase_104 : decode cX3_phrase 104 = .ok (.iload_n 1, 1) := by decide +kernel
theorem dX3_phrase_105 : decode cX3_phrase 105 = .ok (.iconst 1, 1) := by decide +kernel
theorem dX3_phrase_106 : decode cX3_phrase 106 = .ok (.iadd, 1) := by decide +kernel
theorem dX3_phrase_107 : decode cX3_phrase 107 = .ok (.invokevirtual 63, 3) := by decide +kernel
theorem dX3_phrase_110 : decode cX3_phrase 110 = .ok (.aload_n 0, 1) := by decide +kernel
theorem dX3_phrase_111 : decode cX3_phrase 111 = .ok (.bipush (-7), 2) := by decide +kernel
theorem dX3_phrase_113 : decode cX3_phrase 113 = .ok (.iload 4, 2) := by decide +kernel
theorem dX3_phrase_115 : decode cX3_phrase 115 = .ok (.isub, 1) := by decide +kernel
theorem dX3_phrase_116 : decode cX3_phrase 116 = .ok (.invokevirtual 87, 3) := by decide +kernel
theorem dX3_phrase_119 : decode cX3_phrase 119 = .ok (.iinc 3 1, 3) := by decide +kernel
theorem dX3_phrase_122 : decode cX3_phrase 122 = .ok (.goto (-42), 3) := by decide +kernel
theorem dX3_phrase_125 : decode cX3_phrase 125 = .ok (.return_, 1) := by decide +kernel
theorem dX3_joinAt_0 : decode cX3_joinAt 0 = .ok (.aload_n 0, 1) := by decide +kernel
theorem dX3_joinAt_1 : decode cX3_joinAt 1 = .ok (.getfield 22, 3) := by decide +kernel
theorem dX3_joinAt_4 : decode cX3_joinAt 4 = .ok (.lookupswitch 146 #[(13, 68), (14, 78), (42, 134), (43, 111), (45, 122), (60, 89), (61, 100)], 68) := by decide +kernel
theorem dX3_joinAt_72 : decode cX3_joinAt 72 = .ok (.iload_n 1, 1) := by decide +kernel
theorem dX3_joinAt_73 : decode cX3_joinAt 73 = .ok (.ifCond .ne 7, 3) := by decide +kernel
theorem dX3_joinAt_76 : decode cX3_joinAt 76 = .ok (.iconst 0, 1) := by decide +kernel
theorem dX3_joinAt_77 : decode cX3_joinAt 77 = .ok (.goto 4, 3) := by decide +kernel
theorem dX3_joinAt_80 : decode cX3_joinAt 80 = .ok (.iconst (-1), 1) := by decide +kernel
theorem dX3_joinAt_81 : decode cX3_joinAt 81 = .ok (.ireturn, 1) := by decide +kernel
theorem dX3_joinAt_82 : decode cX3_joinAt 82 = .ok (.iload_n 1, 1) := by decide +kernel
theorem dX3_joinAt_83 : decode cX3_joinAt 83 = .ok (.iconst 1, 1) := by decide +kernel
theorem dX3_joinAt_84 : decode cX3_joinAt 84 = .ok (.if_icmp .ne 7, 3) := by decide +kernel
theorem dX3_joinAt_87 : decode cX3_joinAt 87 = .ok (.iconst 1, 1) := by decide +kernel
theorem dX3_joinAt_88 : decode cX3_joinAt 88 = .ok (.goto 4, 3) := by decide +kernel
theorem dX3_joinAt_91 : decode cX3_joinAt 91 = .ok (.iconst (-1), 1) := by decide +kernel
theorem dX3_joinAt_92 : decode cX3_joinAt 92 = .ok (.ireturn, 1) := by decide +kernel
theorem dX3_joinAt_93 : decode cX3_joinAt 93 = .ok (.iload_n 1, 1) := by decide +kernel
theorem dX3_joinAt_94 : decode cX3_joinAt 94 = .ok (.iconst 2, 1) := by decide +kernel
theorem dX3_joinAt_95 : decode cX3_joinAt 95 = .ok (.if_icmp .ne 7, 3) := by decide +kernel
theorem dX3_joinAt_98 : decode cX3_joinAt 98 = .ok (.iconst 3, 1) := by decide +kernel
theorem dX3_joinAt_99 : decode cX3_joinAt 99 = .ok (.goto 4, 3) := by decide +kernel
theorem dX3_joinAt_102 : decode cX3_joinAt 102 = .ok (.iconst (-1), 1) := by decide +kernel
theorem dX3_joinAt_103 : decode cX3_joinAt 103 = .ok (.ireturn, 1) := by decide +kernel
theorem dX3_joinAt_104 : decode cX3_joinAt 104 = .ok (.iload_n 1, 1) := by decide +kernel
theorem dX3_joinAt_105 : decode cX3_joinAt 105 = .ok (.iconst 2, 1) := by decide +kernel
theorem dX3_joinAt_106 : decode cX3_joinAt 106 = .ok (.if_icmp .ne 7, 3) := by decide +kernel
theorem dX3_joinAt_109 : decode cX3_joinAt 109 = .ok (.iconst 4, 1) := by decide +kernel
theorem dX3_joinAt_110 : decode cX3_joinAt 110 = .ok (.goto 4, 3) := by decide +kernel
theorem dX3_joinAt_113 : decode cX3_joinAt 113 = .ok (.iconst (-1), 1) := by decide +kernel
theorem dX3_joinAt_114 : decode cX3_joinAt 114 = .ok (.ireturn, 1) := by decide +kernel
theorem dX3_joinAt_115 : decode cX3_joinAt 115 = .ok (.iload_n 1, 1) := by decide +kernel
theorem dX3_joinAt_116 : decode cX3_joinAt 116 = .ok (.iconst 3, 1) := by decide +kernel
theorem dX3_joinAt_117 : decode cX3_joinAt 117 = .ok (.if_icmp .ne 7, 3) := by decide +kernel
theorem dX3_joinAt_120 : decode cX3_joinAt 120 = .ok (.iconst 5, 1) := by decide +kernel
theorem dX3_joinAt_121 : decode cX3_joinAt 121 = .ok (.goto 4, 3) := by decide +kernel
theorem dX3_joinAt_124 : decode cX3_joinAt 124 = .ok (.iconst (-1), 1) := by decide +kernel
theorem dX3_joinAt_125 : decode cX3_joinAt 125 = .ok (.ireturn, 1) := by decide +kernel
theorem dX3_joinAt_126 : decode cX3_joinAt 126 = .ok (.iload_n 1, 1) := by decide +kernel
theorem dX3_joinAt_127 : decode cX3_joinAt 127 = .ok (.iconst 3, 1) := by decide +kernel
theorem dX3_joinAt_128 : decode cX3_joinAt 128 = .ok (.if_icmp .ne 8, 3) := by decide +kernel
theorem dX3_joinAt_131 : decode cX3_joinAt 131 = .ok (.bipush 6, 2) := by decide +kernel
theorem dX3_joinAt_133 : decode cX3_joinAt 133 = .ok (.goto 4, 3) := by decide +kernel
theorem dX3_joinAt_136 : decode cX3_joinAt 136 = .ok (.iconst (-1), 1) := by decide +kernel
theorem dX3_joinAt_137 : decode cX3_joinAt 137 = .ok (.ireturn, 1) := by decide +kernel
theorem dX3_joinAt_138 : decode cX3_joinAt 138 = .ok (.iload_n 1, 1) := by decide +kernel
theorem dX3_joinAt_139 : decode cX3_joinAt 139 = .ok (.iconst 4, 1) := by decide +kernel
theorem dX3_joinAt_140 : decode cX3_joinAt 140 = .ok (.if_icmp .ne 8, 3) := by decide +kernel
theorem dX3_joinAt_143 : decode cX3_joinAt 143 = .ok (.bipush 7, 2) := by decide +kernel
theorem dX3_joinAt_145 : decode cX3_joinAt 145 = .ok (.goto 4, 3) := by decide +kernel
theorem dX3_joinAt_148 : decode cX3_joinAt 148 = .ok (.iconst (-1), 1) := by decide +kernel
theorem dX3_joinAt_149 : decode cX3_joinAt 149 = .ok (.ireturn, 1) := by decide +kernel
theorem dX3_joinAt_150 : decode cX3_joinAt 150 = .ok (.iconst (-1), 1) := by decide +kernel
theorem dX3_joinAt_151 : decode cX3_joinAt 151 = .ok (.ireturn, 1) := by decide +kernel
theorem dX3_one_0 : decode cX3_one 0 = .ok (.aload_n 0, 1) := by decide +kernel
theorem dX3_one_1 : decode cX3_one 1 = .ok (.getfield 22, 3) := by decide +kernel
theorem dX3_one_4 : decode cX3_one 4 = .ok (.lookupswitch 139 #[(2, 44), (3, 57), (40, 105), (45, 72)], 44) := by decide +kernel
theorem dX3_one_48 : decode cX3_one 48 = .ok (.aload_n 0, 1) := by decide +kernel
theorem dX3_one_49 : decode cX3_one 49 = .ok (.aload_n 0, 1) := by decide +kernel
theorem dX3_one_50 : decode cX3_one 50 = .ok (.getfield 28, 3) := by decide +kernel
theorem dX3_one_53 : decode cX3_one 53 = .ok (.invokevirtual 87, 3) := by decide +kernel
theorem dX3_one_56 : decode cX3_one 56 = .ok (.aload_n 0, 1) := by decide +kernel
theorem dX3_one_57 : decode cX3_one 57 = .ok (.invokevirtual 56, 3) := by decide +kernel
theorem dX3_one_60 : decode cX3_one 60 = .ok (.return_, 1) := by decide +kernel
theorem dX3_one_61 : decode cX3_one 61 = .ok (.aload_n 0, 1) := by decide +kernel
theorem dX3_one_62 : decode cX3_one 62 = .ok (.iconst (-1), 1) := by decide +kernel
theorem dX3_one_63 : decode cX3_one 63 = .ok (.aload_n 0, 1) := by decide +kernel
theorem dX3_one_64 : decode cX3_one 64 = .ok (.getfield 28, 3) := by decide +kernel
theorem dX3_one_67 : decode cX3_one 67 = .ok (.isub, 1) := by decide +kernel
theorem dX3_one_68 : decode cX3_one 68 = .ok (.invokevirtual 87, 3) := by decide +kernel
theorem dX3_one_71 : decode cX3_one 71 = .ok (.aload_n 0, 1) := by decide +kernel
theorem dX3_one_72 : decode cX3_one 72 = .ok (.invokevirtual 56, 3) := by decide +kernel
theorem dX3_one_75 : decode cX3_one 75 = .ok (.return_, 1) := by decide +kernel
theorem dX3_one_76 : decode cX3_one 76 = .ok (.aload_n 0, 1) := by decide +kernel
theorem dX3_one_77 : decode cX3_one 77 = .ok (.invokevirtual 83, 3) := by decide +kernel
theorem dX3_one_80 : decode cX3_one 80 = .ok (.ifCond .ne 4, 3) := by decide +kernel
theorem dX3_one_83 : decode cX3_one 83 = .ok (.return_, 1) := by decide +kernel
theorem dX3_one_84 : decode cX3_one 84 = .ok (.aload_n 0, 1) := by decide +kernel
theorem dX3_one_85 : decode cX3_one 85 = .ok (.invokevirtual 56, 3) := by decide +kernel
theorem dX3_one_88 : decode cX3_one 88 = .ok (.aload_n 0, 1) := by decide +kernel
theorem dX3_one_89 : decode cX3_one 89 = .ok (.invokevirtual 80, 3) := by decide +kernel
theorem dX3_one_92 : decode cX3_one 92 = .ok (.aload_n 0, 1) := by decide +kernel
theorem dX3_one_93 : decode cX3_one 93 = .ok (.dup, 1) := by decide +kernel
theorem dX3_one_94 : decode cX3_one 94 = .ok (.getfield 34, 3) := by decide +kernel
theorem dX3_one_97 : decode cX3_one 97 = .ok (.iconst 1, 1) := by decide +kernel
theorem dX3_one_98 : decode cX3_one 98 = .ok (.isub, 1) := by decide +kernel
theorem dX3_one_99 : decode cX3_one 99 = .ok (.putfield 34, 3) := by decide +kernel
theorem dX3_one_102 : decode cX3_one 102 = .ok (.aload_n 0, 1) := by decide +kernel
theorem dX3_one_103 : decode cX3_one 103 = .ok (.bipush (-15), 2) := by decide +kernel
theorem dX3_one_105 : decode cX3_one 105 = .ok (.invokevirtual 87, 3) := by decide +kernel
theorem dX3_one_108 : decode cX3_one 108 = .ok (.return_, 1) := by decide +kernel
theorem dX3_one_109 : decode cX3_one 109 = .ok (.aload_n 0, 1) := by decide +kernel
theorem dX3_one_110 : decode cX3_one 110 = .ok (.invokevirtual 83, 3) := by decide +kernel
theorem dX3_one_113 : decode cX3_one 113 = .ok (.ifCond .ne 4, 3) := by decide +kernel
theorem dX3_one_116 : decode cX3_one 116 = .ok (.return_, 1) := by decide +kernel
theorem dX3_one_117 : decode cX3_one 117 = .ok (.aload_n 0, 1) := by decide +kernel
theorem dX3_one_118 : decode cX3_one 118 = .ok (.invokevirtual 56, 3) := by decide +kernel
theorem dX3_one_121 : decode cX3_one 121 = .ok (.aload_n 0, 1) := by decide +kernel
theorem dX3_one_122 : decode cX3_one 122 = .ok (.iconst 0, 1) := by decide +kernel
theorem dX3_one_123 : decode cX3_one 123 = .ok (.invokevirtual 63, 3) := by decide +kernel
theorem dX3_one_126 : decode cX3_one 126 = .ok (.aload_n 0, 1) := by decide +kernel
theorem dX3_one_127 : decode cX3_one 127 = .ok (.bipush 41, 2) := by decide +kernel
theorem dX3_one_129 : decode cX3_one 129 = .ok (.invokevirtual 59, 3) := by decide +kernel
theorem dX3_one_132 : decode cX3_one 132 = .ok (.aload_n 0, 1) := by decide +kernel
theorem dX3_one_133 : decode cX3_one 133 = .ok (.dup, 1) := by decide +kernel
theorem dX3_one_134 : decode cX3_one 134 = .ok (.getfield 34, 3) := by decide +kernel
theorem dX3_one_137 : decode cX3_one 137 = .ok (.iconst 1, 1) := by decide +kernel
theorem dX3_one_138 : decode cX3_one 138 = .ok (.isub, 1) := by decide +kernel
theorem dX3_one_139 : decode cX3_one 139 = .ok (.putfield 34, 3) := by decide +kernel
theorem dX3_one_142 : decode cX3_one 142 = .ok (.return_, 1) := by decide +kernel
theorem dX3_one_143 : decode cX3_one 143 = .ok (.aload_n 0, 1) := by decide +kernel
theorem dX3_one_144 : decode cX3_one 144 = .ok (.invokevirtual 66, 3) := by decide +kernel
theorem dX3_one_147 : decode cX3_one 147 = .ok (.return_, 1) := by decide +kernel
theorem dX3_opens_0 : decode cX3_opens 0 = .ok (.aload_n 0, 1) := by decide +kernel
theorem dX3_opens_1 : decode cX3_opens 1 = .ok (.getfield 34, 3) := by decide +kernel
theorem dX3_opens_4 : decode cX3_opens 4 = .ok (.iconst 5, 1) := by decide +kernel
theorem dX3_opens_5 : decode cX3_opens 5 = .ok (.if_icmp .lt 9, 3) := by decide +kernel
theorem dX3_opens_8 : decode cX3_opens 8 = .ok (.aload_n 0, 1) := by decide +kernel
theorem dX3_opens_9 : decode cX3_opens 9 = .ok (.invokevirtual 66, 3) := by decide +kernel
theorem dX3_opens_12 : decode cX3_opens 12 = .ok (.iconst 0, 1) := by decide +kernel
theorem dX3_opens_13 : decode cX3_opens 13 = .ok (.ireturn, 1) := by decide +kernel
theorem dX3_opens_14 : decode cX3_opens 14 = .ok (.aload_n 0, 1) := by decide +kernel
theorem dX3_opens_15 : decode cX3_opens 15 = .ok (.dup, 1) := by decide +kernel
theorem dX3_opens_16 : decode cX3_opens 16 = .ok (.getfield 34, 3) := by decide +kernel
theorem dX3_opens_19 : decode cX3_opens 19 = .ok (.iconst 1, 1) := by decide +kernel
theorem dX3_opens_20 : decode cX3_opens 20 = .ok (.iadd, 1) := by decide +kernel
theorem dX3_opens_21 : decode cX3_opens 21 = .ok (.putfield 34, 3) := by decide +kernel
theorem dX3_opens_24 : decode cX3_opens 24 = .ok (.iconst 1, 1) := by decide +kernel
theorem dX3_opens_25 : decode cX3_opens 25 = .ok (.ireturn, 1) := by decide +kernel
theorem dX3_expect_0 : decode cX3_expect 0 = .ok (.aload_n 0, 1) := by decide +kernel
theorem dX3_expect_1 : decode cX3_expect 1 = .ok (.getfield 22, 3) := by decide +kernel
theorem dX3_expect_4 : decode cX3_expect 4 = .ok (.iload_n 1, 1) := by decide +kernel
theorem dX3_expect_5 : decode cX3_expect 5 = .ok (.if_icmp .ne 10, 3) := by decide +kernel
theorem dX3_expect_8 : decode cX3_expect 8 = .ok (.aload_n 0, 1) := by decide +kernel
theorem dX3_expect_9 : decode cX3_expect 9 = .ok (.invokevirtual 56, 3) := by decide +kernel
theorem dX3_expect_12 : decode cX3_expect 12 = .ok (.goto 7, 3) := by decide +kernel
theorem dX3_expect_15 : decode cX3_expect 15 = .ok (.aload_n 0, 1) := by decide +kernel
theorem dX3_expect_16 : decode cX3_expect 16 = .ok (.invokevirtual 66, 3) := by decide +kernel
theorem dX3_expect_19 : decode cX3_expect 19 = .ok (.return_, 1) := by decide +kernel
theorem dX3_fail_0 : decode cX3_fail 0 = .ok (.aload_n 0, 1) := by decide +kernel
theorem dX3_fail_1 : decode cX3_fail 1 = .ok (.getfield 19, 3) := by decide +kernel
theorem dX3_fail_4 : decode cX3_fail 4 = .ok (.iconst (-1), 1) := by decide +kernel
theorem dX3_fail_5 : decode cX3_fail 5 = .ok (.if_icmp .ne 11, 3) := by decide +kernel
theorem dX3_fail_8 : decode cX3_fail 8 = .ok (.aload_n 0, 1) := by decide +kernel
theorem dX3_fail_9 : decode cX3_fail 9 = .ok (.aload_n 0, 1) := by decide +kernel
theorem dX3_fail_10 : decode cX3_fail 10 = .ok (.getfield 25, 3) := by decide +kernel
theorem dX3_fail_13 : decode cX3_fail 13 = .ok (.putfield 19, 3) := by decide +kernel
theorem dX3_fail_16 : decode cX3_fail 16 = .ok (.aload_n 0, 1) := by decide +kernel
theorem dX3_fail_17 : decode cX3_fail 17 = .ok (.iconst 1, 1) := by decide +kernel
theorem dX3_fail_18 : decode cX3_fail 18 = .ok (.putfield 22, 3) := by decide +kernel
theorem dX3_fail_21 : decode cX3_fail 21 = .ok (.return_, 1) := by decide +kernel
theorem dX3_emit_0 : decode cX3_emit 0 = .ok (.aload_n 0, 1) := by decide +kernel
theorem dX3_emit_1 : decode cX3_emit 1 = .ok (.getfield 40, 3) := by decide +kernel
theorem dX3_emit_4 : decode cX3_emit 4 = .ok (.sipush 160, 3) := by decide +kernel
theorem dX3_emit_7 : decode cX3_emit 7 = .ok (.if_icmp .lt 4, 3) := by decide +kernel
theorem dX3_emit_10 : decode cX3_emit 10 = .ok (.return_, 1) := by decide +kernel
theorem dX3_emit_11 : decode cX3_emit 11 = .ok (.aload_n 0, 1) := by decide +kernel
theorem dX3_emit_12 : decode cX3_emit 12 = .ok (.getfield 37, 3) := by decide +kernel
theorem dX3_emit_15 : decode cX3_emit 15 = .ok (.aload_n 0, 1) := by decide +kernel
theorem dX3_emit_16 : decode cX3_emit 16 = .ok (.getfield 40, 3) := by decide +kernel
theorem dX3_emit_19 : decode cX3_emit 19 = .ok (.iload_n 1, 1) := by decide +kernel
theorem dX3_emit_20 : decode cX3_emit 20 = .ok (.iastore, 1) := by decide +kernel
theorem dX3_emit_21 : decode cX3_emit 21 = .ok (.aload_n 0, 1) := by decide +kernel
theorem dX3_emit_22 : decode cX3_emit 22 = .ok (.dup, 1) := by decide +kernel
theorem dX3_emit_23 : decode cX3_emit 23 = .ok (.getfield 40, 3) := by decide +kernel
theorem dX3_emit_26 : decode cX3_emit 26 = .ok (.iconst 1, 1) := by decide +kernel
theorem dX3_emit_27 : decode cX3_emit 27 = .ok (.iadd, 1) := by decide +kernel
theorem dX3_emit_28 : decode cX3_emit 28 = .ok (.putfield 40, 3) := by decide +kernel
theorem dX3_emit_31 : decode cX3_emit 31 = .ok (.return_, 1) := by decide +kernel
theorem dX3_advance_0 : decode cX3_advance 0 = .ok (.aload_n 0, 1) := by decide +kernel
theorem dX3_advance_1 : decode cX3_advance 1 = .ok (.getfield 19, 3) := by decide +kernel
theorem dX3_advance_4 : decode cX3_advance 4 = .ok (.iconst (-1), 1) := by decide +kernel
theorem dX3_advance_5 : decode cX3_advance 5 = .ok (.if_icmp .eq 4, 3) := by decide +kernel
theorem dX3_advance_8 : decode cX3_advance 8 = .ok (.return_, 1) := by decide +kernel
theorem dX3_advance_9 : decode cX3_advance 9 = .ok (.aload_n 0, 1) := by decide +kernel
theorem dX3_advance_10 : decode cX3_advance 10 = .ok (.getfield 31, 3) := by decide +kernel
theorem dX3_advance_13 : decode cX3_advance 13 = .ok (.aload_n 0, 1) := by decide +kernel
theorem dX3_advance_14 : decode cX3_advance 14 = .ok (.getfield 15, 3) := by decide +kernel
theorem dX3_advance_17 : decode cX3_advance 17 = .ok (.if_icmp .ge 44, 3) := by decide +kernel
theorem dX3_advance_20 : decode cX3_advance 20 = .ok (.aload_n 0, 1) := by decide +kernel
theorem dX3_advance_21 : decode cX3_advance 21 = .ok (.getfield 9, 3) := by decide +kernel
theorem dX3_advance_24 : decode cX3_advance 24 = .ok (.aload_n 0, 1) := by decide +kernel
theorem dX3_advance_25 : decode cX3_advance 25 = .ok (.getfield 31, 3) := by decide +kernel
theorem dX3_advance_28 : decode cX3_advance 28 = .ok (.iaload, 1) := by decide +kernel
theorem dX3_advance_29 : decode cX3_advance 29 = .ok (.bipush 32, 2) := by decide +kernel
theorem dX3_advance_31 : decode cX3_advance 31 = .ok (.if_icmp .eq 17, 3) := by decide +kernel
theorem dX3_advance_34 : decode cX3_advance 34 = .ok (.aload_n 0, 1) := by decide +kernel
theorem dX3_advance_35 : decode cX3_advance 35 = .ok (.getfield 9, 3) := by decide +kernel
theorem dX3_advance_38 : decode cX3_advance 38 = .ok (.aload_n 0, 1) := by decide +kernel
theorem dX3_advance_39 : decode cX3_advance 39 = .ok (.getfield 31, 3) := by decide +kernel
theorem dX3_advance_42 : decode cX3_advance 42 = .ok (.iaload, 1) := by decide +kernel
theorem dX3_advance_43 : decode cX3_advance 43 = .ok (.bipush 10, 2) := by decide +kernel
theorem dX3_advance_45 : decode cX3_advance 45 = .ok (.if_icmp .ne 16, 3) := by decide +kernel
theorem dX3_advance_48 : decode cX3_advance 48 = .ok (.aload_n 0, 1) := by decide +kernel
theorem dX3_advance_49 : decode cX3_advance 49 = .ok (.dup, 1) := by decide +kernel
theorem dX3_advance_50 : decode cX3_advance 50 = .ok (.getfield 31, 3) := by decide +kernel
theorem dX3_advance_53 : decode cX3_advance 53 = .ok (.iconst 1, 1) := by decide +kernel
theorem dX3_advance_54 : decode cX3_advance 54 = .ok (.iadd, 1) := by decide +kernel
theorem dX3_advance_55 : decode cX3_advance 55 = .ok (.putfield 31, 3) := by decide +kernel
theorem dX3_advance_58 : decode cX3_advance 58 = .ok (.goto (-49), 3) := by decide +kernel
theorem dX3_advance_61 : decode cX3_advance 61 = .ok (.aload_n 0, 1) := by decide +kernel
theorem dX3_advance_62 : decode cX3_advance 62 = .ok (.aload_n 0, 1) := by decide +kernel
theorem dX3_advance_63 : decode cX3_advance 63 = .ok (.getfield 31, 3) := by decide +kernel
theorem dX3_advance_66 : decode cX3_advance 66 = .ok (.putfield 25, 3) := by decide +kernel
theorem dX3_advance_69 : decode cX3_advance 69 = .ok (.aload_n 0, 1) := by decide +kernel
theorem dX3_advance_70 : decode cX3_advance 70 = .ok (.getfield 31, 3) := by decide +kernel
theorem dX3_advance_73 : decode cX3_advance 73 = .ok (.aload_n 0, 1) := by decide +kernel
theorem dX3_advance_74 : decode cX3_advance 74 = .ok (.getfield 15, 3) := by decide +kernel
theorem dX3_advance_77 : decode cX3_advance 77 = .ok (.if_icmp .lt 9, 3) := by decide +kernel
theorem dX3_advance_80 : decode cX3_advance 80 = .ok (.aload_n 0, 1) := by decide +kernel
theorem dX3_advance_81 : decode cX3_advance 81 = .ok (.iconst 0, 1) := by decide +kernel
theorem dX3_advance_82 : decode cX3_advance 82 = .ok (.putfield 22, 3) := by decide +kernel
theorem dX3_advance_85 : decode cX3_advance 85 = .ok (.return_, 1) := by decide +kernel
theorem dX3_advance_86 : decode cX3_advance 86 = .ok (.aload_n 0, 1) := by decide +kernel
theorem dX3_advance_87 : decode cX3_advance 87 = .ok (.getfield 9, 3) := by decide +kernel
theorem dX3_advance_90 : decode cX3_advance 90 = .ok (.aload_n 0, 1) := by decide +kernel
theorem dX3_advance_91 : decode cX3_advance 91 = .ok (.getfield 31, 3) := by decide +kernel
theorem dX3_advance_94 : decode cX3_advance 94 = .ok (.iaload, 1) := by decide +kernel
theorem dX3_advance_95 : decode cX3_advance 95 = .ok (.istore_n 1, 1) := by decide +kernel
theorem dX3_advance_96 : decode cX3_advance 96 = .ok (.aload_n 0, 1) := by decide +kernel
theorem dX3_advance_97 : decode cX3_advance 97 = .ok (.dup, 1) := by decide +kernel
theorem dX3_advance_98 : decode cX3_advance 98 = .ok (.getfield 31, 3) := by decide +kernel
theorem dX3_advance_101 : decode cX3_advance 101 = .ok (.iconst 1, 1) := by decide +kernel
theorem dX3_advance_102 : decode cX3_advance 102 = .ok (.iadd, 1) := by decide +kernel
theorem dX3_advance_103 : decode cX3_advance 103 = .ok (.putfield 31, 3) := by decide +kernel
theorem dX3_advance_106 : decode cX3_advance 106 = .ok (.iload_n 1, 1) := by decide +kernel
theorem dX3_advance_107 : decode cX3_advance 107 = .ok (.bipush 97, 2) := by decide +kernel
theorem dX3_advance_109 : decode cX3_advance 109 = .ok (.if_icmp .lt 16, 3) := by decide +kernel
theorem dX3_advance_112 : decode cX3_advance 112 = .ok (.iload_n 1, 1) := by decide +kernel
theorem dX3_advance_113 : decode cX3_advance 113 = .ok (.bipush 122, 2) := by decide +kernel
theorem dX3_advance_115 : decode cX3_advance 115 = .ok (.if_icmp .gt 10, 3) := by decide +kernel
theorem dX3_advance_118 : decode cX3_advance 118 = .ok (.aload_n 0, 1) := by decide +kernel
theorem dX3_advance_119 : decode cX3_advance 119 = .ok (.invokevirtual 93, 3) := by decide +kernel
theorem dX3_advance_122 : decode cX3_advance 122 = .ok (.goto 41, 3) := by decide +kernel
theorem dX3_advance_125 : decode cX3_advance 125 = .ok (.iload_n 1, 1) := by decide +kernel
theorem dX3_advance_126 : decode cX3_advance 126 = .ok (.bipush 48, 2) := by decide +kernel
theorem dX3_advance_128 : decode cX3_advance 128 = .ok (.if_icmp .lt 16, 3) := by decide +kernel
theorem dX3_advance_131 : decode cX3_advance 131 = .ok (.iload_n 1, 1) := by decide +kernel
theorem dX3_advance_132 : decode cX3_advance 132 = .ok (.bipush 57, 2) := by decide +kernel
theorem dX3_advance_134 : decode cX3_advance 134 = .ok (.if_icmp .gt 10, 3) := by decide +kernel
theorem dX3_advance_137 : decode cX3_advance 137 = .ok (.aload_n 0, 1) := by decide +kernel
theorem dX3_advance_138 : decode cX3_advance 138 = .ok (.invokevirtual 96, 3) := by decide +kernel
theorem dX3_advance_141 : decode cX3_advance 141 = .ok (.goto 22, 3) := by decide +kernel
theorem dX3_advance_144 : decode cX3_advance 144 = .ok (.aload_n 0, 1) := by decide +kernel
theorem dX3_advance_145 : decode cX3_advance 145 = .ok (.ldc 99, 2) := by decide +kernel
theorem dX3_advance_147 : decode cX3_advance 147 = .ok (.iload_n 1, 1) := by decide +kernel
theorem dX3_advance_148 : decode cX3_advance 148 = .ok (.i2c, 1) := by decide +kernel
theorem dX3_advance_149 : decode cX3_advance 149 = .ok (.invokevirtual 101, 3) := by decide +kernel
theorem dX3_advance_152 : decode cX3_advance 152 = .ok (.ifCond .lt 7, 3) := by decide +kernel
theorem dX3_advance_155 : decode cX3_advance 155 = .ok (.iload_n 1, 1) := by decide +kernel
theorem dX3_advance_156 : decode cX3_advance 156 = .ok (.goto 4, 3) := by decide +kernel
theorem dX3_advance_159 : decode cX3_advance 159 = .ok (.iconst 1, 1) := by decide +kernel
theorem dX3_advance_160 : decode cX3_advance 160 = .ok (.putfield 22, 3) := by decide +kernel
theorem dX3_advance_163 : decode cX3_advance 163 = .ok (.return_, 1) := by decide +kernel
theorem dX3_takeWord_0 : decode cX3_takeWord 0 = .ok (.aload_n 0, 1) := by decide +kernel
theorem dX3_takeWord_1 : decode cX3_takeWord 1 = .ok (.getfield 31, 3) := by decide +kernel
theorem dX3_takeWord_4 : decode cX3_takeWord 4 = .ok (.aload_n 0, 1) := by decide +kernel
theorem dX3_takeWord_5 : decode cX3_takeWord 5 = .ok (.getfield 15, 3) := by decide +kernel
theorem dX3_takeWord_8 : decode cX3_takeWord 8 = .ok (.if_icmp .ge 44, 3) := by decide +kernel
theorem dX3_takeWord_11 : decode cX3_takeWord 11 = .ok (.aload_n 0, 1) := by decide +kernel
theorem dX3_takeWord_12 : decode cX3_takeWord 12 = .ok (.getfield 9, 3) := by decide +kernel
theorem dX3_takeWord_15 : decode cX3_takeWord 15 = .ok (.aload_n 0, 1) := by decide +kernel
theorem dX3_takeWord_16 : decode cX3_takeWord 16 = .ok (.getfield 31, 3) := by decide +kernel
theorem dX3_takeWord_19 : decode cX3_takeWord 19 = .ok (.iaload, 1) := by decide +kernel
theorem dX3_takeWord_20 : decode cX3_takeWord 20 = .ok (.bipush 97, 2) := by decide +kernel
theorem dX3_takeWord_22 : decode cX3_takeWord 22 = .ok (.if_icmp .lt 30, 3) := by decide +kernel
theorem dX3_takeWord_25 : decode cX3_takeWord 25 = .ok (.aload_n 0, 1) := by decide +kernel
theorem dX3_takeWord_26 : decode cX3_takeWord 26 = .ok (.getfield 9, 3) := by decide +kernel
theorem dX3_takeWord_29 : decode cX3_takeWord 29 = .ok (.aload_n 0, 1) := by decide +kernel
theorem dX3_takeWord_30 : decode cX3_takeWord 30 = .ok (.getfield 31, 3) := by decide +kernel
theorem dX3_takeWord_33 : decode cX3_takeWord 33 = .ok (.iaload, 1) := by decide +kernel
theorem dX3_takeWord_34 : decode cX3_takeWord 34 = .ok (.bipush 122, 2) := by decide +kernel
theorem dX3_takeWord_36 : decode cX3_takeWord 36 = .ok (.if_icmp .gt 16, 3) := by decide +kernel
theorem dX3_takeWord_39 : decode cX3_takeWord 39 = .ok (.aload_n 0, 1) := by decide +kernel
theorem dX3_takeWord_40 : decode cX3_takeWord 40 = .ok (.dup, 1) := by decide +kernel
theorem dX3_takeWord_41 : decode cX3_takeWord 41 = .ok (.getfield 31, 3) := by decide +kernel
theorem dX3_takeWord_44 : decode cX3_takeWord 44 = .ok (.iconst 1, 1) := by decide +kernel
theorem dX3_takeWord_45 : decode cX3_takeWord 45 = .ok (.iadd, 1) := by decide +kernel
theorem dX3_takeWord_46 : decode cX3_takeWord 46 = .ok (.putfield 31, 3) := by decide +kernel
theorem dX3_takeWord_49 : decode cX3_takeWord 49 = .ok (.goto (-49), 3) := by decide +kernel
theorem dX3_takeWord_52 : decode cX3_takeWord 52 = .ok (.aload_n 0, 1) := by decide +kernel
theorem dX3_takeWord_53 : decode cX3_takeWord 53 = .ok (.iconst 1, 1) := by decide +kernel
theorem dX3_takeWord_54 : decode cX3_takeWord 54 = .ok (.putfield 22, 3) := by decide +kernel
theorem dX3_takeWord_57 : decode cX3_takeWord 57 = .ok (.iconst 0, 1) := by decide +kernel
theorem dX3_takeWord_58 : decode cX3_takeWord 58 = .ok (.istore_n 1, 1) := by decide +kernel
theorem dX3_takeWord_59 : decode cX3_takeWord 59 = .ok (.aload_n 0, 1) := by decide +kernel
theorem dX3_takeWord_60 : decode cX3_takeWord 60 = .ok (.getfield 25, 3) := by decide +kernel
theorem dX3_takeWord_63 : decode cX3_takeWord 63 = .ok (.istore_n 2, 1) := by decide +kernel
theorem dX3_takeWord_64 : decode cX3_takeWord 64 = .ok (.iconst 1, 1) := by decide +kernel
theorem dX3_takeWord_65 : decode cX3_takeWord 65 = .ok (.istore_n 3, 1) := by decide +kernel
theorem dX3_takeWord_66 : decode cX3_takeWord 66 = .ok (.iconst 0, 1) := by decide +kernel
theorem dX3_takeWord_67 : decode cX3_takeWord 67 = .ok (.istore 4, 2) := by decide +kernel
theorem dX3_takeWord_69 : decode cX3_takeWord 69 = .ok (.iload 4, 2) := by decide +kernel
theorem dX3_takeWord_71 : decode cX3_takeWord 71 = .ok (.ldc 104, 2) := by decide +kernel
theorem dX3_takeWord_73 : decode cX3_takeWord 73 = .ok (.invokevirtual 43, 3) := by decide +kernel
theorem dX3_takeWord_76 : decode cX3_takeWord 76 = .ok (.if_icmp .ge 116, 3) := by decide +kernel
theorem dX3_takeWord_79 : decode cX3_takeWord 79 = .ok (.aload_n 0, 1) := by decide +kernel
theorem dX3_takeWord_80 : decode cX3_takeWord 80 = .ok (.getfield 22, 3) := by decide +kernel
theorem dX3_takeWord_83 : decode cX3_takeWord 83 = .ok (.iconst 1, 1) := by decide +kernel
theorem dX3_takeWord_84 : decode cX3_takeWord 84 = .ok (.if_icmp .ne 108, 3) := by decide +kernel
theorem dX3_takeWord_87 : decode cX3_takeWord 87 = .ok (.ldc 104, 2) := by decide +kernel
theorem dX3_takeWord_89 : decode cX3_takeWord 89 = .ok (.iload 4, 2) := by decide +kernel
theorem dX3_takeWord_91 : decode cX3_takeWord 91 = .ok (.invokevirtual 48, 3) := by decide +kernel
theorem dX3_takeWord_94 : decode cX3_takeWord 94 = .ok (.istore 5, 2) := by decide +kernel
theorem dX3_takeWord_96 : decode cX3_takeWord 96 = .ok (.iload 5, 2) := by decide +kernel
theorem dX3_takeWord_98 : decode cX3_takeWord 98 = .ok (.bipush 32, 2) := by decide +kernel
theorem dX3_takeWord_100 : decode cX3_takeWord 100 = .ok (.if_icmp .eq 38, 3) := by decide +kernel
theorem dX3_takeWord_103 : decode cX3_takeWord 103 = .ok (.iload_n 3, 1) := by decide +kernel
theorem dX3_takeWord_104 : decode cX3_takeWord 104 = .ok (.ifCond .eq 26, 3) := by decide +kernel
theorem dX3_takeWord_107 : decode cX3_takeWord 107 = .ok (.iload_n 2, 1) := by decide +kernel
theorem dX3_takeWord_108 : decode cX3_takeWord 108 = .ok (.aload_n 0, 1) := by decide +kernel
theorem dX3_takeWord_109 : decode cX3_takeWord 109 = .ok (.getfield 31, 3) := by decide +kernel
theorem dX3_takeWord_112 : decode cX3_takeWord 112 = .ok (.if_icmp .ge 18, 3) := by decide +kernel
theorem dX3_takeWord_115 : decode cX3_takeWord 115 = .ok (.aload_n 0, 1) := by decide +kernel
theorem dX3_takeWord_116 : decode cX3_takeWord 116 = .ok (.getfield 9, 3) := by decide +kernel
theorem dX3_takeWord_119 : decode cX3_takeWord 119 = .ok (.iload_n 2, 1) := by decide +kernel
theorem dX3_takeWord_120 : decode cX3_takeWord 120 = .ok (.iaload, 1) := by decide +kernel
theorem dX3_takeWord_121 : decode cX3_takeWord 121 = .ok (.iload 5, 2) := by decide +kernel
theorem dX3_takeWord_123 : decode cX3_takeWord 123 = .ok (.if_icmp .ne 7, 3) := by decide +kernel
theorem dX3_takeWord_126 : decode cX3_takeWord 126 = .ok (.iconst 1, 1) := by decide +kernel
theorem dX3_takeWord_127 : decode cX3_takeWord 127 = .ok (.goto 4, 3) := by decide +kernel
theorem dX3_takeWord_130 : decode cX3_takeWord 130 = .ok (.iconst 0, 1) := by decide +kernel
theorem dX3_takeWord_131 : decode cX3_takeWord 131 = .ok (.istore_n 3, 1) := by decide +kernel
theorem dX3_takeWord_132 : decode cX3_takeWord 132 = .ok (.iinc 2 1, 3) := by decide +kernel
theorem dX3_takeWord_135 : decode cX3_takeWord 135 = .ok (.goto 51, 3) := by decide +kernel
theorem dX3_takeWord_138 : decode cX3_takeWord 138 = .ok (.iload_n 3, 1) := by decide +kernel
theorem dX3_takeWord_139 : decode cX3_takeWord 139 = .ok (.ifCond .eq 37, 3) := by decide +kernel
theorem dX3_takeWord_142 : decode cX3_takeWord 142 = .ok (.iload_n 2, 1) := by decide +kernel
theorem dX3_takeWord_143 : decode cX3_takeWord 143 = .ok (.aload_n 0, 1) := by decide +kernel
theorem dX3_takeWord_144 : decode cX3_takeWord 144 = .ok (.getfield 31, 3) := by decide +kernel
theorem dX3_takeWord_147 : decode cX3_takeWord 147 = .ok (.if_icmp .ne 29, 3) := by decide +kernel
theorem dX3_takeWord_150 : decode cX3_takeWord 150 = .ok (.aload_n 0, 1) := by decide +kernel
theorem dX3_takeWord_151 : decode cX3_takeWord 151 = .ok (.iload_n 1, 1) := by decide +kernel
theorem dX3_takeWord_152 : decode cX3_takeWord 152 = .ok (.bipush 6, 2) := by decide +kernel
theorem dX3_takeWord_154 : decode cX3_takeWord 154 = .ok (.if_icmp .ge 10, 3) := by decide +kernel
theorem dX3_takeWord_157 : decode cX3_takeWord 157 = .ok (.bipush 10, 2) := by decide +kernel
theorem dX3_takeWord_159 : decode cX3_takeWord 159 = .ok (.iload_n 1, 1) := by decide +kernel
theorem dX3_takeWord_160 : decode cX3_takeWord 160 = .ok (.iadd, 1) := by decide +kernel
theorem dX3_takeWord_161 : decode cX3_takeWord 161 = .ok (.goto 4, 3) := by decide +kernel
theorem dX3_takeWord_164 : decode cX3_takeWord 164 = .ok (.iconst 3, 1) := by decide +kernel
theorem dX3_takeWord_165 : decode cX3_takeWord 165 = .ok (.putfield 22, 3) := by decide +kernel
theorem dX3_takeWord_168 : decode cX3_takeWord 168 = .ok (.aload_n 0, 1) := by decide +kernel
theorem dX3_takeWord_169 : decode cX3_takeWord 169 = .ok (.iload_n 1, 1) := by decide +kernel
theorem dX3_takeWord_170 : decode cX3_takeWord 170 = .ok (.bipush 6, 2) := by decide +kernel
theorem dX3_takeWord_172 : decode cX3_takeWord 172 = .ok (.isub, 1) := by decide +kernel
theorem dX3_takeWord_173 : decode cX3_takeWord 173 = .ok (.putfield 28, 3) := by decide +kernel
theorem dX3_takeWord_176 : decode cX3_takeWord 176 = .ok (.iinc 1 1, 3) := by decide +kernel
theorem dX3_takeWord_179 : decode cX3_takeWord 179 = .ok (.aload_n 0, 1) := by decide +kernel
theorem dX3_takeWord_180 : decode cX3_takeWord 180 = .ok (.getfield 25, 3) := by decide +kernel
theorem dX3_takeWord_183 : decode cX3_takeWord 183 = .ok (.istore_n 2, 1) := by decide +kernel
theorem dX3_takeWord_184 : decode cX3_takeWord 184 = .ok (.iconst 1, 1) := by decide +kernel
theorem dX3_takeWord_185 : decode cX3_takeWord 185 = .ok (.istore_n 3, 1) := by decide +kernel
theorem dX3_takeWord_186 : decode cX3_takeWord 186 = .ok (.iinc 4 1, 3) := by decide +kernel
theorem dX3_takeWord_189 : decode cX3_takeWord 189 = .ok (.goto (-120), 3) := by decide +kernel
theorem dX3_takeWord_192 : decode cX3_takeWord 192 = .ok (.return_, 1) := by decide +kernel
theorem dX3_takeNumber_0 : decode cX3_takeNumber 0 = .ok (.aload_n 0, 1) := by decide +kernel
theorem dX3_takeNumber_1 : decode cX3_takeNumber 1 = .ok (.getfield 31, 3) := by decide +kernel
theorem dX3_takeNumber_4 : decode cX3_takeNumber 4 = .ok (.aload_n 0, 1) := by decide +kernel
theorem dX3_takeNumber_5 : decode cX3_takeNumber 5 = .ok (.getfield 15, 3) := by decide +kernel
theorem dX3_takeNumber_8 : decode cX3_takeNumber 8 = .ok (.if_icmp .ge 44, 3) := by decide +kernel
theorem dX3_takeNumber_11 : decode cX3_takeNumber 11 = .ok (.aload_n 0, 1) := by decide +kernel
theorem dX3_takeNumber_12 : decode cX3_takeNumber 12 = .ok (.getfield 9, 3) := by decide +kernel
theorem dX3_takeNumber_15 : decode cX3_takeNumber 15 = .ok (.aload_n 0, 1) := by decide +kernel
theorem dX3_takeNumber_16 : decode cX3_takeNumber 16 = .ok (.getfield 31, 3) := by decide +kernel
theorem dX3_takeNumber_19 : decode cX3_takeNumber 19 = .ok (.iaload, 1) := by decide +kernel
theorem dX3_takeNumber_20 : decode cX3_takeNumber 20 = .ok (.bipush 48, 2) := by decide +kernel
theorem dX3_takeNumber_22 : decode cX3_takeNumber 22 = .ok (.if_icmp .lt 30, 3) := by decide +kernel
theorem dX3_takeNumber_25 : decode cX3_takeNumber 25 = .ok (.aload_n 0, 1) := by decide +kernel
theorem dX3_takeNumber_26 : decode cX3_takeNumber 26 = .ok (.getfield 9, 3) := by decide +kernel
theorem dX3_takeNumber_29 : decode cX3_takeNumber 29 = .ok (.aload_n 0, 1) := by decide +kernel
theorem dX3_takeNumber_30 : decode cX3_takeNumber 30 = .ok (.getfield 31, 3) := by decide +kernel
theorem dX3_takeNumber_33 : decode cX3_takeNumber 33 = .ok (.iaload, 1) := by decide +kernel
theorem dX3_takeNumber_34 : decode cX3_takeNumber 34 = .ok (.bipush 57, 2) := by decide +kernel
theorem dX3_takeNumber_36 : decode cX3_takeNumber 36 = .ok (.if_icmp .gt 16, 3) := by decide +kernel
theorem dX3_takeNumber_39 : decode cX3_takeNumber 39 = .ok (.aload_n 0, 1) := by decide +kernel
theorem dX3_takeNumber_40 : decode cX3_takeNumber 40 = .ok (.dup, 1) := by decide +kernel
theorem dX3_takeNumber_41 : decode cX3_takeNumber 41 = .ok (.getfield 31, 3) := by decide +kernel
theorem dX3_takeNumber_44 : decode cX3_takeNumber 44 = .ok (.iconst 1, 1) := by decide +kernel
theorem dX3_takeNumber_45 : decode cX3_takeNumber 45 = .ok (.iadd, 1) := by decide +kernel
theorem dX3_takeNumber_46 : decode cX3_takeNumber 46 = .ok (.putfield 31, 3) := by decide +kernel
theorem dX3_takeNumber_49 : decode cX3_takeNumber 49 = .ok (.goto (-49), 3) := by decide +kernel
theorem dX3_takeNumber_52 : decode cX3_takeNumber 52 = .ok (.aload_n 0, 1) := by decide +kernel
theorem dX3_takeNumber_53 : decode cX3_takeNumber 53 = .ok (.aload_n 0, 1) := by decide +kernel
theorem dX3_takeNumber_54 : decode cX3_takeNumber 54 = .ok (.getfield 31, 3) := by decide +kernel
theorem dX3_takeNumber_57 : decode cX3_takeNumber 57 = .ok (.aload_n 0, 1) := by decide +kernel
theorem dX3_takeNumber_58 : decode cX3_takeNumber 58 = .ok (.getfield 25, 3) := by decide +kernel
theorem dX3_takeNumber_61 : decode cX3_takeNumber 61 = .ok (.isub, 1) := by decide +kernel
theorem dX3_takeNumber_62 : decode cX3_takeNumber 62 = .ok (.iconst 4, 1) := by decide +kernel
theorem dX3_takeNumber_63 : decode cX3_takeNumber 63 = .ok (.if_icmp .le 7, 3) := by decide +kernel
theorem dX3_takeNumber_66 : decode cX3_takeNumber 66 = .ok (.iconst 1, 1) := by decide +kernel
theorem dX3_takeNumber_67 : decode cX3_takeNumber 67 = .ok (.goto 4, 3) := by decide +kernel
theorem dX3_takeNumber_70 : decode cX3_takeNumber 70 = .ok (.iconst 2, 1) := by decide +kernel
theorem dX3_takeNumber_71 : decode cX3_takeNumber 71 = .ok (.putfield 22, 3) := by decide +kernel
theorem dX3_takeNumber_74 : decode cX3_takeNumber 74 = .ok (.aload_n 0, 1) := by decide +kernel
theorem dX3_takeNumber_75 : decode cX3_takeNumber 75 = .ok (.iconst 0, 1) := by decide +kernel
theorem dX3_takeNumber_76 : decode cX3_takeNumber 76 = .ok (.putfield 28, 3) := by decide +kernel
theorem dX3_takeNumber_79 : decode cX3_takeNumber 79 = .ok (.aload_n 0, 1) := by decide +kernel
theorem dX3_takeNumber_80 : decode cX3_takeNumber 80 = .ok (.getfield 25, 3) := by decide +kernel
theorem dX3_takeNumber_83 : decode cX3_takeNumber 83 = .ok (.istore_n 1, 1) := by decide +kernel
theorem dX3_takeNumber_84 : decode cX3_takeNumber 84 = .ok (.iload_n 1, 1) := by decide +kernel
theorem dX3_takeNumber_85 : decode cX3_takeNumber 85 = .ok (.aload_n 0, 1) := by decide +kernel
theorem dX3_takeNumber_86 : decode cX3_takeNumber 86 = .ok (.getfield 31, 3) := by decide +kernel
theorem dX3_takeNumber_89 : decode cX3_takeNumber 89 = .ok (.if_icmp .ge 38, 3) := by decide +kernel
theorem dX3_takeNumber_92 : decode cX3_takeNumber 92 = .ok (.aload_n 0, 1) := by decide +kernel
theorem dX3_takeNumber_93 : decode cX3_takeNumber 93 = .ok (.getfield 22, 3) := by decide +kernel
theorem dX3_takeNumber_96 : decode cX3_takeNumber 96 = .ok (.iconst 2, 1) := by decide +kernel
theorem dX3_takeNumber_97 : decode cX3_takeNumber 97 = .ok (.if_icmp .ne 30, 3) := by decide +kernel
theorem dX3_takeNumber_100 : decode cX3_takeNumber 100 = .ok (.aload_n 0, 1) := by decide +kernel
theorem dX3_takeNumber_101 : decode cX3_takeNumber 101 = .ok (.aload_n 0, 1) := by decide +kernel
theorem dX3_takeNumber_102 : decode cX3_takeNumber 102 = .ok (.getfield 28, 3) := by decide +kernel
theorem dX3_takeNumber_105 : decode cX3_takeNumber 105 = .ok (.bipush 10, 2) := by decide +kernel
theorem dX3_takeNumber_107 : decode cX3_takeNumber 107 = .ok (.imul, 1) := by decide +kernel
theorem dX3_takeNumber_108 : decode cX3_takeNumber 108 = .ok (.aload_n 0, 1) := by decide +kernel
theorem dX3_takeNumber_109 : decode cX3_takeNumber 109 = .ok (.getfield 9, 3) := by decide +kernel
theorem dX3_takeNumber_112 : decode cX3_takeNumber 112 = .ok (.iload_n 1, 1) := by decide +kernel
theorem dX3_takeNumber_113 : decode cX3_takeNumber 113 = .ok (.iaload, 1) := by decide +kernel
theorem dX3_takeNumber_114 : decode cX3_takeNumber 114 = .ok (.iadd, 1) := by decide +kernel
theorem dX3_takeNumber_115 : decode cX3_takeNumber 115 = .ok (.bipush 48, 2) := by decide +kernel
theorem dX3_takeNumber_117 : decode cX3_takeNumber 117 = .ok (.isub, 1) := by decide +kernel
theorem dX3_takeNumber_118 : decode cX3_takeNumber 118 = .ok (.putfield 28, 3) := by decide +kernel
theorem dX3_takeNumber_121 : decode cX3_takeNumber 121 = .ok (.iinc 1 1, 3) := by decide +kernel
theorem dX3_takeNumber_124 : decode cX3_takeNumber 124 = .ok (.goto (-40), 3) := by decide +kernel
theorem dX3_takeNumber_127 : decode cX3_takeNumber 127 = .ok (.return_, 1) := by decide +kernel
theorem dX4_init_0 : decode cX4_init 0 = .ok (.aload_n 0, 1) := by decide +kernel
theorem dX4_init_1 : decode cX4_init 1 = .ok (.invokespecial 3, 3) := by decide +kernel
theorem dX4_init_4 : decode cX4_init 4 = .ok (.aload_n 0, 1) := by decide +kernel
theorem dX4_init_5 : decode cX4_init 5 = .ok (.bipush 64, 2) := by decide +kernel
theorem dX4_init_7 : decode cX4_init 7 = .ok (.newarray .int, 2) := by decide +kernel
theorem dX4_init_9 : decode cX4_init 9 = .ok (.putfield 9, 3) := by decide +kernel
theorem dX4_init_12 : decode cX4_init 12 = .ok (.aload_n 0, 1) := by decide +kernel
theorem dX4_init_13 : decode cX4_init 13 = .ok (.bipush 64, 2) := by decide +kernel
theorem dX4_init_15 : decode cX4_init 15 = .ok (.newarray .int, 2) := by decide +kernel
theorem dX4_init_17 : decode cX4_init 17 = .ok (.putfield 15, 3) := by decide +kernel
theorem dX4_init_20 : decode cX4_init 20 = .ok (.aload_n 0, 1) := by decide +kernel
theorem dX4_init_21 : decode cX4_init 21 = .ok (.bipush 8, 2) := by decide +kernel
theorem dX4_init_23 : decode cX4_init 23 = .ok (.newarray .int, 2) := by decide +kernel
theorem dX4_init_25 : decode cX4_init 25 = .ok (.putfield 18, 3) := by decide +kernel
theorem dX4_init_28 : decode cX4_init 28 = .ok (.aload_n 0, 1) := by decide +kernel
theorem dX4_init_29 : decode cX4_init 29 = .ok (.iconst 0, 1) := by decide +kernel
theorem dX4_init_30 : decode cX4_init 30 = .ok (.putfield 21, 3) := by decide +kernel
theorem dX4_init_33 : decode cX4_init 33 = .ok (.aload_n 0, 1) := by decide +kernel
theorem dX4_init_34 : decode cX4_init 34 = .ok (.iconst 0, 1) := by decide +kernel
theorem dX4_init_35 : decode cX4_init 35 = .ok (.putfield 25, 3) := by decide +kernel
theorem dX4_init_38 : decode cX4_init 38 = .ok (.return_, 1) := by decide +kernel
theorem dX4_lay_0 : decode cX4_lay 0 = .ok (.aload_n 0, 1) := by decide +kernel
theorem dX4_lay_1 : decode cX4_lay 1 = .ok (.getfield 9, 3) := by decide +kernel
theorem dX4_lay_4 : decode cX4_lay 4 = .ok (.iload_n 1, 1) := by decide +kernel
theorem dX4_lay_5 : decode cX4_lay 5 = .ok (.bipush 8, 2) := by decide +kernel
theorem dX4_lay_7 : decode cX4_lay 7 = .ok (.imul, 1) := by decide +kernel
theorem dX4_lay_8 : decode cX4_lay 8 = .ok (.iload_n 2, 1) := by decide +kernel
theorem dX4_lay_9 : decode cX4_lay 9 = .ok (.iadd, 1) := by decide +kernel
theorem dX4_lay_10 : decode cX4_lay 10 = .ok (.iaload, 1) := by decide +kernel
theorem dX4_lay_11 : decode cX4_lay 11 = .ok (.istore 4, 2) := by decide +kernel
theorem dX4_lay_13 : decode cX4_lay 13 = .ok (.aload_n 0, 1) := by decide +kernel
theorem dX4_lay_14 : decode cX4_lay 14 = .ok (.getfield 9, 3) := by decide +kernel
theorem dX4_lay_17 : decode cX4_lay 17 = .ok (.iload_n 1, 1) := by decide +kernel
theorem dX4_lay_18 : decode cX4_lay 18 = .ok (.bipush 8, 2) := by decide +kernel
theorem dX4_lay_20 : decode cX4_lay 20 = .ok (.imul, 1) := by decide +kernel
theorem dX4_lay_21 : decode cX4_lay 21 = .ok (.iload_n 2, 1) := by decide +kernel
theorem dX4_lay_22 : decode cX4_lay 22 = .ok (.iadd, 1) := by decide +kernel
theorem dX4_lay_23 : decode cX4_lay 23 = .ok (.iload_n 3, 1) := by decide +kernel
theorem dX4_lay_24 : decode cX4_lay 24 = .ok (.iastore, 1) := by decide +kernel
theorem dX4_lay_25 : decode cX4_lay 25 = .ok (.aload_n 0, 1) := by decide +kernel
theorem dX4_lay_26 : decode cX4_lay 26 = .ok (.getfield 9, 3) := by decide +kernel
theorem dX4_lay_29 : decode cX4_lay 29 = .ok (.iload_n 2, 1) := by decide +kernel
theorem dX4_lay_30 : decode cX4_lay 30 = .ok (.bipush 8, 2) := by decide +kernel
theorem dX4_lay_32 : decode cX4_lay 32 = .ok (.imul, 1) := by decide +kernel
theorem dX4_lay_33 : decode cX4_lay 33 = .ok (.iload_n 1, 1) := by decide +kernel
theorem dX4_lay_34 : decode cX4_lay 34 = .ok (.iadd, 1) := by decide +kernel
theorem dX4_lay_35 : decode cX4_lay 35 = .ok (.iload_n 3, 1) := by decide +kernel
theorem dX4_lay_36 : decode cX4_lay 36 = .ok (.iastore, 1) := by decide +kernel
theorem dX4_lay_37 : decode cX4_lay 37 = .ok (.aload_n 0, 1) := by decide +kernel
theorem dX4_lay_38 : decode cX4_lay 38 = .ok (.iconst 0, 1) := by decide +kernel
theorem dX4_lay_39 : decode cX4_lay 39 = .ok (.putfield 21, 3) := by decide +kernel
theorem dX4_lay_42 : decode cX4_lay 42 = .ok (.aload_n 0, 1) := by decide +kernel
theorem dX4_lay_43 : decode cX4_lay 43 = .ok (.dup, 1) := by decide +kernel
theorem dX4_lay_44 : decode cX4_lay 44 = .ok (.getfield 25, 3) := by decide +kernel
theorem dX4_lay_47 : decode cX4_lay 47 = .ok (.iconst 1, 1) := by decide +kernel
theorem dX4_lay_48 : decode cX4_lay 48 = .ok (.iadd, 1) := by decide +kernel
theorem dX4_lay_49 : decode cX4_lay 49 = .ok (.putfield 25, 3) := by decide +kernel
theorem dX4_lay_52 : decode cX4_lay 52 = .ok (.iload 4, 2) := by decide +kernel
theorem dX4_lay_54 : decode cX4_lay 54 = .ok (.ireturn, 1) := by decide +kernel
theorem dX4_become_0 : decode cX4_become 0 = .ok (.aload_n 1, 1) := by decide +kernel
theorem dX4_become_1 : decode cX4_become 1 = .ok (.getfield 9, 3) := by decide +kernel
theorem dX4_become_4 : decode cX4_become 4 = .ok (.iconst 0, 1) := by decide +kernel
theorem dX4_become_5 : decode cX4_become 5 = .ok (.aload_n 0, 1) := by decide +kernel
theorem dX4_become_6 : decode cX4_become 6 = .ok (.getfield 9, 3) := by decide +kernel
theorem dX4_become_9 : decode cX4_become 9 = .ok (.iconst 0, 1) := by decide +kernel
theorem dX4_become_10 : decode cX4_become 10 = .ok (.bipush 64, 2) := by decide +kernel
theorem dX4_become_12 : decode cX4_become 12 = .ok (.invokestatic 28, 3) := by decide +kernel
theorem dX4_become_15 : decode cX4_become 15 = .ok (.aload_n 0, 1) := by decide +kernel
theorem dX4_become_16 : decode cX4_become 16 = .ok (.iconst 0, 1) := by decide +kernel
theorem dX4_become_17 : decode cX4_become 17 = .ok (.putfield 21, 3) := by decide +kernel
theorem dX4_become_20 : decode cX4_become 20 = .ok (.aload_n 0, 1) := by decide +kernel
theorem dX4_become_21 : decode cX4_become 21 = .ok (.dup, 1) := by decide +kernel
theorem dX4_become_22 : decode cX4_become 22 = .ok (.getfield 25, 3) := by decide +kernel
theorem dX4_become_25 : decode cX4_become 25 = .ok (.iconst 1, 1) := by decide +kernel
theorem dX4_become_26 : decode cX4_become 26 = .ok (.iadd, 1) := by decide +kernel
theorem dX4_become_27 : decode cX4_become 27 = .ok (.putfield 25, 3) := by decide +kernel
theorem dX4_become_30 : decode cX4_become 30 = .ok (.return_, 1) := by decide +kernel
theorem dX4_size_0 : decode cX4_size 0 = .ok (.iconst 0, 1) := by decide +kernel
theorem dX4_size_1 : decode cX4_size 1 = .ok (.istore_n 1, 1) := by decide +kernel
theorem dX4_size_2 : decode cX4_size 2 = .ok (.iconst 0, 1) := by decide +kernel
theorem dX4_size_3 : decode cX4_size 3 = .ok (.istore_n 2, 1) := by decide +kernel
theorem dX4_size_4 : decode cX4_size 4 = .ok (.iload_n 2, 1) := by decide +kernel
theorem dX4_size_5 : decode cX4_size 5 = .ok (.bipush 8, 2) := by decide +kernel
theorem dX4_size_7 : decode cX4_size 7 = .ok (.if_icmp .ge 42, 3) := by decide +kernel
theorem dX4_size_10 : decode cX4_size 10 = .ok (.iload_n 2, 1) := by decide +kernel
theorem dX4_size_11 : decode cX4_size 11 = .ok (.iconst 1, 1) := by decide +kernel
theorem dX4_size_12 : decode cX4_size 12 = .ok (.iadd, 1) := by decide +kernel
theorem dX4_size_13 : decode cX4_size 13 = .ok (.istore_n 3, 1) := by decide +kernel
theorem dX4_size_14 : decode cX4_size 14 = .ok (.iload_n 3, 1) := by decide +kernel
theorem dX4_size_15 : decode cX4_size 15 = .ok (.bipush 8, 2) := by decide +kernel
theorem dX4_size_17 : decode cX4_size 17 = .ok (.if_icmp .ge 26, 3) := by decide +kernel
theorem dX4_size_20 : decode cX4_size 20 = .ok (.aload_n 0, 1) := by decide +kernel
theorem dX4_size_21 : decode cX4_size 21 = .ok (.getfield 9, 3) := by decide +kernel
theorem dX4_size_24 : decode cX4_size 24 = .ok (.iload_n 2, 1) := by decide +kernel
theorem dX4_size_25 : decode cX4_size 25 = .ok (.bipush 8, 2) := by decide +kernel
theorem dX4_size_27 : decode cX4_size 27 = .ok (.imul, 1) := by decide +kernel
theorem dX4_size_28 : decode cX4_size 28 = .ok (.iload_n 3, 1) := by decide +kernel
theorem dX4_size_29 : decode cX4_size 29 = .ok (.iadd, 1) := by decide +kernel
theorem dX4_size_30 : decode cX4_size 30 = .ok (.iaload, 1) := by decide +kernel
theorem dX4_size_31 : decode cX4_size 31 = .ok (.ifCond .eq 6, 3) := by decide +kernel
theorem dX4_size_34 : decode cX4_size 34 = .ok (.iinc 1 1, 3) := by decide +kernel
theorem dX4_size_37 : decode cX4_size 37 = .ok (.iinc 3 1, 3) := by decide +kernel
theorem dX4_size_40 : decode cX4_size 40 = .ok (.goto (-26), 3) := by decide +kernel
theorem dX4_size_43 : decode cX4_size 43 = .ok (.iinc 2 1, 3) := by decide +kernel
theorem dX4_size_46 : decode cX4_size 46 = .ok (.goto (-42), 3) := by decide +kernel
theorem dX4_size_49 : decode cX4_size 49 = .ok (.iload_n 1, 1) := by decide +kernel
theorem dX4_size_50 : decode cX4_size 50 = .ok (.ireturn, 1) := by decide +kernel
theorem dX4_farFrom_0 : decode cX4_farFrom 0 = .ok (.aload_n 0, 1) := by decide +kernel
theorem dX4_farFrom_1 : decode cX4_farFrom 1 = .ok (.getfield 21, 3) := by decide +kernel
theorem dX4_farFrom_4 : decode cX4_farFrom 4 = .ok (.iload_n 1, 1) := by decide +kernel
theorem dX4_farFrom_5 : decode cX4_farFrom 5 = .ok (.ishr, 1) := by decide +kernel
theorem dX4_farFrom_6 : decode cX4_farFrom 6 = .ok (.iconst 1, 1) := by decide +kernel
theorem dX4_farFrom_7 : decode cX4_farFrom 7 = .ok (.iand, 1) := by decide +kernel
theorem dX4_farFrom_8 : decode cX4_farFrom 8 = .ok (.ifCond .ne 31, 3) := by decide +kernel
theorem dX4_farFrom_11 : decode cX4_farFrom 11 = .ok (.aload_n 0, 1) := by decide +kernel
theorem dX4_farFrom_12 : decode cX4_farFrom 12 = .ok (.iload_n 1, 1) := by decide +kernel
theorem dX4_farFrom_13 : decode cX4_farFrom 13 = .ok (.sipush 255, 3) := by decide +kernel
theorem dX4_farFrom_16 : decode cX4_farFrom 16 = .ok (.aload_n 0, 1) := by decide +kernel
theorem dX4_farFrom_17 : decode cX4_farFrom 17 = .ok (.getfield 15, 3) := by decide +kernel
theorem dX4_farFrom_20 : decode cX4_farFrom 20 = .ok (.iload_n 1, 1) := by decide +kernel
theorem dX4_farFrom_21 : decode cX4_farFrom 21 = .ok (.bipush 8, 2) := by decide +kernel
theorem dX4_farFrom_23 : decode cX4_farFrom 23 = .ok (.imul, 1) := by decide +kernel
theorem dX4_farFrom_24 : decode cX4_farFrom 24 = .ok (.invokevirtual 34, 3) := by decide +kernel
theorem dX4_farFrom_27 : decode cX4_farFrom 27 = .ok (.aload_n 0, 1) := by decide +kernel
theorem dX4_farFrom_28 : decode cX4_farFrom 28 = .ok (.dup, 1) := by decide +kernel
theorem dX4_farFrom_29 : decode cX4_farFrom 29 = .ok (.getfield 21, 3) := by decide +kernel
theorem dX4_farFrom_32 : decode cX4_farFrom 32 = .ok (.iconst 1, 1) := by decide +kernel
theorem dX4_farFrom_33 : decode cX4_farFrom 33 = .ok (.iload_n 1, 1) := by decide +kernel
theorem dX4_farFrom_34 : decode cX4_farFrom 34 = .ok (.ishl, 1) := by decide +kernel
theorem dX4_farFrom_35 : decode cX4_farFrom 35 = .ok (.ior, 1) := by decide +kernel
theorem dX4_farFrom_36 : decode cX4_farFrom 36 = .ok (.putfield 21, 3) := by decide +kernel
theorem dX4_farFrom_39 : decode cX4_farFrom 39 = .ok (.aload_n 0, 1) := by decide +kernel
theorem dX4_farFrom_40 : decode cX4_farFrom 40 = .ok (.getfield 15, 3) := by decide +kernel
theorem dX4_farFrom_43 : decode cX4_farFrom 43 = .ok (.iload_n 1, 1) := by decide +kernel
theorem dX4_farFrom_44 : decode cX4_farFrom 44 = .ok (.bipush 8, 2) := by decide +kernel
theorem dX4_farFrom_46 : decode cX4_farFrom 46 = .ok (.imul, 1) := by decide +kernel
theorem dX4_farFrom_47 : decode cX4_farFrom 47 = .ok (.iload_n 2, 1) := by decide +kernel
theorem dX4_farFrom_48 : decode cX4_farFrom 48 = .ok (.iadd, 1) := by decide +kernel
theorem dX4_farFrom_49 : decode cX4_farFrom 49 = .ok (.iaload, 1) := by decide +kernel
theorem dX4_farFrom_50 : decode cX4_farFrom 50 = .ok (.ireturn, 1) := by decide +kernel
theorem dX4_walked_0 : decode cX4_walked 0 = .ok (.aload_n 0, 1) := by decide +kernel
theorem dX4_walked_1 : decode cX4_walked 1 = .ok (.iload_n 1, 1) := by decide +kernel
theorem dX4_walked_2 : decode cX4_walked 2 = .ok (.iload_n 3, 1) := by decide +kernel
theorem dX4_walked_3 : decode cX4_walked 3 = .ok (.aload_n 0, 1) := by decide +kernel
theorem dX4_walked_4 : decode cX4_walked 4 = .ok (.getfield 18, 3) := by decide +kernel
theorem dX4_walked_7 : decode cX4_walked 7 = .ok (.iconst 0, 1) := by decide +kernel
theorem dX4_walked_8 : decode cX4_walked 8 = .ok (.invokevirtual 34, 3) := by decide +kernel
theorem dX4_walked_11 : decode cX4_walked 11 = .ok (.aload_n 0, 1) := by decide +kernel
theorem dX4_walked_12 : decode cX4_walked 12 = .ok (.getfield 18, 3) := by decide +kernel
theorem dX4_walked_15 : decode cX4_walked 15 = .ok (.iload_n 2, 1) := by decide +kernel
theorem dX4_walked_16 : decode cX4_walked 16 = .ok (.iaload, 1) := by decide +kernel
theorem dX4_walked_17 : decode cX4_walked 17 = .ok (.sipush 999, 3) := by decide +kernel
theorem dX4_walked_20 : decode cX4_walked 20 = .ok (.if_icmp .ne 7, 3) := by decide +kernel
theorem dX4_walked_23 : decode cX4_walked 23 = .ok (.iconst (-1), 1) := by decide +kernel
theorem dX4_walked_24 : decode cX4_walked 24 = .ok (.goto 9, 3) := by decide +kernel
theorem dX4_walked_27 : decode cX4_walked 27 = .ok (.aload_n 0, 1) := by decide +kernel
theorem dX4_walked_28 : decode cX4_walked 28 = .ok (.getfield 18, 3) := by decide +kernel
theorem dX4_walked_31 : decode cX4_walked 31 = .ok (.iload_n 2, 1) := by decide +kernel
theorem dX4_walked_32 : decode cX4_walked 32 = .ok (.iaload, 1) := by decide +kernel
theorem dX4_walked_33 : decode cX4_walked 33 = .ok (.ireturn, 1) := by decide +kernel
theorem dX4_reach_0 : decode cX4_reach 0 = .ok (.aload_n 0, 1) := by decide +kernel
theorem dX4_reach_1 : decode cX4_reach 1 = .ok (.iload_n 1, 1) := by decide +kernel
theorem dX4_reach_2 : decode cX4_reach 2 = .ok (.iload_n 2, 1) := by decide +kernel
theorem dX4_reach_3 : decode cX4_reach 3 = .ok (.aload_n 0, 1) := by decide +kernel
theorem dX4_reach_4 : decode cX4_reach 4 = .ok (.getfield 18, 3) := by decide +kernel
theorem dX4_reach_7 : decode cX4_reach 7 = .ok (.iconst 0, 1) := by decide +kernel
theorem dX4_reach_8 : decode cX4_reach 8 = .ok (.invokevirtual 34, 3) := by decide +kernel
theorem dX4_reach_11 : decode cX4_reach 11 = .ok (.iconst 0, 1) := by decide +kernel
theorem dX4_reach_12 : decode cX4_reach 12 = .ok (.istore_n 3, 1) := by decide +kernel
theorem dX4_reach_13 : decode cX4_reach 13 = .ok (.iconst 0, 1) := by decide +kernel
theorem dX4_reach_14 : decode cX4_reach 14 = .ok (.istore 4, 2) := by decide +kernel
theorem dX4_reach_16 : decode cX4_reach 16 = .ok (.iload 4, 2) := by decide +kernel
theorem dX4_reach_18 : decode cX4_reach 18 = .ok (.bipush 8, 2) := by decide +kernel
theorem dX4_reach_20 : decode cX4_reach 20 = .ok (.if_icmp .ge 29, 3) := by decide +kernel
theorem dX4_reach_23 : decode cX4_reach 23 = .ok (.aload_n 0, 1) := by decide +kernel
theorem dX4_reach_24 : decode cX4_reach 24 = .ok (.getfield 18, 3) := by decide +kernel
theorem dX4_reach_27 : decode cX4_reach 27 = .ok (.iload 4, 2) := by decide +kernel
theorem dX4_reach_29 : decode cX4_reach 29 = .ok (.iaload, 1) := by decide +kernel
theorem dX4_reach_30 : decode cX4_reach 30 = .ok (.sipush 999, 3) := by decide +kernel
theorem dX4_reach_33 : decode cX4_reach 33 = .ok (.if_icmp .eq 10, 3) := by decide +kernel
theorem dX4_reach_36 : decode cX4_reach 36 = .ok (.iload_n 3, 1) := by decide +kernel
theorem dX4_reach_37 : decode cX4_reach 37 = .ok (.iconst 1, 1) := by decide +kernel
theorem dX4_reach_38 : decode cX4_reach 38 = .ok (.iload 4, 2) := by decide +kernel
theorem dX4_reach_40 : decode cX4_reach 40 = .ok (.ishl, 1) := by decide +kernel
theorem dX4_reach_41 : decode cX4_reach 41 = .ok (.ior, 1) := by decide +kernel
theorem dX4_reach_42 : decode cX4_reach 42 = .ok (.istore_n 3, 1) := by decide +kernel
theorem dX4_reach_43 : decode cX4_reach 43 = .ok (.iinc 4 1, 3) := by decide +kernel
theorem dX4_reach_46 : decode cX4_reach 46 = .ok (.goto (-30), 3) := by decide +kernel
theorem dX4_reach_49 : decode cX4_reach 49 = .ok (.iload_n 3, 1) := by decide +kernel
theorem dX4_reach_50 : decode cX4_reach 50 = .ok (.ireturn, 1) := by decide +kernel
theorem dX4_spread_0 : decode cX4_spread 0 = .ok (.iconst 0, 1) := by decide +kernel
theorem dX4_spread_1 : decode cX4_spread 1 = .ok (.istore 5, 2) := by decide +kernel
theorem dX4_spread_3 : decode cX4_spread 3 = .ok (.iload 5, 2) := by decide +kernel
theorem dX4_spread_5 : decode cX4_spread 5 = .ok (.bipush 8, 2) := by decide +kernel
theorem dX4_spread_7 : decode cX4_spread 7 = .ok (.if_icmp .ge 19, 3) := by decide +kernel
theorem dX4_spread_10 : decode cX4_spread 10 = .ok (.aload_n 3, 1) := by decide +kernel
theorem dX4_spread_11 : decode cX4_spread 11 = .ok (.iload 4, 2) := by decide +kernel
theorem dX4_spread_13 : decode cX4_spread 13 = .ok (.iload 5, 2) := by decide +kernel
theorem dX4_spread_15 : decode cX4_spread 15 = .ok (.iadd, 1) := by decide +kernel
theorem dX4_spread_16 : decode cX4_spread 16 = .ok (.sipush 999, 3) := by decide +kernel
theorem dX4_spread_19 : decode cX4_spread 19 = .ok (.iastore, 1) := by decide +kernel
theorem dX4_spread_20 : decode cX4_spread 20 = .ok (.iinc 5 1, 3) := by decide +kernel
theorem dX4_spread_23 : decode cX4_spread 23 = .ok (.goto (-20), 3) := by decide +kernel
theorem dX4_spread_26 : decode cX4_spread 26 = .ok (.aload_n 3, 1) := by decide +kernel
theorem dX4_spread_27 : decode cX4_spread 27 = .ok (.iload 4, 2) := by decide +kernel
theorem dX4_spread_29 : decode cX4_spread 29 = .ok (.iload_n 1, 1) := by decide +kernel
theorem dX4_spread_30 : decode cX4_spread 30 = .ok (.iadd, 1) := by decide +kernel
theorem dX4_spread_31 : decode cX4_spread 31 = .ok (.iconst 0, 1) := by decide +kernel
theorem dX4_spread_32 : decode cX4_spread 32 = .ok (.iastore, 1) := by decide +kernel
theorem dX4_spread_33 : decode cX4_spread 33 = .ok (.iconst 1, 1) := by decide +kernel
theorem dX4_spread_34 : decode cX4_spread 34 = .ok (.istore 5, 2) := by decide +kernel
theorem dX4_spread_36 : decode cX4_spread 36 = .ok (.iconst 0, 1) := by decide +kernel
theorem dX4_spread_37 : decode cX4_spread 37 = .ok (.istore 6, 2) := by decide +kernel
theorem dX4_spread_39 : decode cX4_spread 39 = .ok (.iload 6, 2) := by decide +kernel
theorem dX4_spread_41 : decode cX4_spread 41 = .ok (.bipush 8, 2) := by decide +kernel
theorem dX4_spread_43 : decode cX4_spread 43 = .ok (.if_icmp .ge 137, 3) := by decide +kernel
theorem dX4_spread_46 : decode cX4_spread 46 = .ok (.iload 5, 2) := by decide +kernel
theorem dX4_spread_48 : decode cX4_spread 48 = .ok (.ifCond .eq 132, 3) := by decide +kernel
theorem dX4_spread_51 : decode cX4_spread 51 = .ok (.iconst 0, 1) := by decide +kernel
theorem dX4_spread_52 : decode cX4_spread 52 = .ok (.istore 5, 2) := by decide +kernel
theorem dX4_spread_54 : decode cX4_spread 54 = .ok (.iconst 0, 1) := by decide +kernel
theorem dX4_spread_55 : decode cX4_spread 55 = .ok (.istore 7, 2) := by decide +kernel
theorem dX4_spread_57 : decode cX4_spread 57 = .ok (.iload 7, 2) := by decide +kernel
theorem dX4_spread_59 : decode cX4_spread 59 = .ok (.bipush 8, 2) := by decide +kernel
theorem dX4_spread_61 : decode cX4_spread 61 = .ok (.if_icmp .ge 113, 3) := by decide +kernel
theorem dX4_spread_64 : decode cX4_spread 64 = .ok (.aload_n 3, 1) := by decide +kernel
theorem dX4_spread_65 : decode cX4_spread 65 = .ok (.iload 4, 2) := by decide +kernel
theorem dX4_spread_67 : decode cX4_spread 67 = .ok (.iload 7, 2) := by decide +kernel
theorem dX4_spread_69 : decode cX4_spread 69 = .ok (.iadd, 1) := by decide +kernel
theorem dX4_spread_70 : decode cX4_spread 70 = .ok (.iaload, 1) := by decide +kernel
theorem dX4_spread_71 : decode cX4_spread 71 = .ok (.sipush 999, 3) := by decide +kernel
theorem dX4_spread_74 : decode cX4_spread 74 = .ok (.if_icmp .ne 6, 3) := by decide +kernel
theorem dX4_spread_77 : decode cX4_spread 77 = .ok (.goto 91, 3) := by decide +kernel
theorem dX4_spread_80 : decode cX4_spread 80 = .ok (.iconst 0, 1) := by decide +kernel
theorem dX4_spread_81 : decode cX4_spread 81 = .ok (.istore 8, 2) := by decide +kernel
theorem dX4_spread_83 : decode cX4_spread 83 = .ok (.iload 8, 2) := by decide +kernel
theorem dX4_spread_85 : decode cX4_spread 85 = .ok (.bipush 8, 2) := by decide +kernel
theorem dX4_spread_87 : decode cX4_spread 87 = .ok (.if_icmp .ge 81, 3) := by decide +kernel
theorem dX4_spread_90 : decode cX4_spread 90 = .ok (.aload_n 0, 1) := by decide +kernel
theorem dX4_spread_91 : decode cX4_spread 91 = .ok (.getfield 9, 3) := by decide +kernel
theorem dX4_spread_94 : decode cX4_spread 94 = .ok (.iload 7, 2) := by decide +kernel
theorem dX4_spread_96 : decode cX4_spread 96 = .ok (.bipush 8, 2) := by decide +kernel
theorem dX4_spread_98 : decode cX4_spread 98 = .ok (.imul, 1) := by decide +kernel
theorem dX4_spread_99 : decode cX4_spread 99 = .ok (.iload 8, 2) := by decide +kernel
theorem dX4_spread_101 : decode cX4_spread 101 = .ok (.iadd, 1) := by decide +kernel
theorem dX4_spread_102 : decode cX4_spread 102 = .ok (.iaload, 1) := by decide +kernel
theorem dX4_spread_103 : decode cX4_spread 103 = .ok (.istore 9, 2) := by decide +kernel
theorem dX4_spread_105 : decode cX4_spread 105 = .ok (.iload 9, 2) := by decide +kernel
theorem dX4_spread_107 : decode cX4_spread 107 = .ok (.ifCond .eq 55, 3) := by decide +kernel
theorem dX4_spread_110 : decode cX4_spread 110 = .ok (.iload_n 2, 1) := by decide +kernel
theorem dX4_spread_111 : decode cX4_spread 111 = .ok (.iload 8, 2) := by decide +kernel
theorem dX4_spread_113 : decode cX4_spread 113 = .ok (.ishr, 1) := by decide +kernel
theorem dX4_spread_114 : decode cX4_spread 114 = .ok (.iconst 1, 1) := by decide +kernel
theorem dX4_spread_115 : decode cX4_spread 115 = .ok (.iand, 1) := by decide +kernel
theorem dX4_spread_116 : decode cX4_spread 116 = .ok (.ifCond .ne 6, 3) := by decide +kernel
theorem dX4_spread_119 : decode cX4_spread 119 = .ok (.goto 43, 3) := by decide +kernel
theorem dX4_spread_122 : decode cX4_spread 122 = .ok (.aload_n 3, 1) := by decide +kernel
theorem dX4_spread_123 : decode cX4_spread 123 = .ok (.iload 4, 2) := by decide +kernel
theorem dX4_spread_125 : decode cX4_spread 125 = .ok (.iload 7, 2) := by decide +kernel
theorem dX4_spread_127 : decode cX4_spread 127 = .ok (.iadd, 1) := by decide +kernel
theorem dX4_spread_128 : decode cX4_spread 128 = .ok (.iaload, 1) := by decide +kernel
theorem dX4_spread_129 : decode cX4_spread 129 = .ok (.iload 9, 2) := by decide +kernel
theorem dX4_spread_131 : decode cX4_spread 131 = .ok (.iadd, 1) := by decide +kernel
theorem dX4_spread_132 : decode cX4_spread 132 = .ok (.aload_n 3, 1) := by decide +kernel
theorem dX4_spread_133 : decode cX4_spread 133 = .ok (.iload 4, 2) := by decide +kernel
theorem dX4_spread_135 : decode cX4_spread 135 = .ok (.iload 8, 2) := by decide +kernel
theorem dX4_spread_137 : decode cX4_spread 137 = .ok (.iadd, 1) := by decide +kernel
theorem dX4_spread_138 : decode cX4_spread 138 = .ok (.iaload, 1) := by decide +kernel
theorem dX4_spread_139 : decode cX4_spread 139 = .ok (.if_icmp .ge 23, 3) := by decide +kernel
theorem dX4_spread_142 : decode cX4_spread 142 = .ok (.aload_n 3, 1) := by decide +kernel
theorem dX4_spread_143 : decode cX4_spread 143 = .ok (.iload 4, 2) := by decide +kernel
theorem dX4_spread_145 : decode cX4_spread 145 = .ok (.iload 8, 2) := by decide +kernel
theorem dX4_spread_147 : decode cX4_spread 147 = .ok (.iadd, 1) := by decide +kernel
theorem dX4_spread_148 : decode cX4_spread 148 = .ok (.aload_n 3, 1) := by decide +kernel
theorem dX4_spread_149 : decode cX4_spread 149 = .ok (.iload 4, 2) := by decide +kernel
theorem dX4_spread_151 : decode cX4_spread 151 = .ok (.iload 7, 2) := by decide +kernel
theorem dX4_spread_153 : decode cX4_spread 153 = .ok (.iadd, 1) := by decide +kernel
theorem dX4_spread_154 : decode cX4_spread 154 = .ok (.iaload, 1) := by decide +kernel
theorem dX4_spread_155 : decode cX4_spread 155 = .ok (.iload 9, 2) := by decide +kernel
theorem dX4_spread_157 : decode cX4_spread 157 = .ok (.iadd, 1) := by decide +kernel
theorem dX4_spread_158 : decode cX4_spread 158 = .ok (.iastore, 1) := by decide +kernel
theorem dX4_spread_159 : decode cX4_spread 159 = .ok (.iconst 1, 1) := by decide +kernel
theorem dX4_spread_160 : decode cX4_spread 160 = .ok (.istore 5, 2) := by decide +kernel
theorem dX4_spread_162 : decode cX4_spread 162 = .ok (.iinc 8 1, 3) := by decide +kernel
theorem dX4_spread_165 : decode cX4_spread 165 = .ok (.goto (-82), 3) := by decide +kernel
theorem dX4_spread_168 : decode cX4_spread 168 = .ok (.iinc 7 1, 3) := by decide +kernel
theorem dX4_spread_171 : decode cX4_spread 171 = .ok (.goto (-114), 3) := by decide +kernel
theorem dX4_spread_174 : decode cX4_spread 174 = .ok (.iinc 6 1, 3) := by decide +kernel
theorem dX4_spread_177 : decode cX4_spread 177 = .ok (.goto (-138), 3) := by decide +kernel
theorem dX4_spread_180 : decode cX4_spread 180 = .ok (.return_, 1) := by decide +kernel
theorem dX5_init_0 : decode cX5_init 0 = .ok (.aload_n 0, 1) := by decide +kernel
theorem dX5_init_1 : decode cX5_init 1 = .ok (.invokespecial 3, 3) := by decide +kernel
theorem dX5_init_4 : decode cX5_init 4 = .ok (.aload_n 0, 1) := by decide +kernel
theorem dX5_init_5 : decode cX5_init 5 = .ok (.bipush 6, 2) := by decide +kernel
theorem dX5_init_7 : decode cX5_init 7 = .ok (.anewarray 9, 3) := by decide +kernel
theorem dX5_init_10 : decode cX5_init 10 = .ok (.putfield 11, 3) := by decide +kernel
theorem dX5_init_13 : decode cX5_init 13 = .ok (.aload_n 0, 1) := by decide +kernel
theorem dX5_init_14 : decode cX5_init 14 = .ok (.iconst 0, 1) := by decide +kernel
theorem dX5_init_15 : decode cX5_init 15 = .ok (.putfield 17, 3) := by decide +kernel
theorem dX5_init_18 : decode cX5_init 18 = .ok (.aload_n 0, 1) := by decide +kernel
theorem dX5_init_19 : decode cX5_init 19 = .ok (.bipush 6, 2) := by decide +kernel
theorem dX5_init_21 : decode cX5_init 21 = .ok (.anewarray 21, 3) := by decide +kernel
theorem dX5_init_24 : decode cX5_init 24 = .ok (.putfield 23, 3) := by decide +kernel
theorem dX5_init_27 : decode cX5_init 27 = .ok (.aload_n 0, 1) := by decide +kernel
theorem dX5_init_28 : decode cX5_init 28 = .ok (.bipush 6, 2) := by decide +kernel
theorem dX5_init_30 : decode cX5_init 30 = .ok (.newarray .int, 2) := by decide +kernel
theorem dX5_init_32 : decode cX5_init 32 = .ok (.putfield 27, 3) := by decide +kernel
theorem dX5_init_35 : decode cX5_init 35 = .ok (.aload_n 0, 1) := by decide +kernel
theorem dX5_init_36 : decode cX5_init 36 = .ok (.bipush 40, 2) := by decide +kernel
theorem dX5_init_38 : decode cX5_init 38 = .ok (.newarray .int, 2) := by decide +kernel
theorem dX5_init_40 : decode cX5_init 40 = .ok (.putfield 31, 3) := by decide +kernel
theorem dX5_init_43 : decode cX5_init 43 = .ok (.aload_n 0, 1) := by decide +kernel
theorem dX5_init_44 : decode cX5_init 44 = .ok (.aload_n 1, 1) := by decide +kernel
theorem dX5_init_45 : decode cX5_init 45 = .ok (.putfield 34, 3) := by decide +kernel
theorem dX5_init_48 : decode cX5_init 48 = .ok (.iconst 0, 1) := by decide +kernel
theorem dX5_init_49 : decode cX5_init 49 = .ok (.istore_n 2, 1) := by decide +kernel
theorem dX5_init_50 : decode cX5_init 50 = .ok (.iload_n 2, 1) := by decide +kernel
theorem dX5_init_51 : decode cX5_init 51 = .ok (.bipush 6, 2) := by decide +kernel
theorem dX5_init_53 : decode cX5_init 53 = .ok (.if_icmp .ge 22, 3) := by decide +kernel
theorem dX5_init_56 : decode cX5_init 56 = .ok (.aload_n 0, 1) := by decide +kernel
theorem dX5_init_57 : decode cX5_init 57 = .ok (.getfield 23, 3) := by decide +kernel
theorem dX5_init_60 : decode cX5_init 60 = .ok (.iload_n 2, 1) := by decide +kernel
theorem dX5_init_61 : decode cX5_init 61 = .ok (.new 21, 3) := by decide +kernel
theorem dX5_init_64 : decode cX5_init 64 = .ok (.dup, 1) := by decide +kernel
theorem dX5_init_65 : decode cX5_init 65 = .ok (.invokespecial 38, 3) := by decide +kernel
theorem dX5_init_68 : decode cX5_init 68 = .ok (.aastore, 1) := by decide +kernel
theorem dX5_init_69 : decode cX5_init 69 = .ok (.iinc 2 1, 3) := by decide +kernel
theorem dX5_init_72 : decode cX5_init 72 = .ok (.goto (-22), 3) := by decide +kernel
theorem dX5_init_75 : decode cX5_init 75 = .ok (.return_, 1) := by decide +kernel
theorem dX5_add_0 : decode cX5_add 0 = .ok (.aload_n 0, 1) := by decide +kernel
theorem dX5_add_1 : decode cX5_add 1 = .ok (.getfield 17, 3) := by decide +kernel
theorem dX5_add_4 : decode cX5_add 4 = .ok (.bipush 6, 2) := by decide +kernel
theorem dX5_add_6 : decode cX5_add 6 = .ok (.if_icmp .lt 6, 3) := by decide +kernel
theorem dX5_add_9 : decode cX5_add 9 = .ok (.bipush (-4), 2) := by decide +kernel
theorem dX5_add_11 : decode cX5_add 11 = .ok (.ireturn, 1) := by decide +kernel
theorem dX5_add_12 : decode cX5_add 12 = .ok (.aload_n 0, 1) := by decide +kernel
theorem dX5_add_13 : decode cX5_add 13 = .ok (.getfield 11, 3) := by decide +kernel
theorem dX5_add_16 : decode cX5_add 16 = .ok (.aload_n 0, 1) := by decide +kernel
theorem dX5_add_17 : decode cX5_add 17 = .ok (.getfield 17, 3) := by decide +kernel
theorem dX5_add_20 : decode cX5_add 20 = .ok (.aload_n 1, 1) := by decide +kernel
theorem dX5_add_21 : decode cX5_add 21 = .ok (.aastore, 1) := by decide +kernel
theorem dX5_add_22 : decode cX5_add 22 = .ok (.aload_n 0, 1) := by decide +kernel
theorem dX5_add_23 : decode cX5_add 23 = .ok (.dup, 1) := by decide +kernel
theorem dX5_add_24 : decode cX5_add 24 = .ok (.getfield 17, 3) := by decide +kernel
theorem dX5_add_27 : decode cX5_add 27 = .ok (.dup_x1, 1) := by decide +kernel
theorem dX5_add_28 : decode cX5_add 28 = .ok (.iconst 1, 1) := by decide +kernel
theorem dX5_add_29 : decode cX5_add 29 = .ok (.iadd, 1) := by decide +kernel
theorem dX5_add_30 : decode cX5_add 30 = .ok (.putfield 17, 3) := by decide +kernel
theorem dX5_add_33 : decode cX5_add 33 = .ok (.ireturn, 1) := by decide +kernel
theorem dX5_says_0 : decode cX5_says 0 = .ok (.aload_n 0, 1) := by decide +kernel
theorem dX5_says_1 : decode cX5_says 1 = .ok (.getfield 11, 3) := by decide +kernel
theorem dX5_says_4 : decode cX5_says 4 = .ok (.aload_n 1, 1) := by decide +kernel
theorem dX5_says_5 : decode cX5_says 5 = .ok (.getfield 39, 3) := by decide +kernel
theorem dX5_says_8 : decode cX5_says 8 = .ok (.aaload, 1) := by decide +kernel
theorem dX5_says_9 : decode cX5_says 9 = .ok (.astore 5, 2) := by decide +kernel
theorem dX5_says_11 : decode cX5_says 11 = .ok (.aload 5, 2) := by decide +kernel
theorem dX5_says_13 : decode cX5_says 13 = .ok (.ifnonnull 5, 3) := by decide +kernel
theorem dX5_says_16 : decode cX5_says 16 = .ok (.iconst 0, 1) := by decide +kernel
theorem dX5_says_17 : decode cX5_says 17 = .ok (.ireturn, 1) := by decide +kernel
theorem dX5_says_18 : decode cX5_says 18 = .ok (.aload_n 0, 1) := by decide +kernel
theorem dX5_says_19 : decode cX5_says 19 = .ok (.getfield 23, 3) := by decide +kernel
theorem dX5_says_22 : decode cX5_says 22 = .ok (.iload_n 2, 1) := by decide +kernel
theorem dX5_says_23 : decode cX5_says 23 = .ok (.aaload, 1) := by decide +kernel
theorem dX5_says_24 : decode cX5_says 24 = .ok (.astore 6, 2) := by decide +kernel
theorem dX5_says_26 : decode cX5_says 26 = .ok (.aload_n 0, 1) := by decide +kernel
theorem dX5_says_27 : decode cX5_says 27 = .ok (.aload_n 1, 1) := by decide +kernel
theorem dX5_says_28 : decode cX5_says 28 = .ok (.iload_n 2, 1) := by decide +kernel
theorem dX5_says_29 : decode cX5_says 29 = .ok (.aload 5, 2) := by decide +kernel
theorem dX5_says_31 : decode cX5_says 31 = .ok (.invokevirtual 44, 3) := by decide +kernel
theorem dX5_says_34 : decode cX5_says 34 = .ok (.lstore 7, 2) := by decide +kernel
theorem dX5_says_36 : decode cX5_says 36 = .ok (.aload 6, 2) := by decide +kernel
theorem dX5_says_38 : decode cX5_says 38 = .ok (.getfield 48, 3) := by decide +kernel
theorem dX5_says_41 : decode cX5_says 41 = .ok (.lload 7, 2) := by decide +kernel
theorem dX5_says_43 : decode cX5_says 43 = .ok (.lcmp, 1) := by decide +kernel
theorem dX5_says_44 : decode cX5_says 44 = .ok (.ifCond .eq 16, 3) := by decide +kernel
theorem dX5_says_47 : decode cX5_says 47 = .ok (.aload 6, 2) := by decide +kernel
theorem dX5_says_49 : decode cX5_says 49 = .ok (.lload 7, 2) := by decide +kernel
theorem dX5_says_51 : decode cX5_says 51 = .ok (.putfield 48, 3) := by decide +kernel
theorem dX5_says_54 : decode cX5_says 54 = .ok (.aload 6, 2) := by decide +kernel
theorem dX5_says_56 : decode cX5_says 56 = .ok (.iconst 0, 1) := by decide +kernel
theorem dX5_says_57 : decode cX5_says 57 = .ok (.putfield 52, 3) := by decide +kernel
theorem dX5_says_60 : decode cX5_says 60 = .ok (.iload_n 3, 1) := by decide +kernel
theorem dX5_says_61 : decode cX5_says 61 = .ok (.bipush 8, 2) := by decide +kernel
theorem dX5_says_63 : decode cX5_says 63 = .ok (.imul, 1) := by decide +kernel
theorem dX5_says_64 : decode cX5_says 64 = .ok (.iload 4, 2) := by decide +kernel
theorem dX5_says_66 : decode cX5_says 66 = .ok (.iadd, 1) := by decide +kernel
theorem dX5_says_67 : decode cX5_says 67 = .ok (.istore 9, 2) := by decide +kernel
theorem dX5_says_69 : decode cX5_says 69 = .ok (.aload 6, 2) := by decide +kernel
theorem dX5_says_71 : decode cX5_says 71 = .ok (.getfield 52, 3) := by decide +kernel
theorem dX5_says_74 : decode cX5_says 74 = .ok (.iload 9, 2) := by decide +kernel
theorem dX5_says_76 : decode cX5_says 76 = .ok (.ishr, 1) := by decide +kernel
theorem dX5_says_77 : decode cX5_says 77 = .ok (.iconst 1, 1) := by decide +kernel
theorem dX5_says_78 : decode cX5_says 78 = .ok (.iand, 1) := by decide +kernel
theorem dX5_says_79 : decode cX5_says 79 = .ok (.ifCond .eq 12, 3) := by decide +kernel
theorem dX5_says_82 : decode cX5_says 82 = .ok (.aload 6, 2) := by decide +kernel
theorem dX5_says_84 : decode cX5_says 84 = .ok (.getfield 55, 3) := by decide +kernel
theorem dX5_says_87 : decode cX5_says 87 = .ok (.iload 9, 2) := by decide +kernel
theorem dX5_says_89 : decode cX5_says 89 = .ok (.iaload, 1) := by decide +kernel
theorem dX5_says_90 : decode cX5_says 90 = .ok (.ireturn, 1) := by decide +kernel
theorem dX5_says_91 : decode cX5_says 91 = .ok (.aload_n 0, 1) := by decide +kernel
theorem dX5_says_92 : decode cX5_says 92 = .ok (.getfield 27, 3) := by decide +kernel
theorem dX5_says_95 : decode cX5_says 95 = .ok (.iconst 0, 1) := by decide +kernel
theorem dX5_says_96 : decode cX5_says 96 = .ok (.iload 4, 2) := by decide +kernel
theorem dX5_says_98 : decode cX5_says 98 = .ok (.iastore, 1) := by decide +kernel
theorem dX5_says_99 : decode cX5_says 99 = .ok (.aload_n 0, 1) := by decide +kernel
theorem dX5_says_100 : decode cX5_says 100 = .ok (.getfield 27, 3) := by decide +kernel
theorem dX5_says_103 : decode cX5_says 103 = .ok (.iconst 1, 1) := by decide +kernel
theorem dX5_says_104 : decode cX5_says 104 = .ok (.aload_n 1, 1) := by decide +kernel
theorem dX5_says_105 : decode cX5_says 105 = .ok (.getfield 58, 3) := by decide +kernel
theorem dX5_says_108 : decode cX5_says 108 = .ok (.iload_n 2, 1) := by decide +kernel
theorem dX5_says_109 : decode cX5_says 109 = .ok (.iaload, 1) := by decide +kernel
theorem dX5_says_110 : decode cX5_says 110 = .ok (.iastore, 1) := by decide +kernel
theorem dX5_says_111 : decode cX5_says 111 = .ok (.aload_n 0, 1) := by decide +kernel
theorem dX5_says_112 : decode cX5_says 112 = .ok (.getfield 27, 3) := by decide +kernel
theorem dX5_says_115 : decode cX5_says 115 = .ok (.iconst 2, 1) := by decide +kernel
theorem dX5_says_116 : decode cX5_says 116 = .ok (.aload_n 1, 1) := by decide +kernel
theorem dX5_says_117 : decode cX5_says 117 = .ok (.getfield 61, 3) := by decide +kernel
theorem dX5_says_120 : decode cX5_says 120 = .ok (.iload_n 2, 1) := by decide +kernel
theorem dX5_says_121 : decode cX5_says 121 = .ok (.iaload, 1) := by decide +kernel
theorem dX5_says_122 : decode cX5_says 122 = .ok (.invokestatic 64, 3) := by decide +kernel
theorem dX5_says_125 : decode cX5_says 125 = .ok (.iastore, 1) := by decide +kernel
theorem dX5_says_126 : decode cX5_says 126 = .ok (.aload_n 0, 1) := by decide +kernel
theorem dX5_says_127 : decode cX5_says 127 = .ok (.getfield 27, 3) := by decide +kernel
theorem dX5_says_130 : decode cX5_says 130 = .ok (.iconst 3, 1) := by decide +kernel
theorem dX5_says_131 : decode cX5_says 131 = .ok (.aload_n 0, 1) := by decide +kernel
theorem dX5_says_132 : decode cX5_says 132 = .ok (.getfield 34, 3) := by decide +kernel
theorem dX5_says_135 : decode cX5_says 135 = .ok (.aload_n 1, 1) := by decide +kernel
theorem dX5_says_136 : decode cX5_says 136 = .ok (.getfield 70, 3) := by decide +kernel
theorem dX5_says_139 : decode cX5_says 139 = .ok (.iload_n 2, 1) := by decide +kernel
theorem dX5_says_140 : decode cX5_says 140 = .ok (.iaload, 1) := by decide +kernel
theorem dX5_says_141 : decode cX5_says 141 = .ok (.iload 4, 2) := by decide +kernel
theorem dX5_says_143 : decode cX5_says 143 = .ok (.invokevirtual 73, 3) := by decide +kernel
theorem dX5_says_146 : decode cX5_says 146 = .ok (.iastore, 1) := by decide +kernel
theorem dX5_says_147 : decode cX5_says 147 = .ok (.aload_n 0, 1) := by decide +kernel
theorem dX5_says_148 : decode cX5_says 148 = .ok (.getfield 27, 3) := by decide +kernel
theorem dX5_says_151 : decode cX5_says 151 = .ok (.iconst 4, 1) := by decide +kernel
theorem dX5_says_152 : decode cX5_says 152 = .ok (.aload_n 1, 1) := by decide +kernel
theorem dX5_says_153 : decode cX5_says 153 = .ok (.getfield 70, 3) := by decide +kernel
theorem dX5_says_156 : decode cX5_says 156 = .ok (.iload_n 2, 1) := by decide +kernel
theorem dX5_says_157 : decode cX5_says 157 = .ok (.iaload, 1) := by decide +kernel
theorem dX5_says_158 : decode cX5_says 158 = .ok (.iload 4, 2) := by decide +kernel
theorem dX5_says_160 : decode cX5_says 160 = .ok (.if_icmp .ne 7, 3) := by decide +kernel
theorem dX5_says_163 : decode cX5_says 163 = .ok (.iconst 1, 1) := by decide +kernel
theorem dX5_says_164 : decode cX5_says 164 = .ok (.goto 4, 3) := by decide +kernel
theorem dX5_says_167 : decode cX5_says 167 = .ok (.iconst 0, 1) := by decide +kernel
theorem dX5_says_168 : decode cX5_says 168 = .ok (.iastore, 1) := by decide +kernel
theorem dX5_says_169 : decode cX5_says 169 = .ok (.aload_n 0, 1) := by decide +kernel
theorem dX5_says_170 : decode cX5_says 170 = .ok (.getfield 27, 3) := by decide +kernel
theorem dX5_says_173 : decode cX5_says 173 = .ok (.iconst 5, 1) := by decide +kernel
theorem dX5_says_174 : decode cX5_says 174 = .ok (.aload_n 1, 1) := by decide +kernel
theorem dX5_says_175 : decode cX5_says 175 = .ok (.getfield 79, 3) := by decide +kernel
theorem dX5_says_178 : decode cX5_says 178 = .ok (.iastore, 1) := by decide +kernel
theorem dX5_says_179 : decode cX5_says 179 = .ok (.aload 5, 2) := by decide +kernel
theorem dX5_says_181 : decode cX5_says 181 = .ok (.iload_n 3, 1) := by decide +kernel
theorem dX5_says_182 : decode cX5_says 182 = .ok (.aload_n 0, 1) := by decide +kernel
theorem dX5_says_183 : decode cX5_says 183 = .ok (.getfield 27, 3) := by decide +kernel
theorem dX5_says_186 : decode cX5_says 186 = .ok (.aload_n 0, 1) := by decide +kernel
theorem dX5_says_187 : decode cX5_says 187 = .ok (.getfield 31, 3) := by decide +kernel
theorem dX5_says_190 : decode cX5_says 190 = .ok (.invokevirtual 82, 3) := by decide +kernel
theorem dX5_says_193 : decode cX5_says 193 = .ok (.istore 10, 2) := by decide +kernel
theorem dX5_says_195 : decode cX5_says 195 = .ok (.aload 6, 2) := by decide +kernel
theorem dX5_says_197 : decode cX5_says 197 = .ok (.getfield 55, 3) := by decide +kernel
theorem dX5_says_200 : decode cX5_says 200 = .ok (.iload 9, 2) := by decide +kernel
theorem dX5_says_202 : decode cX5_says 202 = .ok (.iload_n 3, 1) := by decide +kernel
theorem dX5_says_203 : decode cX5_says 203 = .ok (.ifCond .ne 8, 3) := by decide +kernel
theorem dX5_says_206 : decode cX5_says 206 = .ok (.iload 10, 2) := by decide +kernel
theorem dX5_says_208 : decode cX5_says 208 = .ok (.goto 14, 3) := by decide +kernel
theorem dX5_says_211 : decode cX5_says 211 = .ok (.iconst 0, 1) := by decide +kernel
theorem dX5_says_212 : decode cX5_says 212 = .ok (.bipush 99, 2) := by decide +kernel
theorem dX5_says_214 : decode cX5_says 214 = .ok (.iload 10, 2) := by decide +kernel
theorem dX5_says_216 : decode cX5_says 216 = .ok (.invokestatic 86, 3) := by decide +kernel
theorem dX5_says_219 : decode cX5_says 219 = .ok (.invokestatic 91, 3) := by decide +kernel
theorem dX5_says_222 : decode cX5_says 222 = .ok (.iastore, 1) := by decide +kernel
theorem dX5_says_223 : decode cX5_says 223 = .ok (.aload 6, 2) := by decide +kernel
theorem dX5_says_225 : decode cX5_says 225 = .ok (.dup, 1) := by decide +kernel
theorem dX5_says_226 : decode cX5_says 226 = .ok (.getfield 52, 3) := by decide +kernel
theorem dX5_says_229 : decode cX5_says 229 = .ok (.iconst 1, 1) := by decide +kernel
theorem dX5_says_230 : decode cX5_says 230 = .ok (.iload 9, 2) := by decide +kernel
theorem dX5_says_232 : decode cX5_says 232 = .ok (.ishl, 1) := by decide +kernel
theorem dX5_says_233 : decode cX5_says 233 = .ok (.ior, 1) := by decide +kernel
theorem dX5_says_234 : decode cX5_says 234 = .ok (.putfield 52, 3) := by decide +kernel
theorem dX5_says_237 : decode cX5_says 237 = .ok (.aload 6, 2) := by decide +kernel
theorem dX5_says_239 : decode cX5_says 239 = .ok (.getfield 55, 3) := by decide +kernel
theorem dX5_says_242 : decode cX5_says 242 = .ok (.iload 9, 2) := by decide +kernel
theorem dX5_says_244 : decode cX5_says 244 = .ok (.iaload, 1) := by decide +kernel
theorem dX5_says_245 : decode cX5_says 245 = .ok (.ireturn, 1) := by decide +kernel
theorem dX5_keyOf_0 : decode cX5_keyOf 0 = .ok (.aload_n 0, 1) := by decide +kernel
theorem dX5_keyOf_1 : decode cX5_keyOf 1 = .ok (.getfield 34, 3) := by decide +kernel
theorem dX5_keyOf_4 : decode cX5_keyOf 4 = .ok (.getfield 94, 3) := by decide +kernel
theorem dX5_keyOf_7 : decode cX5_keyOf 7 = .ok (.i2l, 1) := by decide +kernel
theorem dX5_keyOf_8 : decode cX5_keyOf 8 = .ok (.lstore 4, 2) := by decide +kernel
theorem dX5_keyOf_10 : decode cX5_keyOf 10 = .ok (.lload 4, 2) := by decide +kernel
theorem dX5_keyOf_12 : decode cX5_keyOf 12 = .ok (.ldc2_w 97, 3) := by decide +kernel
theorem dX5_keyOf_15 : decode cX5_keyOf 15 = .ok (.lmul, 1) := by decide +kernel
theorem dX5_keyOf_16 : decode cX5_keyOf 16 = .ok (.aload_n 1, 1) := by decide +kernel
theorem dX5_keyOf_17 : decode cX5_keyOf 17 = .ok (.getfield 39, 3) := by decide +kernel
theorem dX5_keyOf_20 : decode cX5_keyOf 20 = .ok (.i2l, 1) := by decide +kernel
theorem dX5_keyOf_21 : decode cX5_keyOf 21 = .ok (.ladd, 1) := by decide +kernel
theorem dX5_keyOf_22 : decode cX5_keyOf 22 = .ok (.lstore 4, 2) := by decide +kernel
theorem dX5_keyOf_24 : decode cX5_keyOf 24 = .ok (.lload 4, 2) := by decide +kernel
theorem dX5_keyOf_26 : decode cX5_keyOf 26 = .ok (.ldc2_w 99, 3) := by decide +kernel
theorem dX5_keyOf_29 : decode cX5_keyOf 29 = .ok (.lmul, 1) := by decide +kernel
theorem dX5_keyOf_30 : decode cX5_keyOf 30 = .ok (.aload_n 1, 1) := by decide +kernel
theorem dX5_keyOf_31 : decode cX5_keyOf 31 = .ok (.getfield 70, 3) := by decide +kernel
theorem dX5_keyOf_34 : decode cX5_keyOf 34 = .ok (.iload_n 2, 1) := by decide +kernel
theorem dX5_keyOf_35 : decode cX5_keyOf 35 = .ok (.iaload, 1) := by decide +kernel
theorem dX5_keyOf_36 : decode cX5_keyOf 36 = .ok (.i2l, 1) := by decide +kernel
theorem dX5_keyOf_37 : decode cX5_keyOf 37 = .ok (.ladd, 1) := by decide +kernel
theorem dX5_keyOf_38 : decode cX5_keyOf 38 = .ok (.lstore 4, 2) := by decide +kernel
theorem dX5_keyOf_40 : decode cX5_keyOf 40 = .ok (.lload 4, 2) := by decide +kernel
theorem dX5_keyOf_42 : decode cX5_keyOf 42 = .ok (.ldc2_w 101, 3) := by decide +kernel
theorem dX5_keyOf_45 : decode cX5_keyOf 45 = .ok (.lmul, 1) := by decide +kernel
theorem dX5_keyOf_46 : decode cX5_keyOf 46 = .ok (.aload_n 1, 1) := by decide +kernel
theorem dX5_keyOf_47 : decode cX5_keyOf 47 = .ok (.getfield 58, 3) := by decide +kernel
theorem dX5_keyOf_50 : decode cX5_keyOf 50 = .ok (.iload_n 2, 1) := by decide +kernel
theorem dX5_keyOf_51 : decode cX5_keyOf 51 = .ok (.iaload, 1) := by decide +kernel
theorem dX5_keyOf_52 : decode cX5_keyOf 52 = .ok (.i2l, 1) := by decide +kernel
theorem dX5_keyOf_53 : decode cX5_keyOf 53 = .ok (.ladd, 1) := by decide +kernel
theorem dX5_keyOf_54 : decode cX5_keyOf 54 = .ok (.lstore 4, 2) := by decide +kernel
theorem dX5_keyOf_56 : decode cX5_keyOf 56 = .ok (.lload 4, 2) := by decide +kernel
theorem dX5_keyOf_58 : decode cX5_keyOf 58 = .ok (.ldc2_w 103, 3) := by decide +kernel
theorem dX5_keyOf_61 : decode cX5_keyOf 61 = .ok (.lmul, 1) := by decide +kernel
theorem dX5_keyOf_62 : decode cX5_keyOf 62 = .ok (.aload_n 3, 1) := by decide +kernel
theorem dX5_keyOf_63 : decode cX5_keyOf 63 = .ok (.getfield 105, 3) := by decide +kernel
theorem dX5_keyOf_66 : decode cX5_keyOf 66 = .ok (.ifCond .eq 15, 3) := by decide +kernel
theorem dX5_keyOf_69 : decode cX5_keyOf 69 = .ok (.aload_n 1, 1) := by decide +kernel
theorem dX5_keyOf_70 : decode cX5_keyOf 70 = .ok (.getfield 61, 3) := by decide +kernel
theorem dX5_keyOf_73 : decode cX5_keyOf 73 = .ok (.iload_n 2, 1) := by decide +kernel
theorem dX5_keyOf_74 : decode cX5_keyOf 74 = .ok (.iaload, 1) := by decide +kernel
theorem dX5_keyOf_75 : decode cX5_keyOf 75 = .ok (.invokestatic 64, 3) := by decide +kernel
theorem dX5_keyOf_78 : decode cX5_keyOf 78 = .ok (.goto 4, 3) := by decide +kernel
theorem dX5_keyOf_81 : decode cX5_keyOf 81 = .ok (.iconst 0, 1) := by decide +kernel
theorem dX5_keyOf_82 : decode cX5_keyOf 82 = .ok (.i2l, 1) := by decide +kernel
theorem dX5_keyOf_83 : decode cX5_keyOf 83 = .ok (.ladd, 1) := by decide +kernel
theorem dX5_keyOf_84 : decode cX5_keyOf 84 = .ok (.lstore 4, 2) := by decide +kernel
theorem dX5_keyOf_86 : decode cX5_keyOf 86 = .ok (.lload 4, 2) := by decide +kernel
theorem dX5_keyOf_88 : decode cX5_keyOf 88 = .ok (.ldc2_w 109, 3) := by decide +kernel
theorem dX5_keyOf_91 : decode cX5_keyOf 91 = .ok (.lmul, 1) := by decide +kernel
theorem dX5_keyOf_92 : decode cX5_keyOf 92 = .ok (.aload_n 3, 1) := by decide +kernel
theorem dX5_keyOf_93 : decode cX5_keyOf 93 = .ok (.getfield 111, 3) := by decide +kernel
theorem dX5_keyOf_96 : decode cX5_keyOf 96 = .ok (.ifCond .eq 10, 3) := by decide +kernel
theorem dX5_keyOf_99 : decode cX5_keyOf 99 = .ok (.aload_n 1, 1) := by decide +kernel
theorem dX5_keyOf_100 : decode cX5_keyOf 100 = .ok (.getfield 79, 3) := by decide +kernel
theorem dX5_keyOf_103 : decode cX5_keyOf 103 = .ok (.goto 4, 3) := by decide +kernel
theorem dX5_keyOf_106 : decode cX5_keyOf 106 = .ok (.iconst 0, 1) := by decide +kernel
theorem dX5_keyOf_107 : decode cX5_keyOf 107 = .ok (.i2l, 1) := by decide +kernel
theorem dX5_keyOf_108 : decode cX5_keyOf 108 = .ok (.ladd, 1) := by decide +kernel
theorem dX5_keyOf_109 : decode cX5_keyOf 109 = .ok (.lreturn, 1) := by decide +kernel
theorem dX5_namesRound_0 : decode cX5_namesRound 0 = .ok (.aload_n 0, 1) := by decide +kernel
theorem dX5_namesRound_1 : decode cX5_namesRound 1 = .ok (.getfield 11, 3) := by decide +kernel
theorem dX5_namesRound_4 : decode cX5_namesRound 4 = .ok (.iload_n 1, 1) := by decide +kernel
theorem dX5_namesRound_5 : decode cX5_namesRound 5 = .ok (.aaload, 1) := by decide +kernel
theorem dX5_namesRound_6 : decode cX5_namesRound 6 = .ok (.astore_n 2, 1) := by decide +kernel
theorem dX5_namesRound_7 : decode cX5_namesRound 7 = .ok (.aload_n 2, 1) := by decide +kernel
theorem dX5_namesRound_8 : decode cX5_namesRound 8 = .ok (.ifnull 10, 3) := by decide +kernel
theorem dX5_namesRound_11 : decode cX5_namesRound 11 = .ok (.aload_n 2, 1) := by decide +kernel
theorem dX5_namesRound_12 : decode cX5_namesRound 12 = .ok (.getfield 111, 3) := by decide +kernel
theorem dX5_namesRound_15 : decode cX5_namesRound 15 = .ok (.ifCond .eq 7, 3) := by decide +kernel
theorem dX5_namesRound_18 : decode cX5_namesRound 18 = .ok (.iconst 1, 1) := by decide +kernel
theorem dX5_namesRound_19 : decode cX5_namesRound 19 = .ok (.goto 4, 3) := by decide +kernel
theorem dX5_namesRound_22 : decode cX5_namesRound 22 = .ok (.iconst 0, 1) := by decide +kernel
theorem dX5_namesRound_23 : decode cX5_namesRound 23 = .ok (.ireturn, 1) := by decide +kernel
theorem dX6_init_0 : decode cX6_init 0 = .ok (.aload_n 0, 1) := by decide +kernel
theorem dX6_init_1 : decode cX6_init 1 = .ok (.invokespecial 3, 3) := by decide +kernel
theorem dX6_init_4 : decode cX6_init 4 = .ok (.aload_n 0, 1) := by decide +kernel
theorem dX6_init_5 : decode cX6_init 5 = .ok (.iconst (-1), 1) := by decide +kernel
theorem dX6_init_6 : decode cX6_init 6 = .ok (.putfield 9, 3) := by decide +kernel
theorem dX6_init_9 : decode cX6_init 9 = .ok (.aload_n 0, 1) := by decide +kernel
theorem dX6_init_10 : decode cX6_init 10 = .ok (.iconst 0, 1) := by decide +kernel
theorem dX6_init_11 : decode cX6_init 11 = .ok (.putfield 15, 3) := by decide +kernel
theorem dX6_init_14 : decode cX6_init 14 = .ok (.aload_n 0, 1) := by decide +kernel
theorem dX6_init_15 : decode cX6_init 15 = .ok (.bipush 40, 2) := by decide +kernel
theorem dX6_init_17 : decode cX6_init 17 = .ok (.newarray .int, 2) := by decide +kernel
theorem dX6_init_19 : decode cX6_init 19 = .ok (.putfield 18, 3) := by decide +kernel
theorem dX6_init_22 : decode cX6_init 22 = .ok (.return_, 1) := by decide +kernel
theorem dX6_become_0 : decode cX6_become 0 = .ok (.aload_n 0, 1) := by decide +kernel
theorem dX6_become_1 : decode cX6_become 1 = .ok (.iload_n 1, 1) := by decide +kernel
theorem dX6_become_2 : decode cX6_become 2 = .ok (.putfield 9, 3) := by decide +kernel
theorem dX6_become_5 : decode cX6_become 5 = .ok (.aload_n 0, 1) := by decide +kernel
theorem dX6_become_6 : decode cX6_become 6 = .ok (.iload_n 2, 1) := by decide +kernel
theorem dX6_become_7 : decode cX6_become 7 = .ok (.putfield 15, 3) := by decide +kernel
theorem dX6_become_10 : decode cX6_become 10 = .ok (.aload_n 0, 1) := by decide +kernel
theorem dX6_become_11 : decode cX6_become 11 = .ok (.getfield 18, 3) := by decide +kernel
theorem dX6_become_14 : decode cX6_become 14 = .ok (.iconst 0, 1) := by decide +kernel
theorem dX6_become_15 : decode cX6_become 15 = .ok (.invokestatic 22, 3) := by decide +kernel
theorem dX6_become_18 : decode cX6_become 18 = .ok (.return_, 1) := by decide +kernel
theorem dX6_isMissing_0 : decode cX6_isMissing 0 = .ok (.aload_n 0, 1) := by decide +kernel
theorem dX6_isMissing_1 : decode cX6_isMissing 1 = .ok (.getfield 9, 3) := by decide +kernel
theorem dX6_isMissing_4 : decode cX6_isMissing 4 = .ok (.iconst (-1), 1) := by decide +kernel
theorem dX6_isMissing_5 : decode cX6_isMissing 5 = .ok (.if_icmp .ne 7, 3) := by decide +kernel
theorem dX6_isMissing_8 : decode cX6_isMissing 8 = .ok (.iconst 1, 1) := by decide +kernel
theorem dX6_isMissing_9 : decode cX6_isMissing 9 = .ok (.goto 4, 3) := by decide +kernel
theorem dX6_isMissing_12 : decode cX6_isMissing 12 = .ok (.iconst 0, 1) := by decide +kernel
theorem dX6_isMissing_13 : decode cX6_isMissing 13 = .ok (.ireturn, 1) := by decide +kernel
theorem dX6_has_0 : decode cX6_has 0 = .ok (.iload_n 1, 1) := by decide +kernel
theorem dX6_has_1 : decode cX6_has 1 = .ok (.ifCond .lt 29, 3) := by decide +kernel
theorem dX6_has_4 : decode cX6_has 4 = .ok (.iload_n 2, 1) := by decide +kernel
theorem dX6_has_5 : decode cX6_has 5 = .ok (.ifCond .lt 25, 3) := by decide +kernel
theorem dX6_has_8 : decode cX6_has 8 = .ok (.iload_n 1, 1) := by decide +kernel
theorem dX6_has_9 : decode cX6_has 9 = .ok (.aload_n 0, 1) := by decide +kernel
theorem dX6_has_10 : decode cX6_has 10 = .ok (.getfield 15, 3) := by decide +kernel
theorem dX6_has_13 : decode cX6_has 13 = .ok (.if_icmp .gt 17, 3) := by decide +kernel
theorem dX6_has_16 : decode cX6_has 16 = .ok (.iload_n 2, 1) := by decide +kernel
theorem dX6_has_17 : decode cX6_has 17 = .ok (.aload_n 0, 1) := by decide +kernel
theorem dX6_has_18 : decode cX6_has 18 = .ok (.getfield 15, 3) := by decide +kernel
theorem dX6_has_21 : decode cX6_has 21 = .ok (.iload_n 1, 1) := by decide +kernel
theorem dX6_has_22 : decode cX6_has 22 = .ok (.isub, 1) := by decide +kernel
theorem dX6_has_23 : decode cX6_has 23 = .ok (.if_icmp .gt 7, 3) := by decide +kernel
theorem dX6_has_26 : decode cX6_has 26 = .ok (.iconst 1, 1) := by decide +kernel
theorem dX6_has_27 : decode cX6_has 27 = .ok (.goto 4, 3) := by decide +kernel
theorem dX6_has_30 : decode cX6_has 30 = .ok (.iconst 0, 1) := by decide +kernel
theorem dX6_has_31 : decode cX6_has 31 = .ok (.ireturn, 1) := by decide +kernel
theorem dX6_put_0 : decode cX6_put 0 = .ok (.aload_n 0, 1) := by decide +kernel
theorem dX6_put_1 : decode cX6_put 1 = .ok (.getfield 18, 3) := by decide +kernel
theorem dX6_put_4 : decode cX6_put 4 = .ok (.iload_n 1, 1) := by decide +kernel
theorem dX6_put_5 : decode cX6_put 5 = .ok (.aload_n 0, 1) := by decide +kernel
theorem dX6_put_6 : decode cX6_put 6 = .ok (.getfield 9, 3) := by decide +kernel
theorem dX6_put_9 : decode cX6_put 9 = .ok (.ifCond .ne 8, 3) := by decide +kernel
theorem dX6_put_12 : decode cX6_put 12 = .ok (.iload_n 2, 1) := by decide +kernel
theorem dX6_put_13 : decode cX6_put 13 = .ok (.i2b, 1) := by decide +kernel
theorem dX6_put_14 : decode cX6_put 14 = .ok (.goto 17, 3) := by decide +kernel
theorem dX6_put_17 : decode cX6_put 17 = .ok (.aload_n 0, 1) := by decide +kernel
theorem dX6_put_18 : decode cX6_put 18 = .ok (.getfield 9, 3) := by decide +kernel
theorem dX6_put_21 : decode cX6_put 21 = .ok (.iconst 1, 1) := by decide +kernel
theorem dX6_put_22 : decode cX6_put 22 = .ok (.if_icmp .ne 8, 3) := by decide +kernel
theorem dX6_put_25 : decode cX6_put 25 = .ok (.iload_n 2, 1) := by decide +kernel
theorem dX6_put_26 : decode cX6_put 26 = .ok (.i2s, 1) := by decide +kernel
theorem dX6_put_27 : decode cX6_put 27 = .ok (.goto 4, 3) := by decide +kernel
theorem dX6_put_30 : decode cX6_put 30 = .ok (.iload_n 2, 1) := by decide +kernel
theorem dX6_put_31 : decode cX6_put 31 = .ok (.iastore, 1) := by decide +kernel
theorem dX6_put_32 : decode cX6_put 32 = .ok (.return_, 1) := by decide +kernel
theorem dX7_init_0 : decode cX7_init 0 = .ok (.aload_n 0, 1) := by decide +kernel
theorem dX7_init_1 : decode cX7_init 1 = .ok (.invokespecial 3, 3) := by decide +kernel
theorem dX7_init_4 : decode cX7_init 4 = .ok (.aload_n 0, 1) := by decide +kernel
theorem dX7_init_5 : decode cX7_init 5 = .ok (.iconst 3, 1) := by decide +kernel
theorem dX7_init_6 : decode cX7_init 6 = .ok (.newarray .int, 2) := by decide +kernel
theorem dX7_init_8 : decode cX7_init 8 = .ok (.putfield 9, 3) := by decide +kernel
theorem dX7_init_11 : decode cX7_init 11 = .ok (.aload_n 0, 1) := by decide +kernel
theorem dX7_init_12 : decode cX7_init 12 = .ok (.aload_n 1, 1) := by decide +kernel
theorem dX7_init_13 : decode cX7_init 13 = .ok (.putfield 13, 3) := by decide +kernel
theorem dX7_init_16 : decode cX7_init 16 = .ok (.aload_n 0, 1) := by decide +kernel
theorem dX7_init_17 : decode cX7_init 17 = .ok (.getfield 9, 3) := by decide +kernel
theorem dX7_init_20 : decode cX7_init 20 = .ok (.iconst 0, 1) := by decide +kernel
theorem dX7_init_21 : decode cX7_init 21 = .ok (.iload_n 2, 1) := by decide +kernel
theorem dX7_init_22 : decode cX7_init 22 = .ok (.iastore, 1) := by decide +kernel
theorem dX7_init_23 : decode cX7_init 23 = .ok (.aload_n 0, 1) := by decide +kernel
theorem dX7_init_24 : decode cX7_init 24 = .ok (.getfield 9, 3) := by decide +kernel
theorem dX7_init_27 : decode cX7_init 27 = .ok (.iconst 1, 1) := by decide +kernel
theorem dX7_init_28 : decode cX7_init 28 = .ok (.iload_n 3, 1) := by decide +kernel
theorem dX7_init_29 : decode cX7_init 29 = .ok (.iastore, 1) := by decide +kernel
theorem dX7_init_30 : decode cX7_init 30 = .ok (.aload_n 0, 1) := by decide +kernel
theorem dX7_init_31 : decode cX7_init 31 = .ok (.getfield 9, 3) := by decide +kernel
theorem dX7_init_34 : decode cX7_init 34 = .ok (.iconst 2, 1) := by decide +kernel
theorem dX7_init_35 : decode cX7_init 35 = .ok (.aload_n 1, 1) := by decide +kernel
theorem dX7_init_36 : decode cX7_init 36 = .ok (.arraylength, 1) := by decide +kernel
theorem dX7_init_37 : decode cX7_init 37 = .ok (.iastore, 1) := by decide +kernel
theorem dX7_init_38 : decode cX7_init 38 = .ok (.iconst 0, 1) := by decide +kernel
theorem dX7_init_39 : decode cX7_init 39 = .ok (.istore 4, 2) := by decide +kernel
theorem dX7_init_41 : decode cX7_init 41 = .ok (.iconst 0, 1) := by decide +kernel
theorem dX7_init_42 : decode cX7_init 42 = .ok (.istore 5, 2) := by decide +kernel
theorem dX7_init_44 : decode cX7_init 44 = .ok (.iconst 0, 1) := by decide +kernel
theorem dX7_init_45 : decode cX7_init 45 = .ok (.istore 6, 2) := by decide +kernel
theorem dX7_init_47 : decode cX7_init 47 = .ok (.iload 6, 2) := by decide +kernel
theorem dX7_init_49 : decode cX7_init 49 = .ok (.aload_n 1, 1) := by decide +kernel
theorem dX7_init_50 : decode cX7_init 50 = .ok (.arraylength, 1) := by decide +kernel
theorem dX7_init_51 : decode cX7_init 51 = .ok (.if_icmp .ge 33, 3) := by decide +kernel
theorem dX7_init_54 : decode cX7_init 54 = .ok (.aload_n 1, 1) := by decide +kernel
theorem dX7_init_55 : decode cX7_init 55 = .ok (.iload 6, 2) := by decide +kernel
theorem dX7_init_57 : decode cX7_init 57 = .ok (.iaload, 1) := by decide +kernel
theorem dX7_init_58 : decode cX7_init 58 = .ok (.bipush (-3), 2) := by decide +kernel
theorem dX7_init_60 : decode cX7_init 60 = .ok (.if_icmp .ne 6, 3) := by decide +kernel
theorem dX7_init_63 : decode cX7_init 63 = .ok (.iconst 1, 1) := by decide +kernel
theorem dX7_init_64 : decode cX7_init 64 = .ok (.istore 4, 2) := by decide +kernel
theorem dX7_init_66 : decode cX7_init 66 = .ok (.aload_n 1, 1) := by decide +kernel
theorem dX7_init_67 : decode cX7_init 67 = .ok (.iload 6, 2) := by decide +kernel
theorem dX7_init_69 : decode cX7_init 69 = .ok (.iaload, 1) := by decide +kernel
theorem dX7_init_70 : decode cX7_init 70 = .ok (.bipush (-6), 2) := by decide +kernel
theorem dX7_init_72 : decode cX7_init 72 = .ok (.if_icmp .ne 6, 3) := by decide +kernel
theorem dX7_init_75 : decode cX7_init 75 = .ok (.iconst 1, 1) := by decide +kernel
theorem dX7_init_76 : decode cX7_init 76 = .ok (.istore 5, 2) := by decide +kernel
theorem dX7_init_78 : decode cX7_init 78 = .ok (.iinc 6 1, 3) := by decide +kernel
theorem dX7_init_81 : decode cX7_init 81 = .ok (.goto (-34), 3) := by decide +kernel
theorem dX7_init_84 : decode cX7_init 84 = .ok (.aload_n 0, 1) := by decide +kernel
theorem dX7_init_85 : decode cX7_init 85 = .ok (.iload 4, 2) := by decide +kernel
theorem dX7_init_87 : decode cX7_init 87 = .ok (.putfield 16, 3) := by decide +kernel
theorem dX7_init_90 : decode cX7_init 90 = .ok (.aload_n 0, 1) := by decide +kernel
theorem dX7_init_91 : decode cX7_init 91 = .ok (.iload 5, 2) := by decide +kernel
theorem dX7_init_93 : decode cX7_init 93 = .ok (.putfield 20, 3) := by decide +kernel
theorem dX7_init_96 : decode cX7_init 96 = .ok (.return_, 1) := by decide +kernel
theorem dX7_value_0 : decode cX7_value 0 = .ok (.iconst 0, 1) := by decide +kernel
theorem dX7_value_1 : decode cX7_value 1 = .ok (.istore 4, 2) := by decide +kernel
theorem dX7_value_3 : decode cX7_value 3 = .ok (.iload_n 1, 1) := by decide +kernel
theorem dX7_value_4 : decode cX7_value 4 = .ok (.ifCond .ne 7, 3) := by decide +kernel
theorem dX7_value_7 : decode cX7_value 7 = .ok (.iconst 0, 1) := by decide +kernel
theorem dX7_value_8 : decode cX7_value 8 = .ok (.goto 11, 3) := by decide +kernel
theorem dX7_value_11 : decode cX7_value 11 = .ok (.aload_n 0, 1) := by decide +kernel
theorem dX7_value_12 : decode cX7_value 12 = .ok (.getfield 9, 3) := by decide +kernel
theorem dX7_value_15 : decode cX7_value 15 = .ok (.iload_n 1, 1) := by decide +kernel
theorem dX7_value_16 : decode cX7_value 16 = .ok (.iconst 1, 1) := by decide +kernel
theorem dX7_value_17 : decode cX7_value 17 = .ok (.isub, 1) := by decide +kernel
theorem dX7_value_18 : decode cX7_value 18 = .ok (.iaload, 1) := by decide +kernel
theorem dX7_value_19 : decode cX7_value 19 = .ok (.istore 5, 2) := by decide +kernel
theorem dX7_value_21 : decode cX7_value 21 = .ok (.iload 5, 2) := by decide +kernel
theorem dX7_value_23 : decode cX7_value 23 = .ok (.aload_n 0, 1) := by decide +kernel
theorem dX7_value_24 : decode cX7_value 24 = .ok (.getfield 9, 3) := by decide +kernel
theorem dX7_value_27 : decode cX7_value 27 = .ok (.iload_n 1, 1) := by decide +kernel
theorem dX7_value_28 : decode cX7_value 28 = .ok (.iaload, 1) := by decide +kernel
theorem dX7_value_29 : decode cX7_value 29 = .ok (.if_icmp .ge 160, 3) := by decide +kernel
theorem dX7_value_32 : decode cX7_value 32 = .ok (.aload_n 0, 1) := by decide +kernel
theorem dX7_value_33 : decode cX7_value 33 = .ok (.getfield 13, 3) := by decide +kernel
theorem dX7_value_36 : decode cX7_value 36 = .ok (.iload 5, 2) := by decide +kernel
theorem dX7_value_38 : decode cX7_value 38 = .ok (.iaload, 1) := by decide +kernel
theorem dX7_value_39 : decode cX7_value 39 = .ok (.istore 6, 2) := by decide +kernel
theorem dX7_value_41 : decode cX7_value 41 = .ok (.iload 6, 2) := by decide +kernel
theorem dX7_value_43 : decode cX7_value 43 = .ok (.bipush (-7), 2) := by decide +kernel
theorem dX7_value_45 : decode cX7_value 45 = .ok (.if_icmp .le 38, 3) := by decide +kernel
theorem dX7_value_48 : decode cX7_value 48 = .ok (.iload 4, 2) := by decide +kernel
theorem dX7_value_50 : decode cX7_value 50 = .ok (.bipush 40, 2) := by decide +kernel
theorem dX7_value_52 : decode cX7_value 52 = .ok (.if_icmp .lt 5, 3) := by decide +kernel
theorem dX7_value_55 : decode cX7_value 55 = .ok (.iconst 0, 1) := by decide +kernel
theorem dX7_value_56 : decode cX7_value 56 = .ok (.ireturn, 1) := by decide +kernel
theorem dX7_value_57 : decode cX7_value 57 = .ok (.aload_n 3, 1) := by decide +kernel
theorem dX7_value_58 : decode cX7_value 58 = .ok (.iload 4, 2) := by decide +kernel
theorem dX7_value_60 : decode cX7_value 60 = .ok (.iload 6, 2) := by decide +kernel
theorem dX7_value_62 : decode cX7_value 62 = .ok (.ifCond .lt 8, 3) := by decide +kernel
theorem dX7_value_65 : decode cX7_value 65 = .ok (.iload 6, 2) := by decide +kernel
theorem dX7_value_67 : decode cX7_value 67 = .ok (.goto 9, 3) := by decide +kernel
theorem dX7_value_70 : decode cX7_value 70 = .ok (.aload_n 2, 1) := by decide +kernel
theorem dX7_value_71 : decode cX7_value 71 = .ok (.iconst (-1), 1) := by decide +kernel
theorem dX7_value_72 : decode cX7_value 72 = .ok (.iload 6, 2) := by decide +kernel
theorem dX7_value_74 : decode cX7_value 74 = .ok (.isub, 1) := by decide +kernel
theorem dX7_value_75 : decode cX7_value 75 = .ok (.iaload, 1) := by decide +kernel
theorem dX7_value_76 : decode cX7_value 76 = .ok (.iastore, 1) := by decide +kernel
theorem dX7_value_77 : decode cX7_value 77 = .ok (.iinc 4 1, 3) := by decide +kernel
theorem dX7_value_80 : decode cX7_value 80 = .ok (.goto 103, 3) := by decide +kernel
theorem dX7_value_83 : decode cX7_value 83 = .ok (.bipush (-7), 2) := by decide +kernel
theorem dX7_value_85 : decode cX7_value 85 = .ok (.iload 6, 2) := by decide +kernel
theorem dX7_value_87 : decode cX7_value 87 = .ok (.isub, 1) := by decide +kernel
theorem dX7_value_88 : decode cX7_value 88 = .ok (.istore 7, 2) := by decide +kernel
theorem dX7_value_90 : decode cX7_value 90 = .ok (.iload 7, 2) := by decide +kernel
theorem dX7_value_92 : decode cX7_value 92 = .ok (.iconst 2, 1) := by decide +kernel
theorem dX7_value_93 : decode cX7_value 93 = .ok (.if_icmp .eq 10, 3) := by decide +kernel
theorem dX7_value_96 : decode cX7_value 96 = .ok (.iload 7, 2) := by decide +kernel
theorem dX7_value_98 : decode cX7_value 98 = .ok (.bipush 8, 2) := by decide +kernel
theorem dX7_value_100 : decode cX7_value 100 = .ok (.if_icmp .ne 51, 3) := by decide +kernel
theorem dX7_value_103 : decode cX7_value 103 = .ok (.iload 4, 2) := by decide +kernel
theorem dX7_value_105 : decode cX7_value 105 = .ok (.iconst 1, 1) := by decide +kernel
theorem dX7_value_106 : decode cX7_value 106 = .ok (.if_icmp .ge 5, 3) := by decide +kernel
theorem dX7_value_109 : decode cX7_value 109 = .ok (.iconst 0, 1) := by decide +kernel
theorem dX7_value_110 : decode cX7_value 110 = .ok (.ireturn, 1) := by decide +kernel
theorem dX7_value_111 : decode cX7_value 111 = .ok (.aload_n 3, 1) := by decide +kernel
theorem dX7_value_112 : decode cX7_value 112 = .ok (.iload 4, 2) := by decide +kernel
theorem dX7_value_114 : decode cX7_value 114 = .ok (.iconst 1, 1) := by decide +kernel
theorem dX7_value_115 : decode cX7_value 115 = .ok (.isub, 1) := by decide +kernel
theorem dX7_value_116 : decode cX7_value 116 = .ok (.iaload, 1) := by decide +kernel
theorem dX7_value_117 : decode cX7_value 117 = .ok (.istore 8, 2) := by decide +kernel
theorem dX7_value_119 : decode cX7_value 119 = .ok (.aload_n 3, 1) := by decide +kernel
theorem dX7_value_120 : decode cX7_value 120 = .ok (.iload 4, 2) := by decide +kernel
theorem dX7_value_122 : decode cX7_value 122 = .ok (.iconst 1, 1) := by decide +kernel
theorem dX7_value_123 : decode cX7_value 123 = .ok (.isub, 1) := by decide +kernel
theorem dX7_value_124 : decode cX7_value 124 = .ok (.iload 7, 2) := by decide +kernel
theorem dX7_value_126 : decode cX7_value 126 = .ok (.bipush 8, 2) := by decide +kernel
theorem dX7_value_128 : decode cX7_value 128 = .ok (.if_icmp .ne 9, 3) := by decide +kernel
theorem dX7_value_131 : decode cX7_value 131 = .ok (.iload 8, 2) := by decide +kernel
theorem dX7_value_133 : decode cX7_value 133 = .ok (.ineg, 1) := by decide +kernel
theorem dX7_value_134 : decode cX7_value 134 = .ok (.goto 13, 3) := by decide +kernel
theorem dX7_value_137 : decode cX7_value 137 = .ok (.iload 8, 2) := by decide +kernel
theorem dX7_value_139 : decode cX7_value 139 = .ok (.ifCond .ne 7, 3) := by decide +kernel
theorem dX7_value_142 : decode cX7_value 142 = .ok (.iconst 1, 1) := by decide +kernel
theorem dX7_value_143 : decode cX7_value 143 = .ok (.goto 4, 3) := by decide +kernel
theorem dX7_value_146 : decode cX7_value 146 = .ok (.iconst 0, 1) := by decide +kernel
theorem dX7_value_147 : decode cX7_value 147 = .ok (.iastore, 1) := by decide +kernel
theorem dX7_value_148 : decode cX7_value 148 = .ok (.goto 35, 3) := by decide +kernel
theorem dX7_value_151 : decode cX7_value 151 = .ok (.iload 4, 2) := by decide +kernel
theorem dX7_value_153 : decode cX7_value 153 = .ok (.iconst 2, 1) := by decide +kernel
theorem dX7_value_154 : decode cX7_value 154 = .ok (.if_icmp .ge 5, 3) := by decide +kernel
theorem dX7_value_157 : decode cX7_value 157 = .ok (.iconst 0, 1) := by decide +kernel
theorem dX7_value_158 : decode cX7_value 158 = .ok (.ireturn, 1) := by decide +kernel
theorem dX7_value_159 : decode cX7_value 159 = .ok (.iinc 4 (-1), 3) := by decide +kernel
theorem dX7_value_162 : decode cX7_value 162 = .ok (.aload_n 3, 1) := by decide +kernel
theorem dX7_value_163 : decode cX7_value 163 = .ok (.iload 4, 2) := by decide +kernel
theorem dX7_value_165 : decode cX7_value 165 = .ok (.iconst 1, 1) := by decide +kernel
theorem dX7_value_166 : decode cX7_value 166 = .ok (.isub, 1) := by decide +kernel
theorem dX7_value_167 : decode cX7_value 167 = .ok (.iload 7, 2) := by decide +kernel
theorem dX7_value_169 : decode cX7_value 169 = .ok (.aload_n 3, 1) := by decide +kernel
theorem dX7_value_170 : decode cX7_value 170 = .ok (.iload 4, 2) := by decide +kernel
theorem dX7_value_172 : decode cX7_value 172 = .ok (.iconst 1, 1) := by decide +kernel
theorem dX7_value_173 : decode cX7_value 173 = .ok (.isub, 1) := by decide +kernel
theorem dX7_value_174 : decode cX7_value 174 = .ok (.iaload, 1) := by decide +kernel
theorem dX7_value_175 : decode cX7_value 175 = .ok (.aload_n 3, 1) := by decide +kernel
theorem dX7_value_176 : decode cX7_value 176 = .ok (.iload 4, 2) := by decide +kernel
theorem dX7_value_178 : decode cX7_value 178 = .ok (.iaload, 1) := by decide +kernel
theorem dX7_value_179 : decode cX7_value 179 = .ok (.invokestatic 23, 3) := by decide +kernel
theorem dX7_value_182 : decode cX7_value 182 = .ok (.iastore, 1) := by decide +kernel
theorem dX7_value_183 : decode cX7_value 183 = .ok (.iinc 5 1, 3) := by decide +kernel
theorem dX7_value_186 : decode cX7_value 186 = .ok (.goto (-165), 3) := by decide +kernel
theorem dX7_value_189 : decode cX7_value 189 = .ok (.iload 4, 2) := by decide +kernel
theorem dX7_value_191 : decode cX7_value 191 = .ok (.iconst 1, 1) := by decide +kernel
theorem dX7_value_192 : decode cX7_value 192 = .ok (.if_icmp .ge 7, 3) := by decide +kernel
theorem dX7_value_195 : decode cX7_value 195 = .ok (.iconst 0, 1) := by decide +kernel
theorem dX7_value_196 : decode cX7_value 196 = .ok (.goto 6, 3) := by decide +kernel
theorem dX7_value_199 : decode cX7_value 199 = .ok (.aload_n 3, 1) := by decide +kernel
theorem dX7_value_200 : decode cX7_value 200 = .ok (.iconst 0, 1) := by decide +kernel
theorem dX7_value_201 : decode cX7_value 201 = .ok (.iaload, 1) := by decide +kernel
theorem dX7_value_202 : decode cX7_value 202 = .ok (.ireturn, 1) := by decide +kernel
theorem dX7_joined_0 : decode cX7_joined 0 = .ok (.iload_n 0, 1) := by decide +kernel
theorem dX7_joined_1 : decode cX7_joined 1 = .ok (.tableswitch 101 0 6 #[43, 57, 101, 71, 82, 93, 97], 43) := by decide +kernel
theorem dX7_joined_44 : decode cX7_joined 44 = .ok (.iload_n 1, 1) := by decide +kernel
theorem dX7_joined_45 : decode cX7_joined 45 = .ok (.ifCond .ne 7, 3) := by decide +kernel
theorem dX7_joined_48 : decode cX7_joined 48 = .ok (.iload_n 2, 1) := by decide +kernel
theorem dX7_joined_49 : decode cX7_joined 49 = .ok (.ifCond .eq 7, 3) := by decide +kernel
theorem dX7_joined_52 : decode cX7_joined 52 = .ok (.iconst 1, 1) := by decide +kernel
theorem dX7_joined_53 : decode cX7_joined 53 = .ok (.goto 4, 3) := by decide +kernel
theorem dX7_joined_56 : decode cX7_joined 56 = .ok (.iconst 0, 1) := by decide +kernel
theorem dX7_joined_57 : decode cX7_joined 57 = .ok (.ireturn, 1) := by decide +kernel
theorem dX7_joined_58 : decode cX7_joined 58 = .ok (.iload_n 1, 1) := by decide +kernel
theorem dX7_joined_59 : decode cX7_joined 59 = .ok (.ifCond .eq 11, 3) := by decide +kernel
theorem dX7_joined_62 : decode cX7_joined 62 = .ok (.iload_n 2, 1) := by decide +kernel
theorem dX7_joined_63 : decode cX7_joined 63 = .ok (.ifCond .eq 7, 3) := by decide +kernel
theorem dX7_joined_66 : decode cX7_joined 66 = .ok (.iconst 1, 1) := by decide +kernel
theorem dX7_joined_67 : decode cX7_joined 67 = .ok (.goto 4, 3) := by decide +kernel
theorem dX7_joined_70 : decode cX7_joined 70 = .ok (.iconst 0, 1) := by decide +kernel
theorem dX7_joined_71 : decode cX7_joined 71 = .ok (.ireturn, 1) := by decide +kernel
theorem dX7_joined_72 : decode cX7_joined 72 = .ok (.iload_n 1, 1) := by decide +kernel
theorem dX7_joined_73 : decode cX7_joined 73 = .ok (.iload_n 2, 1) := by decide +kernel
theorem dX7_joined_74 : decode cX7_joined 74 = .ok (.if_icmp .ge 7, 3) := by decide +kernel
theorem dX7_joined_77 : decode cX7_joined 77 = .ok (.iconst 1, 1) := by decide +kernel
theorem dX7_joined_78 : decode cX7_joined 78 = .ok (.goto 4, 3) := by decide +kernel
theorem dX7_joined_81 : decode cX7_joined 81 = .ok (.iconst 0, 1) := by decide +kernel
theorem dX7_joined_82 : decode cX7_joined 82 = .ok (.ireturn, 1) := by decide +kernel
theorem dX7_joined_83 : decode cX7_joined 83 = .ok (.iload_n 1, 1) := by decide +kernel
theorem dX7_joined_84 : decode cX7_joined 84 = .ok (.iload_n 2, 1) := by decide +kernel
theorem dX7_joined_85 : decode cX7_joined 85 = .ok (.if_icmp .ne 7, 3) := by decide +kernel
theorem dX7_joined_88 : decode cX7_joined 88 = .ok (.iconst 1, 1) := by decide +kernel
theorem dX7_joined_89 : decode cX7_joined 89 = .ok (.goto 4, 3) := by decide +kernel
theorem dX7_joined_92 : decode cX7_joined 92 = .ok (.iconst 0, 1) := by decide +kernel
theorem dX7_joined_93 : decode cX7_joined 93 = .ok (.ireturn, 1) := by decide +kernel
theorem dX7_joined_94 : decode cX7_joined 94 = .ok (.iload_n 1, 1) := by decide +kernel
theorem dX7_joined_95 : decode cX7_joined 95 = .ok (.iload_n 2, 1) := by decide +kernel
theorem dX7_joined_96 : decode cX7_joined 96 = .ok (.iadd, 1) := by decide +kernel
theorem dX7_joined_97 : decode cX7_joined 97 = .ok (.ireturn, 1) := by decide +kernel
theorem dX7_joined_98 : decode cX7_joined 98 = .ok (.iload_n 1, 1) := by decide +kernel
theorem dX7_joined_99 : decode cX7_joined 99 = .ok (.iload_n 2, 1) := by decide +kernel
theorem dX7_joined_100 : decode cX7_joined 100 = .ok (.isub, 1) := by decide +kernel
theorem dX7_joined_101 : decode cX7_joined 101 = .ok (.ireturn, 1) := by decide +kernel
theorem dX7_joined_102 : decode cX7_joined 102 = .ok (.iload_n 1, 1) := by decide +kernel
theorem dX7_joined_103 : decode cX7_joined 103 = .ok (.iload_n 2, 1) := by decide +kernel
theorem dX7_joined_104 : decode cX7_joined 104 = .ok (.imul, 1) := by decide +kernel
theorem dX7_joined_105 : decode cX7_joined 105 = .ok (.ireturn, 1) := by decide +kernel
theorem dX8_init_0 : decode cX8_init 0 = .ok (.aload_n 0, 1) := by decide +kernel
theorem dX8_init_1 : decode cX8_init 1 = .ok (.invokespecial 3, 3) := by decide +kernel
theorem dX8_init_4 : decode cX8_init 4 = .ok (.aload_n 0, 1) := by decide +kernel
theorem dX8_init_5 : decode cX8_init 5 = .ok (.ldc2_w 9, 3) := by decide +kernel
theorem dX8_init_8 : decode cX8_init 8 = .ok (.putfield 11, 3) := by decide +kernel
theorem dX8_init_11 : decode cX8_init 11 = .ok (.aload_n 0, 1) := by decide +kernel
theorem dX8_init_12 : decode cX8_init 12 = .ok (.iconst 0, 1) := by decide +kernel
theorem dX8_init_13 : decode cX8_init 13 = .ok (.putfield 17, 3) := by decide +kernel
theorem dX8_init_16 : decode cX8_init 16 = .ok (.aload_n 0, 1) := by decide +kernel
theorem dX8_init_17 : decode cX8_init 17 = .ok (.bipush 24, 2) := by decide +kernel
theorem dX8_init_19 : decode cX8_init 19 = .ok (.newarray .int, 2) := by decide +kernel
theorem dX8_init_21 : decode cX8_init 21 = .ok (.putfield 23, 3) := by decide +kernel
theorem dX8_init_24 : decode cX8_init 24 = .ok (.return_, 1) := by decide +kernel
theorem dJ11_isValidCodePoint_9a6ad_0 : decode cJ11_isValidCodePoint_9a6ad 0 = .ok (.iload_n 0, 1) := by decide +kernel
theorem dJ11_isValidCodePoint_9a6ad_1 : decode cJ11_isValidCodePoint_9a6ad 1 = .ok (.bipush 16, 2) := by decide +kernel
theorem dJ11_isValidCodePoint_9a6ad_3 : decode cJ11_isValidCodePoint_9a6ad 3 = .ok (.iushr, 1) := by decide +kernel
theorem dJ11_isValidCodePoint_9a6ad_4 : decode cJ11_isValidCodePoint_9a6ad 4 = .ok (.istore_n 1, 1) := by decide +kernel
theorem dJ11_isValidCodePoint_9a6ad_5 : decode cJ11_isValidCodePoint_9a6ad 5 = .ok (.iload_n 1, 1) := by decide +kernel
theorem dJ11_isValidCodePoint_9a6ad_6 : decode cJ11_isValidCodePoint_9a6ad 6 = .ok (.bipush 17, 2) := by decide +kernel
theorem dJ11_isValidCodePoint_9a6ad_8 : decode cJ11_isValidCodePoint_9a6ad 8 = .ok (.if_icmp .ge 7, 3) := by decide +kernel
theorem dJ11_isValidCodePoint_9a6ad_11 : decode cJ11_isValidCodePoint_9a6ad 11 = .ok (.iconst 1, 1) := by decide +kernel
theorem dJ11_isValidCodePoint_9a6ad_12 : decode cJ11_isValidCodePoint_9a6ad 12 = .ok (.goto 4, 3) := by decide +kernel
theorem dJ11_isValidCodePoint_9a6ad_15 : decode cJ11_isValidCodePoint_9a6ad 15 = .ok (.iconst 0, 1) := by decide +kernel
theorem dJ11_isValidCodePoint_9a6ad_16 : decode cJ11_isValidCodePoint_9a6ad 16 = .ok (.ireturn, 1) := by decide +kernel
theorem dJ11_highSurrogate_5068e_0 : decode cJ11_highSurrogate_5068e 0 = .ok (.iload_n 0, 1) := by decide +kernel
theorem dJ11_highSurrogate_5068e_1 : decode cJ11_highSurrogate_5068e 1 = .ok (.bipush 10, 2) := by decide +kernel
theorem dJ11_highSurrogate_5068e_3 : decode cJ11_highSurrogate_5068e 3 = .ok (.iushr, 1) := by decide +kernel
theorem dJ11_highSurrogate_5068e_4 : decode cJ11_highSurrogate_5068e 4 = .ok (.ldc 110, 2) := by decide +kernel
theorem dJ11_highSurrogate_5068e_6 : decode cJ11_highSurrogate_5068e 6 = .ok (.iadd, 1) := by decide +kernel
theorem dJ11_highSurrogate_5068e_7 : decode cJ11_highSurrogate_5068e 7 = .ok (.i2c, 1) := by decide +kernel
theorem dJ11_highSurrogate_5068e_8 : decode cJ11_highSurrogate_5068e 8 = .ok (.ireturn, 1) := by decide +kernel
theorem dJ11_lowSurrogate_5068e_0 : decode cJ11_lowSurrogate_5068e 0 = .ok (.iload_n 0, 1) := by decide +kernel
theorem dJ11_lowSurrogate_5068e_1 : decode cJ11_lowSurrogate_5068e 1 = .ok (.sipush 1023, 3) := by decide +kernel
theorem dJ11_lowSurrogate_5068e_4 : decode cJ11_lowSurrogate_5068e 4 = .ok (.iand, 1) := by decide +kernel
theorem dJ11_lowSurrogate_5068e_5 : decode cJ11_lowSurrogate_5068e 5 = .ok (.ldc 76, 2) := by decide +kernel
theorem dJ11_lowSurrogate_5068e_7 : decode cJ11_lowSurrogate_5068e 7 = .ok (.iadd, 1) := by decide +kernel
theorem dJ11_lowSurrogate_5068e_8 : decode cJ11_lowSurrogate_5068e 8 = .ok (.i2c, 1) := by decide +kernel
theorem dJ11_lowSurrogate_5068e_9 : decode cJ11_lowSurrogate_5068e 9 = .ok (.ireturn, 1) := by decide +kernel
theorem dJ6_bitCount_0f7a4_0 : decode cJ6_bitCount_0f7a4 0 = .ok (.iload_n 0, 1) := by decide +kernel
theorem dJ6_bitCount_0f7a4_1 : decode cJ6_bitCount_0f7a4 1 = .ok (.iload_n 0, 1) := by decide +kernel
theorem dJ6_bitCount_0f7a4_2 : decode cJ6_bitCount_0f7a4 2 = .ok (.iconst 1, 1) := by decide +kernel
theorem dJ6_bitCount_0f7a4_3 : decode cJ6_bitCount_0f7a4 3 = .ok (.iushr, 1) := by decide +kernel
theorem dJ6_bitCount_0f7a4_4 : decode cJ6_bitCount_0f7a4 4 = .ok (.ldc_w 265, 3) := by decide +kernel
theorem dJ6_bitCount_0f7a4_7 : decode cJ6_bitCount_0f7a4 7 = .ok (.iand, 1) := by decide +kernel
theorem dJ6_bitCount_0f7a4_8 : decode cJ6_bitCount_0f7a4 8 = .ok (.isub, 1) := by decide +kernel
theorem dJ6_bitCount_0f7a4_9 : decode cJ6_bitCount_0f7a4 9 = .ok (.istore_n 0, 1) := by decide +kernel
theorem dJ6_bitCount_0f7a4_10 : decode cJ6_bitCount_0f7a4 10 = .ok (.iload_n 0, 1) := by decide +kernel
theorem dJ6_bitCount_0f7a4_11 : decode cJ6_bitCount_0f7a4 11 = .ok (.ldc_w 266, 3) := by decide +kernel
theorem dJ6_bitCount_0f7a4_14 : decode cJ6_bitCount_0f7a4 14 = .ok (.iand, 1) := by decide +kernel
theorem dJ6_bitCount_0f7a4_15 : decode cJ6_bitCount_0f7a4 15 = .ok (.iload_n 0, 1) := by decide +kernel
theorem dJ6_bitCount_0f7a4_16 : decode cJ6_bitCount_0f7a4 16 = .ok (.iconst 2, 1) := by decide +kernel
theorem dJ6_bitCount_0f7a4_17 : decode cJ6_bitCount_0f7a4 17 = .ok (.iushr, 1) := by decide +kernel
theorem dJ6_bitCount_0f7a4_18 : decode cJ6_bitCount_0f7a4 18 = .ok (.ldc_w 266, 3) := by decide +kernel
theorem dJ6_bitCount_0f7a4_21 : decode cJ6_bitCount_0f7a4 21 = .ok (.iand, 1) := by decide +kernel
theorem dJ6_bitCount_0f7a4_22 : decode cJ6_bitCount_0f7a4 22 = .ok (.iadd, 1) := by decide +kernel
theorem dJ6_bitCount_0f7a4_23 : decode cJ6_bitCount_0f7a4 23 = .ok (.istore_n 0, 1) := by decide +kernel
theorem dJ6_bitCount_0f7a4_24 : decode cJ6_bitCount_0f7a4 24 = .ok (.iload_n 0, 1) := by decide +kernel
theorem dJ6_bitCount_0f7a4_25 : decode cJ6_bitCount_0f7a4 25 = .ok (.iload_n 0, 1) := by decide +kernel
theorem dJ6_bitCount_0f7a4_26 : decode cJ6_bitCount_0f7a4 26 = .ok (.iconst 4, 1) := by decide +kernel
theorem dJ6_bitCount_0f7a4_27 : decode cJ6_bitCount_0f7a4 27 = .ok (.iushr, 1) := by decide +kernel
theorem dJ6_bitCount_0f7a4_28 : decode cJ6_bitCount_0f7a4 28 = .ok (.iadd, 1) := by decide +kernel
theorem dJ6_bitCount_0f7a4_29 : decode cJ6_bitCount_0f7a4 29 = .ok (.ldc_w 267, 3) := by decide +kernel
theorem dJ6_bitCount_0f7a4_32 : decode cJ6_bitCount_0f7a4 32 = .ok (.iand, 1) := by decide +kernel
theorem dJ6_bitCount_0f7a4_33 : decode cJ6_bitCount_0f7a4 33 = .ok (.istore_n 0, 1) := by decide +kernel
theorem dJ6_bitCount_0f7a4_34 : decode cJ6_bitCount_0f7a4 34 = .ok (.iload_n 0, 1) := by decide +kernel
theorem dJ6_bitCount_0f7a4_35 : decode cJ6_bitCount_0f7a4 35 = .ok (.iload_n 0, 1) := by decide +kernel
theorem dJ6_bitCount_0f7a4_36 : decode cJ6_bitCount_0f7a4 36 = .ok (.bipush 8, 2) := by decide +kernel
theorem dJ6_bitCount_0f7a4_38 : decode cJ6_bitCount_0f7a4 38 = .ok (.iushr, 1) := by decide +kernel
theorem dJ6_bitCount_0f7a4_39 : decode cJ6_bitCount_0f7a4 39 = .ok (.iadd, 1) := by decide +kernel
theorem dJ6_bitCount_0f7a4_40 : decode cJ6_bitCount_0f7a4 40 = .ok (.istore_n 0, 1) := by decide +kernel
theorem dJ6_bitCount_0f7a4_41 : decode cJ6_bitCount_0f7a4 41 = .ok (.iload_n 0, 1) := by decide +kernel
theorem dJ6_bitCount_0f7a4_42 : decode cJ6_bitCount_0f7a4 42 = .ok (.iload_n 0, 1) := by decide +kernel
theorem dJ6_bitCount_0f7a4_43 : decode cJ6_bitCount_0f7a4 43 = .ok (.bipush 16, 2) := by decide +kernel
theorem dJ6_bitCount_0f7a4_45 : decode cJ6_bitCount_0f7a4 45 = .ok (.iushr, 1) := by decide +kernel
theorem dJ6_bitCount_0f7a4_46 : decode cJ6_bitCount_0f7a4 46 = .ok (.iadd, 1) := by decide +kernel
theorem dJ6_bitCount_0f7a4_47 : decode cJ6_bitCount_0f7a4 47 = .ok (.istore_n 0, 1) := by decide +kernel
theorem dJ6_bitCount_0f7a4_48 : decode cJ6_bitCount_0f7a4 48 = .ok (.iload_n 0, 1) := by decide +kernel
theorem dJ6_bitCount_0f7a4_49 : decode cJ6_bitCount_0f7a4 49 = .ok (.bipush 63, 2) := by decide +kernel
theorem dJ6_bitCount_0f7a4_51 : decode cJ6_bitCount_0f7a4 51 = .ok (.iand, 1) := by decide +kernel
theorem dJ6_bitCount_0f7a4_52 : decode cJ6_bitCount_0f7a4 52 = .ok (.ireturn, 1) := by decide +kernel
theorem dJ9_max_7cf53_0 : decode cJ9_max_7cf53 0 = .ok (.iload_n 0, 1) := by decide +kernel
theorem dJ9_max_7cf53_1 : decode cJ9_max_7cf53 1 = .ok (.iload_n 1, 1) := by decide +kernel
theorem dJ9_max_7cf53_2 : decode cJ9_max_7cf53 2 = .ok (.if_icmp .lt 7, 3) := by decide +kernel
theorem dJ9_max_7cf53_5 : decode cJ9_max_7cf53 5 = .ok (.iload_n 0, 1) := by decide +kernel
theorem dJ9_max_7cf53_6 : decode cJ9_max_7cf53 6 = .ok (.goto 4, 3) := by decide +kernel
theorem dJ9_max_7cf53_9 : decode cJ9_max_7cf53 9 = .ok (.iload_n 1, 1) := by decide +kernel
theorem dJ9_max_7cf53_10 : decode cJ9_max_7cf53 10 = .ok (.ireturn, 1) := by decide +kernel
theorem dJ9_min_7cf53_0 : decode cJ9_min_7cf53 0 = .ok (.iload_n 0, 1) := by decide +kernel
theorem dJ9_min_7cf53_1 : decode cJ9_min_7cf53 1 = .ok (.iload_n 1, 1) := by decide +kernel
theorem dJ9_min_7cf53_2 : decode cJ9_min_7cf53 2 = .ok (.if_icmp .gt 7, 3) := by decide +kernel
theorem dJ9_min_7cf53_5 : decode cJ9_min_7cf53 5 = .ok (.iload_n 0, 1) := by decide +kernel
theorem dJ9_min_7cf53_6 : decode cJ9_min_7cf53 6 = .ok (.goto 4, 3) := by decide +kernel
theorem dJ9_min_7cf53_9 : decode cJ9_min_7cf53 9 = .ok (.iload_n 1, 1) := by decide +kernel
theorem dJ9_min_7cf53_10 : decode cJ9_min_7cf53 10 = .ok (.ireturn, 1) := by decide +kernel
theorem dJ0_length_8abf5_0 : decode cJ0_length_8abf5 0 = .ok (.aload_n 0, 1) := by decide +kernel
theorem dJ0_length_8abf5_1 : decode cJ0_length_8abf5 1 = .ok (.getfield 9, 3) := by decide +kernel
theorem dJ0_length_8abf5_4 : decode cJ0_length_8abf5 4 = .ok (.arraylength, 1) := by decide +kernel
theorem dJ0_length_8abf5_5 : decode cJ0_length_8abf5 5 = .ok (.aload_n 0, 1) := by decide +kernel
theorem dJ0_length_8abf5_6 : decode cJ0_length_8abf5 6 = .ok (.invokevirtual 335, 3) := by decide +kernel
theorem dJ0_length_8abf5_9 : decode cJ0_length_8abf5 9 = .ok (.ishr, 1) := by decide +kernel
theorem dJ0_length_8abf5_10 : decode cJ0_length_8abf5 10 = .ok (.ireturn, 1) := by decide +kernel
theorem dJ0_charAt_5068e_0 : decode cJ0_charAt_5068e 0 = .ok (.aload_n 0, 1) := by decide +kernel
theorem dJ0_charAt_5068e_1 : decode cJ0_charAt_5068e 1 = .ok (.invokevirtual 492, 3) := by decide +kernel
theorem dJ0_charAt_5068e_4 : decode cJ0_charAt_5068e 4 = .ok (.ifCond .eq 12, 3) := by decide +kernel
theorem dJ0_charAt_5068e_7 : decode cJ0_charAt_5068e 7 = .ok (.aload_n 0, 1) := by decide +kernel
theorem dJ0_charAt_5068e_8 : decode cJ0_charAt_5068e 8 = .ok (.getfield 9, 3) := by decide +kernel
theorem dJ0_charAt_5068e_11 : decode cJ0_charAt_5068e 11 = .ok (.iload_n 1, 1) := by decide +kernel
theorem dJ0_charAt_5068e_12 : decode cJ0_charAt_5068e 12 = .ok (.invokestatic 495, 3) := by decide +kernel
theorem dJ0_charAt_5068e_15 : decode cJ0_charAt_5068e 15 = .ok (.ireturn, 1) := by decide +kernel
theorem dJ0_charAt_5068e_16 : decode cJ0_charAt_5068e 16 = .ok (.aload_n 0, 1) := by decide +kernel
theorem dJ0_charAt_5068e_17 : decode cJ0_charAt_5068e 17 = .ok (.getfield 9, 3) := by decide +kernel
theorem dJ0_charAt_5068e_20 : decode cJ0_charAt_5068e 20 = .ok (.iload_n 1, 1) := by decide +kernel
theorem dJ0_charAt_5068e_21 : decode cJ0_charAt_5068e 21 = .ok (.invokestatic 498, 3) := by decide +kernel
theorem dJ0_charAt_5068e_24 : decode cJ0_charAt_5068e 24 = .ok (.ireturn, 1) := by decide +kernel
theorem dJ0_indexOf_0f7a4_0 : decode cJ0_indexOf_0f7a4 0 = .ok (.aload_n 0, 1) := by decide +kernel
theorem dJ0_indexOf_0f7a4_1 : decode cJ0_indexOf_0f7a4 1 = .ok (.iload_n 1, 1) := by decide +kernel
theorem dJ0_indexOf_0f7a4_2 : decode cJ0_indexOf_0f7a4 2 = .ok (.iconst 0, 1) := by decide +kernel
theorem dJ0_indexOf_0f7a4_3 : decode cJ0_indexOf_0f7a4 3 = .ok (.invokevirtual 633, 3) := by decide +kernel
theorem dJ0_indexOf_0f7a4_6 : decode cJ0_indexOf_0f7a4 6 = .ok (.ireturn, 1) := by decide +kernel
theorem dJ0_indexOf_7cf53_0 : decode cJ0_indexOf_7cf53 0 = .ok (.aload_n 0, 1) := by decide +kernel
theorem dJ0_indexOf_7cf53_1 : decode cJ0_indexOf_7cf53 1 = .ok (.invokevirtual 492, 3) := by decide +kernel
theorem dJ0_indexOf_7cf53_4 : decode cJ0_indexOf_7cf53 4 = .ok (.ifCond .eq 19, 3) := by decide +kernel
theorem dJ0_indexOf_7cf53_7 : decode cJ0_indexOf_7cf53 7 = .ok (.aload_n 0, 1) := by decide +kernel
theorem dJ0_indexOf_7cf53_8 : decode cJ0_indexOf_7cf53 8 = .ok (.getfield 9, 3) := by decide +kernel
theorem dJ0_indexOf_7cf53_11 : decode cJ0_indexOf_7cf53 11 = .ok (.iload_n 1, 1) := by decide +kernel
theorem dJ0_indexOf_7cf53_12 : decode cJ0_indexOf_7cf53 12 = .ok (.iload_n 2, 1) := by decide +kernel
theorem dJ0_indexOf_7cf53_13 : decode cJ0_indexOf_7cf53 13 = .ok (.aload_n 0, 1) := by decide +kernel
theorem dJ0_indexOf_7cf53_14 : decode cJ0_indexOf_7cf53 14 = .ok (.invokevirtual 505, 3) := by decide +kernel
theorem dJ0_indexOf_7cf53_17 : decode cJ0_indexOf_7cf53 17 = .ok (.invokestatic 637, 3) := by decide +kernel
theorem dJ0_indexOf_7cf53_20 : decode cJ0_indexOf_7cf53 20 = .ok (.goto 16, 3) := by decide +kernel
theorem dJ0_indexOf_7cf53_23 : decode cJ0_indexOf_7cf53 23 = .ok (.aload_n 0, 1) := by decide +kernel
theorem dJ0_indexOf_7cf53_24 : decode cJ0_indexOf_7cf53 24 = .ok (.getfield 9, 3) := by decide +kernel
theorem dJ0_indexOf_7cf53_27 : decode cJ0_indexOf_7cf53 27 = .ok (.iload_n 1, 1) := by decide +kernel
theorem dJ0_indexOf_7cf53_28 : decode cJ0_indexOf_7cf53 28 = .ok (.iload_n 2, 1) := by decide +kernel
theorem dJ0_indexOf_7cf53_29 : decode cJ0_indexOf_7cf53 29 = .ok (.aload_n 0, 1) := by decide +kernel
theorem dJ0_indexOf_7cf53_30 : decode cJ0_indexOf_7cf53 30 = .ok (.invokevirtual 505, 3) := by decide +kernel
theorem dJ0_indexOf_7cf53_33 : decode cJ0_indexOf_7cf53 33 = .ok (.invokestatic 640, 3) := by decide +kernel
theorem dJ0_indexOf_7cf53_36 : decode cJ0_indexOf_7cf53 36 = .ok (.ireturn, 1) := by decide +kernel
theorem dJ0_coder_7d493_0 : decode cJ0_coder_7d493 0 = .ok (.getstatic 38, 3) := by decide +kernel
theorem dJ0_coder_7d493_3 : decode cJ0_coder_7d493 3 = .ok (.ifCond .eq 10, 3) := by decide +kernel
theorem dJ0_coder_7d493_6 : decode cJ0_coder_7d493 6 = .ok (.aload_n 0, 1) := by decide +kernel
theorem dJ0_coder_7d493_7 : decode cJ0_coder_7d493 7 = .ok (.getfield 15, 3) := by decide +kernel
theorem dJ0_coder_7d493_10 : decode cJ0_coder_7d493 10 = .ok (.goto 4, 3) := by decide +kernel
theorem dJ0_coder_7d493_13 : decode cJ0_coder_7d493 13 = .ok (.iconst 1, 1) := by decide +kernel
theorem dJ0_coder_7d493_14 : decode cJ0_coder_7d493 14 = .ok (.ireturn, 1) := by decide +kernel
theorem dJ0_isLatin1_aae02_0 : decode cJ0_isLatin1_aae02 0 = .ok (.getstatic 38, 3) := by decide +kernel
theorem dJ0_isLatin1_aae02_3 : decode cJ0_isLatin1_aae02 3 = .ok (.ifCond .eq 14, 3) := by decide +kernel
theorem dJ0_isLatin1_aae02_6 : decode cJ0_isLatin1_aae02 6 = .ok (.aload_n 0, 1) := by decide +kernel
theorem dJ0_isLatin1_aae02_7 : decode cJ0_isLatin1_aae02 7 = .ok (.getfield 15, 3) := by decide +kernel
theorem dJ0_isLatin1_aae02_10 : decode cJ0_isLatin1_aae02 10 = .ok (.ifCond .ne 7, 3) := by decide +kernel
theorem dJ0_isLatin1_aae02_13 : decode cJ0_isLatin1_aae02 13 = .ok (.iconst 1, 1) := by decide +kernel
theorem dJ0_isLatin1_aae02_14 : decode cJ0_isLatin1_aae02 14 = .ok (.goto 4, 3) := by decide +kernel
theorem dJ0_isLatin1_aae02_17 : decode cJ0_isLatin1_aae02 17 = .ok (.iconst 0, 1) := by decide +kernel
theorem dJ0_isLatin1_aae02_18 : decode cJ0_isLatin1_aae02 18 = .ok (.ireturn, 1) := by decide +kernel
theorem dJ0_checkIndex_df160_0 : decode cJ0_checkIndex_df160 0 = .ok (.iload_n 0, 1) := by decide +kernel
theorem dJ0_checkIndex_df160_1 : decode cJ0_checkIndex_df160 1 = .ok (.iload_n 1, 1) := by decide +kernel
theorem dJ0_checkIndex_df160_2 : decode cJ0_checkIndex_df160 2 = .ok (.getstatic 1053, 3) := by decide +kernel
theorem dJ0_checkIndex_df160_5 : decode cJ0_checkIndex_df160 5 = .ok (.invokestatic 1059, 3) := by decide +kernel
theorem dJ0_checkIndex_df160_8 : decode cJ0_checkIndex_df160 8 = .ok (.pop, 1) := by decide +kernel
theorem dJ0_checkIndex_df160_9 : decode cJ0_checkIndex_df160 9 = .ok (.return_, 1) := by decide +kernel
theorem dJ0_checkBoundsBeginEnd_23922_0 : decode cJ0_checkBoundsBeginEnd_23922 0 = .ok (.iload_n 0, 1) := by decide +kernel
theorem dJ0_checkBoundsBeginEnd_23922_1 : decode cJ0_checkBoundsBeginEnd_23922 1 = .ok (.iload_n 1, 1) := by decide +kernel
theorem dJ0_checkBoundsBeginEnd_23922_2 : decode cJ0_checkBoundsBeginEnd_23922 2 = .ok (.iload_n 2, 1) := by decide +kernel
theorem dJ0_checkBoundsBeginEnd_23922_3 : decode cJ0_checkBoundsBeginEnd_23922 3 = .ok (.getstatic 1053, 3) := by decide +kernel
theorem dJ0_checkBoundsBeginEnd_23922_6 : decode cJ0_checkBoundsBeginEnd_23922 6 = .ok (.invokestatic 1062, 3) := by decide +kernel
theorem dJ0_checkBoundsBeginEnd_23922_9 : decode cJ0_checkBoundsBeginEnd_23922 9 = .ok (.pop, 1) := by decide +kernel
theorem dJ0_checkBoundsBeginEnd_23922_10 : decode cJ0_checkBoundsBeginEnd_23922 10 = .ok (.return_, 1) := by decide +kernel
theorem dJ1_charAt_3b067_0 : decode cJ1_charAt_3b067 0 = .ok (.iload_n 1, 1) := by decide +kernel
theorem dJ1_charAt_3b067_1 : decode cJ1_charAt_3b067 1 = .ok (.aload_n 0, 1) := by decide +kernel
theorem dJ1_charAt_3b067_2 : decode cJ1_charAt_3b067 2 = .ok (.arraylength, 1) := by decide +kernel
theorem dJ1_charAt_3b067_3 : decode cJ1_charAt_3b067 3 = .ok (.invokestatic 9, 3) := by decide +kernel
theorem dJ1_charAt_3b067_6 : decode cJ1_charAt_3b067 6 = .ok (.aload_n 0, 1) := by decide +kernel
theorem dJ1_charAt_3b067_7 : decode cJ1_charAt_3b067 7 = .ok (.iload_n 1, 1) := by decide +kernel
theorem dJ1_charAt_3b067_8 : decode cJ1_charAt_3b067 8 = .ok (.baload, 1) := by decide +kernel
theorem dJ1_charAt_3b067_9 : decode cJ1_charAt_3b067 9 = .ok (.sipush 255, 3) := by decide +kernel
theorem dJ1_charAt_3b067_12 : decode cJ1_charAt_3b067 12 = .ok (.iand, 1) := by decide +kernel
theorem dJ1_charAt_3b067_13 : decode cJ1_charAt_3b067 13 = .ok (.i2c, 1) := by decide +kernel
theorem dJ1_charAt_3b067_14 : decode cJ1_charAt_3b067 14 = .ok (.ireturn, 1) := by decide +kernel
theorem dJ1_canEncode_9a6ad_0 : decode cJ1_canEncode_9a6ad 0 = .ok (.iload_n 0, 1) := by decide +kernel
theorem dJ1_canEncode_9a6ad_1 : decode cJ1_canEncode_9a6ad 1 = .ok (.ifCond .lt 14, 3) := by decide +kernel
theorem dJ1_canEncode_9a6ad_4 : decode cJ1_canEncode_9a6ad 4 = .ok (.iload_n 0, 1) := by decide +kernel
theorem dJ1_canEncode_9a6ad_5 : decode cJ1_canEncode_9a6ad 5 = .ok (.sipush 255, 3) := by decide +kernel
theorem dJ1_canEncode_9a6ad_8 : decode cJ1_canEncode_9a6ad 8 = .ok (.if_icmp .gt 7, 3) := by decide +kernel
theorem dJ1_canEncode_9a6ad_11 : decode cJ1_canEncode_9a6ad 11 = .ok (.iconst 1, 1) := by decide +kernel
theorem dJ1_canEncode_9a6ad_12 : decode cJ1_canEncode_9a6ad 12 = .ok (.goto 4, 3) := by decide +kernel
theorem dJ1_canEncode_9a6ad_15 : decode cJ1_canEncode_9a6ad 15 = .ok (.iconst 0, 1) := by decide +kernel
theorem dJ1_canEncode_9a6ad_16 : decode cJ1_canEncode_9a6ad 16 = .ok (.ireturn, 1) := by decide +kernel
theorem dJ1_indexOf_4cfef_0 : decode cJ1_indexOf_4cfef 0 = .ok (.iload_n 1, 1) := by decide +kernel
theorem dJ1_indexOf_4cfef_1 : decode cJ1_indexOf_4cfef 1 = .ok (.invokestatic 88, 3) := by decide +kernel
theorem dJ1_indexOf_4cfef_4 : decode cJ1_indexOf_4cfef 4 = .ok (.ifCond .ne 5, 3) := by decide +kernel
theorem dJ1_indexOf_4cfef_7 : decode cJ1_indexOf_4cfef 7 = .ok (.iconst (-1), 1) := by decide +kernel
theorem dJ1_indexOf_4cfef_8 : decode cJ1_indexOf_4cfef 8 = .ok (.ireturn, 1) := by decide +kernel
theorem dJ1_indexOf_4cfef_9 : decode cJ1_indexOf_4cfef 9 = .ok (.iload_n 2, 1) := by decide +kernel
theorem dJ1_indexOf_4cfef_10 : decode cJ1_indexOf_4cfef 10 = .ok (.iconst 0, 1) := by decide +kernel
theorem dJ1_indexOf_4cfef_11 : decode cJ1_indexOf_4cfef 11 = .ok (.invokestatic 92, 3) := by decide +kernel
theorem dJ1_indexOf_4cfef_14 : decode cJ1_indexOf_4cfef 14 = .ok (.istore_n 2, 1) := by decide +kernel
theorem dJ1_indexOf_4cfef_15 : decode cJ1_indexOf_4cfef 15 = .ok (.iload_n 3, 1) := by decide +kernel
theorem dJ1_indexOf_4cfef_16 : decode cJ1_indexOf_4cfef 16 = .ok (.aload_n 0, 1) := by decide +kernel
theorem dJ1_indexOf_4cfef_17 : decode cJ1_indexOf_4cfef 17 = .ok (.arraylength, 1) := by decide +kernel
theorem dJ1_indexOf_4cfef_18 : decode cJ1_indexOf_4cfef 18 = .ok (.invokestatic 38, 3) := by decide +kernel
theorem dJ1_indexOf_4cfef_21 : decode cJ1_indexOf_4cfef 21 = .ok (.istore_n 3, 1) := by decide +kernel
theorem dJ1_indexOf_4cfef_22 : decode cJ1_indexOf_4cfef 22 = .ok (.iload_n 2, 1) := by decide +kernel
theorem dJ1_indexOf_4cfef_23 : decode cJ1_indexOf_4cfef 23 = .ok (.iload_n 3, 1) := by decide +kernel
theorem dJ1_indexOf_4cfef_24 : decode cJ1_indexOf_4cfef 24 = .ok (.if_icmp .lt 5, 3) := by decide +kernel
theorem dJ1_indexOf_4cfef_27 : decode cJ1_indexOf_4cfef 27 = .ok (.iconst (-1), 1) := by decide +kernel
theorem dJ1_indexOf_4cfef_28 : decode cJ1_indexOf_4cfef 28 = .ok (.ireturn, 1) := by decide +kernel
theorem dJ1_indexOf_4cfef_29 : decode cJ1_indexOf_4cfef 29 = .ok (.aload_n 0, 1) := by decide +kernel
theorem dJ1_indexOf_4cfef_30 : decode cJ1_indexOf_4cfef 30 = .ok (.iload_n 1, 1) := by decide +kernel
theorem dJ1_indexOf_4cfef_31 : decode cJ1_indexOf_4cfef 31 = .ok (.iload_n 2, 1) := by decide +kernel
theorem dJ1_indexOf_4cfef_32 : decode cJ1_indexOf_4cfef 32 = .ok (.iload_n 3, 1) := by decide +kernel
theorem dJ1_indexOf_4cfef_33 : decode cJ1_indexOf_4cfef 33 = .ok (.invokestatic 95, 3) := by decide +kernel
theorem dJ1_indexOf_4cfef_36 : decode cJ1_indexOf_4cfef 36 = .ok (.ireturn, 1) := by decide +kernel
theorem dJ1_indexOfChar_4cfef_0 : decode cJ1_indexOfChar_4cfef 0 = .ok (.iload_n 1, 1) := by decide +kernel
theorem dJ1_indexOfChar_4cfef_1 : decode cJ1_indexOfChar_4cfef 1 = .ok (.i2b, 1) := by decide +kernel
theorem dJ1_indexOfChar_4cfef_2 : decode cJ1_indexOfChar_4cfef 2 = .ok (.istore 4, 2) := by decide +kernel
theorem dJ1_indexOfChar_4cfef_4 : decode cJ1_indexOfChar_4cfef 4 = .ok (.iload_n 2, 1) := by decide +kernel
theorem dJ1_indexOfChar_4cfef_5 : decode cJ1_indexOfChar_4cfef 5 = .ok (.istore 5, 2) := by decide +kernel
theorem dJ1_indexOfChar_4cfef_7 : decode cJ1_indexOfChar_4cfef 7 = .ok (.iload 5, 2) := by decide +kernel
theorem dJ1_indexOfChar_4cfef_9 : decode cJ1_indexOfChar_4cfef 9 = .ok (.iload_n 3, 1) := by decide +kernel
theorem dJ1_indexOfChar_4cfef_10 : decode cJ1_indexOfChar_4cfef 10 = .ok (.if_icmp .ge 21, 3) := by decide +kernel
theorem dJ1_indexOfChar_4cfef_13 : decode cJ1_indexOfChar_4cfef 13 = .ok (.aload_n 0, 1) := by decide +kernel
theorem dJ1_indexOfChar_4cfef_14 : decode cJ1_indexOfChar_4cfef 14 = .ok (.iload 5, 2) := by decide +kernel
theorem dJ1_indexOfChar_4cfef_16 : decode cJ1_indexOfChar_4cfef 16 = .ok (.baload, 1) := by decide +kernel
theorem dJ1_indexOfChar_4cfef_17 : decode cJ1_indexOfChar_4cfef 17 = .ok (.iload 4, 2) := by decide +kernel
theorem dJ1_indexOfChar_4cfef_19 : decode cJ1_indexOfChar_4cfef 19 = .ok (.if_icmp .ne 6, 3) := by decide +kernel
theorem dJ1_indexOfChar_4cfef_22 : decode cJ1_indexOfChar_4cfef 22 = .ok (.iload 5, 2) := by decide +kernel
theorem dJ1_indexOfChar_4cfef_24 : decode cJ1_indexOfChar_4cfef 24 = .ok (.ireturn, 1) := by decide +kernel
theorem dJ1_indexOfChar_4cfef_25 : decode cJ1_indexOfChar_4cfef 25 = .ok (.iinc 5 1, 3) := by decide +kernel
theorem dJ1_indexOfChar_4cfef_28 : decode cJ1_indexOfChar_4cfef 28 = .ok (.goto (-21), 3) := by decide +kernel
theorem dJ1_indexOfChar_4cfef_31 : decode cJ1_indexOfChar_4cfef 31 = .ok (.iconst (-1), 1) := by decide +kernel
theorem dJ1_indexOfChar_4cfef_32 : decode cJ1_indexOfChar_4cfef 32 = .ok (.ireturn, 1) := by decide +kernel
theorem dJ2_getChar_3b067_0 : decode cJ2_getChar_3b067 0 = .ok (.getstatic 44, 3) := by decide +kernel
theorem dJ2_getChar_3b067_3 : decode cJ2_getChar_3b067 3 = .ok (.ifCond .ne 25, 3) := by decide +kernel
theorem dJ2_getChar_3b067_6 : decode cJ2_getChar_3b067 6 = .ok (.iload_n 1, 1) := by decide +kernel
theorem dJ2_getChar_3b067_7 : decode cJ2_getChar_3b067 7 = .ok (.ifCond .lt 11, 3) := by decide +kernel
theorem dJ2_getChar_3b067_10 : decode cJ2_getChar_3b067 10 = .ok (.iload_n 1, 1) := by decide +kernel
theorem dJ2_getChar_3b067_11 : decode cJ2_getChar_3b067 11 = .ok (.aload_n 0, 1) := by decide +kernel
theorem dJ2_getChar_3b067_12 : decode cJ2_getChar_3b067 12 = .ok (.invokestatic 48, 3) := by decide +kernel
theorem dJ2_getChar_3b067_15 : decode cJ2_getChar_3b067 15 = .ok (.if_icmp .lt 13, 3) := by decide +kernel
theorem dJ2_getChar_3b067_18 : decode cJ2_getChar_3b067 18 = .ok (.new 52, 3) := by decide +kernel
theorem dJ2_getChar_3b067_21 : decode cJ2_getChar_3b067 21 = .ok (.dup, 1) := by decide +kernel
theorem dJ2_getChar_3b067_22 : decode cJ2_getChar_3b067 22 = .ok (.ldc 54, 2) := by decide +kernel
theorem dJ2_getChar_3b067_24 : decode cJ2_getChar_3b067 24 = .ok (.invokespecial 56, 3) := by decide +kernel
theorem dJ2_getChar_3b067_27 : decode cJ2_getChar_3b067 27 = .ok (.athrow, 1) := by decide +kernel
theorem dJ2_getChar_3b067_28 : decode cJ2_getChar_3b067 28 = .ok (.iload_n 1, 1) := by decide +kernel
theorem dJ2_getChar_3b067_29 : decode cJ2_getChar_3b067 29 = .ok (.iconst 1, 1) := by decide +kernel
theorem dJ2_getChar_3b067_30 : decode cJ2_getChar_3b067 30 = .ok (.ishl, 1) := by decide +kernel
theorem dJ2_getChar_3b067_31 : decode cJ2_getChar_3b067 31 = .ok (.istore_n 1, 1) := by decide +kernel
theorem dJ2_getChar_3b067_32 : decode cJ2_getChar_3b067 32 = .ok (.aload_n 0, 1) := by decide +kernel
theorem dJ2_getChar_3b067_33 : decode cJ2_getChar_3b067 33 = .ok (.iload_n 1, 1) := by decide +kernel
theorem dJ2_getChar_3b067_34 : decode cJ2_getChar_3b067 34 = .ok (.iinc 1 1, 3) := by decide +kernel
theorem dJ2_getChar_3b067_37 : decode cJ2_getChar_3b067 37 = .ok (.baload, 1) := by decide +kernel
theorem dJ2_getChar_3b067_38 : decode cJ2_getChar_3b067 38 = .ok (.sipush 255, 3) := by decide +kernel
theorem dJ2_getChar_3b067_41 : decode cJ2_getChar_3b067 41 = .ok (.iand, 1) := by decide +kernel
theorem dJ2_getChar_3b067_42 : decode cJ2_getChar_3b067 42 = .ok (.getstatic 59, 3) := by decide +kernel
theorem dJ2_getChar_3b067_45 : decode cJ2_getChar_3b067 45 = .ok (.ishl, 1) := by decide +kernel
theorem dJ2_getChar_3b067_46 : decode cJ2_getChar_3b067 46 = .ok (.aload_n 0, 1) := by decide +kernel
theorem dJ2_getChar_3b067_47 : decode cJ2_getChar_3b067 47 = .ok (.iload_n 1, 1) := by decide +kernel
theorem dJ2_getChar_3b067_48 : decode cJ2_getChar_3b067 48 = .ok (.baload, 1) := by decide +kernel
theorem dJ2_getChar_3b067_49 : decode cJ2_getChar_3b067 49 = .ok (.sipush 255, 3) := by decide +kernel
theorem dJ2_getChar_3b067_52 : decode cJ2_getChar_3b067 52 = .ok (.iand, 1) := by decide +kernel
theorem dJ2_getChar_3b067_53 : decode cJ2_getChar_3b067 53 = .ok (.getstatic 63, 3) := by decide +kernel
theorem dJ2_getChar_3b067_56 : decode cJ2_getChar_3b067 56 = .ok (.ishl, 1) := by decide +kernel
theorem dJ2_getChar_3b067_57 : decode cJ2_getChar_3b067 57 = .ok (.ior, 1) := by decide +kernel
theorem dJ2_getChar_3b067_58 : decode cJ2_getChar_3b067 58 = .ok (.i2c, 1) := by decide +kernel
theorem dJ2_getChar_3b067_59 : decode cJ2_getChar_3b067 59 = .ok (.ireturn, 1) := by decide +kernel
theorem dJ2_length_9d52b_0 : decode cJ2_length_9d52b 0 = .ok (.aload_n 0, 1) := by decide +kernel
theorem dJ2_length_9d52b_1 : decode cJ2_length_9d52b 1 = .ok (.arraylength, 1) := by decide +kernel
theorem dJ2_length_9d52b_2 : decode cJ2_length_9d52b 2 = .ok (.iconst 1, 1) := by decide +kernel
theorem dJ2_length_9d52b_3 : decode cJ2_length_9d52b 3 = .ok (.ishr, 1) := by decide +kernel
theorem dJ2_length_9d52b_4 : decode cJ2_length_9d52b 4 = .ok (.ireturn, 1) := by decide +kernel
theorem dJ2_indexOf_4cfef_0 : decode cJ2_indexOf_4cfef 0 = .ok (.iload_n 2, 1) := by decide +kernel
theorem dJ2_indexOf_4cfef_1 : decode cJ2_indexOf_4cfef 1 = .ok (.iconst 0, 1) := by decide +kernel
theorem dJ2_indexOf_4cfef_2 : decode cJ2_indexOf_4cfef 2 = .ok (.invokestatic 224, 3) := by decide +kernel
theorem dJ2_indexOf_4cfef_5 : decode cJ2_indexOf_4cfef 5 = .ok (.istore_n 2, 1) := by decide +kernel
theorem dJ2_indexOf_4cfef_6 : decode cJ2_indexOf_4cfef 6 = .ok (.iload_n 3, 1) := by decide +kernel
theorem dJ2_indexOf_4cfef_7 : decode cJ2_indexOf_4cfef 7 = .ok (.aload_n 0, 1) := by decide +kernel
theorem dJ2_indexOf_4cfef_8 : decode cJ2_indexOf_4cfef 8 = .ok (.arraylength, 1) := by decide +kernel
theorem dJ2_indexOf_4cfef_9 : decode cJ2_indexOf_4cfef 9 = .ok (.iconst 1, 1) := by decide +kernel
theorem dJ2_indexOf_4cfef_10 : decode cJ2_indexOf_4cfef 10 = .ok (.ishr, 1) := by decide +kernel
theorem dJ2_indexOf_4cfef_11 : decode cJ2_indexOf_4cfef 11 = .ok (.invokestatic 183, 3) := by decide +kernel
theorem dJ2_indexOf_4cfef_14 : decode cJ2_indexOf_4cfef 14 = .ok (.istore_n 3, 1) := by decide +kernel
theorem dJ2_indexOf_4cfef_15 : decode cJ2_indexOf_4cfef 15 = .ok (.iload_n 2, 1) := by decide +kernel
theorem dJ2_indexOf_4cfef_16 : decode cJ2_indexOf_4cfef 16 = .ok (.iload_n 3, 1) := by decide +kernel
theorem dJ2_indexOf_4cfef_17 : decode cJ2_indexOf_4cfef 17 = .ok (.if_icmp .lt 5, 3) := by decide +kernel
theorem dJ2_indexOf_4cfef_20 : decode cJ2_indexOf_4cfef 20 = .ok (.iconst (-1), 1) := by decide +kernel
theorem dJ2_indexOf_4cfef_21 : decode cJ2_indexOf_4cfef 21 = .ok (.ireturn, 1) := by decide +kernel
theorem dJ2_indexOf_4cfef_22 : decode cJ2_indexOf_4cfef 22 = .ok (.iload_n 1, 1) := by decide +kernel
theorem dJ2_indexOf_4cfef_23 : decode cJ2_indexOf_4cfef 23 = .ok (.ldc 227, 2) := by decide +kernel
theorem dJ2_indexOf_4cfef_25 : decode cJ2_indexOf_4cfef 25 = .ok (.if_icmp .ge 11, 3) := by decide +kernel
theorem dJ2_indexOf_4cfef_28 : decode cJ2_indexOf_4cfef 28 = .ok (.aload_n 0, 1) := by decide +kernel
theorem dJ2_indexOf_4cfef_29 : decode cJ2_indexOf_4cfef 29 = .ok (.iload_n 1, 1) := by decide +kernel
theorem dJ2_indexOf_4cfef_30 : decode cJ2_indexOf_4cfef 30 = .ok (.iload_n 2, 1) := by decide +kernel
theorem dJ2_indexOf_4cfef_31 : decode cJ2_indexOf_4cfef 31 = .ok (.iload_n 3, 1) := by decide +kernel
theorem dJ2_indexOf_4cfef_32 : decode cJ2_indexOf_4cfef 32 = .ok (.invokestatic 228, 3) := by decide +kernel
theorem dJ2_indexOf_4cfef_35 : decode cJ2_indexOf_4cfef 35 = .ok (.ireturn, 1) := by decide +kernel
theorem dJ2_indexOf_4cfef_36 : decode cJ2_indexOf_4cfef 36 = .ok (.aload_n 0, 1) := by decide +kernel
theorem dJ2_indexOf_4cfef_37 : decode cJ2_indexOf_4cfef 37 = .ok (.iload_n 1, 1) := by decide +kernel
theorem dJ2_indexOf_4cfef_38 : decode cJ2_indexOf_4cfef 38 = .ok (.iload_n 2, 1) := by decide +kernel
theorem dJ2_indexOf_4cfef_39 : decode cJ2_indexOf_4cfef 39 = .ok (.iload_n 3, 1) := by decide +kernel
theorem dJ2_indexOf_4cfef_40 : decode cJ2_indexOf_4cfef 40 = .ok (.invokestatic 232, 3) := by decide +kernel
theorem dJ2_indexOf_4cfef_43 : decode cJ2_indexOf_4cfef 43 = .ok (.ireturn, 1) := by decide +kernel
theorem dJ2_indexOfChar_4cfef_0 : decode cJ2_indexOfChar_4cfef 0 = .ok (.iload_n 2, 1) := by decide +kernel
theorem dJ2_indexOfChar_4cfef_1 : decode cJ2_indexOfChar_4cfef 1 = .ok (.iload_n 3, 1) := by decide +kernel
theorem dJ2_indexOfChar_4cfef_2 : decode cJ2_indexOfChar_4cfef 2 = .ok (.aload_n 0, 1) := by decide +kernel
theorem dJ2_indexOfChar_4cfef_3 : decode cJ2_indexOfChar_4cfef 3 = .ok (.invokestatic 96, 3) := by decide +kernel
theorem dJ2_indexOfChar_4cfef_6 : decode cJ2_indexOfChar_4cfef 6 = .ok (.aload_n 0, 1) := by decide +kernel
theorem dJ2_indexOfChar_4cfef_7 : decode cJ2_indexOfChar_4cfef 7 = .ok (.iload_n 1, 1) := by decide +kernel
theorem dJ2_indexOfChar_4cfef_8 : decode cJ2_indexOfChar_4cfef 8 = .ok (.iload_n 2, 1) := by decide +kernel
theorem dJ2_indexOfChar_4cfef_9 : decode cJ2_indexOfChar_4cfef 9 = .ok (.iload_n 3, 1) := by decide +kernel
theorem dJ2_indexOfChar_4cfef_10 : decode cJ2_indexOfChar_4cfef 10 = .ok (.invokestatic 244, 3) := by decide +kernel
theorem dJ2_indexOfChar_4cfef_13 : decode cJ2_indexOfChar_4cfef 13 = .ok (.ireturn, 1) := by decide +kernel
theorem dJ2_indexOfCharUnsafe_4cfef_0 : decode cJ2_indexOfCharUnsafe_4cfef 0 = .ok (.iload_n 2, 1) := by decide +kernel
theorem dJ2_indexOfCharUnsafe_4cfef_1 : decode cJ2_indexOfCharUnsafe_4cfef 1 = .ok (.istore 4, 2) := by decide +kernel
theorem dJ2_indexOfCharUnsafe_4cfef_3 : decode cJ2_indexOfCharUnsafe_4cfef 3 = .ok (.iload 4, 2) := by decide +kernel
theorem dJ2_indexOfCharUnsafe_4cfef_5 : decode cJ2_indexOfCharUnsafe_4cfef 5 = .ok (.iload_n 3, 1) := by decide +kernel
theorem dJ2_indexOfCharUnsafe_4cfef_6 : decode cJ2_indexOfCharUnsafe_4cfef 6 = .ok (.if_icmp .ge 22, 3) := by decide +kernel
theorem dJ2_indexOfCharUnsafe_4cfef_9 : decode cJ2_indexOfCharUnsafe_4cfef 9 = .ok (.aload_n 0, 1) := by decide +kernel
theorem dJ2_indexOfCharUnsafe_4cfef_10 : decode cJ2_indexOfCharUnsafe_4cfef 10 = .ok (.iload 4, 2) := by decide +kernel
theorem dJ2_indexOfCharUnsafe_4cfef_12 : decode cJ2_indexOfCharUnsafe_4cfef 12 = .ok (.invokestatic 71, 3) := by decide +kernel
theorem dJ2_indexOfCharUnsafe_4cfef_15 : decode cJ2_indexOfCharUnsafe_4cfef 15 = .ok (.iload_n 1, 1) := by decide +kernel
theorem dJ2_indexOfCharUnsafe_4cfef_16 : decode cJ2_indexOfCharUnsafe_4cfef 16 = .ok (.if_icmp .ne 6, 3) := by decide +kernel
theorem dJ2_indexOfCharUnsafe_4cfef_19 : decode cJ2_indexOfCharUnsafe_4cfef 19 = .ok (.iload 4, 2) := by decide +kernel
theorem dJ2_indexOfCharUnsafe_4cfef_21 : decode cJ2_indexOfCharUnsafe_4cfef 21 = .ok (.ireturn, 1) := by decide +kernel
theorem dJ2_indexOfCharUnsafe_4cfef_22 : decode cJ2_indexOfCharUnsafe_4cfef 22 = .ok (.iinc 4 1, 3) := by decide +kernel
theorem dJ2_indexOfCharUnsafe_4cfef_25 : decode cJ2_indexOfCharUnsafe_4cfef 25 = .ok (.goto (-22), 3) := by decide +kernel
theorem dJ2_indexOfCharUnsafe_4cfef_28 : decode cJ2_indexOfCharUnsafe_4cfef 28 = .ok (.iconst (-1), 1) := by decide +kernel
theorem dJ2_indexOfCharUnsafe_4cfef_29 : decode cJ2_indexOfCharUnsafe_4cfef 29 = .ok (.ireturn, 1) := by decide +kernel
theorem dJ2_indexOfSupplementary_4cfef_0 : decode cJ2_indexOfSupplementary_4cfef 0 = .ok (.iload_n 1, 1) := by decide +kernel
theorem dJ2_indexOfSupplementary_4cfef_1 : decode cJ2_indexOfSupplementary_4cfef 1 = .ok (.invokestatic 164, 3) := by decide +kernel
theorem dJ2_indexOfSupplementary_4cfef_4 : decode cJ2_indexOfSupplementary_4cfef 4 = .ok (.ifCond .eq 65, 3) := by decide +kernel
theorem dJ2_indexOfSupplementary_4cfef_7 : decode cJ2_indexOfSupplementary_4cfef 7 = .ok (.iload_n 1, 1) := by decide +kernel
theorem dJ2_indexOfSupplementary_4cfef_8 : decode cJ2_indexOfSupplementary_4cfef 8 = .ok (.invokestatic 157, 3) := by decide +kernel
theorem dJ2_indexOfSupplementary_4cfef_11 : decode cJ2_indexOfSupplementary_4cfef 11 = .ok (.istore 4, 2) := by decide +kernel
theorem dJ2_indexOfSupplementary_4cfef_13 : decode cJ2_indexOfSupplementary_4cfef 13 = .ok (.iload_n 1, 1) := by decide +kernel
theorem dJ2_indexOfSupplementary_4cfef_14 : decode cJ2_indexOfSupplementary_4cfef 14 = .ok (.invokestatic 161, 3) := by decide +kernel
theorem dJ2_indexOfSupplementary_4cfef_17 : decode cJ2_indexOfSupplementary_4cfef 17 = .ok (.istore 5, 2) := by decide +kernel
theorem dJ2_indexOfSupplementary_4cfef_19 : decode cJ2_indexOfSupplementary_4cfef 19 = .ok (.iload_n 2, 1) := by decide +kernel
theorem dJ2_indexOfSupplementary_4cfef_20 : decode cJ2_indexOfSupplementary_4cfef 20 = .ok (.iload_n 3, 1) := by decide +kernel
theorem dJ2_indexOfSupplementary_4cfef_21 : decode cJ2_indexOfSupplementary_4cfef 21 = .ok (.aload_n 0, 1) := by decide +kernel
theorem dJ2_indexOfSupplementary_4cfef_22 : decode cJ2_indexOfSupplementary_4cfef 22 = .ok (.invokestatic 96, 3) := by decide +kernel
theorem dJ2_indexOfSupplementary_4cfef_25 : decode cJ2_indexOfSupplementary_4cfef 25 = .ok (.iload_n 2, 1) := by decide +kernel
theorem dJ2_indexOfSupplementary_4cfef_26 : decode cJ2_indexOfSupplementary_4cfef 26 = .ok (.istore 6, 2) := by decide +kernel
theorem dJ2_indexOfSupplementary_4cfef_28 : decode cJ2_indexOfSupplementary_4cfef 28 = .ok (.iload 6, 2) := by decide +kernel
theorem dJ2_indexOfSupplementary_4cfef_30 : decode cJ2_indexOfSupplementary_4cfef 30 = .ok (.iload_n 3, 1) := by decide +kernel
theorem dJ2_indexOfSupplementary_4cfef_31 : decode cJ2_indexOfSupplementary_4cfef 31 = .ok (.iconst 1, 1) := by decide +kernel
theorem dJ2_indexOfSupplementary_4cfef_32 : decode cJ2_indexOfSupplementary_4cfef 32 = .ok (.isub, 1) := by decide +kernel
theorem dJ2_indexOfSupplementary_4cfef_33 : decode cJ2_indexOfSupplementary_4cfef 33 = .ok (.if_icmp .ge 36, 3) := by decide +kernel
theorem dJ2_indexOfSupplementary_4cfef_36 : decode cJ2_indexOfSupplementary_4cfef 36 = .ok (.aload_n 0, 1) := by decide +kernel
theorem dJ2_indexOfSupplementary_4cfef_37 : decode cJ2_indexOfSupplementary_4cfef 37 = .ok (.iload 6, 2) := by decide +kernel
theorem dJ2_indexOfSupplementary_4cfef_39 : decode cJ2_indexOfSupplementary_4cfef 39 = .ok (.invokestatic 71, 3) := by decide +kernel
theorem dJ2_indexOfSupplementary_4cfef_42 : decode cJ2_indexOfSupplementary_4cfef 42 = .ok (.iload 4, 2) := by decide +kernel
theorem dJ2_indexOfSupplementary_4cfef_44 : decode cJ2_indexOfSupplementary_4cfef 44 = .ok (.if_icmp .ne 19, 3) := by decide +kernel
theorem dJ2_indexOfSupplementary_4cfef_47 : decode cJ2_indexOfSupplementary_4cfef 47 = .ok (.aload_n 0, 1) := by decide +kernel
theorem dJ2_indexOfSupplementary_4cfef_48 : decode cJ2_indexOfSupplementary_4cfef 48 = .ok (.iload 6, 2) := by decide +kernel
theorem dJ2_indexOfSupplementary_4cfef_50 : decode cJ2_indexOfSupplementary_4cfef 50 = .ok (.iconst 1, 1) := by decide +kernel
theorem dJ2_indexOfSupplementary_4cfef_51 : decode cJ2_indexOfSupplementary_4cfef 51 = .ok (.iadd, 1) := by decide +kernel
theorem dJ2_indexOfSupplementary_4cfef_52 : decode cJ2_indexOfSupplementary_4cfef 52 = .ok (.invokestatic 71, 3) := by decide +kernel
theorem dJ2_indexOfSupplementary_4cfef_55 : decode cJ2_indexOfSupplementary_4cfef 55 = .ok (.iload 5, 2) := by decide +kernel
theorem dJ2_indexOfSupplementary_4cfef_57 : decode cJ2_indexOfSupplementary_4cfef 57 = .ok (.if_icmp .ne 6, 3) := by decide +kernel
theorem dJ2_indexOfSupplementary_4cfef_60 : decode cJ2_indexOfSupplementary_4cfef 60 = .ok (.iload 6, 2) := by decide +kernel
theorem dJ2_indexOfSupplementary_4cfef_62 : decode cJ2_indexOfSupplementary_4cfef 62 = .ok (.ireturn, 1) := by decide +kernel
theorem dJ2_indexOfSupplementary_4cfef_63 : decode cJ2_indexOfSupplementary_4cfef 63 = .ok (.iinc 6 1, 3) := by decide +kernel
theorem dJ2_indexOfSupplementary_4cfef_66 : decode cJ2_indexOfSupplementary_4cfef 66 = .ok (.goto (-38), 3) := by decide +kernel
theorem dJ2_indexOfSupplementary_4cfef_69 : decode cJ2_indexOfSupplementary_4cfef 69 = .ok (.iconst (-1), 1) := by decide +kernel
theorem dJ2_indexOfSupplementary_4cfef_70 : decode cJ2_indexOfSupplementary_4cfef 70 = .ok (.ireturn, 1) := by decide +kernel
theorem dJ2_charAt_3b067_0 : decode cJ2_charAt_3b067 0 = .ok (.iload_n 1, 1) := by decide +kernel
theorem dJ2_charAt_3b067_1 : decode cJ2_charAt_3b067 1 = .ok (.aload_n 0, 1) := by decide +kernel
theorem dJ2_charAt_3b067_2 : decode cJ2_charAt_3b067 2 = .ok (.invokestatic 67, 3) := by decide +kernel
theorem dJ2_charAt_3b067_5 : decode cJ2_charAt_3b067 5 = .ok (.aload_n 0, 1) := by decide +kernel
theorem dJ2_charAt_3b067_6 : decode cJ2_charAt_3b067 6 = .ok (.iload_n 1, 1) := by decide +kernel
theorem dJ2_charAt_3b067_7 : decode cJ2_charAt_3b067 7 = .ok (.invokestatic 71, 3) := by decide +kernel
theorem dJ2_charAt_3b067_10 : decode cJ2_charAt_3b067 10 = .ok (.ireturn, 1) := by decide +kernel
theorem dJ2_checkIndex_2214a_0 : decode cJ2_checkIndex_2214a 0 = .ok (.iload_n 0, 1) := by decide +kernel
theorem dJ2_checkIndex_2214a_1 : decode cJ2_checkIndex_2214a 1 = .ok (.aload_n 1, 1) := by decide +kernel
theorem dJ2_checkIndex_2214a_2 : decode cJ2_checkIndex_2214a 2 = .ok (.invokestatic 48, 3) := by decide +kernel
theorem dJ2_checkIndex_2214a_5 : decode cJ2_checkIndex_2214a 5 = .ok (.invokestatic 414, 3) := by decide +kernel
theorem dJ2_checkIndex_2214a_8 : decode cJ2_checkIndex_2214a 8 = .ok (.return_, 1) := by decide +kernel
theorem dJ2_checkBoundsBeginEnd_d044e_0 : decode cJ2_checkBoundsBeginEnd_d044e 0 = .ok (.iload_n 0, 1) := by decide +kernel
theorem dJ2_checkBoundsBeginEnd_d044e_1 : decode cJ2_checkBoundsBeginEnd_d044e 1 = .ok (.iload_n 1, 1) := by decide +kernel
theorem dJ2_checkBoundsBeginEnd_d044e_2 : decode cJ2_checkBoundsBeginEnd_d044e 2 = .ok (.aload_n 2, 1) := by decide +kernel
theorem dJ2_checkBoundsBeginEnd_d044e_3 : decode cJ2_checkBoundsBeginEnd_d044e 3 = .ok (.invokestatic 48, 3) := by decide +kernel
theorem dJ2_checkBoundsBeginEnd_d044e_6 : decode cJ2_checkBoundsBeginEnd_d044e 6 = .ok (.invokestatic 241, 3) := by decide +kernel
theorem dJ2_checkBoundsBeginEnd_d044e_9 : decode cJ2_checkBoundsBeginEnd_d044e 9 = .ok (.return_, 1) := by decide +kernel
theorem dJ7_fill_53178_0 : decode cJ7_fill_53178 0 = .ok (.iconst 0, 1) := by decide +kernel
theorem dJ7_fill_53178_1 : decode cJ7_fill_53178 1 = .ok (.istore_n 2, 1) := by decide +kernel
theorem dJ7_fill_53178_2 : decode cJ7_fill_53178 2 = .ok (.aload_n 0, 1) := by decide +kernel
theorem dJ7_fill_53178_3 : decode cJ7_fill_53178 3 = .ok (.arraylength, 1) := by decide +kernel
theorem dJ7_fill_53178_4 : decode cJ7_fill_53178 4 = .ok (.istore_n 3, 1) := by decide +kernel
theorem dJ7_fill_53178_5 : decode cJ7_fill_53178 5 = .ok (.iload_n 2, 1) := by decide +kernel
theorem dJ7_fill_53178_6 : decode cJ7_fill_53178 6 = .ok (.iload_n 3, 1) := by decide +kernel
theorem dJ7_fill_53178_7 : decode cJ7_fill_53178 7 = .ok (.if_icmp .ge 13, 3) := by decide +kernel
theorem dJ7_fill_53178_10 : decode cJ7_fill_53178 10 = .ok (.aload_n 0, 1) := by decide +kernel
theorem dJ7_fill_53178_11 : decode cJ7_fill_53178 11 = .ok (.iload_n 2, 1) := by decide +kernel
theorem dJ7_fill_53178_12 : decode cJ7_fill_53178 12 = .ok (.iload_n 1, 1) := by decide +kernel
theorem dJ7_fill_53178_13 : decode cJ7_fill_53178 13 = .ok (.iastore, 1) := by decide +kernel
theorem dJ7_fill_53178_14 : decode cJ7_fill_53178 14 = .ok (.iinc 2 1, 3) := by decide +kernel
theorem dJ7_fill_53178_17 : decode cJ7_fill_53178 17 = .ok (.goto (-12), 3) := by decide +kernel
theorem dJ7_fill_53178_20 : decode cJ7_fill_53178 20 = .ok (.return_, 1) := by decide +kernel
theorem dJ7_copyOf_59c91_0 : decode cJ7_copyOf_59c91 0 = .ok (.iload_n 1, 1) := by decide +kernel
theorem dJ7_copyOf_59c91_1 : decode cJ7_copyOf_59c91 1 = .ok (.aload_n 0, 1) := by decide +kernel
theorem dJ7_copyOf_59c91_2 : decode cJ7_copyOf_59c91 2 = .ok (.arraylength, 1) := by decide +kernel
theorem dJ7_copyOf_59c91_3 : decode cJ7_copyOf_59c91 3 = .ok (.if_icmp .ne 11, 3) := by decide +kernel
theorem dJ7_copyOf_59c91_6 : decode cJ7_copyOf_59c91 6 = .ok (.aload_n 0, 1) := by decide +kernel
theorem dJ7_copyOf_59c91_7 : decode cJ7_copyOf_59c91 7 = .ok (.invokevirtual 316, 3) := by decide +kernel
theorem dJ7_copyOf_59c91_10 : decode cJ7_copyOf_59c91 10 = .ok (.checkcast 317, 3) := by decide +kernel
theorem dJ7_copyOf_59c91_13 : decode cJ7_copyOf_59c91 13 = .ok (.areturn, 1) := by decide +kernel
theorem dJ7_copyOf_59c91_14 : decode cJ7_copyOf_59c91 14 = .ok (.iload_n 1, 1) := by decide +kernel
theorem dJ7_copyOf_59c91_15 : decode cJ7_copyOf_59c91 15 = .ok (.newarray .int, 2) := by decide +kernel
theorem dJ7_copyOf_59c91_17 : decode cJ7_copyOf_59c91 17 = .ok (.astore_n 2, 1) := by decide +kernel
theorem dJ7_copyOf_59c91_18 : decode cJ7_copyOf_59c91 18 = .ok (.aload_n 0, 1) := by decide +kernel
theorem dJ7_copyOf_59c91_19 : decode cJ7_copyOf_59c91 19 = .ok (.iconst 0, 1) := by decide +kernel
theorem dJ7_copyOf_59c91_20 : decode cJ7_copyOf_59c91 20 = .ok (.aload_n 2, 1) := by decide +kernel
theorem dJ7_copyOf_59c91_21 : decode cJ7_copyOf_59c91 21 = .ok (.iconst 0, 1) := by decide +kernel
theorem dJ7_copyOf_59c91_22 : decode cJ7_copyOf_59c91 22 = .ok (.aload_n 0, 1) := by decide +kernel
theorem dJ7_copyOf_59c91_23 : decode cJ7_copyOf_59c91 23 = .ok (.arraylength, 1) := by decide +kernel
theorem dJ7_copyOf_59c91_24 : decode cJ7_copyOf_59c91 24 = .ok (.iload_n 1, 1) := by decide +kernel
theorem dJ7_copyOf_59c91_25 : decode cJ7_copyOf_59c91 25 = .ok (.invokestatic 304, 3) := by decide +kernel
theorem dJ7_copyOf_59c91_28 : decode cJ7_copyOf_59c91 28 = .ok (.invokestatic 150, 3) := by decide +kernel
theorem dJ7_copyOf_59c91_31 : decode cJ7_copyOf_59c91 31 = .ok (.aload_n 2, 1) := by decide +kernel
theorem dJ7_copyOf_59c91_32 : decode cJ7_copyOf_59c91 32 = .ok (.areturn, 1) := by decide +kernel
theorem dJ3_checkIndex_8e157_0 : decode cJ3_checkIndex_8e157 0 = .ok (.iload_n 0, 1) := by decide +kernel
theorem dJ3_checkIndex_8e157_1 : decode cJ3_checkIndex_8e157 1 = .ok (.ifCond .lt 8, 3) := by decide +kernel
theorem dJ3_checkIndex_8e157_4 : decode cJ3_checkIndex_8e157 4 = .ok (.iload_n 0, 1) := by decide +kernel
theorem dJ3_checkIndex_8e157_5 : decode cJ3_checkIndex_8e157 5 = .ok (.iload_n 1, 1) := by decide +kernel
theorem dJ3_checkIndex_8e157_6 : decode cJ3_checkIndex_8e157 6 = .ok (.if_icmp .lt 10, 3) := by decide +kernel
theorem dJ3_checkIndex_8e157_9 : decode cJ3_checkIndex_8e157 9 = .ok (.aload_n 2, 1) := by decide +kernel
theorem dJ3_checkIndex_8e157_10 : decode cJ3_checkIndex_8e157 10 = .ok (.iload_n 0, 1) := by decide +kernel
theorem dJ3_checkIndex_8e157_11 : decode cJ3_checkIndex_8e157 11 = .ok (.iload_n 1, 1) := by decide +kernel
theorem dJ3_checkIndex_8e157_12 : decode cJ3_checkIndex_8e157 12 = .ok (.invokestatic 95, 3) := by decide +kernel
theorem dJ3_checkIndex_8e157_15 : decode cJ3_checkIndex_8e157 15 = .ok (.athrow, 1) := by decide +kernel
theorem dJ3_checkIndex_8e157_16 : decode cJ3_checkIndex_8e157 16 = .ok (.iload_n 0, 1) := by decide +kernel
theorem dJ3_checkIndex_8e157_17 : decode cJ3_checkIndex_8e157 17 = .ok (.ireturn, 1) := by decide +kernel
theorem dJ3_checkFromToIndex_8c36e_0 : decode cJ3_checkFromToIndex_8c36e 0 = .ok (.iload_n 0, 1) := by decide +kernel
theorem dJ3_checkFromToIndex_8c36e_1 : decode cJ3_checkFromToIndex_8c36e 1 = .ok (.ifCond .lt 13, 3) := by decide +kernel
theorem dJ3_checkFromToIndex_8c36e_4 : decode cJ3_checkFromToIndex_8c36e 4 = .ok (.iload_n 0, 1) := by decide +kernel
theorem dJ3_checkFromToIndex_8c36e_5 : decode cJ3_checkFromToIndex_8c36e 5 = .ok (.iload_n 1, 1) := by decide +kernel
theorem dJ3_checkFromToIndex_8c36e_6 : decode cJ3_checkFromToIndex_8c36e 6 = .ok (.if_icmp .gt 8, 3) := by decide +kernel
theorem dJ3_checkFromToIndex_8c36e_9 : decode cJ3_checkFromToIndex_8c36e 9 = .ok (.iload_n 1, 1) := by decide +kernel
theorem dJ3_checkFromToIndex_8c36e_10 : decode cJ3_checkFromToIndex_8c36e 10 = .ok (.iload_n 2, 1) := by decide +kernel
theorem dJ3_checkFromToIndex_8c36e_11 : decode cJ3_checkFromToIndex_8c36e 11 = .ok (.if_icmp .le 11, 3) := by decide +kernel
theorem dJ3_checkFromToIndex_8c36e_14 : decode cJ3_checkFromToIndex_8c36e 14 = .ok (.aload_n 3, 1) := by decide +kernel
theorem dJ3_checkFromToIndex_8c36e_15 : decode cJ3_checkFromToIndex_8c36e 15 = .ok (.iload_n 0, 1) := by decide +kernel
theorem dJ3_checkFromToIndex_8c36e_16 : decode cJ3_checkFromToIndex_8c36e 16 = .ok (.iload_n 1, 1) := by decide +kernel
theorem dJ3_checkFromToIndex_8c36e_17 : decode cJ3_checkFromToIndex_8c36e 17 = .ok (.iload_n 2, 1) := by decide +kernel
theorem dJ3_checkFromToIndex_8c36e_18 : decode cJ3_checkFromToIndex_8c36e 18 = .ok (.invokestatic 99, 3) := by decide +kernel
theorem dJ3_checkFromToIndex_8c36e_21 : decode cJ3_checkFromToIndex_8c36e 21 = .ok (.athrow, 1) := by decide +kernel
theorem dJ3_checkFromToIndex_8c36e_22 : decode cJ3_checkFromToIndex_8c36e 22 = .ok (.iload_n 0, 1) := by decide +kernel
theorem dJ3_checkFromToIndex_8c36e_23 : decode cJ3_checkFromToIndex_8c36e 23 = .ok (.ireturn, 1) := by decide +kernel
