theorem dX3_hasBegun_7 : decode cX3_hasBegun 7 = .ok (.iload_n 1, 1) := by decide +kernel
theorem dX3_hasBegun_8 : decode cX3_hasBegun 8 = .ok (.iaload, 1) := by decide +kernel
theorem dX3_hasBegun_9 : decode cX3_hasBegun 9 = .ok (.istore_n 2, 1) := by decide +kernel
theorem dX3_hasBegun_10 : decode cX3_hasBegun 10 = .ok (.aload_n 0, 1) := by decide +kernel
theorem dX3_hasBegun_11 : decode cX3_hasBegun 11 = .ok (.getfield 21, 3) := by decide +kernel
theorem dX3_hasBegun_14 : decode cX3_hasBegun 14 = .ok (.getfield 93, 3) := by decide +kernel
theorem dX3_hasBegun_17 : decode cX3_hasBegun 17 = .ok (.iload_n 2, 1) := by decide +kernel
theorem dX3_hasBegun_18 : decode cX3_hasBegun 18 = .ok (.iaload, 1) := by decide +kernel
theorem dX3_hasBegun_19 : decode cX3_hasBegun 19 = .ok (.iconst 3, 1) := by decide +kernel
theorem dX3_hasBegun_20 : decode cX3_hasBegun 20 = .ok (.if_icmp .ne 14, 3) := by decide +kernel
theorem dX3_hasBegun_23 : decode cX3_hasBegun 23 = .ok (.aload_n 0, 1) := by decide +kernel
theorem dX3_hasBegun_24 : decode cX3_hasBegun 24 = .ok (.getfield 12, 3) := by decide +kernel
theorem dX3_hasBegun_27 : decode cX3_hasBegun 27 = .ok (.iload_n 1, 1) := by decide +kernel
theorem dX3_hasBegun_28 : decode cX3_hasBegun 28 = .ok (.iconst 1, 1) := by decide +kernel
theorem dX3_hasBegun_29 : decode cX3_hasBegun 29 = .ok (.invokevirtual 172, 3) := by decide +kernel
theorem dX3_hasBegun_32 : decode cX3_hasBegun 32 = .ok (.iconst 0, 1) := by decide +kernel
theorem dX3_hasBegun_33 : decode cX3_hasBegun 33 = .ok (.ireturn, 1) := by decide +kernel
theorem dX3_hasBegun_34 : decode cX3_hasBegun 34 = .ok (.aload_n 0, 1) := by decide +kernel
theorem dX3_hasBegun_35 : decode cX3_hasBegun 35 = .ok (.getfield 12, 3) := by decide +kernel
theorem dX3_hasBegun_38 : decode cX3_hasBegun 38 = .ok (.iconst 1, 1) := by decide +kernel
theorem dX3_hasBegun_39 : decode cX3_hasBegun 39 = .ok (.invokevirtual 176, 3) := by decide +kernel
theorem dX3_hasBegun_42 : decode cX3_hasBegun 42 = .ok (.aload_n 0, 1) := by decide +kernel
theorem dX3_hasBegun_43 : decode cX3_hasBegun 43 = .ok (.getfield 35, 3) := by decide +kernel
theorem dX3_hasBegun_46 : decode cX3_hasBegun 46 = .ok (.if_icmp .lt 5, 3) := by decide +kernel
theorem dX3_hasBegun_49 : decode cX3_hasBegun 49 = .ok (.iconst 0, 1) := by decide +kernel
theorem dX3_hasBegun_50 : decode cX3_hasBegun 50 = .ok (.ireturn, 1) := by decide +kernel
theorem dX3_hasBegun_51 : decode cX3_hasBegun 51 = .ok (.aload_n 0, 1) := by decide +kernel
theorem dX3_hasBegun_52 : decode cX3_hasBegun 52 = .ok (.getfield 21, 3) := by decide +kernel
theorem dX3_hasBegun_55 : decode cX3_hasBegun 55 = .ok (.getfield 93, 3) := by decide +kernel
theorem dX3_hasBegun_58 : decode cX3_hasBegun 58 = .ok (.iload_n 2, 1) := by decide +kernel
theorem dX3_hasBegun_59 : decode cX3_hasBegun 59 = .ok (.iaload, 1) := by decide +kernel
theorem dX3_hasBegun_60 : decode cX3_hasBegun 60 = .ok (.iconst 1, 1) := by decide +kernel
theorem dX3_hasBegun_61 : decode cX3_hasBegun 61 = .ok (.if_icmp .eq 13, 3) := by decide +kernel
theorem dX3_hasBegun_64 : decode cX3_hasBegun 64 = .ok (.aload_n 0, 1) := by decide +kernel
theorem dX3_hasBegun_65 : decode cX3_hasBegun 65 = .ok (.iload_n 2, 1) := by decide +kernel
theorem dX3_hasBegun_66 : decode cX3_hasBegun 66 = .ok (.invokevirtual 179, 3) := by decide +kernel
theorem dX3_hasBegun_69 : decode cX3_hasBegun 69 = .ok (.ifCond .ne 5, 3) := by decide +kernel
theorem dX3_hasBegun_72 : decode cX3_hasBegun 72 = .ok (.iconst 0, 1) := by decide +kernel
theorem dX3_hasBegun_73 : decode cX3_hasBegun 73 = .ok (.ireturn, 1) := by decide +kernel
theorem dX3_hasBegun_74 : decode cX3_hasBegun 74 = .ok (.aload_n 0, 1) := by decide +kernel
theorem dX3_hasBegun_75 : decode cX3_hasBegun 75 = .ok (.getfield 21, 3) := by decide +kernel
theorem dX3_hasBegun_78 : decode cX3_hasBegun 78 = .ok (.iload_n 2, 1) := by decide +kernel
theorem dX3_hasBegun_79 : decode cX3_hasBegun 79 = .ok (.invokevirtual 182, 3) := by decide +kernel
theorem dX3_hasBegun_82 : decode cX3_hasBegun 82 = .ok (.istore_n 3, 1) := by decide +kernel
theorem dX3_hasBegun_83 : decode cX3_hasBegun 83 = .ok (.aload_n 0, 1) := by decide +kernel
theorem dX3_hasBegun_84 : decode cX3_hasBegun 84 = .ok (.getfield 42, 3) := by decide +kernel
theorem dX3_hasBegun_87 : decode cX3_hasBegun 87 = .ok (.aload_n 0, 1) := by decide +kernel
theorem dX3_hasBegun_88 : decode cX3_hasBegun 88 = .ok (.getfield 21, 3) := by decide +kernel
theorem dX3_hasBegun_91 : decode cX3_hasBegun 91 = .ok (.getfield 90, 3) := by decide +kernel
theorem dX3_hasBegun_94 : decode cX3_hasBegun 94 = .ok (.iload_n 2, 1) := by decide +kernel
theorem dX3_hasBegun_95 : decode cX3_hasBegun 95 = .ok (.iaload, 1) := by decide +kernel
theorem dX3_hasBegun_96 : decode cX3_hasBegun 96 = .ok (.iadd, 1) := by decide +kernel
theorem dX3_hasBegun_97 : decode cX3_hasBegun 97 = .ok (.iload_n 3, 1) := by decide +kernel
theorem dX3_hasBegun_98 : decode cX3_hasBegun 98 = .ok (.iconst 2, 1) := by decide +kernel
theorem dX3_hasBegun_99 : decode cX3_hasBegun 99 = .ok (.irem, 1) := by decide +kernel
theorem dX3_hasBegun_100 : decode cX3_hasBegun 100 = .ok (.iadd, 1) := by decide +kernel
theorem dX3_hasBegun_101 : decode cX3_hasBegun 101 = .ok (.istore 4, 2) := by decide +kernel
theorem dX3_hasBegun_103 : decode cX3_hasBegun 103 = .ok (.aload_n 0, 1) := by decide +kernel
theorem dX3_hasBegun_104 : decode cX3_hasBegun 104 = .ok (.getfield 12, 3) := by decide +kernel
theorem dX3_hasBegun_107 : decode cX3_hasBegun 107 = .ok (.iload_n 1, 1) := by decide +kernel
theorem dX3_hasBegun_108 : decode cX3_hasBegun 108 = .ok (.iload_n 3, 1) := by decide +kernel
theorem dX3_hasBegun_109 : decode cX3_hasBegun 109 = .ok (.iload 4, 2) := by decide +kernel
theorem dX3_hasBegun_111 : decode cX3_hasBegun 111 = .ok (.aload_n 0, 1) := by decide +kernel
theorem dX3_hasBegun_112 : decode cX3_hasBegun 112 = .ok (.getfield 21, 3) := by decide +kernel
theorem dX3_hasBegun_115 : decode cX3_hasBegun 115 = .ok (.getfield 113, 3) := by decide +kernel
theorem dX3_hasBegun_118 : decode cX3_hasBegun 118 = .ok (.iload_n 2, 1) := by decide +kernel
theorem dX3_hasBegun_119 : decode cX3_hasBegun 119 = .ok (.iaload, 1) := by decide +kernel
theorem dX3_hasBegun_120 : decode cX3_hasBegun 120 = .ok (.invokevirtual 185, 3) := by decide +kernel
theorem dX3_hasBegun_123 : decode cX3_hasBegun 123 = .ok (.iconst 1, 1) := by decide +kernel
theorem dX3_hasBegun_124 : decode cX3_hasBegun 124 = .ok (.ireturn, 1) := by decide +kernel
theorem dX3_couldOpen_0 : decode cX3_couldOpen 0 = .ok (.aload_n 0, 1) := by decide +kernel
theorem dX3_couldOpen_1 : decode cX3_couldOpen 1 = .ok (.getfield 21, 3) := by decide +kernel
theorem dX3_couldOpen_4 : decode cX3_couldOpen 4 = .ok (.getfield 93, 3) := by decide +kernel
theorem dX3_couldOpen_7 : decode cX3_couldOpen 7 = .ok (.iload_n 1, 1) := by decide +kernel
theorem dX3_couldOpen_8 : decode cX3_couldOpen 8 = .ok (.iaload, 1) := by decide +kernel
theorem dX3_couldOpen_9 : decode cX3_couldOpen 9 = .ok (.ifCond .ne 22, 3) := by decide +kernel
theorem dX3_couldOpen_12 : decode cX3_couldOpen 12 = .ok (.aload_n 0, 1) := by decide +kernel
theorem dX3_couldOpen_13 : decode cX3_couldOpen 13 = .ok (.getfield 21, 3) := by decide +kernel
theorem dX3_couldOpen_16 : decode cX3_couldOpen 16 = .ok (.invokevirtual 82, 3) := by decide +kernel
theorem dX3_couldOpen_19 : decode cX3_couldOpen 19 = .ok (.aload_n 0, 1) := by decide +kernel
theorem dX3_couldOpen_20 : decode cX3_couldOpen 20 = .ok (.getfield 21, 3) := by decide +kernel
theorem dX3_couldOpen_23 : decode cX3_couldOpen 23 = .ok (.getfield 79, 3) := by decide +kernel
theorem dX3_couldOpen_26 : decode cX3_couldOpen 26 = .ok (.if_icmp .lt 5, 3) := by decide +kernel
theorem dX3_couldOpen_29 : decode cX3_couldOpen 29 = .ok (.iconst 0, 1) := by decide +kernel
theorem dX3_couldOpen_30 : decode cX3_couldOpen 30 = .ok (.ireturn, 1) := by decide +kernel
theorem dX3_couldOpen_31 : decode cX3_couldOpen 31 = .ok (.aload_n 0, 1) := by decide +kernel
theorem dX3_couldOpen_32 : decode cX3_couldOpen 32 = .ok (.getfield 21, 3) := by decide +kernel
theorem dX3_couldOpen_35 : decode cX3_couldOpen 35 = .ok (.iconst 1, 1) := by decide +kernel
theorem dX3_couldOpen_36 : decode cX3_couldOpen 36 = .ok (.invokevirtual 76, 3) := by decide +kernel
theorem dX3_couldOpen_39 : decode cX3_couldOpen 39 = .ok (.aload_n 0, 1) := by decide +kernel
theorem dX3_couldOpen_40 : decode cX3_couldOpen 40 = .ok (.getfield 21, 3) := by decide +kernel
theorem dX3_couldOpen_43 : decode cX3_couldOpen 43 = .ok (.getfield 69, 3) := by decide +kernel
theorem dX3_couldOpen_46 : decode cX3_couldOpen 46 = .ok (.if_icmp .lt 38, 3) := by decide +kernel
theorem dX3_couldOpen_49 : decode cX3_couldOpen 49 = .ok (.aload_n 0, 1) := by decide +kernel
theorem dX3_couldOpen_50 : decode cX3_couldOpen 50 = .ok (.invokevirtual 189, 3) := by decide +kernel
theorem dX3_couldOpen_53 : decode cX3_couldOpen 53 = .ok (.istore_n 2, 1) := by decide +kernel
theorem dX3_couldOpen_54 : decode cX3_couldOpen 54 = .ok (.iload_n 2, 1) := by decide +kernel
theorem dX3_couldOpen_55 : decode cX3_couldOpen 55 = .ok (.iconst (-1), 1) := by decide +kernel
theorem dX3_couldOpen_56 : decode cX3_couldOpen 56 = .ok (.if_icmp .ne 5, 3) := by decide +kernel
theorem dX3_couldOpen_59 : decode cX3_couldOpen 59 = .ok (.iconst 0, 1) := by decide +kernel
theorem dX3_couldOpen_60 : decode cX3_couldOpen 60 = .ok (.ireturn, 1) := by decide +kernel
theorem dX3_couldOpen_61 : decode cX3_couldOpen 61 = .ok (.aload_n 0, 1) := by decide +kernel
theorem dX3_couldOpen_62 : decode cX3_couldOpen 62 = .ok (.getfield 21, 3) := by decide +kernel
theorem dX3_couldOpen_65 : decode cX3_couldOpen 65 = .ok (.getfield 93, 3) := by decide +kernel
theorem dX3_couldOpen_68 : decode cX3_couldOpen 68 = .ok (.iload_n 2, 1) := by decide +kernel
theorem dX3_couldOpen_69 : decode cX3_couldOpen 69 = .ok (.iconst 2, 1) := by decide +kernel
theorem dX3_couldOpen_70 : decode cX3_couldOpen 70 = .ok (.iastore, 1) := by decide +kernel
theorem dX3_couldOpen_71 : decode cX3_couldOpen 71 = .ok (.aload_n 0, 1) := by decide +kernel
theorem dX3_couldOpen_72 : decode cX3_couldOpen 72 = .ok (.getfield 21, 3) := by decide +kernel
theorem dX3_couldOpen_75 : decode cX3_couldOpen 75 = .ok (.dup, 1) := by decide +kernel
theorem dX3_couldOpen_76 : decode cX3_couldOpen 76 = .ok (.getfield 192, 3) := by decide +kernel
theorem dX3_couldOpen_79 : decode cX3_couldOpen 79 = .ok (.iconst 1, 1) := by decide +kernel
theorem dX3_couldOpen_80 : decode cX3_couldOpen 80 = .ok (.iadd, 1) := by decide +kernel
theorem dX3_couldOpen_81 : decode cX3_couldOpen 81 = .ok (.putfield 192, 3) := by decide +kernel
theorem dX3_couldOpen_84 : decode cX3_couldOpen 84 = .ok (.aload_n 0, 1) := by decide +kernel
theorem dX3_couldOpen_85 : decode cX3_couldOpen 85 = .ok (.getfield 21, 3) := by decide +kernel
theorem dX3_couldOpen_88 : decode cX3_couldOpen 88 = .ok (.getfield 93, 3) := by decide +kernel
theorem dX3_couldOpen_91 : decode cX3_couldOpen 91 = .ok (.iload_n 1, 1) := by decide +kernel
theorem dX3_couldOpen_92 : decode cX3_couldOpen 92 = .ok (.iconst 1, 1) := by decide +kernel
theorem dX3_couldOpen_93 : decode cX3_couldOpen 93 = .ok (.iastore, 1) := by decide +kernel
theorem dX3_couldOpen_94 : decode cX3_couldOpen 94 = .ok (.iconst 1, 1) := by decide +kernel
theorem dX3_couldOpen_95 : decode cX3_couldOpen 95 = .ok (.ireturn, 1) := by decide +kernel
theorem dX3_longestIdle_0 : decode cX3_longestIdle 0 = .ok (.iconst 0, 1) := by decide +kernel
theorem dX3_longestIdle_1 : decode cX3_longestIdle 1 = .ok (.istore_n 1, 1) := by decide +kernel
theorem dX3_longestIdle_2 : decode cX3_longestIdle 2 = .ok (.iconst 0, 1) := by decide +kernel
theorem dX3_longestIdle_3 : decode cX3_longestIdle 3 = .ok (.istore_n 2, 1) := by decide +kernel
theorem dX3_longestIdle_4 : decode cX3_longestIdle 4 = .ok (.iload_n 2, 1) := by decide +kernel
theorem dX3_longestIdle_5 : decode cX3_longestIdle 5 = .ok (.aload_n 0, 1) := by decide +kernel
theorem dX3_longestIdle_6 : decode cX3_longestIdle 6 = .ok (.getfield 12, 3) := by decide +kernel
theorem dX3_longestIdle_9 : decode cX3_longestIdle 9 = .ok (.getfield 153, 3) := by decide +kernel
theorem dX3_longestIdle_12 : decode cX3_longestIdle 12 = .ok (.if_icmp .ge 52, 3) := by decide +kernel
theorem dX3_longestIdle_15 : decode cX3_longestIdle 15 = .ok (.aload_n 0, 1) := by decide +kernel
theorem dX3_longestIdle_16 : decode cX3_longestIdle 16 = .ok (.getfield 12, 3) := by decide +kernel
theorem dX3_longestIdle_19 : decode cX3_longestIdle 19 = .ok (.getfield 159, 3) := by decide +kernel
theorem dX3_longestIdle_22 : decode cX3_longestIdle 22 = .ok (.aload_n 0, 1) := by decide +kernel
theorem dX3_longestIdle_23 : decode cX3_longestIdle 23 = .ok (.getfield 12, 3) := by decide +kernel
theorem dX3_longestIdle_26 : decode cX3_longestIdle 26 = .ok (.getfield 156, 3) := by decide +kernel
theorem dX3_longestIdle_29 : decode cX3_longestIdle 29 = .ok (.iload_n 2, 1) := by decide +kernel
theorem dX3_longestIdle_30 : decode cX3_longestIdle 30 = .ok (.iaload, 1) := by decide +kernel
theorem dX3_longestIdle_31 : decode cX3_longestIdle 31 = .ok (.iaload, 1) := by decide +kernel
theorem dX3_longestIdle_32 : decode cX3_longestIdle 32 = .ok (.iconst 1, 1) := by decide +kernel
theorem dX3_longestIdle_33 : decode cX3_longestIdle 33 = .ok (.if_icmp .ne 25, 3) := by decide +kernel
theorem dX3_longestIdle_36 : decode cX3_longestIdle 36 = .ok (.iload_n 1, 1) := by decide +kernel
theorem dX3_longestIdle_37 : decode cX3_longestIdle 37 = .ok (.iconst 1, 1) := by decide +kernel
theorem dX3_longestIdle_38 : decode cX3_longestIdle 38 = .ok (.aload_n 0, 1) := by decide +kernel
theorem dX3_longestIdle_39 : decode cX3_longestIdle 39 = .ok (.getfield 12, 3) := by decide +kernel
theorem dX3_longestIdle_42 : decode cX3_longestIdle 42 = .ok (.getfield 144, 3) := by decide +kernel
theorem dX3_longestIdle_45 : decode cX3_longestIdle 45 = .ok (.aload_n 0, 1) := by decide +kernel
theorem dX3_longestIdle_46 : decode cX3_longestIdle 46 = .ok (.getfield 12, 3) := by decide +kernel
theorem dX3_longestIdle_49 : decode cX3_longestIdle 49 = .ok (.getfield 156, 3) := by decide +kernel
theorem dX3_longestIdle_52 : decode cX3_longestIdle 52 = .ok (.iload_n 2, 1) := by decide +kernel
theorem dX3_longestIdle_53 : decode cX3_longestIdle 53 = .ok (.iaload, 1) := by decide +kernel
theorem dX3_longestIdle_54 : decode cX3_longestIdle 54 = .ok (.iaload, 1) := by decide +kernel
theorem dX3_longestIdle_55 : decode cX3_longestIdle 55 = .ok (.ishl, 1) := by decide +kernel
theorem dX3_longestIdle_56 : decode cX3_longestIdle 56 = .ok (.ior, 1) := by decide +kernel
theorem dX3_longestIdle_57 : decode cX3_longestIdle 57 = .ok (.istore_n 1, 1) := by decide +kernel
theorem dX3_longestIdle_58 : decode cX3_longestIdle 58 = .ok (.iinc 2 1, 3) := by decide +kernel
theorem dX3_longestIdle_61 : decode cX3_longestIdle 61 = .ok (.goto (-57), 3) := by decide +kernel
theorem dX3_longestIdle_64 : decode cX3_longestIdle 64 = .ok (.iconst (-1), 1) := by decide +kernel
theorem dX3_longestIdle_65 : decode cX3_longestIdle 65 = .ok (.istore_n 2, 1) := by decide +kernel
theorem dX3_longestIdle_66 : decode cX3_longestIdle 66 = .ok (.iconst 0, 1) := by decide +kernel
theorem dX3_longestIdle_67 : decode cX3_longestIdle 67 = .ok (.istore_n 3, 1) := by decide +kernel
theorem dX3_longestIdle_68 : decode cX3_longestIdle 68 = .ok (.iload_n 3, 1) := by decide +kernel
theorem dX3_longestIdle_69 : decode cX3_longestIdle 69 = .ok (.bipush 8, 2) := by decide +kernel
theorem dX3_longestIdle_71 : decode cX3_longestIdle 71 = .ok (.if_icmp .ge 70, 3) := by decide +kernel
theorem dX3_longestIdle_74 : decode cX3_longestIdle 74 = .ok (.aload_n 0, 1) := by decide +kernel
theorem dX3_longestIdle_75 : decode cX3_longestIdle 75 = .ok (.getfield 21, 3) := by decide +kernel
theorem dX3_longestIdle_78 : decode cX3_longestIdle 78 = .ok (.getfield 93, 3) := by decide +kernel
theorem dX3_longestIdle_81 : decode cX3_longestIdle 81 = .ok (.iload_n 3, 1) := by decide +kernel
theorem dX3_longestIdle_82 : decode cX3_longestIdle 82 = .ok (.iaload, 1) := by decide +kernel
theorem dX3_longestIdle_83 : decode cX3_longestIdle 83 = .ok (.iconst 1, 1) := by decide +kernel
theorem dX3_longestIdle_84 : decode cX3_longestIdle 84 = .ok (.if_icmp .ne 15, 3) := by decide +kernel
theorem dX3_longestIdle_87 : decode cX3_longestIdle 87 = .ok (.iload_n 1, 1) := by decide +kernel
theorem dX3_longestIdle_88 : decode cX3_longestIdle 88 = .ok (.iload_n 3, 1) := by decide +kernel
theorem dX3_longestIdle_89 : decode cX3_longestIdle 89 = .ok (.ishr, 1) := by decide +kernel
theorem dX3_longestIdle_90 : decode cX3_longestIdle 90 = .ok (.iconst 1, 1) := by decide +kernel
theorem dX3_longestIdle_91 : decode cX3_longestIdle 91 = .ok (.iand, 1) := by decide +kernel
theorem dX3_longestIdle_92 : decode cX3_longestIdle 92 = .ok (.ifCond .ne 7, 3) := by decide +kernel
theorem dX3_longestIdle_95 : decode cX3_longestIdle 95 = .ok (.iconst 1, 1) := by decide +kernel
theorem dX3_longestIdle_96 : decode cX3_longestIdle 96 = .ok (.goto 4, 3) := by decide +kernel
theorem dX3_longestIdle_99 : decode cX3_longestIdle 99 = .ok (.iconst 0, 1) := by decide +kernel
theorem dX3_longestIdle_100 : decode cX3_longestIdle 100 = .ok (.istore 4, 2) := by decide +kernel
theorem dX3_longestIdle_102 : decode cX3_longestIdle 102 = .ok (.iload 4, 2) := by decide +kernel
theorem dX3_longestIdle_104 : decode cX3_longestIdle 104 = .ok (.ifCond .eq 31, 3) := by decide +kernel
theorem dX3_longestIdle_107 : decode cX3_longestIdle 107 = .ok (.iload_n 2, 1) := by decide +kernel
theorem dX3_longestIdle_108 : decode cX3_longestIdle 108 = .ok (.iconst (-1), 1) := by decide +kernel
theorem dX3_longestIdle_109 : decode cX3_longestIdle 109 = .ok (.if_icmp .eq 24, 3) := by decide +kernel
theorem dX3_longestIdle_112 : decode cX3_longestIdle 112 = .ok (.aload_n 0, 1) := by decide +kernel
theorem dX3_longestIdle_113 : decode cX3_longestIdle 113 = .ok (.getfield 21, 3) := by decide +kernel
theorem dX3_longestIdle_116 : decode cX3_longestIdle 116 = .ok (.getfield 195, 3) := by decide +kernel
theorem dX3_longestIdle_119 : decode cX3_longestIdle 119 = .ok (.iload_n 3, 1) := by decide +kernel
theorem dX3_longestIdle_120 : decode cX3_longestIdle 120 = .ok (.iaload, 1) := by decide +kernel
theorem dX3_longestIdle_121 : decode cX3_longestIdle 121 = .ok (.aload_n 0, 1) := by decide +kernel
theorem dX3_longestIdle_122 : decode cX3_longestIdle 122 = .ok (.getfield 21, 3) := by decide +kernel
theorem dX3_longestIdle_125 : decode cX3_longestIdle 125 = .ok (.getfield 195, 3) := by decide +kernel
theorem dX3_longestIdle_128 : decode cX3_longestIdle 128 = .ok (.iload_n 2, 1) := by decide +kernel
theorem dX3_longestIdle_129 : decode cX3_longestIdle 129 = .ok (.iaload, 1) := by decide +kernel
theorem dX3_longestIdle_130 : decode cX3_longestIdle 130 = .ok (.if_icmp .ge 5, 3) := by decide +kernel
theorem dX3_longestIdle_133 : decode cX3_longestIdle 133 = .ok (.iload_n 3, 1) := by decide +kernel
theorem dX3_longestIdle_134 : decode cX3_longestIdle 134 = .ok (.istore_n 2, 1) := by decide +kernel
theorem dX3_longestIdle_135 : decode cX3_longestIdle 135 = .ok (.iinc 3 1, 3) := by decide +kernel
theorem dX3_longestIdle_138 : decode cX3_longestIdle 138 = .ok (.goto (-70), 3) := by decide +kernel
theorem dX3_longestIdle_141 : decode cX3_longestIdle 141 = .ok (.iload_n 2, 1) := by decide +kernel
theorem dX3_longestIdle_142 : decode cX3_longestIdle 142 = .ok (.ireturn, 1) := by decide +kernel
theorem dX3_ticksUntilTold_0 : decode cX3_ticksUntilTold 0 = .ok (.iconst 1, 1) := by decide +kernel
theorem dX3_ticksUntilTold_1 : decode cX3_ticksUntilTold 1 = .ok (.istore_n 2, 1) := by decide +kernel
theorem dX3_ticksUntilTold_2 : decode cX3_ticksUntilTold 2 = .ok (.iload_n 2, 1) := by decide +kernel
theorem dX3_ticksUntilTold_3 : decode cX3_ticksUntilTold 3 = .ok (.sipush 999, 3) := by decide +kernel
theorem dX3_ticksUntilTold_6 : decode cX3_ticksUntilTold 6 = .ok (.if_icmp .gt 55, 3) := by decide +kernel
theorem dX3_ticksUntilTold_9 : decode cX3_ticksUntilTold 9 = .ok (.aload_n 0, 1) := by decide +kernel
theorem dX3_ticksUntilTold_10 : decode cX3_ticksUntilTold 10 = .ok (.invokevirtual 132, 3) := by decide +kernel
theorem dX3_ticksUntilTold_13 : decode cX3_ticksUntilTold 13 = .ok (.aload_n 0, 1) := by decide +kernel
theorem dX3_ticksUntilTold_14 : decode cX3_ticksUntilTold 14 = .ok (.getfield 12, 3) := by decide +kernel
theorem dX3_ticksUntilTold_17 : decode cX3_ticksUntilTold 17 = .ok (.getfield 159, 3) := by decide +kernel
theorem dX3_ticksUntilTold_20 : decode cX3_ticksUntilTold 20 = .ok (.iload_n 1, 1) := by decide +kernel
theorem dX3_ticksUntilTold_21 : decode cX3_ticksUntilTold 21 = .ok (.iaload, 1) := by decide +kernel
theorem dX3_ticksUntilTold_22 : decode cX3_ticksUntilTold 22 = .ok (.iconst 2, 1) := by decide +kernel
theorem dX3_ticksUntilTold_23 : decode cX3_ticksUntilTold 23 = .ok (.if_icmp .ne 5, 3) := by decide +kernel
theorem dX3_ticksUntilTold_26 : decode cX3_ticksUntilTold 26 = .ok (.iload_n 2, 1) := by decide +kernel
theorem dX3_ticksUntilTold_27 : decode cX3_ticksUntilTold 27 = .ok (.ireturn, 1) := by decide +kernel
theorem dX3_ticksUntilTold_28 : decode cX3_ticksUntilTold 28 = .ok (.aload_n 0, 1) := by decide +kernel
theorem dX3_ticksUntilTold_29 : decode cX3_ticksUntilTold 29 = .ok (.getfield 12, 3) := by decide +kernel
theorem dX3_ticksUntilTold_32 : decode cX3_ticksUntilTold 32 = .ok (.getfield 159, 3) := by decide +kernel
theorem dX3_ticksUntilTold_35 : decode cX3_ticksUntilTold 35 = .ok (.iload_n 1, 1) := by decide +kernel
theorem dX3_ticksUntilTold_36 : decode cX3_ticksUntilTold 36 = .ok (.iaload, 1) := by decide +kernel
theorem dX3_ticksUntilTold_37 : decode cX3_ticksUntilTold 37 = .ok (.iconst 3, 1) := by decide +kernel
theorem dX3_ticksUntilTold_38 : decode cX3_ticksUntilTold 38 = .ok (.if_icmp .eq 14, 3) := by decide +kernel
theorem dX3_ticksUntilTold_41 : decode cX3_ticksUntilTold 41 = .ok (.aload_n 0, 1) := by decide +kernel
theorem dX3_ticksUntilTold_42 : decode cX3_ticksUntilTold 42 = .ok (.getfield 12, 3) := by decide +kernel
theorem dX3_ticksUntilTold_45 : decode cX3_ticksUntilTold 45 = .ok (.iconst 1, 1) := by decide +kernel
theorem dX3_ticksUntilTold_46 : decode cX3_ticksUntilTold 46 = .ok (.invokevirtual 176, 3) := by decide +kernel
theorem dX3_ticksUntilTold_49 : decode cX3_ticksUntilTold 49 = .ok (.ifCond .ne 6, 3) := by decide +kernel
theorem dX3_ticksUntilTold_52 : decode cX3_ticksUntilTold 52 = .ok (.bipush (-5), 2) := by decide +kernel
theorem dX3_ticksUntilTold_54 : decode cX3_ticksUntilTold 54 = .ok (.ireturn, 1) := by decide +kernel
theorem dX3_ticksUntilTold_55 : decode cX3_ticksUntilTold 55 = .ok (.iinc 2 1, 3) := by decide +kernel
theorem dX3_ticksUntilTold_58 : decode cX3_ticksUntilTold 58 = .ok (.goto (-56), 3) := by decide +kernel
theorem dX3_ticksUntilTold_61 : decode cX3_ticksUntilTold 61 = .ok (.bipush (-5), 2) := by decide +kernel
theorem dX3_ticksUntilTold_63 : decode cX3_ticksUntilTold 63 = .ok (.ireturn, 1) := by decide +kernel
theorem dX3_blockAt_0 : decode cX3_blockAt 0 = .ok (.iload_n 1, 1) := by decide +kernel
theorem dX3_blockAt_1 : decode cX3_blockAt 1 = .ok (.invokestatic 86, 3) := by decide +kernel
theorem dX3_blockAt_4 : decode cX3_blockAt 4 = .ok (.ifCond .ne 5, 3) := by decide +kernel
theorem dX3_blockAt_7 : decode cX3_blockAt 7 = .ok (.iconst (-1), 1) := by decide +kernel
theorem dX3_blockAt_8 : decode cX3_blockAt 8 = .ok (.ireturn, 1) := by decide +kernel
theorem dX3_blockAt_9 : decode cX3_blockAt 9 = .ok (.iload_n 2, 1) := by decide +kernel
theorem dX3_blockAt_10 : decode cX3_blockAt 10 = .ok (.ifCond .ge 6, 3) := by decide +kernel
theorem dX3_blockAt_13 : decode cX3_blockAt 13 = .ok (.bipush (-2), 2) := by decide +kernel
theorem dX3_blockAt_15 : decode cX3_blockAt 15 = .ok (.ireturn, 1) := by decide +kernel
theorem dX3_blockAt_16 : decode cX3_blockAt 16 = .ok (.aload_n 0, 1) := by decide +kernel
theorem dX3_blockAt_17 : decode cX3_blockAt 17 = .ok (.getfield 12, 3) := by decide +kernel
theorem dX3_blockAt_20 : decode cX3_blockAt 20 = .ok (.iload_n 1, 1) := by decide +kernel
theorem dX3_blockAt_21 : decode cX3_blockAt 21 = .ok (.aload_n 0, 1) := by decide +kernel
theorem dX3_blockAt_22 : decode cX3_blockAt 22 = .ok (.getfield 21, 3) := by decide +kernel
theorem dX3_blockAt_25 : decode cX3_blockAt 25 = .ok (.getfield 113, 3) := by decide +kernel
theorem dX3_blockAt_28 : decode cX3_blockAt 28 = .ok (.iload_n 1, 1) := by decide +kernel
theorem dX3_blockAt_29 : decode cX3_blockAt 29 = .ok (.iaload, 1) := by decide +kernel
theorem dX3_blockAt_30 : decode cX3_blockAt 30 = .ok (.iload_n 2, 1) := by decide +kernel
theorem dX3_blockAt_31 : decode cX3_blockAt 31 = .ok (.invokevirtual 198, 3) := by decide +kernel
theorem dX3_blockAt_34 : decode cX3_blockAt 34 = .ok (.istore_n 3, 1) := by decide +kernel
theorem dX3_blockAt_35 : decode cX3_blockAt 35 = .ok (.iload_n 3, 1) := by decide +kernel
theorem dX3_blockAt_36 : decode cX3_blockAt 36 = .ok (.iconst (-1), 1) := by decide +kernel
theorem dX3_blockAt_37 : decode cX3_blockAt 37 = .ok (.if_icmp .ne 6, 3) := by decide +kernel
theorem dX3_blockAt_40 : decode cX3_blockAt 40 = .ok (.bipush (-5), 2) := by decide +kernel
theorem dX3_blockAt_42 : decode cX3_blockAt 42 = .ok (.ireturn, 1) := by decide +kernel
theorem dX3_blockAt_43 : decode cX3_blockAt 43 = .ok (.aload_n 0, 1) := by decide +kernel
theorem dX3_blockAt_44 : decode cX3_blockAt 44 = .ok (.getfield 12, 3) := by decide +kernel
theorem dX3_blockAt_47 : decode cX3_blockAt 47 = .ok (.getfield 159, 3) := by decide +kernel
theorem dX3_blockAt_50 : decode cX3_blockAt 50 = .ok (.iload_n 3, 1) := by decide +kernel
theorem dX3_blockAt_51 : decode cX3_blockAt 51 = .ok (.iaload, 1) := by decide +kernel
theorem dX3_blockAt_52 : decode cX3_blockAt 52 = .ok (.iconst 1, 1) := by decide +kernel
theorem dX3_blockAt_53 : decode cX3_blockAt 53 = .ok (.if_icmp .ne 8, 3) := by decide +kernel
theorem dX3_blockAt_56 : decode cX3_blockAt 56 = .ok (.bipush (-4), 2) := by decide +kernel
theorem dX3_blockAt_58 : decode cX3_blockAt 58 = .ok (.goto 12, 3) := by decide +kernel
theorem dX3_blockAt_61 : decode cX3_blockAt 61 = .ok (.aload_n 0, 1) := by decide +kernel
theorem dX3_blockAt_62 : decode cX3_blockAt 62 = .ok (.getfield 12, 3) := by decide +kernel
theorem dX3_blockAt_65 : decode cX3_blockAt 65 = .ok (.getfield 201, 3) := by decide +kernel
theorem dX3_blockAt_68 : decode cX3_blockAt 68 = .ok (.iload_n 3, 1) := by decide +kernel
theorem dX3_blockAt_69 : decode cX3_blockAt 69 = .ok (.iaload, 1) := by decide +kernel
theorem dX3_blockAt_70 : decode cX3_blockAt 70 = .ok (.ireturn, 1) := by decide +kernel
theorem dX3_tellZone_0 : decode cX3_tellZone 0 = .ok (.iload_n 1, 1) := by decide +kernel
theorem dX3_tellZone_1 : decode cX3_tellZone 1 = .ok (.invokestatic 86, 3) := by decide +kernel
theorem dX3_tellZone_4 : decode cX3_tellZone 4 = .ok (.ifCond .ne 5, 3) := by decide +kernel
theorem dX3_tellZone_7 : decode cX3_tellZone 7 = .ok (.iconst (-1), 1) := by decide +kernel
theorem dX3_tellZone_8 : decode cX3_tellZone 8 = .ok (.ireturn, 1) := by decide +kernel
theorem dX3_tellZone_9 : decode cX3_tellZone 9 = .ok (.iload_n 2, 1) := by decide +kernel
theorem dX3_tellZone_10 : decode cX3_tellZone 10 = .ok (.tableswitch 144 0 8 #[50, 60, 70, 80, 90, 100, 118, 128, 138], 50) := by decide +kernel
theorem dX3_tellZone_60 : decode cX3_tellZone 60 = .ok (.aload_n 0, 1) := by decide +kernel
theorem dX3_tellZone_61 : decode cX3_tellZone 61 = .ok (.getfield 21, 3) := by decide +kernel
theorem dX3_tellZone_64 : decode cX3_tellZone 64 = .ok (.getfield 93, 3) := by decide +kernel
theorem dX3_tellZone_67 : decode cX3_tellZone 67 = .ok (.iload_n 1, 1) := by decide +kernel
theorem dX3_tellZone_68 : decode cX3_tellZone 68 = .ok (.iaload, 1) := by decide +kernel
theorem dX3_tellZone_69 : decode cX3_tellZone 69 = .ok (.ireturn, 1) := by decide +kernel
theorem dX3_tellZone_70 : decode cX3_tellZone 70 = .ok (.aload_n 0, 1) := by decide +kernel
theorem dX3_tellZone_71 : decode cX3_tellZone 71 = .ok (.getfield 21, 3) := by decide +kernel
theorem dX3_tellZone_74 : decode cX3_tellZone 74 = .ok (.getfield 96, 3) := by decide +kernel
theorem dX3_tellZone_77 : decode cX3_tellZone 77 = .ok (.iload_n 1, 1) := by decide +kernel
theorem dX3_tellZone_78 : decode cX3_tellZone 78 = .ok (.iaload, 1) := by decide +kernel
theorem dX3_tellZone_79 : decode cX3_tellZone 79 = .ok (.ireturn, 1) := by decide +kernel
theorem dX3_tellZone_80 : decode cX3_tellZone 80 = .ok (.aload_n 0, 1) := by decide +kernel
theorem dX3_tellZone_81 : decode cX3_tellZone 81 = .ok (.getfield 21, 3) := by decide +kernel
theorem dX3_tellZone_84 : decode cX3_tellZone 84 = .ok (.getfield 90, 3) := by decide +kernel
theorem dX3_tellZone_87 : decode cX3_tellZone 87 = .ok (.iload_n 1, 1) := by decide +kernel
theorem dX3_tellZone_88 : decode cX3_tellZone 88 = .ok (.iaload, 1) := by decide +kernel
theorem dX3_tellZone_89 : decode cX3_tellZone 89 = .ok (.ireturn, 1) := by decide +kernel
theorem dX3_tellZone_90 : decode cX3_tellZone 90 = .ok (.aload_n 0, 1) := by decide +kernel
theorem dX3_tellZone_91 : decode cX3_tellZone 91 = .ok (.getfield 21, 3) := by decide +kernel
theorem dX3_tellZone_94 : decode cX3_tellZone 94 = .ok (.getfield 204, 3) := by decide +kernel
theorem dX3_tellZone_97 : decode cX3_tellZone 97 = .ok (.iload_n 1, 1) := by decide +kernel
theorem dX3_tellZone_98 : decode cX3_tellZone 98 = .ok (.iaload, 1) := by decide +kernel
theorem dX3_tellZone_99 : decode cX3_tellZone 99 = .ok (.ireturn, 1) := by decide +kernel
theorem dX3_tellZone_100 : decode cX3_tellZone 100 = .ok (.aload_n 0, 1) := by decide +kernel
theorem dX3_tellZone_101 : decode cX3_tellZone 101 = .ok (.getfield 21, 3) := by decide +kernel
theorem dX3_tellZone_104 : decode cX3_tellZone 104 = .ok (.getfield 113, 3) := by decide +kernel
theorem dX3_tellZone_107 : decode cX3_tellZone 107 = .ok (.iload_n 1, 1) := by decide +kernel
theorem dX3_tellZone_108 : decode cX3_tellZone 108 = .ok (.iaload, 1) := by decide +kernel
theorem dX3_tellZone_109 : decode cX3_tellZone 109 = .ok (.ireturn, 1) := by decide +kernel
theorem dX3_tellZone_110 : decode cX3_tellZone 110 = .ok (.aload_n 0, 1) := by decide +kernel
theorem dX3_tellZone_111 : decode cX3_tellZone 111 = .ok (.getfield 12, 3) := by decide +kernel
theorem dX3_tellZone_114 : decode cX3_tellZone 114 = .ok (.iload_n 1, 1) := by decide +kernel
theorem dX3_tellZone_115 : decode cX3_tellZone 115 = .ok (.aload_n 0, 1) := by decide +kernel
theorem dX3_tellZone_116 : decode cX3_tellZone 116 = .ok (.getfield 21, 3) := by decide +kernel
theorem dX3_tellZone_119 : decode cX3_tellZone 119 = .ok (.getfield 113, 3) := by decide +kernel
theorem dX3_tellZone_122 : decode cX3_tellZone 122 = .ok (.iload_n 1, 1) := by decide +kernel
theorem dX3_tellZone_123 : decode cX3_tellZone 123 = .ok (.iaload, 1) := by decide +kernel
theorem dX3_tellZone_124 : decode cX3_tellZone 124 = .ok (.invokevirtual 116, 3) := by decide +kernel
theorem dX3_tellZone_127 : decode cX3_tellZone 127 = .ok (.ireturn, 1) := by decide +kernel
theorem dX3_tellZone_128 : decode cX3_tellZone 128 = .ok (.aload_n 0, 1) := by decide +kernel
theorem dX3_tellZone_129 : decode cX3_tellZone 129 = .ok (.getfield 12, 3) := by decide +kernel
theorem dX3_tellZone_132 : decode cX3_tellZone 132 = .ok (.iload_n 1, 1) := by decide +kernel
theorem dX3_tellZone_133 : decode cX3_tellZone 133 = .ok (.iconst 1, 1) := by decide +kernel
theorem dX3_tellZone_134 : decode cX3_tellZone 134 = .ok (.invokevirtual 126, 3) := by decide +kernel
theorem dX3_tellZone_137 : decode cX3_tellZone 137 = .ok (.ireturn, 1) := by decide +kernel
theorem dX3_tellZone_138 : decode cX3_tellZone 138 = .ok (.aload_n 0, 1) := by decide +kernel
theorem dX3_tellZone_139 : decode cX3_tellZone 139 = .ok (.getfield 12, 3) := by decide +kernel
theorem dX3_tellZone_142 : decode cX3_tellZone 142 = .ok (.iload_n 1, 1) := by decide +kernel
theorem dX3_tellZone_143 : decode cX3_tellZone 143 = .ok (.iconst 0, 1) := by decide +kernel
theorem dX3_tellZone_144 : decode cX3_tellZone 144 = .ok (.invokevirtual 126, 3) := by decide +kernel
theorem dX3_tellZone_147 : decode cX3_tellZone 147 = .ok (.ireturn, 1) := by decide +kernel
theorem dX3_tellZone_148 : decode cX3_tellZone 148 = .ok (.aload_n 0, 1) := by decide +kernel
theorem dX3_tellZone_149 : decode cX3_tellZone 149 = .ok (.iload_n 1, 1) := by decide +kernel
theorem dX3_tellZone_150 : decode cX3_tellZone 150 = .ok (.invokevirtual 207, 3) := by decide +kernel
theorem dX3_tellZone_153 : decode cX3_tellZone 153 = .ok (.ireturn, 1) := by decide +kernel
theorem dX3_tellZone_154 : decode cX3_tellZone 154 = .ok (.bipush (-2), 2) := by decide +kernel
theorem dX3_tellZone_156 : decode cX3_tellZone 156 = .ok (.ireturn, 1) := by decide +kernel
theorem dX3_readableFromStart_0 : decode cX3_readableFromStart 0 = .ok (.iconst 0, 1) := by decide +kernel
theorem dX3_readableFromStart_1 : decode cX3_readableFromStart 1 = .ok (.istore_n 2, 1) := by decide +kernel
theorem dX3_readableFromStart_2 : decode cX3_readableFromStart 2 = .ok (.iload_n 2, 1) := by decide +kernel
theorem dX3_readableFromStart_3 : decode cX3_readableFromStart 3 = .ok (.aload_n 0, 1) := by decide +kernel
theorem dX3_readableFromStart_4 : decode cX3_readableFromStart 4 = .ok (.getfield 21, 3) := by decide +kernel
theorem dX3_readableFromStart_7 : decode cX3_readableFromStart 7 = .ok (.getfield 204, 3) := by decide +kernel
theorem dX3_readableFromStart_10 : decode cX3_readableFromStart 10 = .ok (.iload_n 1, 1) := by decide +kernel
theorem dX3_readableFromStart_11 : decode cX3_readableFromStart 11 = .ok (.iaload, 1) := by decide +kernel
theorem dX3_readableFromStart_12 : decode cX3_readableFromStart 12 = .ok (.if_icmp .ge 18, 3) := by decide +kernel
theorem dX3_readableFromStart_15 : decode cX3_readableFromStart 15 = .ok (.aload_n 0, 1) := by decide +kernel
theorem dX3_readableFromStart_16 : decode cX3_readableFromStart 16 = .ok (.iload_n 1, 1) := by decide +kernel
theorem dX3_readableFromStart_17 : decode cX3_readableFromStart 17 = .ok (.iload_n 2, 1) := by decide +kernel
theorem dX3_readableFromStart_18 : decode cX3_readableFromStart 18 = .ok (.invokevirtual 210, 3) := by decide +kernel
theorem dX3_readableFromStart_21 : decode cX3_readableFromStart 21 = .ok (.ifCond .lt 9, 3) := by decide +kernel
theorem dX3_readableFromStart_24 : decode cX3_readableFromStart 24 = .ok (.iinc 2 1, 3) := by decide +kernel
theorem dX3_readableFromStart_27 : decode cX3_readableFromStart 27 = .ok (.goto (-25), 3) := by decide +kernel
theorem dX3_readableFromStart_30 : decode cX3_readableFromStart 30 = .ok (.iload_n 2, 1) := by decide +kernel
theorem dX3_readableFromStart_31 : decode cX3_readableFromStart 31 = .ok (.ireturn, 1) := by decide +kernel
theorem dX3_tellWriter_0 : decode cX3_tellWriter 0 = .ok (.iload_n 1, 1) := by decide +kernel
theorem dX3_tellWriter_1 : decode cX3_tellWriter 1 = .ok (.invokestatic 99, 3) := by decide +kernel
theorem dX3_tellWriter_4 : decode cX3_tellWriter 4 = .ok (.ifCond .ne 5, 3) := by decide +kernel
theorem dX3_tellWriter_7 : decode cX3_tellWriter 7 = .ok (.iconst (-1), 1) := by decide +kernel
theorem dX3_tellWriter_8 : decode cX3_tellWriter 8 = .ok (.ireturn, 1) := by decide +kernel
theorem dX3_tellWriter_9 : decode cX3_tellWriter 9 = .ok (.iload_n 2, 1) := by decide +kernel
theorem dX3_tellWriter_10 : decode cX3_tellWriter 10 = .ok (.tableswitch 92 0 5 #[38, 45, 55, 65, 75, 85], 38) := by decide +kernel
theorem dX3_tellWriter_48 : decode cX3_tellWriter 48 = .ok (.aload_n 0, 1) := by decide +kernel
theorem dX3_tellWriter_49 : decode cX3_tellWriter 49 = .ok (.getfield 25, 3) := by decide +kernel
theorem dX3_tellWriter_52 : decode cX3_tellWriter 52 = .ok (.iload_n 1, 1) := by decide +kernel
theorem dX3_tellWriter_53 : decode cX3_tellWriter 53 = .ok (.iaload, 1) := by decide +kernel
theorem dX3_tellWriter_54 : decode cX3_tellWriter 54 = .ok (.ireturn, 1) := by decide +kernel
theorem dX3_tellWriter_55 : decode cX3_tellWriter 55 = .ok (.aload_n 0, 1) := by decide +kernel
theorem dX3_tellWriter_56 : decode cX3_tellWriter 56 = .ok (.getfield 12, 3) := by decide +kernel
theorem dX3_tellWriter_59 : decode cX3_tellWriter 59 = .ok (.iload_n 1, 1) := by decide +kernel
theorem dX3_tellWriter_60 : decode cX3_tellWriter 60 = .ok (.iconst 0, 1) := by decide +kernel
theorem dX3_tellWriter_61 : decode cX3_tellWriter 61 = .ok (.invokevirtual 102, 3) := by decide +kernel
theorem dX3_tellWriter_64 : decode cX3_tellWriter 64 = .ok (.ireturn, 1) := by decide +kernel
theorem dX3_tellWriter_65 : decode cX3_tellWriter 65 = .ok (.aload_n 0, 1) := by decide +kernel
theorem dX3_tellWriter_66 : decode cX3_tellWriter 66 = .ok (.getfield 12, 3) := by decide +kernel
theorem dX3_tellWriter_69 : decode cX3_tellWriter 69 = .ok (.iload_n 1, 1) := by decide +kernel
theorem dX3_tellWriter_70 : decode cX3_tellWriter 70 = .ok (.iconst 1, 1) := by decide +kernel
theorem dX3_tellWriter_71 : decode cX3_tellWriter 71 = .ok (.invokevirtual 102, 3) := by decide +kernel
theorem dX3_tellWriter_74 : decode cX3_tellWriter 74 = .ok (.ireturn, 1) := by decide +kernel
theorem dX3_tellWriter_75 : decode cX3_tellWriter 75 = .ok (.aload_n 0, 1) := by decide +kernel
theorem dX3_tellWriter_76 : decode cX3_tellWriter 76 = .ok (.getfield 12, 3) := by decide +kernel
theorem dX3_tellWriter_79 : decode cX3_tellWriter 79 = .ok (.iload_n 1, 1) := by decide +kernel
theorem dX3_tellWriter_80 : decode cX3_tellWriter 80 = .ok (.iconst 2, 1) := by decide +kernel
theorem dX3_tellWriter_81 : decode cX3_tellWriter 81 = .ok (.invokevirtual 102, 3) := by decide +kernel
theorem dX3_tellWriter_84 : decode cX3_tellWriter 84 = .ok (.ireturn, 1) := by decide +kernel
theorem dX3_tellWriter_85 : decode cX3_tellWriter 85 = .ok (.aload_n 0, 1) := by decide +kernel
theorem dX3_tellWriter_86 : decode cX3_tellWriter 86 = .ok (.getfield 12, 3) := by decide +kernel
theorem dX3_tellWriter_89 : decode cX3_tellWriter 89 = .ok (.iload_n 1, 1) := by decide +kernel
theorem dX3_tellWriter_90 : decode cX3_tellWriter 90 = .ok (.iconst 3, 1) := by decide +kernel
theorem dX3_tellWriter_91 : decode cX3_tellWriter 91 = .ok (.invokevirtual 102, 3) := by decide +kernel
theorem dX3_tellWriter_94 : decode cX3_tellWriter 94 = .ok (.ireturn, 1) := by decide +kernel
theorem dX3_tellWriter_95 : decode cX3_tellWriter 95 = .ok (.aload_n 0, 1) := by decide +kernel
theorem dX3_tellWriter_96 : decode cX3_tellWriter 96 = .ok (.getfield 29, 3) := by decide +kernel
theorem dX3_tellWriter_99 : decode cX3_tellWriter 99 = .ok (.iload_n 1, 1) := by decide +kernel
theorem dX3_tellWriter_100 : decode cX3_tellWriter 100 = .ok (.iaload, 1) := by decide +kernel
theorem dX3_tellWriter_101 : decode cX3_tellWriter 101 = .ok (.ireturn, 1) := by decide +kernel
theorem dX3_tellWriter_102 : decode cX3_tellWriter 102 = .ok (.bipush (-2), 2) := by decide +kernel
theorem dX3_tellWriter_104 : decode cX3_tellWriter 104 = .ok (.ireturn, 1) := by decide +kernel
theorem dX3_tellNumber_0 : decode cX3_tellNumber 0 = .ok (.iload_n 1, 1) := by decide +kernel
theorem dX3_tellNumber_1 : decode cX3_tellNumber 1 = .ok (.tableswitch 193 0 13 #[71, 76, 84, 92, 97, 102, 111, 119, 127, 136, 145, 153, 177, 185], 71) := by decide +kernel
theorem dX3_tellNumber_72 : decode cX3_tellNumber 72 = .ok (.aload_n 0, 1) := by decide +kernel
theorem dX3_tellNumber_73 : decode cX3_tellNumber 73 = .ok (.getfield 42, 3) := by decide +kernel
theorem dX3_tellNumber_76 : decode cX3_tellNumber 76 = .ok (.ireturn, 1) := by decide +kernel
theorem dX3_tellNumber_77 : decode cX3_tellNumber 77 = .ok (.aload_n 0, 1) := by decide +kernel
theorem dX3_tellNumber_78 : decode cX3_tellNumber 78 = .ok (.getfield 21, 3) := by decide +kernel
theorem dX3_tellNumber_81 : decode cX3_tellNumber 81 = .ok (.getfield 69, 3) := by decide +kernel
theorem dX3_tellNumber_84 : decode cX3_tellNumber 84 = .ok (.ireturn, 1) := by decide +kernel
theorem dX3_tellNumber_85 : decode cX3_tellNumber 85 = .ok (.aload_n 0, 1) := by decide +kernel
theorem dX3_tellNumber_86 : decode cX3_tellNumber 86 = .ok (.getfield 21, 3) := by decide +kernel
theorem dX3_tellNumber_89 : decode cX3_tellNumber 89 = .ok (.getfield 79, 3) := by decide +kernel
theorem dX3_tellNumber_92 : decode cX3_tellNumber 92 = .ok (.ireturn, 1) := by decide +kernel
theorem dX3_tellNumber_93 : decode cX3_tellNumber 93 = .ok (.aload_n 0, 1) := by decide +kernel
theorem dX3_tellNumber_94 : decode cX3_tellNumber 94 = .ok (.getfield 35, 3) := by decide +kernel
theorem dX3_tellNumber_97 : decode cX3_tellNumber 97 = .ok (.ireturn, 1) := by decide +kernel
theorem dX3_tellNumber_98 : decode cX3_tellNumber 98 = .ok (.aload_n 0, 1) := by decide +kernel
theorem dX3_tellNumber_99 : decode cX3_tellNumber 99 = .ok (.getfield 39, 3) := by decide +kernel
theorem dX3_tellNumber_102 : decode cX3_tellNumber 102 = .ok (.ireturn, 1) := by decide +kernel
theorem dX3_tellNumber_103 : decode cX3_tellNumber 103 = .ok (.aload_n 0, 1) := by decide +kernel
theorem dX3_tellNumber_104 : decode cX3_tellNumber 104 = .ok (.getfield 21, 3) := by decide +kernel
theorem dX3_tellNumber_107 : decode cX3_tellNumber 107 = .ok (.iconst 1, 1) := by decide +kernel
theorem dX3_tellNumber_108 : decode cX3_tellNumber 108 = .ok (.invokevirtual 76, 3) := by decide +kernel
theorem dX3_tellNumber_111 : decode cX3_tellNumber 111 = .ok (.ireturn, 1) := by decide +kernel
theorem dX3_tellNumber_112 : decode cX3_tellNumber 112 = .ok (.aload_n 0, 1) := by decide +kernel
theorem dX3_tellNumber_113 : decode cX3_tellNumber 113 = .ok (.getfield 21, 3) := by decide +kernel
theorem dX3_tellNumber_116 : decode cX3_tellNumber 116 = .ok (.invokevirtual 82, 3) := by decide +kernel
theorem dX3_tellNumber_119 : decode cX3_tellNumber 119 = .ok (.ireturn, 1) := by decide +kernel
theorem dX3_tellNumber_120 : decode cX3_tellNumber 120 = .ok (.aload_n 0, 1) := by decide +kernel
theorem dX3_tellNumber_121 : decode cX3_tellNumber 121 = .ok (.getfield 12, 3) := by decide +kernel
theorem dX3_tellNumber_124 : decode cX3_tellNumber 124 = .ok (.getfield 106, 3) := by decide +kernel
theorem dX3_tellNumber_127 : decode cX3_tellNumber 127 = .ok (.ireturn, 1) := by decide +kernel
theorem dX3_tellNumber_128 : decode cX3_tellNumber 128 = .ok (.aload_n 0, 1) := by decide +kernel
theorem dX3_tellNumber_129 : decode cX3_tellNumber 129 = .ok (.getfield 12, 3) := by decide +kernel
theorem dX3_tellNumber_132 : decode cX3_tellNumber 132 = .ok (.iconst 0, 1) := by decide +kernel
theorem dX3_tellNumber_133 : decode cX3_tellNumber 133 = .ok (.invokevirtual 176, 3) := by decide +kernel
theorem dX3_tellNumber_136 : decode cX3_tellNumber 136 = .ok (.ireturn, 1) := by decide +kernel
theorem dX3_tellNumber_137 : decode cX3_tellNumber 137 = .ok (.aload_n 0, 1) := by decide +kernel
theorem dX3_tellNumber_138 : decode cX3_tellNumber 138 = .ok (.getfield 12, 3) := by decide +kernel
theorem dX3_tellNumber_141 : decode cX3_tellNumber 141 = .ok (.iconst 1, 1) := by decide +kernel
theorem dX3_tellNumber_142 : decode cX3_tellNumber 142 = .ok (.invokevirtual 176, 3) := by decide +kernel
theorem dX3_tellNumber_145 : decode cX3_tellNumber 145 = .ok (.ireturn, 1) := by decide +kernel
theorem dX3_tellNumber_146 : decode cX3_tellNumber 146 = .ok (.aload_n 0, 1) := by decide +kernel
theorem dX3_tellNumber_147 : decode cX3_tellNumber 147 = .ok (.getfield 12, 3) := by decide +kernel
theorem dX3_tellNumber_150 : decode cX3_tellNumber 150 = .ok (.getfield 129, 3) := by decide +kernel
theorem dX3_tellNumber_153 : decode cX3_tellNumber 153 = .ok (.ireturn, 1) := by decide +kernel
theorem dX3_tellNumber_154 : decode cX3_tellNumber 154 = .ok (.aload_n 0, 1) := by decide +kernel
theorem dX3_tellNumber_155 : decode cX3_tellNumber 155 = .ok (.getfield 12, 3) := by decide +kernel
theorem dX3_tellNumber_158 : decode cX3_tellNumber 158 = .ok (.getfield 106, 3) := by decide +kernel
theorem dX3_tellNumber_161 : decode cX3_tellNumber 161 = .ok (.aload_n 0, 1) := by decide +kernel
theorem dX3_tellNumber_162 : decode cX3_tellNumber 162 = .ok (.getfield 12, 3) := by decide +kernel
theorem dX3_tellNumber_165 : decode cX3_tellNumber 165 = .ok (.getfield 129, 3) := by decide +kernel
theorem dX3_tellNumber_168 : decode cX3_tellNumber 168 = .ok (.isub, 1) := by decide +kernel
theorem dX3_tellNumber_169 : decode cX3_tellNumber 169 = .ok (.aload_n 0, 1) := by decide +kernel
theorem dX3_tellNumber_170 : decode cX3_tellNumber 170 = .ok (.getfield 12, 3) := by decide +kernel
theorem dX3_tellNumber_173 : decode cX3_tellNumber 173 = .ok (.getfield 153, 3) := by decide +kernel
theorem dX3_tellNumber_176 : decode cX3_tellNumber 176 = .ok (.isub, 1) := by decide +kernel
theorem dX3_tellNumber_177 : decode cX3_tellNumber 177 = .ok (.ireturn, 1) := by decide +kernel
theorem dX3_tellNumber_178 : decode cX3_tellNumber 178 = .ok (.aload_n 0, 1) := by decide +kernel
theorem dX3_tellNumber_179 : decode cX3_tellNumber 179 = .ok (.getfield 21, 3) := by decide +kernel
theorem dX3_tellNumber_182 : decode cX3_tellNumber 182 = .ok (.getfield 192, 3) := by decide +kernel
theorem dX3_tellNumber_185 : decode cX3_tellNumber 185 = .ok (.ireturn, 1) := by decide +kernel
theorem dX3_tellNumber_186 : decode cX3_tellNumber 186 = .ok (.aload_n 0, 1) := by decide +kernel
theorem dX3_tellNumber_187 : decode cX3_tellNumber 187 = .ok (.getfield 21, 3) := by decide +kernel
theorem dX3_tellNumber_190 : decode cX3_tellNumber 190 = .ok (.getfield 147, 3) := by decide +kernel
theorem dX3_tellNumber_193 : decode cX3_tellNumber 193 = .ok (.ireturn, 1) := by decide +kernel
theorem dX3_tellNumber_194 : decode cX3_tellNumber 194 = .ok (.bipush (-2), 2) := by decide +kernel
theorem dX3_tellNumber_196 : decode cX3_tellNumber 196 = .ok (.ireturn, 1) := by decide +kernel
theorem dX4_init_0 : decode cX4_init 0 = .ok (.aload_n 0, 1) := by decide +kernel
theorem dX4_init_1 : decode cX4_init 1 = .ok (.invokespecial 3, 3) := by decide +kernel
theorem dX4_init_4 : decode cX4_init 4 = .ok (.aload_n 0, 1) := by decide +kernel
theorem dX4_init_5 : decode cX4_init 5 = .ok (.bipush 8, 2) := by decide +kernel
theorem dX4_init_7 : decode cX4_init 7 = .ok (.newarray .int, 2) := by decide +kernel
theorem dX4_init_9 : decode cX4_init 9 = .ok (.putfield 9, 3) := by decide +kernel
theorem dX4_init_12 : decode cX4_init 12 = .ok (.aload_n 0, 1) := by decide +kernel
theorem dX4_init_13 : decode cX4_init 13 = .ok (.bipush 8, 2) := by decide +kernel
theorem dX4_init_15 : decode cX4_init 15 = .ok (.newarray .int, 2) := by decide +kernel
theorem dX4_init_17 : decode cX4_init 17 = .ok (.putfield 15, 3) := by decide +kernel
theorem dX4_init_20 : decode cX4_init 20 = .ok (.aload_n 0, 1) := by decide +kernel
theorem dX4_init_21 : decode cX4_init 21 = .ok (.bipush 8, 2) := by decide +kernel
theorem dX4_init_23 : decode cX4_init 23 = .ok (.newarray .int, 2) := by decide +kernel
theorem dX4_init_25 : decode cX4_init 25 = .ok (.putfield 18, 3) := by decide +kernel
theorem dX4_init_28 : decode cX4_init 28 = .ok (.aload_n 0, 1) := by decide +kernel
theorem dX4_init_29 : decode cX4_init 29 = .ok (.bipush 8, 2) := by decide +kernel
theorem dX4_init_31 : decode cX4_init 31 = .ok (.newarray .int, 2) := by decide +kernel
theorem dX4_init_33 : decode cX4_init 33 = .ok (.putfield 21, 3) := by decide +kernel
theorem dX4_init_36 : decode cX4_init 36 = .ok (.aload_n 0, 1) := by decide +kernel
theorem dX4_init_37 : decode cX4_init 37 = .ok (.bipush 8, 2) := by decide +kernel
theorem dX4_init_39 : decode cX4_init 39 = .ok (.newarray .int, 2) := by decide +kernel
theorem dX4_init_41 : decode cX4_init 41 = .ok (.putfield 24, 3) := by decide +kernel
theorem dX4_init_44 : decode cX4_init 44 = .ok (.aload_n 0, 1) := by decide +kernel
theorem dX4_init_45 : decode cX4_init 45 = .ok (.bipush 8, 2) := by decide +kernel
theorem dX4_init_47 : decode cX4_init 47 = .ok (.newarray .int, 2) := by decide +kernel
theorem dX4_init_49 : decode cX4_init 49 = .ok (.putfield 27, 3) := by decide +kernel
theorem dX4_init_52 : decode cX4_init 52 = .ok (.aload_n 0, 1) := by decide +kernel
theorem dX4_init_53 : decode cX4_init 53 = .ok (.iconst 0, 1) := by decide +kernel
theorem dX4_init_54 : decode cX4_init 54 = .ok (.putfield 30, 3) := by decide +kernel
theorem dX4_init_57 : decode cX4_init 57 = .ok (.aload_n 0, 1) := by decide +kernel
theorem dX4_init_58 : decode cX4_init 58 = .ok (.iconst 2, 1) := by decide +kernel
theorem dX4_init_59 : decode cX4_init 59 = .ok (.putfield 34, 3) := by decide +kernel
theorem dX4_init_62 : decode cX4_init 62 = .ok (.aload_n 0, 1) := by decide +kernel
theorem dX4_init_63 : decode cX4_init 63 = .ok (.iconst 4, 1) := by decide +kernel
theorem dX4_init_64 : decode cX4_init 64 = .ok (.putfield 37, 3) := by decide +kernel
theorem dX4_init_67 : decode cX4_init 67 = .ok (.aload_n 0, 1) := by decide +kernel
theorem dX4_init_68 : decode cX4_init 68 = .ok (.iconst 0, 1) := by decide +kernel
theorem dX4_init_69 : decode cX4_init 69 = .ok (.putfield 40, 3) := by decide +kernel
theorem dX4_init_72 : decode cX4_init 72 = .ok (.aload_n 0, 1) := by decide +kernel
theorem dX4_init_73 : decode cX4_init 73 = .ok (.iconst 0, 1) := by decide +kernel
theorem dX4_init_74 : decode cX4_init 74 = .ok (.putfield 43, 3) := by decide +kernel
theorem dX4_init_77 : decode cX4_init 77 = .ok (.iconst 0, 1) := by decide +kernel
theorem dX4_init_78 : decode cX4_init 78 = .ok (.istore_n 1, 1) := by decide +kernel
theorem dX4_init_79 : decode cX4_init 79 = .ok (.iload_n 1, 1) := by decide +kernel
theorem dX4_init_80 : decode cX4_init 80 = .ok (.bipush 8, 2) := by decide +kernel
theorem dX4_init_82 : decode cX4_init 82 = .ok (.if_icmp .ge 35, 3) := by decide +kernel
theorem dX4_init_85 : decode cX4_init 85 = .ok (.aload_n 0, 1) := by decide +kernel
theorem dX4_init_86 : decode cX4_init 86 = .ok (.getfield 9, 3) := by decide +kernel
theorem dX4_init_89 : decode cX4_init 89 = .ok (.iload_n 1, 1) := by decide +kernel
theorem dX4_init_90 : decode cX4_init 90 = .ok (.iconst 0, 1) := by decide +kernel
theorem dX4_init_91 : decode cX4_init 91 = .ok (.iastore, 1) := by decide +kernel
theorem dX4_init_92 : decode cX4_init 92 = .ok (.aload_n 0, 1) := by decide +kernel
theorem dX4_init_93 : decode cX4_init 93 = .ok (.getfield 15, 3) := by decide +kernel
theorem dX4_init_96 : decode cX4_init 96 = .ok (.iload_n 1, 1) := by decide +kernel
theorem dX4_init_97 : decode cX4_init 97 = .ok (.bipush 8, 2) := by decide +kernel
theorem dX4_init_99 : decode cX4_init 99 = .ok (.iastore, 1) := by decide +kernel
theorem dX4_init_100 : decode cX4_init 100 = .ok (.aload_n 0, 1) := by decide +kernel
theorem dX4_init_101 : decode cX4_init 101 = .ok (.getfield 18, 3) := by decide +kernel
theorem dX4_init_104 : decode cX4_init 104 = .ok (.iload_n 1, 1) := by decide +kernel
theorem dX4_init_105 : decode cX4_init 105 = .ok (.iconst 2, 1) := by decide +kernel
theorem dX4_init_106 : decode cX4_init 106 = .ok (.iload_n 1, 1) := by decide +kernel
theorem dX4_init_107 : decode cX4_init 107 = .ok (.iconst 3, 1) := by decide +kernel
theorem dX4_init_108 : decode cX4_init 108 = .ok (.irem, 1) := by decide +kernel
theorem dX4_init_109 : decode cX4_init 109 = .ok (.iadd, 1) := by decide +kernel
theorem dX4_init_110 : decode cX4_init 110 = .ok (.iastore, 1) := by decide +kernel
theorem dX4_init_111 : decode cX4_init 111 = .ok (.iinc 1 1, 3) := by decide +kernel
theorem dX4_init_114 : decode cX4_init 114 = .ok (.goto (-35), 3) := by decide +kernel
theorem dX4_init_117 : decode cX4_init 117 = .ok (.return_, 1) := by decide +kernel
theorem dX4_copyFrom_0 : decode cX4_copyFrom 0 = .ok (.aload_n 1, 1) := by decide +kernel
theorem dX4_copyFrom_1 : decode cX4_copyFrom 1 = .ok (.getfield 9, 3) := by decide +kernel
theorem dX4_copyFrom_4 : decode cX4_copyFrom 4 = .ok (.aload_n 0, 1) := by decide +kernel
theorem dX4_copyFrom_5 : decode cX4_copyFrom 5 = .ok (.getfield 9, 3) := by decide +kernel
theorem dX4_copyFrom_8 : decode cX4_copyFrom 8 = .ok (.bipush 8, 2) := by decide +kernel
theorem dX4_copyFrom_10 : decode cX4_copyFrom 10 = .ok (.invokestatic 46, 3) := by decide +kernel
theorem dX4_copyFrom_13 : decode cX4_copyFrom 13 = .ok (.aload_n 1, 1) := by decide +kernel
theorem dX4_copyFrom_14 : decode cX4_copyFrom 14 = .ok (.getfield 15, 3) := by decide +kernel
theorem dX4_copyFrom_17 : decode cX4_copyFrom 17 = .ok (.aload_n 0, 1) := by decide +kernel
theorem dX4_copyFrom_18 : decode cX4_copyFrom 18 = .ok (.getfield 15, 3) := by decide +kernel
theorem dX4_copyFrom_21 : decode cX4_copyFrom 21 = .ok (.bipush 8, 2) := by decide +kernel
theorem dX4_copyFrom_23 : decode cX4_copyFrom 23 = .ok (.invokestatic 46, 3) := by decide +kernel
theorem dX4_copyFrom_26 : decode cX4_copyFrom 26 = .ok (.aload_n 1, 1) := by decide +kernel
theorem dX4_copyFrom_27 : decode cX4_copyFrom 27 = .ok (.getfield 18, 3) := by decide +kernel
theorem dX4_copyFrom_30 : decode cX4_copyFrom 30 = .ok (.aload_n 0, 1) := by decide +kernel
theorem dX4_copyFrom_31 : decode cX4_copyFrom 31 = .ok (.getfield 18, 3) := by decide +kernel
theorem dX4_copyFrom_34 : decode cX4_copyFrom 34 = .ok (.bipush 8, 2) := by decide +kernel
theorem dX4_copyFrom_36 : decode cX4_copyFrom 36 = .ok (.invokestatic 46, 3) := by decide +kernel
theorem dX4_copyFrom_39 : decode cX4_copyFrom 39 = .ok (.aload_n 1, 1) := by decide +kernel
theorem dX4_copyFrom_40 : decode cX4_copyFrom 40 = .ok (.getfield 21, 3) := by decide +kernel
theorem dX4_copyFrom_43 : decode cX4_copyFrom 43 = .ok (.aload_n 0, 1) := by decide +kernel
theorem dX4_copyFrom_44 : decode cX4_copyFrom 44 = .ok (.getfield 21, 3) := by decide +kernel
theorem dX4_copyFrom_47 : decode cX4_copyFrom 47 = .ok (.bipush 8, 2) := by decide +kernel
theorem dX4_copyFrom_49 : decode cX4_copyFrom 49 = .ok (.invokestatic 46, 3) := by decide +kernel
theorem dX4_copyFrom_52 : decode cX4_copyFrom 52 = .ok (.aload_n 1, 1) := by decide +kernel
theorem dX4_copyFrom_53 : decode cX4_copyFrom 53 = .ok (.getfield 24, 3) := by decide +kernel
theorem dX4_copyFrom_56 : decode cX4_copyFrom 56 = .ok (.aload_n 0, 1) := by decide +kernel
theorem dX4_copyFrom_57 : decode cX4_copyFrom 57 = .ok (.getfield 24, 3) := by decide +kernel
theorem dX4_copyFrom_60 : decode cX4_copyFrom 60 = .ok (.bipush 8, 2) := by decide +kernel
theorem dX4_copyFrom_62 : decode cX4_copyFrom 62 = .ok (.invokestatic 46, 3) := by decide +kernel
theorem dX4_copyFrom_65 : decode cX4_copyFrom 65 = .ok (.aload_n 1, 1) := by decide +kernel
theorem dX4_copyFrom_66 : decode cX4_copyFrom 66 = .ok (.getfield 27, 3) := by decide +kernel
theorem dX4_copyFrom_69 : decode cX4_copyFrom 69 = .ok (.aload_n 0, 1) := by decide +kernel
theorem dX4_copyFrom_70 : decode cX4_copyFrom 70 = .ok (.getfield 27, 3) := by decide +kernel
theorem dX4_copyFrom_73 : decode cX4_copyFrom 73 = .ok (.bipush 8, 2) := by decide +kernel
theorem dX4_copyFrom_75 : decode cX4_copyFrom 75 = .ok (.invokestatic 46, 3) := by decide +kernel
theorem dX4_copyFrom_78 : decode cX4_copyFrom 78 = .ok (.aload_n 0, 1) := by decide +kernel
theorem dX4_copyFrom_79 : decode cX4_copyFrom 79 = .ok (.aload_n 1, 1) := by decide +kernel
theorem dX4_copyFrom_80 : decode cX4_copyFrom 80 = .ok (.getfield 30, 3) := by decide +kernel
theorem dX4_copyFrom_83 : decode cX4_copyFrom 83 = .ok (.putfield 30, 3) := by decide +kernel
theorem dX4_copyFrom_86 : decode cX4_copyFrom 86 = .ok (.aload_n 0, 1) := by decide +kernel
theorem dX4_copyFrom_87 : decode cX4_copyFrom 87 = .ok (.aload_n 1, 1) := by decide +kernel
theorem dX4_copyFrom_88 : decode cX4_copyFrom 88 = .ok (.getfield 34, 3) := by decide +kernel
theorem dX4_copyFrom_91 : decode cX4_copyFrom 91 = .ok (.putfield 34, 3) := by decide +kernel
theorem dX4_copyFrom_94 : decode cX4_copyFrom 94 = .ok (.aload_n 0, 1) := by decide +kernel
theorem dX4_copyFrom_95 : decode cX4_copyFrom 95 = .ok (.aload_n 1, 1) := by decide +kernel
theorem dX4_copyFrom_96 : decode cX4_copyFrom 96 = .ok (.getfield 37, 3) := by decide +kernel
theorem dX4_copyFrom_99 : decode cX4_copyFrom 99 = .ok (.putfield 37, 3) := by decide +kernel
theorem dX4_copyFrom_102 : decode cX4_copyFrom 102 = .ok (.aload_n 0, 1) := by decide +kernel
theorem dX4_copyFrom_103 : decode cX4_copyFrom 103 = .ok (.aload_n 1, 1) := by decide +kernel
theorem dX4_copyFrom_104 : decode cX4_copyFrom 104 = .ok (.getfield 40, 3) := by decide +kernel
theorem dX4_copyFrom_107 : decode cX4_copyFrom 107 = .ok (.putfield 40, 3) := by decide +kernel
theorem dX4_copyFrom_110 : decode cX4_copyFrom 110 = .ok (.aload_n 0, 1) := by decide +kernel
theorem dX4_copyFrom_111 : decode cX4_copyFrom 111 = .ok (.aload_n 1, 1) := by decide +kernel
theorem dX4_copyFrom_112 : decode cX4_copyFrom 112 = .ok (.getfield 43, 3) := by decide +kernel
theorem dX4_copyFrom_115 : decode cX4_copyFrom 115 = .ok (.putfield 43, 3) := by decide +kernel
theorem dX4_copyFrom_118 : decode cX4_copyFrom 118 = .ok (.return_, 1) := by decide +kernel
theorem dX4_inPhase_0 : decode cX4_inPhase 0 = .ok (.iconst 0, 1) := by decide +kernel
theorem dX4_inPhase_1 : decode cX4_inPhase 1 = .ok (.istore_n 2, 1) := by decide +kernel
theorem dX4_inPhase_2 : decode cX4_inPhase 2 = .ok (.iconst 0, 1) := by decide +kernel
theorem dX4_inPhase_3 : decode cX4_inPhase 3 = .ok (.istore_n 3, 1) := by decide +kernel
theorem dX4_inPhase_4 : decode cX4_inPhase 4 = .ok (.iload_n 3, 1) := by decide +kernel
theorem dX4_inPhase_5 : decode cX4_inPhase 5 = .ok (.bipush 8, 2) := by decide +kernel
theorem dX4_inPhase_7 : decode cX4_inPhase 7 = .ok (.if_icmp .ge 22, 3) := by decide +kernel
theorem dX4_inPhase_10 : decode cX4_inPhase 10 = .ok (.aload_n 0, 1) := by decide +kernel
theorem dX4_inPhase_11 : decode cX4_inPhase 11 = .ok (.getfield 9, 3) := by decide +kernel
theorem dX4_inPhase_14 : decode cX4_inPhase 14 = .ok (.iload_n 3, 1) := by decide +kernel
theorem dX4_inPhase_15 : decode cX4_inPhase 15 = .ok (.iaload, 1) := by decide +kernel
theorem dX4_inPhase_16 : decode cX4_inPhase 16 = .ok (.iload_n 1, 1) := by decide +kernel
theorem dX4_inPhase_17 : decode cX4_inPhase 17 = .ok (.if_icmp .ne 6, 3) := by decide +kernel
theorem dX4_inPhase_20 : decode cX4_inPhase 20 = .ok (.iinc 2 1, 3) := by decide +kernel
theorem dX4_inPhase_23 : decode cX4_inPhase 23 = .ok (.iinc 3 1, 3) := by decide +kernel
theorem dX4_inPhase_26 : decode cX4_inPhase 26 = .ok (.goto (-22), 3) := by decide +kernel
theorem dX4_inPhase_29 : decode cX4_inPhase 29 = .ok (.iload_n 2, 1) := by decide +kernel
theorem dX4_inPhase_30 : decode cX4_inPhase 30 = .ok (.ireturn, 1) := by decide +kernel
theorem dX4_inUse_0 : decode cX4_inUse 0 = .ok (.iconst 0, 1) := by decide +kernel
theorem dX4_inUse_1 : decode cX4_inUse 1 = .ok (.istore_n 1, 1) := by decide +kernel
theorem dX4_inUse_2 : decode cX4_inUse 2 = .ok (.iconst 0, 1) := by decide +kernel
theorem dX4_inUse_3 : decode cX4_inUse 3 = .ok (.istore_n 2, 1) := by decide +kernel
theorem dX4_inUse_4 : decode cX4_inUse 4 = .ok (.iload_n 2, 1) := by decide +kernel
theorem dX4_inUse_5 : decode cX4_inUse 5 = .ok (.bipush 8, 2) := by decide +kernel
theorem dX4_inUse_7 : decode cX4_inUse 7 = .ok (.if_icmp .ge 32, 3) := by decide +kernel
theorem dX4_inUse_10 : decode cX4_inUse 10 = .ok (.aload_n 0, 1) := by decide +kernel
theorem dX4_inUse_11 : decode cX4_inUse 11 = .ok (.getfield 9, 3) := by decide +kernel
theorem dX4_inUse_14 : decode cX4_inUse 14 = .ok (.iload_n 2, 1) := by decide +kernel
theorem dX4_inUse_15 : decode cX4_inUse 15 = .ok (.iaload, 1) := by decide +kernel
theorem dX4_inUse_16 : decode cX4_inUse 16 = .ok (.iconst 1, 1) := by decide +kernel
theorem dX4_inUse_17 : decode cX4_inUse 17 = .ok (.if_icmp .eq 13, 3) := by decide +kernel
theorem dX4_inUse_20 : decode cX4_inUse 20 = .ok (.aload_n 0, 1) := by decide +kernel
theorem dX4_inUse_21 : decode cX4_inUse 21 = .ok (.getfield 9, 3) := by decide +kernel
theorem dX4_inUse_24 : decode cX4_inUse 24 = .ok (.iload_n 2, 1) := by decide +kernel
theorem dX4_inUse_25 : decode cX4_inUse 25 = .ok (.iaload, 1) := by decide +kernel
theorem dX4_inUse_26 : decode cX4_inUse 26 = .ok (.iconst 2, 1) := by decide +kernel
theorem dX4_inUse_27 : decode cX4_inUse 27 = .ok (.if_icmp .ne 6, 3) := by decide +kernel
theorem dX4_inUse_30 : decode cX4_inUse 30 = .ok (.iinc 1 1, 3) := by decide +kernel
theorem dX4_inUse_33 : decode cX4_inUse 33 = .ok (.iinc 2 1, 3) := by decide +kernel
theorem dX4_inUse_36 : decode cX4_inUse 36 = .ok (.goto (-32), 3) := by decide +kernel
theorem dX4_inUse_39 : decode cX4_inUse 39 = .ok (.iload_n 1, 1) := by decide +kernel
theorem dX4_inUse_40 : decode cX4_inUse 40 = .ok (.ireturn, 1) := by decide +kernel
theorem dX4_takePlace_0 : decode cX4_takePlace 0 = .ok (.aload_n 0, 1) := by decide +kernel
theorem dX4_takePlace_1 : decode cX4_takePlace 1 = .ok (.getfield 21, 3) := by decide +kernel
theorem dX4_takePlace_4 : decode cX4_takePlace 4 = .ok (.iload_n 1, 1) := by decide +kernel
theorem dX4_takePlace_5 : decode cX4_takePlace 5 = .ok (.iaload, 1) := by decide +kernel
theorem dX4_takePlace_6 : decode cX4_takePlace 6 = .ok (.istore_n 2, 1) := by decide +kernel
theorem dX4_takePlace_7 : decode cX4_takePlace 7 = .ok (.aload_n 0, 1) := by decide +kernel
theorem dX4_takePlace_8 : decode cX4_takePlace 8 = .ok (.getfield 21, 3) := by decide +kernel
theorem dX4_takePlace_11 : decode cX4_takePlace 11 = .ok (.iload_n 1, 1) := by decide +kernel
theorem dX4_takePlace_12 : decode cX4_takePlace 12 = .ok (.iload_n 2, 1) := by decide +kernel
theorem dX4_takePlace_13 : decode cX4_takePlace 13 = .ok (.iconst 1, 1) := by decide +kernel
theorem dX4_takePlace_14 : decode cX4_takePlace 14 = .ok (.iadd, 1) := by decide +kernel
theorem dX4_takePlace_15 : decode cX4_takePlace 15 = .ok (.iastore, 1) := by decide +kernel
theorem dX4_takePlace_16 : decode cX4_takePlace 16 = .ok (.aload_n 0, 1) := by decide +kernel
theorem dX4_takePlace_17 : decode cX4_takePlace 17 = .ok (.getfield 21, 3) := by decide +kernel
theorem dX4_takePlace_20 : decode cX4_takePlace 20 = .ok (.iload_n 1, 1) := by decide +kernel
theorem dX4_takePlace_21 : decode cX4_takePlace 21 = .ok (.iaload, 1) := by decide +kernel
theorem dX4_takePlace_22 : decode cX4_takePlace 22 = .ok (.aload_n 0, 1) := by decide +kernel
theorem dX4_takePlace_23 : decode cX4_takePlace 23 = .ok (.getfield 15, 3) := by decide +kernel
theorem dX4_takePlace_26 : decode cX4_takePlace 26 = .ok (.iload_n 1, 1) := by decide +kernel
theorem dX4_takePlace_27 : decode cX4_takePlace 27 = .ok (.iaload, 1) := by decide +kernel
theorem dX4_takePlace_28 : decode cX4_takePlace 28 = .ok (.if_icmp .lt 10, 3) := by decide +kernel
theorem dX4_takePlace_31 : decode cX4_takePlace 31 = .ok (.aload_n 0, 1) := by decide +kernel
theorem dX4_takePlace_32 : decode cX4_takePlace 32 = .ok (.getfield 9, 3) := by decide +kernel
theorem dX4_takePlace_35 : decode cX4_takePlace 35 = .ok (.iload_n 1, 1) := by decide +kernel
theorem dX4_takePlace_36 : decode cX4_takePlace 36 = .ok (.iconst 3, 1) := by decide +kernel
theorem dX4_takePlace_37 : decode cX4_takePlace 37 = .ok (.iastore, 1) := by decide +kernel
theorem dX4_takePlace_38 : decode cX4_takePlace 38 = .ok (.aload_n 0, 1) := by decide +kernel
theorem dX4_takePlace_39 : decode cX4_takePlace 39 = .ok (.dup, 1) := by decide +kernel
theorem dX4_takePlace_40 : decode cX4_takePlace 40 = .ok (.getfield 30, 3) := by decide +kernel
theorem dX4_takePlace_43 : decode cX4_takePlace 43 = .ok (.iconst 1, 1) := by decide +kernel
theorem dX4_takePlace_44 : decode cX4_takePlace 44 = .ok (.iadd, 1) := by decide +kernel
theorem dX4_takePlace_45 : decode cX4_takePlace 45 = .ok (.putfield 30, 3) := by decide +kernel
theorem dX4_takePlace_48 : decode cX4_takePlace 48 = .ok (.aload_n 0, 1) := by decide +kernel
theorem dX4_takePlace_49 : decode cX4_takePlace 49 = .ok (.getfield 27, 3) := by decide +kernel
theorem dX4_takePlace_52 : decode cX4_takePlace 52 = .ok (.iload_n 1, 1) := by decide +kernel
theorem dX4_takePlace_53 : decode cX4_takePlace 53 = .ok (.aload_n 0, 1) := by decide +kernel
theorem dX4_takePlace_54 : decode cX4_takePlace 54 = .ok (.getfield 30, 3) := by decide +kernel
theorem dX4_takePlace_57 : decode cX4_takePlace 57 = .ok (.iastore, 1) := by decide +kernel
theorem dX4_takePlace_58 : decode cX4_takePlace 58 = .ok (.iload_n 2, 1) := by decide +kernel
theorem dX4_takePlace_59 : decode cX4_takePlace 59 = .ok (.ireturn, 1) := by decide +kernel
theorem dX4_clear_0 : decode cX4_clear 0 = .ok (.aload_n 0, 1) := by decide +kernel
theorem dX4_clear_1 : decode cX4_clear 1 = .ok (.getfield 9, 3) := by decide +kernel
theorem dX4_clear_4 : decode cX4_clear 4 = .ok (.iload_n 1, 1) := by decide +kernel
theorem dX4_clear_5 : decode cX4_clear 5 = .ok (.iconst 0, 1) := by decide +kernel
theorem dX4_clear_6 : decode cX4_clear 6 = .ok (.iastore, 1) := by decide +kernel
theorem dX4_clear_7 : decode cX4_clear 7 = .ok (.aload_n 0, 1) := by decide +kernel
theorem dX4_clear_8 : decode cX4_clear 8 = .ok (.getfield 21, 3) := by decide +kernel
theorem dX4_clear_11 : decode cX4_clear 11 = .ok (.iload_n 1, 1) := by decide +kernel
theorem dX4_clear_12 : decode cX4_clear 12 = .ok (.iconst 0, 1) := by decide +kernel
theorem dX4_clear_13 : decode cX4_clear 13 = .ok (.iastore, 1) := by decide +kernel
theorem dX4_clear_14 : decode cX4_clear 14 = .ok (.aload_n 0, 1) := by decide +kernel
theorem dX4_clear_15 : decode cX4_clear 15 = .ok (.getfield 24, 3) := by decide +kernel
theorem dX4_clear_18 : decode cX4_clear 18 = .ok (.iload_n 1, 1) := by decide +kernel
theorem dX4_clear_19 : decode cX4_clear 19 = .ok (.dup2, 1) := by decide +kernel
theorem dX4_clear_20 : decode cX4_clear 20 = .ok (.iaload, 1) := by decide +kernel
theorem dX4_clear_21 : decode cX4_clear 21 = .ok (.iconst 1, 1) := by decide +kernel
theorem dX4_clear_22 : decode cX4_clear 22 = .ok (.iadd, 1) := by decide +kernel
theorem dX4_clear_23 : decode cX4_clear 23 = .ok (.iastore, 1) := by decide +kernel
theorem dX4_clear_24 : decode cX4_clear 24 = .ok (.return_, 1) := by decide +kernel
theorem dX5_init_0 : decode cX5_init 0 = .ok (.aload_n 0, 1) := by decide +kernel
theorem dX5_init_1 : decode cX5_init 1 = .ok (.invokespecial 3, 3) := by decide +kernel
theorem dX5_init_4 : decode cX5_init 4 = .ok (.aload_n 0, 1) := by decide +kernel
theorem dX5_init_5 : decode cX5_init 5 = .ok (.new 9, 3) := by decide +kernel
theorem dX5_init_8 : decode cX5_init 8 = .ok (.dup, 1) := by decide +kernel
theorem dX5_init_9 : decode cX5_init 9 = .ok (.invokespecial 11, 3) := by decide +kernel
theorem dX5_init_12 : decode cX5_init 12 = .ok (.putfield 12, 3) := by decide +kernel
theorem dX5_init_15 : decode cX5_init 15 = .ok (.aload_n 0, 1) := by decide +kernel
theorem dX5_init_16 : decode cX5_init 16 = .ok (.new 9, 3) := by decide +kernel
theorem dX5_init_19 : decode cX5_init 19 = .ok (.dup, 1) := by decide +kernel
theorem dX5_init_20 : decode cX5_init 20 = .ok (.invokespecial 11, 3) := by decide +kernel
theorem dX5_init_23 : decode cX5_init 23 = .ok (.putfield 16, 3) := by decide +kernel
theorem dX5_init_26 : decode cX5_init 26 = .ok (.aload_n 0, 1) := by decide +kernel
theorem dX5_init_27 : decode cX5_init 27 = .ok (.iconst 0, 1) := by decide +kernel
theorem dX5_init_28 : decode cX5_init 28 = .ok (.putfield 19, 3) := by decide +kernel
theorem dX5_init_31 : decode cX5_init 31 = .ok (.aload_n 0, 1) := by decide +kernel
theorem dX5_init_32 : decode cX5_init 32 = .ok (.new 23, 3) := by decide +kernel
theorem dX5_init_35 : decode cX5_init 35 = .ok (.dup, 1) := by decide +kernel
theorem dX5_init_36 : decode cX5_init 36 = .ok (.invokespecial 25, 3) := by decide +kernel
theorem dX5_init_39 : decode cX5_init 39 = .ok (.putfield 26, 3) := by decide +kernel
theorem dX5_init_42 : decode cX5_init 42 = .ok (.aload_n 0, 1) := by decide +kernel
theorem dX5_init_43 : decode cX5_init 43 = .ok (.new 30, 3) := by decide +kernel
theorem dX5_init_46 : decode cX5_init 46 = .ok (.dup, 1) := by decide +kernel
theorem dX5_init_47 : decode cX5_init 47 = .ok (.invokespecial 32, 3) := by decide +kernel
theorem dX5_init_50 : decode cX5_init 50 = .ok (.putfield 33, 3) := by decide +kernel
theorem dX5_init_53 : decode cX5_init 53 = .ok (.return_, 1) := by decide +kernel
theorem dX5_set_0 : decode cX5_set 0 = .ok (.aload_n 0, 1) := by decide +kernel
theorem dX5_set_1 : decode cX5_set 1 = .ok (.getfield 26, 3) := by decide +kernel
theorem dX5_set_4 : decode cX5_set 4 = .ok (.aload_n 0, 1) := by decide +kernel
theorem dX5_set_5 : decode cX5_set 5 = .ok (.getfield 12, 3) := by decide +kernel
theorem dX5_set_8 : decode cX5_set 8 = .ok (.invokevirtual 37, 3) := by decide +kernel
theorem dX5_set_11 : decode cX5_set 11 = .ok (.pop, 1) := by decide +kernel
theorem dX5_set_12 : decode cX5_set 12 = .ok (.aload_n 0, 1) := by decide +kernel
theorem dX5_set_13 : decode cX5_set 13 = .ok (.getfield 26, 3) := by decide +kernel
theorem dX5_set_16 : decode cX5_set 16 = .ok (.aload_n 0, 1) := by decide +kernel
theorem dX5_set_17 : decode cX5_set 17 = .ok (.getfield 12, 3) := by decide +kernel
theorem dX5_set_20 : decode cX5_set 20 = .ok (.iload_n 1, 1) := by decide +kernel
theorem dX5_set_21 : decode cX5_set 21 = .ok (.iload_n 2, 1) := by decide +kernel
theorem dX5_set_22 : decode cX5_set 22 = .ok (.invokevirtual 41, 3) := by decide +kernel
theorem dX5_set_25 : decode cX5_set 25 = .ok (.invokevirtual 45, 3) := by decide +kernel
theorem dX5_set_28 : decode cX5_set 28 = .ok (.ireturn, 1) := by decide +kernel
theorem dX5_setZone_0 : decode cX5_setZone 0 = .ok (.aload_n 0, 1) := by decide +kernel
theorem dX5_setZone_1 : decode cX5_setZone 1 = .ok (.getfield 26, 3) := by decide +kernel
theorem dX5_setZone_4 : decode cX5_setZone 4 = .ok (.aload_n 0, 1) := by decide +kernel
theorem dX5_setZone_5 : decode cX5_setZone 5 = .ok (.getfield 12, 3) := by decide +kernel
theorem dX5_setZone_8 : decode cX5_setZone 8 = .ok (.invokevirtual 37, 3) := by decide +kernel
theorem dX5_setZone_11 : decode cX5_setZone 11 = .ok (.pop, 1) := by decide +kernel
theorem dX5_setZone_12 : decode cX5_setZone 12 = .ok (.aload_n 0, 1) := by decide +kernel
theorem dX5_setZone_13 : decode cX5_setZone 13 = .ok (.getfield 26, 3) := by decide +kernel
theorem dX5_setZone_16 : decode cX5_setZone 16 = .ok (.iload_n 2, 1) := by decide +kernel
theorem dX5_setZone_17 : decode cX5_setZone 17 = .ok (.ifCond .eq 15, 3) := by decide +kernel
theorem dX5_setZone_20 : decode cX5_setZone 20 = .ok (.aload_n 0, 1) := by decide +kernel
theorem dX5_setZone_21 : decode cX5_setZone 21 = .ok (.getfield 12, 3) := by decide +kernel
theorem dX5_setZone_24 : decode cX5_setZone 24 = .ok (.iload_n 1, 1) := by decide +kernel
theorem dX5_setZone_25 : decode cX5_setZone 25 = .ok (.iload_n 3, 1) := by decide +kernel
theorem dX5_setZone_26 : decode cX5_setZone 26 = .ok (.invokevirtual 49, 3) := by decide +kernel
theorem dX5_setZone_29 : decode cX5_setZone 29 = .ok (.goto 12, 3) := by decide +kernel
theorem dX5_setZone_32 : decode cX5_setZone 32 = .ok (.aload_n 0, 1) := by decide +kernel
theorem dX5_setZone_33 : decode cX5_setZone 33 = .ok (.getfield 12, 3) := by decide +kernel
theorem dX5_setZone_36 : decode cX5_setZone 36 = .ok (.iload_n 1, 1) := by decide +kernel
theorem dX5_setZone_37 : decode cX5_setZone 37 = .ok (.iload_n 3, 1) := by decide +kernel
theorem dX5_setZone_38 : decode cX5_setZone 38 = .ok (.invokevirtual 52, 3) := by decide +kernel
theorem dX5_setZone_41 : decode cX5_setZone 41 = .ok (.invokevirtual 45, 3) := by decide +kernel
theorem dX5_setZone_44 : decode cX5_setZone 44 = .ok (.ireturn, 1) := by decide +kernel
theorem dX5_setWindow_0 : decode cX5_setWindow 0 = .ok (.aload_n 0, 1) := by decide +kernel
theorem dX5_setWindow_1 : decode cX5_setWindow 1 = .ok (.getfield 26, 3) := by decide +kernel
theorem dX5_setWindow_4 : decode cX5_setWindow 4 = .ok (.aload_n 0, 1) := by decide +kernel
theorem dX5_setWindow_5 : decode cX5_setWindow 5 = .ok (.getfield 12, 3) := by decide +kernel
theorem dX5_setWindow_8 : decode cX5_setWindow 8 = .ok (.invokevirtual 37, 3) := by decide +kernel
theorem dX5_setWindow_11 : decode cX5_setWindow 11 = .ok (.pop, 1) := by decide +kernel
theorem dX5_setWindow_12 : decode cX5_setWindow 12 = .ok (.aload_n 0, 1) := by decide +kernel
theorem dX5_setWindow_13 : decode cX5_setWindow 13 = .ok (.getfield 26, 3) := by decide +kernel
theorem dX5_setWindow_16 : decode cX5_setWindow 16 = .ok (.aload_n 0, 1) := by decide +kernel
theorem dX5_setWindow_17 : decode cX5_setWindow 17 = .ok (.getfield 12, 3) := by decide +kernel
theorem dX5_setWindow_20 : decode cX5_setWindow 20 = .ok (.iload_n 1, 1) := by decide +kernel
theorem dX5_setWindow_21 : decode cX5_setWindow 21 = .ok (.iload_n 2, 1) := by decide +kernel
theorem dX5_setWindow_22 : decode cX5_setWindow 22 = .ok (.invokevirtual 55, 3) := by decide +kernel
theorem dX5_setWindow_25 : decode cX5_setWindow 25 = .ok (.invokevirtual 45, 3) := by decide +kernel
theorem dX5_setWindow_28 : decode cX5_setWindow 28 = .ok (.ireturn, 1) := by decide +kernel
theorem dX5_append_0 : decode cX5_append 0 = .ok (.aload_n 0, 1) := by decide +kernel
theorem dX5_append_1 : decode cX5_append 1 = .ok (.getfield 26, 3) := by decide +kernel
theorem dX5_append_4 : decode cX5_append 4 = .ok (.aload_n 0, 1) := by decide +kernel
theorem dX5_append_5 : decode cX5_append 5 = .ok (.getfield 12, 3) := by decide +kernel
theorem dX5_append_8 : decode cX5_append 8 = .ok (.invokevirtual 37, 3) := by decide +kernel
theorem dX5_append_11 : decode cX5_append 11 = .ok (.pop, 1) := by decide +kernel
theorem dX5_append_12 : decode cX5_append 12 = .ok (.aload_n 0, 1) := by decide +kernel
theorem dX5_append_13 : decode cX5_append 13 = .ok (.getfield 26, 3) := by decide +kernel
theorem dX5_append_16 : decode cX5_append 16 = .ok (.aload_n 0, 1) := by decide +kernel
theorem dX5_append_17 : decode cX5_append 17 = .ok (.getfield 12, 3) := by decide +kernel
theorem dX5_append_20 : decode cX5_append 20 = .ok (.iload_n 1, 1) := by decide +kernel
theorem dX5_append_21 : decode cX5_append 21 = .ok (.iload_n 2, 1) := by decide +kernel
theorem dX5_append_22 : decode cX5_append 22 = .ok (.iload_n 3, 1) := by decide +kernel
theorem dX5_append_23 : decode cX5_append 23 = .ok (.invokevirtual 58, 3) := by decide +kernel
theorem dX5_append_26 : decode cX5_append 26 = .ok (.invokevirtual 45, 3) := by decide +kernel
theorem dX5_append_29 : decode cX5_append 29 = .ok (.ireturn, 1) := by decide +kernel
theorem dX5_reset_0 : decode cX5_reset 0 = .ok (.aload_n 0, 1) := by decide +kernel
theorem dX5_reset_1 : decode cX5_reset 1 = .ok (.getfield 26, 3) := by decide +kernel
theorem dX5_reset_4 : decode cX5_reset 4 = .ok (.aload_n 0, 1) := by decide +kernel
theorem dX5_reset_5 : decode cX5_reset 5 = .ok (.getfield 12, 3) := by decide +kernel
theorem dX5_reset_8 : decode cX5_reset 8 = .ok (.invokevirtual 37, 3) := by decide +kernel
theorem dX5_reset_11 : decode cX5_reset 11 = .ok (.pop, 1) := by decide +kernel
theorem dX5_reset_12 : decode cX5_reset 12 = .ok (.aload_n 0, 1) := by decide +kernel
theorem dX5_reset_13 : decode cX5_reset 13 = .ok (.getfield 26, 3) := by decide +kernel
theorem dX5_reset_16 : decode cX5_reset 16 = .ok (.aload_n 0, 1) := by decide +kernel
theorem dX5_reset_17 : decode cX5_reset 17 = .ok (.getfield 12, 3) := by decide +kernel
theorem dX5_reset_20 : decode cX5_reset 20 = .ok (.iload_n 1, 1) := by decide +kernel
theorem dX5_reset_21 : decode cX5_reset 21 = .ok (.invokevirtual 62, 3) := by decide +kernel
theorem dX5_reset_24 : decode cX5_reset 24 = .ok (.invokevirtual 45, 3) := by decide +kernel
theorem dX5_reset_27 : decode cX5_reset 27 = .ok (.ireturn, 1) := by decide +kernel
theorem dX5_finish_0 : decode cX5_finish 0 = .ok (.aload_n 0, 1) := by decide +kernel
theorem dX5_finish_1 : decode cX5_finish 1 = .ok (.getfield 26, 3) := by decide +kernel
theorem dX5_finish_4 : decode cX5_finish 4 = .ok (.aload_n 0, 1) := by decide +kernel
theorem dX5_finish_5 : decode cX5_finish 5 = .ok (.getfield 12, 3) := by decide +kernel
theorem dX5_finish_8 : decode cX5_finish 8 = .ok (.invokevirtual 37, 3) := by decide +kernel
theorem dX5_finish_11 : decode cX5_finish 11 = .ok (.pop, 1) := by decide +kernel
theorem dX5_finish_12 : decode cX5_finish 12 = .ok (.aload_n 0, 1) := by decide +kernel
theorem dX5_finish_13 : decode cX5_finish 13 = .ok (.getfield 26, 3) := by decide +kernel
theorem dX5_finish_16 : decode cX5_finish 16 = .ok (.aload_n 0, 1) := by decide +kernel
theorem dX5_finish_17 : decode cX5_finish 17 = .ok (.getfield 12, 3) := by decide +kernel
theorem dX5_finish_20 : decode cX5_finish 20 = .ok (.iload_n 1, 1) := by decide +kernel
theorem dX5_finish_21 : decode cX5_finish 21 = .ok (.invokevirtual 65, 3) := by decide +kernel
theorem dX5_finish_24 : decode cX5_finish 24 = .ok (.invokevirtual 45, 3) := by decide +kernel
theorem dX5_finish_27 : decode cX5_finish 27 = .ok (.ireturn, 1) := by decide +kernel
theorem dX5_close_0 : decode cX5_close 0 = .ok (.aload_n 0, 1) := by decide +kernel
theorem dX5_close_1 : decode cX5_close 1 = .ok (.getfield 26, 3) := by decide +kernel
theorem dX5_close_4 : decode cX5_close 4 = .ok (.aload_n 0, 1) := by decide +kernel
theorem dX5_close_5 : decode cX5_close 5 = .ok (.getfield 12, 3) := by decide +kernel
theorem dX5_close_8 : decode cX5_close 8 = .ok (.invokevirtual 37, 3) := by decide +kernel
theorem dX5_close_11 : decode cX5_close 11 = .ok (.pop, 1) := by decide +kernel
theorem dX5_close_12 : decode cX5_close 12 = .ok (.aload_n 0, 1) := by decide +kernel
theorem dX5_close_13 : decode cX5_close 13 = .ok (.getfield 26, 3) := by decide +kernel
theorem dX5_close_16 : decode cX5_close 16 = .ok (.aload_n 0, 1) := by decide +kernel
theorem dX5_close_17 : decode cX5_close 17 = .ok (.getfield 12, 3) := by decide +kernel
theorem dX5_close_20 : decode cX5_close 20 = .ok (.iload_n 1, 1) := by decide +kernel
theorem dX5_close_21 : decode cX5_close 21 = .ok (.invokevirtual 68, 3) := by decide +kernel
theorem dX5_close_24 : decode cX5_close 24 = .ok (.invokevirtual 45, 3) := by decide +kernel
theorem dX5_close_27 : decode cX5_close 27 = .ok (.ireturn, 1) := by decide +kernel
theorem dX5_pass_0 : decode cX5_pass 0 = .ok (.aload_n 0, 1) := by decide +kernel
theorem dX5_pass_1 : decode cX5_pass 1 = .ok (.getfield 26, 3) := by decide +kernel
theorem dX5_pass_4 : decode cX5_pass 4 = .ok (.aload_n 0, 1) := by decide +kernel
theorem dX5_pass_5 : decode cX5_pass 5 = .ok (.getfield 12, 3) := by decide +kernel
theorem dX5_pass_8 : decode cX5_pass 8 = .ok (.invokevirtual 37, 3) := by decide +kernel
theorem dX5_pass_11 : decode cX5_pass 11 = .ok (.pop, 1) := by decide +kernel
theorem dX5_pass_12 : decode cX5_pass 12 = .ok (.aload_n 0, 1) := by decide +kernel
theorem dX5_pass_13 : decode cX5_pass 13 = .ok (.getfield 26, 3) := by decide +kernel
theorem dX5_pass_16 : decode cX5_pass 16 = .ok (.aload_n 0, 1) := by decide +kernel
theorem dX5_pass_17 : decode cX5_pass 17 = .ok (.getfield 12, 3) := by decide +kernel
theorem dX5_pass_20 : decode cX5_pass 20 = .ok (.iload_n 1, 1) := by decide +kernel
theorem dX5_pass_21 : decode cX5_pass 21 = .ok (.invokevirtual 71, 3) := by decide +kernel
theorem dX5_pass_24 : decode cX5_pass 24 = .ok (.invokevirtual 45, 3) := by decide +kernel
theorem dX5_pass_27 : decode cX5_pass 27 = .ok (.ireturn, 1) := by decide +kernel
theorem dX5_undo_0 : decode cX5_undo 0 = .ok (.aload_n 0, 1) := by decide +kernel
theorem dX5_undo_1 : decode cX5_undo 1 = .ok (.getfield 26, 3) := by decide +kernel
theorem dX5_undo_4 : decode cX5_undo 4 = .ok (.aload_n 0, 1) := by decide +kernel
theorem dX5_undo_5 : decode cX5_undo 5 = .ok (.getfield 12, 3) := by decide +kernel
theorem dX5_undo_8 : decode cX5_undo 8 = .ok (.invokevirtual 99, 3) := by decide +kernel
theorem dX5_undo_11 : decode cX5_undo 11 = .ok (.ireturn, 1) := by decide +kernel
theorem dX5_read_0 : decode cX5_read 0 = .ok (.aload_n 0, 1) := by decide +kernel
theorem dX5_read_1 : decode cX5_read 1 = .ok (.getfield 12, 3) := by decide +kernel
theorem dX5_read_4 : decode cX5_read 4 = .ok (.iload_n 1, 1) := by decide +kernel
theorem dX5_read_5 : decode cX5_read 5 = .ok (.iload_n 2, 1) := by decide +kernel
theorem dX5_read_6 : decode cX5_read 6 = .ok (.invokevirtual 109, 3) := by decide +kernel
theorem dX5_read_9 : decode cX5_read 9 = .ok (.ireturn, 1) := by decide +kernel
theorem dX5_zone_0 : decode cX5_zone 0 = .ok (.aload_n 0, 1) := by decide +kernel
theorem dX5_zone_1 : decode cX5_zone 1 = .ok (.getfield 12, 3) := by decide +kernel
theorem dX5_zone_4 : decode cX5_zone 4 = .ok (.iload_n 1, 1) := by decide +kernel
theorem dX5_zone_5 : decode cX5_zone 5 = .ok (.iload_n 2, 1) := by decide +kernel
theorem dX5_zone_6 : decode cX5_zone 6 = .ok (.invokevirtual 112, 3) := by decide +kernel
theorem dX5_zone_9 : decode cX5_zone 9 = .ok (.ireturn, 1) := by decide +kernel
theorem dX5_appended_0 : decode cX5_appended 0 = .ok (.aload_n 0, 1) := by decide +kernel
theorem dX5_appended_1 : decode cX5_appended 1 = .ok (.getfield 12, 3) := by decide +kernel
theorem dX5_appended_4 : decode cX5_appended 4 = .ok (.getfield 115, 3) := by decide +kernel
theorem dX5_appended_7 : decode cX5_appended 7 = .ok (.iload_n 1, 1) := by decide +kernel
theorem dX5_appended_8 : decode cX5_appended 8 = .ok (.iload_n 2, 1) := by decide +kernel
theorem dX5_appended_9 : decode cX5_appended 9 = .ok (.invokevirtual 119, 3) := by decide +kernel
theorem dX5_appended_12 : decode cX5_appended 12 = .ok (.ireturn, 1) := by decide +kernel
theorem dX5_writer_0 : decode cX5_writer 0 = .ok (.aload_n 0, 1) := by decide +kernel
theorem dX5_writer_1 : decode cX5_writer 1 = .ok (.getfield 12, 3) := by decide +kernel
theorem dX5_writer_4 : decode cX5_writer 4 = .ok (.iload_n 1, 1) := by decide +kernel
theorem dX5_writer_5 : decode cX5_writer 5 = .ok (.iload_n 2, 1) := by decide +kernel
theorem dX5_writer_6 : decode cX5_writer 6 = .ok (.invokevirtual 124, 3) := by decide +kernel
theorem dX5_writer_9 : decode cX5_writer 9 = .ok (.ireturn, 1) := by decide +kernel
theorem dX5_told_0 : decode cX5_told 0 = .ok (.aload_n 0, 1) := by decide +kernel
theorem dX5_told_1 : decode cX5_told 1 = .ok (.getfield 12, 3) := by decide +kernel
theorem dX5_told_4 : decode cX5_told 4 = .ok (.getfield 115, 3) := by decide +kernel
theorem dX5_told_7 : decode cX5_told 7 = .ok (.iload_n 1, 1) := by decide +kernel
theorem dX5_told_8 : decode cX5_told 8 = .ok (.invokevirtual 127, 3) := by decide +kernel
theorem dX5_told_11 : decode cX5_told 11 = .ok (.ireturn, 1) := by decide +kernel
theorem dX5_toldIn_0 : decode cX5_toldIn 0 = .ok (.aload_n 0, 1) := by decide +kernel
theorem dX5_toldIn_1 : decode cX5_toldIn 1 = .ok (.getfield 12, 3) := by decide +kernel
theorem dX5_toldIn_4 : decode cX5_toldIn 4 = .ok (.getfield 115, 3) := by decide +kernel
theorem dX5_toldIn_7 : decode cX5_toldIn 7 = .ok (.iload_n 1, 1) := by decide +kernel
theorem dX5_toldIn_8 : decode cX5_toldIn 8 = .ok (.invokevirtual 130, 3) := by decide +kernel
theorem dX5_toldIn_11 : decode cX5_toldIn 11 = .ok (.ifCond .ne 5, 3) := by decide +kernel
theorem dX5_toldIn_14 : decode cX5_toldIn 14 = .ok (.iconst (-1), 1) := by decide +kernel
theorem dX5_toldIn_15 : decode cX5_toldIn 15 = .ok (.ireturn, 1) := by decide +kernel
theorem dX5_toldIn_16 : decode cX5_toldIn 16 = .ok (.aload_n 0, 1) := by decide +kernel
theorem dX5_toldIn_17 : decode cX5_toldIn 17 = .ok (.getfield 12, 3) := by decide +kernel
theorem dX5_toldIn_20 : decode cX5_toldIn 20 = .ok (.getfield 115, 3) := by decide +kernel
theorem dX5_toldIn_23 : decode cX5_toldIn 23 = .ok (.iload_n 1, 1) := by decide +kernel
theorem dX5_toldIn_24 : decode cX5_toldIn 24 = .ok (.invokevirtual 134, 3) := by decide +kernel
theorem dX5_toldIn_27 : decode cX5_toldIn 27 = .ok (.ifCond .ne 6, 3) := by decide +kernel
theorem dX5_toldIn_30 : decode cX5_toldIn 30 = .ok (.bipush (-4), 2) := by decide +kernel
theorem dX5_toldIn_32 : decode cX5_toldIn 32 = .ok (.ireturn, 1) := by decide +kernel
theorem dX5_toldIn_33 : decode cX5_toldIn 33 = .ok (.aload_n 0, 1) := by decide +kernel
theorem dX5_toldIn_34 : decode cX5_toldIn 34 = .ok (.getfield 26, 3) := by decide +kernel
theorem dX5_toldIn_37 : decode cX5_toldIn 37 = .ok (.aload_n 0, 1) := by decide +kernel
theorem dX5_toldIn_38 : decode cX5_toldIn 38 = .ok (.getfield 12, 3) := by decide +kernel
theorem dX5_toldIn_41 : decode cX5_toldIn 41 = .ok (.invokevirtual 37, 3) := by decide +kernel
theorem dX5_toldIn_44 : decode cX5_toldIn 44 = .ok (.iload_n 1, 1) := by decide +kernel
theorem dX5_toldIn_45 : decode cX5_toldIn 45 = .ok (.invokevirtual 137, 3) := by decide +kernel
theorem dX5_toldIn_48 : decode cX5_toldIn 48 = .ok (.ireturn, 1) := by decide +kernel
theorem dX5_would_0 : decode cX5_would 0 = .ok (.iload_n 1, 1) := by decide +kernel
theorem dX5_would_1 : decode cX5_would 1 = .ok (.invokestatic 140, 3) := by decide +kernel
theorem dX5_would_4 : decode cX5_would 4 = .ok (.ifCond .ne 5, 3) := by decide +kernel
theorem dX5_would_7 : decode cX5_would 7 = .ok (.iconst (-1), 1) := by decide +kernel
theorem dX5_would_8 : decode cX5_would 8 = .ok (.ireturn, 1) := by decide +kernel
theorem dX5_would_9 : decode cX5_would 9 = .ok (.iload_n 2, 1) := by decide +kernel
theorem dX5_would_10 : decode cX5_would 10 = .ok (.ifCond .lt 8, 3) := by decide +kernel
theorem dX5_would_13 : decode cX5_would 13 = .ok (.iload_n 2, 1) := by decide +kernel
theorem dX5_would_14 : decode cX5_would 14 = .ok (.iconst 1, 1) := by decide +kernel
theorem dX5_would_15 : decode cX5_would 15 = .ok (.if_icmp .le 6, 3) := by decide +kernel
theorem dX5_would_18 : decode cX5_would 18 = .ok (.bipush (-2), 2) := by decide +kernel
theorem dX5_would_20 : decode cX5_would 20 = .ok (.ireturn, 1) := by decide +kernel
theorem dX5_would_21 : decode cX5_would 21 = .ok (.aload_n 0, 1) := by decide +kernel
theorem dX5_would_22 : decode cX5_would 22 = .ok (.getfield 26, 3) := by decide +kernel
theorem dX5_would_25 : decode cX5_would 25 = .ok (.aload_n 0, 1) := by decide +kernel
theorem dX5_would_26 : decode cX5_would 26 = .ok (.getfield 12, 3) := by decide +kernel
theorem dX5_would_29 : decode cX5_would 29 = .ok (.invokevirtual 37, 3) := by decide +kernel
theorem dX5_would_32 : decode cX5_would 32 = .ok (.astore_n 3, 1) := by decide +kernel
theorem dX5_would_33 : decode cX5_would 33 = .ok (.aload_n 3, 1) := by decide +kernel
theorem dX5_would_34 : decode cX5_would 34 = .ok (.getfield 115, 3) := by decide +kernel
theorem dX5_would_37 : decode cX5_would 37 = .ok (.iconst 0, 1) := by decide +kernel
theorem dX5_would_38 : decode cX5_would 38 = .ok (.iload_n 1, 1) := by decide +kernel
theorem dX5_would_39 : decode cX5_would 39 = .ok (.iconst 0, 1) := by decide +kernel
theorem dX5_would_40 : decode cX5_would 40 = .ok (.invokevirtual 143, 3) := by decide +kernel
theorem dX5_would_43 : decode cX5_would 43 = .ok (.istore 4, 2) := by decide +kernel
theorem dX5_would_45 : decode cX5_would 45 = .ok (.iload 4, 2) := by decide +kernel
theorem dX5_would_47 : decode cX5_would 47 = .ok (.iconst (-1), 1) := by decide +kernel
theorem dX5_would_48 : decode cX5_would 48 = .ok (.if_icmp .ne 6, 3) := by decide +kernel
theorem dX5_would_51 : decode cX5_would 51 = .ok (.bipush (-5), 2) := by decide +kernel
theorem dX5_would_53 : decode cX5_would 53 = .ok (.ireturn, 1) := by decide +kernel
theorem dX5_would_54 : decode cX5_would 54 = .ok (.aload_n 3, 1) := by decide +kernel
theorem dX5_would_55 : decode cX5_would 55 = .ok (.iload 4, 2) := by decide +kernel
theorem dX5_would_57 : decode cX5_would 57 = .ok (.invokevirtual 137, 3) := by decide +kernel
theorem dX5_would_60 : decode cX5_would 60 = .ok (.istore 5, 2) := by decide +kernel
theorem dX5_would_62 : decode cX5_would 62 = .ok (.iload 5, 2) := by decide +kernel
theorem dX5_would_64 : decode cX5_would 64 = .ok (.bipush (-5), 2) := by decide +kernel
theorem dX5_would_66 : decode cX5_would 66 = .ok (.if_icmp .ne 6, 3) := by decide +kernel
theorem dX5_would_69 : decode cX5_would 69 = .ok (.bipush (-5), 2) := by decide +kernel
theorem dX5_would_71 : decode cX5_would 71 = .ok (.ireturn, 1) := by decide +kernel
theorem dX5_would_72 : decode cX5_would 72 = .ok (.iload_n 2, 1) := by decide +kernel
theorem dX5_would_73 : decode cX5_would 73 = .ok (.ifCond .ne 16, 3) := by decide +kernel
theorem dX5_would_76 : decode cX5_would 76 = .ok (.aload_n 3, 1) := by decide +kernel
theorem dX5_would_77 : decode cX5_would 77 = .ok (.getfield 115, 3) := by decide +kernel
theorem dX5_would_80 : decode cX5_would 80 = .ok (.getfield 145, 3) := by decide +kernel
theorem dX5_would_83 : decode cX5_would 83 = .ok (.iload 4, 2) := by decide +kernel
theorem dX5_would_85 : decode cX5_would 85 = .ok (.iaload, 1) := by decide +kernel
theorem dX5_would_86 : decode cX5_would 86 = .ok (.goto 5, 3) := by decide +kernel
theorem dX5_would_89 : decode cX5_would 89 = .ok (.iload 5, 2) := by decide +kernel
theorem dX5_would_91 : decode cX5_would 91 = .ok (.ireturn, 1) := by decide +kernel
theorem dX5_count_0 : decode cX5_count 0 = .ok (.iload_n 1, 1) := by decide +kernel
theorem dX5_count_1 : decode cX5_count 1 = .ok (.lookupswitch 43 #[(14, 27), (15, 35)], 27) := by decide +kernel
theorem dX5_count_28 : decode cX5_count 28 = .ok (.aload_n 0, 1) := by decide +kernel
theorem dX5_count_29 : decode cX5_count 29 = .ok (.getfield 26, 3) := by decide +kernel
theorem dX5_count_32 : decode cX5_count 32 = .ok (.getfield 149, 3) := by decide +kernel
theorem dX5_count_35 : decode cX5_count 35 = .ok (.ireturn, 1) := by decide +kernel
theorem dX5_count_36 : decode cX5_count 36 = .ok (.aload_n 0, 1) := by decide +kernel
theorem dX5_count_37 : decode cX5_count 37 = .ok (.getfield 33, 3) := by decide +kernel
theorem dX5_count_40 : decode cX5_count 40 = .ok (.getfield 78, 3) := by decide +kernel
theorem dX5_count_43 : decode cX5_count 43 = .ok (.ireturn, 1) := by decide +kernel
theorem dX5_count_44 : decode cX5_count 44 = .ok (.aload_n 0, 1) := by decide +kernel
theorem dX5_count_45 : decode cX5_count 45 = .ok (.getfield 12, 3) := by decide +kernel
theorem dX5_count_48 : decode cX5_count 48 = .ok (.iload_n 1, 1) := by decide +kernel
theorem dX5_count_49 : decode cX5_count 49 = .ok (.invokevirtual 152, 3) := by decide +kernel
theorem dX5_count_52 : decode cX5_count 52 = .ok (.ireturn, 1) := by decide +kernel
theorem dX5_isZone_0 : decode cX5_isZone 0 = .ok (.iload_n 0, 1) := by decide +kernel
theorem dX5_isZone_1 : decode cX5_isZone 1 = .ok (.ifCond .lt 13, 3) := by decide +kernel
theorem dX5_isZone_4 : decode cX5_isZone 4 = .ok (.iload_n 0, 1) := by decide +kernel
theorem dX5_isZone_5 : decode cX5_isZone 5 = .ok (.bipush 8, 2) := by decide +kernel
theorem dX5_isZone_7 : decode cX5_isZone 7 = .ok (.if_icmp .ge 7, 3) := by decide +kernel
theorem dX5_isZone_10 : decode cX5_isZone 10 = .ok (.iconst 1, 1) := by decide +kernel
theorem dX5_isZone_11 : decode cX5_isZone 11 = .ok (.goto 4, 3) := by decide +kernel
theorem dX5_isZone_14 : decode cX5_isZone 14 = .ok (.iconst 0, 1) := by decide +kernel
theorem dX5_isZone_15 : decode cX5_isZone 15 = .ok (.ireturn, 1) := by decide +kernel
theorem dX5_isWriter_0 : decode cX5_isWriter 0 = .ok (.iload_n 0, 1) := by decide +kernel
theorem dX5_isWriter_1 : decode cX5_isWriter 1 = .ok (.ifCond .lt 12, 3) := by decide +kernel
theorem dX5_isWriter_4 : decode cX5_isWriter 4 = .ok (.iload_n 0, 1) := by decide +kernel
theorem dX5_isWriter_5 : decode cX5_isWriter 5 = .ok (.iconst 4, 1) := by decide +kernel
theorem dX5_isWriter_6 : decode cX5_isWriter 6 = .ok (.if_icmp .ge 7, 3) := by decide +kernel
theorem dX5_isWriter_9 : decode cX5_isWriter 9 = .ok (.iconst 1, 1) := by decide +kernel
theorem dX5_isWriter_10 : decode cX5_isWriter 10 = .ok (.goto 4, 3) := by decide +kernel
theorem dX5_isWriter_13 : decode cX5_isWriter 13 = .ok (.iconst 0, 1) := by decide +kernel
theorem dX5_isWriter_14 : decode cX5_isWriter 14 = .ok (.ireturn, 1) := by decide +kernel
theorem dX5_isFrom_0 : decode cX5_isFrom 0 = .ok (.iload_n 0, 1) := by decide +kernel
theorem dX5_isFrom_1 : decode cX5_isFrom 1 = .ok (.iload_n 1, 1) := by decide +kernel
theorem dX5_isFrom_2 : decode cX5_isFrom 2 = .ok (.if_icmp .lt 12, 3) := by decide +kernel
theorem dX5_isFrom_5 : decode cX5_isFrom 5 = .ok (.iload_n 0, 1) := by decide +kernel
theorem dX5_isFrom_6 : decode cX5_isFrom 6 = .ok (.iload_n 2, 1) := by decide +kernel
theorem dX5_isFrom_7 : decode cX5_isFrom 7 = .ok (.if_icmp .gt 7, 3) := by decide +kernel
theorem dX5_isFrom_10 : decode cX5_isFrom 10 = .ok (.iconst 1, 1) := by decide +kernel
theorem dX5_isFrom_11 : decode cX5_isFrom 11 = .ok (.goto 4, 3) := by decide +kernel
theorem dX5_isFrom_14 : decode cX5_isFrom 14 = .ok (.iconst 0, 1) := by decide +kernel
theorem dX5_isFrom_15 : decode cX5_isFrom 15 = .ok (.ireturn, 1) := by decide +kernel
theorem dX5_copy_0 : decode cX5_copy 0 = .ok (.iload_n 2, 1) := by decide +kernel
theorem dX5_copy_1 : decode cX5_copy 1 = .ok (.ifCond .lt 23, 3) := by decide +kernel
theorem dX5_copy_4 : decode cX5_copy 4 = .ok (.iload_n 2, 1) := by decide +kernel
theorem dX5_copy_5 : decode cX5_copy 5 = .ok (.aload_n 0, 1) := by decide +kernel
theorem dX5_copy_6 : decode cX5_copy 6 = .ok (.arraylength, 1) := by decide +kernel
theorem dX5_copy_7 : decode cX5_copy 7 = .ok (.if_icmp .gt 17, 3) := by decide +kernel
theorem dX5_copy_10 : decode cX5_copy 10 = .ok (.iload_n 2, 1) := by decide +kernel
theorem dX5_copy_11 : decode cX5_copy 11 = .ok (.aload_n 1, 1) := by decide +kernel
theorem dX5_copy_12 : decode cX5_copy 12 = .ok (.arraylength, 1) := by decide +kernel
theorem dX5_copy_13 : decode cX5_copy 13 = .ok (.if_icmp .gt 11, 3) := by decide +kernel
theorem dX5_copy_16 : decode cX5_copy 16 = .ok (.aload_n 0, 1) := by decide +kernel
theorem dX5_copy_17 : decode cX5_copy 17 = .ok (.iconst 0, 1) := by decide +kernel
theorem dX5_copy_18 : decode cX5_copy 18 = .ok (.aload_n 1, 1) := by decide +kernel
theorem dX5_copy_19 : decode cX5_copy 19 = .ok (.iconst 0, 1) := by decide +kernel
theorem dX5_copy_20 : decode cX5_copy 20 = .ok (.iload_n 2, 1) := by decide +kernel
theorem dX5_copy_21 : decode cX5_copy 21 = .ok (.invokestatic 165, 3) := by decide +kernel
theorem dX5_copy_24 : decode cX5_copy 24 = .ok (.return_, 1) := by decide +kernel
theorem dL_cell_0 : decode cL_cell 0 = .ok (.iload_n 1, 1) := by decide +kernel
theorem dL_cell_1 : decode cL_cell 1 = .ok (.aload_n 0, 1) := by decide +kernel
theorem dL_cell_2 : decode cL_cell 2 = .ok (.arraylength, 1) := by decide +kernel
theorem dL_cell_3 : decode cL_cell 3 = .ok (.if_icmp .ge 9, 3) := by decide +kernel
theorem dL_cell_6 : decode cL_cell 6 = .ok (.aload_n 0, 1) := by decide +kernel
theorem dL_cell_7 : decode cL_cell 7 = .ok (.iload_n 1, 1) := by decide +kernel
theorem dL_cell_8 : decode cL_cell 8 = .ok (.iaload, 1) := by decide +kernel
theorem dL_cell_9 : decode cL_cell 9 = .ok (.goto 15, 3) := by decide +kernel
theorem dL_cell_12 : decode cL_cell 12 = .ok (.sipush 7919, 3) := by decide +kernel
theorem dL_cell_15 : decode cL_cell 15 = .ok (.iload_n 1, 1) := by decide +kernel
theorem dL_cell_16 : decode cL_cell 16 = .ok (.iconst 3, 1) := by decide +kernel
theorem dL_cell_17 : decode cL_cell 17 = .ok (.iadd, 1) := by decide +kernel
theorem dL_cell_18 : decode cL_cell 18 = .ok (.imul, 1) := by decide +kernel
theorem dL_cell_19 : decode cL_cell 19 = .ok (.iload_n 1, 1) := by decide +kernel
theorem dL_cell_20 : decode cL_cell 20 = .ok (.bipush 11, 2) := by decide +kernel
theorem dL_cell_22 : decode cL_cell 22 = .ok (.iadd, 1) := by decide +kernel
theorem dL_cell_23 : decode cL_cell 23 = .ok (.imul, 1) := by decide +kernel
theorem dL_cell_24 : decode cL_cell 24 = .ok (.ireturn, 1) := by decide +kernel
theorem dL_low_0 : decode cL_low 0 = .ok (.iload_n 0, 1) := by decide +kernel
theorem dL_low_1 : decode cL_low 1 = .ok (.ldc 7, 2) := by decide +kernel
theorem dL_low_3 : decode cL_low 3 = .ok (.iand, 1) := by decide +kernel
theorem dL_low_4 : decode cL_low 4 = .ok (.iload_n 1, 1) := by decide +kernel
theorem dL_low_5 : decode cL_low 5 = .ok (.irem, 1) := by decide +kernel
theorem dL_low_6 : decode cL_low 6 = .ok (.ireturn, 1) := by decide +kernel
theorem dL_does_0 : decode cL_does 0 = .ok (.iload_n 1, 1) := by decide +kernel
theorem dL_does_1 : decode cL_does 1 = .ok (.iconst 4, 1) := by decide +kernel
theorem dL_does_2 : decode cL_does 2 = .ok (.ishr, 1) := by decide +kernel
theorem dL_does_3 : decode cL_does 3 = .ok (.iconst 3, 1) := by decide +kernel
theorem dL_does_4 : decode cL_does 4 = .ok (.iand, 1) := by decide +kernel
theorem dL_does_5 : decode cL_does 5 = .ok (.istore_n 2, 1) := by decide +kernel
theorem dL_does_6 : decode cL_does 6 = .ok (.iload_n 1, 1) := by decide +kernel
theorem dL_does_7 : decode cL_does 7 = .ok (.bipush 6, 2) := by decide +kernel
theorem dL_does_9 : decode cL_does 9 = .ok (.ishr, 1) := by decide +kernel
theorem dL_does_10 : decode cL_does 10 = .ok (.bipush 7, 2) := by decide +kernel
theorem dL_does_12 : decode cL_does 12 = .ok (.iand, 1) := by decide +kernel
theorem dL_does_13 : decode cL_does 13 = .ok (.istore_n 3, 1) := by decide +kernel
theorem dL_does_14 : decode cL_does 14 = .ok (.iload_n 1, 1) := by decide +kernel
theorem dL_does_15 : decode cL_does 15 = .ok (.bipush 15, 2) := by decide +kernel
theorem dL_does_17 : decode cL_does 17 = .ok (.iand, 1) := by decide +kernel
theorem dL_does_18 : decode cL_does 18 = .ok (.tableswitch 189 0 9 #[54, 54, 54, 54, 54, 54, 85, 112, 118, 133], 54) := by decide +kernel
theorem dL_does_72 : decode cL_does 72 = .ok (.aload_n 0, 1) := by decide +kernel
theorem dL_does_73 : decode cL_does 73 = .ok (.iload_n 2, 1) := by decide +kernel
theorem dL_does_74 : decode cL_does 74 = .ok (.iload_n 1, 1) := by decide +kernel
theorem dL_does_75 : decode cL_does 75 = .ok (.bipush 9, 2) := by decide +kernel
theorem dL_does_77 : decode cL_does 77 = .ok (.ishr, 1) := by decide +kernel
theorem dL_does_78 : decode cL_does 78 = .ok (.iconst 1, 1) := by decide +kernel
theorem dL_does_79 : decode cL_does 79 = .ok (.iand, 1) := by decide +kernel
theorem dL_does_80 : decode cL_does 80 = .ok (.ifCond .ne 9, 3) := by decide +kernel
theorem dL_does_83 : decode cL_does 83 = .ok (.iload_n 3, 1) := by decide +kernel
theorem dL_does_84 : decode cL_does 84 = .ok (.iconst 3, 1) := by decide +kernel
theorem dL_does_85 : decode cL_does 85 = .ok (.iand, 1) := by decide +kernel
theorem dL_does_86 : decode cL_does 86 = .ok (.goto 4, 3) := by decide +kernel
theorem dL_does_89 : decode cL_does 89 = .ok (.iload_n 3, 1) := by decide +kernel
theorem dL_does_90 : decode cL_does 90 = .ok (.iload_n 1, 1) := by decide +kernel
theorem dL_does_91 : decode cL_does 91 = .ok (.bipush 10, 2) := by decide +kernel
theorem dL_does_93 : decode cL_does 93 = .ok (.ishr, 1) := by decide +kernel
theorem dL_does_94 : decode cL_does 94 = .ok (.bipush 100, 2) := by decide +kernel
theorem dL_does_96 : decode cL_does 96 = .ok (.invokestatic 8, 3) := by decide +kernel
theorem dL_does_99 : decode cL_does 99 = .ok (.invokevirtual 14, 3) := by decide +kernel
theorem dL_does_102 : decode cL_does 102 = .ok (.ireturn, 1) := by decide +kernel
theorem dL_does_103 : decode cL_does 103 = .ok (.iload_n 1, 1) := by decide +kernel
theorem dL_does_104 : decode cL_does 104 = .ok (.bipush 9, 2) := by decide +kernel
theorem dL_does_106 : decode cL_does 106 = .ok (.ishr, 1) := by decide +kernel
theorem dL_does_107 : decode cL_does 107 = .ok (.iconst 1, 1) := by decide +kernel
theorem dL_does_108 : decode cL_does 108 = .ok (.iand, 1) := by decide +kernel
theorem dL_does_109 : decode cL_does 109 = .ok (.ifCond .ne 13, 3) := by decide +kernel
theorem dL_does_112 : decode cL_does 112 = .ok (.aload_n 0, 1) := by decide +kernel
theorem dL_does_113 : decode cL_does 113 = .ok (.iload_n 3, 1) := by decide +kernel
theorem dL_does_114 : decode cL_does 114 = .ok (.iconst 3, 1) := by decide +kernel
theorem dL_does_115 : decode cL_does 115 = .ok (.iand, 1) := by decide +kernel
theorem dL_does_116 : decode cL_does 116 = .ok (.invokevirtual 20, 3) := by decide +kernel
theorem dL_does_119 : decode cL_does 119 = .ok (.goto 10, 3) := by decide +kernel
theorem dL_does_122 : decode cL_does 122 = .ok (.aload_n 0, 1) := by decide +kernel
theorem dL_does_123 : decode cL_does 123 = .ok (.iload_n 3, 1) := by decide +kernel
theorem dL_does_124 : decode cL_does 124 = .ok (.iconst 3, 1) := by decide +kernel
theorem dL_does_125 : decode cL_does 125 = .ok (.iand, 1) := by decide +kernel
theorem dL_does_126 : decode cL_does 126 = .ok (.invokevirtual 24, 3) := by decide +kernel
theorem dL_does_129 : decode cL_does 129 = .ok (.ireturn, 1) := by decide +kernel
theorem dL_does_130 : decode cL_does 130 = .ok (.aload_n 0, 1) := by decide +kernel
theorem dL_does_131 : decode cL_does 131 = .ok (.iload_n 3, 1) := by decide +kernel
theorem dL_does_132 : decode cL_does 132 = .ok (.invokevirtual 27, 3) := by decide +kernel
theorem dL_does_135 : decode cL_does 135 = .ok (.ireturn, 1) := by decide +kernel
theorem dL_does_136 : decode cL_does 136 = .ok (.aload_n 0, 1) := by decide +kernel
theorem dL_does_137 : decode cL_does 137 = .ok (.iload_n 2, 1) := by decide +kernel
theorem dL_does_138 : decode cL_does 138 = .ok (.iload_n 1, 1) := by decide +kernel
theorem dL_does_139 : decode cL_does 139 = .ok (.bipush 9, 2) := by decide +kernel
theorem dL_does_141 : decode cL_does 141 = .ok (.ishr, 1) := by decide +kernel
theorem dL_does_142 : decode cL_does 142 = .ok (.bipush 9, 2) := by decide +kernel
theorem dL_does_144 : decode cL_does 144 = .ok (.invokestatic 8, 3) := by decide +kernel
theorem dL_does_147 : decode cL_does 147 = .ok (.invokevirtual 30, 3) := by decide +kernel
theorem dL_does_150 : decode cL_does 150 = .ok (.ireturn, 1) := by decide +kernel
theorem dL_does_151 : decode cL_does 151 = .ok (.iload_n 1, 1) := by decide +kernel
theorem dL_does_152 : decode cL_does 152 = .ok (.iconst 4, 1) := by decide +kernel
theorem dL_does_153 : decode cL_does 153 = .ok (.ishr, 1) := by decide +kernel
theorem dL_does_154 : decode cL_does 154 = .ok (.iconst 1, 1) := by decide +kernel
theorem dL_does_155 : decode cL_does 155 = .ok (.iand, 1) := by decide +kernel
theorem dL_does_156 : decode cL_does 156 = .ok (.ifCond .ne 36, 3) := by decide +kernel
theorem dL_does_159 : decode cL_does 159 = .ok (.aload_n 0, 1) := by decide +kernel
theorem dL_does_160 : decode cL_does 160 = .ok (.iload_n 3, 1) := by decide +kernel
theorem dL_does_161 : decode cL_does 161 = .ok (.iload_n 1, 1) := by decide +kernel
theorem dL_does_162 : decode cL_does 162 = .ok (.iconst 5, 1) := by decide +kernel
theorem dL_does_163 : decode cL_does 163 = .ok (.ishr, 1) := by decide +kernel
theorem dL_does_164 : decode cL_does 164 = .ok (.iconst 1, 1) := by decide +kernel
theorem dL_does_165 : decode cL_does 165 = .ok (.iand, 1) := by decide +kernel
theorem dL_does_166 : decode cL_does 166 = .ok (.iconst 1, 1) := by decide +kernel
theorem dL_does_167 : decode cL_does 167 = .ok (.if_icmp .ne 7, 3) := by decide +kernel
theorem dL_does_170 : decode cL_does 170 = .ok (.iconst 1, 1) := by decide +kernel
theorem dL_does_171 : decode cL_does 171 = .ok (.goto 4, 3) := by decide +kernel
theorem dL_does_174 : decode cL_does 174 = .ok (.iconst 0, 1) := by decide +kernel
theorem dL_does_175 : decode cL_does 175 = .ok (.iconst 1, 1) := by decide +kernel
theorem dL_does_176 : decode cL_does 176 = .ok (.iload_n 1, 1) := by decide +kernel
theorem dL_does_177 : decode cL_does 177 = .ok (.bipush 9, 2) := by decide +kernel
theorem dL_does_179 : decode cL_does 179 = .ok (.ishr, 1) := by decide +kernel
theorem dL_does_180 : decode cL_does 180 = .ok (.bipush 9, 2) := by decide +kernel
theorem dL_does_182 : decode cL_does 182 = .ok (.invokestatic 8, 3) := by decide +kernel
theorem dL_does_185 : decode cL_does 185 = .ok (.iadd, 1) := by decide +kernel
theorem dL_does_186 : decode cL_does 186 = .ok (.invokevirtual 33, 3) := by decide +kernel
theorem dL_does_189 : decode cL_does 189 = .ok (.goto 17, 3) := by decide +kernel
theorem dL_does_192 : decode cL_does 192 = .ok (.aload_n 0, 1) := by decide +kernel
theorem dL_does_193 : decode cL_does 193 = .ok (.iload_n 2, 1) := by decide +kernel
theorem dL_does_194 : decode cL_does 194 = .ok (.iconst 1, 1) := by decide +kernel
theorem dL_does_195 : decode cL_does 195 = .ok (.iload_n 1, 1) := by decide +kernel
theorem dL_does_196 : decode cL_does 196 = .ok (.bipush 9, 2) := by decide +kernel
theorem dL_does_198 : decode cL_does 198 = .ok (.ishr, 1) := by decide +kernel
theorem dL_does_199 : decode cL_does 199 = .ok (.bipush 7, 2) := by decide +kernel
theorem dL_does_201 : decode cL_does 201 = .ok (.iand, 1) := by decide +kernel
theorem dL_does_202 : decode cL_does 202 = .ok (.iadd, 1) := by decide +kernel
theorem dL_does_203 : decode cL_does 203 = .ok (.invokevirtual 37, 3) := by decide +kernel
theorem dL_does_206 : decode cL_does 206 = .ok (.ireturn, 1) := by decide +kernel
theorem dL_does_207 : decode cL_does 207 = .ok (.aload_n 0, 1) := by decide +kernel
theorem dL_does_208 : decode cL_does 208 = .ok (.iconst 1, 1) := by decide +kernel
theorem dL_does_209 : decode cL_does 209 = .ok (.iload_n 1, 1) := by decide +kernel
theorem dL_does_210 : decode cL_does 210 = .ok (.iconst 4, 1) := by decide +kernel
theorem dL_does_211 : decode cL_does 211 = .ok (.ishr, 1) := by decide +kernel
theorem dL_does_212 : decode cL_does 212 = .ok (.iconst 4, 1) := by decide +kernel
theorem dL_does_213 : decode cL_does 213 = .ok (.invokestatic 8, 3) := by decide +kernel
theorem dL_does_216 : decode cL_does 216 = .ok (.iadd, 1) := by decide +kernel
theorem dL_does_217 : decode cL_does 217 = .ok (.invokevirtual 40, 3) := by decide +kernel
theorem dL_does_220 : decode cL_does 220 = .ok (.ireturn, 1) := by decide +kernel
theorem dL_areZonesSo_0 : decode cL_areZonesSo 0 = .ok (.iconst 0, 1) := by decide +kernel
theorem dL_areZonesSo_1 : decode cL_areZonesSo 1 = .ok (.istore_n 1, 1) := by decide +kernel
theorem dL_areZonesSo_2 : decode cL_areZonesSo 2 = .ok (.iconst 0, 1) := by decide +kernel
theorem dL_areZonesSo_3 : decode cL_areZonesSo 3 = .ok (.istore_n 2, 1) := by decide +kernel
theorem dL_areZonesSo_4 : decode cL_areZonesSo 4 = .ok (.iconst 0, 1) := by decide +kernel
theorem dL_areZonesSo_5 : decode cL_areZonesSo 5 = .ok (.istore_n 3, 1) := by decide +kernel
theorem dL_areZonesSo_6 : decode cL_areZonesSo 6 = .ok (.iconst 0, 1) := by decide +kernel
theorem dL_areZonesSo_7 : decode cL_areZonesSo 7 = .ok (.istore 4, 2) := by decide +kernel
theorem dL_areZonesSo_9 : decode cL_areZonesSo 9 = .ok (.iconst 0, 1) := by decide +kernel
theorem dL_areZonesSo_10 : decode cL_areZonesSo 10 = .ok (.istore 5, 2) := by decide +kernel
theorem dL_areZonesSo_12 : decode cL_areZonesSo 12 = .ok (.iload 5, 2) := by decide +kernel
theorem dL_areZonesSo_14 : decode cL_areZonesSo 14 = .ok (.bipush 8, 2) := by decide +kernel
theorem dL_areZonesSo_16 : decode cL_areZonesSo 16 = .ok (.if_icmp .ge 295, 3) := by decide +kernel
theorem dL_areZonesSo_19 : decode cL_areZonesSo 19 = .ok (.aload_n 0, 1) := by decide +kernel
theorem dL_areZonesSo_20 : decode cL_areZonesSo 20 = .ok (.iload 5, 2) := by decide +kernel
theorem dL_areZonesSo_22 : decode cL_areZonesSo 22 = .ok (.iconst 0, 1) := by decide +kernel
theorem dL_areZonesSo_23 : decode cL_areZonesSo 23 = .ok (.invokevirtual 43, 3) := by decide +kernel
theorem dL_areZonesSo_26 : decode cL_areZonesSo 26 = .ok (.istore 6, 2) := by decide +kernel
theorem dL_areZonesSo_28 : decode cL_areZonesSo 28 = .ok (.aload_n 0, 1) := by decide +kernel
theorem dL_areZonesSo_29 : decode cL_areZonesSo 29 = .ok (.iload 5, 2) := by decide +kernel
theorem dL_areZonesSo_31 : decode cL_areZonesSo 31 = .ok (.iconst 3, 1) := by decide +kernel
theorem dL_areZonesSo_32 : decode cL_areZonesSo 32 = .ok (.invokevirtual 43, 3) := by decide +kernel
theorem dL_areZonesSo_35 : decode cL_areZonesSo 35 = .ok (.istore 7, 2) := by decide +kernel
theorem dL_areZonesSo_37 : decode cL_areZonesSo 37 = .ok (.iconst 0, 1) := by decide +kernel
theorem dL_areZonesSo_38 : decode cL_areZonesSo 38 = .ok (.istore 8, 2) := by decide +kernel
theorem dL_areZonesSo_40 : decode cL_areZonesSo 40 = .ok (.iconst (-1), 1) := by decide +kernel
theorem dL_areZonesSo_41 : decode cL_areZonesSo 41 = .ok (.istore 9, 2) := by decide +kernel
theorem dL_areZonesSo_43 : decode cL_areZonesSo 43 = .ok (.iconst 0, 1) := by decide +kernel
theorem dL_areZonesSo_44 : decode cL_areZonesSo 44 = .ok (.istore 10, 2) := by decide +kernel
theorem dL_areZonesSo_46 : decode cL_areZonesSo 46 = .ok (.iload 10, 2) := by decide +kernel
theorem dL_areZonesSo_48 : decode cL_areZonesSo 48 = .ok (.iload 7, 2) := by decide +kernel
theorem dL_areZonesSo_50 : decode cL_areZonesSo 50 = .ok (.if_icmp .ge 67, 3) := by decide +kernel
theorem dL_areZonesSo_53 : decode cL_areZonesSo 53 = .ok (.aload_n 0, 1) := by decide +kernel
theorem dL_areZonesSo_54 : decode cL_areZonesSo 54 = .ok (.iload 5, 2) := by decide +kernel
theorem dL_areZonesSo_56 : decode cL_areZonesSo 56 = .ok (.iload 10, 2) := by decide +kernel
theorem dL_areZonesSo_58 : decode cL_areZonesSo 58 = .ok (.invokevirtual 46, 3) := by decide +kernel
theorem dL_areZonesSo_61 : decode cL_areZonesSo 61 = .ok (.istore 11, 2) := by decide +kernel
theorem dL_areZonesSo_63 : decode cL_areZonesSo 63 = .ok (.iload 8, 2) := by decide +kernel
theorem dL_areZonesSo_65 : decode cL_areZonesSo 65 = .ok (.iload 11, 2) := by decide +kernel
theorem dL_areZonesSo_67 : decode cL_areZonesSo 67 = .ok (.ifCond .lt 7, 3) := by decide +kernel
theorem dL_areZonesSo_70 : decode cL_areZonesSo 70 = .ok (.iconst 1, 1) := by decide +kernel
theorem dL_areZonesSo_71 : decode cL_areZonesSo 71 = .ok (.goto 4, 3) := by decide +kernel
theorem dL_areZonesSo_74 : decode cL_areZonesSo 74 = .ok (.iconst 0, 1) := by decide +kernel
theorem dL_areZonesSo_75 : decode cL_areZonesSo 75 = .ok (.iadd, 1) := by decide +kernel
theorem dL_areZonesSo_76 : decode cL_areZonesSo 76 = .ok (.istore 8, 2) := by decide +kernel
theorem dL_areZonesSo_78 : decode cL_areZonesSo 78 = .ok (.iload 11, 2) := by decide +kernel
theorem dL_areZonesSo_80 : decode cL_areZonesSo 80 = .ok (.ifCond .ge 13, 3) := by decide +kernel
theorem dL_areZonesSo_83 : decode cL_areZonesSo 83 = .ok (.iload 9, 2) := by decide +kernel
theorem dL_areZonesSo_85 : decode cL_areZonesSo 85 = .ok (.ifCond .ge 8, 3) := by decide +kernel
theorem dL_areZonesSo_88 : decode cL_areZonesSo 88 = .ok (.iload 10, 2) := by decide +kernel
theorem dL_areZonesSo_90 : decode cL_areZonesSo 90 = .ok (.goto 5, 3) := by decide +kernel
theorem dL_areZonesSo_93 : decode cL_areZonesSo 93 = .ok (.iload 9, 2) := by decide +kernel
theorem dL_areZonesSo_95 : decode cL_areZonesSo 95 = .ok (.istore 9, 2) := by decide +kernel
theorem dL_areZonesSo_97 : decode cL_areZonesSo 97 = .ok (.iload 11, 2) := by decide +kernel
theorem dL_areZonesSo_99 : decode cL_areZonesSo 99 = .ok (.ifCond .ge 12, 3) := by decide +kernel
theorem dL_areZonesSo_102 : decode cL_areZonesSo 102 = .ok (.iload 11, 2) := by decide +kernel
theorem dL_areZonesSo_104 : decode cL_areZonesSo 104 = .ok (.bipush (-4), 2) := by decide +kernel
theorem dL_areZonesSo_106 : decode cL_areZonesSo 106 = .ok (.if_icmp .eq 5, 3) := by decide +kernel
theorem dL_areZonesSo_109 : decode cL_areZonesSo 109 = .ok (.iconst 0, 1) := by decide +kernel
theorem dL_areZonesSo_110 : decode cL_areZonesSo 110 = .ok (.ireturn, 1) := by decide +kernel
theorem dL_areZonesSo_111 : decode cL_areZonesSo 111 = .ok (.iinc 10 1, 3) := by decide +kernel
theorem dL_areZonesSo_114 : decode cL_areZonesSo 114 = .ok (.goto (-68), 3) := by decide +kernel
theorem dL_areZonesSo_117 : decode cL_areZonesSo 117 = .ok (.iload_n 1, 1) := by decide +kernel
theorem dL_areZonesSo_118 : decode cL_areZonesSo 118 = .ok (.iload 6, 2) := by decide +kernel
theorem dL_areZonesSo_120 : decode cL_areZonesSo 120 = .ok (.iconst 1, 1) := by decide +kernel
theorem dL_areZonesSo_121 : decode cL_areZonesSo 121 = .ok (.if_icmp .ne 7, 3) := by decide +kernel
theorem dL_areZonesSo_124 : decode cL_areZonesSo 124 = .ok (.iconst 1, 1) := by decide +kernel
theorem dL_areZonesSo_125 : decode cL_areZonesSo 125 = .ok (.goto 4, 3) := by decide +kernel
theorem dL_areZonesSo_128 : decode cL_areZonesSo 128 = .ok (.iconst 0, 1) := by decide +kernel
theorem dL_areZonesSo_129 : decode cL_areZonesSo 129 = .ok (.iadd, 1) := by decide +kernel
theorem dL_areZonesSo_130 : decode cL_areZonesSo 130 = .ok (.istore_n 1, 1) := by decide +kernel
theorem dL_areZonesSo_131 : decode cL_areZonesSo 131 = .ok (.iload_n 2, 1) := by decide +kernel
theorem dL_areZonesSo_132 : decode cL_areZonesSo 132 = .ok (.iload 6, 2) := by decide +kernel
theorem dL_areZonesSo_134 : decode cL_areZonesSo 134 = .ok (.iconst 1, 1) := by decide +kernel
theorem dL_areZonesSo_135 : decode cL_areZonesSo 135 = .ok (.if_icmp .eq 9, 3) := by decide +kernel
theorem dL_areZonesSo_138 : decode cL_areZonesSo 138 = .ok (.iload 6, 2) := by decide +kernel
theorem dL_areZonesSo_140 : decode cL_areZonesSo 140 = .ok (.iconst 2, 1) := by decide +kernel
theorem dL_areZonesSo_141 : decode cL_areZonesSo 141 = .ok (.if_icmp .ne 7, 3) := by decide +kernel
theorem dL_areZonesSo_144 : decode cL_areZonesSo 144 = .ok (.iconst 1, 1) := by decide +kernel
theorem dL_areZonesSo_145 : decode cL_areZonesSo 145 = .ok (.goto 4, 3) := by decide +kernel
theorem dL_areZonesSo_148 : decode cL_areZonesSo 148 = .ok (.iconst 0, 1) := by decide +kernel
theorem dL_areZonesSo_149 : decode cL_areZonesSo 149 = .ok (.iadd, 1) := by decide +kernel
theorem dL_areZonesSo_150 : decode cL_areZonesSo 150 = .ok (.istore_n 2, 1) := by decide +kernel
theorem dL_areZonesSo_151 : decode cL_areZonesSo 151 = .ok (.iload_n 3, 1) := by decide +kernel
theorem dL_areZonesSo_152 : decode cL_areZonesSo 152 = .ok (.aload_n 0, 1) := by decide +kernel
theorem dL_areZonesSo_153 : decode cL_areZonesSo 153 = .ok (.iload 5, 2) := by decide +kernel
theorem dL_areZonesSo_155 : decode cL_areZonesSo 155 = .ok (.bipush 6, 2) := by decide +kernel
theorem dL_areZonesSo_157 : decode cL_areZonesSo 157 = .ok (.invokevirtual 43, 3) := by decide +kernel
theorem dL_areZonesSo_160 : decode cL_areZonesSo 160 = .ok (.iadd, 1) := by decide +kernel
theorem dL_areZonesSo_161 : decode cL_areZonesSo 161 = .ok (.istore_n 3, 1) := by decide +kernel
theorem dL_areZonesSo_162 : decode cL_areZonesSo 162 = .ok (.iload 4, 2) := by decide +kernel
theorem dL_areZonesSo_164 : decode cL_areZonesSo 164 = .ok (.aload_n 0, 1) := by decide +kernel
theorem dL_areZonesSo_165 : decode cL_areZonesSo 165 = .ok (.iload 5, 2) := by decide +kernel
theorem dL_areZonesSo_167 : decode cL_areZonesSo 167 = .ok (.bipush 7, 2) := by decide +kernel
theorem dL_areZonesSo_169 : decode cL_areZonesSo 169 = .ok (.invokevirtual 43, 3) := by decide +kernel
theorem dL_areZonesSo_172 : decode cL_areZonesSo 172 = .ok (.iadd, 1) := by decide +kernel
theorem dL_areZonesSo_173 : decode cL_areZonesSo 173 = .ok (.istore 4, 2) := by decide +kernel
theorem dL_areZonesSo_175 : decode cL_areZonesSo 175 = .ok (.iload 7, 2) := by decide +kernel
theorem dL_areZonesSo_177 : decode cL_areZonesSo 177 = .ok (.aload_n 0, 1) := by decide +kernel
theorem dL_areZonesSo_178 : decode cL_areZonesSo 178 = .ok (.iload 5, 2) := by decide +kernel
theorem dL_areZonesSo_180 : decode cL_areZonesSo 180 = .ok (.iconst 1, 1) := by decide +kernel
theorem dL_areZonesSo_181 : decode cL_areZonesSo 181 = .ok (.invokevirtual 43, 3) := by decide +kernel
theorem dL_areZonesSo_184 : decode cL_areZonesSo 184 = .ok (.if_icmp .gt 48, 3) := by decide +kernel
theorem dL_areZonesSo_187 : decode cL_areZonesSo 187 = .ok (.iload 8, 2) := by decide +kernel
theorem dL_areZonesSo_189 : decode cL_areZonesSo 189 = .ok (.aload_n 0, 1) := by decide +kernel
theorem dL_areZonesSo_190 : decode cL_areZonesSo 190 = .ok (.iload 5, 2) := by decide +kernel
theorem dL_areZonesSo_192 : decode cL_areZonesSo 192 = .ok (.bipush 6, 2) := by decide +kernel
theorem dL_areZonesSo_194 : decode cL_areZonesSo 194 = .ok (.invokevirtual 43, 3) := by decide +kernel
theorem dL_areZonesSo_197 : decode cL_areZonesSo 197 = .ok (.iadd, 1) := by decide +kernel
theorem dL_areZonesSo_198 : decode cL_areZonesSo 198 = .ok (.iload 7, 2) := by decide +kernel
theorem dL_areZonesSo_200 : decode cL_areZonesSo 200 = .ok (.if_icmp .ne 32, 3) := by decide +kernel
theorem dL_areZonesSo_203 : decode cL_areZonesSo 203 = .ok (.iload 8, 2) := by decide +kernel
theorem dL_areZonesSo_205 : decode cL_areZonesSo 205 = .ok (.aload_n 0, 1) := by decide +kernel
theorem dL_areZonesSo_206 : decode cL_areZonesSo 206 = .ok (.iload 5, 2) := by decide +kernel
theorem dL_areZonesSo_208 : decode cL_areZonesSo 208 = .ok (.iconst 5, 1) := by decide +kernel
theorem dL_areZonesSo_209 : decode cL_areZonesSo 209 = .ok (.invokevirtual 43, 3) := by decide +kernel
theorem dL_areZonesSo_212 : decode cL_areZonesSo 212 = .ok (.if_icmp .ne 20, 3) := by decide +kernel
theorem dL_areZonesSo_215 : decode cL_areZonesSo 215 = .ok (.aload_n 0, 1) := by decide +kernel
theorem dL_areZonesSo_216 : decode cL_areZonesSo 216 = .ok (.iload 5, 2) := by decide +kernel
theorem dL_areZonesSo_218 : decode cL_areZonesSo 218 = .ok (.iload 7, 2) := by decide +kernel
theorem dL_areZonesSo_220 : decode cL_areZonesSo 220 = .ok (.invokevirtual 46, 3) := by decide +kernel
theorem dL_areZonesSo_223 : decode cL_areZonesSo 223 = .ok (.bipush (-5), 2) := by decide +kernel
theorem dL_areZonesSo_225 : decode cL_areZonesSo 225 = .ok (.if_icmp .ne 7, 3) := by decide +kernel
theorem dL_areZonesSo_228 : decode cL_areZonesSo 228 = .ok (.iconst 1, 1) := by decide +kernel
theorem dL_areZonesSo_229 : decode cL_areZonesSo 229 = .ok (.goto 4, 3) := by decide +kernel
theorem dL_areZonesSo_232 : decode cL_areZonesSo 232 = .ok (.iconst 0, 1) := by decide +kernel
theorem dL_areZonesSo_233 : decode cL_areZonesSo 233 = .ok (.istore 10, 2) := by decide +kernel
theorem dL_areZonesSo_235 : decode cL_areZonesSo 235 = .ok (.iload 10, 2) := by decide +kernel
theorem dL_areZonesSo_237 : decode cL_areZonesSo 237 = .ok (.ifCond .eq 66, 3) := by decide +kernel
theorem dL_areZonesSo_240 : decode cL_areZonesSo 240 = .ok (.aload_n 0, 1) := by decide +kernel
theorem dL_areZonesSo_241 : decode cL_areZonesSo 241 = .ok (.iload 5, 2) := by decide +kernel
theorem dL_areZonesSo_243 : decode cL_areZonesSo 243 = .ok (.bipush 8, 2) := by decide +kernel
theorem dL_areZonesSo_245 : decode cL_areZonesSo 245 = .ok (.invokevirtual 43, 3) := by decide +kernel
theorem dL_areZonesSo_248 : decode cL_areZonesSo 248 = .ok (.iload 9, 2) := by decide +kernel
theorem dL_areZonesSo_250 : decode cL_areZonesSo 250 = .ok (.ifCond .ge 8, 3) := by decide +kernel
theorem dL_areZonesSo_253 : decode cL_areZonesSo 253 = .ok (.iload 7, 2) := by decide +kernel
theorem dL_areZonesSo_255 : decode cL_areZonesSo 255 = .ok (.goto 5, 3) := by decide +kernel
theorem dL_areZonesSo_258 : decode cL_areZonesSo 258 = .ok (.iload 9, 2) := by decide +kernel
theorem dL_areZonesSo_260 : decode cL_areZonesSo 260 = .ok (.if_icmp .ne 43, 3) := by decide +kernel
theorem dL_areZonesSo_263 : decode cL_areZonesSo 263 = .ok (.iload 6, 2) := by decide +kernel
theorem dL_areZonesSo_265 : decode cL_areZonesSo 265 = .ok (.ifCond .ne 7, 3) := by decide +kernel
theorem dL_areZonesSo_268 : decode cL_areZonesSo 268 = .ok (.iconst 1, 1) := by decide +kernel
theorem dL_areZonesSo_269 : decode cL_areZonesSo 269 = .ok (.goto 4, 3) := by decide +kernel
theorem dL_areZonesSo_272 : decode cL_areZonesSo 272 = .ok (.iconst 0, 1) := by decide +kernel
theorem dL_areZonesSo_273 : decode cL_areZonesSo 273 = .ok (.iload 7, 2) := by decide +kernel
theorem dL_areZonesSo_275 : decode cL_areZonesSo 275 = .ok (.ifCond .ne 7, 3) := by decide +kernel
theorem dL_areZonesSo_278 : decode cL_areZonesSo 278 = .ok (.iconst 1, 1) := by decide +kernel
theorem dL_areZonesSo_279 : decode cL_areZonesSo 279 = .ok (.goto 4, 3) := by decide +kernel
theorem dL_areZonesSo_282 : decode cL_areZonesSo 282 = .ok (.iconst 0, 1) := by decide +kernel
theorem dL_areZonesSo_283 : decode cL_areZonesSo 283 = .ok (.if_icmp .ne 20, 3) := by decide +kernel
theorem dL_areZonesSo_286 : decode cL_areZonesSo 286 = .ok (.iload 6, 2) := by decide +kernel
theorem dL_areZonesSo_288 : decode cL_areZonesSo 288 = .ok (.iconst 2, 1) := by decide +kernel
theorem dL_areZonesSo_289 : decode cL_areZonesSo 289 = .ok (.if_icmp .ne 16, 3) := by decide +kernel
theorem dL_areZonesSo_292 : decode cL_areZonesSo 292 = .ok (.aload_n 0, 1) := by decide +kernel
theorem dL_areZonesSo_293 : decode cL_areZonesSo 293 = .ok (.iload 5, 2) := by decide +kernel
theorem dL_areZonesSo_295 : decode cL_areZonesSo 295 = .ok (.bipush 6, 2) := by decide +kernel
theorem dL_areZonesSo_297 : decode cL_areZonesSo 297 = .ok (.invokevirtual 43, 3) := by decide +kernel
theorem dL_areZonesSo_300 : decode cL_areZonesSo 300 = .ok (.ifCond .le 5, 3) := by decide +kernel
theorem dL_areZonesSo_303 : decode cL_areZonesSo 303 = .ok (.iconst 0, 1) := by decide +kernel
theorem dL_areZonesSo_304 : decode cL_areZonesSo 304 = .ok (.ireturn, 1) := by decide +kernel
theorem dL_areZonesSo_305 : decode cL_areZonesSo 305 = .ok (.iinc 5 1, 3) := by decide +kernel
theorem dL_areZonesSo_308 : decode cL_areZonesSo 308 = .ok (.goto (-296), 3) := by decide +kernel
theorem dL_areZonesSo_311 : decode cL_areZonesSo 311 = .ok (.iload_n 1, 1) := by decide +kernel
theorem dL_areZonesSo_312 : decode cL_areZonesSo 312 = .ok (.aload_n 0, 1) := by decide +kernel
theorem dL_areZonesSo_313 : decode cL_areZonesSo 313 = .ok (.iconst 5, 1) := by decide +kernel
theorem dL_areZonesSo_314 : decode cL_areZonesSo 314 = .ok (.invokevirtual 49, 3) := by decide +kernel
theorem dL_areZonesSo_317 : decode cL_areZonesSo 317 = .ok (.if_icmp .ne 56, 3) := by decide +kernel
theorem dL_areZonesSo_320 : decode cL_areZonesSo 320 = .ok (.iload_n 2, 1) := by decide +kernel
theorem dL_areZonesSo_321 : decode cL_areZonesSo 321 = .ok (.aload_n 0, 1) := by decide +kernel
theorem dL_areZonesSo_322 : decode cL_areZonesSo 322 = .ok (.bipush 6, 2) := by decide +kernel
theorem dL_areZonesSo_324 : decode cL_areZonesSo 324 = .ok (.invokevirtual 49, 3) := by decide +kernel
theorem dL_areZonesSo_327 : decode cL_areZonesSo 327 = .ok (.if_icmp .ne 46, 3) := by decide +kernel
theorem dL_areZonesSo_330 : decode cL_areZonesSo 330 = .ok (.iload_n 1, 1) := by decide +kernel
theorem dL_areZonesSo_331 : decode cL_areZonesSo 331 = .ok (.aload_n 0, 1) := by decide +kernel
theorem dL_areZonesSo_332 : decode cL_areZonesSo 332 = .ok (.iconst 1, 1) := by decide +kernel
theorem dL_areZonesSo_333 : decode cL_areZonesSo 333 = .ok (.invokevirtual 49, 3) := by decide +kernel
theorem dL_areZonesSo_336 : decode cL_areZonesSo 336 = .ok (.if_icmp .gt 37, 3) := by decide +kernel
theorem dL_areZonesSo_339 : decode cL_areZonesSo 339 = .ok (.iload_n 2, 1) := by decide +kernel
theorem dL_areZonesSo_340 : decode cL_areZonesSo 340 = .ok (.aload_n 0, 1) := by decide +kernel
theorem dL_areZonesSo_341 : decode cL_areZonesSo 341 = .ok (.iconst 2, 1) := by decide +kernel
theorem dL_areZonesSo_342 : decode cL_areZonesSo 342 = .ok (.invokevirtual 49, 3) := by decide +kernel
theorem dL_areZonesSo_345 : decode cL_areZonesSo 345 = .ok (.if_icmp .gt 28, 3) := by decide +kernel
theorem dL_areZonesSo_348 : decode cL_areZonesSo 348 = .ok (.iload_n 3, 1) := by decide +kernel
theorem dL_areZonesSo_349 : decode cL_areZonesSo 349 = .ok (.aload_n 0, 1) := by decide +kernel
theorem dL_areZonesSo_350 : decode cL_areZonesSo 350 = .ok (.bipush 9, 2) := by decide +kernel
theorem dL_areZonesSo_352 : decode cL_areZonesSo 352 = .ok (.invokevirtual 49, 3) := by decide +kernel
theorem dL_areZonesSo_355 : decode cL_areZonesSo 355 = .ok (.if_icmp .ne 18, 3) := by decide +kernel
theorem dL_areZonesSo_358 : decode cL_areZonesSo 358 = .ok (.iload 4, 2) := by decide +kernel
theorem dL_areZonesSo_360 : decode cL_areZonesSo 360 = .ok (.aload_n 0, 1) := by decide +kernel
theorem dL_areZonesSo_361 : decode cL_areZonesSo 361 = .ok (.bipush 8, 2) := by decide +kernel
theorem dL_areZonesSo_363 : decode cL_areZonesSo 363 = .ok (.invokevirtual 49, 3) := by decide +kernel
theorem dL_areZonesSo_366 : decode cL_areZonesSo 366 = .ok (.if_icmp .ne 7, 3) := by decide +kernel
theorem dL_areZonesSo_369 : decode cL_areZonesSo 369 = .ok (.iconst 1, 1) := by decide +kernel
theorem dL_areZonesSo_370 : decode cL_areZonesSo 370 = .ok (.goto 4, 3) := by decide +kernel
theorem dL_areZonesSo_373 : decode cL_areZonesSo 373 = .ok (.iconst 0, 1) := by decide +kernel
theorem dL_areZonesSo_374 : decode cL_areZonesSo 374 = .ok (.ireturn, 1) := by decide +kernel
theorem dL_areAppendsSo_0 : decode cL_areAppendsSo 0 = .ok (.aload_n 0, 1) := by decide +kernel
theorem dL_areAppendsSo_1 : decode cL_areAppendsSo 1 = .ok (.bipush 7, 2) := by decide +kernel
theorem dL_areAppendsSo_3 : decode cL_areAppendsSo 3 = .ok (.invokevirtual 49, 3) := by decide +kernel
theorem dL_areAppendsSo_6 : decode cL_areAppendsSo 6 = .ok (.istore_n 1, 1) := by decide +kernel
theorem dL_areAppendsSo_7 : decode cL_areAppendsSo 7 = .ok (.iconst 0, 1) := by decide +kernel
theorem dL_areAppendsSo_8 : decode cL_areAppendsSo 8 = .ok (.istore_n 2, 1) := by decide +kernel
theorem dL_areAppendsSo_9 : decode cL_areAppendsSo 9 = .ok (.iconst 0, 1) := by decide +kernel
theorem dL_areAppendsSo_10 : decode cL_areAppendsSo 10 = .ok (.istore_n 3, 1) := by decide +kernel
theorem dL_areAppendsSo_11 : decode cL_areAppendsSo 11 = .ok (.iconst 0, 1) := by decide +kernel
theorem dL_areAppendsSo_12 : decode cL_areAppendsSo 12 = .ok (.istore 4, 2) := by decide +kernel
theorem dL_areAppendsSo_14 : decode cL_areAppendsSo 14 = .ok (.iload 4, 2) := by decide +kernel
theorem dL_areAppendsSo_16 : decode cL_areAppendsSo 16 = .ok (.iload_n 1, 1) := by decide +kernel
theorem dL_areAppendsSo_17 : decode cL_areAppendsSo 17 = .ok (.if_icmp .ge 168, 3) := by decide +kernel
theorem dL_areAppendsSo_20 : decode cL_areAppendsSo 20 = .ok (.aload_n 0, 1) := by decide +kernel
theorem dL_areAppendsSo_21 : decode cL_areAppendsSo 21 = .ok (.iload 4, 2) := by decide +kernel
theorem dL_areAppendsSo_23 : decode cL_areAppendsSo 23 = .ok (.iconst 3, 1) := by decide +kernel
theorem dL_areAppendsSo_24 : decode cL_areAppendsSo 24 = .ok (.invokevirtual 52, 3) := by decide +kernel
theorem dL_areAppendsSo_27 : decode cL_areAppendsSo 27 = .ok (.istore 5, 2) := by decide +kernel
theorem dL_areAppendsSo_29 : decode cL_areAppendsSo 29 = .ok (.aload_n 0, 1) := by decide +kernel
theorem dL_areAppendsSo_30 : decode cL_areAppendsSo 30 = .ok (.iload 4, 2) := by decide +kernel
theorem dL_areAppendsSo_32 : decode cL_areAppendsSo 32 = .ok (.iconst 1, 1) := by decide +kernel
theorem dL_areAppendsSo_33 : decode cL_areAppendsSo 33 = .ok (.invokevirtual 52, 3) := by decide +kernel
theorem dL_areAppendsSo_36 : decode cL_areAppendsSo 36 = .ok (.istore 6, 2) := by decide +kernel
theorem dL_areAppendsSo_38 : decode cL_areAppendsSo 38 = .ok (.aload_n 0, 1) := by decide +kernel
theorem dL_areAppendsSo_39 : decode cL_areAppendsSo 39 = .ok (.iload 4, 2) := by decide +kernel
theorem dL_areAppendsSo_41 : decode cL_areAppendsSo 41 = .ok (.iconst 4, 1) := by decide +kernel
theorem dL_areAppendsSo_42 : decode cL_areAppendsSo 42 = .ok (.invokevirtual 52, 3) := by decide +kernel
theorem dL_areAppendsSo_45 : decode cL_areAppendsSo 45 = .ok (.istore 7, 2) := by decide +kernel
theorem dL_areAppendsSo_47 : decode cL_areAppendsSo 47 = .ok (.iload_n 2, 1) := by decide +kernel
theorem dL_areAppendsSo_48 : decode cL_areAppendsSo 48 = .ok (.iload 5, 2) := by decide +kernel
theorem dL_areAppendsSo_50 : decode cL_areAppendsSo 50 = .ok (.iconst 2, 1) := by decide +kernel
theorem dL_areAppendsSo_51 : decode cL_areAppendsSo 51 = .ok (.if_icmp .ne 7, 3) := by decide +kernel
theorem dL_areAppendsSo_54 : decode cL_areAppendsSo 54 = .ok (.iconst 1, 1) := by decide +kernel
theorem dL_areAppendsSo_55 : decode cL_areAppendsSo 55 = .ok (.goto 4, 3) := by decide +kernel
theorem dL_areAppendsSo_58 : decode cL_areAppendsSo 58 = .ok (.iconst 0, 1) := by decide +kernel
theorem dL_areAppendsSo_59 : decode cL_areAppendsSo 59 = .ok (.iadd, 1) := by decide +kernel
theorem dL_areAppendsSo_60 : decode cL_areAppendsSo 60 = .ok (.istore_n 2, 1) := by decide +kernel
theorem dL_areAppendsSo_61 : decode cL_areAppendsSo 61 = .ok (.iload_n 3, 1) := by decide +kernel
theorem dL_areAppendsSo_62 : decode cL_areAppendsSo 62 = .ok (.iload 5, 2) := by decide +kernel
theorem dL_areAppendsSo_64 : decode cL_areAppendsSo 64 = .ok (.iconst 3, 1) := by decide +kernel
theorem dL_areAppendsSo_65 : decode cL_areAppendsSo 65 = .ok (.if_icmp .ne 7, 3) := by decide +kernel
theorem dL_areAppendsSo_68 : decode cL_areAppendsSo 68 = .ok (.iconst 1, 1) := by decide +kernel
theorem dL_areAppendsSo_69 : decode cL_areAppendsSo 69 = .ok (.goto 4, 3) := by decide +kernel
theorem dL_areAppendsSo_72 : decode cL_areAppendsSo 72 = .ok (.iconst 0, 1) := by decide +kernel
theorem dL_areAppendsSo_73 : decode cL_areAppendsSo 73 = .ok (.iadd, 1) := by decide +kernel
theorem dL_areAppendsSo_74 : decode cL_areAppendsSo 74 = .ok (.istore_n 3, 1) := by decide +kernel
