theorem dX5_copy_5 : decode cX5_copy 5 = .ok (.aload_n 0, 1) := by decide +kernel
theorem dX5_copy_6 : decode cX5_copy 6 = .ok (.arraylength, 1) := by decide +kernel
theorem dX5_copy_7 : decode cX5_copy 7 = .ok (.if_icmp .gt 17, 3) := by decide +kernel
theorem dX5_copy_10 : decode cX5_copy 10 = .ok (.iload_n 2, 1) := by decide +kernel
theorem dX5_copy_11 : decode cX5_copy 11 = .ok (.aload_n 1, 1) := by decide +kernel
theorem dX5_copy_12 : decode cX5_copy 12 = .ok (.arraylength, 1) := by decide +kernel
theorem dX5_copy_13 : decode cX5_copy 13 = .ok (.if_icmp .gt 11, 3) := by decide +kernel
theorem dX5_copy_16 : decode cX5_copy 16 = .ok (.aload_n 0, 1) := by decide +kernel
theorem dX5_copy_17 : decode cX5_copy 17 = .ok (.iconst 0, 1) := by decide +kernel
theorem dX5_copy_18 : decode cX5_copy 18 = .ok (.aload_n 1, 1) := by decide +kernel
theorem dX5_copy_19 : decode cX5_copy 19 = .ok (.iconst 0, 1) := by decide +kernel
theorem dX5_copy_20 : decode cX5_copy 20 = .ok (.iload_n 2, 1) := by decide +kernel
theorem dX5_copy_21 : decode cX5_copy 21 = .ok (.invokestatic 165, 3) := by decide +kernel
theorem dX5_copy_24 : decode cX5_copy 24 = .ok (.return_, 1) := by decide +kernel
theorem dX6_init_0 : decode cX6_init 0 = .ok (.aload_n 0, 1) := by decide +kernel
theorem dX6_init_1 : decode cX6_init 1 = .ok (.invokespecial 1, 3) := by decide +kernel
theorem dX6_init_4 : decode cX6_init 4 = .ok (.aload_n 0, 1) := by decide +kernel
theorem dX6_init_5 : decode cX6_init 5 = .ok (.sipush 2204, 3) := by decide +kernel
theorem dX6_init_8 : decode cX6_init 8 = .ok (.newarray .int, 2) := by decide +kernel
theorem dX6_init_10 : decode cX6_init 10 = .ok (.putfield 7, 3) := by decide +kernel
theorem dX6_init_13 : decode cX6_init 13 = .ok (.aload_n 0, 1) := by decide +kernel
theorem dX6_init_14 : decode cX6_init 14 = .ok (.sipush 2204, 3) := by decide +kernel
theorem dX6_init_17 : decode cX6_init 17 = .ok (.newarray .int, 2) := by decide +kernel
theorem dX6_init_19 : decode cX6_init 19 = .ok (.putfield 13, 3) := by decide +kernel
theorem dX6_init_22 : decode cX6_init 22 = .ok (.aload_n 0, 1) := by decide +kernel
theorem dX6_init_23 : decode cX6_init 23 = .ok (.sipush 8816, 3) := by decide +kernel
theorem dX6_init_26 : decode cX6_init 26 = .ok (.newarray .int, 2) := by decide +kernel
theorem dX6_init_28 : decode cX6_init 28 = .ok (.putfield 16, 3) := by decide +kernel
theorem dX6_init_31 : decode cX6_init 31 = .ok (.aload_n 0, 1) := by decide +kernel
theorem dX6_init_32 : decode cX6_init 32 = .ok (.sipush 2204, 3) := by decide +kernel
theorem dX6_init_35 : decode cX6_init 35 = .ok (.newarray .int, 2) := by decide +kernel
theorem dX6_init_37 : decode cX6_init 37 = .ok (.putfield 19, 3) := by decide +kernel
theorem dX6_init_40 : decode cX6_init 40 = .ok (.aload_n 0, 1) := by decide +kernel
theorem dX6_init_41 : decode cX6_init 41 = .ok (.bipush 60, 2) := by decide +kernel
theorem dX6_init_43 : decode cX6_init 43 = .ok (.newarray .int, 2) := by decide +kernel
theorem dX6_init_45 : decode cX6_init 45 = .ok (.putfield 22, 3) := by decide +kernel
theorem dX6_init_48 : decode cX6_init 48 = .ok (.aload_n 0, 1) := by decide +kernel
theorem dX6_init_49 : decode cX6_init 49 = .ok (.sipush 201, 3) := by decide +kernel
theorem dX6_init_52 : decode cX6_init 52 = .ok (.newarray .boolean, 2) := by decide +kernel
theorem dX6_init_54 : decode cX6_init 54 = .ok (.putfield 25, 3) := by decide +kernel
theorem dX6_init_57 : decode cX6_init 57 = .ok (.aload_n 0, 1) := by decide +kernel
theorem dX6_init_58 : decode cX6_init 58 = .ok (.iconst 4, 1) := by decide +kernel
theorem dX6_init_59 : decode cX6_init 59 = .ok (.newarray .int, 2) := by decide +kernel
theorem dX6_init_61 : decode cX6_init 61 = .ok (.putfield 29, 3) := by decide +kernel
theorem dX6_init_64 : decode cX6_init 64 = .ok (.aload_n 0, 1) := by decide +kernel
theorem dX6_init_65 : decode cX6_init 65 = .ok (.getfield 7, 3) := by decide +kernel
theorem dX6_init_68 : decode cX6_init 68 = .ok (.iconst 1, 1) := by decide +kernel
theorem dX6_init_69 : decode cX6_init 69 = .ok (.iconst 2, 1) := by decide +kernel
theorem dX6_init_70 : decode cX6_init 70 = .ok (.iastore, 1) := by decide +kernel
theorem dX6_init_71 : decode cX6_init 71 = .ok (.aload_n 0, 1) := by decide +kernel
theorem dX6_init_72 : decode cX6_init 72 = .ok (.getfield 7, 3) := by decide +kernel
theorem dX6_init_75 : decode cX6_init 75 = .ok (.iconst 2, 1) := by decide +kernel
theorem dX6_init_76 : decode cX6_init 76 = .ok (.iconst 4, 1) := by decide +kernel
theorem dX6_init_77 : decode cX6_init 77 = .ok (.iastore, 1) := by decide +kernel
theorem dX6_init_78 : decode cX6_init 78 = .ok (.aload_n 0, 1) := by decide +kernel
theorem dX6_init_79 : decode cX6_init 79 = .ok (.getfield 7, 3) := by decide +kernel
theorem dX6_init_82 : decode cX6_init 82 = .ok (.iconst 3, 1) := by decide +kernel
theorem dX6_init_83 : decode cX6_init 83 = .ok (.iconst 2, 1) := by decide +kernel
theorem dX6_init_84 : decode cX6_init 84 = .ok (.iastore, 1) := by decide +kernel
theorem dX6_init_85 : decode cX6_init 85 = .ok (.iconst 0, 1) := by decide +kernel
theorem dX6_init_86 : decode cX6_init 86 = .ok (.istore_n 1, 1) := by decide +kernel
theorem dX6_init_87 : decode cX6_init 87 = .ok (.iload_n 1, 1) := by decide +kernel
theorem dX6_init_88 : decode cX6_init 88 = .ok (.bipush 8, 2) := by decide +kernel
theorem dX6_init_90 : decode cX6_init 90 = .ok (.if_icmp .ge 41, 3) := by decide +kernel
theorem dX6_init_93 : decode cX6_init 93 = .ok (.aload_n 0, 1) := by decide +kernel
theorem dX6_init_94 : decode cX6_init 94 = .ok (.getfield 7, 3) := by decide +kernel
theorem dX6_init_97 : decode cX6_init 97 = .ok (.iload_n 1, 1) := by decide +kernel
theorem dX6_init_98 : decode cX6_init 98 = .ok (.iconst 1, 1) := by decide +kernel
theorem dX6_init_99 : decode cX6_init 99 = .ok (.invokestatic 32, 3) := by decide +kernel
theorem dX6_init_102 : decode cX6_init 102 = .ok (.bipush 8, 2) := by decide +kernel
theorem dX6_init_104 : decode cX6_init 104 = .ok (.iastore, 1) := by decide +kernel
theorem dX6_init_105 : decode cX6_init 105 = .ok (.aload_n 0, 1) := by decide +kernel
theorem dX6_init_106 : decode cX6_init 106 = .ok (.getfield 7, 3) := by decide +kernel
theorem dX6_init_109 : decode cX6_init 109 = .ok (.iload_n 1, 1) := by decide +kernel
theorem dX6_init_110 : decode cX6_init 110 = .ok (.iconst 2, 1) := by decide +kernel
theorem dX6_init_111 : decode cX6_init 111 = .ok (.invokestatic 32, 3) := by decide +kernel
theorem dX6_init_114 : decode cX6_init 114 = .ok (.iconst 2, 1) := by decide +kernel
theorem dX6_init_115 : decode cX6_init 115 = .ok (.iload_n 1, 1) := by decide +kernel
theorem dX6_init_116 : decode cX6_init 116 = .ok (.iconst 3, 1) := by decide +kernel
theorem dX6_init_117 : decode cX6_init 117 = .ok (.irem, 1) := by decide +kernel
theorem dX6_init_118 : decode cX6_init 118 = .ok (.iadd, 1) := by decide +kernel
theorem dX6_init_119 : decode cX6_init 119 = .ok (.iastore, 1) := by decide +kernel
theorem dX6_init_120 : decode cX6_init 120 = .ok (.aload_n 0, 1) := by decide +kernel
theorem dX6_init_121 : decode cX6_init 121 = .ok (.iload_n 1, 1) := by decide +kernel
theorem dX6_init_122 : decode cX6_init 122 = .ok (.invokevirtual 36, 3) := by decide +kernel
theorem dX6_init_125 : decode cX6_init 125 = .ok (.iinc 1 1, 3) := by decide +kernel
theorem dX6_init_128 : decode cX6_init 128 = .ok (.goto (-41), 3) := by decide +kernel
theorem dX6_init_131 : decode cX6_init 131 = .ok (.iconst 0, 1) := by decide +kernel
theorem dX6_init_132 : decode cX6_init 132 = .ok (.istore_n 1, 1) := by decide +kernel
theorem dX6_init_133 : decode cX6_init 133 = .ok (.iload_n 1, 1) := by decide +kernel
theorem dX6_init_134 : decode cX6_init 134 = .ok (.iconst 4, 1) := by decide +kernel
theorem dX6_init_135 : decode cX6_init 135 = .ok (.if_icmp .ge 20, 3) := by decide +kernel
theorem dX6_init_138 : decode cX6_init 138 = .ok (.aload_n 0, 1) := by decide +kernel
theorem dX6_init_139 : decode cX6_init 139 = .ok (.getfield 7, 3) := by decide +kernel
theorem dX6_init_142 : decode cX6_init 142 = .ok (.iload_n 1, 1) := by decide +kernel
theorem dX6_init_143 : decode cX6_init 143 = .ok (.iconst 0, 1) := by decide +kernel
theorem dX6_init_144 : decode cX6_init 144 = .ok (.invokestatic 40, 3) := by decide +kernel
theorem dX6_init_147 : decode cX6_init 147 = .ok (.iconst 3, 1) := by decide +kernel
theorem dX6_init_148 : decode cX6_init 148 = .ok (.iastore, 1) := by decide +kernel
theorem dX6_init_149 : decode cX6_init 149 = .ok (.iinc 1 1, 3) := by decide +kernel
theorem dX6_init_152 : decode cX6_init 152 = .ok (.goto (-19), 3) := by decide +kernel
theorem dX6_init_155 : decode cX6_init 155 = .ok (.return_, 1) := by decide +kernel
theorem dX6_in_0 : decode cX6_in 0 = .ok (.iload_n 0, 1) := by decide +kernel
theorem dX6_in_1 : decode cX6_in 1 = .ok (.iload_n 1, 1) := by decide +kernel
theorem dX6_in_2 : decode cX6_in 2 = .ok (.if_icmp .lt 12, 3) := by decide +kernel
theorem dX6_in_5 : decode cX6_in 5 = .ok (.iload_n 0, 1) := by decide +kernel
theorem dX6_in_6 : decode cX6_in 6 = .ok (.iload_n 2, 1) := by decide +kernel
theorem dX6_in_7 : decode cX6_in 7 = .ok (.if_icmp .gt 7, 3) := by decide +kernel
theorem dX6_in_10 : decode cX6_in 10 = .ok (.iconst 1, 1) := by decide +kernel
theorem dX6_in_11 : decode cX6_in 11 = .ok (.goto 4, 3) := by decide +kernel
theorem dX6_in_14 : decode cX6_in 14 = .ok (.iconst 0, 1) := by decide +kernel
theorem dX6_in_15 : decode cX6_in 15 = .ok (.ireturn, 1) := by decide +kernel
theorem dX6_isZone_0 : decode cX6_isZone 0 = .ok (.iload_n 0, 1) := by decide +kernel
theorem dX6_isZone_1 : decode cX6_isZone 1 = .ok (.iconst 0, 1) := by decide +kernel
theorem dX6_isZone_2 : decode cX6_isZone 2 = .ok (.bipush 7, 2) := by decide +kernel
theorem dX6_isZone_4 : decode cX6_isZone 4 = .ok (.invokestatic 43, 3) := by decide +kernel
theorem dX6_isZone_7 : decode cX6_isZone 7 = .ok (.ireturn, 1) := by decide +kernel
theorem dX6_isWriter_0 : decode cX6_isWriter 0 = .ok (.iload_n 0, 1) := by decide +kernel
theorem dX6_isWriter_1 : decode cX6_isWriter 1 = .ok (.iconst 0, 1) := by decide +kernel
theorem dX6_isWriter_2 : decode cX6_isWriter 2 = .ok (.iconst 3, 1) := by decide +kernel
theorem dX6_isWriter_3 : decode cX6_isWriter 3 = .ok (.invokestatic 43, 3) := by decide +kernel
theorem dX6_isWriter_6 : decode cX6_isWriter 6 = .ok (.ireturn, 1) := by decide +kernel
theorem dX6_isAppend_0 : decode cX6_isAppend 0 = .ok (.iload_n 1, 1) := by decide +kernel
theorem dX6_isAppend_1 : decode cX6_isAppend 1 = .ok (.iconst 0, 1) := by decide +kernel
theorem dX6_isAppend_2 : decode cX6_isAppend 2 = .ok (.aload_n 0, 1) := by decide +kernel
theorem dX6_isAppend_3 : decode cX6_isAppend 3 = .ok (.getfield 7, 3) := by decide +kernel
theorem dX6_isAppend_6 : decode cX6_isAppend 6 = .ok (.iconst 5, 1) := by decide +kernel
theorem dX6_isAppend_7 : decode cX6_isAppend 7 = .ok (.iaload, 1) := by decide +kernel
theorem dX6_isAppend_8 : decode cX6_isAppend 8 = .ok (.iconst 1, 1) := by decide +kernel
theorem dX6_isAppend_9 : decode cX6_isAppend 9 = .ok (.isub, 1) := by decide +kernel
theorem dX6_isAppend_10 : decode cX6_isAppend 10 = .ok (.invokestatic 43, 3) := by decide +kernel
theorem dX6_isAppend_13 : decode cX6_isAppend 13 = .ok (.ireturn, 1) := by decide +kernel
theorem dX6_of_0 : decode cX6_of 0 = .ok (.bipush 10, 2) := by decide +kernel
theorem dX6_of_2 : decode cX6_of 2 = .ok (.bipush 22, 2) := by decide +kernel
theorem dX6_of_4 : decode cX6_of 4 = .ok (.iload_n 0, 1) := by decide +kernel
theorem dX6_of_5 : decode cX6_of 5 = .ok (.imul, 1) := by decide +kernel
theorem dX6_of_6 : decode cX6_of 6 = .ok (.iadd, 1) := by decide +kernel
theorem dX6_of_7 : decode cX6_of 7 = .ok (.iload_n 1, 1) := by decide +kernel
theorem dX6_of_8 : decode cX6_of 8 = .ok (.iadd, 1) := by decide +kernel
theorem dX6_of_9 : decode cX6_of 9 = .ok (.ireturn, 1) := by decide +kernel
theorem dX6_ofWriter_0 : decode cX6_ofWriter 0 = .ok (.sipush 186, 3) := by decide +kernel
theorem dX6_ofWriter_3 : decode cX6_ofWriter 3 = .ok (.iconst 2, 1) := by decide +kernel
theorem dX6_ofWriter_4 : decode cX6_ofWriter 4 = .ok (.iload_n 0, 1) := by decide +kernel
theorem dX6_ofWriter_5 : decode cX6_ofWriter 5 = .ok (.imul, 1) := by decide +kernel
theorem dX6_ofWriter_6 : decode cX6_ofWriter 6 = .ok (.iadd, 1) := by decide +kernel
theorem dX6_ofWriter_7 : decode cX6_ofWriter 7 = .ok (.iload_n 1, 1) := by decide +kernel
theorem dX6_ofWriter_8 : decode cX6_ofWriter 8 = .ok (.iadd, 1) := by decide +kernel
theorem dX6_ofWriter_9 : decode cX6_ofWriter 9 = .ok (.ireturn, 1) := by decide +kernel
theorem dX6_ofAppend_0 : decode cX6_ofAppend 0 = .ok (.sipush 194, 3) := by decide +kernel
theorem dX6_ofAppend_3 : decode cX6_ofAppend 3 = .ok (.bipush 9, 2) := by decide +kernel
theorem dX6_ofAppend_5 : decode cX6_ofAppend 5 = .ok (.iload_n 0, 1) := by decide +kernel
theorem dX6_ofAppend_6 : decode cX6_ofAppend 6 = .ok (.imul, 1) := by decide +kernel
theorem dX6_ofAppend_7 : decode cX6_ofAppend 7 = .ok (.iadd, 1) := by decide +kernel
theorem dX6_ofAppend_8 : decode cX6_ofAppend 8 = .ok (.iload_n 1, 1) := by decide +kernel
theorem dX6_ofAppend_9 : decode cX6_ofAppend 9 = .ok (.iadd, 1) := by decide +kernel
theorem dX6_ofAppend_10 : decode cX6_ofAppend 10 = .ok (.ireturn, 1) := by decide +kernel
theorem dX6_know_0 : decode cX6_know 0 = .ok (.aload_n 0, 1) := by decide +kernel
theorem dX6_know_1 : decode cX6_know 1 = .ok (.getfield 47, 3) := by decide +kernel
theorem dX6_know_4 : decode cX6_know 4 = .ok (.iconst 4, 1) := by decide +kernel
theorem dX6_know_5 : decode cX6_know 5 = .ok (.if_icmp .ne 44, 3) := by decide +kernel
theorem dX6_know_8 : decode cX6_know 8 = .ok (.iconst 0, 1) := by decide +kernel
theorem dX6_know_9 : decode cX6_know 9 = .ok (.istore_n 1, 1) := by decide +kernel
theorem dX6_know_10 : decode cX6_know 10 = .ok (.iload_n 1, 1) := by decide +kernel
theorem dX6_know_11 : decode cX6_know 11 = .ok (.sipush 6612, 3) := by decide +kernel
theorem dX6_know_14 : decode cX6_know 14 = .ok (.if_icmp .ge 25, 3) := by decide +kernel
theorem dX6_know_17 : decode cX6_know 17 = .ok (.aload_n 0, 1) := by decide +kernel
theorem dX6_know_18 : decode cX6_know 18 = .ok (.getfield 16, 3) := by decide +kernel
theorem dX6_know_21 : decode cX6_know 21 = .ok (.iload_n 1, 1) := by decide +kernel
theorem dX6_know_22 : decode cX6_know 22 = .ok (.aload_n 0, 1) := by decide +kernel
theorem dX6_know_23 : decode cX6_know 23 = .ok (.getfield 16, 3) := by decide +kernel
theorem dX6_know_26 : decode cX6_know 26 = .ok (.sipush 2204, 3) := by decide +kernel
theorem dX6_know_29 : decode cX6_know 29 = .ok (.iload_n 1, 1) := by decide +kernel
theorem dX6_know_30 : decode cX6_know 30 = .ok (.iadd, 1) := by decide +kernel
theorem dX6_know_31 : decode cX6_know 31 = .ok (.iaload, 1) := by decide +kernel
theorem dX6_know_32 : decode cX6_know 32 = .ok (.iastore, 1) := by decide +kernel
theorem dX6_know_33 : decode cX6_know 33 = .ok (.iinc 1 1, 3) := by decide +kernel
theorem dX6_know_36 : decode cX6_know 36 = .ok (.goto (-26), 3) := by decide +kernel
theorem dX6_know_39 : decode cX6_know 39 = .ok (.aload_n 0, 1) := by decide +kernel
theorem dX6_know_40 : decode cX6_know 40 = .ok (.dup, 1) := by decide +kernel
theorem dX6_know_41 : decode cX6_know 41 = .ok (.getfield 47, 3) := by decide +kernel
theorem dX6_know_44 : decode cX6_know 44 = .ok (.iconst 1, 1) := by decide +kernel
theorem dX6_know_45 : decode cX6_know 45 = .ok (.isub, 1) := by decide +kernel
theorem dX6_know_46 : decode cX6_know 46 = .ok (.putfield 47, 3) := by decide +kernel
theorem dX6_know_49 : decode cX6_know 49 = .ok (.iconst 0, 1) := by decide +kernel
theorem dX6_know_50 : decode cX6_know 50 = .ok (.istore_n 1, 1) := by decide +kernel
theorem dX6_know_51 : decode cX6_know 51 = .ok (.iload_n 1, 1) := by decide +kernel
theorem dX6_know_52 : decode cX6_know 52 = .ok (.sipush 2204, 3) := by decide +kernel
theorem dX6_know_55 : decode cX6_know 55 = .ok (.if_icmp .ge 30, 3) := by decide +kernel
theorem dX6_know_58 : decode cX6_know 58 = .ok (.aload_n 0, 1) := by decide +kernel
theorem dX6_know_59 : decode cX6_know 59 = .ok (.getfield 16, 3) := by decide +kernel
theorem dX6_know_62 : decode cX6_know 62 = .ok (.sipush 2204, 3) := by decide +kernel
theorem dX6_know_65 : decode cX6_know 65 = .ok (.aload_n 0, 1) := by decide +kernel
theorem dX6_know_66 : decode cX6_know 66 = .ok (.getfield 47, 3) := by decide +kernel
theorem dX6_know_69 : decode cX6_know 69 = .ok (.imul, 1) := by decide +kernel
theorem dX6_know_70 : decode cX6_know 70 = .ok (.iload_n 1, 1) := by decide +kernel
theorem dX6_know_71 : decode cX6_know 71 = .ok (.iadd, 1) := by decide +kernel
theorem dX6_know_72 : decode cX6_know 72 = .ok (.aload_n 0, 1) := by decide +kernel
theorem dX6_know_73 : decode cX6_know 73 = .ok (.getfield 7, 3) := by decide +kernel
theorem dX6_know_76 : decode cX6_know 76 = .ok (.iload_n 1, 1) := by decide +kernel
theorem dX6_know_77 : decode cX6_know 77 = .ok (.iaload, 1) := by decide +kernel
theorem dX6_know_78 : decode cX6_know 78 = .ok (.iastore, 1) := by decide +kernel
theorem dX6_know_79 : decode cX6_know 79 = .ok (.iinc 1 1, 3) := by decide +kernel
theorem dX6_know_82 : decode cX6_know 82 = .ok (.goto (-31), 3) := by decide +kernel
theorem dX6_know_85 : decode cX6_know 85 = .ok (.aload_n 0, 1) := by decide +kernel
theorem dX6_know_86 : decode cX6_know 86 = .ok (.dup, 1) := by decide +kernel
theorem dX6_know_87 : decode cX6_know 87 = .ok (.getfield 47, 3) := by decide +kernel
theorem dX6_know_90 : decode cX6_know 90 = .ok (.iconst 1, 1) := by decide +kernel
theorem dX6_know_91 : decode cX6_know 91 = .ok (.iadd, 1) := by decide +kernel
theorem dX6_know_92 : decode cX6_know 92 = .ok (.putfield 47, 3) := by decide +kernel
theorem dX6_know_95 : decode cX6_know 95 = .ok (.return_, 1) := by decide +kernel
theorem dX6_putAside_0 : decode cX6_putAside 0 = .ok (.iconst 0, 1) := by decide +kernel
theorem dX6_putAside_1 : decode cX6_putAside 1 = .ok (.istore_n 1, 1) := by decide +kernel
theorem dX6_putAside_2 : decode cX6_putAside 2 = .ok (.iload_n 1, 1) := by decide +kernel
theorem dX6_putAside_3 : decode cX6_putAside 3 = .ok (.sipush 2204, 3) := by decide +kernel
theorem dX6_putAside_6 : decode cX6_putAside 6 = .ok (.if_icmp .ge 21, 3) := by decide +kernel
theorem dX6_putAside_9 : decode cX6_putAside 9 = .ok (.aload_n 0, 1) := by decide +kernel
theorem dX6_putAside_10 : decode cX6_putAside 10 = .ok (.getfield 13, 3) := by decide +kernel
theorem dX6_putAside_13 : decode cX6_putAside 13 = .ok (.iload_n 1, 1) := by decide +kernel
theorem dX6_putAside_14 : decode cX6_putAside 14 = .ok (.aload_n 0, 1) := by decide +kernel
theorem dX6_putAside_15 : decode cX6_putAside 15 = .ok (.getfield 7, 3) := by decide +kernel
theorem dX6_putAside_18 : decode cX6_putAside 18 = .ok (.iload_n 1, 1) := by decide +kernel
theorem dX6_putAside_19 : decode cX6_putAside 19 = .ok (.iaload, 1) := by decide +kernel
theorem dX6_putAside_20 : decode cX6_putAside 20 = .ok (.iastore, 1) := by decide +kernel
theorem dX6_putAside_21 : decode cX6_putAside 21 = .ok (.iinc 1 1, 3) := by decide +kernel
theorem dX6_putAside_24 : decode cX6_putAside 24 = .ok (.goto (-22), 3) := by decide +kernel
theorem dX6_putAside_27 : decode cX6_putAside 27 = .ok (.return_, 1) := by decide +kernel
theorem dX6_putBack_0 : decode cX6_putBack 0 = .ok (.iconst 0, 1) := by decide +kernel
theorem dX6_putBack_1 : decode cX6_putBack 1 = .ok (.istore_n 1, 1) := by decide +kernel
theorem dX6_putBack_2 : decode cX6_putBack 2 = .ok (.iload_n 1, 1) := by decide +kernel
theorem dX6_putBack_3 : decode cX6_putBack 3 = .ok (.sipush 2204, 3) := by decide +kernel
theorem dX6_putBack_6 : decode cX6_putBack 6 = .ok (.if_icmp .ge 21, 3) := by decide +kernel
theorem dX6_putBack_9 : decode cX6_putBack 9 = .ok (.aload_n 0, 1) := by decide +kernel
theorem dX6_putBack_10 : decode cX6_putBack 10 = .ok (.getfield 7, 3) := by decide +kernel
theorem dX6_putBack_13 : decode cX6_putBack 13 = .ok (.iload_n 1, 1) := by decide +kernel
theorem dX6_putBack_14 : decode cX6_putBack 14 = .ok (.aload_n 0, 1) := by decide +kernel
theorem dX6_putBack_15 : decode cX6_putBack 15 = .ok (.getfield 13, 3) := by decide +kernel
theorem dX6_putBack_18 : decode cX6_putBack 18 = .ok (.iload_n 1, 1) := by decide +kernel
theorem dX6_putBack_19 : decode cX6_putBack 19 = .ok (.iaload, 1) := by decide +kernel
theorem dX6_putBack_20 : decode cX6_putBack 20 = .ok (.iastore, 1) := by decide +kernel
theorem dX6_putBack_21 : decode cX6_putBack 21 = .ok (.iinc 1 1, 3) := by decide +kernel
theorem dX6_putBack_24 : decode cX6_putBack 24 = .ok (.goto (-22), 3) := by decide +kernel
theorem dX6_putBack_27 : decode cX6_putBack 27 = .ok (.return_, 1) := by decide +kernel
theorem dX6_change_0 : decode cX6_change 0 = .ok (.aload_n 0, 1) := by decide +kernel
theorem dX6_change_1 : decode cX6_change 1 = .ok (.getfield 7, 3) := by decide +kernel
theorem dX6_change_4 : decode cX6_change 4 = .ok (.iload_n 1, 1) := by decide +kernel
theorem dX6_change_5 : decode cX6_change 5 = .ok (.iaload, 1) := by decide +kernel
theorem dX6_change_6 : decode cX6_change 6 = .ok (.istore_n 3, 1) := by decide +kernel
theorem dX6_change_7 : decode cX6_change 7 = .ok (.iload_n 3, 1) := by decide +kernel
theorem dX6_change_8 : decode cX6_change 8 = .ok (.iload_n 2, 1) := by decide +kernel
theorem dX6_change_9 : decode cX6_change 9 = .ok (.if_icmp .ne 6, 3) := by decide +kernel
theorem dX6_change_12 : decode cX6_change 12 = .ok (.bipush (-5), 2) := by decide +kernel
theorem dX6_change_14 : decode cX6_change 14 = .ok (.ireturn, 1) := by decide +kernel
theorem dX6_change_15 : decode cX6_change 15 = .ok (.aload_n 0, 1) := by decide +kernel
theorem dX6_change_16 : decode cX6_change 16 = .ok (.invokevirtual 51, 3) := by decide +kernel
theorem dX6_change_19 : decode cX6_change 19 = .ok (.aload_n 0, 1) := by decide +kernel
theorem dX6_change_20 : decode cX6_change 20 = .ok (.getfield 7, 3) := by decide +kernel
theorem dX6_change_23 : decode cX6_change 23 = .ok (.iload_n 1, 1) := by decide +kernel
theorem dX6_change_24 : decode cX6_change 24 = .ok (.iload_n 2, 1) := by decide +kernel
theorem dX6_change_25 : decode cX6_change 25 = .ok (.iastore, 1) := by decide +kernel
theorem dX6_change_26 : decode cX6_change 26 = .ok (.iload_n 3, 1) := by decide +kernel
theorem dX6_change_27 : decode cX6_change 27 = .ok (.ireturn, 1) := by decide +kernel
theorem dX6_zones_0 : decode cX6_zones 0 = .ok (.iconst 0, 1) := by decide +kernel
theorem dX6_zones_1 : decode cX6_zones 1 = .ok (.istore_n 2, 1) := by decide +kernel
theorem dX6_zones_2 : decode cX6_zones 2 = .ok (.iconst 0, 1) := by decide +kernel
theorem dX6_zones_3 : decode cX6_zones 3 = .ok (.istore_n 3, 1) := by decide +kernel
theorem dX6_zones_4 : decode cX6_zones 4 = .ok (.iload_n 3, 1) := by decide +kernel
theorem dX6_zones_5 : decode cX6_zones 5 = .ok (.bipush 8, 2) := by decide +kernel
theorem dX6_zones_7 : decode cX6_zones 7 = .ok (.if_icmp .ge 49, 3) := by decide +kernel
theorem dX6_zones_10 : decode cX6_zones 10 = .ok (.iload_n 2, 1) := by decide +kernel
theorem dX6_zones_11 : decode cX6_zones 11 = .ok (.aload_n 0, 1) := by decide +kernel
theorem dX6_zones_12 : decode cX6_zones 12 = .ok (.getfield 7, 3) := by decide +kernel
theorem dX6_zones_15 : decode cX6_zones 15 = .ok (.iload_n 3, 1) := by decide +kernel
theorem dX6_zones_16 : decode cX6_zones 16 = .ok (.iconst 0, 1) := by decide +kernel
theorem dX6_zones_17 : decode cX6_zones 17 = .ok (.invokestatic 32, 3) := by decide +kernel
theorem dX6_zones_20 : decode cX6_zones 20 = .ok (.iaload, 1) := by decide +kernel
theorem dX6_zones_21 : decode cX6_zones 21 = .ok (.iconst 1, 1) := by decide +kernel
theorem dX6_zones_22 : decode cX6_zones 22 = .ok (.if_icmp .eq 21, 3) := by decide +kernel
theorem dX6_zones_25 : decode cX6_zones 25 = .ok (.iload_n 1, 1) := by decide +kernel
theorem dX6_zones_26 : decode cX6_zones 26 = .ok (.ifCond .eq 21, 3) := by decide +kernel
theorem dX6_zones_29 : decode cX6_zones 29 = .ok (.aload_n 0, 1) := by decide +kernel
theorem dX6_zones_30 : decode cX6_zones 30 = .ok (.getfield 7, 3) := by decide +kernel
theorem dX6_zones_33 : decode cX6_zones 33 = .ok (.iload_n 3, 1) := by decide +kernel
theorem dX6_zones_34 : decode cX6_zones 34 = .ok (.iconst 0, 1) := by decide +kernel
theorem dX6_zones_35 : decode cX6_zones 35 = .ok (.invokestatic 32, 3) := by decide +kernel
theorem dX6_zones_38 : decode cX6_zones 38 = .ok (.iaload, 1) := by decide +kernel
theorem dX6_zones_39 : decode cX6_zones 39 = .ok (.iconst 2, 1) := by decide +kernel
theorem dX6_zones_40 : decode cX6_zones 40 = .ok (.if_icmp .ne 7, 3) := by decide +kernel
theorem dX6_zones_43 : decode cX6_zones 43 = .ok (.iconst 1, 1) := by decide +kernel
theorem dX6_zones_44 : decode cX6_zones 44 = .ok (.goto 4, 3) := by decide +kernel
theorem dX6_zones_47 : decode cX6_zones 47 = .ok (.iconst 0, 1) := by decide +kernel
theorem dX6_zones_48 : decode cX6_zones 48 = .ok (.iadd, 1) := by decide +kernel
theorem dX6_zones_49 : decode cX6_zones 49 = .ok (.istore_n 2, 1) := by decide +kernel
theorem dX6_zones_50 : decode cX6_zones 50 = .ok (.iinc 3 1, 3) := by decide +kernel
theorem dX6_zones_53 : decode cX6_zones 53 = .ok (.goto (-49), 3) := by decide +kernel
theorem dX6_zones_56 : decode cX6_zones 56 = .ok (.iload_n 2, 1) := by decide +kernel
theorem dX6_zones_57 : decode cX6_zones 57 = .ok (.ireturn, 1) := by decide +kernel
theorem dX6_appends_0 : decode cX6_appends 0 = .ok (.iconst 0, 1) := by decide +kernel
theorem dX6_appends_1 : decode cX6_appends 1 = .ok (.istore_n 3, 1) := by decide +kernel
theorem dX6_appends_2 : decode cX6_appends 2 = .ok (.iconst 0, 1) := by decide +kernel
theorem dX6_appends_3 : decode cX6_appends 3 = .ok (.istore 4, 2) := by decide +kernel
theorem dX6_appends_5 : decode cX6_appends 5 = .ok (.iload 4, 2) := by decide +kernel
theorem dX6_appends_7 : decode cX6_appends 7 = .ok (.aload_n 0, 1) := by decide +kernel
theorem dX6_appends_8 : decode cX6_appends 8 = .ok (.getfield 7, 3) := by decide +kernel
theorem dX6_appends_11 : decode cX6_appends 11 = .ok (.iconst 5, 1) := by decide +kernel
theorem dX6_appends_12 : decode cX6_appends 12 = .ok (.iaload, 1) := by decide +kernel
theorem dX6_appends_13 : decode cX6_appends 13 = .ok (.if_icmp .ge 51, 3) := by decide +kernel
theorem dX6_appends_16 : decode cX6_appends 16 = .ok (.iload_n 3, 1) := by decide +kernel
theorem dX6_appends_17 : decode cX6_appends 17 = .ok (.aload_n 0, 1) := by decide +kernel
theorem dX6_appends_18 : decode cX6_appends 18 = .ok (.getfield 7, 3) := by decide +kernel
theorem dX6_appends_21 : decode cX6_appends 21 = .ok (.iload 4, 2) := by decide +kernel
theorem dX6_appends_23 : decode cX6_appends 23 = .ok (.iconst 3, 1) := by decide +kernel
theorem dX6_appends_24 : decode cX6_appends 24 = .ok (.invokestatic 54, 3) := by decide +kernel
theorem dX6_appends_27 : decode cX6_appends 27 = .ok (.iaload, 1) := by decide +kernel
theorem dX6_appends_28 : decode cX6_appends 28 = .ok (.iload_n 1, 1) := by decide +kernel
theorem dX6_appends_29 : decode cX6_appends 29 = .ok (.if_icmp .ne 26, 3) := by decide +kernel
theorem dX6_appends_32 : decode cX6_appends 32 = .ok (.iload_n 2, 1) := by decide +kernel
theorem dX6_appends_33 : decode cX6_appends 33 = .ok (.ifCond .lt 18, 3) := by decide +kernel
theorem dX6_appends_36 : decode cX6_appends 36 = .ok (.aload_n 0, 1) := by decide +kernel
theorem dX6_appends_37 : decode cX6_appends 37 = .ok (.getfield 7, 3) := by decide +kernel
theorem dX6_appends_40 : decode cX6_appends 40 = .ok (.iload 4, 2) := by decide +kernel
theorem dX6_appends_42 : decode cX6_appends 42 = .ok (.iconst 1, 1) := by decide +kernel
theorem dX6_appends_43 : decode cX6_appends 43 = .ok (.invokestatic 54, 3) := by decide +kernel
theorem dX6_appends_46 : decode cX6_appends 46 = .ok (.iaload, 1) := by decide +kernel
theorem dX6_appends_47 : decode cX6_appends 47 = .ok (.iload_n 2, 1) := by decide +kernel
theorem dX6_appends_48 : decode cX6_appends 48 = .ok (.if_icmp .ne 7, 3) := by decide +kernel
theorem dX6_appends_51 : decode cX6_appends 51 = .ok (.iconst 1, 1) := by decide +kernel
theorem dX6_appends_52 : decode cX6_appends 52 = .ok (.goto 4, 3) := by decide +kernel
theorem dX6_appends_55 : decode cX6_appends 55 = .ok (.iconst 0, 1) := by decide +kernel
theorem dX6_appends_56 : decode cX6_appends 56 = .ok (.iadd, 1) := by decide +kernel
theorem dX6_appends_57 : decode cX6_appends 57 = .ok (.istore_n 3, 1) := by decide +kernel
theorem dX6_appends_58 : decode cX6_appends 58 = .ok (.iinc 4 1, 3) := by decide +kernel
theorem dX6_appends_61 : decode cX6_appends 61 = .ok (.goto (-56), 3) := by decide +kernel
theorem dX6_appends_64 : decode cX6_appends 64 = .ok (.iload_n 3, 1) := by decide +kernel
theorem dX6_appends_65 : decode cX6_appends 65 = .ok (.ireturn, 1) := by decide +kernel
theorem dX6_appendsOf_0 : decode cX6_appendsOf 0 = .ok (.iconst 0, 1) := by decide +kernel
theorem dX6_appendsOf_1 : decode cX6_appendsOf 1 = .ok (.istore_n 3, 1) := by decide +kernel
theorem dX6_appendsOf_2 : decode cX6_appendsOf 2 = .ok (.iconst 0, 1) := by decide +kernel
theorem dX6_appendsOf_3 : decode cX6_appendsOf 3 = .ok (.istore 4, 2) := by decide +kernel
theorem dX6_appendsOf_5 : decode cX6_appendsOf 5 = .ok (.iload 4, 2) := by decide +kernel
theorem dX6_appendsOf_7 : decode cX6_appendsOf 7 = .ok (.aload_n 0, 1) := by decide +kernel
theorem dX6_appendsOf_8 : decode cX6_appendsOf 8 = .ok (.getfield 7, 3) := by decide +kernel
theorem dX6_appendsOf_11 : decode cX6_appendsOf 11 = .ok (.iconst 5, 1) := by decide +kernel
theorem dX6_appendsOf_12 : decode cX6_appendsOf 12 = .ok (.iaload, 1) := by decide +kernel
theorem dX6_appendsOf_13 : decode cX6_appendsOf 13 = .ok (.if_icmp .ge 47, 3) := by decide +kernel
theorem dX6_appendsOf_16 : decode cX6_appendsOf 16 = .ok (.iload_n 3, 1) := by decide +kernel
theorem dX6_appendsOf_17 : decode cX6_appendsOf 17 = .ok (.aload_n 0, 1) := by decide +kernel
theorem dX6_appendsOf_18 : decode cX6_appendsOf 18 = .ok (.getfield 7, 3) := by decide +kernel
theorem dX6_appendsOf_21 : decode cX6_appendsOf 21 = .ok (.iload 4, 2) := by decide +kernel
theorem dX6_appendsOf_23 : decode cX6_appendsOf 23 = .ok (.iconst 3, 1) := by decide +kernel
theorem dX6_appendsOf_24 : decode cX6_appendsOf 24 = .ok (.invokestatic 54, 3) := by decide +kernel
theorem dX6_appendsOf_27 : decode cX6_appendsOf 27 = .ok (.iaload, 1) := by decide +kernel
theorem dX6_appendsOf_28 : decode cX6_appendsOf 28 = .ok (.iload_n 1, 1) := by decide +kernel
theorem dX6_appendsOf_29 : decode cX6_appendsOf 29 = .ok (.if_icmp .ne 22, 3) := by decide +kernel
theorem dX6_appendsOf_32 : decode cX6_appendsOf 32 = .ok (.aload_n 0, 1) := by decide +kernel
theorem dX6_appendsOf_33 : decode cX6_appendsOf 33 = .ok (.getfield 7, 3) := by decide +kernel
theorem dX6_appendsOf_36 : decode cX6_appendsOf 36 = .ok (.iload 4, 2) := by decide +kernel
theorem dX6_appendsOf_38 : decode cX6_appendsOf 38 = .ok (.iconst 0, 1) := by decide +kernel
theorem dX6_appendsOf_39 : decode cX6_appendsOf 39 = .ok (.invokestatic 54, 3) := by decide +kernel
theorem dX6_appendsOf_42 : decode cX6_appendsOf 42 = .ok (.iaload, 1) := by decide +kernel
theorem dX6_appendsOf_43 : decode cX6_appendsOf 43 = .ok (.iload_n 2, 1) := by decide +kernel
theorem dX6_appendsOf_44 : decode cX6_appendsOf 44 = .ok (.if_icmp .ne 7, 3) := by decide +kernel
theorem dX6_appendsOf_47 : decode cX6_appendsOf 47 = .ok (.iconst 1, 1) := by decide +kernel
theorem dX6_appendsOf_48 : decode cX6_appendsOf 48 = .ok (.goto 4, 3) := by decide +kernel
theorem dX6_appendsOf_51 : decode cX6_appendsOf 51 = .ok (.iconst 0, 1) := by decide +kernel
theorem dX6_appendsOf_52 : decode cX6_appendsOf 52 = .ok (.iadd, 1) := by decide +kernel
theorem dX6_appendsOf_53 : decode cX6_appendsOf 53 = .ok (.istore_n 3, 1) := by decide +kernel
theorem dX6_appendsOf_54 : decode cX6_appendsOf 54 = .ok (.iinc 4 1, 3) := by decide +kernel
theorem dX6_appendsOf_57 : decode cX6_appendsOf 57 = .ok (.goto (-52), 3) := by decide +kernel
theorem dX6_appendsOf_60 : decode cX6_appendsOf 60 = .ok (.iload_n 3, 1) := by decide +kernel
theorem dX6_appendsOf_61 : decode cX6_appendsOf 61 = .ok (.ireturn, 1) := by decide +kernel
theorem dX6_set_0 : decode cX6_set 0 = .ok (.iload_n 1, 1) := by decide +kernel
theorem dX6_set_1 : decode cX6_set 1 = .ok (.iconst 0, 1) := by decide +kernel
theorem dX6_set_2 : decode cX6_set 2 = .ok (.iconst 3, 1) := by decide +kernel
theorem dX6_set_3 : decode cX6_set 3 = .ok (.invokestatic 43, 3) := by decide +kernel
theorem dX6_set_6 : decode cX6_set 6 = .ok (.ifCond .eq 40, 3) := by decide +kernel
theorem dX6_set_9 : decode cX6_set 9 = .ok (.iload_n 2, 1) := by decide +kernel
theorem dX6_set_10 : decode cX6_set 10 = .ok (.iload_n 1, 1) := by decide +kernel
theorem dX6_set_11 : decode cX6_set 11 = .ok (.iconst 3, 1) := by decide +kernel
theorem dX6_set_12 : decode cX6_set 12 = .ok (.if_icmp .ne 7, 3) := by decide +kernel
theorem dX6_set_15 : decode cX6_set 15 = .ok (.iconst 0, 1) := by decide +kernel
theorem dX6_set_16 : decode cX6_set 16 = .ok (.goto 4, 3) := by decide +kernel
theorem dX6_set_19 : decode cX6_set 19 = .ok (.iconst 1, 1) := by decide +kernel
theorem dX6_set_20 : decode cX6_set 20 = .ok (.iload_n 1, 1) := by decide +kernel
theorem dX6_set_21 : decode cX6_set 21 = .ok (.iconst 2, 1) := by decide +kernel
theorem dX6_set_22 : decode cX6_set 22 = .ok (.if_icmp .ge 8, 3) := by decide +kernel
theorem dX6_set_25 : decode cX6_set 25 = .ok (.bipush 8, 2) := by decide +kernel
theorem dX6_set_27 : decode cX6_set 27 = .ok (.goto 13, 3) := by decide +kernel
theorem dX6_set_30 : decode cX6_set 30 = .ok (.iload_n 1, 1) := by decide +kernel
theorem dX6_set_31 : decode cX6_set 31 = .ok (.iconst 2, 1) := by decide +kernel
theorem dX6_set_32 : decode cX6_set 32 = .ok (.if_icmp .ne 7, 3) := by decide +kernel
theorem dX6_set_35 : decode cX6_set 35 = .ok (.iconst 4, 1) := by decide +kernel
theorem dX6_set_36 : decode cX6_set 36 = .ok (.goto 4, 3) := by decide +kernel
theorem dX6_set_39 : decode cX6_set 39 = .ok (.iconst 1, 1) := by decide +kernel
theorem dX6_set_40 : decode cX6_set 40 = .ok (.invokestatic 43, 3) := by decide +kernel
theorem dX6_set_43 : decode cX6_set 43 = .ok (.ifCond .ne 6, 3) := by decide +kernel
theorem dX6_set_46 : decode cX6_set 46 = .ok (.bipush (-2), 2) := by decide +kernel
theorem dX6_set_48 : decode cX6_set 48 = .ok (.ireturn, 1) := by decide +kernel
theorem dX6_set_49 : decode cX6_set 49 = .ok (.iload_n 1, 1) := by decide +kernel
theorem dX6_set_50 : decode cX6_set 50 = .ok (.iconst 2, 1) := by decide +kernel
theorem dX6_set_51 : decode cX6_set 51 = .ok (.if_icmp .ge 24, 3) := by decide +kernel
theorem dX6_set_54 : decode cX6_set 54 = .ok (.aload_n 0, 1) := by decide +kernel
theorem dX6_set_55 : decode cX6_set 55 = .ok (.iload_n 1, 1) := by decide +kernel
theorem dX6_set_56 : decode cX6_set 56 = .ok (.iconst 1, 1) := by decide +kernel
theorem dX6_set_57 : decode cX6_set 57 = .ok (.if_icmp .ne 7, 3) := by decide +kernel
theorem dX6_set_60 : decode cX6_set 60 = .ok (.iconst 1, 1) := by decide +kernel
theorem dX6_set_61 : decode cX6_set 61 = .ok (.goto 4, 3) := by decide +kernel
theorem dX6_set_64 : decode cX6_set 64 = .ok (.iconst 0, 1) := by decide +kernel
theorem dX6_set_65 : decode cX6_set 65 = .ok (.invokevirtual 57, 3) := by decide +kernel
theorem dX6_set_68 : decode cX6_set 68 = .ok (.iload_n 2, 1) := by decide +kernel
theorem dX6_set_69 : decode cX6_set 69 = .ok (.if_icmp .le 6, 3) := by decide +kernel
theorem dX6_set_72 : decode cX6_set 72 = .ok (.bipush (-4), 2) := by decide +kernel
theorem dX6_set_74 : decode cX6_set 74 = .ok (.ireturn, 1) := by decide +kernel
theorem dX6_set_75 : decode cX6_set 75 = .ok (.aload_n 0, 1) := by decide +kernel
theorem dX6_set_76 : decode cX6_set 76 = .ok (.iconst 1, 1) := by decide +kernel
theorem dX6_set_77 : decode cX6_set 77 = .ok (.iload_n 1, 1) := by decide +kernel
theorem dX6_set_78 : decode cX6_set 78 = .ok (.iadd, 1) := by decide +kernel
theorem dX6_set_79 : decode cX6_set 79 = .ok (.iload_n 2, 1) := by decide +kernel
theorem dX6_set_80 : decode cX6_set 80 = .ok (.invokevirtual 61, 3) := by decide +kernel
theorem dX6_set_83 : decode cX6_set 83 = .ok (.ireturn, 1) := by decide +kernel
theorem dX6_setZone_0 : decode cX6_setZone 0 = .ok (.iload_n 1, 1) := by decide +kernel
theorem dX6_setZone_1 : decode cX6_setZone 1 = .ok (.invokestatic 64, 3) := by decide +kernel
theorem dX6_setZone_4 : decode cX6_setZone 4 = .ok (.ifCond .ne 5, 3) := by decide +kernel
theorem dX6_setZone_7 : decode cX6_setZone 7 = .ok (.iconst (-1), 1) := by decide +kernel
theorem dX6_setZone_8 : decode cX6_setZone 8 = .ok (.ireturn, 1) := by decide +kernel
theorem dX6_setZone_9 : decode cX6_setZone 9 = .ok (.iload_n 3, 1) := by decide +kernel
theorem dX6_setZone_10 : decode cX6_setZone 10 = .ok (.iconst 1, 1) := by decide +kernel
theorem dX6_setZone_11 : decode cX6_setZone 11 = .ok (.iload_n 2, 1) := by decide +kernel
theorem dX6_setZone_12 : decode cX6_setZone 12 = .ok (.ifCond .eq 8, 3) := by decide +kernel
theorem dX6_setZone_15 : decode cX6_setZone 15 = .ok (.bipush 9, 2) := by decide +kernel
theorem dX6_setZone_17 : decode cX6_setZone 17 = .ok (.goto 5, 3) := by decide +kernel
theorem dX6_setZone_20 : decode cX6_setZone 20 = .ok (.bipush 16, 2) := by decide +kernel
theorem dX6_setZone_22 : decode cX6_setZone 22 = .ok (.invokestatic 43, 3) := by decide +kernel
theorem dX6_setZone_25 : decode cX6_setZone 25 = .ok (.ifCond .ne 6, 3) := by decide +kernel
theorem dX6_setZone_28 : decode cX6_setZone 28 = .ok (.bipush (-2), 2) := by decide +kernel
theorem dX6_setZone_30 : decode cX6_setZone 30 = .ok (.ireturn, 1) := by decide +kernel
theorem dX6_setZone_31 : decode cX6_setZone 31 = .ok (.iload_n 2, 1) := by decide +kernel
theorem dX6_setZone_32 : decode cX6_setZone 32 = .ok (.ifCond .ne 19, 3) := by decide +kernel
theorem dX6_setZone_35 : decode cX6_setZone 35 = .ok (.aload_n 0, 1) := by decide +kernel
theorem dX6_setZone_36 : decode cX6_setZone 36 = .ok (.getfield 7, 3) := by decide +kernel
theorem dX6_setZone_39 : decode cX6_setZone 39 = .ok (.iload_n 1, 1) := by decide +kernel
theorem dX6_setZone_40 : decode cX6_setZone 40 = .ok (.iconst 0, 1) := by decide +kernel
theorem dX6_setZone_41 : decode cX6_setZone 41 = .ok (.invokestatic 32, 3) := by decide +kernel
theorem dX6_setZone_44 : decode cX6_setZone 44 = .ok (.iaload, 1) := by decide +kernel
theorem dX6_setZone_45 : decode cX6_setZone 45 = .ok (.ifCond .eq 6, 3) := by decide +kernel
theorem dX6_setZone_48 : decode cX6_setZone 48 = .ok (.bipush (-4), 2) := by decide +kernel
theorem dX6_setZone_50 : decode cX6_setZone 50 = .ok (.ireturn, 1) := by decide +kernel
theorem dX6_setZone_51 : decode cX6_setZone 51 = .ok (.aload_n 0, 1) := by decide +kernel
theorem dX6_setZone_52 : decode cX6_setZone 52 = .ok (.iload_n 1, 1) := by decide +kernel
theorem dX6_setZone_53 : decode cX6_setZone 53 = .ok (.iload_n 2, 1) := by decide +kernel
theorem dX6_setZone_54 : decode cX6_setZone 54 = .ok (.ifCond .eq 7, 3) := by decide +kernel
theorem dX6_setZone_57 : decode cX6_setZone 57 = .ok (.iconst 2, 1) := by decide +kernel
theorem dX6_setZone_58 : decode cX6_setZone 58 = .ok (.goto 4, 3) := by decide +kernel
theorem dX6_setZone_61 : decode cX6_setZone 61 = .ok (.iconst 1, 1) := by decide +kernel
theorem dX6_setZone_62 : decode cX6_setZone 62 = .ok (.invokestatic 32, 3) := by decide +kernel
theorem dX6_setZone_65 : decode cX6_setZone 65 = .ok (.iload_n 3, 1) := by decide +kernel
theorem dX6_setZone_66 : decode cX6_setZone 66 = .ok (.invokevirtual 61, 3) := by decide +kernel
theorem dX6_setZone_69 : decode cX6_setZone 69 = .ok (.ireturn, 1) := by decide +kernel
theorem dX6_setWindow_0 : decode cX6_setWindow 0 = .ok (.iload_n 1, 1) := by decide +kernel
theorem dX6_setWindow_1 : decode cX6_setWindow 1 = .ok (.invokestatic 68, 3) := by decide +kernel
theorem dX6_setWindow_4 : decode cX6_setWindow 4 = .ok (.ifCond .ne 5, 3) := by decide +kernel
theorem dX6_setWindow_7 : decode cX6_setWindow 7 = .ok (.iconst (-1), 1) := by decide +kernel
theorem dX6_setWindow_8 : decode cX6_setWindow 8 = .ok (.ireturn, 1) := by decide +kernel
theorem dX6_setWindow_9 : decode cX6_setWindow 9 = .ok (.iload_n 2, 1) := by decide +kernel
theorem dX6_setWindow_10 : decode cX6_setWindow 10 = .ok (.iconst 1, 1) := by decide +kernel
theorem dX6_setWindow_11 : decode cX6_setWindow 11 = .ok (.bipush 8, 2) := by decide +kernel
theorem dX6_setWindow_13 : decode cX6_setWindow 13 = .ok (.invokestatic 43, 3) := by decide +kernel
theorem dX6_setWindow_16 : decode cX6_setWindow 16 = .ok (.ifCond .eq 16, 3) := by decide +kernel
theorem dX6_setWindow_19 : decode cX6_setWindow 19 = .ok (.aload_n 0, 1) := by decide +kernel
theorem dX6_setWindow_20 : decode cX6_setWindow 20 = .ok (.iload_n 1, 1) := by decide +kernel
theorem dX6_setWindow_21 : decode cX6_setWindow 21 = .ok (.iconst 0, 1) := by decide +kernel
theorem dX6_setWindow_22 : decode cX6_setWindow 22 = .ok (.invokestatic 40, 3) := by decide +kernel
theorem dX6_setWindow_25 : decode cX6_setWindow 25 = .ok (.iload_n 2, 1) := by decide +kernel
theorem dX6_setWindow_26 : decode cX6_setWindow 26 = .ok (.invokevirtual 61, 3) := by decide +kernel
theorem dX6_setWindow_29 : decode cX6_setWindow 29 = .ok (.goto 5, 3) := by decide +kernel
theorem dX6_setWindow_32 : decode cX6_setWindow 32 = .ok (.bipush (-2), 2) := by decide +kernel
theorem dX6_setWindow_34 : decode cX6_setWindow 34 = .ok (.ireturn, 1) := by decide +kernel
theorem dX6_send_0 : decode cX6_send 0 = .ok (.aload_n 0, 1) := by decide +kernel
theorem dX6_send_1 : decode cX6_send 1 = .ok (.getfield 7, 3) := by decide +kernel
theorem dX6_send_4 : decode cX6_send 4 = .ok (.iconst 5, 1) := by decide +kernel
theorem dX6_send_5 : decode cX6_send 5 = .ok (.iaload, 1) := by decide +kernel
theorem dX6_send_6 : decode cX6_send 6 = .ok (.istore 4, 2) := by decide +kernel
theorem dX6_send_8 : decode cX6_send 8 = .ok (.aload_n 0, 1) := by decide +kernel
theorem dX6_send_9 : decode cX6_send 9 = .ok (.getfield 7, 3) := by decide +kernel
theorem dX6_send_12 : decode cX6_send 12 = .ok (.iload 4, 2) := by decide +kernel
theorem dX6_send_14 : decode cX6_send 14 = .ok (.iconst 0, 1) := by decide +kernel
theorem dX6_send_15 : decode cX6_send 15 = .ok (.invokestatic 54, 3) := by decide +kernel
theorem dX6_send_18 : decode cX6_send 18 = .ok (.iload_n 1, 1) := by decide +kernel
theorem dX6_send_19 : decode cX6_send 19 = .ok (.iastore, 1) := by decide +kernel
theorem dX6_send_20 : decode cX6_send 20 = .ok (.aload_n 0, 1) := by decide +kernel
theorem dX6_send_21 : decode cX6_send 21 = .ok (.getfield 7, 3) := by decide +kernel
theorem dX6_send_24 : decode cX6_send 24 = .ok (.iload 4, 2) := by decide +kernel
theorem dX6_send_26 : decode cX6_send 26 = .ok (.iconst 1, 1) := by decide +kernel
theorem dX6_send_27 : decode cX6_send 27 = .ok (.invokestatic 54, 3) := by decide +kernel
theorem dX6_send_30 : decode cX6_send 30 = .ok (.iload_n 2, 1) := by decide +kernel
theorem dX6_send_31 : decode cX6_send 31 = .ok (.iastore, 1) := by decide +kernel
theorem dX6_send_32 : decode cX6_send 32 = .ok (.aload_n 0, 1) := by decide +kernel
theorem dX6_send_33 : decode cX6_send 33 = .ok (.getfield 7, 3) := by decide +kernel
theorem dX6_send_36 : decode cX6_send 36 = .ok (.iload 4, 2) := by decide +kernel
theorem dX6_send_38 : decode cX6_send 38 = .ok (.iconst 2, 1) := by decide +kernel
theorem dX6_send_39 : decode cX6_send 39 = .ok (.invokestatic 54, 3) := by decide +kernel
theorem dX6_send_42 : decode cX6_send 42 = .ok (.iload_n 3, 1) := by decide +kernel
theorem dX6_send_43 : decode cX6_send 43 = .ok (.iastore, 1) := by decide +kernel
theorem dX6_send_44 : decode cX6_send 44 = .ok (.aload_n 0, 1) := by decide +kernel
theorem dX6_send_45 : decode cX6_send 45 = .ok (.getfield 7, 3) := by decide +kernel
theorem dX6_send_48 : decode cX6_send 48 = .ok (.iload 4, 2) := by decide +kernel
theorem dX6_send_50 : decode cX6_send 50 = .ok (.iconst 3, 1) := by decide +kernel
theorem dX6_send_51 : decode cX6_send 51 = .ok (.invokestatic 54, 3) := by decide +kernel
theorem dX6_send_54 : decode cX6_send 54 = .ok (.iconst 0, 1) := by decide +kernel
theorem dX6_send_55 : decode cX6_send 55 = .ok (.iastore, 1) := by decide +kernel
theorem dX6_send_56 : decode cX6_send 56 = .ok (.aload_n 0, 1) := by decide +kernel
theorem dX6_send_57 : decode cX6_send 57 = .ok (.getfield 7, 3) := by decide +kernel
theorem dX6_send_60 : decode cX6_send 60 = .ok (.iload 4, 2) := by decide +kernel
theorem dX6_send_62 : decode cX6_send 62 = .ok (.iconst 4, 1) := by decide +kernel
theorem dX6_send_63 : decode cX6_send 63 = .ok (.invokestatic 54, 3) := by decide +kernel
theorem dX6_send_66 : decode cX6_send 66 = .ok (.bipush (-5), 2) := by decide +kernel
theorem dX6_send_68 : decode cX6_send 68 = .ok (.iastore, 1) := by decide +kernel
theorem dX6_send_69 : decode cX6_send 69 = .ok (.aload_n 0, 1) := by decide +kernel
theorem dX6_send_70 : decode cX6_send 70 = .ok (.getfield 7, 3) := by decide +kernel
theorem dX6_send_73 : decode cX6_send 73 = .ok (.iload 4, 2) := by decide +kernel
theorem dX6_send_75 : decode cX6_send 75 = .ok (.iconst 5, 1) := by decide +kernel
theorem dX6_send_76 : decode cX6_send 76 = .ok (.invokestatic 54, 3) := by decide +kernel
theorem dX6_send_79 : decode cX6_send 79 = .ok (.bipush (-5), 2) := by decide +kernel
theorem dX6_send_81 : decode cX6_send 81 = .ok (.iastore, 1) := by decide +kernel
theorem dX6_send_82 : decode cX6_send 82 = .ok (.aload_n 0, 1) := by decide +kernel
theorem dX6_send_83 : decode cX6_send 83 = .ok (.getfield 7, 3) := by decide +kernel
theorem dX6_send_86 : decode cX6_send 86 = .ok (.iload 4, 2) := by decide +kernel
theorem dX6_send_88 : decode cX6_send 88 = .ok (.bipush 6, 2) := by decide +kernel
theorem dX6_send_90 : decode cX6_send 90 = .ok (.invokestatic 54, 3) := by decide +kernel
theorem dX6_send_93 : decode cX6_send 93 = .ok (.bipush (-5), 2) := by decide +kernel
theorem dX6_send_95 : decode cX6_send 95 = .ok (.iastore, 1) := by decide +kernel
theorem dX6_send_96 : decode cX6_send 96 = .ok (.aload_n 0, 1) := by decide +kernel
theorem dX6_send_97 : decode cX6_send 97 = .ok (.getfield 7, 3) := by decide +kernel
theorem dX6_send_100 : decode cX6_send 100 = .ok (.iload 4, 2) := by decide +kernel
theorem dX6_send_102 : decode cX6_send 102 = .ok (.bipush 7, 2) := by decide +kernel
theorem dX6_send_104 : decode cX6_send 104 = .ok (.invokestatic 54, 3) := by decide +kernel
theorem dX6_send_107 : decode cX6_send 107 = .ok (.bipush (-5), 2) := by decide +kernel
theorem dX6_send_109 : decode cX6_send 109 = .ok (.iastore, 1) := by decide +kernel
theorem dX6_send_110 : decode cX6_send 110 = .ok (.aload_n 0, 1) := by decide +kernel
theorem dX6_send_111 : decode cX6_send 111 = .ok (.getfield 7, 3) := by decide +kernel
theorem dX6_send_114 : decode cX6_send 114 = .ok (.iload 4, 2) := by decide +kernel
theorem dX6_send_116 : decode cX6_send 116 = .ok (.bipush 8, 2) := by decide +kernel
theorem dX6_send_118 : decode cX6_send 118 = .ok (.invokestatic 54, 3) := by decide +kernel
theorem dX6_send_121 : decode cX6_send 121 = .ok (.iconst 0, 1) := by decide +kernel
theorem dX6_send_122 : decode cX6_send 122 = .ok (.iastore, 1) := by decide +kernel
theorem dX6_send_123 : decode cX6_send 123 = .ok (.aload_n 0, 1) := by decide +kernel
theorem dX6_send_124 : decode cX6_send 124 = .ok (.getfield 7, 3) := by decide +kernel
theorem dX6_send_127 : decode cX6_send 127 = .ok (.iconst 5, 1) := by decide +kernel
theorem dX6_send_128 : decode cX6_send 128 = .ok (.dup2, 1) := by decide +kernel
theorem dX6_send_129 : decode cX6_send 129 = .ok (.iaload, 1) := by decide +kernel
theorem dX6_send_130 : decode cX6_send 130 = .ok (.iconst 1, 1) := by decide +kernel
theorem dX6_send_131 : decode cX6_send 131 = .ok (.iadd, 1) := by decide +kernel
theorem dX6_send_132 : decode cX6_send 132 = .ok (.iastore, 1) := by decide +kernel
theorem dX6_send_133 : decode cX6_send 133 = .ok (.iload 4, 2) := by decide +kernel
theorem dX6_send_135 : decode cX6_send 135 = .ok (.ireturn, 1) := by decide +kernel
theorem dX6_isRoom_0 : decode cX6_isRoom 0 = .ok (.aload_n 0, 1) := by decide +kernel
theorem dX6_isRoom_1 : decode cX6_isRoom 1 = .ok (.getfield 7, 3) := by decide +kernel
theorem dX6_isRoom_4 : decode cX6_isRoom 4 = .ok (.iconst 5, 1) := by decide +kernel
theorem dX6_isRoom_5 : decode cX6_isRoom 5 = .ok (.iaload, 1) := by decide +kernel
theorem dX6_isRoom_6 : decode cX6_isRoom 6 = .ok (.sipush 200, 3) := by decide +kernel
theorem dX6_isRoom_9 : decode cX6_isRoom 9 = .ok (.if_icmp .ge 33, 3) := by decide +kernel
theorem dX6_isRoom_12 : decode cX6_isRoom 12 = .ok (.aload_n 0, 1) := by decide +kernel
theorem dX6_isRoom_13 : decode cX6_isRoom 13 = .ok (.iconst 0, 1) := by decide +kernel
theorem dX6_isRoom_14 : decode cX6_isRoom 14 = .ok (.iload_n 1, 1) := by decide +kernel
theorem dX6_isRoom_15 : decode cX6_isRoom 15 = .ok (.invokevirtual 71, 3) := by decide +kernel
theorem dX6_isRoom_18 : decode cX6_isRoom 18 = .ok (.aload_n 0, 1) := by decide +kernel
theorem dX6_isRoom_19 : decode cX6_isRoom 19 = .ok (.iconst 1, 1) := by decide +kernel
theorem dX6_isRoom_20 : decode cX6_isRoom 20 = .ok (.iload_n 1, 1) := by decide +kernel
theorem dX6_isRoom_21 : decode cX6_isRoom 21 = .ok (.invokevirtual 71, 3) := by decide +kernel
theorem dX6_isRoom_24 : decode cX6_isRoom 24 = .ok (.iadd, 1) := by decide +kernel
theorem dX6_isRoom_25 : decode cX6_isRoom 25 = .ok (.aload_n 0, 1) := by decide +kernel
theorem dX6_isRoom_26 : decode cX6_isRoom 26 = .ok (.getfield 7, 3) := by decide +kernel
theorem dX6_isRoom_29 : decode cX6_isRoom 29 = .ok (.iload_n 1, 1) := by decide +kernel
theorem dX6_isRoom_30 : decode cX6_isRoom 30 = .ok (.iconst 0, 1) := by decide +kernel
theorem dX6_isRoom_31 : decode cX6_isRoom 31 = .ok (.invokestatic 40, 3) := by decide +kernel
theorem dX6_isRoom_34 : decode cX6_isRoom 34 = .ok (.iaload, 1) := by decide +kernel
theorem dX6_isRoom_35 : decode cX6_isRoom 35 = .ok (.if_icmp .ge 7, 3) := by decide +kernel
theorem dX6_isRoom_38 : decode cX6_isRoom 38 = .ok (.iconst 1, 1) := by decide +kernel
theorem dX6_isRoom_39 : decode cX6_isRoom 39 = .ok (.goto 4, 3) := by decide +kernel
theorem dX6_isRoom_42 : decode cX6_isRoom 42 = .ok (.iconst 0, 1) := by decide +kernel
theorem dX6_isRoom_43 : decode cX6_isRoom 43 = .ok (.ireturn, 1) := by decide +kernel
theorem dX6_append_0 : decode cX6_append 0 = .ok (.iload_n 1, 1) := by decide +kernel
theorem dX6_append_1 : decode cX6_append 1 = .ok (.invokestatic 68, 3) := by decide +kernel
theorem dX6_append_4 : decode cX6_append 4 = .ok (.ifCond .eq 10, 3) := by decide +kernel
theorem dX6_append_7 : decode cX6_append 7 = .ok (.iload_n 2, 1) := by decide +kernel
theorem dX6_append_8 : decode cX6_append 8 = .ok (.invokestatic 64, 3) := by decide +kernel
theorem dX6_append_11 : decode cX6_append 11 = .ok (.ifCond .ne 5, 3) := by decide +kernel
theorem dX6_append_14 : decode cX6_append 14 = .ok (.iconst (-1), 1) := by decide +kernel
theorem dX6_append_15 : decode cX6_append 15 = .ok (.ireturn, 1) := by decide +kernel
theorem dX6_append_16 : decode cX6_append 16 = .ok (.iload_n 3, 1) := by decide +kernel
theorem dX6_append_17 : decode cX6_append 17 = .ok (.iconst 0, 1) := by decide +kernel
theorem dX6_append_18 : decode cX6_append 18 = .ok (.bipush 99, 2) := by decide +kernel
theorem dX6_append_20 : decode cX6_append 20 = .ok (.invokestatic 43, 3) := by decide +kernel
theorem dX6_append_23 : decode cX6_append 23 = .ok (.ifCond .ne 6, 3) := by decide +kernel
theorem dX6_append_26 : decode cX6_append 26 = .ok (.bipush (-2), 2) := by decide +kernel
theorem dX6_append_28 : decode cX6_append 28 = .ok (.ireturn, 1) := by decide +kernel
theorem dX6_append_29 : decode cX6_append 29 = .ok (.aload_n 0, 1) := by decide +kernel
theorem dX6_append_30 : decode cX6_append 30 = .ok (.iload_n 1, 1) := by decide +kernel
theorem dX6_append_31 : decode cX6_append 31 = .ok (.invokevirtual 74, 3) := by decide +kernel
theorem dX6_append_34 : decode cX6_append 34 = .ok (.ifCond .ne 6, 3) := by decide +kernel
theorem dX6_append_37 : decode cX6_append 37 = .ok (.bipush (-3), 2) := by decide +kernel
theorem dX6_append_39 : decode cX6_append 39 = .ok (.ireturn, 1) := by decide +kernel
theorem dX6_append_40 : decode cX6_append 40 = .ok (.aload_n 0, 1) := by decide +kernel
theorem dX6_append_41 : decode cX6_append 41 = .ok (.invokevirtual 51, 3) := by decide +kernel
theorem dX6_append_44 : decode cX6_append 44 = .ok (.aload_n 0, 1) := by decide +kernel
theorem dX6_append_45 : decode cX6_append 45 = .ok (.iload_n 1, 1) := by decide +kernel
theorem dX6_append_46 : decode cX6_append 46 = .ok (.iload_n 2, 1) := by decide +kernel
theorem dX6_append_47 : decode cX6_append 47 = .ok (.iload_n 3, 1) := by decide +kernel
theorem dX6_append_48 : decode cX6_append 48 = .ok (.invokevirtual 77, 3) := by decide +kernel
theorem dX6_append_51 : decode cX6_append 51 = .ok (.ireturn, 1) := by decide +kernel
theorem dX6_fail_0 : decode cX6_fail 0 = .ok (.aload_n 0, 1) := by decide +kernel
theorem dX6_fail_1 : decode cX6_fail 1 = .ok (.getfield 7, 3) := by decide +kernel
theorem dX6_fail_4 : decode cX6_fail 4 = .ok (.iload_n 1, 1) := by decide +kernel
theorem dX6_fail_5 : decode cX6_fail 5 = .ok (.iconst 3, 1) := by decide +kernel
theorem dX6_fail_6 : decode cX6_fail 6 = .ok (.invokestatic 54, 3) := by decide +kernel
theorem dX6_fail_9 : decode cX6_fail 9 = .ok (.iconst 3, 1) := by decide +kernel
theorem dX6_fail_10 : decode cX6_fail 10 = .ok (.iastore, 1) := by decide +kernel
theorem dX6_fail_11 : decode cX6_fail 11 = .ok (.aload_n 0, 1) := by decide +kernel
theorem dX6_fail_12 : decode cX6_fail 12 = .ok (.getfield 7, 3) := by decide +kernel
theorem dX6_fail_15 : decode cX6_fail 15 = .ok (.iload_n 1, 1) := by decide +kernel
theorem dX6_fail_16 : decode cX6_fail 16 = .ok (.bipush 6, 2) := by decide +kernel
theorem dX6_fail_18 : decode cX6_fail 18 = .ok (.invokestatic 54, 3) := by decide +kernel
theorem dX6_fail_21 : decode cX6_fail 21 = .ok (.iload_n 2, 1) := by decide +kernel
theorem dX6_fail_22 : decode cX6_fail 22 = .ok (.iastore, 1) := by decide +kernel
theorem dX6_fail_23 : decode cX6_fail 23 = .ok (.aload_n 0, 1) := by decide +kernel
theorem dX6_fail_24 : decode cX6_fail 24 = .ok (.getfield 7, 3) := by decide +kernel
theorem dX6_fail_27 : decode cX6_fail 27 = .ok (.iload_n 1, 1) := by decide +kernel
theorem dX6_fail_28 : decode cX6_fail 28 = .ok (.iconst 4, 1) := by decide +kernel
theorem dX6_fail_29 : decode cX6_fail 29 = .ok (.invokestatic 54, 3) := by decide +kernel
theorem dX6_fail_32 : decode cX6_fail 32 = .ok (.bipush (-5), 2) := by decide +kernel
theorem dX6_fail_34 : decode cX6_fail 34 = .ok (.iastore, 1) := by decide +kernel
theorem dX6_fail_35 : decode cX6_fail 35 = .ok (.return_, 1) := by decide +kernel
theorem dX6_failAll_0 : decode cX6_failAll 0 = .ok (.iconst 0, 1) := by decide +kernel
theorem dX6_failAll_1 : decode cX6_failAll 1 = .ok (.istore 4, 2) := by decide +kernel
theorem dX6_failAll_3 : decode cX6_failAll 3 = .ok (.iconst 0, 1) := by decide +kernel
theorem dX6_failAll_4 : decode cX6_failAll 4 = .ok (.istore 5, 2) := by decide +kernel
theorem dX6_failAll_6 : decode cX6_failAll 6 = .ok (.iload 5, 2) := by decide +kernel
theorem dX6_failAll_8 : decode cX6_failAll 8 = .ok (.aload_n 0, 1) := by decide +kernel
theorem dX6_failAll_9 : decode cX6_failAll 9 = .ok (.getfield 7, 3) := by decide +kernel
theorem dX6_failAll_12 : decode cX6_failAll 12 = .ok (.iconst 5, 1) := by decide +kernel
theorem dX6_failAll_13 : decode cX6_failAll 13 = .ok (.iaload, 1) := by decide +kernel
theorem dX6_failAll_14 : decode cX6_failAll 14 = .ok (.if_icmp .ge 49, 3) := by decide +kernel
theorem dX6_failAll_17 : decode cX6_failAll 17 = .ok (.aload_n 0, 1) := by decide +kernel
theorem dX6_failAll_18 : decode cX6_failAll 18 = .ok (.getfield 7, 3) := by decide +kernel
theorem dX6_failAll_21 : decode cX6_failAll 21 = .ok (.iload 5, 2) := by decide +kernel
theorem dX6_failAll_23 : decode cX6_failAll 23 = .ok (.iconst 1, 1) := by decide +kernel
theorem dX6_failAll_24 : decode cX6_failAll 24 = .ok (.invokestatic 54, 3) := by decide +kernel
theorem dX6_failAll_27 : decode cX6_failAll 27 = .ok (.iaload, 1) := by decide +kernel
theorem dX6_failAll_28 : decode cX6_failAll 28 = .ok (.iload_n 1, 1) := by decide +kernel
theorem dX6_failAll_29 : decode cX6_failAll 29 = .ok (.if_icmp .ne 28, 3) := by decide +kernel
theorem dX6_failAll_32 : decode cX6_failAll 32 = .ok (.aload_n 0, 1) := by decide +kernel
theorem dX6_failAll_33 : decode cX6_failAll 33 = .ok (.getfield 7, 3) := by decide +kernel
theorem dX6_failAll_36 : decode cX6_failAll 36 = .ok (.iload 5, 2) := by decide +kernel
theorem dX6_failAll_38 : decode cX6_failAll 38 = .ok (.iconst 3, 1) := by decide +kernel
theorem dX6_failAll_39 : decode cX6_failAll 39 = .ok (.invokestatic 54, 3) := by decide +kernel
theorem dX6_failAll_42 : decode cX6_failAll 42 = .ok (.iaload, 1) := by decide +kernel
theorem dX6_failAll_43 : decode cX6_failAll 43 = .ok (.iload_n 2, 1) := by decide +kernel
theorem dX6_failAll_44 : decode cX6_failAll 44 = .ok (.if_icmp .ne 13, 3) := by decide +kernel
theorem dX6_failAll_47 : decode cX6_failAll 47 = .ok (.aload_n 0, 1) := by decide +kernel
theorem dX6_failAll_48 : decode cX6_failAll 48 = .ok (.iload 5, 2) := by decide +kernel
theorem dX6_failAll_50 : decode cX6_failAll 50 = .ok (.iload_n 3, 1) := by decide +kernel
theorem dX6_failAll_51 : decode cX6_failAll 51 = .ok (.invokevirtual 81, 3) := by decide +kernel
theorem dX6_failAll_54 : decode cX6_failAll 54 = .ok (.iinc 4 1, 3) := by decide +kernel
theorem dX6_failAll_57 : decode cX6_failAll 57 = .ok (.iinc 5 1, 3) := by decide +kernel
theorem dX6_failAll_60 : decode cX6_failAll 60 = .ok (.goto (-54), 3) := by decide +kernel
theorem dX6_failAll_63 : decode cX6_failAll 63 = .ok (.iload 4, 2) := by decide +kernel
theorem dX6_failAll_65 : decode cX6_failAll 65 = .ok (.ireturn, 1) := by decide +kernel
theorem dX6_sweep_0 : decode cX6_sweep 0 = .ok (.iconst 0, 1) := by decide +kernel
theorem dX6_sweep_1 : decode cX6_sweep 1 = .ok (.istore_n 2, 1) := by decide +kernel
theorem dX6_sweep_2 : decode cX6_sweep 2 = .ok (.iload_n 2, 1) := by decide +kernel
theorem dX6_sweep_3 : decode cX6_sweep 3 = .ok (.bipush 16, 2) := by decide +kernel
theorem dX6_sweep_5 : decode cX6_sweep 5 = .ok (.if_icmp .ge 24, 3) := by decide +kernel
theorem dX6_sweep_8 : decode cX6_sweep 8 = .ok (.aload_n 0, 1) := by decide +kernel
theorem dX6_sweep_9 : decode cX6_sweep 9 = .ok (.getfield 7, 3) := by decide +kernel
theorem dX6_sweep_12 : decode cX6_sweep 12 = .ok (.iload_n 1, 1) := by decide +kernel
theorem dX6_sweep_13 : decode cX6_sweep 13 = .ok (.bipush 6, 2) := by decide +kernel
theorem dX6_sweep_15 : decode cX6_sweep 15 = .ok (.iload_n 2, 1) := by decide +kernel
theorem dX6_sweep_16 : decode cX6_sweep 16 = .ok (.iadd, 1) := by decide +kernel
theorem dX6_sweep_17 : decode cX6_sweep 17 = .ok (.invokestatic 32, 3) := by decide +kernel
theorem dX6_sweep_20 : decode cX6_sweep 20 = .ok (.bipush (-5), 2) := by decide +kernel
theorem dX6_sweep_22 : decode cX6_sweep 22 = .ok (.iastore, 1) := by decide +kernel
theorem dX6_sweep_23 : decode cX6_sweep 23 = .ok (.iinc 2 1, 3) := by decide +kernel
theorem dX6_sweep_26 : decode cX6_sweep 26 = .ok (.goto (-24), 3) := by decide +kernel
theorem dX6_sweep_29 : decode cX6_sweep 29 = .ok (.return_, 1) := by decide +kernel
theorem dX6_readable_0 : decode cX6_readable 0 = .ok (.iconst 0, 1) := by decide +kernel
theorem dX6_readable_1 : decode cX6_readable 1 = .ok (.istore_n 2, 1) := by decide +kernel
theorem dX6_readable_2 : decode cX6_readable 2 = .ok (.iconst 0, 1) := by decide +kernel
theorem dX6_readable_3 : decode cX6_readable 3 = .ok (.istore_n 3, 1) := by decide +kernel
theorem dX6_readable_4 : decode cX6_readable 4 = .ok (.iload_n 3, 1) := by decide +kernel
theorem dX6_readable_5 : decode cX6_readable 5 = .ok (.bipush 16, 2) := by decide +kernel
theorem dX6_readable_7 : decode cX6_readable 7 = .ok (.if_icmp .ge 35, 3) := by decide +kernel
theorem dX6_readable_10 : decode cX6_readable 10 = .ok (.iload_n 2, 1) := by decide +kernel
theorem dX6_readable_11 : decode cX6_readable 11 = .ok (.aload_n 0, 1) := by decide +kernel
theorem dX6_readable_12 : decode cX6_readable 12 = .ok (.getfield 7, 3) := by decide +kernel
theorem dX6_readable_15 : decode cX6_readable 15 = .ok (.iload_n 1, 1) := by decide +kernel
theorem dX6_readable_16 : decode cX6_readable 16 = .ok (.bipush 6, 2) := by decide +kernel
theorem dX6_readable_18 : decode cX6_readable 18 = .ok (.iload_n 3, 1) := by decide +kernel
theorem dX6_readable_19 : decode cX6_readable 19 = .ok (.iadd, 1) := by decide +kernel
theorem dX6_readable_20 : decode cX6_readable 20 = .ok (.invokestatic 32, 3) := by decide +kernel
theorem dX6_readable_23 : decode cX6_readable 23 = .ok (.iaload, 1) := by decide +kernel
theorem dX6_readable_24 : decode cX6_readable 24 = .ok (.bipush (-5), 2) := by decide +kernel
theorem dX6_readable_26 : decode cX6_readable 26 = .ok (.if_icmp .ne 7, 3) := by decide +kernel
theorem dX6_readable_29 : decode cX6_readable 29 = .ok (.iconst 0, 1) := by decide +kernel
theorem dX6_readable_30 : decode cX6_readable 30 = .ok (.goto 4, 3) := by decide +kernel
theorem dX6_readable_33 : decode cX6_readable 33 = .ok (.iconst 1, 1) := by decide +kernel
theorem dX6_readable_34 : decode cX6_readable 34 = .ok (.iadd, 1) := by decide +kernel
theorem dX6_readable_35 : decode cX6_readable 35 = .ok (.istore_n 2, 1) := by decide +kernel
theorem dX6_readable_36 : decode cX6_readable 36 = .ok (.iinc 3 1, 3) := by decide +kernel
theorem dX6_readable_39 : decode cX6_readable 39 = .ok (.goto (-35), 3) := by decide +kernel
theorem dX6_readable_42 : decode cX6_readable 42 = .ok (.iload_n 2, 1) := by decide +kernel
theorem dX6_readable_43 : decode cX6_readable 43 = .ok (.ireturn, 1) := by decide +kernel
theorem dX6_resets_0 : decode cX6_resets 0 = .ok (.aload_n 0, 1) := by decide +kernel
theorem dX6_resets_1 : decode cX6_resets 1 = .ok (.iload_n 1, 1) := by decide +kernel
theorem dX6_resets_2 : decode cX6_resets 2 = .ok (.invokevirtual 85, 3) := by decide +kernel
theorem dX6_resets_5 : decode cX6_resets 5 = .ok (.istore_n 2, 1) := by decide +kernel
theorem dX6_resets_6 : decode cX6_resets 6 = .ok (.aload_n 0, 1) := by decide +kernel
theorem dX6_resets_7 : decode cX6_resets 7 = .ok (.iload_n 1, 1) := by decide +kernel
theorem dX6_resets_8 : decode cX6_resets 8 = .ok (.iconst 1, 1) := by decide +kernel
theorem dX6_resets_9 : decode cX6_resets 9 = .ok (.iconst 2, 1) := by decide +kernel
theorem dX6_resets_10 : decode cX6_resets 10 = .ok (.invokevirtual 89, 3) := by decide +kernel
theorem dX6_resets_13 : decode cX6_resets 13 = .ok (.istore_n 3, 1) := by decide +kernel
theorem dX6_resets_14 : decode cX6_resets 14 = .ok (.aload_n 0, 1) := by decide +kernel
theorem dX6_resets_15 : decode cX6_resets 15 = .ok (.iload_n 1, 1) := by decide +kernel
theorem dX6_resets_16 : decode cX6_resets 16 = .ok (.invokevirtual 36, 3) := by decide +kernel
theorem dX6_resets_19 : decode cX6_resets 19 = .ok (.aload_n 0, 1) := by decide +kernel
theorem dX6_resets_20 : decode cX6_resets 20 = .ok (.getfield 7, 3) := by decide +kernel
theorem dX6_resets_23 : decode cX6_resets 23 = .ok (.iload_n 1, 1) := by decide +kernel
theorem dX6_resets_24 : decode cX6_resets 24 = .ok (.iconst 0, 1) := by decide +kernel
theorem dX6_resets_25 : decode cX6_resets 25 = .ok (.invokestatic 32, 3) := by decide +kernel
theorem dX6_resets_28 : decode cX6_resets 28 = .ok (.iconst 0, 1) := by decide +kernel
theorem dX6_resets_29 : decode cX6_resets 29 = .ok (.iastore, 1) := by decide +kernel
theorem dX6_resets_30 : decode cX6_resets 30 = .ok (.aload_n 0, 1) := by decide +kernel
theorem dX6_resets_31 : decode cX6_resets 31 = .ok (.getfield 7, 3) := by decide +kernel
theorem dX6_resets_34 : decode cX6_resets 34 = .ok (.iload_n 1, 1) := by decide +kernel
theorem dX6_resets_35 : decode cX6_resets 35 = .ok (.iconst 3, 1) := by decide +kernel
theorem dX6_resets_36 : decode cX6_resets 36 = .ok (.invokestatic 32, 3) := by decide +kernel
theorem dX6_resets_39 : decode cX6_resets 39 = .ok (.iconst 0, 1) := by decide +kernel
theorem dX6_resets_40 : decode cX6_resets 40 = .ok (.iastore, 1) := by decide +kernel
theorem dX6_resets_41 : decode cX6_resets 41 = .ok (.aload_n 0, 1) := by decide +kernel
theorem dX6_resets_42 : decode cX6_resets 42 = .ok (.getfield 7, 3) := by decide +kernel
theorem dX6_resets_45 : decode cX6_resets 45 = .ok (.iload_n 1, 1) := by decide +kernel
theorem dX6_resets_46 : decode cX6_resets 46 = .ok (.iconst 4, 1) := by decide +kernel
theorem dX6_resets_47 : decode cX6_resets 47 = .ok (.invokestatic 32, 3) := by decide +kernel
theorem dX6_resets_50 : decode cX6_resets 50 = .ok (.dup2, 1) := by decide +kernel
theorem dX6_resets_51 : decode cX6_resets 51 = .ok (.iaload, 1) := by decide +kernel
theorem dX6_resets_52 : decode cX6_resets 52 = .ok (.iconst 1, 1) := by decide +kernel
theorem dX6_resets_53 : decode cX6_resets 53 = .ok (.iadd, 1) := by decide +kernel
theorem dX6_resets_54 : decode cX6_resets 54 = .ok (.iastore, 1) := by decide +kernel
theorem dX6_resets_55 : decode cX6_resets 55 = .ok (.iload_n 2, 1) := by decide +kernel
theorem dX6_resets_56 : decode cX6_resets 56 = .ok (.ireturn, 1) := by decide +kernel
theorem dX6_reset_0 : decode cX6_reset 0 = .ok (.iload_n 1, 1) := by decide +kernel
theorem dX6_reset_1 : decode cX6_reset 1 = .ok (.invokestatic 64, 3) := by decide +kernel
theorem dX6_reset_4 : decode cX6_reset 4 = .ok (.ifCond .ne 5, 3) := by decide +kernel
theorem dX6_reset_7 : decode cX6_reset 7 = .ok (.iconst (-1), 1) := by decide +kernel
theorem dX6_reset_8 : decode cX6_reset 8 = .ok (.ireturn, 1) := by decide +kernel
theorem dX6_reset_9 : decode cX6_reset 9 = .ok (.aload_n 0, 1) := by decide +kernel
theorem dX6_reset_10 : decode cX6_reset 10 = .ok (.getfield 7, 3) := by decide +kernel
theorem dX6_reset_13 : decode cX6_reset 13 = .ok (.iload_n 1, 1) := by decide +kernel
theorem dX6_reset_14 : decode cX6_reset 14 = .ok (.iconst 0, 1) := by decide +kernel
theorem dX6_reset_15 : decode cX6_reset 15 = .ok (.invokestatic 32, 3) := by decide +kernel
theorem dX6_reset_18 : decode cX6_reset 18 = .ok (.iaload, 1) := by decide +kernel
theorem dX6_reset_19 : decode cX6_reset 19 = .ok (.ifCond .ne 6, 3) := by decide +kernel
theorem dX6_reset_22 : decode cX6_reset 22 = .ok (.bipush (-5), 2) := by decide +kernel
theorem dX6_reset_24 : decode cX6_reset 24 = .ok (.ireturn, 1) := by decide +kernel
theorem dX6_reset_25 : decode cX6_reset 25 = .ok (.aload_n 0, 1) := by decide +kernel
theorem dX6_reset_26 : decode cX6_reset 26 = .ok (.invokevirtual 51, 3) := by decide +kernel
theorem dX6_reset_29 : decode cX6_reset 29 = .ok (.aload_n 0, 1) := by decide +kernel
theorem dX6_reset_30 : decode cX6_reset 30 = .ok (.iload_n 1, 1) := by decide +kernel
theorem dX6_reset_31 : decode cX6_reset 31 = .ok (.invokevirtual 92, 3) := by decide +kernel
theorem dX6_reset_34 : decode cX6_reset 34 = .ok (.ireturn, 1) := by decide +kernel
theorem dX6_finishes_0 : decode cX6_finishes 0 = .ok (.aload_n 0, 1) := by decide +kernel
theorem dX6_finishes_1 : decode cX6_finishes 1 = .ok (.getfield 7, 3) := by decide +kernel
theorem dX6_finishes_4 : decode cX6_finishes 4 = .ok (.iload_n 1, 1) := by decide +kernel
theorem dX6_finishes_5 : decode cX6_finishes 5 = .ok (.iconst 0, 1) := by decide +kernel
theorem dX6_finishes_6 : decode cX6_finishes 6 = .ok (.invokestatic 32, 3) := by decide +kernel
theorem dX6_finishes_9 : decode cX6_finishes 9 = .ok (.iconst 3, 1) := by decide +kernel
theorem dX6_finishes_10 : decode cX6_finishes 10 = .ok (.iastore, 1) := by decide +kernel
theorem dX6_finishes_11 : decode cX6_finishes 11 = .ok (.aload_n 0, 1) := by decide +kernel
theorem dX6_finishes_12 : decode cX6_finishes 12 = .ok (.iload_n 1, 1) := by decide +kernel
theorem dX6_finishes_13 : decode cX6_finishes 13 = .ok (.iconst 0, 1) := by decide +kernel
theorem dX6_finishes_14 : decode cX6_finishes 14 = .ok (.iconst 3, 1) := by decide +kernel
theorem dX6_finishes_15 : decode cX6_finishes 15 = .ok (.invokevirtual 89, 3) := by decide +kernel
theorem dX6_finishes_18 : decode cX6_finishes 18 = .ok (.ireturn, 1) := by decide +kernel
theorem dX6_finishFault_0 : decode cX6_finishFault 0 = .ok (.aload_n 0, 1) := by decide +kernel
theorem dX6_finishFault_1 : decode cX6_finishFault 1 = .ok (.getfield 7, 3) := by decide +kernel
theorem dX6_finishFault_4 : decode cX6_finishFault 4 = .ok (.iload_n 1, 1) := by decide +kernel
theorem dX6_finishFault_5 : decode cX6_finishFault 5 = .ok (.iconst 0, 1) := by decide +kernel
theorem dX6_finishFault_6 : decode cX6_finishFault 6 = .ok (.invokestatic 32, 3) := by decide +kernel
theorem dX6_finishFault_9 : decode cX6_finishFault 9 = .ok (.iaload, 1) := by decide +kernel
theorem dX6_finishFault_10 : decode cX6_finishFault 10 = .ok (.ifCond .ne 8, 3) := by decide +kernel
theorem dX6_finishFault_13 : decode cX6_finishFault 13 = .ok (.bipush (-4), 2) := by decide +kernel
theorem dX6_finishFault_15 : decode cX6_finishFault 15 = .ok (.goto 23, 3) := by decide +kernel
theorem dX6_finishFault_18 : decode cX6_finishFault 18 = .ok (.aload_n 0, 1) := by decide +kernel
theorem dX6_finishFault_19 : decode cX6_finishFault 19 = .ok (.getfield 7, 3) := by decide +kernel
theorem dX6_finishFault_22 : decode cX6_finishFault 22 = .ok (.iload_n 1, 1) := by decide +kernel
theorem dX6_finishFault_23 : decode cX6_finishFault 23 = .ok (.iconst 0, 1) := by decide +kernel
theorem dX6_finishFault_24 : decode cX6_finishFault 24 = .ok (.invokestatic 32, 3) := by decide +kernel
theorem dX6_finishFault_27 : decode cX6_finishFault 27 = .ok (.iaload, 1) := by decide +kernel
theorem dX6_finishFault_28 : decode cX6_finishFault 28 = .ok (.iconst 3, 1) := by decide +kernel
theorem dX6_finishFault_29 : decode cX6_finishFault 29 = .ok (.if_icmp .ne 8, 3) := by decide +kernel
theorem dX6_finishFault_32 : decode cX6_finishFault 32 = .ok (.bipush (-5), 2) := by decide +kernel
theorem dX6_finishFault_34 : decode cX6_finishFault 34 = .ok (.goto 4, 3) := by decide +kernel
theorem dX6_finishFault_37 : decode cX6_finishFault 37 = .ok (.iconst 0, 1) := by decide +kernel
theorem dX6_finishFault_38 : decode cX6_finishFault 38 = .ok (.ireturn, 1) := by decide +kernel
theorem dX6_finish_0 : decode cX6_finish 0 = .ok (.iload_n 1, 1) := by decide +kernel
theorem dX6_finish_1 : decode cX6_finish 1 = .ok (.invokestatic 64, 3) := by decide +kernel
theorem dX6_finish_4 : decode cX6_finish 4 = .ok (.ifCond .ne 5, 3) := by decide +kernel
theorem dX6_finish_7 : decode cX6_finish 7 = .ok (.iconst (-1), 1) := by decide +kernel
theorem dX6_finish_8 : decode cX6_finish 8 = .ok (.ireturn, 1) := by decide +kernel
theorem dX6_finish_9 : decode cX6_finish 9 = .ok (.aload_n 0, 1) := by decide +kernel
theorem dX6_finish_10 : decode cX6_finish 10 = .ok (.iload_n 1, 1) := by decide +kernel
theorem dX6_finish_11 : decode cX6_finish 11 = .ok (.invokevirtual 95, 3) := by decide +kernel
theorem dX6_finish_14 : decode cX6_finish 14 = .ok (.istore_n 2, 1) := by decide +kernel
theorem dX6_finish_15 : decode cX6_finish 15 = .ok (.iload_n 2, 1) := by decide +kernel
theorem dX6_finish_16 : decode cX6_finish 16 = .ok (.ifCond .ge 5, 3) := by decide +kernel
theorem dX6_finish_19 : decode cX6_finish 19 = .ok (.iload_n 2, 1) := by decide +kernel
theorem dX6_finish_20 : decode cX6_finish 20 = .ok (.ireturn, 1) := by decide +kernel
theorem dX6_finish_21 : decode cX6_finish 21 = .ok (.aload_n 0, 1) := by decide +kernel
theorem dX6_finish_22 : decode cX6_finish 22 = .ok (.invokevirtual 51, 3) := by decide +kernel
theorem dX6_finish_25 : decode cX6_finish 25 = .ok (.aload_n 0, 1) := by decide +kernel
theorem dX6_finish_26 : decode cX6_finish 26 = .ok (.iload_n 1, 1) := by decide +kernel
theorem dX6_finish_27 : decode cX6_finish 27 = .ok (.invokevirtual 98, 3) := by decide +kernel
theorem dX6_finish_30 : decode cX6_finish 30 = .ok (.ireturn, 1) := by decide +kernel
theorem dX6_close_0 : decode cX6_close 0 = .ok (.iload_n 1, 1) := by decide +kernel
theorem dX6_close_1 : decode cX6_close 1 = .ok (.invokestatic 64, 3) := by decide +kernel
theorem dX6_close_4 : decode cX6_close 4 = .ok (.ifCond .ne 5, 3) := by decide +kernel
theorem dX6_close_7 : decode cX6_close 7 = .ok (.iconst (-1), 1) := by decide +kernel
theorem dX6_close_8 : decode cX6_close 8 = .ok (.ireturn, 1) := by decide +kernel
theorem dX6_close_9 : decode cX6_close 9 = .ok (.aload_n 0, 1) := by decide +kernel
theorem dX6_close_10 : decode cX6_close 10 = .ok (.getfield 7, 3) := by decide +kernel
theorem dX6_close_13 : decode cX6_close 13 = .ok (.iload_n 1, 1) := by decide +kernel
theorem dX6_close_14 : decode cX6_close 14 = .ok (.iconst 0, 1) := by decide +kernel
theorem dX6_close_15 : decode cX6_close 15 = .ok (.invokestatic 32, 3) := by decide +kernel
theorem dX6_close_18 : decode cX6_close 18 = .ok (.iaload, 1) := by decide +kernel
theorem dX6_close_19 : decode cX6_close 19 = .ok (.iconst 1, 1) := by decide +kernel
theorem dX6_close_20 : decode cX6_close 20 = .ok (.if_icmp .ne 12, 3) := by decide +kernel
theorem dX6_close_23 : decode cX6_close 23 = .ok (.aload_n 0, 1) := by decide +kernel
theorem dX6_close_24 : decode cX6_close 24 = .ok (.iconst 1, 1) := by decide +kernel
theorem dX6_close_25 : decode cX6_close 25 = .ok (.iload_n 1, 1) := by decide +kernel
theorem dX6_close_26 : decode cX6_close 26 = .ok (.invokevirtual 101, 3) := by decide +kernel
theorem dX6_close_29 : decode cX6_close 29 = .ok (.ifCond .le 6, 3) := by decide +kernel
theorem dX6_close_32 : decode cX6_close 32 = .ok (.bipush (-4), 2) := by decide +kernel
theorem dX6_close_34 : decode cX6_close 34 = .ok (.ireturn, 1) := by decide +kernel
theorem dX6_close_35 : decode cX6_close 35 = .ok (.aload_n 0, 1) := by decide +kernel
theorem dX6_close_36 : decode cX6_close 36 = .ok (.invokevirtual 51, 3) := by decide +kernel
theorem dX6_close_39 : decode cX6_close 39 = .ok (.aload_n 0, 1) := by decide +kernel
theorem dX6_close_40 : decode cX6_close 40 = .ok (.getfield 7, 3) := by decide +kernel
theorem dX6_close_43 : decode cX6_close 43 = .ok (.iload_n 1, 1) := by decide +kernel
theorem dX6_close_44 : decode cX6_close 44 = .ok (.iconst 0, 1) := by decide +kernel
theorem dX6_close_45 : decode cX6_close 45 = .ok (.invokestatic 32, 3) := by decide +kernel
theorem dX6_close_48 : decode cX6_close 48 = .ok (.iconst 2, 1) := by decide +kernel
theorem dX6_close_49 : decode cX6_close 49 = .ok (.iastore, 1) := by decide +kernel
theorem dX6_close_50 : decode cX6_close 50 = .ok (.aload_n 0, 1) := by decide +kernel
theorem dX6_close_51 : decode cX6_close 51 = .ok (.iconst 0, 1) := by decide +kernel
theorem dX6_close_52 : decode cX6_close 52 = .ok (.invokevirtual 57, 3) := by decide +kernel
theorem dX6_close_55 : decode cX6_close 55 = .ok (.ireturn, 1) := by decide +kernel
theorem dX6_tell_0 : decode cX6_tell 0 = .ok (.aload_n 0, 1) := by decide +kernel
theorem dX6_tell_1 : decode cX6_tell 1 = .ok (.getfield 7, 3) := by decide +kernel
theorem dX6_tell_4 : decode cX6_tell 4 = .ok (.iload_n 1, 1) := by decide +kernel
theorem dX6_tell_5 : decode cX6_tell 5 = .ok (.iconst 1, 1) := by decide +kernel
theorem dX6_tell_6 : decode cX6_tell 6 = .ok (.invokestatic 54, 3) := by decide +kernel
theorem dX6_tell_9 : decode cX6_tell 9 = .ok (.iaload, 1) := by decide +kernel
theorem dX6_tell_10 : decode cX6_tell 10 = .ok (.istore_n 2, 1) := by decide +kernel
theorem dX6_tell_11 : decode cX6_tell 11 = .ok (.aload_n 0, 1) := by decide +kernel
theorem dX6_tell_12 : decode cX6_tell 12 = .ok (.getfield 7, 3) := by decide +kernel
theorem dX6_tell_15 : decode cX6_tell 15 = .ok (.iload_n 1, 1) := by decide +kernel
theorem dX6_tell_16 : decode cX6_tell 16 = .ok (.iconst 0, 1) := by decide +kernel
theorem dX6_tell_17 : decode cX6_tell 17 = .ok (.invokestatic 54, 3) := by decide +kernel
theorem dX6_tell_20 : decode cX6_tell 20 = .ok (.iaload, 1) := by decide +kernel
theorem dX6_tell_21 : decode cX6_tell 21 = .ok (.istore_n 3, 1) := by decide +kernel
theorem dX6_tell_22 : decode cX6_tell 22 = .ok (.iconst 0, 1) := by decide +kernel
theorem dX6_tell_23 : decode cX6_tell 23 = .ok (.istore 4, 2) := by decide +kernel
theorem dX6_tell_25 : decode cX6_tell 25 = .ok (.iconst 0, 1) := by decide +kernel
theorem dX6_tell_26 : decode cX6_tell 26 = .ok (.istore 5, 2) := by decide +kernel
theorem dX6_tell_28 : decode cX6_tell 28 = .ok (.iload 5, 2) := by decide +kernel
theorem dX6_tell_30 : decode cX6_tell 30 = .ok (.iload_n 1, 1) := by decide +kernel
theorem dX6_tell_31 : decode cX6_tell 31 = .ok (.if_icmp .ge 51, 3) := by decide +kernel
theorem dX6_tell_34 : decode cX6_tell 34 = .ok (.iload 4, 2) := by decide +kernel
theorem dX6_tell_36 : decode cX6_tell 36 = .ok (.ifCond .ne 33, 3) := by decide +kernel
theorem dX6_tell_39 : decode cX6_tell 39 = .ok (.aload_n 0, 1) := by decide +kernel
theorem dX6_tell_40 : decode cX6_tell 40 = .ok (.getfield 7, 3) := by decide +kernel
theorem dX6_tell_43 : decode cX6_tell 43 = .ok (.iload 5, 2) := by decide +kernel
theorem dX6_tell_45 : decode cX6_tell 45 = .ok (.iconst 0, 1) := by decide +kernel
theorem dX6_tell_46 : decode cX6_tell 46 = .ok (.invokestatic 54, 3) := by decide +kernel
theorem dX6_tell_49 : decode cX6_tell 49 = .ok (.iaload, 1) := by decide +kernel
theorem dX6_tell_50 : decode cX6_tell 50 = .ok (.iload_n 3, 1) := by decide +kernel
theorem dX6_tell_51 : decode cX6_tell 51 = .ok (.if_icmp .ne 22, 3) := by decide +kernel
theorem dX6_tell_54 : decode cX6_tell 54 = .ok (.aload_n 0, 1) := by decide +kernel
theorem dX6_tell_55 : decode cX6_tell 55 = .ok (.getfield 7, 3) := by decide +kernel
theorem dX6_tell_58 : decode cX6_tell 58 = .ok (.iload 5, 2) := by decide +kernel
theorem dX6_tell_60 : decode cX6_tell 60 = .ok (.iconst 3, 1) := by decide +kernel
theorem dX6_tell_61 : decode cX6_tell 61 = .ok (.invokestatic 54, 3) := by decide +kernel
theorem dX6_tell_64 : decode cX6_tell 64 = .ok (.iaload, 1) := by decide +kernel
theorem dX6_tell_65 : decode cX6_tell 65 = .ok (.iconst 2, 1) := by decide +kernel
theorem dX6_tell_66 : decode cX6_tell 66 = .ok (.if_icmp .ge 7, 3) := by decide +kernel
theorem dX6_tell_69 : decode cX6_tell 69 = .ok (.iconst 1, 1) := by decide +kernel
theorem dX6_tell_70 : decode cX6_tell 70 = .ok (.goto 4, 3) := by decide +kernel
theorem dX6_tell_73 : decode cX6_tell 73 = .ok (.iconst 0, 1) := by decide +kernel
theorem dX6_tell_74 : decode cX6_tell 74 = .ok (.istore 4, 2) := by decide +kernel
theorem dX6_tell_76 : decode cX6_tell 76 = .ok (.iinc 5 1, 3) := by decide +kernel
theorem dX6_tell_79 : decode cX6_tell 79 = .ok (.goto (-51), 3) := by decide +kernel
theorem dX6_tell_82 : decode cX6_tell 82 = .ok (.aload_n 0, 1) := by decide +kernel
theorem dX6_tell_83 : decode cX6_tell 83 = .ok (.getfield 7, 3) := by decide +kernel
theorem dX6_tell_86 : decode cX6_tell 86 = .ok (.iload_n 3, 1) := by decide +kernel
theorem dX6_tell_87 : decode cX6_tell 87 = .ok (.iconst 1, 1) := by decide +kernel
theorem dX6_tell_88 : decode cX6_tell 88 = .ok (.invokestatic 40, 3) := by decide +kernel
theorem dX6_tell_91 : decode cX6_tell 91 = .ok (.dup2, 1) := by decide +kernel
theorem dX6_tell_92 : decode cX6_tell 92 = .ok (.iaload, 1) := by decide +kernel
theorem dX6_tell_93 : decode cX6_tell 93 = .ok (.iload 4, 2) := by decide +kernel
theorem dX6_tell_95 : decode cX6_tell 95 = .ok (.ifCond .eq 7, 3) := by decide +kernel
theorem dX6_tell_98 : decode cX6_tell 98 = .ok (.iconst 1, 1) := by decide +kernel
theorem dX6_tell_99 : decode cX6_tell 99 = .ok (.goto 4, 3) := by decide +kernel
theorem dX6_tell_102 : decode cX6_tell 102 = .ok (.iconst 0, 1) := by decide +kernel
theorem dX6_tell_103 : decode cX6_tell 103 = .ok (.iadd, 1) := by decide +kernel
theorem dX6_tell_104 : decode cX6_tell 104 = .ok (.iastore, 1) := by decide +kernel
theorem dX6_tell_105 : decode cX6_tell 105 = .ok (.aload_n 0, 1) := by decide +kernel
theorem dX6_tell_106 : decode cX6_tell 106 = .ok (.getfield 7, 3) := by decide +kernel
theorem dX6_tell_109 : decode cX6_tell 109 = .ok (.iload_n 1, 1) := by decide +kernel
theorem dX6_tell_110 : decode cX6_tell 110 = .ok (.iconst 3, 1) := by decide +kernel
theorem dX6_tell_111 : decode cX6_tell 111 = .ok (.invokestatic 54, 3) := by decide +kernel
theorem dX6_tell_114 : decode cX6_tell 114 = .ok (.iconst 2, 1) := by decide +kernel
theorem dX6_tell_115 : decode cX6_tell 115 = .ok (.iastore, 1) := by decide +kernel
theorem dX6_tell_116 : decode cX6_tell 116 = .ok (.aload_n 0, 1) := by decide +kernel
theorem dX6_tell_117 : decode cX6_tell 117 = .ok (.getfield 7, 3) := by decide +kernel
theorem dX6_tell_120 : decode cX6_tell 120 = .ok (.iload_n 1, 1) := by decide +kernel
theorem dX6_tell_121 : decode cX6_tell 121 = .ok (.iconst 5, 1) := by decide +kernel
theorem dX6_tell_122 : decode cX6_tell 122 = .ok (.invokestatic 54, 3) := by decide +kernel
theorem dX6_tell_125 : decode cX6_tell 125 = .ok (.aload_n 0, 1) := by decide +kernel
theorem dX6_tell_126 : decode cX6_tell 126 = .ok (.getfield 7, 3) := by decide +kernel
theorem dX6_tell_129 : decode cX6_tell 129 = .ok (.iconst 0, 1) := by decide +kernel
theorem dX6_tell_130 : decode cX6_tell 130 = .ok (.iaload, 1) := by decide +kernel
theorem dX6_tell_131 : decode cX6_tell 131 = .ok (.iastore, 1) := by decide +kernel
theorem dX6_tell_132 : decode cX6_tell 132 = .ok (.aload_n 0, 1) := by decide +kernel
theorem dX6_tell_133 : decode cX6_tell 133 = .ok (.getfield 7, 3) := by decide +kernel
theorem dX6_tell_136 : decode cX6_tell 136 = .ok (.iload_n 1, 1) := by decide +kernel
theorem dX6_tell_137 : decode cX6_tell 137 = .ok (.bipush 7, 2) := by decide +kernel
theorem dX6_tell_139 : decode cX6_tell 139 = .ok (.invokestatic 54, 3) := by decide +kernel
theorem dX6_tell_142 : decode cX6_tell 142 = .ok (.aload_n 0, 1) := by decide +kernel
theorem dX6_tell_143 : decode cX6_tell 143 = .ok (.getfield 7, 3) := by decide +kernel
theorem dX6_tell_146 : decode cX6_tell 146 = .ok (.iload_n 2, 1) := by decide +kernel
theorem dX6_tell_147 : decode cX6_tell 147 = .ok (.iconst 4, 1) := by decide +kernel
theorem dX6_tell_148 : decode cX6_tell 148 = .ok (.invokestatic 32, 3) := by decide +kernel
theorem dX6_tell_151 : decode cX6_tell 151 = .ok (.iaload, 1) := by decide +kernel
theorem dX6_tell_152 : decode cX6_tell 152 = .ok (.iastore, 1) := by decide +kernel
theorem dX6_tell_153 : decode cX6_tell 153 = .ok (.aload_n 0, 1) := by decide +kernel
theorem dX6_tell_154 : decode cX6_tell 154 = .ok (.getfield 7, 3) := by decide +kernel
theorem dX6_tell_157 : decode cX6_tell 157 = .ok (.iload_n 2, 1) := by decide +kernel
theorem dX6_tell_158 : decode cX6_tell 158 = .ok (.bipush 6, 2) := by decide +kernel
theorem dX6_tell_160 : decode cX6_tell 160 = .ok (.aload_n 0, 1) := by decide +kernel
theorem dX6_tell_161 : decode cX6_tell 161 = .ok (.getfield 7, 3) := by decide +kernel
theorem dX6_tell_164 : decode cX6_tell 164 = .ok (.iload_n 1, 1) := by decide +kernel
theorem dX6_tell_165 : decode cX6_tell 165 = .ok (.iconst 4, 1) := by decide +kernel
theorem dX6_tell_166 : decode cX6_tell 166 = .ok (.invokestatic 54, 3) := by decide +kernel
theorem dX6_tell_169 : decode cX6_tell 169 = .ok (.iaload, 1) := by decide +kernel
theorem dX6_tell_170 : decode cX6_tell 170 = .ok (.iadd, 1) := by decide +kernel
theorem dX6_tell_171 : decode cX6_tell 171 = .ok (.invokestatic 32, 3) := by decide +kernel
theorem dX6_tell_174 : decode cX6_tell 174 = .ok (.iload_n 1, 1) := by decide +kernel
theorem dX6_tell_175 : decode cX6_tell 175 = .ok (.iastore, 1) := by decide +kernel
theorem dX6_tell_176 : decode cX6_tell 176 = .ok (.aload_n 0, 1) := by decide +kernel
theorem dX6_tell_177 : decode cX6_tell 177 = .ok (.getfield 7, 3) := by decide +kernel
theorem dX6_tell_180 : decode cX6_tell 180 = .ok (.sipush 2003, 3) := by decide +kernel
theorem dX6_tell_183 : decode cX6_tell 183 = .ok (.aload_n 0, 1) := by decide +kernel
theorem dX6_tell_184 : decode cX6_tell 184 = .ok (.getfield 7, 3) := by decide +kernel
theorem dX6_tell_187 : decode cX6_tell 187 = .ok (.bipush 9, 2) := by decide +kernel
theorem dX6_tell_189 : decode cX6_tell 189 = .ok (.iaload, 1) := by decide +kernel
theorem dX6_tell_190 : decode cX6_tell 190 = .ok (.iadd, 1) := by decide +kernel
theorem dX6_tell_191 : decode cX6_tell 191 = .ok (.iload_n 1, 1) := by decide +kernel
theorem dX6_tell_192 : decode cX6_tell 192 = .ok (.iastore, 1) := by decide +kernel
theorem dX6_tell_193 : decode cX6_tell 193 = .ok (.aload_n 0, 1) := by decide +kernel
theorem dX6_tell_194 : decode cX6_tell 194 = .ok (.getfield 7, 3) := by decide +kernel
theorem dX6_tell_197 : decode cX6_tell 197 = .ok (.bipush 9, 2) := by decide +kernel
theorem dX6_tell_199 : decode cX6_tell 199 = .ok (.dup2, 1) := by decide +kernel
theorem dX6_tell_200 : decode cX6_tell 200 = .ok (.iaload, 1) := by decide +kernel
theorem dX6_tell_201 : decode cX6_tell 201 = .ok (.iconst 1, 1) := by decide +kernel
theorem dX6_tell_202 : decode cX6_tell 202 = .ok (.iadd, 1) := by decide +kernel
theorem dX6_tell_203 : decode cX6_tell 203 = .ok (.iastore, 1) := by decide +kernel
theorem dX6_tell_204 : decode cX6_tell 204 = .ok (.return_, 1) := by decide +kernel
theorem dX6_idlest_0 : decode cX6_idlest 0 = .ok (.bipush (-5), 2) := by decide +kernel
theorem dX6_idlest_2 : decode cX6_idlest 2 = .ok (.istore_n 1, 1) := by decide +kernel
theorem dX6_idlest_3 : decode cX6_idlest 3 = .ok (.iconst 0, 1) := by decide +kernel
theorem dX6_idlest_4 : decode cX6_idlest 4 = .ok (.istore_n 2, 1) := by decide +kernel
theorem dX6_idlest_5 : decode cX6_idlest 5 = .ok (.iload_n 2, 1) := by decide +kernel
theorem dX6_idlest_6 : decode cX6_idlest 6 = .ok (.bipush 8, 2) := by decide +kernel
theorem dX6_idlest_8 : decode cX6_idlest 8 = .ok (.if_icmp .ge 77, 3) := by decide +kernel
theorem dX6_idlest_11 : decode cX6_idlest 11 = .ok (.aload_n 0, 1) := by decide +kernel
theorem dX6_idlest_12 : decode cX6_idlest 12 = .ok (.getfield 7, 3) := by decide +kernel
theorem dX6_idlest_15 : decode cX6_idlest 15 = .ok (.iload_n 2, 1) := by decide +kernel
theorem dX6_idlest_16 : decode cX6_idlest 16 = .ok (.iconst 0, 1) := by decide +kernel
theorem dX6_idlest_17 : decode cX6_idlest 17 = .ok (.invokestatic 32, 3) := by decide +kernel
theorem dX6_idlest_20 : decode cX6_idlest 20 = .ok (.iaload, 1) := by decide +kernel
theorem dX6_idlest_21 : decode cX6_idlest 21 = .ok (.iconst 1, 1) := by decide +kernel
theorem dX6_idlest_22 : decode cX6_idlest 22 = .ok (.if_icmp .ne 16, 3) := by decide +kernel
theorem dX6_idlest_25 : decode cX6_idlest 25 = .ok (.aload_n 0, 1) := by decide +kernel
theorem dX6_idlest_26 : decode cX6_idlest 26 = .ok (.iconst 1, 1) := by decide +kernel
theorem dX6_idlest_27 : decode cX6_idlest 27 = .ok (.iload_n 2, 1) := by decide +kernel
theorem dX6_idlest_28 : decode cX6_idlest 28 = .ok (.invokevirtual 101, 3) := by decide +kernel
theorem dX6_idlest_31 : decode cX6_idlest 31 = .ok (.ifCond .ne 7, 3) := by decide +kernel
theorem dX6_idlest_34 : decode cX6_idlest 34 = .ok (.iconst 1, 1) := by decide +kernel
theorem dX6_idlest_35 : decode cX6_idlest 35 = .ok (.goto 4, 3) := by decide +kernel
theorem dX6_idlest_38 : decode cX6_idlest 38 = .ok (.iconst 0, 1) := by decide +kernel
theorem dX6_idlest_39 : decode cX6_idlest 39 = .ok (.istore_n 3, 1) := by decide +kernel
theorem dX6_idlest_40 : decode cX6_idlest 40 = .ok (.iload_n 3, 1) := by decide +kernel
theorem dX6_idlest_41 : decode cX6_idlest 41 = .ok (.ifCond .eq 36, 3) := by decide +kernel
theorem dX6_idlest_44 : decode cX6_idlest 44 = .ok (.iload_n 1, 1) := by decide +kernel
theorem dX6_idlest_45 : decode cX6_idlest 45 = .ok (.bipush (-5), 2) := by decide +kernel
theorem dX6_idlest_47 : decode cX6_idlest 47 = .ok (.if_icmp .eq 26, 3) := by decide +kernel
theorem dX6_idlest_50 : decode cX6_idlest 50 = .ok (.aload_n 0, 1) := by decide +kernel
theorem dX6_idlest_51 : decode cX6_idlest 51 = .ok (.getfield 7, 3) := by decide +kernel
theorem dX6_idlest_54 : decode cX6_idlest 54 = .ok (.iload_n 2, 1) := by decide +kernel
theorem dX6_idlest_55 : decode cX6_idlest 55 = .ok (.iconst 5, 1) := by decide +kernel
theorem dX6_idlest_56 : decode cX6_idlest 56 = .ok (.invokestatic 32, 3) := by decide +kernel
theorem dX6_idlest_59 : decode cX6_idlest 59 = .ok (.iaload, 1) := by decide +kernel
theorem dX6_idlest_60 : decode cX6_idlest 60 = .ok (.aload_n 0, 1) := by decide +kernel
theorem dX6_idlest_61 : decode cX6_idlest 61 = .ok (.getfield 7, 3) := by decide +kernel
theorem dX6_idlest_64 : decode cX6_idlest 64 = .ok (.iload_n 1, 1) := by decide +kernel
theorem dX6_idlest_65 : decode cX6_idlest 65 = .ok (.iconst 5, 1) := by decide +kernel
theorem dX6_idlest_66 : decode cX6_idlest 66 = .ok (.invokestatic 32, 3) := by decide +kernel
theorem dX6_idlest_69 : decode cX6_idlest 69 = .ok (.iaload, 1) := by decide +kernel
theorem dX6_idlest_70 : decode cX6_idlest 70 = .ok (.if_icmp .ge 7, 3) := by decide +kernel
theorem dX6_idlest_73 : decode cX6_idlest 73 = .ok (.iload_n 2, 1) := by decide +kernel
theorem dX6_idlest_74 : decode cX6_idlest 74 = .ok (.goto 4, 3) := by decide +kernel
theorem dX6_idlest_77 : decode cX6_idlest 77 = .ok (.iload_n 1, 1) := by decide +kernel
theorem dX6_idlest_78 : decode cX6_idlest 78 = .ok (.istore_n 1, 1) := by decide +kernel
theorem dX6_idlest_79 : decode cX6_idlest 79 = .ok (.iinc 2 1, 3) := by decide +kernel
theorem dX6_idlest_82 : decode cX6_idlest 82 = .ok (.goto (-77), 3) := by decide +kernel
theorem dX6_idlest_85 : decode cX6_idlest 85 = .ok (.iload_n 1, 1) := by decide +kernel
theorem dX6_idlest_86 : decode cX6_idlest 86 = .ok (.ireturn, 1) := by decide +kernel
theorem dX6_opens_0 : decode cX6_opens 0 = .ok (.aload_n 0, 1) := by decide +kernel
theorem dX6_opens_1 : decode cX6_opens 1 = .ok (.getfield 7, 3) := by decide +kernel
theorem dX6_opens_4 : decode cX6_opens 4 = .ok (.iload_n 1, 1) := by decide +kernel
theorem dX6_opens_5 : decode cX6_opens 5 = .ok (.iconst 0, 1) := by decide +kernel
theorem dX6_opens_6 : decode cX6_opens 6 = .ok (.invokestatic 32, 3) := by decide +kernel
theorem dX6_opens_9 : decode cX6_opens 9 = .ok (.iaload, 1) := by decide +kernel
theorem dX6_opens_10 : decode cX6_opens 10 = .ok (.istore_n 2, 1) := by decide +kernel
theorem dX6_opens_11 : decode cX6_opens 11 = .ok (.iload_n 2, 1) := by decide +kernel
theorem dX6_opens_12 : decode cX6_opens 12 = .ok (.iconst 1, 1) := by decide +kernel
theorem dX6_opens_13 : decode cX6_opens 13 = .ok (.if_icmp .ne 5, 3) := by decide +kernel
theorem dX6_opens_16 : decode cX6_opens 16 = .ok (.iconst 1, 1) := by decide +kernel
theorem dX6_opens_17 : decode cX6_opens 17 = .ok (.ireturn, 1) := by decide +kernel
theorem dX6_opens_18 : decode cX6_opens 18 = .ok (.iload_n 2, 1) := by decide +kernel
theorem dX6_opens_19 : decode cX6_opens 19 = .ok (.ifCond .ne 19, 3) := by decide +kernel
theorem dX6_opens_22 : decode cX6_opens 22 = .ok (.aload_n 0, 1) := by decide +kernel
theorem dX6_opens_23 : decode cX6_opens 23 = .ok (.iconst 1, 1) := by decide +kernel
theorem dX6_opens_24 : decode cX6_opens 24 = .ok (.invokevirtual 57, 3) := by decide +kernel
theorem dX6_opens_27 : decode cX6_opens 27 = .ok (.aload_n 0, 1) := by decide +kernel
theorem dX6_opens_28 : decode cX6_opens 28 = .ok (.getfield 7, 3) := by decide +kernel
theorem dX6_opens_31 : decode cX6_opens 31 = .ok (.iconst 2, 1) := by decide +kernel
theorem dX6_opens_32 : decode cX6_opens 32 = .ok (.iaload, 1) := by decide +kernel
theorem dX6_opens_33 : decode cX6_opens 33 = .ok (.if_icmp .lt 5, 3) := by decide +kernel
theorem dX6_opens_36 : decode cX6_opens 36 = .ok (.iconst 0, 1) := by decide +kernel
theorem dX6_opens_37 : decode cX6_opens 37 = .ok (.ireturn, 1) := by decide +kernel
theorem dX6_opens_38 : decode cX6_opens 38 = .ok (.aload_n 0, 1) := by decide +kernel
theorem dX6_opens_39 : decode cX6_opens 39 = .ok (.iconst 0, 1) := by decide +kernel
theorem dX6_opens_40 : decode cX6_opens 40 = .ok (.invokevirtual 57, 3) := by decide +kernel
theorem dX6_opens_43 : decode cX6_opens 43 = .ok (.aload_n 0, 1) := by decide +kernel
theorem dX6_opens_44 : decode cX6_opens 44 = .ok (.getfield 7, 3) := by decide +kernel
theorem dX6_opens_47 : decode cX6_opens 47 = .ok (.iconst 1, 1) := by decide +kernel
theorem dX6_opens_48 : decode cX6_opens 48 = .ok (.iaload, 1) := by decide +kernel
theorem dX6_opens_49 : decode cX6_opens 49 = .ok (.if_icmp .lt 38, 3) := by decide +kernel
theorem dX6_opens_52 : decode cX6_opens 52 = .ok (.aload_n 0, 1) := by decide +kernel
theorem dX6_opens_53 : decode cX6_opens 53 = .ok (.invokevirtual 104, 3) := by decide +kernel
theorem dX6_opens_56 : decode cX6_opens 56 = .ok (.istore_n 3, 1) := by decide +kernel
theorem dX6_opens_57 : decode cX6_opens 57 = .ok (.iload_n 3, 1) := by decide +kernel
theorem dX6_opens_58 : decode cX6_opens 58 = .ok (.bipush (-5), 2) := by decide +kernel
theorem dX6_opens_60 : decode cX6_opens 60 = .ok (.if_icmp .ne 5, 3) := by decide +kernel
theorem dX6_opens_63 : decode cX6_opens 63 = .ok (.iconst 0, 1) := by decide +kernel
theorem dX6_opens_64 : decode cX6_opens 64 = .ok (.ireturn, 1) := by decide +kernel
theorem dX6_opens_65 : decode cX6_opens 65 = .ok (.aload_n 0, 1) := by decide +kernel
theorem dX6_opens_66 : decode cX6_opens 66 = .ok (.getfield 7, 3) := by decide +kernel
theorem dX6_opens_69 : decode cX6_opens 69 = .ok (.iload_n 3, 1) := by decide +kernel
theorem dX6_opens_70 : decode cX6_opens 70 = .ok (.iconst 0, 1) := by decide +kernel
theorem dX6_opens_71 : decode cX6_opens 71 = .ok (.invokestatic 32, 3) := by decide +kernel
theorem dX6_opens_74 : decode cX6_opens 74 = .ok (.iconst 2, 1) := by decide +kernel
theorem dX6_opens_75 : decode cX6_opens 75 = .ok (.iastore, 1) := by decide +kernel
theorem dX6_opens_76 : decode cX6_opens 76 = .ok (.aload_n 0, 1) := by decide +kernel
theorem dX6_opens_77 : decode cX6_opens 77 = .ok (.getfield 7, 3) := by decide +kernel
theorem dX6_opens_80 : decode cX6_opens 80 = .ok (.bipush 7, 2) := by decide +kernel
theorem dX6_opens_82 : decode cX6_opens 82 = .ok (.dup2, 1) := by decide +kernel
theorem dX6_opens_83 : decode cX6_opens 83 = .ok (.iaload, 1) := by decide +kernel
theorem dX6_opens_84 : decode cX6_opens 84 = .ok (.iconst 1, 1) := by decide +kernel
theorem dX6_opens_85 : decode cX6_opens 85 = .ok (.iadd, 1) := by decide +kernel
theorem dX6_opens_86 : decode cX6_opens 86 = .ok (.iastore, 1) := by decide +kernel
theorem dX6_opens_87 : decode cX6_opens 87 = .ok (.aload_n 0, 1) := by decide +kernel
theorem dX6_opens_88 : decode cX6_opens 88 = .ok (.getfield 7, 3) := by decide +kernel
theorem dX6_opens_91 : decode cX6_opens 91 = .ok (.iload_n 1, 1) := by decide +kernel
theorem dX6_opens_92 : decode cX6_opens 92 = .ok (.iconst 0, 1) := by decide +kernel
theorem dX6_opens_93 : decode cX6_opens 93 = .ok (.invokestatic 32, 3) := by decide +kernel
theorem dX6_opens_96 : decode cX6_opens 96 = .ok (.iconst 1, 1) := by decide +kernel
theorem dX6_opens_97 : decode cX6_opens 97 = .ok (.iastore, 1) := by decide +kernel
theorem dX6_opens_98 : decode cX6_opens 98 = .ok (.iconst 1, 1) := by decide +kernel
theorem dX6_opens_99 : decode cX6_opens 99 = .ok (.ireturn, 1) := by decide +kernel
theorem dX6_lookAt_0 : decode cX6_lookAt 0 = .ok (.aload_n 0, 1) := by decide +kernel
theorem dX6_lookAt_1 : decode cX6_lookAt 1 = .ok (.getfield 7, 3) := by decide +kernel
theorem dX6_lookAt_4 : decode cX6_lookAt 4 = .ok (.iload_n 1, 1) := by decide +kernel
theorem dX6_lookAt_5 : decode cX6_lookAt 5 = .ok (.iconst 1, 1) := by decide +kernel
theorem dX6_lookAt_6 : decode cX6_lookAt 6 = .ok (.invokestatic 54, 3) := by decide +kernel
theorem dX6_lookAt_9 : decode cX6_lookAt 9 = .ok (.iaload, 1) := by decide +kernel
theorem dX6_lookAt_10 : decode cX6_lookAt 10 = .ok (.istore_n 2, 1) := by decide +kernel
theorem dX6_lookAt_11 : decode cX6_lookAt 11 = .ok (.aload_n 0, 1) := by decide +kernel
theorem dX6_lookAt_12 : decode cX6_lookAt 12 = .ok (.getfield 7, 3) := by decide +kernel
theorem dX6_lookAt_15 : decode cX6_lookAt 15 = .ok (.iload_n 2, 1) := by decide +kernel
theorem dX6_lookAt_16 : decode cX6_lookAt 16 = .ok (.iconst 0, 1) := by decide +kernel
theorem dX6_lookAt_17 : decode cX6_lookAt 17 = .ok (.invokestatic 32, 3) := by decide +kernel
theorem dX6_lookAt_20 : decode cX6_lookAt 20 = .ok (.iaload, 1) := by decide +kernel
theorem dX6_lookAt_21 : decode cX6_lookAt 21 = .ok (.iconst 3, 1) := by decide +kernel
theorem dX6_lookAt_22 : decode cX6_lookAt 22 = .ok (.if_icmp .ne 11, 3) := by decide +kernel
theorem dX6_lookAt_25 : decode cX6_lookAt 25 = .ok (.aload_n 0, 1) := by decide +kernel
theorem dX6_lookAt_26 : decode cX6_lookAt 26 = .ok (.iload_n 1, 1) := by decide +kernel
theorem dX6_lookAt_27 : decode cX6_lookAt 27 = .ok (.iconst 1, 1) := by decide +kernel
theorem dX6_lookAt_28 : decode cX6_lookAt 28 = .ok (.invokevirtual 81, 3) := by decide +kernel
theorem dX6_lookAt_31 : decode cX6_lookAt 31 = .ok (.iconst (-1), 1) := by decide +kernel
theorem dX6_lookAt_32 : decode cX6_lookAt 32 = .ok (.ireturn, 1) := by decide +kernel
theorem dX6_lookAt_33 : decode cX6_lookAt 33 = .ok (.aload_n 0, 1) := by decide +kernel
theorem dX6_lookAt_34 : decode cX6_lookAt 34 = .ok (.iconst 1, 1) := by decide +kernel
theorem dX6_lookAt_35 : decode cX6_lookAt 35 = .ok (.iconst (-1), 1) := by decide +kernel
theorem dX6_lookAt_36 : decode cX6_lookAt 36 = .ok (.invokevirtual 101, 3) := by decide +kernel
theorem dX6_lookAt_39 : decode cX6_lookAt 39 = .ok (.aload_n 0, 1) := by decide +kernel
theorem dX6_lookAt_40 : decode cX6_lookAt 40 = .ok (.getfield 7, 3) := by decide +kernel
theorem dX6_lookAt_43 : decode cX6_lookAt 43 = .ok (.iconst 3, 1) := by decide +kernel
theorem dX6_lookAt_44 : decode cX6_lookAt 44 = .ok (.iaload, 1) := by decide +kernel
theorem dX6_lookAt_45 : decode cX6_lookAt 45 = .ok (.if_icmp .ge 11, 3) := by decide +kernel
theorem dX6_lookAt_48 : decode cX6_lookAt 48 = .ok (.aload_n 0, 1) := by decide +kernel
theorem dX6_lookAt_49 : decode cX6_lookAt 49 = .ok (.iload_n 2, 1) := by decide +kernel
theorem dX6_lookAt_50 : decode cX6_lookAt 50 = .ok (.invokevirtual 108, 3) := by decide +kernel
theorem dX6_lookAt_53 : decode cX6_lookAt 53 = .ok (.ifCond .ne 5, 3) := by decide +kernel
theorem dX6_lookAt_56 : decode cX6_lookAt 56 = .ok (.iconst 0, 1) := by decide +kernel
theorem dX6_lookAt_57 : decode cX6_lookAt 57 = .ok (.ireturn, 1) := by decide +kernel
theorem dX6_lookAt_58 : decode cX6_lookAt 58 = .ok (.aload_n 0, 1) := by decide +kernel
theorem dX6_lookAt_59 : decode cX6_lookAt 59 = .ok (.getfield 7, 3) := by decide +kernel
theorem dX6_lookAt_62 : decode cX6_lookAt 62 = .ok (.iload_n 2, 1) := by decide +kernel
theorem dX6_lookAt_63 : decode cX6_lookAt 63 = .ok (.iconst 3, 1) := by decide +kernel
theorem dX6_lookAt_64 : decode cX6_lookAt 64 = .ok (.invokestatic 32, 3) := by decide +kernel
theorem dX6_lookAt_67 : decode cX6_lookAt 67 = .ok (.iaload, 1) := by decide +kernel
theorem dX6_lookAt_68 : decode cX6_lookAt 68 = .ok (.istore_n 3, 1) := by decide +kernel
theorem dX6_lookAt_69 : decode cX6_lookAt 69 = .ok (.aload_n 0, 1) := by decide +kernel
theorem dX6_lookAt_70 : decode cX6_lookAt 70 = .ok (.getfield 7, 3) := by decide +kernel
theorem dX6_lookAt_73 : decode cX6_lookAt 73 = .ok (.iload_n 1, 1) := by decide +kernel
theorem dX6_lookAt_74 : decode cX6_lookAt 74 = .ok (.iconst 3, 1) := by decide +kernel
theorem dX6_lookAt_75 : decode cX6_lookAt 75 = .ok (.invokestatic 54, 3) := by decide +kernel
theorem dX6_lookAt_78 : decode cX6_lookAt 78 = .ok (.iconst 1, 1) := by decide +kernel
theorem dX6_lookAt_79 : decode cX6_lookAt 79 = .ok (.iastore, 1) := by decide +kernel
theorem dX6_lookAt_80 : decode cX6_lookAt 80 = .ok (.aload_n 0, 1) := by decide +kernel
theorem dX6_lookAt_81 : decode cX6_lookAt 81 = .ok (.getfield 7, 3) := by decide +kernel
theorem dX6_lookAt_84 : decode cX6_lookAt 84 = .ok (.iload_n 1, 1) := by decide +kernel
theorem dX6_lookAt_85 : decode cX6_lookAt 85 = .ok (.iconst 4, 1) := by decide +kernel
theorem dX6_lookAt_86 : decode cX6_lookAt 86 = .ok (.invokestatic 54, 3) := by decide +kernel
theorem dX6_lookAt_89 : decode cX6_lookAt 89 = .ok (.iload_n 3, 1) := by decide +kernel
theorem dX6_lookAt_90 : decode cX6_lookAt 90 = .ok (.iastore, 1) := by decide +kernel
theorem dX6_lookAt_91 : decode cX6_lookAt 91 = .ok (.aload_n 0, 1) := by decide +kernel
theorem dX6_lookAt_92 : decode cX6_lookAt 92 = .ok (.getfield 7, 3) := by decide +kernel
theorem dX6_lookAt_95 : decode cX6_lookAt 95 = .ok (.iload_n 1, 1) := by decide +kernel
theorem dX6_lookAt_96 : decode cX6_lookAt 96 = .ok (.bipush 8, 2) := by decide +kernel
theorem dX6_lookAt_98 : decode cX6_lookAt 98 = .ok (.invokestatic 54, 3) := by decide +kernel
theorem dX6_lookAt_101 : decode cX6_lookAt 101 = .ok (.aload_n 0, 1) := by decide +kernel
theorem dX6_lookAt_102 : decode cX6_lookAt 102 = .ok (.getfield 7, 3) := by decide +kernel
theorem dX6_lookAt_105 : decode cX6_lookAt 105 = .ok (.iconst 0, 1) := by decide +kernel
theorem dX6_lookAt_106 : decode cX6_lookAt 106 = .ok (.iaload, 1) := by decide +kernel
theorem dX6_lookAt_107 : decode cX6_lookAt 107 = .ok (.aload_n 0, 1) := by decide +kernel
theorem dX6_lookAt_108 : decode cX6_lookAt 108 = .ok (.getfield 7, 3) := by decide +kernel
theorem dX6_lookAt_111 : decode cX6_lookAt 111 = .ok (.iload_n 2, 1) := by decide +kernel
theorem dX6_lookAt_112 : decode cX6_lookAt 112 = .ok (.iconst 2, 1) := by decide +kernel
theorem dX6_lookAt_113 : decode cX6_lookAt 113 = .ok (.invokestatic 32, 3) := by decide +kernel
theorem dX6_lookAt_116 : decode cX6_lookAt 116 = .ok (.iaload, 1) := by decide +kernel
theorem dX6_lookAt_117 : decode cX6_lookAt 117 = .ok (.iadd, 1) := by decide +kernel
theorem dX6_lookAt_118 : decode cX6_lookAt 118 = .ok (.iload_n 3, 1) := by decide +kernel
theorem dX6_lookAt_119 : decode cX6_lookAt 119 = .ok (.iconst 2, 1) := by decide +kernel
theorem dX6_lookAt_120 : decode cX6_lookAt 120 = .ok (.irem, 1) := by decide +kernel
theorem dX6_lookAt_121 : decode cX6_lookAt 121 = .ok (.iadd, 1) := by decide +kernel
theorem dX6_lookAt_122 : decode cX6_lookAt 122 = .ok (.iastore, 1) := by decide +kernel
theorem dX6_lookAt_123 : decode cX6_lookAt 123 = .ok (.aload_n 0, 1) := by decide +kernel
theorem dX6_lookAt_124 : decode cX6_lookAt 124 = .ok (.getfield 7, 3) := by decide +kernel
theorem dX6_lookAt_127 : decode cX6_lookAt 127 = .ok (.iload_n 2, 1) := by decide +kernel
theorem dX6_lookAt_128 : decode cX6_lookAt 128 = .ok (.iconst 3, 1) := by decide +kernel
theorem dX6_lookAt_129 : decode cX6_lookAt 129 = .ok (.invokestatic 32, 3) := by decide +kernel
theorem dX6_lookAt_132 : decode cX6_lookAt 132 = .ok (.dup2, 1) := by decide +kernel
theorem dX6_lookAt_133 : decode cX6_lookAt 133 = .ok (.iaload, 1) := by decide +kernel
theorem dX6_lookAt_134 : decode cX6_lookAt 134 = .ok (.iconst 1, 1) := by decide +kernel
theorem dX6_lookAt_135 : decode cX6_lookAt 135 = .ok (.iadd, 1) := by decide +kernel
theorem dX6_lookAt_136 : decode cX6_lookAt 136 = .ok (.iastore, 1) := by decide +kernel
theorem dX6_lookAt_137 : decode cX6_lookAt 137 = .ok (.aload_n 0, 1) := by decide +kernel
theorem dX6_lookAt_138 : decode cX6_lookAt 138 = .ok (.getfield 7, 3) := by decide +kernel
theorem dX6_lookAt_141 : decode cX6_lookAt 141 = .ok (.iload_n 2, 1) := by decide +kernel
theorem dX6_lookAt_142 : decode cX6_lookAt 142 = .ok (.iconst 5, 1) := by decide +kernel
theorem dX6_lookAt_143 : decode cX6_lookAt 143 = .ok (.invokestatic 32, 3) := by decide +kernel
theorem dX6_lookAt_146 : decode cX6_lookAt 146 = .ok (.aload_n 0, 1) := by decide +kernel
theorem dX6_lookAt_147 : decode cX6_lookAt 147 = .ok (.getfield 7, 3) := by decide +kernel
theorem dX6_lookAt_150 : decode cX6_lookAt 150 = .ok (.bipush 8, 2) := by decide +kernel
theorem dX6_lookAt_152 : decode cX6_lookAt 152 = .ok (.iaload, 1) := by decide +kernel
theorem dX6_lookAt_153 : decode cX6_lookAt 153 = .ok (.iastore, 1) := by decide +kernel
theorem dX6_lookAt_154 : decode cX6_lookAt 154 = .ok (.aload_n 0, 1) := by decide +kernel
theorem dX6_lookAt_155 : decode cX6_lookAt 155 = .ok (.getfield 7, 3) := by decide +kernel
theorem dX6_lookAt_158 : decode cX6_lookAt 158 = .ok (.bipush 8, 2) := by decide +kernel
theorem dX6_lookAt_160 : decode cX6_lookAt 160 = .ok (.dup2, 1) := by decide +kernel
theorem dX6_lookAt_161 : decode cX6_lookAt 161 = .ok (.iaload, 1) := by decide +kernel
theorem dX6_lookAt_162 : decode cX6_lookAt 162 = .ok (.iconst 1, 1) := by decide +kernel
theorem dX6_lookAt_163 : decode cX6_lookAt 163 = .ok (.iadd, 1) := by decide +kernel
theorem dX6_lookAt_164 : decode cX6_lookAt 164 = .ok (.iastore, 1) := by decide +kernel
theorem dX6_lookAt_165 : decode cX6_lookAt 165 = .ok (.aload_n 0, 1) := by decide +kernel
theorem dX6_lookAt_166 : decode cX6_lookAt 166 = .ok (.getfield 7, 3) := by decide +kernel
theorem dX6_lookAt_169 : decode cX6_lookAt 169 = .ok (.iload_n 2, 1) := by decide +kernel
theorem dX6_lookAt_170 : decode cX6_lookAt 170 = .ok (.iconst 0, 1) := by decide +kernel
theorem dX6_lookAt_171 : decode cX6_lookAt 171 = .ok (.invokestatic 32, 3) := by decide +kernel
theorem dX6_lookAt_174 : decode cX6_lookAt 174 = .ok (.aload_n 0, 1) := by decide +kernel
theorem dX6_lookAt_175 : decode cX6_lookAt 175 = .ok (.getfield 7, 3) := by decide +kernel
theorem dX6_lookAt_178 : decode cX6_lookAt 178 = .ok (.iload_n 2, 1) := by decide +kernel
theorem dX6_lookAt_179 : decode cX6_lookAt 179 = .ok (.iconst 3, 1) := by decide +kernel
theorem dX6_lookAt_180 : decode cX6_lookAt 180 = .ok (.invokestatic 32, 3) := by decide +kernel
theorem dX6_lookAt_183 : decode cX6_lookAt 183 = .ok (.iaload, 1) := by decide +kernel
theorem dX6_lookAt_184 : decode cX6_lookAt 184 = .ok (.aload_n 0, 1) := by decide +kernel
theorem dX6_lookAt_185 : decode cX6_lookAt 185 = .ok (.getfield 7, 3) := by decide +kernel
theorem dX6_lookAt_188 : decode cX6_lookAt 188 = .ok (.iload_n 2, 1) := by decide +kernel
theorem dX6_lookAt_189 : decode cX6_lookAt 189 = .ok (.iconst 1, 1) := by decide +kernel
theorem dX6_lookAt_190 : decode cX6_lookAt 190 = .ok (.invokestatic 32, 3) := by decide +kernel
theorem dX6_lookAt_193 : decode cX6_lookAt 193 = .ok (.iaload, 1) := by decide +kernel
theorem dX6_lookAt_194 : decode cX6_lookAt 194 = .ok (.if_icmp .ne 7, 3) := by decide +kernel
theorem dX6_lookAt_197 : decode cX6_lookAt 197 = .ok (.iconst 3, 1) := by decide +kernel
theorem dX6_lookAt_198 : decode cX6_lookAt 198 = .ok (.goto 4, 3) := by decide +kernel
theorem dX6_lookAt_201 : decode cX6_lookAt 201 = .ok (.iconst 1, 1) := by decide +kernel
theorem dX6_lookAt_202 : decode cX6_lookAt 202 = .ok (.iastore, 1) := by decide +kernel
theorem dX6_lookAt_203 : decode cX6_lookAt 203 = .ok (.iconst 1, 1) := by decide +kernel
theorem dX6_lookAt_204 : decode cX6_lookAt 204 = .ok (.ireturn, 1) := by decide +kernel
theorem dX6_lookAtAll_0 : decode cX6_lookAtAll 0 = .ok (.iconst 0, 1) := by decide +kernel
theorem dX6_lookAtAll_1 : decode cX6_lookAtAll 1 = .ok (.istore_n 2, 1) := by decide +kernel
theorem dX6_lookAtAll_2 : decode cX6_lookAtAll 2 = .ok (.iload_n 2, 1) := by decide +kernel
theorem dX6_lookAtAll_3 : decode cX6_lookAtAll 3 = .ok (.aload_n 0, 1) := by decide +kernel
theorem dX6_lookAtAll_4 : decode cX6_lookAtAll 4 = .ok (.getfield 7, 3) := by decide +kernel
theorem dX6_lookAtAll_7 : decode cX6_lookAtAll 7 = .ok (.iconst 5, 1) := by decide +kernel
theorem dX6_lookAtAll_8 : decode cX6_lookAtAll 8 = .ok (.iaload, 1) := by decide +kernel
theorem dX6_lookAtAll_9 : decode cX6_lookAtAll 9 = .ok (.if_icmp .ge 97, 3) := by decide +kernel
theorem dX6_lookAtAll_12 : decode cX6_lookAtAll 12 = .ok (.aload_n 0, 1) := by decide +kernel
theorem dX6_lookAtAll_13 : decode cX6_lookAtAll 13 = .ok (.getfield 25, 3) := by decide +kernel
theorem dX6_lookAtAll_16 : decode cX6_lookAtAll 16 = .ok (.iload_n 2, 1) := by decide +kernel
theorem dX6_lookAtAll_17 : decode cX6_lookAtAll 17 = .ok (.baload, 1) := by decide +kernel
theorem dX6_lookAtAll_18 : decode cX6_lookAtAll 18 = .ok (.ifCond .eq 82, 3) := by decide +kernel
theorem dX6_lookAtAll_21 : decode cX6_lookAtAll 21 = .ok (.iload_n 1, 1) := by decide +kernel
theorem dX6_lookAtAll_22 : decode cX6_lookAtAll 22 = .ok (.ifCond .lt 17, 3) := by decide +kernel
theorem dX6_lookAtAll_25 : decode cX6_lookAtAll 25 = .ok (.aload_n 0, 1) := by decide +kernel
theorem dX6_lookAtAll_26 : decode cX6_lookAtAll 26 = .ok (.getfield 7, 3) := by decide +kernel
theorem dX6_lookAtAll_29 : decode cX6_lookAtAll 29 = .ok (.iload_n 2, 1) := by decide +kernel
theorem dX6_lookAtAll_30 : decode cX6_lookAtAll 30 = .ok (.iconst 1, 1) := by decide +kernel
theorem dX6_lookAtAll_31 : decode cX6_lookAtAll 31 = .ok (.invokestatic 54, 3) := by decide +kernel
theorem dX6_lookAtAll_34 : decode cX6_lookAtAll 34 = .ok (.iaload, 1) := by decide +kernel
theorem dX6_lookAtAll_35 : decode cX6_lookAtAll 35 = .ok (.iload_n 1, 1) := by decide +kernel
theorem dX6_lookAtAll_36 : decode cX6_lookAtAll 36 = .ok (.if_icmp .ne 64, 3) := by decide +kernel
theorem dX6_lookAtAll_39 : decode cX6_lookAtAll 39 = .ok (.aload_n 0, 1) := by decide +kernel
theorem dX6_lookAtAll_40 : decode cX6_lookAtAll 40 = .ok (.iload_n 2, 1) := by decide +kernel
theorem dX6_lookAtAll_41 : decode cX6_lookAtAll 41 = .ok (.invokevirtual 111, 3) := by decide +kernel
theorem dX6_lookAtAll_44 : decode cX6_lookAtAll 44 = .ok (.istore_n 3, 1) := by decide +kernel
theorem dX6_lookAtAll_45 : decode cX6_lookAtAll 45 = .ok (.aload_n 0, 1) := by decide +kernel
theorem dX6_lookAtAll_46 : decode cX6_lookAtAll 46 = .ok (.aload_n 0, 1) := by decide +kernel
theorem dX6_lookAtAll_47 : decode cX6_lookAtAll 47 = .ok (.getfield 114, 3) := by decide +kernel
theorem dX6_lookAtAll_50 : decode cX6_lookAtAll 50 = .ok (.ifCond .ne 7, 3) := by decide +kernel
theorem dX6_lookAtAll_53 : decode cX6_lookAtAll 53 = .ok (.iload_n 3, 1) := by decide +kernel
theorem dX6_lookAtAll_54 : decode cX6_lookAtAll 54 = .ok (.ifCond .eq 7, 3) := by decide +kernel
theorem dX6_lookAtAll_57 : decode cX6_lookAtAll 57 = .ok (.iconst 1, 1) := by decide +kernel
theorem dX6_lookAtAll_58 : decode cX6_lookAtAll 58 = .ok (.goto 4, 3) := by decide +kernel
theorem dX6_lookAtAll_61 : decode cX6_lookAtAll 61 = .ok (.iconst 0, 1) := by decide +kernel
theorem dX6_lookAtAll_62 : decode cX6_lookAtAll 62 = .ok (.putfield 114, 3) := by decide +kernel
theorem dX6_lookAtAll_65 : decode cX6_lookAtAll 65 = .ok (.aload_n 0, 1) := by decide +kernel
theorem dX6_lookAtAll_66 : decode cX6_lookAtAll 66 = .ok (.iload_n 3, 1) := by decide +kernel
theorem dX6_lookAtAll_67 : decode cX6_lookAtAll 67 = .ok (.iconst 1, 1) := by decide +kernel
theorem dX6_lookAtAll_68 : decode cX6_lookAtAll 68 = .ok (.if_icmp .ne 25, 3) := by decide +kernel
theorem dX6_lookAtAll_71 : decode cX6_lookAtAll 71 = .ok (.aload_n 0, 1) := by decide +kernel
theorem dX6_lookAtAll_72 : decode cX6_lookAtAll 72 = .ok (.getfield 118, 3) := by decide +kernel
theorem dX6_lookAtAll_75 : decode cX6_lookAtAll 75 = .ok (.bipush (-5), 2) := by decide +kernel
theorem dX6_lookAtAll_77 : decode cX6_lookAtAll 77 = .ok (.if_icmp .ne 16, 3) := by decide +kernel
theorem dX6_lookAtAll_80 : decode cX6_lookAtAll 80 = .ok (.aload_n 0, 1) := by decide +kernel
theorem dX6_lookAtAll_81 : decode cX6_lookAtAll 81 = .ok (.getfield 7, 3) := by decide +kernel
theorem dX6_lookAtAll_84 : decode cX6_lookAtAll 84 = .ok (.iload_n 2, 1) := by decide +kernel
theorem dX6_lookAtAll_85 : decode cX6_lookAtAll 85 = .ok (.iconst 1, 1) := by decide +kernel
theorem dX6_lookAtAll_86 : decode cX6_lookAtAll 86 = .ok (.invokestatic 54, 3) := by decide +kernel
theorem dX6_lookAtAll_89 : decode cX6_lookAtAll 89 = .ok (.iaload, 1) := by decide +kernel
theorem dX6_lookAtAll_90 : decode cX6_lookAtAll 90 = .ok (.goto 7, 3) := by decide +kernel
theorem dX6_lookAtAll_93 : decode cX6_lookAtAll 93 = .ok (.aload_n 0, 1) := by decide +kernel
theorem dX6_lookAtAll_94 : decode cX6_lookAtAll 94 = .ok (.getfield 118, 3) := by decide +kernel
theorem dX6_lookAtAll_97 : decode cX6_lookAtAll 97 = .ok (.putfield 118, 3) := by decide +kernel
theorem dX6_lookAtAll_100 : decode cX6_lookAtAll 100 = .ok (.iinc 2 1, 3) := by decide +kernel
theorem dX6_lookAtAll_103 : decode cX6_lookAtAll 103 = .ok (.goto (-101), 3) := by decide +kernel
theorem dX6_lookAtAll_106 : decode cX6_lookAtAll 106 = .ok (.return_, 1) := by decide +kernel
theorem dX6_tick_0 : decode cX6_tick 0 = .ok (.aload_n 0, 1) := by decide +kernel
theorem dX6_tick_1 : decode cX6_tick 1 = .ok (.getfield 7, 3) := by decide +kernel
theorem dX6_tick_4 : decode cX6_tick 4 = .ok (.bipush 9, 2) := by decide +kernel
theorem dX6_tick_6 : decode cX6_tick 6 = .ok (.iaload, 1) := by decide +kernel
theorem dX6_tick_7 : decode cX6_tick 7 = .ok (.istore_n 1, 1) := by decide +kernel
theorem dX6_tick_8 : decode cX6_tick 8 = .ok (.aload_n 0, 1) := by decide +kernel
theorem dX6_tick_9 : decode cX6_tick 9 = .ok (.aload_n 0, 1) := by decide +kernel
theorem dX6_tick_10 : decode cX6_tick 10 = .ok (.iconst 1, 1) := by decide +kernel
theorem dX6_tick_11 : decode cX6_tick 11 = .ok (.iconst (-1), 1) := by decide +kernel
theorem dX6_tick_12 : decode cX6_tick 12 = .ok (.invokevirtual 101, 3) := by decide +kernel
theorem dX6_tick_15 : decode cX6_tick 15 = .ok (.ifCond .le 7, 3) := by decide +kernel
theorem dX6_tick_18 : decode cX6_tick 18 = .ok (.iconst 1, 1) := by decide +kernel
theorem dX6_tick_19 : decode cX6_tick 19 = .ok (.goto 4, 3) := by decide +kernel
theorem dX6_tick_22 : decode cX6_tick 22 = .ok (.iconst 0, 1) := by decide +kernel
theorem dX6_tick_23 : decode cX6_tick 23 = .ok (.putfield 114, 3) := by decide +kernel
theorem dX6_tick_26 : decode cX6_tick 26 = .ok (.iconst 0, 1) := by decide +kernel
theorem dX6_tick_27 : decode cX6_tick 27 = .ok (.istore_n 2, 1) := by decide +kernel
theorem dX6_tick_28 : decode cX6_tick 28 = .ok (.iload_n 2, 1) := by decide +kernel
theorem dX6_tick_29 : decode cX6_tick 29 = .ok (.aload_n 0, 1) := by decide +kernel
theorem dX6_tick_30 : decode cX6_tick 30 = .ok (.getfield 7, 3) := by decide +kernel
theorem dX6_tick_33 : decode cX6_tick 33 = .ok (.iconst 5, 1) := by decide +kernel
theorem dX6_tick_34 : decode cX6_tick 34 = .ok (.iaload, 1) := by decide +kernel
theorem dX6_tick_35 : decode cX6_tick 35 = .ok (.if_icmp .ge 48, 3) := by decide +kernel
theorem dX6_tick_38 : decode cX6_tick 38 = .ok (.aload_n 0, 1) := by decide +kernel
theorem dX6_tick_39 : decode cX6_tick 39 = .ok (.getfield 7, 3) := by decide +kernel
theorem dX6_tick_42 : decode cX6_tick 42 = .ok (.iload_n 2, 1) := by decide +kernel
theorem dX6_tick_43 : decode cX6_tick 43 = .ok (.iconst 3, 1) := by decide +kernel
theorem dX6_tick_44 : decode cX6_tick 44 = .ok (.invokestatic 54, 3) := by decide +kernel
theorem dX6_tick_47 : decode cX6_tick 47 = .ok (.iaload, 1) := by decide +kernel
theorem dX6_tick_48 : decode cX6_tick 48 = .ok (.iconst 1, 1) := by decide +kernel
theorem dX6_tick_49 : decode cX6_tick 49 = .ok (.if_icmp .ne 28, 3) := by decide +kernel
theorem dX6_tick_52 : decode cX6_tick 52 = .ok (.aload_n 0, 1) := by decide +kernel
theorem dX6_tick_53 : decode cX6_tick 53 = .ok (.getfield 7, 3) := by decide +kernel
theorem dX6_tick_56 : decode cX6_tick 56 = .ok (.iload_n 2, 1) := by decide +kernel
theorem dX6_tick_57 : decode cX6_tick 57 = .ok (.bipush 8, 2) := by decide +kernel
theorem dX6_tick_59 : decode cX6_tick 59 = .ok (.invokestatic 54, 3) := by decide +kernel
theorem dX6_tick_62 : decode cX6_tick 62 = .ok (.iaload, 1) := by decide +kernel
theorem dX6_tick_63 : decode cX6_tick 63 = .ok (.aload_n 0, 1) := by decide +kernel
theorem dX6_tick_64 : decode cX6_tick 64 = .ok (.getfield 7, 3) := by decide +kernel
theorem dX6_tick_67 : decode cX6_tick 67 = .ok (.iconst 0, 1) := by decide +kernel
theorem dX6_tick_68 : decode cX6_tick 68 = .ok (.iaload, 1) := by decide +kernel
theorem dX6_tick_69 : decode cX6_tick 69 = .ok (.if_icmp .ne 8, 3) := by decide +kernel
theorem dX6_tick_72 : decode cX6_tick 72 = .ok (.aload_n 0, 1) := by decide +kernel
theorem dX6_tick_73 : decode cX6_tick 73 = .ok (.iload_n 2, 1) := by decide +kernel
theorem dX6_tick_74 : decode cX6_tick 74 = .ok (.invokevirtual 121, 3) := by decide +kernel
theorem dX6_tick_77 : decode cX6_tick 77 = .ok (.iinc 2 1, 3) := by decide +kernel
theorem dX6_tick_80 : decode cX6_tick 80 = .ok (.goto (-52), 3) := by decide +kernel
theorem dX6_tick_83 : decode cX6_tick 83 = .ok (.iconst 0, 1) := by decide +kernel
theorem dX6_tick_84 : decode cX6_tick 84 = .ok (.istore_n 2, 1) := by decide +kernel
theorem dX6_tick_85 : decode cX6_tick 85 = .ok (.iload_n 2, 1) := by decide +kernel
theorem dX6_tick_86 : decode cX6_tick 86 = .ok (.aload_n 0, 1) := by decide +kernel
theorem dX6_tick_87 : decode cX6_tick 87 = .ok (.getfield 7, 3) := by decide +kernel
theorem dX6_tick_90 : decode cX6_tick 90 = .ok (.iconst 5, 1) := by decide +kernel
theorem dX6_tick_91 : decode cX6_tick 91 = .ok (.iaload, 1) := by decide +kernel
theorem dX6_tick_92 : decode cX6_tick 92 = .ok (.if_icmp .ge 33, 3) := by decide +kernel
theorem dX6_tick_95 : decode cX6_tick 95 = .ok (.aload_n 0, 1) := by decide +kernel
theorem dX6_tick_96 : decode cX6_tick 96 = .ok (.getfield 25, 3) := by decide +kernel
theorem dX6_tick_99 : decode cX6_tick 99 = .ok (.iload_n 2, 1) := by decide +kernel
theorem dX6_tick_100 : decode cX6_tick 100 = .ok (.aload_n 0, 1) := by decide +kernel
theorem dX6_tick_101 : decode cX6_tick 101 = .ok (.getfield 7, 3) := by decide +kernel
theorem dX6_tick_104 : decode cX6_tick 104 = .ok (.iload_n 2, 1) := by decide +kernel
theorem dX6_tick_105 : decode cX6_tick 105 = .ok (.iconst 3, 1) := by decide +kernel
theorem dX6_tick_106 : decode cX6_tick 106 = .ok (.invokestatic 54, 3) := by decide +kernel
theorem dX6_tick_109 : decode cX6_tick 109 = .ok (.iaload, 1) := by decide +kernel
theorem dX6_tick_110 : decode cX6_tick 110 = .ok (.ifCond .ne 7, 3) := by decide +kernel
theorem dX6_tick_113 : decode cX6_tick 113 = .ok (.iconst 1, 1) := by decide +kernel
theorem dX6_tick_114 : decode cX6_tick 114 = .ok (.goto 4, 3) := by decide +kernel
theorem dX6_tick_117 : decode cX6_tick 117 = .ok (.iconst 0, 1) := by decide +kernel
theorem dX6_tick_118 : decode cX6_tick 118 = .ok (.bastore, 1) := by decide +kernel
theorem dX6_tick_119 : decode cX6_tick 119 = .ok (.iinc 2 1, 3) := by decide +kernel
theorem dX6_tick_122 : decode cX6_tick 122 = .ok (.goto (-37), 3) := by decide +kernel
theorem dX6_tick_125 : decode cX6_tick 125 = .ok (.aload_n 0, 1) := by decide +kernel
theorem dX6_tick_126 : decode cX6_tick 126 = .ok (.bipush (-5), 2) := by decide +kernel
theorem dX6_tick_128 : decode cX6_tick 128 = .ok (.putfield 118, 3) := by decide +kernel
theorem dX6_tick_131 : decode cX6_tick 131 = .ok (.aload_n 0, 1) := by decide +kernel
theorem dX6_tick_132 : decode cX6_tick 132 = .ok (.getfield 7, 3) := by decide +kernel
theorem dX6_tick_135 : decode cX6_tick 135 = .ok (.iconst 4, 1) := by decide +kernel
theorem dX6_tick_136 : decode cX6_tick 136 = .ok (.iaload, 1) := by decide +kernel
theorem dX6_tick_137 : decode cX6_tick 137 = .ok (.ifCond .ne 11, 3) := by decide +kernel
theorem dX6_tick_140 : decode cX6_tick 140 = .ok (.aload_n 0, 1) := by decide +kernel
theorem dX6_tick_141 : decode cX6_tick 141 = .ok (.iconst (-1), 1) := by decide +kernel
theorem dX6_tick_142 : decode cX6_tick 142 = .ok (.invokevirtual 124, 3) := by decide +kernel
theorem dX6_tick_145 : decode cX6_tick 145 = .ok (.goto 64, 3) := by decide +kernel
theorem dX6_tick_148 : decode cX6_tick 148 = .ok (.aload_n 0, 1) := by decide +kernel
theorem dX6_tick_149 : decode cX6_tick 149 = .ok (.getfield 7, 3) := by decide +kernel
theorem dX6_tick_152 : decode cX6_tick 152 = .ok (.bipush 6, 2) := by decide +kernel
theorem dX6_tick_154 : decode cX6_tick 154 = .ok (.iaload, 1) := by decide +kernel
theorem dX6_tick_155 : decode cX6_tick 155 = .ok (.istore_n 2, 1) := by decide +kernel
theorem dX6_tick_156 : decode cX6_tick 156 = .ok (.iconst 0, 1) := by decide +kernel
theorem dX6_tick_157 : decode cX6_tick 157 = .ok (.istore_n 3, 1) := by decide +kernel
theorem dX6_tick_158 : decode cX6_tick 158 = .ok (.iload_n 3, 1) := by decide +kernel
theorem dX6_tick_159 : decode cX6_tick 159 = .ok (.bipush 8, 2) := by decide +kernel
theorem dX6_tick_161 : decode cX6_tick 161 = .ok (.if_icmp .ge 19, 3) := by decide +kernel
theorem dX6_tick_164 : decode cX6_tick 164 = .ok (.aload_n 0, 1) := by decide +kernel
theorem dX6_tick_165 : decode cX6_tick 165 = .ok (.iload_n 2, 1) := by decide +kernel
theorem dX6_tick_166 : decode cX6_tick 166 = .ok (.iload_n 3, 1) := by decide +kernel
theorem dX6_tick_167 : decode cX6_tick 167 = .ok (.iadd, 1) := by decide +kernel
theorem dX6_tick_168 : decode cX6_tick 168 = .ok (.bipush 8, 2) := by decide +kernel
theorem dX6_tick_170 : decode cX6_tick 170 = .ok (.irem, 1) := by decide +kernel
theorem dX6_tick_171 : decode cX6_tick 171 = .ok (.invokevirtual 124, 3) := by decide +kernel
theorem dX6_tick_174 : decode cX6_tick 174 = .ok (.iinc 3 1, 3) := by decide +kernel
theorem dX6_tick_177 : decode cX6_tick 177 = .ok (.goto (-19), 3) := by decide +kernel
theorem dX6_tick_180 : decode cX6_tick 180 = .ok (.aload_n 0, 1) := by decide +kernel
theorem dX6_tick_181 : decode cX6_tick 181 = .ok (.getfield 7, 3) := by decide +kernel
theorem dX6_tick_184 : decode cX6_tick 184 = .ok (.bipush 6, 2) := by decide +kernel
theorem dX6_tick_186 : decode cX6_tick 186 = .ok (.aload_n 0, 1) := by decide +kernel
theorem dX6_tick_187 : decode cX6_tick 187 = .ok (.getfield 118, 3) := by decide +kernel
theorem dX6_tick_190 : decode cX6_tick 190 = .ok (.bipush (-5), 2) := by decide +kernel
theorem dX6_tick_192 : decode cX6_tick 192 = .ok (.if_icmp .ne 7, 3) := by decide +kernel
theorem dX6_tick_195 : decode cX6_tick 195 = .ok (.iload_n 2, 1) := by decide +kernel
theorem dX6_tick_196 : decode cX6_tick 196 = .ok (.goto 12, 3) := by decide +kernel
theorem dX6_tick_199 : decode cX6_tick 199 = .ok (.aload_n 0, 1) := by decide +kernel
theorem dX6_tick_200 : decode cX6_tick 200 = .ok (.getfield 118, 3) := by decide +kernel
theorem dX6_tick_203 : decode cX6_tick 203 = .ok (.iconst 1, 1) := by decide +kernel
theorem dX6_tick_204 : decode cX6_tick 204 = .ok (.iadd, 1) := by decide +kernel
theorem dX6_tick_205 : decode cX6_tick 205 = .ok (.bipush 8, 2) := by decide +kernel
theorem dX6_tick_207 : decode cX6_tick 207 = .ok (.irem, 1) := by decide +kernel
theorem dX6_tick_208 : decode cX6_tick 208 = .ok (.iastore, 1) := by decide +kernel
theorem dX6_tick_209 : decode cX6_tick 209 = .ok (.aload_n 0, 1) := by decide +kernel
theorem dX6_tick_210 : decode cX6_tick 210 = .ok (.getfield 7, 3) := by decide +kernel
theorem dX6_tick_213 : decode cX6_tick 213 = .ok (.iconst 0, 1) := by decide +kernel
theorem dX6_tick_214 : decode cX6_tick 214 = .ok (.dup2, 1) := by decide +kernel
