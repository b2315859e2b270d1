theorem dX0_init_0 : decode cX0_init 0 = .ok (.aload_n 0, 1) := by decide +kernel
theorem dX0_init_1 : decode cX0_init 1 = .ok (.invokespecial 3, 3) := by decide +kernel
theorem dX0_init_4 : decode cX0_init 4 = .ok (.aload_n 0, 1) := by decide +kernel
theorem dX0_init_5 : decode cX0_init 5 = .ok (.sipush 201, 3) := by decide +kernel
theorem dX0_init_8 : decode cX0_init 8 = .ok (.newarray .int, 2) := by decide +kernel
theorem dX0_init_10 : decode cX0_init 10 = .ok (.putfield 9, 3) := by decide +kernel
theorem dX0_init_13 : decode cX0_init 13 = .ok (.aload_n 0, 1) := by decide +kernel
theorem dX0_init_14 : decode cX0_init 14 = .ok (.sipush 201, 3) := by decide +kernel
theorem dX0_init_17 : decode cX0_init 17 = .ok (.newarray .int, 2) := by decide +kernel
theorem dX0_init_19 : decode cX0_init 19 = .ok (.putfield 15, 3) := by decide +kernel
theorem dX0_init_22 : decode cX0_init 22 = .ok (.aload_n 0, 1) := by decide +kernel
theorem dX0_init_23 : decode cX0_init 23 = .ok (.sipush 201, 3) := by decide +kernel
theorem dX0_init_26 : decode cX0_init 26 = .ok (.newarray .int, 2) := by decide +kernel
theorem dX0_init_28 : decode cX0_init 28 = .ok (.putfield 18, 3) := by decide +kernel
theorem dX0_init_31 : decode cX0_init 31 = .ok (.aload_n 0, 1) := by decide +kernel
theorem dX0_init_32 : decode cX0_init 32 = .ok (.sipush 201, 3) := by decide +kernel
theorem dX0_init_35 : decode cX0_init 35 = .ok (.newarray .int, 2) := by decide +kernel
theorem dX0_init_37 : decode cX0_init 37 = .ok (.putfield 21, 3) := by decide +kernel
theorem dX0_init_40 : decode cX0_init 40 = .ok (.aload_n 0, 1) := by decide +kernel
theorem dX0_init_41 : decode cX0_init 41 = .ok (.sipush 201, 3) := by decide +kernel
theorem dX0_init_44 : decode cX0_init 44 = .ok (.newarray .int, 2) := by decide +kernel
theorem dX0_init_46 : decode cX0_init 46 = .ok (.putfield 24, 3) := by decide +kernel
theorem dX0_init_49 : decode cX0_init 49 = .ok (.aload_n 0, 1) := by decide +kernel
theorem dX0_init_50 : decode cX0_init 50 = .ok (.sipush 201, 3) := by decide +kernel
theorem dX0_init_53 : decode cX0_init 53 = .ok (.newarray .int, 2) := by decide +kernel
theorem dX0_init_55 : decode cX0_init 55 = .ok (.putfield 27, 3) := by decide +kernel
theorem dX0_init_58 : decode cX0_init 58 = .ok (.aload_n 0, 1) := by decide +kernel
theorem dX0_init_59 : decode cX0_init 59 = .ok (.sipush 201, 3) := by decide +kernel
theorem dX0_init_62 : decode cX0_init 62 = .ok (.newarray .int, 2) := by decide +kernel
theorem dX0_init_64 : decode cX0_init 64 = .ok (.putfield 30, 3) := by decide +kernel
theorem dX0_init_67 : decode cX0_init 67 = .ok (.aload_n 0, 1) := by decide +kernel
theorem dX0_init_68 : decode cX0_init 68 = .ok (.sipush 201, 3) := by decide +kernel
theorem dX0_init_71 : decode cX0_init 71 = .ok (.newarray .int, 2) := by decide +kernel
theorem dX0_init_73 : decode cX0_init 73 = .ok (.putfield 33, 3) := by decide +kernel
theorem dX0_init_76 : decode cX0_init 76 = .ok (.aload_n 0, 1) := by decide +kernel
theorem dX0_init_77 : decode cX0_init 77 = .ok (.iconst 0, 1) := by decide +kernel
theorem dX0_init_78 : decode cX0_init 78 = .ok (.putfield 36, 3) := by decide +kernel
theorem dX0_init_81 : decode cX0_init 81 = .ok (.aload_n 0, 1) := by decide +kernel
theorem dX0_init_82 : decode cX0_init 82 = .ok (.sipush 201, 3) := by decide +kernel
theorem dX0_init_85 : decode cX0_init 85 = .ok (.newarray .int, 2) := by decide +kernel
theorem dX0_init_87 : decode cX0_init 87 = .ok (.putfield 40, 3) := by decide +kernel
theorem dX0_init_90 : decode cX0_init 90 = .ok (.aload_n 0, 1) := by decide +kernel
theorem dX0_init_91 : decode cX0_init 91 = .ok (.iconst 0, 1) := by decide +kernel
theorem dX0_init_92 : decode cX0_init 92 = .ok (.putfield 43, 3) := by decide +kernel
theorem dX0_init_95 : decode cX0_init 95 = .ok (.aload_n 0, 1) := by decide +kernel
theorem dX0_init_96 : decode cX0_init 96 = .ok (.bipush 33, 2) := by decide +kernel
theorem dX0_init_98 : decode cX0_init 98 = .ok (.newarray .int, 2) := by decide +kernel
theorem dX0_init_100 : decode cX0_init 100 = .ok (.putfield 46, 3) := by decide +kernel
theorem dX0_init_103 : decode cX0_init 103 = .ok (.aload_n 0, 1) := by decide +kernel
theorem dX0_init_104 : decode cX0_init 104 = .ok (.iconst 0, 1) := by decide +kernel
theorem dX0_init_105 : decode cX0_init 105 = .ok (.putfield 49, 3) := by decide +kernel
theorem dX0_init_108 : decode cX0_init 108 = .ok (.return_, 1) := by decide +kernel
theorem dX0_copyFrom_0 : decode cX0_copyFrom 0 = .ok (.aload_n 0, 1) := by decide +kernel
theorem dX0_copyFrom_1 : decode cX0_copyFrom 1 = .ok (.aload_n 1, 1) := by decide +kernel
theorem dX0_copyFrom_2 : decode cX0_copyFrom 2 = .ok (.getfield 36, 3) := by decide +kernel
theorem dX0_copyFrom_5 : decode cX0_copyFrom 5 = .ok (.putfield 36, 3) := by decide +kernel
theorem dX0_copyFrom_8 : decode cX0_copyFrom 8 = .ok (.aload_n 0, 1) := by decide +kernel
theorem dX0_copyFrom_9 : decode cX0_copyFrom 9 = .ok (.aload_n 1, 1) := by decide +kernel
theorem dX0_copyFrom_10 : decode cX0_copyFrom 10 = .ok (.getfield 43, 3) := by decide +kernel
theorem dX0_copyFrom_13 : decode cX0_copyFrom 13 = .ok (.putfield 43, 3) := by decide +kernel
theorem dX0_copyFrom_16 : decode cX0_copyFrom 16 = .ok (.aload_n 0, 1) := by decide +kernel
theorem dX0_copyFrom_17 : decode cX0_copyFrom 17 = .ok (.aload_n 1, 1) := by decide +kernel
theorem dX0_copyFrom_18 : decode cX0_copyFrom 18 = .ok (.getfield 49, 3) := by decide +kernel
theorem dX0_copyFrom_21 : decode cX0_copyFrom 21 = .ok (.putfield 49, 3) := by decide +kernel
theorem dX0_copyFrom_24 : decode cX0_copyFrom 24 = .ok (.aload_n 1, 1) := by decide +kernel
theorem dX0_copyFrom_25 : decode cX0_copyFrom 25 = .ok (.getfield 9, 3) := by decide +kernel
theorem dX0_copyFrom_28 : decode cX0_copyFrom 28 = .ok (.aload_n 0, 1) := by decide +kernel
theorem dX0_copyFrom_29 : decode cX0_copyFrom 29 = .ok (.getfield 9, 3) := by decide +kernel
theorem dX0_copyFrom_32 : decode cX0_copyFrom 32 = .ok (.aload_n 0, 1) := by decide +kernel
theorem dX0_copyFrom_33 : decode cX0_copyFrom 33 = .ok (.getfield 36, 3) := by decide +kernel
theorem dX0_copyFrom_36 : decode cX0_copyFrom 36 = .ok (.invokestatic 52, 3) := by decide +kernel
theorem dX0_copyFrom_39 : decode cX0_copyFrom 39 = .ok (.aload_n 1, 1) := by decide +kernel
theorem dX0_copyFrom_40 : decode cX0_copyFrom 40 = .ok (.getfield 15, 3) := by decide +kernel
theorem dX0_copyFrom_43 : decode cX0_copyFrom 43 = .ok (.aload_n 0, 1) := by decide +kernel
theorem dX0_copyFrom_44 : decode cX0_copyFrom 44 = .ok (.getfield 15, 3) := by decide +kernel
theorem dX0_copyFrom_47 : decode cX0_copyFrom 47 = .ok (.aload_n 0, 1) := by decide +kernel
theorem dX0_copyFrom_48 : decode cX0_copyFrom 48 = .ok (.getfield 36, 3) := by decide +kernel
theorem dX0_copyFrom_51 : decode cX0_copyFrom 51 = .ok (.invokestatic 52, 3) := by decide +kernel
theorem dX0_copyFrom_54 : decode cX0_copyFrom 54 = .ok (.aload_n 1, 1) := by decide +kernel
theorem dX0_copyFrom_55 : decode cX0_copyFrom 55 = .ok (.getfield 18, 3) := by decide +kernel
theorem dX0_copyFrom_58 : decode cX0_copyFrom 58 = .ok (.aload_n 0, 1) := by decide +kernel
theorem dX0_copyFrom_59 : decode cX0_copyFrom 59 = .ok (.getfield 18, 3) := by decide +kernel
theorem dX0_copyFrom_62 : decode cX0_copyFrom 62 = .ok (.aload_n 0, 1) := by decide +kernel
theorem dX0_copyFrom_63 : decode cX0_copyFrom 63 = .ok (.getfield 36, 3) := by decide +kernel
theorem dX0_copyFrom_66 : decode cX0_copyFrom 66 = .ok (.invokestatic 52, 3) := by decide +kernel
theorem dX0_copyFrom_69 : decode cX0_copyFrom 69 = .ok (.aload_n 1, 1) := by decide +kernel
theorem dX0_copyFrom_70 : decode cX0_copyFrom 70 = .ok (.getfield 21, 3) := by decide +kernel
theorem dX0_copyFrom_73 : decode cX0_copyFrom 73 = .ok (.aload_n 0, 1) := by decide +kernel
theorem dX0_copyFrom_74 : decode cX0_copyFrom 74 = .ok (.getfield 21, 3) := by decide +kernel
theorem dX0_copyFrom_77 : decode cX0_copyFrom 77 = .ok (.aload_n 0, 1) := by decide +kernel
theorem dX0_copyFrom_78 : decode cX0_copyFrom 78 = .ok (.getfield 36, 3) := by decide +kernel
theorem dX0_copyFrom_81 : decode cX0_copyFrom 81 = .ok (.invokestatic 52, 3) := by decide +kernel
theorem dX0_copyFrom_84 : decode cX0_copyFrom 84 = .ok (.aload_n 1, 1) := by decide +kernel
theorem dX0_copyFrom_85 : decode cX0_copyFrom 85 = .ok (.getfield 24, 3) := by decide +kernel
theorem dX0_copyFrom_88 : decode cX0_copyFrom 88 = .ok (.aload_n 0, 1) := by decide +kernel
theorem dX0_copyFrom_89 : decode cX0_copyFrom 89 = .ok (.getfield 24, 3) := by decide +kernel
theorem dX0_copyFrom_92 : decode cX0_copyFrom 92 = .ok (.aload_n 0, 1) := by decide +kernel
theorem dX0_copyFrom_93 : decode cX0_copyFrom 93 = .ok (.getfield 36, 3) := by decide +kernel
theorem dX0_copyFrom_96 : decode cX0_copyFrom 96 = .ok (.invokestatic 52, 3) := by decide +kernel
theorem dX0_copyFrom_99 : decode cX0_copyFrom 99 = .ok (.aload_n 1, 1) := by decide +kernel
theorem dX0_copyFrom_100 : decode cX0_copyFrom 100 = .ok (.getfield 27, 3) := by decide +kernel
theorem dX0_copyFrom_103 : decode cX0_copyFrom 103 = .ok (.aload_n 0, 1) := by decide +kernel
theorem dX0_copyFrom_104 : decode cX0_copyFrom 104 = .ok (.getfield 27, 3) := by decide +kernel
theorem dX0_copyFrom_107 : decode cX0_copyFrom 107 = .ok (.aload_n 0, 1) := by decide +kernel
theorem dX0_copyFrom_108 : decode cX0_copyFrom 108 = .ok (.getfield 36, 3) := by decide +kernel
theorem dX0_copyFrom_111 : decode cX0_copyFrom 111 = .ok (.invokestatic 52, 3) := by decide +kernel
theorem dX0_copyFrom_114 : decode cX0_copyFrom 114 = .ok (.aload_n 1, 1) := by decide +kernel
theorem dX0_copyFrom_115 : decode cX0_copyFrom 115 = .ok (.getfield 30, 3) := by decide +kernel
theorem dX0_copyFrom_118 : decode cX0_copyFrom 118 = .ok (.aload_n 0, 1) := by decide +kernel
theorem dX0_copyFrom_119 : decode cX0_copyFrom 119 = .ok (.getfield 30, 3) := by decide +kernel
theorem dX0_copyFrom_122 : decode cX0_copyFrom 122 = .ok (.aload_n 0, 1) := by decide +kernel
theorem dX0_copyFrom_123 : decode cX0_copyFrom 123 = .ok (.getfield 36, 3) := by decide +kernel
theorem dX0_copyFrom_126 : decode cX0_copyFrom 126 = .ok (.invokestatic 52, 3) := by decide +kernel
theorem dX0_copyFrom_129 : decode cX0_copyFrom 129 = .ok (.aload_n 1, 1) := by decide +kernel
theorem dX0_copyFrom_130 : decode cX0_copyFrom 130 = .ok (.getfield 33, 3) := by decide +kernel
theorem dX0_copyFrom_133 : decode cX0_copyFrom 133 = .ok (.aload_n 0, 1) := by decide +kernel
theorem dX0_copyFrom_134 : decode cX0_copyFrom 134 = .ok (.getfield 33, 3) := by decide +kernel
theorem dX0_copyFrom_137 : decode cX0_copyFrom 137 = .ok (.aload_n 0, 1) := by decide +kernel
theorem dX0_copyFrom_138 : decode cX0_copyFrom 138 = .ok (.getfield 36, 3) := by decide +kernel
theorem dX0_copyFrom_141 : decode cX0_copyFrom 141 = .ok (.invokestatic 52, 3) := by decide +kernel
theorem dX0_copyFrom_144 : decode cX0_copyFrom 144 = .ok (.aload_n 1, 1) := by decide +kernel
theorem dX0_copyFrom_145 : decode cX0_copyFrom 145 = .ok (.getfield 40, 3) := by decide +kernel
theorem dX0_copyFrom_148 : decode cX0_copyFrom 148 = .ok (.aload_n 0, 1) := by decide +kernel
theorem dX0_copyFrom_149 : decode cX0_copyFrom 149 = .ok (.getfield 40, 3) := by decide +kernel
theorem dX0_copyFrom_152 : decode cX0_copyFrom 152 = .ok (.aload_n 0, 1) := by decide +kernel
theorem dX0_copyFrom_153 : decode cX0_copyFrom 153 = .ok (.getfield 43, 3) := by decide +kernel
theorem dX0_copyFrom_156 : decode cX0_copyFrom 156 = .ok (.invokestatic 52, 3) := by decide +kernel
theorem dX0_copyFrom_159 : decode cX0_copyFrom 159 = .ok (.aload_n 1, 1) := by decide +kernel
theorem dX0_copyFrom_160 : decode cX0_copyFrom 160 = .ok (.getfield 46, 3) := by decide +kernel
theorem dX0_copyFrom_163 : decode cX0_copyFrom 163 = .ok (.aload_n 0, 1) := by decide +kernel
theorem dX0_copyFrom_164 : decode cX0_copyFrom 164 = .ok (.getfield 46, 3) := by decide +kernel
theorem dX0_copyFrom_167 : decode cX0_copyFrom 167 = .ok (.aload_n 0, 1) := by decide +kernel
theorem dX0_copyFrom_168 : decode cX0_copyFrom 168 = .ok (.getfield 49, 3) := by decide +kernel
theorem dX0_copyFrom_171 : decode cX0_copyFrom 171 = .ok (.invokestatic 52, 3) := by decide +kernel
theorem dX0_copyFrom_174 : decode cX0_copyFrom 174 = .ok (.return_, 1) := by decide +kernel
theorem dX0_isNumber_0 : decode cX0_isNumber 0 = .ok (.iload_n 1, 1) := by decide +kernel
theorem dX0_isNumber_1 : decode cX0_isNumber 1 = .ok (.ifCond .lt 15, 3) := by decide +kernel
theorem dX0_isNumber_4 : decode cX0_isNumber 4 = .ok (.iload_n 1, 1) := by decide +kernel
theorem dX0_isNumber_5 : decode cX0_isNumber 5 = .ok (.aload_n 0, 1) := by decide +kernel
theorem dX0_isNumber_6 : decode cX0_isNumber 6 = .ok (.getfield 36, 3) := by decide +kernel
theorem dX0_isNumber_9 : decode cX0_isNumber 9 = .ok (.if_icmp .ge 7, 3) := by decide +kernel
theorem dX0_isNumber_12 : decode cX0_isNumber 12 = .ok (.iconst 1, 1) := by decide +kernel
theorem dX0_isNumber_13 : decode cX0_isNumber 13 = .ok (.goto 4, 3) := by decide +kernel
theorem dX0_isNumber_16 : decode cX0_isNumber 16 = .ok (.iconst 0, 1) := by decide +kernel
theorem dX0_isNumber_17 : decode cX0_isNumber 17 = .ok (.ireturn, 1) := by decide +kernel
theorem dX0_isLive_0 : decode cX0_isLive 0 = .ok (.aload_n 0, 1) := by decide +kernel
theorem dX0_isLive_1 : decode cX0_isLive 1 = .ok (.getfield 21, 3) := by decide +kernel
theorem dX0_isLive_4 : decode cX0_isLive 4 = .ok (.iload_n 1, 1) := by decide +kernel
theorem dX0_isLive_5 : decode cX0_isLive 5 = .ok (.iaload, 1) := by decide +kernel
theorem dX0_isLive_6 : decode cX0_isLive 6 = .ok (.ifCond .eq 13, 3) := by decide +kernel
theorem dX0_isLive_9 : decode cX0_isLive 9 = .ok (.aload_n 0, 1) := by decide +kernel
theorem dX0_isLive_10 : decode cX0_isLive 10 = .ok (.getfield 21, 3) := by decide +kernel
theorem dX0_isLive_13 : decode cX0_isLive 13 = .ok (.iload_n 1, 1) := by decide +kernel
theorem dX0_isLive_14 : decode cX0_isLive 14 = .ok (.iaload, 1) := by decide +kernel
theorem dX0_isLive_15 : decode cX0_isLive 15 = .ok (.iconst 1, 1) := by decide +kernel
theorem dX0_isLive_16 : decode cX0_isLive 16 = .ok (.if_icmp .ne 7, 3) := by decide +kernel
theorem dX0_isLive_19 : decode cX0_isLive 19 = .ok (.iconst 1, 1) := by decide +kernel
theorem dX0_isLive_20 : decode cX0_isLive 20 = .ok (.goto 4, 3) := by decide +kernel
theorem dX0_isLive_23 : decode cX0_isLive 23 = .ok (.iconst 0, 1) := by decide +kernel
theorem dX0_isLive_24 : decode cX0_isLive 24 = .ok (.ireturn, 1) := by decide +kernel
theorem dX0_add_0 : decode cX0_add 0 = .ok (.aload_n 0, 1) := by decide +kernel
theorem dX0_add_1 : decode cX0_add 1 = .ok (.getfield 36, 3) := by decide +kernel
theorem dX0_add_4 : decode cX0_add 4 = .ok (.sipush 201, 3) := by decide +kernel
theorem dX0_add_7 : decode cX0_add 7 = .ok (.if_icmp .ge 12, 3) := by decide +kernel
theorem dX0_add_10 : decode cX0_add 10 = .ok (.aload_n 0, 1) := by decide +kernel
theorem dX0_add_11 : decode cX0_add 11 = .ok (.getfield 49, 3) := by decide +kernel
theorem dX0_add_14 : decode cX0_add 14 = .ok (.bipush 33, 2) := by decide +kernel
theorem dX0_add_16 : decode cX0_add 16 = .ok (.if_icmp .lt 5, 3) := by decide +kernel
theorem dX0_add_19 : decode cX0_add 19 = .ok (.iconst (-1), 1) := by decide +kernel
theorem dX0_add_20 : decode cX0_add 20 = .ok (.ireturn, 1) := by decide +kernel
theorem dX0_add_21 : decode cX0_add 21 = .ok (.aload_n 0, 1) := by decide +kernel
theorem dX0_add_22 : decode cX0_add 22 = .ok (.getfield 36, 3) := by decide +kernel
theorem dX0_add_25 : decode cX0_add 25 = .ok (.istore 4, 2) := by decide +kernel
theorem dX0_add_27 : decode cX0_add 27 = .ok (.aload_n 0, 1) := by decide +kernel
theorem dX0_add_28 : decode cX0_add 28 = .ok (.dup, 1) := by decide +kernel
theorem dX0_add_29 : decode cX0_add 29 = .ok (.getfield 36, 3) := by decide +kernel
theorem dX0_add_32 : decode cX0_add 32 = .ok (.iconst 1, 1) := by decide +kernel
theorem dX0_add_33 : decode cX0_add 33 = .ok (.iadd, 1) := by decide +kernel
theorem dX0_add_34 : decode cX0_add 34 = .ok (.putfield 36, 3) := by decide +kernel
theorem dX0_add_37 : decode cX0_add 37 = .ok (.aload_n 0, 1) := by decide +kernel
theorem dX0_add_38 : decode cX0_add 38 = .ok (.getfield 9, 3) := by decide +kernel
theorem dX0_add_41 : decode cX0_add 41 = .ok (.iload 4, 2) := by decide +kernel
theorem dX0_add_43 : decode cX0_add 43 = .ok (.iload_n 1, 1) := by decide +kernel
theorem dX0_add_44 : decode cX0_add 44 = .ok (.iastore, 1) := by decide +kernel
theorem dX0_add_45 : decode cX0_add 45 = .ok (.aload_n 0, 1) := by decide +kernel
theorem dX0_add_46 : decode cX0_add 46 = .ok (.getfield 15, 3) := by decide +kernel
theorem dX0_add_49 : decode cX0_add 49 = .ok (.iload 4, 2) := by decide +kernel
theorem dX0_add_51 : decode cX0_add 51 = .ok (.iload_n 2, 1) := by decide +kernel
theorem dX0_add_52 : decode cX0_add 52 = .ok (.iastore, 1) := by decide +kernel
theorem dX0_add_53 : decode cX0_add 53 = .ok (.aload_n 0, 1) := by decide +kernel
theorem dX0_add_54 : decode cX0_add 54 = .ok (.getfield 18, 3) := by decide +kernel
theorem dX0_add_57 : decode cX0_add 57 = .ok (.iload 4, 2) := by decide +kernel
theorem dX0_add_59 : decode cX0_add 59 = .ok (.iload_n 3, 1) := by decide +kernel
theorem dX0_add_60 : decode cX0_add 60 = .ok (.iastore, 1) := by decide +kernel
theorem dX0_add_61 : decode cX0_add 61 = .ok (.aload_n 0, 1) := by decide +kernel
theorem dX0_add_62 : decode cX0_add 62 = .ok (.getfield 21, 3) := by decide +kernel
theorem dX0_add_65 : decode cX0_add 65 = .ok (.iload 4, 2) := by decide +kernel
theorem dX0_add_67 : decode cX0_add 67 = .ok (.iconst 0, 1) := by decide +kernel
theorem dX0_add_68 : decode cX0_add 68 = .ok (.iastore, 1) := by decide +kernel
theorem dX0_add_69 : decode cX0_add 69 = .ok (.aload_n 0, 1) := by decide +kernel
theorem dX0_add_70 : decode cX0_add 70 = .ok (.getfield 24, 3) := by decide +kernel
theorem dX0_add_73 : decode cX0_add 73 = .ok (.iload 4, 2) := by decide +kernel
theorem dX0_add_75 : decode cX0_add 75 = .ok (.iconst (-1), 1) := by decide +kernel
theorem dX0_add_76 : decode cX0_add 76 = .ok (.iastore, 1) := by decide +kernel
theorem dX0_add_77 : decode cX0_add 77 = .ok (.aload_n 0, 1) := by decide +kernel
theorem dX0_add_78 : decode cX0_add 78 = .ok (.getfield 27, 3) := by decide +kernel
theorem dX0_add_81 : decode cX0_add 81 = .ok (.iload 4, 2) := by decide +kernel
theorem dX0_add_83 : decode cX0_add 83 = .ok (.iconst (-1), 1) := by decide +kernel
theorem dX0_add_84 : decode cX0_add 84 = .ok (.iastore, 1) := by decide +kernel
theorem dX0_add_85 : decode cX0_add 85 = .ok (.aload_n 0, 1) := by decide +kernel
theorem dX0_add_86 : decode cX0_add 86 = .ok (.getfield 30, 3) := by decide +kernel
theorem dX0_add_89 : decode cX0_add 89 = .ok (.iload 4, 2) := by decide +kernel
theorem dX0_add_91 : decode cX0_add 91 = .ok (.bipush (-5), 2) := by decide +kernel
theorem dX0_add_93 : decode cX0_add 93 = .ok (.iastore, 1) := by decide +kernel
theorem dX0_add_94 : decode cX0_add 94 = .ok (.aload_n 0, 1) := by decide +kernel
theorem dX0_add_95 : decode cX0_add 95 = .ok (.getfield 33, 3) := by decide +kernel
theorem dX0_add_98 : decode cX0_add 98 = .ok (.iload 4, 2) := by decide +kernel
theorem dX0_add_100 : decode cX0_add 100 = .ok (.iconst (-1), 1) := by decide +kernel
theorem dX0_add_101 : decode cX0_add 101 = .ok (.iastore, 1) := by decide +kernel
theorem dX0_add_102 : decode cX0_add 102 = .ok (.aload_n 0, 1) := by decide +kernel
theorem dX0_add_103 : decode cX0_add 103 = .ok (.getfield 46, 3) := by decide +kernel
theorem dX0_add_106 : decode cX0_add 106 = .ok (.aload_n 0, 1) := by decide +kernel
theorem dX0_add_107 : decode cX0_add 107 = .ok (.getfield 49, 3) := by decide +kernel
theorem dX0_add_110 : decode cX0_add 110 = .ok (.iload 4, 2) := by decide +kernel
theorem dX0_add_112 : decode cX0_add 112 = .ok (.iastore, 1) := by decide +kernel
theorem dX0_add_113 : decode cX0_add 113 = .ok (.aload_n 0, 1) := by decide +kernel
theorem dX0_add_114 : decode cX0_add 114 = .ok (.dup, 1) := by decide +kernel
theorem dX0_add_115 : decode cX0_add 115 = .ok (.getfield 49, 3) := by decide +kernel
theorem dX0_add_118 : decode cX0_add 118 = .ok (.iconst 1, 1) := by decide +kernel
theorem dX0_add_119 : decode cX0_add 119 = .ok (.iadd, 1) := by decide +kernel
theorem dX0_add_120 : decode cX0_add 120 = .ok (.putfield 49, 3) := by decide +kernel
theorem dX0_add_123 : decode cX0_add 123 = .ok (.iload 4, 2) := by decide +kernel
theorem dX0_add_125 : decode cX0_add 125 = .ok (.ireturn, 1) := by decide +kernel
theorem dX0_begin_0 : decode cX0_begin 0 = .ok (.aload_n 0, 1) := by decide +kernel
theorem dX0_begin_1 : decode cX0_begin 1 = .ok (.getfield 21, 3) := by decide +kernel
theorem dX0_begin_4 : decode cX0_begin 4 = .ok (.iload_n 1, 1) := by decide +kernel
theorem dX0_begin_5 : decode cX0_begin 5 = .ok (.iconst 1, 1) := by decide +kernel
theorem dX0_begin_6 : decode cX0_begin 6 = .ok (.iastore, 1) := by decide +kernel
theorem dX0_begin_7 : decode cX0_begin 7 = .ok (.aload_n 0, 1) := by decide +kernel
theorem dX0_begin_8 : decode cX0_begin 8 = .ok (.getfield 24, 3) := by decide +kernel
theorem dX0_begin_11 : decode cX0_begin 11 = .ok (.iload_n 1, 1) := by decide +kernel
theorem dX0_begin_12 : decode cX0_begin 12 = .ok (.iload_n 2, 1) := by decide +kernel
theorem dX0_begin_13 : decode cX0_begin 13 = .ok (.iastore, 1) := by decide +kernel
theorem dX0_begin_14 : decode cX0_begin 14 = .ok (.aload_n 0, 1) := by decide +kernel
theorem dX0_begin_15 : decode cX0_begin 15 = .ok (.getfield 27, 3) := by decide +kernel
theorem dX0_begin_18 : decode cX0_begin 18 = .ok (.iload_n 1, 1) := by decide +kernel
theorem dX0_begin_19 : decode cX0_begin 19 = .ok (.iload_n 3, 1) := by decide +kernel
theorem dX0_begin_20 : decode cX0_begin 20 = .ok (.iastore, 1) := by decide +kernel
theorem dX0_begin_21 : decode cX0_begin 21 = .ok (.aload_n 0, 1) := by decide +kernel
theorem dX0_begin_22 : decode cX0_begin 22 = .ok (.getfield 33, 3) := by decide +kernel
theorem dX0_begin_25 : decode cX0_begin 25 = .ok (.iload_n 1, 1) := by decide +kernel
theorem dX0_begin_26 : decode cX0_begin 26 = .ok (.iload 4, 2) := by decide +kernel
theorem dX0_begin_28 : decode cX0_begin 28 = .ok (.iastore, 1) := by decide +kernel
theorem dX0_begin_29 : decode cX0_begin 29 = .ok (.return_, 1) := by decide +kernel
theorem dX0_markTold_0 : decode cX0_markTold 0 = .ok (.aload_n 0, 1) := by decide +kernel
theorem dX0_markTold_1 : decode cX0_markTold 1 = .ok (.getfield 21, 3) := by decide +kernel
theorem dX0_markTold_4 : decode cX0_markTold 4 = .ok (.iload_n 1, 1) := by decide +kernel
theorem dX0_markTold_5 : decode cX0_markTold 5 = .ok (.iconst 2, 1) := by decide +kernel
theorem dX0_markTold_6 : decode cX0_markTold 6 = .ok (.iastore, 1) := by decide +kernel
theorem dX0_markTold_7 : decode cX0_markTold 7 = .ok (.aload_n 0, 1) := by decide +kernel
theorem dX0_markTold_8 : decode cX0_markTold 8 = .ok (.getfield 43, 3) := by decide +kernel
theorem dX0_markTold_11 : decode cX0_markTold 11 = .ok (.sipush 201, 3) := by decide +kernel
theorem dX0_markTold_14 : decode cX0_markTold 14 = .ok (.if_icmp .ge 23, 3) := by decide +kernel
theorem dX0_markTold_17 : decode cX0_markTold 17 = .ok (.aload_n 0, 1) := by decide +kernel
theorem dX0_markTold_18 : decode cX0_markTold 18 = .ok (.getfield 40, 3) := by decide +kernel
theorem dX0_markTold_21 : decode cX0_markTold 21 = .ok (.aload_n 0, 1) := by decide +kernel
theorem dX0_markTold_22 : decode cX0_markTold 22 = .ok (.getfield 43, 3) := by decide +kernel
theorem dX0_markTold_25 : decode cX0_markTold 25 = .ok (.iload_n 1, 1) := by decide +kernel
theorem dX0_markTold_26 : decode cX0_markTold 26 = .ok (.iastore, 1) := by decide +kernel
theorem dX0_markTold_27 : decode cX0_markTold 27 = .ok (.aload_n 0, 1) := by decide +kernel
theorem dX0_markTold_28 : decode cX0_markTold 28 = .ok (.dup, 1) := by decide +kernel
theorem dX0_markTold_29 : decode cX0_markTold 29 = .ok (.getfield 43, 3) := by decide +kernel
theorem dX0_markTold_32 : decode cX0_markTold 32 = .ok (.iconst 1, 1) := by decide +kernel
theorem dX0_markTold_33 : decode cX0_markTold 33 = .ok (.iadd, 1) := by decide +kernel
theorem dX0_markTold_34 : decode cX0_markTold 34 = .ok (.putfield 43, 3) := by decide +kernel
theorem dX0_markTold_37 : decode cX0_markTold 37 = .ok (.return_, 1) := by decide +kernel
theorem dX0_markFailed_0 : decode cX0_markFailed 0 = .ok (.aload_n 0, 1) := by decide +kernel
theorem dX0_markFailed_1 : decode cX0_markFailed 1 = .ok (.getfield 21, 3) := by decide +kernel
theorem dX0_markFailed_4 : decode cX0_markFailed 4 = .ok (.iload_n 1, 1) := by decide +kernel
theorem dX0_markFailed_5 : decode cX0_markFailed 5 = .ok (.iconst 3, 1) := by decide +kernel
theorem dX0_markFailed_6 : decode cX0_markFailed 6 = .ok (.iastore, 1) := by decide +kernel
theorem dX0_markFailed_7 : decode cX0_markFailed 7 = .ok (.aload_n 0, 1) := by decide +kernel
theorem dX0_markFailed_8 : decode cX0_markFailed 8 = .ok (.getfield 30, 3) := by decide +kernel
theorem dX0_markFailed_11 : decode cX0_markFailed 11 = .ok (.iload_n 1, 1) := by decide +kernel
theorem dX0_markFailed_12 : decode cX0_markFailed 12 = .ok (.iload_n 2, 1) := by decide +kernel
theorem dX0_markFailed_13 : decode cX0_markFailed 13 = .ok (.iastore, 1) := by decide +kernel
theorem dX0_markFailed_14 : decode cX0_markFailed 14 = .ok (.return_, 1) := by decide +kernel
theorem dX0_failInZone_0 : decode cX0_failInZone 0 = .ok (.iconst 0, 1) := by decide +kernel
theorem dX0_failInZone_1 : decode cX0_failInZone 1 = .ok (.istore 4, 2) := by decide +kernel
theorem dX0_failInZone_3 : decode cX0_failInZone 3 = .ok (.iconst 0, 1) := by decide +kernel
theorem dX0_failInZone_4 : decode cX0_failInZone 4 = .ok (.istore 5, 2) := by decide +kernel
theorem dX0_failInZone_6 : decode cX0_failInZone 6 = .ok (.iload 5, 2) := by decide +kernel
theorem dX0_failInZone_8 : decode cX0_failInZone 8 = .ok (.aload_n 0, 1) := by decide +kernel
theorem dX0_failInZone_9 : decode cX0_failInZone 9 = .ok (.getfield 49, 3) := by decide +kernel
theorem dX0_failInZone_12 : decode cX0_failInZone 12 = .ok (.if_icmp .ge 50, 3) := by decide +kernel
theorem dX0_failInZone_15 : decode cX0_failInZone 15 = .ok (.aload_n 0, 1) := by decide +kernel
theorem dX0_failInZone_16 : decode cX0_failInZone 16 = .ok (.getfield 46, 3) := by decide +kernel
theorem dX0_failInZone_19 : decode cX0_failInZone 19 = .ok (.iload 5, 2) := by decide +kernel
theorem dX0_failInZone_21 : decode cX0_failInZone 21 = .ok (.iaload, 1) := by decide +kernel
theorem dX0_failInZone_22 : decode cX0_failInZone 22 = .ok (.istore 6, 2) := by decide +kernel
theorem dX0_failInZone_24 : decode cX0_failInZone 24 = .ok (.aload_n 0, 1) := by decide +kernel
theorem dX0_failInZone_25 : decode cX0_failInZone 25 = .ok (.getfield 15, 3) := by decide +kernel
theorem dX0_failInZone_28 : decode cX0_failInZone 28 = .ok (.iload 6, 2) := by decide +kernel
theorem dX0_failInZone_30 : decode cX0_failInZone 30 = .ok (.iaload, 1) := by decide +kernel
theorem dX0_failInZone_31 : decode cX0_failInZone 31 = .ok (.iload_n 1, 1) := by decide +kernel
theorem dX0_failInZone_32 : decode cX0_failInZone 32 = .ok (.if_icmp .ne 24, 3) := by decide +kernel
theorem dX0_failInZone_35 : decode cX0_failInZone 35 = .ok (.aload_n 0, 1) := by decide +kernel
theorem dX0_failInZone_36 : decode cX0_failInZone 36 = .ok (.getfield 21, 3) := by decide +kernel
theorem dX0_failInZone_39 : decode cX0_failInZone 39 = .ok (.iload 6, 2) := by decide +kernel
theorem dX0_failInZone_41 : decode cX0_failInZone 41 = .ok (.iaload, 1) := by decide +kernel
theorem dX0_failInZone_42 : decode cX0_failInZone 42 = .ok (.iload_n 2, 1) := by decide +kernel
theorem dX0_failInZone_43 : decode cX0_failInZone 43 = .ok (.if_icmp .ne 13, 3) := by decide +kernel
theorem dX0_failInZone_46 : decode cX0_failInZone 46 = .ok (.aload_n 0, 1) := by decide +kernel
theorem dX0_failInZone_47 : decode cX0_failInZone 47 = .ok (.iload 6, 2) := by decide +kernel
theorem dX0_failInZone_49 : decode cX0_failInZone 49 = .ok (.iload_n 3, 1) := by decide +kernel
theorem dX0_failInZone_50 : decode cX0_failInZone 50 = .ok (.invokevirtual 56, 3) := by decide +kernel
theorem dX0_failInZone_53 : decode cX0_failInZone 53 = .ok (.iinc 4 1, 3) := by decide +kernel
theorem dX0_failInZone_56 : decode cX0_failInZone 56 = .ok (.iinc 5 1, 3) := by decide +kernel
theorem dX0_failInZone_59 : decode cX0_failInZone 59 = .ok (.goto (-53), 3) := by decide +kernel
theorem dX0_failInZone_62 : decode cX0_failInZone 62 = .ok (.aload_n 0, 1) := by decide +kernel
theorem dX0_failInZone_63 : decode cX0_failInZone 63 = .ok (.invokevirtual 60, 3) := by decide +kernel
theorem dX0_failInZone_66 : decode cX0_failInZone 66 = .ok (.iload 4, 2) := by decide +kernel
theorem dX0_failInZone_68 : decode cX0_failInZone 68 = .ok (.ireturn, 1) := by decide +kernel
theorem dX0_dropEnded_0 : decode cX0_dropEnded 0 = .ok (.iconst 0, 1) := by decide +kernel
theorem dX0_dropEnded_1 : decode cX0_dropEnded 1 = .ok (.istore_n 1, 1) := by decide +kernel
theorem dX0_dropEnded_2 : decode cX0_dropEnded 2 = .ok (.iconst 0, 1) := by decide +kernel
theorem dX0_dropEnded_3 : decode cX0_dropEnded 3 = .ok (.istore_n 2, 1) := by decide +kernel
theorem dX0_dropEnded_4 : decode cX0_dropEnded 4 = .ok (.iload_n 2, 1) := by decide +kernel
theorem dX0_dropEnded_5 : decode cX0_dropEnded 5 = .ok (.aload_n 0, 1) := by decide +kernel
theorem dX0_dropEnded_6 : decode cX0_dropEnded 6 = .ok (.getfield 49, 3) := by decide +kernel
theorem dX0_dropEnded_9 : decode cX0_dropEnded 9 = .ok (.if_icmp .ge 37, 3) := by decide +kernel
theorem dX0_dropEnded_12 : decode cX0_dropEnded 12 = .ok (.aload_n 0, 1) := by decide +kernel
theorem dX0_dropEnded_13 : decode cX0_dropEnded 13 = .ok (.aload_n 0, 1) := by decide +kernel
theorem dX0_dropEnded_14 : decode cX0_dropEnded 14 = .ok (.getfield 46, 3) := by decide +kernel
theorem dX0_dropEnded_17 : decode cX0_dropEnded 17 = .ok (.iload_n 2, 1) := by decide +kernel
theorem dX0_dropEnded_18 : decode cX0_dropEnded 18 = .ok (.iaload, 1) := by decide +kernel
theorem dX0_dropEnded_19 : decode cX0_dropEnded 19 = .ok (.invokevirtual 63, 3) := by decide +kernel
theorem dX0_dropEnded_22 : decode cX0_dropEnded 22 = .ok (.ifCond .eq 18, 3) := by decide +kernel
theorem dX0_dropEnded_25 : decode cX0_dropEnded 25 = .ok (.aload_n 0, 1) := by decide +kernel
theorem dX0_dropEnded_26 : decode cX0_dropEnded 26 = .ok (.getfield 46, 3) := by decide +kernel
theorem dX0_dropEnded_29 : decode cX0_dropEnded 29 = .ok (.iload_n 1, 1) := by decide +kernel
theorem dX0_dropEnded_30 : decode cX0_dropEnded 30 = .ok (.aload_n 0, 1) := by decide +kernel
theorem dX0_dropEnded_31 : decode cX0_dropEnded 31 = .ok (.getfield 46, 3) := by decide +kernel
theorem dX0_dropEnded_34 : decode cX0_dropEnded 34 = .ok (.iload_n 2, 1) := by decide +kernel
theorem dX0_dropEnded_35 : decode cX0_dropEnded 35 = .ok (.iaload, 1) := by decide +kernel
theorem dX0_dropEnded_36 : decode cX0_dropEnded 36 = .ok (.iastore, 1) := by decide +kernel
theorem dX0_dropEnded_37 : decode cX0_dropEnded 37 = .ok (.iinc 1 1, 3) := by decide +kernel
theorem dX0_dropEnded_40 : decode cX0_dropEnded 40 = .ok (.iinc 2 1, 3) := by decide +kernel
theorem dX0_dropEnded_43 : decode cX0_dropEnded 43 = .ok (.goto (-39), 3) := by decide +kernel
theorem dX0_dropEnded_46 : decode cX0_dropEnded 46 = .ok (.aload_n 0, 1) := by decide +kernel
theorem dX0_dropEnded_47 : decode cX0_dropEnded 47 = .ok (.iload_n 1, 1) := by decide +kernel
theorem dX0_dropEnded_48 : decode cX0_dropEnded 48 = .ok (.putfield 49, 3) := by decide +kernel
theorem dX0_dropEnded_51 : decode cX0_dropEnded 51 = .ok (.return_, 1) := by decide +kernel
theorem dX0_liveIn_0 : decode cX0_liveIn 0 = .ok (.iconst 0, 1) := by decide +kernel
theorem dX0_liveIn_1 : decode cX0_liveIn 1 = .ok (.istore_n 2, 1) := by decide +kernel
theorem dX0_liveIn_2 : decode cX0_liveIn 2 = .ok (.iconst 0, 1) := by decide +kernel
theorem dX0_liveIn_3 : decode cX0_liveIn 3 = .ok (.istore_n 3, 1) := by decide +kernel
theorem dX0_liveIn_4 : decode cX0_liveIn 4 = .ok (.iload_n 3, 1) := by decide +kernel
theorem dX0_liveIn_5 : decode cX0_liveIn 5 = .ok (.aload_n 0, 1) := by decide +kernel
theorem dX0_liveIn_6 : decode cX0_liveIn 6 = .ok (.getfield 49, 3) := by decide +kernel
theorem dX0_liveIn_9 : decode cX0_liveIn 9 = .ok (.if_icmp .ge 27, 3) := by decide +kernel
theorem dX0_liveIn_12 : decode cX0_liveIn 12 = .ok (.aload_n 0, 1) := by decide +kernel
theorem dX0_liveIn_13 : decode cX0_liveIn 13 = .ok (.getfield 21, 3) := by decide +kernel
theorem dX0_liveIn_16 : decode cX0_liveIn 16 = .ok (.aload_n 0, 1) := by decide +kernel
theorem dX0_liveIn_17 : decode cX0_liveIn 17 = .ok (.getfield 46, 3) := by decide +kernel
theorem dX0_liveIn_20 : decode cX0_liveIn 20 = .ok (.iload_n 3, 1) := by decide +kernel
theorem dX0_liveIn_21 : decode cX0_liveIn 21 = .ok (.iaload, 1) := by decide +kernel
theorem dX0_liveIn_22 : decode cX0_liveIn 22 = .ok (.iaload, 1) := by decide +kernel
theorem dX0_liveIn_23 : decode cX0_liveIn 23 = .ok (.iload_n 1, 1) := by decide +kernel
theorem dX0_liveIn_24 : decode cX0_liveIn 24 = .ok (.if_icmp .ne 6, 3) := by decide +kernel
theorem dX0_liveIn_27 : decode cX0_liveIn 27 = .ok (.iinc 2 1, 3) := by decide +kernel
theorem dX0_liveIn_30 : decode cX0_liveIn 30 = .ok (.iinc 3 1, 3) := by decide +kernel
theorem dX0_liveIn_33 : decode cX0_liveIn 33 = .ok (.goto (-29), 3) := by decide +kernel
theorem dX0_liveIn_36 : decode cX0_liveIn 36 = .ok (.iload_n 2, 1) := by decide +kernel
theorem dX0_liveIn_37 : decode cX0_liveIn 37 = .ok (.ireturn, 1) := by decide +kernel
theorem dX0_liveInZone_0 : decode cX0_liveInZone 0 = .ok (.iconst 0, 1) := by decide +kernel
theorem dX0_liveInZone_1 : decode cX0_liveInZone 1 = .ok (.istore_n 3, 1) := by decide +kernel
theorem dX0_liveInZone_2 : decode cX0_liveInZone 2 = .ok (.iconst 0, 1) := by decide +kernel
theorem dX0_liveInZone_3 : decode cX0_liveInZone 3 = .ok (.istore 4, 2) := by decide +kernel
theorem dX0_liveInZone_5 : decode cX0_liveInZone 5 = .ok (.iload 4, 2) := by decide +kernel
theorem dX0_liveInZone_7 : decode cX0_liveInZone 7 = .ok (.aload_n 0, 1) := by decide +kernel
theorem dX0_liveInZone_8 : decode cX0_liveInZone 8 = .ok (.getfield 49, 3) := by decide +kernel
theorem dX0_liveInZone_11 : decode cX0_liveInZone 11 = .ok (.if_icmp .ge 44, 3) := by decide +kernel
theorem dX0_liveInZone_14 : decode cX0_liveInZone 14 = .ok (.aload_n 0, 1) := by decide +kernel
theorem dX0_liveInZone_15 : decode cX0_liveInZone 15 = .ok (.getfield 15, 3) := by decide +kernel
theorem dX0_liveInZone_18 : decode cX0_liveInZone 18 = .ok (.aload_n 0, 1) := by decide +kernel
theorem dX0_liveInZone_19 : decode cX0_liveInZone 19 = .ok (.getfield 46, 3) := by decide +kernel
theorem dX0_liveInZone_22 : decode cX0_liveInZone 22 = .ok (.iload 4, 2) := by decide +kernel
theorem dX0_liveInZone_24 : decode cX0_liveInZone 24 = .ok (.iaload, 1) := by decide +kernel
theorem dX0_liveInZone_25 : decode cX0_liveInZone 25 = .ok (.iaload, 1) := by decide +kernel
theorem dX0_liveInZone_26 : decode cX0_liveInZone 26 = .ok (.iload_n 1, 1) := by decide +kernel
theorem dX0_liveInZone_27 : decode cX0_liveInZone 27 = .ok (.if_icmp .ne 22, 3) := by decide +kernel
theorem dX0_liveInZone_30 : decode cX0_liveInZone 30 = .ok (.aload_n 0, 1) := by decide +kernel
theorem dX0_liveInZone_31 : decode cX0_liveInZone 31 = .ok (.getfield 21, 3) := by decide +kernel
theorem dX0_liveInZone_34 : decode cX0_liveInZone 34 = .ok (.aload_n 0, 1) := by decide +kernel
theorem dX0_liveInZone_35 : decode cX0_liveInZone 35 = .ok (.getfield 46, 3) := by decide +kernel
theorem dX0_liveInZone_38 : decode cX0_liveInZone 38 = .ok (.iload 4, 2) := by decide +kernel
theorem dX0_liveInZone_40 : decode cX0_liveInZone 40 = .ok (.iaload, 1) := by decide +kernel
theorem dX0_liveInZone_41 : decode cX0_liveInZone 41 = .ok (.iaload, 1) := by decide +kernel
theorem dX0_liveInZone_42 : decode cX0_liveInZone 42 = .ok (.iload_n 2, 1) := by decide +kernel
theorem dX0_liveInZone_43 : decode cX0_liveInZone 43 = .ok (.if_icmp .ne 6, 3) := by decide +kernel
theorem dX0_liveInZone_46 : decode cX0_liveInZone 46 = .ok (.iinc 3 1, 3) := by decide +kernel
theorem dX0_liveInZone_49 : decode cX0_liveInZone 49 = .ok (.iinc 4 1, 3) := by decide +kernel
theorem dX0_liveInZone_52 : decode cX0_liveInZone 52 = .ok (.goto (-47), 3) := by decide +kernel
theorem dX0_liveInZone_55 : decode cX0_liveInZone 55 = .ok (.iload_n 3, 1) := by decide +kernel
theorem dX0_liveInZone_56 : decode cX0_liveInZone 56 = .ok (.ireturn, 1) := by decide +kernel
theorem dX0_ofWriter_0 : decode cX0_ofWriter 0 = .ok (.iconst 0, 1) := by decide +kernel
theorem dX0_ofWriter_1 : decode cX0_ofWriter 1 = .ok (.istore_n 3, 1) := by decide +kernel
theorem dX0_ofWriter_2 : decode cX0_ofWriter 2 = .ok (.iconst 0, 1) := by decide +kernel
theorem dX0_ofWriter_3 : decode cX0_ofWriter 3 = .ok (.istore 4, 2) := by decide +kernel
theorem dX0_ofWriter_5 : decode cX0_ofWriter 5 = .ok (.iload 4, 2) := by decide +kernel
theorem dX0_ofWriter_7 : decode cX0_ofWriter 7 = .ok (.aload_n 0, 1) := by decide +kernel
theorem dX0_ofWriter_8 : decode cX0_ofWriter 8 = .ok (.getfield 36, 3) := by decide +kernel
theorem dX0_ofWriter_11 : decode cX0_ofWriter 11 = .ok (.if_icmp .ge 34, 3) := by decide +kernel
theorem dX0_ofWriter_14 : decode cX0_ofWriter 14 = .ok (.aload_n 0, 1) := by decide +kernel
theorem dX0_ofWriter_15 : decode cX0_ofWriter 15 = .ok (.getfield 9, 3) := by decide +kernel
theorem dX0_ofWriter_18 : decode cX0_ofWriter 18 = .ok (.iload 4, 2) := by decide +kernel
theorem dX0_ofWriter_20 : decode cX0_ofWriter 20 = .ok (.iaload, 1) := by decide +kernel
theorem dX0_ofWriter_21 : decode cX0_ofWriter 21 = .ok (.iload_n 1, 1) := by decide +kernel
theorem dX0_ofWriter_22 : decode cX0_ofWriter 22 = .ok (.if_icmp .ne 17, 3) := by decide +kernel
theorem dX0_ofWriter_25 : decode cX0_ofWriter 25 = .ok (.aload_n 0, 1) := by decide +kernel
theorem dX0_ofWriter_26 : decode cX0_ofWriter 26 = .ok (.getfield 21, 3) := by decide +kernel
theorem dX0_ofWriter_29 : decode cX0_ofWriter 29 = .ok (.iload 4, 2) := by decide +kernel
theorem dX0_ofWriter_31 : decode cX0_ofWriter 31 = .ok (.iaload, 1) := by decide +kernel
theorem dX0_ofWriter_32 : decode cX0_ofWriter 32 = .ok (.iload_n 2, 1) := by decide +kernel
theorem dX0_ofWriter_33 : decode cX0_ofWriter 33 = .ok (.if_icmp .ne 6, 3) := by decide +kernel
theorem dX0_ofWriter_36 : decode cX0_ofWriter 36 = .ok (.iinc 3 1, 3) := by decide +kernel
theorem dX0_ofWriter_39 : decode cX0_ofWriter 39 = .ok (.iinc 4 1, 3) := by decide +kernel
theorem dX0_ofWriter_42 : decode cX0_ofWriter 42 = .ok (.goto (-37), 3) := by decide +kernel
theorem dX0_ofWriter_45 : decode cX0_ofWriter 45 = .ok (.iload_n 3, 1) := by decide +kernel
theorem dX0_ofWriter_46 : decode cX0_ofWriter 46 = .ok (.ireturn, 1) := by decide +kernel
theorem dX0_isAhead_0 : decode cX0_isAhead 0 = .ok (.iconst 0, 1) := by decide +kernel
theorem dX0_isAhead_1 : decode cX0_isAhead 1 = .ok (.istore_n 2, 1) := by decide +kernel
theorem dX0_isAhead_2 : decode cX0_isAhead 2 = .ok (.iload_n 2, 1) := by decide +kernel
theorem dX0_isAhead_3 : decode cX0_isAhead 3 = .ok (.aload_n 0, 1) := by decide +kernel
theorem dX0_isAhead_4 : decode cX0_isAhead 4 = .ok (.getfield 49, 3) := by decide +kernel
theorem dX0_isAhead_7 : decode cX0_isAhead 7 = .ok (.if_icmp .ge 54, 3) := by decide +kernel
theorem dX0_isAhead_10 : decode cX0_isAhead 10 = .ok (.aload_n 0, 1) := by decide +kernel
theorem dX0_isAhead_11 : decode cX0_isAhead 11 = .ok (.getfield 46, 3) := by decide +kernel
theorem dX0_isAhead_14 : decode cX0_isAhead 14 = .ok (.iload_n 2, 1) := by decide +kernel
theorem dX0_isAhead_15 : decode cX0_isAhead 15 = .ok (.iaload, 1) := by decide +kernel
theorem dX0_isAhead_16 : decode cX0_isAhead 16 = .ok (.iload_n 1, 1) := by decide +kernel
theorem dX0_isAhead_17 : decode cX0_isAhead 17 = .ok (.if_icmp .ge 44, 3) := by decide +kernel
theorem dX0_isAhead_20 : decode cX0_isAhead 20 = .ok (.aload_n 0, 1) := by decide +kernel
theorem dX0_isAhead_21 : decode cX0_isAhead 21 = .ok (.getfield 9, 3) := by decide +kernel
theorem dX0_isAhead_24 : decode cX0_isAhead 24 = .ok (.aload_n 0, 1) := by decide +kernel
theorem dX0_isAhead_25 : decode cX0_isAhead 25 = .ok (.getfield 46, 3) := by decide +kernel
theorem dX0_isAhead_28 : decode cX0_isAhead 28 = .ok (.iload_n 2, 1) := by decide +kernel
theorem dX0_isAhead_29 : decode cX0_isAhead 29 = .ok (.iaload, 1) := by decide +kernel
theorem dX0_isAhead_30 : decode cX0_isAhead 30 = .ok (.iaload, 1) := by decide +kernel
theorem dX0_isAhead_31 : decode cX0_isAhead 31 = .ok (.aload_n 0, 1) := by decide +kernel
theorem dX0_isAhead_32 : decode cX0_isAhead 32 = .ok (.getfield 9, 3) := by decide +kernel
theorem dX0_isAhead_35 : decode cX0_isAhead 35 = .ok (.iload_n 1, 1) := by decide +kernel
theorem dX0_isAhead_36 : decode cX0_isAhead 36 = .ok (.iaload, 1) := by decide +kernel
theorem dX0_isAhead_37 : decode cX0_isAhead 37 = .ok (.if_icmp .ne 18, 3) := by decide +kernel
theorem dX0_isAhead_40 : decode cX0_isAhead 40 = .ok (.aload_n 0, 1) := by decide +kernel
theorem dX0_isAhead_41 : decode cX0_isAhead 41 = .ok (.aload_n 0, 1) := by decide +kernel
theorem dX0_isAhead_42 : decode cX0_isAhead 42 = .ok (.getfield 46, 3) := by decide +kernel
theorem dX0_isAhead_45 : decode cX0_isAhead 45 = .ok (.iload_n 2, 1) := by decide +kernel
theorem dX0_isAhead_46 : decode cX0_isAhead 46 = .ok (.iaload, 1) := by decide +kernel
theorem dX0_isAhead_47 : decode cX0_isAhead 47 = .ok (.invokevirtual 63, 3) := by decide +kernel
theorem dX0_isAhead_50 : decode cX0_isAhead 50 = .ok (.ifCond .eq 5, 3) := by decide +kernel
theorem dX0_isAhead_53 : decode cX0_isAhead 53 = .ok (.iconst 1, 1) := by decide +kernel
theorem dX0_isAhead_54 : decode cX0_isAhead 54 = .ok (.ireturn, 1) := by decide +kernel
theorem dX0_isAhead_55 : decode cX0_isAhead 55 = .ok (.iinc 2 1, 3) := by decide +kernel
theorem dX0_isAhead_58 : decode cX0_isAhead 58 = .ok (.goto (-56), 3) := by decide +kernel
theorem dX0_isAhead_61 : decode cX0_isAhead 61 = .ok (.iconst 0, 1) := by decide +kernel
theorem dX0_isAhead_62 : decode cX0_isAhead 62 = .ok (.ireturn, 1) := by decide +kernel
theorem dX0_toldInGeneration_0 : decode cX0_toldInGeneration 0 = .ok (.iconst 0, 1) := by decide +kernel
theorem dX0_toldInGeneration_1 : decode cX0_toldInGeneration 1 = .ok (.istore_n 3, 1) := by decide +kernel
theorem dX0_toldInGeneration_2 : decode cX0_toldInGeneration 2 = .ok (.iconst 0, 1) := by decide +kernel
theorem dX0_toldInGeneration_3 : decode cX0_toldInGeneration 3 = .ok (.istore 4, 2) := by decide +kernel
theorem dX0_toldInGeneration_5 : decode cX0_toldInGeneration 5 = .ok (.iload 4, 2) := by decide +kernel
theorem dX0_toldInGeneration_7 : decode cX0_toldInGeneration 7 = .ok (.aload_n 0, 1) := by decide +kernel
theorem dX0_toldInGeneration_8 : decode cX0_toldInGeneration 8 = .ok (.getfield 36, 3) := by decide +kernel
theorem dX0_toldInGeneration_11 : decode cX0_toldInGeneration 11 = .ok (.if_icmp .ge 45, 3) := by decide +kernel
theorem dX0_toldInGeneration_14 : decode cX0_toldInGeneration 14 = .ok (.aload_n 0, 1) := by decide +kernel
theorem dX0_toldInGeneration_15 : decode cX0_toldInGeneration 15 = .ok (.getfield 21, 3) := by decide +kernel
theorem dX0_toldInGeneration_18 : decode cX0_toldInGeneration 18 = .ok (.iload 4, 2) := by decide +kernel
theorem dX0_toldInGeneration_20 : decode cX0_toldInGeneration 20 = .ok (.iaload, 1) := by decide +kernel
theorem dX0_toldInGeneration_21 : decode cX0_toldInGeneration 21 = .ok (.iconst 2, 1) := by decide +kernel
theorem dX0_toldInGeneration_22 : decode cX0_toldInGeneration 22 = .ok (.if_icmp .ne 28, 3) := by decide +kernel
theorem dX0_toldInGeneration_25 : decode cX0_toldInGeneration 25 = .ok (.aload_n 0, 1) := by decide +kernel
theorem dX0_toldInGeneration_26 : decode cX0_toldInGeneration 26 = .ok (.getfield 15, 3) := by decide +kernel
theorem dX0_toldInGeneration_29 : decode cX0_toldInGeneration 29 = .ok (.iload 4, 2) := by decide +kernel
theorem dX0_toldInGeneration_31 : decode cX0_toldInGeneration 31 = .ok (.iaload, 1) := by decide +kernel
theorem dX0_toldInGeneration_32 : decode cX0_toldInGeneration 32 = .ok (.iload_n 1, 1) := by decide +kernel
theorem dX0_toldInGeneration_33 : decode cX0_toldInGeneration 33 = .ok (.if_icmp .ne 17, 3) := by decide +kernel
theorem dX0_toldInGeneration_36 : decode cX0_toldInGeneration 36 = .ok (.aload_n 0, 1) := by decide +kernel
theorem dX0_toldInGeneration_37 : decode cX0_toldInGeneration 37 = .ok (.getfield 33, 3) := by decide +kernel
theorem dX0_toldInGeneration_40 : decode cX0_toldInGeneration 40 = .ok (.iload 4, 2) := by decide +kernel
theorem dX0_toldInGeneration_42 : decode cX0_toldInGeneration 42 = .ok (.iaload, 1) := by decide +kernel
theorem dX0_toldInGeneration_43 : decode cX0_toldInGeneration 43 = .ok (.iload_n 2, 1) := by decide +kernel
theorem dX0_toldInGeneration_44 : decode cX0_toldInGeneration 44 = .ok (.if_icmp .ne 6, 3) := by decide +kernel
theorem dX0_toldInGeneration_47 : decode cX0_toldInGeneration 47 = .ok (.iinc 3 1, 3) := by decide +kernel
theorem dX0_toldInGeneration_50 : decode cX0_toldInGeneration 50 = .ok (.iinc 4 1, 3) := by decide +kernel
theorem dX0_toldInGeneration_53 : decode cX0_toldInGeneration 53 = .ok (.goto (-48), 3) := by decide +kernel
theorem dX0_toldInGeneration_56 : decode cX0_toldInGeneration 56 = .ok (.iload_n 3, 1) := by decide +kernel
theorem dX0_toldInGeneration_57 : decode cX0_toldInGeneration 57 = .ok (.ireturn, 1) := by decide +kernel
theorem dX0_holderOf_0 : decode cX0_holderOf 0 = .ok (.iconst 0, 1) := by decide +kernel
theorem dX0_holderOf_1 : decode cX0_holderOf 1 = .ok (.istore 4, 2) := by decide +kernel
theorem dX0_holderOf_3 : decode cX0_holderOf 3 = .ok (.iload 4, 2) := by decide +kernel
theorem dX0_holderOf_5 : decode cX0_holderOf 5 = .ok (.aload_n 0, 1) := by decide +kernel
theorem dX0_holderOf_6 : decode cX0_holderOf 6 = .ok (.getfield 36, 3) := by decide +kernel
theorem dX0_holderOf_9 : decode cX0_holderOf 9 = .ok (.if_icmp .ge 67, 3) := by decide +kernel
theorem dX0_holderOf_12 : decode cX0_holderOf 12 = .ok (.aload_n 0, 1) := by decide +kernel
theorem dX0_holderOf_13 : decode cX0_holderOf 13 = .ok (.getfield 15, 3) := by decide +kernel
theorem dX0_holderOf_16 : decode cX0_holderOf 16 = .ok (.iload 4, 2) := by decide +kernel
theorem dX0_holderOf_18 : decode cX0_holderOf 18 = .ok (.iaload, 1) := by decide +kernel
theorem dX0_holderOf_19 : decode cX0_holderOf 19 = .ok (.iload_n 1, 1) := by decide +kernel
theorem dX0_holderOf_20 : decode cX0_holderOf 20 = .ok (.if_icmp .ne 50, 3) := by decide +kernel
theorem dX0_holderOf_23 : decode cX0_holderOf 23 = .ok (.aload_n 0, 1) := by decide +kernel
theorem dX0_holderOf_24 : decode cX0_holderOf 24 = .ok (.getfield 33, 3) := by decide +kernel
theorem dX0_holderOf_27 : decode cX0_holderOf 27 = .ok (.iload 4, 2) := by decide +kernel
theorem dX0_holderOf_29 : decode cX0_holderOf 29 = .ok (.iaload, 1) := by decide +kernel
theorem dX0_holderOf_30 : decode cX0_holderOf 30 = .ok (.iload_n 2, 1) := by decide +kernel
theorem dX0_holderOf_31 : decode cX0_holderOf 31 = .ok (.if_icmp .ne 39, 3) := by decide +kernel
theorem dX0_holderOf_34 : decode cX0_holderOf 34 = .ok (.aload_n 0, 1) := by decide +kernel
theorem dX0_holderOf_35 : decode cX0_holderOf 35 = .ok (.getfield 24, 3) := by decide +kernel
theorem dX0_holderOf_38 : decode cX0_holderOf 38 = .ok (.iload 4, 2) := by decide +kernel
theorem dX0_holderOf_40 : decode cX0_holderOf 40 = .ok (.iaload, 1) := by decide +kernel
theorem dX0_holderOf_41 : decode cX0_holderOf 41 = .ok (.iload_n 3, 1) := by decide +kernel
theorem dX0_holderOf_42 : decode cX0_holderOf 42 = .ok (.if_icmp .ne 28, 3) := by decide +kernel
theorem dX0_holderOf_45 : decode cX0_holderOf 45 = .ok (.aload_n 0, 1) := by decide +kernel
theorem dX0_holderOf_46 : decode cX0_holderOf 46 = .ok (.getfield 21, 3) := by decide +kernel
theorem dX0_holderOf_49 : decode cX0_holderOf 49 = .ok (.iload 4, 2) := by decide +kernel
theorem dX0_holderOf_51 : decode cX0_holderOf 51 = .ok (.iaload, 1) := by decide +kernel
theorem dX0_holderOf_52 : decode cX0_holderOf 52 = .ok (.iconst 2, 1) := by decide +kernel
theorem dX0_holderOf_53 : decode cX0_holderOf 53 = .ok (.if_icmp .eq 14, 3) := by decide +kernel
theorem dX0_holderOf_56 : decode cX0_holderOf 56 = .ok (.aload_n 0, 1) := by decide +kernel
theorem dX0_holderOf_57 : decode cX0_holderOf 57 = .ok (.getfield 21, 3) := by decide +kernel
theorem dX0_holderOf_60 : decode cX0_holderOf 60 = .ok (.iload 4, 2) := by decide +kernel
theorem dX0_holderOf_62 : decode cX0_holderOf 62 = .ok (.iaload, 1) := by decide +kernel
theorem dX0_holderOf_63 : decode cX0_holderOf 63 = .ok (.iconst 1, 1) := by decide +kernel
theorem dX0_holderOf_64 : decode cX0_holderOf 64 = .ok (.if_icmp .ne 6, 3) := by decide +kernel
theorem dX0_holderOf_67 : decode cX0_holderOf 67 = .ok (.iload 4, 2) := by decide +kernel
theorem dX0_holderOf_69 : decode cX0_holderOf 69 = .ok (.ireturn, 1) := by decide +kernel
theorem dX0_holderOf_70 : decode cX0_holderOf 70 = .ok (.iinc 4 1, 3) := by decide +kernel
theorem dX0_holderOf_73 : decode cX0_holderOf 73 = .ok (.goto (-70), 3) := by decide +kernel
theorem dX0_holderOf_76 : decode cX0_holderOf 76 = .ok (.iconst (-1), 1) := by decide +kernel
theorem dX0_holderOf_77 : decode cX0_holderOf 77 = .ok (.ireturn, 1) := by decide +kernel
theorem dX0_toldAt_0 : decode cX0_toldAt 0 = .ok (.iload_n 1, 1) := by decide +kernel
theorem dX0_toldAt_1 : decode cX0_toldAt 1 = .ok (.ifCond .ge 6, 3) := by decide +kernel
theorem dX0_toldAt_4 : decode cX0_toldAt 4 = .ok (.bipush (-2), 2) := by decide +kernel
theorem dX0_toldAt_6 : decode cX0_toldAt 6 = .ok (.ireturn, 1) := by decide +kernel
theorem dX0_toldAt_7 : decode cX0_toldAt 7 = .ok (.iload_n 1, 1) := by decide +kernel
theorem dX0_toldAt_8 : decode cX0_toldAt 8 = .ok (.aload_n 0, 1) := by decide +kernel
theorem dX0_toldAt_9 : decode cX0_toldAt 9 = .ok (.getfield 43, 3) := by decide +kernel
theorem dX0_toldAt_12 : decode cX0_toldAt 12 = .ok (.if_icmp .ge 12, 3) := by decide +kernel
theorem dX0_toldAt_15 : decode cX0_toldAt 15 = .ok (.aload_n 0, 1) := by decide +kernel
theorem dX0_toldAt_16 : decode cX0_toldAt 16 = .ok (.getfield 40, 3) := by decide +kernel
theorem dX0_toldAt_19 : decode cX0_toldAt 19 = .ok (.iload_n 1, 1) := by decide +kernel
theorem dX0_toldAt_20 : decode cX0_toldAt 20 = .ok (.iaload, 1) := by decide +kernel
theorem dX0_toldAt_21 : decode cX0_toldAt 21 = .ok (.goto 5, 3) := by decide +kernel
theorem dX0_toldAt_24 : decode cX0_toldAt 24 = .ok (.bipush (-5), 2) := by decide +kernel
theorem dX0_toldAt_26 : decode cX0_toldAt 26 = .ok (.ireturn, 1) := by decide +kernel
theorem dX0_tellAppend_0 : decode cX0_tellAppend 0 = .ok (.aload_n 0, 1) := by decide +kernel
theorem dX0_tellAppend_1 : decode cX0_tellAppend 1 = .ok (.iload_n 1, 1) := by decide +kernel
theorem dX0_tellAppend_2 : decode cX0_tellAppend 2 = .ok (.invokevirtual 67, 3) := by decide +kernel
theorem dX0_tellAppend_5 : decode cX0_tellAppend 5 = .ok (.ifCond .ne 5, 3) := by decide +kernel
theorem dX0_tellAppend_8 : decode cX0_tellAppend 8 = .ok (.iconst (-1), 1) := by decide +kernel
theorem dX0_tellAppend_9 : decode cX0_tellAppend 9 = .ok (.ireturn, 1) := by decide +kernel
theorem dX0_tellAppend_10 : decode cX0_tellAppend 10 = .ok (.aload_n 0, 1) := by decide +kernel
theorem dX0_tellAppend_11 : decode cX0_tellAppend 11 = .ok (.getfield 21, 3) := by decide +kernel
theorem dX0_tellAppend_14 : decode cX0_tellAppend 14 = .ok (.iload_n 1, 1) := by decide +kernel
theorem dX0_tellAppend_15 : decode cX0_tellAppend 15 = .ok (.iaload, 1) := by decide +kernel
theorem dX0_tellAppend_16 : decode cX0_tellAppend 16 = .ok (.iconst 2, 1) := by decide +kernel
theorem dX0_tellAppend_17 : decode cX0_tellAppend 17 = .ok (.if_icmp .ne 7, 3) := by decide +kernel
theorem dX0_tellAppend_20 : decode cX0_tellAppend 20 = .ok (.iconst 1, 1) := by decide +kernel
theorem dX0_tellAppend_21 : decode cX0_tellAppend 21 = .ok (.goto 4, 3) := by decide +kernel
theorem dX0_tellAppend_24 : decode cX0_tellAppend 24 = .ok (.iconst 0, 1) := by decide +kernel
theorem dX0_tellAppend_25 : decode cX0_tellAppend 25 = .ok (.istore_n 3, 1) := by decide +kernel
theorem dX0_tellAppend_26 : decode cX0_tellAppend 26 = .ok (.iload_n 2, 1) := by decide +kernel
theorem dX0_tellAppend_27 : decode cX0_tellAppend 27 = .ok (.tableswitch 128 0 7 #[45, 52, 59, 66, 73, 89, 105, 112], 45) := by decide +kernel
theorem dX0_tellAppend_72 : decode cX0_tellAppend 72 = .ok (.aload_n 0, 1) := by decide +kernel
theorem dX0_tellAppend_73 : decode cX0_tellAppend 73 = .ok (.getfield 9, 3) := by decide +kernel
theorem dX0_tellAppend_76 : decode cX0_tellAppend 76 = .ok (.iload_n 1, 1) := by decide +kernel
theorem dX0_tellAppend_77 : decode cX0_tellAppend 77 = .ok (.iaload, 1) := by decide +kernel
theorem dX0_tellAppend_78 : decode cX0_tellAppend 78 = .ok (.ireturn, 1) := by decide +kernel
theorem dX0_tellAppend_79 : decode cX0_tellAppend 79 = .ok (.aload_n 0, 1) := by decide +kernel
theorem dX0_tellAppend_80 : decode cX0_tellAppend 80 = .ok (.getfield 15, 3) := by decide +kernel
theorem dX0_tellAppend_83 : decode cX0_tellAppend 83 = .ok (.iload_n 1, 1) := by decide +kernel
theorem dX0_tellAppend_84 : decode cX0_tellAppend 84 = .ok (.iaload, 1) := by decide +kernel
theorem dX0_tellAppend_85 : decode cX0_tellAppend 85 = .ok (.ireturn, 1) := by decide +kernel
theorem dX0_tellAppend_86 : decode cX0_tellAppend 86 = .ok (.aload_n 0, 1) := by decide +kernel
theorem dX0_tellAppend_87 : decode cX0_tellAppend 87 = .ok (.getfield 18, 3) := by decide +kernel
theorem dX0_tellAppend_90 : decode cX0_tellAppend 90 = .ok (.iload_n 1, 1) := by decide +kernel
theorem dX0_tellAppend_91 : decode cX0_tellAppend 91 = .ok (.iaload, 1) := by decide +kernel
theorem dX0_tellAppend_92 : decode cX0_tellAppend 92 = .ok (.ireturn, 1) := by decide +kernel
theorem dX0_tellAppend_93 : decode cX0_tellAppend 93 = .ok (.aload_n 0, 1) := by decide +kernel
theorem dX0_tellAppend_94 : decode cX0_tellAppend 94 = .ok (.getfield 21, 3) := by decide +kernel
theorem dX0_tellAppend_97 : decode cX0_tellAppend 97 = .ok (.iload_n 1, 1) := by decide +kernel
theorem dX0_tellAppend_98 : decode cX0_tellAppend 98 = .ok (.iaload, 1) := by decide +kernel
theorem dX0_tellAppend_99 : decode cX0_tellAppend 99 = .ok (.ireturn, 1) := by decide +kernel
theorem dX0_tellAppend_100 : decode cX0_tellAppend 100 = .ok (.iload_n 3, 1) := by decide +kernel
theorem dX0_tellAppend_101 : decode cX0_tellAppend 101 = .ok (.ifCond .eq 12, 3) := by decide +kernel
theorem dX0_tellAppend_104 : decode cX0_tellAppend 104 = .ok (.aload_n 0, 1) := by decide +kernel
theorem dX0_tellAppend_105 : decode cX0_tellAppend 105 = .ok (.getfield 24, 3) := by decide +kernel
theorem dX0_tellAppend_108 : decode cX0_tellAppend 108 = .ok (.iload_n 1, 1) := by decide +kernel
theorem dX0_tellAppend_109 : decode cX0_tellAppend 109 = .ok (.iaload, 1) := by decide +kernel
theorem dX0_tellAppend_110 : decode cX0_tellAppend 110 = .ok (.goto 5, 3) := by decide +kernel
theorem dX0_tellAppend_113 : decode cX0_tellAppend 113 = .ok (.bipush (-5), 2) := by decide +kernel
theorem dX0_tellAppend_115 : decode cX0_tellAppend 115 = .ok (.ireturn, 1) := by decide +kernel
theorem dX0_tellAppend_116 : decode cX0_tellAppend 116 = .ok (.iload_n 3, 1) := by decide +kernel
theorem dX0_tellAppend_117 : decode cX0_tellAppend 117 = .ok (.ifCond .eq 12, 3) := by decide +kernel
theorem dX0_tellAppend_120 : decode cX0_tellAppend 120 = .ok (.aload_n 0, 1) := by decide +kernel
theorem dX0_tellAppend_121 : decode cX0_tellAppend 121 = .ok (.getfield 27, 3) := by decide +kernel
theorem dX0_tellAppend_124 : decode cX0_tellAppend 124 = .ok (.iload_n 1, 1) := by decide +kernel
theorem dX0_tellAppend_125 : decode cX0_tellAppend 125 = .ok (.iaload, 1) := by decide +kernel
theorem dX0_tellAppend_126 : decode cX0_tellAppend 126 = .ok (.goto 5, 3) := by decide +kernel
theorem dX0_tellAppend_129 : decode cX0_tellAppend 129 = .ok (.bipush (-5), 2) := by decide +kernel
theorem dX0_tellAppend_131 : decode cX0_tellAppend 131 = .ok (.ireturn, 1) := by decide +kernel
theorem dX0_tellAppend_132 : decode cX0_tellAppend 132 = .ok (.aload_n 0, 1) := by decide +kernel
theorem dX0_tellAppend_133 : decode cX0_tellAppend 133 = .ok (.getfield 30, 3) := by decide +kernel
theorem dX0_tellAppend_136 : decode cX0_tellAppend 136 = .ok (.iload_n 1, 1) := by decide +kernel
theorem dX0_tellAppend_137 : decode cX0_tellAppend 137 = .ok (.iaload, 1) := by decide +kernel
theorem dX0_tellAppend_138 : decode cX0_tellAppend 138 = .ok (.ireturn, 1) := by decide +kernel
theorem dX0_tellAppend_139 : decode cX0_tellAppend 139 = .ok (.iload_n 3, 1) := by decide +kernel
theorem dX0_tellAppend_140 : decode cX0_tellAppend 140 = .ok (.ifCond .eq 12, 3) := by decide +kernel
theorem dX0_tellAppend_143 : decode cX0_tellAppend 143 = .ok (.aload_n 0, 1) := by decide +kernel
theorem dX0_tellAppend_144 : decode cX0_tellAppend 144 = .ok (.getfield 33, 3) := by decide +kernel
theorem dX0_tellAppend_147 : decode cX0_tellAppend 147 = .ok (.iload_n 1, 1) := by decide +kernel
theorem dX0_tellAppend_148 : decode cX0_tellAppend 148 = .ok (.iaload, 1) := by decide +kernel
theorem dX0_tellAppend_149 : decode cX0_tellAppend 149 = .ok (.goto 5, 3) := by decide +kernel
theorem dX0_tellAppend_152 : decode cX0_tellAppend 152 = .ok (.bipush (-5), 2) := by decide +kernel
theorem dX0_tellAppend_154 : decode cX0_tellAppend 154 = .ok (.ireturn, 1) := by decide +kernel
theorem dX0_tellAppend_155 : decode cX0_tellAppend 155 = .ok (.bipush (-2), 2) := by decide +kernel
theorem dX0_tellAppend_157 : decode cX0_tellAppend 157 = .ok (.ireturn, 1) := by decide +kernel
theorem dX1_init_0 : decode cX1_init 0 = .ok (.aload_n 0, 1) := by decide +kernel
theorem dX1_init_1 : decode cX1_init 1 = .ok (.invokespecial 3, 3) := by decide +kernel
theorem dX1_init_4 : decode cX1_init 4 = .ok (.aload_n 0, 1) := by decide +kernel
theorem dX1_init_5 : decode cX1_init 5 = .ok (.iconst 5, 1) := by decide +kernel
theorem dX1_init_6 : decode cX1_init 6 = .ok (.anewarray 11, 3) := by decide +kernel
theorem dX1_init_9 : decode cX1_init 9 = .ok (.putfield 13, 3) := by decide +kernel
theorem dX1_init_12 : decode cX1_init 12 = .ok (.aload_n 0, 1) := by decide +kernel
theorem dX1_init_13 : decode cX1_init 13 = .ok (.iconst 0, 1) := by decide +kernel
theorem dX1_init_14 : decode cX1_init 14 = .ok (.putfield 17, 3) := by decide +kernel
theorem dX1_init_17 : decode cX1_init 17 = .ok (.aload_n 0, 1) := by decide +kernel
theorem dX1_init_18 : decode cX1_init 18 = .ok (.iconst 0, 1) := by decide +kernel
theorem dX1_init_19 : decode cX1_init 19 = .ok (.putfield 21, 3) := by decide +kernel
theorem dX1_init_22 : decode cX1_init 22 = .ok (.iconst 0, 1) := by decide +kernel
theorem dX1_init_23 : decode cX1_init 23 = .ok (.istore_n 1, 1) := by decide +kernel
theorem dX1_init_24 : decode cX1_init 24 = .ok (.iload_n 1, 1) := by decide +kernel
theorem dX1_init_25 : decode cX1_init 25 = .ok (.iconst 5, 1) := by decide +kernel
theorem dX1_init_26 : decode cX1_init 26 = .ok (.if_icmp .ge 22, 3) := by decide +kernel
theorem dX1_init_29 : decode cX1_init 29 = .ok (.aload_n 0, 1) := by decide +kernel
theorem dX1_init_30 : decode cX1_init 30 = .ok (.getfield 13, 3) := by decide +kernel
theorem dX1_init_33 : decode cX1_init 33 = .ok (.iload_n 1, 1) := by decide +kernel
theorem dX1_init_34 : decode cX1_init 34 = .ok (.new 11, 3) := by decide +kernel
theorem dX1_init_37 : decode cX1_init 37 = .ok (.dup, 1) := by decide +kernel
theorem dX1_init_38 : decode cX1_init 38 = .ok (.invokespecial 24, 3) := by decide +kernel
theorem dX1_init_41 : decode cX1_init 41 = .ok (.aastore, 1) := by decide +kernel
theorem dX1_init_42 : decode cX1_init 42 = .ok (.iinc 1 1, 3) := by decide +kernel
theorem dX1_init_45 : decode cX1_init 45 = .ok (.goto (-21), 3) := by decide +kernel
theorem dX1_init_48 : decode cX1_init 48 = .ok (.return_, 1) := by decide +kernel
theorem dX1_slotBehind_0 : decode cX1_slotBehind 0 = .ok (.aload_n 0, 1) := by decide +kernel
theorem dX1_slotBehind_1 : decode cX1_slotBehind 1 = .ok (.getfield 13, 3) := by decide +kernel
theorem dX1_slotBehind_4 : decode cX1_slotBehind 4 = .ok (.aload_n 0, 1) := by decide +kernel
theorem dX1_slotBehind_5 : decode cX1_slotBehind 5 = .ok (.getfield 17, 3) := by decide +kernel
theorem dX1_slotBehind_8 : decode cX1_slotBehind 8 = .ok (.aload_n 0, 1) := by decide +kernel
theorem dX1_slotBehind_9 : decode cX1_slotBehind 9 = .ok (.getfield 21, 3) := by decide +kernel
theorem dX1_slotBehind_12 : decode cX1_slotBehind 12 = .ok (.iadd, 1) := by decide +kernel
theorem dX1_slotBehind_13 : decode cX1_slotBehind 13 = .ok (.iconst 5, 1) := by decide +kernel
theorem dX1_slotBehind_14 : decode cX1_slotBehind 14 = .ok (.irem, 1) := by decide +kernel
theorem dX1_slotBehind_15 : decode cX1_slotBehind 15 = .ok (.aaload, 1) := by decide +kernel
theorem dX1_slotBehind_16 : decode cX1_slotBehind 16 = .ok (.areturn, 1) := by decide +kernel
theorem dX1_draft_0 : decode cX1_draft 0 = .ok (.aload_n 0, 1) := by decide +kernel
theorem dX1_draft_1 : decode cX1_draft 1 = .ok (.invokevirtual 25, 3) := by decide +kernel
theorem dX1_draft_4 : decode cX1_draft 4 = .ok (.astore_n 2, 1) := by decide +kernel
theorem dX1_draft_5 : decode cX1_draft 5 = .ok (.aload_n 2, 1) := by decide +kernel
theorem dX1_draft_6 : decode cX1_draft 6 = .ok (.aload_n 1, 1) := by decide +kernel
theorem dX1_draft_7 : decode cX1_draft 7 = .ok (.invokevirtual 29, 3) := by decide +kernel
theorem dX1_draft_10 : decode cX1_draft 10 = .ok (.aload_n 2, 1) := by decide +kernel
theorem dX1_draft_11 : decode cX1_draft 11 = .ok (.areturn, 1) := by decide +kernel
theorem dX1_settle_0 : decode cX1_settle 0 = .ok (.iload_n 1, 1) := by decide +kernel
theorem dX1_settle_1 : decode cX1_settle 1 = .ok (.ifCond .lt 36, 3) := by decide +kernel
theorem dX1_settle_4 : decode cX1_settle 4 = .ok (.aload_n 0, 1) := by decide +kernel
theorem dX1_settle_5 : decode cX1_settle 5 = .ok (.getfield 21, 3) := by decide +kernel
theorem dX1_settle_8 : decode cX1_settle 8 = .ok (.iconst 4, 1) := by decide +kernel
theorem dX1_settle_9 : decode cX1_settle 9 = .ok (.if_icmp .ge 16, 3) := by decide +kernel
theorem dX1_settle_12 : decode cX1_settle 12 = .ok (.aload_n 0, 1) := by decide +kernel
theorem dX1_settle_13 : decode cX1_settle 13 = .ok (.dup, 1) := by decide +kernel
theorem dX1_settle_14 : decode cX1_settle 14 = .ok (.getfield 21, 3) := by decide +kernel
theorem dX1_settle_17 : decode cX1_settle 17 = .ok (.iconst 1, 1) := by decide +kernel
theorem dX1_settle_18 : decode cX1_settle 18 = .ok (.iadd, 1) := by decide +kernel
theorem dX1_settle_19 : decode cX1_settle 19 = .ok (.putfield 21, 3) := by decide +kernel
theorem dX1_settle_22 : decode cX1_settle 22 = .ok (.goto 15, 3) := by decide +kernel
theorem dX1_settle_25 : decode cX1_settle 25 = .ok (.aload_n 0, 1) := by decide +kernel
theorem dX1_settle_26 : decode cX1_settle 26 = .ok (.aload_n 0, 1) := by decide +kernel
theorem dX1_settle_27 : decode cX1_settle 27 = .ok (.getfield 17, 3) := by decide +kernel
theorem dX1_settle_30 : decode cX1_settle 30 = .ok (.iconst 1, 1) := by decide +kernel
theorem dX1_settle_31 : decode cX1_settle 31 = .ok (.iadd, 1) := by decide +kernel
theorem dX1_settle_32 : decode cX1_settle 32 = .ok (.iconst 5, 1) := by decide +kernel
theorem dX1_settle_33 : decode cX1_settle 33 = .ok (.irem, 1) := by decide +kernel
theorem dX1_settle_34 : decode cX1_settle 34 = .ok (.putfield 17, 3) := by decide +kernel
theorem dX1_settle_37 : decode cX1_settle 37 = .ok (.iload_n 1, 1) := by decide +kernel
theorem dX1_settle_38 : decode cX1_settle 38 = .ok (.ireturn, 1) := by decide +kernel
theorem dX1_stepBack_0 : decode cX1_stepBack 0 = .ok (.aload_n 0, 1) := by decide +kernel
theorem dX1_stepBack_1 : decode cX1_stepBack 1 = .ok (.getfield 21, 3) := by decide +kernel
theorem dX1_stepBack_4 : decode cX1_stepBack 4 = .ok (.ifCond .ne 6, 3) := by decide +kernel
theorem dX1_stepBack_7 : decode cX1_stepBack 7 = .ok (.bipush (-5), 2) := by decide +kernel
theorem dX1_stepBack_9 : decode cX1_stepBack 9 = .ok (.ireturn, 1) := by decide +kernel
theorem dX1_stepBack_10 : decode cX1_stepBack 10 = .ok (.aload_n 0, 1) := by decide +kernel
theorem dX1_stepBack_11 : decode cX1_stepBack 11 = .ok (.dup, 1) := by decide +kernel
theorem dX1_stepBack_12 : decode cX1_stepBack 12 = .ok (.getfield 21, 3) := by decide +kernel
theorem dX1_stepBack_15 : decode cX1_stepBack 15 = .ok (.iconst 1, 1) := by decide +kernel
theorem dX1_stepBack_16 : decode cX1_stepBack 16 = .ok (.isub, 1) := by decide +kernel
theorem dX1_stepBack_17 : decode cX1_stepBack 17 = .ok (.putfield 21, 3) := by decide +kernel
theorem dX1_stepBack_20 : decode cX1_stepBack 20 = .ok (.aload_n 1, 1) := by decide +kernel
theorem dX1_stepBack_21 : decode cX1_stepBack 21 = .ok (.aload_n 0, 1) := by decide +kernel
theorem dX1_stepBack_22 : decode cX1_stepBack 22 = .ok (.invokevirtual 25, 3) := by decide +kernel
theorem dX1_stepBack_25 : decode cX1_stepBack 25 = .ok (.invokevirtual 29, 3) := by decide +kernel
theorem dX1_stepBack_28 : decode cX1_stepBack 28 = .ok (.aload_n 0, 1) := by decide +kernel
theorem dX1_stepBack_29 : decode cX1_stepBack 29 = .ok (.getfield 21, 3) := by decide +kernel
theorem dX1_stepBack_32 : decode cX1_stepBack 32 = .ok (.ireturn, 1) := by decide +kernel
theorem dX2_init_0 : decode cX2_init 0 = .ok (.aload_n 0, 1) := by decide +kernel
theorem dX2_init_1 : decode cX2_init 1 = .ok (.invokespecial 3, 3) := by decide +kernel
theorem dX2_init_4 : decode cX2_init 4 = .ok (.aload_n 0, 1) := by decide +kernel
theorem dX2_init_5 : decode cX2_init 5 = .ok (.bipush 60, 2) := by decide +kernel
theorem dX2_init_7 : decode cX2_init 7 = .ok (.newarray .char, 2) := by decide +kernel
theorem dX2_init_9 : decode cX2_init 9 = .ok (.putfield 9, 3) := by decide +kernel
theorem dX2_init_12 : decode cX2_init 12 = .ok (.aload_n 0, 1) := by decide +kernel
theorem dX2_init_13 : decode cX2_init 13 = .ok (.iconst 0, 1) := by decide +kernel
theorem dX2_init_14 : decode cX2_init 14 = .ok (.putfield 15, 3) := by decide +kernel
theorem dX2_init_17 : decode cX2_init 17 = .ok (.return_, 1) := by decide +kernel
theorem dX3_init_0 : decode cX3_init 0 = .ok (.aload_n 0, 1) := by decide +kernel
theorem dX3_init_1 : decode cX3_init 1 = .ok (.invokespecial 3, 3) := by decide +kernel
theorem dX3_init_4 : decode cX3_init 4 = .ok (.aload_n 0, 1) := by decide +kernel
theorem dX3_init_5 : decode cX3_init 5 = .ok (.new 9, 3) := by decide +kernel
theorem dX3_init_8 : decode cX3_init 8 = .ok (.dup, 1) := by decide +kernel
theorem dX3_init_9 : decode cX3_init 9 = .ok (.invokespecial 11, 3) := by decide +kernel
theorem dX3_init_12 : decode cX3_init 12 = .ok (.putfield 12, 3) := by decide +kernel
theorem dX3_init_15 : decode cX3_init 15 = .ok (.aload_n 0, 1) := by decide +kernel
theorem dX3_init_16 : decode cX3_init 16 = .ok (.new 18, 3) := by decide +kernel
theorem dX3_init_19 : decode cX3_init 19 = .ok (.dup, 1) := by decide +kernel
theorem dX3_init_20 : decode cX3_init 20 = .ok (.invokespecial 20, 3) := by decide +kernel
theorem dX3_init_23 : decode cX3_init 23 = .ok (.putfield 21, 3) := by decide +kernel
theorem dX3_init_26 : decode cX3_init 26 = .ok (.aload_n 0, 1) := by decide +kernel
theorem dX3_init_27 : decode cX3_init 27 = .ok (.iconst 4, 1) := by decide +kernel
theorem dX3_init_28 : decode cX3_init 28 = .ok (.newarray .int, 2) := by decide +kernel
theorem dX3_init_30 : decode cX3_init 30 = .ok (.putfield 25, 3) := by decide +kernel
theorem dX3_init_33 : decode cX3_init 33 = .ok (.aload_n 0, 1) := by decide +kernel
theorem dX3_init_34 : decode cX3_init 34 = .ok (.iconst 4, 1) := by decide +kernel
theorem dX3_init_35 : decode cX3_init 35 = .ok (.newarray .int, 2) := by decide +kernel
theorem dX3_init_37 : decode cX3_init 37 = .ok (.putfield 29, 3) := by decide +kernel
theorem dX3_init_40 : decode cX3_init 40 = .ok (.aload_n 0, 1) := by decide +kernel
theorem dX3_init_41 : decode cX3_init 41 = .ok (.bipush 33, 2) := by decide +kernel
theorem dX3_init_43 : decode cX3_init 43 = .ok (.newarray .int, 2) := by decide +kernel
theorem dX3_init_45 : decode cX3_init 45 = .ok (.putfield 32, 3) := by decide +kernel
theorem dX3_init_48 : decode cX3_init 48 = .ok (.aload_n 0, 1) := by decide +kernel
theorem dX3_init_49 : decode cX3_init 49 = .ok (.iconst 2, 1) := by decide +kernel
theorem dX3_init_50 : decode cX3_init 50 = .ok (.putfield 35, 3) := by decide +kernel
theorem dX3_init_53 : decode cX3_init 53 = .ok (.aload_n 0, 1) := by decide +kernel
theorem dX3_init_54 : decode cX3_init 54 = .ok (.iconst 0, 1) := by decide +kernel
theorem dX3_init_55 : decode cX3_init 55 = .ok (.putfield 39, 3) := by decide +kernel
theorem dX3_init_58 : decode cX3_init 58 = .ok (.aload_n 0, 1) := by decide +kernel
theorem dX3_init_59 : decode cX3_init 59 = .ok (.iconst 0, 1) := by decide +kernel
theorem dX3_init_60 : decode cX3_init 60 = .ok (.putfield 42, 3) := by decide +kernel
theorem dX3_init_63 : decode cX3_init 63 = .ok (.iconst 0, 1) := by decide +kernel
theorem dX3_init_64 : decode cX3_init 64 = .ok (.istore_n 1, 1) := by decide +kernel
theorem dX3_init_65 : decode cX3_init 65 = .ok (.iload_n 1, 1) := by decide +kernel
theorem dX3_init_66 : decode cX3_init 66 = .ok (.iconst 4, 1) := by decide +kernel
theorem dX3_init_67 : decode cX3_init 67 = .ok (.if_icmp .ge 16, 3) := by decide +kernel
theorem dX3_init_70 : decode cX3_init 70 = .ok (.aload_n 0, 1) := by decide +kernel
theorem dX3_init_71 : decode cX3_init 71 = .ok (.getfield 25, 3) := by decide +kernel
theorem dX3_init_74 : decode cX3_init 74 = .ok (.iload_n 1, 1) := by decide +kernel
theorem dX3_init_75 : decode cX3_init 75 = .ok (.iconst 3, 1) := by decide +kernel
theorem dX3_init_76 : decode cX3_init 76 = .ok (.iastore, 1) := by decide +kernel
theorem dX3_init_77 : decode cX3_init 77 = .ok (.iinc 1 1, 3) := by decide +kernel
theorem dX3_init_80 : decode cX3_init 80 = .ok (.goto (-15), 3) := by decide +kernel
theorem dX3_init_83 : decode cX3_init 83 = .ok (.return_, 1) := by decide +kernel
theorem dX3_copyFrom_0 : decode cX3_copyFrom 0 = .ok (.aload_n 0, 1) := by decide +kernel
theorem dX3_copyFrom_1 : decode cX3_copyFrom 1 = .ok (.getfield 12, 3) := by decide +kernel
theorem dX3_copyFrom_4 : decode cX3_copyFrom 4 = .ok (.aload_n 1, 1) := by decide +kernel
theorem dX3_copyFrom_5 : decode cX3_copyFrom 5 = .ok (.getfield 12, 3) := by decide +kernel
theorem dX3_copyFrom_8 : decode cX3_copyFrom 8 = .ok (.invokevirtual 45, 3) := by decide +kernel
theorem dX3_copyFrom_11 : decode cX3_copyFrom 11 = .ok (.aload_n 0, 1) := by decide +kernel
theorem dX3_copyFrom_12 : decode cX3_copyFrom 12 = .ok (.getfield 21, 3) := by decide +kernel
theorem dX3_copyFrom_15 : decode cX3_copyFrom 15 = .ok (.aload_n 1, 1) := by decide +kernel
theorem dX3_copyFrom_16 : decode cX3_copyFrom 16 = .ok (.getfield 21, 3) := by decide +kernel
theorem dX3_copyFrom_19 : decode cX3_copyFrom 19 = .ok (.invokevirtual 49, 3) := by decide +kernel
theorem dX3_copyFrom_22 : decode cX3_copyFrom 22 = .ok (.aload_n 1, 1) := by decide +kernel
theorem dX3_copyFrom_23 : decode cX3_copyFrom 23 = .ok (.getfield 25, 3) := by decide +kernel
theorem dX3_copyFrom_26 : decode cX3_copyFrom 26 = .ok (.aload_n 0, 1) := by decide +kernel
theorem dX3_copyFrom_27 : decode cX3_copyFrom 27 = .ok (.getfield 25, 3) := by decide +kernel
theorem dX3_copyFrom_30 : decode cX3_copyFrom 30 = .ok (.iconst 4, 1) := by decide +kernel
theorem dX3_copyFrom_31 : decode cX3_copyFrom 31 = .ok (.invokestatic 52, 3) := by decide +kernel
theorem dX3_copyFrom_34 : decode cX3_copyFrom 34 = .ok (.aload_n 1, 1) := by decide +kernel
theorem dX3_copyFrom_35 : decode cX3_copyFrom 35 = .ok (.getfield 29, 3) := by decide +kernel
theorem dX3_copyFrom_38 : decode cX3_copyFrom 38 = .ok (.aload_n 0, 1) := by decide +kernel
theorem dX3_copyFrom_39 : decode cX3_copyFrom 39 = .ok (.getfield 29, 3) := by decide +kernel
theorem dX3_copyFrom_42 : decode cX3_copyFrom 42 = .ok (.iconst 4, 1) := by decide +kernel
theorem dX3_copyFrom_43 : decode cX3_copyFrom 43 = .ok (.invokestatic 52, 3) := by decide +kernel
theorem dX3_copyFrom_46 : decode cX3_copyFrom 46 = .ok (.aload_n 0, 1) := by decide +kernel
theorem dX3_copyFrom_47 : decode cX3_copyFrom 47 = .ok (.aload_n 1, 1) := by decide +kernel
theorem dX3_copyFrom_48 : decode cX3_copyFrom 48 = .ok (.getfield 35, 3) := by decide +kernel
theorem dX3_copyFrom_51 : decode cX3_copyFrom 51 = .ok (.putfield 35, 3) := by decide +kernel
theorem dX3_copyFrom_54 : decode cX3_copyFrom 54 = .ok (.aload_n 0, 1) := by decide +kernel
theorem dX3_copyFrom_55 : decode cX3_copyFrom 55 = .ok (.aload_n 1, 1) := by decide +kernel
theorem dX3_copyFrom_56 : decode cX3_copyFrom 56 = .ok (.getfield 39, 3) := by decide +kernel
theorem dX3_copyFrom_59 : decode cX3_copyFrom 59 = .ok (.putfield 39, 3) := by decide +kernel
theorem dX3_copyFrom_62 : decode cX3_copyFrom 62 = .ok (.aload_n 0, 1) := by decide +kernel
theorem dX3_copyFrom_63 : decode cX3_copyFrom 63 = .ok (.aload_n 1, 1) := by decide +kernel
theorem dX3_copyFrom_64 : decode cX3_copyFrom 64 = .ok (.getfield 42, 3) := by decide +kernel
theorem dX3_copyFrom_67 : decode cX3_copyFrom 67 = .ok (.putfield 42, 3) := by decide +kernel
theorem dX3_copyFrom_70 : decode cX3_copyFrom 70 = .ok (.return_, 1) := by decide +kernel
theorem dX3_changeNumber_0 : decode cX3_changeNumber 0 = .ok (.iload_n 1, 1) := by decide +kernel
theorem dX3_changeNumber_1 : decode cX3_changeNumber 1 = .ok (.tableswitch 55 0 3 #[31, 37, 43, 49], 31) := by decide +kernel
theorem dX3_changeNumber_32 : decode cX3_changeNumber 32 = .ok (.aload_n 0, 1) := by decide +kernel
theorem dX3_changeNumber_33 : decode cX3_changeNumber 33 = .ok (.iload_n 2, 1) := by decide +kernel
theorem dX3_changeNumber_34 : decode cX3_changeNumber 34 = .ok (.invokevirtual 56, 3) := by decide +kernel
theorem dX3_changeNumber_37 : decode cX3_changeNumber 37 = .ok (.ireturn, 1) := by decide +kernel
theorem dX3_changeNumber_38 : decode cX3_changeNumber 38 = .ok (.aload_n 0, 1) := by decide +kernel
theorem dX3_changeNumber_39 : decode cX3_changeNumber 39 = .ok (.iload_n 2, 1) := by decide +kernel
theorem dX3_changeNumber_40 : decode cX3_changeNumber 40 = .ok (.invokevirtual 60, 3) := by decide +kernel
theorem dX3_changeNumber_43 : decode cX3_changeNumber 43 = .ok (.ireturn, 1) := by decide +kernel
theorem dX3_changeNumber_44 : decode cX3_changeNumber 44 = .ok (.aload_n 0, 1) := by decide +kernel
theorem dX3_changeNumber_45 : decode cX3_changeNumber 45 = .ok (.iload_n 2, 1) := by decide +kernel
theorem dX3_changeNumber_46 : decode cX3_changeNumber 46 = .ok (.invokevirtual 63, 3) := by decide +kernel
theorem dX3_changeNumber_49 : decode cX3_changeNumber 49 = .ok (.ireturn, 1) := by decide +kernel
theorem dX3_changeNumber_50 : decode cX3_changeNumber 50 = .ok (.aload_n 0, 1) := by decide +kernel
theorem dX3_changeNumber_51 : decode cX3_changeNumber 51 = .ok (.iload_n 2, 1) := by decide +kernel
theorem dX3_changeNumber_52 : decode cX3_changeNumber 52 = .ok (.invokevirtual 66, 3) := by decide +kernel
theorem dX3_changeNumber_55 : decode cX3_changeNumber 55 = .ok (.ireturn, 1) := by decide +kernel
theorem dX3_changeNumber_56 : decode cX3_changeNumber 56 = .ok (.bipush (-2), 2) := by decide +kernel
theorem dX3_changeNumber_58 : decode cX3_changeNumber 58 = .ok (.ireturn, 1) := by decide +kernel
theorem dX3_changeOpenLimit_0 : decode cX3_changeOpenLimit 0 = .ok (.aload_n 0, 1) := by decide +kernel
theorem dX3_changeOpenLimit_1 : decode cX3_changeOpenLimit 1 = .ok (.getfield 21, 3) := by decide +kernel
theorem dX3_changeOpenLimit_4 : decode cX3_changeOpenLimit 4 = .ok (.getfield 69, 3) := by decide +kernel
theorem dX3_changeOpenLimit_7 : decode cX3_changeOpenLimit 7 = .ok (.istore_n 2, 1) := by decide +kernel
theorem dX3_changeOpenLimit_8 : decode cX3_changeOpenLimit 8 = .ok (.iload_n 1, 1) := by decide +kernel
theorem dX3_changeOpenLimit_9 : decode cX3_changeOpenLimit 9 = .ok (.iconst 1, 1) := by decide +kernel
theorem dX3_changeOpenLimit_10 : decode cX3_changeOpenLimit 10 = .ok (.bipush 8, 2) := by decide +kernel
theorem dX3_changeOpenLimit_12 : decode cX3_changeOpenLimit 12 = .ok (.invokestatic 72, 3) := by decide +kernel
theorem dX3_changeOpenLimit_15 : decode cX3_changeOpenLimit 15 = .ok (.ifCond .ne 6, 3) := by decide +kernel
theorem dX3_changeOpenLimit_18 : decode cX3_changeOpenLimit 18 = .ok (.bipush (-2), 2) := by decide +kernel
theorem dX3_changeOpenLimit_20 : decode cX3_changeOpenLimit 20 = .ok (.ireturn, 1) := by decide +kernel
theorem dX3_changeOpenLimit_21 : decode cX3_changeOpenLimit 21 = .ok (.aload_n 0, 1) := by decide +kernel
theorem dX3_changeOpenLimit_22 : decode cX3_changeOpenLimit 22 = .ok (.getfield 21, 3) := by decide +kernel
theorem dX3_changeOpenLimit_25 : decode cX3_changeOpenLimit 25 = .ok (.iconst 1, 1) := by decide +kernel
theorem dX3_changeOpenLimit_26 : decode cX3_changeOpenLimit 26 = .ok (.invokevirtual 76, 3) := by decide +kernel
theorem dX3_changeOpenLimit_29 : decode cX3_changeOpenLimit 29 = .ok (.iload_n 1, 1) := by decide +kernel
theorem dX3_changeOpenLimit_30 : decode cX3_changeOpenLimit 30 = .ok (.if_icmp .le 6, 3) := by decide +kernel
theorem dX3_changeOpenLimit_33 : decode cX3_changeOpenLimit 33 = .ok (.bipush (-4), 2) := by decide +kernel
theorem dX3_changeOpenLimit_35 : decode cX3_changeOpenLimit 35 = .ok (.ireturn, 1) := by decide +kernel
theorem dX3_changeOpenLimit_36 : decode cX3_changeOpenLimit 36 = .ok (.aload_n 0, 1) := by decide +kernel
theorem dX3_changeOpenLimit_37 : decode cX3_changeOpenLimit 37 = .ok (.getfield 21, 3) := by decide +kernel
theorem dX3_changeOpenLimit_40 : decode cX3_changeOpenLimit 40 = .ok (.iload_n 1, 1) := by decide +kernel
theorem dX3_changeOpenLimit_41 : decode cX3_changeOpenLimit 41 = .ok (.putfield 69, 3) := by decide +kernel
theorem dX3_changeOpenLimit_44 : decode cX3_changeOpenLimit 44 = .ok (.iload_n 2, 1) := by decide +kernel
theorem dX3_changeOpenLimit_45 : decode cX3_changeOpenLimit 45 = .ok (.iload_n 1, 1) := by decide +kernel
theorem dX3_changeOpenLimit_46 : decode cX3_changeOpenLimit 46 = .ok (.if_icmp .ne 8, 3) := by decide +kernel
theorem dX3_changeOpenLimit_49 : decode cX3_changeOpenLimit 49 = .ok (.bipush (-5), 2) := by decide +kernel
theorem dX3_changeOpenLimit_51 : decode cX3_changeOpenLimit 51 = .ok (.goto 4, 3) := by decide +kernel
theorem dX3_changeOpenLimit_54 : decode cX3_changeOpenLimit 54 = .ok (.iload_n 2, 1) := by decide +kernel
theorem dX3_changeOpenLimit_55 : decode cX3_changeOpenLimit 55 = .ok (.ireturn, 1) := by decide +kernel
theorem dX3_changeUseLimit_0 : decode cX3_changeUseLimit 0 = .ok (.aload_n 0, 1) := by decide +kernel
theorem dX3_changeUseLimit_1 : decode cX3_changeUseLimit 1 = .ok (.getfield 21, 3) := by decide +kernel
theorem dX3_changeUseLimit_4 : decode cX3_changeUseLimit 4 = .ok (.getfield 79, 3) := by decide +kernel
theorem dX3_changeUseLimit_7 : decode cX3_changeUseLimit 7 = .ok (.istore_n 2, 1) := by decide +kernel
theorem dX3_changeUseLimit_8 : decode cX3_changeUseLimit 8 = .ok (.iload_n 1, 1) := by decide +kernel
theorem dX3_changeUseLimit_9 : decode cX3_changeUseLimit 9 = .ok (.iconst 1, 1) := by decide +kernel
theorem dX3_changeUseLimit_10 : decode cX3_changeUseLimit 10 = .ok (.bipush 8, 2) := by decide +kernel
theorem dX3_changeUseLimit_12 : decode cX3_changeUseLimit 12 = .ok (.invokestatic 72, 3) := by decide +kernel
theorem dX3_changeUseLimit_15 : decode cX3_changeUseLimit 15 = .ok (.ifCond .ne 6, 3) := by decide +kernel
theorem dX3_changeUseLimit_18 : decode cX3_changeUseLimit 18 = .ok (.bipush (-2), 2) := by decide +kernel
theorem dX3_changeUseLimit_20 : decode cX3_changeUseLimit 20 = .ok (.ireturn, 1) := by decide +kernel
theorem dX3_changeUseLimit_21 : decode cX3_changeUseLimit 21 = .ok (.aload_n 0, 1) := by decide +kernel
theorem dX3_changeUseLimit_22 : decode cX3_changeUseLimit 22 = .ok (.getfield 21, 3) := by decide +kernel
theorem dX3_changeUseLimit_25 : decode cX3_changeUseLimit 25 = .ok (.invokevirtual 82, 3) := by decide +kernel
theorem dX3_changeUseLimit_28 : decode cX3_changeUseLimit 28 = .ok (.iload_n 1, 1) := by decide +kernel
theorem dX3_changeUseLimit_29 : decode cX3_changeUseLimit 29 = .ok (.if_icmp .le 6, 3) := by decide +kernel
theorem dX3_changeUseLimit_32 : decode cX3_changeUseLimit 32 = .ok (.bipush (-4), 2) := by decide +kernel
theorem dX3_changeUseLimit_34 : decode cX3_changeUseLimit 34 = .ok (.ireturn, 1) := by decide +kernel
theorem dX3_changeUseLimit_35 : decode cX3_changeUseLimit 35 = .ok (.aload_n 0, 1) := by decide +kernel
theorem dX3_changeUseLimit_36 : decode cX3_changeUseLimit 36 = .ok (.getfield 21, 3) := by decide +kernel
theorem dX3_changeUseLimit_39 : decode cX3_changeUseLimit 39 = .ok (.iload_n 1, 1) := by decide +kernel
theorem dX3_changeUseLimit_40 : decode cX3_changeUseLimit 40 = .ok (.putfield 79, 3) := by decide +kernel
theorem dX3_changeUseLimit_43 : decode cX3_changeUseLimit 43 = .ok (.iload_n 2, 1) := by decide +kernel
theorem dX3_changeUseLimit_44 : decode cX3_changeUseLimit 44 = .ok (.iload_n 1, 1) := by decide +kernel
theorem dX3_changeUseLimit_45 : decode cX3_changeUseLimit 45 = .ok (.if_icmp .ne 8, 3) := by decide +kernel
theorem dX3_changeUseLimit_48 : decode cX3_changeUseLimit 48 = .ok (.bipush (-5), 2) := by decide +kernel
theorem dX3_changeUseLimit_50 : decode cX3_changeUseLimit 50 = .ok (.goto 4, 3) := by decide +kernel
theorem dX3_changeUseLimit_53 : decode cX3_changeUseLimit 53 = .ok (.iload_n 2, 1) := by decide +kernel
theorem dX3_changeUseLimit_54 : decode cX3_changeUseLimit 54 = .ok (.ireturn, 1) := by decide +kernel
theorem dX3_changeChannels_0 : decode cX3_changeChannels 0 = .ok (.aload_n 0, 1) := by decide +kernel
theorem dX3_changeChannels_1 : decode cX3_changeChannels 1 = .ok (.getfield 35, 3) := by decide +kernel
theorem dX3_changeChannels_4 : decode cX3_changeChannels 4 = .ok (.istore_n 2, 1) := by decide +kernel
theorem dX3_changeChannels_5 : decode cX3_changeChannels 5 = .ok (.iload_n 1, 1) := by decide +kernel
theorem dX3_changeChannels_6 : decode cX3_changeChannels 6 = .ok (.iconst 1, 1) := by decide +kernel
theorem dX3_changeChannels_7 : decode cX3_changeChannels 7 = .ok (.iconst 4, 1) := by decide +kernel
theorem dX3_changeChannels_8 : decode cX3_changeChannels 8 = .ok (.invokestatic 72, 3) := by decide +kernel
theorem dX3_changeChannels_11 : decode cX3_changeChannels 11 = .ok (.ifCond .ne 6, 3) := by decide +kernel
theorem dX3_changeChannels_14 : decode cX3_changeChannels 14 = .ok (.bipush (-2), 2) := by decide +kernel
theorem dX3_changeChannels_16 : decode cX3_changeChannels 16 = .ok (.ireturn, 1) := by decide +kernel
theorem dX3_changeChannels_17 : decode cX3_changeChannels 17 = .ok (.aload_n 0, 1) := by decide +kernel
theorem dX3_changeChannels_18 : decode cX3_changeChannels 18 = .ok (.iload_n 1, 1) := by decide +kernel
theorem dX3_changeChannels_19 : decode cX3_changeChannels 19 = .ok (.putfield 35, 3) := by decide +kernel
theorem dX3_changeChannels_22 : decode cX3_changeChannels 22 = .ok (.iload_n 2, 1) := by decide +kernel
theorem dX3_changeChannels_23 : decode cX3_changeChannels 23 = .ok (.iload_n 1, 1) := by decide +kernel
theorem dX3_changeChannels_24 : decode cX3_changeChannels 24 = .ok (.if_icmp .ne 8, 3) := by decide +kernel
theorem dX3_changeChannels_27 : decode cX3_changeChannels 27 = .ok (.bipush (-5), 2) := by decide +kernel
theorem dX3_changeChannels_29 : decode cX3_changeChannels 29 = .ok (.goto 4, 3) := by decide +kernel
theorem dX3_changeChannels_32 : decode cX3_changeChannels 32 = .ok (.iload_n 2, 1) := by decide +kernel
theorem dX3_changeChannels_33 : decode cX3_changeChannels 33 = .ok (.ireturn, 1) := by decide +kernel
theorem dX3_changeManner_0 : decode cX3_changeManner 0 = .ok (.aload_n 0, 1) := by decide +kernel
theorem dX3_changeManner_1 : decode cX3_changeManner 1 = .ok (.getfield 39, 3) := by decide +kernel
theorem dX3_changeManner_4 : decode cX3_changeManner 4 = .ok (.istore_n 2, 1) := by decide +kernel
theorem dX3_changeManner_5 : decode cX3_changeManner 5 = .ok (.iload_n 1, 1) := by decide +kernel
theorem dX3_changeManner_6 : decode cX3_changeManner 6 = .ok (.iconst 0, 1) := by decide +kernel
theorem dX3_changeManner_7 : decode cX3_changeManner 7 = .ok (.iconst 1, 1) := by decide +kernel
theorem dX3_changeManner_8 : decode cX3_changeManner 8 = .ok (.invokestatic 72, 3) := by decide +kernel
theorem dX3_changeManner_11 : decode cX3_changeManner 11 = .ok (.ifCond .ne 6, 3) := by decide +kernel
theorem dX3_changeManner_14 : decode cX3_changeManner 14 = .ok (.bipush (-2), 2) := by decide +kernel
theorem dX3_changeManner_16 : decode cX3_changeManner 16 = .ok (.ireturn, 1) := by decide +kernel
theorem dX3_changeManner_17 : decode cX3_changeManner 17 = .ok (.aload_n 0, 1) := by decide +kernel
theorem dX3_changeManner_18 : decode cX3_changeManner 18 = .ok (.iload_n 1, 1) := by decide +kernel
theorem dX3_changeManner_19 : decode cX3_changeManner 19 = .ok (.putfield 39, 3) := by decide +kernel
theorem dX3_changeManner_22 : decode cX3_changeManner 22 = .ok (.iload_n 2, 1) := by decide +kernel
theorem dX3_changeManner_23 : decode cX3_changeManner 23 = .ok (.iload_n 1, 1) := by decide +kernel
theorem dX3_changeManner_24 : decode cX3_changeManner 24 = .ok (.if_icmp .ne 8, 3) := by decide +kernel
theorem dX3_changeManner_27 : decode cX3_changeManner 27 = .ok (.bipush (-5), 2) := by decide +kernel
theorem dX3_changeManner_29 : decode cX3_changeManner 29 = .ok (.goto 4, 3) := by decide +kernel
theorem dX3_changeManner_32 : decode cX3_changeManner 32 = .ok (.iload_n 2, 1) := by decide +kernel
theorem dX3_changeManner_33 : decode cX3_changeManner 33 = .ok (.ireturn, 1) := by decide +kernel
theorem dX3_changeDelay_0 : decode cX3_changeDelay 0 = .ok (.iload_n 1, 1) := by decide +kernel
theorem dX3_changeDelay_1 : decode cX3_changeDelay 1 = .ok (.invokestatic 86, 3) := by decide +kernel
theorem dX3_changeDelay_4 : decode cX3_changeDelay 4 = .ok (.ifCond .ne 5, 3) := by decide +kernel
theorem dX3_changeDelay_7 : decode cX3_changeDelay 7 = .ok (.iconst (-1), 1) := by decide +kernel
theorem dX3_changeDelay_8 : decode cX3_changeDelay 8 = .ok (.ireturn, 1) := by decide +kernel
theorem dX3_changeDelay_9 : decode cX3_changeDelay 9 = .ok (.iload_n 2, 1) := by decide +kernel
theorem dX3_changeDelay_10 : decode cX3_changeDelay 10 = .ok (.iconst 1, 1) := by decide +kernel
theorem dX3_changeDelay_11 : decode cX3_changeDelay 11 = .ok (.bipush 9, 2) := by decide +kernel
theorem dX3_changeDelay_13 : decode cX3_changeDelay 13 = .ok (.invokestatic 72, 3) := by decide +kernel
theorem dX3_changeDelay_16 : decode cX3_changeDelay 16 = .ok (.ifCond .ne 6, 3) := by decide +kernel
theorem dX3_changeDelay_19 : decode cX3_changeDelay 19 = .ok (.bipush (-2), 2) := by decide +kernel
theorem dX3_changeDelay_21 : decode cX3_changeDelay 21 = .ok (.ireturn, 1) := by decide +kernel
theorem dX3_changeDelay_22 : decode cX3_changeDelay 22 = .ok (.aload_n 0, 1) := by decide +kernel
theorem dX3_changeDelay_23 : decode cX3_changeDelay 23 = .ok (.getfield 21, 3) := by decide +kernel
theorem dX3_changeDelay_26 : decode cX3_changeDelay 26 = .ok (.getfield 90, 3) := by decide +kernel
theorem dX3_changeDelay_29 : decode cX3_changeDelay 29 = .ok (.iload_n 1, 1) := by decide +kernel
theorem dX3_changeDelay_30 : decode cX3_changeDelay 30 = .ok (.iaload, 1) := by decide +kernel
theorem dX3_changeDelay_31 : decode cX3_changeDelay 31 = .ok (.istore_n 3, 1) := by decide +kernel
theorem dX3_changeDelay_32 : decode cX3_changeDelay 32 = .ok (.aload_n 0, 1) := by decide +kernel
theorem dX3_changeDelay_33 : decode cX3_changeDelay 33 = .ok (.getfield 21, 3) := by decide +kernel
theorem dX3_changeDelay_36 : decode cX3_changeDelay 36 = .ok (.getfield 90, 3) := by decide +kernel
theorem dX3_changeDelay_39 : decode cX3_changeDelay 39 = .ok (.iload_n 1, 1) := by decide +kernel
theorem dX3_changeDelay_40 : decode cX3_changeDelay 40 = .ok (.iload_n 2, 1) := by decide +kernel
theorem dX3_changeDelay_41 : decode cX3_changeDelay 41 = .ok (.iastore, 1) := by decide +kernel
theorem dX3_changeDelay_42 : decode cX3_changeDelay 42 = .ok (.iload_n 3, 1) := by decide +kernel
theorem dX3_changeDelay_43 : decode cX3_changeDelay 43 = .ok (.iload_n 2, 1) := by decide +kernel
theorem dX3_changeDelay_44 : decode cX3_changeDelay 44 = .ok (.if_icmp .ne 8, 3) := by decide +kernel
theorem dX3_changeDelay_47 : decode cX3_changeDelay 47 = .ok (.bipush (-5), 2) := by decide +kernel
theorem dX3_changeDelay_49 : decode cX3_changeDelay 49 = .ok (.goto 4, 3) := by decide +kernel
theorem dX3_changeDelay_52 : decode cX3_changeDelay 52 = .ok (.iload_n 3, 1) := by decide +kernel
theorem dX3_changeDelay_53 : decode cX3_changeDelay 53 = .ok (.ireturn, 1) := by decide +kernel
theorem dX3_changeCapacity_0 : decode cX3_changeCapacity 0 = .ok (.iload_n 1, 1) := by decide +kernel
theorem dX3_changeCapacity_1 : decode cX3_changeCapacity 1 = .ok (.invokestatic 86, 3) := by decide +kernel
theorem dX3_changeCapacity_4 : decode cX3_changeCapacity 4 = .ok (.ifCond .ne 5, 3) := by decide +kernel
theorem dX3_changeCapacity_7 : decode cX3_changeCapacity 7 = .ok (.iconst (-1), 1) := by decide +kernel
theorem dX3_changeCapacity_8 : decode cX3_changeCapacity 8 = .ok (.ireturn, 1) := by decide +kernel
theorem dX3_changeCapacity_9 : decode cX3_changeCapacity 9 = .ok (.iload_n 2, 1) := by decide +kernel
theorem dX3_changeCapacity_10 : decode cX3_changeCapacity 10 = .ok (.iconst 1, 1) := by decide +kernel
theorem dX3_changeCapacity_11 : decode cX3_changeCapacity 11 = .ok (.bipush 16, 2) := by decide +kernel
theorem dX3_changeCapacity_13 : decode cX3_changeCapacity 13 = .ok (.invokestatic 72, 3) := by decide +kernel
theorem dX3_changeCapacity_16 : decode cX3_changeCapacity 16 = .ok (.ifCond .ne 6, 3) := by decide +kernel
theorem dX3_changeCapacity_19 : decode cX3_changeCapacity 19 = .ok (.bipush (-2), 2) := by decide +kernel
theorem dX3_changeCapacity_21 : decode cX3_changeCapacity 21 = .ok (.ireturn, 1) := by decide +kernel
theorem dX3_changeCapacity_22 : decode cX3_changeCapacity 22 = .ok (.aload_n 0, 1) := by decide +kernel
theorem dX3_changeCapacity_23 : decode cX3_changeCapacity 23 = .ok (.getfield 21, 3) := by decide +kernel
theorem dX3_changeCapacity_26 : decode cX3_changeCapacity 26 = .ok (.getfield 93, 3) := by decide +kernel
theorem dX3_changeCapacity_29 : decode cX3_changeCapacity 29 = .ok (.iload_n 1, 1) := by decide +kernel
theorem dX3_changeCapacity_30 : decode cX3_changeCapacity 30 = .ok (.iaload, 1) := by decide +kernel
theorem dX3_changeCapacity_31 : decode cX3_changeCapacity 31 = .ok (.ifCond .eq 6, 3) := by decide +kernel
theorem dX3_changeCapacity_34 : decode cX3_changeCapacity 34 = .ok (.bipush (-4), 2) := by decide +kernel
theorem dX3_changeCapacity_36 : decode cX3_changeCapacity 36 = .ok (.ireturn, 1) := by decide +kernel
theorem dX3_changeCapacity_37 : decode cX3_changeCapacity 37 = .ok (.aload_n 0, 1) := by decide +kernel
theorem dX3_changeCapacity_38 : decode cX3_changeCapacity 38 = .ok (.getfield 21, 3) := by decide +kernel
theorem dX3_changeCapacity_41 : decode cX3_changeCapacity 41 = .ok (.getfield 96, 3) := by decide +kernel
theorem dX3_changeCapacity_44 : decode cX3_changeCapacity 44 = .ok (.iload_n 1, 1) := by decide +kernel
theorem dX3_changeCapacity_45 : decode cX3_changeCapacity 45 = .ok (.iaload, 1) := by decide +kernel
theorem dX3_changeCapacity_46 : decode cX3_changeCapacity 46 = .ok (.istore_n 3, 1) := by decide +kernel
theorem dX3_changeCapacity_47 : decode cX3_changeCapacity 47 = .ok (.aload_n 0, 1) := by decide +kernel
theorem dX3_changeCapacity_48 : decode cX3_changeCapacity 48 = .ok (.getfield 21, 3) := by decide +kernel
theorem dX3_changeCapacity_51 : decode cX3_changeCapacity 51 = .ok (.getfield 96, 3) := by decide +kernel
theorem dX3_changeCapacity_54 : decode cX3_changeCapacity 54 = .ok (.iload_n 1, 1) := by decide +kernel
theorem dX3_changeCapacity_55 : decode cX3_changeCapacity 55 = .ok (.iload_n 2, 1) := by decide +kernel
theorem dX3_changeCapacity_56 : decode cX3_changeCapacity 56 = .ok (.iastore, 1) := by decide +kernel
theorem dX3_changeCapacity_57 : decode cX3_changeCapacity 57 = .ok (.iload_n 3, 1) := by decide +kernel
theorem dX3_changeCapacity_58 : decode cX3_changeCapacity 58 = .ok (.iload_n 2, 1) := by decide +kernel
theorem dX3_changeCapacity_59 : decode cX3_changeCapacity 59 = .ok (.if_icmp .ne 8, 3) := by decide +kernel
theorem dX3_changeCapacity_62 : decode cX3_changeCapacity 62 = .ok (.bipush (-5), 2) := by decide +kernel
theorem dX3_changeCapacity_64 : decode cX3_changeCapacity 64 = .ok (.goto 4, 3) := by decide +kernel
theorem dX3_changeCapacity_67 : decode cX3_changeCapacity 67 = .ok (.iload_n 3, 1) := by decide +kernel
theorem dX3_changeCapacity_68 : decode cX3_changeCapacity 68 = .ok (.ireturn, 1) := by decide +kernel
theorem dX3_changeWindow_0 : decode cX3_changeWindow 0 = .ok (.iload_n 1, 1) := by decide +kernel
theorem dX3_changeWindow_1 : decode cX3_changeWindow 1 = .ok (.invokestatic 99, 3) := by decide +kernel
theorem dX3_changeWindow_4 : decode cX3_changeWindow 4 = .ok (.ifCond .ne 5, 3) := by decide +kernel
theorem dX3_changeWindow_7 : decode cX3_changeWindow 7 = .ok (.iconst (-1), 1) := by decide +kernel
theorem dX3_changeWindow_8 : decode cX3_changeWindow 8 = .ok (.ireturn, 1) := by decide +kernel
theorem dX3_changeWindow_9 : decode cX3_changeWindow 9 = .ok (.iload_n 2, 1) := by decide +kernel
theorem dX3_changeWindow_10 : decode cX3_changeWindow 10 = .ok (.iconst 1, 1) := by decide +kernel
theorem dX3_changeWindow_11 : decode cX3_changeWindow 11 = .ok (.bipush 8, 2) := by decide +kernel
theorem dX3_changeWindow_13 : decode cX3_changeWindow 13 = .ok (.invokestatic 72, 3) := by decide +kernel
theorem dX3_changeWindow_16 : decode cX3_changeWindow 16 = .ok (.ifCond .ne 6, 3) := by decide +kernel
theorem dX3_changeWindow_19 : decode cX3_changeWindow 19 = .ok (.bipush (-2), 2) := by decide +kernel
theorem dX3_changeWindow_21 : decode cX3_changeWindow 21 = .ok (.ireturn, 1) := by decide +kernel
theorem dX3_changeWindow_22 : decode cX3_changeWindow 22 = .ok (.aload_n 0, 1) := by decide +kernel
theorem dX3_changeWindow_23 : decode cX3_changeWindow 23 = .ok (.getfield 25, 3) := by decide +kernel
theorem dX3_changeWindow_26 : decode cX3_changeWindow 26 = .ok (.iload_n 1, 1) := by decide +kernel
theorem dX3_changeWindow_27 : decode cX3_changeWindow 27 = .ok (.iaload, 1) := by decide +kernel
theorem dX3_changeWindow_28 : decode cX3_changeWindow 28 = .ok (.istore_n 3, 1) := by decide +kernel
theorem dX3_changeWindow_29 : decode cX3_changeWindow 29 = .ok (.aload_n 0, 1) := by decide +kernel
theorem dX3_changeWindow_30 : decode cX3_changeWindow 30 = .ok (.getfield 25, 3) := by decide +kernel
theorem dX3_changeWindow_33 : decode cX3_changeWindow 33 = .ok (.iload_n 1, 1) := by decide +kernel
theorem dX3_changeWindow_34 : decode cX3_changeWindow 34 = .ok (.iload_n 2, 1) := by decide +kernel
theorem dX3_changeWindow_35 : decode cX3_changeWindow 35 = .ok (.iastore, 1) := by decide +kernel
theorem dX3_changeWindow_36 : decode cX3_changeWindow 36 = .ok (.iload_n 3, 1) := by decide +kernel
theorem dX3_changeWindow_37 : decode cX3_changeWindow 37 = .ok (.iload_n 2, 1) := by decide +kernel
theorem dX3_changeWindow_38 : decode cX3_changeWindow 38 = .ok (.if_icmp .ne 8, 3) := by decide +kernel
theorem dX3_changeWindow_41 : decode cX3_changeWindow 41 = .ok (.bipush (-5), 2) := by decide +kernel
theorem dX3_changeWindow_43 : decode cX3_changeWindow 43 = .ok (.goto 4, 3) := by decide +kernel
theorem dX3_changeWindow_46 : decode cX3_changeWindow 46 = .ok (.iload_n 3, 1) := by decide +kernel
theorem dX3_changeWindow_47 : decode cX3_changeWindow 47 = .ok (.ireturn, 1) := by decide +kernel
theorem dX3_send_0 : decode cX3_send 0 = .ok (.iload_n 1, 1) := by decide +kernel
theorem dX3_send_1 : decode cX3_send 1 = .ok (.invokestatic 99, 3) := by decide +kernel
theorem dX3_send_4 : decode cX3_send 4 = .ok (.ifCond .eq 10, 3) := by decide +kernel
theorem dX3_send_7 : decode cX3_send 7 = .ok (.iload_n 2, 1) := by decide +kernel
theorem dX3_send_8 : decode cX3_send 8 = .ok (.invokestatic 86, 3) := by decide +kernel
theorem dX3_send_11 : decode cX3_send 11 = .ok (.ifCond .ne 5, 3) := by decide +kernel
theorem dX3_send_14 : decode cX3_send 14 = .ok (.iconst (-1), 1) := by decide +kernel
theorem dX3_send_15 : decode cX3_send 15 = .ok (.ireturn, 1) := by decide +kernel
theorem dX3_send_16 : decode cX3_send 16 = .ok (.iload_n 3, 1) := by decide +kernel
theorem dX3_send_17 : decode cX3_send 17 = .ok (.iconst 0, 1) := by decide +kernel
theorem dX3_send_18 : decode cX3_send 18 = .ok (.bipush 99, 2) := by decide +kernel
theorem dX3_send_20 : decode cX3_send 20 = .ok (.invokestatic 72, 3) := by decide +kernel
theorem dX3_send_23 : decode cX3_send 23 = .ok (.ifCond .ne 6, 3) := by decide +kernel
theorem dX3_send_26 : decode cX3_send 26 = .ok (.bipush (-2), 2) := by decide +kernel
theorem dX3_send_28 : decode cX3_send 28 = .ok (.ireturn, 1) := by decide +kernel
theorem dX3_send_29 : decode cX3_send 29 = .ok (.aload_n 0, 1) := by decide +kernel
theorem dX3_send_30 : decode cX3_send 30 = .ok (.getfield 12, 3) := by decide +kernel
theorem dX3_send_33 : decode cX3_send 33 = .ok (.iload_n 1, 1) := by decide +kernel
theorem dX3_send_34 : decode cX3_send 34 = .ok (.iconst 0, 1) := by decide +kernel
theorem dX3_send_35 : decode cX3_send 35 = .ok (.invokevirtual 102, 3) := by decide +kernel
theorem dX3_send_38 : decode cX3_send 38 = .ok (.aload_n 0, 1) := by decide +kernel
theorem dX3_send_39 : decode cX3_send 39 = .ok (.getfield 12, 3) := by decide +kernel
theorem dX3_send_42 : decode cX3_send 42 = .ok (.iload_n 1, 1) := by decide +kernel
theorem dX3_send_43 : decode cX3_send 43 = .ok (.iconst 1, 1) := by decide +kernel
theorem dX3_send_44 : decode cX3_send 44 = .ok (.invokevirtual 102, 3) := by decide +kernel
theorem dX3_send_47 : decode cX3_send 47 = .ok (.iadd, 1) := by decide +kernel
theorem dX3_send_48 : decode cX3_send 48 = .ok (.istore 4, 2) := by decide +kernel
theorem dX3_send_50 : decode cX3_send 50 = .ok (.iload 4, 2) := by decide +kernel
theorem dX3_send_52 : decode cX3_send 52 = .ok (.aload_n 0, 1) := by decide +kernel
theorem dX3_send_53 : decode cX3_send 53 = .ok (.getfield 25, 3) := by decide +kernel
theorem dX3_send_56 : decode cX3_send 56 = .ok (.iload_n 1, 1) := by decide +kernel
theorem dX3_send_57 : decode cX3_send 57 = .ok (.iaload, 1) := by decide +kernel
theorem dX3_send_58 : decode cX3_send 58 = .ok (.if_icmp .ge 16, 3) := by decide +kernel
theorem dX3_send_61 : decode cX3_send 61 = .ok (.aload_n 0, 1) := by decide +kernel
theorem dX3_send_62 : decode cX3_send 62 = .ok (.getfield 12, 3) := by decide +kernel
theorem dX3_send_65 : decode cX3_send 65 = .ok (.getfield 106, 3) := by decide +kernel
theorem dX3_send_68 : decode cX3_send 68 = .ok (.sipush 200, 3) := by decide +kernel
theorem dX3_send_71 : decode cX3_send 71 = .ok (.if_icmp .lt 6, 3) := by decide +kernel
theorem dX3_send_74 : decode cX3_send 74 = .ok (.bipush (-3), 2) := by decide +kernel
theorem dX3_send_76 : decode cX3_send 76 = .ok (.ireturn, 1) := by decide +kernel
theorem dX3_send_77 : decode cX3_send 77 = .ok (.aload_n 0, 1) := by decide +kernel
theorem dX3_send_78 : decode cX3_send 78 = .ok (.getfield 12, 3) := by decide +kernel
theorem dX3_send_81 : decode cX3_send 81 = .ok (.iload_n 1, 1) := by decide +kernel
theorem dX3_send_82 : decode cX3_send 82 = .ok (.iload_n 2, 1) := by decide +kernel
theorem dX3_send_83 : decode cX3_send 83 = .ok (.iload_n 3, 1) := by decide +kernel
theorem dX3_send_84 : decode cX3_send 84 = .ok (.invokevirtual 109, 3) := by decide +kernel
theorem dX3_send_87 : decode cX3_send 87 = .ok (.istore 5, 2) := by decide +kernel
theorem dX3_send_89 : decode cX3_send 89 = .ok (.iload 5, 2) := by decide +kernel
theorem dX3_send_91 : decode cX3_send 91 = .ok (.iconst (-1), 1) := by decide +kernel
theorem dX3_send_92 : decode cX3_send 92 = .ok (.if_icmp .ne 8, 3) := by decide +kernel
theorem dX3_send_95 : decode cX3_send 95 = .ok (.bipush (-3), 2) := by decide +kernel
theorem dX3_send_97 : decode cX3_send 97 = .ok (.goto 5, 3) := by decide +kernel
theorem dX3_send_100 : decode cX3_send 100 = .ok (.iload 5, 2) := by decide +kernel
theorem dX3_send_102 : decode cX3_send 102 = .ok (.ireturn, 1) := by decide +kernel
theorem dX3_wipe_0 : decode cX3_wipe 0 = .ok (.iload_n 1, 1) := by decide +kernel
theorem dX3_wipe_1 : decode cX3_wipe 1 = .ok (.invokestatic 86, 3) := by decide +kernel
theorem dX3_wipe_4 : decode cX3_wipe 4 = .ok (.ifCond .ne 5, 3) := by decide +kernel
theorem dX3_wipe_7 : decode cX3_wipe 7 = .ok (.iconst (-1), 1) := by decide +kernel
theorem dX3_wipe_8 : decode cX3_wipe 8 = .ok (.ireturn, 1) := by decide +kernel
theorem dX3_wipe_9 : decode cX3_wipe 9 = .ok (.aload_n 0, 1) := by decide +kernel
theorem dX3_wipe_10 : decode cX3_wipe 10 = .ok (.getfield 21, 3) := by decide +kernel
theorem dX3_wipe_13 : decode cX3_wipe 13 = .ok (.getfield 93, 3) := by decide +kernel
theorem dX3_wipe_16 : decode cX3_wipe 16 = .ok (.iload_n 1, 1) := by decide +kernel
theorem dX3_wipe_17 : decode cX3_wipe 17 = .ok (.iaload, 1) := by decide +kernel
theorem dX3_wipe_18 : decode cX3_wipe 18 = .ok (.ifCond .ne 6, 3) := by decide +kernel
theorem dX3_wipe_21 : decode cX3_wipe 21 = .ok (.bipush (-5), 2) := by decide +kernel
theorem dX3_wipe_23 : decode cX3_wipe 23 = .ok (.ireturn, 1) := by decide +kernel
theorem dX3_wipe_24 : decode cX3_wipe 24 = .ok (.aload_n 0, 1) := by decide +kernel
theorem dX3_wipe_25 : decode cX3_wipe 25 = .ok (.getfield 12, 3) := by decide +kernel
theorem dX3_wipe_28 : decode cX3_wipe 28 = .ok (.iload_n 1, 1) := by decide +kernel
theorem dX3_wipe_29 : decode cX3_wipe 29 = .ok (.aload_n 0, 1) := by decide +kernel
theorem dX3_wipe_30 : decode cX3_wipe 30 = .ok (.getfield 21, 3) := by decide +kernel
theorem dX3_wipe_33 : decode cX3_wipe 33 = .ok (.getfield 113, 3) := by decide +kernel
theorem dX3_wipe_36 : decode cX3_wipe 36 = .ok (.iload_n 1, 1) := by decide +kernel
theorem dX3_wipe_37 : decode cX3_wipe 37 = .ok (.iaload, 1) := by decide +kernel
theorem dX3_wipe_38 : decode cX3_wipe 38 = .ok (.invokevirtual 116, 3) := by decide +kernel
theorem dX3_wipe_41 : decode cX3_wipe 41 = .ok (.istore_n 2, 1) := by decide +kernel
theorem dX3_wipe_42 : decode cX3_wipe 42 = .ok (.aload_n 0, 1) := by decide +kernel
theorem dX3_wipe_43 : decode cX3_wipe 43 = .ok (.getfield 12, 3) := by decide +kernel
theorem dX3_wipe_46 : decode cX3_wipe 46 = .ok (.iload_n 1, 1) := by decide +kernel
theorem dX3_wipe_47 : decode cX3_wipe 47 = .ok (.iconst 1, 1) := by decide +kernel
theorem dX3_wipe_48 : decode cX3_wipe 48 = .ok (.iconst 2, 1) := by decide +kernel
theorem dX3_wipe_49 : decode cX3_wipe 49 = .ok (.invokevirtual 119, 3) := by decide +kernel
theorem dX3_wipe_52 : decode cX3_wipe 52 = .ok (.pop, 1) := by decide +kernel
theorem dX3_wipe_53 : decode cX3_wipe 53 = .ok (.aload_n 0, 1) := by decide +kernel
theorem dX3_wipe_54 : decode cX3_wipe 54 = .ok (.getfield 21, 3) := by decide +kernel
theorem dX3_wipe_57 : decode cX3_wipe 57 = .ok (.iload_n 1, 1) := by decide +kernel
theorem dX3_wipe_58 : decode cX3_wipe 58 = .ok (.invokevirtual 122, 3) := by decide +kernel
theorem dX3_wipe_61 : decode cX3_wipe 61 = .ok (.iload_n 2, 1) := by decide +kernel
theorem dX3_wipe_62 : decode cX3_wipe 62 = .ok (.ireturn, 1) := by decide +kernel
theorem dX3_fill_0 : decode cX3_fill 0 = .ok (.iload_n 1, 1) := by decide +kernel
theorem dX3_fill_1 : decode cX3_fill 1 = .ok (.invokestatic 86, 3) := by decide +kernel
theorem dX3_fill_4 : decode cX3_fill 4 = .ok (.ifCond .ne 5, 3) := by decide +kernel
theorem dX3_fill_7 : decode cX3_fill 7 = .ok (.iconst (-1), 1) := by decide +kernel
theorem dX3_fill_8 : decode cX3_fill 8 = .ok (.ireturn, 1) := by decide +kernel
theorem dX3_fill_9 : decode cX3_fill 9 = .ok (.aload_n 0, 1) := by decide +kernel
theorem dX3_fill_10 : decode cX3_fill 10 = .ok (.getfield 21, 3) := by decide +kernel
theorem dX3_fill_13 : decode cX3_fill 13 = .ok (.getfield 93, 3) := by decide +kernel
theorem dX3_fill_16 : decode cX3_fill 16 = .ok (.iload_n 1, 1) := by decide +kernel
theorem dX3_fill_17 : decode cX3_fill 17 = .ok (.iaload, 1) := by decide +kernel
theorem dX3_fill_18 : decode cX3_fill 18 = .ok (.ifCond .ne 6, 3) := by decide +kernel
theorem dX3_fill_21 : decode cX3_fill 21 = .ok (.bipush (-4), 2) := by decide +kernel
theorem dX3_fill_23 : decode cX3_fill 23 = .ok (.ireturn, 1) := by decide +kernel
theorem dX3_fill_24 : decode cX3_fill 24 = .ok (.aload_n 0, 1) := by decide +kernel
theorem dX3_fill_25 : decode cX3_fill 25 = .ok (.getfield 21, 3) := by decide +kernel
theorem dX3_fill_28 : decode cX3_fill 28 = .ok (.getfield 93, 3) := by decide +kernel
theorem dX3_fill_31 : decode cX3_fill 31 = .ok (.iload_n 1, 1) := by decide +kernel
theorem dX3_fill_32 : decode cX3_fill 32 = .ok (.iaload, 1) := by decide +kernel
theorem dX3_fill_33 : decode cX3_fill 33 = .ok (.iconst 3, 1) := by decide +kernel
theorem dX3_fill_34 : decode cX3_fill 34 = .ok (.if_icmp .ne 6, 3) := by decide +kernel
theorem dX3_fill_37 : decode cX3_fill 37 = .ok (.bipush (-5), 2) := by decide +kernel
theorem dX3_fill_39 : decode cX3_fill 39 = .ok (.ireturn, 1) := by decide +kernel
theorem dX3_fill_40 : decode cX3_fill 40 = .ok (.aload_n 0, 1) := by decide +kernel
theorem dX3_fill_41 : decode cX3_fill 41 = .ok (.getfield 21, 3) := by decide +kernel
theorem dX3_fill_44 : decode cX3_fill 44 = .ok (.getfield 93, 3) := by decide +kernel
theorem dX3_fill_47 : decode cX3_fill 47 = .ok (.iload_n 1, 1) := by decide +kernel
theorem dX3_fill_48 : decode cX3_fill 48 = .ok (.iconst 3, 1) := by decide +kernel
theorem dX3_fill_49 : decode cX3_fill 49 = .ok (.iastore, 1) := by decide +kernel
theorem dX3_fill_50 : decode cX3_fill 50 = .ok (.aload_n 0, 1) := by decide +kernel
theorem dX3_fill_51 : decode cX3_fill 51 = .ok (.getfield 12, 3) := by decide +kernel
theorem dX3_fill_54 : decode cX3_fill 54 = .ok (.iload_n 1, 1) := by decide +kernel
theorem dX3_fill_55 : decode cX3_fill 55 = .ok (.iconst 0, 1) := by decide +kernel
theorem dX3_fill_56 : decode cX3_fill 56 = .ok (.iconst 3, 1) := by decide +kernel
theorem dX3_fill_57 : decode cX3_fill 57 = .ok (.invokevirtual 119, 3) := by decide +kernel
theorem dX3_fill_60 : decode cX3_fill 60 = .ok (.ireturn, 1) := by decide +kernel
theorem dX3_shut_0 : decode cX3_shut 0 = .ok (.iload_n 1, 1) := by decide +kernel
theorem dX3_shut_1 : decode cX3_shut 1 = .ok (.invokestatic 86, 3) := by decide +kernel
theorem dX3_shut_4 : decode cX3_shut 4 = .ok (.ifCond .ne 5, 3) := by decide +kernel
theorem dX3_shut_7 : decode cX3_shut 7 = .ok (.iconst (-1), 1) := by decide +kernel
theorem dX3_shut_8 : decode cX3_shut 8 = .ok (.ireturn, 1) := by decide +kernel
theorem dX3_shut_9 : decode cX3_shut 9 = .ok (.aload_n 0, 1) := by decide +kernel
theorem dX3_shut_10 : decode cX3_shut 10 = .ok (.getfield 21, 3) := by decide +kernel
theorem dX3_shut_13 : decode cX3_shut 13 = .ok (.getfield 93, 3) := by decide +kernel
theorem dX3_shut_16 : decode cX3_shut 16 = .ok (.iload_n 1, 1) := by decide +kernel
theorem dX3_shut_17 : decode cX3_shut 17 = .ok (.iaload, 1) := by decide +kernel
theorem dX3_shut_18 : decode cX3_shut 18 = .ok (.iconst 1, 1) := by decide +kernel
theorem dX3_shut_19 : decode cX3_shut 19 = .ok (.if_icmp .ne 15, 3) := by decide +kernel
theorem dX3_shut_22 : decode cX3_shut 22 = .ok (.aload_n 0, 1) := by decide +kernel
theorem dX3_shut_23 : decode cX3_shut 23 = .ok (.getfield 12, 3) := by decide +kernel
theorem dX3_shut_26 : decode cX3_shut 26 = .ok (.iload_n 1, 1) := by decide +kernel
theorem dX3_shut_27 : decode cX3_shut 27 = .ok (.iconst 1, 1) := by decide +kernel
theorem dX3_shut_28 : decode cX3_shut 28 = .ok (.invokevirtual 126, 3) := by decide +kernel
theorem dX3_shut_31 : decode cX3_shut 31 = .ok (.ifCond .le 6, 3) := by decide +kernel
theorem dX3_shut_34 : decode cX3_shut 34 = .ok (.bipush (-4), 2) := by decide +kernel
theorem dX3_shut_36 : decode cX3_shut 36 = .ok (.ireturn, 1) := by decide +kernel
theorem dX3_shut_37 : decode cX3_shut 37 = .ok (.aload_n 0, 1) := by decide +kernel
theorem dX3_shut_38 : decode cX3_shut 38 = .ok (.getfield 21, 3) := by decide +kernel
theorem dX3_shut_41 : decode cX3_shut 41 = .ok (.getfield 93, 3) := by decide +kernel
theorem dX3_shut_44 : decode cX3_shut 44 = .ok (.iload_n 1, 1) := by decide +kernel
theorem dX3_shut_45 : decode cX3_shut 45 = .ok (.iconst 2, 1) := by decide +kernel
theorem dX3_shut_46 : decode cX3_shut 46 = .ok (.iastore, 1) := by decide +kernel
theorem dX3_shut_47 : decode cX3_shut 47 = .ok (.aload_n 0, 1) := by decide +kernel
theorem dX3_shut_48 : decode cX3_shut 48 = .ok (.getfield 21, 3) := by decide +kernel
theorem dX3_shut_51 : decode cX3_shut 51 = .ok (.iconst 1, 1) := by decide +kernel
theorem dX3_shut_52 : decode cX3_shut 52 = .ok (.invokevirtual 76, 3) := by decide +kernel
theorem dX3_shut_55 : decode cX3_shut 55 = .ok (.ireturn, 1) := by decide +kernel
theorem dX3_letPass_0 : decode cX3_letPass 0 = .ok (.iload_n 1, 1) := by decide +kernel
theorem dX3_letPass_1 : decode cX3_letPass 1 = .ok (.iconst 1, 1) := by decide +kernel
theorem dX3_letPass_2 : decode cX3_letPass 2 = .ok (.bipush 99, 2) := by decide +kernel
theorem dX3_letPass_4 : decode cX3_letPass 4 = .ok (.invokestatic 72, 3) := by decide +kernel
theorem dX3_letPass_7 : decode cX3_letPass 7 = .ok (.ifCond .ne 6, 3) := by decide +kernel
theorem dX3_letPass_10 : decode cX3_letPass 10 = .ok (.bipush (-2), 2) := by decide +kernel
theorem dX3_letPass_12 : decode cX3_letPass 12 = .ok (.ireturn, 1) := by decide +kernel
theorem dX3_letPass_13 : decode cX3_letPass 13 = .ok (.aload_n 0, 1) := by decide +kernel
theorem dX3_letPass_14 : decode cX3_letPass 14 = .ok (.getfield 42, 3) := by decide +kernel
theorem dX3_letPass_17 : decode cX3_letPass 17 = .ok (.iload_n 1, 1) := by decide +kernel
theorem dX3_letPass_18 : decode cX3_letPass 18 = .ok (.iadd, 1) := by decide +kernel
theorem dX3_letPass_19 : decode cX3_letPass 19 = .ok (.sipush 9999, 3) := by decide +kernel
theorem dX3_letPass_22 : decode cX3_letPass 22 = .ok (.if_icmp .le 6, 3) := by decide +kernel
theorem dX3_letPass_25 : decode cX3_letPass 25 = .ok (.bipush (-3), 2) := by decide +kernel
theorem dX3_letPass_27 : decode cX3_letPass 27 = .ok (.ireturn, 1) := by decide +kernel
theorem dX3_letPass_28 : decode cX3_letPass 28 = .ok (.aload_n 0, 1) := by decide +kernel
theorem dX3_letPass_29 : decode cX3_letPass 29 = .ok (.getfield 12, 3) := by decide +kernel
theorem dX3_letPass_32 : decode cX3_letPass 32 = .ok (.getfield 129, 3) := by decide +kernel
theorem dX3_letPass_35 : decode cX3_letPass 35 = .ok (.istore_n 2, 1) := by decide +kernel
theorem dX3_letPass_36 : decode cX3_letPass 36 = .ok (.iconst 0, 1) := by decide +kernel
theorem dX3_letPass_37 : decode cX3_letPass 37 = .ok (.istore_n 3, 1) := by decide +kernel
theorem dX3_letPass_38 : decode cX3_letPass 38 = .ok (.iload_n 3, 1) := by decide +kernel
theorem dX3_letPass_39 : decode cX3_letPass 39 = .ok (.iload_n 1, 1) := by decide +kernel
theorem dX3_letPass_40 : decode cX3_letPass 40 = .ok (.if_icmp .ge 13, 3) := by decide +kernel
theorem dX3_letPass_43 : decode cX3_letPass 43 = .ok (.aload_n 0, 1) := by decide +kernel
theorem dX3_letPass_44 : decode cX3_letPass 44 = .ok (.invokevirtual 132, 3) := by decide +kernel
theorem dX3_letPass_47 : decode cX3_letPass 47 = .ok (.iinc 3 1, 3) := by decide +kernel
theorem dX3_letPass_50 : decode cX3_letPass 50 = .ok (.goto (-12), 3) := by decide +kernel
theorem dX3_letPass_53 : decode cX3_letPass 53 = .ok (.aload_n 0, 1) := by decide +kernel
theorem dX3_letPass_54 : decode cX3_letPass 54 = .ok (.getfield 12, 3) := by decide +kernel
theorem dX3_letPass_57 : decode cX3_letPass 57 = .ok (.getfield 129, 3) := by decide +kernel
theorem dX3_letPass_60 : decode cX3_letPass 60 = .ok (.iload_n 2, 1) := by decide +kernel
theorem dX3_letPass_61 : decode cX3_letPass 61 = .ok (.isub, 1) := by decide +kernel
theorem dX3_letPass_62 : decode cX3_letPass 62 = .ok (.ireturn, 1) := by decide +kernel
theorem dX3_letOnePass_0 : decode cX3_letOnePass 0 = .ok (.aload_n 0, 1) := by decide +kernel
theorem dX3_letOnePass_1 : decode cX3_letOnePass 1 = .ok (.invokevirtual 135, 3) := by decide +kernel
theorem dX3_letOnePass_4 : decode cX3_letOnePass 4 = .ok (.aload_n 0, 1) := by decide +kernel
theorem dX3_letOnePass_5 : decode cX3_letOnePass 5 = .ok (.invokevirtual 138, 3) := by decide +kernel
theorem dX3_letOnePass_8 : decode cX3_letOnePass 8 = .ok (.istore_n 1, 1) := by decide +kernel
theorem dX3_letOnePass_9 : decode cX3_letOnePass 9 = .ok (.iconst (-1), 1) := by decide +kernel
theorem dX3_letOnePass_10 : decode cX3_letOnePass 10 = .ok (.istore_n 2, 1) := by decide +kernel
theorem dX3_letOnePass_11 : decode cX3_letOnePass 11 = .ok (.iconst 0, 1) := by decide +kernel
theorem dX3_letOnePass_12 : decode cX3_letOnePass 12 = .ok (.istore_n 3, 1) := by decide +kernel
theorem dX3_letOnePass_13 : decode cX3_letOnePass 13 = .ok (.iload_n 3, 1) := by decide +kernel
theorem dX3_letOnePass_14 : decode cX3_letOnePass 14 = .ok (.iload_n 1, 1) := by decide +kernel
theorem dX3_letOnePass_15 : decode cX3_letOnePass 15 = .ok (.if_icmp .ge 42, 3) := by decide +kernel
theorem dX3_letOnePass_18 : decode cX3_letOnePass 18 = .ok (.aload_n 0, 1) := by decide +kernel
theorem dX3_letOnePass_19 : decode cX3_letOnePass 19 = .ok (.aload_n 0, 1) := by decide +kernel
theorem dX3_letOnePass_20 : decode cX3_letOnePass 20 = .ok (.getfield 32, 3) := by decide +kernel
theorem dX3_letOnePass_23 : decode cX3_letOnePass 23 = .ok (.iload_n 3, 1) := by decide +kernel
theorem dX3_letOnePass_24 : decode cX3_letOnePass 24 = .ok (.iaload, 1) := by decide +kernel
theorem dX3_letOnePass_25 : decode cX3_letOnePass 25 = .ok (.invokevirtual 141, 3) := by decide +kernel
theorem dX3_letOnePass_28 : decode cX3_letOnePass 28 = .ok (.ifCond .eq 23, 3) := by decide +kernel
theorem dX3_letOnePass_31 : decode cX3_letOnePass 31 = .ok (.iload_n 2, 1) := by decide +kernel
theorem dX3_letOnePass_32 : decode cX3_letOnePass 32 = .ok (.iconst (-1), 1) := by decide +kernel
theorem dX3_letOnePass_33 : decode cX3_letOnePass 33 = .ok (.if_icmp .ne 18, 3) := by decide +kernel
theorem dX3_letOnePass_36 : decode cX3_letOnePass 36 = .ok (.aload_n 0, 1) := by decide +kernel
theorem dX3_letOnePass_37 : decode cX3_letOnePass 37 = .ok (.getfield 12, 3) := by decide +kernel
theorem dX3_letOnePass_40 : decode cX3_letOnePass 40 = .ok (.getfield 144, 3) := by decide +kernel
theorem dX3_letOnePass_43 : decode cX3_letOnePass 43 = .ok (.aload_n 0, 1) := by decide +kernel
theorem dX3_letOnePass_44 : decode cX3_letOnePass 44 = .ok (.getfield 32, 3) := by decide +kernel
theorem dX3_letOnePass_47 : decode cX3_letOnePass 47 = .ok (.iload_n 3, 1) := by decide +kernel
theorem dX3_letOnePass_48 : decode cX3_letOnePass 48 = .ok (.iaload, 1) := by decide +kernel
theorem dX3_letOnePass_49 : decode cX3_letOnePass 49 = .ok (.iaload, 1) := by decide +kernel
theorem dX3_letOnePass_50 : decode cX3_letOnePass 50 = .ok (.istore_n 2, 1) := by decide +kernel
theorem dX3_letOnePass_51 : decode cX3_letOnePass 51 = .ok (.iinc 3 1, 3) := by decide +kernel
theorem dX3_letOnePass_54 : decode cX3_letOnePass 54 = .ok (.goto (-41), 3) := by decide +kernel
theorem dX3_letOnePass_57 : decode cX3_letOnePass 57 = .ok (.aload_n 0, 1) := by decide +kernel
theorem dX3_letOnePass_58 : decode cX3_letOnePass 58 = .ok (.getfield 39, 3) := by decide +kernel
theorem dX3_letOnePass_61 : decode cX3_letOnePass 61 = .ok (.iconst 1, 1) := by decide +kernel
theorem dX3_letOnePass_62 : decode cX3_letOnePass 62 = .ok (.if_icmp .ne 21, 3) := by decide +kernel
theorem dX3_letOnePass_65 : decode cX3_letOnePass 65 = .ok (.iload_n 2, 1) := by decide +kernel
theorem dX3_letOnePass_66 : decode cX3_letOnePass 66 = .ok (.iconst (-1), 1) := by decide +kernel
theorem dX3_letOnePass_67 : decode cX3_letOnePass 67 = .ok (.if_icmp .eq 16, 3) := by decide +kernel
theorem dX3_letOnePass_70 : decode cX3_letOnePass 70 = .ok (.aload_n 0, 1) := by decide +kernel
theorem dX3_letOnePass_71 : decode cX3_letOnePass 71 = .ok (.getfield 21, 3) := by decide +kernel
theorem dX3_letOnePass_74 : decode cX3_letOnePass 74 = .ok (.iload_n 2, 1) := by decide +kernel
theorem dX3_letOnePass_75 : decode cX3_letOnePass 75 = .ok (.iconst 1, 1) := by decide +kernel
theorem dX3_letOnePass_76 : decode cX3_letOnePass 76 = .ok (.iadd, 1) := by decide +kernel
theorem dX3_letOnePass_77 : decode cX3_letOnePass 77 = .ok (.bipush 8, 2) := by decide +kernel
theorem dX3_letOnePass_79 : decode cX3_letOnePass 79 = .ok (.irem, 1) := by decide +kernel
theorem dX3_letOnePass_80 : decode cX3_letOnePass 80 = .ok (.putfield 147, 3) := by decide +kernel
theorem dX3_letOnePass_83 : decode cX3_letOnePass 83 = .ok (.aload_n 0, 1) := by decide +kernel
theorem dX3_letOnePass_84 : decode cX3_letOnePass 84 = .ok (.getfield 12, 3) := by decide +kernel
theorem dX3_letOnePass_87 : decode cX3_letOnePass 87 = .ok (.invokevirtual 150, 3) := by decide +kernel
theorem dX3_letOnePass_90 : decode cX3_letOnePass 90 = .ok (.aload_n 0, 1) := by decide +kernel
theorem dX3_letOnePass_91 : decode cX3_letOnePass 91 = .ok (.dup, 1) := by decide +kernel
theorem dX3_letOnePass_92 : decode cX3_letOnePass 92 = .ok (.getfield 42, 3) := by decide +kernel
theorem dX3_letOnePass_95 : decode cX3_letOnePass 95 = .ok (.iconst 1, 1) := by decide +kernel
theorem dX3_letOnePass_96 : decode cX3_letOnePass 96 = .ok (.iadd, 1) := by decide +kernel
theorem dX3_letOnePass_97 : decode cX3_letOnePass 97 = .ok (.putfield 42, 3) := by decide +kernel
theorem dX3_letOnePass_100 : decode cX3_letOnePass 100 = .ok (.return_, 1) := by decide +kernel
theorem dX3_tellDue_0 : decode cX3_tellDue 0 = .ok (.iconst 0, 1) := by decide +kernel
theorem dX3_tellDue_1 : decode cX3_tellDue 1 = .ok (.istore_n 1, 1) := by decide +kernel
theorem dX3_tellDue_2 : decode cX3_tellDue 2 = .ok (.iload_n 1, 1) := by decide +kernel
theorem dX3_tellDue_3 : decode cX3_tellDue 3 = .ok (.aload_n 0, 1) := by decide +kernel
theorem dX3_tellDue_4 : decode cX3_tellDue 4 = .ok (.getfield 12, 3) := by decide +kernel
theorem dX3_tellDue_7 : decode cX3_tellDue 7 = .ok (.getfield 153, 3) := by decide +kernel
theorem dX3_tellDue_10 : decode cX3_tellDue 10 = .ok (.if_icmp .ge 85, 3) := by decide +kernel
theorem dX3_tellDue_13 : decode cX3_tellDue 13 = .ok (.aload_n 0, 1) := by decide +kernel
theorem dX3_tellDue_14 : decode cX3_tellDue 14 = .ok (.getfield 12, 3) := by decide +kernel
theorem dX3_tellDue_17 : decode cX3_tellDue 17 = .ok (.getfield 156, 3) := by decide +kernel
theorem dX3_tellDue_20 : decode cX3_tellDue 20 = .ok (.iload_n 1, 1) := by decide +kernel
theorem dX3_tellDue_21 : decode cX3_tellDue 21 = .ok (.iaload, 1) := by decide +kernel
theorem dX3_tellDue_22 : decode cX3_tellDue 22 = .ok (.istore_n 2, 1) := by decide +kernel
theorem dX3_tellDue_23 : decode cX3_tellDue 23 = .ok (.aload_n 0, 1) := by decide +kernel
theorem dX3_tellDue_24 : decode cX3_tellDue 24 = .ok (.getfield 12, 3) := by decide +kernel
theorem dX3_tellDue_27 : decode cX3_tellDue 27 = .ok (.getfield 159, 3) := by decide +kernel
theorem dX3_tellDue_30 : decode cX3_tellDue 30 = .ok (.iload_n 2, 1) := by decide +kernel
theorem dX3_tellDue_31 : decode cX3_tellDue 31 = .ok (.iaload, 1) := by decide +kernel
theorem dX3_tellDue_32 : decode cX3_tellDue 32 = .ok (.iconst 1, 1) := by decide +kernel
theorem dX3_tellDue_33 : decode cX3_tellDue 33 = .ok (.if_icmp .ne 56, 3) := by decide +kernel
theorem dX3_tellDue_36 : decode cX3_tellDue 36 = .ok (.aload_n 0, 1) := by decide +kernel
theorem dX3_tellDue_37 : decode cX3_tellDue 37 = .ok (.getfield 12, 3) := by decide +kernel
theorem dX3_tellDue_40 : decode cX3_tellDue 40 = .ok (.getfield 160, 3) := by decide +kernel
theorem dX3_tellDue_43 : decode cX3_tellDue 43 = .ok (.iload_n 2, 1) := by decide +kernel
theorem dX3_tellDue_44 : decode cX3_tellDue 44 = .ok (.iaload, 1) := by decide +kernel
theorem dX3_tellDue_45 : decode cX3_tellDue 45 = .ok (.aload_n 0, 1) := by decide +kernel
theorem dX3_tellDue_46 : decode cX3_tellDue 46 = .ok (.getfield 42, 3) := by decide +kernel
theorem dX3_tellDue_49 : decode cX3_tellDue 49 = .ok (.if_icmp .ne 40, 3) := by decide +kernel
theorem dX3_tellDue_52 : decode cX3_tellDue 52 = .ok (.aload_n 0, 1) := by decide +kernel
theorem dX3_tellDue_53 : decode cX3_tellDue 53 = .ok (.getfield 12, 3) := by decide +kernel
theorem dX3_tellDue_56 : decode cX3_tellDue 56 = .ok (.iload_n 2, 1) := by decide +kernel
theorem dX3_tellDue_57 : decode cX3_tellDue 57 = .ok (.invokevirtual 163, 3) := by decide +kernel
theorem dX3_tellDue_60 : decode cX3_tellDue 60 = .ok (.ifCond .eq 21, 3) := by decide +kernel
theorem dX3_tellDue_63 : decode cX3_tellDue 63 = .ok (.aload_n 0, 1) := by decide +kernel
theorem dX3_tellDue_64 : decode cX3_tellDue 64 = .ok (.getfield 29, 3) := by decide +kernel
theorem dX3_tellDue_67 : decode cX3_tellDue 67 = .ok (.aload_n 0, 1) := by decide +kernel
theorem dX3_tellDue_68 : decode cX3_tellDue 68 = .ok (.getfield 12, 3) := by decide +kernel
theorem dX3_tellDue_71 : decode cX3_tellDue 71 = .ok (.getfield 166, 3) := by decide +kernel
theorem dX3_tellDue_74 : decode cX3_tellDue 74 = .ok (.iload_n 2, 1) := by decide +kernel
theorem dX3_tellDue_75 : decode cX3_tellDue 75 = .ok (.iaload, 1) := by decide +kernel
theorem dX3_tellDue_76 : decode cX3_tellDue 76 = .ok (.dup2, 1) := by decide +kernel
theorem dX3_tellDue_77 : decode cX3_tellDue 77 = .ok (.iaload, 1) := by decide +kernel
theorem dX3_tellDue_78 : decode cX3_tellDue 78 = .ok (.iconst 1, 1) := by decide +kernel
theorem dX3_tellDue_79 : decode cX3_tellDue 79 = .ok (.iadd, 1) := by decide +kernel
theorem dX3_tellDue_80 : decode cX3_tellDue 80 = .ok (.iastore, 1) := by decide +kernel
theorem dX3_tellDue_81 : decode cX3_tellDue 81 = .ok (.aload_n 0, 1) := by decide +kernel
theorem dX3_tellDue_82 : decode cX3_tellDue 82 = .ok (.getfield 12, 3) := by decide +kernel
theorem dX3_tellDue_85 : decode cX3_tellDue 85 = .ok (.iload_n 2, 1) := by decide +kernel
theorem dX3_tellDue_86 : decode cX3_tellDue 86 = .ok (.invokevirtual 169, 3) := by decide +kernel
theorem dX3_tellDue_89 : decode cX3_tellDue 89 = .ok (.iinc 1 1, 3) := by decide +kernel
theorem dX3_tellDue_92 : decode cX3_tellDue 92 = .ok (.goto (-90), 3) := by decide +kernel
theorem dX3_tellDue_95 : decode cX3_tellDue 95 = .ok (.return_, 1) := by decide +kernel
theorem dX3_putInOrder_0 : decode cX3_putInOrder 0 = .ok (.aload_n 0, 1) := by decide +kernel
theorem dX3_putInOrder_1 : decode cX3_putInOrder 1 = .ok (.getfield 39, 3) := by decide +kernel
theorem dX3_putInOrder_4 : decode cX3_putInOrder 4 = .ok (.iconst 1, 1) := by decide +kernel
theorem dX3_putInOrder_5 : decode cX3_putInOrder 5 = .ok (.if_icmp .ne 8, 3) := by decide +kernel
theorem dX3_putInOrder_8 : decode cX3_putInOrder 8 = .ok (.bipush 8, 2) := by decide +kernel
theorem dX3_putInOrder_10 : decode cX3_putInOrder 10 = .ok (.goto 4, 3) := by decide +kernel
theorem dX3_putInOrder_13 : decode cX3_putInOrder 13 = .ok (.iconst 1, 1) := by decide +kernel
theorem dX3_putInOrder_14 : decode cX3_putInOrder 14 = .ok (.istore_n 1, 1) := by decide +kernel
theorem dX3_putInOrder_15 : decode cX3_putInOrder 15 = .ok (.iconst 0, 1) := by decide +kernel
theorem dX3_putInOrder_16 : decode cX3_putInOrder 16 = .ok (.istore_n 2, 1) := by decide +kernel
theorem dX3_putInOrder_17 : decode cX3_putInOrder 17 = .ok (.iconst 0, 1) := by decide +kernel
theorem dX3_putInOrder_18 : decode cX3_putInOrder 18 = .ok (.istore_n 3, 1) := by decide +kernel
theorem dX3_putInOrder_19 : decode cX3_putInOrder 19 = .ok (.iload_n 3, 1) := by decide +kernel
theorem dX3_putInOrder_20 : decode cX3_putInOrder 20 = .ok (.iload_n 1, 1) := by decide +kernel
theorem dX3_putInOrder_21 : decode cX3_putInOrder 21 = .ok (.if_icmp .ge 120, 3) := by decide +kernel
theorem dX3_putInOrder_24 : decode cX3_putInOrder 24 = .ok (.aload_n 0, 1) := by decide +kernel
theorem dX3_putInOrder_25 : decode cX3_putInOrder 25 = .ok (.getfield 21, 3) := by decide +kernel
theorem dX3_putInOrder_28 : decode cX3_putInOrder 28 = .ok (.getfield 147, 3) := by decide +kernel
theorem dX3_putInOrder_31 : decode cX3_putInOrder 31 = .ok (.iload_n 3, 1) := by decide +kernel
theorem dX3_putInOrder_32 : decode cX3_putInOrder 32 = .ok (.iadd, 1) := by decide +kernel
theorem dX3_putInOrder_33 : decode cX3_putInOrder 33 = .ok (.bipush 8, 2) := by decide +kernel
theorem dX3_putInOrder_35 : decode cX3_putInOrder 35 = .ok (.irem, 1) := by decide +kernel
theorem dX3_putInOrder_36 : decode cX3_putInOrder 36 = .ok (.istore 4, 2) := by decide +kernel
theorem dX3_putInOrder_38 : decode cX3_putInOrder 38 = .ok (.iconst 0, 1) := by decide +kernel
theorem dX3_putInOrder_39 : decode cX3_putInOrder 39 = .ok (.istore 5, 2) := by decide +kernel
theorem dX3_putInOrder_41 : decode cX3_putInOrder 41 = .ok (.iload 5, 2) := by decide +kernel
theorem dX3_putInOrder_43 : decode cX3_putInOrder 43 = .ok (.aload_n 0, 1) := by decide +kernel
theorem dX3_putInOrder_44 : decode cX3_putInOrder 44 = .ok (.getfield 12, 3) := by decide +kernel
theorem dX3_putInOrder_47 : decode cX3_putInOrder 47 = .ok (.getfield 153, 3) := by decide +kernel
theorem dX3_putInOrder_50 : decode cX3_putInOrder 50 = .ok (.if_icmp .ge 85, 3) := by decide +kernel
theorem dX3_putInOrder_53 : decode cX3_putInOrder 53 = .ok (.aload_n 0, 1) := by decide +kernel
theorem dX3_putInOrder_54 : decode cX3_putInOrder 54 = .ok (.getfield 12, 3) := by decide +kernel
theorem dX3_putInOrder_57 : decode cX3_putInOrder 57 = .ok (.getfield 156, 3) := by decide +kernel
theorem dX3_putInOrder_60 : decode cX3_putInOrder 60 = .ok (.iload 5, 2) := by decide +kernel
theorem dX3_putInOrder_62 : decode cX3_putInOrder 62 = .ok (.iaload, 1) := by decide +kernel
theorem dX3_putInOrder_63 : decode cX3_putInOrder 63 = .ok (.istore 6, 2) := by decide +kernel
theorem dX3_putInOrder_65 : decode cX3_putInOrder 65 = .ok (.aload_n 0, 1) := by decide +kernel
theorem dX3_putInOrder_66 : decode cX3_putInOrder 66 = .ok (.getfield 39, 3) := by decide +kernel
theorem dX3_putInOrder_69 : decode cX3_putInOrder 69 = .ok (.ifCond .eq 18, 3) := by decide +kernel
theorem dX3_putInOrder_72 : decode cX3_putInOrder 72 = .ok (.aload_n 0, 1) := by decide +kernel
theorem dX3_putInOrder_73 : decode cX3_putInOrder 73 = .ok (.getfield 12, 3) := by decide +kernel
theorem dX3_putInOrder_76 : decode cX3_putInOrder 76 = .ok (.getfield 144, 3) := by decide +kernel
theorem dX3_putInOrder_79 : decode cX3_putInOrder 79 = .ok (.iload 6, 2) := by decide +kernel
theorem dX3_putInOrder_81 : decode cX3_putInOrder 81 = .ok (.iaload, 1) := by decide +kernel
theorem dX3_putInOrder_82 : decode cX3_putInOrder 82 = .ok (.iload 4, 2) := by decide +kernel
theorem dX3_putInOrder_84 : decode cX3_putInOrder 84 = .ok (.if_icmp .ne 7, 3) := by decide +kernel
theorem dX3_putInOrder_87 : decode cX3_putInOrder 87 = .ok (.iconst 1, 1) := by decide +kernel
theorem dX3_putInOrder_88 : decode cX3_putInOrder 88 = .ok (.goto 4, 3) := by decide +kernel
theorem dX3_putInOrder_91 : decode cX3_putInOrder 91 = .ok (.iconst 0, 1) := by decide +kernel
theorem dX3_putInOrder_92 : decode cX3_putInOrder 92 = .ok (.istore 7, 2) := by decide +kernel
theorem dX3_putInOrder_94 : decode cX3_putInOrder 94 = .ok (.iload 7, 2) := by decide +kernel
theorem dX3_putInOrder_96 : decode cX3_putInOrder 96 = .ok (.ifCond .eq 33, 3) := by decide +kernel
theorem dX3_putInOrder_99 : decode cX3_putInOrder 99 = .ok (.aload_n 0, 1) := by decide +kernel
theorem dX3_putInOrder_100 : decode cX3_putInOrder 100 = .ok (.getfield 12, 3) := by decide +kernel
theorem dX3_putInOrder_103 : decode cX3_putInOrder 103 = .ok (.getfield 159, 3) := by decide +kernel
theorem dX3_putInOrder_106 : decode cX3_putInOrder 106 = .ok (.iload 6, 2) := by decide +kernel
theorem dX3_putInOrder_108 : decode cX3_putInOrder 108 = .ok (.iaload, 1) := by decide +kernel
theorem dX3_putInOrder_109 : decode cX3_putInOrder 109 = .ok (.ifCond .ne 20, 3) := by decide +kernel
theorem dX3_putInOrder_112 : decode cX3_putInOrder 112 = .ok (.iload_n 2, 1) := by decide +kernel
theorem dX3_putInOrder_113 : decode cX3_putInOrder 113 = .ok (.bipush 33, 2) := by decide +kernel
theorem dX3_putInOrder_115 : decode cX3_putInOrder 115 = .ok (.if_icmp .ge 14, 3) := by decide +kernel
theorem dX3_putInOrder_118 : decode cX3_putInOrder 118 = .ok (.aload_n 0, 1) := by decide +kernel
theorem dX3_putInOrder_119 : decode cX3_putInOrder 119 = .ok (.getfield 32, 3) := by decide +kernel
theorem dX3_putInOrder_122 : decode cX3_putInOrder 122 = .ok (.iload_n 2, 1) := by decide +kernel
theorem dX3_putInOrder_123 : decode cX3_putInOrder 123 = .ok (.iload 6, 2) := by decide +kernel
theorem dX3_putInOrder_125 : decode cX3_putInOrder 125 = .ok (.iastore, 1) := by decide +kernel
theorem dX3_putInOrder_126 : decode cX3_putInOrder 126 = .ok (.iinc 2 1, 3) := by decide +kernel
theorem dX3_putInOrder_129 : decode cX3_putInOrder 129 = .ok (.iinc 5 1, 3) := by decide +kernel
theorem dX3_putInOrder_132 : decode cX3_putInOrder 132 = .ok (.goto (-91), 3) := by decide +kernel
theorem dX3_putInOrder_135 : decode cX3_putInOrder 135 = .ok (.iinc 3 1, 3) := by decide +kernel
theorem dX3_putInOrder_138 : decode cX3_putInOrder 138 = .ok (.goto (-119), 3) := by decide +kernel
theorem dX3_putInOrder_141 : decode cX3_putInOrder 141 = .ok (.iload_n 2, 1) := by decide +kernel
theorem dX3_putInOrder_142 : decode cX3_putInOrder 142 = .ok (.ireturn, 1) := by decide +kernel
theorem dX3_hasBegun_0 : decode cX3_hasBegun 0 = .ok (.aload_n 0, 1) := by decide +kernel
theorem dX3_hasBegun_1 : decode cX3_hasBegun 1 = .ok (.getfield 12, 3) := by decide +kernel
theorem dX3_hasBegun_4 : decode cX3_hasBegun 4 = .ok (.getfield 144, 3) := by decide +kernel
