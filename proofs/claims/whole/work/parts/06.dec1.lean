theorem dX3_shut_44 : decode cX3_shut 44 = .ok (.iload_n 1, 1) := by decide +kernel
theorem dX3_shut_45 : decode cX3_shut 45 = .ok (.iconst 2, 1) := by decide +kernel
theorem dX3_shut_46 : decode cX3_shut 46 = .ok (.iastore, 1) := by decide +kernel
theorem dX3_shut_47 : decode cX3_shut 47 = .ok (.aload_n 0, 1) := by decide +kernel
theorem dX3_shut_48 : decode cX3_shut 48 = .ok (.getfield 21, 3) := by decide +kernel
theorem dX3_shut_51 : decode cX3_shut 51 = .ok (.iconst 1, 1) := by decide +kernel
theorem dX3_shut_52 : decode cX3_shut 52 = .ok (.invokevirtual 76, 3) := by decide +kernel
theorem dX3_shut_55 : decode cX3_shut 55 = .ok (.ireturn, 1) := by decide +kernel
theorem dX3_letPass_0 : decode cX3_letPass 0 = .ok (.iload_n 1, 1) := by decide +kernel
theorem dX3_letPass_1 : decode cX3_letPass 1 = .ok (.iconst 1, 1) := by decide +kernel
theorem dX3_letPass_2 : decode cX3_letPass 2 = .ok (.bipush 99, 2) := by decide +kernel
theorem dX3_letPass_4 : decode cX3_letPass 4 = .ok (.invokestatic 72, 3) := by decide +kernel
theorem dX3_letPass_7 : decode cX3_letPass 7 = .ok (.ifCond .ne 6, 3) := by decide +kernel
theorem dX3_letPass_10 : decode cX3_letPass 10 = .ok (.bipush (-2), 2) := by decide +kernel
theorem dX3_letPass_12 : decode cX3_letPass 12 = .ok (.ireturn, 1) := by decide +kernel
theorem dX3_letPass_13 : decode cX3_letPass 13 = .ok (.aload_n 0, 1) := by decide +kernel
theorem dX3_letPass_14 : decode cX3_letPass 14 = .ok (.getfield 42, 3) := by decide +kernel
theorem dX3_letPass_17 : decode cX3_letPass 17 = .ok (.iload_n 1, 1) := by decide +kernel
theorem dX3_letPass_18 : decode cX3_letPass 18 = .ok (.iadd, 1) := by decide +kernel
theorem dX3_letPass_19 : decode cX3_letPass 19 = .ok (.sipush 9999, 3) := by decide +kernel
theorem dX3_letPass_22 : decode cX3_letPass 22 = .ok (.if_icmp .le 6, 3) := by decide +kernel
theorem dX3_letPass_25 : decode cX3_letPass 25 = .ok (.bipush (-3), 2) := by decide +kernel
theorem dX3_letPass_27 : decode cX3_letPass 27 = .ok (.ireturn, 1) := by decide +kernel
theorem dX3_letPass_28 : decode cX3_letPass 28 = .ok (.aload_n 0, 1) := by decide +kernel
theorem dX3_letPass_29 : decode cX3_letPass 29 = .ok (.getfield 12, 3) := by decide +kernel
theorem dX3_letPass_32 : decode cX3_letPass 32 = .ok (.getfield 129, 3) := by decide +kernel
theorem dX3_letPass_35 : decode cX3_letPass 35 = .ok (.istore_n 2, 1) := by decide +kernel
theorem dX3_letPass_36 : decode cX3_letPass 36 = .ok (.iconst 0, 1) := by decide +kernel
theorem dX3_letPass_37 : decode cX3_letPass 37 = .ok (.istore_n 3, 1) := by decide +kernel
theorem dX3_letPass_38 : decode cX3_letPass 38 = .ok (.iload_n 3, 1) := by decide +kernel
theorem dX3_letPass_39 : decode cX3_letPass 39 = .ok (.iload_n 1, 1) := by decide +kernel
theorem dX3_letPass_40 : decode cX3_letPass 40 = .ok (.if_icmp .ge 13, 3) := by decide +kernel
theorem dX3_letPass_43 : decode cX3_letPass 43 = .ok (.aload_n 0, 1) := by decide +kernel
theorem dX3_letPass_44 : decode cX3_letPass 44 = .ok (.invokevirtual 132, 3) := by decide +kernel
theorem dX3_letPass_47 : decode cX3_letPass 47 = .ok (.iinc 3 1, 3) := by decide +kernel
theorem dX3_letPass_50 : decode cX3_letPass 50 = .ok (.goto (-12), 3) := by decide +kernel
theorem dX3_letPass_53 : decode cX3_letPass 53 = .ok (.aload_n 0, 1) := by decide +kernel
theorem dX3_letPass_54 : decode cX3_letPass 54 = .ok (.getfield 12, 3) := by decide +kernel
theorem dX3_letPass_57 : decode cX3_letPass 57 = .ok (.getfield 129, 3) := by decide +kernel
theorem dX3_letPass_60 : decode cX3_letPass 60 = .ok (.iload_n 2, 1) := by decide +kernel
theorem dX3_letPass_61 : decode cX3_letPass 61 = .ok (.isub, 1) := by decide +kernel
theorem dX3_letPass_62 : decode cX3_letPass 62 = .ok (.ireturn, 1) := by decide +kernel
theorem dX3_letOnePass_0 : decode cX3_letOnePass 0 = .ok (.aload_n 0, 1) := by decide +kernel
theorem dX3_letOnePass_1 : decode cX3_letOnePass 1 = .ok (.invokevirtual 135, 3) := by decide +kernel
theorem dX3_letOnePass_4 : decode cX3_letOnePass 4 = .ok (.aload_n 0, 1) := by decide +kernel
theorem dX3_letOnePass_5 : decode cX3_letOnePass 5 = .ok (.invokevirtual 138, 3) := by decide +kernel
theorem dX3_letOnePass_8 : decode cX3_letOnePass 8 = .ok (.istore_n 1, 1) := by decide +kernel
theorem dX3_letOnePass_9 : decode cX3_letOnePass 9 = .ok (.iconst (-1), 1) := by decide +kernel
theorem dX3_letOnePass_10 : decode cX3_letOnePass 10 = .ok (.istore_n 2, 1) := by decide +kernel
theorem dX3_letOnePass_11 : decode cX3_letOnePass 11 = .ok (.iconst 0, 1) := by decide +kernel
theorem dX3_letOnePass_12 : decode cX3_letOnePass 12 = .ok (.istore_n 3, 1) := by decide +kernel
theorem dX3_letOnePass_13 : decode cX3_letOnePass 13 = .ok (.iload_n 3, 1) := by decide +kernel
theorem dX3_letOnePass_14 : decode cX3_letOnePass 14 = .ok (.iload_n 1, 1) := by decide +kernel
theorem dX3_letOnePass_15 : decode cX3_letOnePass 15 = .ok (.if_icmp .ge 42, 3) := by decide +kernel
theorem dX3_letOnePass_18 : decode cX3_letOnePass 18 = .ok (.aload_n 0, 1) := by decide +kernel
theorem dX3_letOnePass_19 : decode cX3_letOnePass 19 = .ok (.aload_n 0, 1) := by decide +kernel
theorem dX3_letOnePass_20 : decode cX3_letOnePass 20 = .ok (.getfield 32, 3) := by decide +kernel
theorem dX3_letOnePass_23 : decode cX3_letOnePass 23 = .ok (.iload_n 3, 1) := by decide +kernel
theorem dX3_letOnePass_24 : decode cX3_letOnePass 24 = .ok (.iaload, 1) := by decide +kernel
theorem dX3_letOnePass_25 : decode cX3_letOnePass 25 = .ok (.invokevirtual 141, 3) := by decide +kernel
theorem dX3_letOnePass_28 : decode cX3_letOnePass 28 = .ok (.ifCond .eq 23, 3) := by decide +kernel
theorem dX3_letOnePass_31 : decode cX3_letOnePass 31 = .ok (.iload_n 2, 1) := by decide +kernel
theorem dX3_letOnePass_32 : decode cX3_letOnePass 32 = .ok (.iconst (-1), 1) := by decide +kernel
theorem dX3_letOnePass_33 : decode cX3_letOnePass 33 = .ok (.if_icmp .ne 18, 3) := by decide +kernel
theorem dX3_letOnePass_36 : decode cX3_letOnePass 36 = .ok (.aload_n 0, 1) := by decide +kernel
theorem dX3_letOnePass_37 : decode cX3_letOnePass 37 = .ok (.getfield 12, 3) := by decide +kernel
theorem dX3_letOnePass_40 : decode cX3_letOnePass 40 = .ok (.getfield 144, 3) := by decide +kernel
theorem dX3_letOnePass_43 : decode cX3_letOnePass 43 = .ok (.aload_n 0, 1) := by decide +kernel
theorem dX3_letOnePass_44 : decode cX3_letOnePass 44 = .ok (.getfield 32, 3) := by decide +kernel
theorem dX3_letOnePass_47 : decode cX3_letOnePass 47 = .ok (.iload_n 3, 1) := by decide +kernel
theorem dX3_letOnePass_48 : decode cX3_letOnePass 48 = .ok (.iaload, 1) := by decide +kernel
theorem dX3_letOnePass_49 : decode cX3_letOnePass 49 = .ok (.iaload, 1) := by decide +kernel
theorem dX3_letOnePass_50 : decode cX3_letOnePass 50 = .ok (.istore_n 2, 1) := by decide +kernel
theorem dX3_letOnePass_51 : decode cX3_letOnePass 51 = .ok (.iinc 3 1, 3) := by decide +kernel
theorem dX3_letOnePass_54 : decode cX3_letOnePass 54 = .ok (.goto (-41), 3) := by decide +kernel
theorem dX3_letOnePass_57 : decode cX3_letOnePass 57 = .ok (.aload_n 0, 1) := by decide +kernel
theorem dX3_letOnePass_58 : decode cX3_letOnePass 58 = .ok (.getfield 39, 3) := by decide +kernel
theorem dX3_letOnePass_61 : decode cX3_letOnePass 61 = .ok (.iconst 1, 1) := by decide +kernel
theorem dX3_letOnePass_62 : decode cX3_letOnePass 62 = .ok (.if_icmp .ne 21, 3) := by decide +kernel
theorem dX3_letOnePass_65 : decode cX3_letOnePass 65 = .ok (.iload_n 2, 1) := by decide +kernel
theorem dX3_letOnePass_66 : decode cX3_letOnePass 66 = .ok (.iconst (-1), 1) := by decide +kernel
theorem dX3_letOnePass_67 : decode cX3_letOnePass 67 = .ok (.if_icmp .eq 16, 3) := by decide +kernel
theorem dX3_letOnePass_70 : decode cX3_letOnePass 70 = .ok (.aload_n 0, 1) := by decide +kernel
theorem dX3_letOnePass_71 : decode cX3_letOnePass 71 = .ok (.getfield 21, 3) := by decide +kernel
theorem dX3_letOnePass_74 : decode cX3_letOnePass 74 = .ok (.iload_n 2, 1) := by decide +kernel
theorem dX3_letOnePass_75 : decode cX3_letOnePass 75 = .ok (.iconst 1, 1) := by decide +kernel
theorem dX3_letOnePass_76 : decode cX3_letOnePass 76 = .ok (.iadd, 1) := by decide +kernel
theorem dX3_letOnePass_77 : decode cX3_letOnePass 77 = .ok (.bipush 8, 2) := by decide +kernel
theorem dX3_letOnePass_79 : decode cX3_letOnePass 79 = .ok (.irem, 1) := by decide +kernel
theorem dX3_letOnePass_80 : decode cX3_letOnePass 80 = .ok (.putfield 147, 3) := by decide +kernel
theorem dX3_letOnePass_83 : decode cX3_letOnePass 83 = .ok (.aload_n 0, 1) := by decide +kernel
theorem dX3_letOnePass_84 : decode cX3_letOnePass 84 = .ok (.getfield 12, 3) := by decide +kernel
theorem dX3_letOnePass_87 : decode cX3_letOnePass 87 = .ok (.invokevirtual 150, 3) := by decide +kernel
theorem dX3_letOnePass_90 : decode cX3_letOnePass 90 = .ok (.aload_n 0, 1) := by decide +kernel
theorem dX3_letOnePass_91 : decode cX3_letOnePass 91 = .ok (.dup, 1) := by decide +kernel
theorem dX3_letOnePass_92 : decode cX3_letOnePass 92 = .ok (.getfield 42, 3) := by decide +kernel
theorem dX3_letOnePass_95 : decode cX3_letOnePass 95 = .ok (.iconst 1, 1) := by decide +kernel
theorem dX3_letOnePass_96 : decode cX3_letOnePass 96 = .ok (.iadd, 1) := by decide +kernel
theorem dX3_letOnePass_97 : decode cX3_letOnePass 97 = .ok (.putfield 42, 3) := by decide +kernel
theorem dX3_letOnePass_100 : decode cX3_letOnePass 100 = .ok (.return_, 1) := by decide +kernel
theorem dX3_tellDue_0 : decode cX3_tellDue 0 = .ok (.iconst 0, 1) := by decide +kernel
theorem dX3_tellDue_1 : decode cX3_tellDue 1 = .ok (.istore_n 1, 1) := by decide +kernel
theorem dX3_tellDue_2 : decode cX3_tellDue 2 = .ok (.iload_n 1, 1) := by decide +kernel
theorem dX3_tellDue_3 : decode cX3_tellDue 3 = .ok (.aload_n 0, 1) := by decide +kernel
theorem dX3_tellDue_4 : decode cX3_tellDue 4 = .ok (.getfield 12, 3) := by decide +kernel
theorem dX3_tellDue_7 : decode cX3_tellDue 7 = .ok (.getfield 153, 3) := by decide +kernel
theorem dX3_tellDue_10 : decode cX3_tellDue 10 = .ok (.if_icmp .ge 85, 3) := by decide +kernel
theorem dX3_tellDue_13 : decode cX3_tellDue 13 = .ok (.aload_n 0, 1) := by decide +kernel
theorem dX3_tellDue_14 : decode cX3_tellDue 14 = .ok (.getfield 12, 3) := by decide +kernel
theorem dX3_tellDue_17 : decode cX3_tellDue 17 = .ok (.getfield 156, 3) := by decide +kernel
theorem dX3_tellDue_20 : decode cX3_tellDue 20 = .ok (.iload_n 1, 1) := by decide +kernel
theorem dX3_tellDue_21 : decode cX3_tellDue 21 = .ok (.iaload, 1) := by decide +kernel
theorem dX3_tellDue_22 : decode cX3_tellDue 22 = .ok (.istore_n 2, 1) := by decide +kernel
theorem dX3_tellDue_23 : decode cX3_tellDue 23 = .ok (.aload_n 0, 1) := by decide +kernel
theorem dX3_tellDue_24 : decode cX3_tellDue 24 = .ok (.getfield 12, 3) := by decide +kernel
theorem dX3_tellDue_27 : decode cX3_tellDue 27 = .ok (.getfield 159, 3) := by decide +kernel
theorem dX3_tellDue_30 : decode cX3_tellDue 30 = .ok (.iload_n 2, 1) := by decide +kernel
theorem dX3_tellDue_31 : decode cX3_tellDue 31 = .ok (.iaload, 1) := by decide +kernel
theorem dX3_tellDue_32 : decode cX3_tellDue 32 = .ok (.iconst 1, 1) := by decide +kernel
theorem dX3_tellDue_33 : decode cX3_tellDue 33 = .ok (.if_icmp .ne 56, 3) := by decide +kernel
theorem dX3_tellDue_36 : decode cX3_tellDue 36 = .ok (.aload_n 0, 1) := by decide +kernel
theorem dX3_tellDue_37 : decode cX3_tellDue 37 = .ok (.getfield 12, 3) := by decide +kernel
theorem dX3_tellDue_40 : decode cX3_tellDue 40 = .ok (.getfield 160, 3) := by decide +kernel
theorem dX3_tellDue_43 : decode cX3_tellDue 43 = .ok (.iload_n 2, 1) := by decide +kernel
theorem dX3_tellDue_44 : decode cX3_tellDue 44 = .ok (.iaload, 1) := by decide +kernel
theorem dX3_tellDue_45 : decode cX3_tellDue 45 = .ok (.aload_n 0, 1) := by decide +kernel
theorem dX3_tellDue_46 : decode cX3_tellDue 46 = .ok (.getfield 42, 3) := by decide +kernel
theorem dX3_tellDue_49 : decode cX3_tellDue 49 = .ok (.if_icmp .ne 40, 3) := by decide +kernel
theorem dX3_tellDue_52 : decode cX3_tellDue 52 = .ok (.aload_n 0, 1) := by decide +kernel
theorem dX3_tellDue_53 : decode cX3_tellDue 53 = .ok (.getfield 12, 3) := by decide +kernel
theorem dX3_tellDue_56 : decode cX3_tellDue 56 = .ok (.iload_n 2, 1) := by decide +kernel
theorem dX3_tellDue_57 : decode cX3_tellDue 57 = .ok (.invokevirtual 163, 3) := by decide +kernel
theorem dX3_tellDue_60 : decode cX3_tellDue 60 = .ok (.ifCond .eq 21, 3) := by decide +kernel
theorem dX3_tellDue_63 : decode cX3_tellDue 63 = .ok (.aload_n 0, 1) := by decide +kernel
theorem dX3_tellDue_64 : decode cX3_tellDue 64 = .ok (.getfield 29, 3) := by decide +kernel
theorem dX3_tellDue_67 : decode cX3_tellDue 67 = .ok (.aload_n 0, 1) := by decide +kernel
theorem dX3_tellDue_68 : decode cX3_tellDue 68 = .ok (.getfield 12, 3) := by decide +kernel
theorem dX3_tellDue_71 : decode cX3_tellDue 71 = .ok (.getfield 166, 3) := by decide +kernel
theorem dX3_tellDue_74 : decode cX3_tellDue 74 = .ok (.iload_n 2, 1) := by decide +kernel
theorem dX3_tellDue_75 : decode cX3_tellDue 75 = .ok (.iaload, 1) := by decide +kernel
theorem dX3_tellDue_76 : decode cX3_tellDue 76 = .ok (.dup2, 1) := by decide +kernel
theorem dX3_tellDue_77 : decode cX3_tellDue 77 = .ok (.iaload, 1) := by decide +kernel
theorem dX3_tellDue_78 : decode cX3_tellDue 78 = .ok (.iconst 1, 1) := by decide +kernel
theorem dX3_tellDue_79 : decode cX3_tellDue 79 = .ok (.iadd, 1) := by decide +kernel
theorem dX3_tellDue_80 : decode cX3_tellDue 80 = .ok (.iastore, 1) := by decide +kernel
theorem dX3_tellDue_81 : decode cX3_tellDue 81 = .ok (.aload_n 0, 1) := by decide +kernel
theorem dX3_tellDue_82 : decode cX3_tellDue 82 = .ok (.getfield 12, 3) := by decide +kernel
theorem dX3_tellDue_85 : decode cX3_tellDue 85 = .ok (.iload_n 2, 1) := by decide +kernel
theorem dX3_tellDue_86 : decode cX3_tellDue 86 = .ok (.invokevirtual 169, 3) := by decide +kernel
theorem dX3_tellDue_89 : decode cX3_tellDue 89 = .ok (.iinc 1 1, 3) := by decide +kernel
theorem dX3_tellDue_92 : decode cX3_tellDue 92 = .ok (.goto (-90), 3) := by decide +kernel
theorem dX3_tellDue_95 : decode cX3_tellDue 95 = .ok (.return_, 1) := by decide +kernel
theorem dX3_putInOrder_0 : decode cX3_putInOrder 0 = .ok (.aload_n 0, 1) := by decide +kernel
theorem dX3_putInOrder_1 : decode cX3_putInOrder 1 = .ok (.getfield 39, 3) := by decide +kernel
theorem dX3_putInOrder_4 : decode cX3_putInOrder 4 = .ok (.iconst 1, 1) := by decide +kernel
theorem dX3_putInOrder_5 : decode cX3_putInOrder 5 = .ok (.if_icmp .ne 8, 3) := by decide +kernel
theorem dX3_putInOrder_8 : decode cX3_putInOrder 8 = .ok (.bipush 8, 2) := by decide +kernel
theorem dX3_putInOrder_10 : decode cX3_putInOrder 10 = .ok (.goto 4, 3) := by decide +kernel
theorem dX3_putInOrder_13 : decode cX3_putInOrder 13 = .ok (.iconst 1, 1) := by decide +kernel
theorem dX3_putInOrder_14 : decode cX3_putInOrder 14 = .ok (.istore_n 1, 1) := by decide +kernel
theorem dX3_putInOrder_15 : decode cX3_putInOrder 15 = .ok (.iconst 0, 1) := by decide +kernel
theorem dX3_putInOrder_16 : decode cX3_putInOrder 16 = .ok (.istore_n 2, 1) := by decide +kernel
theorem dX3_putInOrder_17 : decode cX3_putInOrder 17 = .ok (.iconst 0, 1) := by decide +kernel
theorem dX3_putInOrder_18 : decode cX3_putInOrder 18 = .ok (.istore_n 3, 1) := by decide +kernel
theorem dX3_putInOrder_19 : decode cX3_putInOrder 19 = .ok (.iload_n 3, 1) := by decide +kernel
theorem dX3_putInOrder_20 : decode cX3_putInOrder 20 = .ok (.iload_n 1, 1) := by decide +kernel
theorem dX3_putInOrder_21 : decode cX3_putInOrder 21 = .ok (.if_icmp .ge 120, 3) := by decide +kernel
theorem dX3_putInOrder_24 : decode cX3_putInOrder 24 = .ok (.aload_n 0, 1) := by decide +kernel
theorem dX3_putInOrder_25 : decode cX3_putInOrder 25 = .ok (.getfield 21, 3) := by decide +kernel
theorem dX3_putInOrder_28 : decode cX3_putInOrder 28 = .ok (.getfield 147, 3) := by decide +kernel
theorem dX3_putInOrder_31 : decode cX3_putInOrder 31 = .ok (.iload_n 3, 1) := by decide +kernel
theorem dX3_putInOrder_32 : decode cX3_putInOrder 32 = .ok (.iadd, 1) := by decide +kernel
theorem dX3_putInOrder_33 : decode cX3_putInOrder 33 = .ok (.bipush 8, 2) := by decide +kernel
theorem dX3_putInOrder_35 : decode cX3_putInOrder 35 = .ok (.irem, 1) := by decide +kernel
theorem dX3_putInOrder_36 : decode cX3_putInOrder 36 = .ok (.istore 4, 2) := by decide +kernel
theorem dX3_putInOrder_38 : decode cX3_putInOrder 38 = .ok (.iconst 0, 1) := by decide +kernel
theorem dX3_putInOrder_39 : decode cX3_putInOrder 39 = .ok (.istore 5, 2) := by decide +kernel
theorem dX3_putInOrder_41 : decode cX3_putInOrder 41 = .ok (.iload 5, 2) := by decide +kernel
theorem dX3_putInOrder_43 : decode cX3_putInOrder 43 = .ok (.aload_n 0, 1) := by decide +kernel
theorem dX3_putInOrder_44 : decode cX3_putInOrder 44 = .ok (.getfield 12, 3) := by decide +kernel
theorem dX3_putInOrder_47 : decode cX3_putInOrder 47 = .ok (.getfield 153, 3) := by decide +kernel
theorem dX3_putInOrder_50 : decode cX3_putInOrder 50 = .ok (.if_icmp .ge 85, 3) := by decide +kernel
theorem dX3_putInOrder_53 : decode cX3_putInOrder 53 = .ok (.aload_n 0, 1) := by decide +kernel
theorem dX3_putInOrder_54 : decode cX3_putInOrder 54 = .ok (.getfield 12, 3) := by decide +kernel
theorem dX3_putInOrder_57 : decode cX3_putInOrder 57 = .ok (.getfield 156, 3) := by decide +kernel
theorem dX3_putInOrder_60 : decode cX3_putInOrder 60 = .ok (.iload 5, 2) := by decide +kernel
theorem dX3_putInOrder_62 : decode cX3_putInOrder 62 = .ok (.iaload, 1) := by decide +kernel
theorem dX3_putInOrder_63 : decode cX3_putInOrder 63 = .ok (.istore 6, 2) := by decide +kernel
theorem dX3_putInOrder_65 : decode cX3_putInOrder 65 = .ok (.aload_n 0, 1) := by decide +kernel
theorem dX3_putInOrder_66 : decode cX3_putInOrder 66 = .ok (.getfield 39, 3) := by decide +kernel
theorem dX3_putInOrder_69 : decode cX3_putInOrder 69 = .ok (.ifCond .eq 18, 3) := by decide +kernel
theorem dX3_putInOrder_72 : decode cX3_putInOrder 72 = .ok (.aload_n 0, 1) := by decide +kernel
theorem dX3_putInOrder_73 : decode cX3_putInOrder 73 = .ok (.getfield 12, 3) := by decide +kernel
theorem dX3_putInOrder_76 : decode cX3_putInOrder 76 = .ok (.getfield 144, 3) := by decide +kernel
theorem dX3_putInOrder_79 : decode cX3_putInOrder 79 = .ok (.iload 6, 2) := by decide +kernel
theorem dX3_putInOrder_81 : decode cX3_putInOrder 81 = .ok (.iaload, 1) := by decide +kernel
theorem dX3_putInOrder_82 : decode cX3_putInOrder 82 = .ok (.iload 4, 2) := by decide +kernel
theorem dX3_putInOrder_84 : decode cX3_putInOrder 84 = .ok (.if_icmp .ne 7, 3) := by decide +kernel
theorem dX3_putInOrder_87 : decode cX3_putInOrder 87 = .ok (.iconst 1, 1) := by decide +kernel
theorem dX3_putInOrder_88 : decode cX3_putInOrder 88 = .ok (.goto 4, 3) := by decide +kernel
theorem dX3_putInOrder_91 : decode cX3_putInOrder 91 = .ok (.iconst 0, 1) := by decide +kernel
theorem dX3_putInOrder_92 : decode cX3_putInOrder 92 = .ok (.istore 7, 2) := by decide +kernel
theorem dX3_putInOrder_94 : decode cX3_putInOrder 94 = .ok (.iload 7, 2) := by decide +kernel
theorem dX3_putInOrder_96 : decode cX3_putInOrder 96 = .ok (.ifCond .eq 33, 3) := by decide +kernel
theorem dX3_putInOrder_99 : decode cX3_putInOrder 99 = .ok (.aload_n 0, 1) := by decide +kernel
theorem dX3_putInOrder_100 : decode cX3_putInOrder 100 = .ok (.getfield 12, 3) := by decide +kernel
theorem dX3_putInOrder_103 : decode cX3_putInOrder 103 = .ok (.getfield 159, 3) := by decide +kernel
theorem dX3_putInOrder_106 : decode cX3_putInOrder 106 = .ok (.iload 6, 2) := by decide +kernel
theorem dX3_putInOrder_108 : decode cX3_putInOrder 108 = .ok (.iaload, 1) := by decide +kernel
theorem dX3_putInOrder_109 : decode cX3_putInOrder 109 = .ok (.ifCond .ne 20, 3) := by decide +kernel
theorem dX3_putInOrder_112 : decode cX3_putInOrder 112 = .ok (.iload_n 2, 1) := by decide +kernel
theorem dX3_putInOrder_113 : decode cX3_putInOrder 113 = .ok (.bipush 33, 2) := by decide +kernel
theorem dX3_putInOrder_115 : decode cX3_putInOrder 115 = .ok (.if_icmp .ge 14, 3) := by decide +kernel
theorem dX3_putInOrder_118 : decode cX3_putInOrder 118 = .ok (.aload_n 0, 1) := by decide +kernel
theorem dX3_putInOrder_119 : decode cX3_putInOrder 119 = .ok (.getfield 32, 3) := by decide +kernel
theorem dX3_putInOrder_122 : decode cX3_putInOrder 122 = .ok (.iload_n 2, 1) := by decide +kernel
theorem dX3_putInOrder_123 : decode cX3_putInOrder 123 = .ok (.iload 6, 2) := by decide +kernel
theorem dX3_putInOrder_125 : decode cX3_putInOrder 125 = .ok (.iastore, 1) := by decide +kernel
theorem dX3_putInOrder_126 : decode cX3_putInOrder 126 = .ok (.iinc 2 1, 3) := by decide +kernel
theorem dX3_putInOrder_129 : decode cX3_putInOrder 129 = .ok (.iinc 5 1, 3) := by decide +kernel
theorem dX3_putInOrder_132 : decode cX3_putInOrder 132 = .ok (.goto (-91), 3) := by decide +kernel
theorem dX3_putInOrder_135 : decode cX3_putInOrder 135 = .ok (.iinc 3 1, 3) := by decide +kernel
theorem dX3_putInOrder_138 : decode cX3_putInOrder 138 = .ok (.goto (-119), 3) := by decide +kernel
theorem dX3_putInOrder_141 : decode cX3_putInOrder 141 = .ok (.iload_n 2, 1) := by decide +kernel
theorem dX3_putInOrder_142 : decode cX3_putInOrder 142 = .ok (.ireturn, 1) := by decide +kernel
theorem dX3_hasBegun_0 : decode cX3_hasBegun 0 = .ok (.aload_n 0, 1) := by decide +kernel
theorem dX3_hasBegun_1 : decode cX3_hasBegun 1 = .ok (.getfield 12, 3) := by decide +kernel
theorem dX3_hasBegun_4 : decode cX3_hasBegun 4 = .ok (.getfield 144, 3) := by decide +kernel
theorem dX3_hasBegun_7 : decode cX3_hasBegun 7 = .ok (.iload_n 1, 1) := by decide +kernel
theorem dX3_hasBegun_8 : decode cX3_hasBegun 8 = .ok (.iaload, 1) := by decide +kernel
theorem dX3_hasBegun_9 : decode cX3_hasBegun 9 = .ok (.istore_n 2, 1) := by decide +kernel
theorem dX3_hasBegun_10 : decode cX3_hasBegun 10 = .ok (.aload_n 0, 1) := by decide +kernel
theorem dX3_hasBegun_11 : decode cX3_hasBegun 11 = .ok (.getfield 21, 3) := by decide +kernel
theorem dX3_hasBegun_14 : decode cX3_hasBegun 14 = .ok (.getfield 93, 3) := by decide +kernel
theorem dX3_hasBegun_17 : decode cX3_hasBegun 17 = .ok (.iload_n 2, 1) := by decide +kernel
theorem dX3_hasBegun_18 : decode cX3_hasBegun 18 = .ok (.iaload, 1) := by decide +kernel
theorem dX3_hasBegun_19 : decode cX3_hasBegun 19 = .ok (.iconst 3, 1) := by decide +kernel
theorem dX3_hasBegun_20 : decode cX3_hasBegun 20 = .ok (.if_icmp .ne 14, 3) := by decide +kernel
theorem dX3_hasBegun_23 : decode cX3_hasBegun 23 = .ok (.aload_n 0, 1) := by decide +kernel
theorem dX3_hasBegun_24 : decode cX3_hasBegun 24 = .ok (.getfield 12, 3) := by decide +kernel
theorem dX3_hasBegun_27 : decode cX3_hasBegun 27 = .ok (.iload_n 1, 1) := by decide +kernel
theorem dX3_hasBegun_28 : decode cX3_hasBegun 28 = .ok (.iconst 1, 1) := by decide +kernel
theorem dX3_hasBegun_29 : decode cX3_hasBegun 29 = .ok (.invokevirtual 172, 3) := by decide +kernel
theorem dX3_hasBegun_32 : decode cX3_hasBegun 32 = .ok (.iconst 0, 1) := by decide +kernel
theorem dX3_hasBegun_33 : decode cX3_hasBegun 33 = .ok (.ireturn, 1) := by decide +kernel
theorem dX3_hasBegun_34 : decode cX3_hasBegun 34 = .ok (.aload_n 0, 1) := by decide +kernel
theorem dX3_hasBegun_35 : decode cX3_hasBegun 35 = .ok (.getfield 12, 3) := by decide +kernel
theorem dX3_hasBegun_38 : decode cX3_hasBegun 38 = .ok (.iconst 1, 1) := by decide +kernel
theorem dX3_hasBegun_39 : decode cX3_hasBegun 39 = .ok (.invokevirtual 176, 3) := by decide +kernel
theorem dX3_hasBegun_42 : decode cX3_hasBegun 42 = .ok (.aload_n 0, 1) := by decide +kernel
theorem dX3_hasBegun_43 : decode cX3_hasBegun 43 = .ok (.getfield 35, 3) := by decide +kernel
theorem dX3_hasBegun_46 : decode cX3_hasBegun 46 = .ok (.if_icmp .lt 5, 3) := by decide +kernel
theorem dX3_hasBegun_49 : decode cX3_hasBegun 49 = .ok (.iconst 0, 1) := by decide +kernel
theorem dX3_hasBegun_50 : decode cX3_hasBegun 50 = .ok (.ireturn, 1) := by decide +kernel
theorem dX3_hasBegun_51 : decode cX3_hasBegun 51 = .ok (.aload_n 0, 1) := by decide +kernel
theorem dX3_hasBegun_52 : decode cX3_hasBegun 52 = .ok (.getfield 21, 3) := by decide +kernel
theorem dX3_hasBegun_55 : decode cX3_hasBegun 55 = .ok (.getfield 93, 3) := by decide +kernel
theorem dX3_hasBegun_58 : decode cX3_hasBegun 58 = .ok (.iload_n 2, 1) := by decide +kernel
theorem dX3_hasBegun_59 : decode cX3_hasBegun 59 = .ok (.iaload, 1) := by decide +kernel
theorem dX3_hasBegun_60 : decode cX3_hasBegun 60 = .ok (.iconst 1, 1) := by decide +kernel
theorem dX3_hasBegun_61 : decode cX3_hasBegun 61 = .ok (.if_icmp .eq 13, 3) := by decide +kernel
theorem dX3_hasBegun_64 : decode cX3_hasBegun 64 = .ok (.aload_n 0, 1) := by decide +kernel
theorem dX3_hasBegun_65 : decode cX3_hasBegun 65 = .ok (.iload_n 2, 1) := by decide +kernel
theorem dX3_hasBegun_66 : decode cX3_hasBegun 66 = .ok (.invokevirtual 179, 3) := by decide +kernel
theorem dX3_hasBegun_69 : decode cX3_hasBegun 69 = .ok (.ifCond .ne 5, 3) := by decide +kernel
theorem dX3_hasBegun_72 : decode cX3_hasBegun 72 = .ok (.iconst 0, 1) := by decide +kernel
theorem dX3_hasBegun_73 : decode cX3_hasBegun 73 = .ok (.ireturn, 1) := by decide +kernel
theorem dX3_hasBegun_74 : decode cX3_hasBegun 74 = .ok (.aload_n 0, 1) := by decide +kernel
theorem dX3_hasBegun_75 : decode cX3_hasBegun 75 = .ok (.getfield 21, 3) := by decide +kernel
theorem dX3_hasBegun_78 : decode cX3_hasBegun 78 = .ok (.iload_n 2, 1) := by decide +kernel
theorem dX3_hasBegun_79 : decode cX3_hasBegun 79 = .ok (.invokevirtual 182, 3) := by decide +kernel
theorem dX3_hasBegun_82 : decode cX3_hasBegun 82 = .ok (.istore_n 3, 1) := by decide +kernel
theorem dX3_hasBegun_83 : decode cX3_hasBegun 83 = .ok (.aload_n 0, 1) := by decide +kernel
theorem dX3_hasBegun_84 : decode cX3_hasBegun 84 = .ok (.getfield 42, 3) := by decide +kernel
theorem dX3_hasBegun_87 : decode cX3_hasBegun 87 = .ok (.aload_n 0, 1) := by decide +kernel
theorem dX3_hasBegun_88 : decode cX3_hasBegun 88 = .ok (.getfield 21, 3) := by decide +kernel
theorem dX3_hasBegun_91 : decode cX3_hasBegun 91 = .ok (.getfield 90, 3) := by decide +kernel
theorem dX3_hasBegun_94 : decode cX3_hasBegun 94 = .ok (.iload_n 2, 1) := by decide +kernel
theorem dX3_hasBegun_95 : decode cX3_hasBegun 95 = .ok (.iaload, 1) := by decide +kernel
theorem dX3_hasBegun_96 : decode cX3_hasBegun 96 = .ok (.iadd, 1) := by decide +kernel
theorem dX3_hasBegun_97 : decode cX3_hasBegun 97 = .ok (.iload_n 3, 1) := by decide +kernel
theorem dX3_hasBegun_98 : decode cX3_hasBegun 98 = .ok (.iconst 2, 1) := by decide +kernel
theorem dX3_hasBegun_99 : decode cX3_hasBegun 99 = .ok (.irem, 1) := by decide +kernel
theorem dX3_hasBegun_100 : decode cX3_hasBegun 100 = .ok (.iadd, 1) := by decide +kernel
theorem dX3_hasBegun_101 : decode cX3_hasBegun 101 = .ok (.istore 4, 2) := by decide +kernel
theorem dX3_hasBegun_103 : decode cX3_hasBegun 103 = .ok (.aload_n 0, 1) := by decide +kernel
theorem dX3_hasBegun_104 : decode cX3_hasBegun 104 = .ok (.getfield 12, 3) := by decide +kernel
theorem dX3_hasBegun_107 : decode cX3_hasBegun 107 = .ok (.iload_n 1, 1) := by decide +kernel
theorem dX3_hasBegun_108 : decode cX3_hasBegun 108 = .ok (.iload_n 3, 1) := by decide +kernel
theorem dX3_hasBegun_109 : decode cX3_hasBegun 109 = .ok (.iload 4, 2) := by decide +kernel
theorem dX3_hasBegun_111 : decode cX3_hasBegun 111 = .ok (.aload_n 0, 1) := by decide +kernel
theorem dX3_hasBegun_112 : decode cX3_hasBegun 112 = .ok (.getfield 21, 3) := by decide +kernel
theorem dX3_hasBegun_115 : decode cX3_hasBegun 115 = .ok (.getfield 113, 3) := by decide +kernel
theorem dX3_hasBegun_118 : decode cX3_hasBegun 118 = .ok (.iload_n 2, 1) := by decide +kernel
theorem dX3_hasBegun_119 : decode cX3_hasBegun 119 = .ok (.iaload, 1) := by decide +kernel
theorem dX3_hasBegun_120 : decode cX3_hasBegun 120 = .ok (.invokevirtual 185, 3) := by decide +kernel
theorem dX3_hasBegun_123 : decode cX3_hasBegun 123 = .ok (.iconst 1, 1) := by decide +kernel
theorem dX3_hasBegun_124 : decode cX3_hasBegun 124 = .ok (.ireturn, 1) := by decide +kernel
theorem dX3_couldOpen_0 : decode cX3_couldOpen 0 = .ok (.aload_n 0, 1) := by decide +kernel
theorem dX3_couldOpen_1 : decode cX3_couldOpen 1 = .ok (.getfield 21, 3) := by decide +kernel
theorem dX3_couldOpen_4 : decode cX3_couldOpen 4 = .ok (.getfield 93, 3) := by decide +kernel
theorem dX3_couldOpen_7 : decode cX3_couldOpen 7 = .ok (.iload_n 1, 1) := by decide +kernel
theorem dX3_couldOpen_8 : decode cX3_couldOpen 8 = .ok (.iaload, 1) := by decide +kernel
theorem dX3_couldOpen_9 : decode cX3_couldOpen 9 = .ok (.ifCond .ne 22, 3) := by decide +kernel
theorem dX3_couldOpen_12 : decode cX3_couldOpen 12 = .ok (.aload_n 0, 1) := by decide +kernel
theorem dX3_couldOpen_13 : decode cX3_couldOpen 13 = .ok (.getfield 21, 3) := by decide +kernel
theorem dX3_couldOpen_16 : decode cX3_couldOpen 16 = .ok (.invokevirtual 82, 3) := by decide +kernel
theorem dX3_couldOpen_19 : decode cX3_couldOpen 19 = .ok (.aload_n 0, 1) := by decide +kernel
theorem dX3_couldOpen_20 : decode cX3_couldOpen 20 = .ok (.getfield 21, 3) := by decide +kernel
theorem dX3_couldOpen_23 : decode cX3_couldOpen 23 = .ok (.getfield 79, 3) := by decide +kernel
theorem dX3_couldOpen_26 : decode cX3_couldOpen 26 = .ok (.if_icmp .lt 5, 3) := by decide +kernel
theorem dX3_couldOpen_29 : decode cX3_couldOpen 29 = .ok (.iconst 0, 1) := by decide +kernel
theorem dX3_couldOpen_30 : decode cX3_couldOpen 30 = .ok (.ireturn, 1) := by decide +kernel
theorem dX3_couldOpen_31 : decode cX3_couldOpen 31 = .ok (.aload_n 0, 1) := by decide +kernel
theorem dX3_couldOpen_32 : decode cX3_couldOpen 32 = .ok (.getfield 21, 3) := by decide +kernel
theorem dX3_couldOpen_35 : decode cX3_couldOpen 35 = .ok (.iconst 1, 1) := by decide +kernel
theorem dX3_couldOpen_36 : decode cX3_couldOpen 36 = .ok (.invokevirtual 76, 3) := by decide +kernel
theorem dX3_couldOpen_39 : decode cX3_couldOpen 39 = .ok (.aload_n 0, 1) := by decide +kernel
theorem dX3_couldOpen_40 : decode cX3_couldOpen 40 = .ok (.getfield 21, 3) := by decide +kernel
theorem dX3_couldOpen_43 : decode cX3_couldOpen 43 = .ok (.getfield 69, 3) := by decide +kernel
theorem dX3_couldOpen_46 : decode cX3_couldOpen 46 = .ok (.if_icmp .lt 38, 3) := by decide +kernel
theorem dX3_couldOpen_49 : decode cX3_couldOpen 49 = .ok (.aload_n 0, 1) := by decide +kernel
theorem dX3_couldOpen_50 : decode cX3_couldOpen 50 = .ok (.invokevirtual 189, 3) := by decide +kernel
theorem dX3_couldOpen_53 : decode cX3_couldOpen 53 = .ok (.istore_n 2, 1) := by decide +kernel
theorem dX3_couldOpen_54 : decode cX3_couldOpen 54 = .ok (.iload_n 2, 1) := by decide +kernel
theorem dX3_couldOpen_55 : decode cX3_couldOpen 55 = .ok (.iconst (-1), 1) := by decide +kernel
theorem dX3_couldOpen_56 : decode cX3_couldOpen 56 = .ok (.if_icmp .ne 5, 3) := by decide +kernel
theorem dX3_couldOpen_59 : decode cX3_couldOpen 59 = .ok (.iconst 0, 1) := by decide +kernel
theorem dX3_couldOpen_60 : decode cX3_couldOpen 60 = .ok (.ireturn, 1) := by decide +kernel
theorem dX3_couldOpen_61 : decode cX3_couldOpen 61 = .ok (.aload_n 0, 1) := by decide +kernel
theorem dX3_couldOpen_62 : decode cX3_couldOpen 62 = .ok (.getfield 21, 3) := by decide +kernel
theorem dX3_couldOpen_65 : decode cX3_couldOpen 65 = .ok (.getfield 93, 3) := by decide +kernel
theorem dX3_couldOpen_68 : decode cX3_couldOpen 68 = .ok (.iload_n 2, 1) := by decide +kernel
theorem dX3_couldOpen_69 : decode cX3_couldOpen 69 = .ok (.iconst 2, 1) := by decide +kernel
theorem dX3_couldOpen_70 : decode cX3_couldOpen 70 = .ok (.iastore, 1) := by decide +kernel
theorem dX3_couldOpen_71 : decode cX3_couldOpen 71 = .ok (.aload_n 0, 1) := by decide +kernel
theorem dX3_couldOpen_72 : decode cX3_couldOpen 72 = .ok (.getfield 21, 3) := by decide +kernel
theorem dX3_couldOpen_75 : decode cX3_couldOpen 75 = .ok (.dup, 1) := by decide +kernel
theorem dX3_couldOpen_76 : decode cX3_couldOpen 76 = .ok (.getfield 192, 3) := by decide +kernel
theorem dX3_couldOpen_79 : decode cX3_couldOpen 79 = .ok (.iconst 1, 1) := by decide +kernel
theorem dX3_couldOpen_80 : decode cX3_couldOpen 80 = .ok (.iadd, 1) := by decide +kernel
theorem dX3_couldOpen_81 : decode cX3_couldOpen 81 = .ok (.putfield 192, 3) := by decide +kernel
theorem dX3_couldOpen_84 : decode cX3_couldOpen 84 = .ok (.aload_n 0, 1) := by decide +kernel
theorem dX3_couldOpen_85 : decode cX3_couldOpen 85 = .ok (.getfield 21, 3) := by decide +kernel
theorem dX3_couldOpen_88 : decode cX3_couldOpen 88 = .ok (.getfield 93, 3) := by decide +kernel
theorem dX3_couldOpen_91 : decode cX3_couldOpen 91 = .ok (.iload_n 1, 1) := by decide +kernel
theorem dX3_couldOpen_92 : decode cX3_couldOpen 92 = .ok (.iconst 1, 1) := by decide +kernel
theorem dX3_couldOpen_93 : decode cX3_couldOpen 93 = .ok (.iastore, 1) := by decide +kernel
theorem dX3_couldOpen_94 : decode cX3_couldOpen 94 = .ok (.iconst 1, 1) := by decide +kernel
theorem dX3_couldOpen_95 : decode cX3_couldOpen 95 = .ok (.ireturn, 1) := by decide +kernel
theorem dX3_longestIdle_0 : decode cX3_longestIdle 0 = .ok (.iconst 0, 1) := by decide +kernel
theorem dX3_longestIdle_1 : decode cX3_longestIdle 1 = .ok (.istore_n 1, 1) := by decide +kernel
theorem dX3_longestIdle_2 : decode cX3_longestIdle 2 = .ok (.iconst 0, 1) := by decide +kernel
theorem dX3_longestIdle_3 : decode cX3_longestIdle 3 = .ok (.istore_n 2, 1) := by decide +kernel
theorem dX3_longestIdle_4 : decode cX3_longestIdle 4 = .ok (.iload_n 2, 1) := by decide +kernel
theorem dX3_longestIdle_5 : decode cX3_longestIdle 5 = .ok (.aload_n 0, 1) := by decide +kernel
theorem dX3_longestIdle_6 : decode cX3_longestIdle 6 = .ok (.getfield 12, 3) := by decide +kernel
theorem dX3_longestIdle_9 : decode cX3_longestIdle 9 = .ok (.getfield 153, 3) := by decide +kernel
theorem dX3_longestIdle_12 : decode cX3_longestIdle 12 = .ok (.if_icmp .ge 52, 3) := by decide +kernel
theorem dX3_longestIdle_15 : decode cX3_longestIdle 15 = .ok (.aload_n 0, 1) := by decide +kernel
theorem dX3_longestIdle_16 : decode cX3_longestIdle 16 = .ok (.getfield 12, 3) := by decide +kernel
theorem dX3_longestIdle_19 : decode cX3_longestIdle 19 = .ok (.getfield 159, 3) := by decide +kernel
theorem dX3_longestIdle_22 : decode cX3_longestIdle 22 = .ok (.aload_n 0, 1) := by decide +kernel
theorem dX3_longestIdle_23 : decode cX3_longestIdle 23 = .ok (.getfield 12, 3) := by decide +kernel
theorem dX3_longestIdle_26 : decode cX3_longestIdle 26 = .ok (.getfield 156, 3) := by decide +kernel
theorem dX3_longestIdle_29 : decode cX3_longestIdle 29 = .ok (.iload_n 2, 1) := by decide +kernel
theorem dX3_longestIdle_30 : decode cX3_longestIdle 30 = .ok (.iaload, 1) := by decide +kernel
theorem dX3_longestIdle_31 : decode cX3_longestIdle 31 = .ok (.iaload, 1) := by decide +kernel
theorem dX3_longestIdle_32 : decode cX3_longestIdle 32 = .ok (.iconst 1, 1) := by decide +kernel
theorem dX3_longestIdle_33 : decode cX3_longestIdle 33 = .ok (.if_icmp .ne 25, 3) := by decide +kernel
theorem dX3_longestIdle_36 : decode cX3_longestIdle 36 = .ok (.iload_n 1, 1) := by decide +kernel
theorem dX3_longestIdle_37 : decode cX3_longestIdle 37 = .ok (.iconst 1, 1) := by decide +kernel
theorem dX3_longestIdle_38 : decode cX3_longestIdle 38 = .ok (.aload_n 0, 1) := by decide +kernel
theorem dX3_longestIdle_39 : decode cX3_longestIdle 39 = .ok (.getfield 12, 3) := by decide +kernel
theorem dX3_longestIdle_42 : decode cX3_longestIdle 42 = .ok (.getfield 144, 3) := by decide +kernel
theorem dX3_longestIdle_45 : decode cX3_longestIdle 45 = .ok (.aload_n 0, 1) := by decide +kernel
theorem dX3_longestIdle_46 : decode cX3_longestIdle 46 = .ok (.getfield 12, 3) := by decide +kernel
theorem dX3_longestIdle_49 : decode cX3_longestIdle 49 = .ok (.getfield 156, 3) := by decide +kernel
theorem dX3_longestIdle_52 : decode cX3_longestIdle 52 = .ok (.iload_n 2, 1) := by decide +kernel
theorem dX3_longestIdle_53 : decode cX3_longestIdle 53 = .ok (.iaload, 1) := by decide +kernel
theorem dX3_longestIdle_54 : decode cX3_longestIdle 54 = .ok (.iaload, 1) := by decide +kernel
theorem dX3_longestIdle_55 : decode cX3_longestIdle 55 = .ok (.ishl, 1) := by decide +kernel
theorem dX3_longestIdle_56 : decode cX3_longestIdle 56 = .ok (.ior, 1) := by decide +kernel
theorem dX3_longestIdle_57 : decode cX3_longestIdle 57 = .ok (.istore_n 1, 1) := by decide +kernel
theorem dX3_longestIdle_58 : decode cX3_longestIdle 58 = .ok (.iinc 2 1, 3) := by decide +kernel
theorem dX3_longestIdle_61 : decode cX3_longestIdle 61 = .ok (.goto (-57), 3) := by decide +kernel
theorem dX3_longestIdle_64 : decode cX3_longestIdle 64 = .ok (.iconst (-1), 1) := by decide +kernel
theorem dX3_longestIdle_65 : decode cX3_longestIdle 65 = .ok (.istore_n 2, 1) := by decide +kernel
theorem dX3_longestIdle_66 : decode cX3_longestIdle 66 = .ok (.iconst 0, 1) := by decide +kernel
theorem dX3_longestIdle_67 : decode cX3_longestIdle 67 = .ok (.istore_n 3, 1) := by decide +kernel
theorem dX3_longestIdle_68 : decode cX3_longestIdle 68 = .ok (.iload_n 3, 1) := by decide +kernel
theorem dX3_longestIdle_69 : decode cX3_longestIdle 69 = .ok (.bipush 8, 2) := by decide +kernel
theorem dX3_longestIdle_71 : decode cX3_longestIdle 71 = .ok (.if_icmp .ge 70, 3) := by decide +kernel
theorem dX3_longestIdle_74 : decode cX3_longestIdle 74 = .ok (.aload_n 0, 1) := by decide +kernel
theorem dX3_longestIdle_75 : decode cX3_longestIdle 75 = .ok (.getfield 21, 3) := by decide +kernel
theorem dX3_longestIdle_78 : decode cX3_longestIdle 78 = .ok (.getfield 93, 3) := by decide +kernel
theorem dX3_longestIdle_81 : decode cX3_longestIdle 81 = .ok (.iload_n 3, 1) := by decide +kernel
theorem dX3_longestIdle_82 : decode cX3_longestIdle 82 = .ok (.iaload, 1) := by decide +kernel
theorem dX3_longestIdle_83 : decode cX3_longestIdle 83 = .ok (.iconst 1, 1) := by decide +kernel
theorem dX3_longestIdle_84 : decode cX3_longestIdle 84 = .ok (.if_icmp .ne 15, 3) := by decide +kernel
theorem dX3_longestIdle_87 : decode cX3_longestIdle 87 = .ok (.iload_n 1, 1) := by decide +kernel
theorem dX3_longestIdle_88 : decode cX3_longestIdle 88 = .ok (.iload_n 3, 1) := by decide +kernel
theorem dX3_longestIdle_89 : decode cX3_longestIdle 89 = .ok (.ishr, 1) := by decide +kernel
theorem dX3_longestIdle_90 : decode cX3_longestIdle 90 = .ok (.iconst 1, 1) := by decide +kernel
theorem dX3_longestIdle_91 : decode cX3_longestIdle 91 = .ok (.iand, 1) := by decide +kernel
theorem dX3_longestIdle_92 : decode cX3_longestIdle 92 = .ok (.ifCond .ne 7, 3) := by decide +kernel
theorem dX3_longestIdle_95 : decode cX3_longestIdle 95 = .ok (.iconst 1, 1) := by decide +kernel
theorem dX3_longestIdle_96 : decode cX3_longestIdle 96 = .ok (.goto 4, 3) := by decide +kernel
theorem dX3_longestIdle_99 : decode cX3_longestIdle 99 = .ok (.iconst 0, 1) := by decide +kernel
theorem dX3_longestIdle_100 : decode cX3_longestIdle 100 = .ok (.istore 4, 2) := by decide +kernel
theorem dX3_longestIdle_102 : decode cX3_longestIdle 102 = .ok (.iload 4, 2) := by decide +kernel
theorem dX3_longestIdle_104 : decode cX3_longestIdle 104 = .ok (.ifCond .eq 31, 3) := by decide +kernel
theorem dX3_longestIdle_107 : decode cX3_longestIdle 107 = .ok (.iload_n 2, 1) := by decide +kernel
theorem dX3_longestIdle_108 : decode cX3_longestIdle 108 = .ok (.iconst (-1), 1) := by decide +kernel
theorem dX3_longestIdle_109 : decode cX3_longestIdle 109 = .ok (.if_icmp .eq 24, 3) := by decide +kernel
theorem dX3_longestIdle_112 : decode cX3_longestIdle 112 = .ok (.aload_n 0, 1) := by decide +kernel
theorem dX3_longestIdle_113 : decode cX3_longestIdle 113 = .ok (.getfield 21, 3) := by decide +kernel
theorem dX3_longestIdle_116 : decode cX3_longestIdle 116 = .ok (.getfield 195, 3) := by decide +kernel
theorem dX3_longestIdle_119 : decode cX3_longestIdle 119 = .ok (.iload_n 3, 1) := by decide +kernel
theorem dX3_longestIdle_120 : decode cX3_longestIdle 120 = .ok (.iaload, 1) := by decide +kernel
theorem dX3_longestIdle_121 : decode cX3_longestIdle 121 = .ok (.aload_n 0, 1) := by decide +kernel
theorem dX3_longestIdle_122 : decode cX3_longestIdle 122 = .ok (.getfield 21, 3) := by decide +kernel
theorem dX3_longestIdle_125 : decode cX3_longestIdle 125 = .ok (.getfield 195, 3) := by decide +kernel
theorem dX3_longestIdle_128 : decode cX3_longestIdle 128 = .ok (.iload_n 2, 1) := by decide +kernel
theorem dX3_longestIdle_129 : decode cX3_longestIdle 129 = .ok (.iaload, 1) := by decide +kernel
theorem dX3_longestIdle_130 : decode cX3_longestIdle 130 = .ok (.if_icmp .ge 5, 3) := by decide +kernel
theorem dX3_longestIdle_133 : decode cX3_longestIdle 133 = .ok (.iload_n 3, 1) := by decide +kernel
theorem dX3_longestIdle_134 : decode cX3_longestIdle 134 = .ok (.istore_n 2, 1) := by decide +kernel
theorem dX3_longestIdle_135 : decode cX3_longestIdle 135 = .ok (.iinc 3 1, 3) := by decide +kernel
theorem dX3_longestIdle_138 : decode cX3_longestIdle 138 = .ok (.goto (-70), 3) := by decide +kernel
theorem dX3_longestIdle_141 : decode cX3_longestIdle 141 = .ok (.iload_n 2, 1) := by decide +kernel
theorem dX3_longestIdle_142 : decode cX3_longestIdle 142 = .ok (.ireturn, 1) := by decide +kernel
theorem dX3_ticksUntilTold_0 : decode cX3_ticksUntilTold 0 = .ok (.iconst 1, 1) := by decide +kernel
theorem dX3_ticksUntilTold_1 : decode cX3_ticksUntilTold 1 = .ok (.istore_n 2, 1) := by decide +kernel
theorem dX3_ticksUntilTold_2 : decode cX3_ticksUntilTold 2 = .ok (.iload_n 2, 1) := by decide +kernel
theorem dX3_ticksUntilTold_3 : decode cX3_ticksUntilTold 3 = .ok (.sipush 999, 3) := by decide +kernel
theorem dX3_ticksUntilTold_6 : decode cX3_ticksUntilTold 6 = .ok (.if_icmp .gt 55, 3) := by decide +kernel
theorem dX3_ticksUntilTold_9 : decode cX3_ticksUntilTold 9 = .ok (.aload_n 0, 1) := by decide +kernel
theorem dX3_ticksUntilTold_10 : decode cX3_ticksUntilTold 10 = .ok (.invokevirtual 132, 3) := by decide +kernel
theorem dX3_ticksUntilTold_13 : decode cX3_ticksUntilTold 13 = .ok (.aload_n 0, 1) := by decide +kernel
theorem dX3_ticksUntilTold_14 : decode cX3_ticksUntilTold 14 = .ok (.getfield 12, 3) := by decide +kernel
theorem dX3_ticksUntilTold_17 : decode cX3_ticksUntilTold 17 = .ok (.getfield 159, 3) := by decide +kernel
theorem dX3_ticksUntilTold_20 : decode cX3_ticksUntilTold 20 = .ok (.iload_n 1, 1) := by decide +kernel
theorem dX3_ticksUntilTold_21 : decode cX3_ticksUntilTold 21 = .ok (.iaload, 1) := by decide +kernel
theorem dX3_ticksUntilTold_22 : decode cX3_ticksUntilTold 22 = .ok (.iconst 2, 1) := by decide +kernel
theorem dX3_ticksUntilTold_23 : decode cX3_ticksUntilTold 23 = .ok (.if_icmp .ne 5, 3) := by decide +kernel
theorem dX3_ticksUntilTold_26 : decode cX3_ticksUntilTold 26 = .ok (.iload_n 2, 1) := by decide +kernel
theorem dX3_ticksUntilTold_27 : decode cX3_ticksUntilTold 27 = .ok (.ireturn, 1) := by decide +kernel
theorem dX3_ticksUntilTold_28 : decode cX3_ticksUntilTold 28 = .ok (.aload_n 0, 1) := by decide +kernel
theorem dX3_ticksUntilTold_29 : decode cX3_ticksUntilTold 29 = .ok (.getfield 12, 3) := by decide +kernel
theorem dX3_ticksUntilTold_32 : decode cX3_ticksUntilTold 32 = .ok (.getfield 159, 3) := by decide +kernel
theorem dX3_ticksUntilTold_35 : decode cX3_ticksUntilTold 35 = .ok (.iload_n 1, 1) := by decide +kernel
theorem dX3_ticksUntilTold_36 : decode cX3_ticksUntilTold 36 = .ok (.iaload, 1) := by decide +kernel
theorem dX3_ticksUntilTold_37 : decode cX3_ticksUntilTold 37 = .ok (.iconst 3, 1) := by decide +kernel
theorem dX3_ticksUntilTold_38 : decode cX3_ticksUntilTold 38 = .ok (.if_icmp .eq 14, 3) := by decide +kernel
theorem dX3_ticksUntilTold_41 : decode cX3_ticksUntilTold 41 = .ok (.aload_n 0, 1) := by decide +kernel
theorem dX3_ticksUntilTold_42 : decode cX3_ticksUntilTold 42 = .ok (.getfield 12, 3) := by decide +kernel
theorem dX3_ticksUntilTold_45 : decode cX3_ticksUntilTold 45 = .ok (.iconst 1, 1) := by decide +kernel
theorem dX3_ticksUntilTold_46 : decode cX3_ticksUntilTold 46 = .ok (.invokevirtual 176, 3) := by decide +kernel
theorem dX3_ticksUntilTold_49 : decode cX3_ticksUntilTold 49 = .ok (.ifCond .ne 6, 3) := by decide +kernel
theorem dX3_ticksUntilTold_52 : decode cX3_ticksUntilTold 52 = .ok (.bipush (-5), 2) := by decide +kernel
theorem dX3_ticksUntilTold_54 : decode cX3_ticksUntilTold 54 = .ok (.ireturn, 1) := by decide +kernel
theorem dX3_ticksUntilTold_55 : decode cX3_ticksUntilTold 55 = .ok (.iinc 2 1, 3) := by decide +kernel
theorem dX3_ticksUntilTold_58 : decode cX3_ticksUntilTold 58 = .ok (.goto (-56), 3) := by decide +kernel
theorem dX3_ticksUntilTold_61 : decode cX3_ticksUntilTold 61 = .ok (.bipush (-5), 2) := by decide +kernel
theorem dX3_ticksUntilTold_63 : decode cX3_ticksUntilTold 63 = .ok (.ireturn, 1) := by decide +kernel
theorem dX3_blockAt_0 : decode cX3_blockAt 0 = .ok (.iload_n 1, 1) := by decide +kernel
theorem dX3_blockAt_1 : decode cX3_blockAt 1 = .ok (.invokestatic 86, 3) := by decide +kernel
theorem dX3_blockAt_4 : decode cX3_blockAt 4 = .ok (.ifCond .ne 5, 3) := by decide +kernel
theorem dX3_blockAt_7 : decode cX3_blockAt 7 = .ok (.iconst (-1), 1) := by decide +kernel
theorem dX3_blockAt_8 : decode cX3_blockAt 8 = .ok (.ireturn, 1) := by decide +kernel
theorem dX3_blockAt_9 : decode cX3_blockAt 9 = .ok (.iload_n 2, 1) := by decide +kernel
theorem dX3_blockAt_10 : decode cX3_blockAt 10 = .ok (.ifCond .ge 6, 3) := by decide +kernel
theorem dX3_blockAt_13 : decode cX3_blockAt 13 = .ok (.bipush (-2), 2) := by decide +kernel
theorem dX3_blockAt_15 : decode cX3_blockAt 15 = .ok (.ireturn, 1) := by decide +kernel
theorem dX3_blockAt_16 : decode cX3_blockAt 16 = .ok (.aload_n 0, 1) := by decide +kernel
theorem dX3_blockAt_17 : decode cX3_blockAt 17 = .ok (.getfield 12, 3) := by decide +kernel
theorem dX3_blockAt_20 : decode cX3_blockAt 20 = .ok (.iload_n 1, 1) := by decide +kernel
theorem dX3_blockAt_21 : decode cX3_blockAt 21 = .ok (.aload_n 0, 1) := by decide +kernel
theorem dX3_blockAt_22 : decode cX3_blockAt 22 = .ok (.getfield 21, 3) := by decide +kernel
theorem dX3_blockAt_25 : decode cX3_blockAt 25 = .ok (.getfield 113, 3) := by decide +kernel
theorem dX3_blockAt_28 : decode cX3_blockAt 28 = .ok (.iload_n 1, 1) := by decide +kernel
theorem dX3_blockAt_29 : decode cX3_blockAt 29 = .ok (.iaload, 1) := by decide +kernel
theorem dX3_blockAt_30 : decode cX3_blockAt 30 = .ok (.iload_n 2, 1) := by decide +kernel
theorem dX3_blockAt_31 : decode cX3_blockAt 31 = .ok (.invokevirtual 198, 3) := by decide +kernel
theorem dX3_blockAt_34 : decode cX3_blockAt 34 = .ok (.istore_n 3, 1) := by decide +kernel
theorem dX3_blockAt_35 : decode cX3_blockAt 35 = .ok (.iload_n 3, 1) := by decide +kernel
theorem dX3_blockAt_36 : decode cX3_blockAt 36 = .ok (.iconst (-1), 1) := by decide +kernel
theorem dX3_blockAt_37 : decode cX3_blockAt 37 = .ok (.if_icmp .ne 6, 3) := by decide +kernel
theorem dX3_blockAt_40 : decode cX3_blockAt 40 = .ok (.bipush (-5), 2) := by decide +kernel
theorem dX3_blockAt_42 : decode cX3_blockAt 42 = .ok (.ireturn, 1) := by decide +kernel
theorem dX3_blockAt_43 : decode cX3_blockAt 43 = .ok (.aload_n 0, 1) := by decide +kernel
theorem dX3_blockAt_44 : decode cX3_blockAt 44 = .ok (.getfield 12, 3) := by decide +kernel
theorem dX3_blockAt_47 : decode cX3_blockAt 47 = .ok (.getfield 159, 3) := by decide +kernel
theorem dX3_blockAt_50 : decode cX3_blockAt 50 = .ok (.iload_n 3, 1) := by decide +kernel
theorem dX3_blockAt_51 : decode cX3_blockAt 51 = .ok (.iaload, 1) := by decide +kernel
theorem dX3_blockAt_52 : decode cX3_blockAt 52 = .ok (.iconst 1, 1) := by decide +kernel
theorem dX3_blockAt_53 : decode cX3_blockAt 53 = .ok (.if_icmp .ne 8, 3) := by decide +kernel
theorem dX3_blockAt_56 : decode cX3_blockAt 56 = .ok (.bipush (-4), 2) := by decide +kernel
theorem dX3_blockAt_58 : decode cX3_blockAt 58 = .ok (.goto 12, 3) := by decide +kernel
theorem dX3_blockAt_61 : decode cX3_blockAt 61 = .ok (.aload_n 0, 1) := by decide +kernel
theorem dX3_blockAt_62 : decode cX3_blockAt 62 = .ok (.getfield 12, 3) := by decide +kernel
theorem dX3_blockAt_65 : decode cX3_blockAt 65 = .ok (.getfield 201, 3) := by decide +kernel
theorem dX3_blockAt_68 : decode cX3_blockAt 68 = .ok (.iload_n 3, 1) := by decide +kernel
theorem dX3_blockAt_69 : decode cX3_blockAt 69 = .ok (.iaload, 1) := by decide +kernel
theorem dX3_blockAt_70 : decode cX3_blockAt 70 = .ok (.ireturn, 1) := by decide +kernel
theorem dX3_tellZone_0 : decode cX3_tellZone 0 = .ok (.iload_n 1, 1) := by decide +kernel
theorem dX3_tellZone_1 : decode cX3_tellZone 1 = .ok (.invokestatic 86, 3) := by decide +kernel
theorem dX3_tellZone_4 : decode cX3_tellZone 4 = .ok (.ifCond .ne 5, 3) := by decide +kernel
theorem dX3_tellZone_7 : decode cX3_tellZone 7 = .ok (.iconst (-1), 1) := by decide +kernel
theorem dX3_tellZone_8 : decode cX3_tellZone 8 = .ok (.ireturn, 1) := by decide +kernel
theorem dX3_tellZone_9 : decode cX3_tellZone 9 = .ok (.iload_n 2, 1) := by decide +kernel
theorem dX3_tellZone_10 : decode cX3_tellZone 10 = .ok (.tableswitch 144 0 8 #[50, 60, 70, 80, 90, 100, 118, 128, 138], 50) := by decide +kernel
theorem dX3_tellZone_60 : decode cX3_tellZone 60 = .ok (.aload_n 0, 1) := by decide +kernel
theorem dX3_tellZone_61 : decode cX3_tellZone 61 = .ok (.getfield 21, 3) := by decide +kernel
theorem dX3_tellZone_64 : decode cX3_tellZone 64 = .ok (.getfield 93, 3) := by decide +kernel
theorem dX3_tellZone_67 : decode cX3_tellZone 67 = .ok (.iload_n 1, 1) := by decide +kernel
theorem dX3_tellZone_68 : decode cX3_tellZone 68 = .ok (.iaload, 1) := by decide +kernel
theorem dX3_tellZone_69 : decode cX3_tellZone 69 = .ok (.ireturn, 1) := by decide +kernel
theorem dX3_tellZone_70 : decode cX3_tellZone 70 = .ok (.aload_n 0, 1) := by decide +kernel
theorem dX3_tellZone_71 : decode cX3_tellZone 71 = .ok (.getfield 21, 3) := by decide +kernel
theorem dX3_tellZone_74 : decode cX3_tellZone 74 = .ok (.getfield 96, 3) := by decide +kernel
theorem dX3_tellZone_77 : decode cX3_tellZone 77 = .ok (.iload_n 1, 1) := by decide +kernel
theorem dX3_tellZone_78 : decode cX3_tellZone 78 = .ok (.iaload, 1) := by decide +kernel
theorem dX3_tellZone_79 : decode cX3_tellZone 79 = .ok (.ireturn, 1) := by decide +kernel
theorem dX3_tellZone_80 : decode cX3_tellZone 80 = .ok (.aload_n 0, 1) := by decide +kernel
theorem dX3_tellZone_81 : decode cX3_tellZone 81 = .ok (.getfield 21, 3) := by decide +kernel
theorem dX3_tellZone_84 : decode cX3_tellZone 84 = .ok (.getfield 90, 3) := by decide +kernel
theorem dX3_tellZone_87 : decode cX3_tellZone 87 = .ok (.iload_n 1, 1) := by decide +kernel
theorem dX3_tellZone_88 : decode cX3_tellZone 88 = .ok (.iaload, 1) := by decide +kernel
theorem dX3_tellZone_89 : decode cX3_tellZone 89 = .ok (.ireturn, 1) := by decide +kernel
theorem dX3_tellZone_90 : decode cX3_tellZone 90 = .ok (.aload_n 0, 1) := by decide +kernel
theorem dX3_tellZone_91 : decode cX3_tellZone 91 = .ok (.getfield 21, 3) := by decide +kernel
theorem dX3_tellZone_94 : decode cX3_tellZone 94 = .ok (.getfield 204, 3) := by decide +kernel
theorem dX3_tellZone_97 : decode cX3_tellZone 97 = .ok (.iload_n 1, 1) := by decide +kernel
theorem dX3_tellZone_98 : decode cX3_tellZone 98 = .ok (.iaload, 1) := by decide +kernel
theorem dX3_tellZone_99 : decode cX3_tellZone 99 = .ok (.ireturn, 1) := by decide +kernel
theorem dX3_tellZone_100 : decode cX3_tellZone 100 = .ok (.aload_n 0, 1) := by decide +kernel
theorem dX3_tellZone_101 : decode cX3_tellZone 101 = .ok (.getfield 21, 3) := by decide +kernel
theorem dX3_tellZone_104 : decode cX3_tellZone 104 = .ok (.getfield 113, 3) := by decide +kernel
theorem dX3_tellZone_107 : decode cX3_tellZone 107 = .ok (.iload_n 1, 1) := by decide +kernel
theorem dX3_tellZone_108 : decode cX3_tellZone 108 = .ok (.iaload, 1) := by decide +kernel
theorem dX3_tellZone_109 : decode cX3_tellZone 109 = .ok (.ireturn, 1) := by decide +kernel
theorem dX3_tellZone_110 : decode cX3_tellZone 110 = .ok (.aload_n 0, 1) := by decide +kernel
theorem dX3_tellZone_111 : decode cX3_tellZone 111 = .ok (.getfield 12, 3) := by decide +kernel
theorem dX3_tellZone_114 : decode cX3_tellZone 114 = .ok (.iload_n 1, 1) := by decide +kernel
theorem dX3_tellZone_115 : decode cX3_tellZone 115 = .ok (.aload_n 0, 1) := by decide +kernel
theorem dX3_tellZone_116 : decode cX3_tellZone 116 = .ok (.getfield 21, 3) := by decide +kernel
theorem dX3_tellZone_119 : decode cX3_tellZone 119 = .ok (.getfield 113, 3) := by decide +kernel
theorem dX3_tellZone_122 : decode cX3_tellZone 122 = .ok (.iload_n 1, 1) := by decide +kernel
theorem dX3_tellZone_123 : decode cX3_tellZone 123 = .ok (.iaload, 1) := by decide +kernel
theorem dX3_tellZone_124 : decode cX3_tellZone 124 = .ok (.invokevirtual 116, 3) := by decide +kernel
theorem dX3_tellZone_127 : decode cX3_tellZone 127 = .ok (.ireturn, 1) := by decide +kernel
theorem dX3_tellZone_128 : decode cX3_tellZone 128 = .ok (.aload_n 0, 1) := by decide +kernel
theorem dX3_tellZone_129 : decode cX3_tellZone 129 = .ok (.getfield 12, 3) := by decide +kernel
theorem dX3_tellZone_132 : decode cX3_tellZone 132 = .ok (.iload_n 1, 1) := by decide +kernel
theorem dX3_tellZone_133 : decode cX3_tellZone 133 = .ok (.iconst 1, 1) := by decide +kernel
theorem dX3_tellZone_134 : decode cX3_tellZone 134 = .ok (.invokevirtual 126, 3) := by decide +kernel
theorem dX3_tellZone_137 : decode cX3_tellZone 137 = .ok (.ireturn, 1) := by decide +kernel
theorem dX3_tellZone_138 : decode cX3_tellZone 138 = .ok (.aload_n 0, 1) := by decide +kernel
theorem dX3_tellZone_139 : decode cX3_tellZone 139 = .ok (.getfield 12, 3) := by decide +kernel
theorem dX3_tellZone_142 : decode cX3_tellZone 142 = .ok (.iload_n 1, 1) := by decide +kernel
theorem dX3_tellZone_143 : decode cX3_tellZone 143 = .ok (.iconst 0, 1) := by decide +kernel
theorem dX3_tellZone_144 : decode cX3_tellZone 144 = .ok (.invokevirtual 126, 3) := by decide +kernel
theorem dX3_tellZone_147 : decode cX3_tellZone 147 = .ok (.ireturn, 1) := by decide +kernel
theorem dX3_tellZone_148 : decode cX3_tellZone 148 = .ok (.aload_n 0, 1) := by decide +kernel
theorem dX3_tellZone_149 : decode cX3_tellZone 149 = .ok (.iload_n 1, 1) := by decide +kernel
theorem dX3_tellZone_150 : decode cX3_tellZone 150 = .ok (.invokevirtual 207, 3) := by decide +kernel
theorem dX3_tellZone_153 : decode cX3_tellZone 153 = .ok (.ireturn, 1) := by decide +kernel
theorem dX3_tellZone_154 : decode cX3_tellZone 154 = .ok (.bipush (-2), 2) := by decide +kernel
theorem dX3_tellZone_156 : decode cX3_tellZone 156 = .ok (.ireturn, 1) := by decide +kernel
theorem dX3_readableFromStart_0 : decode cX3_readableFromStart 0 = .ok (.iconst 0, 1) := by decide +kernel
theorem dX3_readableFromStart_1 : decode cX3_readableFromStart 1 = .ok (.istore_n 2, 1) := by decide +kernel
theorem dX3_readableFromStart_2 : decode cX3_readableFromStart 2 = .ok (.iload_n 2, 1) := by decide +kernel
theorem dX3_readableFromStart_3 : decode cX3_readableFromStart 3 = .ok (.aload_n 0, 1) := by decide +kernel
theorem dX3_readableFromStart_4 : decode cX3_readableFromStart 4 = .ok (.getfield 21, 3) := by decide +kernel
theorem dX3_readableFromStart_7 : decode cX3_readableFromStart 7 = .ok (.getfield 204, 3) := by decide +kernel
theorem dX3_readableFromStart_10 : decode cX3_readableFromStart 10 = .ok (.iload_n 1, 1) := by decide +kernel
theorem dX3_readableFromStart_11 : decode cX3_readableFromStart 11 = .ok (.iaload, 1) := by decide +kernel
theorem dX3_readableFromStart_12 : decode cX3_readableFromStart 12 = .ok (.if_icmp .ge 18, 3) := by decide +kernel
theorem dX3_readableFromStart_15 : decode cX3_readableFromStart 15 = .ok (.aload_n 0, 1) := by decide +kernel
theorem dX3_readableFromStart_16 : decode cX3_readableFromStart 16 = .ok (.iload_n 1, 1) := by decide +kernel
theorem dX3_readableFromStart_17 : decode cX3_readableFromStart 17 = .ok (.iload_n 2, 1) := by decide +kernel
theorem dX3_readableFromStart_18 : decode cX3_readableFromStart 18 = .ok (.invokevirtual 210, 3) := by decide +kernel
theorem dX3_readableFromStart_21 : decode cX3_readableFromStart 21 = .ok (.ifCond .lt 9, 3) := by decide +kernel
theorem dX3_readableFromStart_24 : decode cX3_readableFromStart 24 = .ok (.iinc 2 1, 3) := by decide +kernel
theorem dX3_readableFromStart_27 : decode cX3_readableFromStart 27 = .ok (.goto (-25), 3) := by decide +kernel
theorem dX3_readableFromStart_30 : decode cX3_readableFromStart 30 = .ok (.iload_n 2, 1) := by decide +kernel
theorem dX3_readableFromStart_31 : decode cX3_readableFromStart 31 = .ok (.ireturn, 1) := by decide +kernel
theorem dX3_tellWriter_0 : decode cX3_tellWriter 0 = .ok (.iload_n 1, 1) := by decide +kernel
theorem dX3_tellWriter_1 : decode cX3_tellWriter 1 = .ok (.invokestatic 99, 3) := by decide +kernel
theorem dX3_tellWriter_4 : decode cX3_tellWriter 4 = .ok (.ifCond .ne 5, 3) := by decide +kernel
theorem dX3_tellWriter_7 : decode cX3_tellWriter 7 = .ok (.iconst (-1), 1) := by decide +kernel
theorem dX3_tellWriter_8 : decode cX3_tellWriter 8 = .ok (.ireturn, 1) := by decide +kernel
theorem dX3_tellWriter_9 : decode cX3_tellWriter 9 = .ok (.iload_n 2, 1) := by decide +kernel
theorem dX3_tellWriter_10 : decode cX3_tellWriter 10 = .ok (.tableswitch 92 0 5 #[38, 45, 55, 65, 75, 85], 38) := by decide +kernel
theorem dX3_tellWriter_48 : decode cX3_tellWriter 48 = .ok (.aload_n 0, 1) := by decide +kernel
theorem dX3_tellWriter_49 : decode cX3_tellWriter 49 = .ok (.getfield 25, 3) := by decide +kernel
theorem dX3_tellWriter_52 : decode cX3_tellWriter 52 = .ok (.iload_n 1, 1) := by decide +kernel
theorem dX3_tellWriter_53 : decode cX3_tellWriter 53 = .ok (.iaload, 1) := by decide +kernel
theorem dX3_tellWriter_54 : decode cX3_tellWriter 54 = .ok (.ireturn, 1) := by decide +kernel
theorem dX3_tellWriter_55 : decode cX3_tellWriter 55 = .ok (.aload_n 0, 1) := by decide +kernel
theorem dX3_tellWriter_56 : decode cX3_tellWriter 56 = .ok (.getfield 12, 3) := by decide +kernel
theorem dX3_tellWriter_59 : decode cX3_tellWriter 59 = .ok (.iload_n 1, 1) := by decide +kernel
theorem dX3_tellWriter_60 : decode cX3_tellWriter 60 = .ok (.iconst 0, 1) := by decide +kernel
theorem dX3_tellWriter_61 : decode cX3_tellWriter 61 = .ok (.invokevirtual 102, 3) := by decide +kernel
theorem dX3_tellWriter_64 : decode cX3_tellWriter 64 = .ok (.ireturn, 1) := by decide +kernel
theorem dX3_tellWriter_65 : decode cX3_tellWriter 65 = .ok (.aload_n 0, 1) := by decide +kernel
theorem dX3_tellWriter_66 : decode cX3_tellWriter 66 = .ok (.getfield 12, 3) := by decide +kernel
theorem dX3_tellWriter_69 : decode cX3_tellWriter 69 = .ok (.iload_n 1, 1) := by decide +kernel
theorem dX3_tellWriter_70 : decode cX3_tellWriter 70 = .ok (.iconst 1, 1) := by decide +kernel
theorem dX3_tellWriter_71 : decode cX3_tellWriter 71 = .ok (.invokevirtual 102, 3) := by decide +kernel
theorem dX3_tellWriter_74 : decode cX3_tellWriter 74 = .ok (.ireturn, 1) := by decide +kernel
theorem dX3_tellWriter_75 : decode cX3_tellWriter 75 = .ok (.aload_n 0, 1) := by decide +kernel
theorem dX3_tellWriter_76 : decode cX3_tellWriter 76 = .ok (.getfield 12, 3) := by decide +kernel
theorem dX3_tellWriter_79 : decode cX3_tellWriter 79 = .ok (.iload_n 1, 1) := by decide +kernel
theorem dX3_tellWriter_80 : decode cX3_tellWriter 80 = .ok (.iconst 2, 1) := by decide +kernel
theorem dX3_tellWriter_81 : decode cX3_tellWriter 81 = .ok (.invokevirtual 102, 3) := by decide +kernel
theorem dX3_tellWriter_84 : decode cX3_tellWriter 84 = .ok (.ireturn, 1) := by decide +kernel
theorem dX3_tellWriter_85 : decode cX3_tellWriter 85 = .ok (.aload_n 0, 1) := by decide +kernel
theorem dX3_tellWriter_86 : decode cX3_tellWriter 86 = .ok (.getfield 12, 3) := by decide +kernel
theorem dX3_tellWriter_89 : decode cX3_tellWriter 89 = .ok (.iload_n 1, 1) := by decide +kernel
theorem dX3_tellWriter_90 : decode cX3_tellWriter 90 = .ok (.iconst 3, 1) := by decide +kernel
theorem dX3_tellWriter_91 : decode cX3_tellWriter 91 = .ok (.invokevirtual 102, 3) := by decide +kernel
theorem dX3_tellWriter_94 : decode cX3_tellWriter 94 = .ok (.ireturn, 1) := by decide +kernel
theorem dX3_tellWriter_95 : decode cX3_tellWriter 95 = .ok (.aload_n 0, 1) := by decide +kernel
theorem dX3_tellWriter_96 : decode cX3_tellWriter 96 = .ok (.getfield 29, 3) := by decide +kernel
theorem dX3_tellWriter_99 : decode cX3_tellWriter 99 = .ok (.iload_n 1, 1) := by decide +kernel
theorem dX3_tellWriter_100 : decode cX3_tellWriter 100 = .ok (.iaload, 1) := by decide +kernel
theorem dX3_tellWriter_101 : decode cX3_tellWriter 101 = .ok (.ireturn, 1) := by decide +kernel
theorem dX3_tellWriter_102 : decode cX3_tellWriter 102 = .ok (.bipush (-2), 2) := by decide +kernel
theorem dX3_tellWriter_104 : decode cX3_tellWriter 104 = .ok (.ireturn, 1) := by decide +kernel
theorem dX3_tellNumber_0 : decode cX3_tellNumber 0 = .ok (.iload_n 1, 1) := by decide +kernel
theorem dX3_tellNumber_1 : decode cX3_tellNumber 1 = .ok (.tableswitch 193 0 13 #[71, 76, 84, 92, 97, 102, 111, 119, 127, 136, 145, 153, 177, 185], 71) := by decide +kernel
theorem dX3_tellNumber_72 : decode cX3_tellNumber 72 = .ok (.aload_n 0, 1) := by decide +kernel
theorem dX3_tellNumber_73 : decode cX3_tellNumber 73 = .ok (.getfield 42, 3) := by decide +kernel
theorem dX3_tellNumber_76 : decode cX3_tellNumber 76 = .ok (.ireturn, 1) := by decide +kernel
theorem dX3_tellNumber_77 : decode cX3_tellNumber 77 = .ok (.aload_n 0, 1) := by decide +kernel
theorem dX3_tellNumber_78 : decode cX3_tellNumber 78 = .ok (.getfield 21, 3) := by decide +kernel
theorem dX3_tellNumber_81 : decode cX3_tellNumber 81 = .ok (.getfield 69, 3) := by decide +kernel
theorem dX3_tellNumber_84 : decode cX3_tellNumber 84 = .ok (.ireturn, 1) := by decide +kernel
theorem dX3_tellNumber_85 : decode cX3_tellNumber 85 = .ok (.aload_n 0, 1) := by decide +kernel
theorem dX3_tellNumber_86 : decode cX3_tellNumber 86 = .ok (.getfield 21, 3) := by decide +kernel
theorem dX3_tellNumber_89 : decode cX3_tellNumber 89 = .ok (.getfield 79, 3) := by decide +kernel
theorem dX3_tellNumber_92 : decode cX3_tellNumber 92 = .ok (.ireturn, 1) := by decide +kernel
theorem dX3_tellNumber_93 : decode cX3_tellNumber 93 = .ok (.aload_n 0, 1) := by decide +kernel
theorem dX3_tellNumber_94 : decode cX3_tellNumber 94 = .ok (.getfield 35, 3) := by decide +kernel
theorem dX3_tellNumber_97 : decode cX3_tellNumber 97 = .ok (.ireturn, 1) := by decide +kernel
theorem dX3_tellNumber_98 : decode cX3_tellNumber 98 = .ok (.aload_n 0, 1) := by decide +kernel
theorem dX3_tellNumber_99 : decode cX3_tellNumber 99 = .ok (.getfield 39, 3) := by decide +kernel
theorem dX3_tellNumber_102 : decode cX3_tellNumber 102 = .ok (.ireturn, 1) := by decide +kernel
theorem dX3_tellNumber_103 : decode cX3_tellNumber 103 = .ok (.aload_n 0, 1) := by decide +kernel
theorem dX3_tellNumber_104 : decode cX3_tellNumber 104 = .ok (.getfield 21, 3) := by decide +kernel
theorem dX3_tellNumber_107 : decode cX3_tellNumber 107 = .ok (.iconst 1, 1) := by decide +kernel
theorem dX3_tellNumber_108 : decode cX3_tellNumber 108 = .ok (.invokevirtual 76, 3) := by decide +kernel
theorem dX3_tellNumber_111 : decode cX3_tellNumber 111 = .ok (.ireturn, 1) := by decide +kernel
theorem dX3_tellNumber_112 : decode cX3_tellNumber 112 = .ok (.aload_n 0, 1) := by decide +kernel
theorem dX3_tellNumber_113 : decode cX3_tellNumber 113 = .ok (.getfield 21, 3) := by decide +kernel
theorem dX3_tellNumber_116 : decode cX3_tellNumber 116 = .ok (.invokevirtual 82, 3) := by decide +kernel
theorem dX3_tellNumber_119 : decode cX3_tellNumber 119 = .ok (.ireturn, 1) := by decide +kernel
theorem dX3_tellNumber_120 : decode cX3_tellNumber 120 = .ok (.aload_n 0, 1) := by decide +kernel
theorem dX3_tellNumber_121 : decode cX3_tellNumber 121 = .ok (.getfield 12, 3) := by decide +kernel
theorem dX3_tellNumber_124 : decode cX3_tellNumber 124 = .ok (.getfield 106, 3) := by decide +kernel
theorem dX3_tellNumber_127 : decode cX3_tellNumber 127 = .ok (.ireturn, 1) := by decide +kernel
theorem dX3_tellNumber_128 : decode cX3_tellNumber 128 = .ok (.aload_n 0, 1) := by decide +kernel
theorem dX3_tellNumber_129 : decode cX3_tellNumber 129 = .ok (.getfield 12, 3) := by decide +kernel
theorem dX3_tellNumber_132 : decode cX3_tellNumber 132 = .ok (.iconst 0, 1) := by decide +kernel
theorem dX3_tellNumber_133 : decode cX3_tellNumber 133 = .ok (.invokevirtual 176, 3) := by decide +kernel
theorem dX3_tellNumber_136 : decode cX3_tellNumber 136 = .ok (.ireturn, 1) := by decide +kernel
theorem dX3_tellNumber_137 : decode cX3_tellNumber 137 = .ok (.aload_n 0, 1) := by decide +kernel
theorem dX3_tellNumber_138 : decode cX3_tellNumber 138 = .ok (.getfield 12, 3) := by decide +kernel
theorem dX3_tellNumber_141 : decode cX3_tellNumber 141 = .ok (.iconst 1, 1) := by decide +kernel
theorem dX3_tellNumber_142 : decode cX3_tellNumber 142 = .ok (.invokevirtual 176, 3) := by decide +kernel
theorem dX3_tellNumber_145 : decode cX3_tellNumber 145 = .ok (.ireturn, 1) := by decide +kernel
theorem dX3_tellNumber_146 : decode cX3_tellNumber 146 = .ok (.aload_n 0, 1) := by decide +kernel
theorem dX3_tellNumber_147 : decode cX3_tellNumber 147 = .ok (.getfield 12, 3) := by decide +kernel
theorem dX3_tellNumber_150 : decode cX3_tellNumber 150 = .ok (.getfield 129, 3) := by decide +kernel
theorem dX3_tellNumber_153 : decode cX3_tellNumber 153 = .ok (.ireturn, 1) := by decide +kernel
theorem dX3_tellNumber_154 : decode cX3_tellNumber 154 = .ok (.aload_n 0, 1) := by decide +kernel
theorem dX3_tellNumber_155 : decode cX3_tellNumber 155 = .ok (.getfield 12, 3) := by decide +kernel
theorem dX3_tellNumber_158 : decode cX3_tellNumber 158 = .ok (.getfield 106, 3) := by decide +kernel
theorem dX3_tellNumber_161 : decode cX3_tellNumber 161 = .ok (.aload_n 0, 1) := by decide +kernel
theorem dX3_tellNumber_162 : decode cX3_tellNumber 162 = .ok (.getfield 12, 3) := by decide +kernel
theorem dX3_tellNumber_165 : decode cX3_tellNumber 165 = .ok (.getfield 129, 3) := by decide +kernel
theorem dX3_tellNumber_168 : decode cX3_tellNumber 168 = .ok (.isub, 1) := by decide +kernel
theorem dX3_tellNumber_169 : decode cX3_tellNumber 169 = .ok (.aload_n 0, 1) := by decide +kernel
theorem dX3_tellNumber_170 : decode cX3_tellNumber 170 = .ok (.getfield 12, 3) := by decide +kernel
theorem dX3_tellNumber_173 : decode cX3_tellNumber 173 = .ok (.getfield 153, 3) := by decide +kernel
theorem dX3_tellNumber_176 : decode cX3_tellNumber 176 = .ok (.isub, 1) := by decide +kernel
theorem dX3_tellNumber_177 : decode cX3_tellNumber 177 = .ok (.ireturn, 1) := by decide +kernel
theorem dX3_tellNumber_178 : decode cX3_tellNumber 178 = .ok (.aload_n 0, 1) := by decide +kernel
theorem dX3_tellNumber_179 : decode cX3_tellNumber 179 = .ok (.getfield 21, 3) := by decide +kernel
theorem dX3_tellNumber_182 : decode cX3_tellNumber 182 = .ok (.getfield 192, 3) := by decide +kernel
theorem dX3_tellNumber_185 : decode cX3_tellNumber 185 = .ok (.ireturn, 1) := by decide +kernel
theorem dX3_tellNumber_186 : decode cX3_tellNumber 186 = .ok (.aload_n 0, 1) := by decide +kernel
theorem dX3_tellNumber_187 : decode cX3_tellNumber 187 = .ok (.getfield 21, 3) := by decide +kernel
theorem dX3_tellNumber_190 : decode cX3_tellNumber 190 = .ok (.getfield 147, 3) := by decide +kernel
theorem dX3_tellNumber_193 : decode cX3_tellNumber 193 = .ok (.ireturn, 1) := by decide +kernel
theorem dX3_tellNumber_194 : decode cX3_tellNumber 194 = .ok (.bipush (-2), 2) := by decide +kernel
theorem dX3_tellNumber_196 : decode cX3_tellNumber 196 = .ok (.ireturn, 1) := by decide +kernel
theorem dX4_init_0 : decode cX4_init 0 = .ok (.aload_n 0, 1) := by decide +kernel
theorem dX4_init_1 : decode cX4_init 1 = .ok (.invokespecial 3, 3) := by decide +kernel
theorem dX4_init_4 : decode cX4_init 4 = .ok (.aload_n 0, 1) := by decide +kernel
theorem dX4_init_5 : decode cX4_init 5 = .ok (.bipush 8, 2) := by decide +kernel
theorem dX4_init_7 : decode cX4_init 7 = .ok (.newarray .int, 2) := by decide +kernel
theorem dX4_init_9 : decode cX4_init 9 = .ok (.putfield 9, 3) := by decide +kernel
theorem dX4_init_12 : decode cX4_init 12 = .ok (.aload_n 0, 1) := by decide +kernel
theorem dX4_init_13 : decode cX4_init 13 = .ok (.bipush 8, 2) := by decide +kernel
theorem dX4_init_15 : decode cX4_init 15 = .ok (.newarray .int, 2) := by decide +kernel
theorem dX4_init_17 : decode cX4_init 17 = .ok (.putfield 15, 3) := by decide +kernel
theorem dX4_init_20 : decode cX4_init 20 = .ok (.aload_n 0, 1) := by decide +kernel
theorem dX4_init_21 : decode cX4_init 21 = .ok (.bipush 8, 2) := by decide +kernel
theorem dX4_init_23 : decode cX4_init 23 = .ok (.newarray .int, 2) := by decide +kernel
theorem dX4_init_25 : decode cX4_init 25 = .ok (.putfield 18, 3) := by decide +kernel
theorem dX4_init_28 : decode cX4_init 28 = .ok (.aload_n 0, 1) := by decide +kernel
theorem dX4_init_29 : decode cX4_init 29 = .ok (.bipush 8, 2) := by decide +kernel
theorem dX4_init_31 : decode cX4_init 31 = .ok (.newarray .int, 2) := by decide +kernel
theorem dX4_init_33 : decode cX4_init 33 = .ok (.putfield 21, 3) := by decide +kernel
theorem dX4_init_36 : decode cX4_init 36 = .ok (.aload_n 0, 1) := by decide +kernel
theorem dX4_init_37 : decode cX4_init 37 = .ok (.bipush 8, 2) := by decide +kernel
theorem dX4_init_39 : decode cX4_init 39 = .ok (.newarray .int, 2) := by decide +kernel
theorem dX4_init_41 : decode cX4_init 41 = .ok (.putfield 24, 3) := by decide +kernel
theorem dX4_init_44 : decode cX4_init 44 = .ok (.aload_n 0, 1) := by decide +kernel
theorem dX4_init_45 : decode cX4_init 45 = .ok (.bipush 8, 2) := by decide +kernel
theorem dX4_init_47 : decode cX4_init 47 = .ok (.newarray .int, 2) := by decide +kernel
theorem dX4_init_49 : decode cX4_init 49 = .ok (.putfield 27, 3) := by decide +kernel
theorem dX4_init_52 : decode cX4_init 52 = .ok (.aload_n 0, 1) := by decide +kernel
theorem dX4_init_53 : decode cX4_init 53 = .ok (.iconst 0, 1) := by decide +kernel
theorem dX4_init_54 : decode cX4_init 54 = .ok (.putfield 30, 3) := by decide +kernel
theorem dX4_init_57 : decode cX4_init 57 = .ok (.aload_n 0, 1) := by decide +kernel
theorem dX4_init_58 : decode cX4_init 58 = .ok (.iconst 2, 1) := by decide +kernel
theorem dX4_init_59 : decode cX4_init 59 = .ok (.putfield 34, 3) := by decide +kernel
theorem dX4_init_62 : decode cX4_init 62 = .ok (.aload_n 0, 1) := by decide +kernel
theorem dX4_init_63 : decode cX4_init 63 = .ok (.iconst 4, 1) := by decide +kernel
theorem dX4_init_64 : decode cX4_init 64 = .ok (.putfield 37, 3) := by decide +kernel
theorem dX4_init_67 : decode cX4_init 67 = .ok (.aload_n 0, 1) := by decide +kernel
theorem dX4_init_68 : decode cX4_init 68 = .ok (.iconst 0, 1) := by decide +kernel
theorem dX4_init_69 : decode cX4_init 69 = .ok (.putfield 40, 3) := by decide +kernel
theorem dX4_init_72 : decode cX4_init 72 = .ok (.aload_n 0, 1) := by decide +kernel
theorem dX4_init_73 : decode cX4_init 73 = .ok (.iconst 0, 1) := by decide +kernel
theorem dX4_init_74 : decode cX4_init 74 = .ok (.putfield 43, 3) := by decide +kernel
theorem dX4_init_77 : decode cX4_init 77 = .ok (.iconst 0, 1) := by decide +kernel
theorem dX4_init_78 : decode cX4_init 78 = .ok (.istore_n 1, 1) := by decide +kernel
theorem dX4_init_79 : decode cX4_init 79 = .ok (.iload_n 1, 1) := by decide +kernel
theorem dX4_init_80 : decode cX4_init 80 = .ok (.bipush 8, 2) := by decide +kernel
theorem dX4_init_82 : decode cX4_init 82 = .ok (.if_icmp .ge 35, 3) := by decide +kernel
theorem dX4_init_85 : decode cX4_init 85 = .ok (.aload_n 0, 1) := by decide +kernel
theorem dX4_init_86 : decode cX4_init 86 = .ok (.getfield 9, 3) := by decide +kernel
theorem dX4_init_89 : decode cX4_init 89 = .ok (.iload_n 1, 1) := by decide +kernel
theorem dX4_init_90 : decode cX4_init 90 = .ok (.iconst 0, 1) := by decide +kernel
theorem dX4_init_91 : decode cX4_init 91 = .ok (.iastore, 1) := by decide +kernel
theorem dX4_init_92 : decode cX4_init 92 = .ok (.aload_n 0, 1) := by decide +kernel
theorem dX4_init_93 : decode cX4_init 93 = .ok (.getfield 15, 3) := by decide +kernel
theorem dX4_init_96 : decode cX4_init 96 = .ok (.iload_n 1, 1) := by decide +kernel
theorem dX4_init_97 : decode cX4_init 97 = .ok (.bipush 8, 2) := by decide +kernel
theorem dX4_init_99 : decode cX4_init 99 = .ok (.iastore, 1) := by decide +kernel
theorem dX4_init_100 : decode cX4_init 100 = .ok (.aload_n 0, 1) := by decide +kernel
theorem dX4_init_101 : decode cX4_init 101 = .ok (.getfield 18, 3) := by decide +kernel
theorem dX4_init_104 : decode cX4_init 104 = .ok (.iload_n 1, 1) := by decide +kernel
theorem dX4_init_105 : decode cX4_init 105 = .ok (.iconst 2, 1) := by decide +kernel
theorem dX4_init_106 : decode cX4_init 106 = .ok (.iload_n 1, 1) := by decide +kernel
theorem dX4_init_107 : decode cX4_init 107 = .ok (.iconst 3, 1) := by decide +kernel
theorem dX4_init_108 : decode cX4_init 108 = .ok (.irem, 1) := by decide +kernel
theorem dX4_init_109 : decode cX4_init 109 = .ok (.iadd, 1) := by decide +kernel
theorem dX4_init_110 : decode cX4_init 110 = .ok (.iastore, 1) := by decide +kernel
theorem dX4_init_111 : decode cX4_init 111 = .ok (.iinc 1 1, 3) := by decide +kernel
theorem dX4_init_114 : decode cX4_init 114 = .ok (.goto (-35), 3) := by decide +kernel
theorem dX4_init_117 : decode cX4_init 117 = .ok (.return_, 1) := by decide +kernel
theorem dX4_copyFrom_0 : decode cX4_copyFrom 0 = .ok (.aload_n 1, 1) := by decide +kernel
theorem dX4_copyFrom_1 : decode cX4_copyFrom 1 = .ok (.getfield 9, 3) := by decide +kernel
theorem dX4_copyFrom_4 : decode cX4_copyFrom 4 = .ok (.aload_n 0, 1) := by decide +kernel
theorem dX4_copyFrom_5 : decode cX4_copyFrom 5 = .ok (.getfield 9, 3) := by decide +kernel
theorem dX4_copyFrom_8 : decode cX4_copyFrom 8 = .ok (.bipush 8, 2) := by decide +kernel
theorem dX4_copyFrom_10 : decode cX4_copyFrom 10 = .ok (.invokestatic 46, 3) := by decide +kernel
theorem dX4_copyFrom_13 : decode cX4_copyFrom 13 = .ok (.aload_n 1, 1) := by decide +kernel
theorem dX4_copyFrom_14 : decode cX4_copyFrom 14 = .ok (.getfield 15, 3) := by decide +kernel
theorem dX4_copyFrom_17 : decode cX4_copyFrom 17 = .ok (.aload_n 0, 1) := by decide +kernel
theorem dX4_copyFrom_18 : decode cX4_copyFrom 18 = .ok (.getfield 15, 3) := by decide +kernel
theorem dX4_copyFrom_21 : decode cX4_copyFrom 21 = .ok (.bipush 8, 2) := by decide +kernel
theorem dX4_copyFrom_23 : decode cX4_copyFrom 23 = .ok (.invokestatic 46, 3) := by decide +kernel
theorem dX4_copyFrom_26 : decode cX4_copyFrom 26 = .ok (.aload_n 1, 1) := by decide +kernel
theorem dX4_copyFrom_27 : decode cX4_copyFrom 27 = .ok (.getfield 18, 3) := by decide +kernel
theorem dX4_copyFrom_30 : decode cX4_copyFrom 30 = .ok (.aload_n 0, 1) := by decide +kernel
theorem dX4_copyFrom_31 : decode cX4_copyFrom 31 = .ok (.getfield 18, 3) := by decide +kernel
theorem dX4_copyFrom_34 : decode cX4_copyFrom 34 = .ok (.bipush 8, 2) := by decide +kernel
theorem dX4_copyFrom_36 : decode cX4_copyFrom 36 = .ok (.invokestatic 46, 3) := by decide +kernel
theorem dX4_copyFrom_39 : decode cX4_copyFrom 39 = .ok (.aload_n 1, 1) := by decide +kernel
theorem dX4_copyFrom_40 : decode cX4_copyFrom 40 = .ok (.getfield 21, 3) := by decide +kernel
theorem dX4_copyFrom_43 : decode cX4_copyFrom 43 = .ok (.aload_n 0, 1) := by decide +kernel
theorem dX4_copyFrom_44 : decode cX4_copyFrom 44 = .ok (.getfield 21, 3) := by decide +kernel
theorem dX4_copyFrom_47 : decode cX4_copyFrom 47 = .ok (.bipush 8, 2) := by decide +kernel
theorem dX4_copyFrom_49 : decode cX4_copyFrom 49 = .ok (.invokestatic 46, 3) := by decide +kernel
theorem dX4_copyFrom_52 : decode cX4_copyFrom 52 = .ok (.aload_n 1, 1) := by decide +kernel
theorem dX4_copyFrom_53 : decode cX4_copyFrom 53 = .ok (.getfield 24, 3) := by decide +kernel
theorem dX4_copyFrom_56 : decode cX4_copyFrom 56 = .ok (.aload_n 0, 1) := by decide +kernel
theorem dX4_copyFrom_57 : decode cX4_copyFrom 57 = .ok (.getfield 24, 3) := by decide +kernel
theorem dX4_copyFrom_60 : decode cX4_copyFrom 60 = .ok (.bipush 8, 2) := by decide +kernel
theorem dX4_copyFrom_62 : decode cX4_copyFrom 62 = .ok (.invokestatic 46, 3) := by decide +kernel
theorem dX4_copyFrom_65 : decode cX4_copyFrom 65 = .ok (.aload_n 1, 1) := by decide +kernel
theorem dX4_copyFrom_66 : decode cX4_copyFrom 66 = .ok (.getfield 27, 3) := by decide +kernel
theorem dX4_copyFrom_69 : decode cX4_copyFrom 69 = .ok (.aload_n 0, 1) := by decide +kernel
theorem dX4_copyFrom_70 : decode cX4_copyFrom 70 = .ok (.getfield 27, 3) := by decide +kernel
theorem dX4_copyFrom_73 : decode cX4_copyFrom 73 = .ok (.bipush 8, 2) := by decide +kernel
theorem dX4_copyFrom_75 : decode cX4_copyFrom 75 = .ok (.invokestatic 46, 3) := by decide +kernel
theorem dX4_copyFrom_78 : decode cX4_copyFrom 78 = .ok (.aload_n 0, 1) := by decide +kernel
theorem dX4_copyFrom_79 : decode cX4_copyFrom 79 = .ok (.aload_n 1, 1) := by decide +kernel
theorem dX4_copyFrom_80 : decode cX4_copyFrom 80 = .ok (.getfield 30, 3) := by decide +kernel
theorem dX4_copyFrom_83 : decode cX4_copyFrom 83 = .ok (.putfield 30, 3) := by decide +kernel
theorem dX4_copyFrom_86 : decode cX4_copyFrom 86 = .ok (.aload_n 0, 1) := by decide +kernel
theorem dX4_copyFrom_87 : decode cX4_copyFrom 87 = .ok (.aload_n 1, 1) := by decide +kernel
theorem dX4_copyFrom_88 : decode cX4_copyFrom 88 = .ok (.getfield 34, 3) := by decide +kernel
theorem dX4_copyFrom_91 : decode cX4_copyFrom 91 = .ok (.putfield 34, 3) := by decide +kernel
theorem dX4_copyFrom_94 : decode cX4_copyFrom 94 = .ok (.aload_n 0, 1) := by decide +kernel
theorem dX4_copyFrom_95 : decode cX4_copyFrom 95 = .ok (.aload_n 1, 1) := by decide +kernel
theorem dX4_copyFrom_96 : decode cX4_copyFrom 96 = .ok (.getfield 37, 3) := by decide +kernel
theorem dX4_copyFrom_99 : decode cX4_copyFrom 99 = .ok (.putfield 37, 3) := by decide +kernel
theorem dX4_copyFrom_102 : decode cX4_copyFrom 102 = .ok (.aload_n 0, 1) := by decide +kernel
theorem dX4_copyFrom_103 : decode cX4_copyFrom 103 = .ok (.aload_n 1, 1) := by decide +kernel
theorem dX4_copyFrom_104 : decode cX4_copyFrom 104 = .ok (.getfield 40, 3) := by decide +kernel
theorem dX4_copyFrom_107 : decode cX4_copyFrom 107 = .ok (.putfield 40, 3) := by decide +kernel
theorem dX4_copyFrom_110 : decode cX4_copyFrom 110 = .ok (.aload_n 0, 1) := by decide +kernel
theorem dX4_copyFrom_111 : decode cX4_copyFrom 111 = .ok (.aload_n 1, 1) := by decide +kernel
theorem dX4_copyFrom_112 : decode cX4_copyFrom 112 = .ok (.getfield 43, 3) := by decide +kernel
theorem dX4_copyFrom_115 : decode cX4_copyFrom 115 = .ok (.putfield 43, 3) := by decide +kernel
theorem dX4_copyFrom_118 : decode cX4_copyFrom 118 = .ok (.return_, 1) := by decide +kernel
theorem dX4_inPhase_0 : decode cX4_inPhase 0 = .ok (.iconst 0, 1) := by decide +kernel
theorem dX4_inPhase_1 : decode cX4_inPhase 1 = .ok (.istore_n 2, 1) := by decide +kernel
theorem dX4_inPhase_2 : decode cX4_inPhase 2 = .ok (.iconst 0, 1) := by decide +kernel
theorem dX4_inPhase_3 : decode cX4_inPhase 3 = .ok (.istore_n 3, 1) := by decide +kernel
theorem dX4_inPhase_4 : decode cX4_inPhase 4 = .ok (.iload_n 3, 1) := by decide +kernel
theorem dX4_inPhase_5 : decode cX4_inPhase 5 = .ok (.bipush 8, 2) := by decide +kernel
theorem dX4_inPhase_7 : decode cX4_inPhase 7 = .ok (.if_icmp .ge 22, 3) := by decide +kernel
theorem dX4_inPhase_10 : decode cX4_inPhase 10 = .ok (.aload_n 0, 1) := by decide +kernel
theorem dX4_inPhase_11 : decode cX4_inPhase 11 = .ok (.getfield 9, 3) := by decide +kernel
theorem dX4_inPhase_14 : decode cX4_inPhase 14 = .ok (.iload_n 3, 1) := by decide +kernel
theorem dX4_inPhase_15 : decode cX4_inPhase 15 = .ok (.iaload, 1) := by decide +kernel
theorem dX4_inPhase_16 : decode cX4_inPhase 16 = .ok (.iload_n 1, 1) := by decide +kernel
theorem dX4_inPhase_17 : decode cX4_inPhase 17 = .ok (.if_icmp .ne 6, 3) := by decide +kernel
theorem dX4_inPhase_20 : decode cX4_inPhase 20 = .ok (.iinc 2 1, 3) := by decide +kernel
theorem dX4_inPhase_23 : decode cX4_inPhase 23 = .ok (.iinc 3 1, 3) := by decide +kernel
theorem dX4_inPhase_26 : decode cX4_inPhase 26 = .ok (.goto (-22), 3) := by decide +kernel
theorem dX4_inPhase_29 : decode cX4_inPhase 29 = .ok (.iload_n 2, 1) := by decide +kernel
theorem dX4_inPhase_30 : decode cX4_inPhase 30 = .ok (.ireturn, 1) := by decide +kernel
theorem dX4_inUse_0 : decode cX4_inUse 0 = .ok (.iconst 0, 1) := by decide +kernel
theorem dX4_inUse_1 : decode cX4_inUse 1 = .ok (.istore_n 1, 1) := by decide +kernel
theorem dX4_inUse_2 : decode cX4_inUse 2 = .ok (.iconst 0, 1) := by decide +kernel
theorem dX4_inUse_3 : decode cX4_inUse 3 = .ok (.istore_n 2, 1) := by decide +kernel
theorem dX4_inUse_4 : decode cX4_inUse 4 = .ok (.iload_n 2, 1) := by decide +kernel
theorem dX4_inUse_5 : decode cX4_inUse 5 = .ok (.bipush 8, 2) := by decide +kernel
theorem dX4_inUse_7 : decode cX4_inUse 7 = .ok (.if_icmp .ge 32, 3) := by decide +kernel
theorem dX4_inUse_10 : decode cX4_inUse 10 = .ok (.aload_n 0, 1) := by decide +kernel
theorem dX4_inUse_11 : decode cX4_inUse 11 = .ok (.getfield 9, 3) := by decide +kernel
theorem dX4_inUse_14 : decode cX4_inUse 14 = .ok (.iload_n 2, 1) := by decide +kernel
theorem dX4_inUse_15 : decode cX4_inUse 15 = .ok (.iaload, 1) := by decide +kernel
theorem dX4_inUse_16 : decode cX4_inUse 16 = .ok (.iconst 1, 1) := by decide +kernel
theorem dX4_inUse_17 : decode cX4_inUse 17 = .ok (.if_icmp .eq 13, 3) := by decide +kernel
theorem dX4_inUse_20 : decode cX4_inUse 20 = .ok (.aload_n 0, 1) := by decide +kernel
theorem dX4_inUse_21 : decode cX4_inUse 21 = .ok (.getfield 9, 3) := by decide +kernel
theorem dX4_inUse_24 : decode cX4_inUse 24 = .ok (.iload_n 2, 1) := by decide +kernel
theorem dX4_inUse_25 : decode cX4_inUse 25 = .ok (.iaload, 1) := by decide +kernel
theorem dX4_inUse_26 : decode cX4_inUse 26 = .ok (.iconst 2, 1) := by decide +kernel
theorem dX4_inUse_27 : decode cX4_inUse 27 = .ok (.if_icmp .ne 6, 3) := by decide +kernel
theorem dX4_inUse_30 : decode cX4_inUse 30 = .ok (.iinc 1 1, 3) := by decide +kernel
theorem dX4_inUse_33 : decode cX4_inUse 33 = .ok (.iinc 2 1, 3) := by decide +kernel
theorem dX4_inUse_36 : decode cX4_inUse 36 = .ok (.goto (-32), 3) := by decide +kernel
theorem dX4_inUse_39 : decode cX4_inUse 39 = .ok (.iload_n 1, 1) := by decide +kernel
theorem dX4_inUse_40 : decode cX4_inUse 40 = .ok (.ireturn, 1) := by decide +kernel
theorem dX4_takePlace_0 : decode cX4_takePlace 0 = .ok (.aload_n 0, 1) := by decide +kernel
theorem dX4_takePlace_1 : decode cX4_takePlace 1 = .ok (.getfield 21, 3) := by decide +kernel
theorem dX4_takePlace_4 : decode cX4_takePlace 4 = .ok (.iload_n 1, 1) := by decide +kernel
theorem dX4_takePlace_5 : decode cX4_takePlace 5 = .ok (.iaload, 1) := by decide +kernel
theorem dX4_takePlace_6 : decode cX4_takePlace 6 = .ok (.istore_n 2, 1) := by decide +kernel
theorem dX4_takePlace_7 : decode cX4_takePlace 7 = .ok (.aload_n 0, 1) := by decide +kernel
theorem dX4_takePlace_8 : decode cX4_takePlace 8 = .ok (.getfield 21, 3) := by decide +kernel
theorem dX4_takePlace_11 : decode cX4_takePlace 11 = .ok (.iload_n 1, 1) := by decide +kernel
theorem dX4_takePlace_12 : decode cX4_takePlace 12 = .ok (.iload_n 2, 1) := by decide +kernel
theorem dX4_takePlace_13 : decode cX4_takePlace 13 = .ok (.iconst 1, 1) := by decide +kernel
theorem dX4_takePlace_14 : decode cX4_takePlace 14 = .ok (.iadd, 1) := by decide +kernel
theorem dX4_takePlace_15 : decode cX4_takePlace 15 = .ok (.iastore, 1) := by decide +kernel
theorem dX4_takePlace_16 : decode cX4_takePlace 16 = .ok (.aload_n 0, 1) := by decide +kernel
theorem dX4_takePlace_17 : decode cX4_takePlace 17 = .ok (.getfield 21, 3) := by decide +kernel
theorem dX4_takePlace_20 : decode cX4_takePlace 20 = .ok (.iload_n 1, 1) := by decide +kernel
theorem dX4_takePlace_21 : decode cX4_takePlace 21 = .ok (.iaload, 1) := by decide +kernel
theorem dX4_takePlace_22 : decode cX4_takePlace 22 = .ok (.aload_n 0, 1) := by decide +kernel
theorem dX4_takePlace_23 : decode cX4_takePlace 23 = .ok (.getfield 15, 3) := by decide +kernel
theorem dX4_takePlace_26 : decode cX4_takePlace 26 = .ok (.iload_n 1, 1) := by decide +kernel
theorem dX4_takePlace_27 : decode cX4_takePlace 27 = .ok (.iaload, 1) := by decide +kernel
theorem dX4_takePlace_28 : decode cX4_takePlace 28 = .ok (.if_icmp .lt 10, 3) := by decide +kernel
theorem dX4_takePlace_31 : decode cX4_takePlace 31 = .ok (.aload_n 0, 1) := by decide +kernel
theorem dX4_takePlace_32 : decode cX4_takePlace 32 = .ok (.getfield 9, 3) := by decide +kernel
theorem dX4_takePlace_35 : decode cX4_takePlace 35 = .ok (.iload_n 1, 1) := by decide +kernel
theorem dX4_takePlace_36 : decode cX4_takePlace 36 = .ok (.iconst 3, 1) := by decide +kernel
theorem dX4_takePlace_37 : decode cX4_takePlace 37 = .ok (.iastore, 1) := by decide +kernel
theorem dX4_takePlace_38 : decode cX4_takePlace 38 = .ok (.aload_n 0, 1) := by decide +kernel
theorem dX4_takePlace_39 : decode cX4_takePlace 39 = .ok (.dup, 1) := by decide +kernel
theorem dX4_takePlace_40 : decode cX4_takePlace 40 = .ok (.getfield 30, 3) := by decide +kernel
theorem dX4_takePlace_43 : decode cX4_takePlace 43 = .ok (.iconst 1, 1) := by decide +kernel
theorem dX4_takePlace_44 : decode cX4_takePlace 44 = .ok (.iadd, 1) := by decide +kernel
theorem dX4_takePlace_45 : decode cX4_takePlace 45 = .ok (.putfield 30, 3) := by decide +kernel
theorem dX4_takePlace_48 : decode cX4_takePlace 48 = .ok (.aload_n 0, 1) := by decide +kernel
theorem dX4_takePlace_49 : decode cX4_takePlace 49 = .ok (.getfield 27, 3) := by decide +kernel
theorem dX4_takePlace_52 : decode cX4_takePlace 52 = .ok (.iload_n 1, 1) := by decide +kernel
theorem dX4_takePlace_53 : decode cX4_takePlace 53 = .ok (.aload_n 0, 1) := by decide +kernel
theorem dX4_takePlace_54 : decode cX4_takePlace 54 = .ok (.getfield 30, 3) := by decide +kernel
theorem dX4_takePlace_57 : decode cX4_takePlace 57 = .ok (.iastore, 1) := by decide +kernel
theorem dX4_takePlace_58 : decode cX4_takePlace 58 = .ok (.iload_n 2, 1) := by decide +kernel
theorem dX4_takePlace_59 : decode cX4_takePlace 59 = .ok (.ireturn, 1) := by decide +kernel
theorem dX4_clear_0 : decode cX4_clear 0 = .ok (.aload_n 0, 1) := by decide +kernel
theorem dX4_clear_1 : decode cX4_clear 1 = .ok (.getfield 9, 3) := by decide +kernel
theorem dX4_clear_4 : decode cX4_clear 4 = .ok (.iload_n 1, 1) := by decide +kernel
theorem dX4_clear_5 : decode cX4_clear 5 = .ok (.iconst 0, 1) := by decide +kernel
theorem dX4_clear_6 : decode cX4_clear 6 = .ok (.iastore, 1) := by decide +kernel
theorem dX4_clear_7 : decode cX4_clear 7 = .ok (.aload_n 0, 1) := by decide +kernel
theorem dX4_clear_8 : decode cX4_clear 8 = .ok (.getfield 21, 3) := by decide +kernel
theorem dX4_clear_11 : decode cX4_clear 11 = .ok (.iload_n 1, 1) := by decide +kernel
theorem dX4_clear_12 : decode cX4_clear 12 = .ok (.iconst 0, 1) := by decide +kernel
theorem dX4_clear_13 : decode cX4_clear 13 = .ok (.iastore, 1) := by decide +kernel
theorem dX4_clear_14 : decode cX4_clear 14 = .ok (.aload_n 0, 1) := by decide +kernel
theorem dX4_clear_15 : decode cX4_clear 15 = .ok (.getfield 24, 3) := by decide +kernel
theorem dX4_clear_18 : decode cX4_clear 18 = .ok (.iload_n 1, 1) := by decide +kernel
theorem dX4_clear_19 : decode cX4_clear 19 = .ok (.dup2, 1) := by decide +kernel
theorem dX4_clear_20 : decode cX4_clear 20 = .ok (.iaload, 1) := by decide +kernel
theorem dX4_clear_21 : decode cX4_clear 21 = .ok (.iconst 1, 1) := by decide +kernel
theorem dX4_clear_22 : decode cX4_clear 22 = .ok (.iadd, 1) := by decide +kernel
theorem dX4_clear_23 : decode cX4_clear 23 = .ok (.iastore, 1) := by decide +kernel
theorem dX4_clear_24 : decode cX4_clear 24 = .ok (.return_, 1) := by decide +kernel
theorem dX5_init_0 : decode cX5_init 0 = .ok (.aload_n 0, 1) := by decide +kernel
theorem dX5_init_1 : decode cX5_init 1 = .ok (.invokespecial 3, 3) := by decide +kernel
theorem dX5_init_4 : decode cX5_init 4 = .ok (.aload_n 0, 1) := by decide +kernel
theorem dX5_init_5 : decode cX5_init 5 = .ok (.new 9, 3) := by decide +kernel
theorem dX5_init_8 : decode cX5_init 8 = .ok (.dup, 1) := by decide +kernel
theorem dX5_init_9 : decode cX5_init 9 = .ok (.invokespecial 11, 3) := by decide +kernel
theorem dX5_init_12 : decode cX5_init 12 = .ok (.putfield 12, 3) := by decide +kernel
theorem dX5_init_15 : decode cX5_init 15 = .ok (.aload_n 0, 1) := by decide +kernel
theorem dX5_init_16 : decode cX5_init 16 = .ok (.new 9, 3) := by decide +kernel
theorem dX5_init_19 : decode cX5_init 19 = .ok (.dup, 1) := by decide +kernel
theorem dX5_init_20 : decode cX5_init 20 = .ok (.invokespecial 11, 3) := by decide +kernel
theorem dX5_init_23 : decode cX5_init 23 = .ok (.putfield 16, 3) := by decide +kernel
theorem dX5_init_26 : decode cX5_init 26 = .ok (.aload_n 0, 1) := by decide +kernel
theorem dX5_init_27 : decode cX5_init 27 = .ok (.iconst 0, 1) := by decide +kernel
theorem dX5_init_28 : decode cX5_init 28 = .ok (.putfield 19, 3) := by decide +kernel
theorem dX5_init_31 : decode cX5_init 31 = .ok (.aload_n 0, 1) := by decide +kernel
theorem dX5_init_32 : decode cX5_init 32 = .ok (.new 23, 3) := by decide +kernel
theorem dX5_init_35 : decode cX5_init 35 = .ok (.dup, 1) := by decide +kernel
theorem dX5_init_36 : decode cX5_init 36 = .ok (.invokespecial 25, 3) := by decide +kernel
theorem dX5_init_39 : decode cX5_init 39 = .ok (.putfield 26, 3) := by decide +kernel
theorem dX5_init_42 : decode cX5_init 42 = .ok (.aload_n 0, 1) := by decide +kernel
theorem dX5_init_43 : decode cX5_init 43 = .ok (.new 30, 3) := by decide +kernel
theorem dX5_init_46 : decode cX5_init 46 = .ok (.dup, 1) := by decide +kernel
theorem dX5_init_47 : decode cX5_init 47 = .ok (.invokespecial 32, 3) := by decide +kernel
theorem dX5_init_50 : decode cX5_init 50 = .ok (.putfield 33, 3) := by decide +kernel
theorem dX5_init_53 : decode cX5_init 53 = .ok (.return_, 1) := by decide +kernel
theorem dX5_set_0 : decode cX5_set 0 = .ok (.aload_n 0, 1) := by decide +kernel
theorem dX5_set_1 : decode cX5_set 1 = .ok (.getfield 26, 3) := by decide +kernel
theorem dX5_set_4 : decode cX5_set 4 = .ok (.aload_n 0, 1) := by decide +kernel
theorem dX5_set_5 : decode cX5_set 5 = .ok (.getfield 12, 3) := by decide +kernel
theorem dX5_set_8 : decode cX5_set 8 = .ok (.invokevirtual 37, 3) := by decide +kernel
theorem dX5_set_11 : decode cX5_set 11 = .ok (.pop, 1) := by decide +kernel
theorem dX5_set_12 : decode cX5_set 12 = .ok (.aload_n 0, 1) := by decide +kernel
theorem dX5_set_13 : decode cX5_set 13 = .ok (.getfield 26, 3) := by decide +kernel
theorem dX5_set_16 : decode cX5_set 16 = .ok (.aload_n 0, 1) := by decide +kernel
theorem dX5_set_17 : decode cX5_set 17 = .ok (.getfield 12, 3) := by decide +kernel
theorem dX5_set_20 : decode cX5_set 20 = .ok (.iload_n 1, 1) := by decide +kernel
theorem dX5_set_21 : decode cX5_set 21 = .ok (.iload_n 2, 1) := by decide +kernel
theorem dX5_set_22 : decode cX5_set 22 = .ok (.invokevirtual 41, 3) := by decide +kernel
theorem dX5_set_25 : decode cX5_set 25 = .ok (.invokevirtual 45, 3) := by decide +kernel
theorem dX5_set_28 : decode cX5_set 28 = .ok (.ireturn, 1) := by decide +kernel
theorem dX5_setZone_0 : decode cX5_setZone 0 = .ok (.aload_n 0, 1) := by decide +kernel
theorem dX5_setZone_1 : decode cX5_setZone 1 = .ok (.getfield 26, 3) := by decide +kernel
theorem dX5_setZone_4 : decode cX5_setZone 4 = .ok (.aload_n 0, 1) := by decide +kernel
theorem dX5_setZone_5 : decode cX5_setZone 5 = .ok (.getfield 12, 3) := by decide +kernel
theorem dX5_setZone_8 : decode cX5_setZone 8 = .ok (.invokevirtual 37, 3) := by decide +kernel
theorem dX5_setZone_11 : decode cX5_setZone 11 = .ok (.pop, 1) := by decide +kernel
theorem dX5_setZone_12 : decode cX5_setZone 12 = .ok (.aload_n 0, 1) := by decide +kernel
theorem dX5_setZone_13 : decode cX5_setZone 13 = .ok (.getfield 26, 3) := by decide +kernel
theorem dX5_setZone_16 : decode cX5_setZone 16 = .ok (.iload_n 2, 1) := by decide +kernel
theorem dX5_setZone_17 : decode cX5_setZone 17 = .ok (.ifCond .eq 15, 3) := by decide +kernel
theorem dX5_setZone_20 : decode cX5_setZone 20 = .ok (.aload_n 0, 1) := by decide +kernel
theorem dX5_setZone_21 : decode cX5_setZone 21 = .ok (.getfield 12, 3) := by decide +kernel
theorem dX5_setZone_24 : decode cX5_setZone 24 = .ok (.iload_n 1, 1) := by decide +kernel
theorem dX5_setZone_25 : decode cX5_setZone 25 = .ok (.iload_n 3, 1) := by decide +kernel
theorem dX5_setZone_26 : decode cX5_setZone 26 = .ok (.invokevirtual 49, 3) := by decide +kernel
theorem dX5_setZone_29 : decode cX5_setZone 29 = .ok (.goto 12, 3) := by decide +kernel
theorem dX5_setZone_32 : decode cX5_setZone 32 = .ok (.aload_n 0, 1) := by decide +kernel
theorem dX5_setZone_33 : decode cX5_setZone 33 = .ok (.getfield 12, 3) := by decide +kernel
theorem dX5_setZone_36 : decode cX5_setZone 36 = .ok (.iload_n 1, 1) := by decide +kernel
theorem dX5_setZone_37 : decode cX5_setZone 37 = .ok (.iload_n 3, 1) := by decide +kernel
theorem dX5_setZone_38 : decode cX5_setZone 38 = .ok (.invokevirtual 52, 3) := by decide +kernel
theorem dX5_setZone_41 : decode cX5_setZone 41 = .ok (.invokevirtual 45, 3) := by decide +kernel
theorem dX5_setZone_44 : decode cX5_setZone 44 = .ok (.ireturn, 1) := by decide +kernel
theorem dX5_setWindow_0 : decode cX5_setWindow 0 = .ok (.aload_n 0, 1) := by decide +kernel
theorem dX5_setWindow_1 : decode cX5_setWindow 1 = .ok (.getfield 26, 3) := by decide +kernel
theorem dX5_setWindow_4 : decode cX5_setWindow 4 = .ok (.aload_n 0, 1) := by decide +kernel
theorem dX5_setWindow_5 : decode cX5_setWindow 5 = .ok (.getfield 12, 3) := by decide +kernel
theorem dX5_setWindow_8 : decode cX5_setWindow 8 = .ok (.invokevirtual 37, 3) := by decide +kernel
theorem dX5_setWindow_11 : decode cX5_setWindow 11 = .ok (.pop, 1) := by decide +kernel
theorem dX5_setWindow_12 : decode cX5_setWindow 12 = .ok (.aload_n 0, 1) := by decide +kernel
theorem dX5_setWindow_13 : decode cX5_setWindow 13 = .ok (.getfield 26, 3) := by decide +kernel
theorem dX5_setWindow_16 : decode cX5_setWindow 16 = .ok (.aload_n 0, 1) := by decide +kernel
theorem dX5_setWindow_17 : decode cX5_setWindow 17 = .ok (.getfield 12, 3) := by decide +kernel
theorem dX5_setWindow_20 : decode cX5_setWindow 20 = .ok (.iload_n 1, 1) := by decide +kernel
theorem dX5_setWindow_21 : decode cX5_setWindow 21 = .ok (.iload_n 2, 1) := by decide +kernel
theorem dX5_setWindow_22 : decode cX5_setWindow 22 = .ok (.invokevirtual 55, 3) := by decide +kernel
theorem dX5_setWindow_25 : decode cX5_setWindow 25 = .ok (.invokevirtual 45, 3) := by decide +kernel
theorem dX5_setWindow_28 : decode cX5_setWindow 28 = .ok (.ireturn, 1) := by decide +kernel
theorem dX5_append_0 : decode cX5_append 0 = .ok (.aload_n 0, 1) := by decide +kernel
theorem dX5_append_1 : decode cX5_append 1 = .ok (.getfield 26, 3) := by decide +kernel
theorem dX5_append_4 : decode cX5_append 4 = .ok (.aload_n 0, 1) := by decide +kernel
theorem dX5_append_5 : decode cX5_append 5 = .ok (.getfield 12, 3) := by decide +kernel
theorem dX5_append_8 : decode cX5_append 8 = .ok (.invokevirtual 37, 3) := by decide +kernel
theorem dX5_append_11 : decode cX5_append 11 = .ok (.pop, 1) := by decide +kernel
theorem dX5_append_12 : decode cX5_append 12 = .ok (.aload_n 0, 1) := by decide +kernel
theorem dX5_append_13 : decode cX5_append 13 = .ok (.getfield 26, 3) := by decide +kernel
theorem dX5_append_16 : decode cX5_append 16 = .ok (.aload_n 0, 1) := by decide +kernel
theorem dX5_append_17 : decode cX5_append 17 = .ok (.getfield 12, 3) := by decide +kernel
theorem dX5_append_20 : decode cX5_append 20 = .ok (.iload_n 1, 1) := by decide +kernel
theorem dX5_append_21 : decode cX5_append 21 = .ok (.iload_n 2, 1) := by decide +kernel
theorem dX5_append_22 : decode cX5_append 22 = .ok (.iload_n 3, 1) := by decide +kernel
theorem dX5_append_23 : decode cX5_append 23 = .ok (.invokevirtual 58, 3) := by decide +kernel
theorem dX5_append_26 : decode cX5_append 26 = .ok (.invokevirtual 45, 3) := by decide +kernel
theorem dX5_append_29 : decode cX5_append 29 = .ok (.ireturn, 1) := by decide +kernel
theorem dX5_reset_0 : decode cX5_reset 0 = .ok (.aload_n 0, 1) := by decide +kernel
theorem dX5_reset_1 : decode cX5_reset 1 = .ok (.getfield 26, 3) := by decide +kernel
theorem dX5_reset_4 : decode cX5_reset 4 = .ok (.aload_n 0, 1) := by decide +kernel
theorem dX5_reset_5 : decode cX5_reset 5 = .ok (.getfield 12, 3) := by decide +kernel
theorem dX5_reset_8 : decode cX5_reset 8 = .ok (.invokevirtual 37, 3) := by decide +kernel
theorem dX5_reset_11 : decode cX5_reset 11 = .ok (.pop, 1) := by decide +kernel
theorem dX5_reset_12 : decode cX5_reset 12 = .ok (.aload_n 0, 1) := by decide +kernel
theorem dX5_reset_13 : decode cX5_reset 13 = .ok (.getfield 26, 3) := by decide +kernel
theorem dX5_reset_16 : decode cX5_reset 16 = .ok (.aload_n 0, 1) := by decide +kernel
theorem dX5_reset_17 : decode cX5_reset 17 = .ok (.getfield 12, 3) := by decide +kernel
theorem dX5_reset_20 : decode cX5_reset 20 = .ok (.iload_n 1, 1) := by decide +kernel
theorem dX5_reset_21 : decode cX5_reset 21 = .ok (.invokevirtual 62, 3) := by decide +kernel
theorem dX5_reset_24 : decode cX5_reset 24 = .ok (.invokevirtual 45, 3) := by decide +kernel
theorem dX5_reset_27 : decode cX5_reset 27 = .ok (.ireturn, 1) := by decide +kernel
theorem dX5_finish_0 : decode cX5_finish 0 = .ok (.aload_n 0, 1) := by decide +kernel
theorem dX5_finish_1 : decode cX5_finish 1 = .ok (.getfield 26, 3) := by decide +kernel
theorem dX5_finish_4 : decode cX5_finish 4 = .ok (.aload_n 0, 1) := by decide +kernel
theorem dX5_finish_5 : decode cX5_finish 5 = .ok (.getfield 12, 3) := by decide +kernel
theorem dX5_finish_8 : decode cX5_finish 8 = .ok (.invokevirtual 37, 3) := by decide +kernel
theorem dX5_finish_11 : decode cX5_finish 11 = .ok (.pop, 1) := by decide +kernel
theorem dX5_finish_12 : decode cX5_finish 12 = .ok (.aload_n 0, 1) := by decide +kernel
theorem dX5_finish_13 : decode cX5_finish 13 = .ok (.getfield 26, 3) := by decide +kernel
theorem dX5_finish_16 : decode cX5_finish 16 = .ok (.aload_n 0, 1) := by decide +kernel
theorem dX5_finish_17 : decode cX5_finish 17 = .ok (.getfield 12, 3) := by decide +kernel
theorem dX5_finish_20 : decode cX5_finish 20 = .ok (.iload_n 1, 1) := by decide +kernel
theorem dX5_finish_21 : decode cX5_finish 21 = .ok (.invokevirtual 65, 3) := by decide +kernel
theorem dX5_finish_24 : decode cX5_finish 24 = .ok (.invokevirtual 45, 3) := by decide +kernel
theorem dX5_finish_27 : decode cX5_finish 27 = .ok (.ireturn, 1) := by decide +kernel
theorem dX5_close_0 : decode cX5_close 0 = .ok (.aload_n 0, 1) := by decide +kernel
theorem dX5_close_1 : decode cX5_close 1 = .ok (.getfield 26, 3) := by decide +kernel
theorem dX5_close_4 : decode cX5_close 4 = .ok (.aload_n 0, 1) := by decide +kernel
theorem dX5_close_5 : decode cX5_close 5 = .ok (.getfield 12, 3) := by decide +kernel
theorem dX5_close_8 : decode cX5_close 8 = .ok (.invokevirtual 37, 3) := by decide +kernel
theorem dX5_close_11 : decode cX5_close 11 = .ok (.pop, 1) := by decide +kernel
theorem dX5_close_12 : decode cX5_close 12 = .ok (.aload_n 0, 1) := by decide +kernel
theorem dX5_close_13 : decode cX5_close 13 = .ok (.getfield 26, 3) := by decide +kernel
theorem dX5_close_16 : decode cX5_close 16 = .ok (.aload_n 0, 1) := by decide +kernel
theorem dX5_close_17 : decode cX5_close 17 = .ok (.getfield 12, 3) := by decide +kernel
theorem dX5_close_20 : decode cX5_close 20 = .ok (.iload_n 1, 1) := by decide +kernel
theorem dX5_close_21 : decode cX5_close 21 = .ok (.invokevirtual 68, 3) := by decide +kernel
theorem dX5_close_24 : decode cX5_close 24 = .ok (.invokevirtual 45, 3) := by decide +kernel
theorem dX5_close_27 : decode cX5_close 27 = .ok (.ireturn, 1) := by decide +kernel
theorem dX5_pass_0 : decode cX5_pass 0 = .ok (.aload_n 0, 1) := by decide +kernel
theorem dX5_pass_1 : decode cX5_pass 1 = .ok (.getfield 26, 3) := by decide +kernel
theorem dX5_pass_4 : decode cX5_pass 4 = .ok (.aload_n 0, 1) := by decide +kernel
theorem dX5_pass_5 : decode cX5_pass 5 = .ok (.getfield 12, 3) := by decide +kernel
theorem dX5_pass_8 : decode cX5_pass 8 = .ok (.invokevirtual 37, 3) := by decide +kernel
theorem dX5_pass_11 : decode cX5_pass 11 = .ok (.pop, 1) := by decide +kernel
theorem dX5_pass_12 : decode cX5_pass 12 = .ok (.aload_n 0, 1) := by decide +kernel
theorem dX5_pass_13 : decode cX5_pass 13 = .ok (.getfield 26, 3) := by decide +kernel
theorem dX5_pass_16 : decode cX5_pass 16 = .ok (.aload_n 0, 1) := by decide +kernel
theorem dX5_pass_17 : decode cX5_pass 17 = .ok (.getfield 12, 3) := by decide +kernel
theorem dX5_pass_20 : decode cX5_pass 20 = .ok (.iload_n 1, 1) := by decide +kernel
theorem dX5_pass_21 : decode cX5_pass 21 = .ok (.invokevirtual 71, 3) := by decide +kernel
theorem dX5_pass_24 : decode cX5_pass 24 = .ok (.invokevirtual 45, 3) := by decide +kernel
theorem dX5_pass_27 : decode cX5_pass 27 = .ok (.ireturn, 1) := by decide +kernel
theorem dX5_follow_0 : decode cX5_follow 0 = .ok (.aload_n 0, 1) := by decide +kernel
theorem dX5_follow_1 : decode cX5_follow 1 = .ok (.getfield 33, 3) := by decide +kernel
theorem dX5_follow_4 : decode cX5_follow 4 = .ok (.invokevirtual 74, 3) := by decide +kernel
theorem dX5_follow_7 : decode cX5_follow 7 = .ok (.istore_n 1, 1) := by decide +kernel
theorem dX5_follow_8 : decode cX5_follow 8 = .ok (.iload_n 1, 1) := by decide +kernel
theorem dX5_follow_9 : decode cX5_follow 9 = .ok (.iconst (-1), 1) := by decide +kernel
theorem dX5_follow_10 : decode cX5_follow 10 = .ok (.if_icmp .eq 8, 3) := by decide +kernel
theorem dX5_follow_13 : decode cX5_follow 13 = .ok (.bipush (-100), 2) := by decide +kernel
theorem dX5_follow_15 : decode cX5_follow 15 = .ok (.iload_n 1, 1) := by decide +kernel
theorem dX5_follow_16 : decode cX5_follow 16 = .ok (.isub, 1) := by decide +kernel
theorem dX5_follow_17 : decode cX5_follow 17 = .ok (.ireturn, 1) := by decide +kernel
theorem dX5_follow_18 : decode cX5_follow 18 = .ok (.aload_n 0, 1) := by decide +kernel
theorem dX5_follow_19 : decode cX5_follow 19 = .ok (.getfield 26, 3) := by decide +kernel
theorem dX5_follow_22 : decode cX5_follow 22 = .ok (.aload_n 0, 1) := by decide +kernel
theorem dX5_follow_23 : decode cX5_follow 23 = .ok (.getfield 12, 3) := by decide +kernel
theorem dX5_follow_26 : decode cX5_follow 26 = .ok (.invokevirtual 37, 3) := by decide +kernel
theorem dX5_follow_29 : decode cX5_follow 29 = .ok (.pop, 1) := by decide +kernel
theorem dX5_follow_30 : decode cX5_follow 30 = .ok (.iconst 0, 1) := by decide +kernel
theorem dX5_follow_31 : decode cX5_follow 31 = .ok (.istore_n 2, 1) := by decide +kernel
theorem dX5_follow_32 : decode cX5_follow 32 = .ok (.iconst 0, 1) := by decide +kernel
theorem dX5_follow_33 : decode cX5_follow 33 = .ok (.istore_n 3, 1) := by decide +kernel
theorem dX5_follow_34 : decode cX5_follow 34 = .ok (.iload_n 3, 1) := by decide +kernel
theorem dX5_follow_35 : decode cX5_follow 35 = .ok (.bipush 60, 2) := by decide +kernel
theorem dX5_follow_37 : decode cX5_follow 37 = .ok (.if_icmp .ge 64, 3) := by decide +kernel
theorem dX5_follow_40 : decode cX5_follow 40 = .ok (.iload_n 2, 1) := by decide +kernel
theorem dX5_follow_41 : decode cX5_follow 41 = .ok (.aload_n 0, 1) := by decide +kernel
theorem dX5_follow_42 : decode cX5_follow 42 = .ok (.getfield 33, 3) := by decide +kernel
theorem dX5_follow_45 : decode cX5_follow 45 = .ok (.getfield 78, 3) := by decide +kernel
theorem dX5_follow_48 : decode cX5_follow 48 = .ok (.if_icmp .ge 53, 3) := by decide +kernel
theorem dX5_follow_51 : decode cX5_follow 51 = .ok (.aload_n 0, 1) := by decide +kernel
theorem dX5_follow_52 : decode cX5_follow 52 = .ok (.iload_n 2, 1) := by decide +kernel
theorem dX5_follow_53 : decode cX5_follow 53 = .ok (.invokevirtual 82, 3) := by decide +kernel
theorem dX5_follow_56 : decode cX5_follow 56 = .ok (.istore 4, 2) := by decide +kernel
theorem dX5_follow_58 : decode cX5_follow 58 = .ok (.iload 4, 2) := by decide +kernel
theorem dX5_follow_60 : decode cX5_follow 60 = .ok (.ifCond .ge 24, 3) := by decide +kernel
theorem dX5_follow_63 : decode cX5_follow 63 = .ok (.iload 4, 2) := by decide +kernel
theorem dX5_follow_65 : decode cX5_follow 65 = .ok (.bipush (-5), 2) := by decide +kernel
theorem dX5_follow_67 : decode cX5_follow 67 = .ok (.if_icmp .eq 17, 3) := by decide +kernel
theorem dX5_follow_70 : decode cX5_follow 70 = .ok (.aload_n 0, 1) := by decide +kernel
theorem dX5_follow_71 : decode cX5_follow 71 = .ok (.getfield 26, 3) := by decide +kernel
theorem dX5_follow_74 : decode cX5_follow 74 = .ok (.aload_n 0, 1) := by decide +kernel
theorem dX5_follow_75 : decode cX5_follow 75 = .ok (.getfield 12, 3) := by decide +kernel
theorem dX5_follow_78 : decode cX5_follow 78 = .ok (.invokevirtual 85, 3) := by decide +kernel
theorem dX5_follow_81 : decode cX5_follow 81 = .ok (.iload 4, 2) := by decide +kernel
theorem dX5_follow_83 : decode cX5_follow 83 = .ok (.ireturn, 1) := by decide +kernel
theorem dX5_follow_84 : decode cX5_follow 84 = .ok (.aload_n 0, 1) := by decide +kernel
theorem dX5_follow_85 : decode cX5_follow 85 = .ok (.getfield 33, 3) := by decide +kernel
theorem dX5_follow_88 : decode cX5_follow 88 = .ok (.iload_n 2, 1) := by decide +kernel
theorem dX5_follow_89 : decode cX5_follow 89 = .ok (.invokevirtual 89, 3) := by decide +kernel
theorem dX5_follow_92 : decode cX5_follow 92 = .ok (.iconst 1, 1) := by decide +kernel
theorem dX5_follow_93 : decode cX5_follow 93 = .ok (.iadd, 1) := by decide +kernel
theorem dX5_follow_94 : decode cX5_follow 94 = .ok (.istore_n 2, 1) := by decide +kernel
theorem dX5_follow_95 : decode cX5_follow 95 = .ok (.iinc 3 1, 3) := by decide +kernel
theorem dX5_follow_98 : decode cX5_follow 98 = .ok (.goto (-64), 3) := by decide +kernel
theorem dX5_follow_101 : decode cX5_follow 101 = .ok (.aload_n 0, 1) := by decide +kernel
theorem dX5_follow_102 : decode cX5_follow 102 = .ok (.getfield 26, 3) := by decide +kernel
theorem dX5_follow_105 : decode cX5_follow 105 = .ok (.iload_n 3, 1) := by decide +kernel
theorem dX5_follow_106 : decode cX5_follow 106 = .ok (.invokevirtual 45, 3) := by decide +kernel
theorem dX5_follow_109 : decode cX5_follow 109 = .ok (.ireturn, 1) := by decide +kernel
theorem dX5_type_0 : decode cX5_type 0 = .ok (.aload_n 0, 1) := by decide +kernel
theorem dX5_type_1 : decode cX5_type 1 = .ok (.getfield 33, 3) := by decide +kernel
theorem dX5_type_4 : decode cX5_type 4 = .ok (.iload_n 1, 1) := by decide +kernel
theorem dX5_type_5 : decode cX5_type 5 = .ok (.invokevirtual 92, 3) := by decide +kernel
theorem dX5_type_8 : decode cX5_type 8 = .ok (.ireturn, 1) := by decide +kernel
theorem dX5_clearText_0 : decode cX5_clearText 0 = .ok (.aload_n 0, 1) := by decide +kernel
theorem dX5_clearText_1 : decode cX5_clearText 1 = .ok (.getfield 33, 3) := by decide +kernel
theorem dX5_clearText_4 : decode cX5_clearText 4 = .ok (.invokevirtual 96, 3) := by decide +kernel
theorem dX5_clearText_7 : decode cX5_clearText 7 = .ok (.ireturn, 1) := by decide +kernel
theorem dX5_undo_0 : decode cX5_undo 0 = .ok (.aload_n 0, 1) := by decide +kernel
theorem dX5_undo_1 : decode cX5_undo 1 = .ok (.getfield 26, 3) := by decide +kernel
theorem dX5_undo_4 : decode cX5_undo 4 = .ok (.aload_n 0, 1) := by decide +kernel
theorem dX5_undo_5 : decode cX5_undo 5 = .ok (.getfield 12, 3) := by decide +kernel
theorem dX5_undo_8 : decode cX5_undo 8 = .ok (.invokevirtual 99, 3) := by decide +kernel
theorem dX5_undo_11 : decode cX5_undo 11 = .ok (.ireturn, 1) := by decide +kernel
theorem dX5_keep_0 : decode cX5_keep 0 = .ok (.aload_n 0, 1) := by decide +kernel
theorem dX5_keep_1 : decode cX5_keep 1 = .ok (.getfield 16, 3) := by decide +kernel
theorem dX5_keep_4 : decode cX5_keep 4 = .ok (.aload_n 0, 1) := by decide +kernel
theorem dX5_keep_5 : decode cX5_keep 5 = .ok (.getfield 12, 3) := by decide +kernel
theorem dX5_keep_8 : decode cX5_keep 8 = .ok (.invokevirtual 103, 3) := by decide +kernel
theorem dX5_keep_11 : decode cX5_keep 11 = .ok (.aload_n 0, 1) := by decide +kernel
theorem dX5_keep_12 : decode cX5_keep 12 = .ok (.iconst 1, 1) := by decide +kernel
theorem dX5_keep_13 : decode cX5_keep 13 = .ok (.putfield 19, 3) := by decide +kernel
theorem dX5_keep_16 : decode cX5_keep 16 = .ok (.aload_n 0, 1) := by decide +kernel
theorem dX5_keep_17 : decode cX5_keep 17 = .ok (.getfield 12, 3) := by decide +kernel
theorem dX5_keep_20 : decode cX5_keep 20 = .ok (.getfield 106, 3) := by decide +kernel
theorem dX5_keep_23 : decode cX5_keep 23 = .ok (.ireturn, 1) := by decide +kernel
theorem dX5_restore_0 : decode cX5_restore 0 = .ok (.aload_n 0, 1) := by decide +kernel
theorem dX5_restore_1 : decode cX5_restore 1 = .ok (.getfield 19, 3) := by decide +kernel
theorem dX5_restore_4 : decode cX5_restore 4 = .ok (.ifCond .ne 6, 3) := by decide +kernel
theorem dX5_restore_7 : decode cX5_restore 7 = .ok (.bipush (-5), 2) := by decide +kernel
theorem dX5_restore_9 : decode cX5_restore 9 = .ok (.ireturn, 1) := by decide +kernel
theorem dX5_restore_10 : decode cX5_restore 10 = .ok (.aload_n 0, 1) := by decide +kernel
theorem dX5_restore_11 : decode cX5_restore 11 = .ok (.getfield 26, 3) := by decide +kernel
theorem dX5_restore_14 : decode cX5_restore 14 = .ok (.aload_n 0, 1) := by decide +kernel
theorem dX5_restore_15 : decode cX5_restore 15 = .ok (.getfield 12, 3) := by decide +kernel
theorem dX5_restore_18 : decode cX5_restore 18 = .ok (.invokevirtual 37, 3) := by decide +kernel
theorem dX5_restore_21 : decode cX5_restore 21 = .ok (.pop, 1) := by decide +kernel
theorem dX5_restore_22 : decode cX5_restore 22 = .ok (.aload_n 0, 1) := by decide +kernel
theorem dX5_restore_23 : decode cX5_restore 23 = .ok (.getfield 12, 3) := by decide +kernel
theorem dX5_restore_26 : decode cX5_restore 26 = .ok (.aload_n 0, 1) := by decide +kernel
theorem dX5_restore_27 : decode cX5_restore 27 = .ok (.getfield 16, 3) := by decide +kernel
theorem dX5_restore_30 : decode cX5_restore 30 = .ok (.invokevirtual 103, 3) := by decide +kernel
theorem dX5_restore_33 : decode cX5_restore 33 = .ok (.aload_n 0, 1) := by decide +kernel
theorem dX5_restore_34 : decode cX5_restore 34 = .ok (.getfield 26, 3) := by decide +kernel
theorem dX5_restore_37 : decode cX5_restore 37 = .ok (.aload_n 0, 1) := by decide +kernel
theorem dX5_restore_38 : decode cX5_restore 38 = .ok (.getfield 12, 3) := by decide +kernel
theorem dX5_restore_41 : decode cX5_restore 41 = .ok (.getfield 106, 3) := by decide +kernel
theorem dX5_restore_44 : decode cX5_restore 44 = .ok (.invokevirtual 45, 3) := by decide +kernel
theorem dX5_restore_47 : decode cX5_restore 47 = .ok (.ireturn, 1) := by decide +kernel
theorem dX5_read_0 : decode cX5_read 0 = .ok (.aload_n 0, 1) := by decide +kernel
theorem dX5_read_1 : decode cX5_read 1 = .ok (.getfield 12, 3) := by decide +kernel
theorem dX5_read_4 : decode cX5_read 4 = .ok (.iload_n 1, 1) := by decide +kernel
theorem dX5_read_5 : decode cX5_read 5 = .ok (.iload_n 2, 1) := by decide +kernel
theorem dX5_read_6 : decode cX5_read 6 = .ok (.invokevirtual 109, 3) := by decide +kernel
theorem dX5_read_9 : decode cX5_read 9 = .ok (.ireturn, 1) := by decide +kernel
theorem dX5_zone_0 : decode cX5_zone 0 = .ok (.aload_n 0, 1) := by decide +kernel
theorem dX5_zone_1 : decode cX5_zone 1 = .ok (.getfield 12, 3) := by decide +kernel
theorem dX5_zone_4 : decode cX5_zone 4 = .ok (.iload_n 1, 1) := by decide +kernel
theorem dX5_zone_5 : decode cX5_zone 5 = .ok (.iload_n 2, 1) := by decide +kernel
theorem dX5_zone_6 : decode cX5_zone 6 = .ok (.invokevirtual 112, 3) := by decide +kernel
theorem dX5_zone_9 : decode cX5_zone 9 = .ok (.ireturn, 1) := by decide +kernel
theorem dX5_appended_0 : decode cX5_appended 0 = .ok (.aload_n 0, 1) := by decide +kernel
theorem dX5_appended_1 : decode cX5_appended 1 = .ok (.getfield 12, 3) := by decide +kernel
theorem dX5_appended_4 : decode cX5_appended 4 = .ok (.getfield 115, 3) := by decide +kernel
theorem dX5_appended_7 : decode cX5_appended 7 = .ok (.iload_n 1, 1) := by decide +kernel
theorem dX5_appended_8 : decode cX5_appended 8 = .ok (.iload_n 2, 1) := by decide +kernel
theorem dX5_appended_9 : decode cX5_appended 9 = .ok (.invokevirtual 119, 3) := by decide +kernel
theorem dX5_appended_12 : decode cX5_appended 12 = .ok (.ireturn, 1) := by decide +kernel
theorem dX5_writer_0 : decode cX5_writer 0 = .ok (.aload_n 0, 1) := by decide +kernel
theorem dX5_writer_1 : decode cX5_writer 1 = .ok (.getfield 12, 3) := by decide +kernel
theorem dX5_writer_4 : decode cX5_writer 4 = .ok (.iload_n 1, 1) := by decide +kernel
theorem dX5_writer_5 : decode cX5_writer 5 = .ok (.iload_n 2, 1) := by decide +kernel
theorem dX5_writer_6 : decode cX5_writer 6 = .ok (.invokevirtual 124, 3) := by decide +kernel
theorem dX5_writer_9 : decode cX5_writer 9 = .ok (.ireturn, 1) := by decide +kernel
theorem dX5_told_0 : decode cX5_told 0 = .ok (.aload_n 0, 1) := by decide +kernel
theorem dX5_told_1 : decode cX5_told 1 = .ok (.getfield 12, 3) := by decide +kernel
theorem dX5_told_4 : decode cX5_told 4 = .ok (.getfield 115, 3) := by decide +kernel
theorem dX5_told_7 : decode cX5_told 7 = .ok (.iload_n 1, 1) := by decide +kernel
theorem dX5_told_8 : decode cX5_told 8 = .ok (.invokevirtual 127, 3) := by decide +kernel
theorem dX5_told_11 : decode cX5_told 11 = .ok (.ireturn, 1) := by decide +kernel
theorem dX5_toldIn_0 : decode cX5_toldIn 0 = .ok (.aload_n 0, 1) := by decide +kernel
theorem dX5_toldIn_1 : decode cX5_toldIn 1 = .ok (.getfield 12, 3) := by decide +kernel
theorem dX5_toldIn_4 : decode cX5_toldIn 4 = .ok (.getfield 115, 3) := by decide +kernel
theorem dX5_toldIn_7 : decode cX5_toldIn 7 = .ok (.iload_n 1, 1) := by decide +kernel
theorem dX5_toldIn_8 : decode cX5_toldIn 8 = .ok (.invokevirtual 130, 3) := by decide +kernel
theorem dX5_toldIn_11 : decode cX5_toldIn 11 = .ok (.ifCond .ne 5, 3) := by decide +kernel
theorem dX5_toldIn_14 : decode cX5_toldIn 14 = .ok (.iconst (-1), 1) := by decide +kernel
theorem dX5_toldIn_15 : decode cX5_toldIn 15 = .ok (.ireturn, 1) := by decide +kernel
theorem dX5_toldIn_16 : decode cX5_toldIn 16 = .ok (.aload_n 0, 1) := by decide +kernel
theorem dX5_toldIn_17 : decode cX5_toldIn 17 = .ok (.getfield 12, 3) := by decide +kernel
theorem dX5_toldIn_20 : decode cX5_toldIn 20 = .ok (.getfield 115, 3) := by decide +kernel
theorem dX5_toldIn_23 : decode cX5_toldIn 23 = .ok (.iload_n 1, 1) := by decide +kernel
theorem dX5_toldIn_24 : decode cX5_toldIn 24 = .ok (.invokevirtual 134, 3) := by decide +kernel
theorem dX5_toldIn_27 : decode cX5_toldIn 27 = .ok (.ifCond .ne 6, 3) := by decide +kernel
theorem dX5_toldIn_30 : decode cX5_toldIn 30 = .ok (.bipush (-4), 2) := by decide +kernel
theorem dX5_toldIn_32 : decode cX5_toldIn 32 = .ok (.ireturn, 1) := by decide +kernel
theorem dX5_toldIn_33 : decode cX5_toldIn 33 = .ok (.aload_n 0, 1) := by decide +kernel
theorem dX5_toldIn_34 : decode cX5_toldIn 34 = .ok (.getfield 26, 3) := by decide +kernel
theorem dX5_toldIn_37 : decode cX5_toldIn 37 = .ok (.aload_n 0, 1) := by decide +kernel
theorem dX5_toldIn_38 : decode cX5_toldIn 38 = .ok (.getfield 12, 3) := by decide +kernel
theorem dX5_toldIn_41 : decode cX5_toldIn 41 = .ok (.invokevirtual 37, 3) := by decide +kernel
theorem dX5_toldIn_44 : decode cX5_toldIn 44 = .ok (.iload_n 1, 1) := by decide +kernel
theorem dX5_toldIn_45 : decode cX5_toldIn 45 = .ok (.invokevirtual 137, 3) := by decide +kernel
theorem dX5_toldIn_48 : decode cX5_toldIn 48 = .ok (.ireturn, 1) := by decide +kernel
theorem dX5_would_0 : decode cX5_would 0 = .ok (.iload_n 1, 1) := by decide +kernel
theorem dX5_would_1 : decode cX5_would 1 = .ok (.invokestatic 140, 3) := by decide +kernel
theorem dX5_would_4 : decode cX5_would 4 = .ok (.ifCond .ne 5, 3) := by decide +kernel
theorem dX5_would_7 : decode cX5_would 7 = .ok (.iconst (-1), 1) := by decide +kernel
theorem dX5_would_8 : decode cX5_would 8 = .ok (.ireturn, 1) := by decide +kernel
theorem dX5_would_9 : decode cX5_would 9 = .ok (.iload_n 2, 1) := by decide +kernel
theorem dX5_would_10 : decode cX5_would 10 = .ok (.ifCond .lt 8, 3) := by decide +kernel
theorem dX5_would_13 : decode cX5_would 13 = .ok (.iload_n 2, 1) := by decide +kernel
theorem dX5_would_14 : decode cX5_would 14 = .ok (.iconst 1, 1) := by decide +kernel
theorem dX5_would_15 : decode cX5_would 15 = .ok (.if_icmp .le 6, 3) := by decide +kernel
theorem dX5_would_18 : decode cX5_would 18 = .ok (.bipush (-2), 2) := by decide +kernel
theorem dX5_would_20 : decode cX5_would 20 = .ok (.ireturn, 1) := by decide +kernel
theorem dX5_would_21 : decode cX5_would 21 = .ok (.aload_n 0, 1) := by decide +kernel
theorem dX5_would_22 : decode cX5_would 22 = .ok (.getfield 26, 3) := by decide +kernel
theorem dX5_would_25 : decode cX5_would 25 = .ok (.aload_n 0, 1) := by decide +kernel
theorem dX5_would_26 : decode cX5_would 26 = .ok (.getfield 12, 3) := by decide +kernel
theorem dX5_would_29 : decode cX5_would 29 = .ok (.invokevirtual 37, 3) := by decide +kernel
theorem dX5_would_32 : decode cX5_would 32 = .ok (.astore_n 3, 1) := by decide +kernel
theorem dX5_would_33 : decode cX5_would 33 = .ok (.aload_n 3, 1) := by decide +kernel
theorem dX5_would_34 : decode cX5_would 34 = .ok (.getfield 115, 3) := by decide +kernel
theorem dX5_would_37 : decode cX5_would 37 = .ok (.iconst 0, 1) := by decide +kernel
theorem dX5_would_38 : decode cX5_would 38 = .ok (.iload_n 1, 1) := by decide +kernel
theorem dX5_would_39 : decode cX5_would 39 = .ok (.iconst 0, 1) := by decide +kernel
theorem dX5_would_40 : decode cX5_would 40 = .ok (.invokevirtual 143, 3) := by decide +kernel
theorem dX5_would_43 : decode cX5_would 43 = .ok (.istore 4, 2) := by decide +kernel
theorem dX5_would_45 : decode cX5_would 45 = .ok (.iload 4, 2) := by decide +kernel
theorem dX5_would_47 : decode cX5_would 47 = .ok (.iconst (-1), 1) := by decide +kernel
theorem dX5_would_48 : decode cX5_would 48 = .ok (.if_icmp .ne 6, 3) := by decide +kernel
theorem dX5_would_51 : decode cX5_would 51 = .ok (.bipush (-5), 2) := by decide +kernel
theorem dX5_would_53 : decode cX5_would 53 = .ok (.ireturn, 1) := by decide +kernel
theorem dX5_would_54 : decode cX5_would 54 = .ok (.aload_n 3, 1) := by decide +kernel
theorem dX5_would_55 : decode cX5_would 55 = .ok (.iload 4, 2) := by decide +kernel
theorem dX5_would_57 : decode cX5_would 57 = .ok (.invokevirtual 137, 3) := by decide +kernel
theorem dX5_would_60 : decode cX5_would 60 = .ok (.istore 5, 2) := by decide +kernel
theorem dX5_would_62 : decode cX5_would 62 = .ok (.iload 5, 2) := by decide +kernel
theorem dX5_would_64 : decode cX5_would 64 = .ok (.bipush (-5), 2) := by decide +kernel
theorem dX5_would_66 : decode cX5_would 66 = .ok (.if_icmp .ne 6, 3) := by decide +kernel
theorem dX5_would_69 : decode cX5_would 69 = .ok (.bipush (-5), 2) := by decide +kernel
theorem dX5_would_71 : decode cX5_would 71 = .ok (.ireturn, 1) := by decide +kernel
theorem dX5_would_72 : decode cX5_would 72 = .ok (.iload_n 2, 1) := by decide +kernel
theorem dX5_would_73 : decode cX5_would 73 = .ok (.ifCond .ne 16, 3) := by decide +kernel
theorem dX5_would_76 : decode cX5_would 76 = .ok (.aload_n 3, 1) := by decide +kernel
theorem dX5_would_77 : decode cX5_would 77 = .ok (.getfield 115, 3) := by decide +kernel
theorem dX5_would_80 : decode cX5_would 80 = .ok (.getfield 145, 3) := by decide +kernel
theorem dX5_would_83 : decode cX5_would 83 = .ok (.iload 4, 2) := by decide +kernel
theorem dX5_would_85 : decode cX5_would 85 = .ok (.iaload, 1) := by decide +kernel
theorem dX5_would_86 : decode cX5_would 86 = .ok (.goto 5, 3) := by decide +kernel
theorem dX5_would_89 : decode cX5_would 89 = .ok (.iload 5, 2) := by decide +kernel
theorem dX5_would_91 : decode cX5_would 91 = .ok (.ireturn, 1) := by decide +kernel
theorem dX5_count_0 : decode cX5_count 0 = .ok (.iload_n 1, 1) := by decide +kernel
theorem dX5_count_1 : decode cX5_count 1 = .ok (.lookupswitch 43 #[(14, 27), (15, 35)], 27) := by decide +kernel
theorem dX5_count_28 : decode cX5_count 28 = .ok (.aload_n 0, 1) := by decide +kernel
theorem dX5_count_29 : decode cX5_count 29 = .ok (.getfield 26, 3) := by decide +kernel
theorem dX5_count_32 : decode cX5_count 32 = .ok (.getfield 149, 3) := by decide +kernel
theorem dX5_count_35 : decode cX5_count 35 = .ok (.ireturn, 1) := by decide +kernel
theorem dX5_count_36 : decode cX5_count 36 = .ok (.aload_n 0, 1) := by decide +kernel
theorem dX5_count_37 : decode cX5_count 37 = .ok (.getfield 33, 3) := by decide +kernel
theorem dX5_count_40 : decode cX5_count 40 = .ok (.getfield 78, 3) := by decide +kernel
theorem dX5_count_43 : decode cX5_count 43 = .ok (.ireturn, 1) := by decide +kernel
theorem dX5_count_44 : decode cX5_count 44 = .ok (.aload_n 0, 1) := by decide +kernel
theorem dX5_count_45 : decode cX5_count 45 = .ok (.getfield 12, 3) := by decide +kernel
theorem dX5_count_48 : decode cX5_count 48 = .ok (.iload_n 1, 1) := by decide +kernel
theorem dX5_count_49 : decode cX5_count 49 = .ok (.invokevirtual 152, 3) := by decide +kernel
theorem dX5_count_52 : decode cX5_count 52 = .ok (.ireturn, 1) := by decide +kernel
theorem dX5_doOrder_0 : decode cX5_doOrder 0 = .ok (.aload_n 0, 1) := by decide +kernel
theorem dX5_doOrder_1 : decode cX5_doOrder 1 = .ok (.getfield 33, 3) := by decide +kernel
theorem dX5_doOrder_4 : decode cX5_doOrder 4 = .ok (.iload_n 1, 1) := by decide +kernel
theorem dX5_doOrder_5 : decode cX5_doOrder 5 = .ok (.invokevirtual 155, 3) := by decide +kernel
theorem dX5_doOrder_8 : decode cX5_doOrder 8 = .ok (.istore_n 2, 1) := by decide +kernel
theorem dX5_doOrder_9 : decode cX5_doOrder 9 = .ok (.iload_n 2, 1) := by decide +kernel
theorem dX5_doOrder_10 : decode cX5_doOrder 10 = .ok (.bipush 114, 2) := by decide +kernel
theorem dX5_doOrder_12 : decode cX5_doOrder 12 = .ok (.if_icmp .ne 21, 3) := by decide +kernel
theorem dX5_doOrder_15 : decode cX5_doOrder 15 = .ok (.aload_n 0, 1) := by decide +kernel
theorem dX5_doOrder_16 : decode cX5_doOrder 16 = .ok (.getfield 12, 3) := by decide +kernel
theorem dX5_doOrder_19 : decode cX5_doOrder 19 = .ok (.aload_n 0, 1) := by decide +kernel
theorem dX5_doOrder_20 : decode cX5_doOrder 20 = .ok (.getfield 33, 3) := by decide +kernel
theorem dX5_doOrder_23 : decode cX5_doOrder 23 = .ok (.iload_n 1, 1) := by decide +kernel
theorem dX5_doOrder_24 : decode cX5_doOrder 24 = .ok (.iconst 1, 1) := by decide +kernel
theorem dX5_doOrder_25 : decode cX5_doOrder 25 = .ok (.iadd, 1) := by decide +kernel
theorem dX5_doOrder_26 : decode cX5_doOrder 26 = .ok (.invokevirtual 159, 3) := by decide +kernel
theorem dX5_doOrder_29 : decode cX5_doOrder 29 = .ok (.invokevirtual 62, 3) := by decide +kernel
theorem dX5_doOrder_32 : decode cX5_doOrder 32 = .ok (.ireturn, 1) := by decide +kernel
theorem dX5_doOrder_33 : decode cX5_doOrder 33 = .ok (.iload_n 2, 1) := by decide +kernel
theorem dX5_doOrder_34 : decode cX5_doOrder 34 = .ok (.bipush 102, 2) := by decide +kernel
theorem dX5_doOrder_36 : decode cX5_doOrder 36 = .ok (.if_icmp .ne 21, 3) := by decide +kernel
theorem dX5_doOrder_39 : decode cX5_doOrder 39 = .ok (.aload_n 0, 1) := by decide +kernel
theorem dX5_doOrder_40 : decode cX5_doOrder 40 = .ok (.getfield 12, 3) := by decide +kernel
theorem dX5_doOrder_43 : decode cX5_doOrder 43 = .ok (.aload_n 0, 1) := by decide +kernel
theorem dX5_doOrder_44 : decode cX5_doOrder 44 = .ok (.getfield 33, 3) := by decide +kernel
theorem dX5_doOrder_47 : decode cX5_doOrder 47 = .ok (.iload_n 1, 1) := by decide +kernel
theorem dX5_doOrder_48 : decode cX5_doOrder 48 = .ok (.iconst 1, 1) := by decide +kernel
theorem dX5_doOrder_49 : decode cX5_doOrder 49 = .ok (.iadd, 1) := by decide +kernel
theorem dX5_doOrder_50 : decode cX5_doOrder 50 = .ok (.invokevirtual 159, 3) := by decide +kernel
theorem dX5_doOrder_53 : decode cX5_doOrder 53 = .ok (.invokevirtual 65, 3) := by decide +kernel
theorem dX5_doOrder_56 : decode cX5_doOrder 56 = .ok (.ireturn, 1) := by decide +kernel
theorem dX5_doOrder_57 : decode cX5_doOrder 57 = .ok (.iload_n 2, 1) := by decide +kernel
theorem dX5_doOrder_58 : decode cX5_doOrder 58 = .ok (.bipush 112, 2) := by decide +kernel
theorem dX5_doOrder_60 : decode cX5_doOrder 60 = .ok (.if_icmp .ne 21, 3) := by decide +kernel
theorem dX5_doOrder_63 : decode cX5_doOrder 63 = .ok (.aload_n 0, 1) := by decide +kernel
theorem dX5_doOrder_64 : decode cX5_doOrder 64 = .ok (.getfield 12, 3) := by decide +kernel
theorem dX5_doOrder_67 : decode cX5_doOrder 67 = .ok (.aload_n 0, 1) := by decide +kernel
theorem dX5_doOrder_68 : decode cX5_doOrder 68 = .ok (.getfield 33, 3) := by decide +kernel
theorem dX5_doOrder_71 : decode cX5_doOrder 71 = .ok (.iload_n 1, 1) := by decide +kernel
theorem dX5_doOrder_72 : decode cX5_doOrder 72 = .ok (.iconst 1, 1) := by decide +kernel
theorem dX5_doOrder_73 : decode cX5_doOrder 73 = .ok (.iadd, 1) := by decide +kernel
theorem dX5_doOrder_74 : decode cX5_doOrder 74 = .ok (.invokevirtual 159, 3) := by decide +kernel
theorem dX5_doOrder_77 : decode cX5_doOrder 77 = .ok (.invokevirtual 71, 3) := by decide +kernel
theorem dX5_doOrder_80 : decode cX5_doOrder 80 = .ok (.ireturn, 1) := by decide +kernel
theorem dX5_doOrder_81 : decode cX5_doOrder 81 = .ok (.aload_n 0, 1) := by decide +kernel
theorem dX5_doOrder_82 : decode cX5_doOrder 82 = .ok (.getfield 12, 3) := by decide +kernel
theorem dX5_doOrder_85 : decode cX5_doOrder 85 = .ok (.aload_n 0, 1) := by decide +kernel
theorem dX5_doOrder_86 : decode cX5_doOrder 86 = .ok (.getfield 33, 3) := by decide +kernel
theorem dX5_doOrder_89 : decode cX5_doOrder 89 = .ok (.iload_n 1, 1) := by decide +kernel
theorem dX5_doOrder_90 : decode cX5_doOrder 90 = .ok (.invokevirtual 159, 3) := by decide +kernel
theorem dX5_doOrder_93 : decode cX5_doOrder 93 = .ok (.aload_n 0, 1) := by decide +kernel
theorem dX5_doOrder_94 : decode cX5_doOrder 94 = .ok (.getfield 33, 3) := by decide +kernel
theorem dX5_doOrder_97 : decode cX5_doOrder 97 = .ok (.iload_n 1, 1) := by decide +kernel
theorem dX5_doOrder_98 : decode cX5_doOrder 98 = .ok (.iconst 2, 1) := by decide +kernel
theorem dX5_doOrder_99 : decode cX5_doOrder 99 = .ok (.iadd, 1) := by decide +kernel
theorem dX5_doOrder_100 : decode cX5_doOrder 100 = .ok (.invokevirtual 159, 3) := by decide +kernel
theorem dX5_doOrder_103 : decode cX5_doOrder 103 = .ok (.aload_n 0, 1) := by decide +kernel
theorem dX5_doOrder_104 : decode cX5_doOrder 104 = .ok (.getfield 33, 3) := by decide +kernel
theorem dX5_doOrder_107 : decode cX5_doOrder 107 = .ok (.iload_n 1, 1) := by decide +kernel
theorem dX5_doOrder_108 : decode cX5_doOrder 108 = .ok (.iconst 4, 1) := by decide +kernel
theorem dX5_doOrder_109 : decode cX5_doOrder 109 = .ok (.iadd, 1) := by decide +kernel
theorem dX5_doOrder_110 : decode cX5_doOrder 110 = .ok (.invokevirtual 162, 3) := by decide +kernel
theorem dX5_doOrder_113 : decode cX5_doOrder 113 = .ok (.invokevirtual 58, 3) := by decide +kernel
theorem dX5_doOrder_116 : decode cX5_doOrder 116 = .ok (.ireturn, 1) := by decide +kernel
theorem dX5_isZone_0 : decode cX5_isZone 0 = .ok (.iload_n 0, 1) := by decide +kernel
theorem dX5_isZone_1 : decode cX5_isZone 1 = .ok (.ifCond .lt 13, 3) := by decide +kernel
theorem dX5_isZone_4 : decode cX5_isZone 4 = .ok (.iload_n 0, 1) := by decide +kernel
theorem dX5_isZone_5 : decode cX5_isZone 5 = .ok (.bipush 8, 2) := by decide +kernel
theorem dX5_isZone_7 : decode cX5_isZone 7 = .ok (.if_icmp .ge 7, 3) := by decide +kernel
theorem dX5_isZone_10 : decode cX5_isZone 10 = .ok (.iconst 1, 1) := by decide +kernel
theorem dX5_isZone_11 : decode cX5_isZone 11 = .ok (.goto 4, 3) := by decide +kernel
theorem dX5_isZone_14 : decode cX5_isZone 14 = .ok (.iconst 0, 1) := by decide +kernel
theorem dX5_isZone_15 : decode cX5_isZone 15 = .ok (.ireturn, 1) := by decide +kernel
theorem dX5_isWriter_0 : decode cX5_isWriter 0 = .ok (.iload_n 0, 1) := by decide +kernel
theorem dX5_isWriter_1 : decode cX5_isWriter 1 = .ok (.ifCond .lt 12, 3) := by decide +kernel
theorem dX5_isWriter_4 : decode cX5_isWriter 4 = .ok (.iload_n 0, 1) := by decide +kernel
theorem dX5_isWriter_5 : decode cX5_isWriter 5 = .ok (.iconst 4, 1) := by decide +kernel
theorem dX5_isWriter_6 : decode cX5_isWriter 6 = .ok (.if_icmp .ge 7, 3) := by decide +kernel
theorem dX5_isWriter_9 : decode cX5_isWriter 9 = .ok (.iconst 1, 1) := by decide +kernel
theorem dX5_isWriter_10 : decode cX5_isWriter 10 = .ok (.goto 4, 3) := by decide +kernel
theorem dX5_isWriter_13 : decode cX5_isWriter 13 = .ok (.iconst 0, 1) := by decide +kernel
theorem dX5_isWriter_14 : decode cX5_isWriter 14 = .ok (.ireturn, 1) := by decide +kernel
theorem dX5_isFrom_0 : decode cX5_isFrom 0 = .ok (.iload_n 0, 1) := by decide +kernel
theorem dX5_isFrom_1 : decode cX5_isFrom 1 = .ok (.iload_n 1, 1) := by decide +kernel
theorem dX5_isFrom_2 : decode cX5_isFrom 2 = .ok (.if_icmp .lt 12, 3) := by decide +kernel
theorem dX5_isFrom_5 : decode cX5_isFrom 5 = .ok (.iload_n 0, 1) := by decide +kernel
theorem dX5_isFrom_6 : decode cX5_isFrom 6 = .ok (.iload_n 2, 1) := by decide +kernel
theorem dX5_isFrom_7 : decode cX5_isFrom 7 = .ok (.if_icmp .gt 7, 3) := by decide +kernel
theorem dX5_isFrom_10 : decode cX5_isFrom 10 = .ok (.iconst 1, 1) := by decide +kernel
theorem dX5_isFrom_11 : decode cX5_isFrom 11 = .ok (.goto 4, 3) := by decide +kernel
theorem dX5_isFrom_14 : decode cX5_isFrom 14 = .ok (.iconst 0, 1) := by decide +kernel
theorem dX5_isFrom_15 : decode cX5_isFrom 15 = .ok (.ireturn, 1) := by decide +kernel
theorem dX5_copy_0 : decode cX5_copy 0 = .ok (.iload_n 2, 1) := by decide +kernel
theorem dX5_copy_1 : decode cX5_copy 1 = .ok (.ifCond .lt 23, 3) := by decide +kernel
theorem dX5_copy_4 : decode cX5_copy 4 = .ok (.iload_n 2, 1) := by decide +kernel
