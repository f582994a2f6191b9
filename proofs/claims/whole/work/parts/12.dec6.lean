theorem d_Md_in_0 : decode m_Md_in.2.1 0 = .ok (.lload_n 0, 1) := by decide +kernel
theorem d_Md_in_1 : decode m_Md_in.2.1 1 = .ok (.lload_n 2, 1) := by decide +kernel
theorem d_Md_in_2 : decode m_Md_in.2.1 2 = .ok (.lcmp, 1) := by decide +kernel
theorem d_Md_in_3 : decode m_Md_in.2.1 3 = .ok (.ifCond .lt 14, 3) := by decide +kernel
theorem d_Md_in_6 : decode m_Md_in.2.1 6 = .ok (.lload_n 0, 1) := by decide +kernel
theorem d_Md_in_7 : decode m_Md_in.2.1 7 = .ok (.lload 4, 2) := by decide +kernel
theorem d_Md_in_9 : decode m_Md_in.2.1 9 = .ok (.lcmp, 1) := by decide +kernel
theorem d_Md_in_10 : decode m_Md_in.2.1 10 = .ok (.ifCond .gt 7, 3) := by decide +kernel
theorem d_Md_in_13 : decode m_Md_in.2.1 13 = .ok (.iconst 1, 1) := by decide +kernel
theorem d_Md_in_14 : decode m_Md_in.2.1 14 = .ok (.goto 4, 3) := by decide +kernel
theorem d_Md_in_17 : decode m_Md_in.2.1 17 = .ok (.iconst 0, 1) := by decide +kernel
theorem d_Md_in_18 : decode m_Md_in.2.1 18 = .ok (.ireturn, 1) := by decide +kernel
theorem d_Md_tellsAll_0 : decode m_Md_tellsAll.2.1 0 = .ok (.aload_n 0, 1) := by decide +kernel
theorem d_Md_tellsAll_1 : decode m_Md_tellsAll.2.1 1 = .ok (.aload_n 0, 1) := by decide +kernel
theorem d_Md_tellsAll_2 : decode m_Md_tellsAll.2.1 2 = .ok (.getfield 107, 3) := by decide +kernel
theorem d_Md_tellsAll_5 : decode m_Md_tellsAll.2.1 5 = .ok (.putfield 176, 3) := by decide +kernel
theorem d_Md_tellsAll_8 : decode m_Md_tellsAll.2.1 8 = .ok (.aload_n 0, 1) := by decide +kernel
theorem d_Md_tellsAll_9 : decode m_Md_tellsAll.2.1 9 = .ok (.aload_n 0, 1) := by decide +kernel
theorem d_Md_tellsAll_10 : decode m_Md_tellsAll.2.1 10 = .ok (.getfield 115, 3) := by decide +kernel
theorem d_Md_tellsAll_13 : decode m_Md_tellsAll.2.1 13 = .ok (.putfield 183, 3) := by decide +kernel
theorem d_Md_tellsAll_16 : decode m_Md_tellsAll.2.1 16 = .ok (.iconst 0, 1) := by decide +kernel
theorem d_Md_tellsAll_17 : decode m_Md_tellsAll.2.1 17 = .ok (.istore_n 1, 1) := by decide +kernel
theorem d_Md_tellsAll_18 : decode m_Md_tellsAll.2.1 18 = .ok (.iload_n 1, 1) := by decide +kernel
theorem d_Md_tellsAll_19 : decode m_Md_tellsAll.2.1 19 = .ok (.iconst 5, 1) := by decide +kernel
theorem d_Md_tellsAll_20 : decode m_Md_tellsAll.2.1 20 = .ok (.if_icmp .ge 45, 3) := by decide +kernel
theorem d_Md_tellsAll_23 : decode m_Md_tellsAll.2.1 23 = .ok (.aload_n 0, 1) := by decide +kernel
theorem d_Md_tellsAll_24 : decode m_Md_tellsAll.2.1 24 = .ok (.getfield 44, 3) := by decide +kernel
theorem d_Md_tellsAll_27 : decode m_Md_tellsAll.2.1 27 = .ok (.iload_n 1, 1) := by decide +kernel
theorem d_Md_tellsAll_28 : decode m_Md_tellsAll.2.1 28 = .ok (.aload_n 0, 1) := by decide +kernel
theorem d_Md_tellsAll_29 : decode m_Md_tellsAll.2.1 29 = .ok (.getfield 17, 3) := by decide +kernel
theorem d_Md_tellsAll_32 : decode m_Md_tellsAll.2.1 32 = .ok (.iload_n 1, 1) := by decide +kernel
theorem d_Md_tellsAll_33 : decode m_Md_tellsAll.2.1 33 = .ok (.iaload, 1) := by decide +kernel
theorem d_Md_tellsAll_34 : decode m_Md_tellsAll.2.1 34 = .ok (.iastore, 1) := by decide +kernel
theorem d_Md_tellsAll_35 : decode m_Md_tellsAll.2.1 35 = .ok (.aload_n 0, 1) := by decide +kernel
theorem d_Md_tellsAll_36 : decode m_Md_tellsAll.2.1 36 = .ok (.getfield 47, 3) := by decide +kernel
theorem d_Md_tellsAll_39 : decode m_Md_tellsAll.2.1 39 = .ok (.iload_n 1, 1) := by decide +kernel
theorem d_Md_tellsAll_40 : decode m_Md_tellsAll.2.1 40 = .ok (.aload_n 0, 1) := by decide +kernel
theorem d_Md_tellsAll_41 : decode m_Md_tellsAll.2.1 41 = .ok (.getfield 20, 3) := by decide +kernel
theorem d_Md_tellsAll_44 : decode m_Md_tellsAll.2.1 44 = .ok (.iload_n 1, 1) := by decide +kernel
theorem d_Md_tellsAll_45 : decode m_Md_tellsAll.2.1 45 = .ok (.iaload, 1) := by decide +kernel
theorem d_Md_tellsAll_46 : decode m_Md_tellsAll.2.1 46 = .ok (.iastore, 1) := by decide +kernel
theorem d_Md_tellsAll_47 : decode m_Md_tellsAll.2.1 47 = .ok (.aload_n 0, 1) := by decide +kernel
theorem d_Md_tellsAll_48 : decode m_Md_tellsAll.2.1 48 = .ok (.getfield 50, 3) := by decide +kernel
theorem d_Md_tellsAll_51 : decode m_Md_tellsAll.2.1 51 = .ok (.iload_n 1, 1) := by decide +kernel
theorem d_Md_tellsAll_52 : decode m_Md_tellsAll.2.1 52 = .ok (.aload_n 0, 1) := by decide +kernel
theorem d_Md_tellsAll_53 : decode m_Md_tellsAll.2.1 53 = .ok (.getfield 23, 3) := by decide +kernel
theorem d_Md_tellsAll_56 : decode m_Md_tellsAll.2.1 56 = .ok (.iload_n 1, 1) := by decide +kernel
theorem d_Md_tellsAll_57 : decode m_Md_tellsAll.2.1 57 = .ok (.iaload, 1) := by decide +kernel
theorem d_Md_tellsAll_58 : decode m_Md_tellsAll.2.1 58 = .ok (.iastore, 1) := by decide +kernel
theorem d_Md_tellsAll_59 : decode m_Md_tellsAll.2.1 59 = .ok (.iinc 1 1, 3) := by decide +kernel
theorem d_Md_tellsAll_62 : decode m_Md_tellsAll.2.1 62 = .ok (.goto (-44), 3) := by decide +kernel
theorem d_Md_tellsAll_65 : decode m_Md_tellsAll.2.1 65 = .ok (.iconst 0, 1) := by decide +kernel
theorem d_Md_tellsAll_66 : decode m_Md_tellsAll.2.1 66 = .ok (.istore_n 1, 1) := by decide +kernel
theorem d_Md_tellsAll_67 : decode m_Md_tellsAll.2.1 67 = .ok (.iload_n 1, 1) := by decide +kernel
theorem d_Md_tellsAll_68 : decode m_Md_tellsAll.2.1 68 = .ok (.bipush 10, 2) := by decide +kernel
theorem d_Md_tellsAll_70 : decode m_Md_tellsAll.2.1 70 = .ok (.if_icmp .ge 69, 3) := by decide +kernel
theorem d_Md_tellsAll_73 : decode m_Md_tellsAll.2.1 73 = .ok (.aload_n 0, 1) := by decide +kernel
theorem d_Md_tellsAll_74 : decode m_Md_tellsAll.2.1 74 = .ok (.getfield 53, 3) := by decide +kernel
theorem d_Md_tellsAll_77 : decode m_Md_tellsAll.2.1 77 = .ok (.iload_n 1, 1) := by decide +kernel
theorem d_Md_tellsAll_78 : decode m_Md_tellsAll.2.1 78 = .ok (.aload_n 0, 1) := by decide +kernel
theorem d_Md_tellsAll_79 : decode m_Md_tellsAll.2.1 79 = .ok (.getfield 26, 3) := by decide +kernel
theorem d_Md_tellsAll_82 : decode m_Md_tellsAll.2.1 82 = .ok (.iload_n 1, 1) := by decide +kernel
theorem d_Md_tellsAll_83 : decode m_Md_tellsAll.2.1 83 = .ok (.iaload, 1) := by decide +kernel
theorem d_Md_tellsAll_84 : decode m_Md_tellsAll.2.1 84 = .ok (.iastore, 1) := by decide +kernel
theorem d_Md_tellsAll_85 : decode m_Md_tellsAll.2.1 85 = .ok (.aload_n 0, 1) := by decide +kernel
theorem d_Md_tellsAll_86 : decode m_Md_tellsAll.2.1 86 = .ok (.getfield 56, 3) := by decide +kernel
theorem d_Md_tellsAll_89 : decode m_Md_tellsAll.2.1 89 = .ok (.iload_n 1, 1) := by decide +kernel
theorem d_Md_tellsAll_90 : decode m_Md_tellsAll.2.1 90 = .ok (.aload_n 0, 1) := by decide +kernel
theorem d_Md_tellsAll_91 : decode m_Md_tellsAll.2.1 91 = .ok (.getfield 29, 3) := by decide +kernel
theorem d_Md_tellsAll_94 : decode m_Md_tellsAll.2.1 94 = .ok (.iload_n 1, 1) := by decide +kernel
theorem d_Md_tellsAll_95 : decode m_Md_tellsAll.2.1 95 = .ok (.iaload, 1) := by decide +kernel
theorem d_Md_tellsAll_96 : decode m_Md_tellsAll.2.1 96 = .ok (.iastore, 1) := by decide +kernel
theorem d_Md_tellsAll_97 : decode m_Md_tellsAll.2.1 97 = .ok (.aload_n 0, 1) := by decide +kernel
theorem d_Md_tellsAll_98 : decode m_Md_tellsAll.2.1 98 = .ok (.getfield 59, 3) := by decide +kernel
theorem d_Md_tellsAll_101 : decode m_Md_tellsAll.2.1 101 = .ok (.iload_n 1, 1) := by decide +kernel
theorem d_Md_tellsAll_102 : decode m_Md_tellsAll.2.1 102 = .ok (.aload_n 0, 1) := by decide +kernel
theorem d_Md_tellsAll_103 : decode m_Md_tellsAll.2.1 103 = .ok (.getfield 32, 3) := by decide +kernel
theorem d_Md_tellsAll_106 : decode m_Md_tellsAll.2.1 106 = .ok (.iload_n 1, 1) := by decide +kernel
theorem d_Md_tellsAll_107 : decode m_Md_tellsAll.2.1 107 = .ok (.iaload, 1) := by decide +kernel
theorem d_Md_tellsAll_108 : decode m_Md_tellsAll.2.1 108 = .ok (.iastore, 1) := by decide +kernel
theorem d_Md_tellsAll_109 : decode m_Md_tellsAll.2.1 109 = .ok (.aload_n 0, 1) := by decide +kernel
theorem d_Md_tellsAll_110 : decode m_Md_tellsAll.2.1 110 = .ok (.getfield 62, 3) := by decide +kernel
theorem d_Md_tellsAll_113 : decode m_Md_tellsAll.2.1 113 = .ok (.iload_n 1, 1) := by decide +kernel
theorem d_Md_tellsAll_114 : decode m_Md_tellsAll.2.1 114 = .ok (.aload_n 0, 1) := by decide +kernel
theorem d_Md_tellsAll_115 : decode m_Md_tellsAll.2.1 115 = .ok (.getfield 35, 3) := by decide +kernel
theorem d_Md_tellsAll_118 : decode m_Md_tellsAll.2.1 118 = .ok (.iload_n 1, 1) := by decide +kernel
theorem d_Md_tellsAll_119 : decode m_Md_tellsAll.2.1 119 = .ok (.iaload, 1) := by decide +kernel
theorem d_Md_tellsAll_120 : decode m_Md_tellsAll.2.1 120 = .ok (.iastore, 1) := by decide +kernel
theorem d_Md_tellsAll_121 : decode m_Md_tellsAll.2.1 121 = .ok (.aload_n 0, 1) := by decide +kernel
theorem d_Md_tellsAll_122 : decode m_Md_tellsAll.2.1 122 = .ok (.getfield 65, 3) := by decide +kernel
theorem d_Md_tellsAll_125 : decode m_Md_tellsAll.2.1 125 = .ok (.iload_n 1, 1) := by decide +kernel
theorem d_Md_tellsAll_126 : decode m_Md_tellsAll.2.1 126 = .ok (.aload_n 0, 1) := by decide +kernel
theorem d_Md_tellsAll_127 : decode m_Md_tellsAll.2.1 127 = .ok (.getfield 38, 3) := by decide +kernel
theorem d_Md_tellsAll_130 : decode m_Md_tellsAll.2.1 130 = .ok (.iload_n 1, 1) := by decide +kernel
theorem d_Md_tellsAll_131 : decode m_Md_tellsAll.2.1 131 = .ok (.iaload, 1) := by decide +kernel
theorem d_Md_tellsAll_132 : decode m_Md_tellsAll.2.1 132 = .ok (.iastore, 1) := by decide +kernel
theorem d_Md_tellsAll_133 : decode m_Md_tellsAll.2.1 133 = .ok (.iinc 1 1, 3) := by decide +kernel
theorem d_Md_tellsAll_136 : decode m_Md_tellsAll.2.1 136 = .ok (.goto (-69), 3) := by decide +kernel
theorem d_Md_tellsAll_139 : decode m_Md_tellsAll.2.1 139 = .ok (.return_, 1) := by decide +kernel
theorem d_Md_wordAtHand_0 : decode m_Md_wordAtHand.2.1 0 = .ok (.aload_n 0, 1) := by decide +kernel
theorem d_Md_wordAtHand_1 : decode m_Md_wordAtHand.2.1 1 = .ok (.iconst 4, 1) := by decide +kernel
theorem d_Md_wordAtHand_2 : decode m_Md_wordAtHand.2.1 2 = .ok (.ldc2_w 156, 3) := by decide +kernel
theorem d_Md_wordAtHand_5 : decode m_Md_wordAtHand.2.1 5 = .ok (.invokevirtual 158, 3) := by decide +kernel
theorem d_Md_wordAtHand_8 : decode m_Md_wordAtHand.2.1 8 = .ok (.ifCond .eq 5, 3) := by decide +kernel
theorem d_Md_wordAtHand_11 : decode m_Md_wordAtHand.2.1 11 = .ok (.iconst 0, 1) := by decide +kernel
theorem d_Md_wordAtHand_12 : decode m_Md_wordAtHand.2.1 12 = .ok (.ireturn, 1) := by decide +kernel
theorem d_Md_wordAtHand_13 : decode m_Md_wordAtHand.2.1 13 = .ok (.aload_n 0, 1) := by decide +kernel
theorem d_Md_wordAtHand_14 : decode m_Md_wordAtHand.2.1 14 = .ok (.iconst 3, 1) := by decide +kernel
theorem d_Md_wordAtHand_15 : decode m_Md_wordAtHand.2.1 15 = .ok (.ldc2_w 162, 3) := by decide +kernel
theorem d_Md_wordAtHand_18 : decode m_Md_wordAtHand.2.1 18 = .ok (.invokevirtual 158, 3) := by decide +kernel
theorem d_Md_wordAtHand_21 : decode m_Md_wordAtHand.2.1 21 = .ok (.ifCond .eq 5, 3) := by decide +kernel
theorem d_Md_wordAtHand_24 : decode m_Md_wordAtHand.2.1 24 = .ok (.iconst 1, 1) := by decide +kernel
theorem d_Md_wordAtHand_25 : decode m_Md_wordAtHand.2.1 25 = .ok (.ireturn, 1) := by decide +kernel
theorem d_Md_wordAtHand_26 : decode m_Md_wordAtHand.2.1 26 = .ok (.aload_n 0, 1) := by decide +kernel
theorem d_Md_wordAtHand_27 : decode m_Md_wordAtHand.2.1 27 = .ok (.iconst 5, 1) := by decide +kernel
theorem d_Md_wordAtHand_28 : decode m_Md_wordAtHand.2.1 28 = .ok (.ldc2_w 164, 3) := by decide +kernel
theorem d_Md_wordAtHand_31 : decode m_Md_wordAtHand.2.1 31 = .ok (.invokevirtual 158, 3) := by decide +kernel
theorem d_Md_wordAtHand_34 : decode m_Md_wordAtHand.2.1 34 = .ok (.ifCond .eq 5, 3) := by decide +kernel
theorem d_Md_wordAtHand_37 : decode m_Md_wordAtHand.2.1 37 = .ok (.iconst 2, 1) := by decide +kernel
theorem d_Md_wordAtHand_38 : decode m_Md_wordAtHand.2.1 38 = .ok (.ireturn, 1) := by decide +kernel
theorem d_Md_wordAtHand_39 : decode m_Md_wordAtHand.2.1 39 = .ok (.aload_n 0, 1) := by decide +kernel
theorem d_Md_wordAtHand_40 : decode m_Md_wordAtHand.2.1 40 = .ok (.iconst 4, 1) := by decide +kernel
theorem d_Md_wordAtHand_41 : decode m_Md_wordAtHand.2.1 41 = .ok (.ldc2_w 166, 3) := by decide +kernel
theorem d_Md_wordAtHand_44 : decode m_Md_wordAtHand.2.1 44 = .ok (.invokevirtual 158, 3) := by decide +kernel
theorem d_Md_wordAtHand_47 : decode m_Md_wordAtHand.2.1 47 = .ok (.ifCond .eq 5, 3) := by decide +kernel
theorem d_Md_wordAtHand_50 : decode m_Md_wordAtHand.2.1 50 = .ok (.iconst 3, 1) := by decide +kernel
theorem d_Md_wordAtHand_51 : decode m_Md_wordAtHand.2.1 51 = .ok (.ireturn, 1) := by decide +kernel
theorem d_Md_wordAtHand_52 : decode m_Md_wordAtHand.2.1 52 = .ok (.aload_n 0, 1) := by decide +kernel
theorem d_Md_wordAtHand_53 : decode m_Md_wordAtHand.2.1 53 = .ok (.iconst 4, 1) := by decide +kernel
theorem d_Md_wordAtHand_54 : decode m_Md_wordAtHand.2.1 54 = .ok (.ldc2_w 168, 3) := by decide +kernel
theorem d_Md_wordAtHand_57 : decode m_Md_wordAtHand.2.1 57 = .ok (.invokevirtual 158, 3) := by decide +kernel
theorem d_Md_wordAtHand_60 : decode m_Md_wordAtHand.2.1 60 = .ok (.ifCond .eq 5, 3) := by decide +kernel
theorem d_Md_wordAtHand_63 : decode m_Md_wordAtHand.2.1 63 = .ok (.iconst 4, 1) := by decide +kernel
theorem d_Md_wordAtHand_64 : decode m_Md_wordAtHand.2.1 64 = .ok (.ireturn, 1) := by decide +kernel
theorem d_Md_wordAtHand_65 : decode m_Md_wordAtHand.2.1 65 = .ok (.aload_n 0, 1) := by decide +kernel
theorem d_Md_wordAtHand_66 : decode m_Md_wordAtHand.2.1 66 = .ok (.iconst 3, 1) := by decide +kernel
theorem d_Md_wordAtHand_67 : decode m_Md_wordAtHand.2.1 67 = .ok (.ldc2_w 170, 3) := by decide +kernel
theorem d_Md_wordAtHand_70 : decode m_Md_wordAtHand.2.1 70 = .ok (.invokevirtual 158, 3) := by decide +kernel
theorem d_Md_wordAtHand_73 : decode m_Md_wordAtHand.2.1 73 = .ok (.ifCond .eq 5, 3) := by decide +kernel
theorem d_Md_wordAtHand_76 : decode m_Md_wordAtHand.2.1 76 = .ok (.iconst 5, 1) := by decide +kernel
theorem d_Md_wordAtHand_77 : decode m_Md_wordAtHand.2.1 77 = .ok (.ireturn, 1) := by decide +kernel
theorem d_Md_wordAtHand_78 : decode m_Md_wordAtHand.2.1 78 = .ok (.aload_n 0, 1) := by decide +kernel
theorem d_Md_wordAtHand_79 : decode m_Md_wordAtHand.2.1 79 = .ok (.bipush 6, 2) := by decide +kernel
theorem d_Md_wordAtHand_81 : decode m_Md_wordAtHand.2.1 81 = .ok (.ldc2_w 172, 3) := by decide +kernel
theorem d_Md_wordAtHand_84 : decode m_Md_wordAtHand.2.1 84 = .ok (.invokevirtual 158, 3) := by decide +kernel
theorem d_Md_wordAtHand_87 : decode m_Md_wordAtHand.2.1 87 = .ok (.ifCond .eq 6, 3) := by decide +kernel
theorem d_Md_wordAtHand_90 : decode m_Md_wordAtHand.2.1 90 = .ok (.bipush 6, 2) := by decide +kernel
theorem d_Md_wordAtHand_92 : decode m_Md_wordAtHand.2.1 92 = .ok (.ireturn, 1) := by decide +kernel
theorem d_Md_wordAtHand_93 : decode m_Md_wordAtHand.2.1 93 = .ok (.aload_n 0, 1) := by decide +kernel
theorem d_Md_wordAtHand_94 : decode m_Md_wordAtHand.2.1 94 = .ok (.bipush 6, 2) := by decide +kernel
theorem d_Md_wordAtHand_96 : decode m_Md_wordAtHand.2.1 96 = .ok (.ldc2_w 174, 3) := by decide +kernel
theorem d_Md_wordAtHand_99 : decode m_Md_wordAtHand.2.1 99 = .ok (.invokevirtual 158, 3) := by decide +kernel
theorem d_Md_wordAtHand_102 : decode m_Md_wordAtHand.2.1 102 = .ok (.ifCond .eq 8, 3) := by decide +kernel
theorem d_Md_wordAtHand_105 : decode m_Md_wordAtHand.2.1 105 = .ok (.bipush 7, 2) := by decide +kernel
theorem d_Md_wordAtHand_107 : decode m_Md_wordAtHand.2.1 107 = .ok (.goto 4, 3) := by decide +kernel
theorem d_Md_wordAtHand_110 : decode m_Md_wordAtHand.2.1 110 = .ok (.iconst (-1), 1) := by decide +kernel
theorem d_Md_wordAtHand_111 : decode m_Md_wordAtHand.2.1 111 = .ok (.ireturn, 1) := by decide +kernel
theorem d_Md_takesNumber_0 : decode m_Md_takesNumber.2.1 0 = .ok (.aload_n 0, 1) := by decide +kernel
theorem d_Md_takesNumber_1 : decode m_Md_takesNumber.2.1 1 = .ok (.getfield 140, 3) := by decide +kernel
theorem d_Md_takesNumber_4 : decode m_Md_takesNumber.2.1 4 = .ok (.iconst 2, 1) := by decide +kernel
theorem d_Md_takesNumber_5 : decode m_Md_takesNumber.2.1 5 = .ok (.if_icmp .ne 16, 3) := by decide +kernel
theorem d_Md_takesNumber_8 : decode m_Md_takesNumber.2.1 8 = .ok (.aload_n 0, 1) := by decide +kernel
theorem d_Md_takesNumber_9 : decode m_Md_takesNumber.2.1 9 = .ok (.getfield 137, 3) := by decide +kernel
theorem d_Md_takesNumber_12 : decode m_Md_takesNumber.2.1 12 = .ok (.aload_n 0, 1) := by decide +kernel
theorem d_Md_takesNumber_13 : decode m_Md_takesNumber.2.1 13 = .ok (.getfield 134, 3) := by decide +kernel
theorem d_Md_takesNumber_16 : decode m_Md_takesNumber.2.1 16 = .ok (.isub, 1) := by decide +kernel
theorem d_Md_takesNumber_17 : decode m_Md_takesNumber.2.1 17 = .ok (.iconst 2, 1) := by decide +kernel
theorem d_Md_takesNumber_18 : decode m_Md_takesNumber.2.1 18 = .ok (.if_icmp .le 5, 3) := by decide +kernel
theorem d_Md_takesNumber_21 : decode m_Md_takesNumber.2.1 21 = .ok (.iconst 0, 1) := by decide +kernel
theorem d_Md_takesNumber_22 : decode m_Md_takesNumber.2.1 22 = .ok (.ireturn, 1) := by decide +kernel
theorem d_Md_takesNumber_23 : decode m_Md_takesNumber.2.1 23 = .ok (.aload_n 0, 1) := by decide +kernel
theorem d_Md_takesNumber_24 : decode m_Md_takesNumber.2.1 24 = .ok (.iconst 0, 1) := by decide +kernel
theorem d_Md_takesNumber_25 : decode m_Md_takesNumber.2.1 25 = .ok (.putfield 150, 3) := by decide +kernel
theorem d_Md_takesNumber_28 : decode m_Md_takesNumber.2.1 28 = .ok (.aload_n 0, 1) := by decide +kernel
theorem d_Md_takesNumber_29 : decode m_Md_takesNumber.2.1 29 = .ok (.getfield 134, 3) := by decide +kernel
theorem d_Md_takesNumber_32 : decode m_Md_takesNumber.2.1 32 = .ok (.istore_n 3, 1) := by decide +kernel
theorem d_Md_takesNumber_33 : decode m_Md_takesNumber.2.1 33 = .ok (.iload_n 3, 1) := by decide +kernel
theorem d_Md_takesNumber_34 : decode m_Md_takesNumber.2.1 34 = .ok (.aload_n 0, 1) := by decide +kernel
theorem d_Md_takesNumber_35 : decode m_Md_takesNumber.2.1 35 = .ok (.getfield 137, 3) := by decide +kernel
theorem d_Md_takesNumber_38 : decode m_Md_takesNumber.2.1 38 = .ok (.if_icmp .ge 30, 3) := by decide +kernel
theorem d_Md_takesNumber_41 : decode m_Md_takesNumber.2.1 41 = .ok (.aload_n 0, 1) := by decide +kernel
theorem d_Md_takesNumber_42 : decode m_Md_takesNumber.2.1 42 = .ok (.bipush 10, 2) := by decide +kernel
theorem d_Md_takesNumber_44 : decode m_Md_takesNumber.2.1 44 = .ok (.aload_n 0, 1) := by decide +kernel
theorem d_Md_takesNumber_45 : decode m_Md_takesNumber.2.1 45 = .ok (.getfield 150, 3) := by decide +kernel
theorem d_Md_takesNumber_48 : decode m_Md_takesNumber.2.1 48 = .ok (.imul, 1) := by decide +kernel
theorem d_Md_takesNumber_49 : decode m_Md_takesNumber.2.1 49 = .ok (.aload_n 0, 1) := by decide +kernel
theorem d_Md_takesNumber_50 : decode m_Md_takesNumber.2.1 50 = .ok (.getfield 41, 3) := by decide +kernel
theorem d_Md_takesNumber_53 : decode m_Md_takesNumber.2.1 53 = .ok (.iload_n 3, 1) := by decide +kernel
theorem d_Md_takesNumber_54 : decode m_Md_takesNumber.2.1 54 = .ok (.iaload, 1) := by decide +kernel
theorem d_Md_takesNumber_55 : decode m_Md_takesNumber.2.1 55 = .ok (.iadd, 1) := by decide +kernel
theorem d_Md_takesNumber_56 : decode m_Md_takesNumber.2.1 56 = .ok (.bipush 48, 2) := by decide +kernel
theorem d_Md_takesNumber_58 : decode m_Md_takesNumber.2.1 58 = .ok (.isub, 1) := by decide +kernel
theorem d_Md_takesNumber_59 : decode m_Md_takesNumber.2.1 59 = .ok (.putfield 150, 3) := by decide +kernel
theorem d_Md_takesNumber_62 : decode m_Md_takesNumber.2.1 62 = .ok (.iinc 3 1, 3) := by decide +kernel
theorem d_Md_takesNumber_65 : decode m_Md_takesNumber.2.1 65 = .ok (.goto (-32), 3) := by decide +kernel
theorem d_Md_takesNumber_68 : decode m_Md_takesNumber.2.1 68 = .ok (.aload_n 0, 1) := by decide +kernel
theorem d_Md_takesNumber_69 : decode m_Md_takesNumber.2.1 69 = .ok (.getfield 150, 3) := by decide +kernel
theorem d_Md_takesNumber_72 : decode m_Md_takesNumber.2.1 72 = .ok (.i2l, 1) := by decide +kernel
theorem d_Md_takesNumber_73 : decode m_Md_takesNumber.2.1 73 = .ok (.iload_n 1, 1) := by decide +kernel
theorem d_Md_takesNumber_74 : decode m_Md_takesNumber.2.1 74 = .ok (.i2l, 1) := by decide +kernel
theorem d_Md_takesNumber_75 : decode m_Md_takesNumber.2.1 75 = .ok (.iload_n 2, 1) := by decide +kernel
theorem d_Md_takesNumber_76 : decode m_Md_takesNumber.2.1 76 = .ok (.i2l, 1) := by decide +kernel
theorem d_Md_takesNumber_77 : decode m_Md_takesNumber.2.1 77 = .ok (.invokestatic 111, 3) := by decide +kernel
theorem d_Md_takesNumber_80 : decode m_Md_takesNumber.2.1 80 = .ok (.ifCond .ne 5, 3) := by decide +kernel
theorem d_Md_takesNumber_83 : decode m_Md_takesNumber.2.1 83 = .ok (.iconst 0, 1) := by decide +kernel
theorem d_Md_takesNumber_84 : decode m_Md_takesNumber.2.1 84 = .ok (.ireturn, 1) := by decide +kernel
theorem d_Md_takesNumber_85 : decode m_Md_takesNumber.2.1 85 = .ok (.aload_n 0, 1) := by decide +kernel
theorem d_Md_takesNumber_86 : decode m_Md_takesNumber.2.1 86 = .ok (.invokevirtual 153, 3) := by decide +kernel
theorem d_Md_takesNumber_89 : decode m_Md_takesNumber.2.1 89 = .ok (.iconst 1, 1) := by decide +kernel
theorem d_Md_takesNumber_90 : decode m_Md_takesNumber.2.1 90 = .ok (.ireturn, 1) := by decide +kernel
theorem d_Md_takesParish_0 : decode m_Md_takesParish.2.1 0 = .ok (.aload_n 0, 1) := by decide +kernel
theorem d_Md_takesParish_1 : decode m_Md_takesParish.2.1 1 = .ok (.invokevirtual 153, 3) := by decide +kernel
theorem d_Md_takesParish_4 : decode m_Md_takesParish.2.1 4 = .ok (.aload_n 0, 1) := by decide +kernel
theorem d_Md_takesParish_5 : decode m_Md_takesParish.2.1 5 = .ok (.iconst 0, 1) := by decide +kernel
theorem d_Md_takesParish_6 : decode m_Md_takesParish.2.1 6 = .ok (.putfield 176, 3) := by decide +kernel
theorem d_Md_takesParish_9 : decode m_Md_takesParish.2.1 9 = .ok (.aload_n 0, 1) := by decide +kernel
theorem d_Md_takesParish_10 : decode m_Md_takesParish.2.1 10 = .ok (.iconst 0, 1) := by decide +kernel
theorem d_Md_takesParish_11 : decode m_Md_takesParish.2.1 11 = .ok (.putfield 183, 3) := by decide +kernel
theorem d_Md_takesParish_14 : decode m_Md_takesParish.2.1 14 = .ok (.iconst 0, 1) := by decide +kernel
theorem d_Md_takesParish_15 : decode m_Md_takesParish.2.1 15 = .ok (.istore_n 1, 1) := by decide +kernel
theorem d_Md_takesParish_16 : decode m_Md_takesParish.2.1 16 = .ok (.iload_n 1, 1) := by decide +kernel
theorem d_Md_takesParish_17 : decode m_Md_takesParish.2.1 17 = .ok (.bipush 10, 2) := by decide +kernel
theorem d_Md_takesParish_19 : decode m_Md_takesParish.2.1 19 = .ok (.if_icmp .ge 16, 3) := by decide +kernel
theorem d_Md_takesParish_22 : decode m_Md_takesParish.2.1 22 = .ok (.aload_n 0, 1) := by decide +kernel
theorem d_Md_takesParish_23 : decode m_Md_takesParish.2.1 23 = .ok (.getfield 65, 3) := by decide +kernel
theorem d_Md_takesParish_26 : decode m_Md_takesParish.2.1 26 = .ok (.iload_n 1, 1) := by decide +kernel
theorem d_Md_takesParish_27 : decode m_Md_takesParish.2.1 27 = .ok (.iconst 0, 1) := by decide +kernel
theorem d_Md_takesParish_28 : decode m_Md_takesParish.2.1 28 = .ok (.iastore, 1) := by decide +kernel
theorem d_Md_takesParish_29 : decode m_Md_takesParish.2.1 29 = .ok (.iinc 1 1, 3) := by decide +kernel
theorem d_Md_takesParish_32 : decode m_Md_takesParish.2.1 32 = .ok (.goto (-16), 3) := by decide +kernel
theorem d_Md_takesParish_35 : decode m_Md_takesParish.2.1 35 = .ok (.return_, 1) := by decide +kernel
theorem d_Md_person_0 : decode m_Md_person.2.1 0 = .ok (.aload_n 0, 1) := by decide +kernel
theorem d_Md_person_1 : decode m_Md_person.2.1 1 = .ok (.iload_n 1, 1) := by decide +kernel
theorem d_Md_person_2 : decode m_Md_person.2.1 2 = .ok (.invokevirtual 256, 3) := by decide +kernel
theorem d_Md_person_5 : decode m_Md_person.2.1 5 = .ok (.ifCond .ne 6, 3) := by decide +kernel
theorem d_Md_person_8 : decode m_Md_person.2.1 8 = .ok (.bipush (-2), 2) := by decide +kernel
theorem d_Md_person_10 : decode m_Md_person.2.1 10 = .ok (.ireturn, 1) := by decide +kernel
theorem d_Md_person_11 : decode m_Md_person.2.1 11 = .ok (.iload_n 2, 1) := by decide +kernel
theorem d_Md_person_12 : decode m_Md_person.2.1 12 = .ok (.ifCond .ne 12, 3) := by decide +kernel
theorem d_Md_person_15 : decode m_Md_person.2.1 15 = .ok (.aload_n 0, 1) := by decide +kernel
theorem d_Md_person_16 : decode m_Md_person.2.1 16 = .ok (.getfield 17, 3) := by decide +kernel
theorem d_Md_person_19 : decode m_Md_person.2.1 19 = .ok (.iload_n 1, 1) := by decide +kernel
theorem d_Md_person_20 : decode m_Md_person.2.1 20 = .ok (.iaload, 1) := by decide +kernel
theorem d_Md_person_21 : decode m_Md_person.2.1 21 = .ok (.goto 52, 3) := by decide +kernel
theorem d_Md_person_24 : decode m_Md_person.2.1 24 = .ok (.iload_n 2, 1) := by decide +kernel
theorem d_Md_person_25 : decode m_Md_person.2.1 25 = .ok (.iconst 1, 1) := by decide +kernel
theorem d_Md_person_26 : decode m_Md_person.2.1 26 = .ok (.if_icmp .ne 14, 3) := by decide +kernel
theorem d_Md_person_29 : decode m_Md_person.2.1 29 = .ok (.aload_n 0, 1) := by decide +kernel
theorem d_Md_person_30 : decode m_Md_person.2.1 30 = .ok (.getfield 7, 3) := by decide +kernel
theorem d_Md_person_33 : decode m_Md_person.2.1 33 = .ok (.iconst 1, 1) := by decide +kernel
theorem d_Md_person_34 : decode m_Md_person.2.1 34 = .ok (.iload_n 1, 1) := by decide +kernel
theorem d_Md_person_35 : decode m_Md_person.2.1 35 = .ok (.iadd, 1) := by decide +kernel
theorem d_Md_person_36 : decode m_Md_person.2.1 36 = .ok (.iaload, 1) := by decide +kernel
theorem d_Md_person_37 : decode m_Md_person.2.1 37 = .ok (.goto 36, 3) := by decide +kernel
theorem d_Md_person_40 : decode m_Md_person.2.1 40 = .ok (.iload_n 2, 1) := by decide +kernel
theorem d_Md_person_41 : decode m_Md_person.2.1 41 = .ok (.iconst 2, 1) := by decide +kernel
theorem d_Md_person_42 : decode m_Md_person.2.1 42 = .ok (.if_icmp .ne 12, 3) := by decide +kernel
theorem d_Md_person_45 : decode m_Md_person.2.1 45 = .ok (.aload_n 0, 1) := by decide +kernel
theorem d_Md_person_46 : decode m_Md_person.2.1 46 = .ok (.getfield 23, 3) := by decide +kernel
theorem d_Md_person_49 : decode m_Md_person.2.1 49 = .ok (.iload_n 1, 1) := by decide +kernel
theorem d_Md_person_50 : decode m_Md_person.2.1 50 = .ok (.iaload, 1) := by decide +kernel
theorem d_Md_person_51 : decode m_Md_person.2.1 51 = .ok (.goto 22, 3) := by decide +kernel
theorem d_Md_person_54 : decode m_Md_person.2.1 54 = .ok (.iload_n 2, 1) := by decide +kernel
theorem d_Md_person_55 : decode m_Md_person.2.1 55 = .ok (.iconst 3, 1) := by decide +kernel
theorem d_Md_person_56 : decode m_Md_person.2.1 56 = .ok (.if_icmp .ne 15, 3) := by decide +kernel
theorem d_Md_person_59 : decode m_Md_person.2.1 59 = .ok (.aload_n 0, 1) := by decide +kernel
theorem d_Md_person_60 : decode m_Md_person.2.1 60 = .ok (.getfield 7, 3) := by decide +kernel
theorem d_Md_person_63 : decode m_Md_person.2.1 63 = .ok (.bipush 27, 2) := by decide +kernel
theorem d_Md_person_65 : decode m_Md_person.2.1 65 = .ok (.iload_n 1, 1) := by decide +kernel
theorem d_Md_person_66 : decode m_Md_person.2.1 66 = .ok (.iadd, 1) := by decide +kernel
theorem d_Md_person_67 : decode m_Md_person.2.1 67 = .ok (.iaload, 1) := by decide +kernel
theorem d_Md_person_68 : decode m_Md_person.2.1 68 = .ok (.goto 5, 3) := by decide +kernel
theorem d_Md_person_71 : decode m_Md_person.2.1 71 = .ok (.bipush (-3), 2) := by decide +kernel
theorem d_Md_person_73 : decode m_Md_person.2.1 73 = .ok (.ireturn, 1) := by decide +kernel
theorem d_Md_isPromise_0 : decode m_Md_isPromise.2.1 0 = .ok (.iload_n 1, 1) := by decide +kernel
theorem d_Md_isPromise_1 : decode m_Md_isPromise.2.1 1 = .ok (.i2l, 1) := by decide +kernel
theorem d_Md_isPromise_2 : decode m_Md_isPromise.2.1 2 = .ok (.lconst 0, 1) := by decide +kernel
theorem d_Md_isPromise_3 : decode m_Md_isPromise.2.1 3 = .ok (.aload_n 0, 1) := by decide +kernel
theorem d_Md_isPromise_4 : decode m_Md_isPromise.2.1 4 = .ok (.getfield 115, 3) := by decide +kernel
theorem d_Md_isPromise_7 : decode m_Md_isPromise.2.1 7 = .ok (.iconst 1, 1) := by decide +kernel
theorem d_Md_isPromise_8 : decode m_Md_isPromise.2.1 8 = .ok (.isub, 1) := by decide +kernel
theorem d_Md_isPromise_9 : decode m_Md_isPromise.2.1 9 = .ok (.i2l, 1) := by decide +kernel
theorem d_Md_isPromise_10 : decode m_Md_isPromise.2.1 10 = .ok (.invokestatic 111, 3) := by decide +kernel
theorem d_Md_isPromise_13 : decode m_Md_isPromise.2.1 13 = .ok (.ireturn, 1) := by decide +kernel
theorem d_Md_has_0 : decode m_Md_has.2.1 0 = .ok (.iload_n 0, 1) := by decide +kernel
theorem d_Md_has_1 : decode m_Md_has.2.1 1 = .ok (.iload_n 1, 1) := by decide +kernel
theorem d_Md_has_2 : decode m_Md_has.2.1 2 = .ok (.ishr, 1) := by decide +kernel
theorem d_Md_has_3 : decode m_Md_has.2.1 3 = .ok (.iconst 1, 1) := by decide +kernel
theorem d_Md_has_4 : decode m_Md_has.2.1 4 = .ok (.iand, 1) := by decide +kernel
theorem d_Md_has_5 : decode m_Md_has.2.1 5 = .ok (.iconst 1, 1) := by decide +kernel
theorem d_Md_has_6 : decode m_Md_has.2.1 6 = .ok (.if_icmp .ne 7, 3) := by decide +kernel
theorem d_Md_has_9 : decode m_Md_has.2.1 9 = .ok (.iconst 1, 1) := by decide +kernel
theorem d_Md_has_10 : decode m_Md_has.2.1 10 = .ok (.goto 4, 3) := by decide +kernel
theorem d_Md_has_13 : decode m_Md_has.2.1 13 = .ok (.iconst 0, 1) := by decide +kernel
theorem d_Md_has_14 : decode m_Md_has.2.1 14 = .ok (.ireturn, 1) := by decide +kernel
theorem d_Md_year_0 : decode m_Md_year.2.1 0 = .ok (.iload_n 1, 1) := by decide +kernel
theorem d_Md_year_1 : decode m_Md_year.2.1 1 = .ok (.i2l, 1) := by decide +kernel
theorem d_Md_year_2 : decode m_Md_year.2.1 2 = .ok (.lconst 1, 1) := by decide +kernel
theorem d_Md_year_3 : decode m_Md_year.2.1 3 = .ok (.ldc2_w 273, 3) := by decide +kernel
theorem d_Md_year_6 : decode m_Md_year.2.1 6 = .ok (.invokestatic 111, 3) := by decide +kernel
theorem d_Md_year_9 : decode m_Md_year.2.1 9 = .ok (.ifCond .ne 6, 3) := by decide +kernel
theorem d_Md_year_12 : decode m_Md_year.2.1 12 = .ok (.bipush (-3), 2) := by decide +kernel
theorem d_Md_year_14 : decode m_Md_year.2.1 14 = .ok (.ireturn, 1) := by decide +kernel
theorem d_Md_year_15 : decode m_Md_year.2.1 15 = .ok (.aload_n 0, 1) := by decide +kernel
theorem d_Md_year_16 : decode m_Md_year.2.1 16 = .ok (.getfield 7, 3) := by decide +kernel
theorem d_Md_year_19 : decode m_Md_year.2.1 19 = .ok (.iconst 0, 1) := by decide +kernel
theorem d_Md_year_20 : decode m_Md_year.2.1 20 = .ok (.iaload, 1) := by decide +kernel
theorem d_Md_year_21 : decode m_Md_year.2.1 21 = .ok (.iload_n 1, 1) := by decide +kernel
theorem d_Md_year_22 : decode m_Md_year.2.1 22 = .ok (.iadd, 1) := by decide +kernel
theorem d_Md_year_23 : decode m_Md_year.2.1 23 = .ok (.sipush 999, 3) := by decide +kernel
theorem d_Md_year_26 : decode m_Md_year.2.1 26 = .ok (.if_icmp .le 6, 3) := by decide +kernel
theorem d_Md_year_29 : decode m_Md_year.2.1 29 = .ok (.bipush (-5), 2) := by decide +kernel
theorem d_Md_year_31 : decode m_Md_year.2.1 31 = .ok (.ireturn, 1) := by decide +kernel
theorem d_Md_year_32 : decode m_Md_year.2.1 32 = .ok (.aload_n 0, 1) := by decide +kernel
theorem d_Md_year_33 : decode m_Md_year.2.1 33 = .ok (.invokevirtual 275, 3) := by decide +kernel
theorem d_Md_year_36 : decode m_Md_year.2.1 36 = .ok (.iconst 0, 1) := by decide +kernel
theorem d_Md_year_37 : decode m_Md_year.2.1 37 = .ok (.istore_n 2, 1) := by decide +kernel
theorem d_Md_year_38 : decode m_Md_year.2.1 38 = .ok (.iload_n 2, 1) := by decide +kernel
theorem d_Md_year_39 : decode m_Md_year.2.1 39 = .ok (.iload_n 1, 1) := by decide +kernel
theorem d_Md_year_40 : decode m_Md_year.2.1 40 = .ok (.if_icmp .ge 14, 3) := by decide +kernel
theorem d_Md_year_43 : decode m_Md_year.2.1 43 = .ok (.aload_n 0, 1) := by decide +kernel
theorem d_Md_year_44 : decode m_Md_year.2.1 44 = .ok (.iconst 0, 1) := by decide +kernel
theorem d_Md_year_45 : decode m_Md_year.2.1 45 = .ok (.invokevirtual 278, 3) := by decide +kernel
theorem d_Md_year_48 : decode m_Md_year.2.1 48 = .ok (.iinc 2 1, 3) := by decide +kernel
theorem d_Md_year_51 : decode m_Md_year.2.1 51 = .ok (.goto (-13), 3) := by decide +kernel
theorem d_Md_year_54 : decode m_Md_year.2.1 54 = .ok (.aload_n 0, 1) := by decide +kernel
theorem d_Md_year_55 : decode m_Md_year.2.1 55 = .ok (.getfield 7, 3) := by decide +kernel
theorem d_Md_year_58 : decode m_Md_year.2.1 58 = .ok (.iconst 0, 1) := by decide +kernel
theorem d_Md_year_59 : decode m_Md_year.2.1 59 = .ok (.iaload, 1) := by decide +kernel
theorem d_Md_year_60 : decode m_Md_year.2.1 60 = .ok (.ireturn, 1) := by decide +kernel
theorem d_Md_becomesKept_0 : decode m_Md_becomesKept.2.1 0 = .ok (.aload_n 0, 1) := by decide +kernel
theorem d_Md_becomesKept_1 : decode m_Md_becomesKept.2.1 1 = .ok (.iload_n 1, 1) := by decide +kernel
theorem d_Md_becomesKept_2 : decode m_Md_becomesKept.2.1 2 = .ok (.iload_n 2, 1) := by decide +kernel
theorem d_Md_becomesKept_3 : decode m_Md_becomesKept.2.1 3 = .ok (.iload_n 3, 1) := by decide +kernel
theorem d_Md_becomesKept_4 : decode m_Md_becomesKept.2.1 4 = .ok (.invokevirtual 239, 3) := by decide +kernel
theorem d_Md_becomesKept_7 : decode m_Md_becomesKept.2.1 7 = .ok (.aload_n 0, 1) := by decide +kernel
theorem d_Md_becomesKept_8 : decode m_Md_becomesKept.2.1 8 = .ok (.getfield 7, 3) := by decide +kernel
theorem d_Md_becomesKept_11 : decode m_Md_becomesKept.2.1 11 = .ok (.iload_n 1, 1) := by decide +kernel
theorem d_Md_becomesKept_12 : decode m_Md_becomesKept.2.1 12 = .ok (.bipush 26, 2) := by decide +kernel
theorem d_Md_becomesKept_14 : decode m_Md_becomesKept.2.1 14 = .ok (.iadd, 1) := by decide +kernel
theorem d_Md_becomesKept_15 : decode m_Md_becomesKept.2.1 15 = .ok (.dup2, 1) := by decide +kernel
theorem d_Md_becomesKept_16 : decode m_Md_becomesKept.2.1 16 = .ok (.iaload, 1) := by decide +kernel
theorem d_Md_becomesKept_17 : decode m_Md_becomesKept.2.1 17 = .ok (.iconst 1, 1) := by decide +kernel
theorem d_Md_becomesKept_18 : decode m_Md_becomesKept.2.1 18 = .ok (.iload_n 2, 1) := by decide +kernel
theorem d_Md_becomesKept_19 : decode m_Md_becomesKept.2.1 19 = .ok (.ishl, 1) := by decide +kernel
theorem d_Md_becomesKept_20 : decode m_Md_becomesKept.2.1 20 = .ok (.ior, 1) := by decide +kernel
theorem d_Md_becomesKept_21 : decode m_Md_becomesKept.2.1 21 = .ok (.iastore, 1) := by decide +kernel
theorem d_Md_becomesKept_22 : decode m_Md_becomesKept.2.1 22 = .ok (.return_, 1) := by decide +kernel
theorem d_Md_shorten_0 : decode m_Md_shorten.2.1 0 = .ok (.aload_n 0, 1) := by decide +kernel
theorem d_Md_shorten_1 : decode m_Md_shorten.2.1 1 = .ok (.iload_n 1, 1) := by decide +kernel
theorem d_Md_shorten_2 : decode m_Md_shorten.2.1 2 = .ok (.invokevirtual 259, 3) := by decide +kernel
theorem d_Md_shorten_5 : decode m_Md_shorten.2.1 5 = .ok (.ifCond .ne 6, 3) := by decide +kernel
theorem d_Md_shorten_8 : decode m_Md_shorten.2.1 8 = .ok (.bipush (-2), 2) := by decide +kernel
theorem d_Md_shorten_10 : decode m_Md_shorten.2.1 10 = .ok (.ireturn, 1) := by decide +kernel
theorem d_Md_shorten_11 : decode m_Md_shorten.2.1 11 = .ok (.aload_n 0, 1) := by decide +kernel
theorem d_Md_shorten_12 : decode m_Md_shorten.2.1 12 = .ok (.getfield 7, 3) := by decide +kernel
theorem d_Md_shorten_15 : decode m_Md_shorten.2.1 15 = .ok (.bipush 6, 2) := by decide +kernel
theorem d_Md_shorten_17 : decode m_Md_shorten.2.1 17 = .ok (.iload_n 1, 1) := by decide +kernel
theorem d_Md_shorten_18 : decode m_Md_shorten.2.1 18 = .ok (.iadd, 1) := by decide +kernel
theorem d_Md_shorten_19 : decode m_Md_shorten.2.1 19 = .ok (.iaload, 1) := by decide +kernel
theorem d_Md_shorten_20 : decode m_Md_shorten.2.1 20 = .ok (.aload_n 0, 1) := by decide +kernel
theorem d_Md_shorten_21 : decode m_Md_shorten.2.1 21 = .ok (.getfield 7, 3) := by decide +kernel
theorem d_Md_shorten_24 : decode m_Md_shorten.2.1 24 = .ok (.bipush 16, 2) := by decide +kernel
theorem d_Md_shorten_26 : decode m_Md_shorten.2.1 26 = .ok (.iload_n 1, 1) := by decide +kernel
theorem d_Md_shorten_27 : decode m_Md_shorten.2.1 27 = .ok (.iadd, 1) := by decide +kernel
theorem d_Md_shorten_28 : decode m_Md_shorten.2.1 28 = .ok (.iaload, 1) := by decide +kernel
theorem d_Md_shorten_29 : decode m_Md_shorten.2.1 29 = .ok (.isub, 1) := by decide +kernel
theorem d_Md_shorten_30 : decode m_Md_shorten.2.1 30 = .ok (.iconst 2, 1) := by decide +kernel
theorem d_Md_shorten_31 : decode m_Md_shorten.2.1 31 = .ok (.idiv, 1) := by decide +kernel
theorem d_Md_shorten_32 : decode m_Md_shorten.2.1 32 = .ok (.istore_n 2, 1) := by decide +kernel
theorem d_Md_shorten_33 : decode m_Md_shorten.2.1 33 = .ok (.aload_n 0, 1) := by decide +kernel
theorem d_Md_shorten_34 : decode m_Md_shorten.2.1 34 = .ok (.getfield 7, 3) := by decide +kernel
theorem d_Md_shorten_37 : decode m_Md_shorten.2.1 37 = .ok (.bipush 26, 2) := by decide +kernel
theorem d_Md_shorten_39 : decode m_Md_shorten.2.1 39 = .ok (.iaload, 1) := by decide +kernel
theorem d_Md_shorten_40 : decode m_Md_shorten.2.1 40 = .ok (.iload_n 1, 1) := by decide +kernel
theorem d_Md_shorten_41 : decode m_Md_shorten.2.1 41 = .ok (.invokestatic 236, 3) := by decide +kernel
theorem d_Md_shorten_44 : decode m_Md_shorten.2.1 44 = .ok (.ifCond .ne 7, 3) := by decide +kernel
theorem d_Md_shorten_47 : decode m_Md_shorten.2.1 47 = .ok (.iload_n 2, 1) := by decide +kernel
theorem d_Md_shorten_48 : decode m_Md_shorten.2.1 48 = .ok (.ifCond .ne 6, 3) := by decide +kernel
theorem d_Md_shorten_51 : decode m_Md_shorten.2.1 51 = .ok (.bipush (-4), 2) := by decide +kernel
theorem d_Md_shorten_53 : decode m_Md_shorten.2.1 53 = .ok (.ireturn, 1) := by decide +kernel
theorem d_Md_shorten_54 : decode m_Md_shorten.2.1 54 = .ok (.aload_n 0, 1) := by decide +kernel
theorem d_Md_shorten_55 : decode m_Md_shorten.2.1 55 = .ok (.invokevirtual 275, 3) := by decide +kernel
theorem d_Md_shorten_58 : decode m_Md_shorten.2.1 58 = .ok (.aload_n 0, 1) := by decide +kernel
theorem d_Md_shorten_59 : decode m_Md_shorten.2.1 59 = .ok (.getfield 7, 3) := by decide +kernel
theorem d_Md_shorten_62 : decode m_Md_shorten.2.1 62 = .ok (.bipush 6, 2) := by decide +kernel
theorem d_Md_shorten_64 : decode m_Md_shorten.2.1 64 = .ok (.iload_n 1, 1) := by decide +kernel
theorem d_Md_shorten_65 : decode m_Md_shorten.2.1 65 = .ok (.iadd, 1) := by decide +kernel
theorem d_Md_shorten_66 : decode m_Md_shorten.2.1 66 = .ok (.dup2, 1) := by decide +kernel
theorem d_Md_shorten_67 : decode m_Md_shorten.2.1 67 = .ok (.iaload, 1) := by decide +kernel
theorem d_Md_shorten_68 : decode m_Md_shorten.2.1 68 = .ok (.iload_n 2, 1) := by decide +kernel
theorem d_Md_shorten_69 : decode m_Md_shorten.2.1 69 = .ok (.isub, 1) := by decide +kernel
theorem d_Md_shorten_70 : decode m_Md_shorten.2.1 70 = .ok (.iastore, 1) := by decide +kernel
theorem d_Md_shorten_71 : decode m_Md_shorten.2.1 71 = .ok (.aload_n 0, 1) := by decide +kernel
theorem d_Md_shorten_72 : decode m_Md_shorten.2.1 72 = .ok (.getfield 7, 3) := by decide +kernel
theorem d_Md_shorten_75 : decode m_Md_shorten.2.1 75 = .ok (.bipush 6, 2) := by decide +kernel
theorem d_Md_shorten_77 : decode m_Md_shorten.2.1 77 = .ok (.iload_n 1, 1) := by decide +kernel
theorem d_Md_shorten_78 : decode m_Md_shorten.2.1 78 = .ok (.iadd, 1) := by decide +kernel
theorem d_Md_shorten_79 : decode m_Md_shorten.2.1 79 = .ok (.iaload, 1) := by decide +kernel
theorem d_Md_shorten_80 : decode m_Md_shorten.2.1 80 = .ok (.ireturn, 1) := by decide +kernel
theorem d_Md_back_0 : decode m_Md_back.2.1 0 = .ok (.iload_n 1, 1) := by decide +kernel
theorem d_Md_back_1 : decode m_Md_back.2.1 1 = .ok (.i2l, 1) := by decide +kernel
theorem d_Md_back_2 : decode m_Md_back.2.1 2 = .ok (.lconst 0, 1) := by decide +kernel
theorem d_Md_back_3 : decode m_Md_back.2.1 3 = .ok (.lconst 1, 1) := by decide +kernel
theorem d_Md_back_4 : decode m_Md_back.2.1 4 = .ok (.invokestatic 111, 3) := by decide +kernel
theorem d_Md_back_7 : decode m_Md_back.2.1 7 = .ok (.ifCond .ne 6, 3) := by decide +kernel
theorem d_Md_back_10 : decode m_Md_back.2.1 10 = .ok (.bipush (-2), 2) := by decide +kernel
theorem d_Md_back_12 : decode m_Md_back.2.1 12 = .ok (.ireturn, 1) := by decide +kernel
theorem d_Md_back_13 : decode m_Md_back.2.1 13 = .ok (.aload_n 0, 1) := by decide +kernel
theorem d_Md_back_14 : decode m_Md_back.2.1 14 = .ok (.getfield 13, 3) := by decide +kernel
theorem d_Md_back_17 : decode m_Md_back.2.1 17 = .ok (.iload_n 1, 1) := by decide +kernel
theorem d_Md_back_18 : decode m_Md_back.2.1 18 = .ok (.baload, 1) := by decide +kernel
theorem d_Md_back_19 : decode m_Md_back.2.1 19 = .ok (.ifCond .ne 6, 3) := by decide +kernel
theorem d_Md_back_22 : decode m_Md_back.2.1 22 = .ok (.bipush (-4), 2) := by decide +kernel
theorem d_Md_back_24 : decode m_Md_back.2.1 24 = .ok (.ireturn, 1) := by decide +kernel
theorem d_Md_back_25 : decode m_Md_back.2.1 25 = .ok (.aload_n 0, 1) := by decide +kernel
theorem d_Md_back_26 : decode m_Md_back.2.1 26 = .ok (.sipush 186, 3) := by decide +kernel
theorem d_Md_back_29 : decode m_Md_back.2.1 29 = .ok (.bipush 93, 2) := by decide +kernel
theorem d_Md_back_31 : decode m_Md_back.2.1 31 = .ok (.iload_n 1, 1) := by decide +kernel
theorem d_Md_back_32 : decode m_Md_back.2.1 32 = .ok (.imul, 1) := by decide +kernel
theorem d_Md_back_33 : decode m_Md_back.2.1 33 = .ok (.iadd, 1) := by decide +kernel
theorem d_Md_back_34 : decode m_Md_back.2.1 34 = .ok (.iconst 0, 1) := by decide +kernel
theorem d_Md_back_35 : decode m_Md_back.2.1 35 = .ok (.invokevirtual 270, 3) := by decide +kernel
theorem d_Md_back_38 : decode m_Md_back.2.1 38 = .ok (.aload_n 0, 1) := by decide +kernel
theorem d_Md_back_39 : decode m_Md_back.2.1 39 = .ok (.iconst 0, 1) := by decide +kernel
theorem d_Md_back_40 : decode m_Md_back.2.1 40 = .ok (.putfield 226, 3) := by decide +kernel
theorem d_Md_back_43 : decode m_Md_back.2.1 43 = .ok (.aload_n 0, 1) := by decide +kernel
theorem d_Md_back_44 : decode m_Md_back.2.1 44 = .ok (.getfield 7, 3) := by decide +kernel
theorem d_Md_back_47 : decode m_Md_back.2.1 47 = .ok (.iconst 0, 1) := by decide +kernel
theorem d_Md_back_48 : decode m_Md_back.2.1 48 = .ok (.iaload, 1) := by decide +kernel
theorem d_Md_back_49 : decode m_Md_back.2.1 49 = .ok (.ireturn, 1) := by decide +kernel
theorem d_Md_keeps_0 : decode m_Md_keeps.2.1 0 = .ok (.aload_n 0, 1) := by decide +kernel
theorem d_Md_keeps_1 : decode m_Md_keeps.2.1 1 = .ok (.iload_n 1, 1) := by decide +kernel
theorem d_Md_keeps_2 : decode m_Md_keeps.2.1 2 = .ok (.invokevirtual 259, 3) := by decide +kernel
theorem d_Md_keeps_5 : decode m_Md_keeps.2.1 5 = .ok (.ifCond .ne 6, 3) := by decide +kernel
theorem d_Md_keeps_8 : decode m_Md_keeps.2.1 8 = .ok (.bipush (-2), 2) := by decide +kernel
theorem d_Md_keeps_10 : decode m_Md_keeps.2.1 10 = .ok (.ireturn, 1) := by decide +kernel
theorem d_Md_keeps_11 : decode m_Md_keeps.2.1 11 = .ok (.aload_n 0, 1) := by decide +kernel
theorem d_Md_keeps_12 : decode m_Md_keeps.2.1 12 = .ok (.invokevirtual 284, 3) := by decide +kernel
theorem d_Md_keeps_15 : decode m_Md_keeps.2.1 15 = .ok (.iconst 0, 1) := by decide +kernel
theorem d_Md_keeps_16 : decode m_Md_keeps.2.1 16 = .ok (.istore_n 2, 1) := by decide +kernel
theorem d_Md_keeps_17 : decode m_Md_keeps.2.1 17 = .ok (.iload_n 2, 1) := by decide +kernel
theorem d_Md_keeps_18 : decode m_Md_keeps.2.1 18 = .ok (.bipush 60, 2) := by decide +kernel
theorem d_Md_keeps_20 : decode m_Md_keeps.2.1 20 = .ok (.if_icmp .gt 31, 3) := by decide +kernel
theorem d_Md_keeps_23 : decode m_Md_keeps.2.1 23 = .ok (.aload_n 0, 1) := by decide +kernel
theorem d_Md_keeps_24 : decode m_Md_keeps.2.1 24 = .ok (.getfield 7, 3) := by decide +kernel
theorem d_Md_keeps_27 : decode m_Md_keeps.2.1 27 = .ok (.bipush 119, 2) := by decide +kernel
theorem d_Md_keeps_29 : decode m_Md_keeps.2.1 29 = .ok (.iaload, 1) := by decide +kernel
theorem d_Md_keeps_30 : decode m_Md_keeps.2.1 30 = .ok (.iload_n 1, 1) := by decide +kernel
theorem d_Md_keeps_31 : decode m_Md_keeps.2.1 31 = .ok (.invokestatic 236, 3) := by decide +kernel
theorem d_Md_keeps_34 : decode m_Md_keeps.2.1 34 = .ok (.ifCond .eq 5, 3) := by decide +kernel
theorem d_Md_keeps_37 : decode m_Md_keeps.2.1 37 = .ok (.iload_n 2, 1) := by decide +kernel
theorem d_Md_keeps_38 : decode m_Md_keeps.2.1 38 = .ok (.ireturn, 1) := by decide +kernel
theorem d_Md_keeps_39 : decode m_Md_keeps.2.1 39 = .ok (.aload_n 0, 1) := by decide +kernel
theorem d_Md_keeps_40 : decode m_Md_keeps.2.1 40 = .ok (.bipush 93, 2) := by decide +kernel
theorem d_Md_keeps_42 : decode m_Md_keeps.2.1 42 = .ok (.invokevirtual 278, 3) := by decide +kernel
theorem d_Md_keeps_45 : decode m_Md_keeps.2.1 45 = .ok (.iinc 2 1, 3) := by decide +kernel
theorem d_Md_keeps_48 : decode m_Md_keeps.2.1 48 = .ok (.goto (-31), 3) := by decide +kernel
theorem d_Md_keeps_51 : decode m_Md_keeps.2.1 51 = .ok (.iconst (-1), 1) := by decide +kernel
theorem d_Md_keeps_52 : decode m_Md_keeps.2.1 52 = .ok (.ireturn, 1) := by decide +kernel
theorem d_Md_bestOrder_0 : decode m_Md_bestOrder.2.1 0 = .ok (.aload_n 0, 1) := by decide +kernel
theorem d_Md_bestOrder_1 : decode m_Md_bestOrder.2.1 1 = .ok (.getfield 7, 3) := by decide +kernel
theorem d_Md_bestOrder_4 : decode m_Md_bestOrder.2.1 4 = .ok (.bipush 27, 2) := by decide +kernel
theorem d_Md_bestOrder_6 : decode m_Md_bestOrder.2.1 6 = .ok (.iload_n 1, 1) := by decide +kernel
theorem d_Md_bestOrder_7 : decode m_Md_bestOrder.2.1 7 = .ok (.iadd, 1) := by decide +kernel
theorem d_Md_bestOrder_8 : decode m_Md_bestOrder.2.1 8 = .ok (.iaload, 1) := by decide +kernel
theorem d_Md_bestOrder_9 : decode m_Md_bestOrder.2.1 9 = .ok (.istore_n 3, 1) := by decide +kernel
theorem d_Md_bestOrder_10 : decode m_Md_bestOrder.2.1 10 = .ok (.iconst (-1), 1) := by decide +kernel
theorem d_Md_bestOrder_11 : decode m_Md_bestOrder.2.1 11 = .ok (.istore 4, 2) := by decide +kernel
theorem d_Md_bestOrder_13 : decode m_Md_bestOrder.2.1 13 = .ok (.iconst 0, 1) := by decide +kernel
theorem d_Md_bestOrder_14 : decode m_Md_bestOrder.2.1 14 = .ok (.istore 5, 2) := by decide +kernel
theorem d_Md_bestOrder_16 : decode m_Md_bestOrder.2.1 16 = .ok (.aload_n 0, 1) := by decide +kernel
theorem d_Md_bestOrder_17 : decode m_Md_bestOrder.2.1 17 = .ok (.getfield 71, 3) := by decide +kernel
theorem d_Md_bestOrder_20 : decode m_Md_bestOrder.2.1 20 = .ok (.iconst 0, 1) := by decide +kernel
theorem d_Md_bestOrder_21 : decode m_Md_bestOrder.2.1 21 = .ok (.iconst (-1), 1) := by decide +kernel
theorem d_Md_bestOrder_22 : decode m_Md_bestOrder.2.1 22 = .ok (.iastore, 1) := by decide +kernel
theorem d_Md_bestOrder_23 : decode m_Md_bestOrder.2.1 23 = .ok (.iload 5, 2) := by decide +kernel
theorem d_Md_bestOrder_25 : decode m_Md_bestOrder.2.1 25 = .ok (.ifCond .lt 231, 3) := by decide +kernel
theorem d_Md_bestOrder_28 : decode m_Md_bestOrder.2.1 28 = .ok (.iconst 0, 1) := by decide +kernel
theorem d_Md_bestOrder_29 : decode m_Md_bestOrder.2.1 29 = .ok (.istore 6, 2) := by decide +kernel
theorem d_Md_bestOrder_31 : decode m_Md_bestOrder.2.1 31 = .ok (.iconst 0, 1) := by decide +kernel
theorem d_Md_bestOrder_32 : decode m_Md_bestOrder.2.1 32 = .ok (.istore 7, 2) := by decide +kernel
theorem d_Md_bestOrder_34 : decode m_Md_bestOrder.2.1 34 = .ok (.iload 7, 2) := by decide +kernel
theorem d_Md_bestOrder_36 : decode m_Md_bestOrder.2.1 36 = .ok (.iload 5, 2) := by decide +kernel
theorem d_Md_bestOrder_38 : decode m_Md_bestOrder.2.1 38 = .ok (.if_icmp .ge 23, 3) := by decide +kernel
theorem d_Md_bestOrder_41 : decode m_Md_bestOrder.2.1 41 = .ok (.iload 6, 2) := by decide +kernel
theorem d_Md_bestOrder_43 : decode m_Md_bestOrder.2.1 43 = .ok (.iconst 1, 1) := by decide +kernel
theorem d_Md_bestOrder_44 : decode m_Md_bestOrder.2.1 44 = .ok (.aload_n 0, 1) := by decide +kernel
theorem d_Md_bestOrder_45 : decode m_Md_bestOrder.2.1 45 = .ok (.getfield 71, 3) := by decide +kernel
theorem d_Md_bestOrder_48 : decode m_Md_bestOrder.2.1 48 = .ok (.iload 7, 2) := by decide +kernel
theorem d_Md_bestOrder_50 : decode m_Md_bestOrder.2.1 50 = .ok (.iaload, 1) := by decide +kernel
theorem d_Md_bestOrder_51 : decode m_Md_bestOrder.2.1 51 = .ok (.ishl, 1) := by decide +kernel
theorem d_Md_bestOrder_52 : decode m_Md_bestOrder.2.1 52 = .ok (.ior, 1) := by decide +kernel
theorem d_Md_bestOrder_53 : decode m_Md_bestOrder.2.1 53 = .ok (.istore 6, 2) := by decide +kernel
theorem d_Md_bestOrder_55 : decode m_Md_bestOrder.2.1 55 = .ok (.iinc 7 1, 3) := by decide +kernel
theorem d_Md_bestOrder_58 : decode m_Md_bestOrder.2.1 58 = .ok (.goto (-24), 3) := by decide +kernel
theorem d_Md_bestOrder_61 : decode m_Md_bestOrder.2.1 61 = .ok (.iload 5, 2) := by decide +kernel
theorem d_Md_bestOrder_63 : decode m_Md_bestOrder.2.1 63 = .ok (.iload_n 3, 1) := by decide +kernel
theorem d_Md_bestOrder_64 : decode m_Md_bestOrder.2.1 64 = .ok (.if_icmp .ne 107, 3) := by decide +kernel
theorem d_Md_bestOrder_67 : decode m_Md_bestOrder.2.1 67 = .ok (.aload_n 0, 1) := by decide +kernel
theorem d_Md_bestOrder_68 : decode m_Md_bestOrder.2.1 68 = .ok (.invokevirtual 284, 3) := by decide +kernel
theorem d_Md_bestOrder_71 : decode m_Md_bestOrder.2.1 71 = .ok (.iconst 0, 1) := by decide +kernel
theorem d_Md_bestOrder_72 : decode m_Md_bestOrder.2.1 72 = .ok (.istore 7, 2) := by decide +kernel
theorem d_Md_bestOrder_74 : decode m_Md_bestOrder.2.1 74 = .ok (.iload 7, 2) := by decide +kernel
theorem d_Md_bestOrder_76 : decode m_Md_bestOrder.2.1 76 = .ok (.iload_n 3, 1) := by decide +kernel
theorem d_Md_bestOrder_77 : decode m_Md_bestOrder.2.1 77 = .ok (.if_icmp .ge 31, 3) := by decide +kernel
theorem d_Md_bestOrder_80 : decode m_Md_bestOrder.2.1 80 = .ok (.aload_n 0, 1) := by decide +kernel
theorem d_Md_bestOrder_81 : decode m_Md_bestOrder.2.1 81 = .ok (.getfield 7, 3) := by decide +kernel
theorem d_Md_bestOrder_84 : decode m_Md_bestOrder.2.1 84 = .ok (.bipush 126, 2) := by decide +kernel
theorem d_Md_bestOrder_86 : decode m_Md_bestOrder.2.1 86 = .ok (.bipush 10, 2) := by decide +kernel
theorem d_Md_bestOrder_88 : decode m_Md_bestOrder.2.1 88 = .ok (.iload_n 1, 1) := by decide +kernel
theorem d_Md_bestOrder_89 : decode m_Md_bestOrder.2.1 89 = .ok (.imul, 1) := by decide +kernel
theorem d_Md_bestOrder_90 : decode m_Md_bestOrder.2.1 90 = .ok (.iadd, 1) := by decide +kernel
theorem d_Md_bestOrder_91 : decode m_Md_bestOrder.2.1 91 = .ok (.iload 7, 2) := by decide +kernel
theorem d_Md_bestOrder_93 : decode m_Md_bestOrder.2.1 93 = .ok (.iadd, 1) := by decide +kernel
theorem d_Md_bestOrder_94 : decode m_Md_bestOrder.2.1 94 = .ok (.aload_n 0, 1) := by decide +kernel
theorem d_Md_bestOrder_95 : decode m_Md_bestOrder.2.1 95 = .ok (.getfield 71, 3) := by decide +kernel
theorem d_Md_bestOrder_98 : decode m_Md_bestOrder.2.1 98 = .ok (.iload 7, 2) := by decide +kernel
theorem d_Md_bestOrder_100 : decode m_Md_bestOrder.2.1 100 = .ok (.iaload, 1) := by decide +kernel
theorem d_Md_bestOrder_101 : decode m_Md_bestOrder.2.1 101 = .ok (.iastore, 1) := by decide +kernel
theorem d_Md_bestOrder_102 : decode m_Md_bestOrder.2.1 102 = .ok (.iinc 7 1, 3) := by decide +kernel
theorem d_Md_bestOrder_105 : decode m_Md_bestOrder.2.1 105 = .ok (.goto (-31), 3) := by decide +kernel
theorem d_Md_bestOrder_108 : decode m_Md_bestOrder.2.1 108 = .ok (.aload_n 0, 1) := by decide +kernel
theorem d_Md_bestOrder_109 : decode m_Md_bestOrder.2.1 109 = .ok (.iload_n 2, 1) := by decide +kernel
theorem d_Md_bestOrder_110 : decode m_Md_bestOrder.2.1 110 = .ok (.invokevirtual 287, 3) := by decide +kernel
theorem d_Md_bestOrder_113 : decode m_Md_bestOrder.2.1 113 = .ok (.aload_n 0, 1) := by decide +kernel
theorem d_Md_bestOrder_114 : decode m_Md_bestOrder.2.1 114 = .ok (.getfield 7, 3) := by decide +kernel
theorem d_Md_bestOrder_117 : decode m_Md_bestOrder.2.1 117 = .ok (.bipush 119, 2) := by decide +kernel
theorem d_Md_bestOrder_119 : decode m_Md_bestOrder.2.1 119 = .ok (.iaload, 1) := by decide +kernel
theorem d_Md_bestOrder_120 : decode m_Md_bestOrder.2.1 120 = .ok (.invokestatic 290, 3) := by decide +kernel
theorem d_Md_bestOrder_123 : decode m_Md_bestOrder.2.1 123 = .ok (.istore 7, 2) := by decide +kernel
theorem d_Md_bestOrder_125 : decode m_Md_bestOrder.2.1 125 = .ok (.iload 7, 2) := by decide +kernel
theorem d_Md_bestOrder_127 : decode m_Md_bestOrder.2.1 127 = .ok (.iload 4, 2) := by decide +kernel
theorem d_Md_bestOrder_129 : decode m_Md_bestOrder.2.1 129 = .ok (.if_icmp .le 36, 3) := by decide +kernel
theorem d_Md_bestOrder_132 : decode m_Md_bestOrder.2.1 132 = .ok (.iload 7, 2) := by decide +kernel
theorem d_Md_bestOrder_134 : decode m_Md_bestOrder.2.1 134 = .ok (.istore 4, 2) := by decide +kernel
theorem d_Md_bestOrder_136 : decode m_Md_bestOrder.2.1 136 = .ok (.iconst 0, 1) := by decide +kernel
theorem d_Md_bestOrder_137 : decode m_Md_bestOrder.2.1 137 = .ok (.istore 8, 2) := by decide +kernel
theorem d_Md_bestOrder_139 : decode m_Md_bestOrder.2.1 139 = .ok (.iload 8, 2) := by decide +kernel
theorem d_Md_bestOrder_141 : decode m_Md_bestOrder.2.1 141 = .ok (.iload_n 3, 1) := by decide +kernel
theorem d_Md_bestOrder_142 : decode m_Md_bestOrder.2.1 142 = .ok (.if_icmp .ge 23, 3) := by decide +kernel
theorem d_Md_bestOrder_145 : decode m_Md_bestOrder.2.1 145 = .ok (.aload_n 0, 1) := by decide +kernel
theorem d_Md_bestOrder_146 : decode m_Md_bestOrder.2.1 146 = .ok (.getfield 74, 3) := by decide +kernel
theorem d_Md_bestOrder_149 : decode m_Md_bestOrder.2.1 149 = .ok (.iload 8, 2) := by decide +kernel
theorem d_Md_bestOrder_151 : decode m_Md_bestOrder.2.1 151 = .ok (.aload_n 0, 1) := by decide +kernel
theorem d_Md_bestOrder_152 : decode m_Md_bestOrder.2.1 152 = .ok (.getfield 71, 3) := by decide +kernel
theorem d_Md_bestOrder_155 : decode m_Md_bestOrder.2.1 155 = .ok (.iload 8, 2) := by decide +kernel
theorem d_Md_bestOrder_157 : decode m_Md_bestOrder.2.1 157 = .ok (.iaload, 1) := by decide +kernel
theorem d_Md_bestOrder_158 : decode m_Md_bestOrder.2.1 158 = .ok (.iastore, 1) := by decide +kernel
theorem d_Md_bestOrder_159 : decode m_Md_bestOrder.2.1 159 = .ok (.iinc 8 1, 3) := by decide +kernel
theorem d_Md_bestOrder_162 : decode m_Md_bestOrder.2.1 162 = .ok (.goto (-23), 3) := by decide +kernel
theorem d_Md_bestOrder_165 : decode m_Md_bestOrder.2.1 165 = .ok (.iinc 5 (-1), 3) := by decide +kernel
theorem d_Md_bestOrder_168 : decode m_Md_bestOrder.2.1 168 = .ok (.goto 85, 3) := by decide +kernel
theorem d_Md_bestOrder_171 : decode m_Md_bestOrder.2.1 171 = .ok (.aload_n 0, 1) := by decide +kernel
theorem d_Md_bestOrder_172 : decode m_Md_bestOrder.2.1 172 = .ok (.getfield 71, 3) := by decide +kernel
theorem d_Md_bestOrder_175 : decode m_Md_bestOrder.2.1 175 = .ok (.iload 5, 2) := by decide +kernel
theorem d_Md_bestOrder_177 : decode m_Md_bestOrder.2.1 177 = .ok (.iaload, 1) := by decide +kernel
theorem d_Md_bestOrder_178 : decode m_Md_bestOrder.2.1 178 = .ok (.iconst 1, 1) := by decide +kernel
theorem d_Md_bestOrder_179 : decode m_Md_bestOrder.2.1 179 = .ok (.iadd, 1) := by decide +kernel
theorem d_Md_bestOrder_180 : decode m_Md_bestOrder.2.1 180 = .ok (.istore 7, 2) := by decide +kernel
theorem d_Md_bestOrder_182 : decode m_Md_bestOrder.2.1 182 = .ok (.iload 7, 2) := by decide +kernel
theorem d_Md_bestOrder_184 : decode m_Md_bestOrder.2.1 184 = .ok (.aload_n 0, 1) := by decide +kernel
theorem d_Md_bestOrder_185 : decode m_Md_bestOrder.2.1 185 = .ok (.getfield 115, 3) := by decide +kernel
theorem d_Md_bestOrder_188 : decode m_Md_bestOrder.2.1 188 = .ok (.if_icmp .ge 30, 3) := by decide +kernel
theorem d_Md_bestOrder_191 : decode m_Md_bestOrder.2.1 191 = .ok (.iload 6, 2) := by decide +kernel
theorem d_Md_bestOrder_193 : decode m_Md_bestOrder.2.1 193 = .ok (.iload 7, 2) := by decide +kernel
theorem d_Md_bestOrder_195 : decode m_Md_bestOrder.2.1 195 = .ok (.invokestatic 236, 3) := by decide +kernel
theorem d_Md_bestOrder_198 : decode m_Md_bestOrder.2.1 198 = .ok (.ifCond .ne 14, 3) := by decide +kernel
theorem d_Md_bestOrder_201 : decode m_Md_bestOrder.2.1 201 = .ok (.aload_n 0, 1) := by decide +kernel
theorem d_Md_bestOrder_202 : decode m_Md_bestOrder.2.1 202 = .ok (.iconst 0, 1) := by decide +kernel
theorem d_Md_bestOrder_203 : decode m_Md_bestOrder.2.1 203 = .ok (.iload 7, 2) := by decide +kernel
theorem d_Md_bestOrder_205 : decode m_Md_bestOrder.2.1 205 = .ok (.iload_n 1, 1) := by decide +kernel
theorem d_Md_bestOrder_206 : decode m_Md_bestOrder.2.1 206 = .ok (.invokevirtual 232, 3) := by decide +kernel
theorem d_Md_bestOrder_209 : decode m_Md_bestOrder.2.1 209 = .ok (.ifCond .ge 9, 3) := by decide +kernel
theorem d_Md_bestOrder_212 : decode m_Md_bestOrder.2.1 212 = .ok (.iinc 7 1, 3) := by decide +kernel
theorem d_Md_bestOrder_215 : decode m_Md_bestOrder.2.1 215 = .ok (.goto (-33), 3) := by decide +kernel
theorem d_Md_bestOrder_218 : decode m_Md_bestOrder.2.1 218 = .ok (.aload_n 0, 1) := by decide +kernel
theorem d_Md_bestOrder_219 : decode m_Md_bestOrder.2.1 219 = .ok (.getfield 71, 3) := by decide +kernel
theorem d_Md_bestOrder_222 : decode m_Md_bestOrder.2.1 222 = .ok (.iload 5, 2) := by decide +kernel
theorem d_Md_bestOrder_224 : decode m_Md_bestOrder.2.1 224 = .ok (.iload 7, 2) := by decide +kernel
theorem d_Md_bestOrder_226 : decode m_Md_bestOrder.2.1 226 = .ok (.iastore, 1) := by decide +kernel
theorem d_Md_bestOrder_227 : decode m_Md_bestOrder.2.1 227 = .ok (.iload 7, 2) := by decide +kernel
theorem d_Md_bestOrder_229 : decode m_Md_bestOrder.2.1 229 = .ok (.aload_n 0, 1) := by decide +kernel
theorem d_Md_bestOrder_230 : decode m_Md_bestOrder.2.1 230 = .ok (.getfield 115, 3) := by decide +kernel
theorem d_Md_bestOrder_233 : decode m_Md_bestOrder.2.1 233 = .ok (.if_icmp .lt 9, 3) := by decide +kernel
theorem d_Md_bestOrder_236 : decode m_Md_bestOrder.2.1 236 = .ok (.iinc 5 (-1), 3) := by decide +kernel
theorem d_Md_bestOrder_239 : decode m_Md_bestOrder.2.1 239 = .ok (.goto 14, 3) := by decide +kernel
theorem d_Md_bestOrder_242 : decode m_Md_bestOrder.2.1 242 = .ok (.iinc 5 1, 3) := by decide +kernel
theorem d_Md_bestOrder_245 : decode m_Md_bestOrder.2.1 245 = .ok (.aload_n 0, 1) := by decide +kernel
theorem d_Md_bestOrder_246 : decode m_Md_bestOrder.2.1 246 = .ok (.getfield 71, 3) := by decide +kernel
theorem d_Md_bestOrder_249 : decode m_Md_bestOrder.2.1 249 = .ok (.iload 5, 2) := by decide +kernel
theorem d_Md_bestOrder_251 : decode m_Md_bestOrder.2.1 251 = .ok (.iconst (-1), 1) := by decide +kernel
theorem d_Md_bestOrder_252 : decode m_Md_bestOrder.2.1 252 = .ok (.iastore, 1) := by decide +kernel
theorem d_Md_bestOrder_253 : decode m_Md_bestOrder.2.1 253 = .ok (.goto (-230), 3) := by decide +kernel
theorem d_Md_bestOrder_256 : decode m_Md_bestOrder.2.1 256 = .ok (.iload 4, 2) := by decide +kernel
theorem d_Md_bestOrder_258 : decode m_Md_bestOrder.2.1 258 = .ok (.ireturn, 1) := by decide +kernel
theorem d_Md_idle_0 : decode m_Md_idle.2.1 0 = .ok (.iload_n 1, 1) := by decide +kernel
theorem d_Md_idle_1 : decode m_Md_idle.2.1 1 = .ok (.i2l, 1) := by decide +kernel
theorem d_Md_idle_2 : decode m_Md_idle.2.1 2 = .ok (.lconst 0, 1) := by decide +kernel
theorem d_Md_idle_3 : decode m_Md_idle.2.1 3 = .ok (.ldc2_w 302, 3) := by decide +kernel
theorem d_Md_idle_6 : decode m_Md_idle.2.1 6 = .ok (.invokestatic 111, 3) := by decide +kernel
theorem d_Md_idle_9 : decode m_Md_idle.2.1 9 = .ok (.ifCond .eq 38, 3) := by decide +kernel
theorem d_Md_idle_12 : decode m_Md_idle.2.1 12 = .ok (.iload_n 2, 1) := by decide +kernel
theorem d_Md_idle_13 : decode m_Md_idle.2.1 13 = .ok (.i2l, 1) := by decide +kernel
theorem d_Md_idle_14 : decode m_Md_idle.2.1 14 = .ok (.lconst 0, 1) := by decide +kernel
theorem d_Md_idle_15 : decode m_Md_idle.2.1 15 = .ok (.ldc2_w 304, 3) := by decide +kernel
theorem d_Md_idle_18 : decode m_Md_idle.2.1 18 = .ok (.invokestatic 111, 3) := by decide +kernel
theorem d_Md_idle_21 : decode m_Md_idle.2.1 21 = .ok (.ifCond .eq 26, 3) := by decide +kernel
theorem d_Md_idle_24 : decode m_Md_idle.2.1 24 = .ok (.iload_n 3, 1) := by decide +kernel
theorem d_Md_idle_25 : decode m_Md_idle.2.1 25 = .ok (.i2l, 1) := by decide +kernel
theorem d_Md_idle_26 : decode m_Md_idle.2.1 26 = .ok (.lconst 0, 1) := by decide +kernel
theorem d_Md_idle_27 : decode m_Md_idle.2.1 27 = .ok (.ldc2_w 302, 3) := by decide +kernel
theorem d_Md_idle_30 : decode m_Md_idle.2.1 30 = .ok (.invokestatic 111, 3) := by decide +kernel
theorem d_Md_idle_33 : decode m_Md_idle.2.1 33 = .ok (.ifCond .eq 14, 3) := by decide +kernel
theorem d_Md_idle_36 : decode m_Md_idle.2.1 36 = .ok (.iload 4, 2) := by decide +kernel
theorem d_Md_idle_38 : decode m_Md_idle.2.1 38 = .ok (.i2l, 1) := by decide +kernel
theorem d_Md_idle_39 : decode m_Md_idle.2.1 39 = .ok (.lconst 0, 1) := by decide +kernel
theorem d_Md_idle_40 : decode m_Md_idle.2.1 40 = .ok (.lconst 1, 1) := by decide +kernel
theorem d_Md_idle_41 : decode m_Md_idle.2.1 41 = .ok (.invokestatic 111, 3) := by decide +kernel
theorem d_Md_idle_44 : decode m_Md_idle.2.1 44 = .ok (.ifCond .ne 6, 3) := by decide +kernel
theorem d_Md_idle_47 : decode m_Md_idle.2.1 47 = .ok (.bipush (-3), 2) := by decide +kernel
theorem d_Md_idle_49 : decode m_Md_idle.2.1 49 = .ok (.ireturn, 1) := by decide +kernel
theorem d_Md_idle_50 : decode m_Md_idle.2.1 50 = .ok (.lconst 0, 1) := by decide +kernel
theorem d_Md_idle_51 : decode m_Md_idle.2.1 51 = .ok (.lstore 5, 2) := by decide +kernel
theorem d_Md_idle_53 : decode m_Md_idle.2.1 53 = .ok (.lconst 1, 1) := by decide +kernel
theorem d_Md_idle_54 : decode m_Md_idle.2.1 54 = .ok (.lstore 7, 2) := by decide +kernel
theorem d_Md_idle_56 : decode m_Md_idle.2.1 56 = .ok (.iconst 0, 1) := by decide +kernel
theorem d_Md_idle_57 : decode m_Md_idle.2.1 57 = .ok (.istore 9, 2) := by decide +kernel
theorem d_Md_idle_59 : decode m_Md_idle.2.1 59 = .ok (.iload 9, 2) := by decide +kernel
theorem d_Md_idle_61 : decode m_Md_idle.2.1 61 = .ok (.iload_n 1, 1) := by decide +kernel
theorem d_Md_idle_62 : decode m_Md_idle.2.1 62 = .ok (.if_icmp .ge 17, 3) := by decide +kernel
theorem d_Md_idle_65 : decode m_Md_idle.2.1 65 = .ok (.lload 7, 2) := by decide +kernel
theorem d_Md_idle_67 : decode m_Md_idle.2.1 67 = .ok (.ldc2_w 304, 3) := by decide +kernel
theorem d_Md_idle_70 : decode m_Md_idle.2.1 70 = .ok (.lmul, 1) := by decide +kernel
theorem d_Md_idle_71 : decode m_Md_idle.2.1 71 = .ok (.lstore 7, 2) := by decide +kernel
theorem d_Md_idle_73 : decode m_Md_idle.2.1 73 = .ok (.iinc 9 1, 3) := by decide +kernel
theorem d_Md_idle_76 : decode m_Md_idle.2.1 76 = .ok (.goto (-17), 3) := by decide +kernel
theorem d_Md_idle_79 : decode m_Md_idle.2.1 79 = .ok (.iconst 0, 1) := by decide +kernel
theorem d_Md_idle_80 : decode m_Md_idle.2.1 80 = .ok (.istore 9, 2) := by decide +kernel
theorem d_Md_idle_82 : decode m_Md_idle.2.1 82 = .ok (.iload 9, 2) := by decide +kernel
theorem d_Md_idle_84 : decode m_Md_idle.2.1 84 = .ok (.iconst 1, 1) := by decide +kernel
theorem d_Md_idle_85 : decode m_Md_idle.2.1 85 = .ok (.iload_n 1, 1) := by decide +kernel
theorem d_Md_idle_86 : decode m_Md_idle.2.1 86 = .ok (.ishl, 1) := by decide +kernel
theorem d_Md_idle_87 : decode m_Md_idle.2.1 87 = .ok (.if_icmp .ge 84, 3) := by decide +kernel
theorem d_Md_idle_90 : decode m_Md_idle.2.1 90 = .ok (.lconst 1, 1) := by decide +kernel
theorem d_Md_idle_91 : decode m_Md_idle.2.1 91 = .ok (.lstore 10, 2) := by decide +kernel
theorem d_Md_idle_93 : decode m_Md_idle.2.1 93 = .ok (.iconst 0, 1) := by decide +kernel
theorem d_Md_idle_94 : decode m_Md_idle.2.1 94 = .ok (.istore 12, 2) := by decide +kernel
theorem d_Md_idle_96 : decode m_Md_idle.2.1 96 = .ok (.iconst 0, 1) := by decide +kernel
theorem d_Md_idle_97 : decode m_Md_idle.2.1 97 = .ok (.istore 13, 2) := by decide +kernel
theorem d_Md_idle_99 : decode m_Md_idle.2.1 99 = .ok (.iload 13, 2) := by decide +kernel
theorem d_Md_idle_101 : decode m_Md_idle.2.1 101 = .ok (.iload_n 1, 1) := by decide +kernel
theorem d_Md_idle_102 : decode m_Md_idle.2.1 102 = .ok (.if_icmp .ge 46, 3) := by decide +kernel
theorem d_Md_idle_105 : decode m_Md_idle.2.1 105 = .ok (.lload 10, 2) := by decide +kernel
theorem d_Md_idle_107 : decode m_Md_idle.2.1 107 = .ok (.iload 9, 2) := by decide +kernel
theorem d_Md_idle_109 : decode m_Md_idle.2.1 109 = .ok (.iload 13, 2) := by decide +kernel
theorem d_Md_idle_111 : decode m_Md_idle.2.1 111 = .ok (.invokestatic 236, 3) := by decide +kernel
theorem d_Md_idle_114 : decode m_Md_idle.2.1 114 = .ok (.ifCond .eq 11, 3) := by decide +kernel
theorem d_Md_idle_117 : decode m_Md_idle.2.1 117 = .ok (.bipush 10, 2) := by decide +kernel
theorem d_Md_idle_119 : decode m_Md_idle.2.1 119 = .ok (.iload_n 2, 1) := by decide +kernel
theorem d_Md_idle_120 : decode m_Md_idle.2.1 120 = .ok (.isub, 1) := by decide +kernel
theorem d_Md_idle_121 : decode m_Md_idle.2.1 121 = .ok (.i2l, 1) := by decide +kernel
theorem d_Md_idle_122 : decode m_Md_idle.2.1 122 = .ok (.goto 5, 3) := by decide +kernel
theorem d_Md_idle_125 : decode m_Md_idle.2.1 125 = .ok (.iload_n 2, 1) := by decide +kernel
theorem d_Md_idle_126 : decode m_Md_idle.2.1 126 = .ok (.i2l, 1) := by decide +kernel
theorem d_Md_idle_127 : decode m_Md_idle.2.1 127 = .ok (.lmul, 1) := by decide +kernel
theorem d_Md_idle_128 : decode m_Md_idle.2.1 128 = .ok (.lstore 10, 2) := by decide +kernel
theorem d_Md_idle_130 : decode m_Md_idle.2.1 130 = .ok (.iload 12, 2) := by decide +kernel
theorem d_Md_idle_132 : decode m_Md_idle.2.1 132 = .ok (.iload 9, 2) := by decide +kernel
theorem d_Md_idle_134 : decode m_Md_idle.2.1 134 = .ok (.iload 13, 2) := by decide +kernel
theorem d_Md_idle_136 : decode m_Md_idle.2.1 136 = .ok (.ishr, 1) := by decide +kernel
theorem d_Md_idle_137 : decode m_Md_idle.2.1 137 = .ok (.iconst 1, 1) := by decide +kernel
theorem d_Md_idle_138 : decode m_Md_idle.2.1 138 = .ok (.iand, 1) := by decide +kernel
theorem d_Md_idle_139 : decode m_Md_idle.2.1 139 = .ok (.iadd, 1) := by decide +kernel
theorem d_Md_idle_140 : decode m_Md_idle.2.1 140 = .ok (.istore 12, 2) := by decide +kernel
theorem d_Md_idle_142 : decode m_Md_idle.2.1 142 = .ok (.iinc 13 1, 3) := by decide +kernel
theorem d_Md_idle_145 : decode m_Md_idle.2.1 145 = .ok (.goto (-46), 3) := by decide +kernel
theorem d_Md_idle_148 : decode m_Md_idle.2.1 148 = .ok (.lload 5, 2) := by decide +kernel
theorem d_Md_idle_150 : decode m_Md_idle.2.1 150 = .ok (.iload 12, 2) := by decide +kernel
theorem d_Md_idle_152 : decode m_Md_idle.2.1 152 = .ok (.iload_n 3, 1) := by decide +kernel
theorem d_Md_idle_153 : decode m_Md_idle.2.1 153 = .ok (.if_icmp .lt 8, 3) := by decide +kernel
theorem d_Md_idle_156 : decode m_Md_idle.2.1 156 = .ok (.lload 10, 2) := by decide +kernel
theorem d_Md_idle_158 : decode m_Md_idle.2.1 158 = .ok (.goto 4, 3) := by decide +kernel
theorem d_Md_idle_161 : decode m_Md_idle.2.1 161 = .ok (.lconst 0, 1) := by decide +kernel
theorem d_Md_idle_162 : decode m_Md_idle.2.1 162 = .ok (.ladd, 1) := by decide +kernel
theorem d_Md_idle_163 : decode m_Md_idle.2.1 163 = .ok (.lstore 5, 2) := by decide +kernel
theorem d_Md_idle_165 : decode m_Md_idle.2.1 165 = .ok (.iinc 9 1, 3) := by decide +kernel
theorem d_Md_idle_168 : decode m_Md_idle.2.1 168 = .ok (.goto (-86), 3) := by decide +kernel
theorem d_Md_idle_171 : decode m_Md_idle.2.1 171 = .ok (.lload 5, 2) := by decide +kernel
theorem d_Md_idle_173 : decode m_Md_idle.2.1 173 = .ok (.lstore 9, 2) := by decide +kernel
theorem d_Md_idle_175 : decode m_Md_idle.2.1 175 = .ok (.lload 7, 2) := by decide +kernel
theorem d_Md_idle_177 : decode m_Md_idle.2.1 177 = .ok (.lstore 11, 2) := by decide +kernel
theorem d_Md_idle_179 : decode m_Md_idle.2.1 179 = .ok (.lload 11, 2) := by decide +kernel
theorem d_Md_idle_181 : decode m_Md_idle.2.1 181 = .ok (.lconst 0, 1) := by decide +kernel
theorem d_Md_idle_182 : decode m_Md_idle.2.1 182 = .ok (.lcmp, 1) := by decide +kernel
theorem d_Md_idle_183 : decode m_Md_idle.2.1 183 = .ok (.ifCond .eq 21, 3) := by decide +kernel
theorem d_Md_idle_186 : decode m_Md_idle.2.1 186 = .ok (.lload 9, 2) := by decide +kernel
theorem d_Md_idle_188 : decode m_Md_idle.2.1 188 = .ok (.lload 11, 2) := by decide +kernel
theorem d_Md_idle_190 : decode m_Md_idle.2.1 190 = .ok (.lrem, 1) := by decide +kernel
theorem d_Md_idle_191 : decode m_Md_idle.2.1 191 = .ok (.lstore 13, 2) := by decide +kernel
theorem d_Md_idle_193 : decode m_Md_idle.2.1 193 = .ok (.lload 11, 2) := by decide +kernel
theorem d_Md_idle_195 : decode m_Md_idle.2.1 195 = .ok (.lstore 9, 2) := by decide +kernel
theorem d_Md_idle_197 : decode m_Md_idle.2.1 197 = .ok (.lload 13, 2) := by decide +kernel
theorem d_Md_idle_199 : decode m_Md_idle.2.1 199 = .ok (.lstore 11, 2) := by decide +kernel
theorem d_Md_idle_201 : decode m_Md_idle.2.1 201 = .ok (.goto (-22), 3) := by decide +kernel
theorem d_Md_idle_204 : decode m_Md_idle.2.1 204 = .ok (.iload 4, 2) := by decide +kernel
theorem d_Md_idle_206 : decode m_Md_idle.2.1 206 = .ok (.ifCond .ne 11, 3) := by decide +kernel
theorem d_Md_idle_209 : decode m_Md_idle.2.1 209 = .ok (.lload 5, 2) := by decide +kernel
theorem d_Md_idle_211 : decode m_Md_idle.2.1 211 = .ok (.lload 9, 2) := by decide +kernel
theorem d_Md_idle_213 : decode m_Md_idle.2.1 213 = .ok (.ldiv, 1) := by decide +kernel
theorem d_Md_idle_214 : decode m_Md_idle.2.1 214 = .ok (.goto 8, 3) := by decide +kernel
theorem d_Md_idle_217 : decode m_Md_idle.2.1 217 = .ok (.lload 7, 2) := by decide +kernel
theorem d_Md_idle_219 : decode m_Md_idle.2.1 219 = .ok (.lload 9, 2) := by decide +kernel
theorem d_Md_idle_221 : decode m_Md_idle.2.1 221 = .ok (.ldiv, 1) := by decide +kernel
theorem d_Md_idle_222 : decode m_Md_idle.2.1 222 = .ok (.l2i, 1) := by decide +kernel
theorem d_Md_idle_223 : decode m_Md_idle.2.1 223 = .ok (.ireturn, 1) := by decide +kernel
theorem d_Md_attempt_0 : decode m_Md_attempt.2.1 0 = .ok (.aload_n 0, 1) := by decide +kernel
theorem d_Md_attempt_1 : decode m_Md_attempt.2.1 1 = .ok (.invokevirtual 308, 3) := by decide +kernel
theorem d_Md_attempt_4 : decode m_Md_attempt.2.1 4 = .ok (.istore_n 1, 1) := by decide +kernel
theorem d_Md_attempt_5 : decode m_Md_attempt.2.1 5 = .ok (.iconst (-1), 1) := by decide +kernel
theorem d_Md_attempt_6 : decode m_Md_attempt.2.1 6 = .ok (.istore_n 2, 1) := by decide +kernel
theorem d_Md_attempt_7 : decode m_Md_attempt.2.1 7 = .ok (.iload_n 1, 1) := by decide +kernel
theorem d_Md_attempt_8 : decode m_Md_attempt.2.1 8 = .ok (.invokestatic 290, 3) := by decide +kernel
theorem d_Md_attempt_11 : decode m_Md_attempt.2.1 11 = .ok (.istore_n 3, 1) := by decide +kernel
theorem d_Md_attempt_12 : decode m_Md_attempt.2.1 12 = .ok (.iconst 1, 1) := by decide +kernel
theorem d_Md_attempt_13 : decode m_Md_attempt.2.1 13 = .ok (.istore 4, 2) := by decide +kernel
theorem d_Md_attempt_15 : decode m_Md_attempt.2.1 15 = .ok (.iload 4, 2) := by decide +kernel
theorem d_Md_attempt_17 : decode m_Md_attempt.2.1 17 = .ok (.bipush 10, 2) := by decide +kernel
theorem d_Md_attempt_19 : decode m_Md_attempt.2.1 19 = .ok (.if_icmp .ge 132, 3) := by decide +kernel
theorem d_Md_attempt_22 : decode m_Md_attempt.2.1 22 = .ok (.iconst 0, 1) := by decide +kernel
theorem d_Md_attempt_23 : decode m_Md_attempt.2.1 23 = .ok (.istore 5, 2) := by decide +kernel
theorem d_Md_attempt_25 : decode m_Md_attempt.2.1 25 = .ok (.iconst 0, 1) := by decide +kernel
theorem d_Md_attempt_26 : decode m_Md_attempt.2.1 26 = .ok (.istore 6, 2) := by decide +kernel
theorem d_Md_attempt_28 : decode m_Md_attempt.2.1 28 = .ok (.iload 6, 2) := by decide +kernel
theorem d_Md_attempt_30 : decode m_Md_attempt.2.1 30 = .ok (.iconst 4, 1) := by decide +kernel
theorem d_Md_attempt_31 : decode m_Md_attempt.2.1 31 = .ok (.if_icmp .gt 88, 3) := by decide +kernel
theorem d_Md_attempt_34 : decode m_Md_attempt.2.1 34 = .ok (.iconst 0, 1) := by decide +kernel
theorem d_Md_attempt_35 : decode m_Md_attempt.2.1 35 = .ok (.istore 7, 2) := by decide +kernel
theorem d_Md_attempt_37 : decode m_Md_attempt.2.1 37 = .ok (.iconst 0, 1) := by decide +kernel
theorem d_Md_attempt_38 : decode m_Md_attempt.2.1 38 = .ok (.istore 8, 2) := by decide +kernel
theorem d_Md_attempt_40 : decode m_Md_attempt.2.1 40 = .ok (.iload 8, 2) := by decide +kernel
theorem d_Md_attempt_42 : decode m_Md_attempt.2.1 42 = .ok (.iconst 4, 1) := by decide +kernel
theorem d_Md_attempt_43 : decode m_Md_attempt.2.1 43 = .ok (.if_icmp .gt 54, 3) := by decide +kernel
theorem d_Md_attempt_46 : decode m_Md_attempt.2.1 46 = .ok (.iload 7, 2) := by decide +kernel
theorem d_Md_attempt_48 : decode m_Md_attempt.2.1 48 = .ok (.iload_n 1, 1) := by decide +kernel
theorem d_Md_attempt_49 : decode m_Md_attempt.2.1 49 = .ok (.iload 6, 2) := by decide +kernel
theorem d_Md_attempt_51 : decode m_Md_attempt.2.1 51 = .ok (.invokestatic 236, 3) := by decide +kernel
theorem d_Md_attempt_54 : decode m_Md_attempt.2.1 54 = .ok (.ifCond .eq 33, 3) := by decide +kernel
theorem d_Md_attempt_57 : decode m_Md_attempt.2.1 57 = .ok (.iload_n 1, 1) := by decide +kernel
theorem d_Md_attempt_58 : decode m_Md_attempt.2.1 58 = .ok (.iload 8, 2) := by decide +kernel
theorem d_Md_attempt_60 : decode m_Md_attempt.2.1 60 = .ok (.invokestatic 236, 3) := by decide +kernel
theorem d_Md_attempt_63 : decode m_Md_attempt.2.1 63 = .ok (.ifCond .eq 24, 3) := by decide +kernel
theorem d_Md_attempt_66 : decode m_Md_attempt.2.1 66 = .ok (.iload 6, 2) := by decide +kernel
theorem d_Md_attempt_68 : decode m_Md_attempt.2.1 68 = .ok (.iload 4, 2) := by decide +kernel
theorem d_Md_attempt_70 : decode m_Md_attempt.2.1 70 = .ok (.invokestatic 248, 3) := by decide +kernel
theorem d_Md_attempt_73 : decode m_Md_attempt.2.1 73 = .ok (.iload 8, 2) := by decide +kernel
theorem d_Md_attempt_75 : decode m_Md_attempt.2.1 75 = .ok (.iload 4, 2) := by decide +kernel
theorem d_Md_attempt_77 : decode m_Md_attempt.2.1 77 = .ok (.invokestatic 248, 3) := by decide +kernel
theorem d_Md_attempt_80 : decode m_Md_attempt.2.1 80 = .ok (.if_icmp .ne 7, 3) := by decide +kernel
theorem d_Md_attempt_83 : decode m_Md_attempt.2.1 83 = .ok (.iconst 1, 1) := by decide +kernel
theorem d_Md_attempt_84 : decode m_Md_attempt.2.1 84 = .ok (.goto 4, 3) := by decide +kernel
theorem d_Md_attempt_87 : decode m_Md_attempt.2.1 87 = .ok (.iconst 0, 1) := by decide +kernel
theorem d_Md_attempt_88 : decode m_Md_attempt.2.1 88 = .ok (.iadd, 1) := by decide +kernel
theorem d_Md_attempt_89 : decode m_Md_attempt.2.1 89 = .ok (.istore 7, 2) := by decide +kernel
theorem d_Md_attempt_91 : decode m_Md_attempt.2.1 91 = .ok (.iinc 8 1, 3) := by decide +kernel
theorem d_Md_attempt_94 : decode m_Md_attempt.2.1 94 = .ok (.goto (-54), 3) := by decide +kernel
theorem d_Md_attempt_97 : decode m_Md_attempt.2.1 97 = .ok (.iload 7, 2) := by decide +kernel
theorem d_Md_attempt_99 : decode m_Md_attempt.2.1 99 = .ok (.iload 5, 2) := by decide +kernel
theorem d_Md_attempt_101 : decode m_Md_attempt.2.1 101 = .ok (.if_icmp .le 8, 3) := by decide +kernel
theorem d_Md_attempt_104 : decode m_Md_attempt.2.1 104 = .ok (.iload 7, 2) := by decide +kernel
theorem d_Md_attempt_106 : decode m_Md_attempt.2.1 106 = .ok (.goto 5, 3) := by decide +kernel
theorem d_Md_attempt_109 : decode m_Md_attempt.2.1 109 = .ok (.iload 5, 2) := by decide +kernel
theorem d_Md_attempt_111 : decode m_Md_attempt.2.1 111 = .ok (.istore 5, 2) := by decide +kernel
theorem d_Md_attempt_113 : decode m_Md_attempt.2.1 113 = .ok (.iinc 6 1, 3) := by decide +kernel
theorem d_Md_attempt_116 : decode m_Md_attempt.2.1 116 = .ok (.goto (-88), 3) := by decide +kernel
theorem d_Md_attempt_119 : decode m_Md_attempt.2.1 119 = .ok (.iload 5, 2) := by decide +kernel
theorem d_Md_attempt_121 : decode m_Md_attempt.2.1 121 = .ok (.iload_n 3, 1) := by decide +kernel
theorem d_Md_attempt_122 : decode m_Md_attempt.2.1 122 = .ok (.if_icmp .ge 8, 3) := by decide +kernel
theorem d_Md_attempt_125 : decode m_Md_attempt.2.1 125 = .ok (.iload 4, 2) := by decide +kernel
theorem d_Md_attempt_127 : decode m_Md_attempt.2.1 127 = .ok (.goto 4, 3) := by decide +kernel
theorem d_Md_attempt_130 : decode m_Md_attempt.2.1 130 = .ok (.iload_n 2, 1) := by decide +kernel
theorem d_Md_attempt_131 : decode m_Md_attempt.2.1 131 = .ok (.istore_n 2, 1) := by decide +kernel
theorem d_Md_attempt_132 : decode m_Md_attempt.2.1 132 = .ok (.iload 5, 2) := by decide +kernel
theorem d_Md_attempt_134 : decode m_Md_attempt.2.1 134 = .ok (.iload_n 3, 1) := by decide +kernel
theorem d_Md_attempt_135 : decode m_Md_attempt.2.1 135 = .ok (.if_icmp .ge 8, 3) := by decide +kernel
theorem d_Md_attempt_138 : decode m_Md_attempt.2.1 138 = .ok (.iload 5, 2) := by decide +kernel
theorem d_Md_attempt_140 : decode m_Md_attempt.2.1 140 = .ok (.goto 4, 3) := by decide +kernel
theorem d_Md_attempt_143 : decode m_Md_attempt.2.1 143 = .ok (.iload_n 3, 1) := by decide +kernel
theorem d_Md_attempt_144 : decode m_Md_attempt.2.1 144 = .ok (.istore_n 3, 1) := by decide +kernel
theorem d_Md_attempt_145 : decode m_Md_attempt.2.1 145 = .ok (.iinc 4 1, 3) := by decide +kernel
theorem d_Md_attempt_148 : decode m_Md_attempt.2.1 148 = .ok (.goto (-133), 3) := by decide +kernel
theorem d_Md_attempt_151 : decode m_Md_attempt.2.1 151 = .ok (.iload_n 2, 1) := by decide +kernel
theorem d_Md_attempt_152 : decode m_Md_attempt.2.1 152 = .ok (.ireturn, 1) := by decide +kernel
theorem d_Md_freePage_0 : decode m_Md_freePage.2.1 0 = .ok (.iconst (-1), 1) := by decide +kernel
theorem d_Md_freePage_1 : decode m_Md_freePage.2.1 1 = .ok (.istore_n 1, 1) := by decide +kernel
theorem d_Md_freePage_2 : decode m_Md_freePage.2.1 2 = .ok (.iconst 0, 1) := by decide +kernel
theorem d_Md_freePage_3 : decode m_Md_freePage.2.1 3 = .ok (.istore_n 2, 1) := by decide +kernel
theorem d_Md_freePage_4 : decode m_Md_freePage.2.1 4 = .ok (.iload_n 2, 1) := by decide +kernel
theorem d_Md_freePage_5 : decode m_Md_freePage.2.1 5 = .ok (.bipush 16, 2) := by decide +kernel
theorem d_Md_freePage_7 : decode m_Md_freePage.2.1 7 = .ok (.if_icmp .ge 74, 3) := by decide +kernel
theorem d_Md_freePage_10 : decode m_Md_freePage.2.1 10 = .ok (.iconst 1, 1) := by decide +kernel
theorem d_Md_freePage_11 : decode m_Md_freePage.2.1 11 = .ok (.istore_n 3, 1) := by decide +kernel
theorem d_Md_freePage_12 : decode m_Md_freePage.2.1 12 = .ok (.iconst 0, 1) := by decide +kernel
theorem d_Md_freePage_13 : decode m_Md_freePage.2.1 13 = .ok (.istore 4, 2) := by decide +kernel
theorem d_Md_freePage_15 : decode m_Md_freePage.2.1 15 = .ok (.iload 4, 2) := by decide +kernel
theorem d_Md_freePage_17 : decode m_Md_freePage.2.1 17 = .ok (.bipush 15, 2) := by decide +kernel
theorem d_Md_freePage_19 : decode m_Md_freePage.2.1 19 = .ok (.if_icmp .ge 42, 3) := by decide +kernel
theorem d_Md_freePage_22 : decode m_Md_freePage.2.1 22 = .ok (.iload_n 3, 1) := by decide +kernel
theorem d_Md_freePage_23 : decode m_Md_freePage.2.1 23 = .ok (.ifCond .eq 30, 3) := by decide +kernel
theorem d_Md_freePage_26 : decode m_Md_freePage.2.1 26 = .ok (.aload_n 0, 1) := by decide +kernel
theorem d_Md_freePage_27 : decode m_Md_freePage.2.1 27 = .ok (.getfield 92, 3) := by decide +kernel
theorem d_Md_freePage_30 : decode m_Md_freePage.2.1 30 = .ok (.iload 4, 2) := by decide +kernel
theorem d_Md_freePage_32 : decode m_Md_freePage.2.1 32 = .ok (.iconst 5, 1) := by decide +kernel
theorem d_Md_freePage_33 : decode m_Md_freePage.2.1 33 = .ok (.idiv, 1) := by decide +kernel
theorem d_Md_freePage_34 : decode m_Md_freePage.2.1 34 = .ok (.iaload, 1) := by decide +kernel
theorem d_Md_freePage_35 : decode m_Md_freePage.2.1 35 = .ok (.ifCond .lt 14, 3) := by decide +kernel
theorem d_Md_freePage_38 : decode m_Md_freePage.2.1 38 = .ok (.aload_n 0, 1) := by decide +kernel
theorem d_Md_freePage_39 : decode m_Md_freePage.2.1 39 = .ok (.getfield 95, 3) := by decide +kernel
theorem d_Md_freePage_42 : decode m_Md_freePage.2.1 42 = .ok (.iload 4, 2) := by decide +kernel
theorem d_Md_freePage_44 : decode m_Md_freePage.2.1 44 = .ok (.iaload, 1) := by decide +kernel
theorem d_Md_freePage_45 : decode m_Md_freePage.2.1 45 = .ok (.iload_n 2, 1) := by decide +kernel
theorem d_Md_freePage_46 : decode m_Md_freePage.2.1 46 = .ok (.if_icmp .eq 7, 3) := by decide +kernel
theorem d_Md_freePage_49 : decode m_Md_freePage.2.1 49 = .ok (.iconst 1, 1) := by decide +kernel
theorem d_Md_freePage_50 : decode m_Md_freePage.2.1 50 = .ok (.goto 4, 3) := by decide +kernel
theorem d_Md_freePage_53 : decode m_Md_freePage.2.1 53 = .ok (.iconst 0, 1) := by decide +kernel
theorem d_Md_freePage_54 : decode m_Md_freePage.2.1 54 = .ok (.istore_n 3, 1) := by decide +kernel
theorem d_Md_freePage_55 : decode m_Md_freePage.2.1 55 = .ok (.iinc 4 1, 3) := by decide +kernel
theorem d_Md_freePage_58 : decode m_Md_freePage.2.1 58 = .ok (.goto (-43), 3) := by decide +kernel
theorem d_Md_freePage_61 : decode m_Md_freePage.2.1 61 = .ok (.iload_n 3, 1) := by decide +kernel
theorem d_Md_freePage_62 : decode m_Md_freePage.2.1 62 = .ok (.ifCond .eq 11, 3) := by decide +kernel
theorem d_Md_freePage_65 : decode m_Md_freePage.2.1 65 = .ok (.iload_n 1, 1) := by decide +kernel
theorem d_Md_freePage_66 : decode m_Md_freePage.2.1 66 = .ok (.ifCond .ge 7, 3) := by decide +kernel
theorem d_Md_freePage_69 : decode m_Md_freePage.2.1 69 = .ok (.iload_n 2, 1) := by decide +kernel
theorem d_Md_freePage_70 : decode m_Md_freePage.2.1 70 = .ok (.goto 4, 3) := by decide +kernel
theorem d_Md_freePage_73 : decode m_Md_freePage.2.1 73 = .ok (.iload_n 1, 1) := by decide +kernel
theorem d_Md_freePage_74 : decode m_Md_freePage.2.1 74 = .ok (.istore_n 1, 1) := by decide +kernel
theorem d_Md_freePage_75 : decode m_Md_freePage.2.1 75 = .ok (.iinc 2 1, 3) := by decide +kernel
theorem d_Md_freePage_78 : decode m_Md_freePage.2.1 78 = .ok (.goto (-74), 3) := by decide +kernel
theorem d_Md_freePage_81 : decode m_Md_freePage.2.1 81 = .ok (.iload_n 1, 1) := by decide +kernel
theorem d_Md_freePage_82 : decode m_Md_freePage.2.1 82 = .ok (.ireturn, 1) := by decide +kernel
theorem d_Md_enter_0 : decode m_Md_enter.2.1 0 = .ok (.iload_n 1, 1) := by decide +kernel
theorem d_Md_enter_1 : decode m_Md_enter.2.1 1 = .ok (.invokestatic 311, 3) := by decide +kernel
theorem d_Md_enter_4 : decode m_Md_enter.2.1 4 = .ok (.ifCond .eq 18, 3) := by decide +kernel
theorem d_Md_enter_7 : decode m_Md_enter.2.1 7 = .ok (.iload 4, 2) := by decide +kernel
theorem d_Md_enter_9 : decode m_Md_enter.2.1 9 = .ok (.iconst 1, 1) := by decide +kernel
theorem d_Md_enter_10 : decode m_Md_enter.2.1 10 = .ok (.if_icmp .ne 15, 3) := by decide +kernel
theorem d_Md_enter_13 : decode m_Md_enter.2.1 13 = .ok (.aload_n 0, 1) := by decide +kernel
theorem d_Md_enter_14 : decode m_Md_enter.2.1 14 = .ok (.iload 5, 2) := by decide +kernel
theorem d_Md_enter_16 : decode m_Md_enter.2.1 16 = .ok (.invokevirtual 259, 3) := by decide +kernel
theorem d_Md_enter_19 : decode m_Md_enter.2.1 19 = .ok (.ifCond .ne 6, 3) := by decide +kernel
theorem d_Md_enter_22 : decode m_Md_enter.2.1 22 = .ok (.bipush (-2), 2) := by decide +kernel
theorem d_Md_enter_24 : decode m_Md_enter.2.1 24 = .ok (.ireturn, 1) := by decide +kernel
theorem d_Md_enter_25 : decode m_Md_enter.2.1 25 = .ok (.iload 4, 2) := by decide +kernel
theorem d_Md_enter_27 : decode m_Md_enter.2.1 27 = .ok (.i2l, 1) := by decide +kernel
theorem d_Md_enter_28 : decode m_Md_enter.2.1 28 = .ok (.lconst 0, 1) := by decide +kernel
theorem d_Md_enter_29 : decode m_Md_enter.2.1 29 = .ok (.ldc2_w 300, 3) := by decide +kernel
theorem d_Md_enter_32 : decode m_Md_enter.2.1 32 = .ok (.invokestatic 111, 3) := by decide +kernel
theorem d_Md_enter_35 : decode m_Md_enter.2.1 35 = .ok (.ifCond .eq 23, 3) := by decide +kernel
theorem d_Md_enter_38 : decode m_Md_enter.2.1 38 = .ok (.iload 4, 2) := by decide +kernel
theorem d_Md_enter_40 : decode m_Md_enter.2.1 40 = .ok (.ifCond .ne 21, 3) := by decide +kernel
theorem d_Md_enter_43 : decode m_Md_enter.2.1 43 = .ok (.iload 5, 2) := by decide +kernel
theorem d_Md_enter_45 : decode m_Md_enter.2.1 45 = .ok (.i2l, 1) := by decide +kernel
theorem d_Md_enter_46 : decode m_Md_enter.2.1 46 = .ok (.ldc2_w 321, 3) := by decide +kernel
theorem d_Md_enter_49 : decode m_Md_enter.2.1 49 = .ok (.ldc2_w 323, 3) := by decide +kernel
theorem d_Md_enter_52 : decode m_Md_enter.2.1 52 = .ok (.invokestatic 111, 3) := by decide +kernel
theorem d_Md_enter_55 : decode m_Md_enter.2.1 55 = .ok (.ifCond .ne 6, 3) := by decide +kernel
theorem d_Md_enter_58 : decode m_Md_enter.2.1 58 = .ok (.bipush (-3), 2) := by decide +kernel
theorem d_Md_enter_60 : decode m_Md_enter.2.1 60 = .ok (.ireturn, 1) := by decide +kernel
theorem d_Md_enter_61 : decode m_Md_enter.2.1 61 = .ok (.aload_n 0, 1) := by decide +kernel
theorem d_Md_enter_62 : decode m_Md_enter.2.1 62 = .ok (.iload_n 1, 1) := by decide +kernel
theorem d_Md_enter_63 : decode m_Md_enter.2.1 63 = .ok (.iload_n 2, 1) := by decide +kernel
theorem d_Md_enter_64 : decode m_Md_enter.2.1 64 = .ok (.iload_n 3, 1) := by decide +kernel
theorem d_Md_enter_65 : decode m_Md_enter.2.1 65 = .ok (.invokevirtual 325, 3) := by decide +kernel
theorem d_Md_enter_68 : decode m_Md_enter.2.1 68 = .ok (.istore 6, 2) := by decide +kernel
theorem d_Md_enter_70 : decode m_Md_enter.2.1 70 = .ok (.iload 6, 2) := by decide +kernel
theorem d_Md_enter_72 : decode m_Md_enter.2.1 72 = .ok (.ifCond .ge 6, 3) := by decide +kernel
theorem d_Md_enter_75 : decode m_Md_enter.2.1 75 = .ok (.iload 6, 2) := by decide +kernel
theorem d_Md_enter_77 : decode m_Md_enter.2.1 77 = .ok (.ireturn, 1) := by decide +kernel
theorem d_Md_enter_78 : decode m_Md_enter.2.1 78 = .ok (.bipush 6, 2) := by decide +kernel
theorem d_Md_enter_80 : decode m_Md_enter.2.1 80 = .ok (.aload_n 0, 1) := by decide +kernel
theorem d_Md_enter_81 : decode m_Md_enter.2.1 81 = .ok (.getfield 95, 3) := by decide +kernel
theorem d_Md_enter_84 : decode m_Md_enter.2.1 84 = .ok (.iconst 5, 1) := by decide +kernel
theorem d_Md_enter_85 : decode m_Md_enter.2.1 85 = .ok (.iload_n 1, 1) := by decide +kernel
theorem d_Md_enter_86 : decode m_Md_enter.2.1 86 = .ok (.imul, 1) := by decide +kernel
theorem d_Md_enter_87 : decode m_Md_enter.2.1 87 = .ok (.iload_n 2, 1) := by decide +kernel
theorem d_Md_enter_88 : decode m_Md_enter.2.1 88 = .ok (.iadd, 1) := by decide +kernel
theorem d_Md_enter_89 : decode m_Md_enter.2.1 89 = .ok (.iaload, 1) := by decide +kernel
theorem d_Md_enter_90 : decode m_Md_enter.2.1 90 = .ok (.imul, 1) := by decide +kernel
theorem d_Md_enter_91 : decode m_Md_enter.2.1 91 = .ok (.iload_n 3, 1) := by decide +kernel
theorem d_Md_enter_92 : decode m_Md_enter.2.1 92 = .ok (.iadd, 1) := by decide +kernel
theorem d_Md_enter_93 : decode m_Md_enter.2.1 93 = .ok (.istore 7, 2) := by decide +kernel
theorem d_Md_enter_95 : decode m_Md_enter.2.1 95 = .ok (.aload_n 0, 1) := by decide +kernel
theorem d_Md_enter_96 : decode m_Md_enter.2.1 96 = .ok (.getfield 101, 3) := by decide +kernel
theorem d_Md_enter_99 : decode m_Md_enter.2.1 99 = .ok (.iload 7, 2) := by decide +kernel
theorem d_Md_enter_101 : decode m_Md_enter.2.1 101 = .ok (.iload 4, 2) := by decide +kernel
theorem d_Md_enter_103 : decode m_Md_enter.2.1 103 = .ok (.iconst 2, 1) := by decide +kernel
theorem d_Md_enter_104 : decode m_Md_enter.2.1 104 = .ok (.if_icmp .ne 7, 3) := by decide +kernel
theorem d_Md_enter_107 : decode m_Md_enter.2.1 107 = .ok (.iconst 0, 1) := by decide +kernel
theorem d_Md_enter_108 : decode m_Md_enter.2.1 108 = .ok (.goto 7, 3) := by decide +kernel
theorem d_Md_enter_111 : decode m_Md_enter.2.1 111 = .ok (.iload 4, 2) := by decide +kernel
theorem d_Md_enter_113 : decode m_Md_enter.2.1 113 = .ok (.iconst 1, 1) := by decide +kernel
theorem d_Md_enter_114 : decode m_Md_enter.2.1 114 = .ok (.iadd, 1) := by decide +kernel
theorem d_Md_enter_115 : decode m_Md_enter.2.1 115 = .ok (.iastore, 1) := by decide +kernel
theorem d_Md_enter_116 : decode m_Md_enter.2.1 116 = .ok (.aload_n 0, 1) := by decide +kernel
theorem d_Md_enter_117 : decode m_Md_enter.2.1 117 = .ok (.getfield 104, 3) := by decide +kernel
theorem d_Md_enter_120 : decode m_Md_enter.2.1 120 = .ok (.iload 7, 2) := by decide +kernel
theorem d_Md_enter_122 : decode m_Md_enter.2.1 122 = .ok (.iload 4, 2) := by decide +kernel
theorem d_Md_enter_124 : decode m_Md_enter.2.1 124 = .ok (.iconst 2, 1) := by decide +kernel
theorem d_Md_enter_125 : decode m_Md_enter.2.1 125 = .ok (.if_icmp .ne 7, 3) := by decide +kernel
theorem d_Md_enter_128 : decode m_Md_enter.2.1 128 = .ok (.iconst 0, 1) := by decide +kernel
theorem d_Md_enter_129 : decode m_Md_enter.2.1 129 = .ok (.goto 5, 3) := by decide +kernel
theorem d_Md_enter_132 : decode m_Md_enter.2.1 132 = .ok (.iload 5, 2) := by decide +kernel
theorem d_Md_enter_134 : decode m_Md_enter.2.1 134 = .ok (.iastore, 1) := by decide +kernel
theorem d_Md_enter_135 : decode m_Md_enter.2.1 135 = .ok (.iconst 1, 1) := by decide +kernel
theorem d_Md_enter_136 : decode m_Md_enter.2.1 136 = .ok (.ireturn, 1) := by decide +kernel
theorem d_Md_drop_0 : decode m_Md_drop.2.1 0 = .ok (.iload_n 1, 1) := by decide +kernel
theorem d_Md_drop_1 : decode m_Md_drop.2.1 1 = .ok (.invokestatic 311, 3) := by decide +kernel
theorem d_Md_drop_4 : decode m_Md_drop.2.1 4 = .ok (.ifCond .ne 6, 3) := by decide +kernel
theorem d_Md_drop_7 : decode m_Md_drop.2.1 7 = .ok (.bipush (-2), 2) := by decide +kernel
theorem d_Md_drop_9 : decode m_Md_drop.2.1 9 = .ok (.ireturn, 1) := by decide +kernel
theorem d_Md_drop_10 : decode m_Md_drop.2.1 10 = .ok (.aload_n 0, 1) := by decide +kernel
theorem d_Md_drop_11 : decode m_Md_drop.2.1 11 = .ok (.getfield 92, 3) := by decide +kernel
theorem d_Md_drop_14 : decode m_Md_drop.2.1 14 = .ok (.iload_n 1, 1) := by decide +kernel
theorem d_Md_drop_15 : decode m_Md_drop.2.1 15 = .ok (.iaload, 1) := by decide +kernel
theorem d_Md_drop_16 : decode m_Md_drop.2.1 16 = .ok (.ifCond .ge 6, 3) := by decide +kernel
theorem d_Md_drop_19 : decode m_Md_drop.2.1 19 = .ok (.bipush (-11), 2) := by decide +kernel
theorem d_Md_drop_21 : decode m_Md_drop.2.1 21 = .ok (.ireturn, 1) := by decide +kernel
theorem d_Md_drop_22 : decode m_Md_drop.2.1 22 = .ok (.aload_n 0, 1) := by decide +kernel
theorem d_Md_drop_23 : decode m_Md_drop.2.1 23 = .ok (.getfield 92, 3) := by decide +kernel
theorem d_Md_drop_26 : decode m_Md_drop.2.1 26 = .ok (.iload_n 1, 1) := by decide +kernel
theorem d_Md_drop_27 : decode m_Md_drop.2.1 27 = .ok (.iaload, 1) := by decide +kernel
theorem d_Md_drop_28 : decode m_Md_drop.2.1 28 = .ok (.istore_n 2, 1) := by decide +kernel
theorem d_Md_drop_29 : decode m_Md_drop.2.1 29 = .ok (.aload_n 0, 1) := by decide +kernel
theorem d_Md_drop_30 : decode m_Md_drop.2.1 30 = .ok (.getfield 92, 3) := by decide +kernel
theorem d_Md_drop_33 : decode m_Md_drop.2.1 33 = .ok (.iload_n 1, 1) := by decide +kernel
theorem d_Md_drop_34 : decode m_Md_drop.2.1 34 = .ok (.iconst (-1), 1) := by decide +kernel
theorem d_Md_drop_35 : decode m_Md_drop.2.1 35 = .ok (.iastore, 1) := by decide +kernel
theorem d_Md_drop_36 : decode m_Md_drop.2.1 36 = .ok (.iload_n 2, 1) := by decide +kernel
theorem d_Md_drop_37 : decode m_Md_drop.2.1 37 = .ok (.ireturn, 1) := by decide +kernel
theorem d_Md_registersThere_0 : decode m_Md_registersThere.2.1 0 = .ok (.iconst 0, 1) := by decide +kernel
theorem d_Md_registersThere_1 : decode m_Md_registersThere.2.1 1 = .ok (.istore_n 1, 1) := by decide +kernel
theorem d_Md_registersThere_2 : decode m_Md_registersThere.2.1 2 = .ok (.iconst 0, 1) := by decide +kernel
theorem d_Md_registersThere_3 : decode m_Md_registersThere.2.1 3 = .ok (.istore_n 2, 1) := by decide +kernel
theorem d_Md_registersThere_4 : decode m_Md_registersThere.2.1 4 = .ok (.iload_n 2, 1) := by decide +kernel
theorem d_Md_registersThere_5 : decode m_Md_registersThere.2.1 5 = .ok (.iconst 3, 1) := by decide +kernel
theorem d_Md_registersThere_6 : decode m_Md_registersThere.2.1 6 = .ok (.if_icmp .ge 26, 3) := by decide +kernel
theorem d_Md_registersThere_9 : decode m_Md_registersThere.2.1 9 = .ok (.iload_n 1, 1) := by decide +kernel
theorem d_Md_registersThere_10 : decode m_Md_registersThere.2.1 10 = .ok (.aload_n 0, 1) := by decide +kernel
theorem d_Md_registersThere_11 : decode m_Md_registersThere.2.1 11 = .ok (.getfield 92, 3) := by decide +kernel
theorem d_Md_registersThere_14 : decode m_Md_registersThere.2.1 14 = .ok (.iload_n 2, 1) := by decide +kernel
theorem d_Md_registersThere_15 : decode m_Md_registersThere.2.1 15 = .ok (.iaload, 1) := by decide +kernel
theorem d_Md_registersThere_16 : decode m_Md_registersThere.2.1 16 = .ok (.ifCond .ge 7, 3) := by decide +kernel
theorem d_Md_registersThere_19 : decode m_Md_registersThere.2.1 19 = .ok (.iconst 0, 1) := by decide +kernel
theorem d_Md_registersThere_20 : decode m_Md_registersThere.2.1 20 = .ok (.goto 4, 3) := by decide +kernel
theorem d_Md_registersThere_23 : decode m_Md_registersThere.2.1 23 = .ok (.iconst 1, 1) := by decide +kernel
theorem d_Md_registersThere_24 : decode m_Md_registersThere.2.1 24 = .ok (.iadd, 1) := by decide +kernel
theorem d_Md_registersThere_25 : decode m_Md_registersThere.2.1 25 = .ok (.istore_n 1, 1) := by decide +kernel
theorem d_Md_registersThere_26 : decode m_Md_registersThere.2.1 26 = .ok (.iinc 2 1, 3) := by decide +kernel
theorem d_Md_registersThere_29 : decode m_Md_registersThere.2.1 29 = .ok (.goto (-25), 3) := by decide +kernel
theorem d_Md_registersThere_32 : decode m_Md_registersThere.2.1 32 = .ok (.iload_n 1, 1) := by decide +kernel
theorem d_Md_registersThere_33 : decode m_Md_registersThere.2.1 33 = .ok (.ireturn, 1) := by decide +kernel
