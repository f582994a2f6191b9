theorem d_Md_erase_0 : decode m_Md_erase.2.1 0 = .ok (.aload_n 0, 1) := by decide +kernel
theorem d_Md_erase_1 : decode m_Md_erase.2.1 1 = .ok (.getfield 120, 3) := by decide +kernel
theorem d_Md_erase_4 : decode m_Md_erase.2.1 4 = .ok (.istore_n 1, 1) := by decide +kernel
theorem d_Md_erase_5 : decode m_Md_erase.2.1 5 = .ok (.aload_n 0, 1) := by decide +kernel
theorem d_Md_erase_6 : decode m_Md_erase.2.1 6 = .ok (.iconst 0, 1) := by decide +kernel
theorem d_Md_erase_7 : decode m_Md_erase.2.1 7 = .ok (.putfield 120, 3) := by decide +kernel
theorem d_Md_erase_10 : decode m_Md_erase.2.1 10 = .ok (.iload_n 1, 1) := by decide +kernel
theorem d_Md_erase_11 : decode m_Md_erase.2.1 11 = .ok (.ireturn, 1) := by decide +kernel
theorem d_Md_looks_0 : decode m_Md_looks.2.1 0 = .ok (.aload_n 0, 1) := by decide +kernel
theorem d_Md_looks_1 : decode m_Md_looks.2.1 1 = .ok (.getfield 131, 3) := by decide +kernel
theorem d_Md_looks_4 : decode m_Md_looks.2.1 4 = .ok (.aload_n 0, 1) := by decide +kernel
theorem d_Md_looks_5 : decode m_Md_looks.2.1 5 = .ok (.getfield 120, 3) := by decide +kernel
theorem d_Md_looks_8 : decode m_Md_looks.2.1 8 = .ok (.if_icmp .ge 30, 3) := by decide +kernel
theorem d_Md_looks_11 : decode m_Md_looks.2.1 11 = .ok (.aload_n 0, 1) := by decide +kernel
theorem d_Md_looks_12 : decode m_Md_looks.2.1 12 = .ok (.getfield 41, 3) := by decide +kernel
theorem d_Md_looks_15 : decode m_Md_looks.2.1 15 = .ok (.aload_n 0, 1) := by decide +kernel
theorem d_Md_looks_16 : decode m_Md_looks.2.1 16 = .ok (.getfield 131, 3) := by decide +kernel
theorem d_Md_looks_19 : decode m_Md_looks.2.1 19 = .ok (.iaload, 1) := by decide +kernel
theorem d_Md_looks_20 : decode m_Md_looks.2.1 20 = .ok (.bipush 32, 2) := by decide +kernel
theorem d_Md_looks_22 : decode m_Md_looks.2.1 22 = .ok (.if_icmp .ne 16, 3) := by decide +kernel
theorem d_Md_looks_25 : decode m_Md_looks.2.1 25 = .ok (.aload_n 0, 1) := by decide +kernel
theorem d_Md_looks_26 : decode m_Md_looks.2.1 26 = .ok (.dup, 1) := by decide +kernel
theorem d_Md_looks_27 : decode m_Md_looks.2.1 27 = .ok (.getfield 131, 3) := by decide +kernel
theorem d_Md_looks_30 : decode m_Md_looks.2.1 30 = .ok (.iconst 1, 1) := by decide +kernel
theorem d_Md_looks_31 : decode m_Md_looks.2.1 31 = .ok (.iadd, 1) := by decide +kernel
theorem d_Md_looks_32 : decode m_Md_looks.2.1 32 = .ok (.putfield 131, 3) := by decide +kernel
theorem d_Md_looks_35 : decode m_Md_looks.2.1 35 = .ok (.goto (-35), 3) := by decide +kernel
theorem d_Md_looks_38 : decode m_Md_looks.2.1 38 = .ok (.aload_n 0, 1) := by decide +kernel
theorem d_Md_looks_39 : decode m_Md_looks.2.1 39 = .ok (.aload_n 0, 1) := by decide +kernel
theorem d_Md_looks_40 : decode m_Md_looks.2.1 40 = .ok (.getfield 131, 3) := by decide +kernel
theorem d_Md_looks_43 : decode m_Md_looks.2.1 43 = .ok (.putfield 134, 3) := by decide +kernel
theorem d_Md_looks_46 : decode m_Md_looks.2.1 46 = .ok (.aload_n 0, 1) := by decide +kernel
theorem d_Md_looks_47 : decode m_Md_looks.2.1 47 = .ok (.aload_n 0, 1) := by decide +kernel
theorem d_Md_looks_48 : decode m_Md_looks.2.1 48 = .ok (.getfield 131, 3) := by decide +kernel
theorem d_Md_looks_51 : decode m_Md_looks.2.1 51 = .ok (.putfield 137, 3) := by decide +kernel
theorem d_Md_looks_54 : decode m_Md_looks.2.1 54 = .ok (.aload_n 0, 1) := by decide +kernel
theorem d_Md_looks_55 : decode m_Md_looks.2.1 55 = .ok (.iconst 0, 1) := by decide +kernel
theorem d_Md_looks_56 : decode m_Md_looks.2.1 56 = .ok (.putfield 140, 3) := by decide +kernel
theorem d_Md_looks_59 : decode m_Md_looks.2.1 59 = .ok (.aload_n 0, 1) := by decide +kernel
theorem d_Md_looks_60 : decode m_Md_looks.2.1 60 = .ok (.getfield 131, 3) := by decide +kernel
theorem d_Md_looks_63 : decode m_Md_looks.2.1 63 = .ok (.aload_n 0, 1) := by decide +kernel
theorem d_Md_looks_64 : decode m_Md_looks.2.1 64 = .ok (.getfield 120, 3) := by decide +kernel
theorem d_Md_looks_67 : decode m_Md_looks.2.1 67 = .ok (.if_icmp .ge 80, 3) := by decide +kernel
theorem d_Md_looks_70 : decode m_Md_looks.2.1 70 = .ok (.aload_n 0, 1) := by decide +kernel
theorem d_Md_looks_71 : decode m_Md_looks.2.1 71 = .ok (.aload_n 0, 1) := by decide +kernel
theorem d_Md_looks_72 : decode m_Md_looks.2.1 72 = .ok (.getfield 41, 3) := by decide +kernel
theorem d_Md_looks_75 : decode m_Md_looks.2.1 75 = .ok (.aload_n 0, 1) := by decide +kernel
theorem d_Md_looks_76 : decode m_Md_looks.2.1 76 = .ok (.getfield 131, 3) := by decide +kernel
theorem d_Md_looks_79 : decode m_Md_looks.2.1 79 = .ok (.iaload, 1) := by decide +kernel
theorem d_Md_looks_80 : decode m_Md_looks.2.1 80 = .ok (.invokestatic 143, 3) := by decide +kernel
theorem d_Md_looks_83 : decode m_Md_looks.2.1 83 = .ok (.putfield 140, 3) := by decide +kernel
theorem d_Md_looks_86 : decode m_Md_looks.2.1 86 = .ok (.aload_n 0, 1) := by decide +kernel
theorem d_Md_looks_87 : decode m_Md_looks.2.1 87 = .ok (.dup, 1) := by decide +kernel
theorem d_Md_looks_88 : decode m_Md_looks.2.1 88 = .ok (.getfield 137, 3) := by decide +kernel
theorem d_Md_looks_91 : decode m_Md_looks.2.1 91 = .ok (.iconst 1, 1) := by decide +kernel
theorem d_Md_looks_92 : decode m_Md_looks.2.1 92 = .ok (.iadd, 1) := by decide +kernel
theorem d_Md_looks_93 : decode m_Md_looks.2.1 93 = .ok (.putfield 137, 3) := by decide +kernel
theorem d_Md_looks_96 : decode m_Md_looks.2.1 96 = .ok (.aload_n 0, 1) := by decide +kernel
theorem d_Md_looks_97 : decode m_Md_looks.2.1 97 = .ok (.getfield 140, 3) := by decide +kernel
theorem d_Md_looks_100 : decode m_Md_looks.2.1 100 = .ok (.iconst 3, 1) := by decide +kernel
theorem d_Md_looks_101 : decode m_Md_looks.2.1 101 = .ok (.if_icmp .ge 46, 3) := by decide +kernel
theorem d_Md_looks_104 : decode m_Md_looks.2.1 104 = .ok (.aload_n 0, 1) := by decide +kernel
theorem d_Md_looks_105 : decode m_Md_looks.2.1 105 = .ok (.getfield 137, 3) := by decide +kernel
theorem d_Md_looks_108 : decode m_Md_looks.2.1 108 = .ok (.aload_n 0, 1) := by decide +kernel
theorem d_Md_looks_109 : decode m_Md_looks.2.1 109 = .ok (.getfield 120, 3) := by decide +kernel
theorem d_Md_looks_112 : decode m_Md_looks.2.1 112 = .ok (.if_icmp .ge 35, 3) := by decide +kernel
theorem d_Md_looks_115 : decode m_Md_looks.2.1 115 = .ok (.aload_n 0, 1) := by decide +kernel
theorem d_Md_looks_116 : decode m_Md_looks.2.1 116 = .ok (.getfield 41, 3) := by decide +kernel
theorem d_Md_looks_119 : decode m_Md_looks.2.1 119 = .ok (.aload_n 0, 1) := by decide +kernel
theorem d_Md_looks_120 : decode m_Md_looks.2.1 120 = .ok (.getfield 137, 3) := by decide +kernel
theorem d_Md_looks_123 : decode m_Md_looks.2.1 123 = .ok (.iaload, 1) := by decide +kernel
theorem d_Md_looks_124 : decode m_Md_looks.2.1 124 = .ok (.invokestatic 143, 3) := by decide +kernel
theorem d_Md_looks_127 : decode m_Md_looks.2.1 127 = .ok (.aload_n 0, 1) := by decide +kernel
theorem d_Md_looks_128 : decode m_Md_looks.2.1 128 = .ok (.getfield 140, 3) := by decide +kernel
theorem d_Md_looks_131 : decode m_Md_looks.2.1 131 = .ok (.if_icmp .ne 16, 3) := by decide +kernel
theorem d_Md_looks_134 : decode m_Md_looks.2.1 134 = .ok (.aload_n 0, 1) := by decide +kernel
theorem d_Md_looks_135 : decode m_Md_looks.2.1 135 = .ok (.dup, 1) := by decide +kernel
theorem d_Md_looks_136 : decode m_Md_looks.2.1 136 = .ok (.getfield 137, 3) := by decide +kernel
theorem d_Md_looks_139 : decode m_Md_looks.2.1 139 = .ok (.iconst 1, 1) := by decide +kernel
theorem d_Md_looks_140 : decode m_Md_looks.2.1 140 = .ok (.iadd, 1) := by decide +kernel
theorem d_Md_looks_141 : decode m_Md_looks.2.1 141 = .ok (.putfield 137, 3) := by decide +kernel
theorem d_Md_looks_144 : decode m_Md_looks.2.1 144 = .ok (.goto (-48), 3) := by decide +kernel
theorem d_Md_looks_147 : decode m_Md_looks.2.1 147 = .ok (.return_, 1) := by decide +kernel
theorem d_Md_isWord_0 : decode m_Md_isWord.2.1 0 = .ok (.aload_n 0, 1) := by decide +kernel
theorem d_Md_isWord_1 : decode m_Md_isWord.2.1 1 = .ok (.getfield 140, 3) := by decide +kernel
theorem d_Md_isWord_4 : decode m_Md_isWord.2.1 4 = .ok (.iconst 1, 1) := by decide +kernel
theorem d_Md_isWord_5 : decode m_Md_isWord.2.1 5 = .ok (.if_icmp .ne 20, 3) := by decide +kernel
theorem d_Md_isWord_8 : decode m_Md_isWord.2.1 8 = .ok (.aload_n 0, 1) := by decide +kernel
theorem d_Md_isWord_9 : decode m_Md_isWord.2.1 9 = .ok (.getfield 137, 3) := by decide +kernel
theorem d_Md_isWord_12 : decode m_Md_isWord.2.1 12 = .ok (.aload_n 0, 1) := by decide +kernel
theorem d_Md_isWord_13 : decode m_Md_isWord.2.1 13 = .ok (.getfield 134, 3) := by decide +kernel
theorem d_Md_isWord_16 : decode m_Md_isWord.2.1 16 = .ok (.isub, 1) := by decide +kernel
theorem d_Md_isWord_17 : decode m_Md_isWord.2.1 17 = .ok (.iload_n 1, 1) := by decide +kernel
theorem d_Md_isWord_18 : decode m_Md_isWord.2.1 18 = .ok (.if_icmp .ne 7, 3) := by decide +kernel
theorem d_Md_isWord_21 : decode m_Md_isWord.2.1 21 = .ok (.iconst 1, 1) := by decide +kernel
theorem d_Md_isWord_22 : decode m_Md_isWord.2.1 22 = .ok (.goto 4, 3) := by decide +kernel
theorem d_Md_isWord_25 : decode m_Md_isWord.2.1 25 = .ok (.iconst 0, 1) := by decide +kernel
theorem d_Md_isWord_26 : decode m_Md_isWord.2.1 26 = .ok (.istore 4, 2) := by decide +kernel
theorem d_Md_isWord_28 : decode m_Md_isWord.2.1 28 = .ok (.iconst 0, 1) := by decide +kernel
theorem d_Md_isWord_29 : decode m_Md_isWord.2.1 29 = .ok (.istore 5, 2) := by decide +kernel
theorem d_Md_isWord_31 : decode m_Md_isWord.2.1 31 = .ok (.iload 5, 2) := by decide +kernel
theorem d_Md_isWord_33 : decode m_Md_isWord.2.1 33 = .ok (.iload_n 1, 1) := by decide +kernel
theorem d_Md_isWord_34 : decode m_Md_isWord.2.1 34 = .ok (.if_icmp .ge 53, 3) := by decide +kernel
theorem d_Md_isWord_37 : decode m_Md_isWord.2.1 37 = .ok (.iload 4, 2) := by decide +kernel
theorem d_Md_isWord_39 : decode m_Md_isWord.2.1 39 = .ok (.ifCond .eq 48, 3) := by decide +kernel
theorem d_Md_isWord_42 : decode m_Md_isWord.2.1 42 = .ok (.aload_n 0, 1) := by decide +kernel
theorem d_Md_isWord_43 : decode m_Md_isWord.2.1 43 = .ok (.getfield 41, 3) := by decide +kernel
theorem d_Md_isWord_46 : decode m_Md_isWord.2.1 46 = .ok (.aload_n 0, 1) := by decide +kernel
theorem d_Md_isWord_47 : decode m_Md_isWord.2.1 47 = .ok (.getfield 134, 3) := by decide +kernel
theorem d_Md_isWord_50 : decode m_Md_isWord.2.1 50 = .ok (.iload 5, 2) := by decide +kernel
theorem d_Md_isWord_52 : decode m_Md_isWord.2.1 52 = .ok (.iadd, 1) := by decide +kernel
theorem d_Md_isWord_53 : decode m_Md_isWord.2.1 53 = .ok (.iaload, 1) := by decide +kernel
theorem d_Md_isWord_54 : decode m_Md_isWord.2.1 54 = .ok (.i2l, 1) := by decide +kernel
theorem d_Md_isWord_55 : decode m_Md_isWord.2.1 55 = .ok (.lload_n 2, 1) := by decide +kernel
theorem d_Md_isWord_56 : decode m_Md_isWord.2.1 56 = .ok (.bipush 8, 2) := by decide +kernel
theorem d_Md_isWord_58 : decode m_Md_isWord.2.1 58 = .ok (.iload_n 1, 1) := by decide +kernel
theorem d_Md_isWord_59 : decode m_Md_isWord.2.1 59 = .ok (.iconst 1, 1) := by decide +kernel
theorem d_Md_isWord_60 : decode m_Md_isWord.2.1 60 = .ok (.isub, 1) := by decide +kernel
theorem d_Md_isWord_61 : decode m_Md_isWord.2.1 61 = .ok (.iload 5, 2) := by decide +kernel
theorem d_Md_isWord_63 : decode m_Md_isWord.2.1 63 = .ok (.isub, 1) := by decide +kernel
theorem d_Md_isWord_64 : decode m_Md_isWord.2.1 64 = .ok (.imul, 1) := by decide +kernel
theorem d_Md_isWord_65 : decode m_Md_isWord.2.1 65 = .ok (.lshr, 1) := by decide +kernel
theorem d_Md_isWord_66 : decode m_Md_isWord.2.1 66 = .ok (.ldc2_w 118, 3) := by decide +kernel
theorem d_Md_isWord_69 : decode m_Md_isWord.2.1 69 = .ok (.land, 1) := by decide +kernel
theorem d_Md_isWord_70 : decode m_Md_isWord.2.1 70 = .ok (.lcmp, 1) := by decide +kernel
theorem d_Md_isWord_71 : decode m_Md_isWord.2.1 71 = .ok (.ifCond .ne 7, 3) := by decide +kernel
theorem d_Md_isWord_74 : decode m_Md_isWord.2.1 74 = .ok (.iconst 1, 1) := by decide +kernel
theorem d_Md_isWord_75 : decode m_Md_isWord.2.1 75 = .ok (.goto 4, 3) := by decide +kernel
theorem d_Md_isWord_78 : decode m_Md_isWord.2.1 78 = .ok (.iconst 0, 1) := by decide +kernel
theorem d_Md_isWord_79 : decode m_Md_isWord.2.1 79 = .ok (.istore 4, 2) := by decide +kernel
theorem d_Md_isWord_81 : decode m_Md_isWord.2.1 81 = .ok (.iinc 5 1, 3) := by decide +kernel
theorem d_Md_isWord_84 : decode m_Md_isWord.2.1 84 = .ok (.goto (-53), 3) := by decide +kernel
theorem d_Md_isWord_87 : decode m_Md_isWord.2.1 87 = .ok (.iload 4, 2) := by decide +kernel
theorem d_Md_isWord_89 : decode m_Md_isWord.2.1 89 = .ok (.ireturn, 1) := by decide +kernel
theorem d_Md_takesNeeds_0 : decode m_Md_takesNeeds.2.1 0 = .ok (.iconst (-1), 1) := by decide +kernel
theorem d_Md_takesNeeds_1 : decode m_Md_takesNeeds.2.1 1 = .ok (.istore_n 1, 1) := by decide +kernel
theorem d_Md_takesNeeds_2 : decode m_Md_takesNeeds.2.1 2 = .ok (.iconst 1, 1) := by decide +kernel
theorem d_Md_takesNeeds_3 : decode m_Md_takesNeeds.2.1 3 = .ok (.istore_n 2, 1) := by decide +kernel
theorem d_Md_takesNeeds_4 : decode m_Md_takesNeeds.2.1 4 = .ok (.aload_n 0, 1) := by decide +kernel
theorem d_Md_takesNeeds_5 : decode m_Md_takesNeeds.2.1 5 = .ok (.iconst 0, 1) := by decide +kernel
theorem d_Md_takesNeeds_6 : decode m_Md_takesNeeds.2.1 6 = .ok (.putfield 150, 3) := by decide +kernel
theorem d_Md_takesNeeds_9 : decode m_Md_takesNeeds.2.1 9 = .ok (.aload_n 0, 1) := by decide +kernel
theorem d_Md_takesNeeds_10 : decode m_Md_takesNeeds.2.1 10 = .ok (.getfield 134, 3) := by decide +kernel
theorem d_Md_takesNeeds_13 : decode m_Md_takesNeeds.2.1 13 = .ok (.istore_n 3, 1) := by decide +kernel
theorem d_Md_takesNeeds_14 : decode m_Md_takesNeeds.2.1 14 = .ok (.iload_n 3, 1) := by decide +kernel
theorem d_Md_takesNeeds_15 : decode m_Md_takesNeeds.2.1 15 = .ok (.aload_n 0, 1) := by decide +kernel
theorem d_Md_takesNeeds_16 : decode m_Md_takesNeeds.2.1 16 = .ok (.getfield 137, 3) := by decide +kernel
theorem d_Md_takesNeeds_19 : decode m_Md_takesNeeds.2.1 19 = .ok (.if_icmp .ge 69, 3) := by decide +kernel
theorem d_Md_takesNeeds_22 : decode m_Md_takesNeeds.2.1 22 = .ok (.iload_n 2, 1) := by decide +kernel
theorem d_Md_takesNeeds_23 : decode m_Md_takesNeeds.2.1 23 = .ok (.ifCond .eq 65, 3) := by decide +kernel
theorem d_Md_takesNeeds_26 : decode m_Md_takesNeeds.2.1 26 = .ok (.aload_n 0, 1) := by decide +kernel
theorem d_Md_takesNeeds_27 : decode m_Md_takesNeeds.2.1 27 = .ok (.getfield 41, 3) := by decide +kernel
theorem d_Md_takesNeeds_30 : decode m_Md_takesNeeds.2.1 30 = .ok (.iload_n 3, 1) := by decide +kernel
theorem d_Md_takesNeeds_31 : decode m_Md_takesNeeds.2.1 31 = .ok (.iaload, 1) := by decide +kernel
theorem d_Md_takesNeeds_32 : decode m_Md_takesNeeds.2.1 32 = .ok (.bipush 97, 2) := by decide +kernel
theorem d_Md_takesNeeds_34 : decode m_Md_takesNeeds.2.1 34 = .ok (.isub, 1) := by decide +kernel
theorem d_Md_takesNeeds_35 : decode m_Md_takesNeeds.2.1 35 = .ok (.istore 4, 2) := by decide +kernel
theorem d_Md_takesNeeds_37 : decode m_Md_takesNeeds.2.1 37 = .ok (.iload 4, 2) := by decide +kernel
theorem d_Md_takesNeeds_39 : decode m_Md_takesNeeds.2.1 39 = .ok (.iload_n 1, 1) := by decide +kernel
theorem d_Md_takesNeeds_40 : decode m_Md_takesNeeds.2.1 40 = .ok (.if_icmp .le 16, 3) := by decide +kernel
theorem d_Md_takesNeeds_43 : decode m_Md_takesNeeds.2.1 43 = .ok (.iload 4, 2) := by decide +kernel
theorem d_Md_takesNeeds_45 : decode m_Md_takesNeeds.2.1 45 = .ok (.aload_n 0, 1) := by decide +kernel
theorem d_Md_takesNeeds_46 : decode m_Md_takesNeeds.2.1 46 = .ok (.getfield 183, 3) := by decide +kernel
theorem d_Md_takesNeeds_49 : decode m_Md_takesNeeds.2.1 49 = .ok (.if_icmp .ge 7, 3) := by decide +kernel
theorem d_Md_takesNeeds_52 : decode m_Md_takesNeeds.2.1 52 = .ok (.iconst 1, 1) := by decide +kernel
theorem d_Md_takesNeeds_53 : decode m_Md_takesNeeds.2.1 53 = .ok (.goto 4, 3) := by decide +kernel
theorem d_Md_takesNeeds_56 : decode m_Md_takesNeeds.2.1 56 = .ok (.iconst 0, 1) := by decide +kernel
theorem d_Md_takesNeeds_57 : decode m_Md_takesNeeds.2.1 57 = .ok (.istore_n 2, 1) := by decide +kernel
theorem d_Md_takesNeeds_58 : decode m_Md_takesNeeds.2.1 58 = .ok (.aload_n 0, 1) := by decide +kernel
theorem d_Md_takesNeeds_59 : decode m_Md_takesNeeds.2.1 59 = .ok (.dup, 1) := by decide +kernel
theorem d_Md_takesNeeds_60 : decode m_Md_takesNeeds.2.1 60 = .ok (.getfield 150, 3) := by decide +kernel
theorem d_Md_takesNeeds_63 : decode m_Md_takesNeeds.2.1 63 = .ok (.iload_n 2, 1) := by decide +kernel
theorem d_Md_takesNeeds_64 : decode m_Md_takesNeeds.2.1 64 = .ok (.ifCond .eq 10, 3) := by decide +kernel
theorem d_Md_takesNeeds_67 : decode m_Md_takesNeeds.2.1 67 = .ok (.iconst 1, 1) := by decide +kernel
theorem d_Md_takesNeeds_68 : decode m_Md_takesNeeds.2.1 68 = .ok (.iload 4, 2) := by decide +kernel
theorem d_Md_takesNeeds_70 : decode m_Md_takesNeeds.2.1 70 = .ok (.ishl, 1) := by decide +kernel
theorem d_Md_takesNeeds_71 : decode m_Md_takesNeeds.2.1 71 = .ok (.goto 4, 3) := by decide +kernel
theorem d_Md_takesNeeds_74 : decode m_Md_takesNeeds.2.1 74 = .ok (.iconst 0, 1) := by decide +kernel
theorem d_Md_takesNeeds_75 : decode m_Md_takesNeeds.2.1 75 = .ok (.ior, 1) := by decide +kernel
theorem d_Md_takesNeeds_76 : decode m_Md_takesNeeds.2.1 76 = .ok (.putfield 150, 3) := by decide +kernel
theorem d_Md_takesNeeds_79 : decode m_Md_takesNeeds.2.1 79 = .ok (.iload 4, 2) := by decide +kernel
theorem d_Md_takesNeeds_81 : decode m_Md_takesNeeds.2.1 81 = .ok (.istore_n 1, 1) := by decide +kernel
theorem d_Md_takesNeeds_82 : decode m_Md_takesNeeds.2.1 82 = .ok (.iinc 3 1, 3) := by decide +kernel
theorem d_Md_takesNeeds_85 : decode m_Md_takesNeeds.2.1 85 = .ok (.goto (-71), 3) := by decide +kernel
theorem d_Md_takesNeeds_88 : decode m_Md_takesNeeds.2.1 88 = .ok (.iload_n 2, 1) := by decide +kernel
theorem d_Md_takesNeeds_89 : decode m_Md_takesNeeds.2.1 89 = .ok (.ifCond .eq 7, 3) := by decide +kernel
theorem d_Md_takesNeeds_92 : decode m_Md_takesNeeds.2.1 92 = .ok (.aload_n 0, 1) := by decide +kernel
theorem d_Md_takesNeeds_93 : decode m_Md_takesNeeds.2.1 93 = .ok (.invokevirtual 153, 3) := by decide +kernel
theorem d_Md_takesNeeds_96 : decode m_Md_takesNeeds.2.1 96 = .ok (.iload_n 2, 1) := by decide +kernel
theorem d_Md_takesNeeds_97 : decode m_Md_takesNeeds.2.1 97 = .ok (.ireturn, 1) := by decide +kernel
theorem d_Md_parish_0 : decode m_Md_parish.2.1 0 = .ok (.aload_n 0, 1) := by decide +kernel
theorem d_Md_parish_1 : decode m_Md_parish.2.1 1 = .ok (.invokevirtual 216, 3) := by decide +kernel
theorem d_Md_parish_4 : decode m_Md_parish.2.1 4 = .ok (.iconst (-1), 1) := by decide +kernel
theorem d_Md_parish_5 : decode m_Md_parish.2.1 5 = .ok (.if_icmp .eq 6, 3) := by decide +kernel
theorem d_Md_parish_8 : decode m_Md_parish.2.1 8 = .ok (.bipush (-4), 2) := by decide +kernel
theorem d_Md_parish_10 : decode m_Md_parish.2.1 10 = .ok (.ireturn, 1) := by decide +kernel
theorem d_Md_parish_11 : decode m_Md_parish.2.1 11 = .ok (.aload_n 0, 1) := by decide +kernel
theorem d_Md_parish_12 : decode m_Md_parish.2.1 12 = .ok (.aload_n 0, 1) := by decide +kernel
theorem d_Md_parish_13 : decode m_Md_parish.2.1 13 = .ok (.getfield 176, 3) := by decide +kernel
theorem d_Md_parish_16 : decode m_Md_parish.2.1 16 = .ok (.putfield 107, 3) := by decide +kernel
theorem d_Md_parish_19 : decode m_Md_parish.2.1 19 = .ok (.aload_n 0, 1) := by decide +kernel
theorem d_Md_parish_20 : decode m_Md_parish.2.1 20 = .ok (.aload_n 0, 1) := by decide +kernel
theorem d_Md_parish_21 : decode m_Md_parish.2.1 21 = .ok (.getfield 183, 3) := by decide +kernel
theorem d_Md_parish_24 : decode m_Md_parish.2.1 24 = .ok (.putfield 115, 3) := by decide +kernel
theorem d_Md_parish_27 : decode m_Md_parish.2.1 27 = .ok (.iconst 0, 1) := by decide +kernel
theorem d_Md_parish_28 : decode m_Md_parish.2.1 28 = .ok (.istore_n 1, 1) := by decide +kernel
theorem d_Md_parish_29 : decode m_Md_parish.2.1 29 = .ok (.iload_n 1, 1) := by decide +kernel
theorem d_Md_parish_30 : decode m_Md_parish.2.1 30 = .ok (.iconst 5, 1) := by decide +kernel
theorem d_Md_parish_31 : decode m_Md_parish.2.1 31 = .ok (.if_icmp .ge 45, 3) := by decide +kernel
theorem d_Md_parish_34 : decode m_Md_parish.2.1 34 = .ok (.aload_n 0, 1) := by decide +kernel
theorem d_Md_parish_35 : decode m_Md_parish.2.1 35 = .ok (.getfield 17, 3) := by decide +kernel
theorem d_Md_parish_38 : decode m_Md_parish.2.1 38 = .ok (.iload_n 1, 1) := by decide +kernel
theorem d_Md_parish_39 : decode m_Md_parish.2.1 39 = .ok (.aload_n 0, 1) := by decide +kernel
theorem d_Md_parish_40 : decode m_Md_parish.2.1 40 = .ok (.getfield 44, 3) := by decide +kernel
theorem d_Md_parish_43 : decode m_Md_parish.2.1 43 = .ok (.iload_n 1, 1) := by decide +kernel
theorem d_Md_parish_44 : decode m_Md_parish.2.1 44 = .ok (.iaload, 1) := by decide +kernel
theorem d_Md_parish_45 : decode m_Md_parish.2.1 45 = .ok (.iastore, 1) := by decide +kernel
theorem d_Md_parish_46 : decode m_Md_parish.2.1 46 = .ok (.aload_n 0, 1) := by decide +kernel
theorem d_Md_parish_47 : decode m_Md_parish.2.1 47 = .ok (.getfield 20, 3) := by decide +kernel
theorem d_Md_parish_50 : decode m_Md_parish.2.1 50 = .ok (.iload_n 1, 1) := by decide +kernel
theorem d_Md_parish_51 : decode m_Md_parish.2.1 51 = .ok (.aload_n 0, 1) := by decide +kernel
theorem d_Md_parish_52 : decode m_Md_parish.2.1 52 = .ok (.getfield 47, 3) := by decide +kernel
theorem d_Md_parish_55 : decode m_Md_parish.2.1 55 = .ok (.iload_n 1, 1) := by decide +kernel
theorem d_Md_parish_56 : decode m_Md_parish.2.1 56 = .ok (.iaload, 1) := by decide +kernel
theorem d_Md_parish_57 : decode m_Md_parish.2.1 57 = .ok (.iastore, 1) := by decide +kernel
theorem d_Md_parish_58 : decode m_Md_parish.2.1 58 = .ok (.aload_n 0, 1) := by decide +kernel
theorem d_Md_parish_59 : decode m_Md_parish.2.1 59 = .ok (.getfield 23, 3) := by decide +kernel
theorem d_Md_parish_62 : decode m_Md_parish.2.1 62 = .ok (.iload_n 1, 1) := by decide +kernel
theorem d_Md_parish_63 : decode m_Md_parish.2.1 63 = .ok (.aload_n 0, 1) := by decide +kernel
theorem d_Md_parish_64 : decode m_Md_parish.2.1 64 = .ok (.getfield 50, 3) := by decide +kernel
theorem d_Md_parish_67 : decode m_Md_parish.2.1 67 = .ok (.iload_n 1, 1) := by decide +kernel
theorem d_Md_parish_68 : decode m_Md_parish.2.1 68 = .ok (.iaload, 1) := by decide +kernel
theorem d_Md_parish_69 : decode m_Md_parish.2.1 69 = .ok (.iastore, 1) := by decide +kernel
theorem d_Md_parish_70 : decode m_Md_parish.2.1 70 = .ok (.iinc 1 1, 3) := by decide +kernel
theorem d_Md_parish_73 : decode m_Md_parish.2.1 73 = .ok (.goto (-44), 3) := by decide +kernel
theorem d_Md_parish_76 : decode m_Md_parish.2.1 76 = .ok (.iconst 0, 1) := by decide +kernel
theorem d_Md_parish_77 : decode m_Md_parish.2.1 77 = .ok (.istore_n 1, 1) := by decide +kernel
theorem d_Md_parish_78 : decode m_Md_parish.2.1 78 = .ok (.iload_n 1, 1) := by decide +kernel
theorem d_Md_parish_79 : decode m_Md_parish.2.1 79 = .ok (.bipush 10, 2) := by decide +kernel
theorem d_Md_parish_81 : decode m_Md_parish.2.1 81 = .ok (.if_icmp .ge 69, 3) := by decide +kernel
theorem d_Md_parish_84 : decode m_Md_parish.2.1 84 = .ok (.aload_n 0, 1) := by decide +kernel
theorem d_Md_parish_85 : decode m_Md_parish.2.1 85 = .ok (.getfield 26, 3) := by decide +kernel
theorem d_Md_parish_88 : decode m_Md_parish.2.1 88 = .ok (.iload_n 1, 1) := by decide +kernel
theorem d_Md_parish_89 : decode m_Md_parish.2.1 89 = .ok (.aload_n 0, 1) := by decide +kernel
theorem d_Md_parish_90 : decode m_Md_parish.2.1 90 = .ok (.getfield 53, 3) := by decide +kernel
theorem d_Md_parish_93 : decode m_Md_parish.2.1 93 = .ok (.iload_n 1, 1) := by decide +kernel
theorem d_Md_parish_94 : decode m_Md_parish.2.1 94 = .ok (.iaload, 1) := by decide +kernel
theorem d_Md_parish_95 : decode m_Md_parish.2.1 95 = .ok (.iastore, 1) := by decide +kernel
theorem d_Md_parish_96 : decode m_Md_parish.2.1 96 = .ok (.aload_n 0, 1) := by decide +kernel
theorem d_Md_parish_97 : decode m_Md_parish.2.1 97 = .ok (.getfield 29, 3) := by decide +kernel
theorem d_Md_parish_100 : decode m_Md_parish.2.1 100 = .ok (.iload_n 1, 1) := by decide +kernel
theorem d_Md_parish_101 : decode m_Md_parish.2.1 101 = .ok (.aload_n 0, 1) := by decide +kernel
theorem d_Md_parish_102 : decode m_Md_parish.2.1 102 = .ok (.getfield 56, 3) := by decide +kernel
theorem d_Md_parish_105 : decode m_Md_parish.2.1 105 = .ok (.iload_n 1, 1) := by decide +kernel
theorem d_Md_parish_106 : decode m_Md_parish.2.1 106 = .ok (.iaload, 1) := by decide +kernel
theorem d_Md_parish_107 : decode m_Md_parish.2.1 107 = .ok (.iastore, 1) := by decide +kernel
theorem d_Md_parish_108 : decode m_Md_parish.2.1 108 = .ok (.aload_n 0, 1) := by decide +kernel
theorem d_Md_parish_109 : decode m_Md_parish.2.1 109 = .ok (.getfield 32, 3) := by decide +kernel
theorem d_Md_parish_112 : decode m_Md_parish.2.1 112 = .ok (.iload_n 1, 1) := by decide +kernel
theorem d_Md_parish_113 : decode m_Md_parish.2.1 113 = .ok (.aload_n 0, 1) := by decide +kernel
theorem d_Md_parish_114 : decode m_Md_parish.2.1 114 = .ok (.getfield 59, 3) := by decide +kernel
theorem d_Md_parish_117 : decode m_Md_parish.2.1 117 = .ok (.iload_n 1, 1) := by decide +kernel
theorem d_Md_parish_118 : decode m_Md_parish.2.1 118 = .ok (.iaload, 1) := by decide +kernel
theorem d_Md_parish_119 : decode m_Md_parish.2.1 119 = .ok (.iastore, 1) := by decide +kernel
theorem d_Md_parish_120 : decode m_Md_parish.2.1 120 = .ok (.aload_n 0, 1) := by decide +kernel
theorem d_Md_parish_121 : decode m_Md_parish.2.1 121 = .ok (.getfield 35, 3) := by decide +kernel
theorem d_Md_parish_124 : decode m_Md_parish.2.1 124 = .ok (.iload_n 1, 1) := by decide +kernel
theorem d_Md_parish_125 : decode m_Md_parish.2.1 125 = .ok (.aload_n 0, 1) := by decide +kernel
theorem d_Md_parish_126 : decode m_Md_parish.2.1 126 = .ok (.getfield 62, 3) := by decide +kernel
theorem d_Md_parish_129 : decode m_Md_parish.2.1 129 = .ok (.iload_n 1, 1) := by decide +kernel
theorem d_Md_parish_130 : decode m_Md_parish.2.1 130 = .ok (.iaload, 1) := by decide +kernel
theorem d_Md_parish_131 : decode m_Md_parish.2.1 131 = .ok (.iastore, 1) := by decide +kernel
theorem d_Md_parish_132 : decode m_Md_parish.2.1 132 = .ok (.aload_n 0, 1) := by decide +kernel
theorem d_Md_parish_133 : decode m_Md_parish.2.1 133 = .ok (.getfield 38, 3) := by decide +kernel
theorem d_Md_parish_136 : decode m_Md_parish.2.1 136 = .ok (.iload_n 1, 1) := by decide +kernel
theorem d_Md_parish_137 : decode m_Md_parish.2.1 137 = .ok (.aload_n 0, 1) := by decide +kernel
theorem d_Md_parish_138 : decode m_Md_parish.2.1 138 = .ok (.getfield 65, 3) := by decide +kernel
theorem d_Md_parish_141 : decode m_Md_parish.2.1 141 = .ok (.iload_n 1, 1) := by decide +kernel
theorem d_Md_parish_142 : decode m_Md_parish.2.1 142 = .ok (.iaload, 1) := by decide +kernel
theorem d_Md_parish_143 : decode m_Md_parish.2.1 143 = .ok (.iastore, 1) := by decide +kernel
theorem d_Md_parish_144 : decode m_Md_parish.2.1 144 = .ok (.iinc 1 1, 3) := by decide +kernel
theorem d_Md_parish_147 : decode m_Md_parish.2.1 147 = .ok (.goto (-69), 3) := by decide +kernel
theorem d_Md_parish_150 : decode m_Md_parish.2.1 150 = .ok (.aload_n 0, 1) := by decide +kernel
theorem d_Md_parish_151 : decode m_Md_parish.2.1 151 = .ok (.invokevirtual 223, 3) := by decide +kernel
theorem d_Md_parish_154 : decode m_Md_parish.2.1 154 = .ok (.aload_n 0, 1) := by decide +kernel
theorem d_Md_parish_155 : decode m_Md_parish.2.1 155 = .ok (.iconst 0, 1) := by decide +kernel
theorem d_Md_parish_156 : decode m_Md_parish.2.1 156 = .ok (.putfield 120, 3) := by decide +kernel
theorem d_Md_parish_159 : decode m_Md_parish.2.1 159 = .ok (.aload_n 0, 1) := by decide +kernel
theorem d_Md_parish_160 : decode m_Md_parish.2.1 160 = .ok (.iconst 0, 1) := by decide +kernel
theorem d_Md_parish_161 : decode m_Md_parish.2.1 161 = .ok (.putfield 226, 3) := by decide +kernel
theorem d_Md_parish_164 : decode m_Md_parish.2.1 164 = .ok (.aload_n 0, 1) := by decide +kernel
theorem d_Md_parish_165 : decode m_Md_parish.2.1 165 = .ok (.iconst 0, 1) := by decide +kernel
theorem d_Md_parish_166 : decode m_Md_parish.2.1 166 = .ok (.putfield 229, 3) := by decide +kernel
theorem d_Md_parish_169 : decode m_Md_parish.2.1 169 = .ok (.aload_n 0, 1) := by decide +kernel
theorem d_Md_parish_170 : decode m_Md_parish.2.1 170 = .ok (.getfield 13, 3) := by decide +kernel
theorem d_Md_parish_173 : decode m_Md_parish.2.1 173 = .ok (.iconst 0, 1) := by decide +kernel
theorem d_Md_parish_174 : decode m_Md_parish.2.1 174 = .ok (.iconst 0, 1) := by decide +kernel
theorem d_Md_parish_175 : decode m_Md_parish.2.1 175 = .ok (.bastore, 1) := by decide +kernel
theorem d_Md_parish_176 : decode m_Md_parish.2.1 176 = .ok (.aload_n 0, 1) := by decide +kernel
theorem d_Md_parish_177 : decode m_Md_parish.2.1 177 = .ok (.getfield 13, 3) := by decide +kernel
theorem d_Md_parish_180 : decode m_Md_parish.2.1 180 = .ok (.iconst 1, 1) := by decide +kernel
theorem d_Md_parish_181 : decode m_Md_parish.2.1 181 = .ok (.iconst 0, 1) := by decide +kernel
theorem d_Md_parish_182 : decode m_Md_parish.2.1 182 = .ok (.bastore, 1) := by decide +kernel
theorem d_Md_parish_183 : decode m_Md_parish.2.1 183 = .ok (.iconst 0, 1) := by decide +kernel
theorem d_Md_parish_184 : decode m_Md_parish.2.1 184 = .ok (.istore_n 1, 1) := by decide +kernel
theorem d_Md_parish_185 : decode m_Md_parish.2.1 185 = .ok (.iload_n 1, 1) := by decide +kernel
theorem d_Md_parish_186 : decode m_Md_parish.2.1 186 = .ok (.iconst 3, 1) := by decide +kernel
theorem d_Md_parish_187 : decode m_Md_parish.2.1 187 = .ok (.if_icmp .ge 16, 3) := by decide +kernel
theorem d_Md_parish_190 : decode m_Md_parish.2.1 190 = .ok (.aload_n 0, 1) := by decide +kernel
theorem d_Md_parish_191 : decode m_Md_parish.2.1 191 = .ok (.getfield 92, 3) := by decide +kernel
theorem d_Md_parish_194 : decode m_Md_parish.2.1 194 = .ok (.iload_n 1, 1) := by decide +kernel
theorem d_Md_parish_195 : decode m_Md_parish.2.1 195 = .ok (.iconst (-1), 1) := by decide +kernel
theorem d_Md_parish_196 : decode m_Md_parish.2.1 196 = .ok (.iastore, 1) := by decide +kernel
theorem d_Md_parish_197 : decode m_Md_parish.2.1 197 = .ok (.iinc 1 1, 3) := by decide +kernel
theorem d_Md_parish_200 : decode m_Md_parish.2.1 200 = .ok (.goto (-15), 3) := by decide +kernel
theorem d_Md_parish_203 : decode m_Md_parish.2.1 203 = .ok (.aload_n 0, 1) := by decide +kernel
theorem d_Md_parish_204 : decode m_Md_parish.2.1 204 = .ok (.getfield 210, 3) := by decide +kernel
theorem d_Md_parish_207 : decode m_Md_parish.2.1 207 = .ok (.ireturn, 1) := by decide +kernel
theorem d_Md_isPerson_0 : decode m_Md_isPerson.2.1 0 = .ok (.iload_n 1, 1) := by decide +kernel
theorem d_Md_isPerson_1 : decode m_Md_isPerson.2.1 1 = .ok (.i2l, 1) := by decide +kernel
theorem d_Md_isPerson_2 : decode m_Md_isPerson.2.1 2 = .ok (.lconst 0, 1) := by decide +kernel
theorem d_Md_isPerson_3 : decode m_Md_isPerson.2.1 3 = .ok (.aload_n 0, 1) := by decide +kernel
theorem d_Md_isPerson_4 : decode m_Md_isPerson.2.1 4 = .ok (.getfield 107, 3) := by decide +kernel
theorem d_Md_isPerson_7 : decode m_Md_isPerson.2.1 7 = .ok (.iconst 1, 1) := by decide +kernel
theorem d_Md_isPerson_8 : decode m_Md_isPerson.2.1 8 = .ok (.isub, 1) := by decide +kernel
theorem d_Md_isPerson_9 : decode m_Md_isPerson.2.1 9 = .ok (.i2l, 1) := by decide +kernel
theorem d_Md_isPerson_10 : decode m_Md_isPerson.2.1 10 = .ok (.invokestatic 111, 3) := by decide +kernel
theorem d_Md_isPerson_13 : decode m_Md_isPerson.2.1 13 = .ok (.ireturn, 1) := by decide +kernel
theorem d_Md_holderIn_0 : decode m_Md_holderIn.2.1 0 = .ok (.iconst 5, 1) := by decide +kernel
theorem d_Md_holderIn_1 : decode m_Md_holderIn.2.1 1 = .ok (.istore_n 3, 1) := by decide +kernel
theorem d_Md_holderIn_2 : decode m_Md_holderIn.2.1 2 = .ok (.iload_n 3, 1) := by decide +kernel
theorem d_Md_holderIn_3 : decode m_Md_holderIn.2.1 3 = .ok (.ifCond .lt 19, 3) := by decide +kernel
theorem d_Md_holderIn_6 : decode m_Md_holderIn.2.1 6 = .ok (.aload_n 0, 1) := by decide +kernel
theorem d_Md_holderIn_7 : decode m_Md_holderIn.2.1 7 = .ok (.iload_n 1, 1) := by decide +kernel
theorem d_Md_holderIn_8 : decode m_Md_holderIn.2.1 8 = .ok (.iload_n 2, 1) := by decide +kernel
theorem d_Md_holderIn_9 : decode m_Md_holderIn.2.1 9 = .ok (.iload_n 3, 1) := by decide +kernel
theorem d_Md_holderIn_10 : decode m_Md_holderIn.2.1 10 = .ok (.invokevirtual 232, 3) := by decide +kernel
theorem d_Md_holderIn_13 : decode m_Md_holderIn.2.1 13 = .ok (.ifCond .ge 9, 3) := by decide +kernel
theorem d_Md_holderIn_16 : decode m_Md_holderIn.2.1 16 = .ok (.iinc 3 (-1), 3) := by decide +kernel
theorem d_Md_holderIn_19 : decode m_Md_holderIn.2.1 19 = .ok (.goto (-17), 3) := by decide +kernel
theorem d_Md_holderIn_22 : decode m_Md_holderIn.2.1 22 = .ok (.iload_n 3, 1) := by decide +kernel
theorem d_Md_holderIn_23 : decode m_Md_holderIn.2.1 23 = .ok (.ireturn, 1) := by decide +kernel
theorem d_Md_as_0 : decode m_Md_as.2.1 0 = .ok (.aload_n 0, 1) := by decide +kernel
theorem d_Md_as_1 : decode m_Md_as.2.1 1 = .ok (.iload_n 1, 1) := by decide +kernel
theorem d_Md_as_2 : decode m_Md_as.2.1 2 = .ok (.invokevirtual 259, 3) := by decide +kernel
theorem d_Md_as_5 : decode m_Md_as.2.1 5 = .ok (.ifCond .ne 6, 3) := by decide +kernel
theorem d_Md_as_8 : decode m_Md_as.2.1 8 = .ok (.bipush (-2), 2) := by decide +kernel
theorem d_Md_as_10 : decode m_Md_as.2.1 10 = .ok (.ireturn, 1) := by decide +kernel
theorem d_Md_as_11 : decode m_Md_as.2.1 11 = .ok (.iload_n 2, 1) := by decide +kernel
theorem d_Md_as_12 : decode m_Md_as.2.1 12 = .ok (.i2l, 1) := by decide +kernel
theorem d_Md_as_13 : decode m_Md_as.2.1 13 = .ok (.lconst 0, 1) := by decide +kernel
theorem d_Md_as_14 : decode m_Md_as.2.1 14 = .ok (.ldc2_w 265, 3) := by decide +kernel
theorem d_Md_as_17 : decode m_Md_as.2.1 17 = .ok (.invokestatic 111, 3) := by decide +kernel
theorem d_Md_as_20 : decode m_Md_as.2.1 20 = .ok (.ifCond .ne 6, 3) := by decide +kernel
theorem d_Md_as_23 : decode m_Md_as.2.1 23 = .ok (.bipush (-3), 2) := by decide +kernel
theorem d_Md_as_25 : decode m_Md_as.2.1 25 = .ok (.ireturn, 1) := by decide +kernel
theorem d_Md_as_26 : decode m_Md_as.2.1 26 = .ok (.aload_n 0, 1) := by decide +kernel
theorem d_Md_as_27 : decode m_Md_as.2.1 27 = .ok (.getfield 26, 3) := by decide +kernel
theorem d_Md_as_30 : decode m_Md_as.2.1 30 = .ok (.iload_n 1, 1) := by decide +kernel
theorem d_Md_as_31 : decode m_Md_as.2.1 31 = .ok (.iaload, 1) := by decide +kernel
theorem d_Md_as_32 : decode m_Md_as.2.1 32 = .ok (.iload_n 2, 1) := by decide +kernel
theorem d_Md_as_33 : decode m_Md_as.2.1 33 = .ok (.invokestatic 267, 3) := by decide +kernel
theorem d_Md_as_36 : decode m_Md_as.2.1 36 = .ok (.ifCond .eq 16, 3) := by decide +kernel
theorem d_Md_as_39 : decode m_Md_as.2.1 39 = .ok (.aload_n 0, 1) := by decide +kernel
theorem d_Md_as_40 : decode m_Md_as.2.1 40 = .ok (.getfield 26, 3) := by decide +kernel
theorem d_Md_as_43 : decode m_Md_as.2.1 43 = .ok (.iload_n 1, 1) := by decide +kernel
theorem d_Md_as_44 : decode m_Md_as.2.1 44 = .ok (.iaload, 1) := by decide +kernel
theorem d_Md_as_45 : decode m_Md_as.2.1 45 = .ok (.iconst 5, 1) := by decide +kernel
theorem d_Md_as_46 : decode m_Md_as.2.1 46 = .ok (.invokestatic 248, 3) := by decide +kernel
theorem d_Md_as_49 : decode m_Md_as.2.1 49 = .ok (.goto 5, 3) := by decide +kernel
theorem d_Md_as_52 : decode m_Md_as.2.1 52 = .ok (.bipush (-4), 2) := by decide +kernel
theorem d_Md_as_54 : decode m_Md_as.2.1 54 = .ok (.ireturn, 1) := by decide +kernel
theorem d_Md_minds_0 : decode m_Md_minds.2.1 0 = .ok (.aload_n 0, 1) := by decide +kernel
theorem d_Md_minds_1 : decode m_Md_minds.2.1 1 = .ok (.getfield 226, 3) := by decide +kernel
theorem d_Md_minds_4 : decode m_Md_minds.2.1 4 = .ok (.bipush 8, 2) := by decide +kernel
theorem d_Md_minds_6 : decode m_Md_minds.2.1 6 = .ok (.if_icmp .ne 51, 3) := by decide +kernel
theorem d_Md_minds_9 : decode m_Md_minds.2.1 9 = .ok (.iconst 0, 1) := by decide +kernel
theorem d_Md_minds_10 : decode m_Md_minds.2.1 10 = .ok (.istore_n 1, 1) := by decide +kernel
theorem d_Md_minds_11 : decode m_Md_minds.2.1 11 = .ok (.iload_n 1, 1) := by decide +kernel
theorem d_Md_minds_12 : decode m_Md_minds.2.1 12 = .ok (.sipush 651, 3) := by decide +kernel
theorem d_Md_minds_15 : decode m_Md_minds.2.1 15 = .ok (.if_icmp .ge 32, 3) := by decide +kernel
theorem d_Md_minds_18 : decode m_Md_minds.2.1 18 = .ok (.aload_n 0, 1) := by decide +kernel
theorem d_Md_minds_19 : decode m_Md_minds.2.1 19 = .ok (.getfield 7, 3) := by decide +kernel
theorem d_Md_minds_22 : decode m_Md_minds.2.1 22 = .ok (.sipush 372, 3) := by decide +kernel
theorem d_Md_minds_25 : decode m_Md_minds.2.1 25 = .ok (.iload_n 1, 1) := by decide +kernel
theorem d_Md_minds_26 : decode m_Md_minds.2.1 26 = .ok (.iadd, 1) := by decide +kernel
theorem d_Md_minds_27 : decode m_Md_minds.2.1 27 = .ok (.aload_n 0, 1) := by decide +kernel
theorem d_Md_minds_28 : decode m_Md_minds.2.1 28 = .ok (.getfield 7, 3) := by decide +kernel
theorem d_Md_minds_31 : decode m_Md_minds.2.1 31 = .ok (.sipush 372, 3) := by decide +kernel
theorem d_Md_minds_34 : decode m_Md_minds.2.1 34 = .ok (.iload_n 1, 1) := by decide +kernel
theorem d_Md_minds_35 : decode m_Md_minds.2.1 35 = .ok (.iadd, 1) := by decide +kernel
theorem d_Md_minds_36 : decode m_Md_minds.2.1 36 = .ok (.bipush 93, 2) := by decide +kernel
theorem d_Md_minds_38 : decode m_Md_minds.2.1 38 = .ok (.iadd, 1) := by decide +kernel
theorem d_Md_minds_39 : decode m_Md_minds.2.1 39 = .ok (.iaload, 1) := by decide +kernel
theorem d_Md_minds_40 : decode m_Md_minds.2.1 40 = .ok (.iastore, 1) := by decide +kernel
theorem d_Md_minds_41 : decode m_Md_minds.2.1 41 = .ok (.iinc 1 1, 3) := by decide +kernel
theorem d_Md_minds_44 : decode m_Md_minds.2.1 44 = .ok (.goto (-33), 3) := by decide +kernel
theorem d_Md_minds_47 : decode m_Md_minds.2.1 47 = .ok (.aload_n 0, 1) := by decide +kernel
theorem d_Md_minds_48 : decode m_Md_minds.2.1 48 = .ok (.dup, 1) := by decide +kernel
theorem d_Md_minds_49 : decode m_Md_minds.2.1 49 = .ok (.getfield 226, 3) := by decide +kernel
theorem d_Md_minds_52 : decode m_Md_minds.2.1 52 = .ok (.iconst 1, 1) := by decide +kernel
theorem d_Md_minds_53 : decode m_Md_minds.2.1 53 = .ok (.isub, 1) := by decide +kernel
theorem d_Md_minds_54 : decode m_Md_minds.2.1 54 = .ok (.putfield 226, 3) := by decide +kernel
theorem d_Md_minds_57 : decode m_Md_minds.2.1 57 = .ok (.aload_n 0, 1) := by decide +kernel
theorem d_Md_minds_58 : decode m_Md_minds.2.1 58 = .ok (.iconst 0, 1) := by decide +kernel
theorem d_Md_minds_59 : decode m_Md_minds.2.1 59 = .ok (.sipush 372, 3) := by decide +kernel
theorem d_Md_minds_62 : decode m_Md_minds.2.1 62 = .ok (.bipush 93, 2) := by decide +kernel
theorem d_Md_minds_64 : decode m_Md_minds.2.1 64 = .ok (.aload_n 0, 1) := by decide +kernel
theorem d_Md_minds_65 : decode m_Md_minds.2.1 65 = .ok (.getfield 226, 3) := by decide +kernel
theorem d_Md_minds_68 : decode m_Md_minds.2.1 68 = .ok (.imul, 1) := by decide +kernel
theorem d_Md_minds_69 : decode m_Md_minds.2.1 69 = .ok (.iadd, 1) := by decide +kernel
theorem d_Md_minds_70 : decode m_Md_minds.2.1 70 = .ok (.invokevirtual 270, 3) := by decide +kernel
theorem d_Md_minds_73 : decode m_Md_minds.2.1 73 = .ok (.aload_n 0, 1) := by decide +kernel
theorem d_Md_minds_74 : decode m_Md_minds.2.1 74 = .ok (.dup, 1) := by decide +kernel
theorem d_Md_minds_75 : decode m_Md_minds.2.1 75 = .ok (.getfield 226, 3) := by decide +kernel
theorem d_Md_minds_78 : decode m_Md_minds.2.1 78 = .ok (.iconst 1, 1) := by decide +kernel
theorem d_Md_minds_79 : decode m_Md_minds.2.1 79 = .ok (.iadd, 1) := by decide +kernel
theorem d_Md_minds_80 : decode m_Md_minds.2.1 80 = .ok (.putfield 226, 3) := by decide +kernel
theorem d_Md_minds_83 : decode m_Md_minds.2.1 83 = .ok (.return_, 1) := by decide +kernel
theorem d_Md_leavesOne_0 : decode m_Md_leavesOne.2.1 0 = .ok (.aload_n 0, 1) := by decide +kernel
theorem d_Md_leavesOne_1 : decode m_Md_leavesOne.2.1 1 = .ok (.iload_n 1, 1) := by decide +kernel
theorem d_Md_leavesOne_2 : decode m_Md_leavesOne.2.1 2 = .ok (.iload_n 2, 1) := by decide +kernel
theorem d_Md_leavesOne_3 : decode m_Md_leavesOne.2.1 3 = .ok (.iload_n 3, 1) := by decide +kernel
theorem d_Md_leavesOne_4 : decode m_Md_leavesOne.2.1 4 = .ok (.invokevirtual 232, 3) := by decide +kernel
theorem d_Md_leavesOne_7 : decode m_Md_leavesOne.2.1 7 = .ok (.istore 4, 2) := by decide +kernel
theorem d_Md_leavesOne_9 : decode m_Md_leavesOne.2.1 9 = .ok (.aload_n 0, 1) := by decide +kernel
theorem d_Md_leavesOne_10 : decode m_Md_leavesOne.2.1 10 = .ok (.getfield 7, 3) := by decide +kernel
theorem d_Md_leavesOne_13 : decode m_Md_leavesOne.2.1 13 = .ok (.iload_n 1, 1) := by decide +kernel
theorem d_Md_leavesOne_14 : decode m_Md_leavesOne.2.1 14 = .ok (.bipush 27, 2) := by decide +kernel
theorem d_Md_leavesOne_16 : decode m_Md_leavesOne.2.1 16 = .ok (.iadd, 1) := by decide +kernel
theorem d_Md_leavesOne_17 : decode m_Md_leavesOne.2.1 17 = .ok (.iload_n 3, 1) := by decide +kernel
theorem d_Md_leavesOne_18 : decode m_Md_leavesOne.2.1 18 = .ok (.iadd, 1) := by decide +kernel
theorem d_Md_leavesOne_19 : decode m_Md_leavesOne.2.1 19 = .ok (.dup2, 1) := by decide +kernel
theorem d_Md_leavesOne_20 : decode m_Md_leavesOne.2.1 20 = .ok (.iaload, 1) := by decide +kernel
theorem d_Md_leavesOne_21 : decode m_Md_leavesOne.2.1 21 = .ok (.iconst 1, 1) := by decide +kernel
theorem d_Md_leavesOne_22 : decode m_Md_leavesOne.2.1 22 = .ok (.isub, 1) := by decide +kernel
theorem d_Md_leavesOne_23 : decode m_Md_leavesOne.2.1 23 = .ok (.iastore, 1) := by decide +kernel
theorem d_Md_leavesOne_24 : decode m_Md_leavesOne.2.1 24 = .ok (.iload 4, 2) := by decide +kernel
theorem d_Md_leavesOne_26 : decode m_Md_leavesOne.2.1 26 = .ok (.istore 5, 2) := by decide +kernel
theorem d_Md_leavesOne_28 : decode m_Md_leavesOne.2.1 28 = .ok (.iload 5, 2) := by decide +kernel
theorem d_Md_leavesOne_30 : decode m_Md_leavesOne.2.1 30 = .ok (.aload_n 0, 1) := by decide +kernel
theorem d_Md_leavesOne_31 : decode m_Md_leavesOne.2.1 31 = .ok (.getfield 7, 3) := by decide +kernel
theorem d_Md_leavesOne_34 : decode m_Md_leavesOne.2.1 34 = .ok (.iload_n 1, 1) := by decide +kernel
theorem d_Md_leavesOne_35 : decode m_Md_leavesOne.2.1 35 = .ok (.bipush 27, 2) := by decide +kernel
theorem d_Md_leavesOne_37 : decode m_Md_leavesOne.2.1 37 = .ok (.iadd, 1) := by decide +kernel
theorem d_Md_leavesOne_38 : decode m_Md_leavesOne.2.1 38 = .ok (.iload_n 3, 1) := by decide +kernel
theorem d_Md_leavesOne_39 : decode m_Md_leavesOne.2.1 39 = .ok (.iadd, 1) := by decide +kernel
theorem d_Md_leavesOne_40 : decode m_Md_leavesOne.2.1 40 = .ok (.iaload, 1) := by decide +kernel
theorem d_Md_leavesOne_41 : decode m_Md_leavesOne.2.1 41 = .ok (.if_icmp .ge 45, 3) := by decide +kernel
theorem d_Md_leavesOne_44 : decode m_Md_leavesOne.2.1 44 = .ok (.aload_n 0, 1) := by decide +kernel
theorem d_Md_leavesOne_45 : decode m_Md_leavesOne.2.1 45 = .ok (.getfield 7, 3) := by decide +kernel
theorem d_Md_leavesOne_48 : decode m_Md_leavesOne.2.1 48 = .ok (.iload_n 1, 1) := by decide +kernel
theorem d_Md_leavesOne_49 : decode m_Md_leavesOne.2.1 49 = .ok (.bipush 33, 2) := by decide +kernel
theorem d_Md_leavesOne_51 : decode m_Md_leavesOne.2.1 51 = .ok (.iadd, 1) := by decide +kernel
theorem d_Md_leavesOne_52 : decode m_Md_leavesOne.2.1 52 = .ok (.bipush 10, 2) := by decide +kernel
theorem d_Md_leavesOne_54 : decode m_Md_leavesOne.2.1 54 = .ok (.iload_n 3, 1) := by decide +kernel
theorem d_Md_leavesOne_55 : decode m_Md_leavesOne.2.1 55 = .ok (.imul, 1) := by decide +kernel
theorem d_Md_leavesOne_56 : decode m_Md_leavesOne.2.1 56 = .ok (.iadd, 1) := by decide +kernel
theorem d_Md_leavesOne_57 : decode m_Md_leavesOne.2.1 57 = .ok (.iload 5, 2) := by decide +kernel
theorem d_Md_leavesOne_59 : decode m_Md_leavesOne.2.1 59 = .ok (.iadd, 1) := by decide +kernel
theorem d_Md_leavesOne_60 : decode m_Md_leavesOne.2.1 60 = .ok (.aload_n 0, 1) := by decide +kernel
theorem d_Md_leavesOne_61 : decode m_Md_leavesOne.2.1 61 = .ok (.getfield 7, 3) := by decide +kernel
theorem d_Md_leavesOne_64 : decode m_Md_leavesOne.2.1 64 = .ok (.iload_n 1, 1) := by decide +kernel
theorem d_Md_leavesOne_65 : decode m_Md_leavesOne.2.1 65 = .ok (.bipush 33, 2) := by decide +kernel
theorem d_Md_leavesOne_67 : decode m_Md_leavesOne.2.1 67 = .ok (.iadd, 1) := by decide +kernel
theorem d_Md_leavesOne_68 : decode m_Md_leavesOne.2.1 68 = .ok (.bipush 10, 2) := by decide +kernel
theorem d_Md_leavesOne_70 : decode m_Md_leavesOne.2.1 70 = .ok (.iload_n 3, 1) := by decide +kernel
theorem d_Md_leavesOne_71 : decode m_Md_leavesOne.2.1 71 = .ok (.imul, 1) := by decide +kernel
theorem d_Md_leavesOne_72 : decode m_Md_leavesOne.2.1 72 = .ok (.iadd, 1) := by decide +kernel
theorem d_Md_leavesOne_73 : decode m_Md_leavesOne.2.1 73 = .ok (.iload 5, 2) := by decide +kernel
theorem d_Md_leavesOne_75 : decode m_Md_leavesOne.2.1 75 = .ok (.iadd, 1) := by decide +kernel
theorem d_Md_leavesOne_76 : decode m_Md_leavesOne.2.1 76 = .ok (.iconst 1, 1) := by decide +kernel
theorem d_Md_leavesOne_77 : decode m_Md_leavesOne.2.1 77 = .ok (.iadd, 1) := by decide +kernel
theorem d_Md_leavesOne_78 : decode m_Md_leavesOne.2.1 78 = .ok (.iaload, 1) := by decide +kernel
theorem d_Md_leavesOne_79 : decode m_Md_leavesOne.2.1 79 = .ok (.iastore, 1) := by decide +kernel
theorem d_Md_leavesOne_80 : decode m_Md_leavesOne.2.1 80 = .ok (.iinc 5 1, 3) := by decide +kernel
theorem d_Md_leavesOne_83 : decode m_Md_leavesOne.2.1 83 = .ok (.goto (-55), 3) := by decide +kernel
theorem d_Md_leavesOne_86 : decode m_Md_leavesOne.2.1 86 = .ok (.aload_n 0, 1) := by decide +kernel
theorem d_Md_leavesOne_87 : decode m_Md_leavesOne.2.1 87 = .ok (.getfield 7, 3) := by decide +kernel
theorem d_Md_leavesOne_90 : decode m_Md_leavesOne.2.1 90 = .ok (.iload_n 1, 1) := by decide +kernel
theorem d_Md_leavesOne_91 : decode m_Md_leavesOne.2.1 91 = .ok (.bipush 33, 2) := by decide +kernel
theorem d_Md_leavesOne_93 : decode m_Md_leavesOne.2.1 93 = .ok (.iadd, 1) := by decide +kernel
theorem d_Md_leavesOne_94 : decode m_Md_leavesOne.2.1 94 = .ok (.bipush 10, 2) := by decide +kernel
theorem d_Md_leavesOne_96 : decode m_Md_leavesOne.2.1 96 = .ok (.iload_n 3, 1) := by decide +kernel
theorem d_Md_leavesOne_97 : decode m_Md_leavesOne.2.1 97 = .ok (.imul, 1) := by decide +kernel
theorem d_Md_leavesOne_98 : decode m_Md_leavesOne.2.1 98 = .ok (.iadd, 1) := by decide +kernel
theorem d_Md_leavesOne_99 : decode m_Md_leavesOne.2.1 99 = .ok (.aload_n 0, 1) := by decide +kernel
theorem d_Md_leavesOne_100 : decode m_Md_leavesOne.2.1 100 = .ok (.getfield 7, 3) := by decide +kernel
theorem d_Md_leavesOne_103 : decode m_Md_leavesOne.2.1 103 = .ok (.iload_n 1, 1) := by decide +kernel
theorem d_Md_leavesOne_104 : decode m_Md_leavesOne.2.1 104 = .ok (.bipush 27, 2) := by decide +kernel
theorem d_Md_leavesOne_106 : decode m_Md_leavesOne.2.1 106 = .ok (.iadd, 1) := by decide +kernel
theorem d_Md_leavesOne_107 : decode m_Md_leavesOne.2.1 107 = .ok (.iload_n 3, 1) := by decide +kernel
theorem d_Md_leavesOne_108 : decode m_Md_leavesOne.2.1 108 = .ok (.iadd, 1) := by decide +kernel
theorem d_Md_leavesOne_109 : decode m_Md_leavesOne.2.1 109 = .ok (.iaload, 1) := by decide +kernel
theorem d_Md_leavesOne_110 : decode m_Md_leavesOne.2.1 110 = .ok (.iadd, 1) := by decide +kernel
theorem d_Md_leavesOne_111 : decode m_Md_leavesOne.2.1 111 = .ok (.iconst 0, 1) := by decide +kernel
theorem d_Md_leavesOne_112 : decode m_Md_leavesOne.2.1 112 = .ok (.iastore, 1) := by decide +kernel
theorem d_Md_leavesOne_113 : decode m_Md_leavesOne.2.1 113 = .ok (.return_, 1) := by decide +kernel
theorem d_Md_ahead_0 : decode m_Md_ahead.2.1 0 = .ok (.aload_n 0, 1) := by decide +kernel
theorem d_Md_ahead_1 : decode m_Md_ahead.2.1 1 = .ok (.iload_n 1, 1) := by decide +kernel
theorem d_Md_ahead_2 : decode m_Md_ahead.2.1 2 = .ok (.invokevirtual 259, 3) := by decide +kernel
theorem d_Md_ahead_5 : decode m_Md_ahead.2.1 5 = .ok (.ifCond .ne 6, 3) := by decide +kernel
theorem d_Md_ahead_8 : decode m_Md_ahead.2.1 8 = .ok (.bipush (-2), 2) := by decide +kernel
theorem d_Md_ahead_10 : decode m_Md_ahead.2.1 10 = .ok (.ireturn, 1) := by decide +kernel
theorem d_Md_ahead_11 : decode m_Md_ahead.2.1 11 = .ok (.aload_n 0, 1) := by decide +kernel
theorem d_Md_ahead_12 : decode m_Md_ahead.2.1 12 = .ok (.iconst 0, 1) := by decide +kernel
theorem d_Md_ahead_13 : decode m_Md_ahead.2.1 13 = .ok (.iload_n 1, 1) := by decide +kernel
theorem d_Md_ahead_14 : decode m_Md_ahead.2.1 14 = .ok (.invokevirtual 262, 3) := by decide +kernel
theorem d_Md_ahead_17 : decode m_Md_ahead.2.1 17 = .ok (.istore_n 2, 1) := by decide +kernel
theorem d_Md_ahead_18 : decode m_Md_ahead.2.1 18 = .ok (.iload_n 2, 1) := by decide +kernel
theorem d_Md_ahead_19 : decode m_Md_ahead.2.1 19 = .ok (.ifCond .lt 13, 3) := by decide +kernel
theorem d_Md_ahead_22 : decode m_Md_ahead.2.1 22 = .ok (.aload_n 0, 1) := by decide +kernel
theorem d_Md_ahead_23 : decode m_Md_ahead.2.1 23 = .ok (.iconst 0, 1) := by decide +kernel
theorem d_Md_ahead_24 : decode m_Md_ahead.2.1 24 = .ok (.iload_n 1, 1) := by decide +kernel
theorem d_Md_ahead_25 : decode m_Md_ahead.2.1 25 = .ok (.iload_n 2, 1) := by decide +kernel
theorem d_Md_ahead_26 : decode m_Md_ahead.2.1 26 = .ok (.invokevirtual 232, 3) := by decide +kernel
theorem d_Md_ahead_29 : decode m_Md_ahead.2.1 29 = .ok (.ifCond .ne 6, 3) := by decide +kernel
theorem d_Md_ahead_32 : decode m_Md_ahead.2.1 32 = .ok (.bipush (-4), 2) := by decide +kernel
theorem d_Md_ahead_34 : decode m_Md_ahead.2.1 34 = .ok (.ireturn, 1) := by decide +kernel
theorem d_Md_ahead_35 : decode m_Md_ahead.2.1 35 = .ok (.aload_n 0, 1) := by decide +kernel
theorem d_Md_ahead_36 : decode m_Md_ahead.2.1 36 = .ok (.invokevirtual 275, 3) := by decide +kernel
theorem d_Md_ahead_39 : decode m_Md_ahead.2.1 39 = .ok (.aload_n 0, 1) := by decide +kernel
theorem d_Md_ahead_40 : decode m_Md_ahead.2.1 40 = .ok (.iconst 0, 1) := by decide +kernel
theorem d_Md_ahead_41 : decode m_Md_ahead.2.1 41 = .ok (.iload_n 1, 1) := by decide +kernel
theorem d_Md_ahead_42 : decode m_Md_ahead.2.1 42 = .ok (.iload_n 2, 1) := by decide +kernel
theorem d_Md_ahead_43 : decode m_Md_ahead.2.1 43 = .ok (.invokevirtual 232, 3) := by decide +kernel
theorem d_Md_ahead_46 : decode m_Md_ahead.2.1 46 = .ok (.istore_n 3, 1) := by decide +kernel
theorem d_Md_ahead_47 : decode m_Md_ahead.2.1 47 = .ok (.iload_n 3, 1) := by decide +kernel
theorem d_Md_ahead_48 : decode m_Md_ahead.2.1 48 = .ok (.istore 4, 2) := by decide +kernel
theorem d_Md_ahead_50 : decode m_Md_ahead.2.1 50 = .ok (.iload 4, 2) := by decide +kernel
theorem d_Md_ahead_52 : decode m_Md_ahead.2.1 52 = .ok (.ifCond .le 41, 3) := by decide +kernel
theorem d_Md_ahead_55 : decode m_Md_ahead.2.1 55 = .ok (.aload_n 0, 1) := by decide +kernel
theorem d_Md_ahead_56 : decode m_Md_ahead.2.1 56 = .ok (.getfield 7, 3) := by decide +kernel
theorem d_Md_ahead_59 : decode m_Md_ahead.2.1 59 = .ok (.bipush 33, 2) := by decide +kernel
theorem d_Md_ahead_61 : decode m_Md_ahead.2.1 61 = .ok (.bipush 10, 2) := by decide +kernel
theorem d_Md_ahead_63 : decode m_Md_ahead.2.1 63 = .ok (.iload_n 2, 1) := by decide +kernel
theorem d_Md_ahead_64 : decode m_Md_ahead.2.1 64 = .ok (.imul, 1) := by decide +kernel
theorem d_Md_ahead_65 : decode m_Md_ahead.2.1 65 = .ok (.iadd, 1) := by decide +kernel
theorem d_Md_ahead_66 : decode m_Md_ahead.2.1 66 = .ok (.iload 4, 2) := by decide +kernel
theorem d_Md_ahead_68 : decode m_Md_ahead.2.1 68 = .ok (.iadd, 1) := by decide +kernel
theorem d_Md_ahead_69 : decode m_Md_ahead.2.1 69 = .ok (.aload_n 0, 1) := by decide +kernel
theorem d_Md_ahead_70 : decode m_Md_ahead.2.1 70 = .ok (.getfield 7, 3) := by decide +kernel
theorem d_Md_ahead_73 : decode m_Md_ahead.2.1 73 = .ok (.bipush 33, 2) := by decide +kernel
theorem d_Md_ahead_75 : decode m_Md_ahead.2.1 75 = .ok (.bipush 10, 2) := by decide +kernel
theorem d_Md_ahead_77 : decode m_Md_ahead.2.1 77 = .ok (.iload_n 2, 1) := by decide +kernel
theorem d_Md_ahead_78 : decode m_Md_ahead.2.1 78 = .ok (.imul, 1) := by decide +kernel
theorem d_Md_ahead_79 : decode m_Md_ahead.2.1 79 = .ok (.iadd, 1) := by decide +kernel
theorem d_Md_ahead_80 : decode m_Md_ahead.2.1 80 = .ok (.iload 4, 2) := by decide +kernel
theorem d_Md_ahead_82 : decode m_Md_ahead.2.1 82 = .ok (.iadd, 1) := by decide +kernel
theorem d_Md_ahead_83 : decode m_Md_ahead.2.1 83 = .ok (.iconst 1, 1) := by decide +kernel
theorem d_Md_ahead_84 : decode m_Md_ahead.2.1 84 = .ok (.isub, 1) := by decide +kernel
theorem d_Md_ahead_85 : decode m_Md_ahead.2.1 85 = .ok (.iaload, 1) := by decide +kernel
theorem d_Md_ahead_86 : decode m_Md_ahead.2.1 86 = .ok (.iastore, 1) := by decide +kernel
theorem d_Md_ahead_87 : decode m_Md_ahead.2.1 87 = .ok (.iinc 4 (-1), 3) := by decide +kernel
theorem d_Md_ahead_90 : decode m_Md_ahead.2.1 90 = .ok (.goto (-40), 3) := by decide +kernel
theorem d_Md_ahead_93 : decode m_Md_ahead.2.1 93 = .ok (.aload_n 0, 1) := by decide +kernel
theorem d_Md_ahead_94 : decode m_Md_ahead.2.1 94 = .ok (.getfield 7, 3) := by decide +kernel
theorem d_Md_ahead_97 : decode m_Md_ahead.2.1 97 = .ok (.bipush 33, 2) := by decide +kernel
theorem d_Md_ahead_99 : decode m_Md_ahead.2.1 99 = .ok (.bipush 10, 2) := by decide +kernel
theorem d_Md_ahead_101 : decode m_Md_ahead.2.1 101 = .ok (.iload_n 2, 1) := by decide +kernel
theorem d_Md_ahead_102 : decode m_Md_ahead.2.1 102 = .ok (.imul, 1) := by decide +kernel
theorem d_Md_ahead_103 : decode m_Md_ahead.2.1 103 = .ok (.iadd, 1) := by decide +kernel
theorem d_Md_ahead_104 : decode m_Md_ahead.2.1 104 = .ok (.iload_n 1, 1) := by decide +kernel
theorem d_Md_ahead_105 : decode m_Md_ahead.2.1 105 = .ok (.iastore, 1) := by decide +kernel
theorem d_Md_ahead_106 : decode m_Md_ahead.2.1 106 = .ok (.iload_n 3, 1) := by decide +kernel
theorem d_Md_ahead_107 : decode m_Md_ahead.2.1 107 = .ok (.ireturn, 1) := by decide +kernel
theorem d_Md_behind_0 : decode m_Md_behind.2.1 0 = .ok (.aload_n 0, 1) := by decide +kernel
theorem d_Md_behind_1 : decode m_Md_behind.2.1 1 = .ok (.iload_n 1, 1) := by decide +kernel
theorem d_Md_behind_2 : decode m_Md_behind.2.1 2 = .ok (.invokevirtual 259, 3) := by decide +kernel
theorem d_Md_behind_5 : decode m_Md_behind.2.1 5 = .ok (.ifCond .ne 6, 3) := by decide +kernel
theorem d_Md_behind_8 : decode m_Md_behind.2.1 8 = .ok (.bipush (-2), 2) := by decide +kernel
theorem d_Md_behind_10 : decode m_Md_behind.2.1 10 = .ok (.ireturn, 1) := by decide +kernel
theorem d_Md_behind_11 : decode m_Md_behind.2.1 11 = .ok (.iload_n 2, 1) := by decide +kernel
theorem d_Md_behind_12 : decode m_Md_behind.2.1 12 = .ok (.i2l, 1) := by decide +kernel
theorem d_Md_behind_13 : decode m_Md_behind.2.1 13 = .ok (.lconst 0, 1) := by decide +kernel
theorem d_Md_behind_14 : decode m_Md_behind.2.1 14 = .ok (.ldc2_w 282, 3) := by decide +kernel
theorem d_Md_behind_17 : decode m_Md_behind.2.1 17 = .ok (.invokestatic 111, 3) := by decide +kernel
theorem d_Md_behind_20 : decode m_Md_behind.2.1 20 = .ok (.ifCond .eq 13, 3) := by decide +kernel
theorem d_Md_behind_23 : decode m_Md_behind.2.1 23 = .ok (.iload_n 3, 1) := by decide +kernel
theorem d_Md_behind_24 : decode m_Md_behind.2.1 24 = .ok (.i2l, 1) := by decide +kernel
theorem d_Md_behind_25 : decode m_Md_behind.2.1 25 = .ok (.lconst 0, 1) := by decide +kernel
theorem d_Md_behind_26 : decode m_Md_behind.2.1 26 = .ok (.lconst 1, 1) := by decide +kernel
theorem d_Md_behind_27 : decode m_Md_behind.2.1 27 = .ok (.invokestatic 111, 3) := by decide +kernel
theorem d_Md_behind_30 : decode m_Md_behind.2.1 30 = .ok (.ifCond .ne 6, 3) := by decide +kernel
theorem d_Md_behind_33 : decode m_Md_behind.2.1 33 = .ok (.bipush (-3), 2) := by decide +kernel
theorem d_Md_behind_35 : decode m_Md_behind.2.1 35 = .ok (.ireturn, 1) := by decide +kernel
theorem d_Md_behind_36 : decode m_Md_behind.2.1 36 = .ok (.aload_n 0, 1) := by decide +kernel
theorem d_Md_behind_37 : decode m_Md_behind.2.1 37 = .ok (.invokevirtual 284, 3) := by decide +kernel
theorem d_Md_behind_40 : decode m_Md_behind.2.1 40 = .ok (.aload_n 0, 1) := by decide +kernel
theorem d_Md_behind_41 : decode m_Md_behind.2.1 41 = .ok (.iload_n 2, 1) := by decide +kernel
theorem d_Md_behind_42 : decode m_Md_behind.2.1 42 = .ok (.invokevirtual 287, 3) := by decide +kernel
theorem d_Md_behind_45 : decode m_Md_behind.2.1 45 = .ok (.iload_n 3, 1) := by decide +kernel
theorem d_Md_behind_46 : decode m_Md_behind.2.1 46 = .ok (.ifCond .ne 15, 3) := by decide +kernel
theorem d_Md_behind_49 : decode m_Md_behind.2.1 49 = .ok (.aload_n 0, 1) := by decide +kernel
theorem d_Md_behind_50 : decode m_Md_behind.2.1 50 = .ok (.getfield 7, 3) := by decide +kernel
theorem d_Md_behind_53 : decode m_Md_behind.2.1 53 = .ok (.bipush 109, 2) := by decide +kernel
theorem d_Md_behind_55 : decode m_Md_behind.2.1 55 = .ok (.iload_n 1, 1) := by decide +kernel
theorem d_Md_behind_56 : decode m_Md_behind.2.1 56 = .ok (.iadd, 1) := by decide +kernel
theorem d_Md_behind_57 : decode m_Md_behind.2.1 57 = .ok (.iaload, 1) := by decide +kernel
theorem d_Md_behind_58 : decode m_Md_behind.2.1 58 = .ok (.goto 10, 3) := by decide +kernel
theorem d_Md_behind_61 : decode m_Md_behind.2.1 61 = .ok (.aload_n 0, 1) := by decide +kernel
theorem d_Md_behind_62 : decode m_Md_behind.2.1 62 = .ok (.bipush 93, 2) := by decide +kernel
theorem d_Md_behind_64 : decode m_Md_behind.2.1 64 = .ok (.iload_n 1, 1) := by decide +kernel
theorem d_Md_behind_65 : decode m_Md_behind.2.1 65 = .ok (.invokevirtual 262, 3) := by decide +kernel
theorem d_Md_behind_68 : decode m_Md_behind.2.1 68 = .ok (.ireturn, 1) := by decide +kernel
theorem d_Md_just_0 : decode m_Md_just.2.1 0 = .ok (.aload_n 0, 1) := by decide +kernel
theorem d_Md_just_1 : decode m_Md_just.2.1 1 = .ok (.iload_n 1, 1) := by decide +kernel
theorem d_Md_just_2 : decode m_Md_just.2.1 2 = .ok (.invokevirtual 256, 3) := by decide +kernel
theorem d_Md_just_5 : decode m_Md_just.2.1 5 = .ok (.ifCond .ne 6, 3) := by decide +kernel
theorem d_Md_just_8 : decode m_Md_just.2.1 8 = .ok (.bipush (-2), 2) := by decide +kernel
theorem d_Md_just_10 : decode m_Md_just.2.1 10 = .ok (.ireturn, 1) := by decide +kernel
theorem d_Md_just_11 : decode m_Md_just.2.1 11 = .ok (.aload_n 0, 1) := by decide +kernel
theorem d_Md_just_12 : decode m_Md_just.2.1 12 = .ok (.invokevirtual 284, 3) := by decide +kernel
theorem d_Md_just_15 : decode m_Md_just.2.1 15 = .ok (.iconst 0, 1) := by decide +kernel
theorem d_Md_just_16 : decode m_Md_just.2.1 16 = .ok (.istore_n 2, 1) := by decide +kernel
theorem d_Md_just_17 : decode m_Md_just.2.1 17 = .ok (.iload_n 2, 1) := by decide +kernel
theorem d_Md_just_18 : decode m_Md_just.2.1 18 = .ok (.bipush 60, 2) := by decide +kernel
theorem d_Md_just_20 : decode m_Md_just.2.1 20 = .ok (.if_icmp .gt 41, 3) := by decide +kernel
theorem d_Md_just_23 : decode m_Md_just.2.1 23 = .ok (.aload_n 0, 1) := by decide +kernel
theorem d_Md_just_24 : decode m_Md_just.2.1 24 = .ok (.getfield 7, 3) := by decide +kernel
theorem d_Md_just_27 : decode m_Md_just.2.1 27 = .ok (.bipush 120, 2) := by decide +kernel
theorem d_Md_just_29 : decode m_Md_just.2.1 29 = .ok (.iload_n 1, 1) := by decide +kernel
theorem d_Md_just_30 : decode m_Md_just.2.1 30 = .ok (.iadd, 1) := by decide +kernel
theorem d_Md_just_31 : decode m_Md_just.2.1 31 = .ok (.iaload, 1) := by decide +kernel
theorem d_Md_just_32 : decode m_Md_just.2.1 32 = .ok (.ifCond .ne 17, 3) := by decide +kernel
theorem d_Md_just_35 : decode m_Md_just.2.1 35 = .ok (.aload_n 0, 1) := by decide +kernel
theorem d_Md_just_36 : decode m_Md_just.2.1 36 = .ok (.getfield 7, 3) := by decide +kernel
theorem d_Md_just_39 : decode m_Md_just.2.1 39 = .ok (.bipush 94, 2) := by decide +kernel
theorem d_Md_just_41 : decode m_Md_just.2.1 41 = .ok (.iload_n 1, 1) := by decide +kernel
theorem d_Md_just_42 : decode m_Md_just.2.1 42 = .ok (.iadd, 1) := by decide +kernel
theorem d_Md_just_43 : decode m_Md_just.2.1 43 = .ok (.iaload, 1) := by decide +kernel
theorem d_Md_just_44 : decode m_Md_just.2.1 44 = .ok (.ifCond .le 5, 3) := by decide +kernel
theorem d_Md_just_47 : decode m_Md_just.2.1 47 = .ok (.iload_n 2, 1) := by decide +kernel
theorem d_Md_just_48 : decode m_Md_just.2.1 48 = .ok (.ireturn, 1) := by decide +kernel
theorem d_Md_just_49 : decode m_Md_just.2.1 49 = .ok (.aload_n 0, 1) := by decide +kernel
theorem d_Md_just_50 : decode m_Md_just.2.1 50 = .ok (.bipush 93, 2) := by decide +kernel
theorem d_Md_just_52 : decode m_Md_just.2.1 52 = .ok (.invokevirtual 278, 3) := by decide +kernel
theorem d_Md_just_55 : decode m_Md_just.2.1 55 = .ok (.iinc 2 1, 3) := by decide +kernel
theorem d_Md_just_58 : decode m_Md_just.2.1 58 = .ok (.goto (-41), 3) := by decide +kernel
theorem d_Md_just_61 : decode m_Md_just.2.1 61 = .ok (.iconst (-1), 1) := by decide +kernel
theorem d_Md_just_62 : decode m_Md_just.2.1 62 = .ok (.ireturn, 1) := by decide +kernel
theorem d_Md_ones_0 : decode m_Md_ones.2.1 0 = .ok (.iconst 0, 1) := by decide +kernel
theorem d_Md_ones_1 : decode m_Md_ones.2.1 1 = .ok (.istore_n 1, 1) := by decide +kernel
theorem d_Md_ones_2 : decode m_Md_ones.2.1 2 = .ok (.iconst 0, 1) := by decide +kernel
theorem d_Md_ones_3 : decode m_Md_ones.2.1 3 = .ok (.istore_n 2, 1) := by decide +kernel
theorem d_Md_ones_4 : decode m_Md_ones.2.1 4 = .ok (.iload_n 2, 1) := by decide +kernel
theorem d_Md_ones_5 : decode m_Md_ones.2.1 5 = .ok (.bipush 10, 2) := by decide +kernel
theorem d_Md_ones_7 : decode m_Md_ones.2.1 7 = .ok (.if_icmp .ge 17, 3) := by decide +kernel
theorem d_Md_ones_10 : decode m_Md_ones.2.1 10 = .ok (.iload_n 1, 1) := by decide +kernel
theorem d_Md_ones_11 : decode m_Md_ones.2.1 11 = .ok (.iload_n 0, 1) := by decide +kernel
theorem d_Md_ones_12 : decode m_Md_ones.2.1 12 = .ok (.iload_n 2, 1) := by decide +kernel
theorem d_Md_ones_13 : decode m_Md_ones.2.1 13 = .ok (.ishr, 1) := by decide +kernel
theorem d_Md_ones_14 : decode m_Md_ones.2.1 14 = .ok (.iconst 1, 1) := by decide +kernel
theorem d_Md_ones_15 : decode m_Md_ones.2.1 15 = .ok (.iand, 1) := by decide +kernel
theorem d_Md_ones_16 : decode m_Md_ones.2.1 16 = .ok (.iadd, 1) := by decide +kernel
theorem d_Md_ones_17 : decode m_Md_ones.2.1 17 = .ok (.istore_n 1, 1) := by decide +kernel
theorem d_Md_ones_18 : decode m_Md_ones.2.1 18 = .ok (.iinc 2 1, 3) := by decide +kernel
theorem d_Md_ones_21 : decode m_Md_ones.2.1 21 = .ok (.goto (-17), 3) := by decide +kernel
theorem d_Md_ones_24 : decode m_Md_ones.2.1 24 = .ok (.iload_n 1, 1) := by decide +kernel
theorem d_Md_ones_25 : decode m_Md_ones.2.1 25 = .ok (.ireturn, 1) := by decide +kernel
theorem d_Md_seen_0 : decode m_Md_seen.2.1 0 = .ok (.iload_n 1, 1) := by decide +kernel
theorem d_Md_seen_1 : decode m_Md_seen.2.1 1 = .ok (.i2l, 1) := by decide +kernel
theorem d_Md_seen_2 : decode m_Md_seen.2.1 2 = .ok (.lconst 1, 1) := by decide +kernel
theorem d_Md_seen_3 : decode m_Md_seen.2.1 3 = .ok (.ldc2_w 302, 3) := by decide +kernel
theorem d_Md_seen_6 : decode m_Md_seen.2.1 6 = .ok (.invokestatic 111, 3) := by decide +kernel
theorem d_Md_seen_9 : decode m_Md_seen.2.1 9 = .ok (.ifCond .eq 27, 3) := by decide +kernel
theorem d_Md_seen_12 : decode m_Md_seen.2.1 12 = .ok (.iload_n 2, 1) := by decide +kernel
theorem d_Md_seen_13 : decode m_Md_seen.2.1 13 = .ok (.i2l, 1) := by decide +kernel
theorem d_Md_seen_14 : decode m_Md_seen.2.1 14 = .ok (.lconst 1, 1) := by decide +kernel
theorem d_Md_seen_15 : decode m_Md_seen.2.1 15 = .ok (.ldc2_w 302, 3) := by decide +kernel
theorem d_Md_seen_18 : decode m_Md_seen.2.1 18 = .ok (.invokestatic 111, 3) := by decide +kernel
theorem d_Md_seen_21 : decode m_Md_seen.2.1 21 = .ok (.ifCond .eq 15, 3) := by decide +kernel
theorem d_Md_seen_24 : decode m_Md_seen.2.1 24 = .ok (.iload_n 3, 1) := by decide +kernel
theorem d_Md_seen_25 : decode m_Md_seen.2.1 25 = .ok (.i2l, 1) := by decide +kernel
theorem d_Md_seen_26 : decode m_Md_seen.2.1 26 = .ok (.lconst 0, 1) := by decide +kernel
theorem d_Md_seen_27 : decode m_Md_seen.2.1 27 = .ok (.ldc2_w 306, 3) := by decide +kernel
theorem d_Md_seen_30 : decode m_Md_seen.2.1 30 = .ok (.invokestatic 111, 3) := by decide +kernel
theorem d_Md_seen_33 : decode m_Md_seen.2.1 33 = .ok (.ifCond .ne 6, 3) := by decide +kernel
theorem d_Md_seen_36 : decode m_Md_seen.2.1 36 = .ok (.bipush (-3), 2) := by decide +kernel
theorem d_Md_seen_38 : decode m_Md_seen.2.1 38 = .ok (.ireturn, 1) := by decide +kernel
theorem d_Md_seen_39 : decode m_Md_seen.2.1 39 = .ok (.aload_n 0, 1) := by decide +kernel
theorem d_Md_seen_40 : decode m_Md_seen.2.1 40 = .ok (.getfield 229, 3) := by decide +kernel
theorem d_Md_seen_43 : decode m_Md_seen.2.1 43 = .ok (.bipush 6, 2) := by decide +kernel
theorem d_Md_seen_45 : decode m_Md_seen.2.1 45 = .ok (.if_icmp .ne 6, 3) := by decide +kernel
theorem d_Md_seen_48 : decode m_Md_seen.2.1 48 = .ok (.bipush (-5), 2) := by decide +kernel
theorem d_Md_seen_50 : decode m_Md_seen.2.1 50 = .ok (.ireturn, 1) := by decide +kernel
theorem d_Md_seen_51 : decode m_Md_seen.2.1 51 = .ok (.aload_n 0, 1) := by decide +kernel
theorem d_Md_seen_52 : decode m_Md_seen.2.1 52 = .ok (.getfield 83, 3) := by decide +kernel
theorem d_Md_seen_55 : decode m_Md_seen.2.1 55 = .ok (.aload_n 0, 1) := by decide +kernel
theorem d_Md_seen_56 : decode m_Md_seen.2.1 56 = .ok (.getfield 229, 3) := by decide +kernel
theorem d_Md_seen_59 : decode m_Md_seen.2.1 59 = .ok (.iload_n 1, 1) := by decide +kernel
theorem d_Md_seen_60 : decode m_Md_seen.2.1 60 = .ok (.iastore, 1) := by decide +kernel
theorem d_Md_seen_61 : decode m_Md_seen.2.1 61 = .ok (.aload_n 0, 1) := by decide +kernel
theorem d_Md_seen_62 : decode m_Md_seen.2.1 62 = .ok (.getfield 86, 3) := by decide +kernel
theorem d_Md_seen_65 : decode m_Md_seen.2.1 65 = .ok (.aload_n 0, 1) := by decide +kernel
theorem d_Md_seen_66 : decode m_Md_seen.2.1 66 = .ok (.getfield 229, 3) := by decide +kernel
theorem d_Md_seen_69 : decode m_Md_seen.2.1 69 = .ok (.iload_n 2, 1) := by decide +kernel
theorem d_Md_seen_70 : decode m_Md_seen.2.1 70 = .ok (.iastore, 1) := by decide +kernel
theorem d_Md_seen_71 : decode m_Md_seen.2.1 71 = .ok (.aload_n 0, 1) := by decide +kernel
theorem d_Md_seen_72 : decode m_Md_seen.2.1 72 = .ok (.getfield 89, 3) := by decide +kernel
theorem d_Md_seen_75 : decode m_Md_seen.2.1 75 = .ok (.aload_n 0, 1) := by decide +kernel
theorem d_Md_seen_76 : decode m_Md_seen.2.1 76 = .ok (.getfield 229, 3) := by decide +kernel
theorem d_Md_seen_79 : decode m_Md_seen.2.1 79 = .ok (.iload_n 3, 1) := by decide +kernel
theorem d_Md_seen_80 : decode m_Md_seen.2.1 80 = .ok (.iastore, 1) := by decide +kernel
theorem d_Md_seen_81 : decode m_Md_seen.2.1 81 = .ok (.aload_n 0, 1) := by decide +kernel
theorem d_Md_seen_82 : decode m_Md_seen.2.1 82 = .ok (.dup, 1) := by decide +kernel
theorem d_Md_seen_83 : decode m_Md_seen.2.1 83 = .ok (.getfield 229, 3) := by decide +kernel
theorem d_Md_seen_86 : decode m_Md_seen.2.1 86 = .ok (.iconst 1, 1) := by decide +kernel
theorem d_Md_seen_87 : decode m_Md_seen.2.1 87 = .ok (.iadd, 1) := by decide +kernel
theorem d_Md_seen_88 : decode m_Md_seen.2.1 88 = .ok (.putfield 229, 3) := by decide +kernel
theorem d_Md_seen_91 : decode m_Md_seen.2.1 91 = .ok (.aload_n 0, 1) := by decide +kernel
theorem d_Md_seen_92 : decode m_Md_seen.2.1 92 = .ok (.getfield 229, 3) := by decide +kernel
theorem d_Md_seen_95 : decode m_Md_seen.2.1 95 = .ok (.ireturn, 1) := by decide +kernel
theorem d_Md_register_0 : decode m_Md_register.2.1 0 = .ok (.iload_n 1, 1) := by decide +kernel
theorem d_Md_register_1 : decode m_Md_register.2.1 1 = .ok (.invokestatic 311, 3) := by decide +kernel
theorem d_Md_register_4 : decode m_Md_register.2.1 4 = .ok (.ifCond .ne 6, 3) := by decide +kernel
theorem d_Md_register_7 : decode m_Md_register.2.1 7 = .ok (.bipush (-2), 2) := by decide +kernel
theorem d_Md_register_9 : decode m_Md_register.2.1 9 = .ok (.ireturn, 1) := by decide +kernel
theorem d_Md_register_10 : decode m_Md_register.2.1 10 = .ok (.iload_n 2, 1) := by decide +kernel
theorem d_Md_register_11 : decode m_Md_register.2.1 11 = .ok (.iconst 5, 1) := by decide +kernel
theorem d_Md_register_12 : decode m_Md_register.2.1 12 = .ok (.if_icmp .le 6, 3) := by decide +kernel
theorem d_Md_register_15 : decode m_Md_register.2.1 15 = .ok (.bipush (-3), 2) := by decide +kernel
theorem d_Md_register_17 : decode m_Md_register.2.1 17 = .ok (.ireturn, 1) := by decide +kernel
theorem d_Md_register_18 : decode m_Md_register.2.1 18 = .ok (.iload_n 2, 1) := by decide +kernel
theorem d_Md_register_19 : decode m_Md_register.2.1 19 = .ok (.ifCond .ge 6, 3) := by decide +kernel
theorem d_Md_register_22 : decode m_Md_register.2.1 22 = .ok (.bipush (-17), 2) := by decide +kernel
theorem d_Md_register_24 : decode m_Md_register.2.1 24 = .ok (.ireturn, 1) := by decide +kernel
theorem d_Md_register_25 : decode m_Md_register.2.1 25 = .ok (.aload_n 0, 1) := by decide +kernel
theorem d_Md_register_26 : decode m_Md_register.2.1 26 = .ok (.getfield 92, 3) := by decide +kernel
theorem d_Md_register_29 : decode m_Md_register.2.1 29 = .ok (.iload_n 1, 1) := by decide +kernel
theorem d_Md_register_30 : decode m_Md_register.2.1 30 = .ok (.iload_n 2, 1) := by decide +kernel
theorem d_Md_register_31 : decode m_Md_register.2.1 31 = .ok (.iastore, 1) := by decide +kernel
theorem d_Md_register_32 : decode m_Md_register.2.1 32 = .ok (.iconst 0, 1) := by decide +kernel
theorem d_Md_register_33 : decode m_Md_register.2.1 33 = .ok (.istore_n 3, 1) := by decide +kernel
theorem d_Md_register_34 : decode m_Md_register.2.1 34 = .ok (.iload_n 3, 1) := by decide +kernel
theorem d_Md_register_35 : decode m_Md_register.2.1 35 = .ok (.iconst 5, 1) := by decide +kernel
theorem d_Md_register_36 : decode m_Md_register.2.1 36 = .ok (.if_icmp .ge 20, 3) := by decide +kernel
theorem d_Md_register_39 : decode m_Md_register.2.1 39 = .ok (.aload_n 0, 1) := by decide +kernel
theorem d_Md_register_40 : decode m_Md_register.2.1 40 = .ok (.getfield 95, 3) := by decide +kernel
theorem d_Md_register_43 : decode m_Md_register.2.1 43 = .ok (.iconst 5, 1) := by decide +kernel
theorem d_Md_register_44 : decode m_Md_register.2.1 44 = .ok (.iload_n 1, 1) := by decide +kernel
theorem d_Md_register_45 : decode m_Md_register.2.1 45 = .ok (.imul, 1) := by decide +kernel
theorem d_Md_register_46 : decode m_Md_register.2.1 46 = .ok (.iload_n 3, 1) := by decide +kernel
theorem d_Md_register_47 : decode m_Md_register.2.1 47 = .ok (.iadd, 1) := by decide +kernel
theorem d_Md_register_48 : decode m_Md_register.2.1 48 = .ok (.iconst (-1), 1) := by decide +kernel
theorem d_Md_register_49 : decode m_Md_register.2.1 49 = .ok (.iastore, 1) := by decide +kernel
theorem d_Md_register_50 : decode m_Md_register.2.1 50 = .ok (.iinc 3 1, 3) := by decide +kernel
theorem d_Md_register_53 : decode m_Md_register.2.1 53 = .ok (.goto (-19), 3) := by decide +kernel
theorem d_Md_register_56 : decode m_Md_register.2.1 56 = .ok (.iload_n 2, 1) := by decide +kernel
theorem d_Md_register_57 : decode m_Md_register.2.1 57 = .ok (.ireturn, 1) := by decide +kernel
theorem d_Md_bind_0 : decode m_Md_bind.2.1 0 = .ok (.aload_n 0, 1) := by decide +kernel
theorem d_Md_bind_1 : decode m_Md_bind.2.1 1 = .ok (.iload_n 1, 1) := by decide +kernel
theorem d_Md_bind_2 : decode m_Md_bind.2.1 2 = .ok (.iload_n 2, 1) := by decide +kernel
theorem d_Md_bind_3 : decode m_Md_bind.2.1 3 = .ok (.iload_n 3, 1) := by decide +kernel
theorem d_Md_bind_4 : decode m_Md_bind.2.1 4 = .ok (.iload 4, 2) := by decide +kernel
theorem d_Md_bind_6 : decode m_Md_bind.2.1 6 = .ok (.invokevirtual 317, 3) := by decide +kernel
theorem d_Md_bind_9 : decode m_Md_bind.2.1 9 = .ok (.istore 5, 2) := by decide +kernel
theorem d_Md_bind_11 : decode m_Md_bind.2.1 11 = .ok (.iload 5, 2) := by decide +kernel
theorem d_Md_bind_13 : decode m_Md_bind.2.1 13 = .ok (.ifCond .ge 6, 3) := by decide +kernel
theorem d_Md_bind_16 : decode m_Md_bind.2.1 16 = .ok (.iload 5, 2) := by decide +kernel
theorem d_Md_bind_18 : decode m_Md_bind.2.1 18 = .ok (.ireturn, 1) := by decide +kernel
theorem d_Md_bind_19 : decode m_Md_bind.2.1 19 = .ok (.aload_n 0, 1) := by decide +kernel
theorem d_Md_bind_20 : decode m_Md_bind.2.1 20 = .ok (.getfield 95, 3) := by decide +kernel
theorem d_Md_bind_23 : decode m_Md_bind.2.1 23 = .ok (.iconst 5, 1) := by decide +kernel
theorem d_Md_bind_24 : decode m_Md_bind.2.1 24 = .ok (.iload_n 3, 1) := by decide +kernel
theorem d_Md_bind_25 : decode m_Md_bind.2.1 25 = .ok (.imul, 1) := by decide +kernel
theorem d_Md_bind_26 : decode m_Md_bind.2.1 26 = .ok (.iload 4, 2) := by decide +kernel
theorem d_Md_bind_28 : decode m_Md_bind.2.1 28 = .ok (.iadd, 1) := by decide +kernel
theorem d_Md_bind_29 : decode m_Md_bind.2.1 29 = .ok (.aload_n 0, 1) := by decide +kernel
theorem d_Md_bind_30 : decode m_Md_bind.2.1 30 = .ok (.getfield 95, 3) := by decide +kernel
theorem d_Md_bind_33 : decode m_Md_bind.2.1 33 = .ok (.iconst 5, 1) := by decide +kernel
theorem d_Md_bind_34 : decode m_Md_bind.2.1 34 = .ok (.iload_n 1, 1) := by decide +kernel
theorem d_Md_bind_35 : decode m_Md_bind.2.1 35 = .ok (.imul, 1) := by decide +kernel
theorem d_Md_bind_36 : decode m_Md_bind.2.1 36 = .ok (.iload_n 2, 1) := by decide +kernel
theorem d_Md_bind_37 : decode m_Md_bind.2.1 37 = .ok (.iadd, 1) := by decide +kernel
theorem d_Md_bind_38 : decode m_Md_bind.2.1 38 = .ok (.iaload, 1) := by decide +kernel
theorem d_Md_bind_39 : decode m_Md_bind.2.1 39 = .ok (.iastore, 1) := by decide +kernel
theorem d_Md_bind_40 : decode m_Md_bind.2.1 40 = .ok (.iconst 1, 1) := by decide +kernel
theorem d_Md_bind_41 : decode m_Md_bind.2.1 41 = .ok (.ireturn, 1) := by decide +kernel
theorem d_Md_againstLine_0 : decode m_Md_againstLine.2.1 0 = .ok (.aload_n 0, 1) := by decide +kernel
theorem d_Md_againstLine_1 : decode m_Md_againstLine.2.1 1 = .ok (.getfield 92, 3) := by decide +kernel
theorem d_Md_againstLine_4 : decode m_Md_againstLine.2.1 4 = .ok (.iload_n 1, 1) := by decide +kernel
theorem d_Md_againstLine_5 : decode m_Md_againstLine.2.1 5 = .ok (.iaload, 1) := by decide +kernel
theorem d_Md_againstLine_6 : decode m_Md_againstLine.2.1 6 = .ok (.ifCond .ge 6, 3) := by decide +kernel
theorem d_Md_againstLine_9 : decode m_Md_againstLine.2.1 9 = .ok (.bipush (-11), 2) := by decide +kernel
theorem d_Md_againstLine_11 : decode m_Md_againstLine.2.1 11 = .ok (.ireturn, 1) := by decide +kernel
theorem d_Md_againstLine_12 : decode m_Md_againstLine.2.1 12 = .ok (.iload_n 2, 1) := by decide +kernel
theorem d_Md_againstLine_13 : decode m_Md_againstLine.2.1 13 = .ok (.i2l, 1) := by decide +kernel
theorem d_Md_againstLine_14 : decode m_Md_againstLine.2.1 14 = .ok (.lconst 0, 1) := by decide +kernel
theorem d_Md_againstLine_15 : decode m_Md_againstLine.2.1 15 = .ok (.aload_n 0, 1) := by decide +kernel
theorem d_Md_againstLine_16 : decode m_Md_againstLine.2.1 16 = .ok (.getfield 92, 3) := by decide +kernel
theorem d_Md_againstLine_19 : decode m_Md_againstLine.2.1 19 = .ok (.iload_n 1, 1) := by decide +kernel
theorem d_Md_againstLine_20 : decode m_Md_againstLine.2.1 20 = .ok (.iaload, 1) := by decide +kernel
theorem d_Md_againstLine_21 : decode m_Md_againstLine.2.1 21 = .ok (.iconst 1, 1) := by decide +kernel
theorem d_Md_againstLine_22 : decode m_Md_againstLine.2.1 22 = .ok (.isub, 1) := by decide +kernel
theorem d_Md_againstLine_23 : decode m_Md_againstLine.2.1 23 = .ok (.i2l, 1) := by decide +kernel
theorem d_Md_againstLine_24 : decode m_Md_againstLine.2.1 24 = .ok (.invokestatic 111, 3) := by decide +kernel
theorem d_Md_againstLine_27 : decode m_Md_againstLine.2.1 27 = .ok (.ifCond .ne 6, 3) := by decide +kernel
theorem d_Md_againstLine_30 : decode m_Md_againstLine.2.1 30 = .ok (.bipush (-12), 2) := by decide +kernel
theorem d_Md_againstLine_32 : decode m_Md_againstLine.2.1 32 = .ok (.ireturn, 1) := by decide +kernel
theorem d_Md_againstLine_33 : decode m_Md_againstLine.2.1 33 = .ok (.aload_n 0, 1) := by decide +kernel
theorem d_Md_againstLine_34 : decode m_Md_againstLine.2.1 34 = .ok (.getfield 95, 3) := by decide +kernel
theorem d_Md_againstLine_37 : decode m_Md_againstLine.2.1 37 = .ok (.iconst 5, 1) := by decide +kernel
theorem d_Md_againstLine_38 : decode m_Md_againstLine.2.1 38 = .ok (.iload_n 1, 1) := by decide +kernel
theorem d_Md_againstLine_39 : decode m_Md_againstLine.2.1 39 = .ok (.imul, 1) := by decide +kernel
theorem d_Md_againstLine_40 : decode m_Md_againstLine.2.1 40 = .ok (.iload_n 2, 1) := by decide +kernel
theorem d_Md_againstLine_41 : decode m_Md_againstLine.2.1 41 = .ok (.iadd, 1) := by decide +kernel
theorem d_Md_againstLine_42 : decode m_Md_againstLine.2.1 42 = .ok (.iaload, 1) := by decide +kernel
theorem d_Md_againstLine_43 : decode m_Md_againstLine.2.1 43 = .ok (.ifCond .ge 6, 3) := by decide +kernel
theorem d_Md_againstLine_46 : decode m_Md_againstLine.2.1 46 = .ok (.bipush (-13), 2) := by decide +kernel
theorem d_Md_againstLine_48 : decode m_Md_againstLine.2.1 48 = .ok (.ireturn, 1) := by decide +kernel
theorem d_Md_againstLine_49 : decode m_Md_againstLine.2.1 49 = .ok (.iload_n 3, 1) := by decide +kernel
theorem d_Md_againstLine_50 : decode m_Md_againstLine.2.1 50 = .ok (.i2l, 1) := by decide +kernel
theorem d_Md_againstLine_51 : decode m_Md_againstLine.2.1 51 = .ok (.lconst 0, 1) := by decide +kernel
theorem d_Md_againstLine_52 : decode m_Md_againstLine.2.1 52 = .ok (.aload_n 0, 1) := by decide +kernel
theorem d_Md_againstLine_53 : decode m_Md_againstLine.2.1 53 = .ok (.getfield 98, 3) := by decide +kernel
theorem d_Md_againstLine_56 : decode m_Md_againstLine.2.1 56 = .ok (.aload_n 0, 1) := by decide +kernel
theorem d_Md_againstLine_57 : decode m_Md_againstLine.2.1 57 = .ok (.getfield 95, 3) := by decide +kernel
theorem d_Md_againstLine_60 : decode m_Md_againstLine.2.1 60 = .ok (.iconst 5, 1) := by decide +kernel
theorem d_Md_againstLine_61 : decode m_Md_againstLine.2.1 61 = .ok (.iload_n 1, 1) := by decide +kernel
theorem d_Md_againstLine_62 : decode m_Md_againstLine.2.1 62 = .ok (.imul, 1) := by decide +kernel
theorem d_Md_againstLine_63 : decode m_Md_againstLine.2.1 63 = .ok (.iload_n 2, 1) := by decide +kernel
theorem d_Md_againstLine_64 : decode m_Md_againstLine.2.1 64 = .ok (.iadd, 1) := by decide +kernel
theorem d_Md_againstLine_65 : decode m_Md_againstLine.2.1 65 = .ok (.iaload, 1) := by decide +kernel
theorem d_Md_againstLine_66 : decode m_Md_againstLine.2.1 66 = .ok (.iaload, 1) := by decide +kernel
theorem d_Md_againstLine_67 : decode m_Md_againstLine.2.1 67 = .ok (.iconst 1, 1) := by decide +kernel
theorem d_Md_againstLine_68 : decode m_Md_againstLine.2.1 68 = .ok (.isub, 1) := by decide +kernel
theorem d_Md_againstLine_69 : decode m_Md_againstLine.2.1 69 = .ok (.i2l, 1) := by decide +kernel
theorem d_Md_againstLine_70 : decode m_Md_againstLine.2.1 70 = .ok (.invokestatic 111, 3) := by decide +kernel
theorem d_Md_againstLine_73 : decode m_Md_againstLine.2.1 73 = .ok (.ifCond .eq 7, 3) := by decide +kernel
theorem d_Md_againstLine_76 : decode m_Md_againstLine.2.1 76 = .ok (.iconst 0, 1) := by decide +kernel
theorem d_Md_againstLine_77 : decode m_Md_againstLine.2.1 77 = .ok (.goto 5, 3) := by decide +kernel
theorem d_Md_againstLine_80 : decode m_Md_againstLine.2.1 80 = .ok (.bipush (-14), 2) := by decide +kernel
theorem d_Md_againstLine_82 : decode m_Md_againstLine.2.1 82 = .ok (.ireturn, 1) := by decide +kernel
theorem d_Md_count_0 : decode m_Md_count.2.1 0 = .ok (.iload_n 1, 1) := by decide +kernel
theorem d_Md_count_1 : decode m_Md_count.2.1 1 = .ok (.tableswitch 122 0 10 #[59, 64, 69, 76, 81, 89, 97, 102, 107, 112, 117], 59) := by decide +kernel
theorem d_Md_count_60 : decode m_Md_count.2.1 60 = .ok (.aload_n 0, 1) := by decide +kernel
theorem d_Md_count_61 : decode m_Md_count.2.1 61 = .ok (.getfield 107, 3) := by decide +kernel
theorem d_Md_count_64 : decode m_Md_count.2.1 64 = .ok (.ireturn, 1) := by decide +kernel
theorem d_Md_count_65 : decode m_Md_count.2.1 65 = .ok (.aload_n 0, 1) := by decide +kernel
theorem d_Md_count_66 : decode m_Md_count.2.1 66 = .ok (.getfield 115, 3) := by decide +kernel
theorem d_Md_count_69 : decode m_Md_count.2.1 69 = .ok (.ireturn, 1) := by decide +kernel
theorem d_Md_count_70 : decode m_Md_count.2.1 70 = .ok (.aload_n 0, 1) := by decide +kernel
theorem d_Md_count_71 : decode m_Md_count.2.1 71 = .ok (.getfield 7, 3) := by decide +kernel
theorem d_Md_count_74 : decode m_Md_count.2.1 74 = .ok (.iconst 0, 1) := by decide +kernel
theorem d_Md_count_75 : decode m_Md_count.2.1 75 = .ok (.iaload, 1) := by decide +kernel
theorem d_Md_count_76 : decode m_Md_count.2.1 76 = .ok (.ireturn, 1) := by decide +kernel
theorem d_Md_count_77 : decode m_Md_count.2.1 77 = .ok (.aload_n 0, 1) := by decide +kernel
theorem d_Md_count_78 : decode m_Md_count.2.1 78 = .ok (.invokevirtual 331, 3) := by decide +kernel
theorem d_Md_count_81 : decode m_Md_count.2.1 81 = .ok (.ireturn, 1) := by decide +kernel
theorem d_Md_count_82 : decode m_Md_count.2.1 82 = .ok (.aload_n 0, 1) := by decide +kernel
theorem d_Md_count_83 : decode m_Md_count.2.1 83 = .ok (.getfield 7, 3) := by decide +kernel
theorem d_Md_count_86 : decode m_Md_count.2.1 86 = .ok (.bipush 26, 2) := by decide +kernel
theorem d_Md_count_88 : decode m_Md_count.2.1 88 = .ok (.iaload, 1) := by decide +kernel
theorem d_Md_count_89 : decode m_Md_count.2.1 89 = .ok (.ireturn, 1) := by decide +kernel
theorem d_Md_count_90 : decode m_Md_count.2.1 90 = .ok (.aload_n 0, 1) := by decide +kernel
theorem d_Md_count_91 : decode m_Md_count.2.1 91 = .ok (.getfield 7, 3) := by decide +kernel
theorem d_Md_count_94 : decode m_Md_count.2.1 94 = .ok (.bipush 32, 2) := by decide +kernel
theorem d_Md_count_96 : decode m_Md_count.2.1 96 = .ok (.iaload, 1) := by decide +kernel
theorem d_Md_count_97 : decode m_Md_count.2.1 97 = .ok (.ireturn, 1) := by decide +kernel
theorem d_Md_count_98 : decode m_Md_count.2.1 98 = .ok (.aload_n 0, 1) := by decide +kernel
theorem d_Md_count_99 : decode m_Md_count.2.1 99 = .ok (.invokevirtual 334, 3) := by decide +kernel
theorem d_Md_count_102 : decode m_Md_count.2.1 102 = .ok (.ireturn, 1) := by decide +kernel
theorem d_Md_count_103 : decode m_Md_count.2.1 103 = .ok (.aload_n 0, 1) := by decide +kernel
theorem d_Md_count_104 : decode m_Md_count.2.1 104 = .ok (.getfield 229, 3) := by decide +kernel
theorem d_Md_count_107 : decode m_Md_count.2.1 107 = .ok (.ireturn, 1) := by decide +kernel
theorem d_Md_count_108 : decode m_Md_count.2.1 108 = .ok (.aload_n 0, 1) := by decide +kernel
theorem d_Md_count_109 : decode m_Md_count.2.1 109 = .ok (.invokevirtual 337, 3) := by decide +kernel
theorem d_Md_count_112 : decode m_Md_count.2.1 112 = .ok (.ireturn, 1) := by decide +kernel
theorem d_Md_count_113 : decode m_Md_count.2.1 113 = .ok (.aload_n 0, 1) := by decide +kernel
theorem d_Md_count_114 : decode m_Md_count.2.1 114 = .ok (.getfield 226, 3) := by decide +kernel
theorem d_Md_count_117 : decode m_Md_count.2.1 117 = .ok (.ireturn, 1) := by decide +kernel
theorem d_Md_count_118 : decode m_Md_count.2.1 118 = .ok (.aload_n 0, 1) := by decide +kernel
theorem d_Md_count_119 : decode m_Md_count.2.1 119 = .ok (.getfield 120, 3) := by decide +kernel
theorem d_Md_count_122 : decode m_Md_count.2.1 122 = .ok (.ireturn, 1) := by decide +kernel
theorem d_Md_count_123 : decode m_Md_count.2.1 123 = .ok (.bipush (-3), 2) := by decide +kernel
theorem d_Md_count_125 : decode m_Md_count.2.1 125 = .ok (.ireturn, 1) := by decide +kernel
