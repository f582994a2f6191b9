theorem d_Tl_init_0 : decode m_Tl_init.2.1 0 = .ok (.aload_n 0, 1) := by decide +kernel
theorem d_Tl_init_1 : decode m_Tl_init.2.1 1 = .ok (.invokespecial 3, 3) := by decide +kernel
theorem d_Tl_init_4 : decode m_Tl_init.2.1 4 = .ok (.aload_n 0, 1) := by decide +kernel
theorem d_Tl_init_5 : decode m_Tl_init.2.1 5 = .ok (.iconst 5, 1) := by decide +kernel
theorem d_Tl_init_6 : decode m_Tl_init.2.1 6 = .ok (.newarray .int, 2) := by decide +kernel
theorem d_Tl_init_8 : decode m_Tl_init.2.1 8 = .ok (.putfield 9, 3) := by decide +kernel
theorem d_Tl_init_11 : decode m_Tl_init.2.1 11 = .ok (.aload_n 0, 1) := by decide +kernel
theorem d_Tl_init_12 : decode m_Tl_init.2.1 12 = .ok (.iconst 5, 1) := by decide +kernel
theorem d_Tl_init_13 : decode m_Tl_init.2.1 13 = .ok (.newarray .int, 2) := by decide +kernel
theorem d_Tl_init_15 : decode m_Tl_init.2.1 15 = .ok (.putfield 15, 3) := by decide +kernel
theorem d_Tl_init_18 : decode m_Tl_init.2.1 18 = .ok (.aload_n 0, 1) := by decide +kernel
theorem d_Tl_init_19 : decode m_Tl_init.2.1 19 = .ok (.iconst 5, 1) := by decide +kernel
theorem d_Tl_init_20 : decode m_Tl_init.2.1 20 = .ok (.newarray .int, 2) := by decide +kernel
theorem d_Tl_init_22 : decode m_Tl_init.2.1 22 = .ok (.putfield 18, 3) := by decide +kernel
theorem d_Tl_init_25 : decode m_Tl_init.2.1 25 = .ok (.aload_n 0, 1) := by decide +kernel
theorem d_Tl_init_26 : decode m_Tl_init.2.1 26 = .ok (.bipush 10, 2) := by decide +kernel
theorem d_Tl_init_28 : decode m_Tl_init.2.1 28 = .ok (.newarray .int, 2) := by decide +kernel
theorem d_Tl_init_30 : decode m_Tl_init.2.1 30 = .ok (.putfield 21, 3) := by decide +kernel
theorem d_Tl_init_33 : decode m_Tl_init.2.1 33 = .ok (.aload_n 0, 1) := by decide +kernel
theorem d_Tl_init_34 : decode m_Tl_init.2.1 34 = .ok (.bipush 10, 2) := by decide +kernel
theorem d_Tl_init_36 : decode m_Tl_init.2.1 36 = .ok (.newarray .int, 2) := by decide +kernel
theorem d_Tl_init_38 : decode m_Tl_init.2.1 38 = .ok (.putfield 24, 3) := by decide +kernel
theorem d_Tl_init_41 : decode m_Tl_init.2.1 41 = .ok (.aload_n 0, 1) := by decide +kernel
theorem d_Tl_init_42 : decode m_Tl_init.2.1 42 = .ok (.bipush 10, 2) := by decide +kernel
theorem d_Tl_init_44 : decode m_Tl_init.2.1 44 = .ok (.newarray .int, 2) := by decide +kernel
theorem d_Tl_init_46 : decode m_Tl_init.2.1 46 = .ok (.putfield 27, 3) := by decide +kernel
theorem d_Tl_init_49 : decode m_Tl_init.2.1 49 = .ok (.aload_n 0, 1) := by decide +kernel
theorem d_Tl_init_50 : decode m_Tl_init.2.1 50 = .ok (.bipush 10, 2) := by decide +kernel
theorem d_Tl_init_52 : decode m_Tl_init.2.1 52 = .ok (.newarray .int, 2) := by decide +kernel
theorem d_Tl_init_54 : decode m_Tl_init.2.1 54 = .ok (.putfield 30, 3) := by decide +kernel
theorem d_Tl_init_57 : decode m_Tl_init.2.1 57 = .ok (.aload_n 0, 1) := by decide +kernel
theorem d_Tl_init_58 : decode m_Tl_init.2.1 58 = .ok (.bipush 10, 2) := by decide +kernel
theorem d_Tl_init_60 : decode m_Tl_init.2.1 60 = .ok (.newarray .int, 2) := by decide +kernel
theorem d_Tl_init_62 : decode m_Tl_init.2.1 62 = .ok (.putfield 33, 3) := by decide +kernel
theorem d_Tl_init_65 : decode m_Tl_init.2.1 65 = .ok (.return_, 1) := by decide +kernel
theorem d_Rd_init_0 : decode m_Rd_init.2.1 0 = .ok (.aload_n 0, 1) := by decide +kernel
theorem d_Rd_init_1 : decode m_Rd_init.2.1 1 = .ok (.invokespecial 3, 3) := by decide +kernel
theorem d_Rd_init_4 : decode m_Rd_init.2.1 4 = .ok (.aload_n 0, 1) := by decide +kernel
theorem d_Rd_init_5 : decode m_Rd_init.2.1 5 = .ok (.sipush 200, 3) := by decide +kernel
theorem d_Rd_init_8 : decode m_Rd_init.2.1 8 = .ok (.newarray .int, 2) := by decide +kernel
theorem d_Rd_init_10 : decode m_Rd_init.2.1 10 = .ok (.putfield 11, 3) := by decide +kernel
theorem d_Rd_init_13 : decode m_Rd_init.2.1 13 = .ok (.return_, 1) := by decide +kernel
theorem d_Rd_addLetter_0 : decode m_Rd_addLetter.2.1 0 = .ok (.aload_n 0, 1) := by decide +kernel
theorem d_Rd_addLetter_1 : decode m_Rd_addLetter.2.1 1 = .ok (.getfield 15, 3) := by decide +kernel
theorem d_Rd_addLetter_4 : decode m_Rd_addLetter.2.1 4 = .ok (.sipush 200, 3) := by decide +kernel
theorem d_Rd_addLetter_7 : decode m_Rd_addLetter.2.1 7 = .ok (.if_icmp .lt 5, 3) := by decide +kernel
theorem d_Rd_addLetter_10 : decode m_Rd_addLetter.2.1 10 = .ok (.iconst 0, 1) := by decide +kernel
theorem d_Rd_addLetter_11 : decode m_Rd_addLetter.2.1 11 = .ok (.ireturn, 1) := by decide +kernel
theorem d_Rd_addLetter_12 : decode m_Rd_addLetter.2.1 12 = .ok (.aload_n 0, 1) := by decide +kernel
theorem d_Rd_addLetter_13 : decode m_Rd_addLetter.2.1 13 = .ok (.getfield 11, 3) := by decide +kernel
theorem d_Rd_addLetter_16 : decode m_Rd_addLetter.2.1 16 = .ok (.aload_n 0, 1) := by decide +kernel
theorem d_Rd_addLetter_17 : decode m_Rd_addLetter.2.1 17 = .ok (.getfield 15, 3) := by decide +kernel
theorem d_Rd_addLetter_20 : decode m_Rd_addLetter.2.1 20 = .ok (.iload_n 1, 1) := by decide +kernel
theorem d_Rd_addLetter_21 : decode m_Rd_addLetter.2.1 21 = .ok (.iastore, 1) := by decide +kernel
theorem d_Rd_addLetter_22 : decode m_Rd_addLetter.2.1 22 = .ok (.aload_n 0, 1) := by decide +kernel
theorem d_Rd_addLetter_23 : decode m_Rd_addLetter.2.1 23 = .ok (.dup, 1) := by decide +kernel
theorem d_Rd_addLetter_24 : decode m_Rd_addLetter.2.1 24 = .ok (.getfield 15, 3) := by decide +kernel
theorem d_Rd_addLetter_27 : decode m_Rd_addLetter.2.1 27 = .ok (.iconst 1, 1) := by decide +kernel
theorem d_Rd_addLetter_28 : decode m_Rd_addLetter.2.1 28 = .ok (.iadd, 1) := by decide +kernel
theorem d_Rd_addLetter_29 : decode m_Rd_addLetter.2.1 29 = .ok (.putfield 15, 3) := by decide +kernel
theorem d_Rd_addLetter_32 : decode m_Rd_addLetter.2.1 32 = .ok (.iconst 1, 1) := by decide +kernel
theorem d_Rd_addLetter_33 : decode m_Rd_addLetter.2.1 33 = .ok (.ireturn, 1) := by decide +kernel
theorem d_Tl_copyFrom_0 : decode m_Tl_copyFrom.2.1 0 = .ok (.aload_n 0, 1) := by decide +kernel
theorem d_Tl_copyFrom_1 : decode m_Tl_copyFrom.2.1 1 = .ok (.aload_n 1, 1) := by decide +kernel
theorem d_Tl_copyFrom_2 : decode m_Tl_copyFrom.2.1 2 = .ok (.getfield 36, 3) := by decide +kernel
theorem d_Tl_copyFrom_5 : decode m_Tl_copyFrom.2.1 5 = .ok (.putfield 36, 3) := by decide +kernel
theorem d_Tl_copyFrom_8 : decode m_Tl_copyFrom.2.1 8 = .ok (.aload_n 0, 1) := by decide +kernel
theorem d_Tl_copyFrom_9 : decode m_Tl_copyFrom.2.1 9 = .ok (.aload_n 1, 1) := by decide +kernel
theorem d_Tl_copyFrom_10 : decode m_Tl_copyFrom.2.1 10 = .ok (.getfield 40, 3) := by decide +kernel
theorem d_Tl_copyFrom_13 : decode m_Tl_copyFrom.2.1 13 = .ok (.putfield 40, 3) := by decide +kernel
theorem d_Tl_copyFrom_16 : decode m_Tl_copyFrom.2.1 16 = .ok (.aload_n 1, 1) := by decide +kernel
theorem d_Tl_copyFrom_17 : decode m_Tl_copyFrom.2.1 17 = .ok (.getfield 9, 3) := by decide +kernel
theorem d_Tl_copyFrom_20 : decode m_Tl_copyFrom.2.1 20 = .ok (.iconst 0, 1) := by decide +kernel
theorem d_Tl_copyFrom_21 : decode m_Tl_copyFrom.2.1 21 = .ok (.aload_n 0, 1) := by decide +kernel
theorem d_Tl_copyFrom_22 : decode m_Tl_copyFrom.2.1 22 = .ok (.getfield 9, 3) := by decide +kernel
theorem d_Tl_copyFrom_25 : decode m_Tl_copyFrom.2.1 25 = .ok (.iconst 0, 1) := by decide +kernel
theorem d_Tl_copyFrom_26 : decode m_Tl_copyFrom.2.1 26 = .ok (.iconst 5, 1) := by decide +kernel
theorem d_Tl_copyFrom_27 : decode m_Tl_copyFrom.2.1 27 = .ok (.invokestatic 43, 3) := by decide +kernel
theorem d_Tl_copyFrom_30 : decode m_Tl_copyFrom.2.1 30 = .ok (.aload_n 1, 1) := by decide +kernel
theorem d_Tl_copyFrom_31 : decode m_Tl_copyFrom.2.1 31 = .ok (.getfield 15, 3) := by decide +kernel
theorem d_Tl_copyFrom_34 : decode m_Tl_copyFrom.2.1 34 = .ok (.iconst 0, 1) := by decide +kernel
theorem d_Tl_copyFrom_35 : decode m_Tl_copyFrom.2.1 35 = .ok (.aload_n 0, 1) := by decide +kernel
theorem d_Tl_copyFrom_36 : decode m_Tl_copyFrom.2.1 36 = .ok (.getfield 15, 3) := by decide +kernel
theorem d_Tl_copyFrom_39 : decode m_Tl_copyFrom.2.1 39 = .ok (.iconst 0, 1) := by decide +kernel
theorem d_Tl_copyFrom_40 : decode m_Tl_copyFrom.2.1 40 = .ok (.iconst 5, 1) := by decide +kernel
theorem d_Tl_copyFrom_41 : decode m_Tl_copyFrom.2.1 41 = .ok (.invokestatic 43, 3) := by decide +kernel
theorem d_Tl_copyFrom_44 : decode m_Tl_copyFrom.2.1 44 = .ok (.aload_n 1, 1) := by decide +kernel
theorem d_Tl_copyFrom_45 : decode m_Tl_copyFrom.2.1 45 = .ok (.getfield 18, 3) := by decide +kernel
theorem d_Tl_copyFrom_48 : decode m_Tl_copyFrom.2.1 48 = .ok (.iconst 0, 1) := by decide +kernel
theorem d_Tl_copyFrom_49 : decode m_Tl_copyFrom.2.1 49 = .ok (.aload_n 0, 1) := by decide +kernel
theorem d_Tl_copyFrom_50 : decode m_Tl_copyFrom.2.1 50 = .ok (.getfield 18, 3) := by decide +kernel
theorem d_Tl_copyFrom_53 : decode m_Tl_copyFrom.2.1 53 = .ok (.iconst 0, 1) := by decide +kernel
theorem d_Tl_copyFrom_54 : decode m_Tl_copyFrom.2.1 54 = .ok (.iconst 5, 1) := by decide +kernel
theorem d_Tl_copyFrom_55 : decode m_Tl_copyFrom.2.1 55 = .ok (.invokestatic 43, 3) := by decide +kernel
theorem d_Tl_copyFrom_58 : decode m_Tl_copyFrom.2.1 58 = .ok (.aload_n 1, 1) := by decide +kernel
theorem d_Tl_copyFrom_59 : decode m_Tl_copyFrom.2.1 59 = .ok (.getfield 21, 3) := by decide +kernel
theorem d_Tl_copyFrom_62 : decode m_Tl_copyFrom.2.1 62 = .ok (.iconst 0, 1) := by decide +kernel
theorem d_Tl_copyFrom_63 : decode m_Tl_copyFrom.2.1 63 = .ok (.aload_n 0, 1) := by decide +kernel
theorem d_Tl_copyFrom_64 : decode m_Tl_copyFrom.2.1 64 = .ok (.getfield 21, 3) := by decide +kernel
theorem d_Tl_copyFrom_67 : decode m_Tl_copyFrom.2.1 67 = .ok (.iconst 0, 1) := by decide +kernel
theorem d_Tl_copyFrom_68 : decode m_Tl_copyFrom.2.1 68 = .ok (.bipush 10, 2) := by decide +kernel
theorem d_Tl_copyFrom_70 : decode m_Tl_copyFrom.2.1 70 = .ok (.invokestatic 43, 3) := by decide +kernel
theorem d_Tl_copyFrom_73 : decode m_Tl_copyFrom.2.1 73 = .ok (.aload_n 1, 1) := by decide +kernel
theorem d_Tl_copyFrom_74 : decode m_Tl_copyFrom.2.1 74 = .ok (.getfield 24, 3) := by decide +kernel
theorem d_Tl_copyFrom_77 : decode m_Tl_copyFrom.2.1 77 = .ok (.iconst 0, 1) := by decide +kernel
theorem d_Tl_copyFrom_78 : decode m_Tl_copyFrom.2.1 78 = .ok (.aload_n 0, 1) := by decide +kernel
theorem d_Tl_copyFrom_79 : decode m_Tl_copyFrom.2.1 79 = .ok (.getfield 24, 3) := by decide +kernel
theorem d_Tl_copyFrom_82 : decode m_Tl_copyFrom.2.1 82 = .ok (.iconst 0, 1) := by decide +kernel
theorem d_Tl_copyFrom_83 : decode m_Tl_copyFrom.2.1 83 = .ok (.bipush 10, 2) := by decide +kernel
theorem d_Tl_copyFrom_85 : decode m_Tl_copyFrom.2.1 85 = .ok (.invokestatic 43, 3) := by decide +kernel
theorem d_Tl_copyFrom_88 : decode m_Tl_copyFrom.2.1 88 = .ok (.aload_n 1, 1) := by decide +kernel
theorem d_Tl_copyFrom_89 : decode m_Tl_copyFrom.2.1 89 = .ok (.getfield 27, 3) := by decide +kernel
theorem d_Tl_copyFrom_92 : decode m_Tl_copyFrom.2.1 92 = .ok (.iconst 0, 1) := by decide +kernel
theorem d_Tl_copyFrom_93 : decode m_Tl_copyFrom.2.1 93 = .ok (.aload_n 0, 1) := by decide +kernel
theorem d_Tl_copyFrom_94 : decode m_Tl_copyFrom.2.1 94 = .ok (.getfield 27, 3) := by decide +kernel
theorem d_Tl_copyFrom_97 : decode m_Tl_copyFrom.2.1 97 = .ok (.iconst 0, 1) := by decide +kernel
theorem d_Tl_copyFrom_98 : decode m_Tl_copyFrom.2.1 98 = .ok (.bipush 10, 2) := by decide +kernel
theorem d_Tl_copyFrom_100 : decode m_Tl_copyFrom.2.1 100 = .ok (.invokestatic 43, 3) := by decide +kernel
theorem d_Tl_copyFrom_103 : decode m_Tl_copyFrom.2.1 103 = .ok (.aload_n 1, 1) := by decide +kernel
theorem d_Tl_copyFrom_104 : decode m_Tl_copyFrom.2.1 104 = .ok (.getfield 30, 3) := by decide +kernel
theorem d_Tl_copyFrom_107 : decode m_Tl_copyFrom.2.1 107 = .ok (.iconst 0, 1) := by decide +kernel
theorem d_Tl_copyFrom_108 : decode m_Tl_copyFrom.2.1 108 = .ok (.aload_n 0, 1) := by decide +kernel
theorem d_Tl_copyFrom_109 : decode m_Tl_copyFrom.2.1 109 = .ok (.getfield 30, 3) := by decide +kernel
theorem d_Tl_copyFrom_112 : decode m_Tl_copyFrom.2.1 112 = .ok (.iconst 0, 1) := by decide +kernel
theorem d_Tl_copyFrom_113 : decode m_Tl_copyFrom.2.1 113 = .ok (.bipush 10, 2) := by decide +kernel
theorem d_Tl_copyFrom_115 : decode m_Tl_copyFrom.2.1 115 = .ok (.invokestatic 43, 3) := by decide +kernel
theorem d_Tl_copyFrom_118 : decode m_Tl_copyFrom.2.1 118 = .ok (.aload_n 1, 1) := by decide +kernel
theorem d_Tl_copyFrom_119 : decode m_Tl_copyFrom.2.1 119 = .ok (.getfield 33, 3) := by decide +kernel
theorem d_Tl_copyFrom_122 : decode m_Tl_copyFrom.2.1 122 = .ok (.iconst 0, 1) := by decide +kernel
theorem d_Tl_copyFrom_123 : decode m_Tl_copyFrom.2.1 123 = .ok (.aload_n 0, 1) := by decide +kernel
theorem d_Tl_copyFrom_124 : decode m_Tl_copyFrom.2.1 124 = .ok (.getfield 33, 3) := by decide +kernel
theorem d_Tl_copyFrom_127 : decode m_Tl_copyFrom.2.1 127 = .ok (.iconst 0, 1) := by decide +kernel
theorem d_Tl_copyFrom_128 : decode m_Tl_copyFrom.2.1 128 = .ok (.bipush 10, 2) := by decide +kernel
theorem d_Tl_copyFrom_130 : decode m_Tl_copyFrom.2.1 130 = .ok (.invokestatic 43, 3) := by decide +kernel
theorem d_Tl_copyFrom_133 : decode m_Tl_copyFrom.2.1 133 = .ok (.return_, 1) := by decide +kernel
theorem d_Rd_readInto_0 : decode m_Rd_readInto.2.1 0 = .ok (.aload_n 0, 1) := by decide +kernel
theorem d_Rd_readInto_1 : decode m_Rd_readInto.2.1 1 = .ok (.iconst 0, 1) := by decide +kernel
theorem d_Rd_readInto_2 : decode m_Rd_readInto.2.1 2 = .ok (.putfield 19, 3) := by decide +kernel
theorem d_Rd_readInto_5 : decode m_Rd_readInto.2.1 5 = .ok (.aload_n 0, 1) := by decide +kernel
theorem d_Rd_readInto_6 : decode m_Rd_readInto.2.1 6 = .ok (.iconst 0, 1) := by decide +kernel
theorem d_Rd_readInto_7 : decode m_Rd_readInto.2.1 7 = .ok (.putfield 22, 3) := by decide +kernel
theorem d_Rd_readInto_10 : decode m_Rd_readInto.2.1 10 = .ok (.aload_n 0, 1) := by decide +kernel
theorem d_Rd_readInto_11 : decode m_Rd_readInto.2.1 11 = .ok (.invokevirtual 25, 3) := by decide +kernel
theorem d_Rd_readInto_14 : decode m_Rd_readInto.2.1 14 = .ok (.iconst 0, 1) := by decide +kernel
theorem d_Rd_readInto_15 : decode m_Rd_readInto.2.1 15 = .ok (.istore_n 2, 1) := by decide +kernel
theorem d_Rd_readInto_16 : decode m_Rd_readInto.2.1 16 = .ok (.iload_n 2, 1) := by decide +kernel
theorem d_Rd_readInto_17 : decode m_Rd_readInto.2.1 17 = .ok (.bipush 24, 2) := by decide +kernel
theorem d_Rd_readInto_19 : decode m_Rd_readInto.2.1 19 = .ok (.if_icmp .ge 68, 3) := by decide +kernel
theorem d_Rd_readInto_22 : decode m_Rd_readInto.2.1 22 = .ok (.aload_n 0, 1) := by decide +kernel
theorem d_Rd_readInto_23 : decode m_Rd_readInto.2.1 23 = .ok (.aload_n 1, 1) := by decide +kernel
theorem d_Rd_readInto_24 : decode m_Rd_readInto.2.1 24 = .ok (.invokevirtual 28, 3) := by decide +kernel
theorem d_Rd_readInto_27 : decode m_Rd_readInto.2.1 27 = .ok (.ifCond .ne 8, 3) := by decide +kernel
theorem d_Rd_readInto_30 : decode m_Rd_readInto.2.1 30 = .ok (.aload_n 0, 1) := by decide +kernel
theorem d_Rd_readInto_31 : decode m_Rd_readInto.2.1 31 = .ok (.getfield 32, 3) := by decide +kernel
theorem d_Rd_readInto_34 : decode m_Rd_readInto.2.1 34 = .ok (.ireturn, 1) := by decide +kernel
theorem d_Rd_readInto_35 : decode m_Rd_readInto.2.1 35 = .ok (.aload_n 0, 1) := by decide +kernel
theorem d_Rd_readInto_36 : decode m_Rd_readInto.2.1 36 = .ok (.dup, 1) := by decide +kernel
theorem d_Rd_readInto_37 : decode m_Rd_readInto.2.1 37 = .ok (.getfield 19, 3) := by decide +kernel
theorem d_Rd_readInto_40 : decode m_Rd_readInto.2.1 40 = .ok (.iconst 1, 1) := by decide +kernel
theorem d_Rd_readInto_41 : decode m_Rd_readInto.2.1 41 = .ok (.iadd, 1) := by decide +kernel
theorem d_Rd_readInto_42 : decode m_Rd_readInto.2.1 42 = .ok (.putfield 19, 3) := by decide +kernel
theorem d_Rd_readInto_45 : decode m_Rd_readInto.2.1 45 = .ok (.aload_n 0, 1) := by decide +kernel
theorem d_Rd_readInto_46 : decode m_Rd_readInto.2.1 46 = .ok (.getfield 35, 3) := by decide +kernel
theorem d_Rd_readInto_49 : decode m_Rd_readInto.2.1 49 = .ok (.ifCond .ne 5, 3) := by decide +kernel
theorem d_Rd_readInto_52 : decode m_Rd_readInto.2.1 52 = .ok (.iconst (-1), 1) := by decide +kernel
theorem d_Rd_readInto_53 : decode m_Rd_readInto.2.1 53 = .ok (.ireturn, 1) := by decide +kernel
theorem d_Rd_readInto_54 : decode m_Rd_readInto.2.1 54 = .ok (.aload_n 0, 1) := by decide +kernel
theorem d_Rd_readInto_55 : decode m_Rd_readInto.2.1 55 = .ok (.bipush 59, 2) := by decide +kernel
theorem d_Rd_readInto_57 : decode m_Rd_readInto.2.1 57 = .ok (.invokevirtual 38, 3) := by decide +kernel
theorem d_Rd_readInto_60 : decode m_Rd_readInto.2.1 60 = .ok (.ifCond .eq 12, 3) := by decide +kernel
theorem d_Rd_readInto_63 : decode m_Rd_readInto.2.1 63 = .ok (.aload_n 0, 1) := by decide +kernel
theorem d_Rd_readInto_64 : decode m_Rd_readInto.2.1 64 = .ok (.getfield 19, 3) := by decide +kernel
theorem d_Rd_readInto_67 : decode m_Rd_readInto.2.1 67 = .ok (.bipush 24, 2) := by decide +kernel
theorem d_Rd_readInto_69 : decode m_Rd_readInto.2.1 69 = .ok (.if_icmp .ne 8, 3) := by decide +kernel
theorem d_Rd_readInto_72 : decode m_Rd_readInto.2.1 72 = .ok (.aload_n 0, 1) := by decide +kernel
theorem d_Rd_readInto_73 : decode m_Rd_readInto.2.1 73 = .ok (.getfield 32, 3) := by decide +kernel
theorem d_Rd_readInto_76 : decode m_Rd_readInto.2.1 76 = .ok (.ireturn, 1) := by decide +kernel
theorem d_Rd_readInto_77 : decode m_Rd_readInto.2.1 77 = .ok (.aload_n 0, 1) := by decide +kernel
theorem d_Rd_readInto_78 : decode m_Rd_readInto.2.1 78 = .ok (.invokevirtual 25, 3) := by decide +kernel
theorem d_Rd_readInto_81 : decode m_Rd_readInto.2.1 81 = .ok (.iinc 2 1, 3) := by decide +kernel
theorem d_Rd_readInto_84 : decode m_Rd_readInto.2.1 84 = .ok (.goto (-68), 3) := by decide +kernel
theorem d_Rd_readInto_87 : decode m_Rd_readInto.2.1 87 = .ok (.aload_n 0, 1) := by decide +kernel
theorem d_Rd_readInto_88 : decode m_Rd_readInto.2.1 88 = .ok (.getfield 32, 3) := by decide +kernel
theorem d_Rd_readInto_91 : decode m_Rd_readInto.2.1 91 = .ok (.ireturn, 1) := by decide +kernel
theorem d_Rd_toNextToken_0 : decode m_Rd_toNextToken.2.1 0 = .ok (.aload_n 0, 1) := by decide +kernel
theorem d_Rd_toNextToken_1 : decode m_Rd_toNextToken.2.1 1 = .ok (.aload_n 0, 1) := by decide +kernel
theorem d_Rd_toNextToken_2 : decode m_Rd_toNextToken.2.1 2 = .ok (.getfield 22, 3) := by decide +kernel
theorem d_Rd_toNextToken_5 : decode m_Rd_toNextToken.2.1 5 = .ok (.putfield 32, 3) := by decide +kernel
theorem d_Rd_toNextToken_8 : decode m_Rd_toNextToken.2.1 8 = .ok (.aload_n 0, 1) := by decide +kernel
theorem d_Rd_toNextToken_9 : decode m_Rd_toNextToken.2.1 9 = .ok (.getfield 32, 3) := by decide +kernel
theorem d_Rd_toNextToken_12 : decode m_Rd_toNextToken.2.1 12 = .ok (.aload_n 0, 1) := by decide +kernel
theorem d_Rd_toNextToken_13 : decode m_Rd_toNextToken.2.1 13 = .ok (.getfield 15, 3) := by decide +kernel
theorem d_Rd_toNextToken_16 : decode m_Rd_toNextToken.2.1 16 = .ok (.if_icmp .ge 30, 3) := by decide +kernel
theorem d_Rd_toNextToken_19 : decode m_Rd_toNextToken.2.1 19 = .ok (.aload_n 0, 1) := by decide +kernel
theorem d_Rd_toNextToken_20 : decode m_Rd_toNextToken.2.1 20 = .ok (.getfield 11, 3) := by decide +kernel
theorem d_Rd_toNextToken_23 : decode m_Rd_toNextToken.2.1 23 = .ok (.aload_n 0, 1) := by decide +kernel
theorem d_Rd_toNextToken_24 : decode m_Rd_toNextToken.2.1 24 = .ok (.getfield 32, 3) := by decide +kernel
theorem d_Rd_toNextToken_27 : decode m_Rd_toNextToken.2.1 27 = .ok (.iaload, 1) := by decide +kernel
theorem d_Rd_toNextToken_28 : decode m_Rd_toNextToken.2.1 28 = .ok (.bipush 32, 2) := by decide +kernel
theorem d_Rd_toNextToken_30 : decode m_Rd_toNextToken.2.1 30 = .ok (.if_icmp .ne 16, 3) := by decide +kernel
theorem d_Rd_toNextToken_33 : decode m_Rd_toNextToken.2.1 33 = .ok (.aload_n 0, 1) := by decide +kernel
theorem d_Rd_toNextToken_34 : decode m_Rd_toNextToken.2.1 34 = .ok (.dup, 1) := by decide +kernel
theorem d_Rd_toNextToken_35 : decode m_Rd_toNextToken.2.1 35 = .ok (.getfield 32, 3) := by decide +kernel
theorem d_Rd_toNextToken_38 : decode m_Rd_toNextToken.2.1 38 = .ok (.iconst 1, 1) := by decide +kernel
theorem d_Rd_toNextToken_39 : decode m_Rd_toNextToken.2.1 39 = .ok (.iadd, 1) := by decide +kernel
theorem d_Rd_toNextToken_40 : decode m_Rd_toNextToken.2.1 40 = .ok (.putfield 32, 3) := by decide +kernel
theorem d_Rd_toNextToken_43 : decode m_Rd_toNextToken.2.1 43 = .ok (.goto (-35), 3) := by decide +kernel
theorem d_Rd_toNextToken_46 : decode m_Rd_toNextToken.2.1 46 = .ok (.aload_n 0, 1) := by decide +kernel
theorem d_Rd_toNextToken_47 : decode m_Rd_toNextToken.2.1 47 = .ok (.aload_n 0, 1) := by decide +kernel
theorem d_Rd_toNextToken_48 : decode m_Rd_toNextToken.2.1 48 = .ok (.getfield 32, 3) := by decide +kernel
theorem d_Rd_toNextToken_51 : decode m_Rd_toNextToken.2.1 51 = .ok (.iconst 1, 1) := by decide +kernel
theorem d_Rd_toNextToken_52 : decode m_Rd_toNextToken.2.1 52 = .ok (.iadd, 1) := by decide +kernel
theorem d_Rd_toNextToken_53 : decode m_Rd_toNextToken.2.1 53 = .ok (.aload_n 0, 1) := by decide +kernel
theorem d_Rd_toNextToken_54 : decode m_Rd_toNextToken.2.1 54 = .ok (.getfield 15, 3) := by decide +kernel
theorem d_Rd_toNextToken_57 : decode m_Rd_toNextToken.2.1 57 = .ok (.invokestatic 122, 3) := by decide +kernel
theorem d_Rd_toNextToken_60 : decode m_Rd_toNextToken.2.1 60 = .ok (.putfield 22, 3) := by decide +kernel
theorem d_Rd_toNextToken_63 : decode m_Rd_toNextToken.2.1 63 = .ok (.aload_n 0, 1) := by decide +kernel
theorem d_Rd_toNextToken_64 : decode m_Rd_toNextToken.2.1 64 = .ok (.aload_n 0, 1) := by decide +kernel
theorem d_Rd_toNextToken_65 : decode m_Rd_toNextToken.2.1 65 = .ok (.getfield 32, 3) := by decide +kernel
theorem d_Rd_toNextToken_68 : decode m_Rd_toNextToken.2.1 68 = .ok (.aload_n 0, 1) := by decide +kernel
theorem d_Rd_toNextToken_69 : decode m_Rd_toNextToken.2.1 69 = .ok (.getfield 15, 3) := by decide +kernel
theorem d_Rd_toNextToken_72 : decode m_Rd_toNextToken.2.1 72 = .ok (.if_icmp .ge 18, 3) := by decide +kernel
theorem d_Rd_toNextToken_75 : decode m_Rd_toNextToken.2.1 75 = .ok (.aload_n 0, 1) := by decide +kernel
theorem d_Rd_toNextToken_76 : decode m_Rd_toNextToken.2.1 76 = .ok (.getfield 11, 3) := by decide +kernel
theorem d_Rd_toNextToken_79 : decode m_Rd_toNextToken.2.1 79 = .ok (.aload_n 0, 1) := by decide +kernel
theorem d_Rd_toNextToken_80 : decode m_Rd_toNextToken.2.1 80 = .ok (.getfield 32, 3) := by decide +kernel
theorem d_Rd_toNextToken_83 : decode m_Rd_toNextToken.2.1 83 = .ok (.iaload, 1) := by decide +kernel
theorem d_Rd_toNextToken_84 : decode m_Rd_toNextToken.2.1 84 = .ok (.invokestatic 128, 3) := by decide +kernel
theorem d_Rd_toNextToken_87 : decode m_Rd_toNextToken.2.1 87 = .ok (.goto 4, 3) := by decide +kernel
theorem d_Rd_toNextToken_90 : decode m_Rd_toNextToken.2.1 90 = .ok (.iconst 0, 1) := by decide +kernel
theorem d_Rd_toNextToken_91 : decode m_Rd_toNextToken.2.1 91 = .ok (.putfield 35, 3) := by decide +kernel
theorem d_Rd_toNextToken_94 : decode m_Rd_toNextToken.2.1 94 = .ok (.aload_n 0, 1) := by decide +kernel
theorem d_Rd_toNextToken_95 : decode m_Rd_toNextToken.2.1 95 = .ok (.getfield 35, 3) := by decide +kernel
theorem d_Rd_toNextToken_98 : decode m_Rd_toNextToken.2.1 98 = .ok (.iconst 3, 1) := by decide +kernel
theorem d_Rd_toNextToken_99 : decode m_Rd_toNextToken.2.1 99 = .ok (.if_icmp .eq 46, 3) := by decide +kernel
theorem d_Rd_toNextToken_102 : decode m_Rd_toNextToken.2.1 102 = .ok (.aload_n 0, 1) := by decide +kernel
theorem d_Rd_toNextToken_103 : decode m_Rd_toNextToken.2.1 103 = .ok (.getfield 22, 3) := by decide +kernel
theorem d_Rd_toNextToken_106 : decode m_Rd_toNextToken.2.1 106 = .ok (.aload_n 0, 1) := by decide +kernel
theorem d_Rd_toNextToken_107 : decode m_Rd_toNextToken.2.1 107 = .ok (.getfield 15, 3) := by decide +kernel
theorem d_Rd_toNextToken_110 : decode m_Rd_toNextToken.2.1 110 = .ok (.if_icmp .ge 35, 3) := by decide +kernel
theorem d_Rd_toNextToken_113 : decode m_Rd_toNextToken.2.1 113 = .ok (.aload_n 0, 1) := by decide +kernel
theorem d_Rd_toNextToken_114 : decode m_Rd_toNextToken.2.1 114 = .ok (.getfield 11, 3) := by decide +kernel
theorem d_Rd_toNextToken_117 : decode m_Rd_toNextToken.2.1 117 = .ok (.aload_n 0, 1) := by decide +kernel
theorem d_Rd_toNextToken_118 : decode m_Rd_toNextToken.2.1 118 = .ok (.getfield 22, 3) := by decide +kernel
theorem d_Rd_toNextToken_121 : decode m_Rd_toNextToken.2.1 121 = .ok (.iaload, 1) := by decide +kernel
theorem d_Rd_toNextToken_122 : decode m_Rd_toNextToken.2.1 122 = .ok (.invokestatic 128, 3) := by decide +kernel
theorem d_Rd_toNextToken_125 : decode m_Rd_toNextToken.2.1 125 = .ok (.aload_n 0, 1) := by decide +kernel
theorem d_Rd_toNextToken_126 : decode m_Rd_toNextToken.2.1 126 = .ok (.getfield 35, 3) := by decide +kernel
theorem d_Rd_toNextToken_129 : decode m_Rd_toNextToken.2.1 129 = .ok (.if_icmp .ne 16, 3) := by decide +kernel
theorem d_Rd_toNextToken_132 : decode m_Rd_toNextToken.2.1 132 = .ok (.aload_n 0, 1) := by decide +kernel
theorem d_Rd_toNextToken_133 : decode m_Rd_toNextToken.2.1 133 = .ok (.dup, 1) := by decide +kernel
theorem d_Rd_toNextToken_134 : decode m_Rd_toNextToken.2.1 134 = .ok (.getfield 22, 3) := by decide +kernel
theorem d_Rd_toNextToken_137 : decode m_Rd_toNextToken.2.1 137 = .ok (.iconst 1, 1) := by decide +kernel
theorem d_Rd_toNextToken_138 : decode m_Rd_toNextToken.2.1 138 = .ok (.iadd, 1) := by decide +kernel
theorem d_Rd_toNextToken_139 : decode m_Rd_toNextToken.2.1 139 = .ok (.putfield 22, 3) := by decide +kernel
theorem d_Rd_toNextToken_142 : decode m_Rd_toNextToken.2.1 142 = .ok (.goto (-48), 3) := by decide +kernel
theorem d_Rd_toNextToken_145 : decode m_Rd_toNextToken.2.1 145 = .ok (.return_, 1) := by decide +kernel
theorem d_Rd_sortOf_0 : decode m_Rd_sortOf.2.1 0 = .ok (.iload_n 0, 1) := by decide +kernel
theorem d_Rd_sortOf_1 : decode m_Rd_sortOf.2.1 1 = .ok (.bipush 97, 2) := by decide +kernel
theorem d_Rd_sortOf_3 : decode m_Rd_sortOf.2.1 3 = .ok (.if_icmp .lt 11, 3) := by decide +kernel
theorem d_Rd_sortOf_6 : decode m_Rd_sortOf.2.1 6 = .ok (.iload_n 0, 1) := by decide +kernel
theorem d_Rd_sortOf_7 : decode m_Rd_sortOf.2.1 7 = .ok (.bipush 122, 2) := by decide +kernel
theorem d_Rd_sortOf_9 : decode m_Rd_sortOf.2.1 9 = .ok (.if_icmp .gt 5, 3) := by decide +kernel
theorem d_Rd_sortOf_12 : decode m_Rd_sortOf.2.1 12 = .ok (.iconst 1, 1) := by decide +kernel
theorem d_Rd_sortOf_13 : decode m_Rd_sortOf.2.1 13 = .ok (.ireturn, 1) := by decide +kernel
theorem d_Rd_sortOf_14 : decode m_Rd_sortOf.2.1 14 = .ok (.iload_n 0, 1) := by decide +kernel
theorem d_Rd_sortOf_15 : decode m_Rd_sortOf.2.1 15 = .ok (.bipush 48, 2) := by decide +kernel
theorem d_Rd_sortOf_17 : decode m_Rd_sortOf.2.1 17 = .ok (.if_icmp .lt 13, 3) := by decide +kernel
theorem d_Rd_sortOf_20 : decode m_Rd_sortOf.2.1 20 = .ok (.iload_n 0, 1) := by decide +kernel
theorem d_Rd_sortOf_21 : decode m_Rd_sortOf.2.1 21 = .ok (.bipush 57, 2) := by decide +kernel
theorem d_Rd_sortOf_23 : decode m_Rd_sortOf.2.1 23 = .ok (.if_icmp .gt 7, 3) := by decide +kernel
theorem d_Rd_sortOf_26 : decode m_Rd_sortOf.2.1 26 = .ok (.iconst 2, 1) := by decide +kernel
theorem d_Rd_sortOf_27 : decode m_Rd_sortOf.2.1 27 = .ok (.goto 4, 3) := by decide +kernel
theorem d_Rd_sortOf_30 : decode m_Rd_sortOf.2.1 30 = .ok (.iconst 3, 1) := by decide +kernel
theorem d_Rd_sortOf_31 : decode m_Rd_sortOf.2.1 31 = .ok (.ireturn, 1) := by decide +kernel
theorem d_Rd_readClause_0 : decode m_Rd_readClause.2.1 0 = .ok (.aload_n 0, 1) := by decide +kernel
theorem d_Rd_readClause_1 : decode m_Rd_readClause.2.1 1 = .ok (.ldc 42, 2) := by decide +kernel
theorem d_Rd_readClause_3 : decode m_Rd_readClause.2.1 3 = .ok (.invokevirtual 44, 3) := by decide +kernel
theorem d_Rd_readClause_6 : decode m_Rd_readClause.2.1 6 = .ok (.ifCond .eq 13, 3) := by decide +kernel
theorem d_Rd_readClause_9 : decode m_Rd_readClause.2.1 9 = .ok (.aload_n 0, 1) := by decide +kernel
theorem d_Rd_readClause_10 : decode m_Rd_readClause.2.1 10 = .ok (.invokevirtual 25, 3) := by decide +kernel
theorem d_Rd_readClause_13 : decode m_Rd_readClause.2.1 13 = .ok (.aload_n 1, 1) := by decide +kernel
theorem d_Rd_readClause_14 : decode m_Rd_readClause.2.1 14 = .ok (.invokevirtual 48, 3) := by decide +kernel
theorem d_Rd_readClause_17 : decode m_Rd_readClause.2.1 17 = .ok (.iconst 1, 1) := by decide +kernel
theorem d_Rd_readClause_18 : decode m_Rd_readClause.2.1 18 = .ok (.ireturn, 1) := by decide +kernel
theorem d_Rd_readClause_19 : decode m_Rd_readClause.2.1 19 = .ok (.aload_n 0, 1) := by decide +kernel
theorem d_Rd_readClause_20 : decode m_Rd_readClause.2.1 20 = .ok (.ldc 53, 2) := by decide +kernel
theorem d_Rd_readClause_22 : decode m_Rd_readClause.2.1 22 = .ok (.invokevirtual 44, 3) := by decide +kernel
theorem d_Rd_readClause_25 : decode m_Rd_readClause.2.1 25 = .ok (.ifCond .eq 9, 3) := by decide +kernel
theorem d_Rd_readClause_28 : decode m_Rd_readClause.2.1 28 = .ok (.aload_n 0, 1) := by decide +kernel
theorem d_Rd_readClause_29 : decode m_Rd_readClause.2.1 29 = .ok (.aload_n 1, 1) := by decide +kernel
theorem d_Rd_readClause_30 : decode m_Rd_readClause.2.1 30 = .ok (.invokevirtual 55, 3) := by decide +kernel
theorem d_Rd_readClause_33 : decode m_Rd_readClause.2.1 33 = .ok (.ireturn, 1) := by decide +kernel
theorem d_Rd_readClause_34 : decode m_Rd_readClause.2.1 34 = .ok (.aload_n 0, 1) := by decide +kernel
theorem d_Rd_readClause_35 : decode m_Rd_readClause.2.1 35 = .ok (.ldc 58, 2) := by decide +kernel
theorem d_Rd_readClause_37 : decode m_Rd_readClause.2.1 37 = .ok (.invokevirtual 44, 3) := by decide +kernel
theorem d_Rd_readClause_40 : decode m_Rd_readClause.2.1 40 = .ok (.ifCond .eq 9, 3) := by decide +kernel
theorem d_Rd_readClause_43 : decode m_Rd_readClause.2.1 43 = .ok (.aload_n 0, 1) := by decide +kernel
theorem d_Rd_readClause_44 : decode m_Rd_readClause.2.1 44 = .ok (.aload_n 1, 1) := by decide +kernel
theorem d_Rd_readClause_45 : decode m_Rd_readClause.2.1 45 = .ok (.invokevirtual 60, 3) := by decide +kernel
theorem d_Rd_readClause_48 : decode m_Rd_readClause.2.1 48 = .ok (.ireturn, 1) := by decide +kernel
theorem d_Rd_readClause_49 : decode m_Rd_readClause.2.1 49 = .ok (.aload_n 0, 1) := by decide +kernel
theorem d_Rd_readClause_50 : decode m_Rd_readClause.2.1 50 = .ok (.invokevirtual 63, 3) := by decide +kernel
theorem d_Rd_readClause_53 : decode m_Rd_readClause.2.1 53 = .ok (.istore_n 2, 1) := by decide +kernel
theorem d_Rd_readClause_54 : decode m_Rd_readClause.2.1 54 = .ok (.iload_n 2, 1) := by decide +kernel
theorem d_Rd_readClause_55 : decode m_Rd_readClause.2.1 55 = .ok (.iconst (-1), 1) := by decide +kernel
theorem d_Rd_readClause_56 : decode m_Rd_readClause.2.1 56 = .ok (.if_icmp .eq 16, 3) := by decide +kernel
theorem d_Rd_readClause_59 : decode m_Rd_readClause.2.1 59 = .ok (.aload_n 0, 1) := by decide +kernel
theorem d_Rd_readClause_60 : decode m_Rd_readClause.2.1 60 = .ok (.aload_n 1, 1) := by decide +kernel
theorem d_Rd_readClause_61 : decode m_Rd_readClause.2.1 61 = .ok (.iload_n 2, 1) := by decide +kernel
theorem d_Rd_readClause_62 : decode m_Rd_readClause.2.1 62 = .ok (.invokevirtual 67, 3) := by decide +kernel
theorem d_Rd_readClause_65 : decode m_Rd_readClause.2.1 65 = .ok (.ifCond .eq 7, 3) := by decide +kernel
theorem d_Rd_readClause_68 : decode m_Rd_readClause.2.1 68 = .ok (.iconst 1, 1) := by decide +kernel
theorem d_Rd_readClause_69 : decode m_Rd_readClause.2.1 69 = .ok (.goto 4, 3) := by decide +kernel
theorem d_Rd_readClause_72 : decode m_Rd_readClause.2.1 72 = .ok (.iconst 0, 1) := by decide +kernel
theorem d_Rd_readClause_73 : decode m_Rd_readClause.2.1 73 = .ok (.ireturn, 1) := by decide +kernel
theorem d_Rd_isWord_0 : decode m_Rd_isWord.2.1 0 = .ok (.aload_n 0, 1) := by decide +kernel
theorem d_Rd_isWord_1 : decode m_Rd_isWord.2.1 1 = .ok (.getfield 35, 3) := by decide +kernel
theorem d_Rd_isWord_4 : decode m_Rd_isWord.2.1 4 = .ok (.iconst 1, 1) := by decide +kernel
theorem d_Rd_isWord_5 : decode m_Rd_isWord.2.1 5 = .ok (.if_icmp .ne 19, 3) := by decide +kernel
theorem d_Rd_isWord_8 : decode m_Rd_isWord.2.1 8 = .ok (.aload_n 0, 1) := by decide +kernel
theorem d_Rd_isWord_9 : decode m_Rd_isWord.2.1 9 = .ok (.getfield 22, 3) := by decide +kernel
theorem d_Rd_isWord_12 : decode m_Rd_isWord.2.1 12 = .ok (.aload_n 0, 1) := by decide +kernel
theorem d_Rd_isWord_13 : decode m_Rd_isWord.2.1 13 = .ok (.getfield 32, 3) := by decide +kernel
theorem d_Rd_isWord_16 : decode m_Rd_isWord.2.1 16 = .ok (.isub, 1) := by decide +kernel
theorem d_Rd_isWord_17 : decode m_Rd_isWord.2.1 17 = .ok (.aload_n 1, 1) := by decide +kernel
theorem d_Rd_isWord_18 : decode m_Rd_isWord.2.1 18 = .ok (.invokevirtual 135, 3) := by decide +kernel
theorem d_Rd_isWord_21 : decode m_Rd_isWord.2.1 21 = .ok (.if_icmp .eq 5, 3) := by decide +kernel
theorem d_Rd_isWord_24 : decode m_Rd_isWord.2.1 24 = .ok (.iconst 0, 1) := by decide +kernel
theorem d_Rd_isWord_25 : decode m_Rd_isWord.2.1 25 = .ok (.ireturn, 1) := by decide +kernel
theorem d_Rd_isWord_26 : decode m_Rd_isWord.2.1 26 = .ok (.iconst 0, 1) := by decide +kernel
theorem d_Rd_isWord_27 : decode m_Rd_isWord.2.1 27 = .ok (.istore_n 2, 1) := by decide +kernel
theorem d_Rd_isWord_28 : decode m_Rd_isWord.2.1 28 = .ok (.iload_n 2, 1) := by decide +kernel
theorem d_Rd_isWord_29 : decode m_Rd_isWord.2.1 29 = .ok (.aload_n 1, 1) := by decide +kernel
theorem d_Rd_isWord_30 : decode m_Rd_isWord.2.1 30 = .ok (.invokevirtual 135, 3) := by decide +kernel
theorem d_Rd_isWord_33 : decode m_Rd_isWord.2.1 33 = .ok (.if_icmp .ge 30, 3) := by decide +kernel
theorem d_Rd_isWord_36 : decode m_Rd_isWord.2.1 36 = .ok (.aload_n 0, 1) := by decide +kernel
theorem d_Rd_isWord_37 : decode m_Rd_isWord.2.1 37 = .ok (.getfield 11, 3) := by decide +kernel
theorem d_Rd_isWord_40 : decode m_Rd_isWord.2.1 40 = .ok (.aload_n 0, 1) := by decide +kernel
theorem d_Rd_isWord_41 : decode m_Rd_isWord.2.1 41 = .ok (.getfield 32, 3) := by decide +kernel
theorem d_Rd_isWord_44 : decode m_Rd_isWord.2.1 44 = .ok (.iload_n 2, 1) := by decide +kernel
theorem d_Rd_isWord_45 : decode m_Rd_isWord.2.1 45 = .ok (.iadd, 1) := by decide +kernel
theorem d_Rd_isWord_46 : decode m_Rd_isWord.2.1 46 = .ok (.iaload, 1) := by decide +kernel
theorem d_Rd_isWord_47 : decode m_Rd_isWord.2.1 47 = .ok (.aload_n 1, 1) := by decide +kernel
theorem d_Rd_isWord_48 : decode m_Rd_isWord.2.1 48 = .ok (.iload_n 2, 1) := by decide +kernel
theorem d_Rd_isWord_49 : decode m_Rd_isWord.2.1 49 = .ok (.invokevirtual 139, 3) := by decide +kernel
theorem d_Rd_isWord_52 : decode m_Rd_isWord.2.1 52 = .ok (.if_icmp .eq 5, 3) := by decide +kernel
theorem d_Rd_isWord_55 : decode m_Rd_isWord.2.1 55 = .ok (.iconst 0, 1) := by decide +kernel
theorem d_Rd_isWord_56 : decode m_Rd_isWord.2.1 56 = .ok (.ireturn, 1) := by decide +kernel
theorem d_Rd_isWord_57 : decode m_Rd_isWord.2.1 57 = .ok (.iinc 2 1, 3) := by decide +kernel
theorem d_Rd_isWord_60 : decode m_Rd_isWord.2.1 60 = .ok (.goto (-32), 3) := by decide +kernel
theorem d_Rd_isWord_63 : decode m_Rd_isWord.2.1 63 = .ok (.iconst 1, 1) := by decide +kernel
theorem d_Rd_isWord_64 : decode m_Rd_isWord.2.1 64 = .ok (.ireturn, 1) := by decide +kernel
theorem d_Tl_clear_0 : decode m_Tl_clear.2.1 0 = .ok (.aload_n 0, 1) := by decide +kernel
theorem d_Tl_clear_1 : decode m_Tl_clear.2.1 1 = .ok (.iconst 0, 1) := by decide +kernel
theorem d_Tl_clear_2 : decode m_Tl_clear.2.1 2 = .ok (.putfield 36, 3) := by decide +kernel
theorem d_Tl_clear_5 : decode m_Tl_clear.2.1 5 = .ok (.aload_n 0, 1) := by decide +kernel
theorem d_Tl_clear_6 : decode m_Tl_clear.2.1 6 = .ok (.iconst 0, 1) := by decide +kernel
theorem d_Tl_clear_7 : decode m_Tl_clear.2.1 7 = .ok (.putfield 40, 3) := by decide +kernel
theorem d_Tl_clear_10 : decode m_Tl_clear.2.1 10 = .ok (.return_, 1) := by decide +kernel
theorem d_Rd_readPerson_0 : decode m_Rd_readPerson.2.1 0 = .ok (.aload_n 1, 1) := by decide +kernel
theorem d_Rd_readPerson_1 : decode m_Rd_readPerson.2.1 1 = .ok (.invokevirtual 83, 3) := by decide +kernel
theorem d_Rd_readPerson_4 : decode m_Rd_readPerson.2.1 4 = .ok (.ifCond .ne 5, 3) := by decide +kernel
theorem d_Rd_readPerson_7 : decode m_Rd_readPerson.2.1 7 = .ok (.iconst 0, 1) := by decide +kernel
theorem d_Rd_readPerson_8 : decode m_Rd_readPerson.2.1 8 = .ok (.ireturn, 1) := by decide +kernel
theorem d_Rd_readPerson_9 : decode m_Rd_readPerson.2.1 9 = .ok (.aload_n 0, 1) := by decide +kernel
theorem d_Rd_readPerson_10 : decode m_Rd_readPerson.2.1 10 = .ok (.invokevirtual 25, 3) := by decide +kernel
theorem d_Rd_readPerson_13 : decode m_Rd_readPerson.2.1 13 = .ok (.aload_n 0, 1) := by decide +kernel
theorem d_Rd_readPerson_14 : decode m_Rd_readPerson.2.1 14 = .ok (.iconst 1, 1) := by decide +kernel
theorem d_Rd_readPerson_15 : decode m_Rd_readPerson.2.1 15 = .ok (.bipush 9, 2) := by decide +kernel
theorem d_Rd_readPerson_17 : decode m_Rd_readPerson.2.1 17 = .ok (.invokevirtual 87, 3) := by decide +kernel
theorem d_Rd_readPerson_20 : decode m_Rd_readPerson.2.1 20 = .ok (.ifCond .ne 5, 3) := by decide +kernel
theorem d_Rd_readPerson_23 : decode m_Rd_readPerson.2.1 23 = .ok (.iconst 0, 1) := by decide +kernel
theorem d_Rd_readPerson_24 : decode m_Rd_readPerson.2.1 24 = .ok (.ireturn, 1) := by decide +kernel
theorem d_Rd_readPerson_25 : decode m_Rd_readPerson.2.1 25 = .ok (.aload_n 0, 1) := by decide +kernel
theorem d_Rd_readPerson_26 : decode m_Rd_readPerson.2.1 26 = .ok (.invokevirtual 91, 3) := by decide +kernel
theorem d_Rd_readPerson_29 : decode m_Rd_readPerson.2.1 29 = .ok (.istore_n 2, 1) := by decide +kernel
theorem d_Rd_readPerson_30 : decode m_Rd_readPerson.2.1 30 = .ok (.aload_n 0, 1) := by decide +kernel
theorem d_Rd_readPerson_31 : decode m_Rd_readPerson.2.1 31 = .ok (.iconst 1, 1) := by decide +kernel
theorem d_Rd_readPerson_32 : decode m_Rd_readPerson.2.1 32 = .ok (.bipush 60, 2) := by decide +kernel
theorem d_Rd_readPerson_34 : decode m_Rd_readPerson.2.1 34 = .ok (.invokevirtual 87, 3) := by decide +kernel
theorem d_Rd_readPerson_37 : decode m_Rd_readPerson.2.1 37 = .ok (.ifCond .ne 5, 3) := by decide +kernel
theorem d_Rd_readPerson_40 : decode m_Rd_readPerson.2.1 40 = .ok (.iconst 0, 1) := by decide +kernel
theorem d_Rd_readPerson_41 : decode m_Rd_readPerson.2.1 41 = .ok (.ireturn, 1) := by decide +kernel
theorem d_Rd_readPerson_42 : decode m_Rd_readPerson.2.1 42 = .ok (.aload_n 0, 1) := by decide +kernel
theorem d_Rd_readPerson_43 : decode m_Rd_readPerson.2.1 43 = .ok (.invokevirtual 91, 3) := by decide +kernel
theorem d_Rd_readPerson_46 : decode m_Rd_readPerson.2.1 46 = .ok (.istore_n 3, 1) := by decide +kernel
theorem d_Rd_readPerson_47 : decode m_Rd_readPerson.2.1 47 = .ok (.iconst (-1), 1) := by decide +kernel
theorem d_Rd_readPerson_48 : decode m_Rd_readPerson.2.1 48 = .ok (.istore 4, 2) := by decide +kernel
theorem d_Rd_readPerson_50 : decode m_Rd_readPerson.2.1 50 = .ok (.aload_n 0, 1) := by decide +kernel
theorem d_Rd_readPerson_51 : decode m_Rd_readPerson.2.1 51 = .ok (.getfield 35, 3) := by decide +kernel
theorem d_Rd_readPerson_54 : decode m_Rd_readPerson.2.1 54 = .ok (.iconst 2, 1) := by decide +kernel
theorem d_Rd_readPerson_55 : decode m_Rd_readPerson.2.1 55 = .ok (.if_icmp .ne 25, 3) := by decide +kernel
theorem d_Rd_readPerson_58 : decode m_Rd_readPerson.2.1 58 = .ok (.aload_n 0, 1) := by decide +kernel
theorem d_Rd_readPerson_59 : decode m_Rd_readPerson.2.1 59 = .ok (.iconst 0, 1) := by decide +kernel
theorem d_Rd_readPerson_60 : decode m_Rd_readPerson.2.1 60 = .ok (.aload_n 1, 1) := by decide +kernel
theorem d_Rd_readPerson_61 : decode m_Rd_readPerson.2.1 61 = .ok (.getfield 94, 3) := by decide +kernel
theorem d_Rd_readPerson_64 : decode m_Rd_readPerson.2.1 64 = .ok (.iconst 1, 1) := by decide +kernel
theorem d_Rd_readPerson_65 : decode m_Rd_readPerson.2.1 65 = .ok (.isub, 1) := by decide +kernel
theorem d_Rd_readPerson_66 : decode m_Rd_readPerson.2.1 66 = .ok (.invokevirtual 87, 3) := by decide +kernel
theorem d_Rd_readPerson_69 : decode m_Rd_readPerson.2.1 69 = .ok (.ifCond .ne 5, 3) := by decide +kernel
theorem d_Rd_readPerson_72 : decode m_Rd_readPerson.2.1 72 = .ok (.iconst 0, 1) := by decide +kernel
theorem d_Rd_readPerson_73 : decode m_Rd_readPerson.2.1 73 = .ok (.ireturn, 1) := by decide +kernel
theorem d_Rd_readPerson_74 : decode m_Rd_readPerson.2.1 74 = .ok (.aload_n 0, 1) := by decide +kernel
theorem d_Rd_readPerson_75 : decode m_Rd_readPerson.2.1 75 = .ok (.invokevirtual 91, 3) := by decide +kernel
theorem d_Rd_readPerson_78 : decode m_Rd_readPerson.2.1 78 = .ok (.istore 4, 2) := by decide +kernel
theorem d_Rd_readPerson_80 : decode m_Rd_readPerson.2.1 80 = .ok (.aload_n 1, 1) := by decide +kernel
theorem d_Rd_readPerson_81 : decode m_Rd_readPerson.2.1 81 = .ok (.iload_n 2, 1) := by decide +kernel
theorem d_Rd_readPerson_82 : decode m_Rd_readPerson.2.1 82 = .ok (.iload_n 3, 1) := by decide +kernel
theorem d_Rd_readPerson_83 : decode m_Rd_readPerson.2.1 83 = .ok (.iload 4, 2) := by decide +kernel
theorem d_Rd_readPerson_85 : decode m_Rd_readPerson.2.1 85 = .ok (.invokevirtual 97, 3) := by decide +kernel
theorem d_Rd_readPerson_88 : decode m_Rd_readPerson.2.1 88 = .ok (.iconst 1, 1) := by decide +kernel
theorem d_Rd_readPerson_89 : decode m_Rd_readPerson.2.1 89 = .ok (.ireturn, 1) := by decide +kernel
theorem d_Tl_hasRoomForPerson_0 : decode m_Tl_hasRoomForPerson.2.1 0 = .ok (.aload_n 0, 1) := by decide +kernel
theorem d_Tl_hasRoomForPerson_1 : decode m_Tl_hasRoomForPerson.2.1 1 = .ok (.getfield 36, 3) := by decide +kernel
theorem d_Tl_hasRoomForPerson_4 : decode m_Tl_hasRoomForPerson.2.1 4 = .ok (.iconst 5, 1) := by decide +kernel
theorem d_Tl_hasRoomForPerson_5 : decode m_Tl_hasRoomForPerson.2.1 5 = .ok (.if_icmp .ge 7, 3) := by decide +kernel
theorem d_Tl_hasRoomForPerson_8 : decode m_Tl_hasRoomForPerson.2.1 8 = .ok (.iconst 1, 1) := by decide +kernel
theorem d_Tl_hasRoomForPerson_9 : decode m_Tl_hasRoomForPerson.2.1 9 = .ok (.goto 4, 3) := by decide +kernel
theorem d_Tl_hasRoomForPerson_12 : decode m_Tl_hasRoomForPerson.2.1 12 = .ok (.iconst 0, 1) := by decide +kernel
theorem d_Tl_hasRoomForPerson_13 : decode m_Tl_hasRoomForPerson.2.1 13 = .ok (.ireturn, 1) := by decide +kernel
theorem d_Rd_isNumber_0 : decode m_Rd_isNumber.2.1 0 = .ok (.aload_n 0, 1) := by decide +kernel
theorem d_Rd_isNumber_1 : decode m_Rd_isNumber.2.1 1 = .ok (.getfield 35, 3) := by decide +kernel
theorem d_Rd_isNumber_4 : decode m_Rd_isNumber.2.1 4 = .ok (.iconst 2, 1) := by decide +kernel
theorem d_Rd_isNumber_5 : decode m_Rd_isNumber.2.1 5 = .ok (.if_icmp .ne 32, 3) := by decide +kernel
theorem d_Rd_isNumber_8 : decode m_Rd_isNumber.2.1 8 = .ok (.aload_n 0, 1) := by decide +kernel
theorem d_Rd_isNumber_9 : decode m_Rd_isNumber.2.1 9 = .ok (.getfield 22, 3) := by decide +kernel
theorem d_Rd_isNumber_12 : decode m_Rd_isNumber.2.1 12 = .ok (.aload_n 0, 1) := by decide +kernel
theorem d_Rd_isNumber_13 : decode m_Rd_isNumber.2.1 13 = .ok (.getfield 32, 3) := by decide +kernel
theorem d_Rd_isNumber_16 : decode m_Rd_isNumber.2.1 16 = .ok (.isub, 1) := by decide +kernel
theorem d_Rd_isNumber_17 : decode m_Rd_isNumber.2.1 17 = .ok (.iconst 2, 1) := by decide +kernel
theorem d_Rd_isNumber_18 : decode m_Rd_isNumber.2.1 18 = .ok (.if_icmp .gt 19, 3) := by decide +kernel
theorem d_Rd_isNumber_21 : decode m_Rd_isNumber.2.1 21 = .ok (.aload_n 0, 1) := by decide +kernel
theorem d_Rd_isNumber_22 : decode m_Rd_isNumber.2.1 22 = .ok (.invokevirtual 115, 3) := by decide +kernel
theorem d_Rd_isNumber_25 : decode m_Rd_isNumber.2.1 25 = .ok (.iload_n 1, 1) := by decide +kernel
theorem d_Rd_isNumber_26 : decode m_Rd_isNumber.2.1 26 = .ok (.iload_n 2, 1) := by decide +kernel
theorem d_Rd_isNumber_27 : decode m_Rd_isNumber.2.1 27 = .ok (.invokestatic 131, 3) := by decide +kernel
theorem d_Rd_isNumber_30 : decode m_Rd_isNumber.2.1 30 = .ok (.ifCond .eq 7, 3) := by decide +kernel
theorem d_Rd_isNumber_33 : decode m_Rd_isNumber.2.1 33 = .ok (.iconst 1, 1) := by decide +kernel
theorem d_Rd_isNumber_34 : decode m_Rd_isNumber.2.1 34 = .ok (.goto 4, 3) := by decide +kernel
theorem d_Rd_isNumber_37 : decode m_Rd_isNumber.2.1 37 = .ok (.iconst 0, 1) := by decide +kernel
theorem d_Rd_isNumber_38 : decode m_Rd_isNumber.2.1 38 = .ok (.ireturn, 1) := by decide +kernel
theorem d_Rd_numberHere_0 : decode m_Rd_numberHere.2.1 0 = .ok (.iconst 0, 1) := by decide +kernel
theorem d_Rd_numberHere_1 : decode m_Rd_numberHere.2.1 1 = .ok (.istore_n 1, 1) := by decide +kernel
theorem d_Rd_numberHere_2 : decode m_Rd_numberHere.2.1 2 = .ok (.aload_n 0, 1) := by decide +kernel
theorem d_Rd_numberHere_3 : decode m_Rd_numberHere.2.1 3 = .ok (.getfield 32, 3) := by decide +kernel
theorem d_Rd_numberHere_6 : decode m_Rd_numberHere.2.1 6 = .ok (.istore_n 2, 1) := by decide +kernel
theorem d_Rd_numberHere_7 : decode m_Rd_numberHere.2.1 7 = .ok (.iload_n 2, 1) := by decide +kernel
theorem d_Rd_numberHere_8 : decode m_Rd_numberHere.2.1 8 = .ok (.aload_n 0, 1) := by decide +kernel
theorem d_Rd_numberHere_9 : decode m_Rd_numberHere.2.1 9 = .ok (.getfield 22, 3) := by decide +kernel
theorem d_Rd_numberHere_12 : decode m_Rd_numberHere.2.1 12 = .ok (.if_icmp .ge 34, 3) := by decide +kernel
theorem d_Rd_numberHere_15 : decode m_Rd_numberHere.2.1 15 = .ok (.iload_n 2, 1) := by decide +kernel
theorem d_Rd_numberHere_16 : decode m_Rd_numberHere.2.1 16 = .ok (.aload_n 0, 1) := by decide +kernel
theorem d_Rd_numberHere_17 : decode m_Rd_numberHere.2.1 17 = .ok (.getfield 32, 3) := by decide +kernel
theorem d_Rd_numberHere_20 : decode m_Rd_numberHere.2.1 20 = .ok (.iconst 2, 1) := by decide +kernel
theorem d_Rd_numberHere_21 : decode m_Rd_numberHere.2.1 21 = .ok (.iadd, 1) := by decide +kernel
theorem d_Rd_numberHere_22 : decode m_Rd_numberHere.2.1 22 = .ok (.if_icmp .ge 24, 3) := by decide +kernel
theorem d_Rd_numberHere_25 : decode m_Rd_numberHere.2.1 25 = .ok (.iload_n 1, 1) := by decide +kernel
theorem d_Rd_numberHere_26 : decode m_Rd_numberHere.2.1 26 = .ok (.bipush 10, 2) := by decide +kernel
theorem d_Rd_numberHere_28 : decode m_Rd_numberHere.2.1 28 = .ok (.imul, 1) := by decide +kernel
theorem d_Rd_numberHere_29 : decode m_Rd_numberHere.2.1 29 = .ok (.aload_n 0, 1) := by decide +kernel
theorem d_Rd_numberHere_30 : decode m_Rd_numberHere.2.1 30 = .ok (.getfield 11, 3) := by decide +kernel
theorem d_Rd_numberHere_33 : decode m_Rd_numberHere.2.1 33 = .ok (.iload_n 2, 1) := by decide +kernel
theorem d_Rd_numberHere_34 : decode m_Rd_numberHere.2.1 34 = .ok (.iaload, 1) := by decide +kernel
theorem d_Rd_numberHere_35 : decode m_Rd_numberHere.2.1 35 = .ok (.iadd, 1) := by decide +kernel
theorem d_Rd_numberHere_36 : decode m_Rd_numberHere.2.1 36 = .ok (.bipush 48, 2) := by decide +kernel
theorem d_Rd_numberHere_38 : decode m_Rd_numberHere.2.1 38 = .ok (.isub, 1) := by decide +kernel
theorem d_Rd_numberHere_39 : decode m_Rd_numberHere.2.1 39 = .ok (.istore_n 1, 1) := by decide +kernel
theorem d_Rd_numberHere_40 : decode m_Rd_numberHere.2.1 40 = .ok (.iinc 2 1, 3) := by decide +kernel
theorem d_Rd_numberHere_43 : decode m_Rd_numberHere.2.1 43 = .ok (.goto (-36), 3) := by decide +kernel
theorem d_Rd_numberHere_46 : decode m_Rd_numberHere.2.1 46 = .ok (.iload_n 1, 1) := by decide +kernel
theorem d_Rd_numberHere_47 : decode m_Rd_numberHere.2.1 47 = .ok (.ireturn, 1) := by decide +kernel
theorem d_Rd_takeNumber_0 : decode m_Rd_takeNumber.2.1 0 = .ok (.aload_n 0, 1) := by decide +kernel
theorem d_Rd_takeNumber_1 : decode m_Rd_takeNumber.2.1 1 = .ok (.invokevirtual 115, 3) := by decide +kernel
theorem d_Rd_takeNumber_4 : decode m_Rd_takeNumber.2.1 4 = .ok (.istore_n 1, 1) := by decide +kernel
theorem d_Rd_takeNumber_5 : decode m_Rd_takeNumber.2.1 5 = .ok (.aload_n 0, 1) := by decide +kernel
theorem d_Rd_takeNumber_6 : decode m_Rd_takeNumber.2.1 6 = .ok (.invokevirtual 25, 3) := by decide +kernel
theorem d_Rd_takeNumber_9 : decode m_Rd_takeNumber.2.1 9 = .ok (.iload_n 1, 1) := by decide +kernel
theorem d_Rd_takeNumber_10 : decode m_Rd_takeNumber.2.1 10 = .ok (.ireturn, 1) := by decide +kernel
theorem d_Tl_addPerson_0 : decode m_Tl_addPerson.2.1 0 = .ok (.aload_n 0, 1) := by decide +kernel
theorem d_Tl_addPerson_1 : decode m_Tl_addPerson.2.1 1 = .ok (.invokevirtual 49, 3) := by decide +kernel
theorem d_Tl_addPerson_4 : decode m_Tl_addPerson.2.1 4 = .ok (.ifCond .eq 43, 3) := by decide +kernel
theorem d_Tl_addPerson_7 : decode m_Tl_addPerson.2.1 7 = .ok (.aload_n 0, 1) := by decide +kernel
theorem d_Tl_addPerson_8 : decode m_Tl_addPerson.2.1 8 = .ok (.getfield 9, 3) := by decide +kernel
theorem d_Tl_addPerson_11 : decode m_Tl_addPerson.2.1 11 = .ok (.aload_n 0, 1) := by decide +kernel
theorem d_Tl_addPerson_12 : decode m_Tl_addPerson.2.1 12 = .ok (.getfield 36, 3) := by decide +kernel
theorem d_Tl_addPerson_15 : decode m_Tl_addPerson.2.1 15 = .ok (.iload_n 1, 1) := by decide +kernel
theorem d_Tl_addPerson_16 : decode m_Tl_addPerson.2.1 16 = .ok (.iastore, 1) := by decide +kernel
theorem d_Tl_addPerson_17 : decode m_Tl_addPerson.2.1 17 = .ok (.aload_n 0, 1) := by decide +kernel
theorem d_Tl_addPerson_18 : decode m_Tl_addPerson.2.1 18 = .ok (.getfield 15, 3) := by decide +kernel
theorem d_Tl_addPerson_21 : decode m_Tl_addPerson.2.1 21 = .ok (.aload_n 0, 1) := by decide +kernel
theorem d_Tl_addPerson_22 : decode m_Tl_addPerson.2.1 22 = .ok (.getfield 36, 3) := by decide +kernel
theorem d_Tl_addPerson_25 : decode m_Tl_addPerson.2.1 25 = .ok (.iload_n 2, 1) := by decide +kernel
theorem d_Tl_addPerson_26 : decode m_Tl_addPerson.2.1 26 = .ok (.iastore, 1) := by decide +kernel
theorem d_Tl_addPerson_27 : decode m_Tl_addPerson.2.1 27 = .ok (.aload_n 0, 1) := by decide +kernel
theorem d_Tl_addPerson_28 : decode m_Tl_addPerson.2.1 28 = .ok (.getfield 18, 3) := by decide +kernel
theorem d_Tl_addPerson_31 : decode m_Tl_addPerson.2.1 31 = .ok (.aload_n 0, 1) := by decide +kernel
theorem d_Tl_addPerson_32 : decode m_Tl_addPerson.2.1 32 = .ok (.getfield 36, 3) := by decide +kernel
theorem d_Tl_addPerson_35 : decode m_Tl_addPerson.2.1 35 = .ok (.iload_n 3, 1) := by decide +kernel
theorem d_Tl_addPerson_36 : decode m_Tl_addPerson.2.1 36 = .ok (.iastore, 1) := by decide +kernel
theorem d_Tl_addPerson_37 : decode m_Tl_addPerson.2.1 37 = .ok (.aload_n 0, 1) := by decide +kernel
theorem d_Tl_addPerson_38 : decode m_Tl_addPerson.2.1 38 = .ok (.dup, 1) := by decide +kernel
theorem d_Tl_addPerson_39 : decode m_Tl_addPerson.2.1 39 = .ok (.getfield 36, 3) := by decide +kernel
theorem d_Tl_addPerson_42 : decode m_Tl_addPerson.2.1 42 = .ok (.iconst 1, 1) := by decide +kernel
theorem d_Tl_addPerson_43 : decode m_Tl_addPerson.2.1 43 = .ok (.iadd, 1) := by decide +kernel
theorem d_Tl_addPerson_44 : decode m_Tl_addPerson.2.1 44 = .ok (.putfield 36, 3) := by decide +kernel
theorem d_Tl_addPerson_47 : decode m_Tl_addPerson.2.1 47 = .ok (.return_, 1) := by decide +kernel
theorem d_Rd_readStrife_0 : decode m_Rd_readStrife.2.1 0 = .ok (.aload_n 0, 1) := by decide +kernel
theorem d_Rd_readStrife_1 : decode m_Rd_readStrife.2.1 1 = .ok (.invokevirtual 25, 3) := by decide +kernel
theorem d_Rd_readStrife_4 : decode m_Rd_readStrife.2.1 4 = .ok (.aload_n 0, 1) := by decide +kernel
theorem d_Rd_readStrife_5 : decode m_Rd_readStrife.2.1 5 = .ok (.iconst 0, 1) := by decide +kernel
theorem d_Rd_readStrife_6 : decode m_Rd_readStrife.2.1 6 = .ok (.aload_n 1, 1) := by decide +kernel
theorem d_Rd_readStrife_7 : decode m_Rd_readStrife.2.1 7 = .ok (.getfield 104, 3) := by decide +kernel
theorem d_Rd_readStrife_10 : decode m_Rd_readStrife.2.1 10 = .ok (.iconst 1, 1) := by decide +kernel
theorem d_Rd_readStrife_11 : decode m_Rd_readStrife.2.1 11 = .ok (.isub, 1) := by decide +kernel
theorem d_Rd_readStrife_12 : decode m_Rd_readStrife.2.1 12 = .ok (.invokevirtual 87, 3) := by decide +kernel
theorem d_Rd_readStrife_15 : decode m_Rd_readStrife.2.1 15 = .ok (.ifCond .ne 5, 3) := by decide +kernel
theorem d_Rd_readStrife_18 : decode m_Rd_readStrife.2.1 18 = .ok (.iconst 0, 1) := by decide +kernel
theorem d_Rd_readStrife_19 : decode m_Rd_readStrife.2.1 19 = .ok (.ireturn, 1) := by decide +kernel
theorem d_Rd_readStrife_20 : decode m_Rd_readStrife.2.1 20 = .ok (.aload_n 0, 1) := by decide +kernel
theorem d_Rd_readStrife_21 : decode m_Rd_readStrife.2.1 21 = .ok (.invokevirtual 91, 3) := by decide +kernel
theorem d_Rd_readStrife_24 : decode m_Rd_readStrife.2.1 24 = .ok (.istore_n 2, 1) := by decide +kernel
theorem d_Rd_readStrife_25 : decode m_Rd_readStrife.2.1 25 = .ok (.aload_n 0, 1) := by decide +kernel
theorem d_Rd_readStrife_26 : decode m_Rd_readStrife.2.1 26 = .ok (.iconst 0, 1) := by decide +kernel
theorem d_Rd_readStrife_27 : decode m_Rd_readStrife.2.1 27 = .ok (.aload_n 1, 1) := by decide +kernel
theorem d_Rd_readStrife_28 : decode m_Rd_readStrife.2.1 28 = .ok (.getfield 104, 3) := by decide +kernel
theorem d_Rd_readStrife_31 : decode m_Rd_readStrife.2.1 31 = .ok (.iconst 1, 1) := by decide +kernel
theorem d_Rd_readStrife_32 : decode m_Rd_readStrife.2.1 32 = .ok (.isub, 1) := by decide +kernel
theorem d_Rd_readStrife_33 : decode m_Rd_readStrife.2.1 33 = .ok (.invokevirtual 87, 3) := by decide +kernel
theorem d_Rd_readStrife_36 : decode m_Rd_readStrife.2.1 36 = .ok (.ifCond .eq 11, 3) := by decide +kernel
theorem d_Rd_readStrife_39 : decode m_Rd_readStrife.2.1 39 = .ok (.aload_n 0, 1) := by decide +kernel
theorem d_Rd_readStrife_40 : decode m_Rd_readStrife.2.1 40 = .ok (.invokevirtual 115, 3) := by decide +kernel
theorem d_Rd_readStrife_43 : decode m_Rd_readStrife.2.1 43 = .ok (.iload_n 2, 1) := by decide +kernel
theorem d_Rd_readStrife_44 : decode m_Rd_readStrife.2.1 44 = .ok (.if_icmp .ne 5, 3) := by decide +kernel
theorem d_Rd_readStrife_47 : decode m_Rd_readStrife.2.1 47 = .ok (.iconst 0, 1) := by decide +kernel
theorem d_Rd_readStrife_48 : decode m_Rd_readStrife.2.1 48 = .ok (.ireturn, 1) := by decide +kernel
theorem d_Rd_readStrife_49 : decode m_Rd_readStrife.2.1 49 = .ok (.aload_n 1, 1) := by decide +kernel
theorem d_Rd_readStrife_50 : decode m_Rd_readStrife.2.1 50 = .ok (.iload_n 2, 1) := by decide +kernel
theorem d_Rd_readStrife_51 : decode m_Rd_readStrife.2.1 51 = .ok (.aload_n 0, 1) := by decide +kernel
theorem d_Rd_readStrife_52 : decode m_Rd_readStrife.2.1 52 = .ok (.invokevirtual 91, 3) := by decide +kernel
theorem d_Rd_readStrife_55 : decode m_Rd_readStrife.2.1 55 = .ok (.invokevirtual 118, 3) := by decide +kernel
theorem d_Rd_readStrife_58 : decode m_Rd_readStrife.2.1 58 = .ok (.iconst 1, 1) := by decide +kernel
theorem d_Rd_readStrife_59 : decode m_Rd_readStrife.2.1 59 = .ok (.ireturn, 1) := by decide +kernel
theorem d_Tl_addStrife_0 : decode m_Tl_addStrife.2.1 0 = .ok (.aload_n 0, 1) := by decide +kernel
theorem d_Tl_addStrife_1 : decode m_Tl_addStrife.2.1 1 = .ok (.getfield 33, 3) := by decide +kernel
theorem d_Tl_addStrife_4 : decode m_Tl_addStrife.2.1 4 = .ok (.iload_n 1, 1) := by decide +kernel
theorem d_Tl_addStrife_5 : decode m_Tl_addStrife.2.1 5 = .ok (.dup2, 1) := by decide +kernel
theorem d_Tl_addStrife_6 : decode m_Tl_addStrife.2.1 6 = .ok (.iaload, 1) := by decide +kernel
theorem d_Tl_addStrife_7 : decode m_Tl_addStrife.2.1 7 = .ok (.iconst 1, 1) := by decide +kernel
theorem d_Tl_addStrife_8 : decode m_Tl_addStrife.2.1 8 = .ok (.iload_n 2, 1) := by decide +kernel
theorem d_Tl_addStrife_9 : decode m_Tl_addStrife.2.1 9 = .ok (.ishl, 1) := by decide +kernel
theorem d_Tl_addStrife_10 : decode m_Tl_addStrife.2.1 10 = .ok (.ior, 1) := by decide +kernel
theorem d_Tl_addStrife_11 : decode m_Tl_addStrife.2.1 11 = .ok (.iastore, 1) := by decide +kernel
theorem d_Tl_addStrife_12 : decode m_Tl_addStrife.2.1 12 = .ok (.aload_n 0, 1) := by decide +kernel
theorem d_Tl_addStrife_13 : decode m_Tl_addStrife.2.1 13 = .ok (.getfield 33, 3) := by decide +kernel
theorem d_Tl_addStrife_16 : decode m_Tl_addStrife.2.1 16 = .ok (.iload_n 2, 1) := by decide +kernel
theorem d_Tl_addStrife_17 : decode m_Tl_addStrife.2.1 17 = .ok (.dup2, 1) := by decide +kernel
theorem d_Tl_addStrife_18 : decode m_Tl_addStrife.2.1 18 = .ok (.iaload, 1) := by decide +kernel
theorem d_Tl_addStrife_19 : decode m_Tl_addStrife.2.1 19 = .ok (.iconst 1, 1) := by decide +kernel
theorem d_Tl_addStrife_20 : decode m_Tl_addStrife.2.1 20 = .ok (.iload_n 1, 1) := by decide +kernel
theorem d_Tl_addStrife_21 : decode m_Tl_addStrife.2.1 21 = .ok (.ishl, 1) := by decide +kernel
theorem d_Tl_addStrife_22 : decode m_Tl_addStrife.2.1 22 = .ok (.ior, 1) := by decide +kernel
theorem d_Tl_addStrife_23 : decode m_Tl_addStrife.2.1 23 = .ok (.iastore, 1) := by decide +kernel
theorem d_Tl_addStrife_24 : decode m_Tl_addStrife.2.1 24 = .ok (.return_, 1) := by decide +kernel
theorem d_Rd_kindByWord_0 : decode m_Rd_kindByWord.2.1 0 = .ok (.aload_n 0, 1) := by decide +kernel
theorem d_Rd_kindByWord_1 : decode m_Rd_kindByWord.2.1 1 = .ok (.ldc 71, 2) := by decide +kernel
theorem d_Rd_kindByWord_3 : decode m_Rd_kindByWord.2.1 3 = .ok (.invokevirtual 44, 3) := by decide +kernel
theorem d_Rd_kindByWord_6 : decode m_Rd_kindByWord.2.1 6 = .ok (.ifCond .eq 5, 3) := by decide +kernel
theorem d_Rd_kindByWord_9 : decode m_Rd_kindByWord.2.1 9 = .ok (.iconst 0, 1) := by decide +kernel
theorem d_Rd_kindByWord_10 : decode m_Rd_kindByWord.2.1 10 = .ok (.ireturn, 1) := by decide +kernel
theorem d_Rd_kindByWord_11 : decode m_Rd_kindByWord.2.1 11 = .ok (.aload_n 0, 1) := by decide +kernel
theorem d_Rd_kindByWord_12 : decode m_Rd_kindByWord.2.1 12 = .ok (.ldc 75, 2) := by decide +kernel
theorem d_Rd_kindByWord_14 : decode m_Rd_kindByWord.2.1 14 = .ok (.invokevirtual 44, 3) := by decide +kernel
theorem d_Rd_kindByWord_17 : decode m_Rd_kindByWord.2.1 17 = .ok (.ifCond .eq 5, 3) := by decide +kernel
theorem d_Rd_kindByWord_20 : decode m_Rd_kindByWord.2.1 20 = .ok (.iconst 1, 1) := by decide +kernel
theorem d_Rd_kindByWord_21 : decode m_Rd_kindByWord.2.1 21 = .ok (.ireturn, 1) := by decide +kernel
theorem d_Rd_kindByWord_22 : decode m_Rd_kindByWord.2.1 22 = .ok (.aload_n 0, 1) := by decide +kernel
theorem d_Rd_kindByWord_23 : decode m_Rd_kindByWord.2.1 23 = .ok (.ldc 77, 2) := by decide +kernel
theorem d_Rd_kindByWord_25 : decode m_Rd_kindByWord.2.1 25 = .ok (.invokevirtual 44, 3) := by decide +kernel
theorem d_Rd_kindByWord_28 : decode m_Rd_kindByWord.2.1 28 = .ok (.ifCond .eq 5, 3) := by decide +kernel
theorem d_Rd_kindByWord_31 : decode m_Rd_kindByWord.2.1 31 = .ok (.iconst 2, 1) := by decide +kernel
theorem d_Rd_kindByWord_32 : decode m_Rd_kindByWord.2.1 32 = .ok (.ireturn, 1) := by decide +kernel
theorem d_Rd_kindByWord_33 : decode m_Rd_kindByWord.2.1 33 = .ok (.aload_n 0, 1) := by decide +kernel
theorem d_Rd_kindByWord_34 : decode m_Rd_kindByWord.2.1 34 = .ok (.ldc 79, 2) := by decide +kernel
theorem d_Rd_kindByWord_36 : decode m_Rd_kindByWord.2.1 36 = .ok (.invokevirtual 44, 3) := by decide +kernel
theorem d_Rd_kindByWord_39 : decode m_Rd_kindByWord.2.1 39 = .ok (.ifCond .eq 5, 3) := by decide +kernel
theorem d_Rd_kindByWord_42 : decode m_Rd_kindByWord.2.1 42 = .ok (.iconst 3, 1) := by decide +kernel
theorem d_Rd_kindByWord_43 : decode m_Rd_kindByWord.2.1 43 = .ok (.ireturn, 1) := by decide +kernel
theorem d_Rd_kindByWord_44 : decode m_Rd_kindByWord.2.1 44 = .ok (.aload_n 0, 1) := by decide +kernel
theorem d_Rd_kindByWord_45 : decode m_Rd_kindByWord.2.1 45 = .ok (.ldc 81, 2) := by decide +kernel
theorem d_Rd_kindByWord_47 : decode m_Rd_kindByWord.2.1 47 = .ok (.invokevirtual 44, 3) := by decide +kernel
theorem d_Rd_kindByWord_50 : decode m_Rd_kindByWord.2.1 50 = .ok (.ifCond .eq 7, 3) := by decide +kernel
theorem d_Rd_kindByWord_53 : decode m_Rd_kindByWord.2.1 53 = .ok (.iconst 4, 1) := by decide +kernel
theorem d_Rd_kindByWord_54 : decode m_Rd_kindByWord.2.1 54 = .ok (.goto 4, 3) := by decide +kernel
theorem d_Rd_kindByWord_57 : decode m_Rd_kindByWord.2.1 57 = .ok (.iconst (-1), 1) := by decide +kernel
theorem d_Rd_kindByWord_58 : decode m_Rd_kindByWord.2.1 58 = .ok (.ireturn, 1) := by decide +kernel
theorem d_Rd_readPromise_0 : decode m_Rd_readPromise.2.1 0 = .ok (.aload_n 1, 1) := by decide +kernel
theorem d_Rd_readPromise_1 : decode m_Rd_readPromise.2.1 1 = .ok (.invokevirtual 101, 3) := by decide +kernel
theorem d_Rd_readPromise_4 : decode m_Rd_readPromise.2.1 4 = .ok (.ifCond .ne 5, 3) := by decide +kernel
theorem d_Rd_readPromise_7 : decode m_Rd_readPromise.2.1 7 = .ok (.iconst 0, 1) := by decide +kernel
theorem d_Rd_readPromise_8 : decode m_Rd_readPromise.2.1 8 = .ok (.ireturn, 1) := by decide +kernel
theorem d_Rd_readPromise_9 : decode m_Rd_readPromise.2.1 9 = .ok (.aload_n 0, 1) := by decide +kernel
theorem d_Rd_readPromise_10 : decode m_Rd_readPromise.2.1 10 = .ok (.invokevirtual 25, 3) := by decide +kernel
theorem d_Rd_readPromise_13 : decode m_Rd_readPromise.2.1 13 = .ok (.aload_n 0, 1) := by decide +kernel
theorem d_Rd_readPromise_14 : decode m_Rd_readPromise.2.1 14 = .ok (.iconst 0, 1) := by decide +kernel
theorem d_Rd_readPromise_15 : decode m_Rd_readPromise.2.1 15 = .ok (.aload_n 1, 1) := by decide +kernel
theorem d_Rd_readPromise_16 : decode m_Rd_readPromise.2.1 16 = .ok (.getfield 94, 3) := by decide +kernel
theorem d_Rd_readPromise_19 : decode m_Rd_readPromise.2.1 19 = .ok (.iconst 1, 1) := by decide +kernel
theorem d_Rd_readPromise_20 : decode m_Rd_readPromise.2.1 20 = .ok (.isub, 1) := by decide +kernel
theorem d_Rd_readPromise_21 : decode m_Rd_readPromise.2.1 21 = .ok (.invokevirtual 87, 3) := by decide +kernel
theorem d_Rd_readPromise_24 : decode m_Rd_readPromise.2.1 24 = .ok (.ifCond .ne 5, 3) := by decide +kernel
theorem d_Rd_readPromise_27 : decode m_Rd_readPromise.2.1 27 = .ok (.iconst 0, 1) := by decide +kernel
theorem d_Rd_readPromise_28 : decode m_Rd_readPromise.2.1 28 = .ok (.ireturn, 1) := by decide +kernel
theorem d_Rd_readPromise_29 : decode m_Rd_readPromise.2.1 29 = .ok (.aload_n 0, 1) := by decide +kernel
theorem d_Rd_readPromise_30 : decode m_Rd_readPromise.2.1 30 = .ok (.invokevirtual 91, 3) := by decide +kernel
theorem d_Rd_readPromise_33 : decode m_Rd_readPromise.2.1 33 = .ok (.istore_n 3, 1) := by decide +kernel
theorem d_Rd_readPromise_34 : decode m_Rd_readPromise.2.1 34 = .ok (.aload_n 0, 1) := by decide +kernel
theorem d_Rd_readPromise_35 : decode m_Rd_readPromise.2.1 35 = .ok (.iconst 1, 1) := by decide +kernel
theorem d_Rd_readPromise_36 : decode m_Rd_readPromise.2.1 36 = .ok (.bipush 40, 2) := by decide +kernel
theorem d_Rd_readPromise_38 : decode m_Rd_readPromise.2.1 38 = .ok (.invokevirtual 87, 3) := by decide +kernel
theorem d_Rd_readPromise_41 : decode m_Rd_readPromise.2.1 41 = .ok (.ifCond .ne 5, 3) := by decide +kernel
theorem d_Rd_readPromise_44 : decode m_Rd_readPromise.2.1 44 = .ok (.iconst 0, 1) := by decide +kernel
theorem d_Rd_readPromise_45 : decode m_Rd_readPromise.2.1 45 = .ok (.ireturn, 1) := by decide +kernel
theorem d_Rd_readPromise_46 : decode m_Rd_readPromise.2.1 46 = .ok (.aload_n 0, 1) := by decide +kernel
theorem d_Rd_readPromise_47 : decode m_Rd_readPromise.2.1 47 = .ok (.invokevirtual 91, 3) := by decide +kernel
theorem d_Rd_readPromise_50 : decode m_Rd_readPromise.2.1 50 = .ok (.istore 4, 2) := by decide +kernel
theorem d_Rd_readPromise_52 : decode m_Rd_readPromise.2.1 52 = .ok (.iconst 0, 1) := by decide +kernel
theorem d_Rd_readPromise_53 : decode m_Rd_readPromise.2.1 53 = .ok (.istore 5, 2) := by decide +kernel
theorem d_Rd_readPromise_55 : decode m_Rd_readPromise.2.1 55 = .ok (.aload_n 0, 1) := by decide +kernel
theorem d_Rd_readPromise_56 : decode m_Rd_readPromise.2.1 56 = .ok (.getfield 35, 3) := by decide +kernel
theorem d_Rd_readPromise_59 : decode m_Rd_readPromise.2.1 59 = .ok (.iconst 1, 1) := by decide +kernel
theorem d_Rd_readPromise_60 : decode m_Rd_readPromise.2.1 60 = .ok (.if_icmp .ne 25, 3) := by decide +kernel
theorem d_Rd_readPromise_63 : decode m_Rd_readPromise.2.1 63 = .ok (.aload_n 0, 1) := by decide +kernel
theorem d_Rd_readPromise_64 : decode m_Rd_readPromise.2.1 64 = .ok (.aload_n 1, 1) := by decide +kernel
theorem d_Rd_readPromise_65 : decode m_Rd_readPromise.2.1 65 = .ok (.getfield 104, 3) := by decide +kernel
theorem d_Rd_readPromise_68 : decode m_Rd_readPromise.2.1 68 = .ok (.invokevirtual 107, 3) := by decide +kernel
theorem d_Rd_readPromise_71 : decode m_Rd_readPromise.2.1 71 = .ok (.istore 5, 2) := by decide +kernel
theorem d_Rd_readPromise_73 : decode m_Rd_readPromise.2.1 73 = .ok (.iload 5, 2) := by decide +kernel
theorem d_Rd_readPromise_75 : decode m_Rd_readPromise.2.1 75 = .ok (.iconst (-1), 1) := by decide +kernel
theorem d_Rd_readPromise_76 : decode m_Rd_readPromise.2.1 76 = .ok (.if_icmp .ne 5, 3) := by decide +kernel
theorem d_Rd_readPromise_79 : decode m_Rd_readPromise.2.1 79 = .ok (.iconst 0, 1) := by decide +kernel
theorem d_Rd_readPromise_80 : decode m_Rd_readPromise.2.1 80 = .ok (.ireturn, 1) := by decide +kernel
theorem d_Rd_readPromise_81 : decode m_Rd_readPromise.2.1 81 = .ok (.aload_n 0, 1) := by decide +kernel
theorem d_Rd_readPromise_82 : decode m_Rd_readPromise.2.1 82 = .ok (.invokevirtual 25, 3) := by decide +kernel
theorem d_Rd_readPromise_85 : decode m_Rd_readPromise.2.1 85 = .ok (.aload_n 1, 1) := by decide +kernel
theorem d_Rd_readPromise_86 : decode m_Rd_readPromise.2.1 86 = .ok (.iload_n 2, 1) := by decide +kernel
theorem d_Rd_readPromise_87 : decode m_Rd_readPromise.2.1 87 = .ok (.iload_n 3, 1) := by decide +kernel
theorem d_Rd_readPromise_88 : decode m_Rd_readPromise.2.1 88 = .ok (.iload 4, 2) := by decide +kernel
theorem d_Rd_readPromise_90 : decode m_Rd_readPromise.2.1 90 = .ok (.iload 5, 2) := by decide +kernel
theorem d_Rd_readPromise_92 : decode m_Rd_readPromise.2.1 92 = .ok (.invokevirtual 111, 3) := by decide +kernel
theorem d_Rd_readPromise_95 : decode m_Rd_readPromise.2.1 95 = .ok (.iconst 1, 1) := by decide +kernel
theorem d_Rd_readPromise_96 : decode m_Rd_readPromise.2.1 96 = .ok (.ireturn, 1) := by decide +kernel
theorem d_Tl_hasRoomForPromise_0 : decode m_Tl_hasRoomForPromise.2.1 0 = .ok (.aload_n 0, 1) := by decide +kernel
theorem d_Tl_hasRoomForPromise_1 : decode m_Tl_hasRoomForPromise.2.1 1 = .ok (.getfield 40, 3) := by decide +kernel
theorem d_Tl_hasRoomForPromise_4 : decode m_Tl_hasRoomForPromise.2.1 4 = .ok (.bipush 10, 2) := by decide +kernel
theorem d_Tl_hasRoomForPromise_6 : decode m_Tl_hasRoomForPromise.2.1 6 = .ok (.if_icmp .ge 7, 3) := by decide +kernel
theorem d_Tl_hasRoomForPromise_9 : decode m_Tl_hasRoomForPromise.2.1 9 = .ok (.iconst 1, 1) := by decide +kernel
theorem d_Tl_hasRoomForPromise_10 : decode m_Tl_hasRoomForPromise.2.1 10 = .ok (.goto 4, 3) := by decide +kernel
theorem d_Tl_hasRoomForPromise_13 : decode m_Tl_hasRoomForPromise.2.1 13 = .ok (.iconst 0, 1) := by decide +kernel
theorem d_Tl_hasRoomForPromise_14 : decode m_Tl_hasRoomForPromise.2.1 14 = .ok (.ireturn, 1) := by decide +kernel
theorem d_Rd_needsByWord_0 : decode m_Rd_needsByWord.2.1 0 = .ok (.iconst 0, 1) := by decide +kernel
theorem d_Rd_needsByWord_1 : decode m_Rd_needsByWord.2.1 1 = .ok (.istore_n 2, 1) := by decide +kernel
theorem d_Rd_needsByWord_2 : decode m_Rd_needsByWord.2.1 2 = .ok (.iconst (-1), 1) := by decide +kernel
theorem d_Rd_needsByWord_3 : decode m_Rd_needsByWord.2.1 3 = .ok (.istore_n 3, 1) := by decide +kernel
theorem d_Rd_needsByWord_4 : decode m_Rd_needsByWord.2.1 4 = .ok (.aload_n 0, 1) := by decide +kernel
theorem d_Rd_needsByWord_5 : decode m_Rd_needsByWord.2.1 5 = .ok (.getfield 32, 3) := by decide +kernel
theorem d_Rd_needsByWord_8 : decode m_Rd_needsByWord.2.1 8 = .ok (.istore 4, 2) := by decide +kernel
theorem d_Rd_needsByWord_10 : decode m_Rd_needsByWord.2.1 10 = .ok (.iload 4, 2) := by decide +kernel
theorem d_Rd_needsByWord_12 : decode m_Rd_needsByWord.2.1 12 = .ok (.aload_n 0, 1) := by decide +kernel
theorem d_Rd_needsByWord_13 : decode m_Rd_needsByWord.2.1 13 = .ok (.getfield 22, 3) := by decide +kernel
theorem d_Rd_needsByWord_16 : decode m_Rd_needsByWord.2.1 16 = .ok (.if_icmp .ge 45, 3) := by decide +kernel
theorem d_Rd_needsByWord_19 : decode m_Rd_needsByWord.2.1 19 = .ok (.aload_n 0, 1) := by decide +kernel
theorem d_Rd_needsByWord_20 : decode m_Rd_needsByWord.2.1 20 = .ok (.getfield 11, 3) := by decide +kernel
theorem d_Rd_needsByWord_23 : decode m_Rd_needsByWord.2.1 23 = .ok (.iload 4, 2) := by decide +kernel
theorem d_Rd_needsByWord_25 : decode m_Rd_needsByWord.2.1 25 = .ok (.iaload, 1) := by decide +kernel
theorem d_Rd_needsByWord_26 : decode m_Rd_needsByWord.2.1 26 = .ok (.bipush 97, 2) := by decide +kernel
theorem d_Rd_needsByWord_28 : decode m_Rd_needsByWord.2.1 28 = .ok (.isub, 1) := by decide +kernel
theorem d_Rd_needsByWord_29 : decode m_Rd_needsByWord.2.1 29 = .ok (.istore 5, 2) := by decide +kernel
theorem d_Rd_needsByWord_31 : decode m_Rd_needsByWord.2.1 31 = .ok (.iload 5, 2) := by decide +kernel
theorem d_Rd_needsByWord_33 : decode m_Rd_needsByWord.2.1 33 = .ok (.iload_n 3, 1) := by decide +kernel
theorem d_Rd_needsByWord_34 : decode m_Rd_needsByWord.2.1 34 = .ok (.if_icmp .le 9, 3) := by decide +kernel
theorem d_Rd_needsByWord_37 : decode m_Rd_needsByWord.2.1 37 = .ok (.iload 5, 2) := by decide +kernel
theorem d_Rd_needsByWord_39 : decode m_Rd_needsByWord.2.1 39 = .ok (.iload_n 1, 1) := by decide +kernel
theorem d_Rd_needsByWord_40 : decode m_Rd_needsByWord.2.1 40 = .ok (.if_icmp .lt 5, 3) := by decide +kernel
theorem d_Rd_needsByWord_43 : decode m_Rd_needsByWord.2.1 43 = .ok (.iconst (-1), 1) := by decide +kernel
theorem d_Rd_needsByWord_44 : decode m_Rd_needsByWord.2.1 44 = .ok (.ireturn, 1) := by decide +kernel
theorem d_Rd_needsByWord_45 : decode m_Rd_needsByWord.2.1 45 = .ok (.iload_n 2, 1) := by decide +kernel
theorem d_Rd_needsByWord_46 : decode m_Rd_needsByWord.2.1 46 = .ok (.iconst 1, 1) := by decide +kernel
theorem d_Rd_needsByWord_47 : decode m_Rd_needsByWord.2.1 47 = .ok (.iload 5, 2) := by decide +kernel
theorem d_Rd_needsByWord_49 : decode m_Rd_needsByWord.2.1 49 = .ok (.ishl, 1) := by decide +kernel
theorem d_Rd_needsByWord_50 : decode m_Rd_needsByWord.2.1 50 = .ok (.ior, 1) := by decide +kernel
theorem d_Rd_needsByWord_51 : decode m_Rd_needsByWord.2.1 51 = .ok (.istore_n 2, 1) := by decide +kernel
theorem d_Rd_needsByWord_52 : decode m_Rd_needsByWord.2.1 52 = .ok (.iload 5, 2) := by decide +kernel
theorem d_Rd_needsByWord_54 : decode m_Rd_needsByWord.2.1 54 = .ok (.istore_n 3, 1) := by decide +kernel
theorem d_Rd_needsByWord_55 : decode m_Rd_needsByWord.2.1 55 = .ok (.iinc 4 1, 3) := by decide +kernel
theorem d_Rd_needsByWord_58 : decode m_Rd_needsByWord.2.1 58 = .ok (.goto (-48), 3) := by decide +kernel
theorem d_Rd_needsByWord_61 : decode m_Rd_needsByWord.2.1 61 = .ok (.iload_n 2, 1) := by decide +kernel
theorem d_Rd_needsByWord_62 : decode m_Rd_needsByWord.2.1 62 = .ok (.ireturn, 1) := by decide +kernel
theorem d_Tl_addPromise_0 : decode m_Tl_addPromise.2.1 0 = .ok (.aload_n 0, 1) := by decide +kernel
theorem d_Tl_addPromise_1 : decode m_Tl_addPromise.2.1 1 = .ok (.invokevirtual 53, 3) := by decide +kernel
theorem d_Tl_addPromise_4 : decode m_Tl_addPromise.2.1 4 = .ok (.ifCond .eq 64, 3) := by decide +kernel
theorem d_Tl_addPromise_7 : decode m_Tl_addPromise.2.1 7 = .ok (.aload_n 0, 1) := by decide +kernel
theorem d_Tl_addPromise_8 : decode m_Tl_addPromise.2.1 8 = .ok (.getfield 21, 3) := by decide +kernel
theorem d_Tl_addPromise_11 : decode m_Tl_addPromise.2.1 11 = .ok (.aload_n 0, 1) := by decide +kernel
theorem d_Tl_addPromise_12 : decode m_Tl_addPromise.2.1 12 = .ok (.getfield 40, 3) := by decide +kernel
theorem d_Tl_addPromise_15 : decode m_Tl_addPromise.2.1 15 = .ok (.iload_n 1, 1) := by decide +kernel
theorem d_Tl_addPromise_16 : decode m_Tl_addPromise.2.1 16 = .ok (.iastore, 1) := by decide +kernel
theorem d_Tl_addPromise_17 : decode m_Tl_addPromise.2.1 17 = .ok (.aload_n 0, 1) := by decide +kernel
theorem d_Tl_addPromise_18 : decode m_Tl_addPromise.2.1 18 = .ok (.getfield 30, 3) := by decide +kernel
theorem d_Tl_addPromise_21 : decode m_Tl_addPromise.2.1 21 = .ok (.aload_n 0, 1) := by decide +kernel
theorem d_Tl_addPromise_22 : decode m_Tl_addPromise.2.1 22 = .ok (.getfield 40, 3) := by decide +kernel
theorem d_Tl_addPromise_25 : decode m_Tl_addPromise.2.1 25 = .ok (.iload_n 2, 1) := by decide +kernel
theorem d_Tl_addPromise_26 : decode m_Tl_addPromise.2.1 26 = .ok (.iastore, 1) := by decide +kernel
theorem d_Tl_addPromise_27 : decode m_Tl_addPromise.2.1 27 = .ok (.aload_n 0, 1) := by decide +kernel
theorem d_Tl_addPromise_28 : decode m_Tl_addPromise.2.1 28 = .ok (.getfield 24, 3) := by decide +kernel
theorem d_Tl_addPromise_31 : decode m_Tl_addPromise.2.1 31 = .ok (.aload_n 0, 1) := by decide +kernel
theorem d_Tl_addPromise_32 : decode m_Tl_addPromise.2.1 32 = .ok (.getfield 40, 3) := by decide +kernel
theorem d_Tl_addPromise_35 : decode m_Tl_addPromise.2.1 35 = .ok (.iload_n 3, 1) := by decide +kernel
theorem d_Tl_addPromise_36 : decode m_Tl_addPromise.2.1 36 = .ok (.iastore, 1) := by decide +kernel
theorem d_Tl_addPromise_37 : decode m_Tl_addPromise.2.1 37 = .ok (.aload_n 0, 1) := by decide +kernel
theorem d_Tl_addPromise_38 : decode m_Tl_addPromise.2.1 38 = .ok (.getfield 27, 3) := by decide +kernel
theorem d_Tl_addPromise_41 : decode m_Tl_addPromise.2.1 41 = .ok (.aload_n 0, 1) := by decide +kernel
theorem d_Tl_addPromise_42 : decode m_Tl_addPromise.2.1 42 = .ok (.getfield 40, 3) := by decide +kernel
theorem d_Tl_addPromise_45 : decode m_Tl_addPromise.2.1 45 = .ok (.iload 4, 2) := by decide +kernel
theorem d_Tl_addPromise_47 : decode m_Tl_addPromise.2.1 47 = .ok (.iastore, 1) := by decide +kernel
theorem d_Tl_addPromise_48 : decode m_Tl_addPromise.2.1 48 = .ok (.aload_n 0, 1) := by decide +kernel
theorem d_Tl_addPromise_49 : decode m_Tl_addPromise.2.1 49 = .ok (.getfield 33, 3) := by decide +kernel
theorem d_Tl_addPromise_52 : decode m_Tl_addPromise.2.1 52 = .ok (.aload_n 0, 1) := by decide +kernel
theorem d_Tl_addPromise_53 : decode m_Tl_addPromise.2.1 53 = .ok (.getfield 40, 3) := by decide +kernel
theorem d_Tl_addPromise_56 : decode m_Tl_addPromise.2.1 56 = .ok (.iconst 0, 1) := by decide +kernel
theorem d_Tl_addPromise_57 : decode m_Tl_addPromise.2.1 57 = .ok (.iastore, 1) := by decide +kernel
theorem d_Tl_addPromise_58 : decode m_Tl_addPromise.2.1 58 = .ok (.aload_n 0, 1) := by decide +kernel
theorem d_Tl_addPromise_59 : decode m_Tl_addPromise.2.1 59 = .ok (.dup, 1) := by decide +kernel
theorem d_Tl_addPromise_60 : decode m_Tl_addPromise.2.1 60 = .ok (.getfield 40, 3) := by decide +kernel
theorem d_Tl_addPromise_63 : decode m_Tl_addPromise.2.1 63 = .ok (.iconst 1, 1) := by decide +kernel
theorem d_Tl_addPromise_64 : decode m_Tl_addPromise.2.1 64 = .ok (.iadd, 1) := by decide +kernel
theorem d_Tl_addPromise_65 : decode m_Tl_addPromise.2.1 65 = .ok (.putfield 40, 3) := by decide +kernel
theorem d_Tl_addPromise_68 : decode m_Tl_addPromise.2.1 68 = .ok (.return_, 1) := by decide +kernel
theorem d_Rd_isSign_0 : decode m_Rd_isSign.2.1 0 = .ok (.aload_n 0, 1) := by decide +kernel
theorem d_Rd_isSign_1 : decode m_Rd_isSign.2.1 1 = .ok (.getfield 35, 3) := by decide +kernel
theorem d_Rd_isSign_4 : decode m_Rd_isSign.2.1 4 = .ok (.iconst 3, 1) := by decide +kernel
theorem d_Rd_isSign_5 : decode m_Rd_isSign.2.1 5 = .ok (.if_icmp .ne 20, 3) := by decide +kernel
theorem d_Rd_isSign_8 : decode m_Rd_isSign.2.1 8 = .ok (.aload_n 0, 1) := by decide +kernel
theorem d_Rd_isSign_9 : decode m_Rd_isSign.2.1 9 = .ok (.getfield 11, 3) := by decide +kernel
theorem d_Rd_isSign_12 : decode m_Rd_isSign.2.1 12 = .ok (.aload_n 0, 1) := by decide +kernel
theorem d_Rd_isSign_13 : decode m_Rd_isSign.2.1 13 = .ok (.getfield 32, 3) := by decide +kernel
theorem d_Rd_isSign_16 : decode m_Rd_isSign.2.1 16 = .ok (.iaload, 1) := by decide +kernel
theorem d_Rd_isSign_17 : decode m_Rd_isSign.2.1 17 = .ok (.iload_n 1, 1) := by decide +kernel
theorem d_Rd_isSign_18 : decode m_Rd_isSign.2.1 18 = .ok (.if_icmp .ne 7, 3) := by decide +kernel
theorem d_Rd_isSign_21 : decode m_Rd_isSign.2.1 21 = .ok (.iconst 1, 1) := by decide +kernel
theorem d_Rd_isSign_22 : decode m_Rd_isSign.2.1 22 = .ok (.goto 4, 3) := by decide +kernel
theorem d_Rd_isSign_25 : decode m_Rd_isSign.2.1 25 = .ok (.iconst 0, 1) := by decide +kernel
theorem d_Rd_isSign_26 : decode m_Rd_isSign.2.1 26 = .ok (.ireturn, 1) := by decide +kernel
theorem d_Kd_canBeWorkedAt_0 : decode m_Kd_canBeWorkedAt.2.1 0 = .ok (.iload_n 0, 1) := by decide +kernel
theorem d_Kd_canBeWorkedAt_1 : decode m_Kd_canBeWorkedAt.2.1 1 = .ok (.ifCond .eq 13, 3) := by decide +kernel
theorem d_Kd_canBeWorkedAt_4 : decode m_Kd_canBeWorkedAt.2.1 4 = .ok (.iload_n 0, 1) := by decide +kernel
theorem d_Kd_canBeWorkedAt_5 : decode m_Kd_canBeWorkedAt.2.1 5 = .ok (.iconst 1, 1) := by decide +kernel
theorem d_Kd_canBeWorkedAt_6 : decode m_Kd_canBeWorkedAt.2.1 6 = .ok (.if_icmp .eq 8, 3) := by decide +kernel
theorem d_Kd_canBeWorkedAt_9 : decode m_Kd_canBeWorkedAt.2.1 9 = .ok (.iload_n 0, 1) := by decide +kernel
theorem d_Kd_canBeWorkedAt_10 : decode m_Kd_canBeWorkedAt.2.1 10 = .ok (.iconst 2, 1) := by decide +kernel
theorem d_Kd_canBeWorkedAt_11 : decode m_Kd_canBeWorkedAt.2.1 11 = .ok (.if_icmp .ne 7, 3) := by decide +kernel
theorem d_Kd_canBeWorkedAt_14 : decode m_Kd_canBeWorkedAt.2.1 14 = .ok (.iconst 1, 1) := by decide +kernel
theorem d_Kd_canBeWorkedAt_15 : decode m_Kd_canBeWorkedAt.2.1 15 = .ok (.goto 4, 3) := by decide +kernel
theorem d_Kd_canBeWorkedAt_18 : decode m_Kd_canBeWorkedAt.2.1 18 = .ok (.iconst 0, 1) := by decide +kernel
theorem d_Kd_canBeWorkedAt_19 : decode m_Kd_canBeWorkedAt.2.1 19 = .ok (.ireturn, 1) := by decide +kernel
theorem d_Kd_isUnder_0 : decode m_Kd_isUnder.2.1 0 = .ok (.iload_n 1, 1) := by decide +kernel
theorem d_Kd_isUnder_1 : decode m_Kd_isUnder.2.1 1 = .ok (.ifCond .eq 10, 3) := by decide +kernel
theorem d_Kd_isUnder_4 : decode m_Kd_isUnder.2.1 4 = .ok (.iload_n 1, 1) := by decide +kernel
theorem d_Kd_isUnder_5 : decode m_Kd_isUnder.2.1 5 = .ok (.iload_n 0, 1) := by decide +kernel
theorem d_Kd_isUnder_6 : decode m_Kd_isUnder.2.1 6 = .ok (.iconst 1, 1) := by decide +kernel
theorem d_Kd_isUnder_7 : decode m_Kd_isUnder.2.1 7 = .ok (.iadd, 1) := by decide +kernel
theorem d_Kd_isUnder_8 : decode m_Kd_isUnder.2.1 8 = .ok (.if_icmp .ne 5, 3) := by decide +kernel
theorem d_Kd_isUnder_11 : decode m_Kd_isUnder.2.1 11 = .ok (.iconst 1, 1) := by decide +kernel
theorem d_Kd_isUnder_12 : decode m_Kd_isUnder.2.1 12 = .ok (.ireturn, 1) := by decide +kernel
theorem d_Kd_isUnder_13 : decode m_Kd_isUnder.2.1 13 = .ok (.iload_n 1, 1) := by decide +kernel
theorem d_Kd_isUnder_14 : decode m_Kd_isUnder.2.1 14 = .ok (.iconst 1, 1) := by decide +kernel
theorem d_Kd_isUnder_15 : decode m_Kd_isUnder.2.1 15 = .ok (.if_icmp .ne 19, 3) := by decide +kernel
theorem d_Kd_isUnder_18 : decode m_Kd_isUnder.2.1 18 = .ok (.iload_n 0, 1) := by decide +kernel
theorem d_Kd_isUnder_19 : decode m_Kd_isUnder.2.1 19 = .ok (.iconst 1, 1) := by decide +kernel
theorem d_Kd_isUnder_20 : decode m_Kd_isUnder.2.1 20 = .ok (.if_icmp .eq 8, 3) := by decide +kernel
theorem d_Kd_isUnder_23 : decode m_Kd_isUnder.2.1 23 = .ok (.iload_n 0, 1) := by decide +kernel
theorem d_Kd_isUnder_24 : decode m_Kd_isUnder.2.1 24 = .ok (.iconst 2, 1) := by decide +kernel
theorem d_Kd_isUnder_25 : decode m_Kd_isUnder.2.1 25 = .ok (.if_icmp .ne 7, 3) := by decide +kernel
theorem d_Kd_isUnder_28 : decode m_Kd_isUnder.2.1 28 = .ok (.iconst 1, 1) := by decide +kernel
theorem d_Kd_isUnder_29 : decode m_Kd_isUnder.2.1 29 = .ok (.goto 4, 3) := by decide +kernel
theorem d_Kd_isUnder_32 : decode m_Kd_isUnder.2.1 32 = .ok (.iconst 0, 1) := by decide +kernel
theorem d_Kd_isUnder_33 : decode m_Kd_isUnder.2.1 33 = .ok (.ireturn, 1) := by decide +kernel
theorem d_Kd_isUnder_34 : decode m_Kd_isUnder.2.1 34 = .ok (.iload_n 1, 1) := by decide +kernel
theorem d_Kd_isUnder_35 : decode m_Kd_isUnder.2.1 35 = .ok (.iconst 4, 1) := by decide +kernel
theorem d_Kd_isUnder_36 : decode m_Kd_isUnder.2.1 36 = .ok (.if_icmp .ne 12, 3) := by decide +kernel
theorem d_Kd_isUnder_39 : decode m_Kd_isUnder.2.1 39 = .ok (.iload_n 0, 1) := by decide +kernel
theorem d_Kd_isUnder_40 : decode m_Kd_isUnder.2.1 40 = .ok (.iconst 4, 1) := by decide +kernel
theorem d_Kd_isUnder_41 : decode m_Kd_isUnder.2.1 41 = .ok (.if_icmp .ne 7, 3) := by decide +kernel
theorem d_Kd_isUnder_44 : decode m_Kd_isUnder.2.1 44 = .ok (.iconst 1, 1) := by decide +kernel
theorem d_Kd_isUnder_45 : decode m_Kd_isUnder.2.1 45 = .ok (.goto 4, 3) := by decide +kernel
theorem d_Kd_isUnder_48 : decode m_Kd_isUnder.2.1 48 = .ok (.iconst 0, 1) := by decide +kernel
theorem d_Kd_isUnder_49 : decode m_Kd_isUnder.2.1 49 = .ok (.ireturn, 1) := by decide +kernel
theorem d_Kd_does_0 : decode m_Kd_does.2.1 0 = .ok (.iload_n 0, 1) := by decide +kernel
theorem d_Kd_does_1 : decode m_Kd_does.2.1 1 = .ok (.tableswitch 39 0 2 #[27, 29, 35], 27) := by decide +kernel
theorem d_Kd_does_28 : decode m_Kd_does.2.1 28 = .ok (.iload_n 1, 1) := by decide +kernel
theorem d_Kd_does_29 : decode m_Kd_does.2.1 29 = .ok (.ireturn, 1) := by decide +kernel
theorem d_Kd_does_30 : decode m_Kd_does.2.1 30 = .ok (.iload_n 1, 1) := by decide +kernel
theorem d_Kd_does_31 : decode m_Kd_does.2.1 31 = .ok (.iconst 2, 1) := by decide +kernel
theorem d_Kd_does_32 : decode m_Kd_does.2.1 32 = .ok (.idiv, 1) := by decide +kernel
theorem d_Kd_does_33 : decode m_Kd_does.2.1 33 = .ok (.iconst 1, 1) := by decide +kernel
theorem d_Kd_does_34 : decode m_Kd_does.2.1 34 = .ok (.iadd, 1) := by decide +kernel
theorem d_Kd_does_35 : decode m_Kd_does.2.1 35 = .ok (.ireturn, 1) := by decide +kernel
theorem d_Kd_does_36 : decode m_Kd_does.2.1 36 = .ok (.iload_n 1, 1) := by decide +kernel
theorem d_Kd_does_37 : decode m_Kd_does.2.1 37 = .ok (.iconst 2, 1) := by decide +kernel
theorem d_Kd_does_38 : decode m_Kd_does.2.1 38 = .ok (.imul, 1) := by decide +kernel
theorem d_Kd_does_39 : decode m_Kd_does.2.1 39 = .ok (.ireturn, 1) := by decide +kernel
theorem d_Kd_does_40 : decode m_Kd_does.2.1 40 = .ok (.iconst 0, 1) := by decide +kernel
theorem d_Kd_does_41 : decode m_Kd_does.2.1 41 = .ok (.ireturn, 1) := by decide +kernel
theorem d_Kd_isKeptByDeath_0 : decode m_Kd_isKeptByDeath.2.1 0 = .ok (.iload_n 0, 1) := by decide +kernel
theorem d_Kd_isKeptByDeath_1 : decode m_Kd_isKeptByDeath.2.1 1 = .ok (.iconst 3, 1) := by decide +kernel
theorem d_Kd_isKeptByDeath_2 : decode m_Kd_isKeptByDeath.2.1 2 = .ok (.if_icmp .ne 7, 3) := by decide +kernel
theorem d_Kd_isKeptByDeath_5 : decode m_Kd_isKeptByDeath.2.1 5 = .ok (.iconst 1, 1) := by decide +kernel
theorem d_Kd_isKeptByDeath_6 : decode m_Kd_isKeptByDeath.2.1 6 = .ok (.goto 4, 3) := by decide +kernel
theorem d_Kd_isKeptByDeath_9 : decode m_Kd_isKeptByDeath.2.1 9 = .ok (.iconst 0, 1) := by decide +kernel
theorem d_Kd_isKeptByDeath_10 : decode m_Kd_isKeptByDeath.2.1 10 = .ok (.ireturn, 1) := by decide +kernel
theorem d_In_bitCount_0 : decode m_In_bitCount.2.1 0 = .ok (.iload_n 0, 1) := by decide +kernel
theorem d_In_bitCount_1 : decode m_In_bitCount.2.1 1 = .ok (.iload_n 0, 1) := by decide +kernel
theorem d_In_bitCount_2 : decode m_In_bitCount.2.1 2 = .ok (.iconst 1, 1) := by decide +kernel
theorem d_In_bitCount_3 : decode m_In_bitCount.2.1 3 = .ok (.iushr, 1) := by decide +kernel
theorem d_In_bitCount_4 : decode m_In_bitCount.2.1 4 = .ok (.ldc_w 265, 3) := by decide +kernel
theorem d_In_bitCount_7 : decode m_In_bitCount.2.1 7 = .ok (.iand, 1) := by decide +kernel
theorem d_In_bitCount_8 : decode m_In_bitCount.2.1 8 = .ok (.isub, 1) := by decide +kernel
theorem d_In_bitCount_9 : decode m_In_bitCount.2.1 9 = .ok (.istore_n 0, 1) := by decide +kernel
theorem d_In_bitCount_10 : decode m_In_bitCount.2.1 10 = .ok (.iload_n 0, 1) := by decide +kernel
theorem d_In_bitCount_11 : decode m_In_bitCount.2.1 11 = .ok (.ldc_w 266, 3) := by decide +kernel
theorem d_In_bitCount_14 : decode m_In_bitCount.2.1 14 = .ok (.iand, 1) := by decide +kernel
theorem d_In_bitCount_15 : decode m_In_bitCount.2.1 15 = .ok (.iload_n 0, 1) := by decide +kernel
theorem d_In_bitCount_16 : decode m_In_bitCount.2.1 16 = .ok (.iconst 2, 1) := by decide +kernel
theorem d_In_bitCount_17 : decode m_In_bitCount.2.1 17 = .ok (.iushr, 1) := by decide +kernel
theorem d_In_bitCount_18 : decode m_In_bitCount.2.1 18 = .ok (.ldc_w 266, 3) := by decide +kernel
theorem d_In_bitCount_21 : decode m_In_bitCount.2.1 21 = .ok (.iand, 1) := by decide +kernel
theorem d_In_bitCount_22 : decode m_In_bitCount.2.1 22 = .ok (.iadd, 1) := by decide +kernel
theorem d_In_bitCount_23 : decode m_In_bitCount.2.1 23 = .ok (.istore_n 0, 1) := by decide +kernel
theorem d_In_bitCount_24 : decode m_In_bitCount.2.1 24 = .ok (.iload_n 0, 1) := by decide +kernel
theorem d_In_bitCount_25 : decode m_In_bitCount.2.1 25 = .ok (.iload_n 0, 1) := by decide +kernel
theorem d_In_bitCount_26 : decode m_In_bitCount.2.1 26 = .ok (.iconst 4, 1) := by decide +kernel
theorem d_In_bitCount_27 : decode m_In_bitCount.2.1 27 = .ok (.iushr, 1) := by decide +kernel
theorem d_In_bitCount_28 : decode m_In_bitCount.2.1 28 = .ok (.iadd, 1) := by decide +kernel
theorem d_In_bitCount_29 : decode m_In_bitCount.2.1 29 = .ok (.ldc_w 267, 3) := by decide +kernel
theorem d_In_bitCount_32 : decode m_In_bitCount.2.1 32 = .ok (.iand, 1) := by decide +kernel
theorem d_In_bitCount_33 : decode m_In_bitCount.2.1 33 = .ok (.istore_n 0, 1) := by decide +kernel
theorem d_In_bitCount_34 : decode m_In_bitCount.2.1 34 = .ok (.iload_n 0, 1) := by decide +kernel
theorem d_In_bitCount_35 : decode m_In_bitCount.2.1 35 = .ok (.iload_n 0, 1) := by decide +kernel
theorem d_In_bitCount_36 : decode m_In_bitCount.2.1 36 = .ok (.bipush 8, 2) := by decide +kernel
theorem d_In_bitCount_38 : decode m_In_bitCount.2.1 38 = .ok (.iushr, 1) := by decide +kernel
theorem d_In_bitCount_39 : decode m_In_bitCount.2.1 39 = .ok (.iadd, 1) := by decide +kernel
theorem d_In_bitCount_40 : decode m_In_bitCount.2.1 40 = .ok (.istore_n 0, 1) := by decide +kernel
theorem d_In_bitCount_41 : decode m_In_bitCount.2.1 41 = .ok (.iload_n 0, 1) := by decide +kernel
theorem d_In_bitCount_42 : decode m_In_bitCount.2.1 42 = .ok (.iload_n 0, 1) := by decide +kernel
theorem d_In_bitCount_43 : decode m_In_bitCount.2.1 43 = .ok (.bipush 16, 2) := by decide +kernel
theorem d_In_bitCount_45 : decode m_In_bitCount.2.1 45 = .ok (.iushr, 1) := by decide +kernel
theorem d_In_bitCount_46 : decode m_In_bitCount.2.1 46 = .ok (.iadd, 1) := by decide +kernel
theorem d_In_bitCount_47 : decode m_In_bitCount.2.1 47 = .ok (.istore_n 0, 1) := by decide +kernel
theorem d_In_bitCount_48 : decode m_In_bitCount.2.1 48 = .ok (.iload_n 0, 1) := by decide +kernel
theorem d_In_bitCount_49 : decode m_In_bitCount.2.1 49 = .ok (.bipush 63, 2) := by decide +kernel
theorem d_In_bitCount_51 : decode m_In_bitCount.2.1 51 = .ok (.iand, 1) := by decide +kernel
theorem d_In_bitCount_52 : decode m_In_bitCount.2.1 52 = .ok (.ireturn, 1) := by decide +kernel
theorem d_Tl_largestPeacefulSet_0 : decode m_Tl_largestPeacefulSet.2.1 0 = .ok (.iconst 0, 1) := by decide +kernel
theorem d_Tl_largestPeacefulSet_1 : decode m_Tl_largestPeacefulSet.2.1 1 = .ok (.istore_n 1, 1) := by decide +kernel
theorem d_Tl_largestPeacefulSet_2 : decode m_Tl_largestPeacefulSet.2.1 2 = .ok (.iconst 0, 1) := by decide +kernel
theorem d_Tl_largestPeacefulSet_3 : decode m_Tl_largestPeacefulSet.2.1 3 = .ok (.istore_n 2, 1) := by decide +kernel
theorem d_Tl_largestPeacefulSet_4 : decode m_Tl_largestPeacefulSet.2.1 4 = .ok (.iconst 1, 1) := by decide +kernel
theorem d_Tl_largestPeacefulSet_5 : decode m_Tl_largestPeacefulSet.2.1 5 = .ok (.istore_n 3, 1) := by decide +kernel
theorem d_Tl_largestPeacefulSet_6 : decode m_Tl_largestPeacefulSet.2.1 6 = .ok (.iload_n 3, 1) := by decide +kernel
theorem d_Tl_largestPeacefulSet_7 : decode m_Tl_largestPeacefulSet.2.1 7 = .ok (.iconst 1, 1) := by decide +kernel
theorem d_Tl_largestPeacefulSet_8 : decode m_Tl_largestPeacefulSet.2.1 8 = .ok (.aload_n 0, 1) := by decide +kernel
theorem d_Tl_largestPeacefulSet_9 : decode m_Tl_largestPeacefulSet.2.1 9 = .ok (.getfield 40, 3) := by decide +kernel
theorem d_Tl_largestPeacefulSet_12 : decode m_Tl_largestPeacefulSet.2.1 12 = .ok (.ishl, 1) := by decide +kernel
theorem d_Tl_largestPeacefulSet_13 : decode m_Tl_largestPeacefulSet.2.1 13 = .ok (.if_icmp .ge 34, 3) := by decide +kernel
theorem d_Tl_largestPeacefulSet_16 : decode m_Tl_largestPeacefulSet.2.1 16 = .ok (.iload_n 3, 1) := by decide +kernel
theorem d_Tl_largestPeacefulSet_17 : decode m_Tl_largestPeacefulSet.2.1 17 = .ok (.invokestatic 56, 3) := by decide +kernel
theorem d_Tl_largestPeacefulSet_20 : decode m_Tl_largestPeacefulSet.2.1 20 = .ok (.istore 4, 2) := by decide +kernel
theorem d_Tl_largestPeacefulSet_22 : decode m_Tl_largestPeacefulSet.2.1 22 = .ok (.iload 4, 2) := by decide +kernel
theorem d_Tl_largestPeacefulSet_24 : decode m_Tl_largestPeacefulSet.2.1 24 = .ok (.iload_n 2, 1) := by decide +kernel
theorem d_Tl_largestPeacefulSet_25 : decode m_Tl_largestPeacefulSet.2.1 25 = .ok (.if_icmp .le 16, 3) := by decide +kernel
theorem d_Tl_largestPeacefulSet_28 : decode m_Tl_largestPeacefulSet.2.1 28 = .ok (.aload_n 0, 1) := by decide +kernel
theorem d_Tl_largestPeacefulSet_29 : decode m_Tl_largestPeacefulSet.2.1 29 = .ok (.iload_n 3, 1) := by decide +kernel
theorem d_Tl_largestPeacefulSet_30 : decode m_Tl_largestPeacefulSet.2.1 30 = .ok (.invokevirtual 62, 3) := by decide +kernel
theorem d_Tl_largestPeacefulSet_33 : decode m_Tl_largestPeacefulSet.2.1 33 = .ok (.ifCond .eq 8, 3) := by decide +kernel
theorem d_Tl_largestPeacefulSet_36 : decode m_Tl_largestPeacefulSet.2.1 36 = .ok (.iload_n 3, 1) := by decide +kernel
theorem d_Tl_largestPeacefulSet_37 : decode m_Tl_largestPeacefulSet.2.1 37 = .ok (.istore_n 1, 1) := by decide +kernel
theorem d_Tl_largestPeacefulSet_38 : decode m_Tl_largestPeacefulSet.2.1 38 = .ok (.iload 4, 2) := by decide +kernel
theorem d_Tl_largestPeacefulSet_40 : decode m_Tl_largestPeacefulSet.2.1 40 = .ok (.istore_n 2, 1) := by decide +kernel
theorem d_Tl_largestPeacefulSet_41 : decode m_Tl_largestPeacefulSet.2.1 41 = .ok (.iinc 3 1, 3) := by decide +kernel
theorem d_Tl_largestPeacefulSet_44 : decode m_Tl_largestPeacefulSet.2.1 44 = .ok (.goto (-38), 3) := by decide +kernel
theorem d_Tl_largestPeacefulSet_47 : decode m_Tl_largestPeacefulSet.2.1 47 = .ok (.iload_n 1, 1) := by decide +kernel
theorem d_Tl_largestPeacefulSet_48 : decode m_Tl_largestPeacefulSet.2.1 48 = .ok (.ireturn, 1) := by decide +kernel
theorem d_Tl_isPeaceful_0 : decode m_Tl_isPeaceful.2.1 0 = .ok (.iconst 0, 1) := by decide +kernel
theorem d_Tl_isPeaceful_1 : decode m_Tl_isPeaceful.2.1 1 = .ok (.istore_n 2, 1) := by decide +kernel
theorem d_Tl_isPeaceful_2 : decode m_Tl_isPeaceful.2.1 2 = .ok (.iload_n 2, 1) := by decide +kernel
theorem d_Tl_isPeaceful_3 : decode m_Tl_isPeaceful.2.1 3 = .ok (.aload_n 0, 1) := by decide +kernel
theorem d_Tl_isPeaceful_4 : decode m_Tl_isPeaceful.2.1 4 = .ok (.getfield 40, 3) := by decide +kernel
theorem d_Tl_isPeaceful_7 : decode m_Tl_isPeaceful.2.1 7 = .ok (.if_icmp .ge 30, 3) := by decide +kernel
theorem d_Tl_isPeaceful_10 : decode m_Tl_isPeaceful.2.1 10 = .ok (.iload_n 1, 1) := by decide +kernel
theorem d_Tl_isPeaceful_11 : decode m_Tl_isPeaceful.2.1 11 = .ok (.iload_n 2, 1) := by decide +kernel
theorem d_Tl_isPeaceful_12 : decode m_Tl_isPeaceful.2.1 12 = .ok (.ishr, 1) := by decide +kernel
theorem d_Tl_isPeaceful_13 : decode m_Tl_isPeaceful.2.1 13 = .ok (.iconst 1, 1) := by decide +kernel
theorem d_Tl_isPeaceful_14 : decode m_Tl_isPeaceful.2.1 14 = .ok (.iand, 1) := by decide +kernel
theorem d_Tl_isPeaceful_15 : decode m_Tl_isPeaceful.2.1 15 = .ok (.ifCond .eq 16, 3) := by decide +kernel
theorem d_Tl_isPeaceful_18 : decode m_Tl_isPeaceful.2.1 18 = .ok (.iload_n 1, 1) := by decide +kernel
theorem d_Tl_isPeaceful_19 : decode m_Tl_isPeaceful.2.1 19 = .ok (.aload_n 0, 1) := by decide +kernel
theorem d_Tl_isPeaceful_20 : decode m_Tl_isPeaceful.2.1 20 = .ok (.getfield 33, 3) := by decide +kernel
theorem d_Tl_isPeaceful_23 : decode m_Tl_isPeaceful.2.1 23 = .ok (.iload_n 2, 1) := by decide +kernel
theorem d_Tl_isPeaceful_24 : decode m_Tl_isPeaceful.2.1 24 = .ok (.iaload, 1) := by decide +kernel
theorem d_Tl_isPeaceful_25 : decode m_Tl_isPeaceful.2.1 25 = .ok (.iand, 1) := by decide +kernel
theorem d_Tl_isPeaceful_26 : decode m_Tl_isPeaceful.2.1 26 = .ok (.ifCond .eq 5, 3) := by decide +kernel
theorem d_Tl_isPeaceful_29 : decode m_Tl_isPeaceful.2.1 29 = .ok (.iconst 0, 1) := by decide +kernel
theorem d_Tl_isPeaceful_30 : decode m_Tl_isPeaceful.2.1 30 = .ok (.ireturn, 1) := by decide +kernel
theorem d_Tl_isPeaceful_31 : decode m_Tl_isPeaceful.2.1 31 = .ok (.iinc 2 1, 3) := by decide +kernel
theorem d_Tl_isPeaceful_34 : decode m_Tl_isPeaceful.2.1 34 = .ok (.goto (-32), 3) := by decide +kernel
theorem d_Tl_isPeaceful_37 : decode m_Tl_isPeaceful.2.1 37 = .ok (.iconst 1, 1) := by decide +kernel
theorem d_Tl_isPeaceful_38 : decode m_Tl_isPeaceful.2.1 38 = .ok (.ireturn, 1) := by decide +kernel
theorem d_Od_partOf_0 : decode m_Od_partOf.2.1 0 = .ok (.lconst 0, 1) := by decide +kernel
theorem d_Od_partOf_1 : decode m_Od_partOf.2.1 1 = .ok (.lstore 4, 2) := by decide +kernel
theorem d_Od_partOf_3 : decode m_Od_partOf.2.1 3 = .ok (.iload_n 2, 1) := by decide +kernel
theorem d_Od_partOf_4 : decode m_Od_partOf.2.1 4 = .ok (.istore 6, 2) := by decide +kernel
theorem d_Od_partOf_6 : decode m_Od_partOf.2.1 6 = .ok (.iload 6, 2) := by decide +kernel
theorem d_Od_partOf_8 : decode m_Od_partOf.2.1 8 = .ok (.iload_n 0, 1) := by decide +kernel
theorem d_Od_partOf_9 : decode m_Od_partOf.2.1 9 = .ok (.if_icmp .gt 39, 3) := by decide +kernel
theorem d_Od_partOf_12 : decode m_Od_partOf.2.1 12 = .ok (.lload 4, 2) := by decide +kernel
theorem d_Od_partOf_14 : decode m_Od_partOf.2.1 14 = .ok (.iload_n 0, 1) := by decide +kernel
theorem d_Od_partOf_15 : decode m_Od_partOf.2.1 15 = .ok (.iload 6, 2) := by decide +kernel
theorem d_Od_partOf_17 : decode m_Od_partOf.2.1 17 = .ok (.invokestatic 7, 3) := by decide +kernel
theorem d_Od_partOf_20 : decode m_Od_partOf.2.1 20 = .ok (.bipush 10, 2) := by decide +kernel
theorem d_Od_partOf_22 : decode m_Od_partOf.2.1 22 = .ok (.iload_n 1, 1) := by decide +kernel
theorem d_Od_partOf_23 : decode m_Od_partOf.2.1 23 = .ok (.isub, 1) := by decide +kernel
theorem d_Od_partOf_24 : decode m_Od_partOf.2.1 24 = .ok (.iload 6, 2) := by decide +kernel
theorem d_Od_partOf_26 : decode m_Od_partOf.2.1 26 = .ok (.invokestatic 13, 3) := by decide +kernel
theorem d_Od_partOf_29 : decode m_Od_partOf.2.1 29 = .ok (.lmul, 1) := by decide +kernel
theorem d_Od_partOf_30 : decode m_Od_partOf.2.1 30 = .ok (.iload_n 1, 1) := by decide +kernel
theorem d_Od_partOf_31 : decode m_Od_partOf.2.1 31 = .ok (.iload_n 0, 1) := by decide +kernel
theorem d_Od_partOf_32 : decode m_Od_partOf.2.1 32 = .ok (.iload 6, 2) := by decide +kernel
theorem d_Od_partOf_34 : decode m_Od_partOf.2.1 34 = .ok (.isub, 1) := by decide +kernel
theorem d_Od_partOf_35 : decode m_Od_partOf.2.1 35 = .ok (.invokestatic 13, 3) := by decide +kernel
theorem d_Od_partOf_38 : decode m_Od_partOf.2.1 38 = .ok (.lmul, 1) := by decide +kernel
theorem d_Od_partOf_39 : decode m_Od_partOf.2.1 39 = .ok (.ladd, 1) := by decide +kernel
theorem d_Od_partOf_40 : decode m_Od_partOf.2.1 40 = .ok (.lstore 4, 2) := by decide +kernel
theorem d_Od_partOf_42 : decode m_Od_partOf.2.1 42 = .ok (.iinc 6 1, 3) := by decide +kernel
theorem d_Od_partOf_45 : decode m_Od_partOf.2.1 45 = .ok (.goto (-39), 3) := by decide +kernel
theorem d_Od_partOf_48 : decode m_Od_partOf.2.1 48 = .ok (.bipush 10, 2) := by decide +kernel
theorem d_Od_partOf_50 : decode m_Od_partOf.2.1 50 = .ok (.iload_n 0, 1) := by decide +kernel
theorem d_Od_partOf_51 : decode m_Od_partOf.2.1 51 = .ok (.invokestatic 13, 3) := by decide +kernel
theorem d_Od_partOf_54 : decode m_Od_partOf.2.1 54 = .ok (.lstore 6, 2) := by decide +kernel
theorem d_Od_partOf_56 : decode m_Od_partOf.2.1 56 = .ok (.lload 4, 2) := by decide +kernel
theorem d_Od_partOf_58 : decode m_Od_partOf.2.1 58 = .ok (.lload 6, 2) := by decide +kernel
theorem d_Od_partOf_60 : decode m_Od_partOf.2.1 60 = .ok (.invokestatic 16, 3) := by decide +kernel
theorem d_Od_partOf_63 : decode m_Od_partOf.2.1 63 = .ok (.lstore 8, 2) := by decide +kernel
theorem d_Od_partOf_65 : decode m_Od_partOf.2.1 65 = .ok (.lload 8, 2) := by decide +kernel
theorem d_Od_partOf_67 : decode m_Od_partOf.2.1 67 = .ok (.lconst 0, 1) := by decide +kernel
theorem d_Od_partOf_68 : decode m_Od_partOf.2.1 68 = .ok (.lcmp, 1) := by decide +kernel
theorem d_Od_partOf_69 : decode m_Od_partOf.2.1 69 = .ok (.ifCond .ne 5, 3) := by decide +kernel
theorem d_Od_partOf_72 : decode m_Od_partOf.2.1 72 = .ok (.iconst 0, 1) := by decide +kernel
theorem d_Od_partOf_73 : decode m_Od_partOf.2.1 73 = .ok (.ireturn, 1) := by decide +kernel
theorem d_Od_partOf_74 : decode m_Od_partOf.2.1 74 = .ok (.iload_n 3, 1) := by decide +kernel
theorem d_Od_partOf_75 : decode m_Od_partOf.2.1 75 = .ok (.ifCond .ne 8, 3) := by decide +kernel
theorem d_Od_partOf_78 : decode m_Od_partOf.2.1 78 = .ok (.lload 4, 2) := by decide +kernel
theorem d_Od_partOf_80 : decode m_Od_partOf.2.1 80 = .ok (.goto 5, 3) := by decide +kernel
theorem d_Od_partOf_83 : decode m_Od_partOf.2.1 83 = .ok (.lload 6, 2) := by decide +kernel
theorem d_Od_partOf_85 : decode m_Od_partOf.2.1 85 = .ok (.lload 8, 2) := by decide +kernel
theorem d_Od_partOf_87 : decode m_Od_partOf.2.1 87 = .ok (.ldiv, 1) := by decide +kernel
theorem d_Od_partOf_88 : decode m_Od_partOf.2.1 88 = .ok (.l2i, 1) := by decide +kernel
theorem d_Od_partOf_89 : decode m_Od_partOf.2.1 89 = .ok (.ireturn, 1) := by decide +kernel
theorem d_Od_choices_0 : decode m_Od_choices.2.1 0 = .ok (.lconst 1, 1) := by decide +kernel
theorem d_Od_choices_1 : decode m_Od_choices.2.1 1 = .ok (.lstore_n 2, 1) := by decide +kernel
theorem d_Od_choices_2 : decode m_Od_choices.2.1 2 = .ok (.iconst 1, 1) := by decide +kernel
theorem d_Od_choices_3 : decode m_Od_choices.2.1 3 = .ok (.istore 4, 2) := by decide +kernel
theorem d_Od_choices_5 : decode m_Od_choices.2.1 5 = .ok (.iload 4, 2) := by decide +kernel
theorem d_Od_choices_7 : decode m_Od_choices.2.1 7 = .ok (.iload_n 1, 1) := by decide +kernel
theorem d_Od_choices_8 : decode m_Od_choices.2.1 8 = .ok (.if_icmp .gt 23, 3) := by decide +kernel
theorem d_Od_choices_11 : decode m_Od_choices.2.1 11 = .ok (.lload_n 2, 1) := by decide +kernel
theorem d_Od_choices_12 : decode m_Od_choices.2.1 12 = .ok (.iload_n 0, 1) := by decide +kernel
theorem d_Od_choices_13 : decode m_Od_choices.2.1 13 = .ok (.iload_n 1, 1) := by decide +kernel
theorem d_Od_choices_14 : decode m_Od_choices.2.1 14 = .ok (.isub, 1) := by decide +kernel
theorem d_Od_choices_15 : decode m_Od_choices.2.1 15 = .ok (.iload 4, 2) := by decide +kernel
theorem d_Od_choices_17 : decode m_Od_choices.2.1 17 = .ok (.iadd, 1) := by decide +kernel
theorem d_Od_choices_18 : decode m_Od_choices.2.1 18 = .ok (.i2l, 1) := by decide +kernel
theorem d_Od_choices_19 : decode m_Od_choices.2.1 19 = .ok (.lmul, 1) := by decide +kernel
theorem d_Od_choices_20 : decode m_Od_choices.2.1 20 = .ok (.iload 4, 2) := by decide +kernel
theorem d_Od_choices_22 : decode m_Od_choices.2.1 22 = .ok (.i2l, 1) := by decide +kernel
theorem d_Od_choices_23 : decode m_Od_choices.2.1 23 = .ok (.ldiv, 1) := by decide +kernel
theorem d_Od_choices_24 : decode m_Od_choices.2.1 24 = .ok (.lstore_n 2, 1) := by decide +kernel
theorem d_Od_choices_25 : decode m_Od_choices.2.1 25 = .ok (.iinc 4 1, 3) := by decide +kernel
theorem d_Od_choices_28 : decode m_Od_choices.2.1 28 = .ok (.goto (-23), 3) := by decide +kernel
theorem d_Od_choices_31 : decode m_Od_choices.2.1 31 = .ok (.lload_n 2, 1) := by decide +kernel
theorem d_Od_choices_32 : decode m_Od_choices.2.1 32 = .ok (.lreturn, 1) := by decide +kernel
theorem d_Od_power_0 : decode m_Od_power.2.1 0 = .ok (.lconst 1, 1) := by decide +kernel
theorem d_Od_power_1 : decode m_Od_power.2.1 1 = .ok (.lstore_n 2, 1) := by decide +kernel
theorem d_Od_power_2 : decode m_Od_power.2.1 2 = .ok (.iconst 0, 1) := by decide +kernel
theorem d_Od_power_3 : decode m_Od_power.2.1 3 = .ok (.istore 4, 2) := by decide +kernel
theorem d_Od_power_5 : decode m_Od_power.2.1 5 = .ok (.iload 4, 2) := by decide +kernel
theorem d_Od_power_7 : decode m_Od_power.2.1 7 = .ok (.iload_n 1, 1) := by decide +kernel
theorem d_Od_power_8 : decode m_Od_power.2.1 8 = .ok (.if_icmp .ge 14, 3) := by decide +kernel
theorem d_Od_power_11 : decode m_Od_power.2.1 11 = .ok (.lload_n 2, 1) := by decide +kernel
theorem d_Od_power_12 : decode m_Od_power.2.1 12 = .ok (.iload_n 0, 1) := by decide +kernel
theorem d_Od_power_13 : decode m_Od_power.2.1 13 = .ok (.i2l, 1) := by decide +kernel
theorem d_Od_power_14 : decode m_Od_power.2.1 14 = .ok (.lmul, 1) := by decide +kernel
theorem d_Od_power_15 : decode m_Od_power.2.1 15 = .ok (.lstore_n 2, 1) := by decide +kernel
theorem d_Od_power_16 : decode m_Od_power.2.1 16 = .ok (.iinc 4 1, 3) := by decide +kernel
theorem d_Od_power_19 : decode m_Od_power.2.1 19 = .ok (.goto (-14), 3) := by decide +kernel
theorem d_Od_power_22 : decode m_Od_power.2.1 22 = .ok (.lload_n 2, 1) := by decide +kernel
theorem d_Od_power_23 : decode m_Od_power.2.1 23 = .ok (.lreturn, 1) := by decide +kernel
theorem d_Od_commonDivisor_0 : decode m_Od_commonDivisor.2.1 0 = .ok (.lload_n 0, 1) := by decide +kernel
theorem d_Od_commonDivisor_1 : decode m_Od_commonDivisor.2.1 1 = .ok (.lstore 4, 2) := by decide +kernel
theorem d_Od_commonDivisor_3 : decode m_Od_commonDivisor.2.1 3 = .ok (.lload_n 2, 1) := by decide +kernel
theorem d_Od_commonDivisor_4 : decode m_Od_commonDivisor.2.1 4 = .ok (.lstore 6, 2) := by decide +kernel
theorem d_Od_commonDivisor_6 : decode m_Od_commonDivisor.2.1 6 = .ok (.iconst 0, 1) := by decide +kernel
theorem d_Od_commonDivisor_7 : decode m_Od_commonDivisor.2.1 7 = .ok (.istore 8, 2) := by decide +kernel
theorem d_Od_commonDivisor_9 : decode m_Od_commonDivisor.2.1 9 = .ok (.iload 8, 2) := by decide +kernel
theorem d_Od_commonDivisor_11 : decode m_Od_commonDivisor.2.1 11 = .ok (.bipush 100, 2) := by decide +kernel
theorem d_Od_commonDivisor_13 : decode m_Od_commonDivisor.2.1 13 = .ok (.if_icmp .ge 31, 3) := by decide +kernel
theorem d_Od_commonDivisor_16 : decode m_Od_commonDivisor.2.1 16 = .ok (.lload 6, 2) := by decide +kernel
theorem d_Od_commonDivisor_18 : decode m_Od_commonDivisor.2.1 18 = .ok (.lconst 0, 1) := by decide +kernel
theorem d_Od_commonDivisor_19 : decode m_Od_commonDivisor.2.1 19 = .ok (.lcmp, 1) := by decide +kernel
theorem d_Od_commonDivisor_20 : decode m_Od_commonDivisor.2.1 20 = .ok (.ifCond .eq 24, 3) := by decide +kernel
theorem d_Od_commonDivisor_23 : decode m_Od_commonDivisor.2.1 23 = .ok (.lload 4, 2) := by decide +kernel
theorem d_Od_commonDivisor_25 : decode m_Od_commonDivisor.2.1 25 = .ok (.lload 6, 2) := by decide +kernel
theorem d_Od_commonDivisor_27 : decode m_Od_commonDivisor.2.1 27 = .ok (.lrem, 1) := by decide +kernel
theorem d_Od_commonDivisor_28 : decode m_Od_commonDivisor.2.1 28 = .ok (.lstore 9, 2) := by decide +kernel
theorem d_Od_commonDivisor_30 : decode m_Od_commonDivisor.2.1 30 = .ok (.lload 6, 2) := by decide +kernel
theorem d_Od_commonDivisor_32 : decode m_Od_commonDivisor.2.1 32 = .ok (.lstore 4, 2) := by decide +kernel
theorem d_Od_commonDivisor_34 : decode m_Od_commonDivisor.2.1 34 = .ok (.lload 9, 2) := by decide +kernel
theorem d_Od_commonDivisor_36 : decode m_Od_commonDivisor.2.1 36 = .ok (.lstore 6, 2) := by decide +kernel
theorem d_Od_commonDivisor_38 : decode m_Od_commonDivisor.2.1 38 = .ok (.iinc 8 1, 3) := by decide +kernel
theorem d_Od_commonDivisor_41 : decode m_Od_commonDivisor.2.1 41 = .ok (.goto (-32), 3) := by decide +kernel
theorem d_Od_commonDivisor_44 : decode m_Od_commonDivisor.2.1 44 = .ok (.lload 4, 2) := by decide +kernel
theorem d_Od_commonDivisor_46 : decode m_Od_commonDivisor.2.1 46 = .ok (.lreturn, 1) := by decide +kernel
