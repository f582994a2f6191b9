theorem d_Md_write_0 : decode m_Md_write.2.1 0 = .ok (.iload_n 1, 1) := by decide +kernel
theorem d_Md_write_1 : decode m_Md_write.2.1 1 = .ok (.i2l, 1) := by decide +kernel
theorem d_Md_write_2 : decode m_Md_write.2.1 2 = .ok (.lconst 0, 1) := by decide +kernel
theorem d_Md_write_3 : decode m_Md_write.2.1 3 = .ok (.ldc2_w 118, 3) := by decide +kernel
theorem d_Md_write_6 : decode m_Md_write.2.1 6 = .ok (.invokestatic 111, 3) := by decide +kernel
theorem d_Md_write_9 : decode m_Md_write.2.1 9 = .ok (.ifCond .ne 6, 3) := by decide +kernel
theorem d_Md_write_12 : decode m_Md_write.2.1 12 = .ok (.bipush (-3), 2) := by decide +kernel
theorem d_Md_write_14 : decode m_Md_write.2.1 14 = .ok (.ireturn, 1) := by decide +kernel
theorem d_Md_write_15 : decode m_Md_write.2.1 15 = .ok (.aload_n 0, 1) := by decide +kernel
theorem d_Md_write_16 : decode m_Md_write.2.1 16 = .ok (.getfield 120, 3) := by decide +kernel
theorem d_Md_write_19 : decode m_Md_write.2.1 19 = .ok (.sipush 200, 3) := by decide +kernel
theorem d_Md_write_22 : decode m_Md_write.2.1 22 = .ok (.if_icmp .ne 6, 3) := by decide +kernel
theorem d_Md_write_25 : decode m_Md_write.2.1 25 = .ok (.bipush (-5), 2) := by decide +kernel
theorem d_Md_write_27 : decode m_Md_write.2.1 27 = .ok (.ireturn, 1) := by decide +kernel
theorem d_Md_write_28 : decode m_Md_write.2.1 28 = .ok (.aload_n 0, 1) := by decide +kernel
theorem d_Md_write_29 : decode m_Md_write.2.1 29 = .ok (.getfield 41, 3) := by decide +kernel
theorem d_Md_write_32 : decode m_Md_write.2.1 32 = .ok (.aload_n 0, 1) := by decide +kernel
theorem d_Md_write_33 : decode m_Md_write.2.1 33 = .ok (.getfield 120, 3) := by decide +kernel
theorem d_Md_write_36 : decode m_Md_write.2.1 36 = .ok (.iload_n 1, 1) := by decide +kernel
theorem d_Md_write_37 : decode m_Md_write.2.1 37 = .ok (.iastore, 1) := by decide +kernel
theorem d_Md_write_38 : decode m_Md_write.2.1 38 = .ok (.aload_n 0, 1) := by decide +kernel
theorem d_Md_write_39 : decode m_Md_write.2.1 39 = .ok (.dup, 1) := by decide +kernel
theorem d_Md_write_40 : decode m_Md_write.2.1 40 = .ok (.getfield 120, 3) := by decide +kernel
theorem d_Md_write_43 : decode m_Md_write.2.1 43 = .ok (.iconst 1, 1) := by decide +kernel
theorem d_Md_write_44 : decode m_Md_write.2.1 44 = .ok (.iadd, 1) := by decide +kernel
theorem d_Md_write_45 : decode m_Md_write.2.1 45 = .ok (.putfield 120, 3) := by decide +kernel
theorem d_Md_write_48 : decode m_Md_write.2.1 48 = .ok (.aload_n 0, 1) := by decide +kernel
theorem d_Md_write_49 : decode m_Md_write.2.1 49 = .ok (.getfield 120, 3) := by decide +kernel
theorem d_Md_write_52 : decode m_Md_write.2.1 52 = .ok (.ireturn, 1) := by decide +kernel
theorem d_Md_readsAll_0 : decode m_Md_readsAll.2.1 0 = .ok (.aload_n 0, 1) := by decide +kernel
theorem d_Md_readsAll_1 : decode m_Md_readsAll.2.1 1 = .ok (.invokevirtual 207, 3) := by decide +kernel
theorem d_Md_readsAll_4 : decode m_Md_readsAll.2.1 4 = .ok (.aload_n 0, 1) := by decide +kernel
theorem d_Md_readsAll_5 : decode m_Md_readsAll.2.1 5 = .ok (.iconst 0, 1) := by decide +kernel
theorem d_Md_readsAll_6 : decode m_Md_readsAll.2.1 6 = .ok (.putfield 131, 3) := by decide +kernel
theorem d_Md_readsAll_9 : decode m_Md_readsAll.2.1 9 = .ok (.aload_n 0, 1) := by decide +kernel
theorem d_Md_readsAll_10 : decode m_Md_readsAll.2.1 10 = .ok (.iconst 0, 1) := by decide +kernel
theorem d_Md_readsAll_11 : decode m_Md_readsAll.2.1 11 = .ok (.putfield 210, 3) := by decide +kernel
theorem d_Md_readsAll_14 : decode m_Md_readsAll.2.1 14 = .ok (.aload_n 0, 1) := by decide +kernel
theorem d_Md_readsAll_15 : decode m_Md_readsAll.2.1 15 = .ok (.invokevirtual 147, 3) := by decide +kernel
theorem d_Md_readsAll_18 : decode m_Md_readsAll.2.1 18 = .ok (.iconst 1, 1) := by decide +kernel
theorem d_Md_readsAll_19 : decode m_Md_readsAll.2.1 19 = .ok (.istore_n 1, 1) := by decide +kernel
theorem d_Md_readsAll_20 : decode m_Md_readsAll.2.1 20 = .ok (.iload_n 1, 1) := by decide +kernel
theorem d_Md_readsAll_21 : decode m_Md_readsAll.2.1 21 = .ok (.ifCond .eq 85, 3) := by decide +kernel
theorem d_Md_readsAll_24 : decode m_Md_readsAll.2.1 24 = .ok (.aload_n 0, 1) := by decide +kernel
theorem d_Md_readsAll_25 : decode m_Md_readsAll.2.1 25 = .ok (.invokevirtual 213, 3) := by decide +kernel
theorem d_Md_readsAll_28 : decode m_Md_readsAll.2.1 28 = .ok (.ifCond .ne 8, 3) := by decide +kernel
theorem d_Md_readsAll_31 : decode m_Md_readsAll.2.1 31 = .ok (.aload_n 0, 1) := by decide +kernel
theorem d_Md_readsAll_32 : decode m_Md_readsAll.2.1 32 = .ok (.getfield 134, 3) := by decide +kernel
theorem d_Md_readsAll_35 : decode m_Md_readsAll.2.1 35 = .ok (.ireturn, 1) := by decide +kernel
theorem d_Md_readsAll_36 : decode m_Md_readsAll.2.1 36 = .ok (.aload_n 0, 1) := by decide +kernel
theorem d_Md_readsAll_37 : decode m_Md_readsAll.2.1 37 = .ok (.dup, 1) := by decide +kernel
theorem d_Md_readsAll_38 : decode m_Md_readsAll.2.1 38 = .ok (.getfield 210, 3) := by decide +kernel
theorem d_Md_readsAll_41 : decode m_Md_readsAll.2.1 41 = .ok (.iconst 1, 1) := by decide +kernel
theorem d_Md_readsAll_42 : decode m_Md_readsAll.2.1 42 = .ok (.iadd, 1) := by decide +kernel
theorem d_Md_readsAll_43 : decode m_Md_readsAll.2.1 43 = .ok (.putfield 210, 3) := by decide +kernel
theorem d_Md_readsAll_46 : decode m_Md_readsAll.2.1 46 = .ok (.aload_n 0, 1) := by decide +kernel
theorem d_Md_readsAll_47 : decode m_Md_readsAll.2.1 47 = .ok (.getfield 140, 3) := by decide +kernel
theorem d_Md_readsAll_50 : decode m_Md_readsAll.2.1 50 = .ok (.ifCond .eq 7, 3) := by decide +kernel
theorem d_Md_readsAll_53 : decode m_Md_readsAll.2.1 53 = .ok (.iconst 1, 1) := by decide +kernel
theorem d_Md_readsAll_54 : decode m_Md_readsAll.2.1 54 = .ok (.goto 4, 3) := by decide +kernel
theorem d_Md_readsAll_57 : decode m_Md_readsAll.2.1 57 = .ok (.iconst 0, 1) := by decide +kernel
theorem d_Md_readsAll_58 : decode m_Md_readsAll.2.1 58 = .ok (.istore_n 1, 1) := by decide +kernel
theorem d_Md_readsAll_59 : decode m_Md_readsAll.2.1 59 = .ok (.iload_n 1, 1) := by decide +kernel
theorem d_Md_readsAll_60 : decode m_Md_readsAll.2.1 60 = .ok (.ifCond .eq (-40), 3) := by decide +kernel
theorem d_Md_readsAll_63 : decode m_Md_readsAll.2.1 63 = .ok (.aload_n 0, 1) := by decide +kernel
theorem d_Md_readsAll_64 : decode m_Md_readsAll.2.1 64 = .ok (.getfield 140, 3) := by decide +kernel
theorem d_Md_readsAll_67 : decode m_Md_readsAll.2.1 67 = .ok (.iconst 3, 1) := by decide +kernel
theorem d_Md_readsAll_68 : decode m_Md_readsAll.2.1 68 = .ok (.if_icmp .ne 26, 3) := by decide +kernel
theorem d_Md_readsAll_71 : decode m_Md_readsAll.2.1 71 = .ok (.aload_n 0, 1) := by decide +kernel
theorem d_Md_readsAll_72 : decode m_Md_readsAll.2.1 72 = .ok (.getfield 41, 3) := by decide +kernel
theorem d_Md_readsAll_75 : decode m_Md_readsAll.2.1 75 = .ok (.aload_n 0, 1) := by decide +kernel
theorem d_Md_readsAll_76 : decode m_Md_readsAll.2.1 76 = .ok (.getfield 134, 3) := by decide +kernel
theorem d_Md_readsAll_79 : decode m_Md_readsAll.2.1 79 = .ok (.iaload, 1) := by decide +kernel
theorem d_Md_readsAll_80 : decode m_Md_readsAll.2.1 80 = .ok (.bipush 59, 2) := by decide +kernel
theorem d_Md_readsAll_82 : decode m_Md_readsAll.2.1 82 = .ok (.if_icmp .ne 12, 3) := by decide +kernel
theorem d_Md_readsAll_85 : decode m_Md_readsAll.2.1 85 = .ok (.aload_n 0, 1) := by decide +kernel
theorem d_Md_readsAll_86 : decode m_Md_readsAll.2.1 86 = .ok (.getfield 210, 3) := by decide +kernel
theorem d_Md_readsAll_89 : decode m_Md_readsAll.2.1 89 = .ok (.bipush 24, 2) := by decide +kernel
theorem d_Md_readsAll_91 : decode m_Md_readsAll.2.1 91 = .ok (.if_icmp .ne 8, 3) := by decide +kernel
theorem d_Md_readsAll_94 : decode m_Md_readsAll.2.1 94 = .ok (.aload_n 0, 1) := by decide +kernel
theorem d_Md_readsAll_95 : decode m_Md_readsAll.2.1 95 = .ok (.getfield 134, 3) := by decide +kernel
theorem d_Md_readsAll_98 : decode m_Md_readsAll.2.1 98 = .ok (.ireturn, 1) := by decide +kernel
theorem d_Md_readsAll_99 : decode m_Md_readsAll.2.1 99 = .ok (.aload_n 0, 1) := by decide +kernel
theorem d_Md_readsAll_100 : decode m_Md_readsAll.2.1 100 = .ok (.invokevirtual 153, 3) := by decide +kernel
theorem d_Md_readsAll_103 : decode m_Md_readsAll.2.1 103 = .ok (.goto (-83), 3) := by decide +kernel
theorem d_Md_readsAll_106 : decode m_Md_readsAll.2.1 106 = .ok (.iconst (-1), 1) := by decide +kernel
theorem d_Md_readsAll_107 : decode m_Md_readsAll.2.1 107 = .ok (.ireturn, 1) := by decide +kernel
theorem d_Md_takesClause_0 : decode m_Md_takesClause.2.1 0 = .ok (.aload_n 0, 1) := by decide +kernel
theorem d_Md_takesClause_1 : decode m_Md_takesClause.2.1 1 = .ok (.invokevirtual 190, 3) := by decide +kernel
theorem d_Md_takesClause_4 : decode m_Md_takesClause.2.1 4 = .ok (.istore_n 1, 1) := by decide +kernel
theorem d_Md_takesClause_5 : decode m_Md_takesClause.2.1 5 = .ok (.iload_n 1, 1) := by decide +kernel
theorem d_Md_takesClause_6 : decode m_Md_takesClause.2.1 6 = .ok (.ifCond .ge 5, 3) := by decide +kernel
theorem d_Md_takesClause_9 : decode m_Md_takesClause.2.1 9 = .ok (.iconst 0, 1) := by decide +kernel
theorem d_Md_takesClause_10 : decode m_Md_takesClause.2.1 10 = .ok (.ireturn, 1) := by decide +kernel
theorem d_Md_takesClause_11 : decode m_Md_takesClause.2.1 11 = .ok (.iload_n 1, 1) := by decide +kernel
theorem d_Md_takesClause_12 : decode m_Md_takesClause.2.1 12 = .ok (.iconst 5, 1) := by decide +kernel
theorem d_Md_takesClause_13 : decode m_Md_takesClause.2.1 13 = .ok (.if_icmp .ge 9, 3) := by decide +kernel
theorem d_Md_takesClause_16 : decode m_Md_takesClause.2.1 16 = .ok (.aload_n 0, 1) := by decide +kernel
theorem d_Md_takesClause_17 : decode m_Md_takesClause.2.1 17 = .ok (.iload_n 1, 1) := by decide +kernel
theorem d_Md_takesClause_18 : decode m_Md_takesClause.2.1 18 = .ok (.invokevirtual 194, 3) := by decide +kernel
theorem d_Md_takesClause_21 : decode m_Md_takesClause.2.1 21 = .ok (.ireturn, 1) := by decide +kernel
theorem d_Md_takesClause_22 : decode m_Md_takesClause.2.1 22 = .ok (.iload_n 1, 1) := by decide +kernel
theorem d_Md_takesClause_23 : decode m_Md_takesClause.2.1 23 = .ok (.iconst 5, 1) := by decide +kernel
theorem d_Md_takesClause_24 : decode m_Md_takesClause.2.1 24 = .ok (.if_icmp .ne 8, 3) := by decide +kernel
theorem d_Md_takesClause_27 : decode m_Md_takesClause.2.1 27 = .ok (.aload_n 0, 1) := by decide +kernel
theorem d_Md_takesClause_28 : decode m_Md_takesClause.2.1 28 = .ok (.invokevirtual 198, 3) := by decide +kernel
theorem d_Md_takesClause_31 : decode m_Md_takesClause.2.1 31 = .ok (.ireturn, 1) := by decide +kernel
theorem d_Md_takesClause_32 : decode m_Md_takesClause.2.1 32 = .ok (.iload_n 1, 1) := by decide +kernel
theorem d_Md_takesClause_33 : decode m_Md_takesClause.2.1 33 = .ok (.bipush 6, 2) := by decide +kernel
theorem d_Md_takesClause_35 : decode m_Md_takesClause.2.1 35 = .ok (.if_icmp .ne 8, 3) := by decide +kernel
theorem d_Md_takesClause_38 : decode m_Md_takesClause.2.1 38 = .ok (.aload_n 0, 1) := by decide +kernel
theorem d_Md_takesClause_39 : decode m_Md_takesClause.2.1 39 = .ok (.invokevirtual 201, 3) := by decide +kernel
theorem d_Md_takesClause_42 : decode m_Md_takesClause.2.1 42 = .ok (.ireturn, 1) := by decide +kernel
theorem d_Md_takesClause_43 : decode m_Md_takesClause.2.1 43 = .ok (.aload_n 0, 1) := by decide +kernel
theorem d_Md_takesClause_44 : decode m_Md_takesClause.2.1 44 = .ok (.invokevirtual 204, 3) := by decide +kernel
theorem d_Md_takesClause_47 : decode m_Md_takesClause.2.1 47 = .ok (.iconst 1, 1) := by decide +kernel
theorem d_Md_takesClause_48 : decode m_Md_takesClause.2.1 48 = .ok (.ireturn, 1) := by decide +kernel
theorem d_Md_passesToken_0 : decode m_Md_passesToken.2.1 0 = .ok (.aload_n 0, 1) := by decide +kernel
theorem d_Md_passesToken_1 : decode m_Md_passesToken.2.1 1 = .ok (.aload_n 0, 1) := by decide +kernel
theorem d_Md_passesToken_2 : decode m_Md_passesToken.2.1 2 = .ok (.getfield 137, 3) := by decide +kernel
theorem d_Md_passesToken_5 : decode m_Md_passesToken.2.1 5 = .ok (.putfield 131, 3) := by decide +kernel
theorem d_Md_passesToken_8 : decode m_Md_passesToken.2.1 8 = .ok (.aload_n 0, 1) := by decide +kernel
theorem d_Md_passesToken_9 : decode m_Md_passesToken.2.1 9 = .ok (.invokevirtual 147, 3) := by decide +kernel
theorem d_Md_passesToken_12 : decode m_Md_passesToken.2.1 12 = .ok (.return_, 1) := by decide +kernel
theorem d_Md_takesStrife_0 : decode m_Md_takesStrife.2.1 0 = .ok (.aload_n 0, 1) := by decide +kernel
theorem d_Md_takesStrife_1 : decode m_Md_takesStrife.2.1 1 = .ok (.invokevirtual 153, 3) := by decide +kernel
theorem d_Md_takesStrife_4 : decode m_Md_takesStrife.2.1 4 = .ok (.aload_n 0, 1) := by decide +kernel
theorem d_Md_takesStrife_5 : decode m_Md_takesStrife.2.1 5 = .ok (.iconst 0, 1) := by decide +kernel
theorem d_Md_takesStrife_6 : decode m_Md_takesStrife.2.1 6 = .ok (.aload_n 0, 1) := by decide +kernel
theorem d_Md_takesStrife_7 : decode m_Md_takesStrife.2.1 7 = .ok (.getfield 183, 3) := by decide +kernel
theorem d_Md_takesStrife_10 : decode m_Md_takesStrife.2.1 10 = .ok (.iconst 1, 1) := by decide +kernel
theorem d_Md_takesStrife_11 : decode m_Md_takesStrife.2.1 11 = .ok (.isub, 1) := by decide +kernel
theorem d_Md_takesStrife_12 : decode m_Md_takesStrife.2.1 12 = .ok (.invokevirtual 179, 3) := by decide +kernel
theorem d_Md_takesStrife_15 : decode m_Md_takesStrife.2.1 15 = .ok (.ifCond .ne 5, 3) := by decide +kernel
theorem d_Md_takesStrife_18 : decode m_Md_takesStrife.2.1 18 = .ok (.iconst 0, 1) := by decide +kernel
theorem d_Md_takesStrife_19 : decode m_Md_takesStrife.2.1 19 = .ok (.ireturn, 1) := by decide +kernel
theorem d_Md_takesStrife_20 : decode m_Md_takesStrife.2.1 20 = .ok (.aload_n 0, 1) := by decide +kernel
theorem d_Md_takesStrife_21 : decode m_Md_takesStrife.2.1 21 = .ok (.getfield 150, 3) := by decide +kernel
theorem d_Md_takesStrife_24 : decode m_Md_takesStrife.2.1 24 = .ok (.istore_n 1, 1) := by decide +kernel
theorem d_Md_takesStrife_25 : decode m_Md_takesStrife.2.1 25 = .ok (.aload_n 0, 1) := by decide +kernel
theorem d_Md_takesStrife_26 : decode m_Md_takesStrife.2.1 26 = .ok (.getfield 134, 3) := by decide +kernel
theorem d_Md_takesStrife_29 : decode m_Md_takesStrife.2.1 29 = .ok (.istore_n 2, 1) := by decide +kernel
theorem d_Md_takesStrife_30 : decode m_Md_takesStrife.2.1 30 = .ok (.aload_n 0, 1) := by decide +kernel
theorem d_Md_takesStrife_31 : decode m_Md_takesStrife.2.1 31 = .ok (.iconst 0, 1) := by decide +kernel
theorem d_Md_takesStrife_32 : decode m_Md_takesStrife.2.1 32 = .ok (.aload_n 0, 1) := by decide +kernel
theorem d_Md_takesStrife_33 : decode m_Md_takesStrife.2.1 33 = .ok (.getfield 183, 3) := by decide +kernel
theorem d_Md_takesStrife_36 : decode m_Md_takesStrife.2.1 36 = .ok (.iconst 1, 1) := by decide +kernel
theorem d_Md_takesStrife_37 : decode m_Md_takesStrife.2.1 37 = .ok (.isub, 1) := by decide +kernel
theorem d_Md_takesStrife_38 : decode m_Md_takesStrife.2.1 38 = .ok (.invokevirtual 179, 3) := by decide +kernel
theorem d_Md_takesStrife_41 : decode m_Md_takesStrife.2.1 41 = .ok (.ifCond .ne 5, 3) := by decide +kernel
theorem d_Md_takesStrife_44 : decode m_Md_takesStrife.2.1 44 = .ok (.iconst 0, 1) := by decide +kernel
theorem d_Md_takesStrife_45 : decode m_Md_takesStrife.2.1 45 = .ok (.ireturn, 1) := by decide +kernel
theorem d_Md_takesStrife_46 : decode m_Md_takesStrife.2.1 46 = .ok (.aload_n 0, 1) := by decide +kernel
theorem d_Md_takesStrife_47 : decode m_Md_takesStrife.2.1 47 = .ok (.getfield 150, 3) := by decide +kernel
theorem d_Md_takesStrife_50 : decode m_Md_takesStrife.2.1 50 = .ok (.iload_n 1, 1) := by decide +kernel
theorem d_Md_takesStrife_51 : decode m_Md_takesStrife.2.1 51 = .ok (.if_icmp .ne 10, 3) := by decide +kernel
theorem d_Md_takesStrife_54 : decode m_Md_takesStrife.2.1 54 = .ok (.aload_n 0, 1) := by decide +kernel
theorem d_Md_takesStrife_55 : decode m_Md_takesStrife.2.1 55 = .ok (.iload_n 2, 1) := by decide +kernel
theorem d_Md_takesStrife_56 : decode m_Md_takesStrife.2.1 56 = .ok (.putfield 134, 3) := by decide +kernel
theorem d_Md_takesStrife_59 : decode m_Md_takesStrife.2.1 59 = .ok (.iconst 0, 1) := by decide +kernel
theorem d_Md_takesStrife_60 : decode m_Md_takesStrife.2.1 60 = .ok (.ireturn, 1) := by decide +kernel
theorem d_Md_takesStrife_61 : decode m_Md_takesStrife.2.1 61 = .ok (.aload_n 0, 1) := by decide +kernel
theorem d_Md_takesStrife_62 : decode m_Md_takesStrife.2.1 62 = .ok (.getfield 65, 3) := by decide +kernel
theorem d_Md_takesStrife_65 : decode m_Md_takesStrife.2.1 65 = .ok (.iload_n 1, 1) := by decide +kernel
theorem d_Md_takesStrife_66 : decode m_Md_takesStrife.2.1 66 = .ok (.dup2, 1) := by decide +kernel
theorem d_Md_takesStrife_67 : decode m_Md_takesStrife.2.1 67 = .ok (.iaload, 1) := by decide +kernel
theorem d_Md_takesStrife_68 : decode m_Md_takesStrife.2.1 68 = .ok (.iconst 1, 1) := by decide +kernel
theorem d_Md_takesStrife_69 : decode m_Md_takesStrife.2.1 69 = .ok (.aload_n 0, 1) := by decide +kernel
theorem d_Md_takesStrife_70 : decode m_Md_takesStrife.2.1 70 = .ok (.getfield 150, 3) := by decide +kernel
theorem d_Md_takesStrife_73 : decode m_Md_takesStrife.2.1 73 = .ok (.ishl, 1) := by decide +kernel
theorem d_Md_takesStrife_74 : decode m_Md_takesStrife.2.1 74 = .ok (.ior, 1) := by decide +kernel
theorem d_Md_takesStrife_75 : decode m_Md_takesStrife.2.1 75 = .ok (.iastore, 1) := by decide +kernel
theorem d_Md_takesStrife_76 : decode m_Md_takesStrife.2.1 76 = .ok (.aload_n 0, 1) := by decide +kernel
theorem d_Md_takesStrife_77 : decode m_Md_takesStrife.2.1 77 = .ok (.getfield 65, 3) := by decide +kernel
theorem d_Md_takesStrife_80 : decode m_Md_takesStrife.2.1 80 = .ok (.aload_n 0, 1) := by decide +kernel
theorem d_Md_takesStrife_81 : decode m_Md_takesStrife.2.1 81 = .ok (.getfield 150, 3) := by decide +kernel
theorem d_Md_takesStrife_84 : decode m_Md_takesStrife.2.1 84 = .ok (.dup2, 1) := by decide +kernel
theorem d_Md_takesStrife_85 : decode m_Md_takesStrife.2.1 85 = .ok (.iaload, 1) := by decide +kernel
theorem d_Md_takesStrife_86 : decode m_Md_takesStrife.2.1 86 = .ok (.iconst 1, 1) := by decide +kernel
theorem d_Md_takesStrife_87 : decode m_Md_takesStrife.2.1 87 = .ok (.iload_n 1, 1) := by decide +kernel
theorem d_Md_takesStrife_88 : decode m_Md_takesStrife.2.1 88 = .ok (.ishl, 1) := by decide +kernel
theorem d_Md_takesStrife_89 : decode m_Md_takesStrife.2.1 89 = .ok (.ior, 1) := by decide +kernel
theorem d_Md_takesStrife_90 : decode m_Md_takesStrife.2.1 90 = .ok (.iastore, 1) := by decide +kernel
theorem d_Md_takesStrife_91 : decode m_Md_takesStrife.2.1 91 = .ok (.iconst 1, 1) := by decide +kernel
theorem d_Md_takesStrife_92 : decode m_Md_takesStrife.2.1 92 = .ok (.ireturn, 1) := by decide +kernel
theorem d_Md_joins_0 : decode m_Md_joins.2.1 0 = .ok (.aload_n 0, 1) := by decide +kernel
theorem d_Md_joins_1 : decode m_Md_joins.2.1 1 = .ok (.getfield 7, 3) := by decide +kernel
theorem d_Md_joins_4 : decode m_Md_joins.2.1 4 = .ok (.iload_n 1, 1) := by decide +kernel
theorem d_Md_joins_5 : decode m_Md_joins.2.1 5 = .ok (.bipush 33, 2) := by decide +kernel
theorem d_Md_joins_7 : decode m_Md_joins.2.1 7 = .ok (.iadd, 1) := by decide +kernel
theorem d_Md_joins_8 : decode m_Md_joins.2.1 8 = .ok (.bipush 10, 2) := by decide +kernel
theorem d_Md_joins_10 : decode m_Md_joins.2.1 10 = .ok (.iload_n 3, 1) := by decide +kernel
theorem d_Md_joins_11 : decode m_Md_joins.2.1 11 = .ok (.imul, 1) := by decide +kernel
theorem d_Md_joins_12 : decode m_Md_joins.2.1 12 = .ok (.iadd, 1) := by decide +kernel
theorem d_Md_joins_13 : decode m_Md_joins.2.1 13 = .ok (.aload_n 0, 1) := by decide +kernel
theorem d_Md_joins_14 : decode m_Md_joins.2.1 14 = .ok (.getfield 7, 3) := by decide +kernel
theorem d_Md_joins_17 : decode m_Md_joins.2.1 17 = .ok (.iload_n 1, 1) := by decide +kernel
theorem d_Md_joins_18 : decode m_Md_joins.2.1 18 = .ok (.bipush 27, 2) := by decide +kernel
theorem d_Md_joins_20 : decode m_Md_joins.2.1 20 = .ok (.iadd, 1) := by decide +kernel
theorem d_Md_joins_21 : decode m_Md_joins.2.1 21 = .ok (.iload_n 3, 1) := by decide +kernel
theorem d_Md_joins_22 : decode m_Md_joins.2.1 22 = .ok (.iadd, 1) := by decide +kernel
theorem d_Md_joins_23 : decode m_Md_joins.2.1 23 = .ok (.iaload, 1) := by decide +kernel
theorem d_Md_joins_24 : decode m_Md_joins.2.1 24 = .ok (.iadd, 1) := by decide +kernel
theorem d_Md_joins_25 : decode m_Md_joins.2.1 25 = .ok (.iload_n 2, 1) := by decide +kernel
theorem d_Md_joins_26 : decode m_Md_joins.2.1 26 = .ok (.iastore, 1) := by decide +kernel
theorem d_Md_joins_27 : decode m_Md_joins.2.1 27 = .ok (.aload_n 0, 1) := by decide +kernel
theorem d_Md_joins_28 : decode m_Md_joins.2.1 28 = .ok (.getfield 7, 3) := by decide +kernel
theorem d_Md_joins_31 : decode m_Md_joins.2.1 31 = .ok (.iload_n 1, 1) := by decide +kernel
theorem d_Md_joins_32 : decode m_Md_joins.2.1 32 = .ok (.bipush 27, 2) := by decide +kernel
theorem d_Md_joins_34 : decode m_Md_joins.2.1 34 = .ok (.iadd, 1) := by decide +kernel
theorem d_Md_joins_35 : decode m_Md_joins.2.1 35 = .ok (.iload_n 3, 1) := by decide +kernel
theorem d_Md_joins_36 : decode m_Md_joins.2.1 36 = .ok (.iadd, 1) := by decide +kernel
theorem d_Md_joins_37 : decode m_Md_joins.2.1 37 = .ok (.dup2, 1) := by decide +kernel
theorem d_Md_joins_38 : decode m_Md_joins.2.1 38 = .ok (.iaload, 1) := by decide +kernel
theorem d_Md_joins_39 : decode m_Md_joins.2.1 39 = .ok (.iconst 1, 1) := by decide +kernel
theorem d_Md_joins_40 : decode m_Md_joins.2.1 40 = .ok (.iadd, 1) := by decide +kernel
theorem d_Md_joins_41 : decode m_Md_joins.2.1 41 = .ok (.iastore, 1) := by decide +kernel
theorem d_Md_joins_42 : decode m_Md_joins.2.1 42 = .ok (.return_, 1) := by decide +kernel
theorem d_Md_promise_0 : decode m_Md_promise.2.1 0 = .ok (.aload_n 0, 1) := by decide +kernel
theorem d_Md_promise_1 : decode m_Md_promise.2.1 1 = .ok (.iload_n 1, 1) := by decide +kernel
theorem d_Md_promise_2 : decode m_Md_promise.2.1 2 = .ok (.invokevirtual 259, 3) := by decide +kernel
theorem d_Md_promise_5 : decode m_Md_promise.2.1 5 = .ok (.ifCond .ne 6, 3) := by decide +kernel
theorem d_Md_promise_8 : decode m_Md_promise.2.1 8 = .ok (.bipush (-2), 2) := by decide +kernel
theorem d_Md_promise_10 : decode m_Md_promise.2.1 10 = .ok (.ireturn, 1) := by decide +kernel
theorem d_Md_promise_11 : decode m_Md_promise.2.1 11 = .ok (.iload_n 2, 1) := by decide +kernel
theorem d_Md_promise_12 : decode m_Md_promise.2.1 12 = .ok (.tableswitch 96 0 5 #[40, 47, 57, 67, 74, 81], 40) := by decide +kernel
theorem d_Md_promise_52 : decode m_Md_promise.2.1 52 = .ok (.aload_n 0, 1) := by decide +kernel
theorem d_Md_promise_53 : decode m_Md_promise.2.1 53 = .ok (.getfield 26, 3) := by decide +kernel
theorem d_Md_promise_56 : decode m_Md_promise.2.1 56 = .ok (.iload_n 1, 1) := by decide +kernel
theorem d_Md_promise_57 : decode m_Md_promise.2.1 57 = .ok (.iaload, 1) := by decide +kernel
theorem d_Md_promise_58 : decode m_Md_promise.2.1 58 = .ok (.ireturn, 1) := by decide +kernel
theorem d_Md_promise_59 : decode m_Md_promise.2.1 59 = .ok (.aload_n 0, 1) := by decide +kernel
theorem d_Md_promise_60 : decode m_Md_promise.2.1 60 = .ok (.getfield 7, 3) := by decide +kernel
theorem d_Md_promise_63 : decode m_Md_promise.2.1 63 = .ok (.bipush 6, 2) := by decide +kernel
theorem d_Md_promise_65 : decode m_Md_promise.2.1 65 = .ok (.iload_n 1, 1) := by decide +kernel
theorem d_Md_promise_66 : decode m_Md_promise.2.1 66 = .ok (.iadd, 1) := by decide +kernel
theorem d_Md_promise_67 : decode m_Md_promise.2.1 67 = .ok (.iaload, 1) := by decide +kernel
theorem d_Md_promise_68 : decode m_Md_promise.2.1 68 = .ok (.ireturn, 1) := by decide +kernel
theorem d_Md_promise_69 : decode m_Md_promise.2.1 69 = .ok (.aload_n 0, 1) := by decide +kernel
theorem d_Md_promise_70 : decode m_Md_promise.2.1 70 = .ok (.getfield 7, 3) := by decide +kernel
theorem d_Md_promise_73 : decode m_Md_promise.2.1 73 = .ok (.bipush 16, 2) := by decide +kernel
theorem d_Md_promise_75 : decode m_Md_promise.2.1 75 = .ok (.iload_n 1, 1) := by decide +kernel
theorem d_Md_promise_76 : decode m_Md_promise.2.1 76 = .ok (.iadd, 1) := by decide +kernel
theorem d_Md_promise_77 : decode m_Md_promise.2.1 77 = .ok (.iaload, 1) := by decide +kernel
theorem d_Md_promise_78 : decode m_Md_promise.2.1 78 = .ok (.ireturn, 1) := by decide +kernel
theorem d_Md_promise_79 : decode m_Md_promise.2.1 79 = .ok (.aload_n 0, 1) := by decide +kernel
theorem d_Md_promise_80 : decode m_Md_promise.2.1 80 = .ok (.getfield 32, 3) := by decide +kernel
theorem d_Md_promise_83 : decode m_Md_promise.2.1 83 = .ok (.iload_n 1, 1) := by decide +kernel
theorem d_Md_promise_84 : decode m_Md_promise.2.1 84 = .ok (.iaload, 1) := by decide +kernel
theorem d_Md_promise_85 : decode m_Md_promise.2.1 85 = .ok (.ireturn, 1) := by decide +kernel
theorem d_Md_promise_86 : decode m_Md_promise.2.1 86 = .ok (.aload_n 0, 1) := by decide +kernel
theorem d_Md_promise_87 : decode m_Md_promise.2.1 87 = .ok (.iconst 0, 1) := by decide +kernel
theorem d_Md_promise_88 : decode m_Md_promise.2.1 88 = .ok (.iload_n 1, 1) := by decide +kernel
theorem d_Md_promise_89 : decode m_Md_promise.2.1 89 = .ok (.invokevirtual 262, 3) := by decide +kernel
theorem d_Md_promise_92 : decode m_Md_promise.2.1 92 = .ok (.ireturn, 1) := by decide +kernel
theorem d_Md_promise_93 : decode m_Md_promise.2.1 93 = .ok (.aload_n 0, 1) := by decide +kernel
theorem d_Md_promise_94 : decode m_Md_promise.2.1 94 = .ok (.iconst 0, 1) := by decide +kernel
theorem d_Md_promise_95 : decode m_Md_promise.2.1 95 = .ok (.iload_n 1, 1) := by decide +kernel
theorem d_Md_promise_96 : decode m_Md_promise.2.1 96 = .ok (.invokevirtual 245, 3) := by decide +kernel
theorem d_Md_promise_99 : decode m_Md_promise.2.1 99 = .ok (.ifCond .eq 7, 3) := by decide +kernel
theorem d_Md_promise_102 : decode m_Md_promise.2.1 102 = .ok (.iconst 1, 1) := by decide +kernel
theorem d_Md_promise_103 : decode m_Md_promise.2.1 103 = .ok (.goto 4, 3) := by decide +kernel
theorem d_Md_promise_106 : decode m_Md_promise.2.1 106 = .ok (.iconst 0, 1) := by decide +kernel
theorem d_Md_promise_107 : decode m_Md_promise.2.1 107 = .ok (.ireturn, 1) := by decide +kernel
theorem d_Md_promise_108 : decode m_Md_promise.2.1 108 = .ok (.bipush (-3), 2) := by decide +kernel
theorem d_Md_promise_110 : decode m_Md_promise.2.1 110 = .ok (.ireturn, 1) := by decide +kernel
theorem d_Md_isOpen_0 : decode m_Md_isOpen.2.1 0 = .ok (.aload_n 0, 1) := by decide +kernel
theorem d_Md_isOpen_1 : decode m_Md_isOpen.2.1 1 = .ok (.getfield 7, 3) := by decide +kernel
theorem d_Md_isOpen_4 : decode m_Md_isOpen.2.1 4 = .ok (.iload_n 1, 1) := by decide +kernel
theorem d_Md_isOpen_5 : decode m_Md_isOpen.2.1 5 = .ok (.bipush 26, 2) := by decide +kernel
theorem d_Md_isOpen_7 : decode m_Md_isOpen.2.1 7 = .ok (.iadd, 1) := by decide +kernel
theorem d_Md_isOpen_8 : decode m_Md_isOpen.2.1 8 = .ok (.iaload, 1) := by decide +kernel
theorem d_Md_isOpen_9 : decode m_Md_isOpen.2.1 9 = .ok (.iload_n 2, 1) := by decide +kernel
theorem d_Md_isOpen_10 : decode m_Md_isOpen.2.1 10 = .ok (.invokestatic 236, 3) := by decide +kernel
theorem d_Md_isOpen_13 : decode m_Md_isOpen.2.1 13 = .ok (.ifCond .ne 38, 3) := by decide +kernel
theorem d_Md_isOpen_16 : decode m_Md_isOpen.2.1 16 = .ok (.aload_n 0, 1) := by decide +kernel
theorem d_Md_isOpen_17 : decode m_Md_isOpen.2.1 17 = .ok (.getfield 26, 3) := by decide +kernel
theorem d_Md_isOpen_20 : decode m_Md_isOpen.2.1 20 = .ok (.iload_n 2, 1) := by decide +kernel
theorem d_Md_isOpen_21 : decode m_Md_isOpen.2.1 21 = .ok (.iaload, 1) := by decide +kernel
theorem d_Md_isOpen_22 : decode m_Md_isOpen.2.1 22 = .ok (.iconst 2, 1) := by decide +kernel
theorem d_Md_isOpen_23 : decode m_Md_isOpen.2.1 23 = .ok (.if_icmp .gt 28, 3) := by decide +kernel
theorem d_Md_isOpen_26 : decode m_Md_isOpen.2.1 26 = .ok (.aload_n 0, 1) := by decide +kernel
theorem d_Md_isOpen_27 : decode m_Md_isOpen.2.1 27 = .ok (.getfield 32, 3) := by decide +kernel
theorem d_Md_isOpen_30 : decode m_Md_isOpen.2.1 30 = .ok (.iload_n 2, 1) := by decide +kernel
theorem d_Md_isOpen_31 : decode m_Md_isOpen.2.1 31 = .ok (.iaload, 1) := by decide +kernel
theorem d_Md_isOpen_32 : decode m_Md_isOpen.2.1 32 = .ok (.aload_n 0, 1) := by decide +kernel
theorem d_Md_isOpen_33 : decode m_Md_isOpen.2.1 33 = .ok (.getfield 7, 3) := by decide +kernel
theorem d_Md_isOpen_36 : decode m_Md_isOpen.2.1 36 = .ok (.iload_n 1, 1) := by decide +kernel
theorem d_Md_isOpen_37 : decode m_Md_isOpen.2.1 37 = .ok (.bipush 26, 2) := by decide +kernel
theorem d_Md_isOpen_39 : decode m_Md_isOpen.2.1 39 = .ok (.iadd, 1) := by decide +kernel
theorem d_Md_isOpen_40 : decode m_Md_isOpen.2.1 40 = .ok (.iaload, 1) := by decide +kernel
theorem d_Md_isOpen_41 : decode m_Md_isOpen.2.1 41 = .ok (.iconst (-1), 1) := by decide +kernel
theorem d_Md_isOpen_42 : decode m_Md_isOpen.2.1 42 = .ok (.ixor, 1) := by decide +kernel
theorem d_Md_isOpen_43 : decode m_Md_isOpen.2.1 43 = .ok (.iand, 1) := by decide +kernel
theorem d_Md_isOpen_44 : decode m_Md_isOpen.2.1 44 = .ok (.ifCond .ne 7, 3) := by decide +kernel
theorem d_Md_isOpen_47 : decode m_Md_isOpen.2.1 47 = .ok (.iconst 1, 1) := by decide +kernel
theorem d_Md_isOpen_48 : decode m_Md_isOpen.2.1 48 = .ok (.goto 4, 3) := by decide +kernel
theorem d_Md_isOpen_51 : decode m_Md_isOpen.2.1 51 = .ok (.iconst 0, 1) := by decide +kernel
theorem d_Md_isOpen_52 : decode m_Md_isOpen.2.1 52 = .ok (.ireturn, 1) := by decide +kernel
theorem d_Md_does_0 : decode m_Md_does.2.1 0 = .ok (.iload_n 0, 1) := by decide +kernel
theorem d_Md_does_1 : decode m_Md_does.2.1 1 = .ok (.ifCond .ne 7, 3) := by decide +kernel
theorem d_Md_does_4 : decode m_Md_does.2.1 4 = .ok (.iload_n 1, 1) := by decide +kernel
theorem d_Md_does_5 : decode m_Md_does.2.1 5 = .ok (.goto 28, 3) := by decide +kernel
theorem d_Md_does_8 : decode m_Md_does.2.1 8 = .ok (.iload_n 0, 1) := by decide +kernel
theorem d_Md_does_9 : decode m_Md_does.2.1 9 = .ok (.iconst 1, 1) := by decide +kernel
theorem d_Md_does_10 : decode m_Md_does.2.1 10 = .ok (.if_icmp .ne 11, 3) := by decide +kernel
theorem d_Md_does_13 : decode m_Md_does.2.1 13 = .ok (.iload_n 1, 1) := by decide +kernel
theorem d_Md_does_14 : decode m_Md_does.2.1 14 = .ok (.iconst 2, 1) := by decide +kernel
theorem d_Md_does_15 : decode m_Md_does.2.1 15 = .ok (.idiv, 1) := by decide +kernel
theorem d_Md_does_16 : decode m_Md_does.2.1 16 = .ok (.iconst 1, 1) := by decide +kernel
theorem d_Md_does_17 : decode m_Md_does.2.1 17 = .ok (.iadd, 1) := by decide +kernel
theorem d_Md_does_18 : decode m_Md_does.2.1 18 = .ok (.goto 15, 3) := by decide +kernel
theorem d_Md_does_21 : decode m_Md_does.2.1 21 = .ok (.iload_n 0, 1) := by decide +kernel
theorem d_Md_does_22 : decode m_Md_does.2.1 22 = .ok (.iconst 2, 1) := by decide +kernel
theorem d_Md_does_23 : decode m_Md_does.2.1 23 = .ok (.if_icmp .ne 9, 3) := by decide +kernel
theorem d_Md_does_26 : decode m_Md_does.2.1 26 = .ok (.iconst 2, 1) := by decide +kernel
theorem d_Md_does_27 : decode m_Md_does.2.1 27 = .ok (.iload_n 1, 1) := by decide +kernel
theorem d_Md_does_28 : decode m_Md_does.2.1 28 = .ok (.imul, 1) := by decide +kernel
theorem d_Md_does_29 : decode m_Md_does.2.1 29 = .ok (.goto 4, 3) := by decide +kernel
theorem d_Md_does_32 : decode m_Md_does.2.1 32 = .ok (.iconst 0, 1) := by decide +kernel
theorem d_Md_does_33 : decode m_Md_does.2.1 33 = .ok (.ireturn, 1) := by decide +kernel
theorem d_Md_passesYear_0 : decode m_Md_passesYear.2.1 0 = .ok (.iconst 0, 1) := by decide +kernel
theorem d_Md_passesYear_1 : decode m_Md_passesYear.2.1 1 = .ok (.istore_n 2, 1) := by decide +kernel
theorem d_Md_passesYear_2 : decode m_Md_passesYear.2.1 2 = .ok (.iload_n 2, 1) := by decide +kernel
theorem d_Md_passesYear_3 : decode m_Md_passesYear.2.1 3 = .ok (.aload_n 0, 1) := by decide +kernel
theorem d_Md_passesYear_4 : decode m_Md_passesYear.2.1 4 = .ok (.getfield 107, 3) := by decide +kernel
theorem d_Md_passesYear_7 : decode m_Md_passesYear.2.1 7 = .ok (.if_icmp .ge 98, 3) := by decide +kernel
theorem d_Md_passesYear_10 : decode m_Md_passesYear.2.1 10 = .ok (.aload_n 0, 1) := by decide +kernel
theorem d_Md_passesYear_11 : decode m_Md_passesYear.2.1 11 = .ok (.getfield 68, 3) := by decide +kernel
theorem d_Md_passesYear_14 : decode m_Md_passesYear.2.1 14 = .ok (.iload_n 2, 1) := by decide +kernel
theorem d_Md_passesYear_15 : decode m_Md_passesYear.2.1 15 = .ok (.iconst (-1), 1) := by decide +kernel
theorem d_Md_passesYear_16 : decode m_Md_passesYear.2.1 16 = .ok (.iastore, 1) := by decide +kernel
theorem d_Md_passesYear_17 : decode m_Md_passesYear.2.1 17 = .ok (.aload_n 0, 1) := by decide +kernel
theorem d_Md_passesYear_18 : decode m_Md_passesYear.2.1 18 = .ok (.getfield 7, 3) := by decide +kernel
theorem d_Md_passesYear_21 : decode m_Md_passesYear.2.1 21 = .ok (.iload_n 1, 1) := by decide +kernel
theorem d_Md_passesYear_22 : decode m_Md_passesYear.2.1 22 = .ok (.bipush 27, 2) := by decide +kernel
theorem d_Md_passesYear_24 : decode m_Md_passesYear.2.1 24 = .ok (.iadd, 1) := by decide +kernel
theorem d_Md_passesYear_25 : decode m_Md_passesYear.2.1 25 = .ok (.iload_n 2, 1) := by decide +kernel
theorem d_Md_passesYear_26 : decode m_Md_passesYear.2.1 26 = .ok (.iadd, 1) := by decide +kernel
theorem d_Md_passesYear_27 : decode m_Md_passesYear.2.1 27 = .ok (.iaload, 1) := by decide +kernel
theorem d_Md_passesYear_28 : decode m_Md_passesYear.2.1 28 = .ok (.iconst 1, 1) := by decide +kernel
theorem d_Md_passesYear_29 : decode m_Md_passesYear.2.1 29 = .ok (.isub, 1) := by decide +kernel
theorem d_Md_passesYear_30 : decode m_Md_passesYear.2.1 30 = .ok (.istore_n 3, 1) := by decide +kernel
theorem d_Md_passesYear_31 : decode m_Md_passesYear.2.1 31 = .ok (.iload_n 3, 1) := by decide +kernel
theorem d_Md_passesYear_32 : decode m_Md_passesYear.2.1 32 = .ok (.ifCond .lt 67, 3) := by decide +kernel
theorem d_Md_passesYear_35 : decode m_Md_passesYear.2.1 35 = .ok (.aload_n 0, 1) := by decide +kernel
theorem d_Md_passesYear_36 : decode m_Md_passesYear.2.1 36 = .ok (.getfield 7, 3) := by decide +kernel
theorem d_Md_passesYear_39 : decode m_Md_passesYear.2.1 39 = .ok (.iload_n 1, 1) := by decide +kernel
theorem d_Md_passesYear_40 : decode m_Md_passesYear.2.1 40 = .ok (.bipush 33, 2) := by decide +kernel
theorem d_Md_passesYear_42 : decode m_Md_passesYear.2.1 42 = .ok (.iadd, 1) := by decide +kernel
theorem d_Md_passesYear_43 : decode m_Md_passesYear.2.1 43 = .ok (.bipush 10, 2) := by decide +kernel
theorem d_Md_passesYear_45 : decode m_Md_passesYear.2.1 45 = .ok (.iload_n 2, 1) := by decide +kernel
theorem d_Md_passesYear_46 : decode m_Md_passesYear.2.1 46 = .ok (.imul, 1) := by decide +kernel
theorem d_Md_passesYear_47 : decode m_Md_passesYear.2.1 47 = .ok (.iadd, 1) := by decide +kernel
theorem d_Md_passesYear_48 : decode m_Md_passesYear.2.1 48 = .ok (.iload_n 3, 1) := by decide +kernel
theorem d_Md_passesYear_49 : decode m_Md_passesYear.2.1 49 = .ok (.iadd, 1) := by decide +kernel
theorem d_Md_passesYear_50 : decode m_Md_passesYear.2.1 50 = .ok (.iaload, 1) := by decide +kernel
theorem d_Md_passesYear_51 : decode m_Md_passesYear.2.1 51 = .ok (.istore 4, 2) := by decide +kernel
theorem d_Md_passesYear_53 : decode m_Md_passesYear.2.1 53 = .ok (.aload_n 0, 1) := by decide +kernel
theorem d_Md_passesYear_54 : decode m_Md_passesYear.2.1 54 = .ok (.getfield 68, 3) := by decide +kernel
theorem d_Md_passesYear_57 : decode m_Md_passesYear.2.1 57 = .ok (.iload_n 2, 1) := by decide +kernel
theorem d_Md_passesYear_58 : decode m_Md_passesYear.2.1 58 = .ok (.aload_n 0, 1) := by decide +kernel
theorem d_Md_passesYear_59 : decode m_Md_passesYear.2.1 59 = .ok (.getfield 7, 3) := by decide +kernel
theorem d_Md_passesYear_62 : decode m_Md_passesYear.2.1 62 = .ok (.iload_n 1, 1) := by decide +kernel
theorem d_Md_passesYear_63 : decode m_Md_passesYear.2.1 63 = .ok (.iconst 1, 1) := by decide +kernel
theorem d_Md_passesYear_64 : decode m_Md_passesYear.2.1 64 = .ok (.iadd, 1) := by decide +kernel
theorem d_Md_passesYear_65 : decode m_Md_passesYear.2.1 65 = .ok (.iload_n 2, 1) := by decide +kernel
theorem d_Md_passesYear_66 : decode m_Md_passesYear.2.1 66 = .ok (.iadd, 1) := by decide +kernel
theorem d_Md_passesYear_67 : decode m_Md_passesYear.2.1 67 = .ok (.iaload, 1) := by decide +kernel
theorem d_Md_passesYear_68 : decode m_Md_passesYear.2.1 68 = .ok (.ifCond .le 18, 3) := by decide +kernel
theorem d_Md_passesYear_71 : decode m_Md_passesYear.2.1 71 = .ok (.aload_n 0, 1) := by decide +kernel
theorem d_Md_passesYear_72 : decode m_Md_passesYear.2.1 72 = .ok (.iload_n 1, 1) := by decide +kernel
theorem d_Md_passesYear_73 : decode m_Md_passesYear.2.1 73 = .ok (.iload 4, 2) := by decide +kernel
theorem d_Md_passesYear_75 : decode m_Md_passesYear.2.1 75 = .ok (.invokevirtual 245, 3) := by decide +kernel
theorem d_Md_passesYear_78 : decode m_Md_passesYear.2.1 78 = .ok (.ifCond .eq 8, 3) := by decide +kernel
theorem d_Md_passesYear_81 : decode m_Md_passesYear.2.1 81 = .ok (.iload 4, 2) := by decide +kernel
theorem d_Md_passesYear_83 : decode m_Md_passesYear.2.1 83 = .ok (.goto 9, 3) := by decide +kernel
theorem d_Md_passesYear_86 : decode m_Md_passesYear.2.1 86 = .ok (.aload_n 0, 1) := by decide +kernel
theorem d_Md_passesYear_87 : decode m_Md_passesYear.2.1 87 = .ok (.getfield 68, 3) := by decide +kernel
theorem d_Md_passesYear_90 : decode m_Md_passesYear.2.1 90 = .ok (.iload_n 2, 1) := by decide +kernel
theorem d_Md_passesYear_91 : decode m_Md_passesYear.2.1 91 = .ok (.iaload, 1) := by decide +kernel
theorem d_Md_passesYear_92 : decode m_Md_passesYear.2.1 92 = .ok (.iastore, 1) := by decide +kernel
theorem d_Md_passesYear_93 : decode m_Md_passesYear.2.1 93 = .ok (.iinc 3 (-1), 3) := by decide +kernel
theorem d_Md_passesYear_96 : decode m_Md_passesYear.2.1 96 = .ok (.goto (-65), 3) := by decide +kernel
theorem d_Md_passesYear_99 : decode m_Md_passesYear.2.1 99 = .ok (.iinc 2 1, 3) := by decide +kernel
theorem d_Md_passesYear_102 : decode m_Md_passesYear.2.1 102 = .ok (.goto (-100), 3) := by decide +kernel
theorem d_Md_passesYear_105 : decode m_Md_passesYear.2.1 105 = .ok (.iconst 0, 1) := by decide +kernel
theorem d_Md_passesYear_106 : decode m_Md_passesYear.2.1 106 = .ok (.istore_n 2, 1) := by decide +kernel
theorem d_Md_passesYear_107 : decode m_Md_passesYear.2.1 107 = .ok (.iload_n 2, 1) := by decide +kernel
theorem d_Md_passesYear_108 : decode m_Md_passesYear.2.1 108 = .ok (.aload_n 0, 1) := by decide +kernel
theorem d_Md_passesYear_109 : decode m_Md_passesYear.2.1 109 = .ok (.getfield 107, 3) := by decide +kernel
theorem d_Md_passesYear_112 : decode m_Md_passesYear.2.1 112 = .ok (.if_icmp .ge 103, 3) := by decide +kernel
theorem d_Md_passesYear_115 : decode m_Md_passesYear.2.1 115 = .ok (.aload_n 0, 1) := by decide +kernel
theorem d_Md_passesYear_116 : decode m_Md_passesYear.2.1 116 = .ok (.getfield 68, 3) := by decide +kernel
theorem d_Md_passesYear_119 : decode m_Md_passesYear.2.1 119 = .ok (.iload_n 2, 1) := by decide +kernel
theorem d_Md_passesYear_120 : decode m_Md_passesYear.2.1 120 = .ok (.iaload, 1) := by decide +kernel
theorem d_Md_passesYear_121 : decode m_Md_passesYear.2.1 121 = .ok (.istore_n 3, 1) := by decide +kernel
theorem d_Md_passesYear_122 : decode m_Md_passesYear.2.1 122 = .ok (.iload_n 3, 1) := by decide +kernel
theorem d_Md_passesYear_123 : decode m_Md_passesYear.2.1 123 = .ok (.ifCond .lt 86, 3) := by decide +kernel
theorem d_Md_passesYear_126 : decode m_Md_passesYear.2.1 126 = .ok (.aload_n 0, 1) := by decide +kernel
theorem d_Md_passesYear_127 : decode m_Md_passesYear.2.1 127 = .ok (.getfield 7, 3) := by decide +kernel
theorem d_Md_passesYear_130 : decode m_Md_passesYear.2.1 130 = .ok (.iload_n 1, 1) := by decide +kernel
theorem d_Md_passesYear_131 : decode m_Md_passesYear.2.1 131 = .ok (.bipush 16, 2) := by decide +kernel
theorem d_Md_passesYear_133 : decode m_Md_passesYear.2.1 133 = .ok (.iadd, 1) := by decide +kernel
theorem d_Md_passesYear_134 : decode m_Md_passesYear.2.1 134 = .ok (.iload_n 3, 1) := by decide +kernel
theorem d_Md_passesYear_135 : decode m_Md_passesYear.2.1 135 = .ok (.iadd, 1) := by decide +kernel
theorem d_Md_passesYear_136 : decode m_Md_passesYear.2.1 136 = .ok (.dup2, 1) := by decide +kernel
theorem d_Md_passesYear_137 : decode m_Md_passesYear.2.1 137 = .ok (.iaload, 1) := by decide +kernel
theorem d_Md_passesYear_138 : decode m_Md_passesYear.2.1 138 = .ok (.aload_n 0, 1) := by decide +kernel
theorem d_Md_passesYear_139 : decode m_Md_passesYear.2.1 139 = .ok (.getfield 26, 3) := by decide +kernel
theorem d_Md_passesYear_142 : decode m_Md_passesYear.2.1 142 = .ok (.iload_n 3, 1) := by decide +kernel
theorem d_Md_passesYear_143 : decode m_Md_passesYear.2.1 143 = .ok (.iaload, 1) := by decide +kernel
theorem d_Md_passesYear_144 : decode m_Md_passesYear.2.1 144 = .ok (.aload_n 0, 1) := by decide +kernel
theorem d_Md_passesYear_145 : decode m_Md_passesYear.2.1 145 = .ok (.getfield 17, 3) := by decide +kernel
theorem d_Md_passesYear_148 : decode m_Md_passesYear.2.1 148 = .ok (.iload_n 2, 1) := by decide +kernel
theorem d_Md_passesYear_149 : decode m_Md_passesYear.2.1 149 = .ok (.iaload, 1) := by decide +kernel
theorem d_Md_passesYear_150 : decode m_Md_passesYear.2.1 150 = .ok (.invokestatic 248, 3) := by decide +kernel
theorem d_Md_passesYear_153 : decode m_Md_passesYear.2.1 153 = .ok (.iadd, 1) := by decide +kernel
theorem d_Md_passesYear_154 : decode m_Md_passesYear.2.1 154 = .ok (.iastore, 1) := by decide +kernel
theorem d_Md_passesYear_155 : decode m_Md_passesYear.2.1 155 = .ok (.aload_n 0, 1) := by decide +kernel
theorem d_Md_passesYear_156 : decode m_Md_passesYear.2.1 156 = .ok (.getfield 7, 3) := by decide +kernel
theorem d_Md_passesYear_159 : decode m_Md_passesYear.2.1 159 = .ok (.iload_n 1, 1) := by decide +kernel
theorem d_Md_passesYear_160 : decode m_Md_passesYear.2.1 160 = .ok (.bipush 16, 2) := by decide +kernel
theorem d_Md_passesYear_162 : decode m_Md_passesYear.2.1 162 = .ok (.iadd, 1) := by decide +kernel
theorem d_Md_passesYear_163 : decode m_Md_passesYear.2.1 163 = .ok (.iload_n 3, 1) := by decide +kernel
theorem d_Md_passesYear_164 : decode m_Md_passesYear.2.1 164 = .ok (.iadd, 1) := by decide +kernel
theorem d_Md_passesYear_165 : decode m_Md_passesYear.2.1 165 = .ok (.iaload, 1) := by decide +kernel
theorem d_Md_passesYear_166 : decode m_Md_passesYear.2.1 166 = .ok (.aload_n 0, 1) := by decide +kernel
theorem d_Md_passesYear_167 : decode m_Md_passesYear.2.1 167 = .ok (.getfield 7, 3) := by decide +kernel
theorem d_Md_passesYear_170 : decode m_Md_passesYear.2.1 170 = .ok (.iload_n 1, 1) := by decide +kernel
theorem d_Md_passesYear_171 : decode m_Md_passesYear.2.1 171 = .ok (.bipush 6, 2) := by decide +kernel
theorem d_Md_passesYear_173 : decode m_Md_passesYear.2.1 173 = .ok (.iadd, 1) := by decide +kernel
theorem d_Md_passesYear_174 : decode m_Md_passesYear.2.1 174 = .ok (.iload_n 3, 1) := by decide +kernel
theorem d_Md_passesYear_175 : decode m_Md_passesYear.2.1 175 = .ok (.iadd, 1) := by decide +kernel
theorem d_Md_passesYear_176 : decode m_Md_passesYear.2.1 176 = .ok (.iaload, 1) := by decide +kernel
theorem d_Md_passesYear_177 : decode m_Md_passesYear.2.1 177 = .ok (.if_icmp .lt 32, 3) := by decide +kernel
theorem d_Md_passesYear_180 : decode m_Md_passesYear.2.1 180 = .ok (.aload_n 0, 1) := by decide +kernel
theorem d_Md_passesYear_181 : decode m_Md_passesYear.2.1 181 = .ok (.getfield 7, 3) := by decide +kernel
theorem d_Md_passesYear_184 : decode m_Md_passesYear.2.1 184 = .ok (.iload_n 1, 1) := by decide +kernel
theorem d_Md_passesYear_185 : decode m_Md_passesYear.2.1 185 = .ok (.bipush 16, 2) := by decide +kernel
theorem d_Md_passesYear_187 : decode m_Md_passesYear.2.1 187 = .ok (.iadd, 1) := by decide +kernel
theorem d_Md_passesYear_188 : decode m_Md_passesYear.2.1 188 = .ok (.iload_n 3, 1) := by decide +kernel
theorem d_Md_passesYear_189 : decode m_Md_passesYear.2.1 189 = .ok (.iadd, 1) := by decide +kernel
theorem d_Md_passesYear_190 : decode m_Md_passesYear.2.1 190 = .ok (.aload_n 0, 1) := by decide +kernel
theorem d_Md_passesYear_191 : decode m_Md_passesYear.2.1 191 = .ok (.getfield 7, 3) := by decide +kernel
theorem d_Md_passesYear_194 : decode m_Md_passesYear.2.1 194 = .ok (.iload_n 1, 1) := by decide +kernel
theorem d_Md_passesYear_195 : decode m_Md_passesYear.2.1 195 = .ok (.bipush 6, 2) := by decide +kernel
theorem d_Md_passesYear_197 : decode m_Md_passesYear.2.1 197 = .ok (.iadd, 1) := by decide +kernel
theorem d_Md_passesYear_198 : decode m_Md_passesYear.2.1 198 = .ok (.iload_n 3, 1) := by decide +kernel
theorem d_Md_passesYear_199 : decode m_Md_passesYear.2.1 199 = .ok (.iadd, 1) := by decide +kernel
theorem d_Md_passesYear_200 : decode m_Md_passesYear.2.1 200 = .ok (.iaload, 1) := by decide +kernel
theorem d_Md_passesYear_201 : decode m_Md_passesYear.2.1 201 = .ok (.iastore, 1) := by decide +kernel
theorem d_Md_passesYear_202 : decode m_Md_passesYear.2.1 202 = .ok (.aload_n 0, 1) := by decide +kernel
theorem d_Md_passesYear_203 : decode m_Md_passesYear.2.1 203 = .ok (.iload_n 1, 1) := by decide +kernel
theorem d_Md_passesYear_204 : decode m_Md_passesYear.2.1 204 = .ok (.iload_n 3, 1) := by decide +kernel
theorem d_Md_passesYear_205 : decode m_Md_passesYear.2.1 205 = .ok (.iload_n 2, 1) := by decide +kernel
theorem d_Md_passesYear_206 : decode m_Md_passesYear.2.1 206 = .ok (.invokevirtual 242, 3) := by decide +kernel
theorem d_Md_passesYear_209 : decode m_Md_passesYear.2.1 209 = .ok (.iinc 2 1, 3) := by decide +kernel
theorem d_Md_passesYear_212 : decode m_Md_passesYear.2.1 212 = .ok (.goto (-105), 3) := by decide +kernel
theorem d_Md_passesYear_215 : decode m_Md_passesYear.2.1 215 = .ok (.iconst 0, 1) := by decide +kernel
theorem d_Md_passesYear_216 : decode m_Md_passesYear.2.1 216 = .ok (.istore_n 2, 1) := by decide +kernel
theorem d_Md_passesYear_217 : decode m_Md_passesYear.2.1 217 = .ok (.iconst 0, 1) := by decide +kernel
theorem d_Md_passesYear_218 : decode m_Md_passesYear.2.1 218 = .ok (.istore_n 3, 1) := by decide +kernel
theorem d_Md_passesYear_219 : decode m_Md_passesYear.2.1 219 = .ok (.iload_n 3, 1) := by decide +kernel
theorem d_Md_passesYear_220 : decode m_Md_passesYear.2.1 220 = .ok (.aload_n 0, 1) := by decide +kernel
theorem d_Md_passesYear_221 : decode m_Md_passesYear.2.1 221 = .ok (.getfield 107, 3) := by decide +kernel
theorem d_Md_passesYear_224 : decode m_Md_passesYear.2.1 224 = .ok (.if_icmp .ge 59, 3) := by decide +kernel
theorem d_Md_passesYear_227 : decode m_Md_passesYear.2.1 227 = .ok (.aload_n 0, 1) := by decide +kernel
theorem d_Md_passesYear_228 : decode m_Md_passesYear.2.1 228 = .ok (.getfield 7, 3) := by decide +kernel
theorem d_Md_passesYear_231 : decode m_Md_passesYear.2.1 231 = .ok (.iload_n 1, 1) := by decide +kernel
theorem d_Md_passesYear_232 : decode m_Md_passesYear.2.1 232 = .ok (.iconst 1, 1) := by decide +kernel
theorem d_Md_passesYear_233 : decode m_Md_passesYear.2.1 233 = .ok (.iadd, 1) := by decide +kernel
theorem d_Md_passesYear_234 : decode m_Md_passesYear.2.1 234 = .ok (.iload_n 3, 1) := by decide +kernel
theorem d_Md_passesYear_235 : decode m_Md_passesYear.2.1 235 = .ok (.iadd, 1) := by decide +kernel
theorem d_Md_passesYear_236 : decode m_Md_passesYear.2.1 236 = .ok (.iaload, 1) := by decide +kernel
theorem d_Md_passesYear_237 : decode m_Md_passesYear.2.1 237 = .ok (.ifCond .le 40, 3) := by decide +kernel
theorem d_Md_passesYear_240 : decode m_Md_passesYear.2.1 240 = .ok (.aload_n 0, 1) := by decide +kernel
theorem d_Md_passesYear_241 : decode m_Md_passesYear.2.1 241 = .ok (.getfield 7, 3) := by decide +kernel
theorem d_Md_passesYear_244 : decode m_Md_passesYear.2.1 244 = .ok (.iload_n 1, 1) := by decide +kernel
theorem d_Md_passesYear_245 : decode m_Md_passesYear.2.1 245 = .ok (.iconst 1, 1) := by decide +kernel
theorem d_Md_passesYear_246 : decode m_Md_passesYear.2.1 246 = .ok (.iadd, 1) := by decide +kernel
theorem d_Md_passesYear_247 : decode m_Md_passesYear.2.1 247 = .ok (.iload_n 3, 1) := by decide +kernel
theorem d_Md_passesYear_248 : decode m_Md_passesYear.2.1 248 = .ok (.iadd, 1) := by decide +kernel
theorem d_Md_passesYear_249 : decode m_Md_passesYear.2.1 249 = .ok (.dup2, 1) := by decide +kernel
theorem d_Md_passesYear_250 : decode m_Md_passesYear.2.1 250 = .ok (.iaload, 1) := by decide +kernel
theorem d_Md_passesYear_251 : decode m_Md_passesYear.2.1 251 = .ok (.iconst 1, 1) := by decide +kernel
theorem d_Md_passesYear_252 : decode m_Md_passesYear.2.1 252 = .ok (.isub, 1) := by decide +kernel
theorem d_Md_passesYear_253 : decode m_Md_passesYear.2.1 253 = .ok (.iastore, 1) := by decide +kernel
theorem d_Md_passesYear_254 : decode m_Md_passesYear.2.1 254 = .ok (.iload_n 2, 1) := by decide +kernel
theorem d_Md_passesYear_255 : decode m_Md_passesYear.2.1 255 = .ok (.aload_n 0, 1) := by decide +kernel
theorem d_Md_passesYear_256 : decode m_Md_passesYear.2.1 256 = .ok (.getfield 7, 3) := by decide +kernel
theorem d_Md_passesYear_259 : decode m_Md_passesYear.2.1 259 = .ok (.iload_n 1, 1) := by decide +kernel
theorem d_Md_passesYear_260 : decode m_Md_passesYear.2.1 260 = .ok (.iconst 1, 1) := by decide +kernel
theorem d_Md_passesYear_261 : decode m_Md_passesYear.2.1 261 = .ok (.iadd, 1) := by decide +kernel
theorem d_Md_passesYear_262 : decode m_Md_passesYear.2.1 262 = .ok (.iload_n 3, 1) := by decide +kernel
theorem d_Md_passesYear_263 : decode m_Md_passesYear.2.1 263 = .ok (.iadd, 1) := by decide +kernel
theorem d_Md_passesYear_264 : decode m_Md_passesYear.2.1 264 = .ok (.iaload, 1) := by decide +kernel
theorem d_Md_passesYear_265 : decode m_Md_passesYear.2.1 265 = .ok (.ifCond .ne 9, 3) := by decide +kernel
theorem d_Md_passesYear_268 : decode m_Md_passesYear.2.1 268 = .ok (.iconst 1, 1) := by decide +kernel
theorem d_Md_passesYear_269 : decode m_Md_passesYear.2.1 269 = .ok (.iload_n 3, 1) := by decide +kernel
theorem d_Md_passesYear_270 : decode m_Md_passesYear.2.1 270 = .ok (.ishl, 1) := by decide +kernel
theorem d_Md_passesYear_271 : decode m_Md_passesYear.2.1 271 = .ok (.goto 4, 3) := by decide +kernel
theorem d_Md_passesYear_274 : decode m_Md_passesYear.2.1 274 = .ok (.iconst 0, 1) := by decide +kernel
theorem d_Md_passesYear_275 : decode m_Md_passesYear.2.1 275 = .ok (.ior, 1) := by decide +kernel
theorem d_Md_passesYear_276 : decode m_Md_passesYear.2.1 276 = .ok (.istore_n 2, 1) := by decide +kernel
theorem d_Md_passesYear_277 : decode m_Md_passesYear.2.1 277 = .ok (.iinc 3 1, 3) := by decide +kernel
theorem d_Md_passesYear_280 : decode m_Md_passesYear.2.1 280 = .ok (.goto (-61), 3) := by decide +kernel
theorem d_Md_passesYear_283 : decode m_Md_passesYear.2.1 283 = .ok (.iconst 0, 1) := by decide +kernel
theorem d_Md_passesYear_284 : decode m_Md_passesYear.2.1 284 = .ok (.istore_n 3, 1) := by decide +kernel
theorem d_Md_passesYear_285 : decode m_Md_passesYear.2.1 285 = .ok (.iload_n 3, 1) := by decide +kernel
theorem d_Md_passesYear_286 : decode m_Md_passesYear.2.1 286 = .ok (.aload_n 0, 1) := by decide +kernel
theorem d_Md_passesYear_287 : decode m_Md_passesYear.2.1 287 = .ok (.getfield 107, 3) := by decide +kernel
theorem d_Md_passesYear_290 : decode m_Md_passesYear.2.1 290 = .ok (.if_icmp .ge 23, 3) := by decide +kernel
theorem d_Md_passesYear_293 : decode m_Md_passesYear.2.1 293 = .ok (.iload_n 2, 1) := by decide +kernel
theorem d_Md_passesYear_294 : decode m_Md_passesYear.2.1 294 = .ok (.iload_n 3, 1) := by decide +kernel
theorem d_Md_passesYear_295 : decode m_Md_passesYear.2.1 295 = .ok (.invokestatic 236, 3) := by decide +kernel
theorem d_Md_passesYear_298 : decode m_Md_passesYear.2.1 298 = .ok (.ifCond .eq 9, 3) := by decide +kernel
theorem d_Md_passesYear_301 : decode m_Md_passesYear.2.1 301 = .ok (.aload_n 0, 1) := by decide +kernel
theorem d_Md_passesYear_302 : decode m_Md_passesYear.2.1 302 = .ok (.iload_n 1, 1) := by decide +kernel
theorem d_Md_passesYear_303 : decode m_Md_passesYear.2.1 303 = .ok (.iload_n 3, 1) := by decide +kernel
theorem d_Md_passesYear_304 : decode m_Md_passesYear.2.1 304 = .ok (.invokevirtual 252, 3) := by decide +kernel
theorem d_Md_passesYear_307 : decode m_Md_passesYear.2.1 307 = .ok (.iinc 3 1, 3) := by decide +kernel
theorem d_Md_passesYear_310 : decode m_Md_passesYear.2.1 310 = .ok (.goto (-25), 3) := by decide +kernel
theorem d_Md_passesYear_313 : decode m_Md_passesYear.2.1 313 = .ok (.aload_n 0, 1) := by decide +kernel
theorem d_Md_passesYear_314 : decode m_Md_passesYear.2.1 314 = .ok (.getfield 7, 3) := by decide +kernel
theorem d_Md_passesYear_317 : decode m_Md_passesYear.2.1 317 = .ok (.iload_n 1, 1) := by decide +kernel
theorem d_Md_passesYear_318 : decode m_Md_passesYear.2.1 318 = .ok (.iconst 0, 1) := by decide +kernel
theorem d_Md_passesYear_319 : decode m_Md_passesYear.2.1 319 = .ok (.iadd, 1) := by decide +kernel
theorem d_Md_passesYear_320 : decode m_Md_passesYear.2.1 320 = .ok (.dup2, 1) := by decide +kernel
theorem d_Md_passesYear_321 : decode m_Md_passesYear.2.1 321 = .ok (.iaload, 1) := by decide +kernel
theorem d_Md_passesYear_322 : decode m_Md_passesYear.2.1 322 = .ok (.iconst 1, 1) := by decide +kernel
theorem d_Md_passesYear_323 : decode m_Md_passesYear.2.1 323 = .ok (.iadd, 1) := by decide +kernel
theorem d_Md_passesYear_324 : decode m_Md_passesYear.2.1 324 = .ok (.iastore, 1) := by decide +kernel
theorem d_Md_passesYear_325 : decode m_Md_passesYear.2.1 325 = .ok (.return_, 1) := by decide +kernel
theorem d_Md_give_0 : decode m_Md_give.2.1 0 = .ok (.aload_n 0, 1) := by decide +kernel
theorem d_Md_give_1 : decode m_Md_give.2.1 1 = .ok (.iload_n 1, 1) := by decide +kernel
theorem d_Md_give_2 : decode m_Md_give.2.1 2 = .ok (.invokevirtual 259, 3) := by decide +kernel
theorem d_Md_give_5 : decode m_Md_give.2.1 5 = .ok (.ifCond .eq 16, 3) := by decide +kernel
theorem d_Md_give_8 : decode m_Md_give.2.1 8 = .ok (.iload_n 2, 1) := by decide +kernel
theorem d_Md_give_9 : decode m_Md_give.2.1 9 = .ok (.iconst (-1), 1) := by decide +kernel
theorem d_Md_give_10 : decode m_Md_give.2.1 10 = .ok (.if_icmp .eq 14, 3) := by decide +kernel
theorem d_Md_give_13 : decode m_Md_give.2.1 13 = .ok (.aload_n 0, 1) := by decide +kernel
theorem d_Md_give_14 : decode m_Md_give.2.1 14 = .ok (.iload_n 2, 1) := by decide +kernel
theorem d_Md_give_15 : decode m_Md_give.2.1 15 = .ok (.invokevirtual 256, 3) := by decide +kernel
theorem d_Md_give_18 : decode m_Md_give.2.1 18 = .ok (.ifCond .ne 6, 3) := by decide +kernel
theorem d_Md_give_21 : decode m_Md_give.2.1 21 = .ok (.bipush (-2), 2) := by decide +kernel
theorem d_Md_give_23 : decode m_Md_give.2.1 23 = .ok (.ireturn, 1) := by decide +kernel
theorem d_Md_give_24 : decode m_Md_give.2.1 24 = .ok (.iload_n 2, 1) := by decide +kernel
theorem d_Md_give_25 : decode m_Md_give.2.1 25 = .ok (.iconst (-1), 1) := by decide +kernel
theorem d_Md_give_26 : decode m_Md_give.2.1 26 = .ok (.if_icmp .ne 7, 3) := by decide +kernel
theorem d_Md_give_29 : decode m_Md_give.2.1 29 = .ok (.iconst 5, 1) := by decide +kernel
theorem d_Md_give_30 : decode m_Md_give.2.1 30 = .ok (.goto 4, 3) := by decide +kernel
theorem d_Md_give_33 : decode m_Md_give.2.1 33 = .ok (.iload_n 2, 1) := by decide +kernel
theorem d_Md_give_34 : decode m_Md_give.2.1 34 = .ok (.istore_n 3, 1) := by decide +kernel
theorem d_Md_give_35 : decode m_Md_give.2.1 35 = .ok (.aload_n 0, 1) := by decide +kernel
theorem d_Md_give_36 : decode m_Md_give.2.1 36 = .ok (.iconst 0, 1) := by decide +kernel
theorem d_Md_give_37 : decode m_Md_give.2.1 37 = .ok (.iload_n 1, 1) := by decide +kernel
theorem d_Md_give_38 : decode m_Md_give.2.1 38 = .ok (.invokevirtual 262, 3) := by decide +kernel
theorem d_Md_give_41 : decode m_Md_give.2.1 41 = .ok (.istore 4, 2) := by decide +kernel
theorem d_Md_give_43 : decode m_Md_give.2.1 43 = .ok (.iload 4, 2) := by decide +kernel
theorem d_Md_give_45 : decode m_Md_give.2.1 45 = .ok (.ifCond .lt 25, 3) := by decide +kernel
theorem d_Md_give_48 : decode m_Md_give.2.1 48 = .ok (.iload 4, 2) := by decide +kernel
theorem d_Md_give_50 : decode m_Md_give.2.1 50 = .ok (.iload_n 3, 1) := by decide +kernel
theorem d_Md_give_51 : decode m_Md_give.2.1 51 = .ok (.if_icmp .eq 19, 3) := by decide +kernel
theorem d_Md_give_54 : decode m_Md_give.2.1 54 = .ok (.iload_n 3, 1) := by decide +kernel
theorem d_Md_give_55 : decode m_Md_give.2.1 55 = .ok (.iconst 5, 1) := by decide +kernel
theorem d_Md_give_56 : decode m_Md_give.2.1 56 = .ok (.if_icmp .eq 17, 3) := by decide +kernel
theorem d_Md_give_59 : decode m_Md_give.2.1 59 = .ok (.aload_n 0, 1) := by decide +kernel
theorem d_Md_give_60 : decode m_Md_give.2.1 60 = .ok (.getfield 7, 3) := by decide +kernel
theorem d_Md_give_63 : decode m_Md_give.2.1 63 = .ok (.iconst 1, 1) := by decide +kernel
theorem d_Md_give_64 : decode m_Md_give.2.1 64 = .ok (.iload_n 3, 1) := by decide +kernel
theorem d_Md_give_65 : decode m_Md_give.2.1 65 = .ok (.iadd, 1) := by decide +kernel
theorem d_Md_give_66 : decode m_Md_give.2.1 66 = .ok (.iaload, 1) := by decide +kernel
theorem d_Md_give_67 : decode m_Md_give.2.1 67 = .ok (.ifCond .ne 6, 3) := by decide +kernel
theorem d_Md_give_70 : decode m_Md_give.2.1 70 = .ok (.bipush (-4), 2) := by decide +kernel
theorem d_Md_give_72 : decode m_Md_give.2.1 72 = .ok (.ireturn, 1) := by decide +kernel
theorem d_Md_give_73 : decode m_Md_give.2.1 73 = .ok (.aload_n 0, 1) := by decide +kernel
theorem d_Md_give_74 : decode m_Md_give.2.1 74 = .ok (.invokevirtual 275, 3) := by decide +kernel
theorem d_Md_give_77 : decode m_Md_give.2.1 77 = .ok (.aload_n 0, 1) := by decide +kernel
theorem d_Md_give_78 : decode m_Md_give.2.1 78 = .ok (.iconst 0, 1) := by decide +kernel
theorem d_Md_give_79 : decode m_Md_give.2.1 79 = .ok (.iload_n 1, 1) := by decide +kernel
theorem d_Md_give_80 : decode m_Md_give.2.1 80 = .ok (.iload 4, 2) := by decide +kernel
theorem d_Md_give_82 : decode m_Md_give.2.1 82 = .ok (.invokevirtual 239, 3) := by decide +kernel
theorem d_Md_give_85 : decode m_Md_give.2.1 85 = .ok (.aload_n 0, 1) := by decide +kernel
theorem d_Md_give_86 : decode m_Md_give.2.1 86 = .ok (.iconst 0, 1) := by decide +kernel
theorem d_Md_give_87 : decode m_Md_give.2.1 87 = .ok (.iload_n 1, 1) := by decide +kernel
theorem d_Md_give_88 : decode m_Md_give.2.1 88 = .ok (.iload_n 3, 1) := by decide +kernel
theorem d_Md_give_89 : decode m_Md_give.2.1 89 = .ok (.invokevirtual 219, 3) := by decide +kernel
theorem d_Md_give_92 : decode m_Md_give.2.1 92 = .ok (.iload 4, 2) := by decide +kernel
theorem d_Md_give_94 : decode m_Md_give.2.1 94 = .ok (.ireturn, 1) := by decide +kernel
theorem d_Md_keep_0 : decode m_Md_keep.2.1 0 = .ok (.iload_n 1, 1) := by decide +kernel
theorem d_Md_keep_1 : decode m_Md_keep.2.1 1 = .ok (.i2l, 1) := by decide +kernel
theorem d_Md_keep_2 : decode m_Md_keep.2.1 2 = .ok (.lconst 0, 1) := by decide +kernel
theorem d_Md_keep_3 : decode m_Md_keep.2.1 3 = .ok (.lconst 1, 1) := by decide +kernel
theorem d_Md_keep_4 : decode m_Md_keep.2.1 4 = .ok (.invokestatic 111, 3) := by decide +kernel
theorem d_Md_keep_7 : decode m_Md_keep.2.1 7 = .ok (.ifCond .ne 6, 3) := by decide +kernel
theorem d_Md_keep_10 : decode m_Md_keep.2.1 10 = .ok (.bipush (-2), 2) := by decide +kernel
theorem d_Md_keep_12 : decode m_Md_keep.2.1 12 = .ok (.ireturn, 1) := by decide +kernel
theorem d_Md_keep_13 : decode m_Md_keep.2.1 13 = .ok (.aload_n 0, 1) := by decide +kernel
theorem d_Md_keep_14 : decode m_Md_keep.2.1 14 = .ok (.iconst 0, 1) := by decide +kernel
theorem d_Md_keep_15 : decode m_Md_keep.2.1 15 = .ok (.sipush 186, 3) := by decide +kernel
theorem d_Md_keep_18 : decode m_Md_keep.2.1 18 = .ok (.bipush 93, 2) := by decide +kernel
theorem d_Md_keep_20 : decode m_Md_keep.2.1 20 = .ok (.iload_n 1, 1) := by decide +kernel
theorem d_Md_keep_21 : decode m_Md_keep.2.1 21 = .ok (.imul, 1) := by decide +kernel
theorem d_Md_keep_22 : decode m_Md_keep.2.1 22 = .ok (.iadd, 1) := by decide +kernel
theorem d_Md_keep_23 : decode m_Md_keep.2.1 23 = .ok (.invokevirtual 270, 3) := by decide +kernel
theorem d_Md_keep_26 : decode m_Md_keep.2.1 26 = .ok (.aload_n 0, 1) := by decide +kernel
theorem d_Md_keep_27 : decode m_Md_keep.2.1 27 = .ok (.getfield 13, 3) := by decide +kernel
theorem d_Md_keep_30 : decode m_Md_keep.2.1 30 = .ok (.iload_n 1, 1) := by decide +kernel
theorem d_Md_keep_31 : decode m_Md_keep.2.1 31 = .ok (.iconst 1, 1) := by decide +kernel
theorem d_Md_keep_32 : decode m_Md_keep.2.1 32 = .ok (.bastore, 1) := by decide +kernel
theorem d_Md_keep_33 : decode m_Md_keep.2.1 33 = .ok (.aload_n 0, 1) := by decide +kernel
theorem d_Md_keep_34 : decode m_Md_keep.2.1 34 = .ok (.getfield 7, 3) := by decide +kernel
theorem d_Md_keep_37 : decode m_Md_keep.2.1 37 = .ok (.iconst 0, 1) := by decide +kernel
theorem d_Md_keep_38 : decode m_Md_keep.2.1 38 = .ok (.iaload, 1) := by decide +kernel
theorem d_Md_keep_39 : decode m_Md_keep.2.1 39 = .ok (.ireturn, 1) := by decide +kernel
theorem d_Md_goesOn_0 : decode m_Md_goesOn.2.1 0 = .ok (.iconst 0, 1) := by decide +kernel
theorem d_Md_goesOn_1 : decode m_Md_goesOn.2.1 1 = .ok (.istore_n 2, 1) := by decide +kernel
theorem d_Md_goesOn_2 : decode m_Md_goesOn.2.1 2 = .ok (.iload_n 2, 1) := by decide +kernel
theorem d_Md_goesOn_3 : decode m_Md_goesOn.2.1 3 = .ok (.iload_n 1, 1) := by decide +kernel
theorem d_Md_goesOn_4 : decode m_Md_goesOn.2.1 4 = .ok (.if_icmp .ge 15, 3) := by decide +kernel
theorem d_Md_goesOn_7 : decode m_Md_goesOn.2.1 7 = .ok (.aload_n 0, 1) := by decide +kernel
theorem d_Md_goesOn_8 : decode m_Md_goesOn.2.1 8 = .ok (.bipush 93, 2) := by decide +kernel
theorem d_Md_goesOn_10 : decode m_Md_goesOn.2.1 10 = .ok (.invokevirtual 278, 3) := by decide +kernel
theorem d_Md_goesOn_13 : decode m_Md_goesOn.2.1 13 = .ok (.iinc 2 1, 3) := by decide +kernel
theorem d_Md_goesOn_16 : decode m_Md_goesOn.2.1 16 = .ok (.goto (-14), 3) := by decide +kernel
theorem d_Md_goesOn_19 : decode m_Md_goesOn.2.1 19 = .ok (.return_, 1) := by decide +kernel
theorem d_Md_order_0 : decode m_Md_order.2.1 0 = .ok (.aload_n 0, 1) := by decide +kernel
theorem d_Md_order_1 : decode m_Md_order.2.1 1 = .ok (.iload_n 1, 1) := by decide +kernel
theorem d_Md_order_2 : decode m_Md_order.2.1 2 = .ok (.invokevirtual 256, 3) := by decide +kernel
theorem d_Md_order_5 : decode m_Md_order.2.1 5 = .ok (.ifCond .ne 6, 3) := by decide +kernel
theorem d_Md_order_8 : decode m_Md_order.2.1 8 = .ok (.bipush (-2), 2) := by decide +kernel
theorem d_Md_order_10 : decode m_Md_order.2.1 10 = .ok (.ireturn, 1) := by decide +kernel
theorem d_Md_order_11 : decode m_Md_order.2.1 11 = .ok (.iload_n 2, 1) := by decide +kernel
theorem d_Md_order_12 : decode m_Md_order.2.1 12 = .ok (.i2l, 1) := by decide +kernel
theorem d_Md_order_13 : decode m_Md_order.2.1 13 = .ok (.lconst 1, 1) := by decide +kernel
theorem d_Md_order_14 : decode m_Md_order.2.1 14 = .ok (.ldc2_w 293, 3) := by decide +kernel
theorem d_Md_order_17 : decode m_Md_order.2.1 17 = .ok (.invokestatic 111, 3) := by decide +kernel
theorem d_Md_order_20 : decode m_Md_order.2.1 20 = .ok (.ifCond .eq 8, 3) := by decide +kernel
theorem d_Md_order_23 : decode m_Md_order.2.1 23 = .ok (.iload_n 3, 1) := by decide +kernel
theorem d_Md_order_24 : decode m_Md_order.2.1 24 = .ok (.iconst (-1), 1) := by decide +kernel
theorem d_Md_order_25 : decode m_Md_order.2.1 25 = .ok (.if_icmp .ge 6, 3) := by decide +kernel
theorem d_Md_order_28 : decode m_Md_order.2.1 28 = .ok (.bipush (-3), 2) := by decide +kernel
theorem d_Md_order_30 : decode m_Md_order.2.1 30 = .ok (.ireturn, 1) := by decide +kernel
theorem d_Md_order_31 : decode m_Md_order.2.1 31 = .ok (.aload_n 0, 1) := by decide +kernel
theorem d_Md_order_32 : decode m_Md_order.2.1 32 = .ok (.getfield 7, 3) := by decide +kernel
theorem d_Md_order_35 : decode m_Md_order.2.1 35 = .ok (.bipush 27, 2) := by decide +kernel
theorem d_Md_order_37 : decode m_Md_order.2.1 37 = .ok (.iload_n 1, 1) := by decide +kernel
theorem d_Md_order_38 : decode m_Md_order.2.1 38 = .ok (.iadd, 1) := by decide +kernel
theorem d_Md_order_39 : decode m_Md_order.2.1 39 = .ok (.iaload, 1) := by decide +kernel
theorem d_Md_order_40 : decode m_Md_order.2.1 40 = .ok (.iconst 5, 1) := by decide +kernel
theorem d_Md_order_41 : decode m_Md_order.2.1 41 = .ok (.if_icmp .le 5, 3) := by decide +kernel
theorem d_Md_order_44 : decode m_Md_order.2.1 44 = .ok (.iconst (-1), 1) := by decide +kernel
theorem d_Md_order_45 : decode m_Md_order.2.1 45 = .ok (.ireturn, 1) := by decide +kernel
theorem d_Md_order_46 : decode m_Md_order.2.1 46 = .ok (.aload_n 0, 1) := by decide +kernel
theorem d_Md_order_47 : decode m_Md_order.2.1 47 = .ok (.iload_n 1, 1) := by decide +kernel
theorem d_Md_order_48 : decode m_Md_order.2.1 48 = .ok (.iload_n 2, 1) := by decide +kernel
theorem d_Md_order_49 : decode m_Md_order.2.1 49 = .ok (.invokevirtual 295, 3) := by decide +kernel
theorem d_Md_order_52 : decode m_Md_order.2.1 52 = .ok (.istore 4, 2) := by decide +kernel
theorem d_Md_order_54 : decode m_Md_order.2.1 54 = .ok (.iload_n 3, 1) := by decide +kernel
theorem d_Md_order_55 : decode m_Md_order.2.1 55 = .ok (.iconst (-1), 1) := by decide +kernel
theorem d_Md_order_56 : decode m_Md_order.2.1 56 = .ok (.if_icmp .ne 8, 3) := by decide +kernel
theorem d_Md_order_59 : decode m_Md_order.2.1 59 = .ok (.iload 4, 2) := by decide +kernel
theorem d_Md_order_61 : decode m_Md_order.2.1 61 = .ok (.goto 26, 3) := by decide +kernel
theorem d_Md_order_64 : decode m_Md_order.2.1 64 = .ok (.iload_n 3, 1) := by decide +kernel
theorem d_Md_order_65 : decode m_Md_order.2.1 65 = .ok (.aload_n 0, 1) := by decide +kernel
theorem d_Md_order_66 : decode m_Md_order.2.1 66 = .ok (.getfield 7, 3) := by decide +kernel
theorem d_Md_order_69 : decode m_Md_order.2.1 69 = .ok (.bipush 27, 2) := by decide +kernel
theorem d_Md_order_71 : decode m_Md_order.2.1 71 = .ok (.iload_n 1, 1) := by decide +kernel
theorem d_Md_order_72 : decode m_Md_order.2.1 72 = .ok (.iadd, 1) := by decide +kernel
theorem d_Md_order_73 : decode m_Md_order.2.1 73 = .ok (.iaload, 1) := by decide +kernel
theorem d_Md_order_74 : decode m_Md_order.2.1 74 = .ok (.if_icmp .ge 12, 3) := by decide +kernel
theorem d_Md_order_77 : decode m_Md_order.2.1 77 = .ok (.aload_n 0, 1) := by decide +kernel
theorem d_Md_order_78 : decode m_Md_order.2.1 78 = .ok (.getfield 74, 3) := by decide +kernel
theorem d_Md_order_81 : decode m_Md_order.2.1 81 = .ok (.iload_n 3, 1) := by decide +kernel
theorem d_Md_order_82 : decode m_Md_order.2.1 82 = .ok (.iaload, 1) := by decide +kernel
theorem d_Md_order_83 : decode m_Md_order.2.1 83 = .ok (.goto 4, 3) := by decide +kernel
theorem d_Md_order_86 : decode m_Md_order.2.1 86 = .ok (.iconst (-1), 1) := by decide +kernel
theorem d_Md_order_87 : decode m_Md_order.2.1 87 = .ok (.ireturn, 1) := by decide +kernel
theorem d_Md_peace_0 : decode m_Md_peace.2.1 0 = .ok (.iconst 0, 1) := by decide +kernel
theorem d_Md_peace_1 : decode m_Md_peace.2.1 1 = .ok (.istore_n 1, 1) := by decide +kernel
theorem d_Md_peace_2 : decode m_Md_peace.2.1 2 = .ok (.iconst 0, 1) := by decide +kernel
theorem d_Md_peace_3 : decode m_Md_peace.2.1 3 = .ok (.istore_n 2, 1) := by decide +kernel
theorem d_Md_peace_4 : decode m_Md_peace.2.1 4 = .ok (.iload_n 2, 1) := by decide +kernel
theorem d_Md_peace_5 : decode m_Md_peace.2.1 5 = .ok (.iconst 1, 1) := by decide +kernel
theorem d_Md_peace_6 : decode m_Md_peace.2.1 6 = .ok (.aload_n 0, 1) := by decide +kernel
theorem d_Md_peace_7 : decode m_Md_peace.2.1 7 = .ok (.getfield 115, 3) := by decide +kernel
theorem d_Md_peace_10 : decode m_Md_peace.2.1 10 = .ok (.ishl, 1) := by decide +kernel
theorem d_Md_peace_11 : decode m_Md_peace.2.1 11 = .ok (.if_icmp .ge 81, 3) := by decide +kernel
theorem d_Md_peace_14 : decode m_Md_peace.2.1 14 = .ok (.iconst 1, 1) := by decide +kernel
theorem d_Md_peace_15 : decode m_Md_peace.2.1 15 = .ok (.istore_n 3, 1) := by decide +kernel
theorem d_Md_peace_16 : decode m_Md_peace.2.1 16 = .ok (.iconst 0, 1) := by decide +kernel
theorem d_Md_peace_17 : decode m_Md_peace.2.1 17 = .ok (.istore 4, 2) := by decide +kernel
theorem d_Md_peace_19 : decode m_Md_peace.2.1 19 = .ok (.iload 4, 2) := by decide +kernel
theorem d_Md_peace_21 : decode m_Md_peace.2.1 21 = .ok (.aload_n 0, 1) := by decide +kernel
theorem d_Md_peace_22 : decode m_Md_peace.2.1 22 = .ok (.getfield 115, 3) := by decide +kernel
theorem d_Md_peace_25 : decode m_Md_peace.2.1 25 = .ok (.if_icmp .ge 40, 3) := by decide +kernel
theorem d_Md_peace_28 : decode m_Md_peace.2.1 28 = .ok (.iload_n 3, 1) := by decide +kernel
theorem d_Md_peace_29 : decode m_Md_peace.2.1 29 = .ok (.ifCond .eq 28, 3) := by decide +kernel
theorem d_Md_peace_32 : decode m_Md_peace.2.1 32 = .ok (.iload_n 2, 1) := by decide +kernel
theorem d_Md_peace_33 : decode m_Md_peace.2.1 33 = .ok (.iload 4, 2) := by decide +kernel
theorem d_Md_peace_35 : decode m_Md_peace.2.1 35 = .ok (.invokestatic 236, 3) := by decide +kernel
theorem d_Md_peace_38 : decode m_Md_peace.2.1 38 = .ok (.ifCond .eq 15, 3) := by decide +kernel
theorem d_Md_peace_41 : decode m_Md_peace.2.1 41 = .ok (.aload_n 0, 1) := by decide +kernel
theorem d_Md_peace_42 : decode m_Md_peace.2.1 42 = .ok (.getfield 38, 3) := by decide +kernel
theorem d_Md_peace_45 : decode m_Md_peace.2.1 45 = .ok (.iload 4, 2) := by decide +kernel
theorem d_Md_peace_47 : decode m_Md_peace.2.1 47 = .ok (.iaload, 1) := by decide +kernel
theorem d_Md_peace_48 : decode m_Md_peace.2.1 48 = .ok (.iload_n 2, 1) := by decide +kernel
theorem d_Md_peace_49 : decode m_Md_peace.2.1 49 = .ok (.iand, 1) := by decide +kernel
theorem d_Md_peace_50 : decode m_Md_peace.2.1 50 = .ok (.ifCond .ne 7, 3) := by decide +kernel
theorem d_Md_peace_53 : decode m_Md_peace.2.1 53 = .ok (.iconst 1, 1) := by decide +kernel
theorem d_Md_peace_54 : decode m_Md_peace.2.1 54 = .ok (.goto 4, 3) := by decide +kernel
theorem d_Md_peace_57 : decode m_Md_peace.2.1 57 = .ok (.iconst 0, 1) := by decide +kernel
theorem d_Md_peace_58 : decode m_Md_peace.2.1 58 = .ok (.istore_n 3, 1) := by decide +kernel
theorem d_Md_peace_59 : decode m_Md_peace.2.1 59 = .ok (.iinc 4 1, 3) := by decide +kernel
theorem d_Md_peace_62 : decode m_Md_peace.2.1 62 = .ok (.goto (-43), 3) := by decide +kernel
theorem d_Md_peace_65 : decode m_Md_peace.2.1 65 = .ok (.iload_n 3, 1) := by decide +kernel
theorem d_Md_peace_66 : decode m_Md_peace.2.1 66 = .ok (.ifCond .eq 18, 3) := by decide +kernel
theorem d_Md_peace_69 : decode m_Md_peace.2.1 69 = .ok (.iload_n 2, 1) := by decide +kernel
theorem d_Md_peace_70 : decode m_Md_peace.2.1 70 = .ok (.invokestatic 290, 3) := by decide +kernel
theorem d_Md_peace_73 : decode m_Md_peace.2.1 73 = .ok (.iload_n 1, 1) := by decide +kernel
theorem d_Md_peace_74 : decode m_Md_peace.2.1 74 = .ok (.invokestatic 290, 3) := by decide +kernel
theorem d_Md_peace_77 : decode m_Md_peace.2.1 77 = .ok (.if_icmp .le 7, 3) := by decide +kernel
theorem d_Md_peace_80 : decode m_Md_peace.2.1 80 = .ok (.iload_n 2, 1) := by decide +kernel
theorem d_Md_peace_81 : decode m_Md_peace.2.1 81 = .ok (.goto 4, 3) := by decide +kernel
theorem d_Md_peace_84 : decode m_Md_peace.2.1 84 = .ok (.iload_n 1, 1) := by decide +kernel
theorem d_Md_peace_85 : decode m_Md_peace.2.1 85 = .ok (.istore_n 1, 1) := by decide +kernel
theorem d_Md_peace_86 : decode m_Md_peace.2.1 86 = .ok (.iinc 2 1, 3) := by decide +kernel
theorem d_Md_peace_89 : decode m_Md_peace.2.1 89 = .ok (.goto (-85), 3) := by decide +kernel
theorem d_Md_peace_92 : decode m_Md_peace.2.1 92 = .ok (.iload_n 1, 1) := by decide +kernel
theorem d_Md_peace_93 : decode m_Md_peace.2.1 93 = .ok (.ireturn, 1) := by decide +kernel
theorem d_Md_kinds_0 : decode m_Md_kinds.2.1 0 = .ok (.iconst 0, 1) := by decide +kernel
theorem d_Md_kinds_1 : decode m_Md_kinds.2.1 1 = .ok (.istore_n 1, 1) := by decide +kernel
theorem d_Md_kinds_2 : decode m_Md_kinds.2.1 2 = .ok (.iconst 0, 1) := by decide +kernel
theorem d_Md_kinds_3 : decode m_Md_kinds.2.1 3 = .ok (.istore_n 2, 1) := by decide +kernel
theorem d_Md_kinds_4 : decode m_Md_kinds.2.1 4 = .ok (.iload_n 2, 1) := by decide +kernel
theorem d_Md_kinds_5 : decode m_Md_kinds.2.1 5 = .ok (.iconst 4, 1) := by decide +kernel
theorem d_Md_kinds_6 : decode m_Md_kinds.2.1 6 = .ok (.if_icmp .gt 82, 3) := by decide +kernel
theorem d_Md_kinds_9 : decode m_Md_kinds.2.1 9 = .ok (.iconst 1, 1) := by decide +kernel
theorem d_Md_kinds_10 : decode m_Md_kinds.2.1 10 = .ok (.istore_n 3, 1) := by decide +kernel
theorem d_Md_kinds_11 : decode m_Md_kinds.2.1 11 = .ok (.iconst 0, 1) := by decide +kernel
theorem d_Md_kinds_12 : decode m_Md_kinds.2.1 12 = .ok (.istore 4, 2) := by decide +kernel
theorem d_Md_kinds_14 : decode m_Md_kinds.2.1 14 = .ok (.iload 4, 2) := by decide +kernel
theorem d_Md_kinds_16 : decode m_Md_kinds.2.1 16 = .ok (.aload_n 0, 1) := by decide +kernel
theorem d_Md_kinds_17 : decode m_Md_kinds.2.1 17 = .ok (.getfield 229, 3) := by decide +kernel
theorem d_Md_kinds_20 : decode m_Md_kinds.2.1 20 = .ok (.if_icmp .ge 48, 3) := by decide +kernel
theorem d_Md_kinds_23 : decode m_Md_kinds.2.1 23 = .ok (.iload_n 3, 1) := by decide +kernel
theorem d_Md_kinds_24 : decode m_Md_kinds.2.1 24 = .ok (.ifCond .eq 36, 3) := by decide +kernel
theorem d_Md_kinds_27 : decode m_Md_kinds.2.1 27 = .ok (.aload_n 0, 1) := by decide +kernel
theorem d_Md_kinds_28 : decode m_Md_kinds.2.1 28 = .ok (.getfield 86, 3) := by decide +kernel
theorem d_Md_kinds_31 : decode m_Md_kinds.2.1 31 = .ok (.iload 4, 2) := by decide +kernel
theorem d_Md_kinds_33 : decode m_Md_kinds.2.1 33 = .ok (.iaload, 1) := by decide +kernel
theorem d_Md_kinds_34 : decode m_Md_kinds.2.1 34 = .ok (.iload_n 2, 1) := by decide +kernel
theorem d_Md_kinds_35 : decode m_Md_kinds.2.1 35 = .ok (.aload_n 0, 1) := by decide +kernel
theorem d_Md_kinds_36 : decode m_Md_kinds.2.1 36 = .ok (.getfield 83, 3) := by decide +kernel
theorem d_Md_kinds_39 : decode m_Md_kinds.2.1 39 = .ok (.iload 4, 2) := by decide +kernel
theorem d_Md_kinds_41 : decode m_Md_kinds.2.1 41 = .ok (.iaload, 1) := by decide +kernel
theorem d_Md_kinds_42 : decode m_Md_kinds.2.1 42 = .ok (.invokestatic 248, 3) := by decide +kernel
theorem d_Md_kinds_45 : decode m_Md_kinds.2.1 45 = .ok (.imul, 1) := by decide +kernel
theorem d_Md_kinds_46 : decode m_Md_kinds.2.1 46 = .ok (.aload_n 0, 1) := by decide +kernel
theorem d_Md_kinds_47 : decode m_Md_kinds.2.1 47 = .ok (.getfield 89, 3) := by decide +kernel
theorem d_Md_kinds_50 : decode m_Md_kinds.2.1 50 = .ok (.iload 4, 2) := by decide +kernel
theorem d_Md_kinds_52 : decode m_Md_kinds.2.1 52 = .ok (.iaload, 1) := by decide +kernel
theorem d_Md_kinds_53 : decode m_Md_kinds.2.1 53 = .ok (.if_icmp .ne 7, 3) := by decide +kernel
theorem d_Md_kinds_56 : decode m_Md_kinds.2.1 56 = .ok (.iconst 1, 1) := by decide +kernel
theorem d_Md_kinds_57 : decode m_Md_kinds.2.1 57 = .ok (.goto 4, 3) := by decide +kernel
theorem d_Md_kinds_60 : decode m_Md_kinds.2.1 60 = .ok (.iconst 0, 1) := by decide +kernel
theorem d_Md_kinds_61 : decode m_Md_kinds.2.1 61 = .ok (.istore_n 3, 1) := by decide +kernel
theorem d_Md_kinds_62 : decode m_Md_kinds.2.1 62 = .ok (.iinc 4 1, 3) := by decide +kernel
theorem d_Md_kinds_65 : decode m_Md_kinds.2.1 65 = .ok (.goto (-51), 3) := by decide +kernel
theorem d_Md_kinds_68 : decode m_Md_kinds.2.1 68 = .ok (.iload_n 1, 1) := by decide +kernel
theorem d_Md_kinds_69 : decode m_Md_kinds.2.1 69 = .ok (.iload_n 3, 1) := by decide +kernel
theorem d_Md_kinds_70 : decode m_Md_kinds.2.1 70 = .ok (.ifCond .eq 9, 3) := by decide +kernel
theorem d_Md_kinds_73 : decode m_Md_kinds.2.1 73 = .ok (.iconst 1, 1) := by decide +kernel
theorem d_Md_kinds_74 : decode m_Md_kinds.2.1 74 = .ok (.iload_n 2, 1) := by decide +kernel
theorem d_Md_kinds_75 : decode m_Md_kinds.2.1 75 = .ok (.ishl, 1) := by decide +kernel
theorem d_Md_kinds_76 : decode m_Md_kinds.2.1 76 = .ok (.goto 4, 3) := by decide +kernel
theorem d_Md_kinds_79 : decode m_Md_kinds.2.1 79 = .ok (.iconst 0, 1) := by decide +kernel
theorem d_Md_kinds_80 : decode m_Md_kinds.2.1 80 = .ok (.ior, 1) := by decide +kernel
theorem d_Md_kinds_81 : decode m_Md_kinds.2.1 81 = .ok (.istore_n 1, 1) := by decide +kernel
theorem d_Md_kinds_82 : decode m_Md_kinds.2.1 82 = .ok (.iinc 2 1, 3) := by decide +kernel
theorem d_Md_kinds_85 : decode m_Md_kinds.2.1 85 = .ok (.goto (-81), 3) := by decide +kernel
theorem d_Md_kinds_88 : decode m_Md_kinds.2.1 88 = .ok (.iload_n 1, 1) := by decide +kernel
theorem d_Md_kinds_89 : decode m_Md_kinds.2.1 89 = .ok (.ireturn, 1) := by decide +kernel
theorem d_Md_page_0 : decode m_Md_page.2.1 0 = .ok (.iload_n 1, 1) := by decide +kernel
theorem d_Md_page_1 : decode m_Md_page.2.1 1 = .ok (.invokestatic 311, 3) := by decide +kernel
theorem d_Md_page_4 : decode m_Md_page.2.1 4 = .ok (.ifCond .ne 6, 3) := by decide +kernel
theorem d_Md_page_7 : decode m_Md_page.2.1 7 = .ok (.bipush (-2), 2) := by decide +kernel
theorem d_Md_page_9 : decode m_Md_page.2.1 9 = .ok (.ireturn, 1) := by decide +kernel
theorem d_Md_page_10 : decode m_Md_page.2.1 10 = .ok (.iload_n 3, 1) := by decide +kernel
theorem d_Md_page_11 : decode m_Md_page.2.1 11 = .ok (.bipush 6, 2) := by decide +kernel
theorem d_Md_page_13 : decode m_Md_page.2.1 13 = .ok (.if_icmp .le 6, 3) := by decide +kernel
theorem d_Md_page_16 : decode m_Md_page.2.1 16 = .ok (.bipush (-3), 2) := by decide +kernel
theorem d_Md_page_18 : decode m_Md_page.2.1 18 = .ok (.ireturn, 1) := by decide +kernel
theorem d_Md_page_19 : decode m_Md_page.2.1 19 = .ok (.aload_n 0, 1) := by decide +kernel
theorem d_Md_page_20 : decode m_Md_page.2.1 20 = .ok (.getfield 92, 3) := by decide +kernel
theorem d_Md_page_23 : decode m_Md_page.2.1 23 = .ok (.iload_n 1, 1) := by decide +kernel
theorem d_Md_page_24 : decode m_Md_page.2.1 24 = .ok (.iaload, 1) := by decide +kernel
theorem d_Md_page_25 : decode m_Md_page.2.1 25 = .ok (.ifCond .ge 6, 3) := by decide +kernel
theorem d_Md_page_28 : decode m_Md_page.2.1 28 = .ok (.bipush (-11), 2) := by decide +kernel
theorem d_Md_page_30 : decode m_Md_page.2.1 30 = .ok (.ireturn, 1) := by decide +kernel
theorem d_Md_page_31 : decode m_Md_page.2.1 31 = .ok (.iload_n 2, 1) := by decide +kernel
theorem d_Md_page_32 : decode m_Md_page.2.1 32 = .ok (.i2l, 1) := by decide +kernel
theorem d_Md_page_33 : decode m_Md_page.2.1 33 = .ok (.lconst 0, 1) := by decide +kernel
theorem d_Md_page_34 : decode m_Md_page.2.1 34 = .ok (.aload_n 0, 1) := by decide +kernel
theorem d_Md_page_35 : decode m_Md_page.2.1 35 = .ok (.getfield 92, 3) := by decide +kernel
theorem d_Md_page_38 : decode m_Md_page.2.1 38 = .ok (.iload_n 1, 1) := by decide +kernel
theorem d_Md_page_39 : decode m_Md_page.2.1 39 = .ok (.iaload, 1) := by decide +kernel
theorem d_Md_page_40 : decode m_Md_page.2.1 40 = .ok (.iconst 1, 1) := by decide +kernel
theorem d_Md_page_41 : decode m_Md_page.2.1 41 = .ok (.isub, 1) := by decide +kernel
theorem d_Md_page_42 : decode m_Md_page.2.1 42 = .ok (.i2l, 1) := by decide +kernel
theorem d_Md_page_43 : decode m_Md_page.2.1 43 = .ok (.invokestatic 111, 3) := by decide +kernel
theorem d_Md_page_46 : decode m_Md_page.2.1 46 = .ok (.ifCond .ne 6, 3) := by decide +kernel
theorem d_Md_page_49 : decode m_Md_page.2.1 49 = .ok (.bipush (-12), 2) := by decide +kernel
theorem d_Md_page_51 : decode m_Md_page.2.1 51 = .ok (.ireturn, 1) := by decide +kernel
theorem d_Md_page_52 : decode m_Md_page.2.1 52 = .ok (.iload_n 3, 1) := by decide +kernel
theorem d_Md_page_53 : decode m_Md_page.2.1 53 = .ok (.ifCond .ge 6, 3) := by decide +kernel
theorem d_Md_page_56 : decode m_Md_page.2.1 56 = .ok (.bipush (-17), 2) := by decide +kernel
theorem d_Md_page_58 : decode m_Md_page.2.1 58 = .ok (.ireturn, 1) := by decide +kernel
theorem d_Md_page_59 : decode m_Md_page.2.1 59 = .ok (.aload_n 0, 1) := by decide +kernel
theorem d_Md_page_60 : decode m_Md_page.2.1 60 = .ok (.invokevirtual 314, 3) := by decide +kernel
theorem d_Md_page_63 : decode m_Md_page.2.1 63 = .ok (.istore 4, 2) := by decide +kernel
theorem d_Md_page_65 : decode m_Md_page.2.1 65 = .ok (.aload_n 0, 1) := by decide +kernel
theorem d_Md_page_66 : decode m_Md_page.2.1 66 = .ok (.getfield 98, 3) := by decide +kernel
theorem d_Md_page_69 : decode m_Md_page.2.1 69 = .ok (.iload 4, 2) := by decide +kernel
theorem d_Md_page_71 : decode m_Md_page.2.1 71 = .ok (.iload_n 3, 1) := by decide +kernel
theorem d_Md_page_72 : decode m_Md_page.2.1 72 = .ok (.iastore, 1) := by decide +kernel
theorem d_Md_page_73 : decode m_Md_page.2.1 73 = .ok (.iconst 0, 1) := by decide +kernel
theorem d_Md_page_74 : decode m_Md_page.2.1 74 = .ok (.istore 5, 2) := by decide +kernel
theorem d_Md_page_76 : decode m_Md_page.2.1 76 = .ok (.iload 5, 2) := by decide +kernel
theorem d_Md_page_78 : decode m_Md_page.2.1 78 = .ok (.bipush 6, 2) := by decide +kernel
theorem d_Md_page_80 : decode m_Md_page.2.1 80 = .ok (.if_icmp .ge 37, 3) := by decide +kernel
theorem d_Md_page_83 : decode m_Md_page.2.1 83 = .ok (.aload_n 0, 1) := by decide +kernel
theorem d_Md_page_84 : decode m_Md_page.2.1 84 = .ok (.getfield 101, 3) := by decide +kernel
theorem d_Md_page_87 : decode m_Md_page.2.1 87 = .ok (.bipush 6, 2) := by decide +kernel
theorem d_Md_page_89 : decode m_Md_page.2.1 89 = .ok (.iload 4, 2) := by decide +kernel
theorem d_Md_page_91 : decode m_Md_page.2.1 91 = .ok (.imul, 1) := by decide +kernel
theorem d_Md_page_92 : decode m_Md_page.2.1 92 = .ok (.iload 5, 2) := by decide +kernel
theorem d_Md_page_94 : decode m_Md_page.2.1 94 = .ok (.iadd, 1) := by decide +kernel
theorem d_Md_page_95 : decode m_Md_page.2.1 95 = .ok (.iconst 0, 1) := by decide +kernel
theorem d_Md_page_96 : decode m_Md_page.2.1 96 = .ok (.iastore, 1) := by decide +kernel
theorem d_Md_page_97 : decode m_Md_page.2.1 97 = .ok (.aload_n 0, 1) := by decide +kernel
theorem d_Md_page_98 : decode m_Md_page.2.1 98 = .ok (.getfield 104, 3) := by decide +kernel
theorem d_Md_page_101 : decode m_Md_page.2.1 101 = .ok (.bipush 6, 2) := by decide +kernel
theorem d_Md_page_103 : decode m_Md_page.2.1 103 = .ok (.iload 4, 2) := by decide +kernel
theorem d_Md_page_105 : decode m_Md_page.2.1 105 = .ok (.imul, 1) := by decide +kernel
theorem d_Md_page_106 : decode m_Md_page.2.1 106 = .ok (.iload 5, 2) := by decide +kernel
theorem d_Md_page_108 : decode m_Md_page.2.1 108 = .ok (.iadd, 1) := by decide +kernel
theorem d_Md_page_109 : decode m_Md_page.2.1 109 = .ok (.iconst 0, 1) := by decide +kernel
theorem d_Md_page_110 : decode m_Md_page.2.1 110 = .ok (.iastore, 1) := by decide +kernel
theorem d_Md_page_111 : decode m_Md_page.2.1 111 = .ok (.iinc 5 1, 3) := by decide +kernel
theorem d_Md_page_114 : decode m_Md_page.2.1 114 = .ok (.goto (-38), 3) := by decide +kernel
theorem d_Md_page_117 : decode m_Md_page.2.1 117 = .ok (.aload_n 0, 1) := by decide +kernel
theorem d_Md_page_118 : decode m_Md_page.2.1 118 = .ok (.getfield 95, 3) := by decide +kernel
theorem d_Md_page_121 : decode m_Md_page.2.1 121 = .ok (.iconst 5, 1) := by decide +kernel
theorem d_Md_page_122 : decode m_Md_page.2.1 122 = .ok (.iload_n 1, 1) := by decide +kernel
theorem d_Md_page_123 : decode m_Md_page.2.1 123 = .ok (.imul, 1) := by decide +kernel
theorem d_Md_page_124 : decode m_Md_page.2.1 124 = .ok (.iload_n 2, 1) := by decide +kernel
theorem d_Md_page_125 : decode m_Md_page.2.1 125 = .ok (.iadd, 1) := by decide +kernel
theorem d_Md_page_126 : decode m_Md_page.2.1 126 = .ok (.iload 4, 2) := by decide +kernel
theorem d_Md_page_128 : decode m_Md_page.2.1 128 = .ok (.iastore, 1) := by decide +kernel
theorem d_Md_page_129 : decode m_Md_page.2.1 129 = .ok (.iload_n 3, 1) := by decide +kernel
theorem d_Md_page_130 : decode m_Md_page.2.1 130 = .ok (.ireturn, 1) := by decide +kernel
theorem d_Md_same_0 : decode m_Md_same.2.1 0 = .ok (.aload_n 0, 1) := by decide +kernel
theorem d_Md_same_1 : decode m_Md_same.2.1 1 = .ok (.iload_n 1, 1) := by decide +kernel
theorem d_Md_same_2 : decode m_Md_same.2.1 2 = .ok (.iload_n 2, 1) := by decide +kernel
theorem d_Md_same_3 : decode m_Md_same.2.1 3 = .ok (.iload_n 3, 1) := by decide +kernel
theorem d_Md_same_4 : decode m_Md_same.2.1 4 = .ok (.iload 4, 2) := by decide +kernel
theorem d_Md_same_6 : decode m_Md_same.2.1 6 = .ok (.invokevirtual 317, 3) := by decide +kernel
theorem d_Md_same_9 : decode m_Md_same.2.1 9 = .ok (.istore 5, 2) := by decide +kernel
theorem d_Md_same_11 : decode m_Md_same.2.1 11 = .ok (.iload 5, 2) := by decide +kernel
theorem d_Md_same_13 : decode m_Md_same.2.1 13 = .ok (.ifCond .ge 6, 3) := by decide +kernel
theorem d_Md_same_16 : decode m_Md_same.2.1 16 = .ok (.iload 5, 2) := by decide +kernel
theorem d_Md_same_18 : decode m_Md_same.2.1 18 = .ok (.ireturn, 1) := by decide +kernel
theorem d_Md_same_19 : decode m_Md_same.2.1 19 = .ok (.aload_n 0, 1) := by decide +kernel
theorem d_Md_same_20 : decode m_Md_same.2.1 20 = .ok (.getfield 95, 3) := by decide +kernel
theorem d_Md_same_23 : decode m_Md_same.2.1 23 = .ok (.iconst 5, 1) := by decide +kernel
theorem d_Md_same_24 : decode m_Md_same.2.1 24 = .ok (.iload_n 1, 1) := by decide +kernel
theorem d_Md_same_25 : decode m_Md_same.2.1 25 = .ok (.imul, 1) := by decide +kernel
theorem d_Md_same_26 : decode m_Md_same.2.1 26 = .ok (.iload_n 2, 1) := by decide +kernel
theorem d_Md_same_27 : decode m_Md_same.2.1 27 = .ok (.iadd, 1) := by decide +kernel
theorem d_Md_same_28 : decode m_Md_same.2.1 28 = .ok (.iaload, 1) := by decide +kernel
theorem d_Md_same_29 : decode m_Md_same.2.1 29 = .ok (.ifCond .lt 17, 3) := by decide +kernel
theorem d_Md_same_32 : decode m_Md_same.2.1 32 = .ok (.aload_n 0, 1) := by decide +kernel
theorem d_Md_same_33 : decode m_Md_same.2.1 33 = .ok (.getfield 95, 3) := by decide +kernel
theorem d_Md_same_36 : decode m_Md_same.2.1 36 = .ok (.iconst 5, 1) := by decide +kernel
theorem d_Md_same_37 : decode m_Md_same.2.1 37 = .ok (.iload_n 3, 1) := by decide +kernel
theorem d_Md_same_38 : decode m_Md_same.2.1 38 = .ok (.imul, 1) := by decide +kernel
theorem d_Md_same_39 : decode m_Md_same.2.1 39 = .ok (.iload 4, 2) := by decide +kernel
theorem d_Md_same_41 : decode m_Md_same.2.1 41 = .ok (.iadd, 1) := by decide +kernel
theorem d_Md_same_42 : decode m_Md_same.2.1 42 = .ok (.iaload, 1) := by decide +kernel
theorem d_Md_same_43 : decode m_Md_same.2.1 43 = .ok (.ifCond .ge 6, 3) := by decide +kernel
theorem d_Md_same_46 : decode m_Md_same.2.1 46 = .ok (.bipush (-13), 2) := by decide +kernel
theorem d_Md_same_48 : decode m_Md_same.2.1 48 = .ok (.ireturn, 1) := by decide +kernel
theorem d_Md_same_49 : decode m_Md_same.2.1 49 = .ok (.aload_n 0, 1) := by decide +kernel
theorem d_Md_same_50 : decode m_Md_same.2.1 50 = .ok (.getfield 95, 3) := by decide +kernel
theorem d_Md_same_53 : decode m_Md_same.2.1 53 = .ok (.iconst 5, 1) := by decide +kernel
theorem d_Md_same_54 : decode m_Md_same.2.1 54 = .ok (.iload_n 1, 1) := by decide +kernel
theorem d_Md_same_55 : decode m_Md_same.2.1 55 = .ok (.imul, 1) := by decide +kernel
theorem d_Md_same_56 : decode m_Md_same.2.1 56 = .ok (.iload_n 2, 1) := by decide +kernel
theorem d_Md_same_57 : decode m_Md_same.2.1 57 = .ok (.iadd, 1) := by decide +kernel
theorem d_Md_same_58 : decode m_Md_same.2.1 58 = .ok (.iaload, 1) := by decide +kernel
theorem d_Md_same_59 : decode m_Md_same.2.1 59 = .ok (.aload_n 0, 1) := by decide +kernel
theorem d_Md_same_60 : decode m_Md_same.2.1 60 = .ok (.getfield 95, 3) := by decide +kernel
theorem d_Md_same_63 : decode m_Md_same.2.1 63 = .ok (.iconst 5, 1) := by decide +kernel
theorem d_Md_same_64 : decode m_Md_same.2.1 64 = .ok (.iload_n 3, 1) := by decide +kernel
theorem d_Md_same_65 : decode m_Md_same.2.1 65 = .ok (.imul, 1) := by decide +kernel
theorem d_Md_same_66 : decode m_Md_same.2.1 66 = .ok (.iload 4, 2) := by decide +kernel
theorem d_Md_same_68 : decode m_Md_same.2.1 68 = .ok (.iadd, 1) := by decide +kernel
theorem d_Md_same_69 : decode m_Md_same.2.1 69 = .ok (.iaload, 1) := by decide +kernel
theorem d_Md_same_70 : decode m_Md_same.2.1 70 = .ok (.if_icmp .ne 7, 3) := by decide +kernel
theorem d_Md_same_73 : decode m_Md_same.2.1 73 = .ok (.iconst 1, 1) := by decide +kernel
theorem d_Md_same_74 : decode m_Md_same.2.1 74 = .ok (.goto 4, 3) := by decide +kernel
theorem d_Md_same_77 : decode m_Md_same.2.1 77 = .ok (.iconst 0, 1) := by decide +kernel
theorem d_Md_same_78 : decode m_Md_same.2.1 78 = .ok (.ireturn, 1) := by decide +kernel
theorem d_Md_pages_0 : decode m_Md_pages.2.1 0 = .ok (.iload_n 1, 1) := by decide +kernel
theorem d_Md_pages_1 : decode m_Md_pages.2.1 1 = .ok (.invokestatic 311, 3) := by decide +kernel
theorem d_Md_pages_4 : decode m_Md_pages.2.1 4 = .ok (.ifCond .ne 6, 3) := by decide +kernel
theorem d_Md_pages_7 : decode m_Md_pages.2.1 7 = .ok (.bipush (-2), 2) := by decide +kernel
theorem d_Md_pages_9 : decode m_Md_pages.2.1 9 = .ok (.ireturn, 1) := by decide +kernel
theorem d_Md_pages_10 : decode m_Md_pages.2.1 10 = .ok (.iload_n 2, 1) := by decide +kernel
theorem d_Md_pages_11 : decode m_Md_pages.2.1 11 = .ok (.i2l, 1) := by decide +kernel
theorem d_Md_pages_12 : decode m_Md_pages.2.1 12 = .ok (.lconst 0, 1) := by decide +kernel
theorem d_Md_pages_13 : decode m_Md_pages.2.1 13 = .ok (.ldc2_w 329, 3) := by decide +kernel
theorem d_Md_pages_16 : decode m_Md_pages.2.1 16 = .ok (.invokestatic 111, 3) := by decide +kernel
theorem d_Md_pages_19 : decode m_Md_pages.2.1 19 = .ok (.ifCond .ne 6, 3) := by decide +kernel
theorem d_Md_pages_22 : decode m_Md_pages.2.1 22 = .ok (.bipush (-3), 2) := by decide +kernel
theorem d_Md_pages_24 : decode m_Md_pages.2.1 24 = .ok (.ireturn, 1) := by decide +kernel
theorem d_Md_pages_25 : decode m_Md_pages.2.1 25 = .ok (.aload_n 0, 1) := by decide +kernel
theorem d_Md_pages_26 : decode m_Md_pages.2.1 26 = .ok (.getfield 92, 3) := by decide +kernel
theorem d_Md_pages_29 : decode m_Md_pages.2.1 29 = .ok (.iload_n 1, 1) := by decide +kernel
theorem d_Md_pages_30 : decode m_Md_pages.2.1 30 = .ok (.iaload, 1) := by decide +kernel
theorem d_Md_pages_31 : decode m_Md_pages.2.1 31 = .ok (.ifCond .ge 6, 3) := by decide +kernel
theorem d_Md_pages_34 : decode m_Md_pages.2.1 34 = .ok (.bipush (-11), 2) := by decide +kernel
theorem d_Md_pages_36 : decode m_Md_pages.2.1 36 = .ok (.ireturn, 1) := by decide +kernel
theorem d_Md_pages_37 : decode m_Md_pages.2.1 37 = .ok (.iconst 0, 1) := by decide +kernel
theorem d_Md_pages_38 : decode m_Md_pages.2.1 38 = .ok (.istore_n 3, 1) := by decide +kernel
theorem d_Md_pages_39 : decode m_Md_pages.2.1 39 = .ok (.iconst 0, 1) := by decide +kernel
theorem d_Md_pages_40 : decode m_Md_pages.2.1 40 = .ok (.istore 4, 2) := by decide +kernel
theorem d_Md_pages_42 : decode m_Md_pages.2.1 42 = .ok (.iconst 0, 1) := by decide +kernel
theorem d_Md_pages_43 : decode m_Md_pages.2.1 43 = .ok (.istore 5, 2) := by decide +kernel
theorem d_Md_pages_45 : decode m_Md_pages.2.1 45 = .ok (.iconst 0, 1) := by decide +kernel
theorem d_Md_pages_46 : decode m_Md_pages.2.1 46 = .ok (.istore 6, 2) := by decide +kernel
theorem d_Md_pages_48 : decode m_Md_pages.2.1 48 = .ok (.iload 6, 2) := by decide +kernel
theorem d_Md_pages_50 : decode m_Md_pages.2.1 50 = .ok (.aload_n 0, 1) := by decide +kernel
theorem d_Md_pages_51 : decode m_Md_pages.2.1 51 = .ok (.getfield 92, 3) := by decide +kernel
theorem d_Md_pages_54 : decode m_Md_pages.2.1 54 = .ok (.iload_n 1, 1) := by decide +kernel
theorem d_Md_pages_55 : decode m_Md_pages.2.1 55 = .ok (.iaload, 1) := by decide +kernel
theorem d_Md_pages_56 : decode m_Md_pages.2.1 56 = .ok (.if_icmp .ge 158, 3) := by decide +kernel
theorem d_Md_pages_59 : decode m_Md_pages.2.1 59 = .ok (.aload_n 0, 1) := by decide +kernel
theorem d_Md_pages_60 : decode m_Md_pages.2.1 60 = .ok (.getfield 95, 3) := by decide +kernel
theorem d_Md_pages_63 : decode m_Md_pages.2.1 63 = .ok (.iconst 5, 1) := by decide +kernel
theorem d_Md_pages_64 : decode m_Md_pages.2.1 64 = .ok (.iload_n 1, 1) := by decide +kernel
theorem d_Md_pages_65 : decode m_Md_pages.2.1 65 = .ok (.imul, 1) := by decide +kernel
theorem d_Md_pages_66 : decode m_Md_pages.2.1 66 = .ok (.iload 6, 2) := by decide +kernel
theorem d_Md_pages_68 : decode m_Md_pages.2.1 68 = .ok (.iadd, 1) := by decide +kernel
theorem d_Md_pages_69 : decode m_Md_pages.2.1 69 = .ok (.iaload, 1) := by decide +kernel
theorem d_Md_pages_70 : decode m_Md_pages.2.1 70 = .ok (.istore 7, 2) := by decide +kernel
theorem d_Md_pages_72 : decode m_Md_pages.2.1 72 = .ok (.iload 7, 2) := by decide +kernel
theorem d_Md_pages_74 : decode m_Md_pages.2.1 74 = .ok (.ifCond .lt 7, 3) := by decide +kernel
theorem d_Md_pages_77 : decode m_Md_pages.2.1 77 = .ok (.iconst 1, 1) := by decide +kernel
theorem d_Md_pages_78 : decode m_Md_pages.2.1 78 = .ok (.goto 4, 3) := by decide +kernel
theorem d_Md_pages_81 : decode m_Md_pages.2.1 81 = .ok (.iconst 0, 1) := by decide +kernel
theorem d_Md_pages_82 : decode m_Md_pages.2.1 82 = .ok (.istore 8, 2) := by decide +kernel
theorem d_Md_pages_84 : decode m_Md_pages.2.1 84 = .ok (.iconst 0, 1) := by decide +kernel
theorem d_Md_pages_85 : decode m_Md_pages.2.1 85 = .ok (.istore 9, 2) := by decide +kernel
theorem d_Md_pages_87 : decode m_Md_pages.2.1 87 = .ok (.iload 9, 2) := by decide +kernel
theorem d_Md_pages_89 : decode m_Md_pages.2.1 89 = .ok (.iload 6, 2) := by decide +kernel
theorem d_Md_pages_91 : decode m_Md_pages.2.1 91 = .ok (.if_icmp .ge 37, 3) := by decide +kernel
theorem d_Md_pages_94 : decode m_Md_pages.2.1 94 = .ok (.iload 8, 2) := by decide +kernel
theorem d_Md_pages_96 : decode m_Md_pages.2.1 96 = .ok (.ifCond .eq 23, 3) := by decide +kernel
theorem d_Md_pages_99 : decode m_Md_pages.2.1 99 = .ok (.aload_n 0, 1) := by decide +kernel
theorem d_Md_pages_100 : decode m_Md_pages.2.1 100 = .ok (.getfield 95, 3) := by decide +kernel
theorem d_Md_pages_103 : decode m_Md_pages.2.1 103 = .ok (.iconst 5, 1) := by decide +kernel
theorem d_Md_pages_104 : decode m_Md_pages.2.1 104 = .ok (.iload_n 1, 1) := by decide +kernel
theorem d_Md_pages_105 : decode m_Md_pages.2.1 105 = .ok (.imul, 1) := by decide +kernel
theorem d_Md_pages_106 : decode m_Md_pages.2.1 106 = .ok (.iload 9, 2) := by decide +kernel
theorem d_Md_pages_108 : decode m_Md_pages.2.1 108 = .ok (.iadd, 1) := by decide +kernel
theorem d_Md_pages_109 : decode m_Md_pages.2.1 109 = .ok (.iaload, 1) := by decide +kernel
theorem d_Md_pages_110 : decode m_Md_pages.2.1 110 = .ok (.iload 7, 2) := by decide +kernel
theorem d_Md_pages_112 : decode m_Md_pages.2.1 112 = .ok (.if_icmp .eq 7, 3) := by decide +kernel
theorem d_Md_pages_115 : decode m_Md_pages.2.1 115 = .ok (.iconst 1, 1) := by decide +kernel
theorem d_Md_pages_116 : decode m_Md_pages.2.1 116 = .ok (.goto 4, 3) := by decide +kernel
theorem d_Md_pages_119 : decode m_Md_pages.2.1 119 = .ok (.iconst 0, 1) := by decide +kernel
theorem d_Md_pages_120 : decode m_Md_pages.2.1 120 = .ok (.istore 8, 2) := by decide +kernel
theorem d_Md_pages_122 : decode m_Md_pages.2.1 122 = .ok (.iinc 9 1, 3) := by decide +kernel
theorem d_Md_pages_125 : decode m_Md_pages.2.1 125 = .ok (.goto (-38), 3) := by decide +kernel
theorem d_Md_pages_128 : decode m_Md_pages.2.1 128 = .ok (.iload_n 3, 1) := by decide +kernel
theorem d_Md_pages_129 : decode m_Md_pages.2.1 129 = .ok (.iload 7, 2) := by decide +kernel
theorem d_Md_pages_131 : decode m_Md_pages.2.1 131 = .ok (.ifCond .ge 7, 3) := by decide +kernel
theorem d_Md_pages_134 : decode m_Md_pages.2.1 134 = .ok (.iconst 0, 1) := by decide +kernel
theorem d_Md_pages_135 : decode m_Md_pages.2.1 135 = .ok (.goto 4, 3) := by decide +kernel
theorem d_Md_pages_138 : decode m_Md_pages.2.1 138 = .ok (.iconst 1, 1) := by decide +kernel
theorem d_Md_pages_139 : decode m_Md_pages.2.1 139 = .ok (.iadd, 1) := by decide +kernel
theorem d_Md_pages_140 : decode m_Md_pages.2.1 140 = .ok (.istore_n 3, 1) := by decide +kernel
theorem d_Md_pages_141 : decode m_Md_pages.2.1 141 = .ok (.iload 4, 2) := by decide +kernel
theorem d_Md_pages_143 : decode m_Md_pages.2.1 143 = .ok (.iload 8, 2) := by decide +kernel
theorem d_Md_pages_145 : decode m_Md_pages.2.1 145 = .ok (.ifCond .eq 7, 3) := by decide +kernel
theorem d_Md_pages_148 : decode m_Md_pages.2.1 148 = .ok (.iconst 1, 1) := by decide +kernel
theorem d_Md_pages_149 : decode m_Md_pages.2.1 149 = .ok (.goto 4, 3) := by decide +kernel
theorem d_Md_pages_152 : decode m_Md_pages.2.1 152 = .ok (.iconst 0, 1) := by decide +kernel
theorem d_Md_pages_153 : decode m_Md_pages.2.1 153 = .ok (.iadd, 1) := by decide +kernel
theorem d_Md_pages_154 : decode m_Md_pages.2.1 154 = .ok (.istore 4, 2) := by decide +kernel
theorem d_Md_pages_156 : decode m_Md_pages.2.1 156 = .ok (.iconst 0, 1) := by decide +kernel
theorem d_Md_pages_157 : decode m_Md_pages.2.1 157 = .ok (.istore 9, 2) := by decide +kernel
theorem d_Md_pages_159 : decode m_Md_pages.2.1 159 = .ok (.iload 8, 2) := by decide +kernel
theorem d_Md_pages_161 : decode m_Md_pages.2.1 161 = .ok (.ifCond .eq 47, 3) := by decide +kernel
theorem d_Md_pages_164 : decode m_Md_pages.2.1 164 = .ok (.iload 9, 2) := by decide +kernel
theorem d_Md_pages_166 : decode m_Md_pages.2.1 166 = .ok (.aload_n 0, 1) := by decide +kernel
theorem d_Md_pages_167 : decode m_Md_pages.2.1 167 = .ok (.getfield 98, 3) := by decide +kernel
theorem d_Md_pages_170 : decode m_Md_pages.2.1 170 = .ok (.iload 7, 2) := by decide +kernel
theorem d_Md_pages_172 : decode m_Md_pages.2.1 172 = .ok (.iaload, 1) := by decide +kernel
theorem d_Md_pages_173 : decode m_Md_pages.2.1 173 = .ok (.if_icmp .ge 35, 3) := by decide +kernel
theorem d_Md_pages_176 : decode m_Md_pages.2.1 176 = .ok (.iload 5, 2) := by decide +kernel
theorem d_Md_pages_178 : decode m_Md_pages.2.1 178 = .ok (.aload_n 0, 1) := by decide +kernel
theorem d_Md_pages_179 : decode m_Md_pages.2.1 179 = .ok (.getfield 101, 3) := by decide +kernel
theorem d_Md_pages_182 : decode m_Md_pages.2.1 182 = .ok (.bipush 6, 2) := by decide +kernel
theorem d_Md_pages_184 : decode m_Md_pages.2.1 184 = .ok (.iload 7, 2) := by decide +kernel
theorem d_Md_pages_186 : decode m_Md_pages.2.1 186 = .ok (.imul, 1) := by decide +kernel
theorem d_Md_pages_187 : decode m_Md_pages.2.1 187 = .ok (.iload 9, 2) := by decide +kernel
theorem d_Md_pages_189 : decode m_Md_pages.2.1 189 = .ok (.iadd, 1) := by decide +kernel
theorem d_Md_pages_190 : decode m_Md_pages.2.1 190 = .ok (.iaload, 1) := by decide +kernel
theorem d_Md_pages_191 : decode m_Md_pages.2.1 191 = .ok (.ifCond .ne 7, 3) := by decide +kernel
theorem d_Md_pages_194 : decode m_Md_pages.2.1 194 = .ok (.iconst 0, 1) := by decide +kernel
theorem d_Md_pages_195 : decode m_Md_pages.2.1 195 = .ok (.goto 4, 3) := by decide +kernel
theorem d_Md_pages_198 : decode m_Md_pages.2.1 198 = .ok (.iconst 1, 1) := by decide +kernel
theorem d_Md_pages_199 : decode m_Md_pages.2.1 199 = .ok (.iadd, 1) := by decide +kernel
theorem d_Md_pages_200 : decode m_Md_pages.2.1 200 = .ok (.istore 5, 2) := by decide +kernel
theorem d_Md_pages_202 : decode m_Md_pages.2.1 202 = .ok (.iinc 9 1, 3) := by decide +kernel
theorem d_Md_pages_205 : decode m_Md_pages.2.1 205 = .ok (.goto (-46), 3) := by decide +kernel
theorem d_Md_pages_208 : decode m_Md_pages.2.1 208 = .ok (.iinc 6 1, 3) := by decide +kernel
theorem d_Md_pages_211 : decode m_Md_pages.2.1 211 = .ok (.goto (-163), 3) := by decide +kernel
theorem d_Md_pages_214 : decode m_Md_pages.2.1 214 = .ok (.iload_n 2, 1) := by decide +kernel
theorem d_Md_pages_215 : decode m_Md_pages.2.1 215 = .ok (.ifCond .ne 12, 3) := by decide +kernel
theorem d_Md_pages_218 : decode m_Md_pages.2.1 218 = .ok (.aload_n 0, 1) := by decide +kernel
theorem d_Md_pages_219 : decode m_Md_pages.2.1 219 = .ok (.getfield 92, 3) := by decide +kernel
theorem d_Md_pages_222 : decode m_Md_pages.2.1 222 = .ok (.iload_n 1, 1) := by decide +kernel
theorem d_Md_pages_223 : decode m_Md_pages.2.1 223 = .ok (.iaload, 1) := by decide +kernel
theorem d_Md_pages_224 : decode m_Md_pages.2.1 224 = .ok (.goto 24, 3) := by decide +kernel
theorem d_Md_pages_227 : decode m_Md_pages.2.1 227 = .ok (.iload_n 2, 1) := by decide +kernel
theorem d_Md_pages_228 : decode m_Md_pages.2.1 228 = .ok (.iconst 1, 1) := by decide +kernel
theorem d_Md_pages_229 : decode m_Md_pages.2.1 229 = .ok (.if_icmp .ne 7, 3) := by decide +kernel
theorem d_Md_pages_232 : decode m_Md_pages.2.1 232 = .ok (.iload_n 3, 1) := by decide +kernel
theorem d_Md_pages_233 : decode m_Md_pages.2.1 233 = .ok (.goto 15, 3) := by decide +kernel
theorem d_Md_pages_236 : decode m_Md_pages.2.1 236 = .ok (.iload_n 2, 1) := by decide +kernel
theorem d_Md_pages_237 : decode m_Md_pages.2.1 237 = .ok (.iconst 2, 1) := by decide +kernel
theorem d_Md_pages_238 : decode m_Md_pages.2.1 238 = .ok (.if_icmp .ne 8, 3) := by decide +kernel
theorem d_Md_pages_241 : decode m_Md_pages.2.1 241 = .ok (.iload 4, 2) := by decide +kernel
theorem d_Md_pages_243 : decode m_Md_pages.2.1 243 = .ok (.goto 5, 3) := by decide +kernel
theorem d_Md_pages_246 : decode m_Md_pages.2.1 246 = .ok (.iload 5, 2) := by decide +kernel
theorem d_Md_pages_248 : decode m_Md_pages.2.1 248 = .ok (.ireturn, 1) := by decide +kernel
theorem d_Md_doneAll_0 : decode m_Md_doneAll.2.1 0 = .ok (.iconst 0, 1) := by decide +kernel
theorem d_Md_doneAll_1 : decode m_Md_doneAll.2.1 1 = .ok (.istore_n 1, 1) := by decide +kernel
theorem d_Md_doneAll_2 : decode m_Md_doneAll.2.1 2 = .ok (.iconst 0, 1) := by decide +kernel
theorem d_Md_doneAll_3 : decode m_Md_doneAll.2.1 3 = .ok (.istore_n 2, 1) := by decide +kernel
theorem d_Md_doneAll_4 : decode m_Md_doneAll.2.1 4 = .ok (.iload_n 2, 1) := by decide +kernel
theorem d_Md_doneAll_5 : decode m_Md_doneAll.2.1 5 = .ok (.aload_n 0, 1) := by decide +kernel
theorem d_Md_doneAll_6 : decode m_Md_doneAll.2.1 6 = .ok (.getfield 115, 3) := by decide +kernel
theorem d_Md_doneAll_9 : decode m_Md_doneAll.2.1 9 = .ok (.if_icmp .ge 21, 3) := by decide +kernel
theorem d_Md_doneAll_12 : decode m_Md_doneAll.2.1 12 = .ok (.iload_n 1, 1) := by decide +kernel
theorem d_Md_doneAll_13 : decode m_Md_doneAll.2.1 13 = .ok (.aload_n 0, 1) := by decide +kernel
theorem d_Md_doneAll_14 : decode m_Md_doneAll.2.1 14 = .ok (.getfield 7, 3) := by decide +kernel
theorem d_Md_doneAll_17 : decode m_Md_doneAll.2.1 17 = .ok (.bipush 16, 2) := by decide +kernel
theorem d_Md_doneAll_19 : decode m_Md_doneAll.2.1 19 = .ok (.iload_n 2, 1) := by decide +kernel
theorem d_Md_doneAll_20 : decode m_Md_doneAll.2.1 20 = .ok (.iadd, 1) := by decide +kernel
theorem d_Md_doneAll_21 : decode m_Md_doneAll.2.1 21 = .ok (.iaload, 1) := by decide +kernel
theorem d_Md_doneAll_22 : decode m_Md_doneAll.2.1 22 = .ok (.iadd, 1) := by decide +kernel
theorem d_Md_doneAll_23 : decode m_Md_doneAll.2.1 23 = .ok (.istore_n 1, 1) := by decide +kernel
theorem d_Md_doneAll_24 : decode m_Md_doneAll.2.1 24 = .ok (.iinc 2 1, 3) := by decide +kernel
theorem d_Md_doneAll_27 : decode m_Md_doneAll.2.1 27 = .ok (.goto (-23), 3) := by decide +kernel
theorem d_Md_doneAll_30 : decode m_Md_doneAll.2.1 30 = .ok (.iload_n 1, 1) := by decide +kernel
theorem d_Md_doneAll_31 : decode m_Md_doneAll.2.1 31 = .ok (.ireturn, 1) := by decide +kernel
