theorem d_Fo_init_0 : decode m_Fo_init.2.1 0 = .ok (.aload_n 0, 1) := by decide +kernel
theorem d_Fo_init_1 : decode m_Fo_init.2.1 1 = .ok (.invokespecial 3, 3) := by decide +kernel
theorem d_Fo_init_4 : decode m_Fo_init.2.1 4 = .ok (.aload_n 0, 1) := by decide +kernel
theorem d_Fo_init_5 : decode m_Fo_init.2.1 5 = .ok (.iconst 5, 1) := by decide +kernel
theorem d_Fo_init_6 : decode m_Fo_init.2.1 6 = .ok (.newarray .int, 2) := by decide +kernel
theorem d_Fo_init_8 : decode m_Fo_init.2.1 8 = .ok (.putfield 11, 3) := by decide +kernel
theorem d_Fo_init_11 : decode m_Fo_init.2.1 11 = .ok (.aload_n 0, 1) := by decide +kernel
theorem d_Fo_init_12 : decode m_Fo_init.2.1 12 = .ok (.iconst 5, 1) := by decide +kernel
theorem d_Fo_init_13 : decode m_Fo_init.2.1 13 = .ok (.newarray .int, 2) := by decide +kernel
theorem d_Fo_init_15 : decode m_Fo_init.2.1 15 = .ok (.putfield 15, 3) := by decide +kernel
theorem d_Fo_init_18 : decode m_Fo_init.2.1 18 = .ok (.aload_n 0, 1) := by decide +kernel
theorem d_Fo_init_19 : decode m_Fo_init.2.1 19 = .ok (.iconst 5, 1) := by decide +kernel
theorem d_Fo_init_20 : decode m_Fo_init.2.1 20 = .ok (.newarray .int, 2) := by decide +kernel
theorem d_Fo_init_22 : decode m_Fo_init.2.1 22 = .ok (.putfield 18, 3) := by decide +kernel
theorem d_Fo_init_25 : decode m_Fo_init.2.1 25 = .ok (.aload_n 0, 1) := by decide +kernel
theorem d_Fo_init_26 : decode m_Fo_init.2.1 26 = .ok (.aload_n 1, 1) := by decide +kernel
theorem d_Fo_init_27 : decode m_Fo_init.2.1 27 = .ok (.putfield 21, 3) := by decide +kernel
theorem d_Fo_init_30 : decode m_Fo_init.2.1 30 = .ok (.aload_n 0, 1) := by decide +kernel
theorem d_Fo_init_31 : decode m_Fo_init.2.1 31 = .ok (.new 25, 3) := by decide +kernel
theorem d_Fo_init_34 : decode m_Fo_init.2.1 34 = .ok (.dup, 1) := by decide +kernel
theorem d_Fo_init_35 : decode m_Fo_init.2.1 35 = .ok (.aload_n 1, 1) := by decide +kernel
theorem d_Fo_init_36 : decode m_Fo_init.2.1 36 = .ok (.invokespecial 27, 3) := by decide +kernel
theorem d_Fo_init_39 : decode m_Fo_init.2.1 39 = .ok (.putfield 30, 3) := by decide +kernel
theorem d_Fo_init_42 : decode m_Fo_init.2.1 42 = .ok (.return_, 1) := by decide +kernel
theorem d_Sg_init_0 : decode m_Sg_init.2.1 0 = .ok (.aload_n 0, 1) := by decide +kernel
theorem d_Sg_init_1 : decode m_Sg_init.2.1 1 = .ok (.invokespecial 3, 3) := by decide +kernel
theorem d_Sg_init_4 : decode m_Sg_init.2.1 4 = .ok (.aload_n 0, 1) := by decide +kernel
theorem d_Sg_init_5 : decode m_Sg_init.2.1 5 = .ok (.bipush 6, 2) := by decide +kernel
theorem d_Sg_init_7 : decode m_Sg_init.2.1 7 = .ok (.newarray .int, 2) := by decide +kernel
theorem d_Sg_init_9 : decode m_Sg_init.2.1 9 = .ok (.putfield 11, 3) := by decide +kernel
theorem d_Sg_init_12 : decode m_Sg_init.2.1 12 = .ok (.aload_n 0, 1) := by decide +kernel
theorem d_Sg_init_13 : decode m_Sg_init.2.1 13 = .ok (.bipush 6, 2) := by decide +kernel
theorem d_Sg_init_15 : decode m_Sg_init.2.1 15 = .ok (.newarray .int, 2) := by decide +kernel
theorem d_Sg_init_17 : decode m_Sg_init.2.1 17 = .ok (.putfield 15, 3) := by decide +kernel
theorem d_Sg_init_20 : decode m_Sg_init.2.1 20 = .ok (.aload_n 0, 1) := by decide +kernel
theorem d_Sg_init_21 : decode m_Sg_init.2.1 21 = .ok (.bipush 6, 2) := by decide +kernel
theorem d_Sg_init_23 : decode m_Sg_init.2.1 23 = .ok (.newarray .int, 2) := by decide +kernel
theorem d_Sg_init_25 : decode m_Sg_init.2.1 25 = .ok (.putfield 18, 3) := by decide +kernel
theorem d_Sg_init_28 : decode m_Sg_init.2.1 28 = .ok (.return_, 1) := by decide +kernel
theorem d_Sh_init_0 : decode m_Sh_init.2.1 0 = .ok (.aload_n 0, 1) := by decide +kernel
theorem d_Sh_init_1 : decode m_Sh_init.2.1 1 = .ok (.invokespecial 3, 3) := by decide +kernel
theorem d_Sh_init_4 : decode m_Sh_init.2.1 4 = .ok (.aload_n 0, 1) := by decide +kernel
theorem d_Sh_init_5 : decode m_Sh_init.2.1 5 = .ok (.iconst 3, 1) := by decide +kernel
theorem d_Sh_init_6 : decode m_Sh_init.2.1 6 = .ok (.anewarray 11, 3) := by decide +kernel
theorem d_Sh_init_9 : decode m_Sh_init.2.1 9 = .ok (.putfield 13, 3) := by decide +kernel
theorem d_Sh_init_12 : decode m_Sh_init.2.1 12 = .ok (.return_, 1) := by decide +kernel
theorem d_Sh_clear_0 : decode m_Sh_clear.2.1 0 = .ok (.iconst 0, 1) := by decide +kernel
theorem d_Sh_clear_1 : decode m_Sh_clear.2.1 1 = .ok (.istore_n 1, 1) := by decide +kernel
theorem d_Sh_clear_2 : decode m_Sh_clear.2.1 2 = .ok (.iload_n 1, 1) := by decide +kernel
theorem d_Sh_clear_3 : decode m_Sh_clear.2.1 3 = .ok (.iconst 3, 1) := by decide +kernel
theorem d_Sh_clear_4 : decode m_Sh_clear.2.1 4 = .ok (.if_icmp .ge 16, 3) := by decide +kernel
theorem d_Sh_clear_7 : decode m_Sh_clear.2.1 7 = .ok (.aload_n 0, 1) := by decide +kernel
theorem d_Sh_clear_8 : decode m_Sh_clear.2.1 8 = .ok (.getfield 13, 3) := by decide +kernel
theorem d_Sh_clear_11 : decode m_Sh_clear.2.1 11 = .ok (.iload_n 1, 1) := by decide +kernel
theorem d_Sh_clear_12 : decode m_Sh_clear.2.1 12 = .ok (.aconst_null, 1) := by decide +kernel
theorem d_Sh_clear_13 : decode m_Sh_clear.2.1 13 = .ok (.aastore, 1) := by decide +kernel
theorem d_Sh_clear_14 : decode m_Sh_clear.2.1 14 = .ok (.iinc 1 1, 3) := by decide +kernel
theorem d_Sh_clear_17 : decode m_Sh_clear.2.1 17 = .ok (.goto (-15), 3) := by decide +kernel
theorem d_Sh_clear_20 : decode m_Sh_clear.2.1 20 = .ok (.return_, 1) := by decide +kernel
theorem d_Fo_stateBehind_0 : decode m_Fo_stateBehind.2.1 0 = .ok (.aload_n 0, 1) := by decide +kernel
theorem d_Fo_stateBehind_1 : decode m_Fo_stateBehind.2.1 1 = .ok (.getfield 30, 3) := by decide +kernel
theorem d_Fo_stateBehind_4 : decode m_Fo_stateBehind.2.1 4 = .ok (.aload_n 1, 1) := by decide +kernel
theorem d_Fo_stateBehind_5 : decode m_Fo_stateBehind.2.1 5 = .ok (.invokevirtual 34, 3) := by decide +kernel
theorem d_Fo_stateBehind_8 : decode m_Fo_stateBehind.2.1 8 = .ok (.aload_n 0, 1) := by decide +kernel
theorem d_Fo_stateBehind_9 : decode m_Fo_stateBehind.2.1 9 = .ok (.getfield 30, 3) := by decide +kernel
theorem d_Fo_stateBehind_12 : decode m_Fo_stateBehind.2.1 12 = .ok (.iload_n 2, 1) := by decide +kernel
theorem d_Fo_stateBehind_13 : decode m_Fo_stateBehind.2.1 13 = .ok (.invokevirtual 38, 3) := by decide +kernel
theorem d_Fo_stateBehind_16 : decode m_Fo_stateBehind.2.1 16 = .ok (.aload_n 0, 1) := by decide +kernel
theorem d_Fo_stateBehind_17 : decode m_Fo_stateBehind.2.1 17 = .ok (.getfield 30, 3) := by decide +kernel
theorem d_Fo_stateBehind_20 : decode m_Fo_stateBehind.2.1 20 = .ok (.areturn, 1) := by decide +kernel
theorem d_Fo_yearsUntilKept_0 : decode m_Fo_yearsUntilKept.2.1 0 = .ok (.aload_n 0, 1) := by decide +kernel
theorem d_Fo_yearsUntilKept_1 : decode m_Fo_yearsUntilKept.2.1 1 = .ok (.getfield 30, 3) := by decide +kernel
theorem d_Fo_yearsUntilKept_4 : decode m_Fo_yearsUntilKept.2.1 4 = .ok (.aload_n 1, 1) := by decide +kernel
theorem d_Fo_yearsUntilKept_5 : decode m_Fo_yearsUntilKept.2.1 5 = .ok (.invokevirtual 34, 3) := by decide +kernel
theorem d_Fo_yearsUntilKept_8 : decode m_Fo_yearsUntilKept.2.1 8 = .ok (.iconst 0, 1) := by decide +kernel
theorem d_Fo_yearsUntilKept_9 : decode m_Fo_yearsUntilKept.2.1 9 = .ok (.istore_n 3, 1) := by decide +kernel
theorem d_Fo_yearsUntilKept_10 : decode m_Fo_yearsUntilKept.2.1 10 = .ok (.iload_n 3, 1) := by decide +kernel
theorem d_Fo_yearsUntilKept_11 : decode m_Fo_yearsUntilKept.2.1 11 = .ok (.bipush 60, 2) := by decide +kernel
theorem d_Fo_yearsUntilKept_13 : decode m_Fo_yearsUntilKept.2.1 13 = .ok (.if_icmp .gt 32, 3) := by decide +kernel
theorem d_Fo_yearsUntilKept_16 : decode m_Fo_yearsUntilKept.2.1 16 = .ok (.aload_n 0, 1) := by decide +kernel
theorem d_Fo_yearsUntilKept_17 : decode m_Fo_yearsUntilKept.2.1 17 = .ok (.getfield 30, 3) := by decide +kernel
theorem d_Fo_yearsUntilKept_20 : decode m_Fo_yearsUntilKept.2.1 20 = .ok (.getfield 42, 3) := by decide +kernel
theorem d_Fo_yearsUntilKept_23 : decode m_Fo_yearsUntilKept.2.1 23 = .ok (.iload_n 2, 1) := by decide +kernel
theorem d_Fo_yearsUntilKept_24 : decode m_Fo_yearsUntilKept.2.1 24 = .ok (.iaload, 1) := by decide +kernel
theorem d_Fo_yearsUntilKept_25 : decode m_Fo_yearsUntilKept.2.1 25 = .ok (.iconst (-1), 1) := by decide +kernel
theorem d_Fo_yearsUntilKept_26 : decode m_Fo_yearsUntilKept.2.1 26 = .ok (.if_icmp .ne 5, 3) := by decide +kernel
theorem d_Fo_yearsUntilKept_29 : decode m_Fo_yearsUntilKept.2.1 29 = .ok (.iload_n 3, 1) := by decide +kernel
theorem d_Fo_yearsUntilKept_30 : decode m_Fo_yearsUntilKept.2.1 30 = .ok (.ireturn, 1) := by decide +kernel
theorem d_Fo_yearsUntilKept_31 : decode m_Fo_yearsUntilKept.2.1 31 = .ok (.aload_n 0, 1) := by decide +kernel
theorem d_Fo_yearsUntilKept_32 : decode m_Fo_yearsUntilKept.2.1 32 = .ok (.getfield 30, 3) := by decide +kernel
theorem d_Fo_yearsUntilKept_35 : decode m_Fo_yearsUntilKept.2.1 35 = .ok (.iconst 1, 1) := by decide +kernel
theorem d_Fo_yearsUntilKept_36 : decode m_Fo_yearsUntilKept.2.1 36 = .ok (.invokevirtual 38, 3) := by decide +kernel
theorem d_Fo_yearsUntilKept_39 : decode m_Fo_yearsUntilKept.2.1 39 = .ok (.iinc 3 1, 3) := by decide +kernel
theorem d_Fo_yearsUntilKept_42 : decode m_Fo_yearsUntilKept.2.1 42 = .ok (.goto (-32), 3) := by decide +kernel
theorem d_Fo_yearsUntilKept_45 : decode m_Fo_yearsUntilKept.2.1 45 = .ok (.iconst (-1), 1) := by decide +kernel
theorem d_Fo_yearsUntilKept_46 : decode m_Fo_yearsUntilKept.2.1 46 = .ok (.ireturn, 1) := by decide +kernel
theorem d_Fo_yearsUntilFree_0 : decode m_Fo_yearsUntilFree.2.1 0 = .ok (.aload_n 0, 1) := by decide +kernel
theorem d_Fo_yearsUntilFree_1 : decode m_Fo_yearsUntilFree.2.1 1 = .ok (.getfield 30, 3) := by decide +kernel
theorem d_Fo_yearsUntilFree_4 : decode m_Fo_yearsUntilFree.2.1 4 = .ok (.aload_n 1, 1) := by decide +kernel
theorem d_Fo_yearsUntilFree_5 : decode m_Fo_yearsUntilFree.2.1 5 = .ok (.invokevirtual 34, 3) := by decide +kernel
theorem d_Fo_yearsUntilFree_8 : decode m_Fo_yearsUntilFree.2.1 8 = .ok (.iconst 0, 1) := by decide +kernel
theorem d_Fo_yearsUntilFree_9 : decode m_Fo_yearsUntilFree.2.1 9 = .ok (.istore_n 3, 1) := by decide +kernel
theorem d_Fo_yearsUntilFree_10 : decode m_Fo_yearsUntilFree.2.1 10 = .ok (.iload_n 3, 1) := by decide +kernel
theorem d_Fo_yearsUntilFree_11 : decode m_Fo_yearsUntilFree.2.1 11 = .ok (.bipush 60, 2) := by decide +kernel
theorem d_Fo_yearsUntilFree_13 : decode m_Fo_yearsUntilFree.2.1 13 = .ok (.if_icmp .gt 42, 3) := by decide +kernel
theorem d_Fo_yearsUntilFree_16 : decode m_Fo_yearsUntilFree.2.1 16 = .ok (.aload_n 0, 1) := by decide +kernel
theorem d_Fo_yearsUntilFree_17 : decode m_Fo_yearsUntilFree.2.1 17 = .ok (.getfield 30, 3) := by decide +kernel
theorem d_Fo_yearsUntilFree_20 : decode m_Fo_yearsUntilFree.2.1 20 = .ok (.getfield 45, 3) := by decide +kernel
theorem d_Fo_yearsUntilFree_23 : decode m_Fo_yearsUntilFree.2.1 23 = .ok (.iload_n 2, 1) := by decide +kernel
theorem d_Fo_yearsUntilFree_24 : decode m_Fo_yearsUntilFree.2.1 24 = .ok (.iaload, 1) := by decide +kernel
theorem d_Fo_yearsUntilFree_25 : decode m_Fo_yearsUntilFree.2.1 25 = .ok (.ifCond .le 30, 3) := by decide +kernel
theorem d_Fo_yearsUntilFree_28 : decode m_Fo_yearsUntilFree.2.1 28 = .ok (.aload_n 0, 1) := by decide +kernel
theorem d_Fo_yearsUntilFree_29 : decode m_Fo_yearsUntilFree.2.1 29 = .ok (.getfield 30, 3) := by decide +kernel
theorem d_Fo_yearsUntilFree_32 : decode m_Fo_yearsUntilFree.2.1 32 = .ok (.iload_n 2, 1) := by decide +kernel
theorem d_Fo_yearsUntilFree_33 : decode m_Fo_yearsUntilFree.2.1 33 = .ok (.invokevirtual 48, 3) := by decide +kernel
theorem d_Fo_yearsUntilFree_36 : decode m_Fo_yearsUntilFree.2.1 36 = .ok (.ifCond .ne 5, 3) := by decide +kernel
theorem d_Fo_yearsUntilFree_39 : decode m_Fo_yearsUntilFree.2.1 39 = .ok (.iload_n 3, 1) := by decide +kernel
theorem d_Fo_yearsUntilFree_40 : decode m_Fo_yearsUntilFree.2.1 40 = .ok (.ireturn, 1) := by decide +kernel
theorem d_Fo_yearsUntilFree_41 : decode m_Fo_yearsUntilFree.2.1 41 = .ok (.aload_n 0, 1) := by decide +kernel
theorem d_Fo_yearsUntilFree_42 : decode m_Fo_yearsUntilFree.2.1 42 = .ok (.getfield 30, 3) := by decide +kernel
theorem d_Fo_yearsUntilFree_45 : decode m_Fo_yearsUntilFree.2.1 45 = .ok (.iconst 1, 1) := by decide +kernel
theorem d_Fo_yearsUntilFree_46 : decode m_Fo_yearsUntilFree.2.1 46 = .ok (.invokevirtual 38, 3) := by decide +kernel
theorem d_Fo_yearsUntilFree_49 : decode m_Fo_yearsUntilFree.2.1 49 = .ok (.iinc 3 1, 3) := by decide +kernel
theorem d_Fo_yearsUntilFree_52 : decode m_Fo_yearsUntilFree.2.1 52 = .ok (.goto (-42), 3) := by decide +kernel
theorem d_Fo_yearsUntilFree_55 : decode m_Fo_yearsUntilFree.2.1 55 = .ok (.iconst (-1), 1) := by decide +kernel
theorem d_Fo_yearsUntilFree_56 : decode m_Fo_yearsUntilFree.2.1 56 = .ok (.ireturn, 1) := by decide +kernel
theorem d_Fo_findBestOrder_0 : decode m_Fo_findBestOrder.2.1 0 = .ok (.aload_n 0, 1) := by decide +kernel
theorem d_Fo_findBestOrder_1 : decode m_Fo_findBestOrder.2.1 1 = .ok (.aload_n 1, 1) := by decide +kernel
theorem d_Fo_findBestOrder_2 : decode m_Fo_findBestOrder.2.1 2 = .ok (.iload_n 2, 1) := by decide +kernel
theorem d_Fo_findBestOrder_3 : decode m_Fo_findBestOrder.2.1 3 = .ok (.invokevirtual 63, 3) := by decide +kernel
theorem d_Fo_findBestOrder_6 : decode m_Fo_findBestOrder.2.1 6 = .ok (.aload_n 0, 1) := by decide +kernel
theorem d_Fo_findBestOrder_7 : decode m_Fo_findBestOrder.2.1 7 = .ok (.iconst (-1), 1) := by decide +kernel
theorem d_Fo_findBestOrder_8 : decode m_Fo_findBestOrder.2.1 8 = .ok (.putfield 52, 3) := by decide +kernel
theorem d_Fo_findBestOrder_11 : decode m_Fo_findBestOrder.2.1 11 = .ok (.iconst 1, 1) := by decide +kernel
theorem d_Fo_findBestOrder_12 : decode m_Fo_findBestOrder.2.1 12 = .ok (.istore 4, 2) := by decide +kernel
theorem d_Fo_findBestOrder_14 : decode m_Fo_findBestOrder.2.1 14 = .ok (.iconst 0, 1) := by decide +kernel
theorem d_Fo_findBestOrder_15 : decode m_Fo_findBestOrder.2.1 15 = .ok (.istore 5, 2) := by decide +kernel
theorem d_Fo_findBestOrder_17 : decode m_Fo_findBestOrder.2.1 17 = .ok (.iload 4, 2) := by decide +kernel
theorem d_Fo_findBestOrder_19 : decode m_Fo_findBestOrder.2.1 19 = .ok (.ifCond .eq 75, 3) := by decide +kernel
theorem d_Fo_findBestOrder_22 : decode m_Fo_findBestOrder.2.1 22 = .ok (.iload 5, 2) := by decide +kernel
theorem d_Fo_findBestOrder_24 : decode m_Fo_findBestOrder.2.1 24 = .ok (.bipush 120, 2) := by decide +kernel
theorem d_Fo_findBestOrder_26 : decode m_Fo_findBestOrder.2.1 26 = .ok (.if_icmp .ge 68, 3) := by decide +kernel
theorem d_Fo_findBestOrder_29 : decode m_Fo_findBestOrder.2.1 29 = .ok (.aload_n 0, 1) := by decide +kernel
theorem d_Fo_findBestOrder_30 : decode m_Fo_findBestOrder.2.1 30 = .ok (.getfield 30, 3) := by decide +kernel
theorem d_Fo_findBestOrder_33 : decode m_Fo_findBestOrder.2.1 33 = .ok (.aload_n 1, 1) := by decide +kernel
theorem d_Fo_findBestOrder_34 : decode m_Fo_findBestOrder.2.1 34 = .ok (.invokevirtual 34, 3) := by decide +kernel
theorem d_Fo_findBestOrder_37 : decode m_Fo_findBestOrder.2.1 37 = .ok (.iconst 0, 1) := by decide +kernel
theorem d_Fo_findBestOrder_38 : decode m_Fo_findBestOrder.2.1 38 = .ok (.istore 6, 2) := by decide +kernel
theorem d_Fo_findBestOrder_40 : decode m_Fo_findBestOrder.2.1 40 = .ok (.iload 6, 2) := by decide +kernel
theorem d_Fo_findBestOrder_42 : decode m_Fo_findBestOrder.2.1 42 = .ok (.aload_n 0, 1) := by decide +kernel
theorem d_Fo_findBestOrder_43 : decode m_Fo_findBestOrder.2.1 43 = .ok (.getfield 56, 3) := by decide +kernel
theorem d_Fo_findBestOrder_46 : decode m_Fo_findBestOrder.2.1 46 = .ok (.if_icmp .ge 31, 3) := by decide +kernel
theorem d_Fo_findBestOrder_49 : decode m_Fo_findBestOrder.2.1 49 = .ok (.aload_n 0, 1) := by decide +kernel
theorem d_Fo_findBestOrder_50 : decode m_Fo_findBestOrder.2.1 50 = .ok (.getfield 30, 3) := by decide +kernel
theorem d_Fo_findBestOrder_53 : decode m_Fo_findBestOrder.2.1 53 = .ok (.getfield 67, 3) := by decide +kernel
theorem d_Fo_findBestOrder_56 : decode m_Fo_findBestOrder.2.1 56 = .ok (.aload_n 0, 1) := by decide +kernel
theorem d_Fo_findBestOrder_57 : decode m_Fo_findBestOrder.2.1 57 = .ok (.getfield 11, 3) := by decide +kernel
theorem d_Fo_findBestOrder_60 : decode m_Fo_findBestOrder.2.1 60 = .ok (.iload 6, 2) := by decide +kernel
theorem d_Fo_findBestOrder_62 : decode m_Fo_findBestOrder.2.1 62 = .ok (.iaload, 1) := by decide +kernel
theorem d_Fo_findBestOrder_63 : decode m_Fo_findBestOrder.2.1 63 = .ok (.aload_n 0, 1) := by decide +kernel
theorem d_Fo_findBestOrder_64 : decode m_Fo_findBestOrder.2.1 64 = .ok (.getfield 15, 3) := by decide +kernel
theorem d_Fo_findBestOrder_67 : decode m_Fo_findBestOrder.2.1 67 = .ok (.iload 6, 2) := by decide +kernel
theorem d_Fo_findBestOrder_69 : decode m_Fo_findBestOrder.2.1 69 = .ok (.iaload, 1) := by decide +kernel
theorem d_Fo_findBestOrder_70 : decode m_Fo_findBestOrder.2.1 70 = .ok (.iastore, 1) := by decide +kernel
theorem d_Fo_findBestOrder_71 : decode m_Fo_findBestOrder.2.1 71 = .ok (.iinc 6 1, 3) := by decide +kernel
theorem d_Fo_findBestOrder_74 : decode m_Fo_findBestOrder.2.1 74 = .ok (.goto (-34), 3) := by decide +kernel
theorem d_Fo_findBestOrder_77 : decode m_Fo_findBestOrder.2.1 77 = .ok (.aload_n 0, 1) := by decide +kernel
theorem d_Fo_findBestOrder_78 : decode m_Fo_findBestOrder.2.1 78 = .ok (.iload_n 3, 1) := by decide +kernel
theorem d_Fo_findBestOrder_79 : decode m_Fo_findBestOrder.2.1 79 = .ok (.invokevirtual 70, 3) := by decide +kernel
theorem d_Fo_findBestOrder_82 : decode m_Fo_findBestOrder.2.1 82 = .ok (.aload_n 0, 1) := by decide +kernel
theorem d_Fo_findBestOrder_83 : decode m_Fo_findBestOrder.2.1 83 = .ok (.invokevirtual 73, 3) := by decide +kernel
theorem d_Fo_findBestOrder_86 : decode m_Fo_findBestOrder.2.1 86 = .ok (.istore 4, 2) := by decide +kernel
theorem d_Fo_findBestOrder_88 : decode m_Fo_findBestOrder.2.1 88 = .ok (.iinc 5 1, 3) := by decide +kernel
theorem d_Fo_findBestOrder_91 : decode m_Fo_findBestOrder.2.1 91 = .ok (.goto (-74), 3) := by decide +kernel
theorem d_Fo_findBestOrder_94 : decode m_Fo_findBestOrder.2.1 94 = .ok (.return_, 1) := by decide +kernel
theorem d_Fo_findPlaces_0 : decode m_Fo_findPlaces.2.1 0 = .ok (.iconst 0, 1) := by decide +kernel
theorem d_Fo_findPlaces_1 : decode m_Fo_findPlaces.2.1 1 = .ok (.istore_n 3, 1) := by decide +kernel
theorem d_Fo_findPlaces_2 : decode m_Fo_findPlaces.2.1 2 = .ok (.iconst 0, 1) := by decide +kernel
theorem d_Fo_findPlaces_3 : decode m_Fo_findPlaces.2.1 3 = .ok (.istore 4, 2) := by decide +kernel
theorem d_Fo_findPlaces_5 : decode m_Fo_findPlaces.2.1 5 = .ok (.iload 4, 2) := by decide +kernel
theorem d_Fo_findPlaces_7 : decode m_Fo_findPlaces.2.1 7 = .ok (.aload_n 0, 1) := by decide +kernel
theorem d_Fo_findPlaces_8 : decode m_Fo_findPlaces.2.1 8 = .ok (.getfield 21, 3) := by decide +kernel
theorem d_Fo_findPlaces_11 : decode m_Fo_findPlaces.2.1 11 = .ok (.getfield 77, 3) := by decide +kernel
theorem d_Fo_findPlaces_14 : decode m_Fo_findPlaces.2.1 14 = .ok (.if_icmp .ge 41, 3) := by decide +kernel
theorem d_Fo_findPlaces_17 : decode m_Fo_findPlaces.2.1 17 = .ok (.iload_n 3, 1) := by decide +kernel
theorem d_Fo_findPlaces_18 : decode m_Fo_findPlaces.2.1 18 = .ok (.iconst 5, 1) := by decide +kernel
theorem d_Fo_findPlaces_19 : decode m_Fo_findPlaces.2.1 19 = .ok (.if_icmp .ge 36, 3) := by decide +kernel
theorem d_Fo_findPlaces_22 : decode m_Fo_findPlaces.2.1 22 = .ok (.aload_n 1, 1) := by decide +kernel
theorem d_Fo_findPlaces_23 : decode m_Fo_findPlaces.2.1 23 = .ok (.getfield 42, 3) := by decide +kernel
theorem d_Fo_findPlaces_26 : decode m_Fo_findPlaces.2.1 26 = .ok (.aload_n 1, 1) := by decide +kernel
theorem d_Fo_findPlaces_27 : decode m_Fo_findPlaces.2.1 27 = .ok (.getfield 67, 3) := by decide +kernel
theorem d_Fo_findPlaces_30 : decode m_Fo_findPlaces.2.1 30 = .ok (.iload 4, 2) := by decide +kernel
theorem d_Fo_findPlaces_32 : decode m_Fo_findPlaces.2.1 32 = .ok (.iaload, 1) := by decide +kernel
theorem d_Fo_findPlaces_33 : decode m_Fo_findPlaces.2.1 33 = .ok (.iaload, 1) := by decide +kernel
theorem d_Fo_findPlaces_34 : decode m_Fo_findPlaces.2.1 34 = .ok (.iload_n 2, 1) := by decide +kernel
theorem d_Fo_findPlaces_35 : decode m_Fo_findPlaces.2.1 35 = .ok (.if_icmp .ne 14, 3) := by decide +kernel
theorem d_Fo_findPlaces_38 : decode m_Fo_findPlaces.2.1 38 = .ok (.aload_n 0, 1) := by decide +kernel
theorem d_Fo_findPlaces_39 : decode m_Fo_findPlaces.2.1 39 = .ok (.getfield 11, 3) := by decide +kernel
theorem d_Fo_findPlaces_42 : decode m_Fo_findPlaces.2.1 42 = .ok (.iload_n 3, 1) := by decide +kernel
theorem d_Fo_findPlaces_43 : decode m_Fo_findPlaces.2.1 43 = .ok (.iload 4, 2) := by decide +kernel
theorem d_Fo_findPlaces_45 : decode m_Fo_findPlaces.2.1 45 = .ok (.iastore, 1) := by decide +kernel
theorem d_Fo_findPlaces_46 : decode m_Fo_findPlaces.2.1 46 = .ok (.iinc 3 1, 3) := by decide +kernel
theorem d_Fo_findPlaces_49 : decode m_Fo_findPlaces.2.1 49 = .ok (.iinc 4 1, 3) := by decide +kernel
theorem d_Fo_findPlaces_52 : decode m_Fo_findPlaces.2.1 52 = .ok (.goto (-47), 3) := by decide +kernel
theorem d_Fo_findPlaces_55 : decode m_Fo_findPlaces.2.1 55 = .ok (.aload_n 0, 1) := by decide +kernel
theorem d_Fo_findPlaces_56 : decode m_Fo_findPlaces.2.1 56 = .ok (.iconst 0, 1) := by decide +kernel
theorem d_Fo_findPlaces_57 : decode m_Fo_findPlaces.2.1 57 = .ok (.putfield 56, 3) := by decide +kernel
theorem d_Fo_findPlaces_60 : decode m_Fo_findPlaces.2.1 60 = .ok (.iconst 0, 1) := by decide +kernel
theorem d_Fo_findPlaces_61 : decode m_Fo_findPlaces.2.1 61 = .ok (.istore 4, 2) := by decide +kernel
theorem d_Fo_findPlaces_63 : decode m_Fo_findPlaces.2.1 63 = .ok (.iload 4, 2) := by decide +kernel
theorem d_Fo_findPlaces_65 : decode m_Fo_findPlaces.2.1 65 = .ok (.aload_n 0, 1) := by decide +kernel
theorem d_Fo_findPlaces_66 : decode m_Fo_findPlaces.2.1 66 = .ok (.getfield 21, 3) := by decide +kernel
theorem d_Fo_findPlaces_69 : decode m_Fo_findPlaces.2.1 69 = .ok (.getfield 77, 3) := by decide +kernel
theorem d_Fo_findPlaces_72 : decode m_Fo_findPlaces.2.1 72 = .ok (.if_icmp .ge 49, 3) := by decide +kernel
theorem d_Fo_findPlaces_75 : decode m_Fo_findPlaces.2.1 75 = .ok (.aload_n 0, 1) := by decide +kernel
theorem d_Fo_findPlaces_76 : decode m_Fo_findPlaces.2.1 76 = .ok (.getfield 56, 3) := by decide +kernel
theorem d_Fo_findPlaces_79 : decode m_Fo_findPlaces.2.1 79 = .ok (.iload_n 3, 1) := by decide +kernel
theorem d_Fo_findPlaces_80 : decode m_Fo_findPlaces.2.1 80 = .ok (.if_icmp .ge 41, 3) := by decide +kernel
theorem d_Fo_findPlaces_83 : decode m_Fo_findPlaces.2.1 83 = .ok (.aload_n 1, 1) := by decide +kernel
theorem d_Fo_findPlaces_84 : decode m_Fo_findPlaces.2.1 84 = .ok (.getfield 42, 3) := by decide +kernel
theorem d_Fo_findPlaces_87 : decode m_Fo_findPlaces.2.1 87 = .ok (.iload 4, 2) := by decide +kernel
theorem d_Fo_findPlaces_89 : decode m_Fo_findPlaces.2.1 89 = .ok (.iaload, 1) := by decide +kernel
theorem d_Fo_findPlaces_90 : decode m_Fo_findPlaces.2.1 90 = .ok (.iload_n 2, 1) := by decide +kernel
theorem d_Fo_findPlaces_91 : decode m_Fo_findPlaces.2.1 91 = .ok (.if_icmp .ne 24, 3) := by decide +kernel
theorem d_Fo_findPlaces_94 : decode m_Fo_findPlaces.2.1 94 = .ok (.aload_n 0, 1) := by decide +kernel
theorem d_Fo_findPlaces_95 : decode m_Fo_findPlaces.2.1 95 = .ok (.getfield 15, 3) := by decide +kernel
theorem d_Fo_findPlaces_98 : decode m_Fo_findPlaces.2.1 98 = .ok (.aload_n 0, 1) := by decide +kernel
theorem d_Fo_findPlaces_99 : decode m_Fo_findPlaces.2.1 99 = .ok (.getfield 56, 3) := by decide +kernel
theorem d_Fo_findPlaces_102 : decode m_Fo_findPlaces.2.1 102 = .ok (.iload 4, 2) := by decide +kernel
theorem d_Fo_findPlaces_104 : decode m_Fo_findPlaces.2.1 104 = .ok (.iastore, 1) := by decide +kernel
theorem d_Fo_findPlaces_105 : decode m_Fo_findPlaces.2.1 105 = .ok (.aload_n 0, 1) := by decide +kernel
theorem d_Fo_findPlaces_106 : decode m_Fo_findPlaces.2.1 106 = .ok (.dup, 1) := by decide +kernel
theorem d_Fo_findPlaces_107 : decode m_Fo_findPlaces.2.1 107 = .ok (.getfield 56, 3) := by decide +kernel
theorem d_Fo_findPlaces_110 : decode m_Fo_findPlaces.2.1 110 = .ok (.iconst 1, 1) := by decide +kernel
theorem d_Fo_findPlaces_111 : decode m_Fo_findPlaces.2.1 111 = .ok (.iadd, 1) := by decide +kernel
theorem d_Fo_findPlaces_112 : decode m_Fo_findPlaces.2.1 112 = .ok (.putfield 56, 3) := by decide +kernel
theorem d_Fo_findPlaces_115 : decode m_Fo_findPlaces.2.1 115 = .ok (.iinc 4 1, 3) := by decide +kernel
theorem d_Fo_findPlaces_118 : decode m_Fo_findPlaces.2.1 118 = .ok (.goto (-55), 3) := by decide +kernel
theorem d_Fo_findPlaces_121 : decode m_Fo_findPlaces.2.1 121 = .ok (.return_, 1) := by decide +kernel
theorem d_Fo_weighTrial_0 : decode m_Fo_weighTrial.2.1 0 = .ok (.aload_n 0, 1) := by decide +kernel
theorem d_Fo_weighTrial_1 : decode m_Fo_weighTrial.2.1 1 = .ok (.getfield 30, 3) := by decide +kernel
theorem d_Fo_weighTrial_4 : decode m_Fo_weighTrial.2.1 4 = .ok (.iload_n 1, 1) := by decide +kernel
theorem d_Fo_weighTrial_5 : decode m_Fo_weighTrial.2.1 5 = .ok (.invokevirtual 38, 3) := by decide +kernel
theorem d_Fo_weighTrial_8 : decode m_Fo_weighTrial.2.1 8 = .ok (.aload_n 0, 1) := by decide +kernel
theorem d_Fo_weighTrial_9 : decode m_Fo_weighTrial.2.1 9 = .ok (.getfield 30, 3) := by decide +kernel
theorem d_Fo_weighTrial_12 : decode m_Fo_weighTrial.2.1 12 = .ok (.getfield 82, 3) := by decide +kernel
theorem d_Fo_weighTrial_15 : decode m_Fo_weighTrial.2.1 15 = .ok (.invokestatic 85, 3) := by decide +kernel
theorem d_Fo_weighTrial_18 : decode m_Fo_weighTrial.2.1 18 = .ok (.istore_n 2, 1) := by decide +kernel
theorem d_Fo_weighTrial_19 : decode m_Fo_weighTrial.2.1 19 = .ok (.iload_n 2, 1) := by decide +kernel
theorem d_Fo_weighTrial_20 : decode m_Fo_weighTrial.2.1 20 = .ok (.aload_n 0, 1) := by decide +kernel
theorem d_Fo_weighTrial_21 : decode m_Fo_weighTrial.2.1 21 = .ok (.getfield 52, 3) := by decide +kernel
theorem d_Fo_weighTrial_24 : decode m_Fo_weighTrial.2.1 24 = .ok (.if_icmp .le 25, 3) := by decide +kernel
theorem d_Fo_weighTrial_27 : decode m_Fo_weighTrial.2.1 27 = .ok (.aload_n 0, 1) := by decide +kernel
theorem d_Fo_weighTrial_28 : decode m_Fo_weighTrial.2.1 28 = .ok (.iload_n 2, 1) := by decide +kernel
theorem d_Fo_weighTrial_29 : decode m_Fo_weighTrial.2.1 29 = .ok (.putfield 52, 3) := by decide +kernel
theorem d_Fo_weighTrial_32 : decode m_Fo_weighTrial.2.1 32 = .ok (.aload_n 0, 1) := by decide +kernel
theorem d_Fo_weighTrial_33 : decode m_Fo_weighTrial.2.1 33 = .ok (.getfield 15, 3) := by decide +kernel
theorem d_Fo_weighTrial_36 : decode m_Fo_weighTrial.2.1 36 = .ok (.iconst 0, 1) := by decide +kernel
theorem d_Fo_weighTrial_37 : decode m_Fo_weighTrial.2.1 37 = .ok (.aload_n 0, 1) := by decide +kernel
theorem d_Fo_weighTrial_38 : decode m_Fo_weighTrial.2.1 38 = .ok (.getfield 18, 3) := by decide +kernel
theorem d_Fo_weighTrial_41 : decode m_Fo_weighTrial.2.1 41 = .ok (.iconst 0, 1) := by decide +kernel
theorem d_Fo_weighTrial_42 : decode m_Fo_weighTrial.2.1 42 = .ok (.aload_n 0, 1) := by decide +kernel
theorem d_Fo_weighTrial_43 : decode m_Fo_weighTrial.2.1 43 = .ok (.getfield 56, 3) := by decide +kernel
theorem d_Fo_weighTrial_46 : decode m_Fo_weighTrial.2.1 46 = .ok (.invokestatic 90, 3) := by decide +kernel
theorem d_Fo_weighTrial_49 : decode m_Fo_weighTrial.2.1 49 = .ok (.return_, 1) := by decide +kernel
theorem d_Fo_toNextOrder_0 : decode m_Fo_toNextOrder.2.1 0 = .ok (.aload_n 0, 1) := by decide +kernel
theorem d_Fo_toNextOrder_1 : decode m_Fo_toNextOrder.2.1 1 = .ok (.getfield 56, 3) := by decide +kernel
theorem d_Fo_toNextOrder_4 : decode m_Fo_toNextOrder.2.1 4 = .ok (.iconst 2, 1) := by decide +kernel
theorem d_Fo_toNextOrder_5 : decode m_Fo_toNextOrder.2.1 5 = .ok (.isub, 1) := by decide +kernel
theorem d_Fo_toNextOrder_6 : decode m_Fo_toNextOrder.2.1 6 = .ok (.istore_n 1, 1) := by decide +kernel
theorem d_Fo_toNextOrder_7 : decode m_Fo_toNextOrder.2.1 7 = .ok (.iload_n 1, 1) := by decide +kernel
theorem d_Fo_toNextOrder_8 : decode m_Fo_toNextOrder.2.1 8 = .ok (.ifCond .lt 26, 3) := by decide +kernel
theorem d_Fo_toNextOrder_11 : decode m_Fo_toNextOrder.2.1 11 = .ok (.aload_n 0, 1) := by decide +kernel
theorem d_Fo_toNextOrder_12 : decode m_Fo_toNextOrder.2.1 12 = .ok (.getfield 15, 3) := by decide +kernel
theorem d_Fo_toNextOrder_15 : decode m_Fo_toNextOrder.2.1 15 = .ok (.iload_n 1, 1) := by decide +kernel
theorem d_Fo_toNextOrder_16 : decode m_Fo_toNextOrder.2.1 16 = .ok (.iaload, 1) := by decide +kernel
theorem d_Fo_toNextOrder_17 : decode m_Fo_toNextOrder.2.1 17 = .ok (.aload_n 0, 1) := by decide +kernel
theorem d_Fo_toNextOrder_18 : decode m_Fo_toNextOrder.2.1 18 = .ok (.getfield 15, 3) := by decide +kernel
theorem d_Fo_toNextOrder_21 : decode m_Fo_toNextOrder.2.1 21 = .ok (.iload_n 1, 1) := by decide +kernel
theorem d_Fo_toNextOrder_22 : decode m_Fo_toNextOrder.2.1 22 = .ok (.iconst 1, 1) := by decide +kernel
theorem d_Fo_toNextOrder_23 : decode m_Fo_toNextOrder.2.1 23 = .ok (.iadd, 1) := by decide +kernel
theorem d_Fo_toNextOrder_24 : decode m_Fo_toNextOrder.2.1 24 = .ok (.iaload, 1) := by decide +kernel
theorem d_Fo_toNextOrder_25 : decode m_Fo_toNextOrder.2.1 25 = .ok (.if_icmp .le 9, 3) := by decide +kernel
theorem d_Fo_toNextOrder_28 : decode m_Fo_toNextOrder.2.1 28 = .ok (.iinc 1 (-1), 3) := by decide +kernel
theorem d_Fo_toNextOrder_31 : decode m_Fo_toNextOrder.2.1 31 = .ok (.goto (-24), 3) := by decide +kernel
theorem d_Fo_toNextOrder_34 : decode m_Fo_toNextOrder.2.1 34 = .ok (.iload_n 1, 1) := by decide +kernel
theorem d_Fo_toNextOrder_35 : decode m_Fo_toNextOrder.2.1 35 = .ok (.ifCond .ge 5, 3) := by decide +kernel
theorem d_Fo_toNextOrder_38 : decode m_Fo_toNextOrder.2.1 38 = .ok (.iconst 0, 1) := by decide +kernel
theorem d_Fo_toNextOrder_39 : decode m_Fo_toNextOrder.2.1 39 = .ok (.ireturn, 1) := by decide +kernel
theorem d_Fo_toNextOrder_40 : decode m_Fo_toNextOrder.2.1 40 = .ok (.aload_n 0, 1) := by decide +kernel
theorem d_Fo_toNextOrder_41 : decode m_Fo_toNextOrder.2.1 41 = .ok (.getfield 56, 3) := by decide +kernel
theorem d_Fo_toNextOrder_44 : decode m_Fo_toNextOrder.2.1 44 = .ok (.iconst 1, 1) := by decide +kernel
theorem d_Fo_toNextOrder_45 : decode m_Fo_toNextOrder.2.1 45 = .ok (.isub, 1) := by decide +kernel
theorem d_Fo_toNextOrder_46 : decode m_Fo_toNextOrder.2.1 46 = .ok (.istore_n 2, 1) := by decide +kernel
theorem d_Fo_toNextOrder_47 : decode m_Fo_toNextOrder.2.1 47 = .ok (.iload_n 2, 1) := by decide +kernel
theorem d_Fo_toNextOrder_48 : decode m_Fo_toNextOrder.2.1 48 = .ok (.iload_n 1, 1) := by decide +kernel
theorem d_Fo_toNextOrder_49 : decode m_Fo_toNextOrder.2.1 49 = .ok (.iconst 1, 1) := by decide +kernel
theorem d_Fo_toNextOrder_50 : decode m_Fo_toNextOrder.2.1 50 = .ok (.iadd, 1) := by decide +kernel
theorem d_Fo_toNextOrder_51 : decode m_Fo_toNextOrder.2.1 51 = .ok (.if_icmp .le 24, 3) := by decide +kernel
theorem d_Fo_toNextOrder_54 : decode m_Fo_toNextOrder.2.1 54 = .ok (.aload_n 0, 1) := by decide +kernel
theorem d_Fo_toNextOrder_55 : decode m_Fo_toNextOrder.2.1 55 = .ok (.getfield 15, 3) := by decide +kernel
theorem d_Fo_toNextOrder_58 : decode m_Fo_toNextOrder.2.1 58 = .ok (.iload_n 2, 1) := by decide +kernel
theorem d_Fo_toNextOrder_59 : decode m_Fo_toNextOrder.2.1 59 = .ok (.iaload, 1) := by decide +kernel
theorem d_Fo_toNextOrder_60 : decode m_Fo_toNextOrder.2.1 60 = .ok (.aload_n 0, 1) := by decide +kernel
theorem d_Fo_toNextOrder_61 : decode m_Fo_toNextOrder.2.1 61 = .ok (.getfield 15, 3) := by decide +kernel
theorem d_Fo_toNextOrder_64 : decode m_Fo_toNextOrder.2.1 64 = .ok (.iload_n 1, 1) := by decide +kernel
theorem d_Fo_toNextOrder_65 : decode m_Fo_toNextOrder.2.1 65 = .ok (.iaload, 1) := by decide +kernel
theorem d_Fo_toNextOrder_66 : decode m_Fo_toNextOrder.2.1 66 = .ok (.if_icmp .ge 9, 3) := by decide +kernel
theorem d_Fo_toNextOrder_69 : decode m_Fo_toNextOrder.2.1 69 = .ok (.iinc 2 (-1), 3) := by decide +kernel
theorem d_Fo_toNextOrder_72 : decode m_Fo_toNextOrder.2.1 72 = .ok (.goto (-25), 3) := by decide +kernel
theorem d_Fo_toNextOrder_75 : decode m_Fo_toNextOrder.2.1 75 = .ok (.aload_n 0, 1) := by decide +kernel
theorem d_Fo_toNextOrder_76 : decode m_Fo_toNextOrder.2.1 76 = .ok (.iload_n 1, 1) := by decide +kernel
theorem d_Fo_toNextOrder_77 : decode m_Fo_toNextOrder.2.1 77 = .ok (.iload_n 2, 1) := by decide +kernel
theorem d_Fo_toNextOrder_78 : decode m_Fo_toNextOrder.2.1 78 = .ok (.invokevirtual 96, 3) := by decide +kernel
theorem d_Fo_toNextOrder_81 : decode m_Fo_toNextOrder.2.1 81 = .ok (.iload_n 1, 1) := by decide +kernel
theorem d_Fo_toNextOrder_82 : decode m_Fo_toNextOrder.2.1 82 = .ok (.iconst 1, 1) := by decide +kernel
theorem d_Fo_toNextOrder_83 : decode m_Fo_toNextOrder.2.1 83 = .ok (.iadd, 1) := by decide +kernel
theorem d_Fo_toNextOrder_84 : decode m_Fo_toNextOrder.2.1 84 = .ok (.istore_n 3, 1) := by decide +kernel
theorem d_Fo_toNextOrder_85 : decode m_Fo_toNextOrder.2.1 85 = .ok (.aload_n 0, 1) := by decide +kernel
theorem d_Fo_toNextOrder_86 : decode m_Fo_toNextOrder.2.1 86 = .ok (.getfield 56, 3) := by decide +kernel
theorem d_Fo_toNextOrder_89 : decode m_Fo_toNextOrder.2.1 89 = .ok (.iconst 1, 1) := by decide +kernel
theorem d_Fo_toNextOrder_90 : decode m_Fo_toNextOrder.2.1 90 = .ok (.isub, 1) := by decide +kernel
theorem d_Fo_toNextOrder_91 : decode m_Fo_toNextOrder.2.1 91 = .ok (.istore 4, 2) := by decide +kernel
theorem d_Fo_toNextOrder_93 : decode m_Fo_toNextOrder.2.1 93 = .ok (.iload_n 3, 1) := by decide +kernel
theorem d_Fo_toNextOrder_94 : decode m_Fo_toNextOrder.2.1 94 = .ok (.iload 4, 2) := by decide +kernel
theorem d_Fo_toNextOrder_96 : decode m_Fo_toNextOrder.2.1 96 = .ok (.if_icmp .ge 19, 3) := by decide +kernel
theorem d_Fo_toNextOrder_99 : decode m_Fo_toNextOrder.2.1 99 = .ok (.aload_n 0, 1) := by decide +kernel
theorem d_Fo_toNextOrder_100 : decode m_Fo_toNextOrder.2.1 100 = .ok (.iload_n 3, 1) := by decide +kernel
theorem d_Fo_toNextOrder_101 : decode m_Fo_toNextOrder.2.1 101 = .ok (.iload 4, 2) := by decide +kernel
theorem d_Fo_toNextOrder_103 : decode m_Fo_toNextOrder.2.1 103 = .ok (.invokevirtual 96, 3) := by decide +kernel
theorem d_Fo_toNextOrder_106 : decode m_Fo_toNextOrder.2.1 106 = .ok (.iinc 3 1, 3) := by decide +kernel
theorem d_Fo_toNextOrder_109 : decode m_Fo_toNextOrder.2.1 109 = .ok (.iinc 4 (-1), 3) := by decide +kernel
theorem d_Fo_toNextOrder_112 : decode m_Fo_toNextOrder.2.1 112 = .ok (.goto (-19), 3) := by decide +kernel
theorem d_Fo_toNextOrder_115 : decode m_Fo_toNextOrder.2.1 115 = .ok (.iconst 1, 1) := by decide +kernel
theorem d_Fo_toNextOrder_116 : decode m_Fo_toNextOrder.2.1 116 = .ok (.ireturn, 1) := by decide +kernel
theorem d_Fo_swapTried_0 : decode m_Fo_swapTried.2.1 0 = .ok (.aload_n 0, 1) := by decide +kernel
theorem d_Fo_swapTried_1 : decode m_Fo_swapTried.2.1 1 = .ok (.getfield 15, 3) := by decide +kernel
theorem d_Fo_swapTried_4 : decode m_Fo_swapTried.2.1 4 = .ok (.iload_n 1, 1) := by decide +kernel
theorem d_Fo_swapTried_5 : decode m_Fo_swapTried.2.1 5 = .ok (.iaload, 1) := by decide +kernel
theorem d_Fo_swapTried_6 : decode m_Fo_swapTried.2.1 6 = .ok (.istore_n 3, 1) := by decide +kernel
theorem d_Fo_swapTried_7 : decode m_Fo_swapTried.2.1 7 = .ok (.aload_n 0, 1) := by decide +kernel
theorem d_Fo_swapTried_8 : decode m_Fo_swapTried.2.1 8 = .ok (.getfield 15, 3) := by decide +kernel
theorem d_Fo_swapTried_11 : decode m_Fo_swapTried.2.1 11 = .ok (.iload_n 1, 1) := by decide +kernel
theorem d_Fo_swapTried_12 : decode m_Fo_swapTried.2.1 12 = .ok (.aload_n 0, 1) := by decide +kernel
theorem d_Fo_swapTried_13 : decode m_Fo_swapTried.2.1 13 = .ok (.getfield 15, 3) := by decide +kernel
theorem d_Fo_swapTried_16 : decode m_Fo_swapTried.2.1 16 = .ok (.iload_n 2, 1) := by decide +kernel
theorem d_Fo_swapTried_17 : decode m_Fo_swapTried.2.1 17 = .ok (.iaload, 1) := by decide +kernel
theorem d_Fo_swapTried_18 : decode m_Fo_swapTried.2.1 18 = .ok (.iastore, 1) := by decide +kernel
theorem d_Fo_swapTried_19 : decode m_Fo_swapTried.2.1 19 = .ok (.aload_n 0, 1) := by decide +kernel
theorem d_Fo_swapTried_20 : decode m_Fo_swapTried.2.1 20 = .ok (.getfield 15, 3) := by decide +kernel
theorem d_Fo_swapTried_23 : decode m_Fo_swapTried.2.1 23 = .ok (.iload_n 2, 1) := by decide +kernel
theorem d_Fo_swapTried_24 : decode m_Fo_swapTried.2.1 24 = .ok (.iload_n 3, 1) := by decide +kernel
theorem d_Fo_swapTried_25 : decode m_Fo_swapTried.2.1 25 = .ok (.iastore, 1) := by decide +kernel
theorem d_Fo_swapTried_26 : decode m_Fo_swapTried.2.1 26 = .ok (.return_, 1) := by decide +kernel
theorem d_Fo_answerAt_0 : decode m_Fo_answerAt.2.1 0 = .ok (.iload_n 1, 1) := by decide +kernel
theorem d_Fo_answerAt_1 : decode m_Fo_answerAt.2.1 1 = .ok (.iconst (-1), 1) := by decide +kernel
theorem d_Fo_answerAt_2 : decode m_Fo_answerAt.2.1 2 = .ok (.if_icmp .ne 8, 3) := by decide +kernel
theorem d_Fo_answerAt_5 : decode m_Fo_answerAt.2.1 5 = .ok (.aload_n 0, 1) := by decide +kernel
theorem d_Fo_answerAt_6 : decode m_Fo_answerAt.2.1 6 = .ok (.getfield 52, 3) := by decide +kernel
theorem d_Fo_answerAt_9 : decode m_Fo_answerAt.2.1 9 = .ok (.ireturn, 1) := by decide +kernel
theorem d_Fo_answerAt_10 : decode m_Fo_answerAt.2.1 10 = .ok (.iload_n 1, 1) := by decide +kernel
theorem d_Fo_answerAt_11 : decode m_Fo_answerAt.2.1 11 = .ok (.iconst 0, 1) := by decide +kernel
theorem d_Fo_answerAt_12 : decode m_Fo_answerAt.2.1 12 = .ok (.aload_n 0, 1) := by decide +kernel
theorem d_Fo_answerAt_13 : decode m_Fo_answerAt.2.1 13 = .ok (.getfield 56, 3) := by decide +kernel
theorem d_Fo_answerAt_16 : decode m_Fo_answerAt.2.1 16 = .ok (.iconst 1, 1) := by decide +kernel
theorem d_Fo_answerAt_17 : decode m_Fo_answerAt.2.1 17 = .ok (.isub, 1) := by decide +kernel
theorem d_Fo_answerAt_18 : decode m_Fo_answerAt.2.1 18 = .ok (.invokestatic 59, 3) := by decide +kernel
theorem d_Fo_answerAt_21 : decode m_Fo_answerAt.2.1 21 = .ok (.ifCond .eq 12, 3) := by decide +kernel
theorem d_Fo_answerAt_24 : decode m_Fo_answerAt.2.1 24 = .ok (.aload_n 0, 1) := by decide +kernel
theorem d_Fo_answerAt_25 : decode m_Fo_answerAt.2.1 25 = .ok (.getfield 18, 3) := by decide +kernel
theorem d_Fo_answerAt_28 : decode m_Fo_answerAt.2.1 28 = .ok (.iload_n 1, 1) := by decide +kernel
theorem d_Fo_answerAt_29 : decode m_Fo_answerAt.2.1 29 = .ok (.iaload, 1) := by decide +kernel
theorem d_Fo_answerAt_30 : decode m_Fo_answerAt.2.1 30 = .ok (.goto 4, 3) := by decide +kernel
theorem d_Fo_answerAt_33 : decode m_Fo_answerAt.2.1 33 = .ok (.iconst (-1), 1) := by decide +kernel
theorem d_Fo_answerAt_34 : decode m_Fo_answerAt.2.1 34 = .ok (.ireturn, 1) := by decide +kernel
theorem d_Fo_findBestGodfathers_0 : decode m_Fo_findBestGodfathers.2.1 0 = .ok (.aload_n 0, 1) := by decide +kernel
theorem d_Fo_findBestGodfathers_1 : decode m_Fo_findBestGodfathers.2.1 1 = .ok (.aload_n 1, 1) := by decide +kernel
theorem d_Fo_findBestGodfathers_2 : decode m_Fo_findBestGodfathers.2.1 2 = .ok (.iconst 5, 1) := by decide +kernel
theorem d_Fo_findBestGodfathers_3 : decode m_Fo_findBestGodfathers.2.1 3 = .ok (.invokevirtual 48, 3) := by decide +kernel
theorem d_Fo_findBestGodfathers_6 : decode m_Fo_findBestGodfathers.2.1 6 = .ok (.iconst 3, 1) := by decide +kernel
theorem d_Fo_findBestGodfathers_7 : decode m_Fo_findBestGodfathers.2.1 7 = .ok (.invokestatic 100, 3) := by decide +kernel
theorem d_Fo_findBestGodfathers_10 : decode m_Fo_findBestGodfathers.2.1 10 = .ok (.putfield 56, 3) := by decide +kernel
theorem d_Fo_findBestGodfathers_13 : decode m_Fo_findBestGodfathers.2.1 13 = .ok (.iconst 1, 1) := by decide +kernel
theorem d_Fo_findBestGodfathers_14 : decode m_Fo_findBestGodfathers.2.1 14 = .ok (.istore_n 3, 1) := by decide +kernel
theorem d_Fo_findBestGodfathers_15 : decode m_Fo_findBestGodfathers.2.1 15 = .ok (.iconst 0, 1) := by decide +kernel
theorem d_Fo_findBestGodfathers_16 : decode m_Fo_findBestGodfathers.2.1 16 = .ok (.istore 4, 2) := by decide +kernel
theorem d_Fo_findBestGodfathers_18 : decode m_Fo_findBestGodfathers.2.1 18 = .ok (.iload 4, 2) := by decide +kernel
theorem d_Fo_findBestGodfathers_20 : decode m_Fo_findBestGodfathers.2.1 20 = .ok (.aload_n 0, 1) := by decide +kernel
theorem d_Fo_findBestGodfathers_21 : decode m_Fo_findBestGodfathers.2.1 21 = .ok (.getfield 56, 3) := by decide +kernel
theorem d_Fo_findBestGodfathers_24 : decode m_Fo_findBestGodfathers.2.1 24 = .ok (.if_icmp .ge 21, 3) := by decide +kernel
theorem d_Fo_findBestGodfathers_27 : decode m_Fo_findBestGodfathers.2.1 27 = .ok (.iload_n 3, 1) := by decide +kernel
theorem d_Fo_findBestGodfathers_28 : decode m_Fo_findBestGodfathers.2.1 28 = .ok (.aload_n 0, 1) := by decide +kernel
theorem d_Fo_findBestGodfathers_29 : decode m_Fo_findBestGodfathers.2.1 29 = .ok (.getfield 21, 3) := by decide +kernel
theorem d_Fo_findBestGodfathers_32 : decode m_Fo_findBestGodfathers.2.1 32 = .ok (.getfield 106, 3) := by decide +kernel
theorem d_Fo_findBestGodfathers_35 : decode m_Fo_findBestGodfathers.2.1 35 = .ok (.iconst 1, 1) := by decide +kernel
theorem d_Fo_findBestGodfathers_36 : decode m_Fo_findBestGodfathers.2.1 36 = .ok (.iadd, 1) := by decide +kernel
theorem d_Fo_findBestGodfathers_37 : decode m_Fo_findBestGodfathers.2.1 37 = .ok (.imul, 1) := by decide +kernel
theorem d_Fo_findBestGodfathers_38 : decode m_Fo_findBestGodfathers.2.1 38 = .ok (.istore_n 3, 1) := by decide +kernel
theorem d_Fo_findBestGodfathers_39 : decode m_Fo_findBestGodfathers.2.1 39 = .ok (.iinc 4 1, 3) := by decide +kernel
theorem d_Fo_findBestGodfathers_42 : decode m_Fo_findBestGodfathers.2.1 42 = .ok (.goto (-24), 3) := by decide +kernel
theorem d_Fo_findBestGodfathers_45 : decode m_Fo_findBestGodfathers.2.1 45 = .ok (.aload_n 0, 1) := by decide +kernel
theorem d_Fo_findBestGodfathers_46 : decode m_Fo_findBestGodfathers.2.1 46 = .ok (.iconst (-1), 1) := by decide +kernel
theorem d_Fo_findBestGodfathers_47 : decode m_Fo_findBestGodfathers.2.1 47 = .ok (.putfield 52, 3) := by decide +kernel
theorem d_Fo_findBestGodfathers_50 : decode m_Fo_findBestGodfathers.2.1 50 = .ok (.iconst 0, 1) := by decide +kernel
theorem d_Fo_findBestGodfathers_51 : decode m_Fo_findBestGodfathers.2.1 51 = .ok (.istore 4, 2) := by decide +kernel
theorem d_Fo_findBestGodfathers_53 : decode m_Fo_findBestGodfathers.2.1 53 = .ok (.iload 4, 2) := by decide +kernel
theorem d_Fo_findBestGodfathers_55 : decode m_Fo_findBestGodfathers.2.1 55 = .ok (.iload_n 3, 1) := by decide +kernel
theorem d_Fo_findBestGodfathers_56 : decode m_Fo_findBestGodfathers.2.1 56 = .ok (.if_icmp .ge 41, 3) := by decide +kernel
theorem d_Fo_findBestGodfathers_59 : decode m_Fo_findBestGodfathers.2.1 59 = .ok (.aload_n 0, 1) := by decide +kernel
theorem d_Fo_findBestGodfathers_60 : decode m_Fo_findBestGodfathers.2.1 60 = .ok (.iload 4, 2) := by decide +kernel
theorem d_Fo_findBestGodfathers_62 : decode m_Fo_findBestGodfathers.2.1 62 = .ok (.invokevirtual 109, 3) := by decide +kernel
theorem d_Fo_findBestGodfathers_65 : decode m_Fo_findBestGodfathers.2.1 65 = .ok (.aload_n 0, 1) := by decide +kernel
theorem d_Fo_findBestGodfathers_66 : decode m_Fo_findBestGodfathers.2.1 66 = .ok (.aload_n 1, 1) := by decide +kernel
theorem d_Fo_findBestGodfathers_67 : decode m_Fo_findBestGodfathers.2.1 67 = .ok (.invokevirtual 112, 3) := by decide +kernel
theorem d_Fo_findBestGodfathers_70 : decode m_Fo_findBestGodfathers.2.1 70 = .ok (.ifCond .eq 21, 3) := by decide +kernel
theorem d_Fo_findBestGodfathers_73 : decode m_Fo_findBestGodfathers.2.1 73 = .ok (.aload_n 0, 1) := by decide +kernel
theorem d_Fo_findBestGodfathers_74 : decode m_Fo_findBestGodfathers.2.1 74 = .ok (.getfield 30, 3) := by decide +kernel
theorem d_Fo_findBestGodfathers_77 : decode m_Fo_findBestGodfathers.2.1 77 = .ok (.aload_n 1, 1) := by decide +kernel
theorem d_Fo_findBestGodfathers_78 : decode m_Fo_findBestGodfathers.2.1 78 = .ok (.invokevirtual 34, 3) := by decide +kernel
theorem d_Fo_findBestGodfathers_81 : decode m_Fo_findBestGodfathers.2.1 81 = .ok (.aload_n 0, 1) := by decide +kernel
theorem d_Fo_findBestGodfathers_82 : decode m_Fo_findBestGodfathers.2.1 82 = .ok (.aload_n 1, 1) := by decide +kernel
theorem d_Fo_findBestGodfathers_83 : decode m_Fo_findBestGodfathers.2.1 83 = .ok (.invokevirtual 116, 3) := by decide +kernel
theorem d_Fo_findBestGodfathers_86 : decode m_Fo_findBestGodfathers.2.1 86 = .ok (.aload_n 0, 1) := by decide +kernel
theorem d_Fo_findBestGodfathers_87 : decode m_Fo_findBestGodfathers.2.1 87 = .ok (.iload_n 2, 1) := by decide +kernel
theorem d_Fo_findBestGodfathers_88 : decode m_Fo_findBestGodfathers.2.1 88 = .ok (.invokevirtual 70, 3) := by decide +kernel
theorem d_Fo_findBestGodfathers_91 : decode m_Fo_findBestGodfathers.2.1 91 = .ok (.iinc 4 1, 3) := by decide +kernel
theorem d_Fo_findBestGodfathers_94 : decode m_Fo_findBestGodfathers.2.1 94 = .ok (.goto (-41), 3) := by decide +kernel
theorem d_Fo_findBestGodfathers_97 : decode m_Fo_findBestGodfathers.2.1 97 = .ok (.return_, 1) := by decide +kernel
theorem d_Fo_chooseWay_0 : decode m_Fo_chooseWay.2.1 0 = .ok (.iload_n 1, 1) := by decide +kernel
theorem d_Fo_chooseWay_1 : decode m_Fo_chooseWay.2.1 1 = .ok (.istore_n 2, 1) := by decide +kernel
theorem d_Fo_chooseWay_2 : decode m_Fo_chooseWay.2.1 2 = .ok (.aload_n 0, 1) := by decide +kernel
theorem d_Fo_chooseWay_3 : decode m_Fo_chooseWay.2.1 3 = .ok (.getfield 56, 3) := by decide +kernel
theorem d_Fo_chooseWay_6 : decode m_Fo_chooseWay.2.1 6 = .ok (.iconst 1, 1) := by decide +kernel
theorem d_Fo_chooseWay_7 : decode m_Fo_chooseWay.2.1 7 = .ok (.isub, 1) := by decide +kernel
theorem d_Fo_chooseWay_8 : decode m_Fo_chooseWay.2.1 8 = .ok (.istore_n 3, 1) := by decide +kernel
theorem d_Fo_chooseWay_9 : decode m_Fo_chooseWay.2.1 9 = .ok (.iload_n 3, 1) := by decide +kernel
theorem d_Fo_chooseWay_10 : decode m_Fo_chooseWay.2.1 10 = .ok (.ifCond .lt 40, 3) := by decide +kernel
theorem d_Fo_chooseWay_13 : decode m_Fo_chooseWay.2.1 13 = .ok (.aload_n 0, 1) := by decide +kernel
theorem d_Fo_chooseWay_14 : decode m_Fo_chooseWay.2.1 14 = .ok (.getfield 15, 3) := by decide +kernel
theorem d_Fo_chooseWay_17 : decode m_Fo_chooseWay.2.1 17 = .ok (.iload_n 3, 1) := by decide +kernel
theorem d_Fo_chooseWay_18 : decode m_Fo_chooseWay.2.1 18 = .ok (.iload_n 2, 1) := by decide +kernel
theorem d_Fo_chooseWay_19 : decode m_Fo_chooseWay.2.1 19 = .ok (.aload_n 0, 1) := by decide +kernel
theorem d_Fo_chooseWay_20 : decode m_Fo_chooseWay.2.1 20 = .ok (.getfield 21, 3) := by decide +kernel
theorem d_Fo_chooseWay_23 : decode m_Fo_chooseWay.2.1 23 = .ok (.getfield 106, 3) := by decide +kernel
theorem d_Fo_chooseWay_26 : decode m_Fo_chooseWay.2.1 26 = .ok (.iconst 1, 1) := by decide +kernel
theorem d_Fo_chooseWay_27 : decode m_Fo_chooseWay.2.1 27 = .ok (.iadd, 1) := by decide +kernel
theorem d_Fo_chooseWay_28 : decode m_Fo_chooseWay.2.1 28 = .ok (.irem, 1) := by decide +kernel
theorem d_Fo_chooseWay_29 : decode m_Fo_chooseWay.2.1 29 = .ok (.iconst 1, 1) := by decide +kernel
theorem d_Fo_chooseWay_30 : decode m_Fo_chooseWay.2.1 30 = .ok (.isub, 1) := by decide +kernel
theorem d_Fo_chooseWay_31 : decode m_Fo_chooseWay.2.1 31 = .ok (.iastore, 1) := by decide +kernel
theorem d_Fo_chooseWay_32 : decode m_Fo_chooseWay.2.1 32 = .ok (.iload_n 2, 1) := by decide +kernel
theorem d_Fo_chooseWay_33 : decode m_Fo_chooseWay.2.1 33 = .ok (.aload_n 0, 1) := by decide +kernel
theorem d_Fo_chooseWay_34 : decode m_Fo_chooseWay.2.1 34 = .ok (.getfield 21, 3) := by decide +kernel
theorem d_Fo_chooseWay_37 : decode m_Fo_chooseWay.2.1 37 = .ok (.getfield 106, 3) := by decide +kernel
theorem d_Fo_chooseWay_40 : decode m_Fo_chooseWay.2.1 40 = .ok (.iconst 1, 1) := by decide +kernel
theorem d_Fo_chooseWay_41 : decode m_Fo_chooseWay.2.1 41 = .ok (.iadd, 1) := by decide +kernel
theorem d_Fo_chooseWay_42 : decode m_Fo_chooseWay.2.1 42 = .ok (.idiv, 1) := by decide +kernel
theorem d_Fo_chooseWay_43 : decode m_Fo_chooseWay.2.1 43 = .ok (.istore_n 2, 1) := by decide +kernel
theorem d_Fo_chooseWay_44 : decode m_Fo_chooseWay.2.1 44 = .ok (.iinc 3 (-1), 3) := by decide +kernel
theorem d_Fo_chooseWay_47 : decode m_Fo_chooseWay.2.1 47 = .ok (.goto (-38), 3) := by decide +kernel
theorem d_Fo_chooseWay_50 : decode m_Fo_chooseWay.2.1 50 = .ok (.return_, 1) := by decide +kernel
theorem d_Fo_areChosenAlive_0 : decode m_Fo_areChosenAlive.2.1 0 = .ok (.iconst 0, 1) := by decide +kernel
theorem d_Fo_areChosenAlive_1 : decode m_Fo_areChosenAlive.2.1 1 = .ok (.istore_n 2, 1) := by decide +kernel
theorem d_Fo_areChosenAlive_2 : decode m_Fo_areChosenAlive.2.1 2 = .ok (.iload_n 2, 1) := by decide +kernel
theorem d_Fo_areChosenAlive_3 : decode m_Fo_areChosenAlive.2.1 3 = .ok (.aload_n 0, 1) := by decide +kernel
theorem d_Fo_areChosenAlive_4 : decode m_Fo_areChosenAlive.2.1 4 = .ok (.getfield 56, 3) := by decide +kernel
theorem d_Fo_areChosenAlive_7 : decode m_Fo_areChosenAlive.2.1 7 = .ok (.if_icmp .ge 35, 3) := by decide +kernel
theorem d_Fo_areChosenAlive_10 : decode m_Fo_areChosenAlive.2.1 10 = .ok (.aload_n 0, 1) := by decide +kernel
theorem d_Fo_areChosenAlive_11 : decode m_Fo_areChosenAlive.2.1 11 = .ok (.getfield 15, 3) := by decide +kernel
theorem d_Fo_areChosenAlive_14 : decode m_Fo_areChosenAlive.2.1 14 = .ok (.iload_n 2, 1) := by decide +kernel
theorem d_Fo_areChosenAlive_15 : decode m_Fo_areChosenAlive.2.1 15 = .ok (.iaload, 1) := by decide +kernel
theorem d_Fo_areChosenAlive_16 : decode m_Fo_areChosenAlive.2.1 16 = .ok (.iconst (-1), 1) := by decide +kernel
theorem d_Fo_areChosenAlive_17 : decode m_Fo_areChosenAlive.2.1 17 = .ok (.if_icmp .eq 19, 3) := by decide +kernel
theorem d_Fo_areChosenAlive_20 : decode m_Fo_areChosenAlive.2.1 20 = .ok (.aload_n 1, 1) := by decide +kernel
theorem d_Fo_areChosenAlive_21 : decode m_Fo_areChosenAlive.2.1 21 = .ok (.getfield 45, 3) := by decide +kernel
theorem d_Fo_areChosenAlive_24 : decode m_Fo_areChosenAlive.2.1 24 = .ok (.aload_n 0, 1) := by decide +kernel
theorem d_Fo_areChosenAlive_25 : decode m_Fo_areChosenAlive.2.1 25 = .ok (.getfield 15, 3) := by decide +kernel
theorem d_Fo_areChosenAlive_28 : decode m_Fo_areChosenAlive.2.1 28 = .ok (.iload_n 2, 1) := by decide +kernel
theorem d_Fo_areChosenAlive_29 : decode m_Fo_areChosenAlive.2.1 29 = .ok (.iaload, 1) := by decide +kernel
theorem d_Fo_areChosenAlive_30 : decode m_Fo_areChosenAlive.2.1 30 = .ok (.iaload, 1) := by decide +kernel
theorem d_Fo_areChosenAlive_31 : decode m_Fo_areChosenAlive.2.1 31 = .ok (.ifCond .ne 5, 3) := by decide +kernel
theorem d_Fo_areChosenAlive_34 : decode m_Fo_areChosenAlive.2.1 34 = .ok (.iconst 0, 1) := by decide +kernel
theorem d_Fo_areChosenAlive_35 : decode m_Fo_areChosenAlive.2.1 35 = .ok (.ireturn, 1) := by decide +kernel
theorem d_Fo_areChosenAlive_36 : decode m_Fo_areChosenAlive.2.1 36 = .ok (.iinc 2 1, 3) := by decide +kernel
theorem d_Fo_areChosenAlive_39 : decode m_Fo_areChosenAlive.2.1 39 = .ok (.goto (-37), 3) := by decide +kernel
theorem d_Fo_areChosenAlive_42 : decode m_Fo_areChosenAlive.2.1 42 = .ok (.iconst 1, 1) := by decide +kernel
theorem d_Fo_areChosenAlive_43 : decode m_Fo_areChosenAlive.2.1 43 = .ok (.ireturn, 1) := by decide +kernel
theorem d_Fo_giveAsChosen_0 : decode m_Fo_giveAsChosen.2.1 0 = .ok (.iconst 0, 1) := by decide +kernel
theorem d_Fo_giveAsChosen_1 : decode m_Fo_giveAsChosen.2.1 1 = .ok (.istore_n 2, 1) := by decide +kernel
theorem d_Fo_giveAsChosen_2 : decode m_Fo_giveAsChosen.2.1 2 = .ok (.iload_n 2, 1) := by decide +kernel
theorem d_Fo_giveAsChosen_3 : decode m_Fo_giveAsChosen.2.1 3 = .ok (.aload_n 0, 1) := by decide +kernel
theorem d_Fo_giveAsChosen_4 : decode m_Fo_giveAsChosen.2.1 4 = .ok (.getfield 56, 3) := by decide +kernel
theorem d_Fo_giveAsChosen_7 : decode m_Fo_giveAsChosen.2.1 7 = .ok (.if_icmp .ge 45, 3) := by decide +kernel
theorem d_Fo_giveAsChosen_10 : decode m_Fo_giveAsChosen.2.1 10 = .ok (.aload_n 1, 1) := by decide +kernel
theorem d_Fo_giveAsChosen_11 : decode m_Fo_giveAsChosen.2.1 11 = .ok (.iconst 5, 1) := by decide +kernel
theorem d_Fo_giveAsChosen_12 : decode m_Fo_giveAsChosen.2.1 12 = .ok (.iload_n 2, 1) := by decide +kernel
theorem d_Fo_giveAsChosen_13 : decode m_Fo_giveAsChosen.2.1 13 = .ok (.invokevirtual 119, 3) := by decide +kernel
theorem d_Fo_giveAsChosen_16 : decode m_Fo_giveAsChosen.2.1 16 = .ok (.istore_n 3, 1) := by decide +kernel
theorem d_Fo_giveAsChosen_17 : decode m_Fo_giveAsChosen.2.1 17 = .ok (.aload_n 0, 1) := by decide +kernel
theorem d_Fo_giveAsChosen_18 : decode m_Fo_giveAsChosen.2.1 18 = .ok (.getfield 15, 3) := by decide +kernel
theorem d_Fo_giveAsChosen_21 : decode m_Fo_giveAsChosen.2.1 21 = .ok (.iload_n 2, 1) := by decide +kernel
theorem d_Fo_giveAsChosen_22 : decode m_Fo_giveAsChosen.2.1 22 = .ok (.iaload, 1) := by decide +kernel
theorem d_Fo_giveAsChosen_23 : decode m_Fo_giveAsChosen.2.1 23 = .ok (.iconst (-1), 1) := by decide +kernel
theorem d_Fo_giveAsChosen_24 : decode m_Fo_giveAsChosen.2.1 24 = .ok (.if_icmp .eq 22, 3) := by decide +kernel
theorem d_Fo_giveAsChosen_27 : decode m_Fo_giveAsChosen.2.1 27 = .ok (.iload_n 3, 1) := by decide +kernel
theorem d_Fo_giveAsChosen_28 : decode m_Fo_giveAsChosen.2.1 28 = .ok (.iconst (-1), 1) := by decide +kernel
theorem d_Fo_giveAsChosen_29 : decode m_Fo_giveAsChosen.2.1 29 = .ok (.if_icmp .eq 17, 3) := by decide +kernel
theorem d_Fo_giveAsChosen_32 : decode m_Fo_giveAsChosen.2.1 32 = .ok (.aload_n 0, 1) := by decide +kernel
theorem d_Fo_giveAsChosen_33 : decode m_Fo_giveAsChosen.2.1 33 = .ok (.getfield 30, 3) := by decide +kernel
theorem d_Fo_giveAsChosen_36 : decode m_Fo_giveAsChosen.2.1 36 = .ok (.iload_n 3, 1) := by decide +kernel
theorem d_Fo_giveAsChosen_37 : decode m_Fo_giveAsChosen.2.1 37 = .ok (.aload_n 0, 1) := by decide +kernel
theorem d_Fo_giveAsChosen_38 : decode m_Fo_giveAsChosen.2.1 38 = .ok (.getfield 15, 3) := by decide +kernel
theorem d_Fo_giveAsChosen_41 : decode m_Fo_giveAsChosen.2.1 41 = .ok (.iload_n 2, 1) := by decide +kernel
theorem d_Fo_giveAsChosen_42 : decode m_Fo_giveAsChosen.2.1 42 = .ok (.iaload, 1) := by decide +kernel
theorem d_Fo_giveAsChosen_43 : decode m_Fo_giveAsChosen.2.1 43 = .ok (.invokevirtual 122, 3) := by decide +kernel
theorem d_Fo_giveAsChosen_46 : decode m_Fo_giveAsChosen.2.1 46 = .ok (.iinc 2 1, 3) := by decide +kernel
theorem d_Fo_giveAsChosen_49 : decode m_Fo_giveAsChosen.2.1 49 = .ok (.goto (-47), 3) := by decide +kernel
theorem d_Fo_giveAsChosen_52 : decode m_Fo_giveAsChosen.2.1 52 = .ok (.return_, 1) := by decide +kernel
theorem d_Sg_add_0 : decode m_Sg_add.2.1 0 = .ok (.aload_n 0, 1) := by decide +kernel
theorem d_Sg_add_1 : decode m_Sg_add.2.1 1 = .ok (.getfield 21, 3) := by decide +kernel
theorem d_Sg_add_4 : decode m_Sg_add.2.1 4 = .ok (.bipush 6, 2) := by decide +kernel
theorem d_Sg_add_6 : decode m_Sg_add.2.1 6 = .ok (.if_icmp .lt 5, 3) := by decide +kernel
theorem d_Sg_add_9 : decode m_Sg_add.2.1 9 = .ok (.iconst 0, 1) := by decide +kernel
theorem d_Sg_add_10 : decode m_Sg_add.2.1 10 = .ok (.ireturn, 1) := by decide +kernel
theorem d_Sg_add_11 : decode m_Sg_add.2.1 11 = .ok (.aload_n 0, 1) := by decide +kernel
theorem d_Sg_add_12 : decode m_Sg_add.2.1 12 = .ok (.getfield 11, 3) := by decide +kernel
theorem d_Sg_add_15 : decode m_Sg_add.2.1 15 = .ok (.aload_n 0, 1) := by decide +kernel
theorem d_Sg_add_16 : decode m_Sg_add.2.1 16 = .ok (.getfield 21, 3) := by decide +kernel
theorem d_Sg_add_19 : decode m_Sg_add.2.1 19 = .ok (.iload_n 1, 1) := by decide +kernel
theorem d_Sg_add_20 : decode m_Sg_add.2.1 20 = .ok (.iastore, 1) := by decide +kernel
theorem d_Sg_add_21 : decode m_Sg_add.2.1 21 = .ok (.aload_n 0, 1) := by decide +kernel
theorem d_Sg_add_22 : decode m_Sg_add.2.1 22 = .ok (.getfield 15, 3) := by decide +kernel
theorem d_Sg_add_25 : decode m_Sg_add.2.1 25 = .ok (.aload_n 0, 1) := by decide +kernel
theorem d_Sg_add_26 : decode m_Sg_add.2.1 26 = .ok (.getfield 21, 3) := by decide +kernel
theorem d_Sg_add_29 : decode m_Sg_add.2.1 29 = .ok (.iload_n 2, 1) := by decide +kernel
theorem d_Sg_add_30 : decode m_Sg_add.2.1 30 = .ok (.iastore, 1) := by decide +kernel
theorem d_Sg_add_31 : decode m_Sg_add.2.1 31 = .ok (.aload_n 0, 1) := by decide +kernel
theorem d_Sg_add_32 : decode m_Sg_add.2.1 32 = .ok (.getfield 18, 3) := by decide +kernel
theorem d_Sg_add_35 : decode m_Sg_add.2.1 35 = .ok (.aload_n 0, 1) := by decide +kernel
theorem d_Sg_add_36 : decode m_Sg_add.2.1 36 = .ok (.getfield 21, 3) := by decide +kernel
theorem d_Sg_add_39 : decode m_Sg_add.2.1 39 = .ok (.iload_n 3, 1) := by decide +kernel
theorem d_Sg_add_40 : decode m_Sg_add.2.1 40 = .ok (.iastore, 1) := by decide +kernel
theorem d_Sg_add_41 : decode m_Sg_add.2.1 41 = .ok (.aload_n 0, 1) := by decide +kernel
theorem d_Sg_add_42 : decode m_Sg_add.2.1 42 = .ok (.dup, 1) := by decide +kernel
theorem d_Sg_add_43 : decode m_Sg_add.2.1 43 = .ok (.getfield 21, 3) := by decide +kernel
theorem d_Sg_add_46 : decode m_Sg_add.2.1 46 = .ok (.iconst 1, 1) := by decide +kernel
theorem d_Sg_add_47 : decode m_Sg_add.2.1 47 = .ok (.iadd, 1) := by decide +kernel
theorem d_Sg_add_48 : decode m_Sg_add.2.1 48 = .ok (.putfield 21, 3) := by decide +kernel
theorem d_Sg_add_51 : decode m_Sg_add.2.1 51 = .ok (.iconst 1, 1) := by decide +kernel
theorem d_Sg_add_52 : decode m_Sg_add.2.1 52 = .ok (.ireturn, 1) := by decide +kernel
theorem d_Sg_possibleKinds_0 : decode m_Sg_possibleKinds.2.1 0 = .ok (.iconst 0, 1) := by decide +kernel
theorem d_Sg_possibleKinds_1 : decode m_Sg_possibleKinds.2.1 1 = .ok (.istore_n 1, 1) := by decide +kernel
theorem d_Sg_possibleKinds_2 : decode m_Sg_possibleKinds.2.1 2 = .ok (.iconst 0, 1) := by decide +kernel
theorem d_Sg_possibleKinds_3 : decode m_Sg_possibleKinds.2.1 3 = .ok (.istore_n 2, 1) := by decide +kernel
theorem d_Sg_possibleKinds_4 : decode m_Sg_possibleKinds.2.1 4 = .ok (.iload_n 2, 1) := by decide +kernel
theorem d_Sg_possibleKinds_5 : decode m_Sg_possibleKinds.2.1 5 = .ok (.iconst 5, 1) := by decide +kernel
theorem d_Sg_possibleKinds_6 : decode m_Sg_possibleKinds.2.1 6 = .ok (.if_icmp .ge 23, 3) := by decide +kernel
theorem d_Sg_possibleKinds_9 : decode m_Sg_possibleKinds.2.1 9 = .ok (.aload_n 0, 1) := by decide +kernel
theorem d_Sg_possibleKinds_10 : decode m_Sg_possibleKinds.2.1 10 = .ok (.iload_n 2, 1) := by decide +kernel
theorem d_Sg_possibleKinds_11 : decode m_Sg_possibleKinds.2.1 11 = .ok (.invokevirtual 27, 3) := by decide +kernel
theorem d_Sg_possibleKinds_14 : decode m_Sg_possibleKinds.2.1 14 = .ok (.ifCond .eq 9, 3) := by decide +kernel
theorem d_Sg_possibleKinds_17 : decode m_Sg_possibleKinds.2.1 17 = .ok (.iload_n 1, 1) := by decide +kernel
theorem d_Sg_possibleKinds_18 : decode m_Sg_possibleKinds.2.1 18 = .ok (.iconst 1, 1) := by decide +kernel
theorem d_Sg_possibleKinds_19 : decode m_Sg_possibleKinds.2.1 19 = .ok (.iload_n 2, 1) := by decide +kernel
theorem d_Sg_possibleKinds_20 : decode m_Sg_possibleKinds.2.1 20 = .ok (.ishl, 1) := by decide +kernel
theorem d_Sg_possibleKinds_21 : decode m_Sg_possibleKinds.2.1 21 = .ok (.ior, 1) := by decide +kernel
theorem d_Sg_possibleKinds_22 : decode m_Sg_possibleKinds.2.1 22 = .ok (.istore_n 1, 1) := by decide +kernel
theorem d_Sg_possibleKinds_23 : decode m_Sg_possibleKinds.2.1 23 = .ok (.iinc 2 1, 3) := by decide +kernel
theorem d_Sg_possibleKinds_26 : decode m_Sg_possibleKinds.2.1 26 = .ok (.goto (-22), 3) := by decide +kernel
theorem d_Sg_possibleKinds_29 : decode m_Sg_possibleKinds.2.1 29 = .ok (.iload_n 1, 1) := by decide +kernel
theorem d_Sg_possibleKinds_30 : decode m_Sg_possibleKinds.2.1 30 = .ok (.ireturn, 1) := by decide +kernel
theorem d_Sg_fitsAll_0 : decode m_Sg_fitsAll.2.1 0 = .ok (.iconst 0, 1) := by decide +kernel
theorem d_Sg_fitsAll_1 : decode m_Sg_fitsAll.2.1 1 = .ok (.istore_n 2, 1) := by decide +kernel
theorem d_Sg_fitsAll_2 : decode m_Sg_fitsAll.2.1 2 = .ok (.iload_n 2, 1) := by decide +kernel
theorem d_Sg_fitsAll_3 : decode m_Sg_fitsAll.2.1 3 = .ok (.aload_n 0, 1) := by decide +kernel
theorem d_Sg_fitsAll_4 : decode m_Sg_fitsAll.2.1 4 = .ok (.getfield 21, 3) := by decide +kernel
theorem d_Sg_fitsAll_7 : decode m_Sg_fitsAll.2.1 7 = .ok (.if_icmp .ge 37, 3) := by decide +kernel
theorem d_Sg_fitsAll_10 : decode m_Sg_fitsAll.2.1 10 = .ok (.iload_n 1, 1) := by decide +kernel
theorem d_Sg_fitsAll_11 : decode m_Sg_fitsAll.2.1 11 = .ok (.aload_n 0, 1) := by decide +kernel
theorem d_Sg_fitsAll_12 : decode m_Sg_fitsAll.2.1 12 = .ok (.getfield 11, 3) := by decide +kernel
theorem d_Sg_fitsAll_15 : decode m_Sg_fitsAll.2.1 15 = .ok (.iload_n 2, 1) := by decide +kernel
theorem d_Sg_fitsAll_16 : decode m_Sg_fitsAll.2.1 16 = .ok (.iaload, 1) := by decide +kernel
theorem d_Sg_fitsAll_17 : decode m_Sg_fitsAll.2.1 17 = .ok (.invokestatic 31, 3) := by decide +kernel
theorem d_Sg_fitsAll_20 : decode m_Sg_fitsAll.2.1 20 = .ok (.aload_n 0, 1) := by decide +kernel
theorem d_Sg_fitsAll_21 : decode m_Sg_fitsAll.2.1 21 = .ok (.getfield 15, 3) := by decide +kernel
theorem d_Sg_fitsAll_24 : decode m_Sg_fitsAll.2.1 24 = .ok (.iload_n 2, 1) := by decide +kernel
theorem d_Sg_fitsAll_25 : decode m_Sg_fitsAll.2.1 25 = .ok (.iaload, 1) := by decide +kernel
theorem d_Sg_fitsAll_26 : decode m_Sg_fitsAll.2.1 26 = .ok (.imul, 1) := by decide +kernel
theorem d_Sg_fitsAll_27 : decode m_Sg_fitsAll.2.1 27 = .ok (.aload_n 0, 1) := by decide +kernel
theorem d_Sg_fitsAll_28 : decode m_Sg_fitsAll.2.1 28 = .ok (.getfield 18, 3) := by decide +kernel
theorem d_Sg_fitsAll_31 : decode m_Sg_fitsAll.2.1 31 = .ok (.iload_n 2, 1) := by decide +kernel
theorem d_Sg_fitsAll_32 : decode m_Sg_fitsAll.2.1 32 = .ok (.iaload, 1) := by decide +kernel
theorem d_Sg_fitsAll_33 : decode m_Sg_fitsAll.2.1 33 = .ok (.if_icmp .eq 5, 3) := by decide +kernel
theorem d_Sg_fitsAll_36 : decode m_Sg_fitsAll.2.1 36 = .ok (.iconst 0, 1) := by decide +kernel
theorem d_Sg_fitsAll_37 : decode m_Sg_fitsAll.2.1 37 = .ok (.ireturn, 1) := by decide +kernel
theorem d_Sg_fitsAll_38 : decode m_Sg_fitsAll.2.1 38 = .ok (.iinc 2 1, 3) := by decide +kernel
theorem d_Sg_fitsAll_41 : decode m_Sg_fitsAll.2.1 41 = .ok (.goto (-39), 3) := by decide +kernel
theorem d_Sg_fitsAll_44 : decode m_Sg_fitsAll.2.1 44 = .ok (.iconst 1, 1) := by decide +kernel
theorem d_Sg_fitsAll_45 : decode m_Sg_fitsAll.2.1 45 = .ok (.ireturn, 1) := by decide +kernel
theorem d_Sg_bestStrength_0 : decode m_Sg_bestStrength.2.1 0 = .ok (.iconst (-1), 1) := by decide +kernel
theorem d_Sg_bestStrength_1 : decode m_Sg_bestStrength.2.1 1 = .ok (.istore_n 1, 1) := by decide +kernel
theorem d_Sg_bestStrength_2 : decode m_Sg_bestStrength.2.1 2 = .ok (.iload_n 0, 1) := by decide +kernel
theorem d_Sg_bestStrength_3 : decode m_Sg_bestStrength.2.1 3 = .ok (.invokestatic 35, 3) := by decide +kernel
theorem d_Sg_bestStrength_6 : decode m_Sg_bestStrength.2.1 6 = .ok (.istore_n 2, 1) := by decide +kernel
theorem d_Sg_bestStrength_7 : decode m_Sg_bestStrength.2.1 7 = .ok (.iconst 1, 1) := by decide +kernel
theorem d_Sg_bestStrength_8 : decode m_Sg_bestStrength.2.1 8 = .ok (.istore_n 3, 1) := by decide +kernel
theorem d_Sg_bestStrength_9 : decode m_Sg_bestStrength.2.1 9 = .ok (.iload_n 3, 1) := by decide +kernel
theorem d_Sg_bestStrength_10 : decode m_Sg_bestStrength.2.1 10 = .ok (.bipush 9, 2) := by decide +kernel
theorem d_Sg_bestStrength_12 : decode m_Sg_bestStrength.2.1 12 = .ok (.if_icmp .gt 27, 3) := by decide +kernel
theorem d_Sg_bestStrength_15 : decode m_Sg_bestStrength.2.1 15 = .ok (.iload_n 0, 1) := by decide +kernel
theorem d_Sg_bestStrength_16 : decode m_Sg_bestStrength.2.1 16 = .ok (.iload_n 3, 1) := by decide +kernel
theorem d_Sg_bestStrength_17 : decode m_Sg_bestStrength.2.1 17 = .ok (.invokestatic 41, 3) := by decide +kernel
theorem d_Sg_bestStrength_20 : decode m_Sg_bestStrength.2.1 20 = .ok (.istore 4, 2) := by decide +kernel
theorem d_Sg_bestStrength_22 : decode m_Sg_bestStrength.2.1 22 = .ok (.iload 4, 2) := by decide +kernel
theorem d_Sg_bestStrength_24 : decode m_Sg_bestStrength.2.1 24 = .ok (.iload_n 2, 1) := by decide +kernel
theorem d_Sg_bestStrength_25 : decode m_Sg_bestStrength.2.1 25 = .ok (.if_icmp .ge 8, 3) := by decide +kernel
theorem d_Sg_bestStrength_28 : decode m_Sg_bestStrength.2.1 28 = .ok (.iload 4, 2) := by decide +kernel
theorem d_Sg_bestStrength_30 : decode m_Sg_bestStrength.2.1 30 = .ok (.istore_n 2, 1) := by decide +kernel
theorem d_Sg_bestStrength_31 : decode m_Sg_bestStrength.2.1 31 = .ok (.iload_n 3, 1) := by decide +kernel
theorem d_Sg_bestStrength_32 : decode m_Sg_bestStrength.2.1 32 = .ok (.istore_n 1, 1) := by decide +kernel
theorem d_Sg_bestStrength_33 : decode m_Sg_bestStrength.2.1 33 = .ok (.iinc 3 1, 3) := by decide +kernel
theorem d_Sg_bestStrength_36 : decode m_Sg_bestStrength.2.1 36 = .ok (.goto (-27), 3) := by decide +kernel
theorem d_Sg_bestStrength_39 : decode m_Sg_bestStrength.2.1 39 = .ok (.iload_n 1, 1) := by decide +kernel
theorem d_Sg_bestStrength_40 : decode m_Sg_bestStrength.2.1 40 = .ok (.ireturn, 1) := by decide +kernel
theorem d_Sg_greatestAlike_0 : decode m_Sg_greatestAlike.2.1 0 = .ok (.iconst 0, 1) := by decide +kernel
theorem d_Sg_greatestAlike_1 : decode m_Sg_greatestAlike.2.1 1 = .ok (.istore_n 2, 1) := by decide +kernel
theorem d_Sg_greatestAlike_2 : decode m_Sg_greatestAlike.2.1 2 = .ok (.iconst 0, 1) := by decide +kernel
theorem d_Sg_greatestAlike_3 : decode m_Sg_greatestAlike.2.1 3 = .ok (.istore_n 3, 1) := by decide +kernel
theorem d_Sg_greatestAlike_4 : decode m_Sg_greatestAlike.2.1 4 = .ok (.iload_n 3, 1) := by decide +kernel
theorem d_Sg_greatestAlike_5 : decode m_Sg_greatestAlike.2.1 5 = .ok (.iconst 5, 1) := by decide +kernel
theorem d_Sg_greatestAlike_6 : decode m_Sg_greatestAlike.2.1 6 = .ok (.if_icmp .ge 80, 3) := by decide +kernel
theorem d_Sg_greatestAlike_9 : decode m_Sg_greatestAlike.2.1 9 = .ok (.iconst 0, 1) := by decide +kernel
theorem d_Sg_greatestAlike_10 : decode m_Sg_greatestAlike.2.1 10 = .ok (.istore 4, 2) := by decide +kernel
theorem d_Sg_greatestAlike_12 : decode m_Sg_greatestAlike.2.1 12 = .ok (.iconst 0, 1) := by decide +kernel
theorem d_Sg_greatestAlike_13 : decode m_Sg_greatestAlike.2.1 13 = .ok (.istore 5, 2) := by decide +kernel
theorem d_Sg_greatestAlike_15 : decode m_Sg_greatestAlike.2.1 15 = .ok (.iload 5, 2) := by decide +kernel
theorem d_Sg_greatestAlike_17 : decode m_Sg_greatestAlike.2.1 17 = .ok (.iconst 5, 1) := by decide +kernel
theorem d_Sg_greatestAlike_18 : decode m_Sg_greatestAlike.2.1 18 = .ok (.if_icmp .ge 55, 3) := by decide +kernel
theorem d_Sg_greatestAlike_21 : decode m_Sg_greatestAlike.2.1 21 = .ok (.iload_n 0, 1) := by decide +kernel
theorem d_Sg_greatestAlike_22 : decode m_Sg_greatestAlike.2.1 22 = .ok (.iload_n 3, 1) := by decide +kernel
theorem d_Sg_greatestAlike_23 : decode m_Sg_greatestAlike.2.1 23 = .ok (.ishr, 1) := by decide +kernel
theorem d_Sg_greatestAlike_24 : decode m_Sg_greatestAlike.2.1 24 = .ok (.iconst 1, 1) := by decide +kernel
theorem d_Sg_greatestAlike_25 : decode m_Sg_greatestAlike.2.1 25 = .ok (.iand, 1) := by decide +kernel
theorem d_Sg_greatestAlike_26 : decode m_Sg_greatestAlike.2.1 26 = .ok (.ifCond .eq 16, 3) := by decide +kernel
theorem d_Sg_greatestAlike_29 : decode m_Sg_greatestAlike.2.1 29 = .ok (.iload_n 0, 1) := by decide +kernel
theorem d_Sg_greatestAlike_30 : decode m_Sg_greatestAlike.2.1 30 = .ok (.iload 5, 2) := by decide +kernel
theorem d_Sg_greatestAlike_32 : decode m_Sg_greatestAlike.2.1 32 = .ok (.ishr, 1) := by decide +kernel
theorem d_Sg_greatestAlike_33 : decode m_Sg_greatestAlike.2.1 33 = .ok (.iconst 1, 1) := by decide +kernel
theorem d_Sg_greatestAlike_34 : decode m_Sg_greatestAlike.2.1 34 = .ok (.iand, 1) := by decide +kernel
theorem d_Sg_greatestAlike_35 : decode m_Sg_greatestAlike.2.1 35 = .ok (.ifCond .eq 7, 3) := by decide +kernel
theorem d_Sg_greatestAlike_38 : decode m_Sg_greatestAlike.2.1 38 = .ok (.iconst 1, 1) := by decide +kernel
theorem d_Sg_greatestAlike_39 : decode m_Sg_greatestAlike.2.1 39 = .ok (.goto 4, 3) := by decide +kernel
theorem d_Sg_greatestAlike_42 : decode m_Sg_greatestAlike.2.1 42 = .ok (.iconst 0, 1) := by decide +kernel
theorem d_Sg_greatestAlike_43 : decode m_Sg_greatestAlike.2.1 43 = .ok (.istore 6, 2) := by decide +kernel
theorem d_Sg_greatestAlike_45 : decode m_Sg_greatestAlike.2.1 45 = .ok (.iload 6, 2) := by decide +kernel
theorem d_Sg_greatestAlike_47 : decode m_Sg_greatestAlike.2.1 47 = .ok (.ifCond .eq 20, 3) := by decide +kernel
theorem d_Sg_greatestAlike_50 : decode m_Sg_greatestAlike.2.1 50 = .ok (.iload_n 3, 1) := by decide +kernel
theorem d_Sg_greatestAlike_51 : decode m_Sg_greatestAlike.2.1 51 = .ok (.iload_n 1, 1) := by decide +kernel
theorem d_Sg_greatestAlike_52 : decode m_Sg_greatestAlike.2.1 52 = .ok (.invokestatic 31, 3) := by decide +kernel
theorem d_Sg_greatestAlike_55 : decode m_Sg_greatestAlike.2.1 55 = .ok (.iload 5, 2) := by decide +kernel
theorem d_Sg_greatestAlike_57 : decode m_Sg_greatestAlike.2.1 57 = .ok (.iload_n 1, 1) := by decide +kernel
theorem d_Sg_greatestAlike_58 : decode m_Sg_greatestAlike.2.1 58 = .ok (.invokestatic 31, 3) := by decide +kernel
theorem d_Sg_greatestAlike_61 : decode m_Sg_greatestAlike.2.1 61 = .ok (.if_icmp .ne 6, 3) := by decide +kernel
theorem d_Sg_greatestAlike_64 : decode m_Sg_greatestAlike.2.1 64 = .ok (.iinc 4 1, 3) := by decide +kernel
theorem d_Sg_greatestAlike_67 : decode m_Sg_greatestAlike.2.1 67 = .ok (.iinc 5 1, 3) := by decide +kernel
theorem d_Sg_greatestAlike_70 : decode m_Sg_greatestAlike.2.1 70 = .ok (.goto (-55), 3) := by decide +kernel
theorem d_Sg_greatestAlike_73 : decode m_Sg_greatestAlike.2.1 73 = .ok (.iload_n 2, 1) := by decide +kernel
theorem d_Sg_greatestAlike_74 : decode m_Sg_greatestAlike.2.1 74 = .ok (.iload 4, 2) := by decide +kernel
theorem d_Sg_greatestAlike_76 : decode m_Sg_greatestAlike.2.1 76 = .ok (.invokestatic 44, 3) := by decide +kernel
theorem d_Sg_greatestAlike_79 : decode m_Sg_greatestAlike.2.1 79 = .ok (.istore_n 2, 1) := by decide +kernel
theorem d_Sg_greatestAlike_80 : decode m_Sg_greatestAlike.2.1 80 = .ok (.iinc 3 1, 3) := by decide +kernel
theorem d_Sg_greatestAlike_83 : decode m_Sg_greatestAlike.2.1 83 = .ok (.goto (-79), 3) := by decide +kernel
theorem d_Sg_greatestAlike_86 : decode m_Sg_greatestAlike.2.1 86 = .ok (.iload_n 2, 1) := by decide +kernel
theorem d_Sg_greatestAlike_87 : decode m_Sg_greatestAlike.2.1 87 = .ok (.ireturn, 1) := by decide +kernel
theorem d_Rg_init_0 : decode m_Rg_init.2.1 0 = .ok (.aload_n 0, 1) := by decide +kernel
theorem d_Rg_init_1 : decode m_Rg_init.2.1 1 = .ok (.invokespecial 1, 3) := by decide +kernel
theorem d_Rg_init_4 : decode m_Rg_init.2.1 4 = .ok (.aload_n 0, 1) := by decide +kernel
theorem d_Rg_init_5 : decode m_Rg_init.2.1 5 = .ok (.iload_n 1, 1) := by decide +kernel
theorem d_Rg_init_6 : decode m_Rg_init.2.1 6 = .ok (.iconst 0, 1) := by decide +kernel
theorem d_Rg_init_7 : decode m_Rg_init.2.1 7 = .ok (.invokestatic 7, 3) := by decide +kernel
theorem d_Rg_init_10 : decode m_Rg_init.2.1 10 = .ok (.anewarray 13, 3) := by decide +kernel
theorem d_Rg_init_13 : decode m_Rg_init.2.1 13 = .ok (.putfield 15, 3) := by decide +kernel
theorem d_Rg_init_16 : decode m_Rg_init.2.1 16 = .ok (.return_, 1) := by decide +kernel
theorem d_Rg_hasPlace_0 : decode m_Rg_hasPlace.2.1 0 = .ok (.iload_n 1, 1) := by decide +kernel
theorem d_Rg_hasPlace_1 : decode m_Rg_hasPlace.2.1 1 = .ok (.iconst 0, 1) := by decide +kernel
theorem d_Rg_hasPlace_2 : decode m_Rg_hasPlace.2.1 2 = .ok (.aload_n 0, 1) := by decide +kernel
theorem d_Rg_hasPlace_3 : decode m_Rg_hasPlace.2.1 3 = .ok (.getfield 15, 3) := by decide +kernel
theorem d_Rg_hasPlace_6 : decode m_Rg_hasPlace.2.1 6 = .ok (.arraylength, 1) := by decide +kernel
theorem d_Rg_hasPlace_7 : decode m_Rg_hasPlace.2.1 7 = .ok (.iconst 1, 1) := by decide +kernel
theorem d_Rg_hasPlace_8 : decode m_Rg_hasPlace.2.1 8 = .ok (.isub, 1) := by decide +kernel
theorem d_Rg_hasPlace_9 : decode m_Rg_hasPlace.2.1 9 = .ok (.invokestatic 21, 3) := by decide +kernel
theorem d_Rg_hasPlace_12 : decode m_Rg_hasPlace.2.1 12 = .ok (.ireturn, 1) := by decide +kernel
theorem d_Pg_init_0 : decode m_Pg_init.2.1 0 = .ok (.aload_n 0, 1) := by decide +kernel
theorem d_Pg_init_1 : decode m_Pg_init.2.1 1 = .ok (.invokespecial 1, 3) := by decide +kernel
theorem d_Pg_init_4 : decode m_Pg_init.2.1 4 = .ok (.iload_n 1, 1) := by decide +kernel
theorem d_Pg_init_5 : decode m_Pg_init.2.1 5 = .ok (.iconst 0, 1) := by decide +kernel
theorem d_Pg_init_6 : decode m_Pg_init.2.1 6 = .ok (.invokestatic 7, 3) := by decide +kernel
theorem d_Pg_init_9 : decode m_Pg_init.2.1 9 = .ok (.istore_n 2, 1) := by decide +kernel
theorem d_Pg_init_10 : decode m_Pg_init.2.1 10 = .ok (.aload_n 0, 1) := by decide +kernel
theorem d_Pg_init_11 : decode m_Pg_init.2.1 11 = .ok (.iload_n 2, 1) := by decide +kernel
theorem d_Pg_init_12 : decode m_Pg_init.2.1 12 = .ok (.newarray .int, 2) := by decide +kernel
theorem d_Pg_init_14 : decode m_Pg_init.2.1 14 = .ok (.putfield 13, 3) := by decide +kernel
theorem d_Pg_init_17 : decode m_Pg_init.2.1 17 = .ok (.aload_n 0, 1) := by decide +kernel
theorem d_Pg_init_18 : decode m_Pg_init.2.1 18 = .ok (.iload_n 2, 1) := by decide +kernel
theorem d_Pg_init_19 : decode m_Pg_init.2.1 19 = .ok (.newarray .int, 2) := by decide +kernel
theorem d_Pg_init_21 : decode m_Pg_init.2.1 21 = .ok (.putfield 19, 3) := by decide +kernel
theorem d_Pg_init_24 : decode m_Pg_init.2.1 24 = .ok (.iconst 0, 1) := by decide +kernel
theorem d_Pg_init_25 : decode m_Pg_init.2.1 25 = .ok (.istore_n 3, 1) := by decide +kernel
theorem d_Pg_init_26 : decode m_Pg_init.2.1 26 = .ok (.iload_n 3, 1) := by decide +kernel
theorem d_Pg_init_27 : decode m_Pg_init.2.1 27 = .ok (.iload_n 2, 1) := by decide +kernel
theorem d_Pg_init_28 : decode m_Pg_init.2.1 28 = .ok (.if_icmp .ge 16, 3) := by decide +kernel
theorem d_Pg_init_31 : decode m_Pg_init.2.1 31 = .ok (.aload_n 0, 1) := by decide +kernel
theorem d_Pg_init_32 : decode m_Pg_init.2.1 32 = .ok (.getfield 13, 3) := by decide +kernel
theorem d_Pg_init_35 : decode m_Pg_init.2.1 35 = .ok (.iload_n 3, 1) := by decide +kernel
theorem d_Pg_init_36 : decode m_Pg_init.2.1 36 = .ok (.iconst 2, 1) := by decide +kernel
theorem d_Pg_init_37 : decode m_Pg_init.2.1 37 = .ok (.iastore, 1) := by decide +kernel
theorem d_Pg_init_38 : decode m_Pg_init.2.1 38 = .ok (.iinc 3 1, 3) := by decide +kernel
theorem d_Pg_init_41 : decode m_Pg_init.2.1 41 = .ok (.goto (-15), 3) := by decide +kernel
theorem d_Pg_init_44 : decode m_Pg_init.2.1 44 = .ok (.return_, 1) := by decide +kernel
theorem d_Sh_flawOfPlaces_0 : decode m_Sh_flawOfPlaces.2.1 0 = .ok (.aload_n 0, 1) := by decide +kernel
theorem d_Sh_flawOfPlaces_1 : decode m_Sh_flawOfPlaces.2.1 1 = .ok (.getfield 13, 3) := by decide +kernel
theorem d_Sh_flawOfPlaces_4 : decode m_Sh_flawOfPlaces.2.1 4 = .ok (.iload_n 1, 1) := by decide +kernel
theorem d_Sh_flawOfPlaces_5 : decode m_Sh_flawOfPlaces.2.1 5 = .ok (.aaload, 1) := by decide +kernel
theorem d_Sh_flawOfPlaces_6 : decode m_Sh_flawOfPlaces.2.1 6 = .ok (.astore 5, 2) := by decide +kernel
theorem d_Sh_flawOfPlaces_8 : decode m_Sh_flawOfPlaces.2.1 8 = .ok (.aload_n 0, 1) := by decide +kernel
theorem d_Sh_flawOfPlaces_9 : decode m_Sh_flawOfPlaces.2.1 9 = .ok (.getfield 13, 3) := by decide +kernel
theorem d_Sh_flawOfPlaces_12 : decode m_Sh_flawOfPlaces.2.1 12 = .ok (.iload_n 3, 1) := by decide +kernel
theorem d_Sh_flawOfPlaces_13 : decode m_Sh_flawOfPlaces.2.1 13 = .ok (.aaload, 1) := by decide +kernel
theorem d_Sh_flawOfPlaces_14 : decode m_Sh_flawOfPlaces.2.1 14 = .ok (.astore 6, 2) := by decide +kernel
theorem d_Sh_flawOfPlaces_16 : decode m_Sh_flawOfPlaces.2.1 16 = .ok (.aload 5, 2) := by decide +kernel
theorem d_Sh_flawOfPlaces_18 : decode m_Sh_flawOfPlaces.2.1 18 = .ok (.ifnull 8, 3) := by decide +kernel
theorem d_Sh_flawOfPlaces_21 : decode m_Sh_flawOfPlaces.2.1 21 = .ok (.aload 6, 2) := by decide +kernel
theorem d_Sh_flawOfPlaces_23 : decode m_Sh_flawOfPlaces.2.1 23 = .ok (.ifnonnull 6, 3) := by decide +kernel
theorem d_Sh_flawOfPlaces_26 : decode m_Sh_flawOfPlaces.2.1 26 = .ok (.bipush (-11), 2) := by decide +kernel
theorem d_Sh_flawOfPlaces_28 : decode m_Sh_flawOfPlaces.2.1 28 = .ok (.ireturn, 1) := by decide +kernel
theorem d_Sh_flawOfPlaces_29 : decode m_Sh_flawOfPlaces.2.1 29 = .ok (.aload 5, 2) := by decide +kernel
theorem d_Sh_flawOfPlaces_31 : decode m_Sh_flawOfPlaces.2.1 31 = .ok (.iload_n 2, 1) := by decide +kernel
theorem d_Sh_flawOfPlaces_32 : decode m_Sh_flawOfPlaces.2.1 32 = .ok (.invokevirtual 17, 3) := by decide +kernel
theorem d_Sh_flawOfPlaces_35 : decode m_Sh_flawOfPlaces.2.1 35 = .ok (.ifCond .eq 17, 3) := by decide +kernel
theorem d_Sh_flawOfPlaces_38 : decode m_Sh_flawOfPlaces.2.1 38 = .ok (.aload 6, 2) := by decide +kernel
theorem d_Sh_flawOfPlaces_40 : decode m_Sh_flawOfPlaces.2.1 40 = .ok (.iload 4, 2) := by decide +kernel
theorem d_Sh_flawOfPlaces_42 : decode m_Sh_flawOfPlaces.2.1 42 = .ok (.invokevirtual 17, 3) := by decide +kernel
theorem d_Sh_flawOfPlaces_45 : decode m_Sh_flawOfPlaces.2.1 45 = .ok (.ifCond .eq 7, 3) := by decide +kernel
theorem d_Sh_flawOfPlaces_48 : decode m_Sh_flawOfPlaces.2.1 48 = .ok (.iconst 0, 1) := by decide +kernel
theorem d_Sh_flawOfPlaces_49 : decode m_Sh_flawOfPlaces.2.1 49 = .ok (.goto 5, 3) := by decide +kernel
theorem d_Sh_flawOfPlaces_52 : decode m_Sh_flawOfPlaces.2.1 52 = .ok (.bipush (-12), 2) := by decide +kernel
theorem d_Sh_flawOfPlaces_54 : decode m_Sh_flawOfPlaces.2.1 54 = .ok (.ireturn, 1) := by decide +kernel
theorem d_Sh_flawOfLine_0 : decode m_Sh_flawOfLine.2.1 0 = .ok (.aload_n 0, 1) := by decide +kernel
theorem d_Sh_flawOfLine_1 : decode m_Sh_flawOfLine.2.1 1 = .ok (.iload_n 1, 1) := by decide +kernel
theorem d_Sh_flawOfLine_2 : decode m_Sh_flawOfLine.2.1 2 = .ok (.iload_n 2, 1) := by decide +kernel
theorem d_Sh_flawOfLine_3 : decode m_Sh_flawOfLine.2.1 3 = .ok (.iload_n 1, 1) := by decide +kernel
theorem d_Sh_flawOfLine_4 : decode m_Sh_flawOfLine.2.1 4 = .ok (.iload_n 2, 1) := by decide +kernel
theorem d_Sh_flawOfLine_5 : decode m_Sh_flawOfLine.2.1 5 = .ok (.invokevirtual 21, 3) := by decide +kernel
theorem d_Sh_flawOfLine_8 : decode m_Sh_flawOfLine.2.1 8 = .ok (.istore 4, 2) := by decide +kernel
theorem d_Sh_flawOfLine_10 : decode m_Sh_flawOfLine.2.1 10 = .ok (.iload 4, 2) := by decide +kernel
theorem d_Sh_flawOfLine_12 : decode m_Sh_flawOfLine.2.1 12 = .ok (.ifCond .eq 6, 3) := by decide +kernel
theorem d_Sh_flawOfLine_15 : decode m_Sh_flawOfLine.2.1 15 = .ok (.iload 4, 2) := by decide +kernel
theorem d_Sh_flawOfLine_17 : decode m_Sh_flawOfLine.2.1 17 = .ok (.ireturn, 1) := by decide +kernel
theorem d_Sh_flawOfLine_18 : decode m_Sh_flawOfLine.2.1 18 = .ok (.aload_n 0, 1) := by decide +kernel
theorem d_Sh_flawOfLine_19 : decode m_Sh_flawOfLine.2.1 19 = .ok (.getfield 13, 3) := by decide +kernel
theorem d_Sh_flawOfLine_22 : decode m_Sh_flawOfLine.2.1 22 = .ok (.iload_n 1, 1) := by decide +kernel
theorem d_Sh_flawOfLine_23 : decode m_Sh_flawOfLine.2.1 23 = .ok (.aaload, 1) := by decide +kernel
theorem d_Sh_flawOfLine_24 : decode m_Sh_flawOfLine.2.1 24 = .ok (.getfield 25, 3) := by decide +kernel
theorem d_Sh_flawOfLine_27 : decode m_Sh_flawOfLine.2.1 27 = .ok (.iload_n 2, 1) := by decide +kernel
theorem d_Sh_flawOfLine_28 : decode m_Sh_flawOfLine.2.1 28 = .ok (.aaload, 1) := by decide +kernel
theorem d_Sh_flawOfLine_29 : decode m_Sh_flawOfLine.2.1 29 = .ok (.astore 5, 2) := by decide +kernel
theorem d_Sh_flawOfLine_31 : decode m_Sh_flawOfLine.2.1 31 = .ok (.aload 5, 2) := by decide +kernel
theorem d_Sh_flawOfLine_33 : decode m_Sh_flawOfLine.2.1 33 = .ok (.ifnonnull 6, 3) := by decide +kernel
theorem d_Sh_flawOfLine_36 : decode m_Sh_flawOfLine.2.1 36 = .ok (.bipush (-13), 2) := by decide +kernel
theorem d_Sh_flawOfLine_38 : decode m_Sh_flawOfLine.2.1 38 = .ok (.ireturn, 1) := by decide +kernel
theorem d_Sh_flawOfLine_39 : decode m_Sh_flawOfLine.2.1 39 = .ok (.iload_n 3, 1) := by decide +kernel
theorem d_Sh_flawOfLine_40 : decode m_Sh_flawOfLine.2.1 40 = .ok (.iconst 0, 1) := by decide +kernel
theorem d_Sh_flawOfLine_41 : decode m_Sh_flawOfLine.2.1 41 = .ok (.aload 5, 2) := by decide +kernel
theorem d_Sh_flawOfLine_43 : decode m_Sh_flawOfLine.2.1 43 = .ok (.getfield 29, 3) := by decide +kernel
theorem d_Sh_flawOfLine_46 : decode m_Sh_flawOfLine.2.1 46 = .ok (.arraylength, 1) := by decide +kernel
theorem d_Sh_flawOfLine_47 : decode m_Sh_flawOfLine.2.1 47 = .ok (.iconst 1, 1) := by decide +kernel
theorem d_Sh_flawOfLine_48 : decode m_Sh_flawOfLine.2.1 48 = .ok (.isub, 1) := by decide +kernel
theorem d_Sh_flawOfLine_49 : decode m_Sh_flawOfLine.2.1 49 = .ok (.invokestatic 35, 3) := by decide +kernel
theorem d_Sh_flawOfLine_52 : decode m_Sh_flawOfLine.2.1 52 = .ok (.ifCond .eq 7, 3) := by decide +kernel
theorem d_Sh_flawOfLine_55 : decode m_Sh_flawOfLine.2.1 55 = .ok (.iconst 0, 1) := by decide +kernel
theorem d_Sh_flawOfLine_56 : decode m_Sh_flawOfLine.2.1 56 = .ok (.goto 5, 3) := by decide +kernel
theorem d_Sh_flawOfLine_59 : decode m_Sh_flawOfLine.2.1 59 = .ok (.bipush (-14), 2) := by decide +kernel
theorem d_Sh_flawOfLine_61 : decode m_Sh_flawOfLine.2.1 61 = .ok (.ireturn, 1) := by decide +kernel
theorem d_Pg_put_0 : decode m_Pg_put.2.1 0 = .ok (.aload_n 0, 1) := by decide +kernel
theorem d_Pg_put_1 : decode m_Pg_put.2.1 1 = .ok (.getfield 13, 3) := by decide +kernel
theorem d_Pg_put_4 : decode m_Pg_put.2.1 4 = .ok (.iload_n 1, 1) := by decide +kernel
theorem d_Pg_put_5 : decode m_Pg_put.2.1 5 = .ok (.iload_n 2, 1) := by decide +kernel
theorem d_Pg_put_6 : decode m_Pg_put.2.1 6 = .ok (.iastore, 1) := by decide +kernel
theorem d_Pg_put_7 : decode m_Pg_put.2.1 7 = .ok (.aload_n 0, 1) := by decide +kernel
theorem d_Pg_put_8 : decode m_Pg_put.2.1 8 = .ok (.getfield 19, 3) := by decide +kernel
theorem d_Pg_put_11 : decode m_Pg_put.2.1 11 = .ok (.iload_n 1, 1) := by decide +kernel
theorem d_Pg_put_12 : decode m_Pg_put.2.1 12 = .ok (.iload_n 3, 1) := by decide +kernel
theorem d_Pg_put_13 : decode m_Pg_put.2.1 13 = .ok (.iastore, 1) := by decide +kernel
theorem d_Pg_put_14 : decode m_Pg_put.2.1 14 = .ok (.return_, 1) := by decide +kernel
theorem d_Rg_pagesThere_0 : decode m_Rg_pagesThere.2.1 0 = .ok (.iconst 0, 1) := by decide +kernel
theorem d_Rg_pagesThere_1 : decode m_Rg_pagesThere.2.1 1 = .ok (.istore_n 1, 1) := by decide +kernel
theorem d_Rg_pagesThere_2 : decode m_Rg_pagesThere.2.1 2 = .ok (.iconst 0, 1) := by decide +kernel
theorem d_Rg_pagesThere_3 : decode m_Rg_pagesThere.2.1 3 = .ok (.istore_n 2, 1) := by decide +kernel
theorem d_Rg_pagesThere_4 : decode m_Rg_pagesThere.2.1 4 = .ok (.iload_n 2, 1) := by decide +kernel
theorem d_Rg_pagesThere_5 : decode m_Rg_pagesThere.2.1 5 = .ok (.aload_n 0, 1) := by decide +kernel
theorem d_Rg_pagesThere_6 : decode m_Rg_pagesThere.2.1 6 = .ok (.getfield 15, 3) := by decide +kernel
theorem d_Rg_pagesThere_9 : decode m_Rg_pagesThere.2.1 9 = .ok (.arraylength, 1) := by decide +kernel
theorem d_Rg_pagesThere_10 : decode m_Rg_pagesThere.2.1 10 = .ok (.if_icmp .ge 21, 3) := by decide +kernel
theorem d_Rg_pagesThere_13 : decode m_Rg_pagesThere.2.1 13 = .ok (.aload_n 0, 1) := by decide +kernel
theorem d_Rg_pagesThere_14 : decode m_Rg_pagesThere.2.1 14 = .ok (.getfield 15, 3) := by decide +kernel
theorem d_Rg_pagesThere_17 : decode m_Rg_pagesThere.2.1 17 = .ok (.iload_n 2, 1) := by decide +kernel
theorem d_Rg_pagesThere_18 : decode m_Rg_pagesThere.2.1 18 = .ok (.aaload, 1) := by decide +kernel
theorem d_Rg_pagesThere_19 : decode m_Rg_pagesThere.2.1 19 = .ok (.ifnull 6, 3) := by decide +kernel
theorem d_Rg_pagesThere_22 : decode m_Rg_pagesThere.2.1 22 = .ok (.iinc 1 1, 3) := by decide +kernel
theorem d_Rg_pagesThere_25 : decode m_Rg_pagesThere.2.1 25 = .ok (.iinc 2 1, 3) := by decide +kernel
theorem d_Rg_pagesThere_28 : decode m_Rg_pagesThere.2.1 28 = .ok (.goto (-24), 3) := by decide +kernel
theorem d_Rg_pagesThere_31 : decode m_Rg_pagesThere.2.1 31 = .ok (.iload_n 1, 1) := by decide +kernel
theorem d_Rg_pagesThere_32 : decode m_Rg_pagesThere.2.1 32 = .ok (.ireturn, 1) := by decide +kernel
theorem d_Rg_unlikePages_0 : decode m_Rg_unlikePages.2.1 0 = .ok (.iconst 0, 1) := by decide +kernel
theorem d_Rg_unlikePages_1 : decode m_Rg_unlikePages.2.1 1 = .ok (.istore_n 1, 1) := by decide +kernel
theorem d_Rg_unlikePages_2 : decode m_Rg_unlikePages.2.1 2 = .ok (.iconst 0, 1) := by decide +kernel
theorem d_Rg_unlikePages_3 : decode m_Rg_unlikePages.2.1 3 = .ok (.istore_n 2, 1) := by decide +kernel
theorem d_Rg_unlikePages_4 : decode m_Rg_unlikePages.2.1 4 = .ok (.iload_n 2, 1) := by decide +kernel
theorem d_Rg_unlikePages_5 : decode m_Rg_unlikePages.2.1 5 = .ok (.aload_n 0, 1) := by decide +kernel
theorem d_Rg_unlikePages_6 : decode m_Rg_unlikePages.2.1 6 = .ok (.getfield 15, 3) := by decide +kernel
theorem d_Rg_unlikePages_9 : decode m_Rg_unlikePages.2.1 9 = .ok (.arraylength, 1) := by decide +kernel
theorem d_Rg_unlikePages_10 : decode m_Rg_unlikePages.2.1 10 = .ok (.if_icmp .ge 20, 3) := by decide +kernel
theorem d_Rg_unlikePages_13 : decode m_Rg_unlikePages.2.1 13 = .ok (.aload_n 0, 1) := by decide +kernel
theorem d_Rg_unlikePages_14 : decode m_Rg_unlikePages.2.1 14 = .ok (.iload_n 2, 1) := by decide +kernel
theorem d_Rg_unlikePages_15 : decode m_Rg_unlikePages.2.1 15 = .ok (.invokevirtual 27, 3) := by decide +kernel
theorem d_Rg_unlikePages_18 : decode m_Rg_unlikePages.2.1 18 = .ok (.ifCond .eq 6, 3) := by decide +kernel
theorem d_Rg_unlikePages_21 : decode m_Rg_unlikePages.2.1 21 = .ok (.iinc 1 1, 3) := by decide +kernel
theorem d_Rg_unlikePages_24 : decode m_Rg_unlikePages.2.1 24 = .ok (.iinc 2 1, 3) := by decide +kernel
theorem d_Rg_unlikePages_27 : decode m_Rg_unlikePages.2.1 27 = .ok (.goto (-23), 3) := by decide +kernel
theorem d_Rg_unlikePages_30 : decode m_Rg_unlikePages.2.1 30 = .ok (.iload_n 1, 1) := by decide +kernel
theorem d_Rg_unlikePages_31 : decode m_Rg_unlikePages.2.1 31 = .ok (.ireturn, 1) := by decide +kernel
theorem d_Rg_isFirstOfItsPage_0 : decode m_Rg_isFirstOfItsPage.2.1 0 = .ok (.iconst 0, 1) := by decide +kernel
theorem d_Rg_isFirstOfItsPage_1 : decode m_Rg_isFirstOfItsPage.2.1 1 = .ok (.istore_n 2, 1) := by decide +kernel
theorem d_Rg_isFirstOfItsPage_2 : decode m_Rg_isFirstOfItsPage.2.1 2 = .ok (.iload_n 2, 1) := by decide +kernel
theorem d_Rg_isFirstOfItsPage_3 : decode m_Rg_isFirstOfItsPage.2.1 3 = .ok (.iload_n 1, 1) := by decide +kernel
theorem d_Rg_isFirstOfItsPage_4 : decode m_Rg_isFirstOfItsPage.2.1 4 = .ok (.if_icmp .ge 26, 3) := by decide +kernel
theorem d_Rg_isFirstOfItsPage_7 : decode m_Rg_isFirstOfItsPage.2.1 7 = .ok (.aload_n 0, 1) := by decide +kernel
theorem d_Rg_isFirstOfItsPage_8 : decode m_Rg_isFirstOfItsPage.2.1 8 = .ok (.getfield 15, 3) := by decide +kernel
theorem d_Rg_isFirstOfItsPage_11 : decode m_Rg_isFirstOfItsPage.2.1 11 = .ok (.iload_n 2, 1) := by decide +kernel
theorem d_Rg_isFirstOfItsPage_12 : decode m_Rg_isFirstOfItsPage.2.1 12 = .ok (.aaload, 1) := by decide +kernel
theorem d_Rg_isFirstOfItsPage_13 : decode m_Rg_isFirstOfItsPage.2.1 13 = .ok (.aload_n 0, 1) := by decide +kernel
theorem d_Rg_isFirstOfItsPage_14 : decode m_Rg_isFirstOfItsPage.2.1 14 = .ok (.getfield 15, 3) := by decide +kernel
theorem d_Rg_isFirstOfItsPage_17 : decode m_Rg_isFirstOfItsPage.2.1 17 = .ok (.iload_n 1, 1) := by decide +kernel
theorem d_Rg_isFirstOfItsPage_18 : decode m_Rg_isFirstOfItsPage.2.1 18 = .ok (.aaload, 1) := by decide +kernel
theorem d_Rg_isFirstOfItsPage_19 : decode m_Rg_isFirstOfItsPage.2.1 19 = .ok (.if_acmp .ne 5, 3) := by decide +kernel
theorem d_Rg_isFirstOfItsPage_22 : decode m_Rg_isFirstOfItsPage.2.1 22 = .ok (.iconst 0, 1) := by decide +kernel
theorem d_Rg_isFirstOfItsPage_23 : decode m_Rg_isFirstOfItsPage.2.1 23 = .ok (.ireturn, 1) := by decide +kernel
theorem d_Rg_isFirstOfItsPage_24 : decode m_Rg_isFirstOfItsPage.2.1 24 = .ok (.iinc 2 1, 3) := by decide +kernel
theorem d_Rg_isFirstOfItsPage_27 : decode m_Rg_isFirstOfItsPage.2.1 27 = .ok (.goto (-25), 3) := by decide +kernel
theorem d_Rg_isFirstOfItsPage_30 : decode m_Rg_isFirstOfItsPage.2.1 30 = .ok (.aload_n 0, 1) := by decide +kernel
theorem d_Rg_isFirstOfItsPage_31 : decode m_Rg_isFirstOfItsPage.2.1 31 = .ok (.getfield 15, 3) := by decide +kernel
theorem d_Rg_isFirstOfItsPage_34 : decode m_Rg_isFirstOfItsPage.2.1 34 = .ok (.iload_n 1, 1) := by decide +kernel
theorem d_Rg_isFirstOfItsPage_35 : decode m_Rg_isFirstOfItsPage.2.1 35 = .ok (.aaload, 1) := by decide +kernel
theorem d_Rg_isFirstOfItsPage_36 : decode m_Rg_isFirstOfItsPage.2.1 36 = .ok (.ifnull 7, 3) := by decide +kernel
theorem d_Rg_isFirstOfItsPage_39 : decode m_Rg_isFirstOfItsPage.2.1 39 = .ok (.iconst 1, 1) := by decide +kernel
theorem d_Rg_isFirstOfItsPage_40 : decode m_Rg_isFirstOfItsPage.2.1 40 = .ok (.goto 4, 3) := by decide +kernel
theorem d_Rg_isFirstOfItsPage_43 : decode m_Rg_isFirstOfItsPage.2.1 43 = .ok (.iconst 0, 1) := by decide +kernel
theorem d_Rg_isFirstOfItsPage_44 : decode m_Rg_isFirstOfItsPage.2.1 44 = .ok (.ireturn, 1) := by decide +kernel
theorem d_Rg_filledLines_0 : decode m_Rg_filledLines.2.1 0 = .ok (.iconst 0, 1) := by decide +kernel
theorem d_Rg_filledLines_1 : decode m_Rg_filledLines.2.1 1 = .ok (.istore_n 1, 1) := by decide +kernel
theorem d_Rg_filledLines_2 : decode m_Rg_filledLines.2.1 2 = .ok (.iconst 0, 1) := by decide +kernel
theorem d_Rg_filledLines_3 : decode m_Rg_filledLines.2.1 3 = .ok (.istore_n 2, 1) := by decide +kernel
theorem d_Rg_filledLines_4 : decode m_Rg_filledLines.2.1 4 = .ok (.iload_n 2, 1) := by decide +kernel
theorem d_Rg_filledLines_5 : decode m_Rg_filledLines.2.1 5 = .ok (.aload_n 0, 1) := by decide +kernel
theorem d_Rg_filledLines_6 : decode m_Rg_filledLines.2.1 6 = .ok (.getfield 15, 3) := by decide +kernel
theorem d_Rg_filledLines_9 : decode m_Rg_filledLines.2.1 9 = .ok (.arraylength, 1) := by decide +kernel
theorem d_Rg_filledLines_10 : decode m_Rg_filledLines.2.1 10 = .ok (.if_icmp .ge 29, 3) := by decide +kernel
theorem d_Rg_filledLines_13 : decode m_Rg_filledLines.2.1 13 = .ok (.aload_n 0, 1) := by decide +kernel
theorem d_Rg_filledLines_14 : decode m_Rg_filledLines.2.1 14 = .ok (.iload_n 2, 1) := by decide +kernel
theorem d_Rg_filledLines_15 : decode m_Rg_filledLines.2.1 15 = .ok (.invokevirtual 27, 3) := by decide +kernel
theorem d_Rg_filledLines_18 : decode m_Rg_filledLines.2.1 18 = .ok (.ifCond .eq 15, 3) := by decide +kernel
theorem d_Rg_filledLines_21 : decode m_Rg_filledLines.2.1 21 = .ok (.iload_n 1, 1) := by decide +kernel
theorem d_Rg_filledLines_22 : decode m_Rg_filledLines.2.1 22 = .ok (.aload_n 0, 1) := by decide +kernel
theorem d_Rg_filledLines_23 : decode m_Rg_filledLines.2.1 23 = .ok (.getfield 15, 3) := by decide +kernel
theorem d_Rg_filledLines_26 : decode m_Rg_filledLines.2.1 26 = .ok (.iload_n 2, 1) := by decide +kernel
theorem d_Rg_filledLines_27 : decode m_Rg_filledLines.2.1 27 = .ok (.aaload, 1) := by decide +kernel
theorem d_Rg_filledLines_28 : decode m_Rg_filledLines.2.1 28 = .ok (.invokevirtual 31, 3) := by decide +kernel
theorem d_Rg_filledLines_31 : decode m_Rg_filledLines.2.1 31 = .ok (.iadd, 1) := by decide +kernel
theorem d_Rg_filledLines_32 : decode m_Rg_filledLines.2.1 32 = .ok (.istore_n 1, 1) := by decide +kernel
theorem d_Rg_filledLines_33 : decode m_Rg_filledLines.2.1 33 = .ok (.iinc 2 1, 3) := by decide +kernel
theorem d_Rg_filledLines_36 : decode m_Rg_filledLines.2.1 36 = .ok (.goto (-32), 3) := by decide +kernel
theorem d_Rg_filledLines_39 : decode m_Rg_filledLines.2.1 39 = .ok (.iload_n 1, 1) := by decide +kernel
theorem d_Rg_filledLines_40 : decode m_Rg_filledLines.2.1 40 = .ok (.ireturn, 1) := by decide +kernel
theorem d_Pg_filled_0 : decode m_Pg_filled.2.1 0 = .ok (.iconst 0, 1) := by decide +kernel
theorem d_Pg_filled_1 : decode m_Pg_filled.2.1 1 = .ok (.istore_n 1, 1) := by decide +kernel
theorem d_Pg_filled_2 : decode m_Pg_filled.2.1 2 = .ok (.iconst 0, 1) := by decide +kernel
theorem d_Pg_filled_3 : decode m_Pg_filled.2.1 3 = .ok (.istore_n 2, 1) := by decide +kernel
theorem d_Pg_filled_4 : decode m_Pg_filled.2.1 4 = .ok (.iload_n 2, 1) := by decide +kernel
theorem d_Pg_filled_5 : decode m_Pg_filled.2.1 5 = .ok (.aload_n 0, 1) := by decide +kernel
theorem d_Pg_filled_6 : decode m_Pg_filled.2.1 6 = .ok (.getfield 13, 3) := by decide +kernel
theorem d_Pg_filled_9 : decode m_Pg_filled.2.1 9 = .ok (.arraylength, 1) := by decide +kernel
theorem d_Pg_filled_10 : decode m_Pg_filled.2.1 10 = .ok (.if_icmp .ge 22, 3) := by decide +kernel
theorem d_Pg_filled_13 : decode m_Pg_filled.2.1 13 = .ok (.aload_n 0, 1) := by decide +kernel
theorem d_Pg_filled_14 : decode m_Pg_filled.2.1 14 = .ok (.getfield 13, 3) := by decide +kernel
theorem d_Pg_filled_17 : decode m_Pg_filled.2.1 17 = .ok (.iload_n 2, 1) := by decide +kernel
theorem d_Pg_filled_18 : decode m_Pg_filled.2.1 18 = .ok (.iaload, 1) := by decide +kernel
theorem d_Pg_filled_19 : decode m_Pg_filled.2.1 19 = .ok (.iconst 2, 1) := by decide +kernel
theorem d_Pg_filled_20 : decode m_Pg_filled.2.1 20 = .ok (.if_icmp .eq 6, 3) := by decide +kernel
theorem d_Pg_filled_23 : decode m_Pg_filled.2.1 23 = .ok (.iinc 1 1, 3) := by decide +kernel
theorem d_Pg_filled_26 : decode m_Pg_filled.2.1 26 = .ok (.iinc 2 1, 3) := by decide +kernel
theorem d_Pg_filled_29 : decode m_Pg_filled.2.1 29 = .ok (.goto (-25), 3) := by decide +kernel
theorem d_Pg_filled_32 : decode m_Pg_filled.2.1 32 = .ok (.iload_n 1, 1) := by decide +kernel
theorem d_Pg_filled_33 : decode m_Pg_filled.2.1 33 = .ok (.ireturn, 1) := by decide +kernel
theorem d_Sh_registersThere_0 : decode m_Sh_registersThere.2.1 0 = .ok (.iconst 0, 1) := by decide +kernel
theorem d_Sh_registersThere_1 : decode m_Sh_registersThere.2.1 1 = .ok (.istore_n 1, 1) := by decide +kernel
theorem d_Sh_registersThere_2 : decode m_Sh_registersThere.2.1 2 = .ok (.iconst 0, 1) := by decide +kernel
theorem d_Sh_registersThere_3 : decode m_Sh_registersThere.2.1 3 = .ok (.istore_n 2, 1) := by decide +kernel
theorem d_Sh_registersThere_4 : decode m_Sh_registersThere.2.1 4 = .ok (.iload_n 2, 1) := by decide +kernel
theorem d_Sh_registersThere_5 : decode m_Sh_registersThere.2.1 5 = .ok (.iconst 3, 1) := by decide +kernel
theorem d_Sh_registersThere_6 : decode m_Sh_registersThere.2.1 6 = .ok (.if_icmp .ge 21, 3) := by decide +kernel
theorem d_Sh_registersThere_9 : decode m_Sh_registersThere.2.1 9 = .ok (.aload_n 0, 1) := by decide +kernel
theorem d_Sh_registersThere_10 : decode m_Sh_registersThere.2.1 10 = .ok (.getfield 13, 3) := by decide +kernel
theorem d_Sh_registersThere_13 : decode m_Sh_registersThere.2.1 13 = .ok (.iload_n 2, 1) := by decide +kernel
theorem d_Sh_registersThere_14 : decode m_Sh_registersThere.2.1 14 = .ok (.aaload, 1) := by decide +kernel
theorem d_Sh_registersThere_15 : decode m_Sh_registersThere.2.1 15 = .ok (.ifnull 6, 3) := by decide +kernel
theorem d_Sh_registersThere_18 : decode m_Sh_registersThere.2.1 18 = .ok (.iinc 1 1, 3) := by decide +kernel
theorem d_Sh_registersThere_21 : decode m_Sh_registersThere.2.1 21 = .ok (.iinc 2 1, 3) := by decide +kernel
theorem d_Sh_registersThere_24 : decode m_Sh_registersThere.2.1 24 = .ok (.goto (-20), 3) := by decide +kernel
theorem d_Sh_registersThere_27 : decode m_Sh_registersThere.2.1 27 = .ok (.iload_n 1, 1) := by decide +kernel
theorem d_Sh_registersThere_28 : decode m_Sh_registersThere.2.1 28 = .ok (.ireturn, 1) := by decide +kernel
