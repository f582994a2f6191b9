theorem d_St_init_0 : decode m_St_init.2.1 0 = .ok (.aload_n 0, 1) := by decide +kernel
theorem d_St_init_1 : decode m_St_init.2.1 1 = .ok (.invokespecial 3, 3) := by decide +kernel
theorem d_St_init_4 : decode m_St_init.2.1 4 = .ok (.aload_n 0, 1) := by decide +kernel
theorem d_St_init_5 : decode m_St_init.2.1 5 = .ok (.iconst 5, 1) := by decide +kernel
theorem d_St_init_6 : decode m_St_init.2.1 6 = .ok (.newarray .int, 2) := by decide +kernel
theorem d_St_init_8 : decode m_St_init.2.1 8 = .ok (.putfield 9, 3) := by decide +kernel
theorem d_St_init_11 : decode m_St_init.2.1 11 = .ok (.aload_n 0, 1) := by decide +kernel
theorem d_St_init_12 : decode m_St_init.2.1 12 = .ok (.bipush 10, 2) := by decide +kernel
theorem d_St_init_14 : decode m_St_init.2.1 14 = .ok (.newarray .int, 2) := by decide +kernel
theorem d_St_init_16 : decode m_St_init.2.1 16 = .ok (.putfield 15, 3) := by decide +kernel
theorem d_St_init_19 : decode m_St_init.2.1 19 = .ok (.aload_n 0, 1) := by decide +kernel
theorem d_St_init_20 : decode m_St_init.2.1 20 = .ok (.bipush 10, 2) := by decide +kernel
theorem d_St_init_22 : decode m_St_init.2.1 22 = .ok (.newarray .int, 2) := by decide +kernel
theorem d_St_init_24 : decode m_St_init.2.1 24 = .ok (.putfield 18, 3) := by decide +kernel
theorem d_St_init_27 : decode m_St_init.2.1 27 = .ok (.aload_n 0, 1) := by decide +kernel
theorem d_St_init_28 : decode m_St_init.2.1 28 = .ok (.bipush 10, 2) := by decide +kernel
theorem d_St_init_30 : decode m_St_init.2.1 30 = .ok (.newarray .int, 2) := by decide +kernel
theorem d_St_init_32 : decode m_St_init.2.1 32 = .ok (.putfield 21, 3) := by decide +kernel
theorem d_St_init_35 : decode m_St_init.2.1 35 = .ok (.aload_n 0, 1) := by decide +kernel
theorem d_St_init_36 : decode m_St_init.2.1 36 = .ok (.bipush 10, 2) := by decide +kernel
theorem d_St_init_38 : decode m_St_init.2.1 38 = .ok (.newarray .int, 2) := by decide +kernel
theorem d_St_init_40 : decode m_St_init.2.1 40 = .ok (.putfield 24, 3) := by decide +kernel
theorem d_St_init_43 : decode m_St_init.2.1 43 = .ok (.aload_n 0, 1) := by decide +kernel
theorem d_St_init_44 : decode m_St_init.2.1 44 = .ok (.aload_n 1, 1) := by decide +kernel
theorem d_St_init_45 : decode m_St_init.2.1 45 = .ok (.putfield 27, 3) := by decide +kernel
theorem d_St_init_48 : decode m_St_init.2.1 48 = .ok (.return_, 1) := by decide +kernel
theorem d_Ps_init_0 : decode m_Ps_init.2.1 0 = .ok (.aload_n 0, 1) := by decide +kernel
theorem d_Ps_init_1 : decode m_Ps_init.2.1 1 = .ok (.invokespecial 1, 3) := by decide +kernel
theorem d_Ps_init_4 : decode m_Ps_init.2.1 4 = .ok (.aload_n 0, 1) := by decide +kernel
theorem d_Ps_init_5 : decode m_Ps_init.2.1 5 = .ok (.bipush 8, 2) := by decide +kernel
theorem d_Ps_init_7 : decode m_Ps_init.2.1 7 = .ok (.anewarray 9, 3) := by decide +kernel
theorem d_Ps_init_10 : decode m_Ps_init.2.1 10 = .ok (.putfield 11, 3) := by decide +kernel
theorem d_Ps_init_13 : decode m_Ps_init.2.1 13 = .ok (.iconst 0, 1) := by decide +kernel
theorem d_Ps_init_14 : decode m_Ps_init.2.1 14 = .ok (.istore_n 2, 1) := by decide +kernel
theorem d_Ps_init_15 : decode m_Ps_init.2.1 15 = .ok (.iload_n 2, 1) := by decide +kernel
theorem d_Ps_init_16 : decode m_Ps_init.2.1 16 = .ok (.bipush 8, 2) := by decide +kernel
theorem d_Ps_init_18 : decode m_Ps_init.2.1 18 = .ok (.if_icmp .ge 23, 3) := by decide +kernel
theorem d_Ps_init_21 : decode m_Ps_init.2.1 21 = .ok (.aload_n 0, 1) := by decide +kernel
theorem d_Ps_init_22 : decode m_Ps_init.2.1 22 = .ok (.getfield 11, 3) := by decide +kernel
theorem d_Ps_init_25 : decode m_Ps_init.2.1 25 = .ok (.iload_n 2, 1) := by decide +kernel
theorem d_Ps_init_26 : decode m_Ps_init.2.1 26 = .ok (.new 9, 3) := by decide +kernel
theorem d_Ps_init_29 : decode m_Ps_init.2.1 29 = .ok (.dup, 1) := by decide +kernel
theorem d_Ps_init_30 : decode m_Ps_init.2.1 30 = .ok (.aload_n 1, 1) := by decide +kernel
theorem d_Ps_init_31 : decode m_Ps_init.2.1 31 = .ok (.invokespecial 15, 3) := by decide +kernel
theorem d_Ps_init_34 : decode m_Ps_init.2.1 34 = .ok (.aastore, 1) := by decide +kernel
theorem d_Ps_init_35 : decode m_Ps_init.2.1 35 = .ok (.iinc 2 1, 3) := by decide +kernel
theorem d_Ps_init_38 : decode m_Ps_init.2.1 38 = .ok (.goto (-23), 3) := by decide +kernel
theorem d_Ps_init_41 : decode m_Ps_init.2.1 41 = .ok (.return_, 1) := by decide +kernel
theorem d_St_setAsTold_0 : decode m_St_setAsTold.2.1 0 = .ok (.aload_n 0, 1) := by decide +kernel
theorem d_St_setAsTold_1 : decode m_St_setAsTold.2.1 1 = .ok (.getfield 27, 3) := by decide +kernel
theorem d_St_setAsTold_4 : decode m_St_setAsTold.2.1 4 = .ok (.getfield 31, 3) := by decide +kernel
theorem d_St_setAsTold_7 : decode m_St_setAsTold.2.1 7 = .ok (.iconst 0, 1) := by decide +kernel
theorem d_St_setAsTold_8 : decode m_St_setAsTold.2.1 8 = .ok (.aload_n 0, 1) := by decide +kernel
theorem d_St_setAsTold_9 : decode m_St_setAsTold.2.1 9 = .ok (.getfield 9, 3) := by decide +kernel
theorem d_St_setAsTold_12 : decode m_St_setAsTold.2.1 12 = .ok (.iconst 0, 1) := by decide +kernel
theorem d_St_setAsTold_13 : decode m_St_setAsTold.2.1 13 = .ok (.iconst 5, 1) := by decide +kernel
theorem d_St_setAsTold_14 : decode m_St_setAsTold.2.1 14 = .ok (.invokestatic 34, 3) := by decide +kernel
theorem d_St_setAsTold_17 : decode m_St_setAsTold.2.1 17 = .ok (.aload_n 0, 1) := by decide +kernel
theorem d_St_setAsTold_18 : decode m_St_setAsTold.2.1 18 = .ok (.getfield 27, 3) := by decide +kernel
theorem d_St_setAsTold_21 : decode m_St_setAsTold.2.1 21 = .ok (.getfield 40, 3) := by decide +kernel
theorem d_St_setAsTold_24 : decode m_St_setAsTold.2.1 24 = .ok (.iconst 0, 1) := by decide +kernel
theorem d_St_setAsTold_25 : decode m_St_setAsTold.2.1 25 = .ok (.aload_n 0, 1) := by decide +kernel
theorem d_St_setAsTold_26 : decode m_St_setAsTold.2.1 26 = .ok (.getfield 15, 3) := by decide +kernel
theorem d_St_setAsTold_29 : decode m_St_setAsTold.2.1 29 = .ok (.iconst 0, 1) := by decide +kernel
theorem d_St_setAsTold_30 : decode m_St_setAsTold.2.1 30 = .ok (.bipush 10, 2) := by decide +kernel
theorem d_St_setAsTold_32 : decode m_St_setAsTold.2.1 32 = .ok (.invokestatic 34, 3) := by decide +kernel
theorem d_St_setAsTold_35 : decode m_St_setAsTold.2.1 35 = .ok (.aload_n 0, 1) := by decide +kernel
theorem d_St_setAsTold_36 : decode m_St_setAsTold.2.1 36 = .ok (.getfield 27, 3) := by decide +kernel
theorem d_St_setAsTold_39 : decode m_St_setAsTold.2.1 39 = .ok (.getfield 41, 3) := by decide +kernel
theorem d_St_setAsTold_42 : decode m_St_setAsTold.2.1 42 = .ok (.iconst 0, 1) := by decide +kernel
theorem d_St_setAsTold_43 : decode m_St_setAsTold.2.1 43 = .ok (.aload_n 0, 1) := by decide +kernel
theorem d_St_setAsTold_44 : decode m_St_setAsTold.2.1 44 = .ok (.getfield 21, 3) := by decide +kernel
theorem d_St_setAsTold_47 : decode m_St_setAsTold.2.1 47 = .ok (.iconst 0, 1) := by decide +kernel
theorem d_St_setAsTold_48 : decode m_St_setAsTold.2.1 48 = .ok (.bipush 10, 2) := by decide +kernel
theorem d_St_setAsTold_50 : decode m_St_setAsTold.2.1 50 = .ok (.invokestatic 34, 3) := by decide +kernel
theorem d_St_setAsTold_53 : decode m_St_setAsTold.2.1 53 = .ok (.iconst 0, 1) := by decide +kernel
theorem d_St_setAsTold_54 : decode m_St_setAsTold.2.1 54 = .ok (.istore_n 1, 1) := by decide +kernel
theorem d_St_setAsTold_55 : decode m_St_setAsTold.2.1 55 = .ok (.iload_n 1, 1) := by decide +kernel
theorem d_St_setAsTold_56 : decode m_St_setAsTold.2.1 56 = .ok (.bipush 10, 2) := by decide +kernel
theorem d_St_setAsTold_58 : decode m_St_setAsTold.2.1 58 = .ok (.if_icmp .ge 23, 3) := by decide +kernel
theorem d_St_setAsTold_61 : decode m_St_setAsTold.2.1 61 = .ok (.aload_n 0, 1) := by decide +kernel
theorem d_St_setAsTold_62 : decode m_St_setAsTold.2.1 62 = .ok (.getfield 18, 3) := by decide +kernel
theorem d_St_setAsTold_65 : decode m_St_setAsTold.2.1 65 = .ok (.iload_n 1, 1) := by decide +kernel
theorem d_St_setAsTold_66 : decode m_St_setAsTold.2.1 66 = .ok (.iconst 0, 1) := by decide +kernel
theorem d_St_setAsTold_67 : decode m_St_setAsTold.2.1 67 = .ok (.iastore, 1) := by decide +kernel
theorem d_St_setAsTold_68 : decode m_St_setAsTold.2.1 68 = .ok (.aload_n 0, 1) := by decide +kernel
theorem d_St_setAsTold_69 : decode m_St_setAsTold.2.1 69 = .ok (.getfield 24, 3) := by decide +kernel
theorem d_St_setAsTold_72 : decode m_St_setAsTold.2.1 72 = .ok (.iload_n 1, 1) := by decide +kernel
theorem d_St_setAsTold_73 : decode m_St_setAsTold.2.1 73 = .ok (.iload_n 1, 1) := by decide +kernel
theorem d_St_setAsTold_74 : decode m_St_setAsTold.2.1 74 = .ok (.iastore, 1) := by decide +kernel
theorem d_St_setAsTold_75 : decode m_St_setAsTold.2.1 75 = .ok (.iinc 1 1, 3) := by decide +kernel
theorem d_St_setAsTold_78 : decode m_St_setAsTold.2.1 78 = .ok (.goto (-23), 3) := by decide +kernel
theorem d_St_setAsTold_81 : decode m_St_setAsTold.2.1 81 = .ok (.aload_n 0, 1) := by decide +kernel
theorem d_St_setAsTold_82 : decode m_St_setAsTold.2.1 82 = .ok (.iconst 0, 1) := by decide +kernel
theorem d_St_setAsTold_83 : decode m_St_setAsTold.2.1 83 = .ok (.putfield 42, 3) := by decide +kernel
theorem d_St_setAsTold_86 : decode m_St_setAsTold.2.1 86 = .ok (.aload_n 0, 1) := by decide +kernel
theorem d_St_setAsTold_87 : decode m_St_setAsTold.2.1 87 = .ok (.iconst 0, 1) := by decide +kernel
theorem d_St_setAsTold_88 : decode m_St_setAsTold.2.1 88 = .ok (.putfield 46, 3) := by decide +kernel
theorem d_St_setAsTold_91 : decode m_St_setAsTold.2.1 91 = .ok (.return_, 1) := by decide +kernel
theorem d_St_howManyHeldBy_0 : decode m_St_howManyHeldBy.2.1 0 = .ok (.iconst 0, 1) := by decide +kernel
theorem d_St_howManyHeldBy_1 : decode m_St_howManyHeldBy.2.1 1 = .ok (.istore_n 2, 1) := by decide +kernel
theorem d_St_howManyHeldBy_2 : decode m_St_howManyHeldBy.2.1 2 = .ok (.iconst 0, 1) := by decide +kernel
theorem d_St_howManyHeldBy_3 : decode m_St_howManyHeldBy.2.1 3 = .ok (.istore_n 3, 1) := by decide +kernel
theorem d_St_howManyHeldBy_4 : decode m_St_howManyHeldBy.2.1 4 = .ok (.iload_n 3, 1) := by decide +kernel
theorem d_St_howManyHeldBy_5 : decode m_St_howManyHeldBy.2.1 5 = .ok (.aload_n 0, 1) := by decide +kernel
theorem d_St_howManyHeldBy_6 : decode m_St_howManyHeldBy.2.1 6 = .ok (.getfield 27, 3) := by decide +kernel
theorem d_St_howManyHeldBy_9 : decode m_St_howManyHeldBy.2.1 9 = .ok (.getfield 67, 3) := by decide +kernel
theorem d_St_howManyHeldBy_12 : decode m_St_howManyHeldBy.2.1 12 = .ok (.if_icmp .ge 22, 3) := by decide +kernel
theorem d_St_howManyHeldBy_15 : decode m_St_howManyHeldBy.2.1 15 = .ok (.aload_n 0, 1) := by decide +kernel
theorem d_St_howManyHeldBy_16 : decode m_St_howManyHeldBy.2.1 16 = .ok (.getfield 21, 3) := by decide +kernel
theorem d_St_howManyHeldBy_19 : decode m_St_howManyHeldBy.2.1 19 = .ok (.iload_n 3, 1) := by decide +kernel
theorem d_St_howManyHeldBy_20 : decode m_St_howManyHeldBy.2.1 20 = .ok (.iaload, 1) := by decide +kernel
theorem d_St_howManyHeldBy_21 : decode m_St_howManyHeldBy.2.1 21 = .ok (.iload_n 1, 1) := by decide +kernel
theorem d_St_howManyHeldBy_22 : decode m_St_howManyHeldBy.2.1 22 = .ok (.if_icmp .ne 6, 3) := by decide +kernel
theorem d_St_howManyHeldBy_25 : decode m_St_howManyHeldBy.2.1 25 = .ok (.iinc 2 1, 3) := by decide +kernel
theorem d_St_howManyHeldBy_28 : decode m_St_howManyHeldBy.2.1 28 = .ok (.iinc 3 1, 3) := by decide +kernel
theorem d_St_howManyHeldBy_31 : decode m_St_howManyHeldBy.2.1 31 = .ok (.goto (-27), 3) := by decide +kernel
theorem d_St_howManyHeldBy_34 : decode m_St_howManyHeldBy.2.1 34 = .ok (.iload_n 2, 1) := by decide +kernel
theorem d_St_howManyHeldBy_35 : decode m_St_howManyHeldBy.2.1 35 = .ok (.ireturn, 1) := by decide +kernel
theorem d_St_heldAt_0 : decode m_St_heldAt.2.1 0 = .ok (.iload_n 2, 1) := by decide +kernel
theorem d_St_heldAt_1 : decode m_St_heldAt.2.1 1 = .ok (.istore_n 3, 1) := by decide +kernel
theorem d_St_heldAt_2 : decode m_St_heldAt.2.1 2 = .ok (.iconst 0, 1) := by decide +kernel
theorem d_St_heldAt_3 : decode m_St_heldAt.2.1 3 = .ok (.istore 4, 2) := by decide +kernel
theorem d_St_heldAt_5 : decode m_St_heldAt.2.1 5 = .ok (.iload 4, 2) := by decide +kernel
theorem d_St_heldAt_7 : decode m_St_heldAt.2.1 7 = .ok (.aload_n 0, 1) := by decide +kernel
theorem d_St_heldAt_8 : decode m_St_heldAt.2.1 8 = .ok (.getfield 27, 3) := by decide +kernel
theorem d_St_heldAt_11 : decode m_St_heldAt.2.1 11 = .ok (.getfield 67, 3) := by decide +kernel
theorem d_St_heldAt_14 : decode m_St_heldAt.2.1 14 = .ok (.if_icmp .ge 40, 3) := by decide +kernel
theorem d_St_heldAt_17 : decode m_St_heldAt.2.1 17 = .ok (.aload_n 0, 1) := by decide +kernel
theorem d_St_heldAt_18 : decode m_St_heldAt.2.1 18 = .ok (.getfield 21, 3) := by decide +kernel
theorem d_St_heldAt_21 : decode m_St_heldAt.2.1 21 = .ok (.aload_n 0, 1) := by decide +kernel
theorem d_St_heldAt_22 : decode m_St_heldAt.2.1 22 = .ok (.getfield 24, 3) := by decide +kernel
theorem d_St_heldAt_25 : decode m_St_heldAt.2.1 25 = .ok (.iload 4, 2) := by decide +kernel
theorem d_St_heldAt_27 : decode m_St_heldAt.2.1 27 = .ok (.iaload, 1) := by decide +kernel
theorem d_St_heldAt_28 : decode m_St_heldAt.2.1 28 = .ok (.iaload, 1) := by decide +kernel
theorem d_St_heldAt_29 : decode m_St_heldAt.2.1 29 = .ok (.iload_n 1, 1) := by decide +kernel
theorem d_St_heldAt_30 : decode m_St_heldAt.2.1 30 = .ok (.if_icmp .ne 18, 3) := by decide +kernel
theorem d_St_heldAt_33 : decode m_St_heldAt.2.1 33 = .ok (.iload_n 3, 1) := by decide +kernel
theorem d_St_heldAt_34 : decode m_St_heldAt.2.1 34 = .ok (.ifCond .ne 11, 3) := by decide +kernel
theorem d_St_heldAt_37 : decode m_St_heldAt.2.1 37 = .ok (.aload_n 0, 1) := by decide +kernel
theorem d_St_heldAt_38 : decode m_St_heldAt.2.1 38 = .ok (.getfield 24, 3) := by decide +kernel
theorem d_St_heldAt_41 : decode m_St_heldAt.2.1 41 = .ok (.iload 4, 2) := by decide +kernel
theorem d_St_heldAt_43 : decode m_St_heldAt.2.1 43 = .ok (.iaload, 1) := by decide +kernel
theorem d_St_heldAt_44 : decode m_St_heldAt.2.1 44 = .ok (.ireturn, 1) := by decide +kernel
theorem d_St_heldAt_45 : decode m_St_heldAt.2.1 45 = .ok (.iinc 3 (-1), 3) := by decide +kernel
theorem d_St_heldAt_48 : decode m_St_heldAt.2.1 48 = .ok (.iinc 4 1, 3) := by decide +kernel
theorem d_St_heldAt_51 : decode m_St_heldAt.2.1 51 = .ok (.goto (-46), 3) := by decide +kernel
theorem d_St_heldAt_54 : decode m_St_heldAt.2.1 54 = .ok (.iconst (-1), 1) := by decide +kernel
theorem d_St_heldAt_55 : decode m_St_heldAt.2.1 55 = .ok (.ireturn, 1) := by decide +kernel
theorem d_St_isOpen_0 : decode m_St_isOpen.2.1 0 = .ok (.iload_n 2, 1) := by decide +kernel
theorem d_St_isOpen_1 : decode m_St_isOpen.2.1 1 = .ok (.iload_n 1, 1) := by decide +kernel
theorem d_St_isOpen_2 : decode m_St_isOpen.2.1 2 = .ok (.ishr, 1) := by decide +kernel
theorem d_St_isOpen_3 : decode m_St_isOpen.2.1 3 = .ok (.iconst 1, 1) := by decide +kernel
theorem d_St_isOpen_4 : decode m_St_isOpen.2.1 4 = .ok (.iand, 1) := by decide +kernel
theorem d_St_isOpen_5 : decode m_St_isOpen.2.1 5 = .ok (.ifCond .ne 38, 3) := by decide +kernel
theorem d_St_isOpen_8 : decode m_St_isOpen.2.1 8 = .ok (.aload_n 0, 1) := by decide +kernel
theorem d_St_isOpen_9 : decode m_St_isOpen.2.1 9 = .ok (.getfield 27, 3) := by decide +kernel
theorem d_St_isOpen_12 : decode m_St_isOpen.2.1 12 = .ok (.getfield 49, 3) := by decide +kernel
theorem d_St_isOpen_15 : decode m_St_isOpen.2.1 15 = .ok (.iload_n 1, 1) := by decide +kernel
theorem d_St_isOpen_16 : decode m_St_isOpen.2.1 16 = .ok (.iaload, 1) := by decide +kernel
theorem d_St_isOpen_17 : decode m_St_isOpen.2.1 17 = .ok (.invokestatic 52, 3) := by decide +kernel
theorem d_St_isOpen_20 : decode m_St_isOpen.2.1 20 = .ok (.ifCond .eq 23, 3) := by decide +kernel
theorem d_St_isOpen_23 : decode m_St_isOpen.2.1 23 = .ok (.aload_n 0, 1) := by decide +kernel
theorem d_St_isOpen_24 : decode m_St_isOpen.2.1 24 = .ok (.getfield 27, 3) := by decide +kernel
theorem d_St_isOpen_27 : decode m_St_isOpen.2.1 27 = .ok (.getfield 58, 3) := by decide +kernel
theorem d_St_isOpen_30 : decode m_St_isOpen.2.1 30 = .ok (.iload_n 1, 1) := by decide +kernel
theorem d_St_isOpen_31 : decode m_St_isOpen.2.1 31 = .ok (.iaload, 1) := by decide +kernel
theorem d_St_isOpen_32 : decode m_St_isOpen.2.1 32 = .ok (.iload_n 2, 1) := by decide +kernel
theorem d_St_isOpen_33 : decode m_St_isOpen.2.1 33 = .ok (.iconst (-1), 1) := by decide +kernel
theorem d_St_isOpen_34 : decode m_St_isOpen.2.1 34 = .ok (.ixor, 1) := by decide +kernel
theorem d_St_isOpen_35 : decode m_St_isOpen.2.1 35 = .ok (.iand, 1) := by decide +kernel
theorem d_St_isOpen_36 : decode m_St_isOpen.2.1 36 = .ok (.ifCond .ne 7, 3) := by decide +kernel
theorem d_St_isOpen_39 : decode m_St_isOpen.2.1 39 = .ok (.iconst 1, 1) := by decide +kernel
theorem d_St_isOpen_40 : decode m_St_isOpen.2.1 40 = .ok (.goto 4, 3) := by decide +kernel
theorem d_St_isOpen_43 : decode m_St_isOpen.2.1 43 = .ok (.iconst 0, 1) := by decide +kernel
theorem d_St_isOpen_44 : decode m_St_isOpen.2.1 44 = .ok (.ireturn, 1) := by decide +kernel
theorem d_Ps_remember_0 : decode m_Ps_remember.2.1 0 = .ok (.aload_n 0, 1) := by decide +kernel
theorem d_Ps_remember_1 : decode m_Ps_remember.2.1 1 = .ok (.getfield 11, 3) := by decide +kernel
theorem d_Ps_remember_4 : decode m_Ps_remember.2.1 4 = .ok (.aload_n 0, 1) := by decide +kernel
theorem d_Ps_remember_5 : decode m_Ps_remember.2.1 5 = .ok (.getfield 18, 3) := by decide +kernel
theorem d_Ps_remember_8 : decode m_Ps_remember.2.1 8 = .ok (.aaload, 1) := by decide +kernel
theorem d_Ps_remember_9 : decode m_Ps_remember.2.1 9 = .ok (.aload_n 1, 1) := by decide +kernel
theorem d_Ps_remember_10 : decode m_Ps_remember.2.1 10 = .ok (.invokevirtual 22, 3) := by decide +kernel
theorem d_Ps_remember_13 : decode m_Ps_remember.2.1 13 = .ok (.aload_n 0, 1) := by decide +kernel
theorem d_Ps_remember_14 : decode m_Ps_remember.2.1 14 = .ok (.aload_n 0, 1) := by decide +kernel
theorem d_Ps_remember_15 : decode m_Ps_remember.2.1 15 = .ok (.getfield 18, 3) := by decide +kernel
theorem d_Ps_remember_18 : decode m_Ps_remember.2.1 18 = .ok (.iconst 1, 1) := by decide +kernel
theorem d_Ps_remember_19 : decode m_Ps_remember.2.1 19 = .ok (.iadd, 1) := by decide +kernel
theorem d_Ps_remember_20 : decode m_Ps_remember.2.1 20 = .ok (.bipush 8, 2) := by decide +kernel
theorem d_Ps_remember_22 : decode m_Ps_remember.2.1 22 = .ok (.irem, 1) := by decide +kernel
theorem d_Ps_remember_23 : decode m_Ps_remember.2.1 23 = .ok (.putfield 18, 3) := by decide +kernel
theorem d_Ps_remember_26 : decode m_Ps_remember.2.1 26 = .ok (.aload_n 0, 1) := by decide +kernel
theorem d_Ps_remember_27 : decode m_Ps_remember.2.1 27 = .ok (.aload_n 0, 1) := by decide +kernel
theorem d_Ps_remember_28 : decode m_Ps_remember.2.1 28 = .ok (.getfield 26, 3) := by decide +kernel
theorem d_Ps_remember_31 : decode m_Ps_remember.2.1 31 = .ok (.iconst 1, 1) := by decide +kernel
theorem d_Ps_remember_32 : decode m_Ps_remember.2.1 32 = .ok (.iadd, 1) := by decide +kernel
theorem d_Ps_remember_33 : decode m_Ps_remember.2.1 33 = .ok (.bipush 8, 2) := by decide +kernel
theorem d_Ps_remember_35 : decode m_Ps_remember.2.1 35 = .ok (.invokestatic 29, 3) := by decide +kernel
theorem d_Ps_remember_38 : decode m_Ps_remember.2.1 38 = .ok (.putfield 26, 3) := by decide +kernel
theorem d_Ps_remember_41 : decode m_Ps_remember.2.1 41 = .ok (.return_, 1) := by decide +kernel
theorem d_St_copyFrom_0 : decode m_St_copyFrom.2.1 0 = .ok (.aload_n 1, 1) := by decide +kernel
theorem d_St_copyFrom_1 : decode m_St_copyFrom.2.1 1 = .ok (.getfield 9, 3) := by decide +kernel
theorem d_St_copyFrom_4 : decode m_St_copyFrom.2.1 4 = .ok (.iconst 0, 1) := by decide +kernel
theorem d_St_copyFrom_5 : decode m_St_copyFrom.2.1 5 = .ok (.aload_n 0, 1) := by decide +kernel
theorem d_St_copyFrom_6 : decode m_St_copyFrom.2.1 6 = .ok (.getfield 9, 3) := by decide +kernel
theorem d_St_copyFrom_9 : decode m_St_copyFrom.2.1 9 = .ok (.iconst 0, 1) := by decide +kernel
theorem d_St_copyFrom_10 : decode m_St_copyFrom.2.1 10 = .ok (.iconst 5, 1) := by decide +kernel
theorem d_St_copyFrom_11 : decode m_St_copyFrom.2.1 11 = .ok (.invokestatic 34, 3) := by decide +kernel
theorem d_St_copyFrom_14 : decode m_St_copyFrom.2.1 14 = .ok (.aload_n 1, 1) := by decide +kernel
theorem d_St_copyFrom_15 : decode m_St_copyFrom.2.1 15 = .ok (.getfield 15, 3) := by decide +kernel
theorem d_St_copyFrom_18 : decode m_St_copyFrom.2.1 18 = .ok (.iconst 0, 1) := by decide +kernel
theorem d_St_copyFrom_19 : decode m_St_copyFrom.2.1 19 = .ok (.aload_n 0, 1) := by decide +kernel
theorem d_St_copyFrom_20 : decode m_St_copyFrom.2.1 20 = .ok (.getfield 15, 3) := by decide +kernel
theorem d_St_copyFrom_23 : decode m_St_copyFrom.2.1 23 = .ok (.iconst 0, 1) := by decide +kernel
theorem d_St_copyFrom_24 : decode m_St_copyFrom.2.1 24 = .ok (.bipush 10, 2) := by decide +kernel
theorem d_St_copyFrom_26 : decode m_St_copyFrom.2.1 26 = .ok (.invokestatic 34, 3) := by decide +kernel
theorem d_St_copyFrom_29 : decode m_St_copyFrom.2.1 29 = .ok (.aload_n 1, 1) := by decide +kernel
theorem d_St_copyFrom_30 : decode m_St_copyFrom.2.1 30 = .ok (.getfield 18, 3) := by decide +kernel
theorem d_St_copyFrom_33 : decode m_St_copyFrom.2.1 33 = .ok (.iconst 0, 1) := by decide +kernel
theorem d_St_copyFrom_34 : decode m_St_copyFrom.2.1 34 = .ok (.aload_n 0, 1) := by decide +kernel
theorem d_St_copyFrom_35 : decode m_St_copyFrom.2.1 35 = .ok (.getfield 18, 3) := by decide +kernel
theorem d_St_copyFrom_38 : decode m_St_copyFrom.2.1 38 = .ok (.iconst 0, 1) := by decide +kernel
theorem d_St_copyFrom_39 : decode m_St_copyFrom.2.1 39 = .ok (.bipush 10, 2) := by decide +kernel
theorem d_St_copyFrom_41 : decode m_St_copyFrom.2.1 41 = .ok (.invokestatic 34, 3) := by decide +kernel
theorem d_St_copyFrom_44 : decode m_St_copyFrom.2.1 44 = .ok (.aload_n 1, 1) := by decide +kernel
theorem d_St_copyFrom_45 : decode m_St_copyFrom.2.1 45 = .ok (.getfield 21, 3) := by decide +kernel
theorem d_St_copyFrom_48 : decode m_St_copyFrom.2.1 48 = .ok (.iconst 0, 1) := by decide +kernel
theorem d_St_copyFrom_49 : decode m_St_copyFrom.2.1 49 = .ok (.aload_n 0, 1) := by decide +kernel
theorem d_St_copyFrom_50 : decode m_St_copyFrom.2.1 50 = .ok (.getfield 21, 3) := by decide +kernel
theorem d_St_copyFrom_53 : decode m_St_copyFrom.2.1 53 = .ok (.iconst 0, 1) := by decide +kernel
theorem d_St_copyFrom_54 : decode m_St_copyFrom.2.1 54 = .ok (.bipush 10, 2) := by decide +kernel
theorem d_St_copyFrom_56 : decode m_St_copyFrom.2.1 56 = .ok (.invokestatic 34, 3) := by decide +kernel
theorem d_St_copyFrom_59 : decode m_St_copyFrom.2.1 59 = .ok (.aload_n 1, 1) := by decide +kernel
theorem d_St_copyFrom_60 : decode m_St_copyFrom.2.1 60 = .ok (.getfield 24, 3) := by decide +kernel
theorem d_St_copyFrom_63 : decode m_St_copyFrom.2.1 63 = .ok (.iconst 0, 1) := by decide +kernel
theorem d_St_copyFrom_64 : decode m_St_copyFrom.2.1 64 = .ok (.aload_n 0, 1) := by decide +kernel
theorem d_St_copyFrom_65 : decode m_St_copyFrom.2.1 65 = .ok (.getfield 24, 3) := by decide +kernel
theorem d_St_copyFrom_68 : decode m_St_copyFrom.2.1 68 = .ok (.iconst 0, 1) := by decide +kernel
theorem d_St_copyFrom_69 : decode m_St_copyFrom.2.1 69 = .ok (.bipush 10, 2) := by decide +kernel
theorem d_St_copyFrom_71 : decode m_St_copyFrom.2.1 71 = .ok (.invokestatic 34, 3) := by decide +kernel
theorem d_St_copyFrom_74 : decode m_St_copyFrom.2.1 74 = .ok (.aload_n 0, 1) := by decide +kernel
theorem d_St_copyFrom_75 : decode m_St_copyFrom.2.1 75 = .ok (.aload_n 1, 1) := by decide +kernel
theorem d_St_copyFrom_76 : decode m_St_copyFrom.2.1 76 = .ok (.getfield 42, 3) := by decide +kernel
theorem d_St_copyFrom_79 : decode m_St_copyFrom.2.1 79 = .ok (.putfield 42, 3) := by decide +kernel
theorem d_St_copyFrom_82 : decode m_St_copyFrom.2.1 82 = .ok (.aload_n 0, 1) := by decide +kernel
theorem d_St_copyFrom_83 : decode m_St_copyFrom.2.1 83 = .ok (.aload_n 1, 1) := by decide +kernel
theorem d_St_copyFrom_84 : decode m_St_copyFrom.2.1 84 = .ok (.getfield 46, 3) := by decide +kernel
theorem d_St_copyFrom_87 : decode m_St_copyFrom.2.1 87 = .ok (.putfield 46, 3) := by decide +kernel
theorem d_St_copyFrom_90 : decode m_St_copyFrom.2.1 90 = .ok (.return_, 1) := by decide +kernel
theorem d_St_passYears_0 : decode m_St_passYears.2.1 0 = .ok (.iconst 0, 1) := by decide +kernel
theorem d_St_passYears_1 : decode m_St_passYears.2.1 1 = .ok (.istore_n 2, 1) := by decide +kernel
theorem d_St_passYears_2 : decode m_St_passYears.2.1 2 = .ok (.iload_n 2, 1) := by decide +kernel
theorem d_St_passYears_3 : decode m_St_passYears.2.1 3 = .ok (.iload_n 1, 1) := by decide +kernel
theorem d_St_passYears_4 : decode m_St_passYears.2.1 4 = .ok (.if_icmp .ge 27, 3) := by decide +kernel
theorem d_St_passYears_7 : decode m_St_passYears.2.1 7 = .ok (.aload_n 0, 1) := by decide +kernel
theorem d_St_passYears_8 : decode m_St_passYears.2.1 8 = .ok (.invokevirtual 61, 3) := by decide +kernel
theorem d_St_passYears_11 : decode m_St_passYears.2.1 11 = .ok (.aload_n 0, 1) := by decide +kernel
theorem d_St_passYears_12 : decode m_St_passYears.2.1 12 = .ok (.invokevirtual 64, 3) := by decide +kernel
theorem d_St_passYears_15 : decode m_St_passYears.2.1 15 = .ok (.aload_n 0, 1) := by decide +kernel
theorem d_St_passYears_16 : decode m_St_passYears.2.1 16 = .ok (.dup, 1) := by decide +kernel
theorem d_St_passYears_17 : decode m_St_passYears.2.1 17 = .ok (.getfield 42, 3) := by decide +kernel
theorem d_St_passYears_20 : decode m_St_passYears.2.1 20 = .ok (.iconst 1, 1) := by decide +kernel
theorem d_St_passYears_21 : decode m_St_passYears.2.1 21 = .ok (.iadd, 1) := by decide +kernel
theorem d_St_passYears_22 : decode m_St_passYears.2.1 22 = .ok (.putfield 42, 3) := by decide +kernel
theorem d_St_passYears_25 : decode m_St_passYears.2.1 25 = .ok (.iinc 2 1, 3) := by decide +kernel
theorem d_St_passYears_28 : decode m_St_passYears.2.1 28 = .ok (.goto (-26), 3) := by decide +kernel
theorem d_St_passYears_31 : decode m_St_passYears.2.1 31 = .ok (.return_, 1) := by decide +kernel
theorem d_St_workAll_0 : decode m_St_workAll.2.1 0 = .ok (.aload_n 0, 1) := by decide +kernel
theorem d_St_workAll_1 : decode m_St_workAll.2.1 1 = .ok (.getfield 46, 3) := by decide +kernel
theorem d_St_workAll_4 : decode m_St_workAll.2.1 4 = .ok (.istore_n 1, 1) := by decide +kernel
theorem d_St_workAll_5 : decode m_St_workAll.2.1 5 = .ok (.iconst 0, 1) := by decide +kernel
theorem d_St_workAll_6 : decode m_St_workAll.2.1 6 = .ok (.istore_n 2, 1) := by decide +kernel
theorem d_St_workAll_7 : decode m_St_workAll.2.1 7 = .ok (.iconst 0, 1) := by decide +kernel
theorem d_St_workAll_8 : decode m_St_workAll.2.1 8 = .ok (.istore_n 3, 1) := by decide +kernel
theorem d_St_workAll_9 : decode m_St_workAll.2.1 9 = .ok (.iload_n 3, 1) := by decide +kernel
theorem d_St_workAll_10 : decode m_St_workAll.2.1 10 = .ok (.aload_n 0, 1) := by decide +kernel
theorem d_St_workAll_11 : decode m_St_workAll.2.1 11 = .ok (.getfield 27, 3) := by decide +kernel
theorem d_St_workAll_14 : decode m_St_workAll.2.1 14 = .ok (.getfield 67, 3) := by decide +kernel
theorem d_St_workAll_17 : decode m_St_workAll.2.1 17 = .ok (.if_icmp .ge 78, 3) := by decide +kernel
theorem d_St_workAll_20 : decode m_St_workAll.2.1 20 = .ok (.aload_n 0, 1) := by decide +kernel
theorem d_St_workAll_21 : decode m_St_workAll.2.1 21 = .ok (.getfield 24, 3) := by decide +kernel
theorem d_St_workAll_24 : decode m_St_workAll.2.1 24 = .ok (.iload_n 3, 1) := by decide +kernel
theorem d_St_workAll_25 : decode m_St_workAll.2.1 25 = .ok (.iaload, 1) := by decide +kernel
theorem d_St_workAll_26 : decode m_St_workAll.2.1 26 = .ok (.istore 4, 2) := by decide +kernel
theorem d_St_workAll_28 : decode m_St_workAll.2.1 28 = .ok (.aload_n 0, 1) := by decide +kernel
theorem d_St_workAll_29 : decode m_St_workAll.2.1 29 = .ok (.getfield 21, 3) := by decide +kernel
theorem d_St_workAll_32 : decode m_St_workAll.2.1 32 = .ok (.iload 4, 2) := by decide +kernel
theorem d_St_workAll_34 : decode m_St_workAll.2.1 34 = .ok (.iaload, 1) := by decide +kernel
theorem d_St_workAll_35 : decode m_St_workAll.2.1 35 = .ok (.istore 5, 2) := by decide +kernel
theorem d_St_workAll_37 : decode m_St_workAll.2.1 37 = .ok (.iload 5, 2) := by decide +kernel
theorem d_St_workAll_39 : decode m_St_workAll.2.1 39 = .ok (.iconst 0, 1) := by decide +kernel
theorem d_St_workAll_40 : decode m_St_workAll.2.1 40 = .ok (.iconst 4, 1) := by decide +kernel
theorem d_St_workAll_41 : decode m_St_workAll.2.1 41 = .ok (.invokestatic 70, 3) := by decide +kernel
theorem d_St_workAll_44 : decode m_St_workAll.2.1 44 = .ok (.ifCond .eq 45, 3) := by decide +kernel
theorem d_St_workAll_47 : decode m_St_workAll.2.1 47 = .ok (.iload_n 2, 1) := by decide +kernel
theorem d_St_workAll_48 : decode m_St_workAll.2.1 48 = .ok (.iload 5, 2) := by decide +kernel
theorem d_St_workAll_50 : decode m_St_workAll.2.1 50 = .ok (.ishr, 1) := by decide +kernel
theorem d_St_workAll_51 : decode m_St_workAll.2.1 51 = .ok (.iconst 1, 1) := by decide +kernel
theorem d_St_workAll_52 : decode m_St_workAll.2.1 52 = .ok (.iand, 1) := by decide +kernel
theorem d_St_workAll_53 : decode m_St_workAll.2.1 53 = .ok (.ifCond .ne 36, 3) := by decide +kernel
theorem d_St_workAll_56 : decode m_St_workAll.2.1 56 = .ok (.aload_n 0, 1) := by decide +kernel
theorem d_St_workAll_57 : decode m_St_workAll.2.1 57 = .ok (.iload 4, 2) := by decide +kernel
theorem d_St_workAll_59 : decode m_St_workAll.2.1 59 = .ok (.iload_n 1, 1) := by decide +kernel
theorem d_St_workAll_60 : decode m_St_workAll.2.1 60 = .ok (.invokevirtual 74, 3) := by decide +kernel
theorem d_St_workAll_63 : decode m_St_workAll.2.1 63 = .ok (.ifCond .eq 26, 3) := by decide +kernel
theorem d_St_workAll_66 : decode m_St_workAll.2.1 66 = .ok (.iload_n 2, 1) := by decide +kernel
theorem d_St_workAll_67 : decode m_St_workAll.2.1 67 = .ok (.iconst 1, 1) := by decide +kernel
theorem d_St_workAll_68 : decode m_St_workAll.2.1 68 = .ok (.iload 5, 2) := by decide +kernel
theorem d_St_workAll_70 : decode m_St_workAll.2.1 70 = .ok (.ishl, 1) := by decide +kernel
theorem d_St_workAll_71 : decode m_St_workAll.2.1 71 = .ok (.ior, 1) := by decide +kernel
theorem d_St_workAll_72 : decode m_St_workAll.2.1 72 = .ok (.istore_n 2, 1) := by decide +kernel
theorem d_St_workAll_73 : decode m_St_workAll.2.1 73 = .ok (.aload_n 0, 1) := by decide +kernel
theorem d_St_workAll_74 : decode m_St_workAll.2.1 74 = .ok (.iload 4, 2) := by decide +kernel
theorem d_St_workAll_76 : decode m_St_workAll.2.1 76 = .ok (.aload_n 0, 1) := by decide +kernel
theorem d_St_workAll_77 : decode m_St_workAll.2.1 77 = .ok (.getfield 27, 3) := by decide +kernel
theorem d_St_workAll_80 : decode m_St_workAll.2.1 80 = .ok (.getfield 78, 3) := by decide +kernel
theorem d_St_workAll_83 : decode m_St_workAll.2.1 83 = .ok (.iload 5, 2) := by decide +kernel
theorem d_St_workAll_85 : decode m_St_workAll.2.1 85 = .ok (.iaload, 1) := by decide +kernel
theorem d_St_workAll_86 : decode m_St_workAll.2.1 86 = .ok (.invokevirtual 81, 3) := by decide +kernel
theorem d_St_workAll_89 : decode m_St_workAll.2.1 89 = .ok (.iinc 3 1, 3) := by decide +kernel
theorem d_St_workAll_92 : decode m_St_workAll.2.1 92 = .ok (.goto (-83), 3) := by decide +kernel
theorem d_St_workAll_95 : decode m_St_workAll.2.1 95 = .ok (.return_, 1) := by decide +kernel
theorem d_St_workAt_0 : decode m_St_workAt.2.1 0 = .ok (.aload_n 0, 1) := by decide +kernel
theorem d_St_workAt_1 : decode m_St_workAt.2.1 1 = .ok (.getfield 18, 3) := by decide +kernel
theorem d_St_workAt_4 : decode m_St_workAt.2.1 4 = .ok (.iload_n 1, 1) := by decide +kernel
theorem d_St_workAt_5 : decode m_St_workAt.2.1 5 = .ok (.dup2, 1) := by decide +kernel
theorem d_St_workAt_6 : decode m_St_workAt.2.1 6 = .ok (.iaload, 1) := by decide +kernel
theorem d_St_workAt_7 : decode m_St_workAt.2.1 7 = .ok (.aload_n 0, 1) := by decide +kernel
theorem d_St_workAt_8 : decode m_St_workAt.2.1 8 = .ok (.getfield 27, 3) := by decide +kernel
theorem d_St_workAt_11 : decode m_St_workAt.2.1 11 = .ok (.getfield 49, 3) := by decide +kernel
theorem d_St_workAt_14 : decode m_St_workAt.2.1 14 = .ok (.iload_n 1, 1) := by decide +kernel
theorem d_St_workAt_15 : decode m_St_workAt.2.1 15 = .ok (.iaload, 1) := by decide +kernel
theorem d_St_workAt_16 : decode m_St_workAt.2.1 16 = .ok (.iload_n 2, 1) := by decide +kernel
theorem d_St_workAt_17 : decode m_St_workAt.2.1 17 = .ok (.invokestatic 85, 3) := by decide +kernel
theorem d_St_workAt_20 : decode m_St_workAt.2.1 20 = .ok (.iadd, 1) := by decide +kernel
theorem d_St_workAt_21 : decode m_St_workAt.2.1 21 = .ok (.iastore, 1) := by decide +kernel
theorem d_St_workAt_22 : decode m_St_workAt.2.1 22 = .ok (.aload_n 0, 1) := by decide +kernel
theorem d_St_workAt_23 : decode m_St_workAt.2.1 23 = .ok (.getfield 18, 3) := by decide +kernel
theorem d_St_workAt_26 : decode m_St_workAt.2.1 26 = .ok (.iload_n 1, 1) := by decide +kernel
theorem d_St_workAt_27 : decode m_St_workAt.2.1 27 = .ok (.iaload, 1) := by decide +kernel
theorem d_St_workAt_28 : decode m_St_workAt.2.1 28 = .ok (.aload_n 0, 1) := by decide +kernel
theorem d_St_workAt_29 : decode m_St_workAt.2.1 29 = .ok (.getfield 15, 3) := by decide +kernel
theorem d_St_workAt_32 : decode m_St_workAt.2.1 32 = .ok (.iload_n 1, 1) := by decide +kernel
theorem d_St_workAt_33 : decode m_St_workAt.2.1 33 = .ok (.iaload, 1) := by decide +kernel
theorem d_St_workAt_34 : decode m_St_workAt.2.1 34 = .ok (.if_icmp .lt 20, 3) := by decide +kernel
theorem d_St_workAt_37 : decode m_St_workAt.2.1 37 = .ok (.aload_n 0, 1) := by decide +kernel
theorem d_St_workAt_38 : decode m_St_workAt.2.1 38 = .ok (.getfield 18, 3) := by decide +kernel
theorem d_St_workAt_41 : decode m_St_workAt.2.1 41 = .ok (.iload_n 1, 1) := by decide +kernel
theorem d_St_workAt_42 : decode m_St_workAt.2.1 42 = .ok (.aload_n 0, 1) := by decide +kernel
theorem d_St_workAt_43 : decode m_St_workAt.2.1 43 = .ok (.getfield 15, 3) := by decide +kernel
theorem d_St_workAt_46 : decode m_St_workAt.2.1 46 = .ok (.iload_n 1, 1) := by decide +kernel
theorem d_St_workAt_47 : decode m_St_workAt.2.1 47 = .ok (.iaload, 1) := by decide +kernel
theorem d_St_workAt_48 : decode m_St_workAt.2.1 48 = .ok (.iastore, 1) := by decide +kernel
theorem d_St_workAt_49 : decode m_St_workAt.2.1 49 = .ok (.aload_n 0, 1) := by decide +kernel
theorem d_St_workAt_50 : decode m_St_workAt.2.1 50 = .ok (.iload_n 1, 1) := by decide +kernel
theorem d_St_workAt_51 : decode m_St_workAt.2.1 51 = .ok (.invokevirtual 89, 3) := by decide +kernel
theorem d_St_workAt_54 : decode m_St_workAt.2.1 54 = .ok (.return_, 1) := by decide +kernel
theorem d_St_markKept_0 : decode m_St_markKept.2.1 0 = .ok (.aload_n 0, 1) := by decide +kernel
theorem d_St_markKept_1 : decode m_St_markKept.2.1 1 = .ok (.getfield 21, 3) := by decide +kernel
theorem d_St_markKept_4 : decode m_St_markKept.2.1 4 = .ok (.iload_n 1, 1) := by decide +kernel
theorem d_St_markKept_5 : decode m_St_markKept.2.1 5 = .ok (.iconst (-1), 1) := by decide +kernel
theorem d_St_markKept_6 : decode m_St_markKept.2.1 6 = .ok (.iastore, 1) := by decide +kernel
theorem d_St_markKept_7 : decode m_St_markKept.2.1 7 = .ok (.aload_n 0, 1) := by decide +kernel
theorem d_St_markKept_8 : decode m_St_markKept.2.1 8 = .ok (.dup, 1) := by decide +kernel
theorem d_St_markKept_9 : decode m_St_markKept.2.1 9 = .ok (.getfield 46, 3) := by decide +kernel
theorem d_St_markKept_12 : decode m_St_markKept.2.1 12 = .ok (.iconst 1, 1) := by decide +kernel
theorem d_St_markKept_13 : decode m_St_markKept.2.1 13 = .ok (.iload_n 1, 1) := by decide +kernel
theorem d_St_markKept_14 : decode m_St_markKept.2.1 14 = .ok (.ishl, 1) := by decide +kernel
theorem d_St_markKept_15 : decode m_St_markKept.2.1 15 = .ok (.ior, 1) := by decide +kernel
theorem d_St_markKept_16 : decode m_St_markKept.2.1 16 = .ok (.putfield 46, 3) := by decide +kernel
theorem d_St_markKept_19 : decode m_St_markKept.2.1 19 = .ok (.return_, 1) := by decide +kernel
theorem d_St_ageAll_0 : decode m_St_ageAll.2.1 0 = .ok (.iconst 0, 1) := by decide +kernel
theorem d_St_ageAll_1 : decode m_St_ageAll.2.1 1 = .ok (.istore_n 1, 1) := by decide +kernel
theorem d_St_ageAll_2 : decode m_St_ageAll.2.1 2 = .ok (.iconst 0, 1) := by decide +kernel
theorem d_St_ageAll_3 : decode m_St_ageAll.2.1 3 = .ok (.istore_n 2, 1) := by decide +kernel
theorem d_St_ageAll_4 : decode m_St_ageAll.2.1 4 = .ok (.iload_n 2, 1) := by decide +kernel
theorem d_St_ageAll_5 : decode m_St_ageAll.2.1 5 = .ok (.aload_n 0, 1) := by decide +kernel
theorem d_St_ageAll_6 : decode m_St_ageAll.2.1 6 = .ok (.getfield 27, 3) := by decide +kernel
theorem d_St_ageAll_9 : decode m_St_ageAll.2.1 9 = .ok (.getfield 93, 3) := by decide +kernel
theorem d_St_ageAll_12 : decode m_St_ageAll.2.1 12 = .ok (.if_icmp .ge 43, 3) := by decide +kernel
theorem d_St_ageAll_15 : decode m_St_ageAll.2.1 15 = .ok (.aload_n 0, 1) := by decide +kernel
theorem d_St_ageAll_16 : decode m_St_ageAll.2.1 16 = .ok (.getfield 9, 3) := by decide +kernel
theorem d_St_ageAll_19 : decode m_St_ageAll.2.1 19 = .ok (.iload_n 2, 1) := by decide +kernel
theorem d_St_ageAll_20 : decode m_St_ageAll.2.1 20 = .ok (.iaload, 1) := by decide +kernel
theorem d_St_ageAll_21 : decode m_St_ageAll.2.1 21 = .ok (.ifCond .le 28, 3) := by decide +kernel
theorem d_St_ageAll_24 : decode m_St_ageAll.2.1 24 = .ok (.aload_n 0, 1) := by decide +kernel
theorem d_St_ageAll_25 : decode m_St_ageAll.2.1 25 = .ok (.getfield 9, 3) := by decide +kernel
theorem d_St_ageAll_28 : decode m_St_ageAll.2.1 28 = .ok (.iload_n 2, 1) := by decide +kernel
theorem d_St_ageAll_29 : decode m_St_ageAll.2.1 29 = .ok (.dup2, 1) := by decide +kernel
theorem d_St_ageAll_30 : decode m_St_ageAll.2.1 30 = .ok (.iaload, 1) := by decide +kernel
theorem d_St_ageAll_31 : decode m_St_ageAll.2.1 31 = .ok (.iconst 1, 1) := by decide +kernel
theorem d_St_ageAll_32 : decode m_St_ageAll.2.1 32 = .ok (.isub, 1) := by decide +kernel
theorem d_St_ageAll_33 : decode m_St_ageAll.2.1 33 = .ok (.iastore, 1) := by decide +kernel
theorem d_St_ageAll_34 : decode m_St_ageAll.2.1 34 = .ok (.aload_n 0, 1) := by decide +kernel
theorem d_St_ageAll_35 : decode m_St_ageAll.2.1 35 = .ok (.getfield 9, 3) := by decide +kernel
theorem d_St_ageAll_38 : decode m_St_ageAll.2.1 38 = .ok (.iload_n 2, 1) := by decide +kernel
theorem d_St_ageAll_39 : decode m_St_ageAll.2.1 39 = .ok (.iaload, 1) := by decide +kernel
theorem d_St_ageAll_40 : decode m_St_ageAll.2.1 40 = .ok (.ifCond .ne 9, 3) := by decide +kernel
theorem d_St_ageAll_43 : decode m_St_ageAll.2.1 43 = .ok (.iload_n 1, 1) := by decide +kernel
theorem d_St_ageAll_44 : decode m_St_ageAll.2.1 44 = .ok (.iconst 1, 1) := by decide +kernel
theorem d_St_ageAll_45 : decode m_St_ageAll.2.1 45 = .ok (.iload_n 2, 1) := by decide +kernel
theorem d_St_ageAll_46 : decode m_St_ageAll.2.1 46 = .ok (.ishl, 1) := by decide +kernel
theorem d_St_ageAll_47 : decode m_St_ageAll.2.1 47 = .ok (.ior, 1) := by decide +kernel
theorem d_St_ageAll_48 : decode m_St_ageAll.2.1 48 = .ok (.istore_n 1, 1) := by decide +kernel
theorem d_St_ageAll_49 : decode m_St_ageAll.2.1 49 = .ok (.iinc 2 1, 3) := by decide +kernel
theorem d_St_ageAll_52 : decode m_St_ageAll.2.1 52 = .ok (.goto (-48), 3) := by decide +kernel
theorem d_St_ageAll_55 : decode m_St_ageAll.2.1 55 = .ok (.iconst 0, 1) := by decide +kernel
theorem d_St_ageAll_56 : decode m_St_ageAll.2.1 56 = .ok (.istore_n 2, 1) := by decide +kernel
theorem d_St_ageAll_57 : decode m_St_ageAll.2.1 57 = .ok (.iload_n 2, 1) := by decide +kernel
theorem d_St_ageAll_58 : decode m_St_ageAll.2.1 58 = .ok (.aload_n 0, 1) := by decide +kernel
theorem d_St_ageAll_59 : decode m_St_ageAll.2.1 59 = .ok (.getfield 27, 3) := by decide +kernel
theorem d_St_ageAll_62 : decode m_St_ageAll.2.1 62 = .ok (.getfield 93, 3) := by decide +kernel
theorem d_St_ageAll_65 : decode m_St_ageAll.2.1 65 = .ok (.if_icmp .ge 22, 3) := by decide +kernel
theorem d_St_ageAll_68 : decode m_St_ageAll.2.1 68 = .ok (.iload_n 1, 1) := by decide +kernel
theorem d_St_ageAll_69 : decode m_St_ageAll.2.1 69 = .ok (.iload_n 2, 1) := by decide +kernel
theorem d_St_ageAll_70 : decode m_St_ageAll.2.1 70 = .ok (.ishr, 1) := by decide +kernel
theorem d_St_ageAll_71 : decode m_St_ageAll.2.1 71 = .ok (.iconst 1, 1) := by decide +kernel
theorem d_St_ageAll_72 : decode m_St_ageAll.2.1 72 = .ok (.iand, 1) := by decide +kernel
theorem d_St_ageAll_73 : decode m_St_ageAll.2.1 73 = .ok (.ifCond .eq 8, 3) := by decide +kernel
theorem d_St_ageAll_76 : decode m_St_ageAll.2.1 76 = .ok (.aload_n 0, 1) := by decide +kernel
theorem d_St_ageAll_77 : decode m_St_ageAll.2.1 77 = .ok (.iload_n 2, 1) := by decide +kernel
theorem d_St_ageAll_78 : decode m_St_ageAll.2.1 78 = .ok (.invokevirtual 96, 3) := by decide +kernel
theorem d_St_ageAll_81 : decode m_St_ageAll.2.1 81 = .ok (.iinc 2 1, 3) := by decide +kernel
theorem d_St_ageAll_84 : decode m_St_ageAll.2.1 84 = .ok (.goto (-27), 3) := by decide +kernel
theorem d_St_ageAll_87 : decode m_St_ageAll.2.1 87 = .ok (.return_, 1) := by decide +kernel
theorem d_St_leaveAll_0 : decode m_St_leaveAll.2.1 0 = .ok (.aload_n 0, 1) := by decide +kernel
theorem d_St_leaveAll_1 : decode m_St_leaveAll.2.1 1 = .ok (.iload_n 1, 1) := by decide +kernel
theorem d_St_leaveAll_2 : decode m_St_leaveAll.2.1 2 = .ok (.invokevirtual 99, 3) := by decide +kernel
theorem d_St_leaveAll_5 : decode m_St_leaveAll.2.1 5 = .ok (.istore_n 2, 1) := by decide +kernel
theorem d_St_leaveAll_6 : decode m_St_leaveAll.2.1 6 = .ok (.iconst 0, 1) := by decide +kernel
theorem d_St_leaveAll_7 : decode m_St_leaveAll.2.1 7 = .ok (.istore_n 3, 1) := by decide +kernel
theorem d_St_leaveAll_8 : decode m_St_leaveAll.2.1 8 = .ok (.iconst 0, 1) := by decide +kernel
theorem d_St_leaveAll_9 : decode m_St_leaveAll.2.1 9 = .ok (.istore 4, 2) := by decide +kernel
theorem d_St_leaveAll_11 : decode m_St_leaveAll.2.1 11 = .ok (.iload 4, 2) := by decide +kernel
theorem d_St_leaveAll_13 : decode m_St_leaveAll.2.1 13 = .ok (.aload_n 0, 1) := by decide +kernel
theorem d_St_leaveAll_14 : decode m_St_leaveAll.2.1 14 = .ok (.getfield 27, 3) := by decide +kernel
theorem d_St_leaveAll_17 : decode m_St_leaveAll.2.1 17 = .ok (.getfield 67, 3) := by decide +kernel
theorem d_St_leaveAll_20 : decode m_St_leaveAll.2.1 20 = .ok (.if_icmp .ge 75, 3) := by decide +kernel
theorem d_St_leaveAll_23 : decode m_St_leaveAll.2.1 23 = .ok (.aload_n 0, 1) := by decide +kernel
theorem d_St_leaveAll_24 : decode m_St_leaveAll.2.1 24 = .ok (.getfield 24, 3) := by decide +kernel
theorem d_St_leaveAll_27 : decode m_St_leaveAll.2.1 27 = .ok (.iload_n 3, 1) := by decide +kernel
theorem d_St_leaveAll_28 : decode m_St_leaveAll.2.1 28 = .ok (.iaload, 1) := by decide +kernel
theorem d_St_leaveAll_29 : decode m_St_leaveAll.2.1 29 = .ok (.istore 5, 2) := by decide +kernel
theorem d_St_leaveAll_31 : decode m_St_leaveAll.2.1 31 = .ok (.aload_n 0, 1) := by decide +kernel
theorem d_St_leaveAll_32 : decode m_St_leaveAll.2.1 32 = .ok (.getfield 21, 3) := by decide +kernel
theorem d_St_leaveAll_35 : decode m_St_leaveAll.2.1 35 = .ok (.iload 5, 2) := by decide +kernel
theorem d_St_leaveAll_37 : decode m_St_leaveAll.2.1 37 = .ok (.iaload, 1) := by decide +kernel
theorem d_St_leaveAll_38 : decode m_St_leaveAll.2.1 38 = .ok (.iload_n 1, 1) := by decide +kernel
theorem d_St_leaveAll_39 : decode m_St_leaveAll.2.1 39 = .ok (.if_icmp .eq 9, 3) := by decide +kernel
theorem d_St_leaveAll_42 : decode m_St_leaveAll.2.1 42 = .ok (.iinc 3 1, 3) := by decide +kernel
theorem d_St_leaveAll_45 : decode m_St_leaveAll.2.1 45 = .ok (.goto 44, 3) := by decide +kernel
theorem d_St_leaveAll_48 : decode m_St_leaveAll.2.1 48 = .ok (.aload_n 0, 1) := by decide +kernel
theorem d_St_leaveAll_49 : decode m_St_leaveAll.2.1 49 = .ok (.getfield 27, 3) := by decide +kernel
theorem d_St_leaveAll_52 : decode m_St_leaveAll.2.1 52 = .ok (.getfield 49, 3) := by decide +kernel
theorem d_St_leaveAll_55 : decode m_St_leaveAll.2.1 55 = .ok (.iload 5, 2) := by decide +kernel
theorem d_St_leaveAll_57 : decode m_St_leaveAll.2.1 57 = .ok (.iaload, 1) := by decide +kernel
theorem d_St_leaveAll_58 : decode m_St_leaveAll.2.1 58 = .ok (.invokestatic 103, 3) := by decide +kernel
theorem d_St_leaveAll_61 : decode m_St_leaveAll.2.1 61 = .ok (.ifCond .eq 15, 3) := by decide +kernel
theorem d_St_leaveAll_64 : decode m_St_leaveAll.2.1 64 = .ok (.aload_n 0, 1) := by decide +kernel
theorem d_St_leaveAll_65 : decode m_St_leaveAll.2.1 65 = .ok (.iload 5, 2) := by decide +kernel
theorem d_St_leaveAll_67 : decode m_St_leaveAll.2.1 67 = .ok (.invokevirtual 89, 3) := by decide +kernel
theorem d_St_leaveAll_70 : decode m_St_leaveAll.2.1 70 = .ok (.iinc 3 1, 3) := by decide +kernel
theorem d_St_leaveAll_73 : decode m_St_leaveAll.2.1 73 = .ok (.goto 16, 3) := by decide +kernel
theorem d_St_leaveAll_76 : decode m_St_leaveAll.2.1 76 = .ok (.aload_n 0, 1) := by decide +kernel
theorem d_St_leaveAll_77 : decode m_St_leaveAll.2.1 77 = .ok (.iload_n 3, 1) := by decide +kernel
theorem d_St_leaveAll_78 : decode m_St_leaveAll.2.1 78 = .ok (.invokevirtual 106, 3) := by decide +kernel
theorem d_St_leaveAll_81 : decode m_St_leaveAll.2.1 81 = .ok (.aload_n 0, 1) := by decide +kernel
theorem d_St_leaveAll_82 : decode m_St_leaveAll.2.1 82 = .ok (.getfield 21, 3) := by decide +kernel
theorem d_St_leaveAll_85 : decode m_St_leaveAll.2.1 85 = .ok (.iload 5, 2) := by decide +kernel
theorem d_St_leaveAll_87 : decode m_St_leaveAll.2.1 87 = .ok (.iload_n 2, 1) := by decide +kernel
theorem d_St_leaveAll_88 : decode m_St_leaveAll.2.1 88 = .ok (.iastore, 1) := by decide +kernel
theorem d_St_leaveAll_89 : decode m_St_leaveAll.2.1 89 = .ok (.iinc 4 1, 3) := by decide +kernel
theorem d_St_leaveAll_92 : decode m_St_leaveAll.2.1 92 = .ok (.goto (-81), 3) := by decide +kernel
theorem d_St_leaveAll_95 : decode m_St_leaveAll.2.1 95 = .ok (.return_, 1) := by decide +kernel
theorem d_St_whoInherits_0 : decode m_St_whoInherits.2.1 0 = .ok (.aload_n 0, 1) := by decide +kernel
theorem d_St_whoInherits_1 : decode m_St_whoInherits.2.1 1 = .ok (.getfield 27, 3) := by decide +kernel
theorem d_St_whoInherits_4 : decode m_St_whoInherits.2.1 4 = .ok (.getfield 109, 3) := by decide +kernel
theorem d_St_whoInherits_7 : decode m_St_whoInherits.2.1 7 = .ok (.iload_n 1, 1) := by decide +kernel
theorem d_St_whoInherits_8 : decode m_St_whoInherits.2.1 8 = .ok (.iaload, 1) := by decide +kernel
theorem d_St_whoInherits_9 : decode m_St_whoInherits.2.1 9 = .ok (.istore_n 2, 1) := by decide +kernel
theorem d_St_whoInherits_10 : decode m_St_whoInherits.2.1 10 = .ok (.iload_n 2, 1) := by decide +kernel
theorem d_St_whoInherits_11 : decode m_St_whoInherits.2.1 11 = .ok (.iconst (-1), 1) := by decide +kernel
theorem d_St_whoInherits_12 : decode m_St_whoInherits.2.1 12 = .ok (.if_icmp .eq 16, 3) := by decide +kernel
theorem d_St_whoInherits_15 : decode m_St_whoInherits.2.1 15 = .ok (.aload_n 0, 1) := by decide +kernel
theorem d_St_whoInherits_16 : decode m_St_whoInherits.2.1 16 = .ok (.getfield 9, 3) := by decide +kernel
theorem d_St_whoInherits_19 : decode m_St_whoInherits.2.1 19 = .ok (.iload_n 2, 1) := by decide +kernel
theorem d_St_whoInherits_20 : decode m_St_whoInherits.2.1 20 = .ok (.iaload, 1) := by decide +kernel
theorem d_St_whoInherits_21 : decode m_St_whoInherits.2.1 21 = .ok (.ifCond .le 7, 3) := by decide +kernel
theorem d_St_whoInherits_24 : decode m_St_whoInherits.2.1 24 = .ok (.iload_n 2, 1) := by decide +kernel
theorem d_St_whoInherits_25 : decode m_St_whoInherits.2.1 25 = .ok (.goto 4, 3) := by decide +kernel
theorem d_St_whoInherits_28 : decode m_St_whoInherits.2.1 28 = .ok (.iconst 5, 1) := by decide +kernel
theorem d_St_whoInherits_29 : decode m_St_whoInherits.2.1 29 = .ok (.ireturn, 1) := by decide +kernel
theorem d_St_moveToEnd_0 : decode m_St_moveToEnd.2.1 0 = .ok (.aload_n 0, 1) := by decide +kernel
theorem d_St_moveToEnd_1 : decode m_St_moveToEnd.2.1 1 = .ok (.getfield 24, 3) := by decide +kernel
theorem d_St_moveToEnd_4 : decode m_St_moveToEnd.2.1 4 = .ok (.iload_n 1, 1) := by decide +kernel
theorem d_St_moveToEnd_5 : decode m_St_moveToEnd.2.1 5 = .ok (.iaload, 1) := by decide +kernel
theorem d_St_moveToEnd_6 : decode m_St_moveToEnd.2.1 6 = .ok (.istore_n 2, 1) := by decide +kernel
theorem d_St_moveToEnd_7 : decode m_St_moveToEnd.2.1 7 = .ok (.aload_n 0, 1) := by decide +kernel
theorem d_St_moveToEnd_8 : decode m_St_moveToEnd.2.1 8 = .ok (.getfield 27, 3) := by decide +kernel
theorem d_St_moveToEnd_11 : decode m_St_moveToEnd.2.1 11 = .ok (.getfield 67, 3) := by decide +kernel
theorem d_St_moveToEnd_14 : decode m_St_moveToEnd.2.1 14 = .ok (.iconst 1, 1) := by decide +kernel
theorem d_St_moveToEnd_15 : decode m_St_moveToEnd.2.1 15 = .ok (.isub, 1) := by decide +kernel
theorem d_St_moveToEnd_16 : decode m_St_moveToEnd.2.1 16 = .ok (.istore_n 3, 1) := by decide +kernel
theorem d_St_moveToEnd_17 : decode m_St_moveToEnd.2.1 17 = .ok (.iload_n 1, 1) := by decide +kernel
theorem d_St_moveToEnd_18 : decode m_St_moveToEnd.2.1 18 = .ok (.istore 4, 2) := by decide +kernel
theorem d_St_moveToEnd_20 : decode m_St_moveToEnd.2.1 20 = .ok (.iload 4, 2) := by decide +kernel
theorem d_St_moveToEnd_22 : decode m_St_moveToEnd.2.1 22 = .ok (.iload_n 3, 1) := by decide +kernel
theorem d_St_moveToEnd_23 : decode m_St_moveToEnd.2.1 23 = .ok (.if_icmp .ge 35, 3) := by decide +kernel
theorem d_St_moveToEnd_26 : decode m_St_moveToEnd.2.1 26 = .ok (.aload_n 0, 1) := by decide +kernel
theorem d_St_moveToEnd_27 : decode m_St_moveToEnd.2.1 27 = .ok (.getfield 24, 3) := by decide +kernel
theorem d_St_moveToEnd_30 : decode m_St_moveToEnd.2.1 30 = .ok (.iload 4, 2) := by decide +kernel
theorem d_St_moveToEnd_32 : decode m_St_moveToEnd.2.1 32 = .ok (.aload_n 0, 1) := by decide +kernel
theorem d_St_moveToEnd_33 : decode m_St_moveToEnd.2.1 33 = .ok (.getfield 24, 3) := by decide +kernel
theorem d_St_moveToEnd_36 : decode m_St_moveToEnd.2.1 36 = .ok (.iload 4, 2) := by decide +kernel
theorem d_St_moveToEnd_38 : decode m_St_moveToEnd.2.1 38 = .ok (.iconst 1, 1) := by decide +kernel
theorem d_St_moveToEnd_39 : decode m_St_moveToEnd.2.1 39 = .ok (.iadd, 1) := by decide +kernel
theorem d_St_moveToEnd_40 : decode m_St_moveToEnd.2.1 40 = .ok (.iaload, 1) := by decide +kernel
theorem d_St_moveToEnd_41 : decode m_St_moveToEnd.2.1 41 = .ok (.iastore, 1) := by decide +kernel
theorem d_St_moveToEnd_42 : decode m_St_moveToEnd.2.1 42 = .ok (.aload_n 0, 1) := by decide +kernel
theorem d_St_moveToEnd_43 : decode m_St_moveToEnd.2.1 43 = .ok (.getfield 24, 3) := by decide +kernel
theorem d_St_moveToEnd_46 : decode m_St_moveToEnd.2.1 46 = .ok (.iload 4, 2) := by decide +kernel
theorem d_St_moveToEnd_48 : decode m_St_moveToEnd.2.1 48 = .ok (.iconst 1, 1) := by decide +kernel
theorem d_St_moveToEnd_49 : decode m_St_moveToEnd.2.1 49 = .ok (.iadd, 1) := by decide +kernel
theorem d_St_moveToEnd_50 : decode m_St_moveToEnd.2.1 50 = .ok (.iload_n 2, 1) := by decide +kernel
theorem d_St_moveToEnd_51 : decode m_St_moveToEnd.2.1 51 = .ok (.iastore, 1) := by decide +kernel
theorem d_St_moveToEnd_52 : decode m_St_moveToEnd.2.1 52 = .ok (.iinc 4 1, 3) := by decide +kernel
theorem d_St_moveToEnd_55 : decode m_St_moveToEnd.2.1 55 = .ok (.goto (-35), 3) := by decide +kernel
theorem d_St_moveToEnd_58 : decode m_St_moveToEnd.2.1 58 = .ok (.return_, 1) := by decide +kernel
theorem d_St_handOver_0 : decode m_St_handOver.2.1 0 = .ok (.aload_n 0, 1) := by decide +kernel
theorem d_St_handOver_1 : decode m_St_handOver.2.1 1 = .ok (.aload_n 0, 1) := by decide +kernel
theorem d_St_handOver_2 : decode m_St_handOver.2.1 2 = .ok (.iload_n 1, 1) := by decide +kernel
theorem d_St_handOver_3 : decode m_St_handOver.2.1 3 = .ok (.invokevirtual 112, 3) := by decide +kernel
theorem d_St_handOver_6 : decode m_St_handOver.2.1 6 = .ok (.invokevirtual 106, 3) := by decide +kernel
theorem d_St_handOver_9 : decode m_St_handOver.2.1 9 = .ok (.aload_n 0, 1) := by decide +kernel
theorem d_St_handOver_10 : decode m_St_handOver.2.1 10 = .ok (.getfield 21, 3) := by decide +kernel
theorem d_St_handOver_13 : decode m_St_handOver.2.1 13 = .ok (.iload_n 1, 1) := by decide +kernel
theorem d_St_handOver_14 : decode m_St_handOver.2.1 14 = .ok (.iload_n 2, 1) := by decide +kernel
theorem d_St_handOver_15 : decode m_St_handOver.2.1 15 = .ok (.iastore, 1) := by decide +kernel
theorem d_St_handOver_16 : decode m_St_handOver.2.1 16 = .ok (.return_, 1) := by decide +kernel
theorem d_St_placeOf_0 : decode m_St_placeOf.2.1 0 = .ok (.iconst 0, 1) := by decide +kernel
theorem d_St_placeOf_1 : decode m_St_placeOf.2.1 1 = .ok (.istore_n 2, 1) := by decide +kernel
theorem d_St_placeOf_2 : decode m_St_placeOf.2.1 2 = .ok (.iload_n 2, 1) := by decide +kernel
theorem d_St_placeOf_3 : decode m_St_placeOf.2.1 3 = .ok (.aload_n 0, 1) := by decide +kernel
theorem d_St_placeOf_4 : decode m_St_placeOf.2.1 4 = .ok (.getfield 27, 3) := by decide +kernel
theorem d_St_placeOf_7 : decode m_St_placeOf.2.1 7 = .ok (.getfield 67, 3) := by decide +kernel
theorem d_St_placeOf_10 : decode m_St_placeOf.2.1 10 = .ok (.iconst 1, 1) := by decide +kernel
theorem d_St_placeOf_11 : decode m_St_placeOf.2.1 11 = .ok (.isub, 1) := by decide +kernel
theorem d_St_placeOf_12 : decode m_St_placeOf.2.1 12 = .ok (.if_icmp .ge 19, 3) := by decide +kernel
theorem d_St_placeOf_15 : decode m_St_placeOf.2.1 15 = .ok (.aload_n 0, 1) := by decide +kernel
theorem d_St_placeOf_16 : decode m_St_placeOf.2.1 16 = .ok (.getfield 24, 3) := by decide +kernel
theorem d_St_placeOf_19 : decode m_St_placeOf.2.1 19 = .ok (.iload_n 2, 1) := by decide +kernel
theorem d_St_placeOf_20 : decode m_St_placeOf.2.1 20 = .ok (.iaload, 1) := by decide +kernel
theorem d_St_placeOf_21 : decode m_St_placeOf.2.1 21 = .ok (.iload_n 1, 1) := by decide +kernel
theorem d_St_placeOf_22 : decode m_St_placeOf.2.1 22 = .ok (.if_icmp .eq 9, 3) := by decide +kernel
theorem d_St_placeOf_25 : decode m_St_placeOf.2.1 25 = .ok (.iinc 2 1, 3) := by decide +kernel
theorem d_St_placeOf_28 : decode m_St_placeOf.2.1 28 = .ok (.goto (-26), 3) := by decide +kernel
theorem d_St_placeOf_31 : decode m_St_placeOf.2.1 31 = .ok (.iload_n 2, 1) := by decide +kernel
theorem d_St_placeOf_32 : decode m_St_placeOf.2.1 32 = .ok (.ireturn, 1) := by decide +kernel
theorem d_St_rankOf_0 : decode m_St_rankOf.2.1 0 = .ok (.iconst 0, 1) := by decide +kernel
theorem d_St_rankOf_1 : decode m_St_rankOf.2.1 1 = .ok (.istore_n 2, 1) := by decide +kernel
theorem d_St_rankOf_2 : decode m_St_rankOf.2.1 2 = .ok (.iconst 0, 1) := by decide +kernel
theorem d_St_rankOf_3 : decode m_St_rankOf.2.1 3 = .ok (.istore_n 3, 1) := by decide +kernel
theorem d_St_rankOf_4 : decode m_St_rankOf.2.1 4 = .ok (.iload_n 3, 1) := by decide +kernel
theorem d_St_rankOf_5 : decode m_St_rankOf.2.1 5 = .ok (.aload_n 0, 1) := by decide +kernel
theorem d_St_rankOf_6 : decode m_St_rankOf.2.1 6 = .ok (.getfield 27, 3) := by decide +kernel
theorem d_St_rankOf_9 : decode m_St_rankOf.2.1 9 = .ok (.getfield 67, 3) := by decide +kernel
theorem d_St_rankOf_12 : decode m_St_rankOf.2.1 12 = .ok (.if_icmp .ge 42, 3) := by decide +kernel
theorem d_St_rankOf_15 : decode m_St_rankOf.2.1 15 = .ok (.aload_n 0, 1) := by decide +kernel
theorem d_St_rankOf_16 : decode m_St_rankOf.2.1 16 = .ok (.getfield 24, 3) := by decide +kernel
theorem d_St_rankOf_19 : decode m_St_rankOf.2.1 19 = .ok (.iload_n 3, 1) := by decide +kernel
theorem d_St_rankOf_20 : decode m_St_rankOf.2.1 20 = .ok (.iaload, 1) := by decide +kernel
theorem d_St_rankOf_21 : decode m_St_rankOf.2.1 21 = .ok (.iload_n 1, 1) := by decide +kernel
theorem d_St_rankOf_22 : decode m_St_rankOf.2.1 22 = .ok (.if_icmp .eq 32, 3) := by decide +kernel
theorem d_St_rankOf_25 : decode m_St_rankOf.2.1 25 = .ok (.aload_n 0, 1) := by decide +kernel
theorem d_St_rankOf_26 : decode m_St_rankOf.2.1 26 = .ok (.getfield 21, 3) := by decide +kernel
theorem d_St_rankOf_29 : decode m_St_rankOf.2.1 29 = .ok (.aload_n 0, 1) := by decide +kernel
theorem d_St_rankOf_30 : decode m_St_rankOf.2.1 30 = .ok (.getfield 24, 3) := by decide +kernel
theorem d_St_rankOf_33 : decode m_St_rankOf.2.1 33 = .ok (.iload_n 3, 1) := by decide +kernel
theorem d_St_rankOf_34 : decode m_St_rankOf.2.1 34 = .ok (.iaload, 1) := by decide +kernel
theorem d_St_rankOf_35 : decode m_St_rankOf.2.1 35 = .ok (.iaload, 1) := by decide +kernel
theorem d_St_rankOf_36 : decode m_St_rankOf.2.1 36 = .ok (.aload_n 0, 1) := by decide +kernel
theorem d_St_rankOf_37 : decode m_St_rankOf.2.1 37 = .ok (.getfield 21, 3) := by decide +kernel
theorem d_St_rankOf_40 : decode m_St_rankOf.2.1 40 = .ok (.iload_n 1, 1) := by decide +kernel
theorem d_St_rankOf_41 : decode m_St_rankOf.2.1 41 = .ok (.iaload, 1) := by decide +kernel
theorem d_St_rankOf_42 : decode m_St_rankOf.2.1 42 = .ok (.if_icmp .ne 6, 3) := by decide +kernel
theorem d_St_rankOf_45 : decode m_St_rankOf.2.1 45 = .ok (.iinc 2 1, 3) := by decide +kernel
theorem d_St_rankOf_48 : decode m_St_rankOf.2.1 48 = .ok (.iinc 3 1, 3) := by decide +kernel
theorem d_St_rankOf_51 : decode m_St_rankOf.2.1 51 = .ok (.goto (-47), 3) := by decide +kernel
theorem d_St_rankOf_54 : decode m_St_rankOf.2.1 54 = .ok (.iload_n 2, 1) := by decide +kernel
theorem d_St_rankOf_55 : decode m_St_rankOf.2.1 55 = .ok (.ireturn, 1) := by decide +kernel
theorem d_St_putFirst_0 : decode m_St_putFirst.2.1 0 = .ok (.aload_n 0, 1) := by decide +kernel
theorem d_St_putFirst_1 : decode m_St_putFirst.2.1 1 = .ok (.iload_n 1, 1) := by decide +kernel
theorem d_St_putFirst_2 : decode m_St_putFirst.2.1 2 = .ok (.invokevirtual 112, 3) := by decide +kernel
theorem d_St_putFirst_5 : decode m_St_putFirst.2.1 5 = .ok (.istore_n 2, 1) := by decide +kernel
theorem d_St_putFirst_6 : decode m_St_putFirst.2.1 6 = .ok (.iload_n 2, 1) := by decide +kernel
theorem d_St_putFirst_7 : decode m_St_putFirst.2.1 7 = .ok (.ifCond .le 23, 3) := by decide +kernel
theorem d_St_putFirst_10 : decode m_St_putFirst.2.1 10 = .ok (.aload_n 0, 1) := by decide +kernel
theorem d_St_putFirst_11 : decode m_St_putFirst.2.1 11 = .ok (.getfield 24, 3) := by decide +kernel
theorem d_St_putFirst_14 : decode m_St_putFirst.2.1 14 = .ok (.iload_n 2, 1) := by decide +kernel
theorem d_St_putFirst_15 : decode m_St_putFirst.2.1 15 = .ok (.aload_n 0, 1) := by decide +kernel
theorem d_St_putFirst_16 : decode m_St_putFirst.2.1 16 = .ok (.getfield 24, 3) := by decide +kernel
theorem d_St_putFirst_19 : decode m_St_putFirst.2.1 19 = .ok (.iload_n 2, 1) := by decide +kernel
theorem d_St_putFirst_20 : decode m_St_putFirst.2.1 20 = .ok (.iconst 1, 1) := by decide +kernel
theorem d_St_putFirst_21 : decode m_St_putFirst.2.1 21 = .ok (.isub, 1) := by decide +kernel
theorem d_St_putFirst_22 : decode m_St_putFirst.2.1 22 = .ok (.iaload, 1) := by decide +kernel
theorem d_St_putFirst_23 : decode m_St_putFirst.2.1 23 = .ok (.iastore, 1) := by decide +kernel
theorem d_St_putFirst_24 : decode m_St_putFirst.2.1 24 = .ok (.iinc 2 (-1), 3) := by decide +kernel
theorem d_St_putFirst_27 : decode m_St_putFirst.2.1 27 = .ok (.goto (-21), 3) := by decide +kernel
theorem d_St_putFirst_30 : decode m_St_putFirst.2.1 30 = .ok (.aload_n 0, 1) := by decide +kernel
theorem d_St_putFirst_31 : decode m_St_putFirst.2.1 31 = .ok (.getfield 24, 3) := by decide +kernel
theorem d_St_putFirst_34 : decode m_St_putFirst.2.1 34 = .ok (.iconst 0, 1) := by decide +kernel
theorem d_St_putFirst_35 : decode m_St_putFirst.2.1 35 = .ok (.iload_n 1, 1) := by decide +kernel
theorem d_St_putFirst_36 : decode m_St_putFirst.2.1 36 = .ok (.iastore, 1) := by decide +kernel
theorem d_St_putFirst_37 : decode m_St_putFirst.2.1 37 = .ok (.return_, 1) := by decide +kernel
theorem d_Ps_restoreLatest_0 : decode m_Ps_restoreLatest.2.1 0 = .ok (.aload_n 0, 1) := by decide +kernel
theorem d_Ps_restoreLatest_1 : decode m_Ps_restoreLatest.2.1 1 = .ok (.getfield 26, 3) := by decide +kernel
theorem d_Ps_restoreLatest_4 : decode m_Ps_restoreLatest.2.1 4 = .ok (.ifCond .le 42, 3) := by decide +kernel
theorem d_Ps_restoreLatest_7 : decode m_Ps_restoreLatest.2.1 7 = .ok (.aload_n 0, 1) := by decide +kernel
theorem d_Ps_restoreLatest_8 : decode m_Ps_restoreLatest.2.1 8 = .ok (.aload_n 0, 1) := by decide +kernel
theorem d_Ps_restoreLatest_9 : decode m_Ps_restoreLatest.2.1 9 = .ok (.getfield 18, 3) := by decide +kernel
theorem d_Ps_restoreLatest_12 : decode m_Ps_restoreLatest.2.1 12 = .ok (.bipush 8, 2) := by decide +kernel
theorem d_Ps_restoreLatest_14 : decode m_Ps_restoreLatest.2.1 14 = .ok (.iadd, 1) := by decide +kernel
theorem d_Ps_restoreLatest_15 : decode m_Ps_restoreLatest.2.1 15 = .ok (.iconst 1, 1) := by decide +kernel
theorem d_Ps_restoreLatest_16 : decode m_Ps_restoreLatest.2.1 16 = .ok (.isub, 1) := by decide +kernel
theorem d_Ps_restoreLatest_17 : decode m_Ps_restoreLatest.2.1 17 = .ok (.bipush 8, 2) := by decide +kernel
theorem d_Ps_restoreLatest_19 : decode m_Ps_restoreLatest.2.1 19 = .ok (.irem, 1) := by decide +kernel
theorem d_Ps_restoreLatest_20 : decode m_Ps_restoreLatest.2.1 20 = .ok (.putfield 18, 3) := by decide +kernel
theorem d_Ps_restoreLatest_23 : decode m_Ps_restoreLatest.2.1 23 = .ok (.aload_n 1, 1) := by decide +kernel
theorem d_Ps_restoreLatest_24 : decode m_Ps_restoreLatest.2.1 24 = .ok (.aload_n 0, 1) := by decide +kernel
theorem d_Ps_restoreLatest_25 : decode m_Ps_restoreLatest.2.1 25 = .ok (.getfield 11, 3) := by decide +kernel
theorem d_Ps_restoreLatest_28 : decode m_Ps_restoreLatest.2.1 28 = .ok (.aload_n 0, 1) := by decide +kernel
theorem d_Ps_restoreLatest_29 : decode m_Ps_restoreLatest.2.1 29 = .ok (.getfield 18, 3) := by decide +kernel
theorem d_Ps_restoreLatest_32 : decode m_Ps_restoreLatest.2.1 32 = .ok (.aaload, 1) := by decide +kernel
theorem d_Ps_restoreLatest_33 : decode m_Ps_restoreLatest.2.1 33 = .ok (.invokevirtual 22, 3) := by decide +kernel
theorem d_Ps_restoreLatest_36 : decode m_Ps_restoreLatest.2.1 36 = .ok (.aload_n 0, 1) := by decide +kernel
theorem d_Ps_restoreLatest_37 : decode m_Ps_restoreLatest.2.1 37 = .ok (.dup, 1) := by decide +kernel
theorem d_Ps_restoreLatest_38 : decode m_Ps_restoreLatest.2.1 38 = .ok (.getfield 26, 3) := by decide +kernel
theorem d_Ps_restoreLatest_41 : decode m_Ps_restoreLatest.2.1 41 = .ok (.iconst 1, 1) := by decide +kernel
theorem d_Ps_restoreLatest_42 : decode m_Ps_restoreLatest.2.1 42 = .ok (.isub, 1) := by decide +kernel
theorem d_Ps_restoreLatest_43 : decode m_Ps_restoreLatest.2.1 43 = .ok (.putfield 26, 3) := by decide +kernel
theorem d_Ps_restoreLatest_46 : decode m_Ps_restoreLatest.2.1 46 = .ok (.return_, 1) := by decide +kernel
theorem d_St_neverKept_0 : decode m_St_neverKept.2.1 0 = .ok (.iconst 0, 1) := by decide +kernel
theorem d_St_neverKept_1 : decode m_St_neverKept.2.1 1 = .ok (.istore_n 1, 1) := by decide +kernel
theorem d_St_neverKept_2 : decode m_St_neverKept.2.1 2 = .ok (.iconst 0, 1) := by decide +kernel
theorem d_St_neverKept_3 : decode m_St_neverKept.2.1 3 = .ok (.istore_n 2, 1) := by decide +kernel
theorem d_St_neverKept_4 : decode m_St_neverKept.2.1 4 = .ok (.iload_n 2, 1) := by decide +kernel
theorem d_St_neverKept_5 : decode m_St_neverKept.2.1 5 = .ok (.aload_n 0, 1) := by decide +kernel
theorem d_St_neverKept_6 : decode m_St_neverKept.2.1 6 = .ok (.getfield 27, 3) := by decide +kernel
theorem d_St_neverKept_9 : decode m_St_neverKept.2.1 9 = .ok (.getfield 67, 3) := by decide +kernel
theorem d_St_neverKept_12 : decode m_St_neverKept.2.1 12 = .ok (.if_icmp .ge 78, 3) := by decide +kernel
theorem d_St_neverKept_15 : decode m_St_neverKept.2.1 15 = .ok (.aload_n 0, 1) := by decide +kernel
theorem d_St_neverKept_16 : decode m_St_neverKept.2.1 16 = .ok (.getfield 27, 3) := by decide +kernel
theorem d_St_neverKept_19 : decode m_St_neverKept.2.1 19 = .ok (.getfield 49, 3) := by decide +kernel
theorem d_St_neverKept_22 : decode m_St_neverKept.2.1 22 = .ok (.iload_n 2, 1) := by decide +kernel
theorem d_St_neverKept_23 : decode m_St_neverKept.2.1 23 = .ok (.iaload, 1) := by decide +kernel
theorem d_St_neverKept_24 : decode m_St_neverKept.2.1 24 = .ok (.invokestatic 52, 3) := by decide +kernel
theorem d_St_neverKept_27 : decode m_St_neverKept.2.1 27 = .ok (.ifCond .eq 21, 3) := by decide +kernel
theorem d_St_neverKept_30 : decode m_St_neverKept.2.1 30 = .ok (.aload_n 0, 1) := by decide +kernel
theorem d_St_neverKept_31 : decode m_St_neverKept.2.1 31 = .ok (.getfield 27, 3) := by decide +kernel
theorem d_St_neverKept_34 : decode m_St_neverKept.2.1 34 = .ok (.getfield 58, 3) := by decide +kernel
theorem d_St_neverKept_37 : decode m_St_neverKept.2.1 37 = .ok (.iload_n 2, 1) := by decide +kernel
theorem d_St_neverKept_38 : decode m_St_neverKept.2.1 38 = .ok (.iaload, 1) := by decide +kernel
theorem d_St_neverKept_39 : decode m_St_neverKept.2.1 39 = .ok (.iload_n 1, 1) := by decide +kernel
theorem d_St_neverKept_40 : decode m_St_neverKept.2.1 40 = .ok (.iand, 1) := by decide +kernel
theorem d_St_neverKept_41 : decode m_St_neverKept.2.1 41 = .ok (.ifCond .eq 7, 3) := by decide +kernel
theorem d_St_neverKept_44 : decode m_St_neverKept.2.1 44 = .ok (.iconst 1, 1) := by decide +kernel
theorem d_St_neverKept_45 : decode m_St_neverKept.2.1 45 = .ok (.goto 4, 3) := by decide +kernel
theorem d_St_neverKept_48 : decode m_St_neverKept.2.1 48 = .ok (.iconst 0, 1) := by decide +kernel
theorem d_St_neverKept_49 : decode m_St_neverKept.2.1 49 = .ok (.istore_n 3, 1) := by decide +kernel
theorem d_St_neverKept_50 : decode m_St_neverKept.2.1 50 = .ok (.aload_n 0, 1) := by decide +kernel
theorem d_St_neverKept_51 : decode m_St_neverKept.2.1 51 = .ok (.getfield 46, 3) := by decide +kernel
theorem d_St_neverKept_54 : decode m_St_neverKept.2.1 54 = .ok (.iload_n 2, 1) := by decide +kernel
theorem d_St_neverKept_55 : decode m_St_neverKept.2.1 55 = .ok (.ishr, 1) := by decide +kernel
theorem d_St_neverKept_56 : decode m_St_neverKept.2.1 56 = .ok (.iconst 1, 1) := by decide +kernel
theorem d_St_neverKept_57 : decode m_St_neverKept.2.1 57 = .ok (.iand, 1) := by decide +kernel
theorem d_St_neverKept_58 : decode m_St_neverKept.2.1 58 = .ok (.ifCond .ne 26, 3) := by decide +kernel
theorem d_St_neverKept_61 : decode m_St_neverKept.2.1 61 = .ok (.aload_n 0, 1) := by decide +kernel
theorem d_St_neverKept_62 : decode m_St_neverKept.2.1 62 = .ok (.getfield 27, 3) := by decide +kernel
theorem d_St_neverKept_65 : decode m_St_neverKept.2.1 65 = .ok (.getfield 49, 3) := by decide +kernel
theorem d_St_neverKept_68 : decode m_St_neverKept.2.1 68 = .ok (.iload_n 2, 1) := by decide +kernel
theorem d_St_neverKept_69 : decode m_St_neverKept.2.1 69 = .ok (.iaload, 1) := by decide +kernel
theorem d_St_neverKept_70 : decode m_St_neverKept.2.1 70 = .ok (.iconst 4, 1) := by decide +kernel
theorem d_St_neverKept_71 : decode m_St_neverKept.2.1 71 = .ok (.if_icmp .eq 7, 3) := by decide +kernel
theorem d_St_neverKept_74 : decode m_St_neverKept.2.1 74 = .ok (.iload_n 3, 1) := by decide +kernel
theorem d_St_neverKept_75 : decode m_St_neverKept.2.1 75 = .ok (.ifCond .eq 9, 3) := by decide +kernel
theorem d_St_neverKept_78 : decode m_St_neverKept.2.1 78 = .ok (.iload_n 1, 1) := by decide +kernel
theorem d_St_neverKept_79 : decode m_St_neverKept.2.1 79 = .ok (.iconst 1, 1) := by decide +kernel
theorem d_St_neverKept_80 : decode m_St_neverKept.2.1 80 = .ok (.iload_n 2, 1) := by decide +kernel
theorem d_St_neverKept_81 : decode m_St_neverKept.2.1 81 = .ok (.ishl, 1) := by decide +kernel
theorem d_St_neverKept_82 : decode m_St_neverKept.2.1 82 = .ok (.ior, 1) := by decide +kernel
theorem d_St_neverKept_83 : decode m_St_neverKept.2.1 83 = .ok (.istore_n 1, 1) := by decide +kernel
theorem d_St_neverKept_84 : decode m_St_neverKept.2.1 84 = .ok (.iinc 2 1, 3) := by decide +kernel
theorem d_St_neverKept_87 : decode m_St_neverKept.2.1 87 = .ok (.goto (-83), 3) := by decide +kernel
theorem d_St_neverKept_90 : decode m_St_neverKept.2.1 90 = .ok (.iload_n 1, 1) := by decide +kernel
theorem d_St_neverKept_91 : decode m_St_neverKept.2.1 91 = .ok (.ireturn, 1) := by decide +kernel
theorem d_St_deadOnes_0 : decode m_St_deadOnes.2.1 0 = .ok (.iconst 0, 1) := by decide +kernel
theorem d_St_deadOnes_1 : decode m_St_deadOnes.2.1 1 = .ok (.istore_n 1, 1) := by decide +kernel
theorem d_St_deadOnes_2 : decode m_St_deadOnes.2.1 2 = .ok (.iconst 0, 1) := by decide +kernel
theorem d_St_deadOnes_3 : decode m_St_deadOnes.2.1 3 = .ok (.istore_n 2, 1) := by decide +kernel
theorem d_St_deadOnes_4 : decode m_St_deadOnes.2.1 4 = .ok (.iload_n 2, 1) := by decide +kernel
theorem d_St_deadOnes_5 : decode m_St_deadOnes.2.1 5 = .ok (.aload_n 0, 1) := by decide +kernel
theorem d_St_deadOnes_6 : decode m_St_deadOnes.2.1 6 = .ok (.getfield 27, 3) := by decide +kernel
theorem d_St_deadOnes_9 : decode m_St_deadOnes.2.1 9 = .ok (.getfield 93, 3) := by decide +kernel
theorem d_St_deadOnes_12 : decode m_St_deadOnes.2.1 12 = .ok (.if_icmp .ge 24, 3) := by decide +kernel
theorem d_St_deadOnes_15 : decode m_St_deadOnes.2.1 15 = .ok (.aload_n 0, 1) := by decide +kernel
theorem d_St_deadOnes_16 : decode m_St_deadOnes.2.1 16 = .ok (.getfield 9, 3) := by decide +kernel
theorem d_St_deadOnes_19 : decode m_St_deadOnes.2.1 19 = .ok (.iload_n 2, 1) := by decide +kernel
theorem d_St_deadOnes_20 : decode m_St_deadOnes.2.1 20 = .ok (.iaload, 1) := by decide +kernel
theorem d_St_deadOnes_21 : decode m_St_deadOnes.2.1 21 = .ok (.ifCond .ne 9, 3) := by decide +kernel
theorem d_St_deadOnes_24 : decode m_St_deadOnes.2.1 24 = .ok (.iload_n 1, 1) := by decide +kernel
theorem d_St_deadOnes_25 : decode m_St_deadOnes.2.1 25 = .ok (.iconst 1, 1) := by decide +kernel
theorem d_St_deadOnes_26 : decode m_St_deadOnes.2.1 26 = .ok (.iload_n 2, 1) := by decide +kernel
theorem d_St_deadOnes_27 : decode m_St_deadOnes.2.1 27 = .ok (.ishl, 1) := by decide +kernel
theorem d_St_deadOnes_28 : decode m_St_deadOnes.2.1 28 = .ok (.ior, 1) := by decide +kernel
theorem d_St_deadOnes_29 : decode m_St_deadOnes.2.1 29 = .ok (.istore_n 1, 1) := by decide +kernel
theorem d_St_deadOnes_30 : decode m_St_deadOnes.2.1 30 = .ok (.iinc 2 1, 3) := by decide +kernel
theorem d_St_deadOnes_33 : decode m_St_deadOnes.2.1 33 = .ok (.goto (-29), 3) := by decide +kernel
theorem d_St_deadOnes_36 : decode m_St_deadOnes.2.1 36 = .ok (.iload_n 1, 1) := by decide +kernel
theorem d_St_deadOnes_37 : decode m_St_deadOnes.2.1 37 = .ok (.ireturn, 1) := by decide +kernel
theorem d_St_allDone_0 : decode m_St_allDone.2.1 0 = .ok (.iconst 0, 1) := by decide +kernel
theorem d_St_allDone_1 : decode m_St_allDone.2.1 1 = .ok (.istore_n 1, 1) := by decide +kernel
theorem d_St_allDone_2 : decode m_St_allDone.2.1 2 = .ok (.iconst 0, 1) := by decide +kernel
theorem d_St_allDone_3 : decode m_St_allDone.2.1 3 = .ok (.istore_n 2, 1) := by decide +kernel
theorem d_St_allDone_4 : decode m_St_allDone.2.1 4 = .ok (.iload_n 2, 1) := by decide +kernel
theorem d_St_allDone_5 : decode m_St_allDone.2.1 5 = .ok (.aload_n 0, 1) := by decide +kernel
theorem d_St_allDone_6 : decode m_St_allDone.2.1 6 = .ok (.getfield 27, 3) := by decide +kernel
theorem d_St_allDone_9 : decode m_St_allDone.2.1 9 = .ok (.getfield 67, 3) := by decide +kernel
theorem d_St_allDone_12 : decode m_St_allDone.2.1 12 = .ok (.if_icmp .ge 18, 3) := by decide +kernel
theorem d_St_allDone_15 : decode m_St_allDone.2.1 15 = .ok (.iload_n 1, 1) := by decide +kernel
theorem d_St_allDone_16 : decode m_St_allDone.2.1 16 = .ok (.aload_n 0, 1) := by decide +kernel
theorem d_St_allDone_17 : decode m_St_allDone.2.1 17 = .ok (.getfield 18, 3) := by decide +kernel
theorem d_St_allDone_20 : decode m_St_allDone.2.1 20 = .ok (.iload_n 2, 1) := by decide +kernel
theorem d_St_allDone_21 : decode m_St_allDone.2.1 21 = .ok (.iaload, 1) := by decide +kernel
theorem d_St_allDone_22 : decode m_St_allDone.2.1 22 = .ok (.iadd, 1) := by decide +kernel
theorem d_St_allDone_23 : decode m_St_allDone.2.1 23 = .ok (.istore_n 1, 1) := by decide +kernel
theorem d_St_allDone_24 : decode m_St_allDone.2.1 24 = .ok (.iinc 2 1, 3) := by decide +kernel
theorem d_St_allDone_27 : decode m_St_allDone.2.1 27 = .ok (.goto (-23), 3) := by decide +kernel
theorem d_St_allDone_30 : decode m_St_allDone.2.1 30 = .ok (.iload_n 1, 1) := by decide +kernel
theorem d_St_allDone_31 : decode m_St_allDone.2.1 31 = .ok (.ireturn, 1) := by decide +kernel
