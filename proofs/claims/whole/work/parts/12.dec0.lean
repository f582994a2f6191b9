theorem d_Pn_init_0 : decode m_Pn_init.2.1 0 = .ok (.aload_n 0, 1) := by decide +kernel
theorem d_Pn_init_1 : decode m_Pn_init.2.1 1 = .ok (.invokespecial 1, 3) := by decide +kernel
theorem d_Pn_init_4 : decode m_Pn_init.2.1 4 = .ok (.aload_n 0, 1) := by decide +kernel
theorem d_Pn_init_5 : decode m_Pn_init.2.1 5 = .ok (.new 7, 3) := by decide +kernel
theorem d_Pn_init_8 : decode m_Pn_init.2.1 8 = .ok (.dup, 1) := by decide +kernel
theorem d_Pn_init_9 : decode m_Pn_init.2.1 9 = .ok (.invokespecial 9, 3) := by decide +kernel
theorem d_Pn_init_12 : decode m_Pn_init.2.1 12 = .ok (.putfield 10, 3) := by decide +kernel
theorem d_Pn_init_15 : decode m_Pn_init.2.1 15 = .ok (.aload_n 0, 1) := by decide +kernel
theorem d_Pn_init_16 : decode m_Pn_init.2.1 16 = .ok (.new 7, 3) := by decide +kernel
theorem d_Pn_init_19 : decode m_Pn_init.2.1 19 = .ok (.dup, 1) := by decide +kernel
theorem d_Pn_init_20 : decode m_Pn_init.2.1 20 = .ok (.invokespecial 9, 3) := by decide +kernel
theorem d_Pn_init_23 : decode m_Pn_init.2.1 23 = .ok (.putfield 16, 3) := by decide +kernel
theorem d_Pn_init_26 : decode m_Pn_init.2.1 26 = .ok (.aload_n 0, 1) := by decide +kernel
theorem d_Pn_init_27 : decode m_Pn_init.2.1 27 = .ok (.new 19, 3) := by decide +kernel
theorem d_Pn_init_30 : decode m_Pn_init.2.1 30 = .ok (.dup, 1) := by decide +kernel
theorem d_Pn_init_31 : decode m_Pn_init.2.1 31 = .ok (.invokespecial 21, 3) := by decide +kernel
theorem d_Pn_init_34 : decode m_Pn_init.2.1 34 = .ok (.putfield 22, 3) := by decide +kernel
theorem d_Pn_init_37 : decode m_Pn_init.2.1 37 = .ok (.aload_n 0, 1) := by decide +kernel
theorem d_Pn_init_38 : decode m_Pn_init.2.1 38 = .ok (.new 26, 3) := by decide +kernel
theorem d_Pn_init_41 : decode m_Pn_init.2.1 41 = .ok (.dup, 1) := by decide +kernel
theorem d_Pn_init_42 : decode m_Pn_init.2.1 42 = .ok (.aload_n 0, 1) := by decide +kernel
theorem d_Pn_init_43 : decode m_Pn_init.2.1 43 = .ok (.getfield 10, 3) := by decide +kernel
theorem d_Pn_init_46 : decode m_Pn_init.2.1 46 = .ok (.invokespecial 28, 3) := by decide +kernel
theorem d_Pn_init_49 : decode m_Pn_init.2.1 49 = .ok (.putfield 31, 3) := by decide +kernel
theorem d_Pn_init_52 : decode m_Pn_init.2.1 52 = .ok (.aload_n 0, 1) := by decide +kernel
theorem d_Pn_init_53 : decode m_Pn_init.2.1 53 = .ok (.new 35, 3) := by decide +kernel
theorem d_Pn_init_56 : decode m_Pn_init.2.1 56 = .ok (.dup, 1) := by decide +kernel
theorem d_Pn_init_57 : decode m_Pn_init.2.1 57 = .ok (.aload_n 0, 1) := by decide +kernel
theorem d_Pn_init_58 : decode m_Pn_init.2.1 58 = .ok (.getfield 10, 3) := by decide +kernel
theorem d_Pn_init_61 : decode m_Pn_init.2.1 61 = .ok (.invokespecial 37, 3) := by decide +kernel
theorem d_Pn_init_64 : decode m_Pn_init.2.1 64 = .ok (.putfield 38, 3) := by decide +kernel
theorem d_Pn_init_67 : decode m_Pn_init.2.1 67 = .ok (.aload_n 0, 1) := by decide +kernel
theorem d_Pn_init_68 : decode m_Pn_init.2.1 68 = .ok (.iconst 2, 1) := by decide +kernel
theorem d_Pn_init_69 : decode m_Pn_init.2.1 69 = .ok (.anewarray 26, 3) := by decide +kernel
theorem d_Pn_init_72 : decode m_Pn_init.2.1 72 = .ok (.putfield 42, 3) := by decide +kernel
theorem d_Pn_init_75 : decode m_Pn_init.2.1 75 = .ok (.aload_n 0, 1) := by decide +kernel
theorem d_Pn_init_76 : decode m_Pn_init.2.1 76 = .ok (.iconst 2, 1) := by decide +kernel
theorem d_Pn_init_77 : decode m_Pn_init.2.1 77 = .ok (.newarray .boolean, 2) := by decide +kernel
theorem d_Pn_init_79 : decode m_Pn_init.2.1 79 = .ok (.putfield 46, 3) := by decide +kernel
theorem d_Pn_init_82 : decode m_Pn_init.2.1 82 = .ok (.aload_n 0, 1) := by decide +kernel
theorem d_Pn_init_83 : decode m_Pn_init.2.1 83 = .ok (.new 50, 3) := by decide +kernel
theorem d_Pn_init_86 : decode m_Pn_init.2.1 86 = .ok (.dup, 1) := by decide +kernel
theorem d_Pn_init_87 : decode m_Pn_init.2.1 87 = .ok (.aload_n 0, 1) := by decide +kernel
theorem d_Pn_init_88 : decode m_Pn_init.2.1 88 = .ok (.getfield 10, 3) := by decide +kernel
theorem d_Pn_init_91 : decode m_Pn_init.2.1 91 = .ok (.invokespecial 52, 3) := by decide +kernel
theorem d_Pn_init_94 : decode m_Pn_init.2.1 94 = .ok (.putfield 53, 3) := by decide +kernel
theorem d_Pn_init_97 : decode m_Pn_init.2.1 97 = .ok (.aload_n 0, 1) := by decide +kernel
theorem d_Pn_init_98 : decode m_Pn_init.2.1 98 = .ok (.new 57, 3) := by decide +kernel
theorem d_Pn_init_101 : decode m_Pn_init.2.1 101 = .ok (.dup, 1) := by decide +kernel
theorem d_Pn_init_102 : decode m_Pn_init.2.1 102 = .ok (.invokespecial 59, 3) := by decide +kernel
theorem d_Pn_init_105 : decode m_Pn_init.2.1 105 = .ok (.putfield 60, 3) := by decide +kernel
theorem d_Pn_init_108 : decode m_Pn_init.2.1 108 = .ok (.aload_n 0, 1) := by decide +kernel
theorem d_Pn_init_109 : decode m_Pn_init.2.1 109 = .ok (.new 64, 3) := by decide +kernel
theorem d_Pn_init_112 : decode m_Pn_init.2.1 112 = .ok (.dup, 1) := by decide +kernel
theorem d_Pn_init_113 : decode m_Pn_init.2.1 113 = .ok (.invokespecial 66, 3) := by decide +kernel
theorem d_Pn_init_116 : decode m_Pn_init.2.1 116 = .ok (.putfield 67, 3) := by decide +kernel
theorem d_Pn_init_119 : decode m_Pn_init.2.1 119 = .ok (.iconst 0, 1) := by decide +kernel
theorem d_Pn_init_120 : decode m_Pn_init.2.1 120 = .ok (.istore_n 1, 1) := by decide +kernel
theorem d_Pn_init_121 : decode m_Pn_init.2.1 121 = .ok (.iload_n 1, 1) := by decide +kernel
theorem d_Pn_init_122 : decode m_Pn_init.2.1 122 = .ok (.iconst 2, 1) := by decide +kernel
theorem d_Pn_init_123 : decode m_Pn_init.2.1 123 = .ok (.if_icmp .ge 26, 3) := by decide +kernel
theorem d_Pn_init_126 : decode m_Pn_init.2.1 126 = .ok (.aload_n 0, 1) := by decide +kernel
theorem d_Pn_init_127 : decode m_Pn_init.2.1 127 = .ok (.getfield 42, 3) := by decide +kernel
theorem d_Pn_init_130 : decode m_Pn_init.2.1 130 = .ok (.iload_n 1, 1) := by decide +kernel
theorem d_Pn_init_131 : decode m_Pn_init.2.1 131 = .ok (.new 26, 3) := by decide +kernel
theorem d_Pn_init_134 : decode m_Pn_init.2.1 134 = .ok (.dup, 1) := by decide +kernel
theorem d_Pn_init_135 : decode m_Pn_init.2.1 135 = .ok (.aload_n 0, 1) := by decide +kernel
theorem d_Pn_init_136 : decode m_Pn_init.2.1 136 = .ok (.getfield 10, 3) := by decide +kernel
theorem d_Pn_init_139 : decode m_Pn_init.2.1 139 = .ok (.invokespecial 28, 3) := by decide +kernel
theorem d_Pn_init_142 : decode m_Pn_init.2.1 142 = .ok (.aastore, 1) := by decide +kernel
theorem d_Pn_init_143 : decode m_Pn_init.2.1 143 = .ok (.iinc 1 1, 3) := by decide +kernel
theorem d_Pn_init_146 : decode m_Pn_init.2.1 146 = .ok (.goto (-25), 3) := by decide +kernel
theorem d_Pn_init_149 : decode m_Pn_init.2.1 149 = .ok (.return_, 1) := by decide +kernel
theorem d_Pn_write_0 : decode m_Pn_write.2.1 0 = .ok (.iload_n 1, 1) := by decide +kernel
theorem d_Pn_write_1 : decode m_Pn_write.2.1 1 = .ok (.iconst 0, 1) := by decide +kernel
theorem d_Pn_write_2 : decode m_Pn_write.2.1 2 = .ok (.sipush 255, 3) := by decide +kernel
theorem d_Pn_write_5 : decode m_Pn_write.2.1 5 = .ok (.invokestatic 71, 3) := by decide +kernel
theorem d_Pn_write_8 : decode m_Pn_write.2.1 8 = .ok (.ifCond .ne 6, 3) := by decide +kernel
theorem d_Pn_write_11 : decode m_Pn_write.2.1 11 = .ok (.bipush (-3), 2) := by decide +kernel
theorem d_Pn_write_13 : decode m_Pn_write.2.1 13 = .ok (.ireturn, 1) := by decide +kernel
theorem d_Pn_write_14 : decode m_Pn_write.2.1 14 = .ok (.aload_n 0, 1) := by decide +kernel
theorem d_Pn_write_15 : decode m_Pn_write.2.1 15 = .ok (.getfield 22, 3) := by decide +kernel
theorem d_Pn_write_18 : decode m_Pn_write.2.1 18 = .ok (.iload_n 1, 1) := by decide +kernel
theorem d_Pn_write_19 : decode m_Pn_write.2.1 19 = .ok (.invokevirtual 75, 3) := by decide +kernel
theorem d_Pn_write_22 : decode m_Pn_write.2.1 22 = .ok (.ifCond .eq 13, 3) := by decide +kernel
theorem d_Pn_write_25 : decode m_Pn_write.2.1 25 = .ok (.aload_n 0, 1) := by decide +kernel
theorem d_Pn_write_26 : decode m_Pn_write.2.1 26 = .ok (.getfield 22, 3) := by decide +kernel
theorem d_Pn_write_29 : decode m_Pn_write.2.1 29 = .ok (.getfield 79, 3) := by decide +kernel
theorem d_Pn_write_32 : decode m_Pn_write.2.1 32 = .ok (.goto 5, 3) := by decide +kernel
theorem d_Pn_write_35 : decode m_Pn_write.2.1 35 = .ok (.bipush (-5), 2) := by decide +kernel
theorem d_Pn_write_37 : decode m_Pn_write.2.1 37 = .ok (.ireturn, 1) := by decide +kernel
theorem d_Pn_isWithin_0 : decode m_Pn_isWithin.2.1 0 = .ok (.iload_n 0, 1) := by decide +kernel
theorem d_Pn_isWithin_1 : decode m_Pn_isWithin.2.1 1 = .ok (.iload_n 1, 1) := by decide +kernel
theorem d_Pn_isWithin_2 : decode m_Pn_isWithin.2.1 2 = .ok (.if_icmp .lt 12, 3) := by decide +kernel
theorem d_Pn_isWithin_5 : decode m_Pn_isWithin.2.1 5 = .ok (.iload_n 0, 1) := by decide +kernel
theorem d_Pn_isWithin_6 : decode m_Pn_isWithin.2.1 6 = .ok (.iload_n 2, 1) := by decide +kernel
theorem d_Pn_isWithin_7 : decode m_Pn_isWithin.2.1 7 = .ok (.if_icmp .gt 7, 3) := by decide +kernel
theorem d_Pn_isWithin_10 : decode m_Pn_isWithin.2.1 10 = .ok (.iconst 1, 1) := by decide +kernel
theorem d_Pn_isWithin_11 : decode m_Pn_isWithin.2.1 11 = .ok (.goto 4, 3) := by decide +kernel
theorem d_Pn_isWithin_14 : decode m_Pn_isWithin.2.1 14 = .ok (.iconst 0, 1) := by decide +kernel
theorem d_Pn_isWithin_15 : decode m_Pn_isWithin.2.1 15 = .ok (.ireturn, 1) := by decide +kernel
theorem d_Pn_erase_0 : decode m_Pn_erase.2.1 0 = .ok (.aload_n 0, 1) := by decide +kernel
theorem d_Pn_erase_1 : decode m_Pn_erase.2.1 1 = .ok (.getfield 22, 3) := by decide +kernel
theorem d_Pn_erase_4 : decode m_Pn_erase.2.1 4 = .ok (.getfield 79, 3) := by decide +kernel
theorem d_Pn_erase_7 : decode m_Pn_erase.2.1 7 = .ok (.istore_n 1, 1) := by decide +kernel
theorem d_Pn_erase_8 : decode m_Pn_erase.2.1 8 = .ok (.aload_n 0, 1) := by decide +kernel
theorem d_Pn_erase_9 : decode m_Pn_erase.2.1 9 = .ok (.getfield 22, 3) := by decide +kernel
theorem d_Pn_erase_12 : decode m_Pn_erase.2.1 12 = .ok (.iconst 0, 1) := by decide +kernel
theorem d_Pn_erase_13 : decode m_Pn_erase.2.1 13 = .ok (.putfield 79, 3) := by decide +kernel
theorem d_Pn_erase_16 : decode m_Pn_erase.2.1 16 = .ok (.iload_n 1, 1) := by decide +kernel
theorem d_Pn_erase_17 : decode m_Pn_erase.2.1 17 = .ok (.ireturn, 1) := by decide +kernel
theorem d_Pn_fault_0 : decode m_Pn_fault.2.1 0 = .ok (.aload_n 0, 1) := by decide +kernel
theorem d_Pn_fault_1 : decode m_Pn_fault.2.1 1 = .ok (.getfield 16, 3) := by decide +kernel
theorem d_Pn_fault_4 : decode m_Pn_fault.2.1 4 = .ok (.aload_n 0, 1) := by decide +kernel
theorem d_Pn_fault_5 : decode m_Pn_fault.2.1 5 = .ok (.getfield 10, 3) := by decide +kernel
theorem d_Pn_fault_8 : decode m_Pn_fault.2.1 8 = .ok (.invokevirtual 83, 3) := by decide +kernel
theorem d_Pn_fault_11 : decode m_Pn_fault.2.1 11 = .ok (.aload_n 0, 1) := by decide +kernel
theorem d_Pn_fault_12 : decode m_Pn_fault.2.1 12 = .ok (.getfield 22, 3) := by decide +kernel
theorem d_Pn_fault_15 : decode m_Pn_fault.2.1 15 = .ok (.aload_n 0, 1) := by decide +kernel
theorem d_Pn_fault_16 : decode m_Pn_fault.2.1 16 = .ok (.getfield 16, 3) := by decide +kernel
theorem d_Pn_fault_19 : decode m_Pn_fault.2.1 19 = .ok (.invokevirtual 86, 3) := by decide +kernel
theorem d_Pn_fault_22 : decode m_Pn_fault.2.1 22 = .ok (.ireturn, 1) := by decide +kernel
theorem d_Pn_parish_0 : decode m_Pn_parish.2.1 0 = .ok (.aload_n 0, 1) := by decide +kernel
theorem d_Pn_parish_1 : decode m_Pn_parish.2.1 1 = .ok (.getfield 16, 3) := by decide +kernel
theorem d_Pn_parish_4 : decode m_Pn_parish.2.1 4 = .ok (.aload_n 0, 1) := by decide +kernel
theorem d_Pn_parish_5 : decode m_Pn_parish.2.1 5 = .ok (.getfield 10, 3) := by decide +kernel
theorem d_Pn_parish_8 : decode m_Pn_parish.2.1 8 = .ok (.invokevirtual 83, 3) := by decide +kernel
theorem d_Pn_parish_11 : decode m_Pn_parish.2.1 11 = .ok (.aload_n 0, 1) := by decide +kernel
theorem d_Pn_parish_12 : decode m_Pn_parish.2.1 12 = .ok (.getfield 22, 3) := by decide +kernel
theorem d_Pn_parish_15 : decode m_Pn_parish.2.1 15 = .ok (.aload_n 0, 1) := by decide +kernel
theorem d_Pn_parish_16 : decode m_Pn_parish.2.1 16 = .ok (.getfield 16, 3) := by decide +kernel
theorem d_Pn_parish_19 : decode m_Pn_parish.2.1 19 = .ok (.invokevirtual 86, 3) := by decide +kernel
theorem d_Pn_parish_22 : decode m_Pn_parish.2.1 22 = .ok (.iconst (-1), 1) := by decide +kernel
theorem d_Pn_parish_23 : decode m_Pn_parish.2.1 23 = .ok (.if_icmp .eq 6, 3) := by decide +kernel
theorem d_Pn_parish_26 : decode m_Pn_parish.2.1 26 = .ok (.bipush (-4), 2) := by decide +kernel
theorem d_Pn_parish_28 : decode m_Pn_parish.2.1 28 = .ok (.ireturn, 1) := by decide +kernel
theorem d_Pn_parish_29 : decode m_Pn_parish.2.1 29 = .ok (.aload_n 0, 1) := by decide +kernel
theorem d_Pn_parish_30 : decode m_Pn_parish.2.1 30 = .ok (.getfield 10, 3) := by decide +kernel
theorem d_Pn_parish_33 : decode m_Pn_parish.2.1 33 = .ok (.aload_n 0, 1) := by decide +kernel
theorem d_Pn_parish_34 : decode m_Pn_parish.2.1 34 = .ok (.getfield 16, 3) := by decide +kernel
theorem d_Pn_parish_37 : decode m_Pn_parish.2.1 37 = .ok (.invokevirtual 83, 3) := by decide +kernel
theorem d_Pn_parish_40 : decode m_Pn_parish.2.1 40 = .ok (.aload_n 0, 1) := by decide +kernel
theorem d_Pn_parish_41 : decode m_Pn_parish.2.1 41 = .ok (.getfield 22, 3) := by decide +kernel
theorem d_Pn_parish_44 : decode m_Pn_parish.2.1 44 = .ok (.iconst 0, 1) := by decide +kernel
theorem d_Pn_parish_45 : decode m_Pn_parish.2.1 45 = .ok (.putfield 79, 3) := by decide +kernel
theorem d_Pn_parish_48 : decode m_Pn_parish.2.1 48 = .ok (.aload_n 0, 1) := by decide +kernel
theorem d_Pn_parish_49 : decode m_Pn_parish.2.1 49 = .ok (.invokevirtual 90, 3) := by decide +kernel
theorem d_Pn_parish_52 : decode m_Pn_parish.2.1 52 = .ok (.aload_n 0, 1) := by decide +kernel
theorem d_Pn_parish_53 : decode m_Pn_parish.2.1 53 = .ok (.getfield 22, 3) := by decide +kernel
theorem d_Pn_parish_56 : decode m_Pn_parish.2.1 56 = .ok (.getfield 93, 3) := by decide +kernel
theorem d_Pn_parish_59 : decode m_Pn_parish.2.1 59 = .ok (.ireturn, 1) := by decide +kernel
theorem d_Pn_beginAnew_0 : decode m_Pn_beginAnew.2.1 0 = .ok (.aload_n 0, 1) := by decide +kernel
theorem d_Pn_beginAnew_1 : decode m_Pn_beginAnew.2.1 1 = .ok (.getfield 31, 3) := by decide +kernel
theorem d_Pn_beginAnew_4 : decode m_Pn_beginAnew.2.1 4 = .ok (.invokevirtual 96, 3) := by decide +kernel
theorem d_Pn_beginAnew_7 : decode m_Pn_beginAnew.2.1 7 = .ok (.aload_n 0, 1) := by decide +kernel
theorem d_Pn_beginAnew_8 : decode m_Pn_beginAnew.2.1 8 = .ok (.getfield 38, 3) := by decide +kernel
theorem d_Pn_beginAnew_11 : decode m_Pn_beginAnew.2.1 11 = .ok (.iconst 0, 1) := by decide +kernel
theorem d_Pn_beginAnew_12 : decode m_Pn_beginAnew.2.1 12 = .ok (.putfield 99, 3) := by decide +kernel
theorem d_Pn_beginAnew_15 : decode m_Pn_beginAnew.2.1 15 = .ok (.iconst 0, 1) := by decide +kernel
theorem d_Pn_beginAnew_16 : decode m_Pn_beginAnew.2.1 16 = .ok (.istore_n 1, 1) := by decide +kernel
theorem d_Pn_beginAnew_17 : decode m_Pn_beginAnew.2.1 17 = .ok (.iload_n 1, 1) := by decide +kernel
theorem d_Pn_beginAnew_18 : decode m_Pn_beginAnew.2.1 18 = .ok (.iconst 2, 1) := by decide +kernel
theorem d_Pn_beginAnew_19 : decode m_Pn_beginAnew.2.1 19 = .ok (.if_icmp .ge 16, 3) := by decide +kernel
theorem d_Pn_beginAnew_22 : decode m_Pn_beginAnew.2.1 22 = .ok (.aload_n 0, 1) := by decide +kernel
theorem d_Pn_beginAnew_23 : decode m_Pn_beginAnew.2.1 23 = .ok (.getfield 46, 3) := by decide +kernel
theorem d_Pn_beginAnew_26 : decode m_Pn_beginAnew.2.1 26 = .ok (.iload_n 1, 1) := by decide +kernel
theorem d_Pn_beginAnew_27 : decode m_Pn_beginAnew.2.1 27 = .ok (.iconst 0, 1) := by decide +kernel
theorem d_Pn_beginAnew_28 : decode m_Pn_beginAnew.2.1 28 = .ok (.bastore, 1) := by decide +kernel
theorem d_Pn_beginAnew_29 : decode m_Pn_beginAnew.2.1 29 = .ok (.iinc 1 1, 3) := by decide +kernel
theorem d_Pn_beginAnew_32 : decode m_Pn_beginAnew.2.1 32 = .ok (.goto (-15), 3) := by decide +kernel
theorem d_Pn_beginAnew_35 : decode m_Pn_beginAnew.2.1 35 = .ok (.aload_n 0, 1) := by decide +kernel
theorem d_Pn_beginAnew_36 : decode m_Pn_beginAnew.2.1 36 = .ok (.getfield 60, 3) := by decide +kernel
theorem d_Pn_beginAnew_39 : decode m_Pn_beginAnew.2.1 39 = .ok (.iconst 0, 1) := by decide +kernel
theorem d_Pn_beginAnew_40 : decode m_Pn_beginAnew.2.1 40 = .ok (.putfield 102, 3) := by decide +kernel
theorem d_Pn_beginAnew_43 : decode m_Pn_beginAnew.2.1 43 = .ok (.aload_n 0, 1) := by decide +kernel
theorem d_Pn_beginAnew_44 : decode m_Pn_beginAnew.2.1 44 = .ok (.getfield 67, 3) := by decide +kernel
theorem d_Pn_beginAnew_47 : decode m_Pn_beginAnew.2.1 47 = .ok (.invokevirtual 103, 3) := by decide +kernel
theorem d_Pn_beginAnew_50 : decode m_Pn_beginAnew.2.1 50 = .ok (.return_, 1) := by decide +kernel
theorem d_Pn_person_0 : decode m_Pn_person.2.1 0 = .ok (.aload_n 0, 1) := by decide +kernel
theorem d_Pn_person_1 : decode m_Pn_person.2.1 1 = .ok (.iload_n 1, 1) := by decide +kernel
theorem d_Pn_person_2 : decode m_Pn_person.2.1 2 = .ok (.invokevirtual 106, 3) := by decide +kernel
theorem d_Pn_person_5 : decode m_Pn_person.2.1 5 = .ok (.ifCond .ne 6, 3) := by decide +kernel
theorem d_Pn_person_8 : decode m_Pn_person.2.1 8 = .ok (.bipush (-2), 2) := by decide +kernel
theorem d_Pn_person_10 : decode m_Pn_person.2.1 10 = .ok (.ireturn, 1) := by decide +kernel
theorem d_Pn_person_11 : decode m_Pn_person.2.1 11 = .ok (.iload_n 2, 1) := by decide +kernel
theorem d_Pn_person_12 : decode m_Pn_person.2.1 12 = .ok (.tableswitch 71 0 3 #[32, 42, 52, 62], 32) := by decide +kernel
theorem d_Pn_person_44 : decode m_Pn_person.2.1 44 = .ok (.aload_n 0, 1) := by decide +kernel
theorem d_Pn_person_45 : decode m_Pn_person.2.1 45 = .ok (.getfield 10, 3) := by decide +kernel
theorem d_Pn_person_48 : decode m_Pn_person.2.1 48 = .ok (.getfield 109, 3) := by decide +kernel
theorem d_Pn_person_51 : decode m_Pn_person.2.1 51 = .ok (.iload_n 1, 1) := by decide +kernel
theorem d_Pn_person_52 : decode m_Pn_person.2.1 52 = .ok (.iaload, 1) := by decide +kernel
theorem d_Pn_person_53 : decode m_Pn_person.2.1 53 = .ok (.ireturn, 1) := by decide +kernel
theorem d_Pn_person_54 : decode m_Pn_person.2.1 54 = .ok (.aload_n 0, 1) := by decide +kernel
theorem d_Pn_person_55 : decode m_Pn_person.2.1 55 = .ok (.getfield 31, 3) := by decide +kernel
theorem d_Pn_person_58 : decode m_Pn_person.2.1 58 = .ok (.getfield 113, 3) := by decide +kernel
theorem d_Pn_person_61 : decode m_Pn_person.2.1 61 = .ok (.iload_n 1, 1) := by decide +kernel
theorem d_Pn_person_62 : decode m_Pn_person.2.1 62 = .ok (.iaload, 1) := by decide +kernel
theorem d_Pn_person_63 : decode m_Pn_person.2.1 63 = .ok (.ireturn, 1) := by decide +kernel
theorem d_Pn_person_64 : decode m_Pn_person.2.1 64 = .ok (.aload_n 0, 1) := by decide +kernel
theorem d_Pn_person_65 : decode m_Pn_person.2.1 65 = .ok (.getfield 10, 3) := by decide +kernel
theorem d_Pn_person_68 : decode m_Pn_person.2.1 68 = .ok (.getfield 116, 3) := by decide +kernel
theorem d_Pn_person_71 : decode m_Pn_person.2.1 71 = .ok (.iload_n 1, 1) := by decide +kernel
theorem d_Pn_person_72 : decode m_Pn_person.2.1 72 = .ok (.iaload, 1) := by decide +kernel
theorem d_Pn_person_73 : decode m_Pn_person.2.1 73 = .ok (.ireturn, 1) := by decide +kernel
theorem d_Pn_person_74 : decode m_Pn_person.2.1 74 = .ok (.aload_n 0, 1) := by decide +kernel
theorem d_Pn_person_75 : decode m_Pn_person.2.1 75 = .ok (.getfield 31, 3) := by decide +kernel
theorem d_Pn_person_78 : decode m_Pn_person.2.1 78 = .ok (.iload_n 1, 1) := by decide +kernel
theorem d_Pn_person_79 : decode m_Pn_person.2.1 79 = .ok (.invokevirtual 119, 3) := by decide +kernel
theorem d_Pn_person_82 : decode m_Pn_person.2.1 82 = .ok (.ireturn, 1) := by decide +kernel
theorem d_Pn_person_83 : decode m_Pn_person.2.1 83 = .ok (.bipush (-3), 2) := by decide +kernel
theorem d_Pn_person_85 : decode m_Pn_person.2.1 85 = .ok (.ireturn, 1) := by decide +kernel
theorem d_Pn_isPerson_0 : decode m_Pn_isPerson.2.1 0 = .ok (.iload_n 1, 1) := by decide +kernel
theorem d_Pn_isPerson_1 : decode m_Pn_isPerson.2.1 1 = .ok (.iconst 0, 1) := by decide +kernel
theorem d_Pn_isPerson_2 : decode m_Pn_isPerson.2.1 2 = .ok (.aload_n 0, 1) := by decide +kernel
theorem d_Pn_isPerson_3 : decode m_Pn_isPerson.2.1 3 = .ok (.getfield 10, 3) := by decide +kernel
theorem d_Pn_isPerson_6 : decode m_Pn_isPerson.2.1 6 = .ok (.getfield 278, 3) := by decide +kernel
theorem d_Pn_isPerson_9 : decode m_Pn_isPerson.2.1 9 = .ok (.iconst 1, 1) := by decide +kernel
theorem d_Pn_isPerson_10 : decode m_Pn_isPerson.2.1 10 = .ok (.isub, 1) := by decide +kernel
theorem d_Pn_isPerson_11 : decode m_Pn_isPerson.2.1 11 = .ok (.invokestatic 71, 3) := by decide +kernel
theorem d_Pn_isPerson_14 : decode m_Pn_isPerson.2.1 14 = .ok (.ireturn, 1) := by decide +kernel
theorem d_Pn_holds_0 : decode m_Pn_holds.2.1 0 = .ok (.iload_n 1, 1) := by decide +kernel
theorem d_Pn_holds_1 : decode m_Pn_holds.2.1 1 = .ok (.iconst (-1), 1) := by decide +kernel
theorem d_Pn_holds_2 : decode m_Pn_holds.2.1 2 = .ok (.if_icmp .eq 14, 3) := by decide +kernel
theorem d_Pn_holds_5 : decode m_Pn_holds.2.1 5 = .ok (.aload_n 0, 1) := by decide +kernel
theorem d_Pn_holds_6 : decode m_Pn_holds.2.1 6 = .ok (.iload_n 1, 1) := by decide +kernel
theorem d_Pn_holds_7 : decode m_Pn_holds.2.1 7 = .ok (.invokevirtual 106, 3) := by decide +kernel
theorem d_Pn_holds_10 : decode m_Pn_holds.2.1 10 = .ok (.ifCond .ne 6, 3) := by decide +kernel
theorem d_Pn_holds_13 : decode m_Pn_holds.2.1 13 = .ok (.bipush (-2), 2) := by decide +kernel
theorem d_Pn_holds_15 : decode m_Pn_holds.2.1 15 = .ok (.ireturn, 1) := by decide +kernel
theorem d_Pn_holds_16 : decode m_Pn_holds.2.1 16 = .ok (.iload_n 2, 1) := by decide +kernel
theorem d_Pn_holds_17 : decode m_Pn_holds.2.1 17 = .ok (.ifCond .ge 6, 3) := by decide +kernel
theorem d_Pn_holds_20 : decode m_Pn_holds.2.1 20 = .ok (.bipush (-3), 2) := by decide +kernel
theorem d_Pn_holds_22 : decode m_Pn_holds.2.1 22 = .ok (.ireturn, 1) := by decide +kernel
theorem d_Pn_holds_23 : decode m_Pn_holds.2.1 23 = .ok (.aload_n 0, 1) := by decide +kernel
theorem d_Pn_holds_24 : decode m_Pn_holds.2.1 24 = .ok (.getfield 31, 3) := by decide +kernel
theorem d_Pn_holds_27 : decode m_Pn_holds.2.1 27 = .ok (.iload_n 1, 1) := by decide +kernel
theorem d_Pn_holds_28 : decode m_Pn_holds.2.1 28 = .ok (.iconst (-1), 1) := by decide +kernel
theorem d_Pn_holds_29 : decode m_Pn_holds.2.1 29 = .ok (.if_icmp .ne 7, 3) := by decide +kernel
theorem d_Pn_holds_32 : decode m_Pn_holds.2.1 32 = .ok (.iconst 5, 1) := by decide +kernel
theorem d_Pn_holds_33 : decode m_Pn_holds.2.1 33 = .ok (.goto 4, 3) := by decide +kernel
theorem d_Pn_holds_36 : decode m_Pn_holds.2.1 36 = .ok (.iload_n 1, 1) := by decide +kernel
theorem d_Pn_holds_37 : decode m_Pn_holds.2.1 37 = .ok (.iload_n 2, 1) := by decide +kernel
theorem d_Pn_holds_38 : decode m_Pn_holds.2.1 38 = .ok (.invokevirtual 123, 3) := by decide +kernel
theorem d_Pn_holds_41 : decode m_Pn_holds.2.1 41 = .ok (.ireturn, 1) := by decide +kernel
theorem d_Pn_promise_0 : decode m_Pn_promise.2.1 0 = .ok (.aload_n 0, 1) := by decide +kernel
theorem d_Pn_promise_1 : decode m_Pn_promise.2.1 1 = .ok (.iload_n 1, 1) := by decide +kernel
theorem d_Pn_promise_2 : decode m_Pn_promise.2.1 2 = .ok (.invokevirtual 127, 3) := by decide +kernel
theorem d_Pn_promise_5 : decode m_Pn_promise.2.1 5 = .ok (.ifCond .ne 6, 3) := by decide +kernel
theorem d_Pn_promise_8 : decode m_Pn_promise.2.1 8 = .ok (.bipush (-2), 2) := by decide +kernel
theorem d_Pn_promise_10 : decode m_Pn_promise.2.1 10 = .ok (.ireturn, 1) := by decide +kernel
theorem d_Pn_promise_11 : decode m_Pn_promise.2.1 11 = .ok (.iload_n 2, 1) := by decide +kernel
theorem d_Pn_promise_12 : decode m_Pn_promise.2.1 12 = .ok (.tableswitch 114 0 5 #[40, 50, 60, 70, 80, 90], 40) := by decide +kernel
theorem d_Pn_promise_52 : decode m_Pn_promise.2.1 52 = .ok (.aload_n 0, 1) := by decide +kernel
theorem d_Pn_promise_53 : decode m_Pn_promise.2.1 53 = .ok (.getfield 10, 3) := by decide +kernel
theorem d_Pn_promise_56 : decode m_Pn_promise.2.1 56 = .ok (.getfield 130, 3) := by decide +kernel
theorem d_Pn_promise_59 : decode m_Pn_promise.2.1 59 = .ok (.iload_n 1, 1) := by decide +kernel
theorem d_Pn_promise_60 : decode m_Pn_promise.2.1 60 = .ok (.iaload, 1) := by decide +kernel
theorem d_Pn_promise_61 : decode m_Pn_promise.2.1 61 = .ok (.ireturn, 1) := by decide +kernel
theorem d_Pn_promise_62 : decode m_Pn_promise.2.1 62 = .ok (.aload_n 0, 1) := by decide +kernel
theorem d_Pn_promise_63 : decode m_Pn_promise.2.1 63 = .ok (.getfield 31, 3) := by decide +kernel
theorem d_Pn_promise_66 : decode m_Pn_promise.2.1 66 = .ok (.getfield 133, 3) := by decide +kernel
theorem d_Pn_promise_69 : decode m_Pn_promise.2.1 69 = .ok (.iload_n 1, 1) := by decide +kernel
theorem d_Pn_promise_70 : decode m_Pn_promise.2.1 70 = .ok (.iaload, 1) := by decide +kernel
theorem d_Pn_promise_71 : decode m_Pn_promise.2.1 71 = .ok (.ireturn, 1) := by decide +kernel
theorem d_Pn_promise_72 : decode m_Pn_promise.2.1 72 = .ok (.aload_n 0, 1) := by decide +kernel
theorem d_Pn_promise_73 : decode m_Pn_promise.2.1 73 = .ok (.getfield 31, 3) := by decide +kernel
theorem d_Pn_promise_76 : decode m_Pn_promise.2.1 76 = .ok (.getfield 136, 3) := by decide +kernel
theorem d_Pn_promise_79 : decode m_Pn_promise.2.1 79 = .ok (.iload_n 1, 1) := by decide +kernel
theorem d_Pn_promise_80 : decode m_Pn_promise.2.1 80 = .ok (.iaload, 1) := by decide +kernel
theorem d_Pn_promise_81 : decode m_Pn_promise.2.1 81 = .ok (.ireturn, 1) := by decide +kernel
theorem d_Pn_promise_82 : decode m_Pn_promise.2.1 82 = .ok (.aload_n 0, 1) := by decide +kernel
theorem d_Pn_promise_83 : decode m_Pn_promise.2.1 83 = .ok (.getfield 10, 3) := by decide +kernel
theorem d_Pn_promise_86 : decode m_Pn_promise.2.1 86 = .ok (.getfield 139, 3) := by decide +kernel
theorem d_Pn_promise_89 : decode m_Pn_promise.2.1 89 = .ok (.iload_n 1, 1) := by decide +kernel
theorem d_Pn_promise_90 : decode m_Pn_promise.2.1 90 = .ok (.iaload, 1) := by decide +kernel
theorem d_Pn_promise_91 : decode m_Pn_promise.2.1 91 = .ok (.ireturn, 1) := by decide +kernel
theorem d_Pn_promise_92 : decode m_Pn_promise.2.1 92 = .ok (.aload_n 0, 1) := by decide +kernel
theorem d_Pn_promise_93 : decode m_Pn_promise.2.1 93 = .ok (.getfield 31, 3) := by decide +kernel
theorem d_Pn_promise_96 : decode m_Pn_promise.2.1 96 = .ok (.getfield 142, 3) := by decide +kernel
theorem d_Pn_promise_99 : decode m_Pn_promise.2.1 99 = .ok (.iload_n 1, 1) := by decide +kernel
theorem d_Pn_promise_100 : decode m_Pn_promise.2.1 100 = .ok (.iaload, 1) := by decide +kernel
theorem d_Pn_promise_101 : decode m_Pn_promise.2.1 101 = .ok (.ireturn, 1) := by decide +kernel
theorem d_Pn_promise_102 : decode m_Pn_promise.2.1 102 = .ok (.aload_n 0, 1) := by decide +kernel
theorem d_Pn_promise_103 : decode m_Pn_promise.2.1 103 = .ok (.getfield 31, 3) := by decide +kernel
theorem d_Pn_promise_106 : decode m_Pn_promise.2.1 106 = .ok (.iload_n 1, 1) := by decide +kernel
theorem d_Pn_promise_107 : decode m_Pn_promise.2.1 107 = .ok (.aload_n 0, 1) := by decide +kernel
theorem d_Pn_promise_108 : decode m_Pn_promise.2.1 108 = .ok (.getfield 31, 3) := by decide +kernel
theorem d_Pn_promise_111 : decode m_Pn_promise.2.1 111 = .ok (.getfield 145, 3) := by decide +kernel
theorem d_Pn_promise_114 : decode m_Pn_promise.2.1 114 = .ok (.invokevirtual 148, 3) := by decide +kernel
theorem d_Pn_promise_117 : decode m_Pn_promise.2.1 117 = .ok (.ifCond .eq 7, 3) := by decide +kernel
theorem d_Pn_promise_120 : decode m_Pn_promise.2.1 120 = .ok (.iconst 1, 1) := by decide +kernel
theorem d_Pn_promise_121 : decode m_Pn_promise.2.1 121 = .ok (.goto 4, 3) := by decide +kernel
theorem d_Pn_promise_124 : decode m_Pn_promise.2.1 124 = .ok (.iconst 0, 1) := by decide +kernel
theorem d_Pn_promise_125 : decode m_Pn_promise.2.1 125 = .ok (.ireturn, 1) := by decide +kernel
theorem d_Pn_promise_126 : decode m_Pn_promise.2.1 126 = .ok (.bipush (-3), 2) := by decide +kernel
theorem d_Pn_promise_128 : decode m_Pn_promise.2.1 128 = .ok (.ireturn, 1) := by decide +kernel
theorem d_Pn_isPromise_0 : decode m_Pn_isPromise.2.1 0 = .ok (.iload_n 1, 1) := by decide +kernel
theorem d_Pn_isPromise_1 : decode m_Pn_isPromise.2.1 1 = .ok (.iconst 0, 1) := by decide +kernel
theorem d_Pn_isPromise_2 : decode m_Pn_isPromise.2.1 2 = .ok (.aload_n 0, 1) := by decide +kernel
theorem d_Pn_isPromise_3 : decode m_Pn_isPromise.2.1 3 = .ok (.getfield 10, 3) := by decide +kernel
theorem d_Pn_isPromise_6 : decode m_Pn_isPromise.2.1 6 = .ok (.getfield 281, 3) := by decide +kernel
theorem d_Pn_isPromise_9 : decode m_Pn_isPromise.2.1 9 = .ok (.iconst 1, 1) := by decide +kernel
theorem d_Pn_isPromise_10 : decode m_Pn_isPromise.2.1 10 = .ok (.isub, 1) := by decide +kernel
theorem d_Pn_isPromise_11 : decode m_Pn_isPromise.2.1 11 = .ok (.invokestatic 71, 3) := by decide +kernel
theorem d_Pn_isPromise_14 : decode m_Pn_isPromise.2.1 14 = .ok (.ireturn, 1) := by decide +kernel
theorem d_Pn_as_0 : decode m_Pn_as.2.1 0 = .ok (.aload_n 0, 1) := by decide +kernel
theorem d_Pn_as_1 : decode m_Pn_as.2.1 1 = .ok (.iload_n 1, 1) := by decide +kernel
theorem d_Pn_as_2 : decode m_Pn_as.2.1 2 = .ok (.invokevirtual 127, 3) := by decide +kernel
theorem d_Pn_as_5 : decode m_Pn_as.2.1 5 = .ok (.ifCond .ne 6, 3) := by decide +kernel
theorem d_Pn_as_8 : decode m_Pn_as.2.1 8 = .ok (.bipush (-2), 2) := by decide +kernel
theorem d_Pn_as_10 : decode m_Pn_as.2.1 10 = .ok (.ireturn, 1) := by decide +kernel
theorem d_Pn_as_11 : decode m_Pn_as.2.1 11 = .ok (.iload_n 2, 1) := by decide +kernel
theorem d_Pn_as_12 : decode m_Pn_as.2.1 12 = .ok (.iconst 0, 1) := by decide +kernel
theorem d_Pn_as_13 : decode m_Pn_as.2.1 13 = .ok (.iconst 5, 1) := by decide +kernel
theorem d_Pn_as_14 : decode m_Pn_as.2.1 14 = .ok (.invokestatic 71, 3) := by decide +kernel
theorem d_Pn_as_17 : decode m_Pn_as.2.1 17 = .ok (.ifCond .ne 6, 3) := by decide +kernel
theorem d_Pn_as_20 : decode m_Pn_as.2.1 20 = .ok (.bipush (-3), 2) := by decide +kernel
theorem d_Pn_as_22 : decode m_Pn_as.2.1 22 = .ok (.ireturn, 1) := by decide +kernel
theorem d_Pn_as_23 : decode m_Pn_as.2.1 23 = .ok (.aload_n 0, 1) := by decide +kernel
theorem d_Pn_as_24 : decode m_Pn_as.2.1 24 = .ok (.getfield 10, 3) := by decide +kernel
theorem d_Pn_as_27 : decode m_Pn_as.2.1 27 = .ok (.getfield 130, 3) := by decide +kernel
theorem d_Pn_as_30 : decode m_Pn_as.2.1 30 = .ok (.iload_n 1, 1) := by decide +kernel
theorem d_Pn_as_31 : decode m_Pn_as.2.1 31 = .ok (.iaload, 1) := by decide +kernel
theorem d_Pn_as_32 : decode m_Pn_as.2.1 32 = .ok (.iload_n 2, 1) := by decide +kernel
theorem d_Pn_as_33 : decode m_Pn_as.2.1 33 = .ok (.invokestatic 152, 3) := by decide +kernel
theorem d_Pn_as_36 : decode m_Pn_as.2.1 36 = .ok (.ifCond .ne 6, 3) := by decide +kernel
theorem d_Pn_as_39 : decode m_Pn_as.2.1 39 = .ok (.bipush (-4), 2) := by decide +kernel
theorem d_Pn_as_41 : decode m_Pn_as.2.1 41 = .ok (.ireturn, 1) := by decide +kernel
theorem d_Pn_as_42 : decode m_Pn_as.2.1 42 = .ok (.aload_n 0, 1) := by decide +kernel
theorem d_Pn_as_43 : decode m_Pn_as.2.1 43 = .ok (.getfield 10, 3) := by decide +kernel
theorem d_Pn_as_46 : decode m_Pn_as.2.1 46 = .ok (.getfield 130, 3) := by decide +kernel
theorem d_Pn_as_49 : decode m_Pn_as.2.1 49 = .ok (.iload_n 1, 1) := by decide +kernel
theorem d_Pn_as_50 : decode m_Pn_as.2.1 50 = .ok (.iaload, 1) := by decide +kernel
theorem d_Pn_as_51 : decode m_Pn_as.2.1 51 = .ok (.iconst 5, 1) := by decide +kernel
theorem d_Pn_as_52 : decode m_Pn_as.2.1 52 = .ok (.invokestatic 157, 3) := by decide +kernel
theorem d_Pn_as_55 : decode m_Pn_as.2.1 55 = .ok (.ireturn, 1) := by decide +kernel
theorem d_Pn_year_0 : decode m_Pn_year.2.1 0 = .ok (.iload_n 1, 1) := by decide +kernel
theorem d_Pn_year_1 : decode m_Pn_year.2.1 1 = .ok (.iconst 1, 1) := by decide +kernel
theorem d_Pn_year_2 : decode m_Pn_year.2.1 2 = .ok (.bipush 12, 2) := by decide +kernel
theorem d_Pn_year_4 : decode m_Pn_year.2.1 4 = .ok (.invokestatic 71, 3) := by decide +kernel
theorem d_Pn_year_7 : decode m_Pn_year.2.1 7 = .ok (.ifCond .ne 6, 3) := by decide +kernel
theorem d_Pn_year_10 : decode m_Pn_year.2.1 10 = .ok (.bipush (-3), 2) := by decide +kernel
theorem d_Pn_year_12 : decode m_Pn_year.2.1 12 = .ok (.ireturn, 1) := by decide +kernel
theorem d_Pn_year_13 : decode m_Pn_year.2.1 13 = .ok (.aload_n 0, 1) := by decide +kernel
theorem d_Pn_year_14 : decode m_Pn_year.2.1 14 = .ok (.getfield 31, 3) := by decide +kernel
theorem d_Pn_year_17 : decode m_Pn_year.2.1 17 = .ok (.getfield 160, 3) := by decide +kernel
theorem d_Pn_year_20 : decode m_Pn_year.2.1 20 = .ok (.iload_n 1, 1) := by decide +kernel
theorem d_Pn_year_21 : decode m_Pn_year.2.1 21 = .ok (.iadd, 1) := by decide +kernel
theorem d_Pn_year_22 : decode m_Pn_year.2.1 22 = .ok (.sipush 999, 3) := by decide +kernel
theorem d_Pn_year_25 : decode m_Pn_year.2.1 25 = .ok (.if_icmp .le 6, 3) := by decide +kernel
theorem d_Pn_year_28 : decode m_Pn_year.2.1 28 = .ok (.bipush (-5), 2) := by decide +kernel
theorem d_Pn_year_30 : decode m_Pn_year.2.1 30 = .ok (.ireturn, 1) := by decide +kernel
theorem d_Pn_year_31 : decode m_Pn_year.2.1 31 = .ok (.aload_n 0, 1) := by decide +kernel
theorem d_Pn_year_32 : decode m_Pn_year.2.1 32 = .ok (.getfield 38, 3) := by decide +kernel
theorem d_Pn_year_35 : decode m_Pn_year.2.1 35 = .ok (.aload_n 0, 1) := by decide +kernel
theorem d_Pn_year_36 : decode m_Pn_year.2.1 36 = .ok (.getfield 31, 3) := by decide +kernel
theorem d_Pn_year_39 : decode m_Pn_year.2.1 39 = .ok (.invokevirtual 163, 3) := by decide +kernel
theorem d_Pn_year_42 : decode m_Pn_year.2.1 42 = .ok (.aload_n 0, 1) := by decide +kernel
theorem d_Pn_year_43 : decode m_Pn_year.2.1 43 = .ok (.getfield 31, 3) := by decide +kernel
theorem d_Pn_year_46 : decode m_Pn_year.2.1 46 = .ok (.iload_n 1, 1) := by decide +kernel
theorem d_Pn_year_47 : decode m_Pn_year.2.1 47 = .ok (.invokevirtual 167, 3) := by decide +kernel
theorem d_Pn_year_50 : decode m_Pn_year.2.1 50 = .ok (.aload_n 0, 1) := by decide +kernel
theorem d_Pn_year_51 : decode m_Pn_year.2.1 51 = .ok (.getfield 31, 3) := by decide +kernel
theorem d_Pn_year_54 : decode m_Pn_year.2.1 54 = .ok (.getfield 160, 3) := by decide +kernel
theorem d_Pn_year_57 : decode m_Pn_year.2.1 57 = .ok (.ireturn, 1) := by decide +kernel
theorem d_Pn_give_0 : decode m_Pn_give.2.1 0 = .ok (.aload_n 0, 1) := by decide +kernel
theorem d_Pn_give_1 : decode m_Pn_give.2.1 1 = .ok (.iload_n 1, 1) := by decide +kernel
theorem d_Pn_give_2 : decode m_Pn_give.2.1 2 = .ok (.invokevirtual 127, 3) := by decide +kernel
theorem d_Pn_give_5 : decode m_Pn_give.2.1 5 = .ok (.ifCond .eq 16, 3) := by decide +kernel
theorem d_Pn_give_8 : decode m_Pn_give.2.1 8 = .ok (.iload_n 2, 1) := by decide +kernel
theorem d_Pn_give_9 : decode m_Pn_give.2.1 9 = .ok (.iconst (-1), 1) := by decide +kernel
theorem d_Pn_give_10 : decode m_Pn_give.2.1 10 = .ok (.if_icmp .eq 14, 3) := by decide +kernel
theorem d_Pn_give_13 : decode m_Pn_give.2.1 13 = .ok (.aload_n 0, 1) := by decide +kernel
theorem d_Pn_give_14 : decode m_Pn_give.2.1 14 = .ok (.iload_n 2, 1) := by decide +kernel
theorem d_Pn_give_15 : decode m_Pn_give.2.1 15 = .ok (.invokevirtual 106, 3) := by decide +kernel
theorem d_Pn_give_18 : decode m_Pn_give.2.1 18 = .ok (.ifCond .ne 6, 3) := by decide +kernel
theorem d_Pn_give_21 : decode m_Pn_give.2.1 21 = .ok (.bipush (-2), 2) := by decide +kernel
theorem d_Pn_give_23 : decode m_Pn_give.2.1 23 = .ok (.ireturn, 1) := by decide +kernel
theorem d_Pn_give_24 : decode m_Pn_give.2.1 24 = .ok (.iload_n 2, 1) := by decide +kernel
theorem d_Pn_give_25 : decode m_Pn_give.2.1 25 = .ok (.iconst (-1), 1) := by decide +kernel
theorem d_Pn_give_26 : decode m_Pn_give.2.1 26 = .ok (.if_icmp .ne 7, 3) := by decide +kernel
theorem d_Pn_give_29 : decode m_Pn_give.2.1 29 = .ok (.iconst 5, 1) := by decide +kernel
theorem d_Pn_give_30 : decode m_Pn_give.2.1 30 = .ok (.goto 4, 3) := by decide +kernel
theorem d_Pn_give_33 : decode m_Pn_give.2.1 33 = .ok (.iload_n 2, 1) := by decide +kernel
theorem d_Pn_give_34 : decode m_Pn_give.2.1 34 = .ok (.istore_n 3, 1) := by decide +kernel
theorem d_Pn_give_35 : decode m_Pn_give.2.1 35 = .ok (.aload_n 0, 1) := by decide +kernel
theorem d_Pn_give_36 : decode m_Pn_give.2.1 36 = .ok (.getfield 31, 3) := by decide +kernel
theorem d_Pn_give_39 : decode m_Pn_give.2.1 39 = .ok (.getfield 142, 3) := by decide +kernel
theorem d_Pn_give_42 : decode m_Pn_give.2.1 42 = .ok (.iload_n 1, 1) := by decide +kernel
theorem d_Pn_give_43 : decode m_Pn_give.2.1 43 = .ok (.iaload, 1) := by decide +kernel
theorem d_Pn_give_44 : decode m_Pn_give.2.1 44 = .ok (.istore 4, 2) := by decide +kernel
theorem d_Pn_give_46 : decode m_Pn_give.2.1 46 = .ok (.iload 4, 2) := by decide +kernel
theorem d_Pn_give_48 : decode m_Pn_give.2.1 48 = .ok (.iconst (-1), 1) := by decide +kernel
theorem d_Pn_give_49 : decode m_Pn_give.2.1 49 = .ok (.if_icmp .eq 26, 3) := by decide +kernel
theorem d_Pn_give_52 : decode m_Pn_give.2.1 52 = .ok (.iload 4, 2) := by decide +kernel
theorem d_Pn_give_54 : decode m_Pn_give.2.1 54 = .ok (.iload_n 3, 1) := by decide +kernel
theorem d_Pn_give_55 : decode m_Pn_give.2.1 55 = .ok (.if_icmp .eq 20, 3) := by decide +kernel
theorem d_Pn_give_58 : decode m_Pn_give.2.1 58 = .ok (.iload_n 3, 1) := by decide +kernel
theorem d_Pn_give_59 : decode m_Pn_give.2.1 59 = .ok (.iconst 5, 1) := by decide +kernel
theorem d_Pn_give_60 : decode m_Pn_give.2.1 60 = .ok (.if_icmp .eq 18, 3) := by decide +kernel
theorem d_Pn_give_63 : decode m_Pn_give.2.1 63 = .ok (.aload_n 0, 1) := by decide +kernel
theorem d_Pn_give_64 : decode m_Pn_give.2.1 64 = .ok (.getfield 31, 3) := by decide +kernel
theorem d_Pn_give_67 : decode m_Pn_give.2.1 67 = .ok (.getfield 113, 3) := by decide +kernel
theorem d_Pn_give_70 : decode m_Pn_give.2.1 70 = .ok (.iload_n 3, 1) := by decide +kernel
theorem d_Pn_give_71 : decode m_Pn_give.2.1 71 = .ok (.iaload, 1) := by decide +kernel
theorem d_Pn_give_72 : decode m_Pn_give.2.1 72 = .ok (.ifCond .ne 6, 3) := by decide +kernel
theorem d_Pn_give_75 : decode m_Pn_give.2.1 75 = .ok (.bipush (-4), 2) := by decide +kernel
theorem d_Pn_give_77 : decode m_Pn_give.2.1 77 = .ok (.ireturn, 1) := by decide +kernel
theorem d_Pn_give_78 : decode m_Pn_give.2.1 78 = .ok (.aload_n 0, 1) := by decide +kernel
theorem d_Pn_give_79 : decode m_Pn_give.2.1 79 = .ok (.getfield 38, 3) := by decide +kernel
theorem d_Pn_give_82 : decode m_Pn_give.2.1 82 = .ok (.aload_n 0, 1) := by decide +kernel
theorem d_Pn_give_83 : decode m_Pn_give.2.1 83 = .ok (.getfield 31, 3) := by decide +kernel
theorem d_Pn_give_86 : decode m_Pn_give.2.1 86 = .ok (.invokevirtual 163, 3) := by decide +kernel
theorem d_Pn_give_89 : decode m_Pn_give.2.1 89 = .ok (.aload_n 0, 1) := by decide +kernel
theorem d_Pn_give_90 : decode m_Pn_give.2.1 90 = .ok (.getfield 31, 3) := by decide +kernel
theorem d_Pn_give_93 : decode m_Pn_give.2.1 93 = .ok (.iload_n 1, 1) := by decide +kernel
theorem d_Pn_give_94 : decode m_Pn_give.2.1 94 = .ok (.iload_n 3, 1) := by decide +kernel
theorem d_Pn_give_95 : decode m_Pn_give.2.1 95 = .ok (.invokevirtual 171, 3) := by decide +kernel
theorem d_Pn_give_98 : decode m_Pn_give.2.1 98 = .ok (.iload 4, 2) := by decide +kernel
theorem d_Pn_give_100 : decode m_Pn_give.2.1 100 = .ok (.ireturn, 1) := by decide +kernel
theorem d_Pn_shorten_0 : decode m_Pn_shorten.2.1 0 = .ok (.aload_n 0, 1) := by decide +kernel
theorem d_Pn_shorten_1 : decode m_Pn_shorten.2.1 1 = .ok (.iload_n 1, 1) := by decide +kernel
theorem d_Pn_shorten_2 : decode m_Pn_shorten.2.1 2 = .ok (.invokevirtual 127, 3) := by decide +kernel
theorem d_Pn_shorten_5 : decode m_Pn_shorten.2.1 5 = .ok (.ifCond .ne 6, 3) := by decide +kernel
theorem d_Pn_shorten_8 : decode m_Pn_shorten.2.1 8 = .ok (.bipush (-2), 2) := by decide +kernel
theorem d_Pn_shorten_10 : decode m_Pn_shorten.2.1 10 = .ok (.ireturn, 1) := by decide +kernel
theorem d_Pn_shorten_11 : decode m_Pn_shorten.2.1 11 = .ok (.aload_n 0, 1) := by decide +kernel
theorem d_Pn_shorten_12 : decode m_Pn_shorten.2.1 12 = .ok (.getfield 31, 3) := by decide +kernel
theorem d_Pn_shorten_15 : decode m_Pn_shorten.2.1 15 = .ok (.getfield 133, 3) := by decide +kernel
theorem d_Pn_shorten_18 : decode m_Pn_shorten.2.1 18 = .ok (.iload_n 1, 1) := by decide +kernel
theorem d_Pn_shorten_19 : decode m_Pn_shorten.2.1 19 = .ok (.iaload, 1) := by decide +kernel
theorem d_Pn_shorten_20 : decode m_Pn_shorten.2.1 20 = .ok (.aload_n 0, 1) := by decide +kernel
theorem d_Pn_shorten_21 : decode m_Pn_shorten.2.1 21 = .ok (.getfield 31, 3) := by decide +kernel
theorem d_Pn_shorten_24 : decode m_Pn_shorten.2.1 24 = .ok (.getfield 136, 3) := by decide +kernel
theorem d_Pn_shorten_27 : decode m_Pn_shorten.2.1 27 = .ok (.iload_n 1, 1) := by decide +kernel
theorem d_Pn_shorten_28 : decode m_Pn_shorten.2.1 28 = .ok (.iaload, 1) := by decide +kernel
theorem d_Pn_shorten_29 : decode m_Pn_shorten.2.1 29 = .ok (.isub, 1) := by decide +kernel
theorem d_Pn_shorten_30 : decode m_Pn_shorten.2.1 30 = .ok (.iconst 2, 1) := by decide +kernel
theorem d_Pn_shorten_31 : decode m_Pn_shorten.2.1 31 = .ok (.idiv, 1) := by decide +kernel
theorem d_Pn_shorten_32 : decode m_Pn_shorten.2.1 32 = .ok (.istore_n 2, 1) := by decide +kernel
theorem d_Pn_shorten_33 : decode m_Pn_shorten.2.1 33 = .ok (.aload_n 0, 1) := by decide +kernel
theorem d_Pn_shorten_34 : decode m_Pn_shorten.2.1 34 = .ok (.getfield 31, 3) := by decide +kernel
theorem d_Pn_shorten_37 : decode m_Pn_shorten.2.1 37 = .ok (.getfield 142, 3) := by decide +kernel
theorem d_Pn_shorten_40 : decode m_Pn_shorten.2.1 40 = .ok (.iload_n 1, 1) := by decide +kernel
theorem d_Pn_shorten_41 : decode m_Pn_shorten.2.1 41 = .ok (.iaload, 1) := by decide +kernel
theorem d_Pn_shorten_42 : decode m_Pn_shorten.2.1 42 = .ok (.iconst (-1), 1) := by decide +kernel
theorem d_Pn_shorten_43 : decode m_Pn_shorten.2.1 43 = .ok (.if_icmp .eq 7, 3) := by decide +kernel
theorem d_Pn_shorten_46 : decode m_Pn_shorten.2.1 46 = .ok (.iload_n 2, 1) := by decide +kernel
theorem d_Pn_shorten_47 : decode m_Pn_shorten.2.1 47 = .ok (.ifCond .ne 6, 3) := by decide +kernel
theorem d_Pn_shorten_50 : decode m_Pn_shorten.2.1 50 = .ok (.bipush (-4), 2) := by decide +kernel
theorem d_Pn_shorten_52 : decode m_Pn_shorten.2.1 52 = .ok (.ireturn, 1) := by decide +kernel
theorem d_Pn_shorten_53 : decode m_Pn_shorten.2.1 53 = .ok (.aload_n 0, 1) := by decide +kernel
theorem d_Pn_shorten_54 : decode m_Pn_shorten.2.1 54 = .ok (.getfield 38, 3) := by decide +kernel
theorem d_Pn_shorten_57 : decode m_Pn_shorten.2.1 57 = .ok (.aload_n 0, 1) := by decide +kernel
theorem d_Pn_shorten_58 : decode m_Pn_shorten.2.1 58 = .ok (.getfield 31, 3) := by decide +kernel
theorem d_Pn_shorten_61 : decode m_Pn_shorten.2.1 61 = .ok (.invokevirtual 163, 3) := by decide +kernel
theorem d_Pn_shorten_64 : decode m_Pn_shorten.2.1 64 = .ok (.aload_n 0, 1) := by decide +kernel
theorem d_Pn_shorten_65 : decode m_Pn_shorten.2.1 65 = .ok (.getfield 31, 3) := by decide +kernel
theorem d_Pn_shorten_68 : decode m_Pn_shorten.2.1 68 = .ok (.getfield 133, 3) := by decide +kernel
theorem d_Pn_shorten_71 : decode m_Pn_shorten.2.1 71 = .ok (.iload_n 1, 1) := by decide +kernel
theorem d_Pn_shorten_72 : decode m_Pn_shorten.2.1 72 = .ok (.dup2, 1) := by decide +kernel
theorem d_Pn_shorten_73 : decode m_Pn_shorten.2.1 73 = .ok (.iaload, 1) := by decide +kernel
theorem d_Pn_shorten_74 : decode m_Pn_shorten.2.1 74 = .ok (.iload_n 2, 1) := by decide +kernel
theorem d_Pn_shorten_75 : decode m_Pn_shorten.2.1 75 = .ok (.isub, 1) := by decide +kernel
theorem d_Pn_shorten_76 : decode m_Pn_shorten.2.1 76 = .ok (.iastore, 1) := by decide +kernel
theorem d_Pn_shorten_77 : decode m_Pn_shorten.2.1 77 = .ok (.aload_n 0, 1) := by decide +kernel
theorem d_Pn_shorten_78 : decode m_Pn_shorten.2.1 78 = .ok (.getfield 31, 3) := by decide +kernel
theorem d_Pn_shorten_81 : decode m_Pn_shorten.2.1 81 = .ok (.getfield 133, 3) := by decide +kernel
theorem d_Pn_shorten_84 : decode m_Pn_shorten.2.1 84 = .ok (.iload_n 1, 1) := by decide +kernel
theorem d_Pn_shorten_85 : decode m_Pn_shorten.2.1 85 = .ok (.iaload, 1) := by decide +kernel
theorem d_Pn_shorten_86 : decode m_Pn_shorten.2.1 86 = .ok (.ireturn, 1) := by decide +kernel
theorem d_Pn_ahead_0 : decode m_Pn_ahead.2.1 0 = .ok (.aload_n 0, 1) := by decide +kernel
theorem d_Pn_ahead_1 : decode m_Pn_ahead.2.1 1 = .ok (.iload_n 1, 1) := by decide +kernel
theorem d_Pn_ahead_2 : decode m_Pn_ahead.2.1 2 = .ok (.invokevirtual 127, 3) := by decide +kernel
theorem d_Pn_ahead_5 : decode m_Pn_ahead.2.1 5 = .ok (.ifCond .ne 6, 3) := by decide +kernel
theorem d_Pn_ahead_8 : decode m_Pn_ahead.2.1 8 = .ok (.bipush (-2), 2) := by decide +kernel
theorem d_Pn_ahead_10 : decode m_Pn_ahead.2.1 10 = .ok (.ireturn, 1) := by decide +kernel
theorem d_Pn_ahead_11 : decode m_Pn_ahead.2.1 11 = .ok (.aload_n 0, 1) := by decide +kernel
theorem d_Pn_ahead_12 : decode m_Pn_ahead.2.1 12 = .ok (.getfield 31, 3) := by decide +kernel
theorem d_Pn_ahead_15 : decode m_Pn_ahead.2.1 15 = .ok (.getfield 142, 3) := by decide +kernel
theorem d_Pn_ahead_18 : decode m_Pn_ahead.2.1 18 = .ok (.iload_n 1, 1) := by decide +kernel
theorem d_Pn_ahead_19 : decode m_Pn_ahead.2.1 19 = .ok (.iaload, 1) := by decide +kernel
theorem d_Pn_ahead_20 : decode m_Pn_ahead.2.1 20 = .ok (.iconst (-1), 1) := by decide +kernel
theorem d_Pn_ahead_21 : decode m_Pn_ahead.2.1 21 = .ok (.if_icmp .ne 6, 3) := by decide +kernel
theorem d_Pn_ahead_24 : decode m_Pn_ahead.2.1 24 = .ok (.bipush (-4), 2) := by decide +kernel
theorem d_Pn_ahead_26 : decode m_Pn_ahead.2.1 26 = .ok (.ireturn, 1) := by decide +kernel
theorem d_Pn_ahead_27 : decode m_Pn_ahead.2.1 27 = .ok (.aload_n 0, 1) := by decide +kernel
theorem d_Pn_ahead_28 : decode m_Pn_ahead.2.1 28 = .ok (.getfield 31, 3) := by decide +kernel
theorem d_Pn_ahead_31 : decode m_Pn_ahead.2.1 31 = .ok (.iload_n 1, 1) := by decide +kernel
theorem d_Pn_ahead_32 : decode m_Pn_ahead.2.1 32 = .ok (.invokevirtual 175, 3) := by decide +kernel
theorem d_Pn_ahead_35 : decode m_Pn_ahead.2.1 35 = .ok (.istore_n 2, 1) := by decide +kernel
theorem d_Pn_ahead_36 : decode m_Pn_ahead.2.1 36 = .ok (.iload_n 2, 1) := by decide +kernel
theorem d_Pn_ahead_37 : decode m_Pn_ahead.2.1 37 = .ok (.ifCond .ne 6, 3) := by decide +kernel
theorem d_Pn_ahead_40 : decode m_Pn_ahead.2.1 40 = .ok (.bipush (-4), 2) := by decide +kernel
theorem d_Pn_ahead_42 : decode m_Pn_ahead.2.1 42 = .ok (.ireturn, 1) := by decide +kernel
theorem d_Pn_ahead_43 : decode m_Pn_ahead.2.1 43 = .ok (.aload_n 0, 1) := by decide +kernel
theorem d_Pn_ahead_44 : decode m_Pn_ahead.2.1 44 = .ok (.getfield 38, 3) := by decide +kernel
theorem d_Pn_ahead_47 : decode m_Pn_ahead.2.1 47 = .ok (.aload_n 0, 1) := by decide +kernel
theorem d_Pn_ahead_48 : decode m_Pn_ahead.2.1 48 = .ok (.getfield 31, 3) := by decide +kernel
theorem d_Pn_ahead_51 : decode m_Pn_ahead.2.1 51 = .ok (.invokevirtual 163, 3) := by decide +kernel
theorem d_Pn_ahead_54 : decode m_Pn_ahead.2.1 54 = .ok (.aload_n 0, 1) := by decide +kernel
theorem d_Pn_ahead_55 : decode m_Pn_ahead.2.1 55 = .ok (.getfield 31, 3) := by decide +kernel
theorem d_Pn_ahead_58 : decode m_Pn_ahead.2.1 58 = .ok (.iload_n 1, 1) := by decide +kernel
theorem d_Pn_ahead_59 : decode m_Pn_ahead.2.1 59 = .ok (.invokevirtual 178, 3) := by decide +kernel
theorem d_Pn_ahead_62 : decode m_Pn_ahead.2.1 62 = .ok (.iload_n 2, 1) := by decide +kernel
theorem d_Pn_ahead_63 : decode m_Pn_ahead.2.1 63 = .ok (.ireturn, 1) := by decide +kernel
theorem d_Pn_undo_0 : decode m_Pn_undo.2.1 0 = .ok (.aload_n 0, 1) := by decide +kernel
theorem d_Pn_undo_1 : decode m_Pn_undo.2.1 1 = .ok (.getfield 38, 3) := by decide +kernel
theorem d_Pn_undo_4 : decode m_Pn_undo.2.1 4 = .ok (.getfield 99, 3) := by decide +kernel
theorem d_Pn_undo_7 : decode m_Pn_undo.2.1 7 = .ok (.ifCond .ne 6, 3) := by decide +kernel
theorem d_Pn_undo_10 : decode m_Pn_undo.2.1 10 = .ok (.bipush (-4), 2) := by decide +kernel
theorem d_Pn_undo_12 : decode m_Pn_undo.2.1 12 = .ok (.ireturn, 1) := by decide +kernel
theorem d_Pn_undo_13 : decode m_Pn_undo.2.1 13 = .ok (.aload_n 0, 1) := by decide +kernel
theorem d_Pn_undo_14 : decode m_Pn_undo.2.1 14 = .ok (.getfield 38, 3) := by decide +kernel
theorem d_Pn_undo_17 : decode m_Pn_undo.2.1 17 = .ok (.aload_n 0, 1) := by decide +kernel
theorem d_Pn_undo_18 : decode m_Pn_undo.2.1 18 = .ok (.getfield 31, 3) := by decide +kernel
theorem d_Pn_undo_21 : decode m_Pn_undo.2.1 21 = .ok (.invokevirtual 181, 3) := by decide +kernel
theorem d_Pn_undo_24 : decode m_Pn_undo.2.1 24 = .ok (.aload_n 0, 1) := by decide +kernel
theorem d_Pn_undo_25 : decode m_Pn_undo.2.1 25 = .ok (.getfield 38, 3) := by decide +kernel
theorem d_Pn_undo_28 : decode m_Pn_undo.2.1 28 = .ok (.getfield 99, 3) := by decide +kernel
theorem d_Pn_undo_31 : decode m_Pn_undo.2.1 31 = .ok (.ireturn, 1) := by decide +kernel
theorem d_Pn_keep_0 : decode m_Pn_keep.2.1 0 = .ok (.iload_n 1, 1) := by decide +kernel
theorem d_Pn_keep_1 : decode m_Pn_keep.2.1 1 = .ok (.iconst 0, 1) := by decide +kernel
theorem d_Pn_keep_2 : decode m_Pn_keep.2.1 2 = .ok (.iconst 1, 1) := by decide +kernel
theorem d_Pn_keep_3 : decode m_Pn_keep.2.1 3 = .ok (.invokestatic 71, 3) := by decide +kernel
theorem d_Pn_keep_6 : decode m_Pn_keep.2.1 6 = .ok (.ifCond .ne 6, 3) := by decide +kernel
theorem d_Pn_keep_9 : decode m_Pn_keep.2.1 9 = .ok (.bipush (-2), 2) := by decide +kernel
theorem d_Pn_keep_11 : decode m_Pn_keep.2.1 11 = .ok (.ireturn, 1) := by decide +kernel
theorem d_Pn_keep_12 : decode m_Pn_keep.2.1 12 = .ok (.aload_n 0, 1) := by decide +kernel
theorem d_Pn_keep_13 : decode m_Pn_keep.2.1 13 = .ok (.getfield 42, 3) := by decide +kernel
theorem d_Pn_keep_16 : decode m_Pn_keep.2.1 16 = .ok (.iload_n 1, 1) := by decide +kernel
theorem d_Pn_keep_17 : decode m_Pn_keep.2.1 17 = .ok (.aaload, 1) := by decide +kernel
theorem d_Pn_keep_18 : decode m_Pn_keep.2.1 18 = .ok (.aload_n 0, 1) := by decide +kernel
theorem d_Pn_keep_19 : decode m_Pn_keep.2.1 19 = .ok (.getfield 31, 3) := by decide +kernel
theorem d_Pn_keep_22 : decode m_Pn_keep.2.1 22 = .ok (.invokevirtual 184, 3) := by decide +kernel
theorem d_Pn_keep_25 : decode m_Pn_keep.2.1 25 = .ok (.aload_n 0, 1) := by decide +kernel
theorem d_Pn_keep_26 : decode m_Pn_keep.2.1 26 = .ok (.getfield 46, 3) := by decide +kernel
theorem d_Pn_keep_29 : decode m_Pn_keep.2.1 29 = .ok (.iload_n 1, 1) := by decide +kernel
theorem d_Pn_keep_30 : decode m_Pn_keep.2.1 30 = .ok (.iconst 1, 1) := by decide +kernel
theorem d_Pn_keep_31 : decode m_Pn_keep.2.1 31 = .ok (.bastore, 1) := by decide +kernel
theorem d_Pn_keep_32 : decode m_Pn_keep.2.1 32 = .ok (.aload_n 0, 1) := by decide +kernel
theorem d_Pn_keep_33 : decode m_Pn_keep.2.1 33 = .ok (.getfield 31, 3) := by decide +kernel
theorem d_Pn_keep_36 : decode m_Pn_keep.2.1 36 = .ok (.getfield 160, 3) := by decide +kernel
theorem d_Pn_keep_39 : decode m_Pn_keep.2.1 39 = .ok (.ireturn, 1) := by decide +kernel
theorem d_Pn_back_0 : decode m_Pn_back.2.1 0 = .ok (.iload_n 1, 1) := by decide +kernel
theorem d_Pn_back_1 : decode m_Pn_back.2.1 1 = .ok (.iconst 0, 1) := by decide +kernel
theorem d_Pn_back_2 : decode m_Pn_back.2.1 2 = .ok (.iconst 1, 1) := by decide +kernel
theorem d_Pn_back_3 : decode m_Pn_back.2.1 3 = .ok (.invokestatic 71, 3) := by decide +kernel
theorem d_Pn_back_6 : decode m_Pn_back.2.1 6 = .ok (.ifCond .ne 6, 3) := by decide +kernel
theorem d_Pn_back_9 : decode m_Pn_back.2.1 9 = .ok (.bipush (-2), 2) := by decide +kernel
theorem d_Pn_back_11 : decode m_Pn_back.2.1 11 = .ok (.ireturn, 1) := by decide +kernel
theorem d_Pn_back_12 : decode m_Pn_back.2.1 12 = .ok (.aload_n 0, 1) := by decide +kernel
theorem d_Pn_back_13 : decode m_Pn_back.2.1 13 = .ok (.getfield 46, 3) := by decide +kernel
theorem d_Pn_back_16 : decode m_Pn_back.2.1 16 = .ok (.iload_n 1, 1) := by decide +kernel
theorem d_Pn_back_17 : decode m_Pn_back.2.1 17 = .ok (.baload, 1) := by decide +kernel
theorem d_Pn_back_18 : decode m_Pn_back.2.1 18 = .ok (.ifCond .ne 6, 3) := by decide +kernel
theorem d_Pn_back_21 : decode m_Pn_back.2.1 21 = .ok (.bipush (-4), 2) := by decide +kernel
theorem d_Pn_back_23 : decode m_Pn_back.2.1 23 = .ok (.ireturn, 1) := by decide +kernel
theorem d_Pn_back_24 : decode m_Pn_back.2.1 24 = .ok (.aload_n 0, 1) := by decide +kernel
theorem d_Pn_back_25 : decode m_Pn_back.2.1 25 = .ok (.getfield 31, 3) := by decide +kernel
theorem d_Pn_back_28 : decode m_Pn_back.2.1 28 = .ok (.aload_n 0, 1) := by decide +kernel
theorem d_Pn_back_29 : decode m_Pn_back.2.1 29 = .ok (.getfield 42, 3) := by decide +kernel
theorem d_Pn_back_32 : decode m_Pn_back.2.1 32 = .ok (.iload_n 1, 1) := by decide +kernel
theorem d_Pn_back_33 : decode m_Pn_back.2.1 33 = .ok (.aaload, 1) := by decide +kernel
theorem d_Pn_back_34 : decode m_Pn_back.2.1 34 = .ok (.invokevirtual 184, 3) := by decide +kernel
theorem d_Pn_back_37 : decode m_Pn_back.2.1 37 = .ok (.aload_n 0, 1) := by decide +kernel
theorem d_Pn_back_38 : decode m_Pn_back.2.1 38 = .ok (.getfield 38, 3) := by decide +kernel
theorem d_Pn_back_41 : decode m_Pn_back.2.1 41 = .ok (.iconst 0, 1) := by decide +kernel
theorem d_Pn_back_42 : decode m_Pn_back.2.1 42 = .ok (.putfield 99, 3) := by decide +kernel
theorem d_Pn_back_45 : decode m_Pn_back.2.1 45 = .ok (.aload_n 0, 1) := by decide +kernel
theorem d_Pn_back_46 : decode m_Pn_back.2.1 46 = .ok (.getfield 31, 3) := by decide +kernel
theorem d_Pn_back_49 : decode m_Pn_back.2.1 49 = .ok (.getfield 160, 3) := by decide +kernel
theorem d_Pn_back_52 : decode m_Pn_back.2.1 52 = .ok (.ireturn, 1) := by decide +kernel
theorem d_Pn_behind_0 : decode m_Pn_behind.2.1 0 = .ok (.aload_n 0, 1) := by decide +kernel
theorem d_Pn_behind_1 : decode m_Pn_behind.2.1 1 = .ok (.iload_n 1, 1) := by decide +kernel
theorem d_Pn_behind_2 : decode m_Pn_behind.2.1 2 = .ok (.invokevirtual 127, 3) := by decide +kernel
theorem d_Pn_behind_5 : decode m_Pn_behind.2.1 5 = .ok (.ifCond .ne 6, 3) := by decide +kernel
theorem d_Pn_behind_8 : decode m_Pn_behind.2.1 8 = .ok (.bipush (-2), 2) := by decide +kernel
theorem d_Pn_behind_10 : decode m_Pn_behind.2.1 10 = .ok (.ireturn, 1) := by decide +kernel
theorem d_Pn_behind_11 : decode m_Pn_behind.2.1 11 = .ok (.iload_n 2, 1) := by decide +kernel
theorem d_Pn_behind_12 : decode m_Pn_behind.2.1 12 = .ok (.iconst 0, 1) := by decide +kernel
theorem d_Pn_behind_13 : decode m_Pn_behind.2.1 13 = .ok (.bipush 60, 2) := by decide +kernel
theorem d_Pn_behind_15 : decode m_Pn_behind.2.1 15 = .ok (.invokestatic 71, 3) := by decide +kernel
theorem d_Pn_behind_18 : decode m_Pn_behind.2.1 18 = .ok (.ifCond .eq 12, 3) := by decide +kernel
theorem d_Pn_behind_21 : decode m_Pn_behind.2.1 21 = .ok (.iload_n 3, 1) := by decide +kernel
theorem d_Pn_behind_22 : decode m_Pn_behind.2.1 22 = .ok (.iconst 0, 1) := by decide +kernel
theorem d_Pn_behind_23 : decode m_Pn_behind.2.1 23 = .ok (.iconst 1, 1) := by decide +kernel
theorem d_Pn_behind_24 : decode m_Pn_behind.2.1 24 = .ok (.invokestatic 71, 3) := by decide +kernel
theorem d_Pn_behind_27 : decode m_Pn_behind.2.1 27 = .ok (.ifCond .ne 6, 3) := by decide +kernel
theorem d_Pn_behind_30 : decode m_Pn_behind.2.1 30 = .ok (.bipush (-3), 2) := by decide +kernel
theorem d_Pn_behind_32 : decode m_Pn_behind.2.1 32 = .ok (.ireturn, 1) := by decide +kernel
theorem d_Pn_behind_33 : decode m_Pn_behind.2.1 33 = .ok (.aload_n 0, 1) := by decide +kernel
theorem d_Pn_behind_34 : decode m_Pn_behind.2.1 34 = .ok (.getfield 53, 3) := by decide +kernel
theorem d_Pn_behind_37 : decode m_Pn_behind.2.1 37 = .ok (.aload_n 0, 1) := by decide +kernel
theorem d_Pn_behind_38 : decode m_Pn_behind.2.1 38 = .ok (.getfield 31, 3) := by decide +kernel
theorem d_Pn_behind_41 : decode m_Pn_behind.2.1 41 = .ok (.iload_n 2, 1) := by decide +kernel
theorem d_Pn_behind_42 : decode m_Pn_behind.2.1 42 = .ok (.invokevirtual 186, 3) := by decide +kernel
theorem d_Pn_behind_45 : decode m_Pn_behind.2.1 45 = .ok (.astore 4, 2) := by decide +kernel
theorem d_Pn_behind_47 : decode m_Pn_behind.2.1 47 = .ok (.iload_n 3, 1) := by decide +kernel
theorem d_Pn_behind_48 : decode m_Pn_behind.2.1 48 = .ok (.ifCond .ne 13, 3) := by decide +kernel
theorem d_Pn_behind_51 : decode m_Pn_behind.2.1 51 = .ok (.aload 4, 2) := by decide +kernel
theorem d_Pn_behind_53 : decode m_Pn_behind.2.1 53 = .ok (.getfield 136, 3) := by decide +kernel
theorem d_Pn_behind_56 : decode m_Pn_behind.2.1 56 = .ok (.iload_n 1, 1) := by decide +kernel
theorem d_Pn_behind_57 : decode m_Pn_behind.2.1 57 = .ok (.iaload, 1) := by decide +kernel
theorem d_Pn_behind_58 : decode m_Pn_behind.2.1 58 = .ok (.goto 10, 3) := by decide +kernel
theorem d_Pn_behind_61 : decode m_Pn_behind.2.1 61 = .ok (.aload 4, 2) := by decide +kernel
theorem d_Pn_behind_63 : decode m_Pn_behind.2.1 63 = .ok (.getfield 142, 3) := by decide +kernel
theorem d_Pn_behind_66 : decode m_Pn_behind.2.1 66 = .ok (.iload_n 1, 1) := by decide +kernel
theorem d_Pn_behind_67 : decode m_Pn_behind.2.1 67 = .ok (.iaload, 1) := by decide +kernel
theorem d_Pn_behind_68 : decode m_Pn_behind.2.1 68 = .ok (.ireturn, 1) := by decide +kernel
theorem d_Pn_keeps_0 : decode m_Pn_keeps.2.1 0 = .ok (.aload_n 0, 1) := by decide +kernel
theorem d_Pn_keeps_1 : decode m_Pn_keeps.2.1 1 = .ok (.iload_n 1, 1) := by decide +kernel
theorem d_Pn_keeps_2 : decode m_Pn_keeps.2.1 2 = .ok (.invokevirtual 127, 3) := by decide +kernel
theorem d_Pn_keeps_5 : decode m_Pn_keeps.2.1 5 = .ok (.ifCond .eq 18, 3) := by decide +kernel
theorem d_Pn_keeps_8 : decode m_Pn_keeps.2.1 8 = .ok (.aload_n 0, 1) := by decide +kernel
theorem d_Pn_keeps_9 : decode m_Pn_keeps.2.1 9 = .ok (.getfield 53, 3) := by decide +kernel
theorem d_Pn_keeps_12 : decode m_Pn_keeps.2.1 12 = .ok (.aload_n 0, 1) := by decide +kernel
theorem d_Pn_keeps_13 : decode m_Pn_keeps.2.1 13 = .ok (.getfield 31, 3) := by decide +kernel
theorem d_Pn_keeps_16 : decode m_Pn_keeps.2.1 16 = .ok (.iload_n 1, 1) := by decide +kernel
theorem d_Pn_keeps_17 : decode m_Pn_keeps.2.1 17 = .ok (.invokevirtual 190, 3) := by decide +kernel
theorem d_Pn_keeps_20 : decode m_Pn_keeps.2.1 20 = .ok (.goto 5, 3) := by decide +kernel
theorem d_Pn_keeps_23 : decode m_Pn_keeps.2.1 23 = .ok (.bipush (-2), 2) := by decide +kernel
theorem d_Pn_keeps_25 : decode m_Pn_keeps.2.1 25 = .ok (.ireturn, 1) := by decide +kernel
theorem d_Pn_just_0 : decode m_Pn_just.2.1 0 = .ok (.aload_n 0, 1) := by decide +kernel
theorem d_Pn_just_1 : decode m_Pn_just.2.1 1 = .ok (.iload_n 1, 1) := by decide +kernel
theorem d_Pn_just_2 : decode m_Pn_just.2.1 2 = .ok (.invokevirtual 106, 3) := by decide +kernel
theorem d_Pn_just_5 : decode m_Pn_just.2.1 5 = .ok (.ifCond .eq 18, 3) := by decide +kernel
theorem d_Pn_just_8 : decode m_Pn_just.2.1 8 = .ok (.aload_n 0, 1) := by decide +kernel
theorem d_Pn_just_9 : decode m_Pn_just.2.1 9 = .ok (.getfield 53, 3) := by decide +kernel
theorem d_Pn_just_12 : decode m_Pn_just.2.1 12 = .ok (.aload_n 0, 1) := by decide +kernel
theorem d_Pn_just_13 : decode m_Pn_just.2.1 13 = .ok (.getfield 31, 3) := by decide +kernel
theorem d_Pn_just_16 : decode m_Pn_just.2.1 16 = .ok (.iload_n 1, 1) := by decide +kernel
theorem d_Pn_just_17 : decode m_Pn_just.2.1 17 = .ok (.invokevirtual 194, 3) := by decide +kernel
theorem d_Pn_just_20 : decode m_Pn_just.2.1 20 = .ok (.goto 5, 3) := by decide +kernel
theorem d_Pn_just_23 : decode m_Pn_just.2.1 23 = .ok (.bipush (-2), 2) := by decide +kernel
theorem d_Pn_just_25 : decode m_Pn_just.2.1 25 = .ok (.ireturn, 1) := by decide +kernel
theorem d_Pn_stuck_0 : decode m_Pn_stuck.2.1 0 = .ok (.aload_n 0, 1) := by decide +kernel
theorem d_Pn_stuck_1 : decode m_Pn_stuck.2.1 1 = .ok (.getfield 31, 3) := by decide +kernel
theorem d_Pn_stuck_4 : decode m_Pn_stuck.2.1 4 = .ok (.invokevirtual 197, 3) := by decide +kernel
theorem d_Pn_stuck_7 : decode m_Pn_stuck.2.1 7 = .ok (.ireturn, 1) := by decide +kernel
theorem d_Pn_order_0 : decode m_Pn_order.2.1 0 = .ok (.aload_n 0, 1) := by decide +kernel
theorem d_Pn_order_1 : decode m_Pn_order.2.1 1 = .ok (.iload_n 1, 1) := by decide +kernel
theorem d_Pn_order_2 : decode m_Pn_order.2.1 2 = .ok (.invokevirtual 106, 3) := by decide +kernel
theorem d_Pn_order_5 : decode m_Pn_order.2.1 5 = .ok (.ifCond .ne 6, 3) := by decide +kernel
theorem d_Pn_order_8 : decode m_Pn_order.2.1 8 = .ok (.bipush (-2), 2) := by decide +kernel
theorem d_Pn_order_10 : decode m_Pn_order.2.1 10 = .ok (.ireturn, 1) := by decide +kernel
theorem d_Pn_order_11 : decode m_Pn_order.2.1 11 = .ok (.iload_n 2, 1) := by decide +kernel
theorem d_Pn_order_12 : decode m_Pn_order.2.1 12 = .ok (.iconst 1, 1) := by decide +kernel
theorem d_Pn_order_13 : decode m_Pn_order.2.1 13 = .ok (.bipush 30, 2) := by decide +kernel
theorem d_Pn_order_15 : decode m_Pn_order.2.1 15 = .ok (.invokestatic 71, 3) := by decide +kernel
theorem d_Pn_order_18 : decode m_Pn_order.2.1 18 = .ok (.ifCond .eq 8, 3) := by decide +kernel
theorem d_Pn_order_21 : decode m_Pn_order.2.1 21 = .ok (.iload_n 3, 1) := by decide +kernel
theorem d_Pn_order_22 : decode m_Pn_order.2.1 22 = .ok (.iconst (-1), 1) := by decide +kernel
theorem d_Pn_order_23 : decode m_Pn_order.2.1 23 = .ok (.if_icmp .ge 6, 3) := by decide +kernel
theorem d_Pn_order_26 : decode m_Pn_order.2.1 26 = .ok (.bipush (-3), 2) := by decide +kernel
theorem d_Pn_order_28 : decode m_Pn_order.2.1 28 = .ok (.ireturn, 1) := by decide +kernel
theorem d_Pn_order_29 : decode m_Pn_order.2.1 29 = .ok (.aload_n 0, 1) := by decide +kernel
theorem d_Pn_order_30 : decode m_Pn_order.2.1 30 = .ok (.getfield 31, 3) := by decide +kernel
theorem d_Pn_order_33 : decode m_Pn_order.2.1 33 = .ok (.iload_n 1, 1) := by decide +kernel
theorem d_Pn_order_34 : decode m_Pn_order.2.1 34 = .ok (.invokevirtual 119, 3) := by decide +kernel
theorem d_Pn_order_37 : decode m_Pn_order.2.1 37 = .ok (.iconst 5, 1) := by decide +kernel
theorem d_Pn_order_38 : decode m_Pn_order.2.1 38 = .ok (.if_icmp .le 5, 3) := by decide +kernel
theorem d_Pn_order_41 : decode m_Pn_order.2.1 41 = .ok (.iconst (-1), 1) := by decide +kernel
theorem d_Pn_order_42 : decode m_Pn_order.2.1 42 = .ok (.ireturn, 1) := by decide +kernel
theorem d_Pn_order_43 : decode m_Pn_order.2.1 43 = .ok (.aload_n 0, 1) := by decide +kernel
theorem d_Pn_order_44 : decode m_Pn_order.2.1 44 = .ok (.getfield 53, 3) := by decide +kernel
theorem d_Pn_order_47 : decode m_Pn_order.2.1 47 = .ok (.aload_n 0, 1) := by decide +kernel
theorem d_Pn_order_48 : decode m_Pn_order.2.1 48 = .ok (.getfield 31, 3) := by decide +kernel
theorem d_Pn_order_51 : decode m_Pn_order.2.1 51 = .ok (.iload_n 1, 1) := by decide +kernel
theorem d_Pn_order_52 : decode m_Pn_order.2.1 52 = .ok (.iload_n 2, 1) := by decide +kernel
theorem d_Pn_order_53 : decode m_Pn_order.2.1 53 = .ok (.invokevirtual 201, 3) := by decide +kernel
theorem d_Pn_order_56 : decode m_Pn_order.2.1 56 = .ok (.aload_n 0, 1) := by decide +kernel
theorem d_Pn_order_57 : decode m_Pn_order.2.1 57 = .ok (.getfield 53, 3) := by decide +kernel
theorem d_Pn_order_60 : decode m_Pn_order.2.1 60 = .ok (.iload_n 3, 1) := by decide +kernel
theorem d_Pn_order_61 : decode m_Pn_order.2.1 61 = .ok (.invokevirtual 205, 3) := by decide +kernel
theorem d_Pn_order_64 : decode m_Pn_order.2.1 64 = .ok (.ireturn, 1) := by decide +kernel
theorem d_Pn_godfathers_0 : decode m_Pn_godfathers.2.1 0 = .ok (.iload_n 1, 1) := by decide +kernel
theorem d_Pn_godfathers_1 : decode m_Pn_godfathers.2.1 1 = .ok (.iconst 0, 1) := by decide +kernel
theorem d_Pn_godfathers_2 : decode m_Pn_godfathers.2.1 2 = .ok (.bipush 30, 2) := by decide +kernel
theorem d_Pn_godfathers_4 : decode m_Pn_godfathers.2.1 4 = .ok (.invokestatic 71, 3) := by decide +kernel
theorem d_Pn_godfathers_7 : decode m_Pn_godfathers.2.1 7 = .ok (.ifCond .eq 12, 3) := by decide +kernel
theorem d_Pn_godfathers_10 : decode m_Pn_godfathers.2.1 10 = .ok (.iload_n 2, 1) := by decide +kernel
theorem d_Pn_godfathers_11 : decode m_Pn_godfathers.2.1 11 = .ok (.iconst (-1), 1) := by decide +kernel
theorem d_Pn_godfathers_12 : decode m_Pn_godfathers.2.1 12 = .ok (.iconst 2, 1) := by decide +kernel
theorem d_Pn_godfathers_13 : decode m_Pn_godfathers.2.1 13 = .ok (.invokestatic 71, 3) := by decide +kernel
theorem d_Pn_godfathers_16 : decode m_Pn_godfathers.2.1 16 = .ok (.ifCond .ne 6, 3) := by decide +kernel
theorem d_Pn_godfathers_19 : decode m_Pn_godfathers.2.1 19 = .ok (.bipush (-3), 2) := by decide +kernel
theorem d_Pn_godfathers_21 : decode m_Pn_godfathers.2.1 21 = .ok (.ireturn, 1) := by decide +kernel
theorem d_Pn_godfathers_22 : decode m_Pn_godfathers.2.1 22 = .ok (.aload_n 0, 1) := by decide +kernel
theorem d_Pn_godfathers_23 : decode m_Pn_godfathers.2.1 23 = .ok (.getfield 53, 3) := by decide +kernel
theorem d_Pn_godfathers_26 : decode m_Pn_godfathers.2.1 26 = .ok (.aload_n 0, 1) := by decide +kernel
theorem d_Pn_godfathers_27 : decode m_Pn_godfathers.2.1 27 = .ok (.getfield 31, 3) := by decide +kernel
theorem d_Pn_godfathers_30 : decode m_Pn_godfathers.2.1 30 = .ok (.iload_n 1, 1) := by decide +kernel
theorem d_Pn_godfathers_31 : decode m_Pn_godfathers.2.1 31 = .ok (.invokevirtual 208, 3) := by decide +kernel
theorem d_Pn_godfathers_34 : decode m_Pn_godfathers.2.1 34 = .ok (.aload_n 0, 1) := by decide +kernel
theorem d_Pn_godfathers_35 : decode m_Pn_godfathers.2.1 35 = .ok (.getfield 53, 3) := by decide +kernel
theorem d_Pn_godfathers_38 : decode m_Pn_godfathers.2.1 38 = .ok (.iload_n 2, 1) := by decide +kernel
theorem d_Pn_godfathers_39 : decode m_Pn_godfathers.2.1 39 = .ok (.invokevirtual 205, 3) := by decide +kernel
theorem d_Pn_godfathers_42 : decode m_Pn_godfathers.2.1 42 = .ok (.ireturn, 1) := by decide +kernel
theorem d_Pn_peace_0 : decode m_Pn_peace.2.1 0 = .ok (.aload_n 0, 1) := by decide +kernel
theorem d_Pn_peace_1 : decode m_Pn_peace.2.1 1 = .ok (.getfield 10, 3) := by decide +kernel
theorem d_Pn_peace_4 : decode m_Pn_peace.2.1 4 = .ok (.invokevirtual 212, 3) := by decide +kernel
theorem d_Pn_peace_7 : decode m_Pn_peace.2.1 7 = .ok (.ireturn, 1) := by decide +kernel
theorem d_Pn_idle_0 : decode m_Pn_idle.2.1 0 = .ok (.iload_n 1, 1) := by decide +kernel
theorem d_Pn_idle_1 : decode m_Pn_idle.2.1 1 = .ok (.iconst 0, 1) := by decide +kernel
theorem d_Pn_idle_2 : decode m_Pn_idle.2.1 2 = .ok (.bipush 9, 2) := by decide +kernel
theorem d_Pn_idle_4 : decode m_Pn_idle.2.1 4 = .ok (.invokestatic 71, 3) := by decide +kernel
theorem d_Pn_idle_7 : decode m_Pn_idle.2.1 7 = .ok (.ifCond .eq 33, 3) := by decide +kernel
theorem d_Pn_idle_10 : decode m_Pn_idle.2.1 10 = .ok (.iload_n 2, 1) := by decide +kernel
theorem d_Pn_idle_11 : decode m_Pn_idle.2.1 11 = .ok (.iconst 0, 1) := by decide +kernel
theorem d_Pn_idle_12 : decode m_Pn_idle.2.1 12 = .ok (.bipush 10, 2) := by decide +kernel
theorem d_Pn_idle_14 : decode m_Pn_idle.2.1 14 = .ok (.invokestatic 71, 3) := by decide +kernel
theorem d_Pn_idle_17 : decode m_Pn_idle.2.1 17 = .ok (.ifCond .eq 23, 3) := by decide +kernel
theorem d_Pn_idle_20 : decode m_Pn_idle.2.1 20 = .ok (.iload_n 3, 1) := by decide +kernel
theorem d_Pn_idle_21 : decode m_Pn_idle.2.1 21 = .ok (.iconst 0, 1) := by decide +kernel
theorem d_Pn_idle_22 : decode m_Pn_idle.2.1 22 = .ok (.bipush 9, 2) := by decide +kernel
theorem d_Pn_idle_24 : decode m_Pn_idle.2.1 24 = .ok (.invokestatic 71, 3) := by decide +kernel
theorem d_Pn_idle_27 : decode m_Pn_idle.2.1 27 = .ok (.ifCond .eq 13, 3) := by decide +kernel
theorem d_Pn_idle_30 : decode m_Pn_idle.2.1 30 = .ok (.iload 4, 2) := by decide +kernel
theorem d_Pn_idle_32 : decode m_Pn_idle.2.1 32 = .ok (.iconst 0, 1) := by decide +kernel
theorem d_Pn_idle_33 : decode m_Pn_idle.2.1 33 = .ok (.iconst 1, 1) := by decide +kernel
theorem d_Pn_idle_34 : decode m_Pn_idle.2.1 34 = .ok (.invokestatic 71, 3) := by decide +kernel
theorem d_Pn_idle_37 : decode m_Pn_idle.2.1 37 = .ok (.ifCond .ne 6, 3) := by decide +kernel
theorem d_Pn_idle_40 : decode m_Pn_idle.2.1 40 = .ok (.bipush (-3), 2) := by decide +kernel
theorem d_Pn_idle_42 : decode m_Pn_idle.2.1 42 = .ok (.ireturn, 1) := by decide +kernel
theorem d_Pn_idle_43 : decode m_Pn_idle.2.1 43 = .ok (.iload_n 1, 1) := by decide +kernel
theorem d_Pn_idle_44 : decode m_Pn_idle.2.1 44 = .ok (.iload_n 2, 1) := by decide +kernel
theorem d_Pn_idle_45 : decode m_Pn_idle.2.1 45 = .ok (.iload_n 3, 1) := by decide +kernel
theorem d_Pn_idle_46 : decode m_Pn_idle.2.1 46 = .ok (.iload 4, 2) := by decide +kernel
theorem d_Pn_idle_48 : decode m_Pn_idle.2.1 48 = .ok (.invokestatic 215, 3) := by decide +kernel
theorem d_Pn_idle_51 : decode m_Pn_idle.2.1 51 = .ok (.ireturn, 1) := by decide +kernel
theorem d_Pn_seen_0 : decode m_Pn_seen.2.1 0 = .ok (.iload_n 1, 1) := by decide +kernel
theorem d_Pn_seen_1 : decode m_Pn_seen.2.1 1 = .ok (.iconst 1, 1) := by decide +kernel
theorem d_Pn_seen_2 : decode m_Pn_seen.2.1 2 = .ok (.bipush 9, 2) := by decide +kernel
theorem d_Pn_seen_4 : decode m_Pn_seen.2.1 4 = .ok (.invokestatic 71, 3) := by decide +kernel
theorem d_Pn_seen_7 : decode m_Pn_seen.2.1 7 = .ok (.ifCond .eq 24, 3) := by decide +kernel
theorem d_Pn_seen_10 : decode m_Pn_seen.2.1 10 = .ok (.iload_n 2, 1) := by decide +kernel
theorem d_Pn_seen_11 : decode m_Pn_seen.2.1 11 = .ok (.iconst 1, 1) := by decide +kernel
theorem d_Pn_seen_12 : decode m_Pn_seen.2.1 12 = .ok (.bipush 9, 2) := by decide +kernel
theorem d_Pn_seen_14 : decode m_Pn_seen.2.1 14 = .ok (.invokestatic 71, 3) := by decide +kernel
theorem d_Pn_seen_17 : decode m_Pn_seen.2.1 17 = .ok (.ifCond .eq 14, 3) := by decide +kernel
theorem d_Pn_seen_20 : decode m_Pn_seen.2.1 20 = .ok (.iload_n 3, 1) := by decide +kernel
theorem d_Pn_seen_21 : decode m_Pn_seen.2.1 21 = .ok (.iconst 0, 1) := by decide +kernel
theorem d_Pn_seen_22 : decode m_Pn_seen.2.1 22 = .ok (.sipush 200, 3) := by decide +kernel
theorem d_Pn_seen_25 : decode m_Pn_seen.2.1 25 = .ok (.invokestatic 71, 3) := by decide +kernel
theorem d_Pn_seen_28 : decode m_Pn_seen.2.1 28 = .ok (.ifCond .ne 6, 3) := by decide +kernel
theorem d_Pn_seen_31 : decode m_Pn_seen.2.1 31 = .ok (.bipush (-3), 2) := by decide +kernel
theorem d_Pn_seen_33 : decode m_Pn_seen.2.1 33 = .ok (.ireturn, 1) := by decide +kernel
theorem d_Pn_seen_34 : decode m_Pn_seen.2.1 34 = .ok (.aload_n 0, 1) := by decide +kernel
theorem d_Pn_seen_35 : decode m_Pn_seen.2.1 35 = .ok (.getfield 60, 3) := by decide +kernel
theorem d_Pn_seen_38 : decode m_Pn_seen.2.1 38 = .ok (.iload_n 1, 1) := by decide +kernel
theorem d_Pn_seen_39 : decode m_Pn_seen.2.1 39 = .ok (.iload_n 2, 1) := by decide +kernel
theorem d_Pn_seen_40 : decode m_Pn_seen.2.1 40 = .ok (.iload_n 3, 1) := by decide +kernel
theorem d_Pn_seen_41 : decode m_Pn_seen.2.1 41 = .ok (.invokevirtual 221, 3) := by decide +kernel
theorem d_Pn_seen_44 : decode m_Pn_seen.2.1 44 = .ok (.ifCond .eq 13, 3) := by decide +kernel
theorem d_Pn_seen_47 : decode m_Pn_seen.2.1 47 = .ok (.aload_n 0, 1) := by decide +kernel
theorem d_Pn_seen_48 : decode m_Pn_seen.2.1 48 = .ok (.getfield 60, 3) := by decide +kernel
theorem d_Pn_seen_51 : decode m_Pn_seen.2.1 51 = .ok (.getfield 102, 3) := by decide +kernel
theorem d_Pn_seen_54 : decode m_Pn_seen.2.1 54 = .ok (.goto 5, 3) := by decide +kernel
theorem d_Pn_seen_57 : decode m_Pn_seen.2.1 57 = .ok (.bipush (-5), 2) := by decide +kernel
theorem d_Pn_seen_59 : decode m_Pn_seen.2.1 59 = .ok (.ireturn, 1) := by decide +kernel
theorem d_Pn_forget_0 : decode m_Pn_forget.2.1 0 = .ok (.aload_n 0, 1) := by decide +kernel
theorem d_Pn_forget_1 : decode m_Pn_forget.2.1 1 = .ok (.getfield 60, 3) := by decide +kernel
theorem d_Pn_forget_4 : decode m_Pn_forget.2.1 4 = .ok (.getfield 102, 3) := by decide +kernel
theorem d_Pn_forget_7 : decode m_Pn_forget.2.1 7 = .ok (.istore_n 1, 1) := by decide +kernel
theorem d_Pn_forget_8 : decode m_Pn_forget.2.1 8 = .ok (.aload_n 0, 1) := by decide +kernel
theorem d_Pn_forget_9 : decode m_Pn_forget.2.1 9 = .ok (.getfield 60, 3) := by decide +kernel
theorem d_Pn_forget_12 : decode m_Pn_forget.2.1 12 = .ok (.iconst 0, 1) := by decide +kernel
theorem d_Pn_forget_13 : decode m_Pn_forget.2.1 13 = .ok (.putfield 102, 3) := by decide +kernel
theorem d_Pn_forget_16 : decode m_Pn_forget.2.1 16 = .ok (.iload_n 1, 1) := by decide +kernel
theorem d_Pn_forget_17 : decode m_Pn_forget.2.1 17 = .ok (.ireturn, 1) := by decide +kernel
theorem d_Pn_kinds_0 : decode m_Pn_kinds.2.1 0 = .ok (.aload_n 0, 1) := by decide +kernel
theorem d_Pn_kinds_1 : decode m_Pn_kinds.2.1 1 = .ok (.getfield 60, 3) := by decide +kernel
theorem d_Pn_kinds_4 : decode m_Pn_kinds.2.1 4 = .ok (.invokevirtual 224, 3) := by decide +kernel
theorem d_Pn_kinds_7 : decode m_Pn_kinds.2.1 7 = .ok (.ireturn, 1) := by decide +kernel
theorem d_Pn_attempt_0 : decode m_Pn_attempt.2.1 0 = .ok (.aload_n 0, 1) := by decide +kernel
theorem d_Pn_attempt_1 : decode m_Pn_attempt.2.1 1 = .ok (.getfield 60, 3) := by decide +kernel
theorem d_Pn_attempt_4 : decode m_Pn_attempt.2.1 4 = .ok (.invokevirtual 224, 3) := by decide +kernel
theorem d_Pn_attempt_7 : decode m_Pn_attempt.2.1 7 = .ok (.invokestatic 227, 3) := by decide +kernel
theorem d_Pn_attempt_10 : decode m_Pn_attempt.2.1 10 = .ok (.ireturn, 1) := by decide +kernel
theorem d_Pn_register_0 : decode m_Pn_register.2.1 0 = .ok (.iload_n 1, 1) := by decide +kernel
theorem d_Pn_register_1 : decode m_Pn_register.2.1 1 = .ok (.invokestatic 230, 3) := by decide +kernel
theorem d_Pn_register_4 : decode m_Pn_register.2.1 4 = .ok (.ifCond .ne 6, 3) := by decide +kernel
theorem d_Pn_register_7 : decode m_Pn_register.2.1 7 = .ok (.bipush (-2), 2) := by decide +kernel
theorem d_Pn_register_9 : decode m_Pn_register.2.1 9 = .ok (.ireturn, 1) := by decide +kernel
theorem d_Pn_register_10 : decode m_Pn_register.2.1 10 = .ok (.iload_n 2, 1) := by decide +kernel
theorem d_Pn_register_11 : decode m_Pn_register.2.1 11 = .ok (.iconst 5, 1) := by decide +kernel
theorem d_Pn_register_12 : decode m_Pn_register.2.1 12 = .ok (.if_icmp .le 6, 3) := by decide +kernel
theorem d_Pn_register_15 : decode m_Pn_register.2.1 15 = .ok (.bipush (-3), 2) := by decide +kernel
theorem d_Pn_register_17 : decode m_Pn_register.2.1 17 = .ok (.ireturn, 1) := by decide +kernel
theorem d_Pn_register_18 : decode m_Pn_register.2.1 18 = .ok (.iload_n 2, 1) := by decide +kernel
theorem d_Pn_register_19 : decode m_Pn_register.2.1 19 = .ok (.ifCond .ge 6, 3) := by decide +kernel
theorem d_Pn_register_22 : decode m_Pn_register.2.1 22 = .ok (.bipush (-17), 2) := by decide +kernel
theorem d_Pn_register_24 : decode m_Pn_register.2.1 24 = .ok (.ireturn, 1) := by decide +kernel
theorem d_Pn_register_25 : decode m_Pn_register.2.1 25 = .ok (.aload_n 0, 1) := by decide +kernel
theorem d_Pn_register_26 : decode m_Pn_register.2.1 26 = .ok (.getfield 67, 3) := by decide +kernel
theorem d_Pn_register_29 : decode m_Pn_register.2.1 29 = .ok (.getfield 233, 3) := by decide +kernel
theorem d_Pn_register_32 : decode m_Pn_register.2.1 32 = .ok (.iload_n 1, 1) := by decide +kernel
theorem d_Pn_register_33 : decode m_Pn_register.2.1 33 = .ok (.new 237, 3) := by decide +kernel
theorem d_Pn_register_36 : decode m_Pn_register.2.1 36 = .ok (.dup, 1) := by decide +kernel
theorem d_Pn_register_37 : decode m_Pn_register.2.1 37 = .ok (.iload_n 2, 1) := by decide +kernel
theorem d_Pn_register_38 : decode m_Pn_register.2.1 38 = .ok (.invokespecial 239, 3) := by decide +kernel
theorem d_Pn_register_41 : decode m_Pn_register.2.1 41 = .ok (.aastore, 1) := by decide +kernel
theorem d_Pn_register_42 : decode m_Pn_register.2.1 42 = .ok (.iload_n 2, 1) := by decide +kernel
theorem d_Pn_register_43 : decode m_Pn_register.2.1 43 = .ok (.ireturn, 1) := by decide +kernel
theorem d_Pn_isRegister_0 : decode m_Pn_isRegister.2.1 0 = .ok (.iload_n 0, 1) := by decide +kernel
theorem d_Pn_isRegister_1 : decode m_Pn_isRegister.2.1 1 = .ok (.iconst 0, 1) := by decide +kernel
theorem d_Pn_isRegister_2 : decode m_Pn_isRegister.2.1 2 = .ok (.iconst 2, 1) := by decide +kernel
theorem d_Pn_isRegister_3 : decode m_Pn_isRegister.2.1 3 = .ok (.invokestatic 71, 3) := by decide +kernel
theorem d_Pn_isRegister_6 : decode m_Pn_isRegister.2.1 6 = .ok (.ireturn, 1) := by decide +kernel
theorem d_Pn_page_0 : decode m_Pn_page.2.1 0 = .ok (.iload_n 1, 1) := by decide +kernel
theorem d_Pn_page_1 : decode m_Pn_page.2.1 1 = .ok (.invokestatic 230, 3) := by decide +kernel
theorem d_Pn_page_4 : decode m_Pn_page.2.1 4 = .ok (.ifCond .ne 6, 3) := by decide +kernel
theorem d_Pn_page_7 : decode m_Pn_page.2.1 7 = .ok (.bipush (-2), 2) := by decide +kernel
theorem d_Pn_page_9 : decode m_Pn_page.2.1 9 = .ok (.ireturn, 1) := by decide +kernel
theorem d_Pn_page_10 : decode m_Pn_page.2.1 10 = .ok (.iload_n 3, 1) := by decide +kernel
theorem d_Pn_page_11 : decode m_Pn_page.2.1 11 = .ok (.bipush 6, 2) := by decide +kernel
theorem d_Pn_page_13 : decode m_Pn_page.2.1 13 = .ok (.if_icmp .le 6, 3) := by decide +kernel
theorem d_Pn_page_16 : decode m_Pn_page.2.1 16 = .ok (.bipush (-3), 2) := by decide +kernel
theorem d_Pn_page_18 : decode m_Pn_page.2.1 18 = .ok (.ireturn, 1) := by decide +kernel
theorem d_Pn_page_19 : decode m_Pn_page.2.1 19 = .ok (.aload_n 0, 1) := by decide +kernel
theorem d_Pn_page_20 : decode m_Pn_page.2.1 20 = .ok (.getfield 67, 3) := by decide +kernel
theorem d_Pn_page_23 : decode m_Pn_page.2.1 23 = .ok (.getfield 233, 3) := by decide +kernel
theorem d_Pn_page_26 : decode m_Pn_page.2.1 26 = .ok (.iload_n 1, 1) := by decide +kernel
theorem d_Pn_page_27 : decode m_Pn_page.2.1 27 = .ok (.aaload, 1) := by decide +kernel
theorem d_Pn_page_28 : decode m_Pn_page.2.1 28 = .ok (.astore 4, 2) := by decide +kernel
theorem d_Pn_page_30 : decode m_Pn_page.2.1 30 = .ok (.aload 4, 2) := by decide +kernel
theorem d_Pn_page_32 : decode m_Pn_page.2.1 32 = .ok (.ifnonnull 6, 3) := by decide +kernel
theorem d_Pn_page_35 : decode m_Pn_page.2.1 35 = .ok (.bipush (-11), 2) := by decide +kernel
theorem d_Pn_page_37 : decode m_Pn_page.2.1 37 = .ok (.ireturn, 1) := by decide +kernel
theorem d_Pn_page_38 : decode m_Pn_page.2.1 38 = .ok (.aload 4, 2) := by decide +kernel
theorem d_Pn_page_40 : decode m_Pn_page.2.1 40 = .ok (.iload_n 2, 1) := by decide +kernel
theorem d_Pn_page_41 : decode m_Pn_page.2.1 41 = .ok (.invokevirtual 241, 3) := by decide +kernel
theorem d_Pn_page_44 : decode m_Pn_page.2.1 44 = .ok (.ifCond .ne 6, 3) := by decide +kernel
theorem d_Pn_page_47 : decode m_Pn_page.2.1 47 = .ok (.bipush (-12), 2) := by decide +kernel
theorem d_Pn_page_49 : decode m_Pn_page.2.1 49 = .ok (.ireturn, 1) := by decide +kernel
theorem d_Pn_page_50 : decode m_Pn_page.2.1 50 = .ok (.iload_n 3, 1) := by decide +kernel
theorem d_Pn_page_51 : decode m_Pn_page.2.1 51 = .ok (.ifCond .ge 6, 3) := by decide +kernel
theorem d_Pn_page_54 : decode m_Pn_page.2.1 54 = .ok (.bipush (-17), 2) := by decide +kernel
theorem d_Pn_page_56 : decode m_Pn_page.2.1 56 = .ok (.ireturn, 1) := by decide +kernel
theorem d_Pn_page_57 : decode m_Pn_page.2.1 57 = .ok (.aload 4, 2) := by decide +kernel
theorem d_Pn_page_59 : decode m_Pn_page.2.1 59 = .ok (.getfield 244, 3) := by decide +kernel
theorem d_Pn_page_62 : decode m_Pn_page.2.1 62 = .ok (.iload_n 2, 1) := by decide +kernel
theorem d_Pn_page_63 : decode m_Pn_page.2.1 63 = .ok (.new 248, 3) := by decide +kernel
theorem d_Pn_page_66 : decode m_Pn_page.2.1 66 = .ok (.dup, 1) := by decide +kernel
theorem d_Pn_page_67 : decode m_Pn_page.2.1 67 = .ok (.iload_n 3, 1) := by decide +kernel
theorem d_Pn_page_68 : decode m_Pn_page.2.1 68 = .ok (.invokespecial 250, 3) := by decide +kernel
theorem d_Pn_page_71 : decode m_Pn_page.2.1 71 = .ok (.aastore, 1) := by decide +kernel
theorem d_Pn_page_72 : decode m_Pn_page.2.1 72 = .ok (.iload_n 3, 1) := by decide +kernel
theorem d_Pn_page_73 : decode m_Pn_page.2.1 73 = .ok (.ireturn, 1) := by decide +kernel
theorem d_Pn_bind_0 : decode m_Pn_bind.2.1 0 = .ok (.iload_n 1, 1) := by decide +kernel
theorem d_Pn_bind_1 : decode m_Pn_bind.2.1 1 = .ok (.invokestatic 230, 3) := by decide +kernel
theorem d_Pn_bind_4 : decode m_Pn_bind.2.1 4 = .ok (.ifCond .eq 10, 3) := by decide +kernel
theorem d_Pn_bind_7 : decode m_Pn_bind.2.1 7 = .ok (.iload_n 3, 1) := by decide +kernel
theorem d_Pn_bind_8 : decode m_Pn_bind.2.1 8 = .ok (.invokestatic 230, 3) := by decide +kernel
theorem d_Pn_bind_11 : decode m_Pn_bind.2.1 11 = .ok (.ifCond .ne 6, 3) := by decide +kernel
theorem d_Pn_bind_14 : decode m_Pn_bind.2.1 14 = .ok (.bipush (-2), 2) := by decide +kernel
theorem d_Pn_bind_16 : decode m_Pn_bind.2.1 16 = .ok (.ireturn, 1) := by decide +kernel
theorem d_Pn_bind_17 : decode m_Pn_bind.2.1 17 = .ok (.aload_n 0, 1) := by decide +kernel
theorem d_Pn_bind_18 : decode m_Pn_bind.2.1 18 = .ok (.getfield 67, 3) := by decide +kernel
theorem d_Pn_bind_21 : decode m_Pn_bind.2.1 21 = .ok (.iload_n 1, 1) := by decide +kernel
theorem d_Pn_bind_22 : decode m_Pn_bind.2.1 22 = .ok (.iload_n 2, 1) := by decide +kernel
theorem d_Pn_bind_23 : decode m_Pn_bind.2.1 23 = .ok (.iload_n 3, 1) := by decide +kernel
theorem d_Pn_bind_24 : decode m_Pn_bind.2.1 24 = .ok (.iload 4, 2) := by decide +kernel
theorem d_Pn_bind_26 : decode m_Pn_bind.2.1 26 = .ok (.invokevirtual 251, 3) := by decide +kernel
theorem d_Pn_bind_29 : decode m_Pn_bind.2.1 29 = .ok (.istore 5, 2) := by decide +kernel
theorem d_Pn_bind_31 : decode m_Pn_bind.2.1 31 = .ok (.iload 5, 2) := by decide +kernel
theorem d_Pn_bind_33 : decode m_Pn_bind.2.1 33 = .ok (.ifCond .eq 6, 3) := by decide +kernel
theorem d_Pn_bind_36 : decode m_Pn_bind.2.1 36 = .ok (.iload 5, 2) := by decide +kernel
theorem d_Pn_bind_38 : decode m_Pn_bind.2.1 38 = .ok (.ireturn, 1) := by decide +kernel
theorem d_Pn_bind_39 : decode m_Pn_bind.2.1 39 = .ok (.aload_n 0, 1) := by decide +kernel
theorem d_Pn_bind_40 : decode m_Pn_bind.2.1 40 = .ok (.getfield 67, 3) := by decide +kernel
theorem d_Pn_bind_43 : decode m_Pn_bind.2.1 43 = .ok (.getfield 233, 3) := by decide +kernel
theorem d_Pn_bind_46 : decode m_Pn_bind.2.1 46 = .ok (.iload_n 3, 1) := by decide +kernel
theorem d_Pn_bind_47 : decode m_Pn_bind.2.1 47 = .ok (.aaload, 1) := by decide +kernel
theorem d_Pn_bind_48 : decode m_Pn_bind.2.1 48 = .ok (.getfield 244, 3) := by decide +kernel
theorem d_Pn_bind_51 : decode m_Pn_bind.2.1 51 = .ok (.iload 4, 2) := by decide +kernel
theorem d_Pn_bind_53 : decode m_Pn_bind.2.1 53 = .ok (.aload_n 0, 1) := by decide +kernel
theorem d_Pn_bind_54 : decode m_Pn_bind.2.1 54 = .ok (.getfield 67, 3) := by decide +kernel
theorem d_Pn_bind_57 : decode m_Pn_bind.2.1 57 = .ok (.getfield 233, 3) := by decide +kernel
theorem d_Pn_bind_60 : decode m_Pn_bind.2.1 60 = .ok (.iload_n 1, 1) := by decide +kernel
theorem d_Pn_bind_61 : decode m_Pn_bind.2.1 61 = .ok (.aaload, 1) := by decide +kernel
theorem d_Pn_bind_62 : decode m_Pn_bind.2.1 62 = .ok (.getfield 244, 3) := by decide +kernel
theorem d_Pn_bind_65 : decode m_Pn_bind.2.1 65 = .ok (.iload_n 2, 1) := by decide +kernel
theorem d_Pn_bind_66 : decode m_Pn_bind.2.1 66 = .ok (.aaload, 1) := by decide +kernel
theorem d_Pn_bind_67 : decode m_Pn_bind.2.1 67 = .ok (.aastore, 1) := by decide +kernel
theorem d_Pn_bind_68 : decode m_Pn_bind.2.1 68 = .ok (.iconst 1, 1) := by decide +kernel
theorem d_Pn_bind_69 : decode m_Pn_bind.2.1 69 = .ok (.ireturn, 1) := by decide +kernel
theorem d_Pn_same_0 : decode m_Pn_same.2.1 0 = .ok (.iload_n 1, 1) := by decide +kernel
theorem d_Pn_same_1 : decode m_Pn_same.2.1 1 = .ok (.invokestatic 230, 3) := by decide +kernel
theorem d_Pn_same_4 : decode m_Pn_same.2.1 4 = .ok (.ifCond .eq 10, 3) := by decide +kernel
theorem d_Pn_same_7 : decode m_Pn_same.2.1 7 = .ok (.iload_n 3, 1) := by decide +kernel
theorem d_Pn_same_8 : decode m_Pn_same.2.1 8 = .ok (.invokestatic 230, 3) := by decide +kernel
theorem d_Pn_same_11 : decode m_Pn_same.2.1 11 = .ok (.ifCond .ne 6, 3) := by decide +kernel
theorem d_Pn_same_14 : decode m_Pn_same.2.1 14 = .ok (.bipush (-2), 2) := by decide +kernel
theorem d_Pn_same_16 : decode m_Pn_same.2.1 16 = .ok (.ireturn, 1) := by decide +kernel
theorem d_Pn_same_17 : decode m_Pn_same.2.1 17 = .ok (.aload_n 0, 1) := by decide +kernel
theorem d_Pn_same_18 : decode m_Pn_same.2.1 18 = .ok (.getfield 67, 3) := by decide +kernel
theorem d_Pn_same_21 : decode m_Pn_same.2.1 21 = .ok (.iload_n 1, 1) := by decide +kernel
theorem d_Pn_same_22 : decode m_Pn_same.2.1 22 = .ok (.iload_n 2, 1) := by decide +kernel
theorem d_Pn_same_23 : decode m_Pn_same.2.1 23 = .ok (.iload_n 3, 1) := by decide +kernel
theorem d_Pn_same_24 : decode m_Pn_same.2.1 24 = .ok (.iload 4, 2) := by decide +kernel
theorem d_Pn_same_26 : decode m_Pn_same.2.1 26 = .ok (.invokevirtual 251, 3) := by decide +kernel
theorem d_Pn_same_29 : decode m_Pn_same.2.1 29 = .ok (.istore 5, 2) := by decide +kernel
theorem d_Pn_same_31 : decode m_Pn_same.2.1 31 = .ok (.iload 5, 2) := by decide +kernel
theorem d_Pn_same_33 : decode m_Pn_same.2.1 33 = .ok (.ifCond .eq 6, 3) := by decide +kernel
theorem d_Pn_same_36 : decode m_Pn_same.2.1 36 = .ok (.iload 5, 2) := by decide +kernel
theorem d_Pn_same_38 : decode m_Pn_same.2.1 38 = .ok (.ireturn, 1) := by decide +kernel
theorem d_Pn_same_39 : decode m_Pn_same.2.1 39 = .ok (.aload_n 0, 1) := by decide +kernel
theorem d_Pn_same_40 : decode m_Pn_same.2.1 40 = .ok (.getfield 67, 3) := by decide +kernel
theorem d_Pn_same_43 : decode m_Pn_same.2.1 43 = .ok (.getfield 233, 3) := by decide +kernel
theorem d_Pn_same_46 : decode m_Pn_same.2.1 46 = .ok (.iload_n 1, 1) := by decide +kernel
theorem d_Pn_same_47 : decode m_Pn_same.2.1 47 = .ok (.aaload, 1) := by decide +kernel
theorem d_Pn_same_48 : decode m_Pn_same.2.1 48 = .ok (.getfield 244, 3) := by decide +kernel
theorem d_Pn_same_51 : decode m_Pn_same.2.1 51 = .ok (.iload_n 2, 1) := by decide +kernel
theorem d_Pn_same_52 : decode m_Pn_same.2.1 52 = .ok (.aaload, 1) := by decide +kernel
theorem d_Pn_same_53 : decode m_Pn_same.2.1 53 = .ok (.astore 6, 2) := by decide +kernel
theorem d_Pn_same_55 : decode m_Pn_same.2.1 55 = .ok (.aload_n 0, 1) := by decide +kernel
theorem d_Pn_same_56 : decode m_Pn_same.2.1 56 = .ok (.getfield 67, 3) := by decide +kernel
theorem d_Pn_same_59 : decode m_Pn_same.2.1 59 = .ok (.getfield 233, 3) := by decide +kernel
theorem d_Pn_same_62 : decode m_Pn_same.2.1 62 = .ok (.iload_n 3, 1) := by decide +kernel
theorem d_Pn_same_63 : decode m_Pn_same.2.1 63 = .ok (.aaload, 1) := by decide +kernel
theorem d_Pn_same_64 : decode m_Pn_same.2.1 64 = .ok (.getfield 244, 3) := by decide +kernel
theorem d_Pn_same_67 : decode m_Pn_same.2.1 67 = .ok (.iload 4, 2) := by decide +kernel
theorem d_Pn_same_69 : decode m_Pn_same.2.1 69 = .ok (.aaload, 1) := by decide +kernel
theorem d_Pn_same_70 : decode m_Pn_same.2.1 70 = .ok (.astore 7, 2) := by decide +kernel
theorem d_Pn_same_72 : decode m_Pn_same.2.1 72 = .ok (.aload 6, 2) := by decide +kernel
theorem d_Pn_same_74 : decode m_Pn_same.2.1 74 = .ok (.ifnull 8, 3) := by decide +kernel
theorem d_Pn_same_77 : decode m_Pn_same.2.1 77 = .ok (.aload 7, 2) := by decide +kernel
theorem d_Pn_same_79 : decode m_Pn_same.2.1 79 = .ok (.ifnonnull 6, 3) := by decide +kernel
theorem d_Pn_same_82 : decode m_Pn_same.2.1 82 = .ok (.bipush (-13), 2) := by decide +kernel
theorem d_Pn_same_84 : decode m_Pn_same.2.1 84 = .ok (.ireturn, 1) := by decide +kernel
theorem d_Pn_same_85 : decode m_Pn_same.2.1 85 = .ok (.aload 6, 2) := by decide +kernel
theorem d_Pn_same_87 : decode m_Pn_same.2.1 87 = .ok (.aload 7, 2) := by decide +kernel
theorem d_Pn_same_89 : decode m_Pn_same.2.1 89 = .ok (.if_acmp .ne 7, 3) := by decide +kernel
theorem d_Pn_same_92 : decode m_Pn_same.2.1 92 = .ok (.iconst 1, 1) := by decide +kernel
theorem d_Pn_same_93 : decode m_Pn_same.2.1 93 = .ok (.goto 4, 3) := by decide +kernel
theorem d_Pn_same_96 : decode m_Pn_same.2.1 96 = .ok (.iconst 0, 1) := by decide +kernel
theorem d_Pn_same_97 : decode m_Pn_same.2.1 97 = .ok (.ireturn, 1) := by decide +kernel
theorem d_Pn_enter_0 : decode m_Pn_enter.2.1 0 = .ok (.iload_n 1, 1) := by decide +kernel
theorem d_Pn_enter_1 : decode m_Pn_enter.2.1 1 = .ok (.invokestatic 230, 3) := by decide +kernel
theorem d_Pn_enter_4 : decode m_Pn_enter.2.1 4 = .ok (.ifCond .eq 18, 3) := by decide +kernel
theorem d_Pn_enter_7 : decode m_Pn_enter.2.1 7 = .ok (.iload 4, 2) := by decide +kernel
theorem d_Pn_enter_9 : decode m_Pn_enter.2.1 9 = .ok (.iconst 1, 1) := by decide +kernel
theorem d_Pn_enter_10 : decode m_Pn_enter.2.1 10 = .ok (.if_icmp .ne 15, 3) := by decide +kernel
theorem d_Pn_enter_13 : decode m_Pn_enter.2.1 13 = .ok (.aload_n 0, 1) := by decide +kernel
theorem d_Pn_enter_14 : decode m_Pn_enter.2.1 14 = .ok (.iload 5, 2) := by decide +kernel
theorem d_Pn_enter_16 : decode m_Pn_enter.2.1 16 = .ok (.invokevirtual 127, 3) := by decide +kernel
theorem d_Pn_enter_19 : decode m_Pn_enter.2.1 19 = .ok (.ifCond .ne 6, 3) := by decide +kernel
theorem d_Pn_enter_22 : decode m_Pn_enter.2.1 22 = .ok (.bipush (-2), 2) := by decide +kernel
theorem d_Pn_enter_24 : decode m_Pn_enter.2.1 24 = .ok (.ireturn, 1) := by decide +kernel
theorem d_Pn_enter_25 : decode m_Pn_enter.2.1 25 = .ok (.iload 4, 2) := by decide +kernel
theorem d_Pn_enter_27 : decode m_Pn_enter.2.1 27 = .ok (.iconst 0, 1) := by decide +kernel
theorem d_Pn_enter_28 : decode m_Pn_enter.2.1 28 = .ok (.iconst 2, 1) := by decide +kernel
theorem d_Pn_enter_29 : decode m_Pn_enter.2.1 29 = .ok (.invokestatic 71, 3) := by decide +kernel
theorem d_Pn_enter_32 : decode m_Pn_enter.2.1 32 = .ok (.ifCond .eq 22, 3) := by decide +kernel
theorem d_Pn_enter_35 : decode m_Pn_enter.2.1 35 = .ok (.iload 4, 2) := by decide +kernel
theorem d_Pn_enter_37 : decode m_Pn_enter.2.1 37 = .ok (.ifCond .ne 20, 3) := by decide +kernel
theorem d_Pn_enter_40 : decode m_Pn_enter.2.1 40 = .ok (.iload 5, 2) := by decide +kernel
theorem d_Pn_enter_42 : decode m_Pn_enter.2.1 42 = .ok (.sipush (-9999), 3) := by decide +kernel
theorem d_Pn_enter_45 : decode m_Pn_enter.2.1 45 = .ok (.sipush 9999, 3) := by decide +kernel
theorem d_Pn_enter_48 : decode m_Pn_enter.2.1 48 = .ok (.invokestatic 71, 3) := by decide +kernel
theorem d_Pn_enter_51 : decode m_Pn_enter.2.1 51 = .ok (.ifCond .ne 6, 3) := by decide +kernel
theorem d_Pn_enter_54 : decode m_Pn_enter.2.1 54 = .ok (.bipush (-3), 2) := by decide +kernel
theorem d_Pn_enter_56 : decode m_Pn_enter.2.1 56 = .ok (.ireturn, 1) := by decide +kernel
theorem d_Pn_enter_57 : decode m_Pn_enter.2.1 57 = .ok (.aload_n 0, 1) := by decide +kernel
theorem d_Pn_enter_58 : decode m_Pn_enter.2.1 58 = .ok (.getfield 67, 3) := by decide +kernel
theorem d_Pn_enter_61 : decode m_Pn_enter.2.1 61 = .ok (.iload_n 1, 1) := by decide +kernel
theorem d_Pn_enter_62 : decode m_Pn_enter.2.1 62 = .ok (.iload_n 2, 1) := by decide +kernel
theorem d_Pn_enter_63 : decode m_Pn_enter.2.1 63 = .ok (.iload_n 3, 1) := by decide +kernel
theorem d_Pn_enter_64 : decode m_Pn_enter.2.1 64 = .ok (.invokevirtual 254, 3) := by decide +kernel
theorem d_Pn_enter_67 : decode m_Pn_enter.2.1 67 = .ok (.istore 6, 2) := by decide +kernel
theorem d_Pn_enter_69 : decode m_Pn_enter.2.1 69 = .ok (.iload 6, 2) := by decide +kernel
theorem d_Pn_enter_71 : decode m_Pn_enter.2.1 71 = .ok (.ifCond .eq 6, 3) := by decide +kernel
theorem d_Pn_enter_74 : decode m_Pn_enter.2.1 74 = .ok (.iload 6, 2) := by decide +kernel
theorem d_Pn_enter_76 : decode m_Pn_enter.2.1 76 = .ok (.ireturn, 1) := by decide +kernel
theorem d_Pn_enter_77 : decode m_Pn_enter.2.1 77 = .ok (.aload_n 0, 1) := by decide +kernel
theorem d_Pn_enter_78 : decode m_Pn_enter.2.1 78 = .ok (.getfield 67, 3) := by decide +kernel
theorem d_Pn_enter_81 : decode m_Pn_enter.2.1 81 = .ok (.getfield 233, 3) := by decide +kernel
theorem d_Pn_enter_84 : decode m_Pn_enter.2.1 84 = .ok (.iload_n 1, 1) := by decide +kernel
theorem d_Pn_enter_85 : decode m_Pn_enter.2.1 85 = .ok (.aaload, 1) := by decide +kernel
theorem d_Pn_enter_86 : decode m_Pn_enter.2.1 86 = .ok (.getfield 244, 3) := by decide +kernel
theorem d_Pn_enter_89 : decode m_Pn_enter.2.1 89 = .ok (.iload_n 2, 1) := by decide +kernel
theorem d_Pn_enter_90 : decode m_Pn_enter.2.1 90 = .ok (.aaload, 1) := by decide +kernel
theorem d_Pn_enter_91 : decode m_Pn_enter.2.1 91 = .ok (.iload_n 3, 1) := by decide +kernel
theorem d_Pn_enter_92 : decode m_Pn_enter.2.1 92 = .ok (.iload 4, 2) := by decide +kernel
theorem d_Pn_enter_94 : decode m_Pn_enter.2.1 94 = .ok (.iload 5, 2) := by decide +kernel
theorem d_Pn_enter_96 : decode m_Pn_enter.2.1 96 = .ok (.invokevirtual 258, 3) := by decide +kernel
theorem d_Pn_enter_99 : decode m_Pn_enter.2.1 99 = .ok (.iconst 1, 1) := by decide +kernel
theorem d_Pn_enter_100 : decode m_Pn_enter.2.1 100 = .ok (.ireturn, 1) := by decide +kernel
theorem d_Pn_read_0 : decode m_Pn_read.2.1 0 = .ok (.iload_n 1, 1) := by decide +kernel
theorem d_Pn_read_1 : decode m_Pn_read.2.1 1 = .ok (.invokestatic 230, 3) := by decide +kernel
theorem d_Pn_read_4 : decode m_Pn_read.2.1 4 = .ok (.ifCond .ne 6, 3) := by decide +kernel
theorem d_Pn_read_7 : decode m_Pn_read.2.1 7 = .ok (.bipush (-2), 2) := by decide +kernel
theorem d_Pn_read_9 : decode m_Pn_read.2.1 9 = .ok (.ireturn, 1) := by decide +kernel
theorem d_Pn_read_10 : decode m_Pn_read.2.1 10 = .ok (.iload 4, 2) := by decide +kernel
theorem d_Pn_read_12 : decode m_Pn_read.2.1 12 = .ok (.iconst 0, 1) := by decide +kernel
theorem d_Pn_read_13 : decode m_Pn_read.2.1 13 = .ok (.iconst 1, 1) := by decide +kernel
theorem d_Pn_read_14 : decode m_Pn_read.2.1 14 = .ok (.invokestatic 71, 3) := by decide +kernel
theorem d_Pn_read_17 : decode m_Pn_read.2.1 17 = .ok (.ifCond .ne 6, 3) := by decide +kernel
theorem d_Pn_read_20 : decode m_Pn_read.2.1 20 = .ok (.bipush (-3), 2) := by decide +kernel
theorem d_Pn_read_22 : decode m_Pn_read.2.1 22 = .ok (.ireturn, 1) := by decide +kernel
theorem d_Pn_read_23 : decode m_Pn_read.2.1 23 = .ok (.aload_n 0, 1) := by decide +kernel
theorem d_Pn_read_24 : decode m_Pn_read.2.1 24 = .ok (.getfield 67, 3) := by decide +kernel
theorem d_Pn_read_27 : decode m_Pn_read.2.1 27 = .ok (.iload_n 1, 1) := by decide +kernel
theorem d_Pn_read_28 : decode m_Pn_read.2.1 28 = .ok (.iload_n 2, 1) := by decide +kernel
theorem d_Pn_read_29 : decode m_Pn_read.2.1 29 = .ok (.iload_n 3, 1) := by decide +kernel
theorem d_Pn_read_30 : decode m_Pn_read.2.1 30 = .ok (.invokevirtual 254, 3) := by decide +kernel
theorem d_Pn_read_33 : decode m_Pn_read.2.1 33 = .ok (.istore 5, 2) := by decide +kernel
theorem d_Pn_read_35 : decode m_Pn_read.2.1 35 = .ok (.iload 5, 2) := by decide +kernel
theorem d_Pn_read_37 : decode m_Pn_read.2.1 37 = .ok (.ifCond .eq 6, 3) := by decide +kernel
theorem d_Pn_read_40 : decode m_Pn_read.2.1 40 = .ok (.iload 5, 2) := by decide +kernel
theorem d_Pn_read_42 : decode m_Pn_read.2.1 42 = .ok (.ireturn, 1) := by decide +kernel
theorem d_Pn_read_43 : decode m_Pn_read.2.1 43 = .ok (.aload_n 0, 1) := by decide +kernel
theorem d_Pn_read_44 : decode m_Pn_read.2.1 44 = .ok (.getfield 67, 3) := by decide +kernel
theorem d_Pn_read_47 : decode m_Pn_read.2.1 47 = .ok (.getfield 233, 3) := by decide +kernel
theorem d_Pn_read_50 : decode m_Pn_read.2.1 50 = .ok (.iload_n 1, 1) := by decide +kernel
theorem d_Pn_read_51 : decode m_Pn_read.2.1 51 = .ok (.aaload, 1) := by decide +kernel
theorem d_Pn_read_52 : decode m_Pn_read.2.1 52 = .ok (.getfield 244, 3) := by decide +kernel
theorem d_Pn_read_55 : decode m_Pn_read.2.1 55 = .ok (.iload_n 2, 1) := by decide +kernel
theorem d_Pn_read_56 : decode m_Pn_read.2.1 56 = .ok (.aaload, 1) := by decide +kernel
theorem d_Pn_read_57 : decode m_Pn_read.2.1 57 = .ok (.astore 6, 2) := by decide +kernel
theorem d_Pn_read_59 : decode m_Pn_read.2.1 59 = .ok (.aload 6, 2) := by decide +kernel
theorem d_Pn_read_61 : decode m_Pn_read.2.1 61 = .ok (.getfield 262, 3) := by decide +kernel
theorem d_Pn_read_64 : decode m_Pn_read.2.1 64 = .ok (.iload_n 3, 1) := by decide +kernel
theorem d_Pn_read_65 : decode m_Pn_read.2.1 65 = .ok (.iaload, 1) := by decide +kernel
theorem d_Pn_read_66 : decode m_Pn_read.2.1 66 = .ok (.iconst 2, 1) := by decide +kernel
theorem d_Pn_read_67 : decode m_Pn_read.2.1 67 = .ok (.if_icmp .ne 6, 3) := by decide +kernel
theorem d_Pn_read_70 : decode m_Pn_read.2.1 70 = .ok (.bipush (-15), 2) := by decide +kernel
theorem d_Pn_read_72 : decode m_Pn_read.2.1 72 = .ok (.ireturn, 1) := by decide +kernel
theorem d_Pn_read_73 : decode m_Pn_read.2.1 73 = .ok (.aload 6, 2) := by decide +kernel
theorem d_Pn_read_75 : decode m_Pn_read.2.1 75 = .ok (.getfield 262, 3) := by decide +kernel
theorem d_Pn_read_78 : decode m_Pn_read.2.1 78 = .ok (.iload_n 3, 1) := by decide +kernel
theorem d_Pn_read_79 : decode m_Pn_read.2.1 79 = .ok (.iaload, 1) := by decide +kernel
theorem d_Pn_read_80 : decode m_Pn_read.2.1 80 = .ok (.iload 4, 2) := by decide +kernel
theorem d_Pn_read_82 : decode m_Pn_read.2.1 82 = .ok (.if_icmp .eq 6, 3) := by decide +kernel
theorem d_Pn_read_85 : decode m_Pn_read.2.1 85 = .ok (.bipush (-16), 2) := by decide +kernel
theorem d_Pn_read_87 : decode m_Pn_read.2.1 87 = .ok (.ireturn, 1) := by decide +kernel
theorem d_Pn_read_88 : decode m_Pn_read.2.1 88 = .ok (.iload 4, 2) := by decide +kernel
theorem d_Pn_read_90 : decode m_Pn_read.2.1 90 = .ok (.ifCond .ne 17, 3) := by decide +kernel
theorem d_Pn_read_93 : decode m_Pn_read.2.1 93 = .ok (.aload 6, 2) := by decide +kernel
theorem d_Pn_read_95 : decode m_Pn_read.2.1 95 = .ok (.getfield 265, 3) := by decide +kernel
theorem d_Pn_read_98 : decode m_Pn_read.2.1 98 = .ok (.iload_n 3, 1) := by decide +kernel
theorem d_Pn_read_99 : decode m_Pn_read.2.1 99 = .ok (.iaload, 1) := by decide +kernel
theorem d_Pn_read_100 : decode m_Pn_read.2.1 100 = .ok (.ldc_w 268, 3) := by decide +kernel
theorem d_Pn_read_103 : decode m_Pn_read.2.1 103 = .ok (.iadd, 1) := by decide +kernel
theorem d_Pn_read_104 : decode m_Pn_read.2.1 104 = .ok (.goto 10, 3) := by decide +kernel
theorem d_Pn_read_107 : decode m_Pn_read.2.1 107 = .ok (.aload 6, 2) := by decide +kernel
theorem d_Pn_read_109 : decode m_Pn_read.2.1 109 = .ok (.getfield 265, 3) := by decide +kernel
theorem d_Pn_read_112 : decode m_Pn_read.2.1 112 = .ok (.iload_n 3, 1) := by decide +kernel
theorem d_Pn_read_113 : decode m_Pn_read.2.1 113 = .ok (.iaload, 1) := by decide +kernel
theorem d_Pn_read_114 : decode m_Pn_read.2.1 114 = .ok (.ireturn, 1) := by decide +kernel
theorem d_Pn_pages_0 : decode m_Pn_pages.2.1 0 = .ok (.iload_n 1, 1) := by decide +kernel
theorem d_Pn_pages_1 : decode m_Pn_pages.2.1 1 = .ok (.invokestatic 230, 3) := by decide +kernel
theorem d_Pn_pages_4 : decode m_Pn_pages.2.1 4 = .ok (.ifCond .ne 6, 3) := by decide +kernel
theorem d_Pn_pages_7 : decode m_Pn_pages.2.1 7 = .ok (.bipush (-2), 2) := by decide +kernel
theorem d_Pn_pages_9 : decode m_Pn_pages.2.1 9 = .ok (.ireturn, 1) := by decide +kernel
theorem d_Pn_pages_10 : decode m_Pn_pages.2.1 10 = .ok (.iload_n 2, 1) := by decide +kernel
theorem d_Pn_pages_11 : decode m_Pn_pages.2.1 11 = .ok (.iconst 0, 1) := by decide +kernel
theorem d_Pn_pages_12 : decode m_Pn_pages.2.1 12 = .ok (.iconst 3, 1) := by decide +kernel
theorem d_Pn_pages_13 : decode m_Pn_pages.2.1 13 = .ok (.invokestatic 71, 3) := by decide +kernel
theorem d_Pn_pages_16 : decode m_Pn_pages.2.1 16 = .ok (.ifCond .ne 6, 3) := by decide +kernel
theorem d_Pn_pages_19 : decode m_Pn_pages.2.1 19 = .ok (.bipush (-3), 2) := by decide +kernel
theorem d_Pn_pages_21 : decode m_Pn_pages.2.1 21 = .ok (.ireturn, 1) := by decide +kernel
theorem d_Pn_pages_22 : decode m_Pn_pages.2.1 22 = .ok (.aload_n 0, 1) := by decide +kernel
theorem d_Pn_pages_23 : decode m_Pn_pages.2.1 23 = .ok (.getfield 67, 3) := by decide +kernel
theorem d_Pn_pages_26 : decode m_Pn_pages.2.1 26 = .ok (.getfield 233, 3) := by decide +kernel
theorem d_Pn_pages_29 : decode m_Pn_pages.2.1 29 = .ok (.iload_n 1, 1) := by decide +kernel
theorem d_Pn_pages_30 : decode m_Pn_pages.2.1 30 = .ok (.aaload, 1) := by decide +kernel
theorem d_Pn_pages_31 : decode m_Pn_pages.2.1 31 = .ok (.astore_n 3, 1) := by decide +kernel
theorem d_Pn_pages_32 : decode m_Pn_pages.2.1 32 = .ok (.aload_n 3, 1) := by decide +kernel
theorem d_Pn_pages_33 : decode m_Pn_pages.2.1 33 = .ok (.ifnonnull 6, 3) := by decide +kernel
theorem d_Pn_pages_36 : decode m_Pn_pages.2.1 36 = .ok (.bipush (-11), 2) := by decide +kernel
theorem d_Pn_pages_38 : decode m_Pn_pages.2.1 38 = .ok (.ireturn, 1) := by decide +kernel
theorem d_Pn_pages_39 : decode m_Pn_pages.2.1 39 = .ok (.iload_n 2, 1) := by decide +kernel
theorem d_Pn_pages_40 : decode m_Pn_pages.2.1 40 = .ok (.tableswitch 44 0 2 #[28, 34, 39], 28) := by decide +kernel
theorem d_Pn_pages_68 : decode m_Pn_pages.2.1 68 = .ok (.aload_n 3, 1) := by decide +kernel
theorem d_Pn_pages_69 : decode m_Pn_pages.2.1 69 = .ok (.getfield 244, 3) := by decide +kernel
theorem d_Pn_pages_72 : decode m_Pn_pages.2.1 72 = .ok (.arraylength, 1) := by decide +kernel
theorem d_Pn_pages_73 : decode m_Pn_pages.2.1 73 = .ok (.ireturn, 1) := by decide +kernel
theorem d_Pn_pages_74 : decode m_Pn_pages.2.1 74 = .ok (.aload_n 3, 1) := by decide +kernel
theorem d_Pn_pages_75 : decode m_Pn_pages.2.1 75 = .ok (.invokevirtual 269, 3) := by decide +kernel
theorem d_Pn_pages_78 : decode m_Pn_pages.2.1 78 = .ok (.ireturn, 1) := by decide +kernel
theorem d_Pn_pages_79 : decode m_Pn_pages.2.1 79 = .ok (.aload_n 3, 1) := by decide +kernel
theorem d_Pn_pages_80 : decode m_Pn_pages.2.1 80 = .ok (.invokevirtual 272, 3) := by decide +kernel
theorem d_Pn_pages_83 : decode m_Pn_pages.2.1 83 = .ok (.ireturn, 1) := by decide +kernel
theorem d_Pn_pages_84 : decode m_Pn_pages.2.1 84 = .ok (.aload_n 3, 1) := by decide +kernel
theorem d_Pn_pages_85 : decode m_Pn_pages.2.1 85 = .ok (.invokevirtual 275, 3) := by decide +kernel
theorem d_Pn_pages_88 : decode m_Pn_pages.2.1 88 = .ok (.ireturn, 1) := by decide +kernel
theorem d_Pn_drop_0 : decode m_Pn_drop.2.1 0 = .ok (.iload_n 1, 1) := by decide +kernel
theorem d_Pn_drop_1 : decode m_Pn_drop.2.1 1 = .ok (.invokestatic 230, 3) := by decide +kernel
theorem d_Pn_drop_4 : decode m_Pn_drop.2.1 4 = .ok (.ifCond .ne 6, 3) := by decide +kernel
theorem d_Pn_drop_7 : decode m_Pn_drop.2.1 7 = .ok (.bipush (-2), 2) := by decide +kernel
theorem d_Pn_drop_9 : decode m_Pn_drop.2.1 9 = .ok (.ireturn, 1) := by decide +kernel
theorem d_Pn_drop_10 : decode m_Pn_drop.2.1 10 = .ok (.aload_n 0, 1) := by decide +kernel
theorem d_Pn_drop_11 : decode m_Pn_drop.2.1 11 = .ok (.getfield 67, 3) := by decide +kernel
theorem d_Pn_drop_14 : decode m_Pn_drop.2.1 14 = .ok (.getfield 233, 3) := by decide +kernel
theorem d_Pn_drop_17 : decode m_Pn_drop.2.1 17 = .ok (.iload_n 1, 1) := by decide +kernel
theorem d_Pn_drop_18 : decode m_Pn_drop.2.1 18 = .ok (.aaload, 1) := by decide +kernel
theorem d_Pn_drop_19 : decode m_Pn_drop.2.1 19 = .ok (.astore_n 2, 1) := by decide +kernel
theorem d_Pn_drop_20 : decode m_Pn_drop.2.1 20 = .ok (.aload_n 2, 1) := by decide +kernel
theorem d_Pn_drop_21 : decode m_Pn_drop.2.1 21 = .ok (.ifnonnull 6, 3) := by decide +kernel
theorem d_Pn_drop_24 : decode m_Pn_drop.2.1 24 = .ok (.bipush (-11), 2) := by decide +kernel
theorem d_Pn_drop_26 : decode m_Pn_drop.2.1 26 = .ok (.ireturn, 1) := by decide +kernel
theorem d_Pn_drop_27 : decode m_Pn_drop.2.1 27 = .ok (.aload_n 0, 1) := by decide +kernel
theorem d_Pn_drop_28 : decode m_Pn_drop.2.1 28 = .ok (.getfield 67, 3) := by decide +kernel
theorem d_Pn_drop_31 : decode m_Pn_drop.2.1 31 = .ok (.getfield 233, 3) := by decide +kernel
theorem d_Pn_drop_34 : decode m_Pn_drop.2.1 34 = .ok (.iload_n 1, 1) := by decide +kernel
theorem d_Pn_drop_35 : decode m_Pn_drop.2.1 35 = .ok (.aconst_null, 1) := by decide +kernel
theorem d_Pn_drop_36 : decode m_Pn_drop.2.1 36 = .ok (.aastore, 1) := by decide +kernel
theorem d_Pn_drop_37 : decode m_Pn_drop.2.1 37 = .ok (.aload_n 2, 1) := by decide +kernel
theorem d_Pn_drop_38 : decode m_Pn_drop.2.1 38 = .ok (.getfield 244, 3) := by decide +kernel
theorem d_Pn_drop_41 : decode m_Pn_drop.2.1 41 = .ok (.arraylength, 1) := by decide +kernel
theorem d_Pn_drop_42 : decode m_Pn_drop.2.1 42 = .ok (.ireturn, 1) := by decide +kernel
theorem d_Pn_count_0 : decode m_Pn_count.2.1 0 = .ok (.iload_n 1, 1) := by decide +kernel
theorem d_Pn_count_1 : decode m_Pn_count.2.1 1 = .ok (.tableswitch 148 0 10 #[59, 67, 75, 83, 91, 99, 108, 116, 124, 132, 140], 59) := by decide +kernel
theorem d_Pn_count_60 : decode m_Pn_count.2.1 60 = .ok (.aload_n 0, 1) := by decide +kernel
theorem d_Pn_count_61 : decode m_Pn_count.2.1 61 = .ok (.getfield 10, 3) := by decide +kernel
theorem d_Pn_count_64 : decode m_Pn_count.2.1 64 = .ok (.getfield 278, 3) := by decide +kernel
theorem d_Pn_count_67 : decode m_Pn_count.2.1 67 = .ok (.ireturn, 1) := by decide +kernel
theorem d_Pn_count_68 : decode m_Pn_count.2.1 68 = .ok (.aload_n 0, 1) := by decide +kernel
theorem d_Pn_count_69 : decode m_Pn_count.2.1 69 = .ok (.getfield 10, 3) := by decide +kernel
theorem d_Pn_count_72 : decode m_Pn_count.2.1 72 = .ok (.getfield 281, 3) := by decide +kernel
theorem d_Pn_count_75 : decode m_Pn_count.2.1 75 = .ok (.ireturn, 1) := by decide +kernel
theorem d_Pn_count_76 : decode m_Pn_count.2.1 76 = .ok (.aload_n 0, 1) := by decide +kernel
theorem d_Pn_count_77 : decode m_Pn_count.2.1 77 = .ok (.getfield 31, 3) := by decide +kernel
theorem d_Pn_count_80 : decode m_Pn_count.2.1 80 = .ok (.getfield 160, 3) := by decide +kernel
theorem d_Pn_count_83 : decode m_Pn_count.2.1 83 = .ok (.ireturn, 1) := by decide +kernel
theorem d_Pn_count_84 : decode m_Pn_count.2.1 84 = .ok (.aload_n 0, 1) := by decide +kernel
theorem d_Pn_count_85 : decode m_Pn_count.2.1 85 = .ok (.getfield 31, 3) := by decide +kernel
theorem d_Pn_count_88 : decode m_Pn_count.2.1 88 = .ok (.invokevirtual 284, 3) := by decide +kernel
theorem d_Pn_count_91 : decode m_Pn_count.2.1 91 = .ok (.ireturn, 1) := by decide +kernel
theorem d_Pn_count_92 : decode m_Pn_count.2.1 92 = .ok (.aload_n 0, 1) := by decide +kernel
theorem d_Pn_count_93 : decode m_Pn_count.2.1 93 = .ok (.getfield 31, 3) := by decide +kernel
theorem d_Pn_count_96 : decode m_Pn_count.2.1 96 = .ok (.getfield 145, 3) := by decide +kernel
theorem d_Pn_count_99 : decode m_Pn_count.2.1 99 = .ok (.ireturn, 1) := by decide +kernel
theorem d_Pn_count_100 : decode m_Pn_count.2.1 100 = .ok (.aload_n 0, 1) := by decide +kernel
theorem d_Pn_count_101 : decode m_Pn_count.2.1 101 = .ok (.getfield 31, 3) := by decide +kernel
theorem d_Pn_count_104 : decode m_Pn_count.2.1 104 = .ok (.iconst 5, 1) := by decide +kernel
theorem d_Pn_count_105 : decode m_Pn_count.2.1 105 = .ok (.invokevirtual 119, 3) := by decide +kernel
theorem d_Pn_count_108 : decode m_Pn_count.2.1 108 = .ok (.ireturn, 1) := by decide +kernel
theorem d_Pn_count_109 : decode m_Pn_count.2.1 109 = .ok (.aload_n 0, 1) := by decide +kernel
theorem d_Pn_count_110 : decode m_Pn_count.2.1 110 = .ok (.getfield 31, 3) := by decide +kernel
theorem d_Pn_count_113 : decode m_Pn_count.2.1 113 = .ok (.invokevirtual 287, 3) := by decide +kernel
theorem d_Pn_count_116 : decode m_Pn_count.2.1 116 = .ok (.ireturn, 1) := by decide +kernel
theorem d_Pn_count_117 : decode m_Pn_count.2.1 117 = .ok (.aload_n 0, 1) := by decide +kernel
theorem d_Pn_count_118 : decode m_Pn_count.2.1 118 = .ok (.getfield 60, 3) := by decide +kernel
theorem d_Pn_count_121 : decode m_Pn_count.2.1 121 = .ok (.getfield 102, 3) := by decide +kernel
theorem d_Pn_count_124 : decode m_Pn_count.2.1 124 = .ok (.ireturn, 1) := by decide +kernel
theorem d_Pn_count_125 : decode m_Pn_count.2.1 125 = .ok (.aload_n 0, 1) := by decide +kernel
theorem d_Pn_count_126 : decode m_Pn_count.2.1 126 = .ok (.getfield 67, 3) := by decide +kernel
theorem d_Pn_count_129 : decode m_Pn_count.2.1 129 = .ok (.invokevirtual 290, 3) := by decide +kernel
theorem d_Pn_count_132 : decode m_Pn_count.2.1 132 = .ok (.ireturn, 1) := by decide +kernel
theorem d_Pn_count_133 : decode m_Pn_count.2.1 133 = .ok (.aload_n 0, 1) := by decide +kernel
theorem d_Pn_count_134 : decode m_Pn_count.2.1 134 = .ok (.getfield 38, 3) := by decide +kernel
theorem d_Pn_count_137 : decode m_Pn_count.2.1 137 = .ok (.getfield 99, 3) := by decide +kernel
theorem d_Pn_count_140 : decode m_Pn_count.2.1 140 = .ok (.ireturn, 1) := by decide +kernel
theorem d_Pn_count_141 : decode m_Pn_count.2.1 141 = .ok (.aload_n 0, 1) := by decide +kernel
theorem d_Pn_count_142 : decode m_Pn_count.2.1 142 = .ok (.getfield 22, 3) := by decide +kernel
theorem d_Pn_count_145 : decode m_Pn_count.2.1 145 = .ok (.getfield 79, 3) := by decide +kernel
theorem d_Pn_count_148 : decode m_Pn_count.2.1 148 = .ok (.ireturn, 1) := by decide +kernel
theorem d_Pn_count_149 : decode m_Pn_count.2.1 149 = .ok (.bipush (-3), 2) := by decide +kernel
theorem d_Pn_count_151 : decode m_Pn_count.2.1 151 = .ok (.ireturn, 1) := by decide +kernel
