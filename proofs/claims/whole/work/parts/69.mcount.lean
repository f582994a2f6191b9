theorem c_Md_count {X : CX} {dl : List (Nat × Nat)} {mI : Nat → Nat → Int32} {dr : Nat → Nat → Nat} {Q : Option Value → AH → Prop} {T : TD} (hw : TW T) (hT : TM 3 7 142 T mI) {N : NP} (hS : SM 0 T N.1 (KO T N.1) mI) (hW : SW T N.1) (hP : PM T N.2 mI) {t : Nat → Int32} {L : Nat} (hX : XM t L mI) {G : GD} (hG : GM G mI) {S : RS} (hR : RM S mI) {w : Int32} (k : Q (some (.int (aCo T L N G (rsN S 3) w))) (hp X dl mI dr)) : EW X m_Md_count 0 (enL m_Md_count.2.2.1 [.ref 139, .int w]) [] (hp X dl mI dr) Q := by
  show EW X m_Md_count 0 [.ref 139, .int w] [] (hp X dl mI dr) Q
  have hc5 : cntH (aH N.1) 5 (tP T) = (Lm N.1 5).length := (Lm_len hW.v 5).symm
  refine g_iload_n d_Md_count_0 rfl ?_
  by_cases q0 : w = nI 0
  · rw [q0]
    refine P_tableIn d_Md_count_1 (59) 60 (by decide) (by decide) rfl (by decide) ?_
    refine g_aload_n d_Md_count_60 rfl ?_
    refine H_getI d_Md_count_61 f_Md_107.g rfl rfl (by decide) ?_
    refine T_int (nI (tn T)) hT.1 ?_
    refine P_iret d_Md_count_64 rfl ?_
    exact R_i k (by unfold aCo; rw [if_pos q0])
  by_cases q1 : w = nI 1
  · rw [q1]
    refine P_tableIn d_Md_count_1 (64) 65 (by decide) (by decide) rfl (by decide) ?_
    refine g_aload_n d_Md_count_65 rfl ?_
    refine H_getI d_Md_count_66 f_Md_115.g rfl rfl (by decide) ?_
    refine T_int (nI (tP T)) hT.2.1 ?_
    refine P_iret d_Md_count_69 rfl ?_
    exact R_i k (by unfold aCo; rw [if_neg q0, if_pos q1])
  by_cases q2 : w = nI 2
  · rw [q2]
    refine P_tableIn d_Md_count_1 (69) 70 (by decide) (by decide) rfl (by decide) ?_
    refine g_aload_n d_Md_count_70 rfl ?_
    refine H_getR 140 d_Md_count_71 f_Md_7.g rfl rfl (by decide) rfl ?_
    refine N_iconst d_Md_count_74 0 rfl ?_
    refine H_ialdN d_Md_count_75 rfl rfl (by omega) (by decide) ?_
    refine T_int (nI (aY N.1)) hS.1 ?_
    refine P_iret d_Md_count_76 rfl ?_
    exact R_i k (by unfold aCo; rw [if_neg q0, if_neg q1, if_pos q2])
  by_cases q3 : w = nI 3
  · rw [q3]
    refine P_tableIn d_Md_count_1 (76) 77 (by decide) (by decide) rfl (by decide) ?_
    refine g_aload_n d_Md_count_77 rfl ?_
    refine C_V0 d_Md_count_78 k_Md_331 rfl (Nat.le_of_ble_eq_true rfl) (by decide) (Nat.le_of_ble_eq_true rfl) ?_
    refine (c_Md_dead hw hT hS hW.v) ?_
    refine P_iret d_Md_count_81 rfl ?_
    exact R_i k (by unfold aCo; rw [if_neg q0, if_neg q1, if_neg q2, if_pos q3])
  by_cases q4 : w = nI 4
  · rw [q4]
    refine P_tableIn d_Md_count_1 (81) 82 (by decide) (by decide) rfl (by decide) ?_
    refine g_aload_n d_Md_count_82 rfl ?_
    refine H_getR 140 d_Md_count_83 f_Md_7.g rfl rfl (by decide) rfl ?_
    refine N_bipush d_Md_count_86 26 rfl ?_
    refine H_ialdN d_Md_count_88 rfl rfl (by omega) (by decide) ?_
    refine T_int (nI (KO T N.1)) hS.2.1 ?_
    refine P_iret d_Md_count_89 rfl ?_
    exact R_i k (by unfold aCo; rw [if_neg q0, if_neg q1, if_neg q2, if_neg q3, if_pos q4])
  by_cases q5 : w = nI 5
  · rw [q5]
    refine P_tableIn d_Md_count_1 (89) 90 (by decide) (by decide) rfl (by decide) ?_
    refine g_aload_n d_Md_count_90 rfl ?_
    refine H_getR 140 d_Md_count_91 f_Md_7.g rfl rfl (by decide) rfl ?_
    refine N_bipush d_Md_count_94 32 rfl ?_
    refine H_ialdN d_Md_count_96 rfl rfl (by omega) (by decide) ?_
    refine T_int (nI (Lm N.1 5).length) (hS.2.2.2.2 5 (by omega)).1 ?_
    refine P_iret d_Md_count_97 rfl ?_
    exact R_i k (by unfold aCo; rw [if_neg q0, if_neg q1, if_neg q2, if_neg q3, if_neg q4, if_pos q5]; exact congrArg nI hc5)
  by_cases q6 : w = nI 6
  · rw [q6]
    refine P_tableIn d_Md_count_1 (97) 98 (by decide) (by decide) rfl (by decide) ?_
    refine g_aload_n d_Md_count_98 rfl ?_
    refine C_V0 d_Md_count_99 k_Md_334 rfl (Nat.le_of_ble_eq_true rfl) (by decide) (Nat.le_of_ble_eq_true rfl) ?_
    refine (c_Md_doneAll hw hT hS) ?_
    refine P_iret d_Md_count_102 rfl ?_
    exact R_i k (by unfold aCo; rw [if_neg q0, if_neg q1, if_neg q2, if_neg q3, if_neg q4, if_neg q5, if_pos q6])
  by_cases q7 : w = nI 7
  · rw [q7]
    refine P_tableIn d_Md_count_1 (102) 103 (by decide) (by decide) rfl (by decide) ?_
    refine g_aload_n d_Md_count_103 rfl ?_
    refine H_getI d_Md_count_104 f_Md_229.g rfl rfl (by decide) ?_
    refine T_int (nI G.1) hG.1 ?_
    refine P_iret d_Md_count_107 rfl ?_
    exact R_i k (by unfold aCo; rw [if_neg q0, if_neg q1, if_neg q2, if_neg q3, if_neg q4, if_neg q5, if_neg q6, if_pos q7])
  by_cases q8 : w = nI 8
  · rw [q8]
    refine P_tableIn d_Md_count_1 (107) 108 (by decide) (by decide) rfl (by decide) ?_
    refine g_aload_n d_Md_count_108 rfl ?_
    refine C_V0 d_Md_count_109 k_Md_337 rfl (Nat.le_of_ble_eq_true rfl) (by decide) (Nat.le_of_ble_eq_true rfl) ?_
    refine (c_Md_registersThere hR) ?_
    refine P_iret d_Md_count_112 rfl ?_
    exact R_i k (by unfold aCo; rw [if_neg q0, if_neg q1, if_neg q2, if_neg q3, if_neg q4, if_neg q5, if_neg q6, if_neg q7, if_pos q8])
  by_cases q9 : w = nI 9
  · rw [q9]
    refine P_tableIn d_Md_count_1 (112) 113 (by decide) (by decide) rfl (by decide) ?_
    refine g_aload_n d_Md_count_113 rfl ?_
    refine H_getI d_Md_count_114 f_Md_226.g rfl rfl (by decide) ?_
    refine T_int (nI N.2.length) hP.2.1 ?_
    refine P_iret d_Md_count_117 rfl ?_
    exact R_i k (by unfold aCo; rw [if_neg q0, if_neg q1, if_neg q2, if_neg q3, if_neg q4, if_neg q5, if_neg q6, if_neg q7, if_neg q8, if_pos q9])
  by_cases q10 : w = nI 10
  · rw [q10]
    refine P_tableIn d_Md_count_1 (117) 118 (by decide) (by decide) rfl (by decide) ?_
    refine g_aload_n d_Md_count_118 rfl ?_
    refine H_getI d_Md_count_119 f_Md_120.g rfl rfl (by decide) ?_
    refine T_int (nI L) hX.2.1 ?_
    refine P_iret d_Md_count_122 rfl ?_
    exact R_i k (by unfold aCo; rw [if_neg q0, if_neg q1, if_neg q2, if_neg q3, if_neg q4, if_neg q5, if_neg q6, if_neg q7, if_neg q8, if_neg q9, if_pos q10])
  refine P_tableOut d_Md_count_1 123 (by decide) (sw_out 10 (fun j hj => by rcases (show j = 0 ∨ j = 1 ∨ j = 2 ∨ j = 3 ∨ j = 4 ∨ j = 5 ∨ j = 6 ∨ j = 7 ∨ j = 8 ∨ j = 9 ∨ j = 10 by omega) with rfl | rfl | rfl | rfl | rfl | rfl | rfl | rfl | rfl | rfl | rfl <;> assumption)) ?_
  refine P_bipush d_Md_count_123 (-3) rfl ?_
  refine P_iret d_Md_count_125 rfl ?_
  exact R_i k (by unfold aCo; rw [if_neg q0, if_neg q1, if_neg q2, if_neg q3, if_neg q4, if_neg q5, if_neg q6, if_neg q7, if_neg q8, if_neg q9, if_neg q10])

