theorem c_Md_againstLine {X : CX} {dl : List (Nat × Nat)} {mI : Nat → Nat → Int32} {dr : Nat → Nat → Nat} {Q : Option Value → AH → Prop} {S : RS} (hR : RM S mI) {j : Nat} (hj : j < 3) {p i : Int32} (k : Q (some (.int (flL S (nI j) p i))) (hp X dl mI dr)) : EW X m_Md_againstLine 0 (enL m_Md_againstLine.2.2.1 [.ref 139, .int (nI j), .int p, .int i]) [] (hp X dl mI dr) Q := by
  show EW X m_Md_againstLine 0 [.ref 139, .int (nI j), .int p, .int i] [] (hp X dl mI dr) Q
  obtain ⟨κ, hK⟩ := id hR
  have hle := hK.le hj
  have ej : tN (nI j) = j := tN_nI (by omega)
  refine g_aload_n d_Md_againstLine_0 rfl ?_
  refine H_getR 167 d_Md_againstLine_1 f_Md_92.g rfl rfl (by decide) rfl ?_
  refine g_iload_n d_Md_againstLine_4 rfl ?_
  refine H_ialdN d_Md_againstLine_5 rfl rfl (by omega) (by decide) ?_
  refine T_int (hrI (pC S j)) (hK.pg hj) ?_
  refine P_if_ge d_Md_againstLine_6 12 (by decide) (fun c1 => ?_) (fun c1 => ?_)
  · obtain ⟨l, hs⟩ := pC_1 ((hrI_ge (by omega)).mp c1)
    have hl5 := ((hK.1 j hj).2 l hs).2.1
    have e : flL S (nI j) p i = if ¬ inN p l.length then -12 else if l.getD (tN p) 0 = 0 then -13 else if inN i (S.2 (l.getD (tN p) 0)).length then 0 else -14 := by unfold flL; rw [ej, hs]
    rw [e] at k
    refine g_iload_n d_Md_againstLine_12 rfl ?_
    refine P_i2l d_Md_againstLine_13 ?_
    refine P_lconst d_Md_againstLine_14 0 rfl ?_
    refine g_aload_n d_Md_againstLine_15 rfl ?_
    refine H_getR 167 d_Md_againstLine_16 f_Md_92.g rfl rfl (by decide) rfl ?_
    refine g_iload_n d_Md_againstLine_19 rfl ?_
    refine H_ialdN d_Md_againstLine_20 rfl rfl (by omega) (by decide) ?_
    refine T_int (nI (l.length)) ((hK.1 j hj).2 l hs).1 ?_
    refine N_iconst d_Md_againstLine_21 1 rfl ?_
    refine P_isub d_Md_againstLine_22 ?_
    refine P_i2l d_Md_againstLine_23 ?_
    refine C_S3 d_Md_againstLine_24 k_Md_111 (Nat.le_of_ble_eq_true rfl) (by decide) (Nat.le_of_ble_eq_true rfl) ?_
    refine (c_Md_inN l.length rfl (by rw [i64_toInt, nI_m1 (by omega)]; omega)) ?_
    refine B_ne d_Md_againstLine_27 33 (by decide) (fun c2 => ?_) (fun c2 => ?_)
    · rw [if_neg (fun z => z c2)] at k
      obtain ⟨u, hu, rfl⟩ := inN_of c2 (by omega)
      rw [tN_nI (by omega)] at k
      have hb := (hK.b hj hs hu).2
      refine g_aload_n d_Md_againstLine_33 rfl ?_
      refine H_getR 168 d_Md_againstLine_34 f_Md_95.g rfl rfl (by decide) rfl ?_
      refine N_iconst d_Md_againstLine_37 5 rfl ?_
      refine g_iload_n d_Md_againstLine_38 rfl ?_
      refine N_imul d_Md_againstLine_39 ?_
      refine g_iload_n d_Md_againstLine_40 rfl ?_
      refine N_iadd d_Md_againstLine_41 ?_
      refine H_ialdN d_Md_againstLine_42 rfl rfl (by omega) (by decide) ?_
      refine T_int (hrI (bC κ (l.getD u 0))) (hK.b hj hs hu).1 ?_
      refine P_if_ge d_Md_againstLine_43 49 (by decide) (fun c3 => ?_) (fun c3 => ?_)
      · have hz : l.getD u 0 ≠ 0 := fun z => (hrI_ge (by omega)).mp c3 (bC_0.mpr z)
        rw [if_neg hz] at k
        obtain ⟨g1, g2, g3⟩ := (((hK.1 j hj).2 l hs).2.2 u hu).2 hz
        have h6 := g3.2.1
        refine g_iload_n d_Md_againstLine_49 rfl ?_
        refine P_i2l d_Md_againstLine_50 ?_
        refine P_lconst d_Md_againstLine_51 0 rfl ?_
        refine g_aload_n d_Md_againstLine_52 rfl ?_
        refine H_getR 169 d_Md_againstLine_53 f_Md_98.g rfl rfl (by decide) rfl ?_
        refine g_aload_n d_Md_againstLine_56 rfl ?_
        refine H_getR 168 d_Md_againstLine_57 f_Md_95.g rfl rfl (by decide) rfl ?_
        refine N_iconst d_Md_againstLine_60 5 rfl ?_
        refine g_iload_n d_Md_againstLine_61 rfl ?_
        refine N_imul d_Md_againstLine_62 ?_
        refine g_iload_n d_Md_againstLine_63 rfl ?_
        refine N_iadd d_Md_againstLine_64 ?_
        refine H_ialdN d_Md_againstLine_65 rfl rfl (by omega) (by decide) ?_
        refine T_int (nI (κ (l.getD u 0))) g2 ?_
        refine H_ialdN d_Md_againstLine_66 rfl rfl (by omega) (by decide) ?_
        refine T_int (nI ((S.2 (l.getD u 0)).length)) g3.1 ?_
        refine N_iconst d_Md_againstLine_67 1 rfl ?_
        refine P_isub d_Md_againstLine_68 ?_
        refine P_i2l d_Md_againstLine_69 ?_
        refine C_S3 d_Md_againstLine_70 k_Md_111 (Nat.le_of_ble_eq_true rfl) (by decide) (Nat.le_of_ble_eq_true rfl) ?_
        refine (c_Md_inN (S.2 (l.getD u 0)).length rfl (by rw [i64_toInt, nI_m1 (by omega)]; omega)) ?_
        refine B_eq d_Md_againstLine_73 80 (by decide) (fun c4 => ?_) (fun c4 => ?_)
        · refine P_bipush d_Md_againstLine_80 (-14) rfl ?_
          refine P_iret d_Md_againstLine_82 rfl ?_
          first
            | exact R_i k (if_pos (by assumption))
            | exact R_i k (if_neg (by assumption))
        · refine N_iconst d_Md_againstLine_76 0 rfl ?_
          refine P_goto d_Md_againstLine_77 82 (by decide) ?_
          refine P_iret d_Md_againstLine_82 rfl ?_
          first
            | exact R_i k (if_pos (by assumption))
            | exact R_i k (if_neg (by assumption))
      · refine P_bipush d_Md_againstLine_46 (-13) rfl ?_
        refine P_iret d_Md_againstLine_48 rfl ?_
        exact R_i k (if_pos (bC_0.mp (Classical.byContradiction (fun z => c3 ((hrI_ge (by omega)).mpr z)))))
    · refine P_bipush d_Md_againstLine_30 (-12) rfl ?_
      refine P_iret d_Md_againstLine_32 rfl ?_
      exact R_i k (if_pos c2)
  · refine P_bipush d_Md_againstLine_9 (-11) rfl ?_
    refine P_iret d_Md_againstLine_11 rfl ?_
    have hs := pC_0 (Classical.byContradiction (fun z => c1 ((hrI_ge (by omega)).mpr z)))
    exact R_i k (by unfold flL; rw [ej, hs])

theorem w012 {w : Int32} (h : inN w 3) : w = nI 0 ∨ w = nI 1 ∨ w = nI 2 := by
  obtain ⟨j, hj, rfl⟩ := inN_of h (by decide)
  rcases (show j = 0 ∨ j = 1 ∨ j = 2 by omega) with rfl | rfl | rfl
  · exact Or.inl rfl
  · exact Or.inr (Or.inl rfl)
  · exact Or.inr (Or.inr rfl)
theorem lnM_en {w v : Int32} (h : inN w 3) : lnM (enO w v) (if w = nI 2 then nI 0 else w + nI 1) (if w = nI 2 then 0 else v) := by
  rcases w012 h with rfl | rfl | rfl
  · exact ⟨rfl, rfl, by decide⟩
  · exact ⟨rfl, rfl, by decide⟩
  · exact (rfl : (nI 0 : Int32) = nI 0)
theorem c_Md_enter {X : CX} {dl : List (Nat × Nat)} {mI : Nat → Nat → Int32} {dr : Nat → Nat → Nat} {Q : Option Value → AH → Prop} {S : RS} (hR : RM S mI) {P : Nat} {g p i what v : Int32} (hP : mI 139 7 = nI P) (hPb : P < 100) (k : ∀ mI', RM (oEnt S P g p i what v).1 mI' → FZ mI mI' → Q (some (.int (oEnt S P g p i what v).2)) (hp X dl mI' dr)) : EW X m_Md_enter 0 (enL m_Md_enter.2.2.1 [.ref 139, .int g, .int p, .int i, .int what, .int v]) [] (hp X dl mI dr) Q := by
  show EW X m_Md_enter 0 [.ref 139, .int g, .int p, .int i, .int what, .int v, jk, jk] [] (hp X dl mI dr) Q
  obtain ⟨κ, hK⟩ := id hR
  refine g_iload_n d_Md_enter_0 rfl ?_
  refine C_S1 d_Md_enter_1 k_Md_311 (Nat.le_of_ble_eq_true rfl) (by decide) (Nat.le_of_ble_eq_true rfl) ?_
  refine c_Md_isRegister ?_
  refine B_eq d_Md_enter_4 22 (by decide) (fun c1 => ?_) (fun c1 => ?_)
  · refine P_bipush d_Md_enter_22 (-2) rfl ?_
    refine P_iret d_Md_enter_24 rfl ?_
    have e : oEnt S P g p i what v = (S, -2) := by unfold oEnt; rw [if_pos (by first | exact Or.inl c1 | exact Or.inr ⟨by assumption, by assumption⟩)]
    rw [e] at k
    exact k mI hR FZ.rf
  · refine g_iload d_Md_enter_7 rfl ?_
    refine N_iconst d_Md_enter_9 1 rfl ?_
    refine P_icmp_ne d_Md_enter_10 25 (by decide) (fun c2 => ?_) (fun c2 => ?_)
    · have hA : ¬ (¬ inN g 3 ∨ (what = nI 1 ∧ ¬ inN v P)) := fun z => z.elim (fun y => y c1) (fun y => by
        first
          | exact absurd y.1 (by assumption)
          | exact y.2 (by assumption))
      have c1n := c1
      refine g_iload d_Md_enter_25 rfl ?_
      refine P_i2l d_Md_enter_27 ?_
      refine P_lconst d_Md_enter_28 0 rfl ?_
      refine P_ldc2 d_Md_enter_29 _ q_Md_300 ?_
      refine C_S3 d_Md_enter_32 k_Md_111 (Nat.le_of_ble_eq_true rfl) (by decide) (Nat.le_of_ble_eq_true rfl) ?_
      refine (c_Md_inN 3 rfl rfl) ?_
      refine B_eq d_Md_enter_35 58 (by decide) (fun c3 => ?_) (fun c3 => ?_)
      · refine P_bipush d_Md_enter_58 (-3) rfl ?_
        refine P_iret d_Md_enter_60 rfl ?_
        have hBd : ¬ inN what 3 ∨ (what = nI 0 ∧ ¬ (-9999 ≤ v.toInt ∧ v.toInt ≤ 9999)) := by
          first
            | exact Or.inl (by assumption)
            | exact Or.inr ⟨by assumption, by assumption⟩
        have e : oEnt S P g p i what v = (S, -3) := by unfold oEnt; rw [if_neg hA, if_pos hBd]
        rw [e] at k
        exact k mI hR FZ.rf
      · refine g_iload d_Md_enter_38 rfl ?_
        refine P_if_ne d_Md_enter_40 61 (by decide) (fun c4 => ?_) (fun c4 => ?_)
        · have hin : inN what 3 := by assumption
          have hBd : ¬ (¬ inN what 3 ∨ (what = nI 0 ∧ ¬ (-9999 ≤ v.toInt ∧ v.toInt ≤ 9999))) := fun z => z.elim (fun y => y hin) (fun y => by
            first
              | exact absurd y.1 (by assumption)
              | exact y.2 (by assumption))
          obtain ⟨j, hj, rfl⟩ := inN_of c1 (by decide)
          clear c1n
          refine g_aload_n d_Md_enter_61 rfl ?_
          refine g_iload_n d_Md_enter_62 rfl ?_
          refine g_iload_n d_Md_enter_63 rfl ?_
          refine g_iload_n d_Md_enter_64 rfl ?_
          refine C_V3 d_Md_enter_65 k_Md_325 rfl (Nat.le_of_ble_eq_true rfl) (by decide) (Nat.le_of_ble_eq_true rfl) ?_
          refine (c_Md_againstLine hR hj) ?_
          refine S_istore_8_6 d_Md_enter_68 rfl rfl ?_
          refine g_iload d_Md_enter_70 rfl ?_
          refine P_if_ge d_Md_enter_72 78 (by decide) (fun c5 => ?_) (fun c5 => ?_)
          · obtain ⟨hz, l, u, w, hs, hu, hl5, rfl, hn, hw, rfl, hpg, g1, g2, g3⟩ := flL_1 hK hj (i := i) (p := p) (by assumption)
            have h6 := g3.2.1
            have e : oEnt S P (nI j) (nI u) (nI w) what v = ((S.1, va_up S.2 (l.getD u 0) ((S.2 (l.getD u 0)).set w (enO what v))), 1) := by unfold oEnt; rw [if_neg hA, if_neg hBd, if_neg (fun z => z hz), hpg, tN_nI (by omega)]
            rw [e] at k
            have hE := fun c hc => RK_ent (c := c) (w := what) (v := v) hK hj hs hu hn hw hc
            have hL := lnM_en (v := v) hin
            refine N_bipush d_Md_enter_78 6 rfl ?_
            refine g_aload_n d_Md_enter_80 rfl ?_
            refine H_getR 168 d_Md_enter_81 f_Md_95.g rfl rfl (by decide) rfl ?_
            refine N_iconst d_Md_enter_84 5 rfl ?_
            refine g_iload_n d_Md_enter_85 rfl ?_
            refine N_imul d_Md_enter_86 ?_
            refine g_iload_n d_Md_enter_87 rfl ?_
            refine N_iadd d_Md_enter_88 ?_
            refine H_ialdN d_Md_enter_89 rfl rfl (by omega) (by decide) ?_
            refine T_int (nI (κ (l.getD u 0))) g2 ?_
            refine N_imul d_Md_enter_90 ?_
            refine g_iload_n d_Md_enter_91 rfl ?_
            refine N_iadd d_Md_enter_92 ?_
            refine S_istore_8_7 d_Md_enter_93 rfl rfl ?_
            refine g_aload_n d_Md_enter_95 rfl ?_
            refine H_getR 170 d_Md_enter_96 f_Md_101.g rfl rfl (by decide) rfl ?_
            refine g_iload d_Md_enter_99 rfl ?_
            refine g_iload d_Md_enter_101 rfl ?_
            refine N_iconst d_Md_enter_103 2 rfl ?_
            refine P_icmp_ne d_Md_enter_104 111 (by decide) (fun c6 => ?_) (fun c6 => ?_)
            · refine g_iload d_Md_enter_111 rfl ?_
              refine N_iconst d_Md_enter_113 1 rfl ?_
              refine P_iadd d_Md_enter_114 ?_
              refine H_iastN d_Md_enter_115 rfl rfl (by omega) (by decide) ?_
              refine g_aload_n d_Md_enter_116 rfl ?_
              refine H_getR 171 d_Md_enter_117 f_Md_104.g rfl rfl (by decide) rfl ?_
              refine g_iload d_Md_enter_120 rfl ?_
              refine g_iload d_Md_enter_122 rfl ?_
              refine N_iconst d_Md_enter_124 2 rfl ?_
              refine P_icmp_ne d_Md_enter_125 132 (by decide) (fun c7 => ?_) (fun c7 => ?_)
              · refine g_iload d_Md_enter_132 rfl ?_
                refine H_iastN d_Md_enter_134 rfl rfl (by omega) (by decide) ?_
                refine N_iconst d_Md_enter_135 1 rfl ?_
                refine P_iret d_Md_enter_136 rfl ?_
                first
                  | (have hw2 : what = nI 2 := by assumption
                     rw [if_pos hw2, if_pos hw2] at hL
                     have h := hE (nI 0) (by rw [if_pos hw2]; exact hL)
                     rw [if_pos hw2] at h
                     exact k _ ⟨κ, h⟩ (FZ_sI (FZ_sI FZ.rf (by omega)) (by omega)))
                  | (have hw2 : ¬ what = nI 2 := by assumption
                     rw [if_neg hw2, if_neg hw2] at hL
                     have h := hE (what + nI 1) (by rw [if_neg hw2]; exact hL)
                     rw [if_neg hw2] at h
                     exact k _ ⟨κ, h⟩ (FZ_sI (FZ_sI FZ.rf (by omega)) (by omega)))
                  | contradiction
              · refine N_iconst d_Md_enter_128 0 rfl ?_
                refine P_goto d_Md_enter_129 134 (by decide) ?_
                refine H_iastN d_Md_enter_134 rfl rfl (by omega) (by decide) ?_
                refine N_iconst d_Md_enter_135 1 rfl ?_
                refine P_iret d_Md_enter_136 rfl ?_
                first
                  | (have hw2 : what = nI 2 := by assumption
                     rw [if_pos hw2, if_pos hw2] at hL
                     have h := hE (nI 0) (by rw [if_pos hw2]; exact hL)
                     rw [if_pos hw2] at h
                     exact k _ ⟨κ, h⟩ (FZ_sI (FZ_sI FZ.rf (by omega)) (by omega)))
                  | (have hw2 : ¬ what = nI 2 := by assumption
                     rw [if_neg hw2, if_neg hw2] at hL
                     have h := hE (what + nI 1) (by rw [if_neg hw2]; exact hL)
                     rw [if_neg hw2] at h
                     exact k _ ⟨κ, h⟩ (FZ_sI (FZ_sI FZ.rf (by omega)) (by omega)))
                  | contradiction
            · refine N_iconst d_Md_enter_107 0 rfl ?_
              refine P_goto d_Md_enter_108 115 (by decide) ?_
              refine H_iastN d_Md_enter_115 rfl rfl (by omega) (by decide) ?_
              refine g_aload_n d_Md_enter_116 rfl ?_
              refine H_getR 171 d_Md_enter_117 f_Md_104.g rfl rfl (by decide) rfl ?_
              refine g_iload d_Md_enter_120 rfl ?_
              refine g_iload d_Md_enter_122 rfl ?_
              refine N_iconst d_Md_enter_124 2 rfl ?_
              refine P_icmp_ne d_Md_enter_125 132 (by decide) (fun c8 => ?_) (fun c8 => ?_)
              · refine g_iload d_Md_enter_132 rfl ?_
                refine H_iastN d_Md_enter_134 rfl rfl (by omega) (by decide) ?_
                refine N_iconst d_Md_enter_135 1 rfl ?_
                refine P_iret d_Md_enter_136 rfl ?_
                first
                  | (have hw2 : what = nI 2 := by assumption
                     rw [if_pos hw2, if_pos hw2] at hL
                     have h := hE (nI 0) (by rw [if_pos hw2]; exact hL)
                     rw [if_pos hw2] at h
                     exact k _ ⟨κ, h⟩ (FZ_sI (FZ_sI FZ.rf (by omega)) (by omega)))
                  | (have hw2 : ¬ what = nI 2 := by assumption
                     rw [if_neg hw2, if_neg hw2] at hL
                     have h := hE (what + nI 1) (by rw [if_neg hw2]; exact hL)
                     rw [if_neg hw2] at h
                     exact k _ ⟨κ, h⟩ (FZ_sI (FZ_sI FZ.rf (by omega)) (by omega)))
                  | contradiction
              · refine N_iconst d_Md_enter_128 0 rfl ?_
                refine P_goto d_Md_enter_129 134 (by decide) ?_
                refine H_iastN d_Md_enter_134 rfl rfl (by omega) (by decide) ?_
                refine N_iconst d_Md_enter_135 1 rfl ?_
                refine P_iret d_Md_enter_136 rfl ?_
                first
                  | (have hw2 : what = nI 2 := by assumption
                     rw [if_pos hw2, if_pos hw2] at hL
                     have h := hE (nI 0) (by rw [if_pos hw2]; exact hL)
                     rw [if_pos hw2] at h
                     exact k _ ⟨κ, h⟩ (FZ_sI (FZ_sI FZ.rf (by omega)) (by omega)))
                  | (have hw2 : ¬ what = nI 2 := by assumption
                     rw [if_neg hw2, if_neg hw2] at hL
                     have h := hE (what + nI 1) (by rw [if_neg hw2]; exact hL)
                     rw [if_neg hw2] at h
                     exact k _ ⟨κ, h⟩ (FZ_sI (FZ_sI FZ.rf (by omega)) (by omega)))
                  | contradiction
          · refine g_iload d_Md_enter_75 rfl ?_
            refine P_iret d_Md_enter_77 rfl ?_
            have hnz : flL S (nI j) p i ≠ 0 := fun z => by
              have hb : ¬ 0 ≤ flL S (nI j) p i := by assumption
              rw [z] at hb; exact hb (by decide)
            have e : oEnt S P (nI j) p i what v = (S, flL S (nI j) p i) := by unfold oEnt; rw [if_neg hA, if_neg hBd, if_pos hnz]
            rw [e] at k
            exact k mI hR FZ.rf
        · refine g_iload d_Md_enter_43 rfl ?_
          refine P_i2l d_Md_enter_45 ?_
          refine P_ldc2 d_Md_enter_46 _ q_Md_321 ?_
          refine P_ldc2 d_Md_enter_49 _ q_Md_323 ?_
          refine C_S3 d_Md_enter_52 k_Md_111 (Nat.le_of_ble_eq_true rfl) (by decide) (Nat.le_of_ble_eq_true rfl) ?_
          refine (c_Md_inI (-9999) 9999 rfl rfl) ?_
          refine B_ne d_Md_enter_55 61 (by decide) (fun c9 => ?_) (fun c9 => ?_)
          · have hin : inN what 3 := by assumption
            have hBd : ¬ (¬ inN what 3 ∨ (what = nI 0 ∧ ¬ (-9999 ≤ v.toInt ∧ v.toInt ≤ 9999))) := fun z => z.elim (fun y => y hin) (fun y => by
              first
                | exact absurd y.1 (by assumption)
                | exact y.2 (by assumption))
            obtain ⟨j, hj, rfl⟩ := inN_of c1 (by decide)
            clear c1n
            refine g_aload_n d_Md_enter_61 rfl ?_
            refine g_iload_n d_Md_enter_62 rfl ?_
            refine g_iload_n d_Md_enter_63 rfl ?_
            refine g_iload_n d_Md_enter_64 rfl ?_
            refine C_V3 d_Md_enter_65 k_Md_325 rfl (Nat.le_of_ble_eq_true rfl) (by decide) (Nat.le_of_ble_eq_true rfl) ?_
            refine (c_Md_againstLine hR hj) ?_
            refine S_istore_8_6 d_Md_enter_68 rfl rfl ?_
            refine g_iload d_Md_enter_70 rfl ?_
            refine P_if_ge d_Md_enter_72 78 (by decide) (fun c10 => ?_) (fun c10 => ?_)
            · obtain ⟨hz, l, u, w, hs, hu, hl5, rfl, hn, hw, rfl, hpg, g1, g2, g3⟩ := flL_1 hK hj (i := i) (p := p) (by assumption)
              have h6 := g3.2.1
              have e : oEnt S P (nI j) (nI u) (nI w) what v = ((S.1, va_up S.2 (l.getD u 0) ((S.2 (l.getD u 0)).set w (enO what v))), 1) := by unfold oEnt; rw [if_neg hA, if_neg hBd, if_neg (fun z => z hz), hpg, tN_nI (by omega)]
              rw [e] at k
              have hE := fun c hc => RK_ent (c := c) (w := what) (v := v) hK hj hs hu hn hw hc
              have hL := lnM_en (v := v) hin
              refine N_bipush d_Md_enter_78 6 rfl ?_
              refine g_aload_n d_Md_enter_80 rfl ?_
              refine H_getR 168 d_Md_enter_81 f_Md_95.g rfl rfl (by decide) rfl ?_
              refine N_iconst d_Md_enter_84 5 rfl ?_
              refine g_iload_n d_Md_enter_85 rfl ?_
              refine N_imul d_Md_enter_86 ?_
              refine g_iload_n d_Md_enter_87 rfl ?_
              refine N_iadd d_Md_enter_88 ?_
              refine H_ialdN d_Md_enter_89 rfl rfl (by omega) (by decide) ?_
              refine T_int (nI (κ (l.getD u 0))) g2 ?_
              refine N_imul d_Md_enter_90 ?_
              refine g_iload_n d_Md_enter_91 rfl ?_
              refine N_iadd d_Md_enter_92 ?_
              refine S_istore_8_7 d_Md_enter_93 rfl rfl ?_
              refine g_aload_n d_Md_enter_95 rfl ?_
              refine H_getR 170 d_Md_enter_96 f_Md_101.g rfl rfl (by decide) rfl ?_
              refine g_iload d_Md_enter_99 rfl ?_
              refine g_iload d_Md_enter_101 rfl ?_
              refine N_iconst d_Md_enter_103 2 rfl ?_
              refine P_icmp_ne d_Md_enter_104 111 (by decide) (fun c11 => ?_) (fun c11 => ?_)
              · refine g_iload d_Md_enter_111 rfl ?_
                refine N_iconst d_Md_enter_113 1 rfl ?_
                refine P_iadd d_Md_enter_114 ?_
                refine H_iastN d_Md_enter_115 rfl rfl (by omega) (by decide) ?_
                refine g_aload_n d_Md_enter_116 rfl ?_
                refine H_getR 171 d_Md_enter_117 f_Md_104.g rfl rfl (by decide) rfl ?_
                refine g_iload d_Md_enter_120 rfl ?_
                refine g_iload d_Md_enter_122 rfl ?_
                refine N_iconst d_Md_enter_124 2 rfl ?_
                refine P_icmp_ne d_Md_enter_125 132 (by decide) (fun c12 => ?_) (fun c12 => ?_)
                · refine g_iload d_Md_enter_132 rfl ?_
                  refine H_iastN d_Md_enter_134 rfl rfl (by omega) (by decide) ?_
                  refine N_iconst d_Md_enter_135 1 rfl ?_
                  refine P_iret d_Md_enter_136 rfl ?_
                  first
                    | (have hw2 : what = nI 2 := by assumption
                       rw [if_pos hw2, if_pos hw2] at hL
                       have h := hE (nI 0) (by rw [if_pos hw2]; exact hL)
                       rw [if_pos hw2] at h
                       exact k _ ⟨κ, h⟩ (FZ_sI (FZ_sI FZ.rf (by omega)) (by omega)))
                    | (have hw2 : ¬ what = nI 2 := by assumption
                       rw [if_neg hw2, if_neg hw2] at hL
                       have h := hE (what + nI 1) (by rw [if_neg hw2]; exact hL)
                       rw [if_neg hw2] at h
                       exact k _ ⟨κ, h⟩ (FZ_sI (FZ_sI FZ.rf (by omega)) (by omega)))
                    | contradiction
                · refine N_iconst d_Md_enter_128 0 rfl ?_
                  refine P_goto d_Md_enter_129 134 (by decide) ?_
                  refine H_iastN d_Md_enter_134 rfl rfl (by omega) (by decide) ?_
                  refine N_iconst d_Md_enter_135 1 rfl ?_
                  refine P_iret d_Md_enter_136 rfl ?_
                  first
                    | (have hw2 : what = nI 2 := by assumption
                       rw [if_pos hw2, if_pos hw2] at hL
                       have h := hE (nI 0) (by rw [if_pos hw2]; exact hL)
                       rw [if_pos hw2] at h
                       exact k _ ⟨κ, h⟩ (FZ_sI (FZ_sI FZ.rf (by omega)) (by omega)))
                    | (have hw2 : ¬ what = nI 2 := by assumption
                       rw [if_neg hw2, if_neg hw2] at hL
                       have h := hE (what + nI 1) (by rw [if_neg hw2]; exact hL)
                       rw [if_neg hw2] at h
                       exact k _ ⟨κ, h⟩ (FZ_sI (FZ_sI FZ.rf (by omega)) (by omega)))
                    | contradiction
              · refine N_iconst d_Md_enter_107 0 rfl ?_
                refine P_goto d_Md_enter_108 115 (by decide) ?_
                refine H_iastN d_Md_enter_115 rfl rfl (by omega) (by decide) ?_
                refine g_aload_n d_Md_enter_116 rfl ?_
                refine H_getR 171 d_Md_enter_117 f_Md_104.g rfl rfl (by decide) rfl ?_
                refine g_iload d_Md_enter_120 rfl ?_
                refine g_iload d_Md_enter_122 rfl ?_
                refine N_iconst d_Md_enter_124 2 rfl ?_
                refine P_icmp_ne d_Md_enter_125 132 (by decide) (fun c13 => ?_) (fun c13 => ?_)
                · refine g_iload d_Md_enter_132 rfl ?_
                  refine H_iastN d_Md_enter_134 rfl rfl (by omega) (by decide) ?_
                  refine N_iconst d_Md_enter_135 1 rfl ?_
                  refine P_iret d_Md_enter_136 rfl ?_
                  first
                    | (have hw2 : what = nI 2 := by assumption
                       rw [if_pos hw2, if_pos hw2] at hL
                       have h := hE (nI 0) (by rw [if_pos hw2]; exact hL)
                       rw [if_pos hw2] at h
                       exact k _ ⟨κ, h⟩ (FZ_sI (FZ_sI FZ.rf (by omega)) (by omega)))
                    | (have hw2 : ¬ what = nI 2 := by assumption
                       rw [if_neg hw2, if_neg hw2] at hL
                       have h := hE (what + nI 1) (by rw [if_neg hw2]; exact hL)
                       rw [if_neg hw2] at h
                       exact k _ ⟨κ, h⟩ (FZ_sI (FZ_sI FZ.rf (by omega)) (by omega)))
                    | contradiction
                · refine N_iconst d_Md_enter_128 0 rfl ?_
                  refine P_goto d_Md_enter_129 134 (by decide) ?_
                  refine H_iastN d_Md_enter_134 rfl rfl (by omega) (by decide) ?_
                  refine N_iconst d_Md_enter_135 1 rfl ?_
                  refine P_iret d_Md_enter_136 rfl ?_
                  first
                    | (have hw2 : what = nI 2 := by assumption
                       rw [if_pos hw2, if_pos hw2] at hL
                       have h := hE (nI 0) (by rw [if_pos hw2]; exact hL)
                       rw [if_pos hw2] at h
                       exact k _ ⟨κ, h⟩ (FZ_sI (FZ_sI FZ.rf (by omega)) (by omega)))
                    | (have hw2 : ¬ what = nI 2 := by assumption
                       rw [if_neg hw2, if_neg hw2] at hL
                       have h := hE (what + nI 1) (by rw [if_neg hw2]; exact hL)
                       rw [if_neg hw2] at h
                       exact k _ ⟨κ, h⟩ (FZ_sI (FZ_sI FZ.rf (by omega)) (by omega)))
                    | contradiction
            · refine g_iload d_Md_enter_75 rfl ?_
              refine P_iret d_Md_enter_77 rfl ?_
              have hnz : flL S (nI j) p i ≠ 0 := fun z => by
                have hb : ¬ 0 ≤ flL S (nI j) p i := by assumption
                rw [z] at hb; exact hb (by decide)
              have e : oEnt S P (nI j) p i what v = (S, flL S (nI j) p i) := by unfold oEnt; rw [if_neg hA, if_neg hBd, if_pos hnz]
              rw [e] at k
              exact k mI hR FZ.rf
          · refine P_bipush d_Md_enter_58 (-3) rfl ?_
            refine P_iret d_Md_enter_60 rfl ?_
            have hBd : ¬ inN what 3 ∨ (what = nI 0 ∧ ¬ (-9999 ≤ v.toInt ∧ v.toInt ≤ 9999)) := by
              first
                | exact Or.inl (by assumption)
                | exact Or.inr ⟨by assumption, by assumption⟩
            have e : oEnt S P g p i what v = (S, -3) := by unfold oEnt; rw [if_neg hA, if_pos hBd]
            rw [e] at k
            exact k mI hR FZ.rf
    · refine g_aload_n d_Md_enter_13 rfl ?_
      refine g_iload d_Md_enter_14 rfl ?_
      refine C_V1 d_Md_enter_16 k_Md_259 rfl (Nat.le_of_ble_eq_true rfl) (by decide) (Nat.le_of_ble_eq_true rfl) ?_
      refine (c_Md_isPromise hP (by omega)) ?_
      refine B_ne d_Md_enter_19 25 (by decide) (fun c14 => ?_) (fun c14 => ?_)
      · have hA : ¬ (¬ inN g 3 ∨ (what = nI 1 ∧ ¬ inN v P)) := fun z => z.elim (fun y => y c1) (fun y => by
          first
            | exact absurd y.1 (by assumption)
            | exact y.2 (by assumption))
        have c1n := c1
        refine g_iload d_Md_enter_25 rfl ?_
        refine P_i2l d_Md_enter_27 ?_
        refine P_lconst d_Md_enter_28 0 rfl ?_
        refine P_ldc2 d_Md_enter_29 _ q_Md_300 ?_
        refine C_S3 d_Md_enter_32 k_Md_111 (Nat.le_of_ble_eq_true rfl) (by decide) (Nat.le_of_ble_eq_true rfl) ?_
        refine (c_Md_inN 3 rfl rfl) ?_
        refine B_eq d_Md_enter_35 58 (by decide) (fun c15 => ?_) (fun c15 => ?_)
        · refine P_bipush d_Md_enter_58 (-3) rfl ?_
          refine P_iret d_Md_enter_60 rfl ?_
          have hBd : ¬ inN what 3 ∨ (what = nI 0 ∧ ¬ (-9999 ≤ v.toInt ∧ v.toInt ≤ 9999)) := by
            first
              | exact Or.inl (by assumption)
              | exact Or.inr ⟨by assumption, by assumption⟩
          have e : oEnt S P g p i what v = (S, -3) := by unfold oEnt; rw [if_neg hA, if_pos hBd]
          rw [e] at k
          exact k mI hR FZ.rf
        · refine g_iload d_Md_enter_38 rfl ?_
          refine P_if_ne d_Md_enter_40 61 (by decide) (fun c16 => ?_) (fun c16 => ?_)
          · have hin : inN what 3 := by assumption
            have hBd : ¬ (¬ inN what 3 ∨ (what = nI 0 ∧ ¬ (-9999 ≤ v.toInt ∧ v.toInt ≤ 9999))) := fun z => z.elim (fun y => y hin) (fun y => by
              first
                | exact absurd y.1 (by assumption)
                | exact y.2 (by assumption))
            obtain ⟨j, hj, rfl⟩ := inN_of c1 (by decide)
            clear c1n
            refine g_aload_n d_Md_enter_61 rfl ?_
            refine g_iload_n d_Md_enter_62 rfl ?_
            refine g_iload_n d_Md_enter_63 rfl ?_
            refine g_iload_n d_Md_enter_64 rfl ?_
            refine C_V3 d_Md_enter_65 k_Md_325 rfl (Nat.le_of_ble_eq_true rfl) (by decide) (Nat.le_of_ble_eq_true rfl) ?_
            refine (c_Md_againstLine hR hj) ?_
            refine S_istore_8_6 d_Md_enter_68 rfl rfl ?_
            refine g_iload d_Md_enter_70 rfl ?_
            refine P_if_ge d_Md_enter_72 78 (by decide) (fun c17 => ?_) (fun c17 => ?_)
            · obtain ⟨hz, l, u, w, hs, hu, hl5, rfl, hn, hw, rfl, hpg, g1, g2, g3⟩ := flL_1 hK hj (i := i) (p := p) (by assumption)
              have h6 := g3.2.1
              have e : oEnt S P (nI j) (nI u) (nI w) what v = ((S.1, va_up S.2 (l.getD u 0) ((S.2 (l.getD u 0)).set w (enO what v))), 1) := by unfold oEnt; rw [if_neg hA, if_neg hBd, if_neg (fun z => z hz), hpg, tN_nI (by omega)]
              rw [e] at k
              have hE := fun c hc => RK_ent (c := c) (w := what) (v := v) hK hj hs hu hn hw hc
              have hL := lnM_en (v := v) hin
              refine N_bipush d_Md_enter_78 6 rfl ?_
              refine g_aload_n d_Md_enter_80 rfl ?_
              refine H_getR 168 d_Md_enter_81 f_Md_95.g rfl rfl (by decide) rfl ?_
              refine N_iconst d_Md_enter_84 5 rfl ?_
              refine g_iload_n d_Md_enter_85 rfl ?_
              refine N_imul d_Md_enter_86 ?_
              refine g_iload_n d_Md_enter_87 rfl ?_
              refine N_iadd d_Md_enter_88 ?_
              refine H_ialdN d_Md_enter_89 rfl rfl (by omega) (by decide) ?_
              refine T_int (nI (κ (l.getD u 0))) g2 ?_
              refine N_imul d_Md_enter_90 ?_
              refine g_iload_n d_Md_enter_91 rfl ?_
              refine N_iadd d_Md_enter_92 ?_
              refine S_istore_8_7 d_Md_enter_93 rfl rfl ?_
              refine g_aload_n d_Md_enter_95 rfl ?_
              refine H_getR 170 d_Md_enter_96 f_Md_101.g rfl rfl (by decide) rfl ?_
              refine g_iload d_Md_enter_99 rfl ?_
              refine g_iload d_Md_enter_101 rfl ?_
              refine N_iconst d_Md_enter_103 2 rfl ?_
              refine P_icmp_ne d_Md_enter_104 111 (by decide) (fun c18 => ?_) (fun c18 => ?_)
              · refine g_iload d_Md_enter_111 rfl ?_
                refine N_iconst d_Md_enter_113 1 rfl ?_
                refine P_iadd d_Md_enter_114 ?_
                refine H_iastN d_Md_enter_115 rfl rfl (by omega) (by decide) ?_
                refine g_aload_n d_Md_enter_116 rfl ?_
                refine H_getR 171 d_Md_enter_117 f_Md_104.g rfl rfl (by decide) rfl ?_
                refine g_iload d_Md_enter_120 rfl ?_
                refine g_iload d_Md_enter_122 rfl ?_
                refine N_iconst d_Md_enter_124 2 rfl ?_
                refine P_icmp_ne d_Md_enter_125 132 (by decide) (fun c19 => ?_) (fun c19 => ?_)
                · refine g_iload d_Md_enter_132 rfl ?_
                  refine H_iastN d_Md_enter_134 rfl rfl (by omega) (by decide) ?_
                  refine N_iconst d_Md_enter_135 1 rfl ?_
                  refine P_iret d_Md_enter_136 rfl ?_
                  first
                    | (have hw2 : what = nI 2 := by assumption
                       rw [if_pos hw2, if_pos hw2] at hL
                       have h := hE (nI 0) (by rw [if_pos hw2]; exact hL)
                       rw [if_pos hw2] at h
                       exact k _ ⟨κ, h⟩ (FZ_sI (FZ_sI FZ.rf (by omega)) (by omega)))
                    | (have hw2 : ¬ what = nI 2 := by assumption
                       rw [if_neg hw2, if_neg hw2] at hL
                       have h := hE (what + nI 1) (by rw [if_neg hw2]; exact hL)
                       rw [if_neg hw2] at h
                       exact k _ ⟨κ, h⟩ (FZ_sI (FZ_sI FZ.rf (by omega)) (by omega)))
                    | contradiction
                · refine N_iconst d_Md_enter_128 0 rfl ?_
                  refine P_goto d_Md_enter_129 134 (by decide) ?_
                  refine H_iastN d_Md_enter_134 rfl rfl (by omega) (by decide) ?_
                  refine N_iconst d_Md_enter_135 1 rfl ?_
                  refine P_iret d_Md_enter_136 rfl ?_
                  first
                    | (have hw2 : what = nI 2 := by assumption
                       rw [if_pos hw2, if_pos hw2] at hL
                       have h := hE (nI 0) (by rw [if_pos hw2]; exact hL)
                       rw [if_pos hw2] at h
                       exact k _ ⟨κ, h⟩ (FZ_sI (FZ_sI FZ.rf (by omega)) (by omega)))
                    | (have hw2 : ¬ what = nI 2 := by assumption
                       rw [if_neg hw2, if_neg hw2] at hL
                       have h := hE (what + nI 1) (by rw [if_neg hw2]; exact hL)
                       rw [if_neg hw2] at h
                       exact k _ ⟨κ, h⟩ (FZ_sI (FZ_sI FZ.rf (by omega)) (by omega)))
                    | contradiction
              · refine N_iconst d_Md_enter_107 0 rfl ?_
                refine P_goto d_Md_enter_108 115 (by decide) ?_
                refine H_iastN d_Md_enter_115 rfl rfl (by omega) (by decide) ?_
                refine g_aload_n d_Md_enter_116 rfl ?_
                refine H_getR 171 d_Md_enter_117 f_Md_104.g rfl rfl (by decide) rfl ?_
                refine g_iload d_Md_enter_120 rfl ?_
                refine g_iload d_Md_enter_122 rfl ?_
                refine N_iconst d_Md_enter_124 2 rfl ?_
                refine P_icmp_ne d_Md_enter_125 132 (by decide) (fun c20 => ?_) (fun c20 => ?_)
                · refine g_iload d_Md_enter_132 rfl ?_
                  refine H_iastN d_Md_enter_134 rfl rfl (by omega) (by decide) ?_
                  refine N_iconst d_Md_enter_135 1 rfl ?_
                  refine P_iret d_Md_enter_136 rfl ?_
                  first
                    | (have hw2 : what = nI 2 := by assumption
                       rw [if_pos hw2, if_pos hw2] at hL
                       have h := hE (nI 0) (by rw [if_pos hw2]; exact hL)
                       rw [if_pos hw2] at h
                       exact k _ ⟨κ, h⟩ (FZ_sI (FZ_sI FZ.rf (by omega)) (by omega)))
                    | (have hw2 : ¬ what = nI 2 := by assumption
                       rw [if_neg hw2, if_neg hw2] at hL
                       have h := hE (what + nI 1) (by rw [if_neg hw2]; exact hL)
                       rw [if_neg hw2] at h
                       exact k _ ⟨κ, h⟩ (FZ_sI (FZ_sI FZ.rf (by omega)) (by omega)))
                    | contradiction
                · refine N_iconst d_Md_enter_128 0 rfl ?_
                  refine P_goto d_Md_enter_129 134 (by decide) ?_
                  refine H_iastN d_Md_enter_134 rfl rfl (by omega) (by decide) ?_
                  refine N_iconst d_Md_enter_135 1 rfl ?_
                  refine P_iret d_Md_enter_136 rfl ?_
                  first
                    | (have hw2 : what = nI 2 := by assumption
                       rw [if_pos hw2, if_pos hw2] at hL
                       have h := hE (nI 0) (by rw [if_pos hw2]; exact hL)
                       rw [if_pos hw2] at h
                       exact k _ ⟨κ, h⟩ (FZ_sI (FZ_sI FZ.rf (by omega)) (by omega)))
                    | (have hw2 : ¬ what = nI 2 := by assumption
                       rw [if_neg hw2, if_neg hw2] at hL
                       have h := hE (what + nI 1) (by rw [if_neg hw2]; exact hL)
                       rw [if_neg hw2] at h
                       exact k _ ⟨κ, h⟩ (FZ_sI (FZ_sI FZ.rf (by omega)) (by omega)))
                    | contradiction
            · refine g_iload d_Md_enter_75 rfl ?_
              refine P_iret d_Md_enter_77 rfl ?_
              have hnz : flL S (nI j) p i ≠ 0 := fun z => by
                have hb : ¬ 0 ≤ flL S (nI j) p i := by assumption
                rw [z] at hb; exact hb (by decide)
              have e : oEnt S P (nI j) p i what v = (S, flL S (nI j) p i) := by unfold oEnt; rw [if_neg hA, if_neg hBd, if_pos hnz]
              rw [e] at k
              exact k mI hR FZ.rf
          · refine g_iload d_Md_enter_43 rfl ?_
            refine P_i2l d_Md_enter_45 ?_
            refine P_ldc2 d_Md_enter_46 _ q_Md_321 ?_
            refine P_ldc2 d_Md_enter_49 _ q_Md_323 ?_
            refine C_S3 d_Md_enter_52 k_Md_111 (Nat.le_of_ble_eq_true rfl) (by decide) (Nat.le_of_ble_eq_true rfl) ?_
            refine (c_Md_inI (-9999) 9999 rfl rfl) ?_
            refine B_ne d_Md_enter_55 61 (by decide) (fun c21 => ?_) (fun c21 => ?_)
            · have hin : inN what 3 := by assumption
              have hBd : ¬ (¬ inN what 3 ∨ (what = nI 0 ∧ ¬ (-9999 ≤ v.toInt ∧ v.toInt ≤ 9999))) := fun z => z.elim (fun y => y hin) (fun y => by
                first
                  | exact absurd y.1 (by assumption)
                  | exact y.2 (by assumption))
              obtain ⟨j, hj, rfl⟩ := inN_of c1 (by decide)
              clear c1n
              refine g_aload_n d_Md_enter_61 rfl ?_
              refine g_iload_n d_Md_enter_62 rfl ?_
              refine g_iload_n d_Md_enter_63 rfl ?_
              refine g_iload_n d_Md_enter_64 rfl ?_
              refine C_V3 d_Md_enter_65 k_Md_325 rfl (Nat.le_of_ble_eq_true rfl) (by decide) (Nat.le_of_ble_eq_true rfl) ?_
              refine (c_Md_againstLine hR hj) ?_
              refine S_istore_8_6 d_Md_enter_68 rfl rfl ?_
              refine g_iload d_Md_enter_70 rfl ?_
              refine P_if_ge d_Md_enter_72 78 (by decide) (fun c22 => ?_) (fun c22 => ?_)
              · obtain ⟨hz, l, u, w, hs, hu, hl5, rfl, hn, hw, rfl, hpg, g1, g2, g3⟩ := flL_1 hK hj (i := i) (p := p) (by assumption)
                have h6 := g3.2.1
                have e : oEnt S P (nI j) (nI u) (nI w) what v = ((S.1, va_up S.2 (l.getD u 0) ((S.2 (l.getD u 0)).set w (enO what v))), 1) := by unfold oEnt; rw [if_neg hA, if_neg hBd, if_neg (fun z => z hz), hpg, tN_nI (by omega)]
                rw [e] at k
                have hE := fun c hc => RK_ent (c := c) (w := what) (v := v) hK hj hs hu hn hw hc
                have hL := lnM_en (v := v) hin
                refine N_bipush d_Md_enter_78 6 rfl ?_
                refine g_aload_n d_Md_enter_80 rfl ?_
                refine H_getR 168 d_Md_enter_81 f_Md_95.g rfl rfl (by decide) rfl ?_
                refine N_iconst d_Md_enter_84 5 rfl ?_
                refine g_iload_n d_Md_enter_85 rfl ?_
                refine N_imul d_Md_enter_86 ?_
                refine g_iload_n d_Md_enter_87 rfl ?_
                refine N_iadd d_Md_enter_88 ?_
                refine H_ialdN d_Md_enter_89 rfl rfl (by omega) (by decide) ?_
                refine T_int (nI (κ (l.getD u 0))) g2 ?_
                refine N_imul d_Md_enter_90 ?_
                refine g_iload_n d_Md_enter_91 rfl ?_
                refine N_iadd d_Md_enter_92 ?_
                refine S_istore_8_7 d_Md_enter_93 rfl rfl ?_
                refine g_aload_n d_Md_enter_95 rfl ?_
                refine H_getR 170 d_Md_enter_96 f_Md_101.g rfl rfl (by decide) rfl ?_
                refine g_iload d_Md_enter_99 rfl ?_
                refine g_iload d_Md_enter_101 rfl ?_
                refine N_iconst d_Md_enter_103 2 rfl ?_
                refine P_icmp_ne d_Md_enter_104 111 (by decide) (fun c23 => ?_) (fun c23 => ?_)
                · refine g_iload d_Md_enter_111 rfl ?_
                  refine N_iconst d_Md_enter_113 1 rfl ?_
                  refine P_iadd d_Md_enter_114 ?_
                  refine H_iastN d_Md_enter_115 rfl rfl (by omega) (by decide) ?_
                  refine g_aload_n d_Md_enter_116 rfl ?_
                  refine H_getR 171 d_Md_enter_117 f_Md_104.g rfl rfl (by decide) rfl ?_
                  refine g_iload d_Md_enter_120 rfl ?_
                  refine g_iload d_Md_enter_122 rfl ?_
                  refine N_iconst d_Md_enter_124 2 rfl ?_
                  refine P_icmp_ne d_Md_enter_125 132 (by decide) (fun c24 => ?_) (fun c24 => ?_)
                  · refine g_iload d_Md_enter_132 rfl ?_
                    refine H_iastN d_Md_enter_134 rfl rfl (by omega) (by decide) ?_
                    refine N_iconst d_Md_enter_135 1 rfl ?_
                    refine P_iret d_Md_enter_136 rfl ?_
                    first
                      | (have hw2 : what = nI 2 := by assumption
                         rw [if_pos hw2, if_pos hw2] at hL
                         have h := hE (nI 0) (by rw [if_pos hw2]; exact hL)
                         rw [if_pos hw2] at h
                         exact k _ ⟨κ, h⟩ (FZ_sI (FZ_sI FZ.rf (by omega)) (by omega)))
                      | (have hw2 : ¬ what = nI 2 := by assumption
                         rw [if_neg hw2, if_neg hw2] at hL
                         have h := hE (what + nI 1) (by rw [if_neg hw2]; exact hL)
                         rw [if_neg hw2] at h
                         exact k _ ⟨κ, h⟩ (FZ_sI (FZ_sI FZ.rf (by omega)) (by omega)))
                      | contradiction
                  · refine N_iconst d_Md_enter_128 0 rfl ?_
                    refine P_goto d_Md_enter_129 134 (by decide) ?_
                    refine H_iastN d_Md_enter_134 rfl rfl (by omega) (by decide) ?_
                    refine N_iconst d_Md_enter_135 1 rfl ?_
                    refine P_iret d_Md_enter_136 rfl ?_
                    first
                      | (have hw2 : what = nI 2 := by assumption
                         rw [if_pos hw2, if_pos hw2] at hL
                         have h := hE (nI 0) (by rw [if_pos hw2]; exact hL)
                         rw [if_pos hw2] at h
                         exact k _ ⟨κ, h⟩ (FZ_sI (FZ_sI FZ.rf (by omega)) (by omega)))
                      | (have hw2 : ¬ what = nI 2 := by assumption
                         rw [if_neg hw2, if_neg hw2] at hL
                         have h := hE (what + nI 1) (by rw [if_neg hw2]; exact hL)
                         rw [if_neg hw2] at h
                         exact k _ ⟨κ, h⟩ (FZ_sI (FZ_sI FZ.rf (by omega)) (by omega)))
                      | contradiction
                · refine N_iconst d_Md_enter_107 0 rfl ?_
                  refine P_goto d_Md_enter_108 115 (by decide) ?_
                  refine H_iastN d_Md_enter_115 rfl rfl (by omega) (by decide) ?_
                  refine g_aload_n d_Md_enter_116 rfl ?_
                  refine H_getR 171 d_Md_enter_117 f_Md_104.g rfl rfl (by decide) rfl ?_
                  refine g_iload d_Md_enter_120 rfl ?_
                  refine g_iload d_Md_enter_122 rfl ?_
                  refine N_iconst d_Md_enter_124 2 rfl ?_
                  refine P_icmp_ne d_Md_enter_125 132 (by decide) (fun c25 => ?_) (fun c25 => ?_)
                  · refine g_iload d_Md_enter_132 rfl ?_
                    refine H_iastN d_Md_enter_134 rfl rfl (by omega) (by decide) ?_
                    refine N_iconst d_Md_enter_135 1 rfl ?_
                    refine P_iret d_Md_enter_136 rfl ?_
                    first
                      | (have hw2 : what = nI 2 := by assumption
                         rw [if_pos hw2, if_pos hw2] at hL
                         have h := hE (nI 0) (by rw [if_pos hw2]; exact hL)
                         rw [if_pos hw2] at h
                         exact k _ ⟨κ, h⟩ (FZ_sI (FZ_sI FZ.rf (by omega)) (by omega)))
                      | (have hw2 : ¬ what = nI 2 := by assumption
                         rw [if_neg hw2, if_neg hw2] at hL
                         have h := hE (what + nI 1) (by rw [if_neg hw2]; exact hL)
                         rw [if_neg hw2] at h
                         exact k _ ⟨κ, h⟩ (FZ_sI (FZ_sI FZ.rf (by omega)) (by omega)))
                      | contradiction
                  · refine N_iconst d_Md_enter_128 0 rfl ?_
                    refine P_goto d_Md_enter_129 134 (by decide) ?_
                    refine H_iastN d_Md_enter_134 rfl rfl (by omega) (by decide) ?_
                    refine N_iconst d_Md_enter_135 1 rfl ?_
                    refine P_iret d_Md_enter_136 rfl ?_
                    first
                      | (have hw2 : what = nI 2 := by assumption
                         rw [if_pos hw2, if_pos hw2] at hL
                         have h := hE (nI 0) (by rw [if_pos hw2]; exact hL)
                         rw [if_pos hw2] at h
                         exact k _ ⟨κ, h⟩ (FZ_sI (FZ_sI FZ.rf (by omega)) (by omega)))
                      | (have hw2 : ¬ what = nI 2 := by assumption
                         rw [if_neg hw2, if_neg hw2] at hL
                         have h := hE (what + nI 1) (by rw [if_neg hw2]; exact hL)
                         rw [if_neg hw2] at h
                         exact k _ ⟨κ, h⟩ (FZ_sI (FZ_sI FZ.rf (by omega)) (by omega)))
                      | contradiction
              · refine g_iload d_Md_enter_75 rfl ?_
                refine P_iret d_Md_enter_77 rfl ?_
                have hnz : flL S (nI j) p i ≠ 0 := fun z => by
                  have hb : ¬ 0 ≤ flL S (nI j) p i := by assumption
                  rw [z] at hb; exact hb (by decide)
                have e : oEnt S P (nI j) p i what v = (S, flL S (nI j) p i) := by unfold oEnt; rw [if_neg hA, if_neg hBd, if_pos hnz]
                rw [e] at k
                exact k mI hR FZ.rf
            · refine P_bipush d_Md_enter_58 (-3) rfl ?_
              refine P_iret d_Md_enter_60 rfl ?_
              have hBd : ¬ inN what 3 ∨ (what = nI 0 ∧ ¬ (-9999 ≤ v.toInt ∧ v.toInt ≤ 9999)) := by
                first
                  | exact Or.inl (by assumption)
                  | exact Or.inr ⟨by assumption, by assumption⟩
              have e : oEnt S P g p i what v = (S, -3) := by unfold oEnt; rw [if_neg hA, if_pos hBd]
              rw [e] at k
              exact k mI hR FZ.rf
      · refine P_bipush d_Md_enter_22 (-2) rfl ?_
        refine P_iret d_Md_enter_24 rfl ?_
        have e : oEnt S P g p i what v = (S, -2) := by unfold oEnt; rw [if_pos (by first | exact Or.inl c1 | exact Or.inr ⟨by assumption, by assumption⟩)]
        rw [e] at k
        exact k mI hR FZ.rf

theorem rdV_M {o : Option (Nat × Int32)} {s v : Int32} (h : lnM o s v) {y : Nat} (hy : y < 2) : rdV o y = if s = nI 0 then -15 else if ¬ s = nI (y + 1) then -16 else if y = 0 then v + 50000 else v := by
  match o, h with
  | none, h =>
    have h : s = nI 0 := h
    rw [if_pos h]; rfl
  | some (c, w), h =>
    obtain ⟨h1, h2, h3⟩ := h
    subst h2
    rw [h1, if_neg (by rw [nI_eq (by omega) (by omega)]; omega)]
    show (if c ≠ y then -16 else if c = 0 then v + 50000 else v) = _
    by_cases z : c = y
    · subst z
      rw [if_neg (fun q : c ≠ c => q rfl), if_neg (fun q : ¬ nI (c + 1) = nI (c + 1) => q rfl)]
    · rw [if_pos z, if_pos (by rw [nI_eq (by omega) (by omega)]; omega)]
theorem c_Md_read {X : CX} {dl : List (Nat × Nat)} {mI : Nat → Nat → Int32} {dr : Nat → Nat → Nat} {Q : Option Value → AH → Prop} {S : RS} (hR : RM S mI) {g p i what : Int32} (k : Q (some (.int (oRea S g p i what))) (hp X dl mI dr)) : EW X m_Md_read 0 (enL m_Md_read.2.2.1 [.ref 139, .int g, .int p, .int i, .int what]) [] (hp X dl mI dr) Q := by
  show EW X m_Md_read 0 [.ref 139, .int g, .int p, .int i, .int what, jk, jk] [] (hp X dl mI dr) Q
  obtain ⟨κ, hK⟩ := id hR
  refine g_iload_n d_Md_read_0 rfl ?_
  refine C_S1 d_Md_read_1 k_Md_311 (Nat.le_of_ble_eq_true rfl) (by decide) (Nat.le_of_ble_eq_true rfl) ?_
  refine c_Md_isRegister ?_
  refine B_ne d_Md_read_4 10 (by decide) (fun c1 => ?_) (fun c1 => ?_)
  · refine g_iload d_Md_read_10 rfl ?_
    refine P_i2l d_Md_read_12 ?_
    refine P_lconst d_Md_read_13 0 rfl ?_
    refine P_lconst d_Md_read_14 1 rfl ?_
    refine C_S3 d_Md_read_15 k_Md_111 (Nat.le_of_ble_eq_true rfl) (by decide) (Nat.le_of_ble_eq_true rfl) ?_
    refine (c_Md_inN 2 rfl rfl) ?_
    refine B_ne d_Md_read_18 24 (by decide) (fun c2 => ?_) (fun c2 => ?_)
    · have c1n := c1
      have c2n := c2
      obtain ⟨j, hj, rfl⟩ := inN_of c1 (by decide)
      obtain ⟨y, hy, rfl⟩ := inN_of c2 (by decide)
      refine g_aload_n d_Md_read_24 rfl ?_
      refine g_iload_n d_Md_read_25 rfl ?_
      refine g_iload_n d_Md_read_26 rfl ?_
      refine g_iload_n d_Md_read_27 rfl ?_
      refine C_V3 d_Md_read_28 k_Md_325 rfl (Nat.le_of_ble_eq_true rfl) (by decide) (Nat.le_of_ble_eq_true rfl) ?_
      refine (c_Md_againstLine hR hj) ?_
      refine S_istore_7_5 d_Md_read_31 rfl rfl ?_
      refine g_iload d_Md_read_33 rfl ?_
      refine P_if_ge d_Md_read_35 41 (by decide) (fun c3 => ?_) (fun c3 => ?_)
      · obtain ⟨hz, l, u, w, hs, hu, hl5, rfl, hn, hw, rfl, hpg, g1, g2, g3⟩ := flL_1 hK hj (i := i) (p := p) (by assumption)
        have h6 := g3.2.1
        have hr := rdV_M (g3.2.2 w hw) hy
        have e : oRea S (nI j) (nI u) (nI w) (nI y) = rdV ((S.2 (l.getD u 0)).getD w none) y := by unfold oRea; rw [if_neg (fun z => z c1), if_neg (fun z => z c2), if_neg (fun z => z hz), hpg, tN_nI (by omega), tN_nI (by omega)]
        rw [e, hr] at k
        refine N_bipush d_Md_read_41 6 rfl ?_
        refine g_aload_n d_Md_read_43 rfl ?_
        refine H_getR 168 d_Md_read_44 f_Md_95.g rfl rfl (by decide) rfl ?_
        refine N_iconst d_Md_read_47 5 rfl ?_
        refine g_iload_n d_Md_read_48 rfl ?_
        refine N_imul d_Md_read_49 ?_
        refine g_iload_n d_Md_read_50 rfl ?_
        refine N_iadd d_Md_read_51 ?_
        refine H_ialdN d_Md_read_52 rfl rfl (by omega) (by decide) ?_
        refine T_int (nI (κ (l.getD u 0))) g2 ?_
        refine N_imul d_Md_read_53 ?_
        refine g_iload_n d_Md_read_54 rfl ?_
        refine N_iadd d_Md_read_55 ?_
        refine S_istore_7_6 d_Md_read_56 rfl rfl ?_
        refine g_aload_n d_Md_read_58 rfl ?_
        refine H_getR 170 d_Md_read_59 f_Md_101.g rfl rfl (by decide) rfl ?_
        refine g_iload d_Md_read_62 rfl ?_
        refine H_ialdN d_Md_read_64 rfl rfl (by omega) (by decide) ?_
        refine P_if_ne d_Md_read_65 71 (by decide) (fun c4 => ?_) (fun c4 => ?_)
        · have c4n : ¬ _ = nI 0 := c4
          rw [if_neg c4n] at k
          refine g_aload_n d_Md_read_71 rfl ?_
          refine H_getR 170 d_Md_read_72 f_Md_101.g rfl rfl (by decide) rfl ?_
          refine g_iload d_Md_read_75 rfl ?_
          refine H_ialdN d_Md_read_77 rfl rfl (by omega) (by decide) ?_
          refine g_iload d_Md_read_78 rfl ?_
          refine N_iconst d_Md_read_80 1 rfl ?_
          refine N_iadd d_Md_read_81 ?_
          refine P_icmp_eq d_Md_read_82 88 (by decide) (fun c5 => ?_) (fun c5 => ?_)
          · rw [if_neg (fun z => z c5)] at k
            refine g_iload d_Md_read_88 rfl ?_
            refine N_if_ne d_Md_read_90 107 (by decide) (by omega) (fun c6 => ?_) (fun c6 => ?_)
            · refine g_aload_n d_Md_read_107 rfl ?_
              refine H_getR 171 d_Md_read_108 f_Md_104.g rfl rfl (by decide) rfl ?_
              refine g_iload d_Md_read_111 rfl ?_
              refine H_ialdN d_Md_read_113 rfl rfl (by omega) (by decide) ?_
              refine P_iret d_Md_read_114 rfl ?_
              first
                | (have y0 : y ≠ 0 := by assumption
                   rw [if_neg y0] at k
                   exact k)
                | (have y0 : y = 0 := by assumption
                   rw [if_pos y0] at k
                   exact k)
            · refine g_aload_n d_Md_read_93 rfl ?_
              refine H_getR 171 d_Md_read_94 f_Md_104.g rfl rfl (by decide) rfl ?_
              refine g_iload d_Md_read_97 rfl ?_
              refine H_ialdN d_Md_read_99 rfl rfl (by omega) (by decide) ?_
              refine P_ldcw d_Md_read_100 _ q_Md_328 ?_
              refine P_iadd d_Md_read_103 ?_
              refine P_goto d_Md_read_104 114 (by decide) ?_
              refine P_iret d_Md_read_114 rfl ?_
              first
                | (have y0 : y ≠ 0 := by assumption
                   rw [if_neg y0] at k
                   exact k)
                | (have y0 : y = 0 := by assumption
                   rw [if_pos y0] at k
                   exact k)
          · refine P_bipush d_Md_read_85 (-16) rfl ?_
            refine P_iret d_Md_read_87 rfl ?_
            exact R_i k (if_pos c5)
        · refine P_bipush d_Md_read_68 (-15) rfl ?_
          refine P_iret d_Md_read_70 rfl ?_
          exact R_i k (if_pos c4)
      · refine g_iload d_Md_read_38 rfl ?_
        refine P_iret d_Md_read_40 rfl ?_
        have hnz : flL S (nI j) p i ≠ 0 := fun z => by
          rw [z] at c3; exact c3 (by decide)
        exact R_i k (by unfold oRea; rw [if_neg (fun z => z c1), if_neg (fun z => z c2), if_pos hnz])
    · refine P_bipush d_Md_read_21 (-3) rfl ?_
      refine P_iret d_Md_read_23 rfl ?_
      exact R_i k (by unfold oRea; rw [if_neg (fun z => z c1), if_pos c2])
  · refine P_bipush d_Md_read_7 (-2) rfl ?_
    refine P_iret d_Md_read_9 rfl ?_
    exact R_i k (by unfold oRea; rw [if_pos c1])

theorem bC_ne {κ : Nat → Nat} {S : RS} {mI : Nat → Nat → Int32} (h : RK κ S mI) {g p q : Nat} {l : List Nat} (hg : g < 3) (hs : S.1 g = some l) (hp1 : p < l.length) (hq : q < l.length) (hz : l.getD p 0 ≠ 0) : (mI 168 (5 * g + q) = hrI (bC κ (l.getD p 0)) ↔ l.getD q 0 = l.getD p 0) := by
  have h1 := h.b hg hs hp1
  have h2 := h.b hg hs hq
  rw [h2.1]
  constructor
  · intro z
    unfold bC at z h1 h2
    rw [if_neg hz] at z h1
    by_cases y : l.getD q 0 = 0
    · rw [if_pos y] at z
      exact absurd (show nI (κ (l.getD p 0)) = -1 from z.symm) (nI_nm1 (by omega))
    · rw [if_neg y] at z h2
      have z2 : nI (κ (l.getD q 0)) = nI (κ (l.getD p 0)) := z
      rw [nI_eq (by omega) (by omega)] at z2
      exact h.2 _ _ ⟨y, g, l, q, hg, hs, hq, rfl⟩ ⟨hz, g, l, p, hg, hs, hp1, rfl⟩ z2
  · intro z; rw [z]
theorem fs_s {l : List Nat} {p q : Nat} : ((∀ r, r < q + 1 → l.getD r 0 ≠ l.getD p 0) ∧ l.getD p 0 ≠ 0) ↔ (((∀ r, r < q → l.getD r 0 ≠ l.getD p 0) ∧ l.getD p 0 ≠ 0) ∧ l.getD q 0 ≠ l.getD p 0) := by
  refine ⟨fun h => ⟨⟨fun r hr => h.1 r (by omega), h.2⟩, h.1 q (by omega)⟩, fun h => ⟨fun r hr => ?_, h.1.2⟩⟩
  by_cases z : r = q
  · rw [z]; exact h.2
  · exact h.1.1 r (by omega)
theorem lnM_0 {o : Option (Nat × Int32)} {s v : Int32} (h : lnM o s v) : s = nI 0 ↔ o = none := by
  match o, h with
  | none, h => exact ⟨fun _ => rfl, fun _ => h⟩
  | some (c, w), h =>
    have h1 : s = nI (c + 1) := h.1
    have h2 : c ≤ 1 := h.2.2
    exact ⟨fun z => by rw [h1, nI_eq (by omega) (by omega)] at z; omega, fun z => nomatch z⟩
theorem fiC_le (C : Nat → PL) (l : List Nat) (h : ∀ p, p < l.length → l.getD p 0 ≠ 0 → (C (l.getD p 0)).length ≤ 6) : ∀ p, p ≤ l.length → fiC C l p ≤ 6 * p
  | 0, _ => Nat.le_refl _
  | p + 1, hp1 => by
    have := fiC_le C l h p (by omega)
    rw [fiC]
    split
    · have h2 := flC_le (C (l.getD p 0)) (C (l.getD p 0)).length
      have := h p (by omega) (by rename_i z; exact z.2)
      omega
    · omega
theorem lp_Md_pages1 {X : CX} {dl : List (Nat × Nat)} {mI : Nat → Nat → Int32} {dr : Nat → Nat → Nat} {Q : Option Value → AH → Prop} {κ : Nat → Nat} {S : RS} (hK : RK κ S mI) {g p a b c : Nat} {l : List Nat} {wh : Int32} (hg : g < 3) (hs : S.1 g = some l) (hp1 : p < l.length) (k : ∀ x v9, ((x = 1 ∧ ((∀ r, r < p → l.getD r 0 ≠ l.getD p 0) ∧ l.getD p 0 ≠ 0)) ∨ (x = 0 ∧ ¬ ((∀ r, r < p → l.getD r 0 ≠ l.getD p 0) ∧ l.getD p 0 ≠ 0))) → EW X m_Md_pages 128 [.ref 139, .int (nI g), .int wh, .int (nI a), .int (nI b), .int (nI c), .int (nI p), .int (hrI (bC κ (l.getD p 0))), .int (nI x), v9] [] (hp X dl mI dr) Q) : ∀ (d : Nat) (q : Nat) (x : Nat), (q ≤ p) → ((x = 1 ∧ ((∀ r, r < q → l.getD r 0 ≠ l.getD p 0) ∧ l.getD p 0 ≠ 0)) ∨ (x = 0 ∧ ¬ ((∀ r, r < q → l.getD r 0 ≠ l.getD p 0) ∧ l.getD p 0 ≠ 0))) → p - q = d → EW X m_Md_pages 87 [.ref 139, .int (nI g), .int wh, .int (nI a), .int (nI b), .int (nI c), .int (nI p), .int (hrI (bC κ (l.getD p 0))), .int (nI x), .int (nI q)] [] (hp X dl mI dr) Q := by
  intro d
  induction d using Nat.strongRecOn with
  | _ d ih =>
    intro q x hq hx hd
    have hx1 : x ≤ 1 := by rcases hx with h | h <;> omega
    have hB : x ≠ 0 → ((∀ r, r < q → l.getD r 0 ≠ l.getD p 0) ∧ l.getD p 0 ≠ 0) := fun z => (hx.resolve_right (fun y => z y.1)).2
    have hN : x = 0 → ¬ ((∀ r, r < q → l.getD r 0 ≠ l.getD p 0) ∧ l.getD p 0 ≠ 0) := fun z => (hx.resolve_left (fun y => by have := y.1; omega)).2
    have hl5 := ((hK.1 g hg).2 l hs).2.1
    refine g_iload d_Md_pages_87 rfl ?_
    refine g_iload d_Md_pages_89 rfl ?_
    refine N_icmp_ge d_Md_pages_91 128 (by decide) ⟨by omega, by omega⟩ (fun c1 => ?_) (fun c1 => ?_)
    · have e1 : q = p := by omega
      subst e1
      exact k x _ hx
    · refine g_iload d_Md_pages_94 rfl ?_
      refine N_if_eq d_Md_pages_96 119 (by decide) (by omega) (fun c2 => ?_) (fun c2 => ?_)
      · refine N_iconst d_Md_pages_119 0 rfl ?_
        refine S_istore_10_8 d_Md_pages_120 rfl rfl ?_
        refine N_iinc_10_9_1 d_Md_pages_122 rfl rfl ?_
        refine P_goto d_Md_pages_125 87 (by decide) ?_
        refine ih (p - (q + 1)) (by omega) (q + 1) _ (by omega) ?_ rfl
        first
          | exact Or.inl ⟨rfl, fs_s.mpr ⟨hB (by assumption), fun z => absurd ((bC_ne hK hg hs hp1 (by omega) (hB (by assumption)).2).mpr z) (by assumption)⟩⟩
          | exact Or.inr ⟨rfl, fun z => hN (by assumption) (fs_s.mp z).1⟩
          | exact Or.inr ⟨rfl, fun z => (fs_s.mp z).2 ((bC_ne hK hg hs hp1 (by omega) (hB (by assumption)).2).mp (by assumption))⟩
      · refine g_aload_n d_Md_pages_99 rfl ?_
        refine H_getR 168 d_Md_pages_100 f_Md_95.g rfl rfl (by decide) rfl ?_
        refine N_iconst d_Md_pages_103 5 rfl ?_
        refine g_iload_n d_Md_pages_104 rfl ?_
        refine N_imul d_Md_pages_105 ?_
        refine g_iload d_Md_pages_106 rfl ?_
        refine N_iadd d_Md_pages_108 ?_
        refine H_ialdN d_Md_pages_109 rfl rfl (by omega) (by decide) ?_
        refine g_iload d_Md_pages_110 rfl ?_
        refine P_icmp_eq d_Md_pages_112 119 (by decide) (fun c3 => ?_) (fun c3 => ?_)
        · refine N_iconst d_Md_pages_119 0 rfl ?_
          refine S_istore_10_8 d_Md_pages_120 rfl rfl ?_
          refine N_iinc_10_9_1 d_Md_pages_122 rfl rfl ?_
          refine P_goto d_Md_pages_125 87 (by decide) ?_
          refine ih (p - (q + 1)) (by omega) (q + 1) _ (by omega) ?_ rfl
          first
            | exact Or.inl ⟨rfl, fs_s.mpr ⟨hB (by assumption), fun z => absurd ((bC_ne hK hg hs hp1 (by omega) (hB (by assumption)).2).mpr z) (by assumption)⟩⟩
            | exact Or.inr ⟨rfl, fun z => hN (by assumption) (fs_s.mp z).1⟩
            | exact Or.inr ⟨rfl, fun z => (fs_s.mp z).2 ((bC_ne hK hg hs hp1 (by omega) (hB (by assumption)).2).mp (by assumption))⟩
        · refine N_iconst d_Md_pages_115 1 rfl ?_
          refine P_goto d_Md_pages_116 120 (by decide) ?_
          refine S_istore_10_8 d_Md_pages_120 rfl rfl ?_
          refine N_iinc_10_9_1 d_Md_pages_122 rfl rfl ?_
          refine P_goto d_Md_pages_125 87 (by decide) ?_
          refine ih (p - (q + 1)) (by omega) (q + 1) _ (by omega) ?_ rfl
          first
            | exact Or.inl ⟨rfl, fs_s.mpr ⟨hB (by assumption), fun z => absurd ((bC_ne hK hg hs hp1 (by omega) (hB (by assumption)).2).mpr z) (by assumption)⟩⟩
            | exact Or.inr ⟨rfl, fun z => hN (by assumption) (fs_s.mp z).1⟩
            | exact Or.inr ⟨rfl, fun z => (fs_s.mp z).2 ((bC_ne hK hg hs hp1 (by omega) (hB (by assumption)).2).mp (by assumption))⟩

theorem lp_Md_pages2 {X : CX} {dl : List (Nat × Nat)} {mI : Nat → Nat → Int32} {dr : Nat → Nat → Nat} {Q : Option Value → AH → Prop} {κ : Nat → Nat} {S : RS} (hK : RK κ S mI) {g p a b c0 : Nat} {l : List Nat} {wh : Int32} (hg : g < 3) (hs : S.1 g = some l) (hp1 : p < l.length) {x : Nat} (hx : x = 1) (hz : l.getD p 0 ≠ 0) (k : ∀ v9, EW X m_Md_pages 208 [.ref 139, .int (nI g), .int wh, .int (nI a), .int (nI b), .int (nI (c0 + flC (S.2 (l.getD p 0)) (S.2 (l.getD p 0)).length)), .int (nI p), .int (hrI (bC κ (l.getD p 0))), .int (nI x), v9] [] (hp X dl mI dr) Q) : ∀ (d : Nat) (i : Nat) (c : Nat), (i ≤ (S.2 (l.getD p 0)).length) → (c = c0 + flC (S.2 (l.getD p 0)) i) → (S.2 (l.getD p 0)).length - i = d → EW X m_Md_pages 159 [.ref 139, .int (nI g), .int wh, .int (nI a), .int (nI b), .int (nI c), .int (nI p), .int (hrI (bC κ (l.getD p 0))), .int (nI x), .int (nI i)] [] (hp X dl mI dr) Q := by
  intro d
  induction d using Nat.strongRecOn with
  | _ d ih =>
    intro i c hi hc hd
    obtain ⟨g1, g2, g3⟩ := (((hK.1 g hg).2 l hs).2.2 p hp1).2 hz
    have h6 := g3.2.1
    have hl5 := ((hK.1 g hg).2 l hs).2.1
    have eb : hrI (bC κ (l.getD p 0)) = nI (κ (l.getD p 0)) := by unfold bC; rw [if_neg hz]; rfl
    refine g_iload d_Md_pages_159 rfl ?_
    refine N_if_eq d_Md_pages_161 208 (by decide) (by omega) (fun c1 => ?_) (fun c1 => ?_)
    · omega
    · refine g_iload d_Md_pages_164 rfl ?_
      refine g_aload_n d_Md_pages_166 rfl ?_
      refine H_getR 169 d_Md_pages_167 f_Md_98.g rfl rfl (by decide) rfl ?_
      refine g_iload d_Md_pages_170 rfl ?_
      refine T_int (nI (κ (l.getD p 0))) eb ?_
      refine H_ialdN d_Md_pages_172 rfl rfl (by omega) (by decide) ?_
      refine T_int (nI ((S.2 (l.getD p 0)).length)) g3.1 ?_
      refine N_icmp_ge d_Md_pages_173 208 (by decide) ⟨by omega, by omega⟩ (fun c2 => ?_) (fun c2 => ?_)
      · have e1 : i = (S.2 (l.getD p 0)).length := by omega
        subst e1
        rw [hc]
        exact k _
      · refine g_iload d_Md_pages_176 rfl ?_
        refine g_aload_n d_Md_pages_178 rfl ?_
        refine H_getR 170 d_Md_pages_179 f_Md_101.g rfl rfl (by decide) rfl ?_
        refine N_bipush d_Md_pages_182 6 rfl ?_
        refine g_iload d_Md_pages_184 rfl ?_
        refine T_int (nI (κ (l.getD p 0))) eb ?_
        refine N_imul d_Md_pages_186 ?_
        refine g_iload d_Md_pages_187 rfl ?_
        refine N_iadd d_Md_pages_189 ?_
        refine H_ialdN d_Md_pages_190 rfl rfl (by omega) (by decide) ?_
        refine P_if_ne d_Md_pages_191 198 (by decide) (fun c3 => ?_) (fun c3 => ?_)
        · refine N_iconst d_Md_pages_198 1 rfl ?_
          refine N_iadd d_Md_pages_199 ?_
          refine S_istore_10_5 d_Md_pages_200 rfl rfl ?_
          refine N_iinc_10_9_1 d_Md_pages_202 rfl rfl ?_
          refine P_goto d_Md_pages_205 159 (by decide) ?_
          refine ih ((S.2 (l.getD p 0)).length - (i + 1)) (by omega) (i + 1) _ (by omega) ?_ rfl
          rw [flC]
          have hl0 := lnM_0 (g3.2.2 i (by omega))
          first
            | (rw [if_pos (hl0.mp (by assumption))]; omega)
            | (rw [if_neg (fun z => absurd (hl0.mpr z) (by assumption))]; omega)
        · refine N_iconst d_Md_pages_194 0 rfl ?_
          refine P_goto d_Md_pages_195 199 (by decide) ?_
          refine N_iadd d_Md_pages_199 ?_
          refine S_istore_10_5 d_Md_pages_200 rfl rfl ?_
          refine N_iinc_10_9_1 d_Md_pages_202 rfl rfl ?_
          refine P_goto d_Md_pages_205 159 (by decide) ?_
          refine ih ((S.2 (l.getD p 0)).length - (i + 1)) (by omega) (i + 1) _ (by omega) ?_ rfl
          rw [flC]
          have hl0 := lnM_0 (g3.2.2 i (by omega))
          first
            | (rw [if_pos (hl0.mp (by assumption))]; omega)
            | (rw [if_neg (fun z => absurd (hl0.mpr z) (by assumption))]; omega)

theorem lp_Md_pages {X : CX} {dl : List (Nat × Nat)} {mI : Nat → Nat → Int32} {dr : Nat → Nat → Nat} {Q : Option Value → AH → Prop} {κ : Nat → Nat} {S : RS} (hK : RK κ S mI) {g : Nat} {l : List Nat} {wh : Int32} (hg : g < 3) (hs : S.1 g = some l) (k : Q (some (.int (if wh = nI 0 then nI l.length else if wh = nI 1 then nI (thC l l.length) else if wh = nI 2 then nI (unC l l.length) else nI (fiC S.2 l l.length)))) (hp X dl mI dr)) : ∀ (d : Nat) (p : Nat) (v7 : Value) (v8 : Value) (v9 : Value), (p ≤ l.length) → l.length - p = d → EW X m_Md_pages 48 [.ref 139, .int (nI g), .int wh, .int (nI (thC l p)), .int (nI (unC l p)), .int (nI (fiC S.2 l p)), .int (nI p), v7, v8, v9] [] (hp X dl mI dr) Q := by
  intro d
  induction d using Nat.strongRecOn with
  | _ d ih =>
    intro p v7 v8 v9 hp1 hd
    have hl5 := ((hK.1 g hg).2 l hs).2.1
    have ht := thC_le l p
    have hun := unC_le l p
    have hfi := fiC_le S.2 l (fun q hq hz => ((((hK.1 g hg).2 l hs).2.2 q hq).2 hz).2.2.2.1) p hp1
    refine g_iload d_Md_pages_48 rfl ?_
    refine g_aload_n d_Md_pages_50 rfl ?_
    refine H_getR 167 d_Md_pages_51 f_Md_92.g rfl rfl (by decide) rfl ?_
    refine g_iload_n d_Md_pages_54 rfl ?_
    refine H_ialdN d_Md_pages_55 rfl rfl (by omega) (by decide) ?_
    refine T_int (nI (l.length)) ((hK.1 g hg).2 l hs).1 ?_
    refine N_icmp_ge d_Md_pages_56 214 (by decide) ⟨by omega, by omega⟩ (fun c1 => ?_) (fun c1 => ?_)
    · have e : p = l.length := by omega
      subst e
      refine g_iload_n d_Md_pages_214 rfl ?_
      refine P_if_ne d_Md_pages_215 227 (by decide) (fun c2 => ?_) (fun c2 => ?_)
      · refine g_iload_n d_Md_pages_227 rfl ?_
        refine N_iconst d_Md_pages_228 1 rfl ?_
        refine P_icmp_ne d_Md_pages_229 236 (by decide) (fun c3 => ?_) (fun c3 => ?_)
        · refine g_iload_n d_Md_pages_236 rfl ?_
          refine N_iconst d_Md_pages_237 2 rfl ?_
          refine P_icmp_ne d_Md_pages_238 246 (by decide) (fun c4 => ?_) (fun c4 => ?_)
          · refine g_iload d_Md_pages_246 rfl ?_
            refine P_iret d_Md_pages_248 rfl ?_
            first
              | exact R_i k (if_pos (by assumption))
              | exact R_i k ((if_neg (by assumption)).trans (if_pos (by assumption)))
              | exact R_i k ((if_neg (by assumption)).trans ((if_neg (by assumption)).trans (if_pos (by assumption))))
              | exact R_i k ((if_neg (by assumption)).trans ((if_neg (by assumption)).trans (if_neg (by assumption))))
          · refine g_iload d_Md_pages_241 rfl ?_
            refine P_goto d_Md_pages_243 248 (by decide) ?_
            refine P_iret d_Md_pages_248 rfl ?_
            first
              | exact R_i k (if_pos (by assumption))
              | exact R_i k ((if_neg (by assumption)).trans (if_pos (by assumption)))
              | exact R_i k ((if_neg (by assumption)).trans ((if_neg (by assumption)).trans (if_pos (by assumption))))
              | exact R_i k ((if_neg (by assumption)).trans ((if_neg (by assumption)).trans (if_neg (by assumption))))
        · refine g_iload_n d_Md_pages_232 rfl ?_
          refine P_goto d_Md_pages_233 248 (by decide) ?_
          refine P_iret d_Md_pages_248 rfl ?_
          first
            | exact R_i k (if_pos (by assumption))
            | exact R_i k ((if_neg (by assumption)).trans (if_pos (by assumption)))
            | exact R_i k ((if_neg (by assumption)).trans ((if_neg (by assumption)).trans (if_pos (by assumption))))
            | exact R_i k ((if_neg (by assumption)).trans ((if_neg (by assumption)).trans (if_neg (by assumption))))
      · refine g_aload_n d_Md_pages_218 rfl ?_
        refine H_getR 167 d_Md_pages_219 f_Md_92.g rfl rfl (by decide) rfl ?_
        refine g_iload_n d_Md_pages_222 rfl ?_
        refine H_ialdN d_Md_pages_223 rfl rfl (by omega) (by decide) ?_
        refine T_int (nI (l.length)) ((hK.1 g hg).2 l hs).1 ?_
        refine P_goto d_Md_pages_224 248 (by decide) ?_
        refine P_iret d_Md_pages_248 rfl ?_
        first
          | exact R_i k (if_pos (by assumption))
          | exact R_i k ((if_neg (by assumption)).trans (if_pos (by assumption)))
          | exact R_i k ((if_neg (by assumption)).trans ((if_neg (by assumption)).trans (if_pos (by assumption))))
          | exact R_i k ((if_neg (by assumption)).trans ((if_neg (by assumption)).trans (if_neg (by assumption))))
    · have hb := (hK.b hg hs (p := p) (by omega)).2
      refine g_aload_n d_Md_pages_59 rfl ?_
      refine H_getR 168 d_Md_pages_60 f_Md_95.g rfl rfl (by decide) rfl ?_
      refine N_iconst d_Md_pages_63 5 rfl ?_
      refine g_iload_n d_Md_pages_64 rfl ?_
      refine N_imul d_Md_pages_65 ?_
      refine g_iload d_Md_pages_66 rfl ?_
      refine N_iadd d_Md_pages_68 ?_
      refine H_ialdN d_Md_pages_69 rfl rfl (by omega) (by decide) ?_
      refine T_int (hrI (bC κ (l.getD p 0))) (hK.b hg hs (by omega)).1 ?_
      refine S_istore_10_7 d_Md_pages_70 rfl rfl ?_
      refine g_iload d_Md_pages_72 rfl ?_
      refine P_if_lt d_Md_pages_74 81 (by decide) (fun c5 => ?_) (fun c5 => ?_)
      · refine N_iconst d_Md_pages_81 0 rfl ?_
        refine S_istore_10_8 d_Md_pages_82 rfl rfl ?_
        refine N_iconst d_Md_pages_84 0 rfl ?_
        refine S_istore_10_9 d_Md_pages_85 rfl rfl ?_
        refine lp_Md_pages1 hK hg hs (by omega) (fun x w9 hx => ?_) _ 0 _ (Nat.zero_le _) ?_ rfl
        · have hx1 : x ≤ 1 := by rcases hx with h | h <;> omega
          have hpp : p < l.length := by omega
          have eT : (if l.getD p 0 = 0 then 0 else 1) = if bC κ (l.getD p 0) = 0 then 0 else 1 := by
            by_cases z : l.getD p 0 = 0
            · rw [if_pos z, if_pos (bC_0.mpr z)]
            · rw [if_neg z, if_neg (fun y => z (bC_0.mp y))]
          refine g_iload_n d_Md_pages_128 rfl ?_
          refine g_iload d_Md_pages_129 rfl ?_
          refine P_if_ge d_Md_pages_131 138 (by decide) (fun dd1 => ?_) (fun dd1 => ?_)
          · have y0 : bC κ (l.getD p 0) ≠ 0 := (hrI_ge (by omega)).mp dd1
            refine N_iconst d_Md_pages_138 1 rfl ?_
            refine N_iadd d_Md_pages_139 ?_
            refine S_istore_n_10_3 d_Md_pages_140 rfl rfl ?_
            refine g_iload d_Md_pages_141 rfl ?_
            refine g_iload d_Md_pages_143 rfl ?_
            refine N_if_eq d_Md_pages_145 152 (by decide) (by omega) (fun tt1 => ?_) (fun tt1 => ?_)
            · refine N_iconst d_Md_pages_152 0 rfl ?_
              refine N_iadd d_Md_pages_153 ?_
              refine S_istore_10_4 d_Md_pages_154 rfl rfl ?_
              refine N_iconst d_Md_pages_156 0 rfl ?_
              refine S_istore_10_9 d_Md_pages_157 rfl rfl ?_
              rcases hx with ⟨rfl, hf⟩ | ⟨rfl, hf⟩
              · refine lp_Md_pages2 (x := 1) hK hg hs hpp rfl hf.2 (fun w9 => ?_) _ 0 _ (Nat.zero_le _) rfl rfl
                refine N_iinc_10_6_1 d_Md_pages_208 rfl rfl ?_
                refine P_goto d_Md_pages_211 48 (by decide) ?_
                have h := ih (l.length - (p + 1)) (by omega) (p + 1)
                rw [thC, unC, fiC, eT] at h
                rw [if_pos hf, if_pos hf] at h
                first
                  | (rw [if_pos y0] at h; first | exact h _ _ _ (by omega) rfl | omega)
                  | (rw [if_neg y0] at h; first | exact h _ _ _ (by omega) rfl | omega)
              · refine g_iload d_Md_pages_159 rfl ?_
                refine N_if_eq d_Md_pages_161 208 (by decide) (by omega) (fun _ => ?_) (fun z => absurd rfl z)
                refine N_iinc_10_6_1 d_Md_pages_208 rfl rfl ?_
                refine P_goto d_Md_pages_211 48 (by decide) ?_
                have h := ih (l.length - (p + 1)) (by omega) (p + 1)
                rw [thC, unC, fiC, eT] at h
                rw [if_neg hf, if_neg hf] at h
                first
                  | (rw [if_pos y0] at h; first | exact h _ _ _ (by omega) rfl | omega)
                  | (rw [if_neg y0] at h; first | exact h _ _ _ (by omega) rfl | omega)
            · refine N_iconst d_Md_pages_148 1 rfl ?_
              refine P_goto d_Md_pages_149 153 (by decide) ?_
              refine N_iadd d_Md_pages_153 ?_
              refine S_istore_10_4 d_Md_pages_154 rfl rfl ?_
              refine N_iconst d_Md_pages_156 0 rfl ?_
              refine S_istore_10_9 d_Md_pages_157 rfl rfl ?_
              rcases hx with ⟨rfl, hf⟩ | ⟨rfl, hf⟩
              · refine lp_Md_pages2 (x := 1) hK hg hs hpp rfl hf.2 (fun w9 => ?_) _ 0 _ (Nat.zero_le _) rfl rfl
                refine N_iinc_10_6_1 d_Md_pages_208 rfl rfl ?_
                refine P_goto d_Md_pages_211 48 (by decide) ?_
                have h := ih (l.length - (p + 1)) (by omega) (p + 1)
                rw [thC, unC, fiC, eT] at h
                rw [if_pos hf, if_pos hf] at h
                first
                  | (rw [if_pos y0] at h; first | exact h _ _ _ (by omega) rfl | omega)
                  | (rw [if_neg y0] at h; first | exact h _ _ _ (by omega) rfl | omega)
              · refine g_iload d_Md_pages_159 rfl ?_
                refine N_if_eq d_Md_pages_161 208 (by decide) (by omega) (fun _ => ?_) (fun z => absurd rfl z)
                refine N_iinc_10_6_1 d_Md_pages_208 rfl rfl ?_
                refine P_goto d_Md_pages_211 48 (by decide) ?_
                have h := ih (l.length - (p + 1)) (by omega) (p + 1)
                rw [thC, unC, fiC, eT] at h
                rw [if_neg hf, if_neg hf] at h
                first
                  | (rw [if_pos y0] at h; first | exact h _ _ _ (by omega) rfl | omega)
                  | (rw [if_neg y0] at h; first | exact h _ _ _ (by omega) rfl | omega)
          · have y0 : bC κ (l.getD p 0) = 0 := Classical.byContradiction (fun z => dd1 ((hrI_ge (by omega)).mpr z))
            refine N_iconst d_Md_pages_134 0 rfl ?_
            refine P_goto d_Md_pages_135 139 (by decide) ?_
            refine N_iadd d_Md_pages_139 ?_
            refine S_istore_n_10_3 d_Md_pages_140 rfl rfl ?_
            refine g_iload d_Md_pages_141 rfl ?_
            refine g_iload d_Md_pages_143 rfl ?_
            refine N_if_eq d_Md_pages_145 152 (by decide) (by omega) (fun ff1 => ?_) (fun ff1 => ?_)
            · refine N_iconst d_Md_pages_152 0 rfl ?_
              refine N_iadd d_Md_pages_153 ?_
              refine S_istore_10_4 d_Md_pages_154 rfl rfl ?_
              refine N_iconst d_Md_pages_156 0 rfl ?_
              refine S_istore_10_9 d_Md_pages_157 rfl rfl ?_
              rcases hx with ⟨rfl, hf⟩ | ⟨rfl, hf⟩
              · refine lp_Md_pages2 (x := 1) hK hg hs hpp rfl hf.2 (fun w9 => ?_) _ 0 _ (Nat.zero_le _) rfl rfl
                refine N_iinc_10_6_1 d_Md_pages_208 rfl rfl ?_
                refine P_goto d_Md_pages_211 48 (by decide) ?_
                have h := ih (l.length - (p + 1)) (by omega) (p + 1)
                rw [thC, unC, fiC, eT] at h
                rw [if_pos hf, if_pos hf] at h
                first
                  | (rw [if_pos y0] at h; first | exact h _ _ _ (by omega) rfl | omega)
                  | (rw [if_neg y0] at h; first | exact h _ _ _ (by omega) rfl | omega)
              · refine g_iload d_Md_pages_159 rfl ?_
                refine N_if_eq d_Md_pages_161 208 (by decide) (by omega) (fun _ => ?_) (fun z => absurd rfl z)
                refine N_iinc_10_6_1 d_Md_pages_208 rfl rfl ?_
                refine P_goto d_Md_pages_211 48 (by decide) ?_
                have h := ih (l.length - (p + 1)) (by omega) (p + 1)
                rw [thC, unC, fiC, eT] at h
                rw [if_neg hf, if_neg hf] at h
                first
                  | (rw [if_pos y0] at h; first | exact h _ _ _ (by omega) rfl | omega)
                  | (rw [if_neg y0] at h; first | exact h _ _ _ (by omega) rfl | omega)
            · refine N_iconst d_Md_pages_148 1 rfl ?_
              refine P_goto d_Md_pages_149 153 (by decide) ?_
              refine N_iadd d_Md_pages_153 ?_
              refine S_istore_10_4 d_Md_pages_154 rfl rfl ?_
              refine N_iconst d_Md_pages_156 0 rfl ?_
              refine S_istore_10_9 d_Md_pages_157 rfl rfl ?_
              rcases hx with ⟨rfl, hf⟩ | ⟨rfl, hf⟩
              · refine lp_Md_pages2 (x := 1) hK hg hs hpp rfl hf.2 (fun w9 => ?_) _ 0 _ (Nat.zero_le _) rfl rfl
                refine N_iinc_10_6_1 d_Md_pages_208 rfl rfl ?_
                refine P_goto d_Md_pages_211 48 (by decide) ?_
                have h := ih (l.length - (p + 1)) (by omega) (p + 1)
                rw [thC, unC, fiC, eT] at h
                rw [if_pos hf, if_pos hf] at h
                first
                  | (rw [if_pos y0] at h; first | exact h _ _ _ (by omega) rfl | omega)
                  | (rw [if_neg y0] at h; first | exact h _ _ _ (by omega) rfl | omega)
              · refine g_iload d_Md_pages_159 rfl ?_
                refine N_if_eq d_Md_pages_161 208 (by decide) (by omega) (fun _ => ?_) (fun z => absurd rfl z)
                refine N_iinc_10_6_1 d_Md_pages_208 rfl rfl ?_
                refine P_goto d_Md_pages_211 48 (by decide) ?_
                have h := ih (l.length - (p + 1)) (by omega) (p + 1)
                rw [thC, unC, fiC, eT] at h
                rw [if_neg hf, if_neg hf] at h
                first
                  | (rw [if_pos y0] at h; first | exact h _ _ _ (by omega) rfl | omega)
                  | (rw [if_neg y0] at h; first | exact h _ _ _ (by omega) rfl | omega)
        · first
            | exact Or.inl ⟨rfl, fun r hr => absurd hr (Nat.not_lt_zero _), fun z => absurd ((hrI_neg (c := bC κ (l.getD p 0)) (by omega)).mpr (bC_0.mpr z)) (by assumption)⟩
            | exact Or.inr ⟨rfl, fun z => z.2 (bC_0.mp ((hrI_neg (c := bC κ (l.getD p 0)) (by omega)).mp (by assumption)))⟩
      · refine N_iconst d_Md_pages_77 1 rfl ?_
        refine P_goto d_Md_pages_78 82 (by decide) ?_
        refine S_istore_10_8 d_Md_pages_82 rfl rfl ?_
        refine N_iconst d_Md_pages_84 0 rfl ?_
        refine S_istore_10_9 d_Md_pages_85 rfl rfl ?_
        refine lp_Md_pages1 hK hg hs (by omega) (fun x w9 hx => ?_) _ 0 _ (Nat.zero_le _) ?_ rfl
        · have hx1 : x ≤ 1 := by rcases hx with h | h <;> omega
          have hpp : p < l.length := by omega
          have eT : (if l.getD p 0 = 0 then 0 else 1) = if bC κ (l.getD p 0) = 0 then 0 else 1 := by
            by_cases z : l.getD p 0 = 0
            · rw [if_pos z, if_pos (bC_0.mpr z)]
            · rw [if_neg z, if_neg (fun y => z (bC_0.mp y))]
          refine g_iload_n d_Md_pages_128 rfl ?_
          refine g_iload d_Md_pages_129 rfl ?_
          refine P_if_ge d_Md_pages_131 138 (by decide) (fun dd1 => ?_) (fun dd1 => ?_)
          · have y0 : bC κ (l.getD p 0) ≠ 0 := (hrI_ge (by omega)).mp dd1
            refine N_iconst d_Md_pages_138 1 rfl ?_
            refine N_iadd d_Md_pages_139 ?_
            refine S_istore_n_10_3 d_Md_pages_140 rfl rfl ?_
            refine g_iload d_Md_pages_141 rfl ?_
            refine g_iload d_Md_pages_143 rfl ?_
            refine N_if_eq d_Md_pages_145 152 (by decide) (by omega) (fun tt1 => ?_) (fun tt1 => ?_)
            · refine N_iconst d_Md_pages_152 0 rfl ?_
              refine N_iadd d_Md_pages_153 ?_
              refine S_istore_10_4 d_Md_pages_154 rfl rfl ?_
              refine N_iconst d_Md_pages_156 0 rfl ?_
              refine S_istore_10_9 d_Md_pages_157 rfl rfl ?_
              rcases hx with ⟨rfl, hf⟩ | ⟨rfl, hf⟩
              · refine lp_Md_pages2 (x := 1) hK hg hs hpp rfl hf.2 (fun w9 => ?_) _ 0 _ (Nat.zero_le _) rfl rfl
                refine N_iinc_10_6_1 d_Md_pages_208 rfl rfl ?_
                refine P_goto d_Md_pages_211 48 (by decide) ?_
                have h := ih (l.length - (p + 1)) (by omega) (p + 1)
                rw [thC, unC, fiC, eT] at h
                rw [if_pos hf, if_pos hf] at h
                first
                  | (rw [if_pos y0] at h; first | exact h _ _ _ (by omega) rfl | omega)
                  | (rw [if_neg y0] at h; first | exact h _ _ _ (by omega) rfl | omega)
              · refine g_iload d_Md_pages_159 rfl ?_
                refine N_if_eq d_Md_pages_161 208 (by decide) (by omega) (fun _ => ?_) (fun z => absurd rfl z)
                refine N_iinc_10_6_1 d_Md_pages_208 rfl rfl ?_
                refine P_goto d_Md_pages_211 48 (by decide) ?_
                have h := ih (l.length - (p + 1)) (by omega) (p + 1)
                rw [thC, unC, fiC, eT] at h
                rw [if_neg hf, if_neg hf] at h
                first
                  | (rw [if_pos y0] at h; first | exact h _ _ _ (by omega) rfl | omega)
                  | (rw [if_neg y0] at h; first | exact h _ _ _ (by omega) rfl | omega)
            · refine N_iconst d_Md_pages_148 1 rfl ?_
              refine P_goto d_Md_pages_149 153 (by decide) ?_
              refine N_iadd d_Md_pages_153 ?_
              refine S_istore_10_4 d_Md_pages_154 rfl rfl ?_
              refine N_iconst d_Md_pages_156 0 rfl ?_
              refine S_istore_10_9 d_Md_pages_157 rfl rfl ?_
              rcases hx with ⟨rfl, hf⟩ | ⟨rfl, hf⟩
              · refine lp_Md_pages2 (x := 1) hK hg hs hpp rfl hf.2 (fun w9 => ?_) _ 0 _ (Nat.zero_le _) rfl rfl
                refine N_iinc_10_6_1 d_Md_pages_208 rfl rfl ?_
                refine P_goto d_Md_pages_211 48 (by decide) ?_
                have h := ih (l.length - (p + 1)) (by omega) (p + 1)
                rw [thC, unC, fiC, eT] at h
                rw [if_pos hf, if_pos hf] at h
                first
                  | (rw [if_pos y0] at h; first | exact h _ _ _ (by omega) rfl | omega)
                  | (rw [if_neg y0] at h; first | exact h _ _ _ (by omega) rfl | omega)
              · refine g_iload d_Md_pages_159 rfl ?_
                refine N_if_eq d_Md_pages_161 208 (by decide) (by omega) (fun _ => ?_) (fun z => absurd rfl z)
                refine N_iinc_10_6_1 d_Md_pages_208 rfl rfl ?_
                refine P_goto d_Md_pages_211 48 (by decide) ?_
                have h := ih (l.length - (p + 1)) (by omega) (p + 1)
                rw [thC, unC, fiC, eT] at h
                rw [if_neg hf, if_neg hf] at h
                first
                  | (rw [if_pos y0] at h; first | exact h _ _ _ (by omega) rfl | omega)
                  | (rw [if_neg y0] at h; first | exact h _ _ _ (by omega) rfl | omega)
          · have y0 : bC κ (l.getD p 0) = 0 := Classical.byContradiction (fun z => dd1 ((hrI_ge (by omega)).mpr z))
            refine N_iconst d_Md_pages_134 0 rfl ?_
            refine P_goto d_Md_pages_135 139 (by decide) ?_
            refine N_iadd d_Md_pages_139 ?_
            refine S_istore_n_10_3 d_Md_pages_140 rfl rfl ?_
            refine g_iload d_Md_pages_141 rfl ?_
            refine g_iload d_Md_pages_143 rfl ?_
            refine N_if_eq d_Md_pages_145 152 (by decide) (by omega) (fun ff1 => ?_) (fun ff1 => ?_)
            · refine N_iconst d_Md_pages_152 0 rfl ?_
              refine N_iadd d_Md_pages_153 ?_
              refine S_istore_10_4 d_Md_pages_154 rfl rfl ?_
              refine N_iconst d_Md_pages_156 0 rfl ?_
              refine S_istore_10_9 d_Md_pages_157 rfl rfl ?_
              rcases hx with ⟨rfl, hf⟩ | ⟨rfl, hf⟩
              · refine lp_Md_pages2 (x := 1) hK hg hs hpp rfl hf.2 (fun w9 => ?_) _ 0 _ (Nat.zero_le _) rfl rfl
                refine N_iinc_10_6_1 d_Md_pages_208 rfl rfl ?_
                refine P_goto d_Md_pages_211 48 (by decide) ?_
                have h := ih (l.length - (p + 1)) (by omega) (p + 1)
                rw [thC, unC, fiC, eT] at h
                rw [if_pos hf, if_pos hf] at h
                first
                  | (rw [if_pos y0] at h; first | exact h _ _ _ (by omega) rfl | omega)
                  | (rw [if_neg y0] at h; first | exact h _ _ _ (by omega) rfl | omega)
              · refine g_iload d_Md_pages_159 rfl ?_
                refine N_if_eq d_Md_pages_161 208 (by decide) (by omega) (fun _ => ?_) (fun z => absurd rfl z)
                refine N_iinc_10_6_1 d_Md_pages_208 rfl rfl ?_
                refine P_goto d_Md_pages_211 48 (by decide) ?_
                have h := ih (l.length - (p + 1)) (by omega) (p + 1)
                rw [thC, unC, fiC, eT] at h
                rw [if_neg hf, if_neg hf] at h
                first
                  | (rw [if_pos y0] at h; first | exact h _ _ _ (by omega) rfl | omega)
                  | (rw [if_neg y0] at h; first | exact h _ _ _ (by omega) rfl | omega)
            · refine N_iconst d_Md_pages_148 1 rfl ?_
              refine P_goto d_Md_pages_149 153 (by decide) ?_
              refine N_iadd d_Md_pages_153 ?_
              refine S_istore_10_4 d_Md_pages_154 rfl rfl ?_
              refine N_iconst d_Md_pages_156 0 rfl ?_
              refine S_istore_10_9 d_Md_pages_157 rfl rfl ?_
              rcases hx with ⟨rfl, hf⟩ | ⟨rfl, hf⟩
              · refine lp_Md_pages2 (x := 1) hK hg hs hpp rfl hf.2 (fun w9 => ?_) _ 0 _ (Nat.zero_le _) rfl rfl
                refine N_iinc_10_6_1 d_Md_pages_208 rfl rfl ?_
                refine P_goto d_Md_pages_211 48 (by decide) ?_
                have h := ih (l.length - (p + 1)) (by omega) (p + 1)
                rw [thC, unC, fiC, eT] at h
                rw [if_pos hf, if_pos hf] at h
                first
                  | (rw [if_pos y0] at h; first | exact h _ _ _ (by omega) rfl | omega)
                  | (rw [if_neg y0] at h; first | exact h _ _ _ (by omega) rfl | omega)
              · refine g_iload d_Md_pages_159 rfl ?_
                refine N_if_eq d_Md_pages_161 208 (by decide) (by omega) (fun _ => ?_) (fun z => absurd rfl z)
                refine N_iinc_10_6_1 d_Md_pages_208 rfl rfl ?_
                refine P_goto d_Md_pages_211 48 (by decide) ?_
                have h := ih (l.length - (p + 1)) (by omega) (p + 1)
                rw [thC, unC, fiC, eT] at h
                rw [if_neg hf, if_neg hf] at h
                first
                  | (rw [if_pos y0] at h; first | exact h _ _ _ (by omega) rfl | omega)
                  | (rw [if_neg y0] at h; first | exact h _ _ _ (by omega) rfl | omega)
        · first
            | exact Or.inl ⟨rfl, fun r hr => absurd hr (Nat.not_lt_zero _), fun z => absurd ((hrI_neg (c := bC κ (l.getD p 0)) (by omega)).mpr (bC_0.mpr z)) (by assumption)⟩
            | exact Or.inr ⟨rfl, fun z => z.2 (bC_0.mp ((hrI_neg (c := bC κ (l.getD p 0)) (by omega)).mp (by assumption)))⟩

theorem c_Md_pages {X : CX} {dl : List (Nat × Nat)} {mI : Nat → Nat → Int32} {dr : Nat → Nat → Nat} {Q : Option Value → AH → Prop} {S : RS} (hR : RM S mI) {g what : Int32} (k : Q (some (.int (oPgs S g what))) (hp X dl mI dr)) : EW X m_Md_pages 0 (enL m_Md_pages.2.2.1 [.ref 139, .int g, .int what]) [] (hp X dl mI dr) Q := by
  show EW X m_Md_pages 0 [.ref 139, .int g, .int what, jk, jk, jk, jk, jk, jk, jk] [] (hp X dl mI dr) Q
  obtain ⟨κ, hK⟩ := id hR
  refine g_iload_n d_Md_pages_0 rfl ?_
  refine C_S1 d_Md_pages_1 k_Md_311 (Nat.le_of_ble_eq_true rfl) (by decide) (Nat.le_of_ble_eq_true rfl) ?_
  refine c_Md_isRegister ?_
  refine B_ne d_Md_pages_4 10 (by decide) (fun c1 => ?_) (fun c1 => ?_)
  · refine g_iload_n d_Md_pages_10 rfl ?_
    refine P_i2l d_Md_pages_11 ?_
    refine P_lconst d_Md_pages_12 0 rfl ?_
    refine P_ldc2 d_Md_pages_13 _ q_Md_329 ?_
    refine C_S3 d_Md_pages_16 k_Md_111 (Nat.le_of_ble_eq_true rfl) (by decide) (Nat.le_of_ble_eq_true rfl) ?_
    refine (c_Md_inN 4 rfl rfl) ?_
    refine B_ne d_Md_pages_19 25 (by decide) (fun c2 => ?_) (fun c2 => ?_)
    · have c1n := c1
      obtain ⟨j, hj, rfl⟩ := inN_of c1 (by decide)
      have ej : tN (nI j) = j := tN_nI (by omega)
      have hle := hK.le hj
      refine g_aload_n d_Md_pages_25 rfl ?_
      refine H_getR 167 d_Md_pages_26 f_Md_92.g rfl rfl (by decide) rfl ?_
      refine g_iload_n d_Md_pages_29 rfl ?_
      refine H_ialdN d_Md_pages_30 rfl rfl (by omega) (by decide) ?_
      refine T_int (hrI (pC S j)) (hK.pg hj) ?_
      refine P_if_ge d_Md_pages_31 37 (by decide) (fun c3 => ?_) (fun c3 => ?_)
      · obtain ⟨l, hs⟩ := pC_1 ((hrI_ge (by omega)).mp c3)
        refine N_iconst d_Md_pages_37 0 rfl ?_
        refine S_istore_n_10_3 d_Md_pages_38 rfl rfl ?_
        refine N_iconst d_Md_pages_39 0 rfl ?_
        refine S_istore_10_4 d_Md_pages_40 rfl rfl ?_
        refine N_iconst d_Md_pages_42 0 rfl ?_
        refine S_istore_10_5 d_Md_pages_43 rfl rfl ?_
        refine N_iconst d_Md_pages_45 0 rfl ?_
        refine S_istore_10_6 d_Md_pages_46 rfl rfl ?_
        have e : oPgs S (nI j) what = if what = nI 0 then nI l.length else if what = nI 1 then nI (thC l l.length) else if what = nI 2 then nI (unC l l.length) else nI (fiC S.2 l l.length) := by
          unfold oPgs
          rw [if_neg (fun z => z c1), if_neg (fun z => z c2), ej, hs]
        rw [e] at k
        exact lp_Md_pages hK hj hs k _ 0 _ _ _ (Nat.zero_le _) rfl
      · refine P_bipush d_Md_pages_34 (-11) rfl ?_
        refine P_iret d_Md_pages_36 rfl ?_
        have hs := pC_0 (Classical.byContradiction (fun z => c3 ((hrI_ge (by omega)).mpr z)))
        exact R_i k (by unfold oPgs; rw [if_neg (fun z => z c1), if_neg (fun z => z c2), ej, hs])
    · refine P_bipush d_Md_pages_22 (-3) rfl ?_
      refine P_iret d_Md_pages_24 rfl ?_
      exact R_i k (by unfold oPgs; rw [if_neg (fun z => z c1), if_pos c2])
  · refine P_bipush d_Md_pages_7 (-2) rfl ?_
    refine P_iret d_Md_pages_9 rfl ?_
    exact R_i k (by unfold oPgs; rw [if_pos c1])

