theorem aY_ag (T : TD) (σ : AS) : aY (yrF T σ) = aY (agAll T (wkAll T σ)) + 1 := rfl
theorem c_Pn_year {X : CX} {dl : List (Nat × Nat)} {mI : Nat → Nat → Int32} {dr : Nat → Nat → Nat} {Q : Option Value → AH → Prop} {T : TD} (hw : TW T) (hT : TR 33 T mI) {N : NP} (hS : SC 53 T N.1 mI) (hW : SV T N.1) (hP : PR T N.2 mI) {n : Int32} (hy : aY N.1 ≤ 999) (k : ∀ mI', SC 53 T (sYr T N n).1.1 mI' → PR T (sYr T N n).1.2 mI' → Fx 53 108 mI mI' → Q (some (.int (sYr T N n).2)) (hp X dl mI' dr)) : EW X m_Pn_year 0 (enL m_Pn_year.2.2.1 [.ref 32, .int n]) [] (hp X dl mI dr) Q := by
  show EW X m_Pn_year 0 [.ref 32, .int n] [] (hp X dl mI dr) Q
  refine g_iload_n d_Pn_year_0 rfl ?_
  refine N_iconst d_Pn_year_1 1 rfl ?_
  refine N_bipush d_Pn_year_2 12 rfl ?_
  refine C_S3 d_Pn_year_4 k_Pn_71 (Nat.le_of_ble_eq_true rfl) (by decide) (Nat.le_of_ble_eq_true rfl) ?_
  refine c_Pn_isWithin ?_
  refine B_ne d_Pn_year_7 13 (by decide) (fun c1 => ?_) (fun c1 => ?_)
  · have hn := (in_lo (a := 1) (b := 12) (by decide) (by decide)).mp c1
    obtain ⟨u, hu1, hu2, rfl⟩ := in_ex (by decide) hn
    have eu : tN (nI u) = u := tN_nI (by omega)
    refine g_aload_n d_Pn_year_13 rfl ?_
    refine H_getR 53 d_Pn_year_14 f_Pn_31.g rfl rfl (by decide) rfl ?_
    refine H_getI d_Pn_year_17 f_Pn_160.g rfl rfl (by decide) ?_
    refine T_int (nI (aY N.1)) hS.1 ?_
    refine g_iload_n d_Pn_year_20 rfl ?_
    refine N_iadd d_Pn_year_21 ?_
    refine N_sipush d_Pn_year_22 999 rfl ?_
    refine N_icmp_le d_Pn_year_25 31 (by decide) ⟨by omega, by omega⟩ (fun c2 => ?_) (fun c2 => ?_)
    · refine g_aload_n d_Pn_year_31 rfl ?_
      refine H_getR 59 d_Pn_year_32 f_Pn_38.g rfl rfl (by decide) rfl ?_
      refine g_aload_n d_Pn_year_35 rfl ?_
      refine H_getR 53 d_Pn_year_36 f_Pn_31.g rfl rfl (by decide) rfl ?_
      refine C_V1 d_Pn_year_39 k_Pn_163 rfl (Nat.le_of_ble_eq_true rfl) (by decide) (Nat.le_of_ble_eq_true rfl) ?_
      refine c_Ps_remember hw hS hP (fun mI1 hP1 hF1 => ?_)
      have hT1 : TR 33 T mI1 := hT.to (fun r z1 z2 => hF1 r (by omega))
      have hS1 : SC 53 T N.1 mI1 := SR.to hS (fun r z1 z2 => hF1 r (by omega))
      refine g_aload_n d_Pn_year_42 rfl ?_
      refine H_getR 53 d_Pn_year_43 f_Pn_31.g rfl rfl (by decide) rfl ?_
      refine g_iload_n d_Pn_year_46 rfl ?_
      refine C_V1 d_Pn_year_47 k_Pn_167 rfl (Nat.le_of_ble_eq_true rfl) (by decide) (Nat.le_of_ble_eq_true rfl) ?_
      refine c_St_passYears st53 hw hT1 hS1 hW (by omega) (fun mI2 hS2 hW2 hF2 => ?_)
      refine g_aload_n d_Pn_year_50 rfl ?_
      refine H_getR 53 d_Pn_year_51 f_Pn_31.g rfl rfl (by decide) rfl ?_
      refine H_getI d_Pn_year_54 f_Pn_160.g rfl rfl (by decide) ?_
      refine T_int (nI (aY (yrN T u N.1))) hS2.1 ?_
      refine P_iret d_Pn_year_57 rfl ?_
      have e : sYr T N (nI u) = ((yrN T u N.1, psh N.2 N.1), nI (aY (yrN T u N.1))) := by unfold sYr; rw [if_neg (fun z => z hn), eu, if_neg (by omega)]
      rw [e] at k
      exact k _ hS2 (PR.to hP1 (fun r z1 z2 => hF2 r (by omega))) (fun r hr => (hF2 r (by omega)).trans (hF1 r (by omega)))
    · refine P_bipush d_Pn_year_28 (-5) rfl ?_
      refine P_iret d_Pn_year_30 rfl ?_
      have e : sYr T N (nI u) = (N, -5) := by unfold sYr; rw [if_neg (fun z => z hn), eu, if_pos (by omega)]
      rw [e] at k
      exact k _ hS hP Fx.rf
  · refine P_bipush d_Pn_year_10 (-3) rfl ?_
    refine P_iret d_Pn_year_12 rfl ?_
    have hA : ¬ (1 ≤ n.toInt ∧ n.toInt ≤ 12) := fun z => c1 ((in_lo (a := 1) (b := 12) (by decide) (by decide)).mpr z)
    have e : sYr T N n = (N, -3) := by unfold sYr; rw [if_pos hA]
    rw [e] at k
    exact k _ hS hP Fx.rf

theorem c_Pn_give {X : CX} {dl : List (Nat × Nat)} {mI : Nat → Nat → Int32} {dr : Nat → Nat → Nat} {Q : Option Value → AH → Prop} {T : TD} (hw : TW T) (hT : TR 33 T mI) {N : NP} (hS : SC 53 T N.1 mI) (hW : SV T N.1) (hP : PR T N.2 mI) {p m : Int32} (k : ∀ mI', SC 53 T (sGi T N p m).1.1 mI' → PR T (sGi T N p m).1.2 mI' → Fx 53 108 mI mI' → Q (some (.int (sGi T N p m).2)) (hp X dl mI' dr)) : EW X m_Pn_give 0 (enL m_Pn_give.2.2.1 [.ref 32, .int p, .int m]) [] (hp X dl mI dr) Q := by
  show EW X m_Pn_give 0 [.ref 32, .int p, .int m, jk, jk] [] (hp X dl mI dr) Q
  have hw1 := hw.1
  have hw2 := hw.2.1
  refine g_aload_n d_Pn_give_0 rfl ?_
  refine g_iload_n d_Pn_give_1 rfl ?_
  refine C_V1 d_Pn_give_2 k_Pn_127 rfl (Nat.le_of_ble_eq_true rfl) (by decide) (Nat.le_of_ble_eq_true rfl) ?_
  refine (c_Pn_isPromise hT.2.1 (by omega)) ?_
  refine B_eq d_Pn_give_5 21 (by decide) (fun c1 => ?_) (fun c1 => ?_)
  · refine P_bipush d_Pn_give_21 (-2) rfl ?_
    refine P_iret d_Pn_give_23 rfl ?_
    have e : sGi T N p m = (N, -2) := by unfold sGi; rw [if_pos (by first | exact Or.inl (by assumption) | exact Or.inr ⟨by assumption, by assumption⟩)]
    rw [e] at k
    exact k _ hS hP Fx.rf
  · refine g_iload_n d_Pn_give_8 rfl ?_
    refine P_iconst d_Pn_give_9 (-1) rfl ?_
    refine P_icmp_eq d_Pn_give_10 24 (by decide) (fun c2 => ?_) (fun c2 => ?_)
    · have hA : ¬ (¬ inN p (tP T) ∨ (¬ m = -1 ∧ ¬ inN m (tn T))) := fun z => z.elim (fun y => y (by assumption)) (fun y => by first | exact y.1 (by assumption) | exact y.2 (by assumption))
      have c1 : inN p (tP T) := by assumption
      obtain ⟨j, hj, rfl⟩ := inN_of c1 (by omega)
      have ej : tN (nI j) = j := tN_nI (by omega)
      have h6 := (hW.2.1 j hj).1
      refine g_iload_n d_Pn_give_24 rfl ?_
      refine P_iconst d_Pn_give_25 (-1) rfl ?_
      refine P_icmp_ne d_Pn_give_26 33 (by decide) (fun hm1 => ?_) (fun hm1 => ?_)
      · have hin : inN m (tn T) := by
          by_cases y : inN m (tn T)
          · exact y
          · exact absurd (Or.inr ⟨hm1, y⟩) hA
        obtain ⟨u, hu, rfl⟩ := inN_of hin (by omega)
        have ew : whoN (nI u) = u := by unfold whoN; rw [if_neg hm1, tN_nI (by omega)]
        refine g_iload_n d_Pn_give_33 rfl ?_
        refine S_istore_n_5_3 d_Pn_give_34 rfl rfl ?_
        refine g_aload_n d_Pn_give_35 rfl ?_
        refine H_getR 53 d_Pn_give_36 f_Pn_31.g rfl rfl (by decide) rfl ?_
        refine H_getR 57 d_Pn_give_39 f_Pn_142 rfl rfl (by decide) rfl ?_
        refine g_iload_n d_Pn_give_42 rfl ?_
        refine H_ialdN d_Pn_give_43 rfl rfl (by omega) (by decide) ?_
        refine T_int (hoI (aH N.1 j)) (hS.2.2.2.1 j hj).2.2 ?_
        refine S_istore_5_4 d_Pn_give_44 rfl rfl ?_
        refine g_iload d_Pn_give_46 rfl ?_
        refine P_iconst d_Pn_give_48 (-1) rfl ?_
        refine P_icmp_eq d_Pn_give_49 75 (by decide) (fun dd1 => ?_) (fun dd1 => ?_)
        · refine P_bipush d_Pn_give_75 (-4) rfl ?_
          refine P_iret d_Pn_give_77 rfl ?_
          have hB : aH N.1 j = 6 ∨ aH N.1 j = u ∨ (u ≠ 5 ∧ aS N.1 u = 0) := Or.inl ((hoI_m1 h6).mp dd1)
          have e : sGi T N (nI j) (nI u) = (N, -4) := by unfold sGi; rw [if_neg hA, ej, ew, if_pos hB]
          rw [e] at k
          exact k _ hS hP Fx.rf
        · have h66 : aH N.1 j ≠ 6 := fun z => dd1 ((hoI_m1 h6).mpr z)
          have h55 : hoI (aH N.1 j) = nI (aH N.1 j) := hoI_5 (by omega)
          refine g_iload d_Pn_give_52 rfl ?_
          refine g_iload_n d_Pn_give_54 rfl ?_
          refine P_icmp_eq d_Pn_give_55 75 (by decide) (fun dd2 => ?_) (fun dd2 => ?_)
          · refine P_bipush d_Pn_give_75 (-4) rfl ?_
            refine P_iret d_Pn_give_77 rfl ?_
            have hq : aH N.1 j = u := by rw [h55, nI_eq (by omega) (by omega)] at dd2; exact dd2
            have hB : aH N.1 j = 6 ∨ aH N.1 j = u ∨ (u ≠ 5 ∧ aS N.1 u = 0) := Or.inr (Or.inl hq)
            have e : sGi T N (nI j) (nI u) = (N, -4) := by unfold sGi; rw [if_neg hA, ej, ew, if_pos (by first | exact hB)]
            rw [e] at k
            exact k _ hS hP Fx.rf
          · have hne : aH N.1 j ≠ u := fun z => dd2 (by rw [h55, z])
            refine g_iload_n d_Pn_give_58 rfl ?_
            refine N_iconst d_Pn_give_59 5 rfl ?_
            refine N_icmp_eq d_Pn_give_60 78 (by decide) ⟨by omega, by omega⟩ (fun dd3 => ?_) (fun dd3 => ?_)
            · have hB : ¬ (aH N.1 j = 6 ∨ aH N.1 j = u ∨ (u ≠ 5 ∧ aS N.1 u = 0)) := fun z => z.elim (fun y => h66 y) (fun z => z.elim (fun y => hne y) (fun y => by first | exact absurd y.2 (by assumption) | exact absurd rfl y.1 | omega))
              refine g_aload_n d_Pn_give_78 rfl ?_
              refine H_getR 59 d_Pn_give_79 f_Pn_38.g rfl rfl (by decide) rfl ?_
              refine g_aload_n d_Pn_give_82 rfl ?_
              refine H_getR 53 d_Pn_give_83 f_Pn_31.g rfl rfl (by decide) rfl ?_
              refine C_V1 d_Pn_give_86 k_Pn_163 rfl (Nat.le_of_ble_eq_true rfl) (by decide) (Nat.le_of_ble_eq_true rfl) ?_
              refine c_Ps_remember hw hS hP (fun mI1 hP1 hF1 => ?_)
              have hT1 : TR 33 T mI1 := hT.to (fun r z1 z2 => hF1 r (by omega))
              have hS1 : SC 53 T N.1 mI1 := SR.to hS (fun r z1 z2 => hF1 r (by omega))
              refine g_aload_n d_Pn_give_89 rfl ?_
              refine H_getR 53 d_Pn_give_90 f_Pn_31.g rfl rfl (by decide) rfl ?_
              refine g_iload_n d_Pn_give_93 rfl ?_
              refine g_iload_n d_Pn_give_94 rfl ?_
              refine C_V2 d_Pn_give_95 k_Pn_171 rfl (Nat.le_of_ble_eq_true rfl) (by decide) (Nat.le_of_ble_eq_true rfl) ?_
              refine c_St_handOver st53 hw hT1 hS1 hW (hW.mem hj) h66 (by omega) (fun mI2 hS2 hF2 => ?_)
              refine g_iload d_Pn_give_98 rfl ?_
              refine P_iret d_Pn_give_100 rfl ?_
              have e : sGi T N (nI j) (nI u) = ((hand N.1 j u, psh N.2 N.1), nI (aH N.1 j)) := by unfold sGi; rw [if_neg hA, ej, ew, if_neg hB]
              rw [e] at k
              exact R_i (k _ hS2 (PR.to hP1 (fun r z1 z2 => hF2 r (by omega))) (fun r hr => (hF2 r (by omega)).trans (hF1 r (by omega)))) h55.symm
            · have hs60 := hW.2.2 u (by omega)
              refine g_aload_n d_Pn_give_63 rfl ?_
              refine H_getR 53 d_Pn_give_64 f_Pn_31.g rfl rfl (by decide) rfl ?_
              refine H_getR 54 d_Pn_give_67 f_Pn_113 rfl rfl (by decide) rfl ?_
              refine g_iload_n d_Pn_give_70 rfl ?_
              refine H_ialdN d_Pn_give_71 rfl rfl (by omega) (by decide) ?_
              refine T_int (nI (aS N.1 u)) (hS.2.2.1 u (by omega)) ?_
              refine N_if_ne d_Pn_give_72 78 (by decide) (by omega) (fun dd4 => ?_) (fun dd4 => ?_)
              · have hB : ¬ (aH N.1 j = 6 ∨ aH N.1 j = u ∨ (u ≠ 5 ∧ aS N.1 u = 0)) := fun z => z.elim (fun y => h66 y) (fun z => z.elim (fun y => hne y) (fun y => by first | exact absurd y.2 (by assumption) | exact absurd rfl y.1 | omega))
                refine g_aload_n d_Pn_give_78 rfl ?_
                refine H_getR 59 d_Pn_give_79 f_Pn_38.g rfl rfl (by decide) rfl ?_
                refine g_aload_n d_Pn_give_82 rfl ?_
                refine H_getR 53 d_Pn_give_83 f_Pn_31.g rfl rfl (by decide) rfl ?_
                refine C_V1 d_Pn_give_86 k_Pn_163 rfl (Nat.le_of_ble_eq_true rfl) (by decide) (Nat.le_of_ble_eq_true rfl) ?_
                refine c_Ps_remember hw hS hP (fun mI1 hP1 hF1 => ?_)
                have hT1 : TR 33 T mI1 := hT.to (fun r z1 z2 => hF1 r (by omega))
                have hS1 : SC 53 T N.1 mI1 := SR.to hS (fun r z1 z2 => hF1 r (by omega))
                refine g_aload_n d_Pn_give_89 rfl ?_
                refine H_getR 53 d_Pn_give_90 f_Pn_31.g rfl rfl (by decide) rfl ?_
                refine g_iload_n d_Pn_give_93 rfl ?_
                refine g_iload_n d_Pn_give_94 rfl ?_
                refine C_V2 d_Pn_give_95 k_Pn_171 rfl (Nat.le_of_ble_eq_true rfl) (by decide) (Nat.le_of_ble_eq_true rfl) ?_
                refine c_St_handOver st53 hw hT1 hS1 hW (hW.mem hj) h66 (by omega) (fun mI2 hS2 hF2 => ?_)
                refine g_iload d_Pn_give_98 rfl ?_
                refine P_iret d_Pn_give_100 rfl ?_
                have e : sGi T N (nI j) (nI u) = ((hand N.1 j u, psh N.2 N.1), nI (aH N.1 j)) := by unfold sGi; rw [if_neg hA, ej, ew, if_neg hB]
                rw [e] at k
                exact R_i (k _ hS2 (PR.to hP1 (fun r z1 z2 => hF2 r (by omega))) (fun r hr => (hF2 r (by omega)).trans (hF1 r (by omega)))) h55.symm
              · refine P_bipush d_Pn_give_75 (-4) rfl ?_
                refine P_iret d_Pn_give_77 rfl ?_
                have hB : aH N.1 j = 6 ∨ aH N.1 j = u ∨ (u ≠ 5 ∧ aS N.1 u = 0) := Or.inr (Or.inr ⟨by omega, by assumption⟩)
                have e : sGi T N (nI j) (nI u) = (N, -4) := by unfold sGi; rw [if_neg hA, ej, ew, if_pos hB]
                rw [e] at k
                exact k _ hS hP Fx.rf
      · have ew : whoN m = 5 := by unfold whoN; rw [if_pos hm1]
        refine N_iconst d_Pn_give_29 5 rfl ?_
        refine P_goto d_Pn_give_30 34 (by decide) ?_
        refine S_istore_n_5_3 d_Pn_give_34 rfl rfl ?_
        refine g_aload_n d_Pn_give_35 rfl ?_
        refine H_getR 53 d_Pn_give_36 f_Pn_31.g rfl rfl (by decide) rfl ?_
        refine H_getR 57 d_Pn_give_39 f_Pn_142 rfl rfl (by decide) rfl ?_
        refine g_iload_n d_Pn_give_42 rfl ?_
        refine H_ialdN d_Pn_give_43 rfl rfl (by omega) (by decide) ?_
        refine T_int (hoI (aH N.1 j)) (hS.2.2.2.1 j hj).2.2 ?_
        refine S_istore_5_4 d_Pn_give_44 rfl rfl ?_
        refine g_iload d_Pn_give_46 rfl ?_
        refine P_iconst d_Pn_give_48 (-1) rfl ?_
        refine P_icmp_eq d_Pn_give_49 75 (by decide) (fun dd1 => ?_) (fun dd1 => ?_)
        · refine P_bipush d_Pn_give_75 (-4) rfl ?_
          refine P_iret d_Pn_give_77 rfl ?_
          have hB : aH N.1 j = 6 ∨ aH N.1 j = 5 ∨ (5 ≠ 5 ∧ aS N.1 5 = 0) := Or.inl ((hoI_m1 h6).mp dd1)
          have e : sGi T N (nI j) m = (N, -4) := by unfold sGi; rw [if_neg hA, ej, ew, if_pos hB]
          rw [e] at k
          exact k _ hS hP Fx.rf
        · have h66 : aH N.1 j ≠ 6 := fun z => dd1 ((hoI_m1 h6).mpr z)
          have h55 : hoI (aH N.1 j) = nI (aH N.1 j) := hoI_5 (by omega)
          refine g_iload d_Pn_give_52 rfl ?_
          refine g_iload_n d_Pn_give_54 rfl ?_
          refine P_icmp_eq d_Pn_give_55 75 (by decide) (fun dd2 => ?_) (fun dd2 => ?_)
          · refine P_bipush d_Pn_give_75 (-4) rfl ?_
            refine P_iret d_Pn_give_77 rfl ?_
            have hq : aH N.1 j = 5 := by rw [h55, nI_eq (by omega) (by omega)] at dd2; exact dd2
            have hB : aH N.1 j = 6 ∨ aH N.1 j = 5 ∨ (5 ≠ 5 ∧ aS N.1 5 = 0) := Or.inr (Or.inl hq)
            have e : sGi T N (nI j) m = (N, -4) := by unfold sGi; rw [if_neg hA, ej, ew, if_pos (by first | exact hB)]
            rw [e] at k
            exact k _ hS hP Fx.rf
          · have hne : aH N.1 j ≠ 5 := fun z => dd2 (by rw [h55, z])
            refine g_iload_n d_Pn_give_58 rfl ?_
            refine N_iconst d_Pn_give_59 5 rfl ?_
            refine N_icmp_eq d_Pn_give_60 78 (by decide) ⟨by omega, by omega⟩ (fun dd3 => ?_) (fun dd3 => ?_)
            · have hB : ¬ (aH N.1 j = 6 ∨ aH N.1 j = 5 ∨ (5 ≠ 5 ∧ aS N.1 5 = 0)) := fun z => z.elim (fun y => h66 y) (fun z => z.elim (fun y => hne y) (fun y => by first | exact absurd y.2 (by assumption) | exact absurd rfl y.1 | omega))
              refine g_aload_n d_Pn_give_78 rfl ?_
              refine H_getR 59 d_Pn_give_79 f_Pn_38.g rfl rfl (by decide) rfl ?_
              refine g_aload_n d_Pn_give_82 rfl ?_
              refine H_getR 53 d_Pn_give_83 f_Pn_31.g rfl rfl (by decide) rfl ?_
              refine C_V1 d_Pn_give_86 k_Pn_163 rfl (Nat.le_of_ble_eq_true rfl) (by decide) (Nat.le_of_ble_eq_true rfl) ?_
              refine c_Ps_remember hw hS hP (fun mI1 hP1 hF1 => ?_)
              have hT1 : TR 33 T mI1 := hT.to (fun r z1 z2 => hF1 r (by omega))
              have hS1 : SC 53 T N.1 mI1 := SR.to hS (fun r z1 z2 => hF1 r (by omega))
              refine g_aload_n d_Pn_give_89 rfl ?_
              refine H_getR 53 d_Pn_give_90 f_Pn_31.g rfl rfl (by decide) rfl ?_
              refine g_iload_n d_Pn_give_93 rfl ?_
              refine g_iload_n d_Pn_give_94 rfl ?_
              refine C_V2 d_Pn_give_95 k_Pn_171 rfl (Nat.le_of_ble_eq_true rfl) (by decide) (Nat.le_of_ble_eq_true rfl) ?_
              refine c_St_handOver st53 hw hT1 hS1 hW (hW.mem hj) h66 (by omega) (fun mI2 hS2 hF2 => ?_)
              refine g_iload d_Pn_give_98 rfl ?_
              refine P_iret d_Pn_give_100 rfl ?_
              have e : sGi T N (nI j) m = ((hand N.1 j 5, psh N.2 N.1), nI (aH N.1 j)) := by unfold sGi; rw [if_neg hA, ej, ew, if_neg hB]
              rw [e] at k
              exact R_i (k _ hS2 (PR.to hP1 (fun r z1 z2 => hF2 r (by omega))) (fun r hr => (hF2 r (by omega)).trans (hF1 r (by omega)))) h55.symm
            · exact absurd rfl dd3
    · refine g_aload_n d_Pn_give_13 rfl ?_
      refine g_iload_n d_Pn_give_14 rfl ?_
      refine C_V1 d_Pn_give_15 k_Pn_106 rfl (Nat.le_of_ble_eq_true rfl) (by decide) (Nat.le_of_ble_eq_true rfl) ?_
      refine (c_Pn_isPerson hT.1 (by omega)) ?_
      refine B_ne d_Pn_give_18 24 (by decide) (fun c3 => ?_) (fun c3 => ?_)
      · have hA : ¬ (¬ inN p (tP T) ∨ (¬ m = -1 ∧ ¬ inN m (tn T))) := fun z => z.elim (fun y => y (by assumption)) (fun y => by first | exact y.1 (by assumption) | exact y.2 (by assumption))
        have c1 : inN p (tP T) := by assumption
        obtain ⟨j, hj, rfl⟩ := inN_of c1 (by omega)
        have ej : tN (nI j) = j := tN_nI (by omega)
        have h6 := (hW.2.1 j hj).1
        refine g_iload_n d_Pn_give_24 rfl ?_
        refine P_iconst d_Pn_give_25 (-1) rfl ?_
        refine P_icmp_ne d_Pn_give_26 33 (by decide) (fun hm1 => ?_) (fun hm1 => ?_)
        · have hin : inN m (tn T) := by
            by_cases y : inN m (tn T)
            · exact y
            · exact absurd (Or.inr ⟨hm1, y⟩) hA
          obtain ⟨u, hu, rfl⟩ := inN_of hin (by omega)
          have ew : whoN (nI u) = u := by unfold whoN; rw [if_neg hm1, tN_nI (by omega)]
          refine g_iload_n d_Pn_give_33 rfl ?_
          refine S_istore_n_5_3 d_Pn_give_34 rfl rfl ?_
          refine g_aload_n d_Pn_give_35 rfl ?_
          refine H_getR 53 d_Pn_give_36 f_Pn_31.g rfl rfl (by decide) rfl ?_
          refine H_getR 57 d_Pn_give_39 f_Pn_142 rfl rfl (by decide) rfl ?_
          refine g_iload_n d_Pn_give_42 rfl ?_
          refine H_ialdN d_Pn_give_43 rfl rfl (by omega) (by decide) ?_
          refine T_int (hoI (aH N.1 j)) (hS.2.2.2.1 j hj).2.2 ?_
          refine S_istore_5_4 d_Pn_give_44 rfl rfl ?_
          refine g_iload d_Pn_give_46 rfl ?_
          refine P_iconst d_Pn_give_48 (-1) rfl ?_
          refine P_icmp_eq d_Pn_give_49 75 (by decide) (fun dd1 => ?_) (fun dd1 => ?_)
          · refine P_bipush d_Pn_give_75 (-4) rfl ?_
            refine P_iret d_Pn_give_77 rfl ?_
            have hB : aH N.1 j = 6 ∨ aH N.1 j = u ∨ (u ≠ 5 ∧ aS N.1 u = 0) := Or.inl ((hoI_m1 h6).mp dd1)
            have e : sGi T N (nI j) (nI u) = (N, -4) := by unfold sGi; rw [if_neg hA, ej, ew, if_pos hB]
            rw [e] at k
            exact k _ hS hP Fx.rf
          · have h66 : aH N.1 j ≠ 6 := fun z => dd1 ((hoI_m1 h6).mpr z)
            have h55 : hoI (aH N.1 j) = nI (aH N.1 j) := hoI_5 (by omega)
            refine g_iload d_Pn_give_52 rfl ?_
            refine g_iload_n d_Pn_give_54 rfl ?_
            refine P_icmp_eq d_Pn_give_55 75 (by decide) (fun dd2 => ?_) (fun dd2 => ?_)
            · refine P_bipush d_Pn_give_75 (-4) rfl ?_
              refine P_iret d_Pn_give_77 rfl ?_
              have hq : aH N.1 j = u := by rw [h55, nI_eq (by omega) (by omega)] at dd2; exact dd2
              have hB : aH N.1 j = 6 ∨ aH N.1 j = u ∨ (u ≠ 5 ∧ aS N.1 u = 0) := Or.inr (Or.inl hq)
              have e : sGi T N (nI j) (nI u) = (N, -4) := by unfold sGi; rw [if_neg hA, ej, ew, if_pos (by first | exact hB)]
              rw [e] at k
              exact k _ hS hP Fx.rf
            · have hne : aH N.1 j ≠ u := fun z => dd2 (by rw [h55, z])
              refine g_iload_n d_Pn_give_58 rfl ?_
              refine N_iconst d_Pn_give_59 5 rfl ?_
              refine N_icmp_eq d_Pn_give_60 78 (by decide) ⟨by omega, by omega⟩ (fun dd3 => ?_) (fun dd3 => ?_)
              · have hB : ¬ (aH N.1 j = 6 ∨ aH N.1 j = u ∨ (u ≠ 5 ∧ aS N.1 u = 0)) := fun z => z.elim (fun y => h66 y) (fun z => z.elim (fun y => hne y) (fun y => by first | exact absurd y.2 (by assumption) | exact absurd rfl y.1 | omega))
                refine g_aload_n d_Pn_give_78 rfl ?_
                refine H_getR 59 d_Pn_give_79 f_Pn_38.g rfl rfl (by decide) rfl ?_
                refine g_aload_n d_Pn_give_82 rfl ?_
                refine H_getR 53 d_Pn_give_83 f_Pn_31.g rfl rfl (by decide) rfl ?_
                refine C_V1 d_Pn_give_86 k_Pn_163 rfl (Nat.le_of_ble_eq_true rfl) (by decide) (Nat.le_of_ble_eq_true rfl) ?_
                refine c_Ps_remember hw hS hP (fun mI1 hP1 hF1 => ?_)
                have hT1 : TR 33 T mI1 := hT.to (fun r z1 z2 => hF1 r (by omega))
                have hS1 : SC 53 T N.1 mI1 := SR.to hS (fun r z1 z2 => hF1 r (by omega))
                refine g_aload_n d_Pn_give_89 rfl ?_
                refine H_getR 53 d_Pn_give_90 f_Pn_31.g rfl rfl (by decide) rfl ?_
                refine g_iload_n d_Pn_give_93 rfl ?_
                refine g_iload_n d_Pn_give_94 rfl ?_
                refine C_V2 d_Pn_give_95 k_Pn_171 rfl (Nat.le_of_ble_eq_true rfl) (by decide) (Nat.le_of_ble_eq_true rfl) ?_
                refine c_St_handOver st53 hw hT1 hS1 hW (hW.mem hj) h66 (by omega) (fun mI2 hS2 hF2 => ?_)
                refine g_iload d_Pn_give_98 rfl ?_
                refine P_iret d_Pn_give_100 rfl ?_
                have e : sGi T N (nI j) (nI u) = ((hand N.1 j u, psh N.2 N.1), nI (aH N.1 j)) := by unfold sGi; rw [if_neg hA, ej, ew, if_neg hB]
                rw [e] at k
                exact R_i (k _ hS2 (PR.to hP1 (fun r z1 z2 => hF2 r (by omega))) (fun r hr => (hF2 r (by omega)).trans (hF1 r (by omega)))) h55.symm
              · have hs60 := hW.2.2 u (by omega)
                refine g_aload_n d_Pn_give_63 rfl ?_
                refine H_getR 53 d_Pn_give_64 f_Pn_31.g rfl rfl (by decide) rfl ?_
                refine H_getR 54 d_Pn_give_67 f_Pn_113 rfl rfl (by decide) rfl ?_
                refine g_iload_n d_Pn_give_70 rfl ?_
                refine H_ialdN d_Pn_give_71 rfl rfl (by omega) (by decide) ?_
                refine T_int (nI (aS N.1 u)) (hS.2.2.1 u (by omega)) ?_
                refine N_if_ne d_Pn_give_72 78 (by decide) (by omega) (fun dd4 => ?_) (fun dd4 => ?_)
                · have hB : ¬ (aH N.1 j = 6 ∨ aH N.1 j = u ∨ (u ≠ 5 ∧ aS N.1 u = 0)) := fun z => z.elim (fun y => h66 y) (fun z => z.elim (fun y => hne y) (fun y => by first | exact absurd y.2 (by assumption) | exact absurd rfl y.1 | omega))
                  refine g_aload_n d_Pn_give_78 rfl ?_
                  refine H_getR 59 d_Pn_give_79 f_Pn_38.g rfl rfl (by decide) rfl ?_
                  refine g_aload_n d_Pn_give_82 rfl ?_
                  refine H_getR 53 d_Pn_give_83 f_Pn_31.g rfl rfl (by decide) rfl ?_
                  refine C_V1 d_Pn_give_86 k_Pn_163 rfl (Nat.le_of_ble_eq_true rfl) (by decide) (Nat.le_of_ble_eq_true rfl) ?_
                  refine c_Ps_remember hw hS hP (fun mI1 hP1 hF1 => ?_)
                  have hT1 : TR 33 T mI1 := hT.to (fun r z1 z2 => hF1 r (by omega))
                  have hS1 : SC 53 T N.1 mI1 := SR.to hS (fun r z1 z2 => hF1 r (by omega))
                  refine g_aload_n d_Pn_give_89 rfl ?_
                  refine H_getR 53 d_Pn_give_90 f_Pn_31.g rfl rfl (by decide) rfl ?_
                  refine g_iload_n d_Pn_give_93 rfl ?_
                  refine g_iload_n d_Pn_give_94 rfl ?_
                  refine C_V2 d_Pn_give_95 k_Pn_171 rfl (Nat.le_of_ble_eq_true rfl) (by decide) (Nat.le_of_ble_eq_true rfl) ?_
                  refine c_St_handOver st53 hw hT1 hS1 hW (hW.mem hj) h66 (by omega) (fun mI2 hS2 hF2 => ?_)
                  refine g_iload d_Pn_give_98 rfl ?_
                  refine P_iret d_Pn_give_100 rfl ?_
                  have e : sGi T N (nI j) (nI u) = ((hand N.1 j u, psh N.2 N.1), nI (aH N.1 j)) := by unfold sGi; rw [if_neg hA, ej, ew, if_neg hB]
                  rw [e] at k
                  exact R_i (k _ hS2 (PR.to hP1 (fun r z1 z2 => hF2 r (by omega))) (fun r hr => (hF2 r (by omega)).trans (hF1 r (by omega)))) h55.symm
                · refine P_bipush d_Pn_give_75 (-4) rfl ?_
                  refine P_iret d_Pn_give_77 rfl ?_
                  have hB : aH N.1 j = 6 ∨ aH N.1 j = u ∨ (u ≠ 5 ∧ aS N.1 u = 0) := Or.inr (Or.inr ⟨by omega, by assumption⟩)
                  have e : sGi T N (nI j) (nI u) = (N, -4) := by unfold sGi; rw [if_neg hA, ej, ew, if_pos hB]
                  rw [e] at k
                  exact k _ hS hP Fx.rf
        · have ew : whoN m = 5 := by unfold whoN; rw [if_pos hm1]
          refine N_iconst d_Pn_give_29 5 rfl ?_
          refine P_goto d_Pn_give_30 34 (by decide) ?_
          refine S_istore_n_5_3 d_Pn_give_34 rfl rfl ?_
          refine g_aload_n d_Pn_give_35 rfl ?_
          refine H_getR 53 d_Pn_give_36 f_Pn_31.g rfl rfl (by decide) rfl ?_
          refine H_getR 57 d_Pn_give_39 f_Pn_142 rfl rfl (by decide) rfl ?_
          refine g_iload_n d_Pn_give_42 rfl ?_
          refine H_ialdN d_Pn_give_43 rfl rfl (by omega) (by decide) ?_
          refine T_int (hoI (aH N.1 j)) (hS.2.2.2.1 j hj).2.2 ?_
          refine S_istore_5_4 d_Pn_give_44 rfl rfl ?_
          refine g_iload d_Pn_give_46 rfl ?_
          refine P_iconst d_Pn_give_48 (-1) rfl ?_
          refine P_icmp_eq d_Pn_give_49 75 (by decide) (fun dd1 => ?_) (fun dd1 => ?_)
          · refine P_bipush d_Pn_give_75 (-4) rfl ?_
            refine P_iret d_Pn_give_77 rfl ?_
            have hB : aH N.1 j = 6 ∨ aH N.1 j = 5 ∨ (5 ≠ 5 ∧ aS N.1 5 = 0) := Or.inl ((hoI_m1 h6).mp dd1)
            have e : sGi T N (nI j) m = (N, -4) := by unfold sGi; rw [if_neg hA, ej, ew, if_pos hB]
            rw [e] at k
            exact k _ hS hP Fx.rf
          · have h66 : aH N.1 j ≠ 6 := fun z => dd1 ((hoI_m1 h6).mpr z)
            have h55 : hoI (aH N.1 j) = nI (aH N.1 j) := hoI_5 (by omega)
            refine g_iload d_Pn_give_52 rfl ?_
            refine g_iload_n d_Pn_give_54 rfl ?_
            refine P_icmp_eq d_Pn_give_55 75 (by decide) (fun dd2 => ?_) (fun dd2 => ?_)
            · refine P_bipush d_Pn_give_75 (-4) rfl ?_
              refine P_iret d_Pn_give_77 rfl ?_
              have hq : aH N.1 j = 5 := by rw [h55, nI_eq (by omega) (by omega)] at dd2; exact dd2
              have hB : aH N.1 j = 6 ∨ aH N.1 j = 5 ∨ (5 ≠ 5 ∧ aS N.1 5 = 0) := Or.inr (Or.inl hq)
              have e : sGi T N (nI j) m = (N, -4) := by unfold sGi; rw [if_neg hA, ej, ew, if_pos (by first | exact hB)]
              rw [e] at k
              exact k _ hS hP Fx.rf
            · have hne : aH N.1 j ≠ 5 := fun z => dd2 (by rw [h55, z])
              refine g_iload_n d_Pn_give_58 rfl ?_
              refine N_iconst d_Pn_give_59 5 rfl ?_
              refine N_icmp_eq d_Pn_give_60 78 (by decide) ⟨by omega, by omega⟩ (fun dd3 => ?_) (fun dd3 => ?_)
              · have hB : ¬ (aH N.1 j = 6 ∨ aH N.1 j = 5 ∨ (5 ≠ 5 ∧ aS N.1 5 = 0)) := fun z => z.elim (fun y => h66 y) (fun z => z.elim (fun y => hne y) (fun y => by first | exact absurd y.2 (by assumption) | exact absurd rfl y.1 | omega))
                refine g_aload_n d_Pn_give_78 rfl ?_
                refine H_getR 59 d_Pn_give_79 f_Pn_38.g rfl rfl (by decide) rfl ?_
                refine g_aload_n d_Pn_give_82 rfl ?_
                refine H_getR 53 d_Pn_give_83 f_Pn_31.g rfl rfl (by decide) rfl ?_
                refine C_V1 d_Pn_give_86 k_Pn_163 rfl (Nat.le_of_ble_eq_true rfl) (by decide) (Nat.le_of_ble_eq_true rfl) ?_
                refine c_Ps_remember hw hS hP (fun mI1 hP1 hF1 => ?_)
                have hT1 : TR 33 T mI1 := hT.to (fun r z1 z2 => hF1 r (by omega))
                have hS1 : SC 53 T N.1 mI1 := SR.to hS (fun r z1 z2 => hF1 r (by omega))
                refine g_aload_n d_Pn_give_89 rfl ?_
                refine H_getR 53 d_Pn_give_90 f_Pn_31.g rfl rfl (by decide) rfl ?_
                refine g_iload_n d_Pn_give_93 rfl ?_
                refine g_iload_n d_Pn_give_94 rfl ?_
                refine C_V2 d_Pn_give_95 k_Pn_171 rfl (Nat.le_of_ble_eq_true rfl) (by decide) (Nat.le_of_ble_eq_true rfl) ?_
                refine c_St_handOver st53 hw hT1 hS1 hW (hW.mem hj) h66 (by omega) (fun mI2 hS2 hF2 => ?_)
                refine g_iload d_Pn_give_98 rfl ?_
                refine P_iret d_Pn_give_100 rfl ?_
                have e : sGi T N (nI j) m = ((hand N.1 j 5, psh N.2 N.1), nI (aH N.1 j)) := by unfold sGi; rw [if_neg hA, ej, ew, if_neg hB]
                rw [e] at k
                exact R_i (k _ hS2 (PR.to hP1 (fun r z1 z2 => hF2 r (by omega))) (fun r hr => (hF2 r (by omega)).trans (hF1 r (by omega)))) h55.symm
              · exact absurd rfl dd3
      · refine P_bipush d_Pn_give_21 (-2) rfl ?_
        refine P_iret d_Pn_give_23 rfl ?_
        have e : sGi T N p m = (N, -2) := by unfold sGi; rw [if_pos (by first | exact Or.inl (by assumption) | exact Or.inr ⟨by assumption, by assumption⟩)]
        rw [e] at k
        exact k _ hS hP Fx.rf

theorem c_Pn_shorten {X : CX} {dl : List (Nat × Nat)} {mI : Nat → Nat → Int32} {dr : Nat → Nat → Nat} {Q : Option Value → AH → Prop} {T : TD} (hw : TW T) (hT : TR 33 T mI) {N : NP} (hS : SC 53 T N.1 mI) (hW : SV T N.1) (hP : PR T N.2 mI) {p : Int32} (k : ∀ mI', SC 53 T (sSh T N p).1.1 mI' → PR T (sSh T N p).1.2 mI' → Fx 53 108 mI mI' → Q (some (.int (sSh T N p).2)) (hp X dl mI' dr)) : EW X m_Pn_shorten 0 (enL m_Pn_shorten.2.2.1 [.ref 32, .int p]) [] (hp X dl mI dr) Q := by
  show EW X m_Pn_shorten 0 [.ref 32, .int p, jk] [] (hp X dl mI dr) Q
  have hw1 := hw.1
  have hw2 := hw.2.1
  refine g_aload_n d_Pn_shorten_0 rfl ?_
  refine g_iload_n d_Pn_shorten_1 rfl ?_
  refine C_V1 d_Pn_shorten_2 k_Pn_127 rfl (Nat.le_of_ble_eq_true rfl) (by decide) (Nat.le_of_ble_eq_true rfl) ?_
  refine (c_Pn_isPromise hT.2.1 (by omega)) ?_
  refine B_ne d_Pn_shorten_5 11 (by decide) (fun c1 => ?_) (fun c1 => ?_)
  · have hc := c1
    obtain ⟨j, hj, rfl⟩ := inN_of c1 (by omega)
    have ej : tN (nI j) = j := tN_nI (by omega)
    obtain ⟨h6, -, h7, h8⟩ := hW.2.1 j hj
    refine g_aload_n d_Pn_shorten_11 rfl ?_
    refine H_getR 53 d_Pn_shorten_12 f_Pn_31.g rfl rfl (by decide) rfl ?_
    refine H_getR 55 d_Pn_shorten_15 f_Pn_133 rfl rfl (by decide) rfl ?_
    refine g_iload_n d_Pn_shorten_18 rfl ?_
    refine H_ialdN d_Pn_shorten_19 rfl rfl (by omega) (by decide) ?_
    refine T_int (nI (aW N.1 j)) (hS.2.2.2.1 j hj).1 ?_
    refine g_aload_n d_Pn_shorten_20 rfl ?_
    refine H_getR 53 d_Pn_shorten_21 f_Pn_31.g rfl rfl (by decide) rfl ?_
    refine H_getR 56 d_Pn_shorten_24 f_Pn_136 rfl rfl (by decide) rfl ?_
    refine g_iload_n d_Pn_shorten_27 rfl ?_
    refine H_ialdN d_Pn_shorten_28 rfl rfl (by omega) (by decide) ?_
    refine T_int (nI (aD N.1 j)) (hS.2.2.2.1 j hj).2.1 ?_
    refine N_isub d_Pn_shorten_29 h7 ?_
    refine N_iconst d_Pn_shorten_30 2 rfl ?_
    refine N_idiv d_Pn_shorten_31 (by omega) (by omega) (by omega) ?_
    refine S_istore_n_3_2 d_Pn_shorten_32 rfl rfl ?_
    refine g_aload_n d_Pn_shorten_33 rfl ?_
    refine H_getR 53 d_Pn_shorten_34 f_Pn_31.g rfl rfl (by decide) rfl ?_
    refine H_getR 57 d_Pn_shorten_37 f_Pn_142 rfl rfl (by decide) rfl ?_
    refine g_iload_n d_Pn_shorten_40 rfl ?_
    refine H_ialdN d_Pn_shorten_41 rfl rfl (by omega) (by decide) ?_
    refine T_int (hoI (aH N.1 j)) (hS.2.2.2.1 j hj).2.2 ?_
    refine P_iconst d_Pn_shorten_42 (-1) rfl ?_
    refine P_icmp_eq d_Pn_shorten_43 50 (by decide) (fun c2 => ?_) (fun c2 => ?_)
    · refine P_bipush d_Pn_shorten_50 (-4) rfl ?_
      refine P_iret d_Pn_shorten_52 rfl ?_
      have hB : aH N.1 j = 6 ∨ (aW N.1 j - aD N.1 j) / 2 = 0 := by first | exact Or.inl ((hoI_m1 h6).mp (by assumption)) | exact Or.inr (by assumption)
      have e : sSh T N (nI j) = (N, -4) := by unfold sSh; rw [if_neg (fun z => z c1), ej, if_pos hB]
      rw [e] at k
      exact k _ hS hP Fx.rf
    · refine g_iload_n d_Pn_shorten_46 rfl ?_
      refine N_if_ne d_Pn_shorten_47 53 (by decide) (by omega) (fun c3 => ?_) (fun c3 => ?_)
      · have hB : ¬ (aH N.1 j = 6 ∨ (aW N.1 j - aD N.1 j) / 2 = 0) := fun z => z.elim (fun y => absurd ((hoI_m1 h6).mpr y) (by assumption)) (fun y => absurd y (by assumption))
        refine g_aload_n d_Pn_shorten_53 rfl ?_
        refine H_getR 59 d_Pn_shorten_54 f_Pn_38.g rfl rfl (by decide) rfl ?_
        refine g_aload_n d_Pn_shorten_57 rfl ?_
        refine H_getR 53 d_Pn_shorten_58 f_Pn_31.g rfl rfl (by decide) rfl ?_
        refine C_V1 d_Pn_shorten_61 k_Pn_163 rfl (Nat.le_of_ble_eq_true rfl) (by decide) (Nat.le_of_ble_eq_true rfl) ?_
        refine c_Ps_remember hw hS hP (fun mI1 hP1 hF1 => ?_)
        have hT1 : TR 33 T mI1 := hT.to (fun r z1 z2 => hF1 r (by omega))
        have hS1 : SC 53 T N.1 mI1 := SR.to hS (fun r z1 z2 => hF1 r (by omega))
        refine g_aload_n d_Pn_shorten_64 rfl ?_
        refine H_getR 53 d_Pn_shorten_65 f_Pn_31.g rfl rfl (by decide) rfl ?_
        refine H_getR 55 d_Pn_shorten_68 f_Pn_133 rfl rfl (by decide) rfl ?_
        refine g_iload_n d_Pn_shorten_71 rfl ?_
        refine P_dup2 d_Pn_shorten_72 ?_
        refine H_ialdN d_Pn_shorten_73 rfl rfl (by omega) (by decide) ?_
        refine T_int (nI (aW N.1 j)) (hS1.2.2.2.1 j hj).1 ?_
        refine g_iload_n d_Pn_shorten_74 rfl ?_
        refine N_isub d_Pn_shorten_75 (by omega) ?_
        refine H_iastN d_Pn_shorten_76 rfl rfl (by omega) (by decide) ?_
        refine g_aload_n d_Pn_shorten_77 rfl ?_
        refine H_getR 53 d_Pn_shorten_78 f_Pn_31.g rfl rfl (by decide) rfl ?_
        refine H_getR 55 d_Pn_shorten_81 f_Pn_133 rfl rfl (by decide) rfl ?_
        refine g_iload_n d_Pn_shorten_84 rfl ?_
        refine H_ialdN d_Pn_shorten_85 rfl rfl (by omega) (by decide) ?_
        refine T_int (nI (aW N.1 j - (aW N.1 j - aD N.1 j) / 2)) (sI_s _ _ _ _) ?_
        refine P_iret d_Pn_shorten_86 rfl ?_
        have e : sSh T N (nI j) = ((uW N.1 j (aW N.1 j - (aW N.1 j - aD N.1 j) / 2), psh N.2 N.1), nI (aW N.1 j - (aW N.1 j - aD N.1 j) / 2)) := by unfold sSh; rw [if_neg (fun z => z c1), ej, if_neg hB]
        rw [e] at k
        have hF2 : Fa 53 mI1 (sI mI1 55 j (nI (aW N.1 j - (aW N.1 j - aD N.1 j) / 2))) := Fa_sI Fa.rf (by omega)
        exact k _ (SR.W hS1 j _) (PR.to hP1 (fun r z1 z2 => hF2 r (by omega))) (fun r hr => (hF2 r (by omega)).trans (hF1 r (by omega)))
      · refine P_bipush d_Pn_shorten_50 (-4) rfl ?_
        refine P_iret d_Pn_shorten_52 rfl ?_
        have hB : aH N.1 j = 6 ∨ (aW N.1 j - aD N.1 j) / 2 = 0 := by first | exact Or.inl ((hoI_m1 h6).mp (by assumption)) | exact Or.inr (by assumption)
        have e : sSh T N (nI j) = (N, -4) := by unfold sSh; rw [if_neg (fun z => z c1), ej, if_pos hB]
        rw [e] at k
        exact k _ hS hP Fx.rf
  · refine P_bipush d_Pn_shorten_8 (-2) rfl ?_
    refine P_iret d_Pn_shorten_10 rfl ?_
    have e : sSh T N p = (N, -2) := by unfold sSh; rw [if_pos c1]
    rw [e] at k
    exact k _ hS hP Fx.rf

theorem rkH_le (H : Nat → Nat) (p : Nat) : ∀ l : List Nat, rkH H p l ≤ l.length
  | [] => Nat.le_refl _
  | q :: l => by
    have := rkH_le H p l
    rw [rkH, List.length_cons]
    split
    · omega
    · split <;> omega
theorem c_Pn_ahead {X : CX} {dl : List (Nat × Nat)} {mI : Nat → Nat → Int32} {dr : Nat → Nat → Nat} {Q : Option Value → AH → Prop} {T : TD} (hw : TW T) (hT : TR 33 T mI) {N : NP} (hS : SC 53 T N.1 mI) (hW : SV T N.1) (hP : PR T N.2 mI) {p : Int32} (k : ∀ mI', SC 53 T (sAh T N p).1.1 mI' → PR T (sAh T N p).1.2 mI' → Fx 53 108 mI mI' → Q (some (.int (sAh T N p).2)) (hp X dl mI' dr)) : EW X m_Pn_ahead 0 (enL m_Pn_ahead.2.2.1 [.ref 32, .int p]) [] (hp X dl mI dr) Q := by
  show EW X m_Pn_ahead 0 [.ref 32, .int p, jk] [] (hp X dl mI dr) Q
  have hw1 := hw.1
  have hw2 := hw.2.1
  refine g_aload_n d_Pn_ahead_0 rfl ?_
  refine g_iload_n d_Pn_ahead_1 rfl ?_
  refine C_V1 d_Pn_ahead_2 k_Pn_127 rfl (Nat.le_of_ble_eq_true rfl) (by decide) (Nat.le_of_ble_eq_true rfl) ?_
  refine (c_Pn_isPromise hT.2.1 (by omega)) ?_
  refine B_ne d_Pn_ahead_5 11 (by decide) (fun c1 => ?_) (fun c1 => ?_)
  · have hc := c1
    obtain ⟨j, hj, rfl⟩ := inN_of c1 (by omega)
    have ej : tN (nI j) = j := tN_nI (by omega)
    have h6 := (hW.2.1 j hj).1
    have hrk := rkH_le (aH N.1) j (aR N.1)
    have hln := hW.1.1
    refine g_aload_n d_Pn_ahead_11 rfl ?_
    refine H_getR 53 d_Pn_ahead_12 f_Pn_31.g rfl rfl (by decide) rfl ?_
    refine H_getR 57 d_Pn_ahead_15 f_Pn_142 rfl rfl (by decide) rfl ?_
    refine g_iload_n d_Pn_ahead_18 rfl ?_
    refine H_ialdN d_Pn_ahead_19 rfl rfl (by omega) (by decide) ?_
    refine T_int (hoI (aH N.1 j)) (hS.2.2.2.1 j hj).2.2 ?_
    refine P_iconst d_Pn_ahead_20 (-1) rfl ?_
    refine P_icmp_ne d_Pn_ahead_21 27 (by decide) (fun c2 => ?_) (fun c2 => ?_)
    · refine g_aload_n d_Pn_ahead_27 rfl ?_
      refine H_getR 53 d_Pn_ahead_28 f_Pn_31.g rfl rfl (by decide) rfl ?_
      refine g_iload_n d_Pn_ahead_31 rfl ?_
      refine C_V1 d_Pn_ahead_32 k_Pn_175 rfl (Nat.le_of_ble_eq_true rfl) (by decide) (Nat.le_of_ble_eq_true rfl) ?_
      refine (c_St_rankOf st53 hw hT hS hW hj) ?_
      refine S_istore_n_3_2 d_Pn_ahead_35 rfl rfl ?_
      refine g_iload_n d_Pn_ahead_36 rfl ?_
      refine N_if_ne d_Pn_ahead_37 43 (by decide) (by omega) (fun c3 => ?_) (fun c3 => ?_)
      · refine g_aload_n d_Pn_ahead_43 rfl ?_
        refine H_getR 59 d_Pn_ahead_44 f_Pn_38.g rfl rfl (by decide) rfl ?_
        refine g_aload_n d_Pn_ahead_47 rfl ?_
        refine H_getR 53 d_Pn_ahead_48 f_Pn_31.g rfl rfl (by decide) rfl ?_
        refine C_V1 d_Pn_ahead_51 k_Pn_163 rfl (Nat.le_of_ble_eq_true rfl) (by decide) (Nat.le_of_ble_eq_true rfl) ?_
        refine c_Ps_remember hw hS hP (fun mI1 hP1 hF1 => ?_)
        have hT1 : TR 33 T mI1 := hT.to (fun r z1 z2 => hF1 r (by omega))
        have hS1 : SC 53 T N.1 mI1 := SR.to hS (fun r z1 z2 => hF1 r (by omega))
        refine g_aload_n d_Pn_ahead_54 rfl ?_
        refine H_getR 53 d_Pn_ahead_55 f_Pn_31.g rfl rfl (by decide) rfl ?_
        refine g_iload_n d_Pn_ahead_58 rfl ?_
        refine C_V1 d_Pn_ahead_59 k_Pn_178 rfl (Nat.le_of_ble_eq_true rfl) (by decide) (Nat.le_of_ble_eq_true rfl) ?_
        refine c_St_putFirst st53 hw hT1 hS1 hW (hW.mem hj) (fun mI2 hS2 hF2 => ?_)
        refine g_iload_n d_Pn_ahead_62 rfl ?_
        refine P_iret d_Pn_ahead_63 rfl ?_
        have e : sAh T N (nI j) = ((front N.1 j, psh N.2 N.1), nI (rkH (aH N.1) j (aR N.1))) := by unfold sAh; rw [if_neg (fun z => z c1), ej, if_neg (fun z => z.elim (fun y => c2 ((hoI_m1 h6).mpr y)) c3)]
        rw [e] at k
        exact k _ hS2 (PR.to hP1 (fun r z1 z2 => hF2 r (by omega))) (fun r hr => (hF2 r (by omega)).trans (hF1 r (by omega)))
      · refine P_bipush d_Pn_ahead_40 (-4) rfl ?_
        refine P_iret d_Pn_ahead_42 rfl ?_
        have hB := Or.inr (a := aH N.1 j = 6) c3
        have e : sAh T N (nI j) = (N, -4) := by unfold sAh; rw [if_neg (fun z => z c1), ej, if_pos hB]
        rw [e] at k
        exact k _ hS hP Fx.rf
    · refine P_bipush d_Pn_ahead_24 (-4) rfl ?_
      refine P_iret d_Pn_ahead_26 rfl ?_
      have hB := Or.inl (b := rkH (aH N.1) j (aR N.1) = 0) ((hoI_m1 h6).mp c2)
      have e : sAh T N (nI j) = (N, -4) := by unfold sAh; rw [if_neg (fun z => z c1), ej, if_pos hB]
      rw [e] at k
      exact k _ hS hP Fx.rf
  · refine P_bipush d_Pn_ahead_8 (-2) rfl ?_
    refine P_iret d_Pn_ahead_10 rfl ?_
    have e : sAh T N p = (N, -2) := by unfold sAh; rw [if_pos c1]
    rw [e] at k
    exact k _ hS hP Fx.rf

theorem c_Pn_undo {X : CX} {dl : List (Nat × Nat)} {mI : Nat → Nat → Int32} {dr : Nat → Nat → Nat} {Q : Option Value → AH → Prop} {T : TD} (hw : TW T) (hT : TR 33 T mI) {N : NP} (hS : SC 53 T N.1 mI) (hW : SV T N.1) (hP : PR T N.2 mI) (k : ∀ mI', SC 53 T (sUn N).1.1 mI' → PR T (sUn N).1.2 mI' → Fx 53 108 mI mI' → Q (some (.int (sUn N).2)) (hp X dl mI' dr)) : EW X m_Pn_undo 0 (enL m_Pn_undo.2.2.1 [.ref 32]) [] (hp X dl mI dr) Q := by
  show EW X m_Pn_undo 0 [.ref 32] [] (hp X dl mI dr) Q
  refine g_aload_n d_Pn_undo_0 rfl ?_
  refine H_getR 59 d_Pn_undo_1 f_Pn_38.g rfl rfl (by decide) rfl ?_
  refine H_getI d_Pn_undo_4 f_Pn_99.g rfl rfl (by decide) ?_
  refine T_int (nI (N.2.length)) (by obtain ⟨nx, g1, g2, g3, g4, g5⟩ := hP; exact g4) ?_
  have hlen : N.2.length ≤ 8 := by obtain ⟨nx, g1, g2, g3, g4, g5⟩ := hP; exact g2
  refine N_if_ne d_Pn_undo_7 13 (by decide) (by omega) (fun c1 => ?_) (fun c1 => ?_)
  · obtain ⟨σ, l⟩ := N
    obtain ⟨τ, l, rfl⟩ : ∃ τ l2, l = τ :: l2 := by
      cases l with
      | nil => exact absurd rfl c1
      | cons τ l2 => exact ⟨τ, l2, rfl⟩
    have e : sUn (σ, τ :: l) = ((τ, l), nI l.length) := rfl
    rw [e] at k
    refine g_aload_n d_Pn_undo_13 rfl ?_
    refine H_getR 59 d_Pn_undo_14 f_Pn_38.g rfl rfl (by decide) rfl ?_
    refine g_aload_n d_Pn_undo_17 rfl ?_
    refine H_getR 53 d_Pn_undo_18 f_Pn_31.g rfl rfl (by decide) rfl ?_
    refine C_V1 d_Pn_undo_21 k_Pn_181 rfl (Nat.le_of_ble_eq_true rfl) (by decide) (Nat.le_of_ble_eq_true rfl) ?_
    refine c_Ps_restoreLatest hw hP (fun mI1 hP1 hS1 hF1 => ?_)
    refine g_aload_n d_Pn_undo_24 rfl ?_
    refine H_getR 59 d_Pn_undo_25 f_Pn_38.g rfl rfl (by decide) rfl ?_
    refine H_getI d_Pn_undo_28 f_Pn_99.g rfl rfl (by decide) ?_
    refine T_int (nI l.length) (by obtain ⟨nx, g1, g2, g3, g4, g5⟩ := hP1; exact g4) ?_
    refine P_iret d_Pn_undo_31 rfl ?_
    exact k _ hS1 hP1 hF1
  · refine P_bipush d_Pn_undo_10 (-4) rfl ?_
    refine P_iret d_Pn_undo_12 rfl ?_
    have hn : N.2 = [] := List.length_eq_zero_iff.mp c1
    have e : sUn N = (N, -4) := by unfold sUn; rw [hn]
    rw [e] at k
    exact k _ hS hP Fx.rf

theorem st_kept {j : Nat} (h : j < 2) : StA (127 + 6 * j) := by
  rcases (show j = 0 ∨ j = 1 by omega) with rfl | rfl <;> simp [StA, stL]
theorem f_kept {j : Nat} (dr : Nat → Nat → Nat) (h : j < 2) : fR dr 109 j = 127 + 6 * j := by
  rcases (show j = 0 ∨ j = 1 by omega) with rfl | rfl <;> rfl
theorem c_Pn_keep {X : CX} {dl : List (Nat × Nat)} {mI : Nat → Nat → Int32} {dr : Nat → Nat → Nat} {Q : Option Value → AH → Prop} {T : TD} (hw : TW T) {σ : AS} (hS : SC 53 T σ mI) {kp : KP} (hK : KR T kp mI) {i : Int32} (k : ∀ mI', KR T (sKe kp σ i).1 mI' → (∀ r, r ≠ 110 → ¬ (127 ≤ r ∧ r ≤ 138) → mI' r = mI r) → Q (some (.int (sKe kp σ i).2)) (hp X dl mI' dr)) : EW X m_Pn_keep 0 (enL m_Pn_keep.2.2.1 [.ref 32, .int i]) [] (hp X dl mI dr) Q := by
  show EW X m_Pn_keep 0 [.ref 32, .int i] [] (hp X dl mI dr) Q
  refine g_iload_n d_Pn_keep_0 rfl ?_
  refine N_iconst d_Pn_keep_1 0 rfl ?_
  refine N_iconst d_Pn_keep_2 1 rfl ?_
  refine C_S3 d_Pn_keep_3 k_Pn_71 (Nat.le_of_ble_eq_true rfl) (by decide) (Nat.le_of_ble_eq_true rfl) ?_
  refine c_Pn_isWithin ?_
  refine B_ne d_Pn_keep_6 12 (by decide) (fun c1 => ?_) (fun c1 => ?_)
  · have hin := (in_N (b := 1) (by decide)).mp c1
    obtain ⟨j, hj, rfl⟩ := inN_of hin (by decide)
    have e : sKe kp σ (nI j) = (va_up kp j (some σ), nI (aY σ)) := by unfold sKe; rw [if_neg (fun z => z hin), tN_nI (by omega)]
    rw [e] at k
    have hsl := st_lay (st_kept hj) X dl
    refine g_aload_n d_Pn_keep_12 rfl ?_
    refine H_getR 109 d_Pn_keep_13 f_Pn_42.g rfl rfl (by decide) rfl ?_
    refine g_iload_n d_Pn_keep_16 rfl ?_
    refine H_aaldN (v := 127 + 6 * j) d_Pn_keep_17 (Or.inl ⟨rfl, rfl⟩) rfl rfl hj (by decide) (f_kept dr hj) ?_
    refine g_aload_n d_Pn_keep_18 rfl ?_
    refine H_getR 53 d_Pn_keep_19 f_Pn_31.g rfl rfl (by decide) rfl ?_
    refine C_V1 d_Pn_keep_22 k_Pn_184 hsl.1 (Nat.le_of_ble_eq_true rfl) (by decide) (Nat.le_of_ble_eq_true rfl) ?_
    refine c_St_copyFrom (st_kept hj) st53 (by omega) hw hS (fun mI1 hS1 hF1 => ?_)
    refine g_aload_n d_Pn_keep_25 rfl ?_
    refine H_getR 110 d_Pn_keep_26 f_Pn_46.g rfl rfl (by decide) rfl ?_
    refine g_iload_n d_Pn_keep_29 rfl ?_
    refine N_iconst d_Pn_keep_30 1 rfl ?_
    refine H_zastN d_Pn_keep_31 rfl rfl hj (by decide) (Or.inr rfl) ?_
    refine g_aload_n d_Pn_keep_32 rfl ?_
    refine H_getR 53 d_Pn_keep_33 f_Pn_31.g rfl rfl (by decide) rfl ?_
    refine H_getI d_Pn_keep_36 f_Pn_160.g rfl rfl (by decide) ?_
    refine T_int (nI (aY σ)) (by rw [sI_r (by omega), hF1 53 (by omega)]; exact hS.1) ?_
    refine P_iret d_Pn_keep_39 rfl ?_
    refine k _ (fun u hu => ?_) (fun r h1 h2 => by rw [sI_r h1]; exact hF1 r (by omega))
    show _ = bI ((va_up kp j (some σ) u).isSome = true) ∧ ∀ τ, va_up kp j (some σ) u = some τ → _
    by_cases z : u = j
    · subst z
      rw [va_up_s, sI_s]
      refine ⟨rfl, fun τ hτ => ?_⟩
      injection hτ with hτ
      subst hτ
      exact SR.to hS1 (fun r z1 z2 => sI_r (by omega))
    · rw [va_up_n _ _ z, sI_n (fun y => z y.2), hF1 110 (by omega)]
      refine ⟨(hK u hu).1, fun τ hτ => SR.to ((hK u hu).2 τ hτ) (fun r z1 z2 => (sI_r (by omega)).trans (hF1 r (by omega)))⟩
  · refine P_bipush d_Pn_keep_9 (-2) rfl ?_
    refine P_iret d_Pn_keep_11 rfl ?_
    have e : sKe kp σ i = (kp, -2) := by unfold sKe; rw [if_pos (fun z => c1 ((in_N (by decide)).mpr z))]
    rw [e] at k
    exact k _ hK (fun _ _ _ => rfl)

theorem c_Pn_back {X : CX} {dl : List (Nat × Nat)} {mI : Nat → Nat → Int32} {dr : Nat → Nat → Nat} {Q : Option Value → AH → Prop} {T : TD} (hw : TW T) (hT : TR 33 T mI) {N : NP} (hS : SC 53 T N.1 mI) (hW : SV T N.1) (hP : PR T N.2 mI) {kp : KP} (hK : KR T kp mI) {i : Int32} (k : ∀ mI', SC 53 T (sBa kp N i).1.1 mI' → PR T (sBa kp N i).1.2 mI' → Fx 53 108 mI mI' → Q (some (.int (sBa kp N i).2)) (hp X dl mI' dr)) : EW X m_Pn_back 0 (enL m_Pn_back.2.2.1 [.ref 32, .int i]) [] (hp X dl mI dr) Q := by
  show EW X m_Pn_back 0 [.ref 32, .int i] [] (hp X dl mI dr) Q
  refine g_iload_n d_Pn_back_0 rfl ?_
  refine N_iconst d_Pn_back_1 0 rfl ?_
  refine N_iconst d_Pn_back_2 1 rfl ?_
  refine C_S3 d_Pn_back_3 k_Pn_71 (Nat.le_of_ble_eq_true rfl) (by decide) (Nat.le_of_ble_eq_true rfl) ?_
  refine c_Pn_isWithin ?_
  refine B_ne d_Pn_back_6 12 (by decide) (fun c1 => ?_) (fun c1 => ?_)
  · have hin := (in_N (b := 1) (by decide)).mp c1
    obtain ⟨j, hj, rfl⟩ := inN_of hin (by decide)
    have ej : tN (nI j) = j := tN_nI (by omega)
    have hsl := st_lay (st_kept hj) X dl
    refine g_aload_n d_Pn_back_12 rfl ?_
    refine H_getR 110 d_Pn_back_13 f_Pn_46.g rfl rfl (by decide) rfl ?_
    refine g_iload_n d_Pn_back_16 rfl ?_
    refine H_zaldN d_Pn_back_17 rfl rfl hj (by decide) ?_
    refine T_int (bI ((kp j).isSome = true)) (hK j hj).1 ?_
    rcases hq : kp j with _ | τ
    · refine P_if_ne d_Pn_back_18 24 (by decide) (fun z => absurd rfl z) (fun _ => ?_)
      refine P_bipush d_Pn_back_21 (-4) rfl ?_
      refine P_iret d_Pn_back_23 rfl ?_
      have e : sBa kp N (nI j) = (N, -4) := by unfold sBa; rw [if_neg (fun z => z hin), ej, hq]
      rw [e] at k
      exact k _ hS hP Fx.rf
    · refine P_if_ne d_Pn_back_18 24 (by decide) (fun _ => ?_) (fun z => absurd (show (1 : Int32) = 0 from z) (by decide))
      refine g_aload_n d_Pn_back_24 rfl ?_
      refine H_getR 53 d_Pn_back_25 f_Pn_31.g rfl rfl (by decide) rfl ?_
      refine g_aload_n d_Pn_back_28 rfl ?_
      refine H_getR 109 d_Pn_back_29 f_Pn_42.g rfl rfl (by decide) rfl ?_
      refine g_iload_n d_Pn_back_32 rfl ?_
      refine H_aaldN (v := 127 + 6 * j) d_Pn_back_33 (Or.inl ⟨rfl, rfl⟩) rfl rfl hj (by decide) (f_kept dr hj) ?_
      refine C_V1 d_Pn_back_34 k_Pn_184 rfl (Nat.le_of_ble_eq_true rfl) (by decide) (Nat.le_of_ble_eq_true rfl) ?_
      refine c_St_copyFrom st53 (st_kept hj) (by omega) hw ((hK j hj).2 τ hq) (fun mI1 hS1 hF1 => ?_)
      refine g_aload_n d_Pn_back_37 rfl ?_
      refine H_getR 59 d_Pn_back_38 f_Pn_38.g rfl rfl (by decide) rfl ?_
      refine N_iconst d_Pn_back_41 0 rfl ?_
      refine H_putI d_Pn_back_42 f_Pn_99 rfl rfl (by decide) ?_
      refine g_aload_n d_Pn_back_45 rfl ?_
      refine H_getR 53 d_Pn_back_46 f_Pn_31.g rfl rfl (by decide) rfl ?_
      refine H_getI d_Pn_back_49 f_Pn_160.g rfl rfl (by decide) ?_
      refine T_int (nI (aY τ)) (by rw [sI_r (by omega)]; exact hS1.1) ?_
      refine P_iret d_Pn_back_52 rfl ?_
      have e : sBa kp N (nI j) = ((τ, []), nI (aY τ)) := by unfold sBa; rw [if_neg (fun z => z hin), ej, hq]
      rw [e] at k
      exact k _ (SR.to hS1 (fun r z1 z2 => sI_r (by omega))) (PR_nil hP.nx (by rw [sI_n (by omega), hF1 59 (by omega)]) (sI_s _ _ _ _)) (Fx_sI (fun r hr => hF1 r (by omega)) (by omega))
  · refine P_bipush d_Pn_back_9 (-2) rfl ?_
    refine P_iret d_Pn_back_11 rfl ?_
    have e : sBa kp N i = (N, -2) := by unfold sBa; rw [if_pos (fun z => c1 ((in_N (by decide)).mpr z))]
    rw [e] at k
    exact k _ hS hP Fx.rf

theorem c_Pn_seen {X : CX} {dl : List (Nat × Nat)} {mI : Nat → Nat → Int32} {dr : Nat → Nat → Nat} {Q : Option Value → AH → Prop} {G : GD} (hG : GR G mI) (hg : GW G) {s n d : Int32} (k : ∀ mI', GR (sSe G s n d).1 mI' → Fx 121 124 mI mI' → Q (some (.int (sSe G s n d).2)) (hp X dl mI' dr)) : EW X m_Pn_seen 0 (enL m_Pn_seen.2.2.1 [.ref 32, .int s, .int n, .int d]) [] (hp X dl mI dr) Q := by
  show EW X m_Pn_seen 0 [.ref 32, .int s, .int n, .int d] [] (hp X dl mI dr) Q
  refine g_iload_n d_Pn_seen_0 rfl ?_
  refine N_iconst d_Pn_seen_1 1 rfl ?_
  refine N_bipush d_Pn_seen_2 9 rfl ?_
  refine C_S3 d_Pn_seen_4 k_Pn_71 (Nat.le_of_ble_eq_true rfl) (by decide) (Nat.le_of_ble_eq_true rfl) ?_
  refine c_Pn_isWithin ?_
  refine B_eq d_Pn_seen_7 31 (by decide) (fun c1 => ?_) (fun c1 => ?_)
  · refine P_bipush d_Pn_seen_31 (-3) rfl ?_
    refine P_iret d_Pn_seen_33 rfl ?_
    have hA : ¬ (1 ≤ s.toInt ∧ s.toInt ≤ 9) ∨ ¬ (1 ≤ n.toInt ∧ n.toInt ≤ 9) ∨ ¬ inN d 201 := by
      first
        | exact Or.inl (fun z => absurd ((in_lo (a := 1) (b := 9) (by decide) (by decide)).mpr z) (by assumption))
        | exact Or.inr (Or.inl (fun z => absurd ((in_lo (a := 1) (b := 9) (by decide) (by decide)).mpr z) (by assumption)))
        | exact Or.inr (Or.inr (fun z => absurd ((in_N (b := 200) (by decide)).mpr z) (by assumption)))
    have e : sSe G s n d = (G, -3) := by unfold sSe; rw [if_pos hA]
    rw [e] at k
    exact k _ hG Fx.rf
  · refine g_iload_n d_Pn_seen_10 rfl ?_
    refine N_iconst d_Pn_seen_11 1 rfl ?_
    refine N_bipush d_Pn_seen_12 9 rfl ?_
    refine C_S3 d_Pn_seen_14 k_Pn_71 (Nat.le_of_ble_eq_true rfl) (by decide) (Nat.le_of_ble_eq_true rfl) ?_
    refine c_Pn_isWithin ?_
    refine B_eq d_Pn_seen_17 31 (by decide) (fun c2 => ?_) (fun c2 => ?_)
    · refine P_bipush d_Pn_seen_31 (-3) rfl ?_
      refine P_iret d_Pn_seen_33 rfl ?_
      have hA : ¬ (1 ≤ s.toInt ∧ s.toInt ≤ 9) ∨ ¬ (1 ≤ n.toInt ∧ n.toInt ≤ 9) ∨ ¬ inN d 201 := by
        first
          | exact Or.inl (fun z => absurd ((in_lo (a := 1) (b := 9) (by decide) (by decide)).mpr z) (by assumption))
          | exact Or.inr (Or.inl (fun z => absurd ((in_lo (a := 1) (b := 9) (by decide) (by decide)).mpr z) (by assumption)))
          | exact Or.inr (Or.inr (fun z => absurd ((in_N (b := 200) (by decide)).mpr z) (by assumption)))
      have e : sSe G s n d = (G, -3) := by unfold sSe; rw [if_pos hA]
      rw [e] at k
      exact k _ hG Fx.rf
    · refine g_iload_n d_Pn_seen_20 rfl ?_
      refine N_iconst d_Pn_seen_21 0 rfl ?_
      refine N_sipush d_Pn_seen_22 200 rfl ?_
      refine C_S3 d_Pn_seen_25 k_Pn_71 (Nat.le_of_ble_eq_true rfl) (by decide) (Nat.le_of_ble_eq_true rfl) ?_
      refine c_Pn_isWithin ?_
      refine B_ne d_Pn_seen_28 34 (by decide) (fun c3 => ?_) (fun c3 => ?_)
      · have h1 := (in_lo (a := 1) (b := 9) (by decide) (by decide)).mp c1
        have h2 := (in_lo (a := 1) (b := 9) (by decide) (by decide)).mp c2
        have h3 := (in_N (b := 200) (by decide)).mp c3
        have hA : ¬ (¬ (1 ≤ s.toInt ∧ s.toInt ≤ 9) ∨ ¬ (1 ≤ n.toInt ∧ n.toInt ≤ 9) ∨ ¬ inN d 201) := fun z => z.elim (fun y => y h1) (fun z => z.elim (fun y => y h2) (fun y => y h3))
        clear c1 c2 c3
        obtain ⟨a, ha1, ha2, rfl⟩ := in_ex (by decide) h1
        obtain ⟨b, hb1, hb2, rfl⟩ := in_ex (by decide) h2
        obtain ⟨c, hc, rfl⟩ := inN_of h3 (by decide)
        rcases (show G.1 = 6 ∨ G.1 < 6 by have := hg.1; omega) with h6 | h6
        · have e : sSe G (nI a) (nI b) (nI c) = (G, -5) := by unfold sSe; rw [if_neg hA, if_pos h6]
          rw [e] at k
          refine g_aload_n d_Pn_seen_34 rfl ?_
          refine H_getR 121 d_Pn_seen_35 f_Pn_60.g rfl rfl (by decide) rfl ?_
          refine g_iload_n d_Pn_seen_38 rfl ?_
          refine g_iload_n d_Pn_seen_39 rfl ?_
          refine g_iload_n d_Pn_seen_40 rfl ?_
          refine C_V3 d_Pn_seen_41 k_Pn_221 rfl (Nat.le_of_ble_eq_true rfl) (by decide) (Nat.le_of_ble_eq_true rfl) ?_
          refine c_Sg_addF hG h6 ?_
          refine N_if_eq d_Pn_seen_44 57 (by decide) (by omega) (fun dd1 => ?_) (fun dd1 => ?_)
          · refine P_bipush d_Pn_seen_57 (-5) rfl ?_
            refine P_iret d_Pn_seen_59 rfl ?_
            exact k _ hG Fx.rf
          · exact absurd rfl dd1
        · have e : sSe G (nI a) (nI b) (nI c) = (gAdd G a b c, nI (G.1 + 1)) := by unfold sSe; rw [if_neg hA, if_neg (by omega), tN_nI (by omega), tN_nI (by omega), tN_nI (by omega)]
          rw [e] at k
          refine g_aload_n d_Pn_seen_34 rfl ?_
          refine H_getR 121 d_Pn_seen_35 f_Pn_60.g rfl rfl (by decide) rfl ?_
          refine g_iload_n d_Pn_seen_38 rfl ?_
          refine g_iload_n d_Pn_seen_39 rfl ?_
          refine g_iload_n d_Pn_seen_40 rfl ?_
          refine C_V3 d_Pn_seen_41 k_Pn_221 rfl (Nat.le_of_ble_eq_true rfl) (by decide) (Nat.le_of_ble_eq_true rfl) ?_
          refine c_Sg_add hG h6 (fun mI1 hG1 hF1 => ?_)
          refine N_if_eq d_Pn_seen_44 57 (by decide) (by omega) (fun dd1 => ?_) (fun dd1 => ?_)
          · omega
          · refine g_aload_n d_Pn_seen_47 rfl ?_
            refine H_getR 121 d_Pn_seen_48 f_Pn_60.g rfl rfl (by decide) rfl ?_
            refine H_getI d_Pn_seen_51 f_Pn_102.g rfl rfl (by decide) ?_
            refine T_int (nI (G.1 + 1)) hG1.1 ?_
            refine P_goto d_Pn_seen_54 59 (by decide) ?_
            refine P_iret d_Pn_seen_59 rfl ?_
            exact k _ hG1 hF1
      · refine P_bipush d_Pn_seen_31 (-3) rfl ?_
        refine P_iret d_Pn_seen_33 rfl ?_
        have hA : ¬ (1 ≤ s.toInt ∧ s.toInt ≤ 9) ∨ ¬ (1 ≤ n.toInt ∧ n.toInt ≤ 9) ∨ ¬ inN d 201 := by
          first
            | exact Or.inl (fun z => absurd ((in_lo (a := 1) (b := 9) (by decide) (by decide)).mpr z) (by assumption))
            | exact Or.inr (Or.inl (fun z => absurd ((in_lo (a := 1) (b := 9) (by decide) (by decide)).mpr z) (by assumption)))
            | exact Or.inr (Or.inr (fun z => absurd ((in_N (b := 200) (by decide)).mpr z) (by assumption)))
        have e : sSe G s n d = (G, -3) := by unfold sSe; rw [if_pos hA]
        rw [e] at k
        exact k _ hG Fx.rf

theorem c_Pn_forget {X : CX} {dl : List (Nat × Nat)} {mI : Nat → Nat → Int32} {dr : Nat → Nat → Nat} {Q : Option Value → AH → Prop} {G : GD} (hG : GR G mI) (k : ∀ mI', GR (0, G.2) mI' → Fx 121 124 mI mI' → Q (some (.int (nI G.1))) (hp X dl mI' dr)) : EW X m_Pn_forget 0 (enL m_Pn_forget.2.2.1 [.ref 32]) [] (hp X dl mI dr) Q := by
  show EW X m_Pn_forget 0 [.ref 32, jk] [] (hp X dl mI dr) Q
  refine g_aload_n d_Pn_forget_0 rfl ?_
  refine H_getR 121 d_Pn_forget_1 f_Pn_60.g rfl rfl (by decide) rfl ?_
  refine H_getI d_Pn_forget_4 f_Pn_102.g rfl rfl (by decide) ?_
  refine T_int (nI G.1) hG.1 ?_
  refine S_istore_n_2_1 d_Pn_forget_7 rfl rfl ?_
  refine g_aload_n d_Pn_forget_8 rfl ?_
  refine H_getR 121 d_Pn_forget_9 f_Pn_60.g rfl rfl (by decide) rfl ?_
  refine N_iconst d_Pn_forget_12 0 rfl ?_
  refine H_putI d_Pn_forget_13 f_Pn_102 rfl rfl (by decide) ?_
  refine g_iload_n d_Pn_forget_16 rfl ?_
  refine P_iret d_Pn_forget_17 rfl ?_
  exact k _ ⟨sI_s _ _ _ _, fun i hi => absurd hi (Nat.not_lt_zero _)⟩ (Fx_sI Fx.rf (by omega))

theorem c_Pn_kinds {X : CX} {dl : List (Nat × Nat)} {mI : Nat → Nat → Int32} {dr : Nat → Nat → Nat} {Q : Option Value → AH → Prop} {G : GD} (hg : GW G) (hG : GR G mI) (k : Q (some (.int (nI (pkN G 5)))) (hp X dl mI dr)) : EW X m_Pn_kinds 0 (enL m_Pn_kinds.2.2.1 [.ref 32]) [] (hp X dl mI dr) Q := by
  show EW X m_Pn_kinds 0 [.ref 32] [] (hp X dl mI dr) Q
  refine g_aload_n d_Pn_kinds_0 rfl ?_
  refine H_getR 121 d_Pn_kinds_1 f_Pn_60.g rfl rfl (by decide) rfl ?_
  refine C_V0 d_Pn_kinds_4 k_Pn_224 rfl (Nat.le_of_ble_eq_true rfl) (by decide) (Nat.le_of_ble_eq_true rfl) ?_
  refine (c_Sg_possibleKinds hg hG) ?_
  refine P_iret d_Pn_kinds_7 rfl ?_
  exact k

theorem c_Pn_attempt {X : CX} {dl : List (Nat × Nat)} {mI : Nat → Nat → Int32} {dr : Nat → Nat → Nat} {Q : Option Value → AH → Prop} {G : GD} (hg : GW G) (hG : GR G mI) (k : Q (some (.int (aAt G))) (hp X dl mI dr)) : EW X m_Pn_attempt 0 (enL m_Pn_attempt.2.2.1 [.ref 32]) [] (hp X dl mI dr) Q := by
  show EW X m_Pn_attempt 0 [.ref 32] [] (hp X dl mI dr) Q
  refine g_aload_n d_Pn_attempt_0 rfl ?_
  refine H_getR 121 d_Pn_attempt_1 f_Pn_60.g rfl rfl (by decide) rfl ?_
  refine C_V0 d_Pn_attempt_4 k_Pn_224 rfl (Nat.le_of_ble_eq_true rfl) (by decide) (Nat.le_of_ble_eq_true rfl) ?_
  refine (c_Sg_possibleKinds hg hG) ?_
  refine C_S1 d_Pn_attempt_7 k_Pn_227 (Nat.le_of_ble_eq_true rfl) (by decide) (Nat.le_of_ble_eq_true rfl) ?_
  refine (c_Sg_bestStrength (pkN_lt G 5)) ?_
  refine P_iret d_Pn_attempt_10 rfl ?_
  exact k

theorem c_Pn_count {X : CX} {dl : List (Nat × Nat)} {mI : Nat → Nat → Int32} {dr : Nat → Nat → Nat} {Q : Option Value → AH → Prop} {T : TD} (hw : TW T) (hT : TR 33 T mI) {N : NP} (hS : SC 53 T N.1 mI) (hW : SV T N.1) (hP : PR T N.2 mI) {t : Nat → Int32} {L : Nat} (hX : XR t L mI) {G : GD} (hG : GR G mI) {S : RS} (hC : CG S dl dr mI) {w : Int32} (k : Q (some (.int (aCo T L N G (rsN S 3) w))) (hp X dl mI dr)) : EW X m_Pn_count 0 (enL m_Pn_count.2.2.1 [.ref 32, .int w]) [] (hp X dl mI dr) Q := by
  show EW X m_Pn_count 0 [.ref 32, .int w] [] (hp X dl mI dr) Q
  have hw1 := hw.1
  have hw2 := hw.2.1
  refine g_iload_n d_Pn_count_0 rfl ?_
  by_cases q0 : w = nI 0
  · rw [q0]
    refine P_tableIn d_Pn_count_1 (59) 60 (by decide) (by decide) rfl (by decide) ?_
    refine g_aload_n d_Pn_count_60 rfl ?_
    refine H_getR 33 d_Pn_count_61 f_Pn_10.g rfl rfl (by decide) rfl ?_
    refine H_getI d_Pn_count_64 f_Pn_278.g rfl rfl (by decide) ?_
    refine T_int (nI (tn T)) hT.1 ?_
    refine P_iret d_Pn_count_67 rfl ?_
    exact R_i k (by unfold aCo; rw [if_pos q0])
  by_cases q1 : w = nI 1
  · rw [q1]
    refine P_tableIn d_Pn_count_1 (67) 68 (by decide) (by decide) rfl (by decide) ?_
    refine g_aload_n d_Pn_count_68 rfl ?_
    refine H_getR 33 d_Pn_count_69 f_Pn_10.g rfl rfl (by decide) rfl ?_
    refine H_getI d_Pn_count_72 f_Pn_281.g rfl rfl (by decide) ?_
    refine T_int (nI (tP T)) hT.2.1 ?_
    refine P_iret d_Pn_count_75 rfl ?_
    exact R_i k (by unfold aCo; rw [if_neg q0, if_pos q1])
  by_cases q2 : w = nI 2
  · rw [q2]
    refine P_tableIn d_Pn_count_1 (75) 76 (by decide) (by decide) rfl (by decide) ?_
    refine g_aload_n d_Pn_count_76 rfl ?_
    refine H_getR 53 d_Pn_count_77 f_Pn_31.g rfl rfl (by decide) rfl ?_
    refine H_getI d_Pn_count_80 f_Pn_160.g rfl rfl (by decide) ?_
    refine T_int (nI (aY N.1)) hS.1 ?_
    refine P_iret d_Pn_count_83 rfl ?_
    exact R_i k (by unfold aCo; rw [if_neg q0, if_neg q1, if_pos q2])
  by_cases q3 : w = nI 3
  · rw [q3]
    refine P_tableIn d_Pn_count_1 (83) 84 (by decide) (by decide) rfl (by decide) ?_
    refine g_aload_n d_Pn_count_84 rfl ?_
    refine H_getR 53 d_Pn_count_85 f_Pn_31.g rfl rfl (by decide) rfl ?_
    refine C_V0 d_Pn_count_88 k_Pn_284 rfl (Nat.le_of_ble_eq_true rfl) (by decide) (Nat.le_of_ble_eq_true rfl) ?_
    refine (c_St_deadOnes st53 hw hT hS hW) ?_
    refine P_iret d_Pn_count_91 rfl ?_
    exact R_i k (by unfold aCo; rw [if_neg q0, if_neg q1, if_neg q2, if_pos q3])
  by_cases q4 : w = nI 4
  · rw [q4]
    refine P_tableIn d_Pn_count_1 (91) 92 (by decide) (by decide) rfl (by decide) ?_
    refine g_aload_n d_Pn_count_92 rfl ?_
    refine H_getR 53 d_Pn_count_93 f_Pn_31.g rfl rfl (by decide) rfl ?_
    refine H_getI d_Pn_count_96 f_Pn_145.g rfl rfl (by decide) ?_
    refine T_int (nI (KO T N.1)) hS.2.1 ?_
    refine P_iret d_Pn_count_99 rfl ?_
    exact R_i k (by unfold aCo; rw [if_neg q0, if_neg q1, if_neg q2, if_neg q3, if_pos q4])
  by_cases q5 : w = nI 5
  · rw [q5]
    refine P_tableIn d_Pn_count_1 (99) 100 (by decide) (by decide) rfl (by decide) ?_
    refine g_aload_n d_Pn_count_100 rfl ?_
    refine H_getR 53 d_Pn_count_101 f_Pn_31.g rfl rfl (by decide) rfl ?_
    refine N_iconst d_Pn_count_104 5 rfl ?_
    refine C_V1 d_Pn_count_105 k_Pn_119 rfl (Nat.le_of_ble_eq_true rfl) (by decide) (Nat.le_of_ble_eq_true rfl) ?_
    refine (c_St_howManyHeldBy st53 hw hT hS hW (by omega)) ?_
    refine P_iret d_Pn_count_108 rfl ?_
    exact R_i k (by unfold aCo; rw [if_neg q0, if_neg q1, if_neg q2, if_neg q3, if_neg q4, if_pos q5])
  by_cases q6 : w = nI 6
  · rw [q6]
    refine P_tableIn d_Pn_count_1 (108) 109 (by decide) (by decide) rfl (by decide) ?_
    refine g_aload_n d_Pn_count_109 rfl ?_
    refine H_getR 53 d_Pn_count_110 f_Pn_31.g rfl rfl (by decide) rfl ?_
    refine C_V0 d_Pn_count_113 k_Pn_287 rfl (Nat.le_of_ble_eq_true rfl) (by decide) (Nat.le_of_ble_eq_true rfl) ?_
    refine (c_St_allDone st53 hw hT hS hW) ?_
    refine P_iret d_Pn_count_116 rfl ?_
    exact R_i k (by unfold aCo; rw [if_neg q0, if_neg q1, if_neg q2, if_neg q3, if_neg q4, if_neg q5, if_pos q6])
  by_cases q7 : w = nI 7
  · rw [q7]
    refine P_tableIn d_Pn_count_1 (116) 117 (by decide) (by decide) rfl (by decide) ?_
    refine g_aload_n d_Pn_count_117 rfl ?_
    refine H_getR 121 d_Pn_count_118 f_Pn_60.g rfl rfl (by decide) rfl ?_
    refine H_getI d_Pn_count_121 f_Pn_102.g rfl rfl (by decide) ?_
    refine T_int (nI G.1) hG.1 ?_
    refine P_iret d_Pn_count_124 rfl ?_
    exact R_i k (by unfold aCo; rw [if_neg q0, if_neg q1, if_neg q2, if_neg q3, if_neg q4, if_neg q5, if_neg q6, if_pos q7])
  by_cases q8 : w = nI 8
  · rw [q8]
    refine P_tableIn d_Pn_count_1 (124) 125 (by decide) (by decide) rfl (by decide) ?_
    refine g_aload_n d_Pn_count_125 rfl ?_
    refine H_getR 125 d_Pn_count_126 f_Pn_67.g rfl rfl (by decide) rfl ?_
    refine C_V0 d_Pn_count_129 k_Pn_290 rfl (Nat.le_of_ble_eq_true rfl) (by decide) (Nat.le_of_ble_eq_true rfl) ?_
    refine (c_Sh_registersThere hC) ?_
    refine P_iret d_Pn_count_132 rfl ?_
    exact R_i k (by unfold aCo; rw [if_neg q0, if_neg q1, if_neg q2, if_neg q3, if_neg q4, if_neg q5, if_neg q6, if_neg q7, if_pos q8])
  by_cases q9 : w = nI 9
  · rw [q9]
    refine P_tableIn d_Pn_count_1 (132) 133 (by decide) (by decide) rfl (by decide) ?_
    refine g_aload_n d_Pn_count_133 rfl ?_
    refine H_getR 59 d_Pn_count_134 f_Pn_38.g rfl rfl (by decide) rfl ?_
    refine H_getI d_Pn_count_137 f_Pn_99.g rfl rfl (by decide) ?_
    refine T_int (nI N.2.length) (by obtain ⟨nx, g1, g2, g3, g4, g5⟩ := hP; exact g4) ?_
    refine P_iret d_Pn_count_140 rfl ?_
    exact R_i k (by unfold aCo; rw [if_neg q0, if_neg q1, if_neg q2, if_neg q3, if_neg q4, if_neg q5, if_neg q6, if_neg q7, if_neg q8, if_pos q9])
  by_cases q10 : w = nI 10
  · rw [q10]
    refine P_tableIn d_Pn_count_1 (140) 141 (by decide) (by decide) rfl (by decide) ?_
    refine g_aload_n d_Pn_count_141 rfl ?_
    refine H_getR 51 d_Pn_count_142 f_Pn_22.g rfl rfl (by decide) rfl ?_
    refine H_getI d_Pn_count_145 f_Pn_79.g rfl rfl (by decide) ?_
    refine T_int (nI L) hX.2.1 ?_
    refine P_iret d_Pn_count_148 rfl ?_
    exact R_i k (by unfold aCo; rw [if_neg q0, if_neg q1, if_neg q2, if_neg q3, if_neg q4, if_neg q5, if_neg q6, if_neg q7, if_neg q8, if_neg q9, if_pos q10])
  refine P_tableOut d_Pn_count_1 149 (by decide) (sw_out 10 (fun j hj => by rcases (show j = 0 ∨ j = 1 ∨ j = 2 ∨ j = 3 ∨ j = 4 ∨ j = 5 ∨ j = 6 ∨ j = 7 ∨ j = 8 ∨ j = 9 ∨ j = 10 by omega) with rfl | rfl | rfl | rfl | rfl | rfl | rfl | rfl | rfl | rfl | rfl <;> assumption)) ?_
  refine P_bipush d_Pn_count_149 (-3) rfl ?_
  refine P_iret d_Pn_count_151 rfl ?_
  exact R_i k (by unfold aCo; rw [if_neg q0, if_neg q1, if_neg q2, if_neg q3, if_neg q4, if_neg q5, if_neg q6, if_neg q7, if_neg q8, if_neg q9, if_neg q10])

