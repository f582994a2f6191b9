theorem c_Md_takesMan {X : CX} {dl : List (Nat × Nat)} {mI : Nat → Nat → Int32} {dr : Nat → Nat → Nat} {Q : Option Value → AH → Prop} {t : Nat → Int32} {L x : Nat} {T : TD} (hw : TW T) (hK : TKM t L x mI) (hT : TM 19 23 151 T mI) (k : ∀ mI', ((rdMan t L T x).1 = true → TKM t L (rdMan t L T x).2.2 mI' ∧ TM 19 23 151 (rdMan t L T x).2.1 mI') → ((rdMan t L T x).1 = false → mI' 139 16 = nI (tkB t L (rdMan t L T x).2.2)) → F8 [15, 16, 17, 18, 19, 23, 30] mI mI' → Q (some (.int (bI ((rdMan t L T x).1 = true)))) (hp X dl mI' dr)) : EW X m_Md_takesMan 0 (enL m_Md_takesMan.2.2.1 [.ref 139]) [] (hp X dl mI dr) Q := by
  show EW X m_Md_takesMan 0 [.ref 139, jk, jk, jk] [] (hp X dl mI dr) Q
  have hw1 := hw.1
  have hw2 := hw.2.1
  refine g_aload_n d_Md_takesMan_0 rfl ?_
  refine H_getI d_Md_takesMan_1 f_Md_176.g rfl rfl (by decide) ?_
  refine T_int (nI (tn T)) hT.1 ?_
  refine N_iconst d_Md_takesMan_4 5 rfl ?_
  refine N_icmp_ne d_Md_takesMan_5 10 (by decide) ⟨by omega, by omega⟩ (fun c1 => ?_) (fun c1 => ?_)
  · refine g_aload_n d_Md_takesMan_10 rfl ?_
    refine C_V0 d_Md_takesMan_11 k_Md_153 rfl (Nat.le_of_ble_eq_true rfl) (by decide) (Nat.le_of_ble_eq_true rfl) ?_
    refine c_Md_passesToken hK (fun mI1 hK1 hF1 => ?_)
    have hT1 := hT.f9 hF1 (by decide)
    have hE1 := hF1.e mo1
    refine g_aload_n d_Md_takesMan_14 rfl ?_
    refine N_iconst d_Md_takesMan_15 1 rfl ?_
    refine N_bipush d_Md_takesMan_16 9 rfl ?_
    refine C_V2 d_Md_takesMan_18 k_Md_179 rfl (Nat.le_of_ble_eq_true rfl) (by decide) (Nat.le_of_ble_eq_true rfl) ?_
    refine c_Md_takesNumber (lo := 1) (n := 10) hK1 (by decide) rfl (fun mI2 hy2 hn2 hF2 => ?_)
    have hT2 := hT1.f9 hF2 (by decide)
    have hE2 := hE1.tr (hF2.e mo2)
    refine B_ne d_Md_takesMan_21 26 (by decide) (fun c2 => ?_) (fun c2 => ?_)
    · obtain ⟨hK2, h302⟩ := hy2 c2
      have hm2 := nm_le c2.1
      refine g_aload_n d_Md_takesMan_26 rfl ?_
      refine H_getI d_Md_takesMan_27 f_Md_150.g rfl rfl (by decide) ?_
      refine T_int (nI (nm t L (tkE t L x))) h302 ?_
      refine S_istore_n_4_1 d_Md_takesMan_30 rfl rfl ?_
      refine g_aload_n d_Md_takesMan_31 rfl ?_
      refine N_iconst d_Md_takesMan_32 1 rfl ?_
      refine N_bipush d_Md_takesMan_33 60 rfl ?_
      refine C_V2 d_Md_takesMan_35 k_Md_179 rfl (Nat.le_of_ble_eq_true rfl) (by decide) (Nat.le_of_ble_eq_true rfl) ?_
      refine c_Md_takesNumber (lo := 1) (n := 61) hK2 (by decide) rfl (fun mI3 hy3 hn3 hF3 => ?_)
      have hT3 := hT2.f9 hF3 (by decide)
      have hE3 := hE2.tr (hF3.e mo2)
      refine B_ne d_Md_takesMan_38 43 (by decide) (fun c3 => ?_) (fun c3 => ?_)
      · obtain ⟨hK3, h303⟩ := hy3 c3
        have hm3 := nm_le c3.1
        have hs3 := tkS_le t L (tkE t L (tkE t L (tkE t L x)))
        refine g_aload_n d_Md_takesMan_43 rfl ?_
        refine H_getI d_Md_takesMan_44 f_Md_150.g rfl rfl (by decide) ?_
        refine T_int (nI (nm t L (tkE t L (tkE t L x)))) h303 ?_
        refine S_istore_n_4_2 d_Md_takesMan_47 rfl rfl ?_
        refine P_iconst d_Md_takesMan_48 (-1) rfl ?_
        refine S_istore_n_4_3 d_Md_takesMan_49 rfl rfl ?_
        refine g_aload_n d_Md_takesMan_50 rfl ?_
        refine H_getI d_Md_takesMan_51 f_Md_140.g rfl rfl (by decide) ?_
        refine T_int (nI (tkS t L (tkE t L (tkE t L (tkE t L x))))) hK3.2.2.1 ?_
        refine N_iconst d_Md_takesMan_54 2 rfl ?_
        refine N_icmp_ne d_Md_takesMan_55 79 (by decide) ⟨by omega, by omega⟩ (fun c4 => ?_) (fun c4 => ?_)
        · have e : rdMan t L T x = (true, tPer T (nm t L (tkE t L x)) (nm t L (tkE t L (tkE t L x))) 0, tkE t L (tkE t L (tkE t L x))) := by unfold rdMan; rw [if_neg (show ¬ 5 ≤ tn T by omega), if_neg (fun z => z c2), if_neg (fun z => z c3), if_neg c4]
          rw [e] at k
          refine t_Md_takesMan (c := 0) hT3 (by omega) (fun mI5 hT5 hF5 => ?_)
          exact R_i (k mI5 (fun _ => ⟨hK3.f8 hF5 (by decide), hT5⟩) (fun z => by cases z) (hE3.tr (hF5.mo (by decide)))) (bI_t' rfl)
        · refine g_aload_n d_Md_takesMan_58 rfl ?_
          refine N_iconst d_Md_takesMan_59 0 rfl ?_
          refine g_aload_n d_Md_takesMan_60 rfl ?_
          refine H_getI d_Md_takesMan_61 f_Md_176.g rfl rfl (by decide) ?_
          refine T_int (nI (tn T)) hT3.1 ?_
          refine N_iconst d_Md_takesMan_64 1 rfl ?_
          refine P_isub d_Md_takesMan_65 ?_
          refine C_V2 d_Md_takesMan_66 k_Md_179 rfl (Nat.le_of_ble_eq_true rfl) (by decide) (Nat.le_of_ble_eq_true rfl) ?_
          refine c_Md_takesNumber (lo := 0) (n := tn T) hK3 (by decide) (nI_m1 (by omega)) (fun mI4 hy4 hn4 hF4 => ?_)
          have hT4 := hT3.f9 hF4 (by decide)
          have hE4 := hE3.tr (hF4.e mo2)
          refine B_ne d_Md_takesMan_69 74 (by decide) (fun c5 => ?_) (fun c5 => ?_)
          · obtain ⟨hK4, h304⟩ := hy4 c5
            refine g_aload_n d_Md_takesMan_74 rfl ?_
            refine H_getI d_Md_takesMan_75 f_Md_150.g rfl rfl (by decide) ?_
            refine T_int (hrI (nm t L (tkE t L (tkE t L (tkE t L x))) + 1)) h304 ?_
            refine S_istore_n_4_3 d_Md_takesMan_78 rfl rfl ?_
            have e : rdMan t L T x = (true, tPer T (nm t L (tkE t L x)) (nm t L (tkE t L (tkE t L x))) (nm t L (tkE t L (tkE t L (tkE t L x))) + 1), tkE t L (tkE t L (tkE t L (tkE t L x)))) := by unfold rdMan; rw [if_neg (show ¬ 5 ≤ tn T by omega), if_neg (fun z => z c2), if_neg (fun z => z c3), if_pos c4, if_neg (fun z => z c5)]
            rw [e] at k
            refine t_Md_takesMan hT4 (by omega) (fun mI5 hT5 hF5 => ?_)
            exact R_i (k mI5 (fun _ => ⟨hK4.f8 hF5 (by decide), hT5⟩) (fun z => by cases z) (hE4.tr (hF5.mo (by decide)))) (bI_t' rfl)
          · refine N_iconst d_Md_takesMan_72 0 rfl ?_
            refine P_zret d_Md_takesMan_73 rfl (by decide) ?_
            have e : rdMan t L T x = (false, T, tkE t L (tkE t L (tkE t L x))) := by unfold rdMan; rw [if_neg (show ¬ 5 ≤ tn T by omega), if_neg (fun z => z c2), if_neg (fun z => z c3), if_pos c4, if_pos c5]
            rw [e] at k
            exact R_i (k mI4 (fun z => by cases z) (fun _ => (hn4 c5).2.2.2.1) hE4) (bI_f' (fun z => by cases z))
      · refine N_iconst d_Md_takesMan_41 0 rfl ?_
        refine P_zret d_Md_takesMan_42 rfl (by decide) ?_
        have e : rdMan t L T x = (false, T, tkE t L (tkE t L x)) := by unfold rdMan; rw [if_neg (show ¬ 5 ≤ tn T by omega), if_neg (fun z => z c2), if_pos c3]
        rw [e] at k
        exact R_i (k mI3 (fun z => by cases z) (fun _ => (hn3 c3).2.2.2.1) hE3) (bI_f' (fun z => by cases z))
    · refine N_iconst d_Md_takesMan_24 0 rfl ?_
      refine P_zret d_Md_takesMan_25 rfl (by decide) ?_
      have e : rdMan t L T x = (false, T, tkE t L x) := by unfold rdMan; rw [if_neg (show ¬ 5 ≤ tn T by omega), if_pos c2]
      rw [e] at k
      exact R_i (k mI2 (fun z => by cases z) (fun _ => (hn2 c2).2.2.2.1) hE2) (bI_f' (fun z => by cases z))
  · refine N_iconst d_Md_takesMan_8 0 rfl ?_
    refine P_zret d_Md_takesMan_9 rfl (by decide) ?_
    have e : rdMan t L T x = (false, T, x) := by unfold rdMan; rw [if_pos (by omega)]
    rw [e] at k
    exact R_i (k mI (fun z => by cases z) (fun _ => hK.2.2.2.1) F8.rf) (bI_f' (fun z => by cases z))

theorem c_Md_takesPromise {X : CX} {dl : List (Nat × Nat)} {mI : Nat → Nat → Int32} {dr : Nat → Nat → Nat} {Q : Option Value → AH → Prop} {t : Nat → Int32} {L x : Nat} {T : TD} (hw : TW T) (hK : TKM t L x mI) (hT : TM 19 23 151 T mI) {kd : Nat} (k : ∀ mI', ((rdPro t L kd T x).1 = true → TKM t L (rdPro t L kd T x).2.2 mI' ∧ TM 19 23 151 (rdPro t L kd T x).2.1 mI') → ((rdPro t L kd T x).1 = false → mI' 139 16 = nI (tkB t L (rdPro t L kd T x).2.2)) → F8 [15, 16, 17, 18, 19, 23, 30] mI mI' → Q (some (.int (bI ((rdPro t L kd T x).1 = true)))) (hp X dl mI' dr)) : EW X m_Md_takesPromise 0 (enL m_Md_takesPromise.2.2.1 [.ref 139, .int (nI kd)]) [] (hp X dl mI dr) Q := by
  show EW X m_Md_takesPromise 0 [.ref 139, .int (nI kd), jk, jk] [] (hp X dl mI dr) Q
  have hw1 := hw.1
  have hw2 := hw.2.1
  refine g_aload_n d_Md_takesPromise_0 rfl ?_
  refine H_getI d_Md_takesPromise_1 f_Md_183.g rfl rfl (by decide) ?_
  refine T_int (nI (tP T)) hT.2.1 ?_
  refine N_bipush d_Md_takesPromise_4 10 rfl ?_
  refine N_icmp_ne d_Md_takesPromise_6 11 (by decide) ⟨by omega, by omega⟩ (fun c1 => ?_) (fun c1 => ?_)
  · refine g_aload_n d_Md_takesPromise_11 rfl ?_
    refine C_V0 d_Md_takesPromise_12 k_Md_153 rfl (Nat.le_of_ble_eq_true rfl) (by decide) (Nat.le_of_ble_eq_true rfl) ?_
    refine c_Md_passesToken hK (fun mI1 hK1 hF1 => ?_)
    have hT1 := hT.f9 hF1 (by decide)
    have hE1 := hF1.e mo1
    refine g_aload_n d_Md_takesPromise_15 rfl ?_
    refine N_iconst d_Md_takesPromise_16 0 rfl ?_
    refine g_aload_n d_Md_takesPromise_17 rfl ?_
    refine H_getI d_Md_takesPromise_18 f_Md_176.g rfl rfl (by decide) ?_
    refine T_int (nI (tn T)) hT1.1 ?_
    refine N_iconst d_Md_takesPromise_21 1 rfl ?_
    refine P_isub d_Md_takesPromise_22 ?_
    refine C_V2 d_Md_takesPromise_23 k_Md_179 rfl (Nat.le_of_ble_eq_true rfl) (by decide) (Nat.le_of_ble_eq_true rfl) ?_
    refine c_Md_takesNumber (lo := 0) (n := tn T) hK1 (by decide) (nI_m1 (by omega)) (fun mI2 hy2 hn2 hF2 => ?_)
    have hT2 := hT1.f9 hF2 (by decide)
    have hE2 := hE1.tr (hF2.e mo2)
    refine B_ne d_Md_takesPromise_26 31 (by decide) (fun c2 => ?_) (fun c2 => ?_)
    · obtain ⟨hK2, h302⟩ := hy2 c2
      have hm2 := nm_le c2.1
      refine g_aload_n d_Md_takesPromise_31 rfl ?_
      refine H_getI d_Md_takesPromise_32 f_Md_150.g rfl rfl (by decide) ?_
      refine T_int (nI (nm t L (tkE t L x))) h302 ?_
      refine S_istore_n_4_2 d_Md_takesPromise_35 rfl rfl ?_
      refine g_aload_n d_Md_takesPromise_36 rfl ?_
      refine N_iconst d_Md_takesPromise_37 1 rfl ?_
      refine N_bipush d_Md_takesPromise_38 40 rfl ?_
      refine C_V2 d_Md_takesPromise_40 k_Md_179 rfl (Nat.le_of_ble_eq_true rfl) (by decide) (Nat.le_of_ble_eq_true rfl) ?_
      refine c_Md_takesNumber (lo := 1) (n := 41) hK2 (by decide) rfl (fun mI3 hy3 hn3 hF3 => ?_)
      have hT3 := hT2.f9 hF3 (by decide)
      have hE3 := hE2.tr (hF3.e mo2)
      refine B_ne d_Md_takesPromise_43 48 (by decide) (fun c3 => ?_) (fun c3 => ?_)
      · obtain ⟨hK3, h303⟩ := hy3 c3
        have hm3 := nm_le c3.1
        have hs3 := tkS_le t L (tkE t L (tkE t L (tkE t L x)))
        refine g_aload_n d_Md_takesPromise_48 rfl ?_
        refine H_getI d_Md_takesPromise_49 f_Md_150.g rfl rfl (by decide) ?_
        refine T_int (nI (nm t L (tkE t L (tkE t L x)))) h303 ?_
        refine S_istore_n_4_3 d_Md_takesPromise_52 rfl rfl ?_
        refine g_aload_n d_Md_takesPromise_53 rfl ?_
        refine N_iconst d_Md_takesPromise_54 0 rfl ?_
        refine H_putI d_Md_takesPromise_55 f_Md_150 rfl rfl (by decide) ?_
        have hF33 : F9 [30] mI3 (sI mI3 139 30 (nI 0)) := F9_sI F9.rf (by decide)
        have hK33 := hK3.f9 hF33 (by decide)
        have hT33 := hT3.f9 hF33 (by decide)
        have hE33 := hE3.tr (hF33.e (by decide))
        have h30z : sI mI3 139 30 (nI 0) 139 30 = nI 0 := sI_s _ _ _ _
        generalize sI mI3 139 30 (nI 0) = mI33 at *
        refine g_aload_n d_Md_takesPromise_58 rfl ?_
        refine H_getI d_Md_takesPromise_59 f_Md_140.g rfl rfl (by decide) ?_
        refine T_int (nI (tkS t L (tkE t L (tkE t L (tkE t L x))))) hK33.2.2.1 ?_
        refine N_iconst d_Md_takesPromise_62 1 rfl ?_
        refine N_icmp_ne d_Md_takesPromise_63 75 (by decide) ⟨by omega, by omega⟩ (fun c4 => ?_) (fun c4 => ?_)
        · have e : rdPro t L kd T x = (true, tPro T kd (nm t L (tkE t L (tkE t L x))) 0 (nm t L (tkE t L x)), tkE t L (tkE t L (tkE t L x))) := by unfold rdPro; rw [if_neg (show ¬ 10 ≤ tP T by omega), if_neg (fun z => z c2), if_neg (fun z => z c3), if_neg c4]
          rw [e] at k
          refine t_Md_takesPromise hT33 (by omega) h30z (fun mI5 hT5 hF5 => ?_)
          exact R_i (k mI5 (fun _ => ⟨hK33.f8 hF5 (by decide), hT5⟩) (fun z => by cases z) (hE33.tr (hF5.mo (by decide)))) (bI_t' rfl)
        · refine g_aload_n d_Md_takesPromise_66 rfl ?_
          refine C_V0 d_Md_takesPromise_67 k_Md_186 rfl (Nat.le_of_ble_eq_true rfl) (by decide) (Nat.le_of_ble_eq_true rfl) ?_
          refine c_Md_takesNeeds hK33 c4 hw2 hT33.2.1 (fun mI4 hy4 hn4 hF4 => ?_)
          have hT4 := hT33.f9 hF4 (by decide)
          have hE4 := hE33.tr (hF4.e mo2)
          refine B_ne d_Md_takesPromise_70 75 (by decide) (fun c5 => ?_) (fun c5 => ?_)
          · obtain ⟨nd, hnd⟩ := Option.isSome_iff_exists.mp c5
            obtain ⟨hK4, h304⟩ := hy4 nd hnd
            have e : rdPro t L kd T x = (true, tPro T kd (nm t L (tkE t L (tkE t L x))) nd (nm t L (tkE t L x)), tkE t L (tkE t L (tkE t L (tkE t L x)))) := by unfold rdPro; rw [if_neg (show ¬ 10 ≤ tP T by omega), if_neg (fun z => z c2), if_neg (fun z => z c3), if_pos c4, hnd]
            rw [e] at k
            refine t_Md_takesPromise hT4 (by omega) h304 (fun mI5 hT5 hF5 => ?_)
            exact R_i (k mI5 (fun _ => ⟨hK4.f8 hF5 (by decide), hT5⟩) (fun z => by cases z) (hE4.tr (hF5.mo (by decide)))) (bI_t' rfl)
          · refine N_iconst d_Md_takesPromise_73 0 rfl ?_
            refine P_zret d_Md_takesPromise_74 rfl (by decide) ?_
            have hno : ndW t L (tkE t L (tkE t L (tkE t L x))) (tP T) = none := by
              cases hq : ndW t L (tkE t L (tkE t L (tkE t L x))) (tP T) with
              | none => rfl
              | some nd => rw [hq] at c5; exact absurd rfl c5
            have e : rdPro t L kd T x = (false, T, tkE t L (tkE t L (tkE t L x))) := by unfold rdPro; rw [if_neg (show ¬ 10 ≤ tP T by omega), if_neg (fun z => z c2), if_neg (fun z => z c3), if_pos c4, hno]
            rw [e] at k
            exact R_i (k mI4 (fun z => by cases z) (fun _ => (hn4 hno).2.2.2.1) hE4) (bI_f' (fun z => by cases z))
      · refine N_iconst d_Md_takesPromise_46 0 rfl ?_
        refine P_zret d_Md_takesPromise_47 rfl (by decide) ?_
        have e : rdPro t L kd T x = (false, T, tkE t L (tkE t L x)) := by unfold rdPro; rw [if_neg (show ¬ 10 ≤ tP T by omega), if_neg (fun z => z c2), if_pos c3]
        rw [e] at k
        exact R_i (k mI3 (fun z => by cases z) (fun _ => (hn3 c3).2.2.2.1) hE3) (bI_f' (fun z => by cases z))
    · refine N_iconst d_Md_takesPromise_29 0 rfl ?_
      refine P_zret d_Md_takesPromise_30 rfl (by decide) ?_
      have e : rdPro t L kd T x = (false, T, tkE t L x) := by unfold rdPro; rw [if_neg (show ¬ 10 ≤ tP T by omega), if_pos c2]
      rw [e] at k
      exact R_i (k mI2 (fun z => by cases z) (fun _ => (hn2 c2).2.2.2.1) hE2) (bI_f' (fun z => by cases z))
  · refine N_iconst d_Md_takesPromise_9 0 rfl ?_
    refine P_zret d_Md_takesPromise_10 rfl (by decide) ?_
    have e : rdPro t L kd T x = (false, T, x) := by unfold rdPro; rw [if_pos (by omega)]
    rw [e] at k
    exact R_i (k mI (fun z => by cases z) (fun _ => hK.2.2.2.1) F8.rf) (bI_f' (fun z => by cases z))

theorem c_Md_takesStrife {X : CX} {dl : List (Nat × Nat)} {mI : Nat → Nat → Int32} {dr : Nat → Nat → Nat} {Q : Option Value → AH → Prop} {t : Nat → Int32} {L x : Nat} {T : TD} (hw : TW T) (hK : TKM t L x mI) (hT : TM 19 23 151 T mI) (k : ∀ mI', ((rdStr t L T x).1 = true → TKM t L (rdStr t L T x).2.2 mI' ∧ TM 19 23 151 (rdStr t L T x).2.1 mI') → ((rdStr t L T x).1 = false → mI' 139 16 = nI (tkB t L (rdStr t L T x).2.2)) → F8 [15, 16, 17, 18, 19, 23, 30] mI mI' → Q (some (.int (bI ((rdStr t L T x).1 = true)))) (hp X dl mI' dr)) : EW X m_Md_takesStrife 0 (enL m_Md_takesStrife.2.2.1 [.ref 139]) [] (hp X dl mI dr) Q := by
  show EW X m_Md_takesStrife 0 [.ref 139, jk, jk] [] (hp X dl mI dr) Q
  have hw1 := hw.1
  have hw2 := hw.2.1
  refine g_aload_n d_Md_takesStrife_0 rfl ?_
  refine C_V0 d_Md_takesStrife_1 k_Md_153 rfl (Nat.le_of_ble_eq_true rfl) (by decide) (Nat.le_of_ble_eq_true rfl) ?_
  refine c_Md_passesToken hK (fun mI1 hK1 hF1 => ?_)
  have hT1 := hT.f9 hF1 (by decide)
  have hE1 := hF1.e mo1
  refine g_aload_n d_Md_takesStrife_4 rfl ?_
  refine N_iconst d_Md_takesStrife_5 0 rfl ?_
  refine g_aload_n d_Md_takesStrife_6 rfl ?_
  refine H_getI d_Md_takesStrife_7 f_Md_183.g rfl rfl (by decide) ?_
  refine T_int (nI (tP T)) hT1.2.1 ?_
  refine N_iconst d_Md_takesStrife_10 1 rfl ?_
  refine P_isub d_Md_takesStrife_11 ?_
  refine C_V2 d_Md_takesStrife_12 k_Md_179 rfl (Nat.le_of_ble_eq_true rfl) (by decide) (Nat.le_of_ble_eq_true rfl) ?_
  refine c_Md_takesNumber (lo := 0) (n := tP T) hK1 (by decide) (nI_m1 (by omega)) (fun mI2 hy2 hn2 hF2 => ?_)
  have hT2 := hT1.f9 hF2 (by decide)
  have hE2 := hE1.tr (hF2.e mo2)
  refine B_ne d_Md_takesStrife_15 20 (by decide) (fun c1 => ?_) (fun c1 => ?_)
  · obtain ⟨hK2, h302⟩ := hy2 c1
    have hm2 := nm_le c1.1
    refine g_aload_n d_Md_takesStrife_20 rfl ?_
    refine H_getI d_Md_takesStrife_21 f_Md_150.g rfl rfl (by decide) ?_
    refine T_int (nI (nm t L (tkE t L x))) h302 ?_
    refine S_istore_n_3_1 d_Md_takesStrife_24 rfl rfl ?_
    refine g_aload_n d_Md_takesStrife_25 rfl ?_
    refine H_getI d_Md_takesStrife_26 f_Md_134.g rfl rfl (by decide) ?_
    refine T_int (nI (tkB t L (tkE t L (tkE t L x)))) hK2.2.2.2.1 ?_
    refine S_istore_n_3_2 d_Md_takesStrife_29 rfl rfl ?_
    refine g_aload_n d_Md_takesStrife_30 rfl ?_
    refine N_iconst d_Md_takesStrife_31 0 rfl ?_
    refine g_aload_n d_Md_takesStrife_32 rfl ?_
    refine H_getI d_Md_takesStrife_33 f_Md_183.g rfl rfl (by decide) ?_
    refine T_int (nI (tP T)) hT2.2.1 ?_
    refine N_iconst d_Md_takesStrife_36 1 rfl ?_
    refine P_isub d_Md_takesStrife_37 ?_
    refine C_V2 d_Md_takesStrife_38 k_Md_179 rfl (Nat.le_of_ble_eq_true rfl) (by decide) (Nat.le_of_ble_eq_true rfl) ?_
    refine c_Md_takesNumber (lo := 0) (n := tP T) hK2 (by decide) (nI_m1 (by omega)) (fun mI3 hy3 hn3 hF3 => ?_)
    have hT3 := hT2.f9 hF3 (by decide)
    have hE3 := hE2.tr (hF3.e mo2)
    refine B_ne d_Md_takesStrife_41 46 (by decide) (fun c2 => ?_) (fun c2 => ?_)
    · obtain ⟨hK3, h303⟩ := hy3 c2
      have hm3 := nm_le c2.1
      refine g_aload_n d_Md_takesStrife_46 rfl ?_
      refine H_getI d_Md_takesStrife_47 f_Md_150.g rfl rfl (by decide) ?_
      refine T_int (nI (nm t L (tkE t L (tkE t L x)))) h303 ?_
      refine g_iload_n d_Md_takesStrife_50 rfl ?_
      refine N_icmp_ne d_Md_takesStrife_51 61 (by decide) ⟨by omega, by omega⟩ (fun c3 => ?_) (fun c3 => ?_)
      · have e : rdStr t L T x = (true, tStr T (nm t L (tkE t L x)) (nm t L (tkE t L (tkE t L x))), tkE t L (tkE t L (tkE t L x))) := by unfold rdStr; rw [if_neg (fun z => z c1), if_neg (fun z => z c2), if_neg c3]
        rw [e] at k
        refine t_Md_takesStrife hw hT3 c1.2.2.2 c2.2.2.2 c3 h303 (fun mI5 hT5 hF5 => ?_)
        exact R_i (k mI5 (fun _ => ⟨hK3.f8 hF5 (by decide), hT5⟩) (fun z => by cases z) (hE3.tr (hF5.mo (by decide)))) (bI_t' rfl)
      · refine g_aload_n d_Md_takesStrife_54 rfl ?_
        refine g_iload_n d_Md_takesStrife_55 rfl ?_
        refine H_putI d_Md_takesStrife_56 f_Md_134 rfl rfl (by decide) ?_
        refine N_iconst d_Md_takesStrife_59 0 rfl ?_
        refine P_zret d_Md_takesStrife_60 rfl (by decide) ?_
        have e : rdStr t L T x = (false, T, tkE t L (tkE t L x)) := by unfold rdStr; rw [if_neg (fun z => z c1), if_neg (fun z => z c2), if_pos c3]
        rw [e] at k
        exact R_i (k _ (fun z => by cases z) (fun _ => sI_s _ _ _ _) (F8_sI hE3 (by decide))) (bI_f' (fun z => by cases z))
    · refine N_iconst d_Md_takesStrife_44 0 rfl ?_
      refine P_zret d_Md_takesStrife_45 rfl (by decide) ?_
      have e : rdStr t L T x = (false, T, tkE t L (tkE t L x)) := by unfold rdStr; rw [if_neg (fun z => z c1), if_pos c2]
      rw [e] at k
      exact R_i (k mI3 (fun z => by cases z) (fun _ => (hn3 c2).2.2.2.1) hE3) (bI_f' (fun z => by cases z))
  · refine N_iconst d_Md_takesStrife_18 0 rfl ?_
    refine P_zret d_Md_takesStrife_19 rfl (by decide) ?_
    have e : rdStr t L T x = (false, T, tkE t L x) := by unfold rdStr; rw [if_pos c1]
    rw [e] at k
    exact R_i (k mI2 (fun z => by cases z) (fun _ => (hn2 c1).2.2.2.1) hE2) (bI_f' (fun z => by cases z))

theorem lp_Md_takesParish {X : CX} {dl : List (Nat × Nat)} {mI : Nat → Nat → Int32} {dr : Nat → Nat → Nat} {Q : Option Value → AH → Prop} (k : ∀ mI', (∀ p, p < 10 → mI' 158 p = nI 0) → (∀ q, q ≠ 158 → mI' q = mI q) → Q none (hp X dl mI' dr)) : ∀ (d : Nat) (i : Nat) (mI2 : Nat → Nat → Int32), (i ≤ 10) → (∀ p, p < i → mI2 158 p = nI 0) → (∀ q, q ≠ 158 → mI2 q = mI q) → 10 - i = d → EW X m_Md_takesParish 16 [.ref 139, .int (nI i)] [] (hp X dl mI2 dr) Q := by
  intro d
  induction d using Nat.strongRecOn with
  | _ d ih =>
    intro i mI2 hi h1 h2 hd
    refine g_iload_n d_Md_takesParish_16 rfl ?_
    refine N_bipush d_Md_takesParish_17 10 rfl ?_
    refine N_icmp_ge d_Md_takesParish_19 35 (by decide) ⟨by omega, by omega⟩ (fun c1 => ?_) (fun c1 => ?_)
    · refine P_vret d_Md_takesParish_35 rfl ?_
      exact k mI2 (fun p hp1 => h1 p (by omega)) h2
    · refine g_aload_n d_Md_takesParish_22 rfl ?_
      refine H_getR 158 d_Md_takesParish_23 f_Md_65.g rfl rfl (by decide) rfl ?_
      refine g_iload_n d_Md_takesParish_26 rfl ?_
      refine N_iconst d_Md_takesParish_27 0 rfl ?_
      refine H_iastN d_Md_takesParish_28 rfl rfl (by omega) (by decide) ?_
      refine N_iinc_2_1_1 d_Md_takesParish_29 rfl rfl ?_
      refine P_goto d_Md_takesParish_32 16 (by decide) ?_
      refine ih (10 - (i + 1)) (by omega) (i + 1) _ (by omega) (fun p hp1 => ?_) (fun q hq => by rw [sI_r hq]; exact h2 q hq) rfl
      by_cases z : p = i
      · rw [z]; exact sI_s _ _ _ _
      · rw [sI_n (fun y => z y.2)]; exact h1 p (by omega)

theorem c_Md_takesParish {X : CX} {dl : List (Nat × Nat)} {mI : Nat → Nat → Int32} {dr : Nat → Nat → Nat} {Q : Option Value → AH → Prop} {t : Nat → Int32} {L x : Nat} {T : TD} (hw : TW T) (hK : TKM t L x mI) (hT : TM 19 23 151 T mI) (k : ∀ mI', TKM t L (tkE t L x) mI' → TM 19 23 151 (tClr T) mI' → F8 [15, 16, 17, 18, 19, 23, 30] mI mI' → Q none (hp X dl mI' dr)) : EW X m_Md_takesParish 0 (enL m_Md_takesParish.2.2.1 [.ref 139]) [] (hp X dl mI dr) Q := by
  show EW X m_Md_takesParish 0 [.ref 139, jk] [] (hp X dl mI dr) Q
  refine g_aload_n d_Md_takesParish_0 rfl ?_
  refine C_V0 d_Md_takesParish_1 k_Md_153 rfl (Nat.le_of_ble_eq_true rfl) (by decide) (Nat.le_of_ble_eq_true rfl) ?_
  refine c_Md_passesToken hK (fun mI1 hK1 hF1 => ?_)
  have hE1 := hF1.e mo1
  refine g_aload_n d_Md_takesParish_4 rfl ?_
  refine N_iconst d_Md_takesParish_5 0 rfl ?_
  refine H_putI d_Md_takesParish_6 f_Md_176 rfl rfl (by decide) ?_
  refine g_aload_n d_Md_takesParish_9 rfl ?_
  refine N_iconst d_Md_takesParish_10 0 rfl ?_
  refine H_putI d_Md_takesParish_11 f_Md_183 rfl rfl (by decide) ?_
  refine N_iconst d_Md_takesParish_14 0 rfl ?_
  refine S_istore_n_2_1 d_Md_takesParish_15 rfl rfl ?_
  have hE2 : F8 [19, 23] mI1 (sI (sI mI1 139 19 (nI 0)) 139 23 (nI 0)) := F8_sI (F8_sI F8.rf (by decide)) (by decide)
  have h19 : (sI (sI mI1 139 19 (nI 0)) 139 23 (nI 0)) 139 19 = nI 0 := by rw [sI_n (by omega), sI_s]
  have h23 : (sI (sI mI1 139 19 (nI 0)) 139 23 (nI 0)) 139 23 = nI 0 := sI_s _ _ _ _
  generalize sI (sI mI1 139 19 (nI 0)) 139 23 (nI 0) = mI2 at *
  refine lp_Md_takesParish (fun mI3 g1 g2 => ?_) _ 0 mI2 (Nat.zero_le _) (fun p hp1 => absurd hp1 (Nat.not_lt_zero _)) (fun _ _ => rfl) rfl
  have hE3 : F8 [19, 23] mI1 mI3 := ⟨fun q z1 z2 => (g2 q (by omega)).trans (hE2.1 q z1 z2), fun f hf => (congrFun (g2 139 (by omega)) f).trans (hE2.2 f hf)⟩
  refine k mI3 (hK1.f8 hE3 (by decide)) ⟨?_, ?_, fun i hi => absurd hi (Nat.not_lt_zero _), fun p hp1 => absurd hp1 (Nat.not_lt_zero _), fun p _ hp1 => g1 p hp1⟩ (hE1.tr (hE3.mo (by decide)))
  · rw [g2 139 (by omega)]; exact h19
  · rw [g2 139 (by omega)]; exact h23

theorem cl_no {t : Nat → Int32} {L x : Nat} {T : TD} (h : whC t L x = 0) : rdCl t L T x = (false, T, x) := by
  unfold whC at h
  unfold rdCl kwC
  repeat (split at h; · cases h)
  rename_i h3 h4 h5 h6 h7 h1 h2 h0
  rw [if_neg h0, if_neg h1, if_neg h2, if_neg h3, if_neg h4, if_neg h5, if_neg h6, if_neg h7]
theorem cl_hx {t : Nat → Int32} {L x i : Nat} (hi : i < 8) (h : isW t L x i) : ∀ j, j < 8 → j ≠ i → ¬ isW t L x j := fun j hj hne z => hne (isW_one hj hi z h)
theorem cl_0 {t : Nat → Int32} {L x : Nat} {T : TD} (h : isW t L x 0) : rdCl t L T x = (true, tClr T, tkE t L x) ∧ whC t L x = 8 := by
  have hx := cl_hx (i := 0) (by decide) h
  unfold rdCl whC
  refine ⟨if_pos h, ?_⟩
  rw [if_neg (hx 3 (by decide) (by decide)), if_neg (hx 4 (by decide) (by decide)), if_neg (hx 5 (by decide) (by decide)), if_neg (hx 6 (by decide) (by decide)), if_neg (hx 7 (by decide) (by decide)), if_neg (hx 1 (by decide) (by decide)), if_neg (hx 2 (by decide) (by decide)), if_pos h]
theorem cl_1 {t : Nat → Int32} {L x : Nat} {T : TD} (h : isW t L x 1) : rdCl t L T x = rdMan t L T x ∧ whC t L x = 6 := by
  have hx := cl_hx (i := 1) (by decide) h
  unfold rdCl whC
  refine ⟨(if_neg (hx 0 (by decide) (by decide))).trans (if_pos h), ?_⟩
  rw [if_neg (hx 3 (by decide) (by decide)), if_neg (hx 4 (by decide) (by decide)), if_neg (hx 5 (by decide) (by decide)), if_neg (hx 6 (by decide) (by decide)), if_neg (hx 7 (by decide) (by decide)), if_pos h]
theorem cl_2 {t : Nat → Int32} {L x : Nat} {T : TD} (h : isW t L x 2) : rdCl t L T x = rdStr t L T x ∧ whC t L x = 7 := by
  have hx := cl_hx (i := 2) (by decide) h
  unfold rdCl whC
  refine ⟨(if_neg (hx 0 (by decide) (by decide))).trans ((if_neg (hx 1 (by decide) (by decide))).trans (if_pos h)), ?_⟩
  rw [if_neg (hx 3 (by decide) (by decide)), if_neg (hx 4 (by decide) (by decide)), if_neg (hx 5 (by decide) (by decide)), if_neg (hx 6 (by decide) (by decide)), if_neg (hx 7 (by decide) (by decide)), if_neg (hx 1 (by decide) (by decide)), if_pos h]
theorem cl_k {t : Nat → Int32} {L x : Nat} {T : TD} {kd : Nat} (h0 : ¬ isW t L x 0) (h1 : ¬ isW t L x 1) (h2 : ¬ isW t L x 2) (hk : kwC t L x = kd + 1) : rdCl t L T x = rdPro t L kd T x := by
  unfold rdCl
  rw [if_neg h0, if_neg h1, if_neg h2, hk]
theorem kw_3 {t : Nat → Int32} {L x : Nat} (h : isW t L x 3) : kwC t L x = 0 + 1 ∧ whC t L x = 0 + 1 := by
  have hx := cl_hx (i := 3) (by decide) h
  unfold kwC whC
  refine ⟨?_, ?_⟩
  · rw [if_pos h]
  · rw [if_pos h]
theorem kw_4 {t : Nat → Int32} {L x : Nat} (h : isW t L x 4) : kwC t L x = 1 + 1 ∧ whC t L x = 1 + 1 := by
  have hx := cl_hx (i := 4) (by decide) h
  unfold kwC whC
  refine ⟨?_, ?_⟩
  · rw [if_neg (hx 3 (by decide) (by decide)), if_pos h]
  · rw [if_neg (hx 3 (by decide) (by decide)), if_pos h]
theorem kw_5 {t : Nat → Int32} {L x : Nat} (h : isW t L x 5) : kwC t L x = 2 + 1 ∧ whC t L x = 2 + 1 := by
  have hx := cl_hx (i := 5) (by decide) h
  unfold kwC whC
  refine ⟨?_, ?_⟩
  · rw [if_neg (hx 3 (by decide) (by decide)), if_neg (hx 4 (by decide) (by decide)), if_pos h]
  · rw [if_neg (hx 3 (by decide) (by decide)), if_neg (hx 4 (by decide) (by decide)), if_pos h]
theorem kw_6 {t : Nat → Int32} {L x : Nat} (h : isW t L x 6) : kwC t L x = 3 + 1 ∧ whC t L x = 3 + 1 := by
  have hx := cl_hx (i := 6) (by decide) h
  unfold kwC whC
  refine ⟨?_, ?_⟩
  · rw [if_neg (hx 3 (by decide) (by decide)), if_neg (hx 4 (by decide) (by decide)), if_neg (hx 5 (by decide) (by decide)), if_pos h]
  · rw [if_neg (hx 3 (by decide) (by decide)), if_neg (hx 4 (by decide) (by decide)), if_neg (hx 5 (by decide) (by decide)), if_pos h]
theorem kw_7 {t : Nat → Int32} {L x : Nat} (h : isW t L x 7) : kwC t L x = 4 + 1 ∧ whC t L x = 4 + 1 := by
  have hx := cl_hx (i := 7) (by decide) h
  unfold kwC whC
  refine ⟨?_, ?_⟩
  · rw [if_neg (hx 3 (by decide) (by decide)), if_neg (hx 4 (by decide) (by decide)), if_neg (hx 5 (by decide) (by decide)), if_neg (hx 6 (by decide) (by decide)), if_pos h]
  · rw [if_neg (hx 3 (by decide) (by decide)), if_neg (hx 4 (by decide) (by decide)), if_neg (hx 5 (by decide) (by decide)), if_neg (hx 6 (by decide) (by decide)), if_pos h]
theorem cl_p {t : Nat → Int32} {L x : Nat} {T : TD} {kd : Nat} (hk : kd < 5) (h : isW t L x (kd + 3)) : rdCl t L T x = rdPro t L kd T x ∧ whC t L x = kd + 1 := by
  have hx := cl_hx (i := kd + 3) (by omega) h
  have hkw : kwC t L x = kd + 1 ∧ whC t L x = kd + 1 := by
    rcases (show kd = 0 ∨ kd = 1 ∨ kd = 2 ∨ kd = 3 ∨ kd = 4 by omega) with rfl | rfl | rfl | rfl | rfl
    · exact kw_3 h
    · exact kw_4 h
    · exact kw_5 h
    · exact kw_6 h
    · exact kw_7 h
  exact ⟨cl_k (hx 0 (by decide) (by omega)) (hx 1 (by decide) (by omega)) (hx 2 (by decide) (by omega)) hkw.1, hkw.2⟩
theorem wh_one {t : Nat → Int32} {L x : Nat} (h : whC t L x ≠ 0) : ∃ i, i < 8 ∧ isW t L x i := by
  unfold whC at h
  split at h
  · exact ⟨3, by decide, by assumption⟩
  split at h
  · exact ⟨4, by decide, by assumption⟩
  split at h
  · exact ⟨5, by decide, by assumption⟩
  split at h
  · exact ⟨6, by decide, by assumption⟩
  split at h
  · exact ⟨7, by decide, by assumption⟩
  split at h
  · exact ⟨1, by decide, by assumption⟩
  split at h
  · exact ⟨2, by decide, by assumption⟩
  split at h
  · exact ⟨0, by decide, by assumption⟩
  · exact absurd rfl h
theorem T_loc7 {X : CX} {h : AH} {Q : Option Value → AH → Prop} (k : EW X m_Md_takesClause 5 [.ref 139, .int (nI 7)] [] h Q) : EW X m_Md_takesClause 5 [.ref 139, .int (hrI 8)] [] h Q := k
theorem T_loc5 {X : CX} {h : AH} {Q : Option Value → AH → Prop} (k : EW X m_Md_takesClause 5 [.ref 139, .int (nI 5)] [] h Q) : EW X m_Md_takesClause 5 [.ref 139, .int (hrI 6)] [] h Q := k
theorem T_loc6 {X : CX} {h : AH} {Q : Option Value → AH → Prop} (k : EW X m_Md_takesClause 5 [.ref 139, .int (nI 6)] [] h Q) : EW X m_Md_takesClause 5 [.ref 139, .int (hrI 7)] [] h Q := k
theorem T_lock {X : CX} {h : AH} {Q : Option Value → AH → Prop} {kd : Nat} (k : EW X m_Md_takesClause 5 [.ref 139, .int (nI kd)] [] h Q) : EW X m_Md_takesClause 5 [.ref 139, .int (hrI (kd + 1))] [] h Q := k
theorem c_Md_takesClause {X : CX} {dl : List (Nat × Nat)} {mI : Nat → Nat → Int32} {dr : Nat → Nat → Nat} {Q : Option Value → AH → Prop} {t : Nat → Int32} {L x : Nat} {T : TD} (hw : TW T) (hK : TKM t L x mI) (hT : TM 19 23 151 T mI) (k : ∀ mI', ((rdCl t L T x).1 = true → TKM t L (rdCl t L T x).2.2 mI' ∧ TM 19 23 151 (rdCl t L T x).2.1 mI') → ((rdCl t L T x).1 = false → mI' 139 16 = nI (tkB t L (rdCl t L T x).2.2)) → F8 [15, 16, 17, 18, 19, 23, 30] mI mI' → Q (some (.int (bI ((rdCl t L T x).1 = true)))) (hp X dl mI' dr)) : EW X m_Md_takesClause 0 (enL m_Md_takesClause.2.2.1 [.ref 139]) [] (hp X dl mI dr) Q := by
  show EW X m_Md_takesClause 0 [.ref 139, jk] [] (hp X dl mI dr) Q
  refine g_aload_n d_Md_takesClause_0 rfl ?_
  refine C_V0 d_Md_takesClause_1 k_Md_190 rfl (Nat.le_of_ble_eq_true rfl) (by decide) (Nat.le_of_ble_eq_true rfl) ?_
  refine (c_Md_wordAtHand hK) ?_
  refine S_istore_n_2_1 d_Md_takesClause_4 rfl rfl ?_
  by_cases h0 : whC t L x = 0
  · have e := cl_no (T := T) h0
    rw [e] at k
    rw [h0]
    refine g_iload_n d_Md_takesClause_5 rfl ?_
    refine P_if_ge d_Md_takesClause_6 11 (by decide) (fun z => absurd z (by decide)) (fun _ => ?_)
    refine N_iconst d_Md_takesClause_9 0 rfl ?_
    refine P_zret d_Md_takesClause_10 rfl (by decide) ?_
    exact R_i (k mI (fun z => by cases z) (fun _ => hK.2.2.2.1) F8.rf) (bI_f' (fun z => by cases z))
  · obtain ⟨i, hi, hW⟩ := wh_one h0
    rcases (show i = 0 ∨ i = 1 ∨ i = 2 ∨ (3 ≤ i ∧ i < 8) by omega) with rfl | rfl | rfl | hi3
    · obtain ⟨e, ew⟩ := cl_0 (T := T) hW
      rw [e] at k
      rw [ew]
      refine T_loc7 ?_
      refine g_iload_n d_Md_takesClause_5 rfl ?_
      refine N_if_ge d_Md_takesClause_6 11 (by decide) (by omega) ?_
      refine g_iload_n d_Md_takesClause_11 rfl ?_
      refine N_iconst d_Md_takesClause_12 5 rfl ?_
      refine N_icmp_ge d_Md_takesClause_13 22 (by decide) ⟨by omega, by omega⟩ (fun dd2 => ?_) (fun dd2 => ?_)
      · refine g_iload_n d_Md_takesClause_22 rfl ?_
        refine N_iconst d_Md_takesClause_23 5 rfl ?_
        refine N_icmp_ne d_Md_takesClause_24 32 (by decide) ⟨by omega, by omega⟩ (fun dd3 => ?_) (fun dd3 => ?_)
        · refine g_iload_n d_Md_takesClause_32 rfl ?_
          refine N_bipush d_Md_takesClause_33 6 rfl ?_
          refine N_icmp_ne d_Md_takesClause_35 43 (by decide) ⟨by omega, by omega⟩ (fun dd4 => ?_) (fun dd4 => ?_)
          · refine g_aload_n d_Md_takesClause_43 rfl ?_
            refine C_V0 d_Md_takesClause_44 k_Md_204 rfl (Nat.le_of_ble_eq_true rfl) (by decide) (Nat.le_of_ble_eq_true rfl) ?_
            refine c_Md_takesParish hw hK hT (fun mI1 g1 g2 g3 => ?_)
            refine N_iconst d_Md_takesClause_47 1 rfl ?_
            refine P_zret d_Md_takesClause_48 rfl (by decide) ?_
            exact R_i (k mI1 (fun _ => ⟨g1, g2⟩) (fun z => by cases z) g3) (bI_t' rfl)
          · omega
        · omega
      · omega
    · obtain ⟨e, ew⟩ := cl_1 (T := T) hW
      rw [e] at k
      rw [ew]
      refine T_loc5 ?_
      refine g_iload_n d_Md_takesClause_5 rfl ?_
      refine N_if_ge d_Md_takesClause_6 11 (by decide) (by omega) ?_
      refine g_iload_n d_Md_takesClause_11 rfl ?_
      refine N_iconst d_Md_takesClause_12 5 rfl ?_
      refine N_icmp_ge d_Md_takesClause_13 22 (by decide) ⟨by omega, by omega⟩ (fun dd2 => ?_) (fun dd2 => ?_)
      · refine g_iload_n d_Md_takesClause_22 rfl ?_
        refine N_iconst d_Md_takesClause_23 5 rfl ?_
        refine N_icmp_ne d_Md_takesClause_24 32 (by decide) ⟨by omega, by omega⟩ (fun dd3 => ?_) (fun dd3 => ?_)
        · omega
        · refine g_aload_n d_Md_takesClause_27 rfl ?_
          refine C_V0 d_Md_takesClause_28 k_Md_198 rfl (Nat.le_of_ble_eq_true rfl) (by decide) (Nat.le_of_ble_eq_true rfl) ?_
          refine c_Md_takesMan hw hK hT (fun mI1 g1 g2 g3 => ?_)
          refine P_zret d_Md_takesClause_31 rfl (bI_01 _) ?_
          exact k mI1 g1 g2 g3
      · omega
    · obtain ⟨e, ew⟩ := cl_2 (T := T) hW
      rw [e] at k
      rw [ew]
      refine T_loc6 ?_
      refine g_iload_n d_Md_takesClause_5 rfl ?_
      refine N_if_ge d_Md_takesClause_6 11 (by decide) (by omega) ?_
      refine g_iload_n d_Md_takesClause_11 rfl ?_
      refine N_iconst d_Md_takesClause_12 5 rfl ?_
      refine N_icmp_ge d_Md_takesClause_13 22 (by decide) ⟨by omega, by omega⟩ (fun dd2 => ?_) (fun dd2 => ?_)
      · refine g_iload_n d_Md_takesClause_22 rfl ?_
        refine N_iconst d_Md_takesClause_23 5 rfl ?_
        refine N_icmp_ne d_Md_takesClause_24 32 (by decide) ⟨by omega, by omega⟩ (fun dd3 => ?_) (fun dd3 => ?_)
        · refine g_iload_n d_Md_takesClause_32 rfl ?_
          refine N_bipush d_Md_takesClause_33 6 rfl ?_
          refine N_icmp_ne d_Md_takesClause_35 43 (by decide) ⟨by omega, by omega⟩ (fun dd4 => ?_) (fun dd4 => ?_)
          · omega
          · refine g_aload_n d_Md_takesClause_38 rfl ?_
            refine C_V0 d_Md_takesClause_39 k_Md_201 rfl (Nat.le_of_ble_eq_true rfl) (by decide) (Nat.le_of_ble_eq_true rfl) ?_
            refine c_Md_takesStrife hw hK hT (fun mI1 g1 g2 g3 => ?_)
            refine P_zret d_Md_takesClause_42 rfl (bI_01 _) ?_
            exact k mI1 g1 g2 g3
        · omega
      · omega
    · obtain ⟨kd, rfl⟩ : ∃ kd, i = kd + 3 := ⟨i - 3, by omega⟩
      obtain ⟨e, ew⟩ := cl_p (T := T) (kd := kd) (by omega) hW
      rw [e] at k
      rw [ew]
      refine T_lock ?_
      refine g_iload_n d_Md_takesClause_5 rfl ?_
      refine N_if_ge d_Md_takesClause_6 11 (by decide) (by omega) ?_
      refine g_iload_n d_Md_takesClause_11 rfl ?_
      refine N_iconst d_Md_takesClause_12 5 rfl ?_
      refine N_icmp_ge d_Md_takesClause_13 22 (by decide) ⟨by omega, by omega⟩ (fun dd2 => ?_) (fun dd2 => ?_)
      · omega
      · refine g_aload_n d_Md_takesClause_16 rfl ?_
        refine g_iload_n d_Md_takesClause_17 rfl ?_
        refine C_V1 d_Md_takesClause_18 k_Md_194 rfl (Nat.le_of_ble_eq_true rfl) (by decide) (Nat.le_of_ble_eq_true rfl) ?_
        refine c_Md_takesPromise hw hK hT (fun mI1 g1 g2 g3 => ?_)
        refine P_zret d_Md_takesClause_21 rfl (bI_01 _) ?_
        exact k mI1 g1 g2 g3

