theorem psh_SV {T : TD} {l : List AS} {σ : AS} (hl : ∀ τ ∈ l, SV T τ) (hW : SV T σ) : ∀ τ ∈ psh l σ, SV T τ := fun τ hτ => by
  have h := List.mem_of_mem_take hτ
  rcases List.mem_cons.mp h with z | z
  · rw [z]; exact hW
  · exact hl τ z
theorem lp_Md_year {X : CX} {dl : List (Nat × Nat)} {mI : Nat → Nat → Int32} {dr : Nat → Nat → Nat} {Q : Option Value → AH → Prop} {T : TD} (hw : TW T) (hT : TM 3 7 142 T mI) {σ : AS} (hW : SW T σ) {n : Nat} (hn : n < 2 ^ 31) (k : ∀ mI', SM 0 T (yrN T n σ) (KO T (yrN T n σ)) mI' → FY 0 mI mI' → Q (some (.int (nI (aY (yrN T n σ))))) (hp X dl mI' dr)) : ∀ (d : Nat) (i : Nat) (mI2 : Nat → Nat → Int32), (i ≤ n) → (SM 0 T (yrN T i σ) (KO T (yrN T i σ)) mI2) → (FY 0 mI mI2) → n - i = d → EW X m_Md_year 38 [.ref 139, .int (nI n), .int (nI i)] [] (hp X dl mI2 dr) Q := by
  intro d
  induction d using Nat.strongRecOn with
  | _ d ih =>
    intro i mI2 hi hS2 hF hd
    refine g_iload_n d_Md_year_38 rfl ?_
    refine g_iload_n d_Md_year_39 rfl ?_
    refine N_icmp_ge d_Md_year_40 54 (by decide) ⟨by omega, by omega⟩ (fun c1 => ?_) (fun c1 => ?_)
    · have e : i = n := by omega
      subst e
      refine g_aload_n d_Md_year_54 rfl ?_
      refine H_getR 140 d_Md_year_55 f_Md_7.g rfl rfl (by decide) rfl ?_
      refine N_iconst d_Md_year_58 0 rfl ?_
      refine H_ialdN d_Md_year_59 rfl rfl (by omega) (by decide) ?_
      refine T_int (nI (aY (yrN T i σ))) hS2.1 ?_
      refine P_iret d_Md_year_60 rfl ?_
      exact k mI2 hS2 hF
    · refine g_aload_n d_Md_year_43 rfl ?_
      refine N_iconst d_Md_year_44 0 rfl ?_
      refine C_V1 d_Md_year_45 k_Md_278 rfl (Nat.le_of_ble_eq_true rfl) (by decide) (Nat.le_of_ble_eq_true rfl) ?_
      refine c_Md_passesYear (r := 0) hw (hT.y hF) (SW_yrN hw i σ hW).1 (by omega) hS2 (fun mI3 hS3 hF3 => ?_)
      refine N_iinc_3_2_1 d_Md_year_48 rfl rfl ?_
      refine P_goto d_Md_year_51 38 (by decide) ?_
      exact ih (n - (i + 1)) (by omega) (i + 1) mI3 (by omega) hS3 (hF.tr hF3) rfl

theorem c_Md_year {X : CX} {dl : List (Nat × Nat)} {mI : Nat → Nat → Int32} {dr : Nat → Nat → Nat} {Q : Option Value → AH → Prop} {T : TD} (hw : TW T) (hT : TM 3 7 142 T mI) {N : NP} (hS : SM 0 T N.1 (KO T N.1) mI) (hW : SW T N.1) (hP : PM T N.2 mI) (hl : ∀ τ ∈ N.2, SV T τ) {n : Int32} (hy : aY N.1 ≤ 999) (k : ∀ mI', SM 0 T (sYr T N n).1.1 (KO T (sYr T N n).1.1) mI' → PM T (sYr T N n).1.2 mI' → FN mI mI' → Q (some (.int (sYr T N n).2)) (hp X dl mI' dr)) : EW X m_Md_year 0 (enL m_Md_year.2.2.1 [.ref 139, .int n]) [] (hp X dl mI dr) Q := by
  show EW X m_Md_year 0 [.ref 139, .int n, jk] [] (hp X dl mI dr) Q
  have hw1 := hw.1
  have hw2 := hw.2.1
  refine g_iload_n d_Md_year_0 rfl ?_
  refine P_i2l d_Md_year_1 ?_
  refine P_lconst d_Md_year_2 (lQ 1) rfl ?_
  refine P_ldc2 d_Md_year_3 _ q_Md_273 ?_
  refine C_S3 d_Md_year_6 k_Md_111 (Nat.le_of_ble_eq_true rfl) (by decide) (Nat.le_of_ble_eq_true rfl) ?_
  refine (c_Md_inI 1 12 rfl rfl) ?_
  refine B_ne d_Md_year_9 15 (by decide) (fun c1 => ?_) (fun c1 => ?_)
  · have hn := c1
    obtain ⟨u, hu1, hu2, rfl⟩ := in_ex (by decide) (show ((1 : Nat) : Int) ≤ n.toInt ∧ n.toInt ≤ ((12 : Nat) : Int) from c1)
    have eu : tN (nI u) = u := tN_nI (by omega)
    refine g_aload_n d_Md_year_15 rfl ?_
    refine H_getR 140 d_Md_year_16 f_Md_7.g rfl rfl (by decide) rfl ?_
    refine N_iconst d_Md_year_19 0 rfl ?_
    refine H_ialdN d_Md_year_20 rfl rfl (by omega) (by decide) ?_
    refine T_int (nI (aY N.1)) hS.1 ?_
    refine g_iload_n d_Md_year_21 rfl ?_
    refine N_iadd d_Md_year_22 ?_
    refine N_sipush d_Md_year_23 999 rfl ?_
    refine N_icmp_le d_Md_year_26 32 (by decide) ⟨by omega, by omega⟩ (fun c2 => ?_) (fun c2 => ?_)
    · refine g_aload_n d_Md_year_32 rfl ?_
      refine C_V0 d_Md_year_33 k_Md_275 rfl (Nat.le_of_ble_eq_true rfl) (by decide) (Nat.le_of_ble_eq_true rfl) ?_
      refine c_Md_minds hw hS hW.v hP hl (fun mI1 hP1 g1 g2 g3 => ?_)
      have hF1 : FN mI mI1 := ⟨fun q z1 z2 _ => g1 q z1 z2, g2, fun j z1 z2 => g3 j z2⟩
      have hT1 := hT.n hF1
      have hS1 : SM 0 T N.1 (KO T N.1) mI1 := hS.to hw hW.v (fun j _ z2 => g3 j (by omega))
      have hl1 : ∀ τ ∈ psh N.2 N.1, SV T τ := psh_SV hl hW.v
      refine N_iconst d_Md_year_36 0 rfl ?_
      refine S_istore_n_3_2 d_Md_year_37 rfl rfl ?_
      have e : sYr T N (nI u) = ((yrN T u N.1, psh N.2 N.1), nI (aY (yrN T u N.1))) := by unfold sYr; rw [if_neg (fun z => z hn), eu, if_neg (by omega)]
      rw [e] at k
      refine lp_Md_year hw hT1 hW (by omega) (fun mI2 hS2 hF2 => ?_) _ 0 mI1 (Nat.zero_le _) hS1 FY.rf rfl
      exact k _ hS2 (hP1.to hw hl1 (congrFun (hF2.1 139 (by omega) (by omega)) 1) (fun j hj => hF2.2 j (by omega))) (hF1.tr hF2.n)
    · refine P_bipush d_Md_year_29 (-5) rfl ?_
      refine P_iret d_Md_year_31 rfl ?_
      have e : sYr T N (nI u) = (N, -5) := by unfold sYr; rw [if_neg (fun z => z hn), eu, if_pos (by omega)]
      rw [e] at k
      exact k _ hS hP FN.rf
  · refine P_bipush d_Md_year_12 (-3) rfl ?_
    refine P_iret d_Md_year_14 rfl ?_
    have e : sYr T N n = (N, -3) := by unfold sYr; rw [if_pos c1]
    rw [e] at k
    exact k _ hS hP FN.rf

theorem c_Md_person {X : CX} {dl : List (Nat × Nat)} {mI : Nat → Nat → Int32} {dr : Nat → Nat → Nat} {Q : Option Value → AH → Prop} {T : TD} (hw : TW T) (hT : TM 3 7 142 T mI) {σ : AS} (hS : SM 0 T σ (KO T σ) mI) (hW : SW T σ) {m w : Int32} (k : Q (some (.int (aPer T σ m w))) (hp X dl mI dr)) : EW X m_Md_person 0 (enL m_Md_person.2.2.1 [.ref 139, .int m, .int w]) [] (hp X dl mI dr) Q := by
  show EW X m_Md_person 0 [.ref 139, .int m, .int w] [] (hp X dl mI dr) Q
  have hw1 := hw.1
  have hw2 := hw.2.1
  refine g_aload_n d_Md_person_0 rfl ?_
  refine g_iload_n d_Md_person_1 rfl ?_
  refine C_V1 d_Md_person_2 k_Md_256 rfl (Nat.le_of_ble_eq_true rfl) (by decide) (Nat.le_of_ble_eq_true rfl) ?_
  refine (c_Md_isPerson hT.1 (by omega)) ?_
  refine B_ne d_Md_person_5 11 (by decide) (fun c1 => ?_) (fun c1 => ?_)
  · have hc := c1
    obtain ⟨j, hj, rfl⟩ := inN_of c1 (by omega)
    have ej : tN (nI j) = j := tN_nI (by omega)
    have e : aPer T σ (nI j) w = if w = nI 0 then nI (tst T j) else if w = nI 1 then nI (aS σ j) else if w = nI 2 then hrI (thr T j) else if w = nI 3 then nI (cntH (aH σ) j (tP T)) else -3 := by unfold aPer; rw [if_neg (fun z => z c1), ej]
    rw [e] at k
    clear e
    refine g_iload_n d_Md_person_11 rfl ?_
    refine P_if_ne d_Md_person_12 24 (by decide) (fun c2 => ?_) (fun c2 => ?_)
    · refine g_iload_n d_Md_person_24 rfl ?_
      refine N_iconst d_Md_person_25 1 rfl ?_
      refine P_icmp_ne d_Md_person_26 40 (by decide) (fun c3 => ?_) (fun c3 => ?_)
      · refine g_iload_n d_Md_person_40 rfl ?_
        refine N_iconst d_Md_person_41 2 rfl ?_
        refine P_icmp_ne d_Md_person_42 54 (by decide) (fun c4 => ?_) (fun c4 => ?_)
        · refine g_iload_n d_Md_person_54 rfl ?_
          refine N_iconst d_Md_person_55 3 rfl ?_
          refine P_icmp_ne d_Md_person_56 71 (by decide) (fun c5 => ?_) (fun c5 => ?_)
          · refine P_bipush d_Md_person_71 (-3) rfl ?_
            refine P_iret d_Md_person_73 rfl ?_
            first
              | exact R_i k (by rw [if_pos (show w = nI 0 from c2)])
              | exact R_i k (by rw [if_neg (show ¬ w = nI 0 from c2), if_pos (show w = nI 1 from c3)])
              | exact R_i k (by rw [if_neg (show ¬ w = nI 0 from c2), if_neg (show ¬ w = nI 1 from c3), if_pos (show w = nI 2 from c4)])
              | exact R_i k (by rw [if_neg (show ¬ w = nI 0 from c2), if_neg (show ¬ w = nI 1 from c3), if_neg (show ¬ w = nI 2 from c4), if_pos (show w = nI 3 from c5)])
              | exact R_i k (by rw [if_neg (show ¬ w = nI 0 from c2), if_neg (show ¬ w = nI 1 from c3), if_neg (show ¬ w = nI 2 from c4), if_neg (show ¬ w = nI 3 from c5)])
          · refine g_aload_n d_Md_person_59 rfl ?_
            refine H_getR 140 d_Md_person_60 f_Md_7.g rfl rfl (by decide) rfl ?_
            refine N_bipush d_Md_person_63 27 rfl ?_
            refine g_iload_n d_Md_person_65 rfl ?_
            refine N_iadd d_Md_person_66 ?_
            refine H_ialdN d_Md_person_67 rfl rfl (by omega) (by decide) ?_
            refine T_int (nI (cntH (aH σ) j (tP T))) (by have := (hS.2.2.2.2 j (by omega)).1; rw [Nat.zero_add, Lm_len hW.v] at this; exact this) ?_
            refine P_goto d_Md_person_68 73 (by decide) ?_
            refine P_iret d_Md_person_73 rfl ?_
            first
              | exact R_i k (by rw [if_pos (show w = nI 0 from c2)])
              | exact R_i k (by rw [if_neg (show ¬ w = nI 0 from c2), if_pos (show w = nI 1 from c3)])
              | exact R_i k (by rw [if_neg (show ¬ w = nI 0 from c2), if_neg (show ¬ w = nI 1 from c3), if_pos (show w = nI 2 from c4)])
              | exact R_i k (by rw [if_neg (show ¬ w = nI 0 from c2), if_neg (show ¬ w = nI 1 from c3), if_neg (show ¬ w = nI 2 from c4), if_pos (show w = nI 3 from c5)])
              | exact R_i k (by rw [if_neg (show ¬ w = nI 0 from c2), if_neg (show ¬ w = nI 1 from c3), if_neg (show ¬ w = nI 2 from c4), if_neg (show ¬ w = nI 3 from c5)])
        · refine g_aload_n d_Md_person_45 rfl ?_
          refine H_getR 144 d_Md_person_46 f_Md_23.g rfl rfl (by decide) rfl ?_
          refine g_iload_n d_Md_person_49 rfl ?_
          refine H_ialdN d_Md_person_50 rfl rfl (by omega) (by decide) ?_
          refine T_int (hrI (thr T j)) (hT.2.2.1 j hj).2.2 ?_
          refine P_goto d_Md_person_51 73 (by decide) ?_
          refine P_iret d_Md_person_73 rfl ?_
          first
            | exact R_i k (by rw [if_pos (show w = nI 0 from c2)])
            | exact R_i k (by rw [if_neg (show ¬ w = nI 0 from c2), if_pos (show w = nI 1 from c3)])
            | exact R_i k (by rw [if_neg (show ¬ w = nI 0 from c2), if_neg (show ¬ w = nI 1 from c3), if_pos (show w = nI 2 from c4)])
            | exact R_i k (by rw [if_neg (show ¬ w = nI 0 from c2), if_neg (show ¬ w = nI 1 from c3), if_neg (show ¬ w = nI 2 from c4), if_pos (show w = nI 3 from c5)])
            | exact R_i k (by rw [if_neg (show ¬ w = nI 0 from c2), if_neg (show ¬ w = nI 1 from c3), if_neg (show ¬ w = nI 2 from c4), if_neg (show ¬ w = nI 3 from c5)])
      · refine g_aload_n d_Md_person_29 rfl ?_
        refine H_getR 140 d_Md_person_30 f_Md_7.g rfl rfl (by decide) rfl ?_
        refine N_iconst d_Md_person_33 1 rfl ?_
        refine g_iload_n d_Md_person_34 rfl ?_
        refine N_iadd d_Md_person_35 ?_
        refine H_ialdN d_Md_person_36 rfl rfl (by omega) (by decide) ?_
        refine T_int (nI (aS σ j)) (by have := hS.2.2.1 j hj; rw [Nat.zero_add] at this; exact this) ?_
        refine P_goto d_Md_person_37 73 (by decide) ?_
        refine P_iret d_Md_person_73 rfl ?_
        first
          | exact R_i k (by rw [if_pos (show w = nI 0 from c2)])
          | exact R_i k (by rw [if_neg (show ¬ w = nI 0 from c2), if_pos (show w = nI 1 from c3)])
          | exact R_i k (by rw [if_neg (show ¬ w = nI 0 from c2), if_neg (show ¬ w = nI 1 from c3), if_pos (show w = nI 2 from c4)])
          | exact R_i k (by rw [if_neg (show ¬ w = nI 0 from c2), if_neg (show ¬ w = nI 1 from c3), if_neg (show ¬ w = nI 2 from c4), if_pos (show w = nI 3 from c5)])
          | exact R_i k (by rw [if_neg (show ¬ w = nI 0 from c2), if_neg (show ¬ w = nI 1 from c3), if_neg (show ¬ w = nI 2 from c4), if_neg (show ¬ w = nI 3 from c5)])
    · refine g_aload_n d_Md_person_15 rfl ?_
      refine H_getR 142 d_Md_person_16 f_Md_17.g rfl rfl (by decide) rfl ?_
      refine g_iload_n d_Md_person_19 rfl ?_
      refine H_ialdN d_Md_person_20 rfl rfl (by omega) (by decide) ?_
      refine T_int (nI (tst T j)) (hT.2.2.1 j hj).1 ?_
      refine P_goto d_Md_person_21 73 (by decide) ?_
      refine P_iret d_Md_person_73 rfl ?_
      first
        | exact R_i k (by rw [if_pos (show w = nI 0 from c2)])
        | exact R_i k (by rw [if_neg (show ¬ w = nI 0 from c2), if_pos (show w = nI 1 from c3)])
        | exact R_i k (by rw [if_neg (show ¬ w = nI 0 from c2), if_neg (show ¬ w = nI 1 from c3), if_pos (show w = nI 2 from c4)])
        | exact R_i k (by rw [if_neg (show ¬ w = nI 0 from c2), if_neg (show ¬ w = nI 1 from c3), if_neg (show ¬ w = nI 2 from c4), if_pos (show w = nI 3 from c5)])
        | exact R_i k (by rw [if_neg (show ¬ w = nI 0 from c2), if_neg (show ¬ w = nI 1 from c3), if_neg (show ¬ w = nI 2 from c4), if_neg (show ¬ w = nI 3 from c5)])
  · refine P_bipush d_Md_person_8 (-2) rfl ?_
    refine P_iret d_Md_person_10 rfl ?_
    exact R_i k (by unfold aPer; rw [if_pos c1])

theorem c_Md_holds {X : CX} {dl : List (Nat × Nat)} {mI : Nat → Nat → Int32} {dr : Nat → Nat → Nat} {Q : Option Value → AH → Prop} {T : TD} (hw : TW T) (hT : TM 3 7 142 T mI) {σ : AS} (hS : SM 0 T σ (KO T σ) mI) (hW : SW T σ) {m j : Int32} (k : Q (some (.int (aHol T σ m j))) (hp X dl mI dr)) : EW X m_Md_holds 0 (enL m_Md_holds.2.2.1 [.ref 139, .int m, .int j]) [] (hp X dl mI dr) Q := by
  show EW X m_Md_holds 0 [.ref 139, .int m, .int j, jk] [] (hp X dl mI dr) Q
  have hw1 := hw.1
  have hw2 := hw.2.1
  refine g_iload_n d_Md_holds_0 rfl ?_
  refine P_iconst d_Md_holds_1 (-1) rfl ?_
  refine P_icmp_eq d_Md_holds_2 16 (by decide) (fun c1 => ?_) (fun c1 => ?_)
  · have hA : ¬ (¬ m = -1 ∧ ¬ inN m (tn T)) := fun z => by first | exact z.1 (by assumption) | exact z.2 (by assumption)
    refine g_iload_n d_Md_holds_16 rfl ?_
    refine P_if_ge d_Md_holds_17 23 (by decide) (fun dd1 => ?_) (fun dd1 => ?_)
    · have hA2 := toInt_nn dd1
      obtain ⟨i, hi, rfl⟩ := nn_ex hA2
      have e : aHol T σ m (nI i) = hAt (aH σ) (whoN m) (aR σ) i := by unfold aHol; rw [if_neg hA, if_neg (by omega), tN_nI hi]
      rw [e] at k
      refine g_iload_n d_Md_holds_23 rfl ?_
      refine P_iconst d_Md_holds_24 (-1) rfl ?_
      refine P_icmp_ne d_Md_holds_25 32 (by decide) (fun dd2 => ?_) (fun dd2 => ?_)
      · have hin : inN m (tn T) := by
          by_cases y : inN m (tn T)
          · exact y
          · exact absurd ⟨dd2, y⟩ hA
        obtain ⟨u, hu, rfl⟩ := inN_of hin (by omega)
        have ew : whoN (nI u) = u := by unfold whoN; rw [if_neg dd2, tN_nI (by omega)]
        rw [ew] at k
        refine g_iload_n d_Md_holds_32 rfl ?_
        refine S_istore_n_4_3 d_Md_holds_33 rfl rfl ?_
        refine g_iload_n d_Md_holds_34 rfl ?_
        refine g_aload_n d_Md_holds_35 rfl ?_
        refine H_getR 140 d_Md_holds_36 f_Md_7.g rfl rfl (by decide) rfl ?_
        refine N_bipush d_Md_holds_39 27 rfl ?_
        refine g_iload_n d_Md_holds_41 rfl ?_
        refine N_iadd d_Md_holds_42 ?_
        refine H_ialdN d_Md_holds_43 rfl rfl (by omega) (by decide) ?_
        refine T_int (nI ((Lm σ u).length)) (by have := (hS.2.2.2.2 u (by omega)).1; rw [Nat.zero_add] at this; exact this) ?_
        have hlen : (Lm σ u).length ≤ 10 := (hS.ll hw hW.v u (by omega)).2.1
        refine N_icmp_ge d_Md_holds_44 64 (by decide) ⟨by omega, by omega⟩ (fun ff1 => ?_) (fun ff1 => ?_)
        · refine P_iconst d_Md_holds_64 (-1) rfl ?_
          refine P_iret d_Md_holds_65 rfl ?_
          first
            | exact R_i k (hAt_eq _ _ _ _ (by assumption))
            | exact R_i k (hAt_no _ _ _ _ (by assumption))
        · refine g_aload_n d_Md_holds_47 rfl ?_
          refine H_getR 140 d_Md_holds_48 f_Md_7.g rfl rfl (by decide) rfl ?_
          refine N_bipush d_Md_holds_51 33 rfl ?_
          refine N_bipush d_Md_holds_53 10 rfl ?_
          refine g_iload_n d_Md_holds_55 rfl ?_
          refine N_imul d_Md_holds_56 ?_
          refine N_iadd d_Md_holds_57 ?_
          refine g_iload_n d_Md_holds_58 rfl ?_
          refine N_iadd d_Md_holds_59 ?_
          refine H_ialdN d_Md_holds_60 rfl rfl (by omega) (by decide) ?_
          refine T_int (nI ((Lm σ u).getD i 0)) (by have := (hS.2.2.2.2 u (by omega)).2 i (by assumption); rw [Nat.zero_add] at this; exact this) ?_
          refine P_goto d_Md_holds_61 65 (by decide) ?_
          refine P_iret d_Md_holds_65 rfl ?_
          first
            | exact R_i k (hAt_eq _ _ _ _ (by assumption))
            | exact R_i k (hAt_no _ _ _ _ (by assumption))
      · have ew : whoN m = 5 := by unfold whoN; rw [if_pos dd2]
        rw [ew] at k
        refine N_iconst d_Md_holds_28 5 rfl ?_
        refine P_goto d_Md_holds_29 33 (by decide) ?_
        refine S_istore_n_4_3 d_Md_holds_33 rfl rfl ?_
        refine g_iload_n d_Md_holds_34 rfl ?_
        refine g_aload_n d_Md_holds_35 rfl ?_
        refine H_getR 140 d_Md_holds_36 f_Md_7.g rfl rfl (by decide) rfl ?_
        refine N_bipush d_Md_holds_39 27 rfl ?_
        refine g_iload_n d_Md_holds_41 rfl ?_
        refine N_iadd d_Md_holds_42 ?_
        refine H_ialdN d_Md_holds_43 rfl rfl (by omega) (by decide) ?_
        refine T_int (nI ((Lm σ 5).length)) (by have := (hS.2.2.2.2 5 (by omega)).1; rw [Nat.zero_add] at this; exact this) ?_
        have hlen : (Lm σ 5).length ≤ 10 := (hS.ll hw hW.v 5 (by omega)).2.1
        refine N_icmp_ge d_Md_holds_44 64 (by decide) ⟨by omega, by omega⟩ (fun ff1 => ?_) (fun ff1 => ?_)
        · refine P_iconst d_Md_holds_64 (-1) rfl ?_
          refine P_iret d_Md_holds_65 rfl ?_
          first
            | exact R_i k (hAt_eq _ _ _ _ (by assumption))
            | exact R_i k (hAt_no _ _ _ _ (by assumption))
        · refine g_aload_n d_Md_holds_47 rfl ?_
          refine H_getR 140 d_Md_holds_48 f_Md_7.g rfl rfl (by decide) rfl ?_
          refine N_bipush d_Md_holds_51 33 rfl ?_
          refine N_bipush d_Md_holds_53 10 rfl ?_
          refine g_iload_n d_Md_holds_55 rfl ?_
          refine N_imul d_Md_holds_56 ?_
          refine N_iadd d_Md_holds_57 ?_
          refine g_iload_n d_Md_holds_58 rfl ?_
          refine N_iadd d_Md_holds_59 ?_
          refine H_ialdN d_Md_holds_60 rfl rfl (by omega) (by decide) ?_
          refine T_int (nI ((Lm σ 5).getD i 0)) (by have := (hS.2.2.2.2 5 (by omega)).2 i (by assumption); rw [Nat.zero_add] at this; exact this) ?_
          refine P_goto d_Md_holds_61 65 (by decide) ?_
          refine P_iret d_Md_holds_65 rfl ?_
          first
            | exact R_i k (hAt_eq _ _ _ _ (by assumption))
            | exact R_i k (hAt_no _ _ _ _ (by assumption))
    · refine P_bipush d_Md_holds_20 (-3) rfl ?_
      refine P_iret d_Md_holds_22 rfl ?_
      exact R_i k (by unfold aHol; rw [if_neg hA, if_pos (toInt_neg dd1)])
  · refine g_aload_n d_Md_holds_5 rfl ?_
    refine g_iload_n d_Md_holds_6 rfl ?_
    refine C_V1 d_Md_holds_7 k_Md_256 rfl (Nat.le_of_ble_eq_true rfl) (by decide) (Nat.le_of_ble_eq_true rfl) ?_
    refine (c_Md_isPerson hT.1 (by omega)) ?_
    refine B_ne d_Md_holds_10 16 (by decide) (fun c2 => ?_) (fun c2 => ?_)
    · have hA : ¬ (¬ m = -1 ∧ ¬ inN m (tn T)) := fun z => by first | exact z.1 (by assumption) | exact z.2 (by assumption)
      refine g_iload_n d_Md_holds_16 rfl ?_
      refine P_if_ge d_Md_holds_17 23 (by decide) (fun dd1 => ?_) (fun dd1 => ?_)
      · have hA2 := toInt_nn dd1
        obtain ⟨i, hi, rfl⟩ := nn_ex hA2
        have e : aHol T σ m (nI i) = hAt (aH σ) (whoN m) (aR σ) i := by unfold aHol; rw [if_neg hA, if_neg (by omega), tN_nI hi]
        rw [e] at k
        refine g_iload_n d_Md_holds_23 rfl ?_
        refine P_iconst d_Md_holds_24 (-1) rfl ?_
        refine P_icmp_ne d_Md_holds_25 32 (by decide) (fun dd2 => ?_) (fun dd2 => ?_)
        · have hin : inN m (tn T) := by
            by_cases y : inN m (tn T)
            · exact y
            · exact absurd ⟨dd2, y⟩ hA
          obtain ⟨u, hu, rfl⟩ := inN_of hin (by omega)
          have ew : whoN (nI u) = u := by unfold whoN; rw [if_neg dd2, tN_nI (by omega)]
          rw [ew] at k
          refine g_iload_n d_Md_holds_32 rfl ?_
          refine S_istore_n_4_3 d_Md_holds_33 rfl rfl ?_
          refine g_iload_n d_Md_holds_34 rfl ?_
          refine g_aload_n d_Md_holds_35 rfl ?_
          refine H_getR 140 d_Md_holds_36 f_Md_7.g rfl rfl (by decide) rfl ?_
          refine N_bipush d_Md_holds_39 27 rfl ?_
          refine g_iload_n d_Md_holds_41 rfl ?_
          refine N_iadd d_Md_holds_42 ?_
          refine H_ialdN d_Md_holds_43 rfl rfl (by omega) (by decide) ?_
          refine T_int (nI ((Lm σ u).length)) (by have := (hS.2.2.2.2 u (by omega)).1; rw [Nat.zero_add] at this; exact this) ?_
          have hlen : (Lm σ u).length ≤ 10 := (hS.ll hw hW.v u (by omega)).2.1
          refine N_icmp_ge d_Md_holds_44 64 (by decide) ⟨by omega, by omega⟩ (fun ff1 => ?_) (fun ff1 => ?_)
          · refine P_iconst d_Md_holds_64 (-1) rfl ?_
            refine P_iret d_Md_holds_65 rfl ?_
            first
              | exact R_i k (hAt_eq _ _ _ _ (by assumption))
              | exact R_i k (hAt_no _ _ _ _ (by assumption))
          · refine g_aload_n d_Md_holds_47 rfl ?_
            refine H_getR 140 d_Md_holds_48 f_Md_7.g rfl rfl (by decide) rfl ?_
            refine N_bipush d_Md_holds_51 33 rfl ?_
            refine N_bipush d_Md_holds_53 10 rfl ?_
            refine g_iload_n d_Md_holds_55 rfl ?_
            refine N_imul d_Md_holds_56 ?_
            refine N_iadd d_Md_holds_57 ?_
            refine g_iload_n d_Md_holds_58 rfl ?_
            refine N_iadd d_Md_holds_59 ?_
            refine H_ialdN d_Md_holds_60 rfl rfl (by omega) (by decide) ?_
            refine T_int (nI ((Lm σ u).getD i 0)) (by have := (hS.2.2.2.2 u (by omega)).2 i (by assumption); rw [Nat.zero_add] at this; exact this) ?_
            refine P_goto d_Md_holds_61 65 (by decide) ?_
            refine P_iret d_Md_holds_65 rfl ?_
            first
              | exact R_i k (hAt_eq _ _ _ _ (by assumption))
              | exact R_i k (hAt_no _ _ _ _ (by assumption))
        · have ew : whoN m = 5 := by unfold whoN; rw [if_pos dd2]
          rw [ew] at k
          refine N_iconst d_Md_holds_28 5 rfl ?_
          refine P_goto d_Md_holds_29 33 (by decide) ?_
          refine S_istore_n_4_3 d_Md_holds_33 rfl rfl ?_
          refine g_iload_n d_Md_holds_34 rfl ?_
          refine g_aload_n d_Md_holds_35 rfl ?_
          refine H_getR 140 d_Md_holds_36 f_Md_7.g rfl rfl (by decide) rfl ?_
          refine N_bipush d_Md_holds_39 27 rfl ?_
          refine g_iload_n d_Md_holds_41 rfl ?_
          refine N_iadd d_Md_holds_42 ?_
          refine H_ialdN d_Md_holds_43 rfl rfl (by omega) (by decide) ?_
          refine T_int (nI ((Lm σ 5).length)) (by have := (hS.2.2.2.2 5 (by omega)).1; rw [Nat.zero_add] at this; exact this) ?_
          have hlen : (Lm σ 5).length ≤ 10 := (hS.ll hw hW.v 5 (by omega)).2.1
          refine N_icmp_ge d_Md_holds_44 64 (by decide) ⟨by omega, by omega⟩ (fun ff1 => ?_) (fun ff1 => ?_)
          · refine P_iconst d_Md_holds_64 (-1) rfl ?_
            refine P_iret d_Md_holds_65 rfl ?_
            first
              | exact R_i k (hAt_eq _ _ _ _ (by assumption))
              | exact R_i k (hAt_no _ _ _ _ (by assumption))
          · refine g_aload_n d_Md_holds_47 rfl ?_
            refine H_getR 140 d_Md_holds_48 f_Md_7.g rfl rfl (by decide) rfl ?_
            refine N_bipush d_Md_holds_51 33 rfl ?_
            refine N_bipush d_Md_holds_53 10 rfl ?_
            refine g_iload_n d_Md_holds_55 rfl ?_
            refine N_imul d_Md_holds_56 ?_
            refine N_iadd d_Md_holds_57 ?_
            refine g_iload_n d_Md_holds_58 rfl ?_
            refine N_iadd d_Md_holds_59 ?_
            refine H_ialdN d_Md_holds_60 rfl rfl (by omega) (by decide) ?_
            refine T_int (nI ((Lm σ 5).getD i 0)) (by have := (hS.2.2.2.2 5 (by omega)).2 i (by assumption); rw [Nat.zero_add] at this; exact this) ?_
            refine P_goto d_Md_holds_61 65 (by decide) ?_
            refine P_iret d_Md_holds_65 rfl ?_
            first
              | exact R_i k (hAt_eq _ _ _ _ (by assumption))
              | exact R_i k (hAt_no _ _ _ _ (by assumption))
      · refine P_bipush d_Md_holds_20 (-3) rfl ?_
        refine P_iret d_Md_holds_22 rfl ?_
        exact R_i k (by unfold aHol; rw [if_neg hA, if_pos (toInt_neg dd1)])
    · refine P_bipush d_Md_holds_13 (-2) rfl ?_
      refine P_iret d_Md_holds_15 rfl ?_
      exact R_i k (by unfold aHol; rw [if_pos ⟨c1, by assumption⟩])

theorem c_Md_promise {X : CX} {dl : List (Nat × Nat)} {mI : Nat → Nat → Int32} {dr : Nat → Nat → Nat} {Q : Option Value → AH → Prop} {T : TD} (hw : TW T) (hT : TM 3 7 142 T mI) {σ : AS} (hS : SM 0 T σ (KO T σ) mI) (hW : SW T σ) {p w : Int32} (k : Q (some (.int (aPro T σ p w))) (hp X dl mI dr)) : EW X m_Md_promise 0 (enL m_Md_promise.2.2.1 [.ref 139, .int p, .int w]) [] (hp X dl mI dr) Q := by
  show EW X m_Md_promise 0 [.ref 139, .int p, .int w] [] (hp X dl mI dr) Q
  have hw1 := hw.1
  have hw2 := hw.2.1
  refine g_aload_n d_Md_promise_0 rfl ?_
  refine g_iload_n d_Md_promise_1 rfl ?_
  refine C_V1 d_Md_promise_2 k_Md_259 rfl (Nat.le_of_ble_eq_true rfl) (by decide) (Nat.le_of_ble_eq_true rfl) ?_
  refine (c_Md_isPromise hT.2.1 (by omega)) ?_
  refine B_ne d_Md_promise_5 11 (by decide) (fun c1 => ?_) (fun c1 => ?_)
  · have hc := c1
    obtain ⟨j, hj, rfl⟩ := inN_of c1 (by omega)
    have ej : tN (nI j) = j := tN_nI (by omega)
    have e : aPro T σ (nI j) w = if w = nI 0 then nI (tkd T j) else if w = nI 1 then nI (aW σ j) else if w = nI 2 then nI (aD σ j) else if w = nI 3 then nI (tnd T j) else if w = nI 4 then hoI (aH σ j) else if w = nI 5 then bI (opn T (KO T σ) j) else -3 := by unfold aPro; rw [if_neg (fun z => z c1), ej]
    rw [e] at k
    clear e
    refine g_iload_n d_Md_promise_11 rfl ?_
    by_cases q0 : w = nI 0
    · rw [q0]
      refine P_tableIn d_Md_promise_12 (40) 52 (by decide) (by decide) rfl (by decide) ?_
      refine g_aload_n d_Md_promise_52 rfl ?_
      refine H_getR 145 d_Md_promise_53 f_Md_26.g rfl rfl (by decide) rfl ?_
      refine g_iload_n d_Md_promise_56 rfl ?_
      refine H_ialdN d_Md_promise_57 rfl rfl (by omega) (by decide) ?_
      refine T_int (nI (tkd T j)) (hT.2.2.2.1 j hj).1 ?_
      refine P_iret d_Md_promise_58 rfl ?_
      exact R_i k (by rw [if_pos q0])
    by_cases q1 : w = nI 1
    · rw [q1]
      refine P_tableIn d_Md_promise_12 (47) 59 (by decide) (by decide) rfl (by decide) ?_
      refine g_aload_n d_Md_promise_59 rfl ?_
      refine H_getR 140 d_Md_promise_60 f_Md_7.g rfl rfl (by decide) rfl ?_
      refine N_bipush d_Md_promise_63 6 rfl ?_
      refine g_iload_n d_Md_promise_65 rfl ?_
      refine N_iadd d_Md_promise_66 ?_
      refine H_ialdN d_Md_promise_67 rfl rfl (by omega) (by decide) ?_
      refine T_int (nI (aW σ j)) (by have := (hS.2.2.2.1 j hj).1; rw [Nat.zero_add] at this; exact this) ?_
      refine P_iret d_Md_promise_68 rfl ?_
      exact R_i k (by rw [if_neg q0, if_pos q1])
    by_cases q2 : w = nI 2
    · rw [q2]
      refine P_tableIn d_Md_promise_12 (57) 69 (by decide) (by decide) rfl (by decide) ?_
      refine g_aload_n d_Md_promise_69 rfl ?_
      refine H_getR 140 d_Md_promise_70 f_Md_7.g rfl rfl (by decide) rfl ?_
      refine N_bipush d_Md_promise_73 16 rfl ?_
      refine g_iload_n d_Md_promise_75 rfl ?_
      refine N_iadd d_Md_promise_76 ?_
      refine H_ialdN d_Md_promise_77 rfl rfl (by omega) (by decide) ?_
      refine T_int (nI (aD σ j)) (by have := (hS.2.2.2.1 j hj).2; rw [Nat.zero_add] at this; exact this) ?_
      refine P_iret d_Md_promise_78 rfl ?_
      exact R_i k (by rw [if_neg q0, if_neg q1, if_pos q2])
    by_cases q3 : w = nI 3
    · rw [q3]
      refine P_tableIn d_Md_promise_12 (67) 79 (by decide) (by decide) rfl (by decide) ?_
      refine g_aload_n d_Md_promise_79 rfl ?_
      refine H_getR 147 d_Md_promise_80 f_Md_32.g rfl rfl (by decide) rfl ?_
      refine g_iload_n d_Md_promise_83 rfl ?_
      refine H_ialdN d_Md_promise_84 rfl rfl (by omega) (by decide) ?_
      refine T_int (nI (tnd T j)) (hT.2.2.2.1 j hj).2.2.1 ?_
      refine P_iret d_Md_promise_85 rfl ?_
      exact R_i k (by rw [if_neg q0, if_neg q1, if_neg q2, if_pos q3])
    by_cases q4 : w = nI 4
    · rw [q4]
      refine P_tableIn d_Md_promise_12 (74) 86 (by decide) (by decide) rfl (by decide) ?_
      refine g_aload_n d_Md_promise_86 rfl ?_
      refine N_iconst d_Md_promise_87 0 rfl ?_
      refine g_iload_n d_Md_promise_88 rfl ?_
      refine C_V2 d_Md_promise_89 k_Md_262 rfl (Nat.le_of_ble_eq_true rfl) (by decide) (Nat.le_of_ble_eq_true rfl) ?_
      refine (c_Md_holderIn (r := 0) (Ls := Lm σ) (h := aH σ j) (by omega) (hS.ll hw hW.v) (by omega) (fun m hm x hx => by have := ((Lm_mem hW.v).mp hx).1; omega) (hW.2.1 j hj).1 (fun m hm => ⟨fun z => ((Lm_mem hW.v).mp z).2, fun z => (Lm_mem hW.v).mpr ⟨hj, z⟩⟩)) ?_
      refine P_iret d_Md_promise_92 rfl ?_
      exact R_i k (by rw [if_neg q0, if_neg q1, if_neg q2, if_neg q3, if_pos q4])
    by_cases q5 : w = nI 5
    · rw [q5]
      refine P_tableIn d_Md_promise_12 (81) 93 (by decide) (by decide) rfl (by decide) ?_
      refine g_aload_n d_Md_promise_93 rfl ?_
      refine N_iconst d_Md_promise_94 0 rfl ?_
      refine g_iload_n d_Md_promise_95 rfl ?_
      refine C_V2 d_Md_promise_96 k_Md_245 rfl (Nat.le_of_ble_eq_true rfl) (by decide) (Nat.le_of_ble_eq_true rfl) ?_
      refine (c_Md_isOpen hw hT (r := 0) (by omega) hj (kB_31 hw (aH σ)) hS.2.1) ?_
      refine B_eq d_Md_promise_99 106 (by decide) (fun c2 => ?_) (fun c2 => ?_)
      · refine N_iconst d_Md_promise_106 0 rfl ?_
        refine P_iret d_Md_promise_107 rfl ?_
        first | exact R_i k (by rw [if_neg q0, if_neg q1, if_neg q2, if_neg q3, if_neg q4, if_pos q5]; exact bI_t' (by assumption)) | exact R_i k (by rw [if_neg q0, if_neg q1, if_neg q2, if_neg q3, if_neg q4, if_pos q5]; exact bI_f' (by assumption))
      · refine N_iconst d_Md_promise_102 1 rfl ?_
        refine P_goto d_Md_promise_103 107 (by decide) ?_
        refine P_iret d_Md_promise_107 rfl ?_
        first | exact R_i k (by rw [if_neg q0, if_neg q1, if_neg q2, if_neg q3, if_neg q4, if_pos q5]; exact bI_t' (by assumption)) | exact R_i k (by rw [if_neg q0, if_neg q1, if_neg q2, if_neg q3, if_neg q4, if_pos q5]; exact bI_f' (by assumption))
    refine P_tableOut d_Md_promise_12 108 (by decide) (sw_out 5 (fun j hj => by rcases (show j = 0 ∨ j = 1 ∨ j = 2 ∨ j = 3 ∨ j = 4 ∨ j = 5 by omega) with rfl | rfl | rfl | rfl | rfl | rfl <;> assumption)) ?_
    refine P_bipush d_Md_promise_108 (-3) rfl ?_
    refine P_iret d_Md_promise_110 rfl ?_
    exact R_i k (by rw [if_neg q0, if_neg q1, if_neg q2, if_neg q3, if_neg q4, if_neg q5])
  · refine P_bipush d_Md_promise_8 (-2) rfl ?_
    refine P_iret d_Md_promise_10 rfl ?_
    exact R_i k (by unfold aPro; rw [if_pos c1])

theorem c_Md_as {X : CX} {dl : List (Nat × Nat)} {mI : Nat → Nat → Int32} {dr : Nat → Nat → Nat} {Q : Option Value → AH → Prop} {T : TD} (hw : TW T) (hT : TM 3 7 142 T mI) {p f : Int32} (k : Q (some (.int (aAs T p f))) (hp X dl mI dr)) : EW X m_Md_as 0 (enL m_Md_as.2.2.1 [.ref 139, .int p, .int f]) [] (hp X dl mI dr) Q := by
  show EW X m_Md_as 0 [.ref 139, .int p, .int f] [] (hp X dl mI dr) Q
  have hw1 := hw.1
  have hw2 := hw.2.1
  refine g_aload_n d_Md_as_0 rfl ?_
  refine g_iload_n d_Md_as_1 rfl ?_
  refine C_V1 d_Md_as_2 k_Md_259 rfl (Nat.le_of_ble_eq_true rfl) (by decide) (Nat.le_of_ble_eq_true rfl) ?_
  refine (c_Md_isPromise hT.2.1 (by omega)) ?_
  refine B_ne d_Md_as_5 11 (by decide) (fun c1 => ?_) (fun c1 => ?_)
  · refine g_iload_n d_Md_as_11 rfl ?_
    refine P_i2l d_Md_as_12 ?_
    refine P_lconst d_Md_as_13 (lQ 0) rfl ?_
    refine P_ldc2 d_Md_as_14 _ q_Md_265 ?_
    refine C_S3 d_Md_as_17 k_Md_111 (Nat.le_of_ble_eq_true rfl) (by decide) (Nat.le_of_ble_eq_true rfl) ?_
    refine (c_Md_inN 6 rfl rfl) ?_
    refine B_ne d_Md_as_20 26 (by decide) (fun c2 => ?_) (fun c2 => ?_)
    · have hf := c2
      have hcc := c2
      have hc := c1
      obtain ⟨j, hj, rfl⟩ := inN_of c1 (by omega)
      have ej : tN (nI j) = j := tN_nI (by omega)
      obtain ⟨i, hi, rfl⟩ := inN_of hf (by decide)
      have ei : tN (nI i) = i := tN_nI (by omega)
      refine g_aload_n d_Md_as_26 rfl ?_
      refine H_getR 145 d_Md_as_27 f_Md_26.g rfl rfl (by decide) rfl ?_
      refine g_iload_n d_Md_as_30 rfl ?_
      refine H_ialdN d_Md_as_31 rfl rfl (by omega) (by decide) ?_
      refine T_int (nI (tkd T j)) (hT.2.2.2.1 j hj).1 ?_
      refine g_iload_n d_Md_as_32 rfl ?_
      refine C_S2 d_Md_as_33 k_Md_267 (Nat.le_of_ble_eq_true rfl) (by decide) (Nat.le_of_ble_eq_true rfl) ?_
      refine (c_Md_isA (hw.2.2.2 j hj).1 hi) ?_
      refine B_eq d_Md_as_36 52 (by decide) (fun c3 => ?_) (fun c3 => ?_)
      · refine P_bipush d_Md_as_52 (-4) rfl ?_
        refine P_iret d_Md_as_54 rfl ?_
        first | exact R_i k (by unfold aAs; rw [if_neg (fun z => z c1), if_neg (fun z => z hf), ej, ei, if_pos c3]) | exact R_i k (by unfold aAs; rw [if_neg (fun z => z c1), if_neg (fun z => z hf), ej, ei, if_neg (fun z => z c3)])
      · refine g_aload_n d_Md_as_39 rfl ?_
        refine H_getR 145 d_Md_as_40 f_Md_26.g rfl rfl (by decide) rfl ?_
        refine g_iload_n d_Md_as_43 rfl ?_
        refine H_ialdN d_Md_as_44 rfl rfl (by omega) (by decide) ?_
        refine T_int (nI (tkd T j)) (hT.2.2.2.1 j hj).1 ?_
        refine N_iconst d_Md_as_45 5 rfl ?_
        refine C_S2 d_Md_as_46 k_Md_248 (Nat.le_of_ble_eq_true rfl) (by decide) (Nat.le_of_ble_eq_true rfl) ?_
        refine (c_Md_does (hw.2.2.2 j hj).1 (by decide)) ?_
        refine P_goto d_Md_as_49 54 (by decide) ?_
        refine P_iret d_Md_as_54 rfl ?_
        first | exact R_i k (by unfold aAs; rw [if_neg (fun z => z c1), if_neg (fun z => z hf), ej, ei, if_pos c3]) | exact R_i k (by unfold aAs; rw [if_neg (fun z => z c1), if_neg (fun z => z hf), ej, ei, if_neg (fun z => z c3)])
    · refine P_bipush d_Md_as_23 (-3) rfl ?_
      refine P_iret d_Md_as_25 rfl ?_
      exact R_i k (by unfold aAs; rw [if_neg (fun z => z c1), if_pos c2])
  · refine P_bipush d_Md_as_8 (-2) rfl ?_
    refine P_iret d_Md_as_10 rfl ?_
    exact R_i k (by unfold aAs; rw [if_pos c1])

theorem c_Md_behind {X : CX} {dl : List (Nat × Nat)} {mI : Nat → Nat → Int32} {dr : Nat → Nat → Nat} {Q : Option Value → AH → Prop} {T : TD} (hw : TW T) (hT : TM 3 7 142 T mI) {σ : AS} (hS : SM 0 T σ (KO T σ) mI) (hW : SW T σ) {p n w : Int32} (k : ∀ mI', FQ mI mI' → Q (some (.int (aBe T σ p n w))) (hp X dl mI' dr)) : EW X m_Md_behind 0 (enL m_Md_behind.2.2.1 [.ref 139, .int p, .int n, .int w]) [] (hp X dl mI dr) Q := by
  show EW X m_Md_behind 0 [.ref 139, .int p, .int n, .int w] [] (hp X dl mI dr) Q
  have hw1 := hw.1
  have hw2 := hw.2.1
  refine g_aload_n d_Md_behind_0 rfl ?_
  refine g_iload_n d_Md_behind_1 rfl ?_
  refine C_V1 d_Md_behind_2 k_Md_259 rfl (Nat.le_of_ble_eq_true rfl) (by decide) (Nat.le_of_ble_eq_true rfl) ?_
  refine (c_Md_isPromise hT.2.1 (by omega)) ?_
  refine B_ne d_Md_behind_5 11 (by decide) (fun c1 => ?_) (fun c1 => ?_)
  · refine g_iload_n d_Md_behind_11 rfl ?_
    refine P_i2l d_Md_behind_12 ?_
    refine P_lconst d_Md_behind_13 (lQ 0) rfl ?_
    refine P_ldc2 d_Md_behind_14 _ q_Md_282 ?_
    refine C_S3 d_Md_behind_17 k_Md_111 (Nat.le_of_ble_eq_true rfl) (by decide) (Nat.le_of_ble_eq_true rfl) ?_
    refine (c_Md_inN 61 rfl rfl) ?_
    refine B_eq d_Md_behind_20 33 (by decide) (fun c2 => ?_) (fun c2 => ?_)
    · refine P_bipush d_Md_behind_33 (-3) rfl ?_
      refine P_iret d_Md_behind_35 rfl ?_
      exact R_i (k _ FQ.rf) (by unfold aBe; rw [if_neg (fun z => z c1), if_pos (by first | exact Or.inl (by assumption) | exact Or.inr (by assumption))])
    · refine g_iload_n d_Md_behind_23 rfl ?_
      refine P_i2l d_Md_behind_24 ?_
      refine P_lconst d_Md_behind_25 (lQ 0) rfl ?_
      refine P_lconst d_Md_behind_26 (lQ 1) rfl ?_
      refine C_S3 d_Md_behind_27 k_Md_111 (Nat.le_of_ble_eq_true rfl) (by decide) (Nat.le_of_ble_eq_true rfl) ?_
      refine (c_Md_inN 2 rfl rfl) ?_
      refine B_ne d_Md_behind_30 36 (by decide) (fun c3 => ?_) (fun c3 => ?_)
      · have hn := c2
        have hw3 := c3
        have hc := c1
        obtain ⟨j, hj, rfl⟩ := inN_of c1 (by omega)
        have ej : tN (nI j) = j := tN_nI (by omega)
        obtain ⟨i, hi, rfl⟩ := inN_of hn (by decide)
        obtain ⟨y, hy, rfl⟩ := inN_of hw3 (by decide)
        have e : aBe T σ (nI j) (nI i) (nI y) = if nI y = nI 0 then nI (aD (yrN T i σ) j) else hoI (aH (yrN T i σ) j) := by unfold aBe; rw [if_neg (fun z => z c1), if_neg (fun z => z.elim (fun q => q hn) (fun q => q hw3)), ej, tN_nI (by omega)]
        rw [e] at k
        refine g_aload_n d_Md_behind_36 rfl ?_
        refine C_V0 d_Md_behind_37 k_Md_284 rfl (Nat.le_of_ble_eq_true rfl) (by decide) (Nat.le_of_ble_eq_true rfl) ?_
        refine c_Md_tries hw hS hW.v (fun mI1 hS1 hF1 => ?_)
        refine g_aload_n d_Md_behind_40 rfl ?_
        refine g_iload_n d_Md_behind_41 rfl ?_
        refine C_V1 d_Md_behind_42 k_Md_287 rfl (Nat.le_of_ble_eq_true rfl) (by decide) (Nat.le_of_ble_eq_true rfl) ?_
        refine c_Md_goesOn hw (hT.q hF1.q) hW hS1 (by omega) (fun mI2 hS2 hF2 => ?_)
        have hFF := hF1.q.tr hF2.q
        have hV2 := (SW_yrN hw i σ hW).1.v
        refine g_iload_n d_Md_behind_45 rfl ?_
        refine N_if_ne d_Md_behind_46 61 (by decide) (by omega) (fun c4 => ?_) (fun c4 => ?_)
        · refine g_aload_n d_Md_behind_61 rfl ?_
          refine N_bipush d_Md_behind_62 93 rfl ?_
          refine g_iload_n d_Md_behind_64 rfl ?_
          refine C_V2 d_Md_behind_65 k_Md_262 rfl (Nat.le_of_ble_eq_true rfl) (by decide) (Nat.le_of_ble_eq_true rfl) ?_
          refine (c_Md_holderIn (r := 93) (Ls := Lm (yrN T i σ)) (h := aH (yrN T i σ) j) (by omega) (hS2.ll hw hV2) (by omega) (fun m hm x hx => by have := ((Lm_mem hV2).mp hx).1; omega) (hV2.2.1 j hj).1 (fun m hm => ⟨fun z => ((Lm_mem hV2).mp z).2, fun z => (Lm_mem hV2).mpr ⟨hj, z⟩⟩)) ?_
          refine P_iret d_Md_behind_68 rfl ?_
          first | (have hy0 : y = 0 := by assumption
                   exact R_i (k _ hFF) (by rw [if_pos (by rw [hy0])])) | exact R_i (k _ hFF) (by rw [if_neg (fun z => by rw [nI_eq (by omega) (by omega)] at z; omega)])
        · refine g_aload_n d_Md_behind_49 rfl ?_
          refine H_getR 140 d_Md_behind_50 f_Md_7.g rfl rfl (by decide) rfl ?_
          refine N_bipush d_Md_behind_53 109 rfl ?_
          refine g_iload_n d_Md_behind_55 rfl ?_
          refine N_iadd d_Md_behind_56 ?_
          refine H_ialdN d_Md_behind_57 rfl rfl (by omega) (by decide) ?_
          refine T_int (nI (aD (yrN T i σ) j)) (hS2.2.2.2.1 j hj).2 ?_
          refine P_goto d_Md_behind_58 68 (by decide) ?_
          refine P_iret d_Md_behind_68 rfl ?_
          first | (have hy0 : y = 0 := by assumption
                   exact R_i (k _ hFF) (by rw [if_pos (by rw [hy0])])) | exact R_i (k _ hFF) (by rw [if_neg (fun z => by rw [nI_eq (by omega) (by omega)] at z; omega)])
      · refine P_bipush d_Md_behind_33 (-3) rfl ?_
        refine P_iret d_Md_behind_35 rfl ?_
        exact R_i (k _ FQ.rf) (by unfold aBe; rw [if_neg (fun z => z c1), if_pos (by first | exact Or.inl (by assumption) | exact Or.inr (by assumption))])
  · refine P_bipush d_Md_behind_8 (-2) rfl ?_
    refine P_iret d_Md_behind_10 rfl ?_
    exact R_i (k _ FQ.rf) (by unfold aBe; rw [if_pos c1])

theorem KO_bit {T : TD} {σ : AS} {p : Nat} (h : p < tP T) : (KO T σ).testBit p = true ↔ aH σ p = 6 := by
  unfold KO
  rw [kB_bit]
  simp [h]
theorem lp_Md_keeps {X : CX} {dl : List (Nat × Nat)} {mI : Nat → Nat → Int32} {dr : Nat → Nat → Nat} {Q : Option Value → AH → Prop} {T : TD} (hw : TW T) (hT : TM 3 7 142 T mI) {p : Nat} (hpP : p < tP T) {R : Nat} (k : ∀ mI', FY 93 mI mI' → Q (some (.int (hrI R))) (hp X dl mI' dr)) : ∀ (d : Nat) (n : Nat) (τ : AS) (mI2 : Nat → Nat → Int32), (n ≤ 61) → (SW T τ) → (SM 93 T τ (KO T τ) mI2) → (uK T p (61 - n) n τ = R) → (FY 93 mI mI2) → 61 - n = d → EW X m_Md_keeps 17 [.ref 139, .int (nI p), .int (nI n)] [] (hp X dl mI2 dr) Q := by
  intro d
  induction d using Nat.strongRecOn with
  | _ d ih =>
    intro n τ mI2 hn hW hS2 hR hF hd
    have hw1 := hw.1
    have hw2 := hw.2.1
    refine g_iload_n d_Md_keeps_17 rfl ?_
    refine N_bipush d_Md_keeps_18 60 rfl ?_
    refine N_icmp_gt d_Md_keeps_20 51 (by decide) ⟨by omega, by omega⟩ (fun c1 => ?_) (fun c1 => ?_)
    · refine P_iconst d_Md_keeps_51 (-1) rfl ?_
      refine P_iret d_Md_keeps_52 rfl ?_
      have e : 61 - n = 0 := by omega
      rw [e] at hR
      exact R_i (k mI2 hF) (by rw [← hR]; rfl)
    · have eu : uK T p (61 - n) n τ = if aH τ p = 6 then n + 1 else uK T p (61 - (n + 1)) (n + 1) (yrF T τ) := by
        rw [show 61 - n = (61 - (n + 1)) + 1 by omega]; rfl
      rw [hR] at eu
      refine g_aload_n d_Md_keeps_23 rfl ?_
      refine H_getR 140 d_Md_keeps_24 f_Md_7.g rfl rfl (by decide) rfl ?_
      refine N_bipush d_Md_keeps_27 119 rfl ?_
      refine H_ialdN d_Md_keeps_29 rfl rfl (by omega) (by decide) ?_
      refine T_int (nI (KO T τ)) hS2.2.1 ?_
      refine g_iload_n d_Md_keeps_30 rfl ?_
      refine C_S2 d_Md_keeps_31 k_Md_236 (Nat.le_of_ble_eq_true rfl) (by decide) (Nat.le_of_ble_eq_true rfl) ?_
      refine (c_Md_has (kB_31 hw (aH τ)) (by omega)) ?_
      refine B_eq d_Md_keeps_34 39 (by decide) (fun c2 => ?_) (fun c2 => ?_)
      · refine g_aload_n d_Md_keeps_39 rfl ?_
        refine N_bipush d_Md_keeps_40 93 rfl ?_
        refine C_V1 d_Md_keeps_42 k_Md_278 rfl (Nat.le_of_ble_eq_true rfl) (by decide) (Nat.le_of_ble_eq_true rfl) ?_
        refine c_Md_passesYear (r := 93) hw (hT.y hF) hW (by omega) hS2 (fun mI3 hS3 hF3 => ?_)
        refine N_iinc_3_2_1 d_Md_keeps_45 rfl rfl ?_
        refine P_goto d_Md_keeps_48 17 (by decide) ?_
        rw [if_neg (fun z => absurd ((KO_bit hpP).mpr z) (by assumption))] at eu
        exact ih (61 - (n + 1)) (by omega) (n + 1) (yrF T τ) mI3 (by omega) (SW_yr hw hW).1 hS3 eu.symm (hF.tr hF3) rfl
      · refine g_iload_n d_Md_keeps_37 rfl ?_
        refine P_iret d_Md_keeps_38 rfl ?_
        exact R_i (k mI2 hF) (by rw [eu, if_pos ((KO_bit hpP).mp (by assumption))]; rfl)

theorem c_Md_keeps {X : CX} {dl : List (Nat × Nat)} {mI : Nat → Nat → Int32} {dr : Nat → Nat → Nat} {Q : Option Value → AH → Prop} {T : TD} (hw : TW T) (hT : TM 3 7 142 T mI) {σ : AS} (hS : SM 0 T σ (KO T σ) mI) (hW : SW T σ) {p : Int32} (k : ∀ mI', FQ mI mI' → Q (some (.int (aKp T σ p))) (hp X dl mI' dr)) : EW X m_Md_keeps 0 (enL m_Md_keeps.2.2.1 [.ref 139, .int p]) [] (hp X dl mI dr) Q := by
  show EW X m_Md_keeps 0 [.ref 139, .int p, jk] [] (hp X dl mI dr) Q
  have hw1 := hw.1
  have hw2 := hw.2.1
  refine g_aload_n d_Md_keeps_0 rfl ?_
  refine g_iload_n d_Md_keeps_1 rfl ?_
  refine C_V1 d_Md_keeps_2 k_Md_259 rfl (Nat.le_of_ble_eq_true rfl) (by decide) (Nat.le_of_ble_eq_true rfl) ?_
  refine (c_Md_isPromise hT.2.1 (by omega)) ?_
  refine B_ne d_Md_keeps_5 11 (by decide) (fun c1 => ?_) (fun c1 => ?_)
  · have hc := c1
    obtain ⟨j, hj, rfl⟩ := inN_of c1 (by omega)
    have ej : tN (nI j) = j := tN_nI (by omega)
    refine g_aload_n d_Md_keeps_11 rfl ?_
    refine C_V0 d_Md_keeps_12 k_Md_284 rfl (Nat.le_of_ble_eq_true rfl) (by decide) (Nat.le_of_ble_eq_true rfl) ?_
    refine c_Md_tries hw hS hW.v (fun mI1 hS1 hF1 => ?_)
    refine N_iconst d_Md_keeps_15 0 rfl ?_
    refine S_istore_n_3_2 d_Md_keeps_16 rfl rfl ?_
    exact lp_Md_keeps hw (hT.q hF1.q) hj (R := uK T j 61 0 σ) (fun mI2 hF2 => R_i (k _ (hF1.q.tr hF2.q)) (by unfold aKp; rw [if_pos c1, ej])) _ 0 σ mI1 (Nat.zero_le _) hW hS1 rfl FY.rf rfl
  · refine P_bipush d_Md_keeps_8 (-2) rfl ?_
    refine P_iret d_Md_keeps_10 rfl ?_
    exact R_i (k _ FQ.rf) (by unfold aKp; rw [if_neg c1])

theorem uF_dead {T : TD} {m : Nat} : ∀ (d n : Nat) (σ : AS), aS σ m = 0 → uF T m d n σ = 0
  | 0, _, _, _ => rfl
  | d + 1, n, σ, h => by rw [uF, if_pos h]
theorem lp_Md_just {X : CX} {dl : List (Nat × Nat)} {mI : Nat → Nat → Int32} {dr : Nat → Nat → Nat} {Q : Option Value → AH → Prop} {T : TD} (hw : TW T) (hT : TM 3 7 142 T mI) {m : Nat} (hm : m < tn T) {R : Nat} (k : ∀ mI', FY 93 mI mI' → Q (some (.int (hrI R))) (hp X dl mI' dr)) : ∀ (d : Nat) (n : Nat) (τ : AS) (mI2 : Nat → Nat → Int32), (n ≤ 61) → (SW T τ) → (SM 93 T τ (KO T τ) mI2) → (uF T m (61 - n) n τ = R) → (FY 93 mI mI2) → 61 - n = d → EW X m_Md_just 17 [.ref 139, .int (nI m), .int (nI n)] [] (hp X dl mI2 dr) Q := by
  intro d
  induction d using Nat.strongRecOn with
  | _ d ih =>
    intro n τ mI2 hn hW hS2 hR hF hd
    have hw1 := hw.1
    have hw2 := hw.2.1
    have h60 := hW.2.2 m hm
    have hcn := cntH_le (aH τ) m (tP T)
    refine g_iload_n d_Md_just_17 rfl ?_
    refine N_bipush d_Md_just_18 60 rfl ?_
    refine N_icmp_gt d_Md_just_20 61 (by decide) ⟨by omega, by omega⟩ (fun c1 => ?_) (fun c1 => ?_)
    · refine P_iconst d_Md_just_61 (-1) rfl ?_
      refine P_iret d_Md_just_62 rfl ?_
      have e : 61 - n = 0 := by omega
      rw [e] at hR
      exact R_i (k mI2 hF) (by rw [← hR]; rfl)
    · have eu : uF T m (61 - n) n τ = if aS τ m = 0 then 0 else if cntH (aH τ) m (tP T) = 0 then n + 1 else uF T m (61 - (n + 1)) (n + 1) (yrF T τ) := by
        rw [show 61 - n = (61 - (n + 1)) + 1 by omega]; rfl
      rw [hR] at eu
      have hnx : ¬ (cntH (aH τ) m (tP T) = 0 ∧ 0 < aS τ m) → uF T m (61 - (n + 1)) (n + 1) (yrF T τ) = R := fun hz => by
        by_cases h0 : aS τ m = 0
        · rw [eu, if_pos h0]
          refine uF_dead _ _ _ ?_
          rw [(SW_yr hw hW).2.2 m, if_pos hm]; omega
        · rw [eu, if_neg h0, if_neg (by omega)]
      refine g_aload_n d_Md_just_23 rfl ?_
      refine H_getR 140 d_Md_just_24 f_Md_7.g rfl rfl (by decide) rfl ?_
      refine N_bipush d_Md_just_27 120 rfl ?_
      refine g_iload_n d_Md_just_29 rfl ?_
      refine N_iadd d_Md_just_30 ?_
      refine H_ialdN d_Md_just_31 rfl rfl (by omega) (by decide) ?_
      refine T_int (nI (cntH (aH τ) m (tP T))) (by have := (hS2.2.2.2.2 m (by omega)).1; rw [Lm_len hW.v] at this; exact this) ?_
      refine N_if_ne d_Md_just_32 49 (by decide) (by omega) (fun c2 => ?_) (fun c2 => ?_)
      · refine g_aload_n d_Md_just_49 rfl ?_
        refine N_bipush d_Md_just_50 93 rfl ?_
        refine C_V1 d_Md_just_52 k_Md_278 rfl (Nat.le_of_ble_eq_true rfl) (by decide) (Nat.le_of_ble_eq_true rfl) ?_
        refine c_Md_passesYear (r := 93) hw (hT.y hF) hW (by omega) hS2 (fun mI3 hS3 hF3 => ?_)
        refine N_iinc_3_2_1 d_Md_just_55 rfl rfl ?_
        refine P_goto d_Md_just_58 17 (by decide) ?_
        exact ih (61 - (n + 1)) (by omega) (n + 1) (yrF T τ) mI3 (by omega) (SW_yr hw hW).1 hS3 (hnx (by omega)) (hF.tr hF3) rfl
      · refine g_aload_n d_Md_just_35 rfl ?_
        refine H_getR 140 d_Md_just_36 f_Md_7.g rfl rfl (by decide) rfl ?_
        refine N_bipush d_Md_just_39 94 rfl ?_
        refine g_iload_n d_Md_just_41 rfl ?_
        refine N_iadd d_Md_just_42 ?_
        refine H_ialdN d_Md_just_43 rfl rfl (by omega) (by decide) ?_
        refine T_int (nI (aS τ m)) (hS2.2.2.1 m hm) ?_
        refine N_if_le d_Md_just_44 49 (by decide) (by omega) (fun c3 => ?_) (fun c3 => ?_)
        · refine g_aload_n d_Md_just_49 rfl ?_
          refine N_bipush d_Md_just_50 93 rfl ?_
          refine C_V1 d_Md_just_52 k_Md_278 rfl (Nat.le_of_ble_eq_true rfl) (by decide) (Nat.le_of_ble_eq_true rfl) ?_
          refine c_Md_passesYear (r := 93) hw (hT.y hF) hW (by omega) hS2 (fun mI3 hS3 hF3 => ?_)
          refine N_iinc_3_2_1 d_Md_just_55 rfl rfl ?_
          refine P_goto d_Md_just_58 17 (by decide) ?_
          exact ih (61 - (n + 1)) (by omega) (n + 1) (yrF T τ) mI3 (by omega) (SW_yr hw hW).1 hS3 (hnx (by omega)) (hF.tr hF3) rfl
        · refine g_iload_n d_Md_just_47 rfl ?_
          refine P_iret d_Md_just_48 rfl ?_
          exact R_i (k mI2 hF) (by rw [eu, if_neg (by omega), if_pos (by assumption)]; rfl)

theorem c_Md_just {X : CX} {dl : List (Nat × Nat)} {mI : Nat → Nat → Int32} {dr : Nat → Nat → Nat} {Q : Option Value → AH → Prop} {T : TD} (hw : TW T) (hT : TM 3 7 142 T mI) {σ : AS} (hS : SM 0 T σ (KO T σ) mI) (hW : SW T σ) {m : Int32} (k : ∀ mI', FQ mI mI' → Q (some (.int (aJu T σ m))) (hp X dl mI' dr)) : EW X m_Md_just 0 (enL m_Md_just.2.2.1 [.ref 139, .int m]) [] (hp X dl mI dr) Q := by
  show EW X m_Md_just 0 [.ref 139, .int m, jk] [] (hp X dl mI dr) Q
  have hw1 := hw.1
  have hw2 := hw.2.1
  refine g_aload_n d_Md_just_0 rfl ?_
  refine g_iload_n d_Md_just_1 rfl ?_
  refine C_V1 d_Md_just_2 k_Md_256 rfl (Nat.le_of_ble_eq_true rfl) (by decide) (Nat.le_of_ble_eq_true rfl) ?_
  refine (c_Md_isPerson hT.1 (by omega)) ?_
  refine B_ne d_Md_just_5 11 (by decide) (fun c1 => ?_) (fun c1 => ?_)
  · have hc := c1
    obtain ⟨j, hj, rfl⟩ := inN_of c1 (by omega)
    have ej : tN (nI j) = j := tN_nI (by omega)
    refine g_aload_n d_Md_just_11 rfl ?_
    refine C_V0 d_Md_just_12 k_Md_284 rfl (Nat.le_of_ble_eq_true rfl) (by decide) (Nat.le_of_ble_eq_true rfl) ?_
    refine c_Md_tries hw hS hW.v (fun mI1 hS1 hF1 => ?_)
    refine N_iconst d_Md_just_15 0 rfl ?_
    refine S_istore_n_3_2 d_Md_just_16 rfl rfl ?_
    exact lp_Md_just hw (hT.q hF1.q) hj (R := uF T j 61 0 σ) (fun mI2 hF2 => R_i (k _ (hF1.q.tr hF2.q)) (by unfold aJu; rw [if_pos c1, ej])) _ 0 σ mI1 (Nat.zero_le _) hW hS1 rfl FY.rf rfl
  · refine P_bipush d_Md_just_8 (-2) rfl ?_
    refine P_iret d_Md_just_10 rfl ?_
    exact R_i (k _ FQ.rf) (by unfold aJu; rw [if_neg c1])

