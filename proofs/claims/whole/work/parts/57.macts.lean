theorem hoI_neg {c : Nat} (h : c ≤ 6) : hoI c < 0 ↔ c = 6 := by
  constructor
  · intro z
    rcases (show c = 6 ∨ c < 6 by omega) with y | y
    · exact y
    · rw [hoI_5 y] at z; exact absurd z (nI_pos (by omega))
  · intro z; rw [z]; decide
theorem c_Md_give {X : CX} {dl : List (Nat × Nat)} {mI : Nat → Nat → Int32} {dr : Nat → Nat → Nat} {Q : Option Value → AH → Prop} {T : TD} (hw : TW T) (hT : TM 3 7 142 T mI) {N : NP} (hS : SM 0 T N.1 (KO T N.1) mI) (hW : SW T N.1) (hP : PM T N.2 mI) (hl : ∀ τ ∈ N.2, SV T τ) {p m : Int32} (k : ∀ mI', SM 0 T (sGi T N p m).1.1 (KO T (sGi T N p m).1.1) mI' → PM T (sGi T N p m).1.2 mI' → FN mI mI' → Q (some (.int (sGi T N p m).2)) (hp X dl mI' dr)) : EW X m_Md_give 0 (enL m_Md_give.2.2.1 [.ref 139, .int p, .int m]) [] (hp X dl mI dr) Q := by
  show EW X m_Md_give 0 [.ref 139, .int p, .int m, jk, jk] [] (hp X dl mI dr) Q
  have hw1 := hw.1
  have hw2 := hw.2.1
  refine g_aload_n d_Md_give_0 rfl ?_
  refine g_iload_n d_Md_give_1 rfl ?_
  refine C_V1 d_Md_give_2 k_Md_259 rfl (Nat.le_of_ble_eq_true rfl) (by decide) (Nat.le_of_ble_eq_true rfl) ?_
  refine (c_Md_isPromise hT.2.1 (by omega)) ?_
  refine B_eq d_Md_give_5 21 (by decide) (fun c1 => ?_) (fun c1 => ?_)
  · refine P_bipush d_Md_give_21 (-2) rfl ?_
    refine P_iret d_Md_give_23 rfl ?_
    have e : sGi T N p m = (N, -2) := by unfold sGi; rw [if_pos (by first | exact Or.inl (by assumption) | exact Or.inr ⟨by assumption, by assumption⟩)]
    rw [e] at k
    exact k _ hS hP FN.rf
  · refine g_iload_n d_Md_give_8 rfl ?_
    refine P_iconst d_Md_give_9 (-1) rfl ?_
    refine P_icmp_eq d_Md_give_10 24 (by decide) (fun c2 => ?_) (fun c2 => ?_)
    · have hA : ¬ (¬ inN p (tP T) ∨ (¬ m = -1 ∧ ¬ inN m (tn T))) := fun z => z.elim (fun y => y (by assumption)) (fun y => by first | exact y.1 (by assumption) | exact y.2 (by assumption))
      have c1 : inN p (tP T) := by assumption
      obtain ⟨j, hj, rfl⟩ := inN_of c1 (by omega)
      have ej : tN (nI j) = j := tN_nI (by omega)
      have h6 := (hW.2.1 j hj).1
      refine g_iload_n d_Md_give_24 rfl ?_
      refine P_iconst d_Md_give_25 (-1) rfl ?_
      refine P_icmp_ne d_Md_give_26 33 (by decide) (fun hm1 => ?_) (fun hm1 => ?_)
      · have hin : inN m (tn T) := by
          by_cases y : inN m (tn T)
          · exact y
          · exact absurd (Or.inr ⟨hm1, y⟩) hA
        obtain ⟨u, hu, rfl⟩ := inN_of hin (by omega)
        have ew : whoN (nI u) = u := by unfold whoN; rw [if_neg hm1, tN_nI (by omega)]
        refine g_iload_n d_Md_give_33 rfl ?_
        refine S_istore_n_5_3 d_Md_give_34 rfl rfl ?_
        refine g_aload_n d_Md_give_35 rfl ?_
        refine N_iconst d_Md_give_36 0 rfl ?_
        refine g_iload_n d_Md_give_37 rfl ?_
        refine C_V2 d_Md_give_38 k_Md_262 rfl (Nat.le_of_ble_eq_true rfl) (by decide) (Nat.le_of_ble_eq_true rfl) ?_
        refine (c_Md_holderIn (r := 0) (Ls := Lm N.1) (h := aH N.1 j) (by omega) (hS.ll hw hW.v) (by omega) (fun m hm x hx => by have := ((Lm_mem hW.v).mp hx).1; omega) (hW.2.1 j hj).1 (fun m hm => ⟨fun z => ((Lm_mem hW.v).mp z).2, fun z => (Lm_mem hW.v).mpr ⟨hj, z⟩⟩)) ?_
        refine S_istore_5_4 d_Md_give_41 rfl rfl ?_
        refine g_iload d_Md_give_43 rfl ?_
        refine P_if_lt d_Md_give_45 70 (by decide) (fun dd1 => ?_) (fun dd1 => ?_)
        · refine P_bipush d_Md_give_70 (-4) rfl ?_
          refine P_iret d_Md_give_72 rfl ?_
          have hB : aH N.1 j = 6 ∨ aH N.1 j = u ∨ (u ≠ 5 ∧ aS N.1 u = 0) := Or.inl ((hoI_neg h6).mp dd1)
          have e : sGi T N (nI j) (nI u) = (N, -4) := by unfold sGi; rw [if_neg hA, ej, ew, if_pos hB]
          rw [e] at k
          exact k _ hS hP FN.rf
        · have h66 : aH N.1 j ≠ 6 := fun z => dd1 ((hoI_neg h6).mpr z)
          have h55 : hoI (aH N.1 j) = nI (aH N.1 j) := hoI_5 (by omega)
          rw [h55]
          refine g_iload d_Md_give_48 rfl ?_
          refine g_iload_n d_Md_give_50 rfl ?_
          refine N_icmp_eq d_Md_give_51 70 (by decide) ⟨by omega, by omega⟩ (fun dd2 => ?_) (fun dd2 => ?_)
          · refine P_bipush d_Md_give_70 (-4) rfl ?_
            refine P_iret d_Md_give_72 rfl ?_
            have hB : aH N.1 j = 6 ∨ aH N.1 j = u ∨ (u ≠ 5 ∧ aS N.1 u = 0) := Or.inr (Or.inl dd2)
            have e : sGi T N (nI j) (nI u) = (N, -4) := by unfold sGi; rw [if_neg hA, ej, ew, if_pos hB]
            rw [e] at k
            exact k _ hS hP FN.rf
          · have hne : aH N.1 j ≠ u := dd2
            refine g_iload_n d_Md_give_54 rfl ?_
            refine N_iconst d_Md_give_55 5 rfl ?_
            refine N_icmp_eq d_Md_give_56 73 (by decide) ⟨by omega, by omega⟩ (fun dd3 => ?_) (fun dd3 => ?_)
            · omega
            · have hs60 := hW.2.2 u (by omega)
              refine g_aload_n d_Md_give_59 rfl ?_
              refine H_getR 140 d_Md_give_60 f_Md_7.g rfl rfl (by decide) rfl ?_
              refine N_iconst d_Md_give_63 1 rfl ?_
              refine g_iload_n d_Md_give_64 rfl ?_
              refine N_iadd d_Md_give_65 ?_
              refine H_ialdN d_Md_give_66 rfl rfl (by omega) (by decide) ?_
              refine T_int (nI (aS N.1 u)) (by have := hS.2.2.1 u (by omega); rw [Nat.zero_add] at this; exact this) ?_
              refine N_if_ne d_Md_give_67 73 (by decide) (by omega) (fun dd4 => ?_) (fun dd4 => ?_)
              · have hB : ¬ (aH N.1 j = 6 ∨ aH N.1 j = u ∨ (u ≠ 5 ∧ aS N.1 u = 0)) := fun z => z.elim (fun y => h66 y) (fun z => z.elim (fun y => hne y) (fun y => by first | exact absurd y.2 (by assumption) | exact absurd rfl y.1 | omega))
                refine g_aload_n d_Md_give_73 rfl ?_
                refine C_V0 d_Md_give_74 k_Md_275 rfl (Nat.le_of_ble_eq_true rfl) (by decide) (Nat.le_of_ble_eq_true rfl) ?_
                refine c_Md_minds hw hS hW.v hP hl (fun mI1 hP1 g1 g2 g3 => ?_)
                have hF1 : FN mI mI1 := ⟨fun q z1 z2 _ => g1 q z1 z2, g2, fun j z1 z2 => g3 j z2⟩
                have hT1 := hT.n hF1
                have hS1 : SM 0 T N.1 (KO T N.1) mI1 := hS.to hw hW.v (fun j _ z2 => g3 j (by omega))
                have hl1 : ∀ τ ∈ psh N.2 N.1, SV T τ := psh_SV hl hW.v
                have hin : j ∈ Lm N.1 (aH N.1 j) := (Lm_mem hW.v).mpr ⟨hj, rfl⟩
                have hb100 : ∀ x ∈ Lm N.1 (aH N.1 j), x < 100 := fun x hx => by have := ((Lm_mem hW.v).mp hx).1; omega
                have hto3 : va_up (Lm N.1) (aH N.1 j) ((Lm N.1 (aH N.1 j)).erase j) u = Lm N.1 u := va_up_n _ _ (fun z => hne z.symm)
                have htwo := Lm_two hw hW.v hne
                have hpos := List.length_pos_of_mem hin
                refine g_aload_n d_Md_give_77 rfl ?_
                refine N_iconst d_Md_give_78 0 rfl ?_
                refine g_iload_n d_Md_give_79 rfl ?_
                refine g_iload d_Md_give_80 rfl ?_
                refine C_V3 d_Md_give_82 k_Md_239 rfl (Nat.le_of_ble_eq_true rfl) (by decide) (Nat.le_of_ble_eq_true rfl) ?_
                refine c_Md_leavesOne (r := 0) (m := aH N.1 j) (by omega) (by omega) (hS1.ll hw hW.v) (by omega) hb100 hin (fun mI2 hL2 hF2 => ?_)
                refine g_aload_n d_Md_give_85 rfl ?_
                refine N_iconst d_Md_give_86 0 rfl ?_
                refine g_iload_n d_Md_give_87 rfl ?_
                refine g_iload_n d_Md_give_88 rfl ?_
                refine C_V3 d_Md_give_89 k_Md_219 rfl (Nat.le_of_ble_eq_true rfl) (by decide) (Nat.le_of_ble_eq_true rfl) ?_
                refine c_Md_joins (r := 0) (m := u) (by omega) (by omega) hL2 (by rw [hto3]; omega) (fun mI3 hL3 hF3 => ?_)
                rw [hto3] at hL3
                refine g_iload d_Md_give_92 rfl ?_
                refine P_iret d_Md_give_94 rfl ?_
                have e : sGi T N (nI j) (nI u) = ((hand N.1 j u, psh N.2 N.1), nI (aH N.1 j)) := by unfold sGi; rw [if_neg hA, ej, ew, if_neg hB]
                rw [e] at k
                have hF13 : FN mI mI3 := hF1.tr ((hF2.n (by omega)).tr (hF3.n (by omega)))
                have e140 : ∀ i, ¬ (27 ≤ i ∧ i < 93) → mI3 140 i = mI1 140 i := fun i hi => (hF3.2 i (by omega)).trans (hF2.2 i (by omega))
                refine k _ (SM_of ?_ ?_ (fun i hi => ?_) (fun q hq => ?_) hL3 (fun u _ => Lm_hand hW.v hj rfl (fun z => hne z.symm) u)) (hP1.to hw hl1 ?_ (fun i hi => e140 i (by omega))) hF13
                · rw [e140 _ (by omega)]; exact hS1.1
                · rw [e140 _ (by omega), show KO T (hand N.1 j u) = KO T N.1 from kB_hand h66 (by omega)]; exact hS1.2.1
                · rw [e140 _ (by omega)]; exact hS1.2.2.1 i hi
                · rw [e140 _ (by omega), e140 _ (by omega)]; exact hS1.2.2.2.1 q hq
                · rw [hF3.1 139 (by omega), hF2.1 139 (by omega)]
              · refine P_bipush d_Md_give_70 (-4) rfl ?_
                refine P_iret d_Md_give_72 rfl ?_
                have hB : aH N.1 j = 6 ∨ aH N.1 j = u ∨ (u ≠ 5 ∧ aS N.1 u = 0) := Or.inr (Or.inr ⟨by omega, by assumption⟩)
                have e : sGi T N (nI j) (nI u) = (N, -4) := by unfold sGi; rw [if_neg hA, ej, ew, if_pos hB]
                rw [e] at k
                exact k _ hS hP FN.rf
      · have ew : whoN m = 5 := by unfold whoN; rw [if_pos hm1]
        refine N_iconst d_Md_give_29 5 rfl ?_
        refine P_goto d_Md_give_30 34 (by decide) ?_
        refine S_istore_n_5_3 d_Md_give_34 rfl rfl ?_
        refine g_aload_n d_Md_give_35 rfl ?_
        refine N_iconst d_Md_give_36 0 rfl ?_
        refine g_iload_n d_Md_give_37 rfl ?_
        refine C_V2 d_Md_give_38 k_Md_262 rfl (Nat.le_of_ble_eq_true rfl) (by decide) (Nat.le_of_ble_eq_true rfl) ?_
        refine (c_Md_holderIn (r := 0) (Ls := Lm N.1) (h := aH N.1 j) (by omega) (hS.ll hw hW.v) (by omega) (fun m hm x hx => by have := ((Lm_mem hW.v).mp hx).1; omega) (hW.2.1 j hj).1 (fun m hm => ⟨fun z => ((Lm_mem hW.v).mp z).2, fun z => (Lm_mem hW.v).mpr ⟨hj, z⟩⟩)) ?_
        refine S_istore_5_4 d_Md_give_41 rfl rfl ?_
        refine g_iload d_Md_give_43 rfl ?_
        refine P_if_lt d_Md_give_45 70 (by decide) (fun dd1 => ?_) (fun dd1 => ?_)
        · refine P_bipush d_Md_give_70 (-4) rfl ?_
          refine P_iret d_Md_give_72 rfl ?_
          have hB : aH N.1 j = 6 ∨ aH N.1 j = 5 ∨ (5 ≠ 5 ∧ aS N.1 5 = 0) := Or.inl ((hoI_neg h6).mp dd1)
          have e : sGi T N (nI j) m = (N, -4) := by unfold sGi; rw [if_neg hA, ej, ew, if_pos hB]
          rw [e] at k
          exact k _ hS hP FN.rf
        · have h66 : aH N.1 j ≠ 6 := fun z => dd1 ((hoI_neg h6).mpr z)
          have h55 : hoI (aH N.1 j) = nI (aH N.1 j) := hoI_5 (by omega)
          rw [h55]
          refine g_iload d_Md_give_48 rfl ?_
          refine g_iload_n d_Md_give_50 rfl ?_
          refine N_icmp_eq d_Md_give_51 70 (by decide) ⟨by omega, by omega⟩ (fun dd2 => ?_) (fun dd2 => ?_)
          · refine P_bipush d_Md_give_70 (-4) rfl ?_
            refine P_iret d_Md_give_72 rfl ?_
            have hB : aH N.1 j = 6 ∨ aH N.1 j = 5 ∨ (5 ≠ 5 ∧ aS N.1 5 = 0) := Or.inr (Or.inl dd2)
            have e : sGi T N (nI j) m = (N, -4) := by unfold sGi; rw [if_neg hA, ej, ew, if_pos hB]
            rw [e] at k
            exact k _ hS hP FN.rf
          · have hne : aH N.1 j ≠ 5 := dd2
            refine g_iload_n d_Md_give_54 rfl ?_
            refine N_iconst d_Md_give_55 5 rfl ?_
            refine N_icmp_eq d_Md_give_56 73 (by decide) ⟨by omega, by omega⟩ (fun dd3 => ?_) (fun dd3 => ?_)
            · have hB : ¬ (aH N.1 j = 6 ∨ aH N.1 j = 5 ∨ (5 ≠ 5 ∧ aS N.1 5 = 0)) := fun z => z.elim (fun y => h66 y) (fun z => z.elim (fun y => hne y) (fun y => by first | exact absurd y.2 (by assumption) | exact absurd rfl y.1 | omega))
              refine g_aload_n d_Md_give_73 rfl ?_
              refine C_V0 d_Md_give_74 k_Md_275 rfl (Nat.le_of_ble_eq_true rfl) (by decide) (Nat.le_of_ble_eq_true rfl) ?_
              refine c_Md_minds hw hS hW.v hP hl (fun mI1 hP1 g1 g2 g3 => ?_)
              have hF1 : FN mI mI1 := ⟨fun q z1 z2 _ => g1 q z1 z2, g2, fun j z1 z2 => g3 j z2⟩
              have hT1 := hT.n hF1
              have hS1 : SM 0 T N.1 (KO T N.1) mI1 := hS.to hw hW.v (fun j _ z2 => g3 j (by omega))
              have hl1 : ∀ τ ∈ psh N.2 N.1, SV T τ := psh_SV hl hW.v
              have hin : j ∈ Lm N.1 (aH N.1 j) := (Lm_mem hW.v).mpr ⟨hj, rfl⟩
              have hb100 : ∀ x ∈ Lm N.1 (aH N.1 j), x < 100 := fun x hx => by have := ((Lm_mem hW.v).mp hx).1; omega
              have hto3 : va_up (Lm N.1) (aH N.1 j) ((Lm N.1 (aH N.1 j)).erase j) 5 = Lm N.1 5 := va_up_n _ _ (fun z => hne z.symm)
              have htwo := Lm_two hw hW.v hne
              have hpos := List.length_pos_of_mem hin
              refine g_aload_n d_Md_give_77 rfl ?_
              refine N_iconst d_Md_give_78 0 rfl ?_
              refine g_iload_n d_Md_give_79 rfl ?_
              refine g_iload d_Md_give_80 rfl ?_
              refine C_V3 d_Md_give_82 k_Md_239 rfl (Nat.le_of_ble_eq_true rfl) (by decide) (Nat.le_of_ble_eq_true rfl) ?_
              refine c_Md_leavesOne (r := 0) (m := aH N.1 j) (by omega) (by omega) (hS1.ll hw hW.v) (by omega) hb100 hin (fun mI2 hL2 hF2 => ?_)
              refine g_aload_n d_Md_give_85 rfl ?_
              refine N_iconst d_Md_give_86 0 rfl ?_
              refine g_iload_n d_Md_give_87 rfl ?_
              refine g_iload_n d_Md_give_88 rfl ?_
              refine C_V3 d_Md_give_89 k_Md_219 rfl (Nat.le_of_ble_eq_true rfl) (by decide) (Nat.le_of_ble_eq_true rfl) ?_
              refine c_Md_joins (r := 0) (m := 5) (by omega) (by omega) hL2 (by rw [hto3]; omega) (fun mI3 hL3 hF3 => ?_)
              rw [hto3] at hL3
              refine g_iload d_Md_give_92 rfl ?_
              refine P_iret d_Md_give_94 rfl ?_
              have e : sGi T N (nI j) m = ((hand N.1 j 5, psh N.2 N.1), nI (aH N.1 j)) := by unfold sGi; rw [if_neg hA, ej, ew, if_neg hB]
              rw [e] at k
              have hF13 : FN mI mI3 := hF1.tr ((hF2.n (by omega)).tr (hF3.n (by omega)))
              have e140 : ∀ i, ¬ (27 ≤ i ∧ i < 93) → mI3 140 i = mI1 140 i := fun i hi => (hF3.2 i (by omega)).trans (hF2.2 i (by omega))
              refine k _ (SM_of ?_ ?_ (fun i hi => ?_) (fun q hq => ?_) hL3 (fun u _ => Lm_hand hW.v hj rfl (fun z => hne z.symm) u)) (hP1.to hw hl1 ?_ (fun i hi => e140 i (by omega))) hF13
              · rw [e140 _ (by omega)]; exact hS1.1
              · rw [e140 _ (by omega), show KO T (hand N.1 j 5) = KO T N.1 from kB_hand h66 (by omega)]; exact hS1.2.1
              · rw [e140 _ (by omega)]; exact hS1.2.2.1 i hi
              · rw [e140 _ (by omega), e140 _ (by omega)]; exact hS1.2.2.2.1 q hq
              · rw [hF3.1 139 (by omega), hF2.1 139 (by omega)]
            · exact absurd rfl dd3
    · refine g_aload_n d_Md_give_13 rfl ?_
      refine g_iload_n d_Md_give_14 rfl ?_
      refine C_V1 d_Md_give_15 k_Md_256 rfl (Nat.le_of_ble_eq_true rfl) (by decide) (Nat.le_of_ble_eq_true rfl) ?_
      refine (c_Md_isPerson hT.1 (by omega)) ?_
      refine B_ne d_Md_give_18 24 (by decide) (fun c3 => ?_) (fun c3 => ?_)
      · have hA : ¬ (¬ inN p (tP T) ∨ (¬ m = -1 ∧ ¬ inN m (tn T))) := fun z => z.elim (fun y => y (by assumption)) (fun y => by first | exact y.1 (by assumption) | exact y.2 (by assumption))
        have c1 : inN p (tP T) := by assumption
        obtain ⟨j, hj, rfl⟩ := inN_of c1 (by omega)
        have ej : tN (nI j) = j := tN_nI (by omega)
        have h6 := (hW.2.1 j hj).1
        refine g_iload_n d_Md_give_24 rfl ?_
        refine P_iconst d_Md_give_25 (-1) rfl ?_
        refine P_icmp_ne d_Md_give_26 33 (by decide) (fun hm1 => ?_) (fun hm1 => ?_)
        · have hin : inN m (tn T) := by
            by_cases y : inN m (tn T)
            · exact y
            · exact absurd (Or.inr ⟨hm1, y⟩) hA
          obtain ⟨u, hu, rfl⟩ := inN_of hin (by omega)
          have ew : whoN (nI u) = u := by unfold whoN; rw [if_neg hm1, tN_nI (by omega)]
          refine g_iload_n d_Md_give_33 rfl ?_
          refine S_istore_n_5_3 d_Md_give_34 rfl rfl ?_
          refine g_aload_n d_Md_give_35 rfl ?_
          refine N_iconst d_Md_give_36 0 rfl ?_
          refine g_iload_n d_Md_give_37 rfl ?_
          refine C_V2 d_Md_give_38 k_Md_262 rfl (Nat.le_of_ble_eq_true rfl) (by decide) (Nat.le_of_ble_eq_true rfl) ?_
          refine (c_Md_holderIn (r := 0) (Ls := Lm N.1) (h := aH N.1 j) (by omega) (hS.ll hw hW.v) (by omega) (fun m hm x hx => by have := ((Lm_mem hW.v).mp hx).1; omega) (hW.2.1 j hj).1 (fun m hm => ⟨fun z => ((Lm_mem hW.v).mp z).2, fun z => (Lm_mem hW.v).mpr ⟨hj, z⟩⟩)) ?_
          refine S_istore_5_4 d_Md_give_41 rfl rfl ?_
          refine g_iload d_Md_give_43 rfl ?_
          refine P_if_lt d_Md_give_45 70 (by decide) (fun dd1 => ?_) (fun dd1 => ?_)
          · refine P_bipush d_Md_give_70 (-4) rfl ?_
            refine P_iret d_Md_give_72 rfl ?_
            have hB : aH N.1 j = 6 ∨ aH N.1 j = u ∨ (u ≠ 5 ∧ aS N.1 u = 0) := Or.inl ((hoI_neg h6).mp dd1)
            have e : sGi T N (nI j) (nI u) = (N, -4) := by unfold sGi; rw [if_neg hA, ej, ew, if_pos hB]
            rw [e] at k
            exact k _ hS hP FN.rf
          · have h66 : aH N.1 j ≠ 6 := fun z => dd1 ((hoI_neg h6).mpr z)
            have h55 : hoI (aH N.1 j) = nI (aH N.1 j) := hoI_5 (by omega)
            rw [h55]
            refine g_iload d_Md_give_48 rfl ?_
            refine g_iload_n d_Md_give_50 rfl ?_
            refine N_icmp_eq d_Md_give_51 70 (by decide) ⟨by omega, by omega⟩ (fun dd2 => ?_) (fun dd2 => ?_)
            · refine P_bipush d_Md_give_70 (-4) rfl ?_
              refine P_iret d_Md_give_72 rfl ?_
              have hB : aH N.1 j = 6 ∨ aH N.1 j = u ∨ (u ≠ 5 ∧ aS N.1 u = 0) := Or.inr (Or.inl dd2)
              have e : sGi T N (nI j) (nI u) = (N, -4) := by unfold sGi; rw [if_neg hA, ej, ew, if_pos hB]
              rw [e] at k
              exact k _ hS hP FN.rf
            · have hne : aH N.1 j ≠ u := dd2
              refine g_iload_n d_Md_give_54 rfl ?_
              refine N_iconst d_Md_give_55 5 rfl ?_
              refine N_icmp_eq d_Md_give_56 73 (by decide) ⟨by omega, by omega⟩ (fun dd3 => ?_) (fun dd3 => ?_)
              · omega
              · have hs60 := hW.2.2 u (by omega)
                refine g_aload_n d_Md_give_59 rfl ?_
                refine H_getR 140 d_Md_give_60 f_Md_7.g rfl rfl (by decide) rfl ?_
                refine N_iconst d_Md_give_63 1 rfl ?_
                refine g_iload_n d_Md_give_64 rfl ?_
                refine N_iadd d_Md_give_65 ?_
                refine H_ialdN d_Md_give_66 rfl rfl (by omega) (by decide) ?_
                refine T_int (nI (aS N.1 u)) (by have := hS.2.2.1 u (by omega); rw [Nat.zero_add] at this; exact this) ?_
                refine N_if_ne d_Md_give_67 73 (by decide) (by omega) (fun dd4 => ?_) (fun dd4 => ?_)
                · have hB : ¬ (aH N.1 j = 6 ∨ aH N.1 j = u ∨ (u ≠ 5 ∧ aS N.1 u = 0)) := fun z => z.elim (fun y => h66 y) (fun z => z.elim (fun y => hne y) (fun y => by first | exact absurd y.2 (by assumption) | exact absurd rfl y.1 | omega))
                  refine g_aload_n d_Md_give_73 rfl ?_
                  refine C_V0 d_Md_give_74 k_Md_275 rfl (Nat.le_of_ble_eq_true rfl) (by decide) (Nat.le_of_ble_eq_true rfl) ?_
                  refine c_Md_minds hw hS hW.v hP hl (fun mI1 hP1 g1 g2 g3 => ?_)
                  have hF1 : FN mI mI1 := ⟨fun q z1 z2 _ => g1 q z1 z2, g2, fun j z1 z2 => g3 j z2⟩
                  have hT1 := hT.n hF1
                  have hS1 : SM 0 T N.1 (KO T N.1) mI1 := hS.to hw hW.v (fun j _ z2 => g3 j (by omega))
                  have hl1 : ∀ τ ∈ psh N.2 N.1, SV T τ := psh_SV hl hW.v
                  have hin : j ∈ Lm N.1 (aH N.1 j) := (Lm_mem hW.v).mpr ⟨hj, rfl⟩
                  have hb100 : ∀ x ∈ Lm N.1 (aH N.1 j), x < 100 := fun x hx => by have := ((Lm_mem hW.v).mp hx).1; omega
                  have hto3 : va_up (Lm N.1) (aH N.1 j) ((Lm N.1 (aH N.1 j)).erase j) u = Lm N.1 u := va_up_n _ _ (fun z => hne z.symm)
                  have htwo := Lm_two hw hW.v hne
                  have hpos := List.length_pos_of_mem hin
                  refine g_aload_n d_Md_give_77 rfl ?_
                  refine N_iconst d_Md_give_78 0 rfl ?_
                  refine g_iload_n d_Md_give_79 rfl ?_
                  refine g_iload d_Md_give_80 rfl ?_
                  refine C_V3 d_Md_give_82 k_Md_239 rfl (Nat.le_of_ble_eq_true rfl) (by decide) (Nat.le_of_ble_eq_true rfl) ?_
                  refine c_Md_leavesOne (r := 0) (m := aH N.1 j) (by omega) (by omega) (hS1.ll hw hW.v) (by omega) hb100 hin (fun mI2 hL2 hF2 => ?_)
                  refine g_aload_n d_Md_give_85 rfl ?_
                  refine N_iconst d_Md_give_86 0 rfl ?_
                  refine g_iload_n d_Md_give_87 rfl ?_
                  refine g_iload_n d_Md_give_88 rfl ?_
                  refine C_V3 d_Md_give_89 k_Md_219 rfl (Nat.le_of_ble_eq_true rfl) (by decide) (Nat.le_of_ble_eq_true rfl) ?_
                  refine c_Md_joins (r := 0) (m := u) (by omega) (by omega) hL2 (by rw [hto3]; omega) (fun mI3 hL3 hF3 => ?_)
                  rw [hto3] at hL3
                  refine g_iload d_Md_give_92 rfl ?_
                  refine P_iret d_Md_give_94 rfl ?_
                  have e : sGi T N (nI j) (nI u) = ((hand N.1 j u, psh N.2 N.1), nI (aH N.1 j)) := by unfold sGi; rw [if_neg hA, ej, ew, if_neg hB]
                  rw [e] at k
                  have hF13 : FN mI mI3 := hF1.tr ((hF2.n (by omega)).tr (hF3.n (by omega)))
                  have e140 : ∀ i, ¬ (27 ≤ i ∧ i < 93) → mI3 140 i = mI1 140 i := fun i hi => (hF3.2 i (by omega)).trans (hF2.2 i (by omega))
                  refine k _ (SM_of ?_ ?_ (fun i hi => ?_) (fun q hq => ?_) hL3 (fun u _ => Lm_hand hW.v hj rfl (fun z => hne z.symm) u)) (hP1.to hw hl1 ?_ (fun i hi => e140 i (by omega))) hF13
                  · rw [e140 _ (by omega)]; exact hS1.1
                  · rw [e140 _ (by omega), show KO T (hand N.1 j u) = KO T N.1 from kB_hand h66 (by omega)]; exact hS1.2.1
                  · rw [e140 _ (by omega)]; exact hS1.2.2.1 i hi
                  · rw [e140 _ (by omega), e140 _ (by omega)]; exact hS1.2.2.2.1 q hq
                  · rw [hF3.1 139 (by omega), hF2.1 139 (by omega)]
                · refine P_bipush d_Md_give_70 (-4) rfl ?_
                  refine P_iret d_Md_give_72 rfl ?_
                  have hB : aH N.1 j = 6 ∨ aH N.1 j = u ∨ (u ≠ 5 ∧ aS N.1 u = 0) := Or.inr (Or.inr ⟨by omega, by assumption⟩)
                  have e : sGi T N (nI j) (nI u) = (N, -4) := by unfold sGi; rw [if_neg hA, ej, ew, if_pos hB]
                  rw [e] at k
                  exact k _ hS hP FN.rf
        · have ew : whoN m = 5 := by unfold whoN; rw [if_pos hm1]
          refine N_iconst d_Md_give_29 5 rfl ?_
          refine P_goto d_Md_give_30 34 (by decide) ?_
          refine S_istore_n_5_3 d_Md_give_34 rfl rfl ?_
          refine g_aload_n d_Md_give_35 rfl ?_
          refine N_iconst d_Md_give_36 0 rfl ?_
          refine g_iload_n d_Md_give_37 rfl ?_
          refine C_V2 d_Md_give_38 k_Md_262 rfl (Nat.le_of_ble_eq_true rfl) (by decide) (Nat.le_of_ble_eq_true rfl) ?_
          refine (c_Md_holderIn (r := 0) (Ls := Lm N.1) (h := aH N.1 j) (by omega) (hS.ll hw hW.v) (by omega) (fun m hm x hx => by have := ((Lm_mem hW.v).mp hx).1; omega) (hW.2.1 j hj).1 (fun m hm => ⟨fun z => ((Lm_mem hW.v).mp z).2, fun z => (Lm_mem hW.v).mpr ⟨hj, z⟩⟩)) ?_
          refine S_istore_5_4 d_Md_give_41 rfl rfl ?_
          refine g_iload d_Md_give_43 rfl ?_
          refine P_if_lt d_Md_give_45 70 (by decide) (fun dd1 => ?_) (fun dd1 => ?_)
          · refine P_bipush d_Md_give_70 (-4) rfl ?_
            refine P_iret d_Md_give_72 rfl ?_
            have hB : aH N.1 j = 6 ∨ aH N.1 j = 5 ∨ (5 ≠ 5 ∧ aS N.1 5 = 0) := Or.inl ((hoI_neg h6).mp dd1)
            have e : sGi T N (nI j) m = (N, -4) := by unfold sGi; rw [if_neg hA, ej, ew, if_pos hB]
            rw [e] at k
            exact k _ hS hP FN.rf
          · have h66 : aH N.1 j ≠ 6 := fun z => dd1 ((hoI_neg h6).mpr z)
            have h55 : hoI (aH N.1 j) = nI (aH N.1 j) := hoI_5 (by omega)
            rw [h55]
            refine g_iload d_Md_give_48 rfl ?_
            refine g_iload_n d_Md_give_50 rfl ?_
            refine N_icmp_eq d_Md_give_51 70 (by decide) ⟨by omega, by omega⟩ (fun dd2 => ?_) (fun dd2 => ?_)
            · refine P_bipush d_Md_give_70 (-4) rfl ?_
              refine P_iret d_Md_give_72 rfl ?_
              have hB : aH N.1 j = 6 ∨ aH N.1 j = 5 ∨ (5 ≠ 5 ∧ aS N.1 5 = 0) := Or.inr (Or.inl dd2)
              have e : sGi T N (nI j) m = (N, -4) := by unfold sGi; rw [if_neg hA, ej, ew, if_pos hB]
              rw [e] at k
              exact k _ hS hP FN.rf
            · have hne : aH N.1 j ≠ 5 := dd2
              refine g_iload_n d_Md_give_54 rfl ?_
              refine N_iconst d_Md_give_55 5 rfl ?_
              refine N_icmp_eq d_Md_give_56 73 (by decide) ⟨by omega, by omega⟩ (fun dd3 => ?_) (fun dd3 => ?_)
              · have hB : ¬ (aH N.1 j = 6 ∨ aH N.1 j = 5 ∨ (5 ≠ 5 ∧ aS N.1 5 = 0)) := fun z => z.elim (fun y => h66 y) (fun z => z.elim (fun y => hne y) (fun y => by first | exact absurd y.2 (by assumption) | exact absurd rfl y.1 | omega))
                refine g_aload_n d_Md_give_73 rfl ?_
                refine C_V0 d_Md_give_74 k_Md_275 rfl (Nat.le_of_ble_eq_true rfl) (by decide) (Nat.le_of_ble_eq_true rfl) ?_
                refine c_Md_minds hw hS hW.v hP hl (fun mI1 hP1 g1 g2 g3 => ?_)
                have hF1 : FN mI mI1 := ⟨fun q z1 z2 _ => g1 q z1 z2, g2, fun j z1 z2 => g3 j z2⟩
                have hT1 := hT.n hF1
                have hS1 : SM 0 T N.1 (KO T N.1) mI1 := hS.to hw hW.v (fun j _ z2 => g3 j (by omega))
                have hl1 : ∀ τ ∈ psh N.2 N.1, SV T τ := psh_SV hl hW.v
                have hin : j ∈ Lm N.1 (aH N.1 j) := (Lm_mem hW.v).mpr ⟨hj, rfl⟩
                have hb100 : ∀ x ∈ Lm N.1 (aH N.1 j), x < 100 := fun x hx => by have := ((Lm_mem hW.v).mp hx).1; omega
                have hto3 : va_up (Lm N.1) (aH N.1 j) ((Lm N.1 (aH N.1 j)).erase j) 5 = Lm N.1 5 := va_up_n _ _ (fun z => hne z.symm)
                have htwo := Lm_two hw hW.v hne
                have hpos := List.length_pos_of_mem hin
                refine g_aload_n d_Md_give_77 rfl ?_
                refine N_iconst d_Md_give_78 0 rfl ?_
                refine g_iload_n d_Md_give_79 rfl ?_
                refine g_iload d_Md_give_80 rfl ?_
                refine C_V3 d_Md_give_82 k_Md_239 rfl (Nat.le_of_ble_eq_true rfl) (by decide) (Nat.le_of_ble_eq_true rfl) ?_
                refine c_Md_leavesOne (r := 0) (m := aH N.1 j) (by omega) (by omega) (hS1.ll hw hW.v) (by omega) hb100 hin (fun mI2 hL2 hF2 => ?_)
                refine g_aload_n d_Md_give_85 rfl ?_
                refine N_iconst d_Md_give_86 0 rfl ?_
                refine g_iload_n d_Md_give_87 rfl ?_
                refine g_iload_n d_Md_give_88 rfl ?_
                refine C_V3 d_Md_give_89 k_Md_219 rfl (Nat.le_of_ble_eq_true rfl) (by decide) (Nat.le_of_ble_eq_true rfl) ?_
                refine c_Md_joins (r := 0) (m := 5) (by omega) (by omega) hL2 (by rw [hto3]; omega) (fun mI3 hL3 hF3 => ?_)
                rw [hto3] at hL3
                refine g_iload d_Md_give_92 rfl ?_
                refine P_iret d_Md_give_94 rfl ?_
                have e : sGi T N (nI j) m = ((hand N.1 j 5, psh N.2 N.1), nI (aH N.1 j)) := by unfold sGi; rw [if_neg hA, ej, ew, if_neg hB]
                rw [e] at k
                have hF13 : FN mI mI3 := hF1.tr ((hF2.n (by omega)).tr (hF3.n (by omega)))
                have e140 : ∀ i, ¬ (27 ≤ i ∧ i < 93) → mI3 140 i = mI1 140 i := fun i hi => (hF3.2 i (by omega)).trans (hF2.2 i (by omega))
                refine k _ (SM_of ?_ ?_ (fun i hi => ?_) (fun q hq => ?_) hL3 (fun u _ => Lm_hand hW.v hj rfl (fun z => hne z.symm) u)) (hP1.to hw hl1 ?_ (fun i hi => e140 i (by omega))) hF13
                · rw [e140 _ (by omega)]; exact hS1.1
                · rw [e140 _ (by omega), show KO T (hand N.1 j 5) = KO T N.1 from kB_hand h66 (by omega)]; exact hS1.2.1
                · rw [e140 _ (by omega)]; exact hS1.2.2.1 i hi
                · rw [e140 _ (by omega), e140 _ (by omega)]; exact hS1.2.2.2.1 q hq
                · rw [hF3.1 139 (by omega), hF2.1 139 (by omega)]
              · exact absurd rfl dd3
      · refine P_bipush d_Md_give_21 (-2) rfl ?_
        refine P_iret d_Md_give_23 rfl ?_
        have e : sGi T N p m = (N, -2) := by unfold sGi; rw [if_pos (by first | exact Or.inl (by assumption) | exact Or.inr ⟨by assumption, by assumption⟩)]
        rw [e] at k
        exact k _ hS hP FN.rf

theorem c_Md_shorten {X : CX} {dl : List (Nat × Nat)} {mI : Nat → Nat → Int32} {dr : Nat → Nat → Nat} {Q : Option Value → AH → Prop} {T : TD} (hw : TW T) (hT : TM 3 7 142 T mI) {N : NP} (hS : SM 0 T N.1 (KO T N.1) mI) (hW : SW T N.1) (hP : PM T N.2 mI) (hl : ∀ τ ∈ N.2, SV T τ) {p : Int32} (k : ∀ mI', SM 0 T (sSh T N p).1.1 (KO T (sSh T N p).1.1) mI' → PM T (sSh T N p).1.2 mI' → FN mI mI' → Q (some (.int (sSh T N p).2)) (hp X dl mI' dr)) : EW X m_Md_shorten 0 (enL m_Md_shorten.2.2.1 [.ref 139, .int p]) [] (hp X dl mI dr) Q := by
  show EW X m_Md_shorten 0 [.ref 139, .int p, jk] [] (hp X dl mI dr) Q
  have hw1 := hw.1
  have hw2 := hw.2.1
  refine g_aload_n d_Md_shorten_0 rfl ?_
  refine g_iload_n d_Md_shorten_1 rfl ?_
  refine C_V1 d_Md_shorten_2 k_Md_259 rfl (Nat.le_of_ble_eq_true rfl) (by decide) (Nat.le_of_ble_eq_true rfl) ?_
  refine (c_Md_isPromise hT.2.1 (by omega)) ?_
  refine B_ne d_Md_shorten_5 11 (by decide) (fun c1 => ?_) (fun c1 => ?_)
  · have hc := c1
    obtain ⟨j, hj, rfl⟩ := inN_of c1 (by omega)
    have ej : tN (nI j) = j := tN_nI (by omega)
    obtain ⟨h6, -, h7, h8⟩ := hW.2.1 j hj
    refine g_aload_n d_Md_shorten_11 rfl ?_
    refine H_getR 140 d_Md_shorten_12 f_Md_7.g rfl rfl (by decide) rfl ?_
    refine N_bipush d_Md_shorten_15 6 rfl ?_
    refine g_iload_n d_Md_shorten_17 rfl ?_
    refine N_iadd d_Md_shorten_18 ?_
    refine H_ialdN d_Md_shorten_19 rfl rfl (by omega) (by decide) ?_
    refine T_int (nI (aW N.1 j)) (by have := (hS.2.2.2.1 j hj).1; rw [Nat.zero_add] at this; exact this) ?_
    refine g_aload_n d_Md_shorten_20 rfl ?_
    refine H_getR 140 d_Md_shorten_21 f_Md_7.g rfl rfl (by decide) rfl ?_
    refine N_bipush d_Md_shorten_24 16 rfl ?_
    refine g_iload_n d_Md_shorten_26 rfl ?_
    refine N_iadd d_Md_shorten_27 ?_
    refine H_ialdN d_Md_shorten_28 rfl rfl (by omega) (by decide) ?_
    refine T_int (nI (aD N.1 j)) (by have := (hS.2.2.2.1 j hj).2; rw [Nat.zero_add] at this; exact this) ?_
    refine N_isub d_Md_shorten_29 h7 ?_
    refine N_iconst d_Md_shorten_30 2 rfl ?_
    refine N_idiv d_Md_shorten_31 (by omega) (by omega) (by omega) ?_
    refine S_istore_n_3_2 d_Md_shorten_32 rfl rfl ?_
    refine g_aload_n d_Md_shorten_33 rfl ?_
    refine H_getR 140 d_Md_shorten_34 f_Md_7.g rfl rfl (by decide) rfl ?_
    refine N_bipush d_Md_shorten_37 26 rfl ?_
    refine H_ialdN d_Md_shorten_39 rfl rfl (by omega) (by decide) ?_
    refine T_int (nI (KO T N.1)) hS.2.1 ?_
    refine g_iload_n d_Md_shorten_40 rfl ?_
    refine C_S2 d_Md_shorten_41 k_Md_236 (Nat.le_of_ble_eq_true rfl) (by decide) (Nat.le_of_ble_eq_true rfl) ?_
    refine (c_Md_has (kB_31 hw (aH N.1)) (by omega)) ?_
    refine B_ne d_Md_shorten_44 51 (by decide) (fun c2 => ?_) (fun c2 => ?_)
    · refine P_bipush d_Md_shorten_51 (-4) rfl ?_
      refine P_iret d_Md_shorten_53 rfl ?_
      have hB : aH N.1 j = 6 ∨ (aW N.1 j - aD N.1 j) / 2 = 0 := by first | exact Or.inl ((KO_bit hj).mp (by assumption)) | exact Or.inr (by assumption)
      have e : sSh T N (nI j) = (N, -4) := by unfold sSh; rw [if_neg (fun z => z c1), ej, if_pos hB]
      rw [e] at k
      exact k _ hS hP FN.rf
    · refine g_iload_n d_Md_shorten_47 rfl ?_
      refine N_if_ne d_Md_shorten_48 54 (by decide) (by omega) (fun c3 => ?_) (fun c3 => ?_)
      · have hB : ¬ (aH N.1 j = 6 ∨ (aW N.1 j - aD N.1 j) / 2 = 0) := fun z => z.elim (fun y => absurd ((KO_bit hj).mpr y) (by assumption)) (fun y => absurd y (by assumption))
        refine g_aload_n d_Md_shorten_54 rfl ?_
        refine C_V0 d_Md_shorten_55 k_Md_275 rfl (Nat.le_of_ble_eq_true rfl) (by decide) (Nat.le_of_ble_eq_true rfl) ?_
        refine c_Md_minds hw hS hW.v hP hl (fun mI1 hP1 g1 g2 g3 => ?_)
        have hF1 : FN mI mI1 := ⟨fun q z1 z2 _ => g1 q z1 z2, g2, fun j z1 z2 => g3 j z2⟩
        have hT1 := hT.n hF1
        have hS1 : SM 0 T N.1 (KO T N.1) mI1 := hS.to hw hW.v (fun j _ z2 => g3 j (by omega))
        have hl1 : ∀ τ ∈ psh N.2 N.1, SV T τ := psh_SV hl hW.v
        refine g_aload_n d_Md_shorten_58 rfl ?_
        refine H_getR 140 d_Md_shorten_59 f_Md_7.g rfl rfl (by decide) rfl ?_
        refine N_bipush d_Md_shorten_62 6 rfl ?_
        refine g_iload_n d_Md_shorten_64 rfl ?_
        refine N_iadd d_Md_shorten_65 ?_
        refine P_dup2 d_Md_shorten_66 ?_
        refine H_ialdN d_Md_shorten_67 rfl rfl (by omega) (by decide) ?_
        refine T_int (nI (aW N.1 j)) (by have := (hS1.2.2.2.1 j hj).1; rw [Nat.zero_add] at this; exact this) ?_
        refine g_iload_n d_Md_shorten_68 rfl ?_
        refine N_isub d_Md_shorten_69 (by omega) ?_
        refine H_iastN d_Md_shorten_70 rfl rfl (by omega) (by decide) ?_
        refine g_aload_n d_Md_shorten_71 rfl ?_
        refine H_getR 140 d_Md_shorten_72 f_Md_7.g rfl rfl (by decide) rfl ?_
        refine N_bipush d_Md_shorten_75 6 rfl ?_
        refine g_iload_n d_Md_shorten_77 rfl ?_
        refine N_iadd d_Md_shorten_78 ?_
        refine H_ialdN d_Md_shorten_79 rfl rfl (by omega) (by decide) ?_
        refine T_int (nI (aW N.1 j - (aW N.1 j - aD N.1 j) / 2)) (sI_s _ _ _ _) ?_
        refine P_iret d_Md_shorten_80 rfl ?_
        have e : sSh T N (nI j) = ((uW N.1 j (aW N.1 j - (aW N.1 j - aD N.1 j) / 2), psh N.2 N.1), nI (aW N.1 j - (aW N.1 j - aD N.1 j) / 2)) := by unfold sSh; rw [if_neg (fun z => z c1), ej, if_neg hB]
        rw [e] at k
        have hS2 := hS1.W hw hW.v j (aW N.1 j - (aW N.1 j - aD N.1 j) / 2) hj
        rw [Nat.zero_add] at hS2
        have hF2 : FW 0 93 mI1 (sI mI1 140 (6 + j) (nI (aW N.1 j - (aW N.1 j - aD N.1 j) / 2))) := FW_sI FW.rf (by omega)
        exact k _ hS2 (hP1.to hw hl1 (sI_n (by omega)) (fun i hi => sI_n (by omega))) (hF1.tr (hF2.n (by omega)))
      · refine P_bipush d_Md_shorten_51 (-4) rfl ?_
        refine P_iret d_Md_shorten_53 rfl ?_
        have hB : aH N.1 j = 6 ∨ (aW N.1 j - aD N.1 j) / 2 = 0 := by first | exact Or.inl ((KO_bit hj).mp (by assumption)) | exact Or.inr (by assumption)
        have e : sSh T N (nI j) = (N, -4) := by unfold sSh; rw [if_neg (fun z => z c1), ej, if_pos hB]
        rw [e] at k
        exact k _ hS hP FN.rf
  · refine P_bipush d_Md_shorten_8 (-2) rfl ?_
    refine P_iret d_Md_shorten_10 rfl ?_
    have e : sSh T N p = (N, -2) := by unfold sSh; rw [if_pos c1]
    rw [e] at k
    exact k _ hS hP FN.rf

theorem rk_idx (H : Nat → Nat) (p : Nat) : ∀ l : List Nat, rkH H p l = (l.filter (fun q => decide (H q = H p))).idxOf p
  | [] => rfl
  | q :: l => by
    rw [rkH, rk_idx H p l]
    by_cases h1 : q = p
    · subst h1
      rw [if_pos rfl, List.filter_cons_of_pos (by simp), List.idxOf_cons_self]
    · rw [if_neg h1]
      by_cases h2 : H q = H p
      · rw [if_pos h2, List.filter_cons_of_pos (by simp [h2]), List.idxOf_cons, show (q == p) = false by simp [h1]]; exact Nat.add_comm _ _
      · rw [if_neg h2, List.filter_cons_of_neg (by simp [h2])]; omega
theorem ext_getD {l l' : List Nat} (hl : l.length = l'.length) (h : ∀ k, k < l.length → l.getD k 0 = l'.getD k 0) : l = l' := by
  refine List.ext_getElem hl (fun k h1 h2 => ?_)
  have := h k h1
  rw [List.getD_eq_getElem?_getD, List.getD_eq_getElem?_getD, List.getElem?_eq_getElem h1, List.getElem?_eq_getElem h2] at this
  exact this
theorem shF_get : ∀ (i : Nat) (l : List Nat) (k : Nat), i < l.length → (shF l i).getD k 0 = if 1 ≤ k ∧ k ≤ i then l.getD (k - 1) 0 else l.getD k 0
  | 0, l, k, h => by rw [shF, if_neg (by omega)]
  | i + 1, l, k, h => by
    rw [shF, shF_get i _ k (by rw [List.length_set]; omega), getD_set _ _ _ _ h, getD_set _ _ _ _ h]
    by_cases z : k = i + 1
    · rw [if_neg (by omega), if_pos z, if_pos (by omega), z]; rfl
    · rw [if_neg (show ¬ k = i + 1 by omega)]
      by_cases y : 1 ≤ k ∧ k ≤ i
      · rw [if_pos y, if_neg (by omega), if_pos (by omega)]
      · rw [if_neg y, if_neg (by omega)]
theorem front_R {T : TD} {σ : AS} (h : SV T σ) {p : Nat} (hp1 : p < tP T) : aR (front σ p) = p :: (aR σ).erase p := by
  have hm := h.mem hp1
  have hi := idx_lt.mpr hm
  have hle : ((aR σ).erase p).length = (aR σ).length - 1 := List.length_erase_of_mem hm
  show (shF (aR σ) ((aR σ).idxOf p)).set 0 p = _
  refine ext_getD (by rw [List.length_set, shF_len, List.length_cons, hle]; omega) (fun k hk => ?_)
  rw [List.length_set, shF_len] at hk
  rw [getD_set _ _ _ _ (by rw [shF_len]; omega), shF_get _ _ _ hi]
  cases k with
  | zero => rfl
  | succ k =>
    rw [if_neg (by omega)]
    show _ = ((aR σ).erase p).getD k 0
    rw [er_get hm]
    by_cases y : k < (aR σ).idxOf p
    · rw [if_pos (by omega), if_pos y]; rfl
    · rw [if_neg (by omega), if_neg y]
theorem Lm_front {T : TD} {σ : AS} (h : SV T σ) {p : Nat} (hp1 : p < tP T) : ∀ u, Lm (front σ p) u = va_up (Lm σ) (aH σ p) (p :: (Lm σ (aH σ p)).erase p) u := fun u => by
  have e1 : ∀ v, ((aR σ).erase p).filter (fun q => decide (aH σ q = v)) = (Lm σ v).erase p := fun v => by
    unfold Lm
    rw [er_f h.1.2.1, h.1.2.1.erase_eq_filter, List.filter_filter]
  show (aR (front σ p)).filter (fun q => decide (aH σ q = u)) = _
  rw [front_R h hp1]
  by_cases z : u = aH σ p
  · subst z
    rw [va_up_s, List.filter_cons_of_pos (by simp), e1]
  · rw [va_up_n _ _ z, List.filter_cons_of_neg (by simp; exact fun y => z y.symm), e1]
    exact List.erase_of_not_mem (fun y => z ((Lm_mem h).mp y).2.symm)
theorem SV_front {T : TD} {σ : AS} (h : SV T σ) {p : Nat} (hp1 : p < tP T) : (aR (front σ p)).Perm (aR σ) := by
  rw [front_R h hp1]; exact (List.perm_cons_erase (h.mem hp1)).symm
theorem lp_Md_ahead {X : CX} {dl : List (Nat × Nat)} {mI : Nat → Nat → Int32} {dr : Nat → Nat → Nat} {Q : Option Value → AH → Prop} {T : TD} (hw : TW T) {σ : AS} (hS : SM 0 T σ (KO T σ) mI) (hW : SV T σ) {p : Nat} (hpP : p < tP T) (h6 : aH σ p < 6) (k : ∀ mI', SM 0 T (front σ p) (KO T (front σ p)) mI' → FW 27 93 mI mI' → Q (some (.int (nI ((Lm σ (aH σ p)).idxOf p)))) (hp X dl mI' dr)) : ∀ (d : Nat) (i : Nat) (mI2 : Nat → Nat → Int32), (i ≤ (Lm σ (aH σ p)).idxOf p) → (∀ j, j < (Lm σ (aH σ p)).length → mI2 140 (33 + 10 * aH σ p + j) = nI ((Lm σ (aH σ p)).getD (if i < j ∧ j ≤ (Lm σ (aH σ p)).idxOf p then j - 1 else j) 0)) → (∀ j, ¬ (33 + 10 * aH σ p ≤ j ∧ j < 33 + 10 * aH σ p + (Lm σ (aH σ p)).length) → mI2 140 j = mI 140 j) → (∀ q, q ≠ 140 → mI2 q = mI q) → i = d → EW X m_Md_ahead 50 [.ref 139, .int (nI p), .int (nI (aH σ p)), .int (nI ((Lm σ (aH σ p)).idxOf p)), .int (nI i)] [] (hp X dl mI2 dr) Q := by
  intro d
  induction d using Nat.strongRecOn with
  | _ d ih =>
    intro i mI2 hi h1 h2 h3 hd
    have hw1 := hw.1
    have hw2 := hw.2.1
    have hin : p ∈ Lm σ (aH σ p) := (Lm_mem hW).mpr ⟨hpP, rfl⟩
    have hlt := idx_lt.mpr hin
    have h10 := (hS.ll hw hW (aH σ p) h6).2.1
    have hle : ((Lm σ (aH σ p)).erase p).length = (Lm σ (aH σ p)).length - 1 := List.length_erase_of_mem hin
    refine g_iload d_Md_ahead_50 rfl ?_
    refine N_if_le d_Md_ahead_52 93 (by decide) (by omega) (fun c1 => ?_) (fun c1 => ?_)
    · refine g_aload_n d_Md_ahead_93 rfl ?_
      refine H_getR 140 d_Md_ahead_94 f_Md_7.g rfl rfl (by decide) rfl ?_
      refine N_bipush d_Md_ahead_97 33 rfl ?_
      refine N_bipush d_Md_ahead_99 10 rfl ?_
      refine g_iload_n d_Md_ahead_101 rfl ?_
      refine N_imul d_Md_ahead_102 ?_
      refine N_iadd d_Md_ahead_103 ?_
      refine g_iload_n d_Md_ahead_104 rfl ?_
      refine H_iastN d_Md_ahead_105 rfl rfl (by omega) (by decide) ?_
      refine g_iload_n d_Md_ahead_106 rfl ?_
      refine P_iret d_Md_ahead_107 rfl ?_
      have hz : i = 0 := by omega
      subst hz
      refine k _ (SM_of (Ls := va_up (Lm σ) (aH σ p) (p :: (Lm σ (aH σ p)).erase p)) ?_ ?_ (fun j hj => ?_) (fun q hq => ?_) (fun m hm => ?_) (fun u _ => Lm_front hW hpP u)) ⟨fun q hq => by rw [sI_r hq]; exact h3 q hq, fun j hj => by rw [sI_n (by omega)]; exact h2 j (by omega)⟩
      · rw [sI_n (by omega), h2 _ (by omega)]; exact hS.1
      · rw [sI_n (by omega), h2 _ (by omega)]; exact hS.2.1
      · rw [sI_n (by omega), h2 _ (by omega)]; exact hS.2.2.1 j hj
      · rw [sI_n (by omega), sI_n (by omega), h2 _ (by omega), h2 _ (by omega)]; exact hS.2.2.2.1 q hq
      · obtain ⟨g1, g2, g3⟩ := hS.ll hw hW m hm
        by_cases z : m = aH σ p
        · subst z
          rw [va_up_s, List.length_cons, hle]
          refine ⟨?_, by omega, fun j hj => ?_⟩
          · rw [sI_n (by omega), h2 _ (by omega), g1]; exact congrArg nI (by omega)
          · rw [Nat.zero_add]
            cases j with
            | zero => rw [Nat.add_zero]; exact sI_s _ _ _ _
            | succ j =>
              rw [sI_n (by omega), h1 (j + 1) (by omega)]
              show _ = nI (((Lm σ (aH σ p)).erase p).getD j 0)
              rw [er_get hin]
              by_cases y : j < (Lm σ (aH σ p)).idxOf p
              · rw [if_pos (by omega), if_pos y]; rfl
              · rw [if_neg (by omega), if_neg y]
        · rw [va_up_n _ _ z]
          refine ⟨by rw [sI_n (by omega), h2 _ (by omega)]; exact g1, g2, fun j hj => ?_⟩
          rw [sI_n (by omega), h2 _ (by omega)]; exact g3 j hj
    · refine g_aload_n d_Md_ahead_55 rfl ?_
      refine H_getR 140 d_Md_ahead_56 f_Md_7.g rfl rfl (by decide) rfl ?_
      refine N_bipush d_Md_ahead_59 33 rfl ?_
      refine N_bipush d_Md_ahead_61 10 rfl ?_
      refine g_iload_n d_Md_ahead_63 rfl ?_
      refine N_imul d_Md_ahead_64 ?_
      refine N_iadd d_Md_ahead_65 ?_
      refine g_iload d_Md_ahead_66 rfl ?_
      refine N_iadd d_Md_ahead_68 ?_
      refine g_aload_n d_Md_ahead_69 rfl ?_
      refine H_getR 140 d_Md_ahead_70 f_Md_7.g rfl rfl (by decide) rfl ?_
      refine N_bipush d_Md_ahead_73 33 rfl ?_
      refine N_bipush d_Md_ahead_75 10 rfl ?_
      refine g_iload_n d_Md_ahead_77 rfl ?_
      refine N_imul d_Md_ahead_78 ?_
      refine N_iadd d_Md_ahead_79 ?_
      refine g_iload d_Md_ahead_80 rfl ?_
      refine N_iadd d_Md_ahead_82 ?_
      refine N_iconst d_Md_ahead_83 1 rfl ?_
      refine N_isub d_Md_ahead_84 (by omega) ?_
      refine H_ialdN d_Md_ahead_85 rfl rfl (by omega) (by decide) ?_
      refine T_int (nI ((Lm σ (aH σ p)).getD (i - 1) 0)) (by rw [show 33 + 10 * aH σ p + i - 1 = 33 + 10 * aH σ p + (i - 1) by omega, h1 (i - 1) (by omega), if_neg (by omega)]) ?_
      refine H_iastN d_Md_ahead_86 rfl rfl (by omega) (by decide) ?_
      obtain ⟨i, rfl⟩ : ∃ i', i = i' + 1 := ⟨i - 1, by omega⟩
      refine N_iinc_5_4_m d_Md_ahead_87 rfl rfl ?_
      refine P_goto d_Md_ahead_90 50 (by decide) ?_
      refine ih i (by omega) i _ (by omega) (fun j hj => ?_) (fun j hj => by rw [sI_n (by omega)]; exact h2 j hj) (fun q hq => by rw [sI_r hq]; exact h3 q hq) rfl
      by_cases z : j = i + 1
      · rw [z, sI_s, if_pos (by omega)]
      · rw [sI_n (by omega), h1 j hj]
        by_cases y : i < j ∧ j ≤ (Lm σ (aH σ p)).idxOf p
        · rw [if_pos (by omega), if_pos y]
        · rw [if_neg (by omega), if_neg y]

theorem c_Md_ahead {X : CX} {dl : List (Nat × Nat)} {mI : Nat → Nat → Int32} {dr : Nat → Nat → Nat} {Q : Option Value → AH → Prop} {T : TD} (hw : TW T) (hT : TM 3 7 142 T mI) {N : NP} (hS : SM 0 T N.1 (KO T N.1) mI) (hW : SW T N.1) (hP : PM T N.2 mI) (hl : ∀ τ ∈ N.2, SV T τ) {p : Int32} (k : ∀ mI', SM 0 T (sAh T N p).1.1 (KO T (sAh T N p).1.1) mI' → PM T (sAh T N p).1.2 mI' → FN mI mI' → Q (some (.int (sAh T N p).2)) (hp X dl mI' dr)) : EW X m_Md_ahead 0 (enL m_Md_ahead.2.2.1 [.ref 139, .int p]) [] (hp X dl mI dr) Q := by
  show EW X m_Md_ahead 0 [.ref 139, .int p, jk, jk, jk] [] (hp X dl mI dr) Q
  have hw1 := hw.1
  have hw2 := hw.2.1
  refine g_aload_n d_Md_ahead_0 rfl ?_
  refine g_iload_n d_Md_ahead_1 rfl ?_
  refine C_V1 d_Md_ahead_2 k_Md_259 rfl (Nat.le_of_ble_eq_true rfl) (by decide) (Nat.le_of_ble_eq_true rfl) ?_
  refine (c_Md_isPromise hT.2.1 (by omega)) ?_
  refine B_ne d_Md_ahead_5 11 (by decide) (fun c1 => ?_) (fun c1 => ?_)
  · have hc := c1
    obtain ⟨j, hj, rfl⟩ := inN_of c1 (by omega)
    have ej : tN (nI j) = j := tN_nI (by omega)
    have h6 := (hW.2.1 j hj).1
    have erk : rkH (aH N.1) j (aR N.1) = (Lm N.1 (aH N.1 j)).idxOf j := rk_idx _ _ _
    have hin : j ∈ Lm N.1 (aH N.1 j) := (Lm_mem hW.v).mpr ⟨hj, rfl⟩
    have hlt := idx_lt.mpr hin
    have hb100 : ∀ x ∈ Lm N.1 (aH N.1 j), x < 100 := fun x hx => by have := ((Lm_mem hW.v).mp hx).1; omega
    have epl : hrI (plc (Lm N.1 (aH N.1 j)) j) = nI ((Lm N.1 (aH N.1 j)).idxOf j) := by unfold plc; rw [if_pos hlt]; rfl
    refine g_aload_n d_Md_ahead_11 rfl ?_
    refine N_iconst d_Md_ahead_12 0 rfl ?_
    refine g_iload_n d_Md_ahead_13 rfl ?_
    refine C_V2 d_Md_ahead_14 k_Md_262 rfl (Nat.le_of_ble_eq_true rfl) (by decide) (Nat.le_of_ble_eq_true rfl) ?_
    refine (c_Md_holderIn (r := 0) (Ls := Lm N.1) (h := aH N.1 j) (by omega) (hS.ll hw hW.v) (by omega) (fun m hm x hx => by have := ((Lm_mem hW.v).mp hx).1; omega) (hW.2.1 j hj).1 (fun m hm => ⟨fun z => ((Lm_mem hW.v).mp z).2, fun z => (Lm_mem hW.v).mpr ⟨hj, z⟩⟩)) ?_
    refine S_istore_n_5_2 d_Md_ahead_17 rfl rfl ?_
    refine g_iload_n d_Md_ahead_18 rfl ?_
    refine P_if_lt d_Md_ahead_19 32 (by decide) (fun c2 => ?_) (fun c2 => ?_)
    · refine P_bipush d_Md_ahead_32 (-4) rfl ?_
      refine P_iret d_Md_ahead_34 rfl ?_
      have hB : aH N.1 j = 6 ∨ rkH (aH N.1) j (aR N.1) = 0 := Or.inl ((hoI_neg h6).mp c2)
      have e : sAh T N (nI j) = (N, -4) := by unfold sAh; rw [if_neg (fun z => z c1), ej, if_pos hB]
      rw [e] at k
      exact k _ hS hP FN.rf
    · have h66 : aH N.1 j ≠ 6 := fun z => c2 ((hoI_neg h6).mpr z)
      have h55 : hoI (aH N.1 j) = nI (aH N.1 j) := hoI_5 (by omega)
      rw [h55]
      have hlen := (hS.ll hw hW.v (aH N.1 j) (by omega)).2.1
      refine g_aload_n d_Md_ahead_22 rfl ?_
      refine N_iconst d_Md_ahead_23 0 rfl ?_
      refine g_iload_n d_Md_ahead_24 rfl ?_
      refine g_iload_n d_Md_ahead_25 rfl ?_
      refine C_V3 d_Md_ahead_26 k_Md_232 rfl (Nat.le_of_ble_eq_true rfl) (by decide) (Nat.le_of_ble_eq_true rfl) ?_
      refine (c_Md_placeIn (r := 0) (m := aH N.1 j) (by omega) (by omega) (hS.ll hw hW.v) (by omega) hb100) ?_
      refine T_int (nI ((Lm N.1 (aH N.1 j)).idxOf j)) epl ?_
      refine N_if_ne d_Md_ahead_29 35 (by decide) (by omega) (fun c3 => ?_) (fun c3 => ?_)
      · have hB : ¬ (aH N.1 j = 6 ∨ rkH (aH N.1) j (aR N.1) = 0) := fun z => z.elim h66 (fun y => absurd (erk ▸ y) (by assumption))
        refine g_aload_n d_Md_ahead_35 rfl ?_
        refine C_V0 d_Md_ahead_36 k_Md_275 rfl (Nat.le_of_ble_eq_true rfl) (by decide) (Nat.le_of_ble_eq_true rfl) ?_
        refine c_Md_minds hw hS hW.v hP hl (fun mI1 hP1 g1 g2 g3 => ?_)
        have hF1 : FN mI mI1 := ⟨fun q z1 z2 _ => g1 q z1 z2, g2, fun j z1 z2 => g3 j z2⟩
        have hT1 := hT.n hF1
        have hS1 : SM 0 T N.1 (KO T N.1) mI1 := hS.to hw hW.v (fun j _ z2 => g3 j (by omega))
        have hl1 : ∀ τ ∈ psh N.2 N.1, SV T τ := psh_SV hl hW.v
        refine g_aload_n d_Md_ahead_39 rfl ?_
        refine N_iconst d_Md_ahead_40 0 rfl ?_
        refine g_iload_n d_Md_ahead_41 rfl ?_
        refine g_iload_n d_Md_ahead_42 rfl ?_
        refine C_V3 d_Md_ahead_43 k_Md_232 rfl (Nat.le_of_ble_eq_true rfl) (by decide) (Nat.le_of_ble_eq_true rfl) ?_
        refine (c_Md_placeIn (r := 0) (m := aH N.1 j) (by omega) (by omega) (hS1.ll hw hW.v) (by omega) hb100) ?_
        refine T_int (nI ((Lm N.1 (aH N.1 j)).idxOf j)) epl ?_
        refine S_istore_n_5_3 d_Md_ahead_46 rfl rfl ?_
        refine g_iload_n d_Md_ahead_47 rfl ?_
        refine S_istore_5_4 d_Md_ahead_48 rfl rfl ?_
        have e : sAh T N (nI j) = ((front N.1 j, psh N.2 N.1), nI (rkH (aH N.1) j (aR N.1))) := by unfold sAh; rw [if_neg (fun z => z c1), ej, if_neg hB]
        rw [e] at k
        refine lp_Md_ahead hw hS1 hW.v hj (by omega) (fun mI2 hS2 hF2 => ?_) _ ((Lm N.1 (aH N.1 j)).idxOf j) mI1 (Nat.le_refl _) (fun i hi => ?_) (fun _ _ => rfl) (fun _ _ => rfl) rfl
        · exact R_i (k _ hS2 (hP1.to hw hl1 (congrFun (hF2.1 139 (by omega)) 1) (fun i hi => hF2.2 i (by omega))) (hF1.tr (hF2.n (by omega)))) (by rw [erk])
        · rw [if_neg (by omega)]
          have := (hS1.ll hw hW.v (aH N.1 j) (by omega)).2.2 i hi
          rw [Nat.zero_add] at this
          exact this
      · refine P_bipush d_Md_ahead_32 (-4) rfl ?_
        refine P_iret d_Md_ahead_34 rfl ?_
        have hB : aH N.1 j = 6 ∨ rkH (aH N.1) j (aR N.1) = 0 := Or.inr (by rw [erk]; assumption)
        have e : sAh T N (nI j) = (N, -4) := by unfold sAh; rw [if_neg (fun z => z c1), ej, if_pos hB]
        rw [e] at k
        exact k _ hS hP FN.rf
  · refine P_bipush d_Md_ahead_8 (-2) rfl ?_
    refine P_iret d_Md_ahead_10 rfl ?_
    have e : sAh T N p = (N, -2) := by unfold sAh; rw [if_pos c1]
    rw [e] at k
    exact k _ hS hP FN.rf

theorem c_Md_undo {X : CX} {dl : List (Nat × Nat)} {mI : Nat → Nat → Int32} {dr : Nat → Nat → Nat} {Q : Option Value → AH → Prop} {T : TD} (hw : TW T) (hT : TM 3 7 142 T mI) {N : NP} (hS : SM 0 T N.1 (KO T N.1) mI) (hW : SW T N.1) (hP : PM T N.2 mI) (hl : ∀ τ ∈ N.2, SV T τ) (k : ∀ mI', SM 0 T (sUn N).1.1 (KO T (sUn N).1.1) mI' → PM T (sUn N).1.2 mI' → FN mI mI' → Q (some (.int (sUn N).2)) (hp X dl mI' dr)) : EW X m_Md_undo 0 (enL m_Md_undo.2.2.1 [.ref 139]) [] (hp X dl mI dr) Q := by
  show EW X m_Md_undo 0 [.ref 139] [] (hp X dl mI dr) Q
  refine g_aload_n d_Md_undo_0 rfl ?_
  refine H_getI d_Md_undo_1 f_Md_226.g rfl rfl (by decide) ?_
  refine T_int (nI (N.2.length)) hP.2.1 ?_
  have hlen : N.2.length ≤ 8 := hP.1
  refine N_if_ne d_Md_undo_4 10 (by decide) (by omega) (fun c1 => ?_) (fun c1 => ?_)
  · obtain ⟨σ, l⟩ := N
    obtain ⟨τ, l, rfl⟩ : ∃ τ l2, l = τ :: l2 := by
      cases l with
      | nil => exact absurd rfl c1
      | cons τ l2 => exact ⟨τ, l2, rfl⟩
    have e : sUn (σ, τ :: l) = ((τ, l), nI l.length) := rfl
    rw [e] at k
    have hl8 : l.length + 1 ≤ 8 := hlen
    have hτ := hl τ (List.mem_cons_self ..)
    have h0 := hP.2.2 0 τ rfl
    rw [List.length_cons, show l.length + 1 - 1 - 0 = l.length by omega] at h0
    refine g_aload_n d_Md_undo_10 rfl ?_
    refine P_dupA d_Md_undo_11 ?_
    refine H_getI d_Md_undo_12 f_Md_226.g rfl rfl (by decide) ?_
    refine T_int (nI (l.length + 1)) hP.2.1 ?_
    refine N_iconst d_Md_undo_15 1 rfl ?_
    refine N_isub d_Md_undo_16 (by omega) ?_
    refine H_putI d_Md_undo_17 f_Md_226 rfl rfl (by decide) ?_
    refine g_aload_n d_Md_undo_20 rfl ?_
    refine N_sipush d_Md_undo_21 372 rfl ?_
    refine N_bipush d_Md_undo_24 93 rfl ?_
    refine g_aload_n d_Md_undo_26 rfl ?_
    refine H_getI d_Md_undo_27 f_Md_226.g rfl rfl (by decide) ?_
    refine T_int (nI (l.length)) (by rw [sI_s]; exact congrArg nI (by omega)) ?_
    refine N_imul d_Md_undo_30 ?_
    refine N_iadd d_Md_undo_31 ?_
    refine N_iconst d_Md_undo_32 0 rfl ?_
    refine C_V2 d_Md_undo_33 k_Md_270 rfl (Nat.le_of_ble_eq_true rfl) (by decide) (Nat.le_of_ble_eq_true rfl) ?_
    refine c_Md_bring (a := 372 + 93 * l.length) (b := 0) (by omega) (by omega) (by omega) (fun mI2 h2 hF2 => ?_)
    refine g_aload_n d_Md_undo_36 rfl ?_
    refine H_getI d_Md_undo_37 f_Md_226.g rfl rfl (by decide) ?_
    refine T_int (nI l.length) (by rw [hF2.1 139 (by omega), sI_s]; exact congrArg nI (by omega)) ?_
    refine P_iret d_Md_undo_40 rfl ?_
    refine k _ (h0.cp hw hτ (fun i hi => by rw [h2 i hi, sI_r (by omega)])) ⟨show l.length ≤ 8 by omega, show mI2 139 1 = nI l.length by rw [hF2.1 139 (by omega), sI_s]; exact congrArg nI (by omega), fun j ρ hj => ?_⟩ ⟨fun q z1 z2 _ => by rw [hF2.1 q z2, sI_r z1], fun f hf => by rw [hF2.1 139 (by omega), sI_n (fun z => hf z.2)], fun j z1 z2 => by rw [hF2.2 j (by omega), sI_r (by omega)]⟩
    have hjl : j < l.length := (List.getElem?_eq_some_iff.mp hj).1
    have h1 := hP.2.2 (j + 1) ρ hj
    rw [List.length_cons, show l.length + 1 - 1 - (j + 1) = l.length - 1 - j by omega] at h1
    exact h1.to hw (hl ρ (List.mem_cons_of_mem _ (List.mem_of_getElem? hj))) (fun i z1 z2 => by rw [hF2.2 i (by omega), sI_r (by omega)])
  · refine P_bipush d_Md_undo_7 (-4) rfl ?_
    refine P_iret d_Md_undo_9 rfl ?_
    have hn : N.2 = [] := List.length_eq_zero_iff.mp c1
    have e : sUn N = (N, -4) := by unfold sUn; rw [hn]
    rw [e] at k
    exact k _ hS hP FN.rf

theorem c_Md_keep {X : CX} {dl : List (Nat × Nat)} {mI : Nat → Nat → Int32} {dr : Nat → Nat → Nat} {Q : Option Value → AH → Prop} {T : TD} (hw : TW T) {σ : AS} (hS : SM 0 T σ (KO T σ) mI) (hW : SV T σ) {kp : KP} (hK : KM T kp mI) (hk : ∀ u τ, u < 2 → kp u = some τ → SV T τ) {i : Int32} (k : ∀ mI', KM T (sKe kp σ i).1 mI' → (∀ q, q ≠ 140 → q ≠ 141 → mI' q = mI q) → (∀ j, ¬ (186 ≤ j ∧ j < 372) → mI' 140 j = mI 140 j) → Q (some (.int (sKe kp σ i).2)) (hp X dl mI' dr)) : EW X m_Md_keep 0 (enL m_Md_keep.2.2.1 [.ref 139, .int i]) [] (hp X dl mI dr) Q := by
  show EW X m_Md_keep 0 [.ref 139, .int i] [] (hp X dl mI dr) Q
  refine g_iload_n d_Md_keep_0 rfl ?_
  refine P_i2l d_Md_keep_1 ?_
  refine P_lconst d_Md_keep_2 (lQ 0) rfl ?_
  refine P_lconst d_Md_keep_3 (lQ 1) rfl ?_
  refine C_S3 d_Md_keep_4 k_Md_111 (Nat.le_of_ble_eq_true rfl) (by decide) (Nat.le_of_ble_eq_true rfl) ?_
  refine (c_Md_inN 2 rfl rfl) ?_
  refine B_ne d_Md_keep_7 13 (by decide) (fun c1 => ?_) (fun c1 => ?_)
  · have hin := c1
    obtain ⟨j, hj, rfl⟩ := inN_of hin (by decide)
    have e : sKe kp σ (nI j) = (va_up kp j (some σ), nI (aY σ)) := by unfold sKe; rw [if_neg (fun z => z hin), tN_nI (by omega)]
    rw [e] at k
    refine g_aload_n d_Md_keep_13 rfl ?_
    refine N_iconst d_Md_keep_14 0 rfl ?_
    refine N_sipush d_Md_keep_15 186 rfl ?_
    refine N_bipush d_Md_keep_18 93 rfl ?_
    refine g_iload_n d_Md_keep_20 rfl ?_
    refine N_imul d_Md_keep_21 ?_
    refine N_iadd d_Md_keep_22 ?_
    refine C_V2 d_Md_keep_23 k_Md_270 rfl (Nat.le_of_ble_eq_true rfl) (by decide) (Nat.le_of_ble_eq_true rfl) ?_
    refine c_Md_bring (a := 0) (b := 186 + 93 * j) (by omega) (by omega) (by omega) (fun mI2 h2 hF2 => ?_)
    refine g_aload_n d_Md_keep_26 rfl ?_
    refine H_getR 141 d_Md_keep_27 f_Md_13.g rfl rfl (by decide) rfl ?_
    refine g_iload_n d_Md_keep_30 rfl ?_
    refine N_iconst d_Md_keep_31 1 rfl ?_
    refine H_zastN d_Md_keep_32 rfl rfl hj (by decide) (Or.inr rfl) ?_
    refine g_aload_n d_Md_keep_33 rfl ?_
    refine H_getR 140 d_Md_keep_34 f_Md_7.g rfl rfl (by decide) rfl ?_
    refine N_iconst d_Md_keep_37 0 rfl ?_
    refine H_ialdN d_Md_keep_38 rfl rfl (by omega) (by decide) ?_
    refine T_int (nI (aY σ)) (by rw [sI_r (by omega), hF2.2 0 (by omega)]; exact hS.1) ?_
    refine P_iret d_Md_keep_39 rfl ?_
    refine k _ (fun u hu => ?_) (fun q z1 z2 => by rw [sI_r z2]; exact hF2.1 q z1) (fun i hi => by rw [sI_r (by omega)]; exact hF2.2 i (by omega))
    show _ = bI ((va_up kp j (some σ) u).isSome = true) ∧ ∀ τ, va_up kp j (some σ) u = some τ → _
    by_cases z : u = j
    · subst z
      rw [va_up_s, sI_s]
      refine ⟨rfl, fun τ hτ => ?_⟩
      injection hτ with hτ
      subst hτ
      exact (hS.cp hw hW h2).to hw hW (fun i _ _ => by rw [sI_r (by omega)])
    · rw [va_up_n _ _ z, sI_n (fun y => z y.2), hF2.1 141 (by omega)]
      refine ⟨(hK u hu).1, fun τ hτ => ((hK u hu).2 τ hτ).to hw (hk u τ hu hτ) (fun i z1 z2 => by rw [sI_r (by omega), hF2.2 i (by omega)])⟩
  · refine P_bipush d_Md_keep_10 (-2) rfl ?_
    refine P_iret d_Md_keep_12 rfl ?_
    have e : sKe kp σ i = (kp, -2) := by unfold sKe; rw [if_pos c1]
    rw [e] at k
    exact k _ hK (fun _ _ _ => rfl) (fun _ _ => rfl)

theorem c_Md_back {X : CX} {dl : List (Nat × Nat)} {mI : Nat → Nat → Int32} {dr : Nat → Nat → Nat} {Q : Option Value → AH → Prop} {T : TD} (hw : TW T) (hT : TM 3 7 142 T mI) {N : NP} (hS : SM 0 T N.1 (KO T N.1) mI) (hW : SW T N.1) (hP : PM T N.2 mI) (hl : ∀ τ ∈ N.2, SV T τ) {kp : KP} (hK : KM T kp mI) (hk : ∀ u τ, u < 2 → kp u = some τ → SV T τ) {i : Int32} (k : ∀ mI', SM 0 T (sBa kp N i).1.1 (KO T (sBa kp N i).1.1) mI' → PM T (sBa kp N i).1.2 mI' → FN mI mI' → Q (some (.int (sBa kp N i).2)) (hp X dl mI' dr)) : EW X m_Md_back 0 (enL m_Md_back.2.2.1 [.ref 139, .int i]) [] (hp X dl mI dr) Q := by
  show EW X m_Md_back 0 [.ref 139, .int i] [] (hp X dl mI dr) Q
  refine g_iload_n d_Md_back_0 rfl ?_
  refine P_i2l d_Md_back_1 ?_
  refine P_lconst d_Md_back_2 (lQ 0) rfl ?_
  refine P_lconst d_Md_back_3 (lQ 1) rfl ?_
  refine C_S3 d_Md_back_4 k_Md_111 (Nat.le_of_ble_eq_true rfl) (by decide) (Nat.le_of_ble_eq_true rfl) ?_
  refine (c_Md_inN 2 rfl rfl) ?_
  refine B_ne d_Md_back_7 13 (by decide) (fun c1 => ?_) (fun c1 => ?_)
  · have hin := c1
    obtain ⟨j, hj, rfl⟩ := inN_of hin (by decide)
    have ej : tN (nI j) = j := tN_nI (by omega)
    refine g_aload_n d_Md_back_13 rfl ?_
    refine H_getR 141 d_Md_back_14 f_Md_13.g rfl rfl (by decide) rfl ?_
    refine g_iload_n d_Md_back_17 rfl ?_
    refine H_zaldN d_Md_back_18 rfl rfl hj (by decide) ?_
    refine T_int (bI ((kp j).isSome = true)) (hK j hj).1 ?_
    rcases hq : kp j with _ | τ
    · refine P_if_ne d_Md_back_19 25 (by decide) (fun z => absurd rfl z) (fun _ => ?_)
      refine P_bipush d_Md_back_22 (-4) rfl ?_
      refine P_iret d_Md_back_24 rfl ?_
      have e : sBa kp N (nI j) = (N, -4) := by unfold sBa; rw [if_neg (fun z => z hin), ej, hq]
      rw [e] at k
      exact k _ hS hP FN.rf
    · refine P_if_ne d_Md_back_19 25 (by decide) (fun _ => ?_) (fun z => absurd (show (1 : Int32) = 0 from z) (by decide))
      refine g_aload_n d_Md_back_25 rfl ?_
      refine N_sipush d_Md_back_26 186 rfl ?_
      refine N_bipush d_Md_back_29 93 rfl ?_
      refine g_iload_n d_Md_back_31 rfl ?_
      refine N_imul d_Md_back_32 ?_
      refine N_iadd d_Md_back_33 ?_
      refine N_iconst d_Md_back_34 0 rfl ?_
      refine C_V2 d_Md_back_35 k_Md_270 rfl (Nat.le_of_ble_eq_true rfl) (by decide) (Nat.le_of_ble_eq_true rfl) ?_
      refine c_Md_bring (a := 186 + 93 * j) (b := 0) (by omega) (by omega) (by omega) (fun mI2 h2 hF2 => ?_)
      refine g_aload_n d_Md_back_38 rfl ?_
      refine N_iconst d_Md_back_39 0 rfl ?_
      refine H_putI d_Md_back_40 f_Md_226 rfl rfl (by decide) ?_
      refine g_aload_n d_Md_back_43 rfl ?_
      refine H_getR 140 d_Md_back_44 f_Md_7.g rfl rfl (by decide) rfl ?_
      refine N_iconst d_Md_back_47 0 rfl ?_
      refine H_ialdN d_Md_back_48 rfl rfl (by omega) (by decide) ?_
      refine T_int (nI (aY τ)) (by rw [sI_r (by omega)]; exact (((hK j hj).2 τ hq).cp hw (hk j τ hj hq) h2).1) ?_
      refine P_iret d_Md_back_49 rfl ?_
      have e : sBa kp N (nI j) = ((τ, []), nI (aY τ)) := by unfold sBa; rw [if_neg (fun z => z hin), ej, hq]
      rw [e] at k
      have h0 := ((hK j hj).2 τ hq).cp hw (hk j τ hj hq) h2
      exact k _ (h0.to hw (hk j τ hj hq) (fun i _ _ => by rw [sI_r (by omega)])) ⟨Nat.zero_le _, sI_s _ _ _ _, fun j ρ hj => by cases hj⟩ ⟨fun q z1 z2 _ => by rw [sI_r z1, hF2.1 q z2], fun f hf => by rw [sI_n (fun z => hf z.2), hF2.1 139 (by omega)], fun j z1 z2 => by rw [sI_r (by omega), hF2.2 j (by omega)]⟩
  · refine P_bipush d_Md_back_10 (-2) rfl ?_
    refine P_iret d_Md_back_12 rfl ?_
    have e : sBa kp N i = (N, -2) := by unfold sBa; rw [if_pos c1]
    rw [e] at k
    exact k _ hS hP FN.rf

