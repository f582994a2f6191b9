theorem lp_Md_register {X : CX} {dl : List (Nat × Nat)} {mI : Nat → Nat → Int32} {dr : Nat → Nat → Nat} {Q : Option Value → AH → Prop} {j : Nat} {n : Int32} (hj : j < 3) (k : ∀ mI', (∀ p, p < 5 → mI' 168 (5 * j + p) = -1) → (∀ q, q ≠ 168 → mI' q = mI q) → (∀ i, ¬ (5 * j ≤ i ∧ i < 5 * j + 5) → mI' 168 i = mI 168 i) → Q (some (.int n)) (hp X dl mI' dr)) : ∀ (d : Nat) (i : Nat) (mI2 : Nat → Nat → Int32), (i ≤ 5) → (∀ p, p < i → mI2 168 (5 * j + p) = -1) → (∀ q, q ≠ 168 → mI2 q = mI q) → (∀ i, ¬ (5 * j ≤ i ∧ i < 5 * j + 5) → mI2 168 i = mI 168 i) → 5 - i = d → EW X m_Md_register 34 [.ref 139, .int (nI j), .int n, .int (nI i)] [] (hp X dl mI2 dr) Q := by
  intro d
  induction d using Nat.strongRecOn with
  | _ d ih =>
    intro i mI2 hi h1 h2 h3 hd
    refine g_iload_n d_Md_register_34 rfl ?_
    refine N_iconst d_Md_register_35 5 rfl ?_
    refine N_icmp_ge d_Md_register_36 56 (by decide) ⟨by omega, by omega⟩ (fun c1 => ?_) (fun c1 => ?_)
    · refine g_iload_n d_Md_register_56 rfl ?_
      refine P_iret d_Md_register_57 rfl ?_
      exact k mI2 (fun p hp1 => h1 p (by omega)) h2 h3
    · refine g_aload_n d_Md_register_39 rfl ?_
      refine H_getR 168 d_Md_register_40 f_Md_95.g rfl rfl (by decide) rfl ?_
      refine N_iconst d_Md_register_43 5 rfl ?_
      refine g_iload_n d_Md_register_44 rfl ?_
      refine N_imul d_Md_register_45 ?_
      refine g_iload_n d_Md_register_46 rfl ?_
      refine N_iadd d_Md_register_47 ?_
      refine P_iconst d_Md_register_48 (-1) rfl ?_
      refine H_iastN d_Md_register_49 rfl rfl (by omega) (by decide) ?_
      refine N_iinc_4_3_1 d_Md_register_50 rfl rfl ?_
      refine P_goto d_Md_register_53 34 (by decide) ?_
      refine ih (5 - (i + 1)) (by omega) (i + 1) _ (by omega) (fun p hp1 => ?_) (fun q hq => by rw [sI_r hq]; exact h2 q hq) (fun p hp1 => by rw [sI_n (by omega)]; exact h3 p hp1) rfl
      by_cases z : p = i
      · rw [z]; exact sI_s _ _ _ _
      · rw [sI_n (by omega)]; exact h1 p (by omega)

theorem c_Md_register {X : CX} {dl : List (Nat × Nat)} {mI : Nat → Nat → Int32} {dr : Nat → Nat → Nat} {Q : Option Value → AH → Prop} {S : RS} (hR : RM S mI) {g n : Int32} (k : ∀ mI', RM (oReg S g n).1 mI' → FZ mI mI' → Q (some (.int (oReg S g n).2)) (hp X dl mI' dr)) : EW X m_Md_register 0 (enL m_Md_register.2.2.1 [.ref 139, .int g, .int n]) [] (hp X dl mI dr) Q := by
  show EW X m_Md_register 0 [.ref 139, .int g, .int n, jk] [] (hp X dl mI dr) Q
  refine g_iload_n d_Md_register_0 rfl ?_
  refine C_S1 d_Md_register_1 k_Md_311 (Nat.le_of_ble_eq_true rfl) (by decide) (Nat.le_of_ble_eq_true rfl) ?_
  refine c_Md_isRegister ?_
  refine B_ne d_Md_register_4 10 (by decide) (fun c1 => ?_) (fun c1 => ?_)
  · refine g_iload_n d_Md_register_10 rfl ?_
    refine N_iconst d_Md_register_11 5 rfl ?_
    refine P_icmp_le d_Md_register_12 18 (by decide) (fun c2 => ?_) (fun c2 => ?_)
    · have c2 := toInt_le (by decide) c2
      refine g_iload_n d_Md_register_18 rfl ?_
      refine P_if_ge d_Md_register_19 25 (by decide) (fun c3 => ?_) (fun c3 => ?_)
      · have c3 := toInt_nn c3
        have e : oReg S g n = ((va_up S.1 (tN g) (some (List.replicate (tN n) 0)), S.2), n) := by unfold oReg; rw [if_neg (fun z => z c1), if_neg (by omega), if_neg (by omega)]
        rw [e] at k
        obtain ⟨j, hj, rfl⟩ := inN_of c1 (by decide)
        obtain ⟨m, hm, rfl⟩ := inN_of (n := 6) (show inN n 6 from ⟨c3, by show n.toInt < 6; omega⟩) (by decide)
        rw [tN_nI (by omega), tN_nI (by omega)] at k
        obtain ⟨κ, hK⟩ := hR
        refine g_aload_n d_Md_register_25 rfl ?_
        refine H_getR 167 d_Md_register_26 f_Md_92.g rfl rfl (by decide) rfl ?_
        refine g_iload_n d_Md_register_29 rfl ?_
        refine g_iload_n d_Md_register_30 rfl ?_
        refine H_iastN d_Md_register_31 rfl rfl (by omega) (by decide) ?_
        refine N_iconst d_Md_register_32 0 rfl ?_
        refine S_istore_n_4_3 d_Md_register_33 rfl rfl ?_
        refine lp_Md_register hj (fun mI3 g1 g2 g3 => ?_) _ 0 _ (Nat.zero_le _) (fun p hp1 => absurd hp1 (Nat.not_lt_zero _)) (fun _ _ => rfl) (fun _ _ => rfl) rfl
        refine k mI3 ⟨κ, RK_reg hK hj (by omega) ?_ (fun i hi => ?_) g1 (fun i hi => ?_) (fun q z1 z2 => ?_)⟩ (fun q hq => ?_)
        · rw [g2 167 (by omega), sI_s]
        · rw [g2 167 (by omega), sI_n (fun y => hi y.2)]
        · rw [g3 i hi, sI_r (by omega)]
        · rw [g2 q (by omega), sI_r (by omega)]
        · rw [g2 q (by omega), sI_r (by omega)]
      · refine P_bipush d_Md_register_22 (-17) rfl ?_
        refine P_iret d_Md_register_24 rfl ?_
        have c3 := toInt_neg c3
        have e : oReg S g n = (S, -17) := by unfold oReg; rw [if_neg (fun z => z c1), if_neg (by omega), if_pos c3]
        rw [e] at k
        exact k mI hR FZ.rf
    · refine P_bipush d_Md_register_15 (-3) rfl ?_
      refine P_iret d_Md_register_17 rfl ?_
      have c2 := toInt_gt (by decide) c2
      have e : oReg S g n = (S, -3) := by unfold oReg; rw [if_neg (fun z => z c1), if_pos (by omega)]
      rw [e] at k
      exact k mI hR FZ.rf
  · refine P_bipush d_Md_register_7 (-2) rfl ?_
    refine P_iret d_Md_register_9 rfl ?_
    have e : oReg S g n = (S, -2) := by unfold oReg; rw [if_pos c1]
    rw [e] at k
    exact k mI hR FZ.rf

theorem lp_Md_page {X : CX} {dl : List (Nat × Nat)} {mI : Nat → Nat → Int32} {dr : Nat → Nat → Nat} {Q : Option Value → AH → Prop} {j u : Nat} {v2 v3 : Value} (hu : u < 16) (k : ∀ mI' v5, (∀ i, i < 6 → mI' 170 (6 * u + i) = nI 0) → (∀ q, q ≠ 170 → q ≠ 171 → mI' q = mI q) → (∀ i, ¬ (6 * u ≤ i ∧ i < 6 * u + 6) → mI' 170 i = mI 170 i ∧ mI' 171 i = mI 171 i) → EW X m_Md_page 117 [.ref 139, .int (nI j), v2, v3, .int (nI u), v5] [] (hp X dl mI' dr) Q) : ∀ (d : Nat) (i : Nat) (mI2 : Nat → Nat → Int32), (i ≤ 6) → (∀ p, p < i → mI2 170 (6 * u + p) = nI 0) → (∀ q, q ≠ 170 → q ≠ 171 → mI2 q = mI q) → (∀ i, ¬ (6 * u ≤ i ∧ i < 6 * u + 6) → mI2 170 i = mI 170 i ∧ mI2 171 i = mI 171 i) → 6 - i = d → EW X m_Md_page 76 [.ref 139, .int (nI j), v2, v3, .int (nI u), .int (nI i)] [] (hp X dl mI2 dr) Q := by
  intro d
  induction d using Nat.strongRecOn with
  | _ d ih =>
    intro i mI2 hi h1 h2 h3 hd
    refine g_iload d_Md_page_76 rfl ?_
    refine N_bipush d_Md_page_78 6 rfl ?_
    refine N_icmp_ge d_Md_page_80 117 (by decide) ⟨by omega, by omega⟩ (fun c1 => ?_) (fun c1 => ?_)
    · exact k mI2 _ (fun p hp1 => h1 p (by omega)) h2 h3
    · refine g_aload_n d_Md_page_83 rfl ?_
      refine H_getR 170 d_Md_page_84 f_Md_101.g rfl rfl (by decide) rfl ?_
      refine N_bipush d_Md_page_87 6 rfl ?_
      refine g_iload d_Md_page_89 rfl ?_
      refine N_imul d_Md_page_91 ?_
      refine g_iload d_Md_page_92 rfl ?_
      refine N_iadd d_Md_page_94 ?_
      refine N_iconst d_Md_page_95 0 rfl ?_
      refine H_iastN d_Md_page_96 rfl rfl (by omega) (by decide) ?_
      refine g_aload_n d_Md_page_97 rfl ?_
      refine H_getR 171 d_Md_page_98 f_Md_104.g rfl rfl (by decide) rfl ?_
      refine N_bipush d_Md_page_101 6 rfl ?_
      refine g_iload d_Md_page_103 rfl ?_
      refine N_imul d_Md_page_105 ?_
      refine g_iload d_Md_page_106 rfl ?_
      refine N_iadd d_Md_page_108 ?_
      refine N_iconst d_Md_page_109 0 rfl ?_
      refine H_iastN d_Md_page_110 rfl rfl (by omega) (by decide) ?_
      refine N_iinc_6_5_1 d_Md_page_111 rfl rfl ?_
      refine P_goto d_Md_page_114 76 (by decide) ?_
      refine ih (6 - (i + 1)) (by omega) (i + 1) _ (by omega) (fun p hp1 => ?_) (fun q z1 z2 => by rw [sI_r z2, sI_r z1]; exact h2 q z1 z2) (fun p hp1 => by rw [sI_n (by omega), sI_n (by omega), sI_n (by omega), sI_n (by omega)]; exact h3 p hp1) rfl
      rw [sI_n (by omega)]
      by_cases z : p = i
      · rw [z]; exact sI_s _ _ _ _
      · rw [sI_n (by omega)]; exact h1 p (by omega)

theorem c_Md_page {X : CX} {dl : List (Nat × Nat)} {mI : Nat → Nat → Int32} {dr : Nat → Nat → Nat} {Q : Option Value → AH → Prop} {S : RS} (hR : RM S mI) {a : Nat} (ha0 : a ≠ 0) (ha : ¬ bdA S a) {g p n : Int32} (k : ∀ mI', RM (oPag S a g p n).1 mI' → FZ mI mI' → Q (some (.int (oPag S a g p n).2)) (hp X dl mI' dr)) : EW X m_Md_page 0 (enL m_Md_page.2.2.1 [.ref 139, .int g, .int p, .int n]) [] (hp X dl mI dr) Q := by
  show EW X m_Md_page 0 [.ref 139, .int g, .int p, .int n, jk, jk] [] (hp X dl mI dr) Q
  refine g_iload_n d_Md_page_0 rfl ?_
  refine C_S1 d_Md_page_1 k_Md_311 (Nat.le_of_ble_eq_true rfl) (by decide) (Nat.le_of_ble_eq_true rfl) ?_
  refine c_Md_isRegister ?_
  refine B_ne d_Md_page_4 10 (by decide) (fun c1 => ?_) (fun c1 => ?_)
  · refine g_iload_n d_Md_page_10 rfl ?_
    refine N_bipush d_Md_page_11 6 rfl ?_
    refine P_icmp_le d_Md_page_13 19 (by decide) (fun c2 => ?_) (fun c2 => ?_)
    · have c2 := toInt_le (by decide) c2
      have c1n := c1
      obtain ⟨j, hj, rfl⟩ := inN_of c1 (by decide)
      have ej : tN (nI j) = j := tN_nI (by omega)
      obtain ⟨κ, hK⟩ := id hR
      have hle := hK.le hj
      refine g_aload_n d_Md_page_19 rfl ?_
      refine H_getR 167 d_Md_page_20 f_Md_92.g rfl rfl (by decide) rfl ?_
      refine g_iload_n d_Md_page_23 rfl ?_
      refine H_ialdN d_Md_page_24 rfl rfl (by omega) (by decide) ?_
      refine T_int (hrI (pC S j)) (hK.pg hj) ?_
      refine P_if_ge d_Md_page_25 31 (by decide) (fun c3 => ?_) (fun c3 => ?_)
      · obtain ⟨l, hs⟩ := pC_1 ((hrI_ge (by omega)).mp c3)
        have hl5 := ((hK.1 j hj).2 l hs).2.1
        refine g_iload_n d_Md_page_31 rfl ?_
        refine P_i2l d_Md_page_32 ?_
        refine P_lconst d_Md_page_33 0 rfl ?_
        refine g_aload_n d_Md_page_34 rfl ?_
        refine H_getR 167 d_Md_page_35 f_Md_92.g rfl rfl (by decide) rfl ?_
        refine g_iload_n d_Md_page_38 rfl ?_
        refine H_ialdN d_Md_page_39 rfl rfl (by omega) (by decide) ?_
        refine T_int (nI (l.length)) ((hK.1 j hj).2 l hs).1 ?_
        refine N_iconst d_Md_page_40 1 rfl ?_
        refine P_isub d_Md_page_41 ?_
        refine P_i2l d_Md_page_42 ?_
        refine C_S3 d_Md_page_43 k_Md_111 (Nat.le_of_ble_eq_true rfl) (by decide) (Nat.le_of_ble_eq_true rfl) ?_
        refine (c_Md_inN l.length rfl (by rw [i64_toInt, nI_m1 (by omega)]; omega)) ?_
        refine B_ne d_Md_page_46 52 (by decide) (fun c4 => ?_) (fun c4 => ?_)
        · refine g_iload_n d_Md_page_52 rfl ?_
          refine P_if_ge d_Md_page_53 59 (by decide) (fun c5 => ?_) (fun c5 => ?_)
          · have c5 := toInt_nn c5
            have e : oPag S a (nI j) p n = ((va_up S.1 j (some (l.set (tN p) a)), va_up S.2 a (List.replicate (tN n) none)), n) := by
              unfold oPag
              rw [if_neg (fun z => z c1), if_neg (by omega), ej, hs]
              exact (if_neg (fun z => z c4)).trans (if_neg (by omega))
            rw [e] at k
            obtain ⟨q, hq, rfl⟩ := inN_of c4 (by omega)
            obtain ⟨m, hm, rfl⟩ := inN_of (n := 7) (show inN n 7 from ⟨c5, by show n.toInt < 7; omega⟩) (by decide)
            rw [tN_nI (by omega), tN_nI (by omega)] at k
            refine g_aload_n d_Md_page_59 rfl ?_
            refine C_V0 d_Md_page_60 k_Md_314 rfl (Nat.le_of_ble_eq_true rfl) (by decide) (Nat.le_of_ble_eq_true rfl) ?_
            refine c_Md_freePage (fun u hu hf => ?_)
            refine S_istore_6_4 d_Md_page_63 rfl rfl ?_
            refine g_aload_n d_Md_page_65 rfl ?_
            refine H_getR 169 d_Md_page_66 f_Md_98.g rfl rfl (by decide) rfl ?_
            refine g_iload d_Md_page_69 rfl ?_
            refine g_iload_n d_Md_page_71 rfl ?_
            refine H_iastN d_Md_page_72 rfl rfl (by omega) (by decide) ?_
            refine N_iconst d_Md_page_73 0 rfl ?_
            refine S_istore_6_5 d_Md_page_74 rfl rfl ?_
            refine lp_Md_page hu (fun mI3 v5 g1 g2 g3 => ?_) _ 0 _ (Nat.zero_le _) (fun p hp1 => absurd hp1 (Nat.not_lt_zero _)) (fun _ _ _ => rfl) (fun _ _ => ⟨rfl, rfl⟩) rfl
            refine g_aload_n d_Md_page_117 rfl ?_
            refine H_getR 168 d_Md_page_118 f_Md_95.g rfl rfl (by decide) rfl ?_
            refine N_iconst d_Md_page_121 5 rfl ?_
            refine g_iload_n d_Md_page_122 rfl ?_
            refine N_imul d_Md_page_123 ?_
            refine g_iload_n d_Md_page_124 rfl ?_
            refine N_iadd d_Md_page_125 ?_
            refine g_iload d_Md_page_126 rfl ?_
            refine H_iastN d_Md_page_128 rfl rfl (by omega) (by decide) ?_
            refine g_iload_n d_Md_page_129 rfl ?_
            refine P_iret d_Md_page_130 rfl ?_
            refine k _ ⟨_, RK_pag hK (u := u) (n := m) hj hs hq hu (by omega) hf ha0 ha ?_ (sI_s _ _ _ _) (fun i hi => ?_) ?_ (fun i hi => ?_) (fun i hi => ?_) (fun i hi => ?_)⟩ (fun q hq => ?_)
            · rw [sI_r (by omega), g2 167 (by omega) (by omega), sI_r (by omega)]
            · rw [sI_n (fun y => hi y.2), g2 168 (by omega) (by omega), sI_r (by omega)]
            · rw [sI_r (by omega), g2 169 (by omega) (by omega), sI_s]
            · rw [sI_r (by omega), g2 169 (by omega) (by omega), sI_n (fun y => hi y.2)]
            · rw [sI_r (by omega)]; exact g1 i hi
            · rw [sI_r (by omega), sI_r (by omega), (g3 i hi).1, (g3 i hi).2, sI_r (by omega), sI_r (by omega)]; exact ⟨rfl, rfl⟩
            · rw [sI_r (by omega), g2 q (by omega) (by omega), sI_r (by omega)]
          · refine P_bipush d_Md_page_56 (-17) rfl ?_
            refine P_iret d_Md_page_58 rfl ?_
            have c5 := toInt_neg c5
            have e : oPag S a (nI j) p n = (S, -17) := by
              unfold oPag
              rw [if_neg (fun z => z c1), if_neg (by omega), ej, hs]
              exact (if_neg (fun z => z c4)).trans (if_pos c5)
            rw [e] at k
            exact k mI hR FZ.rf
        · refine P_bipush d_Md_page_49 (-12) rfl ?_
          refine P_iret d_Md_page_51 rfl ?_
          have e : oPag S a (nI j) p n = (S, -12) := by
            unfold oPag
            rw [if_neg (fun z => z c1), if_neg (by omega), ej, hs]
            exact if_pos c4
          rw [e] at k
          exact k mI hR FZ.rf
      · refine P_bipush d_Md_page_28 (-11) rfl ?_
        refine P_iret d_Md_page_30 rfl ?_
        have hs := pC_0 (Classical.byContradiction (fun z => c3 ((hrI_ge (by omega)).mpr z)))
        have e : oPag S a (nI j) p n = (S, -11) := by unfold oPag; rw [if_neg (fun z => z c1), if_neg (by omega), ej, hs]
        rw [e] at k
        exact k mI hR FZ.rf
    · refine P_bipush d_Md_page_16 (-3) rfl ?_
      refine P_iret d_Md_page_18 rfl ?_
      have c2 := toInt_gt (by decide) c2
      have e : oPag S a g p n = (S, -3) := by unfold oPag; rw [if_neg (fun z => z c1), if_pos (by omega)]
      rw [e] at k
      exact k mI hR FZ.rf
  · refine P_bipush d_Md_page_7 (-2) rfl ?_
    refine P_iret d_Md_page_9 rfl ?_
    have e : oPag S a g p n = (S, -2) := by unfold oPag; rw [if_pos c1]
    rw [e] at k
    exact k mI hR FZ.rf

theorem c_Md_drop {X : CX} {dl : List (Nat × Nat)} {mI : Nat → Nat → Int32} {dr : Nat → Nat → Nat} {Q : Option Value → AH → Prop} {S : RS} (hR : RM S mI) {g : Int32} (k : ∀ mI', RM (oDro S g).1 mI' → FZ mI mI' → Q (some (.int (oDro S g).2)) (hp X dl mI' dr)) : EW X m_Md_drop 0 (enL m_Md_drop.2.2.1 [.ref 139, .int g]) [] (hp X dl mI dr) Q := by
  show EW X m_Md_drop 0 [.ref 139, .int g, jk] [] (hp X dl mI dr) Q
  refine g_iload_n d_Md_drop_0 rfl ?_
  refine C_S1 d_Md_drop_1 k_Md_311 (Nat.le_of_ble_eq_true rfl) (by decide) (Nat.le_of_ble_eq_true rfl) ?_
  refine c_Md_isRegister ?_
  refine B_ne d_Md_drop_4 10 (by decide) (fun c1 => ?_) (fun c1 => ?_)
  · have c1n := c1
    obtain ⟨j, hj, rfl⟩ := inN_of c1 (by decide)
    have ej : tN (nI j) = j := tN_nI (by omega)
    obtain ⟨κ, hK⟩ := id hR
    have hle := hK.le hj
    refine g_aload_n d_Md_drop_10 rfl ?_
    refine H_getR 167 d_Md_drop_11 f_Md_92.g rfl rfl (by decide) rfl ?_
    refine g_iload_n d_Md_drop_14 rfl ?_
    refine H_ialdN d_Md_drop_15 rfl rfl (by omega) (by decide) ?_
    refine T_int (hrI (pC S j)) (hK.pg hj) ?_
    refine P_if_ge d_Md_drop_16 22 (by decide) (fun c2 => ?_) (fun c2 => ?_)
    · obtain ⟨l, hs⟩ := pC_1 ((hrI_ge (by omega)).mp c2)
      have e : oDro S (nI j) = ((va_up S.1 j none, S.2), nI l.length) := by unfold oDro; rw [if_neg (fun z => z c1), ej, hs]
      rw [e] at k
      refine g_aload_n d_Md_drop_22 rfl ?_
      refine H_getR 167 d_Md_drop_23 f_Md_92.g rfl rfl (by decide) rfl ?_
      refine g_iload_n d_Md_drop_26 rfl ?_
      refine H_ialdN d_Md_drop_27 rfl rfl (by omega) (by decide) ?_
      refine T_int (nI (l.length)) ((hK.1 j hj).2 l hs).1 ?_
      refine S_istore_n_3_2 d_Md_drop_28 rfl rfl ?_
      refine g_aload_n d_Md_drop_29 rfl ?_
      refine H_getR 167 d_Md_drop_30 f_Md_92.g rfl rfl (by decide) rfl ?_
      refine g_iload_n d_Md_drop_33 rfl ?_
      refine P_iconst d_Md_drop_34 (-1) rfl ?_
      refine H_iastN d_Md_drop_35 rfl rfl (by omega) (by decide) ?_
      refine g_iload_n d_Md_drop_36 rfl ?_
      refine P_iret d_Md_drop_37 rfl ?_
      exact k _ ⟨κ, RK_dro hK⟩ (FZ_sI FZ.rf (by omega))
    · refine P_bipush d_Md_drop_19 (-11) rfl ?_
      refine P_iret d_Md_drop_21 rfl ?_
      have hs := pC_0 (Classical.byContradiction (fun z => c2 ((hrI_ge (by omega)).mpr z)))
      have e : oDro S (nI j) = (S, -11) := by unfold oDro; rw [if_neg (fun z => z c1), ej, hs]
      rw [e] at k
      exact k mI hR FZ.rf
  · refine P_bipush d_Md_drop_7 (-2) rfl ?_
    refine P_iret d_Md_drop_9 rfl ?_
    have e : oDro S g = (S, -2) := by unfold oDro; rw [if_pos c1]
    rw [e] at k
    exact k mI hR FZ.rf

theorem lp_Md_there {X : CX} {dl : List (Nat × Nat)} {mI : Nat → Nat → Int32} {dr : Nat → Nat → Nat} {Q : Option Value → AH → Prop} {S : RS} (hR : RM S mI) (k : Q (some (.int (nI (rsN S 3)))) (hp X dl mI dr)) : ∀ (d : Nat) (g : Nat), (g ≤ 3) → 3 - g = d → EW X m_Md_registersThere 4 [.ref 139, .int (nI (rsN S g)), .int (nI g)] [] (hp X dl mI dr) Q := by
  intro d
  induction d using Nat.strongRecOn with
  | _ d ih =>
    intro g hg hd
    obtain ⟨κ, hK⟩ := id hR
    refine g_iload_n d_Md_registersThere_4 rfl ?_
    refine N_iconst d_Md_registersThere_5 3 rfl ?_
    refine N_icmp_ge d_Md_registersThere_6 32 (by decide) ⟨by omega, by omega⟩ (fun c1 => ?_) (fun c1 => ?_)
    · have e : g = 3 := by omega
      subst e
      refine g_iload_n d_Md_registersThere_32 rfl ?_
      refine P_iret d_Md_registersThere_33 rfl ?_
      exact k
    · have hle := hK.le (g := g) (by omega)
      refine g_iload_n d_Md_registersThere_9 rfl ?_
      refine g_aload_n d_Md_registersThere_10 rfl ?_
      refine H_getR 167 d_Md_registersThere_11 f_Md_92.g rfl rfl (by decide) rfl ?_
      refine g_iload_n d_Md_registersThere_14 rfl ?_
      refine H_ialdN d_Md_registersThere_15 rfl rfl (by omega) (by decide) ?_
      refine T_int (hrI (pC S g)) (hK.pg (by omega)) ?_
      refine P_if_ge d_Md_registersThere_16 23 (by decide) (fun c2 => ?_) (fun c2 => ?_)
      · refine N_iconst d_Md_registersThere_23 1 rfl ?_
        refine N_iadd d_Md_registersThere_24 ?_
        refine S_istore_n_3_1 d_Md_registersThere_25 rfl rfl ?_
        refine N_iinc_3_2_1 d_Md_registersThere_26 rfl rfl ?_
        refine P_goto d_Md_registersThere_29 4 (by decide) ?_
        have h := ih (3 - (g + 1)) (by omega) (g + 1) (by omega) rfl
        rw [rsN] at h
        first
          | (obtain ⟨l, hs⟩ := pC_1 (S := S) (g := g) ((hrI_ge (by omega)).mp (by assumption))
             rw [if_neg (fun z => by rw [hs] at z; cases z)] at h
             exact h)
          | (have hs := pC_0 (S := S) (g := g) (Classical.byContradiction (fun z => absurd ((hrI_ge (by omega)).mpr z) (by assumption)))
             rw [if_pos hs] at h
             exact h)
      · refine N_iconst d_Md_registersThere_19 0 rfl ?_
        refine P_goto d_Md_registersThere_20 24 (by decide) ?_
        refine N_iadd d_Md_registersThere_24 ?_
        refine S_istore_n_3_1 d_Md_registersThere_25 rfl rfl ?_
        refine N_iinc_3_2_1 d_Md_registersThere_26 rfl rfl ?_
        refine P_goto d_Md_registersThere_29 4 (by decide) ?_
        have h := ih (3 - (g + 1)) (by omega) (g + 1) (by omega) rfl
        rw [rsN] at h
        first
          | (obtain ⟨l, hs⟩ := pC_1 (S := S) (g := g) ((hrI_ge (by omega)).mp (by assumption))
             rw [if_neg (fun z => by rw [hs] at z; cases z)] at h
             exact h)
          | (have hs := pC_0 (S := S) (g := g) (Classical.byContradiction (fun z => absurd ((hrI_ge (by omega)).mpr z) (by assumption)))
             rw [if_pos hs] at h
             exact h)

theorem c_Md_registersThere {X : CX} {dl : List (Nat × Nat)} {mI : Nat → Nat → Int32} {dr : Nat → Nat → Nat} {Q : Option Value → AH → Prop} {S : RS} (hR : RM S mI) (k : Q (some (.int (nI (rsN S 3)))) (hp X dl mI dr)) : EW X m_Md_registersThere 0 (enL m_Md_registersThere.2.2.1 [.ref 139]) [] (hp X dl mI dr) Q := by
  show EW X m_Md_registersThere 0 [.ref 139, jk, jk] [] (hp X dl mI dr) Q
  refine N_iconst d_Md_registersThere_0 0 rfl ?_
  refine S_istore_n_3_1 d_Md_registersThere_1 rfl rfl ?_
  refine N_iconst d_Md_registersThere_2 0 rfl ?_
  refine S_istore_n_3_2 d_Md_registersThere_3 rfl rfl ?_
  exact lp_Md_there hR k _ 0 (Nat.zero_le _) rfl

def br2 (S : RS) (o p o' q : Int32) : Int32 := if ¬ inN o 3 ∨ ¬ inN o' 3 then -2 else flP S o p o' q
theorem flP_v (S : RS) (o p o' q : Int32) : flP S o p o' q = 0 ∨ flP S o p o' q = -11 ∨ flP S o p o' q = -12 := by
  unfold flP
  split
  · split
    · exact Or.inl rfl
    · exact Or.inr (Or.inr rfl)
  · exact Or.inr (Or.inl rfl)
theorem flL_v (S : RS) (g p i : Int32) : flL S g p i = 0 ∨ flL S g p i < 0 := by
  unfold flL
  split
  · exact Or.inr (by decide)
  · split
    · exact Or.inr (by decide)
    · split
      · exact Or.inr (by decide)
      · split
        · exact Or.inl rfl
        · exact Or.inr (by decide)
theorem br2_0 {κ : Nat → Nat} {S : RS} {mI : Nat → Nat → Int32} {o p o' q : Int32} (h : RK κ S mI) (hb : 0 ≤ br2 S o p o' q) : (inN o 3 ∧ inN o' 3) ∧ flP S o p o' q = 0 ∧ ∃ i j u w l l', i < 3 ∧ j < 3 ∧ o = nI i ∧ o' = nI j ∧ p = nI u ∧ q = nI w ∧ S.1 i = some l ∧ S.1 j = some l' ∧ u < l.length ∧ w < l'.length ∧ l.length ≤ 5 ∧ l'.length ≤ 5 := by
  unfold br2 at hb
  by_cases h1 : inN o 3
  · by_cases h2 : inN o' 3
    · rw [if_neg (fun z => z.elim (fun y => y h1) (fun y => y h2))] at hb
      have hz : flP S o p o' q = 0 := by
        rcases flP_v S o p o' q with z | z | z
        · exact z
        · rw [z] at hb; exact absurd hb (by decide)
        · rw [z] at hb; exact absurd hb (by decide)
      refine ⟨⟨h1, h2⟩, hz, ?_⟩
      obtain ⟨i, hi, rfl⟩ := inN_of h1 (by decide)
      obtain ⟨j, hj, rfl⟩ := inN_of h2 (by decide)
      unfold flP at hz
      rw [tN_nI (by omega), tN_nI (by omega)] at hz
      rcases hs : S.1 i with _ | l
      · rw [hs] at hz; exact absurd (show (-11 : Int32) = 0 from hz) (by decide)
      · rcases hs' : S.1 j with _ | l'
        · rw [hs, hs'] at hz; exact absurd (show (-11 : Int32) = 0 from hz) (by decide)
        · rw [hs, hs'] at hz
          have e5 := ((h.1 i hi).2 l hs).2.1
          have e5' := ((h.1 j hj).2 l' hs').2.1
          by_cases y : inN p l.length ∧ inN q l'.length
          · obtain ⟨u, hu, rfl⟩ := inN_of y.1 (by omega)
            obtain ⟨w, hw, rfl⟩ := inN_of y.2 (by omega)
            exact ⟨i, j, u, w, l, l', hi, hj, rfl, rfl, rfl, rfl, hs, hs', hu, hw, e5, e5'⟩
          · have hz : (if inN p l.length ∧ inN q l'.length then (0 : Int32) else -12) = 0 := hz
            rw [if_neg y] at hz
            exact absurd hz (by decide)
    · rw [if_pos (Or.inr h2)] at hb; exact absurd hb (by decide)
  · rw [if_pos (Or.inl h1)] at hb; exact absurd hb (by decide)
theorem flL_1 {κ : Nat → Nat} {S : RS} {mI : Nat → Nat → Int32} (h : RK κ S mI) {g : Nat} {p i : Int32} (hg : g < 3) (hb : 0 ≤ flL S (nI g) p i) : flL S (nI g) p i = 0 ∧ ∃ l u w, S.1 g = some l ∧ u < l.length ∧ l.length ≤ 5 ∧ p = nI u ∧ l.getD u 0 ≠ 0 ∧ w < (S.2 (l.getD u 0)).length ∧ i = nI w ∧ pgE S (nI g) p = l.getD u 0 ∧ κ (l.getD u 0) < 16 ∧ mI 168 (5 * g + u) = nI (κ (l.getD u 0)) ∧ PgM (κ (l.getD u 0)) (S.2 (l.getD u 0)) mI := by
  have hz : flL S (nI g) p i = 0 := by
    rcases flL_v S (nI g) p i with z | z
    · exact z
    · rw [Int32.lt_iff_toInt_lt] at z
      rw [Int32.le_iff_toInt_le] at hb
      omega
  refine ⟨hz, ?_⟩
  unfold flL at hz
  rw [tN_nI (by omega)] at hz
  rcases hs : S.1 g with _ | l
  · rw [hs] at hz; exact absurd (show (-11 : Int32) = 0 from hz) (by decide)
  · rw [hs] at hz
    have R := (h.1 g hg).2 l hs
    have h5 := R.2.1
    have hz : (if ¬ inN p l.length then (-12 : Int32) else if l.getD (tN p) 0 = 0 then -13 else if inN i (S.2 (l.getD (tN p) 0)).length then 0 else -14) = 0 := hz
    by_cases y : inN p l.length
    · rw [if_neg (fun z => z y)] at hz
      obtain ⟨u, hu, rfl⟩ := inN_of y (by omega)
      rw [tN_nI (by omega)] at hz
      by_cases y2 : l.getD u 0 = 0
      · rw [if_pos y2] at hz; exact absurd hz (by decide)
      · rw [if_neg y2] at hz
        obtain ⟨g1, g2, g3⟩ := (R.2.2 u hu).2 y2
        have h6 := g3.2.1
        by_cases y3 : inN i (S.2 (l.getD u 0)).length
        · obtain ⟨w, hw, rfl⟩ := inN_of y3 (by omega)
          exact ⟨l, u, w, rfl, hu, h5, rfl, y2, hw, rfl, by unfold pgE; rw [tN_nI (by omega), hs, tN_nI (by omega)], g1, g2, g3⟩
        · rw [if_neg y3] at hz; exact absurd hz (by decide)
    · rw [if_pos y] at hz; exact absurd hz (by decide)
theorem c_Md_againstTwo {X : CX} {dl : List (Nat × Nat)} {mI : Nat → Nat → Int32} {dr : Nat → Nat → Nat} {Q : Option Value → AH → Prop} {S : RS} (hR : RM S mI) {o p o' q : Int32} (k : Q (some (.int (br2 S o p o' q))) (hp X dl mI dr)) : EW X m_Md_againstTwo 0 (enL m_Md_againstTwo.2.2.1 [.ref 139, .int o, .int p, .int o', .int q]) [] (hp X dl mI dr) Q := by
  show EW X m_Md_againstTwo 0 [.ref 139, .int o, .int p, .int o', .int q] [] (hp X dl mI dr) Q
  refine g_iload_n d_Md_againstTwo_0 rfl ?_
  refine C_S1 d_Md_againstTwo_1 k_Md_311 (Nat.le_of_ble_eq_true rfl) (by decide) (Nat.le_of_ble_eq_true rfl) ?_
  refine c_Md_isRegister ?_
  refine B_eq d_Md_againstTwo_4 14 (by decide) (fun c1 => ?_) (fun c1 => ?_)
  · refine P_bipush d_Md_againstTwo_14 (-2) rfl ?_
    refine P_iret d_Md_againstTwo_16 rfl ?_
    exact R_i k (by unfold br2; rw [if_pos (by first | exact Or.inl c1 | exact Or.inr c2)])
  · refine g_iload_n d_Md_againstTwo_7 rfl ?_
    refine C_S1 d_Md_againstTwo_8 k_Md_311 (Nat.le_of_ble_eq_true rfl) (by decide) (Nat.le_of_ble_eq_true rfl) ?_
    refine c_Md_isRegister ?_
    refine B_ne d_Md_againstTwo_11 17 (by decide) (fun c2 => ?_) (fun c2 => ?_)
    · obtain ⟨κ, hK⟩ := id hR
      have e : br2 S o p o' q = flP S o p o' q := by unfold br2; rw [if_neg (fun z => z.elim (fun y => y c1) (fun y => y c2))]
      rw [e] at k
      obtain ⟨i, hi, rfl⟩ := inN_of c1 (by decide)
      obtain ⟨j, hj, rfl⟩ := inN_of c2 (by decide)
      have ei : tN (nI i) = i := tN_nI (by omega)
      have ej : tN (nI j) = j := tN_nI (by omega)
      have hl1 := hK.le hi
      have hl2 := hK.le hj
      refine g_aload_n d_Md_againstTwo_17 rfl ?_
      refine H_getR 167 d_Md_againstTwo_18 f_Md_92.g rfl rfl (by decide) rfl ?_
      refine g_iload_n d_Md_againstTwo_21 rfl ?_
      refine H_ialdN d_Md_againstTwo_22 rfl rfl (by omega) (by decide) ?_
      refine T_int (hrI (pC S i)) (hK.pg hi) ?_
      refine P_if_lt d_Md_againstTwo_23 35 (by decide) (fun c3 => ?_) (fun c3 => ?_)
      · refine P_bipush d_Md_againstTwo_35 (-11) rfl ?_
        refine P_iret d_Md_againstTwo_37 rfl ?_
        first
          | (have hs := pC_0 ((hrI_neg (by omega)).mp c3)
             exact R_i k (by unfold flP; rw [ei, hs]))
          | (have hs := pC_0 (S := S) (g := j) (Classical.byContradiction (fun z => c4 ((hrI_ge (by omega)).mpr z)))
             exact R_i k (by unfold flP; rw [ei, ej, hs]; cases S.1 i <;> rfl))
      · refine g_aload_n d_Md_againstTwo_26 rfl ?_
        refine H_getR 167 d_Md_againstTwo_27 f_Md_92.g rfl rfl (by decide) rfl ?_
        refine g_iload_n d_Md_againstTwo_30 rfl ?_
        refine H_ialdN d_Md_againstTwo_31 rfl rfl (by omega) (by decide) ?_
        refine T_int (hrI (pC S j)) (hK.pg hj) ?_
        refine P_if_ge d_Md_againstTwo_32 38 (by decide) (fun c4 => ?_) (fun c4 => ?_)
        · obtain ⟨l, hs⟩ := pC_1 (S := S) (g := i) (fun z => c3 ((hrI_neg (by omega)).mpr z))
          obtain ⟨l', hs'⟩ := pC_1 ((hrI_ge (by omega)).mp c4)
          have hl5 := ((hK.1 i hi).2 l hs).2.1
          have hl5' := ((hK.1 j hj).2 l' hs').2.1
          have ef : flP S (nI i) p (nI j) q = if inN p l.length ∧ inN q l'.length then 0 else -12 := by unfold flP; rw [ei, ej, hs, hs']
          rw [ef] at k
          refine g_iload_n d_Md_againstTwo_38 rfl ?_
          refine P_i2l d_Md_againstTwo_39 ?_
          refine P_lconst d_Md_againstTwo_40 0 rfl ?_
          refine g_aload_n d_Md_againstTwo_41 rfl ?_
          refine H_getR 167 d_Md_againstTwo_42 f_Md_92.g rfl rfl (by decide) rfl ?_
          refine g_iload_n d_Md_againstTwo_45 rfl ?_
          refine H_ialdN d_Md_againstTwo_46 rfl rfl (by omega) (by decide) ?_
          refine T_int (nI (l.length)) ((hK.1 i hi).2 l hs).1 ?_
          refine N_iconst d_Md_againstTwo_47 1 rfl ?_
          refine P_isub d_Md_againstTwo_48 ?_
          refine P_i2l d_Md_againstTwo_49 ?_
          refine C_S3 d_Md_againstTwo_50 k_Md_111 (Nat.le_of_ble_eq_true rfl) (by decide) (Nat.le_of_ble_eq_true rfl) ?_
          refine (c_Md_inN l.length rfl (by rw [i64_toInt, nI_m1 (by omega)]; omega)) ?_
          refine B_eq d_Md_againstTwo_53 79 (by decide) (fun c5 => ?_) (fun c5 => ?_)
          · refine P_bipush d_Md_againstTwo_79 (-12) rfl ?_
            refine P_iret d_Md_againstTwo_81 rfl ?_
            first
              | exact R_i k (if_pos ⟨by assumption, by assumption⟩)
              | exact R_i k (if_neg (fun z => absurd z.1 (by assumption)))
              | exact R_i k (if_neg (fun z => absurd z.2 (by assumption)))
          · refine g_iload d_Md_againstTwo_56 rfl ?_
            refine P_i2l d_Md_againstTwo_58 ?_
            refine P_lconst d_Md_againstTwo_59 0 rfl ?_
            refine g_aload_n d_Md_againstTwo_60 rfl ?_
            refine H_getR 167 d_Md_againstTwo_61 f_Md_92.g rfl rfl (by decide) rfl ?_
            refine g_iload_n d_Md_againstTwo_64 rfl ?_
            refine H_ialdN d_Md_againstTwo_65 rfl rfl (by omega) (by decide) ?_
            refine T_int (nI (l'.length)) ((hK.1 j hj).2 l' hs').1 ?_
            refine N_iconst d_Md_againstTwo_66 1 rfl ?_
            refine P_isub d_Md_againstTwo_67 ?_
            refine P_i2l d_Md_againstTwo_68 ?_
            refine C_S3 d_Md_againstTwo_69 k_Md_111 (Nat.le_of_ble_eq_true rfl) (by decide) (Nat.le_of_ble_eq_true rfl) ?_
            refine (c_Md_inN l'.length rfl (by rw [i64_toInt, nI_m1 (by omega)]; omega)) ?_
            refine B_eq d_Md_againstTwo_72 79 (by decide) (fun c6 => ?_) (fun c6 => ?_)
            · refine P_bipush d_Md_againstTwo_79 (-12) rfl ?_
              refine P_iret d_Md_againstTwo_81 rfl ?_
              first
                | exact R_i k (if_pos ⟨by assumption, by assumption⟩)
                | exact R_i k (if_neg (fun z => absurd z.1 (by assumption)))
                | exact R_i k (if_neg (fun z => absurd z.2 (by assumption)))
            · refine N_iconst d_Md_againstTwo_75 0 rfl ?_
              refine P_goto d_Md_againstTwo_76 81 (by decide) ?_
              refine P_iret d_Md_againstTwo_81 rfl ?_
              first
                | exact R_i k (if_pos ⟨by assumption, by assumption⟩)
                | exact R_i k (if_neg (fun z => absurd z.1 (by assumption)))
                | exact R_i k (if_neg (fun z => absurd z.2 (by assumption)))
        · refine P_bipush d_Md_againstTwo_35 (-11) rfl ?_
          refine P_iret d_Md_againstTwo_37 rfl ?_
          first
            | (have hs := pC_0 ((hrI_neg (by omega)).mp c3)
               exact R_i k (by unfold flP; rw [ei, hs]))
            | (have hs := pC_0 (S := S) (g := j) (Classical.byContradiction (fun z => c4 ((hrI_ge (by omega)).mpr z)))
               exact R_i k (by unfold flP; rw [ei, ej, hs]; cases S.1 i <;> rfl))
    · refine P_bipush d_Md_againstTwo_14 (-2) rfl ?_
      refine P_iret d_Md_againstTwo_16 rfl ?_
      exact R_i k (by unfold br2; rw [if_pos (by first | exact Or.inl c1 | exact Or.inr c2)])

theorem bin_b {S : RS} {o p o' q : Int32} (h : ¬ 0 ≤ br2 S o p o' q) : oBin S o p o' q = (S, br2 S o p o' q) ∧ oSam S o p o' q = br2 S o p o' q := by
  unfold br2 at h ⊢
  unfold oBin oSam
  by_cases h1 : ¬ inN o 3 ∨ ¬ inN o' 3
  · rw [if_pos h1, if_pos h1, if_pos h1]; exact ⟨rfl, rfl⟩
  · rw [if_neg h1] at h
    have hz : flP S o p o' q ≠ 0 := fun z => by rw [z] at h; exact h (by decide)
    rw [if_neg h1, if_neg h1, if_neg h1, if_pos hz, if_pos hz]; exact ⟨rfl, rfl⟩
theorem c_Md_bind {X : CX} {dl : List (Nat × Nat)} {mI : Nat → Nat → Int32} {dr : Nat → Nat → Nat} {Q : Option Value → AH → Prop} {S : RS} (hR : RM S mI) {o p o' q : Int32} (k : ∀ mI', RM (oBin S o p o' q).1 mI' → FZ mI mI' → Q (some (.int (oBin S o p o' q).2)) (hp X dl mI' dr)) : EW X m_Md_bind 0 (enL m_Md_bind.2.2.1 [.ref 139, .int o, .int p, .int o', .int q]) [] (hp X dl mI dr) Q := by
  show EW X m_Md_bind 0 [.ref 139, .int o, .int p, .int o', .int q, jk] [] (hp X dl mI dr) Q
  obtain ⟨κ, hK⟩ := id hR
  refine g_aload_n d_Md_bind_0 rfl ?_
  refine g_iload_n d_Md_bind_1 rfl ?_
  refine g_iload_n d_Md_bind_2 rfl ?_
  refine g_iload_n d_Md_bind_3 rfl ?_
  refine g_iload d_Md_bind_4 rfl ?_
  refine C_V4 d_Md_bind_6 k_Md_317 rfl (Nat.le_of_ble_eq_true rfl) (by decide) (Nat.le_of_ble_eq_true rfl) ?_
  refine (c_Md_againstTwo hR) ?_
  refine S_istore_6_5 d_Md_bind_9 rfl rfl ?_
  refine g_iload d_Md_bind_11 rfl ?_
  refine P_if_ge d_Md_bind_13 19 (by decide) (fun c1 => ?_) (fun c1 => ?_)
  · obtain ⟨hin, hz, i, j, u, w, l, l', hi, hj, rfl, rfl, rfl, rfl, hs, hs', hu, hw, hl5, hl5'⟩ := br2_0 hK c1
    have ei : tN (nI i) = i := tN_nI (by omega)
    have ej : tN (nI j) = j := tN_nI (by omega)
    have ep : pgE S (nI i) (nI u) = l.getD u 0 := by unfold pgE; rw [ei, hs, tN_nI (by omega)]
    have eq : pgE S (nI j) (nI w) = l'.getD w 0 := by unfold pgE; rw [ej, hs', tN_nI (by omega)]
    have e : oBin S (nI i) (nI u) (nI j) (nI w) = ((va_up S.1 j (some (l'.set w (l.getD u 0))), S.2), 1) := by
      unfold oBin
      rw [if_neg (fun z => z.elim (fun y => y hin.1) (fun y => y hin.2)), if_neg (fun z => z hz), ej, hs', ep, tN_nI (by omega)]
    rw [e] at k
    refine g_aload_n d_Md_bind_19 rfl ?_
    refine H_getR 168 d_Md_bind_20 f_Md_95.g rfl rfl (by decide) rfl ?_
    refine N_iconst d_Md_bind_23 5 rfl ?_
    refine g_iload_n d_Md_bind_24 rfl ?_
    refine N_imul d_Md_bind_25 ?_
    refine g_iload d_Md_bind_26 rfl ?_
    refine N_iadd d_Md_bind_28 ?_
    refine g_aload_n d_Md_bind_29 rfl ?_
    refine H_getR 168 d_Md_bind_30 f_Md_95.g rfl rfl (by decide) rfl ?_
    refine N_iconst d_Md_bind_33 5 rfl ?_
    refine g_iload_n d_Md_bind_34 rfl ?_
    refine N_imul d_Md_bind_35 ?_
    refine g_iload_n d_Md_bind_36 rfl ?_
    refine N_iadd d_Md_bind_37 ?_
    refine H_ialdN d_Md_bind_38 rfl rfl (by omega) (by decide) ?_
    refine H_iastN d_Md_bind_39 rfl rfl (by omega) (by decide) ?_
    refine N_iconst d_Md_bind_40 1 rfl ?_
    refine P_iret d_Md_bind_41 rfl ?_
    exact k _ ⟨κ, RK_bin hK hi hj hs hs' hu hw⟩ (FZ_sI FZ.rf (by omega))
  · refine g_iload d_Md_bind_16 rfl ?_
    refine P_iret d_Md_bind_18 rfl ?_
    rw [(bin_b c1).1] at k
    exact k mI hR FZ.rf

theorem c_Md_same {X : CX} {dl : List (Nat × Nat)} {mI : Nat → Nat → Int32} {dr : Nat → Nat → Nat} {Q : Option Value → AH → Prop} {S : RS} (hR : RM S mI) {o p o' q : Int32} (k : Q (some (.int (oSam S o p o' q))) (hp X dl mI dr)) : EW X m_Md_same 0 (enL m_Md_same.2.2.1 [.ref 139, .int o, .int p, .int o', .int q]) [] (hp X dl mI dr) Q := by
  show EW X m_Md_same 0 [.ref 139, .int o, .int p, .int o', .int q, jk] [] (hp X dl mI dr) Q
  obtain ⟨κ, hK⟩ := id hR
  refine g_aload_n d_Md_same_0 rfl ?_
  refine g_iload_n d_Md_same_1 rfl ?_
  refine g_iload_n d_Md_same_2 rfl ?_
  refine g_iload_n d_Md_same_3 rfl ?_
  refine g_iload d_Md_same_4 rfl ?_
  refine C_V4 d_Md_same_6 k_Md_317 rfl (Nat.le_of_ble_eq_true rfl) (by decide) (Nat.le_of_ble_eq_true rfl) ?_
  refine (c_Md_againstTwo hR) ?_
  refine S_istore_6_5 d_Md_same_9 rfl rfl ?_
  refine g_iload d_Md_same_11 rfl ?_
  refine P_if_ge d_Md_same_13 19 (by decide) (fun c1 => ?_) (fun c1 => ?_)
  · obtain ⟨hin, hz, i, j, u, w, l, l', hi, hj, rfl, rfl, rfl, rfl, hs, hs', hu, hw, hl5, hl5'⟩ := br2_0 hK c1
    have ei : tN (nI i) = i := tN_nI (by omega)
    have ej : tN (nI j) = j := tN_nI (by omega)
    have ep : pgE S (nI i) (nI u) = l.getD u 0 := by unfold pgE; rw [ei, hs, tN_nI (by omega)]
    have eq : pgE S (nI j) (nI w) = l'.getD w 0 := by unfold pgE; rw [ej, hs', tN_nI (by omega)]
    have hb1 := (hK.b hi hs hu).2
    have hb2 := (hK.b hj hs' hw).2
    have e : oSam S (nI i) (nI u) (nI j) (nI w) = if l.getD u 0 = 0 ∨ l'.getD w 0 = 0 then -13 else if l.getD u 0 = l'.getD w 0 then 1 else 0 := by
      unfold oSam
      rw [if_neg (fun z => z.elim (fun y => y hin.1) (fun y => y hin.2)), if_neg (fun z => z hz), ep, eq]
    rw [e] at k
    refine g_aload_n d_Md_same_19 rfl ?_
    refine H_getR 168 d_Md_same_20 f_Md_95.g rfl rfl (by decide) rfl ?_
    refine N_iconst d_Md_same_23 5 rfl ?_
    refine g_iload_n d_Md_same_24 rfl ?_
    refine N_imul d_Md_same_25 ?_
    refine g_iload_n d_Md_same_26 rfl ?_
    refine N_iadd d_Md_same_27 ?_
    refine H_ialdN d_Md_same_28 rfl rfl (by omega) (by decide) ?_
    refine T_int (hrI (bC κ (l.getD u 0))) (hK.b hi hs hu).1 ?_
    refine P_if_lt d_Md_same_29 46 (by decide) (fun c2 => ?_) (fun c2 => ?_)
    · refine P_bipush d_Md_same_46 (-13) rfl ?_
      refine P_iret d_Md_same_48 rfl ?_
      first
        | exact R_i k (if_pos (Or.inl (bC_0.mp ((hrI_neg (by omega)).mp c2))))
        | exact R_i k (if_pos (Or.inr (bC_0.mp (Classical.byContradiction (fun z => c3 ((hrI_ge (by omega)).mpr z))))))
    · refine g_aload_n d_Md_same_32 rfl ?_
      refine H_getR 168 d_Md_same_33 f_Md_95.g rfl rfl (by decide) rfl ?_
      refine N_iconst d_Md_same_36 5 rfl ?_
      refine g_iload_n d_Md_same_37 rfl ?_
      refine N_imul d_Md_same_38 ?_
      refine g_iload d_Md_same_39 rfl ?_
      refine N_iadd d_Md_same_41 ?_
      refine H_ialdN d_Md_same_42 rfl rfl (by omega) (by decide) ?_
      refine T_int (hrI (bC κ (l'.getD w 0))) (hK.b hj hs' hw).1 ?_
      refine P_if_ge d_Md_same_43 49 (by decide) (fun c3 => ?_) (fun c3 => ?_)
      · have hn1 : l.getD u 0 ≠ 0 := fun z => c2 ((hrI_neg (by omega)).mpr (bC_0.mpr z))
        have hn2 : l'.getD w 0 ≠ 0 := fun z => (hrI_ge (by omega)).mp c3 (bC_0.mpr z)
        rw [if_neg (fun z => z.elim hn1 hn2)] at k
        have hiff : hrI (bC κ (l.getD u 0)) = hrI (bC κ (l'.getD w 0)) ↔ l.getD u 0 = l'.getD w 0 := by
          constructor
          · intro z
            unfold bC at z
            rw [if_neg hn1, if_neg hn2] at z
            have hb1' := hb1
            have hb2' := hb2
            unfold bC at hb1' hb2'
            rw [if_neg hn1] at hb1'
            rw [if_neg hn2] at hb2'
            have z2 : nI (κ (l.getD u 0)) = nI (κ (l'.getD w 0)) := z
            rw [nI_eq (by omega) (by omega)] at z2
            exact hK.2 _ _ ⟨hn1, i, l, u, hi, hs, hu, rfl⟩ ⟨hn2, j, l', w, hj, hs', hw, rfl⟩ z2
          · intro z; rw [z]
        refine g_aload_n d_Md_same_49 rfl ?_
        refine H_getR 168 d_Md_same_50 f_Md_95.g rfl rfl (by decide) rfl ?_
        refine N_iconst d_Md_same_53 5 rfl ?_
        refine g_iload_n d_Md_same_54 rfl ?_
        refine N_imul d_Md_same_55 ?_
        refine g_iload_n d_Md_same_56 rfl ?_
        refine N_iadd d_Md_same_57 ?_
        refine H_ialdN d_Md_same_58 rfl rfl (by omega) (by decide) ?_
        refine T_int (hrI (bC κ (l.getD u 0))) (hK.b hi hs hu).1 ?_
        refine g_aload_n d_Md_same_59 rfl ?_
        refine H_getR 168 d_Md_same_60 f_Md_95.g rfl rfl (by decide) rfl ?_
        refine N_iconst d_Md_same_63 5 rfl ?_
        refine g_iload_n d_Md_same_64 rfl ?_
        refine N_imul d_Md_same_65 ?_
        refine g_iload d_Md_same_66 rfl ?_
        refine N_iadd d_Md_same_68 ?_
        refine H_ialdN d_Md_same_69 rfl rfl (by omega) (by decide) ?_
        refine T_int (hrI (bC κ (l'.getD w 0))) (hK.b hj hs' hw).1 ?_
        refine P_icmp_ne d_Md_same_70 77 (by decide) (fun c4 => ?_) (fun c4 => ?_)
        · refine N_iconst d_Md_same_77 0 rfl ?_
          refine P_iret d_Md_same_78 rfl ?_
          first
            | exact R_i k (if_neg (fun z => absurd (hiff.mpr z) (by assumption)))
            | exact R_i k (if_pos (hiff.mp (by assumption)))
        · refine N_iconst d_Md_same_73 1 rfl ?_
          refine P_goto d_Md_same_74 78 (by decide) ?_
          refine P_iret d_Md_same_78 rfl ?_
          first
            | exact R_i k (if_neg (fun z => absurd (hiff.mpr z) (by assumption)))
            | exact R_i k (if_pos (hiff.mp (by assumption)))
      · refine P_bipush d_Md_same_46 (-13) rfl ?_
        refine P_iret d_Md_same_48 rfl ?_
        first
          | exact R_i k (if_pos (Or.inl (bC_0.mp ((hrI_neg (by omega)).mp c2))))
          | exact R_i k (if_pos (Or.inr (bC_0.mp (Classical.byContradiction (fun z => c3 ((hrI_ge (by omega)).mpr z))))))
  · refine g_iload d_Md_same_16 rfl ?_
    refine P_iret d_Md_same_18 rfl ?_
    exact R_i k (bin_b c1).2

