theorem lp_Md_at1 {X : CX} {h : AH} {Q : Option Value → AH → Prop} {A s : Nat} (hA : A < 32) (hs : s < 10) {be le : Int32} {g a : Nat} (ha : a < 5) (k : ∀ v8, EW X m_Md_attempt 97 [.ref 139, .int (nI A), .int be, .int le, .int (nI s), .int (nI g), .int (nI a), .int (nI (alN A s a 5)), v8] [] h Q) : ∀ (d : Nat) (j : Nat), (j ≤ 5) → 5 - j = d → EW X m_Md_attempt 40 [.ref 139, .int (nI A), .int be, .int le, .int (nI s), .int (nI g), .int (nI a), .int (nI (alN A s a j)), .int (nI j)] [] h Q := by
  intro d
  induction d using Nat.strongRecOn with
  | _ d ih =>
    intro j hj hd
    have hd1 := doesN_le (k := a) hs
    have hd2 := doesN_le (k := j) hs
    have ea : alN A s a (j + 1) = alN A s a j + if (A.testBit a = true ∧ A.testBit j = true) ∧ doesN a s = doesN j s then 1 else 0 := rfl
    refine g_iload d_Md_attempt_40 rfl ?_
    refine N_iconst d_Md_attempt_42 4 rfl ?_
    refine N_icmp_gt d_Md_attempt_43 97 (by decide) ⟨by omega, by omega⟩ (fun c1 => ?_) (fun c1 => ?_)
    · have e : j = 5 := by omega
      subst e
      exact k _
    · refine g_iload d_Md_attempt_46 rfl ?_
      refine g_iload_n d_Md_attempt_48 rfl ?_
      refine g_iload d_Md_attempt_49 rfl ?_
      refine C_S2 d_Md_attempt_51 k_Md_236 (Nat.le_of_ble_eq_true rfl) (by decide) (Nat.le_of_ble_eq_true rfl) ?_
      refine (c_Md_has (by omega) (by omega)) ?_
      refine B_eq d_Md_attempt_54 87 (by decide) (fun c2 => ?_) (fun c2 => ?_)
      · refine N_iconst d_Md_attempt_87 0 rfl ?_
        refine N_iadd d_Md_attempt_88 ?_
        refine S_istore_9_7 d_Md_attempt_89 rfl rfl ?_
        refine N_iinc_9_8_1 d_Md_attempt_91 rfl rfl ?_
        refine P_goto d_Md_attempt_94 40 (by decide) ?_
        have g := ih (5 - (j + 1)) (by omega) (j + 1) (by omega) rfl
        rw [ea] at g
        first
          | (rw [if_pos ⟨⟨by assumption, by assumption⟩, by assumption⟩] at g; exact g)
          | (rw [if_neg (fun z => by first | exact absurd z.1.1 (by assumption) | exact absurd z.1.2 (by assumption) | exact absurd z.2 (by assumption))] at g; exact g)
      · refine g_iload_n d_Md_attempt_57 rfl ?_
        refine g_iload d_Md_attempt_58 rfl ?_
        refine C_S2 d_Md_attempt_60 k_Md_236 (Nat.le_of_ble_eq_true rfl) (by decide) (Nat.le_of_ble_eq_true rfl) ?_
        refine (c_Md_has (by omega) (by omega)) ?_
        refine B_eq d_Md_attempt_63 87 (by decide) (fun c3 => ?_) (fun c3 => ?_)
        · refine N_iconst d_Md_attempt_87 0 rfl ?_
          refine N_iadd d_Md_attempt_88 ?_
          refine S_istore_9_7 d_Md_attempt_89 rfl rfl ?_
          refine N_iinc_9_8_1 d_Md_attempt_91 rfl rfl ?_
          refine P_goto d_Md_attempt_94 40 (by decide) ?_
          have g := ih (5 - (j + 1)) (by omega) (j + 1) (by omega) rfl
          rw [ea] at g
          first
            | (rw [if_pos ⟨⟨by assumption, by assumption⟩, by assumption⟩] at g; exact g)
            | (rw [if_neg (fun z => by first | exact absurd z.1.1 (by assumption) | exact absurd z.1.2 (by assumption) | exact absurd z.2 (by assumption))] at g; exact g)
        · refine g_iload d_Md_attempt_66 rfl ?_
          refine g_iload d_Md_attempt_68 rfl ?_
          refine C_S2 d_Md_attempt_70 k_Md_248 (Nat.le_of_ble_eq_true rfl) (by decide) (Nat.le_of_ble_eq_true rfl) ?_
          refine (c_Md_does ha hs) ?_
          refine g_iload d_Md_attempt_73 rfl ?_
          refine g_iload d_Md_attempt_75 rfl ?_
          refine C_S2 d_Md_attempt_77 k_Md_248 (Nat.le_of_ble_eq_true rfl) (by decide) (Nat.le_of_ble_eq_true rfl) ?_
          refine (c_Md_does (by omega) hs) ?_
          refine N_icmp_ne d_Md_attempt_80 87 (by decide) ⟨by omega, by omega⟩ (fun c4 => ?_) (fun c4 => ?_)
          · refine N_iconst d_Md_attempt_87 0 rfl ?_
            refine N_iadd d_Md_attempt_88 ?_
            refine S_istore_9_7 d_Md_attempt_89 rfl rfl ?_
            refine N_iinc_9_8_1 d_Md_attempt_91 rfl rfl ?_
            refine P_goto d_Md_attempt_94 40 (by decide) ?_
            have g := ih (5 - (j + 1)) (by omega) (j + 1) (by omega) rfl
            rw [ea] at g
            first
              | (rw [if_pos ⟨⟨by assumption, by assumption⟩, by assumption⟩] at g; exact g)
              | (rw [if_neg (fun z => by first | exact absurd z.1.1 (by assumption) | exact absurd z.1.2 (by assumption) | exact absurd z.2 (by assumption))] at g; exact g)
          · refine N_iconst d_Md_attempt_83 1 rfl ?_
            refine P_goto d_Md_attempt_84 88 (by decide) ?_
            refine N_iadd d_Md_attempt_88 ?_
            refine S_istore_9_7 d_Md_attempt_89 rfl rfl ?_
            refine N_iinc_9_8_1 d_Md_attempt_91 rfl rfl ?_
            refine P_goto d_Md_attempt_94 40 (by decide) ?_
            have g := ih (5 - (j + 1)) (by omega) (j + 1) (by omega) rfl
            rw [ea] at g
            first
              | (rw [if_pos ⟨⟨by assumption, by assumption⟩, by assumption⟩] at g; exact g)
              | (rw [if_neg (fun z => by first | exact absurd z.1.1 (by assumption) | exact absurd z.1.2 (by assumption) | exact absurd z.2 (by assumption))] at g; exact g)

theorem lp_Md_at2 {X : CX} {h : AH} {Q : Option Value → AH → Prop} {A s : Nat} (hA : A < 32) (hs : s < 10) {be le : Int32} (k : ∀ v6 v7 v8, EW X m_Md_attempt 119 [.ref 139, .int (nI A), .int be, .int le, .int (nI s), .int (nI (gaN A s 5)), v6, v7, v8] [] h Q) : ∀ (d : Nat) (i : Nat) (v7 : Value) (v8 : Value), (i ≤ 5) → 5 - i = d → EW X m_Md_attempt 28 [.ref 139, .int (nI A), .int be, .int le, .int (nI s), .int (nI (gaN A s i)), .int (nI i), v7, v8] [] h Q := by
  intro d
  induction d using Nat.strongRecOn with
  | _ d ih =>
    intro i v7 v8 hi hd
    refine g_iload d_Md_attempt_28 rfl ?_
    refine N_iconst d_Md_attempt_30 4 rfl ?_
    refine N_icmp_gt d_Md_attempt_31 119 (by decide) ⟨by omega, by omega⟩ (fun c1 => ?_) (fun c1 => ?_)
    · have e : i = 5 := by omega
      subst e
      exact k _ _ _
    · refine N_iconst d_Md_attempt_34 0 rfl ?_
      refine S_istore_9_7 d_Md_attempt_35 rfl rfl ?_
      refine N_iconst d_Md_attempt_37 0 rfl ?_
      refine S_istore_9_8 d_Md_attempt_38 rfl rfl ?_
      have hg1 := gaN_le A s i
      have hg2 := alN_le A s i 5
      have eg : gaN A s (i + 1) = max (gaN A s i) (alN A s i 5) := rfl
      refine lp_Md_at1 hA hs (by omega) (fun w8 => ?_) _ 0 (Nat.zero_le _) rfl
      refine g_iload d_Md_attempt_97 rfl ?_
      refine g_iload d_Md_attempt_99 rfl ?_
      refine N_icmp_le d_Md_attempt_101 109 (by decide) ⟨by omega, by omega⟩ (fun dd1 => ?_) (fun dd1 => ?_)
      · refine g_iload d_Md_attempt_109 rfl ?_
        refine S_istore_9_5 d_Md_attempt_111 rfl rfl ?_
        refine N_iinc_9_6_1 d_Md_attempt_113 rfl rfl ?_
        refine P_goto d_Md_attempt_116 28 (by decide) ?_
        have g := ih (5 - (i + 1)) (by omega) (i + 1)
        rw [eg] at g
        first
          | (rw [Nat.max_eq_left (show alN A s i 5 ≤ gaN A s i by omega)] at g; exact g _ _ (by omega) rfl)
          | (rw [Nat.max_eq_right (show gaN A s i ≤ alN A s i 5 by omega)] at g; exact g _ _ (by omega) rfl)
      · refine g_iload d_Md_attempt_104 rfl ?_
        refine P_goto d_Md_attempt_106 111 (by decide) ?_
        refine S_istore_9_5 d_Md_attempt_111 rfl rfl ?_
        refine N_iinc_9_6_1 d_Md_attempt_113 rfl rfl ?_
        refine P_goto d_Md_attempt_116 28 (by decide) ?_
        have g := ih (5 - (i + 1)) (by omega) (i + 1)
        rw [eg] at g
        first
          | (rw [Nat.max_eq_left (show alN A s i 5 ≤ gaN A s i by omega)] at g; exact g _ _ (by omega) rfl)
          | (rw [Nat.max_eq_right (show gaN A s i ≤ alN A s i 5 by omega)] at g; exact g _ _ (by omega) rfl)

theorem lp_Md_at3 {X : CX} {h : AH} {Q : Option Value → AH → Prop} {A : Nat} (hA : A < 32) (k : Q (some (.int (hrI (bsN A 10).1))) h) : ∀ (d : Nat) (i : Nat) (q : Nat × Nat) (v5 : Value) (v6 : Value) (v7 : Value) (v8 : Value), (1 ≤ i ∧ i ≤ 10) → (q = bsN A i) → 10 - i = d → EW X m_Md_attempt 15 [.ref 139, .int (nI A), .int (hrI q.1), .int (nI q.2), .int (nI i), v5, v6, v7, v8] [] h Q := by
  intro d
  induction d using Nat.strongRecOn with
  | _ d ih =>
    intro i q v5 v6 v7 v8 hi hq hd
    refine g_iload d_Md_attempt_15 rfl ?_
    refine N_bipush d_Md_attempt_17 10 rfl ?_
    refine N_icmp_ge d_Md_attempt_19 151 (by decide) ⟨by omega, by omega⟩ (fun c1 => ?_) (fun c1 => ?_)
    · refine g_iload_n d_Md_attempt_151 rfl ?_
      refine P_iret d_Md_attempt_152 rfl ?_
      have e : i = 10 := by omega
      subst e
      rw [hq]
      exact k
    · refine N_iconst d_Md_attempt_22 0 rfl ?_
      refine S_istore_9_5 d_Md_attempt_23 rfl rfl ?_
      refine N_iconst d_Md_attempt_25 0 rfl ?_
      refine S_istore_9_6 d_Md_attempt_26 rfl rfl ?_
      obtain ⟨i1, rfl⟩ : ∃ i1, i = i1 + 1 := ⟨i - 1, by omega⟩
      have hg5 := gaN_le A (i1 + 1) 5
      have hb := bsN_le A (i1 + 1)
      rw [← hq] at hb
      refine lp_Md_at2 hA (by omega) (fun w6 w7 w8 => ?_) _ 0 _ _ (Nat.zero_le _) rfl
      refine g_iload d_Md_attempt_119 rfl ?_
      refine g_iload_n d_Md_attempt_121 rfl ?_
      refine N_icmp_ge d_Md_attempt_122 130 (by decide) ⟨by omega, by omega⟩ (fun dd1 => ?_) (fun dd1 => ?_)
      · refine g_iload_n d_Md_attempt_130 rfl ?_
        refine S_istore_n_9_2 d_Md_attempt_131 rfl rfl ?_
        refine g_iload d_Md_attempt_132 rfl ?_
        refine g_iload_n d_Md_attempt_134 rfl ?_
        refine N_icmp_ge d_Md_attempt_135 143 (by decide) ⟨by omega, by omega⟩ (fun dd2 => ?_) (fun dd2 => ?_)
        · refine g_iload_n d_Md_attempt_143 rfl ?_
          refine S_istore_n_9_3 d_Md_attempt_144 rfl rfl ?_
          refine N_iinc_9_4_1 d_Md_attempt_145 rfl rfl ?_
          refine P_goto d_Md_attempt_148 15 (by decide) ?_
          first
            | omega
            | exact ih (10 - (i1 + 1 + 1)) (by omega) (i1 + 1 + 1) q _ _ _ _ (by omega) (by rw [bsN, ← hq, bs1, if_neg (by omega)]) rfl
            | exact ih (10 - (i1 + 1 + 1)) (by omega) (i1 + 1 + 1) (i1 + 1 + 1, gaN A (i1 + 1) 5) _ _ _ _ (by omega) (by rw [bsN, ← hq, bs1, if_pos (by omega)]) rfl
        · refine g_iload d_Md_attempt_138 rfl ?_
          refine P_goto d_Md_attempt_140 144 (by decide) ?_
          refine S_istore_n_9_3 d_Md_attempt_144 rfl rfl ?_
          refine N_iinc_9_4_1 d_Md_attempt_145 rfl rfl ?_
          refine P_goto d_Md_attempt_148 15 (by decide) ?_
          first
            | omega
            | exact ih (10 - (i1 + 1 + 1)) (by omega) (i1 + 1 + 1) q _ _ _ _ (by omega) (by rw [bsN, ← hq, bs1, if_neg (by omega)]) rfl
            | exact ih (10 - (i1 + 1 + 1)) (by omega) (i1 + 1 + 1) (i1 + 1 + 1, gaN A (i1 + 1) 5) _ _ _ _ (by omega) (by rw [bsN, ← hq, bs1, if_pos (by omega)]) rfl
      · refine g_iload d_Md_attempt_125 rfl ?_
        refine P_goto d_Md_attempt_127 131 (by decide) ?_
        refine S_istore_n_9_2 d_Md_attempt_131 rfl rfl ?_
        refine g_iload d_Md_attempt_132 rfl ?_
        refine g_iload_n d_Md_attempt_134 rfl ?_
        refine N_icmp_ge d_Md_attempt_135 143 (by decide) ⟨by omega, by omega⟩ (fun dd3 => ?_) (fun dd3 => ?_)
        · refine g_iload_n d_Md_attempt_143 rfl ?_
          refine S_istore_n_9_3 d_Md_attempt_144 rfl rfl ?_
          refine N_iinc_9_4_1 d_Md_attempt_145 rfl rfl ?_
          refine P_goto d_Md_attempt_148 15 (by decide) ?_
          first
            | omega
            | exact ih (10 - (i1 + 1 + 1)) (by omega) (i1 + 1 + 1) q _ _ _ _ (by omega) (by rw [bsN, ← hq, bs1, if_neg (by omega)]) rfl
            | exact ih (10 - (i1 + 1 + 1)) (by omega) (i1 + 1 + 1) (i1 + 1 + 1, gaN A (i1 + 1) 5) _ _ _ _ (by omega) (by rw [bsN, ← hq, bs1, if_pos (by omega)]) rfl
        · refine g_iload d_Md_attempt_138 rfl ?_
          refine P_goto d_Md_attempt_140 144 (by decide) ?_
          refine S_istore_n_9_3 d_Md_attempt_144 rfl rfl ?_
          refine N_iinc_9_4_1 d_Md_attempt_145 rfl rfl ?_
          refine P_goto d_Md_attempt_148 15 (by decide) ?_
          first
            | omega
            | exact ih (10 - (i1 + 1 + 1)) (by omega) (i1 + 1 + 1) q _ _ _ _ (by omega) (by rw [bsN, ← hq, bs1, if_neg (by omega)]) rfl
            | exact ih (10 - (i1 + 1 + 1)) (by omega) (i1 + 1 + 1) (i1 + 1 + 1, gaN A (i1 + 1) 5) _ _ _ _ (by omega) (by rw [bsN, ← hq, bs1, if_pos (by omega)]) rfl

theorem c_Md_attempt {X : CX} {dl : List (Nat × Nat)} {mI : Nat → Nat → Int32} {dr : Nat → Nat → Nat} {Q : Option Value → AH → Prop} {G : GD} (hg : GW G) (hG : GM G mI) (k : Q (some (.int (aAt G))) (hp X dl mI dr)) : EW X m_Md_attempt 0 (enL m_Md_attempt.2.2.1 [.ref 139]) [] (hp X dl mI dr) Q := by
  show EW X m_Md_attempt 0 [.ref 139, jk, jk, jk, jk, jk, jk, jk, jk] [] (hp X dl mI dr) Q
  have hlt := pkN_lt G 5
  refine g_aload_n d_Md_attempt_0 rfl ?_
  refine C_V0 d_Md_attempt_1 k_Md_308 rfl (Nat.le_of_ble_eq_true rfl) (by decide) (Nat.le_of_ble_eq_true rfl) ?_
  refine (c_Md_kinds hg hG) ?_
  refine S_istore_n_9_1 d_Md_attempt_4 rfl rfl ?_
  refine P_iconst d_Md_attempt_5 (-1) rfl ?_
  refine S_istore_n_9_2 d_Md_attempt_6 rfl rfl ?_
  refine g_iload_n d_Md_attempt_7 rfl ?_
  refine C_S1 d_Md_attempt_8 k_Md_290 (Nat.le_of_ble_eq_true rfl) (by decide) (Nat.le_of_ble_eq_true rfl) ?_
  refine (c_Md_ones (by omega)) ?_
  refine S_istore_n_9_3 d_Md_attempt_11 rfl rfl ?_
  refine N_iconst d_Md_attempt_12 1 rfl ?_
  refine S_istore_9_4 d_Md_attempt_13 rfl rfl ?_
  exact lp_Md_at3 hlt k _ 1 (0, onesN (pkN G 5) 10) _ _ _ _ (by omega) rfl rfl

theorem lp_Md_dead {X : CX} {dl : List (Nat × Nat)} {mI : Nat → Nat → Int32} {dr : Nat → Nat → Nat} {Q : Option Value → AH → Prop} {T : TD} (hw : TW T) (hT : TM 3 7 142 T mI) {σ : AS} (hS : SM 0 T σ (KO T σ) mI) (hW : SV T σ) (k : Q (some (.int (nI (deadN T σ)))) (hp X dl mI dr)) : ∀ (d : Nat) (i : Nat) (s : Nat), (i ≤ tn T) → (s = (List.range i).foldl (dead1 σ) 0) → tn T - i = d → EW X m_Md_dead 4 [.ref 139, .int (nI s), .int (nI i)] [] (hp X dl mI dr) Q := by
  intro d
  induction d using Nat.strongRecOn with
  | _ d ih =>
    intro i s hi hs hd
    have hw1 := hw.1
    have hw2 := hw.2.1
    have hf := fold_s (dead1 σ) 0 i
    refine g_iload_n d_Md_dead_4 rfl ?_
    refine g_aload_n d_Md_dead_5 rfl ?_
    refine H_getI d_Md_dead_6 f_Md_107.g rfl rfl (by decide) ?_
    refine T_int (nI (tn T)) hT.1 ?_
    refine N_icmp_ge d_Md_dead_9 39 (by decide) ⟨by omega, by omega⟩ (fun c1 => ?_) (fun c1 => ?_)
    · refine g_iload_n d_Md_dead_39 rfl ?_
      refine P_iret d_Md_dead_40 rfl ?_
      have e : i = tn T := by omega
      subst e
      exact R_i k (by rw [hs]; rfl)
    · refine g_iload_n d_Md_dead_12 rfl ?_
      refine g_aload_n d_Md_dead_13 rfl ?_
      refine H_getR 140 d_Md_dead_14 f_Md_7.g rfl rfl (by decide) rfl ?_
      refine N_iconst d_Md_dead_17 1 rfl ?_
      refine g_iload_n d_Md_dead_18 rfl ?_
      refine N_iadd d_Md_dead_19 ?_
      refine H_ialdN d_Md_dead_20 rfl rfl (by omega) (by decide) ?_
      refine T_int (nI (aS σ i)) (by have := hS.2.2.1 i (by omega); rw [Nat.zero_add] at this; exact this) ?_
      have h60 := hW.2.2 i (by omega)
      refine N_if_ne d_Md_dead_21 30 (by decide) (by omega) (fun c2 => ?_) (fun c2 => ?_)
      · refine N_iconst d_Md_dead_30 0 rfl ?_
        refine N_ior d_Md_dead_31 ?_
        refine S_istore_n_3_1 d_Md_dead_32 rfl rfl ?_
        refine N_iinc_3_2_1 d_Md_dead_33 rfl rfl ?_
        refine P_goto d_Md_dead_36 4 (by decide) ?_
        rw [← hs, dead1] at hf
        first
          | (rw [if_pos (by assumption), ← Nat.one_mul (2 ^ i)] at hf; exact ih (tn T - (i + 1)) (by omega) (i + 1) _ (by omega) hf.symm rfl)
          | (rw [if_neg (by assumption)] at hf; rw [Nat.or_zero]; exact ih (tn T - (i + 1)) (by omega) (i + 1) _ (by omega) hf.symm rfl)
      · refine N_iconst d_Md_dead_24 1 rfl ?_
        refine g_iload_n d_Md_dead_25 rfl ?_
        refine N_ishl d_Md_dead_26 (by omega) (p2_lt (by omega)) ?_
        refine P_goto d_Md_dead_27 31 (by decide) ?_
        refine N_ior d_Md_dead_31 ?_
        refine S_istore_n_3_1 d_Md_dead_32 rfl rfl ?_
        refine N_iinc_3_2_1 d_Md_dead_33 rfl rfl ?_
        refine P_goto d_Md_dead_36 4 (by decide) ?_
        rw [← hs, dead1] at hf
        first
          | (rw [if_pos (by assumption), ← Nat.one_mul (2 ^ i)] at hf; exact ih (tn T - (i + 1)) (by omega) (i + 1) _ (by omega) hf.symm rfl)
          | (rw [if_neg (by assumption)] at hf; rw [Nat.or_zero]; exact ih (tn T - (i + 1)) (by omega) (i + 1) _ (by omega) hf.symm rfl)

theorem c_Md_dead {X : CX} {dl : List (Nat × Nat)} {mI : Nat → Nat → Int32} {dr : Nat → Nat → Nat} {Q : Option Value → AH → Prop} {T : TD} (hw : TW T) (hT : TM 3 7 142 T mI) {σ : AS} (hS : SM 0 T σ (KO T σ) mI) (hW : SV T σ) (k : Q (some (.int (nI (deadN T σ)))) (hp X dl mI dr)) : EW X m_Md_dead 0 (enL m_Md_dead.2.2.1 [.ref 139]) [] (hp X dl mI dr) Q := by
  show EW X m_Md_dead 0 [.ref 139, jk, jk] [] (hp X dl mI dr) Q
  refine N_iconst d_Md_dead_0 0 rfl ?_
  refine S_istore_n_3_1 d_Md_dead_1 rfl rfl ?_
  refine N_iconst d_Md_dead_2 0 rfl ?_
  refine S_istore_n_3_2 d_Md_dead_3 rfl rfl ?_
  exact lp_Md_dead hw hT hS hW k _ 0 0 (Nat.zero_le _) rfl rfl

theorem lp_Md_doneAll {X : CX} {dl : List (Nat × Nat)} {mI : Nat → Nat → Int32} {dr : Nat → Nat → Nat} {Q : Option Value → AH → Prop} {T : TD} (hw : TW T) (hT : TM 3 7 142 T mI) {σ : AS} (hS : SM 0 T σ (KO T σ) mI) (k : Q (some (.int (nI (sumD σ (tP T))))) (hp X dl mI dr)) : ∀ (d : Nat) (i : Nat), (i ≤ tP T) → tP T - i = d → EW X m_Md_doneAll 4 [.ref 139, .int (nI (sumD σ i)), .int (nI i)] [] (hp X dl mI dr) Q := by
  intro d
  induction d using Nat.strongRecOn with
  | _ d ih =>
    intro i hi hd
    have hw1 := hw.1
    have hw2 := hw.2.1
    refine g_iload_n d_Md_doneAll_4 rfl ?_
    refine g_aload_n d_Md_doneAll_5 rfl ?_
    refine H_getI d_Md_doneAll_6 f_Md_115.g rfl rfl (by decide) ?_
    refine T_int (nI (tP T)) hT.2.1 ?_
    refine N_icmp_ge d_Md_doneAll_9 30 (by decide) ⟨by omega, by omega⟩ (fun c1 => ?_) (fun c1 => ?_)
    · refine g_iload_n d_Md_doneAll_30 rfl ?_
      refine P_iret d_Md_doneAll_31 rfl ?_
      have e : i = tP T := by omega
      subst e
      exact k
    · refine g_iload_n d_Md_doneAll_12 rfl ?_
      refine g_aload_n d_Md_doneAll_13 rfl ?_
      refine H_getR 140 d_Md_doneAll_14 f_Md_7.g rfl rfl (by decide) rfl ?_
      refine N_bipush d_Md_doneAll_17 16 rfl ?_
      refine g_iload_n d_Md_doneAll_19 rfl ?_
      refine N_iadd d_Md_doneAll_20 ?_
      refine H_ialdN d_Md_doneAll_21 rfl rfl (by omega) (by decide) ?_
      refine T_int (nI (aD σ i)) (by have := (hS.2.2.2.1 i (by omega)).2; rw [Nat.zero_add] at this; exact this) ?_
      refine N_iadd d_Md_doneAll_22 ?_
      refine S_istore_n_3_1 d_Md_doneAll_23 rfl rfl ?_
      refine N_iinc_3_2_1 d_Md_doneAll_24 rfl rfl ?_
      refine P_goto d_Md_doneAll_27 4 (by decide) ?_
      exact ih (tP T - (i + 1)) (by omega) (i + 1) (by omega) rfl

theorem c_Md_doneAll {X : CX} {dl : List (Nat × Nat)} {mI : Nat → Nat → Int32} {dr : Nat → Nat → Nat} {Q : Option Value → AH → Prop} {T : TD} (hw : TW T) (hT : TM 3 7 142 T mI) {σ : AS} (hS : SM 0 T σ (KO T σ) mI) (k : Q (some (.int (nI (sumD σ (tP T))))) (hp X dl mI dr)) : EW X m_Md_doneAll 0 (enL m_Md_doneAll.2.2.1 [.ref 139]) [] (hp X dl mI dr) Q := by
  show EW X m_Md_doneAll 0 [.ref 139, jk, jk] [] (hp X dl mI dr) Q
  refine N_iconst d_Md_doneAll_0 0 rfl ?_
  refine S_istore_n_3_1 d_Md_doneAll_1 rfl rfl ?_
  refine N_iconst d_Md_doneAll_2 0 rfl ?_
  refine S_istore_n_3_2 d_Md_doneAll_3 rfl rfl ?_
  exact lp_Md_doneAll hw hT hS k _ 0 (Nat.zero_le _) rfl

/-- the ways of one set of years -/
def wyN (q s : Nat) : Nat → Nat
  | 0 => 1
  | e + 1 => wyN q s e * (if s.testBit e = true then 10 - q else q)
def us (f : Nat → Nat) : Nat → Nat
  | 0 => 0
  | k + 1 => us f k + f k
theorem us_add (f : Nat → Nat) (a : Nat) : ∀ b, us f (a + b) = us f a + us (fun s => f (a + s)) b
  | 0 => rfl
  | b + 1 => by rw [← Nat.add_assoc, us, us_add f a b, us, Nat.add_assoc]
theorem us_ext {f g : Nat → Nat} : ∀ k, (∀ s, s < k → f s = g s) → us f k = us g k
  | 0, _ => rfl
  | k + 1, h => by rw [us, us, us_ext k (fun s hs => h s (by omega)), h k (by omega)]
theorem us_mul (c : Nat) (f : Nat → Nat) : ∀ k, us (fun s => c * f s) k = c * us f k
  | 0 => rfl
  | k + 1 => by rw [us, us, us_mul c f k, Nat.mul_add]
def upF (q n m s : Nat) : Nat := if m ≤ onesN s n then wyN q s n else 0
theorem tb_mod (s i : Nat) : s / 2 ^ i % 2 = (s.testBit i).toNat := by
  rw [Nat.testBit_eq_decide_div_mod_eq]
  rcases (show s / 2 ^ i % 2 = 0 ∨ s / 2 ^ i % 2 = 1 by omega) with h | h <;> simp [h]
theorem low_eq {q s t : Nat} : ∀ n, (∀ i, i < n → s.testBit i = t.testBit i) → wyN q s n = wyN q t n ∧ onesN s n = onesN t n
  | 0, _ => ⟨rfl, rfl⟩
  | n + 1, h => by
    obtain ⟨h1, h2⟩ := low_eq (q := q) n (fun i hi => h i (by omega))
    rw [wyN, wyN, onesN, onesN, h1, h2, tb_mod, tb_mod, h n (by omega)]
    exact ⟨rfl, rfl⟩
theorem up_idU (q : Nat) : ∀ n m, us (upF q n m) (2 ^ n) = idU q n m
  | 0, m => by
    show 0 + upF q 0 m 0 = _
    rw [Nat.zero_add, upF, idU]
    show (if m ≤ 0 then 1 else 0) = _
    by_cases h : m = 0
    · rw [if_pos (by omega), if_pos h]
    · rw [if_neg (by omega), if_neg h]
  | n + 1, m => by
    rw [Nat.pow_succ, Nat.mul_two, us_add, idU, ← up_idU q n m, ← up_idU q n (m - 1), ← us_mul, ← us_mul]
    congr 1
    · refine us_ext _ (fun s hs => ?_)
      have hb : s.testBit n = false := Nat.testBit_lt_two_pow hs
      unfold upF
      rw [onesN, wyN, tb_mod, hb]
      simp only [Bool.toNat_false, Nat.add_zero, Bool.false_eq_true, if_false]
      split
      · rw [Nat.mul_comm]
      · rfl
    · refine us_ext _ (fun s hs => ?_)
      have hb : (2 ^ n + s).testBit n = true := by rw [Nat.testBit_two_pow_add_eq, Nat.testBit_lt_two_pow hs]; rfl
      obtain ⟨h1, h2⟩ := low_eq (q := q) (s := 2 ^ n + s) (t := s) n (fun i hi => Nat.testBit_two_pow_add_gt hi s)
      unfold upF
      rw [onesN, wyN, tb_mod, hb, h1, h2]
      simp only [Bool.toNat_true, if_true]
      by_cases h : m ≤ onesN s n + 1
      · rw [if_pos h, if_pos (by omega), Nat.mul_comm]
      · rw [if_neg h, if_neg (by omega)]; rfl
theorem wyN_le {q : Nat} (hq : q ≤ 10) (s : Nat) : ∀ n, wyN q s n ≤ 10 ^ n
  | 0 => Nat.le_refl _
  | n + 1 => by
    rw [wyN, Nat.pow_succ]
    refine Nat.mul_le_mul (wyN_le hq s n) ?_
    split <;> omega
theorem lp_Md_id1 {X : CX} {h : AH} {Q : Option Value → AH → Prop} {n q m pt : Nat} (hn : n ≤ 9) (hq : q ≤ 10) (hm : m ≤ 9) (hpt : pt ≤ 1) {v10 v11 v12 v13 v14 : Value} (k : ∀ v9, EW X m_Md_idle 79 [.ref 139, .int (nI n), .int (nI q), .int (nI m), .int (nI pt), .long (lQ 0), jk, .long (lQ (10 ^ n)), jk, v9, v10, v11, v12, v13, v14] [] h Q) : ∀ (d : Nat) (i : Nat), (i ≤ n) → n - i = d → EW X m_Md_idle 59 [.ref 139, .int (nI n), .int (nI q), .int (nI m), .int (nI pt), .long (lQ 0), jk, .long (lQ (10 ^ i)), jk, .int (nI i), v10, v11, v12, v13, v14] [] h Q := by
  intro d
  induction d using Nat.strongRecOn with
  | _ d ih =>
    intro i hi hd
    refine g_iload d_Md_idle_59 rfl ?_
    refine g_iload_n d_Md_idle_61 rfl ?_
    refine N_icmp_ge d_Md_idle_62 79 (by decide) ⟨by omega, by omega⟩ (fun c1 => ?_) (fun c1 => ?_)
    · have e : i = n := by omega
      subst e
      exact k _
    · refine g_lload d_Md_idle_65 rfl ?_
      refine P_ldc2 d_Md_idle_67 _ q_Md_304 ?_
      rw [show (10 : Int64) = lQ 10 from rfl]
      refine L_lmul d_Md_idle_70 ?_
      refine S_lstore_15_7 d_Md_idle_71 rfl rfl ?_
      refine N_iinc_15_9_1 d_Md_idle_73 rfl rfl ?_
      refine P_goto d_Md_idle_76 59 (by decide) ?_
      rw [← Nat.pow_succ]
      exact ih (n - (i + 1)) (by omega) (i + 1) (by omega) rfl

theorem lp_Md_id2 {X : CX} {h : AH} {Q : Option Value → AH → Prop} {n q m pt : Nat} (hn : n ≤ 9) (hq : q ≤ 10) (hm : m ≤ 9) (hpt : pt ≤ 1) {s u : Nat} (hs : s < 2 ^ n) {v14 : Value} (k : ∀ v13, EW X m_Md_idle 148 [.ref 139, .int (nI n), .int (nI q), .int (nI m), .int (nI pt), .long (lQ u), jk, .long (lQ (10 ^ n)), jk, .int (nI s), .long (lQ (wyN q s n)), jk, .int (nI (onesN s n)), v13, v14] [] h Q) : ∀ (d : Nat) (i : Nat), (i ≤ n) → n - i = d → EW X m_Md_idle 99 [.ref 139, .int (nI n), .int (nI q), .int (nI m), .int (nI pt), .long (lQ u), jk, .long (lQ (10 ^ n)), jk, .int (nI s), .long (lQ (wyN q s i)), jk, .int (nI (onesN s i)), .int (nI i), v14] [] h Q := by
  intro d
  induction d using Nat.strongRecOn with
  | _ d ih =>
    intro i hi hd
    have h29 : 2 ^ n ≤ 2 ^ 9 := Nat.pow_le_pow_right (by decide) hn
    have ew : wyN q s (i + 1) = wyN q s i * (if s.testBit i = true then 10 - q else q) := rfl
    have eo : onesN s (i + 1) = onesN s i + s / 2 ^ i % 2 := rfl
    refine g_iload d_Md_idle_99 rfl ?_
    refine g_iload_n d_Md_idle_101 rfl ?_
    refine N_icmp_ge d_Md_idle_102 148 (by decide) ⟨by omega, by omega⟩ (fun c1 => ?_) (fun c1 => ?_)
    · have e : i = n := by omega
      subst e
      exact k _
    · refine g_lload d_Md_idle_105 rfl ?_
      refine g_iload d_Md_idle_107 rfl ?_
      refine g_iload d_Md_idle_109 rfl ?_
      refine C_S2 d_Md_idle_111 k_Md_236 (Nat.le_of_ble_eq_true rfl) (by decide) (Nat.le_of_ble_eq_true rfl) ?_
      refine (c_Md_has (by omega) (by omega)) ?_
      refine B_eq d_Md_idle_114 125 (by decide) (fun c2 => ?_) (fun c2 => ?_)
      · refine g_iload_n d_Md_idle_125 rfl ?_
        refine L_i2l d_Md_idle_126 (by omega) ?_
        refine L_lmul d_Md_idle_127 ?_
        refine S_lstore_15_10 d_Md_idle_128 rfl rfl ?_
        refine g_iload d_Md_idle_130 rfl ?_
        refine g_iload d_Md_idle_132 rfl ?_
        refine g_iload d_Md_idle_134 rfl ?_
        refine N_ishr d_Md_idle_136 (by omega) (by omega) ?_
        refine N_iconst d_Md_idle_137 1 rfl ?_
        refine N_iand d_Md_idle_138 ?_
        refine T_int (nI (s / 2 ^ i % 2)) (by rw [and1]) ?_
        refine N_iadd d_Md_idle_139 ?_
        refine S_istore_15_12 d_Md_idle_140 rfl rfl ?_
        refine N_iinc_15_13_1 d_Md_idle_142 rfl rfl ?_
        refine P_goto d_Md_idle_145 99 (by decide) ?_
        have g := ih (n - (i + 1)) (by omega) (i + 1) (by omega) rfl
        rw [ew, eo] at g
        first
          | (rw [if_pos (by assumption)] at g; exact g)
          | (rw [if_neg (by assumption)] at g; exact g)
      · refine N_bipush d_Md_idle_117 10 rfl ?_
        refine g_iload_n d_Md_idle_119 rfl ?_
        refine N_isub d_Md_idle_120 (by omega) ?_
        refine L_i2l d_Md_idle_121 (by omega) ?_
        refine P_goto d_Md_idle_122 127 (by decide) ?_
        refine L_lmul d_Md_idle_127 ?_
        refine S_lstore_15_10 d_Md_idle_128 rfl rfl ?_
        refine g_iload d_Md_idle_130 rfl ?_
        refine g_iload d_Md_idle_132 rfl ?_
        refine g_iload d_Md_idle_134 rfl ?_
        refine N_ishr d_Md_idle_136 (by omega) (by omega) ?_
        refine N_iconst d_Md_idle_137 1 rfl ?_
        refine N_iand d_Md_idle_138 ?_
        refine T_int (nI (s / 2 ^ i % 2)) (by rw [and1]) ?_
        refine N_iadd d_Md_idle_139 ?_
        refine S_istore_15_12 d_Md_idle_140 rfl rfl ?_
        refine N_iinc_15_13_1 d_Md_idle_142 rfl rfl ?_
        refine P_goto d_Md_idle_145 99 (by decide) ?_
        have g := ih (n - (i + 1)) (by omega) (i + 1) (by omega) rfl
        rw [ew, eo] at g
        first
          | (rw [if_pos (by assumption)] at g; exact g)
          | (rw [if_neg (by assumption)] at g; exact g)

theorem us_le {q : Nat} (hq : q ≤ 10) (n m : Nat) : ∀ k, us (upF q n m) k ≤ k * 10 ^ n
  | 0 => by simp [us]
  | k + 1 => by
    have := us_le hq n m k
    have h2 := wyN_le hq k n
    rw [us, Nat.succ_mul, upF]
    split <;> omega
theorem lp_Md_id3 {X : CX} {h : AH} {Q : Option Value → AH → Prop} {n q m pt : Nat} (hn : n ≤ 9) (hq : q ≤ 10) (hm : m ≤ 9) (hpt : pt ≤ 1) (k : ∀ v9 v10 v11 v12 v13 v14, EW X m_Md_idle 171 [.ref 139, .int (nI n), .int (nI q), .int (nI m), .int (nI pt), .long (lQ (us (upF q n m) (2 ^ n))), jk, .long (lQ (10 ^ n)), jk, v9, v10, v11, v12, v13, v14] [] h Q) : ∀ (d : Nat) (s : Nat) (v10 : Value) (v11 : Value) (v12 : Value) (v13 : Value) (v14 : Value), (s ≤ 2 ^ n) → 2 ^ n - s = d → EW X m_Md_idle 82 [.ref 139, .int (nI n), .int (nI q), .int (nI m), .int (nI pt), .long (lQ (us (upF q n m) s)), jk, .long (lQ (10 ^ n)), jk, .int (nI s), v10, v11, v12, v13, v14] [] h Q := by
  intro d
  induction d using Nat.strongRecOn with
  | _ d ih =>
    intro s v10 v11 v12 v13 v14 hs hd
    have h29 : 2 ^ n ≤ 2 ^ 9 := Nat.pow_le_pow_right (by decide) hn
    refine g_iload d_Md_idle_82 rfl ?_
    refine N_iconst d_Md_idle_84 1 rfl ?_
    refine g_iload_n d_Md_idle_85 rfl ?_
    refine N_ishl d_Md_idle_86 (by omega) (by rw [Nat.one_mul]; omega) ?_
    rw [Nat.one_mul]
    refine N_icmp_ge d_Md_idle_87 171 (by decide) ⟨by omega, by omega⟩ (fun c1 => ?_) (fun c1 => ?_)
    · have e : s = 2 ^ n := by omega
      subst e
      exact k _ _ _ _ _ _
    · refine P_lconst d_Md_idle_90 (lQ 1) rfl ?_
      refine S_lstore_15_10 d_Md_idle_91 rfl rfl ?_
      refine N_iconst d_Md_idle_93 0 rfl ?_
      refine S_istore_15_12 d_Md_idle_94 rfl rfl ?_
      refine N_iconst d_Md_idle_96 0 rfl ?_
      refine S_istore_15_13 d_Md_idle_97 rfl rfl ?_
      refine lp_Md_id2 hn hq hm hpt (by assumption) (fun w13 => ?_) _ 0 (Nat.zero_le _) rfl
      have ho := onesN_le s n
      refine g_lload d_Md_idle_148 rfl ?_
      refine g_iload d_Md_idle_150 rfl ?_
      refine g_iload_n d_Md_idle_152 rfl ?_
      refine N_icmp_lt d_Md_idle_153 161 (by decide) ⟨by omega, by omega⟩ (fun dd1 => ?_) (fun dd1 => ?_)
      · refine P_lconst d_Md_idle_161 (lQ 0) rfl ?_
        refine L_ladd d_Md_idle_162 ?_
        refine S_lstore_15_5 d_Md_idle_163 rfl rfl ?_
        refine N_iinc_15_9_1 d_Md_idle_165 rfl rfl ?_
        refine P_goto d_Md_idle_168 82 (by decide) ?_
        have g := ih (2 ^ n - (s + 1)) (by omega) (s + 1)
        rw [us, upF] at g
        first
          | (rw [if_pos (show m ≤ onesN s n by omega)] at g; exact g _ _ _ _ _ (by omega) rfl)
          | (rw [if_neg (show ¬ m ≤ onesN s n by omega)] at g; exact g _ _ _ _ _ (by omega) rfl)
      · refine g_lload d_Md_idle_156 rfl ?_
        refine P_goto d_Md_idle_158 162 (by decide) ?_
        refine L_ladd d_Md_idle_162 ?_
        refine S_lstore_15_5 d_Md_idle_163 rfl rfl ?_
        refine N_iinc_15_9_1 d_Md_idle_165 rfl rfl ?_
        refine P_goto d_Md_idle_168 82 (by decide) ?_
        have g := ih (2 ^ n - (s + 1)) (by omega) (s + 1)
        rw [us, upF] at g
        first
          | (rw [if_pos (show m ≤ onesN s n by omega)] at g; exact g _ _ _ _ _ (by omega) rfl)
          | (rw [if_neg (show ¬ m ≤ onesN s n by omega)] at g; exact g _ _ _ _ _ (by omega) rfl)

theorem lp_Md_id4 {X : CX} {h : AH} {Q : Option Value → AH → Prop} {n q m pt : Nat} (hn : n ≤ 9) (hq : q ≤ 10) (hm : m ≤ 9) (hpt : pt ≤ 1) {U D G : Nat} (hU : U < 2 ^ 62) (hD : D < 2 ^ 62) (hG : 0 < G ∧ G < 2 ^ 62) (k : Q (some (.int (nI ((if pt = 0 then U else D) / G)))) h) : ∀ (d : Nat) (a : Nat) (b : Nat) (v13 : Value) (v14 : Value), (a < 2 ^ 62) → (b < 2 ^ 62) → (Nat.gcd a b = G) → b = d → EW X m_Md_idle 179 [.ref 139, .int (nI n), .int (nI q), .int (nI m), .int (nI pt), .long (lQ U), jk, .long (lQ D), jk, .long (lQ a), jk, .long (lQ b), jk, v13, v14] [] h Q := by
  intro d
  induction d using Nat.strongRecOn with
  | _ d ih =>
    intro a b v13 v14 ha hb hg hd
    refine g_lload d_Md_idle_179 rfl ?_
    refine P_lconst d_Md_idle_181 (lQ 0) rfl ?_
    refine P_lcmp d_Md_idle_182 ?_
    refine P_if_eq d_Md_idle_183 204 (by decide) (fun c1 => ?_) (fun c1 => ?_)
    · have hb0 : b = 0 := (lg0 (by omega)).mp c1
      rw [hb0, Nat.gcd_zero_right] at hg
      subst hg
      refine g_iload d_Md_idle_204 rfl ?_
      refine N_if_ne d_Md_idle_206 217 (by decide) (by omega) (fun dd1 => ?_) (fun dd1 => ?_)
      · refine g_lload d_Md_idle_217 rfl ?_
        refine g_lload d_Md_idle_219 rfl ?_
        refine L_ldiv d_Md_idle_221 (by omega) (by omega) (by omega) ?_
        refine L_l2i d_Md_idle_222 ?_
        refine P_iret d_Md_idle_223 rfl ?_
        first | exact R_i k (by rw [if_pos (by assumption)]) | exact R_i k (by rw [if_neg (by assumption)])
      · refine g_lload d_Md_idle_209 rfl ?_
        refine g_lload d_Md_idle_211 rfl ?_
        refine L_ldiv d_Md_idle_213 (by omega) (by omega) (by omega) ?_
        refine P_goto d_Md_idle_214 222 (by decide) ?_
        refine L_l2i d_Md_idle_222 ?_
        refine P_iret d_Md_idle_223 rfl ?_
        first | exact R_i k (by rw [if_pos (by assumption)]) | exact R_i k (by rw [if_neg (by assumption)])
    · have hb0 : b ≠ 0 := fun z => c1 ((lg0 (by omega)).mpr z)
      refine g_lload d_Md_idle_186 rfl ?_
      refine g_lload d_Md_idle_188 rfl ?_
      refine L_lrem d_Md_idle_190 (by omega) (by omega) (by omega) ?_
      refine S_lstore_15_13 d_Md_idle_191 rfl rfl ?_
      refine g_lload d_Md_idle_193 rfl ?_
      refine S_lstore_15_9 d_Md_idle_195 rfl rfl ?_
      refine g_lload d_Md_idle_197 rfl ?_
      refine S_lstore_15_11 d_Md_idle_199 rfl rfl ?_
      refine P_goto d_Md_idle_201 179 (by decide) ?_
      have hlt : a % b < b := Nat.mod_lt _ (by omega)
      exact ih (a % b) (by omega) b (a % b) _ _ hb (by omega) (by rw [← hg, Nat.gcd_comm a b, Nat.gcd_rec b a, Nat.gcd_comm]) rfl

theorem c_Md_idle {X : CX} {dl : List (Nat × Nat)} {mI : Nat → Nat → Int32} {dr : Nat → Nat → Nat} {Q : Option Value → AH → Prop} {n q m w : Int32} (k : Q (some (.int (aId n q m w))) (hp X dl mI dr)) : EW X m_Md_idle 0 (enL m_Md_idle.2.2.1 [.ref 139, .int n, .int q, .int m, .int w]) [] (hp X dl mI dr) Q := by
  show EW X m_Md_idle 0 [.ref 139, .int n, .int q, .int m, .int w, jk, jk, jk, jk, jk, jk, jk, jk, jk, jk] [] (hp X dl mI dr) Q
  refine g_iload_n d_Md_idle_0 rfl ?_
  refine P_i2l d_Md_idle_1 ?_
  refine P_lconst d_Md_idle_2 (lQ 0) rfl ?_
  refine P_ldc2 d_Md_idle_3 _ q_Md_302 ?_
  refine C_S3 d_Md_idle_6 k_Md_111 (Nat.le_of_ble_eq_true rfl) (by decide) (Nat.le_of_ble_eq_true rfl) ?_
  refine (c_Md_inN 10 rfl rfl) ?_
  refine B_eq d_Md_idle_9 47 (by decide) (fun c1 => ?_) (fun c1 => ?_)
  · refine P_bipush d_Md_idle_47 (-3) rfl ?_
    refine P_iret d_Md_idle_49 rfl ?_
    exact R_i k (by unfold aId; rw [if_pos (by first | exact Or.inl (by assumption) | exact Or.inr (Or.inl (by assumption)) | exact Or.inr (Or.inr (Or.inl (by assumption))) | exact Or.inr (Or.inr (Or.inr (by assumption))))])
  · refine g_iload_n d_Md_idle_12 rfl ?_
    refine P_i2l d_Md_idle_13 ?_
    refine P_lconst d_Md_idle_14 (lQ 0) rfl ?_
    refine P_ldc2 d_Md_idle_15 _ q_Md_304 ?_
    refine C_S3 d_Md_idle_18 k_Md_111 (Nat.le_of_ble_eq_true rfl) (by decide) (Nat.le_of_ble_eq_true rfl) ?_
    refine (c_Md_inN 11 rfl rfl) ?_
    refine B_eq d_Md_idle_21 47 (by decide) (fun c2 => ?_) (fun c2 => ?_)
    · refine P_bipush d_Md_idle_47 (-3) rfl ?_
      refine P_iret d_Md_idle_49 rfl ?_
      exact R_i k (by unfold aId; rw [if_pos (by first | exact Or.inl (by assumption) | exact Or.inr (Or.inl (by assumption)) | exact Or.inr (Or.inr (Or.inl (by assumption))) | exact Or.inr (Or.inr (Or.inr (by assumption))))])
    · refine g_iload_n d_Md_idle_24 rfl ?_
      refine P_i2l d_Md_idle_25 ?_
      refine P_lconst d_Md_idle_26 (lQ 0) rfl ?_
      refine P_ldc2 d_Md_idle_27 _ q_Md_302 ?_
      refine C_S3 d_Md_idle_30 k_Md_111 (Nat.le_of_ble_eq_true rfl) (by decide) (Nat.le_of_ble_eq_true rfl) ?_
      refine (c_Md_inN 10 rfl rfl) ?_
      refine B_eq d_Md_idle_33 47 (by decide) (fun c3 => ?_) (fun c3 => ?_)
      · refine P_bipush d_Md_idle_47 (-3) rfl ?_
        refine P_iret d_Md_idle_49 rfl ?_
        exact R_i k (by unfold aId; rw [if_pos (by first | exact Or.inl (by assumption) | exact Or.inr (Or.inl (by assumption)) | exact Or.inr (Or.inr (Or.inl (by assumption))) | exact Or.inr (Or.inr (Or.inr (by assumption))))])
      · refine g_iload d_Md_idle_36 rfl ?_
        refine P_i2l d_Md_idle_38 ?_
        refine P_lconst d_Md_idle_39 (lQ 0) rfl ?_
        refine P_lconst d_Md_idle_40 (lQ 1) rfl ?_
        refine C_S3 d_Md_idle_41 k_Md_111 (Nat.le_of_ble_eq_true rfl) (by decide) (Nat.le_of_ble_eq_true rfl) ?_
        refine (c_Md_inN 2 rfl rfl) ?_
        refine B_ne d_Md_idle_44 50 (by decide) (fun c4 => ?_) (fun c4 => ?_)
        · have h1 := c1
          have h2 := c2
          have h3 := c3
          have h4 := c4
          have e : aId n q m w = nI (idN (tN n) (tN q) (tN m) (tN w)) := by unfold aId; rw [if_neg (fun z => z.elim (fun y => y h1) (fun z => z.elim (fun y => y h2) (fun z => z.elim (fun y => y h3) (fun y => y h4))))]
          clear c1 c2 c3 c4
          obtain ⟨a, ha, rfl⟩ := inN_of h1 (by decide)
          obtain ⟨b, hb, rfl⟩ := inN_of h2 (by decide)
          obtain ⟨c, hc, rfl⟩ := inN_of h3 (by decide)
          obtain ⟨d, hd, rfl⟩ := inN_of h4 (by decide)
          rw [e, tN_nI (by omega), tN_nI (by omega), tN_nI (by omega), tN_nI (by omega)] at k
          have hul := idU_le (q := b) (by omega) a c
          have hp9 : 10 ^ a ≤ 10 ^ 9 := Nat.pow_le_pow_right (by decide) (by omega)
          have hp1 : 0 < 10 ^ a := Nat.pow_pos (by decide)
          have hg0 : 0 < Nat.gcd (idU b a c) (10 ^ a) := Nat.gcd_pos_of_pos_right _ hp1
          have hgl : Nat.gcd (idU b a c) (10 ^ a) ≤ 10 ^ a := Nat.gcd_le_right _ hp1
          refine P_lconst d_Md_idle_50 (lQ 0) rfl ?_
          refine S_lstore_15_5 d_Md_idle_51 rfl rfl ?_
          refine P_lconst d_Md_idle_53 (lQ 1) rfl ?_
          refine S_lstore_15_7 d_Md_idle_54 rfl rfl ?_
          refine N_iconst d_Md_idle_56 0 rfl ?_
          refine S_istore_15_9 d_Md_idle_57 rfl rfl ?_
          refine lp_Md_id1 (n := a) (q := b) (m := c) (pt := d) (by omega) (by omega) (by omega) (by omega) (fun v9 => ?_) _ 0 (Nat.zero_le _) rfl
          refine N_iconst d_Md_idle_79 0 rfl ?_
          refine S_istore_15_9 d_Md_idle_80 rfl rfl ?_
          refine lp_Md_id3 (n := a) (q := b) (m := c) (pt := d) (by omega) (by omega) (by omega) (by omega) (fun u9 u10 u11 u12 u13 u14 => ?_) _ 0 _ _ _ _ _ (Nat.zero_le _) rfl
          rw [up_idU]
          refine g_lload d_Md_idle_171 rfl ?_
          refine S_lstore_15_9 d_Md_idle_173 rfl rfl ?_
          refine g_lload d_Md_idle_175 rfl ?_
          refine S_lstore_15_11 d_Md_idle_177 rfl rfl ?_
          exact lp_Md_id4 (n := a) (q := b) (m := c) (pt := d) (by omega) (by omega) (by omega) (by omega) (U := idU b a c) (D := 10 ^ a) (by omega) (by omega) ⟨hg0, by omega⟩ k _ _ _ _ _ (by omega) (by omega) rfl rfl
        · refine P_bipush d_Md_idle_47 (-3) rfl ?_
          refine P_iret d_Md_idle_49 rfl ?_
          exact R_i k (by unfold aId; rw [if_pos (by first | exact Or.inl (by assumption) | exact Or.inr (Or.inl (by assumption)) | exact Or.inr (Or.inr (Or.inl (by assumption))) | exact Or.inr (Or.inr (Or.inr (by assumption))))])

