theorem lp_Md_begins1 {X : CX} {dl : List (Nat × Nat)} {mI : Nat → Nat → Int32} {dr : Nat → Nat → Nat} {Q : Option Value → AH → Prop} (k : ∀ mI' v1, (∀ j, j < 93 → mI' 140 j = nI 0) → FW 0 93 mI mI' → EW X m_Md_begins 21 [.ref 139, v1] [] (hp X dl mI' dr) Q) : ∀ (d : Nat) (i : Nat) (mI2 : Nat → Nat → Int32), (i ≤ 93) → (∀ j, j < i → mI2 140 j = nI 0) → (FW 0 93 mI mI2) → 93 - i = d → EW X m_Md_begins 2 [.ref 139, .int (nI i)] [] (hp X dl mI2 dr) Q := by
  intro d
  induction d using Nat.strongRecOn with
  | _ d ih =>
    intro i mI2 hi h1 hF hd
    refine g_iload_n d_Md_begins_2 rfl ?_
    refine N_bipush d_Md_begins_3 93 rfl ?_
    refine N_icmp_ge d_Md_begins_5 21 (by decide) ⟨by omega, by omega⟩ (fun c1 => ?_) (fun c1 => ?_)
    · exact k mI2 _ (fun j hj => h1 j (by omega)) hF
    · refine g_aload_n d_Md_begins_8 rfl ?_
      refine H_getR 140 d_Md_begins_9 f_Md_7.g rfl rfl (by decide) rfl ?_
      refine g_iload_n d_Md_begins_12 rfl ?_
      refine N_iconst d_Md_begins_13 0 rfl ?_
      refine H_iastN d_Md_begins_14 rfl rfl (by omega) (by decide) ?_
      refine N_iinc_2_1_1 d_Md_begins_15 rfl rfl ?_
      refine P_goto d_Md_begins_18 2 (by decide) ?_
      refine ih (93 - (i + 1)) (by omega) (i + 1) _ (by omega) (fun j hj => ?_) (FW_sI hF (by omega)) rfl
      by_cases z : j = i
      · rw [z]; exact sI_s _ _ _ _
      · rw [sI_n (fun y => z y.2)]; exact h1 j (by omega)

theorem TM.w {T : TD} {lo hi : Nat} {mI mI' : Nat → Nat → Int32} (h : TM 3 7 142 T mI) (hF : FW lo hi mI mI') : TM 3 7 142 T mI' := h.to (congrFun (hF.1 139 (by omega)) 3) (congrFun (hF.1 139 (by omega)) 7) (fun q z1 z2 => hF.1 q (by omega))
theorem lp_Md_begins2 {X : CX} {dl : List (Nat × Nat)} {mI : Nat → Nat → Int32} {dr : Nat → Nat → Nat} {Q : Option Value → AH → Prop} {T : TD} (hw : TW T) (hT : TM 3 7 142 T mI) (k : ∀ mI' v1, (∀ j, j < tn T → mI' 140 (1 + j) = nI (tsp T j)) → (∀ j, j < 93 → ¬ (1 ≤ j ∧ j < 1 + tn T) → mI' 140 j = nI 0) → FW 0 93 mI mI' → EW X m_Md_begins 51 [.ref 139, v1] [] (hp X dl mI' dr) Q) : ∀ (d : Nat) (i : Nat) (mI2 : Nat → Nat → Int32), (i ≤ tn T) → (∀ j, j < i → mI2 140 (1 + j) = nI (tsp T j)) → (∀ j, j < 93 → ¬ (1 ≤ j ∧ j < 1 + i) → mI2 140 j = nI 0) → (FW 0 93 mI mI2) → tn T - i = d → EW X m_Md_begins 23 [.ref 139, .int (nI i)] [] (hp X dl mI2 dr) Q := by
  intro d
  induction d using Nat.strongRecOn with
  | _ d ih =>
    intro i mI2 hi h1 h2 hF hd
    have hw1 := hw.1
    have hw2 := hw.2.1
    have hT2 := hT.w hF
    refine g_iload_n d_Md_begins_23 rfl ?_
    refine g_aload_n d_Md_begins_24 rfl ?_
    refine H_getI d_Md_begins_25 f_Md_107.g rfl rfl (by decide) ?_
    refine T_int (nI (tn T)) hT2.1 ?_
    refine N_icmp_ge d_Md_begins_28 51 (by decide) ⟨by omega, by omega⟩ (fun c1 => ?_) (fun c1 => ?_)
    · have e : i = tn T := by omega
      subst e
      exact k mI2 _ h1 h2 hF
    · refine g_aload_n d_Md_begins_31 rfl ?_
      refine H_getR 140 d_Md_begins_32 f_Md_7.g rfl rfl (by decide) rfl ?_
      refine N_iconst d_Md_begins_35 1 rfl ?_
      refine g_iload_n d_Md_begins_36 rfl ?_
      refine N_iadd d_Md_begins_37 ?_
      refine g_aload_n d_Md_begins_38 rfl ?_
      refine H_getR 143 d_Md_begins_39 f_Md_20.g rfl rfl (by decide) rfl ?_
      refine g_iload_n d_Md_begins_42 rfl ?_
      refine H_ialdN d_Md_begins_43 rfl rfl (by omega) (by decide) ?_
      refine T_int (nI (tsp T i)) (hT2.2.2.1 i (by omega)).2.1 ?_
      refine H_iastN d_Md_begins_44 rfl rfl (by omega) (by decide) ?_
      refine N_iinc_2_1_1 d_Md_begins_45 rfl rfl ?_
      refine P_goto d_Md_begins_48 23 (by decide) ?_
      refine ih (tn T - (i + 1)) (by omega) (i + 1) _ (by omega) (fun j hj => ?_) (fun j z1 z2 => by rw [sI_n (by omega)]; exact h2 j z1 (by omega)) (FW_sI hF (by omega)) rfl
      by_cases z : j = i
      · rw [z]; exact sI_s _ _ _ _
      · rw [sI_n (by omega)]; exact h1 j (by omega)

theorem rg_s (f : Nat → Bool) (p : Nat) : (List.range (p + 1)).filter f = (List.range p).filter f ++ (if f p = true then [p] else []) := by
  rw [List.range_succ, List.filter_append]
  by_cases h : f p = true
  · rw [if_pos h, List.filter_cons_of_pos h]; rfl
  · rw [if_neg h, List.filter_cons_of_neg h]; rfl
theorem rg_len (f : Nat → Bool) (p : Nat) : ((List.range p).filter f).length ≤ p := by
  have := List.length_filter_le f (List.range p)
  rw [List.length_range] at this; exact this
theorem lp_Md_begins3 {X : CX} {dl : List (Nat × Nat)} {mI : Nat → Nat → Int32} {dr : Nat → Nat → Nat} {Q : Option Value → AH → Prop} {T : TD} (hw : TW T) (hT : TM 3 7 142 T mI) (k : ∀ mI', SM 0 T (s0 T) (KO T (s0 T)) mI' → FW 0 93 mI mI' → Q none (hp X dl mI' dr)) : ∀ (d : Nat) (p : Nat) (mI2 : Nat → Nat → Int32), (p ≤ tP T) → (∀ j, j < tn T → mI2 140 (1 + j) = nI (tsp T j)) → (∀ q, q < p → mI2 140 (6 + q) = nI (twk T q)) → (∀ j, j < 93 → (j = 0 ∨ (16 ≤ j ∧ j < 27)) → mI2 140 j = nI 0) → (LL 0 (fun u => (List.range p).filter (fun q => decide (thd T q = u))) mI2) → (FW 0 93 mI mI2) → tP T - p = d → EW X m_Md_begins 53 [.ref 139, .int (nI p)] [] (hp X dl mI2 dr) Q := by
  intro d
  induction d using Nat.strongRecOn with
  | _ d ih =>
    intro p mI2 hp1 h1 h2 h3 hL hF hd
    have hw1 := hw.1
    have hw2 := hw.2.1
    have hT2 := hT.w hF
    refine g_iload_n d_Md_begins_53 rfl ?_
    refine g_aload_n d_Md_begins_54 rfl ?_
    refine H_getI d_Md_begins_55 f_Md_115.g rfl rfl (by decide) ?_
    refine T_int (nI (tP T)) hT2.2.1 ?_
    refine N_icmp_ge d_Md_begins_58 94 (by decide) ⟨by omega, by omega⟩ (fun c1 => ?_) (fun c1 => ?_)
    · refine P_vret d_Md_begins_94 rfl ?_
      have e : p = tP T := by omega
      subst e
      refine k mI2 (SM_of (h3 0 (by omega) (by omega)) ?_ (fun i hi => ?_) (fun q hq => ⟨?_, ?_⟩) hL (fun u _ => rfl)) hF
      · rw [show KO T (s0 T) = 0 from kB_none _ _ (fun q hq => by have := (hw.2.2.2 q hq).2.2.2.2.1; show thd T q ≠ 6; omega)]; exact h3 _ (by omega) (by omega)
      · rw [Nat.zero_add]; exact h1 i hi
      · rw [Nat.zero_add]; exact h2 q hq
      · exact h3 _ (by omega) (by omega)
    · have hpp : p < tP T := by omega
      have hhd := (hw.2.2.2 p hpp).2.2.2.2.1
      refine g_aload_n d_Md_begins_61 rfl ?_
      refine H_getR 140 d_Md_begins_62 f_Md_7.g rfl rfl (by decide) rfl ?_
      refine N_bipush d_Md_begins_65 6 rfl ?_
      refine g_iload_n d_Md_begins_67 rfl ?_
      refine N_iadd d_Md_begins_68 ?_
      refine g_aload_n d_Md_begins_69 rfl ?_
      refine H_getR 146 d_Md_begins_70 f_Md_29.g rfl rfl (by decide) rfl ?_
      refine g_iload_n d_Md_begins_73 rfl ?_
      refine H_ialdN d_Md_begins_74 rfl rfl (by omega) (by decide) ?_
      refine T_int (nI (twk T p)) (hT2.2.2.2.1 p hpp).2.1 ?_
      refine H_iastN d_Md_begins_75 rfl rfl (by omega) (by decide) ?_
      refine g_aload_n d_Md_begins_76 rfl ?_
      refine N_iconst d_Md_begins_77 0 rfl ?_
      refine g_iload_n d_Md_begins_78 rfl ?_
      refine g_aload_n d_Md_begins_79 rfl ?_
      refine H_getR 148 d_Md_begins_80 f_Md_35.g rfl rfl (by decide) rfl ?_
      refine g_iload_n d_Md_begins_83 rfl ?_
      refine H_ialdN d_Md_begins_84 rfl rfl (by omega) (by decide) ?_
      refine T_int (nI (thd T p)) (by rw [sI_r (by omega)]; exact (hT2.2.2.2.1 p hpp).2.2.2.1) ?_
      refine C_V3 d_Md_begins_85 k_Md_219 rfl (Nat.le_of_ble_eq_true rfl) (by decide) (Nat.le_of_ble_eq_true rfl) ?_
      refine c_Md_joins (r := 0) (m := thd T p) (p := p) (by omega) (by omega) (hL.to (fun j z1 z2 => sI_n (by omega))) (show ((List.range p).filter (fun q => decide (thd T q = thd T p))).length < 10 by have := rg_len (fun q => decide (thd T q = thd T p)) p; omega) (fun mI3 hL3 hF3 => ?_)
      refine N_iinc_2_1_1 d_Md_begins_88 rfl rfl ?_
      refine P_goto d_Md_begins_91 53 (by decide) ?_
      refine ih (tP T - (p + 1)) (by omega) (p + 1) mI3 (by omega) (fun j hj => by rw [hF3.2 _ (by omega), sI_n (by omega)]; exact h1 j hj) (fun q hq => ?_) (fun j z1 z2 => by rw [hF3.2 _ (by omega), sI_n (by omega)]; exact h3 j z1 z2) (hL3.cg (fun u _ => ?_)) ((FW_sI hF (by omega)).tr (hF3.mo (by omega) (by omega))) rfl
      · rw [hF3.2 _ (by omega)]
        by_cases z : q = p
        · rw [z]; exact sI_s _ _ _ _
        · rw [sI_n (by omega)]; exact h2 q (by omega)
      · show (List.range (p + 1)).filter _ = _
        rw [rg_s]
        by_cases z : u = thd T p
        · rw [z, va_up_s, if_pos (by simp)]
        · rw [va_up_n _ _ z, if_neg (by simp; exact fun y => z y.symm), List.append_nil]

theorem c_Md_begins {X : CX} {dl : List (Nat × Nat)} {mI : Nat → Nat → Int32} {dr : Nat → Nat → Nat} {Q : Option Value → AH → Prop} {T : TD} (hw : TW T) (hT : TM 3 7 142 T mI) (k : ∀ mI', SM 0 T (s0 T) (KO T (s0 T)) mI' → FW 0 93 mI mI' → Q none (hp X dl mI' dr)) : EW X m_Md_begins 0 (enL m_Md_begins.2.2.1 [.ref 139]) [] (hp X dl mI dr) Q := by
  show EW X m_Md_begins 0 [.ref 139, jk] [] (hp X dl mI dr) Q
  have hw1 := hw.1
  have hw2 := hw.2.1
  refine N_iconst d_Md_begins_0 0 rfl ?_
  refine S_istore_n_2_1 d_Md_begins_1 rfl rfl ?_
  refine lp_Md_begins1 (fun mI1 v1 g1 hF1 => ?_) _ 0 mI (Nat.zero_le _) (fun j hj => absurd hj (Nat.not_lt_zero _)) FW.rf rfl
  refine N_iconst d_Md_begins_21 0 rfl ?_
  refine S_istore_n_2_1 d_Md_begins_22 rfl rfl ?_
  refine lp_Md_begins2 hw (hT.w hF1) (fun mI2 v2 g2 g3 hF2 => ?_) _ 0 mI1 (Nat.zero_le _) (fun j hj => absurd hj (Nat.not_lt_zero _)) (fun j hj _ => g1 j hj) FW.rf rfl
  refine N_iconst d_Md_begins_51 0 rfl ?_
  refine S_istore_n_2_1 d_Md_begins_52 rfl rfl ?_
  refine lp_Md_begins3 hw ((hT.w hF1).w hF2) (fun mI3 hS3 hF3 => k mI3 hS3 ((hF1.tr hF2).tr hF3)) _ 0 mI2 (Nat.zero_le _) g2 (fun q hq => absurd hq (Nat.not_lt_zero _)) (fun j z1 z2 => g3 j z1 (by omega)) (fun m hm => ⟨?_, Nat.zero_le _, fun k hk => absurd hk (Nat.not_lt_zero _)⟩) FW.rf rfl
  exact g3 _ (by omega) (by omega)

