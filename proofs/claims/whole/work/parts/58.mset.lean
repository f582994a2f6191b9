def nvM (T : TD) (K m : Nat) : Nat := (List.range m).foldl (nv1 T K) 0
theorem nvM_s (T : TD) (K m : Nat) : nvM T K (m + 1) = nv1 T K (nvM T K m) m := by unfold nvM; rw [List.range_succ, List.foldl_append]; rfl
theorem nvM_lt (T : TD) (K : Nat) : ∀ m, nvM T K m < 2 ^ m
  | 0 => show 0 < 2 ^ 0 by decide
  | m + 1 => by
    have ih := nvM_lt T K m
    rw [nvM_s, nv1]
    have h2 : nvM T K m < 2 ^ (m + 1) := by rw [Nat.pow_succ]; omega
    split
    · have := or_lt h2 (show m < m + 1 by omega)
      rw [Nat.one_mul] at this; exact this
    · exact h2
theorem nvM_bit (T : TD) (K : Nat) : ∀ n m j, j < m → (nvM T K (m + n)).testBit j = (nvM T K m).testBit j
  | 0, _, _, _ => rfl
  | n + 1, m, j, h => by
    rw [← nvM_bit T K n m j h, ← Nat.add_assoc, nvM_s, nv1]
    split
    · rw [Nat.testBit_or, Nat.testBit_two_pow]
      have : ¬ m + n = j := by omega
      simp [this]
    · rfl
theorem and_low {a s t p : Nat} (ha : a < 2 ^ p) (h : ∀ j, j < p → s.testBit j = t.testBit j) : a &&& s = a &&& t := by
  refine Nat.eq_of_testBit_eq (fun i => ?_)
  rw [Nat.testBit_and, Nat.testBit_and]
  by_cases hi : i < p
  · rw [h i hi]
  · have : a.testBit i = false := Nat.testBit_lt_two_pow (Nat.lt_of_lt_of_le ha (Nat.pow_le_pow_right (by decide) (by omega)))
    rw [this]; rfl
theorem nv_fix {T : TD} (hw : TW T) (K : Nat) {p : Nat} (hp1 : p < tP T) (h1 : K.testBit p = false) (h2 : tkd T p = 4 ∨ (tkd T p ≤ 2 ∧ tnd T p &&& nvM T K (tP T) ≠ 0)) : (nvM T K (tP T)).testBit p = true := by
  have e := fun (m : Nat) (hm : m ≤ tP T) (j : Nat) (hj : j < m) => nvM_bit T K (tP T - m) m j hj
  have e1 : (nvM T K (tP T)).testBit p = (nvM T K (p + 1)).testBit p := by
    have := e (p + 1) (by omega) p (by omega)
    rw [show p + 1 + (tP T - (p + 1)) = tP T by omega] at this; exact this
  have e2 : tnd T p &&& nvM T K (tP T) = tnd T p &&& nvM T K p := and_low (hw.2.2.2 p hp1).2.2.2.1 (fun j hj => by
    have := e p (by omega) j hj
    rw [show p + (tP T - p) = tP T by omega] at this; exact this)
  rw [e2] at h2
  rw [e1, nvM_s, nv1, if_pos ⟨h1, h2⟩, Nat.testBit_or, Nat.testBit_two_pow]
  simp
theorem lp_Md_stuckA {X : CX} {dl : List (Nat × Nat)} {mI : Nat → Nat → Int32} {dr : Nat → Nat → Nat} {Q : Option Value → AH → Prop} {T : TD} (hw : TW T) (hT : TM 3 7 142 T mI) {σ : AS} (hS : SM 0 T σ (KO T σ) mI)  (k : ∀ (mr : Nat) v3 v4, mr ≤ 1 → EW X m_Md_stuck 4 [.ref 139, .int (nI (nvM T (KO T σ) (tP T))), .int (nI mr), v3, v4] [] (hp X dl mI dr) Q) : ∀ (d : Nat) (p : Nat) (mr : Nat) (v4 : Value), (p ≤ tP T) → (mr ≤ 1) → tP T - p = d → EW X m_Md_stuck 12 [.ref 139, .int (nI (nvM T (KO T σ) p)), .int (nI mr), .int (nI p), v4] [] (hp X dl mI dr) Q := by
  intro d
  induction d using Nat.strongRecOn with
  | _ d ih =>
    intro p mr v4 hp1 hmr hd
    have hw1 := hw.1
    have hw2 := hw.2.1
    have hs10 : (nvM T (KO T σ) p) < 2 ^ 10 := Nat.lt_of_lt_of_le (nvM_lt T (KO T σ) p) (Nat.pow_le_pow_right (by decide) (by omega))
    refine g_iload_n d_Md_stuck_12 rfl ?_
    refine g_aload_n d_Md_stuck_13 rfl ?_
    refine H_getI d_Md_stuck_14 f_Md_115.g rfl rfl (by decide) ?_
    refine T_int (nI (tP T)) hT.2.1 ?_
    refine N_icmp_ge d_Md_stuck_17 99 (by decide) ⟨by omega, by omega⟩ (fun c1 => ?_) (fun c1 => ?_)
    · refine P_goto d_Md_stuck_99 4 (by decide) ?_
      have ep : p = tP T := by omega
      subst ep
      exact k mr _ _ hmr
    · have hpp : p < tP T := by omega
      have hkd := (hw.2.2.2 p hpp).1
      have hn31 := tnd_lt hw hpp
      have hal : tnd T p &&& (nvM T (KO T σ) p) ≤ (nvM T (KO T σ) p) := Nat.and_le_right
      refine g_aload_n d_Md_stuck_20 rfl ?_
      refine H_getR 145 d_Md_stuck_21 f_Md_26.g rfl rfl (by decide) rfl ?_
      refine g_iload_n d_Md_stuck_24 rfl ?_
      refine H_ialdN d_Md_stuck_25 rfl rfl (by omega) (by decide) ?_
      refine T_int (nI (tkd T p)) (hT.2.2.2.1 p hpp).1 ?_
      refine N_iconst d_Md_stuck_26 4 rfl ?_
      refine N_icmp_eq d_Md_stuck_27 51 (by decide) ⟨by omega, by omega⟩ (fun c2 => ?_) (fun c2 => ?_)
      · refine N_iconst d_Md_stuck_51 1 rfl ?_
        refine P_goto d_Md_stuck_52 56 (by decide) ?_
        refine S_istore_5_4 d_Md_stuck_56 rfl rfl ?_
        refine g_iload d_Md_stuck_58 rfl ?_
        refine N_if_eq d_Md_stuck_60 93 (by decide) (by omega) (fun c3 => ?_) (fun c3 => ?_)
        · refine N_iinc_5_3_1 d_Md_stuck_93 rfl rfl ?_
          refine P_goto d_Md_stuck_96 12 (by decide) ?_
          first
          | omega
          | exact absurd (show (nvM T (KO T σ) p).testBit p = true by assumption) (by rw [Nat.testBit_lt_two_pow (nvM_lt T (KO T σ) p)]; decide)
          | (have e : nvM T (KO T σ) (p + 1) = nvM T (KO T σ) p := by
               rw [nvM_s, nv1]
               refine if_neg (fun z => ?_)
               have z1 := z.1
               have z2 := z.2
               first
                 | omega
                 | (have y : (KO T σ).testBit p = true := by assumption
                    rw [y] at z1; cases z1)
                 | (rcases z2 with z2 | z2
                    · exact absurd z2 (by assumption)
                    · exact z2.2 (by assumption))
             have g := ih (tP T - (p + 1)) (by omega) (p + 1) mr (.int (nI 0)) (by omega) hmr rfl
             rw [e] at g
             exact g)
          | (have e : nvM T (KO T σ) (p + 1) = nvM T (KO T σ) p := by
               rw [nvM_s, nv1]
               refine if_neg (fun z => ?_)
               have z1 := z.1
               have y : (KO T σ).testBit p = true := by assumption
               rw [y] at z1; cases z1
             have g := ih (tP T - (p + 1)) (by omega) (p + 1) mr (.int (nI 1)) (by omega) hmr rfl
             rw [e] at g
             exact g)
          | (have e : nvM T (KO T σ) (p + 1) = nvM T (KO T σ) p ||| 1 * 2 ^ p := by
               rw [nvM_s, nv1, Nat.one_mul]
               refine if_pos ⟨?_, ?_⟩
               · rw [← Bool.not_eq_true]; assumption
               · first | exact Or.inl (by assumption) | exact Or.inr ⟨by omega, by assumption⟩
             have g := ih (tP T - (p + 1)) (by omega) (p + 1) 1 (.int (nI 1)) (by omega) (by omega) rfl
             rw [e] at g
             exact g)
        · refine g_aload_n d_Md_stuck_63 rfl ?_
          refine H_getR 140 d_Md_stuck_64 f_Md_7.g rfl rfl (by decide) rfl ?_
          refine N_bipush d_Md_stuck_67 26 rfl ?_
          refine H_ialdN d_Md_stuck_69 rfl rfl (by omega) (by decide) ?_
          refine T_int (nI (KO T σ)) hS.2.1 ?_
          refine g_iload_n d_Md_stuck_70 rfl ?_
          refine C_S2 d_Md_stuck_71 k_Md_236 (Nat.le_of_ble_eq_true rfl) (by decide) (Nat.le_of_ble_eq_true rfl) ?_
          refine (c_Md_has (kB_31 hw (aH σ)) (by omega)) ?_
          refine B_ne d_Md_stuck_74 93 (by decide) (fun c4 => ?_) (fun c4 => ?_)
          · refine N_iinc_5_3_1 d_Md_stuck_93 rfl rfl ?_
            refine P_goto d_Md_stuck_96 12 (by decide) ?_
            first
            | omega
            | exact absurd (show (nvM T (KO T σ) p).testBit p = true by assumption) (by rw [Nat.testBit_lt_two_pow (nvM_lt T (KO T σ) p)]; decide)
            | (have e : nvM T (KO T σ) (p + 1) = nvM T (KO T σ) p := by
                 rw [nvM_s, nv1]
                 refine if_neg (fun z => ?_)
                 have z1 := z.1
                 have z2 := z.2
                 first
                   | omega
                   | (have y : (KO T σ).testBit p = true := by assumption
                      rw [y] at z1; cases z1)
                   | (rcases z2 with z2 | z2
                      · exact absurd z2 (by assumption)
                      · exact z2.2 (by assumption))
               have g := ih (tP T - (p + 1)) (by omega) (p + 1) mr (.int (nI 0)) (by omega) hmr rfl
               rw [e] at g
               exact g)
            | (have e : nvM T (KO T σ) (p + 1) = nvM T (KO T σ) p := by
                 rw [nvM_s, nv1]
                 refine if_neg (fun z => ?_)
                 have z1 := z.1
                 have y : (KO T σ).testBit p = true := by assumption
                 rw [y] at z1; cases z1
               have g := ih (tP T - (p + 1)) (by omega) (p + 1) mr (.int (nI 1)) (by omega) hmr rfl
               rw [e] at g
               exact g)
            | (have e : nvM T (KO T σ) (p + 1) = nvM T (KO T σ) p ||| 1 * 2 ^ p := by
                 rw [nvM_s, nv1, Nat.one_mul]
                 refine if_pos ⟨?_, ?_⟩
                 · rw [← Bool.not_eq_true]; assumption
                 · first | exact Or.inl (by assumption) | exact Or.inr ⟨by omega, by assumption⟩
               have g := ih (tP T - (p + 1)) (by omega) (p + 1) 1 (.int (nI 1)) (by omega) (by omega) rfl
               rw [e] at g
               exact g)
          · refine g_iload_n d_Md_stuck_77 rfl ?_
            refine g_iload_n d_Md_stuck_78 rfl ?_
            refine C_S2 d_Md_stuck_79 k_Md_236 (Nat.le_of_ble_eq_true rfl) (by decide) (Nat.le_of_ble_eq_true rfl) ?_
            refine (c_Md_has (by omega) (by omega)) ?_
            refine B_ne d_Md_stuck_82 93 (by decide) (fun c5 => ?_) (fun c5 => ?_)
            · refine N_iinc_5_3_1 d_Md_stuck_93 rfl rfl ?_
              refine P_goto d_Md_stuck_96 12 (by decide) ?_
              first
              | omega
              | exact absurd (show (nvM T (KO T σ) p).testBit p = true by assumption) (by rw [Nat.testBit_lt_two_pow (nvM_lt T (KO T σ) p)]; decide)
              | (have e : nvM T (KO T σ) (p + 1) = nvM T (KO T σ) p := by
                   rw [nvM_s, nv1]
                   refine if_neg (fun z => ?_)
                   have z1 := z.1
                   have z2 := z.2
                   first
                     | omega
                     | (have y : (KO T σ).testBit p = true := by assumption
                        rw [y] at z1; cases z1)
                     | (rcases z2 with z2 | z2
                        · exact absurd z2 (by assumption)
                        · exact z2.2 (by assumption))
                 have g := ih (tP T - (p + 1)) (by omega) (p + 1) mr (.int (nI 0)) (by omega) hmr rfl
                 rw [e] at g
                 exact g)
              | (have e : nvM T (KO T σ) (p + 1) = nvM T (KO T σ) p := by
                   rw [nvM_s, nv1]
                   refine if_neg (fun z => ?_)
                   have z1 := z.1
                   have y : (KO T σ).testBit p = true := by assumption
                   rw [y] at z1; cases z1
                 have g := ih (tP T - (p + 1)) (by omega) (p + 1) mr (.int (nI 1)) (by omega) hmr rfl
                 rw [e] at g
                 exact g)
              | (have e : nvM T (KO T σ) (p + 1) = nvM T (KO T σ) p ||| 1 * 2 ^ p := by
                   rw [nvM_s, nv1, Nat.one_mul]
                   refine if_pos ⟨?_, ?_⟩
                   · rw [← Bool.not_eq_true]; assumption
                   · first | exact Or.inl (by assumption) | exact Or.inr ⟨by omega, by assumption⟩
                 have g := ih (tP T - (p + 1)) (by omega) (p + 1) 1 (.int (nI 1)) (by omega) (by omega) rfl
                 rw [e] at g
                 exact g)
            · refine g_iload_n d_Md_stuck_85 rfl ?_
              refine N_iconst d_Md_stuck_86 1 rfl ?_
              refine g_iload_n d_Md_stuck_87 rfl ?_
              refine N_ishl d_Md_stuck_88 (by omega) (p2_lt (by omega)) ?_
              refine N_ior d_Md_stuck_89 ?_
              refine S_istore_n_5_1 d_Md_stuck_90 rfl rfl ?_
              refine N_iconst d_Md_stuck_91 1 rfl ?_
              refine S_istore_n_5_2 d_Md_stuck_92 rfl rfl ?_
              refine N_iinc_5_3_1 d_Md_stuck_93 rfl rfl ?_
              refine P_goto d_Md_stuck_96 12 (by decide) ?_
              first
              | omega
              | exact absurd (show (nvM T (KO T σ) p).testBit p = true by assumption) (by rw [Nat.testBit_lt_two_pow (nvM_lt T (KO T σ) p)]; decide)
              | (have e : nvM T (KO T σ) (p + 1) = nvM T (KO T σ) p := by
                   rw [nvM_s, nv1]
                   refine if_neg (fun z => ?_)
                   have z1 := z.1
                   have z2 := z.2
                   first
                     | omega
                     | (have y : (KO T σ).testBit p = true := by assumption
                        rw [y] at z1; cases z1)
                     | (rcases z2 with z2 | z2
                        · exact absurd z2 (by assumption)
                        · exact z2.2 (by assumption))
                 have g := ih (tP T - (p + 1)) (by omega) (p + 1) mr (.int (nI 0)) (by omega) hmr rfl
                 rw [e] at g
                 exact g)
              | (have e : nvM T (KO T σ) (p + 1) = nvM T (KO T σ) p := by
                   rw [nvM_s, nv1]
                   refine if_neg (fun z => ?_)
                   have z1 := z.1
                   have y : (KO T σ).testBit p = true := by assumption
                   rw [y] at z1; cases z1
                 have g := ih (tP T - (p + 1)) (by omega) (p + 1) mr (.int (nI 1)) (by omega) hmr rfl
                 rw [e] at g
                 exact g)
              | (have e : nvM T (KO T σ) (p + 1) = nvM T (KO T σ) p ||| 1 * 2 ^ p := by
                   rw [nvM_s, nv1, Nat.one_mul]
                   refine if_pos ⟨?_, ?_⟩
                   · rw [← Bool.not_eq_true]; assumption
                   · first | exact Or.inl (by assumption) | exact Or.inr ⟨by omega, by assumption⟩
                 have g := ih (tP T - (p + 1)) (by omega) (p + 1) 1 (.int (nI 1)) (by omega) (by omega) rfl
                 rw [e] at g
                 exact g)
      · refine g_aload_n d_Md_stuck_30 rfl ?_
        refine H_getR 145 d_Md_stuck_31 f_Md_26.g rfl rfl (by decide) rfl ?_
        refine g_iload_n d_Md_stuck_34 rfl ?_
        refine H_ialdN d_Md_stuck_35 rfl rfl (by omega) (by decide) ?_
        refine T_int (nI (tkd T p)) (hT.2.2.2.1 p hpp).1 ?_
        refine N_iconst d_Md_stuck_36 2 rfl ?_
        refine N_icmp_gt d_Md_stuck_37 55 (by decide) ⟨by omega, by omega⟩ (fun c6 => ?_) (fun c6 => ?_)
        · refine N_iconst d_Md_stuck_55 0 rfl ?_
          refine S_istore_5_4 d_Md_stuck_56 rfl rfl ?_
          refine g_iload d_Md_stuck_58 rfl ?_
          refine N_if_eq d_Md_stuck_60 93 (by decide) (by omega) (fun c7 => ?_) (fun c7 => ?_)
          · refine N_iinc_5_3_1 d_Md_stuck_93 rfl rfl ?_
            refine P_goto d_Md_stuck_96 12 (by decide) ?_
            first
            | omega
            | exact absurd (show (nvM T (KO T σ) p).testBit p = true by assumption) (by rw [Nat.testBit_lt_two_pow (nvM_lt T (KO T σ) p)]; decide)
            | (have e : nvM T (KO T σ) (p + 1) = nvM T (KO T σ) p := by
                 rw [nvM_s, nv1]
                 refine if_neg (fun z => ?_)
                 have z1 := z.1
                 have z2 := z.2
                 first
                   | omega
                   | (have y : (KO T σ).testBit p = true := by assumption
                      rw [y] at z1; cases z1)
                   | (rcases z2 with z2 | z2
                      · exact absurd z2 (by assumption)
                      · exact z2.2 (by assumption))
               have g := ih (tP T - (p + 1)) (by omega) (p + 1) mr (.int (nI 0)) (by omega) hmr rfl
               rw [e] at g
               exact g)
            | (have e : nvM T (KO T σ) (p + 1) = nvM T (KO T σ) p := by
                 rw [nvM_s, nv1]
                 refine if_neg (fun z => ?_)
                 have z1 := z.1
                 have y : (KO T σ).testBit p = true := by assumption
                 rw [y] at z1; cases z1
               have g := ih (tP T - (p + 1)) (by omega) (p + 1) mr (.int (nI 1)) (by omega) hmr rfl
               rw [e] at g
               exact g)
            | (have e : nvM T (KO T σ) (p + 1) = nvM T (KO T σ) p ||| 1 * 2 ^ p := by
                 rw [nvM_s, nv1, Nat.one_mul]
                 refine if_pos ⟨?_, ?_⟩
                 · rw [← Bool.not_eq_true]; assumption
                 · first | exact Or.inl (by assumption) | exact Or.inr ⟨by omega, by assumption⟩
               have g := ih (tP T - (p + 1)) (by omega) (p + 1) 1 (.int (nI 1)) (by omega) (by omega) rfl
               rw [e] at g
               exact g)
          · refine g_aload_n d_Md_stuck_63 rfl ?_
            refine H_getR 140 d_Md_stuck_64 f_Md_7.g rfl rfl (by decide) rfl ?_
            refine N_bipush d_Md_stuck_67 26 rfl ?_
            refine H_ialdN d_Md_stuck_69 rfl rfl (by omega) (by decide) ?_
            refine T_int (nI (KO T σ)) hS.2.1 ?_
            refine g_iload_n d_Md_stuck_70 rfl ?_
            refine C_S2 d_Md_stuck_71 k_Md_236 (Nat.le_of_ble_eq_true rfl) (by decide) (Nat.le_of_ble_eq_true rfl) ?_
            refine (c_Md_has (kB_31 hw (aH σ)) (by omega)) ?_
            refine B_ne d_Md_stuck_74 93 (by decide) (fun c8 => ?_) (fun c8 => ?_)
            · refine N_iinc_5_3_1 d_Md_stuck_93 rfl rfl ?_
              refine P_goto d_Md_stuck_96 12 (by decide) ?_
              first
              | omega
              | exact absurd (show (nvM T (KO T σ) p).testBit p = true by assumption) (by rw [Nat.testBit_lt_two_pow (nvM_lt T (KO T σ) p)]; decide)
              | (have e : nvM T (KO T σ) (p + 1) = nvM T (KO T σ) p := by
                   rw [nvM_s, nv1]
                   refine if_neg (fun z => ?_)
                   have z1 := z.1
                   have z2 := z.2
                   first
                     | omega
                     | (have y : (KO T σ).testBit p = true := by assumption
                        rw [y] at z1; cases z1)
                     | (rcases z2 with z2 | z2
                        · exact absurd z2 (by assumption)
                        · exact z2.2 (by assumption))
                 have g := ih (tP T - (p + 1)) (by omega) (p + 1) mr (.int (nI 0)) (by omega) hmr rfl
                 rw [e] at g
                 exact g)
              | (have e : nvM T (KO T σ) (p + 1) = nvM T (KO T σ) p := by
                   rw [nvM_s, nv1]
                   refine if_neg (fun z => ?_)
                   have z1 := z.1
                   have y : (KO T σ).testBit p = true := by assumption
                   rw [y] at z1; cases z1
                 have g := ih (tP T - (p + 1)) (by omega) (p + 1) mr (.int (nI 1)) (by omega) hmr rfl
                 rw [e] at g
                 exact g)
              | (have e : nvM T (KO T σ) (p + 1) = nvM T (KO T σ) p ||| 1 * 2 ^ p := by
                   rw [nvM_s, nv1, Nat.one_mul]
                   refine if_pos ⟨?_, ?_⟩
                   · rw [← Bool.not_eq_true]; assumption
                   · first | exact Or.inl (by assumption) | exact Or.inr ⟨by omega, by assumption⟩
                 have g := ih (tP T - (p + 1)) (by omega) (p + 1) 1 (.int (nI 1)) (by omega) (by omega) rfl
                 rw [e] at g
                 exact g)
            · refine g_iload_n d_Md_stuck_77 rfl ?_
              refine g_iload_n d_Md_stuck_78 rfl ?_
              refine C_S2 d_Md_stuck_79 k_Md_236 (Nat.le_of_ble_eq_true rfl) (by decide) (Nat.le_of_ble_eq_true rfl) ?_
              refine (c_Md_has (by omega) (by omega)) ?_
              refine B_ne d_Md_stuck_82 93 (by decide) (fun c9 => ?_) (fun c9 => ?_)
              · refine N_iinc_5_3_1 d_Md_stuck_93 rfl rfl ?_
                refine P_goto d_Md_stuck_96 12 (by decide) ?_
                first
                | omega
                | exact absurd (show (nvM T (KO T σ) p).testBit p = true by assumption) (by rw [Nat.testBit_lt_two_pow (nvM_lt T (KO T σ) p)]; decide)
                | (have e : nvM T (KO T σ) (p + 1) = nvM T (KO T σ) p := by
                     rw [nvM_s, nv1]
                     refine if_neg (fun z => ?_)
                     have z1 := z.1
                     have z2 := z.2
                     first
                       | omega
                       | (have y : (KO T σ).testBit p = true := by assumption
                          rw [y] at z1; cases z1)
                       | (rcases z2 with z2 | z2
                          · exact absurd z2 (by assumption)
                          · exact z2.2 (by assumption))
                   have g := ih (tP T - (p + 1)) (by omega) (p + 1) mr (.int (nI 0)) (by omega) hmr rfl
                   rw [e] at g
                   exact g)
                | (have e : nvM T (KO T σ) (p + 1) = nvM T (KO T σ) p := by
                     rw [nvM_s, nv1]
                     refine if_neg (fun z => ?_)
                     have z1 := z.1
                     have y : (KO T σ).testBit p = true := by assumption
                     rw [y] at z1; cases z1
                   have g := ih (tP T - (p + 1)) (by omega) (p + 1) mr (.int (nI 1)) (by omega) hmr rfl
                   rw [e] at g
                   exact g)
                | (have e : nvM T (KO T σ) (p + 1) = nvM T (KO T σ) p ||| 1 * 2 ^ p := by
                     rw [nvM_s, nv1, Nat.one_mul]
                     refine if_pos ⟨?_, ?_⟩
                     · rw [← Bool.not_eq_true]; assumption
                     · first | exact Or.inl (by assumption) | exact Or.inr ⟨by omega, by assumption⟩
                   have g := ih (tP T - (p + 1)) (by omega) (p + 1) 1 (.int (nI 1)) (by omega) (by omega) rfl
                   rw [e] at g
                   exact g)
              · refine g_iload_n d_Md_stuck_85 rfl ?_
                refine N_iconst d_Md_stuck_86 1 rfl ?_
                refine g_iload_n d_Md_stuck_87 rfl ?_
                refine N_ishl d_Md_stuck_88 (by omega) (p2_lt (by omega)) ?_
                refine N_ior d_Md_stuck_89 ?_
                refine S_istore_n_5_1 d_Md_stuck_90 rfl rfl ?_
                refine N_iconst d_Md_stuck_91 1 rfl ?_
                refine S_istore_n_5_2 d_Md_stuck_92 rfl rfl ?_
                refine N_iinc_5_3_1 d_Md_stuck_93 rfl rfl ?_
                refine P_goto d_Md_stuck_96 12 (by decide) ?_
                first
                | omega
                | exact absurd (show (nvM T (KO T σ) p).testBit p = true by assumption) (by rw [Nat.testBit_lt_two_pow (nvM_lt T (KO T σ) p)]; decide)
                | (have e : nvM T (KO T σ) (p + 1) = nvM T (KO T σ) p := by
                     rw [nvM_s, nv1]
                     refine if_neg (fun z => ?_)
                     have z1 := z.1
                     have z2 := z.2
                     first
                       | omega
                       | (have y : (KO T σ).testBit p = true := by assumption
                          rw [y] at z1; cases z1)
                       | (rcases z2 with z2 | z2
                          · exact absurd z2 (by assumption)
                          · exact z2.2 (by assumption))
                   have g := ih (tP T - (p + 1)) (by omega) (p + 1) mr (.int (nI 0)) (by omega) hmr rfl
                   rw [e] at g
                   exact g)
                | (have e : nvM T (KO T σ) (p + 1) = nvM T (KO T σ) p := by
                     rw [nvM_s, nv1]
                     refine if_neg (fun z => ?_)
                     have z1 := z.1
                     have y : (KO T σ).testBit p = true := by assumption
                     rw [y] at z1; cases z1
                   have g := ih (tP T - (p + 1)) (by omega) (p + 1) mr (.int (nI 1)) (by omega) hmr rfl
                   rw [e] at g
                   exact g)
                | (have e : nvM T (KO T σ) (p + 1) = nvM T (KO T σ) p ||| 1 * 2 ^ p := by
                     rw [nvM_s, nv1, Nat.one_mul]
                     refine if_pos ⟨?_, ?_⟩
                     · rw [← Bool.not_eq_true]; assumption
                     · first | exact Or.inl (by assumption) | exact Or.inr ⟨by omega, by assumption⟩
                   have g := ih (tP T - (p + 1)) (by omega) (p + 1) 1 (.int (nI 1)) (by omega) (by omega) rfl
                   rw [e] at g
                   exact g)
        · refine g_aload_n d_Md_stuck_40 rfl ?_
          refine H_getR 147 d_Md_stuck_41 f_Md_32.g rfl rfl (by decide) rfl ?_
          refine g_iload_n d_Md_stuck_44 rfl ?_
          refine H_ialdN d_Md_stuck_45 rfl rfl (by omega) (by decide) ?_
          refine T_int (nI (tnd T p)) (hT.2.2.2.1 p hpp).2.2.1 ?_
          refine g_iload_n d_Md_stuck_46 rfl ?_
          refine N_iand d_Md_stuck_47 ?_
          refine N_if_eq d_Md_stuck_48 55 (by decide) (by omega) (fun c10 => ?_) (fun c10 => ?_)
          · refine N_iconst d_Md_stuck_55 0 rfl ?_
            refine S_istore_5_4 d_Md_stuck_56 rfl rfl ?_
            refine g_iload d_Md_stuck_58 rfl ?_
            refine N_if_eq d_Md_stuck_60 93 (by decide) (by omega) (fun c11 => ?_) (fun c11 => ?_)
            · refine N_iinc_5_3_1 d_Md_stuck_93 rfl rfl ?_
              refine P_goto d_Md_stuck_96 12 (by decide) ?_
              first
              | omega
              | exact absurd (show (nvM T (KO T σ) p).testBit p = true by assumption) (by rw [Nat.testBit_lt_two_pow (nvM_lt T (KO T σ) p)]; decide)
              | (have e : nvM T (KO T σ) (p + 1) = nvM T (KO T σ) p := by
                   rw [nvM_s, nv1]
                   refine if_neg (fun z => ?_)
                   have z1 := z.1
                   have z2 := z.2
                   first
                     | omega
                     | (have y : (KO T σ).testBit p = true := by assumption
                        rw [y] at z1; cases z1)
                     | (rcases z2 with z2 | z2
                        · exact absurd z2 (by assumption)
                        · exact z2.2 (by assumption))
                 have g := ih (tP T - (p + 1)) (by omega) (p + 1) mr (.int (nI 0)) (by omega) hmr rfl
                 rw [e] at g
                 exact g)
              | (have e : nvM T (KO T σ) (p + 1) = nvM T (KO T σ) p := by
                   rw [nvM_s, nv1]
                   refine if_neg (fun z => ?_)
                   have z1 := z.1
                   have y : (KO T σ).testBit p = true := by assumption
                   rw [y] at z1; cases z1
                 have g := ih (tP T - (p + 1)) (by omega) (p + 1) mr (.int (nI 1)) (by omega) hmr rfl
                 rw [e] at g
                 exact g)
              | (have e : nvM T (KO T σ) (p + 1) = nvM T (KO T σ) p ||| 1 * 2 ^ p := by
                   rw [nvM_s, nv1, Nat.one_mul]
                   refine if_pos ⟨?_, ?_⟩
                   · rw [← Bool.not_eq_true]; assumption
                   · first | exact Or.inl (by assumption) | exact Or.inr ⟨by omega, by assumption⟩
                 have g := ih (tP T - (p + 1)) (by omega) (p + 1) 1 (.int (nI 1)) (by omega) (by omega) rfl
                 rw [e] at g
                 exact g)
            · refine g_aload_n d_Md_stuck_63 rfl ?_
              refine H_getR 140 d_Md_stuck_64 f_Md_7.g rfl rfl (by decide) rfl ?_
              refine N_bipush d_Md_stuck_67 26 rfl ?_
              refine H_ialdN d_Md_stuck_69 rfl rfl (by omega) (by decide) ?_
              refine T_int (nI (KO T σ)) hS.2.1 ?_
              refine g_iload_n d_Md_stuck_70 rfl ?_
              refine C_S2 d_Md_stuck_71 k_Md_236 (Nat.le_of_ble_eq_true rfl) (by decide) (Nat.le_of_ble_eq_true rfl) ?_
              refine (c_Md_has (kB_31 hw (aH σ)) (by omega)) ?_
              refine B_ne d_Md_stuck_74 93 (by decide) (fun c12 => ?_) (fun c12 => ?_)
              · refine N_iinc_5_3_1 d_Md_stuck_93 rfl rfl ?_
                refine P_goto d_Md_stuck_96 12 (by decide) ?_
                first
                | omega
                | exact absurd (show (nvM T (KO T σ) p).testBit p = true by assumption) (by rw [Nat.testBit_lt_two_pow (nvM_lt T (KO T σ) p)]; decide)
                | (have e : nvM T (KO T σ) (p + 1) = nvM T (KO T σ) p := by
                     rw [nvM_s, nv1]
                     refine if_neg (fun z => ?_)
                     have z1 := z.1
                     have z2 := z.2
                     first
                       | omega
                       | (have y : (KO T σ).testBit p = true := by assumption
                          rw [y] at z1; cases z1)
                       | (rcases z2 with z2 | z2
                          · exact absurd z2 (by assumption)
                          · exact z2.2 (by assumption))
                   have g := ih (tP T - (p + 1)) (by omega) (p + 1) mr (.int (nI 0)) (by omega) hmr rfl
                   rw [e] at g
                   exact g)
                | (have e : nvM T (KO T σ) (p + 1) = nvM T (KO T σ) p := by
                     rw [nvM_s, nv1]
                     refine if_neg (fun z => ?_)
                     have z1 := z.1
                     have y : (KO T σ).testBit p = true := by assumption
                     rw [y] at z1; cases z1
                   have g := ih (tP T - (p + 1)) (by omega) (p + 1) mr (.int (nI 1)) (by omega) hmr rfl
                   rw [e] at g
                   exact g)
                | (have e : nvM T (KO T σ) (p + 1) = nvM T (KO T σ) p ||| 1 * 2 ^ p := by
                     rw [nvM_s, nv1, Nat.one_mul]
                     refine if_pos ⟨?_, ?_⟩
                     · rw [← Bool.not_eq_true]; assumption
                     · first | exact Or.inl (by assumption) | exact Or.inr ⟨by omega, by assumption⟩
                   have g := ih (tP T - (p + 1)) (by omega) (p + 1) 1 (.int (nI 1)) (by omega) (by omega) rfl
                   rw [e] at g
                   exact g)
              · refine g_iload_n d_Md_stuck_77 rfl ?_
                refine g_iload_n d_Md_stuck_78 rfl ?_
                refine C_S2 d_Md_stuck_79 k_Md_236 (Nat.le_of_ble_eq_true rfl) (by decide) (Nat.le_of_ble_eq_true rfl) ?_
                refine (c_Md_has (by omega) (by omega)) ?_
                refine B_ne d_Md_stuck_82 93 (by decide) (fun c13 => ?_) (fun c13 => ?_)
                · refine N_iinc_5_3_1 d_Md_stuck_93 rfl rfl ?_
                  refine P_goto d_Md_stuck_96 12 (by decide) ?_
                  first
                  | omega
                  | exact absurd (show (nvM T (KO T σ) p).testBit p = true by assumption) (by rw [Nat.testBit_lt_two_pow (nvM_lt T (KO T σ) p)]; decide)
                  | (have e : nvM T (KO T σ) (p + 1) = nvM T (KO T σ) p := by
                       rw [nvM_s, nv1]
                       refine if_neg (fun z => ?_)
                       have z1 := z.1
                       have z2 := z.2
                       first
                         | omega
                         | (have y : (KO T σ).testBit p = true := by assumption
                            rw [y] at z1; cases z1)
                         | (rcases z2 with z2 | z2
                            · exact absurd z2 (by assumption)
                            · exact z2.2 (by assumption))
                     have g := ih (tP T - (p + 1)) (by omega) (p + 1) mr (.int (nI 0)) (by omega) hmr rfl
                     rw [e] at g
                     exact g)
                  | (have e : nvM T (KO T σ) (p + 1) = nvM T (KO T σ) p := by
                       rw [nvM_s, nv1]
                       refine if_neg (fun z => ?_)
                       have z1 := z.1
                       have y : (KO T σ).testBit p = true := by assumption
                       rw [y] at z1; cases z1
                     have g := ih (tP T - (p + 1)) (by omega) (p + 1) mr (.int (nI 1)) (by omega) hmr rfl
                     rw [e] at g
                     exact g)
                  | (have e : nvM T (KO T σ) (p + 1) = nvM T (KO T σ) p ||| 1 * 2 ^ p := by
                       rw [nvM_s, nv1, Nat.one_mul]
                       refine if_pos ⟨?_, ?_⟩
                       · rw [← Bool.not_eq_true]; assumption
                       · first | exact Or.inl (by assumption) | exact Or.inr ⟨by omega, by assumption⟩
                     have g := ih (tP T - (p + 1)) (by omega) (p + 1) 1 (.int (nI 1)) (by omega) (by omega) rfl
                     rw [e] at g
                     exact g)
                · refine g_iload_n d_Md_stuck_85 rfl ?_
                  refine N_iconst d_Md_stuck_86 1 rfl ?_
                  refine g_iload_n d_Md_stuck_87 rfl ?_
                  refine N_ishl d_Md_stuck_88 (by omega) (p2_lt (by omega)) ?_
                  refine N_ior d_Md_stuck_89 ?_
                  refine S_istore_n_5_1 d_Md_stuck_90 rfl rfl ?_
                  refine N_iconst d_Md_stuck_91 1 rfl ?_
                  refine S_istore_n_5_2 d_Md_stuck_92 rfl rfl ?_
                  refine N_iinc_5_3_1 d_Md_stuck_93 rfl rfl ?_
                  refine P_goto d_Md_stuck_96 12 (by decide) ?_
                  first
                  | omega
                  | exact absurd (show (nvM T (KO T σ) p).testBit p = true by assumption) (by rw [Nat.testBit_lt_two_pow (nvM_lt T (KO T σ) p)]; decide)
                  | (have e : nvM T (KO T σ) (p + 1) = nvM T (KO T σ) p := by
                       rw [nvM_s, nv1]
                       refine if_neg (fun z => ?_)
                       have z1 := z.1
                       have z2 := z.2
                       first
                         | omega
                         | (have y : (KO T σ).testBit p = true := by assumption
                            rw [y] at z1; cases z1)
                         | (rcases z2 with z2 | z2
                            · exact absurd z2 (by assumption)
                            · exact z2.2 (by assumption))
                     have g := ih (tP T - (p + 1)) (by omega) (p + 1) mr (.int (nI 0)) (by omega) hmr rfl
                     rw [e] at g
                     exact g)
                  | (have e : nvM T (KO T σ) (p + 1) = nvM T (KO T σ) p := by
                       rw [nvM_s, nv1]
                       refine if_neg (fun z => ?_)
                       have z1 := z.1
                       have y : (KO T σ).testBit p = true := by assumption
                       rw [y] at z1; cases z1
                     have g := ih (tP T - (p + 1)) (by omega) (p + 1) mr (.int (nI 1)) (by omega) hmr rfl
                     rw [e] at g
                     exact g)
                  | (have e : nvM T (KO T σ) (p + 1) = nvM T (KO T σ) p ||| 1 * 2 ^ p := by
                       rw [nvM_s, nv1, Nat.one_mul]
                       refine if_pos ⟨?_, ?_⟩
                       · rw [← Bool.not_eq_true]; assumption
                       · first | exact Or.inl (by assumption) | exact Or.inr ⟨by omega, by assumption⟩
                     have g := ih (tP T - (p + 1)) (by omega) (p + 1) 1 (.int (nI 1)) (by omega) (by omega) rfl
                     rw [e] at g
                     exact g)
          · refine N_iconst d_Md_stuck_51 1 rfl ?_
            refine P_goto d_Md_stuck_52 56 (by decide) ?_
            refine S_istore_5_4 d_Md_stuck_56 rfl rfl ?_
            refine g_iload d_Md_stuck_58 rfl ?_
            refine N_if_eq d_Md_stuck_60 93 (by decide) (by omega) (fun c14 => ?_) (fun c14 => ?_)
            · refine N_iinc_5_3_1 d_Md_stuck_93 rfl rfl ?_
              refine P_goto d_Md_stuck_96 12 (by decide) ?_
              first
              | omega
              | exact absurd (show (nvM T (KO T σ) p).testBit p = true by assumption) (by rw [Nat.testBit_lt_two_pow (nvM_lt T (KO T σ) p)]; decide)
              | (have e : nvM T (KO T σ) (p + 1) = nvM T (KO T σ) p := by
                   rw [nvM_s, nv1]
                   refine if_neg (fun z => ?_)
                   have z1 := z.1
                   have z2 := z.2
                   first
                     | omega
                     | (have y : (KO T σ).testBit p = true := by assumption
                        rw [y] at z1; cases z1)
                     | (rcases z2 with z2 | z2
                        · exact absurd z2 (by assumption)
                        · exact z2.2 (by assumption))
                 have g := ih (tP T - (p + 1)) (by omega) (p + 1) mr (.int (nI 0)) (by omega) hmr rfl
                 rw [e] at g
                 exact g)
              | (have e : nvM T (KO T σ) (p + 1) = nvM T (KO T σ) p := by
                   rw [nvM_s, nv1]
                   refine if_neg (fun z => ?_)
                   have z1 := z.1
                   have y : (KO T σ).testBit p = true := by assumption
                   rw [y] at z1; cases z1
                 have g := ih (tP T - (p + 1)) (by omega) (p + 1) mr (.int (nI 1)) (by omega) hmr rfl
                 rw [e] at g
                 exact g)
              | (have e : nvM T (KO T σ) (p + 1) = nvM T (KO T σ) p ||| 1 * 2 ^ p := by
                   rw [nvM_s, nv1, Nat.one_mul]
                   refine if_pos ⟨?_, ?_⟩
                   · rw [← Bool.not_eq_true]; assumption
                   · first | exact Or.inl (by assumption) | exact Or.inr ⟨by omega, by assumption⟩
                 have g := ih (tP T - (p + 1)) (by omega) (p + 1) 1 (.int (nI 1)) (by omega) (by omega) rfl
                 rw [e] at g
                 exact g)
            · refine g_aload_n d_Md_stuck_63 rfl ?_
              refine H_getR 140 d_Md_stuck_64 f_Md_7.g rfl rfl (by decide) rfl ?_
              refine N_bipush d_Md_stuck_67 26 rfl ?_
              refine H_ialdN d_Md_stuck_69 rfl rfl (by omega) (by decide) ?_
              refine T_int (nI (KO T σ)) hS.2.1 ?_
              refine g_iload_n d_Md_stuck_70 rfl ?_
              refine C_S2 d_Md_stuck_71 k_Md_236 (Nat.le_of_ble_eq_true rfl) (by decide) (Nat.le_of_ble_eq_true rfl) ?_
              refine (c_Md_has (kB_31 hw (aH σ)) (by omega)) ?_
              refine B_ne d_Md_stuck_74 93 (by decide) (fun c15 => ?_) (fun c15 => ?_)
              · refine N_iinc_5_3_1 d_Md_stuck_93 rfl rfl ?_
                refine P_goto d_Md_stuck_96 12 (by decide) ?_
                first
                | omega
                | exact absurd (show (nvM T (KO T σ) p).testBit p = true by assumption) (by rw [Nat.testBit_lt_two_pow (nvM_lt T (KO T σ) p)]; decide)
                | (have e : nvM T (KO T σ) (p + 1) = nvM T (KO T σ) p := by
                     rw [nvM_s, nv1]
                     refine if_neg (fun z => ?_)
                     have z1 := z.1
                     have z2 := z.2
                     first
                       | omega
                       | (have y : (KO T σ).testBit p = true := by assumption
                          rw [y] at z1; cases z1)
                       | (rcases z2 with z2 | z2
                          · exact absurd z2 (by assumption)
                          · exact z2.2 (by assumption))
                   have g := ih (tP T - (p + 1)) (by omega) (p + 1) mr (.int (nI 0)) (by omega) hmr rfl
                   rw [e] at g
                   exact g)
                | (have e : nvM T (KO T σ) (p + 1) = nvM T (KO T σ) p := by
                     rw [nvM_s, nv1]
                     refine if_neg (fun z => ?_)
                     have z1 := z.1
                     have y : (KO T σ).testBit p = true := by assumption
                     rw [y] at z1; cases z1
                   have g := ih (tP T - (p + 1)) (by omega) (p + 1) mr (.int (nI 1)) (by omega) hmr rfl
                   rw [e] at g
                   exact g)
                | (have e : nvM T (KO T σ) (p + 1) = nvM T (KO T σ) p ||| 1 * 2 ^ p := by
                     rw [nvM_s, nv1, Nat.one_mul]
                     refine if_pos ⟨?_, ?_⟩
                     · rw [← Bool.not_eq_true]; assumption
                     · first | exact Or.inl (by assumption) | exact Or.inr ⟨by omega, by assumption⟩
                   have g := ih (tP T - (p + 1)) (by omega) (p + 1) 1 (.int (nI 1)) (by omega) (by omega) rfl
                   rw [e] at g
                   exact g)
              · refine g_iload_n d_Md_stuck_77 rfl ?_
                refine g_iload_n d_Md_stuck_78 rfl ?_
                refine C_S2 d_Md_stuck_79 k_Md_236 (Nat.le_of_ble_eq_true rfl) (by decide) (Nat.le_of_ble_eq_true rfl) ?_
                refine (c_Md_has (by omega) (by omega)) ?_
                refine B_ne d_Md_stuck_82 93 (by decide) (fun c16 => ?_) (fun c16 => ?_)
                · refine N_iinc_5_3_1 d_Md_stuck_93 rfl rfl ?_
                  refine P_goto d_Md_stuck_96 12 (by decide) ?_
                  first
                  | omega
                  | exact absurd (show (nvM T (KO T σ) p).testBit p = true by assumption) (by rw [Nat.testBit_lt_two_pow (nvM_lt T (KO T σ) p)]; decide)
                  | (have e : nvM T (KO T σ) (p + 1) = nvM T (KO T σ) p := by
                       rw [nvM_s, nv1]
                       refine if_neg (fun z => ?_)
                       have z1 := z.1
                       have z2 := z.2
                       first
                         | omega
                         | (have y : (KO T σ).testBit p = true := by assumption
                            rw [y] at z1; cases z1)
                         | (rcases z2 with z2 | z2
                            · exact absurd z2 (by assumption)
                            · exact z2.2 (by assumption))
                     have g := ih (tP T - (p + 1)) (by omega) (p + 1) mr (.int (nI 0)) (by omega) hmr rfl
                     rw [e] at g
                     exact g)
                  | (have e : nvM T (KO T σ) (p + 1) = nvM T (KO T σ) p := by
                       rw [nvM_s, nv1]
                       refine if_neg (fun z => ?_)
                       have z1 := z.1
                       have y : (KO T σ).testBit p = true := by assumption
                       rw [y] at z1; cases z1
                     have g := ih (tP T - (p + 1)) (by omega) (p + 1) mr (.int (nI 1)) (by omega) hmr rfl
                     rw [e] at g
                     exact g)
                  | (have e : nvM T (KO T σ) (p + 1) = nvM T (KO T σ) p ||| 1 * 2 ^ p := by
                       rw [nvM_s, nv1, Nat.one_mul]
                       refine if_pos ⟨?_, ?_⟩
                       · rw [← Bool.not_eq_true]; assumption
                       · first | exact Or.inl (by assumption) | exact Or.inr ⟨by omega, by assumption⟩
                     have g := ih (tP T - (p + 1)) (by omega) (p + 1) 1 (.int (nI 1)) (by omega) (by omega) rfl
                     rw [e] at g
                     exact g)
                · refine g_iload_n d_Md_stuck_85 rfl ?_
                  refine N_iconst d_Md_stuck_86 1 rfl ?_
                  refine g_iload_n d_Md_stuck_87 rfl ?_
                  refine N_ishl d_Md_stuck_88 (by omega) (p2_lt (by omega)) ?_
                  refine N_ior d_Md_stuck_89 ?_
                  refine S_istore_n_5_1 d_Md_stuck_90 rfl rfl ?_
                  refine N_iconst d_Md_stuck_91 1 rfl ?_
                  refine S_istore_n_5_2 d_Md_stuck_92 rfl rfl ?_
                  refine N_iinc_5_3_1 d_Md_stuck_93 rfl rfl ?_
                  refine P_goto d_Md_stuck_96 12 (by decide) ?_
                  first
                  | omega
                  | exact absurd (show (nvM T (KO T σ) p).testBit p = true by assumption) (by rw [Nat.testBit_lt_two_pow (nvM_lt T (KO T σ) p)]; decide)
                  | (have e : nvM T (KO T σ) (p + 1) = nvM T (KO T σ) p := by
                       rw [nvM_s, nv1]
                       refine if_neg (fun z => ?_)
                       have z1 := z.1
                       have z2 := z.2
                       first
                         | omega
                         | (have y : (KO T σ).testBit p = true := by assumption
                            rw [y] at z1; cases z1)
                         | (rcases z2 with z2 | z2
                            · exact absurd z2 (by assumption)
                            · exact z2.2 (by assumption))
                     have g := ih (tP T - (p + 1)) (by omega) (p + 1) mr (.int (nI 0)) (by omega) hmr rfl
                     rw [e] at g
                     exact g)
                  | (have e : nvM T (KO T σ) (p + 1) = nvM T (KO T σ) p := by
                       rw [nvM_s, nv1]
                       refine if_neg (fun z => ?_)
                       have z1 := z.1
                       have y : (KO T σ).testBit p = true := by assumption
                       rw [y] at z1; cases z1
                     have g := ih (tP T - (p + 1)) (by omega) (p + 1) mr (.int (nI 1)) (by omega) hmr rfl
                     rw [e] at g
                     exact g)
                  | (have e : nvM T (KO T σ) (p + 1) = nvM T (KO T σ) p ||| 1 * 2 ^ p := by
                       rw [nvM_s, nv1, Nat.one_mul]
                       refine if_pos ⟨?_, ?_⟩
                       · rw [← Bool.not_eq_true]; assumption
                       · first | exact Or.inl (by assumption) | exact Or.inr ⟨by omega, by assumption⟩
                     have g := ih (tP T - (p + 1)) (by omega) (p + 1) 1 (.int (nI 1)) (by omega) (by omega) rfl
                     rw [e] at g
                     exact g)

theorem lp_Md_stuckB {X : CX} {dl : List (Nat × Nat)} {mI : Nat → Nat → Int32} {dr : Nat → Nat → Nat} {Q : Option Value → AH → Prop} {T : TD} (hw : TW T) (hT : TM 3 7 142 T mI) {σ : AS} (hS : SM 0 T σ (KO T σ) mI) {s : Nat} (hs10 : s < 2 ^ 10) (hfx : ∀ p, p < tP T → (KO T σ).testBit p = false → (tkd T p = 4 ∨ (tkd T p ≤ 2 ∧ tnd T p &&& s ≠ 0)) → s.testBit p = true) (k : ∀ (mr : Nat) v3 v4, mr ≤ 1 → mr = 0 → EW X m_Md_stuck 4 [.ref 139, .int (nI s), .int (nI mr), v3, v4] [] (hp X dl mI dr) Q) : ∀ (d : Nat) (p : Nat) (mr : Nat) (v4 : Value), (p ≤ tP T) → (mr ≤ 1) → (mr = 0) → tP T - p = d → EW X m_Md_stuck 12 [.ref 139, .int (nI s), .int (nI mr), .int (nI p), v4] [] (hp X dl mI dr) Q := by
  intro d
  induction d using Nat.strongRecOn with
  | _ d ih =>
    intro p mr v4 hp1 hmr hm0 hd
    have hw1 := hw.1
    have hw2 := hw.2.1
    have hs10 : s < 2 ^ 10 := hs10
    refine g_iload_n d_Md_stuck_12 rfl ?_
    refine g_aload_n d_Md_stuck_13 rfl ?_
    refine H_getI d_Md_stuck_14 f_Md_115.g rfl rfl (by decide) ?_
    refine T_int (nI (tP T)) hT.2.1 ?_
    refine N_icmp_ge d_Md_stuck_17 99 (by decide) ⟨by omega, by omega⟩ (fun c1 => ?_) (fun c1 => ?_)
    · refine P_goto d_Md_stuck_99 4 (by decide) ?_
      have ep : p = tP T := by omega
      subst ep
      exact k mr _ _ hmr hm0
    · have hpp : p < tP T := by omega
      have hkd := (hw.2.2.2 p hpp).1
      have hn31 := tnd_lt hw hpp
      have hal : tnd T p &&& s ≤ s := Nat.and_le_right
      refine g_aload_n d_Md_stuck_20 rfl ?_
      refine H_getR 145 d_Md_stuck_21 f_Md_26.g rfl rfl (by decide) rfl ?_
      refine g_iload_n d_Md_stuck_24 rfl ?_
      refine H_ialdN d_Md_stuck_25 rfl rfl (by omega) (by decide) ?_
      refine T_int (nI (tkd T p)) (hT.2.2.2.1 p hpp).1 ?_
      refine N_iconst d_Md_stuck_26 4 rfl ?_
      refine N_icmp_eq d_Md_stuck_27 51 (by decide) ⟨by omega, by omega⟩ (fun c2 => ?_) (fun c2 => ?_)
      · refine N_iconst d_Md_stuck_51 1 rfl ?_
        refine P_goto d_Md_stuck_52 56 (by decide) ?_
        refine S_istore_5_4 d_Md_stuck_56 rfl rfl ?_
        refine g_iload d_Md_stuck_58 rfl ?_
        refine N_if_eq d_Md_stuck_60 93 (by decide) (by omega) (fun c3 => ?_) (fun c3 => ?_)
        · refine N_iinc_5_3_1 d_Md_stuck_93 rfl rfl ?_
          refine P_goto d_Md_stuck_96 12 (by decide) ?_
          first
          | omega
          | exact ih (tP T - (p + 1)) (by omega) (p + 1) mr (.int (nI 0)) (by omega) hmr hm0 rfl
          | exact ih (tP T - (p + 1)) (by omega) (p + 1) mr (.int (nI 1)) (by omega) hmr hm0 rfl
          | exact absurd (hfx p hpp (by rw [← Bool.not_eq_true]; assumption) (by first | exact Or.inl (by assumption) | exact Or.inr ⟨by omega, by assumption⟩)) (by assumption)
        · refine g_aload_n d_Md_stuck_63 rfl ?_
          refine H_getR 140 d_Md_stuck_64 f_Md_7.g rfl rfl (by decide) rfl ?_
          refine N_bipush d_Md_stuck_67 26 rfl ?_
          refine H_ialdN d_Md_stuck_69 rfl rfl (by omega) (by decide) ?_
          refine T_int (nI (KO T σ)) hS.2.1 ?_
          refine g_iload_n d_Md_stuck_70 rfl ?_
          refine C_S2 d_Md_stuck_71 k_Md_236 (Nat.le_of_ble_eq_true rfl) (by decide) (Nat.le_of_ble_eq_true rfl) ?_
          refine (c_Md_has (kB_31 hw (aH σ)) (by omega)) ?_
          refine B_ne d_Md_stuck_74 93 (by decide) (fun c4 => ?_) (fun c4 => ?_)
          · refine N_iinc_5_3_1 d_Md_stuck_93 rfl rfl ?_
            refine P_goto d_Md_stuck_96 12 (by decide) ?_
            first
            | omega
            | exact ih (tP T - (p + 1)) (by omega) (p + 1) mr (.int (nI 0)) (by omega) hmr hm0 rfl
            | exact ih (tP T - (p + 1)) (by omega) (p + 1) mr (.int (nI 1)) (by omega) hmr hm0 rfl
            | exact absurd (hfx p hpp (by rw [← Bool.not_eq_true]; assumption) (by first | exact Or.inl (by assumption) | exact Or.inr ⟨by omega, by assumption⟩)) (by assumption)
          · refine g_iload_n d_Md_stuck_77 rfl ?_
            refine g_iload_n d_Md_stuck_78 rfl ?_
            refine C_S2 d_Md_stuck_79 k_Md_236 (Nat.le_of_ble_eq_true rfl) (by decide) (Nat.le_of_ble_eq_true rfl) ?_
            refine (c_Md_has (by omega) (by omega)) ?_
            refine B_ne d_Md_stuck_82 93 (by decide) (fun c5 => ?_) (fun c5 => ?_)
            · refine N_iinc_5_3_1 d_Md_stuck_93 rfl rfl ?_
              refine P_goto d_Md_stuck_96 12 (by decide) ?_
              first
              | omega
              | exact ih (tP T - (p + 1)) (by omega) (p + 1) mr (.int (nI 0)) (by omega) hmr hm0 rfl
              | exact ih (tP T - (p + 1)) (by omega) (p + 1) mr (.int (nI 1)) (by omega) hmr hm0 rfl
              | exact absurd (hfx p hpp (by rw [← Bool.not_eq_true]; assumption) (by first | exact Or.inl (by assumption) | exact Or.inr ⟨by omega, by assumption⟩)) (by assumption)
            · refine g_iload_n d_Md_stuck_85 rfl ?_
              refine N_iconst d_Md_stuck_86 1 rfl ?_
              refine g_iload_n d_Md_stuck_87 rfl ?_
              refine N_ishl d_Md_stuck_88 (by omega) (p2_lt (by omega)) ?_
              refine N_ior d_Md_stuck_89 ?_
              refine S_istore_n_5_1 d_Md_stuck_90 rfl rfl ?_
              refine N_iconst d_Md_stuck_91 1 rfl ?_
              refine S_istore_n_5_2 d_Md_stuck_92 rfl rfl ?_
              refine N_iinc_5_3_1 d_Md_stuck_93 rfl rfl ?_
              refine P_goto d_Md_stuck_96 12 (by decide) ?_
              first
              | omega
              | exact ih (tP T - (p + 1)) (by omega) (p + 1) mr (.int (nI 0)) (by omega) hmr hm0 rfl
              | exact ih (tP T - (p + 1)) (by omega) (p + 1) mr (.int (nI 1)) (by omega) hmr hm0 rfl
              | exact absurd (hfx p hpp (by rw [← Bool.not_eq_true]; assumption) (by first | exact Or.inl (by assumption) | exact Or.inr ⟨by omega, by assumption⟩)) (by assumption)
      · refine g_aload_n d_Md_stuck_30 rfl ?_
        refine H_getR 145 d_Md_stuck_31 f_Md_26.g rfl rfl (by decide) rfl ?_
        refine g_iload_n d_Md_stuck_34 rfl ?_
        refine H_ialdN d_Md_stuck_35 rfl rfl (by omega) (by decide) ?_
        refine T_int (nI (tkd T p)) (hT.2.2.2.1 p hpp).1 ?_
        refine N_iconst d_Md_stuck_36 2 rfl ?_
        refine N_icmp_gt d_Md_stuck_37 55 (by decide) ⟨by omega, by omega⟩ (fun c6 => ?_) (fun c6 => ?_)
        · refine N_iconst d_Md_stuck_55 0 rfl ?_
          refine S_istore_5_4 d_Md_stuck_56 rfl rfl ?_
          refine g_iload d_Md_stuck_58 rfl ?_
          refine N_if_eq d_Md_stuck_60 93 (by decide) (by omega) (fun c7 => ?_) (fun c7 => ?_)
          · refine N_iinc_5_3_1 d_Md_stuck_93 rfl rfl ?_
            refine P_goto d_Md_stuck_96 12 (by decide) ?_
            first
            | omega
            | exact ih (tP T - (p + 1)) (by omega) (p + 1) mr (.int (nI 0)) (by omega) hmr hm0 rfl
            | exact ih (tP T - (p + 1)) (by omega) (p + 1) mr (.int (nI 1)) (by omega) hmr hm0 rfl
            | exact absurd (hfx p hpp (by rw [← Bool.not_eq_true]; assumption) (by first | exact Or.inl (by assumption) | exact Or.inr ⟨by omega, by assumption⟩)) (by assumption)
          · refine g_aload_n d_Md_stuck_63 rfl ?_
            refine H_getR 140 d_Md_stuck_64 f_Md_7.g rfl rfl (by decide) rfl ?_
            refine N_bipush d_Md_stuck_67 26 rfl ?_
            refine H_ialdN d_Md_stuck_69 rfl rfl (by omega) (by decide) ?_
            refine T_int (nI (KO T σ)) hS.2.1 ?_
            refine g_iload_n d_Md_stuck_70 rfl ?_
            refine C_S2 d_Md_stuck_71 k_Md_236 (Nat.le_of_ble_eq_true rfl) (by decide) (Nat.le_of_ble_eq_true rfl) ?_
            refine (c_Md_has (kB_31 hw (aH σ)) (by omega)) ?_
            refine B_ne d_Md_stuck_74 93 (by decide) (fun c8 => ?_) (fun c8 => ?_)
            · refine N_iinc_5_3_1 d_Md_stuck_93 rfl rfl ?_
              refine P_goto d_Md_stuck_96 12 (by decide) ?_
              first
              | omega
              | exact ih (tP T - (p + 1)) (by omega) (p + 1) mr (.int (nI 0)) (by omega) hmr hm0 rfl
              | exact ih (tP T - (p + 1)) (by omega) (p + 1) mr (.int (nI 1)) (by omega) hmr hm0 rfl
              | exact absurd (hfx p hpp (by rw [← Bool.not_eq_true]; assumption) (by first | exact Or.inl (by assumption) | exact Or.inr ⟨by omega, by assumption⟩)) (by assumption)
            · refine g_iload_n d_Md_stuck_77 rfl ?_
              refine g_iload_n d_Md_stuck_78 rfl ?_
              refine C_S2 d_Md_stuck_79 k_Md_236 (Nat.le_of_ble_eq_true rfl) (by decide) (Nat.le_of_ble_eq_true rfl) ?_
              refine (c_Md_has (by omega) (by omega)) ?_
              refine B_ne d_Md_stuck_82 93 (by decide) (fun c9 => ?_) (fun c9 => ?_)
              · refine N_iinc_5_3_1 d_Md_stuck_93 rfl rfl ?_
                refine P_goto d_Md_stuck_96 12 (by decide) ?_
                first
                | omega
                | exact ih (tP T - (p + 1)) (by omega) (p + 1) mr (.int (nI 0)) (by omega) hmr hm0 rfl
                | exact ih (tP T - (p + 1)) (by omega) (p + 1) mr (.int (nI 1)) (by omega) hmr hm0 rfl
                | exact absurd (hfx p hpp (by rw [← Bool.not_eq_true]; assumption) (by first | exact Or.inl (by assumption) | exact Or.inr ⟨by omega, by assumption⟩)) (by assumption)
              · refine g_iload_n d_Md_stuck_85 rfl ?_
                refine N_iconst d_Md_stuck_86 1 rfl ?_
                refine g_iload_n d_Md_stuck_87 rfl ?_
                refine N_ishl d_Md_stuck_88 (by omega) (p2_lt (by omega)) ?_
                refine N_ior d_Md_stuck_89 ?_
                refine S_istore_n_5_1 d_Md_stuck_90 rfl rfl ?_
                refine N_iconst d_Md_stuck_91 1 rfl ?_
                refine S_istore_n_5_2 d_Md_stuck_92 rfl rfl ?_
                refine N_iinc_5_3_1 d_Md_stuck_93 rfl rfl ?_
                refine P_goto d_Md_stuck_96 12 (by decide) ?_
                first
                | omega
                | exact ih (tP T - (p + 1)) (by omega) (p + 1) mr (.int (nI 0)) (by omega) hmr hm0 rfl
                | exact ih (tP T - (p + 1)) (by omega) (p + 1) mr (.int (nI 1)) (by omega) hmr hm0 rfl
                | exact absurd (hfx p hpp (by rw [← Bool.not_eq_true]; assumption) (by first | exact Or.inl (by assumption) | exact Or.inr ⟨by omega, by assumption⟩)) (by assumption)
        · refine g_aload_n d_Md_stuck_40 rfl ?_
          refine H_getR 147 d_Md_stuck_41 f_Md_32.g rfl rfl (by decide) rfl ?_
          refine g_iload_n d_Md_stuck_44 rfl ?_
          refine H_ialdN d_Md_stuck_45 rfl rfl (by omega) (by decide) ?_
          refine T_int (nI (tnd T p)) (hT.2.2.2.1 p hpp).2.2.1 ?_
          refine g_iload_n d_Md_stuck_46 rfl ?_
          refine N_iand d_Md_stuck_47 ?_
          refine N_if_eq d_Md_stuck_48 55 (by decide) (by omega) (fun c10 => ?_) (fun c10 => ?_)
          · refine N_iconst d_Md_stuck_55 0 rfl ?_
            refine S_istore_5_4 d_Md_stuck_56 rfl rfl ?_
            refine g_iload d_Md_stuck_58 rfl ?_
            refine N_if_eq d_Md_stuck_60 93 (by decide) (by omega) (fun c11 => ?_) (fun c11 => ?_)
            · refine N_iinc_5_3_1 d_Md_stuck_93 rfl rfl ?_
              refine P_goto d_Md_stuck_96 12 (by decide) ?_
              first
              | omega
              | exact ih (tP T - (p + 1)) (by omega) (p + 1) mr (.int (nI 0)) (by omega) hmr hm0 rfl
              | exact ih (tP T - (p + 1)) (by omega) (p + 1) mr (.int (nI 1)) (by omega) hmr hm0 rfl
              | exact absurd (hfx p hpp (by rw [← Bool.not_eq_true]; assumption) (by first | exact Or.inl (by assumption) | exact Or.inr ⟨by omega, by assumption⟩)) (by assumption)
            · refine g_aload_n d_Md_stuck_63 rfl ?_
              refine H_getR 140 d_Md_stuck_64 f_Md_7.g rfl rfl (by decide) rfl ?_
              refine N_bipush d_Md_stuck_67 26 rfl ?_
              refine H_ialdN d_Md_stuck_69 rfl rfl (by omega) (by decide) ?_
              refine T_int (nI (KO T σ)) hS.2.1 ?_
              refine g_iload_n d_Md_stuck_70 rfl ?_
              refine C_S2 d_Md_stuck_71 k_Md_236 (Nat.le_of_ble_eq_true rfl) (by decide) (Nat.le_of_ble_eq_true rfl) ?_
              refine (c_Md_has (kB_31 hw (aH σ)) (by omega)) ?_
              refine B_ne d_Md_stuck_74 93 (by decide) (fun c12 => ?_) (fun c12 => ?_)
              · refine N_iinc_5_3_1 d_Md_stuck_93 rfl rfl ?_
                refine P_goto d_Md_stuck_96 12 (by decide) ?_
                first
                | omega
                | exact ih (tP T - (p + 1)) (by omega) (p + 1) mr (.int (nI 0)) (by omega) hmr hm0 rfl
                | exact ih (tP T - (p + 1)) (by omega) (p + 1) mr (.int (nI 1)) (by omega) hmr hm0 rfl
                | exact absurd (hfx p hpp (by rw [← Bool.not_eq_true]; assumption) (by first | exact Or.inl (by assumption) | exact Or.inr ⟨by omega, by assumption⟩)) (by assumption)
              · refine g_iload_n d_Md_stuck_77 rfl ?_
                refine g_iload_n d_Md_stuck_78 rfl ?_
                refine C_S2 d_Md_stuck_79 k_Md_236 (Nat.le_of_ble_eq_true rfl) (by decide) (Nat.le_of_ble_eq_true rfl) ?_
                refine (c_Md_has (by omega) (by omega)) ?_
                refine B_ne d_Md_stuck_82 93 (by decide) (fun c13 => ?_) (fun c13 => ?_)
                · refine N_iinc_5_3_1 d_Md_stuck_93 rfl rfl ?_
                  refine P_goto d_Md_stuck_96 12 (by decide) ?_
                  first
                  | omega
                  | exact ih (tP T - (p + 1)) (by omega) (p + 1) mr (.int (nI 0)) (by omega) hmr hm0 rfl
                  | exact ih (tP T - (p + 1)) (by omega) (p + 1) mr (.int (nI 1)) (by omega) hmr hm0 rfl
                  | exact absurd (hfx p hpp (by rw [← Bool.not_eq_true]; assumption) (by first | exact Or.inl (by assumption) | exact Or.inr ⟨by omega, by assumption⟩)) (by assumption)
                · refine g_iload_n d_Md_stuck_85 rfl ?_
                  refine N_iconst d_Md_stuck_86 1 rfl ?_
                  refine g_iload_n d_Md_stuck_87 rfl ?_
                  refine N_ishl d_Md_stuck_88 (by omega) (p2_lt (by omega)) ?_
                  refine N_ior d_Md_stuck_89 ?_
                  refine S_istore_n_5_1 d_Md_stuck_90 rfl rfl ?_
                  refine N_iconst d_Md_stuck_91 1 rfl ?_
                  refine S_istore_n_5_2 d_Md_stuck_92 rfl rfl ?_
                  refine N_iinc_5_3_1 d_Md_stuck_93 rfl rfl ?_
                  refine P_goto d_Md_stuck_96 12 (by decide) ?_
                  first
                  | omega
                  | exact ih (tP T - (p + 1)) (by omega) (p + 1) mr (.int (nI 0)) (by omega) hmr hm0 rfl
                  | exact ih (tP T - (p + 1)) (by omega) (p + 1) mr (.int (nI 1)) (by omega) hmr hm0 rfl
                  | exact absurd (hfx p hpp (by rw [← Bool.not_eq_true]; assumption) (by first | exact Or.inl (by assumption) | exact Or.inr ⟨by omega, by assumption⟩)) (by assumption)
          · refine N_iconst d_Md_stuck_51 1 rfl ?_
            refine P_goto d_Md_stuck_52 56 (by decide) ?_
            refine S_istore_5_4 d_Md_stuck_56 rfl rfl ?_
            refine g_iload d_Md_stuck_58 rfl ?_
            refine N_if_eq d_Md_stuck_60 93 (by decide) (by omega) (fun c14 => ?_) (fun c14 => ?_)
            · refine N_iinc_5_3_1 d_Md_stuck_93 rfl rfl ?_
              refine P_goto d_Md_stuck_96 12 (by decide) ?_
              first
              | omega
              | exact ih (tP T - (p + 1)) (by omega) (p + 1) mr (.int (nI 0)) (by omega) hmr hm0 rfl
              | exact ih (tP T - (p + 1)) (by omega) (p + 1) mr (.int (nI 1)) (by omega) hmr hm0 rfl
              | exact absurd (hfx p hpp (by rw [← Bool.not_eq_true]; assumption) (by first | exact Or.inl (by assumption) | exact Or.inr ⟨by omega, by assumption⟩)) (by assumption)
            · refine g_aload_n d_Md_stuck_63 rfl ?_
              refine H_getR 140 d_Md_stuck_64 f_Md_7.g rfl rfl (by decide) rfl ?_
              refine N_bipush d_Md_stuck_67 26 rfl ?_
              refine H_ialdN d_Md_stuck_69 rfl rfl (by omega) (by decide) ?_
              refine T_int (nI (KO T σ)) hS.2.1 ?_
              refine g_iload_n d_Md_stuck_70 rfl ?_
              refine C_S2 d_Md_stuck_71 k_Md_236 (Nat.le_of_ble_eq_true rfl) (by decide) (Nat.le_of_ble_eq_true rfl) ?_
              refine (c_Md_has (kB_31 hw (aH σ)) (by omega)) ?_
              refine B_ne d_Md_stuck_74 93 (by decide) (fun c15 => ?_) (fun c15 => ?_)
              · refine N_iinc_5_3_1 d_Md_stuck_93 rfl rfl ?_
                refine P_goto d_Md_stuck_96 12 (by decide) ?_
                first
                | omega
                | exact ih (tP T - (p + 1)) (by omega) (p + 1) mr (.int (nI 0)) (by omega) hmr hm0 rfl
                | exact ih (tP T - (p + 1)) (by omega) (p + 1) mr (.int (nI 1)) (by omega) hmr hm0 rfl
                | exact absurd (hfx p hpp (by rw [← Bool.not_eq_true]; assumption) (by first | exact Or.inl (by assumption) | exact Or.inr ⟨by omega, by assumption⟩)) (by assumption)
              · refine g_iload_n d_Md_stuck_77 rfl ?_
                refine g_iload_n d_Md_stuck_78 rfl ?_
                refine C_S2 d_Md_stuck_79 k_Md_236 (Nat.le_of_ble_eq_true rfl) (by decide) (Nat.le_of_ble_eq_true rfl) ?_
                refine (c_Md_has (by omega) (by omega)) ?_
                refine B_ne d_Md_stuck_82 93 (by decide) (fun c16 => ?_) (fun c16 => ?_)
                · refine N_iinc_5_3_1 d_Md_stuck_93 rfl rfl ?_
                  refine P_goto d_Md_stuck_96 12 (by decide) ?_
                  first
                  | omega
                  | exact ih (tP T - (p + 1)) (by omega) (p + 1) mr (.int (nI 0)) (by omega) hmr hm0 rfl
                  | exact ih (tP T - (p + 1)) (by omega) (p + 1) mr (.int (nI 1)) (by omega) hmr hm0 rfl
                  | exact absurd (hfx p hpp (by rw [← Bool.not_eq_true]; assumption) (by first | exact Or.inl (by assumption) | exact Or.inr ⟨by omega, by assumption⟩)) (by assumption)
                · refine g_iload_n d_Md_stuck_85 rfl ?_
                  refine N_iconst d_Md_stuck_86 1 rfl ?_
                  refine g_iload_n d_Md_stuck_87 rfl ?_
                  refine N_ishl d_Md_stuck_88 (by omega) (p2_lt (by omega)) ?_
                  refine N_ior d_Md_stuck_89 ?_
                  refine S_istore_n_5_1 d_Md_stuck_90 rfl rfl ?_
                  refine N_iconst d_Md_stuck_91 1 rfl ?_
                  refine S_istore_n_5_2 d_Md_stuck_92 rfl rfl ?_
                  refine N_iinc_5_3_1 d_Md_stuck_93 rfl rfl ?_
                  refine P_goto d_Md_stuck_96 12 (by decide) ?_
                  first
                  | omega
                  | exact ih (tP T - (p + 1)) (by omega) (p + 1) mr (.int (nI 0)) (by omega) hmr hm0 rfl
                  | exact ih (tP T - (p + 1)) (by omega) (p + 1) mr (.int (nI 1)) (by omega) hmr hm0 rfl
                  | exact absurd (hfx p hpp (by rw [← Bool.not_eq_true]; assumption) (by first | exact Or.inl (by assumption) | exact Or.inr ⟨by omega, by assumption⟩)) (by assumption)

theorem c_Md_stuck {X : CX} {dl : List (Nat × Nat)} {mI : Nat → Nat → Int32} {dr : Nat → Nat → Nat} {Q : Option Value → AH → Prop} {T : TD} (hw : TW T) (hT : TM 3 7 142 T mI) {σ : AS} (hS : SM 0 T σ (KO T σ) mI) (k : Q (some (.int (nI (nvN T (KO T σ))))) (hp X dl mI dr)) : EW X m_Md_stuck 0 (enL m_Md_stuck.2.2.1 [.ref 139]) [] (hp X dl mI dr) Q := by
  show EW X m_Md_stuck 0 [.ref 139, jk, jk, jk, jk] [] (hp X dl mI dr) Q
  have hw1 := hw.1
  have hw2 := hw.2.1
  have es : nvN T (KO T σ) = nvM T (KO T σ) (tP T) := rfl
  rw [es] at k
  have hs10 : nvM T (KO T σ) (tP T) < 2 ^ 10 := Nat.lt_of_lt_of_le (nvM_lt T (KO T σ) _) (Nat.pow_le_pow_right (by decide) (by omega))
  refine N_iconst d_Md_stuck_0 0 rfl ?_
  refine S_istore_n_5_1 d_Md_stuck_1 rfl rfl ?_
  refine N_iconst d_Md_stuck_2 1 rfl ?_
  refine S_istore_n_5_2 d_Md_stuck_3 rfl rfl ?_
  refine g_iload_n d_Md_stuck_4 rfl ?_
  refine N_if_eq d_Md_stuck_5 102 (by decide) (by omega) (fun c1 => ?_) (fun c1 => ?_)
  · omega
  · refine N_iconst d_Md_stuck_8 0 rfl ?_
    refine S_istore_n_5_2 d_Md_stuck_9 rfl rfl ?_
    refine N_iconst d_Md_stuck_10 0 rfl ?_
    refine S_istore_n_5_3 d_Md_stuck_11 rfl rfl ?_
    refine lp_Md_stuckA hw hT hS (fun mr v3 v4 hmr => ?_) _ 0 0 _ (Nat.zero_le _) (by omega) rfl
    refine g_iload_n d_Md_stuck_4 rfl ?_
    refine N_if_eq d_Md_stuck_5 102 (by decide) (by omega) (fun z => ?_) (fun z => ?_)
    · refine g_iload_n d_Md_stuck_102 rfl ?_
      refine P_iret d_Md_stuck_103 rfl ?_
      exact k
    · refine N_iconst d_Md_stuck_8 0 rfl ?_
      refine S_istore_n_5_2 d_Md_stuck_9 rfl rfl ?_
      refine N_iconst d_Md_stuck_10 0 rfl ?_
      refine S_istore_n_5_3 d_Md_stuck_11 rfl rfl ?_
      refine lp_Md_stuckB hw hT hS hs10 (fun p q1 q2 q3 => nv_fix hw _ q1 q2 q3) (fun mr2 w3 w4 hmr2 h0 => ?_) _ 0 0 _ (Nat.zero_le _) (by omega) rfl rfl
      refine g_iload_n d_Md_stuck_4 rfl ?_
      refine N_if_eq d_Md_stuck_5 102 (by decide) (by omega) (fun z => ?_) (fun z => absurd h0 z)
      refine g_iload_n d_Md_stuck_102 rfl ?_
      refine P_iret d_Md_stuck_103 rfl ?_
      exact k

theorem lg_ones (T : TD) : ∀ m, (lgN T m).2 = onesN (lgN T m).1 10
  | 0 => show 0 = onesN 0 10 by decide
  | 1 => show 0 = onesN 0 10 by decide
  | m + 2 => by
    rw [lgN, lgS]
    split
    · rfl
    · exact lg_ones T (m + 1)
theorem lg_lt (T : TD) : ∀ m, (lgN T m).1 < m + 1
  | 0 => show 0 < 0 + 1 by decide
  | 1 => show 0 < 1 + 1 by decide
  | m + 2 => by
    have := lg_lt T (m + 1)
    rw [lgN, lgS]
    split
    · show m + 1 < _; omega
    · omega
/-- one set more -/
theorem lg_step (T : TD) (s : Nat) : (lgN T (s + 1)).1 = if pcB T s (tP T) = true ∧ onesN (lgN T s).1 10 < onesN s 10 then s else (lgN T s).1 := by
  cases s with
  | zero => rw [show lgN T (0 + 1) = (0, 0) from rfl, show lgN T 0 = (0, 0) from rfl]; split <;> rfl
  | succ m =>
    rw [show lgN T (m + 1 + 1) = lgS T (lgN T (m + 1)) (m + 1) from rfl, lgS, lg_ones]
    by_cases h : onesN (lgN T (m + 1)).1 10 < onesN (m + 1) 10 ∧ pcB T (m + 1) (tP T) = true
    · rw [if_pos h, if_pos ⟨h.2, h.1⟩]
    · rw [if_neg h, if_neg (fun z => h ⟨z.2, z.1⟩)]
theorem lp_Md_peace1 {X : CX} {dl : List (Nat × Nat)} {mI : Nat → Nat → Int32} {dr : Nat → Nat → Nat} {Q : Option Value → AH → Prop} {T : TD} (hw : TW T) (hT : TM 3 7 142 T mI) {s b : Nat} (hs : s < 2 ^ 10) (k : ∀ v4, EW X m_Md_peace 65 [.ref 139, .int (nI b), .int (nI s), .int (bI (pcB T s (tP T) = true)), v4] [] (hp X dl mI dr) Q) : ∀ (d : Nat) (i : Nat), (i ≤ tP T) → tP T - i = d → EW X m_Md_peace 19 [.ref 139, .int (nI b), .int (nI s), .int (bI (pcB T s i = true)), .int (nI i)] [] (hp X dl mI dr) Q := by
  intro d
  induction d using Nat.strongRecOn with
  | _ d ih =>
    intro i hi hd
    have hw1 := hw.1
    have hw2 := hw.2.1
    refine g_iload d_Md_peace_19 rfl ?_
    refine g_aload_n d_Md_peace_21 rfl ?_
    refine H_getI d_Md_peace_22 f_Md_115.g rfl rfl (by decide) ?_
    refine T_int (nI (tP T)) hT.2.1 ?_
    refine N_icmp_ge d_Md_peace_25 65 (by decide) ⟨by omega, by omega⟩ (fun c1 => ?_) (fun c1 => ?_)
    · have e : i = tP T := by omega
      subst e
      exact k _
    · have hip : i < tP T := by omega
      have hsf := (hw.2.2.2 i hip).2.2.2.2.2
      have hsf2 : tsf T i < 2 ^ 31 := p2_31 hsf hw2
      have hal : tsf T i &&& s ≤ s := Nat.and_le_right
      have ep : pcB T s (i + 1) = (pcB T s i && (!(s.testBit i) || decide (s &&& tsf T i = 0))) := rfl
      refine g_iload_n d_Md_peace_28 rfl ?_
      refine B_eq d_Md_peace_29 57 (by decide) (fun c2 => ?_) (fun c2 => ?_)
      · refine N_iconst d_Md_peace_57 0 rfl ?_
        refine S_istore_n_5_3 d_Md_peace_58 rfl rfl ?_
        refine N_iinc_5_4_1 d_Md_peace_59 rfl rfl ?_
        refine P_goto d_Md_peace_62 19 (by decide) ?_
        have g := ih (tP T - (i + 1)) (by omega) (i + 1) (by omega) rfl
        rw [ep] at g
        first
          | (rw [show bI ((pcB T s i && (!(s.testBit i) || decide (s &&& tsf T i = 0))) = true) = nI 0 from bI_f' (by
               first
                 | (have y : ¬ pcB T s i = true := by assumption
                    simp [y])
                 | (have y1 : s.testBit i = true := by assumption
                    have y2 : ¬ tsf T i &&& s = 0 := by assumption
                    rw [Nat.and_comm] at y2
                    simp [y1, y2]))] at g
             exact g)
          | (rw [show bI ((pcB T s i && (!(s.testBit i) || decide (s &&& tsf T i = 0))) = true) = nI 1 from bI_t' (by
               have y : pcB T s i = true := by assumption
               first
                 | (have y1 : ¬ s.testBit i = true := by assumption
                    simp [y, y1])
                 | (have y2 : tsf T i &&& s = 0 := by assumption
                    rw [Nat.and_comm] at y2
                    simp [y, y2]))] at g
             exact g)
      · refine g_iload_n d_Md_peace_32 rfl ?_
        refine g_iload d_Md_peace_33 rfl ?_
        refine C_S2 d_Md_peace_35 k_Md_236 (Nat.le_of_ble_eq_true rfl) (by decide) (Nat.le_of_ble_eq_true rfl) ?_
        refine (c_Md_has (by omega) (by omega)) ?_
        refine B_eq d_Md_peace_38 53 (by decide) (fun c3 => ?_) (fun c3 => ?_)
        · refine N_iconst d_Md_peace_53 1 rfl ?_
          refine P_goto d_Md_peace_54 58 (by decide) ?_
          refine S_istore_n_5_3 d_Md_peace_58 rfl rfl ?_
          refine N_iinc_5_4_1 d_Md_peace_59 rfl rfl ?_
          refine P_goto d_Md_peace_62 19 (by decide) ?_
          have g := ih (tP T - (i + 1)) (by omega) (i + 1) (by omega) rfl
          rw [ep] at g
          first
            | (rw [show bI ((pcB T s i && (!(s.testBit i) || decide (s &&& tsf T i = 0))) = true) = nI 0 from bI_f' (by
                 first
                   | (have y : ¬ pcB T s i = true := by assumption
                      simp [y])
                   | (have y1 : s.testBit i = true := by assumption
                      have y2 : ¬ tsf T i &&& s = 0 := by assumption
                      rw [Nat.and_comm] at y2
                      simp [y1, y2]))] at g
               exact g)
            | (rw [show bI ((pcB T s i && (!(s.testBit i) || decide (s &&& tsf T i = 0))) = true) = nI 1 from bI_t' (by
                 have y : pcB T s i = true := by assumption
                 first
                   | (have y1 : ¬ s.testBit i = true := by assumption
                      simp [y, y1])
                   | (have y2 : tsf T i &&& s = 0 := by assumption
                      rw [Nat.and_comm] at y2
                      simp [y, y2]))] at g
               exact g)
        · refine g_aload_n d_Md_peace_41 rfl ?_
          refine H_getR 149 d_Md_peace_42 f_Md_38.g rfl rfl (by decide) rfl ?_
          refine g_iload d_Md_peace_45 rfl ?_
          refine H_ialdN d_Md_peace_47 rfl rfl (by omega) (by decide) ?_
          refine T_int (nI (tsf T i)) (hT.2.2.2.1 i hip).2.2.2.2 ?_
          refine g_iload_n d_Md_peace_48 rfl ?_
          refine N_iand d_Md_peace_49 ?_
          refine N_if_ne d_Md_peace_50 57 (by decide) (by omega) (fun c4 => ?_) (fun c4 => ?_)
          · refine N_iconst d_Md_peace_57 0 rfl ?_
            refine S_istore_n_5_3 d_Md_peace_58 rfl rfl ?_
            refine N_iinc_5_4_1 d_Md_peace_59 rfl rfl ?_
            refine P_goto d_Md_peace_62 19 (by decide) ?_
            have g := ih (tP T - (i + 1)) (by omega) (i + 1) (by omega) rfl
            rw [ep] at g
            first
              | (rw [show bI ((pcB T s i && (!(s.testBit i) || decide (s &&& tsf T i = 0))) = true) = nI 0 from bI_f' (by
                   first
                     | (have y : ¬ pcB T s i = true := by assumption
                        simp [y])
                     | (have y1 : s.testBit i = true := by assumption
                        have y2 : ¬ tsf T i &&& s = 0 := by assumption
                        rw [Nat.and_comm] at y2
                        simp [y1, y2]))] at g
                 exact g)
              | (rw [show bI ((pcB T s i && (!(s.testBit i) || decide (s &&& tsf T i = 0))) = true) = nI 1 from bI_t' (by
                   have y : pcB T s i = true := by assumption
                   first
                     | (have y1 : ¬ s.testBit i = true := by assumption
                        simp [y, y1])
                     | (have y2 : tsf T i &&& s = 0 := by assumption
                        rw [Nat.and_comm] at y2
                        simp [y, y2]))] at g
                 exact g)
          · refine N_iconst d_Md_peace_53 1 rfl ?_
            refine P_goto d_Md_peace_54 58 (by decide) ?_
            refine S_istore_n_5_3 d_Md_peace_58 rfl rfl ?_
            refine N_iinc_5_4_1 d_Md_peace_59 rfl rfl ?_
            refine P_goto d_Md_peace_62 19 (by decide) ?_
            have g := ih (tP T - (i + 1)) (by omega) (i + 1) (by omega) rfl
            rw [ep] at g
            first
              | (rw [show bI ((pcB T s i && (!(s.testBit i) || decide (s &&& tsf T i = 0))) = true) = nI 0 from bI_f' (by
                   first
                     | (have y : ¬ pcB T s i = true := by assumption
                        simp [y])
                     | (have y1 : s.testBit i = true := by assumption
                        have y2 : ¬ tsf T i &&& s = 0 := by assumption
                        rw [Nat.and_comm] at y2
                        simp [y1, y2]))] at g
                 exact g)
              | (rw [show bI ((pcB T s i && (!(s.testBit i) || decide (s &&& tsf T i = 0))) = true) = nI 1 from bI_t' (by
                   have y : pcB T s i = true := by assumption
                   first
                     | (have y1 : ¬ s.testBit i = true := by assumption
                        simp [y, y1])
                     | (have y2 : tsf T i &&& s = 0 := by assumption
                        rw [Nat.and_comm] at y2
                        simp [y, y2]))] at g
                 exact g)

theorem lp_Md_peace2 {X : CX} {dl : List (Nat × Nat)} {mI : Nat → Nat → Int32} {dr : Nat → Nat → Nat} {Q : Option Value → AH → Prop} {T : TD} (hw : TW T) (hT : TM 3 7 142 T mI) (k : Q (some (.int (nI (lgN T (2 ^ tP T)).1))) (hp X dl mI dr)) : ∀ (d : Nat) (s : Nat) (v3 : Value) (v4 : Value), (s ≤ 2 ^ tP T) → 2 ^ tP T - s = d → EW X m_Md_peace 4 [.ref 139, .int (nI (lgN T s).1), .int (nI s), v3, v4] [] (hp X dl mI dr) Q := by
  intro d
  induction d using Nat.strongRecOn with
  | _ d ih =>
    intro s v3 v4 hs hd
    have hw1 := hw.1
    have hw2 := hw.2.1
    have h210 : 2 ^ tP T ≤ 2 ^ 10 := Nat.pow_le_pow_right (by decide) hw2
    have hlg := lg_lt T s
    have est := lg_step T s
    refine g_iload_n d_Md_peace_4 rfl ?_
    refine N_iconst d_Md_peace_5 1 rfl ?_
    refine g_aload_n d_Md_peace_6 rfl ?_
    refine H_getI d_Md_peace_7 f_Md_115.g rfl rfl (by decide) ?_
    refine T_int (nI (tP T)) hT.2.1 ?_
    refine N_ishl d_Md_peace_10 (by omega) (by rw [Nat.one_mul]; omega) ?_
    rw [Nat.one_mul]
    refine N_icmp_ge d_Md_peace_11 92 (by decide) ⟨by omega, by omega⟩ (fun c1 => ?_) (fun c1 => ?_)
    · refine g_iload_n d_Md_peace_92 rfl ?_
      refine P_iret d_Md_peace_93 rfl ?_
      have e : s = 2 ^ tP T := by omega
      subst e
      exact k
    · refine N_iconst d_Md_peace_14 1 rfl ?_
      refine S_istore_n_5_3 d_Md_peace_15 rfl rfl ?_
      refine N_iconst d_Md_peace_16 0 rfl ?_
      refine S_istore_5_4 d_Md_peace_17 rfl rfl ?_
      refine lp_Md_peace1 hw hT (by omega) (fun w4 => ?_) _ 0 (Nat.zero_le _) rfl
      refine g_iload_n d_Md_peace_65 rfl ?_
      refine B_eq d_Md_peace_66 84 (by decide) (fun dd1 => ?_) (fun dd1 => ?_)
      · refine g_iload_n d_Md_peace_84 rfl ?_
        refine S_istore_n_5_1 d_Md_peace_85 rfl rfl ?_
        refine N_iinc_5_2_1 d_Md_peace_86 rfl rfl ?_
        refine P_goto d_Md_peace_89 4 (by decide) ?_
        have g := ih (2 ^ tP T - (s + 1)) (by omega) (s + 1)
        rw [est] at g
        first
          | (rw [if_pos ⟨by assumption, by omega⟩] at g; exact g _ _ (by omega) rfl)
          | (rw [if_neg (fun z => absurd z.1 (by assumption))] at g; exact g _ _ (by omega) rfl)
          | (rw [if_neg (fun z => by have := z.2; omega)] at g; exact g _ _ (by omega) rfl)
      · refine g_iload_n d_Md_peace_69 rfl ?_
        refine C_S1 d_Md_peace_70 k_Md_290 (Nat.le_of_ble_eq_true rfl) (by decide) (Nat.le_of_ble_eq_true rfl) ?_
        refine (c_Md_ones (by omega)) ?_
        have ho1 := onesN_le s 10
        refine g_iload_n d_Md_peace_73 rfl ?_
        refine C_S1 d_Md_peace_74 k_Md_290 (Nat.le_of_ble_eq_true rfl) (by decide) (Nat.le_of_ble_eq_true rfl) ?_
        refine (c_Md_ones (by omega)) ?_
        have ho2 := onesN_le (lgN T s).1 10
        refine N_icmp_le d_Md_peace_77 84 (by decide) ⟨by omega, by omega⟩ (fun dd2 => ?_) (fun dd2 => ?_)
        · refine g_iload_n d_Md_peace_84 rfl ?_
          refine S_istore_n_5_1 d_Md_peace_85 rfl rfl ?_
          refine N_iinc_5_2_1 d_Md_peace_86 rfl rfl ?_
          refine P_goto d_Md_peace_89 4 (by decide) ?_
          have g := ih (2 ^ tP T - (s + 1)) (by omega) (s + 1)
          rw [est] at g
          first
            | (rw [if_pos ⟨by assumption, by omega⟩] at g; exact g _ _ (by omega) rfl)
            | (rw [if_neg (fun z => absurd z.1 (by assumption))] at g; exact g _ _ (by omega) rfl)
            | (rw [if_neg (fun z => by have := z.2; omega)] at g; exact g _ _ (by omega) rfl)
        · refine g_iload_n d_Md_peace_80 rfl ?_
          refine P_goto d_Md_peace_81 85 (by decide) ?_
          refine S_istore_n_5_1 d_Md_peace_85 rfl rfl ?_
          refine N_iinc_5_2_1 d_Md_peace_86 rfl rfl ?_
          refine P_goto d_Md_peace_89 4 (by decide) ?_
          have g := ih (2 ^ tP T - (s + 1)) (by omega) (s + 1)
          rw [est] at g
          first
            | (rw [if_pos ⟨by assumption, by omega⟩] at g; exact g _ _ (by omega) rfl)
            | (rw [if_neg (fun z => absurd z.1 (by assumption))] at g; exact g _ _ (by omega) rfl)
            | (rw [if_neg (fun z => by have := z.2; omega)] at g; exact g _ _ (by omega) rfl)

theorem c_Md_peace {X : CX} {dl : List (Nat × Nat)} {mI : Nat → Nat → Int32} {dr : Nat → Nat → Nat} {Q : Option Value → AH → Prop} {T : TD} (hw : TW T) (hT : TM 3 7 142 T mI) (k : Q (some (.int (nI (lgN T (2 ^ tP T)).1))) (hp X dl mI dr)) : EW X m_Md_peace 0 (enL m_Md_peace.2.2.1 [.ref 139]) [] (hp X dl mI dr) Q := by
  show EW X m_Md_peace 0 [.ref 139, jk, jk, jk, jk] [] (hp X dl mI dr) Q
  refine N_iconst d_Md_peace_0 0 rfl ?_
  refine S_istore_n_5_1 d_Md_peace_1 rfl rfl ?_
  refine N_iconst d_Md_peace_2 0 rfl ?_
  refine S_istore_n_5_2 d_Md_peace_3 rfl rfl ?_
  exact lp_Md_peace2 hw hT k _ 0 _ _ (Nat.zero_le _) rfl

theorem c_Md_seen {X : CX} {dl : List (Nat × Nat)} {mI : Nat → Nat → Int32} {dr : Nat → Nat → Nat} {Q : Option Value → AH → Prop} {G : GD} (hG : GM G mI) (hg : GW G) {s n d : Int32} (k : ∀ mI', GM (sSe G s n d).1 mI' → (∀ q, ¬ (q = 139 ∨ (164 ≤ q ∧ q ≤ 166)) → mI' q = mI q) → (∀ f, f ≠ 36 → mI' 139 f = mI 139 f) → Q (some (.int (sSe G s n d).2)) (hp X dl mI' dr)) : EW X m_Md_seen 0 (enL m_Md_seen.2.2.1 [.ref 139, .int s, .int n, .int d]) [] (hp X dl mI dr) Q := by
  show EW X m_Md_seen 0 [.ref 139, .int s, .int n, .int d] [] (hp X dl mI dr) Q
  refine g_iload_n d_Md_seen_0 rfl ?_
  refine P_i2l d_Md_seen_1 ?_
  refine P_lconst d_Md_seen_2 (lQ 1) rfl ?_
  refine P_ldc2 d_Md_seen_3 _ q_Md_302 ?_
  refine C_S3 d_Md_seen_6 k_Md_111 (Nat.le_of_ble_eq_true rfl) (by decide) (Nat.le_of_ble_eq_true rfl) ?_
  refine (c_Md_inI 1 9 rfl rfl) ?_
  refine B_eq d_Md_seen_9 36 (by decide) (fun c1 => ?_) (fun c1 => ?_)
  · refine P_bipush d_Md_seen_36 (-3) rfl ?_
    refine P_iret d_Md_seen_38 rfl ?_
    have hA : ¬ (1 ≤ s.toInt ∧ s.toInt ≤ 9) ∨ ¬ (1 ≤ n.toInt ∧ n.toInt ≤ 9) ∨ ¬ inN d 201 := by
      first
        | exact Or.inl (by assumption)
        | exact Or.inr (Or.inl (by assumption))
        | exact Or.inr (Or.inr (by assumption))
    have e : sSe G s n d = (G, -3) := by unfold sSe; rw [if_pos hA]
    rw [e] at k
    exact k _ hG (fun _ _ => rfl) (fun _ _ => rfl)
  · refine g_iload_n d_Md_seen_12 rfl ?_
    refine P_i2l d_Md_seen_13 ?_
    refine P_lconst d_Md_seen_14 (lQ 1) rfl ?_
    refine P_ldc2 d_Md_seen_15 _ q_Md_302 ?_
    refine C_S3 d_Md_seen_18 k_Md_111 (Nat.le_of_ble_eq_true rfl) (by decide) (Nat.le_of_ble_eq_true rfl) ?_
    refine (c_Md_inI 1 9 rfl rfl) ?_
    refine B_eq d_Md_seen_21 36 (by decide) (fun c2 => ?_) (fun c2 => ?_)
    · refine P_bipush d_Md_seen_36 (-3) rfl ?_
      refine P_iret d_Md_seen_38 rfl ?_
      have hA : ¬ (1 ≤ s.toInt ∧ s.toInt ≤ 9) ∨ ¬ (1 ≤ n.toInt ∧ n.toInt ≤ 9) ∨ ¬ inN d 201 := by
        first
          | exact Or.inl (by assumption)
          | exact Or.inr (Or.inl (by assumption))
          | exact Or.inr (Or.inr (by assumption))
      have e : sSe G s n d = (G, -3) := by unfold sSe; rw [if_pos hA]
      rw [e] at k
      exact k _ hG (fun _ _ => rfl) (fun _ _ => rfl)
    · refine g_iload_n d_Md_seen_24 rfl ?_
      refine P_i2l d_Md_seen_25 ?_
      refine P_lconst d_Md_seen_26 (lQ 0) rfl ?_
      refine P_ldc2 d_Md_seen_27 _ q_Md_306 ?_
      refine C_S3 d_Md_seen_30 k_Md_111 (Nat.le_of_ble_eq_true rfl) (by decide) (Nat.le_of_ble_eq_true rfl) ?_
      refine (c_Md_inN 201 rfl rfl) ?_
      refine B_ne d_Md_seen_33 39 (by decide) (fun c3 => ?_) (fun c3 => ?_)
      · have h1 := c1
        have h2 := c2
        have h3 := c3
        have hA : ¬ (¬ (1 ≤ s.toInt ∧ s.toInt ≤ 9) ∨ ¬ (1 ≤ n.toInt ∧ n.toInt ≤ 9) ∨ ¬ inN d 201) := fun z => z.elim (fun y => y h1) (fun z => z.elim (fun y => y h2) (fun y => y h3))
        clear c1 c2 c3
        obtain ⟨a, ha1, ha2, rfl⟩ := in_ex (a := 1) (b := 9) (by decide) h1
        obtain ⟨b, hb1, hb2, rfl⟩ := in_ex (a := 1) (b := 9) (by decide) h2
        obtain ⟨c, hc, rfl⟩ := inN_of h3 (by decide)
        have hg6 := hg.1
        rcases (show G.1 = 6 ∨ G.1 < 6 by omega) with h6 | h6
        · have e : sSe G (nI a) (nI b) (nI c) = (G, -5) := by unfold sSe; rw [if_neg hA, if_pos h6]
          rw [e] at k
          refine g_aload_n d_Md_seen_39 rfl ?_
          refine H_getI d_Md_seen_40 f_Md_229.g rfl rfl (by decide) ?_
          refine T_int (nI (G.1)) hG.1 ?_
          refine N_bipush d_Md_seen_43 6 rfl ?_
          refine N_icmp_ne d_Md_seen_45 51 (by decide) ⟨by omega, by omega⟩ (fun dd1 => ?_) (fun dd1 => ?_)
          · exact absurd h6 dd1
          · refine P_bipush d_Md_seen_48 (-5) rfl ?_
            refine P_iret d_Md_seen_50 rfl ?_
            exact k _ hG (fun _ _ => rfl) (fun _ _ => rfl)
        · have e : sSe G (nI a) (nI b) (nI c) = (gAdd G a b c, nI (G.1 + 1)) := by unfold sSe; rw [if_neg hA, if_neg (by omega), tN_nI (by omega), tN_nI (by omega), tN_nI (by omega)]
          rw [e] at k
          refine g_aload_n d_Md_seen_39 rfl ?_
          refine H_getI d_Md_seen_40 f_Md_229.g rfl rfl (by decide) ?_
          refine T_int (nI (G.1)) hG.1 ?_
          refine N_bipush d_Md_seen_43 6 rfl ?_
          refine N_icmp_ne d_Md_seen_45 51 (by decide) ⟨by omega, by omega⟩ (fun dd1 => ?_) (fun dd1 => ?_)
          · refine g_aload_n d_Md_seen_51 rfl ?_
            refine H_getR 164 d_Md_seen_52 f_Md_83.g rfl rfl (by decide) rfl ?_
            refine g_aload_n d_Md_seen_55 rfl ?_
            refine H_getI d_Md_seen_56 f_Md_229.g rfl rfl (by decide) ?_
            refine T_int (nI (G.1)) hG.1 ?_
            refine g_iload_n d_Md_seen_59 rfl ?_
            refine H_iastN d_Md_seen_60 rfl rfl (by omega) (by decide) ?_
            refine g_aload_n d_Md_seen_61 rfl ?_
            refine H_getR 165 d_Md_seen_62 f_Md_86.g rfl rfl (by decide) rfl ?_
            refine g_aload_n d_Md_seen_65 rfl ?_
            refine H_getI d_Md_seen_66 f_Md_229.g rfl rfl (by decide) ?_
            refine T_int (nI (G.1)) (by rw [sI_r (by omega)]; exact hG.1) ?_
            refine g_iload_n d_Md_seen_69 rfl ?_
            refine H_iastN d_Md_seen_70 rfl rfl (by omega) (by decide) ?_
            refine g_aload_n d_Md_seen_71 rfl ?_
            refine H_getR 166 d_Md_seen_72 f_Md_89.g rfl rfl (by decide) rfl ?_
            refine g_aload_n d_Md_seen_75 rfl ?_
            refine H_getI d_Md_seen_76 f_Md_229.g rfl rfl (by decide) ?_
            refine T_int (nI (G.1)) (by rw [sI_r (by omega), sI_r (by omega)]; exact hG.1) ?_
            refine g_iload_n d_Md_seen_79 rfl ?_
            refine H_iastN d_Md_seen_80 rfl rfl (by omega) (by decide) ?_
            refine g_aload_n d_Md_seen_81 rfl ?_
            refine P_dupA d_Md_seen_82 ?_
            refine H_getI d_Md_seen_83 f_Md_229.g rfl rfl (by decide) ?_
            refine T_int (nI (G.1)) (by rw [sI_r (by omega), sI_r (by omega), sI_r (by omega)]; exact hG.1) ?_
            refine N_iconst d_Md_seen_86 1 rfl ?_
            refine N_iadd d_Md_seen_87 ?_
            refine H_putI d_Md_seen_88 f_Md_229 rfl rfl (by decide) ?_
            refine g_aload_n d_Md_seen_91 rfl ?_
            refine H_getI d_Md_seen_92 f_Md_229.g rfl rfl (by decide) ?_
            refine T_int (nI (G.1 + 1)) (sI_s _ _ _ _) ?_
            refine P_iret d_Md_seen_95 rfl ?_
            refine k _ ⟨sI_s _ _ _ _, fun i hi => ?_⟩ (fun q hq => by rw [sI_r (by omega), sI_r (by omega), sI_r (by omega), sI_r (by omega)]) (fun f hf => by rw [sI_n (fun z => hf z.2), sI_r (by omega), sI_r (by omega), sI_r (by omega)])
            show _ = nI (va_up G.2.1 G.1 a i) ∧ _ = nI (va_up G.2.2.1 G.1 b i) ∧ _ = nI (va_up G.2.2.2 G.1 c i)
            have hi : i < G.1 + 1 := hi
            by_cases z : i = G.1
            · subst z
              rw [va_up_s, va_up_s, va_up_s]
              refine ⟨?_, ?_, ?_⟩
              · rw [sI_r (by omega), sI_r (by omega), sI_r (by omega)]; exact sI_s _ _ _ _
              · rw [sI_r (by omega), sI_r (by omega)]; exact sI_s _ _ _ _
              · rw [sI_r (by omega)]; exact sI_s _ _ _ _
            · rw [va_up_n _ _ z, va_up_n _ _ z, va_up_n _ _ z]
              obtain ⟨e1, e2, e3⟩ := hG.2 i (by omega)
              refine ⟨?_, ?_, ?_⟩
              · rw [sI_r (by omega), sI_r (by omega), sI_r (by omega), sI_n (fun y => z y.2)]; exact e1
              · rw [sI_r (by omega), sI_r (by omega), sI_n (fun y => z y.2), sI_r (by omega)]; exact e2
              · rw [sI_r (by omega), sI_n (fun y => z y.2), sI_r (by omega), sI_r (by omega)]; exact e3
          · omega
      · refine P_bipush d_Md_seen_36 (-3) rfl ?_
        refine P_iret d_Md_seen_38 rfl ?_
        have hA : ¬ (1 ≤ s.toInt ∧ s.toInt ≤ 9) ∨ ¬ (1 ≤ n.toInt ∧ n.toInt ≤ 9) ∨ ¬ inN d 201 := by
          first
            | exact Or.inl (by assumption)
            | exact Or.inr (Or.inl (by assumption))
            | exact Or.inr (Or.inr (by assumption))
        have e : sSe G s n d = (G, -3) := by unfold sSe; rw [if_pos hA]
        rw [e] at k
        exact k _ hG (fun _ _ => rfl) (fun _ _ => rfl)

theorem c_Md_forget {X : CX} {dl : List (Nat × Nat)} {mI : Nat → Nat → Int32} {dr : Nat → Nat → Nat} {Q : Option Value → AH → Prop} {G : GD} (hG : GM G mI) (k : ∀ mI', GM (0, G.2) mI' → (∀ q, ¬ (q = 139 ∨ (164 ≤ q ∧ q ≤ 166)) → mI' q = mI q) → (∀ f, f ≠ 36 → mI' 139 f = mI 139 f) → Q (some (.int (nI G.1))) (hp X dl mI' dr)) : EW X m_Md_forget 0 (enL m_Md_forget.2.2.1 [.ref 139]) [] (hp X dl mI dr) Q := by
  show EW X m_Md_forget 0 [.ref 139, jk] [] (hp X dl mI dr) Q
  refine g_aload_n d_Md_forget_0 rfl ?_
  refine H_getI d_Md_forget_1 f_Md_229.g rfl rfl (by decide) ?_
  refine T_int (nI G.1) hG.1 ?_
  refine S_istore_n_2_1 d_Md_forget_4 rfl rfl ?_
  refine g_aload_n d_Md_forget_5 rfl ?_
  refine N_iconst d_Md_forget_6 0 rfl ?_
  refine H_putI d_Md_forget_7 f_Md_229 rfl rfl (by decide) ?_
  refine g_iload_n d_Md_forget_10 rfl ?_
  refine P_iret d_Md_forget_11 rfl ?_
  exact k _ ⟨sI_s _ _ _ _, fun i hi => absurd hi (Nat.not_lt_zero _)⟩ (fun q hq => sI_r (by omega)) (fun f hf => sI_n (fun z => hf z.2))

theorem lp_Md_kinds1 {X : CX} {dl : List (Nat × Nat)} {mI : Nat → Nat → Int32} {dr : Nat → Nat → Nat} {Q : Option Value → AH → Prop} {G : GD} (hg : GW G) (hG : GM G mI) {s kd : Nat} (hk : kd < 5) (k : ∀ v4, EW X m_Md_kinds 68 [.ref 139, .int (nI s), .int (nI kd), .int (bI (fitB G kd G.1 = true)), v4] [] (hp X dl mI dr) Q) : ∀ (d : Nat) (i : Nat), (i ≤ G.1) → G.1 - i = d → EW X m_Md_kinds 14 [.ref 139, .int (nI s), .int (nI kd), .int (bI (fitB G kd i = true)), .int (nI i)] [] (hp X dl mI dr) Q := by
  intro d
  induction d using Nat.strongRecOn with
  | _ d ih =>
    intro i hi hd
    have hg6 := hg.1
    refine g_iload d_Md_kinds_14 rfl ?_
    refine g_aload_n d_Md_kinds_16 rfl ?_
    refine H_getI d_Md_kinds_17 f_Md_229.g rfl rfl (by decide) ?_
    refine T_int (nI (G.1)) hG.1 ?_
    refine N_icmp_ge d_Md_kinds_20 68 (by decide) ⟨by omega, by omega⟩ (fun c1 => ?_) (fun c1 => ?_)
    · have e : i = G.1 := by omega
      subst e
      exact k _
    · have hig : i < G.1 := by omega
      have hgi := hg.2 i hig
      have hdn := doesN_le (k := kd) (s := G.2.1 i) hgi.1
      have ef : fitB G kd (i + 1) = (fitB G kd i && decide (doesN kd (G.2.1 i) * G.2.2.1 i = G.2.2.2 i)) := rfl
      have hmu : G.2.2.1 i * doesN kd (G.2.1 i) ≤ 9 * 18 := Nat.mul_le_mul (by omega) hdn
      refine g_iload_n d_Md_kinds_23 rfl ?_
      refine B_eq d_Md_kinds_24 60 (by decide) (fun c2 => ?_) (fun c2 => ?_)
      · refine N_iconst d_Md_kinds_60 0 rfl ?_
        refine S_istore_n_5_3 d_Md_kinds_61 rfl rfl ?_
        refine N_iinc_5_4_1 d_Md_kinds_62 rfl rfl ?_
        refine P_goto d_Md_kinds_65 14 (by decide) ?_
        have g := ih (G.1 - (i + 1)) (by omega) (i + 1) (by omega) rfl
        rw [ef] at g
        first
          | (rw [show bI ((fitB G kd i && decide (doesN kd (G.2.1 i) * G.2.2.1 i = G.2.2.2 i)) = true) = nI 0 from bI_f' (by
               first
                 | (have y : ¬ fitB G kd i = true := by assumption
                    simp [y])
                 | (have y : ¬ G.2.2.1 i * doesN kd (G.2.1 i) = G.2.2.2 i := by assumption
                    rw [Nat.mul_comm] at y
                    simp [y]))] at g
             exact g)
          | (rw [show bI ((fitB G kd i && decide (doesN kd (G.2.1 i) * G.2.2.1 i = G.2.2.2 i)) = true) = nI 1 from bI_t' (by
               have y : fitB G kd i = true := by assumption
               have y2 : G.2.2.1 i * doesN kd (G.2.1 i) = G.2.2.2 i := by assumption
               rw [Nat.mul_comm] at y2
               simp [y, y2])] at g
             exact g)
      · refine g_aload_n d_Md_kinds_27 rfl ?_
        refine H_getR 165 d_Md_kinds_28 f_Md_86.g rfl rfl (by decide) rfl ?_
        refine g_iload d_Md_kinds_31 rfl ?_
        refine H_ialdN d_Md_kinds_33 rfl rfl (by omega) (by decide) ?_
        refine T_int (nI (G.2.2.1 i)) (hG.2 i hig).2.1 ?_
        refine g_iload_n d_Md_kinds_34 rfl ?_
        refine g_aload_n d_Md_kinds_35 rfl ?_
        refine H_getR 164 d_Md_kinds_36 f_Md_83.g rfl rfl (by decide) rfl ?_
        refine g_iload d_Md_kinds_39 rfl ?_
        refine H_ialdN d_Md_kinds_41 rfl rfl (by omega) (by decide) ?_
        refine T_int (nI (G.2.1 i)) (hG.2 i hig).1 ?_
        refine C_S2 d_Md_kinds_42 k_Md_248 (Nat.le_of_ble_eq_true rfl) (by decide) (Nat.le_of_ble_eq_true rfl) ?_
        refine (c_Md_does hk hgi.1) ?_
        refine N_imul d_Md_kinds_45 ?_
        refine g_aload_n d_Md_kinds_46 rfl ?_
        refine H_getR 166 d_Md_kinds_47 f_Md_89.g rfl rfl (by decide) rfl ?_
        refine g_iload d_Md_kinds_50 rfl ?_
        refine H_ialdN d_Md_kinds_52 rfl rfl (by omega) (by decide) ?_
        refine T_int (nI (G.2.2.2 i)) (hG.2 i hig).2.2 ?_
        refine N_icmp_ne d_Md_kinds_53 60 (by decide) ⟨by omega, by omega⟩ (fun c3 => ?_) (fun c3 => ?_)
        · refine N_iconst d_Md_kinds_60 0 rfl ?_
          refine S_istore_n_5_3 d_Md_kinds_61 rfl rfl ?_
          refine N_iinc_5_4_1 d_Md_kinds_62 rfl rfl ?_
          refine P_goto d_Md_kinds_65 14 (by decide) ?_
          have g := ih (G.1 - (i + 1)) (by omega) (i + 1) (by omega) rfl
          rw [ef] at g
          first
            | (rw [show bI ((fitB G kd i && decide (doesN kd (G.2.1 i) * G.2.2.1 i = G.2.2.2 i)) = true) = nI 0 from bI_f' (by
                 first
                   | (have y : ¬ fitB G kd i = true := by assumption
                      simp [y])
                   | (have y : ¬ G.2.2.1 i * doesN kd (G.2.1 i) = G.2.2.2 i := by assumption
                      rw [Nat.mul_comm] at y
                      simp [y]))] at g
               exact g)
            | (rw [show bI ((fitB G kd i && decide (doesN kd (G.2.1 i) * G.2.2.1 i = G.2.2.2 i)) = true) = nI 1 from bI_t' (by
                 have y : fitB G kd i = true := by assumption
                 have y2 : G.2.2.1 i * doesN kd (G.2.1 i) = G.2.2.2 i := by assumption
                 rw [Nat.mul_comm] at y2
                 simp [y, y2])] at g
               exact g)
        · refine N_iconst d_Md_kinds_56 1 rfl ?_
          refine P_goto d_Md_kinds_57 61 (by decide) ?_
          refine S_istore_n_5_3 d_Md_kinds_61 rfl rfl ?_
          refine N_iinc_5_4_1 d_Md_kinds_62 rfl rfl ?_
          refine P_goto d_Md_kinds_65 14 (by decide) ?_
          have g := ih (G.1 - (i + 1)) (by omega) (i + 1) (by omega) rfl
          rw [ef] at g
          first
            | (rw [show bI ((fitB G kd i && decide (doesN kd (G.2.1 i) * G.2.2.1 i = G.2.2.2 i)) = true) = nI 0 from bI_f' (by
                 first
                   | (have y : ¬ fitB G kd i = true := by assumption
                      simp [y])
                   | (have y : ¬ G.2.2.1 i * doesN kd (G.2.1 i) = G.2.2.2 i := by assumption
                      rw [Nat.mul_comm] at y
                      simp [y]))] at g
               exact g)
            | (rw [show bI ((fitB G kd i && decide (doesN kd (G.2.1 i) * G.2.2.1 i = G.2.2.2 i)) = true) = nI 1 from bI_t' (by
                 have y : fitB G kd i = true := by assumption
                 have y2 : G.2.2.1 i * doesN kd (G.2.1 i) = G.2.2.2 i := by assumption
                 rw [Nat.mul_comm] at y2
                 simp [y, y2])] at g
               exact g)

theorem lp_Md_kinds {X : CX} {dl : List (Nat × Nat)} {mI : Nat → Nat → Int32} {dr : Nat → Nat → Nat} {Q : Option Value → AH → Prop} {G : GD} (hg : GW G) (hG : GM G mI) (k : Q (some (.int (nI (pkN G 5)))) (hp X dl mI dr)) : ∀ (d : Nat) (i : Nat) (v3 : Value) (v4 : Value), (i ≤ 5) → 5 - i = d → EW X m_Md_kinds 4 [.ref 139, .int (nI (pkN G i)), .int (nI i), v3, v4] [] (hp X dl mI dr) Q := by
  intro d
  induction d using Nat.strongRecOn with
  | _ d ih =>
    intro i v3 v4 hi hd
    refine g_iload_n d_Md_kinds_4 rfl ?_
    refine N_iconst d_Md_kinds_5 4 rfl ?_
    refine N_icmp_gt d_Md_kinds_6 88 (by decide) ⟨by omega, by omega⟩ (fun c1 => ?_) (fun c1 => ?_)
    · refine g_iload_n d_Md_kinds_88 rfl ?_
      refine P_iret d_Md_kinds_89 rfl ?_
      have e : i = 5 := by omega
      subst e
      exact k
    · refine N_iconst d_Md_kinds_9 1 rfl ?_
      refine S_istore_n_5_3 d_Md_kinds_10 rfl rfl ?_
      refine N_iconst d_Md_kinds_11 0 rfl ?_
      refine S_istore_5_4 d_Md_kinds_12 rfl rfl ?_
      refine lp_Md_kinds1 hg hG (by omega) (fun w4 => ?_) _ 0 (Nat.zero_le _) rfl
      refine g_iload_n d_Md_kinds_68 rfl ?_
      refine g_iload_n d_Md_kinds_69 rfl ?_
      refine B_eq d_Md_kinds_70 79 (by decide) (fun dd1 => ?_) (fun dd1 => ?_)
      · refine N_iconst d_Md_kinds_79 0 rfl ?_
        refine N_ior d_Md_kinds_80 ?_
        refine S_istore_n_5_1 d_Md_kinds_81 rfl rfl ?_
        refine N_iinc_5_2_1 d_Md_kinds_82 rfl rfl ?_
        refine P_goto d_Md_kinds_85 4 (by decide) ?_
        have g := ih (5 - (i + 1)) (by omega) (i + 1)
        rw [pkN_s, pk1] at g
        first
          | (rw [if_pos (by assumption), ← Nat.one_mul (2 ^ i)] at g; exact g _ _ (by omega) rfl)
          | (rw [if_neg (by assumption), ← Nat.or_zero (pkN G i)] at g; exact g _ _ (by omega) rfl)
      · refine N_iconst d_Md_kinds_73 1 rfl ?_
        refine g_iload_n d_Md_kinds_74 rfl ?_
        refine N_ishl d_Md_kinds_75 (by omega) (p2_lt (by omega)) ?_
        refine P_goto d_Md_kinds_76 80 (by decide) ?_
        refine N_ior d_Md_kinds_80 ?_
        refine S_istore_n_5_1 d_Md_kinds_81 rfl rfl ?_
        refine N_iinc_5_2_1 d_Md_kinds_82 rfl rfl ?_
        refine P_goto d_Md_kinds_85 4 (by decide) ?_
        have g := ih (5 - (i + 1)) (by omega) (i + 1)
        rw [pkN_s, pk1] at g
        first
          | (rw [if_pos (by assumption), ← Nat.one_mul (2 ^ i)] at g; exact g _ _ (by omega) rfl)
          | (rw [if_neg (by assumption), ← Nat.or_zero (pkN G i)] at g; exact g _ _ (by omega) rfl)

theorem c_Md_kinds {X : CX} {dl : List (Nat × Nat)} {mI : Nat → Nat → Int32} {dr : Nat → Nat → Nat} {Q : Option Value → AH → Prop} {G : GD} (hg : GW G) (hG : GM G mI) (k : Q (some (.int (nI (pkN G 5)))) (hp X dl mI dr)) : EW X m_Md_kinds 0 (enL m_Md_kinds.2.2.1 [.ref 139]) [] (hp X dl mI dr) Q := by
  show EW X m_Md_kinds 0 [.ref 139, jk, jk, jk, jk] [] (hp X dl mI dr) Q
  refine N_iconst d_Md_kinds_0 0 rfl ?_
  refine S_istore_n_5_1 d_Md_kinds_1 rfl rfl ?_
  refine N_iconst d_Md_kinds_2 0 rfl ?_
  refine S_istore_n_5_2 d_Md_kinds_3 rfl rfl ?_
  exact lp_Md_kinds hg hG k _ 0 _ _ (Nat.zero_le _) rfl

