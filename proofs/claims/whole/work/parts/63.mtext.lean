theorem TM.cp {f1 p1 f2 p2 a b : Nat} {T : TD} {mI mI' : Nat → Nat → Int32} (h : TM f1 p1 a T mI) (hw : TW T) (h1 : mI' 139 f2 = mI 139 f1) (h2 : mI' 139 p2 = mI 139 p1) (h3 : ∀ c, c < 3 → ∀ j, j < 5 → mI' (b + c) j = mI (a + c) j) (h4 : ∀ c, 3 ≤ c → c < 8 → ∀ j, j < 10 → mI' (b + c) j = mI (a + c) j) : TM f2 p2 b T mI' := by
  have hw1 := hw.1
  have hw2 := hw.2.1
  obtain ⟨g1, g2, g3, g4, g5⟩ := h
  have e0 := h3 0 (by omega)
  refine ⟨h1.trans g1, h2.trans g2, fun i hi => ⟨(e0 i (by omega)).trans (g3 i hi).1, (h3 1 (by omega) i (by omega)).trans (g3 i hi).2.1, (h3 2 (by omega) i (by omega)).trans (g3 i hi).2.2⟩, fun p hp1 => ⟨(h4 3 (by omega) (by omega) p (by omega)).trans (g4 p hp1).1, (h4 4 (by omega) (by omega) p (by omega)).trans (g4 p hp1).2.1, (h4 5 (by omega) (by omega) p (by omega)).trans (g4 p hp1).2.2.1, (h4 6 (by omega) (by omega) p (by omega)).trans (g4 p hp1).2.2.2.1, (h4 7 (by omega) (by omega) p (by omega)).trans (g4 p hp1).2.2.2.2⟩, fun p q1 q2 => (h4 7 (by omega) (by omega) p q2).trans (g5 p q1 q2)⟩
theorem lp_Md_tellsAll1 {X : CX} {dl : List (Nat × Nat)} {mI : Nat → Nat → Int32} {dr : Nat → Nat → Nat} {Q : Option Value → AH → Prop} (k : ∀ mI' v1, (∀ c, c < 3 → ∀ j, j < 5 → mI' (151 + c) j = mI (142 + c) j) → (∀ q, ¬ (151 ≤ q ∧ q < 151 + 3) → mI' q = mI q) → EW X m_Md_tellsAll 65 [.ref 139, v1] [] (hp X dl mI' dr) Q) : ∀ (d : Nat) (i : Nat) (mI2 : Nat → Nat → Int32), (i ≤ 5) → (∀ c, c < 3 → ∀ j, j < i → mI2 (151 + c) j = mI (142 + c) j) → (∀ q, ¬ (151 ≤ q ∧ q < 151 + 3) → mI2 q = mI q) → 5 - i = d → EW X m_Md_tellsAll 18 [.ref 139, .int (nI i)] [] (hp X dl mI2 dr) Q := by
  intro d
  induction d using Nat.strongRecOn with
  | _ d ih =>
    intro i mI2 hi h1 hF hd
    refine g_iload_n d_Md_tellsAll_18 rfl ?_
    refine N_iconst d_Md_tellsAll_19 5 rfl ?_
    refine N_icmp_ge d_Md_tellsAll_20 65 (by decide) ⟨by omega, by omega⟩ (fun c1 => ?_) (fun c1 => ?_)
    · exact k mI2 _ (fun c hc j hj => h1 c hc j (by omega)) hF
    · refine g_aload_n d_Md_tellsAll_23 rfl ?_
      refine H_getR 151 d_Md_tellsAll_24 f_Md_44.g rfl rfl (by decide) rfl ?_
      refine g_iload_n d_Md_tellsAll_27 rfl ?_
      refine g_aload_n d_Md_tellsAll_28 rfl ?_
      refine H_getR 142 d_Md_tellsAll_29 f_Md_17.g rfl rfl (by decide) rfl ?_
      refine g_iload_n d_Md_tellsAll_32 rfl ?_
      refine H_ialdN d_Md_tellsAll_33 rfl rfl (by omega) (by decide) ?_
      refine T_int (mI 142 i) (by rw [hF _ (by omega)]) ?_
      refine H_iastN d_Md_tellsAll_34 rfl rfl (by omega) (by decide) ?_
      refine g_aload_n d_Md_tellsAll_35 rfl ?_
      refine H_getR 152 d_Md_tellsAll_36 f_Md_47.g rfl rfl (by decide) rfl ?_
      refine g_iload_n d_Md_tellsAll_39 rfl ?_
      refine g_aload_n d_Md_tellsAll_40 rfl ?_
      refine H_getR 143 d_Md_tellsAll_41 f_Md_20.g rfl rfl (by decide) rfl ?_
      refine g_iload_n d_Md_tellsAll_44 rfl ?_
      refine H_ialdN d_Md_tellsAll_45 rfl rfl (by omega) (by decide) ?_
      refine T_int (mI 143 i) (by rw [sI_r (by omega), hF _ (by omega)]) ?_
      refine H_iastN d_Md_tellsAll_46 rfl rfl (by omega) (by decide) ?_
      refine g_aload_n d_Md_tellsAll_47 rfl ?_
      refine H_getR 153 d_Md_tellsAll_48 f_Md_50.g rfl rfl (by decide) rfl ?_
      refine g_iload_n d_Md_tellsAll_51 rfl ?_
      refine g_aload_n d_Md_tellsAll_52 rfl ?_
      refine H_getR 144 d_Md_tellsAll_53 f_Md_23.g rfl rfl (by decide) rfl ?_
      refine g_iload_n d_Md_tellsAll_56 rfl ?_
      refine H_ialdN d_Md_tellsAll_57 rfl rfl (by omega) (by decide) ?_
      refine T_int (mI 144 i) (by rw [sI_r (by omega), sI_r (by omega), hF _ (by omega)]) ?_
      refine H_iastN d_Md_tellsAll_58 rfl rfl (by omega) (by decide) ?_
      refine N_iinc_2_1_1 d_Md_tellsAll_59 rfl rfl ?_
      refine P_goto d_Md_tellsAll_62 18 (by decide) ?_
      refine ih (5 - (i + 1)) (by omega) (i + 1) _ (by omega) (fun c hc j hj => ?_) (fun q hq => by rw [sI_r (by omega), sI_r (by omega), sI_r (by omega)]; exact hF q hq) rfl
      rcases (show c = 0 ∨ c = 1 ∨ c = 2 by omega) with rfl | rfl | rfl
      · show _ = mI 142 j
        rw [sI_r (by omega), sI_r (by omega)]
        by_cases z : j = i
        · rw [z, sI_s]
        · rw [sI_n (fun y => z y.2)]; exact h1 0 (by omega) j (by omega)
      · show _ = mI 143 j
        rw [sI_r (by omega)]
        by_cases z : j = i
        · rw [z, sI_s]
        · rw [sI_n (fun y => z y.2), sI_r (by omega)]; exact h1 1 (by omega) j (by omega)
      · show _ = mI 144 j
        by_cases z : j = i
        · rw [z, sI_s]
        · rw [sI_n (fun y => z y.2), sI_r (by omega), sI_r (by omega)]; exact h1 2 (by omega) j (by omega)

theorem lp_Md_tellsAll2 {X : CX} {dl : List (Nat × Nat)} {mI : Nat → Nat → Int32} {dr : Nat → Nat → Nat} {Q : Option Value → AH → Prop} (k : ∀ mI' v1, (∀ c, c < 5 → ∀ j, j < 10 → mI' (154 + c) j = mI (145 + c) j) → (∀ q, ¬ (154 ≤ q ∧ q < 154 + 5) → mI' q = mI q) → EW X m_Md_tellsAll 139 [.ref 139, v1] [] (hp X dl mI' dr) Q) : ∀ (d : Nat) (i : Nat) (mI2 : Nat → Nat → Int32), (i ≤ 10) → (∀ c, c < 5 → ∀ j, j < i → mI2 (154 + c) j = mI (145 + c) j) → (∀ q, ¬ (154 ≤ q ∧ q < 154 + 5) → mI2 q = mI q) → 10 - i = d → EW X m_Md_tellsAll 67 [.ref 139, .int (nI i)] [] (hp X dl mI2 dr) Q := by
  intro d
  induction d using Nat.strongRecOn with
  | _ d ih =>
    intro i mI2 hi h1 hF hd
    refine g_iload_n d_Md_tellsAll_67 rfl ?_
    refine N_bipush d_Md_tellsAll_68 10 rfl ?_
    refine N_icmp_ge d_Md_tellsAll_70 139 (by decide) ⟨by omega, by omega⟩ (fun c1 => ?_) (fun c1 => ?_)
    · exact k mI2 _ (fun c hc j hj => h1 c hc j (by omega)) hF
    · refine g_aload_n d_Md_tellsAll_73 rfl ?_
      refine H_getR 154 d_Md_tellsAll_74 f_Md_53.g rfl rfl (by decide) rfl ?_
      refine g_iload_n d_Md_tellsAll_77 rfl ?_
      refine g_aload_n d_Md_tellsAll_78 rfl ?_
      refine H_getR 145 d_Md_tellsAll_79 f_Md_26.g rfl rfl (by decide) rfl ?_
      refine g_iload_n d_Md_tellsAll_82 rfl ?_
      refine H_ialdN d_Md_tellsAll_83 rfl rfl (by omega) (by decide) ?_
      refine T_int (mI 145 i) (by rw [hF _ (by omega)]) ?_
      refine H_iastN d_Md_tellsAll_84 rfl rfl (by omega) (by decide) ?_
      refine g_aload_n d_Md_tellsAll_85 rfl ?_
      refine H_getR 155 d_Md_tellsAll_86 f_Md_56.g rfl rfl (by decide) rfl ?_
      refine g_iload_n d_Md_tellsAll_89 rfl ?_
      refine g_aload_n d_Md_tellsAll_90 rfl ?_
      refine H_getR 146 d_Md_tellsAll_91 f_Md_29.g rfl rfl (by decide) rfl ?_
      refine g_iload_n d_Md_tellsAll_94 rfl ?_
      refine H_ialdN d_Md_tellsAll_95 rfl rfl (by omega) (by decide) ?_
      refine T_int (mI 146 i) (by rw [sI_r (by omega), hF _ (by omega)]) ?_
      refine H_iastN d_Md_tellsAll_96 rfl rfl (by omega) (by decide) ?_
      refine g_aload_n d_Md_tellsAll_97 rfl ?_
      refine H_getR 156 d_Md_tellsAll_98 f_Md_59.g rfl rfl (by decide) rfl ?_
      refine g_iload_n d_Md_tellsAll_101 rfl ?_
      refine g_aload_n d_Md_tellsAll_102 rfl ?_
      refine H_getR 147 d_Md_tellsAll_103 f_Md_32.g rfl rfl (by decide) rfl ?_
      refine g_iload_n d_Md_tellsAll_106 rfl ?_
      refine H_ialdN d_Md_tellsAll_107 rfl rfl (by omega) (by decide) ?_
      refine T_int (mI 147 i) (by rw [sI_r (by omega), sI_r (by omega), hF _ (by omega)]) ?_
      refine H_iastN d_Md_tellsAll_108 rfl rfl (by omega) (by decide) ?_
      refine g_aload_n d_Md_tellsAll_109 rfl ?_
      refine H_getR 157 d_Md_tellsAll_110 f_Md_62.g rfl rfl (by decide) rfl ?_
      refine g_iload_n d_Md_tellsAll_113 rfl ?_
      refine g_aload_n d_Md_tellsAll_114 rfl ?_
      refine H_getR 148 d_Md_tellsAll_115 f_Md_35.g rfl rfl (by decide) rfl ?_
      refine g_iload_n d_Md_tellsAll_118 rfl ?_
      refine H_ialdN d_Md_tellsAll_119 rfl rfl (by omega) (by decide) ?_
      refine T_int (mI 148 i) (by rw [sI_r (by omega), sI_r (by omega), sI_r (by omega), hF _ (by omega)]) ?_
      refine H_iastN d_Md_tellsAll_120 rfl rfl (by omega) (by decide) ?_
      refine g_aload_n d_Md_tellsAll_121 rfl ?_
      refine H_getR 158 d_Md_tellsAll_122 f_Md_65.g rfl rfl (by decide) rfl ?_
      refine g_iload_n d_Md_tellsAll_125 rfl ?_
      refine g_aload_n d_Md_tellsAll_126 rfl ?_
      refine H_getR 149 d_Md_tellsAll_127 f_Md_38.g rfl rfl (by decide) rfl ?_
      refine g_iload_n d_Md_tellsAll_130 rfl ?_
      refine H_ialdN d_Md_tellsAll_131 rfl rfl (by omega) (by decide) ?_
      refine T_int (mI 149 i) (by rw [sI_r (by omega), sI_r (by omega), sI_r (by omega), sI_r (by omega), hF _ (by omega)]) ?_
      refine H_iastN d_Md_tellsAll_132 rfl rfl (by omega) (by decide) ?_
      refine N_iinc_2_1_1 d_Md_tellsAll_133 rfl rfl ?_
      refine P_goto d_Md_tellsAll_136 67 (by decide) ?_
      refine ih (10 - (i + 1)) (by omega) (i + 1) _ (by omega) (fun c hc j hj => ?_) (fun q hq => by rw [sI_r (by omega), sI_r (by omega), sI_r (by omega), sI_r (by omega), sI_r (by omega)]; exact hF q hq) rfl
      rcases (show c = 0 ∨ c = 1 ∨ c = 2 ∨ c = 3 ∨ c = 4 by omega) with rfl | rfl | rfl | rfl | rfl
      · show _ = mI 145 j
        rw [sI_r (by omega), sI_r (by omega), sI_r (by omega), sI_r (by omega)]
        by_cases z : j = i
        · rw [z, sI_s]
        · rw [sI_n (fun y => z y.2)]; exact h1 0 (by omega) j (by omega)
      · show _ = mI 146 j
        rw [sI_r (by omega), sI_r (by omega), sI_r (by omega)]
        by_cases z : j = i
        · rw [z, sI_s]
        · rw [sI_n (fun y => z y.2), sI_r (by omega)]; exact h1 1 (by omega) j (by omega)
      · show _ = mI 147 j
        rw [sI_r (by omega), sI_r (by omega)]
        by_cases z : j = i
        · rw [z, sI_s]
        · rw [sI_n (fun y => z y.2), sI_r (by omega), sI_r (by omega)]; exact h1 2 (by omega) j (by omega)
      · show _ = mI 148 j
        rw [sI_r (by omega)]
        by_cases z : j = i
        · rw [z, sI_s]
        · rw [sI_n (fun y => z y.2), sI_r (by omega), sI_r (by omega), sI_r (by omega)]; exact h1 3 (by omega) j (by omega)
      · show _ = mI 149 j
        by_cases z : j = i
        · rw [z, sI_s]
        · rw [sI_n (fun y => z y.2), sI_r (by omega), sI_r (by omega), sI_r (by omega), sI_r (by omega)]; exact h1 4 (by omega) j (by omega)

theorem c_Md_tellsAll {X : CX} {dl : List (Nat × Nat)} {mI : Nat → Nat → Int32} {dr : Nat → Nat → Nat} {Q : Option Value → AH → Prop} {T : TD} (hw : TW T) (hT : TM 3 7 142 T mI) (k : ∀ mI', TM 19 23 151 T mI' → F8 [19, 23] mI mI' → Q none (hp X dl mI' dr)) : EW X m_Md_tellsAll 0 (enL m_Md_tellsAll.2.2.1 [.ref 139]) [] (hp X dl mI dr) Q := by
  show EW X m_Md_tellsAll 0 [.ref 139, jk] [] (hp X dl mI dr) Q
  refine g_aload_n d_Md_tellsAll_0 rfl ?_
  refine g_aload_n d_Md_tellsAll_1 rfl ?_
  refine H_getI d_Md_tellsAll_2 f_Md_107.g rfl rfl (by decide) ?_
  refine T_int (nI (tn T)) hT.1 ?_
  refine H_putI d_Md_tellsAll_5 f_Md_176 rfl rfl (by decide) ?_
  refine g_aload_n d_Md_tellsAll_8 rfl ?_
  refine g_aload_n d_Md_tellsAll_9 rfl ?_
  refine H_getI d_Md_tellsAll_10 f_Md_115.g rfl rfl (by decide) ?_
  refine T_int (nI (tP T)) (by rw [sI_n (by omega)]; exact hT.2.1) ?_
  refine H_putI d_Md_tellsAll_13 f_Md_183 rfl rfl (by decide) ?_
  refine N_iconst d_Md_tellsAll_16 0 rfl ?_
  refine S_istore_n_2_1 d_Md_tellsAll_17 rfl rfl ?_
  have hE0 : F8 [19, 23] mI (sI (sI mI 139 19 (nI (tn T))) 139 23 (nI (tP T))) := F8_sI (F8_sI F8.rf (by decide)) (by decide)
  have h19 : (sI (sI mI 139 19 (nI (tn T))) 139 23 (nI (tP T))) 139 19 = nI (tn T) := by rw [sI_n (by omega), sI_s]
  have h23 : (sI (sI mI 139 19 (nI (tn T))) 139 23 (nI (tP T))) 139 23 = nI (tP T) := sI_s _ _ _ _
  have hq : ∀ q, q ≠ 139 → (sI (sI mI 139 19 (nI (tn T))) 139 23 (nI (tP T))) q = mI q := fun q hq => by rw [sI_r hq, sI_r hq]
  generalize sI (sI mI 139 19 (nI (tn T))) 139 23 (nI (tP T)) = mI0 at *
  refine lp_Md_tellsAll1 (fun mI1 v1 g1 g2 => ?_) _ 0 mI0 (Nat.zero_le _) (fun c _ j hj => absurd hj (Nat.not_lt_zero _)) (fun _ _ => rfl) rfl
  refine N_iconst d_Md_tellsAll_65 0 rfl ?_
  refine S_istore_n_2_1 d_Md_tellsAll_66 rfl rfl ?_
  refine lp_Md_tellsAll2 (fun mI2 v2 g3 g4 => ?_) _ 0 mI1 (Nat.zero_le _) (fun c _ j hj => absurd hj (Nat.not_lt_zero _)) (fun _ _ => rfl) rfl
  refine P_vret d_Md_tellsAll_139 rfl ?_
  refine k mI2 (hT.cp hw ?_ ?_ (fun c hc j hj => ?_) (fun c hc1 hc2 j hj => ?_)) ⟨fun q z1 z2 => by rw [g4 q (by omega), g2 q (by omega), hq q z1], fun f hf => by rw [g4 139 (by omega), g2 139 (by omega)]; exact hE0.2 f hf⟩
  · rw [g4 139 (by omega), g2 139 (by omega), h19]; exact hT.1.symm
  · rw [g4 139 (by omega), g2 139 (by omega), h23]; exact hT.2.1.symm
  · rw [g4 _ (by omega), g1 c hc j hj, hq _ (by omega)]
  · have := g3 (c - 3) (by omega) j hj
    rw [show 154 + (c - 3) = 151 + c by omega, show 145 + (c - 3) = 142 + c by omega] at this
    rw [this, g2 _ (by omega), hq _ (by omega)]

theorem mo8 : ∀ f : Nat, f ∈ [15, 16, 17, 18, 19, 23, 30] → f ∈ [15, 16, 17, 18, 19, 23, 29, 30] := by decide
theorem mo9 : ∀ f : Nat, f ∈ [15, 16, 17, 18] → f ∈ [15, 16, 17, 18, 19, 23, 29, 30] := by decide
theorem TM.f8 {S : List Nat} {T : TD} {mI mI' : Nat → Nat → Int32} (h : TM 3 7 142 T mI) (hF : F8 S mI mI') (hs : ¬ 3 ∈ S ∧ ¬ 7 ∈ S) : TM 3 7 142 T mI' := h.to (hF.2 3 hs.1) (hF.2 7 hs.2) (fun q z1 z2 => hF.1 q (by omega) (by omega))
theorem lp_Md_readsAll {X : CX} {dl : List (Nat × Nat)} {mI : Nat → Nat → Int32} {dr : Nat → Nat → Nat} {Q : Option Value → AH → Prop} {t : Nat → Int32} {L : Nat} {R : Option Nat × TD × Nat} (k : ∀ mI', XM t L mI' → (R.1 = none → TM 19 23 151 R.2.1 mI' ∧ TW R.2.1 ∧ mI' 139 29 = nI R.2.2) → F8 [15, 16, 17, 18, 19, 23, 29, 30] mI mI' → Q (some (.int (noI R.1))) (hp X dl mI' dr)) : ∀ (d : Nat) (c : Nat) (T2 : TD) (x : Nat) (mI2 : Nat → Nat → Int32), (c ≤ 23) → (TW T2) → (TKM t L x mI2) → (TM 19 23 151 T2 mI2) → (mI2 139 29 = nI c) → (R = rdN t L (24 - c) c T2 x) → (F8 [15, 16, 17, 18, 19, 23, 29, 30] mI mI2) → 24 - c = d → EW X m_Md_readsAll 20 [.ref 139, .int (nI 1)] [] (hp X dl mI2 dr) Q := by
  intro d
  induction d using Nat.strongRecOn with
  | _ d ih =>
    intro c T2 x mI2 hc hw hK hT h29 hR hF hd
    have hL := hK.1.1
    rw [show 24 - c = (24 - (c + 1)) + 1 by omega, rdN] at hR
    refine g_iload_n d_Md_readsAll_20 rfl ?_
    refine N_if_eq d_Md_readsAll_21 106 (by decide) (by omega) (fun c1 => ?_) (fun c1 => ?_)
    · omega
    · refine g_aload_n d_Md_readsAll_24 rfl ?_
      refine C_V0 d_Md_readsAll_25 k_Md_213 rfl (Nat.le_of_ble_eq_true rfl) (by decide) (Nat.le_of_ble_eq_true rfl) ?_
      refine c_Md_takesClause hw hK hT (fun mI3 g1 g2 hF3 => ?_)
      have hE3 := hF.tr (hF3.mo mo8)
      have hX3 := hK.1.f8 hF3 (by decide)
      have h293 : mI3 139 29 = nI c := (hF3.2 29 (by decide)).trans h29
      refine B_ne d_Md_readsAll_28 36 (by decide) (fun c2 => ?_) (fun c2 => ?_)
      · obtain ⟨hK3, hT3⟩ := g1 c2
        have hwc := TW_cl hw c2
        rw [if_neg (fun z => by rw [c2] at z; cases z)] at hR
        have hle := tk_le (t := t) hK3.2.1
        have hs3 := tkS_le t L (rdCl t L T2 x).2.2
        refine g_aload_n d_Md_readsAll_36 rfl ?_
        refine P_dupA d_Md_readsAll_37 ?_
        refine H_getI d_Md_readsAll_38 f_Md_210.g rfl rfl (by decide) ?_
        refine T_int (nI (c)) h293 ?_
        refine N_iconst d_Md_readsAll_41 1 rfl ?_
        refine N_iadd d_Md_readsAll_42 ?_
        refine H_putI d_Md_readsAll_43 f_Md_210 rfl rfl (by decide) ?_
        have hF4 : F9 [29] mI3 (sI mI3 139 29 (nI (c + 1))) := F9_sI F9.rf (by decide)
        have hK4 := hK3.f9 hF4 (by decide)
        have hT4 := hT3.f9 hF4 (by decide)
        have hE4 := hE3.tr (hF4.e (by decide))
        have h294 : sI mI3 139 29 (nI (c + 1)) 139 29 = nI (c + 1) := sI_s _ _ _ _
        generalize sI mI3 139 29 (nI (c + 1)) = mI4 at *
        refine g_aload_n d_Md_readsAll_46 rfl ?_
        refine H_getI d_Md_readsAll_47 f_Md_140.g rfl rfl (by decide) ?_
        refine T_int (nI (tkS t L (rdCl t L T2 x).2.2)) hK4.2.2.1 ?_
        refine N_if_eq d_Md_readsAll_50 57 (by decide) (by omega) (fun c3 => ?_) (fun c3 => ?_)
        · refine N_iconst d_Md_readsAll_57 0 rfl ?_
          refine S_istore_n_2_1 d_Md_readsAll_58 rfl rfl ?_
          refine g_iload_n d_Md_readsAll_59 rfl ?_
          refine N_if_eq d_Md_readsAll_60 20 (by decide) (by omega) (fun c4 => ?_) (fun c4 => ?_)
          · first
              | omega
              | (have hz : tkS t L (rdCl t L T2 x).2.2 = 0 := by assumption
                 rw [if_pos hz] at hR
                 refine g_iload_n d_Md_readsAll_20 rfl ?_
                 refine N_if_eq d_Md_readsAll_21 106 (by decide) (by omega) (fun _ => ?_) (fun z => absurd rfl z)
                 refine P_iconst d_Md_readsAll_106 (-1) rfl ?_
                 refine P_iret d_Md_readsAll_107 rfl ?_
                 exact R_i (k mI4 hK4.1 (fun _ => by rw [hR]; exact ⟨hT4, hwc, h294⟩) hE4) (by rw [hR]; rfl))
          · have hz : ¬ tkS t L (rdCl t L T2 x).2.2 = 0 := by first | assumption | omega
            rw [if_neg hz] at hR
            have hbl : tkB t L (rdCl t L T2 x).2.2 < L := by
              rcases Nat.lt_or_ge (tkB t L (rdCl t L T2 x).2.2) L with z | z
              · exact z
              · exact absurd (by rw [tkS, if_pos z]) hz
            refine g_aload_n d_Md_readsAll_63 rfl ?_
            refine H_getI d_Md_readsAll_64 f_Md_140.g rfl rfl (by decide) ?_
            refine T_int (nI (tkS t L (rdCl t L T2 x).2.2)) hK4.2.2.1 ?_
            refine N_iconst d_Md_readsAll_67 3 rfl ?_
            refine N_icmp_ne d_Md_readsAll_68 94 (by decide) ⟨by omega, by omega⟩ (fun c5 => ?_) (fun c5 => ?_)
            · refine g_aload_n d_Md_readsAll_94 rfl ?_
              refine H_getI d_Md_readsAll_95 f_Md_134.g rfl rfl (by decide) ?_
              refine T_int (nI (tkB t L (rdCl t L T2 x).2.2)) hK4.2.2.2.1 ?_
              refine P_iret d_Md_readsAll_98 rfl ?_
              have hB : ¬ (tkS t L (rdCl t L T2 x).2.2 = 3 ∧ t (tkB t L (rdCl t L T2 x).2.2) = nI 59) ∨ c + 1 = 24 := by
                first
                  | exact Or.inl (fun z => absurd z.1 (by assumption))
                  | exact Or.inl (fun z => absurd z.2 (by assumption))
                  | exact Or.inr (by assumption)
              rw [if_pos hB] at hR
              exact R_i (k mI4 hK4.1 (fun z => by rw [hR] at z; cases z) hE4) (by rw [hR]; rfl)
            · refine g_aload_n d_Md_readsAll_71 rfl ?_
              refine H_getR 150 d_Md_readsAll_72 f_Md_41.g rfl rfl (by decide) rfl ?_
              refine g_aload_n d_Md_readsAll_75 rfl ?_
              refine H_getI d_Md_readsAll_76 f_Md_134.g rfl rfl (by decide) ?_
              refine T_int (nI (tkB t L (rdCl t L T2 x).2.2)) hK4.2.2.2.1 ?_
              refine H_ialdN d_Md_readsAll_79 rfl rfl (show tkB t L (rdCl t L T2 x).2.2 < 200 by omega) (by decide) ?_
              refine T_int (t (tkB t L (rdCl t L T2 x).2.2)) (hK4.1.2.2 _ hbl) ?_
              refine N_bipush d_Md_readsAll_80 59 rfl ?_
              refine P_icmp_ne d_Md_readsAll_82 94 (by decide) (fun c6 => ?_) (fun c6 => ?_)
              · refine g_aload_n d_Md_readsAll_94 rfl ?_
                refine H_getI d_Md_readsAll_95 f_Md_134.g rfl rfl (by decide) ?_
                refine T_int (nI (tkB t L (rdCl t L T2 x).2.2)) hK4.2.2.2.1 ?_
                refine P_iret d_Md_readsAll_98 rfl ?_
                have hB : ¬ (tkS t L (rdCl t L T2 x).2.2 = 3 ∧ t (tkB t L (rdCl t L T2 x).2.2) = nI 59) ∨ c + 1 = 24 := by
                  first
                    | exact Or.inl (fun z => absurd z.1 (by assumption))
                    | exact Or.inl (fun z => absurd z.2 (by assumption))
                    | exact Or.inr (by assumption)
                rw [if_pos hB] at hR
                exact R_i (k mI4 hK4.1 (fun z => by rw [hR] at z; cases z) hE4) (by rw [hR]; rfl)
              · refine g_aload_n d_Md_readsAll_85 rfl ?_
                refine H_getI d_Md_readsAll_86 f_Md_210.g rfl rfl (by decide) ?_
                refine T_int (nI (c + 1)) h294 ?_
                refine N_bipush d_Md_readsAll_89 24 rfl ?_
                refine N_icmp_ne d_Md_readsAll_91 99 (by decide) ⟨by omega, by omega⟩ (fun c7 => ?_) (fun c7 => ?_)
                · have hB : ¬ (¬ (tkS t L (rdCl t L T2 x).2.2 = 3 ∧ t (tkB t L (rdCl t L T2 x).2.2) = nI 59) ∨ c + 1 = 24) := fun z => z.elim (fun y => y ⟨by assumption, by assumption⟩) (by assumption)
                  rw [if_neg hB] at hR
                  refine g_aload_n d_Md_readsAll_99 rfl ?_
                  refine C_V0 d_Md_readsAll_100 k_Md_153 rfl (Nat.le_of_ble_eq_true rfl) (by decide) (Nat.le_of_ble_eq_true rfl) ?_
                  refine c_Md_passesToken hK4 (fun mI5 hK5 hF5 => ?_)
                  refine P_goto d_Md_readsAll_103 20 (by decide) ?_
                  first | omega | exact ih (24 - (c + 1)) (by omega) (c + 1) _ _ mI5 (by omega) hwc hK5 (hT4.f9 hF5 (by decide)) ((hF5.2 29 (by decide)).trans h294) hR (hE4.tr (hF5.e mo9)) rfl
                · refine g_aload_n d_Md_readsAll_94 rfl ?_
                  refine H_getI d_Md_readsAll_95 f_Md_134.g rfl rfl (by decide) ?_
                  refine T_int (nI (tkB t L (rdCl t L T2 x).2.2)) hK4.2.2.2.1 ?_
                  refine P_iret d_Md_readsAll_98 rfl ?_
                  have hB : ¬ (tkS t L (rdCl t L T2 x).2.2 = 3 ∧ t (tkB t L (rdCl t L T2 x).2.2) = nI 59) ∨ c + 1 = 24 := by
                    first
                      | exact Or.inl (fun z => absurd z.1 (by assumption))
                      | exact Or.inl (fun z => absurd z.2 (by assumption))
                      | exact Or.inr (by assumption)
                  rw [if_pos hB] at hR
                  exact R_i (k mI4 hK4.1 (fun z => by rw [hR] at z; cases z) hE4) (by rw [hR]; rfl)
        · refine N_iconst d_Md_readsAll_53 1 rfl ?_
          refine P_goto d_Md_readsAll_54 58 (by decide) ?_
          refine S_istore_n_2_1 d_Md_readsAll_58 rfl rfl ?_
          refine g_iload_n d_Md_readsAll_59 rfl ?_
          refine N_if_eq d_Md_readsAll_60 20 (by decide) (by omega) (fun c8 => ?_) (fun c8 => ?_)
          · first
              | omega
              | (have hz : tkS t L (rdCl t L T2 x).2.2 = 0 := by assumption
                 rw [if_pos hz] at hR
                 refine g_iload_n d_Md_readsAll_20 rfl ?_
                 refine N_if_eq d_Md_readsAll_21 106 (by decide) (by omega) (fun _ => ?_) (fun z => absurd rfl z)
                 refine P_iconst d_Md_readsAll_106 (-1) rfl ?_
                 refine P_iret d_Md_readsAll_107 rfl ?_
                 exact R_i (k mI4 hK4.1 (fun _ => by rw [hR]; exact ⟨hT4, hwc, h294⟩) hE4) (by rw [hR]; rfl))
          · have hz : ¬ tkS t L (rdCl t L T2 x).2.2 = 0 := by first | assumption | omega
            rw [if_neg hz] at hR
            have hbl : tkB t L (rdCl t L T2 x).2.2 < L := by
              rcases Nat.lt_or_ge (tkB t L (rdCl t L T2 x).2.2) L with z | z
              · exact z
              · exact absurd (by rw [tkS, if_pos z]) hz
            refine g_aload_n d_Md_readsAll_63 rfl ?_
            refine H_getI d_Md_readsAll_64 f_Md_140.g rfl rfl (by decide) ?_
            refine T_int (nI (tkS t L (rdCl t L T2 x).2.2)) hK4.2.2.1 ?_
            refine N_iconst d_Md_readsAll_67 3 rfl ?_
            refine N_icmp_ne d_Md_readsAll_68 94 (by decide) ⟨by omega, by omega⟩ (fun c9 => ?_) (fun c9 => ?_)
            · refine g_aload_n d_Md_readsAll_94 rfl ?_
              refine H_getI d_Md_readsAll_95 f_Md_134.g rfl rfl (by decide) ?_
              refine T_int (nI (tkB t L (rdCl t L T2 x).2.2)) hK4.2.2.2.1 ?_
              refine P_iret d_Md_readsAll_98 rfl ?_
              have hB : ¬ (tkS t L (rdCl t L T2 x).2.2 = 3 ∧ t (tkB t L (rdCl t L T2 x).2.2) = nI 59) ∨ c + 1 = 24 := by
                first
                  | exact Or.inl (fun z => absurd z.1 (by assumption))
                  | exact Or.inl (fun z => absurd z.2 (by assumption))
                  | exact Or.inr (by assumption)
              rw [if_pos hB] at hR
              exact R_i (k mI4 hK4.1 (fun z => by rw [hR] at z; cases z) hE4) (by rw [hR]; rfl)
            · refine g_aload_n d_Md_readsAll_71 rfl ?_
              refine H_getR 150 d_Md_readsAll_72 f_Md_41.g rfl rfl (by decide) rfl ?_
              refine g_aload_n d_Md_readsAll_75 rfl ?_
              refine H_getI d_Md_readsAll_76 f_Md_134.g rfl rfl (by decide) ?_
              refine T_int (nI (tkB t L (rdCl t L T2 x).2.2)) hK4.2.2.2.1 ?_
              refine H_ialdN d_Md_readsAll_79 rfl rfl (show tkB t L (rdCl t L T2 x).2.2 < 200 by omega) (by decide) ?_
              refine T_int (t (tkB t L (rdCl t L T2 x).2.2)) (hK4.1.2.2 _ hbl) ?_
              refine N_bipush d_Md_readsAll_80 59 rfl ?_
              refine P_icmp_ne d_Md_readsAll_82 94 (by decide) (fun c10 => ?_) (fun c10 => ?_)
              · refine g_aload_n d_Md_readsAll_94 rfl ?_
                refine H_getI d_Md_readsAll_95 f_Md_134.g rfl rfl (by decide) ?_
                refine T_int (nI (tkB t L (rdCl t L T2 x).2.2)) hK4.2.2.2.1 ?_
                refine P_iret d_Md_readsAll_98 rfl ?_
                have hB : ¬ (tkS t L (rdCl t L T2 x).2.2 = 3 ∧ t (tkB t L (rdCl t L T2 x).2.2) = nI 59) ∨ c + 1 = 24 := by
                  first
                    | exact Or.inl (fun z => absurd z.1 (by assumption))
                    | exact Or.inl (fun z => absurd z.2 (by assumption))
                    | exact Or.inr (by assumption)
                rw [if_pos hB] at hR
                exact R_i (k mI4 hK4.1 (fun z => by rw [hR] at z; cases z) hE4) (by rw [hR]; rfl)
              · refine g_aload_n d_Md_readsAll_85 rfl ?_
                refine H_getI d_Md_readsAll_86 f_Md_210.g rfl rfl (by decide) ?_
                refine T_int (nI (c + 1)) h294 ?_
                refine N_bipush d_Md_readsAll_89 24 rfl ?_
                refine N_icmp_ne d_Md_readsAll_91 99 (by decide) ⟨by omega, by omega⟩ (fun c11 => ?_) (fun c11 => ?_)
                · have hB : ¬ (¬ (tkS t L (rdCl t L T2 x).2.2 = 3 ∧ t (tkB t L (rdCl t L T2 x).2.2) = nI 59) ∨ c + 1 = 24) := fun z => z.elim (fun y => y ⟨by assumption, by assumption⟩) (by assumption)
                  rw [if_neg hB] at hR
                  refine g_aload_n d_Md_readsAll_99 rfl ?_
                  refine C_V0 d_Md_readsAll_100 k_Md_153 rfl (Nat.le_of_ble_eq_true rfl) (by decide) (Nat.le_of_ble_eq_true rfl) ?_
                  refine c_Md_passesToken hK4 (fun mI5 hK5 hF5 => ?_)
                  refine P_goto d_Md_readsAll_103 20 (by decide) ?_
                  first | omega | exact ih (24 - (c + 1)) (by omega) (c + 1) _ _ mI5 (by omega) hwc hK5 (hT4.f9 hF5 (by decide)) ((hF5.2 29 (by decide)).trans h294) hR (hE4.tr (hF5.e mo9)) rfl
                · refine g_aload_n d_Md_readsAll_94 rfl ?_
                  refine H_getI d_Md_readsAll_95 f_Md_134.g rfl rfl (by decide) ?_
                  refine T_int (nI (tkB t L (rdCl t L T2 x).2.2)) hK4.2.2.2.1 ?_
                  refine P_iret d_Md_readsAll_98 rfl ?_
                  have hB : ¬ (tkS t L (rdCl t L T2 x).2.2 = 3 ∧ t (tkB t L (rdCl t L T2 x).2.2) = nI 59) ∨ c + 1 = 24 := by
                    first
                      | exact Or.inl (fun z => absurd z.1 (by assumption))
                      | exact Or.inl (fun z => absurd z.2 (by assumption))
                      | exact Or.inr (by assumption)
                  rw [if_pos hB] at hR
                  exact R_i (k mI4 hK4.1 (fun z => by rw [hR] at z; cases z) hE4) (by rw [hR]; rfl)
      · have hf1 : (rdCl t L T2 x).1 = false := by rw [← Bool.not_eq_true]; exact c2
        rw [if_pos hf1] at hR
        refine g_aload_n d_Md_readsAll_31 rfl ?_
        refine H_getI d_Md_readsAll_32 f_Md_134.g rfl rfl (by decide) ?_
        refine T_int (nI (tkB t L (rdCl t L T2 x).2.2)) (g2 hf1) ?_
        refine P_iret d_Md_readsAll_35 rfl ?_
        exact R_i (k mI3 hX3 (fun z => by rw [hR] at z; cases z) hE3) (by rw [hR]; rfl)

theorem c_Md_readsAll {X : CX} {dl : List (Nat × Nat)} {mI : Nat → Nat → Int32} {dr : Nat → Nat → Nat} {Q : Option Value → AH → Prop} {t : Nat → Int32} {L : Nat} {T : TD} (hw : TW T) (hT : TM 3 7 142 T mI) (hX : XM t L mI) (k : ∀ mI', XM t L mI' → ((rdN t L 24 0 T 0).1 = none → TM 19 23 151 (rdN t L 24 0 T 0).2.1 mI' ∧ TW (rdN t L 24 0 T 0).2.1 ∧ mI' 139 29 = nI (rdN t L 24 0 T 0).2.2) → F8 [15, 16, 17, 18, 19, 23, 29, 30] mI mI' → Q (some (.int (noI (rdN t L 24 0 T 0).1))) (hp X dl mI' dr)) : EW X m_Md_readsAll 0 (enL m_Md_readsAll.2.2.1 [.ref 139]) [] (hp X dl mI dr) Q := by
  show EW X m_Md_readsAll 0 [.ref 139, jk] [] (hp X dl mI dr) Q
  refine g_aload_n d_Md_readsAll_0 rfl ?_
  refine C_V0 d_Md_readsAll_1 k_Md_207 rfl (Nat.le_of_ble_eq_true rfl) (by decide) (Nat.le_of_ble_eq_true rfl) ?_
  refine c_Md_tellsAll hw hT (fun mI1 hT1 hF1 => ?_)
  have hX1 := hX.f8 hF1 (by decide)
  refine g_aload_n d_Md_readsAll_4 rfl ?_
  refine N_iconst d_Md_readsAll_5 0 rfl ?_
  refine H_putI d_Md_readsAll_6 f_Md_131 rfl rfl (by decide) ?_
  refine g_aload_n d_Md_readsAll_9 rfl ?_
  refine N_iconst d_Md_readsAll_10 0 rfl ?_
  refine H_putI d_Md_readsAll_11 f_Md_210 rfl rfl (by decide) ?_
  have hF2 : F9 [15, 29] mI1 (sI (sI mI1 139 15 (nI 0)) 139 29 (nI 0)) := F9_sI (F9_sI F9.rf (by decide)) (by decide)
  have hX2 := hX1.f9 hF2 (by decide)
  have hT2 := hT1.f9 hF2 (by decide)
  have h15 : (sI (sI mI1 139 15 (nI 0)) 139 29 (nI 0)) 139 15 = nI 0 := by rw [sI_n (by omega), sI_s]
  have h29 : (sI (sI mI1 139 15 (nI 0)) 139 29 (nI 0)) 139 29 = nI 0 := sI_s _ _ _ _
  generalize sI (sI mI1 139 15 (nI 0)) 139 29 (nI 0) = mI2 at *
  refine g_aload_n d_Md_readsAll_14 rfl ?_
  refine C_V0 d_Md_readsAll_15 k_Md_147 rfl (Nat.le_of_ble_eq_true rfl) (by decide) (Nat.le_of_ble_eq_true rfl) ?_
  refine c_Md_looks (x := 0) hX2 (Nat.zero_le _) h15 (fun mI3 hK3 hF3 => ?_)
  refine N_iconst d_Md_readsAll_18 1 rfl ?_
  refine S_istore_n_2_1 d_Md_readsAll_19 rfl rfl ?_
  exact lp_Md_readsAll k _ 0 T 0 mI3 (by omega) hw hK3 (hT2.f9 hF3 (by decide)) ((hF3.2 29 (by decide)).trans h29) rfl ((hF1.mo (by decide)).tr ((hF2.e (by decide)).tr (hF3.e mo9))) rfl

theorem c_Md_fault {X : CX} {dl : List (Nat × Nat)} {mI : Nat → Nat → Int32} {dr : Nat → Nat → Nat} {Q : Option Value → AH → Prop} {t : Nat → Int32} {L : Nat} {T : TD} (hw : TW T) (hT : TM 3 7 142 T mI) (hX : XM t L mI) (k : ∀ mI', XM t L mI' → F8 [15, 16, 17, 18, 19, 23, 29, 30] mI mI' → Q (some (.int (noI (rdN t L 24 0 T 0).1))) (hp X dl mI' dr)) : EW X m_Md_fault 0 (enL m_Md_fault.2.2.1 [.ref 139]) [] (hp X dl mI dr) Q := by
  show EW X m_Md_fault 0 [.ref 139] [] (hp X dl mI dr) Q
  refine g_aload_n d_Md_fault_0 rfl ?_
  refine C_V0 d_Md_fault_1 k_Md_216 rfl (Nat.le_of_ble_eq_true rfl) (by decide) (Nat.le_of_ble_eq_true rfl) ?_
  refine c_Md_readsAll hw hT hX (fun mI1 hX1 _ hF1 => ?_)
  refine P_iret d_Md_fault_4 rfl ?_
  exact k mI1 hX1 hF1

theorem c_Md_write {X : CX} {dl : List (Nat × Nat)} {mI : Nat → Nat → Int32} {dr : Nat → Nat → Nat} {Q : Option Value → AH → Prop} {t : Nat → Int32} {L : Nat} {x : Int32} (hX : XM t L mI) (k : ∀ mI', XM (sWr t L x).1.1 (sWr t L x).1.2 mI' → (∀ q, q ≠ 139 → q ≠ 150 → mI' q = mI q) → (∀ f, f ≠ 14 → mI' 139 f = mI 139 f) → Q (some (.int (sWr t L x).2)) (hp X dl mI' dr)) : EW X m_Md_write 0 (enL m_Md_write.2.2.1 [.ref 139, .int x]) [] (hp X dl mI dr) Q := by
  show EW X m_Md_write 0 [.ref 139, .int x] [] (hp X dl mI dr) Q
  have hL := hX.1
  refine g_iload_n d_Md_write_0 rfl ?_
  refine P_i2l d_Md_write_1 ?_
  refine P_lconst d_Md_write_2 (lQ 0) rfl ?_
  refine P_ldc2 d_Md_write_3 _ q_Md_118 ?_
  refine C_S3 d_Md_write_6 k_Md_111 (Nat.le_of_ble_eq_true rfl) (by decide) (Nat.le_of_ble_eq_true rfl) ?_
  refine (c_Md_inN 256 rfl rfl) ?_
  refine B_ne d_Md_write_9 15 (by decide) (fun c1 => ?_) (fun c1 => ?_)
  · refine g_aload_n d_Md_write_15 rfl ?_
    refine H_getI d_Md_write_16 f_Md_120.g rfl rfl (by decide) ?_
    refine T_int (nI (L)) hX.2.1 ?_
    refine N_sipush d_Md_write_19 200 rfl ?_
    refine N_icmp_ne d_Md_write_22 28 (by decide) ⟨by omega, by omega⟩ (fun c2 => ?_) (fun c2 => ?_)
    · refine g_aload_n d_Md_write_28 rfl ?_
      refine H_getR 150 d_Md_write_29 f_Md_41.g rfl rfl (by decide) rfl ?_
      refine g_aload_n d_Md_write_32 rfl ?_
      refine H_getI d_Md_write_33 f_Md_120.g rfl rfl (by decide) ?_
      refine T_int (nI (L)) hX.2.1 ?_
      refine g_iload_n d_Md_write_36 rfl ?_
      refine H_iastN d_Md_write_37 rfl rfl (show L < 200 by omega) (by decide) ?_
      refine g_aload_n d_Md_write_38 rfl ?_
      refine P_dupA d_Md_write_39 ?_
      refine H_getI d_Md_write_40 f_Md_120.g rfl rfl (by decide) ?_
      refine T_int (nI (L)) (by rw [sI_r (by omega)]; exact hX.2.1) ?_
      refine N_iconst d_Md_write_43 1 rfl ?_
      refine N_iadd d_Md_write_44 ?_
      refine H_putI d_Md_write_45 f_Md_120 rfl rfl (by decide) ?_
      refine g_aload_n d_Md_write_48 rfl ?_
      refine H_getI d_Md_write_49 f_Md_120.g rfl rfl (by decide) ?_
      refine T_int (nI (L + 1)) (sI_s _ _ _ _) ?_
      refine P_iret d_Md_write_52 rfl ?_
      have e : sWr t L x = ((fun i => if i = L then x else t i, L + 1), nI (L + 1)) := by unfold sWr; rw [if_neg (fun z => z c1), if_neg c2]
      rw [e] at k
      refine k _ ⟨show L + 1 ≤ 200 by omega, sI_s _ _ _ _, fun i hi => ?_⟩ (fun q z1 z2 => by rw [sI_r z1, sI_r z2]) (fun f hf => by rw [sI_n (fun z => hf z.2), sI_r (by omega)])
      have hi : i < L + 1 := hi
      rw [sI_r (by omega)]
      show _ = if i = L then x else t i
      by_cases z : i = L
      · rw [if_pos z, z]; exact sI_s _ _ _ _
      · rw [if_neg z, sI_n (fun y => z y.2)]; exact hX.2.2 i (by omega)
    · refine P_bipush d_Md_write_25 (-5) rfl ?_
      refine P_iret d_Md_write_27 rfl ?_
      have e : sWr t L x = ((t, L), -5) := by unfold sWr; rw [if_neg (fun z => z c1), if_pos c2]
      rw [e] at k
      exact k _ hX (fun _ _ _ => rfl) (fun _ _ => rfl)
  · refine P_bipush d_Md_write_12 (-3) rfl ?_
    refine P_iret d_Md_write_14 rfl ?_
    have e : sWr t L x = ((t, L), -3) := by unfold sWr; rw [if_pos c1]
    rw [e] at k
    exact k _ hX (fun _ _ _ => rfl) (fun _ _ => rfl)

theorem c_Md_erase {X : CX} {dl : List (Nat × Nat)} {mI : Nat → Nat → Int32} {dr : Nat → Nat → Nat} {Q : Option Value → AH → Prop} {t : Nat → Int32} {L : Nat} (hX : XM t L mI) (k : ∀ mI', XM t 0 mI' → (∀ q, q ≠ 139 → mI' q = mI q) → (∀ f, f ≠ 14 → mI' 139 f = mI 139 f) → Q (some (.int (nI L))) (hp X dl mI' dr)) : EW X m_Md_erase 0 (enL m_Md_erase.2.2.1 [.ref 139]) [] (hp X dl mI dr) Q := by
  show EW X m_Md_erase 0 [.ref 139, jk] [] (hp X dl mI dr) Q
  refine g_aload_n d_Md_erase_0 rfl ?_
  refine H_getI d_Md_erase_1 f_Md_120.g rfl rfl (by decide) ?_
  refine T_int (nI L) hX.2.1 ?_
  refine S_istore_n_2_1 d_Md_erase_4 rfl rfl ?_
  refine g_aload_n d_Md_erase_5 rfl ?_
  refine N_iconst d_Md_erase_6 0 rfl ?_
  refine H_putI d_Md_erase_7 f_Md_120 rfl rfl (by decide) ?_
  refine g_iload_n d_Md_erase_10 rfl ?_
  refine P_iret d_Md_erase_11 rfl ?_
  exact k _ ⟨Nat.zero_le _, sI_s _ _ _ _, fun i hi => absurd hi (Nat.not_lt_zero _)⟩ (fun q hq => sI_r hq) (fun f hf => sI_n (fun z => hf z.2))

