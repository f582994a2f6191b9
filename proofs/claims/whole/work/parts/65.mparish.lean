/-! REGISTERS AS THE MODEL HOLDS THEM -/
def lnM (o : Option (Nat × Int32)) (s v : Int32) : Prop := match o with
  | none => s = nI 0
  | some (c, w) => s = nI (c + 1) ∧ v = w ∧ c ≤ 1
def PgM (k : Nat) (L : PL) (mI : Nat → Nat → Int32) : Prop := mI 169 k = nI L.length ∧ L.length ≤ 6 ∧ ∀ i, i < L.length → lnM (L.getD i none) (mI 170 (6 * k + i)) (mI 171 (6 * k + i))
def RgM (κ : Nat → Nat) (C : Nat → PL) (g : Nat) (l : List Nat) (mI : Nat → Nat → Int32) : Prop := mI 167 g = nI l.length ∧ l.length ≤ 5 ∧ ∀ p, p < l.length → (l.getD p 0 = 0 → mI 168 (5 * g + p) = -1) ∧ (l.getD p 0 ≠ 0 → κ (l.getD p 0) < 16 ∧ mI 168 (5 * g + p) = nI (κ (l.getD p 0)) ∧ PgM (κ (l.getD p 0)) (C (l.getD p 0)) mI)
/-- a page that is bound in -/
def bdA (S : RS) (a : Nat) : Prop := a ≠ 0 ∧ ∃ g l p, g < 3 ∧ S.1 g = some l ∧ p < l.length ∧ l.getD p 0 = a
def RK (κ : Nat → Nat) (S : RS) (mI : Nat → Nat → Int32) : Prop := (∀ g, g < 3 → (S.1 g = none → mI 167 g = -1) ∧ ∀ l, S.1 g = some l → RgM κ S.2 g l mI) ∧ ∀ a b, bdA S a → bdA S b → κ a = κ b → a = b
def RM (S : RS) (mI : Nat → Nat → Int32) : Prop := ∃ κ, RK κ S mI
theorem RK.to {κ : Nat → Nat} {S : RS} {mI mI' : Nat → Nat → Int32} (h : RK κ S mI) (hf : ∀ q, 167 ≤ q → q ≤ 171 → mI' q = mI q) : RK κ S mI' := by
  refine ⟨fun g hg => ⟨fun hs => by rw [hf 167 (by omega) (by omega)]; exact (h.1 g hg).1 hs, fun l hl => ?_⟩, h.2⟩
  obtain ⟨g1, g2, g3⟩ := (h.1 g hg).2 l hl
  refine ⟨by rw [hf 167 (by omega) (by omega)]; exact g1, g2, fun p hp1 => ⟨fun z => by rw [hf 168 (by omega) (by omega)]; exact (g3 p hp1).1 z, fun z => ?_⟩⟩
  obtain ⟨e1, e2, e3, e4, e5⟩ := (g3 p hp1).2 z
  refine ⟨e1, by rw [hf 168 (by omega) (by omega)]; exact e2, by rw [hf 169 (by omega) (by omega)]; exact e3, e4, fun i hi => by rw [hf 170 (by omega) (by omega), hf 171 (by omega) (by omega)]; exact e5 i hi⟩
theorem RM.to {S : RS} {mI mI' : Nat → Nat → Int32} (h : RM S mI) (hf : ∀ q, 167 ≤ q → q ≤ 171 → mI' q = mI q) : RM S mI' := h.elim (fun κ hk => ⟨κ, hk.to hf⟩)
theorem RM_none {C : Nat → PL} {mI : Nat → Nat → Int32} (h : ∀ g, g < 3 → mI 167 g = -1) : RM (fun _ => none, C) mI :=
  ⟨fun _ => 0, fun g hg => ⟨fun _ => h g hg, fun l hl => nomatch hl⟩, fun a b ha => by obtain ⟨_, g, l, p, _, hl, _⟩ := ha; exact nomatch hl⟩
theorem lp_Md_parish1 {X : CX} {dl : List (Nat × Nat)} {mI : Nat → Nat → Int32} {dr : Nat → Nat → Nat} {Q : Option Value → AH → Prop} (k : ∀ mI' v1, (∀ c, c < 3 → ∀ j, j < 5 → mI' (142 + c) j = mI (151 + c) j) → (∀ q, ¬ (142 ≤ q ∧ q < 142 + 3) → mI' q = mI q) → EW X m_Md_parish 76 [.ref 139, v1] [] (hp X dl mI' dr) Q) : ∀ (d : Nat) (i : Nat) (mI2 : Nat → Nat → Int32), (i ≤ 5) → (∀ c, c < 3 → ∀ j, j < i → mI2 (142 + c) j = mI (151 + c) j) → (∀ q, ¬ (142 ≤ q ∧ q < 142 + 3) → mI2 q = mI q) → 5 - i = d → EW X m_Md_parish 29 [.ref 139, .int (nI i)] [] (hp X dl mI2 dr) Q := by
  intro d
  induction d using Nat.strongRecOn with
  | _ d ih =>
    intro i mI2 hi h1 hF hd
    refine g_iload_n d_Md_parish_29 rfl ?_
    refine N_iconst d_Md_parish_30 5 rfl ?_
    refine N_icmp_ge d_Md_parish_31 76 (by decide) ⟨by omega, by omega⟩ (fun c1 => ?_) (fun c1 => ?_)
    · exact k mI2 _ (fun c hc j hj => h1 c hc j (by omega)) hF
    · refine g_aload_n d_Md_parish_34 rfl ?_
      refine H_getR 142 d_Md_parish_35 f_Md_17.g rfl rfl (by decide) rfl ?_
      refine g_iload_n d_Md_parish_38 rfl ?_
      refine g_aload_n d_Md_parish_39 rfl ?_
      refine H_getR 151 d_Md_parish_40 f_Md_44.g rfl rfl (by decide) rfl ?_
      refine g_iload_n d_Md_parish_43 rfl ?_
      refine H_ialdN d_Md_parish_44 rfl rfl (by omega) (by decide) ?_
      refine T_int (mI 151 i) (by rw [hF _ (by omega)]) ?_
      refine H_iastN d_Md_parish_45 rfl rfl (by omega) (by decide) ?_
      refine g_aload_n d_Md_parish_46 rfl ?_
      refine H_getR 143 d_Md_parish_47 f_Md_20.g rfl rfl (by decide) rfl ?_
      refine g_iload_n d_Md_parish_50 rfl ?_
      refine g_aload_n d_Md_parish_51 rfl ?_
      refine H_getR 152 d_Md_parish_52 f_Md_47.g rfl rfl (by decide) rfl ?_
      refine g_iload_n d_Md_parish_55 rfl ?_
      refine H_ialdN d_Md_parish_56 rfl rfl (by omega) (by decide) ?_
      refine T_int (mI 152 i) (by rw [sI_r (by omega), hF _ (by omega)]) ?_
      refine H_iastN d_Md_parish_57 rfl rfl (by omega) (by decide) ?_
      refine g_aload_n d_Md_parish_58 rfl ?_
      refine H_getR 144 d_Md_parish_59 f_Md_23.g rfl rfl (by decide) rfl ?_
      refine g_iload_n d_Md_parish_62 rfl ?_
      refine g_aload_n d_Md_parish_63 rfl ?_
      refine H_getR 153 d_Md_parish_64 f_Md_50.g rfl rfl (by decide) rfl ?_
      refine g_iload_n d_Md_parish_67 rfl ?_
      refine H_ialdN d_Md_parish_68 rfl rfl (by omega) (by decide) ?_
      refine T_int (mI 153 i) (by rw [sI_r (by omega), sI_r (by omega), hF _ (by omega)]) ?_
      refine H_iastN d_Md_parish_69 rfl rfl (by omega) (by decide) ?_
      refine N_iinc_2_1_1 d_Md_parish_70 rfl rfl ?_
      refine P_goto d_Md_parish_73 29 (by decide) ?_
      refine ih (5 - (i + 1)) (by omega) (i + 1) _ (by omega) (fun c hc j hj => ?_) (fun q hq => by rw [sI_r (by omega), sI_r (by omega), sI_r (by omega)]; exact hF q hq) rfl
      rcases (show c = 0 ∨ c = 1 ∨ c = 2 by omega) with rfl | rfl | rfl
      · show _ = mI 151 j
        rw [sI_r (by omega), sI_r (by omega)]
        by_cases z : j = i
        · rw [z, sI_s]
        · rw [sI_n (fun y => z y.2)]; exact h1 0 (by omega) j (by omega)
      · show _ = mI 152 j
        rw [sI_r (by omega)]
        by_cases z : j = i
        · rw [z, sI_s]
        · rw [sI_n (fun y => z y.2), sI_r (by omega)]; exact h1 1 (by omega) j (by omega)
      · show _ = mI 153 j
        by_cases z : j = i
        · rw [z, sI_s]
        · rw [sI_n (fun y => z y.2), sI_r (by omega), sI_r (by omega)]; exact h1 2 (by omega) j (by omega)

theorem lp_Md_parish2 {X : CX} {dl : List (Nat × Nat)} {mI : Nat → Nat → Int32} {dr : Nat → Nat → Nat} {Q : Option Value → AH → Prop} (k : ∀ mI' v1, (∀ c, c < 5 → ∀ j, j < 10 → mI' (145 + c) j = mI (154 + c) j) → (∀ q, ¬ (145 ≤ q ∧ q < 145 + 5) → mI' q = mI q) → EW X m_Md_parish 150 [.ref 139, v1] [] (hp X dl mI' dr) Q) : ∀ (d : Nat) (i : Nat) (mI2 : Nat → Nat → Int32), (i ≤ 10) → (∀ c, c < 5 → ∀ j, j < i → mI2 (145 + c) j = mI (154 + c) j) → (∀ q, ¬ (145 ≤ q ∧ q < 145 + 5) → mI2 q = mI q) → 10 - i = d → EW X m_Md_parish 78 [.ref 139, .int (nI i)] [] (hp X dl mI2 dr) Q := by
  intro d
  induction d using Nat.strongRecOn with
  | _ d ih =>
    intro i mI2 hi h1 hF hd
    refine g_iload_n d_Md_parish_78 rfl ?_
    refine N_bipush d_Md_parish_79 10 rfl ?_
    refine N_icmp_ge d_Md_parish_81 150 (by decide) ⟨by omega, by omega⟩ (fun c1 => ?_) (fun c1 => ?_)
    · exact k mI2 _ (fun c hc j hj => h1 c hc j (by omega)) hF
    · refine g_aload_n d_Md_parish_84 rfl ?_
      refine H_getR 145 d_Md_parish_85 f_Md_26.g rfl rfl (by decide) rfl ?_
      refine g_iload_n d_Md_parish_88 rfl ?_
      refine g_aload_n d_Md_parish_89 rfl ?_
      refine H_getR 154 d_Md_parish_90 f_Md_53.g rfl rfl (by decide) rfl ?_
      refine g_iload_n d_Md_parish_93 rfl ?_
      refine H_ialdN d_Md_parish_94 rfl rfl (by omega) (by decide) ?_
      refine T_int (mI 154 i) (by rw [hF _ (by omega)]) ?_
      refine H_iastN d_Md_parish_95 rfl rfl (by omega) (by decide) ?_
      refine g_aload_n d_Md_parish_96 rfl ?_
      refine H_getR 146 d_Md_parish_97 f_Md_29.g rfl rfl (by decide) rfl ?_
      refine g_iload_n d_Md_parish_100 rfl ?_
      refine g_aload_n d_Md_parish_101 rfl ?_
      refine H_getR 155 d_Md_parish_102 f_Md_56.g rfl rfl (by decide) rfl ?_
      refine g_iload_n d_Md_parish_105 rfl ?_
      refine H_ialdN d_Md_parish_106 rfl rfl (by omega) (by decide) ?_
      refine T_int (mI 155 i) (by rw [sI_r (by omega), hF _ (by omega)]) ?_
      refine H_iastN d_Md_parish_107 rfl rfl (by omega) (by decide) ?_
      refine g_aload_n d_Md_parish_108 rfl ?_
      refine H_getR 147 d_Md_parish_109 f_Md_32.g rfl rfl (by decide) rfl ?_
      refine g_iload_n d_Md_parish_112 rfl ?_
      refine g_aload_n d_Md_parish_113 rfl ?_
      refine H_getR 156 d_Md_parish_114 f_Md_59.g rfl rfl (by decide) rfl ?_
      refine g_iload_n d_Md_parish_117 rfl ?_
      refine H_ialdN d_Md_parish_118 rfl rfl (by omega) (by decide) ?_
      refine T_int (mI 156 i) (by rw [sI_r (by omega), sI_r (by omega), hF _ (by omega)]) ?_
      refine H_iastN d_Md_parish_119 rfl rfl (by omega) (by decide) ?_
      refine g_aload_n d_Md_parish_120 rfl ?_
      refine H_getR 148 d_Md_parish_121 f_Md_35.g rfl rfl (by decide) rfl ?_
      refine g_iload_n d_Md_parish_124 rfl ?_
      refine g_aload_n d_Md_parish_125 rfl ?_
      refine H_getR 157 d_Md_parish_126 f_Md_62.g rfl rfl (by decide) rfl ?_
      refine g_iload_n d_Md_parish_129 rfl ?_
      refine H_ialdN d_Md_parish_130 rfl rfl (by omega) (by decide) ?_
      refine T_int (mI 157 i) (by rw [sI_r (by omega), sI_r (by omega), sI_r (by omega), hF _ (by omega)]) ?_
      refine H_iastN d_Md_parish_131 rfl rfl (by omega) (by decide) ?_
      refine g_aload_n d_Md_parish_132 rfl ?_
      refine H_getR 149 d_Md_parish_133 f_Md_38.g rfl rfl (by decide) rfl ?_
      refine g_iload_n d_Md_parish_136 rfl ?_
      refine g_aload_n d_Md_parish_137 rfl ?_
      refine H_getR 158 d_Md_parish_138 f_Md_65.g rfl rfl (by decide) rfl ?_
      refine g_iload_n d_Md_parish_141 rfl ?_
      refine H_ialdN d_Md_parish_142 rfl rfl (by omega) (by decide) ?_
      refine T_int (mI 158 i) (by rw [sI_r (by omega), sI_r (by omega), sI_r (by omega), sI_r (by omega), hF _ (by omega)]) ?_
      refine H_iastN d_Md_parish_143 rfl rfl (by omega) (by decide) ?_
      refine N_iinc_2_1_1 d_Md_parish_144 rfl rfl ?_
      refine P_goto d_Md_parish_147 78 (by decide) ?_
      refine ih (10 - (i + 1)) (by omega) (i + 1) _ (by omega) (fun c hc j hj => ?_) (fun q hq => by rw [sI_r (by omega), sI_r (by omega), sI_r (by omega), sI_r (by omega), sI_r (by omega)]; exact hF q hq) rfl
      rcases (show c = 0 ∨ c = 1 ∨ c = 2 ∨ c = 3 ∨ c = 4 by omega) with rfl | rfl | rfl | rfl | rfl
      · show _ = mI 154 j
        rw [sI_r (by omega), sI_r (by omega), sI_r (by omega), sI_r (by omega)]
        by_cases z : j = i
        · rw [z, sI_s]
        · rw [sI_n (fun y => z y.2)]; exact h1 0 (by omega) j (by omega)
      · show _ = mI 155 j
        rw [sI_r (by omega), sI_r (by omega), sI_r (by omega)]
        by_cases z : j = i
        · rw [z, sI_s]
        · rw [sI_n (fun y => z y.2), sI_r (by omega)]; exact h1 1 (by omega) j (by omega)
      · show _ = mI 156 j
        rw [sI_r (by omega), sI_r (by omega)]
        by_cases z : j = i
        · rw [z, sI_s]
        · rw [sI_n (fun y => z y.2), sI_r (by omega), sI_r (by omega)]; exact h1 2 (by omega) j (by omega)
      · show _ = mI 157 j
        rw [sI_r (by omega)]
        by_cases z : j = i
        · rw [z, sI_s]
        · rw [sI_n (fun y => z y.2), sI_r (by omega), sI_r (by omega), sI_r (by omega)]; exact h1 3 (by omega) j (by omega)
      · show _ = mI 158 j
        by_cases z : j = i
        · rw [z, sI_s]
        · rw [sI_n (fun y => z y.2), sI_r (by omega), sI_r (by omega), sI_r (by omega), sI_r (by omega)]; exact h1 4 (by omega) j (by omega)

theorem lp_Md_parish3 {X : CX} {dl : List (Nat × Nat)} {mI : Nat → Nat → Int32} {dr : Nat → Nat → Nat} {Q : Option Value → AH → Prop} (k : ∀ mI' v1, (∀ j, j < 3 → mI' 167 j = -1) → (∀ q, q ≠ 167 → mI' q = mI q) → EW X m_Md_parish 203 [.ref 139, v1] [] (hp X dl mI' dr) Q) : ∀ (d : Nat) (i : Nat) (mI2 : Nat → Nat → Int32), (i ≤ 3) → (∀ j, j < i → mI2 167 j = -1) → (∀ q, q ≠ 167 → mI2 q = mI q) → 3 - i = d → EW X m_Md_parish 185 [.ref 139, .int (nI i)] [] (hp X dl mI2 dr) Q := by
  intro d
  induction d using Nat.strongRecOn with
  | _ d ih =>
    intro i mI2 hi h1 hF hd
    refine g_iload_n d_Md_parish_185 rfl ?_
    refine N_iconst d_Md_parish_186 3 rfl ?_
    refine N_icmp_ge d_Md_parish_187 203 (by decide) ⟨by omega, by omega⟩ (fun c1 => ?_) (fun c1 => ?_)
    · exact k mI2 _ (fun j hj => h1 j (by omega)) hF
    · refine g_aload_n d_Md_parish_190 rfl ?_
      refine H_getR 167 d_Md_parish_191 f_Md_92.g rfl rfl (by decide) rfl ?_
      refine g_iload_n d_Md_parish_194 rfl ?_
      refine P_iconst d_Md_parish_195 (-1) rfl ?_
      refine H_iastN d_Md_parish_196 rfl rfl (by omega) (by decide) ?_
      refine N_iinc_2_1_1 d_Md_parish_197 rfl rfl ?_
      refine P_goto d_Md_parish_200 185 (by decide) ?_
      refine ih (3 - (i + 1)) (by omega) (i + 1) _ (by omega) (fun j hj => ?_) (fun q hq => by rw [sI_r hq]; exact hF q hq) rfl
      by_cases z : j = i
      · rw [z]; exact sI_s _ _ _ _
      · rw [sI_n (fun y => z y.2)]; exact h1 j (by omega)

theorem c_Md_parish {X : CX} {dl : List (Nat × Nat)} {mI : Nat → Nat → Int32} {dr : Nat → Nat → Nat} {Q : Option Value → AH → Prop} {T : TD} (hw : TW T) (hT : TM 3 7 142 T mI) {t : Nat → Int32} {L : Nat} {G : GD} {S : RS} (hX : XM t L mI) (k1 : ∀ mI', (rdN t L 24 0 T 0).1 ≠ none → XM t L mI' → F8 [15, 16, 17, 18, 19, 23, 29, 30] mI mI' → Q (some (.int (-4))) (hp X dl mI' dr)) (k2 : ∀ mI', (rdN t L 24 0 T 0).1 = none → TW (rdN t L 24 0 T 0).2.1 → TM 3 7 142 (rdN t L 24 0 T 0).2.1 mI' → XM t 0 mI' → SM 0 (rdN t L 24 0 T 0).2.1 (s0 (rdN t L 24 0 T 0).2.1) (KO (rdN t L 24 0 T 0).2.1 (s0 (rdN t L 24 0 T 0).2.1)) mI' → PM (rdN t L 24 0 T 0).2.1 [] mI' → KM (rdN t L 24 0 T 0).2.1 (fun _ => none) mI' → GM (0, G.2) mI' → RM (fun _ => none, S.2) mI' → (∀ q, q < 139 → mI' q = mI q) → (∀ q, 172 ≤ q → mI' q = mI q) → Q (some (.int (nI (rdN t L 24 0 T 0).2.2))) (hp X dl mI' dr)) : EW X m_Md_parish 0 (enL m_Md_parish.2.2.1 [.ref 139]) [] (hp X dl mI dr) Q := by
  show EW X m_Md_parish 0 [.ref 139, jk] [] (hp X dl mI dr) Q
  have hL := hX.1
  have hno := noI_m1 (r := (rdN t L 24 0 T 0).1) (fun x hx => by have := rdN_le 24 0 T 0 (Nat.zero_le _) x hx; omega)
  refine g_aload_n d_Md_parish_0 rfl ?_
  refine C_V0 d_Md_parish_1 k_Md_216 rfl (Nat.le_of_ble_eq_true rfl) (by decide) (Nat.le_of_ble_eq_true rfl) ?_
  refine c_Md_readsAll hw hT hX (fun mI1 hX1 hd1 hF1 => ?_)
  refine P_iconst d_Md_parish_4 (-1) rfl ?_
  refine P_icmp_eq d_Md_parish_5 11 (by decide) (fun c1 => ?_) (fun c1 => ?_)
  · have hnn := hno.mp c1
    obtain ⟨hT1, hW1, h29⟩ := hd1 hnn
    replace k2 := fun mI' => k2 mI' hnn hW1
    clear k1 hd1 hnn c1 hno
    generalize (rdN t L 24 0 T 0).2.1 = T2 at *
    generalize (rdN t L 24 0 T 0).2.2 = cl at *
    refine g_aload_n d_Md_parish_11 rfl ?_
    refine g_aload_n d_Md_parish_12 rfl ?_
    refine H_getI d_Md_parish_13 f_Md_176.g rfl rfl (by decide) ?_
    refine T_int (nI (tn T2)) hT1.1 ?_
    refine H_putI d_Md_parish_16 f_Md_107 rfl rfl (by decide) ?_
    refine g_aload_n d_Md_parish_19 rfl ?_
    refine g_aload_n d_Md_parish_20 rfl ?_
    refine H_getI d_Md_parish_21 f_Md_183.g rfl rfl (by decide) ?_
    refine T_int (nI (tP T2)) (by rw [sI_n (by omega)]; exact hT1.2.1) ?_
    refine H_putI d_Md_parish_24 f_Md_115 rfl rfl (by decide) ?_
    refine N_iconst d_Md_parish_27 0 rfl ?_
    refine S_istore_n_2_1 d_Md_parish_28 rfl rfl ?_
    have h3 : (sI (sI mI1 139 3 (nI (tn T2))) 139 7 (nI (tP T2))) 139 3 = nI (tn T2) := by rw [sI_n (by omega), sI_s]
    have h7 : (sI (sI mI1 139 3 (nI (tn T2))) 139 7 (nI (tP T2))) 139 7 = nI (tP T2) := sI_s _ _ _ _
    have hq : ∀ q, q ≠ 139 → (sI (sI mI1 139 3 (nI (tn T2))) 139 7 (nI (tP T2))) q = mI1 q := fun q hq => by rw [sI_r hq, sI_r hq]
    have hf : ∀ f, f ≠ 3 → f ≠ 7 → (sI (sI mI1 139 3 (nI (tn T2))) 139 7 (nI (tP T2))) 139 f = mI1 139 f := fun f z1 z2 => by rw [sI_n (by omega), sI_n (by omega)]
    generalize (sI (sI mI1 139 3 (nI (tn T2))) 139 7 (nI (tP T2))) = mI2 at *
    refine lp_Md_parish1 (fun mI3 v3 g1 g2 => ?_) _ 0 mI2 (Nat.zero_le _) (fun c _ j hj => absurd hj (Nat.not_lt_zero _)) (fun _ _ => rfl) rfl
    refine N_iconst d_Md_parish_76 0 rfl ?_
    refine S_istore_n_2_1 d_Md_parish_77 rfl rfl ?_
    refine lp_Md_parish2 (fun mI4 v4 g3 g4 => ?_) _ 0 mI3 (Nat.zero_le _) (fun c _ j hj => absurd hj (Nat.not_lt_zero _)) (fun _ _ => rfl) rfl
    have hT4 : TM 3 7 142 T2 mI4 := by
      refine hT1.cp hW1 ?_ ?_ (fun c hc j hj => ?_) (fun c hc1 hc2 j hj => ?_)
      · rw [g4 139 (by omega), g2 139 (by omega), h3]; exact hT1.1.symm
      · rw [g4 139 (by omega), g2 139 (by omega), h7]; exact hT1.2.1.symm
      · rw [g4 _ (by omega), g1 c hc j hj, hq _ (by omega)]
      · have := g3 (c - 3) (by omega) j hj
        rw [show 145 + (c - 3) = 142 + c by omega, show 154 + (c - 3) = 151 + c by omega] at this
        rw [this, g2 _ (by omega), hq _ (by omega)]
    have h294 : mI4 139 29 = nI cl := by rw [g4 139 (by omega), g2 139 (by omega), hf 29 (by omega) (by omega)]; exact h29
    have ho4 : ∀ q, q < 139 ∨ 172 ≤ q → mI4 q = mI q := fun q z => by rw [g4 q (by omega), g2 q (by omega), hq q (by omega), hF1.1 q (by omega) (by omega)]
    clear g1 g2 g3 g4 hq hf h3 h7
    refine g_aload_n d_Md_parish_150 rfl ?_
    refine C_V0 d_Md_parish_151 k_Md_223 rfl (Nat.le_of_ble_eq_true rfl) (by decide) (Nat.le_of_ble_eq_true rfl) ?_
    refine c_Md_begins hW1 hT4 (fun mI5 hS5 hF5 => ?_)
    refine g_aload_n d_Md_parish_154 rfl ?_
    refine N_iconst d_Md_parish_155 0 rfl ?_
    refine H_putI d_Md_parish_156 f_Md_120 rfl rfl (by decide) ?_
    refine g_aload_n d_Md_parish_159 rfl ?_
    refine N_iconst d_Md_parish_160 0 rfl ?_
    refine H_putI d_Md_parish_161 f_Md_226 rfl rfl (by decide) ?_
    refine g_aload_n d_Md_parish_164 rfl ?_
    refine N_iconst d_Md_parish_165 0 rfl ?_
    refine H_putI d_Md_parish_166 f_Md_229 rfl rfl (by decide) ?_
    refine g_aload_n d_Md_parish_169 rfl ?_
    refine H_getR 141 d_Md_parish_170 f_Md_13.g rfl rfl (by decide) rfl ?_
    refine N_iconst d_Md_parish_173 0 rfl ?_
    refine N_iconst d_Md_parish_174 0 rfl ?_
    refine H_zastN d_Md_parish_175 rfl rfl (by omega) (by decide) (by decide) ?_
    refine g_aload_n d_Md_parish_176 rfl ?_
    refine H_getR 141 d_Md_parish_177 f_Md_13.g rfl rfl (by decide) rfl ?_
    refine N_iconst d_Md_parish_180 1 rfl ?_
    refine N_iconst d_Md_parish_181 0 rfl ?_
    refine H_zastN d_Md_parish_182 rfl rfl (by omega) (by decide) (by decide) ?_
    refine N_iconst d_Md_parish_183 0 rfl ?_
    refine S_istore_n_2_1 d_Md_parish_184 rfl rfl ?_
    have hT5 := hT4.w hF5
    have h295 : mI5 139 29 = nI cl := (congrFun (hF5.1 139 (by omega)) 29).trans h294
    refine lp_Md_parish3 (fun mI6 v6 g1 g2 => ?_) _ 0 _ (Nat.zero_le _) (fun j hj => absurd hj (Nat.not_lt_zero _)) (fun _ _ => rfl) rfl
    have e6 : ∀ q, q ≠ 167 → q ≠ 141 → q ≠ 139 → mI6 q = mI5 q := fun q z1 z2 z3 => by rw [g2 q z1, sI_r z2, sI_r z2, sI_r z3, sI_r z3, sI_r z3]
    have f6 : ∀ f, f ≠ 1 → f ≠ 14 → f ≠ 36 → mI6 139 f = mI5 139 f := fun f z1 z2 z3 => by rw [g2 139 (by omega), sI_r (by omega), sI_r (by omega), sI_n (fun z => z3 z.2), sI_n (fun z => z1 z.2), sI_n (fun z => z2 z.2)]
    have h14 : mI6 139 14 = nI 0 := by rw [g2 139 (by omega), sI_r (by omega), sI_r (by omega), sI_n (by omega), sI_n (by omega), sI_s]
    have h1 : mI6 139 1 = nI 0 := by rw [g2 139 (by omega), sI_r (by omega), sI_r (by omega), sI_n (by omega), sI_s]
    have h36 : mI6 139 36 = nI 0 := by rw [g2 139 (by omega), sI_r (by omega), sI_r (by omega), sI_s]
    have h141 : ∀ j, j < 2 → mI6 141 j = nI 0 := fun j hj => by
      rw [g2 141 (by omega)]
      rcases (show j = 0 ∨ j = 1 by omega) with rfl | rfl
      · rw [sI_n (by omega), sI_s]
      · exact sI_s _ _ _ _
    refine g_aload_n d_Md_parish_203 rfl ?_
    refine H_getI d_Md_parish_204 f_Md_210.g rfl rfl (by decide) ?_
    refine T_int (nI cl) ((f6 29 (by omega) (by omega) (by omega)).trans h295) ?_
    refine P_iret d_Md_parish_207 rfl ?_
    refine k2 mI6 (hT5.to (f6 3 (by omega) (by omega) (by omega)) (f6 7 (by omega) (by omega) (by omega)) (fun q z1 z2 => e6 q (by omega) (by omega) (by omega))) ⟨Nat.zero_le _, h14, fun i hi => absurd hi (Nat.not_lt_zero _)⟩ (hS5.to hW1 (SV_s0 hW1) (fun j _ _ => by rw [e6 140 (by omega) (by omega) (by omega)])) ⟨Nat.zero_le _, h1, fun k σ hk => by cases hk⟩ (fun k hk => ⟨h141 k hk, fun σ hσ => nomatch hσ⟩) ⟨h36, fun i hi => absurd hi (Nat.not_lt_zero _)⟩ (RM_none g1) (fun q hq => ?_) (fun q hq => ?_)
    · rw [e6 q (by omega) (by omega) (by omega), hF5.1 q (by omega), ho4 q (Or.inl hq)]
    · rw [e6 q (by omega) (by omega) (by omega), hF5.1 q (by omega), ho4 q (Or.inr hq)]
  · refine P_bipush d_Md_parish_8 (-4) rfl ?_
    refine P_iret d_Md_parish_10 rfl ?_
    exact k1 mI1 (fun z => c1 (hno.mpr z)) hX1 hF1

