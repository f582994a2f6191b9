/-! THE MODEL'S TEXT -/
def XM (t : Nat → Int32) (L : Nat) (mI : Nat → Nat → Int32) : Prop := L ≤ 200 ∧ mI 139 14 = nI L ∧ ∀ i, i < L → mI 150 i = t i
def TKM (t : Nat → Int32) (L x : Nat) (mI : Nat → Nat → Int32) : Prop := XM t L mI ∧ x ≤ L ∧ mI 139 18 = nI (tkS t L x) ∧ mI 139 16 = nI (tkB t L x) ∧ mI 139 17 = nI (tkE t L x)
/-- nothing but these fields of the model has changed -/
def F9 (S : List Nat) (mI mI' : Nat → Nat → Int32) : Prop := (∀ q, q ≠ 139 → mI' q = mI q) ∧ ∀ f, ¬ f ∈ S → mI' 139 f = mI 139 f
theorem F9.rf {S : List Nat} {mI : Nat → Nat → Int32} : F9 S mI mI := ⟨fun _ _ => rfl, fun _ _ => rfl⟩
theorem F9.tr {S : List Nat} {m1 m2 m3 : Nat → Nat → Int32} (h : F9 S m1 m2) (g : F9 S m2 m3) : F9 S m1 m3 := ⟨fun q hq => (g.1 q hq).trans (h.1 q hq), fun f hf => (g.2 f hf).trans (h.2 f hf)⟩
theorem F9.mo {S S' : List Nat} {m1 m2 : Nat → Nat → Int32} (h : F9 S m1 m2) (hs : ∀ f, f ∈ S → f ∈ S') : F9 S' m1 m2 := ⟨h.1, fun f hf => h.2 f (fun z => hf (hs f z))⟩
theorem F9_sI {S : List Nat} {f : Nat} {m1 m2 : Nat → Nat → Int32} {x : Int32} (h : F9 S m1 m2) (hf : f ∈ S) : F9 S m1 (sI m2 139 f x) := ⟨fun q hq => (sI_r hq).trans (h.1 q hq), fun g hg => (sI_n (fun z => hg (by rw [z.2]; exact hf))).trans (h.2 g hg)⟩
theorem XM.f9 {S : List Nat} {t : Nat → Int32} {L : Nat} {mI mI' : Nat → Nat → Int32} (h : XM t L mI) (hF : F9 S mI mI') (hs : ¬ 14 ∈ S) : XM t L mI' := ⟨h.1, (hF.2 14 hs).trans h.2.1, fun i hi => by rw [hF.1 150 (by omega)]; exact h.2.2 i hi⟩
def srt (c : Int32) : Nat := if smP c then 1 else if dgP c then 2 else 3
theorem sm_iff {c : Int32} : (97 ≤ c.toInt ∧ c.toInt ≤ 122) ↔ smP c := (in_lo (a := 97) (b := 122) (by decide) (by decide)).symm
theorem dg_iff {c : Int32} : (48 ≤ c.toInt ∧ c.toInt ≤ 57) ↔ dgP c := (in_lo (a := 48) (b := 57) (by decide) (by decide)).symm
theorem srt_1 {c : Int32} : srt c = 1 ↔ fS c = true := by
  unfold srt fS
  rw [decide_eq_true_iff]
  by_cases h : smP c
  · rw [if_pos h]; exact ⟨fun _ => h, fun _ => rfl⟩
  · rw [if_neg h]
    constructor
    · intro z; split at z <;> cases z
    · intro z; exact absurd z h
theorem not_both {c : Int32} (h : smP c) : ¬ dgP c := fun z => by
  have h1 := Int32.le_iff_toInt_le.mp h.1
  have h2 := Int32.le_iff_toInt_le.mp z.2
  rw [nI_toInt (by decide)] at h1 h2
  omega
theorem srt_2 {c : Int32} : srt c = 2 ↔ fD c = true := by
  unfold srt fD
  rw [decide_eq_true_iff]
  by_cases h : smP c
  · rw [if_pos h]
    constructor
    · intro z; cases z
    · intro z; exact absurd z (not_both h)
  · rw [if_neg h]
    by_cases g : dgP c
    · rw [if_pos g]; exact ⟨fun _ => g, fun _ => rfl⟩
    · rw [if_neg g]
      constructor
      · intro z; cases z
      · intro z; exact absurd z g
theorem srt_le (c : Int32) : 1 ≤ srt c ∧ srt c ≤ 3 := by unfold srt; split <;> (try split) <;> omega
theorem tkS_in {t : Nat → Int32} {L x : Nat} (h : tkB t L x < L) : tkS t L x = srt (t (tkB t L x)) := by unfold tkS srt; rw [if_neg (by omega)]
theorem c_Md_sortOf {X : CX} {h : AH} {Q : Option Value → AH → Prop} {x : Int32} (k : Q (some (.int (nI (srt x)))) h) : EW X m_Md_sortOf 0 (enL m_Md_sortOf.2.2.1 [.int x]) [] h Q := by
  show EW X m_Md_sortOf 0 [.int x] [] h Q
  refine g_iload_n d_Md_sortOf_0 rfl ?_
  refine P_i2l d_Md_sortOf_1 ?_
  refine P_ldc2 d_Md_sortOf_2 _ q_Md_123 ?_
  refine P_ldc2 d_Md_sortOf_5 _ q_Md_125 ?_
  refine C_S3 d_Md_sortOf_8 k_Md_111 (Nat.le_of_ble_eq_true rfl) (by decide) (Nat.le_of_ble_eq_true rfl) ?_
  refine (c_Md_inI 97 122 rfl rfl) ?_
  refine B_eq d_Md_sortOf_11 18 (by decide) (fun c1 => ?_) (fun c1 => ?_)
  · refine g_iload_n d_Md_sortOf_18 rfl ?_
    refine P_i2l d_Md_sortOf_19 ?_
    refine P_ldc2 d_Md_sortOf_20 _ q_Md_127 ?_
    refine P_ldc2 d_Md_sortOf_23 _ q_Md_129 ?_
    refine C_S3 d_Md_sortOf_26 k_Md_111 (Nat.le_of_ble_eq_true rfl) (by decide) (Nat.le_of_ble_eq_true rfl) ?_
    refine (c_Md_inI 48 57 rfl rfl) ?_
    refine B_eq d_Md_sortOf_29 36 (by decide) (fun c2 => ?_) (fun c2 => ?_)
    · refine N_iconst d_Md_sortOf_36 3 rfl ?_
      refine P_iret d_Md_sortOf_37 rfl ?_
      first | exact R_i k (congrArg nI (by unfold srt; rw [if_pos (sm_iff.mp (by assumption))])) | exact R_i k (congrArg nI (by unfold srt; rw [if_neg (fun z => absurd (sm_iff.mpr z) (by assumption)), if_pos (dg_iff.mp (by assumption))])) | exact R_i k (congrArg nI (by unfold srt; rw [if_neg (fun z => absurd (sm_iff.mpr z) (by assumption)), if_neg (fun z => absurd (dg_iff.mpr z) (by assumption))]))
    · refine N_iconst d_Md_sortOf_32 2 rfl ?_
      refine P_goto d_Md_sortOf_33 37 (by decide) ?_
      refine P_iret d_Md_sortOf_37 rfl ?_
      first | exact R_i k (congrArg nI (by unfold srt; rw [if_pos (sm_iff.mp (by assumption))])) | exact R_i k (congrArg nI (by unfold srt; rw [if_neg (fun z => absurd (sm_iff.mpr z) (by assumption)), if_pos (dg_iff.mp (by assumption))])) | exact R_i k (congrArg nI (by unfold srt; rw [if_neg (fun z => absurd (sm_iff.mpr z) (by assumption)), if_neg (fun z => absurd (dg_iff.mpr z) (by assumption))]))
  · refine N_iconst d_Md_sortOf_14 1 rfl ?_
    refine P_goto d_Md_sortOf_15 37 (by decide) ?_
    refine P_iret d_Md_sortOf_37 rfl ?_
    first | exact R_i k (congrArg nI (by unfold srt; rw [if_pos (sm_iff.mp (by assumption))])) | exact R_i k (congrArg nI (by unfold srt; rw [if_neg (fun z => absurd (sm_iff.mpr z) (by assumption)), if_pos (dg_iff.mp (by assumption))])) | exact R_i k (congrArg nI (by unfold srt; rw [if_neg (fun z => absurd (sm_iff.mpr z) (by assumption)), if_neg (fun z => absurd (dg_iff.mpr z) (by assumption))]))

theorem lp_Md_looks1 {X : CX} {dl : List (Nat × Nat)} {mI : Nat → Nat → Int32} {dr : Nat → Nat → Nat} {Q : Option Value → AH → Prop} {t : Nat → Int32} {L x : Nat} (hX : XM t L mI) (k : ∀ mI', mI' 139 15 = nI (tkB t L x) → F9 [15] mI mI' → EW X m_Md_looks 38 [.ref 139] [] (hp X dl mI' dr) Q) : ∀ (d : Nat) (i : Nat) (mI2 : Nat → Nat → Int32), (i ≤ L) → (mI2 139 15 = nI i) → (tkB t L x = rn fB t L i) → (F9 [15] mI mI2) → L - i = d → EW X m_Md_looks 0 [.ref 139] [] (hp X dl mI2 dr) Q := by
  intro d
  induction d using Nat.strongRecOn with
  | _ d ih =>
    intro i mI2 hi h4 hr hF hd
    have hL := hX.1
    have hX2 := hX.f9 hF (by decide)
    refine g_aload_n d_Md_looks_0 rfl ?_
    refine H_getI d_Md_looks_1 f_Md_131.g rfl rfl (by decide) ?_
    refine T_int (nI (i)) h4 ?_
    refine g_aload_n d_Md_looks_4 rfl ?_
    refine H_getI d_Md_looks_5 f_Md_120.g rfl rfl (by decide) ?_
    refine T_int (nI (L)) hX2.2.1 ?_
    refine N_icmp_ge d_Md_looks_8 38 (by decide) ⟨by omega, by omega⟩ (fun c1 => ?_) (fun c1 => ?_)
    · exact k mI2 (by rw [hr, rn_end (by omega)]; exact h4) hF
    · refine g_aload_n d_Md_looks_11 rfl ?_
      refine H_getR 150 d_Md_looks_12 f_Md_41.g rfl rfl (by decide) rfl ?_
      refine g_aload_n d_Md_looks_15 rfl ?_
      refine H_getI d_Md_looks_16 f_Md_131.g rfl rfl (by decide) ?_
      refine T_int (nI (i)) h4 ?_
      refine H_ialdN d_Md_looks_19 rfl rfl (show i < 200 by omega) (by decide) ?_
      refine T_int (t i) (hX2.2.2 i c1) ?_
      refine N_bipush d_Md_looks_20 32 rfl ?_
      refine P_icmp_ne d_Md_looks_22 38 (by decide) (fun c2 => ?_) (fun c2 => ?_)
      · exact k mI2 (by rw [hr, rn_no c1 (by unfold fB; rw [decide_eq_true_iff]; exact c2)]; exact h4) hF
      · refine g_aload_n d_Md_looks_25 rfl ?_
        refine P_dupA d_Md_looks_26 ?_
        refine H_getI d_Md_looks_27 f_Md_131.g rfl rfl (by decide) ?_
        refine T_int (nI (i)) h4 ?_
        refine N_iconst d_Md_looks_30 1 rfl ?_
        refine N_iadd d_Md_looks_31 ?_
        refine H_putI d_Md_looks_32 f_Md_131 rfl rfl (by decide) ?_
        refine P_goto d_Md_looks_35 0 (by decide) ?_
        exact ih (L - (i + 1)) (by omega) (i + 1) _ (by omega) (sI_s _ _ _ _) (hr.trans (rn_yes c1 (by unfold fB; rw [decide_eq_true_iff]; exact c2))) (F9_sI hF (by decide)) rfl

theorem lp_Md_looks2 {X : CX} {dl : List (Nat × Nat)} {mI : Nat → Nat → Int32} {dr : Nat → Nat → Nat} {Q : Option Value → AH → Prop} {t : Nat → Int32} {L b s : Nat} {f : Int32 → Bool} (hX : XM t L mI) (hs : s = 1 ∨ s = 2) (h8 : mI 139 18 = nI s) (hf : ∀ c, srt c = s ↔ f c = true) (k : ∀ mI', mI' 139 17 = nI (rn f t L b) → F9 [17] mI mI' → Q none (hp X dl mI' dr)) : ∀ (d : Nat) (i : Nat) (mI2 : Nat → Nat → Int32), (i ≤ L) → (mI2 139 17 = nI i) → (rn f t L b = rn f t L i) → (F9 [17] mI mI2) → L - i = d → EW X m_Md_looks 96 [.ref 139] [] (hp X dl mI2 dr) Q := by
  intro d
  induction d using Nat.strongRecOn with
  | _ d ih =>
    intro i mI2 hi h4 hr hF hd
    have hL := hX.1
    have hX2 := hX.f9 hF (by decide)
    have h82 : mI2 139 18 = nI s := (hF.2 18 (by decide)).trans h8
    refine g_aload_n d_Md_looks_96 rfl ?_
    refine H_getI d_Md_looks_97 f_Md_140.g rfl rfl (by decide) ?_
    refine T_int (nI (s)) h82 ?_
    refine N_iconst d_Md_looks_100 3 rfl ?_
    refine N_icmp_ge d_Md_looks_101 147 (by decide) ⟨by omega, by omega⟩ (fun c1 => ?_) (fun c1 => ?_)
    · omega
    · refine g_aload_n d_Md_looks_104 rfl ?_
      refine H_getI d_Md_looks_105 f_Md_137.g rfl rfl (by decide) ?_
      refine T_int (nI (i)) h4 ?_
      refine g_aload_n d_Md_looks_108 rfl ?_
      refine H_getI d_Md_looks_109 f_Md_120.g rfl rfl (by decide) ?_
      refine T_int (nI (L)) hX2.2.1 ?_
      refine N_icmp_ge d_Md_looks_112 147 (by decide) ⟨by omega, by omega⟩ (fun c2 => ?_) (fun c2 => ?_)
      · refine P_vret d_Md_looks_147 rfl (k mI2 ?_ hF)
        rw [hr, rn_end (by omega)]; exact h4
      · refine g_aload_n d_Md_looks_115 rfl ?_
        refine H_getR 150 d_Md_looks_116 f_Md_41.g rfl rfl (by decide) rfl ?_
        refine g_aload_n d_Md_looks_119 rfl ?_
        refine H_getI d_Md_looks_120 f_Md_137.g rfl rfl (by decide) ?_
        refine T_int (nI (i)) h4 ?_
        refine H_ialdN d_Md_looks_123 rfl rfl (show i < 200 by omega) (by decide) ?_
        refine T_int (t i) (hX2.2.2 i c2) ?_
        refine C_S1 d_Md_looks_124 k_Md_143 (Nat.le_of_ble_eq_true rfl) (by decide) (Nat.le_of_ble_eq_true rfl) ?_
        refine c_Md_sortOf ?_
        have hsl := srt_le (t i)
        refine g_aload_n d_Md_looks_127 rfl ?_
        refine H_getI d_Md_looks_128 f_Md_140.g rfl rfl (by decide) ?_
        refine T_int (nI (s)) h82 ?_
        refine N_icmp_ne d_Md_looks_131 147 (by decide) ⟨by omega, by omega⟩ (fun c3 => ?_) (fun c3 => ?_)
        · refine P_vret d_Md_looks_147 rfl (k mI2 ?_ hF)
          rw [hr, rn_no c2 (fun z => c3 ((hf _).mpr z))]; exact h4
        · refine g_aload_n d_Md_looks_134 rfl ?_
          refine P_dupA d_Md_looks_135 ?_
          refine H_getI d_Md_looks_136 f_Md_137.g rfl rfl (by decide) ?_
          refine T_int (nI (i)) h4 ?_
          refine N_iconst d_Md_looks_139 1 rfl ?_
          refine N_iadd d_Md_looks_140 ?_
          refine H_putI d_Md_looks_141 f_Md_137 rfl rfl (by decide) ?_
          refine P_goto d_Md_looks_144 96 (by decide) ?_
          exact ih (L - (i + 1)) (by omega) (i + 1) _ (by omega) (sI_s _ _ _ _) (hr.trans (rn_yes c2 ((hf _).mp c3))) (F9_sI hF (by decide)) rfl

theorem c_Md_looks {X : CX} {dl : List (Nat × Nat)} {mI : Nat → Nat → Int32} {dr : Nat → Nat → Nat} {Q : Option Value → AH → Prop} {t : Nat → Int32} {L x : Nat} (hX : XM t L mI) (hx : x ≤ L) (h5 : mI 139 15 = nI x) (k : ∀ mI', TKM t L x mI' → F9 [15, 16, 17, 18] mI mI' → Q none (hp X dl mI' dr)) : EW X m_Md_looks 0 (enL m_Md_looks.2.2.1 [.ref 139]) [] (hp X dl mI dr) Q := by
  show EW X m_Md_looks 0 [.ref 139] [] (hp X dl mI dr) Q
  have hL := hX.1
  have htk := rn_le (f := fB) (t := t) hx
  have htk2 : tkB t L x = rn fB t L x := rfl
  refine lp_Md_looks1 (x := x) hX (fun mI1 g5 gF => ?_) _ x mI hx h5 rfl F9.rf rfl
  refine g_aload_n d_Md_looks_38 rfl ?_
  refine g_aload_n d_Md_looks_39 rfl ?_
  refine H_getI d_Md_looks_40 f_Md_131.g rfl rfl (by decide) ?_
  refine T_int (nI (tkB t L x)) g5 ?_
  refine H_putI d_Md_looks_43 f_Md_134 rfl rfl (by decide) ?_
  refine g_aload_n d_Md_looks_46 rfl ?_
  refine g_aload_n d_Md_looks_47 rfl ?_
  refine H_getI d_Md_looks_48 f_Md_131.g rfl rfl (by decide) ?_
  refine T_int (nI (tkB t L x)) (by rw [sI_n (by omega)]; exact g5) ?_
  refine H_putI d_Md_looks_51 f_Md_137 rfl rfl (by decide) ?_
  refine g_aload_n d_Md_looks_54 rfl ?_
  refine N_iconst d_Md_looks_55 0 rfl ?_
  refine H_putI d_Md_looks_56 f_Md_140 rfl rfl (by decide) ?_
  have hF3 : F9 [15, 16, 17, 18] mI (sI (sI (sI mI1 139 16 (nI (tkB t L x))) 139 17 (nI (tkB t L x))) 139 18 (nI 0)) := F9_sI (F9_sI (F9_sI (gF.mo (fun f hf => by simp at hf; simp [hf])) (by decide)) (by decide)) (by decide)
  have hX3 := hX.f9 hF3 (by decide)
  refine g_aload_n d_Md_looks_59 rfl ?_
  refine H_getI d_Md_looks_60 f_Md_131.g rfl rfl (by decide) ?_
  refine T_int (nI (tkB t L x)) (by rw [sI_n (by omega), sI_n (by omega), sI_n (by omega)]; exact g5) ?_
  refine g_aload_n d_Md_looks_63 rfl ?_
  refine H_getI d_Md_looks_64 f_Md_120.g rfl rfl (by decide) ?_
  refine T_int (nI (L)) hX3.2.1 ?_
  refine N_icmp_ge d_Md_looks_67 147 (by decide) ⟨by omega, by omega⟩ (fun dd1 => ?_) (fun dd1 => ?_)
  · refine P_vret d_Md_looks_147 rfl (k _ ⟨hX3, hx, ?_, ?_, ?_⟩ hF3)
    · rw [sI_s, tkS, if_pos dd1]
    · rw [sI_n (by omega), sI_n (by omega), sI_s]
    · rw [sI_n (by omega), sI_s, tkE, if_pos dd1]
  · have hnL : ¬ L ≤ tkB t L x := by omega
    have htS := tkS_in (t := t) (x := x) dd1
    have hsl := srt_le (t (tkB t L x))
    refine g_aload_n d_Md_looks_70 rfl ?_
    refine g_aload_n d_Md_looks_71 rfl ?_
    refine H_getR 150 d_Md_looks_72 f_Md_41.g rfl rfl (by decide) rfl ?_
    refine g_aload_n d_Md_looks_75 rfl ?_
    refine H_getI d_Md_looks_76 f_Md_131.g rfl rfl (by decide) ?_
    refine T_int (nI (tkB t L x)) (by rw [sI_n (by omega), sI_n (by omega), sI_n (by omega)]; exact g5) ?_
    refine H_ialdN d_Md_looks_79 rfl rfl (show tkB t L x < 200 by omega) (by decide) ?_
    refine T_int (t (tkB t L x)) (hX3.2.2 _ dd1) ?_
    refine C_S1 d_Md_looks_80 k_Md_143 (Nat.le_of_ble_eq_true rfl) (by decide) (Nat.le_of_ble_eq_true rfl) ?_
    refine c_Md_sortOf ?_
    refine H_putI d_Md_looks_83 f_Md_140 rfl rfl (by decide) ?_
    rw [sI_sI]
    refine g_aload_n d_Md_looks_86 rfl ?_
    refine P_dupA d_Md_looks_87 ?_
    refine H_getI d_Md_looks_88 f_Md_137.g rfl rfl (by decide) ?_
    refine T_int (nI (tkB t L x)) (by rw [sI_n (by omega), sI_s]) ?_
    refine N_iconst d_Md_looks_91 1 rfl ?_
    refine N_iadd d_Md_looks_92 ?_
    refine H_putI d_Md_looks_93 f_Md_137 rfl rfl (by decide) ?_
    have hF4 : F9 [15, 16, 17, 18] mI (sI (sI (sI (sI mI1 139 16 (nI (tkB t L x))) 139 17 (nI (tkB t L x))) 139 18 (nI (srt (t (tkB t L x))))) 139 17 (nI (tkB t L x + 1))) := F9_sI (F9_sI (F9_sI (F9_sI (gF.mo (fun f hf => by simp at hf; simp [hf])) (by decide)) (by decide)) (by decide)) (by decide)
    have hX4 := hX.f9 hF4 (by decide)
    have h84 : (sI (sI (sI (sI mI1 139 16 (nI (tkB t L x))) 139 17 (nI (tkB t L x))) 139 18 (nI (srt (t (tkB t L x))))) 139 17 (nI (tkB t L x + 1))) 139 18 = nI (srt (t (tkB t L x))) := by rw [sI_n (by omega), sI_s]
    have h64 : (sI (sI (sI (sI mI1 139 16 (nI (tkB t L x))) 139 17 (nI (tkB t L x))) 139 18 (nI (srt (t (tkB t L x))))) 139 17 (nI (tkB t L x + 1))) 139 16 = nI (tkB t L x) := by rw [sI_n (by omega), sI_n (by omega), sI_n (by omega), sI_s]
    have h74 : (sI (sI (sI (sI mI1 139 16 (nI (tkB t L x))) 139 17 (nI (tkB t L x))) 139 18 (nI (srt (t (tkB t L x))))) 139 17 (nI (tkB t L x + 1))) 139 17 = nI (tkB t L x + 1) := sI_s _ _ _ _
    generalize (sI (sI (sI (sI mI1 139 16 (nI (tkB t L x))) 139 17 (nI (tkB t L x))) 139 18 (nI (srt (t (tkB t L x))))) 139 17 (nI (tkB t L x + 1))) = mI4 at *
    rcases (show srt (t (tkB t L x)) = 1 ∨ srt (t (tkB t L x)) = 2 ∨ srt (t (tkB t L x)) = 3 by omega) with hs | hs | hs
    · have h1 := srt_1.mp hs
      refine lp_Md_looks2 (f := fS) (b := tkB t L x) hX4 (Or.inl hs) h84 (fun c => by rw [hs]; exact srt_1) (fun mI5 h5 hF5 => ?_) _ (tkB t L x + 1) mI4 (by omega) h74 (rn_yes dd1 h1) F9.rf rfl
      have hF6 : F9 [15, 16, 17, 18] mI mI5 := hF4.tr (hF5.mo (fun f hf => by simp at hf; simp [hf]))
      refine k mI5 ⟨hX.f9 hF6 (by decide), hx, ?_, ?_, ?_⟩ hF6
      · rw [hF5.2 18 (by decide), h84, htS]
      · rw [hF5.2 16 (by decide), h64]
      · rw [h5, tkE, if_neg hnL, if_pos (by unfold fS at h1; exact of_decide_eq_true h1)]
    · have h1 := srt_2.mp hs
      refine lp_Md_looks2 (f := fD) (b := tkB t L x) hX4 (Or.inr hs) h84 (fun c => by rw [hs]; exact srt_2) (fun mI5 h5 hF5 => ?_) _ (tkB t L x + 1) mI4 (by omega) h74 (rn_yes dd1 h1) F9.rf rfl
      have hF6 : F9 [15, 16, 17, 18] mI mI5 := hF4.tr (hF5.mo (fun f hf => by simp at hf; simp [hf]))
      have hd1 : dgP (t (tkB t L x)) := by unfold fD at h1; exact of_decide_eq_true h1
      refine k mI5 ⟨hX.f9 hF6 (by decide), hx, ?_, ?_, ?_⟩ hF6
      · rw [hF5.2 18 (by decide), h84, htS]
      · rw [hF5.2 16 (by decide), h64]
      · rw [h5, tkE, if_neg hnL, if_neg (fun z => not_both z hd1), if_pos hd1]
    · refine g_aload_n d_Md_looks_96 rfl ?_
      refine H_getI d_Md_looks_97 f_Md_140.g rfl rfl (by decide) ?_
      refine T_int (nI 3) (by rw [h84, hs]) ?_
      refine N_iconst d_Md_looks_100 3 rfl ?_
      refine N_icmp_ge d_Md_looks_101 147 (by decide) ⟨by omega, by omega⟩ (fun _ => ?_) (fun z => by omega)
      refine P_vret d_Md_looks_147 rfl (k mI4 ⟨hX4, hx, ?_, h64, ?_⟩ hF4)
      · rw [h84, htS]
      · have hn1 : ¬ smP (t (tkB t L x)) := fun z => by have := srt_1.mpr (show fS (t (tkB t L x)) = true from decide_eq_true z); omega
        have hn2 : ¬ dgP (t (tkB t L x)) := fun z => by have := srt_2.mpr (show fD (t (tkB t L x)) = true from decide_eq_true z); omega
        rw [h74, tkE, if_neg hnL, if_neg hn1, if_neg hn2]

theorem c_Md_passesToken {X : CX} {dl : List (Nat × Nat)} {mI : Nat → Nat → Int32} {dr : Nat → Nat → Nat} {Q : Option Value → AH → Prop} {t : Nat → Int32} {L x : Nat} (hK : TKM t L x mI) (k : ∀ mI', TKM t L (tkE t L x) mI' → F9 [15, 16, 17, 18] mI mI' → Q none (hp X dl mI' dr)) : EW X m_Md_passesToken 0 (enL m_Md_passesToken.2.2.1 [.ref 139]) [] (hp X dl mI dr) Q := by
  show EW X m_Md_passesToken 0 [.ref 139] [] (hp X dl mI dr) Q
  refine g_aload_n d_Md_passesToken_0 rfl ?_
  refine g_aload_n d_Md_passesToken_1 rfl ?_
  refine H_getI d_Md_passesToken_2 f_Md_137.g rfl rfl (by decide) ?_
  refine T_int (nI (tkE t L x)) hK.2.2.2.2 ?_
  refine H_putI d_Md_passesToken_5 f_Md_131 rfl rfl (by decide) ?_
  refine g_aload_n d_Md_passesToken_8 rfl ?_
  refine C_V0 d_Md_passesToken_9 k_Md_147 rfl (Nat.le_of_ble_eq_true rfl) (by decide) (Nat.le_of_ble_eq_true rfl) ?_
  have hF0 : F9 [15, 16, 17, 18] mI (sI mI 139 15 (nI (tkE t L x))) := F9_sI F9.rf (by decide)
  refine c_Md_looks (x := tkE t L x) (hK.1.f9 hF0 (by decide)) (tk_le hK.2.1).2.2 (sI_s _ _ _ _) (fun mI1 hK1 hF1 => ?_)
  refine P_vret d_Md_passesToken_12 rfl ?_
  exact k mI1 hK1 (hF0.tr hF1)

theorem in_num {a lo n : Nat} {hi : Int32} (ha : a < 2 ^ 31) (hl : lo < 2 ^ 31) (hh : hi.toInt = (n : Int) - 1) : (lQ lo ≤ lQ a ∧ lQ a ≤ hi.toInt64) ↔ (lo ≤ a ∧ a < n) := by
  rw [Int64.le_iff_toInt_le, Int64.le_iff_toInt_le, lQ_toInt (by omega), lQ_toInt (by omega), Int32.toInt_toInt64, hh]
  constructor <;> intro z <;> constructor <;> omega
theorem TKM.f9 {S : List Nat} {t : Nat → Int32} {L x : Nat} {mI mI' : Nat → Nat → Int32} (h : TKM t L x mI) (hF : F9 S mI mI') (hs : ¬ 14 ∈ S ∧ ¬ 16 ∈ S ∧ ¬ 17 ∈ S ∧ ¬ 18 ∈ S) : TKM t L x mI' := ⟨h.1.f9 hF hs.1, h.2.1, (hF.2 18 hs.2.2.2).trans h.2.2.1, (hF.2 16 hs.2.1).trans h.2.2.2.1, (hF.2 17 hs.2.2.1).trans h.2.2.2.2⟩
theorem tk2_all {t : Nat → Int32} {L x : Nat} (h : tkS t L x = 2) : ∀ j, tkB t L x ≤ j → j < tkE t L x → dgP (t j) := fun j g1 g2 => by
  rw [(tk2 h).2.2] at g2
  have := rn_all (f := fD) (t := t) (L - tkB t L x) (tkB t L x) j g1 g2
  unfold fD at this
  exact of_decide_eq_true this
theorem tk2_lt {t : Nat → Int32} {L x : Nat} (h : tkS t L x = 2) : tkB t L x < tkE t L x := by
  obtain ⟨h1, h2, h3⟩ := tk2 h
  rw [h3, rn_yes h1 (show fD _ = true from decide_eq_true h2)]
  have := rn_le (f := fD) (t := t) (L := L) (i := tkB t L x + 1) (by omega)
  omega
theorem lp_Md_takesNumber {X : CX} {dl : List (Nat × Nat)} {mI : Nat → Nat → Int32} {dr : Nat → Nat → Nat} {Q : Option Value → AH → Prop} {t : Nat → Int32} {L x : Nat} {v1 v2 : Int32} (hK : TKM t L x mI) (hs : tkS t L x = 2) (hlen : tkE t L x - tkB t L x ≤ 2) (k : ∀ mI' v3, mI' 139 30 = nI (nm t L x) → F9 [30] mI mI' → EW X m_Md_takesNumber 68 [.ref 139, .int v1, .int v2, v3] [] (hp X dl mI' dr) Q) : ∀ (d : Nat) (i : Nat) (mI2 : Nat → Nat → Int32), (tkB t L x ≤ i ∧ i ≤ tkE t L x) → (mI2 139 30 = nI (nmP t (tkB t L x) i)) → (F9 [30] mI mI2) → tkE t L x - i = d → EW X m_Md_takesNumber 33 [.ref 139, .int v1, .int v2, .int (nI i)] [] (hp X dl mI2 dr) Q := by
  intro d
  induction d using Nat.strongRecOn with
  | _ d ih =>
    intro i mI2 hi h4 hF hd
    have hL := hK.1.1
    have hle := tk_le (t := t) hK.2.1
    have hK2 := hK.f9 hF (by decide)
    have hlt := tk2_lt hs
    refine g_iload_n d_Md_takesNumber_33 rfl ?_
    refine g_aload_n d_Md_takesNumber_34 rfl ?_
    refine H_getI d_Md_takesNumber_35 f_Md_137.g rfl rfl (by decide) ?_
    refine T_int (nI (tkE t L x)) hK2.2.2.2.2 ?_
    refine N_icmp_ge d_Md_takesNumber_38 68 (by decide) ⟨by omega, by omega⟩ (fun c1 => ?_) (fun c1 => ?_)
    · have e : i = tkE t L x := by omega
      subst e
      refine k mI2 _ ?_ hF
      rw [h4]
      unfold nmP
      rw [if_neg (by omega)]
      rfl
    · have hdv := dv_eq (tk2_all hs i hi.1 c1)
      refine g_aload_n d_Md_takesNumber_41 rfl ?_
      refine N_bipush d_Md_takesNumber_42 10 rfl ?_
      refine g_aload_n d_Md_takesNumber_44 rfl ?_
      refine H_getI d_Md_takesNumber_45 f_Md_150.g rfl rfl (by decide) ?_
      refine T_int (nI (nmP t (tkB t L x) i)) h4 ?_
      refine N_imul d_Md_takesNumber_48 ?_
      refine g_aload_n d_Md_takesNumber_49 rfl ?_
      refine H_getR 150 d_Md_takesNumber_50 f_Md_41.g rfl rfl (by decide) rfl ?_
      refine g_iload_n d_Md_takesNumber_53 rfl ?_
      refine H_ialdN d_Md_takesNumber_54 rfl rfl (show i < 200 by omega) (by decide) ?_
      refine T_int (nI (48 + dv (t i))) ((hK2.1.2.2 i (by omega)).trans hdv.1) ?_
      refine N_iadd d_Md_takesNumber_55 ?_
      refine N_bipush d_Md_takesNumber_56 48 rfl ?_
      refine N_isub d_Md_takesNumber_58 (by omega) ?_
      refine T_int (nI (nmP t (tkB t L x) (i + 1))) (congrArg nI (by
  unfold nmP
  rw [if_neg (show ¬ i + 1 ≤ tkB t L x by omega)]
  rcases (show i = tkB t L x ∨ i = tkB t L x + 1 by omega) with z | z
  · rw [z, if_pos (Nat.le_refl _)]; unfold nmN; rw [if_neg (by omega)]; omega
  · rw [z, if_neg (by omega)]; unfold nmN; rw [if_neg (by omega), if_pos (by omega)]; omega)) ?_
      refine H_putI d_Md_takesNumber_59 f_Md_150 rfl rfl (by decide) ?_
      refine N_iinc_4_3_1 d_Md_takesNumber_62 rfl rfl ?_
      refine P_goto d_Md_takesNumber_65 33 (by decide) ?_
      exact ih (tkE t L x - (i + 1)) (by omega) (i + 1) _ (by omega) (sI_s _ _ _ _) (F9_sI hF (by decide)) rfl

theorem c_Md_takesNumber {X : CX} {dl : List (Nat × Nat)} {mI : Nat → Nat → Int32} {dr : Nat → Nat → Nat} {Q : Option Value → AH → Prop} {t : Nat → Int32} {L x lo n : Nat} {hi : Int32} (hK : TKM t L x mI) (hlo : lo < 100) (hh : hi.toInt = (n : Int) - 1) (k : ∀ mI', (numIn t L x lo n → TKM t L (tkE t L x) mI' ∧ mI' 139 30 = nI (nm t L x)) → (¬ numIn t L x lo n → TKM t L x mI') → F9 [15, 16, 17, 18, 30] mI mI' → Q (some (.int (bI (numIn t L x lo n)))) (hp X dl mI' dr)) : EW X m_Md_takesNumber 0 (enL m_Md_takesNumber.2.2.1 [.ref 139, .int (nI lo), .int hi]) [] (hp X dl mI dr) Q := by
  show EW X m_Md_takesNumber 0 [.ref 139, .int (nI lo), .int hi, jk] [] (hp X dl mI dr) Q
  have hL := hK.1.1
  have hle := tk_le (t := t) hK.2.1
  have hs3 := tkS_le t L x
  refine g_aload_n d_Md_takesNumber_0 rfl ?_
  refine H_getI d_Md_takesNumber_1 f_Md_140.g rfl rfl (by decide) ?_
  refine T_int (nI (tkS t L x)) hK.2.2.1 ?_
  refine N_iconst d_Md_takesNumber_4 2 rfl ?_
  refine N_icmp_ne d_Md_takesNumber_5 21 (by decide) ⟨by omega, by omega⟩ (fun c1 => ?_) (fun c1 => ?_)
  · refine N_iconst d_Md_takesNumber_21 0 rfl ?_
    refine P_zret d_Md_takesNumber_22 rfl (by decide) ?_
    have hn : ¬ numIn t L x lo n := fun z => by have z1 := z.1; have z2 := z.2.1; omega
    exact R_i (k mI (fun z => absurd z hn) (fun _ => hK) F9.rf) (bI_f' hn)
  · refine g_aload_n d_Md_takesNumber_8 rfl ?_
    refine H_getI d_Md_takesNumber_9 f_Md_137.g rfl rfl (by decide) ?_
    refine T_int (nI (tkE t L x)) hK.2.2.2.2 ?_
    refine g_aload_n d_Md_takesNumber_12 rfl ?_
    refine H_getI d_Md_takesNumber_13 f_Md_134.g rfl rfl (by decide) ?_
    refine T_int (nI (tkB t L x)) hK.2.2.2.1 ?_
    refine N_isub d_Md_takesNumber_16 (by omega) ?_
    refine N_iconst d_Md_takesNumber_17 2 rfl ?_
    refine N_icmp_le d_Md_takesNumber_18 23 (by decide) ⟨by omega, by omega⟩ (fun c2 => ?_) (fun c2 => ?_)
    · refine g_aload_n d_Md_takesNumber_23 rfl ?_
      refine N_iconst d_Md_takesNumber_24 0 rfl ?_
      refine H_putI d_Md_takesNumber_25 f_Md_150 rfl rfl (by decide) ?_
      refine g_aload_n d_Md_takesNumber_28 rfl ?_
      refine H_getI d_Md_takesNumber_29 f_Md_134.g rfl rfl (by decide) ?_
      refine T_int (nI (tkB t L x)) (by rw [sI_n (by omega)]; exact hK.2.2.2.1) ?_
      refine S_istore_n_4_3 d_Md_takesNumber_32 rfl rfl ?_
      have hF0 : F9 [30] mI (sI mI 139 30 (nI 0)) := F9_sI F9.rf (by decide)
      have hnm := nm_le c1
      refine lp_Md_takesNumber (hK.f9 hF0 (by decide)) c1 c2 (fun mI1 w3 h1 hF1 => ?_) _ (tkB t L x) _ ⟨Nat.le_refl _, hle.2.1⟩ ?_ F9.rf rfl
      · have hF2 : F9 [30] mI mI1 := hF0.tr hF1
        have hF3 : F9 [15, 16, 17, 18, 30] mI mI1 := hF2.mo (fun f hf => by simp at hf; simp [hf])
        have hK1 := hK.f9 hF2 (by decide)
        refine g_aload_n d_Md_takesNumber_68 rfl ?_
        refine H_getI d_Md_takesNumber_69 f_Md_150.g rfl rfl (by decide) ?_
        refine T_int (nI (nm t L x)) h1 ?_
        refine L_i2l d_Md_takesNumber_72 (by omega) ?_
        refine g_iload_n d_Md_takesNumber_73 rfl ?_
        refine L_i2l d_Md_takesNumber_74 (by omega) ?_
        refine g_iload_n d_Md_takesNumber_75 rfl ?_
        refine P_i2l d_Md_takesNumber_76 ?_
        refine C_S3 d_Md_takesNumber_77 k_Md_111 (Nat.le_of_ble_eq_true rfl) (by decide) (Nat.le_of_ble_eq_true rfl) ?_
        refine c_Md_in ?_
        refine B_ne d_Md_takesNumber_80 85 (by decide) (fun dd1 => ?_) (fun dd1 => ?_)
        · refine g_aload_n d_Md_takesNumber_85 rfl ?_
          refine C_V0 d_Md_takesNumber_86 k_Md_153 rfl (Nat.le_of_ble_eq_true rfl) (by decide) (Nat.le_of_ble_eq_true rfl) ?_
          refine c_Md_passesToken hK1 (fun mI4 hK4 hF4 => ?_)
          refine N_iconst d_Md_takesNumber_89 1 rfl ?_
          refine P_zret d_Md_takesNumber_90 rfl (by decide) ?_
          have hy : numIn t L x lo n := ⟨c1, c2, (in_num (by omega) (by omega) hh).mp dd1⟩
          exact R_i (k mI4 (fun _ => ⟨hK4, by rw [hF4.2 30 (by decide)]; exact h1⟩) (fun z => absurd hy z) (hF3.tr (hF4.mo (fun f hf => by simp at hf; simp; omega)))) (bI_t' hy)
        · refine N_iconst d_Md_takesNumber_83 0 rfl ?_
          refine P_zret d_Md_takesNumber_84 rfl (by decide) ?_
          have hn : ¬ numIn t L x lo n := fun z => dd1 ((in_num (by omega) (by omega) hh).mpr z.2.2)
          exact R_i (k mI1 (fun z => absurd z hn) (fun _ => hK1) hF3) (bI_f' hn)
      · rw [sI_s]; unfold nmP; rw [if_pos (Nat.le_refl _)]
    · refine N_iconst d_Md_takesNumber_21 0 rfl ?_
      refine P_zret d_Md_takesNumber_22 rfl (by decide) ?_
      have hn : ¬ numIn t L x lo n := fun z => by have z1 := z.1; have z2 := z.2.1; omega
      exact R_i (k mI (fun z => absurd z hn) (fun _ => hK) F9.rf) (bI_f' hn)

theorem i64_inj {a b : Int32} : a.toInt64 = b.toInt64 ↔ a = b := by
  constructor
  · intro h
    have := congrArg Int64.toInt h
    rw [Int32.toInt_toInt64, Int32.toInt_toInt64] at this
    exact Int32.toInt_inj.mp this
  · intro h; rw [h]
/-- the long w spells the word i -/
def spl (i : Nat) (w : Int64) : Prop := ∀ j, j < lenS.getD i 0 → (w >>> ((nI (8 * (lenS.getD i 0 - 1 - j))).toInt64 &&& 63)) &&& 255 = (chS i j).toInt64
theorem spl_0 : spl 0 123563833652072 := by unfold spl; decide +kernel
theorem spl_1 : spl 1 7168366 := by unfold spl; decide +kernel
theorem spl_2 : spl 2 126943972910693 := by unfold spl; decide +kernel
theorem spl_3 : spl 3 2003397740 := by unfold spl; decide +kernel
theorem spl_4 : spl 4 7364985 := by unfold spl; decide +kernel
theorem spl_5 : spl 5 495673373300 := by unfold spl; decide +kernel
theorem spl_6 : spl 6 1936225646 := by unfold spl; decide +kernel
theorem spl_7 : spl 7 1702258034 := by unfold spl; decide +kernel
/-- as far as j letters the token is the word i -/
abbrev isV (t : Nat → Int32) (L x i j : Nat) : Prop := (tkS t L x = 1 ∧ tkE t L x - tkB t L x = lenS.getD i 0) ∧ ∀ n, n < j → t (tkB t L x + n) = chS i n
theorem isV_no {t : Nat → Int32} {L x i j : Nat} (h : ¬ isV t L x i j) (hj : j ≤ lenS.getD i 0) : ¬ isW t L x i := fun z => h ⟨⟨z.1, z.2.1⟩, fun n hn => z.2.2 n (by omega)⟩
theorem lp_Md_isWord {X : CX} {dl : List (Nat × Nat)} {mI : Nat → Nat → Int32} {dr : Nat → Nat → Nat} {Q : Option Value → AH → Prop} {t : Nat → Int32} {L x i : Nat} {w : Int64} (hK : TKM t L x mI) (hi : i < 8) (hw : spl i w) (k : Q (some (.int (bI (isW t L x i)))) (hp X dl mI dr)) : ∀ (d : Nat) (j : Nat) (b : Bool), (j ≤ lenS.getD i 0) → (b = true ↔ isV t L x i j) → lenS.getD i 0 - j = d → EW X m_Md_isWord 31 [.ref 139, .int (nI (lenS.getD i 0)), .long w, jk, .int (bI (b = true)), .int (nI j)] [] (hp X dl mI dr) Q := by
  intro d
  induction d using Nat.strongRecOn with
  | _ d ih =>
    intro j b hj hb hd
    have hl := (lenS_lt i hi).1
    have hle := tk_le (t := t) hK.2.1
    have hL := hK.1.1
    refine g_iload d_Md_isWord_31 rfl ?_
    refine g_iload_n d_Md_isWord_33 rfl ?_
    refine N_icmp_ge d_Md_isWord_34 87 (by decide) ⟨by omega, by omega⟩ (fun c1 => ?_) (fun c1 => ?_)
    · refine g_iload d_Md_isWord_87 rfl ?_
      refine P_zret d_Md_isWord_89 rfl (bI_01 _) ?_
      first
        | (have e : j = lenS.getD i 0 := by omega
           exact R_i k (bI_iff (by rw [hb, e]; exact ⟨fun z => ⟨⟨z.1, z.2.1⟩, z.2.2⟩, fun z => ⟨z.1.1, z.1.2, z.2⟩⟩)))
        | (have hbf : ¬ b = true := by assumption
           exact R_i k (by rw [bI_f hbf, bI_f (isV_no (fun z => hbf (hb.mpr z)) hj)]))
    · refine g_iload d_Md_isWord_37 rfl ?_
      refine B_eq d_Md_isWord_39 87 (by decide) (fun c2 => ?_) (fun c2 => ?_)
      · refine g_iload d_Md_isWord_87 rfl ?_
        refine P_zret d_Md_isWord_89 rfl (bI_01 _) ?_
        first
          | (have e : j = lenS.getD i 0 := by omega
             exact R_i k (bI_iff (by rw [hb, e]; exact ⟨fun z => ⟨⟨z.1, z.2.1⟩, z.2.2⟩, fun z => ⟨z.1.1, z.1.2, z.2⟩⟩)))
          | (have hbf : ¬ b = true := by assumption
             exact R_i k (by rw [bI_f hbf, bI_f (isV_no (fun z => hbf (hb.mpr z)) hj)]))
      · have hv := hb.mp (by assumption)
        refine g_aload_n d_Md_isWord_42 rfl ?_
        refine H_getR 150 d_Md_isWord_43 f_Md_41.g rfl rfl (by decide) rfl ?_
        refine g_aload_n d_Md_isWord_46 rfl ?_
        refine H_getI d_Md_isWord_47 f_Md_134.g rfl rfl (by decide) ?_
        refine T_int (nI (tkB t L x)) hK.2.2.2.1 ?_
        refine g_iload d_Md_isWord_50 rfl ?_
        refine N_iadd d_Md_isWord_52 ?_
        refine H_ialdN d_Md_isWord_53 rfl rfl (show tkB t L x + j < 200 by omega) (by decide) ?_
        refine T_int (t (tkB t L x + j)) (hK.1.2.2 _ (by omega)) ?_
        refine P_i2l d_Md_isWord_54 ?_
        refine g_lload_n d_Md_isWord_55 rfl ?_
        refine N_bipush d_Md_isWord_56 8 rfl ?_
        refine g_iload_n d_Md_isWord_58 rfl ?_
        refine N_iconst d_Md_isWord_59 1 rfl ?_
        refine N_isub d_Md_isWord_60 (by omega) ?_
        refine g_iload d_Md_isWord_61 rfl ?_
        refine N_isub d_Md_isWord_63 (by omega) ?_
        refine N_imul d_Md_isWord_64 ?_
        refine P_lshr d_Md_isWord_65 ?_
        refine P_ldc2 d_Md_isWord_66 _ q_Md_118 ?_
        refine P_land d_Md_isWord_69 ?_
        rw [hw j (by assumption)]
        refine P_lcmp d_Md_isWord_70 ?_
        refine P_if_ne d_Md_isWord_71 78 (by decide) (fun c3 => ?_) (fun c3 => ?_)
        · refine N_iconst d_Md_isWord_78 0 rfl ?_
          refine S_istore_6_4 d_Md_isWord_79 rfl rfl ?_
          refine N_iinc_6_5_1 d_Md_isWord_81 rfl rfl ?_
          refine P_goto d_Md_isWord_84 31 (by decide) ?_
          first
            | (have hc : lg_cmp (t (tkB t L x + j)).toInt64 (chS i j).toInt64 = 0 := by assumption
               have he := i64_inj.mp ((lg_le0 _ _).2.2.mp hc)
               exact ih (lenS.getD i 0 - (j + 1)) (by omega) (j + 1) true (by omega) ⟨fun _ => ⟨hv.1, fun n hn => by
                 rcases (show n = j ∨ n < j by omega) with rfl | z
                 · exact he
                 · exact hv.2 n z⟩, fun _ => rfl⟩ rfl)
            | (have hc : ¬ lg_cmp (t (tkB t L x + j)).toInt64 (chS i j).toInt64 = 0 := by assumption
               exact ih (lenS.getD i 0 - (j + 1)) (by omega) (j + 1) false (by omega) ⟨fun z => (nomatch z), fun z => absurd ((lg_le0 _ _).2.2.mpr (i64_inj.mpr (z.2 j (by omega)))) hc⟩ rfl)
        · refine N_iconst d_Md_isWord_74 1 rfl ?_
          refine P_goto d_Md_isWord_75 79 (by decide) ?_
          refine S_istore_6_4 d_Md_isWord_79 rfl rfl ?_
          refine N_iinc_6_5_1 d_Md_isWord_81 rfl rfl ?_
          refine P_goto d_Md_isWord_84 31 (by decide) ?_
          first
            | (have hc : lg_cmp (t (tkB t L x + j)).toInt64 (chS i j).toInt64 = 0 := by assumption
               have he := i64_inj.mp ((lg_le0 _ _).2.2.mp hc)
               exact ih (lenS.getD i 0 - (j + 1)) (by omega) (j + 1) true (by omega) ⟨fun _ => ⟨hv.1, fun n hn => by
                 rcases (show n = j ∨ n < j by omega) with rfl | z
                 · exact he
                 · exact hv.2 n z⟩, fun _ => rfl⟩ rfl)
            | (have hc : ¬ lg_cmp (t (tkB t L x + j)).toInt64 (chS i j).toInt64 = 0 := by assumption
               exact ih (lenS.getD i 0 - (j + 1)) (by omega) (j + 1) false (by omega) ⟨fun z => (nomatch z), fun z => absurd ((lg_le0 _ _).2.2.mpr (i64_inj.mpr (z.2 j (by omega)))) hc⟩ rfl)

theorem c_Md_isWord {X : CX} {dl : List (Nat × Nat)} {mI : Nat → Nat → Int32} {dr : Nat → Nat → Nat} {Q : Option Value → AH → Prop} {t : Nat → Int32} {L x i n : Nat} {w : Int64} (hK : TKM t L x mI) (hi : i < 8) (hn : n = lenS.getD i 0) (hw : spl i w) (k : Q (some (.int (bI (isW t L x i)))) (hp X dl mI dr)) : EW X m_Md_isWord 0 (enL m_Md_isWord.2.2.1 [.ref 139, .int (nI n), .long w]) [] (hp X dl mI dr) Q := by
  show EW X m_Md_isWord 0 [.ref 139, .int (nI n), .long w, jk, jk, jk] [] (hp X dl mI dr) Q
  subst hn
  have hl := (lenS_lt i hi).1
  have hle := tk_le (t := t) hK.2.1
  have hL := hK.1.1
  have hs3 := tkS_le t L x
  refine g_aload_n d_Md_isWord_0 rfl ?_
  refine H_getI d_Md_isWord_1 f_Md_140.g rfl rfl (by decide) ?_
  refine T_int (nI (tkS t L x)) hK.2.2.1 ?_
  refine N_iconst d_Md_isWord_4 1 rfl ?_
  refine N_icmp_ne d_Md_isWord_5 25 (by decide) ⟨by omega, by omega⟩ (fun c1 => ?_) (fun c1 => ?_)
  · refine N_iconst d_Md_isWord_25 0 rfl ?_
    refine S_istore_6_4 d_Md_isWord_26 rfl rfl ?_
    refine N_iconst d_Md_isWord_28 0 rfl ?_
    refine S_istore_6_5 d_Md_isWord_29 rfl rfl ?_
    first
      | exact lp_Md_isWord hK hi hw k _ 0 true (Nat.zero_le _) ⟨fun _ => ⟨⟨by assumption, by assumption⟩, fun n hn => absurd hn (Nat.not_lt_zero _)⟩, fun _ => rfl⟩ rfl
      | exact lp_Md_isWord hK hi hw k _ 0 false (Nat.zero_le _) ⟨fun z => (nomatch z), fun z => absurd z.1.1 (by assumption)⟩ rfl
      | exact lp_Md_isWord hK hi hw k _ 0 false (Nat.zero_le _) ⟨fun z => (nomatch z), fun z => absurd z.1.2 (by assumption)⟩ rfl
  · refine g_aload_n d_Md_isWord_8 rfl ?_
    refine H_getI d_Md_isWord_9 f_Md_137.g rfl rfl (by decide) ?_
    refine T_int (nI (tkE t L x)) hK.2.2.2.2 ?_
    refine g_aload_n d_Md_isWord_12 rfl ?_
    refine H_getI d_Md_isWord_13 f_Md_134.g rfl rfl (by decide) ?_
    refine T_int (nI (tkB t L x)) hK.2.2.2.1 ?_
    refine N_isub d_Md_isWord_16 (by omega) ?_
    refine g_iload_n d_Md_isWord_17 rfl ?_
    refine N_icmp_ne d_Md_isWord_18 25 (by decide) ⟨by omega, by omega⟩ (fun c2 => ?_) (fun c2 => ?_)
    · refine N_iconst d_Md_isWord_25 0 rfl ?_
      refine S_istore_6_4 d_Md_isWord_26 rfl rfl ?_
      refine N_iconst d_Md_isWord_28 0 rfl ?_
      refine S_istore_6_5 d_Md_isWord_29 rfl rfl ?_
      first
        | exact lp_Md_isWord hK hi hw k _ 0 true (Nat.zero_le _) ⟨fun _ => ⟨⟨by assumption, by assumption⟩, fun n hn => absurd hn (Nat.not_lt_zero _)⟩, fun _ => rfl⟩ rfl
        | exact lp_Md_isWord hK hi hw k _ 0 false (Nat.zero_le _) ⟨fun z => (nomatch z), fun z => absurd z.1.1 (by assumption)⟩ rfl
        | exact lp_Md_isWord hK hi hw k _ 0 false (Nat.zero_le _) ⟨fun z => (nomatch z), fun z => absurd z.1.2 (by assumption)⟩ rfl
    · refine N_iconst d_Md_isWord_21 1 rfl ?_
      refine P_goto d_Md_isWord_22 26 (by decide) ?_
      refine S_istore_6_4 d_Md_isWord_26 rfl rfl ?_
      refine N_iconst d_Md_isWord_28 0 rfl ?_
      refine S_istore_6_5 d_Md_isWord_29 rfl rfl ?_
      first
        | exact lp_Md_isWord hK hi hw k _ 0 true (Nat.zero_le _) ⟨fun _ => ⟨⟨by assumption, by assumption⟩, fun n hn => absurd hn (Nat.not_lt_zero _)⟩, fun _ => rfl⟩ rfl
        | exact lp_Md_isWord hK hi hw k _ 0 false (Nat.zero_le _) ⟨fun z => (nomatch z), fun z => absurd z.1.1 (by assumption)⟩ rfl
        | exact lp_Md_isWord hK hi hw k _ 0 false (Nat.zero_le _) ⟨fun z => (nomatch z), fun z => absurd z.1.2 (by assumption)⟩ rfl

/-- the word at hand, as the model counts them (0: none) -/
def whC (t : Nat → Int32) (L x : Nat) : Nat := if isW t L x 3 then 1 else if isW t L x 4 then 2 else if isW t L x 5 then 3 else if isW t L x 6 then 4 else if isW t L x 7 then 5 else if isW t L x 1 then 6 else if isW t L x 2 then 7 else if isW t L x 0 then 8 else 0
theorem wrd_ne : ∀ i, i < 8 → ∀ j, j < 8 → lenS.getD i 0 = lenS.getD j 0 → (∀ n, n < lenS.getD i 0 → chS i n = chS j n) → i = j := by decide +kernel
theorem isW_one {t : Nat → Int32} {L x i j : Nat} (hi : i < 8) (hj : j < 8) (h : isW t L x i) (g : isW t L x j) : i = j := by
  have e : lenS.getD i 0 = lenS.getD j 0 := h.2.1.symm.trans g.2.1
  exact wrd_ne i hi j hj e (fun n hn => (h.2.2 n hn).symm.trans (g.2.2 n (by omega)))
theorem c_Md_wordAtHand {X : CX} {dl : List (Nat × Nat)} {mI : Nat → Nat → Int32} {dr : Nat → Nat → Nat} {Q : Option Value → AH → Prop} {t : Nat → Int32} {L x : Nat} (hK : TKM t L x mI) (k : Q (some (.int (hrI (whC t L x)))) (hp X dl mI dr)) : EW X m_Md_wordAtHand 0 (enL m_Md_wordAtHand.2.2.1 [.ref 139]) [] (hp X dl mI dr) Q := by
  show EW X m_Md_wordAtHand 0 [.ref 139] [] (hp X dl mI dr) Q
  refine g_aload_n d_Md_wordAtHand_0 rfl ?_
  refine N_iconst d_Md_wordAtHand_1 4 rfl ?_
  refine P_ldc2 d_Md_wordAtHand_2 _ q_Md_156 ?_
  refine C_V2 d_Md_wordAtHand_5 k_Md_158 rfl (Nat.le_of_ble_eq_true rfl) (by decide) (Nat.le_of_ble_eq_true rfl) ?_
  refine (c_Md_isWord (i := 3) hK (by decide) rfl spl_3) ?_
  refine B_eq d_Md_wordAtHand_8 13 (by decide) (fun c1 => ?_) (fun c1 => ?_)
  · refine g_aload_n d_Md_wordAtHand_13 rfl ?_
    refine N_iconst d_Md_wordAtHand_14 3 rfl ?_
    refine P_ldc2 d_Md_wordAtHand_15 _ q_Md_162 ?_
    refine C_V2 d_Md_wordAtHand_18 k_Md_158 rfl (Nat.le_of_ble_eq_true rfl) (by decide) (Nat.le_of_ble_eq_true rfl) ?_
    refine (c_Md_isWord (i := 4) hK (by decide) rfl spl_4) ?_
    refine B_eq d_Md_wordAtHand_21 26 (by decide) (fun c2 => ?_) (fun c2 => ?_)
    · refine g_aload_n d_Md_wordAtHand_26 rfl ?_
      refine N_iconst d_Md_wordAtHand_27 5 rfl ?_
      refine P_ldc2 d_Md_wordAtHand_28 _ q_Md_164 ?_
      refine C_V2 d_Md_wordAtHand_31 k_Md_158 rfl (Nat.le_of_ble_eq_true rfl) (by decide) (Nat.le_of_ble_eq_true rfl) ?_
      refine (c_Md_isWord (i := 5) hK (by decide) rfl spl_5) ?_
      refine B_eq d_Md_wordAtHand_34 39 (by decide) (fun c3 => ?_) (fun c3 => ?_)
      · refine g_aload_n d_Md_wordAtHand_39 rfl ?_
        refine N_iconst d_Md_wordAtHand_40 4 rfl ?_
        refine P_ldc2 d_Md_wordAtHand_41 _ q_Md_166 ?_
        refine C_V2 d_Md_wordAtHand_44 k_Md_158 rfl (Nat.le_of_ble_eq_true rfl) (by decide) (Nat.le_of_ble_eq_true rfl) ?_
        refine (c_Md_isWord (i := 6) hK (by decide) rfl spl_6) ?_
        refine B_eq d_Md_wordAtHand_47 52 (by decide) (fun c4 => ?_) (fun c4 => ?_)
        · refine g_aload_n d_Md_wordAtHand_52 rfl ?_
          refine N_iconst d_Md_wordAtHand_53 4 rfl ?_
          refine P_ldc2 d_Md_wordAtHand_54 _ q_Md_168 ?_
          refine C_V2 d_Md_wordAtHand_57 k_Md_158 rfl (Nat.le_of_ble_eq_true rfl) (by decide) (Nat.le_of_ble_eq_true rfl) ?_
          refine (c_Md_isWord (i := 7) hK (by decide) rfl spl_7) ?_
          refine B_eq d_Md_wordAtHand_60 65 (by decide) (fun c5 => ?_) (fun c5 => ?_)
          · refine g_aload_n d_Md_wordAtHand_65 rfl ?_
            refine N_iconst d_Md_wordAtHand_66 3 rfl ?_
            refine P_ldc2 d_Md_wordAtHand_67 _ q_Md_170 ?_
            refine C_V2 d_Md_wordAtHand_70 k_Md_158 rfl (Nat.le_of_ble_eq_true rfl) (by decide) (Nat.le_of_ble_eq_true rfl) ?_
            refine (c_Md_isWord (i := 1) hK (by decide) rfl spl_1) ?_
            refine B_eq d_Md_wordAtHand_73 78 (by decide) (fun c6 => ?_) (fun c6 => ?_)
            · refine g_aload_n d_Md_wordAtHand_78 rfl ?_
              refine N_bipush d_Md_wordAtHand_79 6 rfl ?_
              refine P_ldc2 d_Md_wordAtHand_81 _ q_Md_172 ?_
              refine C_V2 d_Md_wordAtHand_84 k_Md_158 rfl (Nat.le_of_ble_eq_true rfl) (by decide) (Nat.le_of_ble_eq_true rfl) ?_
              refine (c_Md_isWord (i := 2) hK (by decide) rfl spl_2) ?_
              refine B_eq d_Md_wordAtHand_87 93 (by decide) (fun c7 => ?_) (fun c7 => ?_)
              · refine g_aload_n d_Md_wordAtHand_93 rfl ?_
                refine N_bipush d_Md_wordAtHand_94 6 rfl ?_
                refine P_ldc2 d_Md_wordAtHand_96 _ q_Md_174 ?_
                refine C_V2 d_Md_wordAtHand_99 k_Md_158 rfl (Nat.le_of_ble_eq_true rfl) (by decide) (Nat.le_of_ble_eq_true rfl) ?_
                refine (c_Md_isWord (i := 0) hK (by decide) rfl spl_0) ?_
                refine B_eq d_Md_wordAtHand_102 110 (by decide) (fun c8 => ?_) (fun c8 => ?_)
                · refine P_iconst d_Md_wordAtHand_110 (-1) rfl ?_
                  refine P_iret d_Md_wordAtHand_111 rfl ?_
                  first | exact R_i k (by unfold whC; rw [if_neg c1, if_neg c2, if_neg c3, if_neg c4, if_neg c5, if_neg c6, if_neg c7, if_pos c8]; rfl) | exact R_i k (by unfold whC; rw [if_neg c1, if_neg c2, if_neg c3, if_neg c4, if_neg c5, if_neg c6, if_neg c7, if_neg c8]; rfl)
                · refine N_bipush d_Md_wordAtHand_105 7 rfl ?_
                  refine P_goto d_Md_wordAtHand_107 111 (by decide) ?_
                  refine P_iret d_Md_wordAtHand_111 rfl ?_
                  first | exact R_i k (by unfold whC; rw [if_neg c1, if_neg c2, if_neg c3, if_neg c4, if_neg c5, if_neg c6, if_neg c7, if_pos c8]; rfl) | exact R_i k (by unfold whC; rw [if_neg c1, if_neg c2, if_neg c3, if_neg c4, if_neg c5, if_neg c6, if_neg c7, if_neg c8]; rfl)
              · refine N_bipush d_Md_wordAtHand_90 6 rfl ?_
                refine P_iret d_Md_wordAtHand_92 rfl ?_
                exact R_i k (by unfold whC; rw [if_neg c1, if_neg c2, if_neg c3, if_neg c4, if_neg c5, if_neg c6, if_pos c7]; rfl)
            · refine N_iconst d_Md_wordAtHand_76 5 rfl ?_
              refine P_iret d_Md_wordAtHand_77 rfl ?_
              exact R_i k (by unfold whC; rw [if_neg c1, if_neg c2, if_neg c3, if_neg c4, if_neg c5, if_pos c6]; rfl)
          · refine N_iconst d_Md_wordAtHand_63 4 rfl ?_
            refine P_iret d_Md_wordAtHand_64 rfl ?_
            exact R_i k (by unfold whC; rw [if_neg c1, if_neg c2, if_neg c3, if_neg c4, if_pos c5]; rfl)
        · refine N_iconst d_Md_wordAtHand_50 3 rfl ?_
          refine P_iret d_Md_wordAtHand_51 rfl ?_
          exact R_i k (by unfold whC; rw [if_neg c1, if_neg c2, if_neg c3, if_pos c4]; rfl)
      · refine N_iconst d_Md_wordAtHand_37 2 rfl ?_
        refine P_iret d_Md_wordAtHand_38 rfl ?_
        exact R_i k (by unfold whC; rw [if_neg c1, if_neg c2, if_pos c3]; rfl)
    · refine N_iconst d_Md_wordAtHand_24 1 rfl ?_
      refine P_iret d_Md_wordAtHand_25 rfl ?_
      exact R_i k (by unfold whC; rw [if_neg c1, if_pos c2]; rfl)
  · refine N_iconst d_Md_wordAtHand_11 0 rfl ?_
    refine P_iret d_Md_wordAtHand_12 rfl ?_
    exact R_i k (by unfold whC; rw [if_pos c1]; rfl)

