theorem c_Md_inI {X : CX} {h : AH} {Q : Option Value → AH → Prop} {x : Int32} {lo hi : Int64} (a b : Int) (ha : lo.toInt = a) (hb : hi.toInt = b) (k : Q (some (.int (bI (a ≤ x.toInt ∧ x.toInt ≤ b)))) h) : EW X m_Md_in 0 (enL m_Md_in.2.2.1 [.long x.toInt64, .long lo, .long hi]) [] h Q := by
  refine c_Md_in (R_i k (bI_iff ?_))
  rw [Int64.le_iff_toInt_le, Int64.le_iff_toInt_le, ha, hb, Int32.toInt_toInt64]
theorem c_Md_inN {X : CX} {h : AH} {Q : Option Value → AH → Prop} {x : Int32} {lo hi : Int64} (n : Nat) (ha : lo.toInt = 0) (hb : hi.toInt + 1 = (n : Int)) (k : Q (some (.int (bI (inN x n)))) h) : EW X m_Md_in 0 (enL m_Md_in.2.2.1 [.long x.toInt64, .long lo, .long hi]) [] h Q := by
  refine c_Md_in (R_i k (bI_iff ?_))
  rw [Int64.le_iff_toInt_le, Int64.le_iff_toInt_le, ha, Int32.toInt_toInt64]
  constructor <;> intro z <;> constructor <;> omega
/-- what can be had back -/
def PM (T : TD) (l : List AS) (mI : Nat → Nat → Int32) : Prop := l.length ≤ 8 ∧ mI 139 1 = nI l.length ∧ ∀ k σ, l[k]? = some σ → SM (372 + 93 * (l.length - 1 - k)) T σ (KO T σ) mI
/-- the kept states -/
def KM (T : TD) (kp : KP) (mI : Nat → Nat → Int32) : Prop := ∀ k, k < 2 → mI 141 k = bI ((kp k).isSome = true) ∧ ∀ σ, kp k = some σ → SM (186 + 93 * k) T σ (KO T σ) mI
/-- nothing but the trial has changed, and what the searches note -/
def FQ (mI mI' : Nat → Nat → Int32) : Prop := (∀ q, q ≠ 140 → ¬ (159 ≤ q ∧ q ≤ 163) → mI' q = mI q) ∧ ∀ j, ¬ (93 ≤ j ∧ j < 186) → mI' 140 j = mI 140 j
theorem FQ.rf {mI : Nat → Nat → Int32} : FQ mI mI := ⟨fun _ _ _ => rfl, fun _ _ => rfl⟩
theorem FQ.tr {m1 m2 m3 : Nat → Nat → Int32} (h : FQ m1 m2) (g : FQ m2 m3) : FQ m1 m3 := ⟨fun q h1 h2 => (g.1 q h1 h2).trans (h.1 q h1 h2), fun j hj => (g.2 j hj).trans (h.2 j hj)⟩
theorem FY.q {mI mI' : Nat → Nat → Int32} (h : FY 93 mI mI') : FQ mI mI' := ⟨fun q h1 h2 => h.1 q h1 (by omega), fun j hj => h.2 j (by omega)⟩
theorem FW.q {mI mI' : Nat → Nat → Int32} (h : FW 93 186 mI mI') : FQ mI mI' := ⟨fun q h1 _ => h.1 q h1, fun j hj => h.2 j (by omega)⟩
theorem TM.q {T : TD} {mI mI' : Nat → Nat → Int32} (h : TM 3 7 142 T mI) (hF : FQ mI mI') : TM 3 7 142 T mI' := h.to (congrFun (hF.1 139 (by omega) (by omega)) 3) (congrFun (hF.1 139 (by omega) (by omega)) 7) (fun q z1 z2 => hF.1 q (by omega) (by omega))
theorem SM.q {T : TD} {σ : AS} {mI mI' : Nat → Nat → Int32} {K : Nat} (h : SM 0 T σ K mI) (hw : TW T) (hW : SV T σ) (hF : FQ mI mI') : SM 0 T σ K mI' := h.to hw hW (fun j _ _ => hF.2 j (by omega))
/-- what the doings change: the state now, what can be had back, the trial -/
def FN (mI mI' : Nat → Nat → Int32) : Prop := (∀ q, q ≠ 139 → q ≠ 140 → q ≠ 159 → mI' q = mI q) ∧ (∀ f, f ≠ 1 → mI' 139 f = mI 139 f) ∧ ∀ j, 186 ≤ j → j < 372 → mI' 140 j = mI 140 j
theorem FN.rf {mI : Nat → Nat → Int32} : FN mI mI := ⟨fun _ _ _ _ => rfl, fun _ _ => rfl, fun _ _ _ => rfl⟩
theorem FN.tr {m1 m2 m3 : Nat → Nat → Int32} (h : FN m1 m2) (g : FN m2 m3) : FN m1 m3 := ⟨fun q h1 h2 h3 => (g.1 q h1 h2 h3).trans (h.1 q h1 h2 h3), fun f hf => (g.2.1 f hf).trans (h.2.1 f hf), fun j h1 h2 => (g.2.2 j h1 h2).trans (h.2.2 j h1 h2)⟩
theorem FY.n {mI mI' : Nat → Nat → Int32} (h : FY 0 mI mI') : FN mI mI' := ⟨fun q _ h1 h2 => h.1 q h1 h2, fun f _ => congrFun (h.1 139 (by omega) (by omega)) f, fun j h1 h2 => h.2 j (by omega)⟩
theorem FW.n {lo hi : Nat} {mI mI' : Nat → Nat → Int32} (h : FW lo hi mI mI') (hh : hi ≤ 186 ∨ 372 ≤ lo) : FN mI mI' := ⟨fun q _ h1 _ => h.1 q h1, fun f _ => congrFun (h.1 139 (by omega)) f, fun j h1 h2 => h.2 j (by omega)⟩
theorem TM.n {T : TD} {mI mI' : Nat → Nat → Int32} (h : TM 3 7 142 T mI) (hF : FN mI mI') : TM 3 7 142 T mI' := h.to (hF.2.1 3 (by omega)) (hF.2.1 7 (by omega)) (fun q z1 z2 => hF.1 q (by omega) (by omega) (by omega))
theorem PM.to {T : TD} {l : List AS} {mI mI' : Nat → Nat → Int32} (h : PM T l mI) (hw : TW T) (hl : ∀ τ ∈ l, SV T τ) (h1 : mI' 139 1 = mI 139 1) (hf : ∀ j, 372 ≤ j → mI' 140 j = mI 140 j) : PM T l mI' :=
  ⟨h.1, h1.trans h.2.1, fun k σ hk => (h.2.2 k σ hk).to hw (hl σ (List.mem_of_getElem? hk)) (fun j z1 z2 => hf j (by omega))⟩
theorem FW.all {lo hi : Nat} {m1 m2 : Nat → Nat → Int32} (h : FW lo hi m1 m2) : ∀ q, q ≠ 140 → m2 q = m1 q := h.1
theorem lp_Md_bring {X : CX} {dl : List (Nat × Nat)} {mI : Nat → Nat → Int32} {dr : Nat → Nat → Nat} {Q : Option Value → AH → Prop} {a b : Nat} (ha : a ≤ 1023) (hb : b ≤ 1023) (hab : a + 93 ≤ b ∨ b + 93 ≤ a) (k : ∀ mI', (∀ j, j < 93 → mI' 140 (b + j) = mI 140 (a + j)) → FW b (b + 93) mI mI' → Q none (hp X dl mI' dr)) : ∀ (d : Nat) (i : Nat) (mI2 : Nat → Nat → Int32), (i ≤ 93) → (∀ j, j < i → mI2 140 (b + j) = mI 140 (a + j)) → (FW b (b + 93) mI mI2) → 93 - i = d → EW X m_Md_bring 2 [.ref 139, .int (nI a), .int (nI b), .int (nI i)] [] (hp X dl mI2 dr) Q := by
  intro d
  induction d using Nat.strongRecOn with
  | _ d ih =>
    intro i mI2 hi h1 hF hd
    refine g_iload_n d_Md_bring_2 rfl ?_
    refine N_bipush d_Md_bring_3 93 rfl ?_
    refine N_icmp_ge d_Md_bring_5 30 (by decide) ⟨by omega, by omega⟩ (fun c1 => ?_) (fun c1 => ?_)
    · refine P_vret d_Md_bring_30 rfl ?_
      exact k mI2 (fun j hj => h1 j (by omega)) hF
    · refine g_aload_n d_Md_bring_8 rfl ?_
      refine H_getR 140 d_Md_bring_9 f_Md_7.g rfl rfl (by decide) rfl ?_
      refine g_iload_n d_Md_bring_12 rfl ?_
      refine g_iload_n d_Md_bring_13 rfl ?_
      refine N_iadd d_Md_bring_14 ?_
      refine g_aload_n d_Md_bring_15 rfl ?_
      refine H_getR 140 d_Md_bring_16 f_Md_7.g rfl rfl (by decide) rfl ?_
      refine g_iload_n d_Md_bring_19 rfl ?_
      refine g_iload_n d_Md_bring_20 rfl ?_
      refine N_iadd d_Md_bring_21 ?_
      refine H_ialdN d_Md_bring_22 rfl rfl (by omega) (by decide) ?_
      refine T_int (mI 140 (a + i)) (hF.2 _ (by omega)) ?_
      refine H_iastN d_Md_bring_23 rfl rfl (by omega) (by decide) ?_
      refine N_iinc_4_3_1 d_Md_bring_24 rfl rfl ?_
      refine P_goto d_Md_bring_27 2 (by decide) ?_
      refine ih (93 - (i + 1)) (by omega) (i + 1) _ (by omega) (fun j hj => ?_) (FW_sI hF (by omega)) rfl
      by_cases z : j = i
      · rw [z, sI_s]
      · rw [sI_n (by omega)]; exact h1 j (by omega)

theorem c_Md_bring {X : CX} {dl : List (Nat × Nat)} {mI : Nat → Nat → Int32} {dr : Nat → Nat → Nat} {Q : Option Value → AH → Prop} {a b : Nat} (ha : a ≤ 1023) (hb : b ≤ 1023) (hab : a + 93 ≤ b ∨ b + 93 ≤ a) (k : ∀ mI', (∀ j, j < 93 → mI' 140 (b + j) = mI 140 (a + j)) → FW b (b + 93) mI mI' → Q none (hp X dl mI' dr)) : EW X m_Md_bring 0 (enL m_Md_bring.2.2.1 [.ref 139, .int (nI a), .int (nI b)]) [] (hp X dl mI dr) Q := by
  show EW X m_Md_bring 0 [.ref 139, .int (nI a), .int (nI b), jk] [] (hp X dl mI dr) Q
  refine N_iconst d_Md_bring_0 0 rfl ?_
  refine S_istore_n_4_3 d_Md_bring_1 rfl rfl ?_
  exact lp_Md_bring ha hb hab k _ 0 mI (Nat.zero_le _) (fun j hj => absurd hj (Nat.not_lt_zero _)) FW.rf rfl

theorem c_Md_tries {X : CX} {dl : List (Nat × Nat)} {mI : Nat → Nat → Int32} {dr : Nat → Nat → Nat} {Q : Option Value → AH → Prop} {T : TD} (hw : TW T) {σ : AS} (hS : SM 0 T σ (KO T σ) mI) (hW : SV T σ) (k : ∀ mI', SM 93 T σ (KO T σ) mI' → FW 93 186 mI mI' → Q none (hp X dl mI' dr)) : EW X m_Md_tries 0 (enL m_Md_tries.2.2.1 [.ref 139]) [] (hp X dl mI dr) Q := by
  show EW X m_Md_tries 0 [.ref 139] [] (hp X dl mI dr) Q
  refine g_aload_n d_Md_tries_0 rfl ?_
  refine N_iconst d_Md_tries_1 0 rfl ?_
  refine N_bipush d_Md_tries_2 93 rfl ?_
  refine C_V2 d_Md_tries_4 k_Md_270 rfl (Nat.le_of_ble_eq_true rfl) (by decide) (Nat.le_of_ble_eq_true rfl) ?_
  refine c_Md_bring (a := 0) (b := 93) (by omega) (by omega) (by omega) (fun mI1 h1 hF1 => ?_)
  refine P_vret d_Md_tries_7 rfl ?_
  exact k _ (hS.cp hw hW h1) hF1

theorem yrN_s {T : TD} {σ : AS} (n : Nat) : yrF T (yrN T n σ) = yrN T (n + 1) σ := rfl
theorem lp_Md_goesOn {X : CX} {dl : List (Nat × Nat)} {mI : Nat → Nat → Int32} {dr : Nat → Nat → Nat} {Q : Option Value → AH → Prop} {T : TD} (hw : TW T) (hT : TM 3 7 142 T mI) {σ : AS} (hW : SW T σ) {n : Nat} (hn : n < 2 ^ 31) (k : ∀ mI', SM 93 T (yrN T n σ) (KO T (yrN T n σ)) mI' → FY 93 mI mI' → Q none (hp X dl mI' dr)) : ∀ (d : Nat) (i : Nat) (mI2 : Nat → Nat → Int32), (i ≤ n) → (SM 93 T (yrN T i σ) (KO T (yrN T i σ)) mI2) → (FY 93 mI mI2) → n - i = d → EW X m_Md_goesOn 2 [.ref 139, .int (nI n), .int (nI i)] [] (hp X dl mI2 dr) Q := by
  intro d
  induction d using Nat.strongRecOn with
  | _ d ih =>
    intro i mI2 hi hS2 hF hd
    refine g_iload_n d_Md_goesOn_2 rfl ?_
    refine g_iload_n d_Md_goesOn_3 rfl ?_
    refine N_icmp_ge d_Md_goesOn_4 19 (by decide) ⟨by omega, by omega⟩ (fun c1 => ?_) (fun c1 => ?_)
    · refine P_vret d_Md_goesOn_19 rfl ?_
      have e : i = n := by omega
      subst e
      exact k mI2 hS2 hF
    · refine g_aload_n d_Md_goesOn_7 rfl ?_
      refine N_bipush d_Md_goesOn_8 93 rfl ?_
      refine C_V1 d_Md_goesOn_10 k_Md_278 rfl (Nat.le_of_ble_eq_true rfl) (by decide) (Nat.le_of_ble_eq_true rfl) ?_
      refine c_Md_passesYear (r := 93) hw (hT.y hF) (SW_yrN hw i σ hW).1 (by omega) hS2 (fun mI3 hS3 hF3 => ?_)
      refine N_iinc_3_2_1 d_Md_goesOn_13 rfl rfl ?_
      refine P_goto d_Md_goesOn_16 2 (by decide) ?_
      exact ih (n - (i + 1)) (by omega) (i + 1) mI3 (by omega) hS3 (hF.tr hF3) rfl

theorem c_Md_goesOn {X : CX} {dl : List (Nat × Nat)} {mI : Nat → Nat → Int32} {dr : Nat → Nat → Nat} {Q : Option Value → AH → Prop} {T : TD} (hw : TW T) (hT : TM 3 7 142 T mI) {σ : AS} (hW : SW T σ) (hS : SM 93 T σ (KO T σ) mI) {n : Nat} (hn : n < 2 ^ 31) (k : ∀ mI', SM 93 T (yrN T n σ) (KO T (yrN T n σ)) mI' → FY 93 mI mI' → Q none (hp X dl mI' dr)) : EW X m_Md_goesOn 0 (enL m_Md_goesOn.2.2.1 [.ref 139, .int (nI n)]) [] (hp X dl mI dr) Q := by
  show EW X m_Md_goesOn 0 [.ref 139, .int (nI n), jk] [] (hp X dl mI dr) Q
  refine N_iconst d_Md_goesOn_0 0 rfl ?_
  refine S_istore_n_3_2 d_Md_goesOn_1 rfl rfl ?_
  exact lp_Md_goesOn hw hT hW hn k _ 0 mI (Nat.zero_le _) hS FY.rf rfl

theorem lp_Md_minds {X : CX} {dl : List (Nat × Nat)} {mI : Nat → Nat → Int32} {dr : Nat → Nat → Nat} {Q : Option Value → AH → Prop} (k : ∀ mI' v1, (∀ j, 372 ≤ j → j < 1023 → mI' 140 j = mI 140 (j + 93)) → FW 372 1023 mI mI' → EW X m_Md_minds 47 [.ref 139, v1] [] (hp X dl mI' dr) Q) : ∀ (d : Nat) (i : Nat) (mI2 : Nat → Nat → Int32), (i ≤ 651) → (∀ j, 372 ≤ j → j < 372 + i → mI2 140 j = mI 140 (j + 93)) → (∀ j, ¬ (372 ≤ j ∧ j < 372 + i) → mI2 140 j = mI 140 j) → (∀ q, q ≠ 140 → mI2 q = mI q) → 651 - i = d → EW X m_Md_minds 11 [.ref 139, .int (nI i)] [] (hp X dl mI2 dr) Q := by
  intro d
  induction d using Nat.strongRecOn with
  | _ d ih =>
    intro i mI2 hi h1 h2 h3 hd
    refine g_iload_n d_Md_minds_11 rfl ?_
    refine N_sipush d_Md_minds_12 651 rfl ?_
    refine N_icmp_ge d_Md_minds_15 47 (by decide) ⟨by omega, by omega⟩ (fun c1 => ?_) (fun c1 => ?_)
    · exact k mI2 _ (fun j z1 z2 => h1 j z1 (by omega)) ⟨h3, fun j hj => h2 j (by omega)⟩
    · refine g_aload_n d_Md_minds_18 rfl ?_
      refine H_getR 140 d_Md_minds_19 f_Md_7.g rfl rfl (by decide) rfl ?_
      refine N_sipush d_Md_minds_22 372 rfl ?_
      refine g_iload_n d_Md_minds_25 rfl ?_
      refine N_iadd d_Md_minds_26 ?_
      refine g_aload_n d_Md_minds_27 rfl ?_
      refine H_getR 140 d_Md_minds_28 f_Md_7.g rfl rfl (by decide) rfl ?_
      refine N_sipush d_Md_minds_31 372 rfl ?_
      refine g_iload_n d_Md_minds_34 rfl ?_
      refine N_iadd d_Md_minds_35 ?_
      refine N_bipush d_Md_minds_36 93 rfl ?_
      refine N_iadd d_Md_minds_38 ?_
      refine H_ialdN d_Md_minds_39 rfl rfl (by omega) (by decide) ?_
      refine T_int (mI 140 (372 + i + 93)) (h2 _ (by omega)) ?_
      refine H_iastN d_Md_minds_40 rfl rfl (by omega) (by decide) ?_
      refine N_iinc_2_1_1 d_Md_minds_41 rfl rfl ?_
      refine P_goto d_Md_minds_44 11 (by decide) ?_
      refine ih (651 - (i + 1)) (by omega) (i + 1) _ (by omega) (fun j z1 z2 => ?_) (fun j hj => ?_) (fun q hq => by rw [sI_r hq]; exact h3 q hq) rfl
      · by_cases z : j = 372 + i
        · rw [z, sI_s]
        · rw [sI_n (by omega)]; exact h1 j z1 (by omega)
      · rw [sI_n (by omega)]; exact h2 j (by omega)

theorem psh_8 {l : List AS} {σ : AS} (h : l.length = 8) : psh l σ = σ :: l.take 7 := rfl
theorem psh_l {l : List AS} {σ : AS} (h : l.length < 8) : psh l σ = σ :: l := List.take_of_length_le (by rw [List.length_cons]; omega)
theorem c_Md_minds {X : CX} {dl : List (Nat × Nat)} {mI : Nat → Nat → Int32} {dr : Nat → Nat → Nat} {Q : Option Value → AH → Prop} {T : TD} (hw : TW T) {σ : AS} (hS : SM 0 T σ (KO T σ) mI) (hW : SV T σ) {l : List AS} (hP : PM T l mI) (hl : ∀ τ ∈ l, SV T τ) (k : ∀ mI', PM T (psh l σ) mI' → (∀ q, q ≠ 139 → q ≠ 140 → mI' q = mI q) → (∀ f, f ≠ 1 → mI' 139 f = mI 139 f) → (∀ j, j < 372 → mI' 140 j = mI 140 j) → Q none (hp X dl mI' dr)) : EW X m_Md_minds 0 (enL m_Md_minds.2.2.1 [.ref 139]) [] (hp X dl mI dr) Q := by
  show EW X m_Md_minds 0 [.ref 139, jk] [] (hp X dl mI dr) Q
  refine g_aload_n d_Md_minds_0 rfl ?_
  refine H_getI d_Md_minds_1 f_Md_226.g rfl rfl (by decide) ?_
  refine T_int (nI (l.length)) hP.2.1 ?_
  have hl8 := hP.1
  refine N_bipush d_Md_minds_4 8 rfl ?_
  refine N_icmp_ne d_Md_minds_6 57 (by decide) ⟨by omega, by omega⟩ (fun c1 => ?_) (fun c1 => ?_)
  · have hlt0 : l.length < 8 := by omega
    refine g_aload_n d_Md_minds_57 rfl ?_
    refine N_iconst d_Md_minds_58 0 rfl ?_
    refine N_sipush d_Md_minds_59 372 rfl ?_
    refine N_bipush d_Md_minds_62 93 rfl ?_
    refine g_aload_n d_Md_minds_64 rfl ?_
    refine H_getI d_Md_minds_65 f_Md_226.g rfl rfl (by decide) ?_
    refine T_int (nI (l.length)) hP.2.1 ?_
    refine N_imul d_Md_minds_68 ?_
    refine N_iadd d_Md_minds_69 ?_
    refine C_V2 d_Md_minds_70 k_Md_270 rfl (Nat.le_of_ble_eq_true rfl) (by decide) (Nat.le_of_ble_eq_true rfl) ?_
    refine c_Md_bring (a := 0) (b := 372 + 93 * l.length) (by omega) (by omega) (by omega) (fun mI2 h2 hF2 => ?_)
    refine g_aload_n d_Md_minds_73 rfl ?_
    refine P_dupA d_Md_minds_74 ?_
    refine H_getI d_Md_minds_75 f_Md_226.g rfl rfl (by decide) ?_
    refine T_int (nI (l.length)) (by rw [hF2.1 139 (by omega)]; exact hP.2.1) ?_
    refine N_iconst d_Md_minds_78 1 rfl ?_
    refine N_iadd d_Md_minds_79 ?_
    refine H_putI d_Md_minds_80 f_Md_226 rfl rfl (by decide) ?_
    refine P_vret d_Md_minds_83 rfl ?_
    have hlt : l.length < 8 := by omega
    refine k _ ⟨?_, ?_, fun j τ hj => ?_⟩ (fun q z1 z2 => by rw [sI_r z1, hF2.1 q z2]) (fun f hf => by rw [sI_n (fun z => hf z.2), hF2.1 139 (by omega)]) (fun j hj => by rw [sI_r (by omega), hF2.2 j (by omega)])
    · rw [psh_l hlt, List.length_cons]; omega
    · rw [psh_l hlt, List.length_cons, sI_s]
    · rw [psh_l hlt] at hj
      rw [psh_l hlt, List.length_cons]
      cases j with
      | zero =>
        rw [List.getElem?_cons_zero] at hj
        injection hj with hj
        subst hj
        refine (hS.cp (b := 372 + 93 * l.length) hw hW (mI' := mI2) (fun i hi => h2 i hi)).to hw hW (fun i _ _ => by rw [sI_r (by omega)])
      | succ j =>
        rw [List.getElem?_cons_succ] at hj
        have hτ := hl τ (List.mem_of_getElem? hj)
        have hjl : j < l.length := (List.getElem?_eq_some_iff.mp hj).1
        have h0 := hP.2.2 j τ hj
        rw [show l.length + 1 - 1 - (j + 1) = l.length - 1 - j by omega]
        exact h0.to hw hτ (fun i z1 z2 => by rw [sI_r (by omega), hF2.2 _ (by omega)])
  · refine N_iconst d_Md_minds_9 0 rfl ?_
    refine S_istore_n_2_1 d_Md_minds_10 rfl rfl ?_
    refine lp_Md_minds (fun mI1 v1 h1 hF1 => ?_) _ 0 mI (Nat.zero_le _) (fun j z1 z2 => by omega) (fun _ _ => rfl) (fun _ _ => rfl) rfl
    have h139 : mI1 139 = mI 139 := hF1.1 139 (by omega)
    refine g_aload_n d_Md_minds_47 rfl ?_
    refine P_dupA d_Md_minds_48 ?_
    refine H_getI d_Md_minds_49 f_Md_226.g rfl rfl (by decide) ?_
    refine T_int (nI (8)) (by rw [h139, hP.2.1]; exact congrArg nI c1) ?_
    refine N_iconst d_Md_minds_52 1 rfl ?_
    refine N_isub d_Md_minds_53 (by omega) ?_
    refine H_putI d_Md_minds_54 f_Md_226 rfl rfl (by decide) ?_
    refine g_aload_n d_Md_minds_57 rfl ?_
    refine N_iconst d_Md_minds_58 0 rfl ?_
    refine N_sipush d_Md_minds_59 372 rfl ?_
    refine N_bipush d_Md_minds_62 93 rfl ?_
    refine g_aload_n d_Md_minds_64 rfl ?_
    refine H_getI d_Md_minds_65 f_Md_226.g rfl rfl (by decide) ?_
    refine T_int (nI (7)) (sI_s _ _ _ _) ?_
    refine N_imul d_Md_minds_68 ?_
    refine N_iadd d_Md_minds_69 ?_
    refine C_V2 d_Md_minds_70 k_Md_270 rfl (Nat.le_of_ble_eq_true rfl) (by decide) (Nat.le_of_ble_eq_true rfl) ?_
    refine c_Md_bring (a := 0) (b := 372 + 93 * 7) (by omega) (by omega) (by omega) (fun mI2 h2 hF2 => ?_)
    refine g_aload_n d_Md_minds_73 rfl ?_
    refine P_dupA d_Md_minds_74 ?_
    refine H_getI d_Md_minds_75 f_Md_226.g rfl rfl (by decide) ?_
    refine T_int (nI (7)) (by rw [hF2.1 139 (by omega)]; exact sI_s _ _ _ _) ?_
    refine N_iconst d_Md_minds_78 1 rfl ?_
    refine N_iadd d_Md_minds_79 ?_
    refine H_putI d_Md_minds_80 f_Md_226 rfl rfl (by decide) ?_
    refine P_vret d_Md_minds_83 rfl ?_
    refine k _ ⟨?_, ?_, fun j τ hj => ?_⟩ (fun q z1 z2 => by rw [sI_r z1, hF2.1 q z2, sI_r z1, hF1.1 q z2]) (fun f hf => by rw [sI_n (fun z => hf z.2), hF2.1 139 (by omega), sI_n (fun z => hf z.2), h139]) (fun j hj => by rw [sI_r (by omega), hF2.2 j (by omega), sI_r (by omega), hF1.2 j (by omega)])
    · rw [psh_8 c1, List.length_cons, List.length_take]; omega
    · rw [psh_8 c1, List.length_cons, List.length_take, sI_s, show min 7 l.length = 7 by omega]
    · rw [psh_8 c1] at hj
      have e8 : (psh l σ).length = 8 := by rw [psh_8 c1, List.length_cons, List.length_take]; omega
      rw [e8]
      cases j with
      | zero =>
        rw [List.getElem?_cons_zero] at hj
        injection hj with hj
        subst hj
        refine (hS.cp (b := 372 + 93 * 7) hw hW (mI' := mI2) (fun i hi => ?_)).to hw hW (fun i _ _ => by rw [sI_r (by omega)])
        rw [h2 i hi, sI_r (by omega), hF1.2 _ (by omega)]
      | succ j =>
        rw [List.getElem?_cons_succ] at hj
        have hj7 : j < 7 := by
          rcases Nat.lt_or_ge j 7 with z | z
          · exact z
          · rw [List.getElem?_eq_none (by rw [List.length_take]; omega)] at hj; cases hj
        rw [List.getElem?_take_of_lt hj7] at hj
        have hτ := hl τ (List.mem_of_getElem? hj)
        have h0 := hP.2.2 j τ hj
        rw [c1] at h0
        refine h0.cp hw hτ (fun i hi => ?_)
        rw [sI_r (by omega), hF2.2 _ (by omega), sI_r (by omega), h1 _ (by omega) (by omega)]
        exact congrArg (mI 140) (by omega)

