/-- all grow older; then the dying leave what they hold -/
def agStep (q : AS × Nat) (i : Nat) : AS × Nat := if 0 < aS q.1 i then (uS q.1 i (aS q.1 i - 1), if aS q.1 i - 1 = 0 then q.2 ||| 2 ^ i else q.2) else q
def ag1 (T : TD) (σ : AS) : AS × Nat := (List.range (tn T)).foldl agStep (σ, 0)
def ag2 (T : TD) (dy : Nat) (σ : AS) (i : Nat) : AS := if dy.testBit i = true then lvAll T σ i else σ
def agAll (T : TD) (σ : AS) : AS := (List.range (tn T)).foldl (ag2 T (ag1 T σ).2) (ag1 T σ).1
theorem SV_uS {T : TD} {σ : AS} (h : SV T σ) {i v : Nat} (hv : v ≤ 60) : SV T (uS σ i v) := by
  refine ⟨h.1, h.2.1, fun j hj => ?_⟩
  show va_up (aS σ) i v j ≤ 60
  by_cases hji : j = i
  · rw [hji, va_up_s]; exact hv
  · rw [va_up_n _ _ hji]; exact h.2.2 j hj
theorem SV_agStep {T : TD} {q : AS × Nat} (h : SV T q.1) {i : Nat} (hi : i < tn T) : SV T (agStep q i).1 := by
  unfold agStep
  split
  · exact SV_uS h (by have := h.2.2 i hi; omega)
  · exact h
theorem lp_St_age1 {X : CX} {dl : List (Nat × Nat)} {mI : Nat → Nat → Int32} {dr : Nat → Nat → Nat} {Q : Option Value → AH → Prop} {a : Nat} {T : TD} {σ : AS} (ha : StA a) (hw : TW T) (hT : TR 33 T mI) (k : ∀ mI', SC a T (ag1 T σ).1 mI' → SV T (ag1 T σ).1 → (ag1 T σ).2 < 32 → Fa a mI mI' → EW X m_St_ageAll 55 [.ref a, .int (nI (ag1 T σ).2), .int (nI (tn T))] [] (hp X dl mI' dr) Q) : ∀ (d : Nat) (i : Nat) (q : AS × Nat) (mI2 : Nat → Nat → Int32), (i ≤ tn T) → (q = (List.range i).foldl agStep (σ, 0)) → (SC a T q.1 mI2) → (SV T q.1) → (q.2 < 32) → (Fa a mI mI2) → tn T - i = d → EW X m_St_ageAll 4 [.ref a, .int (nI q.2), .int (nI i)] [] (hp X dl mI2 dr) Q := by
  intro d
  induction d using Nat.strongRecOn with
  | _ d ih =>
    intro i q mI2 hi hq hS hW hB hF hd
    have hsl := st_lay ha X dl
    have hsr := st_ref ha dr
    have hw1 := hw.1
    have hw2 := hw.2.1
    have hT2 := hT.fa ha hF
    refine g_iload_n d_St_ageAll_4 rfl ?_
    refine g_aload_n d_St_ageAll_5 rfl ?_
    refine H_getR 33 d_St_ageAll_6 f_St_27.g rfl hsl.1 (by decide) hsr.1 ?_
    refine H_getI d_St_ageAll_9 f_St_93.g rfl rfl (by decide) ?_
    refine T_int (nI (tn T)) hT2.1 ?_
    refine N_icmp_ge d_St_ageAll_12 55 (by decide) ⟨by omega, by omega⟩ (fun c1 => ?_) (fun c1 => ?_)
    · have e : i = tn T := by omega
      subst e
      have e2 : q = ag1 T σ := hq
      rw [e2] at hS hW hB ⊢
      exact k mI2 hS hW hB hF
    · have hnx : ∀ q', agStep q i = q' → q' = (List.range (i + 1)).foldl agStep (σ, 0) := fun q' e => by rw [List.range_succ, List.foldl_append, ← hq, ← e]; rfl
      have hWn := SV_agStep hW c1
      have hs60 := hW.2.2 i c1
      refine g_aload_n d_St_ageAll_15 rfl ?_
      refine H_getR (a + 1) d_St_ageAll_16 f_St_9.g rfl hsl.1 (by decide) hsr.2.1 ?_
      refine g_iload_n d_St_ageAll_19 rfl ?_
      refine H_ialdN d_St_ageAll_20 hsl.2.1 rfl (by omega) (by decide) ?_
      refine T_int (nI (aS q.1 i)) (hS.2.2.1 i c1) ?_
      refine N_if_le d_St_ageAll_21 49 (by decide) (by omega) (fun c2 => ?_) (fun c2 => ?_)
      · refine N_iinc_3_2_1 d_St_ageAll_49 rfl rfl ?_
        refine P_goto d_St_ageAll_52 4 (by decide) ?_
        have e : agStep q i = q := by unfold agStep; rw [if_neg (by omega)]
        exact ih _ (by omega) (i + 1) q mI2 (by omega) (hnx _ e) hS hW hB hF rfl
      · refine g_aload_n d_St_ageAll_24 rfl ?_
        refine H_getR (a + 1) d_St_ageAll_25 f_St_9.g rfl hsl.1 (by decide) hsr.2.1 ?_
        refine g_iload_n d_St_ageAll_28 rfl ?_
        refine P_dup2 d_St_ageAll_29 ?_
        refine H_ialdN d_St_ageAll_30 hsl.2.1 rfl (by omega) (by decide) ?_
        refine T_int (nI (aS q.1 i)) (hS.2.2.1 i c1) ?_
        refine N_iconst d_St_ageAll_31 1 rfl ?_
        refine N_isub d_St_ageAll_32 (by omega) ?_
        refine H_iastN d_St_ageAll_33 hsl.2.1 rfl (by omega) (by decide) ?_
        refine g_aload_n d_St_ageAll_34 rfl ?_
        refine H_getR (a + 1) d_St_ageAll_35 f_St_9.g rfl hsl.1 (by decide) hsr.2.1 ?_
        refine g_iload_n d_St_ageAll_38 rfl ?_
        refine H_ialdN d_St_ageAll_39 hsl.2.1 rfl (by omega) (by decide) ?_
        refine T_int (nI (aS q.1 i - 1)) (sI_s _ _ _ _) ?_
        refine N_if_ne d_St_ageAll_40 49 (by decide) (by omega) (fun c3 => ?_) (fun c3 => ?_)
        · refine N_iinc_3_2_1 d_St_ageAll_49 rfl rfl ?_
          refine P_goto d_St_ageAll_52 4 (by decide) ?_
          have e : agStep q i = (uS q.1 i (aS q.1 i - 1), q.2) := by unfold agStep; rw [if_pos (by omega), if_neg c3]
          rw [e] at hWn
          exact ih _ (by omega) (i + 1) (uS q.1 i (aS q.1 i - 1), q.2) _ (by omega) (hnx _ e) (hS.S i _) hWn hB (Fa_sI hF (by omega)) rfl
        · refine g_iload_n d_St_ageAll_43 rfl ?_
          refine N_iconst d_St_ageAll_44 1 rfl ?_
          refine g_iload_n d_St_ageAll_45 rfl ?_
          refine N_ishl d_St_ageAll_46 (by omega) (p2_lt (by omega)) ?_
          refine N_ior d_St_ageAll_47 ?_
          refine S_istore_n_3_1 d_St_ageAll_48 rfl rfl ?_
          refine N_iinc_3_2_1 d_St_ageAll_49 rfl rfl ?_
          refine P_goto d_St_ageAll_52 4 (by decide) ?_
          have e : agStep q i = (uS q.1 i (aS q.1 i - 1), q.2 ||| 1 * 2 ^ i) := by unfold agStep; rw [if_pos (by omega), if_pos c3, Nat.one_mul]
          rw [e] at hWn
          exact ih _ (by omega) (i + 1) (uS q.1 i (aS q.1 i - 1), q.2 ||| 1 * 2 ^ i) _ (by omega) (hnx _ e) (hS.S i _) hWn (Nat.or_lt_two_pow (n := 5) hB (by rw [Nat.one_mul]; exact Nat.pow_lt_pow_right (by decide) (by omega))) (Fa_sI hF (by omega)) rfl

theorem lp_St_age2 {X : CX} {dl : List (Nat × Nat)} {mI : Nat → Nat → Int32} {dr : Nat → Nat → Nat} {Q : Option Value → AH → Prop} {a : Nat} {T : TD} {σ : AS} {dy : Nat} (ha : StA a) (hw : TW T) (hT : TR 33 T mI) (hdy : dy < 32) (k : ∀ mI', SC a T ((List.range (tn T)).foldl (ag2 T dy) σ) mI' → SV T ((List.range (tn T)).foldl (ag2 T dy) σ) → Fa a mI mI' → Q none (hp X dl mI' dr)) : ∀ (d : Nat) (i : Nat) (q : AS) (mI2 : Nat → Nat → Int32), (i ≤ tn T) → (q = (List.range i).foldl (ag2 T dy) σ) → (SC a T q mI2) → (SV T q) → (Fa a mI mI2) → tn T - i = d → EW X m_St_ageAll 57 [.ref a, .int (nI dy), .int (nI i)] [] (hp X dl mI2 dr) Q := by
  intro d
  induction d using Nat.strongRecOn with
  | _ d ih =>
    intro i q mI2 hi hq hS hW hF hd
    have hsl := st_lay ha X dl
    have hsr := st_ref ha dr
    have hw1 := hw.1
    have hw2 := hw.2.1
    have hT2 := hT.fa ha hF
    refine g_iload_n d_St_ageAll_57 rfl ?_
    refine g_aload_n d_St_ageAll_58 rfl ?_
    refine H_getR 33 d_St_ageAll_59 f_St_27.g rfl hsl.1 (by decide) hsr.1 ?_
    refine H_getI d_St_ageAll_62 f_St_93.g rfl rfl (by decide) ?_
    refine T_int (nI (tn T)) hT2.1 ?_
    refine N_icmp_ge d_St_ageAll_65 87 (by decide) ⟨by omega, by omega⟩ (fun c1 => ?_) (fun c1 => ?_)
    · refine P_vret d_St_ageAll_87 rfl ?_
      have e : i = tn T := by omega
      subst e
      rw [hq] at hS hW
      exact k mI2 hS hW hF
    · have hnx : ∀ q', ag2 T dy q i = q' → q' = (List.range (i + 1)).foldl (ag2 T dy) σ := fun q' e => by rw [List.range_succ, List.foldl_append, ← hq, ← e]; rfl
      refine g_iload_n d_St_ageAll_68 rfl ?_
      refine g_iload_n d_St_ageAll_69 rfl ?_
      refine N_ishr d_St_ageAll_70 (by omega) (by omega) ?_
      refine N_iconst d_St_ageAll_71 1 rfl ?_
      refine N_iand d_St_ageAll_72 ?_
      refine T_int (nI (dy / 2 ^ i % 2)) (by rw [and1]) ?_
      refine N_if_eq d_St_ageAll_73 81 (by decide) (by omega) (fun c2 => ?_) (fun c2 => ?_)
      · refine N_iinc_3_2_1 d_St_ageAll_81 rfl rfl ?_
        refine P_goto d_St_ageAll_84 57 (by decide) ?_
        have e : ag2 T dy q i = q := by unfold ag2; rw [if_neg (by rw [tb_iff]; omega)]
        exact ih _ (by omega) (i + 1) q mI2 (by omega) (hnx _ e) hS hW hF rfl
      · refine g_aload_n d_St_ageAll_76 rfl ?_
        refine g_iload_n d_St_ageAll_77 rfl ?_
        refine C_V1 d_St_ageAll_78 k_St_96 hsl.1 (Nat.le_of_ble_eq_true rfl) (by decide) (Nat.le_of_ble_eq_true rfl) ?_
        refine c_St_leaveAll ha hw hT2 hS hW c1 (fun mI3 hS3 hW3 hF3 => ?_)
        refine N_iinc_3_2_1 d_St_ageAll_81 rfl rfl ?_
        refine P_goto d_St_ageAll_84 57 (by decide) ?_
        have e : ag2 T dy q i = lvAll T q i := by unfold ag2; rw [if_pos (by rw [tb_iff]; omega)]
        exact ih _ (by omega) (i + 1) _ mI3 (by omega) (hnx _ e) hS3 hW3 (hF.tr hF3) rfl

theorem c_St_ageAll {X : CX} {dl : List (Nat × Nat)} {mI : Nat → Nat → Int32} {dr : Nat → Nat → Nat} {Q : Option Value → AH → Prop} {a : Nat} {T : TD} {σ : AS} (ha : StA a) (hw : TW T) (hT : TR 33 T mI) (hS : SC a T σ mI) (hW : SV T σ) (k : ∀ mI', SC a T (agAll T σ) mI' → SV T (agAll T σ) → Fa a mI mI' → Q none (hp X dl mI' dr)) : EW X m_St_ageAll 0 (enL m_St_ageAll.2.2.1 [.ref a]) [] (hp X dl mI dr) Q := by
  show EW X m_St_ageAll 0 [.ref a, jk, jk] [] (hp X dl mI dr) Q
  have hsl := st_lay ha X dl
  have hsr := st_ref ha dr
  have hw1 := hw.1
  have hw2 := hw.2.1
  refine N_iconst d_St_ageAll_0 0 rfl ?_
  refine S_istore_n_3_1 d_St_ageAll_1 rfl rfl ?_
  refine N_iconst d_St_ageAll_2 0 rfl ?_
  refine S_istore_n_3_2 d_St_ageAll_3 rfl rfl ?_
  refine lp_St_age1 ha hw hT (fun mI1 hS1 hW1 hB1 hF1 => ?_) _ 0 (σ, 0) mI (Nat.zero_le _) rfl hS hW (show (0 : Nat) < 32 by decide) Fa.rf rfl
  refine N_iconst d_St_ageAll_55 0 rfl ?_
  refine S_istore_n_3_2 d_St_ageAll_56 rfl rfl ?_
  exact lp_St_age2 ha hw (hT.fa ha hF1) hB1 (fun mI3 hS3 hW3 hF3 => k mI3 hS3 hW3 (hF1.tr hF3)) _ 0 _ mI1 (Nat.zero_le _) rfl hS1 hW1 Fa.rf rfl

/-- a year -/
def yrF (T : TD) (σ : AS) : AS := uY (agAll T (wkAll T σ)) (aY (agAll T (wkAll T σ)) + 1)
def yrN (T : TD) : Nat → AS → AS
  | 0, σ => σ
  | n + 1, σ => yrF T (yrN T n σ)
theorem SV_uY {T : TD} {σ : AS} (h : SV T σ) (y : Nat) : SV T (uY σ y) := h
theorem lp_St_passYears {X : CX} {dl : List (Nat × Nat)} {mI : Nat → Nat → Int32} {dr : Nat → Nat → Nat} {Q : Option Value → AH → Prop} {a : Nat} {T : TD} {σ : AS} {n : Nat} (ha : StA a) (hw : TW T) (hT : TR 33 T mI) (hn : n < 2 ^ 31) (k : ∀ mI', SC a T (yrN T n σ) mI' → SV T (yrN T n σ) → Fa a mI mI' → Q none (hp X dl mI' dr)) : ∀ (d : Nat) (i : Nat) (mI2 : Nat → Nat → Int32), (i ≤ n) → (SC a T (yrN T i σ) mI2) → (SV T (yrN T i σ)) → (Fa a mI mI2) → n - i = d → EW X m_St_passYears 2 [.ref a, .int (nI n), .int (nI i)] [] (hp X dl mI2 dr) Q := by
  intro d
  induction d using Nat.strongRecOn with
  | _ d ih =>
    intro i mI2 hi hS hW hF hd
    have hsl := st_lay ha X dl
    have hsr := st_ref ha dr
    have hw1 := hw.1
    have hw2 := hw.2.1
    have hT2 := hT.fa ha hF
    refine g_iload_n d_St_passYears_2 rfl ?_
    refine g_iload_n d_St_passYears_3 rfl ?_
    refine N_icmp_ge d_St_passYears_4 31 (by decide) ⟨by omega, by omega⟩ (fun c1 => ?_) (fun c1 => ?_)
    · refine P_vret d_St_passYears_31 rfl ?_
      have e : i = n := by omega
      subst e
      exact k mI2 hS hW hF
    · refine g_aload_n d_St_passYears_7 rfl ?_
      refine C_V0 d_St_passYears_8 k_St_61 hsl.1 (Nat.le_of_ble_eq_true rfl) (by decide) (Nat.le_of_ble_eq_true rfl) ?_
      refine c_St_workAll ha hw hT2 hS hW (fun mI3 hS3 hW3 hF3 => ?_)
      have hT3 := hT2.fa ha hF3
      refine g_aload_n d_St_passYears_11 rfl ?_
      refine C_V0 d_St_passYears_12 k_St_64 hsl.1 (Nat.le_of_ble_eq_true rfl) (by decide) (Nat.le_of_ble_eq_true rfl) ?_
      refine c_St_ageAll ha hw hT3 hS3 hW3 (fun mI4 hS4 hW4 hF4 => ?_)
      refine g_aload_n d_St_passYears_15 rfl ?_
      refine P_dupA d_St_passYears_16 ?_
      refine H_getI d_St_passYears_17 f_St_42.g rfl hsl.1 (by decide) ?_
      refine T_int (nI (aY (agAll T (wkAll T (yrN T i σ))))) hS4.1 ?_
      refine N_iconst d_St_passYears_20 1 rfl ?_
      refine N_iadd d_St_passYears_21 ?_
      refine H_putI d_St_passYears_22 f_St_42 rfl hsl.1 (by decide) ?_
      refine N_iinc_3_2_1 d_St_passYears_25 rfl rfl ?_
      refine P_goto d_St_passYears_28 2 (by decide) ?_
      exact ih _ (by omega) (i + 1) _ (by omega) (hS4.Y _) (SV_uY hW4 _) (Fa_sI ((hF.tr hF3).tr hF4) (by omega)) rfl

theorem c_St_passYears {X : CX} {dl : List (Nat × Nat)} {mI : Nat → Nat → Int32} {dr : Nat → Nat → Nat} {Q : Option Value → AH → Prop} {a : Nat} {T : TD} {σ : AS} {n : Nat} (ha : StA a) (hw : TW T) (hT : TR 33 T mI) (hS : SC a T σ mI) (hW : SV T σ) (hn : n < 2 ^ 31) (k : ∀ mI', SC a T (yrN T n σ) mI' → SV T (yrN T n σ) → Fa a mI mI' → Q none (hp X dl mI' dr)) : EW X m_St_passYears 0 (enL m_St_passYears.2.2.1 [.ref a, .int (nI n)]) [] (hp X dl mI dr) Q := by
  show EW X m_St_passYears 0 [.ref a, .int (nI n), jk] [] (hp X dl mI dr) Q
  have hsl := st_lay ha X dl
  have hsr := st_ref ha dr
  have hw1 := hw.1
  have hw2 := hw.2.1
  refine N_iconst d_St_passYears_0 0 rfl ?_
  refine S_istore_n_3_2 d_St_passYears_1 rfl rfl ?_
  exact lp_St_passYears ha hw hT hn k _ 0 mI (Nat.zero_le _) hS hW Fa.rf rfl

theorem st_dis {a b : Nat} (h : StA a) (g : StA b) (hne : a ≠ b) : a + 5 < b ∨ b + 5 < a := by
  simp only [StA, stL, List.mem_cons, List.not_mem_nil, or_false] at h g
  omega
theorem cpy0 {f g : Nat → Int32} {n i : Nat} (h : i < n) : va_cpy f g 0 0 n i = f i := by simp [va_cpy, h]
theorem SR.cp {a b : Nat} {T : TD} {σ : AS} {K : Nat} {mI mI' : Nat → Nat → Int32} (hw : TW T) (h : SR b T σ K mI) (h0 : mI' a 6 = mI b 6 ∧ mI' a 7 = mI b 7) (h1 : ∀ i, i < 5 → mI' (a + 1) i = mI (b + 1) i)
    (h2 : ∀ p, p < 10 → mI' (a + 2) p = mI (b + 2) p ∧ mI' (a + 3) p = mI (b + 3) p ∧ mI' (a + 4) p = mI (b + 4) p ∧ mI' (a + 5) p = mI (b + 5) p) : SR a T σ K mI' := by
  obtain ⟨g1, g2, g3, g4, g5⟩ := h
  have hw1 := hw.1
  have hw2 := hw.2.1
  refine ⟨h0.1.trans g1, h0.2.trans g2, fun i hi => (h1 i (by omega)).trans (g3 i hi), fun p hp => ?_, fun i hi => ((h2 i (by omega)).2.2.2).trans (g5 i hi)⟩
  have h2p := h2 p (by omega)
  exact ⟨h2p.1.trans (g4 p hp).1, h2p.2.1.trans (g4 p hp).2.1, h2p.2.2.1.trans (g4 p hp).2.2⟩
theorem Fa_up {a r : Nat} {m1 m2 : Nat → Nat → Int32} {x : Nat → Int32} (h : Fa a m1 m2) (hr : a ≤ r ∧ r ≤ a + 5) : Fa a m1 (va_up m2 r x) := fun q hq => (va_up_n _ _ (fun z => hq (by rw [z]; exact hr))).trans (h q hq)
theorem c_St_copyFrom {X : CX} {dl : List (Nat × Nat)} {mI : Nat → Nat → Int32} {dr : Nat → Nat → Nat} {Q : Option Value → AH → Prop} {a : Nat} {T : TD} {σ : AS} {K : Nat} {b : Nat} (ha : StA a) (hb : StA b) (hne : a ≠ b) (hw : TW T) (hS : SR b T σ K mI) (k : ∀ mI', SR a T σ K mI' → Fa a mI mI' → Q none (hp X dl mI' dr)) : EW X m_St_copyFrom 0 (enL m_St_copyFrom.2.2.1 [.ref a, .ref b]) [] (hp X dl mI dr) Q := by
  show EW X m_St_copyFrom 0 [.ref a, .ref b] [] (hp X dl mI dr) Q
  have hsl := st_lay ha X dl
  have hsr := st_ref ha dr
  have hw1 := hw.1
  have hw2 := hw.2.1
  have htl := st_lay hb X dl
  have htr := st_ref hb dr
  have hdis := st_dis ha hb hne
  refine g_aload_n d_St_copyFrom_0 rfl ?_
  refine H_getR (b + 1) d_St_copyFrom_1 f_St_9.g rfl htl.1 (by decide) htr.2.1 ?_
  refine N_iconst d_St_copyFrom_4 0 rfl ?_
  refine g_aload_n d_St_copyFrom_5 rfl ?_
  refine H_getR (a + 1) d_St_copyFrom_6 f_St_9.g rfl hsl.1 (by decide) hsr.2.1 ?_
  refine N_iconst d_St_copyFrom_9 0 rfl ?_
  refine N_iconst d_St_copyFrom_10 5 rfl ?_
  refine H_copy d_St_copyFrom_11 a_St_34 (by decide) (Nat.le_of_ble_eq_true rfl) htl.2.1 hsl.2.1 rfl rfl rfl (by decide) (by decide) (by decide) ?_
  refine g_aload_n d_St_copyFrom_14 rfl ?_
  refine H_getR (b + 2) d_St_copyFrom_15 f_St_15.g rfl htl.1 (by decide) htr.2.2.1 ?_
  refine N_iconst d_St_copyFrom_18 0 rfl ?_
  refine g_aload_n d_St_copyFrom_19 rfl ?_
  refine H_getR (a + 2) d_St_copyFrom_20 f_St_15.g rfl hsl.1 (by decide) hsr.2.2.1 ?_
  refine N_iconst d_St_copyFrom_23 0 rfl ?_
  refine N_bipush d_St_copyFrom_24 10 rfl ?_
  refine H_copy d_St_copyFrom_26 a_St_34 (by decide) (Nat.le_of_ble_eq_true rfl) htl.2.2.1 hsl.2.2.1 rfl rfl rfl (by decide) (by decide) (by decide) ?_
  refine g_aload_n d_St_copyFrom_29 rfl ?_
  refine H_getR (b + 3) d_St_copyFrom_30 f_St_18.g rfl htl.1 (by decide) htr.2.2.2.1 ?_
  refine N_iconst d_St_copyFrom_33 0 rfl ?_
  refine g_aload_n d_St_copyFrom_34 rfl ?_
  refine H_getR (a + 3) d_St_copyFrom_35 f_St_18.g rfl hsl.1 (by decide) hsr.2.2.2.1 ?_
  refine N_iconst d_St_copyFrom_38 0 rfl ?_
  refine N_bipush d_St_copyFrom_39 10 rfl ?_
  refine H_copy d_St_copyFrom_41 a_St_34 (by decide) (Nat.le_of_ble_eq_true rfl) htl.2.2.2.1 hsl.2.2.2.1 rfl rfl rfl (by decide) (by decide) (by decide) ?_
  refine g_aload_n d_St_copyFrom_44 rfl ?_
  refine H_getR (b + 4) d_St_copyFrom_45 f_St_21.g rfl htl.1 (by decide) htr.2.2.2.2.1 ?_
  refine N_iconst d_St_copyFrom_48 0 rfl ?_
  refine g_aload_n d_St_copyFrom_49 rfl ?_
  refine H_getR (a + 4) d_St_copyFrom_50 f_St_21.g rfl hsl.1 (by decide) hsr.2.2.2.2.1 ?_
  refine N_iconst d_St_copyFrom_53 0 rfl ?_
  refine N_bipush d_St_copyFrom_54 10 rfl ?_
  refine H_copy d_St_copyFrom_56 a_St_34 (by decide) (Nat.le_of_ble_eq_true rfl) htl.2.2.2.2.1 hsl.2.2.2.2.1 rfl rfl rfl (by decide) (by decide) (by decide) ?_
  refine g_aload_n d_St_copyFrom_59 rfl ?_
  refine H_getR (b + 5) d_St_copyFrom_60 f_St_24.g rfl htl.1 (by decide) htr.2.2.2.2.2 ?_
  refine N_iconst d_St_copyFrom_63 0 rfl ?_
  refine g_aload_n d_St_copyFrom_64 rfl ?_
  refine H_getR (a + 5) d_St_copyFrom_65 f_St_24.g rfl hsl.1 (by decide) hsr.2.2.2.2.2 ?_
  refine N_iconst d_St_copyFrom_68 0 rfl ?_
  refine N_bipush d_St_copyFrom_69 10 rfl ?_
  refine H_copy d_St_copyFrom_71 a_St_34 (by decide) (Nat.le_of_ble_eq_true rfl) htl.2.2.2.2.2 hsl.2.2.2.2.2 rfl rfl rfl (by decide) (by decide) (by decide) ?_
  refine g_aload_n d_St_copyFrom_74 rfl ?_
  refine g_aload_n d_St_copyFrom_75 rfl ?_
  refine H_getI d_St_copyFrom_76 f_St_42.g rfl htl.1 (by decide) ?_
  refine H_putI d_St_copyFrom_79 f_St_42 rfl hsl.1 (by decide) ?_
  refine g_aload_n d_St_copyFrom_82 rfl ?_
  refine g_aload_n d_St_copyFrom_83 rfl ?_
  refine H_getI d_St_copyFrom_84 f_St_46.g rfl htl.1 (by decide) ?_
  refine H_putI d_St_copyFrom_87 f_St_46 rfl hsl.1 (by decide) ?_
  refine P_vret d_St_copyFrom_90 rfl ?_
  refine k _ (hS.cp hw ⟨?_, ?_⟩ (fun i hi => ?_) (fun p hp => ⟨?_, ?_, ?_, ?_⟩)) ?_
  · simp (disch := omega) only [sI_r, va_up_n, va_up_s, sI_s, sI_n, cpy0]
  · simp (disch := omega) only [sI_r, va_up_n, va_up_s, sI_s, sI_n, cpy0]
  · simp (disch := omega) only [sI_r, va_up_n, va_up_s, sI_s, sI_n, cpy0]
  · simp (disch := omega) only [sI_r, va_up_n, va_up_s, sI_s, sI_n, cpy0]
  · simp (disch := omega) only [sI_r, va_up_n, va_up_s, sI_s, sI_n, cpy0]
  · simp (disch := omega) only [sI_r, va_up_n, va_up_s, sI_s, sI_n, cpy0]
  · simp (disch := omega) only [sI_r, va_up_n, va_up_s, sI_s, sI_n, cpy0]
  · exact Fa_sI (Fa_sI (Fa_up (Fa_up (Fa_up (Fa_up (Fa_up Fa.rf (by omega)) (by omega)) (by omega)) (by omega)) (by omega)) (by omega)) (by omega)

/-- as told -/
def s0 (T : TD) : AS := (0, tsp T, twk T, fun _ => 0, thd T, List.range (tP T))
theorem kB_none (H : Nat → Nat) (P : Nat) (h : ∀ p, p < P → H p ≠ 6) : kB H P = 0 := by
  refine Nat.eq_of_testBit_eq (fun p => ?_)
  rw [kB_bit, Nat.zero_testBit]
  by_cases hp : p < P
  · simp [h p hp]
  · simp [hp]
theorem SV_s0 {T : TD} (hw : TW T) : SV T (s0 T) := by
  refine ⟨⟨List.length_range, List.nodup_range, fun p hp => List.mem_range.mp hp⟩, fun p hp => ?_, fun i hi => ?_⟩
  · have h := hw.2.2.2 p hp
    have hw1 := hw.1
    exact ⟨by show thd T p ≤ 6; omega, fun _ => h.2.2.2.2.1, Nat.zero_le _, h.2.2.1⟩
  · exact (hw.2.2.1 i hi).2.2.2.1
theorem lp_St_setAsTold {X : CX} {dl : List (Nat × Nat)} {mI : Nat → Nat → Int32} {dr : Nat → Nat → Nat} {Q : Option Value → AH → Prop} {a : Nat} (ha : StA a) (k : ∀ mI', (∀ j, j < 10 → mI' (a + 3) j = nI 0 ∧ mI' (a + 5) j = nI j) → (∀ r, r ≠ a + 3 → r ≠ a + 5 → mI' r = mI r) → EW X m_St_setAsTold 81 [.ref a, .int (nI 10)] [] (hp X dl mI' dr) Q) : ∀ (d : Nat) (i : Nat) (mI2 : Nat → Nat → Int32), (i ≤ 10) → (∀ j, j < i → mI2 (a + 3) j = nI 0 ∧ mI2 (a + 5) j = nI j) → (∀ r, r ≠ a + 3 → r ≠ a + 5 → mI2 r = mI r) → 10 - i = d → EW X m_St_setAsTold 55 [.ref a, .int (nI i)] [] (hp X dl mI2 dr) Q := by
  intro d
  induction d using Nat.strongRecOn with
  | _ d ih =>
    intro i mI2 hi h1 hF hd
    have hsl := st_lay ha X dl
    have hsr := st_ref ha dr
    refine g_iload_n d_St_setAsTold_55 rfl ?_
    refine N_bipush d_St_setAsTold_56 10 rfl ?_
    refine N_icmp_ge d_St_setAsTold_58 81 (by decide) ⟨by omega, by omega⟩ (fun c1 => ?_) (fun c1 => ?_)
    · have e : i = 10 := by omega
      subst e
      exact k mI2 h1 hF
    · refine g_aload_n d_St_setAsTold_61 rfl ?_
      refine H_getR (a + 3) d_St_setAsTold_62 f_St_18.g rfl hsl.1 (by decide) hsr.2.2.2.1 ?_
      refine g_iload_n d_St_setAsTold_65 rfl ?_
      refine N_iconst d_St_setAsTold_66 0 rfl ?_
      refine H_iastN d_St_setAsTold_67 hsl.2.2.2.1 rfl (by omega) (by decide) ?_
      refine g_aload_n d_St_setAsTold_68 rfl ?_
      refine H_getR (a + 5) d_St_setAsTold_69 f_St_24.g rfl hsl.1 (by decide) hsr.2.2.2.2.2 ?_
      refine g_iload_n d_St_setAsTold_72 rfl ?_
      refine g_iload_n d_St_setAsTold_73 rfl ?_
      refine H_iastN d_St_setAsTold_74 hsl.2.2.2.2.2 rfl (by omega) (by decide) ?_
      refine N_iinc_2_1_1 d_St_setAsTold_75 rfl rfl ?_
      refine P_goto d_St_setAsTold_78 55 (by decide) ?_
      refine ih _ (by omega) (i + 1) _ (by omega) (fun j hj => ?_) (fun r h2 h3 => ?_) rfl
      · by_cases hji : j = i
        · subst hji
          exact ⟨by rw [sI_r (by omega), sI_s], sI_s _ _ _ _⟩
        · rw [sI_r (by omega), sI_n (by omega), sI_n (by omega), sI_r (by omega)]
          exact h1 j (by omega)
      · rw [sI_r h3, sI_r h2]
        exact hF r h2 h3

theorem c_St_setAsTold {X : CX} {dl : List (Nat × Nat)} {mI : Nat → Nat → Int32} {dr : Nat → Nat → Nat} {Q : Option Value → AH → Prop} {a : Nat} {T : TD} {σ : AS} (ha : StA a) (hw : TW T) (hT : TR 33 T mI) (k : ∀ mI', SC a T (s0 T) mI' → Fa a mI mI' → Q none (hp X dl mI' dr)) : EW X m_St_setAsTold 0 (enL m_St_setAsTold.2.2.1 [.ref a]) [] (hp X dl mI dr) Q := by
  show EW X m_St_setAsTold 0 [.ref a, jk] [] (hp X dl mI dr) Q
  have hsl := st_lay ha X dl
  have hsr := st_ref ha dr
  have hw1 := hw.1
  have hw2 := hw.2.1
  have hfar := st_far ha
  refine g_aload_n d_St_setAsTold_0 rfl ?_
  refine H_getR 33 d_St_setAsTold_1 f_St_27.g rfl hsl.1 (by decide) hsr.1 ?_
  refine H_getR 35 d_St_setAsTold_4 f_St_31 rfl rfl (by decide) rfl ?_
  refine N_iconst d_St_setAsTold_7 0 rfl ?_
  refine g_aload_n d_St_setAsTold_8 rfl ?_
  refine H_getR (a + 1) d_St_setAsTold_9 f_St_9.g rfl hsl.1 (by decide) hsr.2.1 ?_
  refine N_iconst d_St_setAsTold_12 0 rfl ?_
  refine N_iconst d_St_setAsTold_13 5 rfl ?_
  refine H_copy d_St_setAsTold_14 a_St_34 (by decide) (Nat.le_of_ble_eq_true rfl) rfl hsl.2.1 rfl rfl rfl (by decide) (by decide) (by decide) ?_
  refine g_aload_n d_St_setAsTold_17 rfl ?_
  refine H_getR 33 d_St_setAsTold_18 f_St_27.g rfl hsl.1 (by decide) hsr.1 ?_
  refine H_getR 38 d_St_setAsTold_21 f_St_40 rfl rfl (by decide) rfl ?_
  refine N_iconst d_St_setAsTold_24 0 rfl ?_
  refine g_aload_n d_St_setAsTold_25 rfl ?_
  refine H_getR (a + 2) d_St_setAsTold_26 f_St_15.g rfl hsl.1 (by decide) hsr.2.2.1 ?_
  refine N_iconst d_St_setAsTold_29 0 rfl ?_
  refine N_bipush d_St_setAsTold_30 10 rfl ?_
  refine H_copy d_St_setAsTold_32 a_St_34 (by decide) (Nat.le_of_ble_eq_true rfl) rfl hsl.2.2.1 rfl rfl rfl (by decide) (by decide) (by decide) ?_
  refine g_aload_n d_St_setAsTold_35 rfl ?_
  refine H_getR 33 d_St_setAsTold_36 f_St_27.g rfl hsl.1 (by decide) hsr.1 ?_
  refine H_getR 40 d_St_setAsTold_39 f_St_41 rfl rfl (by decide) rfl ?_
  refine N_iconst d_St_setAsTold_42 0 rfl ?_
  refine g_aload_n d_St_setAsTold_43 rfl ?_
  refine H_getR (a + 4) d_St_setAsTold_44 f_St_21.g rfl hsl.1 (by decide) hsr.2.2.2.2.1 ?_
  refine N_iconst d_St_setAsTold_47 0 rfl ?_
  refine N_bipush d_St_setAsTold_48 10 rfl ?_
  refine H_copy d_St_setAsTold_50 a_St_34 (by decide) (Nat.le_of_ble_eq_true rfl) rfl hsl.2.2.2.2.1 rfl rfl rfl (by decide) (by decide) (by decide) ?_
  refine N_iconst d_St_setAsTold_53 0 rfl ?_
  refine S_istore_n_2_1 d_St_setAsTold_54 rfl rfl ?_
  refine lp_St_setAsTold ha (fun mI1 h1 hF1 => ?_) _ 0 _ (by omega) (fun j hj => by omega) (fun _ _ _ => rfl) rfl
  refine g_aload_n d_St_setAsTold_81 rfl ?_
  refine N_iconst d_St_setAsTold_82 0 rfl ?_
  refine H_putI d_St_setAsTold_83 f_St_42 rfl hsl.1 (by decide) ?_
  refine g_aload_n d_St_setAsTold_86 rfl ?_
  refine N_iconst d_St_setAsTold_87 0 rfl ?_
  refine H_putI d_St_setAsTold_88 f_St_46 rfl hsl.1 (by decide) ?_
  refine P_vret d_St_setAsTold_91 rfl ?_
  refine k _ ?_ ?_
  · have ek : kB (aH (s0 T)) (tP T) = 0 := kB_none _ _ (fun p hp => by have := (hw.2.2.2 p hp).2.2.2.2.1; show thd T p ≠ 6; omega)
    unfold SC
    rw [ek]
    refine ⟨?_, sI_s _ _ _ _, fun i hi => ?_, fun p hp => ⟨?_, ?_, ?_⟩, fun i hi => ?_⟩
    · rw [sI_n (by omega), sI_s]; rfl
    · rw [sI_r (by omega), sI_r (by omega), hF1 _ (by omega) (by omega)]
      have h5 : i < 5 := by omega
      simp (disch := omega) only [sI_r, va_up_n, va_up_s, sI_s, sI_n, cpy0]
      exact (hT.2.2.1 i hi).2.1
    · rw [sI_r (by omega), sI_r (by omega), hF1 _ (by omega) (by omega)]
      have h5 : p < 10 := by omega
      simp (disch := omega) only [sI_r, va_up_n, va_up_s, sI_s, sI_n, cpy0]
      exact (hT.2.2.2 p hp).2.1
    · rw [sI_r (by omega), sI_r (by omega)]
      exact (h1 p (by omega)).1
    · rw [sI_r (by omega), sI_r (by omega), hF1 _ (by omega) (by omega)]
      have h5 : p < 10 := by omega
      simp (disch := omega) only [sI_r, va_up_n, va_up_s, sI_s, sI_n, cpy0]
      rw [hoI_5 (by have := (hw.2.2.2 p hp).2.2.2.2.1; show thd T p < 6; omega)]
      exact (hT.2.2.2 p hp).2.2.2.1
    · rw [sI_r (by omega), sI_r (by omega)]
      refine ((h1 i (by omega)).2).trans ?_
      show nI i = nI ((List.range (tP T)).getD i 0)
      rw [List.getD_eq_getElem?_getD, List.getElem?_range hi]
      rfl
  · refine Fa_sI (Fa_sI (fun r hr => ?_) (by omega)) (by omega)
    rw [hF1 r (by omega) (by omega), va_up_n _ _ (by omega), va_up_n _ _ (by omega), va_up_n _ _ (by omega)]

