theorem c_Pn_isWithin {X : CX} {h : AH} {Q : Option Value → AH → Prop} {x lo hi : Int32} (k : Q (some (.int (bI (lo ≤ x ∧ x ≤ hi)))) h) : EW X m_Pn_isWithin 0 (enL m_Pn_isWithin.2.2.1 [.int x, .int lo, .int hi]) [] h Q := by
  show EW X m_Pn_isWithin 0 [.int x, .int lo, .int hi] [] h Q
  refine g_iload_n d_Pn_isWithin_0 rfl ?_
  refine g_iload_n d_Pn_isWithin_1 rfl ?_
  refine P_icmp_lt d_Pn_isWithin_2 14 (by decide) (fun c1 => ?_) (fun c1 => ?_)
  · refine N_iconst d_Pn_isWithin_14 0 rfl ?_
    refine P_zret d_Pn_isWithin_15 rfl (by decide) ?_
    first | exact R_i k (bI_t' (by clear k; simp only [Int32.le_iff_toInt_le, Int32.lt_iff_toInt_lt, ← Int32.toInt_inj, Int32.toInt_zero, nI_toInt (show 0 < 2 ^ 31 by decide), nI_toInt (show 1 < 2 ^ 31 by decide), nI_toInt (show 2 < 2 ^ 31 by decide), nI_toInt (show 4 < 2 ^ 31 by decide)] at *; omega)) | exact R_i k (bI_f' (by clear k; simp only [Int32.le_iff_toInt_le, Int32.lt_iff_toInt_lt, ← Int32.toInt_inj, Int32.toInt_zero, nI_toInt (show 0 < 2 ^ 31 by decide), nI_toInt (show 1 < 2 ^ 31 by decide), nI_toInt (show 2 < 2 ^ 31 by decide), nI_toInt (show 4 < 2 ^ 31 by decide)] at *; omega))
  · refine g_iload_n d_Pn_isWithin_5 rfl ?_
    refine g_iload_n d_Pn_isWithin_6 rfl ?_
    refine P_icmp_gt d_Pn_isWithin_7 14 (by decide) (fun c2 => ?_) (fun c2 => ?_)
    · refine N_iconst d_Pn_isWithin_14 0 rfl ?_
      refine P_zret d_Pn_isWithin_15 rfl (by decide) ?_
      first | exact R_i k (bI_t' (by clear k; simp only [Int32.le_iff_toInt_le, Int32.lt_iff_toInt_lt, ← Int32.toInt_inj, Int32.toInt_zero, nI_toInt (show 0 < 2 ^ 31 by decide), nI_toInt (show 1 < 2 ^ 31 by decide), nI_toInt (show 2 < 2 ^ 31 by decide), nI_toInt (show 4 < 2 ^ 31 by decide)] at *; omega)) | exact R_i k (bI_f' (by clear k; simp only [Int32.le_iff_toInt_le, Int32.lt_iff_toInt_lt, ← Int32.toInt_inj, Int32.toInt_zero, nI_toInt (show 0 < 2 ^ 31 by decide), nI_toInt (show 1 < 2 ^ 31 by decide), nI_toInt (show 2 < 2 ^ 31 by decide), nI_toInt (show 4 < 2 ^ 31 by decide)] at *; omega))
    · refine N_iconst d_Pn_isWithin_10 1 rfl ?_
      refine P_goto d_Pn_isWithin_11 15 (by decide) ?_
      refine P_zret d_Pn_isWithin_15 rfl (by decide) ?_
      first | exact R_i k (bI_t' (by clear k; simp only [Int32.le_iff_toInt_le, Int32.lt_iff_toInt_lt, ← Int32.toInt_inj, Int32.toInt_zero, nI_toInt (show 0 < 2 ^ 31 by decide), nI_toInt (show 1 < 2 ^ 31 by decide), nI_toInt (show 2 < 2 ^ 31 by decide), nI_toInt (show 4 < 2 ^ 31 by decide)] at *; omega)) | exact R_i k (bI_f' (by clear k; simp only [Int32.le_iff_toInt_le, Int32.lt_iff_toInt_lt, ← Int32.toInt_inj, Int32.toInt_zero, nI_toInt (show 0 < 2 ^ 31 by decide), nI_toInt (show 1 < 2 ^ 31 by decide), nI_toInt (show 2 < 2 ^ 31 by decide), nI_toInt (show 4 < 2 ^ 31 by decide)] at *; omega))

theorem c_Md_in {X : CX} {h : AH} {Q : Option Value → AH → Prop} {x lo hi : Int64} (k : Q (some (.int (bI (lo ≤ x ∧ x ≤ hi)))) h) : EW X m_Md_in 0 (enL m_Md_in.2.2.1 [.long x, .long lo, .long hi]) [] h Q := by
  show EW X m_Md_in 0 [.long x, jk, .long lo, jk, .long hi, jk] [] h Q
  refine g_lload_n d_Md_in_0 rfl ?_
  refine g_lload_n d_Md_in_1 rfl ?_
  refine P_lcmp d_Md_in_2 ?_
  refine P_if_lt d_Md_in_3 17 (by decide) (fun c1 => ?_) (fun c1 => ?_)
  · refine N_iconst d_Md_in_17 0 rfl ?_
    refine P_zret d_Md_in_18 rfl (by decide) ?_
    have g1 := lg_le0 x lo
    have g2 := lg_le0 x hi
    first | exact R_i k (bI_t' (by clear k; simp only [Int64.le_iff_toInt_le, Int64.lt_iff_toInt_lt, Int32.le_iff_toInt_le, Int32.lt_iff_toInt_lt, Int32.toInt_zero] at *; omega)) | exact R_i k (bI_f' (by clear k; simp only [Int64.le_iff_toInt_le, Int64.lt_iff_toInt_lt, Int32.le_iff_toInt_le, Int32.lt_iff_toInt_lt, Int32.toInt_zero] at *; omega))
  · refine g_lload_n d_Md_in_6 rfl ?_
    refine g_lload d_Md_in_7 rfl ?_
    refine P_lcmp d_Md_in_9 ?_
    refine P_if_gt d_Md_in_10 17 (by decide) (fun c2 => ?_) (fun c2 => ?_)
    · refine N_iconst d_Md_in_17 0 rfl ?_
      refine P_zret d_Md_in_18 rfl (by decide) ?_
      have g1 := lg_le0 x lo
      have g2 := lg_le0 x hi
      first | exact R_i k (bI_t' (by clear k; simp only [Int64.le_iff_toInt_le, Int64.lt_iff_toInt_lt, Int32.le_iff_toInt_le, Int32.lt_iff_toInt_lt, Int32.toInt_zero] at *; omega)) | exact R_i k (bI_f' (by clear k; simp only [Int64.le_iff_toInt_le, Int64.lt_iff_toInt_lt, Int32.le_iff_toInt_le, Int32.lt_iff_toInt_lt, Int32.toInt_zero] at *; omega))
    · refine N_iconst d_Md_in_13 1 rfl ?_
      refine P_goto d_Md_in_14 18 (by decide) ?_
      refine P_zret d_Md_in_18 rfl (by decide) ?_
      have g1 := lg_le0 x lo
      have g2 := lg_le0 x hi
      first | exact R_i k (bI_t' (by clear k; simp only [Int64.le_iff_toInt_le, Int64.lt_iff_toInt_lt, Int32.le_iff_toInt_le, Int32.lt_iff_toInt_lt, Int32.toInt_zero] at *; omega)) | exact R_i k (bI_f' (by clear k; simp only [Int64.le_iff_toInt_le, Int64.lt_iff_toInt_lt, Int32.le_iff_toInt_le, Int32.lt_iff_toInt_lt, Int32.toInt_zero] at *; omega))

def doesN (k s : Nat) : Nat := if k = 0 then s else if k = 1 then s / 2 + 1 else if k = 2 then 2 * s else 0
abbrev underN (k f : Nat) : Prop := f = 0 ∨ f = k + 1 ∨ (f = 1 ∧ k ≤ 2) ∨ (f = 4 ∧ k = 4)
theorem c_Kd_canBeWorkedAt {X : CX} {h : AH} {Q : Option Value → AH → Prop} {a : Nat} (hk : a < 5) (k : Q (some (.int (bI (a ≤ 2)))) h) : EW X m_Kd_canBeWorkedAt 0 (enL m_Kd_canBeWorkedAt.2.2.1 [.int (nI a)]) [] h Q := by
  show EW X m_Kd_canBeWorkedAt 0 [.int (nI a)] [] h Q
  refine g_iload_n d_Kd_canBeWorkedAt_0 rfl ?_
  refine N_if_eq d_Kd_canBeWorkedAt_1 14 (by decide) (by omega) (fun c1 => ?_) (fun c1 => ?_)
  · refine N_iconst d_Kd_canBeWorkedAt_14 1 rfl ?_
    refine P_goto d_Kd_canBeWorkedAt_15 19 (by decide) ?_
    refine P_zret d_Kd_canBeWorkedAt_19 rfl (by decide) ?_
    first | exact R_i k (bI_t' (by omega)) | exact R_i k (bI_f' (by omega))
  · refine g_iload_n d_Kd_canBeWorkedAt_4 rfl ?_
    refine N_iconst d_Kd_canBeWorkedAt_5 1 rfl ?_
    refine N_icmp_eq d_Kd_canBeWorkedAt_6 14 (by decide) ⟨by omega, by omega⟩ (fun c2 => ?_) (fun c2 => ?_)
    · refine N_iconst d_Kd_canBeWorkedAt_14 1 rfl ?_
      refine P_goto d_Kd_canBeWorkedAt_15 19 (by decide) ?_
      refine P_zret d_Kd_canBeWorkedAt_19 rfl (by decide) ?_
      first | exact R_i k (bI_t' (by omega)) | exact R_i k (bI_f' (by omega))
    · refine g_iload_n d_Kd_canBeWorkedAt_9 rfl ?_
      refine N_iconst d_Kd_canBeWorkedAt_10 2 rfl ?_
      refine N_icmp_ne d_Kd_canBeWorkedAt_11 18 (by decide) ⟨by omega, by omega⟩ (fun c3 => ?_) (fun c3 => ?_)
      · refine N_iconst d_Kd_canBeWorkedAt_18 0 rfl ?_
        refine P_zret d_Kd_canBeWorkedAt_19 rfl (by decide) ?_
        first | exact R_i k (bI_t' (by omega)) | exact R_i k (bI_f' (by omega))
      · refine N_iconst d_Kd_canBeWorkedAt_14 1 rfl ?_
        refine P_goto d_Kd_canBeWorkedAt_15 19 (by decide) ?_
        refine P_zret d_Kd_canBeWorkedAt_19 rfl (by decide) ?_
        first | exact R_i k (bI_t' (by omega)) | exact R_i k (bI_f' (by omega))

theorem c_Kd_isKeptByDeath {X : CX} {h : AH} {Q : Option Value → AH → Prop} {a : Nat} (hk : a < 5) (k : Q (some (.int (bI (a = 3)))) h) : EW X m_Kd_isKeptByDeath 0 (enL m_Kd_isKeptByDeath.2.2.1 [.int (nI a)]) [] h Q := by
  show EW X m_Kd_isKeptByDeath 0 [.int (nI a)] [] h Q
  refine g_iload_n d_Kd_isKeptByDeath_0 rfl ?_
  refine N_iconst d_Kd_isKeptByDeath_1 3 rfl ?_
  refine N_icmp_ne d_Kd_isKeptByDeath_2 9 (by decide) ⟨by omega, by omega⟩ (fun c1 => ?_) (fun c1 => ?_)
  · refine N_iconst d_Kd_isKeptByDeath_9 0 rfl ?_
    refine P_zret d_Kd_isKeptByDeath_10 rfl (by decide) ?_
    first | exact R_i k (bI_t' (by omega)) | exact R_i k (bI_f' (by omega))
  · refine N_iconst d_Kd_isKeptByDeath_5 1 rfl ?_
    refine P_goto d_Kd_isKeptByDeath_6 10 (by decide) ?_
    refine P_zret d_Kd_isKeptByDeath_10 rfl (by decide) ?_
    first | exact R_i k (bI_t' (by omega)) | exact R_i k (bI_f' (by omega))

theorem c_Kd_does {X : CX} {h : AH} {Q : Option Value → AH → Prop} {a s : Nat} (hk : a < 5) (hs : s < 10) (k : Q (some (.int (nI (doesN a s)))) h) : EW X m_Kd_does 0 (enL m_Kd_does.2.2.1 [.int (nI a), .int (nI s)]) [] h Q := by
  show EW X m_Kd_does 0 [.int (nI a), .int (nI s)] [] h Q
  refine g_iload_n d_Kd_does_0 rfl ?_
  rcases (show a = 0 ∨ a = 1 ∨ a = 2 ∨ 2 < a by omega) with rfl | rfl | rfl | hsw
  · refine P_tableIn d_Kd_does_1 (27) 28 (by decide) (by decide) rfl (by decide) ?_
    refine g_iload_n d_Kd_does_28 rfl ?_
    refine P_iret d_Kd_does_29 rfl ?_
    exact R_i k (congrArg nI (by unfold doesN; split <;> (try split) <;> (try split) <;> omega))
  · refine P_tableIn d_Kd_does_1 (29) 30 (by decide) (by decide) rfl (by decide) ?_
    refine g_iload_n d_Kd_does_30 rfl ?_
    refine N_iconst d_Kd_does_31 2 rfl ?_
    refine N_idiv d_Kd_does_32 (by omega) (by omega) (by omega) ?_
    refine N_iconst d_Kd_does_33 1 rfl ?_
    refine N_iadd d_Kd_does_34 ?_
    refine P_iret d_Kd_does_35 rfl ?_
    exact R_i k (congrArg nI (by unfold doesN; split <;> (try split) <;> (try split) <;> omega))
  · refine P_tableIn d_Kd_does_1 (35) 36 (by decide) (by decide) rfl (by decide) ?_
    refine g_iload_n d_Kd_does_36 rfl ?_
    refine N_iconst d_Kd_does_37 2 rfl ?_
    refine N_imul d_Kd_does_38 ?_
    refine P_iret d_Kd_does_39 rfl ?_
    exact R_i k (congrArg nI (by unfold doesN; split <;> (try split) <;> (try split) <;> omega))
  · refine P_tableOut d_Kd_does_1 40 (by decide) (Or.inr (by rw [nI_toInt (by omega)]; omega)) ?_
    refine N_iconst d_Kd_does_40 0 rfl ?_
    refine P_iret d_Kd_does_41 rfl ?_
    exact R_i k (congrArg nI (by unfold doesN; split <;> (try split) <;> (try split) <;> omega))

theorem c_Md_does {X : CX} {h : AH} {Q : Option Value → AH → Prop} {a s : Nat} (hk : a < 5) (hs : s < 10) (k : Q (some (.int (nI (doesN a s)))) h) : EW X m_Md_does 0 (enL m_Md_does.2.2.1 [.int (nI a), .int (nI s)]) [] h Q := by
  show EW X m_Md_does 0 [.int (nI a), .int (nI s)] [] h Q
  refine g_iload_n d_Md_does_0 rfl ?_
  refine N_if_ne d_Md_does_1 8 (by decide) (by omega) (fun c1 => ?_) (fun c1 => ?_)
  · refine g_iload_n d_Md_does_8 rfl ?_
    refine N_iconst d_Md_does_9 1 rfl ?_
    refine N_icmp_ne d_Md_does_10 21 (by decide) ⟨by omega, by omega⟩ (fun c2 => ?_) (fun c2 => ?_)
    · refine g_iload_n d_Md_does_21 rfl ?_
      refine N_iconst d_Md_does_22 2 rfl ?_
      refine N_icmp_ne d_Md_does_23 32 (by decide) ⟨by omega, by omega⟩ (fun c3 => ?_) (fun c3 => ?_)
      · refine N_iconst d_Md_does_32 0 rfl ?_
        refine P_iret d_Md_does_33 rfl ?_
        exact R_i k (congrArg nI (by unfold doesN; split <;> (try split) <;> (try split) <;> omega))
      · refine N_iconst d_Md_does_26 2 rfl ?_
        refine g_iload_n d_Md_does_27 rfl ?_
        refine N_imul d_Md_does_28 ?_
        refine P_goto d_Md_does_29 33 (by decide) ?_
        refine P_iret d_Md_does_33 rfl ?_
        exact R_i k (congrArg nI (by unfold doesN; split <;> (try split) <;> (try split) <;> omega))
    · refine g_iload_n d_Md_does_13 rfl ?_
      refine N_iconst d_Md_does_14 2 rfl ?_
      refine N_idiv d_Md_does_15 (by omega) (by omega) (by omega) ?_
      refine N_iconst d_Md_does_16 1 rfl ?_
      refine N_iadd d_Md_does_17 ?_
      refine P_goto d_Md_does_18 33 (by decide) ?_
      refine P_iret d_Md_does_33 rfl ?_
      exact R_i k (congrArg nI (by unfold doesN; split <;> (try split) <;> (try split) <;> omega))
  · refine g_iload_n d_Md_does_4 rfl ?_
    refine P_goto d_Md_does_5 33 (by decide) ?_
    refine P_iret d_Md_does_33 rfl ?_
    exact R_i k (congrArg nI (by unfold doesN; split <;> (try split) <;> (try split) <;> omega))

theorem c_Kd_isUnder {X : CX} {h : AH} {Q : Option Value → AH → Prop} {a f : Nat} (hk : a < 5) (hf : f < 6) (k : Q (some (.int (bI (underN a f)))) h) : EW X m_Kd_isUnder 0 (enL m_Kd_isUnder.2.2.1 [.int (nI a), .int (nI f)]) [] h Q := by
  show EW X m_Kd_isUnder 0 [.int (nI a), .int (nI f)] [] h Q
  refine g_iload_n d_Kd_isUnder_0 rfl ?_
  refine N_if_eq d_Kd_isUnder_1 11 (by decide) (by omega) (fun c1 => ?_) (fun c1 => ?_)
  · refine N_iconst d_Kd_isUnder_11 1 rfl ?_
    refine P_zret d_Kd_isUnder_12 rfl (by decide) ?_
    first | exact R_i k (bI_t' (by omega)) | exact R_i k (bI_f' (by omega))
  · refine g_iload_n d_Kd_isUnder_4 rfl ?_
    refine g_iload_n d_Kd_isUnder_5 rfl ?_
    refine N_iconst d_Kd_isUnder_6 1 rfl ?_
    refine N_iadd d_Kd_isUnder_7 ?_
    refine N_icmp_ne d_Kd_isUnder_8 13 (by decide) ⟨by omega, by omega⟩ (fun c2 => ?_) (fun c2 => ?_)
    · refine g_iload_n d_Kd_isUnder_13 rfl ?_
      refine N_iconst d_Kd_isUnder_14 1 rfl ?_
      refine N_icmp_ne d_Kd_isUnder_15 34 (by decide) ⟨by omega, by omega⟩ (fun c3 => ?_) (fun c3 => ?_)
      · refine g_iload_n d_Kd_isUnder_34 rfl ?_
        refine N_iconst d_Kd_isUnder_35 4 rfl ?_
        refine N_icmp_ne d_Kd_isUnder_36 48 (by decide) ⟨by omega, by omega⟩ (fun c4 => ?_) (fun c4 => ?_)
        · refine N_iconst d_Kd_isUnder_48 0 rfl ?_
          refine P_zret d_Kd_isUnder_49 rfl (by decide) ?_
          first | exact R_i k (bI_t' (by omega)) | exact R_i k (bI_f' (by omega))
        · refine g_iload_n d_Kd_isUnder_39 rfl ?_
          refine N_iconst d_Kd_isUnder_40 4 rfl ?_
          refine N_icmp_ne d_Kd_isUnder_41 48 (by decide) ⟨by omega, by omega⟩ (fun c5 => ?_) (fun c5 => ?_)
          · refine N_iconst d_Kd_isUnder_48 0 rfl ?_
            refine P_zret d_Kd_isUnder_49 rfl (by decide) ?_
            first | exact R_i k (bI_t' (by omega)) | exact R_i k (bI_f' (by omega))
          · refine N_iconst d_Kd_isUnder_44 1 rfl ?_
            refine P_goto d_Kd_isUnder_45 49 (by decide) ?_
            refine P_zret d_Kd_isUnder_49 rfl (by decide) ?_
            first | exact R_i k (bI_t' (by omega)) | exact R_i k (bI_f' (by omega))
      · refine g_iload_n d_Kd_isUnder_18 rfl ?_
        refine N_iconst d_Kd_isUnder_19 1 rfl ?_
        refine N_icmp_eq d_Kd_isUnder_20 28 (by decide) ⟨by omega, by omega⟩ (fun c6 => ?_) (fun c6 => ?_)
        · refine N_iconst d_Kd_isUnder_28 1 rfl ?_
          refine P_goto d_Kd_isUnder_29 33 (by decide) ?_
          refine P_zret d_Kd_isUnder_33 rfl (by decide) ?_
          first | exact R_i k (bI_t' (by omega)) | exact R_i k (bI_f' (by omega))
        · refine g_iload_n d_Kd_isUnder_23 rfl ?_
          refine N_iconst d_Kd_isUnder_24 2 rfl ?_
          refine N_icmp_ne d_Kd_isUnder_25 32 (by decide) ⟨by omega, by omega⟩ (fun c7 => ?_) (fun c7 => ?_)
          · refine N_iconst d_Kd_isUnder_32 0 rfl ?_
            refine P_zret d_Kd_isUnder_33 rfl (by decide) ?_
            first | exact R_i k (bI_t' (by omega)) | exact R_i k (bI_f' (by omega))
          · refine N_iconst d_Kd_isUnder_28 1 rfl ?_
            refine P_goto d_Kd_isUnder_29 33 (by decide) ?_
            refine P_zret d_Kd_isUnder_33 rfl (by decide) ?_
            first | exact R_i k (bI_t' (by omega)) | exact R_i k (bI_f' (by omega))
    · refine N_iconst d_Kd_isUnder_11 1 rfl ?_
      refine P_zret d_Kd_isUnder_12 rfl (by decide) ?_
      first | exact R_i k (bI_t' (by omega)) | exact R_i k (bI_f' (by omega))

theorem c_Md_isA {X : CX} {h : AH} {Q : Option Value → AH → Prop} {a f : Nat} (hk : a < 5) (hf : f < 6) (k : Q (some (.int (bI (underN a f)))) h) : EW X m_Md_isA 0 (enL m_Md_isA.2.2.1 [.int (nI a), .int (nI f)]) [] h Q := by
  show EW X m_Md_isA 0 [.int (nI a), .int (nI f)] [] h Q
  refine g_iload_n d_Md_isA_0 rfl ?_
  refine N_if_eq d_Md_isA_1 31 (by decide) (by omega) (fun c1 => ?_) (fun c1 => ?_)
  · refine N_iconst d_Md_isA_31 1 rfl ?_
    refine P_goto d_Md_isA_32 36 (by decide) ?_
    refine P_zret d_Md_isA_36 rfl (by decide) ?_
    first | exact R_i k (bI_t' (by omega)) | exact R_i k (bI_f' (by omega))
  · refine g_iload_n d_Md_isA_4 rfl ?_
    refine g_iload_n d_Md_isA_5 rfl ?_
    refine N_iconst d_Md_isA_6 1 rfl ?_
    refine N_iadd d_Md_isA_7 ?_
    refine N_icmp_eq d_Md_isA_8 31 (by decide) ⟨by omega, by omega⟩ (fun c2 => ?_) (fun c2 => ?_)
    · refine N_iconst d_Md_isA_31 1 rfl ?_
      refine P_goto d_Md_isA_32 36 (by decide) ?_
      refine P_zret d_Md_isA_36 rfl (by decide) ?_
      first | exact R_i k (bI_t' (by omega)) | exact R_i k (bI_f' (by omega))
    · refine g_iload_n d_Md_isA_11 rfl ?_
      refine N_iconst d_Md_isA_12 1 rfl ?_
      refine N_icmp_ne d_Md_isA_13 21 (by decide) ⟨by omega, by omega⟩ (fun c3 => ?_) (fun c3 => ?_)
      · refine g_iload_n d_Md_isA_21 rfl ?_
        refine N_iconst d_Md_isA_22 4 rfl ?_
        refine N_icmp_ne d_Md_isA_23 35 (by decide) ⟨by omega, by omega⟩ (fun c4 => ?_) (fun c4 => ?_)
        · refine N_iconst d_Md_isA_35 0 rfl ?_
          refine P_zret d_Md_isA_36 rfl (by decide) ?_
          first | exact R_i k (bI_t' (by omega)) | exact R_i k (bI_f' (by omega))
        · refine g_iload_n d_Md_isA_26 rfl ?_
          refine N_iconst d_Md_isA_27 4 rfl ?_
          refine N_icmp_ne d_Md_isA_28 35 (by decide) ⟨by omega, by omega⟩ (fun c5 => ?_) (fun c5 => ?_)
          · refine N_iconst d_Md_isA_35 0 rfl ?_
            refine P_zret d_Md_isA_36 rfl (by decide) ?_
            first | exact R_i k (bI_t' (by omega)) | exact R_i k (bI_f' (by omega))
          · refine N_iconst d_Md_isA_31 1 rfl ?_
            refine P_goto d_Md_isA_32 36 (by decide) ?_
            refine P_zret d_Md_isA_36 rfl (by decide) ?_
            first | exact R_i k (bI_t' (by omega)) | exact R_i k (bI_f' (by omega))
      · refine g_iload_n d_Md_isA_16 rfl ?_
        refine N_iconst d_Md_isA_17 2 rfl ?_
        refine N_icmp_le d_Md_isA_18 31 (by decide) ⟨by omega, by omega⟩ (fun c6 => ?_) (fun c6 => ?_)
        · refine N_iconst d_Md_isA_31 1 rfl ?_
          refine P_goto d_Md_isA_32 36 (by decide) ?_
          refine P_zret d_Md_isA_36 rfl (by decide) ?_
          first | exact R_i k (bI_t' (by omega)) | exact R_i k (bI_f' (by omega))
        · refine g_iload_n d_Md_isA_21 rfl ?_
          refine N_iconst d_Md_isA_22 4 rfl ?_
          refine N_icmp_ne d_Md_isA_23 35 (by decide) ⟨by omega, by omega⟩ (fun c7 => ?_) (fun c7 => ?_)
          · refine N_iconst d_Md_isA_35 0 rfl ?_
            refine P_zret d_Md_isA_36 rfl (by decide) ?_
            first | exact R_i k (bI_t' (by omega)) | exact R_i k (bI_f' (by omega))
          · refine g_iload_n d_Md_isA_26 rfl ?_
            refine N_iconst d_Md_isA_27 4 rfl ?_
            refine N_icmp_ne d_Md_isA_28 35 (by decide) ⟨by omega, by omega⟩ (fun c8 => ?_) (fun c8 => ?_)
            · refine N_iconst d_Md_isA_35 0 rfl ?_
              refine P_zret d_Md_isA_36 rfl (by decide) ?_
              first | exact R_i k (bI_t' (by omega)) | exact R_i k (bI_f' (by omega))
            · refine N_iconst d_Md_isA_31 1 rfl ?_
              refine P_goto d_Md_isA_32 36 (by decide) ?_
              refine P_zret d_Md_isA_36 rfl (by decide) ?_
              first | exact R_i k (bI_t' (by omega)) | exact R_i k (bI_f' (by omega))

theorem and1 (a : Nat) : a &&& 1 = a % 2 := Nat.and_one_is_mod a
theorem tb_iff (s p : Nat) : s.testBit p = true ↔ s / 2 ^ p % 2 = 1 := by rw [Nat.testBit_eq_decide_div_mod_eq]; simp
theorem c_Md_has {X : CX} {h : AH} {Q : Option Value → AH → Prop} {s p : Nat} (hs : s < 2 ^ 31) (hp : p < 32) (k : Q (some (.int (bI (s.testBit p = true)))) h) : EW X m_Md_has 0 (enL m_Md_has.2.2.1 [.int (nI s), .int (nI p)]) [] h Q := by
  show EW X m_Md_has 0 [.int (nI s), .int (nI p)] [] h Q
  refine g_iload_n d_Md_has_0 rfl ?_
  refine g_iload_n d_Md_has_1 rfl ?_
  refine N_ishr d_Md_has_2 (by omega) (by omega) ?_
  refine N_iconst d_Md_has_3 1 rfl ?_
  refine N_iand d_Md_has_4 ?_
  refine N_iconst d_Md_has_5 1 rfl ?_
  refine N_icmp_ne d_Md_has_6 13 (by decide) ⟨by rw [and1]; omega, by decide⟩ (fun c1 => ?_) (fun c1 => ?_)
  · refine N_iconst d_Md_has_13 0 rfl ?_
    refine P_zret d_Md_has_14 rfl (by decide) ?_
    rw [and1] at c1
    first | exact R_i k (bI_t' (by rw [tb_iff]; omega)) | exact R_i k (bI_f' (by rw [tb_iff]; omega))
  · refine N_iconst d_Md_has_9 1 rfl ?_
    refine P_goto d_Md_has_10 14 (by decide) ?_
    refine P_zret d_Md_has_14 rfl (by decide) ?_
    rw [and1] at c1
    first | exact R_i k (bI_t' (by rw [tb_iff]; omega)) | exact R_i k (bI_f' (by rw [tb_iff]; omega))

/-- how many of the first m bits are set -/
def onesN (s : Nat) : Nat → Nat
  | 0 => 0
  | m + 1 => onesN s m + s / 2 ^ m % 2
theorem onesN_le (s : Nat) : ∀ m, onesN s m ≤ m
  | 0 => Nat.le_refl _
  | m + 1 => by have := onesN_le s m; unfold onesN; omega
theorem lp_Md_ones {X : CX} {h : AH} {Q : Option Value → AH → Prop} {s : Nat} (hs : s < 2 ^ 31) (k : Q (some (.int (nI (onesN s 10)))) h) : ∀ (d : Nat) (i : Nat), i ≤ 10 → 10 - i = d → EW X m_Md_ones 4 [.int (nI s), .int (nI (onesN s i)), .int (nI i)] [] h Q := by
  intro d
  induction d using Nat.strongRecOn with
  | _ d ih =>
    intro i hi hd
    refine g_iload_n d_Md_ones_4 rfl ?_
    refine N_bipush d_Md_ones_5 10 rfl ?_
    refine N_icmp_ge d_Md_ones_7 24 (by decide) ⟨by omega, by decide⟩ (fun c1 => ?_) (fun c1 => ?_)
    · refine g_iload_n d_Md_ones_24 rfl ?_
      refine P_iret d_Md_ones_25 rfl ?_
      have e : i = 10 := by omega
      subst e
      exact k
    · refine g_iload_n d_Md_ones_10 rfl ?_
      refine g_iload_n d_Md_ones_11 rfl ?_
      refine g_iload_n d_Md_ones_12 rfl ?_
      refine N_ishr d_Md_ones_13 (by omega) (by omega) ?_
      refine N_iconst d_Md_ones_14 1 rfl ?_
      refine N_iand d_Md_ones_15 ?_
      refine T_int (nI (s / 2 ^ i % 2)) (by rw [and1]) ?_
      refine N_iadd d_Md_ones_16 ?_
      refine S_istore_n_3_1 d_Md_ones_17 rfl rfl ?_
      refine N_iinc_3_2_1 d_Md_ones_18 rfl rfl ?_
      refine P_goto d_Md_ones_21 4 (by decide) ?_
      exact ih _ (by omega) (i + 1) (by omega) rfl

theorem c_Md_ones {X : CX} {h : AH} {Q : Option Value → AH → Prop} {s : Nat} (hs : s < 2 ^ 31) (k : Q (some (.int (nI (onesN s 10)))) h) : EW X m_Md_ones 0 (enL m_Md_ones.2.2.1 [.int (nI s)]) [] h Q := by
  show EW X m_Md_ones 0 [.int (nI s), jk, jk] [] h Q
  refine N_iconst d_Md_ones_0 0 rfl ?_
  refine S_istore_n_3_1 d_Md_ones_1 rfl rfl ?_
  refine N_iconst d_Md_ones_2 0 rfl ?_
  refine S_istore_n_3_2 d_Md_ones_3 rfl rfl ?_
  exact lp_Md_ones hs k 10 0 (by omega) rfl

theorem c_Pn_isPerson {X : CX} {dl : List (Nat × Nat)} {mI : Nat → Nat → Int32} {dr : Nat → Nat → Nat} {Q : Option Value → AH → Prop} {n : Nat} {x : Int32} (hn : mI 33 0 = nI n) (hb : n < 100) (k : Q (some (.int (bI (inN x n)))) (hp X dl mI dr)) : EW X m_Pn_isPerson 0 (enL m_Pn_isPerson.2.2.1 [.ref 32, .int x]) [] (hp X dl mI dr) Q := by
  show EW X m_Pn_isPerson 0 [.ref 32, .int x] [] (hp X dl mI dr) Q
  refine g_iload_n d_Pn_isPerson_0 rfl ?_
  refine N_iconst d_Pn_isPerson_1 0 rfl ?_
  refine g_aload_n d_Pn_isPerson_2 rfl ?_
  refine H_getR 33 d_Pn_isPerson_3 f_Pn_10.g rfl rfl (by decide) rfl ?_
  refine H_getI d_Pn_isPerson_6 f_Pn_278.g rfl rfl (by decide) ?_
  refine T_int (nI (n)) hn ?_
  refine N_iconst d_Pn_isPerson_9 1 rfl ?_
  refine P_isub d_Pn_isPerson_10 ?_
  refine C_S3 d_Pn_isPerson_11 k_Pn_71 (Nat.le_of_ble_eq_true rfl) (by decide) (Nat.le_of_ble_eq_true rfl) ?_
  refine c_Pn_isWithin ?_
  refine P_zret d_Pn_isPerson_14 rfl (bI_01 _) ?_
  exact R_i k (bI_iff (by have := nI_m1 (n := n) (by omega); have e0 : (nI 0).toInt = 0 := rfl; simp only [inN, Int32.le_iff_toInt_le]; omega))

theorem c_Pn_isPromise {X : CX} {dl : List (Nat × Nat)} {mI : Nat → Nat → Int32} {dr : Nat → Nat → Nat} {Q : Option Value → AH → Prop} {n : Nat} {x : Int32} (hn : mI 33 1 = nI n) (hb : n < 100) (k : Q (some (.int (bI (inN x n)))) (hp X dl mI dr)) : EW X m_Pn_isPromise 0 (enL m_Pn_isPromise.2.2.1 [.ref 32, .int x]) [] (hp X dl mI dr) Q := by
  show EW X m_Pn_isPromise 0 [.ref 32, .int x] [] (hp X dl mI dr) Q
  refine g_iload_n d_Pn_isPromise_0 rfl ?_
  refine N_iconst d_Pn_isPromise_1 0 rfl ?_
  refine g_aload_n d_Pn_isPromise_2 rfl ?_
  refine H_getR 33 d_Pn_isPromise_3 f_Pn_10.g rfl rfl (by decide) rfl ?_
  refine H_getI d_Pn_isPromise_6 f_Pn_281.g rfl rfl (by decide) ?_
  refine T_int (nI (n)) hn ?_
  refine N_iconst d_Pn_isPromise_9 1 rfl ?_
  refine P_isub d_Pn_isPromise_10 ?_
  refine C_S3 d_Pn_isPromise_11 k_Pn_71 (Nat.le_of_ble_eq_true rfl) (by decide) (Nat.le_of_ble_eq_true rfl) ?_
  refine c_Pn_isWithin ?_
  refine P_zret d_Pn_isPromise_14 rfl (bI_01 _) ?_
  exact R_i k (bI_iff (by have := nI_m1 (n := n) (by omega); have e0 : (nI 0).toInt = 0 := rfl; simp only [inN, Int32.le_iff_toInt_le]; omega))

theorem c_Md_isPerson {X : CX} {dl : List (Nat × Nat)} {mI : Nat → Nat → Int32} {dr : Nat → Nat → Nat} {Q : Option Value → AH → Prop} {n : Nat} {x : Int32} (hn : mI 139 3 = nI n) (hb : n < 100) (k : Q (some (.int (bI (inN x n)))) (hp X dl mI dr)) : EW X m_Md_isPerson 0 (enL m_Md_isPerson.2.2.1 [.ref 139, .int x]) [] (hp X dl mI dr) Q := by
  show EW X m_Md_isPerson 0 [.ref 139, .int x] [] (hp X dl mI dr) Q
  refine g_iload_n d_Md_isPerson_0 rfl ?_
  refine P_i2l d_Md_isPerson_1 ?_
  refine P_lconst d_Md_isPerson_2 0 rfl ?_
  refine g_aload_n d_Md_isPerson_3 rfl ?_
  refine H_getI d_Md_isPerson_4 f_Md_107.g rfl rfl (by decide) ?_
  refine T_int (nI (n)) hn ?_
  refine N_iconst d_Md_isPerson_7 1 rfl ?_
  refine P_isub d_Md_isPerson_8 ?_
  refine P_i2l d_Md_isPerson_9 ?_
  refine C_S3 d_Md_isPerson_10 k_Md_111 (Nat.le_of_ble_eq_true rfl) (by decide) (Nat.le_of_ble_eq_true rfl) ?_
  refine c_Md_in ?_
  refine P_zret d_Md_isPerson_13 rfl (bI_01 _) ?_
  exact R_i k (bI_iff (by have := nI_m1 (n := n) (by omega); have e0 : (0 : Int64).toInt = 0 := rfl; simp only [inN, Int64.le_iff_toInt_le, i64_toInt]; omega))

theorem c_Md_isPromise {X : CX} {dl : List (Nat × Nat)} {mI : Nat → Nat → Int32} {dr : Nat → Nat → Nat} {Q : Option Value → AH → Prop} {n : Nat} {x : Int32} (hn : mI 139 7 = nI n) (hb : n < 100) (k : Q (some (.int (bI (inN x n)))) (hp X dl mI dr)) : EW X m_Md_isPromise 0 (enL m_Md_isPromise.2.2.1 [.ref 139, .int x]) [] (hp X dl mI dr) Q := by
  show EW X m_Md_isPromise 0 [.ref 139, .int x] [] (hp X dl mI dr) Q
  refine g_iload_n d_Md_isPromise_0 rfl ?_
  refine P_i2l d_Md_isPromise_1 ?_
  refine P_lconst d_Md_isPromise_2 0 rfl ?_
  refine g_aload_n d_Md_isPromise_3 rfl ?_
  refine H_getI d_Md_isPromise_4 f_Md_115.g rfl rfl (by decide) ?_
  refine T_int (nI (n)) hn ?_
  refine N_iconst d_Md_isPromise_7 1 rfl ?_
  refine P_isub d_Md_isPromise_8 ?_
  refine P_i2l d_Md_isPromise_9 ?_
  refine C_S3 d_Md_isPromise_10 k_Md_111 (Nat.le_of_ble_eq_true rfl) (by decide) (Nat.le_of_ble_eq_true rfl) ?_
  refine c_Md_in ?_
  refine P_zret d_Md_isPromise_13 rfl (bI_01 _) ?_
  exact R_i k (bI_iff (by have := nI_m1 (n := n) (by omega); have e0 : (0 : Int64).toInt = 0 := rfl; simp only [inN, Int64.le_iff_toInt_le, i64_toInt]; omega))

theorem c_Pn_isRegister {X : CX} {h : AH} {Q : Option Value → AH → Prop} {x : Int32} (k : Q (some (.int (bI (inN x 3)))) h) : EW X m_Pn_isRegister 0 (enL m_Pn_isRegister.2.2.1 [.int x]) [] h Q := by
  show EW X m_Pn_isRegister 0 [.int x] [] h Q
  refine g_iload_n d_Pn_isRegister_0 rfl ?_
  refine N_iconst d_Pn_isRegister_1 0 rfl ?_
  refine N_iconst d_Pn_isRegister_2 2 rfl ?_
  refine C_S3 d_Pn_isRegister_3 k_Pn_71 (Nat.le_of_ble_eq_true rfl) (by decide) (Nat.le_of_ble_eq_true rfl) ?_
  refine c_Pn_isWithin ?_
  refine P_zret d_Pn_isRegister_6 rfl (bI_01 _) ?_
  exact R_i k (bI_iff (by have e0 : (nI 0).toInt = 0 := rfl; have e2 : (nI 3 - nI 1).toInt = 2 := rfl; have e3 : (nI 2).toInt = 2 := rfl; simp only [inN, Int32.le_iff_toInt_le]; omega))

theorem c_Md_isRegister {X : CX} {h : AH} {Q : Option Value → AH → Prop} {x : Int32} (k : Q (some (.int (bI (inN x 3)))) h) : EW X m_Md_isRegister 0 (enL m_Md_isRegister.2.2.1 [.int x]) [] h Q := by
  show EW X m_Md_isRegister 0 [.int x] [] h Q
  refine g_iload_n d_Md_isRegister_0 rfl ?_
  refine P_i2l d_Md_isRegister_1 ?_
  refine P_lconst d_Md_isRegister_2 0 rfl ?_
  refine P_ldc2 d_Md_isRegister_3 _ q_Md_300 ?_
  refine C_S3 d_Md_isRegister_6 k_Md_111 (Nat.le_of_ble_eq_true rfl) (by decide) (Nat.le_of_ble_eq_true rfl) ?_
  refine c_Md_in ?_
  refine P_zret d_Md_isRegister_9 rfl (bI_01 _) ?_
  exact R_i k (bI_iff (by have e0 : (0 : Int64).toInt = 0 := rfl; have e2 : (2 : Int64).toInt = 2 := rfl; simp only [inN, Int64.le_iff_toInt_le, i64_toInt]; omega))

