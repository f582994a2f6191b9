theorem c_Pn_isWithin {X : CX} {h : AH} {Q : Option Value → AH → Prop} {x lo hi : Int32} (k : Q (some (.int (bI (lo ≤ x ∧ x ≤ hi)))) h) : EW X m_Pn_isWithin 0 (enL m_Pn_isWithin.2.2.1 [.int x, .int lo, .int hi]) [] h Q := by
  show EW X m_Pn_isWithin 0 [.int x, .int lo, .int hi] [] h Q
  refine g_iload_n d_Pn_isWithin_0 rfl ?_
  refine g_iload_n d_Pn_isWithin_1 rfl ?_
  refine P_icmp_lt d_Pn_isWithin_2 14 (by decide) (fun c1 => ?_) (fun c1 => ?_)
  · refine N_iconst d_Pn_isWithin_14 0 rfl ?_
    refine P_zret d_Pn_isWithin_15 rfl (by decide) ?_
    first | exact R_i k (bI_t' (by clear k; simp only [Int32.le_iff_toInt_le, Int32.lt_iff_toInt_lt, nI_toInt (show 0 < 2 ^ 31 by decide), nI_toInt (show 1 < 2 ^ 31 by decide), nI_toInt (show 2 < 2 ^ 31 by decide), nI_toInt (show 4 < 2 ^ 31 by decide), ← Int32.toInt_inj, Int32.toInt_zero] at *; omega)) | exact R_i k (bI_f' (by clear k; simp only [Int32.le_iff_toInt_le, Int32.lt_iff_toInt_lt, nI_toInt (show 0 < 2 ^ 31 by decide), nI_toInt (show 1 < 2 ^ 31 by decide), nI_toInt (show 2 < 2 ^ 31 by decide), nI_toInt (show 4 < 2 ^ 31 by decide), ← Int32.toInt_inj, Int32.toInt_zero] at *; omega))
  · refine g_iload_n d_Pn_isWithin_5 rfl ?_
    refine g_iload_n d_Pn_isWithin_6 rfl ?_
    refine P_icmp_gt d_Pn_isWithin_7 14 (by decide) (fun c2 => ?_) (fun c2 => ?_)
    · refine N_iconst d_Pn_isWithin_14 0 rfl ?_
      refine P_zret d_Pn_isWithin_15 rfl (by decide) ?_
      first | exact R_i k (bI_t' (by clear k; simp only [Int32.le_iff_toInt_le, Int32.lt_iff_toInt_lt, nI_toInt (show 0 < 2 ^ 31 by decide), nI_toInt (show 1 < 2 ^ 31 by decide), nI_toInt (show 2 < 2 ^ 31 by decide), nI_toInt (show 4 < 2 ^ 31 by decide), ← Int32.toInt_inj, Int32.toInt_zero] at *; omega)) | exact R_i k (bI_f' (by clear k; simp only [Int32.le_iff_toInt_le, Int32.lt_iff_toInt_lt, nI_toInt (show 0 < 2 ^ 31 by decide), nI_toInt (show 1 < 2 ^ 31 by decide), nI_toInt (show 2 < 2 ^ 31 by decide), nI_toInt (show 4 < 2 ^ 31 by decide), ← Int32.toInt_inj, Int32.toInt_zero] at *; omega))
    · refine N_iconst d_Pn_isWithin_10 1 rfl ?_
      refine P_goto d_Pn_isWithin_11 15 (by decide) ?_
      refine P_zret d_Pn_isWithin_15 rfl (by decide) ?_
      first | exact R_i k (bI_t' (by clear k; simp only [Int32.le_iff_toInt_le, Int32.lt_iff_toInt_lt, nI_toInt (show 0 < 2 ^ 31 by decide), nI_toInt (show 1 < 2 ^ 31 by decide), nI_toInt (show 2 < 2 ^ 31 by decide), nI_toInt (show 4 < 2 ^ 31 by decide), ← Int32.toInt_inj, Int32.toInt_zero] at *; omega)) | exact R_i k (bI_f' (by clear k; simp only [Int32.le_iff_toInt_le, Int32.lt_iff_toInt_lt, nI_toInt (show 0 < 2 ^ 31 by decide), nI_toInt (show 1 < 2 ^ 31 by decide), nI_toInt (show 2 < 2 ^ 31 by decide), nI_toInt (show 4 < 2 ^ 31 by decide), ← Int32.toInt_inj, Int32.toInt_zero] at *; omega))

theorem c_Md_in {X : CX} {h : AH} {Q : Option Value → AH → Prop} {x lo hi : Int64} (k : Q (some (.int (bI (lo ≤ x ∧ x ≤ hi)))) h) : EW X m_Md_in 0 (enL m_Md_in.2.2.1 [.long x, .long lo, .long hi]) [] h Q := by
  show EW X m_Md_in 0 [.long x, jk, .long lo, jk, .long hi, jk] [] h Q
  refine g_lload_n d_Md_in_0 rfl ?_
  refine g_lload_n d_Md_in_1 rfl ?_
  refine P_lcmp d_Md_in_2 ?_
  refine P_if_lt d_Md_in_3 17 (by decide) (fun c1 => ?_) (fun c1 => ?_)
  · refine N_iconst d_Md_in_17 0 rfl ?_
    refine P_zret d_Md_in_18 rfl (by decide) ?_
    have g1 := lg_le0 x lo
    have g2 := lg_le0 x hi
    first | exact R_i k (bI_t' (by clear k; simp only [Int64.le_iff_toInt_le, Int64.lt_iff_toInt_lt, Int32.le_iff_toInt_le, Int32.lt_iff_toInt_lt, Int32.toInt_zero] at *; omega)) | exact R_i k (bI_f' (by clear k; simp only [Int64.le_iff_toInt_le, Int64.lt_iff_toInt_lt, Int32.le_iff_toInt_le, Int32.lt_iff_toInt_lt, Int32.toInt_zero] at *; omega))
  · refine g_lload_n d_Md_in_6 rfl ?_
    refine g_lload d_Md_in_7 rfl ?_
    refine P_lcmp d_Md_in_9 ?_
    refine P_if_gt d_Md_in_10 17 (by decide) (fun c2 => ?_) (fun c2 => ?_)
    · refine N_iconst d_Md_in_17 0 rfl ?_
      refine P_zret d_Md_in_18 rfl (by decide) ?_
      have g1 := lg_le0 x lo
      have g2 := lg_le0 x hi
      first | exact R_i k (bI_t' (by clear k; simp only [Int64.le_iff_toInt_le, Int64.lt_iff_toInt_lt, Int32.le_iff_toInt_le, Int32.lt_iff_toInt_lt, Int32.toInt_zero] at *; omega)) | exact R_i k (bI_f' (by clear k; simp only [Int64.le_iff_toInt_le, Int64.lt_iff_toInt_lt, Int32.le_iff_toInt_le, Int32.lt_iff_toInt_lt, Int32.toInt_zero] at *; omega))
    · refine N_iconst d_Md_in_13 1 rfl ?_
      refine P_goto d_Md_in_14 18 (by decide) ?_
      refine P_zret d_Md_in_18 rfl (by decide) ?_
      have g1 := lg_le0 x lo
      have g2 := lg_le0 x hi
      first | exact R_i k (bI_t' (by clear k; simp only [Int64.le_iff_toInt_le, Int64.lt_iff_toInt_lt, Int32.le_iff_toInt_le, Int32.lt_iff_toInt_lt, Int32.toInt_zero] at *; omega)) | exact R_i k (bI_f' (by clear k; simp only [Int64.le_iff_toInt_le, Int64.lt_iff_toInt_lt, Int32.le_iff_toInt_le, Int32.lt_iff_toInt_lt, Int32.toInt_zero] at *; omega))

theorem c_Kd_canBeWorkedAt {X : CX} {h : AH} {Q : Option Value → AH → Prop} {x : Int32} (k : Q (some (.int (bI (x = nI 0 ∨ x = nI 1 ∨ x = nI 2)))) h) : EW X m_Kd_canBeWorkedAt 0 (enL m_Kd_canBeWorkedAt.2.2.1 [.int x]) [] h Q := by
  show EW X m_Kd_canBeWorkedAt 0 [.int x] [] h Q
  refine g_iload_n d_Kd_canBeWorkedAt_0 rfl ?_
  refine P_if_eq d_Kd_canBeWorkedAt_1 14 (by decide) (fun c1 => ?_) (fun c1 => ?_)
  · refine N_iconst d_Kd_canBeWorkedAt_14 1 rfl ?_
    refine P_goto d_Kd_canBeWorkedAt_15 19 (by decide) ?_
    refine P_zret d_Kd_canBeWorkedAt_19 rfl (by decide) ?_
    first | exact R_i k (bI_t' (by clear k; simp only [Int32.le_iff_toInt_le, Int32.lt_iff_toInt_lt, nI_toInt (show 0 < 2 ^ 31 by decide), nI_toInt (show 1 < 2 ^ 31 by decide), nI_toInt (show 2 < 2 ^ 31 by decide), nI_toInt (show 4 < 2 ^ 31 by decide), ← Int32.toInt_inj, Int32.toInt_zero] at *; omega)) | exact R_i k (bI_f' (by clear k; simp only [Int32.le_iff_toInt_le, Int32.lt_iff_toInt_lt, nI_toInt (show 0 < 2 ^ 31 by decide), nI_toInt (show 1 < 2 ^ 31 by decide), nI_toInt (show 2 < 2 ^ 31 by decide), nI_toInt (show 4 < 2 ^ 31 by decide), ← Int32.toInt_inj, Int32.toInt_zero] at *; omega))
  · refine g_iload_n d_Kd_canBeWorkedAt_4 rfl ?_
    refine N_iconst d_Kd_canBeWorkedAt_5 1 rfl ?_
    refine P_icmp_eq d_Kd_canBeWorkedAt_6 14 (by decide) (fun c2 => ?_) (fun c2 => ?_)
    · refine N_iconst d_Kd_canBeWorkedAt_14 1 rfl ?_
      refine P_goto d_Kd_canBeWorkedAt_15 19 (by decide) ?_
      refine P_zret d_Kd_canBeWorkedAt_19 rfl (by decide) ?_
      first | exact R_i k (bI_t' (by clear k; simp only [Int32.le_iff_toInt_le, Int32.lt_iff_toInt_lt, nI_toInt (show 0 < 2 ^ 31 by decide), nI_toInt (show 1 < 2 ^ 31 by decide), nI_toInt (show 2 < 2 ^ 31 by decide), nI_toInt (show 4 < 2 ^ 31 by decide), ← Int32.toInt_inj, Int32.toInt_zero] at *; omega)) | exact R_i k (bI_f' (by clear k; simp only [Int32.le_iff_toInt_le, Int32.lt_iff_toInt_lt, nI_toInt (show 0 < 2 ^ 31 by decide), nI_toInt (show 1 < 2 ^ 31 by decide), nI_toInt (show 2 < 2 ^ 31 by decide), nI_toInt (show 4 < 2 ^ 31 by decide), ← Int32.toInt_inj, Int32.toInt_zero] at *; omega))
    · refine g_iload_n d_Kd_canBeWorkedAt_9 rfl ?_
      refine N_iconst d_Kd_canBeWorkedAt_10 2 rfl ?_
      refine P_icmp_ne d_Kd_canBeWorkedAt_11 18 (by decide) (fun c3 => ?_) (fun c3 => ?_)
      · refine N_iconst d_Kd_canBeWorkedAt_18 0 rfl ?_
        refine P_zret d_Kd_canBeWorkedAt_19 rfl (by decide) ?_
        first | exact R_i k (bI_t' (by clear k; simp only [Int32.le_iff_toInt_le, Int32.lt_iff_toInt_lt, nI_toInt (show 0 < 2 ^ 31 by decide), nI_toInt (show 1 < 2 ^ 31 by decide), nI_toInt (show 2 < 2 ^ 31 by decide), nI_toInt (show 4 < 2 ^ 31 by decide), ← Int32.toInt_inj, Int32.toInt_zero] at *; omega)) | exact R_i k (bI_f' (by clear k; simp only [Int32.le_iff_toInt_le, Int32.lt_iff_toInt_lt, nI_toInt (show 0 < 2 ^ 31 by decide), nI_toInt (show 1 < 2 ^ 31 by decide), nI_toInt (show 2 < 2 ^ 31 by decide), nI_toInt (show 4 < 2 ^ 31 by decide), ← Int32.toInt_inj, Int32.toInt_zero] at *; omega))
      · refine N_iconst d_Kd_canBeWorkedAt_14 1 rfl ?_
        refine P_goto d_Kd_canBeWorkedAt_15 19 (by decide) ?_
        refine P_zret d_Kd_canBeWorkedAt_19 rfl (by decide) ?_
        first | exact R_i k (bI_t' (by clear k; simp only [Int32.le_iff_toInt_le, Int32.lt_iff_toInt_lt, nI_toInt (show 0 < 2 ^ 31 by decide), nI_toInt (show 1 < 2 ^ 31 by decide), nI_toInt (show 2 < 2 ^ 31 by decide), nI_toInt (show 4 < 2 ^ 31 by decide), ← Int32.toInt_inj, Int32.toInt_zero] at *; omega)) | exact R_i k (bI_f' (by clear k; simp only [Int32.le_iff_toInt_le, Int32.lt_iff_toInt_lt, nI_toInt (show 0 < 2 ^ 31 by decide), nI_toInt (show 1 < 2 ^ 31 by decide), nI_toInt (show 2 < 2 ^ 31 by decide), nI_toInt (show 4 < 2 ^ 31 by decide), ← Int32.toInt_inj, Int32.toInt_zero] at *; omega))

theorem c_Kd_isKeptByDeath {X : CX} {h : AH} {Q : Option Value → AH → Prop} {x : Int32} (k : Q (some (.int (bI (x = nI 3)))) h) : EW X m_Kd_isKeptByDeath 0 (enL m_Kd_isKeptByDeath.2.2.1 [.int x]) [] h Q := by
  show EW X m_Kd_isKeptByDeath 0 [.int x] [] h Q
  refine g_iload_n d_Kd_isKeptByDeath_0 rfl ?_
  refine N_iconst d_Kd_isKeptByDeath_1 3 rfl ?_
  refine P_icmp_ne d_Kd_isKeptByDeath_2 9 (by decide) (fun c1 => ?_) (fun c1 => ?_)
  · refine N_iconst d_Kd_isKeptByDeath_9 0 rfl ?_
    refine P_zret d_Kd_isKeptByDeath_10 rfl (by decide) ?_
    first | exact R_i k (bI_t' (by assumption)) | exact R_i k (bI_f' (by assumption))
  · refine N_iconst d_Kd_isKeptByDeath_5 1 rfl ?_
    refine P_goto d_Kd_isKeptByDeath_6 10 (by decide) ?_
    refine P_zret d_Kd_isKeptByDeath_10 rfl (by decide) ?_
    first | exact R_i k (bI_t' (by assumption)) | exact R_i k (bI_f' (by assumption))

