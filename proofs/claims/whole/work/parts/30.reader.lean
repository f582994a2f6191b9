theorem rn_all {f : Int32 → Bool} {t : Nat → Int32} : ∀ d i j, i ≤ j → j < rnD f t d i → f (t j) = true
  | 0, i, j, h1, h2 => by simp [rnD] at h2; omega
  | d + 1, i, j, h1, h2 => by
    rw [rnD] at h2
    split at h2
    · rename_i h
      rcases (show i = j ∨ i + 1 ≤ j by omega) with rfl | z
      · exact h
      · exact rn_all d (i + 1) j z h2
    · omega
def nm (t : Nat → Int32) (L x : Nat) : Nat := nmN t (tkB t L x) (tkE t L x)
/-- the token is a number of 1 or 2 digits, from lo on, below n -/
abbrev numIn (t : Nat → Int32) (L x lo n : Nat) : Prop := tkS t L x = 2 ∧ tkE t L x - tkB t L x ≤ 2 ∧ lo ≤ nm t L x ∧ nm t L x < n
theorem tk2 {t : Nat → Int32} {L x : Nat} (h : tkS t L x = 2) : tkB t L x < L ∧ dgP (t (tkB t L x)) ∧ tkE t L x = rn fD t L (tkB t L x) := by
  unfold tkS at h
  split at h
  · cases h
  · rename_i h1
    split at h
    · cases h
    · rename_i h2
      split at h
      · rename_i h3
        exact ⟨by omega, h3, by rw [tkE, if_neg h1, if_neg h2, if_pos h3]⟩
      · cases h
theorem nm_le {t : Nat → Int32} {L x : Nat} (h : tkS t L x = 2) : nm t L x ≤ 99 := by
  obtain ⟨h1, h2, h3⟩ := tk2 h
  have hd := (dv_eq h2).2
  unfold nm nmN
  split
  · rename_i hb
    rw [h3, rn_yes h1 (by unfold fD; rw [decide_eq_true_iff]; exact h2)] at hb
    have hl := (rn_le (f := fD) (t := t) (L := L) (i := tkB t L x + 1) (by omega)).2
    by_cases hg : dgP (t (tkB t L x + 1))
    · have := (dv_eq hg).2; omega
    · rw [rn_no (by omega) (by unfold fD; rw [decide_eq_true_iff]; exact hg)] at hb
      omega
  · omega
theorem tk2d {t : Nat → Int32} {L x : Nat} (h : tkS t L x = 2) : tkB t L x < tkE t L x ∧ ∀ j, tkB t L x ≤ j → j < tkE t L x → dgP (t j) := by
  obtain ⟨h1, h2, h3⟩ := tk2 h
  refine ⟨?_, fun j g1 g2 => ?_⟩
  · rw [h3, rn_yes h1 (by unfold fD; rw [decide_eq_true_iff]; exact h2)]
    exact (rn_le (f := fD) (t := t) (L := L) (i := tkB t L x + 1) (by omega)).1
  · rw [h3] at g2
    have := rn_all (f := fD) (t := t) (L - tkB t L x) (tkB t L x) j g1 g2
    unfold fD at this
    exact of_decide_eq_true this
theorem lp_Rd_numberHere {X : CX} {dl : List (Nat × Nat)} {mI : Nat → Nat → Int32} {dr : Nat → Nat → Nat} {Q : Option Value → AH → Prop} {t : Nat → Int32} {L x c : Nat} (hK : TK t L x c mI) (hs : tkS t L x = 2) (k : Q (some (.int (nI (nm t L x)))) (hp X dl mI dr)) : ∀ (d : Nat) (i : Nat), (tkB t L x ≤ i ∧ i ≤ tkE t L x ∧ i ≤ tkB t L x + 2) → tkE t L x - i = d → EW X m_Rd_numberHere 7 [.ref 51, .int (nI (nmP t (tkB t L x) i)), .int (nI i)] [] (hp X dl mI dr) Q := by
  intro d
  induction d using Nat.strongRecOn with
  | _ d ih =>
    intro i hi hd
    have hle := tk_le (t := t) hK.2.1
    have hL := hK.1.1
    have hd2 := tk2d hs
    have hlt := hd2.1
    refine g_iload_n d_Rd_numberHere_7 rfl ?_
    refine g_aload_n d_Rd_numberHere_8 rfl ?_
    refine H_getI d_Rd_numberHere_9 f_Rd_22.g rfl rfl (by decide) ?_
    refine T_int (nI (tkE t L x)) hK.2.2.2.2.2.1 ?_
    refine N_icmp_ge d_Rd_numberHere_12 46 (by decide) ⟨by omega, by omega⟩ (fun c1 => ?_) (fun c1 => ?_)
    · refine g_iload_n d_Rd_numberHere_46 rfl ?_
      refine P_iret d_Rd_numberHere_47 rfl ?_
      have e : nmP t (tkB t L x) i = nm t L x := by
        unfold nm nmP
        rw [if_neg (by omega), show i = tkE t L x by omega]
      rw [e]
      exact k
    · refine g_iload_n d_Rd_numberHere_15 rfl ?_
      refine g_aload_n d_Rd_numberHere_16 rfl ?_
      refine H_getI d_Rd_numberHere_17 f_Rd_32.g rfl rfl (by decide) ?_
      refine T_int (nI (tkB t L x)) hK.2.2.2.2.1 ?_
      refine N_iconst d_Rd_numberHere_20 2 rfl ?_
      refine N_iadd d_Rd_numberHere_21 ?_
      refine N_icmp_ge d_Rd_numberHere_22 46 (by decide) ⟨by omega, by omega⟩ (fun c2 => ?_) (fun c2 => ?_)
      · refine g_iload_n d_Rd_numberHere_46 rfl ?_
        refine P_iret d_Rd_numberHere_47 rfl ?_
        have e : nmP t (tkB t L x) i = nm t L x := by
          unfold nm nmP
          rw [if_neg (by omega), show i = tkB t L x + 2 by omega, nmN_2 t (tkB t L x) (tkE t L x) (by omega)]
        rw [e]
        exact k
      · have hdv := dv_eq (hd2.2 i hi.1 c1)
        refine g_iload_n d_Rd_numberHere_25 rfl ?_
        refine N_bipush d_Rd_numberHere_26 10 rfl ?_
        refine N_imul d_Rd_numberHere_28 ?_
        refine g_aload_n d_Rd_numberHere_29 rfl ?_
        refine H_getR 52 d_Rd_numberHere_30 f_Rd_11.g rfl rfl (by decide) rfl ?_
        refine g_iload_n d_Rd_numberHere_33 rfl ?_
        refine H_ialdN d_Rd_numberHere_34 rfl rfl (show i < 200 by omega) (by decide) ?_
        refine T_int (nI (48 + dv (t i))) ((hK.1.2.2 i (by omega)).trans hdv.1) ?_
        refine N_iadd d_Rd_numberHere_35 ?_
        refine N_bipush d_Rd_numberHere_36 48 rfl ?_
        refine N_isub d_Rd_numberHere_38 (by omega) ?_
        refine T_int (nI (nmP t (tkB t L x) (i + 1))) (congrArg nI (by
  unfold nmP
  rw [if_neg (show ¬ i + 1 ≤ tkB t L x by omega)]
  rcases (show i = tkB t L x ∨ i = tkB t L x + 1 by omega) with e | e
  · rw [e, if_pos (Nat.le_refl _)]; unfold nmN; rw [if_neg (by omega)]; omega
  · rw [e, if_neg (by omega)]; unfold nmN; rw [if_neg (by omega), if_pos (by omega)]; omega)) ?_
        refine S_istore_n_3_1 d_Rd_numberHere_39 rfl rfl ?_
        refine N_iinc_3_2_1 d_Rd_numberHere_40 rfl rfl ?_
        refine P_goto d_Rd_numberHere_43 7 (by decide) ?_
        exact ih _ (by omega) (i + 1) (by omega) rfl

theorem c_Rd_numberHere {X : CX} {dl : List (Nat × Nat)} {mI : Nat → Nat → Int32} {dr : Nat → Nat → Nat} {Q : Option Value → AH → Prop} {t : Nat → Int32} {L x c : Nat} (hK : TK t L x c mI) (hs : tkS t L x = 2) (k : Q (some (.int (nI (nm t L x)))) (hp X dl mI dr)) : EW X m_Rd_numberHere 0 (enL m_Rd_numberHere.2.2.1 [.ref 51]) [] (hp X dl mI dr) Q := by
  show EW X m_Rd_numberHere 0 [.ref 51, jk, jk] [] (hp X dl mI dr) Q
  have hd2 := tk2d hs
  have hlt := hd2.1
  refine N_iconst d_Rd_numberHere_0 0 rfl ?_
  refine S_istore_n_3_1 d_Rd_numberHere_1 rfl rfl ?_
  refine g_aload_n d_Rd_numberHere_2 rfl ?_
  refine H_getI d_Rd_numberHere_3 f_Rd_32.g rfl rfl (by decide) ?_
  refine T_int (nI (tkB t L x)) hK.2.2.2.2.1 ?_
  refine S_istore_n_3_2 d_Rd_numberHere_6 rfl rfl ?_
  have e0 : nmP t (tkB t L x) (tkB t L x) = 0 := if_pos (Nat.le_refl _)
  have hl := lp_Rd_numberHere (dl := dl) (dr := dr) hK hs k _ (tkB t L x) ⟨Nat.le_refl _, by omega, by omega⟩ rfl
  rw [e0] at hl
  exact hl

theorem c_Rd_isNumber {X : CX} {dl : List (Nat × Nat)} {mI : Nat → Nat → Int32} {dr : Nat → Nat → Nat} {Q : Option Value → AH → Prop} {t : Nat → Int32} {L x c lo n : Nat} {hi : Int32} (hK : TK t L x c mI) (hlo : lo < 100) (hh : hi.toInt = (n : Int) - 1) (k : Q (some (.int (bI (numIn t L x lo n)))) (hp X dl mI dr)) : EW X m_Rd_isNumber 0 (enL m_Rd_isNumber.2.2.1 [.ref 51, .int (nI lo), .int hi]) [] (hp X dl mI dr) Q := by
  show EW X m_Rd_isNumber 0 [.ref 51, .int (nI lo), .int hi] [] (hp X dl mI dr) Q
  have hK0 := hK
  obtain ⟨hX, hx, h2, h3, h4, h5, h6⟩ := hK
  have hle := tk_le (t := t) hx
  have hL := hX.1
  have hs3 := tkS_le t L x
  refine g_aload_n d_Rd_isNumber_0 rfl ?_
  refine H_getI d_Rd_isNumber_1 f_Rd_35.g rfl rfl (by decide) ?_
  refine T_int (nI (tkS t L x)) h3 ?_
  refine N_iconst d_Rd_isNumber_4 2 rfl ?_
  refine N_icmp_ne d_Rd_isNumber_5 37 (by decide) ⟨by omega, by omega⟩ (fun c1 => ?_) (fun c1 => ?_)
  · refine N_iconst d_Rd_isNumber_37 0 rfl ?_
    refine P_zret d_Rd_isNumber_38 rfl (by decide) ?_
    first
      | exact R_i k (bI_f' (fun z => by omega))
      | (have hnm := nm_le c1
         have e1 : (nI lo).toInt = (lo : Int) := nI_toInt (by omega)
         have e2 : (nI (nm t L x)).toInt = (nm t L x : Int) := nI_toInt (by omega)
         simp only [Int32.le_iff_toInt_le, e1, e2, hh] at c3
         first | exact R_i k (bI_t' ⟨c1, by omega, by omega, by omega⟩) | exact R_i k (bI_f' (fun z => c3 ⟨by omega, by omega⟩)))
  · refine g_aload_n d_Rd_isNumber_8 rfl ?_
    refine H_getI d_Rd_isNumber_9 f_Rd_22.g rfl rfl (by decide) ?_
    refine T_int (nI (tkE t L x)) h5 ?_
    refine g_aload_n d_Rd_isNumber_12 rfl ?_
    refine H_getI d_Rd_isNumber_13 f_Rd_32.g rfl rfl (by decide) ?_
    refine T_int (nI (tkB t L x)) h4 ?_
    refine N_isub d_Rd_isNumber_16 (by omega) ?_
    refine N_iconst d_Rd_isNumber_17 2 rfl ?_
    refine N_icmp_gt d_Rd_isNumber_18 37 (by decide) ⟨by omega, by omega⟩ (fun c2 => ?_) (fun c2 => ?_)
    · refine N_iconst d_Rd_isNumber_37 0 rfl ?_
      refine P_zret d_Rd_isNumber_38 rfl (by decide) ?_
      first
        | exact R_i k (bI_f' (fun z => by omega))
        | (have hnm := nm_le c1
           have e1 : (nI lo).toInt = (lo : Int) := nI_toInt (by omega)
           have e2 : (nI (nm t L x)).toInt = (nm t L x : Int) := nI_toInt (by omega)
           simp only [Int32.le_iff_toInt_le, e1, e2, hh] at c3
           first | exact R_i k (bI_t' ⟨c1, by omega, by omega, by omega⟩) | exact R_i k (bI_f' (fun z => c3 ⟨by omega, by omega⟩)))
    · refine g_aload_n d_Rd_isNumber_21 rfl ?_
      refine C_V0 d_Rd_isNumber_22 k_Rd_115 rfl (Nat.le_of_ble_eq_true rfl) (by decide) (Nat.le_of_ble_eq_true rfl) ?_
      refine (c_Rd_numberHere hK0 c1) ?_
      refine g_iload_n d_Rd_isNumber_25 rfl ?_
      refine g_iload_n d_Rd_isNumber_26 rfl ?_
      refine C_S3 d_Rd_isNumber_27 k_Rd_131 (Nat.le_of_ble_eq_true rfl) (by decide) (Nat.le_of_ble_eq_true rfl) ?_
      refine c_Pn_isWithin ?_
      refine B_eq d_Rd_isNumber_30 37 (by decide) (fun c3 => ?_) (fun c3 => ?_)
      · refine N_iconst d_Rd_isNumber_37 0 rfl ?_
        refine P_zret d_Rd_isNumber_38 rfl (by decide) ?_
        first
          | exact R_i k (bI_f' (fun z => by omega))
          | (have hnm := nm_le c1
             have e1 : (nI lo).toInt = (lo : Int) := nI_toInt (by omega)
             have e2 : (nI (nm t L x)).toInt = (nm t L x : Int) := nI_toInt (by omega)
             simp only [Int32.le_iff_toInt_le, e1, e2, hh] at c3
             first | exact R_i k (bI_t' ⟨c1, by omega, by omega, by omega⟩) | exact R_i k (bI_f' (fun z => c3 ⟨by omega, by omega⟩)))
      · refine N_iconst d_Rd_isNumber_33 1 rfl ?_
        refine P_goto d_Rd_isNumber_34 38 (by decide) ?_
        refine P_zret d_Rd_isNumber_38 rfl (by decide) ?_
        first
          | exact R_i k (bI_f' (fun z => by omega))
          | (have hnm := nm_le c1
             have e1 : (nI lo).toInt = (lo : Int) := nI_toInt (by omega)
             have e2 : (nI (nm t L x)).toInt = (nm t L x : Int) := nI_toInt (by omega)
             simp only [Int32.le_iff_toInt_le, e1, e2, hh] at c3
             first | exact R_i k (bI_t' ⟨c1, by omega, by omega, by omega⟩) | exact R_i k (bI_f' (fun z => c3 ⟨by omega, by omega⟩)))

theorem c_Rd_takeNumber {X : CX} {dl : List (Nat × Nat)} {mI : Nat → Nat → Int32} {dr : Nat → Nat → Nat} {Q : Option Value → AH → Prop} {t : Nat → Int32} {L x c : Nat} (hK : TK t L x c mI) (hs : tkS t L x = 2) (k : ∀ mI', TK t L (tkE t L x) c mI' → Fx 51 51 mI mI' → Q (some (.int (nI (nm t L x)))) (hp X dl mI' dr)) : EW X m_Rd_takeNumber 0 (enL m_Rd_takeNumber.2.2.1 [.ref 51]) [] (hp X dl mI dr) Q := by
  show EW X m_Rd_takeNumber 0 [.ref 51, jk] [] (hp X dl mI dr) Q
  refine g_aload_n d_Rd_takeNumber_0 rfl ?_
  refine C_V0 d_Rd_takeNumber_1 k_Rd_115 rfl (Nat.le_of_ble_eq_true rfl) (by decide) (Nat.le_of_ble_eq_true rfl) ?_
  refine (c_Rd_numberHere hK hs) ?_
  refine S_istore_n_2_1 d_Rd_takeNumber_4 rfl rfl ?_
  refine g_aload_n d_Rd_takeNumber_5 rfl ?_
  refine C_V0 d_Rd_takeNumber_6 k_Rd_25 rfl (Nat.le_of_ble_eq_true rfl) (by decide) (Nat.le_of_ble_eq_true rfl) ?_
  refine c_Rd_toNextToken hK.1 (tk_le hK.2.1).2.2 hK.2.2.1 hK.2.2.2.2.2.1 (fun mI1 hK1 hF1 => ?_)
  refine g_iload_n d_Rd_takeNumber_9 rfl ?_
  refine P_iret d_Rd_takeNumber_10 rfl ?_
  exact k mI1 hK1 hF1

theorem c_Rd_isSign {X : CX} {dl : List (Nat × Nat)} {mI : Nat → Nat → Int32} {dr : Nat → Nat → Nat} {Q : Option Value → AH → Prop} {t : Nat → Int32} {L x c g : Nat} (hK : TK t L x c mI) (k : Q (some (.int (bI (tkS t L x = 3 ∧ t (tkB t L x) = nI g)))) (hp X dl mI dr)) : EW X m_Rd_isSign 0 (enL m_Rd_isSign.2.2.1 [.ref 51, .int (nI g)]) [] (hp X dl mI dr) Q := by
  show EW X m_Rd_isSign 0 [.ref 51, .int (nI g)] [] (hp X dl mI dr) Q
  obtain ⟨hX, hx, h2, h3, h4, h5, h6⟩ := hK
  have hle := tk_le (t := t) hx
  have hL := hX.1
  have hs3 := tkS_le t L x
  refine g_aload_n d_Rd_isSign_0 rfl ?_
  refine H_getI d_Rd_isSign_1 f_Rd_35.g rfl rfl (by decide) ?_
  refine T_int (nI (tkS t L x)) h3 ?_
  refine N_iconst d_Rd_isSign_4 3 rfl ?_
  refine N_icmp_ne d_Rd_isSign_5 25 (by decide) ⟨by omega, by omega⟩ (fun c1 => ?_) (fun c1 => ?_)
  · refine N_iconst d_Rd_isSign_25 0 rfl ?_
    refine P_zret d_Rd_isSign_26 rfl (by decide) ?_
    first | exact R_i k (bI_t' ⟨c1, c2⟩) | exact R_i k (bI_f' (fun z => c2 z.2)) | exact R_i k (bI_f' (fun z => c1 z.1))
  · have hb : tkB t L x < L := by
      rcases Nat.lt_or_ge (tkB t L x) L with z | z
      · exact z
      · rw [tkS, if_pos z] at c1; omega
    refine g_aload_n d_Rd_isSign_8 rfl ?_
    refine H_getR 52 d_Rd_isSign_9 f_Rd_11.g rfl rfl (by decide) rfl ?_
    refine g_aload_n d_Rd_isSign_12 rfl ?_
    refine H_getI d_Rd_isSign_13 f_Rd_32.g rfl rfl (by decide) ?_
    refine T_int (nI (tkB t L x)) h4 ?_
    refine H_ialdN d_Rd_isSign_16 rfl rfl (show tkB t L x < 200 by omega) (by decide) ?_
    refine T_int (t (tkB t L x)) (hX.2.2 _ hb) ?_
    refine g_iload_n d_Rd_isSign_17 rfl ?_
    refine P_icmp_ne d_Rd_isSign_18 25 (by decide) (fun c2 => ?_) (fun c2 => ?_)
    · refine N_iconst d_Rd_isSign_25 0 rfl ?_
      refine P_zret d_Rd_isSign_26 rfl (by decide) ?_
      first | exact R_i k (bI_t' ⟨c1, c2⟩) | exact R_i k (bI_f' (fun z => c2 z.2)) | exact R_i k (bI_f' (fun z => c1 z.1))
    · refine N_iconst d_Rd_isSign_21 1 rfl ?_
      refine P_goto d_Rd_isSign_22 26 (by decide) ?_
      refine P_zret d_Rd_isSign_26 rfl (by decide) ?_
      first | exact R_i k (bI_t' ⟨c1, c2⟩) | exact R_i k (bI_f' (fun z => c2 z.2)) | exact R_i k (bI_f' (fun z => c1 z.1))

/-- the token is the word i -/
abbrev isW (t : Nat → Int32) (L x i : Nat) : Prop := tkS t L x = 1 ∧ tkE t L x - tkB t L x = lenS.getD i 0 ∧ ∀ j, j < lenS.getD i 0 → t (tkB t L x + j) = chS i j

theorem lp_Rd_isWord {X : CX} {dl : List (Nat × Nat)} {mI : Nat → Nat → Int32} {dr : Nat → Nat → Nat} {Q : Option Value → AH → Prop} {t : Nat → Int32} {L x c i : Nat} (hK : TK t L x c mI) (hi : i < 8) (hs : tkS t L x = 1) (hlen : tkE t L x - tkB t L x = lenS.getD i 0) (k : Q (some (.int (bI (isW t L x i)))) (hp X dl mI dr)) : ∀ (d j : Nat), j ≤ lenS.getD i 0 → (∀ n, n < j → t (tkB t L x + n) = chS i n) → lenS.getD i 0 - j = d → EW X m_Rd_isWord 28 [.ref 51, .ref (2 + i), .int (nI j)] [] (hp X dl mI dr) Q := by
  intro d
  have hl := (lenS_lt i hi).1
  have hle := tk_le (t := t) hK.2.1
  have hL := hK.1.1
  induction d using Nat.strongRecOn with
  | _ d ih =>
    intro j hj hb hd
    refine g_iload_n d_Rd_isWord_28 rfl ?_
    refine g_aload_n d_Rd_isWord_29 rfl ?_
    refine C_Vs0 d_Rd_isWord_30 ks_Rd_135 hi (Nat.le_of_ble_eq_true rfl) (by decide) (Nat.le_of_ble_eq_true rfl) ?_
    refine c_Sr_length hi ?_
    refine N_icmp_ge d_Rd_isWord_33 63 (by decide) ⟨by omega, by omega⟩ (fun c1 => ?_) (fun c1 => ?_)
    · refine N_iconst d_Rd_isWord_63 1 rfl ?_
      refine P_zret d_Rd_isWord_64 rfl (by decide) ?_
      exact R_i k (bI_t' ⟨hs, hlen, fun n hn => hb n (by omega)⟩)
    · refine g_aload_n d_Rd_isWord_36 rfl ?_
      refine H_getR 52 d_Rd_isWord_37 f_Rd_11.g rfl rfl (by decide) rfl ?_
      refine g_aload_n d_Rd_isWord_40 rfl ?_
      refine H_getI d_Rd_isWord_41 f_Rd_32.g rfl rfl (by decide) ?_
      refine T_int (nI (tkB t L x)) hK.2.2.2.2.1 ?_
      refine g_iload_n d_Rd_isWord_44 rfl ?_
      refine N_iadd d_Rd_isWord_45 ?_
      refine H_ialdN d_Rd_isWord_46 rfl rfl (show tkB t L x + j < 200 by omega) (by decide) ?_
      refine T_int (t (tkB t L x + j)) (hK.1.2.2 _ (by omega)) ?_
      refine g_aload_n d_Rd_isWord_47 rfl ?_
      refine g_iload_n d_Rd_isWord_48 rfl ?_
      refine C_Vs1 d_Rd_isWord_49 ks_Rd_139 hi (Nat.le_of_ble_eq_true rfl) (by decide) (Nat.le_of_ble_eq_true rfl) ?_
      refine c_Sr_charAt hi c1 ?_
      refine P_icmp_eq d_Rd_isWord_52 57 (by decide) (fun c2 => ?_) (fun c2 => ?_)
      · refine N_iinc_3_2_1 d_Rd_isWord_57 rfl rfl ?_
        refine P_goto d_Rd_isWord_60 28 (by decide) ?_
        exact ih _ (by omega) (j + 1) (by omega) (fun n hn => by
          rcases (show n = j ∨ n < j by omega) with rfl | z
          · exact c2
          · exact hb n z) rfl
      · refine N_iconst d_Rd_isWord_55 0 rfl ?_
        refine P_zret d_Rd_isWord_56 rfl (by decide) ?_
        exact R_i k (bI_f' (fun z => c2 (z.2.2 j c1)))
theorem c_Rd_isWord {X : CX} {dl : List (Nat × Nat)} {mI : Nat → Nat → Int32} {dr : Nat → Nat → Nat} {Q : Option Value → AH → Prop} {t : Nat → Int32} {L x c i : Nat} (hK : TK t L x c mI) (hi : i < 8) (k : Q (some (.int (bI (isW t L x i)))) (hp X dl mI dr)) : EW X m_Rd_isWord 0 (enL m_Rd_isWord.2.2.1 [.ref 51, .ref (2 + i)]) [] (hp X dl mI dr) Q := by
  show EW X m_Rd_isWord 0 [.ref 51, .ref (2 + i), jk] [] (hp X dl mI dr) Q
  have hl := (lenS_lt i hi).1
  have hle := tk_le (t := t) hK.2.1
  have hL := hK.1.1
  have hs3 := tkS_le t L x
  refine g_aload_n d_Rd_isWord_0 rfl ?_
  refine H_getI d_Rd_isWord_1 f_Rd_35.g rfl rfl (by decide) ?_
  refine T_int (nI (tkS t L x)) hK.2.2.2.1 ?_
  refine N_iconst d_Rd_isWord_4 1 rfl ?_
  refine N_icmp_ne d_Rd_isWord_5 24 (by decide) ⟨by omega, by omega⟩ (fun c1 => ?_) (fun c1 => ?_)
  · refine N_iconst d_Rd_isWord_24 0 rfl ?_
    refine P_zret d_Rd_isWord_25 rfl (by decide) ?_
    exact R_i k (bI_f' (fun z => c1 z.1))
  · refine g_aload_n d_Rd_isWord_8 rfl ?_
    refine H_getI d_Rd_isWord_9 f_Rd_22.g rfl rfl (by decide) ?_
    refine T_int (nI (tkE t L x)) hK.2.2.2.2.2.1 ?_
    refine g_aload_n d_Rd_isWord_12 rfl ?_
    refine H_getI d_Rd_isWord_13 f_Rd_32.g rfl rfl (by decide) ?_
    refine T_int (nI (tkB t L x)) hK.2.2.2.2.1 ?_
    refine N_isub d_Rd_isWord_16 (by omega) ?_
    refine g_aload_n d_Rd_isWord_17 rfl ?_
    refine C_Vs0 d_Rd_isWord_18 ks_Rd_135 hi (Nat.le_of_ble_eq_true rfl) (by decide) (Nat.le_of_ble_eq_true rfl) ?_
    refine c_Sr_length hi ?_
    refine N_icmp_eq d_Rd_isWord_21 26 (by decide) ⟨by omega, by omega⟩ (fun c2 => ?_) (fun c2 => ?_)
    · refine N_iconst d_Rd_isWord_26 0 rfl ?_
      refine S_istore_n_3_2 d_Rd_isWord_27 rfl rfl ?_
      exact lp_Rd_isWord hK hi c1 c2 k _ 0 (Nat.zero_le _) (fun n hn => absurd hn (Nat.not_lt_zero _)) rfl
    · refine N_iconst d_Rd_isWord_24 0 rfl ?_
      refine P_zret d_Rd_isWord_25 rfl (by decide) ?_
      exact R_i k (bI_f' (fun z => c2 z.2.1))
/-- the kind that the word tells (0: none) -/
def kwC (t : Nat → Int32) (L x : Nat) : Nat := if isW t L x 3 then 1 else if isW t L x 4 then 2 else if isW t L x 5 then 3 else if isW t L x 6 then 4 else if isW t L x 7 then 5 else 0
theorem c_Rd_kindByWord {X : CX} {dl : List (Nat × Nat)} {mI : Nat → Nat → Int32} {dr : Nat → Nat → Nat} {Q : Option Value → AH → Prop} {t : Nat → Int32} {L x c : Nat} (hK : TK t L x c mI) (k : Q (some (.int (hrI (kwC t L x)))) (hp X dl mI dr)) : EW X m_Rd_kindByWord 0 (enL m_Rd_kindByWord.2.2.1 [.ref 51]) [] (hp X dl mI dr) Q := by
  show EW X m_Rd_kindByWord 0 [.ref 51] [] (hp X dl mI dr) Q
  refine g_aload_n d_Rd_kindByWord_0 rfl ?_
  refine P_ldcS (i := 3) (tx := "will") d_Rd_kindByWord_1 rfl (by decide) (by decide) ?_
  refine C_V1 d_Rd_kindByWord_3 k_Rd_44 rfl (Nat.le_of_ble_eq_true rfl) (by decide) (Nat.le_of_ble_eq_true rfl) ?_
  refine c_Rd_isWord (i := 3) hK (by decide) ?_
  refine B_eq d_Rd_kindByWord_6 11 (by decide) (fun c3 => ?_) (fun c3 => ?_)
  rotate_left
  · refine N_iconst d_Rd_kindByWord_9 0 rfl ?_
    refine P_iret d_Rd_kindByWord_10 rfl ?_
    exact R_i k (by unfold kwC; rw [if_pos c3]; rfl)
  refine g_aload_n d_Rd_kindByWord_11 rfl ?_
  refine P_ldcS (i := 4) (tx := "pay") d_Rd_kindByWord_12 rfl (by decide) (by decide) ?_
  refine C_V1 d_Rd_kindByWord_14 k_Rd_44 rfl (Nat.le_of_ble_eq_true rfl) (by decide) (Nat.le_of_ble_eq_true rfl) ?_
  refine c_Rd_isWord (i := 4) hK (by decide) ?_
  refine B_eq d_Rd_kindByWord_17 22 (by decide) (fun c4 => ?_) (fun c4 => ?_)
  rotate_left
  · refine N_iconst d_Rd_kindByWord_20 1 rfl ?_
    refine P_iret d_Rd_kindByWord_21 rfl ?_
    exact R_i k (by unfold kwC; rw [if_neg c3, if_pos c4]; rfl)
  refine g_aload_n d_Rd_kindByWord_22 rfl ?_
  refine P_ldcS (i := 5) (tx := "short") d_Rd_kindByWord_23 rfl (by decide) (by decide) ?_
  refine C_V1 d_Rd_kindByWord_25 k_Rd_44 rfl (Nat.le_of_ble_eq_true rfl) (by decide) (Nat.le_of_ble_eq_true rfl) ?_
  refine c_Rd_isWord (i := 5) hK (by decide) ?_
  refine B_eq d_Rd_kindByWord_28 33 (by decide) (fun c5 => ?_) (fun c5 => ?_)
  rotate_left
  · refine N_iconst d_Rd_kindByWord_31 2 rfl ?_
    refine P_iret d_Rd_kindByWord_32 rfl ?_
    exact R_i k (by unfold kwC; rw [if_neg c3, if_neg c4, if_pos c5]; rfl)
  refine g_aload_n d_Rd_kindByWord_33 rfl ?_
  refine P_ldcS (i := 6) (tx := "shun") d_Rd_kindByWord_34 rfl (by decide) (by decide) ?_
  refine C_V1 d_Rd_kindByWord_36 k_Rd_44 rfl (Nat.le_of_ble_eq_true rfl) (by decide) (Nat.le_of_ble_eq_true rfl) ?_
  refine c_Rd_isWord (i := 6) hK (by decide) ?_
  refine B_eq d_Rd_kindByWord_39 44 (by decide) (fun c6 => ?_) (fun c6 => ?_)
  rotate_left
  · refine N_iconst d_Rd_kindByWord_42 3 rfl ?_
    refine P_iret d_Rd_kindByWord_43 rfl ?_
    exact R_i k (by unfold kwC; rw [if_neg c3, if_neg c4, if_neg c5, if_pos c6]; rfl)
  refine g_aload_n d_Rd_kindByWord_44 rfl ?_
  refine P_ldcS (i := 7) (tx := "ever") d_Rd_kindByWord_45 rfl (by decide) (by decide) ?_
  refine C_V1 d_Rd_kindByWord_47 k_Rd_44 rfl (Nat.le_of_ble_eq_true rfl) (by decide) (Nat.le_of_ble_eq_true rfl) ?_
  refine c_Rd_isWord (i := 7) hK (by decide) ?_
  refine B_eq d_Rd_kindByWord_50 57 (by decide) (fun c7 => ?_) (fun c7 => ?_)
  rotate_left
  · refine N_iconst d_Rd_kindByWord_53 4 rfl ?_
    refine P_goto d_Rd_kindByWord_54 58 (by decide) ?_
    refine P_iret d_Rd_kindByWord_58 rfl ?_
    exact R_i k (by unfold kwC; rw [if_neg c3, if_neg c4, if_neg c5, if_neg c6, if_pos c7]; rfl)
  refine P_iconst d_Rd_kindByWord_57 (-1) rfl ?_
  refine P_iret d_Rd_kindByWord_58 rfl ?_
  exact R_i k (by unfold kwC; rw [if_neg c3, if_neg c4, if_neg c5, if_neg c6, if_neg c7]; rfl)
def lv (c : Int32) : Nat := (c.toInt - 97).toNat
theorem lv_eq {c : Int32} (h : smP c) : c = nI (97 + lv c) ∧ lv c ≤ 25 := by
  have h1 := Int32.le_iff_toInt_le.mp h.1
  have h2 := Int32.le_iff_toInt_le.mp h.2
  rw [nI_toInt (by decide)] at h1 h2
  have hd : lv c ≤ 25 := by unfold lv; omega
  refine ⟨Int32.toInt_inj.mp ?_, hd⟩
  rw [nI_toInt (by omega)]
  unfold lv
  omega
/-- needs told by letters: the rest of d letters from i on, what was told, the last one (0: none) -/
def ndD (t : Nat → Int32) (P : Nat) : Nat → Nat → Nat → Nat → Option Nat
  | 0, _, s, _ => some s
  | d + 1, i, s, l => if lv (t i) + 1 ≤ l ∨ P ≤ lv (t i) then none else ndD t P d (i + 1) (s ||| 2 ^ lv (t i)) (lv (t i) + 1)
def ndW (t : Nat → Int32) (L x P : Nat) : Option Nat := ndD t P (tkE t L x - tkB t L x) (tkB t L x) 0 0
def noI (r : Option Nat) : Int32 := match r with
  | none => -1
  | some s => nI s
theorem tk1 {t : Nat → Int32} {L x : Nat} (h : tkS t L x = 1) : tkE t L x = rn fS t L (tkB t L x) ∧ ∀ j, tkB t L x ≤ j → j < tkE t L x → smP (t j) := by
  unfold tkS at h
  split at h
  · cases h
  · rename_i h1
    split at h
    · rename_i h2
      have e : tkE t L x = rn fS t L (tkB t L x) := by rw [tkE, if_neg h1, if_pos h2]
      refine ⟨e, fun j g1 g2 => ?_⟩
      rw [e] at g2
      have := rn_all (f := fS) (t := t) (L - tkB t L x) (tkB t L x) j g1 g2
      unfold fS at this
      exact of_decide_eq_true this
    · split at h <;> cases h
theorem hr_le {p c : Nat} (hp : p < 2 ^ 30) (hc : c < 2 ^ 30) : nI p ≤ hrI c ↔ p + 1 ≤ c := by
  cases c with
  | zero =>
    have h1 : (hrI 0).toInt = -1 := rfl
    rw [Int32.le_iff_toInt_le, h1, nI_toInt (by omega)]
    omega
  | succ l =>
    show nI p ≤ nI l ↔ _
    rw [nI_leI (by omega) (by omega)]
    omega
theorem or_lt10 {s p : Nat} (hs : s < 2 ^ 10) (hp : p < 10) : s ||| 1 * 2 ^ p < 2 ^ 10 := or_lt hs hp
theorem lp_Rd_needsByWord {X : CX} {dl : List (Nat × Nat)} {mI : Nat → Nat → Int32} {dr : Nat → Nat → Nat} {Q : Option Value → AH → Prop} {t : Nat → Int32} {L x c P : Nat} (hK : TK t L x c mI) (hs : tkS t L x = 1) (hP : P ≤ 10) (k : Q (some (.int (noI (ndW t L x P)))) (hp X dl mI dr)) : ∀ (d : Nat) (i : Nat) (s : Nat) (l : Nat) (v5 : Value), (tkB t L x ≤ i ∧ i ≤ tkE t L x) → (s < 2 ^ 10) → (l ≤ 10) → (ndW t L x P = ndD t P (tkE t L x - i) i s l) → tkE t L x - i = d → EW X m_Rd_needsByWord 10 [.ref 51, .int (nI P), .int (nI s), .int (hrI l), .int (nI i), v5] [] (hp X dl mI dr) Q := by
  intro d
  induction d using Nat.strongRecOn with
  | _ d ih =>
    intro i s l v5 hi hss hll hn hd
    have hle := tk_le (t := t) hK.2.1
    have hL := hK.1.1
    refine g_iload d_Rd_needsByWord_10 rfl ?_
    refine g_aload_n d_Rd_needsByWord_12 rfl ?_
    refine H_getI d_Rd_needsByWord_13 f_Rd_22.g rfl rfl (by decide) ?_
    refine T_int (nI (tkE t L x)) hK.2.2.2.2.2.1 ?_
    refine N_icmp_ge d_Rd_needsByWord_16 61 (by decide) ⟨by omega, by omega⟩ (fun c1 => ?_) (fun c1 => ?_)
    · refine g_iload_n d_Rd_needsByWord_61 rfl ?_
      refine P_iret d_Rd_needsByWord_62 rfl ?_
      rw [show tkE t L x - i = 0 by omega] at hn
      rw [hn] at k
      exact k
    · have hsm := lv_eq ((tk1 hs).2 i hi.1 c1)
      rw [show tkE t L x - i = (tkE t L x - (i + 1)) + 1 by omega, ndD] at hn
      refine g_aload_n d_Rd_needsByWord_19 rfl ?_
      refine H_getR 52 d_Rd_needsByWord_20 f_Rd_11.g rfl rfl (by decide) rfl ?_
      refine g_iload d_Rd_needsByWord_23 rfl ?_
      refine H_ialdN d_Rd_needsByWord_25 rfl rfl (show i < 200 by omega) (by decide) ?_
      refine T_int (nI (97 + lv (t i))) ((hK.1.2.2 i (by omega)).trans hsm.1) ?_
      refine N_bipush d_Rd_needsByWord_26 97 rfl ?_
      refine N_isub d_Rd_needsByWord_28 (by omega) ?_
      refine T_int (nI (lv (t i))) (congrArg nI (by omega)) ?_
      refine S_istore_6_5 d_Rd_needsByWord_29 rfl rfl ?_
      refine g_iload d_Rd_needsByWord_31 rfl ?_
      refine g_iload_n d_Rd_needsByWord_33 rfl ?_
      refine P_icmp_le d_Rd_needsByWord_34 43 (by decide) (fun c2 => ?_) (fun c2 => ?_)
      · rw [hr_le (by omega) (by omega)] at c2
        rw [if_pos (Or.inl c2)] at hn
        refine P_iconst d_Rd_needsByWord_43 (-1) rfl ?_
        refine P_iret d_Rd_needsByWord_44 rfl ?_
        rw [hn] at k
        exact k
      · rw [hr_le (by omega) (by omega)] at c2
        refine g_iload d_Rd_needsByWord_37 rfl ?_
        refine g_iload_n d_Rd_needsByWord_39 rfl ?_
        refine N_icmp_lt d_Rd_needsByWord_40 45 (by decide) ⟨by omega, by omega⟩ (fun c3 => ?_) (fun c3 => ?_)
        · rw [if_neg (by omega)] at hn
          refine g_iload_n d_Rd_needsByWord_45 rfl ?_
          refine N_iconst d_Rd_needsByWord_46 1 rfl ?_
          refine g_iload d_Rd_needsByWord_47 rfl ?_
          refine N_ishl d_Rd_needsByWord_49 (by omega) (p2_lt (by omega)) ?_
          refine N_ior d_Rd_needsByWord_50 ?_
          refine S_istore_n_6_2 d_Rd_needsByWord_51 rfl rfl ?_
          refine g_iload d_Rd_needsByWord_52 rfl ?_
          refine S_istore_n_6_3 d_Rd_needsByWord_54 rfl rfl ?_
          refine N_iinc_6_4_1 d_Rd_needsByWord_55 rfl rfl ?_
          refine P_goto d_Rd_needsByWord_58 10 (by decide) ?_
          exact ih _ (by omega) (i + 1) (s ||| 1 * 2 ^ lv (t i)) (lv (t i) + 1) _ (by omega) (or_lt10 hss (by omega)) (by omega) (by rw [Nat.one_mul]; exact hn) rfl
        · rw [if_pos (Or.inr c3)] at hn
          refine P_iconst d_Rd_needsByWord_43 (-1) rfl ?_
          refine P_iret d_Rd_needsByWord_44 rfl ?_
          rw [hn] at k
          exact k

theorem c_Rd_needsByWord {X : CX} {dl : List (Nat × Nat)} {mI : Nat → Nat → Int32} {dr : Nat → Nat → Nat} {Q : Option Value → AH → Prop} {t : Nat → Int32} {L x c P : Nat} (hK : TK t L x c mI) (hs : tkS t L x = 1) (hP : P ≤ 10) (k : Q (some (.int (noI (ndW t L x P)))) (hp X dl mI dr)) : EW X m_Rd_needsByWord 0 (enL m_Rd_needsByWord.2.2.1 [.ref 51, .int (nI P)]) [] (hp X dl mI dr) Q := by
  show EW X m_Rd_needsByWord 0 [.ref 51, .int (nI P), jk, jk, jk, jk] [] (hp X dl mI dr) Q
  have hle := tk_le (t := t) hK.2.1
  refine N_iconst d_Rd_needsByWord_0 0 rfl ?_
  refine S_istore_n_6_2 d_Rd_needsByWord_1 rfl rfl ?_
  refine P_iconst d_Rd_needsByWord_2 (-1) rfl ?_
  refine S_istore_n_6_3 d_Rd_needsByWord_3 rfl rfl ?_
  refine g_aload_n d_Rd_needsByWord_4 rfl ?_
  refine H_getI d_Rd_needsByWord_5 f_Rd_32.g rfl rfl (by decide) ?_
  refine T_int (nI (tkB t L x)) hK.2.2.2.2.1 ?_
  refine S_istore_6_4 d_Rd_needsByWord_8 rfl rfl ?_
  exact lp_Rd_needsByWord hK hs hP k _ (tkB t L x) 0 0 _ ⟨Nat.le_refl _, hle.2.1⟩ (by decide) (by decide) rfl rfl

