theorem c_Rd_readClause {X : CX} {dl : List (Nat × Nat)} {mI : Nat → Nat → Int32} {dr : Nat → Nat → Nat} {Q : Option Value → AH → Prop} {t : Nat → Int32} {L x c : Nat} {T : TD} (hw : TW T) (hK : TK t L x c mI) (hT : TR 42 T mI) (k : ∀ mI', TK t L (rdCl t L T x).2.2 c mI' → ((rdCl t L T x).1 = true → TR 42 (rdCl t L T x).2.1 mI') → Fx 42 51 mI mI' → Q (some (.int (bI ((rdCl t L T x).1 = true)))) (hp X dl mI' dr)) : EW X m_Rd_readClause 0 (enL m_Rd_readClause.2.2.1 [.ref 51, .ref 42]) [] (hp X dl mI dr) Q := by
  show EW X m_Rd_readClause 0 [.ref 51, .ref 42, jk] [] (hp X dl mI dr) Q
  have hle := tk_le (t := t) hK.2.1
  have hk5 : kwC t L x ≤ 5 := by
    unfold kwC
    repeat' split
    all_goals omega
  refine g_aload_n d_Rd_readClause_0 rfl ?_
  refine P_ldcS (i := 0) (tx := "parish") d_Rd_readClause_1 rfl (by decide) (by decide) ?_
  refine C_V1 d_Rd_readClause_3 k_Rd_44 rfl (Nat.le_of_ble_eq_true rfl) (by decide) (Nat.le_of_ble_eq_true rfl) ?_
  refine (c_Rd_isWord (i := 0) hK (by decide)) ?_
  refine B_eq d_Rd_readClause_6 19 (by decide) (fun c1 => ?_) (fun c1 => ?_)
  · refine g_aload_n d_Rd_readClause_19 rfl ?_
    refine P_ldcS (i := 1) (tx := "man") d_Rd_readClause_20 rfl (by decide) (by decide) ?_
    refine C_V1 d_Rd_readClause_22 k_Rd_44 rfl (Nat.le_of_ble_eq_true rfl) (by decide) (Nat.le_of_ble_eq_true rfl) ?_
    refine (c_Rd_isWord (i := 1) hK (by decide)) ?_
    refine B_eq d_Rd_readClause_25 34 (by decide) (fun c2 => ?_) (fun c2 => ?_)
    · refine g_aload_n d_Rd_readClause_34 rfl ?_
      refine P_ldcS (i := 2) (tx := "strife") d_Rd_readClause_35 rfl (by decide) (by decide) ?_
      refine C_V1 d_Rd_readClause_37 k_Rd_44 rfl (Nat.le_of_ble_eq_true rfl) (by decide) (Nat.le_of_ble_eq_true rfl) ?_
      refine (c_Rd_isWord (i := 2) hK (by decide)) ?_
      refine B_eq d_Rd_readClause_40 49 (by decide) (fun c3 => ?_) (fun c3 => ?_)
      · refine g_aload_n d_Rd_readClause_49 rfl ?_
        refine C_V0 d_Rd_readClause_50 k_Rd_63 rfl (Nat.le_of_ble_eq_true rfl) (by decide) (Nat.le_of_ble_eq_true rfl) ?_
        refine (c_Rd_kindByWord hK) ?_
        refine S_istore_n_3_2 d_Rd_readClause_53 rfl rfl ?_
        rcases hkw : kwC t L x with _ | kd
        · have e : rdCl t L T x = (false, T, x) := by unfold rdCl; rw [if_neg c1, if_neg c2, if_neg c3, hkw]
          refine g_iload_n d_Rd_readClause_54 rfl ?_
          refine P_iconst d_Rd_readClause_55 (-1) rfl ?_
          refine P_icmp_eq d_Rd_readClause_56 72 (by decide) (fun dd1 => ?_) (fun dd1 => ?_)
          · refine N_iconst d_Rd_readClause_72 0 rfl ?_
            refine P_zret d_Rd_readClause_73 rfl (by decide) ?_
            rw [e] at k
            exact R_i (k mI hK (fun z => absurd z Bool.false_ne_true) Fx.rf) (bI_f' Bool.false_ne_true)
          · exact absurd rfl dd1
        · have e : rdCl t L T x = rdPro t L kd T x := by unfold rdCl; rw [if_neg c1, if_neg c2, if_neg c3, hkw]
          rw [hkw] at hk5
          refine g_iload_n d_Rd_readClause_54 rfl ?_
          refine P_iconst d_Rd_readClause_55 (-1) rfl ?_
          refine P_icmp_eq d_Rd_readClause_56 72 (by decide) (fun dd1 => ?_) (fun dd1 => ?_)
          · exact absurd dd1 (nI_nm1 (by omega))
          · refine g_aload_n d_Rd_readClause_59 rfl ?_
            refine g_aload_n d_Rd_readClause_60 rfl ?_
            refine g_iload_n d_Rd_readClause_61 rfl ?_
            refine C_V2 d_Rd_readClause_62 k_Rd_67 rfl (Nat.le_of_ble_eq_true rfl) (by decide) (Nat.le_of_ble_eq_true rfl) ?_
            refine c_Rd_readPromise hw hK hT (by omega) (fun mI1 hK1 hT1 hF1 => ?_)
            refine B_eq d_Rd_readClause_65 72 (by decide) (fun dd2 => ?_) (fun dd2 => ?_)
            · refine N_iconst d_Rd_readClause_72 0 rfl ?_
              refine P_zret d_Rd_readClause_73 rfl (by decide) ?_
              rw [e] at k
              exact R_i (k mI1 hK1 hT1 hF1) (bI_f' dd2)
            · refine N_iconst d_Rd_readClause_68 1 rfl ?_
              refine P_goto d_Rd_readClause_69 73 (by decide) ?_
              refine P_zret d_Rd_readClause_73 rfl (by decide) ?_
              rw [e] at k
              exact R_i (k mI1 hK1 hT1 hF1) (bI_t' dd2)
      · refine g_aload_n d_Rd_readClause_43 rfl ?_
        refine g_aload_n d_Rd_readClause_44 rfl ?_
        refine C_V1 d_Rd_readClause_45 k_Rd_60 rfl (Nat.le_of_ble_eq_true rfl) (by decide) (Nat.le_of_ble_eq_true rfl) ?_
        refine c_Rd_readStrife hw hK hT (fun mI1 hK1 hT1 hF1 => ?_)
        refine P_zret d_Rd_readClause_48 rfl (bI_01 _) ?_
        have e : rdCl t L T x = rdStr t L T x := by unfold rdCl; rw [if_neg c1, if_neg c2, if_pos c3]
        rw [e] at k
        exact k mI1 hK1 hT1 hF1
    · refine g_aload_n d_Rd_readClause_28 rfl ?_
      refine g_aload_n d_Rd_readClause_29 rfl ?_
      refine C_V1 d_Rd_readClause_30 k_Rd_55 rfl (Nat.le_of_ble_eq_true rfl) (by decide) (Nat.le_of_ble_eq_true rfl) ?_
      refine c_Rd_readPerson hw hK hT (fun mI1 hK1 hT1 hF1 => ?_)
      refine P_zret d_Rd_readClause_33 rfl (bI_01 _) ?_
      have e : rdCl t L T x = rdMan t L T x := by unfold rdCl; rw [if_neg c1, if_pos c2]
      rw [e] at k
      exact k mI1 hK1 hT1 hF1
  · refine g_aload_n d_Rd_readClause_9 rfl ?_
    refine C_V0 d_Rd_readClause_10 k_Rd_25 rfl (Nat.le_of_ble_eq_true rfl) (by decide) (Nat.le_of_ble_eq_true rfl) ?_
    refine c_Rd_toNextToken hK.1 hle.2.2 hK.2.2.1 hK.2.2.2.2.2.1 (fun mI1 hK1 hF1 => ?_)
    have hT1 := hT.x51 hF1
    refine g_aload_n d_Rd_readClause_13 rfl ?_
    refine C_V0 d_Rd_readClause_14 k_Rd_48 rfl (Nat.le_of_ble_eq_true rfl) (by decide) (Nat.le_of_ble_eq_true rfl) ?_
    refine c_Tl_clear hT1 (fun mI2 hT2 hF2 => ?_)
    refine N_iconst d_Rd_readClause_17 1 rfl ?_
    refine P_zret d_Rd_readClause_18 rfl (by decide) ?_
    have e : rdCl t L T x = (true, tClr T, tkE t L x) := by unfold rdCl; rw [if_pos c1]
    rw [e] at k
    exact R_i (k mI2 (hK1.x42 hF2) (fun _ => hT2) (Fx.tr (hF1.mo (by omega) (by omega)) (hF2.mo (by omega) (by omega)))) (bI_t' rfl)

theorem TK.c' {t : Nat → Int32} {L x c : Nat} {mI : Nat → Nat → Int32} (h : TK t L x c mI) (c' : Nat) : TK t L x c' (sI mI 51 2 (nI c')) := by
  obtain ⟨h1, h2, h3, h4, h5, h6, h7⟩ := h
  exact ⟨⟨h1.1, by rw [sI_n (by omega)]; exact h1.2.1, fun i hi => by rw [sI_r (by omega)]; exact h1.2.2 i hi⟩, h2, sI_s _ _ _ _, by rw [sI_n (by omega)]; exact h4, by rw [sI_n (by omega)]; exact h5, by rw [sI_n (by omega)]; exact h6, h7⟩
theorem lp_Rd_readInto {X : CX} {dl : List (Nat × Nat)} {mI : Nat → Nat → Int32} {dr : Nat → Nat → Nat} {Q : Option Value → AH → Prop} {t : Nat → Int32} {L : Nat} {rr : Option Nat × TD × Nat} (k : ∀ mI', XR t L mI' → mI' 51 2 = nI rr.2.2 → (rr.1 = none → TR 42 rr.2.1 mI' ∧ TW rr.2.1) → Fx 42 51 mI mI' → Q (some (.int (noI rr.1))) (hp X dl mI' dr)) : ∀ (d : Nat) (i : Nat) (T2 : TD) (x : Nat) (mI2 : Nat → Nat → Int32), (i ≤ 24) → (TW T2) → (TK t L x i mI2) → (TR 42 T2 mI2) → (Fx 42 51 mI mI2) → (rr = rdN t L (24 - i) i T2 x) → 24 - i = d → EW X m_Rd_readInto 16 [.ref 51, .ref 42, .int (nI i)] [] (hp X dl mI2 dr) Q := by
  intro d
  induction d using Nat.strongRecOn with
  | _ d ih =>
    intro i T2 x mI2 hi hw hK hT hF he hd
    refine g_iload_n d_Rd_readInto_16 rfl ?_
    refine N_bipush d_Rd_readInto_17 24 rfl ?_
    refine N_icmp_ge d_Rd_readInto_19 87 (by decide) ⟨by omega, by omega⟩ (fun c1 => ?_) (fun c1 => ?_)
    · refine g_aload_n d_Rd_readInto_87 rfl ?_
      refine H_getI d_Rd_readInto_88 f_Rd_32.g rfl rfl (by decide) ?_
      refine T_int (nI (tkB t L x)) hK.2.2.2.2.1 ?_
      refine P_iret d_Rd_readInto_91 rfl ?_
      rw [show 24 - i = 0 by omega, rdN] at he
      rw [he] at k
      exact k _ hK.1 (by rw [hK.2.2.1]) (fun z => nomatch z) hF
    · refine g_aload_n d_Rd_readInto_22 rfl ?_
      refine g_aload_n d_Rd_readInto_23 rfl ?_
      refine C_V1 d_Rd_readInto_24 k_Rd_28 rfl (Nat.le_of_ble_eq_true rfl) (by decide) (Nat.le_of_ble_eq_true rfl) ?_
      refine c_Rd_readClause hw hK hT (fun mI3 hK3 hT3 hF3 => ?_)
      have hF4 := hF.tr hF3
      have hs3 := tkS_le t L (rdCl t L T2 x).2.2
      obtain ⟨n, hn⟩ : ∃ n, 24 - i = n + 1 := ⟨23 - i, by omega⟩
      rw [hn, rdN] at he
      refine B_ne d_Rd_readInto_27 35 (by decide) (fun c2 => ?_) (fun c2 => ?_)
      · refine g_aload_n d_Rd_readInto_35 rfl ?_
        refine P_dupA d_Rd_readInto_36 ?_
        refine H_getI d_Rd_readInto_37 f_Rd_19.g rfl rfl (by decide) ?_
        refine T_int (nI (i)) hK3.2.2.1 ?_
        refine N_iconst d_Rd_readInto_40 1 rfl ?_
        refine N_iadd d_Rd_readInto_41 ?_
        refine H_putI d_Rd_readInto_42 f_Rd_19 rfl rfl (by decide) ?_
        have hK5 := hK3.c' (i + 1)
        have hT5 : TR 42 (rdCl t L T2 x).2.1 (sI mI3 51 2 (nI (i + 1))) := (hT3 c2).to (fun r h1 h2 => by rw [sI_r (by omega)])
        have hF5 : Fx 42 51 mI (sI mI3 51 2 (nI (i + 1))) := Fx_sI hF4 (by omega)
        have hw5 := TW_cl hw c2
        rw [if_neg (by rw [c2]; exact fun z => nomatch z)] at he
        refine g_aload_n d_Rd_readInto_45 rfl ?_
        refine H_getI d_Rd_readInto_46 f_Rd_35.g rfl rfl (by decide) ?_
        refine T_int (nI (tkS t L (rdCl t L T2 x).2.2)) hK5.2.2.2.1 ?_
        refine N_if_ne d_Rd_readInto_49 54 (by decide) (by omega) (fun c3 => ?_) (fun c3 => ?_)
        · refine g_aload_n d_Rd_readInto_54 rfl ?_
          refine N_bipush d_Rd_readInto_55 59 rfl ?_
          refine C_V1 d_Rd_readInto_57 k_Rd_38 rfl (Nat.le_of_ble_eq_true rfl) (by decide) (Nat.le_of_ble_eq_true rfl) ?_
          refine (c_Rd_isSign (g := 59) hK5) ?_
          rw [if_neg c3] at he
          refine B_eq d_Rd_readInto_60 72 (by decide) (fun c4 => ?_) (fun c4 => ?_)
          · refine g_aload_n d_Rd_readInto_72 rfl ?_
            refine H_getI d_Rd_readInto_73 f_Rd_32.g rfl rfl (by decide) ?_
            refine T_int (nI (tkB t L (rdCl t L T2 x).2.2)) hK5.2.2.2.2.1 ?_
            refine P_iret d_Rd_readInto_76 rfl ?_
            rw [if_pos (by first | exact Or.inl c4 | exact Or.inr c5)] at he
            rw [he] at k
            exact k _ hK5.1 hK5.2.2.1 (fun z => nomatch z) hF5
          · refine g_aload_n d_Rd_readInto_63 rfl ?_
            refine H_getI d_Rd_readInto_64 f_Rd_19.g rfl rfl (by decide) ?_
            refine T_int (nI (i + 1)) hK5.2.2.1 ?_
            refine N_bipush d_Rd_readInto_67 24 rfl ?_
            refine N_icmp_ne d_Rd_readInto_69 77 (by decide) ⟨by omega, by omega⟩ (fun c5 => ?_) (fun c5 => ?_)
            · refine g_aload_n d_Rd_readInto_77 rfl ?_
              refine C_V0 d_Rd_readInto_78 k_Rd_25 rfl (Nat.le_of_ble_eq_true rfl) (by decide) (Nat.le_of_ble_eq_true rfl) ?_
              refine c_Rd_toNextToken hK5.1 (tk_le hK5.2.1).2.2 hK5.2.2.1 hK5.2.2.2.2.2.1 (fun mI6 hK6 hF6 => ?_)
              refine N_iinc_3_2_1 d_Rd_readInto_81 rfl rfl ?_
              refine P_goto d_Rd_readInto_84 16 (by decide) ?_
              rw [if_neg (fun z => z.elim (fun y => y c4) c5)] at he
              exact ih _ (by omega) (i + 1) _ _ _ (by omega) hw5 hK6 (hT5.x51 hF6) (hF5.tr (hF6.mo (by omega) (by omega))) (by rw [he, show 24 - (i + 1) = n by omega]) rfl
            · refine g_aload_n d_Rd_readInto_72 rfl ?_
              refine H_getI d_Rd_readInto_73 f_Rd_32.g rfl rfl (by decide) ?_
              refine T_int (nI (tkB t L (rdCl t L T2 x).2.2)) hK5.2.2.2.2.1 ?_
              refine P_iret d_Rd_readInto_76 rfl ?_
              rw [if_pos (by first | exact Or.inl c4 | exact Or.inr c5)] at he
              rw [he] at k
              exact k _ hK5.1 hK5.2.2.1 (fun z => nomatch z) hF5
        · refine P_iconst d_Rd_readInto_52 (-1) rfl ?_
          refine P_iret d_Rd_readInto_53 rfl ?_
          rw [if_pos c3] at he
          rw [he] at k
          exact k _ hK5.1 hK5.2.2.1 (fun _ => ⟨hT5, hw5⟩) hF5
      · refine g_aload_n d_Rd_readInto_30 rfl ?_
        refine H_getI d_Rd_readInto_31 f_Rd_32.g rfl rfl (by decide) ?_
        refine T_int (nI (tkB t L (rdCl t L T2 x).2.2)) hK3.2.2.2.2.1 ?_
        refine P_iret d_Rd_readInto_34 rfl ?_
        have ef : (rdCl t L T2 x).1 = false := by cases hq : (rdCl t L T2 x).1 <;> first | rfl | exact absurd hq c2
        rw [if_pos ef] at he
        rw [he] at k
        exact k mI3 hK3.1 hK3.2.2.1 (fun z => nomatch z) hF4

theorem c_Rd_readInto {X : CX} {dl : List (Nat × Nat)} {mI : Nat → Nat → Int32} {dr : Nat → Nat → Nat} {Q : Option Value → AH → Prop} {t : Nat → Int32} {L : Nat} {T : TD} (hw : TW T) (hX : XR t L mI) (hT : TR 42 T mI) (k : ∀ mI', XR t L mI' → mI' 51 2 = nI (rdN t L 24 0 T 0).2.2 → ((rdN t L 24 0 T 0).1 = none → TR 42 (rdN t L 24 0 T 0).2.1 mI' ∧ TW (rdN t L 24 0 T 0).2.1) → Fx 42 51 mI mI' → Q (some (.int (noI (rdN t L 24 0 T 0).1))) (hp X dl mI' dr)) : EW X m_Rd_readInto 0 (enL m_Rd_readInto.2.2.1 [.ref 51, .ref 42]) [] (hp X dl mI dr) Q := by
  show EW X m_Rd_readInto 0 [.ref 51, .ref 42, jk] [] (hp X dl mI dr) Q
  refine g_aload_n d_Rd_readInto_0 rfl ?_
  refine N_iconst d_Rd_readInto_1 0 rfl ?_
  refine H_putI d_Rd_readInto_2 f_Rd_19 rfl rfl (by decide) ?_
  refine g_aload_n d_Rd_readInto_5 rfl ?_
  refine N_iconst d_Rd_readInto_6 0 rfl ?_
  refine H_putI d_Rd_readInto_7 f_Rd_22 rfl rfl (by decide) ?_
  refine g_aload_n d_Rd_readInto_10 rfl ?_
  refine C_V0 d_Rd_readInto_11 k_Rd_25 rfl (Nat.le_of_ble_eq_true rfl) (by decide) (Nat.le_of_ble_eq_true rfl) ?_
  refine c_Rd_toNextToken (t := t) (x := 0) (c := 0) ⟨hX.1, by rw [sI_n (by omega), sI_n (by omega)]; exact hX.2.1, fun i hi => by rw [sI_r (by omega), sI_r (by omega)]; exact hX.2.2 i hi⟩ (Nat.zero_le _) (by rw [sI_n (by omega)]; exact sI_s _ _ _ _) (sI_s _ _ _ _) (fun mI1 hK1 hF1 => ?_)
  refine N_iconst d_Rd_readInto_14 0 rfl ?_
  refine S_istore_n_3_2 d_Rd_readInto_15 rfl rfl ?_
  exact lp_Rd_readInto (t := t) k _ 0 T 0 mI1 (by omega) hw hK1 ((hT.to (fun r h1 h2 => by rw [sI_r (by omega), sI_r (by omega)])).x51 hF1) (Fx.tr (Fx_sI (Fx_sI Fx.rf (by omega)) (by omega)) (hF1.mo (by omega) (by omega))) rfl rfl

theorem c_Rd_addLetterF {X : CX} {dl : List (Nat × Nat)} {mI : Nat → Nat → Int32} {dr : Nat → Nat → Nat} {Q : Option Value → AH → Prop} {t : Nat → Int32} {L : Nat} {x : Int32} (hX : XR t L mI) (hL : L = 200) (k : Q (some (.int (nI 0))) (hp X dl mI dr)) : EW X m_Rd_addLetter 0 (enL m_Rd_addLetter.2.2.1 [.ref 51, .int x]) [] (hp X dl mI dr) Q := by
  show EW X m_Rd_addLetter 0 [.ref 51, .int x] [] (hp X dl mI dr) Q
  refine g_aload_n d_Rd_addLetter_0 rfl ?_
  refine H_getI d_Rd_addLetter_1 f_Rd_15.g rfl rfl (by decide) ?_
  refine T_int (nI (L)) hX.2.1 ?_
  refine N_sipush d_Rd_addLetter_4 200 rfl ?_
  refine N_icmp_lt d_Rd_addLetter_7 12 (by decide) ⟨by omega, by omega⟩ (fun c1 => ?_) (fun c1 => ?_)
  · omega
  · refine N_iconst d_Rd_addLetter_10 0 rfl ?_
    refine P_zret d_Rd_addLetter_11 rfl (by decide) ?_
    exact k

theorem c_Rd_addLetter {X : CX} {dl : List (Nat × Nat)} {mI : Nat → Nat → Int32} {dr : Nat → Nat → Nat} {Q : Option Value → AH → Prop} {t : Nat → Int32} {L : Nat} {x : Int32} (hX : XR t L mI) (hL : L < 200) (k : ∀ mI', XR (fun i => if i = L then x else t i) (L + 1) mI' → Fx 51 52 mI mI' → Q (some (.int (nI 1))) (hp X dl mI' dr)) : EW X m_Rd_addLetter 0 (enL m_Rd_addLetter.2.2.1 [.ref 51, .int x]) [] (hp X dl mI dr) Q := by
  show EW X m_Rd_addLetter 0 [.ref 51, .int x] [] (hp X dl mI dr) Q
  refine g_aload_n d_Rd_addLetter_0 rfl ?_
  refine H_getI d_Rd_addLetter_1 f_Rd_15.g rfl rfl (by decide) ?_
  refine T_int (nI (L)) hX.2.1 ?_
  refine N_sipush d_Rd_addLetter_4 200 rfl ?_
  refine N_icmp_lt d_Rd_addLetter_7 12 (by decide) ⟨by omega, by omega⟩ (fun c1 => ?_) (fun c1 => ?_)
  · refine g_aload_n d_Rd_addLetter_12 rfl ?_
    refine H_getR 52 d_Rd_addLetter_13 f_Rd_11.g rfl rfl (by decide) rfl ?_
    refine g_aload_n d_Rd_addLetter_16 rfl ?_
    refine H_getI d_Rd_addLetter_17 f_Rd_15.g rfl rfl (by decide) ?_
    refine T_int (nI (L)) hX.2.1 ?_
    refine g_iload_n d_Rd_addLetter_20 rfl ?_
    refine H_iastN d_Rd_addLetter_21 rfl rfl (by omega) (by decide) ?_
    refine g_aload_n d_Rd_addLetter_22 rfl ?_
    refine P_dupA d_Rd_addLetter_23 ?_
    refine H_getI d_Rd_addLetter_24 f_Rd_15.g rfl rfl (by decide) ?_
    refine T_int (nI (L)) (by rw [sI_r (by omega)]; exact hX.2.1) ?_
    refine N_iconst d_Rd_addLetter_27 1 rfl ?_
    refine N_iadd d_Rd_addLetter_28 ?_
    refine H_putI d_Rd_addLetter_29 f_Rd_15 rfl rfl (by decide) ?_
    refine N_iconst d_Rd_addLetter_32 1 rfl ?_
    refine P_zret d_Rd_addLetter_33 rfl (by decide) ?_
    refine k _ ⟨hL, sI_s _ _ _ _, fun i hi => ?_⟩ (Fx_sI (Fx_sI Fx.rf (by omega)) (by omega))
    show _ = if i = L then x else t i
    rw [sI_r (by omega)]
    split
    · rename_i e
      rw [e]; exact sI_s _ _ _ _
    · rename_i e
      rw [sI_n (fun z => e z.2)]; exact hX.2.2 i (by omega)
  · omega

