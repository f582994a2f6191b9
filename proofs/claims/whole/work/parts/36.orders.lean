theorem lp_Fo_next1 {X : CX} {dl : List (Nat × Nat)} {mI : Nat → Nat → Int32} {dr : Nat → Nat → Nat} {Q : Option Value → AH → Prop} {l : List Nat} (hl : l.length ≤ 5) (hb : ∀ x ∈ l, x < 100) (hA : AL 113 l mI) (k : EW X m_Fo_toNextOrder 34 [.ref 111, .int (hrI (npR l (l.length - 1))), jk, jk, jk] [] (hp X dl mI dr) Q) : ∀ (c : Nat), c ≤ l.length - 1 → npR l (l.length - 1) = npR l c → EW X m_Fo_toNextOrder 7 [.ref 111, .int (hrI c), jk, jk, jk] [] (hp X dl mI dr) Q := by
  intro c
  induction c with
  | zero =>
    intro hc he
    refine g_iload_n d_Fo_toNextOrder_7 rfl ?_
    refine P_if_lt d_Fo_toNextOrder_8 34 (by decide) (fun _ => ?_) (fun z => absurd ((hrI_neg (by decide)).mpr rfl) z)
    rw [he] at k
    exact k
  | succ i ih =>
    intro hc he
    rw [npR] at he
    show EW X m_Fo_toNextOrder 7 [.ref 111, .int (nI i), jk, jk, jk] [] (hp X dl mI dr) Q
    have b1 := getD_lt hb (show i < l.length by omega)
    have b2 := getD_lt hb (show i + 1 < l.length by omega)
    refine g_iload_n d_Fo_toNextOrder_7 rfl ?_
    refine N_if_lt d_Fo_toNextOrder_8 34 (by decide) (by omega) ?_
    refine g_aload_n d_Fo_toNextOrder_11 rfl ?_
    refine H_getR 113 d_Fo_toNextOrder_12 f_Fo_15.g rfl rfl (by decide) rfl ?_
    refine g_iload_n d_Fo_toNextOrder_15 rfl ?_
    refine H_ialdN d_Fo_toNextOrder_16 rfl rfl (by omega) (by decide) ?_
    refine T_int (nI (l.getD i 0)) (hA i (by omega)) ?_
    refine g_aload_n d_Fo_toNextOrder_17 rfl ?_
    refine H_getR 113 d_Fo_toNextOrder_18 f_Fo_15.g rfl rfl (by decide) rfl ?_
    refine g_iload_n d_Fo_toNextOrder_21 rfl ?_
    refine N_iconst d_Fo_toNextOrder_22 1 rfl ?_
    refine N_iadd d_Fo_toNextOrder_23 ?_
    refine H_ialdN d_Fo_toNextOrder_24 rfl rfl (by omega) (by decide) ?_
    refine T_int (nI (l.getD (i + 1) 0)) (hA (i + 1) (by omega)) ?_
    refine N_icmp_le d_Fo_toNextOrder_25 34 (by decide) ⟨by omega, by omega⟩ (fun c2 => ?_) (fun c2 => ?_)
    · rw [if_neg (by omega)] at he
      rw [he] at k
      exact k
    · rw [if_pos (by omega)] at he
      refine S_iinc_5_1 (-1) d_Fo_toNextOrder_28 rfl rfl rfl ?_
      refine P_goto d_Fo_toNextOrder_31 7 (by decide) ?_
      have e : nI i + -1 = hrI i := hrI_m1 (c := i) (by omega)
      rw [e]
      exact ih (by omega) he
theorem lp_Fo_next2 {X : CX} {dl : List (Nat × Nat)} {mI : Nat → Nat → Int32} {dr : Nat → Nat → Nat} {Q : Option Value → AH → Prop} {l : List Nat} {r : Nat} (hl : l.length ≤ 5) (hb : ∀ x ∈ l, x < 100) (hA : AL 113 l mI) (k : EW X m_Fo_toNextOrder 75 [.ref 111, .int (nI r), .int (nI (npL l r (l.length - 1))), jk, jk] [] (hp X dl mI dr) Q) : ∀ (j : Nat), r + 1 ≤ j → j ≤ l.length - 1 → npL l r (l.length - 1) = npL l r j → EW X m_Fo_toNextOrder 47 [.ref 111, .int (nI r), .int (nI j), jk, jk] [] (hp X dl mI dr) Q := by
  intro j
  induction j with
  | zero => intro h1; omega
  | succ j ih =>
    intro hr hj he
    rw [npL] at he
    have b1 := getD_lt hb (show r < l.length by omega)
    have b2 := getD_lt hb (show j + 1 < l.length by omega)
    refine g_iload_n d_Fo_toNextOrder_47 rfl ?_
    refine g_iload_n d_Fo_toNextOrder_48 rfl ?_
    refine N_iconst d_Fo_toNextOrder_49 1 rfl ?_
    refine N_iadd d_Fo_toNextOrder_50 ?_
    refine N_icmp_le d_Fo_toNextOrder_51 75 (by decide) ⟨by omega, by omega⟩ (fun c1 => ?_) (fun c1 => ?_)
    · rw [if_neg (by omega)] at he
      rw [he] at k
      exact k
    · refine g_aload_n d_Fo_toNextOrder_54 rfl ?_
      refine H_getR 113 d_Fo_toNextOrder_55 f_Fo_15.g rfl rfl (by decide) rfl ?_
      refine g_iload_n d_Fo_toNextOrder_58 rfl ?_
      refine H_ialdN d_Fo_toNextOrder_59 rfl rfl (by omega) (by decide) ?_
      refine T_int (nI (l.getD (j + 1) 0)) (hA (j + 1) (by omega)) ?_
      refine g_aload_n d_Fo_toNextOrder_60 rfl ?_
      refine H_getR 113 d_Fo_toNextOrder_61 f_Fo_15.g rfl rfl (by decide) rfl ?_
      refine g_iload_n d_Fo_toNextOrder_64 rfl ?_
      refine H_ialdN d_Fo_toNextOrder_65 rfl rfl (by omega) (by decide) ?_
      refine T_int (nI (l.getD r 0)) (hA r (by omega)) ?_
      refine N_icmp_ge d_Fo_toNextOrder_66 75 (by decide) ⟨by omega, by omega⟩ (fun c2 => ?_) (fun c2 => ?_)
      · rw [if_neg (by omega)] at he
        rw [he] at k
        exact k
      · refine N_iinc_5_2_m d_Fo_toNextOrder_69 rfl rfl ?_
        refine P_goto d_Fo_toNextOrder_72 47 (by decide) ?_
        rw [if_pos ⟨by omega, by omega⟩] at he
        exact ih (by omega) (by omega) he
theorem c_Fo_toNextOrder {X : CX} {dl : List (Nat × Nat)} {mI : Nat → Nat → Int32} {dr : Nat → Nat → Nat} {Q : Option Value → AH → Prop} {l : List Nat} (hl : l.length ≤ 5) (hb : ∀ x ∈ l, x < 100) (hA : AL 113 l mI) (h5 : mI 111 5 = nI l.length) (k1 : nxO l = none → Q (some (.int (nI 0))) (hp X dl mI dr)) (k2 : ∀ l' mI', nxO l = some l' → AL 113 l' mI' → Fx 113 113 mI mI' → Q (some (.int (nI 1))) (hp X dl mI' dr)) : EW X m_Fo_toNextOrder 0 (enL m_Fo_toNextOrder.2.2.1 [.ref 111]) [] (hp X dl mI dr) Q := by
  show EW X m_Fo_toNextOrder 0 [.ref 111, jk, jk, jk, jk] [] (hp X dl mI dr) Q
  have hR := npR_le l (l.length - 1)
  refine g_aload_n d_Fo_toNextOrder_0 rfl ?_
  refine H_getI d_Fo_toNextOrder_1 f_Fo_56.g rfl rfl (by decide) ?_
  refine T_int (nI (l.length)) h5 ?_
  refine N_iconst d_Fo_toNextOrder_4 2 rfl ?_
  refine P_isub d_Fo_toNextOrder_5 ?_
  refine S_istore_n_5_1 d_Fo_toNextOrder_6 rfl rfl ?_
  rcases nI_sub2 hl with h2 | h2
  · rw [h2]
    refine lp_Fo_next1 hl hb hA ?_ _ (Nat.le_refl _) rfl
    refine g_iload_n d_Fo_toNextOrder_34 rfl ?_
    rcases hr : npR l (l.length - 1) with _ | r
    · refine P_if_ge d_Fo_toNextOrder_35 40 (by decide) (fun z => absurd z (by decide)) (fun _ => ?_)
      refine N_iconst d_Fo_toNextOrder_38 0 rfl ?_
      refine P_zret d_Fo_toNextOrder_39 rfl (by decide) ?_
      exact k1 (by unfold nxO; rw [hr])
    · rw [hr] at hR
      have hnx : nxO l = some (rv2 l.length (sw2 l r (npL l r (l.length - 1))) (r + 1) (l.length - 1)) := by unfold nxO; rw [hr]
      show EW X m_Fo_toNextOrder 35 [.ref 111, .int (nI r), jk, jk, jk] [.int (nI r)] (hp X dl mI dr) Q
      refine N_if_ge d_Fo_toNextOrder_35 40 (by decide) (by omega) ?_
      refine g_aload_n d_Fo_toNextOrder_40 rfl ?_
      refine H_getI d_Fo_toNextOrder_41 f_Fo_56.g rfl rfl (by decide) ?_
      refine T_int (nI (l.length)) h5 ?_
      refine N_iconst d_Fo_toNextOrder_44 1 rfl ?_
      refine N_isub d_Fo_toNextOrder_45 (by omega) ?_
      refine S_istore_n_5_2 d_Fo_toNextOrder_46 rfl rfl ?_
      refine lp_Fo_next2 hl hb hA ?_ _ (by omega) (Nat.le_refl _) rfl
      refine g_aload_n d_Fo_toNextOrder_75 rfl ?_
      refine g_iload_n d_Fo_toNextOrder_76 rfl ?_
      refine g_iload_n d_Fo_toNextOrder_77 rfl ?_
      refine C_V2 d_Fo_toNextOrder_78 k_Fo_96 rfl (Nat.le_of_ble_eq_true rfl) (by decide) (Nat.le_of_ble_eq_true rfl) ?_
      have hL1 := npL_le l r (l.length - 1)
      refine c_Fo_swapTried hl hA (by omega) (by omega) (fun mI3 hA3 hF3 => ?_)
      refine g_iload_n d_Fo_toNextOrder_81 rfl ?_
      refine N_iconst d_Fo_toNextOrder_82 1 rfl ?_
      refine N_iadd d_Fo_toNextOrder_83 ?_
      refine S_istore_n_5_3 d_Fo_toNextOrder_84 rfl rfl ?_
      refine g_aload_n d_Fo_toNextOrder_85 rfl ?_
      refine H_getI d_Fo_toNextOrder_86 f_Fo_56.g rfl rfl (by decide) ?_
      refine T_int (nI (l.length)) ((congrFun (hF3 111 (by omega)) 5).trans h5) ?_
      refine N_iconst d_Fo_toNextOrder_89 1 rfl ?_
      refine N_isub d_Fo_toNextOrder_90 (by omega) ?_
      refine S_istore_5_4 d_Fo_toNextOrder_91 rfl rfl ?_
      exact lp_Fo_next3 (fun mI4 hA4 hF4 => k2 _ mI4 hnx hA4 (hF3.tr hF4)) _ (r + 1) (l.length - 1) _ mI3 (by rw [sw2_len]; exact hl) (by rw [sw2_len]; omega) (by omega) hA3 Fx.rf ⟨l.length, by omega, rfl⟩ rfl
  · have hl0 : l = [] := List.length_eq_zero_iff.mp h2
    rw [h2]
    refine g_iload_n d_Fo_toNextOrder_7 rfl ?_
    refine P_if_lt d_Fo_toNextOrder_8 34 (by decide) (fun _ => ?_) (fun z => absurd (by decide) z)
    refine g_iload_n d_Fo_toNextOrder_34 rfl ?_
    refine P_if_ge d_Fo_toNextOrder_35 40 (by decide) (fun z => absurd z (by decide)) (fun _ => ?_)
    refine N_iconst d_Fo_toNextOrder_38 0 rfl ?_
    refine P_zret d_Fo_toNextOrder_39 rfl (by decide) ?_
    exact k1 (by rw [hl0]; rfl)
theorem AL_nil {r : Nat} {mI : Nat → Nat → Int32} : AL r [] mI := fun j hj => absurd hj (Nat.not_lt_zero _)
theorem AL_app {r : Nat} {l : List Nat} {mI : Nat → Nat → Int32} (h : AL r l mI) (v : Nat) : AL r (l ++ [v]) (sI mI r l.length (nI v)) := by
  intro j hj
  rw [List.length_append, List.length_singleton] at hj
  rw [sI_w, List.getD_eq_getElem?_getD, List.getElem?_append]
  by_cases z : j < l.length
  · rw [if_pos z, ← List.getD_eq_getElem?_getD]
    have : ¬ j = l.length := by omega
    simp only [upd, this, if_false]; exact h j z
  · have : j = l.length := by omega
    subst this; simp [upd]
theorem AL.to {r : Nat} {l : List Nat} {mI mI' : Nat → Nat → Int32} (h : AL r l mI) (hf : mI' r = mI r) : AL r l mI' := fun j hj => by rw [hf]; exact h j hj
theorem posA_s (H : Nat → Nat) (m : Nat) {l : List Nat} {i : Nat} (h : i < l.length) : posA H m 0 (l.take (i + 1)) = posA H m 0 (l.take i) ++ (if H (l.getD i 0) = m then [i] else []) := by
  rw [take_s h, posA_app, List.length_take, show 0 + min i l.length = i by omega]
  simp only [posA]
theorem pre_eq {l a b : List Nat} (h : l = a ++ b) (hl : l.length ≤ a.length) : a = l := by
  subst h
  rw [List.length_append] at hl
  have : b = [] := List.length_eq_zero_iff.mp (by omega)
  subst this; simp
theorem posA_pre (H : Nat → Nat) (m : Nat) (l : List Nat) (i : Nat) : ∃ b, posA H m 0 l = posA H m 0 (l.take i) ++ b := ⟨_, by rw [← posA_app, List.take_append_drop]⟩
theorem hpl_pre (H : Nat → Nat) (m : Nat) : ∀ (P i : Nat), i ≤ P → ∃ b, hpl H m P = hpl H m i ++ b
  | 0, i, h => ⟨[], by rw [show i = 0 by omega]; simp⟩
  | P + 1, i, h => by
    by_cases z : i = P + 1
    · exact ⟨[], by rw [z]; simp⟩
    · obtain ⟨b, hb⟩ := hpl_pre H m P i (by omega)
      exact ⟨b ++ _, by rw [hpl_s, hb, List.append_assoc]⟩
theorem lp_Fo_fp1 {X : CX} {dl : List (Nat × Nat)} {mI : Nat → Nat → Int32} {dr : Nat → Nat → Nat} {Q : Option Value → AH → Prop} {T : TD} {σ : AS} {m : Nat} (hw : TW T) (hT : TR 33 T mI) (hS : SC 53 T σ mI) (hW : SV T σ) (hm : m < 6) (hc : cntH (aH σ) m (tP T) ≤ 5) (k : ∀ mI' v4, Value.category v4 = 1 → AL 112 (posA (aH σ) m 0 (aR σ)) mI' → Fx 112 112 mI mI' → EW X m_Fo_findPlaces 55 [.ref 111, .ref 53, .int (nI m), .int (nI (posA (aH σ) m 0 (aR σ)).length), v4] [] (hp X dl mI' dr) Q) : ∀ (d : Nat) (i : Nat) (mI2 : Nat → Nat → Int32), (i ≤ tP T) → (AL 112 (posA (aH σ) m 0 ((aR σ).take i)) mI2) → (Fx 112 112 mI mI2) → tP T - i = d → EW X m_Fo_findPlaces 5 [.ref 111, .ref 53, .int (nI m), .int (nI (posA (aH σ) m 0 ((aR σ).take i)).length), .int (nI i)] [] (hp X dl mI2 dr) Q := by
  intro d
  induction d using Nat.strongRecOn with
  | _ d ih =>
    intro i mI2 hi hA hF hd
    have hw2 := hw.2.1
    have hT2 : TR 33 T mI2 := hT.to (fun r z1 z2 => hF r (by omega))
    have hS2 : SC 53 T σ mI2 := SR.to hS (fun r z1 z2 => hF r (by omega))
    have hpl5 : (posA (aH σ) m 0 (aR σ)).length ≤ 5 := by rw [posA_len]; exact Nat.le_trans (Nat.le_of_eq (Lm_len hW m)) hc
    obtain ⟨b, hb⟩ := posA_pre (aH σ) m (aR σ) i
    have hle : (posA (aH σ) m 0 ((aR σ).take i)).length ≤ (posA (aH σ) m 0 (aR σ)).length := by rw [hb, List.length_append]; omega
    have hln := hW.1.1
    refine g_iload d_Fo_findPlaces_5 rfl ?_
    refine g_aload_n d_Fo_findPlaces_7 rfl ?_
    refine H_getR 33 d_Fo_findPlaces_8 f_Fo_21.g rfl rfl (by decide) rfl ?_
    refine H_getI d_Fo_findPlaces_11 f_Fo_77.g rfl rfl (by decide) ?_
    refine T_int (nI (tP T)) hT2.2.1 ?_
    refine N_icmp_ge d_Fo_findPlaces_14 55 (by decide) ⟨by omega, by omega⟩ (fun c1 => ?_) (fun c1 => ?_)
    · have e : (aR σ).take i = aR σ := List.take_of_length_le (by omega)
      rw [e] at hA
      rw [e]
      exact k _ _ rfl hA hF
    · refine g_iload_n d_Fo_findPlaces_17 rfl ?_
      refine N_iconst d_Fo_findPlaces_18 5 rfl ?_
      refine N_icmp_ge d_Fo_findPlaces_19 55 (by decide) ⟨by omega, by omega⟩ (fun c2 => ?_) (fun c2 => ?_)
      · have e := pre_eq hb (by omega)
        rw [e] at hA
        rw [e]
        exact k _ _ rfl hA hF
      · refine g_aload_n d_Fo_findPlaces_22 rfl ?_
        refine H_getR 57 d_Fo_findPlaces_23 f_Fo_42 rfl rfl (by decide) rfl ?_
        refine g_aload_n d_Fo_findPlaces_26 rfl ?_
        refine H_getR 58 d_Fo_findPlaces_27 f_Fo_67 rfl rfl (by decide) rfl ?_
        refine g_iload d_Fo_findPlaces_30 rfl ?_
        refine H_ialdN d_Fo_findPlaces_32 rfl rfl (by omega) (by decide) ?_
        refine T_int (nI ((aR σ).getD i 0)) (hS2.2.2.2.2 i c1) ?_
        have hpr : (aR σ).getD i 0 < tP T := getD_lt hW.1.2.2 (by omega)
        have hps := posA_s (aH σ) m (l := aR σ) (i := i) (by omega)
        refine H_ialdN d_Fo_findPlaces_33 rfl rfl (show (aR σ).getD i 0 < 10 by omega) (by decide) ?_
        refine T_int (hoI (aH σ ((aR σ).getD i 0))) (hS2.2.2.2.1 _ hpr).2.2 ?_
        refine g_iload_n d_Fo_findPlaces_34 rfl ?_
        have hho : hoI (aH σ ((aR σ).getD i 0)) = nI m ↔ aH σ ((aR σ).getD i 0) = m := by rw [← hoI_5 (c := m) (by omega)]; exact ho_eq (hW.2.1 _ hpr).1 (by omega)
        refine P_icmp_ne d_Fo_findPlaces_35 49 (by decide) (fun c3 => ?_) (fun c3 => ?_)
        · rw [if_neg (fun z => c3 (hho.mpr z)), List.append_nil] at hps
          refine N_iinc_5_4_1 d_Fo_findPlaces_49 rfl rfl ?_
          refine P_goto d_Fo_findPlaces_52 5 (by decide) ?_
          rw [← hps]
          exact ih _ (by omega) (i + 1) mI2 (by omega) (by rw [hps]; exact hA) hF rfl
        · refine g_aload_n d_Fo_findPlaces_38 rfl ?_
          refine H_getR 112 d_Fo_findPlaces_39 f_Fo_11.g rfl rfl (by decide) rfl ?_
          refine g_iload_n d_Fo_findPlaces_42 rfl ?_
          refine g_iload d_Fo_findPlaces_43 rfl ?_
          refine H_iastN d_Fo_findPlaces_45 rfl rfl (by omega) (by decide) ?_
          refine N_iinc_5_3_1 d_Fo_findPlaces_46 rfl rfl ?_
          refine N_iinc_5_4_1 d_Fo_findPlaces_49 rfl rfl ?_
          refine P_goto d_Fo_findPlaces_52 5 (by decide) ?_
          rw [if_pos (hho.mp c3)] at hps
          have e : (posA (aH σ) m 0 ((aR σ).take i)).length + 1 = (posA (aH σ) m 0 ((aR σ).take (i + 1))).length := by rw [hps, List.length_append]; rfl
          rw [e]
          exact ih _ (by omega) (i + 1) _ (by omega) (by rw [hps]; exact AL_app hA i) (Fx_sI hF (by omega)) rfl

theorem lp_Fo_fp2 {X : CX} {dl : List (Nat × Nat)} {mI : Nat → Nat → Int32} {dr : Nat → Nat → Nat} {Q : Option Value → AH → Prop} {T : TD} {σ : AS} {m : Nat} (hw : TW T) (hT : TR 33 T mI) (hS : SC 53 T σ mI) (hW : SV T σ) (hm : m < 6) (hc : cntH (aH σ) m (tP T) ≤ 5) (k : ∀ mI', AL 113 (hpl (aH σ) m (tP T)) mI' → mI' 111 5 = nI (hpl (aH σ) m (tP T)).length → (∀ r, r ≠ 111 → r ≠ 113 → mI' r = mI r) → Q none (hp X dl mI' dr)) : ∀ (d : Nat) (i : Nat) (mI2 : Nat → Nat → Int32), (i ≤ tP T) → (AL 113 (hpl (aH σ) m i) mI2) → (mI2 111 5 = nI (hpl (aH σ) m i).length) → (∀ r, r ≠ 111 → r ≠ 113 → mI2 r = mI r) → tP T - i = d → EW X m_Fo_findPlaces 63 [.ref 111, .ref 53, .int (nI m), .int (nI (hpl (aH σ) m (tP T)).length), .int (nI i)] [] (hp X dl mI2 dr) Q := by
  intro d
  induction d using Nat.strongRecOn with
  | _ d ih =>
    intro i mI2 hi hA h5 hF hd
    have hw2 := hw.2.1
    have hT2 : TR 33 T mI2 := hT.to (fun r z1 z2 => hF r (by omega) (by omega))
    have hS2 : SC 53 T σ mI2 := SR.to hS (fun r z1 z2 => hF r (by omega) (by omega))
    have hpl5 : (hpl (aH σ) m (tP T)).length ≤ 5 := by rw [hpl_len]; exact hc
    obtain ⟨b, hb⟩ := hpl_pre (aH σ) m (tP T) i hi
    have hle : (hpl (aH σ) m i).length ≤ (hpl (aH σ) m (tP T)).length := by rw [hb, List.length_append]; omega
    have hps := hpl_s (aH σ) m i
    refine g_iload d_Fo_findPlaces_63 rfl ?_
    refine g_aload_n d_Fo_findPlaces_65 rfl ?_
    refine H_getR 33 d_Fo_findPlaces_66 f_Fo_21.g rfl rfl (by decide) rfl ?_
    refine H_getI d_Fo_findPlaces_69 f_Fo_77.g rfl rfl (by decide) ?_
    refine T_int (nI (tP T)) hT2.2.1 ?_
    refine N_icmp_ge d_Fo_findPlaces_72 121 (by decide) ⟨by omega, by omega⟩ (fun c1 => ?_) (fun c1 => ?_)
    · refine P_vret d_Fo_findPlaces_121 rfl ?_
      have e : i = tP T := by omega
      rw [e] at hA h5
      exact k _ hA h5 hF
    · refine g_aload_n d_Fo_findPlaces_75 rfl ?_
      refine H_getI d_Fo_findPlaces_76 f_Fo_56.g rfl rfl (by decide) ?_
      refine T_int (nI ((hpl (aH σ) m i).length)) h5 ?_
      refine g_iload_n d_Fo_findPlaces_79 rfl ?_
      refine N_icmp_ge d_Fo_findPlaces_80 121 (by decide) ⟨by omega, by omega⟩ (fun c2 => ?_) (fun c2 => ?_)
      · refine P_vret d_Fo_findPlaces_121 rfl ?_
        have e := pre_eq hb (by omega)
        rw [e] at hA h5
        exact k _ hA h5 hF
      · refine g_aload_n d_Fo_findPlaces_83 rfl ?_
        refine H_getR 57 d_Fo_findPlaces_84 f_Fo_42 rfl rfl (by decide) rfl ?_
        refine g_iload d_Fo_findPlaces_87 rfl ?_
        refine H_ialdN d_Fo_findPlaces_89 rfl rfl (by omega) (by decide) ?_
        refine T_int (hoI (aH σ i)) (hS2.2.2.2.1 i c1).2.2 ?_
        refine g_iload_n d_Fo_findPlaces_90 rfl ?_
        have hho : hoI (aH σ i) = nI m ↔ aH σ i = m := by rw [← hoI_5 (c := m) (by omega)]; exact ho_eq (hW.2.1 _ c1).1 (by omega)
        refine P_icmp_ne d_Fo_findPlaces_91 115 (by decide) (fun c3 => ?_) (fun c3 => ?_)
        · rw [if_neg (fun z => c3 (hho.mpr z)), List.append_nil] at hps
          refine N_iinc_5_4_1 d_Fo_findPlaces_115 rfl rfl ?_
          refine P_goto d_Fo_findPlaces_118 63 (by decide) ?_
          exact ih _ (by omega) (i + 1) mI2 (by omega) (by rw [hps]; exact hA) (by rw [hps]; exact h5) hF rfl
        · refine g_aload_n d_Fo_findPlaces_94 rfl ?_
          refine H_getR 113 d_Fo_findPlaces_95 f_Fo_15.g rfl rfl (by decide) rfl ?_
          refine g_aload_n d_Fo_findPlaces_98 rfl ?_
          refine H_getI d_Fo_findPlaces_99 f_Fo_56.g rfl rfl (by decide) ?_
          refine T_int (nI ((hpl (aH σ) m i).length)) h5 ?_
          refine g_iload d_Fo_findPlaces_102 rfl ?_
          refine H_iastN d_Fo_findPlaces_104 rfl rfl (by omega) (by decide) ?_
          refine g_aload_n d_Fo_findPlaces_105 rfl ?_
          refine P_dupA d_Fo_findPlaces_106 ?_
          refine H_getI d_Fo_findPlaces_107 f_Fo_56.g rfl rfl (by decide) ?_
          refine T_int (nI ((hpl (aH σ) m i).length)) (by rw [sI_r (by omega)]; exact h5) ?_
          refine N_iconst d_Fo_findPlaces_110 1 rfl ?_
          refine N_iadd d_Fo_findPlaces_111 ?_
          refine H_putI d_Fo_findPlaces_112 f_Fo_56 rfl rfl (by decide) ?_
          refine N_iinc_5_4_1 d_Fo_findPlaces_115 rfl rfl ?_
          refine P_goto d_Fo_findPlaces_118 63 (by decide) ?_
          rw [if_pos (hho.mp c3)] at hps
          have e : (hpl (aH σ) m i).length + 1 = (hpl (aH σ) m (i + 1)).length := by rw [hps, List.length_append]; rfl
          exact ih _ (by omega) (i + 1) _ (by omega) (by rw [hps]; exact (AL_app hA i).to (sI_r (by omega))) (by rw [← e]; exact sI_s _ _ _ _) (fun r z1 z2 => by rw [sI_r z1, sI_r z2]; exact hF r z1 z2) rfl

theorem c_Fo_findPlaces {X : CX} {dl : List (Nat × Nat)} {mI : Nat → Nat → Int32} {dr : Nat → Nat → Nat} {Q : Option Value → AH → Prop} {T : TD} {σ : AS} {m : Nat} (hw : TW T) (hT : TR 33 T mI) (hS : SC 53 T σ mI) (hW : SV T σ) (hm : m < 6) (hc : cntH (aH σ) m (tP T) ≤ 5) (k : ∀ mI', AL 112 (posA (aH σ) m 0 (aR σ)) mI' → AL 113 (hpl (aH σ) m (tP T)) mI' → mI' 111 5 = nI (hpl (aH σ) m (tP T)).length → Fx 111 120 mI mI' → mI' 114 = mI 114 → Q none (hp X dl mI' dr)) : EW X m_Fo_findPlaces 0 (enL m_Fo_findPlaces.2.2.1 [.ref 111, .ref 53, .int (nI m)]) [] (hp X dl mI dr) Q := by
  show EW X m_Fo_findPlaces 0 [.ref 111, .ref 53, .int (nI m), jk, jk] [] (hp X dl mI dr) Q
  refine N_iconst d_Fo_findPlaces_0 0 rfl ?_
  refine S_istore_n_5_3 d_Fo_findPlaces_1 rfl rfl ?_
  refine N_iconst d_Fo_findPlaces_2 0 rfl ?_
  refine S_istore_5_4 d_Fo_findPlaces_3 rfl rfl ?_
  refine lp_Fo_fp1 hw hT hS hW hm hc (fun mI1 v4 hv4 hA1 hF1 => ?_) _ 0 mI (Nat.zero_le _) (by rw [List.take_zero]; exact AL_nil) Fx.rf rfl
  have e : (posA (aH σ) m 0 (aR σ)).length = (hpl (aH σ) m (tP T)).length := by rw [posA_len, hpl_len]; exact Lm_len hW m
  rw [e]
  refine g_aload_n d_Fo_findPlaces_55 rfl ?_
  refine N_iconst d_Fo_findPlaces_56 0 rfl ?_
  refine H_putI d_Fo_findPlaces_57 f_Fo_56 rfl rfl (by decide) ?_
  refine N_iconst d_Fo_findPlaces_60 0 rfl ?_
  refine S_istore_5_4 d_Fo_findPlaces_61 rfl rfl ?_
  have hT3 : TR 33 T (sI mI1 111 5 (nI 0)) := hT.to (fun r z1 z2 => (sI_r (by omega)).trans (hF1 r (by omega)))
  have hS3 : SC 53 T σ (sI mI1 111 5 (nI 0)) := SR.to hS (fun r z1 z2 => (sI_r (by omega)).trans (hF1 r (by omega)))
  refine lp_Fo_fp2 hw hT3 hS3 hW hm hc (fun mI2 hA2 h52 hF2 => ?_) _ 0 _ (Nat.zero_le _) AL_nil (sI_s _ _ _ _) (fun r z1 z2 => rfl) rfl
  exact k _ (hA1.to ((hF2 112 (by omega) (by omega)).trans (sI_r (by omega)))) hA2 h52 (fun r hr => (hF2 r (by omega) (by omega)).trans ((sI_r (by omega)).trans (hF1 r (by omega)))) ((hF2 114 (by omega) (by omega)).trans ((sI_r (by omega)).trans (hF1 114 (by omega))))

/-- the best order, beginning with l -/
def fo (T : TD) (n : Nat) (σ : AS) (m : Nat) : Nat → List Nat → BQ → BQ
  | 0, _, q => q
  | d + 1, l, q => match nxO l with
    | none => wg T n (oT σ m l) (fun j => nI (l.getD j 0)) q
    | some l' => fo T n σ m d l' (wg T n (oT σ m l) (fun j => nI (l.getD j 0)) q)
theorem wg_le {T : TD} {n : Nat} {τ : AS} {u : Nat → Int32} {q : BQ} (h : q.1 ≤ 11) : (wg T n τ u q).1 ≤ 11 := by
  unfold wg
  split
  · have := onesN_le (kB (aH (yrN T n τ)) (tP T)) 10
    show kN T (yrN T n τ) + 1 ≤ 11
    unfold kN; omega
  · exact h
theorem drop_e {l : List Nat} {i : Nat} (h : l.length ≤ i) : l.drop i = [] := List.drop_of_length_le h
theorem lp_Fo_put {X : CX} {dl : List (Nat × Nat)} {mI : Nat → Nat → Int32} {dr : Nat → Nat → Nat} {Q : Option Value → AH → Prop} {T : TD} {σ : AS} {m n i : Nat} {l : List Nat} {v4 : Value} (hw : TW T) (hW : SV T σ) (hln : l.length ≤ 5) (hlp : l.length = (posA (aH σ) m 0 (aR σ)).length) (hb : ∀ x ∈ l, x < 100) (hAp : AL 112 (posA (aH σ) m 0 (aR σ)) mI) (hAt : AL 113 l mI) (h5 : mI 111 5 = nI l.length) (k : ∀ mI' j, SC 115 T (oT σ m l) mI' → Fa 115 mI mI' → EW X m_Fo_findBestOrder 77 [.ref 111, .ref 53, .int (nI m), .int (nI n), v4, .int (nI i), .int (nI j)] [] (hp X dl mI' dr) Q) : ∀ (d : Nat) (j : Nat) (ρ : List Nat) (mI2 : Nat → Nat → Int32), (j ≤ l.length) → (ρ.length = tP T) → (SC 115 T (uR σ ρ) mI2) → (Fa 115 mI mI2) → (putL ρ ((posA (aH σ) m 0 (aR σ)).drop j) (l.drop j) = mg (aH σ) m (aR σ) l) → l.length - j = d → EW X m_Fo_findBestOrder 40 [.ref 111, .ref 53, .int (nI m), .int (nI n), v4, .int (nI i), .int (nI j)] [] (hp X dl mI2 dr) Q := by
  intro d
  induction d using Nat.strongRecOn with
  | _ d ih =>
    intro j ρ mI2 hj hρ hS hF he hd
    have hw2 := hw.2.1
    have e112 := hF 112 (by omega)
    have e113 := hF 113 (by omega)
    have e111 := hF 111 (by omega)
    refine g_iload d_Fo_findBestOrder_40 rfl ?_
    refine g_aload_n d_Fo_findBestOrder_42 rfl ?_
    refine H_getI d_Fo_findBestOrder_43 f_Fo_56.g rfl rfl (by decide) ?_
    refine T_int (nI (l.length)) ((congrFun e111 5).trans h5) ?_
    refine N_icmp_ge d_Fo_findBestOrder_46 77 (by decide) ⟨by omega, by omega⟩ (fun c1 => ?_) (fun c1 => ?_)
    · rw [drop_e (by omega), drop_e (by omega)] at he
      have he : ρ = _ := he
      unfold oT at k
      rw [← he] at k
      exact k _ _ hS hF
    · refine g_aload_n d_Fo_findBestOrder_49 rfl ?_
      refine H_getR 115 d_Fo_findBestOrder_50 f_Fo_30.g rfl rfl (by decide) rfl ?_
      refine H_getR 120 d_Fo_findBestOrder_53 f_Fo_67 rfl rfl (by decide) rfl ?_
      refine g_aload_n d_Fo_findBestOrder_56 rfl ?_
      refine H_getR 112 d_Fo_findBestOrder_57 f_Fo_11.g rfl rfl (by decide) rfl ?_
      refine g_iload d_Fo_findBestOrder_60 rfl ?_
      refine H_ialdN d_Fo_findBestOrder_62 rfl rfl (by omega) (by decide) ?_
      refine T_int (nI ((posA (aH σ) m 0 (aR σ)).getD j 0)) ((congrFun e112 j).trans (hAp j (by omega))) ?_
      refine g_aload_n d_Fo_findBestOrder_63 rfl ?_
      refine H_getR 113 d_Fo_findBestOrder_64 f_Fo_15.g rfl rfl (by decide) rfl ?_
      refine g_iload d_Fo_findBestOrder_67 rfl ?_
      refine H_ialdN d_Fo_findBestOrder_69 rfl rfl (by omega) (by decide) ?_
      refine T_int (nI (l.getD j 0)) ((congrFun e113 j).trans (hAt j c1)) ?_
      have hpj : (posA (aH σ) m 0 (aR σ)).getD j 0 < tP T := by
        have z := getD_lt (b := 0 + (aR σ).length) (fun x hx => (posA_lt (aH σ) m (aR σ) 0 x hx).2) (show j < (posA (aH σ) m 0 (aR σ)).length by omega)
        rw [hW.1.1] at z; omega
      refine H_iastN d_Fo_findBestOrder_70 rfl rfl (show (posA (aH σ) m 0 (aR σ)).getD j 0 < 10 by omega) (by decide) ?_
      refine N_iinc_7_6_1 d_Fo_findBestOrder_71 rfl rfl ?_
      refine P_goto d_Fo_findBestOrder_74 40 (by decide) ?_
      rw [drop_c (show j < (posA (aH σ) m 0 (aR σ)).length by omega), drop_c c1] at he
      exact ih _ (by omega) (j + 1) _ _ (by omega) (by rw [List.length_set]; exact hρ) (SR.R hS _ _ (by show _ < ρ.length; omega)) (Fa_sI hF (by omega)) he rfl

theorem lp_Fo_order {X : CX} {dl : List (Nat × Nat)} {mI : Nat → Nat → Int32} {dr : Nat → Nat → Nat} {Q : Option Value → AH → Prop} {T : TD} {σ : AS} {m n : Nat} {r : BQ} (hw : TW T) (hT : TR 33 T mI) (hS : SC 53 T σ mI) (hW : SV T σ) (hm : m < 6) (hn : n < 2 ^ 31) (hc : (Lm σ m).length ≤ 5) (k : ∀ mI', FB (Lm σ m).length r mI' → Fx 111 120 mI mI' → Q none (hp X dl mI' dr)) : ∀ (d : Nat) (i : Nat) (l : List Nat) (q : BQ) (mI2 : Nat → Nat → Int32) (v6 : Value), (i ≤ 120) → (l.Perm (Lm σ m)) → (AL 112 (posA (aH σ) m 0 (aR σ)) mI2) → (AL 113 l mI2) → (FB l.length q mI2) → (Fx 111 120 mI mI2) → (r = fo T n σ m (120 - i) l q) → 120 - i = d → EW X m_Fo_findBestOrder 17 [.ref 111, .ref 53, .int (nI m), .int (nI n), .int (nI 1), .int (nI i), v6] [] (hp X dl mI2 dr) Q := by
  intro d
  induction d using Nat.strongRecOn with
  | _ d ih =>
    intro i l q mI2 v6 hi hl hAp hAt hB hF he hd
    have hw2 := hw.2.1
    have hll := hl.length_eq
    have hb : ∀ x ∈ l, x < tP T := fun x hx => ((Lm_mem hW).mp (hl.mem_iff.mp hx)).1
    have hlp : l.length = (posA (aH σ) m 0 (aR σ)).length := by rw [posA_len]; exact hll
    refine g_iload d_Fo_findBestOrder_17 rfl ?_
    refine N_if_eq d_Fo_findBestOrder_19 94 (by decide) (by omega) (fun c1 => ?_) (fun c1 => ?_)
    · omega
    · refine g_iload d_Fo_findBestOrder_22 rfl ?_
      refine N_bipush d_Fo_findBestOrder_24 120 rfl ?_
      refine N_icmp_ge d_Fo_findBestOrder_26 94 (by decide) ⟨by omega, by omega⟩ (fun c2 => ?_) (fun c2 => ?_)
      · refine P_vret d_Fo_findBestOrder_94 rfl ?_
        rw [show 120 - i = 0 by omega, fo] at he
        rw [he, ← hll] at k
        exact k _ hB hF
      · refine g_aload_n d_Fo_findBestOrder_29 rfl ?_
        refine H_getR 115 d_Fo_findBestOrder_30 f_Fo_30.g rfl rfl (by decide) rfl ?_
        refine g_aload_n d_Fo_findBestOrder_33 rfl ?_
        refine C_V1 d_Fo_findBestOrder_34 k_Fo_34 rfl (Nat.le_of_ble_eq_true rfl) (by decide) (Nat.le_of_ble_eq_true rfl) ?_
        refine c_St_copyFrom st115 st53 (by omega) hw (hS.f115 hF) (fun mI3 hS3 hF3 => ?_)
        have hB3 : FB l.length q mI3 := hB.to (hF3 111 (by omega)) (hF3 114 (by omega))
        refine N_iconst d_Fo_findBestOrder_37 0 rfl ?_
        refine S_istore_7_6 d_Fo_findBestOrder_38 rfl rfl ?_
        refine lp_Fo_put hw hW (by omega) hlp (fun x hx => by have := hb x hx; omega) (hAp.to (hF3 112 (by omega))) (hAt.to (hF3 113 (by omega))) hB3.1 (fun mI4 j4 hS4 hF4 => ?_) _ 0 (aR σ) mI3 (Nat.zero_le _) hW.1.1 hS3 Fa.rf (putL_mg (aH σ) m (aR σ) [] l) rfl
        have hF34 := hF3.tr hF4
        refine g_aload_n d_Fo_findBestOrder_77 rfl ?_
        refine g_iload_n d_Fo_findBestOrder_78 rfl ?_
        refine C_V1 d_Fo_findBestOrder_79 k_Fo_70 rfl (Nat.le_of_ble_eq_true rfl) (by decide) (Nat.le_of_ble_eq_true rfl) ?_
        refine c_Fo_weighTrial (q := q) (u := fun j => nI (l.getD j 0)) hw ((hT.f115 hF).f115 hF34.f115) hS4 (SV_oT hW hl) (by omega) hn (hB.to (hF34 111 (by omega)) (hF34 114 (by omega))) (fun j hj => (congrFun (hF34 113 (by omega)) j).trans (hAt j hj)) (fun mI5 hB5 hF5 => ?_)
        have hAt5 : AL 113 l mI5 := (hAt.to (hF34 113 (by omega))).to (hF5 113 (by omega) (by omega))
        have hAp5 : AL 112 (posA (aH σ) m 0 (aR σ)) mI5 := (hAp.to (hF34 112 (by omega))).to (hF5 112 (by omega) (by omega))
        have hF35 : Fx 111 120 mI mI5 := hF.tr (hF34.f115.tr hF5.x)
        obtain ⟨d2, hd2⟩ : ∃ d2, 120 - i = d2 + 1 := ⟨119 - i, by omega⟩
        rw [hd2, fo] at he
        refine g_aload_n d_Fo_findBestOrder_82 rfl ?_
        refine C_V0 d_Fo_findBestOrder_83 k_Fo_73 rfl (Nat.le_of_ble_eq_true rfl) (by decide) (Nat.le_of_ble_eq_true rfl) ?_
        refine c_Fo_toNextOrder (by omega) (fun x hx => by have := hb x hx; omega) hAt5 hB5.1 (fun hx => ?_) (fun l' mI6 hx hA6 hF6 => ?_)
        · refine S_istore_7_4 d_Fo_findBestOrder_86 rfl rfl ?_
          refine N_iinc_7_5_1 d_Fo_findBestOrder_88 rfl rfl ?_
          refine P_goto d_Fo_findBestOrder_91 17 (by decide) ?_
          refine g_iload d_Fo_findBestOrder_17 rfl ?_
          refine N_if_eq d_Fo_findBestOrder_19 94 (by decide) (by omega) (fun _ => ?_) (fun z => absurd rfl z)
          refine P_vret d_Fo_findBestOrder_94 rfl ?_
          rw [hx] at he
          rw [he, ← hll] at k
          exact k _ hB5 hF35
        · refine S_istore_7_4 d_Fo_findBestOrder_86 rfl rfl ?_
          refine N_iinc_7_5_1 d_Fo_findBestOrder_88 rfl rfl ?_
          refine P_goto d_Fo_findBestOrder_91 17 (by decide) ?_
          rw [hx] at he
          have hpm := nxO_perm hx
          exact ih _ (by omega) (i + 1) l' _ mI6 _ (by omega) (hpm.trans hl) (hAp5.to (hF6 112 (by omega))) hA6 (by rw [hpm.length_eq]; exact hB5.to (hF6 111 (by omega)) (hF6 114 (by omega))) (hF35.tr (hF6.mo (by omega) (by omega))) (by rw [show 120 - (i + 1) = d2 by omega]; exact he) rfl

theorem c_Fo_findBestOrder {X : CX} {dl : List (Nat × Nat)} {mI : Nat → Nat → Int32} {dr : Nat → Nat → Nat} {Q : Option Value → AH → Prop} {T : TD} {σ : AS} {m n : Nat} (hw : TW T) (hT : TR 33 T mI) (hS : SC 53 T σ mI) (hW : SV T σ) (hm : m < 6) (hn : n < 2 ^ 31) (hc : cntH (aH σ) m (tP T) ≤ 5) (k : ∀ mI', FB (Lm σ m).length (fo T n σ m 120 (hpl (aH σ) m (tP T)) (0, fun _ => 0)) mI' → Fx 111 120 mI mI' → Q none (hp X dl mI' dr)) : EW X m_Fo_findBestOrder 0 (enL m_Fo_findBestOrder.2.2.1 [.ref 111, .ref 53, .int (nI m), .int (nI n)]) [] (hp X dl mI dr) Q := by
  show EW X m_Fo_findBestOrder 0 [.ref 111, .ref 53, .int (nI m), .int (nI n), jk, jk, jk] [] (hp X dl mI dr) Q
  refine g_aload_n d_Fo_findBestOrder_0 rfl ?_
  refine g_aload_n d_Fo_findBestOrder_1 rfl ?_
  refine g_iload_n d_Fo_findBestOrder_2 rfl ?_
  refine C_V2 d_Fo_findBestOrder_3 k_Fo_63 rfl (Nat.le_of_ble_eq_true rfl) (by decide) (Nat.le_of_ble_eq_true rfl) ?_
  refine c_Fo_findPlaces hw hT hS hW hm hc (fun mI1 hA1 hA2 h51 hF1 e114 => ?_)
  refine g_aload_n d_Fo_findBestOrder_6 rfl ?_
  refine P_iconst d_Fo_findBestOrder_7 (-1) rfl ?_
  refine H_putI d_Fo_findBestOrder_8 f_Fo_52 rfl rfl (by decide) ?_
  refine N_iconst d_Fo_findBestOrder_11 1 rfl ?_
  refine S_istore_7_4 d_Fo_findBestOrder_12 rfl rfl ?_
  refine N_iconst d_Fo_findBestOrder_14 0 rfl ?_
  refine S_istore_7_5 d_Fo_findBestOrder_15 rfl rfl ?_
  exact lp_Fo_order hw hT hS hW hm hn (by rw [Lm_len hW]; exact hc) k _ 0 _ (0, fun _ => 0) _ _ (by omega) (Lm_perm hW m).symm (hA1.to (sI_r (by omega))) (hA2.to (sI_r (by omega))) ⟨by rw [sI_n (by omega)]; exact h51, sI_s _ _ _ _, by show 0 ≤ 11; omega, fun z => absurd rfl z⟩ (hF1.tr (Fx_sI Fx.rf (by omega))) rfl rfl

