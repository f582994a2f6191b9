/-! WHOM TO GIVE WHAT THE CAT HAS -/
def dgt (b s w j : Nat) : Nat := w / b ^ (s - 1 - j) % b
theorem nI_m1h {x : Nat} (h : x < 2 ^ 20) : nI x - nI 1 = hrI x := by
  cases x with
  | zero => rfl
  | succ j =>
    show nI (j + 1) - nI 1 = nI j
    refine Int32.toInt_inj.mp ?_
    rw [nI_m1 (by omega), nI_toInt (by omega)]; omega
theorem hrI_inj {a : Nat} (h : a < 2 ^ 20) : hrI a = -1 ↔ a = 0 := by
  cases a with
  | zero => exact ⟨fun _ => rfl, fun _ => rfl⟩
  | succ j => exact ⟨fun z => absurd z (nI_nm1 (by omega)), fun z => absurd z (by omega)⟩
def alB (σ : AS) (dg : Nat → Nat) : Nat → Bool
  | 0 => true
  | j + 1 => alB σ dg j && (dg j == 0 || aS σ (dg j - 1) != 0)
theorem alB_no {σ : AS} {dg : Nat → Nat} : ∀ (s j : Nat), j ≤ s → alB σ dg j = false → alB σ dg s = false
  | 0, j, h, e => by rw [show j = 0 by omega] at e; exact e
  | s + 1, j, h, e => by
    by_cases z : j = s + 1
    · rw [z] at e; exact e
    · rw [alB, alB_no s j (by omega) e]; rfl
def gvN (σ : AS) (dg : Nat → Nat) : Nat → AS
  | 0 => σ
  | j + 1 => if dg j = 0 then gvN σ dg j else hand (gvN σ dg j) ((Lm σ 5).getD j 0) (dg j - 1)
def gf (T : TD) (n : Nat) (σ : AS) (s : Nat) : Nat → BQ
  | 0 => (0, fun _ => 0)
  | w + 1 => if alB σ (dgt (tn T + 1) s w) s = true then wg T n (gvN σ (dgt (tn T + 1) s w) s) (fun j => hrI (dgt (tn T + 1) s w j)) (gf T n σ s w) else gf T n σ s w
theorem hAt_eq (H : Nat → Nat) (m : Nat) : ∀ (l : List Nat) (j : Nat), j < (l.filter (fun p => decide (H p = m))).length → hAt H m l j = nI ((l.filter (fun p => decide (H p = m))).getD j 0)
  | [], j, h => absurd h (Nat.not_lt_zero _)
  | x :: xs, j, h => by
    by_cases z : H x = m
    · rw [List.filter_cons_of_pos (by simp [z])] at h ⊢
      rw [hAt, if_pos z]
      cases j with
      | zero => rw [if_pos rfl]; rfl
      | succ j =>
        rw [if_neg (by omega), show j + 1 - 1 = j by omega, hAt_eq H m xs j (by simpa using h)]
        rfl
    · rw [List.filter_cons_of_neg (by simp [z])] at h ⊢
      rw [hAt, if_neg z]
      exact hAt_eq H m xs j h
theorem hAt_no (H : Nat → Nat) (m : Nat) : ∀ (l : List Nat) (j : Nat), (l.filter (fun p => decide (H p = m))).length ≤ j → hAt H m l j = -1
  | [], j, h => rfl
  | x :: xs, j, h => by
    by_cases z : H x = m
    · rw [List.filter_cons_of_pos (by simp [z])] at h
      rw [List.length_cons] at h
      rw [hAt, if_pos z, if_neg (by omega)]
      exact hAt_no H m xs (j - 1) (by omega)
    · rw [List.filter_cons_of_neg (by simp [z])] at h
      rw [hAt, if_neg z]
      exact hAt_no H m xs j h
theorem dgt_lt {b s w j : Nat} (h : 0 < b) : dgt b s w j < b := Nat.mod_lt _ h
theorem gvN_SV {T : TD} {σ : AS} {dg : Nat → Nat} (h : SV T σ) (hn : tn T ≤ 5) (hd : ∀ j, dg j < tn T + 1) : ∀ j, j ≤ (Lm σ 5).length → SV T (gvN σ dg j) ∧ ∀ p, aH σ p ≠ 6 → aH (gvN σ dg j) p ≠ 6
  | 0, _ => ⟨h, fun _ z => z⟩
  | j + 1, hj => by
    have ih := gvN_SV h hn hd j (by omega)
    have hdj := hd j
    rw [gvN]
    split
    · exact ih
    · rename_i h0
      have hmem : (Lm σ 5).getD j 0 ∈ Lm σ 5 := by rw [List.getD_eq_getElem?_getD, List.getElem?_eq_getElem (show j < (Lm σ 5).length by omega)]; exact List.getElem_mem _
      have hlt := ((Lm_mem h).mp hmem).1
      refine ⟨SV_hand ih.1 (ih.1.mem hlt) ⟨by omega, fun _ => by omega⟩, fun p hp6 => ?_⟩
      show va_up (aH (gvN σ dg j)) _ _ p ≠ 6
      by_cases z : p = (Lm σ 5).getD j 0
      · rw [z, va_up_s]; omega
      · rw [va_up_n _ _ z]; exact ih.2 p hp6
theorem lp_Fo_chooseWay {X : CX} {dl : List (Nat × Nat)} {mI : Nat → Nat → Int32} {dr : Nat → Nat → Nat} {Q : Option Value → AH → Prop} {T : TD} {s w : Nat} (hw : TW T) (hT : TR 33 T mI) (hs : s ≤ 5) (hwb : w < 2 ^ 20) (k : ∀ mI', (∀ j, j < s → mI' 113 j = hrI (dgt (tn T + 1) s w j)) → Fx 113 113 mI mI' → Q none (hp X dl mI' dr)) : ∀ (d : Nat) (c : Nat) (mI2 : Nat → Nat → Int32), (c ≤ s) → (∀ j, c ≤ j → j < s → mI2 113 j = hrI (dgt (tn T + 1) s w j)) → (Fx 113 113 mI mI2) → c = d → EW X m_Fo_chooseWay 9 [.ref 111, .int (nI w), .int (nI (w / (tn T + 1) ^ (s - c))), .int (hrI c)] [] (hp X dl mI2 dr) Q := by
  intro d
  induction d using Nat.strongRecOn with
  | _ d ih =>
    intro c mI2 hc hd2 hF hd
    have hw1 := hw.1
    have hT2 : TR 33 T mI2 := hT.to (fun r z1 z2 => hF r (by omega))
    cases c with
    | zero =>
      refine g_iload_n d_Fo_chooseWay_9 rfl ?_
      refine P_if_lt d_Fo_chooseWay_10 50 (by decide) (fun _ => ?_) (fun z => absurd ((hrI_neg (by decide)).mpr rfl) z)
      refine P_vret d_Fo_chooseWay_50 rfl ?_
      exact k _ (fun j hj => hd2 j (Nat.zero_le _) hj) hF
    | succ i =>
      show EW X m_Fo_chooseWay 9 [.ref 111, .int (nI w), .int (nI (w / (tn T + 1) ^ (s - (i + 1)))), .int (nI i)] [] (hp X dl mI2 dr) Q
      have hlb : w / (tn T + 1) ^ (s - (i + 1)) ≤ w := Nat.div_le_self _ _
      have hml : w / (tn T + 1) ^ (s - (i + 1)) % (tn T + 1) < tn T + 1 := Nat.mod_lt _ (by omega)
      refine g_iload_n d_Fo_chooseWay_9 rfl ?_
      refine N_if_lt d_Fo_chooseWay_10 50 (by decide) (by omega) ?_
      refine g_aload_n d_Fo_chooseWay_13 rfl ?_
      refine H_getR 113 d_Fo_chooseWay_14 f_Fo_15.g rfl rfl (by decide) rfl ?_
      refine g_iload_n d_Fo_chooseWay_17 rfl ?_
      refine g_iload_n d_Fo_chooseWay_18 rfl ?_
      refine g_aload_n d_Fo_chooseWay_19 rfl ?_
      refine H_getR 33 d_Fo_chooseWay_20 f_Fo_21.g rfl rfl (by decide) rfl ?_
      refine H_getI d_Fo_chooseWay_23 f_Fo_106.g rfl rfl (by decide) ?_
      refine T_int (nI (tn T)) hT2.1 ?_
      refine N_iconst d_Fo_chooseWay_26 1 rfl ?_
      refine N_iadd d_Fo_chooseWay_27 ?_
      refine N_irem d_Fo_chooseWay_28 (by omega) (by omega) (by omega) ?_
      refine N_iconst d_Fo_chooseWay_29 1 rfl ?_
      refine P_isub d_Fo_chooseWay_30 ?_
      rw [nI_m1h (by omega)]
      refine H_iastN d_Fo_chooseWay_31 rfl rfl (by omega) (by decide) ?_
      refine g_iload_n d_Fo_chooseWay_32 rfl ?_
      refine g_aload_n d_Fo_chooseWay_33 rfl ?_
      refine H_getR 33 d_Fo_chooseWay_34 f_Fo_21.g rfl rfl (by decide) rfl ?_
      refine H_getI d_Fo_chooseWay_37 f_Fo_106.g rfl rfl (by decide) ?_
      refine T_int (nI (tn T)) ((congrFun (sI_r (by omega)) 0).trans hT2.1) ?_
      refine N_iconst d_Fo_chooseWay_40 1 rfl ?_
      refine N_iadd d_Fo_chooseWay_41 ?_
      refine N_idiv d_Fo_chooseWay_42 (by omega) (by omega) (by omega) ?_
      refine S_istore_n_4_2 d_Fo_chooseWay_43 rfl rfl ?_
      have e : nI i + -1 = hrI i := hrI_m1 (c := i) (by omega)
      refine S_iinc_4_3 (-1) d_Fo_chooseWay_44 rfl rfl rfl ?_
      refine P_goto d_Fo_chooseWay_47 9 (by decide) ?_
      rw [e, Nat.div_div_eq_div_mul, ← Nat.pow_succ, show Nat.succ (s - (i + 1)) = s - i by omega]
      refine ih i (by omega) i _ (by omega) (fun j h1 h2 => ?_) (Fx_sI hF (by omega)) rfl
      by_cases z : j = i
      · rw [z, sI_s]; unfold dgt; rw [show s - 1 - i = s - (i + 1) by omega]
      · rw [sI_n (by omega)]; exact hd2 j (by omega) h2

theorem c_Fo_chooseWay {X : CX} {dl : List (Nat × Nat)} {mI : Nat → Nat → Int32} {dr : Nat → Nat → Nat} {Q : Option Value → AH → Prop} {T : TD} {s w : Nat} (hw : TW T) (hT : TR 33 T mI) (hs : s ≤ 5) (hwb : w < 2 ^ 20) (h5 : mI 111 5 = nI s) (k : ∀ mI', (∀ j, j < s → mI' 113 j = hrI (dgt (tn T + 1) s w j)) → Fx 113 113 mI mI' → Q none (hp X dl mI' dr)) : EW X m_Fo_chooseWay 0 (enL m_Fo_chooseWay.2.2.1 [.ref 111, .int (nI w)]) [] (hp X dl mI dr) Q := by
  show EW X m_Fo_chooseWay 0 [.ref 111, .int (nI w), jk, jk] [] (hp X dl mI dr) Q
  refine g_iload_n d_Fo_chooseWay_0 rfl ?_
  refine S_istore_n_4_2 d_Fo_chooseWay_1 rfl rfl ?_
  refine g_aload_n d_Fo_chooseWay_2 rfl ?_
  refine H_getI d_Fo_chooseWay_3 f_Fo_56.g rfl rfl (by decide) ?_
  refine T_int (nI (s)) h5 ?_
  refine N_iconst d_Fo_chooseWay_6 1 rfl ?_
  refine P_isub d_Fo_chooseWay_7 ?_
  refine S_istore_n_4_3 d_Fo_chooseWay_8 rfl rfl ?_
  rw [nI_m1h (by omega), show nI w = nI (w / (tn T + 1) ^ (s - s)) by rw [Nat.sub_self, Nat.pow_zero, Nat.div_one]]
  rw [show [Value.ref 111, .int (nI (w / (tn T + 1) ^ (s - s))), .int (nI (w / (tn T + 1) ^ (s - s))), .int (hrI s)] = [Value.ref 111, .int (nI w), .int (nI (w / (tn T + 1) ^ (s - s))), .int (hrI s)] by rw [Nat.sub_self, Nat.pow_zero, Nat.div_one]]
  exact lp_Fo_chooseWay hw hT hs hwb k _ s mI (Nat.le_refl _) (fun j h1 h2 => by omega) Fx.rf rfl

theorem lp_Fo_alive {X : CX} {dl : List (Nat × Nat)} {mI : Nat → Nat → Int32} {dr : Nat → Nat → Nat} {Q : Option Value → AH → Prop} {T : TD} {σ : AS} {s : Nat} {dg : Nat → Nat} (hw : TW T) (hS : SC 53 T σ mI) (hW : SV T σ) (hs : s ≤ 5) (h5 : mI 111 5 = nI s) (hdg : ∀ j, dg j < tn T + 1) (hd2 : ∀ j, j < s → mI 113 j = hrI (dg j)) (k : Q (some (.int (bI (alB σ dg s = true)))) (hp X dl mI dr)) : ∀ (d : Nat) (j : Nat), (j ≤ s) → (alB σ dg j = true) → s - j = d → EW X m_Fo_areChosenAlive 2 [.ref 111, .ref 53, .int (nI j)] [] (hp X dl mI dr) Q := by
  intro d
  induction d using Nat.strongRecOn with
  | _ d ih =>
    intro j hj ha hd
    have hw1 := hw.1
    have hdj := hdg j
    refine g_iload_n d_Fo_areChosenAlive_2 rfl ?_
    refine g_aload_n d_Fo_areChosenAlive_3 rfl ?_
    refine H_getI d_Fo_areChosenAlive_4 f_Fo_56.g rfl rfl (by decide) ?_
    refine T_int (nI (s)) h5 ?_
    refine N_icmp_ge d_Fo_areChosenAlive_7 42 (by decide) ⟨by omega, by omega⟩ (fun c1 => ?_) (fun c1 => ?_)
    · refine N_iconst d_Fo_areChosenAlive_42 1 rfl ?_
      refine P_zret d_Fo_areChosenAlive_43 rfl (by decide) ?_
      exact R_i k (bI_t' (by rw [show s = j by omega]; exact ha))
    · refine g_aload_n d_Fo_areChosenAlive_10 rfl ?_
      refine H_getR 113 d_Fo_areChosenAlive_11 f_Fo_15.g rfl rfl (by decide) rfl ?_
      refine g_iload_n d_Fo_areChosenAlive_14 rfl ?_
      refine H_ialdN d_Fo_areChosenAlive_15 rfl rfl (by omega) (by decide) ?_
      refine T_int (hrI (dg j)) (hd2 j c1) ?_
      refine P_iconst d_Fo_areChosenAlive_16 (-1) rfl ?_
      refine P_icmp_eq d_Fo_areChosenAlive_17 36 (by decide) (fun c2 => ?_) (fun c2 => ?_)
      · refine N_iinc_3_2_1 d_Fo_areChosenAlive_36 rfl rfl ?_
        refine P_goto d_Fo_areChosenAlive_39 2 (by decide) ?_
        exact ih _ (by omega) (j + 1) (by omega) (by rw [alB, ha, (hrI_inj (by omega)).mp c2]; rfl) rfl
      · obtain ⟨i, hi⟩ : ∃ i, dg j = i + 1 := ⟨dg j - 1, by have : dg j ≠ 0 := fun z => c2 ((hrI_inj (by omega)).mpr z); omega⟩
        have hs60 := hW.2.2 i (by omega)
        refine g_aload_n d_Fo_areChosenAlive_20 rfl ?_
        refine H_getR 54 d_Fo_areChosenAlive_21 f_Fo_45 rfl rfl (by decide) rfl ?_
        refine g_aload_n d_Fo_areChosenAlive_24 rfl ?_
        refine H_getR 113 d_Fo_areChosenAlive_25 f_Fo_15.g rfl rfl (by decide) rfl ?_
        refine g_iload_n d_Fo_areChosenAlive_28 rfl ?_
        refine H_ialdN d_Fo_areChosenAlive_29 rfl rfl (by omega) (by decide) ?_
        refine T_int (nI (i)) (by rw [hd2 j c1, hi]; rfl) ?_
        refine H_ialdN d_Fo_areChosenAlive_30 rfl rfl (by omega) (by decide) ?_
        refine T_int (nI (aS σ i)) (hS.2.2.1 i (by omega)) ?_
        refine N_if_ne d_Fo_areChosenAlive_31 36 (by decide) (by omega) (fun c3 => ?_) (fun c3 => ?_)
        · refine N_iinc_3_2_1 d_Fo_areChosenAlive_36 rfl rfl ?_
          refine P_goto d_Fo_areChosenAlive_39 2 (by decide) ?_
          exact ih _ (by omega) (j + 1) (by omega) (by rw [alB, ha, hi]; simp; omega) rfl
        · refine N_iconst d_Fo_areChosenAlive_34 0 rfl ?_
          refine P_zret d_Fo_areChosenAlive_35 rfl (by decide) ?_
          exact R_i k (bI_f' (by rw [alB_no s (j + 1) (by omega) (by rw [alB, hi]; simp [c3])]; exact Bool.false_ne_true))

theorem c_Fo_areChosenAlive {X : CX} {dl : List (Nat × Nat)} {mI : Nat → Nat → Int32} {dr : Nat → Nat → Nat} {Q : Option Value → AH → Prop} {T : TD} {σ : AS} {s : Nat} {dg : Nat → Nat} (hw : TW T) (hS : SC 53 T σ mI) (hW : SV T σ) (hs : s ≤ 5) (h5 : mI 111 5 = nI s) (hdg : ∀ j, dg j < tn T + 1) (hd2 : ∀ j, j < s → mI 113 j = hrI (dg j)) (k : Q (some (.int (bI (alB σ dg s = true)))) (hp X dl mI dr)) : EW X m_Fo_areChosenAlive 0 (enL m_Fo_areChosenAlive.2.2.1 [.ref 111, .ref 53]) [] (hp X dl mI dr) Q := by
  show EW X m_Fo_areChosenAlive 0 [.ref 111, .ref 53, jk] [] (hp X dl mI dr) Q
  refine N_iconst d_Fo_areChosenAlive_0 0 rfl ?_
  refine S_istore_n_3_2 d_Fo_areChosenAlive_1 rfl rfl ?_
  exact lp_Fo_alive hw hS hW hs h5 hdg hd2 k _ 0 (Nat.zero_le _) rfl rfl

theorem lp_Fo_give {X : CX} {dl : List (Nat × Nat)} {mI : Nat → Nat → Int32} {dr : Nat → Nat → Nat} {Q : Option Value → AH → Prop} {T : TD} {σ : AS} {s : Nat} {dg : Nat → Nat} (hw : TW T) (hT : TR 33 T mI) (hS : SC 53 T σ mI) (hW : SV T σ) (hs : s ≤ (Lm σ 5).length ∧ s ≤ 5) (h5 : mI 111 5 = nI s) (hdg : ∀ j, dg j < tn T + 1) (hd2 : ∀ j, j < s → mI 113 j = hrI (dg j)) (k : ∀ mI', SC 115 T (gvN σ dg s) mI' → SV T (gvN σ dg s) → Fa 115 mI mI' → Q none (hp X dl mI' dr)) : ∀ (d : Nat) (j : Nat) (mI2 : Nat → Nat → Int32) (v3 : Value), (j ≤ s) → (SC 115 T (gvN σ dg j) mI2) → (Fa 115 mI mI2) → s - j = d → EW X m_Fo_giveAsChosen 2 [.ref 111, .ref 53, .int (nI j), v3] [] (hp X dl mI2 dr) Q := by
  intro d
  induction d using Nat.strongRecOn with
  | _ d ih =>
    intro j mI2 v3 hj hS2 hF hd
    have hw1 := hw.1
    have hdj := hdg j
    have hgv := gvN_SV hW hw1 hdg j (by omega)
    have hT2 : TR 33 T mI2 := hT.to (fun r z1 z2 => hF r (by omega))
    have hS5 : SC 53 T σ mI2 := SR.to hS (fun r z1 z2 => hF r (by omega))
    have e113 := hF 113 (by omega)
    refine g_iload_n d_Fo_giveAsChosen_2 rfl ?_
    refine g_aload_n d_Fo_giveAsChosen_3 rfl ?_
    refine H_getI d_Fo_giveAsChosen_4 f_Fo_56.g rfl rfl (by decide) ?_
    refine T_int (nI (s)) ((congrFun (hF 111 (by omega)) 5).trans h5) ?_
    refine N_icmp_ge d_Fo_giveAsChosen_7 52 (by decide) ⟨by omega, by omega⟩ (fun c1 => ?_) (fun c1 => ?_)
    · refine P_vret d_Fo_giveAsChosen_52 rfl ?_
      rw [show s = j by omega] at k
      exact k _ hS2 hgv.1 hF
    · refine g_aload_n d_Fo_giveAsChosen_10 rfl ?_
      refine N_iconst d_Fo_giveAsChosen_11 5 rfl ?_
      refine g_iload_n d_Fo_giveAsChosen_12 rfl ?_
      refine C_V2 d_Fo_giveAsChosen_13 k_Fo_119 rfl (Nat.le_of_ble_eq_true rfl) (by decide) (Nat.le_of_ble_eq_true rfl) ?_
      refine (c_St_heldAt st53 hw hT2 hS5 hW (by omega) (by omega)) ?_
      refine T_int (nI ((Lm σ 5).getD j 0)) (hAt_eq (aH σ) 5 (aR σ) j (show j < (Lm σ 5).length by omega)) ?_
      refine S_istore_n_4_3 d_Fo_giveAsChosen_16 rfl rfl ?_
      have hmem : (Lm σ 5).getD j 0 ∈ Lm σ 5 := by rw [List.getD_eq_getElem?_getD, List.getElem?_eq_getElem (show j < (Lm σ 5).length by omega)]; exact List.getElem_mem _
      have hlt := (Lm_mem hW).mp hmem
      have hw2 := hw.2.1
      refine g_aload_n d_Fo_giveAsChosen_17 rfl ?_
      refine H_getR 113 d_Fo_giveAsChosen_18 f_Fo_15.g rfl rfl (by decide) rfl ?_
      refine g_iload_n d_Fo_giveAsChosen_21 rfl ?_
      refine H_ialdN d_Fo_giveAsChosen_22 rfl rfl (by omega) (by decide) ?_
      refine T_int (hrI (dg j)) ((congrFun e113 j).trans (hd2 j c1)) ?_
      refine P_iconst d_Fo_giveAsChosen_23 (-1) rfl ?_
      refine P_icmp_eq d_Fo_giveAsChosen_24 46 (by decide) (fun c2 => ?_) (fun c2 => ?_)
      · refine N_iinc_4_2_1 d_Fo_giveAsChosen_46 rfl rfl ?_
        refine P_goto d_Fo_giveAsChosen_49 2 (by decide) ?_
        exact ih _ (by omega) (j + 1) mI2 _ (by omega) (by rw [gvN, if_pos ((hrI_inj (by omega)).mp c2)]; exact hS2) hF rfl
      · have hd0 : dg j ≠ 0 := fun z => c2 ((hrI_inj (by omega)).mpr z)
        obtain ⟨i, hi⟩ : ∃ i, dg j = i + 1 := ⟨dg j - 1, by omega⟩
        refine g_iload_n d_Fo_giveAsChosen_27 rfl ?_
        refine P_iconst d_Fo_giveAsChosen_28 (-1) rfl ?_
        refine P_icmp_eq d_Fo_giveAsChosen_29 46 (by decide) (fun c3 => ?_) (fun c3 => ?_)
        · exact absurd c3 (nI_nm1 (by omega))
        · refine g_aload_n d_Fo_giveAsChosen_32 rfl ?_
          refine H_getR 115 d_Fo_giveAsChosen_33 f_Fo_30.g rfl rfl (by decide) rfl ?_
          refine g_iload_n d_Fo_giveAsChosen_36 rfl ?_
          refine g_aload_n d_Fo_giveAsChosen_37 rfl ?_
          refine H_getR 113 d_Fo_giveAsChosen_38 f_Fo_15.g rfl rfl (by decide) rfl ?_
          refine g_iload_n d_Fo_giveAsChosen_41 rfl ?_
          refine H_ialdN d_Fo_giveAsChosen_42 rfl rfl (by omega) (by decide) ?_
          refine T_int (nI (dg j - 1)) (by rw [congrFun e113 j, hd2 j c1, hi]; rfl) ?_
          refine C_V2 d_Fo_giveAsChosen_43 k_Fo_122 rfl (Nat.le_of_ble_eq_true rfl) (by decide) (Nat.le_of_ble_eq_true rfl) ?_
          refine c_St_handOver st115 hw hT2 hS2 hgv.1 (hgv.1.mem hlt.1) (hgv.2 _ (by omega)) (by omega) (fun mI3 hS3 hF3 => ?_)
          refine N_iinc_4_2_1 d_Fo_giveAsChosen_46 rfl rfl ?_
          refine P_goto d_Fo_giveAsChosen_49 2 (by decide) ?_
          exact ih _ (by omega) (j + 1) mI3 _ (by omega) (by rw [gvN, if_neg hd0]; exact hS3) (hF.tr hF3) rfl

theorem c_Fo_giveAsChosen {X : CX} {dl : List (Nat × Nat)} {mI : Nat → Nat → Int32} {dr : Nat → Nat → Nat} {Q : Option Value → AH → Prop} {T : TD} {σ : AS} {s : Nat} {dg : Nat → Nat} (hw : TW T) (hT : TR 33 T mI) (hS : SC 53 T σ mI) (hW : SV T σ) (hs : s ≤ (Lm σ 5).length ∧ s ≤ 5) (h5 : mI 111 5 = nI s) (hdg : ∀ j, dg j < tn T + 1) (hd2 : ∀ j, j < s → mI 113 j = hrI (dg j)) (h0 : SC 115 T σ mI) (k : ∀ mI', SC 115 T (gvN σ dg s) mI' → SV T (gvN σ dg s) → Fa 115 mI mI' → Q none (hp X dl mI' dr)) : EW X m_Fo_giveAsChosen 0 (enL m_Fo_giveAsChosen.2.2.1 [.ref 111, .ref 53]) [] (hp X dl mI dr) Q := by
  show EW X m_Fo_giveAsChosen 0 [.ref 111, .ref 53, jk, jk] [] (hp X dl mI dr) Q
  refine N_iconst d_Fo_giveAsChosen_0 0 rfl ?_
  refine S_istore_n_4_2 d_Fo_giveAsChosen_1 rfl rfl ?_
  exact lp_Fo_give hw hT hS hW hs h5 hdg hd2 k _ 0 mI _ (Nat.zero_le _) h0 Fa.rf rfl

theorem lp_Fo_gf1 {X : CX} {dl : List (Nat × Nat)} {mI : Nat → Nat → Int32} {dr : Nat → Nat → Nat} {Q : Option Value → AH → Prop} {T : TD} {n s : Nat} (hw : TW T) (hT : TR 33 T mI) (hs : s ≤ 3) (h5 : mI 111 5 = nI s) (k : EW X m_Fo_findBestGodfathers 45 [.ref 111, .ref 53, .int (nI n), .int (nI ((tn T + 1) ^ s)), .int (nI s)] [] (hp X dl mI dr) Q) : ∀ (d : Nat) (j : Nat), (j ≤ s) → s - j = d → EW X m_Fo_findBestGodfathers 18 [.ref 111, .ref 53, .int (nI n), .int (nI ((tn T + 1) ^ j)), .int (nI j)] [] (hp X dl mI dr) Q := by
  intro d
  induction d using Nat.strongRecOn with
  | _ d ih =>
    intro j hj hd
    refine g_iload d_Fo_findBestGodfathers_18 rfl ?_
    refine g_aload_n d_Fo_findBestGodfathers_20 rfl ?_
    refine H_getI d_Fo_findBestGodfathers_21 f_Fo_56.g rfl rfl (by decide) ?_
    refine T_int (nI (s)) h5 ?_
    refine N_icmp_ge d_Fo_findBestGodfathers_24 45 (by decide) ⟨by omega, by omega⟩ (fun c1 => ?_) (fun c1 => ?_)
    · rw [show s = j by omega] at k
      exact k
    · refine g_iload_n d_Fo_findBestGodfathers_27 rfl ?_
      refine g_aload_n d_Fo_findBestGodfathers_28 rfl ?_
      refine H_getR 33 d_Fo_findBestGodfathers_29 f_Fo_21.g rfl rfl (by decide) rfl ?_
      refine H_getI d_Fo_findBestGodfathers_32 f_Fo_106.g rfl rfl (by decide) ?_
      refine T_int (nI (tn T)) hT.1 ?_
      refine N_iconst d_Fo_findBestGodfathers_35 1 rfl ?_
      refine N_iadd d_Fo_findBestGodfathers_36 ?_
      refine N_imul d_Fo_findBestGodfathers_37 ?_
      refine S_istore_n_5_3 d_Fo_findBestGodfathers_38 rfl rfl ?_
      refine N_iinc_5_4_1 d_Fo_findBestGodfathers_39 rfl rfl ?_
      refine P_goto d_Fo_findBestGodfathers_42 18 (by decide) ?_
      rw [← Nat.pow_succ]
      exact ih _ (by omega) (j + 1) (by omega) rfl

theorem gf_le {T : TD} {n : Nat} {σ : AS} {s : Nat} : ∀ w, (gf T n σ s w).1 ≤ 11
  | 0 => Nat.zero_le _
  | w + 1 => by rw [gf]; split
                · exact wg_le (gf_le w)
                · exact gf_le w
theorem b_pow {b s : Nat} (hb : b ≤ 6) (hs : s ≤ 3) : b ^ s ≤ 216 := by
  have h1 : b ^ s ≤ 6 ^ s := Nat.pow_le_pow_left hb s
  have h2 : 6 ^ s ≤ 6 ^ 3 := Nat.pow_le_pow_right (by decide) hs
  omega
theorem lp_Fo_gf2 {X : CX} {dl : List (Nat × Nat)} {mI : Nat → Nat → Int32} {dr : Nat → Nat → Nat} {Q : Option Value → AH → Prop} {T : TD} {σ : AS} {n : Nat} (hw : TW T) (hT : TR 33 T mI) (hS : SC 53 T σ mI) (hW : SV T σ) (hn : n < 2 ^ 31) {s : Nat} (hs : s ≤ (Lm σ 5).length ∧ s ≤ 3) (k : ∀ mI', FB s (gf T n σ s ((tn T + 1) ^ s)) mI' → Fx 111 120 mI mI' → Q none (hp X dl mI' dr)) : ∀ (d : Nat) (w : Nat) (mI2 : Nat → Nat → Int32), (w ≤ (tn T + 1) ^ s) → (FB s (gf T n σ s w) mI2) → (Fx 111 120 mI mI2) → (tn T + 1) ^ s - w = d → EW X m_Fo_findBestGodfathers 53 [.ref 111, .ref 53, .int (nI n), .int (nI ((tn T + 1) ^ s)), .int (nI w)] [] (hp X dl mI2 dr) Q := by
  intro d
  induction d using Nat.strongRecOn with
  | _ d ih =>
    intro w mI2 hwb hB hF hd
    have hw1 := hw.1
    have hb6 := b_pow (b := tn T + 1) (s := s) (by omega) hs.2
    refine g_iload d_Fo_findBestGodfathers_53 rfl ?_
    refine g_iload_n d_Fo_findBestGodfathers_55 rfl ?_
    refine N_icmp_ge d_Fo_findBestGodfathers_56 97 (by decide) ⟨by omega, by omega⟩ (fun c1 => ?_) (fun c1 => ?_)
    · refine P_vret d_Fo_findBestGodfathers_97 rfl ?_
      rw [show (tn T + 1) ^ s = w by omega] at k
      exact k _ hB hF
    · refine g_aload_n d_Fo_findBestGodfathers_59 rfl ?_
      refine g_iload d_Fo_findBestGodfathers_60 rfl ?_
      refine C_V1 d_Fo_findBestGodfathers_62 k_Fo_109 rfl (Nat.le_of_ble_eq_true rfl) (by decide) (Nat.le_of_ble_eq_true rfl) ?_
      refine c_Fo_chooseWay hw (hT.f115 hF) (by omega) (by omega) hB.1 (fun mI3 hd3 hF3 => ?_)
      have hF03 : Fx 111 120 mI mI3 := hF.tr (hF3.mo (by omega) (by omega))
      have hB3 : FB s (gf T n σ s w) mI3 := hB.to (hF3 111 (by omega)) (hF3 114 (by omega))
      refine g_aload_n d_Fo_findBestGodfathers_65 rfl ?_
      refine g_aload_n d_Fo_findBestGodfathers_66 rfl ?_
      refine C_V1 d_Fo_findBestGodfathers_67 k_Fo_112 rfl (Nat.le_of_ble_eq_true rfl) (by decide) (Nat.le_of_ble_eq_true rfl) ?_
      refine (c_Fo_areChosenAlive hw (hS.f115 hF03) hW (by omega) hB3.1 (fun j => dgt_lt (by omega)) hd3) ?_
      refine B_eq d_Fo_findBestGodfathers_70 91 (by decide) (fun c2 => ?_) (fun c2 => ?_)
      · refine N_iinc_5_4_1 d_Fo_findBestGodfathers_91 rfl rfl ?_
        refine P_goto d_Fo_findBestGodfathers_94 53 (by decide) ?_
        exact ih _ (by omega) (w + 1) mI3 (by omega) (by rw [gf, if_neg c2]; exact hB3) hF03 rfl
      · refine g_aload_n d_Fo_findBestGodfathers_73 rfl ?_
        refine H_getR 115 d_Fo_findBestGodfathers_74 f_Fo_30.g rfl rfl (by decide) rfl ?_
        refine g_aload_n d_Fo_findBestGodfathers_77 rfl ?_
        refine C_V1 d_Fo_findBestGodfathers_78 k_Fo_34 rfl (Nat.le_of_ble_eq_true rfl) (by decide) (Nat.le_of_ble_eq_true rfl) ?_
        refine c_St_copyFrom st115 st53 (by omega) hw (hS.f115 hF03) (fun mI4 hS4 hF4 => ?_)
        have hF04 : Fx 111 120 mI mI4 := hF03.tr hF4.f115
        refine g_aload_n d_Fo_findBestGodfathers_81 rfl ?_
        refine g_aload_n d_Fo_findBestGodfathers_82 rfl ?_
        refine C_V1 d_Fo_findBestGodfathers_83 k_Fo_116 rfl (Nat.le_of_ble_eq_true rfl) (by decide) (Nat.le_of_ble_eq_true rfl) ?_
        refine c_Fo_giveAsChosen (dg := dgt (tn T + 1) s w) hw (hT.f115 hF04) (hS.f115 hF04) hW ⟨hs.1, by omega⟩ ((congrFun (hF4 111 (by omega)) 5).trans hB3.1) (fun j => dgt_lt (by omega)) (fun j hj => (congrFun (hF4 113 (by omega)) j).trans (hd3 j hj)) hS4 (fun mI5 hS5 hW5 hF5 => ?_)
        have hF45 := hF4.tr hF5
        have hF05 : Fx 111 120 mI mI5 := hF04.tr hF5.f115
        refine g_aload_n d_Fo_findBestGodfathers_86 rfl ?_
        refine g_iload_n d_Fo_findBestGodfathers_87 rfl ?_
        refine C_V1 d_Fo_findBestGodfathers_88 k_Fo_70 rfl (Nat.le_of_ble_eq_true rfl) (by decide) (Nat.le_of_ble_eq_true rfl) ?_
        refine c_Fo_weighTrial (u := fun j => hrI (dgt (tn T + 1) s w j)) hw (hT.f115 hF05) hS5 hW5 (by omega) hn (hB3.to (hF45 111 (by omega)) (hF45 114 (by omega))) (fun j hj => (congrFun (hF45 113 (by omega)) j).trans (hd3 j hj)) (fun mI6 hB6 hF6 => ?_)
        refine N_iinc_5_4_1 d_Fo_findBestGodfathers_91 rfl rfl ?_
        refine P_goto d_Fo_findBestGodfathers_94 53 (by decide) ?_
        exact ih _ (by omega) (w + 1) mI6 (by omega) (by rw [gf, if_pos c2]; exact hB6) (hF05.tr hF6.x) rfl

theorem c_Fo_findBestGodfathers {X : CX} {dl : List (Nat × Nat)} {mI : Nat → Nat → Int32} {dr : Nat → Nat → Nat} {Q : Option Value → AH → Prop} {T : TD} {σ : AS} {n : Nat} (hw : TW T) (hT : TR 33 T mI) (hS : SC 53 T σ mI) (hW : SV T σ) (hn : n < 2 ^ 31) (k : ∀ mI', FB (min (Lm σ 5).length 3) (gf T n σ (min (Lm σ 5).length 3) ((tn T + 1) ^ (min (Lm σ 5).length 3))) mI' → Fx 111 120 mI mI' → Q none (hp X dl mI' dr)) : EW X m_Fo_findBestGodfathers 0 (enL m_Fo_findBestGodfathers.2.2.1 [.ref 111, .ref 53, .int (nI n)]) [] (hp X dl mI dr) Q := by
  show EW X m_Fo_findBestGodfathers 0 [.ref 111, .ref 53, .int (nI n), jk, jk] [] (hp X dl mI dr) Q
  have hw2 := hw.2.1
  have hcl := cntH_le (aH σ) 5 (tP T)
  refine g_aload_n d_Fo_findBestGodfathers_0 rfl ?_
  refine g_aload_n d_Fo_findBestGodfathers_1 rfl ?_
  refine N_iconst d_Fo_findBestGodfathers_2 5 rfl ?_
  refine C_V1 d_Fo_findBestGodfathers_3 k_Fo_48 rfl (Nat.le_of_ble_eq_true rfl) (by decide) (Nat.le_of_ble_eq_true rfl) ?_
  refine (c_St_howManyHeldBy st53 hw hT hS hW (by omega)) ?_
  refine N_iconst d_Fo_findBestGodfathers_6 3 rfl ?_
  refine P_mmin d_Fo_findBestGodfathers_7 z_Fo_100 (by decide) (Nat.le_of_ble_eq_true rfl) ?_
  rw [nI_min (by omega) (by omega), ← Lm_len hW 5]
  refine H_putI d_Fo_findBestGodfathers_10 f_Fo_56 rfl rfl (by decide) ?_
  refine N_iconst d_Fo_findBestGodfathers_13 1 rfl ?_
  refine S_istore_n_5_3 d_Fo_findBestGodfathers_14 rfl rfl ?_
  refine N_iconst d_Fo_findBestGodfathers_15 0 rfl ?_
  refine S_istore_5_4 d_Fo_findBestGodfathers_16 rfl rfl ?_
  have hT1 : TR 33 T (sI mI 111 5 (nI (min (Lm σ 5).length 3))) := hT.to (fun r z1 z2 => sI_r (by omega))
  have hS1 : SC 53 T σ (sI mI 111 5 (nI (min (Lm σ 5).length 3))) := SR.to hS (fun r z1 z2 => sI_r (by omega))
  refine lp_Fo_gf1 hw hT1 (by omega) (sI_s _ _ _ _) ?_ _ 0 (Nat.zero_le _) rfl
  refine g_aload_n d_Fo_findBestGodfathers_45 rfl ?_
  refine P_iconst d_Fo_findBestGodfathers_46 (-1) rfl ?_
  refine H_putI d_Fo_findBestGodfathers_47 f_Fo_52 rfl rfl (by decide) ?_
  refine N_iconst d_Fo_findBestGodfathers_50 0 rfl ?_
  refine S_istore_5_4 d_Fo_findBestGodfathers_51 rfl rfl ?_
  exact lp_Fo_gf2 hw hT hS hW hn ⟨by omega, by omega⟩ k _ 0 _ (Nat.zero_le _) ⟨by rw [sI_n (by omega)]; exact sI_s _ _ _ _, sI_s _ _ _ _, Nat.zero_le _, fun z => absurd rfl z⟩ (Fx_sI (Fx_sI Fx.rf (by omega)) (by omega)) rfl

