def sWr (t : Nat → Int32) (L : Nat) (x : Int32) : ((Nat → Int32) × Nat) × Int32 := if ¬ inN x 256 then ((t, L), -3) else if L = 200 then ((t, L), -5) else ((fun i => if i = L then x else t i, L + 1), nI (L + 1))
theorem XR.L0 {t : Nat → Int32} {L : Nat} {mI : Nat → Nat → Int32} (h : XR t L mI) : XR t 0 (sI mI 51 1 (nI 0)) := ⟨by decide, sI_s _ _ _ _, fun i hi => absurd hi (Nat.not_lt_zero _)⟩
theorem c_Pn_write {X : CX} {dl : List (Nat × Nat)} {mI : Nat → Nat → Int32} {dr : Nat → Nat → Nat} {Q : Option Value → AH → Prop} {t : Nat → Int32} {L : Nat} {x : Int32} (hX : XR t L mI) (k : ∀ mI', XR (sWr t L x).1.1 (sWr t L x).1.2 mI' → Fx 51 52 mI mI' → Q (some (.int (sWr t L x).2)) (hp X dl mI' dr)) : EW X m_Pn_write 0 (enL m_Pn_write.2.2.1 [.ref 32, .int x]) [] (hp X dl mI dr) Q := by
  show EW X m_Pn_write 0 [.ref 32, .int x] [] (hp X dl mI dr) Q
  have hL := hX.1
  refine g_iload_n d_Pn_write_0 rfl ?_
  refine N_iconst d_Pn_write_1 0 rfl ?_
  refine N_sipush d_Pn_write_2 255 rfl ?_
  refine C_S3 d_Pn_write_5 k_Pn_71 (Nat.le_of_ble_eq_true rfl) (by decide) (Nat.le_of_ble_eq_true rfl) ?_
  refine c_Pn_isWithin ?_
  refine B_ne d_Pn_write_8 14 (by decide) (fun c1 => ?_) (fun c1 => ?_)
  · have hin := (in_N (b := 255) (by decide)).mp c1
    rcases (show L = 200 ∨ L < 200 by omega) with h2 | h2
    · have e : sWr t L x = ((t, L), -5) := by unfold sWr; rw [if_neg (fun z => z hin), if_pos h2]
      rw [e] at k
      refine g_aload_n d_Pn_write_14 rfl ?_
      refine H_getR 51 d_Pn_write_15 f_Pn_22.g rfl rfl (by decide) rfl ?_
      refine g_iload_n d_Pn_write_18 rfl ?_
      refine C_V1 d_Pn_write_19 k_Pn_75 rfl (Nat.le_of_ble_eq_true rfl) (by decide) (Nat.le_of_ble_eq_true rfl) ?_
      refine c_Rd_addLetterF hX h2 ?_
      refine N_if_eq d_Pn_write_22 35 (by decide) (by omega) (fun dd1 => ?_) (fun dd1 => ?_)
      · refine P_bipush d_Pn_write_35 (-5) rfl ?_
        refine P_iret d_Pn_write_37 rfl ?_
        exact k _ hX Fx.rf
      · exact absurd rfl dd1
    · have e : sWr t L x = ((fun i => if i = L then x else t i, L + 1), nI (L + 1)) := by unfold sWr; rw [if_neg (fun z => z hin), if_neg (by omega)]
      rw [e] at k
      refine g_aload_n d_Pn_write_14 rfl ?_
      refine H_getR 51 d_Pn_write_15 f_Pn_22.g rfl rfl (by decide) rfl ?_
      refine g_iload_n d_Pn_write_18 rfl ?_
      refine C_V1 d_Pn_write_19 k_Pn_75 rfl (Nat.le_of_ble_eq_true rfl) (by decide) (Nat.le_of_ble_eq_true rfl) ?_
      refine c_Rd_addLetter hX h2 (fun mI1 hX1 hF1 => ?_)
      refine N_if_eq d_Pn_write_22 35 (by decide) (by omega) (fun dd1 => ?_) (fun dd1 => ?_)
      · omega
      · refine g_aload_n d_Pn_write_25 rfl ?_
        refine H_getR 51 d_Pn_write_26 f_Pn_22.g rfl rfl (by decide) rfl ?_
        refine H_getI d_Pn_write_29 f_Pn_79.g rfl rfl (by decide) ?_
        refine T_int (nI (L + 1)) hX1.2.1 ?_
        refine P_goto d_Pn_write_32 37 (by decide) ?_
        refine P_iret d_Pn_write_37 rfl ?_
        exact k _ hX1 hF1
  · refine P_bipush d_Pn_write_11 (-3) rfl ?_
    refine P_iret d_Pn_write_13 rfl ?_
    have e : sWr t L x = ((t, L), -3) := by unfold sWr; rw [if_pos (fun z => c1 ((in_N (by decide)).mpr z))]
    rw [e] at k
    exact k _ hX Fx.rf

theorem c_Pn_erase {X : CX} {dl : List (Nat × Nat)} {mI : Nat → Nat → Int32} {dr : Nat → Nat → Nat} {Q : Option Value → AH → Prop} {t : Nat → Int32} {L : Nat} (hX : XR t L mI) (k : ∀ mI', XR t 0 mI' → Fx 51 52 mI mI' → Q (some (.int (nI L))) (hp X dl mI' dr)) : EW X m_Pn_erase 0 (enL m_Pn_erase.2.2.1 [.ref 32]) [] (hp X dl mI dr) Q := by
  show EW X m_Pn_erase 0 [.ref 32, jk] [] (hp X dl mI dr) Q
  refine g_aload_n d_Pn_erase_0 rfl ?_
  refine H_getR 51 d_Pn_erase_1 f_Pn_22.g rfl rfl (by decide) rfl ?_
  refine H_getI d_Pn_erase_4 f_Pn_79.g rfl rfl (by decide) ?_
  refine T_int (nI L) hX.2.1 ?_
  refine S_istore_n_2_1 d_Pn_erase_7 rfl rfl ?_
  refine g_aload_n d_Pn_erase_8 rfl ?_
  refine H_getR 51 d_Pn_erase_9 f_Pn_22.g rfl rfl (by decide) rfl ?_
  refine N_iconst d_Pn_erase_12 0 rfl ?_
  refine H_putI d_Pn_erase_13 f_Pn_79 rfl rfl (by decide) ?_
  refine g_iload_n d_Pn_erase_16 rfl ?_
  refine P_iret d_Pn_erase_17 rfl ?_
  exact k _ hX.L0 (Fx_sI Fx.rf (by omega))

theorem c_Pn_fault {X : CX} {dl : List (Nat × Nat)} {mI : Nat → Nat → Int32} {dr : Nat → Nat → Nat} {Q : Option Value → AH → Prop} {T : TD} (hw : TW T) (hT : TR 33 T mI) {t : Nat → Int32} {L : Nat} (hX : XR t L mI) (k : ∀ mI', XR t L mI' → Fx 42 51 mI mI' → Q (some (.int (noI (rdN t L 24 0 T 0).1))) (hp X dl mI' dr)) : EW X m_Pn_fault 0 (enL m_Pn_fault.2.2.1 [.ref 32]) [] (hp X dl mI dr) Q := by
  show EW X m_Pn_fault 0 [.ref 32] [] (hp X dl mI dr) Q
  refine g_aload_n d_Pn_fault_0 rfl ?_
  refine H_getR 42 d_Pn_fault_1 f_Pn_16.g rfl rfl (by decide) rfl ?_
  refine g_aload_n d_Pn_fault_4 rfl ?_
  refine H_getR 33 d_Pn_fault_5 f_Pn_10.g rfl rfl (by decide) rfl ?_
  refine C_V1 d_Pn_fault_8 k_Pn_83 rfl (Nat.le_of_ble_eq_true rfl) (by decide) (Nat.le_of_ble_eq_true rfl) ?_
  refine c_Tl_copyFrom42 hw hT (fun mI1 hT1 hF1 => ?_)
  refine g_aload_n d_Pn_fault_11 rfl ?_
  refine H_getR 51 d_Pn_fault_12 f_Pn_22.g rfl rfl (by decide) rfl ?_
  refine g_aload_n d_Pn_fault_15 rfl ?_
  refine H_getR 42 d_Pn_fault_16 f_Pn_16.g rfl rfl (by decide) rfl ?_
  refine C_V1 d_Pn_fault_19 k_Pn_86 rfl (Nat.le_of_ble_eq_true rfl) (by decide) (Nat.le_of_ble_eq_true rfl) ?_
  refine c_Rd_readInto (t := t) hw ⟨hX.1, by rw [hF1 51 (by omega)]; exact hX.2.1, fun i hi => by rw [hF1 52 (by omega)]; exact hX.2.2 i hi⟩ hT1 (fun mI2 hX2 h2 hN hF2 => ?_)
  refine P_iret d_Pn_fault_22 rfl ?_
  exact k _ hX2 ((hF1.mo (by omega) (by omega)).tr hF2)

theorem lp_Pn_begin {X : CX} {dl : List (Nat × Nat)} {mI : Nat → Nat → Int32} {dr : Nat → Nat → Nat} {Q : Option Value → AH → Prop} (k : ∀ mI', (∀ j, j < 2 → mI' 110 j = nI 0) → (∀ r, r ≠ 110 → mI' r = mI r) → EW X m_Pn_beginAnew 35 [.ref 32, .int (nI 2)] [] (hp X dl mI' dr) Q) : ∀ (d : Nat) (i : Nat) (mI2 : Nat → Nat → Int32), (i ≤ 2) → (∀ j, j < i → mI2 110 j = nI 0) → (∀ r, r ≠ 110 → mI2 r = mI r) → 2 - i = d → EW X m_Pn_beginAnew 17 [.ref 32, .int (nI i)] [] (hp X dl mI2 dr) Q := by
  intro d
  induction d using Nat.strongRecOn with
  | _ d ih =>
    intro i mI2 hi hz hF hd
    refine g_iload_n d_Pn_beginAnew_17 rfl ?_
    refine N_iconst d_Pn_beginAnew_18 2 rfl ?_
    refine N_icmp_ge d_Pn_beginAnew_19 35 (by decide) ⟨by omega, by omega⟩ (fun c1 => ?_) (fun c1 => ?_)
    · have e : i = 2 := by omega
      subst e
      exact k _ hz hF
    · refine g_aload_n d_Pn_beginAnew_22 rfl ?_
      refine H_getR 110 d_Pn_beginAnew_23 f_Pn_46.g rfl rfl (by decide) rfl ?_
      refine g_iload_n d_Pn_beginAnew_26 rfl ?_
      refine N_iconst d_Pn_beginAnew_27 0 rfl ?_
      refine H_zastN d_Pn_beginAnew_28 rfl rfl (by omega) (by decide) (Or.inl rfl) ?_
      refine N_iinc_2_1_1 d_Pn_beginAnew_29 rfl rfl ?_
      refine P_goto d_Pn_beginAnew_32 17 (by decide) ?_
      exact ih _ (by omega) (i + 1) _ (by omega) (fun j hj => by
        by_cases z : j = i
        · rw [z]; exact sI_s _ _ _ _
        · rw [sI_n (by omega)]; exact hz j (by omega)) (fun r hr => by rw [sI_r hr]; exact hF r hr) rfl

theorem PR.nx {T : TD} {l : List AS} {mI : Nat → Nat → Int32} (h : PR T l mI) : ∃ nx, nx < 8 ∧ mI 59 1 = nI nx := by
  obtain ⟨nx, g1, g2, g3, g4, g5⟩ := h
  exact ⟨nx, g1, g3⟩
theorem PR_nil {T : TD} {mI mI' : Nat → Nat → Int32} (h : ∃ nx, nx < 8 ∧ mI 59 1 = nI nx) (h1 : mI' 59 1 = mI 59 1) (h2 : mI' 59 2 = nI 0) : PR T [] mI' := by
  obtain ⟨nx, g1, g3⟩ := h
  exact ⟨nx, g1, by simp, h1.trans g3, h2, fun k σ hk => nomatch hk⟩
theorem c_Pn_beginAnew {X : CX} {dl : List (Nat × Nat)} {mI : Nat → Nat → Int32} {dr : Nat → Nat → Nat} {Q : Option Value → AH → Prop} {T : TD} (hw : TW T) (hT : TR 33 T mI) {G : GD} {S : RS} (hP : ∃ nx, nx < 8 ∧ mI 59 1 = nI nx) (k : ∀ mI' dr', SC 53 T (s0 T) mI' → PR T [] mI' → KR T (fun _ => none) mI' → GR (0, G.2) mI' → CG (fun _ => none, S.2) dl dr' mI' → Fx 53 124 mI mI' → Q none (hp X dl mI' dr')) : EW X m_Pn_beginAnew 0 (enL m_Pn_beginAnew.2.2.1 [.ref 32]) [] (hp X dl mI dr) Q := by
  show EW X m_Pn_beginAnew 0 [.ref 32, jk] [] (hp X dl mI dr) Q
  refine g_aload_n d_Pn_beginAnew_0 rfl ?_
  refine H_getR 53 d_Pn_beginAnew_1 f_Pn_31.g rfl rfl (by decide) rfl ?_
  refine C_V0 d_Pn_beginAnew_4 k_Pn_96 rfl (Nat.le_of_ble_eq_true rfl) (by decide) (Nat.le_of_ble_eq_true rfl) ?_
  refine c_St_setAsTold (σ := s0 T) st53 hw hT (fun mI1 hS1 hF1 => ?_)
  refine g_aload_n d_Pn_beginAnew_7 rfl ?_
  refine H_getR 59 d_Pn_beginAnew_8 f_Pn_38.g rfl rfl (by decide) rfl ?_
  refine N_iconst d_Pn_beginAnew_11 0 rfl ?_
  refine H_putI d_Pn_beginAnew_12 f_Pn_99 rfl rfl (by decide) ?_
  refine N_iconst d_Pn_beginAnew_15 0 rfl ?_
  refine S_istore_n_2_1 d_Pn_beginAnew_16 rfl rfl ?_
  refine lp_Pn_begin (fun mI2 hz hF2 => ?_) _ 0 _ (Nat.zero_le _) (fun j hj => absurd hj (Nat.not_lt_zero _)) (fun r _ => rfl) rfl
  refine g_aload_n d_Pn_beginAnew_35 rfl ?_
  refine H_getR 121 d_Pn_beginAnew_36 f_Pn_60.g rfl rfl (by decide) rfl ?_
  refine N_iconst d_Pn_beginAnew_39 0 rfl ?_
  refine H_putI d_Pn_beginAnew_40 f_Pn_102 rfl rfl (by decide) ?_
  refine g_aload_n d_Pn_beginAnew_43 rfl ?_
  refine H_getR 125 d_Pn_beginAnew_44 f_Pn_67.g rfl rfl (by decide) rfl ?_
  refine C_V0 d_Pn_beginAnew_47 k_Pn_103 rfl (Nat.le_of_ble_eq_true rfl) (by decide) (Nat.le_of_ble_eq_true rfl) ?_
  refine c_Sh_clear (S := S) (fun dr1 hC1 => ?_)
  refine P_vret d_Pn_beginAnew_50 rfl ?_
  have hF3 : ∀ r, r ≠ 121 → r ≠ 110 → r ≠ 59 → sI mI2 121 3 (nI 0) r = mI1 r := fun r q1 q2 q3 => by rw [sI_r q1, hF2 r q2, sI_r q3]
  refine k _ dr1 (SR.to hS1 (fun r z1 z2 => hF3 r (by omega) (by omega) (by omega))) (PR_nil hP ?_ ?_) (fun j hj => ⟨?_, fun σ hs => nomatch hs⟩) ⟨sI_s _ _ _ _, fun i hi => absurd hi (Nat.not_lt_zero _)⟩ hC1 (fun r hr => (hF3 r (by omega) (by omega) (by omega)).trans (hF1 r (by omega)))
  · rw [sI_r (by omega), hF2 59 (by omega), sI_n (by omega), hF1 59 (by omega)]
  · rw [sI_r (by omega), hF2 59 (by omega)]; exact sI_s _ _ _ _
  · rw [sI_r (by omega), hz j hj]; rfl

theorem noI_m1 {r : Option Nat} (h : ∀ x, r = some x → x < 2 ^ 31) : noI r = -1 ↔ r = none := by
  cases r with
  | none => exact ⟨fun _ => rfl, fun _ => rfl⟩
  | some x => exact ⟨fun z => absurd z (nI_nm1 (h x rfl)), fun z => nomatch z⟩
theorem rdCl_le {t : Nat → Int32} {L : Nat} {T : TD} {x : Nat} (hx : x ≤ L) : (rdCl t L T x).2.2 ≤ L := by
  have l1 := (tk_le (t := t) hx).2.2
  have l2 := (tk_le (t := t) l1).2.2
  have l3 := (tk_le (t := t) l2).2.2
  have l4 := (tk_le (t := t) l3).2.2
  unfold rdCl
  split
  · exact l1
  · split
    · unfold rdMan; (repeat' split) <;> assumption
    · split
      · unfold rdStr; (repeat' split) <;> assumption
      · split
        · exact hx
        · unfold rdPro; (repeat' split) <;> assumption
theorem rdN_le {t : Nat → Int32} {L : Nat} : ∀ (d c : Nat) (T : TD) (x : Nat), x ≤ L → ∀ y, (rdN t L d c T x).1 = some y → y ≤ L
  | 0, c, T, x, hx, y, h => by
    rw [rdN] at h
    injection h with h
    have := tk_le (t := t) hx; omega
  | d + 1, c, T, x, hx, y, h => by
    have hc := rdCl_le (t := t) (T := T) hx
    have l1 := tk_le (t := t) hc
    rw [rdN] at h
    split at h
    · injection h with h; omega
    · split at h
      · cases h
      · split at h
        · injection h with h; omega
        · exact rdN_le d _ _ _ l1.2.2 y h
theorem c_Pn_parish {X : CX} {dl : List (Nat × Nat)} {mI : Nat → Nat → Int32} {dr : Nat → Nat → Nat} {Q : Option Value → AH → Prop} {T : TD} (hw : TW T) (hT : TR 33 T mI) {t : Nat → Int32} {L : Nat} {l : List AS} {G : GD} {S : RS} (hX : XR t L mI) (hP : PR T l mI) (k1 : ∀ mI', (rdN t L 24 0 T 0).1 ≠ none → XR t L mI' → Fx 42 51 mI mI' → Q (some (.int (-4))) (hp X dl mI' dr)) (k2 : ∀ mI' dr', (rdN t L 24 0 T 0).1 = none → TW (rdN t L 24 0 T 0).2.1 → TR 33 (rdN t L 24 0 T 0).2.1 mI' → XR t 0 mI' → SC 53 (rdN t L 24 0 T 0).2.1 (s0 (rdN t L 24 0 T 0).2.1) mI' → PR (rdN t L 24 0 T 0).2.1 [] mI' → KR (rdN t L 24 0 T 0).2.1 (fun _ => none) mI' → GR (0, G.2) mI' → CG (fun _ => none, S.2) dl dr' mI' → Fx 33 124 mI mI' → Q (some (.int (nI (rdN t L 24 0 T 0).2.2))) (hp X dl mI' dr')) : EW X m_Pn_parish 0 (enL m_Pn_parish.2.2.1 [.ref 32]) [] (hp X dl mI dr) Q := by
  show EW X m_Pn_parish 0 [.ref 32] [] (hp X dl mI dr) Q
  have hL := hX.1
  have hno := noI_m1 (r := (rdN t L 24 0 T 0).1) (fun x hx => by have := rdN_le 24 0 T 0 (Nat.zero_le _) x hx; omega)
  refine g_aload_n d_Pn_parish_0 rfl ?_
  refine H_getR 42 d_Pn_parish_1 f_Pn_16.g rfl rfl (by decide) rfl ?_
  refine g_aload_n d_Pn_parish_4 rfl ?_
  refine H_getR 33 d_Pn_parish_5 f_Pn_10.g rfl rfl (by decide) rfl ?_
  refine C_V1 d_Pn_parish_8 k_Pn_83 rfl (Nat.le_of_ble_eq_true rfl) (by decide) (Nat.le_of_ble_eq_true rfl) ?_
  refine c_Tl_copyFrom42 hw hT (fun mI1 hT1 hF1 => ?_)
  refine g_aload_n d_Pn_parish_11 rfl ?_
  refine H_getR 51 d_Pn_parish_12 f_Pn_22.g rfl rfl (by decide) rfl ?_
  refine g_aload_n d_Pn_parish_15 rfl ?_
  refine H_getR 42 d_Pn_parish_16 f_Pn_16.g rfl rfl (by decide) rfl ?_
  refine C_V1 d_Pn_parish_19 k_Pn_86 rfl (Nat.le_of_ble_eq_true rfl) (by decide) (Nat.le_of_ble_eq_true rfl) ?_
  refine c_Rd_readInto (t := t) hw ⟨hX.1, by rw [hF1 51 (by omega)]; exact hX.2.1, fun i hi => by rw [hF1 52 (by omega)]; exact hX.2.2 i hi⟩ hT1 (fun mI2 hX2 h2 hN hF2 => ?_)
  have hF02 : Fx 42 51 mI mI2 := (hF1.mo (by omega) (by omega)).tr hF2
  refine P_iconst d_Pn_parish_22 (-1) rfl ?_
  refine P_icmp_eq d_Pn_parish_23 29 (by decide) (fun c1 => ?_) (fun c1 => ?_)
  · have hn := hno.mp c1
    obtain ⟨hT2, hw2⟩ := hN hn
    refine g_aload_n d_Pn_parish_29 rfl ?_
    refine H_getR 33 d_Pn_parish_30 f_Pn_10.g rfl rfl (by decide) rfl ?_
    refine g_aload_n d_Pn_parish_33 rfl ?_
    refine H_getR 42 d_Pn_parish_34 f_Pn_16.g rfl rfl (by decide) rfl ?_
    refine C_V1 d_Pn_parish_37 k_Pn_83 rfl (Nat.le_of_ble_eq_true rfl) (by decide) (Nat.le_of_ble_eq_true rfl) ?_
    refine c_Tl_copyFrom33 hw2 hT2 (fun mI3 hT3 hF3 => ?_)
    refine g_aload_n d_Pn_parish_40 rfl ?_
    refine H_getR 51 d_Pn_parish_41 f_Pn_22.g rfl rfl (by decide) rfl ?_
    refine N_iconst d_Pn_parish_44 0 rfl ?_
    refine H_putI d_Pn_parish_45 f_Pn_79 rfl rfl (by decide) ?_
    refine g_aload_n d_Pn_parish_48 rfl ?_
    refine C_V0 d_Pn_parish_49 k_Pn_90 rfl (Nat.le_of_ble_eq_true rfl) (by decide) (Nat.le_of_ble_eq_true rfl) ?_
    refine c_Pn_beginAnew (G := G) (S := S) hw2 (hT3.to (fun r z1 z2 => sI_r (by omega))) (by obtain ⟨nx, g1, g2⟩ := hP.nx; exact ⟨nx, g1, by rw [sI_r (by omega), hF3 59 (by omega), hF02 59 (by omega)]; exact g2⟩) (fun mI4 dr4 hS4 hP4 hK4 hG4 hC4 hF4 => ?_)
    have h51 : mI4 51 = sI mI3 51 1 (nI 0) 51 := hF4 51 (by omega)
    refine g_aload_n d_Pn_parish_52 rfl ?_
    refine H_getR 51 d_Pn_parish_53 f_Pn_22.g rfl rfl (by decide) rfl ?_
    refine H_getI d_Pn_parish_56 f_Pn_93.g rfl rfl (by decide) ?_
    refine T_int (nI (rdN t L 24 0 T 0).2.2) (by rw [h51, sI_n (by omega), hF3 51 (by omega)]; exact h2) ?_
    refine P_iret d_Pn_parish_59 rfl ?_
    exact k2 mI4 dr4 hn hw2 ((hT3.to (fun r z1 z2 => sI_r (by omega))).to (fun r z1 z2 => hF4 r (by omega))) ⟨by decide, by rw [h51]; exact sI_s _ _ _ _, fun i hi => absurd hi (Nat.not_lt_zero _)⟩ hS4 hP4 hK4 hG4 hC4 (fun r hr => (hF4 r (by omega)).trans ((sI_r (by omega)).trans ((hF3 r (by omega)).trans (hF02 r (by omega)))))
  · refine P_bipush d_Pn_parish_26 (-4) rfl ?_
    refine P_iret d_Pn_parish_28 rfl ?_
    exact k1 _ (fun z => c1 (hno.mpr z)) hX2 hF02

