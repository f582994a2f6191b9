theorem c_Md_bestOrder {X : CX} {dl : List (Nat × Nat)} {mI : Nat → Nat → Int32} {dr : Nat → Nat → Nat} {Q : Option Value → AH → Prop} {T : TD} (hw : TW T) (hT : TM 3 7 142 T mI) {σ : AS} (hS : SM 0 T σ (KO T σ) mI) (hW : SW T σ) {m n : Nat} (hm : m < 6) (hn : n < 2 ^ 31) (hc5 : (Lm σ m).length ≤ 5)  (k : ∀ mI', (∀ j, j < (Lm σ m).length → mI' 161 j = (fo T n σ m 120 (hpl (aH σ) m (tP T)) (0, fun _ => 0)).2 j) → FQ mI mI' → Q (some (.int (hrI (fo T n σ m 120 (hpl (aH σ) m (tP T)) (0, fun _ => 0)).1))) (hp X dl mI' dr)) : EW X m_Md_bestOrder 0 (enL m_Md_bestOrder.2.2.1 [.ref 139, .int (nI m), .int (nI n)]) [] (hp X dl mI dr) Q := by
  show EW X m_Md_bestOrder 0 [.ref 139, .int (nI m), .int (nI n), jk, jk, jk, jk, jk, jk] [] (hp X dl mI dr) Q
  refine g_aload_n d_Md_bestOrder_0 rfl ?_
  refine H_getR 140 d_Md_bestOrder_1 f_Md_7.g rfl rfl (by decide) rfl ?_
  refine N_bipush d_Md_bestOrder_4 27 rfl ?_
  refine g_iload_n d_Md_bestOrder_6 rfl ?_
  refine N_iadd d_Md_bestOrder_7 ?_
  refine H_ialdN d_Md_bestOrder_8 rfl rfl (by omega) (by decide) ?_
  refine T_int (nI ((Lm σ m).length)) (by have := (hS.2.2.2.2 m hm).1; rw [Nat.zero_add] at this; exact this) ?_
  refine S_istore_n_9_3 d_Md_bestOrder_9 rfl rfl ?_
  refine P_iconst d_Md_bestOrder_10 (-1) rfl ?_
  refine S_istore_9_4 d_Md_bestOrder_11 rfl rfl ?_
  refine N_iconst d_Md_bestOrder_13 0 rfl ?_
  refine S_istore_9_5 d_Md_bestOrder_14 rfl rfl ?_
  refine g_aload_n d_Md_bestOrder_16 rfl ?_
  refine H_getR 160 d_Md_bestOrder_17 f_Md_71.g rfl rfl (by decide) rfl ?_
  refine N_iconst d_Md_bestOrder_20 0 rfl ?_
  refine P_iconst d_Md_bestOrder_21 (-1) rfl ?_
  refine H_iastN d_Md_bestOrder_22 rfl rfl (by omega) (by decide) ?_
  have hbl : (Lm σ m).length = (hpl (aH σ) m (tP T)).length := (Lm_perm hW.v m).length_eq
  have hr : (fo T n σ m 120 (hpl (aH σ) m (tP T)) (0, fun _ => 0)) = foW T n σ m (hpl (aH σ) m (tP T)) (nxs 120 (List.range (hpl (aH σ) m (tP T)).length)) (0, fun _ => 0) := by
    have h := fo_W (T := T) (n := n) (σ := σ) (m := m) (b := hpl (aH σ) m (tP T)) hpl_mono 120 (List.range (hpl (aH σ) m (tP T)).length) (0, fun _ => 0) (fun x hx => List.mem_range.mp hx)
    rw [map_rg] at h
    exact h
  have hnz : (fo T n σ m 120 (hpl (aH σ) m (tP T)) (0, fun _ => 0)).1 ≠ 0 := fo_nz _ _ _ (Or.inr (by decide))
  rw [hbl]
  exact lp_Md_bo (r := (fo T n σ m 120 (hpl (aH σ) m (tP T)) (0, fun _ => 0))) hw hT hS hW hm hn hc5 (fun mI' h1 h2 => k mI' (h1 hnz) h2) rfl _ 700 [] 0 (0, fun _ => 0) _ _ _ _ _ (dfs_all (by omega)) List.nodup_nil (fun x hx => nomatch hx) (Nat.zero_le _) (fun j hj => absurd hj (Nat.not_lt_zero _)) (sI_s _ _ _ _) (Nat.zero_le _) (fun z => absurd rfl z) (FQ_sI FQ.rf (by omega)) hr rfl

theorem ge_m1 {x : Int32} : (-1 : Int32) ≤ x ↔ ¬ x.toInt < -1 := by
  rw [Int32.le_iff_toInt_le]
  have e : (-1 : Int32).toInt = -1 := rfl
  rw [e]; omega
theorem m1_toInt {x : Int32} (h : ¬ x = -1) : x.toInt ≠ -1 := fun z => h (Int32.toInt_inj.mp (by rw [z]; rfl))
theorem in_of {x : Int32} {n : Nat} (hn : n < 2 ^ 31) (h1 : ¬ x.toInt < -1) (h2 : ¬ x = -1) (h3 : ¬ nI n ≤ x) : inN x n := by
  have := m1_toInt h2
  rw [Int32.le_iff_toInt_le, nI_toInt hn] at h3
  exact ⟨by omega, by omega⟩
theorem in_no {x : Int32} {n : Nat} (hn : n < 2 ^ 31) (h3 : nI n ≤ x) : ¬ inN x n := fun z => by
  rw [Int32.le_iff_toInt_le, nI_toInt hn] at h3
  have := z.2
  omega
theorem c_Md_order {X : CX} {dl : List (Nat × Nat)} {mI : Nat → Nat → Int32} {dr : Nat → Nat → Nat} {Q : Option Value → AH → Prop} {T : TD} (hw : TW T) (hT : TM 3 7 142 T mI) {σ : AS} (hS : SM 0 T σ (KO T σ) mI) (hW : SW T σ) {m n i : Int32} (k : ∀ mI', FQ mI mI' → Q (some (.int (aOr T σ m n i))) (hp X dl mI' dr)) : EW X m_Md_order 0 (enL m_Md_order.2.2.1 [.ref 139, .int m, .int n, .int i]) [] (hp X dl mI dr) Q := by
  show EW X m_Md_order 0 [.ref 139, .int m, .int n, .int i, jk] [] (hp X dl mI dr) Q
  have hw1 := hw.1
  have hw2 := hw.2.1
  refine g_aload_n d_Md_order_0 rfl ?_
  refine g_iload_n d_Md_order_1 rfl ?_
  refine C_V1 d_Md_order_2 k_Md_256 rfl (Nat.le_of_ble_eq_true rfl) (by decide) (Nat.le_of_ble_eq_true rfl) ?_
  refine (c_Md_isPerson hT.1 (by omega)) ?_
  refine B_ne d_Md_order_5 11 (by decide) (fun c1 => ?_) (fun c1 => ?_)
  · refine g_iload_n d_Md_order_11 rfl ?_
    refine P_i2l d_Md_order_12 ?_
    refine P_lconst d_Md_order_13 1 rfl ?_
    refine P_ldc2 d_Md_order_14 _ q_Md_293 ?_
    refine C_S3 d_Md_order_17 k_Md_111 (Nat.le_of_ble_eq_true rfl) (by decide) (Nat.le_of_ble_eq_true rfl) ?_
    refine (c_Md_inI 1 30 rfl rfl) ?_
    refine B_eq d_Md_order_20 28 (by decide) (fun c2 => ?_) (fun c2 => ?_)
    · refine P_bipush d_Md_order_28 (-3) rfl ?_
      refine P_iret d_Md_order_30 rfl ?_
      exact R_i (k _ FQ.rf) (by unfold aOr; rw [if_neg (fun z => z c1), if_pos (by first | exact Or.inl c2 | exact Or.inr (Classical.byContradiction (fun z => c3 (ge_m1.mpr z))))])
    · refine g_iload_n d_Md_order_23 rfl ?_
      refine P_iconst d_Md_order_24 (-1) rfl ?_
      refine P_icmp_ge d_Md_order_25 31 (by decide) (fun c3 => ?_) (fun c3 => ?_)
      · have hk1 := ge_m1.mp c3
        have hm1 := c1
        have hn1 := c2
        obtain ⟨j, hj, rfl⟩ := inN_of c1 (by omega)
        obtain ⟨u, hu, rfl⟩ := inN_of (n := 31) (show inN n 31 from ⟨by omega, by show n.toInt < 31; omega⟩) (by decide)
        have hlen : mI 140 (27 + j) = nI (Lm σ j).length := by have := (hS.2.2.2.2 j (by omega)).1; rw [Nat.zero_add] at this; exact this
        have hcn := Lm_len hW.v j
        have hle := (hS.ll hw hW.v j (by omega)).2.1
        have e : aOr T σ (nI j) (nI u) i = if 5 < cntH (aH σ) j (tP T) then -1 else ansI (Lm σ j).length (fo T u σ j 120 (hpl (aH σ) j (tP T)) (0, fun _ => 0)) i := by unfold aOr; rw [if_neg (fun z => z hm1), if_neg (fun z => z.elim (fun y => y hn1) (fun y => hk1 y)), tN_nI (by omega), tN_nI (by omega)]
        rw [e, ← hcn] at k
        refine g_aload_n d_Md_order_31 rfl ?_
        refine H_getR 140 d_Md_order_32 f_Md_7.g rfl rfl (by decide) rfl ?_
        refine N_bipush d_Md_order_35 27 rfl ?_
        refine g_iload_n d_Md_order_37 rfl ?_
        refine N_iadd d_Md_order_38 ?_
        refine H_ialdN d_Md_order_39 rfl rfl (by omega) (by decide) ?_
        refine T_int (nI ((Lm σ j).length)) hlen ?_
        refine N_iconst d_Md_order_40 5 rfl ?_
        refine N_icmp_le d_Md_order_41 46 (by decide) ⟨by omega, by omega⟩ (fun c4 => ?_) (fun c4 => ?_)
        · rw [if_neg (by omega)] at k
          refine g_aload_n d_Md_order_46 rfl ?_
          refine g_iload_n d_Md_order_47 rfl ?_
          refine g_iload_n d_Md_order_48 rfl ?_
          refine C_V2 d_Md_order_49 k_Md_295 rfl (Nat.le_of_ble_eq_true rfl) (by decide) (Nat.le_of_ble_eq_true rfl) ?_
          refine c_Md_bestOrder hw hT hS hW (by omega) (by omega) (by omega) (fun mI1 hb1 hF1 => ?_)
          have hlen1 : mI1 140 (27 + j) = nI (Lm σ j).length := by rw [hF1.2 _ (by omega)]; exact hlen
          replace k := k mI1 hF1
          unfold ansI at k
          refine S_istore_5_4 d_Md_order_52 rfl rfl ?_
          refine g_iload_n d_Md_order_54 rfl ?_
          refine P_iconst d_Md_order_55 (-1) rfl ?_
          refine P_icmp_ne d_Md_order_56 64 (by decide) (fun c5 => ?_) (fun c5 => ?_)
          · refine g_iload_n d_Md_order_64 rfl ?_
            refine g_aload_n d_Md_order_65 rfl ?_
            refine H_getR 140 d_Md_order_66 f_Md_7.g rfl rfl (by decide) rfl ?_
            refine N_bipush d_Md_order_69 27 rfl ?_
            refine g_iload_n d_Md_order_71 rfl ?_
            refine N_iadd d_Md_order_72 ?_
            refine H_ialdN d_Md_order_73 rfl rfl (by omega) (by decide) ?_
            refine T_int (nI ((Lm σ j).length)) hlen1 ?_
            refine P_icmp_ge d_Md_order_74 86 (by decide) (fun c6 => ?_) (fun c6 => ?_)
            · refine P_iconst d_Md_order_86 (-1) rfl ?_
              refine P_iret d_Md_order_87 rfl ?_
              first
                | (have hz : i = -1 := by assumption
                   rw [if_pos hz] at k
                   exact k)
                | (have hz : ¬ i = -1 := by assumption
                   rw [if_neg hz, if_neg (in_no (by omega) (by assumption))] at k
                   exact k)
                | (have hz : ¬ nI w = -1 := by assumption
                   rw [if_neg hz, if_pos hin, nI_toInt (by omega), ← hb1 _ (by rw [Int.toNat_natCast]; exact hw3)] at k
                   exact k)
            · have hin := in_of (n := (Lm σ j).length) (by omega) hk1 (by assumption) (by assumption)
              obtain ⟨w, hw3, rfl⟩ := inN_of hin (by omega)
              refine g_aload_n d_Md_order_77 rfl ?_
              refine H_getR 161 d_Md_order_78 f_Md_74.g rfl rfl (by decide) rfl ?_
              refine g_iload_n d_Md_order_81 rfl ?_
              refine H_ialdN d_Md_order_82 rfl rfl (by omega) (by decide) ?_
              refine P_goto d_Md_order_83 87 (by decide) ?_
              refine P_iret d_Md_order_87 rfl ?_
              first
                | (have hz : i = -1 := by assumption
                   rw [if_pos hz] at k
                   exact k)
                | (have hz : ¬ i = -1 := by assumption
                   rw [if_neg hz, if_neg (in_no (by omega) (by assumption))] at k
                   exact k)
                | (have hz : ¬ nI w = -1 := by assumption
                   rw [if_neg hz, if_pos hin, nI_toInt (by omega), ← hb1 _ (by rw [Int.toNat_natCast]; exact hw3)] at k
                   exact k)
          · refine g_iload d_Md_order_59 rfl ?_
            refine P_goto d_Md_order_61 87 (by decide) ?_
            refine P_iret d_Md_order_87 rfl ?_
            first
              | (have hz : i = -1 := by assumption
                 rw [if_pos hz] at k
                 exact k)
              | (have hz : ¬ i = -1 := by assumption
                 rw [if_neg hz, if_neg (in_no (by omega) (by assumption))] at k
                 exact k)
              | (have hz : ¬ nI w = -1 := by assumption
                 rw [if_neg hz, if_pos hin, nI_toInt (by omega), ← hb1 _ (by rw [Int.toNat_natCast]; exact hw3)] at k
                 exact k)
        · refine P_iconst d_Md_order_44 (-1) rfl ?_
          refine P_iret d_Md_order_45 rfl ?_
          exact R_i (k _ FQ.rf) (if_pos (by omega))
      · refine P_bipush d_Md_order_28 (-3) rfl ?_
        refine P_iret d_Md_order_30 rfl ?_
        exact R_i (k _ FQ.rf) (by unfold aOr; rw [if_neg (fun z => z c1), if_pos (by first | exact Or.inl c2 | exact Or.inr (Classical.byContradiction (fun z => c3 (ge_m1.mpr z))))])
  · refine P_bipush d_Md_order_8 (-2) rfl ?_
    refine P_iret d_Md_order_10 rfl ?_
    exact R_i (k _ FQ.rf) (by unfold aOr; rw [if_pos c1])

theorem SW_hand {T : TD} {σ : AS} (h : SW T σ) {p to : Nat} (hpm : p ∈ aR σ) (hto : to = 5 ∨ (to < tn T ∧ to < 5 ∧ 0 < aS σ to)) : SW T (hand σ p to) := by
  have hv := SV_hand h.v hpm (to := to) ⟨by omega, fun _ => by omega⟩
  refine ⟨hv.1, fun q hq => ⟨(hv.2.1 q hq).1, fun z => ?_, (hv.2.1 q hq).2.2⟩, h.2.2⟩
  have hz : va_up (aH σ) p to q < 5 := z
  show va_up (aH σ) p to q < tn T ∧ 0 < aS σ (va_up (aH σ) p to q)
  by_cases y : q = p
  · rw [y, va_up_s] at hz ⊢
    rcases hto with w | w
    · omega
    · exact ⟨w.1, w.2.2⟩
  · rw [va_up_n _ _ y] at hz ⊢
    exact (h.2.1 q hq).2.1 hz
theorem gvN_S (σ : AS) (dg : Nat → Nat) : ∀ j, aS (gvN σ dg j) = aS σ
  | 0 => rfl
  | j + 1 => by
    rw [gvN]
    split
    · exact gvN_S σ dg j
    · exact gvN_S σ dg j
theorem gvN_H {T : TD} {σ : AS} {dg : Nat → Nat} (h : SV T σ) : ∀ j i, j ≤ i → i < (Lm σ 5).length → aH (gvN σ dg j) ((Lm σ 5).getD i 0) = 5
  | 0, i, _, hi => ((Lm_mem h).mp (gD_mem hi)).2
  | j + 1, i, hji, hi => by
    rw [gvN]
    split
    · exact gvN_H h j i (by omega) hi
    · show va_up (aH (gvN σ dg j)) _ _ _ = 5
      rw [va_up_n _ _ (fun z => ?_)]
      · exact gvN_H h j i (by omega) hi
      · have hn := Lm_nodup h 5
        have hjl : j < (Lm σ 5).length := by omega
        have e1 : (Lm σ 5)[i]? = (Lm σ 5)[j]? := by
          rw [List.getD_eq_getElem?_getD, List.getD_eq_getElem?_getD, List.getElem?_eq_getElem hi, List.getElem?_eq_getElem hjl] at z
          rw [List.getElem?_eq_getElem hi, List.getElem?_eq_getElem hjl]
          exact congrArg some z
        have := (List.getElem?_inj hi hn).mp e1
        omega
theorem alB_d {σ : AS} {dg : Nat → Nat} {j : Nat} : alB σ dg (j + 1) = true ↔ alB σ dg j = true ∧ (dg j = 0 ∨ aS σ (dg j - 1) ≠ 0) := by
  rw [alB]; simp
theorem SW_gv {T : TD} {σ : AS} {dg : Nat → Nat} (hw : TW T) (h : SW T σ) (hd : ∀ j, dg j < tn T + 1) : ∀ j, j ≤ (Lm σ 5).length → alB σ dg j = true → SW T (gvN σ dg j)
  | 0, _, _ => h
  | j + 1, hj, ha => by
    have hw1 := hw.1
    have hdj := hd j
    obtain ⟨a1, a2⟩ := alB_d.mp ha
    have ih := SW_gv hw h hd j (by omega) a1
    rw [gvN]
    split
    · exact ih
    · rename_i h0
      have hlt := ((Lm_mem h.v).mp (gD_mem (l := Lm σ 5) (i := j) (by omega))).1
      refine SW_hand ih (ih.v.mem hlt) (Or.inr ⟨by omega, by omega, ?_⟩)
      rw [gvN_S]
      rcases a2 with z | z
      · exact absurd z h0
      · omega
theorem lp_Md_gf1 {X : CX} {dl : List (Nat × Nat)} {mI : Nat → Nat → Int32} {dr : Nat → Nat → Nat} {Q : Option Value → AH → Prop} {T : TD} {s : Nat} {a1 a2 : Int32} {v6 v7 v8 v9 v10 v11 : Value} (hw : TW T) (hT : TM 3 7 142 T mI) (hs : s ≤ 3) (k : ∀ v5, EW X m_Md_godfathers 81 [.ref 139, .int a1, .int a2, .int (nI s), .int (nI ((tn T + 1) ^ s)), v5, v6, v7, v8, v9, v10, v11] [] (hp X dl mI dr) Q) : ∀ (d : Nat) (j : Nat), (j ≤ s) → s - j = d → EW X m_Md_godfathers 58 [.ref 139, .int a1, .int a2, .int (nI s), .int (nI ((tn T + 1) ^ j)), .int (nI j), v6, v7, v8, v9, v10, v11] [] (hp X dl mI dr) Q := by
  intro d
  induction d using Nat.strongRecOn with
  | _ d ih =>
    intro j hj hd
    refine g_iload d_Md_godfathers_58 rfl ?_
    refine g_iload_n d_Md_godfathers_60 rfl ?_
    refine N_icmp_ge d_Md_godfathers_61 81 (by decide) ⟨by omega, by omega⟩ (fun c1 => ?_) (fun c1 => ?_)
    · have e : j = s := by omega
      subst e
      exact k _
    · refine g_iload d_Md_godfathers_64 rfl ?_
      refine g_aload_n d_Md_godfathers_66 rfl ?_
      refine H_getI d_Md_godfathers_67 f_Md_107.g rfl rfl (by decide) ?_
      refine T_int (nI (tn T)) hT.1 ?_
      refine N_iconst d_Md_godfathers_70 1 rfl ?_
      refine N_iadd d_Md_godfathers_71 ?_
      refine N_imul d_Md_godfathers_72 ?_
      refine S_istore_12_4 d_Md_godfathers_73 rfl rfl ?_
      refine N_iinc_12_5_1 d_Md_godfathers_75 rfl rfl ?_
      refine P_goto d_Md_godfathers_78 58 (by decide) ?_
      rw [← Nat.pow_succ]
      exact ih _ (by omega) (j + 1) (by omega) rfl

theorem lp_Md_gf2 {X : CX} {dl : List (Nat × Nat)} {mI : Nat → Nat → Int32} {dr : Nat → Nat → Nat} {Q : Option Value → AH → Prop} {T : TD} {s w : Nat} {a1 a2 a4 a5 : Int32} {v9 v10 v11 : Value} (hw : TW T) (hT : TM 3 7 142 T mI) (hs : s ≤ 3) (hwb : w < 2 ^ 20) (k : ∀ mI' v7 v8, (∀ j, j < s → mI' 162 j = hrI (dgt (tn T + 1) s w j)) → (∀ q, q ≠ 162 → mI' q = mI q) → EW X m_Md_godfathers 143 [.ref 139, .int a1, .int a2, .int (nI s), .int a4, .int a5, .int (nI w), .int v7, v8, v9, v10, v11] [] (hp X dl mI' dr) Q) : ∀ (d : Nat) (c : Nat) (mI2 : Nat → Nat → Int32), (c ≤ s) → (∀ j, c ≤ j → j < s → mI2 162 j = hrI (dgt (tn T + 1) s w j)) → (∀ q, q ≠ 162 → mI2 q = mI q) → c = d → EW X m_Md_godfathers 103 [.ref 139, .int a1, .int a2, .int (nI s), .int a4, .int a5, .int (nI w), .int (nI (w / (tn T + 1) ^ (s - c))), .int (hrI c), v9, v10, v11] [] (hp X dl mI2 dr) Q := by
  intro d
  induction d using Nat.strongRecOn with
  | _ d ih =>
    intro c mI2 hc hd2 hF hd
    have hw1 := hw.1
    have hT1 : mI2 139 3 = nI (tn T) := by rw [hF 139 (by omega)]; exact hT.1
    cases c with
    | zero =>
      refine g_iload d_Md_godfathers_103 rfl ?_
      refine P_if_lt d_Md_godfathers_105 143 (by decide) (fun _ => ?_) (fun z => absurd ((hrI_neg (by decide)).mpr rfl) z)
      exact k _ _ _ (fun j hj => hd2 j (Nat.zero_le _) hj) hF
    | succ i =>
      show EW X m_Md_godfathers 103 [.ref 139, .int a1, .int a2, .int (nI s), .int a4, .int a5, .int (nI w), .int (nI (w / (tn T + 1) ^ (s - (i + 1)))), .int (nI i), v9, v10, v11] [] (hp X dl mI2 dr) Q
      have hlb : w / (tn T + 1) ^ (s - (i + 1)) ≤ w := Nat.div_le_self _ _
      have hml : w / (tn T + 1) ^ (s - (i + 1)) % (tn T + 1) < tn T + 1 := Nat.mod_lt _ (by omega)
      refine g_iload d_Md_godfathers_103 rfl ?_
      refine N_if_lt d_Md_godfathers_105 143 (by decide) (by omega) ?_
      refine g_aload_n d_Md_godfathers_108 rfl ?_
      refine H_getR 162 d_Md_godfathers_109 f_Md_77.g rfl rfl (by decide) rfl ?_
      refine g_iload d_Md_godfathers_112 rfl ?_
      refine g_iload d_Md_godfathers_114 rfl ?_
      refine g_aload_n d_Md_godfathers_116 rfl ?_
      refine H_getI d_Md_godfathers_117 f_Md_107.g rfl rfl (by decide) ?_
      refine T_int (nI (tn T)) hT1 ?_
      refine N_iconst d_Md_godfathers_120 1 rfl ?_
      refine N_iadd d_Md_godfathers_121 ?_
      refine N_irem d_Md_godfathers_122 (by omega) (by omega) (by omega) ?_
      refine N_iconst d_Md_godfathers_123 1 rfl ?_
      refine P_isub d_Md_godfathers_124 ?_
      rw [nI_m1h (by omega)]
      refine H_iastN d_Md_godfathers_125 rfl rfl (by omega) (by decide) ?_
      refine g_iload d_Md_godfathers_126 rfl ?_
      refine g_aload_n d_Md_godfathers_128 rfl ?_
      refine H_getI d_Md_godfathers_129 f_Md_107.g rfl rfl (by decide) ?_
      refine T_int (nI (tn T)) ((congrFun (sI_r (by omega)) 3).trans hT1) ?_
      refine N_iconst d_Md_godfathers_132 1 rfl ?_
      refine N_iadd d_Md_godfathers_133 ?_
      refine N_idiv d_Md_godfathers_134 (by omega) (by omega) (by omega) ?_
      refine S_istore_12_7 d_Md_godfathers_135 rfl rfl ?_
      have e : nI i + -1 = hrI i := hrI_m1 (c := i) (by omega)
      refine S_iinc_12_8 (-1) d_Md_godfathers_137 rfl rfl rfl ?_
      refine P_goto d_Md_godfathers_140 103 (by decide) ?_
      rw [e, Nat.div_div_eq_div_mul, ← Nat.pow_succ, show Nat.succ (s - (i + 1)) = s - i by omega]
      refine ih i (by omega) i _ (by omega) (fun j h1 h2 => ?_) (fun q hq => by rw [sI_r hq]; exact hF q hq) rfl
      by_cases z : j = i
      · rw [z, sI_s]; unfold dgt; rw [show s - 1 - i = s - (i + 1) by omega]
      · rw [sI_n (by omega)]; exact hd2 j (by omega) h2

theorem lp_Md_gf3 {X : CX} {dl : List (Nat × Nat)} {mI : Nat → Nat → Int32} {dr : Nat → Nat → Nat} {Q : Option Value → AH → Prop} {T : TD} (hw : TW T) {σ : AS} (hS : SM 0 T σ (KO T σ) mI) (hW : SW T σ) {s : Nat} {dg : Nat → Nat} {a1 a2 a4 a5 a6 a7 : Int32} (hs : s ≤ (Lm σ 5).length ∧ s ≤ 3) (hdg : ∀ j, dg j < tn T + 1) (hd2 : ∀ j, j < s → mI 162 j = hrI (dg j)) (k : ∀ mI' b v9 v10 v11, ((b = 1 ∧ alB σ dg s = true ∧ SM 93 T (gvN σ dg s) (KO T (gvN σ dg s)) mI') ∨ (b = 0 ∧ alB σ dg s = false)) → FQ mI mI' → mI' 162 = mI 162 → mI' 163 = mI 163 → EW X m_Md_godfathers 244 [.ref 139, .int a1, .int a2, .int (nI s), .int a4, .int a5, .int a6, .int a7, .int (nI b), v9, v10, v11] [] (hp X dl mI' dr) Q) : ∀ (d : Nat) (e : Nat) (b : Nat) (mI2 : Nat → Nat → Int32) (v10 : Value) (v11 : Value), (e ≤ s) → (((b = 1 ∧ alB σ dg e = true ∧ SM 93 T (gvN σ dg e) (KO T (gvN σ dg e)) mI2) ∨ (b = 0 ∧ alB σ dg e = false))) → (FQ mI mI2) → (mI2 162 = mI 162) → (mI2 163 = mI 163) → s - e = d → EW X m_Md_godfathers 153 [.ref 139, .int a1, .int a2, .int (nI s), .int a4, .int a5, .int a6, .int a7, .int (nI b), .int (nI e), v10, v11] [] (hp X dl mI2 dr) Q := by
  intro d
  induction d using Nat.strongRecOn with
  | _ d ih =>
    intro e b mI2 v10 v11 he hb hF h162 h163 hd
    have hw1 := hw.1
    have hw2 := hw.2.1
    have hde := hdg e
    have hb1 : b ≤ 1 := by rcases hb with h | h <;> omega
    have hS2 := hS.q hw hW.v hF
    refine g_iload d_Md_godfathers_153 rfl ?_
    refine g_iload_n d_Md_godfathers_155 rfl ?_
    refine N_icmp_ge d_Md_godfathers_156 244 (by decide) ⟨by omega, by omega⟩ (fun c1 => ?_) (fun c1 => ?_)
    · have e1 : e = s := by omega
      subst e1
      exact k mI2 b _ _ _ hb hF h162 h163
    · have hes : e < s := by omega
      have hmem : (Lm σ 5).getD e 0 ∈ Lm σ 5 := gD_mem (by omega)
      have hlt := ((Lm_mem hW.v).mp hmem).1
      have hl10 := (hS2.ll hw hW.v 5 (by omega)).2.1
      refine g_aload_n d_Md_godfathers_159 rfl ?_
      refine H_getR 162 d_Md_godfathers_160 f_Md_77.g rfl rfl (by decide) rfl ?_
      refine g_iload d_Md_godfathers_163 rfl ?_
      refine H_ialdN d_Md_godfathers_165 rfl rfl (by omega) (by decide) ?_
      refine T_int (hrI (dg e)) (by rw [h162]; exact hd2 e hes) ?_
      refine S_istore_12_10 d_Md_godfathers_166 rfl rfl ?_
      refine g_aload_n d_Md_godfathers_168 rfl ?_
      refine H_getR 140 d_Md_godfathers_169 f_Md_7.g rfl rfl (by decide) rfl ?_
      refine N_bipush d_Md_godfathers_172 83 rfl ?_
      refine g_iload d_Md_godfathers_174 rfl ?_
      refine N_iadd d_Md_godfathers_176 ?_
      refine H_ialdN d_Md_godfathers_177 rfl rfl (by omega) (by decide) ?_
      refine T_int (nI ((Lm σ 5).getD e 0)) (by have := ((hS2.ll hw hW.v 5 (by omega)).2.2 e (by omega)); rw [Nat.zero_add] at this; exact this) ?_
      refine S_istore_12_11 d_Md_godfathers_178 rfl rfl ?_
      refine g_iload d_Md_godfathers_180 rfl ?_
      refine N_if_eq d_Md_godfathers_182 206 (by decide) (by omega) (fun c2 => ?_) (fun c2 => ?_)
      · have hal : alB σ dg e = false := (hb.resolve_left (fun y => by have := y.1; omega)).2
        refine N_iconst d_Md_godfathers_206 0 rfl ?_
        refine S_istore_12_8 d_Md_godfathers_207 rfl rfl ?_
        refine g_iload d_Md_godfathers_209 rfl ?_
        refine N_if_eq d_Md_godfathers_211 238 (by decide) (by omega) (fun nn1 => ?_) (fun nn1 => ?_)
        · refine N_iinc_12_9_1 d_Md_godfathers_238 rfl rfl ?_
          refine P_goto d_Md_godfathers_241 153 (by decide) ?_
          refine ih _ (by omega) (e + 1) 0 mI2 _ _ (by omega) (Or.inr ⟨rfl, alB_no (e + 1) e (by omega) hal⟩) hF h162 h163 rfl
        · omega
      · obtain ⟨-, hal, hSt⟩ := hb.resolve_right (fun y => absurd y.1 (by assumption))
        refine g_iload d_Md_godfathers_185 rfl ?_
        refine P_if_lt d_Md_godfathers_187 202 (by decide) (fun c3 => ?_) (fun c3 => ?_)
        · have hd0 : dg e = 0 := (hrI_neg (by omega)).mp c3
          have hal2 : alB σ dg (e + 1) = true := alB_d.mpr ⟨hal, Or.inl hd0⟩
          refine N_iconst d_Md_godfathers_202 1 rfl ?_
          refine P_goto d_Md_godfathers_203 207 (by decide) ?_
          refine S_istore_12_8 d_Md_godfathers_207 rfl rfl ?_
          refine g_iload d_Md_godfathers_209 rfl ?_
          refine N_if_eq d_Md_godfathers_211 238 (by decide) (by omega) (fun zz1 => ?_) (fun zz1 => ?_)
          · omega
          · refine g_iload d_Md_godfathers_214 rfl ?_
            refine P_if_lt d_Md_godfathers_216 238 (by decide) (fun zz2 => ?_) (fun zz2 => ?_)
            · refine N_iinc_12_9_1 d_Md_godfathers_238 rfl rfl ?_
              refine P_goto d_Md_godfathers_241 153 (by decide) ?_
              refine ih _ (by omega) (e + 1) 1 mI2 _ _ (by omega) (Or.inl ⟨rfl, hal2, by rw [gvN, if_pos hd0]; exact hSt⟩) hF h162 h163 rfl
            · exact absurd ((hrI_neg (by omega)).mpr hd0) zz2
        · have hd0 : dg e ≠ 0 := fun z => c3 ((hrI_neg (by omega)).mpr z)
          obtain ⟨i, hi⟩ : ∃ i, dg e = i + 1 := ⟨dg e - 1, by omega⟩
          have hs60 := hW.2.2 i (by omega)
          have ehr : hrI (dg e) = nI i := by rw [hi]; rfl
          rw [ehr]
          refine g_aload_n d_Md_godfathers_190 rfl ?_
          refine H_getR 140 d_Md_godfathers_191 f_Md_7.g rfl rfl (by decide) rfl ?_
          refine N_iconst d_Md_godfathers_194 1 rfl ?_
          refine g_iload d_Md_godfathers_195 rfl ?_
          refine N_iadd d_Md_godfathers_197 ?_
          refine H_ialdN d_Md_godfathers_198 rfl rfl (by omega) (by decide) ?_
          refine T_int (nI (aS σ i)) (by have := hS2.2.2.1 i (by omega); rw [Nat.zero_add] at this; exact this) ?_
          refine N_if_le d_Md_godfathers_199 206 (by decide) (by omega) (fun pp1 => ?_) (fun pp1 => ?_)
          · refine N_iconst d_Md_godfathers_206 0 rfl ?_
            refine S_istore_12_8 d_Md_godfathers_207 rfl rfl ?_
            refine g_iload d_Md_godfathers_209 rfl ?_
            refine N_if_eq d_Md_godfathers_211 238 (by decide) (by omega) (fun mm1 => ?_) (fun mm1 => ?_)
            · refine N_iinc_12_9_1 d_Md_godfathers_238 rfl rfl ?_
              refine P_goto d_Md_godfathers_241 153 (by decide) ?_
              refine ih _ (by omega) (e + 1) 0 mI2 _ _ (by omega) (Or.inr ⟨rfl, by rw [← Bool.not_eq_true, alB_d]; exact fun z => z.2.elim hd0 (fun y => y (by rw [hi, Nat.add_sub_cancel]; omega))⟩) hF h162 h163 rfl
            · omega
          · have hal2 : alB σ dg (e + 1) = true := alB_d.mpr ⟨hal, Or.inr (by rw [hi, Nat.add_sub_cancel]; omega)⟩
            refine N_iconst d_Md_godfathers_202 1 rfl ?_
            refine P_goto d_Md_godfathers_203 207 (by decide) ?_
            refine S_istore_12_8 d_Md_godfathers_207 rfl rfl ?_
            refine g_iload d_Md_godfathers_209 rfl ?_
            refine N_if_eq d_Md_godfathers_211 238 (by decide) (by omega) (fun qq1 => ?_) (fun qq1 => ?_)
            · omega
            · refine g_iload d_Md_godfathers_214 rfl ?_
              refine N_if_lt d_Md_godfathers_216 238 (by decide) (by omega) ?_
              have hgv := SW_gv hw hW hdg e (by omega) hal
              have hH5 : aH (gvN σ dg e) ((Lm σ 5).getD e 0) = 5 := gvN_H hW.v e e (Nat.le_refl _) (by omega)
              have hin : (Lm σ 5).getD e 0 ∈ Lm (gvN σ dg e) 5 := (Lm_mem hgv.v).mpr ⟨hlt, hH5⟩
              have hb100 : ∀ x ∈ Lm (gvN σ dg e) 5, x < 100 := fun x hx => by have := ((Lm_mem hgv.v).mp hx).1; omega
              have hto3 : va_up (Lm (gvN σ dg e)) 5 ((Lm (gvN σ dg e) 5).erase ((Lm σ 5).getD e 0)) i = Lm (gvN σ dg e) i := va_up_n _ _ (by omega)
              have htwo := Lm_two hw hgv.v (u := i) (m := 5) (by omega)
              have hpos := List.length_pos_of_mem hin
              refine g_aload_n d_Md_godfathers_219 rfl ?_
              refine N_bipush d_Md_godfathers_220 93 rfl ?_
              refine g_iload d_Md_godfathers_222 rfl ?_
              refine N_iconst d_Md_godfathers_224 5 rfl ?_
              refine C_V3 d_Md_godfathers_225 k_Md_239 rfl (Nat.le_of_ble_eq_true rfl) (by decide) (Nat.le_of_ble_eq_true rfl) ?_
              refine c_Md_leavesOne (r := 93) (m := 5) (by omega) (by omega) (hSt.ll hw hgv.v) (by omega) hb100 hin (fun mI3 hL3 hF3 => ?_)
              refine g_aload_n d_Md_godfathers_228 rfl ?_
              refine N_bipush d_Md_godfathers_229 93 rfl ?_
              refine g_iload d_Md_godfathers_231 rfl ?_
              refine g_iload d_Md_godfathers_233 rfl ?_
              refine C_V3 d_Md_godfathers_235 k_Md_219 rfl (Nat.le_of_ble_eq_true rfl) (by decide) (Nat.le_of_ble_eq_true rfl) ?_
              refine c_Md_joins (r := 93) (m := i) (by omega) (by omega) hL3 (by rw [hto3]; omega) (fun mI4 hL4 hF4 => ?_)
              rw [hto3] at hL4
              refine N_iinc_12_9_1 d_Md_godfathers_238 rfl rfl ?_
              refine P_goto d_Md_godfathers_241 153 (by decide) ?_
              have e140 : ∀ j, ¬ (120 ≤ j ∧ j < 186) → mI4 140 j = mI2 140 j := fun j hj => (hF4.2 j (by omega)).trans (hF3.2 j (by omega))
              have eo : ∀ q, q ≠ 140 → mI4 q = mI2 q := fun q hq => (hF4.1 q hq).trans (hF3.1 q hq)
              have ehand : gvN σ dg (e + 1) = hand (gvN σ dg e) ((Lm σ 5).getD e 0) i := by rw [gvN, if_neg hd0, hi, Nat.add_sub_cancel]
              have hS4 : SM 93 T (gvN σ dg (e + 1)) (KO T (gvN σ dg (e + 1))) mI4 := by
                rw [ehand]
                refine SM_of ?_ ?_ (fun j hj => ?_) (fun q hq => ?_) hL4 (fun u _ => Lm_hand hgv.v hlt hH5 (by omega) u)
                · rw [e140 _ (by omega)]; exact hSt.1
                · rw [e140 _ (by omega), show KO T (hand (gvN σ dg e) ((Lm σ 5).getD e 0) i) = KO T (gvN σ dg e) from kB_hand (by rw [hH5]; decide) (by omega)]; exact hSt.2.1
                · rw [e140 _ (by omega)]; exact hSt.2.2.1 j hj
                · rw [e140 _ (by omega), e140 _ (by omega)]; exact hSt.2.2.2.1 q hq
              refine ih _ (by omega) (e + 1) 1 mI4 _ _ (by omega) (Or.inl ⟨rfl, hal2, hS4⟩) (hF.tr ⟨fun q z1 z2 => eo q z1, fun j hj => e140 j (by omega)⟩) ((eo 162 (by omega)).trans h162) ((eo 163 (by omega)).trans h163) rfl

theorem lp_Md_gf4 {X : CX} {dl : List (Nat × Nat)} {mI : Nat → Nat → Int32} {dr : Nat → Nat → Nat} {Q : Option Value → AH → Prop} {s : Nat} {u : Nat → Int32} {a1 a2 a4 a5 a6 a7 a8 a9 : Int32} {v11 : Value} (hs : s ≤ 3) (hl : ∀ j, j < s → mI 162 j = u j) (k : ∀ mI' v10, (∀ j, j < s → mI' 163 j = u j) → (∀ q, q ≠ 163 → mI' q = mI q) → EW X m_Md_godfathers 306 [.ref 139, .int a1, .int a2, .int (nI s), .int a4, .int a5, .int a6, .int a7, .int a8, .int a9, v10, v11] [] (hp X dl mI' dr) Q) : ∀ (d : Nat) (i : Nat) (mI2 : Nat → Nat → Int32), (i ≤ s) → (∀ j, j < i → mI2 163 j = u j) → (∀ q, q ≠ 163 → mI2 q = mI q) → s - i = d → EW X m_Md_godfathers 280 [.ref 139, .int a1, .int a2, .int (nI s), .int a4, .int a5, .int a6, .int a7, .int a8, .int a9, .int (nI i), v11] [] (hp X dl mI2 dr) Q := by
  intro d
  induction d using Nat.strongRecOn with
  | _ d ih =>
    intro i mI2 hi h1 h3 hd
    refine g_iload d_Md_godfathers_280 rfl ?_
    refine g_iload_n d_Md_godfathers_282 rfl ?_
    refine N_icmp_ge d_Md_godfathers_283 306 (by decide) ⟨by omega, by omega⟩ (fun c1 => ?_) (fun c1 => ?_)
    · exact k mI2 _ (fun j hj => h1 j (by omega)) h3
    · refine g_aload_n d_Md_godfathers_286 rfl ?_
      refine H_getR 163 d_Md_godfathers_287 f_Md_80.g rfl rfl (by decide) rfl ?_
      refine g_iload d_Md_godfathers_290 rfl ?_
      refine g_aload_n d_Md_godfathers_292 rfl ?_
      refine H_getR 162 d_Md_godfathers_293 f_Md_77.g rfl rfl (by decide) rfl ?_
      refine g_iload d_Md_godfathers_296 rfl ?_
      refine H_ialdN d_Md_godfathers_298 rfl rfl (by omega) (by decide) ?_
      refine T_int (u i) (by rw [h3 162 (by omega)]; exact hl i (by omega)) ?_
      refine H_iastN d_Md_godfathers_299 rfl rfl (by omega) (by decide) ?_
      refine N_iinc_12_10_1 d_Md_godfathers_300 rfl rfl ?_
      refine P_goto d_Md_godfathers_303 280 (by decide) ?_
      refine ih (s - (i + 1)) (by omega) (i + 1) _ (by omega) (fun j hj => ?_) (fun q hq => by rw [sI_r hq]; exact h3 q hq) rfl
      by_cases z : j = i
      · rw [z]; exact sI_s _ _ _ _
      · rw [sI_n (by omega)]; exact h1 j (by omega)

theorem lp_Md_gf5 {X : CX} {dl : List (Nat × Nat)} {mI : Nat → Nat → Int32} {dr : Nat → Nat → Nat} {Q : Option Value → AH → Prop} {T : TD} (hw : TW T) (hT : TM 3 7 142 T mI) {σ : AS} (hS : SM 0 T σ (KO T σ) mI) (hW : SW T σ) {n s : Nat} {a2 : Int32} (hn : n < 2 ^ 31) (hs : s ≤ (Lm σ 5).length ∧ s ≤ 3) (k : ∀ mI' v6 v7 v8 v9 v10 v11, ((gf T n σ s ((tn T + 1) ^ s)).1 ≠ 0 → ∀ j, j < s → mI' 163 j = (gf T n σ s ((tn T + 1) ^ s)).2 j) → FQ mI mI' → EW X m_Md_godfathers 312 [.ref 139, .int (nI n), .int a2, .int (nI s), .int (nI ((tn T + 1) ^ s)), .int (hrI (gf T n σ s ((tn T + 1) ^ s)).1), v6, v7, v8, v9, v10, v11] [] (hp X dl mI' dr) Q) : ∀ (d : Nat) (w : Nat) (mI2 : Nat → Nat → Int32) (v7 : Value) (v8 : Value) (v9 : Value) (v10 : Value) (v11 : Value), (w ≤ (tn T + 1) ^ s) → ((gf T n σ s w).1 ≠ 0 → ∀ j, j < s → mI2 163 j = (gf T n σ s w).2 j) → (FQ mI mI2) → (tn T + 1) ^ s - w = d → EW X m_Md_godfathers 87 [.ref 139, .int (nI n), .int a2, .int (nI s), .int (nI ((tn T + 1) ^ s)), .int (hrI (gf T n σ s w).1), .int (nI w), v7, v8, v9, v10, v11] [] (hp X dl mI2 dr) Q := by
  intro d
  induction d using Nat.strongRecOn with
  | _ d ih =>
    intro w mI2 v7 v8 v9 v10 v11 hwl hbs hF hd
    have hw1 := hw.1
    have hw2 := hw.2.1
    have hbp := b_pow (b := tn T + 1) (s := s) (by omega) hs.2
    have hgl := gf_le (T := T) (n := n) (σ := σ) (s := s) w
    have hT2 := hT.q hF
    have hS2 := hS.q hw hW.v hF
    refine g_iload d_Md_godfathers_87 rfl ?_
    refine g_iload d_Md_godfathers_89 rfl ?_
    refine N_icmp_ge d_Md_godfathers_91 312 (by decide) ⟨by omega, by omega⟩ (fun c1 => ?_) (fun c1 => ?_)
    · have e : w = (tn T + 1) ^ s := by omega
      subst e
      exact k mI2 _ _ _ _ _ _ hbs hF
    · refine g_iload d_Md_godfathers_94 rfl ?_
      refine S_istore_12_7 d_Md_godfathers_96 rfl rfl ?_
      refine g_iload_n d_Md_godfathers_98 rfl ?_
      refine N_iconst d_Md_godfathers_99 1 rfl ?_
      refine P_isub d_Md_godfathers_100 ?_
      refine S_istore_12_8 d_Md_godfathers_101 rfl rfl ?_
      rw [nI_m1h (by omega)]
      have hst : [Value.ref 139, .int (nI n), .int a2, .int (nI s), .int (nI ((tn T + 1) ^ s)), .int (hrI (gf T n σ s w).1), .int (nI w), .int (nI w), .int (hrI s), v9, v10, v11] = [Value.ref 139, .int (nI n), .int a2, .int (nI s), .int (nI ((tn T + 1) ^ s)), .int (hrI (gf T n σ s w).1), .int (nI w), .int (nI (w / (tn T + 1) ^ (s - s))), .int (hrI s), v9, v10, v11] := by rw [Nat.sub_self, Nat.pow_zero, Nat.div_one]
      rw [hst]
      clear hst
      refine lp_Md_gf2 hw hT2 hs.2 (by omega) (fun mI3 u7 u8 g1 g2 => ?_) _ s mI2 (Nat.le_refl _) (fun j h1 h2 => by omega) (fun _ _ => rfl) rfl
      have hF3 : FQ mI mI3 := hF.tr ⟨fun q y1 y2 => g2 q (by omega), fun j _ => by rw [g2 140 (by omega)]⟩
      refine N_iconst d_Md_godfathers_143 1 rfl ?_
      refine S_istore_12_8 d_Md_godfathers_144 rfl rfl ?_
      refine g_aload_n d_Md_godfathers_146 rfl ?_
      refine C_V0 d_Md_godfathers_147 k_Md_284 rfl (Nat.le_of_ble_eq_true rfl) (by decide) (Nat.le_of_ble_eq_true rfl) ?_
      refine c_Md_tries hw (hS.q hw hW.v hF3) hW.v (fun mI4 hS4 hF4 => ?_)
      have hF4q := hF3.tr hF4.q
      refine N_iconst d_Md_godfathers_150 0 rfl ?_
      refine S_istore_12_9 d_Md_godfathers_151 rfl rfl ?_
      refine lp_Md_gf3 (dg := (dgt (tn T + 1) s w)) hw (hS.q hw hW.v hF4q) hW hs (fun j => dgt_lt (by omega)) (fun j hj => by rw [hF4.1 162 (by omega)]; exact g1 j hj) (fun mI5 b u9 u10 u11 hb hF5 e162 e163 => ?_) _ 0 1 mI4 _ _ (Nat.zero_le _) (Or.inl ⟨rfl, rfl, hS4⟩) FQ.rf rfl rfl rfl
      have hF5q := hF4q.tr hF5
      have h163 : mI5 163 = mI2 163 := by rw [e163, hF4.1 163 (by omega), g2 163 (by omega)]
      have h162 : ∀ j, j < s → mI5 162 j = hrI ((dgt (tn T + 1) s w) j) := fun j hj => by rw [e162, hF4.1 162 (by omega)]; exact g1 j hj
      have hb1 : b ≤ 1 := by rcases hb with h | h <;> omega
      refine g_iload d_Md_godfathers_244 rfl ?_
      refine N_if_eq d_Md_godfathers_246 306 (by decide) (by omega) (fun ee1 => ?_) (fun ee1 => ?_)
      · have hal : alB σ (dgt (tn T + 1) s w) s = false := (hb.resolve_left (fun y => by have := y.1; omega)).2
        have eg : gf T n σ s (w + 1) = (gf T n σ s w) := by rw [gf, if_neg (by rw [hal]; exact Bool.false_ne_true)]
        refine N_iinc_12_6_1 d_Md_godfathers_306 rfl rfl ?_
        refine P_goto d_Md_godfathers_309 87 (by decide) ?_
        have g := ih _ (by omega) (w + 1) mI5 (.int u7) (.int (nI b)) u9 u10 u11 (by omega) (by rw [eg, h163]; exact hbs) hF5q rfl
        rw [eg] at g
        exact g
      · obtain ⟨-, hal, hS5⟩ := hb.resolve_right (fun y => absurd y.1 (by assumption))
        have hgv := SW_gv hw hW (fun j => dgt_lt (b := tn T + 1) (s := s) (w := w) (j := j) (by omega)) s hs.1 hal
        have eg : gf T n σ s (w + 1) = wg T n (gvN σ (dgt (tn T + 1) s w) s) (fun j => hrI ((dgt (tn T + 1) s w) j)) (gf T n σ s w) := by rw [gf, if_pos hal]
        refine g_aload_n d_Md_godfathers_249 rfl ?_
        refine g_iload_n d_Md_godfathers_250 rfl ?_
        refine C_V1 d_Md_godfathers_251 k_Md_287 rfl (Nat.le_of_ble_eq_true rfl) (by decide) (Nat.le_of_ble_eq_true rfl) ?_
        refine c_Md_goesOn hw (hT.q hF5q) hgv hS5 hn (fun mI6 hS6 hF6 => ?_)
        have hF6q := hF5q.tr hF6.q
        have hK31 : (KO T (yrN T n (gvN σ (dgt (tn T + 1) s w) s))) < 2 ^ 31 := p2_31 (kB_lt _ _) hw2
        refine g_aload_n d_Md_godfathers_254 rfl ?_
        refine H_getR 140 d_Md_godfathers_255 f_Md_7.g rfl rfl (by decide) rfl ?_
        refine N_bipush d_Md_godfathers_258 119 rfl ?_
        refine H_ialdN d_Md_godfathers_260 rfl rfl (by omega) (by decide) ?_
        refine T_int (nI (KO T (yrN T n (gvN σ (dgt (tn T + 1) s w) s)))) hS6.2.1 ?_
        refine C_S1 d_Md_godfathers_261 k_Md_290 (Nat.le_of_ble_eq_true rfl) (by decide) (Nat.le_of_ble_eq_true rfl) ?_
        refine (c_Md_ones hK31) ?_
        have ho := onesN_le (KO T (yrN T n (gvN σ (dgt (tn T + 1) s w) s))) 10
        refine S_istore_12_9 d_Md_godfathers_264 rfl rfl ?_
        refine g_iload d_Md_godfathers_266 rfl ?_
        refine g_iload d_Md_godfathers_268 rfl ?_
        refine P_icmp_le d_Md_godfathers_270 306 (by decide) (fun ee2 => ?_) (fun ee2 => ?_)
        · have hle := (hrI_le (a := onesN (KO T (yrN T n (gvN σ (dgt (tn T + 1) s w) s))) 10) (c := (gf T n σ s w).1) (by omega) (by omega)).mp ee2
          have eg2 : gf T n σ s (w + 1) = (gf T n σ s w) := by rw [eg]; unfold wg; rw [if_neg (fun y => by have : (gf T n σ s w).1 ≤ onesN (KO T (yrN T n (gvN σ (dgt (tn T + 1) s w) s))) 10 := y; omega)]
          refine N_iinc_12_6_1 d_Md_godfathers_306 rfl rfl ?_
          refine P_goto d_Md_godfathers_309 87 (by decide) ?_
          have g := ih _ (by omega) (w + 1) mI6 (.int u7) (.int (nI b)) (.int (nI (onesN (KO T (yrN T n (gvN σ (dgt (tn T + 1) s w) s))) 10))) u10 u11 (by omega) (by rw [eg2, hF6.1 163 (by omega) (by omega), h163]; exact hbs) hF6q rfl
          rw [eg2] at g
          exact g
        · have hle := mt (hrI_le (a := onesN (KO T (yrN T n (gvN σ (dgt (tn T + 1) s w) s))) 10) (c := (gf T n σ s w).1) (by omega) (by omega)).mpr ee2
          have eg2 : gf T n σ s (w + 1) = (onesN (KO T (yrN T n (gvN σ (dgt (tn T + 1) s w) s))) 10 + 1, fun j => hrI ((dgt (tn T + 1) s w) j)) := by rw [eg]; unfold wg; exact if_pos (show (gf T n σ s w).1 ≤ onesN (KO T (yrN T n (gvN σ (dgt (tn T + 1) s w) s))) 10 by omega)
          refine g_iload d_Md_godfathers_273 rfl ?_
          refine S_istore_12_5 d_Md_godfathers_275 rfl rfl ?_
          refine N_iconst d_Md_godfathers_277 0 rfl ?_
          refine S_istore_12_10 d_Md_godfathers_278 rfl rfl ?_
          refine lp_Md_gf4 (u := fun j => hrI ((dgt (tn T + 1) s w) j)) hs.2 (fun j hj => by rw [hF6.1 162 (by omega) (by omega)]; exact h162 j hj) (fun mI7 w10 g4 g5 => ?_) _ 0 mI6 (Nat.zero_le _) (fun j hj => absurd hj (Nat.not_lt_zero _)) (fun _ _ => rfl) rfl
          refine N_iinc_12_6_1 d_Md_godfathers_306 rfl rfl ?_
          refine P_goto d_Md_godfathers_309 87 (by decide) ?_
          have g := ih _ (by omega) (w + 1) mI7 (.int u7) (.int (nI b)) (.int (nI (onesN (KO T (yrN T n (gvN σ (dgt (tn T + 1) s w) s))) 10))) w10 u11 (by omega) (by rw [eg2]; exact fun _ j hj => g4 j hj) (hF6q.tr ⟨fun q y1 y2 => g5 q (by omega), fun j _ => by rw [g5 140 (by omega)]⟩) rfl
          rw [eg2] at g
          exact g


theorem c_Md_godfathers {X : CX} {dl : List (Nat × Nat)} {mI : Nat → Nat → Int32} {dr : Nat → Nat → Nat} {Q : Option Value → AH → Prop} {T : TD} (hw : TW T) (hT : TM 3 7 142 T mI) {σ : AS} (hS : SM 0 T σ (KO T σ) mI) (hW : SW T σ) {n i : Int32} (k : ∀ mI', FQ mI mI' → Q (some (.int (aGo T σ n i))) (hp X dl mI' dr)) : EW X m_Md_godfathers 0 (enL m_Md_godfathers.2.2.1 [.ref 139, .int n, .int i]) [] (hp X dl mI dr) Q := by
  show EW X m_Md_godfathers 0 [.ref 139, .int n, .int i, jk, jk, jk, jk, jk, jk, jk, jk, jk] [] (hp X dl mI dr) Q
  have hw1 := hw.1
  have hw2 := hw.2.1
  have hlen : mI 140 32 = nI (Lm σ 5).length := (hS.2.2.2.2 5 (by omega)).1
  have hl10 := (hS.ll hw hW.v 5 (by omega)).2.1
  refine g_iload_n d_Md_godfathers_0 rfl ?_
  refine P_i2l d_Md_godfathers_1 ?_
  refine P_lconst d_Md_godfathers_2 0 rfl ?_
  refine P_ldc2 d_Md_godfathers_3 _ q_Md_293 ?_
  refine C_S3 d_Md_godfathers_6 k_Md_111 (Nat.le_of_ble_eq_true rfl) (by decide) (Nat.le_of_ble_eq_true rfl) ?_
  refine (c_Md_inN 31 rfl rfl) ?_
  refine B_eq d_Md_godfathers_9 26 (by decide) (fun c1 => ?_) (fun c1 => ?_)
  · refine P_bipush d_Md_godfathers_26 (-3) rfl ?_
    refine P_iret d_Md_godfathers_28 rfl ?_
    exact R_i (k _ FQ.rf) (by unfold aGo; rw [if_pos (by first | exact Or.inl c1 | exact Or.inr c2)])
  · refine g_iload_n d_Md_godfathers_12 rfl ?_
    refine P_i2l d_Md_godfathers_13 ?_
    refine P_ldc2 d_Md_godfathers_14 _ q_Md_298 ?_
    refine P_ldc2 d_Md_godfathers_17 _ q_Md_300 ?_
    refine C_S3 d_Md_godfathers_20 k_Md_111 (Nat.le_of_ble_eq_true rfl) (by decide) (Nat.le_of_ble_eq_true rfl) ?_
    refine (c_Md_inI (-1) 2 rfl rfl) ?_
    refine B_ne d_Md_godfathers_23 29 (by decide) (fun c2 => ?_) (fun c2 => ?_)
    · have hn1 := c1
      obtain ⟨u, hu, rfl⟩ := inN_of c1 (by decide)
      have e : aGo T σ (nI u) i = ansI (gfS T σ) (gf T u σ (gfS T σ) ((tn T + 1) ^ gfS T σ)) i := by unfold aGo; rw [if_neg (fun z => z.elim (fun y => y hn1) (fun y => y c2)), tN_nI (by omega)]
      rw [e] at k
      have hs : gfS T σ ≤ (Lm σ 5).length ∧ gfS T σ ≤ 3 := ⟨Nat.min_le_left _ _, Nat.min_le_right _ _⟩
      refine g_aload_n d_Md_godfathers_29 rfl ?_
      refine H_getR 140 d_Md_godfathers_30 f_Md_7.g rfl rfl (by decide) rfl ?_
      refine N_bipush d_Md_godfathers_33 32 rfl ?_
      refine H_ialdN d_Md_godfathers_35 rfl rfl (by omega) (by decide) ?_
      refine T_int (nI ((Lm σ 5).length)) hlen ?_
      refine N_iconst d_Md_godfathers_36 3 rfl ?_
      refine N_icmp_ge d_Md_godfathers_37 50 (by decide) ⟨by omega, by omega⟩ (fun c3 => ?_) (fun c3 => ?_)
      · refine N_iconst d_Md_godfathers_50 3 rfl ?_
        rw [show nI 3 = nI (gfS T σ) by congr 1; unfold gfS; omega]
        refine S_istore_n_12_3 d_Md_godfathers_51 rfl rfl ?_
        refine N_iconst d_Md_godfathers_52 1 rfl ?_
        refine S_istore_12_4 d_Md_godfathers_53 rfl rfl ?_
        refine N_iconst d_Md_godfathers_55 0 rfl ?_
        refine S_istore_12_5 d_Md_godfathers_56 rfl rfl ?_
        refine lp_Md_gf1 hw hT hs.2 (fun v5 => ?_) _ 0 (Nat.zero_le _) rfl
        refine P_iconst d_Md_godfathers_81 (-1) rfl ?_
        refine S_istore_12_5 d_Md_godfathers_82 rfl rfl ?_
        refine N_iconst d_Md_godfathers_84 0 rfl ?_
        refine S_istore_12_6 d_Md_godfathers_85 rfl rfl ?_
        refine lp_Md_gf5 hw hT hS hW (by omega) hs (fun mI1 u6 u7 u8 u9 u10 u11 hb1 hF1 => ?_) _ 0 mI _ _ _ _ _ (Nat.zero_le _) (fun z => absurd rfl z) FQ.rf rfl
        have hb1 := hb1 (gf_nz _ (Nat.pow_pos (by omega)))
        replace k := k mI1 hF1
        unfold ansI at k
        have hk1 : ¬ i.toInt < -1 := by omega
        refine g_iload_n d_Md_godfathers_312 rfl ?_
        refine P_iconst d_Md_godfathers_313 (-1) rfl ?_
        refine P_icmp_ne d_Md_godfathers_314 322 (by decide) (fun gg1 => ?_) (fun gg1 => ?_)
        · refine g_iload_n d_Md_godfathers_322 rfl ?_
          refine g_iload_n d_Md_godfathers_323 rfl ?_
          refine P_icmp_ge d_Md_godfathers_324 336 (by decide) (fun gg2 => ?_) (fun gg2 => ?_)
          · refine P_iconst d_Md_godfathers_336 (-1) rfl ?_
            refine P_iret d_Md_godfathers_337 rfl ?_
            first
              | (have hz : i = -1 := by assumption
                 rw [if_pos hz] at k
                 exact k)
              | (have hz : ¬ i = -1 := by assumption
                 rw [if_neg hz, if_neg (in_no (by omega) (by assumption))] at k
                 exact k)
              | (have hz : ¬ nI w = -1 := by assumption
                 rw [if_neg hz, if_pos hin, nI_toInt (by omega), ← hb1 _ (by rw [Int.toNat_natCast]; exact hw3)] at k
                 exact k)
          · have hin := in_of (n := gfS T σ) (by omega) hk1 (by assumption) (by assumption)
            obtain ⟨w, hw3, rfl⟩ := inN_of hin (by omega)
            refine g_aload_n d_Md_godfathers_327 rfl ?_
            refine H_getR 163 d_Md_godfathers_328 f_Md_80.g rfl rfl (by decide) rfl ?_
            refine g_iload_n d_Md_godfathers_331 rfl ?_
            refine H_ialdN d_Md_godfathers_332 rfl rfl (by omega) (by decide) ?_
            refine P_goto d_Md_godfathers_333 337 (by decide) ?_
            refine P_iret d_Md_godfathers_337 rfl ?_
            first
              | (have hz : i = -1 := by assumption
                 rw [if_pos hz] at k
                 exact k)
              | (have hz : ¬ i = -1 := by assumption
                 rw [if_neg hz, if_neg (in_no (by omega) (by assumption))] at k
                 exact k)
              | (have hz : ¬ nI w = -1 := by assumption
                 rw [if_neg hz, if_pos hin, nI_toInt (by omega), ← hb1 _ (by rw [Int.toNat_natCast]; exact hw3)] at k
                 exact k)
        · refine g_iload d_Md_godfathers_317 rfl ?_
          refine P_goto d_Md_godfathers_319 337 (by decide) ?_
          refine P_iret d_Md_godfathers_337 rfl ?_
          first
            | (have hz : i = -1 := by assumption
               rw [if_pos hz] at k
               exact k)
            | (have hz : ¬ i = -1 := by assumption
               rw [if_neg hz, if_neg (in_no (by omega) (by assumption))] at k
               exact k)
            | (have hz : ¬ nI w = -1 := by assumption
               rw [if_neg hz, if_pos hin, nI_toInt (by omega), ← hb1 _ (by rw [Int.toNat_natCast]; exact hw3)] at k
               exact k)
      · refine g_aload_n d_Md_godfathers_40 rfl ?_
        refine H_getR 140 d_Md_godfathers_41 f_Md_7.g rfl rfl (by decide) rfl ?_
        refine N_bipush d_Md_godfathers_44 32 rfl ?_
        refine H_ialdN d_Md_godfathers_46 rfl rfl (by omega) (by decide) ?_
        refine T_int (nI ((Lm σ 5).length)) hlen ?_
        refine P_goto d_Md_godfathers_47 51 (by decide) ?_
        rw [show nI (Lm σ 5).length = nI (gfS T σ) by congr 1; unfold gfS; omega]
        refine S_istore_n_12_3 d_Md_godfathers_51 rfl rfl ?_
        refine N_iconst d_Md_godfathers_52 1 rfl ?_
        refine S_istore_12_4 d_Md_godfathers_53 rfl rfl ?_
        refine N_iconst d_Md_godfathers_55 0 rfl ?_
        refine S_istore_12_5 d_Md_godfathers_56 rfl rfl ?_
        refine lp_Md_gf1 hw hT hs.2 (fun v5 => ?_) _ 0 (Nat.zero_le _) rfl
        refine P_iconst d_Md_godfathers_81 (-1) rfl ?_
        refine S_istore_12_5 d_Md_godfathers_82 rfl rfl ?_
        refine N_iconst d_Md_godfathers_84 0 rfl ?_
        refine S_istore_12_6 d_Md_godfathers_85 rfl rfl ?_
        refine lp_Md_gf5 hw hT hS hW (by omega) hs (fun mI1 u6 u7 u8 u9 u10 u11 hb1 hF1 => ?_) _ 0 mI _ _ _ _ _ (Nat.zero_le _) (fun z => absurd rfl z) FQ.rf rfl
        have hb1 := hb1 (gf_nz _ (Nat.pow_pos (by omega)))
        replace k := k mI1 hF1
        unfold ansI at k
        have hk1 : ¬ i.toInt < -1 := by omega
        refine g_iload_n d_Md_godfathers_312 rfl ?_
        refine P_iconst d_Md_godfathers_313 (-1) rfl ?_
        refine P_icmp_ne d_Md_godfathers_314 322 (by decide) (fun gg1 => ?_) (fun gg1 => ?_)
        · refine g_iload_n d_Md_godfathers_322 rfl ?_
          refine g_iload_n d_Md_godfathers_323 rfl ?_
          refine P_icmp_ge d_Md_godfathers_324 336 (by decide) (fun gg2 => ?_) (fun gg2 => ?_)
          · refine P_iconst d_Md_godfathers_336 (-1) rfl ?_
            refine P_iret d_Md_godfathers_337 rfl ?_
            first
              | (have hz : i = -1 := by assumption
                 rw [if_pos hz] at k
                 exact k)
              | (have hz : ¬ i = -1 := by assumption
                 rw [if_neg hz, if_neg (in_no (by omega) (by assumption))] at k
                 exact k)
              | (have hz : ¬ nI w = -1 := by assumption
                 rw [if_neg hz, if_pos hin, nI_toInt (by omega), ← hb1 _ (by rw [Int.toNat_natCast]; exact hw3)] at k
                 exact k)
          · have hin := in_of (n := gfS T σ) (by omega) hk1 (by assumption) (by assumption)
            obtain ⟨w, hw3, rfl⟩ := inN_of hin (by omega)
            refine g_aload_n d_Md_godfathers_327 rfl ?_
            refine H_getR 163 d_Md_godfathers_328 f_Md_80.g rfl rfl (by decide) rfl ?_
            refine g_iload_n d_Md_godfathers_331 rfl ?_
            refine H_ialdN d_Md_godfathers_332 rfl rfl (by omega) (by decide) ?_
            refine P_goto d_Md_godfathers_333 337 (by decide) ?_
            refine P_iret d_Md_godfathers_337 rfl ?_
            first
              | (have hz : i = -1 := by assumption
                 rw [if_pos hz] at k
                 exact k)
              | (have hz : ¬ i = -1 := by assumption
                 rw [if_neg hz, if_neg (in_no (by omega) (by assumption))] at k
                 exact k)
              | (have hz : ¬ nI w = -1 := by assumption
                 rw [if_neg hz, if_pos hin, nI_toInt (by omega), ← hb1 _ (by rw [Int.toNat_natCast]; exact hw3)] at k
                 exact k)
        · refine g_iload d_Md_godfathers_317 rfl ?_
          refine P_goto d_Md_godfathers_319 337 (by decide) ?_
          refine P_iret d_Md_godfathers_337 rfl ?_
          first
            | (have hz : i = -1 := by assumption
               rw [if_pos hz] at k
               exact k)
            | (have hz : ¬ i = -1 := by assumption
               rw [if_neg hz, if_neg (in_no (by omega) (by assumption))] at k
               exact k)
            | (have hz : ¬ nI w = -1 := by assumption
               rw [if_neg hz, if_pos hin, nI_toInt (by omega), ← hb1 _ (by rw [Int.toNat_natCast]; exact hw3)] at k
               exact k)
    · refine P_bipush d_Md_godfathers_26 (-3) rfl ?_
      refine P_iret d_Md_godfathers_28 rfl ?_
      exact R_i (k _ FQ.rf) (by unfold aGo; rw [if_pos (by first | exact Or.inl c1 | exact Or.inr c2)])

