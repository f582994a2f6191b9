theorem hrI_le {a c : Nat} (ha : a < 2 ^ 20) (hc : c < 2 ^ 20) : nI a ≤ hrI c ↔ a + 1 ≤ c := by
  rw [Int32.le_iff_toInt_le, nI_toInt (by omega)]
  cases c with
  | zero =>
    have e : (hrI 0).toInt = -1 := rfl
    rw [e]; constructor <;> intro h <;> omega
  | succ j =>
    have e : (hrI (j + 1)).toInt = (j : Int) := nI_toInt (by omega)
    rw [e]; constructor <;> intro h <;> omega
/-- the best so far: how many are kept (0: nothing tried), and what it is -/
abbrev BQ : Type := Nat × (Nat → Int32)
def FB (s : Nat) (q : BQ) (mI : Nat → Nat → Int32) : Prop := mI 111 5 = nI s ∧ mI 111 6 = hrI q.1 ∧ q.1 ≤ 11 ∧ (q.1 ≠ 0 → ∀ j, j < s → mI 114 j = q.2 j)
def kN (T : TD) (σ : AS) : Nat := onesN (kB (aH σ) (tP T)) 10
def wg (T : TD) (n : Nat) (τ : AS) (u : Nat → Int32) (q : BQ) : BQ := if q.1 ≤ kN T (yrN T n τ) then (kN T (yrN T n τ) + 1, u) else q
def Fw (mI mI' : Nat → Nat → Int32) : Prop := ∀ r, r ≠ 111 → ¬ (114 ≤ r ∧ r ≤ 120) → mI' r = mI r
theorem Fw.tr {m1 m2 m3 : Nat → Nat → Int32} (h : Fw m1 m2) (g : Fw m2 m3) : Fw m1 m3 := fun r h1 h2 => (g r h1 h2).trans (h r h1 h2)
theorem Fw.x {m1 m2 : Nat → Nat → Int32} (h : Fw m1 m2) : Fx 111 120 m1 m2 := fun r hr => h r (by omega) (by omega)
theorem FB.to {s : Nat} {q : BQ} {mI mI' : Nat → Nat → Int32} (h : FB s q mI) (h1 : mI' 111 = mI 111) (h2 : mI' 114 = mI 114) : FB s q mI' := by
  unfold FB; rw [h1, h2]; exact h
/-- the answer of a search -/
def ansI (s : Nat) (q : BQ) (x : Int32) : Int32 := if x = -1 then hrI q.1 else if inN x s then q.2 x.toInt.toNat else -1
theorem c_Fo_answerAt {X : CX} {dl : List (Nat × Nat)} {mI : Nat → Nat → Int32} {dr : Nat → Nat → Nat} {Q : Option Value → AH → Prop} {s : Nat} {q : BQ} {x : Int32} (hs : s ≤ 5) (hB : FB s q mI) (hq : q.1 ≠ 0) (k : Q (some (.int (ansI s q x))) (hp X dl mI dr)) : EW X m_Fo_answerAt 0 (enL m_Fo_answerAt.2.2.1 [.ref 111, .int x]) [] (hp X dl mI dr) Q := by
  show EW X m_Fo_answerAt 0 [.ref 111, .int x] [] (hp X dl mI dr) Q
  refine g_iload_n d_Fo_answerAt_0 rfl ?_
  refine P_iconst d_Fo_answerAt_1 (-1) rfl ?_
  refine P_icmp_ne d_Fo_answerAt_2 10 (by decide) (fun c1 => ?_) (fun c1 => ?_)
  · refine g_iload_n d_Fo_answerAt_10 rfl ?_
    refine N_iconst d_Fo_answerAt_11 0 rfl ?_
    refine g_aload_n d_Fo_answerAt_12 rfl ?_
    refine H_getI d_Fo_answerAt_13 f_Fo_56.g rfl rfl (by decide) ?_
    refine T_int (nI (s)) hB.1 ?_
    refine N_iconst d_Fo_answerAt_16 1 rfl ?_
    refine P_isub d_Fo_answerAt_17 ?_
    refine C_S3 d_Fo_answerAt_18 k_Fo_59 (Nat.le_of_ble_eq_true rfl) (by decide) (Nat.le_of_ble_eq_true rfl) ?_
    refine c_Pn_isWithin ?_
    have hin : (nI 0 ≤ x ∧ x ≤ nI s - nI 1) ↔ inN x s := by
      rw [Int32.le_iff_toInt_le, Int32.le_iff_toInt_le, nI_m1 (by omega), nI_toInt (by omega)]
      constructor <;> intro z <;> constructor <;> omega
    refine B_eq d_Fo_answerAt_21 33 (by decide) (fun c2 => ?_) (fun c2 => ?_)
    · refine P_iconst d_Fo_answerAt_33 (-1) rfl ?_
      refine P_iret d_Fo_answerAt_34 rfl ?_
      exact R_i k (by unfold ansI; rw [if_neg c1, if_neg (fun z => c2 (hin.mpr z))])
    · obtain ⟨j, hj, hxj⟩ := inN_of (hin.mp c2) (by omega)
      refine g_aload_n d_Fo_answerAt_24 rfl ?_
      refine H_getR 114 d_Fo_answerAt_25 f_Fo_18.g rfl rfl (by decide) rfl ?_
      refine g_iload_n d_Fo_answerAt_28 rfl ?_
      refine H_ialdN d_Fo_answerAt_29 rfl hxj (show j < 5 by omega) (by decide) ?_
      refine T_int (q.2 j) (hB.2.2.2 hq j hj) ?_
      refine P_goto d_Fo_answerAt_30 34 (by decide) ?_
      refine P_iret d_Fo_answerAt_34 rfl ?_
      exact R_i k (by unfold ansI; rw [if_neg c1, if_pos (hin.mp c2), hxj, nI_toInt (by omega)]; rfl)
  · refine g_aload_n d_Fo_answerAt_5 rfl ?_
    refine H_getI d_Fo_answerAt_6 f_Fo_52.g rfl rfl (by decide) ?_
    refine T_int (hrI q.1) hB.2.1 ?_
    refine P_iret d_Fo_answerAt_9 rfl ?_
    exact R_i k (by unfold ansI; rw [if_pos c1])

theorem c_Fo_weighTrial {X : CX} {dl : List (Nat × Nat)} {mI : Nat → Nat → Int32} {dr : Nat → Nat → Nat} {Q : Option Value → AH → Prop} {T : TD} {τ : AS} {s n : Nat} {q : BQ} {u : Nat → Int32} (hw : TW T) (hT : TR 33 T mI) (hS : SC 115 T τ mI) (hW : SV T τ) (hs : s ≤ 5) (hn : n < 2 ^ 31) (hB : FB s q mI) (hu : ∀ j, j < s → mI 113 j = u j) (k : ∀ mI', FB s (wg T n τ u q) mI' → Fw mI mI' → Q none (hp X dl mI' dr)) : EW X m_Fo_weighTrial 0 (enL m_Fo_weighTrial.2.2.1 [.ref 111, .int (nI n)]) [] (hp X dl mI dr) Q := by
  show EW X m_Fo_weighTrial 0 [.ref 111, .int (nI n), jk] [] (hp X dl mI dr) Q
  have hw2 := hw.2.1
  refine g_aload_n d_Fo_weighTrial_0 rfl ?_
  refine H_getR 115 d_Fo_weighTrial_1 f_Fo_30.g rfl rfl (by decide) rfl ?_
  refine g_iload_n d_Fo_weighTrial_4 rfl ?_
  refine C_V1 d_Fo_weighTrial_5 k_Fo_38 rfl (Nat.le_of_ble_eq_true rfl) (by decide) (Nat.le_of_ble_eq_true rfl) ?_
  refine c_St_passYears st115 hw hT hS hW hn (fun mI1 hS1 hW1 hF1 => ?_)
  have hFw : Fw mI mI1 := fun r h1 h2 => hF1 r (by omega)
  have hB1 : FB s q mI1 := hB.to (hF1 111 (by omega)) (hF1 114 (by omega))
  have hk10 : kB (aH (yrN T n τ)) (tP T) < 1024 := Nat.lt_of_lt_of_le (kB_lt _ _) (Nat.pow_le_pow_right (n := 2) (by decide) hw2)
  have hle := onesN_le (kB (aH (yrN T n τ)) (tP T)) 10
  have hq11 := hB.2.2.1
  refine g_aload_n d_Fo_weighTrial_8 rfl ?_
  refine H_getR 115 d_Fo_weighTrial_9 f_Fo_30.g rfl rfl (by decide) rfl ?_
  refine H_getI d_Fo_weighTrial_12 f_Fo_82.g rfl rfl (by decide) ?_
  refine T_int (nI (kB (aH (yrN T n τ)) (tP T))) hS1.2.1 ?_
  refine C_S1 d_Fo_weighTrial_15 k_Fo_85 (Nat.le_of_ble_eq_true rfl) (by decide) (Nat.le_of_ble_eq_true rfl) ?_
  refine (c_In_bitCount hk10) ?_
  refine S_istore_n_3_2 d_Fo_weighTrial_18 rfl rfl ?_
  refine g_iload_n d_Fo_weighTrial_19 rfl ?_
  refine g_aload_n d_Fo_weighTrial_20 rfl ?_
  refine H_getI d_Fo_weighTrial_21 f_Fo_52.g rfl rfl (by decide) ?_
  refine T_int (hrI q.1) hB1.2.1 ?_
  refine P_icmp_le d_Fo_weighTrial_24 49 (by decide) (fun c1 => ?_) (fun c1 => ?_)
  · refine P_vret d_Fo_weighTrial_49 rfl ?_
    rw [hrI_le (by omega) (by omega)] at c1
    refine k mI1 ?_ hFw
    unfold wg kN
    rw [if_neg (by omega)]
    exact hB1
  · refine g_aload_n d_Fo_weighTrial_27 rfl ?_
    refine g_iload_n d_Fo_weighTrial_28 rfl ?_
    refine H_putI d_Fo_weighTrial_29 f_Fo_52 rfl rfl (by decide) ?_
    refine g_aload_n d_Fo_weighTrial_32 rfl ?_
    refine H_getR 113 d_Fo_weighTrial_33 f_Fo_15.g rfl rfl (by decide) rfl ?_
    refine N_iconst d_Fo_weighTrial_36 0 rfl ?_
    refine g_aload_n d_Fo_weighTrial_37 rfl ?_
    refine H_getR 114 d_Fo_weighTrial_38 f_Fo_18.g rfl rfl (by decide) rfl ?_
    refine N_iconst d_Fo_weighTrial_41 0 rfl ?_
    refine g_aload_n d_Fo_weighTrial_42 rfl ?_
    refine H_getI d_Fo_weighTrial_43 f_Fo_56.g rfl rfl (by decide) ?_
    refine T_int (nI (s)) (by rw [sI_n (by omega)]; exact hB1.1) ?_
    refine H_copy d_Fo_weighTrial_46 a_Fo_90 (by decide) (Nat.le_of_ble_eq_true rfl) rfl rfl rfl rfl rfl (by omega) (by omega) (by decide) ?_
    refine P_vret d_Fo_weighTrial_49 rfl ?_
    rw [hrI_le (by omega) (by omega)] at c1
    refine k _ ?_ ?_
    · unfold wg kN
      rw [if_pos (by omega)]
      refine ⟨?_, ?_, by show onesN _ 10 + 1 ≤ 11; omega, fun _ j hj => ?_⟩
      · rw [va_up_n _ _ (by omega), sI_n (by omega)]; exact hB1.1
      · rw [va_up_n _ _ (by omega)]; exact sI_s _ _ _ _
      · rw [va_up_s, cpy0 hj, sI_r (by omega)]; exact (congrFun (hF1 113 (by omega)) j).trans (hu j hj)
    · intro r h1 h2
      rw [va_up_n _ _ (by omega), sI_r h1]
      exact hFw r h1 h2

/-- a list stands in a row -/
def AL (r : Nat) (l : List Nat) (mI : Nat → Nat → Int32) : Prop := ∀ j, j < l.length → mI r j = nI (l.getD j 0)
theorem getD_set (l : List Nat) (i j v : Nat) (hi : i < l.length) : (l.set i v).getD j 0 = if j = i then v else l.getD j 0 := by
  rw [List.getD_eq_getElem?_getD, List.getD_eq_getElem?_getD, List.getElem?_set]
  by_cases h : i = j
  · subst h; simp [hi]
  · rw [if_neg h, if_neg (fun z => h z.symm)]
theorem AL_set {r : Nat} {l : List Nat} {mI : Nat → Nat → Int32} (h : AL r l mI) (i v : Nat) (hi : i < l.length) : AL r (l.set i v) (sI mI r i (nI v)) := by
  intro j hj
  rw [List.length_set] at hj
  rw [getD_set l i j v hi, sI_w]
  by_cases z : j = i
  · subst z; simp [upd]
  · simp only [upd, z, if_false]; exact h j hj
theorem c_Fo_swapTried {X : CX} {dl : List (Nat × Nat)} {mI : Nat → Nat → Int32} {dr : Nat → Nat → Nat} {Q : Option Value → AH → Prop} {l : List Nat} {i j : Nat} (hl : l.length ≤ 5) (hA : AL 113 l mI) (hi : i < l.length) (hj : j < l.length) (k : ∀ mI', AL 113 (sw2 l i j) mI' → Fx 113 113 mI mI' → Q none (hp X dl mI' dr)) : EW X m_Fo_swapTried 0 (enL m_Fo_swapTried.2.2.1 [.ref 111, .int (nI i), .int (nI j)]) [] (hp X dl mI dr) Q := by
  show EW X m_Fo_swapTried 0 [.ref 111, .int (nI i), .int (nI j), jk] [] (hp X dl mI dr) Q
  refine g_aload_n d_Fo_swapTried_0 rfl ?_
  refine H_getR 113 d_Fo_swapTried_1 f_Fo_15.g rfl rfl (by decide) rfl ?_
  refine g_iload_n d_Fo_swapTried_4 rfl ?_
  refine H_ialdN d_Fo_swapTried_5 rfl rfl (by omega) (by decide) ?_
  refine T_int (nI (l.getD i 0)) (hA i hi) ?_
  refine S_istore_n_4_3 d_Fo_swapTried_6 rfl rfl ?_
  refine g_aload_n d_Fo_swapTried_7 rfl ?_
  refine H_getR 113 d_Fo_swapTried_8 f_Fo_15.g rfl rfl (by decide) rfl ?_
  refine g_iload_n d_Fo_swapTried_11 rfl ?_
  refine g_aload_n d_Fo_swapTried_12 rfl ?_
  refine H_getR 113 d_Fo_swapTried_13 f_Fo_15.g rfl rfl (by decide) rfl ?_
  refine g_iload_n d_Fo_swapTried_16 rfl ?_
  refine H_ialdN d_Fo_swapTried_17 rfl rfl (by omega) (by decide) ?_
  refine T_int (nI (l.getD j 0)) (hA j hj) ?_
  refine H_iastN d_Fo_swapTried_18 rfl rfl (by omega) (by decide) ?_
  refine g_aload_n d_Fo_swapTried_19 rfl ?_
  refine H_getR 113 d_Fo_swapTried_20 f_Fo_15.g rfl rfl (by decide) rfl ?_
  refine g_iload_n d_Fo_swapTried_23 rfl ?_
  refine g_iload_n d_Fo_swapTried_24 rfl ?_
  refine H_iastN d_Fo_swapTried_25 rfl rfl (by omega) (by decide) ?_
  refine P_vret d_Fo_swapTried_26 rfl ?_
  exact k _ (AL_set (AL_set hA i _ hi) j _ (by rw [List.length_set]; exact hj)) (Fx_sI (Fx_sI Fx.rf (by omega)) (by omega))

theorem getD_lt {l : List Nat} {b : Nat} (h : ∀ x ∈ l, x < b) {i : Nat} (hi : i < l.length) : l.getD i 0 < b := by
  rw [List.getD_eq_getElem?_getD, List.getElem?_eq_getElem hi]; exact h _ (List.getElem_mem hi)
theorem nI_sub2 {s : Nat} (h : s ≤ 5) : nI s - nI 2 = hrI (s - 1) ∨ s = 0 := by
  rcases (show s = 0 ∨ s = 1 ∨ s = 2 ∨ s = 3 ∨ s = 4 ∨ s = 5 by omega) with rfl | rfl | rfl | rfl | rfl | rfl <;> first | exact Or.inr rfl | exact Or.inl (by decide)
theorem hrI_m1 {c : Nat} (h : c < 2 ^ 20) : hrI (c + 1) + -1 = hrI c := by
  cases c with
  | zero => rfl
  | succ j =>
    show nI (j + 1) + -1 = nI j
    refine Int32.toInt_inj.mp ?_
    rw [Int32.toInt_add, nI_toInt (by omega), nI_toInt (by omega)]
    show (((j + 1 : Nat) : Int) + (-1)).bmod (2 ^ 32) = _
    rw [Int.bmod_eq_of_le (by omega) (by omega)]; omega
theorem hrI_neg {c : Nat} (h : c < 2 ^ 20) : hrI c < 0 ↔ c = 0 := by
  cases c with
  | zero => exact ⟨fun _ => rfl, fun _ => by decide⟩
  | succ j => exact ⟨fun z => absurd z (nI_pos (by omega)), fun z => absurd z (by omega)⟩
theorem lp_Fo_next3 {X : CX} {dl : List (Nat × Nat)} {mI : Nat → Nat → Int32} {dr : Nat → Nat → Nat} {Q : Option Value → AH → Prop} {r : Nat} {f : List Nat} {g : Nat} (k : ∀ mI', AL 113 f mI' → Fx 113 113 mI mI' → Q (some (.int (nI 1))) (hp X dl mI' dr)) : ∀ (d : Nat) (lo : Nat) (hi : Nat) (l : List Nat) (mI2 : Nat → Nat → Int32), (l.length ≤ 5) → (hi < l.length) → (lo ≤ 10) → (AL 113 l mI2) → (Fx 113 113 mI mI2) → (∃ d2, hi < lo + d2 ∧ rv2 d2 l lo hi = f) → hi - lo = d → EW X m_Fo_toNextOrder 93 [.ref 111, .int (nI r), .int (nI g), .int (nI lo), .int (nI hi)] [] (hp X dl mI2 dr) Q := by
  intro d
  induction d using Nat.strongRecOn with
  | _ d ih =>
    intro lo hi l mI2 hls hhi hlo hA2 hF2 he hd
    refine g_iload_n d_Fo_toNextOrder_93 rfl ?_
    refine g_iload d_Fo_toNextOrder_94 rfl ?_
    refine N_icmp_ge d_Fo_toNextOrder_96 115 (by decide) ⟨by omega, by omega⟩ (fun c1 => ?_) (fun c1 => ?_)
    · refine N_iconst d_Fo_toNextOrder_115 1 rfl ?_
      refine P_zret d_Fo_toNextOrder_116 rfl (by decide) ?_
      obtain ⟨d2, hd2, he⟩ := he
      have he2 : l = f := by
        cases d2 with
        | zero => exact he
        | succ d2 => rw [rv2, if_neg (by omega)] at he; exact he
      rw [← he2] at k
      exact k _ hA2 hF2
    · refine g_aload_n d_Fo_toNextOrder_99 rfl ?_
      refine g_iload_n d_Fo_toNextOrder_100 rfl ?_
      refine g_iload d_Fo_toNextOrder_101 rfl ?_
      refine C_V2 d_Fo_toNextOrder_103 k_Fo_96 rfl (Nat.le_of_ble_eq_true rfl) (by decide) (Nat.le_of_ble_eq_true rfl) ?_
      refine c_Fo_swapTried hls hA2 (by omega) hhi (fun mI3 hA3 hF3 => ?_)
      refine N_iinc_5_3_1 d_Fo_toNextOrder_106 rfl rfl ?_
      obtain ⟨h0, rfl⟩ : ∃ h0, hi = h0 + 1 := ⟨hi - 1, by omega⟩
      refine N_iinc_5_4_m d_Fo_toNextOrder_109 rfl rfl ?_
      refine P_goto d_Fo_toNextOrder_112 93 (by decide) ?_
      obtain ⟨d2, hd2, he⟩ := he
      cases d2 with
      | zero => omega
      | succ d2 =>
        rw [rv2, if_pos (by omega)] at he
        exact ih _ (by omega) (lo + 1) h0 _ mI3 (by rw [sw2_len]; exact hls) (by rw [sw2_len]; omega) (by omega) hA3 (hF2.tr hF3) ⟨d2, by omega, he⟩ rfl

