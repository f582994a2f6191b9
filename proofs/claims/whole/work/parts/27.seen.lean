/-- what was seen: how many, strengths, years, how much -/
abbrev GD : Type := Nat × (Nat → Nat) × (Nat → Nat) × (Nat → Nat)
def GW (G : GD) : Prop := G.1 ≤ 6 ∧ ∀ i, i < G.1 → G.2.1 i < 10 ∧ G.2.2.1 i < 10 ∧ G.2.2.2 i ≤ 200
def GR (G : GD) (mI : Nat → Nat → Int32) : Prop := mI 121 3 = nI G.1 ∧ ∀ i, i < G.1 → mI 122 i = nI (G.2.1 i) ∧ mI 123 i = nI (G.2.2.1 i) ∧ mI 124 i = nI (G.2.2.2 i)
def GM (G : GD) (mI : Nat → Nat → Int32) : Prop := mI 139 36 = nI G.1 ∧ ∀ i, i < G.1 → mI 164 i = nI (G.2.1 i) ∧ mI 165 i = nI (G.2.2.1 i) ∧ mI 166 i = nI (G.2.2.2 i)
def gAdd (G : GD) (s n d : Nat) : GD := (G.1 + 1, va_up G.2.1 G.1 s, va_up G.2.2.1 G.1 n, va_up G.2.2.2 G.1 d)
theorem GW_add {G : GD} {s n d : Nat} (h : GW G) (h6 : G.1 < 6) (hs : s < 10) (hn : n < 10) (hd : d ≤ 200) : GW (gAdd G s n d) := by
  refine ⟨h6, fun i hi => ?_⟩
  have hi2 : i < G.1 + 1 := hi
  show va_up G.2.1 G.1 s i < 10 ∧ va_up G.2.2.1 G.1 n i < 10 ∧ va_up G.2.2.2 G.1 d i ≤ 200
  by_cases h1 : i = G.1
  · rw [h1, va_up_s, va_up_s, va_up_s]; exact ⟨hs, hn, hd⟩
  · rw [va_up_n _ _ h1, va_up_n _ _ h1, va_up_n _ _ h1]; exact h.2 i (by omega)
theorem c_Sg_addF {X : CX} {dl : List (Nat × Nat)} {mI : Nat → Nat → Int32} {dr : Nat → Nat → Nat} {Q : Option Value → AH → Prop} {G : GD} {s n d : Nat} (hG : GR G mI) (h6 : G.1 = 6) (k : Q (some (.int (nI 0))) (hp X dl mI dr)) : EW X m_Sg_add 0 (enL m_Sg_add.2.2.1 [.ref 121, .int (nI s), .int (nI n), .int (nI d)]) [] (hp X dl mI dr) Q := by
  show EW X m_Sg_add 0 [.ref 121, .int (nI s), .int (nI n), .int (nI d)] [] (hp X dl mI dr) Q
  refine g_aload_n d_Sg_add_0 rfl ?_
  refine H_getI d_Sg_add_1 f_Sg_21.g rfl rfl (by decide) ?_
  refine T_int (nI (G.1)) hG.1 ?_
  refine N_bipush d_Sg_add_4 6 rfl ?_
  refine N_icmp_lt d_Sg_add_6 11 (by decide) ⟨by omega, by omega⟩ (fun c1 => ?_) (fun c1 => ?_)
  · exact absurd c1 (by omega)
  · refine N_iconst d_Sg_add_9 0 rfl ?_
    refine P_zret d_Sg_add_10 rfl (by decide) ?_
    exact k

theorem c_Sg_add {X : CX} {dl : List (Nat × Nat)} {mI : Nat → Nat → Int32} {dr : Nat → Nat → Nat} {Q : Option Value → AH → Prop} {G : GD} {s n d : Nat} (hG : GR G mI) (h6 : G.1 < 6) (k : ∀ mI', GR (gAdd G s n d) mI' → Fx 121 124 mI mI' → Q (some (.int (nI 1))) (hp X dl mI' dr)) : EW X m_Sg_add 0 (enL m_Sg_add.2.2.1 [.ref 121, .int (nI s), .int (nI n), .int (nI d)]) [] (hp X dl mI dr) Q := by
  show EW X m_Sg_add 0 [.ref 121, .int (nI s), .int (nI n), .int (nI d)] [] (hp X dl mI dr) Q
  refine g_aload_n d_Sg_add_0 rfl ?_
  refine H_getI d_Sg_add_1 f_Sg_21.g rfl rfl (by decide) ?_
  refine T_int (nI (G.1)) hG.1 ?_
  refine N_bipush d_Sg_add_4 6 rfl ?_
  refine N_icmp_lt d_Sg_add_6 11 (by decide) ⟨by omega, by omega⟩ (fun c1 => ?_) (fun c1 => ?_)
  · refine g_aload_n d_Sg_add_11 rfl ?_
    refine H_getR 122 d_Sg_add_12 f_Sg_11.g rfl rfl (by decide) rfl ?_
    refine g_aload_n d_Sg_add_15 rfl ?_
    refine H_getI d_Sg_add_16 f_Sg_21.g rfl rfl (by decide) ?_
    refine T_int (nI (G.1)) hG.1 ?_
    refine g_iload_n d_Sg_add_19 rfl ?_
    refine H_iastN d_Sg_add_20 rfl rfl (by omega) (by decide) ?_
    refine g_aload_n d_Sg_add_21 rfl ?_
    refine H_getR 123 d_Sg_add_22 f_Sg_15.g rfl rfl (by decide) rfl ?_
    refine g_aload_n d_Sg_add_25 rfl ?_
    refine H_getI d_Sg_add_26 f_Sg_21.g rfl rfl (by decide) ?_
    refine T_int (nI (G.1)) (by rw [sI_r (by omega)]; exact hG.1) ?_
    refine g_iload_n d_Sg_add_29 rfl ?_
    refine H_iastN d_Sg_add_30 rfl rfl (by omega) (by decide) ?_
    refine g_aload_n d_Sg_add_31 rfl ?_
    refine H_getR 124 d_Sg_add_32 f_Sg_18.g rfl rfl (by decide) rfl ?_
    refine g_aload_n d_Sg_add_35 rfl ?_
    refine H_getI d_Sg_add_36 f_Sg_21.g rfl rfl (by decide) ?_
    refine T_int (nI (G.1)) (by rw [sI_r (by omega), sI_r (by omega)]; exact hG.1) ?_
    refine g_iload_n d_Sg_add_39 rfl ?_
    refine H_iastN d_Sg_add_40 rfl rfl (by omega) (by decide) ?_
    refine g_aload_n d_Sg_add_41 rfl ?_
    refine P_dupA d_Sg_add_42 ?_
    refine H_getI d_Sg_add_43 f_Sg_21.g rfl rfl (by decide) ?_
    refine T_int (nI (G.1)) (by rw [sI_r (by omega), sI_r (by omega), sI_r (by omega)]; exact hG.1) ?_
    refine N_iconst d_Sg_add_46 1 rfl ?_
    refine N_iadd d_Sg_add_47 ?_
    refine H_putI d_Sg_add_48 f_Sg_21 rfl rfl (by decide) ?_
    refine N_iconst d_Sg_add_51 1 rfl ?_
    refine P_zret d_Sg_add_52 rfl (by decide) ?_
    refine k _ ⟨sI_s _ _ _ _, fun i hi => ?_⟩ (Fx_sI (Fx_sI (Fx_sI (Fx_sI Fx.rf (by omega)) (by omega)) (by omega)) (by omega))
    have hi2 : i < G.1 + 1 := hi
    show _ = nI (va_up G.2.1 G.1 s i) ∧ _ = nI (va_up G.2.2.1 G.1 n i) ∧ _ = nI (va_up G.2.2.2 G.1 d i)
    by_cases h1 : i = G.1
    · subst h1
      simp (disch := omega) only [sI_r, sI_s, va_up_s]
      exact ⟨trivial, trivial, trivial⟩
    · have h3 := hG.2 i (by omega)
      simp (disch := omega) only [sI_r, sI_n, va_up_n]
      exact h3
  · exact absurd c1 (by omega)

def fitB (G : GD) (kd : Nat) : Nat → Bool
  | 0 => true
  | i + 1 => fitB G kd i && decide (doesN kd (G.2.1 i) * G.2.2.1 i = G.2.2.2 i)
theorem fitB_f {G : GD} {kd i : Nat} (h : fitB G kd i = false) : ∀ j, i ≤ j → fitB G kd j = false
  | 0, hj => by have : i = 0 := by omega
                subst this; exact h
  | j + 1, hj => by
    rcases (show i = j + 1 ∨ i ≤ j by omega) with rfl | h2
    · exact h
    · rw [fitB, fitB_f h j h2]; rfl
def pk1 (G : GD) (s kd : Nat) : Nat := if fitB G kd G.1 = true then s ||| 2 ^ kd else s
def pkN (G : GD) (m : Nat) : Nat := (List.range m).foldl (pk1 G) 0
theorem pkN_s (G : GD) (m : Nat) : pkN G (m + 1) = pk1 G (pkN G m) m := by unfold pkN; rw [List.range_succ, List.foldl_append]; rfl
theorem pkN_lt (G : GD) : ∀ m, pkN G m < 2 ^ m
  | 0 => Nat.lt_succ_self 0
  | m + 1 => by
    have := pkN_lt G m
    rw [pkN_s, pk1]
    split
    · exact Nat.or_lt_two_pow (by rw [Nat.pow_succ]; omega) (Nat.pow_lt_pow_right (by decide) (by omega))
    · rw [Nat.pow_succ]; omega
theorem lp_Sg_fitsAll {X : CX} {dl : List (Nat × Nat)} {mI : Nat → Nat → Int32} {dr : Nat → Nat → Nat} {Q : Option Value → AH → Prop} {G : GD} {kd : Nat} (hg : GW G) (hG : GR G mI) (hk : kd < 5) (k : Q (some (.int (bI (fitB G kd G.1 = true)))) (hp X dl mI dr)) : ∀ (d : Nat) (i : Nat), (i ≤ G.1) → (fitB G kd i = true) → G.1 - i = d → EW X m_Sg_fitsAll 2 [.ref 121, .int (nI kd), .int (nI i)] [] (hp X dl mI dr) Q := by
  intro d
  induction d using Nat.strongRecOn with
  | _ d ih =>
    intro i hi hb hd
    have hg1 := hg.1
    refine g_iload_n d_Sg_fitsAll_2 rfl ?_
    refine g_aload_n d_Sg_fitsAll_3 rfl ?_
    refine H_getI d_Sg_fitsAll_4 f_Sg_21.g rfl rfl (by decide) ?_
    refine T_int (nI (G.1)) hG.1 ?_
    refine N_icmp_ge d_Sg_fitsAll_7 44 (by decide) ⟨by omega, by omega⟩ (fun c1 => ?_) (fun c1 => ?_)
    · refine N_iconst d_Sg_fitsAll_44 1 rfl ?_
      refine P_zret d_Sg_fitsAll_45 rfl (by decide) ?_
      have e : i = G.1 := by omega
      subst e
      exact R_i k (bI_t' hb)
    · have hgi := hg.2 i c1
      have hz := doesN_le (k := kd) hgi.1
      have hmul : doesN kd (G.2.1 i) * G.2.2.1 i ≤ 18 * 9 := Nat.mul_le_mul hz (by omega)
      refine g_iload_n d_Sg_fitsAll_10 rfl ?_
      refine g_aload_n d_Sg_fitsAll_11 rfl ?_
      refine H_getR 122 d_Sg_fitsAll_12 f_Sg_11.g rfl rfl (by decide) rfl ?_
      refine g_iload_n d_Sg_fitsAll_15 rfl ?_
      refine H_ialdN d_Sg_fitsAll_16 rfl rfl (by omega) (by decide) ?_
      refine T_int (nI (G.2.1 i)) (hG.2 i c1).1 ?_
      refine C_S2 d_Sg_fitsAll_17 k_Sg_31 (Nat.le_of_ble_eq_true rfl) (by decide) (Nat.le_of_ble_eq_true rfl) ?_
      refine (c_Kd_does hk hgi.1) ?_
      refine g_aload_n d_Sg_fitsAll_20 rfl ?_
      refine H_getR 123 d_Sg_fitsAll_21 f_Sg_15.g rfl rfl (by decide) rfl ?_
      refine g_iload_n d_Sg_fitsAll_24 rfl ?_
      refine H_ialdN d_Sg_fitsAll_25 rfl rfl (by omega) (by decide) ?_
      refine T_int (nI (G.2.2.1 i)) (hG.2 i c1).2.1 ?_
      refine N_imul d_Sg_fitsAll_26 ?_
      refine g_aload_n d_Sg_fitsAll_27 rfl ?_
      refine H_getR 124 d_Sg_fitsAll_28 f_Sg_18.g rfl rfl (by decide) rfl ?_
      refine g_iload_n d_Sg_fitsAll_31 rfl ?_
      refine H_ialdN d_Sg_fitsAll_32 rfl rfl (by omega) (by decide) ?_
      refine T_int (nI (G.2.2.2 i)) (hG.2 i c1).2.2 ?_
      refine N_icmp_eq d_Sg_fitsAll_33 38 (by decide) ⟨by omega, by omega⟩ (fun c2 => ?_) (fun c2 => ?_)
      · refine N_iinc_3_2_1 d_Sg_fitsAll_38 rfl rfl ?_
        refine P_goto d_Sg_fitsAll_41 2 (by decide) ?_
        refine ih _ (by omega) (i + 1) (by omega) ?_ rfl
        rw [fitB, hb, decide_eq_true c2]; rfl
      · refine N_iconst d_Sg_fitsAll_36 0 rfl ?_
        refine P_zret d_Sg_fitsAll_37 rfl (by decide) ?_
        have e2 : fitB G kd (i + 1) = false := by rw [fitB, hb, decide_eq_false c2]; rfl
        exact R_i k (bI_f' (by rw [fitB_f e2 _ (by omega)]; decide))

theorem c_Sg_fitsAll {X : CX} {dl : List (Nat × Nat)} {mI : Nat → Nat → Int32} {dr : Nat → Nat → Nat} {Q : Option Value → AH → Prop} {G : GD} {kd : Nat} (hg : GW G) (hG : GR G mI) (hk : kd < 5) (k : Q (some (.int (bI (fitB G kd G.1 = true)))) (hp X dl mI dr)) : EW X m_Sg_fitsAll 0 (enL m_Sg_fitsAll.2.2.1 [.ref 121, .int (nI kd)]) [] (hp X dl mI dr) Q := by
  show EW X m_Sg_fitsAll 0 [.ref 121, .int (nI kd), jk] [] (hp X dl mI dr) Q
  refine N_iconst d_Sg_fitsAll_0 0 rfl ?_
  refine S_istore_n_3_2 d_Sg_fitsAll_1 rfl rfl ?_
  exact lp_Sg_fitsAll hg hG hk k _ 0 (Nat.zero_le _) rfl rfl

theorem lp_Sg_possibleKinds {X : CX} {dl : List (Nat × Nat)} {mI : Nat → Nat → Int32} {dr : Nat → Nat → Nat} {Q : Option Value → AH → Prop} {G : GD} (hg : GW G) (hG : GR G mI) (k : Q (some (.int (nI (pkN G 5)))) (hp X dl mI dr)) : ∀ (d : Nat) (i : Nat), (i ≤ 5) → 5 - i = d → EW X m_Sg_possibleKinds 4 [.ref 121, .int (nI (pkN G i)), .int (nI i)] [] (hp X dl mI dr) Q := by
  intro d
  induction d using Nat.strongRecOn with
  | _ d ih =>
    intro i hi hd
    refine g_iload_n d_Sg_possibleKinds_4 rfl ?_
    refine N_iconst d_Sg_possibleKinds_5 5 rfl ?_
    refine N_icmp_ge d_Sg_possibleKinds_6 29 (by decide) ⟨by omega, by omega⟩ (fun c1 => ?_) (fun c1 => ?_)
    · refine g_iload_n d_Sg_possibleKinds_29 rfl ?_
      refine P_iret d_Sg_possibleKinds_30 rfl ?_
      have e : i = 5 := by omega
      subst e
      exact k
    · refine g_aload_n d_Sg_possibleKinds_9 rfl ?_
      refine g_iload_n d_Sg_possibleKinds_10 rfl ?_
      refine C_V1 d_Sg_possibleKinds_11 k_Sg_27 rfl (Nat.le_of_ble_eq_true rfl) (by decide) (Nat.le_of_ble_eq_true rfl) ?_
      refine (c_Sg_fitsAll hg hG c1) ?_
      refine B_eq d_Sg_possibleKinds_14 23 (by decide) (fun c2 => ?_) (fun c2 => ?_)
      · refine N_iinc_3_2_1 d_Sg_possibleKinds_23 rfl rfl ?_
        refine P_goto d_Sg_possibleKinds_26 4 (by decide) ?_
        have e : pkN G (i + 1) = pkN G i := by rw [pkN_s, pk1, if_neg c2]
        rw [← e]
        exact ih _ (by omega) (i + 1) (by omega) rfl
      · refine g_iload_n d_Sg_possibleKinds_17 rfl ?_
        refine N_iconst d_Sg_possibleKinds_18 1 rfl ?_
        refine g_iload_n d_Sg_possibleKinds_19 rfl ?_
        refine N_ishl d_Sg_possibleKinds_20 (by omega) (p2_lt (by omega)) ?_
        refine N_ior d_Sg_possibleKinds_21 ?_
        refine S_istore_n_3_1 d_Sg_possibleKinds_22 rfl rfl ?_
        refine N_iinc_3_2_1 d_Sg_possibleKinds_23 rfl rfl ?_
        refine P_goto d_Sg_possibleKinds_26 4 (by decide) ?_
        have e : pkN G (i + 1) = pkN G i ||| 1 * 2 ^ i := by rw [pkN_s, pk1, if_pos c2, Nat.one_mul]
        rw [← e]
        exact ih _ (by omega) (i + 1) (by omega) rfl

theorem c_Sg_possibleKinds {X : CX} {dl : List (Nat × Nat)} {mI : Nat → Nat → Int32} {dr : Nat → Nat → Nat} {Q : Option Value → AH → Prop} {G : GD} (hg : GW G) (hG : GR G mI) (k : Q (some (.int (nI (pkN G 5)))) (hp X dl mI dr)) : EW X m_Sg_possibleKinds 0 (enL m_Sg_possibleKinds.2.2.1 [.ref 121]) [] (hp X dl mI dr) Q := by
  show EW X m_Sg_possibleKinds 0 [.ref 121, jk, jk] [] (hp X dl mI dr) Q
  refine N_iconst d_Sg_possibleKinds_0 0 rfl ?_
  refine S_istore_n_3_1 d_Sg_possibleKinds_1 rfl rfl ?_
  refine N_iconst d_Sg_possibleKinds_2 0 rfl ?_
  refine S_istore_n_3_2 d_Sg_possibleKinds_3 rfl rfl ?_
  exact lp_Sg_possibleKinds hg hG k _ 0 (Nat.zero_le _) rfl

def alN (A s one : Nat) : Nat → Nat
  | 0 => 0
  | m + 1 => alN A s one m + if (A.testBit one = true ∧ A.testBit m = true) ∧ doesN one s = doesN m s then 1 else 0
def gaN (A s : Nat) : Nat → Nat
  | 0 => 0
  | m + 1 => max (gaN A s m) (alN A s m 5)
theorem alN_le (A s one : Nat) : ∀ m, alN A s one m ≤ m
  | 0 => Nat.le_refl _
  | m + 1 => by have := alN_le A s one m; unfold alN; split <;> omega
theorem gaN_le (A s : Nat) : ∀ m, gaN A s m ≤ 5
  | 0 => by simp [gaN]
  | m + 1 => by have := gaN_le A s m; have := alN_le A s m 5; unfold gaN; omega
theorem nI_max {a b : Nat} (ha : a < 2 ^ 31) (hb : b < 2 ^ 31) : (if nI a < nI b then nI b else nI a) = nI (max a b) := by
  by_cases h : a < b
  · rw [if_pos ((nI_ltI ha hb).mpr h), Nat.max_eq_right (by omega)]
  · rw [if_neg (fun z => h ((nI_ltI ha hb).mp z)), Nat.max_eq_left (by omega)]
theorem nI_min {a b : Nat} (ha : a < 2 ^ 31) (hb : b < 2 ^ 31) : (if nI b < nI a then nI b else nI a) = nI (min a b) := by
  by_cases h : b < a
  · rw [if_pos ((nI_ltI hb ha).mpr h), Nat.min_eq_right (by omega)]
  · rw [if_neg (fun z => h ((nI_ltI hb ha).mp z)), Nat.min_eq_left (by omega)]
theorem lp_Sg_ga1 {X : CX} {h : AH} {Q : Option Value → AH → Prop} {A s one g : Nat} (hA : A < 32) (hs : s < 10) (hone : one < 5) (k : ∀ v6, EW X m_Sg_greatestAlike 73 [.int (nI A), .int (nI s), .int (nI g), .int (nI one), .int (nI (alN A s one 5)), .int (nI 5), v6] [] h Q) : ∀ (d : Nat) (j : Nat) (n : Nat) (v6 : Value), (j ≤ 5) → (n = alN A s one j) → 5 - j = d → EW X m_Sg_greatestAlike 15 [.int (nI A), .int (nI s), .int (nI g), .int (nI one), .int (nI n), .int (nI j), v6] [] h Q := by
  intro d
  induction d using Nat.strongRecOn with
  | _ d ih =>
    intro j n v6 hj hn hd
    refine g_iload d_Sg_greatestAlike_15 rfl ?_
    refine N_iconst d_Sg_greatestAlike_17 5 rfl ?_
    refine N_icmp_ge d_Sg_greatestAlike_18 73 (by decide) ⟨by omega, by omega⟩ (fun c1 => ?_) (fun c1 => ?_)
    · have e : j = 5 := by omega
      subst e
      rw [hn]
      exact k _
    · refine g_iload_n d_Sg_greatestAlike_21 rfl ?_
      refine g_iload_n d_Sg_greatestAlike_22 rfl ?_
      refine N_ishr d_Sg_greatestAlike_23 (by omega) (by omega) ?_
      refine N_iconst d_Sg_greatestAlike_24 1 rfl ?_
      refine N_iand d_Sg_greatestAlike_25 ?_
      refine T_int (nI (A / 2 ^ one % 2)) (by rw [and1]) ?_
      refine N_if_eq d_Sg_greatestAlike_26 42 (by decide) (by omega) (fun c2 => ?_) (fun c2 => ?_)
      · refine N_iconst d_Sg_greatestAlike_42 0 rfl ?_
        refine S_istore_7_6 d_Sg_greatestAlike_43 rfl rfl ?_
        refine g_iload d_Sg_greatestAlike_45 rfl ?_
        refine N_if_eq d_Sg_greatestAlike_47 67 (by decide) (by omega) (fun e1 => ?_) (fun e1 => ?_)
        · refine N_iinc_7_5_1 d_Sg_greatestAlike_67 rfl rfl ?_
          refine P_goto d_Sg_greatestAlike_70 15 (by decide) ?_
          refine ih _ (by omega) (j + 1) _ _ (by omega) (by rw [alN, if_neg (fun z => by first | exact absurd e1 (by decide) | (have z1 := z.1; rw [tb_iff, tb_iff] at z1; omega)), Nat.add_zero]; exact hn) rfl
        · refine g_iload_n d_Sg_greatestAlike_50 rfl ?_
          refine g_iload_n d_Sg_greatestAlike_51 rfl ?_
          refine C_S2 d_Sg_greatestAlike_52 k_Sg_31 (Nat.le_of_ble_eq_true rfl) (by decide) (Nat.le_of_ble_eq_true rfl) ?_
          refine (c_Kd_does hone hs) ?_
          refine g_iload d_Sg_greatestAlike_55 rfl ?_
          refine g_iload_n d_Sg_greatestAlike_57 rfl ?_
          refine C_S2 d_Sg_greatestAlike_58 k_Sg_31 (Nat.le_of_ble_eq_true rfl) (by decide) (Nat.le_of_ble_eq_true rfl) ?_
          refine (c_Kd_does c1 hs) ?_
          refine N_icmp_ne d_Sg_greatestAlike_61 67 (by decide) ⟨by have := doesN_le (k := one) hs; omega, by have := doesN_le (k := j) hs; omega⟩ (fun e2 => ?_) (fun e2 => ?_)
          · refine N_iinc_7_5_1 d_Sg_greatestAlike_67 rfl rfl ?_
            refine P_goto d_Sg_greatestAlike_70 15 (by decide) ?_
            refine ih _ (by omega) (j + 1) _ _ (by omega) (by rw [alN, if_neg (fun z => e2 z.2), Nat.add_zero]; exact hn) rfl
          · refine N_iinc_7_4_1 d_Sg_greatestAlike_64 rfl rfl ?_
            refine N_iinc_7_5_1 d_Sg_greatestAlike_67 rfl rfl ?_
            refine P_goto d_Sg_greatestAlike_70 15 (by decide) ?_
            first | exact absurd rfl e1 | exact ih _ (by omega) (j + 1) _ _ (by omega) (by rw [alN, if_pos ⟨⟨by rw [tb_iff]; omega, by rw [tb_iff]; omega⟩, e2⟩, hn]) rfl
      · refine g_iload_n d_Sg_greatestAlike_29 rfl ?_
        refine g_iload d_Sg_greatestAlike_30 rfl ?_
        refine N_ishr d_Sg_greatestAlike_32 (by omega) (by omega) ?_
        refine N_iconst d_Sg_greatestAlike_33 1 rfl ?_
        refine N_iand d_Sg_greatestAlike_34 ?_
        refine T_int (nI (A / 2 ^ j % 2)) (by rw [and1]) ?_
        refine N_if_eq d_Sg_greatestAlike_35 42 (by decide) (by omega) (fun c3 => ?_) (fun c3 => ?_)
        · refine N_iconst d_Sg_greatestAlike_42 0 rfl ?_
          refine S_istore_7_6 d_Sg_greatestAlike_43 rfl rfl ?_
          refine g_iload d_Sg_greatestAlike_45 rfl ?_
          refine N_if_eq d_Sg_greatestAlike_47 67 (by decide) (by omega) (fun e1 => ?_) (fun e1 => ?_)
          · refine N_iinc_7_5_1 d_Sg_greatestAlike_67 rfl rfl ?_
            refine P_goto d_Sg_greatestAlike_70 15 (by decide) ?_
            refine ih _ (by omega) (j + 1) _ _ (by omega) (by rw [alN, if_neg (fun z => by first | exact absurd e1 (by decide) | (have z1 := z.1; rw [tb_iff, tb_iff] at z1; omega)), Nat.add_zero]; exact hn) rfl
          · refine g_iload_n d_Sg_greatestAlike_50 rfl ?_
            refine g_iload_n d_Sg_greatestAlike_51 rfl ?_
            refine C_S2 d_Sg_greatestAlike_52 k_Sg_31 (Nat.le_of_ble_eq_true rfl) (by decide) (Nat.le_of_ble_eq_true rfl) ?_
            refine (c_Kd_does hone hs) ?_
            refine g_iload d_Sg_greatestAlike_55 rfl ?_
            refine g_iload_n d_Sg_greatestAlike_57 rfl ?_
            refine C_S2 d_Sg_greatestAlike_58 k_Sg_31 (Nat.le_of_ble_eq_true rfl) (by decide) (Nat.le_of_ble_eq_true rfl) ?_
            refine (c_Kd_does c1 hs) ?_
            refine N_icmp_ne d_Sg_greatestAlike_61 67 (by decide) ⟨by have := doesN_le (k := one) hs; omega, by have := doesN_le (k := j) hs; omega⟩ (fun e2 => ?_) (fun e2 => ?_)
            · refine N_iinc_7_5_1 d_Sg_greatestAlike_67 rfl rfl ?_
              refine P_goto d_Sg_greatestAlike_70 15 (by decide) ?_
              refine ih _ (by omega) (j + 1) _ _ (by omega) (by rw [alN, if_neg (fun z => e2 z.2), Nat.add_zero]; exact hn) rfl
            · refine N_iinc_7_4_1 d_Sg_greatestAlike_64 rfl rfl ?_
              refine N_iinc_7_5_1 d_Sg_greatestAlike_67 rfl rfl ?_
              refine P_goto d_Sg_greatestAlike_70 15 (by decide) ?_
              first | exact absurd rfl e1 | exact ih _ (by omega) (j + 1) _ _ (by omega) (by rw [alN, if_pos ⟨⟨by rw [tb_iff]; omega, by rw [tb_iff]; omega⟩, e2⟩, hn]) rfl
        · refine N_iconst d_Sg_greatestAlike_38 1 rfl ?_
          refine P_goto d_Sg_greatestAlike_39 43 (by decide) ?_
          refine S_istore_7_6 d_Sg_greatestAlike_43 rfl rfl ?_
          refine g_iload d_Sg_greatestAlike_45 rfl ?_
          refine N_if_eq d_Sg_greatestAlike_47 67 (by decide) (by omega) (fun e1 => ?_) (fun e1 => ?_)
          · refine N_iinc_7_5_1 d_Sg_greatestAlike_67 rfl rfl ?_
            refine P_goto d_Sg_greatestAlike_70 15 (by decide) ?_
            refine ih _ (by omega) (j + 1) _ _ (by omega) (by rw [alN, if_neg (fun z => by first | exact absurd e1 (by decide) | (have z1 := z.1; rw [tb_iff, tb_iff] at z1; omega)), Nat.add_zero]; exact hn) rfl
          · refine g_iload_n d_Sg_greatestAlike_50 rfl ?_
            refine g_iload_n d_Sg_greatestAlike_51 rfl ?_
            refine C_S2 d_Sg_greatestAlike_52 k_Sg_31 (Nat.le_of_ble_eq_true rfl) (by decide) (Nat.le_of_ble_eq_true rfl) ?_
            refine (c_Kd_does hone hs) ?_
            refine g_iload d_Sg_greatestAlike_55 rfl ?_
            refine g_iload_n d_Sg_greatestAlike_57 rfl ?_
            refine C_S2 d_Sg_greatestAlike_58 k_Sg_31 (Nat.le_of_ble_eq_true rfl) (by decide) (Nat.le_of_ble_eq_true rfl) ?_
            refine (c_Kd_does c1 hs) ?_
            refine N_icmp_ne d_Sg_greatestAlike_61 67 (by decide) ⟨by have := doesN_le (k := one) hs; omega, by have := doesN_le (k := j) hs; omega⟩ (fun e2 => ?_) (fun e2 => ?_)
            · refine N_iinc_7_5_1 d_Sg_greatestAlike_67 rfl rfl ?_
              refine P_goto d_Sg_greatestAlike_70 15 (by decide) ?_
              refine ih _ (by omega) (j + 1) _ _ (by omega) (by rw [alN, if_neg (fun z => e2 z.2), Nat.add_zero]; exact hn) rfl
            · refine N_iinc_7_4_1 d_Sg_greatestAlike_64 rfl rfl ?_
              refine N_iinc_7_5_1 d_Sg_greatestAlike_67 rfl rfl ?_
              refine P_goto d_Sg_greatestAlike_70 15 (by decide) ?_
              first | exact absurd rfl e1 | exact ih _ (by omega) (j + 1) _ _ (by omega) (by rw [alN, if_pos ⟨⟨by rw [tb_iff]; omega, by rw [tb_iff]; omega⟩, e2⟩, hn]) rfl

theorem lp_Sg_ga2 {X : CX} {h : AH} {Q : Option Value → AH → Prop} {A s : Nat} (hA : A < 32) (hs : s < 10) (k : Q (some (.int (nI (gaN A s 5)))) h) : ∀ (d : Nat) (i : Nat) (v4 : Value) (v5 : Value) (v6 : Value), (i ≤ 5) → 5 - i = d → EW X m_Sg_greatestAlike 4 [.int (nI A), .int (nI s), .int (nI (gaN A s i)), .int (nI i), v4, v5, v6] [] h Q := by
  intro d
  induction d using Nat.strongRecOn with
  | _ d ih =>
    intro i v4 v5 v6 hi hd
    refine g_iload_n d_Sg_greatestAlike_4 rfl ?_
    refine N_iconst d_Sg_greatestAlike_5 5 rfl ?_
    refine N_icmp_ge d_Sg_greatestAlike_6 86 (by decide) ⟨by omega, by omega⟩ (fun c1 => ?_) (fun c1 => ?_)
    · refine g_iload_n d_Sg_greatestAlike_86 rfl ?_
      refine P_iret d_Sg_greatestAlike_87 rfl ?_
      have e : i = 5 := by omega
      subst e
      exact k
    · refine N_iconst d_Sg_greatestAlike_9 0 rfl ?_
      refine S_istore_7_4 d_Sg_greatestAlike_10 rfl rfl ?_
      refine N_iconst d_Sg_greatestAlike_12 0 rfl ?_
      refine S_istore_7_5 d_Sg_greatestAlike_13 rfl rfl ?_
      refine lp_Sg_ga1 hA hs c1 (fun v6 => ?_) _ 0 0 _ (by omega) rfl rfl
      refine g_iload_n d_Sg_greatestAlike_73 rfl ?_
      refine g_iload d_Sg_greatestAlike_74 rfl ?_
      refine P_mmax d_Sg_greatestAlike_76 z_Sg_44 (by decide) (Nat.le_of_ble_eq_true rfl) ?_
      refine T_int (nI (max (gaN A s i) (alN A s i 5))) (nI_max (by have := gaN_le A s i; omega) (by have := alN_le A s i 5; omega)) ?_
      refine S_istore_n_7_2 d_Sg_greatestAlike_79 rfl rfl ?_
      refine N_iinc_7_3_1 d_Sg_greatestAlike_80 rfl rfl ?_
      refine P_goto d_Sg_greatestAlike_83 4 (by decide) ?_
      exact ih _ (by omega) (i + 1) _ _ _ (by omega) rfl

theorem c_Sg_greatestAlike {X : CX} {h : AH} {Q : Option Value → AH → Prop} {A s : Nat} (hA : A < 32) (hs : s < 10) (k : Q (some (.int (nI (gaN A s 5)))) h) : EW X m_Sg_greatestAlike 0 (enL m_Sg_greatestAlike.2.2.1 [.int (nI A), .int (nI s)]) [] h Q := by
  show EW X m_Sg_greatestAlike 0 [.int (nI A), .int (nI s), jk, jk, jk, jk, jk] [] h Q
  refine N_iconst d_Sg_greatestAlike_0 0 rfl ?_
  refine S_istore_n_7_2 d_Sg_greatestAlike_1 rfl rfl ?_
  refine N_iconst d_Sg_greatestAlike_2 0 rfl ?_
  refine S_istore_n_7_3 d_Sg_greatestAlike_3 rfl rfl ?_
  exact lp_Sg_ga2 hA hs k _ 0 _ _ _ (by omega) rfl

def bs1 (A : Nat) (q : Nat × Nat) (s : Nat) : Nat × Nat := if gaN A s 5 < q.2 then (s + 1, gaN A s 5) else q
def bsN (A : Nat) : Nat → Nat × Nat
  | 0 => (0, onesN A 10)
  | 1 => (0, onesN A 10)
  | m + 2 => bs1 A (bsN A (m + 1)) (m + 1)
theorem bsN_le (A : Nat) : ∀ m, (bsN A m).2 ≤ 10
  | 0 => onesN_le _ _
  | 1 => onesN_le _ _
  | m + 2 => by
    rw [bsN, bs1]
    split
    · have := gaN_le A (m + 1) 5; show gaN A (m + 1) 5 ≤ 10; omega
    · exact bsN_le A (m + 1)
theorem lp_Sg_bestStrength {X : CX} {h : AH} {Q : Option Value → AH → Prop} {A : Nat} (hA : A < 32) (k : Q (some (.int (hrI (bsN A 10).1))) h) : ∀ (d : Nat) (i : Nat) (q : Nat × Nat) (v4 : Value), (1 ≤ i ∧ i ≤ 10) → (q = bsN A i) → 10 - i = d → EW X m_Sg_bestStrength 9 [.int (nI A), .int (hrI q.1), .int (nI q.2), .int (nI i), v4] [] h Q := by
  intro d
  induction d using Nat.strongRecOn with
  | _ d ih =>
    intro i q v4 hi hq hd
    refine g_iload_n d_Sg_bestStrength_9 rfl ?_
    refine N_bipush d_Sg_bestStrength_10 9 rfl ?_
    refine N_icmp_gt d_Sg_bestStrength_12 39 (by decide) ⟨by omega, by omega⟩ (fun c1 => ?_) (fun c1 => ?_)
    · refine g_iload_n d_Sg_bestStrength_39 rfl ?_
      refine P_iret d_Sg_bestStrength_40 rfl ?_
      have e : i = 10 := by omega
      subst e
      rw [hq]
      exact k
    · obtain ⟨i1, rfl⟩ : ∃ i1, i = i1 + 1 := ⟨i - 1, by omega⟩
      have hg5 := gaN_le A (i1 + 1) 5
      have hb := bsN_le A (i1 + 1)
      rw [← hq] at hb
      refine g_iload_n d_Sg_bestStrength_15 rfl ?_
      refine g_iload_n d_Sg_bestStrength_16 rfl ?_
      refine C_S2 d_Sg_bestStrength_17 k_Sg_41 (Nat.le_of_ble_eq_true rfl) (by decide) (Nat.le_of_ble_eq_true rfl) ?_
      refine (c_Sg_greatestAlike hA (by omega)) ?_
      refine S_istore_5_4 d_Sg_bestStrength_20 rfl rfl ?_
      refine g_iload d_Sg_bestStrength_22 rfl ?_
      refine g_iload_n d_Sg_bestStrength_24 rfl ?_
      refine N_icmp_ge d_Sg_bestStrength_25 33 (by decide) ⟨by omega, by omega⟩ (fun c2 => ?_) (fun c2 => ?_)
      · refine N_iinc_5_3_1 d_Sg_bestStrength_33 rfl rfl ?_
        refine P_goto d_Sg_bestStrength_36 9 (by decide) ?_
        exact ih _ (by omega) (i1 + 1 + 1) q _ (by omega) (by rw [bsN, ← hq, bs1, if_neg (by omega)]) rfl
      · refine g_iload d_Sg_bestStrength_28 rfl ?_
        refine S_istore_n_5_2 d_Sg_bestStrength_30 rfl rfl ?_
        refine g_iload_n d_Sg_bestStrength_31 rfl ?_
        refine S_istore_n_5_1 d_Sg_bestStrength_32 rfl rfl ?_
        refine N_iinc_5_3_1 d_Sg_bestStrength_33 rfl rfl ?_
        refine P_goto d_Sg_bestStrength_36 9 (by decide) ?_
        exact ih _ (by omega) (i1 + 1 + 1) (i1 + 1 + 1, gaN A (i1 + 1) 5) _ (by omega) (by rw [bsN, ← hq, bs1, if_pos c2]) rfl

theorem c_Sg_bestStrength {X : CX} {h : AH} {Q : Option Value → AH → Prop} {A : Nat} (hA : A < 32) (k : Q (some (.int (hrI (bsN A 10).1))) h) : EW X m_Sg_bestStrength 0 (enL m_Sg_bestStrength.2.2.1 [.int (nI A)]) [] h Q := by
  show EW X m_Sg_bestStrength 0 [.int (nI A), jk, jk, jk, jk] [] h Q
  refine P_iconst d_Sg_bestStrength_0 (-1) rfl ?_
  refine S_istore_n_5_1 d_Sg_bestStrength_1 rfl rfl ?_
  refine g_iload_n d_Sg_bestStrength_2 rfl ?_
  refine C_S1 d_Sg_bestStrength_3 k_Sg_35 (Nat.le_of_ble_eq_true rfl) (by decide) (Nat.le_of_ble_eq_true rfl) ?_
  refine (c_In_bitCount (by omega)) ?_
  refine S_istore_n_5_2 d_Sg_bestStrength_6 rfl rfl ?_
  refine N_iconst d_Sg_bestStrength_7 1 rfl ?_
  refine S_istore_n_5_3 d_Sg_bestStrength_8 rfl rfl ?_
  exact lp_Sg_bestStrength hA k _ 1 (0, onesN A 10) _ (by omega) rfl rfl

