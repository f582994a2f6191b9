/-! THE TEXT'S TOKENS. t: the letters, L: how many; a token is found from a place x on: its sort (0 end, 1 word, 2 number, 3 sign), where it begins, where it ends -/
abbrev smP (c : Int32) : Prop := nI 97 ≤ c ∧ c ≤ nI 122
abbrev dgP (c : Int32) : Prop := nI 48 ≤ c ∧ c ≤ nI 57
/-- a run of letters of a kind -/
def rnD (f : Int32 → Bool) (t : Nat → Int32) : Nat → Nat → Nat
  | 0, i => i
  | d + 1, i => if f (t i) = true then rnD f t d (i + 1) else i
def rn (f : Int32 → Bool) (t : Nat → Int32) (L i : Nat) : Nat := rnD f t (L - i) i
def fB (c : Int32) : Bool := decide (c = nI 32)
def fS (c : Int32) : Bool := decide (smP c)
def fD (c : Int32) : Bool := decide (dgP c)
theorem rn_end {f : Int32 → Bool} {t : Nat → Int32} {L i : Nat} (h : L ≤ i) : rn f t L i = i := by unfold rn; rw [show L - i = 0 by omega]; rfl
theorem rn_yes {f : Int32 → Bool} {t : Nat → Int32} {L i : Nat} (h : i < L) (hf : f (t i) = true) : rn f t L i = rn f t L (i + 1) := by
  unfold rn
  rw [show L - i = (L - (i + 1)) + 1 by omega, rnD, if_pos hf]
theorem rn_no {f : Int32 → Bool} {t : Nat → Int32} {L i : Nat} (h : i < L) (hf : ¬ f (t i) = true) : rn f t L i = i := by
  unfold rn
  rw [show L - i = (L - (i + 1)) + 1 by omega, rnD, if_neg hf]
theorem rnD_le {f : Int32 → Bool} {t : Nat → Int32} : ∀ d i, i ≤ rnD f t d i ∧ rnD f t d i ≤ i + d
  | 0, i => ⟨Nat.le_refl _, Nat.le_refl _⟩
  | d + 1, i => by
    rw [rnD]
    split
    · have := rnD_le (f := f) (t := t) d (i + 1); omega
    · omega
theorem rn_le {f : Int32 → Bool} {t : Nat → Int32} {L i : Nat} (h : i ≤ L) : i ≤ rn f t L i ∧ rn f t L i ≤ L := by
  have := rnD_le (f := f) (t := t) (L - i) i
  unfold rn; omega
def tkB (t : Nat → Int32) (L x : Nat) : Nat := rn fB t L x
def tkS (t : Nat → Int32) (L x : Nat) : Nat := if L ≤ tkB t L x then 0 else if smP (t (tkB t L x)) then 1 else if dgP (t (tkB t L x)) then 2 else 3
def tkE (t : Nat → Int32) (L x : Nat) : Nat := if L ≤ tkB t L x then tkB t L x else if smP (t (tkB t L x)) then rn fS t L (tkB t L x) else if dgP (t (tkB t L x)) then rn fD t L (tkB t L x) else tkB t L x + 1
theorem tk_le {t : Nat → Int32} {L x : Nat} (h : x ≤ L) : x ≤ tkB t L x ∧ tkB t L x ≤ tkE t L x ∧ tkE t L x ≤ L := by
  have h1 := rn_le (f := fB) (t := t) h
  unfold tkE
  unfold tkB at *
  split
  · omega
  · split
    · have := rn_le (f := fS) (t := t) h1.2; omega
    · split
      · have := rn_le (f := fD) (t := t) h1.2; omega
      · omega
def dv (c : Int32) : Nat := (c.toInt - 48).toNat
/-- the number of a token's first two digits -/
def nmN (t : Nat → Int32) (b e : Nat) : Nat := if b + 1 < e then 10 * dv (t b) + dv (t (b + 1)) else dv (t b)
def XR (t : Nat → Int32) (L : Nat) (mI : Nat → Nat → Int32) : Prop := L ≤ 200 ∧ mI 51 1 = nI L ∧ ∀ i, i < L → mI 52 i = t i
/-- the reader looks at the token from x on, c clauses behind it -/
def TK (t : Nat → Int32) (L x c : Nat) (mI : Nat → Nat → Int32) : Prop := XR t L mI ∧ x ≤ L ∧ mI 51 2 = nI c ∧ mI 51 3 = nI (tkS t L x) ∧ mI 51 4 = nI (tkB t L x) ∧ mI 51 5 = nI (tkE t L x) ∧ tkE t L x ≤ L
theorem XR.fx {t : Nat → Int32} {L : Nat} {mI mI' : Nat → Nat → Int32} (h : XR t L mI) (h1 : mI' 51 1 = mI 51 1) (h2 : mI' 52 = mI 52) : XR t L mI' := ⟨h.1, h1.trans h.2.1, fun i hi => by rw [h2]; exact h.2.2 i hi⟩
theorem dv_eq {c : Int32} (h : dgP c) : c = nI (48 + dv c) ∧ dv c ≤ 9 := by
  have h1 := Int32.le_iff_toInt_le.mp h.1
  have h2 := Int32.le_iff_toInt_le.mp h.2
  rw [nI_toInt (by decide)] at h1 h2
  have hd : dv c ≤ 9 := by unfold dv; omega
  refine ⟨Int32.toInt_inj.mp ?_, hd⟩
  rw [nI_toInt (by omega)]
  unfold dv
  omega
/-- a letter's sort: 1 of a word, 2 of a number, 3 a sign -/
def soC (c : Int32) : Nat := if smP c then 1 else if dgP c then 2 else 3
def fT (s : Nat) (c : Int32) : Bool := decide (soC c = s)
theorem soC_le (c : Int32) : soC c ≤ 3 := by unfold soC; split <;> (try split) <;> omega
theorem smdg {c : Int32} (h : smP c) : ¬ dgP c := fun z => by
  have h1 := Int32.le_iff_toInt_le.mp h.1
  have h2 := Int32.le_iff_toInt_le.mp z.2
  rw [nI_toInt (by decide)] at h1 h2
  omega
theorem soC_1 (c : Int32) : soC c = 1 ↔ smP c := by
  unfold soC
  by_cases h : smP c
  · rw [if_pos h]; exact ⟨fun _ => h, fun _ => rfl⟩
  · rw [if_neg h]
    refine ⟨fun z => ?_, fun z => absurd z h⟩
    split at z <;> cases z
theorem soC_2 (c : Int32) : soC c = 2 ↔ dgP c := by
  unfold soC
  by_cases h : smP c
  · rw [if_pos h]; exact ⟨fun z => absurd z (by decide), fun z => absurd z (smdg h)⟩
  · rw [if_neg h]
    by_cases g : dgP c
    · rw [if_pos g]; exact ⟨fun _ => g, fun _ => rfl⟩
    · rw [if_neg g]; exact ⟨fun z => absurd z (by decide), fun z => absurd z g⟩
theorem fT_1 : fT 1 = fS := funext fun c => decide_eq_decide.mpr (soC_1 c)
theorem fT_2 : fT 2 = fD := funext fun c => decide_eq_decide.mpr (soC_2 c)
theorem tk_so {t : Nat → Int32} {L x : Nat} (h : tkB t L x < L) : tkS t L x = soC (t (tkB t L x)) := by
  unfold tkS soC
  rw [if_neg (Nat.not_le.mpr h)]
theorem tk_eo {t : Nat → Int32} {L x : Nat} (h : tkB t L x < L) : (soC (t (tkB t L x)) = 3 → tkE t L x = tkB t L x + 1) ∧ (¬ soC (t (tkB t L x)) = 3 → tkE t L x = rn (fT (soC (t (tkB t L x)))) t L (tkB t L x + 1)) := by
  have hn : ¬ L ≤ tkB t L x := Nat.not_le.mpr h
  by_cases h1 : smP (t (tkB t L x))
  · have e : soC (t (tkB t L x)) = 1 := (soC_1 _).mpr h1
    rw [e]
    refine ⟨fun z => absurd z (by decide), fun _ => ?_⟩
    rw [tkE, if_neg hn, if_pos h1, fT_1]
    exact rn_yes h (by unfold fS; rw [decide_eq_true_iff]; exact h1)
  · by_cases h2 : dgP (t (tkB t L x))
    · have e : soC (t (tkB t L x)) = 2 := (soC_2 _).mpr h2
      rw [e]
      refine ⟨fun z => absurd z (by decide), fun _ => ?_⟩
      rw [tkE, if_neg hn, if_neg h1, if_pos h2, fT_2]
      exact rn_yes h (by unfold fD; rw [decide_eq_true_iff]; exact h2)
    · have e : soC (t (tkB t L x)) = 3 := by unfold soC; rw [if_neg h1, if_neg h2]
      rw [e]
      refine ⟨fun _ => ?_, fun z => absurd rfl z⟩
      rw [tkE, if_neg hn, if_neg h1, if_neg h2]
theorem tkS_le (t : Nat → Int32) (L x : Nat) : tkS t L x ≤ 3 := by unfold tkS; split <;> (try split) <;> (try split) <;> omega
/-- the number behind the digits b .. i - 1 -/
def nmP (t : Nat → Int32) (b i : Nat) : Nat := if i ≤ b then 0 else nmN t b i
theorem nmN_2 (t : Nat → Int32) (b e : Nat) (h : b + 2 ≤ e) : nmN t b e = nmN t b (b + 2) := by unfold nmN; rw [if_pos (by omega), if_pos (by omega)]
theorem c_Rd_sortOf {X : CX} {h : AH} {Q : Option Value → AH → Prop} {x : Int32} (k : Q (some (.int (nI (soC x)))) h) : EW X m_Rd_sortOf 0 (enL m_Rd_sortOf.2.2.1 [.int x]) [] h Q := by
  show EW X m_Rd_sortOf 0 [.int x] [] h Q
  refine g_iload_n d_Rd_sortOf_0 rfl ?_
  refine N_bipush d_Rd_sortOf_1 97 rfl ?_
  refine P_icmp_lt d_Rd_sortOf_3 14 (by decide) (fun c1 => ?_) (fun c1 => ?_)
  · have hn : ¬ smP x := fun z => absurd z.1 (Int32.not_le.mpr c1)
    refine g_iload_n d_Rd_sortOf_14 rfl ?_
    refine N_bipush d_Rd_sortOf_15 48 rfl ?_
    refine P_icmp_lt d_Rd_sortOf_17 30 (by decide) (fun g1 => ?_) (fun g1 => ?_)
    · refine N_iconst d_Rd_sortOf_30 3 rfl ?_
      refine P_iret d_Rd_sortOf_31 rfl ?_
      exact R_i k (congrArg nI (by unfold soC; rw [if_neg hn, if_neg (fun z => absurd z.1 (Int32.not_le.mpr g1))]))
    · refine g_iload_n d_Rd_sortOf_20 rfl ?_
      refine N_bipush d_Rd_sortOf_21 57 rfl ?_
      refine P_icmp_gt d_Rd_sortOf_23 30 (by decide) (fun g2 => ?_) (fun g2 => ?_)
      · refine N_iconst d_Rd_sortOf_30 3 rfl ?_
        refine P_iret d_Rd_sortOf_31 rfl ?_
        exact R_i k (congrArg nI (by unfold soC; rw [if_neg hn, if_neg (fun z => absurd z.2 (Int32.not_le.mpr g2))]))
      · refine N_iconst d_Rd_sortOf_26 2 rfl ?_
        refine P_goto d_Rd_sortOf_27 31 (by decide) ?_
        refine P_iret d_Rd_sortOf_31 rfl ?_
        exact R_i k (congrArg nI (by unfold soC; rw [if_neg hn, if_pos ⟨Int32.not_lt.mp g1, Int32.not_lt.mp g2⟩]))
  · refine g_iload_n d_Rd_sortOf_6 rfl ?_
    refine N_bipush d_Rd_sortOf_7 122 rfl ?_
    refine P_icmp_gt d_Rd_sortOf_9 14 (by decide) (fun c2 => ?_) (fun c2 => ?_)
    · have hn : ¬ smP x := fun z => absurd z.2 (Int32.not_le.mpr c2)
      refine g_iload_n d_Rd_sortOf_14 rfl ?_
      refine N_bipush d_Rd_sortOf_15 48 rfl ?_
      refine P_icmp_lt d_Rd_sortOf_17 30 (by decide) (fun g1 => ?_) (fun g1 => ?_)
      · refine N_iconst d_Rd_sortOf_30 3 rfl ?_
        refine P_iret d_Rd_sortOf_31 rfl ?_
        exact R_i k (congrArg nI (by unfold soC; rw [if_neg hn, if_neg (fun z => absurd z.1 (Int32.not_le.mpr g1))]))
      · refine g_iload_n d_Rd_sortOf_20 rfl ?_
        refine N_bipush d_Rd_sortOf_21 57 rfl ?_
        refine P_icmp_gt d_Rd_sortOf_23 30 (by decide) (fun g2 => ?_) (fun g2 => ?_)
        · refine N_iconst d_Rd_sortOf_30 3 rfl ?_
          refine P_iret d_Rd_sortOf_31 rfl ?_
          exact R_i k (congrArg nI (by unfold soC; rw [if_neg hn, if_neg (fun z => absurd z.2 (Int32.not_le.mpr g2))]))
        · refine N_iconst d_Rd_sortOf_26 2 rfl ?_
          refine P_goto d_Rd_sortOf_27 31 (by decide) ?_
          refine P_iret d_Rd_sortOf_31 rfl ?_
          exact R_i k (congrArg nI (by unfold soC; rw [if_neg hn, if_pos ⟨Int32.not_lt.mp g1, Int32.not_lt.mp g2⟩]))
    · refine N_iconst d_Rd_sortOf_12 1 rfl ?_
      refine P_iret d_Rd_sortOf_13 rfl ?_
      exact R_i k (congrArg nI (by unfold soC; rw [if_pos ⟨Int32.not_lt.mp c1, Int32.not_lt.mp c2⟩]))

theorem lp_Rd_blank {X : CX} {dl : List (Nat × Nat)} {mI : Nat → Nat → Int32} {dr : Nat → Nat → Nat} {Q : Option Value → AH → Prop} {t : Nat → Int32} {L c x : Nat} (hL : L ≤ 200) (ht : ∀ i, i < L → mI 52 i = t i) (k : ∀ mI', mI' 51 1 = nI L ∧ mI' 51 2 = nI c ∧ mI' 51 4 = nI (tkB t L x) → Fx 51 51 mI mI' → EW X m_Rd_toNextToken 46 [.ref 51] [] (hp X dl mI' dr) Q) : ∀ (d : Nat) (i : Nat) (mI2 : Nat → Nat → Int32), (i ≤ L) → (mI2 51 1 = nI L ∧ mI2 51 2 = nI c ∧ mI2 51 4 = nI i) → (tkB t L x = rn fB t L i) → (Fx 51 51 mI mI2) → L - i = d → EW X m_Rd_toNextToken 8 [.ref 51] [] (hp X dl mI2 dr) Q := by
  intro d
  induction d using Nat.strongRecOn with
  | _ d ih =>
    intro i mI2 hi h4 hr hF hd
    refine g_aload_n d_Rd_toNextToken_8 rfl ?_
    refine H_getI d_Rd_toNextToken_9 f_Rd_32.g rfl rfl (by decide) ?_
    refine T_int (nI (i)) h4.2.2 ?_
    refine g_aload_n d_Rd_toNextToken_12 rfl ?_
    refine H_getI d_Rd_toNextToken_13 f_Rd_15.g rfl rfl (by decide) ?_
    refine T_int (nI (L)) h4.1 ?_
    refine N_icmp_ge d_Rd_toNextToken_16 46 (by decide) ⟨by omega, by omega⟩ (fun c1 => ?_) (fun c1 => ?_)
    · refine k mI2 ⟨h4.1, h4.2.1, ?_⟩ hF
      rw [hr, rn_end (by omega)]; exact h4.2.2
    · refine g_aload_n d_Rd_toNextToken_19 rfl ?_
      refine H_getR 52 d_Rd_toNextToken_20 f_Rd_11.g rfl rfl (by decide) rfl ?_
      refine g_aload_n d_Rd_toNextToken_23 rfl ?_
      refine H_getI d_Rd_toNextToken_24 f_Rd_32.g rfl rfl (by decide) ?_
      refine T_int (nI (i)) h4.2.2 ?_
      refine H_ialdN d_Rd_toNextToken_27 rfl rfl (show i < 200 by omega) (by decide) ?_
      refine T_int (t i) (by rw [hF 52 (by omega)]; exact ht i c1) ?_
      refine N_bipush d_Rd_toNextToken_28 32 rfl ?_
      refine P_icmp_ne d_Rd_toNextToken_30 46 (by decide) (fun c2 => ?_) (fun c2 => ?_)
      · refine k mI2 ⟨h4.1, h4.2.1, ?_⟩ hF
        rw [hr, rn_no c1 (by unfold fB; rw [decide_eq_true_iff]; exact c2)]; exact h4.2.2
      · refine g_aload_n d_Rd_toNextToken_33 rfl ?_
        refine P_dupA d_Rd_toNextToken_34 ?_
        refine H_getI d_Rd_toNextToken_35 f_Rd_32.g rfl rfl (by decide) ?_
        refine T_int (nI (i)) h4.2.2 ?_
        refine N_iconst d_Rd_toNextToken_38 1 rfl ?_
        refine N_iadd d_Rd_toNextToken_39 ?_
        refine H_putI d_Rd_toNextToken_40 f_Rd_32 rfl rfl (by decide) ?_
        refine P_goto d_Rd_toNextToken_43 8 (by decide) ?_
        exact ih _ (by omega) (i + 1) _ (by omega) ⟨by rw [sI_n (by omega)]; exact h4.1, by rw [sI_n (by omega)]; exact h4.2.1, sI_s _ _ _ _⟩ (hr.trans (rn_yes c1 (by unfold fB; rw [decide_eq_true_iff]; exact c2))) (Fx_sI hF (by omega)) rfl

theorem lp_Rd_run {X : CX} {dl : List (Nat × Nat)} {mI : Nat → Nat → Int32} {dr : Nat → Nat → Nat} {Q : Option Value → AH → Prop} {t : Nat → Int32} {L c s b E : Nat} (hL : L ≤ 200) (hs : s ≤ 3) (ht : ∀ i, i < L → mI 52 i = t i) (k : ∀ mI', mI' 51 1 = nI L ∧ mI' 51 2 = nI c ∧ mI' 51 3 = nI s ∧ mI' 51 4 = nI b → mI' 51 5 = nI E → Fx 51 51 mI mI' → Q none (hp X dl mI' dr)) : ∀ (d : Nat) (i : Nat) (mI2 : Nat → Nat → Int32), (i ≤ L) → (mI2 51 1 = nI L ∧ mI2 51 2 = nI c ∧ mI2 51 3 = nI s ∧ mI2 51 4 = nI b) → (mI2 51 5 = nI i) → ((s = 3 → E = i) ∧ (¬ s = 3 → E = rn (fT s) t L i)) → (Fx 51 51 mI mI2) → L - i = d → EW X m_Rd_toNextToken 94 [.ref 51] [] (hp X dl mI2 dr) Q := by
  intro d
  induction d using Nat.strongRecOn with
  | _ d ih =>
    intro i mI2 hi h4 h5 hr hF hd
    refine g_aload_n d_Rd_toNextToken_94 rfl ?_
    refine H_getI d_Rd_toNextToken_95 f_Rd_35.g rfl rfl (by decide) ?_
    refine T_int (nI (s)) h4.2.2.1 ?_
    refine N_iconst d_Rd_toNextToken_98 3 rfl ?_
    refine N_icmp_eq d_Rd_toNextToken_99 145 (by decide) ⟨by omega, by omega⟩ (fun c1 => ?_) (fun c1 => ?_)
    · refine P_vret d_Rd_toNextToken_145 rfl (k mI2 h4 ?_ hF)
      rw [hr.1 c1]; exact h5
    · refine g_aload_n d_Rd_toNextToken_102 rfl ?_
      refine H_getI d_Rd_toNextToken_103 f_Rd_22.g rfl rfl (by decide) ?_
      refine T_int (nI (i)) h5 ?_
      refine g_aload_n d_Rd_toNextToken_106 rfl ?_
      refine H_getI d_Rd_toNextToken_107 f_Rd_15.g rfl rfl (by decide) ?_
      refine T_int (nI (L)) h4.1 ?_
      refine N_icmp_ge d_Rd_toNextToken_110 145 (by decide) ⟨by omega, by omega⟩ (fun c2 => ?_) (fun c2 => ?_)
      · refine P_vret d_Rd_toNextToken_145 rfl (k mI2 h4 ?_ hF)
        rw [hr.2 c1, rn_end (by omega)]; exact h5
      · refine g_aload_n d_Rd_toNextToken_113 rfl ?_
        refine H_getR 52 d_Rd_toNextToken_114 f_Rd_11.g rfl rfl (by decide) rfl ?_
        refine g_aload_n d_Rd_toNextToken_117 rfl ?_
        refine H_getI d_Rd_toNextToken_118 f_Rd_22.g rfl rfl (by decide) ?_
        refine T_int (nI (i)) h5 ?_
        refine H_ialdN d_Rd_toNextToken_121 rfl rfl (show i < 200 by omega) (by decide) ?_
        refine T_int (t i) (by rw [hF 52 (by omega)]; exact ht i c2) ?_
        refine C_S1 d_Rd_toNextToken_122 k_Rd_128 (Nat.le_of_ble_eq_true rfl) (by decide) (Nat.le_of_ble_eq_true rfl) ?_
        refine c_Rd_sortOf ?_
        refine g_aload_n d_Rd_toNextToken_125 rfl ?_
        refine H_getI d_Rd_toNextToken_126 f_Rd_35.g rfl rfl (by decide) ?_
        refine T_int (nI (s)) h4.2.2.1 ?_
        refine N_icmp_ne d_Rd_toNextToken_129 145 (by decide) ⟨Nat.lt_of_le_of_lt (soC_le _) (by decide), by omega⟩ (fun c3 => ?_) (fun c3 => ?_)
        · refine P_vret d_Rd_toNextToken_145 rfl (k mI2 h4 ?_ hF)
          rw [hr.2 c1, rn_no c2 (by unfold fT; rw [decide_eq_true_iff]; exact c3)]; exact h5
        · refine g_aload_n d_Rd_toNextToken_132 rfl ?_
          refine P_dupA d_Rd_toNextToken_133 ?_
          refine H_getI d_Rd_toNextToken_134 f_Rd_22.g rfl rfl (by decide) ?_
          refine T_int (nI (i)) h5 ?_
          refine N_iconst d_Rd_toNextToken_137 1 rfl ?_
          refine N_iadd d_Rd_toNextToken_138 ?_
          refine H_putI d_Rd_toNextToken_139 f_Rd_22 rfl rfl (by decide) ?_
          refine P_goto d_Rd_toNextToken_142 94 (by decide) ?_
          exact ih _ (by omega) (i + 1) _ (by omega) ⟨by rw [sI_n (by omega)]; exact h4.1, by rw [sI_n (by omega)]; exact h4.2.1, by rw [sI_n (by omega)]; exact h4.2.2.1, by rw [sI_n (by omega)]; exact h4.2.2.2⟩ (sI_s _ _ _ _) ⟨fun z => absurd z c1, fun z => (hr.2 z).trans (rn_yes c2 (by unfold fT; rw [decide_eq_true_iff]; exact c3))⟩ (Fx_sI hF (by omega)) rfl

theorem c_Rd_toNextToken {X : CX} {dl : List (Nat × Nat)} {mI : Nat → Nat → Int32} {dr : Nat → Nat → Nat} {Q : Option Value → AH → Prop} {t : Nat → Int32} {L c x : Nat} (hX : XR t L mI) (hx : x ≤ L) (h2 : mI 51 2 = nI c) (h5 : mI 51 5 = nI x) (k : ∀ mI', TK t L x c mI' → Fx 51 51 mI mI' → Q none (hp X dl mI' dr)) : EW X m_Rd_toNextToken 0 (enL m_Rd_toNextToken.2.2.1 [.ref 51]) [] (hp X dl mI dr) Q := by
  show EW X m_Rd_toNextToken 0 [.ref 51] [] (hp X dl mI dr) Q
  obtain ⟨hL, hX1, ht⟩ := hX
  have htk := rn_le (f := fB) (t := t) hx
  have htk2 : tkB t L x = rn fB t L x := rfl
  refine g_aload_n d_Rd_toNextToken_0 rfl ?_
  refine g_aload_n d_Rd_toNextToken_1 rfl ?_
  refine H_getI d_Rd_toNextToken_2 f_Rd_22.g rfl rfl (by decide) ?_
  refine T_int (nI (x)) h5 ?_
  refine H_putI d_Rd_toNextToken_5 f_Rd_32 rfl rfl (by decide) ?_
  refine lp_Rd_blank (mI := mI) (x := x) hL ht (fun mI1 g4 gF => ?_) _ x _ hx ⟨by rw [sI_n (by omega)]; exact hX1, by rw [sI_n (by omega)]; exact h2, sI_s _ _ _ _⟩ rfl (Fx_sI Fx.rf (by omega)) rfl
  refine g_aload_n d_Rd_toNextToken_46 rfl ?_
  refine g_aload_n d_Rd_toNextToken_47 rfl ?_
  refine H_getI d_Rd_toNextToken_48 f_Rd_32.g rfl rfl (by decide) ?_
  refine T_int (nI (tkB t L x)) g4.2.2 ?_
  refine N_iconst d_Rd_toNextToken_51 1 rfl ?_
  refine N_iadd d_Rd_toNextToken_52 ?_
  refine g_aload_n d_Rd_toNextToken_53 rfl ?_
  refine H_getI d_Rd_toNextToken_54 f_Rd_15.g rfl rfl (by decide) ?_
  refine T_int (nI (L)) g4.1 ?_
  refine P_mmin d_Rd_toNextToken_57 z_Rd_122 (by decide) (Nat.le_of_ble_eq_true rfl) ?_
  refine T_int (nI (min (tkB t L x + 1) L)) (nI_min (by omega) (by omega)) ?_
  refine H_putI d_Rd_toNextToken_60 f_Rd_22 rfl rfl (by decide) ?_
  refine g_aload_n d_Rd_toNextToken_63 rfl ?_
  refine g_aload_n d_Rd_toNextToken_64 rfl ?_
  refine H_getI d_Rd_toNextToken_65 f_Rd_32.g rfl rfl (by decide) ?_
  refine T_int (nI (tkB t L x)) (by rw [sI_n (by omega)]; exact g4.2.2) ?_
  refine g_aload_n d_Rd_toNextToken_68 rfl ?_
  refine H_getI d_Rd_toNextToken_69 f_Rd_15.g rfl rfl (by decide) ?_
  refine T_int (nI (L)) (by rw [sI_n (by omega)]; exact g4.1) ?_
  refine N_icmp_ge d_Rd_toNextToken_72 90 (by decide) ⟨by omega, by omega⟩ (fun c1 => ?_) (fun c1 => ?_)
  · refine N_iconst d_Rd_toNextToken_90 0 rfl ?_
    refine H_putI d_Rd_toNextToken_91 f_Rd_35 rfl rfl (by decide) ?_
    refine lp_Rd_run (mI := mI) (t := t) (L := L) (c := c) (s := tkS t L x) (b := tkB t L x) (E := tkE t L x) hL (tkS_le t L x) ht (fun mI3 h3 h5 hF3 => ?_) _ (min (tkB t L x + 1) L) _ (by omega) ⟨by rw [sI_n (by omega), sI_n (by omega)]; exact g4.1, by rw [sI_n (by omega), sI_n (by omega)]; exact g4.2.1, by rw [sI_s, tkS, if_pos c1], by rw [sI_n (by omega), sI_n (by omega)]; exact g4.2.2⟩ (by rw [sI_n (by omega), sI_s]) ⟨fun z => absurd z (by rw [tkS, if_pos c1]; decide), fun _ => by rw [tkE, if_pos c1, rn_end (by omega)]; omega⟩ (Fx_sI (Fx_sI gF (by omega)) (by omega)) rfl
    exact k mI3 ⟨⟨hL, h3.1, fun i hi => by rw [hF3 52 (by omega)]; exact ht i hi⟩, hx, h3.2.1, h3.2.2.1, h3.2.2.2, h5, (tk_le hx).2.2⟩ hF3
  · have hti : sI mI1 51 5 (nI (min (tkB t L x + 1) L)) 52 (tkB t L x) = t (tkB t L x) := by rw [sI_r (by omega), gF 52 (by omega)]; exact ht _ c1
    have hso := tk_so c1
    refine g_aload_n d_Rd_toNextToken_75 rfl ?_
    refine H_getR 52 d_Rd_toNextToken_76 f_Rd_11.g rfl rfl (by decide) rfl ?_
    refine g_aload_n d_Rd_toNextToken_79 rfl ?_
    refine H_getI d_Rd_toNextToken_80 f_Rd_32.g rfl rfl (by decide) ?_
    refine T_int (nI (tkB t L x)) (by rw [sI_n (by omega)]; exact g4.2.2) ?_
    refine H_ialdN d_Rd_toNextToken_83 rfl rfl (show tkB t L x < 200 by omega) (by decide) ?_
    refine T_int (t (tkB t L x)) hti ?_
    refine C_S1 d_Rd_toNextToken_84 k_Rd_128 (Nat.le_of_ble_eq_true rfl) (by decide) (Nat.le_of_ble_eq_true rfl) ?_
    refine c_Rd_sortOf ?_
    refine P_goto d_Rd_toNextToken_87 91 (by decide) ?_
    refine H_putI d_Rd_toNextToken_91 f_Rd_35 rfl rfl (by decide) ?_
    refine lp_Rd_run (mI := mI) (t := t) (L := L) (c := c) (s := tkS t L x) (b := tkB t L x) (E := tkE t L x) hL (tkS_le t L x) ht (fun mI3 h3 h5 hF3 => ?_) _ (min (tkB t L x + 1) L) _ (by omega) ⟨by rw [sI_n (by omega), sI_n (by omega)]; exact g4.1, by rw [sI_n (by omega), sI_n (by omega)]; exact g4.2.1, by rw [sI_s, hso], by rw [sI_n (by omega), sI_n (by omega)]; exact g4.2.2⟩ (by rw [sI_n (by omega), sI_s]) (by rw [hso, show min (tkB t L x + 1) L = tkB t L x + 1 by omega]; exact tk_eo c1) (Fx_sI (Fx_sI gF (by omega)) (by omega)) rfl
    exact k mI3 ⟨⟨hL, h3.1, fun i hi => by rw [hF3 52 (by omega)]; exact ht i hi⟩, hx, h3.2.1, h3.2.2.1, h3.2.2.2, h5, (tk_le hx).2.2⟩ hF3

