/-! THE TEXT'S TOKENS. t: the letters, L: how many; a token is found from a place x on: its sort (0 end, 1 word, 2 number, 3 sign), where it begins, where it ends -/
abbrev smP (c : Int32) : Prop := nI 97 ≤ c ∧ c ≤ nI 122
abbrev dgP (c : Int32) : Prop := nI 48 ≤ c ∧ c ≤ nI 57
/-- a run of letters of a kind -/
def rnD (f : Int32 → Bool) (t : Nat → Int32) : Nat → Nat → Nat
  | 0, i => i
  | d + 1, i => if f (t i) = true then rnD f t d (i + 1) else i
def rn (f : Int32 → Bool) (t : Nat → Int32) (L i : Nat) : Nat := rnD f t (L - i) i
def fB (c : Int32) : Bool := decide (c = nI 32)
def fS (c : Int32) : Bool := decide (smP c)
def fD (c : Int32) : Bool := decide (dgP c)
theorem rn_end {f : Int32 → Bool} {t : Nat → Int32} {L i : Nat} (h : L ≤ i) : rn f t L i = i := by unfold rn; rw [show L - i = 0 by omega]; rfl
theorem rn_yes {f : Int32 → Bool} {t : Nat → Int32} {L i : Nat} (h : i < L) (hf : f (t i) = true) : rn f t L i = rn f t L (i + 1) := by
  unfold rn
  rw [show L - i = (L - (i + 1)) + 1 by omega, rnD, if_pos hf]
theorem rn_no {f : Int32 → Bool} {t : Nat → Int32} {L i : Nat} (h : i < L) (hf : ¬ f (t i) = true) : rn f t L i = i := by
  unfold rn
  rw [show L - i = (L - (i + 1)) + 1 by omega, rnD, if_neg hf]
theorem rnD_le {f : Int32 → Bool} {t : Nat → Int32} : ∀ d i, i ≤ rnD f t d i ∧ rnD f t d i ≤ i + d
  | 0, i => ⟨Nat.le_refl _, Nat.le_refl _⟩
  | d + 1, i => by
    rw [rnD]
    split
    · have := rnD_le (f := f) (t := t) d (i + 1); omega
    · omega
theorem rn_le {f : Int32 → Bool} {t : Nat → Int32} {L i : Nat} (h : i ≤ L) : i ≤ rn f t L i ∧ rn f t L i ≤ L := by
  have := rnD_le (f := f) (t := t) (L - i) i
  unfold rn; omega
def tkB (t : Nat → Int32) (L x : Nat) : Nat := rn fB t L x
def tkS (t : Nat → Int32) (L x : Nat) : Nat := if L ≤ tkB t L x then 0 else if smP (t (tkB t L x)) then 1 else if dgP (t (tkB t L x)) then 2 else 3
def tkE (t : Nat → Int32) (L x : Nat) : Nat := if L ≤ tkB t L x then tkB t L x else if smP (t (tkB t L x)) then rn fS t L (tkB t L x) else if dgP (t (tkB t L x)) then rn fD t L (tkB t L x) else tkB t L x + 1
theorem tk_le {t : Nat → Int32} {L x : Nat} (h : x ≤ L) : x ≤ tkB t L x ∧ tkB t L x ≤ tkE t L x ∧ tkE t L x ≤ L := by
  have h1 := rn_le (f := fB) (t := t) h
  unfold tkE
  unfold tkB at *
  split
  · omega
  · split
    · have := rn_le (f := fS) (t := t) h1.2; omega
    · split
      · have := rn_le (f := fD) (t := t) h1.2; omega
      · omega
def dv (c : Int32) : Nat := (c.toInt - 48).toNat
/-- the number of a token's first two digits -/
def nmN (t : Nat → Int32) (b e : Nat) : Nat := if b + 1 < e then 10 * dv (t b) + dv (t (b + 1)) else dv (t b)
def XR (t : Nat → Int32) (L : Nat) (mI : Nat → Nat → Int32) : Prop := L ≤ 200 ∧ mI 51 1 = nI L ∧ ∀ i, i < L → mI 52 i = t i
/-- the reader looks at the token from x on, c clauses behind it -/
def TK (t : Nat → Int32) (L x c : Nat) (mI : Nat → Nat → Int32) : Prop := XR t L mI ∧ x ≤ L ∧ mI 51 2 = nI c ∧ mI 51 3 = nI (tkS t L x) ∧ mI 51 4 = nI (tkB t L x) ∧ mI 51 5 = nI (tkE t L x) ∧ (tkS t L x = 2 → mI 51 6 = nI (nmN t (tkB t L x) (tkE t L x)))
theorem XR.fx {t : Nat → Int32} {L : Nat} {mI mI' : Nat → Nat → Int32} (h : XR t L mI) (h1 : mI' 51 1 = mI 51 1) (h2 : mI' 52 = mI 52) : XR t L mI' := ⟨h.1, h1.trans h.2.1, fun i hi => by rw [h2]; exact h.2.2 i hi⟩
theorem dv_eq {c : Int32} (h : dgP c) : c = nI (48 + dv c) ∧ dv c ≤ 9 := by
  have h1 := Int32.le_iff_toInt_le.mp h.1
  have h2 := Int32.le_iff_toInt_le.mp h.2
  rw [nI_toInt (by decide)] at h1 h2
  have hd : dv c ≤ 9 := by unfold dv; omega
  refine ⟨Int32.toInt_inj.mp ?_, hd⟩
  rw [nI_toInt (by omega)]
  unfold dv
  omega
theorem c_Rd_isSmall {X : CX} {h : AH} {Q : Option Value → AH → Prop} {x : Int32} (k : Q (some (.int (bI (smP x)))) h) : EW X m_Rd_isSmall 0 (enL m_Rd_isSmall.2.2.1 [.int x]) [] h Q := by
  show EW X m_Rd_isSmall 0 [.int x] [] h Q
  refine g_iload_n d_Rd_isSmall_0 rfl ?_
  refine N_bipush d_Rd_isSmall_1 97 rfl ?_
  refine N_bipush d_Rd_isSmall_3 122 rfl ?_
  refine C_S3 d_Rd_isSmall_5 k_Rd_132 (Nat.le_of_ble_eq_true rfl) (by decide) (Nat.le_of_ble_eq_true rfl) ?_
  refine c_Pn_isWithin ?_
  refine P_zret d_Rd_isSmall_8 rfl (bI_01 _) ?_
  exact k

theorem c_Rd_isDigit {X : CX} {h : AH} {Q : Option Value → AH → Prop} {x : Int32} (k : Q (some (.int (bI (dgP x)))) h) : EW X m_Rd_isDigit 0 (enL m_Rd_isDigit.2.2.1 [.int x]) [] h Q := by
  show EW X m_Rd_isDigit 0 [.int x] [] h Q
  refine g_iload_n d_Rd_isDigit_0 rfl ?_
  refine N_bipush d_Rd_isDigit_1 48 rfl ?_
  refine N_bipush d_Rd_isDigit_3 57 rfl ?_
  refine C_S3 d_Rd_isDigit_5 k_Rd_132 (Nat.le_of_ble_eq_true rfl) (by decide) (Nat.le_of_ble_eq_true rfl) ?_
  refine c_Pn_isWithin ?_
  refine P_zret d_Rd_isDigit_8 rfl (bI_01 _) ?_
  exact k

/-- the number behind the digits b .. i - 1 -/
def nmP (t : Nat → Int32) (b i : Nat) : Nat := if i ≤ b then 0 else nmN t b i
theorem nmN_2 (t : Nat → Int32) (b e : Nat) (h : b + 2 ≤ e) : nmN t b e = nmN t b (b + 2) := by unfold nmN; rw [if_pos (by omega), if_pos (by omega)]
theorem lp_Rd_passDigits {X : CX} {dl : List (Nat × Nat)} {mI : Nat → Nat → Int32} {dr : Nat → Nat → Nat} {Q : Option Value → AH → Prop} {t : Nat → Int32} {L c s b : Nat} (hL : L ≤ 200) (ht : ∀ i, i < L → mI 52 i = t i) (k : ∀ mI', mI' 51 1 = nI L ∧ mI' 51 2 = nI c ∧ mI' 51 3 = nI s ∧ mI' 51 4 = nI b → mI' 51 5 = nI (rn fD t L b) → mI' 51 6 = nI (nmP t b (rn fD t L b)) → Fx 51 51 mI mI' → Q none (hp X dl mI' dr)) : ∀ (d : Nat) (i : Nat) (mI2 : Nat → Nat → Int32), (b ≤ i ∧ i ≤ L) → (mI2 51 1 = nI L ∧ mI2 51 2 = nI c ∧ mI2 51 3 = nI s ∧ mI2 51 4 = nI b) → (mI2 51 5 = nI i) → (mI2 51 6 = nI (nmP t b i)) → (rn fD t L b = rn fD t L i) → (Fx 51 51 mI mI2) → L - i = d → EW X m_Rd_passDigits 5 [.ref 51] [] (hp X dl mI2 dr) Q := by
  intro d
  induction d using Nat.strongRecOn with
  | _ d ih =>
    intro i mI2 hi h4 h5 h6 hr hF hd
    refine g_aload_n d_Rd_passDigits_5 rfl ?_
    refine H_getI d_Rd_passDigits_6 f_Rd_22.g rfl rfl (by decide) ?_
    refine T_int (nI (i)) h5 ?_
    refine g_aload_n d_Rd_passDigits_9 rfl ?_
    refine H_getI d_Rd_passDigits_10 f_Rd_15.g rfl rfl (by decide) ?_
    refine T_int (nI (L)) h4.1 ?_
    refine N_icmp_ge d_Rd_passDigits_13 81 (by decide) ⟨by omega, by omega⟩ (fun c1 => ?_) (fun c1 => ?_)
    · refine P_vret d_Rd_passDigits_81 rfl (k mI2 h4 ?_ ?_ hF)
      · rw [hr, rn_end (by omega)]; exact h5
      · rw [hr, rn_end (by omega)]; exact h6
    · have hti : mI2 52 i = t i := by rw [hF 52 (by omega)]; exact ht i c1
      refine g_aload_n d_Rd_passDigits_16 rfl ?_
      refine H_getR 52 d_Rd_passDigits_17 f_Rd_11.g rfl rfl (by decide) rfl ?_
      refine g_aload_n d_Rd_passDigits_20 rfl ?_
      refine H_getI d_Rd_passDigits_21 f_Rd_22.g rfl rfl (by decide) ?_
      refine T_int (nI (i)) h5 ?_
      refine H_ialdN d_Rd_passDigits_24 rfl rfl (show i < 200 by omega) (by decide) ?_
      refine T_int (t i) hti ?_
      refine C_S1 d_Rd_passDigits_25 k_Rd_126 (Nat.le_of_ble_eq_true rfl) (by decide) (Nat.le_of_ble_eq_true rfl) ?_
      refine c_Rd_isDigit ?_
      refine B_eq d_Rd_passDigits_28 81 (by decide) (fun c2 => ?_) (fun c2 => ?_)
      · have e : rn fD t L i = i := rn_no c1 (by unfold fD; rw [decide_eq_true_iff]; exact c2)
        refine P_vret d_Rd_passDigits_81 rfl (k mI2 h4 ?_ ?_ hF)
        · rw [hr, e]; exact h5
        · rw [hr, e]; exact h6
      · have hr2 : rn fD t L b = rn fD t L (i + 1) := hr.trans (rn_yes c1 (by unfold fD; rw [decide_eq_true_iff]; exact c2))
        have hdv := dv_eq c2
        refine g_aload_n d_Rd_passDigits_31 rfl ?_
        refine H_getI d_Rd_passDigits_32 f_Rd_22.g rfl rfl (by decide) ?_
        refine T_int (nI (i)) h5 ?_
        refine g_aload_n d_Rd_passDigits_35 rfl ?_
        refine H_getI d_Rd_passDigits_36 f_Rd_32.g rfl rfl (by decide) ?_
        refine T_int (nI (b)) h4.2.2.2 ?_
        refine N_isub d_Rd_passDigits_39 (by omega) ?_
        refine N_iconst d_Rd_passDigits_40 2 rfl ?_
        refine N_icmp_ge d_Rd_passDigits_41 68 (by decide) ⟨by omega, by omega⟩ (fun c3 => ?_) (fun c3 => ?_)
        · refine g_aload_n d_Rd_passDigits_68 rfl ?_
          refine P_dupA d_Rd_passDigits_69 ?_
          refine H_getI d_Rd_passDigits_70 f_Rd_22.g rfl rfl (by decide) ?_
          refine T_int (nI (i)) h5 ?_
          refine N_iconst d_Rd_passDigits_73 1 rfl ?_
          refine N_iadd d_Rd_passDigits_74 ?_
          refine H_putI d_Rd_passDigits_75 f_Rd_22 rfl rfl (by decide) ?_
          refine P_goto d_Rd_passDigits_78 5 (by decide) ?_
          refine ih _ (by omega) (i + 1) _ (by omega) ⟨by rw [sI_n (by omega)]; exact h4.1, by rw [sI_n (by omega)]; exact h4.2.1, by rw [sI_n (by omega)]; exact h4.2.2.1, by rw [sI_n (by omega)]; exact h4.2.2.2⟩ (sI_s _ _ _ _) ?_ hr2 (Fx_sI hF (by omega)) rfl
          rw [sI_n (by omega), h6]
          unfold nmP
          rw [if_neg (by omega), if_neg (by omega), nmN_2 t b i (by omega), nmN_2 t b (i + 1) (by omega)]
        · refine g_aload_n d_Rd_passDigits_44 rfl ?_
          refine g_aload_n d_Rd_passDigits_45 rfl ?_
          refine H_getI d_Rd_passDigits_46 f_Rd_115.g rfl rfl (by decide) ?_
          refine T_int (nI (nmP t b i)) h6 ?_
          refine N_bipush d_Rd_passDigits_49 10 rfl ?_
          refine N_imul d_Rd_passDigits_51 ?_
          refine g_aload_n d_Rd_passDigits_52 rfl ?_
          refine H_getR 52 d_Rd_passDigits_53 f_Rd_11.g rfl rfl (by decide) rfl ?_
          refine g_aload_n d_Rd_passDigits_56 rfl ?_
          refine H_getI d_Rd_passDigits_57 f_Rd_22.g rfl rfl (by decide) ?_
          refine T_int (nI (i)) h5 ?_
          refine H_ialdN d_Rd_passDigits_60 rfl rfl (show i < 200 by omega) (by decide) ?_
          refine T_int (nI (48 + dv (t i))) (hti.trans hdv.1) ?_
          refine N_iadd d_Rd_passDigits_61 ?_
          refine N_bipush d_Rd_passDigits_62 48 rfl ?_
          refine N_isub d_Rd_passDigits_64 (by omega) ?_
          refine T_int (nI (nmP t b (i + 1))) (congrArg nI (by
  unfold nmP
  rw [if_neg (show ¬ i + 1 ≤ b by omega)]
  rcases (show i = b ∨ i = b + 1 by omega) with rfl | rfl
  · rw [if_pos (Nat.le_refl _)]; unfold nmN; rw [if_neg (by omega)]; omega
  · rw [if_neg (by omega)]; unfold nmN; rw [if_neg (by omega), if_pos (by omega)]; omega)) ?_
          refine H_putI d_Rd_passDigits_65 f_Rd_115 rfl rfl (by decide) ?_
          refine g_aload_n d_Rd_passDigits_68 rfl ?_
          refine P_dupA d_Rd_passDigits_69 ?_
          refine H_getI d_Rd_passDigits_70 f_Rd_22.g rfl rfl (by decide) ?_
          refine T_int (nI (i)) (by rw [sI_n (by omega)]; exact h5) ?_
          refine N_iconst d_Rd_passDigits_73 1 rfl ?_
          refine N_iadd d_Rd_passDigits_74 ?_
          refine H_putI d_Rd_passDigits_75 f_Rd_22 rfl rfl (by decide) ?_
          refine P_goto d_Rd_passDigits_78 5 (by decide) ?_
          exact ih _ (by omega) (i + 1) _ (by omega) ⟨by rw [sI_n (by omega), sI_n (by omega)]; exact h4.1, by rw [sI_n (by omega), sI_n (by omega)]; exact h4.2.1, by rw [sI_n (by omega), sI_n (by omega)]; exact h4.2.2.1, by rw [sI_n (by omega), sI_n (by omega)]; exact h4.2.2.2⟩ (sI_s _ _ _ _) (by rw [sI_n (by omega), sI_s]) hr2 (Fx_sI (Fx_sI hF (by omega)) (by omega)) rfl

theorem c_Rd_passDigits {X : CX} {dl : List (Nat × Nat)} {mI : Nat → Nat → Int32} {dr : Nat → Nat → Nat} {Q : Option Value → AH → Prop} {t : Nat → Int32} {L c s b : Nat} (hL : L ≤ 200) (ht : ∀ i, i < L → mI 52 i = t i) (hb : b ≤ L) (h4 : mI 51 1 = nI L ∧ mI 51 2 = nI c ∧ mI 51 3 = nI s ∧ mI 51 4 = nI b) (h5 : mI 51 5 = nI b) (k : ∀ mI', mI' 51 1 = nI L ∧ mI' 51 2 = nI c ∧ mI' 51 3 = nI s ∧ mI' 51 4 = nI b → mI' 51 5 = nI (rn fD t L b) → mI' 51 6 = nI (nmP t b (rn fD t L b)) → Fx 51 51 mI mI' → Q none (hp X dl mI' dr)) : EW X m_Rd_passDigits 0 (enL m_Rd_passDigits.2.2.1 [.ref 51]) [] (hp X dl mI dr) Q := by
  show EW X m_Rd_passDigits 0 [.ref 51] [] (hp X dl mI dr) Q
  refine g_aload_n d_Rd_passDigits_0 rfl ?_
  refine N_iconst d_Rd_passDigits_1 0 rfl ?_
  refine H_putI d_Rd_passDigits_2 f_Rd_115 rfl rfl (by decide) ?_
  refine lp_Rd_passDigits (mI := mI) hL ht k _ b _ ⟨Nat.le_refl _, hb⟩ ⟨by rw [sI_n (by omega)]; exact h4.1, by rw [sI_n (by omega)]; exact h4.2.1, by rw [sI_n (by omega)]; exact h4.2.2.1, by rw [sI_n (by omega)]; exact h4.2.2.2⟩ (by rw [sI_n (by omega)]; exact h5) ?_ rfl (Fx_sI Fx.rf (by omega)) rfl
  rw [sI_s]
  unfold nmP
  rw [if_pos (Nat.le_refl _)]

theorem lp_Rd_blank {X : CX} {dl : List (Nat × Nat)} {mI : Nat → Nat → Int32} {dr : Nat → Nat → Nat} {Q : Option Value → AH → Prop} {t : Nat → Int32} {L c x : Nat} (hL : L ≤ 200) (ht : ∀ i, i < L → mI 52 i = t i) (k : ∀ mI', mI' 51 1 = nI L ∧ mI' 51 2 = nI c ∧ mI' 51 4 = nI (tkB t L x) → Fx 51 51 mI mI' → EW X m_Rd_toNextToken 46 [.ref 51] [] (hp X dl mI' dr) Q) : ∀ (d : Nat) (i : Nat) (mI2 : Nat → Nat → Int32), (i ≤ L) → (mI2 51 1 = nI L ∧ mI2 51 2 = nI c ∧ mI2 51 4 = nI i) → (tkB t L x = rn fB t L i) → (Fx 51 51 mI mI2) → L - i = d → EW X m_Rd_toNextToken 8 [.ref 51] [] (hp X dl mI2 dr) Q := by
  intro d
  induction d using Nat.strongRecOn with
  | _ d ih =>
    intro i mI2 hi h4 hr hF hd
    refine g_aload_n d_Rd_toNextToken_8 rfl ?_
    refine H_getI d_Rd_toNextToken_9 f_Rd_32.g rfl rfl (by decide) ?_
    refine T_int (nI (i)) h4.2.2 ?_
    refine g_aload_n d_Rd_toNextToken_12 rfl ?_
    refine H_getI d_Rd_toNextToken_13 f_Rd_15.g rfl rfl (by decide) ?_
    refine T_int (nI (L)) h4.1 ?_
    refine N_icmp_ge d_Rd_toNextToken_16 46 (by decide) ⟨by omega, by omega⟩ (fun c1 => ?_) (fun c1 => ?_)
    · refine k mI2 ⟨h4.1, h4.2.1, ?_⟩ hF
      rw [hr, rn_end (by omega)]; exact h4.2.2
    · refine g_aload_n d_Rd_toNextToken_19 rfl ?_
      refine H_getR 52 d_Rd_toNextToken_20 f_Rd_11.g rfl rfl (by decide) rfl ?_
      refine g_aload_n d_Rd_toNextToken_23 rfl ?_
      refine H_getI d_Rd_toNextToken_24 f_Rd_32.g rfl rfl (by decide) ?_
      refine T_int (nI (i)) h4.2.2 ?_
      refine H_ialdN d_Rd_toNextToken_27 rfl rfl (show i < 200 by omega) (by decide) ?_
      refine T_int (t i) (by rw [hF 52 (by omega)]; exact ht i c1) ?_
      refine N_bipush d_Rd_toNextToken_28 32 rfl ?_
      refine P_icmp_ne d_Rd_toNextToken_30 46 (by decide) (fun c2 => ?_) (fun c2 => ?_)
      · refine k mI2 ⟨h4.1, h4.2.1, ?_⟩ hF
        rw [hr, rn_no c1 (by unfold fB; rw [decide_eq_true_iff]; exact c2)]; exact h4.2.2
      · refine g_aload_n d_Rd_toNextToken_33 rfl ?_
        refine P_dupA d_Rd_toNextToken_34 ?_
        refine H_getI d_Rd_toNextToken_35 f_Rd_32.g rfl rfl (by decide) ?_
        refine T_int (nI (i)) h4.2.2 ?_
        refine N_iconst d_Rd_toNextToken_38 1 rfl ?_
        refine N_iadd d_Rd_toNextToken_39 ?_
        refine H_putI d_Rd_toNextToken_40 f_Rd_32 rfl rfl (by decide) ?_
        refine P_goto d_Rd_toNextToken_43 8 (by decide) ?_
        exact ih _ (by omega) (i + 1) _ (by omega) ⟨by rw [sI_n (by omega)]; exact h4.1, by rw [sI_n (by omega)]; exact h4.2.1, sI_s _ _ _ _⟩ (hr.trans (rn_yes c1 (by unfold fB; rw [decide_eq_true_iff]; exact c2))) (Fx_sI hF (by omega)) rfl

theorem lp_Rd_small {X : CX} {dl : List (Nat × Nat)} {mI : Nat → Nat → Int32} {dr : Nat → Nat → Nat} {Q : Option Value → AH → Prop} {t : Nat → Int32} {L c b : Nat} (hL : L ≤ 200) (ht : ∀ i, i < L → mI 52 i = t i) (k : ∀ mI', mI' 51 1 = nI L ∧ mI' 51 2 = nI c ∧ mI' 51 3 = nI 1 ∧ mI' 51 4 = nI b → mI' 51 5 = nI (rn fS t L b) → Fx 51 51 mI mI' → Q none (hp X dl mI' dr)) : ∀ (d : Nat) (i : Nat) (mI2 : Nat → Nat → Int32), (i ≤ L) → (mI2 51 1 = nI L ∧ mI2 51 2 = nI c ∧ mI2 51 3 = nI 1 ∧ mI2 51 4 = nI b) → (mI2 51 5 = nI i) → (rn fS t L b = rn fS t L i) → (Fx 51 51 mI mI2) → L - i = d → EW X m_Rd_toNextToken 93 [.ref 51] [] (hp X dl mI2 dr) Q := by
  intro d
  induction d using Nat.strongRecOn with
  | _ d ih =>
    intro i mI2 hi h4 h5 hr hF hd
    refine g_aload_n d_Rd_toNextToken_93 rfl ?_
    refine H_getI d_Rd_toNextToken_94 f_Rd_22.g rfl rfl (by decide) ?_
    refine T_int (nI (i)) h5 ?_
    refine g_aload_n d_Rd_toNextToken_97 rfl ?_
    refine H_getI d_Rd_toNextToken_98 f_Rd_15.g rfl rfl (by decide) ?_
    refine T_int (nI (L)) h4.1 ?_
    refine N_icmp_ge d_Rd_toNextToken_101 174 (by decide) ⟨by omega, by omega⟩ (fun c1 => ?_) (fun c1 => ?_)
    · refine P_vret d_Rd_toNextToken_174 rfl (k mI2 h4 ?_ hF)
      rw [hr, rn_end (by omega)]; exact h5
    · refine g_aload_n d_Rd_toNextToken_104 rfl ?_
      refine H_getR 52 d_Rd_toNextToken_105 f_Rd_11.g rfl rfl (by decide) rfl ?_
      refine g_aload_n d_Rd_toNextToken_108 rfl ?_
      refine H_getI d_Rd_toNextToken_109 f_Rd_22.g rfl rfl (by decide) ?_
      refine T_int (nI (i)) h5 ?_
      refine H_ialdN d_Rd_toNextToken_112 rfl rfl (show i < 200 by omega) (by decide) ?_
      refine T_int (t i) (by rw [hF 52 (by omega)]; exact ht i c1) ?_
      refine C_S1 d_Rd_toNextToken_113 k_Rd_122 (Nat.le_of_ble_eq_true rfl) (by decide) (Nat.le_of_ble_eq_true rfl) ?_
      refine c_Rd_isSmall ?_
      refine B_eq d_Rd_toNextToken_116 174 (by decide) (fun c2 => ?_) (fun c2 => ?_)
      · refine P_vret d_Rd_toNextToken_174 rfl (k mI2 h4 ?_ hF)
        rw [hr, rn_no c1 (by unfold fS; rw [decide_eq_true_iff]; exact c2)]; exact h5
      · refine g_aload_n d_Rd_toNextToken_119 rfl ?_
        refine P_dupA d_Rd_toNextToken_120 ?_
        refine H_getI d_Rd_toNextToken_121 f_Rd_22.g rfl rfl (by decide) ?_
        refine T_int (nI (i)) h5 ?_
        refine N_iconst d_Rd_toNextToken_124 1 rfl ?_
        refine N_iadd d_Rd_toNextToken_125 ?_
        refine H_putI d_Rd_toNextToken_126 f_Rd_22 rfl rfl (by decide) ?_
        refine P_goto d_Rd_toNextToken_129 93 (by decide) ?_
        exact ih _ (by omega) (i + 1) _ (by omega) ⟨by rw [sI_n (by omega)]; exact h4.1, by rw [sI_n (by omega)]; exact h4.2.1, by rw [sI_n (by omega)]; exact h4.2.2.1, by rw [sI_n (by omega)]; exact h4.2.2.2⟩ (sI_s _ _ _ _) (hr.trans (rn_yes c1 (by unfold fS; rw [decide_eq_true_iff]; exact c2))) (Fx_sI hF (by omega)) rfl

theorem c_Rd_toNextToken {X : CX} {dl : List (Nat × Nat)} {mI : Nat → Nat → Int32} {dr : Nat → Nat → Nat} {Q : Option Value → AH → Prop} {t : Nat → Int32} {L c x : Nat} (hX : XR t L mI) (hx : x ≤ L) (h2 : mI 51 2 = nI c) (h5 : mI 51 5 = nI x) (k : ∀ mI', TK t L x c mI' → Fx 51 51 mI mI' → Q none (hp X dl mI' dr)) : EW X m_Rd_toNextToken 0 (enL m_Rd_toNextToken.2.2.1 [.ref 51]) [] (hp X dl mI dr) Q := by
  show EW X m_Rd_toNextToken 0 [.ref 51] [] (hp X dl mI dr) Q
  obtain ⟨hL, hX1, ht⟩ := hX
  have htk := rn_le (f := fB) (t := t) hx
  have htk2 : tkB t L x = rn fB t L x := rfl
  refine g_aload_n d_Rd_toNextToken_0 rfl ?_
  refine g_aload_n d_Rd_toNextToken_1 rfl ?_
  refine H_getI d_Rd_toNextToken_2 f_Rd_22.g rfl rfl (by decide) ?_
  refine T_int (nI (x)) h5 ?_
  refine H_putI d_Rd_toNextToken_5 f_Rd_32 rfl rfl (by decide) ?_
  refine lp_Rd_blank (mI := mI) (x := x) hL ht (fun mI1 g4 gF => ?_) _ x _ hx ⟨by rw [sI_n (by omega)]; exact hX1, by rw [sI_n (by omega)]; exact h2, sI_s _ _ _ _⟩ rfl (Fx_sI Fx.rf (by omega)) rfl
  refine g_aload_n d_Rd_toNextToken_46 rfl ?_
  refine g_aload_n d_Rd_toNextToken_47 rfl ?_
  refine H_getI d_Rd_toNextToken_48 f_Rd_32.g rfl rfl (by decide) ?_
  refine T_int (nI (tkB t L x)) g4.2.2 ?_
  refine H_putI d_Rd_toNextToken_51 f_Rd_22 rfl rfl (by decide) ?_
  refine g_aload_n d_Rd_toNextToken_54 rfl ?_
  refine H_getI d_Rd_toNextToken_55 f_Rd_32.g rfl rfl (by decide) ?_
  refine T_int (nI (tkB t L x)) (by rw [sI_n (by omega)]; exact g4.2.2) ?_
  refine g_aload_n d_Rd_toNextToken_58 rfl ?_
  refine H_getI d_Rd_toNextToken_59 f_Rd_15.g rfl rfl (by decide) ?_
  refine T_int (nI (L)) (by rw [sI_n (by omega)]; exact g4.1) ?_
  refine N_icmp_lt d_Rd_toNextToken_62 73 (by decide) ⟨by omega, by omega⟩ (fun c1 => ?_) (fun c1 => ?_)
  · have hti : sI mI1 51 5 (nI (tkB t L x)) 52 (tkB t L x) = t (tkB t L x) := by rw [sI_r (by omega), gF 52 (by omega)]; exact ht _ c1
    have hnL : ¬ L ≤ tkB t L x := by omega
    refine g_aload_n d_Rd_toNextToken_73 rfl ?_
    refine H_getR 52 d_Rd_toNextToken_74 f_Rd_11.g rfl rfl (by decide) rfl ?_
    refine g_aload_n d_Rd_toNextToken_77 rfl ?_
    refine H_getI d_Rd_toNextToken_78 f_Rd_32.g rfl rfl (by decide) ?_
    refine T_int (nI (tkB t L x)) (by rw [sI_n (by omega)]; exact g4.2.2) ?_
    refine H_ialdN d_Rd_toNextToken_81 rfl rfl (show tkB t L x < 200 by omega) (by decide) ?_
    refine T_int (t (tkB t L x)) hti ?_
    refine C_S1 d_Rd_toNextToken_82 k_Rd_122 (Nat.le_of_ble_eq_true rfl) (by decide) (Nat.le_of_ble_eq_true rfl) ?_
    refine c_Rd_isSmall ?_
    refine B_eq d_Rd_toNextToken_85 132 (by decide) (fun c2 => ?_) (fun c2 => ?_)
    · refine g_aload_n d_Rd_toNextToken_132 rfl ?_
      refine H_getR 52 d_Rd_toNextToken_133 f_Rd_11.g rfl rfl (by decide) rfl ?_
      refine g_aload_n d_Rd_toNextToken_136 rfl ?_
      refine H_getI d_Rd_toNextToken_137 f_Rd_32.g rfl rfl (by decide) ?_
      refine T_int (nI (tkB t L x)) (by rw [sI_n (by omega)]; exact g4.2.2) ?_
      refine H_ialdN d_Rd_toNextToken_140 rfl rfl (show tkB t L x < 200 by omega) (by decide) ?_
      refine T_int (t (tkB t L x)) hti ?_
      refine C_S1 d_Rd_toNextToken_141 k_Rd_126 (Nat.le_of_ble_eq_true rfl) (by decide) (Nat.le_of_ble_eq_true rfl) ?_
      refine c_Rd_isDigit ?_
      refine B_eq d_Rd_toNextToken_144 159 (by decide) (fun c3 => ?_) (fun c3 => ?_)
      · refine g_aload_n d_Rd_toNextToken_159 rfl ?_
        refine N_iconst d_Rd_toNextToken_160 3 rfl ?_
        refine H_putI d_Rd_toNextToken_161 f_Rd_35 rfl rfl (by decide) ?_
        refine g_aload_n d_Rd_toNextToken_164 rfl ?_
        refine P_dupA d_Rd_toNextToken_165 ?_
        refine H_getI d_Rd_toNextToken_166 f_Rd_22.g rfl rfl (by decide) ?_
        refine T_int (nI (tkB t L x)) (by rw [sI_n (by omega), sI_s]) ?_
        refine N_iconst d_Rd_toNextToken_169 1 rfl ?_
        refine N_iadd d_Rd_toNextToken_170 ?_
        refine H_putI d_Rd_toNextToken_171 f_Rd_22 rfl rfl (by decide) ?_
        refine P_vret d_Rd_toNextToken_174 rfl (k _ ⟨⟨hL, by rw [sI_n (by omega), sI_n (by omega), sI_n (by omega)]; exact g4.1, fun i hi => by rw [sI_r (by omega), sI_r (by omega), sI_r (by omega), gF 52 (by omega)]; exact ht i hi⟩, hx, by rw [sI_n (by omega), sI_n (by omega), sI_n (by omega)]; exact g4.2.1, by rw [sI_n (by omega), sI_s, tkS, if_neg hnL, if_neg c2, if_neg c3], by rw [sI_n (by omega), sI_n (by omega), sI_n (by omega)]; exact g4.2.2, by rw [sI_s, tkE, if_neg hnL, if_neg c2, if_neg c3], fun z => absurd z (by rw [tkS, if_neg hnL, if_neg c2, if_neg c3]; decide)⟩ (Fx_sI (Fx_sI (Fx_sI gF (by omega)) (by omega)) (by omega)))
      · refine g_aload_n d_Rd_toNextToken_147 rfl ?_
        refine N_iconst d_Rd_toNextToken_148 2 rfl ?_
        refine H_putI d_Rd_toNextToken_149 f_Rd_35 rfl rfl (by decide) ?_
        refine g_aload_n d_Rd_toNextToken_152 rfl ?_
        refine C_V0 d_Rd_toNextToken_153 k_Rd_129 rfl (Nat.le_of_ble_eq_true rfl) (by decide) (Nat.le_of_ble_eq_true rfl) ?_
        refine c_Rd_passDigits (t := t) (L := L) (c := c) (s := 2) (b := tkB t L x) hL (fun i hi => by rw [sI_r (by omega), sI_r (by omega), gF 52 (by omega)]; exact ht i hi) (by omega) ⟨by rw [sI_n (by omega), sI_n (by omega)]; exact g4.1, by rw [sI_n (by omega), sI_n (by omega)]; exact g4.2.1, sI_s _ _ _ _, by rw [sI_n (by omega), sI_n (by omega)]; exact g4.2.2⟩ (by rw [sI_n (by omega), sI_s]) (fun mI3 h3 h5 h6 hF3 => ?_)
        refine P_goto d_Rd_toNextToken_156 174 (by decide) ?_
        have hF4 : Fx 51 51 mI mI3 := Fx.tr (Fx_sI (Fx_sI gF (by omega)) (by omega)) hF3
        have hdE : tkE t L x = rn fD t L (tkB t L x) := by rw [tkE, if_neg hnL, if_neg c2, if_pos c3]
        have hlt : tkB t L x < rn fD t L (tkB t L x) := by
          rw [rn_yes (by omega) (by unfold fD; rw [decide_eq_true_iff]; exact c3)]
          have := rn_le (f := fD) (t := t) (L := L) (i := tkB t L x + 1) (by omega)
          omega
        refine P_vret d_Rd_toNextToken_174 rfl (k mI3 ⟨⟨hL, h3.1, fun i hi => by rw [hF4 52 (by omega)]; exact ht i hi⟩, hx, h3.2.1, by rw [h3.2.2.1, tkS, if_neg hnL, if_neg c2, if_pos c3], h3.2.2.2, by rw [h5, hdE], fun _ => ?_⟩ hF4)
        rw [h6, hdE]
        unfold nmP
        rw [if_neg (by omega)]
    · refine g_aload_n d_Rd_toNextToken_88 rfl ?_
      refine N_iconst d_Rd_toNextToken_89 1 rfl ?_
      refine H_putI d_Rd_toNextToken_90 f_Rd_35 rfl rfl (by decide) ?_
      refine lp_Rd_small (mI := mI) (b := tkB t L x) hL ht (fun mI3 h3 h5 hF3 => ?_) _ (tkB t L x) _ (by omega) ⟨by rw [sI_n (by omega), sI_n (by omega)]; exact g4.1, by rw [sI_n (by omega), sI_n (by omega)]; exact g4.2.1, sI_s _ _ _ _, by rw [sI_n (by omega), sI_n (by omega)]; exact g4.2.2⟩ (by rw [sI_n (by omega), sI_s]) rfl (Fx_sI (Fx_sI gF (by omega)) (by omega)) rfl
      exact k mI3 ⟨⟨hL, h3.1, fun i hi => by rw [hF3 52 (by omega)]; exact ht i hi⟩, hx, h3.2.1, by rw [h3.2.2.1, tkS, if_neg hnL, if_pos c2], h3.2.2.2, by rw [h5, tkE, if_neg hnL, if_pos c2], fun z => absurd z (by rw [tkS, if_neg hnL, if_pos c2]; decide)⟩ hF3
  · refine g_aload_n d_Rd_toNextToken_65 rfl ?_
    refine N_iconst d_Rd_toNextToken_66 0 rfl ?_
    refine H_putI d_Rd_toNextToken_67 f_Rd_35 rfl rfl (by decide) ?_
    refine P_goto d_Rd_toNextToken_70 174 (by decide) ?_
    refine P_vret d_Rd_toNextToken_174 rfl (k _ ⟨⟨hL, by rw [sI_n (by omega), sI_n (by omega)]; exact g4.1, fun i hi => by rw [sI_r (by omega), sI_r (by omega), gF 52 (by omega)]; exact ht i hi⟩, hx, by rw [sI_n (by omega), sI_n (by omega)]; exact g4.2.1, by rw [sI_s, tkS, if_pos c1], by rw [sI_n (by omega), sI_n (by omega)]; exact g4.2.2, by rw [sI_n (by omega), sI_s, tkE, if_pos c1], fun z => absurd z (by rw [tkS, if_pos c1]; decide)⟩ (Fx_sI (Fx_sI gF (by omega)) (by omega)))

