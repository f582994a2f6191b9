/-! THE PAST -/
theorem st53 : StA 53 := by simp [StA, stL]
theorem st115 : StA 115 := by simp [StA, stL]
theorem stRing {j : Nat} (h : j < 8) : StA (61 + 6 * j) := by
  rcases (show j = 0 ∨ j = 1 ∨ j = 2 ∨ j = 3 ∨ j = 4 ∨ j = 5 ∨ j = 6 ∨ j = 7 by omega) with rfl | rfl | rfl | rfl | rfl | rfl | rfl | rfl <;> simp [StA, stL]
theorem fRing {j : Nat} (dr : Nat → Nat → Nat) (h : j < 8) : fR dr 60 j = 61 + 6 * j := by
  rcases (show j = 0 ∨ j = 1 ∨ j = 2 ∨ j = 3 ∨ j = 4 ∨ j = 5 ∨ j = 6 ∨ j = 7 by omega) with rfl | rfl | rfl | rfl | rfl | rfl | rfl | rfl <;> rfl
/-- the past: the latest state is the first -/
def PR (T : TD) (l : List AS) (mI : Nat → Nat → Int32) : Prop := ∃ nx, nx < 8 ∧ l.length ≤ 8 ∧ mI 59 1 = nI nx ∧ mI 59 2 = nI l.length ∧ ∀ k σ, l[k]? = some σ → SC (61 + 6 * ((nx + 7 - k) % 8)) T σ mI
theorem PR.to {T : TD} {l : List AS} {mI mI' : Nat → Nat → Int32} (h : PR T l mI) (hf : ∀ r, 59 ≤ r → r ≤ 108 → mI' r = mI r) : PR T l mI' := by
  obtain ⟨nx, h1, h2, h3, h4, h5⟩ := h
  refine ⟨nx, h1, h2, by rw [hf _ (by omega) (by omega)]; exact h3, by rw [hf _ (by omega) (by omega)]; exact h4, fun k σ hk => ?_⟩
  have : (nx + 7 - k) % 8 < 8 := Nat.mod_lt _ (by decide)
  exact SR.to (h5 k σ hk) (fun r g1 g2 => hf r (by omega) (by omega))
def psh (l : List AS) (σ : AS) : List AS := (σ :: l).take 8
theorem psh_len (l : List AS) (σ : AS) (h : l.length ≤ 8) : (psh l σ).length = min (l.length + 1) 8 := by
  rw [psh, List.length_take, List.length_cons]; omega
theorem PR_push {T : TD} {l : List AS} {σ : AS} {mI m1 m2 : Nat → Nat → Int32} {nx : Nat} (h1 : nx < 8) (h2 : l.length ≤ 8) (h5 : ∀ k σ, l[k]? = some σ → SC (61 + 6 * ((nx + 7 - k) % 8)) T σ mI)
   (hs : SC (61 + 6 * nx) T σ m1) (hf : Fa (61 + 6 * nx) mI m1) (hg : ∀ r, r ≠ 59 → m2 r = m1 r) (g1 : m2 59 1 = nI ((nx + 1) % 8)) (g2 : m2 59 2 = nI (min (l.length + 1) 8)) : PR T (psh l σ) m2 := by
  refine ⟨(nx + 1) % 8, Nat.mod_lt _ (by decide), by rw [psh_len l σ h2]; omega, g1, by rw [psh_len l σ h2]; exact g2, fun k τ hk => ?_⟩
  unfold psh at hk
  rw [List.getElem?_take] at hk
  split at hk
  · rename_i hk8
    rcases k with _ | k
    · have hk : σ = τ := by injection hk
      subst hk
      rw [show ((nx + 1) % 8 + 7 - 0) % 8 = nx by omega]
      exact SR.to hs (fun r z1 z2 => hg r (by omega))
    · have hk : l[k]? = some τ := hk
      have hkl : k < l.length := (List.getElem?_eq_some_iff.mp hk).1
      have hh := h5 k τ hk
      rw [show ((nx + 1) % 8 + 7 - (k + 1)) % 8 = (nx + 7 - k) % 8 by omega]
      have hne : (nx + 7 - k) % 8 ≠ nx := by omega
      exact SR.to hh (fun r z1 z2 => (hg r (by omega)).trans (hf r (by omega)))
  · cases hk
theorem c_Ps_remember {X : CX} {dl : List (Nat × Nat)} {mI : Nat → Nat → Int32} {dr : Nat → Nat → Nat} {Q : Option Value → AH → Prop} {T : TD} {σ : AS} {l : List AS} (hw : TW T) (hS : SC 53 T σ mI) (hP : PR T l mI) (k : ∀ mI', PR T (psh l σ) mI' → Fx 59 108 mI mI' → Q none (hp X dl mI' dr)) : EW X m_Ps_remember 0 (enL m_Ps_remember.2.2.1 [.ref 59, .ref 53]) [] (hp X dl mI dr) Q := by
  show EW X m_Ps_remember 0 [.ref 59, .ref 53] [] (hp X dl mI dr) Q
  obtain ⟨nx, h1, h2, h3, h4, h5⟩ := hP
  have hsl := st_lay (stRing h1) X dl
  refine g_aload_n d_Ps_remember_0 rfl ?_
  refine H_getR 60 d_Ps_remember_1 f_Ps_11.g rfl rfl (by decide) rfl ?_
  refine g_aload_n d_Ps_remember_4 rfl ?_
  refine H_getI d_Ps_remember_5 f_Ps_18.g rfl rfl (by decide) ?_
  refine T_int (nI (nx)) h3 ?_
  refine H_aaldN (v := 61 + 6 * nx) d_Ps_remember_8 (Or.inl ⟨rfl, rfl⟩) rfl rfl (by omega) (by decide) (fRing dr h1) ?_
  refine g_aload_n d_Ps_remember_9 rfl ?_
  refine C_V1 d_Ps_remember_10 k_Ps_22 hsl.1 (Nat.le_of_ble_eq_true rfl) (by decide) (Nat.le_of_ble_eq_true rfl) ?_
  refine c_St_copyFrom (stRing h1) st53 (by omega) hw hS (fun mI1 hS1 hF1 => ?_)
  refine g_aload_n d_Ps_remember_13 rfl ?_
  refine g_aload_n d_Ps_remember_14 rfl ?_
  refine H_getI d_Ps_remember_15 f_Ps_18.g rfl rfl (by decide) ?_
  refine T_int (nI (nx)) ((congrFun (hF1 59 (by omega)) 1).trans h3) ?_
  refine N_iconst d_Ps_remember_18 1 rfl ?_
  refine N_iadd d_Ps_remember_19 ?_
  refine N_bipush d_Ps_remember_20 8 rfl ?_
  refine N_irem d_Ps_remember_22 (by omega) (by omega) (by omega) ?_
  refine H_putI d_Ps_remember_23 f_Ps_18 rfl rfl (by decide) ?_
  refine g_aload_n d_Ps_remember_26 rfl ?_
  refine g_aload_n d_Ps_remember_27 rfl ?_
  refine H_getI d_Ps_remember_28 f_Ps_26.g rfl rfl (by decide) ?_
  refine T_int (nI (l.length)) (by rw [sI_n (by omega)]; exact (congrFun (hF1 59 (by omega)) 2).trans h4) ?_
  refine N_iconst d_Ps_remember_31 1 rfl ?_
  refine N_iadd d_Ps_remember_32 ?_
  refine N_bipush d_Ps_remember_33 8 rfl ?_
  refine P_mmin d_Ps_remember_35 z_Ps_29 (by decide) (Nat.le_of_ble_eq_true rfl) ?_
  rw [nI_min (by omega) (by omega)]
  refine H_putI d_Ps_remember_38 f_Ps_26 rfl rfl (by decide) ?_
  refine P_vret d_Ps_remember_41 rfl ?_
  refine k _ (PR_push h1 h2 h5 hS1 hF1 (fun r hr => by rw [sI_r hr, sI_r hr]) (by rw [sI_n (by omega)]; exact sI_s _ _ _ _) (sI_s _ _ _ _)) ?_
  exact Fx_sI (Fx_sI (fun r hr => hF1 r (by omega)) (by omega)) (by omega)

theorem c_Ps_restoreLatest {X : CX} {dl : List (Nat × Nat)} {mI : Nat → Nat → Int32} {dr : Nat → Nat → Nat} {Q : Option Value → AH → Prop} {T : TD} {σ : AS} {l : List AS} (hw : TW T) (hP : PR T (σ :: l) mI) (k : ∀ mI', PR T l mI' → SC 53 T σ mI' → Fx 53 108 mI mI' → Q none (hp X dl mI' dr)) : EW X m_Ps_restoreLatest 0 (enL m_Ps_restoreLatest.2.2.1 [.ref 59, .ref 53]) [] (hp X dl mI dr) Q := by
  show EW X m_Ps_restoreLatest 0 [.ref 59, .ref 53] [] (hp X dl mI dr) Q
  obtain ⟨nx, h1, h2, h3, h4, h5⟩ := hP
  have h2 : l.length + 1 ≤ 8 := h2
  have h4 : mI 59 2 = nI (l.length + 1) := h4
  have hj : (nx + 8 - 1) % 8 < 8 := Nat.mod_lt _ (by decide)
  have hsl := st_lay (stRing hj) X dl
  refine g_aload_n d_Ps_restoreLatest_0 rfl ?_
  refine H_getI d_Ps_restoreLatest_1 f_Ps_26.g rfl rfl (by decide) ?_
  refine T_int (nI (l.length + 1)) h4 ?_
  refine N_if_le d_Ps_restoreLatest_4 46 (by decide) (by omega) (fun c1 => ?_) (fun c1 => ?_)
  · omega
  · refine g_aload_n d_Ps_restoreLatest_7 rfl ?_
    refine g_aload_n d_Ps_restoreLatest_8 rfl ?_
    refine H_getI d_Ps_restoreLatest_9 f_Ps_18.g rfl rfl (by decide) ?_
    refine T_int (nI (nx)) h3 ?_
    refine N_bipush d_Ps_restoreLatest_12 8 rfl ?_
    refine N_iadd d_Ps_restoreLatest_14 ?_
    refine N_iconst d_Ps_restoreLatest_15 1 rfl ?_
    refine N_isub d_Ps_restoreLatest_16 (by omega) ?_
    refine N_bipush d_Ps_restoreLatest_17 8 rfl ?_
    refine N_irem d_Ps_restoreLatest_19 (by omega) (by omega) (by omega) ?_
    refine H_putI d_Ps_restoreLatest_20 f_Ps_18 rfl rfl (by decide) ?_
    refine g_aload_n d_Ps_restoreLatest_23 rfl ?_
    refine g_aload_n d_Ps_restoreLatest_24 rfl ?_
    refine H_getR 60 d_Ps_restoreLatest_25 f_Ps_11.g rfl rfl (by decide) rfl ?_
    refine g_aload_n d_Ps_restoreLatest_28 rfl ?_
    refine H_getI d_Ps_restoreLatest_29 f_Ps_18.g rfl rfl (by decide) ?_
    refine T_int (nI ((nx + 8 - 1) % 8)) (sI_s _ _ _ _) ?_
    refine H_aaldN (v := 61 + 6 * ((nx + 8 - 1) % 8)) d_Ps_restoreLatest_32 (Or.inl ⟨rfl, rfl⟩) rfl rfl (by omega) (by decide) (fRing dr hj) ?_
    refine C_V1 d_Ps_restoreLatest_33 k_Ps_22 rfl (Nat.le_of_ble_eq_true rfl) (by decide) (Nat.le_of_ble_eq_true rfl) ?_
    have hS0 : SC (61 + 6 * ((nx + 8 - 1) % 8)) T σ (sI mI 59 1 (nI ((nx + 8 - 1) % 8))) := by
      have := h5 0 σ rfl
      rw [show (nx + 7 - 0) % 8 = (nx + 8 - 1) % 8 by omega] at this
      exact SR.to this (fun r z1 z2 => sI_r (by omega))
    refine c_St_copyFrom st53 (stRing hj) (by omega) hw hS0 (fun mI1 hS1 hF1 => ?_)
    refine g_aload_n d_Ps_restoreLatest_36 rfl ?_
    refine P_dupA d_Ps_restoreLatest_37 ?_
    refine H_getI d_Ps_restoreLatest_38 f_Ps_26.g rfl rfl (by decide) ?_
    refine T_int (nI (l.length + 1)) ((congrFun (hF1 59 (by omega)) 2).trans (by rw [sI_n (by omega)]; exact h4)) ?_
    refine N_iconst d_Ps_restoreLatest_41 1 rfl ?_
    refine N_isub d_Ps_restoreLatest_42 (by omega) ?_
    refine H_putI d_Ps_restoreLatest_43 f_Ps_26 rfl rfl (by decide) ?_
    refine P_vret d_Ps_restoreLatest_46 rfl ?_
    refine k _ ⟨(nx + 8 - 1) % 8, hj, by omega, ?_, sI_s _ _ _ _, fun k τ hk => ?_⟩ (SR.to hS1 (fun r z1 z2 => sI_r (by omega))) ?_
    · rw [sI_n (by omega)]; exact (congrFun (hF1 59 (by omega)) 1).trans (sI_s _ _ _ _)
    · have hkl : k < l.length := (List.getElem?_eq_some_iff.mp hk).1
      have hh := h5 (k + 1) τ hk
      rw [show ((nx + 8 - 1) % 8 + 7 - k) % 8 = (nx + 7 - (k + 1)) % 8 by omega]
      exact SR.to hh (fun r z1 z2 => (sI_r (by omega)).trans ((hF1 r (by omega)).trans (sI_r (by omega))))
    · exact Fx_sI (Fx.tr (Fx_sI Fx.rf (by omega)) (fun r hr => hF1 r (by omega))) (by omega)

/-! FORETOLD -/
theorem SR.f115 {T : TD} {σ : AS} {K : Nat} {mI mI' : Nat → Nat → Int32} (h : SR 53 T σ K mI) (hF : Fx 111 120 mI mI') : SR 53 T σ K mI' := SR.to h (fun r z1 z2 => hF r (by omega))
theorem TR.f115 {T : TD} {mI mI' : Nat → Nat → Int32} (h : TR 33 T mI) (hF : Fx 111 120 mI mI') : TR 33 T mI' := h.to (fun r z1 z2 => hF r (by omega))
theorem Fa.f115 {mI mI' : Nat → Nat → Int32} (h : Fa 115 mI mI') : Fx 111 120 mI mI' := fun r hr => h r (by omega)
theorem hoI_m1 {c : Nat} (h : c ≤ 6) : hoI c = -1 ↔ c = 6 := by
  unfold hoI
  split
  · rename_i e; exact ⟨fun _ => e, fun _ => rfl⟩
  · rename_i e; exact ⟨fun z => absurd z (nI_nm1 (by omega)), fun z => absurd z e⟩
def uK (T : TD) (p : Nat) : Nat → Nat → AS → Nat
  | 0, _, _ => 0
  | d + 1, n, σ => if aH σ p = 6 then n + 1 else uK T p d (n + 1) (yrN T 1 σ)
def uF (T : TD) (m : Nat) : Nat → Nat → AS → Nat
  | 0, _, _ => 0
  | d + 1, n, σ => if aS σ m = 0 then 0 else if cntH (aH σ) m (tP T) = 0 then n + 1 else uF T m d (n + 1) (yrN T 1 σ)
theorem c_Fo_stateBehind {X : CX} {dl : List (Nat × Nat)} {mI : Nat → Nat → Int32} {dr : Nat → Nat → Nat} {Q : Option Value → AH → Prop} {T : TD} {σ : AS} (hw : TW T) (hT : TR 33 T mI) (hS : SC 53 T σ mI) (hW : SV T σ) {n : Nat} (hn : n < 2 ^ 31) (k : ∀ mI', SC 115 T (yrN T n σ) mI' → SV T (yrN T n σ) → Fx 111 120 mI mI' → Q (some (.ref 115)) (hp X dl mI' dr)) : EW X m_Fo_stateBehind 0 (enL m_Fo_stateBehind.2.2.1 [.ref 111, .ref 53, .int (nI n)]) [] (hp X dl mI dr) Q := by
  show EW X m_Fo_stateBehind 0 [.ref 111, .ref 53, .int (nI n)] [] (hp X dl mI dr) Q
  refine g_aload_n d_Fo_stateBehind_0 rfl ?_
  refine H_getR 115 d_Fo_stateBehind_1 f_Fo_30.g rfl rfl (by decide) rfl ?_
  refine g_aload_n d_Fo_stateBehind_4 rfl ?_
  refine C_V1 d_Fo_stateBehind_5 k_Fo_34 rfl (Nat.le_of_ble_eq_true rfl) (by decide) (Nat.le_of_ble_eq_true rfl) ?_
  refine c_St_copyFrom st115 st53 (by omega) hw hS (fun mI1 hS1 hF1 => ?_)
  have hT1 := hT.f115 hF1.f115
  refine g_aload_n d_Fo_stateBehind_8 rfl ?_
  refine H_getR 115 d_Fo_stateBehind_9 f_Fo_30.g rfl rfl (by decide) rfl ?_
  refine g_iload_n d_Fo_stateBehind_12 rfl ?_
  refine C_V1 d_Fo_stateBehind_13 k_Fo_38 rfl (Nat.le_of_ble_eq_true rfl) (by decide) (Nat.le_of_ble_eq_true rfl) ?_
  refine c_St_passYears st115 hw hT1 hS1 hW hn (fun mI2 hS2 hW2 hF2 => ?_)
  refine g_aload_n d_Fo_stateBehind_16 rfl ?_
  refine H_getR 115 d_Fo_stateBehind_17 f_Fo_30.g rfl rfl (by decide) rfl ?_
  refine P_aret d_Fo_stateBehind_20 rfl ?_
  exact k mI2 hS2 hW2 (hF1.f115.tr hF2.f115)

theorem lp_Fo_yearsUntilKept {X : CX} {dl : List (Nat × Nat)} {mI : Nat → Nat → Int32} {dr : Nat → Nat → Nat} {Q : Option Value → AH → Prop} {T : TD} {r p : Nat} (hw : TW T) (hT : TR 33 T mI) (hpP : p < tP T) (k : ∀ mI', Fx 111 120 mI mI' → Q (some (.int (hrI r))) (hp X dl mI' dr)) : ∀ (d : Nat) (n : Nat) (τ : AS) (mI2 : Nat → Nat → Int32), (n ≤ 61) → (SC 115 T τ mI2) → (SV T τ) → (Fx 111 120 mI mI2) → (r = uK T p (61 - n) n τ) → 61 - n = d → EW X m_Fo_yearsUntilKept 10 [.ref 111, .ref 53, .int (nI p), .int (nI n)] [] (hp X dl mI2 dr) Q := by
  intro d
  induction d using Nat.strongRecOn with
  | _ d ih =>
    intro n τ mI2 hn hS2 hW2 hF he hd
    have hT2 := hT.f115 hF
    have hw2 := hw.2.1
    refine g_iload_n d_Fo_yearsUntilKept_10 rfl ?_
    refine N_bipush d_Fo_yearsUntilKept_11 60 rfl ?_
    refine N_icmp_gt d_Fo_yearsUntilKept_13 45 (by decide) ⟨by omega, by omega⟩ (fun c1 => ?_) (fun c1 => ?_)
    · refine P_iconst d_Fo_yearsUntilKept_45 (-1) rfl ?_
      refine P_iret d_Fo_yearsUntilKept_46 rfl ?_
      rw [show 61 - n = 0 by omega, uK] at he
      rw [he] at k
      exact k _ hF
    · refine g_aload_n d_Fo_yearsUntilKept_16 rfl ?_
      refine H_getR 115 d_Fo_yearsUntilKept_17 f_Fo_30.g rfl rfl (by decide) rfl ?_
      refine H_getR 119 d_Fo_yearsUntilKept_20 f_Fo_42 rfl rfl (by decide) rfl ?_
      refine g_iload_n d_Fo_yearsUntilKept_23 rfl ?_
      refine H_ialdN d_Fo_yearsUntilKept_24 rfl rfl (by omega) (by decide) ?_
      refine T_int (hoI (aH τ p)) (hS2.2.2.2.1 p hpP).2.2 ?_
      obtain ⟨d2, hd2⟩ : ∃ d2, 61 - n = d2 + 1 := ⟨60 - n, by omega⟩
      rw [hd2, uK] at he
      refine P_iconst d_Fo_yearsUntilKept_25 (-1) rfl ?_
      refine P_icmp_ne d_Fo_yearsUntilKept_26 31 (by decide) (fun c2 => ?_) (fun c2 => ?_)
      · refine g_aload_n d_Fo_yearsUntilKept_31 rfl ?_
        refine H_getR 115 d_Fo_yearsUntilKept_32 f_Fo_30.g rfl rfl (by decide) rfl ?_
        refine N_iconst d_Fo_yearsUntilKept_35 1 rfl ?_
        refine C_V1 d_Fo_yearsUntilKept_36 k_Fo_38 rfl (Nat.le_of_ble_eq_true rfl) (by decide) (Nat.le_of_ble_eq_true rfl) ?_
        refine c_St_passYears (n := 1) st115 hw hT2 hS2 hW2 (by decide) (fun mI3 hS3 hW3 hF3 => ?_)
        refine N_iinc_4_3_1 d_Fo_yearsUntilKept_39 rfl rfl ?_
        refine P_goto d_Fo_yearsUntilKept_42 10 (by decide) ?_
        rw [if_neg (fun z => c2 ((hoI_m1 (hW2.2.1 p hpP).1).mpr z))] at he
        exact ih _ (by omega) (n + 1) _ _ (by omega) hS3 hW3 (hF.tr hF3.f115) (by rw [he, show 61 - (n + 1) = d2 by omega]) rfl
      · refine g_iload_n d_Fo_yearsUntilKept_29 rfl ?_
        refine P_iret d_Fo_yearsUntilKept_30 rfl ?_
        rw [if_pos ((hoI_m1 (hW2.2.1 p hpP).1).mp c2)] at he
        rw [he] at k
        exact k _ hF

theorem c_Fo_yearsUntilKept {X : CX} {dl : List (Nat × Nat)} {mI : Nat → Nat → Int32} {dr : Nat → Nat → Nat} {Q : Option Value → AH → Prop} {T : TD} {σ : AS} (hw : TW T) (hT : TR 33 T mI) (hS : SC 53 T σ mI) (hW : SV T σ) {p : Nat} (hpP : p < tP T) (k : ∀ mI', Fx 111 120 mI mI' → Q (some (.int (hrI (uK T p 61 0 σ)))) (hp X dl mI' dr)) : EW X m_Fo_yearsUntilKept 0 (enL m_Fo_yearsUntilKept.2.2.1 [.ref 111, .ref 53, .int (nI p)]) [] (hp X dl mI dr) Q := by
  show EW X m_Fo_yearsUntilKept 0 [.ref 111, .ref 53, .int (nI p), jk] [] (hp X dl mI dr) Q
  refine g_aload_n d_Fo_yearsUntilKept_0 rfl ?_
  refine H_getR 115 d_Fo_yearsUntilKept_1 f_Fo_30.g rfl rfl (by decide) rfl ?_
  refine g_aload_n d_Fo_yearsUntilKept_4 rfl ?_
  refine C_V1 d_Fo_yearsUntilKept_5 k_Fo_34 rfl (Nat.le_of_ble_eq_true rfl) (by decide) (Nat.le_of_ble_eq_true rfl) ?_
  refine c_St_copyFrom st115 st53 (by omega) hw hS (fun mI1 hS1 hF1 => ?_)
  have hT1 := hT.f115 hF1.f115
  refine N_iconst d_Fo_yearsUntilKept_8 0 rfl ?_
  refine S_istore_n_4_3 d_Fo_yearsUntilKept_9 rfl rfl ?_
  exact lp_Fo_yearsUntilKept hw hT hpP k _ 0 σ mI1 (by omega) hS1 hW hF1.f115 rfl rfl

theorem lp_Fo_yearsUntilFree {X : CX} {dl : List (Nat × Nat)} {mI : Nat → Nat → Int32} {dr : Nat → Nat → Nat} {Q : Option Value → AH → Prop} {T : TD} {r p : Nat} (hw : TW T) (hT : TR 33 T mI) (hpP : p < tn T) (k : ∀ mI', Fx 111 120 mI mI' → Q (some (.int (hrI r))) (hp X dl mI' dr)) : ∀ (d : Nat) (n : Nat) (τ : AS) (mI2 : Nat → Nat → Int32), (n ≤ 61) → (SC 115 T τ mI2) → (SV T τ) → (Fx 111 120 mI mI2) → (r = uF T p (61 - n) n τ) → 61 - n = d → EW X m_Fo_yearsUntilFree 10 [.ref 111, .ref 53, .int (nI p), .int (nI n)] [] (hp X dl mI2 dr) Q := by
  intro d
  induction d using Nat.strongRecOn with
  | _ d ih =>
    intro n τ mI2 hn hS2 hW2 hF he hd
    have hT2 := hT.f115 hF
    have hw1 := hw.1
    have hs60 := hW2.2.2 p hpP
    have hcn := cntH_le (aH τ) p (tP T)
    have hw2 := hw.2.1
    refine g_iload_n d_Fo_yearsUntilFree_10 rfl ?_
    refine N_bipush d_Fo_yearsUntilFree_11 60 rfl ?_
    refine N_icmp_gt d_Fo_yearsUntilFree_13 55 (by decide) ⟨by omega, by omega⟩ (fun c1 => ?_) (fun c1 => ?_)
    · refine P_iconst d_Fo_yearsUntilFree_55 (-1) rfl ?_
      refine P_iret d_Fo_yearsUntilFree_56 rfl ?_
      rw [show 61 - n = 0 by omega, uF] at he
      rw [he] at k
      exact k _ hF
    · refine g_aload_n d_Fo_yearsUntilFree_16 rfl ?_
      refine H_getR 115 d_Fo_yearsUntilFree_17 f_Fo_30.g rfl rfl (by decide) rfl ?_
      refine H_getR 116 d_Fo_yearsUntilFree_20 f_Fo_45 rfl rfl (by decide) rfl ?_
      refine g_iload_n d_Fo_yearsUntilFree_23 rfl ?_
      refine H_ialdN d_Fo_yearsUntilFree_24 rfl rfl (by omega) (by decide) ?_
      refine T_int (nI (aS τ p)) (hS2.2.2.1 p hpP) ?_
      obtain ⟨d2, hd2⟩ : ∃ d2, 61 - n = d2 + 1 := ⟨60 - n, by omega⟩
      rw [hd2, uF] at he
      refine N_if_le d_Fo_yearsUntilFree_25 55 (by decide) (by omega) (fun c2 => ?_) (fun c2 => ?_)
      · refine P_iconst d_Fo_yearsUntilFree_55 (-1) rfl ?_
        refine P_iret d_Fo_yearsUntilFree_56 rfl ?_
        rw [if_pos (by omega)] at he
        rw [he] at k
        exact k _ hF
      · refine g_aload_n d_Fo_yearsUntilFree_28 rfl ?_
        refine H_getR 115 d_Fo_yearsUntilFree_29 f_Fo_30.g rfl rfl (by decide) rfl ?_
        refine g_iload_n d_Fo_yearsUntilFree_32 rfl ?_
        refine C_V1 d_Fo_yearsUntilFree_33 k_Fo_48 rfl (Nat.le_of_ble_eq_true rfl) (by decide) (Nat.le_of_ble_eq_true rfl) ?_
        refine (c_St_howManyHeldBy st115 hw hT2 hS2 hW2 (by omega)) ?_
        refine N_if_ne d_Fo_yearsUntilFree_36 41 (by decide) (by omega) (fun c3 => ?_) (fun c3 => ?_)
        · refine g_aload_n d_Fo_yearsUntilFree_41 rfl ?_
          refine H_getR 115 d_Fo_yearsUntilFree_42 f_Fo_30.g rfl rfl (by decide) rfl ?_
          refine N_iconst d_Fo_yearsUntilFree_45 1 rfl ?_
          refine C_V1 d_Fo_yearsUntilFree_46 k_Fo_38 rfl (Nat.le_of_ble_eq_true rfl) (by decide) (Nat.le_of_ble_eq_true rfl) ?_
          refine c_St_passYears (n := 1) st115 hw hT2 hS2 hW2 (by decide) (fun mI3 hS3 hW3 hF3 => ?_)
          refine N_iinc_4_3_1 d_Fo_yearsUntilFree_49 rfl rfl ?_
          refine P_goto d_Fo_yearsUntilFree_52 10 (by decide) ?_
          rw [if_neg (by omega), if_neg c3] at he
          exact ih _ (by omega) (n + 1) _ _ (by omega) hS3 hW3 (hF.tr hF3.f115) (by rw [he, show 61 - (n + 1) = d2 by omega]) rfl
        · refine g_iload_n d_Fo_yearsUntilFree_39 rfl ?_
          refine P_iret d_Fo_yearsUntilFree_40 rfl ?_
          rw [if_neg (by omega), if_pos c3] at he
          rw [he] at k
          exact k _ hF

theorem c_Fo_yearsUntilFree {X : CX} {dl : List (Nat × Nat)} {mI : Nat → Nat → Int32} {dr : Nat → Nat → Nat} {Q : Option Value → AH → Prop} {T : TD} {σ : AS} (hw : TW T) (hT : TR 33 T mI) (hS : SC 53 T σ mI) (hW : SV T σ) {p : Nat} (hpP : p < tn T) (k : ∀ mI', Fx 111 120 mI mI' → Q (some (.int (hrI (uF T p 61 0 σ)))) (hp X dl mI' dr)) : EW X m_Fo_yearsUntilFree 0 (enL m_Fo_yearsUntilFree.2.2.1 [.ref 111, .ref 53, .int (nI p)]) [] (hp X dl mI dr) Q := by
  show EW X m_Fo_yearsUntilFree 0 [.ref 111, .ref 53, .int (nI p), jk] [] (hp X dl mI dr) Q
  refine g_aload_n d_Fo_yearsUntilFree_0 rfl ?_
  refine H_getR 115 d_Fo_yearsUntilFree_1 f_Fo_30.g rfl rfl (by decide) rfl ?_
  refine g_aload_n d_Fo_yearsUntilFree_4 rfl ?_
  refine C_V1 d_Fo_yearsUntilFree_5 k_Fo_34 rfl (Nat.le_of_ble_eq_true rfl) (by decide) (Nat.le_of_ble_eq_true rfl) ?_
  refine c_St_copyFrom st115 st53 (by omega) hw hS (fun mI1 hS1 hF1 => ?_)
  have hT1 := hT.f115 hF1.f115
  refine N_iconst d_Fo_yearsUntilFree_8 0 rfl ?_
  refine S_istore_n_4_3 d_Fo_yearsUntilFree_9 rfl rfl ?_
  exact lp_Fo_yearsUntilFree hw hT hpP k _ 0 σ mI1 (by omega) hS1 hW hF1.f115 rfl rfl

