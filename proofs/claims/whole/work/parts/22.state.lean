/-- a state in the midst of dying: one whose span is over may still hold something -/
def SV (T : TD) (σ : AS) : Prop := ((aR σ).length = tP T ∧ (aR σ).Nodup ∧ ∀ p ∈ aR σ, p < tP T) ∧
  (∀ p, p < tP T → aH σ p ≤ 6 ∧ (aH σ p < 5 → aH σ p < tn T) ∧ aD σ p ≤ aW σ p ∧ aW σ p ≤ 40) ∧ ∀ i, i < tn T → aS σ i ≤ 60
theorem SW.v {T : TD} {σ : AS} (h : SW T σ) : SV T σ := ⟨h.1, fun p hp => ⟨(h.2.1 p hp).1, fun z => ((h.2.1 p hp).2.1 z).1, (h.2.1 p hp).2.2⟩, h.2.2⟩
theorem p2_lt {p : Nat} (h : p < 32) : 1 * 2 ^ p < 2 ^ 32 := by rw [Nat.one_mul]; exact Nat.pow_lt_pow_right (by decide) h
theorem p2_31 {p q : Nat} (h : q < 2 ^ p) (hp : p ≤ 10) : q < 2 ^ 31 := Nat.lt_of_lt_of_le h (Nat.pow_le_pow_right (by decide) (by omega))
theorem tnd_lt {T : TD} (hw : TW T) {p : Nat} (hpP : p < tP T) : tnd T p < 2 ^ 31 := p2_31 (hw.2.2.2 p hpP).2.2.2.1 (by have := hw.2.1; omega)
/-- who is left what m holds -/
def toN (T : TD) (σ : AS) (m : Nat) : Nat := match thr T m with
  | 0 => 5
  | j + 1 => if 0 < aS σ j then j else 5
theorem c_St_isOpen {X : CX} {dl : List (Nat × Nat)} {mI : Nat → Nat → Int32} {dr : Nat → Nat → Nat} {Q : Option Value → AH → Prop} {a : Nat} {T : TD} {p K : Nat} (ha : StA a) (hw : TW T) (hT : TR 33 T mI) (hpP : p < tP T) (hK : K < 2 ^ 31) (k : Q (some (.int (bI (opn T K p)))) (hp X dl mI dr)) : EW X m_St_isOpen 0 (enL m_St_isOpen.2.2.1 [.ref a, .int (nI p), .int (nI K)]) [] (hp X dl mI dr) Q := by
  show EW X m_St_isOpen 0 [.ref a, .int (nI p), .int (nI K)] [] (hp X dl mI dr) Q
  have hsl := st_lay ha X dl
  have hsr := st_ref ha dr
  have hw1 := hw.1
  have hw2 := hw.2.1
  refine g_iload_n d_St_isOpen_0 rfl ?_
  refine g_iload_n d_St_isOpen_1 rfl ?_
  refine N_ishr d_St_isOpen_2 (by omega) (by omega) ?_
  refine N_iconst d_St_isOpen_3 1 rfl ?_
  refine N_iand d_St_isOpen_4 ?_
  refine T_int (nI (K / 2 ^ p % 2)) (by rw [and1]) ?_
  refine N_if_ne d_St_isOpen_5 43 (by decide) (by omega) (fun c1 => ?_) (fun c1 => ?_)
  · refine N_iconst d_St_isOpen_43 0 rfl ?_
    refine P_zret d_St_isOpen_44 rfl (by decide) ?_
    have g1 := tb_iff K p
    have g3 := not_bits (tnd T p) K (tnd_lt hw hpP) hK
    refine R_i k ?_
    first | exact bI_t' ⟨by rw [← Bool.not_eq_true, g1]; omega, by assumption, g3.mp (by assumption)⟩ | exact bI_f' (fun z => by have z1 := z.1; rw [← Bool.not_eq_true, g1] at z1; omega) | exact bI_f' (fun z => absurd z.2.1 (by assumption)) | exact bI_f' (fun z => absurd (g3.mpr z.2.2) (by assumption))
  · refine g_aload_n d_St_isOpen_8 rfl ?_
    refine H_getR 33 d_St_isOpen_9 f_St_27.g rfl hsl.1 (by decide) hsr.1 ?_
    refine H_getR 37 d_St_isOpen_12 f_St_49 rfl rfl (by decide) rfl ?_
    refine g_iload_n d_St_isOpen_15 rfl ?_
    refine H_ialdN d_St_isOpen_16 rfl rfl (by omega) (by decide) ?_
    refine T_int (nI (tkd T p)) (hT.2.2.2 p hpP).1 ?_
    refine C_S1 d_St_isOpen_17 k_St_52 (Nat.le_of_ble_eq_true rfl) (by decide) (Nat.le_of_ble_eq_true rfl) ?_
    refine (c_Kd_canBeWorkedAt (hw.2.2.2 p hpP).1) ?_
    refine B_eq d_St_isOpen_20 43 (by decide) (fun c2 => ?_) (fun c2 => ?_)
    · refine N_iconst d_St_isOpen_43 0 rfl ?_
      refine P_zret d_St_isOpen_44 rfl (by decide) ?_
      have g1 := tb_iff K p
      have g3 := not_bits (tnd T p) K (tnd_lt hw hpP) hK
      refine R_i k ?_
      first | exact bI_t' ⟨by rw [← Bool.not_eq_true, g1]; omega, by assumption, g3.mp (by assumption)⟩ | exact bI_f' (fun z => by have z1 := z.1; rw [← Bool.not_eq_true, g1] at z1; omega) | exact bI_f' (fun z => absurd z.2.1 (by assumption)) | exact bI_f' (fun z => absurd (g3.mpr z.2.2) (by assumption))
    · refine g_aload_n d_St_isOpen_23 rfl ?_
      refine H_getR 33 d_St_isOpen_24 f_St_27.g rfl hsl.1 (by decide) hsr.1 ?_
      refine H_getR 39 d_St_isOpen_27 f_St_58 rfl rfl (by decide) rfl ?_
      refine g_iload_n d_St_isOpen_30 rfl ?_
      refine H_ialdN d_St_isOpen_31 rfl rfl (by omega) (by decide) ?_
      refine T_int (nI (tnd T p)) (hT.2.2.2 p hpP).2.2.1 ?_
      refine g_iload_n d_St_isOpen_32 rfl ?_
      refine P_iconst d_St_isOpen_33 (-1) rfl ?_
      refine P_ixor d_St_isOpen_34 ?_
      refine P_iand d_St_isOpen_35 ?_
      refine P_if_ne d_St_isOpen_36 43 (by decide) (fun c3 => ?_) (fun c3 => ?_)
      · refine N_iconst d_St_isOpen_43 0 rfl ?_
        refine P_zret d_St_isOpen_44 rfl (by decide) ?_
        have g1 := tb_iff K p
        have g3 := not_bits (tnd T p) K (tnd_lt hw hpP) hK
        refine R_i k ?_
        first | exact bI_t' ⟨by rw [← Bool.not_eq_true, g1]; omega, by assumption, g3.mp (by assumption)⟩ | exact bI_f' (fun z => by have z1 := z.1; rw [← Bool.not_eq_true, g1] at z1; omega) | exact bI_f' (fun z => absurd z.2.1 (by assumption)) | exact bI_f' (fun z => absurd (g3.mpr z.2.2) (by assumption))
      · refine N_iconst d_St_isOpen_39 1 rfl ?_
        refine P_goto d_St_isOpen_40 44 (by decide) ?_
        refine P_zret d_St_isOpen_44 rfl (by decide) ?_
        have g1 := tb_iff K p
        have g3 := not_bits (tnd T p) K (tnd_lt hw hpP) hK
        refine R_i k ?_
        first | exact bI_t' ⟨by rw [← Bool.not_eq_true, g1]; omega, by assumption, g3.mp (by assumption)⟩ | exact bI_f' (fun z => by have z1 := z.1; rw [← Bool.not_eq_true, g1] at z1; omega) | exact bI_f' (fun z => absurd z.2.1 (by assumption)) | exact bI_f' (fun z => absurd (g3.mpr z.2.2) (by assumption))

theorem c_St_markKept {X : CX} {dl : List (Nat × Nat)} {mI : Nat → Nat → Int32} {dr : Nat → Nat → Nat} {Q : Option Value → AH → Prop} {a : Nat} {T : TD} {σ : AS} {K : Nat} {p : Nat} (ha : StA a) (hw : TW T) (hT : TR 33 T mI) (hS : SR a T σ K mI) (hpP : p < tP T) (k : ∀ mI', SR a T (uH σ p 6) (K ||| 2 ^ p) mI' → Fa a mI mI' → Q none (hp X dl mI' dr)) : EW X m_St_markKept 0 (enL m_St_markKept.2.2.1 [.ref a, .int (nI p)]) [] (hp X dl mI dr) Q := by
  show EW X m_St_markKept 0 [.ref a, .int (nI p)] [] (hp X dl mI dr) Q
  have hsl := st_lay ha X dl
  have hsr := st_ref ha dr
  have hw1 := hw.1
  have hw2 := hw.2.1
  refine g_aload_n d_St_markKept_0 rfl ?_
  refine H_getR (a + 4) d_St_markKept_1 f_St_21.g rfl hsl.1 (by decide) hsr.2.2.2.2.1 ?_
  refine g_iload_n d_St_markKept_4 rfl ?_
  refine P_iconst d_St_markKept_5 (-1) rfl ?_
  refine H_iastN d_St_markKept_6 hsl.2.2.2.2.1 rfl (by omega) (by decide) ?_
  refine g_aload_n d_St_markKept_7 rfl ?_
  refine P_dupA d_St_markKept_8 ?_
  refine H_getI d_St_markKept_9 f_St_46.g rfl hsl.1 (by decide) ?_
  refine T_int (nI (K)) (by rw [sI_r (by omega)]; exact hS.2.1) ?_
  refine N_iconst d_St_markKept_12 1 rfl ?_
  refine g_iload_n d_St_markKept_13 rfl ?_
  refine N_ishl d_St_markKept_14 (by omega) (p2_lt (by omega)) ?_
  refine N_ior d_St_markKept_15 ?_
  refine H_putI d_St_markKept_16 f_St_46 rfl hsl.1 (by decide) ?_
  refine P_vret d_St_markKept_19 rfl ?_
  refine k _ ?_ (Fa_sI (Fa_sI Fa.rf (by omega)) (by omega))
  have := (hS.H p 6).kk (K ||| 2 ^ p)
  rw [Nat.one_mul]
  exact this

theorem nI_nm1 {j : Nat} (h : j < 2 ^ 31) : ¬ nI j = -1 := fun z => by
  have := nI_toInt h
  rw [z] at this
  have e : (-1 : Int32).toInt = -1 := rfl
  omega
theorem c_St_whoInherits {X : CX} {dl : List (Nat × Nat)} {mI : Nat → Nat → Int32} {dr : Nat → Nat → Nat} {Q : Option Value → AH → Prop} {a : Nat} {T : TD} {σ : AS} {K : Nat} {m : Nat} (ha : StA a) (hw : TW T) (hT : TR 33 T mI) (hS : SR a T σ K mI) (hW : SV T σ) (hm : m < tn T) (k : Q (some (.int (nI (toN T σ m)))) (hp X dl mI dr)) : EW X m_St_whoInherits 0 (enL m_St_whoInherits.2.2.1 [.ref a, .int (nI m)]) [] (hp X dl mI dr) Q := by
  show EW X m_St_whoInherits 0 [.ref a, .int (nI m), jk] [] (hp X dl mI dr) Q
  have hsl := st_lay ha X dl
  have hsr := st_ref ha dr
  have hw1 := hw.1
  have hw2 := hw.2.1
  refine g_aload_n d_St_whoInherits_0 rfl ?_
  refine H_getR 33 d_St_whoInherits_1 f_St_27.g rfl hsl.1 (by decide) hsr.1 ?_
  refine H_getR 36 d_St_whoInherits_4 f_St_109 rfl rfl (by decide) rfl ?_
  refine g_iload_n d_St_whoInherits_7 rfl ?_
  refine H_ialdN d_St_whoInherits_8 rfl rfl (by omega) (by decide) ?_
  refine T_int (hrI (thr T m)) (hT.2.2.1 m hm).2.2 ?_
  refine S_istore_n_3_2 d_St_whoInherits_9 rfl rfl ?_
  have hj5 := (hw.2.2.1 m hm).2.2.2.2
  rcases hc : thr T m with _ | j
  · show EW X _ 10 [.ref a, .int (nI m), .int (-1)] [] _ Q
    refine g_iload_n d_St_whoInherits_10 rfl ?_
    refine P_iconst d_St_whoInherits_11 (-1) rfl ?_
    refine P_icmp_eq d_St_whoInherits_12 28 (by decide) (fun c1 => ?_) (fun c1 => ?_)
    · refine N_iconst d_St_whoInherits_28 5 rfl ?_
      refine P_iret d_St_whoInherits_29 rfl ?_
      exact R_i k (congrArg nI (by simp [toN, hc]))
    · exact absurd rfl c1
  · rw [hc] at hj5
    show EW X _ 10 [.ref a, .int (nI m), .int (nI j)] [] _ Q
    refine g_iload_n d_St_whoInherits_10 rfl ?_
    refine P_iconst d_St_whoInherits_11 (-1) rfl ?_
    refine P_icmp_eq d_St_whoInherits_12 28 (by decide) (fun c1 => ?_) (fun c1 => ?_)
    · exact absurd c1 (nI_nm1 (by omega))
    · refine g_aload_n d_St_whoInherits_15 rfl ?_
      refine H_getR (a + 1) d_St_whoInherits_16 f_St_9.g rfl hsl.1 (by decide) hsr.2.1 ?_
      refine g_iload_n d_St_whoInherits_19 rfl ?_
      refine H_ialdN d_St_whoInherits_20 hsl.2.1 rfl (by omega) (by decide) ?_
      refine T_int (nI (aS σ j)) (hS.2.2.1 j (by omega)) ?_
      refine N_if_le d_St_whoInherits_21 28 (by decide) (by have := hW.2.2 j (by omega); omega) (fun c2 => ?_) (fun c2 => ?_)
      · refine N_iconst d_St_whoInherits_28 5 rfl ?_
        refine P_iret d_St_whoInherits_29 rfl ?_
        exact R_i k (congrArg nI (by simp only [toN, hc]; first | rw [if_pos (by omega)] | rw [if_neg (by omega)]))
      · refine g_iload_n d_St_whoInherits_24 rfl ?_
        refine P_goto d_St_whoInherits_25 29 (by decide) ?_
        refine P_iret d_St_whoInherits_29 rfl ?_
        exact R_i k (congrArg nI (by simp only [toN, hc]; first | rw [if_pos (by omega)] | rw [if_neg (by omega)]))

theorem doesN_le {k s : Nat} (hs : s < 10) : doesN k s ≤ 18 := by unfold doesN; split <;> (try split) <;> (try split) <;> omega
/-- one works at p with strength s -/
def wkAt (T : TD) (σ : AS) (p s : Nat) : AS := if aW σ p ≤ aD σ p + doesN (tkd T p) s then uH (uD σ p (aW σ p)) p 6 else uD σ p (aD σ p + doesN (tkd T p) s)
theorem uD_uD (σ : AS) (p v w : Nat) : uD (uD σ p v) p w = uD σ p w := by
  unfold uD
  simp only [aD]
  congr 4
  funext q
  simp only [va_up]
  split <;> rfl
theorem kB_up (H : Nat → Nat) (P q : Nat) (hq : q < P) : kB (va_up H q 6) P = kB H P ||| 2 ^ q := kB_set H P q hq
theorem c_St_workAt {X : CX} {dl : List (Nat × Nat)} {mI : Nat → Nat → Int32} {dr : Nat → Nat → Nat} {Q : Option Value → AH → Prop} {a : Nat} {T : TD} {σ : AS} {p s : Nat} (ha : StA a) (hw : TW T) (hT : TR 33 T mI) (hS : SC a T σ mI) (hW : SV T σ) (hpP : p < tP T) (hs : s < 10) (k : ∀ mI', SC a T (wkAt T σ p s) mI' → Fa a mI mI' → Q none (hp X dl mI' dr)) : EW X m_St_workAt 0 (enL m_St_workAt.2.2.1 [.ref a, .int (nI p), .int (nI s)]) [] (hp X dl mI dr) Q := by
  show EW X m_St_workAt 0 [.ref a, .int (nI p), .int (nI s)] [] (hp X dl mI dr) Q
  have hsl := st_lay ha X dl
  have hsr := st_ref ha dr
  have hw1 := hw.1
  have hw2 := hw.2.1
  have hz := doesN_le (k := tkd T p) hs
  have hW1 := hW.2.1 p hpP
  refine g_aload_n d_St_workAt_0 rfl ?_
  refine H_getR (a + 3) d_St_workAt_1 f_St_18.g rfl hsl.1 (by decide) hsr.2.2.2.1 ?_
  refine g_iload_n d_St_workAt_4 rfl ?_
  refine P_dup2 d_St_workAt_5 ?_
  refine H_ialdN d_St_workAt_6 hsl.2.2.2.1 rfl (by omega) (by decide) ?_
  refine T_int (nI (aD σ p)) (hS.2.2.2.1 p hpP).2.1 ?_
  refine g_aload_n d_St_workAt_7 rfl ?_
  refine H_getR 33 d_St_workAt_8 f_St_27.g rfl hsl.1 (by decide) hsr.1 ?_
  refine H_getR 37 d_St_workAt_11 f_St_49 rfl rfl (by decide) rfl ?_
  refine g_iload_n d_St_workAt_14 rfl ?_
  refine H_ialdN d_St_workAt_15 rfl rfl (by omega) (by decide) ?_
  refine T_int (nI (tkd T p)) (hT.2.2.2 p hpP).1 ?_
  refine g_iload_n d_St_workAt_16 rfl ?_
  refine C_S2 d_St_workAt_17 k_St_85 (Nat.le_of_ble_eq_true rfl) (by decide) (Nat.le_of_ble_eq_true rfl) ?_
  refine (c_Kd_does (hw.2.2.2 p hpP).1 hs) ?_
  refine N_iadd d_St_workAt_20 ?_
  refine H_iastN d_St_workAt_21 hsl.2.2.2.1 rfl (by omega) (by decide) ?_
  refine g_aload_n d_St_workAt_22 rfl ?_
  refine H_getR (a + 3) d_St_workAt_23 f_St_18.g rfl hsl.1 (by decide) hsr.2.2.2.1 ?_
  refine g_iload_n d_St_workAt_26 rfl ?_
  refine H_ialdN d_St_workAt_27 hsl.2.2.2.1 rfl (by omega) (by decide) ?_
  refine T_int (nI (aD σ p + doesN (tkd T p) s)) (sI_s _ _ _ _) ?_
  refine g_aload_n d_St_workAt_28 rfl ?_
  refine H_getR (a + 2) d_St_workAt_29 f_St_15.g rfl hsl.1 (by decide) hsr.2.2.1 ?_
  refine g_iload_n d_St_workAt_32 rfl ?_
  refine H_ialdN d_St_workAt_33 hsl.2.2.1 rfl (by omega) (by decide) ?_
  refine T_int (nI (aW σ p)) (by rw [sI_r (by omega)]; exact (hS.2.2.2.1 p hpP).1) ?_
  refine N_icmp_lt d_St_workAt_34 54 (by decide) ⟨by omega, by omega⟩ (fun c1 => ?_) (fun c1 => ?_)
  · refine P_vret d_St_workAt_54 rfl (k _ ?_ (Fa_sI Fa.rf (by omega)))
    unfold wkAt
    rw [if_neg (by omega)]
    exact hS.D p _
  · refine g_aload_n d_St_workAt_37 rfl ?_
    refine H_getR (a + 3) d_St_workAt_38 f_St_18.g rfl hsl.1 (by decide) hsr.2.2.2.1 ?_
    refine g_iload_n d_St_workAt_41 rfl ?_
    refine g_aload_n d_St_workAt_42 rfl ?_
    refine H_getR (a + 2) d_St_workAt_43 f_St_15.g rfl hsl.1 (by decide) hsr.2.2.1 ?_
    refine g_iload_n d_St_workAt_46 rfl ?_
    refine H_ialdN d_St_workAt_47 hsl.2.2.1 rfl (by omega) (by decide) ?_
    refine T_int (nI (aW σ p)) (by rw [sI_r (by omega)]; exact (hS.2.2.2.1 p hpP).1) ?_
    refine H_iastN d_St_workAt_48 hsl.2.2.2.1 rfl (by omega) (by decide) ?_
    refine g_aload_n d_St_workAt_49 rfl ?_
    refine g_iload_n d_St_workAt_50 rfl ?_
    refine C_V1 d_St_workAt_51 k_St_89 hsl.1 (Nat.le_of_ble_eq_true rfl) (by decide) (Nat.le_of_ble_eq_true rfl) ?_
    have hS2 := (hS.D p (aD σ p + doesN (tkd T p) s)).D p (aW σ p)
    rw [uD_uD] at hS2
    have hF2 : Fa a mI (sI (sI mI (a + 3) p (nI (aD σ p + doesN (tkd T p) s))) (a + 3) p (nI (aW σ p))) := Fa_sI (Fa_sI Fa.rf (show a ≤ a + 3 ∧ a + 3 ≤ a + 5 by omega)) (show a ≤ a + 3 ∧ a + 3 ≤ a + 5 by omega)
    refine c_St_markKept ha hw (hT.fa ha hF2) hS2 hpP (fun mI2 hS3 hF3 => ?_)
    refine P_vret d_St_workAt_54 rfl ?_
    refine k mI2 ?_ (hF2.tr hF3)
    unfold wkAt
    rw [if_pos (by omega)]
    have e : kB (aH (uH (uD σ p (aW σ p)) p 6)) (tP T) = kB (aH σ) (tP T) ||| 2 ^ p := kB_up _ _ _ hpP
    unfold SC
    rw [e]
    exact hS3

theorem SV_wkAt {T : TD} {σ : AS} (hW : SV T σ) (p s : Nat) : SV T (wkAt T σ p s) := by
  unfold wkAt
  split
  · rename_i hc
    refine ⟨hW.1, fun q hq => ?_, hW.2.2⟩
    have h1 := hW.2.1 q hq
    show va_up (aH σ) p 6 q ≤ 6 ∧ (va_up (aH σ) p 6 q < 5 → va_up (aH σ) p 6 q < tn T) ∧ va_up (aD σ) p (aW σ p) q ≤ aW σ q ∧ aW σ q ≤ 40
    by_cases hqp : q = p
    · subst hqp
      simp only [va_up_s]
      exact ⟨by omega, fun z => by omega, by omega, h1.2.2.2⟩
    · simp only [va_up_n _ _ hqp]
      exact h1
  · rename_i hc
    refine ⟨hW.1, fun q hq => ?_, hW.2.2⟩
    have h1 := hW.2.1 q hq
    show aH σ q ≤ 6 ∧ (aH σ q < 5 → aH σ q < tn T) ∧ va_up (aD σ) p (aD σ p + doesN (tkd T p) s) q ≤ aW σ q ∧ aW σ q ≤ 40
    by_cases hqp : q = p
    · subst hqp
      simp only [va_up_s]
      exact ⟨h1.1, h1.2.1, by omega, h1.2.2.2⟩
    · simp only [va_up_n _ _ hqp]
      exact h1
theorem wkAt_R (T : TD) (σ : AS) (p s : Nat) : aR (wkAt T σ p s) = aR σ := by unfold wkAt; split <;> rfl
/-- a year's work: by the row, each at most once -/
def wkStep (T : TD) (K0 : Nat) (q : AS × Nat) (p : Nat) : AS × Nat := if aH q.1 p < 5 ∧ q.2.testBit (aH q.1 p) = false ∧ opn T K0 p then (wkAt T q.1 p (tst T (aH q.1 p)), q.2 ||| 2 ^ aH q.1 p) else q
def wkAll (T : TD) (σ : AS) : AS := ((aR σ).foldl (wkStep T (kB (aH σ) (tP T))) (σ, 0)).1
theorem take_s {l : List Nat} {i : Nat} (h : i < l.length) : l.take (i + 1) = l.take i ++ [l.getD i 0] := by
  rw [List.getD_eq_getElem?_getD, List.take_add_one]
  simp [List.getElem?_eq_getElem h]
theorem getD_mem {l : List Nat} {i : Nat} (h : i < l.length) : l.getD i 0 ∈ l := by
  rw [List.getD_eq_getElem?_getD, List.getElem?_eq_getElem h]
  exact List.getElem_mem h
theorem hoI_5 {c : Nat} (h : c < 6) : hoI c = nI c := by unfold hoI; rw [if_neg (by omega)]
theorem ho_in {c : Nat} (hc : c ≤ 6) : (nI 0 ≤ hoI c ∧ hoI c ≤ nI 4) ↔ c < 5 := by
  rcases (show c = 0 ∨ c = 1 ∨ c = 2 ∨ c = 3 ∨ c = 4 ∨ c = 5 ∨ c = 6 by omega) with rfl | rfl | rfl | rfl | rfl | rfl | rfl <;> decide
theorem lp_St_workAll {X : CX} {dl : List (Nat × Nat)} {mI : Nat → Nat → Int32} {dr : Nat → Nat → Nat} {Q : Option Value → AH → Prop} {a : Nat} {T : TD} {σ : AS} (ha : StA a) (hw : TW T) (hT : TR 33 T mI) (hR : (aR σ).length = tP T ∧ (∀ p ∈ aR σ, p < tP T)) (k : ∀ mI', SC a T (wkAll T σ) mI' → SV T (wkAll T σ) → Fa a mI mI' → Q none (hp X dl mI' dr)) : ∀ (d : Nat) (i : Nat) (q : AS × Nat) (mI2 : Nat → Nat → Int32) (v4 : Value) (v5 : Value), (i ≤ tP T) → (q = ((aR σ).take i).foldl (wkStep T (kB (aH σ) (tP T))) (σ, 0)) → (SC a T q.1 mI2) → (SV T q.1) → (aR q.1 = aR σ) → (q.2 < 32) → (Fa a mI mI2) → tP T - i = d → EW X m_St_workAll 9 [.ref a, .int (nI (kB (aH σ) (tP T))), .int (nI q.2), .int (nI i), v4, v5] [] (hp X dl mI2 dr) Q := by
  intro d
  induction d using Nat.strongRecOn with
  | _ d ih =>
    intro i q mI2 v4 v5 hi hq hS hW hRR hB hF hd
    have hsl := st_lay ha X dl
    have hsr := st_ref ha dr
    have hw1 := hw.1
    have hw2 := hw.2.1
    have hT2 := hT.fa ha hF
    refine g_iload_n d_St_workAll_9 rfl ?_
    refine g_aload_n d_St_workAll_10 rfl ?_
    refine H_getR 33 d_St_workAll_11 f_St_27.g rfl hsl.1 (by decide) hsr.1 ?_
    refine H_getI d_St_workAll_14 f_St_67.g rfl rfl (by decide) ?_
    refine T_int (nI (tP T)) hT2.2.1 ?_
    refine N_icmp_ge d_St_workAll_17 95 (by decide) ⟨by omega, by omega⟩ (fun c1 => ?_) (fun c1 => ?_)
    · refine P_vret d_St_workAll_95 rfl ?_
      have e : i = (aR σ).length := by omega
      rw [e, List.take_length] at hq
      have e2 : q.1 = wkAll T σ := by rw [hq]; rfl
      rw [e2] at hS hW
      exact k mI2 hS hW hF
    · obtain ⟨p, hpd⟩ : ∃ p, p = (aR σ).getD i 0 := ⟨_, rfl⟩
      have hpP : p < tP T := by rw [hpd]; exact hR.2 _ (getD_mem (by omega))
      have hW1 := hW.2.1 p hpP
      have hts : (aR σ).take (i + 1) = (aR σ).take i ++ [p] := by rw [hpd]; exact take_s (by omega)
      have hfold : ∀ q', wkStep T (kB (aH σ) (tP T)) q p = q' → q' = ((aR σ).take (i + 1)).foldl (wkStep T (kB (aH σ) (tP T))) (σ, 0) := fun q' e => by rw [hts, List.foldl_append, ← hq, ← e]; rfl
      refine g_aload_n d_St_workAll_20 rfl ?_
      refine H_getR (a + 5) d_St_workAll_21 f_St_24.g rfl hsl.1 (by decide) hsr.2.2.2.2.2 ?_
      refine g_iload_n d_St_workAll_24 rfl ?_
      refine H_ialdN d_St_workAll_25 hsl.2.2.2.2.2 rfl (by omega) (by decide) ?_
      refine T_int (nI (p)) (by rw [hpd, ← hRR]; exact hS.2.2.2.2 i (by omega)) ?_
      refine S_istore_6_4 d_St_workAll_26 rfl rfl ?_
      refine g_aload_n d_St_workAll_28 rfl ?_
      refine H_getR (a + 4) d_St_workAll_29 f_St_21.g rfl hsl.1 (by decide) hsr.2.2.2.2.1 ?_
      refine g_iload d_St_workAll_32 rfl ?_
      refine H_ialdN d_St_workAll_34 hsl.2.2.2.2.1 rfl (by omega) (by decide) ?_
      refine T_int (hoI (aH q.1 p)) (hS.2.2.2.1 p hpP).2.2 ?_
      refine S_istore_6_5 d_St_workAll_35 rfl rfl ?_
      refine g_iload d_St_workAll_37 rfl ?_
      refine N_iconst d_St_workAll_39 0 rfl ?_
      refine N_iconst d_St_workAll_40 4 rfl ?_
      refine C_S3 d_St_workAll_41 k_St_70 (Nat.le_of_ble_eq_true rfl) (by decide) (Nat.le_of_ble_eq_true rfl) ?_
      refine c_Pn_isWithin ?_
      refine B_eq d_St_workAll_44 89 (by decide) (fun c2 => ?_) (fun c2 => ?_)
      · rw [ho_in hW1.1] at c2
        refine N_iinc_6_3_1 d_St_workAll_89 rfl rfl ?_
        refine P_goto d_St_workAll_92 9 (by decide) ?_
        exact ih _ (by omega) (i + 1) q mI2 _ _ (by omega) (hfold q (by unfold wkStep; rw [if_neg (fun z => c2 z.1)])) hS hW hRR hB hF rfl
      · rw [ho_in hW1.1] at c2
        have hm := hW1.2.1 c2
        rw [hoI_5 (by omega)]
        have hst := hw.2.2.1 _ hm
        refine g_iload_n d_St_workAll_47 rfl ?_
        refine g_iload d_St_workAll_48 rfl ?_
        refine N_ishr d_St_workAll_50 (by omega) (by omega) ?_
        refine N_iconst d_St_workAll_51 1 rfl ?_
        refine N_iand d_St_workAll_52 ?_
        refine T_int (nI (q.2 / 2 ^ aH q.1 p % 2)) (by rw [and1]) ?_
        refine N_if_ne d_St_workAll_53 89 (by decide) (by omega) (fun c3 => ?_) (fun c3 => ?_)
        · refine N_iinc_6_3_1 d_St_workAll_89 rfl rfl ?_
          refine P_goto d_St_workAll_92 9 (by decide) ?_
          exact ih _ (by omega) (i + 1) q mI2 _ _ (by omega) (hfold q (by unfold wkStep; rw [if_neg (fun z => c3 (by have z1 := z.2.1; rw [← Bool.not_eq_true, tb_iff] at z1; omega))])) hS hW hRR hB hF rfl
        · refine g_aload_n d_St_workAll_56 rfl ?_
          refine g_iload d_St_workAll_57 rfl ?_
          refine g_iload_n d_St_workAll_59 rfl ?_
          refine C_V2 d_St_workAll_60 k_St_74 hsl.1 (Nat.le_of_ble_eq_true rfl) (by decide) (Nat.le_of_ble_eq_true rfl) ?_
          refine (c_St_isOpen ha hw hT2 hpP (Nat.lt_of_lt_of_le (kB_lt _ _) (Nat.pow_le_pow_right (by decide) (by omega)))) ?_
          refine B_eq d_St_workAll_63 89 (by decide) (fun c4 => ?_) (fun c4 => ?_)
          · refine N_iinc_6_3_1 d_St_workAll_89 rfl rfl ?_
            refine P_goto d_St_workAll_92 9 (by decide) ?_
            exact ih _ (by omega) (i + 1) q mI2 _ _ (by omega) (hfold q (by unfold wkStep; rw [if_neg (fun z => c4 z.2.2)])) hS hW hRR hB hF rfl
          · refine g_iload_n d_St_workAll_66 rfl ?_
            refine N_iconst d_St_workAll_67 1 rfl ?_
            refine g_iload d_St_workAll_68 rfl ?_
            refine N_ishl d_St_workAll_70 (by omega) (p2_lt (by omega)) ?_
            refine N_ior d_St_workAll_71 ?_
            refine S_istore_n_6_2 d_St_workAll_72 rfl rfl ?_
            refine g_aload_n d_St_workAll_73 rfl ?_
            refine g_iload d_St_workAll_74 rfl ?_
            refine g_aload_n d_St_workAll_76 rfl ?_
            refine H_getR 33 d_St_workAll_77 f_St_27.g rfl hsl.1 (by decide) hsr.1 ?_
            refine H_getR 34 d_St_workAll_80 f_St_78 rfl rfl (by decide) rfl ?_
            refine g_iload d_St_workAll_83 rfl ?_
            refine H_ialdN d_St_workAll_85 rfl rfl (by omega) (by decide) ?_
            refine T_int (nI (tst T (aH q.1 p))) (hT2.2.2.1 _ hm).1 ?_
            refine C_V2 d_St_workAll_86 k_St_81 hsl.1 (Nat.le_of_ble_eq_true rfl) (by decide) (Nat.le_of_ble_eq_true rfl) ?_
            refine c_St_workAt ha hw hT2 hS hW hpP (by omega) (fun mI3 hS3 hF3 => ?_)
            refine N_iinc_6_3_1 d_St_workAll_89 rfl rfl ?_
            refine P_goto d_St_workAll_92 9 (by decide) ?_
            have hb2 : q.2 ||| 1 * 2 ^ aH q.1 p < 32 := Nat.or_lt_two_pow (n := 5) hB (by rw [Nat.one_mul]; exact Nat.pow_lt_pow_right (by decide) c2)
            exact ih _ (by omega) (i + 1) (wkAt T q.1 p (tst T (aH q.1 p)), q.2 ||| 1 * 2 ^ aH q.1 p) mI3 _ _ (by omega) (hfold _ (by unfold wkStep; rw [if_pos ⟨c2, by rw [← Bool.not_eq_true, tb_iff]; omega, c4⟩, Nat.one_mul])) hS3 (SV_wkAt hW _ _) (by rw [wkAt_R]; exact hRR) hb2 (hF.tr hF3) rfl

theorem c_St_workAll {X : CX} {dl : List (Nat × Nat)} {mI : Nat → Nat → Int32} {dr : Nat → Nat → Nat} {Q : Option Value → AH → Prop} {a : Nat} {T : TD} {σ : AS} (ha : StA a) (hw : TW T) (hT : TR 33 T mI) (hS : SC a T σ mI) (hW : SV T σ) (k : ∀ mI', SC a T (wkAll T σ) mI' → SV T (wkAll T σ) → Fa a mI mI' → Q none (hp X dl mI' dr)) : EW X m_St_workAll 0 (enL m_St_workAll.2.2.1 [.ref a]) [] (hp X dl mI dr) Q := by
  show EW X m_St_workAll 0 [.ref a, jk, jk, jk, jk, jk] [] (hp X dl mI dr) Q
  have hsl := st_lay ha X dl
  have hsr := st_ref ha dr
  have hw1 := hw.1
  have hw2 := hw.2.1
  refine g_aload_n d_St_workAll_0 rfl ?_
  refine H_getI d_St_workAll_1 f_St_46.g rfl hsl.1 (by decide) ?_
  refine T_int (nI (kB (aH σ) (tP T))) hS.2.1 ?_
  refine S_istore_n_6_1 d_St_workAll_4 rfl rfl ?_
  refine N_iconst d_St_workAll_5 0 rfl ?_
  refine S_istore_n_6_2 d_St_workAll_6 rfl rfl ?_
  refine N_iconst d_St_workAll_7 0 rfl ?_
  refine S_istore_n_6_3 d_St_workAll_8 rfl rfl ?_
  exact lp_St_workAll ha hw hT ⟨hW.1.1, hW.1.2.2⟩ k _ 0 (σ, 0) mI _ _ (Nat.zero_le _) rfl hS hW rfl (show (0 : Nat) < 32 by decide) Fa.rf rfl

