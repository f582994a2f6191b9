/-- two neighbours change places; one goes on to the end -/
def swp (l : List Nat) (i : Nat) : List Nat := (l.set i (l.getD (i + 1) 0)).set (i + 1) (l.getD i 0)
def mvE (l : List Nat) (j : Nat) : Nat → List Nat
  | 0 => l
  | n + 1 => swp (mvE l j n) (j + n)
def mvEnd (l : List Nat) (j : Nat) : List Nat := mvE l j (l.length - 1 - j)
theorem swp_len (l : List Nat) (i : Nat) : (swp l i).length = l.length := by simp [swp]
theorem mvE_len (l : List Nat) (j : Nat) : ∀ n, (mvE l j n).length = l.length
  | 0 => rfl
  | n + 1 => by rw [mvE, swp_len, mvE_len l j n]
theorem mvE_at (l : List Nat) (j : Nat) : ∀ n, j + n < l.length → (mvE l j n).getD (j + n) 0 = l.getD j 0
  | 0, _ => rfl
  | n + 1, h => by
    have ih := mvE_at l j n (by omega)
    have hl := mvE_len l j n
    rw [mvE, swp, ih]
    have : j + (n + 1) = j + n + 1 := by omega
    rw [this]
    rw [List.getD_eq_getElem?_getD, List.getElem?_set_self (by rw [List.length_set]; omega)]
    rfl
theorem lp_St_moveToEnd {X : CX} {dl : List (Nat × Nat)} {mI : Nat → Nat → Int32} {dr : Nat → Nat → Nat} {Q : Option Value → AH → Prop} {a : Nat} {T : TD} {σ : AS} {K j : Nat} (ha : StA a) (hw : TW T) (hT : TR 33 T mI) (hl : (aR σ).length = tP T) (hj : j < tP T) (k : ∀ mI', SR a T (uR σ (mvEnd (aR σ) j)) K mI' → Fa a mI mI' → Q none (hp X dl mI' dr)) : ∀ (d : Nat) (i : Nat) (n : Nat) (mI2 : Nat → Nat → Int32), (i ≤ tP T - 1) → (i = j + n) → (SR a T (uR σ (mvE (aR σ) j n)) K mI2) → (Fa a mI mI2) → tP T - i = d → EW X m_St_moveToEnd 20 [.ref a, .int (nI j), .int (nI ((aR σ).getD j 0)), .int (nI (tP T - 1)), .int (nI i)] [] (hp X dl mI2 dr) Q := by
  intro d
  induction d using Nat.strongRecOn with
  | _ d ih =>
    intro i n mI2 hi hn hS hF hd
    have hsl := st_lay ha X dl
    have hsr := st_ref ha dr
    have hw1 := hw.1
    have hw2 := hw.2.1
    refine g_iload d_St_moveToEnd_20 rfl ?_
    refine g_iload_n d_St_moveToEnd_22 rfl ?_
    refine N_icmp_ge d_St_moveToEnd_23 58 (by decide) ⟨by omega, by omega⟩ (fun c1 => ?_) (fun c1 => ?_)
    · refine P_vret d_St_moveToEnd_58 rfl (k mI2 ?_ hF)
      have e : n = (aR σ).length - 1 - j := by omega
      unfold mvEnd
      rw [← e]
      exact hS
    · refine g_aload_n d_St_moveToEnd_26 rfl ?_
      refine H_getR (a + 5) d_St_moveToEnd_27 f_St_24.g rfl hsl.1 (by decide) hsr.2.2.2.2.2 ?_
      refine g_iload d_St_moveToEnd_30 rfl ?_
      refine g_aload_n d_St_moveToEnd_32 rfl ?_
      refine H_getR (a + 5) d_St_moveToEnd_33 f_St_24.g rfl hsl.1 (by decide) hsr.2.2.2.2.2 ?_
      refine g_iload d_St_moveToEnd_36 rfl ?_
      refine N_iconst d_St_moveToEnd_38 1 rfl ?_
      refine N_iadd d_St_moveToEnd_39 ?_
      refine H_ialdN d_St_moveToEnd_40 hsl.2.2.2.2.2 rfl (by omega) (by decide) ?_
      refine T_int (nI ((mvE (aR σ) j n).getD (i + 1) 0)) (hS.2.2.2.2 (i + 1) (by omega)) ?_
      refine H_iastN d_St_moveToEnd_41 hsl.2.2.2.2.2 rfl (by omega) (by decide) ?_
      refine g_aload_n d_St_moveToEnd_42 rfl ?_
      refine H_getR (a + 5) d_St_moveToEnd_43 f_St_24.g rfl hsl.1 (by decide) hsr.2.2.2.2.2 ?_
      refine g_iload d_St_moveToEnd_46 rfl ?_
      refine N_iconst d_St_moveToEnd_48 1 rfl ?_
      refine N_iadd d_St_moveToEnd_49 ?_
      refine g_iload_n d_St_moveToEnd_50 rfl ?_
      refine H_iastN d_St_moveToEnd_51 hsl.2.2.2.2.2 rfl (by omega) (by decide) ?_
      refine N_iinc_5_4_1 d_St_moveToEnd_52 rfl rfl ?_
      refine P_goto d_St_moveToEnd_55 20 (by decide) ?_
      have hlen := mvE_len (aR σ) j n
      have h1 := hS.R i ((mvE (aR σ) j n).getD (i + 1) 0) (show i < (mvE (aR σ) j n).length by omega)
      have h2 := h1.R (i + 1) ((aR σ).getD j 0) (show i + 1 < ((mvE (aR σ) j n).set i ((mvE (aR σ) j n).getD (i + 1) 0)).length by simp; omega)
      refine ih _ (by omega) (i + 1) (n + 1) _ (by omega) (by omega) ?_ (Fa_sI (Fa_sI hF (by omega)) (by omega)) rfl
      have e : mvE (aR σ) j (n + 1) = ((mvE (aR σ) j n).set i ((mvE (aR σ) j n).getD (i + 1) 0)).set (i + 1) ((aR σ).getD j 0) := by
        rw [mvE, swp, mvE_at _ _ _ (by omega), hn]
      rw [e]
      exact h2

theorem c_St_moveToEnd {X : CX} {dl : List (Nat × Nat)} {mI : Nat → Nat → Int32} {dr : Nat → Nat → Nat} {Q : Option Value → AH → Prop} {a : Nat} {T : TD} {σ : AS} {K : Nat} {j : Nat} (ha : StA a) (hw : TW T) (hT : TR 33 T mI) (hS : SR a T σ K mI) (hl : (aR σ).length = tP T) (hj : j < tP T) (k : ∀ mI', SR a T (uR σ (mvEnd (aR σ) j)) K mI' → Fa a mI mI' → Q none (hp X dl mI' dr)) : EW X m_St_moveToEnd 0 (enL m_St_moveToEnd.2.2.1 [.ref a, .int (nI j)]) [] (hp X dl mI dr) Q := by
  show EW X m_St_moveToEnd 0 [.ref a, .int (nI j), jk, jk, jk] [] (hp X dl mI dr) Q
  have hsl := st_lay ha X dl
  have hsr := st_ref ha dr
  have hw1 := hw.1
  have hw2 := hw.2.1
  refine g_aload_n d_St_moveToEnd_0 rfl ?_
  refine H_getR (a + 5) d_St_moveToEnd_1 f_St_24.g rfl hsl.1 (by decide) hsr.2.2.2.2.2 ?_
  refine g_iload_n d_St_moveToEnd_4 rfl ?_
  refine H_ialdN d_St_moveToEnd_5 hsl.2.2.2.2.2 rfl (by omega) (by decide) ?_
  refine T_int (nI ((aR σ).getD j 0)) (hS.2.2.2.2 j hj) ?_
  refine S_istore_n_5_2 d_St_moveToEnd_6 rfl rfl ?_
  refine g_aload_n d_St_moveToEnd_7 rfl ?_
  refine H_getR 33 d_St_moveToEnd_8 f_St_27.g rfl hsl.1 (by decide) hsr.1 ?_
  refine H_getI d_St_moveToEnd_11 f_St_67.g rfl rfl (by decide) ?_
  refine T_int (nI (tP T)) hT.2.1 ?_
  refine N_iconst d_St_moveToEnd_14 1 rfl ?_
  refine N_isub d_St_moveToEnd_15 (by omega) ?_
  refine S_istore_n_5_3 d_St_moveToEnd_16 rfl rfl ?_
  refine g_iload_n d_St_moveToEnd_17 rfl ?_
  refine S_istore_5_4 d_St_moveToEnd_18 rfl rfl ?_
  exact lp_St_moveToEnd ha hw hT hl hj k _ j 0 mI (by omega) rfl hS Fa.rf rfl

/-- one step of leaving what m holds -/
def lvIt (T : TD) (m to : Nat) (q : AS × Nat) : AS × Nat :=
  if aH q.1 ((aR q.1).getD q.2 0) ≠ m then (q.1, q.2 + 1)
  else if tkd T ((aR q.1).getD q.2 0) = 3 then (uH q.1 ((aR q.1).getD q.2 0) 6, q.2 + 1)
  else (uH (uR q.1 (mvEnd (aR q.1) q.2)) ((aR q.1).getD q.2 0) to, q.2)
def lvN (T : TD) (m to : Nat) : Nat → AS × Nat → AS × Nat
  | 0, q => q
  | i + 1, q => lvIt T m to (lvN T m to i q)
def lvAll (T : TD) (σ : AS) (m : Nat) : AS := (lvN T m (toN T σ m) (tP T) (σ, 0)).1
theorem toN_le {T : TD} {σ : AS} {m : Nat} (hw : TW T) (hm : m < tn T) : toN T σ m ≤ 5 ∧ toN T σ m ≠ m ∧ (toN T σ m < 5 → toN T σ m < tn T ∧ 0 < aS σ (toN T σ m)) := by
  have h1 := (hw.2.2.1 m hm).2.2.2.2
  have h2 := hw.1
  unfold toN
  split
  · exact ⟨by omega, by omega, fun z => by omega⟩
  · rename_i j hj
    rw [hj] at h1
    split
    · rename_i hs
      exact ⟨by omega, by omega, fun _ => ⟨by omega, hs⟩⟩
    · exact ⟨by omega, by omega, fun z => by omega⟩
theorem swp_perm {l : List Nat} {i : Nat} (h : i + 1 < l.length) : (swp l i).Perm l := by
  have h1 : l = l.take i ++ (l[i] :: l[i + 1] :: l.drop (i + 2)) := by
    rw [List.getElem_cons_drop, List.getElem_cons_drop, List.take_append_drop]
  have h2 : swp l i = l.take i ++ (l[i + 1] :: l[i] :: l.drop (i + 2)) := by
    refine List.ext_getElem? (fun k => ?_)
    unfold swp
    have e1 : l.getD (i + 1) 0 = l[i + 1] := by simp [List.getD_eq_getElem?_getD, List.getElem?_eq_getElem h]
    have e2 : l.getD i 0 = l[i] := by simp [List.getD_eq_getElem?_getD, List.getElem?_eq_getElem (show i < l.length by omega)]
    rw [e1, e2]
    have hlt : (l.take i).length = i := by simp; omega
    rcases Nat.lt_trichotomy k i with hk | hk | hk
    · rw [List.getElem?_append_left (by omega), List.getElem?_set_ne (by omega), List.getElem?_set_ne (by omega), List.getElem?_take_of_lt hk]
    · subst hk
      rw [List.getElem?_append_right (by omega), List.getElem?_set_ne (by omega), List.getElem?_set_self (by omega), hlt, Nat.sub_self]
      rfl
    · rw [List.getElem?_append_right (by omega), hlt]
      by_cases hk2 : k = i + 1
      · subst hk2
        rw [List.getElem?_set_self (by simp; omega), show i + 1 - i = 1 by omega]
        rfl
      · rw [List.getElem?_set_ne (by omega), List.getElem?_set_ne (by omega), show k - i = (k - i - 2) + 2 by omega]
        simp only [List.getElem?_cons_succ, List.getElem?_drop]
        congr 1
        omega
  rw [h2]
  refine List.Perm.trans ?_ (List.Perm.of_eq h1.symm)
  exact List.Perm.append_left _ (List.Perm.swap _ _ _)
theorem mvE_perm {l : List Nat} {j : Nat} : ∀ n, j + n < l.length → (mvE l j n).Perm l
  | 0, _ => List.Perm.refl _
  | n + 1, h => by
    rw [mvE]
    exact (swp_perm (by rw [mvE_len]; omega)).trans (mvE_perm n (by omega))
theorem mvEnd_perm {l : List Nat} {j : Nat} (h : j < l.length) : (mvEnd l j).Perm l := mvE_perm _ (by omega)
theorem row_perm {l l' : List Nat} {P : Nat} (h : l.length = P ∧ l.Nodup ∧ ∀ p ∈ l, p < P) (hp : l'.Perm l) : l'.length = P ∧ l'.Nodup ∧ ∀ p ∈ l', p < P :=
  ⟨hp.length_eq.trans h.1, hp.nodup_iff.mpr h.2.1, fun p hm => h.2.2 p (hp.mem_iff.mp hm)⟩
theorem SV_lvIt {T : TD} {m to : Nat} {q : AS × Nat} (h : SV T q.1) (hto : to ≤ 5 ∧ (to < 5 → to < tn T)) (hq : q.2 < tP T) : SV T (lvIt T m to q).1 := by
  unfold lvIt
  have hpm : (aR q.1).getD q.2 0 ∈ aR q.1 := getD_mem (by rw [h.1.1]; exact hq)
  split
  · exact h
  · split
    · refine ⟨h.1, fun p hp => ?_, h.2.2⟩
      have h1 := h.2.1 p hp
      show va_up (aH q.1) _ 6 p ≤ 6 ∧ (va_up (aH q.1) _ 6 p < 5 → va_up (aH q.1) _ 6 p < tn T) ∧ _
      by_cases hpp : p = (aR q.1).getD q.2 0
      · rw [← hpp, va_up_s]; exact ⟨by omega, fun z => by omega, h1.2.2⟩
      · rw [va_up_n _ _ hpp]; exact h1
    · refine ⟨row_perm h.1 (mvEnd_perm (by rw [h.1.1]; exact hq)), fun p hp => ?_, h.2.2⟩
      have h1 := h.2.1 p hp
      show va_up (aH q.1) _ to p ≤ 6 ∧ (va_up (aH q.1) _ to p < 5 → va_up (aH q.1) _ to p < tn T) ∧ _
      by_cases hpp : p = (aR q.1).getD q.2 0
      · rw [← hpp, va_up_s]; exact ⟨by omega, hto.2, h1.2.2⟩
      · rw [va_up_n _ _ hpp]; exact h1
theorem lvIt_pl (T : TD) (m to : Nat) (q : AS × Nat) : (lvIt T m to q).2 ≤ q.2 + 1 := by
  unfold lvIt
  split
  · exact Nat.le_refl _
  · split
    · exact Nat.le_refl _
    · exact Nat.le_succ _
theorem ho_ne {c m : Nat} (hc : c ≤ 6) (hm : m < 6) : hoI c = nI m ↔ c = m := by
  rcases (show c = 0 ∨ c = 1 ∨ c = 2 ∨ c = 3 ∨ c = 4 ∨ c = 5 ∨ c = 6 by omega) with rfl | rfl | rfl | rfl | rfl | rfl | rfl <;> rcases (show m = 0 ∨ m = 1 ∨ m = 2 ∨ m = 3 ∨ m = 4 ∨ m = 5 by omega) with rfl | rfl | rfl | rfl | rfl | rfl <;> decide
theorem lp_St_leaveAll {X : CX} {dl : List (Nat × Nat)} {mI : Nat → Nat → Int32} {dr : Nat → Nat → Nat} {Q : Option Value → AH → Prop} {a : Nat} {T : TD} {σ : AS} {m to : Nat} (ha : StA a) (hw : TW T) (hT : TR 33 T mI) (hm : m < tn T) (hto : to ≤ 5 ∧ to ≠ m ∧ (to < 5 → to < tn T)) (k : ∀ mI', SC a T (lvN T m to (tP T) (σ, 0)).1 mI' → SV T (lvN T m to (tP T) (σ, 0)).1 → Fa a mI mI' → Q none (hp X dl mI' dr)) : ∀ (d : Nat) (i : Nat) (q : AS × Nat) (mI2 : Nat → Nat → Int32) (v5 : Value), (i ≤ tP T) → (q = lvN T m to i (σ, 0)) → (SC a T q.1 mI2) → (SV T q.1) → (q.2 ≤ i) → (Fa a mI mI2) → tP T - i = d → EW X m_St_leaveAll 11 [.ref a, .int (nI m), .int (nI to), .int (nI q.2), .int (nI i), v5] [] (hp X dl mI2 dr) Q := by
  intro d
  induction d using Nat.strongRecOn with
  | _ d ih =>
    intro i q mI2 v5 hi hq hS hW hpl hF hd
    have hsl := st_lay ha X dl
    have hsr := st_ref ha dr
    have hw1 := hw.1
    have hw2 := hw.2.1
    have hT2 := hT.fa ha hF
    refine g_iload d_St_leaveAll_11 rfl ?_
    refine g_aload_n d_St_leaveAll_13 rfl ?_
    refine H_getR 33 d_St_leaveAll_14 f_St_27.g rfl hsl.1 (by decide) hsr.1 ?_
    refine H_getI d_St_leaveAll_17 f_St_67.g rfl rfl (by decide) ?_
    refine T_int (nI (tP T)) hT2.2.1 ?_
    refine N_icmp_ge d_St_leaveAll_20 95 (by decide) ⟨by omega, by omega⟩ (fun c1 => ?_) (fun c1 => ?_)
    · refine P_vret d_St_leaveAll_95 rfl ?_
      have e : i = tP T := by omega
      rw [e] at hq
      rw [hq] at hS hW
      exact k mI2 hS hW hF
    · obtain ⟨p, hpd⟩ : ∃ p, p = (aR q.1).getD q.2 0 := ⟨_, rfl⟩
      have hpP : p < tP T := by rw [hpd]; exact hW.1.2.2 _ (getD_mem (by rw [hW.1.1]; omega))
      have hW1 := hW.2.1 p hpP
      have hnx : ∀ q', lvIt T m to q = q' → q' = lvN T m to (i + 1) (σ, 0) := fun q' e => by rw [lvN, ← hq, e]
      have hWn := SV_lvIt (m := m) hW ⟨hto.1, hto.2.2⟩ (show q.2 < tP T by omega)
      have hpn := lvIt_pl T m to q
      refine g_aload_n d_St_leaveAll_23 rfl ?_
      refine H_getR (a + 5) d_St_leaveAll_24 f_St_24.g rfl hsl.1 (by decide) hsr.2.2.2.2.2 ?_
      refine g_iload_n d_St_leaveAll_27 rfl ?_
      refine H_ialdN d_St_leaveAll_28 hsl.2.2.2.2.2 rfl (by omega) (by decide) ?_
      refine T_int (nI (p)) (by rw [hpd]; exact hS.2.2.2.2 q.2 (by omega)) ?_
      refine S_istore_6_5 d_St_leaveAll_29 rfl rfl ?_
      refine g_aload_n d_St_leaveAll_31 rfl ?_
      refine H_getR (a + 4) d_St_leaveAll_32 f_St_21.g rfl hsl.1 (by decide) hsr.2.2.2.2.1 ?_
      refine g_iload d_St_leaveAll_35 rfl ?_
      refine H_ialdN d_St_leaveAll_37 hsl.2.2.2.2.1 rfl (by omega) (by decide) ?_
      refine T_int (hoI (aH q.1 p)) (hS.2.2.2.1 p hpP).2.2 ?_
      refine g_iload_n d_St_leaveAll_38 rfl ?_
      refine P_icmp_eq d_St_leaveAll_39 48 (by decide) (fun c2 => ?_) (fun c2 => ?_)
      · rw [ho_ne hW1.1 (by omega)] at c2
        refine g_aload_n d_St_leaveAll_48 rfl ?_
        refine H_getR 33 d_St_leaveAll_49 f_St_27.g rfl hsl.1 (by decide) hsr.1 ?_
        refine H_getR 37 d_St_leaveAll_52 f_St_49 rfl rfl (by decide) rfl ?_
        refine g_iload d_St_leaveAll_55 rfl ?_
        refine H_ialdN d_St_leaveAll_57 rfl rfl (by omega) (by decide) ?_
        refine T_int (nI (tkd T p)) (hT2.2.2.2 p hpP).1 ?_
        refine C_S1 d_St_leaveAll_58 k_St_103 (Nat.le_of_ble_eq_true rfl) (by decide) (Nat.le_of_ble_eq_true rfl) ?_
        refine (c_Kd_isKeptByDeath (hw.2.2.2 p hpP).1) ?_
        refine B_eq d_St_leaveAll_61 76 (by decide) (fun c3 => ?_) (fun c3 => ?_)
        · refine g_aload_n d_St_leaveAll_76 rfl ?_
          refine g_iload_n d_St_leaveAll_77 rfl ?_
          refine C_V1 d_St_leaveAll_78 k_St_106 hsl.1 (Nat.le_of_ble_eq_true rfl) (by decide) (Nat.le_of_ble_eq_true rfl) ?_
          refine c_St_moveToEnd ha hw hT2 hS hW.1.1 (by omega) (fun mI3 hS3 hF3 => ?_)
          refine g_aload_n d_St_leaveAll_81 rfl ?_
          refine H_getR (a + 4) d_St_leaveAll_82 f_St_21.g rfl hsl.1 (by decide) hsr.2.2.2.2.1 ?_
          refine g_iload d_St_leaveAll_85 rfl ?_
          refine g_iload_n d_St_leaveAll_87 rfl ?_
          refine H_iastN d_St_leaveAll_88 hsl.2.2.2.2.1 rfl (by omega) (by decide) ?_
          refine N_iinc_6_4_1 d_St_leaveAll_89 rfl rfl ?_
          refine P_goto d_St_leaveAll_92 11 (by decide) ?_
          have e : lvIt T m to q = (uH (uR q.1 (mvEnd (aR q.1) q.2)) p to, q.2) := by unfold lvIt; rw [← hpd, if_neg (fun z => z c2), if_neg c3]
          rw [e] at hWn
          refine ih _ (by omega) (i + 1) (uH (uR q.1 (mvEnd (aR q.1) q.2)) p to, q.2) _ _ (by omega) (hnx _ e) ?_ hWn (show q.2 ≤ i + 1 by omega) (Fa_sI (hF.tr hF3) (by omega)) rfl
          have h5 := hS3.H p to
          rw [hoI_5 (by omega)] at h5
          have e2 : kB (aH (uH (uR q.1 (mvEnd (aR q.1) q.2)) p to)) (tP T) = kB (aH q.1) (tP T) := kB_same _ _ _ (fun r _ => by
            show va_up (aH q.1) p to r = 6 ↔ _
            by_cases hr : r = p
            · rw [hr, va_up_s]; omega
            · rw [va_up_n _ _ hr])
          unfold SC
          rw [e2]
          exact h5
        · refine g_aload_n d_St_leaveAll_64 rfl ?_
          refine g_iload d_St_leaveAll_65 rfl ?_
          refine C_V1 d_St_leaveAll_67 k_St_89 hsl.1 (Nat.le_of_ble_eq_true rfl) (by decide) (Nat.le_of_ble_eq_true rfl) ?_
          refine c_St_markKept ha hw hT2 hS hpP (fun mI3 hS3 hF3 => ?_)
          refine N_iinc_6_3_1 d_St_leaveAll_70 rfl rfl ?_
          refine P_goto d_St_leaveAll_73 89 (by decide) ?_
          refine N_iinc_6_4_1 d_St_leaveAll_89 rfl rfl ?_
          refine P_goto d_St_leaveAll_92 11 (by decide) ?_
          have e : lvIt T m to q = (uH q.1 p 6, q.2 + 1) := by unfold lvIt; rw [← hpd, if_neg (fun z => z c2), if_pos c3]
          rw [e] at hWn
          refine ih _ (by omega) (i + 1) (uH q.1 p 6, q.2 + 1) mI3 _ (by omega) (hnx _ e) ?_ hWn (show q.2 + 1 ≤ i + 1 by omega) (hF.tr hF3) rfl
          have e2 : kB (aH (uH q.1 p 6)) (tP T) = kB (aH q.1) (tP T) ||| 2 ^ p := kB_up _ _ _ hpP
          unfold SC
          rw [e2]
          exact hS3
      · rw [ho_ne hW1.1 (by omega)] at c2
        refine N_iinc_6_3_1 d_St_leaveAll_42 rfl rfl ?_
        refine P_goto d_St_leaveAll_45 89 (by decide) ?_
        refine N_iinc_6_4_1 d_St_leaveAll_89 rfl rfl ?_
        refine P_goto d_St_leaveAll_92 11 (by decide) ?_
        have e : lvIt T m to q = (q.1, q.2 + 1) := by unfold lvIt; rw [← hpd, if_pos c2]
        rw [e] at hWn
        exact ih _ (by omega) (i + 1) (q.1, q.2 + 1) mI2 _ (by omega) (hnx _ e) hS hWn (show q.2 + 1 ≤ i + 1 by omega) hF rfl

theorem c_St_leaveAll {X : CX} {dl : List (Nat × Nat)} {mI : Nat → Nat → Int32} {dr : Nat → Nat → Nat} {Q : Option Value → AH → Prop} {a : Nat} {T : TD} {σ : AS} {m : Nat} (ha : StA a) (hw : TW T) (hT : TR 33 T mI) (hS : SC a T σ mI) (hW : SV T σ) (hm : m < tn T) (k : ∀ mI', SC a T (lvAll T σ m) mI' → SV T (lvAll T σ m) → Fa a mI mI' → Q none (hp X dl mI' dr)) : EW X m_St_leaveAll 0 (enL m_St_leaveAll.2.2.1 [.ref a, .int (nI m)]) [] (hp X dl mI dr) Q := by
  show EW X m_St_leaveAll 0 [.ref a, .int (nI m), jk, jk, jk, jk] [] (hp X dl mI dr) Q
  have hsl := st_lay ha X dl
  have hsr := st_ref ha dr
  have hw1 := hw.1
  have hw2 := hw.2.1
  have hto := toN_le (σ := σ) hw hm
  refine g_aload_n d_St_leaveAll_0 rfl ?_
  refine g_iload_n d_St_leaveAll_1 rfl ?_
  refine C_V1 d_St_leaveAll_2 k_St_99 hsl.1 (Nat.le_of_ble_eq_true rfl) (by decide) (Nat.le_of_ble_eq_true rfl) ?_
  refine (c_St_whoInherits ha hw hT hS hW hm) ?_
  refine S_istore_n_6_2 d_St_leaveAll_5 rfl rfl ?_
  refine N_iconst d_St_leaveAll_6 0 rfl ?_
  refine S_istore_n_6_3 d_St_leaveAll_7 rfl rfl ?_
  refine N_iconst d_St_leaveAll_8 0 rfl ?_
  refine S_istore_6_4 d_St_leaveAll_9 rfl rfl ?_
  exact lp_St_leaveAll ha hw hT hm ⟨hto.1, hto.2.1, fun z => (hto.2.2 z).1⟩ k _ 0 (σ, 0) mI _ (Nat.zero_le _) rfl hS hW (Nat.le_refl _) Fa.rf rfl

